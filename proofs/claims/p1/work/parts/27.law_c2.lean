set_option maxHeartbeats 4000000 in
set_option maxRecDepth 100000 in
theorem law_c16 {p : Program} {e : Env} {s : State} {m : MethodId} {below : List Frame} {meth : Method} {c : Code} (l : Launch) {b : Nat} {xs : Nat → Int32} {dC : Nat → ClassId} {dI : Nat → Nat → Nat} (x : Nat) (a : Nat → Nat) (cy : Nat → ClassId) (y : Nat) (b2 : Nat → Nat) (cz : Nat → ClassId) {H : Heap} {locs : List Loc} {ls : Array Slot} (C0 : lw_At p s m meth c b 7 xs) (hE : ext s) (hts : ∀ w ∈ gT, w.before #[Value.ref b] s = true) (hK : va_K (dC, dI) vwCl (lT cy cz) s) (hP : va_P (dC, dI) vwCl (lW x a cy y b2 cz) H) (hD : va_D (fun q : Nat => s.heap.size ≤ q) (lW x a cy y b2 cz)) (hS : va_S (fun q : Nat => s.heap.size ≤ q) s.heap H locs) (hl : lv_has ls 4 [(3, .int 0), (2, .ref y), (1, .ref x), (0, .ref b)]) : W p l e room_1 s m #[Value.ref b] below meth c H locs 74 405288 (lw_Z below #[Value.ref b] s) (F0 m 788 ls []) := by
  have C1 := C0
  obtain ⟨hx, hb, hr, hml, hown, hts0, hX, hbl, hlocks, hgv⟩ := C1
  have hA : ∀ q : Nat, s.heap.size ≤ q → (fun q : Nat => s.heap.size ≤ q) q := fun _ h => h
  have hbA : ¬ (fun q : Nat => s.heap.size ≤ q) b := Nat.not_le.mpr hbl
  refine lv_aload_n hx hb dL_law_788 rfl (lv_at hl 2 rfl) ?_
  refine lv_aload_n hx hb dL_law_789 rfl (lv_at hl 3 rfl) ?_
  refine lv_iload_n hx hb dL_law_790 rfl (lv_at hl 0 rfl) ?_
  refine lv_iconst (v := 1) hx hb dL_law_791 (by decide) ?_
  refine lv_iadd hx hb dL_law_792 ?_
  refine lv_topi (fun y_ e_ => ?_)
  obtain rfl : y_ = 1 := e_.trans (by decide)
  refine va_sld hx hb hX hbl hbA hS (by unfold vp_in; decide) dL_law_793 ?_
  refine lv_aload_n hx hb dL_law_794 rfl (lv_at hl 3 rfl) ?_
  refine lv_iload_n hx hb dL_law_795 rfl (lv_at hl 0 rfl) ?_
  refine lv_iconst (v := 2) hx hb dL_law_796 (by decide) ?_
  refine lv_iadd hx hb dL_law_797 ?_
  refine lv_topi (fun y_ e_ => ?_)
  obtain rfl : y_ = 2 := e_.trans (by decide)
  refine va_sld hx hb hX hbl hbA hS (by unfold vp_in; decide) dL_law_798 ?_
  refine lv_aload_n hx hb dL_law_799 rfl (lv_at hl 3 rfl) ?_
  refine lv_iload_n hx hb dL_law_800 rfl (lv_at hl 0 rfl) ?_
  refine lv_iconst (v := 3) hx hb dL_law_801 (by decide) ?_
  refine lv_iadd hx hb dL_law_802 ?_
  refine lv_topi (fun y_ e_ => ?_)
  obtain rfl : y_ = 3 := e_.trans (by decide)
  refine va_sld hx hb hX hbl hbA hS (by unfold vp_in; decide) dL_law_803 ?_
  have hPc := hP.sub (ws' := [(x, .inr (10, (kO a)))]) [0] rfl
  have hKc := hK.sub (tys' := []) [] rfl
  refine pc_i (va_runV (As := [.int (xs (1 : Int32).toNatClampNeg), .int (xs (2 : Int32).toNatClampNeg), .int (xs (3 : Int32).toNatClampNeg)]) (rest := []) ⟨hx, hb, hml, hown, hts⟩ (k_dip l dC dI x a cy (xs (1 : Int32).toNatClampNeg) (xs (2 : Int32).toNatClampNeg) (xs (3 : Int32).toNatClampNeg)) (⟨callB_of 3 hts (gd mw_588) rfl rfl rfl (hts _ mw_1) (hts _ mw_585) ds_X10_dip ⟨Nat.le_of_ble_eq_true rfl, Nat.le_of_ble_eq_true rfl⟩, (hts _ mw_586), (hts _ mw_587)⟩) (pu_V hPc hKc hE (va_recv hKc hPc (ci := 10) (q0 := 0) rfl rfl)) rfl rfl hl.1 rfl (lv_room (Nat.le_of_ble_eq_true rfl)) dL_law_804 ⟨Nat.le_of_ble_eq_true rfl, Nat.le_of_ble_eq_true rfl⟩) (fun r_ hw_ => ?_)
  obtain rfl : r_ = (-1) := hw_
  refine lv_aload_n hx hb dL_law_807 rfl (lv_at hl 1 rfl) ?_
  refine lv_aload_n hx hb dL_law_808 rfl (lv_at hl 3 rfl) ?_
  refine lv_iload_n hx hb dL_law_809 rfl (lv_at hl 0 rfl) ?_
  refine lv_iconst (v := 1) hx hb dL_law_810 (by decide) ?_
  refine lv_iadd hx hb dL_law_811 ?_
  refine lv_topi (fun y_ e_ => ?_)
  obtain rfl : y_ = 1 := e_.trans (by decide)
  refine va_sld hx hb hX hbl hbA hS (by unfold vp_in; decide) dL_law_812 ?_
  refine lv_aload_n hx hb dL_law_813 rfl (lv_at hl 3 rfl) ?_
  refine lv_iload_n hx hb dL_law_814 rfl (lv_at hl 0 rfl) ?_
  refine lv_iconst (v := 2) hx hb dL_law_815 (by decide) ?_
  refine lv_iadd hx hb dL_law_816 ?_
  refine lv_topi (fun y_ e_ => ?_)
  obtain rfl : y_ = 2 := e_.trans (by decide)
  refine va_sld hx hb hX hbl hbA hS (by unfold vp_in; decide) dL_law_817 ?_
  refine lv_aload_n hx hb dL_law_818 rfl (lv_at hl 3 rfl) ?_
  refine lv_iload_n hx hb dL_law_819 rfl (lv_at hl 0 rfl) ?_
  refine lv_iconst (v := 3) hx hb dL_law_820 (by decide) ?_
  refine lv_iadd hx hb dL_law_821 ?_
  refine lv_topi (fun y_ e_ => ?_)
  obtain rfl : y_ = 3 := e_.trans (by decide)
  refine va_sld hx hb hX hbl hbA hS (by unfold vp_in; decide) dL_law_822 ?_
  have hPc := hP.sub (ws' := [(y, .inr (11, (mO b2)))]) [28] rfl
  have hKc := hK.sub (tys' := []) [] rfl
  refine pc_i (va_runV (As := [.int (xs (1 : Int32).toNatClampNeg), .int (xs (2 : Int32).toNatClampNeg), .int (xs (3 : Int32).toNatClampNeg)]) (rest := [.int (-1)]) ⟨hx, hb, hml, hown, hts⟩ (m_dip l dC dI y b2 cz (xs (1 : Int32).toNatClampNeg) (xs (2 : Int32).toNatClampNeg) (xs (3 : Int32).toNatClampNeg)) (⟨callB_of 3 hts (gd mw_1148) rfl rfl rfl (hts _ mw_8) (hts _ mw_1145) ds_X11_dip ⟨Nat.le_of_ble_eq_true rfl, Nat.le_of_ble_eq_true rfl⟩, (hts _ mw_1146), (hts _ mw_1147)⟩) (pu_V hPc hKc hE (va_recv hKc hPc (ci := 11) (q0 := 0) rfl rfl)) rfl rfl hl.1 rfl (lv_room (Nat.le_of_ble_eq_true rfl)) dL_law_823 ⟨Nat.le_of_ble_eq_true rfl, Nat.le_of_ble_eq_true rfl⟩) (fun r_ hw_ => ?_)
  obtain rfl : r_ = (-1) := hw_
  refine lv_icmp_eq (tgt := 1319) hx hb dL_law_826 (by decide) (fun c_ => ?_) (fun c_ => absurd c_ (by decide))
  exact law_end l (Nat.le_refl 7) C0 (Nat.le_of_ble_eq_true rfl) (Nat.le_of_ble_eq_true rfl) hS (lv_sub hl [0, 3] rfl)

set_option maxHeartbeats 4000000 in
set_option maxRecDepth 100000 in
theorem law_c17 {p : Program} {e : Env} {s : State} {m : MethodId} {below : List Frame} {meth : Method} {c : Code} (l : Launch) {b : Nat} {xs : Nat → Int32} {dC : Nat → ClassId} {dI : Nat → Nat → Nat} (x : Nat) (a : Nat → Nat) (cy : Nat → ClassId) (y : Nat) (b2 : Nat → Nat) (cz : Nat → ClassId) {H : Heap} {locs : List Loc} {ls : Array Slot} (C0 : lw_At p s m meth c b 7 xs) (hE : ext s) (hts : ∀ w ∈ gT, w.before #[Value.ref b] s = true) (hK : va_K (dC, dI) vwCl (lT cy cz) s) (hP : va_P (dC, dI) vwCl (lW x a cy y b2 cz) H) (hD : va_D (fun q : Nat => s.heap.size ≤ q) (lW x a cy y b2 cz)) (hS : va_S (fun q : Nat => s.heap.size ≤ q) s.heap H locs) (hl : lv_has ls 4 [(3, .int 0), (2, .ref y), (1, .ref x), (0, .ref b)]) : W p l e room_1 s m #[Value.ref b] below meth c H locs 74 405288 (lw_Z below #[Value.ref b] s) (F0 m 831 ls []) := by
  have C1 := C0
  obtain ⟨hx, hb, hr, hml, hown, hts0, hX, hbl, hlocks, hgv⟩ := C1
  have hA : ∀ q : Nat, s.heap.size ≤ q → (fun q : Nat => s.heap.size ≤ q) q := fun _ h => h
  have hbA : ¬ (fun q : Nat => s.heap.size ≤ q) b := Nat.not_le.mpr hbl
  refine lv_aload_n hx hb dL_law_831 rfl (lv_at hl 2 rfl) ?_
  refine lv_aload_n hx hb dL_law_832 rfl (lv_at hl 3 rfl) ?_
  refine lv_iload_n hx hb dL_law_833 rfl (lv_at hl 0 rfl) ?_
  refine lv_iconst (v := 1) hx hb dL_law_834 (by decide) ?_
  refine lv_iadd hx hb dL_law_835 ?_
  refine lv_topi (fun y_ e_ => ?_)
  obtain rfl : y_ = 1 := e_.trans (by decide)
  refine va_sld hx hb hX hbl hbA hS (by unfold vp_in; decide) dL_law_836 ?_
  refine lv_aload_n hx hb dL_law_837 rfl (lv_at hl 3 rfl) ?_
  refine lv_iload_n hx hb dL_law_838 rfl (lv_at hl 0 rfl) ?_
  refine lv_iconst (v := 2) hx hb dL_law_839 (by decide) ?_
  refine lv_iadd hx hb dL_law_840 ?_
  refine lv_topi (fun y_ e_ => ?_)
  obtain rfl : y_ = 2 := e_.trans (by decide)
  refine va_sld hx hb hX hbl hbA hS (by unfold vp_in; decide) dL_law_841 ?_
  refine lv_aload_n hx hb dL_law_842 rfl (lv_at hl 3 rfl) ?_
  refine lv_iload_n hx hb dL_law_843 rfl (lv_at hl 0 rfl) ?_
  refine lv_iconst (v := 3) hx hb dL_law_844 (by decide) ?_
  refine lv_iadd hx hb dL_law_845 ?_
  refine lv_topi (fun y_ e_ => ?_)
  obtain rfl : y_ = 3 := e_.trans (by decide)
  refine va_sld hx hb hX hbl hbA hS (by unfold vp_in; decide) dL_law_846 ?_
  have hPc := hP.sub (ws' := [(x, .inr (10, (kO a)))]) [0] rfl
  have hKc := hK.sub (tys' := []) [] rfl
  refine pc_i (va_runV (As := [.int (xs (1 : Int32).toNatClampNeg), .int (xs (2 : Int32).toNatClampNeg), .int (xs (3 : Int32).toNatClampNeg)]) (rest := []) ⟨hx, hb, hml, hown, hts⟩ (k_place l dC dI x a cy (xs (1 : Int32).toNatClampNeg) (xs (2 : Int32).toNatClampNeg) (xs (3 : Int32).toNatClampNeg)) (⟨callB_of 3 hts (gd mw_600) rfl rfl rfl (hts _ mw_1) (hts _ mw_597) ds_X10_place ⟨Nat.le_of_ble_eq_true rfl, Nat.le_of_ble_eq_true rfl⟩, (hts _ mw_598), (hts _ mw_599)⟩) (pu_V hPc hKc hE (va_recv hKc hPc (ci := 10) (q0 := 0) rfl rfl)) rfl rfl hl.1 rfl (lv_room (Nat.le_of_ble_eq_true rfl)) dL_law_847 ⟨Nat.le_of_ble_eq_true rfl, Nat.le_of_ble_eq_true rfl⟩) (fun r_ hw_ => ?_)
  obtain rfl : r_ = 0 := hw_
  refine lv_aload_n hx hb dL_law_850 rfl (lv_at hl 1 rfl) ?_
  refine lv_aload_n hx hb dL_law_851 rfl (lv_at hl 3 rfl) ?_
  refine lv_iload_n hx hb dL_law_852 rfl (lv_at hl 0 rfl) ?_
  refine lv_iconst (v := 1) hx hb dL_law_853 (by decide) ?_
  refine lv_iadd hx hb dL_law_854 ?_
  refine lv_topi (fun y_ e_ => ?_)
  obtain rfl : y_ = 1 := e_.trans (by decide)
  refine va_sld hx hb hX hbl hbA hS (by unfold vp_in; decide) dL_law_855 ?_
  refine lv_aload_n hx hb dL_law_856 rfl (lv_at hl 3 rfl) ?_
  refine lv_iload_n hx hb dL_law_857 rfl (lv_at hl 0 rfl) ?_
  refine lv_iconst (v := 2) hx hb dL_law_858 (by decide) ?_
  refine lv_iadd hx hb dL_law_859 ?_
  refine lv_topi (fun y_ e_ => ?_)
  obtain rfl : y_ = 2 := e_.trans (by decide)
  refine va_sld hx hb hX hbl hbA hS (by unfold vp_in; decide) dL_law_860 ?_
  refine lv_aload_n hx hb dL_law_861 rfl (lv_at hl 3 rfl) ?_
  refine lv_iload_n hx hb dL_law_862 rfl (lv_at hl 0 rfl) ?_
  refine lv_iconst (v := 3) hx hb dL_law_863 (by decide) ?_
  refine lv_iadd hx hb dL_law_864 ?_
  refine lv_topi (fun y_ e_ => ?_)
  obtain rfl : y_ = 3 := e_.trans (by decide)
  refine va_sld hx hb hX hbl hbA hS (by unfold vp_in; decide) dL_law_865 ?_
  have hPc := hP.sub (ws' := [(y, .inr (11, (mO b2)))]) [28] rfl
  have hKc := hK.sub (tys' := []) [] rfl
  refine pc_i (va_runV (As := [.int (xs (1 : Int32).toNatClampNeg), .int (xs (2 : Int32).toNatClampNeg), .int (xs (3 : Int32).toNatClampNeg)]) (rest := [.int 0]) ⟨hx, hb, hml, hown, hts⟩ (m_place l dC dI y b2 cz (xs (1 : Int32).toNatClampNeg) (xs (2 : Int32).toNatClampNeg) (xs (3 : Int32).toNatClampNeg)) (⟨callB_of 3 hts (gd mw_1156) rfl rfl rfl (hts _ mw_8) (hts _ mw_1153) ds_X11_place ⟨Nat.le_of_ble_eq_true rfl, Nat.le_of_ble_eq_true rfl⟩, (hts _ mw_1154), (hts _ mw_1155)⟩) (pu_V hPc hKc hE (va_recv hKc hPc (ci := 11) (q0 := 0) rfl rfl)) rfl rfl hl.1 rfl (lv_room (Nat.le_of_ble_eq_true rfl)) dL_law_866 ⟨Nat.le_of_ble_eq_true rfl, Nat.le_of_ble_eq_true rfl⟩) (fun r_ hw_ => ?_)
  obtain rfl : r_ = 0 := hw_
  refine lv_icmp_eq (tgt := 1319) hx hb dL_law_869 (by decide) (fun c_ => ?_) (fun c_ => absurd c_ (by decide))
  exact law_end l (Nat.le_refl 7) C0 (Nat.le_of_ble_eq_true rfl) (Nat.le_of_ble_eq_true rfl) hS (lv_sub hl [0, 3] rfl)

set_option maxHeartbeats 4000000 in
set_option maxRecDepth 100000 in
theorem law_c18 {p : Program} {e : Env} {s : State} {m : MethodId} {below : List Frame} {meth : Method} {c : Code} (l : Launch) {b : Nat} {xs : Nat → Int32} {dC : Nat → ClassId} {dI : Nat → Nat → Nat} (x : Nat) (a : Nat → Nat) (cy : Nat → ClassId) (y : Nat) (b2 : Nat → Nat) (cz : Nat → ClassId) {H : Heap} {locs : List Loc} {ls : Array Slot} (C0 : lw_At p s m meth c b 7 xs) (hE : ext s) (hts : ∀ w ∈ gT, w.before #[Value.ref b] s = true) (hK : va_K (dC, dI) vwCl (lT cy cz) s) (hP : va_P (dC, dI) vwCl (lW x a cy y b2 cz) H) (hD : va_D (fun q : Nat => s.heap.size ≤ q) (lW x a cy y b2 cz)) (hS : va_S (fun q : Nat => s.heap.size ≤ q) s.heap H locs) (hl : lv_has ls 4 [(3, .int 0), (2, .ref y), (1, .ref x), (0, .ref b)]) : W p l e room_1 s m #[Value.ref b] below meth c H locs 74 405288 (lw_Z below #[Value.ref b] s) (F0 m 874 ls []) := by
  have C1 := C0
  obtain ⟨hx, hb, hr, hml, hown, hts0, hX, hbl, hlocks, hgv⟩ := C1
  have hA : ∀ q : Nat, s.heap.size ≤ q → (fun q : Nat => s.heap.size ≤ q) q := fun _ h => h
  have hbA : ¬ (fun q : Nat => s.heap.size ≤ q) b := Nat.not_le.mpr hbl
  refine lv_aload_n hx hb dL_law_874 rfl (lv_at hl 2 rfl) ?_
  refine lv_aload_n hx hb dL_law_875 rfl (lv_at hl 3 rfl) ?_
  refine lv_iload_n hx hb dL_law_876 rfl (lv_at hl 0 rfl) ?_
  refine lv_iconst (v := 1) hx hb dL_law_877 (by decide) ?_
  refine lv_iadd hx hb dL_law_878 ?_
  refine lv_topi (fun y_ e_ => ?_)
  obtain rfl : y_ = 1 := e_.trans (by decide)
  refine va_sld hx hb hX hbl hbA hS (by unfold vp_in; decide) dL_law_879 ?_
  have hPc := hP.sub (ws' := [(x, .inr (10, (kO a)))]) [0] rfl
  have hKc := hK.sub (tys' := []) [] rfl
  refine pc_i (va_runV (As := [.int (xs (1 : Int32).toNatClampNeg)]) (rest := []) ⟨hx, hb, hml, hown, hts⟩ (k_take l dC dI x a cy (xs (1 : Int32).toNatClampNeg)) (⟨callB_of 1 hts (gd mw_611) rfl rfl rfl (hts _ mw_1) (hts _ mw_608) ds_X10_take ⟨Nat.le_of_ble_eq_true rfl, Nat.le_of_ble_eq_true rfl⟩, (hts _ mw_609), (hts _ mw_610)⟩) (pu_V hPc hKc hE (va_recv hKc hPc (ci := 10) (q0 := 0) rfl rfl)) rfl rfl hl.1 rfl (lv_room (Nat.le_of_ble_eq_true rfl)) dL_law_880 ⟨Nat.le_of_ble_eq_true rfl, Nat.le_of_ble_eq_true rfl⟩) (fun r_ hw_ => ?_)
  obtain rfl : r_ = 0 := hw_
  refine lv_aload_n hx hb dL_law_883 rfl (lv_at hl 1 rfl) ?_
  refine lv_aload_n hx hb dL_law_884 rfl (lv_at hl 3 rfl) ?_
  refine lv_iload_n hx hb dL_law_885 rfl (lv_at hl 0 rfl) ?_
  refine lv_iconst (v := 1) hx hb dL_law_886 (by decide) ?_
  refine lv_iadd hx hb dL_law_887 ?_
  refine lv_topi (fun y_ e_ => ?_)
  obtain rfl : y_ = 1 := e_.trans (by decide)
  refine va_sld hx hb hX hbl hbA hS (by unfold vp_in; decide) dL_law_888 ?_
  have hPc := hP.sub (ws' := [(y, .inr (11, (mO b2)))]) [28] rfl
  have hKc := hK.sub (tys' := []) [] rfl
  refine pc_i (va_runV (As := [.int (xs (1 : Int32).toNatClampNeg)]) (rest := [.int 0]) ⟨hx, hb, hml, hown, hts⟩ (m_take l dC dI y b2 cz (xs (1 : Int32).toNatClampNeg)) (⟨callB_of 1 hts (gd mw_1164) rfl rfl rfl (hts _ mw_8) (hts _ mw_1161) ds_X11_take ⟨Nat.le_of_ble_eq_true rfl, Nat.le_of_ble_eq_true rfl⟩, (hts _ mw_1162), (hts _ mw_1163)⟩) (pu_V hPc hKc hE (va_recv hKc hPc (ci := 11) (q0 := 0) rfl rfl)) rfl rfl hl.1 rfl (lv_room (Nat.le_of_ble_eq_true rfl)) dL_law_889 ⟨Nat.le_of_ble_eq_true rfl, Nat.le_of_ble_eq_true rfl⟩) (fun r_ hw_ => ?_)
  obtain rfl : r_ = 0 := hw_
  refine lv_icmp_eq (tgt := 1319) hx hb dL_law_892 (by decide) (fun c_ => ?_) (fun c_ => absurd c_ (by decide))
  exact law_end l (Nat.le_refl 7) C0 (Nat.le_of_ble_eq_true rfl) (Nat.le_of_ble_eq_true rfl) hS (lv_sub hl [0, 3] rfl)

set_option maxHeartbeats 4000000 in
set_option maxRecDepth 100000 in
theorem law_c19 {p : Program} {e : Env} {s : State} {m : MethodId} {below : List Frame} {meth : Method} {c : Code} (l : Launch) {b : Nat} {xs : Nat → Int32} {dC : Nat → ClassId} {dI : Nat → Nat → Nat} (x : Nat) (a : Nat → Nat) (cy : Nat → ClassId) (y : Nat) (b2 : Nat → Nat) (cz : Nat → ClassId) {H : Heap} {locs : List Loc} {ls : Array Slot} (C0 : lw_At p s m meth c b 7 xs) (hE : ext s) (hts : ∀ w ∈ gT, w.before #[Value.ref b] s = true) (hK : va_K (dC, dI) vwCl (lT cy cz) s) (hP : va_P (dC, dI) vwCl (lW x a cy y b2 cz) H) (hD : va_D (fun q : Nat => s.heap.size ≤ q) (lW x a cy y b2 cz)) (hS : va_S (fun q : Nat => s.heap.size ≤ q) s.heap H locs) (hl : lv_has ls 4 [(3, .int 0), (2, .ref y), (1, .ref x), (0, .ref b)]) : W p l e room_1 s m #[Value.ref b] below meth c H locs 74 405288 (lw_Z below #[Value.ref b] s) (F0 m 897 ls []) := by
  have C1 := C0
  obtain ⟨hx, hb, hr, hml, hown, hts0, hX, hbl, hlocks, hgv⟩ := C1
  have hA : ∀ q : Nat, s.heap.size ≤ q → (fun q : Nat => s.heap.size ≤ q) q := fun _ h => h
  have hbA : ¬ (fun q : Nat => s.heap.size ≤ q) b := Nat.not_le.mpr hbl
  refine lv_aload_n hx hb dL_law_897 rfl (lv_at hl 2 rfl) ?_
  refine lv_aload_n hx hb dL_law_898 rfl (lv_at hl 3 rfl) ?_
  refine lv_iload_n hx hb dL_law_899 rfl (lv_at hl 0 rfl) ?_
  refine lv_iconst (v := 1) hx hb dL_law_900 (by decide) ?_
  refine lv_iadd hx hb dL_law_901 ?_
  refine lv_topi (fun y_ e_ => ?_)
  obtain rfl : y_ = 1 := e_.trans (by decide)
  refine va_sld hx hb hX hbl hbA hS (by unfold vp_in; decide) dL_law_902 ?_
  have hPc := hP.sub (ws' := [(x, .inr (10, (kO a)))]) [0] rfl
  have hKc := hK.sub (tys' := []) [] rfl
  refine pc_i (va_runV (As := [.int (xs (1 : Int32).toNatClampNeg)]) (rest := []) ⟨hx, hb, hml, hown, hts⟩ (k_allow l dC dI x a cy (xs (1 : Int32).toNatClampNeg)) (⟨callB_of 1 hts (gd mw_615) rfl rfl rfl (hts _ mw_1) (hts _ mw_612) ds_X10_allow ⟨Nat.le_of_ble_eq_true rfl, Nat.le_of_ble_eq_true rfl⟩, (hts _ mw_613), (hts _ mw_614)⟩) (pu_V hPc hKc hE (va_recv hKc hPc (ci := 10) (q0 := 0) rfl rfl)) rfl rfl hl.1 rfl (lv_room (Nat.le_of_ble_eq_true rfl)) dL_law_903 ⟨Nat.le_of_ble_eq_true rfl, Nat.le_of_ble_eq_true rfl⟩) (fun r_ hw_ => ?_)
  obtain rfl : r_ = 0 := hw_
  refine lv_aload_n hx hb dL_law_906 rfl (lv_at hl 1 rfl) ?_
  refine lv_aload_n hx hb dL_law_907 rfl (lv_at hl 3 rfl) ?_
  refine lv_iload_n hx hb dL_law_908 rfl (lv_at hl 0 rfl) ?_
  refine lv_iconst (v := 1) hx hb dL_law_909 (by decide) ?_
  refine lv_iadd hx hb dL_law_910 ?_
  refine lv_topi (fun y_ e_ => ?_)
  obtain rfl : y_ = 1 := e_.trans (by decide)
  refine va_sld hx hb hX hbl hbA hS (by unfold vp_in; decide) dL_law_911 ?_
  have hPc := hP.sub (ws' := [(y, .inr (11, (mO b2)))]) [28] rfl
  have hKc := hK.sub (tys' := []) [] rfl
  refine pc_i (va_runV (As := [.int (xs (1 : Int32).toNatClampNeg)]) (rest := [.int 0]) ⟨hx, hb, hml, hown, hts⟩ (m_allow l dC dI y b2 cz (xs (1 : Int32).toNatClampNeg)) (⟨callB_of 1 hts (gd mw_1168) rfl rfl rfl (hts _ mw_8) (hts _ mw_1165) ds_X11_allow ⟨Nat.le_of_ble_eq_true rfl, Nat.le_of_ble_eq_true rfl⟩, (hts _ mw_1166), (hts _ mw_1167)⟩) (pu_V hPc hKc hE (va_recv hKc hPc (ci := 11) (q0 := 0) rfl rfl)) rfl rfl hl.1 rfl (lv_room (Nat.le_of_ble_eq_true rfl)) dL_law_912 ⟨Nat.le_of_ble_eq_true rfl, Nat.le_of_ble_eq_true rfl⟩) (fun r_ hw_ => ?_)
  obtain rfl : r_ = 0 := hw_
  refine lv_icmp_eq (tgt := 1319) hx hb dL_law_915 (by decide) (fun c_ => ?_) (fun c_ => absurd c_ (by decide))
  exact law_end l (Nat.le_refl 7) C0 (Nat.le_of_ble_eq_true rfl) (Nat.le_of_ble_eq_true rfl) hS (lv_sub hl [0, 3] rfl)

set_option maxHeartbeats 4000000 in
set_option maxRecDepth 100000 in
theorem law_c20 {p : Program} {e : Env} {s : State} {m : MethodId} {below : List Frame} {meth : Method} {c : Code} (l : Launch) {b : Nat} {xs : Nat → Int32} {dC : Nat → ClassId} {dI : Nat → Nat → Nat} (x : Nat) (a : Nat → Nat) (cy : Nat → ClassId) (y : Nat) (b2 : Nat → Nat) (cz : Nat → ClassId) {H : Heap} {locs : List Loc} {ls : Array Slot} (C0 : lw_At p s m meth c b 7 xs) (hE : ext s) (hts : ∀ w ∈ gT, w.before #[Value.ref b] s = true) (hK : va_K (dC, dI) vwCl (lT cy cz) s) (hP : va_P (dC, dI) vwCl (lW x a cy y b2 cz) H) (hD : va_D (fun q : Nat => s.heap.size ≤ q) (lW x a cy y b2 cz)) (hS : va_S (fun q : Nat => s.heap.size ≤ q) s.heap H locs) (hl : lv_has ls 4 [(3, .int 0), (2, .ref y), (1, .ref x), (0, .ref b)]) : W p l e room_1 s m #[Value.ref b] below meth c H locs 74 405288 (lw_Z below #[Value.ref b] s) (F0 m 920 ls []) := by
  have C1 := C0
  obtain ⟨hx, hb, hr, hml, hown, hts0, hX, hbl, hlocks, hgv⟩ := C1
  have hA : ∀ q : Nat, s.heap.size ≤ q → (fun q : Nat => s.heap.size ≤ q) q := fun _ h => h
  have hbA : ¬ (fun q : Nat => s.heap.size ≤ q) b := Nat.not_le.mpr hbl
  refine lv_aload_n hx hb dL_law_920 rfl (lv_at hl 2 rfl) ?_
  refine lv_aload_n hx hb dL_law_921 rfl (lv_at hl 3 rfl) ?_
  refine lv_iload_n hx hb dL_law_922 rfl (lv_at hl 0 rfl) ?_
  refine lv_iconst (v := 1) hx hb dL_law_923 (by decide) ?_
  refine lv_iadd hx hb dL_law_924 ?_
  refine lv_topi (fun y_ e_ => ?_)
  obtain rfl : y_ = 1 := e_.trans (by decide)
  refine va_sld hx hb hX hbl hbA hS (by unfold vp_in; decide) dL_law_925 ?_
  refine lv_aload_n hx hb dL_law_926 rfl (lv_at hl 3 rfl) ?_
  refine lv_iload_n hx hb dL_law_927 rfl (lv_at hl 0 rfl) ?_
  refine lv_iconst (v := 2) hx hb dL_law_928 (by decide) ?_
  refine lv_iadd hx hb dL_law_929 ?_
  refine lv_topi (fun y_ e_ => ?_)
  obtain rfl : y_ = 2 := e_.trans (by decide)
  refine va_sld hx hb hX hbl hbA hS (by unfold vp_in; decide) dL_law_930 ?_
  have hPc := hP.sub (ws' := [(x, .inr (10, (kO a)))]) [0] rfl
  have hKc := hK.sub (tys' := []) [] rfl
  refine pc_i (va_runV (As := [.int (xs (1 : Int32).toNatClampNeg), .int (xs (2 : Int32).toNatClampNeg)]) (rest := []) ⟨hx, hb, hml, hown, hts⟩ (k_pieceOf l dC dI x a cy (xs (1 : Int32).toNatClampNeg) (xs (2 : Int32).toNatClampNeg)) (⟨callB_of 2 hts (gd mw_619) rfl rfl rfl (hts _ mw_1) (hts _ mw_616) ds_X10_pieceOf ⟨Nat.le_of_ble_eq_true rfl, Nat.le_of_ble_eq_true rfl⟩, (hts _ mw_617), (hts _ mw_618)⟩) (pu_V hPc hKc hE (va_recv hKc hPc (ci := 10) (q0 := 0) rfl rfl)) rfl rfl hl.1 rfl (lv_room (Nat.le_of_ble_eq_true rfl)) dL_law_931 ⟨Nat.le_of_ble_eq_true rfl, Nat.le_of_ble_eq_true rfl⟩) (fun r_ hw_ => ?_)
  obtain rfl : r_ = (-1) := hw_
  refine lv_aload_n hx hb dL_law_934 rfl (lv_at hl 1 rfl) ?_
  refine lv_aload_n hx hb dL_law_935 rfl (lv_at hl 3 rfl) ?_
  refine lv_iload_n hx hb dL_law_936 rfl (lv_at hl 0 rfl) ?_
  refine lv_iconst (v := 1) hx hb dL_law_937 (by decide) ?_
  refine lv_iadd hx hb dL_law_938 ?_
  refine lv_topi (fun y_ e_ => ?_)
  obtain rfl : y_ = 1 := e_.trans (by decide)
  refine va_sld hx hb hX hbl hbA hS (by unfold vp_in; decide) dL_law_939 ?_
  refine lv_aload_n hx hb dL_law_940 rfl (lv_at hl 3 rfl) ?_
  refine lv_iload_n hx hb dL_law_941 rfl (lv_at hl 0 rfl) ?_
  refine lv_iconst (v := 2) hx hb dL_law_942 (by decide) ?_
  refine lv_iadd hx hb dL_law_943 ?_
  refine lv_topi (fun y_ e_ => ?_)
  obtain rfl : y_ = 2 := e_.trans (by decide)
  refine va_sld hx hb hX hbl hbA hS (by unfold vp_in; decide) dL_law_944 ?_
  have hPc := hP.sub (ws' := [(y, .inr (11, (mO b2)))]) [28] rfl
  have hKc := hK.sub (tys' := []) [] rfl
  refine pc_i (va_runV (As := [.int (xs (1 : Int32).toNatClampNeg), .int (xs (2 : Int32).toNatClampNeg)]) (rest := [.int (-1)]) ⟨hx, hb, hml, hown, hts⟩ (m_pieceOf l dC dI y b2 cz (xs (1 : Int32).toNatClampNeg) (xs (2 : Int32).toNatClampNeg)) (⟨callB_of 2 hts (gd mw_1172) rfl rfl rfl (hts _ mw_8) (hts _ mw_1169) ds_X11_pieceOf ⟨Nat.le_of_ble_eq_true rfl, Nat.le_of_ble_eq_true rfl⟩, (hts _ mw_1170), (hts _ mw_1171)⟩) (pu_V hPc hKc hE (va_recv hKc hPc (ci := 11) (q0 := 0) rfl rfl)) rfl rfl hl.1 rfl (lv_room (Nat.le_of_ble_eq_true rfl)) dL_law_945 ⟨Nat.le_of_ble_eq_true rfl, Nat.le_of_ble_eq_true rfl⟩) (fun r_ hw_ => ?_)
  obtain rfl : r_ = (-1) := hw_
  refine lv_icmp_eq (tgt := 1319) hx hb dL_law_948 (by decide) (fun c_ => ?_) (fun c_ => absurd c_ (by decide))
  exact law_end l (Nat.le_refl 7) C0 (Nat.le_of_ble_eq_true rfl) (Nat.le_of_ble_eq_true rfl) hS (lv_sub hl [0, 3] rfl)

set_option maxHeartbeats 4000000 in
set_option maxRecDepth 100000 in
theorem law_c21 {p : Program} {e : Env} {s : State} {m : MethodId} {below : List Frame} {meth : Method} {c : Code} (l : Launch) {b : Nat} {xs : Nat → Int32} {dC : Nat → ClassId} {dI : Nat → Nat → Nat} (x : Nat) (a : Nat → Nat) (cy : Nat → ClassId) (y : Nat) (b2 : Nat → Nat) (cz : Nat → ClassId) {H : Heap} {locs : List Loc} {ls : Array Slot} (C0 : lw_At p s m meth c b 7 xs) (hE : ext s) (hts : ∀ w ∈ gT, w.before #[Value.ref b] s = true) (hK : va_K (dC, dI) vwCl (lT cy cz) s) (hP : va_P (dC, dI) vwCl (lW x a cy y b2 cz) H) (hD : va_D (fun q : Nat => s.heap.size ≤ q) (lW x a cy y b2 cz)) (hS : va_S (fun q : Nat => s.heap.size ≤ q) s.heap H locs) (hl : lv_has ls 4 [(3, .int 0), (2, .ref y), (1, .ref x), (0, .ref b)]) : W p l e room_1 s m #[Value.ref b] below meth c H locs 74 405288 (lw_Z below #[Value.ref b] s) (F0 m 953 ls []) := by
  have C1 := C0
  obtain ⟨hx, hb, hr, hml, hown, hts0, hX, hbl, hlocks, hgv⟩ := C1
  have hA : ∀ q : Nat, s.heap.size ≤ q → (fun q : Nat => s.heap.size ≤ q) q := fun _ h => h
  have hbA : ¬ (fun q : Nat => s.heap.size ≤ q) b := Nat.not_le.mpr hbl
  refine lv_aload_n hx hb dL_law_953 rfl (lv_at hl 2 rfl) ?_
  refine lv_aload_n hx hb dL_law_954 rfl (lv_at hl 3 rfl) ?_
  refine lv_iload_n hx hb dL_law_955 rfl (lv_at hl 0 rfl) ?_
  refine lv_iconst (v := 1) hx hb dL_law_956 (by decide) ?_
  refine lv_iadd hx hb dL_law_957 ?_
  refine lv_topi (fun y_ e_ => ?_)
  obtain rfl : y_ = 1 := e_.trans (by decide)
  refine va_sld hx hb hX hbl hbA hS (by unfold vp_in; decide) dL_law_958 ?_
  refine lv_aload_n hx hb dL_law_959 rfl (lv_at hl 3 rfl) ?_
  refine lv_iload_n hx hb dL_law_960 rfl (lv_at hl 0 rfl) ?_
  refine lv_iconst (v := 2) hx hb dL_law_961 (by decide) ?_
  refine lv_iadd hx hb dL_law_962 ?_
  refine lv_topi (fun y_ e_ => ?_)
  obtain rfl : y_ = 2 := e_.trans (by decide)
  refine va_sld hx hb hX hbl hbA hS (by unfold vp_in; decide) dL_law_963 ?_
  have hPc := hP.sub (ws' := [(x, .inr (10, (kO a))), ((a 8), .inl ((cy 8), 144, .inl (fun _ => (-1))))]) [0, 5] rfl
  have hKc := hK.sub (tys' := [((cy 8), .int)]) [4] rfl
  refine pc_i (va_runV (As := [.int (xs (1 : Int32).toNatClampNeg), .int (xs (2 : Int32).toNatClampNeg)]) (rest := []) ⟨hx, hb, hml, hown, hts⟩ (k_at l dC dI x a cy (xs (1 : Int32).toNatClampNeg) (xs (2 : Int32).toNatClampNeg)) (⟨callB_of 2 hts (gd mw_635) rfl rfl rfl (hts _ mw_1) (hts _ mw_632) ds_X10_at ⟨Nat.le_of_ble_eq_true rfl, Nat.le_of_ble_eq_true rfl⟩, (hts _ mw_633), (hts _ mw_634)⟩) (pu_V hPc hKc hE (va_recv hKc hPc (ci := 10) (q0 := 0) rfl rfl)) rfl rfl hl.1 rfl (lv_room (Nat.le_of_ble_eq_true rfl)) dL_law_964 ⟨Nat.le_of_ble_eq_true rfl, Nat.le_of_ble_eq_true rfl⟩) (fun r_ hw_ => ?_)
  obtain rfl : r_ = (-1) := hw_
  refine lv_aload_n hx hb dL_law_967 rfl (lv_at hl 1 rfl) ?_
  refine lv_aload_n hx hb dL_law_968 rfl (lv_at hl 3 rfl) ?_
  refine lv_iload_n hx hb dL_law_969 rfl (lv_at hl 0 rfl) ?_
  refine lv_iconst (v := 1) hx hb dL_law_970 (by decide) ?_
  refine lv_iadd hx hb dL_law_971 ?_
  refine lv_topi (fun y_ e_ => ?_)
  obtain rfl : y_ = 1 := e_.trans (by decide)
  refine va_sld hx hb hX hbl hbA hS (by unfold vp_in; decide) dL_law_972 ?_
  refine lv_aload_n hx hb dL_law_973 rfl (lv_at hl 3 rfl) ?_
  refine lv_iload_n hx hb dL_law_974 rfl (lv_at hl 0 rfl) ?_
  refine lv_iconst (v := 2) hx hb dL_law_975 (by decide) ?_
  refine lv_iadd hx hb dL_law_976 ?_
  refine lv_topi (fun y_ e_ => ?_)
  obtain rfl : y_ = 2 := e_.trans (by decide)
  refine va_sld hx hb hX hbl hbA hS (by unfold vp_in; decide) dL_law_977 ?_
  have hPc := hP.sub (ws' := [(y, .inr (11, (mO b2))), ((b2 43), .inl ((cz 43), 144, .inl (fun _ => (-1))))]) [28, 64] rfl
  have hKc := hK.sub (tys' := [((cz 43), .int)]) [57] rfl
  refine pc_i (va_runV (As := [.int (xs (1 : Int32).toNatClampNeg), .int (xs (2 : Int32).toNatClampNeg)]) (rest := [.int (-1)]) ⟨hx, hb, hml, hown, hts⟩ (m_at l dC dI y b2 cz (xs (1 : Int32).toNatClampNeg) (xs (2 : Int32).toNatClampNeg)) (⟨callB_of 2 hts (gd mw_1184) rfl rfl rfl (hts _ mw_8) (hts _ mw_1181) ds_X11_at ⟨Nat.le_of_ble_eq_true rfl, Nat.le_of_ble_eq_true rfl⟩, (hts _ mw_1182), (hts _ mw_1183)⟩) (pu_V hPc hKc hE (va_recv hKc hPc (ci := 11) (q0 := 0) rfl rfl)) rfl rfl hl.1 rfl (lv_room (Nat.le_of_ble_eq_true rfl)) dL_law_978 ⟨Nat.le_of_ble_eq_true rfl, Nat.le_of_ble_eq_true rfl⟩) (fun r_ hw_ => ?_)
  obtain rfl : r_ = (-1) := hw_
  refine lv_icmp_eq (tgt := 1319) hx hb dL_law_981 (by decide) (fun c_ => ?_) (fun c_ => absurd c_ (by decide))
  exact law_end l (Nat.le_refl 7) C0 (Nat.le_of_ble_eq_true rfl) (Nat.le_of_ble_eq_true rfl) hS (lv_sub hl [0, 3] rfl)

set_option maxHeartbeats 4000000 in
set_option maxRecDepth 100000 in
theorem law_c22 {p : Program} {e : Env} {s : State} {m : MethodId} {below : List Frame} {meth : Method} {c : Code} (l : Launch) {b : Nat} {xs : Nat → Int32} {dC : Nat → ClassId} {dI : Nat → Nat → Nat} (x : Nat) (a : Nat → Nat) (cy : Nat → ClassId) (y : Nat) (b2 : Nat → Nat) (cz : Nat → ClassId) {H : Heap} {locs : List Loc} {ls : Array Slot} (C0 : lw_At p s m meth c b 7 xs) (hE : ext s) (hts : ∀ w ∈ gT, w.before #[Value.ref b] s = true) (hK : va_K (dC, dI) vwCl (lT cy cz) s) (hP : va_P (dC, dI) vwCl (lW x a cy y b2 cz) H) (hD : va_D (fun q : Nat => s.heap.size ≤ q) (lW x a cy y b2 cz)) (hS : va_S (fun q : Nat => s.heap.size ≤ q) s.heap H locs) (hl : lv_has ls 4 [(3, .int 0), (2, .ref y), (1, .ref x), (0, .ref b)]) : W p l e room_1 s m #[Value.ref b] below meth c H locs 74 405288 (lw_Z below #[Value.ref b] s) (F0 m 986 ls []) := by
  have C1 := C0
  obtain ⟨hx, hb, hr, hml, hown, hts0, hX, hbl, hlocks, hgv⟩ := C1
  have hA : ∀ q : Nat, s.heap.size ≤ q → (fun q : Nat => s.heap.size ≤ q) q := fun _ h => h
  have hbA : ¬ (fun q : Nat => s.heap.size ≤ q) b := Nat.not_le.mpr hbl
  refine lv_aload_n hx hb dL_law_986 rfl (lv_at hl 2 rfl) ?_
  refine lv_aload_n hx hb dL_law_987 rfl (lv_at hl 3 rfl) ?_
  refine lv_iload_n hx hb dL_law_988 rfl (lv_at hl 0 rfl) ?_
  refine lv_iconst (v := 1) hx hb dL_law_989 (by decide) ?_
  refine lv_iadd hx hb dL_law_990 ?_
  refine lv_topi (fun y_ e_ => ?_)
  obtain rfl : y_ = 1 := e_.trans (by decide)
  refine va_sld hx hb hX hbl hbA hS (by unfold vp_in; decide) dL_law_991 ?_
  refine lv_aload_n hx hb dL_law_992 rfl (lv_at hl 3 rfl) ?_
  refine lv_iload_n hx hb dL_law_993 rfl (lv_at hl 0 rfl) ?_
  refine lv_iconst (v := 2) hx hb dL_law_994 (by decide) ?_
  refine lv_iadd hx hb dL_law_995 ?_
  refine lv_topi (fun y_ e_ => ?_)
  obtain rfl : y_ = 2 := e_.trans (by decide)
  refine va_sld hx hb hX hbl hbA hS (by unfold vp_in; decide) dL_law_996 ?_
  refine lv_aload_n hx hb dL_law_997 rfl (lv_at hl 3 rfl) ?_
  refine lv_iload_n hx hb dL_law_998 rfl (lv_at hl 0 rfl) ?_
  refine lv_iconst (v := 3) hx hb dL_law_999 (by decide) ?_
  refine lv_iadd hx hb dL_law_1000 ?_
  refine lv_topi (fun y_ e_ => ?_)
  obtain rfl : y_ = 3 := e_.trans (by decide)
  refine va_sld hx hb hX hbl hbA hS (by unfold vp_in; decide) dL_law_1001 ?_
  have hPc := hP.sub (ws' := [(x, .inr (10, (kO a))), ((a 8), .inl ((cy 8), 144, .inl (fun _ => (-1)))), ((a 13), .inr (2, (chO a)))]) [0, 5, 22] rfl
  have hKc := hK.sub (tys' := [((cy 8), .int)]) [4] rfl
  have hDc := hD.sub (ws' := [(x, .inr (10, (kO a))), ((a 8), .inl ((cy 8), 144, .inl (fun _ => (-1)))), ((a 13), .inr (2, (chO a)))]) [0, 5, 22] (by decide) rfl
  have hFc := va_free (wc := [(x, .inr (10, (kO a))), ((a 8), .inl ((cy 8), 144, .inl (fun _ => (-1)))), ((a 13), .inr (2, (chO a)))]) hD hS hA [0, 5, 22] rfl
  refine va_calli (va_runV (As := [.int (xs (1 : Int32).toNatClampNeg), .int (xs (2 : Int32).toNatClampNeg), .int (xs (3 : Int32).toNatClampNeg)]) (rest := []) ⟨hx, hb, hml, hown, hts⟩ (k_pack l dC dI H.size x a cy (xs (1 : Int32).toNatClampNeg) (xs (2 : Int32).toNatClampNeg) (xs (3 : Int32).toNatClampNeg)) (⟨callB_of 3 hts (gd mw_639) rfl rfl rfl (hts _ mw_1) (hts _ mw_636) ds_X10_pack ⟨Nat.le_of_ble_eq_true rfl, Nat.le_of_ble_eq_true rfl⟩, (hts _ mw_637), (hts _ mw_638)⟩) (pr_V hPc hKc hDc hE (va_recv hKc hPc (ci := 10) (q0 := 0) rfl rfl)) rfl rfl hl.1 rfl (lv_room (Nat.le_of_ble_eq_true rfl)) dL_law_1002 ⟨Nat.le_of_ble_eq_true rfl, Nat.le_of_ble_eq_true rfl⟩) hS (fun q _ h => hFc q h) hFc (fun r_ u_ t_ H1 locs ht hvm hw_ hB hz1 hk1 hS => ?_)
  obtain rfl : r_ = (-1) := hw_
  have hP1 : va_P (dC, dI) vwCl [] H1 := fun k q h => by simp at h
  have hD1 : va_D (va_A [(x, .inr (10, (kO a))), ((a 8), .inl ((cy 8), 144, .inl (fun _ => (-1)))), ((a 13), .inr (2, (chO a)))] H.size) [] := ⟨fun i j p q h => by simp at h, fun k q h => by simp at h⟩
  obtain ⟨hP, hD⟩ := va_join (wr := [((a 0), .inl ((cy 0), 40, .inr (.inr (.inr (.inr (fun _ => none)))))), ((a 2), .inl ((cy 2), 40, .inr (.inr (.inr (.inr (fun _ => none)))))), ((a 4), .inl ((cy 4), 600, .inr (.inr (.inr (.inr (fun _ => none)))))), ((a 6), .inl ((cy 6), 200, .inr (.inr (.inr (.inr (fun _ => none)))))), ((a 9), .inl ((cy 9), 144, .inl (fun _ => 0))), ((a 10), .inr (8, (rO a))), ((a 20), .inl ((cy 20), 16, .inl (fun _ => 0))), ((a 21), .inl ((cy 21), 16, .inl (fun _ => 0))), ((a 25), .inl ((cy 25), 6, .inl (fun _ => 0))), ((a 26), .inl ((cy 26), 6, .inl (fun _ => 900))), ((a 11), .inr (9, [.int 450, .int 270, .int 310, .int 320, .int 290, .int 2])), ((a 12), .inr (3, (keO a))), ((a 30), .inl ((cy 30), 36, .inl (fun _ => 0))), ((a 31), .inl ((cy 31), 10, .inl (fun _ => 0))), ((a 32), .inl ((cy 32), 10, .inl (fun _ => 0))), ((a 34), .inl ((cy 34), 10, .inl (fun _ => 0))), ((a 38), .inl ((cy 38), 10, .inl (fun _ => 0))), ((a 39), .inl ((cy 39), 6, .inl (fun _ => 0))), ((a 40), .inl ((cy 40), 6, .inl (fun _ => 0))), ((a 41), .inl ((cy 41), 6, .inl (fun _ => 0))), ((a 50), .inl ((cy 50), 40, .inl (fun _ => 0))), ((a 51), .inl ((cy 51), 40, .inl (fun _ => 0))), ((a 52), .inl ((cy 52), 40, .inl (fun _ => 0))), ((a 14), .inr (5, (paO a))), ((a 60), .inl ((cy 60), 14, .inl (fun _ => 0))), (y, .inr (11, (mO b2))), ((b2 6), .inl ((cz 6), 40, .inl (fun _ => 0))), ((b2 7), .inl ((cz 7), 40, .inl (fun _ => 0))), ((b2 8), .inl ((cz 8), 40, .inl (fun _ => 0))), ((b2 9), .inl ((cz 9), 40, .inl (fun _ => 0))), ((b2 10), .inl ((cz 10), 40, .inl (fun _ => 0))), ((b2 11), .inl ((cz 11), 40, .inl (fun _ => 0))), ((b2 12), .inl ((cz 12), 40, .inl (fun _ => 0))), ((b2 13), .inl ((cz 13), 40, .inl (fun _ => 0))), ((b2 14), .inl ((cz 14), 40, .inl (fun _ => 0))), ((b2 15), .inl ((cz 15), 40, .inl (fun _ => 0))), ((b2 16), .inl ((cz 16), 40, .inl (fun _ => 0))), ((b2 17), .inl ((cz 17), 40, .inl (fun _ => 0))), ((b2 18), .inl ((cz 18), 40, .inl (fun _ => 0))), ((b2 19), .inl ((cz 19), 40, .inl (fun _ => 0))), ((b2 20), .inl ((cz 20), 40, .inl (fun _ => 0))), ((b2 21), .inl ((cz 21), 40, .inl (fun _ => 0))), ((b2 22), .inl ((cz 22), 1600, .inl (fun _ => 0))), ((b2 23), .inl ((cz 23), 40, .inl (fun _ => 0))), ((b2 24), .inl ((cz 24), 40, .inl (fun _ => 0))), ((b2 25), .inl ((cz 25), 2400, .inr (.inr (.inl (fun _ => 0))))), ((b2 26), .inl ((cz 26), 2400, .inl (fun _ => 0))), ((b2 27), .inl ((cz 27), 16, .inl (fun _ => 0))), ((b2 28), .inl ((cz 28), 16, .inl (fun _ => 0))), ((b2 31), .inl ((cz 31), 6, .inl (fun _ => 0))), ((b2 32), .inl ((cz 32), 6, .inl (fun _ => 900))), ((b2 33), .inl ((cz 33), 6, .inl (upd (upd (upd (upd (upd (upd (fun _ => 0) (0 : Int32).toNatClampNeg 450) (1 : Int32).toNatClampNeg 270) (2 : Int32).toNatClampNeg 310) (3 : Int32).toNatClampNeg 320) (4 : Int32).toNatClampNeg 290) (5 : Int32).toNatClampNeg 2))), ((b2 34), .inl ((cz 34), 36, .inl (fun _ => 0))), ((b2 35), .inl ((cz 35), 10, .inl (fun _ => 0))), ((b2 36), .inl ((cz 36), 600, .inl (fun _ => 0))), ((b2 37), .inl ((cz 37), 600, .inl (fun _ => 0))), ((b2 38), .inl ((cz 38), 600, .inl (fun _ => 0))), ((b2 39), .inl ((cz 39), 600, .inl (fun _ => 0))), ((b2 40), .inl ((cz 40), 600, .inl (fun _ => 0))), ((b2 41), .inl ((cz 41), 600, .inl (fun _ => 0))), ((b2 42), .inl ((cz 42), 600, .inl (fun _ => 0))), ((b2 43), .inl ((cz 43), 144, .inl (fun _ => (-1)))), ((b2 44), .inl ((cz 44), 200, .inl (fun _ => 0))), ((b2 45), .inl ((cz 45), 144, .inl (fun _ => 0))), ((b2 46), .inl ((cz 46), 144, .inl (fun _ => 0))), ((b2 47), .inl ((cz 47), 144, .inl (fun _ => 0))), ((b2 50), .inl ((cz 50), 348500, .inl (fun _ => 0))), ((b2 51), .inl ((cz 51), 40, .inl (fun _ => 0))), ((b2 53), .inl ((cz 53), 16384, .inl (fun _ => 0))), ((b2 54), .inl ((cz 54), 16384, .inl (fun _ => 0))), ((b2 55), .inl ((cz 55), 10240, .inl (fun _ => 0)))]) (w1 := []) hP hD [0, 5, 22] [1, 2, 3, 4, 6, 7, 8, 9, 10, 11, 12, 13, 14, 15, 16, 17, 18, 19, 20, 21, 23, 24, 25, 26, 27, 28, 29, 30, 31, 32, 33, 34, 35, 36, 37, 38, 39, 40, 41, 42, 43, 44, 45, 46, 47, 48, 49, 50, 51, 52, 53, 54, 55, 56, 57, 58, 59, 60, 61, 62, 63, 64, 65, 66, 67, 68, 69, 70, 71, 72, 73] rfl rfl (by decide) (by decide) hk1 hFc hP1 hD1
  generalize H1 = H at hP hS ⊢
  have hP : va_P (dC, dI) vwCl [((a 0), .inl ((cy 0), 40, .inr (.inr (.inr (.inr (fun _ => none)))))), ((a 2), .inl ((cy 2), 40, .inr (.inr (.inr (.inr (fun _ => none)))))), ((a 4), .inl ((cy 4), 600, .inr (.inr (.inr (.inr (fun _ => none)))))), ((a 6), .inl ((cy 6), 200, .inr (.inr (.inr (.inr (fun _ => none)))))), ((a 9), .inl ((cy 9), 144, .inl (fun _ => 0))), ((a 10), .inr (8, (rO a))), ((a 20), .inl ((cy 20), 16, .inl (fun _ => 0))), ((a 21), .inl ((cy 21), 16, .inl (fun _ => 0))), ((a 25), .inl ((cy 25), 6, .inl (fun _ => 0))), ((a 26), .inl ((cy 26), 6, .inl (fun _ => 900))), ((a 11), .inr (9, [.int 450, .int 270, .int 310, .int 320, .int 290, .int 2])), ((a 12), .inr (3, (keO a))), ((a 30), .inl ((cy 30), 36, .inl (fun _ => 0))), ((a 31), .inl ((cy 31), 10, .inl (fun _ => 0))), ((a 32), .inl ((cy 32), 10, .inl (fun _ => 0))), ((a 34), .inl ((cy 34), 10, .inl (fun _ => 0))), ((a 38), .inl ((cy 38), 10, .inl (fun _ => 0))), ((a 39), .inl ((cy 39), 6, .inl (fun _ => 0))), ((a 40), .inl ((cy 40), 6, .inl (fun _ => 0))), ((a 41), .inl ((cy 41), 6, .inl (fun _ => 0))), ((a 50), .inl ((cy 50), 40, .inl (fun _ => 0))), ((a 51), .inl ((cy 51), 40, .inl (fun _ => 0))), ((a 52), .inl ((cy 52), 40, .inl (fun _ => 0))), ((a 14), .inr (5, (paO a))), ((a 60), .inl ((cy 60), 14, .inl (fun _ => 0))), (y, .inr (11, (mO b2))), ((b2 6), .inl ((cz 6), 40, .inl (fun _ => 0))), ((b2 7), .inl ((cz 7), 40, .inl (fun _ => 0))), ((b2 8), .inl ((cz 8), 40, .inl (fun _ => 0))), ((b2 9), .inl ((cz 9), 40, .inl (fun _ => 0))), ((b2 10), .inl ((cz 10), 40, .inl (fun _ => 0))), ((b2 11), .inl ((cz 11), 40, .inl (fun _ => 0))), ((b2 12), .inl ((cz 12), 40, .inl (fun _ => 0))), ((b2 13), .inl ((cz 13), 40, .inl (fun _ => 0))), ((b2 14), .inl ((cz 14), 40, .inl (fun _ => 0))), ((b2 15), .inl ((cz 15), 40, .inl (fun _ => 0))), ((b2 16), .inl ((cz 16), 40, .inl (fun _ => 0))), ((b2 17), .inl ((cz 17), 40, .inl (fun _ => 0))), ((b2 18), .inl ((cz 18), 40, .inl (fun _ => 0))), ((b2 19), .inl ((cz 19), 40, .inl (fun _ => 0))), ((b2 20), .inl ((cz 20), 40, .inl (fun _ => 0))), ((b2 21), .inl ((cz 21), 40, .inl (fun _ => 0))), ((b2 22), .inl ((cz 22), 1600, .inl (fun _ => 0))), ((b2 23), .inl ((cz 23), 40, .inl (fun _ => 0))), ((b2 24), .inl ((cz 24), 40, .inl (fun _ => 0))), ((b2 25), .inl ((cz 25), 2400, .inr (.inr (.inl (fun _ => 0))))), ((b2 26), .inl ((cz 26), 2400, .inl (fun _ => 0))), ((b2 27), .inl ((cz 27), 16, .inl (fun _ => 0))), ((b2 28), .inl ((cz 28), 16, .inl (fun _ => 0))), ((b2 31), .inl ((cz 31), 6, .inl (fun _ => 0))), ((b2 32), .inl ((cz 32), 6, .inl (fun _ => 900))), ((b2 33), .inl ((cz 33), 6, .inl (upd (upd (upd (upd (upd (upd (fun _ => 0) (0 : Int32).toNatClampNeg 450) (1 : Int32).toNatClampNeg 270) (2 : Int32).toNatClampNeg 310) (3 : Int32).toNatClampNeg 320) (4 : Int32).toNatClampNeg 290) (5 : Int32).toNatClampNeg 2))), ((b2 34), .inl ((cz 34), 36, .inl (fun _ => 0))), ((b2 35), .inl ((cz 35), 10, .inl (fun _ => 0))), ((b2 36), .inl ((cz 36), 600, .inl (fun _ => 0))), ((b2 37), .inl ((cz 37), 600, .inl (fun _ => 0))), ((b2 38), .inl ((cz 38), 600, .inl (fun _ => 0))), ((b2 39), .inl ((cz 39), 600, .inl (fun _ => 0))), ((b2 40), .inl ((cz 40), 600, .inl (fun _ => 0))), ((b2 41), .inl ((cz 41), 600, .inl (fun _ => 0))), ((b2 42), .inl ((cz 42), 600, .inl (fun _ => 0))), ((b2 43), .inl ((cz 43), 144, .inl (fun _ => (-1)))), ((b2 44), .inl ((cz 44), 200, .inl (fun _ => 0))), ((b2 45), .inl ((cz 45), 144, .inl (fun _ => 0))), ((b2 46), .inl ((cz 46), 144, .inl (fun _ => 0))), ((b2 47), .inl ((cz 47), 144, .inl (fun _ => 0))), ((b2 50), .inl ((cz 50), 348500, .inl (fun _ => 0))), ((b2 51), .inl ((cz 51), 40, .inl (fun _ => 0))), ((b2 53), .inl ((cz 53), 16384, .inl (fun _ => 0))), ((b2 54), .inl ((cz 54), 16384, .inl (fun _ => 0))), ((b2 55), .inl ((cz 55), 10240, .inl (fun _ => 0)))] H := hP
  have hD : va_D (fun q : Nat => s.heap.size ≤ q) [((a 0), .inl ((cy 0), 40, .inr (.inr (.inr (.inr (fun _ => none)))))), ((a 2), .inl ((cy 2), 40, .inr (.inr (.inr (.inr (fun _ => none)))))), ((a 4), .inl ((cy 4), 600, .inr (.inr (.inr (.inr (fun _ => none)))))), ((a 6), .inl ((cy 6), 200, .inr (.inr (.inr (.inr (fun _ => none)))))), ((a 9), .inl ((cy 9), 144, .inl (fun _ => 0))), ((a 10), .inr (8, (rO a))), ((a 20), .inl ((cy 20), 16, .inl (fun _ => 0))), ((a 21), .inl ((cy 21), 16, .inl (fun _ => 0))), ((a 25), .inl ((cy 25), 6, .inl (fun _ => 0))), ((a 26), .inl ((cy 26), 6, .inl (fun _ => 900))), ((a 11), .inr (9, [.int 450, .int 270, .int 310, .int 320, .int 290, .int 2])), ((a 12), .inr (3, (keO a))), ((a 30), .inl ((cy 30), 36, .inl (fun _ => 0))), ((a 31), .inl ((cy 31), 10, .inl (fun _ => 0))), ((a 32), .inl ((cy 32), 10, .inl (fun _ => 0))), ((a 34), .inl ((cy 34), 10, .inl (fun _ => 0))), ((a 38), .inl ((cy 38), 10, .inl (fun _ => 0))), ((a 39), .inl ((cy 39), 6, .inl (fun _ => 0))), ((a 40), .inl ((cy 40), 6, .inl (fun _ => 0))), ((a 41), .inl ((cy 41), 6, .inl (fun _ => 0))), ((a 50), .inl ((cy 50), 40, .inl (fun _ => 0))), ((a 51), .inl ((cy 51), 40, .inl (fun _ => 0))), ((a 52), .inl ((cy 52), 40, .inl (fun _ => 0))), ((a 14), .inr (5, (paO a))), ((a 60), .inl ((cy 60), 14, .inl (fun _ => 0))), (y, .inr (11, (mO b2))), ((b2 6), .inl ((cz 6), 40, .inl (fun _ => 0))), ((b2 7), .inl ((cz 7), 40, .inl (fun _ => 0))), ((b2 8), .inl ((cz 8), 40, .inl (fun _ => 0))), ((b2 9), .inl ((cz 9), 40, .inl (fun _ => 0))), ((b2 10), .inl ((cz 10), 40, .inl (fun _ => 0))), ((b2 11), .inl ((cz 11), 40, .inl (fun _ => 0))), ((b2 12), .inl ((cz 12), 40, .inl (fun _ => 0))), ((b2 13), .inl ((cz 13), 40, .inl (fun _ => 0))), ((b2 14), .inl ((cz 14), 40, .inl (fun _ => 0))), ((b2 15), .inl ((cz 15), 40, .inl (fun _ => 0))), ((b2 16), .inl ((cz 16), 40, .inl (fun _ => 0))), ((b2 17), .inl ((cz 17), 40, .inl (fun _ => 0))), ((b2 18), .inl ((cz 18), 40, .inl (fun _ => 0))), ((b2 19), .inl ((cz 19), 40, .inl (fun _ => 0))), ((b2 20), .inl ((cz 20), 40, .inl (fun _ => 0))), ((b2 21), .inl ((cz 21), 40, .inl (fun _ => 0))), ((b2 22), .inl ((cz 22), 1600, .inl (fun _ => 0))), ((b2 23), .inl ((cz 23), 40, .inl (fun _ => 0))), ((b2 24), .inl ((cz 24), 40, .inl (fun _ => 0))), ((b2 25), .inl ((cz 25), 2400, .inr (.inr (.inl (fun _ => 0))))), ((b2 26), .inl ((cz 26), 2400, .inl (fun _ => 0))), ((b2 27), .inl ((cz 27), 16, .inl (fun _ => 0))), ((b2 28), .inl ((cz 28), 16, .inl (fun _ => 0))), ((b2 31), .inl ((cz 31), 6, .inl (fun _ => 0))), ((b2 32), .inl ((cz 32), 6, .inl (fun _ => 900))), ((b2 33), .inl ((cz 33), 6, .inl (upd (upd (upd (upd (upd (upd (fun _ => 0) (0 : Int32).toNatClampNeg 450) (1 : Int32).toNatClampNeg 270) (2 : Int32).toNatClampNeg 310) (3 : Int32).toNatClampNeg 320) (4 : Int32).toNatClampNeg 290) (5 : Int32).toNatClampNeg 2))), ((b2 34), .inl ((cz 34), 36, .inl (fun _ => 0))), ((b2 35), .inl ((cz 35), 10, .inl (fun _ => 0))), ((b2 36), .inl ((cz 36), 600, .inl (fun _ => 0))), ((b2 37), .inl ((cz 37), 600, .inl (fun _ => 0))), ((b2 38), .inl ((cz 38), 600, .inl (fun _ => 0))), ((b2 39), .inl ((cz 39), 600, .inl (fun _ => 0))), ((b2 40), .inl ((cz 40), 600, .inl (fun _ => 0))), ((b2 41), .inl ((cz 41), 600, .inl (fun _ => 0))), ((b2 42), .inl ((cz 42), 600, .inl (fun _ => 0))), ((b2 43), .inl ((cz 43), 144, .inl (fun _ => (-1)))), ((b2 44), .inl ((cz 44), 200, .inl (fun _ => 0))), ((b2 45), .inl ((cz 45), 144, .inl (fun _ => 0))), ((b2 46), .inl ((cz 46), 144, .inl (fun _ => 0))), ((b2 47), .inl ((cz 47), 144, .inl (fun _ => 0))), ((b2 50), .inl ((cz 50), 348500, .inl (fun _ => 0))), ((b2 51), .inl ((cz 51), 40, .inl (fun _ => 0))), ((b2 53), .inl ((cz 53), 16384, .inl (fun _ => 0))), ((b2 54), .inl ((cz 54), 16384, .inl (fun _ => 0))), ((b2 55), .inl ((cz 55), 10240, .inl (fun _ => 0)))] := hD
  refine lv_aload_n hx hb dL_law_1005 rfl (lv_at hl 1 rfl) ?_
  refine lv_aload_n hx hb dL_law_1006 rfl (lv_at hl 3 rfl) ?_
  refine lv_iload_n hx hb dL_law_1007 rfl (lv_at hl 0 rfl) ?_
  refine lv_iconst (v := 1) hx hb dL_law_1008 (by decide) ?_
  refine lv_iadd hx hb dL_law_1009 ?_
  refine lv_topi (fun y_ e_ => ?_)
  obtain rfl : y_ = 1 := e_.trans (by decide)
  refine va_sld hx hb hX hbl hbA hS (by unfold vp_in; decide) dL_law_1010 ?_
  refine lv_aload_n hx hb dL_law_1011 rfl (lv_at hl 3 rfl) ?_
  refine lv_iload_n hx hb dL_law_1012 rfl (lv_at hl 0 rfl) ?_
  refine lv_iconst (v := 2) hx hb dL_law_1013 (by decide) ?_
  refine lv_iadd hx hb dL_law_1014 ?_
  refine lv_topi (fun y_ e_ => ?_)
  obtain rfl : y_ = 2 := e_.trans (by decide)
  refine va_sld hx hb hX hbl hbA hS (by unfold vp_in; decide) dL_law_1015 ?_
  refine lv_aload_n hx hb dL_law_1016 rfl (lv_at hl 3 rfl) ?_
  refine lv_iload_n hx hb dL_law_1017 rfl (lv_at hl 0 rfl) ?_
  refine lv_iconst (v := 3) hx hb dL_law_1018 (by decide) ?_
  refine lv_iadd hx hb dL_law_1019 ?_
  refine lv_topi (fun y_ e_ => ?_)
  obtain rfl : y_ = 3 := e_.trans (by decide)
  refine va_sld hx hb hX hbl hbA hS (by unfold vp_in; decide) dL_law_1020 ?_
  have hPc := hP.sub (ws' := [(y, .inr (11, (mO b2))), ((b2 43), .inl ((cz 43), 144, .inl (fun _ => (-1)))), ((b2 50), .inl ((cz 50), 348500, .inl (fun _ => 0)))]) [25, 61, 66] rfl
  have hKc := hK.sub (tys' := [((cz 43), .int), ((cz 50), .boolean)]) [57, 62] rfl
  have hDc := hD.sub (ws' := [(y, .inr (11, (mO b2))), ((b2 43), .inl ((cz 43), 144, .inl (fun _ => (-1)))), ((b2 50), .inl ((cz 50), 348500, .inl (fun _ => 0)))]) [25, 61, 66] (by decide) rfl
  have hFc := va_free (wc := [(y, .inr (11, (mO b2))), ((b2 43), .inl ((cz 43), 144, .inl (fun _ => (-1)))), ((b2 50), .inl ((cz 50), 348500, .inl (fun _ => 0)))]) hD hS hA [25, 61, 66] rfl
  refine va_calli (va_runV (As := [.int (xs (1 : Int32).toNatClampNeg), .int (xs (2 : Int32).toNatClampNeg), .int (xs (3 : Int32).toNatClampNeg)]) (rest := [.int (-1)]) ⟨hx, hb, hml, hown, hts⟩ (m_pack l dC dI H.size y b2 cz (xs (1 : Int32).toNatClampNeg) (xs (2 : Int32).toNatClampNeg) (xs (3 : Int32).toNatClampNeg)) (⟨callB_of 3 hts (gd mw_1188) rfl rfl rfl (hts _ mw_8) (hts _ mw_1185) ds_X11_pack ⟨Nat.le_of_ble_eq_true rfl, Nat.le_of_ble_eq_true rfl⟩, (hts _ mw_1186), (hts _ mw_1187)⟩) (pr_V hPc hKc hDc hE (va_recv hKc hPc (ci := 11) (q0 := 0) rfl rfl)) rfl rfl hl.1 rfl (lv_room (Nat.le_of_ble_eq_true rfl)) dL_law_1021 ⟨Nat.le_of_ble_eq_true rfl, Nat.le_of_ble_eq_true rfl⟩) hS (fun q _ h => hFc q h) hFc (fun r_ u_ t_ H1 locs ht hvm hw_ hB hz1 hk1 hS => ?_)
  obtain rfl : r_ = (-1) := hw_
  have hP1 : va_P (dC, dI) vwCl [] H1 := fun k q h => by simp at h
  have hD1 : va_D (va_A [(y, .inr (11, (mO b2))), ((b2 43), .inl ((cz 43), 144, .inl (fun _ => (-1)))), ((b2 50), .inl ((cz 50), 348500, .inl (fun _ => 0)))] H.size) [] := ⟨fun i j p q h => by simp at h, fun k q h => by simp at h⟩
  obtain ⟨hP, hD⟩ := va_join (wr := [((a 0), .inl ((cy 0), 40, .inr (.inr (.inr (.inr (fun _ => none)))))), ((a 2), .inl ((cy 2), 40, .inr (.inr (.inr (.inr (fun _ => none)))))), ((a 4), .inl ((cy 4), 600, .inr (.inr (.inr (.inr (fun _ => none)))))), ((a 6), .inl ((cy 6), 200, .inr (.inr (.inr (.inr (fun _ => none)))))), ((a 9), .inl ((cy 9), 144, .inl (fun _ => 0))), ((a 10), .inr (8, (rO a))), ((a 20), .inl ((cy 20), 16, .inl (fun _ => 0))), ((a 21), .inl ((cy 21), 16, .inl (fun _ => 0))), ((a 25), .inl ((cy 25), 6, .inl (fun _ => 0))), ((a 26), .inl ((cy 26), 6, .inl (fun _ => 900))), ((a 11), .inr (9, [.int 450, .int 270, .int 310, .int 320, .int 290, .int 2])), ((a 12), .inr (3, (keO a))), ((a 30), .inl ((cy 30), 36, .inl (fun _ => 0))), ((a 31), .inl ((cy 31), 10, .inl (fun _ => 0))), ((a 32), .inl ((cy 32), 10, .inl (fun _ => 0))), ((a 34), .inl ((cy 34), 10, .inl (fun _ => 0))), ((a 38), .inl ((cy 38), 10, .inl (fun _ => 0))), ((a 39), .inl ((cy 39), 6, .inl (fun _ => 0))), ((a 40), .inl ((cy 40), 6, .inl (fun _ => 0))), ((a 41), .inl ((cy 41), 6, .inl (fun _ => 0))), ((a 50), .inl ((cy 50), 40, .inl (fun _ => 0))), ((a 51), .inl ((cy 51), 40, .inl (fun _ => 0))), ((a 52), .inl ((cy 52), 40, .inl (fun _ => 0))), ((a 14), .inr (5, (paO a))), ((a 60), .inl ((cy 60), 14, .inl (fun _ => 0))), ((b2 6), .inl ((cz 6), 40, .inl (fun _ => 0))), ((b2 7), .inl ((cz 7), 40, .inl (fun _ => 0))), ((b2 8), .inl ((cz 8), 40, .inl (fun _ => 0))), ((b2 9), .inl ((cz 9), 40, .inl (fun _ => 0))), ((b2 10), .inl ((cz 10), 40, .inl (fun _ => 0))), ((b2 11), .inl ((cz 11), 40, .inl (fun _ => 0))), ((b2 12), .inl ((cz 12), 40, .inl (fun _ => 0))), ((b2 13), .inl ((cz 13), 40, .inl (fun _ => 0))), ((b2 14), .inl ((cz 14), 40, .inl (fun _ => 0))), ((b2 15), .inl ((cz 15), 40, .inl (fun _ => 0))), ((b2 16), .inl ((cz 16), 40, .inl (fun _ => 0))), ((b2 17), .inl ((cz 17), 40, .inl (fun _ => 0))), ((b2 18), .inl ((cz 18), 40, .inl (fun _ => 0))), ((b2 19), .inl ((cz 19), 40, .inl (fun _ => 0))), ((b2 20), .inl ((cz 20), 40, .inl (fun _ => 0))), ((b2 21), .inl ((cz 21), 40, .inl (fun _ => 0))), ((b2 22), .inl ((cz 22), 1600, .inl (fun _ => 0))), ((b2 23), .inl ((cz 23), 40, .inl (fun _ => 0))), ((b2 24), .inl ((cz 24), 40, .inl (fun _ => 0))), ((b2 25), .inl ((cz 25), 2400, .inr (.inr (.inl (fun _ => 0))))), ((b2 26), .inl ((cz 26), 2400, .inl (fun _ => 0))), ((b2 27), .inl ((cz 27), 16, .inl (fun _ => 0))), ((b2 28), .inl ((cz 28), 16, .inl (fun _ => 0))), ((b2 31), .inl ((cz 31), 6, .inl (fun _ => 0))), ((b2 32), .inl ((cz 32), 6, .inl (fun _ => 900))), ((b2 33), .inl ((cz 33), 6, .inl (upd (upd (upd (upd (upd (upd (fun _ => 0) (0 : Int32).toNatClampNeg 450) (1 : Int32).toNatClampNeg 270) (2 : Int32).toNatClampNeg 310) (3 : Int32).toNatClampNeg 320) (4 : Int32).toNatClampNeg 290) (5 : Int32).toNatClampNeg 2))), ((b2 34), .inl ((cz 34), 36, .inl (fun _ => 0))), ((b2 35), .inl ((cz 35), 10, .inl (fun _ => 0))), ((b2 36), .inl ((cz 36), 600, .inl (fun _ => 0))), ((b2 37), .inl ((cz 37), 600, .inl (fun _ => 0))), ((b2 38), .inl ((cz 38), 600, .inl (fun _ => 0))), ((b2 39), .inl ((cz 39), 600, .inl (fun _ => 0))), ((b2 40), .inl ((cz 40), 600, .inl (fun _ => 0))), ((b2 41), .inl ((cz 41), 600, .inl (fun _ => 0))), ((b2 42), .inl ((cz 42), 600, .inl (fun _ => 0))), ((b2 44), .inl ((cz 44), 200, .inl (fun _ => 0))), ((b2 45), .inl ((cz 45), 144, .inl (fun _ => 0))), ((b2 46), .inl ((cz 46), 144, .inl (fun _ => 0))), ((b2 47), .inl ((cz 47), 144, .inl (fun _ => 0))), ((b2 51), .inl ((cz 51), 40, .inl (fun _ => 0))), ((b2 53), .inl ((cz 53), 16384, .inl (fun _ => 0))), ((b2 54), .inl ((cz 54), 16384, .inl (fun _ => 0))), ((b2 55), .inl ((cz 55), 10240, .inl (fun _ => 0)))]) (w1 := []) hP hD [25, 61, 66] [0, 1, 2, 3, 4, 5, 6, 7, 8, 9, 10, 11, 12, 13, 14, 15, 16, 17, 18, 19, 20, 21, 22, 23, 24, 26, 27, 28, 29, 30, 31, 32, 33, 34, 35, 36, 37, 38, 39, 40, 41, 42, 43, 44, 45, 46, 47, 48, 49, 50, 51, 52, 53, 54, 55, 56, 57, 58, 59, 60, 62, 63, 64, 65, 67, 68, 69, 70] rfl rfl (by decide) (by decide) hk1 hFc hP1 hD1
  generalize H1 = H at hP hS ⊢
  have hP : va_P (dC, dI) vwCl [((a 0), .inl ((cy 0), 40, .inr (.inr (.inr (.inr (fun _ => none)))))), ((a 2), .inl ((cy 2), 40, .inr (.inr (.inr (.inr (fun _ => none)))))), ((a 4), .inl ((cy 4), 600, .inr (.inr (.inr (.inr (fun _ => none)))))), ((a 6), .inl ((cy 6), 200, .inr (.inr (.inr (.inr (fun _ => none)))))), ((a 9), .inl ((cy 9), 144, .inl (fun _ => 0))), ((a 10), .inr (8, (rO a))), ((a 20), .inl ((cy 20), 16, .inl (fun _ => 0))), ((a 21), .inl ((cy 21), 16, .inl (fun _ => 0))), ((a 25), .inl ((cy 25), 6, .inl (fun _ => 0))), ((a 26), .inl ((cy 26), 6, .inl (fun _ => 900))), ((a 11), .inr (9, [.int 450, .int 270, .int 310, .int 320, .int 290, .int 2])), ((a 12), .inr (3, (keO a))), ((a 30), .inl ((cy 30), 36, .inl (fun _ => 0))), ((a 31), .inl ((cy 31), 10, .inl (fun _ => 0))), ((a 32), .inl ((cy 32), 10, .inl (fun _ => 0))), ((a 34), .inl ((cy 34), 10, .inl (fun _ => 0))), ((a 38), .inl ((cy 38), 10, .inl (fun _ => 0))), ((a 39), .inl ((cy 39), 6, .inl (fun _ => 0))), ((a 40), .inl ((cy 40), 6, .inl (fun _ => 0))), ((a 41), .inl ((cy 41), 6, .inl (fun _ => 0))), ((a 50), .inl ((cy 50), 40, .inl (fun _ => 0))), ((a 51), .inl ((cy 51), 40, .inl (fun _ => 0))), ((a 52), .inl ((cy 52), 40, .inl (fun _ => 0))), ((a 14), .inr (5, (paO a))), ((a 60), .inl ((cy 60), 14, .inl (fun _ => 0))), ((b2 6), .inl ((cz 6), 40, .inl (fun _ => 0))), ((b2 7), .inl ((cz 7), 40, .inl (fun _ => 0))), ((b2 8), .inl ((cz 8), 40, .inl (fun _ => 0))), ((b2 9), .inl ((cz 9), 40, .inl (fun _ => 0))), ((b2 10), .inl ((cz 10), 40, .inl (fun _ => 0))), ((b2 11), .inl ((cz 11), 40, .inl (fun _ => 0))), ((b2 12), .inl ((cz 12), 40, .inl (fun _ => 0))), ((b2 13), .inl ((cz 13), 40, .inl (fun _ => 0))), ((b2 14), .inl ((cz 14), 40, .inl (fun _ => 0))), ((b2 15), .inl ((cz 15), 40, .inl (fun _ => 0))), ((b2 16), .inl ((cz 16), 40, .inl (fun _ => 0))), ((b2 17), .inl ((cz 17), 40, .inl (fun _ => 0))), ((b2 18), .inl ((cz 18), 40, .inl (fun _ => 0))), ((b2 19), .inl ((cz 19), 40, .inl (fun _ => 0))), ((b2 20), .inl ((cz 20), 40, .inl (fun _ => 0))), ((b2 21), .inl ((cz 21), 40, .inl (fun _ => 0))), ((b2 22), .inl ((cz 22), 1600, .inl (fun _ => 0))), ((b2 23), .inl ((cz 23), 40, .inl (fun _ => 0))), ((b2 24), .inl ((cz 24), 40, .inl (fun _ => 0))), ((b2 25), .inl ((cz 25), 2400, .inr (.inr (.inl (fun _ => 0))))), ((b2 26), .inl ((cz 26), 2400, .inl (fun _ => 0))), ((b2 27), .inl ((cz 27), 16, .inl (fun _ => 0))), ((b2 28), .inl ((cz 28), 16, .inl (fun _ => 0))), ((b2 31), .inl ((cz 31), 6, .inl (fun _ => 0))), ((b2 32), .inl ((cz 32), 6, .inl (fun _ => 900))), ((b2 33), .inl ((cz 33), 6, .inl (upd (upd (upd (upd (upd (upd (fun _ => 0) (0 : Int32).toNatClampNeg 450) (1 : Int32).toNatClampNeg 270) (2 : Int32).toNatClampNeg 310) (3 : Int32).toNatClampNeg 320) (4 : Int32).toNatClampNeg 290) (5 : Int32).toNatClampNeg 2))), ((b2 34), .inl ((cz 34), 36, .inl (fun _ => 0))), ((b2 35), .inl ((cz 35), 10, .inl (fun _ => 0))), ((b2 36), .inl ((cz 36), 600, .inl (fun _ => 0))), ((b2 37), .inl ((cz 37), 600, .inl (fun _ => 0))), ((b2 38), .inl ((cz 38), 600, .inl (fun _ => 0))), ((b2 39), .inl ((cz 39), 600, .inl (fun _ => 0))), ((b2 40), .inl ((cz 40), 600, .inl (fun _ => 0))), ((b2 41), .inl ((cz 41), 600, .inl (fun _ => 0))), ((b2 42), .inl ((cz 42), 600, .inl (fun _ => 0))), ((b2 44), .inl ((cz 44), 200, .inl (fun _ => 0))), ((b2 45), .inl ((cz 45), 144, .inl (fun _ => 0))), ((b2 46), .inl ((cz 46), 144, .inl (fun _ => 0))), ((b2 47), .inl ((cz 47), 144, .inl (fun _ => 0))), ((b2 51), .inl ((cz 51), 40, .inl (fun _ => 0))), ((b2 53), .inl ((cz 53), 16384, .inl (fun _ => 0))), ((b2 54), .inl ((cz 54), 16384, .inl (fun _ => 0))), ((b2 55), .inl ((cz 55), 10240, .inl (fun _ => 0)))] H := hP
  have hD : va_D (fun q : Nat => s.heap.size ≤ q) [((a 0), .inl ((cy 0), 40, .inr (.inr (.inr (.inr (fun _ => none)))))), ((a 2), .inl ((cy 2), 40, .inr (.inr (.inr (.inr (fun _ => none)))))), ((a 4), .inl ((cy 4), 600, .inr (.inr (.inr (.inr (fun _ => none)))))), ((a 6), .inl ((cy 6), 200, .inr (.inr (.inr (.inr (fun _ => none)))))), ((a 9), .inl ((cy 9), 144, .inl (fun _ => 0))), ((a 10), .inr (8, (rO a))), ((a 20), .inl ((cy 20), 16, .inl (fun _ => 0))), ((a 21), .inl ((cy 21), 16, .inl (fun _ => 0))), ((a 25), .inl ((cy 25), 6, .inl (fun _ => 0))), ((a 26), .inl ((cy 26), 6, .inl (fun _ => 900))), ((a 11), .inr (9, [.int 450, .int 270, .int 310, .int 320, .int 290, .int 2])), ((a 12), .inr (3, (keO a))), ((a 30), .inl ((cy 30), 36, .inl (fun _ => 0))), ((a 31), .inl ((cy 31), 10, .inl (fun _ => 0))), ((a 32), .inl ((cy 32), 10, .inl (fun _ => 0))), ((a 34), .inl ((cy 34), 10, .inl (fun _ => 0))), ((a 38), .inl ((cy 38), 10, .inl (fun _ => 0))), ((a 39), .inl ((cy 39), 6, .inl (fun _ => 0))), ((a 40), .inl ((cy 40), 6, .inl (fun _ => 0))), ((a 41), .inl ((cy 41), 6, .inl (fun _ => 0))), ((a 50), .inl ((cy 50), 40, .inl (fun _ => 0))), ((a 51), .inl ((cy 51), 40, .inl (fun _ => 0))), ((a 52), .inl ((cy 52), 40, .inl (fun _ => 0))), ((a 14), .inr (5, (paO a))), ((a 60), .inl ((cy 60), 14, .inl (fun _ => 0))), ((b2 6), .inl ((cz 6), 40, .inl (fun _ => 0))), ((b2 7), .inl ((cz 7), 40, .inl (fun _ => 0))), ((b2 8), .inl ((cz 8), 40, .inl (fun _ => 0))), ((b2 9), .inl ((cz 9), 40, .inl (fun _ => 0))), ((b2 10), .inl ((cz 10), 40, .inl (fun _ => 0))), ((b2 11), .inl ((cz 11), 40, .inl (fun _ => 0))), ((b2 12), .inl ((cz 12), 40, .inl (fun _ => 0))), ((b2 13), .inl ((cz 13), 40, .inl (fun _ => 0))), ((b2 14), .inl ((cz 14), 40, .inl (fun _ => 0))), ((b2 15), .inl ((cz 15), 40, .inl (fun _ => 0))), ((b2 16), .inl ((cz 16), 40, .inl (fun _ => 0))), ((b2 17), .inl ((cz 17), 40, .inl (fun _ => 0))), ((b2 18), .inl ((cz 18), 40, .inl (fun _ => 0))), ((b2 19), .inl ((cz 19), 40, .inl (fun _ => 0))), ((b2 20), .inl ((cz 20), 40, .inl (fun _ => 0))), ((b2 21), .inl ((cz 21), 40, .inl (fun _ => 0))), ((b2 22), .inl ((cz 22), 1600, .inl (fun _ => 0))), ((b2 23), .inl ((cz 23), 40, .inl (fun _ => 0))), ((b2 24), .inl ((cz 24), 40, .inl (fun _ => 0))), ((b2 25), .inl ((cz 25), 2400, .inr (.inr (.inl (fun _ => 0))))), ((b2 26), .inl ((cz 26), 2400, .inl (fun _ => 0))), ((b2 27), .inl ((cz 27), 16, .inl (fun _ => 0))), ((b2 28), .inl ((cz 28), 16, .inl (fun _ => 0))), ((b2 31), .inl ((cz 31), 6, .inl (fun _ => 0))), ((b2 32), .inl ((cz 32), 6, .inl (fun _ => 900))), ((b2 33), .inl ((cz 33), 6, .inl (upd (upd (upd (upd (upd (upd (fun _ => 0) (0 : Int32).toNatClampNeg 450) (1 : Int32).toNatClampNeg 270) (2 : Int32).toNatClampNeg 310) (3 : Int32).toNatClampNeg 320) (4 : Int32).toNatClampNeg 290) (5 : Int32).toNatClampNeg 2))), ((b2 34), .inl ((cz 34), 36, .inl (fun _ => 0))), ((b2 35), .inl ((cz 35), 10, .inl (fun _ => 0))), ((b2 36), .inl ((cz 36), 600, .inl (fun _ => 0))), ((b2 37), .inl ((cz 37), 600, .inl (fun _ => 0))), ((b2 38), .inl ((cz 38), 600, .inl (fun _ => 0))), ((b2 39), .inl ((cz 39), 600, .inl (fun _ => 0))), ((b2 40), .inl ((cz 40), 600, .inl (fun _ => 0))), ((b2 41), .inl ((cz 41), 600, .inl (fun _ => 0))), ((b2 42), .inl ((cz 42), 600, .inl (fun _ => 0))), ((b2 44), .inl ((cz 44), 200, .inl (fun _ => 0))), ((b2 45), .inl ((cz 45), 144, .inl (fun _ => 0))), ((b2 46), .inl ((cz 46), 144, .inl (fun _ => 0))), ((b2 47), .inl ((cz 47), 144, .inl (fun _ => 0))), ((b2 51), .inl ((cz 51), 40, .inl (fun _ => 0))), ((b2 53), .inl ((cz 53), 16384, .inl (fun _ => 0))), ((b2 54), .inl ((cz 54), 16384, .inl (fun _ => 0))), ((b2 55), .inl ((cz 55), 10240, .inl (fun _ => 0)))] := hD
  refine lv_icmp_eq (tgt := 1319) hx hb dL_law_1024 (by decide) (fun c_ => ?_) (fun c_ => absurd c_ (by decide))
  exact law_end l (Nat.le_refl 7) C0 (Nat.le_of_ble_eq_true rfl) (Nat.le_of_ble_eq_true rfl) hS (lv_sub hl [0, 3] rfl)

set_option maxHeartbeats 4000000 in
set_option maxRecDepth 100000 in
theorem law_c23 {p : Program} {e : Env} {s : State} {m : MethodId} {below : List Frame} {meth : Method} {c : Code} (l : Launch) {b : Nat} {xs : Nat → Int32} {dC : Nat → ClassId} {dI : Nat → Nat → Nat} (x : Nat) (a : Nat → Nat) (cy : Nat → ClassId) (y : Nat) (b2 : Nat → Nat) (cz : Nat → ClassId) {H : Heap} {locs : List Loc} {ls : Array Slot} (C0 : lw_At p s m meth c b 7 xs) (hE : ext s) (hts : ∀ w ∈ gT, w.before #[Value.ref b] s = true) (hK : va_K (dC, dI) vwCl (lT cy cz) s) (hP : va_P (dC, dI) vwCl (lW x a cy y b2 cz) H) (hD : va_D (fun q : Nat => s.heap.size ≤ q) (lW x a cy y b2 cz)) (hS : va_S (fun q : Nat => s.heap.size ≤ q) s.heap H locs) (hl : lv_has ls 4 [(3, .int 0), (2, .ref y), (1, .ref x), (0, .ref b)]) : W p l e room_1 s m #[Value.ref b] below meth c H locs 74 405288 (lw_Z below #[Value.ref b] s) (F0 m 1029 ls []) := by
  have C1 := C0
  obtain ⟨hx, hb, hr, hml, hown, hts0, hX, hbl, hlocks, hgv⟩ := C1
  have hA : ∀ q : Nat, s.heap.size ≤ q → (fun q : Nat => s.heap.size ≤ q) q := fun _ h => h
  have hbA : ¬ (fun q : Nat => s.heap.size ≤ q) b := Nat.not_le.mpr hbl
  refine lv_aload_n hx hb dL_law_1029 rfl (lv_at hl 2 rfl) ?_
  refine lv_aload_n hx hb dL_law_1030 rfl (lv_at hl 3 rfl) ?_
  refine lv_iload_n hx hb dL_law_1031 rfl (lv_at hl 0 rfl) ?_
  refine lv_iconst (v := 1) hx hb dL_law_1032 (by decide) ?_
  refine lv_iadd hx hb dL_law_1033 ?_
  refine lv_topi (fun y_ e_ => ?_)
  obtain rfl : y_ = 1 := e_.trans (by decide)
  refine va_sld hx hb hX hbl hbA hS (by unfold vp_in; decide) dL_law_1034 ?_
  refine lv_aload_n hx hb dL_law_1035 rfl (lv_at hl 3 rfl) ?_
  refine lv_iload_n hx hb dL_law_1036 rfl (lv_at hl 0 rfl) ?_
  refine lv_iconst (v := 2) hx hb dL_law_1037 (by decide) ?_
  refine lv_iadd hx hb dL_law_1038 ?_
  refine lv_topi (fun y_ e_ => ?_)
  obtain rfl : y_ = 2 := e_.trans (by decide)
  refine va_sld hx hb hX hbl hbA hS (by unfold vp_in; decide) dL_law_1039 ?_
  refine lv_aload_n hx hb dL_law_1040 rfl (lv_at hl 3 rfl) ?_
  refine lv_iload_n hx hb dL_law_1041 rfl (lv_at hl 0 rfl) ?_
  refine lv_iconst (v := 3) hx hb dL_law_1042 (by decide) ?_
  refine lv_iadd hx hb dL_law_1043 ?_
  refine lv_topi (fun y_ e_ => ?_)
  obtain rfl : y_ = 3 := e_.trans (by decide)
  refine va_sld hx hb hX hbl hbA hS (by unfold vp_in; decide) dL_law_1044 ?_
  refine lv_aload_n hx hb dL_law_1045 rfl (lv_at hl 3 rfl) ?_
  refine lv_iload_n hx hb dL_law_1046 rfl (lv_at hl 0 rfl) ?_
  refine lv_iconst (v := 4) hx hb dL_law_1047 (by decide) ?_
  refine lv_iadd hx hb dL_law_1048 ?_
  refine lv_topi (fun y_ e_ => ?_)
  obtain rfl : y_ = 4 := e_.trans (by decide)
  refine va_sld hx hb hX hbl hbA hS (by unfold vp_in; decide) dL_law_1049 ?_
  have hPc := hP.sub (ws' := [(x, .inr (10, (kO a))), ((a 8), .inl ((cy 8), 144, .inl (fun _ => (-1)))), ((a 9), .inl ((cy 9), 144, .inl (fun _ => 0))), ((a 13), .inr (2, (chO a))), ((a 14), .inr (5, (paO a)))]) [0, 5, 6, 22, 26] rfl
  have hKc := hK.sub (tys' := [((cy 8), .int), ((cy 9), .int)]) [4, 5] rfl
  have hDc := hD.sub (ws' := [(x, .inr (10, (kO a))), ((a 8), .inl ((cy 8), 144, .inl (fun _ => (-1)))), ((a 9), .inl ((cy 9), 144, .inl (fun _ => 0))), ((a 13), .inr (2, (chO a))), ((a 14), .inr (5, (paO a)))]) [0, 5, 6, 22, 26] (by decide) rfl
  have hFc := va_free (wc := [(x, .inr (10, (kO a))), ((a 8), .inl ((cy 8), 144, .inl (fun _ => (-1)))), ((a 9), .inl ((cy 9), 144, .inl (fun _ => 0))), ((a 13), .inr (2, (chO a))), ((a 14), .inr (5, (paO a)))]) hD hS hA [0, 5, 6, 22, 26] rfl
  refine va_calli (va_runV (As := [.int (xs (1 : Int32).toNatClampNeg), .int (xs (2 : Int32).toNatClampNeg), .int (xs (3 : Int32).toNatClampNeg), .int (xs (4 : Int32).toNatClampNeg)]) (rest := []) ⟨hx, hb, hml, hown, hts⟩ (k_would l dC dI H.size x a cy (xs (1 : Int32).toNatClampNeg) (xs (2 : Int32).toNatClampNeg) (xs (3 : Int32).toNatClampNeg) (xs (4 : Int32).toNatClampNeg)) (⟨callB_of 4 hts (gd mw_729) rfl rfl rfl (hts _ mw_1) (hts _ mw_726) ds_X10_would ⟨Nat.le_of_ble_eq_true rfl, Nat.le_of_ble_eq_true rfl⟩, (hts _ mw_727), (hts _ mw_728)⟩) (pr_V hPc hKc hDc hE (va_recv hKc hPc (ci := 10) (q0 := 0) rfl rfl)) rfl rfl hl.1 rfl (lv_room (Nat.le_of_ble_eq_true rfl)) dL_law_1050 ⟨Nat.le_of_ble_eq_true rfl, Nat.le_of_ble_eq_true rfl⟩) hS (fun q _ h => hFc q h) hFc (fun r_ u_ t_ H1 locs ht hvm hw_ hB hz1 hk1 hS => ?_)
  obtain rfl : r_ = (sp_would (xs (1 : Int32).toNatClampNeg) (xs (2 : Int32).toNatClampNeg) (xs (3 : Int32).toNatClampNeg) (xs (4 : Int32).toNatClampNeg)) := hw_
  have hP1 : va_P (dC, dI) vwCl [] H1 := fun k q h => by simp at h
  have hD1 : va_D (va_A [(x, .inr (10, (kO a))), ((a 8), .inl ((cy 8), 144, .inl (fun _ => (-1)))), ((a 9), .inl ((cy 9), 144, .inl (fun _ => 0))), ((a 13), .inr (2, (chO a))), ((a 14), .inr (5, (paO a)))] H.size) [] := ⟨fun i j p q h => by simp at h, fun k q h => by simp at h⟩
  obtain ⟨hP, hD⟩ := va_join (wr := [((a 0), .inl ((cy 0), 40, .inr (.inr (.inr (.inr (fun _ => none)))))), ((a 2), .inl ((cy 2), 40, .inr (.inr (.inr (.inr (fun _ => none)))))), ((a 4), .inl ((cy 4), 600, .inr (.inr (.inr (.inr (fun _ => none)))))), ((a 6), .inl ((cy 6), 200, .inr (.inr (.inr (.inr (fun _ => none)))))), ((a 10), .inr (8, (rO a))), ((a 20), .inl ((cy 20), 16, .inl (fun _ => 0))), ((a 21), .inl ((cy 21), 16, .inl (fun _ => 0))), ((a 25), .inl ((cy 25), 6, .inl (fun _ => 0))), ((a 26), .inl ((cy 26), 6, .inl (fun _ => 900))), ((a 11), .inr (9, [.int 450, .int 270, .int 310, .int 320, .int 290, .int 2])), ((a 12), .inr (3, (keO a))), ((a 30), .inl ((cy 30), 36, .inl (fun _ => 0))), ((a 31), .inl ((cy 31), 10, .inl (fun _ => 0))), ((a 32), .inl ((cy 32), 10, .inl (fun _ => 0))), ((a 34), .inl ((cy 34), 10, .inl (fun _ => 0))), ((a 38), .inl ((cy 38), 10, .inl (fun _ => 0))), ((a 39), .inl ((cy 39), 6, .inl (fun _ => 0))), ((a 40), .inl ((cy 40), 6, .inl (fun _ => 0))), ((a 41), .inl ((cy 41), 6, .inl (fun _ => 0))), ((a 50), .inl ((cy 50), 40, .inl (fun _ => 0))), ((a 51), .inl ((cy 51), 40, .inl (fun _ => 0))), ((a 52), .inl ((cy 52), 40, .inl (fun _ => 0))), ((a 60), .inl ((cy 60), 14, .inl (fun _ => 0))), (y, .inr (11, (mO b2))), ((b2 6), .inl ((cz 6), 40, .inl (fun _ => 0))), ((b2 7), .inl ((cz 7), 40, .inl (fun _ => 0))), ((b2 8), .inl ((cz 8), 40, .inl (fun _ => 0))), ((b2 9), .inl ((cz 9), 40, .inl (fun _ => 0))), ((b2 10), .inl ((cz 10), 40, .inl (fun _ => 0))), ((b2 11), .inl ((cz 11), 40, .inl (fun _ => 0))), ((b2 12), .inl ((cz 12), 40, .inl (fun _ => 0))), ((b2 13), .inl ((cz 13), 40, .inl (fun _ => 0))), ((b2 14), .inl ((cz 14), 40, .inl (fun _ => 0))), ((b2 15), .inl ((cz 15), 40, .inl (fun _ => 0))), ((b2 16), .inl ((cz 16), 40, .inl (fun _ => 0))), ((b2 17), .inl ((cz 17), 40, .inl (fun _ => 0))), ((b2 18), .inl ((cz 18), 40, .inl (fun _ => 0))), ((b2 19), .inl ((cz 19), 40, .inl (fun _ => 0))), ((b2 20), .inl ((cz 20), 40, .inl (fun _ => 0))), ((b2 21), .inl ((cz 21), 40, .inl (fun _ => 0))), ((b2 22), .inl ((cz 22), 1600, .inl (fun _ => 0))), ((b2 23), .inl ((cz 23), 40, .inl (fun _ => 0))), ((b2 24), .inl ((cz 24), 40, .inl (fun _ => 0))), ((b2 25), .inl ((cz 25), 2400, .inr (.inr (.inl (fun _ => 0))))), ((b2 26), .inl ((cz 26), 2400, .inl (fun _ => 0))), ((b2 27), .inl ((cz 27), 16, .inl (fun _ => 0))), ((b2 28), .inl ((cz 28), 16, .inl (fun _ => 0))), ((b2 31), .inl ((cz 31), 6, .inl (fun _ => 0))), ((b2 32), .inl ((cz 32), 6, .inl (fun _ => 900))), ((b2 33), .inl ((cz 33), 6, .inl (upd (upd (upd (upd (upd (upd (fun _ => 0) (0 : Int32).toNatClampNeg 450) (1 : Int32).toNatClampNeg 270) (2 : Int32).toNatClampNeg 310) (3 : Int32).toNatClampNeg 320) (4 : Int32).toNatClampNeg 290) (5 : Int32).toNatClampNeg 2))), ((b2 34), .inl ((cz 34), 36, .inl (fun _ => 0))), ((b2 35), .inl ((cz 35), 10, .inl (fun _ => 0))), ((b2 36), .inl ((cz 36), 600, .inl (fun _ => 0))), ((b2 37), .inl ((cz 37), 600, .inl (fun _ => 0))), ((b2 38), .inl ((cz 38), 600, .inl (fun _ => 0))), ((b2 39), .inl ((cz 39), 600, .inl (fun _ => 0))), ((b2 40), .inl ((cz 40), 600, .inl (fun _ => 0))), ((b2 41), .inl ((cz 41), 600, .inl (fun _ => 0))), ((b2 42), .inl ((cz 42), 600, .inl (fun _ => 0))), ((b2 43), .inl ((cz 43), 144, .inl (fun _ => (-1)))), ((b2 44), .inl ((cz 44), 200, .inl (fun _ => 0))), ((b2 45), .inl ((cz 45), 144, .inl (fun _ => 0))), ((b2 46), .inl ((cz 46), 144, .inl (fun _ => 0))), ((b2 47), .inl ((cz 47), 144, .inl (fun _ => 0))), ((b2 50), .inl ((cz 50), 348500, .inl (fun _ => 0))), ((b2 51), .inl ((cz 51), 40, .inl (fun _ => 0))), ((b2 53), .inl ((cz 53), 16384, .inl (fun _ => 0))), ((b2 54), .inl ((cz 54), 16384, .inl (fun _ => 0))), ((b2 55), .inl ((cz 55), 10240, .inl (fun _ => 0)))]) (w1 := []) hP hD [0, 5, 6, 22, 26] [1, 2, 3, 4, 7, 8, 9, 10, 11, 12, 13, 14, 15, 16, 17, 18, 19, 20, 21, 23, 24, 25, 27, 28, 29, 30, 31, 32, 33, 34, 35, 36, 37, 38, 39, 40, 41, 42, 43, 44, 45, 46, 47, 48, 49, 50, 51, 52, 53, 54, 55, 56, 57, 58, 59, 60, 61, 62, 63, 64, 65, 66, 67, 68, 69, 70, 71, 72, 73] rfl rfl (by decide) (by decide) hk1 hFc hP1 hD1
  generalize H1 = H at hP hS ⊢
  have hP : va_P (dC, dI) vwCl [((a 0), .inl ((cy 0), 40, .inr (.inr (.inr (.inr (fun _ => none)))))), ((a 2), .inl ((cy 2), 40, .inr (.inr (.inr (.inr (fun _ => none)))))), ((a 4), .inl ((cy 4), 600, .inr (.inr (.inr (.inr (fun _ => none)))))), ((a 6), .inl ((cy 6), 200, .inr (.inr (.inr (.inr (fun _ => none)))))), ((a 10), .inr (8, (rO a))), ((a 20), .inl ((cy 20), 16, .inl (fun _ => 0))), ((a 21), .inl ((cy 21), 16, .inl (fun _ => 0))), ((a 25), .inl ((cy 25), 6, .inl (fun _ => 0))), ((a 26), .inl ((cy 26), 6, .inl (fun _ => 900))), ((a 11), .inr (9, [.int 450, .int 270, .int 310, .int 320, .int 290, .int 2])), ((a 12), .inr (3, (keO a))), ((a 30), .inl ((cy 30), 36, .inl (fun _ => 0))), ((a 31), .inl ((cy 31), 10, .inl (fun _ => 0))), ((a 32), .inl ((cy 32), 10, .inl (fun _ => 0))), ((a 34), .inl ((cy 34), 10, .inl (fun _ => 0))), ((a 38), .inl ((cy 38), 10, .inl (fun _ => 0))), ((a 39), .inl ((cy 39), 6, .inl (fun _ => 0))), ((a 40), .inl ((cy 40), 6, .inl (fun _ => 0))), ((a 41), .inl ((cy 41), 6, .inl (fun _ => 0))), ((a 50), .inl ((cy 50), 40, .inl (fun _ => 0))), ((a 51), .inl ((cy 51), 40, .inl (fun _ => 0))), ((a 52), .inl ((cy 52), 40, .inl (fun _ => 0))), ((a 60), .inl ((cy 60), 14, .inl (fun _ => 0))), (y, .inr (11, (mO b2))), ((b2 6), .inl ((cz 6), 40, .inl (fun _ => 0))), ((b2 7), .inl ((cz 7), 40, .inl (fun _ => 0))), ((b2 8), .inl ((cz 8), 40, .inl (fun _ => 0))), ((b2 9), .inl ((cz 9), 40, .inl (fun _ => 0))), ((b2 10), .inl ((cz 10), 40, .inl (fun _ => 0))), ((b2 11), .inl ((cz 11), 40, .inl (fun _ => 0))), ((b2 12), .inl ((cz 12), 40, .inl (fun _ => 0))), ((b2 13), .inl ((cz 13), 40, .inl (fun _ => 0))), ((b2 14), .inl ((cz 14), 40, .inl (fun _ => 0))), ((b2 15), .inl ((cz 15), 40, .inl (fun _ => 0))), ((b2 16), .inl ((cz 16), 40, .inl (fun _ => 0))), ((b2 17), .inl ((cz 17), 40, .inl (fun _ => 0))), ((b2 18), .inl ((cz 18), 40, .inl (fun _ => 0))), ((b2 19), .inl ((cz 19), 40, .inl (fun _ => 0))), ((b2 20), .inl ((cz 20), 40, .inl (fun _ => 0))), ((b2 21), .inl ((cz 21), 40, .inl (fun _ => 0))), ((b2 22), .inl ((cz 22), 1600, .inl (fun _ => 0))), ((b2 23), .inl ((cz 23), 40, .inl (fun _ => 0))), ((b2 24), .inl ((cz 24), 40, .inl (fun _ => 0))), ((b2 25), .inl ((cz 25), 2400, .inr (.inr (.inl (fun _ => 0))))), ((b2 26), .inl ((cz 26), 2400, .inl (fun _ => 0))), ((b2 27), .inl ((cz 27), 16, .inl (fun _ => 0))), ((b2 28), .inl ((cz 28), 16, .inl (fun _ => 0))), ((b2 31), .inl ((cz 31), 6, .inl (fun _ => 0))), ((b2 32), .inl ((cz 32), 6, .inl (fun _ => 900))), ((b2 33), .inl ((cz 33), 6, .inl (upd (upd (upd (upd (upd (upd (fun _ => 0) (0 : Int32).toNatClampNeg 450) (1 : Int32).toNatClampNeg 270) (2 : Int32).toNatClampNeg 310) (3 : Int32).toNatClampNeg 320) (4 : Int32).toNatClampNeg 290) (5 : Int32).toNatClampNeg 2))), ((b2 34), .inl ((cz 34), 36, .inl (fun _ => 0))), ((b2 35), .inl ((cz 35), 10, .inl (fun _ => 0))), ((b2 36), .inl ((cz 36), 600, .inl (fun _ => 0))), ((b2 37), .inl ((cz 37), 600, .inl (fun _ => 0))), ((b2 38), .inl ((cz 38), 600, .inl (fun _ => 0))), ((b2 39), .inl ((cz 39), 600, .inl (fun _ => 0))), ((b2 40), .inl ((cz 40), 600, .inl (fun _ => 0))), ((b2 41), .inl ((cz 41), 600, .inl (fun _ => 0))), ((b2 42), .inl ((cz 42), 600, .inl (fun _ => 0))), ((b2 43), .inl ((cz 43), 144, .inl (fun _ => (-1)))), ((b2 44), .inl ((cz 44), 200, .inl (fun _ => 0))), ((b2 45), .inl ((cz 45), 144, .inl (fun _ => 0))), ((b2 46), .inl ((cz 46), 144, .inl (fun _ => 0))), ((b2 47), .inl ((cz 47), 144, .inl (fun _ => 0))), ((b2 50), .inl ((cz 50), 348500, .inl (fun _ => 0))), ((b2 51), .inl ((cz 51), 40, .inl (fun _ => 0))), ((b2 53), .inl ((cz 53), 16384, .inl (fun _ => 0))), ((b2 54), .inl ((cz 54), 16384, .inl (fun _ => 0))), ((b2 55), .inl ((cz 55), 10240, .inl (fun _ => 0)))] H := hP
  have hD : va_D (fun q : Nat => s.heap.size ≤ q) [((a 0), .inl ((cy 0), 40, .inr (.inr (.inr (.inr (fun _ => none)))))), ((a 2), .inl ((cy 2), 40, .inr (.inr (.inr (.inr (fun _ => none)))))), ((a 4), .inl ((cy 4), 600, .inr (.inr (.inr (.inr (fun _ => none)))))), ((a 6), .inl ((cy 6), 200, .inr (.inr (.inr (.inr (fun _ => none)))))), ((a 10), .inr (8, (rO a))), ((a 20), .inl ((cy 20), 16, .inl (fun _ => 0))), ((a 21), .inl ((cy 21), 16, .inl (fun _ => 0))), ((a 25), .inl ((cy 25), 6, .inl (fun _ => 0))), ((a 26), .inl ((cy 26), 6, .inl (fun _ => 900))), ((a 11), .inr (9, [.int 450, .int 270, .int 310, .int 320, .int 290, .int 2])), ((a 12), .inr (3, (keO a))), ((a 30), .inl ((cy 30), 36, .inl (fun _ => 0))), ((a 31), .inl ((cy 31), 10, .inl (fun _ => 0))), ((a 32), .inl ((cy 32), 10, .inl (fun _ => 0))), ((a 34), .inl ((cy 34), 10, .inl (fun _ => 0))), ((a 38), .inl ((cy 38), 10, .inl (fun _ => 0))), ((a 39), .inl ((cy 39), 6, .inl (fun _ => 0))), ((a 40), .inl ((cy 40), 6, .inl (fun _ => 0))), ((a 41), .inl ((cy 41), 6, .inl (fun _ => 0))), ((a 50), .inl ((cy 50), 40, .inl (fun _ => 0))), ((a 51), .inl ((cy 51), 40, .inl (fun _ => 0))), ((a 52), .inl ((cy 52), 40, .inl (fun _ => 0))), ((a 60), .inl ((cy 60), 14, .inl (fun _ => 0))), (y, .inr (11, (mO b2))), ((b2 6), .inl ((cz 6), 40, .inl (fun _ => 0))), ((b2 7), .inl ((cz 7), 40, .inl (fun _ => 0))), ((b2 8), .inl ((cz 8), 40, .inl (fun _ => 0))), ((b2 9), .inl ((cz 9), 40, .inl (fun _ => 0))), ((b2 10), .inl ((cz 10), 40, .inl (fun _ => 0))), ((b2 11), .inl ((cz 11), 40, .inl (fun _ => 0))), ((b2 12), .inl ((cz 12), 40, .inl (fun _ => 0))), ((b2 13), .inl ((cz 13), 40, .inl (fun _ => 0))), ((b2 14), .inl ((cz 14), 40, .inl (fun _ => 0))), ((b2 15), .inl ((cz 15), 40, .inl (fun _ => 0))), ((b2 16), .inl ((cz 16), 40, .inl (fun _ => 0))), ((b2 17), .inl ((cz 17), 40, .inl (fun _ => 0))), ((b2 18), .inl ((cz 18), 40, .inl (fun _ => 0))), ((b2 19), .inl ((cz 19), 40, .inl (fun _ => 0))), ((b2 20), .inl ((cz 20), 40, .inl (fun _ => 0))), ((b2 21), .inl ((cz 21), 40, .inl (fun _ => 0))), ((b2 22), .inl ((cz 22), 1600, .inl (fun _ => 0))), ((b2 23), .inl ((cz 23), 40, .inl (fun _ => 0))), ((b2 24), .inl ((cz 24), 40, .inl (fun _ => 0))), ((b2 25), .inl ((cz 25), 2400, .inr (.inr (.inl (fun _ => 0))))), ((b2 26), .inl ((cz 26), 2400, .inl (fun _ => 0))), ((b2 27), .inl ((cz 27), 16, .inl (fun _ => 0))), ((b2 28), .inl ((cz 28), 16, .inl (fun _ => 0))), ((b2 31), .inl ((cz 31), 6, .inl (fun _ => 0))), ((b2 32), .inl ((cz 32), 6, .inl (fun _ => 900))), ((b2 33), .inl ((cz 33), 6, .inl (upd (upd (upd (upd (upd (upd (fun _ => 0) (0 : Int32).toNatClampNeg 450) (1 : Int32).toNatClampNeg 270) (2 : Int32).toNatClampNeg 310) (3 : Int32).toNatClampNeg 320) (4 : Int32).toNatClampNeg 290) (5 : Int32).toNatClampNeg 2))), ((b2 34), .inl ((cz 34), 36, .inl (fun _ => 0))), ((b2 35), .inl ((cz 35), 10, .inl (fun _ => 0))), ((b2 36), .inl ((cz 36), 600, .inl (fun _ => 0))), ((b2 37), .inl ((cz 37), 600, .inl (fun _ => 0))), ((b2 38), .inl ((cz 38), 600, .inl (fun _ => 0))), ((b2 39), .inl ((cz 39), 600, .inl (fun _ => 0))), ((b2 40), .inl ((cz 40), 600, .inl (fun _ => 0))), ((b2 41), .inl ((cz 41), 600, .inl (fun _ => 0))), ((b2 42), .inl ((cz 42), 600, .inl (fun _ => 0))), ((b2 43), .inl ((cz 43), 144, .inl (fun _ => (-1)))), ((b2 44), .inl ((cz 44), 200, .inl (fun _ => 0))), ((b2 45), .inl ((cz 45), 144, .inl (fun _ => 0))), ((b2 46), .inl ((cz 46), 144, .inl (fun _ => 0))), ((b2 47), .inl ((cz 47), 144, .inl (fun _ => 0))), ((b2 50), .inl ((cz 50), 348500, .inl (fun _ => 0))), ((b2 51), .inl ((cz 51), 40, .inl (fun _ => 0))), ((b2 53), .inl ((cz 53), 16384, .inl (fun _ => 0))), ((b2 54), .inl ((cz 54), 16384, .inl (fun _ => 0))), ((b2 55), .inl ((cz 55), 10240, .inl (fun _ => 0)))] := hD
  refine lv_aload_n hx hb dL_law_1053 rfl (lv_at hl 1 rfl) ?_
  refine lv_aload_n hx hb dL_law_1054 rfl (lv_at hl 3 rfl) ?_
  refine lv_iload_n hx hb dL_law_1055 rfl (lv_at hl 0 rfl) ?_
  refine lv_iconst (v := 1) hx hb dL_law_1056 (by decide) ?_
  refine lv_iadd hx hb dL_law_1057 ?_
  refine lv_topi (fun y_ e_ => ?_)
  obtain rfl : y_ = 1 := e_.trans (by decide)
  refine va_sld hx hb hX hbl hbA hS (by unfold vp_in; decide) dL_law_1058 ?_
  refine lv_aload_n hx hb dL_law_1059 rfl (lv_at hl 3 rfl) ?_
  refine lv_iload_n hx hb dL_law_1060 rfl (lv_at hl 0 rfl) ?_
  refine lv_iconst (v := 2) hx hb dL_law_1061 (by decide) ?_
  refine lv_iadd hx hb dL_law_1062 ?_
  refine lv_topi (fun y_ e_ => ?_)
  obtain rfl : y_ = 2 := e_.trans (by decide)
  refine va_sld hx hb hX hbl hbA hS (by unfold vp_in; decide) dL_law_1063 ?_
  refine lv_aload_n hx hb dL_law_1064 rfl (lv_at hl 3 rfl) ?_
  refine lv_iload_n hx hb dL_law_1065 rfl (lv_at hl 0 rfl) ?_
  refine lv_iconst (v := 3) hx hb dL_law_1066 (by decide) ?_
  refine lv_iadd hx hb dL_law_1067 ?_
  refine lv_topi (fun y_ e_ => ?_)
  obtain rfl : y_ = 3 := e_.trans (by decide)
  refine va_sld hx hb hX hbl hbA hS (by unfold vp_in; decide) dL_law_1068 ?_
  refine lv_aload_n hx hb dL_law_1069 rfl (lv_at hl 3 rfl) ?_
  refine lv_iload_n hx hb dL_law_1070 rfl (lv_at hl 0 rfl) ?_
  refine lv_iconst (v := 4) hx hb dL_law_1071 (by decide) ?_
  refine lv_iadd hx hb dL_law_1072 ?_
  refine lv_topi (fun y_ e_ => ?_)
  obtain rfl : y_ = 4 := e_.trans (by decide)
  refine va_sld hx hb hX hbl hbA hS (by unfold vp_in; decide) dL_law_1073 ?_
  have hPc := hP.sub (ws' := [(y, .inr (11, (mO b2))), ((b2 43), .inl ((cz 43), 144, .inl (fun _ => (-1)))), ((b2 50), .inl ((cz 50), 348500, .inl (fun _ => 0))), ((b2 53), .inl ((cz 53), 16384, .inl (fun _ => 0))), ((b2 54), .inl ((cz 54), 16384, .inl (fun _ => 0)))]) [23, 59, 64, 66, 67] rfl
  have hKc := hK.sub (tys' := [((cz 43), .int), ((cz 50), .boolean), ((cz 53), .int), ((cz 54), .byte)]) [57, 62, 64, 65] rfl
  have hDc := hD.sub (ws' := [(y, .inr (11, (mO b2))), ((b2 43), .inl ((cz 43), 144, .inl (fun _ => (-1)))), ((b2 50), .inl ((cz 50), 348500, .inl (fun _ => 0))), ((b2 53), .inl ((cz 53), 16384, .inl (fun _ => 0))), ((b2 54), .inl ((cz 54), 16384, .inl (fun _ => 0)))]) [23, 59, 64, 66, 67] (by decide) rfl
  have hFc := va_free (wc := [(y, .inr (11, (mO b2))), ((b2 43), .inl ((cz 43), 144, .inl (fun _ => (-1)))), ((b2 50), .inl ((cz 50), 348500, .inl (fun _ => 0))), ((b2 53), .inl ((cz 53), 16384, .inl (fun _ => 0))), ((b2 54), .inl ((cz 54), 16384, .inl (fun _ => 0)))]) hD hS hA [23, 59, 64, 66, 67] rfl
  refine va_calli (va_runV (As := [.int (xs (1 : Int32).toNatClampNeg), .int (xs (2 : Int32).toNatClampNeg), .int (xs (3 : Int32).toNatClampNeg), .int (xs (4 : Int32).toNatClampNeg)]) (rest := [.int (sp_would (xs (1 : Int32).toNatClampNeg) (xs (2 : Int32).toNatClampNeg) (xs (3 : Int32).toNatClampNeg) (xs (4 : Int32).toNatClampNeg))]) ⟨hx, hb, hml, hown, hts⟩ (m_would l dC dI H.size y b2 cz (xs (1 : Int32).toNatClampNeg) (xs (2 : Int32).toNatClampNeg) (xs (3 : Int32).toNatClampNeg) (xs (4 : Int32).toNatClampNeg)) (⟨callB_of 4 hts (gd mw_1215) rfl rfl rfl (hts _ mw_8) (hts _ mw_1212) ds_X11_would ⟨Nat.le_of_ble_eq_true rfl, Nat.le_of_ble_eq_true rfl⟩, (hts _ mw_1213), (hts _ mw_1214)⟩) (pr_V hPc hKc hDc hE (va_recv hKc hPc (ci := 11) (q0 := 0) rfl rfl)) rfl rfl hl.1 rfl (lv_room (Nat.le_of_ble_eq_true rfl)) dL_law_1074 ⟨Nat.le_of_ble_eq_true rfl, Nat.le_of_ble_eq_true rfl⟩) hS (fun q _ h => hFc q h) hFc (fun r_ u_ t_ H1 locs ht hvm hw_ hB hz1 hk1 hS => ?_)
  obtain rfl : r_ = (sp_would (xs (1 : Int32).toNatClampNeg) (xs (2 : Int32).toNatClampNeg) (xs (3 : Int32).toNatClampNeg) (xs (4 : Int32).toNatClampNeg)) := hw_
  have hP1 : va_P (dC, dI) vwCl [] H1 := fun k q h => by simp at h
  have hD1 : va_D (va_A [(y, .inr (11, (mO b2))), ((b2 43), .inl ((cz 43), 144, .inl (fun _ => (-1)))), ((b2 50), .inl ((cz 50), 348500, .inl (fun _ => 0))), ((b2 53), .inl ((cz 53), 16384, .inl (fun _ => 0))), ((b2 54), .inl ((cz 54), 16384, .inl (fun _ => 0)))] H.size) [] := ⟨fun i j p q h => by simp at h, fun k q h => by simp at h⟩
  obtain ⟨hP, hD⟩ := va_join (wr := [((a 0), .inl ((cy 0), 40, .inr (.inr (.inr (.inr (fun _ => none)))))), ((a 2), .inl ((cy 2), 40, .inr (.inr (.inr (.inr (fun _ => none)))))), ((a 4), .inl ((cy 4), 600, .inr (.inr (.inr (.inr (fun _ => none)))))), ((a 6), .inl ((cy 6), 200, .inr (.inr (.inr (.inr (fun _ => none)))))), ((a 10), .inr (8, (rO a))), ((a 20), .inl ((cy 20), 16, .inl (fun _ => 0))), ((a 21), .inl ((cy 21), 16, .inl (fun _ => 0))), ((a 25), .inl ((cy 25), 6, .inl (fun _ => 0))), ((a 26), .inl ((cy 26), 6, .inl (fun _ => 900))), ((a 11), .inr (9, [.int 450, .int 270, .int 310, .int 320, .int 290, .int 2])), ((a 12), .inr (3, (keO a))), ((a 30), .inl ((cy 30), 36, .inl (fun _ => 0))), ((a 31), .inl ((cy 31), 10, .inl (fun _ => 0))), ((a 32), .inl ((cy 32), 10, .inl (fun _ => 0))), ((a 34), .inl ((cy 34), 10, .inl (fun _ => 0))), ((a 38), .inl ((cy 38), 10, .inl (fun _ => 0))), ((a 39), .inl ((cy 39), 6, .inl (fun _ => 0))), ((a 40), .inl ((cy 40), 6, .inl (fun _ => 0))), ((a 41), .inl ((cy 41), 6, .inl (fun _ => 0))), ((a 50), .inl ((cy 50), 40, .inl (fun _ => 0))), ((a 51), .inl ((cy 51), 40, .inl (fun _ => 0))), ((a 52), .inl ((cy 52), 40, .inl (fun _ => 0))), ((a 60), .inl ((cy 60), 14, .inl (fun _ => 0))), ((b2 6), .inl ((cz 6), 40, .inl (fun _ => 0))), ((b2 7), .inl ((cz 7), 40, .inl (fun _ => 0))), ((b2 8), .inl ((cz 8), 40, .inl (fun _ => 0))), ((b2 9), .inl ((cz 9), 40, .inl (fun _ => 0))), ((b2 10), .inl ((cz 10), 40, .inl (fun _ => 0))), ((b2 11), .inl ((cz 11), 40, .inl (fun _ => 0))), ((b2 12), .inl ((cz 12), 40, .inl (fun _ => 0))), ((b2 13), .inl ((cz 13), 40, .inl (fun _ => 0))), ((b2 14), .inl ((cz 14), 40, .inl (fun _ => 0))), ((b2 15), .inl ((cz 15), 40, .inl (fun _ => 0))), ((b2 16), .inl ((cz 16), 40, .inl (fun _ => 0))), ((b2 17), .inl ((cz 17), 40, .inl (fun _ => 0))), ((b2 18), .inl ((cz 18), 40, .inl (fun _ => 0))), ((b2 19), .inl ((cz 19), 40, .inl (fun _ => 0))), ((b2 20), .inl ((cz 20), 40, .inl (fun _ => 0))), ((b2 21), .inl ((cz 21), 40, .inl (fun _ => 0))), ((b2 22), .inl ((cz 22), 1600, .inl (fun _ => 0))), ((b2 23), .inl ((cz 23), 40, .inl (fun _ => 0))), ((b2 24), .inl ((cz 24), 40, .inl (fun _ => 0))), ((b2 25), .inl ((cz 25), 2400, .inr (.inr (.inl (fun _ => 0))))), ((b2 26), .inl ((cz 26), 2400, .inl (fun _ => 0))), ((b2 27), .inl ((cz 27), 16, .inl (fun _ => 0))), ((b2 28), .inl ((cz 28), 16, .inl (fun _ => 0))), ((b2 31), .inl ((cz 31), 6, .inl (fun _ => 0))), ((b2 32), .inl ((cz 32), 6, .inl (fun _ => 900))), ((b2 33), .inl ((cz 33), 6, .inl (upd (upd (upd (upd (upd (upd (fun _ => 0) (0 : Int32).toNatClampNeg 450) (1 : Int32).toNatClampNeg 270) (2 : Int32).toNatClampNeg 310) (3 : Int32).toNatClampNeg 320) (4 : Int32).toNatClampNeg 290) (5 : Int32).toNatClampNeg 2))), ((b2 34), .inl ((cz 34), 36, .inl (fun _ => 0))), ((b2 35), .inl ((cz 35), 10, .inl (fun _ => 0))), ((b2 36), .inl ((cz 36), 600, .inl (fun _ => 0))), ((b2 37), .inl ((cz 37), 600, .inl (fun _ => 0))), ((b2 38), .inl ((cz 38), 600, .inl (fun _ => 0))), ((b2 39), .inl ((cz 39), 600, .inl (fun _ => 0))), ((b2 40), .inl ((cz 40), 600, .inl (fun _ => 0))), ((b2 41), .inl ((cz 41), 600, .inl (fun _ => 0))), ((b2 42), .inl ((cz 42), 600, .inl (fun _ => 0))), ((b2 44), .inl ((cz 44), 200, .inl (fun _ => 0))), ((b2 45), .inl ((cz 45), 144, .inl (fun _ => 0))), ((b2 46), .inl ((cz 46), 144, .inl (fun _ => 0))), ((b2 47), .inl ((cz 47), 144, .inl (fun _ => 0))), ((b2 51), .inl ((cz 51), 40, .inl (fun _ => 0))), ((b2 55), .inl ((cz 55), 10240, .inl (fun _ => 0)))]) (w1 := []) hP hD [23, 59, 64, 66, 67] [0, 1, 2, 3, 4, 5, 6, 7, 8, 9, 10, 11, 12, 13, 14, 15, 16, 17, 18, 19, 20, 21, 22, 24, 25, 26, 27, 28, 29, 30, 31, 32, 33, 34, 35, 36, 37, 38, 39, 40, 41, 42, 43, 44, 45, 46, 47, 48, 49, 50, 51, 52, 53, 54, 55, 56, 57, 58, 60, 61, 62, 63, 65, 68] rfl rfl (by decide) (by decide) hk1 hFc hP1 hD1
  generalize H1 = H at hP hS ⊢
  have hP : va_P (dC, dI) vwCl [((a 0), .inl ((cy 0), 40, .inr (.inr (.inr (.inr (fun _ => none)))))), ((a 2), .inl ((cy 2), 40, .inr (.inr (.inr (.inr (fun _ => none)))))), ((a 4), .inl ((cy 4), 600, .inr (.inr (.inr (.inr (fun _ => none)))))), ((a 6), .inl ((cy 6), 200, .inr (.inr (.inr (.inr (fun _ => none)))))), ((a 10), .inr (8, (rO a))), ((a 20), .inl ((cy 20), 16, .inl (fun _ => 0))), ((a 21), .inl ((cy 21), 16, .inl (fun _ => 0))), ((a 25), .inl ((cy 25), 6, .inl (fun _ => 0))), ((a 26), .inl ((cy 26), 6, .inl (fun _ => 900))), ((a 11), .inr (9, [.int 450, .int 270, .int 310, .int 320, .int 290, .int 2])), ((a 12), .inr (3, (keO a))), ((a 30), .inl ((cy 30), 36, .inl (fun _ => 0))), ((a 31), .inl ((cy 31), 10, .inl (fun _ => 0))), ((a 32), .inl ((cy 32), 10, .inl (fun _ => 0))), ((a 34), .inl ((cy 34), 10, .inl (fun _ => 0))), ((a 38), .inl ((cy 38), 10, .inl (fun _ => 0))), ((a 39), .inl ((cy 39), 6, .inl (fun _ => 0))), ((a 40), .inl ((cy 40), 6, .inl (fun _ => 0))), ((a 41), .inl ((cy 41), 6, .inl (fun _ => 0))), ((a 50), .inl ((cy 50), 40, .inl (fun _ => 0))), ((a 51), .inl ((cy 51), 40, .inl (fun _ => 0))), ((a 52), .inl ((cy 52), 40, .inl (fun _ => 0))), ((a 60), .inl ((cy 60), 14, .inl (fun _ => 0))), ((b2 6), .inl ((cz 6), 40, .inl (fun _ => 0))), ((b2 7), .inl ((cz 7), 40, .inl (fun _ => 0))), ((b2 8), .inl ((cz 8), 40, .inl (fun _ => 0))), ((b2 9), .inl ((cz 9), 40, .inl (fun _ => 0))), ((b2 10), .inl ((cz 10), 40, .inl (fun _ => 0))), ((b2 11), .inl ((cz 11), 40, .inl (fun _ => 0))), ((b2 12), .inl ((cz 12), 40, .inl (fun _ => 0))), ((b2 13), .inl ((cz 13), 40, .inl (fun _ => 0))), ((b2 14), .inl ((cz 14), 40, .inl (fun _ => 0))), ((b2 15), .inl ((cz 15), 40, .inl (fun _ => 0))), ((b2 16), .inl ((cz 16), 40, .inl (fun _ => 0))), ((b2 17), .inl ((cz 17), 40, .inl (fun _ => 0))), ((b2 18), .inl ((cz 18), 40, .inl (fun _ => 0))), ((b2 19), .inl ((cz 19), 40, .inl (fun _ => 0))), ((b2 20), .inl ((cz 20), 40, .inl (fun _ => 0))), ((b2 21), .inl ((cz 21), 40, .inl (fun _ => 0))), ((b2 22), .inl ((cz 22), 1600, .inl (fun _ => 0))), ((b2 23), .inl ((cz 23), 40, .inl (fun _ => 0))), ((b2 24), .inl ((cz 24), 40, .inl (fun _ => 0))), ((b2 25), .inl ((cz 25), 2400, .inr (.inr (.inl (fun _ => 0))))), ((b2 26), .inl ((cz 26), 2400, .inl (fun _ => 0))), ((b2 27), .inl ((cz 27), 16, .inl (fun _ => 0))), ((b2 28), .inl ((cz 28), 16, .inl (fun _ => 0))), ((b2 31), .inl ((cz 31), 6, .inl (fun _ => 0))), ((b2 32), .inl ((cz 32), 6, .inl (fun _ => 900))), ((b2 33), .inl ((cz 33), 6, .inl (upd (upd (upd (upd (upd (upd (fun _ => 0) (0 : Int32).toNatClampNeg 450) (1 : Int32).toNatClampNeg 270) (2 : Int32).toNatClampNeg 310) (3 : Int32).toNatClampNeg 320) (4 : Int32).toNatClampNeg 290) (5 : Int32).toNatClampNeg 2))), ((b2 34), .inl ((cz 34), 36, .inl (fun _ => 0))), ((b2 35), .inl ((cz 35), 10, .inl (fun _ => 0))), ((b2 36), .inl ((cz 36), 600, .inl (fun _ => 0))), ((b2 37), .inl ((cz 37), 600, .inl (fun _ => 0))), ((b2 38), .inl ((cz 38), 600, .inl (fun _ => 0))), ((b2 39), .inl ((cz 39), 600, .inl (fun _ => 0))), ((b2 40), .inl ((cz 40), 600, .inl (fun _ => 0))), ((b2 41), .inl ((cz 41), 600, .inl (fun _ => 0))), ((b2 42), .inl ((cz 42), 600, .inl (fun _ => 0))), ((b2 44), .inl ((cz 44), 200, .inl (fun _ => 0))), ((b2 45), .inl ((cz 45), 144, .inl (fun _ => 0))), ((b2 46), .inl ((cz 46), 144, .inl (fun _ => 0))), ((b2 47), .inl ((cz 47), 144, .inl (fun _ => 0))), ((b2 51), .inl ((cz 51), 40, .inl (fun _ => 0))), ((b2 55), .inl ((cz 55), 10240, .inl (fun _ => 0)))] H := hP
  have hD : va_D (fun q : Nat => s.heap.size ≤ q) [((a 0), .inl ((cy 0), 40, .inr (.inr (.inr (.inr (fun _ => none)))))), ((a 2), .inl ((cy 2), 40, .inr (.inr (.inr (.inr (fun _ => none)))))), ((a 4), .inl ((cy 4), 600, .inr (.inr (.inr (.inr (fun _ => none)))))), ((a 6), .inl ((cy 6), 200, .inr (.inr (.inr (.inr (fun _ => none)))))), ((a 10), .inr (8, (rO a))), ((a 20), .inl ((cy 20), 16, .inl (fun _ => 0))), ((a 21), .inl ((cy 21), 16, .inl (fun _ => 0))), ((a 25), .inl ((cy 25), 6, .inl (fun _ => 0))), ((a 26), .inl ((cy 26), 6, .inl (fun _ => 900))), ((a 11), .inr (9, [.int 450, .int 270, .int 310, .int 320, .int 290, .int 2])), ((a 12), .inr (3, (keO a))), ((a 30), .inl ((cy 30), 36, .inl (fun _ => 0))), ((a 31), .inl ((cy 31), 10, .inl (fun _ => 0))), ((a 32), .inl ((cy 32), 10, .inl (fun _ => 0))), ((a 34), .inl ((cy 34), 10, .inl (fun _ => 0))), ((a 38), .inl ((cy 38), 10, .inl (fun _ => 0))), ((a 39), .inl ((cy 39), 6, .inl (fun _ => 0))), ((a 40), .inl ((cy 40), 6, .inl (fun _ => 0))), ((a 41), .inl ((cy 41), 6, .inl (fun _ => 0))), ((a 50), .inl ((cy 50), 40, .inl (fun _ => 0))), ((a 51), .inl ((cy 51), 40, .inl (fun _ => 0))), ((a 52), .inl ((cy 52), 40, .inl (fun _ => 0))), ((a 60), .inl ((cy 60), 14, .inl (fun _ => 0))), ((b2 6), .inl ((cz 6), 40, .inl (fun _ => 0))), ((b2 7), .inl ((cz 7), 40, .inl (fun _ => 0))), ((b2 8), .inl ((cz 8), 40, .inl (fun _ => 0))), ((b2 9), .inl ((cz 9), 40, .inl (fun _ => 0))), ((b2 10), .inl ((cz 10), 40, .inl (fun _ => 0))), ((b2 11), .inl ((cz 11), 40, .inl (fun _ => 0))), ((b2 12), .inl ((cz 12), 40, .inl (fun _ => 0))), ((b2 13), .inl ((cz 13), 40, .inl (fun _ => 0))), ((b2 14), .inl ((cz 14), 40, .inl (fun _ => 0))), ((b2 15), .inl ((cz 15), 40, .inl (fun _ => 0))), ((b2 16), .inl ((cz 16), 40, .inl (fun _ => 0))), ((b2 17), .inl ((cz 17), 40, .inl (fun _ => 0))), ((b2 18), .inl ((cz 18), 40, .inl (fun _ => 0))), ((b2 19), .inl ((cz 19), 40, .inl (fun _ => 0))), ((b2 20), .inl ((cz 20), 40, .inl (fun _ => 0))), ((b2 21), .inl ((cz 21), 40, .inl (fun _ => 0))), ((b2 22), .inl ((cz 22), 1600, .inl (fun _ => 0))), ((b2 23), .inl ((cz 23), 40, .inl (fun _ => 0))), ((b2 24), .inl ((cz 24), 40, .inl (fun _ => 0))), ((b2 25), .inl ((cz 25), 2400, .inr (.inr (.inl (fun _ => 0))))), ((b2 26), .inl ((cz 26), 2400, .inl (fun _ => 0))), ((b2 27), .inl ((cz 27), 16, .inl (fun _ => 0))), ((b2 28), .inl ((cz 28), 16, .inl (fun _ => 0))), ((b2 31), .inl ((cz 31), 6, .inl (fun _ => 0))), ((b2 32), .inl ((cz 32), 6, .inl (fun _ => 900))), ((b2 33), .inl ((cz 33), 6, .inl (upd (upd (upd (upd (upd (upd (fun _ => 0) (0 : Int32).toNatClampNeg 450) (1 : Int32).toNatClampNeg 270) (2 : Int32).toNatClampNeg 310) (3 : Int32).toNatClampNeg 320) (4 : Int32).toNatClampNeg 290) (5 : Int32).toNatClampNeg 2))), ((b2 34), .inl ((cz 34), 36, .inl (fun _ => 0))), ((b2 35), .inl ((cz 35), 10, .inl (fun _ => 0))), ((b2 36), .inl ((cz 36), 600, .inl (fun _ => 0))), ((b2 37), .inl ((cz 37), 600, .inl (fun _ => 0))), ((b2 38), .inl ((cz 38), 600, .inl (fun _ => 0))), ((b2 39), .inl ((cz 39), 600, .inl (fun _ => 0))), ((b2 40), .inl ((cz 40), 600, .inl (fun _ => 0))), ((b2 41), .inl ((cz 41), 600, .inl (fun _ => 0))), ((b2 42), .inl ((cz 42), 600, .inl (fun _ => 0))), ((b2 44), .inl ((cz 44), 200, .inl (fun _ => 0))), ((b2 45), .inl ((cz 45), 144, .inl (fun _ => 0))), ((b2 46), .inl ((cz 46), 144, .inl (fun _ => 0))), ((b2 47), .inl ((cz 47), 144, .inl (fun _ => 0))), ((b2 51), .inl ((cz 51), 40, .inl (fun _ => 0))), ((b2 55), .inl ((cz 55), 10240, .inl (fun _ => 0)))] := hD
  refine lv_icmp_eq (tgt := 1319) hx hb dL_law_1077 (by decide) (fun c_ => ?_) (fun c_ => absurd rfl c_)
  exact law_end l (Nat.le_refl 7) C0 (Nat.le_of_ble_eq_true rfl) (Nat.le_of_ble_eq_true rfl) hS (lv_sub hl [0, 3] rfl)
