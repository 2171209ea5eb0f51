set_option maxHeartbeats 4000000 in
set_option maxRecDepth 100000 in
theorem k_gather (l : Launch) (dC : Nat → ClassId) (dI : Nat → Nat → Nat) (sz : Nat) (x : Nat) (a : Nat → Nat) (cy : Nat → ClassId) (fr : Nat) (cf : ClassId) (v1 : Int32) : Met l yX10_gather (Cond.code yX10_gather cX10_gather 5 none :: gT) ({ frames := 3, cells := 0, slots := 0, locals := 103 }) (va_Pc [.ref x, .ref fr, .int v1] (pr (dC, dI) sz [(x, .inr (10, (kO a))), (fr, .inl (cf, 144, .inl (fun _ => (-1)))), ((a 13), .inr (2, (chO a)))] [(cf, .int)])) (va_Qv (fun _ : Unit => True) (fun _ t => va_P (dC, dI) vwCl [(x, .inr (10, (kO a))), (fr, .inl (cf, 144, .inl (fun _ => (-1)))), ((a 13), .inr (2, (chO a)))] t.heap ∧ va_K (dC, dI) vwCl [] t ∧ va_D (va_A [(x, .inr (10, (kO a))), (fr, .inl (cf, 144, .inl (fun _ => (-1)))), ((a 13), .inr (2, (chO a)))] sz) [(x, .inr (10, (kO a))), (fr, .inl (cf, 144, .inl (fun _ => (-1)))), ((a 13), .inr (2, (chO a)))]) (va_A [(x, .inr (10, (kO a))), (fr, .inl (cf, 144, .inl (fun _ => (-1)))), ((a 13), .inr (2, (chO a)))] sz)) 0 0 (va_A [(x, .inr (10, (kO a))), (fr, .inl (cf, 144, .inl (fun _ => (-1)))), ((a 13), .inr (2, (chO a)))] sz) := by
  refine Met.ofW (cc := cX10_gather) (maxL := 5) (ret := none) (by decide) rfl ?_
  intro p e s m args below meth c s₁ B hml hv
  obtain ⟨rfl, hsz, hP, hK, hD0, hE⟩ := hv
  have hx := B.exec
  have hb := B.bytes
  have hr := B.returns
  have hts : ∀ w ∈ gT, w.before _ s = true := fun w h => atoms_spec (ws := Cond.code yX10_gather cX10_gather 5 none :: gT) B.pre w (List.mem_cons_of_mem _ h)
  have hown : s.vm.findClass RX10 = some m.cls := findClass_of_methodNamed B.named
  have hlocks := B.notSynchronized
  subst hsz
  have hD := hD0.self (sz := s.heap.size)
  generalize hAe : va_A [(x, .inr (10, (kO a))), (fr, .inl (cf, 144, .inl (fun _ => (-1)))), ((a 13), .inr (2, (chO a)))] s.heap.size = A at hD ⊢
  have hA : ∀ q : Nat, s.heap.size ≤ q → A q := fun q h => by rw [← hAe]; exact Or.inr h
  have hS : va_S A s.heap s.heap [] := va_S.rf
  have hl := lv_entry ([.ref x, .ref fr, .int v1]) (n := 5) (Nat.le_of_ble_eq_true rfl)
  rw [lg_entry_eq]
  generalize (lg_sl ([.ref x, .ref fr, .int v1]) ++ List.replicate (5 - (lg_sl ([.ref x, .ref fr, .int v1])).length) Slot.unset).toArray = ls at hl ⊢
  have hl : lv_has ls 5 [(0, .ref x), (1, .ref fr), (2, .int v1)] := hl
  refine lv_aload_n hx hb dX10_gather_0 rfl (lv_at hl 0 rfl) ?_
  refine va_get (D := (dC, dI)) (ci := 10) (v := .ref (a 13)) (C := RX10) (T := TX10) (N := 15) hx hb hts inX10 hown hK hP 0 rfl rfl 13 (by decide) (hts _ mw_214) (fun _ h9 => h9) rfl dX10_gather_1 ?_
  refine lv_iconst (v := 0) hx hb dX10_gather_4 (by decide) ?_
  refine va_put (D := (dC, dI)) (ci := 2) (v := .int 0) (ty := .int) (C := RX2) (T := TX2) (N := 6) hx hb hts inX2 tyX2 tyX2_ok nmX2 hown hK hP hD hS 2 rfl rfl 3 (by decide) (hts _ mw_162) (fun _ h9 => h9) rfl (by decide +kernel) rfl rfl (Nat.le_of_ble_eq_true rfl) dX10_gather_5 (fun H locs hP hD hS => ?_)
  have hP : va_P (dC, dI) vwCl [(x, .inr (10, (kO a))), (fr, .inl (cf, 144, .inl (fun _ => (-1)))), ((a 13), .inr (2, ((chO a).set 3 (.int 0))))] H := hP
  have hD : va_D A [(x, .inr (10, (kO a))), (fr, .inl (cf, 144, .inl (fun _ => (-1)))), ((a 13), .inr (2, ((chO a).set 3 (.int 0))))] := hD
  refine lv_iconst (v := 0) hx hb dX10_gather_8 (by decide) ?_
  refine lv_istore_n (lv' := [(3, .int 0), (0, .ref x), (1, .ref fr), (2, .int v1)]) hx hb dX10_gather_9 rfl hl (by decide) rfl (fun ls hl => ?_)
  refine wl_loop (fun (i : Nat) H locs ls => i ≤ 144 ∧ va_P (dC, dI) vwCl [(x, .inr (10, (kO a))), (fr, .inl (cf, 144, .inl (fun _ => (-1)))), ((a 13), .inr (2, ((chO a).set 3 (.int 0))))] H ∧ va_D A [(x, .inr (10, (kO a))), (fr, .inl (cf, 144, .inl (fun _ => (-1)))), ((a 13), .inr (2, ((chO a).set 3 (.int 0))))] ∧ va_S A s.heap H locs ∧ lv_has ls 5 [(0, .ref x), (1, .ref fr), (2, .int v1), (3, .int (nI i))]) (fun i => 144 - i) (fun i H locs ls hI ih => ?_) 0 ⟨Nat.zero_le _, hP, hD, hS, lv_sub hl [1, 2, 3, 0] rfl⟩
  obtain ⟨hi, hP, hD, hS, hl⟩ := hI
  refine lv_iload_n hx hb dX10_gather_10 rfl (lv_at hl 3 rfl) ?_
  refine lv_aload_n hx hb dX10_gather_11 rfl (lv_at hl 1 rfl) ?_
  refine va_alen (v := 144) hx hb hK hP 1 0 rfl rfl (by decide) dX10_gather_12 ?_
  refine lv_icmp_ge (tgt := 81) hx hb dX10_gather_13 (by decide) (fun c_1 => ?_) (fun c_1 => ?_)
  · have hie := nI_end (x := 144) (N := 144) (by decide) (by decide) hi c_1
    have hP9 := hP.sub (ws' := [(x, .inr (10, (kO a))), (fr, .inl (cf, 144, .inl (fun _ => (-1)))), ((a 13), .inr (2, (chO a)))]) [0, 1, 2] rfl
    have hD9 := hD.sub (ws' := [(x, .inr (10, (kO a))), (fr, .inl (cf, 144, .inl (fun _ => (-1)))), ((a 13), .inr (2, (chO a)))]) [0, 1, 2] (by decide) rfl
    have hK9 := hK.sub (tys' := []) [] rfl
    exact W.vret hx hb hr (fun t ht hW => ⟨⟨(), rfl, trivial, by rw [ht]; exact hP9, va_K.moved hW.alike hK9, hD9⟩, hS.F ht⟩) hS.2.2 dX10_gather_81
  · have hlt := nI_on (x := 144) (N := 144) (by decide) (by decide) hi c_1
    refine lv_aload_n hx hb dX10_gather_16 rfl (lv_at hl 0 rfl) ?_
    refine va_get (D := (dC, dI)) (ci := 10) (v := .ref (a 13)) (C := RX10) (T := TX10) (N := 15) hx hb hts inX10 hown hK hP 0 rfl rfl 13 (by decide) (hts _ mw_214) (fun _ h9 => h9) rfl dX10_gather_17 ?_
    refine va_get (D := (dC, dI)) (ci := 2) (v := .int 0) (C := RX2) (T := TX2) (N := 6) hx hb hts inX2 hown hK hP 2 rfl rfl 3 (by decide) (hts _ mw_162) (fun _ h9 => h9) rfl dX10_gather_20 ?_
    refine lv_bipush (v := 40) hx hb dX10_gather_23 (by decide) ?_
    refine lv_icmp_ge (tgt := 81) hx hb dX10_gather_25 (by decide) (fun c_ => absurd c_ (by decide)) (fun c_ => ?_)
    refine lv_aload_n hx hb dX10_gather_28 rfl (lv_at hl 0 rfl) ?_
    refine lv_aload_n hx hb dX10_gather_29 rfl (lv_at hl 1 rfl) ?_
    refine lv_iload_n hx hb dX10_gather_30 rfl (lv_at hl 3 rfl) ?_
    refine va_iald hx hb hK hP 1 0 rfl rfl (vp_in_nI hlt (by decide)) dX10_gather_31 ?_
    refine lv_topi (fun y_ e_ => ?_)
    obtain rfl : y_ = (-1) := e_
    have hPc := hP.sub (ws' := [(x, .inr (10, (kO a)))]) [0] rfl
    have hKc := hK.sub (tys' := []) [] rfl
    refine pc_q (va_runV (As := [.int (-1)]) (rest := []) ⟨hx, hb, hml, hown, hts⟩ (k_findPiece l dC dI x a cy (-1)) (⟨callB_of 1 hts (gd mw_596) rfl rfl rfl (hts _ mw_1) (hts _ mw_593) ds_X10_findPiece ⟨Nat.le_of_ble_eq_true rfl, Nat.le_of_ble_eq_true rfl⟩, (hts _ mw_595), (hts _ mp_10)⟩) (pu_V hPc hKc hE (va_recv hKc hPc (ci := 10) (q0 := 0) rfl rfl)) rfl rfl hl.1 rfl (lv_room (Nat.le_of_ble_eq_true rfl)) dX10_gather_32 ⟨Nat.le_of_ble_eq_true rfl, Nat.le_of_ble_eq_true rfl⟩) (fun r_ hw_ => ?_)
    obtain rfl : r_ = none := hw_
    refine W.eq (g2 := F0 m 35 ls [.null]) rfl ?_
    refine lv_astoreN (lv' := [(4, .null), (0, .ref x), (1, .ref fr), (2, .int v1), (3, .int (nI i))]) hx hb dX10_gather_35 hl (by decide) rfl (fun ls hl => ?_)
    refine lv_aloadN hx hb dX10_gather_37 (lv_at hl 0 rfl) ?_
    refine lv_ifnullN (tgt := 75) hx hb dX10_gather_39 (by decide) ?_
    refine lv_iinc (v := (nI (i + 1))) (lv' := [(3, .int (nI (i + 1))), (4, .null), (0, .ref x), (1, .ref fr), (2, .int v1)]) hx hb dX10_gather_75 hl (k := 4) rfl (by exact nI_1 _) (by decide) rfl (fun ls hl => ?_)
    refine lv_goto (tgt := 10) hx hb dX10_gather_78 (by decide) ?_
    exact ih (i + 1) _ _ _ (by omega) ⟨hlt, hP, hD, hS, lv_sub hl [2, 3, 4, 0] rfl⟩

set_option maxHeartbeats 4000000 in
set_option maxRecDepth 100000 in
theorem k_total (l : Launch) (dC : Nat → ClassId) (dI : Nat → Nat → Nat) (x : Nat) (a : Nat → Nat) (cy : Nat → ClassId) : Met l yX2_total (Cond.code yX2_total cX2_total 3 (some .int) :: gT) ({ frames := 1, cells := 0, slots := 0, locals := 60 }) (va_Pc [.ref (a 13)] (pu (dC, dI) [((a 13), .inr (2, (chO a)))] [])) (vp_Si (fun r => r = 0)) 0 0 (fun _ => False) := by
  refine Met.ofW (cc := cX2_total) (maxL := 3) (ret := (some .int)) (by decide) rfl ?_
  intro p e s m args below meth c s₁ B hml hv
  obtain ⟨rfl, hP, hK, hE⟩ := hv
  have hx := B.exec
  have hb := B.bytes
  have hr := B.returns
  have hts : ∀ w ∈ gT, w.before _ s = true := fun w h => atoms_spec (ws := Cond.code yX2_total cX2_total 3 (some .int) :: gT) B.pre w (List.mem_cons_of_mem _ h)
  have hown : s.vm.findClass RX2 = some m.cls := findClass_of_methodNamed B.named
  have hlocks := B.notSynchronized
  have hl := lv_entry ([.ref (a 13)]) (n := 3) (Nat.le_of_ble_eq_true rfl)
  rw [lg_entry_eq]
  generalize (lg_sl ([.ref (a 13)]) ++ List.replicate (3 - (lg_sl ([.ref (a 13)])).length) Slot.unset).toArray = ls at hl ⊢
  have hl : lv_has ls 3 [(0, .ref (a 13))] := hl
  refine lv_iconst (v := 0) hx hb dX2_total_0 (by decide) ?_
  refine lv_istore_n (lv' := [(1, .int 0), (0, .ref (a 13))]) hx hb dX2_total_1 rfl hl (by decide) rfl (fun ls hl => ?_)
  refine lv_iconst (v := 0) hx hb dX2_total_2 (by decide) ?_
  refine lv_istore_n (lv' := [(2, .int 0), (1, .int 0), (0, .ref (a 13))]) hx hb dX2_total_3 rfl hl (by decide) rfl (fun ls hl => ?_)
  refine lv_iload_n hx hb dX2_total_4 rfl (lv_at hl 0 rfl) ?_
  refine lv_aload_n hx hb dX2_total_5 rfl (lv_at hl 2 rfl) ?_
  refine va_get (D := (dC, dI)) (ci := 2) (v := .int 0) (C := RX2) (T := TX2) (N := 6) hx hb hts inX2 hown hK hP 0 rfl rfl 3 (by decide) (hts _ mw_160) (fun _ h9 => h9) rfl dX2_total_6 ?_
  refine lv_icmp_ge (tgt := 27) hx hb dX2_total_9 (by decide) (fun c_ => ?_) (fun c_ => absurd c_ (by decide))
  refine lv_iload_n hx hb dX2_total_27 rfl (lv_at hl 1 rfl) ?_
  exact W.iret (v := 0) hx hb hr (fun t ht hW => ⟨0, rfl, (by first | rfl | (simp []; done)), ht⟩) (fun q h => absurd h List.not_mem_nil) dX2_total_28

set_option maxHeartbeats 4000000 in
set_option maxRecDepth 100000 in
theorem k_choose (l : Launch) (dC : Nat → ClassId) (dI : Nat → Nat → Nat) (x : Nat) (a : Nat → Nat) (cy : Nat → ClassId) (v1 v2 : Int32) (hv1 : ¬ v1 ≤ 0) : Met l yX2_choose (Cond.code yX2_choose cX2_choose 5 (some .int) :: gT) ({ frames := 2, cells := 0, slots := 0, locals := 82 }) (va_Pc [.ref (a 13), .int v1, .int v2] (pu (dC, dI) [((a 13), .inr (2, (chO a)))] [])) (vp_Si (fun r => r = -1)) 0 0 (fun _ => False) := by
  refine Met.ofW (cc := cX2_choose) (maxL := 5) (ret := (some .int)) (by decide) rfl ?_
  intro p e s m args below meth c s₁ B hml hv
  obtain ⟨rfl, hP, hK, hE⟩ := hv
  have hx := B.exec
  have hb := B.bytes
  have hr := B.returns
  have hts : ∀ w ∈ gT, w.before _ s = true := fun w h => atoms_spec (ws := Cond.code yX2_choose cX2_choose 5 (some .int) :: gT) B.pre w (List.mem_cons_of_mem _ h)
  have hown : s.vm.findClass RX2 = some m.cls := findClass_of_methodNamed B.named
  have hlocks := B.notSynchronized
  have hl := lv_entry ([.ref (a 13), .int v1, .int v2]) (n := 5) (Nat.le_of_ble_eq_true rfl)
  rw [lg_entry_eq]
  generalize (lg_sl ([.ref (a 13), .int v1, .int v2]) ++ List.replicate (5 - (lg_sl ([.ref (a 13), .int v1, .int v2])).length) Slot.unset).toArray = ls at hl ⊢
  have hl : lv_has ls 5 [(0, .ref (a 13)), (1, .int v1), (2, .int v2)] := hl
  refine lv_aload_n hx hb dX2_choose_0 rfl (lv_at hl 0 rfl) ?_
  have hPc := hP.sub (ws' := [((a 13), .inr (2, (chO a)))]) [0] rfl
  have hKc := hK.sub (tys' := []) [] rfl
  refine pc_i (va_runV (As := []) (rest := []) ⟨hx, hb, hml, hown, hts⟩ (k_total l dC dI x a cy ) (⟨callB_of 0 hts (gd mw_660) rfl rfl rfl (hts _ mw_6) (hts _ mw_657) ds_X2_total ⟨Nat.le_of_ble_eq_true rfl, Nat.le_of_ble_eq_true rfl⟩, (hts _ mw_659), (hts _ mp_13)⟩) (pu_V hPc hKc hE (va_recv hKc hPc (ci := 2) (q0 := 0) rfl rfl)) rfl rfl hl.1 rfl (lv_room (Nat.le_of_ble_eq_true rfl)) dX2_choose_1 ⟨Nat.le_of_ble_eq_true rfl, Nat.le_of_ble_eq_true rfl⟩) (fun r_ hw_ => ?_)
  obtain rfl : r_ = 0 := hw_
  refine lv_iload_n hx hb dX2_choose_4 rfl (lv_at hl 1 rfl) ?_
  refine lv_icmp_ge (tgt := 10) hx hb dX2_choose_5 (by decide) (fun c_ => absurd c_ hv1) (fun c_ => ?_)
  refine lv_iconst (v := (-1)) hx hb dX2_choose_8 (by decide) ?_
  exact W.iret (v := (-1)) hx hb hr (fun t ht hW => ⟨(-1), rfl, (by first | rfl | (simp []; done)), ht⟩) (fun q h => absurd h List.not_mem_nil) dX2_choose_9

set_option maxHeartbeats 4000000 in
set_option maxRecDepth 100000 in
theorem k_mostBoxes (l : Launch) (dC : Nat → ClassId) (dI : Nat → Nat → Nat) (sz : Nat) (x : Nat) (a : Nat → Nat) (cy : Nat → ClassId) (v1 v2 : Int32) (hv1 : ¬ v1 ≤ 0) : Met l yX5_mostBoxes (Cond.code yX5_mostBoxes cX5_mostBoxes 7 (some .int) :: gT) ({ frames := 2, cells := 0, slots := 0, locals := 60 }) (va_Pc [.ref (a 14), .ref (a 13), .int v1, .int v2] (pr (dC, dI) sz [((a 14), .inr (5, (paO a))), ((a 13), .inr (2, (chO a)))] [])) (va_Qi (fun (r : Int32) (_ : Unit) => r = 0) (fun _ _ => True) (va_A [((a 14), .inr (5, (paO a))), ((a 13), .inr (2, (chO a)))] sz)) 0 0 (va_A [((a 14), .inr (5, (paO a))), ((a 13), .inr (2, (chO a)))] sz) := by
  refine Met.ofW (cc := cX5_mostBoxes) (maxL := 7) (ret := (some .int)) (by decide) rfl ?_
  intro p e s m args below meth c s₁ B hml hv
  obtain ⟨rfl, hsz, hP, hK, hD0, hE⟩ := hv
  have hx := B.exec
  have hb := B.bytes
  have hr := B.returns
  have hts : ∀ w ∈ gT, w.before _ s = true := fun w h => atoms_spec (ws := Cond.code yX5_mostBoxes cX5_mostBoxes 7 (some .int) :: gT) B.pre w (List.mem_cons_of_mem _ h)
  have hown : s.vm.findClass RX5 = some m.cls := findClass_of_methodNamed B.named
  have hlocks := B.notSynchronized
  subst hsz
  have hD := hD0.self (sz := s.heap.size)
  generalize hAe : va_A [((a 14), .inr (5, (paO a))), ((a 13), .inr (2, (chO a)))] s.heap.size = A at hD ⊢
  have hA : ∀ q : Nat, s.heap.size ≤ q → A q := fun q h => by rw [← hAe]; exact Or.inr h
  have hS : va_S A s.heap s.heap [] := va_S.rf
  have hl := lv_entry ([.ref (a 14), .ref (a 13), .int v1, .int v2]) (n := 7) (Nat.le_of_ble_eq_true rfl)
  rw [lg_entry_eq]
  generalize (lg_sl ([.ref (a 14), .ref (a 13), .int v1, .int v2]) ++ List.replicate (7 - (lg_sl ([.ref (a 14), .ref (a 13), .int v1, .int v2])).length) Slot.unset).toArray = ls at hl ⊢
  have hl : lv_has ls 7 [(0, .ref (a 14)), (1, .ref (a 13)), (2, .int v1), (3, .int v2)] := hl
  refine lv_aload_n hx hb dX5_mostBoxes_0 rfl (lv_at hl 0 rfl) ?_
  refine lv_iload_n hx hb dX5_mostBoxes_1 rfl (lv_at hl 2 rfl) ?_
  refine va_put (D := (dC, dI)) (ci := 5) (v := .int v1) (ty := .int) (C := RX5) (T := TX5) (N := 5) hx hb hts inX5 tyX5 tyX5_ok nmX5 hown hK hP hD hS 0 rfl rfl 2 (by decide) (hts _ mw_186) (fun _ h9 => h9) rfl (by decide +kernel) rfl rfl (Nat.le_of_ble_eq_true rfl) dX5_mostBoxes_2 (fun H locs hP hD hS => ?_)
  have hP : va_P (dC, dI) vwCl [((a 14), .inr (5, ((paO a).set 2 (.int v1)))), ((a 13), .inr (2, (chO a)))] H := hP
  have hD : va_D A [((a 14), .inr (5, ((paO a).set 2 (.int v1)))), ((a 13), .inr (2, (chO a)))] := hD
  refine lv_aload_n hx hb dX5_mostBoxes_5 rfl (lv_at hl 0 rfl) ?_
  refine lv_iload_n hx hb dX5_mostBoxes_6 rfl (lv_at hl 2 rfl) ?_
  refine lv_iload_n hx hb dX5_mostBoxes_7 rfl (lv_at hl 3 rfl) ?_
  refine lv_iadd hx hb dX5_mostBoxes_8 ?_
  refine va_put (D := (dC, dI)) (ci := 5) (v := .int (v1 + v2)) (ty := .int) (C := RX5) (T := TX5) (N := 5) hx hb hts inX5 tyX5 tyX5_ok nmX5 hown hK hP hD hS 0 rfl rfl 3 (by decide) (hts _ mw_187) (fun _ h9 => h9) rfl (by decide +kernel) rfl rfl (Nat.le_of_ble_eq_true rfl) dX5_mostBoxes_9 (fun H locs hP hD hS => ?_)
  have hP : va_P (dC, dI) vwCl [((a 14), .inr (5, (((paO a).set 2 (.int v1)).set 3 (.int (v1 + v2))))), ((a 13), .inr (2, (chO a)))] H := hP
  have hD : va_D A [((a 14), .inr (5, (((paO a).set 2 (.int v1)).set 3 (.int (v1 + v2))))), ((a 13), .inr (2, (chO a)))] := hD
  refine lv_aload_n hx hb dX5_mostBoxes_12 rfl (lv_at hl 0 rfl) ?_
  refine lv_iconst (v := 0) hx hb dX5_mostBoxes_13 (by decide) ?_
  refine va_put (D := (dC, dI)) (ci := 5) (v := .int 0) (ty := .int) (C := RX5) (T := TX5) (N := 5) hx hb hts inX5 tyX5 tyX5_ok nmX5 hown hK hP hD hS 0 rfl rfl 1 (by decide) (hts _ mw_185) (fun _ h9 => h9) rfl (by decide +kernel) rfl rfl (Nat.le_of_ble_eq_true rfl) dX5_mostBoxes_14 (fun H locs hP hD hS => ?_)
  have hP : va_P (dC, dI) vwCl [((a 14), .inr (5, ((((paO a).set 2 (.int v1)).set 3 (.int (v1 + v2))).set 1 (.int 0)))), ((a 13), .inr (2, (chO a)))] H := hP
  have hD : va_D A [((a 14), .inr (5, ((((paO a).set 2 (.int v1)).set 3 (.int (v1 + v2))).set 1 (.int 0)))), ((a 13), .inr (2, (chO a)))] := hD
  refine lv_iconst (v := 0) hx hb dX5_mostBoxes_17 (by decide) ?_
  refine lv_istore (lv' := [(4, .int 0), (0, .ref (a 14)), (1, .ref (a 13)), (2, .int v1), (3, .int v2)]) hx hb dX5_mostBoxes_18 hl (by decide) rfl (fun ls hl => ?_)
  refine lv_aload_n hx hb dX5_mostBoxes_20 rfl (lv_at hl 2 rfl) ?_
  refine va_get (D := (dC, dI)) (ci := 2) (v := .int 0) (C := RX2) (T := TX2) (N := 6) hx hb hts inX2 hown hK hP 1 rfl rfl 3 (by decide) (hts _ mw_161) (fun _ h9 => h9) rfl dX5_mostBoxes_21 ?_
  refine lv_bipush (v := 14) hx hb dX5_mostBoxes_24 (by decide) ?_
  refine va_mmin hx hb (by rw [hml]; exact hl.1.symm) hown (hts _ mw_739) (hts _ mw_442) (hts _ mw_12) (hts _ mmin_code) (Nat.le_of_ble_eq_true rfl) (Nat.le_of_ble_eq_true rfl) (Nat.le_of_ble_eq_true rfl) (Nat.le_of_ble_eq_true rfl) dX5_mostBoxes_26 ?_
  refine lv_topi (fun y_ e_ => ?_)
  obtain rfl : y_ = 0 := e_.trans (by decide)
  refine lv_istore (lv' := [(5, .int 0), (4, .int 0), (0, .ref (a 14)), (1, .ref (a 13)), (2, .int v1), (3, .int v2)]) hx hb dX5_mostBoxes_29 hl (by decide) rfl (fun ls hl => ?_)
  refine lv_iconst (v := 0) hx hb dX5_mostBoxes_31 (by decide) ?_
  refine lv_istore (lv' := [(6, .int 0), (5, .int 0), (4, .int 0), (0, .ref (a 14)), (1, .ref (a 13)), (2, .int v1), (3, .int v2)]) hx hb dX5_mostBoxes_32 hl (by decide) rfl (fun ls hl => ?_)
  refine lv_iload hx hb dX5_mostBoxes_34 (lv_at hl 0 rfl) ?_
  refine lv_iload hx hb dX5_mostBoxes_36 (lv_at hl 1 rfl) ?_
  refine lv_icmp_ge (tgt := 70) hx hb dX5_mostBoxes_38 (by decide) (fun c_ => ?_) (fun c_ => absurd c_ (by decide))
  refine lv_iload hx hb dX5_mostBoxes_70 (lv_at hl 2 rfl) ?_
  refine lv_aload_n hx hb dX5_mostBoxes_72 rfl (lv_at hl 3 rfl) ?_
  refine va_get (D := (dC, dI)) (ci := 5) (v := .int v1) (C := RX5) (T := TX5) (N := 5) hx hb hts inX5 hown hK hP 0 rfl rfl 2 (by decide) (hts _ mw_186) (fun _ h9 => h9) rfl dX5_mostBoxes_73 ?_
  refine lv_icmp_ge (tgt := 81) hx hb dX5_mostBoxes_76 (by decide) (fun c_ => absurd c_ hv1) (fun c_ => ?_)
  refine lv_iconst (v := 0) hx hb dX5_mostBoxes_79 (by decide) ?_
  refine W.widen (k := 0) (n := 0) (Nat.le_of_ble_eq_true rfl) (Nat.le_of_ble_eq_true rfl) ?_
  exact W.iret (v := 0) hx hb hr (fun t ht hW => ⟨⟨0, (), rfl, (by first | rfl | (simp []; done)), trivial⟩, hS.F ht⟩) hS.2.2 dX5_mostBoxes_80

set_option maxHeartbeats 4000000 in
set_option maxRecDepth 100000 in
theorem k_countFull (l : Launch) (dC : Nat → ClassId) (dI : Nat → Nat → Nat) (sz : Nat) (x : Nat) (a : Nat → Nat) (cy : Nat → ClassId) (v1 v2 v3 : Int32) (hv2 : ¬ v2 ≤ 0) : Met l yX10_countFull (Cond.code yX10_countFull cX10_countFull 6 (some .int) :: gT) ({ frames := 4, cells := 0, slots := 0, locals := 127 }) (va_Pc [.ref x, .int v1, .int v2, .int v3] (pr (dC, dI) sz [(x, .inr (10, (kO a))), ((a 8), .inl ((cy 8), 144, .inl (fun _ => (-1)))), ((a 9), .inl ((cy 9), 144, .inl (fun _ => 0))), ((a 13), .inr (2, (chO a)))] [((cy 8), .int), ((cy 9), .int)])) (va_Qi (fun (r : Int32) (_ : Unit) => r = 0) (fun _ _ => True) (va_A [(x, .inr (10, (kO a))), ((a 8), .inl ((cy 8), 144, .inl (fun _ => (-1)))), ((a 9), .inl ((cy 9), 144, .inl (fun _ => 0))), ((a 13), .inr (2, (chO a)))] sz)) 0 0 (va_A [(x, .inr (10, (kO a))), ((a 8), .inl ((cy 8), 144, .inl (fun _ => (-1)))), ((a 9), .inl ((cy 9), 144, .inl (fun _ => 0))), ((a 13), .inr (2, (chO a)))] sz) := by
  refine Met.ofW (cc := cX10_countFull) (maxL := 6) (ret := (some .int)) (by decide) rfl ?_
  intro p e s m args below meth c s₁ B hml hv
  obtain ⟨rfl, hsz, hP, hK, hD0, hE⟩ := hv
  have hx := B.exec
  have hb := B.bytes
  have hr := B.returns
  have hts : ∀ w ∈ gT, w.before _ s = true := fun w h => atoms_spec (ws := Cond.code yX10_countFull cX10_countFull 6 (some .int) :: gT) B.pre w (List.mem_cons_of_mem _ h)
  have hown : s.vm.findClass RX10 = some m.cls := findClass_of_methodNamed B.named
  have hlocks := B.notSynchronized
  subst hsz
  have hD := hD0.self (sz := s.heap.size)
  generalize hAe : va_A [(x, .inr (10, (kO a))), ((a 8), .inl ((cy 8), 144, .inl (fun _ => (-1)))), ((a 9), .inl ((cy 9), 144, .inl (fun _ => 0))), ((a 13), .inr (2, (chO a)))] s.heap.size = A at hD ⊢
  have hA : ∀ q : Nat, s.heap.size ≤ q → A q := fun q h => by rw [← hAe]; exact Or.inr h
  have hS : va_S A s.heap s.heap [] := va_S.rf
  have hl := lv_entry ([.ref x, .int v1, .int v2, .int v3]) (n := 6) (Nat.le_of_ble_eq_true rfl)
  rw [lg_entry_eq]
  generalize (lg_sl ([.ref x, .int v1, .int v2, .int v3]) ++ List.replicate (6 - (lg_sl ([.ref x, .int v1, .int v2, .int v3])).length) Slot.unset).toArray = ls at hl ⊢
  have hl : lv_has ls 6 [(0, .ref x), (1, .int v1), (2, .int v2), (3, .int v3)] := hl
  refine lv_aload_n hx hb dX10_countFull_0 rfl (lv_at hl 0 rfl) ?_
  refine va_get (D := (dC, dI)) (ci := 10) (v := .ref (a 8)) (C := RX10) (T := TX10) (N := 15) hx hb hts inX10 hown hK hP 0 rfl rfl 8 (by decide) (hts _ mw_209) (fun _ h9 => h9) rfl dX10_countFull_1 ?_
  refine lv_iconst (v := 0) hx hb dX10_countFull_4 (by decide) ?_
  refine lv_aload_n hx hb dX10_countFull_5 rfl (lv_at hl 0 rfl) ?_
  refine va_get (D := (dC, dI)) (ci := 10) (v := .ref (a 9)) (C := RX10) (T := TX10) (N := 15) hx hb hts inX10 hown hK hP 0 rfl rfl 9 (by decide) (hts _ mw_210) (fun _ h9 => h9) rfl dX10_countFull_6 ?_
  refine lv_iconst (v := 0) hx hb dX10_countFull_9 (by decide) ?_
  refine lv_aload_n hx hb dX10_countFull_10 rfl (lv_at hl 0 rfl) ?_
  refine va_get (D := (dC, dI)) (ci := 10) (v := .ref (a 8)) (C := RX10) (T := TX10) (N := 15) hx hb hts inX10 hown hK hP 0 rfl rfl 8 (by decide) (hts _ mw_209) (fun _ h9 => h9) rfl dX10_countFull_11 ?_
  refine va_alen (v := 144) hx hb hK hP 1 0 rfl rfl (by decide) dX10_countFull_14 ?_
  refine va_copyi (ty := .int) hx hb (by rw [hml]; exact hl.1.symm) hown (hts _ mw_734) (hts _ mw_672) (hts _ mw_671) (hts _ mw_15) hK hP hD hS 1 2 0 1 rfl rfl rfl rfl rfl (by decide) (by decide) (by decide) (by decide) (by decide) (fun _ _ => rfl) (Nat.le_of_ble_eq_true rfl) (Nat.le_of_ble_eq_true rfl) dX10_countFull_15 (fun H locs hP hD hS => ?_)
  have hP : va_P (dC, dI) vwCl [(x, .inr (10, (kO a))), ((a 8), .inl ((cy 8), 144, .inl (fun _ => (-1)))), ((a 9), .inl ((cy 9), 144, .inl (va_cpy (fun _ => (-1)) (fun _ => 0) (0 : Int32).toNatClampNeg (0 : Int32).toNatClampNeg (144 : Int32).toNatClampNeg))), ((a 13), .inr (2, (chO a)))] H := hP
  have hD : va_D A [(x, .inr (10, (kO a))), ((a 8), .inl ((cy 8), 144, .inl (fun _ => (-1)))), ((a 9), .inl ((cy 9), 144, .inl (va_cpy (fun _ => (-1)) (fun _ => 0) (0 : Int32).toNatClampNeg (0 : Int32).toNatClampNeg (144 : Int32).toNatClampNeg))), ((a 13), .inr (2, (chO a)))] := hD
  have hD := hD.set (p := 2) (e := .inl ((cy 9), 144, .inl (fun _ => (-1)))) rfl
  have hP := hP.re 2 (fun _ => (-1)) rfl (cpy_all 144 (-1) _ _ _ _ (by decide +kernel) (by decide +kernel) (by decide +kernel))
  have hP : va_P (dC, dI) vwCl [(x, .inr (10, (kO a))), ((a 8), .inl ((cy 8), 144, .inl (fun _ => (-1)))), ((a 9), .inl ((cy 9), 144, .inl (fun _ => (-1)))), ((a 13), .inr (2, (chO a)))] H := hP
  have hD : va_D A [(x, .inr (10, (kO a))), ((a 8), .inl ((cy 8), 144, .inl (fun _ => (-1)))), ((a 9), .inl ((cy 9), 144, .inl (fun _ => (-1)))), ((a 13), .inr (2, (chO a)))] := hD
  refine lv_iconst (v := 0) hx hb dX10_countFull_18 (by decide) ?_
  refine lv_istore (lv' := [(4, .int 0), (0, .ref x), (1, .int v1), (2, .int v2), (3, .int v3)]) hx hb dX10_countFull_19 hl (by decide) rfl (fun ls hl => ?_)
  refine lv_iload hx hb dX10_countFull_21 (lv_at hl 0 rfl) ?_
  refine lv_aload_n hx hb dX10_countFull_23 rfl (lv_at hl 1 rfl) ?_
  refine va_get (D := (dC, dI)) (ci := 10) (v := .ref (a 9)) (C := RX10) (T := TX10) (N := 15) hx hb hts inX10 hown hK hP 0 rfl rfl 9 (by decide) (hts _ mw_210) (fun _ h9 => h9) rfl dX10_countFull_24 ?_
  refine va_alen (v := 144) hx hb hK hP 2 1 rfl rfl (by decide) dX10_countFull_27 ?_
  refine lv_icmp_ge (tgt := 112) hx hb dX10_countFull_28 (by decide) (fun c_ => absurd c_ (by decide)) (fun c_ => ?_)
  refine lv_aload_n hx hb dX10_countFull_31 rfl (lv_at hl 1 rfl) ?_
  refine lv_aload_n hx hb dX10_countFull_32 rfl (lv_at hl 1 rfl) ?_
  refine va_get (D := (dC, dI)) (ci := 10) (v := .ref (a 9)) (C := RX10) (T := TX10) (N := 15) hx hb hts inX10 hown hK hP 0 rfl rfl 9 (by decide) (hts _ mw_210) (fun _ h9 => h9) rfl dX10_countFull_33 ?_
  refine lv_iload_n hx hb dX10_countFull_36 rfl (lv_at hl 2 rfl) ?_
  have hPc := hP.sub (ws' := [(x, .inr (10, (kO a))), ((a 9), .inl ((cy 9), 144, .inl (fun _ => (-1)))), ((a 13), .inr (2, (chO a)))]) [0, 2, 3] rfl
  have hKc := hK.sub (tys' := [((cy 9), .int)]) [1] rfl
  have hDc := hD.sub (ws' := [(x, .inr (10, (kO a))), ((a 9), .inl ((cy 9), 144, .inl (fun _ => (-1)))), ((a 13), .inr (2, (chO a)))]) [0, 2, 3] (by decide) rfl
  have hFc := va_free (wc := [(x, .inr (10, (kO a))), ((a 9), .inl ((cy 9), 144, .inl (fun _ => (-1)))), ((a 13), .inr (2, (chO a)))]) hD hS hA [0, 2, 3] rfl
  refine va_callv (va_runV (As := [.ref (a 9), .int v1]) (rest := []) ⟨hx, hb, hml, hown, hts⟩ (k_gather l dC dI H.size x a cy (a 9) (cy 9) v1) (⟨callB_of 2 hts (gd mw_646) rfl rfl rfl (hts _ mw_1) (hts _ mw_643) ds_X10_gather ⟨Nat.le_of_ble_eq_true rfl, Nat.le_of_ble_eq_true rfl⟩, (hts _ mw_645), (hts _ mp_12)⟩) (pr_V hPc hKc hDc hE (va_recv hKc hPc (ci := 10) (q0 := 0) rfl rfl)) rfl rfl hl.1 rfl (lv_room (Nat.le_of_ble_eq_true rfl)) dX10_countFull_37 ⟨Nat.le_of_ble_eq_true rfl, Nat.le_of_ble_eq_true rfl⟩) hS (fun q _ h => hFc q h) hFc (fun u_ t_ H1 locs ht hvm hw_ hB hz1 hk1 hS => ?_)
  obtain ⟨hP1, hK1, hD1⟩ := hB
  rw [ht] at hP1
  have hK1 := va_K.moved hvm.symm hK1
  obtain ⟨hP, hD⟩ := va_join (wr := [((a 8), .inl ((cy 8), 144, .inl (fun _ => (-1))))]) (w1 := [(x, .inr (10, (kO a))), ((a 9), .inl ((cy 9), 144, .inl (fun _ => (-1)))), ((a 13), .inr (2, (chO a)))]) hP hD [0, 2, 3] [1] rfl rfl (by decide) (by decide) hk1 hFc hP1 hD1
  generalize H1 = H at hP hS ⊢
  have hP : va_P (dC, dI) vwCl [((a 8), .inl ((cy 8), 144, .inl (fun _ => (-1)))), (x, .inr (10, (kO a))), ((a 9), .inl ((cy 9), 144, .inl (fun _ => (-1)))), ((a 13), .inr (2, (chO a)))] H := hP
  have hD : va_D A [((a 8), .inl ((cy 8), 144, .inl (fun _ => (-1)))), (x, .inr (10, (kO a))), ((a 9), .inl ((cy 9), 144, .inl (fun _ => (-1)))), ((a 13), .inr (2, (chO a)))] := hD
  refine lv_aload_n hx hb dX10_countFull_40 rfl (lv_at hl 1 rfl) ?_
  refine va_get (D := (dC, dI)) (ci := 10) (v := .ref (a 13)) (C := RX10) (T := TX10) (N := 15) hx hb hts inX10 hown hK hP 1 rfl rfl 13 (by decide) (hts _ mw_214) (fun _ h9 => h9) rfl dX10_countFull_41 ?_
  refine lv_iload_n hx hb dX10_countFull_44 rfl (lv_at hl 3 rfl) ?_
  refine lv_iload_n hx hb dX10_countFull_45 rfl (lv_at hl 4 rfl) ?_
  have hPc := hP.sub (ws' := [((a 13), .inr (2, (chO a)))]) [3] rfl
  have hKc := hK.sub (tys' := []) [] rfl
  refine pc_i (va_runV (As := [.int v2, .int v3]) (rest := []) ⟨hx, hb, hml, hown, hts⟩ (k_choose l dC dI x a cy v2 v3 hv2) (⟨callB_of 2 hts (gd mw_656) rfl rfl rfl (hts _ mw_6) (hts _ mw_653) ds_X2_choose ⟨Nat.le_of_ble_eq_true rfl, Nat.le_of_ble_eq_true rfl⟩, (hts _ mw_654), (hts _ mw_655)⟩) (pu_V hPc hKc hE (va_recv hKc hPc (ci := 2) (q0 := 0) rfl rfl)) rfl rfl hl.1 rfl (lv_room (Nat.le_of_ble_eq_true rfl)) dX10_countFull_46 ⟨Nat.le_of_ble_eq_true rfl, Nat.le_of_ble_eq_true rfl⟩) (fun r_ hw_ => ?_)
  obtain rfl : r_ = (-1) := hw_
  refine lv_iconst (v := (-1)) hx hb dX10_countFull_49 (by decide) ?_
  refine lv_icmp_ne (tgt := 56) hx hb dX10_countFull_50 (by decide) (fun c_ => absurd c_ (by decide)) (fun c_ => ?_)
  refine lv_iload hx hb dX10_countFull_53 (lv_at hl 0 rfl) ?_
  refine W.widen (k := 0) (n := 0) (Nat.le_of_ble_eq_true rfl) (Nat.le_of_ble_eq_true rfl) ?_
  exact W.iret (v := 0) hx hb hr (fun t ht hW => ⟨⟨0, (), rfl, (by first | rfl | (simp []; done)), trivial⟩, hS.F ht⟩) hS.2.2 dX10_countFull_55

set_option maxHeartbeats 4000000 in
set_option maxRecDepth 100000 in
theorem k_pack (l : Launch) (dC : Nat → ClassId) (dI : Nat → Nat → Nat) (sz : Nat) (x : Nat) (a : Nat → Nat) (cy : Nat → ClassId) (v1 v2 v3 : Int32) : Met l yX10_pack (Cond.code yX10_pack cX10_pack 7 (some .int) :: gT) ({ frames := 4, cells := 0, slots := 0, locals := 127 }) (va_Pc [.ref x, .int v1, .int v2, .int v3] (pr (dC, dI) sz [(x, .inr (10, (kO a))), ((a 8), .inl ((cy 8), 144, .inl (fun _ => (-1)))), ((a 13), .inr (2, (chO a)))] [((cy 8), .int)])) (va_Qi (fun (r : Int32) (_ : Unit) => r = -1) (fun _ _ => True) (va_A [(x, .inr (10, (kO a))), ((a 8), .inl ((cy 8), 144, .inl (fun _ => (-1)))), ((a 13), .inr (2, (chO a)))] sz)) 0 0 (va_A [(x, .inr (10, (kO a))), ((a 8), .inl ((cy 8), 144, .inl (fun _ => (-1)))), ((a 13), .inr (2, (chO a)))] sz) := by
  refine Met.ofW (cc := cX10_pack) (maxL := 7) (ret := (some .int)) (by decide) rfl ?_
  intro p e s m args below meth c s₁ B hml hv
  obtain ⟨rfl, hsz, hP, hK, hD0, hE⟩ := hv
  have hx := B.exec
  have hb := B.bytes
  have hr := B.returns
  have hts : ∀ w ∈ gT, w.before _ s = true := fun w h => atoms_spec (ws := Cond.code yX10_pack cX10_pack 7 (some .int) :: gT) B.pre w (List.mem_cons_of_mem _ h)
  have hown : s.vm.findClass RX10 = some m.cls := findClass_of_methodNamed B.named
  have hlocks := B.notSynchronized
  subst hsz
  have hD := hD0.self (sz := s.heap.size)
  generalize hAe : va_A [(x, .inr (10, (kO a))), ((a 8), .inl ((cy 8), 144, .inl (fun _ => (-1)))), ((a 13), .inr (2, (chO a)))] s.heap.size = A at hD ⊢
  have hA : ∀ q : Nat, s.heap.size ≤ q → A q := fun q h => by rw [← hAe]; exact Or.inr h
  have hS : va_S A s.heap s.heap [] := va_S.rf
  have hl := lv_entry ([.ref x, .int v1, .int v2, .int v3]) (n := 7) (Nat.le_of_ble_eq_true rfl)
  rw [lg_entry_eq]
  generalize (lg_sl ([.ref x, .int v1, .int v2, .int v3]) ++ List.replicate (7 - (lg_sl ([.ref x, .int v1, .int v2, .int v3])).length) Slot.unset).toArray = ls at hl ⊢
  have hl : lv_has ls 7 [(0, .ref x), (1, .int v1), (2, .int v2), (3, .int v3)] := hl
  refine lv_iload_n hx hb dX10_pack_0 rfl (lv_at hl 1 rfl) ?_
  refine lv_iload_n hx hb dX10_pack_1 rfl (lv_at hl 2 rfl) ?_
  refine lv_iload_n hx hb dX10_pack_2 rfl (lv_at hl 3 rfl) ?_
  have hPc := hP.sub (ws' := []) [] rfl
  have hKc := hK.sub (tys' := []) [] rfl
  refine pc_i (va_runS (As := [.int v1, .int v2, .int v3]) (rest := []) ⟨hx, hb, hml, hown, hts⟩ (c_canBeAsked l dC dI v1 v2 v3) (⟨callB_of 3 hts (gd mw_642) rfl rfl rfl (hts _ mw_1) (hts _ mw_640) ds_X10_canBeAsked ⟨Nat.le_of_ble_eq_true rfl, Nat.le_of_ble_eq_true rfl⟩, (hts _ mw_641)⟩) (pu_S hPc hKc hE) rfl rfl hl.1 rfl (lv_room (Nat.le_of_ble_eq_true rfl)) dX10_pack_3 ⟨Nat.le_of_ble_eq_true rfl, Nat.le_of_ble_eq_true rfl⟩) (fun r_ hw_ => ?_)
  obtain rfl : r_ = (cb v1 v2 v3) := hw_
  refine lv_if_eq (tgt := 19) hx hb dX10_pack_6 (by decide) (fun c_2 => ?_) (fun c_2 => ?_)
  · refine lv_iconst (v := (-1)) hx hb dX10_pack_19 (by decide) ?_
    refine W.widen (k := 0) (n := 0) (Nat.le_of_ble_eq_true rfl) (Nat.le_of_ble_eq_true rfl) ?_
    exact W.iret (v := (-1)) hx hb hr (fun t ht hW => ⟨⟨(-1), (), rfl, (by first | rfl | (simp [c_2]; done)), trivial⟩, hS.F ht⟩) hS.2.2 dX10_pack_20
  · refine lv_aload_n hx hb dX10_pack_9 rfl (lv_at hl 0 rfl) ?_
    refine va_get (D := (dC, dI)) (ci := 10) (v := .int 0) (C := RX10) (T := TX10) (N := 15) hx hb hts inX10 hown hK hP 0 rfl rfl 7 (by decide) (hts _ mw_208) (fun _ h9 => h9) rfl dX10_pack_10 ?_
    refine lv_sipush (v := 200) hx hb dX10_pack_13 (by decide) ?_
    refine lv_icmp_lt (tgt := 21) hx hb dX10_pack_16 (by decide) (fun c_ => ?_) (fun c_ => absurd c_ (by decide))
    refine lv_aload_n hx hb dX10_pack_21 rfl (lv_at hl 0 rfl) ?_
    refine lv_aload_n hx hb dX10_pack_22 rfl (lv_at hl 0 rfl) ?_
    refine va_get (D := (dC, dI)) (ci := 10) (v := .ref (a 8)) (C := RX10) (T := TX10) (N := 15) hx hb hts inX10 hown hK hP 0 rfl rfl 8 (by decide) (hts _ mw_209) (fun _ h9 => h9) rfl dX10_pack_23 ?_
    refine lv_iload_n hx hb dX10_pack_26 rfl (lv_at hl 1 rfl) ?_
    have hPc := hP.sub (ws' := [(x, .inr (10, (kO a))), ((a 8), .inl ((cy 8), 144, .inl (fun _ => (-1)))), ((a 13), .inr (2, (chO a)))]) [0, 1, 2] rfl
    have hKc := hK.sub (tys' := [((cy 8), .int)]) [0] rfl
    have hDc := hD.sub (ws' := [(x, .inr (10, (kO a))), ((a 8), .inl ((cy 8), 144, .inl (fun _ => (-1)))), ((a 13), .inr (2, (chO a)))]) [0, 1, 2] (by decide) rfl
    have hFc := va_free (wc := [(x, .inr (10, (kO a))), ((a 8), .inl ((cy 8), 144, .inl (fun _ => (-1)))), ((a 13), .inr (2, (chO a)))]) hD hS hA [0, 1, 2] rfl
    refine va_callv (va_runV (As := [.ref (a 8), .int v1]) (rest := []) ⟨hx, hb, hml, hown, hts⟩ (k_gather l dC dI s.heap.size x a cy (a 8) (cy 8) v1) (⟨callB_of 2 hts (gd mw_646) rfl rfl rfl (hts _ mw_1) (hts _ mw_643) ds_X10_gather ⟨Nat.le_of_ble_eq_true rfl, Nat.le_of_ble_eq_true rfl⟩, (hts _ mw_645), (hts _ mp_12)⟩) (pr_V hPc hKc hDc hE (va_recv hKc hPc (ci := 10) (q0 := 0) rfl rfl)) rfl rfl hl.1 rfl (lv_room (Nat.le_of_ble_eq_true rfl)) dX10_pack_27 ⟨Nat.le_of_ble_eq_true rfl, Nat.le_of_ble_eq_true rfl⟩) hS (fun q _ h => hFc q h) hFc (fun u_ t_ H1 locs ht hvm hw_ hB hz1 hk1 hS => ?_)
    obtain ⟨hP1, hK1, hD1⟩ := hB
    rw [ht] at hP1
    have hK1 := va_K.moved hvm.symm hK1
    obtain ⟨hP, hD⟩ := va_join (wr := []) (w1 := [(x, .inr (10, (kO a))), ((a 8), .inl ((cy 8), 144, .inl (fun _ => (-1)))), ((a 13), .inr (2, (chO a)))]) hP hD [0, 1, 2] [] rfl rfl (by decide) (by decide) hk1 hFc hP1 hD1
    generalize H1 = H at hP hS ⊢
    have hP : va_P (dC, dI) vwCl [(x, .inr (10, (kO a))), ((a 8), .inl ((cy 8), 144, .inl (fun _ => (-1)))), ((a 13), .inr (2, (chO a)))] H := hP
    have hD : va_D A [(x, .inr (10, (kO a))), ((a 8), .inl ((cy 8), 144, .inl (fun _ => (-1)))), ((a 13), .inr (2, (chO a)))] := hD
    refine lv_aload_n hx hb dX10_pack_30 rfl (lv_at hl 0 rfl) ?_
    refine va_get (D := (dC, dI)) (ci := 10) (v := .ref (a 13)) (C := RX10) (T := TX10) (N := 15) hx hb hts inX10 hown hK hP 0 rfl rfl 13 (by decide) (hts _ mw_214) (fun _ h9 => h9) rfl dX10_pack_31 ?_
    refine lv_iload_n hx hb dX10_pack_34 rfl (lv_at hl 2 rfl) ?_
    refine lv_iload_n hx hb dX10_pack_35 rfl (lv_at hl 3 rfl) ?_
    have hPc := hP.sub (ws' := [((a 13), .inr (2, (chO a)))]) [2] rfl
    have hKc := hK.sub (tys' := []) [] rfl
    refine pc_i (va_runV (As := [.int v2, .int v3]) (rest := []) ⟨hx, hb, hml, hown, hts⟩ (k_choose l dC dI x a cy v2 v3 (wi_pos (cb_w c_2).1)) (⟨callB_of 2 hts (gd mw_656) rfl rfl rfl (hts _ mw_6) (hts _ mw_653) ds_X2_choose ⟨Nat.le_of_ble_eq_true rfl, Nat.le_of_ble_eq_true rfl⟩, (hts _ mw_654), (hts _ mw_655)⟩) (pu_V hPc hKc hE (va_recv hKc hPc (ci := 2) (q0 := 0) rfl rfl)) rfl rfl hl.1 rfl (lv_room (Nat.le_of_ble_eq_true rfl)) dX10_pack_36 ⟨Nat.le_of_ble_eq_true rfl, Nat.le_of_ble_eq_true rfl⟩) (fun r_ hw_ => ?_)
    obtain rfl : r_ = (-1) := hw_
    refine lv_istore (lv' := [(4, .int (-1)), (0, .ref x), (1, .int v1), (2, .int v2), (3, .int v3)]) hx hb dX10_pack_39 hl (by decide) rfl (fun ls hl => ?_)
    refine lv_iload hx hb dX10_pack_41 (lv_at hl 0 rfl) ?_
    refine lv_iconst (v := (-1)) hx hb dX10_pack_43 (by decide) ?_
    refine lv_icmp_ne (tgt := 49) hx hb dX10_pack_44 (by decide) (fun c_ => absurd c_ (by decide)) (fun c_ => ?_)
    refine lv_iconst (v := (-1)) hx hb dX10_pack_47 (by decide) ?_
    refine W.widen (k := 0) (n := 0) (Nat.le_of_ble_eq_true rfl) (Nat.le_of_ble_eq_true rfl) ?_
    exact W.iret (v := (-1)) hx hb hr (fun t ht hW => ⟨⟨(-1), (), rfl, (by first | rfl | (simp [c_2]; done)), trivial⟩, hS.F ht⟩) hS.2.2 dX10_pack_48

set_option maxHeartbeats 4000000 in
set_option maxRecDepth 100000 in
theorem k_would (l : Launch) (dC : Nat → ClassId) (dI : Nat → Nat → Nat) (sz : Nat) (x : Nat) (a : Nat → Nat) (cy : Nat → ClassId) (v1 v2 v3 v4 : Int32) : Met l yX10_would (Cond.code yX10_would cX10_would 6 (some .int) :: gT) ({ frames := 5, cells := 0, slots := 0, locals := 152 }) (va_Pc [.ref x, .int v1, .int v2, .int v3, .int v4] (pr (dC, dI) sz [(x, .inr (10, (kO a))), ((a 8), .inl ((cy 8), 144, .inl (fun _ => (-1)))), ((a 9), .inl ((cy 9), 144, .inl (fun _ => 0))), ((a 13), .inr (2, (chO a))), ((a 14), .inr (5, (paO a)))] [((cy 8), .int), ((cy 9), .int)])) (va_Qi (fun (r : Int32) (_ : Unit) => r = sp_would v1 v2 v3 v4) (fun _ _ => True) (va_A [(x, .inr (10, (kO a))), ((a 8), .inl ((cy 8), 144, .inl (fun _ => (-1)))), ((a 9), .inl ((cy 9), 144, .inl (fun _ => 0))), ((a 13), .inr (2, (chO a))), ((a 14), .inr (5, (paO a)))] sz)) 0 0 (va_A [(x, .inr (10, (kO a))), ((a 8), .inl ((cy 8), 144, .inl (fun _ => (-1)))), ((a 9), .inl ((cy 9), 144, .inl (fun _ => 0))), ((a 13), .inr (2, (chO a))), ((a 14), .inr (5, (paO a)))] sz) := by
  refine Met.ofW (cc := cX10_would) (maxL := 6) (ret := (some .int)) (by decide) rfl ?_
  intro p e s m args below meth c s₁ B hml hv
  obtain ⟨rfl, hsz, hP, hK, hD0, hE⟩ := hv
  have hx := B.exec
  have hb := B.bytes
  have hr := B.returns
  have hts : ∀ w ∈ gT, w.before _ s = true := fun w h => atoms_spec (ws := Cond.code yX10_would cX10_would 6 (some .int) :: gT) B.pre w (List.mem_cons_of_mem _ h)
  have hown : s.vm.findClass RX10 = some m.cls := findClass_of_methodNamed B.named
  have hlocks := B.notSynchronized
  subst hsz
  have hD := hD0.self (sz := s.heap.size)
  generalize hAe : va_A [(x, .inr (10, (kO a))), ((a 8), .inl ((cy 8), 144, .inl (fun _ => (-1)))), ((a 9), .inl ((cy 9), 144, .inl (fun _ => 0))), ((a 13), .inr (2, (chO a))), ((a 14), .inr (5, (paO a)))] s.heap.size = A at hD ⊢
  have hA : ∀ q : Nat, s.heap.size ≤ q → A q := fun q h => by rw [← hAe]; exact Or.inr h
  have hS : va_S A s.heap s.heap [] := va_S.rf
  have hl := lv_entry ([.ref x, .int v1, .int v2, .int v3, .int v4]) (n := 6) (Nat.le_of_ble_eq_true rfl)
  rw [lg_entry_eq]
  generalize (lg_sl ([.ref x, .int v1, .int v2, .int v3, .int v4]) ++ List.replicate (6 - (lg_sl ([.ref x, .int v1, .int v2, .int v3, .int v4])).length) Slot.unset).toArray = ls at hl ⊢
  have hl : lv_has ls 6 [(0, .ref x), (1, .int v1), (2, .int v2), (3, .int v3), (4, .int v4)] := hl
  refine lv_iload_n hx hb dX10_would_0 rfl (lv_at hl 1 rfl) ?_
  refine lv_iload_n hx hb dX10_would_1 rfl (lv_at hl 2 rfl) ?_
  refine lv_iload_n hx hb dX10_would_2 rfl (lv_at hl 3 rfl) ?_
  have hPc := hP.sub (ws' := []) [] rfl
  have hKc := hK.sub (tys' := []) [] rfl
  refine pc_i (va_runS (As := [.int v1, .int v2, .int v3]) (rest := []) ⟨hx, hb, hml, hown, hts⟩ (c_canBeAsked l dC dI v1 v2 v3) (⟨callB_of 3 hts (gd mw_642) rfl rfl rfl (hts _ mw_1) (hts _ mw_640) ds_X10_canBeAsked ⟨Nat.le_of_ble_eq_true rfl, Nat.le_of_ble_eq_true rfl⟩, (hts _ mw_641)⟩) (pu_S hPc hKc hE) rfl rfl hl.1 rfl (lv_room (Nat.le_of_ble_eq_true rfl)) dX10_would_3 ⟨Nat.le_of_ble_eq_true rfl, Nat.le_of_ble_eq_true rfl⟩) (fun r_ hw_ => ?_)
  obtain rfl : r_ = (cb v1 v2 v3) := hw_
  refine lv_if_ne (tgt := 11) hx hb dX10_would_6 (by decide) (fun c_2 => ?_) (fun c_2 => ?_)
  · refine lv_aload_n hx hb dX10_would_11 rfl (lv_at hl 0 rfl) ?_
    refine lv_aload_n hx hb dX10_would_12 rfl (lv_at hl 0 rfl) ?_
    refine va_get (D := (dC, dI)) (ci := 10) (v := .ref (a 8)) (C := RX10) (T := TX10) (N := 15) hx hb hts inX10 hown hK hP 0 rfl rfl 8 (by decide) (hts _ mw_209) (fun _ h9 => h9) rfl dX10_would_13 ?_
    refine lv_iload_n hx hb dX10_would_16 rfl (lv_at hl 1 rfl) ?_
    have hPc := hP.sub (ws' := [(x, .inr (10, (kO a))), ((a 8), .inl ((cy 8), 144, .inl (fun _ => (-1)))), ((a 13), .inr (2, (chO a)))]) [0, 1, 3] rfl
    have hKc := hK.sub (tys' := [((cy 8), .int)]) [0] rfl
    have hDc := hD.sub (ws' := [(x, .inr (10, (kO a))), ((a 8), .inl ((cy 8), 144, .inl (fun _ => (-1)))), ((a 13), .inr (2, (chO a)))]) [0, 1, 3] (by decide) rfl
    have hFc := va_free (wc := [(x, .inr (10, (kO a))), ((a 8), .inl ((cy 8), 144, .inl (fun _ => (-1)))), ((a 13), .inr (2, (chO a)))]) hD hS hA [0, 1, 3] rfl
    refine va_callv (va_runV (As := [.ref (a 8), .int v1]) (rest := []) ⟨hx, hb, hml, hown, hts⟩ (k_gather l dC dI s.heap.size x a cy (a 8) (cy 8) v1) (⟨callB_of 2 hts (gd mw_646) rfl rfl rfl (hts _ mw_1) (hts _ mw_643) ds_X10_gather ⟨Nat.le_of_ble_eq_true rfl, Nat.le_of_ble_eq_true rfl⟩, (hts _ mw_645), (hts _ mp_12)⟩) (pr_V hPc hKc hDc hE (va_recv hKc hPc (ci := 10) (q0 := 0) rfl rfl)) rfl rfl hl.1 rfl (lv_room (Nat.le_of_ble_eq_true rfl)) dX10_would_17 ⟨Nat.le_of_ble_eq_true rfl, Nat.le_of_ble_eq_true rfl⟩) hS (fun q _ h => hFc q h) hFc (fun u_ t_ H1 locs ht hvm hw_ hB hz1 hk1 hS => ?_)
    obtain ⟨hP1, hK1, hD1⟩ := hB
    rw [ht] at hP1
    have hK1 := va_K.moved hvm.symm hK1
    obtain ⟨hP, hD⟩ := va_join (wr := [((a 9), .inl ((cy 9), 144, .inl (fun _ => 0))), ((a 14), .inr (5, (paO a)))]) (w1 := [(x, .inr (10, (kO a))), ((a 8), .inl ((cy 8), 144, .inl (fun _ => (-1)))), ((a 13), .inr (2, (chO a)))]) hP hD [0, 1, 3] [2, 4] rfl rfl (by decide) (by decide) hk1 hFc hP1 hD1
    generalize H1 = H at hP hS ⊢
    have hP : va_P (dC, dI) vwCl [((a 9), .inl ((cy 9), 144, .inl (fun _ => 0))), ((a 14), .inr (5, (paO a))), (x, .inr (10, (kO a))), ((a 8), .inl ((cy 8), 144, .inl (fun _ => (-1)))), ((a 13), .inr (2, (chO a)))] H := hP
    have hD : va_D A [((a 9), .inl ((cy 9), 144, .inl (fun _ => 0))), ((a 14), .inr (5, (paO a))), (x, .inr (10, (kO a))), ((a 8), .inl ((cy 8), 144, .inl (fun _ => (-1)))), ((a 13), .inr (2, (chO a)))] := hD
    refine lv_iload hx hb dX10_would_20 (lv_at hl 4 rfl) ?_
    by_cases c_4 : v4 = 0
    · refine lv_topi (fun y_ e_ => ?_)
      obtain rfl : y_ = 0 := e_.trans c_4
      refine lv_tableIn (tgt := 56) hx hb dX10_would_22 (by decide) (by decide) rfl (by decide) ?_
      refine lv_aload_n hx hb dX10_would_56 rfl (lv_at hl 0 rfl) ?_
      refine va_get (D := (dC, dI)) (ci := 10) (v := .ref (a 13)) (C := RX10) (T := TX10) (N := 15) hx hb hts inX10 hown hK hP 2 rfl rfl 13 (by decide) (hts _ mw_214) (fun _ h9 => h9) rfl dX10_would_57 ?_
      refine lv_iload_n hx hb dX10_would_60 rfl (lv_at hl 2 rfl) ?_
      refine lv_iload_n hx hb dX10_would_61 rfl (lv_at hl 3 rfl) ?_
      have hPc := hP.sub (ws' := [((a 13), .inr (2, (chO a)))]) [4] rfl
      have hKc := hK.sub (tys' := []) [] rfl
      refine pc_i (va_runV (As := [.int v2, .int v3]) (rest := []) ⟨hx, hb, hml, hown, hts⟩ (k_choose l dC dI x a cy v2 v3 (wi_pos (cb_w c_2).1)) (⟨callB_of 2 hts (gd mw_656) rfl rfl rfl (hts _ mw_6) (hts _ mw_653) ds_X2_choose ⟨Nat.le_of_ble_eq_true rfl, Nat.le_of_ble_eq_true rfl⟩, (hts _ mw_654), (hts _ mw_655)⟩) (pu_V hPc hKc hE (va_recv hKc hPc (ci := 2) (q0 := 0) rfl rfl)) rfl rfl hl.1 rfl (lv_room (Nat.le_of_ble_eq_true rfl)) dX10_would_62 ⟨Nat.le_of_ble_eq_true rfl, Nat.le_of_ble_eq_true rfl⟩) (fun r_ hw_ => ?_)
      obtain rfl : r_ = (-1) := hw_
      refine lv_istore (lv' := [(5, .int (-1)), (0, .ref x), (1, .int v1), (2, .int v2), (3, .int v3), (4, .int v4)]) hx hb dX10_would_65 hl (by decide) rfl (fun ls hl => ?_)
      refine lv_iload hx hb dX10_would_67 (lv_at hl 0 rfl) ?_
      refine lv_iconst (v := (-1)) hx hb dX10_would_69 (by decide) ?_
      refine lv_icmp_ne (tgt := 77) hx hb dX10_would_70 (by decide) (fun c_ => absurd c_ (by decide)) (fun c_ => ?_)
      refine lv_iconst (v := (-1)) hx hb dX10_would_73 (by decide) ?_
      refine lv_goto (tgt := 81) hx hb dX10_would_74 (by decide) ?_
      refine W.widen (k := 0) (n := 0) (Nat.le_of_ble_eq_true rfl) (Nat.le_of_ble_eq_true rfl) ?_
      exact W.iret (v := (-1)) hx hb hr (fun t ht hW => ⟨⟨(-1), (), rfl, (by first | rfl | (simp [sp_would, c_2, c_4]; done)), trivial⟩, hS.F ht⟩) hS.2.2 dX10_would_81
    by_cases c_6 : v4 = 1
    · refine lv_topi (fun y_ e_ => ?_)
      obtain rfl : y_ = 1 := e_.trans c_6
      refine lv_tableIn (tgt := 82) hx hb dX10_would_22 (by decide) (by decide) rfl (by decide) ?_
      refine lv_aload_n hx hb dX10_would_82 rfl (lv_at hl 0 rfl) ?_
      refine va_get (D := (dC, dI)) (ci := 10) (v := .ref (a 13)) (C := RX10) (T := TX10) (N := 15) hx hb hts inX10 hown hK hP 2 rfl rfl 13 (by decide) (hts _ mw_214) (fun _ h9 => h9) rfl dX10_would_83 ?_
      refine lv_iload_n hx hb dX10_would_86 rfl (lv_at hl 2 rfl) ?_
      refine lv_iload_n hx hb dX10_would_87 rfl (lv_at hl 3 rfl) ?_
      have hPc := hP.sub (ws' := [((a 13), .inr (2, (chO a)))]) [4] rfl
      have hKc := hK.sub (tys' := []) [] rfl
      refine pc_i (va_runV (As := [.int v2, .int v3]) (rest := []) ⟨hx, hb, hml, hown, hts⟩ (k_choose l dC dI x a cy v2 v3 (wi_pos (cb_w c_2).1)) (⟨callB_of 2 hts (gd mw_656) rfl rfl rfl (hts _ mw_6) (hts _ mw_653) ds_X2_choose ⟨Nat.le_of_ble_eq_true rfl, Nat.le_of_ble_eq_true rfl⟩, (hts _ mw_654), (hts _ mw_655)⟩) (pu_V hPc hKc hE (va_recv hKc hPc (ci := 2) (q0 := 0) rfl rfl)) rfl rfl hl.1 rfl (lv_room (Nat.le_of_ble_eq_true rfl)) dX10_would_88 ⟨Nat.le_of_ble_eq_true rfl, Nat.le_of_ble_eq_true rfl⟩) (fun r_ hw_ => ?_)
      obtain rfl : r_ = (-1) := hw_
      refine lv_iconst (v := (-1)) hx hb dX10_would_91 (by decide) ?_
      refine lv_icmp_ne (tgt := 99) hx hb dX10_would_92 (by decide) (fun c_ => absurd c_ (by decide)) (fun c_ => ?_)
      refine lv_iconst (v := (-1)) hx hb dX10_would_95 (by decide) ?_
      refine lv_goto (tgt := 106) hx hb dX10_would_96 (by decide) ?_
      refine W.widen (k := 0) (n := 0) (Nat.le_of_ble_eq_true rfl) (Nat.le_of_ble_eq_true rfl) ?_
      exact W.iret (v := (-1)) hx hb hr (fun t ht hW => ⟨⟨(-1), (), rfl, (by first | rfl | (simp [sp_would, c_2, c_4, c_6]; done)), trivial⟩, hS.F ht⟩) hS.2.2 dX10_would_106
    by_cases c_8 : v4 = 2
    · refine lv_topi (fun y_ e_ => ?_)
      obtain rfl : y_ = 2 := e_.trans c_8
      refine lv_tableIn (tgt := 107) hx hb dX10_would_22 (by decide) (by decide) rfl (by decide) ?_
      refine lv_aload_n hx hb dX10_would_107 rfl (lv_at hl 0 rfl) ?_
      refine lv_iload_n hx hb dX10_would_108 rfl (lv_at hl 1 rfl) ?_
      refine lv_iload_n hx hb dX10_would_109 rfl (lv_at hl 2 rfl) ?_
      refine lv_iload_n hx hb dX10_would_110 rfl (lv_at hl 3 rfl) ?_
      have hPc := hP.sub (ws' := [(x, .inr (10, (kO a))), ((a 8), .inl ((cy 8), 144, .inl (fun _ => (-1)))), ((a 9), .inl ((cy 9), 144, .inl (fun _ => 0))), ((a 13), .inr (2, (chO a)))]) [2, 3, 0, 4] rfl
      have hKc := hK.sub (tys' := [((cy 8), .int), ((cy 9), .int)]) [0, 1] rfl
      have hDc := hD.sub (ws' := [(x, .inr (10, (kO a))), ((a 8), .inl ((cy 8), 144, .inl (fun _ => (-1)))), ((a 9), .inl ((cy 9), 144, .inl (fun _ => 0))), ((a 13), .inr (2, (chO a)))]) [2, 3, 0, 4] (by decide) rfl
      have hFc := va_free (wc := [(x, .inr (10, (kO a))), ((a 8), .inl ((cy 8), 144, .inl (fun _ => (-1)))), ((a 9), .inl ((cy 9), 144, .inl (fun _ => 0))), ((a 13), .inr (2, (chO a)))]) hD hS hA [2, 3, 0, 4] rfl
      refine va_calli (va_runV (As := [.int v1, .int v2, .int v3]) (rest := []) ⟨hx, hb, hml, hown, hts⟩ (k_countFull l dC dI H.size x a cy v1 v2 v3 (wi_pos (cb_w c_2).1)) (⟨callB_of 3 hts (gd mw_733) rfl rfl rfl (hts _ mw_1) (hts _ mw_730) ds_X10_countFull ⟨Nat.le_of_ble_eq_true rfl, Nat.le_of_ble_eq_true rfl⟩, (hts _ mw_732), (hts _ mp_20)⟩) (pr_V hPc hKc hDc hE (va_recv hKc hPc (ci := 10) (q0 := 0) rfl rfl)) rfl rfl hl.1 rfl (lv_room (Nat.le_of_ble_eq_true rfl)) dX10_would_111 ⟨Nat.le_of_ble_eq_true rfl, Nat.le_of_ble_eq_true rfl⟩) hS (fun q _ h => hFc q h) hFc (fun r_ u_ t_ H1 locs ht hvm hw_ hB hz1 hk1 hS => ?_)
      obtain rfl : r_ = 0 := hw_
      have hP1 : va_P (dC, dI) vwCl [] H1 := fun k q h => by simp at h
      have hD1 : va_D (va_A [(x, .inr (10, (kO a))), ((a 8), .inl ((cy 8), 144, .inl (fun _ => (-1)))), ((a 9), .inl ((cy 9), 144, .inl (fun _ => 0))), ((a 13), .inr (2, (chO a)))] H.size) [] := ⟨fun i j p q h => by simp at h, fun k q h => by simp at h⟩
      obtain ⟨hP, hD⟩ := va_join (wr := [((a 14), .inr (5, (paO a)))]) (w1 := []) hP hD [2, 3, 0, 4] [1] rfl rfl (by decide) (by decide) hk1 hFc hP1 hD1
      generalize H1 = H at hP hS ⊢
      have hP : va_P (dC, dI) vwCl [((a 14), .inr (5, (paO a)))] H := hP
      have hD : va_D A [((a 14), .inr (5, (paO a)))] := hD
      refine W.widen (k := 0) (n := 0) (Nat.le_of_ble_eq_true rfl) (Nat.le_of_ble_eq_true rfl) ?_
      exact W.iret (v := 0) hx hb hr (fun t ht hW => ⟨⟨0, (), rfl, (by first | rfl | (simp [sp_would, c_2, c_4, c_6, c_8]; done)), trivial⟩, hS.F ht⟩) hS.2.2 dX10_would_114
    by_cases c_10 : v4 = 3
    · refine lv_topi (fun y_ e_ => ?_)
      obtain rfl : y_ = 3 := e_.trans c_10
      refine lv_tableIn (tgt := 115) hx hb dX10_would_22 (by decide) (by decide) rfl (by decide) ?_
      refine lv_aload_n hx hb dX10_would_115 rfl (lv_at hl 0 rfl) ?_
      refine va_get (D := (dC, dI)) (ci := 10) (v := .ref (a 14)) (C := RX10) (T := TX10) (N := 15) hx hb hts inX10 hown hK hP 2 rfl rfl 14 (by decide) (hts _ mw_215) (fun _ h9 => h9) rfl dX10_would_116 ?_
      refine lv_aload_n hx hb dX10_would_119 rfl (lv_at hl 0 rfl) ?_
      refine va_get (D := (dC, dI)) (ci := 10) (v := .ref (a 13)) (C := RX10) (T := TX10) (N := 15) hx hb hts inX10 hown hK hP 2 rfl rfl 13 (by decide) (hts _ mw_214) (fun _ h9 => h9) rfl dX10_would_120 ?_
      refine lv_iload_n hx hb dX10_would_123 rfl (lv_at hl 2 rfl) ?_
      refine lv_iload_n hx hb dX10_would_124 rfl (lv_at hl 3 rfl) ?_
      have hPc := hP.sub (ws' := [((a 14), .inr (5, (paO a))), ((a 13), .inr (2, (chO a)))]) [1, 4] rfl
      have hKc := hK.sub (tys' := []) [] rfl
      have hDc := hD.sub (ws' := [((a 14), .inr (5, (paO a))), ((a 13), .inr (2, (chO a)))]) [1, 4] (by decide) rfl
      have hFc := va_free (wc := [((a 14), .inr (5, (paO a))), ((a 13), .inr (2, (chO a)))]) hD hS hA [1, 4] rfl
      refine va_calli (va_runV (As := [.ref (a 13), .int v2, .int v3]) (rest := []) ⟨hx, hb, hml, hown, hts⟩ (k_mostBoxes l dC dI H.size x a cy v2 v3 (wi_pos (cb_w c_2).1)) (⟨callB_of 3 hts (gd mw_738) rfl rfl rfl (hts _ mw_7) (hts _ mw_735) ds_X5_mostBoxes ⟨Nat.le_of_ble_eq_true rfl, Nat.le_of_ble_eq_true rfl⟩, (hts _ mw_736), (hts _ mw_737)⟩) (pr_V hPc hKc hDc hE (va_recv hKc hPc (ci := 5) (q0 := 0) rfl rfl)) rfl rfl hl.1 rfl (lv_room (Nat.le_of_ble_eq_true rfl)) dX10_would_125 ⟨Nat.le_of_ble_eq_true rfl, Nat.le_of_ble_eq_true rfl⟩) hS (fun q _ h => hFc q h) hFc (fun r_ u_ t_ H1 locs ht hvm hw_ hB hz1 hk1 hS => ?_)
      obtain rfl : r_ = 0 := hw_
      have hP1 : va_P (dC, dI) vwCl [] H1 := fun k q h => by simp at h
      have hD1 : va_D (va_A [((a 14), .inr (5, (paO a))), ((a 13), .inr (2, (chO a)))] H.size) [] := ⟨fun i j p q h => by simp at h, fun k q h => by simp at h⟩
      obtain ⟨hP, hD⟩ := va_join (wr := [((a 9), .inl ((cy 9), 144, .inl (fun _ => 0))), (x, .inr (10, (kO a))), ((a 8), .inl ((cy 8), 144, .inl (fun _ => (-1))))]) (w1 := []) hP hD [1, 4] [0, 2, 3] rfl rfl (by decide) (by decide) hk1 hFc hP1 hD1
      generalize H1 = H at hP hS ⊢
      have hP : va_P (dC, dI) vwCl [((a 9), .inl ((cy 9), 144, .inl (fun _ => 0))), (x, .inr (10, (kO a))), ((a 8), .inl ((cy 8), 144, .inl (fun _ => (-1))))] H := hP
      have hD : va_D A [((a 9), .inl ((cy 9), 144, .inl (fun _ => 0))), (x, .inr (10, (kO a))), ((a 8), .inl ((cy 8), 144, .inl (fun _ => (-1))))] := hD
      refine W.widen (k := 0) (n := 0) (Nat.le_of_ble_eq_true rfl) (Nat.le_of_ble_eq_true rfl) ?_
      exact W.iret (v := 0) hx hb hr (fun t ht hW => ⟨⟨0, (), rfl, (by first | rfl | (simp [sp_would, c_2, c_4, c_6, c_8, c_10]; done)), trivial⟩, hS.F ht⟩) hS.2.2 dX10_would_128
    by_cases c_12 : v4 = 4
    · refine lv_topi (fun y_ e_ => ?_)
      obtain rfl : y_ = 4 := e_.trans c_12
      refine lv_tableIn (tgt := 129) hx hb dX10_would_22 (by decide) (by decide) rfl (by decide) ?_
      refine lv_aload_n hx hb dX10_would_129 rfl (lv_at hl 0 rfl) ?_
      refine va_get (D := (dC, dI)) (ci := 10) (v := .ref (a 13)) (C := RX10) (T := TX10) (N := 15) hx hb hts inX10 hown hK hP 2 rfl rfl 13 (by decide) (hts _ mw_214) (fun _ h9 => h9) rfl dX10_would_130 ?_
      refine va_get (D := (dC, dI)) (ci := 2) (v := .int 0) (C := RX2) (T := TX2) (N := 6) hx hb hts inX2 hown hK hP 4 rfl rfl 3 (by decide) (hts _ mw_162) (fun _ h9 => h9) rfl dX10_would_133 ?_
      refine W.widen (k := 0) (n := 0) (Nat.le_of_ble_eq_true rfl) (Nat.le_of_ble_eq_true rfl) ?_
      exact W.iret (v := 0) hx hb hr (fun t ht hW => ⟨⟨0, (), rfl, (by first | rfl | (simp [sp_would, c_2, c_4, c_6, c_8, c_10, c_12]; done)), trivial⟩, hS.F ht⟩) hS.2.2 dX10_would_136
    refine lv_tableOut (tgt := 137) hx hb dX10_would_22 (by have n0 := lv_neT c_4 (show (0 : Int32).toInt = 0 by decide); have n1 := lv_neT c_6 (show (1 : Int32).toInt = 1 by decide); have n2 := lv_neT c_8 (show (2 : Int32).toInt = 2 by decide); have n3 := lv_neT c_10 (show (3 : Int32).toInt = 3 by decide); have n4 := lv_neT c_12 (show (4 : Int32).toInt = 4 by decide); omega) (by decide) ?_
    refine lv_iconst (v := (-1)) hx hb dX10_would_137 (by decide) ?_
    refine W.widen (k := 0) (n := 0) (Nat.le_of_ble_eq_true rfl) (Nat.le_of_ble_eq_true rfl) ?_
    exact W.iret (v := (-1)) hx hb hr (fun t ht hW => ⟨⟨(-1), (), rfl, (by first | rfl | (simp [sp_would, c_2, c_4, c_6, c_8, c_10, c_12]; done)), trivial⟩, hS.F ht⟩) hS.2.2 dX10_would_138
  · refine lv_iconst (v := (-1)) hx hb dX10_would_9 (by decide) ?_
    refine W.widen (k := 0) (n := 0) (Nat.le_of_ble_eq_true rfl) (Nat.le_of_ble_eq_true rfl) ?_
    exact W.iret (v := (-1)) hx hb hr (fun t ht hW => ⟨⟨(-1), (), rfl, (by first | rfl | (simp [sp_would, c_2]; done)), trivial⟩, hS.F ht⟩) hS.2.2 dX10_would_10
