/-- the sums of no piece, as far as they are written -/
def rz (i : Nat) : Nat → Int32 := fun j => if j = 0 ∧ 0 < i then 1 else 0
theorem rz_0 : rz 0 = fun _ => 0 := funext fun j => by simp [rz]
theorem rz_y {i : Nat} (h : i < 2 ^ 31) (h0 : nI i = 0) : upd (rz i) (nI i).toNatClampNeg (vp_nar .boolean 1) = rz (i + 1) := by
  have e0 : i = 0 := by
    have := nI_toInt h
    rw [h0] at this
    have e1 : (0 : Int32).toInt = 0 := by decide
    omega
  subst e0
  rw [nI_clamp h, show vp_nar .boolean 1 = 1 from by decide]
  funext j
  by_cases hj : j = 0 <;> simp [upd, rz, hj]
theorem rz_n {i : Nat} (h : i < 2 ^ 31) (h0 : ¬ nI i = 0) : upd (rz i) (nI i).toNatClampNeg (vp_nar .boolean 0) = rz (i + 1) := by
  have e0 : 0 < i := by
    rcases Nat.eq_zero_or_pos i with h1 | h1
    · subst h1; exact absurd nI_0 h0
    · exact h1
  rw [nI_clamp h, show vp_nar .boolean 0 = 0 from by decide]
  funext j
  by_cases hj : j = i
  · subst hj
    have h2 : ¬ j = 0 := by omega
    simp [upd, rz, h2]
  · simp [upd, rz, hj, e0]
theorem rz_z {i n : Nat} (h : i < 2 ^ 31) (h0 : 0 < i) : rz n (nI i).toNatClampNeg = 0 := by
  rw [nI_clamp h]
  have h2 : ¬ i = 0 := by omega
  simp [rz, h2]
theorem wi_nat {v lo hi : Int32} (h : ¬ wi v lo hi = 0) (h0 : 0 ≤ lo.toInt) : ∃ j : Nat, v = nI j ∧ lo.toInt ≤ j ∧ (j : Int) ≤ hi.toInt := by
  obtain ⟨h1, h2⟩ := wi_in h
  obtain ⟨j, hj, rfl⟩ := nI_of (x := v) (by rw [Int32.lt_iff_toInt_lt]; have e0 : (0 : Int32).toInt = 0 := by decide
                                            omega)
  rw [nI_toInt hj] at h1 h2
  exact ⟨j, rfl, h1, h2⟩
theorem wi_m1 (v : Int32) : wi v (-1) (-1) = 0 ↔ ¬ v = -1 := by
  constructor
  · intro h h2
    subst h2
    exact absurd h (by decide)
  · intro h
    rcases wi_z v (-1) (-1) with h1 | h1
    · exact h1
    · exfalso
      obtain ⟨h2, h3⟩ := wi_in (v := v) (lo := -1) (hi := -1) (by rw [h1]; decide)
      exact h (Int32.toInt_inj.mp (by omega))

set_option maxHeartbeats 4000000 in
set_option maxRecDepth 100000 in
theorem m_isBatch (l : Launch) (dC : Nat → ClassId) (dI : Nat → Nat → Nat) (x : Nat) (a : Nat → Nat) (cy : Nat → ClassId) (v1 : Int32) : Met l yX11_isBatch (Cond.code yX11_isBatch cX11_isBatch 2 (some .boolean) :: gT) ({ frames := 2, cells := 0, slots := 0, locals := 82 }) (va_Pc [.ref x, .int v1] (pu (dC, dI) [(x, .inr (11, (mO a)))] [])) (vp_Si (fun r => r = 0)) 0 0 (fun _ => False) := by
  refine Met.ofW (cc := cX11_isBatch) (maxL := 2) (ret := (some .boolean)) (by decide) rfl ?_
  intro p e s m args below meth c s₁ B hml hv
  obtain ⟨rfl, hP, hK, hE⟩ := hv
  have hx := B.exec
  have hb := B.bytes
  have hr := B.returns
  have hts : ∀ w ∈ gT, w.before _ s = true := fun w h => atoms_spec (ws := Cond.code yX11_isBatch cX11_isBatch 2 (some .boolean) :: gT) B.pre w (List.mem_cons_of_mem _ h)
  have hown : s.vm.findClass RX11 = some m.cls := findClass_of_methodNamed B.named
  have hlocks := B.notSynchronized
  have hl := lv_entry ([.ref x, .int v1]) (n := 2) (Nat.le_of_ble_eq_true rfl)
  rw [lg_entry_eq]
  generalize (lg_sl ([.ref x, .int v1]) ++ List.replicate (2 - (lg_sl ([.ref x, .int v1])).length) Slot.unset).toArray = ls at hl ⊢
  have hl : lv_has ls 2 [(0, .ref x), (1, .int v1)] := hl
  refine lv_iload_n hx hb dX11_isBatch_0 rfl (lv_at hl 1 rfl) ?_
  refine lv_iconst (v := 0) hx hb dX11_isBatch_1 (by decide) ?_
  refine lv_aload_n hx hb dX11_isBatch_2 rfl (lv_at hl 0 rfl) ?_
  refine va_get (D := (dC, dI)) (ci := 11) (v := .int 0) (C := RX11) (T := TX11) (N := 56) hx hb hts inX11 hown hK hP 0 rfl rfl 1 (by decide) (hts _ mw_881) (fun _ h9 => h9) rfl dX11_isBatch_3 ?_
  refine lv_iconst (v := 1) hx hb dX11_isBatch_6 (by decide) ?_
  refine lv_isub hx hb dX11_isBatch_7 ?_
  refine lv_topi (fun y_ e_ => ?_)
  obtain rfl : y_ = (-1) := e_.trans (by decide)
  have hPc := hP.sub (ws' := []) [] rfl
  have hKc := hK.sub (tys' := []) [] rfl
  refine pc_i (va_runS (As := [.int v1, .int 0, .int (-1)]) (rest := []) ⟨hx, hb, hml, hown, hts⟩ (c_isIn l dC dI v1 0 (-1)) (⟨callB_of 3 hts (gd mw_1057) rfl rfl rfl (hts _ mw_8) (hts _ mw_1055) ds_X11_isIn ⟨Nat.le_of_ble_eq_true rfl, Nat.le_of_ble_eq_true rfl⟩, (hts _ mw_1056)⟩) (pu_S hPc hKc hE) rfl rfl hl.1 rfl (lv_room (Nat.le_of_ble_eq_true rfl)) dX11_isBatch_8 ⟨Nat.le_of_ble_eq_true rfl, Nat.le_of_ble_eq_true rfl⟩) (fun r_ hw_ => ?_)
  obtain rfl : r_ = 0 := hw_.trans (wi_e _)
  exact W.zret (v := 0) (ty := .boolean) hx hb hr rfl (fun t ht hW => ⟨0, rfl, (by first | rfl | (simp []; done)), ht⟩) (fun q h => absurd h List.not_mem_nil) dX11_isBatch_11

set_option maxHeartbeats 4000000 in
set_option maxRecDepth 100000 in
theorem m_isOut (l : Launch) (dC : Nat → ClassId) (dI : Nat → Nat → Nat) (x : Nat) (a : Nat → Nat) (cy : Nat → ClassId) (v1 : Int32) : Met l yX11_isOut (Cond.code yX11_isOut cX11_isOut 2 (some .boolean) :: gT) ({ frames := 2, cells := 0, slots := 0, locals := 82 }) (va_Pc [.ref x, .int v1] (pu (dC, dI) [(x, .inr (11, (mO a)))] [])) (vp_Si (fun r => r = 0)) 0 0 (fun _ => False) := by
  refine Met.ofW (cc := cX11_isOut) (maxL := 2) (ret := (some .boolean)) (by decide) rfl ?_
  intro p e s m args below meth c s₁ B hml hv
  obtain ⟨rfl, hP, hK, hE⟩ := hv
  have hx := B.exec
  have hb := B.bytes
  have hr := B.returns
  have hts : ∀ w ∈ gT, w.before _ s = true := fun w h => atoms_spec (ws := Cond.code yX11_isOut cX11_isOut 2 (some .boolean) :: gT) B.pre w (List.mem_cons_of_mem _ h)
  have hown : s.vm.findClass RX11 = some m.cls := findClass_of_methodNamed B.named
  have hlocks := B.notSynchronized
  have hl := lv_entry ([.ref x, .int v1]) (n := 2) (Nat.le_of_ble_eq_true rfl)
  rw [lg_entry_eq]
  generalize (lg_sl ([.ref x, .int v1]) ++ List.replicate (2 - (lg_sl ([.ref x, .int v1])).length) Slot.unset).toArray = ls at hl ⊢
  have hl : lv_has ls 2 [(0, .ref x), (1, .int v1)] := hl
  refine lv_iload_n hx hb dX11_isOut_0 rfl (lv_at hl 1 rfl) ?_
  refine lv_iconst (v := 0) hx hb dX11_isOut_1 (by decide) ?_
  refine lv_aload_n hx hb dX11_isOut_2 rfl (lv_at hl 0 rfl) ?_
  refine va_get (D := (dC, dI)) (ci := 11) (v := .int 0) (C := RX11) (T := TX11) (N := 56) hx hb hts inX11 hown hK hP 0 rfl rfl 2 (by decide) (hts _ mw_882) (fun _ h9 => h9) rfl dX11_isOut_3 ?_
  refine lv_iconst (v := 1) hx hb dX11_isOut_6 (by decide) ?_
  refine lv_isub hx hb dX11_isOut_7 ?_
  refine lv_topi (fun y_ e_ => ?_)
  obtain rfl : y_ = (-1) := e_.trans (by decide)
  have hPc := hP.sub (ws' := []) [] rfl
  have hKc := hK.sub (tys' := []) [] rfl
  refine pc_i (va_runS (As := [.int v1, .int 0, .int (-1)]) (rest := []) ⟨hx, hb, hml, hown, hts⟩ (c_isIn l dC dI v1 0 (-1)) (⟨callB_of 3 hts (gd mw_1057) rfl rfl rfl (hts _ mw_8) (hts _ mw_1055) ds_X11_isIn ⟨Nat.le_of_ble_eq_true rfl, Nat.le_of_ble_eq_true rfl⟩, (hts _ mw_1056)⟩) (pu_S hPc hKc hE) rfl rfl hl.1 rfl (lv_room (Nat.le_of_ble_eq_true rfl)) dX11_isOut_8 ⟨Nat.le_of_ble_eq_true rfl, Nat.le_of_ble_eq_true rfl⟩) (fun r_ hw_ => ?_)
  obtain rfl : r_ = 0 := hw_.trans (wi_e _)
  refine lv_if_eq (tgt := 28) hx hb dX11_isOut_11 (by decide) (fun c_ => ?_) (fun c_ => absurd c_ (by decide))
  refine lv_iconst (v := 0) hx hb dX11_isOut_28 (by decide) ?_
  exact W.zret (v := 0) (ty := .boolean) hx hb hr rfl (fun t ht hW => ⟨0, rfl, (by first | rfl | (simp []; done)), ht⟩) (fun q h => absurd h List.not_mem_nil) dX11_isOut_29

set_option maxHeartbeats 4000000 in
set_option maxRecDepth 100000 in
theorem m_isGood (l : Launch) (dC : Nat → ClassId) (dI : Nat → Nat → Nat) (x : Nat) (a : Nat → Nat) (cy : Nat → ClassId) (v1 : Int32) : Met l yX11_isGood (Cond.code yX11_isGood cX11_isGood 2 (some .boolean) :: gT) ({ frames := 3, cells := 0, slots := 0, locals := 103 }) (va_Pc [.ref x, .int v1] (pu (dC, dI) [(x, .inr (11, (mO a)))] [])) (vp_Si (fun r => r = 0)) 0 0 (fun _ => False) := by
  refine Met.ofW (cc := cX11_isGood) (maxL := 2) (ret := (some .boolean)) (by decide) rfl ?_
  intro p e s m args below meth c s₁ B hml hv
  obtain ⟨rfl, hP, hK, hE⟩ := hv
  have hx := B.exec
  have hb := B.bytes
  have hr := B.returns
  have hts : ∀ w ∈ gT, w.before _ s = true := fun w h => atoms_spec (ws := Cond.code yX11_isGood cX11_isGood 2 (some .boolean) :: gT) B.pre w (List.mem_cons_of_mem _ h)
  have hown : s.vm.findClass RX11 = some m.cls := findClass_of_methodNamed B.named
  have hlocks := B.notSynchronized
  have hl := lv_entry ([.ref x, .int v1]) (n := 2) (Nat.le_of_ble_eq_true rfl)
  rw [lg_entry_eq]
  generalize (lg_sl ([.ref x, .int v1]) ++ List.replicate (2 - (lg_sl ([.ref x, .int v1])).length) Slot.unset).toArray = ls at hl ⊢
  have hl : lv_has ls 2 [(0, .ref x), (1, .int v1)] := hl
  refine lv_aload_n hx hb dX11_isGood_0 rfl (lv_at hl 0 rfl) ?_
  refine lv_iload_n hx hb dX11_isGood_1 rfl (lv_at hl 1 rfl) ?_
  have hPc := hP.sub (ws' := [(x, .inr (11, (mO a)))]) [0] rfl
  have hKc := hK.sub (tys' := []) [] rfl
  refine pc_i (va_runV (As := [.int v1]) (rest := []) ⟨hx, hb, hml, hown, hts⟩ (m_isBatch l dC dI x a cy v1) (⟨callB_of 1 hts (gd mw_1070) rfl rfl rfl (hts _ mw_8) (hts _ mw_1067) ds_X11_isBatch ⟨Nat.le_of_ble_eq_true rfl, Nat.le_of_ble_eq_true rfl⟩, (hts _ mw_1069), (hts _ mp_39)⟩) (pu_V hPc hKc hE (va_recv hKc hPc (ci := 11) (q0 := 0) rfl rfl)) rfl rfl hl.1 rfl (lv_room (Nat.le_of_ble_eq_true rfl)) dX11_isGood_2 ⟨Nat.le_of_ble_eq_true rfl, Nat.le_of_ble_eq_true rfl⟩) (fun r_ hw_ => ?_)
  obtain rfl : r_ = 0 := hw_
  refine lv_if_eq (tgt := 20) hx hb dX11_isGood_5 (by decide) (fun c_ => ?_) (fun c_ => absurd c_ (by decide))
  refine lv_iconst (v := 0) hx hb dX11_isGood_20 (by decide) ?_
  exact W.zret (v := 0) (ty := .boolean) hx hb hr rfl (fun t ht hW => ⟨0, rfl, (by first | rfl | (simp []; done)), ht⟩) (fun q h => absurd h List.not_mem_nil) dX11_isGood_21

set_option maxHeartbeats 4000000 in
set_option maxRecDepth 100000 in
theorem m_lot (l : Launch) (dC : Nat → ClassId) (dI : Nat → Nat → Nat) (sz : Nat) (x : Nat) (a : Nat → Nat) (cy : Nat → ClassId) (v1 v2 : Int32) : Met l yX11_lot (Cond.code yX11_lot cX11_lot 3 (some .int) :: gT) ({ frames := 2, cells := 0, slots := 0, locals := 82 }) (va_Pc [.ref x, .int v1, .int v2] (pr (dC, dI) sz [(x, .inr (11, (mO a))), ((a 6), .inl ((cy 6), 40, .inl (fun _ => 0))), ((a 7), .inl ((cy 7), 40, .inl (fun _ => 0)))] [((cy 6), .int), ((cy 7), .int)])) (va_Qi (fun (r : Int32) (_ : Unit) => r = sp_lot v1 v2) (fun _ _ => True) (va_A [(x, .inr (11, (mO a))), ((a 6), .inl ((cy 6), 40, .inl (fun _ => 0))), ((a 7), .inl ((cy 7), 40, .inl (fun _ => 0)))] sz)) 0 0 (va_A [(x, .inr (11, (mO a))), ((a 6), .inl ((cy 6), 40, .inl (fun _ => 0))), ((a 7), .inl ((cy 7), 40, .inl (fun _ => 0)))] sz) := by
  refine Met.ofW (cc := cX11_lot) (maxL := 3) (ret := (some .int)) (by decide) rfl ?_
  intro p e s m args below meth c s₁ B hml hv
  obtain ⟨rfl, hsz, hP, hK, hD0, hE⟩ := hv
  have hx := B.exec
  have hb := B.bytes
  have hr := B.returns
  have hts : ∀ w ∈ gT, w.before _ s = true := fun w h => atoms_spec (ws := Cond.code yX11_lot cX11_lot 3 (some .int) :: gT) B.pre w (List.mem_cons_of_mem _ h)
  have hown : s.vm.findClass RX11 = some m.cls := findClass_of_methodNamed B.named
  have hlocks := B.notSynchronized
  subst hsz
  have hD := hD0.self (sz := s.heap.size)
  generalize hAe : va_A [(x, .inr (11, (mO a))), ((a 6), .inl ((cy 6), 40, .inl (fun _ => 0))), ((a 7), .inl ((cy 7), 40, .inl (fun _ => 0)))] s.heap.size = A at hD ⊢
  have hA : ∀ q : Nat, s.heap.size ≤ q → A q := fun q h => by rw [← hAe]; exact Or.inr h
  have hS : va_S A s.heap s.heap [] := va_S.rf
  have hl := lv_entry ([.ref x, .int v1, .int v2]) (n := 3) (Nat.le_of_ble_eq_true rfl)
  rw [lg_entry_eq]
  generalize (lg_sl ([.ref x, .int v1, .int v2]) ++ List.replicate (3 - (lg_sl ([.ref x, .int v1, .int v2])).length) Slot.unset).toArray = ls at hl ⊢
  have hl : lv_has ls 3 [(0, .ref x), (1, .int v1), (2, .int v2)] := hl
  refine lv_iload_n hx hb dX11_lot_0 rfl (lv_at hl 1 rfl) ?_
  refine lv_iconst (v := 0) hx hb dX11_lot_1 (by decide) ?_
  refine lv_ldc (v := 1000000) hx hb hown (hts _ mw_1054) dX11_lot_2 ?_
  have hPc := hP.sub (ws' := []) [] rfl
  have hKc := hK.sub (tys' := []) [] rfl
  refine pc_i (va_runS (As := [.int v1, .int 0, .int 1000000]) (rest := []) ⟨hx, hb, hml, hown, hts⟩ (c_isIn l dC dI v1 0 1000000) (⟨callB_of 3 hts (gd mw_1057) rfl rfl rfl (hts _ mw_8) (hts _ mw_1055) ds_X11_isIn ⟨Nat.le_of_ble_eq_true rfl, Nat.le_of_ble_eq_true rfl⟩, (hts _ mw_1056)⟩) (pu_S hPc hKc hE) rfl rfl hl.1 rfl (lv_room (Nat.le_of_ble_eq_true rfl)) dX11_lot_4 ⟨Nat.le_of_ble_eq_true rfl, Nat.le_of_ble_eq_true rfl⟩) (fun r_ hw_ => ?_)
  obtain rfl : r_ = (wi v1 0 1000000) := hw_
  refine lv_if_eq (tgt := 30) hx hb dX11_lot_7 (by decide) (fun c_2 => ?_) (fun c_2 => ?_)
  · refine lv_iconst (v := (-1)) hx hb dX11_lot_30 (by decide) ?_
    refine W.widen (k := 0) (n := 0) (Nat.le_of_ble_eq_true rfl) (Nat.le_of_ble_eq_true rfl) ?_
    exact W.iret (v := (-1)) hx hb hr (fun t ht hW => ⟨⟨(-1), (), rfl, (by first | rfl | (simp [sp_lot, c_2]; done)), trivial⟩, hS.F ht⟩) hS.2.2 dX11_lot_31
  · refine lv_iload_n hx hb dX11_lot_10 rfl (lv_at hl 2 rfl) ?_
    refine lv_iconst (v := 0) hx hb dX11_lot_11 (by decide) ?_
    refine lv_sipush (v := 255) hx hb dX11_lot_12 (by decide) ?_
    have hPc := hP.sub (ws' := []) [] rfl
    have hKc := hK.sub (tys' := []) [] rfl
    refine pc_i (va_runS (As := [.int v2, .int 0, .int 255]) (rest := []) ⟨hx, hb, hml, hown, hts⟩ (c_isIn l dC dI v2 0 255) (⟨callB_of 3 hts (gd mw_1057) rfl rfl rfl (hts _ mw_8) (hts _ mw_1055) ds_X11_isIn ⟨Nat.le_of_ble_eq_true rfl, Nat.le_of_ble_eq_true rfl⟩, (hts _ mw_1056)⟩) (pu_S hPc hKc hE) rfl rfl hl.1 rfl (lv_room (Nat.le_of_ble_eq_true rfl)) dX11_lot_15 ⟨Nat.le_of_ble_eq_true rfl, Nat.le_of_ble_eq_true rfl⟩) (fun r_ hw_ => ?_)
    obtain rfl : r_ = (wi v2 0 255) := hw_
    refine lv_if_eq (tgt := 30) hx hb dX11_lot_18 (by decide) (fun c_4 => ?_) (fun c_4 => ?_)
    · refine lv_iconst (v := (-1)) hx hb dX11_lot_30 (by decide) ?_
      refine W.widen (k := 0) (n := 0) (Nat.le_of_ble_eq_true rfl) (Nat.le_of_ble_eq_true rfl) ?_
      exact W.iret (v := (-1)) hx hb hr (fun t ht hW => ⟨⟨(-1), (), rfl, (by first | rfl | (simp [sp_lot, c_2, c_4]; done)), trivial⟩, hS.F ht⟩) hS.2.2 dX11_lot_31
    · refine lv_aload_n hx hb dX11_lot_21 rfl (lv_at hl 0 rfl) ?_
      refine va_get (D := (dC, dI)) (ci := 11) (v := .int 0) (C := RX11) (T := TX11) (N := 56) hx hb hts inX11 hown hK hP 0 rfl rfl 0 (by decide) (hts _ mw_880) (fun _ h9 => h9) rfl dX11_lot_22 ?_
      refine lv_bipush (v := 40) hx hb dX11_lot_25 (by decide) ?_
      refine lv_icmp_ne (tgt := 32) hx hb dX11_lot_27 (by decide) (fun c_ => ?_) (fun c_ => absurd c_ (by decide))
      refine lv_aload_n hx hb dX11_lot_32 rfl (lv_at hl 0 rfl) ?_
      refine va_get (D := (dC, dI)) (ci := 11) (v := .ref (a 6)) (C := RX11) (T := TX11) (N := 56) hx hb hts inX11 hown hK hP 0 rfl rfl 6 (by decide) (hts _ mw_886) (fun _ h9 => h9) rfl dX11_lot_33 ?_
      refine lv_aload_n hx hb dX11_lot_36 rfl (lv_at hl 0 rfl) ?_
      refine va_get (D := (dC, dI)) (ci := 11) (v := .int 0) (C := RX11) (T := TX11) (N := 56) hx hb hts inX11 hown hK hP 0 rfl rfl 0 (by decide) (hts _ mw_880) (fun _ h9 => h9) rfl dX11_lot_37 ?_
      refine lv_iload_n hx hb dX11_lot_40 rfl (lv_at hl 1 rfl) ?_
      refine va_iast hx hb hK hP hD hS 1 0 rfl rfl (by unfold vp_in; decide) dX11_lot_41 (fun H locs hP hD hS => ?_)
      have hP : va_P (dC, dI) vwCl [(x, .inr (11, (mO a))), ((a 6), .inl ((cy 6), 40, .inl (upd (fun _ => 0) (0 : Int32).toNatClampNeg v1))), ((a 7), .inl ((cy 7), 40, .inl (fun _ => 0)))] H := hP
      have hD : va_D A [(x, .inr (11, (mO a))), ((a 6), .inl ((cy 6), 40, .inl (upd (fun _ => 0) (0 : Int32).toNatClampNeg v1))), ((a 7), .inl ((cy 7), 40, .inl (fun _ => 0)))] := hD
      refine lv_aload_n hx hb dX11_lot_42 rfl (lv_at hl 0 rfl) ?_
      refine va_get (D := (dC, dI)) (ci := 11) (v := .ref (a 7)) (C := RX11) (T := TX11) (N := 56) hx hb hts inX11 hown hK hP 0 rfl rfl 7 (by decide) (hts _ mw_887) (fun _ h9 => h9) rfl dX11_lot_43 ?_
      refine lv_aload_n hx hb dX11_lot_46 rfl (lv_at hl 0 rfl) ?_
      refine va_get (D := (dC, dI)) (ci := 11) (v := .int 0) (C := RX11) (T := TX11) (N := 56) hx hb hts inX11 hown hK hP 0 rfl rfl 0 (by decide) (hts _ mw_880) (fun _ h9 => h9) rfl dX11_lot_47 ?_
      refine lv_iload_n hx hb dX11_lot_50 rfl (lv_at hl 2 rfl) ?_
      refine va_iast hx hb hK hP hD hS 2 1 rfl rfl (by unfold vp_in; decide) dX11_lot_51 (fun H locs hP hD hS => ?_)
      have hP : va_P (dC, dI) vwCl [(x, .inr (11, (mO a))), ((a 6), .inl ((cy 6), 40, .inl (upd (fun _ => 0) (0 : Int32).toNatClampNeg v1))), ((a 7), .inl ((cy 7), 40, .inl (upd (fun _ => 0) (0 : Int32).toNatClampNeg v2)))] H := hP
      have hD : va_D A [(x, .inr (11, (mO a))), ((a 6), .inl ((cy 6), 40, .inl (upd (fun _ => 0) (0 : Int32).toNatClampNeg v1))), ((a 7), .inl ((cy 7), 40, .inl (upd (fun _ => 0) (0 : Int32).toNatClampNeg v2)))] := hD
      refine lv_aload_n hx hb dX11_lot_52 rfl (lv_at hl 0 rfl) ?_
      refine lv_dup hx hb dX11_lot_53 rfl ?_
      refine va_get (D := (dC, dI)) (ci := 11) (v := .int 0) (C := RX11) (T := TX11) (N := 56) hx hb hts inX11 hown hK hP 0 rfl rfl 0 (by decide) (hts _ mw_880) (fun _ h9 => h9) rfl dX11_lot_54 ?_
      refine lv_iconst (v := 1) hx hb dX11_lot_57 (by decide) ?_
      refine lv_iadd hx hb dX11_lot_58 ?_
      refine lv_topi (fun y_ e_ => ?_)
      obtain rfl : y_ = 1 := e_.trans (by decide)
      refine va_put (D := (dC, dI)) (ci := 11) (v := .int 1) (ty := .int) (C := RX11) (T := TX11) (N := 56) hx hb hts inX11 tyX11 tyX11_ok nmX11 hown hK hP hD hS 0 rfl rfl 0 (by decide) (hts _ mw_880) (fun _ h9 => h9) rfl (by decide +kernel) rfl rfl (Nat.le_of_ble_eq_true rfl) dX11_lot_59 (fun H locs hP hD hS => ?_)
      have hP : va_P (dC, dI) vwCl [(x, .inr (11, ((mO a).set 0 (.int 1)))), ((a 6), .inl ((cy 6), 40, .inl (upd (fun _ => 0) (0 : Int32).toNatClampNeg v1))), ((a 7), .inl ((cy 7), 40, .inl (upd (fun _ => 0) (0 : Int32).toNatClampNeg v2)))] H := hP
      have hD : va_D A [(x, .inr (11, ((mO a).set 0 (.int 1)))), ((a 6), .inl ((cy 6), 40, .inl (upd (fun _ => 0) (0 : Int32).toNatClampNeg v1))), ((a 7), .inl ((cy 7), 40, .inl (upd (fun _ => 0) (0 : Int32).toNatClampNeg v2)))] := hD
      refine lv_aload_n hx hb dX11_lot_62 rfl (lv_at hl 0 rfl) ?_
      refine va_get (D := (dC, dI)) (ci := 11) (v := .int 1) (C := RX11) (T := TX11) (N := 56) hx hb hts inX11 hown hK hP 0 rfl rfl 0 (by decide) (hts _ mw_880) (fun _ h9 => h9) rfl dX11_lot_63 ?_
      refine lv_iconst (v := 1) hx hb dX11_lot_66 (by decide) ?_
      refine lv_isub hx hb dX11_lot_67 ?_
      refine lv_topi (fun y_ e_ => ?_)
      obtain rfl : y_ = 0 := e_.trans (by decide)
      refine W.widen (k := 0) (n := 0) (Nat.le_of_ble_eq_true rfl) (Nat.le_of_ble_eq_true rfl) ?_
      exact W.iret (v := 0) hx hb hr (fun t ht hW => ⟨⟨0, (), rfl, (by first | rfl | (simp [sp_lot, c_2, c_4]; done)), trivial⟩, hS.F ht⟩) hS.2.2 dX11_lot_68

set_option maxHeartbeats 4000000 in
set_option maxRecDepth 100000 in
theorem m_batch (l : Launch) (dC : Nat → ClassId) (dI : Nat → Nat → Nat) (sz : Nat) (x : Nat) (a : Nat → Nat) (cy : Nat → ClassId) (v1 : Int32) : Met l yX11_batch (Cond.code yX11_batch cX11_batch 2 (some .int) :: gT) ({ frames := 2, cells := 0, slots := 0, locals := 82 }) (va_Pc [.ref x, .int v1] (pr (dC, dI) sz [(x, .inr (11, (mO a))), ((a 8), .inl ((cy 8), 40, .inl (fun _ => 0))), ((a 23), .inl ((cy 23), 40, .inl (fun _ => 0))), ((a 24), .inl ((cy 24), 40, .inl (fun _ => 0))), ((a 13), .inl ((cy 13), 40, .inl (fun _ => 0))), ((a 14), .inl ((cy 14), 40, .inl (fun _ => 0))), ((a 15), .inl ((cy 15), 40, .inl (fun _ => 0)))] [((cy 8), .int), ((cy 23), .int), ((cy 24), .int), ((cy 13), .int), ((cy 14), .int), ((cy 15), .int)])) (va_Qi (fun (r : Int32) (_ : Unit) => r = sp_batch v1) (fun _ _ => True) (va_A [(x, .inr (11, (mO a))), ((a 8), .inl ((cy 8), 40, .inl (fun _ => 0))), ((a 23), .inl ((cy 23), 40, .inl (fun _ => 0))), ((a 24), .inl ((cy 24), 40, .inl (fun _ => 0))), ((a 13), .inl ((cy 13), 40, .inl (fun _ => 0))), ((a 14), .inl ((cy 14), 40, .inl (fun _ => 0))), ((a 15), .inl ((cy 15), 40, .inl (fun _ => 0)))] sz)) 0 0 (va_A [(x, .inr (11, (mO a))), ((a 8), .inl ((cy 8), 40, .inl (fun _ => 0))), ((a 23), .inl ((cy 23), 40, .inl (fun _ => 0))), ((a 24), .inl ((cy 24), 40, .inl (fun _ => 0))), ((a 13), .inl ((cy 13), 40, .inl (fun _ => 0))), ((a 14), .inl ((cy 14), 40, .inl (fun _ => 0))), ((a 15), .inl ((cy 15), 40, .inl (fun _ => 0)))] sz) := by
  refine Met.ofW (cc := cX11_batch) (maxL := 2) (ret := (some .int)) (by decide) rfl ?_
  intro p e s m args below meth c s₁ B hml hv
  obtain ⟨rfl, hsz, hP, hK, hD0, hE⟩ := hv
  have hx := B.exec
  have hb := B.bytes
  have hr := B.returns
  have hts : ∀ w ∈ gT, w.before _ s = true := fun w h => atoms_spec (ws := Cond.code yX11_batch cX11_batch 2 (some .int) :: gT) B.pre w (List.mem_cons_of_mem _ h)
  have hown : s.vm.findClass RX11 = some m.cls := findClass_of_methodNamed B.named
  have hlocks := B.notSynchronized
  subst hsz
  have hD := hD0.self (sz := s.heap.size)
  generalize hAe : va_A [(x, .inr (11, (mO a))), ((a 8), .inl ((cy 8), 40, .inl (fun _ => 0))), ((a 23), .inl ((cy 23), 40, .inl (fun _ => 0))), ((a 24), .inl ((cy 24), 40, .inl (fun _ => 0))), ((a 13), .inl ((cy 13), 40, .inl (fun _ => 0))), ((a 14), .inl ((cy 14), 40, .inl (fun _ => 0))), ((a 15), .inl ((cy 15), 40, .inl (fun _ => 0)))] s.heap.size = A at hD ⊢
  have hA : ∀ q : Nat, s.heap.size ≤ q → A q := fun q h => by rw [← hAe]; exact Or.inr h
  have hS : va_S A s.heap s.heap [] := va_S.rf
  have hl := lv_entry ([.ref x, .int v1]) (n := 2) (Nat.le_of_ble_eq_true rfl)
  rw [lg_entry_eq]
  generalize (lg_sl ([.ref x, .int v1]) ++ List.replicate (2 - (lg_sl ([.ref x, .int v1])).length) Slot.unset).toArray = ls at hl ⊢
  have hl : lv_has ls 2 [(0, .ref x), (1, .int v1)] := hl
  refine lv_iload_n hx hb dX11_batch_0 rfl (lv_at hl 1 rfl) ?_
  refine lv_iconst (v := 0) hx hb dX11_batch_1 (by decide) ?_
  refine lv_iconst (v := 5) hx hb dX11_batch_2 (by decide) ?_
  have hPc := hP.sub (ws' := []) [] rfl
  have hKc := hK.sub (tys' := []) [] rfl
  refine pc_i (va_runS (As := [.int v1, .int 0, .int 5]) (rest := []) ⟨hx, hb, hml, hown, hts⟩ (c_isIn l dC dI v1 0 5) (⟨callB_of 3 hts (gd mw_1057) rfl rfl rfl (hts _ mw_8) (hts _ mw_1055) ds_X11_isIn ⟨Nat.le_of_ble_eq_true rfl, Nat.le_of_ble_eq_true rfl⟩, (hts _ mw_1056)⟩) (pu_S hPc hKc hE) rfl rfl hl.1 rfl (lv_room (Nat.le_of_ble_eq_true rfl)) dX11_batch_3 ⟨Nat.le_of_ble_eq_true rfl, Nat.le_of_ble_eq_true rfl⟩) (fun r_ hw_ => ?_)
  obtain rfl : r_ = (wi v1 0 5) := hw_
  refine lv_if_eq (tgt := 18) hx hb dX11_batch_6 (by decide) (fun c_2 => ?_) (fun c_2 => ?_)
  · refine lv_iconst (v := (-1)) hx hb dX11_batch_18 (by decide) ?_
    refine W.widen (k := 0) (n := 0) (Nat.le_of_ble_eq_true rfl) (Nat.le_of_ble_eq_true rfl) ?_
    exact W.iret (v := (-1)) hx hb hr (fun t ht hW => ⟨⟨(-1), (), rfl, (by first | rfl | (simp [sp_batch, c_2]; done)), trivial⟩, hS.F ht⟩) hS.2.2 dX11_batch_19
  · refine lv_aload_n hx hb dX11_batch_9 rfl (lv_at hl 0 rfl) ?_
    refine va_get (D := (dC, dI)) (ci := 11) (v := .int 0) (C := RX11) (T := TX11) (N := 56) hx hb hts inX11 hown hK hP 0 rfl rfl 1 (by decide) (hts _ mw_881) (fun _ h9 => h9) rfl dX11_batch_10 ?_
    refine lv_bipush (v := 40) hx hb dX11_batch_13 (by decide) ?_
    refine lv_icmp_ne (tgt := 20) hx hb dX11_batch_15 (by decide) (fun c_ => ?_) (fun c_ => absurd c_ (by decide))
    refine lv_aload_n hx hb dX11_batch_20 rfl (lv_at hl 0 rfl) ?_
    refine va_get (D := (dC, dI)) (ci := 11) (v := .ref (a 8)) (C := RX11) (T := TX11) (N := 56) hx hb hts inX11 hown hK hP 0 rfl rfl 8 (by decide) (hts _ mw_888) (fun _ h9 => h9) rfl dX11_batch_21 ?_
    refine lv_aload_n hx hb dX11_batch_24 rfl (lv_at hl 0 rfl) ?_
    refine va_get (D := (dC, dI)) (ci := 11) (v := .int 0) (C := RX11) (T := TX11) (N := 56) hx hb hts inX11 hown hK hP 0 rfl rfl 1 (by decide) (hts _ mw_881) (fun _ h9 => h9) rfl dX11_batch_25 ?_
    refine lv_iload_n hx hb dX11_batch_28 rfl (lv_at hl 1 rfl) ?_
    refine va_iast hx hb hK hP hD hS 1 0 rfl rfl (by unfold vp_in; decide) dX11_batch_29 (fun H locs hP hD hS => ?_)
    have hP : va_P (dC, dI) vwCl [(x, .inr (11, (mO a))), ((a 8), .inl ((cy 8), 40, .inl (upd (fun _ => 0) (0 : Int32).toNatClampNeg v1))), ((a 23), .inl ((cy 23), 40, .inl (fun _ => 0))), ((a 24), .inl ((cy 24), 40, .inl (fun _ => 0))), ((a 13), .inl ((cy 13), 40, .inl (fun _ => 0))), ((a 14), .inl ((cy 14), 40, .inl (fun _ => 0))), ((a 15), .inl ((cy 15), 40, .inl (fun _ => 0)))] H := hP
    have hD : va_D A [(x, .inr (11, (mO a))), ((a 8), .inl ((cy 8), 40, .inl (upd (fun _ => 0) (0 : Int32).toNatClampNeg v1))), ((a 23), .inl ((cy 23), 40, .inl (fun _ => 0))), ((a 24), .inl ((cy 24), 40, .inl (fun _ => 0))), ((a 13), .inl ((cy 13), 40, .inl (fun _ => 0))), ((a 14), .inl ((cy 14), 40, .inl (fun _ => 0))), ((a 15), .inl ((cy 15), 40, .inl (fun _ => 0)))] := hD
    refine lv_aload_n hx hb dX11_batch_30 rfl (lv_at hl 0 rfl) ?_
    refine va_get (D := (dC, dI)) (ci := 11) (v := .ref (a 23)) (C := RX11) (T := TX11) (N := 56) hx hb hts inX11 hown hK hP 0 rfl rfl 23 (by decide) (hts _ mw_903) (fun _ h9 => h9) rfl dX11_batch_31 ?_
    refine lv_aload_n hx hb dX11_batch_34 rfl (lv_at hl 0 rfl) ?_
    refine va_get (D := (dC, dI)) (ci := 11) (v := .int 0) (C := RX11) (T := TX11) (N := 56) hx hb hts inX11 hown hK hP 0 rfl rfl 1 (by decide) (hts _ mw_881) (fun _ h9 => h9) rfl dX11_batch_35 ?_
    refine lv_iconst (v := (-1)) hx hb dX11_batch_38 (by decide) ?_
    refine va_iast hx hb hK hP hD hS 2 1 rfl rfl (by unfold vp_in; decide) dX11_batch_39 (fun H locs hP hD hS => ?_)
    have hP : va_P (dC, dI) vwCl [(x, .inr (11, (mO a))), ((a 8), .inl ((cy 8), 40, .inl (upd (fun _ => 0) (0 : Int32).toNatClampNeg v1))), ((a 23), .inl ((cy 23), 40, .inl (upd (fun _ => 0) (0 : Int32).toNatClampNeg (-1)))), ((a 24), .inl ((cy 24), 40, .inl (fun _ => 0))), ((a 13), .inl ((cy 13), 40, .inl (fun _ => 0))), ((a 14), .inl ((cy 14), 40, .inl (fun _ => 0))), ((a 15), .inl ((cy 15), 40, .inl (fun _ => 0)))] H := hP
    have hD : va_D A [(x, .inr (11, (mO a))), ((a 8), .inl ((cy 8), 40, .inl (upd (fun _ => 0) (0 : Int32).toNatClampNeg v1))), ((a 23), .inl ((cy 23), 40, .inl (upd (fun _ => 0) (0 : Int32).toNatClampNeg (-1)))), ((a 24), .inl ((cy 24), 40, .inl (fun _ => 0))), ((a 13), .inl ((cy 13), 40, .inl (fun _ => 0))), ((a 14), .inl ((cy 14), 40, .inl (fun _ => 0))), ((a 15), .inl ((cy 15), 40, .inl (fun _ => 0)))] := hD
    refine lv_aload_n hx hb dX11_batch_40 rfl (lv_at hl 0 rfl) ?_
    refine va_get (D := (dC, dI)) (ci := 11) (v := .ref (a 24)) (C := RX11) (T := TX11) (N := 56) hx hb hts inX11 hown hK hP 0 rfl rfl 24 (by decide) (hts _ mw_904) (fun _ h9 => h9) rfl dX11_batch_41 ?_
    refine lv_aload_n hx hb dX11_batch_44 rfl (lv_at hl 0 rfl) ?_
    refine va_get (D := (dC, dI)) (ci := 11) (v := .int 0) (C := RX11) (T := TX11) (N := 56) hx hb hts inX11 hown hK hP 0 rfl rfl 1 (by decide) (hts _ mw_881) (fun _ h9 => h9) rfl dX11_batch_45 ?_
    refine lv_iconst (v := (-1)) hx hb dX11_batch_48 (by decide) ?_
    refine va_iast hx hb hK hP hD hS 3 2 rfl rfl (by unfold vp_in; decide) dX11_batch_49 (fun H locs hP hD hS => ?_)
    have hP : va_P (dC, dI) vwCl [(x, .inr (11, (mO a))), ((a 8), .inl ((cy 8), 40, .inl (upd (fun _ => 0) (0 : Int32).toNatClampNeg v1))), ((a 23), .inl ((cy 23), 40, .inl (upd (fun _ => 0) (0 : Int32).toNatClampNeg (-1)))), ((a 24), .inl ((cy 24), 40, .inl (upd (fun _ => 0) (0 : Int32).toNatClampNeg (-1)))), ((a 13), .inl ((cy 13), 40, .inl (fun _ => 0))), ((a 14), .inl ((cy 14), 40, .inl (fun _ => 0))), ((a 15), .inl ((cy 15), 40, .inl (fun _ => 0)))] H := hP
    have hD : va_D A [(x, .inr (11, (mO a))), ((a 8), .inl ((cy 8), 40, .inl (upd (fun _ => 0) (0 : Int32).toNatClampNeg v1))), ((a 23), .inl ((cy 23), 40, .inl (upd (fun _ => 0) (0 : Int32).toNatClampNeg (-1)))), ((a 24), .inl ((cy 24), 40, .inl (upd (fun _ => 0) (0 : Int32).toNatClampNeg (-1)))), ((a 13), .inl ((cy 13), 40, .inl (fun _ => 0))), ((a 14), .inl ((cy 14), 40, .inl (fun _ => 0))), ((a 15), .inl ((cy 15), 40, .inl (fun _ => 0)))] := hD
    refine lv_aload_n hx hb dX11_batch_50 rfl (lv_at hl 0 rfl) ?_
    refine va_get (D := (dC, dI)) (ci := 11) (v := .ref (a 13)) (C := RX11) (T := TX11) (N := 56) hx hb hts inX11 hown hK hP 0 rfl rfl 13 (by decide) (hts _ mw_893) (fun _ h9 => h9) rfl dX11_batch_51 ?_
    refine lv_aload_n hx hb dX11_batch_54 rfl (lv_at hl 0 rfl) ?_
    refine va_get (D := (dC, dI)) (ci := 11) (v := .int 0) (C := RX11) (T := TX11) (N := 56) hx hb hts inX11 hown hK hP 0 rfl rfl 1 (by decide) (hts _ mw_881) (fun _ h9 => h9) rfl dX11_batch_55 ?_
    refine lv_ldc (v := (-1000001)) hx hb hown (hts _ mw_1062) dX11_batch_58 ?_
    refine va_iast hx hb hK hP hD hS 4 3 rfl rfl (by unfold vp_in; decide) dX11_batch_60 (fun H locs hP hD hS => ?_)
    have hP : va_P (dC, dI) vwCl [(x, .inr (11, (mO a))), ((a 8), .inl ((cy 8), 40, .inl (upd (fun _ => 0) (0 : Int32).toNatClampNeg v1))), ((a 23), .inl ((cy 23), 40, .inl (upd (fun _ => 0) (0 : Int32).toNatClampNeg (-1)))), ((a 24), .inl ((cy 24), 40, .inl (upd (fun _ => 0) (0 : Int32).toNatClampNeg (-1)))), ((a 13), .inl ((cy 13), 40, .inl (upd (fun _ => 0) (0 : Int32).toNatClampNeg (-1000001)))), ((a 14), .inl ((cy 14), 40, .inl (fun _ => 0))), ((a 15), .inl ((cy 15), 40, .inl (fun _ => 0)))] H := hP
    have hD : va_D A [(x, .inr (11, (mO a))), ((a 8), .inl ((cy 8), 40, .inl (upd (fun _ => 0) (0 : Int32).toNatClampNeg v1))), ((a 23), .inl ((cy 23), 40, .inl (upd (fun _ => 0) (0 : Int32).toNatClampNeg (-1)))), ((a 24), .inl ((cy 24), 40, .inl (upd (fun _ => 0) (0 : Int32).toNatClampNeg (-1)))), ((a 13), .inl ((cy 13), 40, .inl (upd (fun _ => 0) (0 : Int32).toNatClampNeg (-1000001)))), ((a 14), .inl ((cy 14), 40, .inl (fun _ => 0))), ((a 15), .inl ((cy 15), 40, .inl (fun _ => 0)))] := hD
    refine lv_aload_n hx hb dX11_batch_61 rfl (lv_at hl 0 rfl) ?_
    refine va_get (D := (dC, dI)) (ci := 11) (v := .ref (a 14)) (C := RX11) (T := TX11) (N := 56) hx hb hts inX11 hown hK hP 0 rfl rfl 14 (by decide) (hts _ mw_894) (fun _ h9 => h9) rfl dX11_batch_62 ?_
    refine lv_aload_n hx hb dX11_batch_65 rfl (lv_at hl 0 rfl) ?_
    refine va_get (D := (dC, dI)) (ci := 11) (v := .int 0) (C := RX11) (T := TX11) (N := 56) hx hb hts inX11 hown hK hP 0 rfl rfl 1 (by decide) (hts _ mw_881) (fun _ h9 => h9) rfl dX11_batch_66 ?_
    refine lv_iconst (v := (-1)) hx hb dX11_batch_69 (by decide) ?_
    refine va_iast hx hb hK hP hD hS 5 4 rfl rfl (by unfold vp_in; decide) dX11_batch_70 (fun H locs hP hD hS => ?_)
    have hP : va_P (dC, dI) vwCl [(x, .inr (11, (mO a))), ((a 8), .inl ((cy 8), 40, .inl (upd (fun _ => 0) (0 : Int32).toNatClampNeg v1))), ((a 23), .inl ((cy 23), 40, .inl (upd (fun _ => 0) (0 : Int32).toNatClampNeg (-1)))), ((a 24), .inl ((cy 24), 40, .inl (upd (fun _ => 0) (0 : Int32).toNatClampNeg (-1)))), ((a 13), .inl ((cy 13), 40, .inl (upd (fun _ => 0) (0 : Int32).toNatClampNeg (-1000001)))), ((a 14), .inl ((cy 14), 40, .inl (upd (fun _ => 0) (0 : Int32).toNatClampNeg (-1)))), ((a 15), .inl ((cy 15), 40, .inl (fun _ => 0)))] H := hP
    have hD : va_D A [(x, .inr (11, (mO a))), ((a 8), .inl ((cy 8), 40, .inl (upd (fun _ => 0) (0 : Int32).toNatClampNeg v1))), ((a 23), .inl ((cy 23), 40, .inl (upd (fun _ => 0) (0 : Int32).toNatClampNeg (-1)))), ((a 24), .inl ((cy 24), 40, .inl (upd (fun _ => 0) (0 : Int32).toNatClampNeg (-1)))), ((a 13), .inl ((cy 13), 40, .inl (upd (fun _ => 0) (0 : Int32).toNatClampNeg (-1000001)))), ((a 14), .inl ((cy 14), 40, .inl (upd (fun _ => 0) (0 : Int32).toNatClampNeg (-1)))), ((a 15), .inl ((cy 15), 40, .inl (fun _ => 0)))] := hD
    refine lv_aload_n hx hb dX11_batch_71 rfl (lv_at hl 0 rfl) ?_
    refine va_get (D := (dC, dI)) (ci := 11) (v := .ref (a 15)) (C := RX11) (T := TX11) (N := 56) hx hb hts inX11 hown hK hP 0 rfl rfl 15 (by decide) (hts _ mw_895) (fun _ h9 => h9) rfl dX11_batch_72 ?_
    refine lv_aload_n hx hb dX11_batch_75 rfl (lv_at hl 0 rfl) ?_
    refine va_get (D := (dC, dI)) (ci := 11) (v := .int 0) (C := RX11) (T := TX11) (N := 56) hx hb hts inX11 hown hK hP 0 rfl rfl 1 (by decide) (hts _ mw_881) (fun _ h9 => h9) rfl dX11_batch_76 ?_
    refine lv_iconst (v := (-1)) hx hb dX11_batch_79 (by decide) ?_
    refine va_iast hx hb hK hP hD hS 6 5 rfl rfl (by unfold vp_in; decide) dX11_batch_80 (fun H locs hP hD hS => ?_)
    have hP : va_P (dC, dI) vwCl [(x, .inr (11, (mO a))), ((a 8), .inl ((cy 8), 40, .inl (upd (fun _ => 0) (0 : Int32).toNatClampNeg v1))), ((a 23), .inl ((cy 23), 40, .inl (upd (fun _ => 0) (0 : Int32).toNatClampNeg (-1)))), ((a 24), .inl ((cy 24), 40, .inl (upd (fun _ => 0) (0 : Int32).toNatClampNeg (-1)))), ((a 13), .inl ((cy 13), 40, .inl (upd (fun _ => 0) (0 : Int32).toNatClampNeg (-1000001)))), ((a 14), .inl ((cy 14), 40, .inl (upd (fun _ => 0) (0 : Int32).toNatClampNeg (-1)))), ((a 15), .inl ((cy 15), 40, .inl (upd (fun _ => 0) (0 : Int32).toNatClampNeg (-1))))] H := hP
    have hD : va_D A [(x, .inr (11, (mO a))), ((a 8), .inl ((cy 8), 40, .inl (upd (fun _ => 0) (0 : Int32).toNatClampNeg v1))), ((a 23), .inl ((cy 23), 40, .inl (upd (fun _ => 0) (0 : Int32).toNatClampNeg (-1)))), ((a 24), .inl ((cy 24), 40, .inl (upd (fun _ => 0) (0 : Int32).toNatClampNeg (-1)))), ((a 13), .inl ((cy 13), 40, .inl (upd (fun _ => 0) (0 : Int32).toNatClampNeg (-1000001)))), ((a 14), .inl ((cy 14), 40, .inl (upd (fun _ => 0) (0 : Int32).toNatClampNeg (-1)))), ((a 15), .inl ((cy 15), 40, .inl (upd (fun _ => 0) (0 : Int32).toNatClampNeg (-1))))] := hD
    refine lv_aload_n hx hb dX11_batch_81 rfl (lv_at hl 0 rfl) ?_
    refine lv_dup hx hb dX11_batch_82 rfl ?_
    refine va_get (D := (dC, dI)) (ci := 11) (v := .int 0) (C := RX11) (T := TX11) (N := 56) hx hb hts inX11 hown hK hP 0 rfl rfl 1 (by decide) (hts _ mw_881) (fun _ h9 => h9) rfl dX11_batch_83 ?_
    refine lv_iconst (v := 1) hx hb dX11_batch_86 (by decide) ?_
    refine lv_iadd hx hb dX11_batch_87 ?_
    refine lv_topi (fun y_ e_ => ?_)
    obtain rfl : y_ = 1 := e_.trans (by decide)
    refine va_put (D := (dC, dI)) (ci := 11) (v := .int 1) (ty := .int) (C := RX11) (T := TX11) (N := 56) hx hb hts inX11 tyX11 tyX11_ok nmX11 hown hK hP hD hS 0 rfl rfl 1 (by decide) (hts _ mw_881) (fun _ h9 => h9) rfl (by decide +kernel) rfl rfl (Nat.le_of_ble_eq_true rfl) dX11_batch_88 (fun H locs hP hD hS => ?_)
    have hP : va_P (dC, dI) vwCl [(x, .inr (11, ((mO a).set 1 (.int 1)))), ((a 8), .inl ((cy 8), 40, .inl (upd (fun _ => 0) (0 : Int32).toNatClampNeg v1))), ((a 23), .inl ((cy 23), 40, .inl (upd (fun _ => 0) (0 : Int32).toNatClampNeg (-1)))), ((a 24), .inl ((cy 24), 40, .inl (upd (fun _ => 0) (0 : Int32).toNatClampNeg (-1)))), ((a 13), .inl ((cy 13), 40, .inl (upd (fun _ => 0) (0 : Int32).toNatClampNeg (-1000001)))), ((a 14), .inl ((cy 14), 40, .inl (upd (fun _ => 0) (0 : Int32).toNatClampNeg (-1)))), ((a 15), .inl ((cy 15), 40, .inl (upd (fun _ => 0) (0 : Int32).toNatClampNeg (-1))))] H := hP
    have hD : va_D A [(x, .inr (11, ((mO a).set 1 (.int 1)))), ((a 8), .inl ((cy 8), 40, .inl (upd (fun _ => 0) (0 : Int32).toNatClampNeg v1))), ((a 23), .inl ((cy 23), 40, .inl (upd (fun _ => 0) (0 : Int32).toNatClampNeg (-1)))), ((a 24), .inl ((cy 24), 40, .inl (upd (fun _ => 0) (0 : Int32).toNatClampNeg (-1)))), ((a 13), .inl ((cy 13), 40, .inl (upd (fun _ => 0) (0 : Int32).toNatClampNeg (-1000001)))), ((a 14), .inl ((cy 14), 40, .inl (upd (fun _ => 0) (0 : Int32).toNatClampNeg (-1)))), ((a 15), .inl ((cy 15), 40, .inl (upd (fun _ => 0) (0 : Int32).toNatClampNeg (-1))))] := hD
    refine lv_aload_n hx hb dX11_batch_91 rfl (lv_at hl 0 rfl) ?_
    refine va_get (D := (dC, dI)) (ci := 11) (v := .int 1) (C := RX11) (T := TX11) (N := 56) hx hb hts inX11 hown hK hP 0 rfl rfl 1 (by decide) (hts _ mw_881) (fun _ h9 => h9) rfl dX11_batch_92 ?_
    refine lv_iconst (v := 1) hx hb dX11_batch_95 (by decide) ?_
    refine lv_isub hx hb dX11_batch_96 ?_
    refine lv_topi (fun y_ e_ => ?_)
    obtain rfl : y_ = 0 := e_.trans (by decide)
    refine W.widen (k := 0) (n := 0) (Nat.le_of_ble_eq_true rfl) (Nat.le_of_ble_eq_true rfl) ?_
    exact W.iret (v := 0) hx hb hr (fun t ht hW => ⟨⟨0, (), rfl, (by first | rfl | (simp [sp_batch, c_2]; done)), trivial⟩, hS.F ht⟩) hS.2.2 dX11_batch_97

set_option maxHeartbeats 4000000 in
set_option maxRecDepth 100000 in
theorem m_put (l : Launch) (dC : Nat → ClassId) (dI : Nat → Nat → Nat) (x : Nat) (a : Nat → Nat) (cy : Nat → ClassId) (v1 v2 v3 : Int32) : Met l yX11_put (Cond.code yX11_put cX11_put 4 (some .int) :: gT) ({ frames := 3, cells := 0, slots := 0, locals := 103 }) (va_Pc [.ref x, .int v1, .int v2, .int v3] (pu (dC, dI) [(x, .inr (11, (mO a)))] [])) (vp_Si (fun r => r = -1)) 0 0 (fun _ => False) := by
  refine Met.ofW (cc := cX11_put) (maxL := 4) (ret := (some .int)) (by decide) rfl ?_
  intro p e s m args below meth c s₁ B hml hv
  obtain ⟨rfl, hP, hK, hE⟩ := hv
  have hx := B.exec
  have hb := B.bytes
  have hr := B.returns
  have hts : ∀ w ∈ gT, w.before _ s = true := fun w h => atoms_spec (ws := Cond.code yX11_put cX11_put 4 (some .int) :: gT) B.pre w (List.mem_cons_of_mem _ h)
  have hown : s.vm.findClass RX11 = some m.cls := findClass_of_methodNamed B.named
  have hlocks := B.notSynchronized
  have hl := lv_entry ([.ref x, .int v1, .int v2, .int v3]) (n := 4) (Nat.le_of_ble_eq_true rfl)
  rw [lg_entry_eq]
  generalize (lg_sl ([.ref x, .int v1, .int v2, .int v3]) ++ List.replicate (4 - (lg_sl ([.ref x, .int v1, .int v2, .int v3])).length) Slot.unset).toArray = ls at hl ⊢
  have hl : lv_has ls 4 [(0, .ref x), (1, .int v1), (2, .int v2), (3, .int v3)] := hl
  refine lv_aload_n hx hb dX11_put_0 rfl (lv_at hl 0 rfl) ?_
  refine lv_iload_n hx hb dX11_put_1 rfl (lv_at hl 1 rfl) ?_
  have hPc := hP.sub (ws' := [(x, .inr (11, (mO a)))]) [0] rfl
  have hKc := hK.sub (tys' := []) [] rfl
  refine pc_i (va_runV (As := [.int v1]) (rest := []) ⟨hx, hb, hml, hown, hts⟩ (m_isBatch l dC dI x a cy v1) (⟨callB_of 1 hts (gd mw_1070) rfl rfl rfl (hts _ mw_8) (hts _ mw_1067) ds_X11_isBatch ⟨Nat.le_of_ble_eq_true rfl, Nat.le_of_ble_eq_true rfl⟩, (hts _ mw_1069), (hts _ mp_39)⟩) (pu_V hPc hKc hE (va_recv hKc hPc (ci := 11) (q0 := 0) rfl rfl)) rfl rfl hl.1 rfl (lv_room (Nat.le_of_ble_eq_true rfl)) dX11_put_2 ⟨Nat.le_of_ble_eq_true rfl, Nat.le_of_ble_eq_true rfl⟩) (fun r_ hw_ => ?_)
  obtain rfl : r_ = 0 := hw_
  refine lv_if_eq (tgt := 45) hx hb dX11_put_5 (by decide) (fun c_ => ?_) (fun c_ => absurd c_ (by decide))
  refine lv_iconst (v := (-1)) hx hb dX11_put_45 (by decide) ?_
  exact W.iret (v := (-1)) hx hb hr (fun t ht hW => ⟨(-1), rfl, (by first | rfl | (simp []; done)), ht⟩) (fun q h => absurd h List.not_mem_nil) dX11_put_46

set_option maxHeartbeats 4000000 in
set_option maxRecDepth 100000 in
theorem m_row (l : Launch) (dC : Nat → ClassId) (dI : Nat → Nat → Nat) (x : Nat) (a : Nat → Nat) (cy : Nat → ClassId) (v1 v2 v3 : Int32) : Met l yX11_row (Cond.code yX11_row cX11_row 5 (some .boolean) :: gT) ({ frames := 3, cells := 0, slots := 0, locals := 103 }) (va_Pc [.ref x, .int v1, .int v2, .int v3] (pu (dC, dI) [(x, .inr (11, (mO a)))] [])) (vp_Si (fun r => r = 0)) 0 0 (fun _ => False) := by
  refine Met.ofW (cc := cX11_row) (maxL := 5) (ret := (some .boolean)) (by decide) rfl ?_
  intro p e s m args below meth c s₁ B hml hv
  obtain ⟨rfl, hP, hK, hE⟩ := hv
  have hx := B.exec
  have hb := B.bytes
  have hr := B.returns
  have hts : ∀ w ∈ gT, w.before _ s = true := fun w h => atoms_spec (ws := Cond.code yX11_row cX11_row 5 (some .boolean) :: gT) B.pre w (List.mem_cons_of_mem _ h)
  have hown : s.vm.findClass RX11 = some m.cls := findClass_of_methodNamed B.named
  have hlocks := B.notSynchronized
  have hl := lv_entry ([.ref x, .int v1, .int v2, .int v3]) (n := 5) (Nat.le_of_ble_eq_true rfl)
  rw [lg_entry_eq]
  generalize (lg_sl ([.ref x, .int v1, .int v2, .int v3]) ++ List.replicate (5 - (lg_sl ([.ref x, .int v1, .int v2, .int v3])).length) Slot.unset).toArray = ls at hl ⊢
  have hl : lv_has ls 5 [(0, .ref x), (1, .int v1), (2, .int v2), (3, .int v3)] := hl
  refine lv_aload_n hx hb dX11_row_0 rfl (lv_at hl 0 rfl) ?_
  refine lv_iload_n hx hb dX11_row_1 rfl (lv_at hl 1 rfl) ?_
  have hPc := hP.sub (ws' := [(x, .inr (11, (mO a)))]) [0] rfl
  have hKc := hK.sub (tys' := []) [] rfl
  refine pc_i (va_runV (As := [.int v1]) (rest := []) ⟨hx, hb, hml, hown, hts⟩ (m_isBatch l dC dI x a cy v1) (⟨callB_of 1 hts (gd mw_1070) rfl rfl rfl (hts _ mw_8) (hts _ mw_1067) ds_X11_isBatch ⟨Nat.le_of_ble_eq_true rfl, Nat.le_of_ble_eq_true rfl⟩, (hts _ mw_1069), (hts _ mp_39)⟩) (pu_V hPc hKc hE (va_recv hKc hPc (ci := 11) (q0 := 0) rfl rfl)) rfl rfl hl.1 rfl (lv_room (Nat.le_of_ble_eq_true rfl)) dX11_row_2 ⟨Nat.le_of_ble_eq_true rfl, Nat.le_of_ble_eq_true rfl⟩) (fun r_ hw_ => ?_)
  obtain rfl : r_ = 0 := hw_
  refine lv_if_eq (tgt := 36) hx hb dX11_row_5 (by decide) (fun c_ => ?_) (fun c_ => absurd c_ (by decide))
  refine lv_iconst (v := 0) hx hb dX11_row_36 (by decide) ?_
  exact W.zret (v := 0) (ty := .boolean) hx hb hr rfl (fun t ht hW => ⟨0, rfl, (by first | rfl | (simp []; done)), ht⟩) (fun q h => absurd h List.not_mem_nil) dX11_row_37

set_option maxHeartbeats 4000000 in
set_option maxRecDepth 100000 in
theorem m_tick (l : Launch) (dC : Nat → ClassId) (dI : Nat → Nat → Nat) (x : Nat) (a : Nat → Nat) (cy : Nat → ClassId) (v1 v2 v3 : Int32) : Met l yX11_tick (Cond.code yX11_tick cX11_tick 4 (some .boolean) :: gT) ({ frames := 3, cells := 0, slots := 0, locals := 103 }) (va_Pc [.ref x, .int v1, .int v2, .int v3] (pu (dC, dI) [(x, .inr (11, (mO a)))] [])) (vp_Si (fun r => r = 0)) 0 0 (fun _ => False) := by
  refine Met.ofW (cc := cX11_tick) (maxL := 4) (ret := (some .boolean)) (by decide) rfl ?_
  intro p e s m args below meth c s₁ B hml hv
  obtain ⟨rfl, hP, hK, hE⟩ := hv
  have hx := B.exec
  have hb := B.bytes
  have hr := B.returns
  have hts : ∀ w ∈ gT, w.before _ s = true := fun w h => atoms_spec (ws := Cond.code yX11_tick cX11_tick 4 (some .boolean) :: gT) B.pre w (List.mem_cons_of_mem _ h)
  have hown : s.vm.findClass RX11 = some m.cls := findClass_of_methodNamed B.named
  have hlocks := B.notSynchronized
  have hl := lv_entry ([.ref x, .int v1, .int v2, .int v3]) (n := 4) (Nat.le_of_ble_eq_true rfl)
  rw [lg_entry_eq]
  generalize (lg_sl ([.ref x, .int v1, .int v2, .int v3]) ++ List.replicate (4 - (lg_sl ([.ref x, .int v1, .int v2, .int v3])).length) Slot.unset).toArray = ls at hl ⊢
  have hl : lv_has ls 4 [(0, .ref x), (1, .int v1), (2, .int v2), (3, .int v3)] := hl
  refine lv_aload_n hx hb dX11_tick_0 rfl (lv_at hl 0 rfl) ?_
  refine lv_iload_n hx hb dX11_tick_1 rfl (lv_at hl 1 rfl) ?_
  have hPc := hP.sub (ws' := [(x, .inr (11, (mO a)))]) [0] rfl
  have hKc := hK.sub (tys' := []) [] rfl
  refine pc_i (va_runV (As := [.int v1]) (rest := []) ⟨hx, hb, hml, hown, hts⟩ (m_isBatch l dC dI x a cy v1) (⟨callB_of 1 hts (gd mw_1070) rfl rfl rfl (hts _ mw_8) (hts _ mw_1067) ds_X11_isBatch ⟨Nat.le_of_ble_eq_true rfl, Nat.le_of_ble_eq_true rfl⟩, (hts _ mw_1069), (hts _ mp_39)⟩) (pu_V hPc hKc hE (va_recv hKc hPc (ci := 11) (q0 := 0) rfl rfl)) rfl rfl hl.1 rfl (lv_room (Nat.le_of_ble_eq_true rfl)) dX11_tick_2 ⟨Nat.le_of_ble_eq_true rfl, Nat.le_of_ble_eq_true rfl⟩) (fun r_ hw_ => ?_)
  obtain rfl : r_ = 0 := hw_
  refine lv_if_eq (tgt := 33) hx hb dX11_tick_5 (by decide) (fun c_ => ?_) (fun c_ => absurd c_ (by decide))
  refine lv_iconst (v := 0) hx hb dX11_tick_33 (by decide) ?_
  exact W.zret (v := 0) (ty := .boolean) hx hb hr rfl (fun t ht hW => ⟨0, rfl, (by first | rfl | (simp []; done)), ht⟩) (fun q h => absurd h List.not_mem_nil) dX11_tick_34

set_option maxHeartbeats 4000000 in
set_option maxRecDepth 100000 in
theorem m_stir (l : Launch) (dC : Nat → ClassId) (dI : Nat → Nat → Nat) (x : Nat) (a : Nat → Nat) (cy : Nat → ClassId) (v1 v2 v3 : Int32) : Met l yX11_stir (Cond.code yX11_stir cX11_stir 4 (some .boolean) :: gT) ({ frames := 3, cells := 0, slots := 0, locals := 103 }) (va_Pc [.ref x, .int v1, .int v2, .int v3] (pu (dC, dI) [(x, .inr (11, (mO a)))] [])) (vp_Si (fun r => r = 0)) 0 0 (fun _ => False) := by
  refine Met.ofW (cc := cX11_stir) (maxL := 4) (ret := (some .boolean)) (by decide) rfl ?_
  intro p e s m args below meth c s₁ B hml hv
  obtain ⟨rfl, hP, hK, hE⟩ := hv
  have hx := B.exec
  have hb := B.bytes
  have hr := B.returns
  have hts : ∀ w ∈ gT, w.before _ s = true := fun w h => atoms_spec (ws := Cond.code yX11_stir cX11_stir 4 (some .boolean) :: gT) B.pre w (List.mem_cons_of_mem _ h)
  have hown : s.vm.findClass RX11 = some m.cls := findClass_of_methodNamed B.named
  have hlocks := B.notSynchronized
  have hl := lv_entry ([.ref x, .int v1, .int v2, .int v3]) (n := 4) (Nat.le_of_ble_eq_true rfl)
  rw [lg_entry_eq]
  generalize (lg_sl ([.ref x, .int v1, .int v2, .int v3]) ++ List.replicate (4 - (lg_sl ([.ref x, .int v1, .int v2, .int v3])).length) Slot.unset).toArray = ls at hl ⊢
  have hl : lv_has ls 4 [(0, .ref x), (1, .int v1), (2, .int v2), (3, .int v3)] := hl
  refine lv_aload_n hx hb dX11_stir_0 rfl (lv_at hl 0 rfl) ?_
  refine lv_iload_n hx hb dX11_stir_1 rfl (lv_at hl 1 rfl) ?_
  have hPc := hP.sub (ws' := [(x, .inr (11, (mO a)))]) [0] rfl
  have hKc := hK.sub (tys' := []) [] rfl
  refine pc_i (va_runV (As := [.int v1]) (rest := []) ⟨hx, hb, hml, hown, hts⟩ (m_isBatch l dC dI x a cy v1) (⟨callB_of 1 hts (gd mw_1070) rfl rfl rfl (hts _ mw_8) (hts _ mw_1067) ds_X11_isBatch ⟨Nat.le_of_ble_eq_true rfl, Nat.le_of_ble_eq_true rfl⟩, (hts _ mw_1069), (hts _ mp_39)⟩) (pu_V hPc hKc hE (va_recv hKc hPc (ci := 11) (q0 := 0) rfl rfl)) rfl rfl hl.1 rfl (lv_room (Nat.le_of_ble_eq_true rfl)) dX11_stir_2 ⟨Nat.le_of_ble_eq_true rfl, Nat.le_of_ble_eq_true rfl⟩) (fun r_ hw_ => ?_)
  obtain rfl : r_ = 0 := hw_
  refine lv_if_eq (tgt := 33) hx hb dX11_stir_5 (by decide) (fun c_ => ?_) (fun c_ => absurd c_ (by decide))
  refine lv_iconst (v := 0) hx hb dX11_stir_33 (by decide) ?_
  exact W.zret (v := 0) (ty := .boolean) hx hb hr rfl (fun t ht hW => ⟨0, rfl, (by first | rfl | (simp []; done)), ht⟩) (fun q h => absurd h List.not_mem_nil) dX11_stir_34

set_option maxHeartbeats 4000000 in
set_option maxRecDepth 100000 in
theorem m_cook (l : Launch) (dC : Nat → ClassId) (dI : Nat → Nat → Nat) (x : Nat) (a : Nat → Nat) (cy : Nat → ClassId) (v1 v2 : Int32) : Met l yX11_cook (Cond.code yX11_cook cX11_cook 7 (some .int) :: gT) ({ frames := 3, cells := 0, slots := 0, locals := 103 }) (va_Pc [.ref x, .int v1, .int v2] (pu (dC, dI) [(x, .inr (11, (mO a)))] [])) (vp_Si (fun r => r = -1)) 0 0 (fun _ => False) := by
  refine Met.ofW (cc := cX11_cook) (maxL := 7) (ret := (some .int)) (by decide) rfl ?_
  intro p e s m args below meth c s₁ B hml hv
  obtain ⟨rfl, hP, hK, hE⟩ := hv
  have hx := B.exec
  have hb := B.bytes
  have hr := B.returns
  have hts : ∀ w ∈ gT, w.before _ s = true := fun w h => atoms_spec (ws := Cond.code yX11_cook cX11_cook 7 (some .int) :: gT) B.pre w (List.mem_cons_of_mem _ h)
  have hown : s.vm.findClass RX11 = some m.cls := findClass_of_methodNamed B.named
  have hlocks := B.notSynchronized
  have hl := lv_entry ([.ref x, .int v1, .int v2]) (n := 7) (Nat.le_of_ble_eq_true rfl)
  rw [lg_entry_eq]
  generalize (lg_sl ([.ref x, .int v1, .int v2]) ++ List.replicate (7 - (lg_sl ([.ref x, .int v1, .int v2])).length) Slot.unset).toArray = ls at hl ⊢
  have hl : lv_has ls 7 [(0, .ref x), (1, .int v1), (2, .int v2)] := hl
  refine lv_aload_n hx hb dX11_cook_0 rfl (lv_at hl 0 rfl) ?_
  refine lv_iload_n hx hb dX11_cook_1 rfl (lv_at hl 1 rfl) ?_
  have hPc := hP.sub (ws' := [(x, .inr (11, (mO a)))]) [0] rfl
  have hKc := hK.sub (tys' := []) [] rfl
  refine pc_i (va_runV (As := [.int v1]) (rest := []) ⟨hx, hb, hml, hown, hts⟩ (m_isBatch l dC dI x a cy v1) (⟨callB_of 1 hts (gd mw_1070) rfl rfl rfl (hts _ mw_8) (hts _ mw_1067) ds_X11_isBatch ⟨Nat.le_of_ble_eq_true rfl, Nat.le_of_ble_eq_true rfl⟩, (hts _ mw_1069), (hts _ mp_39)⟩) (pu_V hPc hKc hE (va_recv hKc hPc (ci := 11) (q0 := 0) rfl rfl)) rfl rfl hl.1 rfl (lv_room (Nat.le_of_ble_eq_true rfl)) dX11_cook_2 ⟨Nat.le_of_ble_eq_true rfl, Nat.le_of_ble_eq_true rfl⟩) (fun r_ hw_ => ?_)
  obtain rfl : r_ = 0 := hw_
  refine lv_if_eq (tgt := 36) hx hb dX11_cook_5 (by decide) (fun c_ => ?_) (fun c_ => absurd c_ (by decide))
  refine lv_iconst (v := (-1)) hx hb dX11_cook_36 (by decide) ?_
  exact W.iret (v := (-1)) hx hb hr (fun t ht hW => ⟨(-1), rfl, (by first | rfl | (simp []; done)), ht⟩) (fun q h => absurd h List.not_mem_nil) dX11_cook_37

set_option maxHeartbeats 4000000 in
set_option maxRecDepth 100000 in
theorem m_vouch (l : Launch) (dC : Nat → ClassId) (dI : Nat → Nat → Nat) (x : Nat) (a : Nat → Nat) (cy : Nat → ClassId) (v1 : Int32) : Met l yX11_vouch (Cond.code yX11_vouch cX11_vouch 2 (some .boolean) :: gT) ({ frames := 3, cells := 0, slots := 0, locals := 103 }) (va_Pc [.ref x, .int v1] (pu (dC, dI) [(x, .inr (11, (mO a)))] [])) (vp_Si (fun r => r = 0)) 0 0 (fun _ => False) := by
  refine Met.ofW (cc := cX11_vouch) (maxL := 2) (ret := (some .boolean)) (by decide) rfl ?_
  intro p e s m args below meth c s₁ B hml hv
  obtain ⟨rfl, hP, hK, hE⟩ := hv
  have hx := B.exec
  have hb := B.bytes
  have hr := B.returns
  have hts : ∀ w ∈ gT, w.before _ s = true := fun w h => atoms_spec (ws := Cond.code yX11_vouch cX11_vouch 2 (some .boolean) :: gT) B.pre w (List.mem_cons_of_mem _ h)
  have hown : s.vm.findClass RX11 = some m.cls := findClass_of_methodNamed B.named
  have hlocks := B.notSynchronized
  have hl := lv_entry ([.ref x, .int v1]) (n := 2) (Nat.le_of_ble_eq_true rfl)
  rw [lg_entry_eq]
  generalize (lg_sl ([.ref x, .int v1]) ++ List.replicate (2 - (lg_sl ([.ref x, .int v1])).length) Slot.unset).toArray = ls at hl ⊢
  have hl : lv_has ls 2 [(0, .ref x), (1, .int v1)] := hl
  refine lv_aload_n hx hb dX11_vouch_0 rfl (lv_at hl 0 rfl) ?_
  refine lv_iload_n hx hb dX11_vouch_1 rfl (lv_at hl 1 rfl) ?_
  have hPc := hP.sub (ws' := [(x, .inr (11, (mO a)))]) [0] rfl
  have hKc := hK.sub (tys' := []) [] rfl
  refine pc_i (va_runV (As := [.int v1]) (rest := []) ⟨hx, hb, hml, hown, hts⟩ (m_isBatch l dC dI x a cy v1) (⟨callB_of 1 hts (gd mw_1070) rfl rfl rfl (hts _ mw_8) (hts _ mw_1067) ds_X11_isBatch ⟨Nat.le_of_ble_eq_true rfl, Nat.le_of_ble_eq_true rfl⟩, (hts _ mw_1069), (hts _ mp_39)⟩) (pu_V hPc hKc hE (va_recv hKc hPc (ci := 11) (q0 := 0) rfl rfl)) rfl rfl hl.1 rfl (lv_room (Nat.le_of_ble_eq_true rfl)) dX11_vouch_2 ⟨Nat.le_of_ble_eq_true rfl, Nat.le_of_ble_eq_true rfl⟩) (fun r_ hw_ => ?_)
  obtain rfl : r_ = 0 := hw_
  refine lv_if_eq (tgt := 17) hx hb dX11_vouch_5 (by decide) (fun c_ => ?_) (fun c_ => absurd c_ (by decide))
  refine lv_iconst (v := 0) hx hb dX11_vouch_17 (by decide) ?_
  exact W.zret (v := 0) (ty := .boolean) hx hb hr rfl (fun t ht hW => ⟨0, rfl, (by first | rfl | (simp []; done)), ht⟩) (fun q h => absurd h List.not_mem_nil) dX11_vouch_18

set_option maxHeartbeats 4000000 in
set_option maxRecDepth 100000 in
theorem m_why (l : Launch) (dC : Nat → ClassId) (dI : Nat → Nat → Nat) (x : Nat) (a : Nat → Nat) (cy : Nat → ClassId) (v1 : Int32) : Met l yX11_why (Cond.code yX11_why cX11_why 4 (some .int) :: gT) ({ frames := 3, cells := 0, slots := 0, locals := 103 }) (va_Pc [.ref x, .int v1] (pu (dC, dI) [(x, .inr (11, (mO a)))] [])) (vp_Si (fun r => r = -1)) 0 0 (fun _ => False) := by
  refine Met.ofW (cc := cX11_why) (maxL := 4) (ret := (some .int)) (by decide) rfl ?_
  intro p e s m args below meth c s₁ B hml hv
  obtain ⟨rfl, hP, hK, hE⟩ := hv
  have hx := B.exec
  have hb := B.bytes
  have hr := B.returns
  have hts : ∀ w ∈ gT, w.before _ s = true := fun w h => atoms_spec (ws := Cond.code yX11_why cX11_why 4 (some .int) :: gT) B.pre w (List.mem_cons_of_mem _ h)
  have hown : s.vm.findClass RX11 = some m.cls := findClass_of_methodNamed B.named
  have hlocks := B.notSynchronized
  have hl := lv_entry ([.ref x, .int v1]) (n := 4) (Nat.le_of_ble_eq_true rfl)
  rw [lg_entry_eq]
  generalize (lg_sl ([.ref x, .int v1]) ++ List.replicate (4 - (lg_sl ([.ref x, .int v1])).length) Slot.unset).toArray = ls at hl ⊢
  have hl : lv_has ls 4 [(0, .ref x), (1, .int v1)] := hl
  refine lv_aload_n hx hb dX11_why_0 rfl (lv_at hl 0 rfl) ?_
  refine lv_iload_n hx hb dX11_why_1 rfl (lv_at hl 1 rfl) ?_
  have hPc := hP.sub (ws' := [(x, .inr (11, (mO a)))]) [0] rfl
  have hKc := hK.sub (tys' := []) [] rfl
  refine pc_i (va_runV (As := [.int v1]) (rest := []) ⟨hx, hb, hml, hown, hts⟩ (m_isBatch l dC dI x a cy v1) (⟨callB_of 1 hts (gd mw_1070) rfl rfl rfl (hts _ mw_8) (hts _ mw_1067) ds_X11_isBatch ⟨Nat.le_of_ble_eq_true rfl, Nat.le_of_ble_eq_true rfl⟩, (hts _ mw_1069), (hts _ mp_39)⟩) (pu_V hPc hKc hE (va_recv hKc hPc (ci := 11) (q0 := 0) rfl rfl)) rfl rfl hl.1 rfl (lv_room (Nat.le_of_ble_eq_true rfl)) dX11_why_2 ⟨Nat.le_of_ble_eq_true rfl, Nat.le_of_ble_eq_true rfl⟩) (fun r_ hw_ => ?_)
  obtain rfl : r_ = 0 := hw_
  refine lv_if_ne (tgt := 10) hx hb dX11_why_5 (by decide) (fun c_ => absurd c_ (by decide)) (fun c_ => ?_)
  refine lv_iconst (v := (-1)) hx hb dX11_why_8 (by decide) ?_
  exact W.iret (v := (-1)) hx hb hr (fun t ht hW => ⟨(-1), rfl, (by first | rfl | (simp []; done)), ht⟩) (fun q h => absurd h List.not_mem_nil) dX11_why_9

set_option maxHeartbeats 4000000 in
set_option maxRecDepth 100000 in
theorem m_batchOf (l : Launch) (dC : Nat → ClassId) (dI : Nat → Nat → Nat) (x : Nat) (a : Nat → Nat) (cy : Nat → ClassId) (v1 v2 : Int32) : Met l yX11_batchOf (Cond.code yX11_batchOf cX11_batchOf 3 (some .int) :: gT) ({ frames := 3, cells := 0, slots := 0, locals := 103 }) (va_Pc [.ref x, .int v1, .int v2] (pu (dC, dI) [(x, .inr (11, (mO a)))] [])) (vp_Si (fun r => r = -1)) 0 0 (fun _ => False) := by
  refine Met.ofW (cc := cX11_batchOf) (maxL := 3) (ret := (some .int)) (by decide) rfl ?_
  intro p e s m args below meth c s₁ B hml hv
  obtain ⟨rfl, hP, hK, hE⟩ := hv
  have hx := B.exec
  have hb := B.bytes
  have hr := B.returns
  have hts : ∀ w ∈ gT, w.before _ s = true := fun w h => atoms_spec (ws := Cond.code yX11_batchOf cX11_batchOf 3 (some .int) :: gT) B.pre w (List.mem_cons_of_mem _ h)
  have hown : s.vm.findClass RX11 = some m.cls := findClass_of_methodNamed B.named
  have hlocks := B.notSynchronized
  have hl := lv_entry ([.ref x, .int v1, .int v2]) (n := 3) (Nat.le_of_ble_eq_true rfl)
  rw [lg_entry_eq]
  generalize (lg_sl ([.ref x, .int v1, .int v2]) ++ List.replicate (3 - (lg_sl ([.ref x, .int v1, .int v2])).length) Slot.unset).toArray = ls at hl ⊢
  have hl : lv_has ls 3 [(0, .ref x), (1, .int v1), (2, .int v2)] := hl
  refine lv_aload_n hx hb dX11_batchOf_0 rfl (lv_at hl 0 rfl) ?_
  refine lv_iload_n hx hb dX11_batchOf_1 rfl (lv_at hl 1 rfl) ?_
  have hPc := hP.sub (ws' := [(x, .inr (11, (mO a)))]) [0] rfl
  have hKc := hK.sub (tys' := []) [] rfl
  refine pc_i (va_runV (As := [.int v1]) (rest := []) ⟨hx, hb, hml, hown, hts⟩ (m_isBatch l dC dI x a cy v1) (⟨callB_of 1 hts (gd mw_1070) rfl rfl rfl (hts _ mw_8) (hts _ mw_1067) ds_X11_isBatch ⟨Nat.le_of_ble_eq_true rfl, Nat.le_of_ble_eq_true rfl⟩, (hts _ mw_1069), (hts _ mp_39)⟩) (pu_V hPc hKc hE (va_recv hKc hPc (ci := 11) (q0 := 0) rfl rfl)) rfl rfl hl.1 rfl (lv_room (Nat.le_of_ble_eq_true rfl)) dX11_batchOf_2 ⟨Nat.le_of_ble_eq_true rfl, Nat.le_of_ble_eq_true rfl⟩) (fun r_ hw_ => ?_)
  obtain rfl : r_ = 0 := hw_
  refine lv_if_ne (tgt := 10) hx hb dX11_batchOf_5 (by decide) (fun c_ => absurd c_ (by decide)) (fun c_ => ?_)
  refine lv_iconst (v := (-1)) hx hb dX11_batchOf_8 (by decide) ?_
  exact W.iret (v := (-1)) hx hb hr (fun t ht hW => ⟨(-1), rfl, (by first | rfl | (simp []; done)), ht⟩) (fun q h => absurd h List.not_mem_nil) dX11_batchOf_9

set_option maxHeartbeats 4000000 in
set_option maxRecDepth 100000 in
theorem m_heat (l : Launch) (dC : Nat → ClassId) (dI : Nat → Nat → Nat) (x : Nat) (a : Nat → Nat) (cy : Nat → ClassId) (v1 v2 : Int32) : Met l yX11_heat (Cond.code yX11_heat cX11_heat 5 (some .int) :: gT) ({ frames := 3, cells := 0, slots := 0, locals := 103 }) (va_Pc [.ref x, .int v1, .int v2] (pu (dC, dI) [(x, .inr (11, (mO a)))] [])) (vp_Si (fun r => r = -1)) 0 0 (fun _ => False) := by
  refine Met.ofW (cc := cX11_heat) (maxL := 5) (ret := (some .int)) (by decide) rfl ?_
  intro p e s m args below meth c s₁ B hml hv
  obtain ⟨rfl, hP, hK, hE⟩ := hv
  have hx := B.exec
  have hb := B.bytes
  have hr := B.returns
  have hts : ∀ w ∈ gT, w.before _ s = true := fun w h => atoms_spec (ws := Cond.code yX11_heat cX11_heat 5 (some .int) :: gT) B.pre w (List.mem_cons_of_mem _ h)
  have hown : s.vm.findClass RX11 = some m.cls := findClass_of_methodNamed B.named
  have hlocks := B.notSynchronized
  have hl := lv_entry ([.ref x, .int v1, .int v2]) (n := 5) (Nat.le_of_ble_eq_true rfl)
  rw [lg_entry_eq]
  generalize (lg_sl ([.ref x, .int v1, .int v2]) ++ List.replicate (5 - (lg_sl ([.ref x, .int v1, .int v2])).length) Slot.unset).toArray = ls at hl ⊢
  have hl : lv_has ls 5 [(0, .ref x), (1, .int v1), (2, .int v2)] := hl
  refine lv_aload_n hx hb dX11_heat_0 rfl (lv_at hl 0 rfl) ?_
  refine lv_iload_n hx hb dX11_heat_1 rfl (lv_at hl 1 rfl) ?_
  have hPc := hP.sub (ws' := [(x, .inr (11, (mO a)))]) [0] rfl
  have hKc := hK.sub (tys' := []) [] rfl
  refine pc_i (va_runV (As := [.int v1]) (rest := []) ⟨hx, hb, hml, hown, hts⟩ (m_isBatch l dC dI x a cy v1) (⟨callB_of 1 hts (gd mw_1070) rfl rfl rfl (hts _ mw_8) (hts _ mw_1067) ds_X11_isBatch ⟨Nat.le_of_ble_eq_true rfl, Nat.le_of_ble_eq_true rfl⟩, (hts _ mw_1069), (hts _ mp_39)⟩) (pu_V hPc hKc hE (va_recv hKc hPc (ci := 11) (q0 := 0) rfl rfl)) rfl rfl hl.1 rfl (lv_room (Nat.le_of_ble_eq_true rfl)) dX11_heat_2 ⟨Nat.le_of_ble_eq_true rfl, Nat.le_of_ble_eq_true rfl⟩) (fun r_ hw_ => ?_)
  obtain rfl : r_ = 0 := hw_
  refine lv_if_eq (tgt := 27) hx hb dX11_heat_5 (by decide) (fun c_ => ?_) (fun c_ => absurd c_ (by decide))
  refine lv_iconst (v := (-1)) hx hb dX11_heat_27 (by decide) ?_
  exact W.iret (v := (-1)) hx hb hr (fun t ht hW => ⟨(-1), rfl, (by first | rfl | (simp []; done)), ht⟩) (fun q h => absurd h List.not_mem_nil) dX11_heat_28

set_option maxHeartbeats 4000000 in
set_option maxRecDepth 100000 in
theorem m_cut (l : Launch) (dC : Nat → ClassId) (dI : Nat → Nat → Nat) (x : Nat) (a : Nat → Nat) (cy : Nat → ClassId) (v1 v2 v3 : Int32) : Met l yX11_cut (Cond.code yX11_cut cX11_cut 5 (some .int) :: gT) ({ frames := 4, cells := 0, slots := 0, locals := 124 }) (va_Pc [.ref x, .int v1, .int v2, .int v3] (pu (dC, dI) [(x, .inr (11, (mO a)))] [])) (vp_Si (fun r => r = -1)) 0 0 (fun _ => False) := by
  refine Met.ofW (cc := cX11_cut) (maxL := 5) (ret := (some .int)) (by decide) rfl ?_
  intro p e s m args below meth c s₁ B hml hv
  obtain ⟨rfl, hP, hK, hE⟩ := hv
  have hx := B.exec
  have hb := B.bytes
  have hr := B.returns
  have hts : ∀ w ∈ gT, w.before _ s = true := fun w h => atoms_spec (ws := Cond.code yX11_cut cX11_cut 5 (some .int) :: gT) B.pre w (List.mem_cons_of_mem _ h)
  have hown : s.vm.findClass RX11 = some m.cls := findClass_of_methodNamed B.named
  have hlocks := B.notSynchronized
  have hl := lv_entry ([.ref x, .int v1, .int v2, .int v3]) (n := 5) (Nat.le_of_ble_eq_true rfl)
  rw [lg_entry_eq]
  generalize (lg_sl ([.ref x, .int v1, .int v2, .int v3]) ++ List.replicate (5 - (lg_sl ([.ref x, .int v1, .int v2, .int v3])).length) Slot.unset).toArray = ls at hl ⊢
  have hl : lv_has ls 5 [(0, .ref x), (1, .int v1), (2, .int v2), (3, .int v3)] := hl
  refine lv_iload_n hx hb dX11_cut_0 rfl (lv_at hl 2 rfl) ?_
  refine lv_bipush (v := 10) hx hb dX11_cut_1 (by decide) ?_
  refine lv_sipush (v := 2000) hx hb dX11_cut_3 (by decide) ?_
  have hPc := hP.sub (ws' := []) [] rfl
  have hKc := hK.sub (tys' := []) [] rfl
  refine pc_i (va_runS (As := [.int v2, .int 10, .int 2000]) (rest := []) ⟨hx, hb, hml, hown, hts⟩ (c_isIn l dC dI v2 10 2000) (⟨callB_of 3 hts (gd mw_1057) rfl rfl rfl (hts _ mw_8) (hts _ mw_1055) ds_X11_isIn ⟨Nat.le_of_ble_eq_true rfl, Nat.le_of_ble_eq_true rfl⟩, (hts _ mw_1056)⟩) (pu_S hPc hKc hE) rfl rfl hl.1 rfl (lv_room (Nat.le_of_ble_eq_true rfl)) dX11_cut_6 ⟨Nat.le_of_ble_eq_true rfl, Nat.le_of_ble_eq_true rfl⟩) (fun r_ hw_ => ?_)
  obtain rfl : r_ = (wi v2 10 2000) := hw_
  refine lv_if_eq (tgt := 50) hx hb dX11_cut_9 (by decide) (fun c_2 => ?_) (fun c_2 => ?_)
  · refine lv_iconst (v := (-1)) hx hb dX11_cut_50 (by decide) ?_
    exact W.iret (v := (-1)) hx hb hr (fun t ht hW => ⟨(-1), rfl, (by first | rfl | (simp [c_2]; done)), ht⟩) (fun q h => absurd h List.not_mem_nil) dX11_cut_51
  · refine lv_iload_n hx hb dX11_cut_12 rfl (lv_at hl 3 rfl) ?_
    refine lv_iconst (v := 1) hx hb dX11_cut_13 (by decide) ?_
    refine lv_bipush (v := 99) hx hb dX11_cut_14 (by decide) ?_
    have hPc := hP.sub (ws' := []) [] rfl
    have hKc := hK.sub (tys' := []) [] rfl
    refine pc_i (va_runS (As := [.int v3, .int 1, .int 99]) (rest := []) ⟨hx, hb, hml, hown, hts⟩ (c_isIn l dC dI v3 1 99) (⟨callB_of 3 hts (gd mw_1057) rfl rfl rfl (hts _ mw_8) (hts _ mw_1055) ds_X11_isIn ⟨Nat.le_of_ble_eq_true rfl, Nat.le_of_ble_eq_true rfl⟩, (hts _ mw_1056)⟩) (pu_S hPc hKc hE) rfl rfl hl.1 rfl (lv_room (Nat.le_of_ble_eq_true rfl)) dX11_cut_16 ⟨Nat.le_of_ble_eq_true rfl, Nat.le_of_ble_eq_true rfl⟩) (fun r_ hw_ => ?_)
    obtain rfl : r_ = (wi v3 1 99) := hw_
    refine lv_if_eq (tgt := 50) hx hb dX11_cut_19 (by decide) (fun c_4 => ?_) (fun c_4 => ?_)
    · refine lv_iconst (v := (-1)) hx hb dX11_cut_50 (by decide) ?_
      exact W.iret (v := (-1)) hx hb hr (fun t ht hW => ⟨(-1), rfl, (by first | rfl | (simp [c_2, c_4]; done)), ht⟩) (fun q h => absurd h List.not_mem_nil) dX11_cut_51
    · refine lv_aload_n hx hb dX11_cut_22 rfl (lv_at hl 0 rfl) ?_
      refine lv_iload_n hx hb dX11_cut_23 rfl (lv_at hl 1 rfl) ?_
      have hPc := hP.sub (ws' := [(x, .inr (11, (mO a)))]) [0] rfl
      have hKc := hK.sub (tys' := []) [] rfl
      refine pc_i (va_runV (As := [.int v1]) (rest := []) ⟨hx, hb, hml, hown, hts⟩ (m_isGood l dC dI x a cy v1) (⟨callB_of 1 hts (gd mw_1143) rfl rfl rfl (hts _ mw_8) (hts _ mw_1140) ds_X11_isGood ⟨Nat.le_of_ble_eq_true rfl, Nat.le_of_ble_eq_true rfl⟩, (hts _ mw_1142), (hts _ mp_43)⟩) (pu_V hPc hKc hE (va_recv hKc hPc (ci := 11) (q0 := 0) rfl rfl)) rfl rfl hl.1 rfl (lv_room (Nat.le_of_ble_eq_true rfl)) dX11_cut_24 ⟨Nat.le_of_ble_eq_true rfl, Nat.le_of_ble_eq_true rfl⟩) (fun r_ hw_ => ?_)
      obtain rfl : r_ = 0 := hw_
      refine lv_if_eq (tgt := 50) hx hb dX11_cut_27 (by decide) (fun c_ => ?_) (fun c_ => absurd c_ (by decide))
      refine lv_iconst (v := (-1)) hx hb dX11_cut_50 (by decide) ?_
      exact W.iret (v := (-1)) hx hb hr (fun t ht hW => ⟨(-1), rfl, (by first | rfl | (simp [c_2, c_4]; done)), ht⟩) (fun q h => absurd h List.not_mem_nil) dX11_cut_51

set_option maxHeartbeats 4000000 in
set_option maxRecDepth 100000 in
theorem m_dip (l : Launch) (dC : Nat → ClassId) (dI : Nat → Nat → Nat) (x : Nat) (a : Nat → Nat) (cy : Nat → ClassId) (v1 v2 v3 : Int32) : Met l yX11_dip (Cond.code yX11_dip cX11_dip 4 (some .int) :: gT) ({ frames := 3, cells := 0, slots := 0, locals := 103 }) (va_Pc [.ref x, .int v1, .int v2, .int v3] (pu (dC, dI) [(x, .inr (11, (mO a)))] [])) (vp_Si (fun r => r = -1)) 0 0 (fun _ => False) := by
  refine Met.ofW (cc := cX11_dip) (maxL := 4) (ret := (some .int)) (by decide) rfl ?_
  intro p e s m args below meth c s₁ B hml hv
  obtain ⟨rfl, hP, hK, hE⟩ := hv
  have hx := B.exec
  have hb := B.bytes
  have hr := B.returns
  have hts : ∀ w ∈ gT, w.before _ s = true := fun w h => atoms_spec (ws := Cond.code yX11_dip cX11_dip 4 (some .int) :: gT) B.pre w (List.mem_cons_of_mem _ h)
  have hown : s.vm.findClass RX11 = some m.cls := findClass_of_methodNamed B.named
  have hlocks := B.notSynchronized
  have hl := lv_entry ([.ref x, .int v1, .int v2, .int v3]) (n := 4) (Nat.le_of_ble_eq_true rfl)
  rw [lg_entry_eq]
  generalize (lg_sl ([.ref x, .int v1, .int v2, .int v3]) ++ List.replicate (4 - (lg_sl ([.ref x, .int v1, .int v2, .int v3])).length) Slot.unset).toArray = ls at hl ⊢
  have hl : lv_has ls 4 [(0, .ref x), (1, .int v1), (2, .int v2), (3, .int v3)] := hl
  refine lv_aload_n hx hb dX11_dip_0 rfl (lv_at hl 0 rfl) ?_
  refine lv_iload_n hx hb dX11_dip_1 rfl (lv_at hl 1 rfl) ?_
  have hPc := hP.sub (ws' := [(x, .inr (11, (mO a)))]) [0] rfl
  have hKc := hK.sub (tys' := []) [] rfl
  refine pc_i (va_runV (As := [.int v1]) (rest := []) ⟨hx, hb, hml, hown, hts⟩ (m_isOut l dC dI x a cy v1) (⟨callB_of 1 hts (gd mw_1152) rfl rfl rfl (hts _ mw_8) (hts _ mw_1149) ds_X11_isOut ⟨Nat.le_of_ble_eq_true rfl, Nat.le_of_ble_eq_true rfl⟩, (hts _ mw_1151), (hts _ mp_44)⟩) (pu_V hPc hKc hE (va_recv hKc hPc (ci := 11) (q0 := 0) rfl rfl)) rfl rfl hl.1 rfl (lv_room (Nat.le_of_ble_eq_true rfl)) dX11_dip_2 ⟨Nat.le_of_ble_eq_true rfl, Nat.le_of_ble_eq_true rfl⟩) (fun r_ hw_ => ?_)
  obtain rfl : r_ = 0 := hw_
  refine lv_if_eq (tgt := 56) hx hb dX11_dip_5 (by decide) (fun c_ => ?_) (fun c_ => absurd c_ (by decide))
  refine lv_iconst (v := (-1)) hx hb dX11_dip_56 (by decide) ?_
  exact W.iret (v := (-1)) hx hb hr (fun t ht hW => ⟨(-1), rfl, (by first | rfl | (simp []; done)), ht⟩) (fun q h => absurd h List.not_mem_nil) dX11_dip_57

set_option maxHeartbeats 4000000 in
set_option maxRecDepth 100000 in
theorem m_take (l : Launch) (dC : Nat → ClassId) (dI : Nat → Nat → Nat) (x : Nat) (a : Nat → Nat) (cy : Nat → ClassId) (v1 : Int32) : Met l yX11_take (Cond.code yX11_take cX11_take 2 (some .boolean) :: gT) ({ frames := 2, cells := 0, slots := 0, locals := 82 }) (va_Pc [.ref x, .int v1] (pu (dC, dI) [(x, .inr (11, (mO a)))] [])) (vp_Si (fun r => r = 0)) 0 0 (fun _ => False) := by
  refine Met.ofW (cc := cX11_take) (maxL := 2) (ret := (some .boolean)) (by decide) rfl ?_
  intro p e s m args below meth c s₁ B hml hv
  obtain ⟨rfl, hP, hK, hE⟩ := hv
  have hx := B.exec
  have hb := B.bytes
  have hr := B.returns
  have hts : ∀ w ∈ gT, w.before _ s = true := fun w h => atoms_spec (ws := Cond.code yX11_take cX11_take 2 (some .boolean) :: gT) B.pre w (List.mem_cons_of_mem _ h)
  have hown : s.vm.findClass RX11 = some m.cls := findClass_of_methodNamed B.named
  have hlocks := B.notSynchronized
  have hl := lv_entry ([.ref x, .int v1]) (n := 2) (Nat.le_of_ble_eq_true rfl)
  rw [lg_entry_eq]
  generalize (lg_sl ([.ref x, .int v1]) ++ List.replicate (2 - (lg_sl ([.ref x, .int v1])).length) Slot.unset).toArray = ls at hl ⊢
  have hl : lv_has ls 2 [(0, .ref x), (1, .int v1)] := hl
  refine lv_iload_n hx hb dX11_take_0 rfl (lv_at hl 1 rfl) ?_
  refine lv_iconst (v := 0) hx hb dX11_take_1 (by decide) ?_
  refine lv_aload_n hx hb dX11_take_2 rfl (lv_at hl 0 rfl) ?_
  refine va_get (D := (dC, dI)) (ci := 11) (v := .int 0) (C := RX11) (T := TX11) (N := 56) hx hb hts inX11 hown hK hP 0 rfl rfl 2 (by decide) (hts _ mw_882) (fun _ h9 => h9) rfl dX11_take_3 ?_
  refine lv_iconst (v := 1) hx hb dX11_take_6 (by decide) ?_
  refine lv_isub hx hb dX11_take_7 ?_
  refine lv_topi (fun y_ e_ => ?_)
  obtain rfl : y_ = (-1) := e_.trans (by decide)
  have hPc := hP.sub (ws' := []) [] rfl
  have hKc := hK.sub (tys' := []) [] rfl
  refine pc_i (va_runS (As := [.int v1, .int 0, .int (-1)]) (rest := []) ⟨hx, hb, hml, hown, hts⟩ (c_isIn l dC dI v1 0 (-1)) (⟨callB_of 3 hts (gd mw_1057) rfl rfl rfl (hts _ mw_8) (hts _ mw_1055) ds_X11_isIn ⟨Nat.le_of_ble_eq_true rfl, Nat.le_of_ble_eq_true rfl⟩, (hts _ mw_1056)⟩) (pu_S hPc hKc hE) rfl rfl hl.1 rfl (lv_room (Nat.le_of_ble_eq_true rfl)) dX11_take_8 ⟨Nat.le_of_ble_eq_true rfl, Nat.le_of_ble_eq_true rfl⟩) (fun r_ hw_ => ?_)
  obtain rfl : r_ = 0 := hw_.trans (wi_e _)
  refine lv_if_eq (tgt := 24) hx hb dX11_take_11 (by decide) (fun c_ => ?_) (fun c_ => absurd c_ (by decide))
  refine lv_iconst (v := 0) hx hb dX11_take_24 (by decide) ?_
  exact W.zret (v := 0) (ty := .boolean) hx hb hr rfl (fun t ht hW => ⟨0, rfl, (by first | rfl | (simp []; done)), ht⟩) (fun q h => absurd h List.not_mem_nil) dX11_take_25

set_option maxHeartbeats 4000000 in
set_option maxRecDepth 100000 in
theorem m_allow (l : Launch) (dC : Nat → ClassId) (dI : Nat → Nat → Nat) (x : Nat) (a : Nat → Nat) (cy : Nat → ClassId) (v1 : Int32) : Met l yX11_allow (Cond.code yX11_allow cX11_allow 2 (some .boolean) :: gT) ({ frames := 2, cells := 0, slots := 0, locals := 82 }) (va_Pc [.ref x, .int v1] (pu (dC, dI) [(x, .inr (11, (mO a)))] [])) (vp_Si (fun r => r = 0)) 0 0 (fun _ => False) := by
  refine Met.ofW (cc := cX11_allow) (maxL := 2) (ret := (some .boolean)) (by decide) rfl ?_
  intro p e s m args below meth c s₁ B hml hv
  obtain ⟨rfl, hP, hK, hE⟩ := hv
  have hx := B.exec
  have hb := B.bytes
  have hr := B.returns
  have hts : ∀ w ∈ gT, w.before _ s = true := fun w h => atoms_spec (ws := Cond.code yX11_allow cX11_allow 2 (some .boolean) :: gT) B.pre w (List.mem_cons_of_mem _ h)
  have hown : s.vm.findClass RX11 = some m.cls := findClass_of_methodNamed B.named
  have hlocks := B.notSynchronized
  have hl := lv_entry ([.ref x, .int v1]) (n := 2) (Nat.le_of_ble_eq_true rfl)
  rw [lg_entry_eq]
  generalize (lg_sl ([.ref x, .int v1]) ++ List.replicate (2 - (lg_sl ([.ref x, .int v1])).length) Slot.unset).toArray = ls at hl ⊢
  have hl : lv_has ls 2 [(0, .ref x), (1, .int v1)] := hl
  refine lv_iload_n hx hb dX11_allow_0 rfl (lv_at hl 1 rfl) ?_
  refine lv_iconst (v := 0) hx hb dX11_allow_1 (by decide) ?_
  refine lv_aload_n hx hb dX11_allow_2 rfl (lv_at hl 0 rfl) ?_
  refine va_get (D := (dC, dI)) (ci := 11) (v := .int 0) (C := RX11) (T := TX11) (N := 56) hx hb hts inX11 hown hK hP 0 rfl rfl 2 (by decide) (hts _ mw_882) (fun _ h9 => h9) rfl dX11_allow_3 ?_
  refine lv_iconst (v := 1) hx hb dX11_allow_6 (by decide) ?_
  refine lv_isub hx hb dX11_allow_7 ?_
  refine lv_topi (fun y_ e_ => ?_)
  obtain rfl : y_ = (-1) := e_.trans (by decide)
  have hPc := hP.sub (ws' := []) [] rfl
  have hKc := hK.sub (tys' := []) [] rfl
  refine pc_i (va_runS (As := [.int v1, .int 0, .int (-1)]) (rest := []) ⟨hx, hb, hml, hown, hts⟩ (c_isIn l dC dI v1 0 (-1)) (⟨callB_of 3 hts (gd mw_1057) rfl rfl rfl (hts _ mw_8) (hts _ mw_1055) ds_X11_isIn ⟨Nat.le_of_ble_eq_true rfl, Nat.le_of_ble_eq_true rfl⟩, (hts _ mw_1056)⟩) (pu_S hPc hKc hE) rfl rfl hl.1 rfl (lv_room (Nat.le_of_ble_eq_true rfl)) dX11_allow_8 ⟨Nat.le_of_ble_eq_true rfl, Nat.le_of_ble_eq_true rfl⟩) (fun r_ hw_ => ?_)
  obtain rfl : r_ = 0 := hw_.trans (wi_e _)
  refine lv_if_eq (tgt := 23) hx hb dX11_allow_11 (by decide) (fun c_ => ?_) (fun c_ => absurd c_ (by decide))
  refine lv_iconst (v := 0) hx hb dX11_allow_23 (by decide) ?_
  exact W.zret (v := 0) (ty := .boolean) hx hb hr rfl (fun t ht hW => ⟨0, rfl, (by first | rfl | (simp []; done)), ht⟩) (fun q h => absurd h List.not_mem_nil) dX11_allow_24

set_option maxHeartbeats 4000000 in
set_option maxRecDepth 100000 in
theorem m_pieceOf (l : Launch) (dC : Nat → ClassId) (dI : Nat → Nat → Nat) (x : Nat) (a : Nat → Nat) (cy : Nat → ClassId) (v1 v2 : Int32) : Met l yX11_pieceOf (Cond.code yX11_pieceOf cX11_pieceOf 3 (some .int) :: gT) ({ frames := 2, cells := 0, slots := 0, locals := 82 }) (va_Pc [.ref x, .int v1, .int v2] (pu (dC, dI) [(x, .inr (11, (mO a)))] [])) (vp_Si (fun r => r = -1)) 0 0 (fun _ => False) := by
  refine Met.ofW (cc := cX11_pieceOf) (maxL := 3) (ret := (some .int)) (by decide) rfl ?_
  intro p e s m args below meth c s₁ B hml hv
  obtain ⟨rfl, hP, hK, hE⟩ := hv
  have hx := B.exec
  have hb := B.bytes
  have hr := B.returns
  have hts : ∀ w ∈ gT, w.before _ s = true := fun w h => atoms_spec (ws := Cond.code yX11_pieceOf cX11_pieceOf 3 (some .int) :: gT) B.pre w (List.mem_cons_of_mem _ h)
  have hown : s.vm.findClass RX11 = some m.cls := findClass_of_methodNamed B.named
  have hlocks := B.notSynchronized
  have hl := lv_entry ([.ref x, .int v1, .int v2]) (n := 3) (Nat.le_of_ble_eq_true rfl)
  rw [lg_entry_eq]
  generalize (lg_sl ([.ref x, .int v1, .int v2]) ++ List.replicate (3 - (lg_sl ([.ref x, .int v1, .int v2])).length) Slot.unset).toArray = ls at hl ⊢
  have hl : lv_has ls 3 [(0, .ref x), (1, .int v1), (2, .int v2)] := hl
  refine lv_iload_n hx hb dX11_pieceOf_0 rfl (lv_at hl 1 rfl) ?_
  refine lv_iconst (v := 0) hx hb dX11_pieceOf_1 (by decide) ?_
  refine lv_aload_n hx hb dX11_pieceOf_2 rfl (lv_at hl 0 rfl) ?_
  refine va_get (D := (dC, dI)) (ci := 11) (v := .int 0) (C := RX11) (T := TX11) (N := 56) hx hb hts inX11 hown hK hP 0 rfl rfl 2 (by decide) (hts _ mw_882) (fun _ h9 => h9) rfl dX11_pieceOf_3 ?_
  refine lv_iconst (v := 1) hx hb dX11_pieceOf_6 (by decide) ?_
  refine lv_isub hx hb dX11_pieceOf_7 ?_
  refine lv_topi (fun y_ e_ => ?_)
  obtain rfl : y_ = (-1) := e_.trans (by decide)
  have hPc := hP.sub (ws' := []) [] rfl
  have hKc := hK.sub (tys' := []) [] rfl
  refine pc_i (va_runS (As := [.int v1, .int 0, .int (-1)]) (rest := []) ⟨hx, hb, hml, hown, hts⟩ (c_isIn l dC dI v1 0 (-1)) (⟨callB_of 3 hts (gd mw_1057) rfl rfl rfl (hts _ mw_8) (hts _ mw_1055) ds_X11_isIn ⟨Nat.le_of_ble_eq_true rfl, Nat.le_of_ble_eq_true rfl⟩, (hts _ mw_1056)⟩) (pu_S hPc hKc hE) rfl rfl hl.1 rfl (lv_room (Nat.le_of_ble_eq_true rfl)) dX11_pieceOf_8 ⟨Nat.le_of_ble_eq_true rfl, Nat.le_of_ble_eq_true rfl⟩) (fun r_ hw_ => ?_)
  obtain rfl : r_ = 0 := hw_.trans (wi_e _)
  refine lv_if_ne (tgt := 16) hx hb dX11_pieceOf_11 (by decide) (fun c_ => absurd c_ (by decide)) (fun c_ => ?_)
  refine lv_iconst (v := (-1)) hx hb dX11_pieceOf_14 (by decide) ?_
  exact W.iret (v := (-1)) hx hb hr (fun t ht hW => ⟨(-1), rfl, (by first | rfl | (simp []; done)), ht⟩) (fun q h => absurd h List.not_mem_nil) dX11_pieceOf_15

set_option maxHeartbeats 4000000 in
set_option maxRecDepth 100000 in
theorem m_boxOf (l : Launch) (dC : Nat → ClassId) (dI : Nat → Nat → Nat) (x : Nat) (a : Nat → Nat) (cy : Nat → ClassId) (v1 v2 : Int32) : Met l yX11_boxOf (Cond.code yX11_boxOf cX11_boxOf 8 (some .int) :: gT) ({ frames := 2, cells := 0, slots := 0, locals := 82 }) (va_Pc [.ref x, .int v1, .int v2] (pu (dC, dI) [(x, .inr (11, (mO a)))] [])) (vp_Si (fun r => r = -1)) 0 0 (fun _ => False) := by
  refine Met.ofW (cc := cX11_boxOf) (maxL := 8) (ret := (some .int)) (by decide) rfl ?_
  intro p e s m args below meth c s₁ B hml hv
  obtain ⟨rfl, hP, hK, hE⟩ := hv
  have hx := B.exec
  have hb := B.bytes
  have hr := B.returns
  have hts : ∀ w ∈ gT, w.before _ s = true := fun w h => atoms_spec (ws := Cond.code yX11_boxOf cX11_boxOf 8 (some .int) :: gT) B.pre w (List.mem_cons_of_mem _ h)
  have hown : s.vm.findClass RX11 = some m.cls := findClass_of_methodNamed B.named
  have hlocks := B.notSynchronized
  have hl := lv_entry ([.ref x, .int v1, .int v2]) (n := 8) (Nat.le_of_ble_eq_true rfl)
  rw [lg_entry_eq]
  generalize (lg_sl ([.ref x, .int v1, .int v2]) ++ List.replicate (8 - (lg_sl ([.ref x, .int v1, .int v2])).length) Slot.unset).toArray = ls at hl ⊢
  have hl : lv_has ls 8 [(0, .ref x), (1, .int v1), (2, .int v2)] := hl
  refine lv_iload_n hx hb dX11_boxOf_0 rfl (lv_at hl 1 rfl) ?_
  refine lv_iconst (v := 0) hx hb dX11_boxOf_1 (by decide) ?_
  refine lv_aload_n hx hb dX11_boxOf_2 rfl (lv_at hl 0 rfl) ?_
  refine va_get (D := (dC, dI)) (ci := 11) (v := .int 0) (C := RX11) (T := TX11) (N := 56) hx hb hts inX11 hown hK hP 0 rfl rfl 3 (by decide) (hts _ mw_883) (fun _ h9 => h9) rfl dX11_boxOf_3 ?_
  refine lv_iconst (v := 1) hx hb dX11_boxOf_6 (by decide) ?_
  refine lv_isub hx hb dX11_boxOf_7 ?_
  refine lv_topi (fun y_ e_ => ?_)
  obtain rfl : y_ = (-1) := e_.trans (by decide)
  have hPc := hP.sub (ws' := []) [] rfl
  have hKc := hK.sub (tys' := []) [] rfl
  refine pc_i (va_runS (As := [.int v1, .int 0, .int (-1)]) (rest := []) ⟨hx, hb, hml, hown, hts⟩ (c_isIn l dC dI v1 0 (-1)) (⟨callB_of 3 hts (gd mw_1057) rfl rfl rfl (hts _ mw_8) (hts _ mw_1055) ds_X11_isIn ⟨Nat.le_of_ble_eq_true rfl, Nat.le_of_ble_eq_true rfl⟩, (hts _ mw_1056)⟩) (pu_S hPc hKc hE) rfl rfl hl.1 rfl (lv_room (Nat.le_of_ble_eq_true rfl)) dX11_boxOf_8 ⟨Nat.le_of_ble_eq_true rfl, Nat.le_of_ble_eq_true rfl⟩) (fun r_ hw_ => ?_)
  obtain rfl : r_ = 0 := hw_.trans (wi_e _)
  refine lv_if_ne (tgt := 16) hx hb dX11_boxOf_11 (by decide) (fun c_ => absurd c_ (by decide)) (fun c_ => ?_)
  refine lv_iconst (v := (-1)) hx hb dX11_boxOf_14 (by decide) ?_
  exact W.iret (v := (-1)) hx hb hr (fun t ht hW => ⟨(-1), rfl, (by first | rfl | (simp []; done)), ht⟩) (fun q h => absurd h List.not_mem_nil) dX11_boxOf_15

set_option maxHeartbeats 4000000 in
set_option maxRecDepth 100000 in
theorem m_recall (l : Launch) (dC : Nat → ClassId) (dI : Nat → Nat → Nat) (x : Nat) (a : Nat → Nat) (cy : Nat → ClassId) (v1 v2 v3 : Int32) : Met l yX11_recall (Cond.code yX11_recall cX11_recall 7 (some .int) :: gT) ({ frames := 2, cells := 0, slots := 0, locals := 82 }) (va_Pc [.ref x, .int v1, .int v2, .int v3] (pu (dC, dI) [(x, .inr (11, (mO a)))] [])) (vp_Si (fun r => r = -1)) 0 0 (fun _ => False) := by
  refine Met.ofW (cc := cX11_recall) (maxL := 7) (ret := (some .int)) (by decide) rfl ?_
  intro p e s m args below meth c s₁ B hml hv
  obtain ⟨rfl, hP, hK, hE⟩ := hv
  have hx := B.exec
  have hb := B.bytes
  have hr := B.returns
  have hts : ∀ w ∈ gT, w.before _ s = true := fun w h => atoms_spec (ws := Cond.code yX11_recall cX11_recall 7 (some .int) :: gT) B.pre w (List.mem_cons_of_mem _ h)
  have hown : s.vm.findClass RX11 = some m.cls := findClass_of_methodNamed B.named
  have hlocks := B.notSynchronized
  have hl := lv_entry ([.ref x, .int v1, .int v2, .int v3]) (n := 7) (Nat.le_of_ble_eq_true rfl)
  rw [lg_entry_eq]
  generalize (lg_sl ([.ref x, .int v1, .int v2, .int v3]) ++ List.replicate (7 - (lg_sl ([.ref x, .int v1, .int v2, .int v3])).length) Slot.unset).toArray = ls at hl ⊢
  have hl : lv_has ls 7 [(0, .ref x), (1, .int v1), (2, .int v2), (3, .int v3)] := hl
  refine lv_iload_n hx hb dX11_recall_0 rfl (lv_at hl 1 rfl) ?_
  refine lv_iconst (v := 0) hx hb dX11_recall_1 (by decide) ?_
  refine lv_aload_n hx hb dX11_recall_2 rfl (lv_at hl 0 rfl) ?_
  refine va_get (D := (dC, dI)) (ci := 11) (v := .int 0) (C := RX11) (T := TX11) (N := 56) hx hb hts inX11 hown hK hP 0 rfl rfl 0 (by decide) (hts _ mw_880) (fun _ h9 => h9) rfl dX11_recall_3 ?_
  refine lv_iconst (v := 1) hx hb dX11_recall_6 (by decide) ?_
  refine lv_isub hx hb dX11_recall_7 ?_
  refine lv_topi (fun y_ e_ => ?_)
  obtain rfl : y_ = (-1) := e_.trans (by decide)
  have hPc := hP.sub (ws' := []) [] rfl
  have hKc := hK.sub (tys' := []) [] rfl
  refine pc_i (va_runS (As := [.int v1, .int 0, .int (-1)]) (rest := []) ⟨hx, hb, hml, hown, hts⟩ (c_isIn l dC dI v1 0 (-1)) (⟨callB_of 3 hts (gd mw_1057) rfl rfl rfl (hts _ mw_8) (hts _ mw_1055) ds_X11_isIn ⟨Nat.le_of_ble_eq_true rfl, Nat.le_of_ble_eq_true rfl⟩, (hts _ mw_1056)⟩) (pu_S hPc hKc hE) rfl rfl hl.1 rfl (lv_room (Nat.le_of_ble_eq_true rfl)) dX11_recall_8 ⟨Nat.le_of_ble_eq_true rfl, Nat.le_of_ble_eq_true rfl⟩) (fun r_ hw_ => ?_)
  obtain rfl : r_ = 0 := hw_.trans (wi_e _)
  refine lv_if_eq (tgt := 23) hx hb dX11_recall_11 (by decide) (fun c_ => ?_) (fun c_ => absurd c_ (by decide))
  refine lv_iconst (v := (-1)) hx hb dX11_recall_23 (by decide) ?_
  exact W.iret (v := (-1)) hx hb hr (fun t ht hW => ⟨(-1), rfl, (by first | rfl | (simp []; done)), ht⟩) (fun q h => absurd h List.not_mem_nil) dX11_recall_24

set_option maxHeartbeats 4000000 in
set_option maxRecDepth 100000 in
theorem m_left (l : Launch) (dC : Nat → ClassId) (dI : Nat → Nat → Nat) (x : Nat) (a : Nat → Nat) (cy : Nat → ClassId) (v1 : Int32) : Met l yX11_left (Cond.code yX11_left cX11_left 2 (some .int) :: gT) ({ frames := 2, cells := 0, slots := 0, locals := 82 }) (va_Pc [.ref x, .int v1] (pu (dC, dI) [(x, .inr (11, (mO a)))] [])) (vp_Si (fun r => r = -1)) 0 0 (fun _ => False) := by
  refine Met.ofW (cc := cX11_left) (maxL := 2) (ret := (some .int)) (by decide) rfl ?_
  intro p e s m args below meth c s₁ B hml hv
  obtain ⟨rfl, hP, hK, hE⟩ := hv
  have hx := B.exec
  have hb := B.bytes
  have hr := B.returns
  have hts : ∀ w ∈ gT, w.before _ s = true := fun w h => atoms_spec (ws := Cond.code yX11_left cX11_left 2 (some .int) :: gT) B.pre w (List.mem_cons_of_mem _ h)
  have hown : s.vm.findClass RX11 = some m.cls := findClass_of_methodNamed B.named
  have hlocks := B.notSynchronized
  have hl := lv_entry ([.ref x, .int v1]) (n := 2) (Nat.le_of_ble_eq_true rfl)
  rw [lg_entry_eq]
  generalize (lg_sl ([.ref x, .int v1]) ++ List.replicate (2 - (lg_sl ([.ref x, .int v1])).length) Slot.unset).toArray = ls at hl ⊢
  have hl : lv_has ls 2 [(0, .ref x), (1, .int v1)] := hl
  refine lv_iload_n hx hb dX11_left_0 rfl (lv_at hl 1 rfl) ?_
  refine lv_iconst (v := 0) hx hb dX11_left_1 (by decide) ?_
  refine lv_aload_n hx hb dX11_left_2 rfl (lv_at hl 0 rfl) ?_
  refine va_get (D := (dC, dI)) (ci := 11) (v := .int 0) (C := RX11) (T := TX11) (N := 56) hx hb hts inX11 hown hK hP 0 rfl rfl 0 (by decide) (hts _ mw_880) (fun _ h9 => h9) rfl dX11_left_3 ?_
  refine lv_iconst (v := 1) hx hb dX11_left_6 (by decide) ?_
  refine lv_isub hx hb dX11_left_7 ?_
  refine lv_topi (fun y_ e_ => ?_)
  obtain rfl : y_ = (-1) := e_.trans (by decide)
  have hPc := hP.sub (ws' := []) [] rfl
  have hKc := hK.sub (tys' := []) [] rfl
  refine pc_i (va_runS (As := [.int v1, .int 0, .int (-1)]) (rest := []) ⟨hx, hb, hml, hown, hts⟩ (c_isIn l dC dI v1 0 (-1)) (⟨callB_of 3 hts (gd mw_1057) rfl rfl rfl (hts _ mw_8) (hts _ mw_1055) ds_X11_isIn ⟨Nat.le_of_ble_eq_true rfl, Nat.le_of_ble_eq_true rfl⟩, (hts _ mw_1056)⟩) (pu_S hPc hKc hE) rfl rfl hl.1 rfl (lv_room (Nat.le_of_ble_eq_true rfl)) dX11_left_8 ⟨Nat.le_of_ble_eq_true rfl, Nat.le_of_ble_eq_true rfl⟩) (fun r_ hw_ => ?_)
  obtain rfl : r_ = 0 := hw_.trans (wi_e _)
  refine lv_if_eq (tgt := 23) hx hb dX11_left_11 (by decide) (fun c_ => ?_) (fun c_ => absurd c_ (by decide))
  refine lv_iconst (v := (-1)) hx hb dX11_left_23 (by decide) ?_
  exact W.iret (v := (-1)) hx hb hr (fun t ht hW => ⟨(-1), rfl, (by first | rfl | (simp []; done)), ht⟩) (fun q h => absurd h List.not_mem_nil) dX11_left_24

set_option maxHeartbeats 4000000 in
set_option maxRecDepth 100000 in
theorem m_place (l : Launch) (dC : Nat → ClassId) (dI : Nat → Nat → Nat) (x : Nat) (a : Nat → Nat) (cy : Nat → ClassId) (v1 v2 v3 : Int32) : Met l yX11_place (Cond.code yX11_place cX11_place 4 (some .boolean) :: gT) ({ frames := 3, cells := 0, slots := 0, locals := 103 }) (va_Pc [.ref x, .int v1, .int v2, .int v3] (pu (dC, dI) [(x, .inr (11, (mO a)))] [])) (vp_Si (fun r => r = 0)) 0 0 (fun _ => False) := by
  refine Met.ofW (cc := cX11_place) (maxL := 4) (ret := (some .boolean)) (by decide) rfl ?_
  intro p e s m args below meth c s₁ B hml hv
  obtain ⟨rfl, hP, hK, hE⟩ := hv
  have hx := B.exec
  have hb := B.bytes
  have hr := B.returns
  have hts : ∀ w ∈ gT, w.before _ s = true := fun w h => atoms_spec (ws := Cond.code yX11_place cX11_place 4 (some .boolean) :: gT) B.pre w (List.mem_cons_of_mem _ h)
  have hown : s.vm.findClass RX11 = some m.cls := findClass_of_methodNamed B.named
  have hlocks := B.notSynchronized
  have hl := lv_entry ([.ref x, .int v1, .int v2, .int v3]) (n := 4) (Nat.le_of_ble_eq_true rfl)
  rw [lg_entry_eq]
  generalize (lg_sl ([.ref x, .int v1, .int v2, .int v3]) ++ List.replicate (4 - (lg_sl ([.ref x, .int v1, .int v2, .int v3])).length) Slot.unset).toArray = ls at hl ⊢
  have hl : lv_has ls 4 [(0, .ref x), (1, .int v1), (2, .int v2), (3, .int v3)] := hl
  refine lv_aload_n hx hb dX11_place_0 rfl (lv_at hl 0 rfl) ?_
  refine lv_iload_n hx hb dX11_place_1 rfl (lv_at hl 1 rfl) ?_
  have hPc := hP.sub (ws' := [(x, .inr (11, (mO a)))]) [0] rfl
  have hKc := hK.sub (tys' := []) [] rfl
  refine pc_i (va_runV (As := [.int v1]) (rest := []) ⟨hx, hb, hml, hown, hts⟩ (m_isOut l dC dI x a cy v1) (⟨callB_of 1 hts (gd mw_1152) rfl rfl rfl (hts _ mw_8) (hts _ mw_1149) ds_X11_isOut ⟨Nat.le_of_ble_eq_true rfl, Nat.le_of_ble_eq_true rfl⟩, (hts _ mw_1151), (hts _ mp_44)⟩) (pu_V hPc hKc hE (va_recv hKc hPc (ci := 11) (q0 := 0) rfl rfl)) rfl rfl hl.1 rfl (lv_room (Nat.le_of_ble_eq_true rfl)) dX11_place_2 ⟨Nat.le_of_ble_eq_true rfl, Nat.le_of_ble_eq_true rfl⟩) (fun r_ hw_ => ?_)
  obtain rfl : r_ = 0 := hw_
  refine lv_if_eq (tgt := 41) hx hb dX11_place_5 (by decide) (fun c_ => ?_) (fun c_ => absurd c_ (by decide))
  refine lv_iconst (v := 0) hx hb dX11_place_41 (by decide) ?_
  exact W.zret (v := 0) (ty := .boolean) hx hb hr rfl (fun t ht hW => ⟨0, rfl, (by first | rfl | (simp []; done)), ht⟩) (fun q h => absurd h List.not_mem_nil) dX11_place_42
