set_option maxHeartbeats 4000000 in
set_option maxRecDepth 100000 in
theorem k_lot (l : Launch) (dC : Nat → ClassId) (dI : Nat → Nat → Nat) (sz : Nat) (x : Nat) (a : Nat → Nat) (cy : Nat → ClassId) (v1 v2 : Int32) : Met l yX10_lot (Cond.code yX10_lot cX10_lot 3 (some .int) :: gT) ({ frames := 2, cells := 1, slots := 2, locals := 82 }) (va_Pc [.ref x, .int v1, .int v2] (pr (dC, dI) sz [(x, .inr (10, (kO a))), ((a 0), .inl ((cy 0), 40, .inr (.inr (.inr (.inr (fun _ => none))))))] [((cy 0), .object "SugarKitchen$Lot")])) (va_Qi (fun (r : Int32) (_ : Unit) => r = sp_lot v1 v2) (fun _ _ => True) (va_A [(x, .inr (10, (kO a))), ((a 0), .inl ((cy 0), 40, .inr (.inr (.inr (.inr (fun _ => none))))))] sz)) 1 2 (va_A [(x, .inr (10, (kO a))), ((a 0), .inl ((cy 0), 40, .inr (.inr (.inr (.inr (fun _ => none))))))] sz) := by
  refine Met.ofW (cc := cX10_lot) (maxL := 3) (ret := (some .int)) (by decide) rfl ?_
  intro p e s m args below meth c s₁ B hml hv
  obtain ⟨rfl, hsz, hP, hK, hD0, hE⟩ := hv
  have hx := B.exec
  have hb := B.bytes
  have hr := B.returns
  have hts : ∀ w ∈ gT, w.before _ s = true := fun w h => atoms_spec (ws := Cond.code yX10_lot cX10_lot 3 (some .int) :: gT) B.pre w (List.mem_cons_of_mem _ h)
  have hown : s.vm.findClass RX10 = some m.cls := findClass_of_methodNamed B.named
  have hlocks := B.notSynchronized
  subst hsz
  have hD := hD0.self (sz := s.heap.size)
  generalize hAe : va_A [(x, .inr (10, (kO a))), ((a 0), .inl ((cy 0), 40, .inr (.inr (.inr (.inr (fun _ => none))))))] s.heap.size = A at hD ⊢
  have hA : ∀ q : Nat, s.heap.size ≤ q → A q := fun q h => by rw [← hAe]; exact Or.inr h
  have hS : va_S A s.heap s.heap [] := va_S.rf
  have hl := lv_entry ([.ref x, .int v1, .int v2]) (n := 3) (Nat.le_of_ble_eq_true rfl)
  rw [lg_entry_eq]
  generalize (lg_sl ([.ref x, .int v1, .int v2]) ++ List.replicate (3 - (lg_sl ([.ref x, .int v1, .int v2])).length) Slot.unset).toArray = ls at hl ⊢
  have hl : lv_has ls 3 [(0, .ref x), (1, .int v1), (2, .int v2)] := hl
  refine lv_iload_n hx hb dX10_lot_0 rfl (lv_at hl 1 rfl) ?_
  refine lv_iconst (v := 0) hx hb dX10_lot_1 (by decide) ?_
  refine lv_ldc (v := 1000000) hx hb hown (hts _ mw_251) dX10_lot_2 ?_
  have hPc := hP.sub (ws' := []) [] rfl
  have hKc := hK.sub (tys' := []) [] rfl
  refine pc_i (va_runS (As := [.int v1, .int 0, .int 1000000]) (rest := []) ⟨hx, hb, hml, hown, hts⟩ (c_within l dC dI v1 0 1000000) (⟨callB_of 3 hts (gd mw_254) rfl rfl rfl (hts _ mw_1) (hts _ mw_252) ds_X10_within ⟨Nat.le_of_ble_eq_true rfl, Nat.le_of_ble_eq_true rfl⟩, (hts _ mw_253)⟩) (pu_S hPc hKc hE) rfl rfl hl.1 rfl (lv_room (Nat.le_of_ble_eq_true rfl)) dX10_lot_4 ⟨Nat.le_of_ble_eq_true rfl, Nat.le_of_ble_eq_true rfl⟩) (fun r_ hw_ => ?_)
  obtain rfl : r_ = (wi v1 0 1000000) := hw_
  refine lv_if_eq (tgt := 30) hx hb dX10_lot_7 (by decide) (fun c_2 => ?_) (fun c_2 => ?_)
  · refine lv_iconst (v := (-1)) hx hb dX10_lot_30 (by decide) ?_
    refine W.widen (k := 1) (n := 2) (Nat.le_of_ble_eq_true rfl) (Nat.le_of_ble_eq_true rfl) ?_
    exact W.iret (v := (-1)) hx hb hr (fun t ht hW => ⟨⟨(-1), (), rfl, (by first | rfl | (simp [sp_lot, c_2]; done)), trivial⟩, hS.F ht⟩) hS.2.2 dX10_lot_31
  · refine lv_iload_n hx hb dX10_lot_10 rfl (lv_at hl 2 rfl) ?_
    refine lv_iconst (v := 0) hx hb dX10_lot_11 (by decide) ?_
    refine lv_sipush (v := 255) hx hb dX10_lot_12 (by decide) ?_
    have hPc := hP.sub (ws' := []) [] rfl
    have hKc := hK.sub (tys' := []) [] rfl
    refine pc_i (va_runS (As := [.int v2, .int 0, .int 255]) (rest := []) ⟨hx, hb, hml, hown, hts⟩ (c_within l dC dI v2 0 255) (⟨callB_of 3 hts (gd mw_254) rfl rfl rfl (hts _ mw_1) (hts _ mw_252) ds_X10_within ⟨Nat.le_of_ble_eq_true rfl, Nat.le_of_ble_eq_true rfl⟩, (hts _ mw_253)⟩) (pu_S hPc hKc hE) rfl rfl hl.1 rfl (lv_room (Nat.le_of_ble_eq_true rfl)) dX10_lot_15 ⟨Nat.le_of_ble_eq_true rfl, Nat.le_of_ble_eq_true rfl⟩) (fun r_ hw_ => ?_)
    obtain rfl : r_ = (wi v2 0 255) := hw_
    refine lv_if_eq (tgt := 30) hx hb dX10_lot_18 (by decide) (fun c_4 => ?_) (fun c_4 => ?_)
    · refine lv_iconst (v := (-1)) hx hb dX10_lot_30 (by decide) ?_
      refine W.widen (k := 1) (n := 2) (Nat.le_of_ble_eq_true rfl) (Nat.le_of_ble_eq_true rfl) ?_
      exact W.iret (v := (-1)) hx hb hr (fun t ht hW => ⟨⟨(-1), (), rfl, (by first | rfl | (simp [sp_lot, c_2, c_4]; done)), trivial⟩, hS.F ht⟩) hS.2.2 dX10_lot_31
    · refine lv_aload_n hx hb dX10_lot_21 rfl (lv_at hl 0 rfl) ?_
      refine va_get (D := (dC, dI)) (ci := 10) (v := .int 0) (C := RX10) (T := TX10) (N := 15) hx hb hts inX10 hown hK hP 0 rfl rfl 1 (by decide) (hts _ mw_202) (fun _ h9 => h9) rfl dX10_lot_22 ?_
      refine lv_bipush (v := 40) hx hb dX10_lot_25 (by decide) ?_
      refine lv_icmp_lt (tgt := 32) hx hb dX10_lot_27 (by decide) (fun c_ => ?_) (fun c_ => absurd c_ (by decide))
      refine lv_aload_n hx hb dX10_lot_32 rfl (lv_at hl 0 rfl) ?_
      refine va_get (D := (dC, dI)) (ci := 10) (v := .ref (a 0)) (C := RX10) (T := TX10) (N := 15) hx hb hts inX10 hown hK hP 0 rfl rfl 0 (by decide) (hts _ mw_201) (fun _ h9 => h9) rfl dX10_lot_33 ?_
      refine lv_aload_n hx hb dX10_lot_36 rfl (lv_at hl 0 rfl) ?_
      refine va_get (D := (dC, dI)) (ci := 10) (v := .int 0) (C := RX10) (T := TX10) (N := 15) hx hb hts inX10 hown hK hP 0 rfl rfl 1 (by decide) (hts _ mw_202) (fun _ h9 => h9) rfl dX10_lot_37 ?_
      refine va_new (ci := 4) (fs := [.int 0, .int 0]) (C := RX4) (T := TX4) (N := 2) hx hb hts inX4 tyX4 tyX4_ok hown (hts _ mw_26) (hts _ mw_255) (hts _ mw_9) hK hP hD hS hA rfl dfX4 (Nat.le_of_ble_eq_true rfl) (Nat.le_of_ble_eq_true rfl) dX10_lot_40 (fun q5 H hP hD hS => ?_)
      refine W.widen (k := 1) (n := 2) (Nat.le_of_ble_eq_true rfl) (Nat.le_of_ble_eq_true rfl) ?_
      have hP : va_P (dC, dI) vwCl [(x, .inr (10, (kO a))), ((a 0), .inl ((cy 0), 40, .inr (.inr (.inr (.inr (fun _ => none)))))), (q5, .inr (4, [.int 0, .int 0]))] H := hP
      have hD : va_D A [(x, .inr (10, (kO a))), ((a 0), .inl ((cy 0), 40, .inr (.inr (.inr (.inr (fun _ => none)))))), (q5, .inr (4, [.int 0, .int 0]))] := hD
      refine lv_dup hx hb dX10_lot_43 rfl ?_
      refine lv_iload_n hx hb dX10_lot_44 rfl (lv_at hl 1 rfl) ?_
      refine lv_iload_n hx hb dX10_lot_45 rfl (lv_at hl 2 rfl) ?_
      have hPc := hP.sub (ws' := [(q5, .inr (4, [.int 0, .int 0]))]) [2] rfl
      have hKc := hK.sub (tys' := []) [] rfl
      have hDc := hD.sub (ws' := [(q5, .inr (4, [.int 0, .int 0]))]) [2] (by decide) rfl
      have hFc := va_free (wc := [(q5, .inr (4, [.int 0, .int 0]))]) hD hS hA [2] rfl
      refine va_callv (va_runI (As := [.int v1, .int v2]) (rest := [.ref q5, .int 0, .ref (a 0)]) ⟨hx, hb, hml, hown, hts⟩ (c_X4_init l dC dI H.size q5 v1 v2) (⟨callB_of 2 hts (gd mw_258) rfl rfl rfl (hts _ mw_9) (hts _ mw_256) ds_X4_init ⟨Nat.le_of_ble_eq_true rfl, Nat.le_of_ble_eq_true rfl⟩, rfl, (hts _ mw_257)⟩) (pr_S hPc hKc hDc hE) rfl rfl hl.1 rfl (lv_room (Nat.le_of_ble_eq_true rfl)) dX10_lot_46 ⟨Nat.le_of_ble_eq_true rfl, Nat.le_of_ble_eq_true rfl⟩) hS (fun q _ h => hFc q h) hFc (fun u_ t_ H1 locs ht hvm hw_ hB hz1 hk1 hS => ?_)
      obtain ⟨hP1, hK1, hD1⟩ := hB
      rw [ht] at hP1
      have hK1 := va_K.moved hvm.symm hK1
      obtain ⟨hP, hD⟩ := va_join (wr := [(x, .inr (10, (kO a))), ((a 0), .inl ((cy 0), 40, .inr (.inr (.inr (.inr (fun _ => none))))))]) (w1 := [(q5, .inr (4, [.int v1, .int v2]))]) hP hD [2] [0, 1] rfl rfl (by decide) (by decide) hk1 hFc hP1 hD1
      generalize H1 = H at hP hS ⊢
      have hP : va_P (dC, dI) vwCl [(x, .inr (10, (kO a))), ((a 0), .inl ((cy 0), 40, .inr (.inr (.inr (.inr (fun _ => none)))))), (q5, .inr (4, [.int v1, .int v2]))] H := hP
      have hD : va_D A [(x, .inr (10, (kO a))), ((a 0), .inl ((cy 0), 40, .inr (.inr (.inr (.inr (fun _ => none)))))), (q5, .inr (4, [.int v1, .int v2]))] := hD
      refine va_astq hx hb hK hP hD hS 1 0 2 4 rfl rfl rfl rfl (by unfold vp_in; decide) dX10_lot_49 (fun H locs hP hD hS => ?_)
      have hP : va_P (dC, dI) vwCl [(x, .inr (10, (kO a))), ((a 0), .inl ((cy 0), 40, .inr (.inr (.inr (.inr (va_up (fun _ => none) (0 : Int32).toNatClampNeg (some q5))))))), (q5, .inr (4, [.int v1, .int v2]))] H := hP
      have hD : va_D A [(x, .inr (10, (kO a))), ((a 0), .inl ((cy 0), 40, .inr (.inr (.inr (.inr (va_up (fun _ => none) (0 : Int32).toNatClampNeg (some q5))))))), (q5, .inr (4, [.int v1, .int v2]))] := hD
      refine lv_aload_n hx hb dX10_lot_50 rfl (lv_at hl 0 rfl) ?_
      refine lv_dup hx hb dX10_lot_51 rfl ?_
      refine va_get (D := (dC, dI)) (ci := 10) (v := .int 0) (C := RX10) (T := TX10) (N := 15) hx hb hts inX10 hown hK hP 0 rfl rfl 1 (by decide) (hts _ mw_202) (fun _ h9 => h9) rfl dX10_lot_52 ?_
      refine lv_iconst (v := 1) hx hb dX10_lot_55 (by decide) ?_
      refine lv_iadd hx hb dX10_lot_56 ?_
      refine lv_topi (fun y_ e_ => ?_)
      obtain rfl : y_ = 1 := e_.trans (by decide)
      refine va_put (D := (dC, dI)) (ci := 10) (v := .int 1) (ty := .int) (C := RX10) (T := TX10) (N := 15) hx hb hts inX10 tyX10 tyX10_ok nmX10 hown hK hP hD hS 0 rfl rfl 1 (by decide) (hts _ mw_202) (fun _ h9 => h9) rfl (by decide +kernel) rfl rfl (Nat.le_of_ble_eq_true rfl) dX10_lot_57 (fun H locs hP hD hS => ?_)
      have hP : va_P (dC, dI) vwCl [(x, .inr (10, ((kO a).set 1 (.int 1)))), ((a 0), .inl ((cy 0), 40, .inr (.inr (.inr (.inr (va_up (fun _ => none) (0 : Int32).toNatClampNeg (some q5))))))), (q5, .inr (4, [.int v1, .int v2]))] H := hP
      have hD : va_D A [(x, .inr (10, ((kO a).set 1 (.int 1)))), ((a 0), .inl ((cy 0), 40, .inr (.inr (.inr (.inr (va_up (fun _ => none) (0 : Int32).toNatClampNeg (some q5))))))), (q5, .inr (4, [.int v1, .int v2]))] := hD
      refine lv_aload_n hx hb dX10_lot_60 rfl (lv_at hl 0 rfl) ?_
      refine va_get (D := (dC, dI)) (ci := 10) (v := .int 1) (C := RX10) (T := TX10) (N := 15) hx hb hts inX10 hown hK hP 0 rfl rfl 1 (by decide) (hts _ mw_202) (fun _ h9 => h9) rfl dX10_lot_61 ?_
      refine lv_iconst (v := 1) hx hb dX10_lot_64 (by decide) ?_
      refine lv_isub hx hb dX10_lot_65 ?_
      refine lv_topi (fun y_ e_ => ?_)
      obtain rfl : y_ = 0 := e_.trans (by decide)
      refine W.widen (k := 1) (n := 2) (Nat.le_of_ble_eq_true rfl) (Nat.le_of_ble_eq_true rfl) ?_
      exact W.iret (v := 0) hx hb hr (fun t ht hW => ⟨⟨0, (), rfl, (by first | rfl | (simp [sp_lot, c_2, c_4]; done)), trivial⟩, hS.F ht⟩) hS.2.2 dX10_lot_66

set_option maxHeartbeats 4000000 in
set_option maxRecDepth 100000 in
theorem k_batch (l : Launch) (dC : Nat → ClassId) (dI : Nat → Nat → Nat) (sz : Nat) (x : Nat) (a : Nat → Nat) (cy : Nat → ClassId) (v1 : Int32) : Met l yX10_batch (Cond.code yX10_batch cX10_batch 2 (some .int) :: gT) ({ frames := 3, cells := 4, slots := 140, locals := 102 }) (va_Pc [.ref x, .int v1] (pr (dC, dI) sz [(x, .inr (10, (kO a))), ((a 2), .inl ((cy 2), 40, .inr (.inr (.inr (.inr (fun _ => none))))))] [((cy 2), .object "SugarKitchen$Batch")])) (va_Qi (fun (r : Int32) (_ : Unit) => r = sp_batch v1) (fun _ _ => True) (va_A [(x, .inr (10, (kO a))), ((a 2), .inl ((cy 2), 40, .inr (.inr (.inr (.inr (fun _ => none))))))] sz)) 4 140 (va_A [(x, .inr (10, (kO a))), ((a 2), .inl ((cy 2), 40, .inr (.inr (.inr (.inr (fun _ => none))))))] sz) := by
  refine Met.ofW (cc := cX10_batch) (maxL := 2) (ret := (some .int)) (by decide) rfl ?_
  intro p e s m args below meth c s₁ B hml hv
  obtain ⟨rfl, hsz, hP, hK, hD0, hE⟩ := hv
  have hx := B.exec
  have hb := B.bytes
  have hr := B.returns
  have hts : ∀ w ∈ gT, w.before _ s = true := fun w h => atoms_spec (ws := Cond.code yX10_batch cX10_batch 2 (some .int) :: gT) B.pre w (List.mem_cons_of_mem _ h)
  have hown : s.vm.findClass RX10 = some m.cls := findClass_of_methodNamed B.named
  have hlocks := B.notSynchronized
  subst hsz
  have hD := hD0.self (sz := s.heap.size)
  generalize hAe : va_A [(x, .inr (10, (kO a))), ((a 2), .inl ((cy 2), 40, .inr (.inr (.inr (.inr (fun _ => none))))))] s.heap.size = A at hD ⊢
  have hA : ∀ q : Nat, s.heap.size ≤ q → A q := fun q h => by rw [← hAe]; exact Or.inr h
  have hS : va_S A s.heap s.heap [] := va_S.rf
  have hl := lv_entry ([.ref x, .int v1]) (n := 2) (Nat.le_of_ble_eq_true rfl)
  rw [lg_entry_eq]
  generalize (lg_sl ([.ref x, .int v1]) ++ List.replicate (2 - (lg_sl ([.ref x, .int v1])).length) Slot.unset).toArray = ls at hl ⊢
  have hl : lv_has ls 2 [(0, .ref x), (1, .int v1)] := hl
  refine lv_iload_n hx hb dX10_batch_0 rfl (lv_at hl 1 rfl) ?_
  have hPc := hP.sub (ws' := []) [] rfl
  have hKc := hK.sub (tys' := []) [] rfl
  refine pc_i (va_runS (As := [.int v1]) (rest := []) ⟨hx, hb, hml, hown, hts⟩ (c_isKind l dC dI v1) (⟨callB_of 1 hts (gd mw_275) rfl rfl rfl (hts _ mw_1) (hts _ mw_273) ds_X10_isKind ⟨Nat.le_of_ble_eq_true rfl, Nat.le_of_ble_eq_true rfl⟩, (hts _ mw_274)⟩) (pu_S hPc hKc hE) rfl rfl hl.1 rfl (lv_room (Nat.le_of_ble_eq_true rfl)) dX10_batch_1 ⟨Nat.le_of_ble_eq_true rfl, Nat.le_of_ble_eq_true rfl⟩) (fun r_ hw_ => ?_)
  obtain rfl : r_ = (wi v1 0 5) := hw_
  refine lv_if_eq (tgt := 16) hx hb dX10_batch_4 (by decide) (fun c_2 => ?_) (fun c_2 => ?_)
  · refine lv_iconst (v := (-1)) hx hb dX10_batch_16 (by decide) ?_
    refine W.widen (k := 4) (n := 140) (Nat.le_of_ble_eq_true rfl) (Nat.le_of_ble_eq_true rfl) ?_
    exact W.iret (v := (-1)) hx hb hr (fun t ht hW => ⟨⟨(-1), (), rfl, (by first | rfl | (simp [sp_batch, c_2]; done)), trivial⟩, hS.F ht⟩) hS.2.2 dX10_batch_17
  · refine lv_aload_n hx hb dX10_batch_7 rfl (lv_at hl 0 rfl) ?_
    refine va_get (D := (dC, dI)) (ci := 10) (v := .int 0) (C := RX10) (T := TX10) (N := 15) hx hb hts inX10 hown hK hP 0 rfl rfl 3 (by decide) (hts _ mw_204) (fun _ h9 => h9) rfl dX10_batch_8 ?_
    refine lv_bipush (v := 40) hx hb dX10_batch_11 (by decide) ?_
    refine lv_icmp_lt (tgt := 18) hx hb dX10_batch_13 (by decide) (fun c_ => ?_) (fun c_ => absurd c_ (by decide))
    refine lv_aload_n hx hb dX10_batch_18 rfl (lv_at hl 0 rfl) ?_
    refine va_get (D := (dC, dI)) (ci := 10) (v := .ref (a 2)) (C := RX10) (T := TX10) (N := 15) hx hb hts inX10 hown hK hP 0 rfl rfl 2 (by decide) (hts _ mw_203) (fun _ h9 => h9) rfl dX10_batch_19 ?_
    refine lv_aload_n hx hb dX10_batch_22 rfl (lv_at hl 0 rfl) ?_
    refine va_get (D := (dC, dI)) (ci := 10) (v := .int 0) (C := RX10) (T := TX10) (N := 15) hx hb hts inX10 hown hK hP 0 rfl rfl 3 (by decide) (hts _ mw_204) (fun _ h9 => h9) rfl dX10_batch_23 ?_
    refine va_new (ci := 0) (fs := [.int 0, .null, .int 0, .int 0, .long 0, .int 0, .int 0, .int 0, .int 0, .int 0, .int 0, .int 0, .int 0, .int 0, .int 0, .int 0]) (C := RX0) (T := TX0) (N := 16) hx hb hts inX0 tyX0 tyX0_ok hown (hts _ mw_28) (hts _ mw_276) (hts _ mw_10) hK hP hD hS hA rfl dfX0 (Nat.le_of_ble_eq_true rfl) (Nat.le_of_ble_eq_true rfl) dX10_batch_26 (fun q3 H hP hD hS => ?_)
    refine W.widen (k := 1) (n := 16) (Nat.le_of_ble_eq_true rfl) (Nat.le_of_ble_eq_true rfl) ?_
    have hP : va_P (dC, dI) vwCl [(x, .inr (10, (kO a))), ((a 2), .inl ((cy 2), 40, .inr (.inr (.inr (.inr (fun _ => none)))))), (q3, .inr (0, [.int 0, .null, .int 0, .int 0, .long 0, .int 0, .int 0, .int 0, .int 0, .int 0, .int 0, .int 0, .int 0, .int 0, .int 0, .int 0]))] H := hP
    have hD : va_D A [(x, .inr (10, (kO a))), ((a 2), .inl ((cy 2), 40, .inr (.inr (.inr (.inr (fun _ => none)))))), (q3, .inr (0, [.int 0, .null, .int 0, .int 0, .long 0, .int 0, .int 0, .int 0, .int 0, .int 0, .int 0, .int 0, .int 0, .int 0, .int 0, .int 0]))] := hD
    refine lv_dup hx hb dX10_batch_29 rfl ?_
    refine lv_iload_n hx hb dX10_batch_30 rfl (lv_at hl 1 rfl) ?_
    have hPc := hP.sub (ws' := [(q3, .inr (0, [.int 0, .null, .int 0, .int 0, .long 0, .int 0, .int 0, .int 0, .int 0, .int 0, .int 0, .int 0, .int 0, .int 0, .int 0, .int 0]))]) [2] rfl
    have hKc := hK.sub (tys' := []) [] rfl
    have hDc := hD.sub (ws' := [(q3, .inr (0, [.int 0, .null, .int 0, .int 0, .long 0, .int 0, .int 0, .int 0, .int 0, .int 0, .int 0, .int 0, .int 0, .int 0, .int 0, .int 0]))]) [2] (by decide) rfl
    have hFc := va_free (wc := [(q3, .inr (0, [.int 0, .null, .int 0, .int 0, .long 0, .int 0, .int 0, .int 0, .int 0, .int 0, .int 0, .int 0, .int 0, .int 0, .int 0, .int 0]))]) hD hS hA [2] rfl
    refine va_callv (va_runI (As := [.int v1]) (rest := [.ref q3, .int 0, .ref (a 2)]) ⟨hx, hb, hml, hown, hts⟩ (c_X0_init l dC dI H.size q3 v1) (⟨callB_of 1 hts (gd mw_279) rfl rfl rfl (hts _ mw_10) (hts _ mw_277) ds_X0_init ⟨Nat.le_of_ble_eq_true rfl, Nat.le_of_ble_eq_true rfl⟩, rfl, (hts _ mw_278)⟩) (pr_S hPc hKc hDc hE) rfl rfl hl.1 rfl (lv_room (Nat.le_of_ble_eq_true rfl)) dX10_batch_31 ⟨Nat.le_of_ble_eq_true rfl, Nat.le_of_ble_eq_true rfl⟩) hS (fun q _ h => hFc q h) hFc (fun u_ t_ H1 locs ht hvm hw_ hB hz1 hk1 hS => ?_)
    obtain ⟨q1_4, q1_2_4, q2_2_4, y1_2_4, y2_2_4, hP1, hK1, hD1⟩ := hB
    rw [ht] at hP1
    have hK1 := va_K.moved hvm.symm hK1
    obtain ⟨hP, hD⟩ := va_join (wr := [(x, .inr (10, (kO a))), ((a 2), .inl ((cy 2), 40, .inr (.inr (.inr (.inr (fun _ => none))))))]) (w1 := [(q3, .inr (0, [.int v1, .ref q1_4, .int 0, .int 0, .long 0, .int 0, .int 0, .int 0, .int 0, .int (-1000001), .int (-1), .int (-1), .int 0, .int 0, .int 0, .int 0])), (q1_4, .inr (7, [.ref q1_2_4, .ref q2_2_4, .int 0, .int 0])), (q1_2_4, .inl (y1_2_4, 60, .inl (fun _ => 0))), (q2_2_4, .inl (y2_2_4, 60, .inl (fun _ => 0)))]) hP hD [2] [0, 1] rfl rfl (by decide) (by decide) hk1 hFc hP1 hD1
    have hK := hK.app hK1
    generalize H1 = H at hP hS ⊢
    have hP : va_P (dC, dI) vwCl [(x, .inr (10, (kO a))), ((a 2), .inl ((cy 2), 40, .inr (.inr (.inr (.inr (fun _ => none)))))), (q3, .inr (0, [.int v1, .ref q1_4, .int 0, .int 0, .long 0, .int 0, .int 0, .int 0, .int 0, .int (-1000001), .int (-1), .int (-1), .int 0, .int 0, .int 0, .int 0])), (q1_4, .inr (7, [.ref q1_2_4, .ref q2_2_4, .int 0, .int 0])), (q1_2_4, .inl (y1_2_4, 60, .inl (fun _ => 0))), (q2_2_4, .inl (y2_2_4, 60, .inl (fun _ => 0)))] H := hP
    have hD : va_D A [(x, .inr (10, (kO a))), ((a 2), .inl ((cy 2), 40, .inr (.inr (.inr (.inr (fun _ => none)))))), (q3, .inr (0, [.int v1, .ref q1_4, .int 0, .int 0, .long 0, .int 0, .int 0, .int 0, .int 0, .int (-1000001), .int (-1), .int (-1), .int 0, .int 0, .int 0, .int 0])), (q1_4, .inr (7, [.ref q1_2_4, .ref q2_2_4, .int 0, .int 0])), (q1_2_4, .inl (y1_2_4, 60, .inl (fun _ => 0))), (q2_2_4, .inl (y2_2_4, 60, .inl (fun _ => 0)))] := hD
    have hK : va_K (dC, dI) vwCl [((cy 2), .object "SugarKitchen$Batch"), (y1_2_4, .int), (y2_2_4, .boolean)] s := hK
    refine W.widen (k := 4) (n := 140) (Nat.le_of_ble_eq_true rfl) (Nat.le_of_ble_eq_true rfl) ?_
    refine va_astq hx hb hK hP hD hS 1 0 2 0 rfl rfl rfl rfl (by unfold vp_in; decide) dX10_batch_34 (fun H locs hP hD hS => ?_)
    have hP : va_P (dC, dI) vwCl [(x, .inr (10, (kO a))), ((a 2), .inl ((cy 2), 40, .inr (.inr (.inr (.inr (va_up (fun _ => none) (0 : Int32).toNatClampNeg (some q3))))))), (q3, .inr (0, [.int v1, .ref q1_4, .int 0, .int 0, .long 0, .int 0, .int 0, .int 0, .int 0, .int (-1000001), .int (-1), .int (-1), .int 0, .int 0, .int 0, .int 0])), (q1_4, .inr (7, [.ref q1_2_4, .ref q2_2_4, .int 0, .int 0])), (q1_2_4, .inl (y1_2_4, 60, .inl (fun _ => 0))), (q2_2_4, .inl (y2_2_4, 60, .inl (fun _ => 0)))] H := hP
    have hD : va_D A [(x, .inr (10, (kO a))), ((a 2), .inl ((cy 2), 40, .inr (.inr (.inr (.inr (va_up (fun _ => none) (0 : Int32).toNatClampNeg (some q3))))))), (q3, .inr (0, [.int v1, .ref q1_4, .int 0, .int 0, .long 0, .int 0, .int 0, .int 0, .int 0, .int (-1000001), .int (-1), .int (-1), .int 0, .int 0, .int 0, .int 0])), (q1_4, .inr (7, [.ref q1_2_4, .ref q2_2_4, .int 0, .int 0])), (q1_2_4, .inl (y1_2_4, 60, .inl (fun _ => 0))), (q2_2_4, .inl (y2_2_4, 60, .inl (fun _ => 0)))] := hD
    refine lv_aload_n hx hb dX10_batch_35 rfl (lv_at hl 0 rfl) ?_
    refine lv_dup hx hb dX10_batch_36 rfl ?_
    refine va_get (D := (dC, dI)) (ci := 10) (v := .int 0) (C := RX10) (T := TX10) (N := 15) hx hb hts inX10 hown hK hP 0 rfl rfl 3 (by decide) (hts _ mw_204) (fun _ h9 => h9) rfl dX10_batch_37 ?_
    refine lv_iconst (v := 1) hx hb dX10_batch_40 (by decide) ?_
    refine lv_iadd hx hb dX10_batch_41 ?_
    refine lv_topi (fun y_ e_ => ?_)
    obtain rfl : y_ = 1 := e_.trans (by decide)
    refine va_put (D := (dC, dI)) (ci := 10) (v := .int 1) (ty := .int) (C := RX10) (T := TX10) (N := 15) hx hb hts inX10 tyX10 tyX10_ok nmX10 hown hK hP hD hS 0 rfl rfl 3 (by decide) (hts _ mw_204) (fun _ h9 => h9) rfl (by decide +kernel) rfl rfl (Nat.le_of_ble_eq_true rfl) dX10_batch_42 (fun H locs hP hD hS => ?_)
    have hP : va_P (dC, dI) vwCl [(x, .inr (10, ((kO a).set 3 (.int 1)))), ((a 2), .inl ((cy 2), 40, .inr (.inr (.inr (.inr (va_up (fun _ => none) (0 : Int32).toNatClampNeg (some q3))))))), (q3, .inr (0, [.int v1, .ref q1_4, .int 0, .int 0, .long 0, .int 0, .int 0, .int 0, .int 0, .int (-1000001), .int (-1), .int (-1), .int 0, .int 0, .int 0, .int 0])), (q1_4, .inr (7, [.ref q1_2_4, .ref q2_2_4, .int 0, .int 0])), (q1_2_4, .inl (y1_2_4, 60, .inl (fun _ => 0))), (q2_2_4, .inl (y2_2_4, 60, .inl (fun _ => 0)))] H := hP
    have hD : va_D A [(x, .inr (10, ((kO a).set 3 (.int 1)))), ((a 2), .inl ((cy 2), 40, .inr (.inr (.inr (.inr (va_up (fun _ => none) (0 : Int32).toNatClampNeg (some q3))))))), (q3, .inr (0, [.int v1, .ref q1_4, .int 0, .int 0, .long 0, .int 0, .int 0, .int 0, .int 0, .int (-1000001), .int (-1), .int (-1), .int 0, .int 0, .int 0, .int 0])), (q1_4, .inr (7, [.ref q1_2_4, .ref q2_2_4, .int 0, .int 0])), (q1_2_4, .inl (y1_2_4, 60, .inl (fun _ => 0))), (q2_2_4, .inl (y2_2_4, 60, .inl (fun _ => 0)))] := hD
    refine lv_aload_n hx hb dX10_batch_45 rfl (lv_at hl 0 rfl) ?_
    refine va_get (D := (dC, dI)) (ci := 10) (v := .int 1) (C := RX10) (T := TX10) (N := 15) hx hb hts inX10 hown hK hP 0 rfl rfl 3 (by decide) (hts _ mw_204) (fun _ h9 => h9) rfl dX10_batch_46 ?_
    refine lv_iconst (v := 1) hx hb dX10_batch_49 (by decide) ?_
    refine lv_isub hx hb dX10_batch_50 ?_
    refine lv_topi (fun y_ e_ => ?_)
    obtain rfl : y_ = 0 := e_.trans (by decide)
    refine W.widen (k := 4) (n := 140) (Nat.le_of_ble_eq_true rfl) (Nat.le_of_ble_eq_true rfl) ?_
    exact W.iret (v := 0) hx hb hr (fun t ht hW => ⟨⟨0, (), rfl, (by first | rfl | (simp [sp_batch, c_2]; done)), trivial⟩, hS.F ht⟩) hS.2.2 dX10_batch_51

set_option maxHeartbeats 4000000 in
set_option maxRecDepth 100000 in
theorem k_put (l : Launch) (dC : Nat → ClassId) (dI : Nat → Nat → Nat) (x : Nat) (a : Nat → Nat) (cy : Nat → ClassId) (v1 v2 v3 : Int32) : Met l yX10_put (Cond.code yX10_put cX10_put 6 (some .int) :: gT) ({ frames := 4, cells := 0, slots := 0, locals := 125 }) (va_Pc [.ref x, .int v1, .int v2, .int v3] (pu (dC, dI) [(x, .inr (10, (kO a)))] [])) (vp_Si (fun r => r = -1)) 0 0 (fun _ => False) := by
  refine Met.ofW (cc := cX10_put) (maxL := 6) (ret := (some .int)) (by decide) rfl ?_
  intro p e s m args below meth c s₁ B hml hv
  obtain ⟨rfl, hP, hK, hE⟩ := hv
  have hx := B.exec
  have hb := B.bytes
  have hr := B.returns
  have hts : ∀ w ∈ gT, w.before _ s = true := fun w h => atoms_spec (ws := Cond.code yX10_put cX10_put 6 (some .int) :: gT) B.pre w (List.mem_cons_of_mem _ h)
  have hown : s.vm.findClass RX10 = some m.cls := findClass_of_methodNamed B.named
  have hlocks := B.notSynchronized
  have hl := lv_entry ([.ref x, .int v1, .int v2, .int v3]) (n := 6) (Nat.le_of_ble_eq_true rfl)
  rw [lg_entry_eq]
  generalize (lg_sl ([.ref x, .int v1, .int v2, .int v3]) ++ List.replicate (6 - (lg_sl ([.ref x, .int v1, .int v2, .int v3])).length) Slot.unset).toArray = ls at hl ⊢
  have hl : lv_has ls 6 [(0, .ref x), (1, .int v1), (2, .int v2), (3, .int v3)] := hl
  refine lv_aload_n hx hb dX10_put_0 rfl (lv_at hl 0 rfl) ?_
  refine lv_iload_n hx hb dX10_put_1 rfl (lv_at hl 1 rfl) ?_
  have hPc := hP.sub (ws' := [(x, .inr (10, (kO a)))]) [0] rfl
  have hKc := hK.sub (tys' := []) [] rfl
  refine pc_q (va_runV (As := [.int v1]) (rest := []) ⟨hx, hb, hml, hown, hts⟩ (k_findRaw l dC dI x a cy v1) (⟨callB_of 1 hts (gd mw_374) rfl rfl rfl (hts _ mw_1) (hts _ mw_371) ds_X10_findRaw ⟨Nat.le_of_ble_eq_true rfl, Nat.le_of_ble_eq_true rfl⟩, (hts _ mw_373), (hts _ mp_0)⟩) (pu_V hPc hKc hE (va_recv hKc hPc (ci := 10) (q0 := 0) rfl rfl)) rfl rfl hl.1 rfl (lv_room (Nat.le_of_ble_eq_true rfl)) dX10_put_2 ⟨Nat.le_of_ble_eq_true rfl, Nat.le_of_ble_eq_true rfl⟩) (fun r_ hw_ => ?_)
  obtain rfl : r_ = none := hw_
  refine W.eq (g2 := F0 m 5 ls [.null]) rfl ?_
  refine lv_astoreN (lv' := [(4, .null), (0, .ref x), (1, .int v1), (2, .int v2), (3, .int v3)]) hx hb dX10_put_5 hl (by decide) rfl (fun ls hl => ?_)
  refine lv_aload_n hx hb dX10_put_7 rfl (lv_at hl 1 rfl) ?_
  refine lv_iload_n hx hb dX10_put_8 rfl (lv_at hl 3 rfl) ?_
  have hPc := hP.sub (ws' := [(x, .inr (10, (kO a)))]) [0] rfl
  have hKc := hK.sub (tys' := []) [] rfl
  refine pc_q (va_runV (As := [.int v2]) (rest := []) ⟨hx, hb, hml, hown, hts⟩ (k_findLot l dC dI x a cy v2) (⟨callB_of 1 hts (gd mw_382) rfl rfl rfl (hts _ mw_1) (hts _ mw_379) ds_X10_findLot ⟨Nat.le_of_ble_eq_true rfl, Nat.le_of_ble_eq_true rfl⟩, (hts _ mw_381), (hts _ mp_2)⟩) (pu_V hPc hKc hE (va_recv hKc hPc (ci := 10) (q0 := 0) rfl rfl)) rfl rfl hl.1 rfl (lv_room (Nat.le_of_ble_eq_true rfl)) dX10_put_9 ⟨Nat.le_of_ble_eq_true rfl, Nat.le_of_ble_eq_true rfl⟩) (fun r_ hw_ => ?_)
  obtain rfl : r_ = none := hw_
  refine W.eq (g2 := F0 m 12 ls [.null]) rfl ?_
  refine lv_astoreN (lv' := [(5, .null), (4, .null), (0, .ref x), (1, .int v1), (2, .int v2), (3, .int v3)]) hx hb dX10_put_12 hl (by decide) rfl (fun ls hl => ?_)
  refine lv_aloadN hx hb dX10_put_14 (lv_at hl 1 rfl) ?_
  refine lv_ifnullN (tgt := 37) hx hb dX10_put_16 (by decide) ?_
  refine lv_iconst (v := (-1)) hx hb dX10_put_37 (by decide) ?_
  exact W.iret (v := (-1)) hx hb hr (fun t ht hW => ⟨(-1), rfl, (by first | rfl | (simp []; done)), ht⟩) (fun q h => absurd h List.not_mem_nil) dX10_put_38

set_option maxHeartbeats 4000000 in
set_option maxRecDepth 100000 in
theorem k_row (l : Launch) (dC : Nat → ClassId) (dI : Nat → Nat → Nat) (x : Nat) (a : Nat → Nat) (cy : Nat → ClassId) (v1 v2 v3 : Int32) : Met l yX10_row (Cond.code yX10_row cX10_row 6 (some .boolean) :: gT) ({ frames := 4, cells := 0, slots := 0, locals := 125 }) (va_Pc [.ref x, .int v1, .int v2, .int v3] (pu (dC, dI) [(x, .inr (10, (kO a)))] [])) (vp_Si (fun r => r = 0)) 0 0 (fun _ => False) := by
  refine Met.ofW (cc := cX10_row) (maxL := 6) (ret := (some .boolean)) (by decide) rfl ?_
  intro p e s m args below meth c s₁ B hml hv
  obtain ⟨rfl, hP, hK, hE⟩ := hv
  have hx := B.exec
  have hb := B.bytes
  have hr := B.returns
  have hts : ∀ w ∈ gT, w.before _ s = true := fun w h => atoms_spec (ws := Cond.code yX10_row cX10_row 6 (some .boolean) :: gT) B.pre w (List.mem_cons_of_mem _ h)
  have hown : s.vm.findClass RX10 = some m.cls := findClass_of_methodNamed B.named
  have hlocks := B.notSynchronized
  have hl := lv_entry ([.ref x, .int v1, .int v2, .int v3]) (n := 6) (Nat.le_of_ble_eq_true rfl)
  rw [lg_entry_eq]
  generalize (lg_sl ([.ref x, .int v1, .int v2, .int v3]) ++ List.replicate (6 - (lg_sl ([.ref x, .int v1, .int v2, .int v3])).length) Slot.unset).toArray = ls at hl ⊢
  have hl : lv_has ls 6 [(0, .ref x), (1, .int v1), (2, .int v2), (3, .int v3)] := hl
  refine lv_aload_n hx hb dX10_row_0 rfl (lv_at hl 0 rfl) ?_
  refine lv_iload_n hx hb dX10_row_1 rfl (lv_at hl 1 rfl) ?_
  have hPc := hP.sub (ws' := [(x, .inr (10, (kO a)))]) [0] rfl
  have hKc := hK.sub (tys' := []) [] rfl
  refine pc_q (va_runV (As := [.int v1]) (rest := []) ⟨hx, hb, hml, hown, hts⟩ (k_findRaw l dC dI x a cy v1) (⟨callB_of 1 hts (gd mw_374) rfl rfl rfl (hts _ mw_1) (hts _ mw_371) ds_X10_findRaw ⟨Nat.le_of_ble_eq_true rfl, Nat.le_of_ble_eq_true rfl⟩, (hts _ mw_373), (hts _ mp_0)⟩) (pu_V hPc hKc hE (va_recv hKc hPc (ci := 10) (q0 := 0) rfl rfl)) rfl rfl hl.1 rfl (lv_room (Nat.le_of_ble_eq_true rfl)) dX10_row_2 ⟨Nat.le_of_ble_eq_true rfl, Nat.le_of_ble_eq_true rfl⟩) (fun r_ hw_ => ?_)
  obtain rfl : r_ = none := hw_
  refine W.eq (g2 := F0 m 5 ls [.null]) rfl ?_
  refine lv_astoreN (lv' := [(4, .null), (0, .ref x), (1, .int v1), (2, .int v2), (3, .int v3)]) hx hb dX10_row_5 hl (by decide) rfl (fun ls hl => ?_)
  refine lv_aloadN hx hb dX10_row_7 (lv_at hl 0 rfl) ?_
  refine lv_ifnullN (tgt := 22) hx hb dX10_row_9 (by decide) ?_
  refine lv_iconst (v := 0) hx hb dX10_row_22 (by decide) ?_
  exact W.zret (v := 0) (ty := .boolean) hx hb hr rfl (fun t ht hW => ⟨0, rfl, (by first | rfl | (simp []; done)), ht⟩) (fun q h => absurd h List.not_mem_nil) dX10_row_23

set_option maxHeartbeats 4000000 in
set_option maxRecDepth 100000 in
theorem k_tick (l : Launch) (dC : Nat → ClassId) (dI : Nat → Nat → Nat) (x : Nat) (a : Nat → Nat) (cy : Nat → ClassId) (v1 v2 v3 : Int32) : Met l yX10_tick (Cond.code yX10_tick cX10_tick 5 (some .boolean) :: gT) ({ frames := 4, cells := 0, slots := 0, locals := 125 }) (va_Pc [.ref x, .int v1, .int v2, .int v3] (pu (dC, dI) [(x, .inr (10, (kO a)))] [])) (vp_Si (fun r => r = 0)) 0 0 (fun _ => False) := by
  refine Met.ofW (cc := cX10_tick) (maxL := 5) (ret := (some .boolean)) (by decide) rfl ?_
  intro p e s m args below meth c s₁ B hml hv
  obtain ⟨rfl, hP, hK, hE⟩ := hv
  have hx := B.exec
  have hb := B.bytes
  have hr := B.returns
  have hts : ∀ w ∈ gT, w.before _ s = true := fun w h => atoms_spec (ws := Cond.code yX10_tick cX10_tick 5 (some .boolean) :: gT) B.pre w (List.mem_cons_of_mem _ h)
  have hown : s.vm.findClass RX10 = some m.cls := findClass_of_methodNamed B.named
  have hlocks := B.notSynchronized
  have hl := lv_entry ([.ref x, .int v1, .int v2, .int v3]) (n := 5) (Nat.le_of_ble_eq_true rfl)
  rw [lg_entry_eq]
  generalize (lg_sl ([.ref x, .int v1, .int v2, .int v3]) ++ List.replicate (5 - (lg_sl ([.ref x, .int v1, .int v2, .int v3])).length) Slot.unset).toArray = ls at hl ⊢
  have hl : lv_has ls 5 [(0, .ref x), (1, .int v1), (2, .int v2), (3, .int v3)] := hl
  refine lv_aload_n hx hb dX10_tick_0 rfl (lv_at hl 0 rfl) ?_
  refine lv_iload_n hx hb dX10_tick_1 rfl (lv_at hl 1 rfl) ?_
  have hPc := hP.sub (ws' := [(x, .inr (10, (kO a)))]) [0] rfl
  have hKc := hK.sub (tys' := []) [] rfl
  refine pc_q (va_runV (As := [.int v1]) (rest := []) ⟨hx, hb, hml, hown, hts⟩ (k_findRaw l dC dI x a cy v1) (⟨callB_of 1 hts (gd mw_374) rfl rfl rfl (hts _ mw_1) (hts _ mw_371) ds_X10_findRaw ⟨Nat.le_of_ble_eq_true rfl, Nat.le_of_ble_eq_true rfl⟩, (hts _ mw_373), (hts _ mp_0)⟩) (pu_V hPc hKc hE (va_recv hKc hPc (ci := 10) (q0 := 0) rfl rfl)) rfl rfl hl.1 rfl (lv_room (Nat.le_of_ble_eq_true rfl)) dX10_tick_2 ⟨Nat.le_of_ble_eq_true rfl, Nat.le_of_ble_eq_true rfl⟩) (fun r_ hw_ => ?_)
  obtain rfl : r_ = none := hw_
  refine W.eq (g2 := F0 m 5 ls [.null]) rfl ?_
  refine lv_astoreN (lv' := [(4, .null), (0, .ref x), (1, .int v1), (2, .int v2), (3, .int v3)]) hx hb dX10_tick_5 hl (by decide) rfl (fun ls hl => ?_)
  refine lv_aloadN hx hb dX10_tick_7 (lv_at hl 0 rfl) ?_
  refine lv_ifnullN (tgt := 24) hx hb dX10_tick_9 (by decide) ?_
  refine lv_iconst (v := 0) hx hb dX10_tick_24 (by decide) ?_
  exact W.zret (v := 0) (ty := .boolean) hx hb hr rfl (fun t ht hW => ⟨0, rfl, (by first | rfl | (simp []; done)), ht⟩) (fun q h => absurd h List.not_mem_nil) dX10_tick_25

set_option maxHeartbeats 4000000 in
set_option maxRecDepth 100000 in
theorem k_stir (l : Launch) (dC : Nat → ClassId) (dI : Nat → Nat → Nat) (x : Nat) (a : Nat → Nat) (cy : Nat → ClassId) (v1 v2 v3 : Int32) : Met l yX10_stir (Cond.code yX10_stir cX10_stir 5 (some .boolean) :: gT) ({ frames := 4, cells := 0, slots := 0, locals := 125 }) (va_Pc [.ref x, .int v1, .int v2, .int v3] (pu (dC, dI) [(x, .inr (10, (kO a)))] [])) (vp_Si (fun r => r = 0)) 0 0 (fun _ => False) := by
  refine Met.ofW (cc := cX10_stir) (maxL := 5) (ret := (some .boolean)) (by decide) rfl ?_
  intro p e s m args below meth c s₁ B hml hv
  obtain ⟨rfl, hP, hK, hE⟩ := hv
  have hx := B.exec
  have hb := B.bytes
  have hr := B.returns
  have hts : ∀ w ∈ gT, w.before _ s = true := fun w h => atoms_spec (ws := Cond.code yX10_stir cX10_stir 5 (some .boolean) :: gT) B.pre w (List.mem_cons_of_mem _ h)
  have hown : s.vm.findClass RX10 = some m.cls := findClass_of_methodNamed B.named
  have hlocks := B.notSynchronized
  have hl := lv_entry ([.ref x, .int v1, .int v2, .int v3]) (n := 5) (Nat.le_of_ble_eq_true rfl)
  rw [lg_entry_eq]
  generalize (lg_sl ([.ref x, .int v1, .int v2, .int v3]) ++ List.replicate (5 - (lg_sl ([.ref x, .int v1, .int v2, .int v3])).length) Slot.unset).toArray = ls at hl ⊢
  have hl : lv_has ls 5 [(0, .ref x), (1, .int v1), (2, .int v2), (3, .int v3)] := hl
  refine lv_aload_n hx hb dX10_stir_0 rfl (lv_at hl 0 rfl) ?_
  refine lv_iload_n hx hb dX10_stir_1 rfl (lv_at hl 1 rfl) ?_
  have hPc := hP.sub (ws' := [(x, .inr (10, (kO a)))]) [0] rfl
  have hKc := hK.sub (tys' := []) [] rfl
  refine pc_q (va_runV (As := [.int v1]) (rest := []) ⟨hx, hb, hml, hown, hts⟩ (k_findRaw l dC dI x a cy v1) (⟨callB_of 1 hts (gd mw_374) rfl rfl rfl (hts _ mw_1) (hts _ mw_371) ds_X10_findRaw ⟨Nat.le_of_ble_eq_true rfl, Nat.le_of_ble_eq_true rfl⟩, (hts _ mw_373), (hts _ mp_0)⟩) (pu_V hPc hKc hE (va_recv hKc hPc (ci := 10) (q0 := 0) rfl rfl)) rfl rfl hl.1 rfl (lv_room (Nat.le_of_ble_eq_true rfl)) dX10_stir_2 ⟨Nat.le_of_ble_eq_true rfl, Nat.le_of_ble_eq_true rfl⟩) (fun r_ hw_ => ?_)
  obtain rfl : r_ = none := hw_
  refine W.eq (g2 := F0 m 5 ls [.null]) rfl ?_
  refine lv_astoreN (lv' := [(4, .null), (0, .ref x), (1, .int v1), (2, .int v2), (3, .int v3)]) hx hb dX10_stir_5 hl (by decide) rfl (fun ls hl => ?_)
  refine lv_aloadN hx hb dX10_stir_7 (lv_at hl 0 rfl) ?_
  refine lv_ifnullN (tgt := 24) hx hb dX10_stir_9 (by decide) ?_
  refine lv_iconst (v := 0) hx hb dX10_stir_24 (by decide) ?_
  exact W.zret (v := 0) (ty := .boolean) hx hb hr rfl (fun t ht hW => ⟨0, rfl, (by first | rfl | (simp []; done)), ht⟩) (fun q h => absurd h List.not_mem_nil) dX10_stir_25

set_option maxHeartbeats 4000000 in
set_option maxRecDepth 100000 in
theorem k_cook (l : Launch) (dC : Nat → ClassId) (dI : Nat → Nat → Nat) (x : Nat) (a : Nat → Nat) (cy : Nat → ClassId) (v1 v2 : Int32) : Met l yX10_cook (Cond.code yX10_cook cX10_cook 4 (some .int) :: gT) ({ frames := 4, cells := 0, slots := 0, locals := 125 }) (va_Pc [.ref x, .int v1, .int v2] (pu (dC, dI) [(x, .inr (10, (kO a)))] [])) (vp_Si (fun r => r = -1)) 0 0 (fun _ => False) := by
  refine Met.ofW (cc := cX10_cook) (maxL := 4) (ret := (some .int)) (by decide) rfl ?_
  intro p e s m args below meth c s₁ B hml hv
  obtain ⟨rfl, hP, hK, hE⟩ := hv
  have hx := B.exec
  have hb := B.bytes
  have hr := B.returns
  have hts : ∀ w ∈ gT, w.before _ s = true := fun w h => atoms_spec (ws := Cond.code yX10_cook cX10_cook 4 (some .int) :: gT) B.pre w (List.mem_cons_of_mem _ h)
  have hown : s.vm.findClass RX10 = some m.cls := findClass_of_methodNamed B.named
  have hlocks := B.notSynchronized
  have hl := lv_entry ([.ref x, .int v1, .int v2]) (n := 4) (Nat.le_of_ble_eq_true rfl)
  rw [lg_entry_eq]
  generalize (lg_sl ([.ref x, .int v1, .int v2]) ++ List.replicate (4 - (lg_sl ([.ref x, .int v1, .int v2])).length) Slot.unset).toArray = ls at hl ⊢
  have hl : lv_has ls 4 [(0, .ref x), (1, .int v1), (2, .int v2)] := hl
  refine lv_aload_n hx hb dX10_cook_0 rfl (lv_at hl 0 rfl) ?_
  refine lv_iload_n hx hb dX10_cook_1 rfl (lv_at hl 1 rfl) ?_
  have hPc := hP.sub (ws' := [(x, .inr (10, (kO a)))]) [0] rfl
  have hKc := hK.sub (tys' := []) [] rfl
  refine pc_q (va_runV (As := [.int v1]) (rest := []) ⟨hx, hb, hml, hown, hts⟩ (k_findRaw l dC dI x a cy v1) (⟨callB_of 1 hts (gd mw_374) rfl rfl rfl (hts _ mw_1) (hts _ mw_371) ds_X10_findRaw ⟨Nat.le_of_ble_eq_true rfl, Nat.le_of_ble_eq_true rfl⟩, (hts _ mw_373), (hts _ mp_0)⟩) (pu_V hPc hKc hE (va_recv hKc hPc (ci := 10) (q0 := 0) rfl rfl)) rfl rfl hl.1 rfl (lv_room (Nat.le_of_ble_eq_true rfl)) dX10_cook_2 ⟨Nat.le_of_ble_eq_true rfl, Nat.le_of_ble_eq_true rfl⟩) (fun r_ hw_ => ?_)
  obtain rfl : r_ = none := hw_
  refine W.eq (g2 := F0 m 5 ls [.null]) rfl ?_
  refine lv_astore_nN (lv' := [(3, .null), (0, .ref x), (1, .int v1), (2, .int v2)]) hx hb dX10_cook_5 rfl hl (by decide) rfl (fun ls hl => ?_)
  refine lv_aload_nN hx hb dX10_cook_6 rfl (lv_at hl 0 rfl) ?_
  refine lv_ifnullN (tgt := 27) hx hb dX10_cook_7 (by decide) ?_
  refine lv_iconst (v := (-1)) hx hb dX10_cook_27 (by decide) ?_
  exact W.iret (v := (-1)) hx hb hr (fun t ht hW => ⟨(-1), rfl, (by first | rfl | (simp []; done)), ht⟩) (fun q h => absurd h List.not_mem_nil) dX10_cook_28

set_option maxHeartbeats 4000000 in
set_option maxRecDepth 100000 in
theorem k_vouch (l : Launch) (dC : Nat → ClassId) (dI : Nat → Nat → Nat) (x : Nat) (a : Nat → Nat) (cy : Nat → ClassId) (v1 : Int32) : Met l yX10_vouch (Cond.code yX10_vouch cX10_vouch 3 (some .boolean) :: gT) ({ frames := 3, cells := 0, slots := 0, locals := 103 }) (va_Pc [.ref x, .int v1] (pu (dC, dI) [(x, .inr (10, (kO a)))] [])) (vp_Si (fun r => r = 0)) 0 0 (fun _ => False) := by
  refine Met.ofW (cc := cX10_vouch) (maxL := 3) (ret := (some .boolean)) (by decide) rfl ?_
  intro p e s m args below meth c s₁ B hml hv
  obtain ⟨rfl, hP, hK, hE⟩ := hv
  have hx := B.exec
  have hb := B.bytes
  have hr := B.returns
  have hts : ∀ w ∈ gT, w.before _ s = true := fun w h => atoms_spec (ws := Cond.code yX10_vouch cX10_vouch 3 (some .boolean) :: gT) B.pre w (List.mem_cons_of_mem _ h)
  have hown : s.vm.findClass RX10 = some m.cls := findClass_of_methodNamed B.named
  have hlocks := B.notSynchronized
  have hl := lv_entry ([.ref x, .int v1]) (n := 3) (Nat.le_of_ble_eq_true rfl)
  rw [lg_entry_eq]
  generalize (lg_sl ([.ref x, .int v1]) ++ List.replicate (3 - (lg_sl ([.ref x, .int v1])).length) Slot.unset).toArray = ls at hl ⊢
  have hl : lv_has ls 3 [(0, .ref x), (1, .int v1)] := hl
  refine lv_aload_n hx hb dX10_vouch_0 rfl (lv_at hl 0 rfl) ?_
  refine lv_iload_n hx hb dX10_vouch_1 rfl (lv_at hl 1 rfl) ?_
  have hPc := hP.sub (ws' := [(x, .inr (10, (kO a)))]) [0] rfl
  have hKc := hK.sub (tys' := []) [] rfl
  refine pc_q (va_runV (As := [.int v1]) (rest := []) ⟨hx, hb, hml, hown, hts⟩ (k_findBatch l dC dI x a cy v1) (⟨callB_of 1 hts (gd mw_378) rfl rfl rfl (hts _ mw_1) (hts _ mw_375) ds_X10_findBatch ⟨Nat.le_of_ble_eq_true rfl, Nat.le_of_ble_eq_true rfl⟩, (hts _ mw_377), (hts _ mp_1)⟩) (pu_V hPc hKc hE (va_recv hKc hPc (ci := 10) (q0 := 0) rfl rfl)) rfl rfl hl.1 rfl (lv_room (Nat.le_of_ble_eq_true rfl)) dX10_vouch_2 ⟨Nat.le_of_ble_eq_true rfl, Nat.le_of_ble_eq_true rfl⟩) (fun r_ hw_ => ?_)
  obtain rfl : r_ = none := hw_
  refine W.eq (g2 := F0 m 5 ls [.null]) rfl ?_
  refine lv_astore_nN (lv' := [(2, .null), (0, .ref x), (1, .int v1)]) hx hb dX10_vouch_5 rfl hl (by decide) rfl (fun ls hl => ?_)
  refine lv_aload_nN hx hb dX10_vouch_6 rfl (lv_at hl 0 rfl) ?_
  refine lv_ifnullN (tgt := 17) hx hb dX10_vouch_7 (by decide) ?_
  refine lv_iconst (v := 0) hx hb dX10_vouch_17 (by decide) ?_
  exact W.zret (v := 0) (ty := .boolean) hx hb hr rfl (fun t ht hW => ⟨0, rfl, (by first | rfl | (simp []; done)), ht⟩) (fun q h => absurd h List.not_mem_nil) dX10_vouch_18

set_option maxHeartbeats 4000000 in
set_option maxRecDepth 100000 in
theorem k_why (l : Launch) (dC : Nat → ClassId) (dI : Nat → Nat → Nat) (x : Nat) (a : Nat → Nat) (cy : Nat → ClassId) (v1 : Int32) : Met l yX10_why (Cond.code yX10_why cX10_why 3 (some .int) :: gT) ({ frames := 3, cells := 0, slots := 0, locals := 103 }) (va_Pc [.ref x, .int v1] (pu (dC, dI) [(x, .inr (10, (kO a)))] [])) (vp_Si (fun r => r = -1)) 0 0 (fun _ => False) := by
  refine Met.ofW (cc := cX10_why) (maxL := 3) (ret := (some .int)) (by decide) rfl ?_
  intro p e s m args below meth c s₁ B hml hv
  obtain ⟨rfl, hP, hK, hE⟩ := hv
  have hx := B.exec
  have hb := B.bytes
  have hr := B.returns
  have hts : ∀ w ∈ gT, w.before _ s = true := fun w h => atoms_spec (ws := Cond.code yX10_why cX10_why 3 (some .int) :: gT) B.pre w (List.mem_cons_of_mem _ h)
  have hown : s.vm.findClass RX10 = some m.cls := findClass_of_methodNamed B.named
  have hlocks := B.notSynchronized
  have hl := lv_entry ([.ref x, .int v1]) (n := 3) (Nat.le_of_ble_eq_true rfl)
  rw [lg_entry_eq]
  generalize (lg_sl ([.ref x, .int v1]) ++ List.replicate (3 - (lg_sl ([.ref x, .int v1])).length) Slot.unset).toArray = ls at hl ⊢
  have hl : lv_has ls 3 [(0, .ref x), (1, .int v1)] := hl
  refine lv_aload_n hx hb dX10_why_0 rfl (lv_at hl 0 rfl) ?_
  refine lv_iload_n hx hb dX10_why_1 rfl (lv_at hl 1 rfl) ?_
  have hPc := hP.sub (ws' := [(x, .inr (10, (kO a)))]) [0] rfl
  have hKc := hK.sub (tys' := []) [] rfl
  refine pc_q (va_runV (As := [.int v1]) (rest := []) ⟨hx, hb, hml, hown, hts⟩ (k_findBatch l dC dI x a cy v1) (⟨callB_of 1 hts (gd mw_378) rfl rfl rfl (hts _ mw_1) (hts _ mw_375) ds_X10_findBatch ⟨Nat.le_of_ble_eq_true rfl, Nat.le_of_ble_eq_true rfl⟩, (hts _ mw_377), (hts _ mp_1)⟩) (pu_V hPc hKc hE (va_recv hKc hPc (ci := 10) (q0 := 0) rfl rfl)) rfl rfl hl.1 rfl (lv_room (Nat.le_of_ble_eq_true rfl)) dX10_why_2 ⟨Nat.le_of_ble_eq_true rfl, Nat.le_of_ble_eq_true rfl⟩) (fun r_ hw_ => ?_)
  obtain rfl : r_ = none := hw_
  refine W.eq (g2 := F0 m 5 ls [.null]) rfl ?_
  refine lv_astore_nN (lv' := [(2, .null), (0, .ref x), (1, .int v1)]) hx hb dX10_why_5 rfl hl (by decide) rfl (fun ls hl => ?_)
  refine lv_aload_nN hx hb dX10_why_6 rfl (lv_at hl 0 rfl) ?_
  refine lv_ifnonnullN hx hb dX10_why_7 ?_
  refine lv_iconst (v := (-1)) hx hb dX10_why_10 (by decide) ?_
  refine lv_goto (tgt := 22) hx hb dX10_why_11 (by decide) ?_
  exact W.iret (v := (-1)) hx hb hr (fun t ht hW => ⟨(-1), rfl, (by first | rfl | (simp []; done)), ht⟩) (fun q h => absurd h List.not_mem_nil) dX10_why_22

set_option maxHeartbeats 4000000 in
set_option maxRecDepth 100000 in
theorem k_batchOf (l : Launch) (dC : Nat → ClassId) (dI : Nat → Nat → Nat) (x : Nat) (a : Nat → Nat) (cy : Nat → ClassId) (v1 v2 : Int32) : Met l yX10_batchOf (Cond.code yX10_batchOf cX10_batchOf 4 (some .int) :: gT) ({ frames := 3, cells := 0, slots := 0, locals := 103 }) (va_Pc [.ref x, .int v1, .int v2] (pu (dC, dI) [(x, .inr (10, (kO a)))] [])) (vp_Si (fun r => r = -1)) 0 0 (fun _ => False) := by
  refine Met.ofW (cc := cX10_batchOf) (maxL := 4) (ret := (some .int)) (by decide) rfl ?_
  intro p e s m args below meth c s₁ B hml hv
  obtain ⟨rfl, hP, hK, hE⟩ := hv
  have hx := B.exec
  have hb := B.bytes
  have hr := B.returns
  have hts : ∀ w ∈ gT, w.before _ s = true := fun w h => atoms_spec (ws := Cond.code yX10_batchOf cX10_batchOf 4 (some .int) :: gT) B.pre w (List.mem_cons_of_mem _ h)
  have hown : s.vm.findClass RX10 = some m.cls := findClass_of_methodNamed B.named
  have hlocks := B.notSynchronized
  have hl := lv_entry ([.ref x, .int v1, .int v2]) (n := 4) (Nat.le_of_ble_eq_true rfl)
  rw [lg_entry_eq]
  generalize (lg_sl ([.ref x, .int v1, .int v2]) ++ List.replicate (4 - (lg_sl ([.ref x, .int v1, .int v2])).length) Slot.unset).toArray = ls at hl ⊢
  have hl : lv_has ls 4 [(0, .ref x), (1, .int v1), (2, .int v2)] := hl
  refine lv_aload_n hx hb dX10_batchOf_0 rfl (lv_at hl 0 rfl) ?_
  refine lv_iload_n hx hb dX10_batchOf_1 rfl (lv_at hl 1 rfl) ?_
  have hPc := hP.sub (ws' := [(x, .inr (10, (kO a)))]) [0] rfl
  have hKc := hK.sub (tys' := []) [] rfl
  refine pc_q (va_runV (As := [.int v1]) (rest := []) ⟨hx, hb, hml, hown, hts⟩ (k_findBatch l dC dI x a cy v1) (⟨callB_of 1 hts (gd mw_378) rfl rfl rfl (hts _ mw_1) (hts _ mw_375) ds_X10_findBatch ⟨Nat.le_of_ble_eq_true rfl, Nat.le_of_ble_eq_true rfl⟩, (hts _ mw_377), (hts _ mp_1)⟩) (pu_V hPc hKc hE (va_recv hKc hPc (ci := 10) (q0 := 0) rfl rfl)) rfl rfl hl.1 rfl (lv_room (Nat.le_of_ble_eq_true rfl)) dX10_batchOf_2 ⟨Nat.le_of_ble_eq_true rfl, Nat.le_of_ble_eq_true rfl⟩) (fun r_ hw_ => ?_)
  obtain rfl : r_ = none := hw_
  refine W.eq (g2 := F0 m 5 ls [.null]) rfl ?_
  refine lv_astore_nN (lv' := [(3, .null), (0, .ref x), (1, .int v1), (2, .int v2)]) hx hb dX10_batchOf_5 rfl hl (by decide) rfl (fun ls hl => ?_)
  refine lv_aload_nN hx hb dX10_batchOf_6 rfl (lv_at hl 0 rfl) ?_
  refine lv_ifnonnullN hx hb dX10_batchOf_7 ?_
  refine lv_iconst (v := (-1)) hx hb dX10_batchOf_10 (by decide) ?_
  refine lv_goto (tgt := 19) hx hb dX10_batchOf_11 (by decide) ?_
  exact W.iret (v := (-1)) hx hb hr (fun t ht hW => ⟨(-1), rfl, (by first | rfl | (simp []; done)), ht⟩) (fun q h => absurd h List.not_mem_nil) dX10_batchOf_19

set_option maxHeartbeats 4000000 in
set_option maxRecDepth 100000 in
theorem k_heat (l : Launch) (dC : Nat → ClassId) (dI : Nat → Nat → Nat) (x : Nat) (a : Nat → Nat) (cy : Nat → ClassId) (v1 v2 : Int32) : Met l yX10_heat (Cond.code yX10_heat cX10_heat 4 (some .int) :: gT) ({ frames := 3, cells := 0, slots := 0, locals := 103 }) (va_Pc [.ref x, .int v1, .int v2] (pu (dC, dI) [(x, .inr (10, (kO a)))] [])) (vp_Si (fun r => r = -1)) 0 0 (fun _ => False) := by
  refine Met.ofW (cc := cX10_heat) (maxL := 4) (ret := (some .int)) (by decide) rfl ?_
  intro p e s m args below meth c s₁ B hml hv
  obtain ⟨rfl, hP, hK, hE⟩ := hv
  have hx := B.exec
  have hb := B.bytes
  have hr := B.returns
  have hts : ∀ w ∈ gT, w.before _ s = true := fun w h => atoms_spec (ws := Cond.code yX10_heat cX10_heat 4 (some .int) :: gT) B.pre w (List.mem_cons_of_mem _ h)
  have hown : s.vm.findClass RX10 = some m.cls := findClass_of_methodNamed B.named
  have hlocks := B.notSynchronized
  have hl := lv_entry ([.ref x, .int v1, .int v2]) (n := 4) (Nat.le_of_ble_eq_true rfl)
  rw [lg_entry_eq]
  generalize (lg_sl ([.ref x, .int v1, .int v2]) ++ List.replicate (4 - (lg_sl ([.ref x, .int v1, .int v2])).length) Slot.unset).toArray = ls at hl ⊢
  have hl : lv_has ls 4 [(0, .ref x), (1, .int v1), (2, .int v2)] := hl
  refine lv_aload_n hx hb dX10_heat_0 rfl (lv_at hl 0 rfl) ?_
  refine lv_iload_n hx hb dX10_heat_1 rfl (lv_at hl 1 rfl) ?_
  have hPc := hP.sub (ws' := [(x, .inr (10, (kO a)))]) [0] rfl
  have hKc := hK.sub (tys' := []) [] rfl
  refine pc_q (va_runV (As := [.int v1]) (rest := []) ⟨hx, hb, hml, hown, hts⟩ (k_findBatch l dC dI x a cy v1) (⟨callB_of 1 hts (gd mw_378) rfl rfl rfl (hts _ mw_1) (hts _ mw_375) ds_X10_findBatch ⟨Nat.le_of_ble_eq_true rfl, Nat.le_of_ble_eq_true rfl⟩, (hts _ mw_377), (hts _ mp_1)⟩) (pu_V hPc hKc hE (va_recv hKc hPc (ci := 10) (q0 := 0) rfl rfl)) rfl rfl hl.1 rfl (lv_room (Nat.le_of_ble_eq_true rfl)) dX10_heat_2 ⟨Nat.le_of_ble_eq_true rfl, Nat.le_of_ble_eq_true rfl⟩) (fun r_ hw_ => ?_)
  obtain rfl : r_ = none := hw_
  refine W.eq (g2 := F0 m 5 ls [.null]) rfl ?_
  refine lv_astore_nN (lv' := [(3, .null), (0, .ref x), (1, .int v1), (2, .int v2)]) hx hb dX10_heat_5 rfl hl (by decide) rfl (fun ls hl => ?_)
  refine lv_aload_nN hx hb dX10_heat_6 rfl (lv_at hl 0 rfl) ?_
  refine lv_ifnullN (tgt := 25) hx hb dX10_heat_7 (by decide) ?_
  refine lv_iconst (v := (-1)) hx hb dX10_heat_25 (by decide) ?_
  exact W.iret (v := (-1)) hx hb hr (fun t ht hW => ⟨(-1), rfl, (by first | rfl | (simp []; done)), ht⟩) (fun q h => absurd h List.not_mem_nil) dX10_heat_26

set_option maxHeartbeats 4000000 in
set_option maxRecDepth 100000 in
theorem k_cut (l : Launch) (dC : Nat → ClassId) (dI : Nat → Nat → Nat) (x : Nat) (a : Nat → Nat) (cy : Nat → ClassId) (v1 v2 v3 : Int32) : Met l yX10_cut (Cond.code yX10_cut cX10_cut 6 (some .int) :: gT) ({ frames := 4, cells := 0, slots := 0, locals := 125 }) (va_Pc [.ref x, .int v1, .int v2, .int v3] (pu (dC, dI) [(x, .inr (10, (kO a)))] [])) (vp_Si (fun r => r = -1)) 0 0 (fun _ => False) := by
  refine Met.ofW (cc := cX10_cut) (maxL := 6) (ret := (some .int)) (by decide) rfl ?_
  intro p e s m args below meth c s₁ B hml hv
  obtain ⟨rfl, hP, hK, hE⟩ := hv
  have hx := B.exec
  have hb := B.bytes
  have hr := B.returns
  have hts : ∀ w ∈ gT, w.before _ s = true := fun w h => atoms_spec (ws := Cond.code yX10_cut cX10_cut 6 (some .int) :: gT) B.pre w (List.mem_cons_of_mem _ h)
  have hown : s.vm.findClass RX10 = some m.cls := findClass_of_methodNamed B.named
  have hlocks := B.notSynchronized
  have hl := lv_entry ([.ref x, .int v1, .int v2, .int v3]) (n := 6) (Nat.le_of_ble_eq_true rfl)
  rw [lg_entry_eq]
  generalize (lg_sl ([.ref x, .int v1, .int v2, .int v3]) ++ List.replicate (6 - (lg_sl ([.ref x, .int v1, .int v2, .int v3])).length) Slot.unset).toArray = ls at hl ⊢
  have hl : lv_has ls 6 [(0, .ref x), (1, .int v1), (2, .int v2), (3, .int v3)] := hl
  refine lv_aload_n hx hb dX10_cut_0 rfl (lv_at hl 0 rfl) ?_
  refine lv_iload_n hx hb dX10_cut_1 rfl (lv_at hl 1 rfl) ?_
  have hPc := hP.sub (ws' := [(x, .inr (10, (kO a)))]) [0] rfl
  have hKc := hK.sub (tys' := []) [] rfl
  refine pc_q (va_runV (As := [.int v1]) (rest := []) ⟨hx, hb, hml, hown, hts⟩ (k_findGood l dC dI x a cy v1) (⟨callB_of 1 hts (gd mw_543) rfl rfl rfl (hts _ mw_1) (hts _ mw_540) ds_X10_findGood ⟨Nat.le_of_ble_eq_true rfl, Nat.le_of_ble_eq_true rfl⟩, (hts _ mw_542), (hts _ mp_8)⟩) (pu_V hPc hKc hE (va_recv hKc hPc (ci := 10) (q0 := 0) rfl rfl)) rfl rfl hl.1 rfl (lv_room (Nat.le_of_ble_eq_true rfl)) dX10_cut_2 ⟨Nat.le_of_ble_eq_true rfl, Nat.le_of_ble_eq_true rfl⟩) (fun r_ hw_ => ?_)
  obtain rfl : r_ = none := hw_
  refine W.eq (g2 := F0 m 5 ls [.null]) rfl ?_
  refine lv_astoreN (lv' := [(4, .null), (0, .ref x), (1, .int v1), (2, .int v2), (3, .int v3)]) hx hb dX10_cut_5 hl (by decide) rfl (fun ls hl => ?_)
  refine lv_aloadN hx hb dX10_cut_7 (lv_at hl 0 rfl) ?_
  refine lv_ifnullN (tgt := 45) hx hb dX10_cut_9 (by decide) ?_
  refine lv_iconst (v := (-1)) hx hb dX10_cut_45 (by decide) ?_
  exact W.iret (v := (-1)) hx hb hr (fun t ht hW => ⟨(-1), rfl, (by first | rfl | (simp []; done)), ht⟩) (fun q h => absurd h List.not_mem_nil) dX10_cut_46

set_option maxHeartbeats 4000000 in
set_option maxRecDepth 100000 in
theorem k_dip (l : Launch) (dC : Nat → ClassId) (dI : Nat → Nat → Nat) (x : Nat) (a : Nat → Nat) (cy : Nat → ClassId) (v1 v2 v3 : Int32) : Met l yX10_dip (Cond.code yX10_dip cX10_dip 6 (some .int) :: gT) ({ frames := 4, cells := 0, slots := 0, locals := 125 }) (va_Pc [.ref x, .int v1, .int v2, .int v3] (pu (dC, dI) [(x, .inr (10, (kO a)))] [])) (vp_Si (fun r => r = -1)) 0 0 (fun _ => False) := by
  refine Met.ofW (cc := cX10_dip) (maxL := 6) (ret := (some .int)) (by decide) rfl ?_
  intro p e s m args below meth c s₁ B hml hv
  obtain ⟨rfl, hP, hK, hE⟩ := hv
  have hx := B.exec
  have hb := B.bytes
  have hr := B.returns
  have hts : ∀ w ∈ gT, w.before _ s = true := fun w h => atoms_spec (ws := Cond.code yX10_dip cX10_dip 6 (some .int) :: gT) B.pre w (List.mem_cons_of_mem _ h)
  have hown : s.vm.findClass RX10 = some m.cls := findClass_of_methodNamed B.named
  have hlocks := B.notSynchronized
  have hl := lv_entry ([.ref x, .int v1, .int v2, .int v3]) (n := 6) (Nat.le_of_ble_eq_true rfl)
  rw [lg_entry_eq]
  generalize (lg_sl ([.ref x, .int v1, .int v2, .int v3]) ++ List.replicate (6 - (lg_sl ([.ref x, .int v1, .int v2, .int v3])).length) Slot.unset).toArray = ls at hl ⊢
  have hl : lv_has ls 6 [(0, .ref x), (1, .int v1), (2, .int v2), (3, .int v3)] := hl
  refine lv_aload_n hx hb dX10_dip_0 rfl (lv_at hl 0 rfl) ?_
  refine lv_iload_n hx hb dX10_dip_1 rfl (lv_at hl 1 rfl) ?_
  have hPc := hP.sub (ws' := [(x, .inr (10, (kO a)))]) [0] rfl
  have hKc := hK.sub (tys' := []) [] rfl
  refine pc_q (va_runV (As := [.int v1]) (rest := []) ⟨hx, hb, hml, hown, hts⟩ (k_findUnboxed l dC dI x a cy v1) (⟨callB_of 1 hts (gd mw_592) rfl rfl rfl (hts _ mw_1) (hts _ mw_589) ds_X10_findUnboxed ⟨Nat.le_of_ble_eq_true rfl, Nat.le_of_ble_eq_true rfl⟩, (hts _ mw_591), (hts _ mp_9)⟩) (pu_V hPc hKc hE (va_recv hKc hPc (ci := 10) (q0 := 0) rfl rfl)) rfl rfl hl.1 rfl (lv_room (Nat.le_of_ble_eq_true rfl)) dX10_dip_2 ⟨Nat.le_of_ble_eq_true rfl, Nat.le_of_ble_eq_true rfl⟩) (fun r_ hw_ => ?_)
  obtain rfl : r_ = none := hw_
  refine W.eq (g2 := F0 m 5 ls [.null]) rfl ?_
  refine lv_astoreN (lv' := [(4, .null), (0, .ref x), (1, .int v1), (2, .int v2), (3, .int v3)]) hx hb dX10_dip_5 hl (by decide) rfl (fun ls hl => ?_)
  refine lv_aload_n hx hb dX10_dip_7 rfl (lv_at hl 1 rfl) ?_
  refine lv_iload_n hx hb dX10_dip_8 rfl (lv_at hl 3 rfl) ?_
  have hPc := hP.sub (ws' := [(x, .inr (10, (kO a)))]) [0] rfl
  have hKc := hK.sub (tys' := []) [] rfl
  refine pc_q (va_runV (As := [.int v2]) (rest := []) ⟨hx, hb, hml, hown, hts⟩ (k_findGood l dC dI x a cy v2) (⟨callB_of 1 hts (gd mw_543) rfl rfl rfl (hts _ mw_1) (hts _ mw_540) ds_X10_findGood ⟨Nat.le_of_ble_eq_true rfl, Nat.le_of_ble_eq_true rfl⟩, (hts _ mw_542), (hts _ mp_8)⟩) (pu_V hPc hKc hE (va_recv hKc hPc (ci := 10) (q0 := 0) rfl rfl)) rfl rfl hl.1 rfl (lv_room (Nat.le_of_ble_eq_true rfl)) dX10_dip_9 ⟨Nat.le_of_ble_eq_true rfl, Nat.le_of_ble_eq_true rfl⟩) (fun r_ hw_ => ?_)
  obtain rfl : r_ = none := hw_
  refine W.eq (g2 := F0 m 12 ls [.null]) rfl ?_
  refine lv_astoreN (lv' := [(5, .null), (4, .null), (0, .ref x), (1, .int v1), (2, .int v2), (3, .int v3)]) hx hb dX10_dip_12 hl (by decide) rfl (fun ls hl => ?_)
  refine lv_aloadN hx hb dX10_dip_14 (lv_at hl 1 rfl) ?_
  refine lv_ifnullN (tgt := 42) hx hb dX10_dip_16 (by decide) ?_
  refine lv_iconst (v := (-1)) hx hb dX10_dip_42 (by decide) ?_
  exact W.iret (v := (-1)) hx hb hr (fun t ht hW => ⟨(-1), rfl, (by first | rfl | (simp []; done)), ht⟩) (fun q h => absurd h List.not_mem_nil) dX10_dip_43

set_option maxHeartbeats 4000000 in
set_option maxRecDepth 100000 in
theorem k_take (l : Launch) (dC : Nat → ClassId) (dI : Nat → Nat → Nat) (x : Nat) (a : Nat → Nat) (cy : Nat → ClassId) (v1 : Int32) : Met l yX10_take (Cond.code yX10_take cX10_take 3 (some .boolean) :: gT) ({ frames := 3, cells := 0, slots := 0, locals := 103 }) (va_Pc [.ref x, .int v1] (pu (dC, dI) [(x, .inr (10, (kO a)))] [])) (vp_Si (fun r => r = 0)) 0 0 (fun _ => False) := by
  refine Met.ofW (cc := cX10_take) (maxL := 3) (ret := (some .boolean)) (by decide) rfl ?_
  intro p e s m args below meth c s₁ B hml hv
  obtain ⟨rfl, hP, hK, hE⟩ := hv
  have hx := B.exec
  have hb := B.bytes
  have hr := B.returns
  have hts : ∀ w ∈ gT, w.before _ s = true := fun w h => atoms_spec (ws := Cond.code yX10_take cX10_take 3 (some .boolean) :: gT) B.pre w (List.mem_cons_of_mem _ h)
  have hown : s.vm.findClass RX10 = some m.cls := findClass_of_methodNamed B.named
  have hlocks := B.notSynchronized
  have hl := lv_entry ([.ref x, .int v1]) (n := 3) (Nat.le_of_ble_eq_true rfl)
  rw [lg_entry_eq]
  generalize (lg_sl ([.ref x, .int v1]) ++ List.replicate (3 - (lg_sl ([.ref x, .int v1])).length) Slot.unset).toArray = ls at hl ⊢
  have hl : lv_has ls 3 [(0, .ref x), (1, .int v1)] := hl
  refine lv_aload_n hx hb dX10_take_0 rfl (lv_at hl 0 rfl) ?_
  refine lv_iload_n hx hb dX10_take_1 rfl (lv_at hl 1 rfl) ?_
  have hPc := hP.sub (ws' := [(x, .inr (10, (kO a)))]) [0] rfl
  have hKc := hK.sub (tys' := []) [] rfl
  refine pc_q (va_runV (As := [.int v1]) (rest := []) ⟨hx, hb, hml, hown, hts⟩ (k_findPiece l dC dI x a cy v1) (⟨callB_of 1 hts (gd mw_596) rfl rfl rfl (hts _ mw_1) (hts _ mw_593) ds_X10_findPiece ⟨Nat.le_of_ble_eq_true rfl, Nat.le_of_ble_eq_true rfl⟩, (hts _ mw_595), (hts _ mp_10)⟩) (pu_V hPc hKc hE (va_recv hKc hPc (ci := 10) (q0 := 0) rfl rfl)) rfl rfl hl.1 rfl (lv_room (Nat.le_of_ble_eq_true rfl)) dX10_take_2 ⟨Nat.le_of_ble_eq_true rfl, Nat.le_of_ble_eq_true rfl⟩) (fun r_ hw_ => ?_)
  obtain rfl : r_ = none := hw_
  refine W.eq (g2 := F0 m 5 ls [.null]) rfl ?_
  refine lv_astore_nN (lv' := [(2, .null), (0, .ref x), (1, .int v1)]) hx hb dX10_take_5 rfl hl (by decide) rfl (fun ls hl => ?_)
  refine lv_aload_nN hx hb dX10_take_6 rfl (lv_at hl 0 rfl) ?_
  refine lv_ifnullN (tgt := 18) hx hb dX10_take_7 (by decide) ?_
  refine lv_iconst (v := 0) hx hb dX10_take_18 (by decide) ?_
  exact W.zret (v := 0) (ty := .boolean) hx hb hr rfl (fun t ht hW => ⟨0, rfl, (by first | rfl | (simp []; done)), ht⟩) (fun q h => absurd h List.not_mem_nil) dX10_take_19

set_option maxHeartbeats 4000000 in
set_option maxRecDepth 100000 in
theorem k_allow (l : Launch) (dC : Nat → ClassId) (dI : Nat → Nat → Nat) (x : Nat) (a : Nat → Nat) (cy : Nat → ClassId) (v1 : Int32) : Met l yX10_allow (Cond.code yX10_allow cX10_allow 3 (some .boolean) :: gT) ({ frames := 3, cells := 0, slots := 0, locals := 103 }) (va_Pc [.ref x, .int v1] (pu (dC, dI) [(x, .inr (10, (kO a)))] [])) (vp_Si (fun r => r = 0)) 0 0 (fun _ => False) := by
  refine Met.ofW (cc := cX10_allow) (maxL := 3) (ret := (some .boolean)) (by decide) rfl ?_
  intro p e s m args below meth c s₁ B hml hv
  obtain ⟨rfl, hP, hK, hE⟩ := hv
  have hx := B.exec
  have hb := B.bytes
  have hr := B.returns
  have hts : ∀ w ∈ gT, w.before _ s = true := fun w h => atoms_spec (ws := Cond.code yX10_allow cX10_allow 3 (some .boolean) :: gT) B.pre w (List.mem_cons_of_mem _ h)
  have hown : s.vm.findClass RX10 = some m.cls := findClass_of_methodNamed B.named
  have hlocks := B.notSynchronized
  have hl := lv_entry ([.ref x, .int v1]) (n := 3) (Nat.le_of_ble_eq_true rfl)
  rw [lg_entry_eq]
  generalize (lg_sl ([.ref x, .int v1]) ++ List.replicate (3 - (lg_sl ([.ref x, .int v1])).length) Slot.unset).toArray = ls at hl ⊢
  have hl : lv_has ls 3 [(0, .ref x), (1, .int v1)] := hl
  refine lv_aload_n hx hb dX10_allow_0 rfl (lv_at hl 0 rfl) ?_
  refine lv_iload_n hx hb dX10_allow_1 rfl (lv_at hl 1 rfl) ?_
  have hPc := hP.sub (ws' := [(x, .inr (10, (kO a)))]) [0] rfl
  have hKc := hK.sub (tys' := []) [] rfl
  refine pc_q (va_runV (As := [.int v1]) (rest := []) ⟨hx, hb, hml, hown, hts⟩ (k_findPiece l dC dI x a cy v1) (⟨callB_of 1 hts (gd mw_596) rfl rfl rfl (hts _ mw_1) (hts _ mw_593) ds_X10_findPiece ⟨Nat.le_of_ble_eq_true rfl, Nat.le_of_ble_eq_true rfl⟩, (hts _ mw_595), (hts _ mp_10)⟩) (pu_V hPc hKc hE (va_recv hKc hPc (ci := 10) (q0 := 0) rfl rfl)) rfl rfl hl.1 rfl (lv_room (Nat.le_of_ble_eq_true rfl)) dX10_allow_2 ⟨Nat.le_of_ble_eq_true rfl, Nat.le_of_ble_eq_true rfl⟩) (fun r_ hw_ => ?_)
  obtain rfl : r_ = none := hw_
  refine W.eq (g2 := F0 m 5 ls [.null]) rfl ?_
  refine lv_astore_nN (lv' := [(2, .null), (0, .ref x), (1, .int v1)]) hx hb dX10_allow_5 rfl hl (by decide) rfl (fun ls hl => ?_)
  refine lv_aload_nN hx hb dX10_allow_6 rfl (lv_at hl 0 rfl) ?_
  refine lv_ifnullN (tgt := 25) hx hb dX10_allow_7 (by decide) ?_
  refine lv_iconst (v := 0) hx hb dX10_allow_25 (by decide) ?_
  exact W.zret (v := 0) (ty := .boolean) hx hb hr rfl (fun t ht hW => ⟨0, rfl, (by first | rfl | (simp []; done)), ht⟩) (fun q h => absurd h List.not_mem_nil) dX10_allow_26

set_option maxHeartbeats 4000000 in
set_option maxRecDepth 100000 in
theorem k_pieceOf (l : Launch) (dC : Nat → ClassId) (dI : Nat → Nat → Nat) (x : Nat) (a : Nat → Nat) (cy : Nat → ClassId) (v1 v2 : Int32) : Met l yX10_pieceOf (Cond.code yX10_pieceOf cX10_pieceOf 4 (some .int) :: gT) ({ frames := 3, cells := 0, slots := 0, locals := 103 }) (va_Pc [.ref x, .int v1, .int v2] (pu (dC, dI) [(x, .inr (10, (kO a)))] [])) (vp_Si (fun r => r = -1)) 0 0 (fun _ => False) := by
  refine Met.ofW (cc := cX10_pieceOf) (maxL := 4) (ret := (some .int)) (by decide) rfl ?_
  intro p e s m args below meth c s₁ B hml hv
  obtain ⟨rfl, hP, hK, hE⟩ := hv
  have hx := B.exec
  have hb := B.bytes
  have hr := B.returns
  have hts : ∀ w ∈ gT, w.before _ s = true := fun w h => atoms_spec (ws := Cond.code yX10_pieceOf cX10_pieceOf 4 (some .int) :: gT) B.pre w (List.mem_cons_of_mem _ h)
  have hown : s.vm.findClass RX10 = some m.cls := findClass_of_methodNamed B.named
  have hlocks := B.notSynchronized
  have hl := lv_entry ([.ref x, .int v1, .int v2]) (n := 4) (Nat.le_of_ble_eq_true rfl)
  rw [lg_entry_eq]
  generalize (lg_sl ([.ref x, .int v1, .int v2]) ++ List.replicate (4 - (lg_sl ([.ref x, .int v1, .int v2])).length) Slot.unset).toArray = ls at hl ⊢
  have hl : lv_has ls 4 [(0, .ref x), (1, .int v1), (2, .int v2)] := hl
  refine lv_aload_n hx hb dX10_pieceOf_0 rfl (lv_at hl 0 rfl) ?_
  refine lv_iload_n hx hb dX10_pieceOf_1 rfl (lv_at hl 1 rfl) ?_
  have hPc := hP.sub (ws' := [(x, .inr (10, (kO a)))]) [0] rfl
  have hKc := hK.sub (tys' := []) [] rfl
  refine pc_q (va_runV (As := [.int v1]) (rest := []) ⟨hx, hb, hml, hown, hts⟩ (k_findPiece l dC dI x a cy v1) (⟨callB_of 1 hts (gd mw_596) rfl rfl rfl (hts _ mw_1) (hts _ mw_593) ds_X10_findPiece ⟨Nat.le_of_ble_eq_true rfl, Nat.le_of_ble_eq_true rfl⟩, (hts _ mw_595), (hts _ mp_10)⟩) (pu_V hPc hKc hE (va_recv hKc hPc (ci := 10) (q0 := 0) rfl rfl)) rfl rfl hl.1 rfl (lv_room (Nat.le_of_ble_eq_true rfl)) dX10_pieceOf_2 ⟨Nat.le_of_ble_eq_true rfl, Nat.le_of_ble_eq_true rfl⟩) (fun r_ hw_ => ?_)
  obtain rfl : r_ = none := hw_
  refine W.eq (g2 := F0 m 5 ls [.null]) rfl ?_
  refine lv_astore_nN (lv' := [(3, .null), (0, .ref x), (1, .int v1), (2, .int v2)]) hx hb dX10_pieceOf_5 rfl hl (by decide) rfl (fun ls hl => ?_)
  refine lv_aload_nN hx hb dX10_pieceOf_6 rfl (lv_at hl 0 rfl) ?_
  refine lv_ifnonnullN hx hb dX10_pieceOf_7 ?_
  refine lv_iconst (v := (-1)) hx hb dX10_pieceOf_10 (by decide) ?_
  refine lv_goto (tgt := 19) hx hb dX10_pieceOf_11 (by decide) ?_
  exact W.iret (v := (-1)) hx hb hr (fun t ht hW => ⟨(-1), rfl, (by first | rfl | (simp []; done)), ht⟩) (fun q h => absurd h List.not_mem_nil) dX10_pieceOf_19

set_option maxHeartbeats 4000000 in
set_option maxRecDepth 100000 in
theorem k_boxOf (l : Launch) (dC : Nat → ClassId) (dI : Nat → Nat → Nat) (x : Nat) (a : Nat → Nat) (cy : Nat → ClassId) (v1 v2 : Int32) : Met l yX10_boxOf (Cond.code yX10_boxOf cX10_boxOf 4 (some .int) :: gT) ({ frames := 3, cells := 0, slots := 0, locals := 103 }) (va_Pc [.ref x, .int v1, .int v2] (pu (dC, dI) [(x, .inr (10, (kO a)))] [])) (vp_Si (fun r => r = -1)) 0 0 (fun _ => False) := by
  refine Met.ofW (cc := cX10_boxOf) (maxL := 4) (ret := (some .int)) (by decide) rfl ?_
  intro p e s m args below meth c s₁ B hml hv
  obtain ⟨rfl, hP, hK, hE⟩ := hv
  have hx := B.exec
  have hb := B.bytes
  have hr := B.returns
  have hts : ∀ w ∈ gT, w.before _ s = true := fun w h => atoms_spec (ws := Cond.code yX10_boxOf cX10_boxOf 4 (some .int) :: gT) B.pre w (List.mem_cons_of_mem _ h)
  have hown : s.vm.findClass RX10 = some m.cls := findClass_of_methodNamed B.named
  have hlocks := B.notSynchronized
  have hl := lv_entry ([.ref x, .int v1, .int v2]) (n := 4) (Nat.le_of_ble_eq_true rfl)
  rw [lg_entry_eq]
  generalize (lg_sl ([.ref x, .int v1, .int v2]) ++ List.replicate (4 - (lg_sl ([.ref x, .int v1, .int v2])).length) Slot.unset).toArray = ls at hl ⊢
  have hl : lv_has ls 4 [(0, .ref x), (1, .int v1), (2, .int v2)] := hl
  refine lv_aload_n hx hb dX10_boxOf_0 rfl (lv_at hl 0 rfl) ?_
  refine lv_iload_n hx hb dX10_boxOf_1 rfl (lv_at hl 1 rfl) ?_
  have hPc := hP.sub (ws' := [(x, .inr (10, (kO a)))]) [0] rfl
  have hKc := hK.sub (tys' := []) [] rfl
  refine pc_q (va_runV (As := [.int v1]) (rest := []) ⟨hx, hb, hml, hown, hts⟩ (k_findBox l dC dI x a cy v1) (⟨callB_of 1 hts (gd mw_769) rfl rfl rfl (hts _ mw_1) (hts _ mw_766) ds_X10_findBox ⟨Nat.le_of_ble_eq_true rfl, Nat.le_of_ble_eq_true rfl⟩, (hts _ mw_768), (hts _ mp_26)⟩) (pu_V hPc hKc hE (va_recv hKc hPc (ci := 10) (q0 := 0) rfl rfl)) rfl rfl hl.1 rfl (lv_room (Nat.le_of_ble_eq_true rfl)) dX10_boxOf_2 ⟨Nat.le_of_ble_eq_true rfl, Nat.le_of_ble_eq_true rfl⟩) (fun r_ hw_ => ?_)
  obtain rfl : r_ = none := hw_
  refine W.eq (g2 := F0 m 5 ls [.null]) rfl ?_
  refine lv_astore_nN (lv' := [(3, .null), (0, .ref x), (1, .int v1), (2, .int v2)]) hx hb dX10_boxOf_5 rfl hl (by decide) rfl (fun ls hl => ?_)
  refine lv_aload_nN hx hb dX10_boxOf_6 rfl (lv_at hl 0 rfl) ?_
  refine lv_ifnonnullN hx hb dX10_boxOf_7 ?_
  refine lv_iconst (v := (-1)) hx hb dX10_boxOf_10 (by decide) ?_
  refine lv_goto (tgt := 19) hx hb dX10_boxOf_11 (by decide) ?_
  exact W.iret (v := (-1)) hx hb hr (fun t ht hW => ⟨(-1), rfl, (by first | rfl | (simp []; done)), ht⟩) (fun q h => absurd h List.not_mem_nil) dX10_boxOf_19

set_option maxHeartbeats 4000000 in
set_option maxRecDepth 100000 in
theorem k_recall (l : Launch) (dC : Nat → ClassId) (dI : Nat → Nat → Nat) (x : Nat) (a : Nat → Nat) (cy : Nat → ClassId) (v1 v2 v3 : Int32) : Met l yX10_recall (Cond.code yX10_recall cX10_recall 7 (some .int) :: gT) ({ frames := 3, cells := 0, slots := 0, locals := 103 }) (va_Pc [.ref x, .int v1, .int v2, .int v3] (pu (dC, dI) [(x, .inr (10, (kO a)))] [])) (vp_Si (fun r => r = -1)) 0 0 (fun _ => False) := by
  refine Met.ofW (cc := cX10_recall) (maxL := 7) (ret := (some .int)) (by decide) rfl ?_
  intro p e s m args below meth c s₁ B hml hv
  obtain ⟨rfl, hP, hK, hE⟩ := hv
  have hx := B.exec
  have hb := B.bytes
  have hr := B.returns
  have hts : ∀ w ∈ gT, w.before _ s = true := fun w h => atoms_spec (ws := Cond.code yX10_recall cX10_recall 7 (some .int) :: gT) B.pre w (List.mem_cons_of_mem _ h)
  have hown : s.vm.findClass RX10 = some m.cls := findClass_of_methodNamed B.named
  have hlocks := B.notSynchronized
  have hl := lv_entry ([.ref x, .int v1, .int v2, .int v3]) (n := 7) (Nat.le_of_ble_eq_true rfl)
  rw [lg_entry_eq]
  generalize (lg_sl ([.ref x, .int v1, .int v2, .int v3]) ++ List.replicate (7 - (lg_sl ([.ref x, .int v1, .int v2, .int v3])).length) Slot.unset).toArray = ls at hl ⊢
  have hl : lv_has ls 7 [(0, .ref x), (1, .int v1), (2, .int v2), (3, .int v3)] := hl
  refine lv_aload_n hx hb dX10_recall_0 rfl (lv_at hl 0 rfl) ?_
  refine lv_iload_n hx hb dX10_recall_1 rfl (lv_at hl 1 rfl) ?_
  have hPc := hP.sub (ws' := [(x, .inr (10, (kO a)))]) [0] rfl
  have hKc := hK.sub (tys' := []) [] rfl
  refine pc_q (va_runV (As := [.int v1]) (rest := []) ⟨hx, hb, hml, hown, hts⟩ (k_findLot l dC dI x a cy v1) (⟨callB_of 1 hts (gd mw_382) rfl rfl rfl (hts _ mw_1) (hts _ mw_379) ds_X10_findLot ⟨Nat.le_of_ble_eq_true rfl, Nat.le_of_ble_eq_true rfl⟩, (hts _ mw_381), (hts _ mp_2)⟩) (pu_V hPc hKc hE (va_recv hKc hPc (ci := 10) (q0 := 0) rfl rfl)) rfl rfl hl.1 rfl (lv_room (Nat.le_of_ble_eq_true rfl)) dX10_recall_2 ⟨Nat.le_of_ble_eq_true rfl, Nat.le_of_ble_eq_true rfl⟩) (fun r_ hw_ => ?_)
  obtain rfl : r_ = none := hw_
  refine W.eq (g2 := F0 m 5 ls [.null]) rfl ?_
  refine lv_ifnullN (tgt := 17) hx hb dX10_recall_5 (by decide) ?_
  refine lv_iconst (v := (-1)) hx hb dX10_recall_17 (by decide) ?_
  exact W.iret (v := (-1)) hx hb hr (fun t ht hW => ⟨(-1), rfl, (by first | rfl | (simp []; done)), ht⟩) (fun q h => absurd h List.not_mem_nil) dX10_recall_18

set_option maxHeartbeats 4000000 in
set_option maxRecDepth 100000 in
theorem k_left (l : Launch) (dC : Nat → ClassId) (dI : Nat → Nat → Nat) (x : Nat) (a : Nat → Nat) (cy : Nat → ClassId) (v1 : Int32) : Met l yX10_left (Cond.code yX10_left cX10_left 3 (some .int) :: gT) ({ frames := 3, cells := 0, slots := 0, locals := 103 }) (va_Pc [.ref x, .int v1] (pu (dC, dI) [(x, .inr (10, (kO a)))] [])) (vp_Si (fun r => r = -1)) 0 0 (fun _ => False) := by
  refine Met.ofW (cc := cX10_left) (maxL := 3) (ret := (some .int)) (by decide) rfl ?_
  intro p e s m args below meth c s₁ B hml hv
  obtain ⟨rfl, hP, hK, hE⟩ := hv
  have hx := B.exec
  have hb := B.bytes
  have hr := B.returns
  have hts : ∀ w ∈ gT, w.before _ s = true := fun w h => atoms_spec (ws := Cond.code yX10_left cX10_left 3 (some .int) :: gT) B.pre w (List.mem_cons_of_mem _ h)
  have hown : s.vm.findClass RX10 = some m.cls := findClass_of_methodNamed B.named
  have hlocks := B.notSynchronized
  have hl := lv_entry ([.ref x, .int v1]) (n := 3) (Nat.le_of_ble_eq_true rfl)
  rw [lg_entry_eq]
  generalize (lg_sl ([.ref x, .int v1]) ++ List.replicate (3 - (lg_sl ([.ref x, .int v1])).length) Slot.unset).toArray = ls at hl ⊢
  have hl : lv_has ls 3 [(0, .ref x), (1, .int v1)] := hl
  refine lv_aload_n hx hb dX10_left_0 rfl (lv_at hl 0 rfl) ?_
  refine lv_iload_n hx hb dX10_left_1 rfl (lv_at hl 1 rfl) ?_
  have hPc := hP.sub (ws' := [(x, .inr (10, (kO a)))]) [0] rfl
  have hKc := hK.sub (tys' := []) [] rfl
  refine pc_q (va_runV (As := [.int v1]) (rest := []) ⟨hx, hb, hml, hown, hts⟩ (k_findLot l dC dI x a cy v1) (⟨callB_of 1 hts (gd mw_382) rfl rfl rfl (hts _ mw_1) (hts _ mw_379) ds_X10_findLot ⟨Nat.le_of_ble_eq_true rfl, Nat.le_of_ble_eq_true rfl⟩, (hts _ mw_381), (hts _ mp_2)⟩) (pu_V hPc hKc hE (va_recv hKc hPc (ci := 10) (q0 := 0) rfl rfl)) rfl rfl hl.1 rfl (lv_room (Nat.le_of_ble_eq_true rfl)) dX10_left_2 ⟨Nat.le_of_ble_eq_true rfl, Nat.le_of_ble_eq_true rfl⟩) (fun r_ hw_ => ?_)
  obtain rfl : r_ = none := hw_
  refine W.eq (g2 := F0 m 5 ls [.null]) rfl ?_
  refine lv_astore_nN (lv' := [(2, .null), (0, .ref x), (1, .int v1)]) hx hb dX10_left_5 rfl hl (by decide) rfl (fun ls hl => ?_)
  refine lv_aload_nN hx hb dX10_left_6 rfl (lv_at hl 0 rfl) ?_
  refine lv_ifnonnullN hx hb dX10_left_7 ?_
  refine lv_iconst (v := (-1)) hx hb dX10_left_10 (by decide) ?_
  refine lv_goto (tgt := 18) hx hb dX10_left_11 (by decide) ?_
  exact W.iret (v := (-1)) hx hb hr (fun t ht hW => ⟨(-1), rfl, (by first | rfl | (simp []; done)), ht⟩) (fun q h => absurd h List.not_mem_nil) dX10_left_18

set_option maxHeartbeats 4000000 in
set_option maxRecDepth 100000 in
theorem k_place (l : Launch) (dC : Nat → ClassId) (dI : Nat → Nat → Nat) (x : Nat) (a : Nat → Nat) (cy : Nat → ClassId) (v1 v2 v3 : Int32) : Met l yX10_place (Cond.code yX10_place cX10_place 6 (some .boolean) :: gT) ({ frames := 4, cells := 0, slots := 0, locals := 125 }) (va_Pc [.ref x, .int v1, .int v2, .int v3] (pu (dC, dI) [(x, .inr (10, (kO a)))] [])) (vp_Si (fun r => r = 0)) 0 0 (fun _ => False) := by
  refine Met.ofW (cc := cX10_place) (maxL := 6) (ret := (some .boolean)) (by decide) rfl ?_
  intro p e s m args below meth c s₁ B hml hv
  obtain ⟨rfl, hP, hK, hE⟩ := hv
  have hx := B.exec
  have hb := B.bytes
  have hr := B.returns
  have hts : ∀ w ∈ gT, w.before _ s = true := fun w h => atoms_spec (ws := Cond.code yX10_place cX10_place 6 (some .boolean) :: gT) B.pre w (List.mem_cons_of_mem _ h)
  have hown : s.vm.findClass RX10 = some m.cls := findClass_of_methodNamed B.named
  have hlocks := B.notSynchronized
  have hl := lv_entry ([.ref x, .int v1, .int v2, .int v3]) (n := 6) (Nat.le_of_ble_eq_true rfl)
  rw [lg_entry_eq]
  generalize (lg_sl ([.ref x, .int v1, .int v2, .int v3]) ++ List.replicate (6 - (lg_sl ([.ref x, .int v1, .int v2, .int v3])).length) Slot.unset).toArray = ls at hl ⊢
  have hl : lv_has ls 6 [(0, .ref x), (1, .int v1), (2, .int v2), (3, .int v3)] := hl
  refine lv_aload_n hx hb dX10_place_0 rfl (lv_at hl 0 rfl) ?_
  refine lv_iload_n hx hb dX10_place_1 rfl (lv_at hl 1 rfl) ?_
  have hPc := hP.sub (ws' := [(x, .inr (10, (kO a)))]) [0] rfl
  have hKc := hK.sub (tys' := []) [] rfl
  refine pc_q (va_runV (As := [.int v1]) (rest := []) ⟨hx, hb, hml, hown, hts⟩ (k_findUnboxed l dC dI x a cy v1) (⟨callB_of 1 hts (gd mw_592) rfl rfl rfl (hts _ mw_1) (hts _ mw_589) ds_X10_findUnboxed ⟨Nat.le_of_ble_eq_true rfl, Nat.le_of_ble_eq_true rfl⟩, (hts _ mw_591), (hts _ mp_9)⟩) (pu_V hPc hKc hE (va_recv hKc hPc (ci := 10) (q0 := 0) rfl rfl)) rfl rfl hl.1 rfl (lv_room (Nat.le_of_ble_eq_true rfl)) dX10_place_2 ⟨Nat.le_of_ble_eq_true rfl, Nat.le_of_ble_eq_true rfl⟩) (fun r_ hw_ => ?_)
  obtain rfl : r_ = none := hw_
  refine W.eq (g2 := F0 m 5 ls [.null]) rfl ?_
  refine lv_astoreN (lv' := [(4, .null), (0, .ref x), (1, .int v1), (2, .int v2), (3, .int v3)]) hx hb dX10_place_5 hl (by decide) rfl (fun ls hl => ?_)
  refine lv_iload_n hx hb dX10_place_7 rfl (lv_at hl 3 rfl) ?_
  refine lv_iload_n hx hb dX10_place_8 rfl (lv_at hl 4 rfl) ?_
  have hPc := hP.sub (ws' := []) [] rfl
  have hKc := hK.sub (tys' := []) [] rfl
  refine pc_i (va_runS (As := [.int v2, .int v3]) (rest := []) ⟨hx, hb, hml, hown, hts⟩ (c_spotOf l dC dI v2 v3) (⟨callB_of 2 hts (gd mw_603) rfl rfl rfl (hts _ mw_1) (hts _ mw_601) ds_X10_spotOf ⟨Nat.le_of_ble_eq_true rfl, Nat.le_of_ble_eq_true rfl⟩, (hts _ mw_602)⟩) (pu_S hPc hKc hE) rfl rfl hl.1 rfl (lv_room (Nat.le_of_ble_eq_true rfl)) dX10_place_9 ⟨Nat.le_of_ble_eq_true rfl, Nat.le_of_ble_eq_true rfl⟩) (fun r_ hw_ => ?_)
  obtain rfl : r_ = (so v2 v3) := hw_
  refine lv_istore (lv' := [(5, .int (so v2 v3)), (4, .null), (0, .ref x), (1, .int v1), (2, .int v2), (3, .int v3)]) hx hb dX10_place_12 hl (by decide) rfl (fun ls hl => ?_)
  refine lv_aloadN hx hb dX10_place_14 (lv_at hl 1 rfl) ?_
  refine lv_ifnullN (tgt := 36) hx hb dX10_place_16 (by decide) ?_
  refine lv_iconst (v := 0) hx hb dX10_place_36 (by decide) ?_
  exact W.zret (v := 0) (ty := .boolean) hx hb hr rfl (fun t ht hW => ⟨0, rfl, (by first | rfl | (simp []; done)), ht⟩) (fun q h => absurd h List.not_mem_nil) dX10_place_37
