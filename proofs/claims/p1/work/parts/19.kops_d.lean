set_option maxHeartbeats 4000000 in
set_option maxRecDepth 100000 in
theorem k_setWashing (l : Launch) (dC : Nat → ClassId) (dI : Nat → Nat → Nat) (sz : Nat) (x : Nat) (a : Nat → Nat) (cy : Nat → ClassId) (v1 v2 v3 : Int32) (h1 : ¬ wi v1 0 5 = 0) (h2 : ¬ wi v2 0 5 = 0) : Met l yX3_setWashing (Cond.code yX3_setWashing cX3_setWashing 4 none :: gT) ({ frames := 1, cells := 0, slots := 0, locals := 60 }) (va_Pc [.ref (a 12), .int v1, .int v2, .int v3] (pr (dC, dI) sz [((a 12), .inr (3, (keO a))), ((a 30), .inl ((cy 30), 36, .inl (fun _ => 0)))] [((cy 30), .int)])) (va_Qv (fun _ : Unit => True) (fun _ _ => True) (va_A [((a 12), .inr (3, (keO a))), ((a 30), .inl ((cy 30), 36, .inl (fun _ => 0)))] sz)) 0 0 (va_A [((a 12), .inr (3, (keO a))), ((a 30), .inl ((cy 30), 36, .inl (fun _ => 0)))] sz) := by
  refine Met.ofW (cc := cX3_setWashing) (maxL := 4) (ret := none) (by decide) rfl ?_
  intro p e s m args below meth c s₁ B hml hv
  obtain ⟨rfl, hsz, hP, hK, hD0, hE⟩ := hv
  have hx := B.exec
  have hb := B.bytes
  have hr := B.returns
  have hts : ∀ w ∈ gT, w.before _ s = true := fun w h => atoms_spec (ws := Cond.code yX3_setWashing cX3_setWashing 4 none :: gT) B.pre w (List.mem_cons_of_mem _ h)
  have hown : s.vm.findClass RX3 = some m.cls := findClass_of_methodNamed B.named
  have hlocks := B.notSynchronized
  subst hsz
  have hD := hD0.self (sz := s.heap.size)
  generalize hAe : va_A [((a 12), .inr (3, (keO a))), ((a 30), .inl ((cy 30), 36, .inl (fun _ => 0)))] s.heap.size = A at hD ⊢
  have hA : ∀ q : Nat, s.heap.size ≤ q → A q := fun q h => by rw [← hAe]; exact Or.inr h
  have hS : va_S A s.heap s.heap [] := va_S.rf
  have hl := lv_entry ([.ref (a 12), .int v1, .int v2, .int v3]) (n := 4) (Nat.le_of_ble_eq_true rfl)
  rw [lg_entry_eq]
  generalize (lg_sl ([.ref (a 12), .int v1, .int v2, .int v3]) ++ List.replicate (4 - (lg_sl ([.ref (a 12), .int v1, .int v2, .int v3])).length) Slot.unset).toArray = ls at hl ⊢
  have hl : lv_has ls 4 [(0, .ref (a 12)), (1, .int v1), (2, .int v2), (3, .int v3)] := hl
  refine lv_aload_n hx hb dX3_setWashing_0 rfl (lv_at hl 0 rfl) ?_
  refine va_get (D := (dC, dI)) (ci := 3) (v := .ref (a 30)) (C := RX3) (T := TX3) (N := 13) hx hb hts inX3 hown hK hP 0 rfl rfl 0 (by decide) (hts _ mw_104) (fun _ h9 => h9) rfl dX3_setWashing_1 ?_
  refine lv_iload_n hx hb dX3_setWashing_4 rfl (lv_at hl 1 rfl) ?_
  refine lv_bipush (v := 6) hx hb dX3_setWashing_5 (by decide) ?_
  refine lv_imul hx hb dX3_setWashing_7 ?_
  refine lv_iload_n hx hb dX3_setWashing_8 rfl (lv_at hl 2 rfl) ?_
  refine lv_iadd hx hb dX3_setWashing_9 ?_
  refine lv_iload_n hx hb dX3_setWashing_10 rfl (lv_at hl 3 rfl) ?_
  refine va_iast hx hb hK hP hD hS 1 0 rfl rfl (gr_in (A := 6) (B := 6) (wi_vp h1 (by decide)) (wi_vp h2 (by decide)) (by decide) (w := 6) (by decide) (by decide) (by decide)).1 dX3_setWashing_11 (fun H locs hP hD hS => ?_)
  have hP : va_P (dC, dI) vwCl [((a 12), .inr (3, (keO a))), ((a 30), .inl ((cy 30), 36, .inl (upd (fun _ => 0) (((v1 * 6) + v2) : Int32).toNatClampNeg v3)))] H := hP
  have hD : va_D A [((a 12), .inr (3, (keO a))), ((a 30), .inl ((cy 30), 36, .inl (upd (fun _ => 0) (((v1 * 6) + v2) : Int32).toNatClampNeg v3)))] := hD
  refine lv_aload_n hx hb dX3_setWashing_12 rfl (lv_at hl 0 rfl) ?_
  refine lv_iconst (v := 0) hx hb dX3_setWashing_13 (by decide) ?_
  refine va_put (D := (dC, dI)) (ci := 3) (v := .int 0) (ty := .boolean) (C := RX3) (T := TX3) (N := 13) hx hb hts inX3 tyX3 tyX3_ok nmX3 hown hK hP hD hS 0 rfl rfl 6 (by decide) (hts _ mw_113) (fun _ h9 => h9) rfl (by decide +kernel) rfl rfl (Nat.le_of_ble_eq_true rfl) dX3_setWashing_14 (fun H locs hP hD hS => ?_)
  have hP : va_P (dC, dI) vwCl [((a 12), .inr (3, ((keO a).set 6 (.int 0)))), ((a 30), .inl ((cy 30), 36, .inl (upd (fun _ => 0) (((v1 * 6) + v2) : Int32).toNatClampNeg v3)))] H := hP
  have hD : va_D A [((a 12), .inr (3, ((keO a).set 6 (.int 0)))), ((a 30), .inl ((cy 30), 36, .inl (upd (fun _ => 0) (((v1 * 6) + v2) : Int32).toNatClampNeg v3)))] := hD
  refine W.widen (k := 0) (n := 0) (Nat.le_of_ble_eq_true rfl) (Nat.le_of_ble_eq_true rfl) ?_
  exact W.vret hx hb hr (fun t ht hW => ⟨⟨(), rfl, trivial, trivial⟩, hS.F ht⟩) hS.2.2 dX3_setWashing_17

set_option maxHeartbeats 4000000 in
set_option maxRecDepth 100000 in
theorem k_wash (l : Launch) (dC : Nat → ClassId) (dI : Nat → Nat → Nat) (sz : Nat) (x : Nat) (a : Nat → Nat) (cy : Nat → ClassId) (v1 v2 v3 : Int32) : Met l yX10_wash (Cond.code yX10_wash cX10_wash 4 (some .boolean) :: gT) ({ frames := 3, cells := 0, slots := 0, locals := 102 }) (va_Pc [.ref x, .int v1, .int v2, .int v3] (pr (dC, dI) sz [(x, .inr (10, (kO a))), ((a 12), .inr (3, (keO a))), ((a 30), .inl ((cy 30), 36, .inl (fun _ => 0)))] [((cy 30), .int)])) (va_Qi (fun (r : Int32) (_ : Unit) => r = sp_wash v1 v2 v3) (fun _ _ => True) (va_A [(x, .inr (10, (kO a))), ((a 12), .inr (3, (keO a))), ((a 30), .inl ((cy 30), 36, .inl (fun _ => 0)))] sz)) 0 0 (va_A [(x, .inr (10, (kO a))), ((a 12), .inr (3, (keO a))), ((a 30), .inl ((cy 30), 36, .inl (fun _ => 0)))] sz) := by
  refine Met.ofW (cc := cX10_wash) (maxL := 4) (ret := (some .boolean)) (by decide) rfl ?_
  intro p e s m args below meth c s₁ B hml hv
  obtain ⟨rfl, hsz, hP, hK, hD0, hE⟩ := hv
  have hx := B.exec
  have hb := B.bytes
  have hr := B.returns
  have hts : ∀ w ∈ gT, w.before _ s = true := fun w h => atoms_spec (ws := Cond.code yX10_wash cX10_wash 4 (some .boolean) :: gT) B.pre w (List.mem_cons_of_mem _ h)
  have hown : s.vm.findClass RX10 = some m.cls := findClass_of_methodNamed B.named
  have hlocks := B.notSynchronized
  subst hsz
  have hD := hD0.self (sz := s.heap.size)
  generalize hAe : va_A [(x, .inr (10, (kO a))), ((a 12), .inr (3, (keO a))), ((a 30), .inl ((cy 30), 36, .inl (fun _ => 0)))] s.heap.size = A at hD ⊢
  have hA : ∀ q : Nat, s.heap.size ≤ q → A q := fun q h => by rw [← hAe]; exact Or.inr h
  have hS : va_S A s.heap s.heap [] := va_S.rf
  have hl := lv_entry ([.ref x, .int v1, .int v2, .int v3]) (n := 4) (Nat.le_of_ble_eq_true rfl)
  rw [lg_entry_eq]
  generalize (lg_sl ([.ref x, .int v1, .int v2, .int v3]) ++ List.replicate (4 - (lg_sl ([.ref x, .int v1, .int v2, .int v3])).length) Slot.unset).toArray = ls at hl ⊢
  have hl : lv_has ls 4 [(0, .ref x), (1, .int v1), (2, .int v2), (3, .int v3)] := hl
  refine lv_iload_n hx hb dX10_wash_0 rfl (lv_at hl 1 rfl) ?_
  have hPc := hP.sub (ws' := []) [] rfl
  have hKc := hK.sub (tys' := []) [] rfl
  refine pc_i (va_runS (As := [.int v1]) (rest := []) ⟨hx, hb, hml, hown, hts⟩ (c_isKind l dC dI v1) (⟨callB_of 1 hts (gd mw_275) rfl rfl rfl (hts _ mw_1) (hts _ mw_273) ds_X10_isKind ⟨Nat.le_of_ble_eq_true rfl, Nat.le_of_ble_eq_true rfl⟩, (hts _ mw_274)⟩) (pu_S hPc hKc hE) rfl rfl hl.1 rfl (lv_room (Nat.le_of_ble_eq_true rfl)) dX10_wash_1 ⟨Nat.le_of_ble_eq_true rfl, Nat.le_of_ble_eq_true rfl⟩) (fun r_ hw_ => ?_)
  obtain rfl : r_ = (wi v1 0 5) := hw_
  refine lv_if_eq (tgt := 25) hx hb dX10_wash_4 (by decide) (fun c_2 => ?_) (fun c_2 => ?_)
  · refine lv_iconst (v := 0) hx hb dX10_wash_25 (by decide) ?_
    refine W.widen (k := 0) (n := 0) (Nat.le_of_ble_eq_true rfl) (Nat.le_of_ble_eq_true rfl) ?_
    exact W.zret (v := 0) (ty := .boolean) hx hb hr rfl (fun t ht hW => ⟨⟨0, (), rfl, (by first | rfl | (simp [sp_wash, c_2]; done)), trivial⟩, hS.F ht⟩) hS.2.2 dX10_wash_26
  · refine lv_iload_n hx hb dX10_wash_7 rfl (lv_at hl 2 rfl) ?_
    have hPc := hP.sub (ws' := []) [] rfl
    have hKc := hK.sub (tys' := []) [] rfl
    refine pc_i (va_runS (As := [.int v2]) (rest := []) ⟨hx, hb, hml, hown, hts⟩ (c_isKind l dC dI v2) (⟨callB_of 1 hts (gd mw_275) rfl rfl rfl (hts _ mw_1) (hts _ mw_273) ds_X10_isKind ⟨Nat.le_of_ble_eq_true rfl, Nat.le_of_ble_eq_true rfl⟩, (hts _ mw_274)⟩) (pu_S hPc hKc hE) rfl rfl hl.1 rfl (lv_room (Nat.le_of_ble_eq_true rfl)) dX10_wash_8 ⟨Nat.le_of_ble_eq_true rfl, Nat.le_of_ble_eq_true rfl⟩) (fun r_ hw_ => ?_)
    obtain rfl : r_ = (wi v2 0 5) := hw_
    refine lv_if_eq (tgt := 25) hx hb dX10_wash_11 (by decide) (fun c_4 => ?_) (fun c_4 => ?_)
    · refine lv_iconst (v := 0) hx hb dX10_wash_25 (by decide) ?_
      refine W.widen (k := 0) (n := 0) (Nat.le_of_ble_eq_true rfl) (Nat.le_of_ble_eq_true rfl) ?_
      exact W.zret (v := 0) (ty := .boolean) hx hb hr rfl (fun t ht hW => ⟨⟨0, (), rfl, (by first | rfl | (simp [sp_wash, c_2, c_4]; done)), trivial⟩, hS.F ht⟩) hS.2.2 dX10_wash_26
    · refine lv_iload_n hx hb dX10_wash_14 rfl (lv_at hl 3 rfl) ?_
      refine lv_iconst (v := 0) hx hb dX10_wash_15 (by decide) ?_
      refine lv_sipush (v := 600) hx hb dX10_wash_16 (by decide) ?_
      have hPc := hP.sub (ws' := []) [] rfl
      have hKc := hK.sub (tys' := []) [] rfl
      refine pc_i (va_runS (As := [.int v3, .int 0, .int 600]) (rest := []) ⟨hx, hb, hml, hown, hts⟩ (c_within l dC dI v3 0 600) (⟨callB_of 3 hts (gd mw_254) rfl rfl rfl (hts _ mw_1) (hts _ mw_252) ds_X10_within ⟨Nat.le_of_ble_eq_true rfl, Nat.le_of_ble_eq_true rfl⟩, (hts _ mw_253)⟩) (pu_S hPc hKc hE) rfl rfl hl.1 rfl (lv_room (Nat.le_of_ble_eq_true rfl)) dX10_wash_19 ⟨Nat.le_of_ble_eq_true rfl, Nat.le_of_ble_eq_true rfl⟩) (fun r_ hw_ => ?_)
      obtain rfl : r_ = (wi v3 0 600) := hw_
      refine lv_if_ne (tgt := 27) hx hb dX10_wash_22 (by decide) (fun c_6 => ?_) (fun c_6 => ?_)
      · refine lv_aload_n hx hb dX10_wash_27 rfl (lv_at hl 0 rfl) ?_
        refine va_get (D := (dC, dI)) (ci := 10) (v := .ref (a 12)) (C := RX10) (T := TX10) (N := 15) hx hb hts inX10 hown hK hP 0 rfl rfl 12 (by decide) (hts _ mw_213) (fun _ h9 => h9) rfl dX10_wash_28 ?_
        refine lv_iload_n hx hb dX10_wash_31 rfl (lv_at hl 1 rfl) ?_
        refine lv_iload_n hx hb dX10_wash_32 rfl (lv_at hl 2 rfl) ?_
        refine lv_iload_n hx hb dX10_wash_33 rfl (lv_at hl 3 rfl) ?_
        have hPc := hP.sub (ws' := [((a 12), .inr (3, (keO a))), ((a 30), .inl ((cy 30), 36, .inl (fun _ => 0)))]) [1, 2] rfl
        have hKc := hK.sub (tys' := [((cy 30), .int)]) [0] rfl
        have hDc := hD.sub (ws' := [((a 12), .inr (3, (keO a))), ((a 30), .inl ((cy 30), 36, .inl (fun _ => 0)))]) [1, 2] (by decide) rfl
        have hFc := va_free (wc := [((a 12), .inr (3, (keO a))), ((a 30), .inl ((cy 30), 36, .inl (fun _ => 0)))]) hD hS hA [1, 2] rfl
        refine va_callv (va_runV (As := [.int v1, .int v2, .int v3]) (rest := []) ⟨hx, hb, hml, hown, hts⟩ (k_setWashing l dC dI s.heap.size x a cy v1 v2 v3 c_2 c_4) (⟨callB_of 3 hts (gd mw_792) rfl rfl rfl (hts _ mw_5) (hts _ mw_789) ds_X3_setWashing ⟨Nat.le_of_ble_eq_true rfl, Nat.le_of_ble_eq_true rfl⟩, (hts _ mw_790), (hts _ mw_791)⟩) (pr_V hPc hKc hDc hE (va_recv hKc hPc (ci := 3) (q0 := 0) rfl rfl)) rfl rfl hl.1 rfl (lv_room (Nat.le_of_ble_eq_true rfl)) dX10_wash_34 ⟨Nat.le_of_ble_eq_true rfl, Nat.le_of_ble_eq_true rfl⟩) hS (fun q _ h => hFc q h) hFc (fun u_ t_ H1 locs ht hvm hw_ hB hz1 hk1 hS => ?_)
        have hP1 : va_P (dC, dI) vwCl [] H1 := fun k q h => by simp at h
        have hD1 : va_D (va_A [((a 12), .inr (3, (keO a))), ((a 30), .inl ((cy 30), 36, .inl (fun _ => 0)))] s.heap.size) [] := ⟨fun i j p q h => by simp at h, fun k q h => by simp at h⟩
        obtain ⟨hP, hD⟩ := va_join (wr := [(x, .inr (10, (kO a)))]) (w1 := []) hP hD [1, 2] [0] rfl rfl (by decide) (by decide) hk1 hFc hP1 hD1
        generalize H1 = H at hP hS ⊢
        have hP : va_P (dC, dI) vwCl [(x, .inr (10, (kO a)))] H := hP
        have hD : va_D A [(x, .inr (10, (kO a)))] := hD
        refine lv_iconst (v := 1) hx hb dX10_wash_37 (by decide) ?_
        refine W.widen (k := 0) (n := 0) (Nat.le_of_ble_eq_true rfl) (Nat.le_of_ble_eq_true rfl) ?_
        exact W.zret (v := 1) (ty := .boolean) hx hb hr rfl (fun t ht hW => ⟨⟨1, (), rfl, (by first | rfl | (simp [sp_wash, c_2, c_4, c_6]; done)), trivial⟩, hS.F ht⟩) hS.2.2 dX10_wash_38
      · refine lv_iconst (v := 0) hx hb dX10_wash_25 (by decide) ?_
        refine W.widen (k := 0) (n := 0) (Nat.le_of_ble_eq_true rfl) (Nat.le_of_ble_eq_true rfl) ?_
        exact W.zret (v := 0) (ty := .boolean) hx hb hr rfl (fun t ht hW => ⟨⟨0, (), rfl, (by first | rfl | (simp [sp_wash, c_2, c_4, c_6]; done)), trivial⟩, hS.F ht⟩) hS.2.2 dX10_wash_26

set_option maxHeartbeats 4000000 in
set_option maxRecDepth 100000 in
theorem k_empty (l : Launch) (dC : Nat → ClassId) (dI : Nat → Nat → Nat) (sz : Nat) (x : Nat) (a : Nat → Nat) (cy : Nat → ClassId) : Met l yX3_empty (Cond.code yX3_empty cX3_empty 1 none :: gT) ({ frames := 1, cells := 0, slots := 0, locals := 60 }) (va_Pc [.ref (a 12)] (pr (dC, dI) sz [((a 12), .inr (3, (keO a)))] [])) (va_Qv (fun _ : Unit => True) (fun _ _ => True) (va_A [((a 12), .inr (3, (keO a)))] sz)) 0 0 (va_A [((a 12), .inr (3, (keO a)))] sz) := by
  refine Met.ofW (cc := cX3_empty) (maxL := 1) (ret := none) (by decide) rfl ?_
  intro p e s m args below meth c s₁ B hml hv
  obtain ⟨rfl, hsz, hP, hK, hD0, hE⟩ := hv
  have hx := B.exec
  have hb := B.bytes
  have hr := B.returns
  have hts : ∀ w ∈ gT, w.before _ s = true := fun w h => atoms_spec (ws := Cond.code yX3_empty cX3_empty 1 none :: gT) B.pre w (List.mem_cons_of_mem _ h)
  have hown : s.vm.findClass RX3 = some m.cls := findClass_of_methodNamed B.named
  have hlocks := B.notSynchronized
  subst hsz
  have hD := hD0.self (sz := s.heap.size)
  generalize hAe : va_A [((a 12), .inr (3, (keO a)))] s.heap.size = A at hD ⊢
  have hA : ∀ q : Nat, s.heap.size ≤ q → A q := fun q h => by rw [← hAe]; exact Or.inr h
  have hS : va_S A s.heap s.heap [] := va_S.rf
  have hl := lv_entry ([.ref (a 12)]) (n := 1) (Nat.le_of_ble_eq_true rfl)
  rw [lg_entry_eq]
  generalize (lg_sl ([.ref (a 12)]) ++ List.replicate (1 - (lg_sl ([.ref (a 12)])).length) Slot.unset).toArray = ls at hl ⊢
  have hl : lv_has ls 1 [(0, .ref (a 12))] := hl
  refine lv_aload_n hx hb dX3_empty_0 rfl (lv_at hl 0 rfl) ?_
  refine lv_iconst (v := 0) hx hb dX3_empty_1 (by decide) ?_
  refine va_put (D := (dC, dI)) (ci := 3) (v := .int 0) (ty := .int) (C := RX3) (T := TX3) (N := 13) hx hb hts inX3 tyX3 tyX3_ok nmX3 hown hK hP hD hS 0 rfl rfl 3 (by decide) (hts _ mw_107) (fun _ h9 => h9) rfl (by decide +kernel) rfl rfl (Nat.le_of_ble_eq_true rfl) dX3_empty_2 (fun H locs hP hD hS => ?_)
  have hP : va_P (dC, dI) vwCl [((a 12), .inr (3, ((keO a).set 3 (.int 0))))] H := hP
  have hD : va_D A [((a 12), .inr (3, ((keO a).set 3 (.int 0))))] := hD
  refine lv_aload_n hx hb dX3_empty_5 rfl (lv_at hl 0 rfl) ?_
  refine lv_iconst (v := 0) hx hb dX3_empty_6 (by decide) ?_
  refine va_put (D := (dC, dI)) (ci := 3) (v := .int 0) (ty := .boolean) (C := RX3) (T := TX3) (N := 13) hx hb hts inX3 tyX3 tyX3_ok nmX3 hown hK hP hD hS 0 rfl rfl 6 (by decide) (hts _ mw_113) (fun _ h9 => h9) rfl (by decide +kernel) rfl rfl (Nat.le_of_ble_eq_true rfl) dX3_empty_7 (fun H locs hP hD hS => ?_)
  have hP : va_P (dC, dI) vwCl [((a 12), .inr (3, (((keO a).set 3 (.int 0)).set 6 (.int 0))))] H := hP
  have hD : va_D A [((a 12), .inr (3, (((keO a).set 3 (.int 0)).set 6 (.int 0))))] := hD
  refine W.widen (k := 0) (n := 0) (Nat.le_of_ble_eq_true rfl) (Nat.le_of_ble_eq_true rfl) ?_
  exact W.vret hx hb hr (fun t ht hW => ⟨⟨(), rfl, trivial, trivial⟩, hS.F ht⟩) hS.2.2 dX3_empty_10

set_option maxHeartbeats 4000000 in
set_option maxRecDepth 100000 in
theorem k_queue (l : Launch) (dC : Nat → ClassId) (dI : Nat → Nat → Nat) (sz : Nat) (x : Nat) (a : Nat → Nat) (cy : Nat → ClassId) (v1 : Int32) : Met l yX10_queue (Cond.code yX10_queue cX10_queue 3 (some .int) :: gT) ({ frames := 3, cells := 0, slots := 0, locals := 103 }) (va_Pc [.ref x, .int v1] (pr (dC, dI) sz [(x, .inr (10, (kO a))), ((a 12), .inr (3, (keO a)))] [])) (va_Qi (fun (r : Int32) (_ : Unit) => r = sp_queue v1) (fun _ _ => True) (va_A [(x, .inr (10, (kO a))), ((a 12), .inr (3, (keO a)))] sz)) 0 0 (va_A [(x, .inr (10, (kO a))), ((a 12), .inr (3, (keO a)))] sz) := by
  refine Met.ofW (cc := cX10_queue) (maxL := 3) (ret := (some .int)) (by decide) rfl ?_
  intro p e s m args below meth c s₁ B hml hv
  obtain ⟨rfl, hsz, hP, hK, hD0, hE⟩ := hv
  have hx := B.exec
  have hb := B.bytes
  have hr := B.returns
  have hts : ∀ w ∈ gT, w.before _ s = true := fun w h => atoms_spec (ws := Cond.code yX10_queue cX10_queue 3 (some .int) :: gT) B.pre w (List.mem_cons_of_mem _ h)
  have hown : s.vm.findClass RX10 = some m.cls := findClass_of_methodNamed B.named
  have hlocks := B.notSynchronized
  subst hsz
  have hD := hD0.self (sz := s.heap.size)
  generalize hAe : va_A [(x, .inr (10, (kO a))), ((a 12), .inr (3, (keO a)))] s.heap.size = A at hD ⊢
  have hA : ∀ q : Nat, s.heap.size ≤ q → A q := fun q h => by rw [← hAe]; exact Or.inr h
  have hS : va_S A s.heap s.heap [] := va_S.rf
  have hl := lv_entry ([.ref x, .int v1]) (n := 3) (Nat.le_of_ble_eq_true rfl)
  rw [lg_entry_eq]
  generalize (lg_sl ([.ref x, .int v1]) ++ List.replicate (3 - (lg_sl ([.ref x, .int v1])).length) Slot.unset).toArray = ls at hl ⊢
  have hl : lv_has ls 3 [(0, .ref x), (1, .int v1)] := hl
  refine lv_iload_n hx hb dX10_queue_0 rfl (lv_at hl 1 rfl) ?_
  refine lv_iconst (v := (-1)) hx hb dX10_queue_1 (by decide) ?_
  refine lv_icmp_ne (tgt := 14) hx hb dX10_queue_2 (by decide) (fun c_1 => ?_) (fun c_1 => ?_)
  · refine lv_aload_n hx hb dX10_queue_14 rfl (lv_at hl 0 rfl) ?_
    refine lv_iload_n hx hb dX10_queue_15 rfl (lv_at hl 1 rfl) ?_
    have hPc := hP.sub (ws' := [(x, .inr (10, (kO a)))]) [0] rfl
    have hKc := hK.sub (tys' := []) [] rfl
    refine pc_q (va_runV (As := [.int v1]) (rest := []) ⟨hx, hb, hml, hown, hts⟩ (k_findBatch l dC dI x a cy v1) (⟨callB_of 1 hts (gd mw_378) rfl rfl rfl (hts _ mw_1) (hts _ mw_375) ds_X10_findBatch ⟨Nat.le_of_ble_eq_true rfl, Nat.le_of_ble_eq_true rfl⟩, (hts _ mw_377), (hts _ mp_1)⟩) (pu_V hPc hKc hE (va_recv hKc hPc (ci := 10) (q0 := 0) rfl rfl)) rfl rfl hl.1 rfl (lv_room (Nat.le_of_ble_eq_true rfl)) dX10_queue_16 ⟨Nat.le_of_ble_eq_true rfl, Nat.le_of_ble_eq_true rfl⟩) (fun r_ hw_ => ?_)
    obtain rfl : r_ = none := hw_
    refine W.eq (g2 := F0 m 19 ls [.null]) rfl ?_
    refine lv_astore_nN (lv' := [(2, .null), (0, .ref x), (1, .int v1)]) hx hb dX10_queue_19 rfl hl (by decide) rfl (fun ls hl => ?_)
    refine lv_aload_nN hx hb dX10_queue_20 rfl (lv_at hl 0 rfl) ?_
    refine lv_ifnonnullN hx hb dX10_queue_21 ?_
    refine lv_iconst (v := (-1)) hx hb dX10_queue_24 (by decide) ?_
    refine lv_goto (tgt := 40) hx hb dX10_queue_25 (by decide) ?_
    refine W.widen (k := 0) (n := 0) (Nat.le_of_ble_eq_true rfl) (Nat.le_of_ble_eq_true rfl) ?_
    exact W.iret (v := (-1)) hx hb hr (fun t ht hW => ⟨⟨(-1), (), rfl, (by first | rfl | (simp [sp_queue, c_1]; done)), trivial⟩, hS.F ht⟩) hS.2.2 dX10_queue_40
  · refine lv_aload_n hx hb dX10_queue_5 rfl (lv_at hl 0 rfl) ?_
    refine va_get (D := (dC, dI)) (ci := 10) (v := .ref (a 12)) (C := RX10) (T := TX10) (N := 15) hx hb hts inX10 hown hK hP 0 rfl rfl 12 (by decide) (hts _ mw_213) (fun _ h9 => h9) rfl dX10_queue_6 ?_
    have hPc := hP.sub (ws' := [((a 12), .inr (3, (keO a)))]) [1] rfl
    have hKc := hK.sub (tys' := []) [] rfl
    have hDc := hD.sub (ws' := [((a 12), .inr (3, (keO a)))]) [1] (by decide) rfl
    have hFc := va_free (wc := [((a 12), .inr (3, (keO a)))]) hD hS hA [1] rfl
    refine va_callv (va_runV (As := []) (rest := []) ⟨hx, hb, hml, hown, hts⟩ (k_empty l dC dI s.heap.size x a cy ) (⟨callB_of 0 hts (gd mw_800) rfl rfl rfl (hts _ mw_5) (hts _ mw_797) ds_X3_empty ⟨Nat.le_of_ble_eq_true rfl, Nat.le_of_ble_eq_true rfl⟩, (hts _ mw_798), (hts _ mw_799)⟩) (pr_V hPc hKc hDc hE (va_recv hKc hPc (ci := 3) (q0 := 0) rfl rfl)) rfl rfl hl.1 rfl (lv_room (Nat.le_of_ble_eq_true rfl)) dX10_queue_9 ⟨Nat.le_of_ble_eq_true rfl, Nat.le_of_ble_eq_true rfl⟩) hS (fun q _ h => hFc q h) hFc (fun u_ t_ H1 locs ht hvm hw_ hB hz1 hk1 hS => ?_)
    have hP1 : va_P (dC, dI) vwCl [] H1 := fun k q h => by simp at h
    have hD1 : va_D (va_A [((a 12), .inr (3, (keO a)))] s.heap.size) [] := ⟨fun i j p q h => by simp at h, fun k q h => by simp at h⟩
    obtain ⟨hP, hD⟩ := va_join (wr := [(x, .inr (10, (kO a)))]) (w1 := []) hP hD [1] [0] rfl rfl (by decide) (by decide) hk1 hFc hP1 hD1
    generalize H1 = H at hP hS ⊢
    have hP : va_P (dC, dI) vwCl [(x, .inr (10, (kO a)))] H := hP
    have hD : va_D A [(x, .inr (10, (kO a)))] := hD
    refine lv_iconst (v := 0) hx hb dX10_queue_12 (by decide) ?_
    refine W.widen (k := 0) (n := 0) (Nat.le_of_ble_eq_true rfl) (Nat.le_of_ble_eq_true rfl) ?_
    exact W.iret (v := 0) hx hb hr (fun t ht hW => ⟨⟨0, (), rfl, (by first | rfl | (simp [sp_queue, c_1]; done)), trivial⟩, hS.F ht⟩) hS.2.2 dX10_queue_13

set_option maxHeartbeats 4000000 in
set_option maxRecDepth 100000 in
theorem k_findOrder (l : Launch) (dC : Nat → ClassId) (dI : Nat → Nat → Nat) (sz : Nat) (x : Nat) (a : Nat → Nat) (cy : Nat → ClassId) (v1 : Int32) (hv1 : v1 = 0 ∨ v1 = 1) : Met l yX3_findOrder (Cond.code yX3_findOrder cX3_findOrder 3 none :: gT) ({ frames := 1, cells := 0, slots := 0, locals := 60 }) (va_Pc [.ref (a 12), .int v1] (pr (dC, dI) sz [((a 12), .inr (3, (keO a)))] [])) (va_Qv (fun _ : Unit => True) (fun _ t => va_P (dC, dI) vwCl [((a 12), .inr (3, ((((keO a).set 5 (.int 0)).set 6 (.int 1)).set 7 (.int v1))))] t.heap ∧ va_K (dC, dI) vwCl [] t ∧ va_D (va_A [((a 12), .inr (3, (keO a)))] sz) [((a 12), .inr (3, ((((keO a).set 5 (.int 0)).set 6 (.int 1)).set 7 (.int v1))))]) (va_A [((a 12), .inr (3, (keO a)))] sz)) 0 0 (va_A [((a 12), .inr (3, (keO a)))] sz) := by
  refine Met.ofW (cc := cX3_findOrder) (maxL := 3) (ret := none) (by decide) rfl ?_
  intro p e s m args below meth c s₁ B hml hv
  obtain ⟨rfl, hsz, hP, hK, hD0, hE⟩ := hv
  have hx := B.exec
  have hb := B.bytes
  have hr := B.returns
  have hts : ∀ w ∈ gT, w.before _ s = true := fun w h => atoms_spec (ws := Cond.code yX3_findOrder cX3_findOrder 3 none :: gT) B.pre w (List.mem_cons_of_mem _ h)
  have hown : s.vm.findClass RX3 = some m.cls := findClass_of_methodNamed B.named
  have hlocks := B.notSynchronized
  subst hsz
  have hD := hD0.self (sz := s.heap.size)
  generalize hAe : va_A [((a 12), .inr (3, (keO a)))] s.heap.size = A at hD ⊢
  have hA : ∀ q : Nat, s.heap.size ≤ q → A q := fun q h => by rw [← hAe]; exact Or.inr h
  have hS : va_S A s.heap s.heap [] := va_S.rf
  have hl := lv_entry ([.ref (a 12), .int v1]) (n := 3) (Nat.le_of_ble_eq_true rfl)
  rw [lg_entry_eq]
  generalize (lg_sl ([.ref (a 12), .int v1]) ++ List.replicate (3 - (lg_sl ([.ref (a 12), .int v1])).length) Slot.unset).toArray = ls at hl ⊢
  have hl : lv_has ls 3 [(0, .ref (a 12)), (1, .int v1)] := hl
  refine lv_aload_n hx hb dX3_findOrder_0 rfl (lv_at hl 0 rfl) ?_
  refine va_get (D := (dC, dI)) (ci := 3) (v := .int 0) (C := RX3) (T := TX3) (N := 13) hx hb hts inX3 hown hK hP 0 rfl rfl 6 (by decide) (hts _ mw_113) (fun _ h9 => h9) rfl dX3_findOrder_1 ?_
  refine lv_if_eq (tgt := 16) hx hb dX3_findOrder_4 (by decide) (fun c_ => ?_) (fun c_ => absurd c_ (by decide))
  refine lv_aload_n hx hb dX3_findOrder_16 rfl (lv_at hl 0 rfl) ?_
  refine lv_iconst (v := 0) hx hb dX3_findOrder_17 (by decide) ?_
  refine va_put (D := (dC, dI)) (ci := 3) (v := .int 0) (ty := .int) (C := RX3) (T := TX3) (N := 13) hx hb hts inX3 tyX3 tyX3_ok nmX3 hown hK hP hD hS 0 rfl rfl 5 (by decide) (hts _ mw_111) (fun _ h9 => h9) rfl (by decide +kernel) rfl rfl (Nat.le_of_ble_eq_true rfl) dX3_findOrder_18 (fun H locs hP hD hS => ?_)
  have hP : va_P (dC, dI) vwCl [((a 12), .inr (3, ((keO a).set 5 (.int 0))))] H := hP
  have hD : va_D A [((a 12), .inr (3, ((keO a).set 5 (.int 0))))] := hD
  refine lv_aload_n hx hb dX3_findOrder_21 rfl (lv_at hl 0 rfl) ?_
  refine va_get (D := (dC, dI)) (ci := 3) (v := .int 0) (C := RX3) (T := TX3) (N := 13) hx hb hts inX3 hown hK hP 0 rfl rfl 3 (by decide) (hts _ mw_107) (fun _ h9 => h9) rfl dX3_findOrder_22 ?_
  refine lv_if_le (tgt := 47) hx hb dX3_findOrder_25 (by decide) (fun c_ => ?_) (fun c_ => absurd c_ (by decide))
  refine lv_aload_n hx hb dX3_findOrder_47 rfl (lv_at hl 0 rfl) ?_
  refine lv_iconst (v := 1) hx hb dX3_findOrder_48 (by decide) ?_
  refine va_put (D := (dC, dI)) (ci := 3) (v := .int 1) (ty := .boolean) (C := RX3) (T := TX3) (N := 13) hx hb hts inX3 tyX3 tyX3_ok nmX3 hown hK hP hD hS 0 rfl rfl 6 (by decide) (hts _ mw_113) (fun _ h9 => h9) rfl (by decide +kernel) rfl rfl (Nat.le_of_ble_eq_true rfl) dX3_findOrder_49 (fun H locs hP hD hS => ?_)
  have hP : va_P (dC, dI) vwCl [((a 12), .inr (3, (((keO a).set 5 (.int 0)).set 6 (.int 1))))] H := hP
  have hD : va_D A [((a 12), .inr (3, (((keO a).set 5 (.int 0)).set 6 (.int 1))))] := hD
  refine lv_aload_n hx hb dX3_findOrder_52 rfl (lv_at hl 0 rfl) ?_
  refine lv_iload_n hx hb dX3_findOrder_53 rfl (lv_at hl 1 rfl) ?_
  refine va_put (D := (dC, dI)) (ci := 3) (v := .int v1) (ty := .boolean) (C := RX3) (T := TX3) (N := 13) hx hb hts inX3 tyX3 tyX3_ok nmX3 hown hK hP hD hS 0 rfl rfl 7 (by decide) (hts _ mw_114) (fun _ h9 => h9) rfl (by decide +kernel) (zb_n hv1) (zb_f hv1) (Nat.le_of_ble_eq_true rfl) dX3_findOrder_54 (fun H locs hP hD hS => ?_)
  have hP : va_P (dC, dI) vwCl [((a 12), .inr (3, ((((keO a).set 5 (.int 0)).set 6 (.int 1)).set 7 (.int v1))))] H := hP
  have hD : va_D A [((a 12), .inr (3, ((((keO a).set 5 (.int 0)).set 6 (.int 1)).set 7 (.int v1))))] := hD
  refine W.widen (k := 0) (n := 0) (Nat.le_of_ble_eq_true rfl) (Nat.le_of_ble_eq_true rfl) ?_
  have hP9 := hP.sub (ws' := [((a 12), .inr (3, ((((keO a).set 5 (.int 0)).set 6 (.int 1)).set 7 (.int v1))))]) [0] rfl
  have hD9 := hD.sub (ws' := [((a 12), .inr (3, ((((keO a).set 5 (.int 0)).set 6 (.int 1)).set 7 (.int v1))))]) [0] (by decide) rfl
  have hK9 := hK.sub (tys' := []) [] rfl
  exact W.vret hx hb hr (fun t ht hW => ⟨⟨(), rfl, trivial, by rw [ht]; exact hP9, va_K.moved hW.alike hK9, hD9⟩, hS.F ht⟩) hS.2.2 dX3_findOrder_57

set_option maxHeartbeats 4000000 in
set_option maxRecDepth 100000 in
theorem k_order (l : Launch) (dC : Nat → ClassId) (dI : Nat → Nat → Nat) (sz : Nat) (x : Nat) (a : Nat → Nat) (cy : Nat → ClassId) (v1 v2 : Int32) (hv1 : v1 = 0 ∨ v1 = 1) : Met l yX10_order (Cond.code yX10_order cX10_order 3 (some .int) :: gT) ({ frames := 2, cells := 0, slots := 0, locals := 82 }) (va_Pc [.ref x, .int v1, .int v2] (pr (dC, dI) sz [(x, .inr (10, (kO a))), ((a 12), .inr (3, (keO a)))] [])) (va_Qi (fun (r : Int32) (_ : Unit) => r = sp_queue v2) (fun _ _ => True) (va_A [(x, .inr (10, (kO a))), ((a 12), .inr (3, (keO a)))] sz)) 0 0 (va_A [(x, .inr (10, (kO a))), ((a 12), .inr (3, (keO a)))] sz) := by
  refine Met.ofW (cc := cX10_order) (maxL := 3) (ret := (some .int)) (by decide) rfl ?_
  intro p e s m args below meth c s₁ B hml hv
  obtain ⟨rfl, hsz, hP, hK, hD0, hE⟩ := hv
  have hx := B.exec
  have hb := B.bytes
  have hr := B.returns
  have hts : ∀ w ∈ gT, w.before _ s = true := fun w h => atoms_spec (ws := Cond.code yX10_order cX10_order 3 (some .int) :: gT) B.pre w (List.mem_cons_of_mem _ h)
  have hown : s.vm.findClass RX10 = some m.cls := findClass_of_methodNamed B.named
  have hlocks := B.notSynchronized
  subst hsz
  have hD := hD0.self (sz := s.heap.size)
  generalize hAe : va_A [(x, .inr (10, (kO a))), ((a 12), .inr (3, (keO a)))] s.heap.size = A at hD ⊢
  have hA : ∀ q : Nat, s.heap.size ≤ q → A q := fun q h => by rw [← hAe]; exact Or.inr h
  have hS : va_S A s.heap s.heap [] := va_S.rf
  have hl := lv_entry ([.ref x, .int v1, .int v2]) (n := 3) (Nat.le_of_ble_eq_true rfl)
  rw [lg_entry_eq]
  generalize (lg_sl ([.ref x, .int v1, .int v2]) ++ List.replicate (3 - (lg_sl ([.ref x, .int v1, .int v2])).length) Slot.unset).toArray = ls at hl ⊢
  have hl : lv_has ls 3 [(0, .ref x), (1, .int v1), (2, .int v2)] := hl
  refine lv_aload_n hx hb dX10_order_0 rfl (lv_at hl 0 rfl) ?_
  refine va_get (D := (dC, dI)) (ci := 10) (v := .ref (a 12)) (C := RX10) (T := TX10) (N := 15) hx hb hts inX10 hown hK hP 0 rfl rfl 12 (by decide) (hts _ mw_213) (fun _ h9 => h9) rfl dX10_order_1 ?_
  refine lv_iload_n hx hb dX10_order_4 rfl (lv_at hl 1 rfl) ?_
  have hPc := hP.sub (ws' := [((a 12), .inr (3, (keO a)))]) [1] rfl
  have hKc := hK.sub (tys' := []) [] rfl
  have hDc := hD.sub (ws' := [((a 12), .inr (3, (keO a)))]) [1] (by decide) rfl
  have hFc := va_free (wc := [((a 12), .inr (3, (keO a)))]) hD hS hA [1] rfl
  refine va_callv (va_runV (As := [.int v1]) (rest := []) ⟨hx, hb, hml, hown, hts⟩ (k_findOrder l dC dI s.heap.size x a cy v1 hv1) (⟨callB_of 1 hts (gd mw_812) rfl rfl rfl (hts _ mw_5) (hts _ mw_809) ds_X3_findOrder ⟨Nat.le_of_ble_eq_true rfl, Nat.le_of_ble_eq_true rfl⟩, (hts _ mw_810), (hts _ mw_811)⟩) (pr_V hPc hKc hDc hE (va_recv hKc hPc (ci := 3) (q0 := 0) rfl rfl)) rfl rfl hl.1 rfl (lv_room (Nat.le_of_ble_eq_true rfl)) dX10_order_5 ⟨Nat.le_of_ble_eq_true rfl, Nat.le_of_ble_eq_true rfl⟩) hS (fun q _ h => hFc q h) hFc (fun u_ t_ H1 locs ht hvm hw_ hB hz1 hk1 hS => ?_)
  obtain ⟨hP1, hK1, hD1⟩ := hB
  rw [ht] at hP1
  have hK1 := va_K.moved hvm.symm hK1
  obtain ⟨hP, hD⟩ := va_join (wr := [(x, .inr (10, (kO a)))]) (w1 := [((a 12), .inr (3, ((((keO a).set 5 (.int 0)).set 6 (.int 1)).set 7 (.int v1))))]) hP hD [1] [0] rfl rfl (by decide) (by decide) hk1 hFc hP1 hD1
  generalize H1 = H at hP hS ⊢
  have hP : va_P (dC, dI) vwCl [(x, .inr (10, (kO a))), ((a 12), .inr (3, ((((keO a).set 5 (.int 0)).set 6 (.int 1)).set 7 (.int v1))))] H := hP
  have hD : va_D A [(x, .inr (10, (kO a))), ((a 12), .inr (3, ((((keO a).set 5 (.int 0)).set 6 (.int 1)).set 7 (.int v1))))] := hD
  refine lv_iload_n hx hb dX10_order_8 rfl (lv_at hl 2 rfl) ?_
  refine lv_iconst (v := (-1)) hx hb dX10_order_9 (by decide) ?_
  refine lv_icmp_ne (tgt := 21) hx hb dX10_order_10 (by decide) (fun c_2 => ?_) (fun c_2 => ?_)
  · refine lv_iload_n hx hb dX10_order_21 rfl (lv_at hl 2 rfl) ?_
    refine lv_iconst (v := 0) hx hb dX10_order_22 (by decide) ?_
    refine lv_aload_n hx hb dX10_order_23 rfl (lv_at hl 0 rfl) ?_
    refine va_get (D := (dC, dI)) (ci := 10) (v := .ref (a 12)) (C := RX10) (T := TX10) (N := 15) hx hb hts inX10 hown hK hP 0 rfl rfl 12 (by decide) (hts _ mw_213) (fun _ h9 => h9) rfl dX10_order_24 ?_
    refine va_get (D := (dC, dI)) (ci := 3) (v := .int 0) (C := RX3) (T := TX3) (N := 13) hx hb hts inX3 hown hK hP 1 rfl rfl 3 (by decide) (hts _ mw_108) (fun _ h9 => h9) rfl dX10_order_27 ?_
    refine lv_iconst (v := 1) hx hb dX10_order_30 (by decide) ?_
    refine lv_isub hx hb dX10_order_31 ?_
    refine lv_topi (fun y_ e_ => ?_)
    obtain rfl : y_ = (-1) := e_.trans (by decide)
    have hPc := hP.sub (ws' := []) [] rfl
    have hKc := hK.sub (tys' := []) [] rfl
    refine pc_i (va_runS (As := [.int v2, .int 0, .int (-1)]) (rest := []) ⟨hx, hb, hml, hown, hts⟩ (c_within l dC dI v2 0 (-1)) (⟨callB_of 3 hts (gd mw_254) rfl rfl rfl (hts _ mw_1) (hts _ mw_252) ds_X10_within ⟨Nat.le_of_ble_eq_true rfl, Nat.le_of_ble_eq_true rfl⟩, (hts _ mw_253)⟩) (pu_S hPc hKc hE) rfl rfl hl.1 rfl (lv_room (Nat.le_of_ble_eq_true rfl)) dX10_order_32 ⟨Nat.le_of_ble_eq_true rfl, Nat.le_of_ble_eq_true rfl⟩) (fun r_ hw_ => ?_)
    obtain rfl : r_ = 0 := hw_.trans (wi_e _)
    refine lv_if_eq (tgt := 50) hx hb dX10_order_35 (by decide) (fun c_ => ?_) (fun c_ => absurd c_ (by decide))
    refine lv_iconst (v := (-1)) hx hb dX10_order_50 (by decide) ?_
    refine W.widen (k := 0) (n := 0) (Nat.le_of_ble_eq_true rfl) (Nat.le_of_ble_eq_true rfl) ?_
    exact W.iret (v := (-1)) hx hb hr (fun t ht hW => ⟨⟨(-1), (), rfl, (by first | rfl | (simp [sp_queue, c_2]; done)), trivial⟩, hS.F ht⟩) hS.2.2 dX10_order_51
  · refine lv_aload_n hx hb dX10_order_13 rfl (lv_at hl 0 rfl) ?_
    refine va_get (D := (dC, dI)) (ci := 10) (v := .ref (a 12)) (C := RX10) (T := TX10) (N := 15) hx hb hts inX10 hown hK hP 0 rfl rfl 12 (by decide) (hts _ mw_213) (fun _ h9 => h9) rfl dX10_order_14 ?_
    refine va_get (D := (dC, dI)) (ci := 3) (v := .int 0) (C := RX3) (T := TX3) (N := 13) hx hb hts inX3 hown hK hP 1 rfl rfl 5 (by decide) (hts _ mw_112) (fun _ h9 => h9) rfl dX10_order_17 ?_
    refine W.widen (k := 0) (n := 0) (Nat.le_of_ble_eq_true rfl) (Nat.le_of_ble_eq_true rfl) ?_
    exact W.iret (v := 0) hx hb hr (fun t ht hW => ⟨⟨0, (), rfl, (by first | rfl | (simp [sp_queue, c_2]; done)), trivial⟩, hS.F ht⟩) hS.2.2 dX10_order_20

set_option maxHeartbeats 4000000 in
set_option maxRecDepth 100000 in
theorem k_countFit (l : Launch) (dC : Nat → ClassId) (dI : Nat → Nat → Nat) (x : Nat) (a : Nat → Nat) (cy : Nat → ClassId) : Met l yX10_countFit (Cond.code yX10_countFit cX10_countFit 4 (some .int) :: gT) ({ frames := 3, cells := 0, slots := 0, locals := 103 }) (va_Pc [.ref x] (pu (dC, dI) [(x, .inr (10, (kO a))), ((a 8), .inl ((cy 8), 144, .inl (fun _ => (-1))))] [((cy 8), .int)])) (vp_Si (fun r => r = 0)) 0 0 (fun _ => False) := by
  refine Met.ofW (cc := cX10_countFit) (maxL := 4) (ret := (some .int)) (by decide) rfl ?_
  intro p e s m args below meth c s₁ B hml hv
  obtain ⟨rfl, hP, hK, hE⟩ := hv
  have hx := B.exec
  have hb := B.bytes
  have hr := B.returns
  have hts : ∀ w ∈ gT, w.before _ s = true := fun w h => atoms_spec (ws := Cond.code yX10_countFit cX10_countFit 4 (some .int) :: gT) B.pre w (List.mem_cons_of_mem _ h)
  have hown : s.vm.findClass RX10 = some m.cls := findClass_of_methodNamed B.named
  have hlocks := B.notSynchronized
  have hl := lv_entry ([.ref x]) (n := 4) (Nat.le_of_ble_eq_true rfl)
  rw [lg_entry_eq]
  generalize (lg_sl ([.ref x]) ++ List.replicate (4 - (lg_sl ([.ref x])).length) Slot.unset).toArray = ls at hl ⊢
  have hl : lv_has ls 4 [(0, .ref x)] := hl
  refine lv_iconst (v := 0) hx hb dX10_countFit_0 (by decide) ?_
  refine lv_istore_n (lv' := [(1, .int 0), (0, .ref x)]) hx hb dX10_countFit_1 rfl hl (by decide) rfl (fun ls hl => ?_)
  refine lv_iconst (v := 0) hx hb dX10_countFit_2 (by decide) ?_
  refine lv_istore_n (lv' := [(2, .int 0), (1, .int 0), (0, .ref x)]) hx hb dX10_countFit_3 rfl hl (by decide) rfl (fun ls hl => ?_)
  refine wl_loop (fun (i : Nat) H locs ls => i ≤ 144 ∧ H = s.heap ∧ locs = [] ∧ lv_has ls 4 [(0, .ref x), (1, .int 0), (2, .int (nI i))]) (fun i => 144 - i) (fun i H locs ls hI ih => ?_) 0 ⟨Nat.zero_le _, rfl, rfl, lv_sub hl [2, 1, 0] rfl⟩
  obtain ⟨hi, rfl, rfl, hl⟩ := hI
  refine lv_iload_n hx hb dX10_countFit_4 rfl (lv_at hl 2 rfl) ?_
  refine lv_aload_n hx hb dX10_countFit_5 rfl (lv_at hl 0 rfl) ?_
  refine va_get (D := (dC, dI)) (ci := 10) (v := .ref (a 8)) (C := RX10) (T := TX10) (N := 15) hx hb hts inX10 hown hK hP 0 rfl rfl 8 (by decide) (hts _ mw_209) (fun _ h9 => h9) rfl dX10_countFit_6 ?_
  refine va_alen (v := 144) hx hb hK hP 1 0 rfl rfl (by decide) dX10_countFit_9 ?_
  refine lv_icmp_ge (tgt := 44) hx hb dX10_countFit_10 (by decide) (fun c_1 => ?_) (fun c_1 => ?_)
  · have hie := nI_end (x := 144) (N := 144) (by decide) (by decide) hi c_1
    refine lv_iload_n hx hb dX10_countFit_44 rfl (lv_at hl 1 rfl) ?_
    exact W.iret (v := 0) hx hb hr (fun t ht hW => ⟨0, rfl, (by first | rfl | (simp [c_1]; done)), ht⟩) (fun q h => absurd h List.not_mem_nil) dX10_countFit_45
  · have hlt := nI_on (x := 144) (N := 144) (by decide) (by decide) hi c_1
    refine lv_aload_n hx hb dX10_countFit_13 rfl (lv_at hl 0 rfl) ?_
    refine lv_aload_n hx hb dX10_countFit_14 rfl (lv_at hl 0 rfl) ?_
    refine va_get (D := (dC, dI)) (ci := 10) (v := .ref (a 8)) (C := RX10) (T := TX10) (N := 15) hx hb hts inX10 hown hK hP 0 rfl rfl 8 (by decide) (hts _ mw_209) (fun _ h9 => h9) rfl dX10_countFit_15 ?_
    refine lv_iload_n hx hb dX10_countFit_18 rfl (lv_at hl 2 rfl) ?_
    refine va_iald hx hb hK hP 1 0 rfl rfl (vp_in_nI hlt (by decide)) dX10_countFit_19 ?_
    refine lv_topi (fun y_ e_ => ?_)
    obtain rfl : y_ = (-1) := e_
    have hPc := hP.sub (ws' := [(x, .inr (10, (kO a)))]) [0] rfl
    have hKc := hK.sub (tys' := []) [] rfl
    refine pc_q (va_runV (As := [.int (-1)]) (rest := []) ⟨hx, hb, hml, hown, hts⟩ (k_findPiece l dC dI x a cy (-1)) (⟨callB_of 1 hts (gd mw_596) rfl rfl rfl (hts _ mw_1) (hts _ mw_593) ds_X10_findPiece ⟨Nat.le_of_ble_eq_true rfl, Nat.le_of_ble_eq_true rfl⟩, (hts _ mw_595), (hts _ mp_10)⟩) (pu_V hPc hKc hE (va_recv hKc hPc (ci := 10) (q0 := 0) rfl rfl)) rfl rfl hl.1 rfl (lv_room (Nat.le_of_ble_eq_true rfl)) dX10_countFit_20 ⟨Nat.le_of_ble_eq_true rfl, Nat.le_of_ble_eq_true rfl⟩) (fun r_ hw_ => ?_)
    obtain rfl : r_ = none := hw_
    refine W.eq (g2 := F0 m 23 ls [.null]) rfl ?_
    refine lv_astore_nN (lv' := [(3, .null), (0, .ref x), (1, .int 0), (2, .int (nI i))]) hx hb dX10_countFit_23 rfl hl (by decide) rfl (fun ls hl => ?_)
    refine lv_aload_nN hx hb dX10_countFit_24 rfl (lv_at hl 0 rfl) ?_
    refine lv_ifnullN (tgt := 38) hx hb dX10_countFit_25 (by decide) ?_
    refine lv_iinc (v := (nI (i + 1))) (lv' := [(2, .int (nI (i + 1))), (3, .null), (0, .ref x), (1, .int 0)]) hx hb dX10_countFit_38 hl (k := 3) rfl (by exact nI_1 _) (by decide) rfl (fun ls hl => ?_)
    refine lv_goto (tgt := 4) hx hb dX10_countFit_41 (by decide) ?_
    exact ih (i + 1) _ _ _ (by omega) ⟨hlt, rfl, rfl, lv_sub hl [2, 3, 0] rfl⟩

set_option maxHeartbeats 4000000 in
set_option maxRecDepth 100000 in
theorem k_about (l : Launch) (dC : Nat → ClassId) (dI : Nat → Nat → Nat) (x : Nat) (a : Nat → Nat) (cy : Nat → ClassId) (v1 : Int32) : Met l yX10_about (Cond.code yX10_about cX10_about 2 (some .int) :: gT) ({ frames := 4, cells := 0, slots := 0, locals := 126 }) (va_Pc [.ref x, .int v1] (pu (dC, dI) [(x, .inr (10, (kO a))), ((a 8), .inl ((cy 8), 144, .inl (fun _ => (-1)))), ((a 10), .inr (8, (rO a))), ((a 12), .inr (3, (keO a)))] [((cy 8), .int)])) (vp_Si (fun r => r = sp_about v1)) 0 0 (fun _ => False) := by
  refine Met.ofW (cc := cX10_about) (maxL := 2) (ret := (some .int)) (by decide) rfl ?_
  intro p e s m args below meth c s₁ B hml hv
  obtain ⟨rfl, hP, hK, hE⟩ := hv
  have hx := B.exec
  have hb := B.bytes
  have hr := B.returns
  have hts : ∀ w ∈ gT, w.before _ s = true := fun w h => atoms_spec (ws := Cond.code yX10_about cX10_about 2 (some .int) :: gT) B.pre w (List.mem_cons_of_mem _ h)
  have hown : s.vm.findClass RX10 = some m.cls := findClass_of_methodNamed B.named
  have hlocks := B.notSynchronized
  have hl := lv_entry ([.ref x, .int v1]) (n := 2) (Nat.le_of_ble_eq_true rfl)
  rw [lg_entry_eq]
  generalize (lg_sl ([.ref x, .int v1]) ++ List.replicate (2 - (lg_sl ([.ref x, .int v1])).length) Slot.unset).toArray = ls at hl ⊢
  have hl : lv_has ls 2 [(0, .ref x), (1, .int v1)] := hl
  refine lv_iload_n hx hb dX10_about_0 rfl (lv_at hl 1 rfl) ?_
  by_cases c_1 : v1 = 0
  · refine lv_topi (fun y_ e_ => ?_)
    obtain rfl : y_ = 0 := e_.trans c_1
    refine lv_tableIn (tgt := 44) hx hb dX10_about_1 (by decide) (by decide) rfl (by decide) ?_
    refine lv_aload_n hx hb dX10_about_44 rfl (lv_at hl 0 rfl) ?_
    refine va_get (D := (dC, dI)) (ci := 10) (v := .int 0) (C := RX10) (T := TX10) (N := 15) hx hb hts inX10 hown hK hP 0 rfl rfl 1 (by decide) (hts _ mw_202) (fun _ h9 => h9) rfl dX10_about_45 ?_
    exact W.iret (v := 0) hx hb hr (fun t ht hW => ⟨0, rfl, (by first | rfl | (simp [sp_about, c_1]; done)), ht⟩) (fun q h => absurd h List.not_mem_nil) dX10_about_48
  by_cases c_2 : v1 = 1
  · refine lv_topi (fun y_ e_ => ?_)
    obtain rfl : y_ = 1 := e_.trans c_2
    refine lv_tableIn (tgt := 49) hx hb dX10_about_1 (by decide) (by decide) rfl (by decide) ?_
    refine lv_aload_n hx hb dX10_about_49 rfl (lv_at hl 0 rfl) ?_
    refine va_get (D := (dC, dI)) (ci := 10) (v := .int 0) (C := RX10) (T := TX10) (N := 15) hx hb hts inX10 hown hK hP 0 rfl rfl 3 (by decide) (hts _ mw_204) (fun _ h9 => h9) rfl dX10_about_50 ?_
    exact W.iret (v := 0) hx hb hr (fun t ht hW => ⟨0, rfl, (by first | rfl | (simp [sp_about, c_1, c_2]; done)), ht⟩) (fun q h => absurd h List.not_mem_nil) dX10_about_53
  by_cases c_3 : v1 = 2
  · refine lv_topi (fun y_ e_ => ?_)
    obtain rfl : y_ = 2 := e_.trans c_3
    refine lv_tableIn (tgt := 54) hx hb dX10_about_1 (by decide) (by decide) rfl (by decide) ?_
    refine lv_aload_n hx hb dX10_about_54 rfl (lv_at hl 0 rfl) ?_
    refine va_get (D := (dC, dI)) (ci := 10) (v := .int 0) (C := RX10) (T := TX10) (N := 15) hx hb hts inX10 hown hK hP 0 rfl rfl 5 (by decide) (hts _ mw_206) (fun _ h9 => h9) rfl dX10_about_55 ?_
    exact W.iret (v := 0) hx hb hr (fun t ht hW => ⟨0, rfl, (by first | rfl | (simp [sp_about, c_1, c_2, c_3]; done)), ht⟩) (fun q h => absurd h List.not_mem_nil) dX10_about_58
  by_cases c_4 : v1 = 3
  · refine lv_topi (fun y_ e_ => ?_)
    obtain rfl : y_ = 3 := e_.trans c_4
    refine lv_tableIn (tgt := 59) hx hb dX10_about_1 (by decide) (by decide) rfl (by decide) ?_
    refine lv_aload_n hx hb dX10_about_59 rfl (lv_at hl 0 rfl) ?_
    refine va_get (D := (dC, dI)) (ci := 10) (v := .int 0) (C := RX10) (T := TX10) (N := 15) hx hb hts inX10 hown hK hP 0 rfl rfl 7 (by decide) (hts _ mw_208) (fun _ h9 => h9) rfl dX10_about_60 ?_
    exact W.iret (v := 0) hx hb hr (fun t ht hW => ⟨0, rfl, (by first | rfl | (simp [sp_about, c_1, c_2, c_3, c_4]; done)), ht⟩) (fun q h => absurd h List.not_mem_nil) dX10_about_63
  by_cases c_5 : v1 = 4
  · refine lv_topi (fun y_ e_ => ?_)
    obtain rfl : y_ = 4 := e_.trans c_5
    refine lv_tableIn (tgt := 64) hx hb dX10_about_1 (by decide) (by decide) rfl (by decide) ?_
    refine lv_aload_n hx hb dX10_about_64 rfl (lv_at hl 0 rfl) ?_
    refine va_get (D := (dC, dI)) (ci := 10) (v := .ref (a 10)) (C := RX10) (T := TX10) (N := 15) hx hb hts inX10 hown hK hP 0 rfl rfl 10 (by decide) (hts _ mw_211) (fun _ h9 => h9) rfl dX10_about_65 ?_
    refine va_get (D := (dC, dI)) (ci := 8) (v := .int 0) (C := RX8) (T := TX8) (N := 7) hx hb hts inX8 hown hK hP 2 rfl rfl 2 (by decide) (hts _ mw_46) (fun _ h9 => h9) rfl dX10_about_68 ?_
    exact W.iret (v := 0) hx hb hr (fun t ht hW => ⟨0, rfl, (by first | rfl | (simp [sp_about, c_1, c_2, c_3, c_4, c_5]; done)), ht⟩) (fun q h => absurd h List.not_mem_nil) dX10_about_71
  by_cases c_6 : v1 = 5
  · refine lv_topi (fun y_ e_ => ?_)
    obtain rfl : y_ = 5 := e_.trans c_6
    refine lv_tableIn (tgt := 72) hx hb dX10_about_1 (by decide) (by decide) rfl (by decide) ?_
    refine lv_aload_n hx hb dX10_about_72 rfl (lv_at hl 0 rfl) ?_
    refine va_get (D := (dC, dI)) (ci := 10) (v := .ref (a 12)) (C := RX10) (T := TX10) (N := 15) hx hb hts inX10 hown hK hP 0 rfl rfl 12 (by decide) (hts _ mw_213) (fun _ h9 => h9) rfl dX10_about_73 ?_
    refine va_get (D := (dC, dI)) (ci := 3) (v := .int 0) (C := RX3) (T := TX3) (N := 13) hx hb hts inX3 hown hK hP 3 rfl rfl 3 (by decide) (hts _ mw_108) (fun _ h9 => h9) rfl dX10_about_76 ?_
    exact W.iret (v := 0) hx hb hr (fun t ht hW => ⟨0, rfl, (by first | rfl | (simp [sp_about, c_1, c_2, c_3, c_4, c_5, c_6]; done)), ht⟩) (fun q h => absurd h List.not_mem_nil) dX10_about_79
  by_cases c_7 : v1 = 6
  · refine lv_topi (fun y_ e_ => ?_)
    obtain rfl : y_ = 6 := e_.trans c_7
    refine lv_tableIn (tgt := 80) hx hb dX10_about_1 (by decide) (by decide) rfl (by decide) ?_
    refine lv_aload_n hx hb dX10_about_80 rfl (lv_at hl 0 rfl) ?_
    have hPc := hP.sub (ws' := [(x, .inr (10, (kO a))), ((a 8), .inl ((cy 8), 144, .inl (fun _ => (-1))))]) [0, 1] rfl
    have hKc := hK.sub (tys' := [((cy 8), .int)]) [0] rfl
    refine pc_i (va_runV (As := []) (rest := []) ⟨hx, hb, hml, hown, hts⟩ (k_countFit l dC dI x a cy ) (⟨callB_of 0 hts (gd mw_868) rfl rfl rfl (hts _ mw_1) (hts _ mw_865) ds_X10_countFit ⟨Nat.le_of_ble_eq_true rfl, Nat.le_of_ble_eq_true rfl⟩, (hts _ mw_867), (hts _ mp_38)⟩) (pu_V hPc hKc hE (va_recv hKc hPc (ci := 10) (q0 := 0) rfl rfl)) rfl rfl hl.1 rfl (lv_room (Nat.le_of_ble_eq_true rfl)) dX10_about_81 ⟨Nat.le_of_ble_eq_true rfl, Nat.le_of_ble_eq_true rfl⟩) (fun r_ hw_ => ?_)
    obtain rfl : r_ = 0 := hw_
    exact W.iret (v := 0) hx hb hr (fun t ht hW => ⟨0, rfl, (by first | rfl | (simp [sp_about, c_1, c_2, c_3, c_4, c_5, c_6, c_7]; done)), ht⟩) (fun q h => absurd h List.not_mem_nil) dX10_about_84
  refine lv_tableOut (tgt := 85) hx hb dX10_about_1 (by have n0 := lv_neT c_1 (show (0 : Int32).toInt = 0 by decide); have n1 := lv_neT c_2 (show (1 : Int32).toInt = 1 by decide); have n2 := lv_neT c_3 (show (2 : Int32).toInt = 2 by decide); have n3 := lv_neT c_4 (show (3 : Int32).toInt = 3 by decide); have n4 := lv_neT c_5 (show (4 : Int32).toInt = 4 by decide); have n5 := lv_neT c_6 (show (5 : Int32).toInt = 5 by decide); have n6 := lv_neT c_7 (show (6 : Int32).toInt = 6 by decide); omega) (by decide) ?_
  refine lv_iconst (v := (-1)) hx hb dX10_about_85 (by decide) ?_
  exact W.iret (v := (-1)) hx hb hr (fun t ht hW => ⟨(-1), rfl, (by first | rfl | (simp [sp_about, c_1, c_2, c_3, c_4, c_5, c_6, c_7]; done)), ht⟩) (fun q h => absurd h List.not_mem_nil) dX10_about_86
