set_option maxHeartbeats 4000000 in
set_option maxRecDepth 100000 in
theorem k_addLoss (l : Launch) (dC : Nat → ClassId) (dI : Nat → Nat → Nat) (sz : Nat) (x : Nat) (a : Nat → Nat) (cy : Nat → ClassId) (v1 v2 : Int32) : Met l yX8_addLoss (Cond.code yX8_addLoss cX8_addLoss 4 (some .int) :: gT) ({ frames := 2, cells := 0, slots := 0, locals := 82 }) (va_Pc [.ref (a 10), .int v1, .int v2] (pr (dC, dI) sz [((a 10), .inr (8, (rO a))), ((a 20), .inl ((cy 20), 16, .inl (fun _ => 0))), ((a 21), .inl ((cy 21), 16, .inl (fun _ => 0)))] [((cy 20), .int), ((cy 21), .int)])) (va_Qi (fun (r : Int32) (_ : Unit) => r = sp_table v2) (fun _ _ => True) (va_A [((a 10), .inr (8, (rO a))), ((a 20), .inl ((cy 20), 16, .inl (fun _ => 0))), ((a 21), .inl ((cy 21), 16, .inl (fun _ => 0)))] sz)) 0 0 (va_A [((a 10), .inr (8, (rO a))), ((a 20), .inl ((cy 20), 16, .inl (fun _ => 0))), ((a 21), .inl ((cy 21), 16, .inl (fun _ => 0)))] sz) := by
  refine Met.ofW (cc := cX8_addLoss) (maxL := 4) (ret := (some .int)) (by decide) rfl ?_
  intro p e s m args below meth c s₁ B hml hv
  obtain ⟨rfl, hsz, hP, hK, hD0, hE⟩ := hv
  have hx := B.exec
  have hb := B.bytes
  have hr := B.returns
  have hts : ∀ w ∈ gT, w.before _ s = true := fun w h => atoms_spec (ws := Cond.code yX8_addLoss cX8_addLoss 4 (some .int) :: gT) B.pre w (List.mem_cons_of_mem _ h)
  have hown : s.vm.findClass RX8 = some m.cls := findClass_of_methodNamed B.named
  have hlocks := B.notSynchronized
  subst hsz
  have hD := hD0.self (sz := s.heap.size)
  generalize hAe : va_A [((a 10), .inr (8, (rO a))), ((a 20), .inl ((cy 20), 16, .inl (fun _ => 0))), ((a 21), .inl ((cy 21), 16, .inl (fun _ => 0)))] s.heap.size = A at hD ⊢
  have hA : ∀ q : Nat, s.heap.size ≤ q → A q := fun q h => by rw [← hAe]; exact Or.inr h
  have hS : va_S A s.heap s.heap [] := va_S.rf
  have hl := lv_entry ([.ref (a 10), .int v1, .int v2]) (n := 4) (Nat.le_of_ble_eq_true rfl)
  rw [lg_entry_eq]
  generalize (lg_sl ([.ref (a 10), .int v1, .int v2]) ++ List.replicate (4 - (lg_sl ([.ref (a 10), .int v1, .int v2])).length) Slot.unset).toArray = ls at hl ⊢
  have hl : lv_has ls 4 [(0, .ref (a 10)), (1, .int v1), (2, .int v2)] := hl
  refine lv_aload_n hx hb dX8_addLoss_0 rfl (lv_at hl 0 rfl) ?_
  refine va_get (D := (dC, dI)) (ci := 8) (v := .int 0) (C := RX8) (T := TX8) (N := 7) hx hb hts inX8 hown hK hP 0 rfl rfl 2 (by decide) (hts _ mw_45) (fun _ h9 => h9) rfl dX8_addLoss_1 ?_
  refine lv_if_eq (tgt := 22) hx hb dX8_addLoss_4 (by decide) (fun c_ => ?_) (fun c_ => absurd c_ (by decide))
  refine lv_iconst (v := 1) hx hb dX8_addLoss_22 (by decide) ?_
  refine lv_goto (tgt := 27) hx hb dX8_addLoss_23 (by decide) ?_
  refine lv_istore_n (lv' := [(3, .int 1), (0, .ref (a 10)), (1, .int v1), (2, .int v2)]) hx hb dX8_addLoss_27 rfl hl (by decide) rfl (fun ls hl => ?_)
  refine lv_aload_n hx hb dX8_addLoss_28 rfl (lv_at hl 1 rfl) ?_
  refine va_get (D := (dC, dI)) (ci := 8) (v := .int 0) (C := RX8) (T := TX8) (N := 7) hx hb hts inX8 hown hK hP 0 rfl rfl 2 (by decide) (hts _ mw_45) (fun _ h9 => h9) rfl dX8_addLoss_29 ?_
  refine lv_bipush (v := 16) hx hb dX8_addLoss_32 (by decide) ?_
  refine lv_icmp_ge (tgt := 52) hx hb dX8_addLoss_34 (by decide) (fun c_ => absurd c_ (by decide)) (fun c_ => ?_)
  refine lv_iload_n hx hb dX8_addLoss_37 rfl (lv_at hl 0 rfl) ?_
  refine lv_if_eq (tgt := 52) hx hb dX8_addLoss_38 (by decide) (fun c_ => absurd c_ (by decide)) (fun c_ => ?_)
  refine lv_iload_n hx hb dX8_addLoss_41 rfl (lv_at hl 3 rfl) ?_
  refine lv_iconst (v := 0) hx hb dX8_addLoss_42 (by decide) ?_
  refine lv_sipush (v := 900) hx hb dX8_addLoss_43 (by decide) ?_
  have hPc := hP.sub (ws' := []) [] rfl
  have hKc := hK.sub (tys' := []) [] rfl
  refine pc_i (va_runSN (As := [.int v2, .int 0, .int 900]) (rest := []) ⟨hx, hb, hml, hown, hts⟩ (c_within l dC dI v2 0 900) (⟨va_cnB 3 hts (gd mw_254) rfl rfl rfl hE.2.2.2.2.2.2.2 (hts _ mw_1) ds_X10_within ⟨Nat.le_of_ble_eq_true rfl, Nat.le_of_ble_eq_true rfl⟩, (hts _ mw_253), trivial⟩) (pu_S hPc hKc hE) rfl rfl hl.1 rfl (lv_room (Nat.le_of_ble_eq_true rfl)) dX8_addLoss_46 ⟨Nat.le_of_ble_eq_true rfl, Nat.le_of_ble_eq_true rfl⟩) (fun r_ hw_ => ?_)
  obtain rfl : r_ = (wi v2 0 900) := hw_
  refine lv_if_ne (tgt := 54) hx hb dX8_addLoss_49 (by decide) (fun c_2 => ?_) (fun c_2 => ?_)
  · refine lv_aload_n hx hb dX8_addLoss_54 rfl (lv_at hl 1 rfl) ?_
    refine va_get (D := (dC, dI)) (ci := 8) (v := .ref (a 20)) (C := RX8) (T := TX8) (N := 7) hx hb hts inX8 hown hK hP 0 rfl rfl 0 (by decide) (hts _ mw_43) (fun _ h9 => h9) rfl dX8_addLoss_55 ?_
    refine lv_aload_n hx hb dX8_addLoss_58 rfl (lv_at hl 1 rfl) ?_
    refine va_get (D := (dC, dI)) (ci := 8) (v := .int 0) (C := RX8) (T := TX8) (N := 7) hx hb hts inX8 hown hK hP 0 rfl rfl 2 (by decide) (hts _ mw_45) (fun _ h9 => h9) rfl dX8_addLoss_59 ?_
    refine lv_iload_n hx hb dX8_addLoss_62 rfl (lv_at hl 2 rfl) ?_
    refine va_iast hx hb hK hP hD hS 1 0 rfl rfl (by unfold vp_in; decide) dX8_addLoss_63 (fun H locs hP hD hS => ?_)
    have hP : va_P (dC, dI) vwCl [((a 10), .inr (8, (rO a))), ((a 20), .inl ((cy 20), 16, .inl (upd (fun _ => 0) (0 : Int32).toNatClampNeg v1))), ((a 21), .inl ((cy 21), 16, .inl (fun _ => 0)))] H := hP
    have hD : va_D A [((a 10), .inr (8, (rO a))), ((a 20), .inl ((cy 20), 16, .inl (upd (fun _ => 0) (0 : Int32).toNatClampNeg v1))), ((a 21), .inl ((cy 21), 16, .inl (fun _ => 0)))] := hD
    refine lv_aload_n hx hb dX8_addLoss_64 rfl (lv_at hl 1 rfl) ?_
    refine va_get (D := (dC, dI)) (ci := 8) (v := .ref (a 21)) (C := RX8) (T := TX8) (N := 7) hx hb hts inX8 hown hK hP 0 rfl rfl 1 (by decide) (hts _ mw_44) (fun _ h9 => h9) rfl dX8_addLoss_65 ?_
    refine lv_aload_n hx hb dX8_addLoss_68 rfl (lv_at hl 1 rfl) ?_
    refine va_get (D := (dC, dI)) (ci := 8) (v := .int 0) (C := RX8) (T := TX8) (N := 7) hx hb hts inX8 hown hK hP 0 rfl rfl 2 (by decide) (hts _ mw_45) (fun _ h9 => h9) rfl dX8_addLoss_69 ?_
    refine lv_iload_n hx hb dX8_addLoss_72 rfl (lv_at hl 3 rfl) ?_
    refine va_iast hx hb hK hP hD hS 2 1 rfl rfl (by unfold vp_in; decide) dX8_addLoss_73 (fun H locs hP hD hS => ?_)
    have hP : va_P (dC, dI) vwCl [((a 10), .inr (8, (rO a))), ((a 20), .inl ((cy 20), 16, .inl (upd (fun _ => 0) (0 : Int32).toNatClampNeg v1))), ((a 21), .inl ((cy 21), 16, .inl (upd (fun _ => 0) (0 : Int32).toNatClampNeg v2)))] H := hP
    have hD : va_D A [((a 10), .inr (8, (rO a))), ((a 20), .inl ((cy 20), 16, .inl (upd (fun _ => 0) (0 : Int32).toNatClampNeg v1))), ((a 21), .inl ((cy 21), 16, .inl (upd (fun _ => 0) (0 : Int32).toNatClampNeg v2)))] := hD
    refine lv_aload_n hx hb dX8_addLoss_74 rfl (lv_at hl 1 rfl) ?_
    refine lv_dup hx hb dX8_addLoss_75 rfl ?_
    refine va_get (D := (dC, dI)) (ci := 8) (v := .int 0) (C := RX8) (T := TX8) (N := 7) hx hb hts inX8 hown hK hP 0 rfl rfl 2 (by decide) (hts _ mw_45) (fun _ h9 => h9) rfl dX8_addLoss_76 ?_
    refine lv_iconst (v := 1) hx hb dX8_addLoss_79 (by decide) ?_
    refine lv_iadd hx hb dX8_addLoss_80 ?_
    refine lv_topi (fun y_ e_ => ?_)
    obtain rfl : y_ = 1 := e_.trans (by decide)
    refine va_put (D := (dC, dI)) (ci := 8) (v := .int 1) (ty := .int) (C := RX8) (T := TX8) (N := 7) hx hb hts inX8 tyX8 tyX8_ok nmX8 hown hK hP hD hS 0 rfl rfl 2 (by decide) (hts _ mw_45) (fun _ h9 => h9) rfl (by decide +kernel) rfl rfl (Nat.le_of_ble_eq_true rfl) dX8_addLoss_81 (fun H locs hP hD hS => ?_)
    have hP : va_P (dC, dI) vwCl [((a 10), .inr (8, ((rO a).set 2 (.int 1)))), ((a 20), .inl ((cy 20), 16, .inl (upd (fun _ => 0) (0 : Int32).toNatClampNeg v1))), ((a 21), .inl ((cy 21), 16, .inl (upd (fun _ => 0) (0 : Int32).toNatClampNeg v2)))] H := hP
    have hD : va_D A [((a 10), .inr (8, ((rO a).set 2 (.int 1)))), ((a 20), .inl ((cy 20), 16, .inl (upd (fun _ => 0) (0 : Int32).toNatClampNeg v1))), ((a 21), .inl ((cy 21), 16, .inl (upd (fun _ => 0) (0 : Int32).toNatClampNeg v2)))] := hD
    refine lv_aload_n hx hb dX8_addLoss_84 rfl (lv_at hl 1 rfl) ?_
    refine va_get (D := (dC, dI)) (ci := 8) (v := .int 1) (C := RX8) (T := TX8) (N := 7) hx hb hts inX8 hown hK hP 0 rfl rfl 2 (by decide) (hts _ mw_45) (fun _ h9 => h9) rfl dX8_addLoss_85 ?_
    refine W.widen (k := 0) (n := 0) (Nat.le_of_ble_eq_true rfl) (Nat.le_of_ble_eq_true rfl) ?_
    exact W.iret (v := 1) hx hb hr (fun t ht hW => ⟨⟨1, (), rfl, (by first | rfl | (simp [sp_table, c_2]; done)), trivial⟩, hS.F ht⟩) hS.2.2 dX8_addLoss_88
  · refine lv_iconst (v := (-1)) hx hb dX8_addLoss_52 (by decide) ?_
    refine W.widen (k := 0) (n := 0) (Nat.le_of_ble_eq_true rfl) (Nat.le_of_ble_eq_true rfl) ?_
    exact W.iret (v := (-1)) hx hb hr (fun t ht hW => ⟨⟨(-1), (), rfl, (by first | rfl | (simp [sp_table, c_2]; done)), trivial⟩, hS.F ht⟩) hS.2.2 dX8_addLoss_53

set_option maxHeartbeats 4000000 in
set_option maxRecDepth 100000 in
theorem k_table (l : Launch) (dC : Nat → ClassId) (dI : Nat → Nat → Nat) (sz : Nat) (x : Nat) (a : Nat → Nat) (cy : Nat → ClassId) (v1 v2 : Int32) : Met l yX10_table (Cond.code yX10_table cX10_table 3 (some .int) :: gT) ({ frames := 3, cells := 0, slots := 0, locals := 105 }) (va_Pc [.ref x, .int v1, .int v2] (pr (dC, dI) sz [(x, .inr (10, (kO a))), ((a 10), .inr (8, (rO a))), ((a 20), .inl ((cy 20), 16, .inl (fun _ => 0))), ((a 21), .inl ((cy 21), 16, .inl (fun _ => 0)))] [((cy 20), .int), ((cy 21), .int)])) (va_Qi (fun (r : Int32) (_ : Unit) => r = sp_table v2) (fun _ _ => True) (va_A [(x, .inr (10, (kO a))), ((a 10), .inr (8, (rO a))), ((a 20), .inl ((cy 20), 16, .inl (fun _ => 0))), ((a 21), .inl ((cy 21), 16, .inl (fun _ => 0)))] sz)) 0 0 (va_A [(x, .inr (10, (kO a))), ((a 10), .inr (8, (rO a))), ((a 20), .inl ((cy 20), 16, .inl (fun _ => 0))), ((a 21), .inl ((cy 21), 16, .inl (fun _ => 0)))] sz) := by
  refine Met.ofW (cc := cX10_table) (maxL := 3) (ret := (some .int)) (by decide) rfl ?_
  intro p e s m args below meth c s₁ B hml hv
  obtain ⟨rfl, hsz, hP, hK, hD0, hE⟩ := hv
  have hx := B.exec
  have hb := B.bytes
  have hr := B.returns
  have hts : ∀ w ∈ gT, w.before _ s = true := fun w h => atoms_spec (ws := Cond.code yX10_table cX10_table 3 (some .int) :: gT) B.pre w (List.mem_cons_of_mem _ h)
  have hown : s.vm.findClass RX10 = some m.cls := findClass_of_methodNamed B.named
  have hlocks := B.notSynchronized
  subst hsz
  have hD := hD0.self (sz := s.heap.size)
  generalize hAe : va_A [(x, .inr (10, (kO a))), ((a 10), .inr (8, (rO a))), ((a 20), .inl ((cy 20), 16, .inl (fun _ => 0))), ((a 21), .inl ((cy 21), 16, .inl (fun _ => 0)))] s.heap.size = A at hD ⊢
  have hA : ∀ q : Nat, s.heap.size ≤ q → A q := fun q h => by rw [← hAe]; exact Or.inr h
  have hS : va_S A s.heap s.heap [] := va_S.rf
  have hl := lv_entry ([.ref x, .int v1, .int v2]) (n := 3) (Nat.le_of_ble_eq_true rfl)
  rw [lg_entry_eq]
  generalize (lg_sl ([.ref x, .int v1, .int v2]) ++ List.replicate (3 - (lg_sl ([.ref x, .int v1, .int v2])).length) Slot.unset).toArray = ls at hl ⊢
  have hl : lv_has ls 3 [(0, .ref x), (1, .int v1), (2, .int v2)] := hl
  refine lv_aload_n hx hb dX10_table_0 rfl (lv_at hl 0 rfl) ?_
  refine va_get (D := (dC, dI)) (ci := 10) (v := .ref (a 10)) (C := RX10) (T := TX10) (N := 15) hx hb hts inX10 hown hK hP 0 rfl rfl 10 (by decide) (hts _ mw_211) (fun _ h9 => h9) rfl dX10_table_1 ?_
  refine lv_iload_n hx hb dX10_table_4 rfl (lv_at hl 1 rfl) ?_
  refine lv_iload_n hx hb dX10_table_5 rfl (lv_at hl 2 rfl) ?_
  have hPc := hP.sub (ws' := [((a 10), .inr (8, (rO a))), ((a 20), .inl ((cy 20), 16, .inl (fun _ => 0))), ((a 21), .inl ((cy 21), 16, .inl (fun _ => 0)))]) [1, 2, 3] rfl
  have hKc := hK.sub (tys' := [((cy 20), .int), ((cy 21), .int)]) [0, 1] rfl
  have hDc := hD.sub (ws' := [((a 10), .inr (8, (rO a))), ((a 20), .inl ((cy 20), 16, .inl (fun _ => 0))), ((a 21), .inl ((cy 21), 16, .inl (fun _ => 0)))]) [1, 2, 3] (by decide) rfl
  have hFc := va_free (wc := [((a 10), .inr (8, (rO a))), ((a 20), .inl ((cy 20), 16, .inl (fun _ => 0))), ((a 21), .inl ((cy 21), 16, .inl (fun _ => 0)))]) hD hS hA [1, 2, 3] rfl
  refine va_calli (va_runV (As := [.int v1, .int v2]) (rest := []) ⟨hx, hb, hml, hown, hts⟩ (k_addLoss l dC dI s.heap.size x a cy v1 v2) (⟨callB_of 2 hts (gd mw_423) rfl rfl rfl (hts _ mw_2) (hts _ mw_420) ds_X8_addLoss ⟨Nat.le_of_ble_eq_true rfl, Nat.le_of_ble_eq_true rfl⟩, (hts _ mw_421), (hts _ mw_422)⟩) (pr_V hPc hKc hDc hE (va_recv hKc hPc (ci := 8) (q0 := 0) rfl rfl)) rfl rfl hl.1 rfl (lv_room (Nat.le_of_ble_eq_true rfl)) dX10_table_6 ⟨Nat.le_of_ble_eq_true rfl, Nat.le_of_ble_eq_true rfl⟩) hS (fun q _ h => hFc q h) hFc (fun r_ u_ t_ H1 locs ht hvm hw_ hB hz1 hk1 hS => ?_)
  obtain rfl : r_ = (sp_table v2) := hw_
  have hP1 : va_P (dC, dI) vwCl [] H1 := fun k q h => by simp at h
  have hD1 : va_D (va_A [((a 10), .inr (8, (rO a))), ((a 20), .inl ((cy 20), 16, .inl (fun _ => 0))), ((a 21), .inl ((cy 21), 16, .inl (fun _ => 0)))] s.heap.size) [] := ⟨fun i j p q h => by simp at h, fun k q h => by simp at h⟩
  obtain ⟨hP, hD⟩ := va_join (wr := [(x, .inr (10, (kO a)))]) (w1 := []) hP hD [1, 2, 3] [0] rfl rfl (by decide) (by decide) hk1 hFc hP1 hD1
  generalize H1 = H at hP hS ⊢
  have hP : va_P (dC, dI) vwCl [(x, .inr (10, (kO a)))] H := hP
  have hD : va_D A [(x, .inr (10, (kO a)))] := hD
  refine W.widen (k := 0) (n := 0) (Nat.le_of_ble_eq_true rfl) (Nat.le_of_ble_eq_true rfl) ?_
  exact W.iret (v := (sp_table v2)) hx hb hr (fun t ht hW => ⟨⟨(sp_table v2), (), rfl, (by first | rfl | (simp [sp_table]; done)), trivial⟩, hS.F ht⟩) hS.2.2 dX10_table_9

set_option maxHeartbeats 4000000 in
set_option maxRecDepth 100000 in
theorem k_grain (l : Launch) (dC : Nat → ClassId) (dI : Nat → Nat → Nat) (sz : Nat) (x : Nat) (a : Nat → Nat) (cy : Nat → ClassId) (v1 v2 : Int32) : Met l yX10_grain (Cond.code yX10_grain cX10_grain 3 (some .boolean) :: gT) ({ frames := 1, cells := 0, slots := 0, locals := 60 }) (va_Pc [.ref x, .int v1, .int v2] (pr (dC, dI) sz [(x, .inr (10, (kO a))), ((a 10), .inr (8, (rO a)))] [])) (va_Qi (fun (r : Int32) (_ : Unit) => r = 1) (fun _ _ => True) (va_A [(x, .inr (10, (kO a))), ((a 10), .inr (8, (rO a)))] sz)) 0 0 (va_A [(x, .inr (10, (kO a))), ((a 10), .inr (8, (rO a)))] sz) := by
  refine Met.ofW (cc := cX10_grain) (maxL := 3) (ret := (some .boolean)) (by decide) rfl ?_
  intro p e s m args below meth c s₁ B hml hv
  obtain ⟨rfl, hsz, hP, hK, hD0, hE⟩ := hv
  have hx := B.exec
  have hb := B.bytes
  have hr := B.returns
  have hts : ∀ w ∈ gT, w.before _ s = true := fun w h => atoms_spec (ws := Cond.code yX10_grain cX10_grain 3 (some .boolean) :: gT) B.pre w (List.mem_cons_of_mem _ h)
  have hown : s.vm.findClass RX10 = some m.cls := findClass_of_methodNamed B.named
  have hlocks := B.notSynchronized
  subst hsz
  have hD := hD0.self (sz := s.heap.size)
  generalize hAe : va_A [(x, .inr (10, (kO a))), ((a 10), .inr (8, (rO a)))] s.heap.size = A at hD ⊢
  have hA : ∀ q : Nat, s.heap.size ≤ q → A q := fun q h => by rw [← hAe]; exact Or.inr h
  have hS : va_S A s.heap s.heap [] := va_S.rf
  have hl := lv_entry ([.ref x, .int v1, .int v2]) (n := 3) (Nat.le_of_ble_eq_true rfl)
  rw [lg_entry_eq]
  generalize (lg_sl ([.ref x, .int v1, .int v2]) ++ List.replicate (3 - (lg_sl ([.ref x, .int v1, .int v2])).length) Slot.unset).toArray = ls at hl ⊢
  have hl : lv_has ls 3 [(0, .ref x), (1, .int v1), (2, .int v2)] := hl
  refine lv_aload_n hx hb dX10_grain_0 rfl (lv_at hl 0 rfl) ?_
  refine va_get (D := (dC, dI)) (ci := 10) (v := .ref (a 10)) (C := RX10) (T := TX10) (N := 15) hx hb hts inX10 hown hK hP 0 rfl rfl 10 (by decide) (hts _ mw_211) (fun _ h9 => h9) rfl dX10_grain_1 ?_
  refine lv_iload_n hx hb dX10_grain_4 rfl (lv_at hl 1 rfl) ?_
  refine va_put (D := (dC, dI)) (ci := 8) (v := .int v1) (ty := .int) (C := RX8) (T := TX8) (N := 7) hx hb hts inX8 tyX8 tyX8_ok nmX8 hown hK hP hD hS 1 rfl rfl 3 (by decide) (hts _ mw_48) (fun _ h9 => h9) rfl (by decide +kernel) rfl rfl (Nat.le_of_ble_eq_true rfl) dX10_grain_5 (fun H locs hP hD hS => ?_)
  have hP : va_P (dC, dI) vwCl [(x, .inr (10, (kO a))), ((a 10), .inr (8, ((rO a).set 3 (.int v1))))] H := hP
  have hD : va_D A [(x, .inr (10, (kO a))), ((a 10), .inr (8, ((rO a).set 3 (.int v1))))] := hD
  refine lv_aload_n hx hb dX10_grain_8 rfl (lv_at hl 0 rfl) ?_
  refine va_get (D := (dC, dI)) (ci := 10) (v := .ref (a 10)) (C := RX10) (T := TX10) (N := 15) hx hb hts inX10 hown hK hP 0 rfl rfl 10 (by decide) (hts _ mw_211) (fun _ h9 => h9) rfl dX10_grain_9 ?_
  refine lv_iload_n hx hb dX10_grain_12 rfl (lv_at hl 2 rfl) ?_
  refine va_put (D := (dC, dI)) (ci := 8) (v := .int v2) (ty := .int) (C := RX8) (T := TX8) (N := 7) hx hb hts inX8 tyX8 tyX8_ok nmX8 hown hK hP hD hS 1 rfl rfl 4 (by decide) (hts _ mw_50) (fun _ h9 => h9) rfl (by decide +kernel) rfl rfl (Nat.le_of_ble_eq_true rfl) dX10_grain_13 (fun H locs hP hD hS => ?_)
  have hP : va_P (dC, dI) vwCl [(x, .inr (10, (kO a))), ((a 10), .inr (8, (((rO a).set 3 (.int v1)).set 4 (.int v2))))] H := hP
  have hD : va_D A [(x, .inr (10, (kO a))), ((a 10), .inr (8, (((rO a).set 3 (.int v1)).set 4 (.int v2))))] := hD
  refine lv_iconst (v := 1) hx hb dX10_grain_16 (by decide) ?_
  refine W.widen (k := 0) (n := 0) (Nat.le_of_ble_eq_true rfl) (Nat.le_of_ble_eq_true rfl) ?_
  exact W.zret (v := 1) (ty := .boolean) hx hb hr rfl (fun t ht hW => ⟨⟨1, (), rfl, (by first | rfl | (simp []; done)), trivial⟩, hS.F ht⟩) hS.2.2 dX10_grain_17

set_option maxHeartbeats 4000000 in
set_option maxRecDepth 100000 in
theorem k_bounds (l : Launch) (dC : Nat → ClassId) (dI : Nat → Nat → Nat) (sz : Nat) (x : Nat) (a : Nat → Nat) (cy : Nat → ClassId) (v1 v2 v3 : Int32) : Met l yX10_bounds (Cond.code yX10_bounds cX10_bounds 4 (some .boolean) :: gT) ({ frames := 3, cells := 0, slots := 0, locals := 102 }) (va_Pc [.ref x, .int v1, .int v2, .int v3] (pr (dC, dI) sz [(x, .inr (10, (kO a))), ((a 10), .inr (8, (rO a))), ((a 25), .inl ((cy 25), 6, .inl (fun _ => 0))), ((a 26), .inl ((cy 26), 6, .inl (fun _ => 900)))] [((cy 25), .int), ((cy 26), .int)])) (va_Qi (fun (r : Int32) (_ : Unit) => r = sp_bounds v1) (fun _ _ => True) (va_A [(x, .inr (10, (kO a))), ((a 10), .inr (8, (rO a))), ((a 25), .inl ((cy 25), 6, .inl (fun _ => 0))), ((a 26), .inl ((cy 26), 6, .inl (fun _ => 900)))] sz)) 0 0 (va_A [(x, .inr (10, (kO a))), ((a 10), .inr (8, (rO a))), ((a 25), .inl ((cy 25), 6, .inl (fun _ => 0))), ((a 26), .inl ((cy 26), 6, .inl (fun _ => 900)))] sz) := by
  refine Met.ofW (cc := cX10_bounds) (maxL := 4) (ret := (some .boolean)) (by decide) rfl ?_
  intro p e s m args below meth c s₁ B hml hv
  obtain ⟨rfl, hsz, hP, hK, hD0, hE⟩ := hv
  have hx := B.exec
  have hb := B.bytes
  have hr := B.returns
  have hts : ∀ w ∈ gT, w.before _ s = true := fun w h => atoms_spec (ws := Cond.code yX10_bounds cX10_bounds 4 (some .boolean) :: gT) B.pre w (List.mem_cons_of_mem _ h)
  have hown : s.vm.findClass RX10 = some m.cls := findClass_of_methodNamed B.named
  have hlocks := B.notSynchronized
  subst hsz
  have hD := hD0.self (sz := s.heap.size)
  generalize hAe : va_A [(x, .inr (10, (kO a))), ((a 10), .inr (8, (rO a))), ((a 25), .inl ((cy 25), 6, .inl (fun _ => 0))), ((a 26), .inl ((cy 26), 6, .inl (fun _ => 900)))] s.heap.size = A at hD ⊢
  have hA : ∀ q : Nat, s.heap.size ≤ q → A q := fun q h => by rw [← hAe]; exact Or.inr h
  have hS : va_S A s.heap s.heap [] := va_S.rf
  have hl := lv_entry ([.ref x, .int v1, .int v2, .int v3]) (n := 4) (Nat.le_of_ble_eq_true rfl)
  rw [lg_entry_eq]
  generalize (lg_sl ([.ref x, .int v1, .int v2, .int v3]) ++ List.replicate (4 - (lg_sl ([.ref x, .int v1, .int v2, .int v3])).length) Slot.unset).toArray = ls at hl ⊢
  have hl : lv_has ls 4 [(0, .ref x), (1, .int v1), (2, .int v2), (3, .int v3)] := hl
  refine lv_iload_n hx hb dX10_bounds_0 rfl (lv_at hl 1 rfl) ?_
  have hPc := hP.sub (ws' := []) [] rfl
  have hKc := hK.sub (tys' := []) [] rfl
  refine pc_i (va_runS (As := [.int v1]) (rest := []) ⟨hx, hb, hml, hown, hts⟩ (c_isKind l dC dI v1) (⟨callB_of 1 hts (gd mw_275) rfl rfl rfl (hts _ mw_1) (hts _ mw_273) ds_X10_isKind ⟨Nat.le_of_ble_eq_true rfl, Nat.le_of_ble_eq_true rfl⟩, (hts _ mw_274)⟩) (pu_S hPc hKc hE) rfl rfl hl.1 rfl (lv_room (Nat.le_of_ble_eq_true rfl)) dX10_bounds_1 ⟨Nat.le_of_ble_eq_true rfl, Nat.le_of_ble_eq_true rfl⟩) (fun r_ hw_ => ?_)
  obtain rfl : r_ = (wi v1 0 5) := hw_
  refine lv_if_ne (tgt := 9) hx hb dX10_bounds_4 (by decide) (fun c_2 => ?_) (fun c_2 => ?_)
  · refine lv_aload_n hx hb dX10_bounds_9 rfl (lv_at hl 0 rfl) ?_
    refine va_get (D := (dC, dI)) (ci := 10) (v := .ref (a 10)) (C := RX10) (T := TX10) (N := 15) hx hb hts inX10 hown hK hP 0 rfl rfl 10 (by decide) (hts _ mw_211) (fun _ h9 => h9) rfl dX10_bounds_10 ?_
    refine va_get (D := (dC, dI)) (ci := 8) (v := .ref (a 25)) (C := RX8) (T := TX8) (N := 7) hx hb hts inX8 hown hK hP 1 rfl rfl 5 (by decide) (hts _ mw_53) (fun _ h9 => h9) rfl dX10_bounds_13 ?_
    refine lv_iload_n hx hb dX10_bounds_16 rfl (lv_at hl 1 rfl) ?_
    refine lv_iload_n hx hb dX10_bounds_17 rfl (lv_at hl 2 rfl) ?_
    refine va_iast hx hb hK hP hD hS 2 0 rfl rfl (wi_vp c_2 (by decide)) dX10_bounds_18 (fun H locs hP hD hS => ?_)
    have hP : va_P (dC, dI) vwCl [(x, .inr (10, (kO a))), ((a 10), .inr (8, (rO a))), ((a 25), .inl ((cy 25), 6, .inl (upd (fun _ => 0) (v1 : Int32).toNatClampNeg v2))), ((a 26), .inl ((cy 26), 6, .inl (fun _ => 900)))] H := hP
    have hD : va_D A [(x, .inr (10, (kO a))), ((a 10), .inr (8, (rO a))), ((a 25), .inl ((cy 25), 6, .inl (upd (fun _ => 0) (v1 : Int32).toNatClampNeg v2))), ((a 26), .inl ((cy 26), 6, .inl (fun _ => 900)))] := hD
    refine lv_aload_n hx hb dX10_bounds_19 rfl (lv_at hl 0 rfl) ?_
    refine va_get (D := (dC, dI)) (ci := 10) (v := .ref (a 10)) (C := RX10) (T := TX10) (N := 15) hx hb hts inX10 hown hK hP 0 rfl rfl 10 (by decide) (hts _ mw_211) (fun _ h9 => h9) rfl dX10_bounds_20 ?_
    refine va_get (D := (dC, dI)) (ci := 8) (v := .ref (a 26)) (C := RX8) (T := TX8) (N := 7) hx hb hts inX8 hown hK hP 1 rfl rfl 6 (by decide) (hts _ mw_56) (fun _ h9 => h9) rfl dX10_bounds_23 ?_
    refine lv_iload_n hx hb dX10_bounds_26 rfl (lv_at hl 1 rfl) ?_
    refine lv_iload_n hx hb dX10_bounds_27 rfl (lv_at hl 3 rfl) ?_
    refine va_iast hx hb hK hP hD hS 3 1 rfl rfl (wi_vp c_2 (by decide)) dX10_bounds_28 (fun H locs hP hD hS => ?_)
    have hP : va_P (dC, dI) vwCl [(x, .inr (10, (kO a))), ((a 10), .inr (8, (rO a))), ((a 25), .inl ((cy 25), 6, .inl (upd (fun _ => 0) (v1 : Int32).toNatClampNeg v2))), ((a 26), .inl ((cy 26), 6, .inl (upd (fun _ => 900) (v1 : Int32).toNatClampNeg v3)))] H := hP
    have hD : va_D A [(x, .inr (10, (kO a))), ((a 10), .inr (8, (rO a))), ((a 25), .inl ((cy 25), 6, .inl (upd (fun _ => 0) (v1 : Int32).toNatClampNeg v2))), ((a 26), .inl ((cy 26), 6, .inl (upd (fun _ => 900) (v1 : Int32).toNatClampNeg v3)))] := hD
    refine lv_iconst (v := 1) hx hb dX10_bounds_29 (by decide) ?_
    refine W.widen (k := 0) (n := 0) (Nat.le_of_ble_eq_true rfl) (Nat.le_of_ble_eq_true rfl) ?_
    exact W.zret (v := 1) (ty := .boolean) hx hb hr rfl (fun t ht hW => ⟨⟨1, (), rfl, (by first | rfl | (simp [sp_bounds, c_2]; done)), trivial⟩, hS.F ht⟩) hS.2.2 dX10_bounds_30
  · refine lv_iconst (v := 0) hx hb dX10_bounds_7 (by decide) ?_
    refine W.widen (k := 0) (n := 0) (Nat.le_of_ble_eq_true rfl) (Nat.le_of_ble_eq_true rfl) ?_
    exact W.zret (v := 0) (ty := .boolean) hx hb hr rfl (fun t ht hW => ⟨⟨0, (), rfl, (by first | rfl | (simp [sp_bounds, c_2]; done)), trivial⟩, hS.F ht⟩) hS.2.2 dX10_bounds_8

set_option maxHeartbeats 4000000 in
set_option maxRecDepth 100000 in
theorem k_change (l : Launch) (dC : Nat → ClassId) (dI : Nat → Nat → Nat) (sz : Nat) (x : Nat) (a : Nat → Nat) (cy : Nat → ClassId) (v1 v2 v3 v4 v5 v6 : Int32) : Met l yX9_change (Cond.code yX9_change cX9_change 8 (some .boolean) :: gT) ({ frames := 1, cells := 0, slots := 0, locals := 60 }) (va_Pc [.ref (a 11), .int v1, .int v2, .int v3, .int v4, .int v5, .int v6] (pr (dC, dI) sz [((a 11), .inr (9, [.int 450, .int 270, .int 310, .int 320, .int 290, .int 2]))] [])) (va_Qi (fun (r : Int32) (_ : Unit) => r = sp_change v1 v2 v3 v4 v5 v6) (fun _ _ => True) (va_A [((a 11), .inr (9, [.int 450, .int 270, .int 310, .int 320, .int 290, .int 2]))] sz)) 0 0 (va_A [((a 11), .inr (9, [.int 450, .int 270, .int 310, .int 320, .int 290, .int 2]))] sz) := by
  refine Met.ofW (cc := cX9_change) (maxL := 8) (ret := (some .boolean)) (by decide) rfl ?_
  intro p e s m args below meth c s₁ B hml hv
  obtain ⟨rfl, hsz, hP, hK, hD0, hE⟩ := hv
  have hx := B.exec
  have hb := B.bytes
  have hr := B.returns
  have hts : ∀ w ∈ gT, w.before _ s = true := fun w h => atoms_spec (ws := Cond.code yX9_change cX9_change 8 (some .boolean) :: gT) B.pre w (List.mem_cons_of_mem _ h)
  have hown : s.vm.findClass RX9 = some m.cls := findClass_of_methodNamed B.named
  have hlocks := B.notSynchronized
  subst hsz
  have hD := hD0.self (sz := s.heap.size)
  generalize hAe : va_A [((a 11), .inr (9, [.int 450, .int 270, .int 310, .int 320, .int 290, .int 2]))] s.heap.size = A at hD ⊢
  have hA : ∀ q : Nat, s.heap.size ≤ q → A q := fun q h => by rw [← hAe]; exact Or.inr h
  have hS : va_S A s.heap s.heap [] := va_S.rf
  have hl := lv_entry ([.ref (a 11), .int v1, .int v2, .int v3, .int v4, .int v5, .int v6]) (n := 8) (Nat.le_of_ble_eq_true rfl)
  rw [lg_entry_eq]
  generalize (lg_sl ([.ref (a 11), .int v1, .int v2, .int v3, .int v4, .int v5, .int v6]) ++ List.replicate (8 - (lg_sl ([.ref (a 11), .int v1, .int v2, .int v3, .int v4, .int v5, .int v6])).length) Slot.unset).toArray = ls at hl ⊢
  have hl : lv_has ls 8 [(0, .ref (a 11)), (1, .int v1), (2, .int v2), (3, .int v3), (4, .int v4), (5, .int v5), (6, .int v6)] := hl
  refine lv_iload_n hx hb dX9_change_0 rfl (lv_at hl 1 rfl) ?_
  refine lv_aload_n hx hb dX9_change_1 rfl (lv_at hl 0 rfl) ?_
  refine va_get (D := (dC, dI)) (ci := 9) (v := .int 450) (C := RX9) (T := TX9) (N := 6) hx hb hts inX9 hown hK hP 0 rfl rfl 0 (by decide) (hts _ mw_79) (fun _ h9 => h9) rfl dX9_change_2 ?_
  refine lv_icmp_ne (tgt := 46) hx hb dX9_change_5 (by decide) (fun c_1 => ?_) (fun c_1 => ?_)
  · refine lv_iconst (v := 0) hx hb dX9_change_46 (by decide) ?_
    refine lv_istore (lv' := [(7, .int 0), (0, .ref (a 11)), (1, .int v1), (2, .int v2), (3, .int v3), (4, .int v4), (5, .int v5), (6, .int v6)]) hx hb dX9_change_47 hl (by decide) rfl (fun ls hl => ?_)
    refine lv_iload hx hb dX9_change_49 (lv_at hl 0 rfl) ?_
    refine lv_if_eq (tgt := 65) hx hb dX9_change_51 (by decide) (fun c_ => ?_) (fun c_ => absurd c_ (by decide))
    refine lv_aload_n hx hb dX9_change_65 rfl (lv_at hl 1 rfl) ?_
    refine lv_iload_n hx hb dX9_change_66 rfl (lv_at hl 2 rfl) ?_
    refine va_put (D := (dC, dI)) (ci := 9) (v := .int v1) (ty := .int) (C := RX9) (T := TX9) (N := 6) hx hb hts inX9 tyX9 tyX9_ok nmX9 hown hK hP hD hS 0 rfl rfl 0 (by decide) (hts _ mw_79) (fun _ h9 => h9) rfl (by decide +kernel) rfl rfl (Nat.le_of_ble_eq_true rfl) dX9_change_67 (fun H locs hP hD hS => ?_)
    have hP : va_P (dC, dI) vwCl [((a 11), .inr (9, [.int v1, .int 270, .int 310, .int 320, .int 290, .int 2]))] H := hP
    have hD : va_D A [((a 11), .inr (9, [.int v1, .int 270, .int 310, .int 320, .int 290, .int 2]))] := hD
    refine lv_aload_n hx hb dX9_change_70 rfl (lv_at hl 1 rfl) ?_
    refine lv_iload_n hx hb dX9_change_71 rfl (lv_at hl 3 rfl) ?_
    refine va_put (D := (dC, dI)) (ci := 9) (v := .int v2) (ty := .int) (C := RX9) (T := TX9) (N := 6) hx hb hts inX9 tyX9 tyX9_ok nmX9 hown hK hP hD hS 0 rfl rfl 1 (by decide) (hts _ mw_80) (fun _ h9 => h9) rfl (by decide +kernel) rfl rfl (Nat.le_of_ble_eq_true rfl) dX9_change_72 (fun H locs hP hD hS => ?_)
    have hP : va_P (dC, dI) vwCl [((a 11), .inr (9, [.int v1, .int v2, .int 310, .int 320, .int 290, .int 2]))] H := hP
    have hD : va_D A [((a 11), .inr (9, [.int v1, .int v2, .int 310, .int 320, .int 290, .int 2]))] := hD
    refine lv_aload_n hx hb dX9_change_75 rfl (lv_at hl 1 rfl) ?_
    refine lv_iload_n hx hb dX9_change_76 rfl (lv_at hl 4 rfl) ?_
    refine va_put (D := (dC, dI)) (ci := 9) (v := .int v3) (ty := .int) (C := RX9) (T := TX9) (N := 6) hx hb hts inX9 tyX9 tyX9_ok nmX9 hown hK hP hD hS 0 rfl rfl 2 (by decide) (hts _ mw_81) (fun _ h9 => h9) rfl (by decide +kernel) rfl rfl (Nat.le_of_ble_eq_true rfl) dX9_change_77 (fun H locs hP hD hS => ?_)
    have hP : va_P (dC, dI) vwCl [((a 11), .inr (9, [.int v1, .int v2, .int v3, .int 320, .int 290, .int 2]))] H := hP
    have hD : va_D A [((a 11), .inr (9, [.int v1, .int v2, .int v3, .int 320, .int 290, .int 2]))] := hD
    refine lv_aload_n hx hb dX9_change_80 rfl (lv_at hl 1 rfl) ?_
    refine lv_iload hx hb dX9_change_81 (lv_at hl 5 rfl) ?_
    refine va_put (D := (dC, dI)) (ci := 9) (v := .int v4) (ty := .int) (C := RX9) (T := TX9) (N := 6) hx hb hts inX9 tyX9 tyX9_ok nmX9 hown hK hP hD hS 0 rfl rfl 3 (by decide) (hts _ mw_82) (fun _ h9 => h9) rfl (by decide +kernel) rfl rfl (Nat.le_of_ble_eq_true rfl) dX9_change_83 (fun H locs hP hD hS => ?_)
    have hP : va_P (dC, dI) vwCl [((a 11), .inr (9, [.int v1, .int v2, .int v3, .int v4, .int 290, .int 2]))] H := hP
    have hD : va_D A [((a 11), .inr (9, [.int v1, .int v2, .int v3, .int v4, .int 290, .int 2]))] := hD
    refine lv_aload_n hx hb dX9_change_86 rfl (lv_at hl 1 rfl) ?_
    refine lv_iload hx hb dX9_change_87 (lv_at hl 6 rfl) ?_
    refine va_put (D := (dC, dI)) (ci := 9) (v := .int v5) (ty := .int) (C := RX9) (T := TX9) (N := 6) hx hb hts inX9 tyX9 tyX9_ok nmX9 hown hK hP hD hS 0 rfl rfl 4 (by decide) (hts _ mw_83) (fun _ h9 => h9) rfl (by decide +kernel) rfl rfl (Nat.le_of_ble_eq_true rfl) dX9_change_89 (fun H locs hP hD hS => ?_)
    have hP : va_P (dC, dI) vwCl [((a 11), .inr (9, [.int v1, .int v2, .int v3, .int v4, .int v5, .int 2]))] H := hP
    have hD : va_D A [((a 11), .inr (9, [.int v1, .int v2, .int v3, .int v4, .int v5, .int 2]))] := hD
    refine lv_aload_n hx hb dX9_change_92 rfl (lv_at hl 1 rfl) ?_
    refine lv_iload hx hb dX9_change_93 (lv_at hl 7 rfl) ?_
    refine va_put (D := (dC, dI)) (ci := 9) (v := .int v6) (ty := .int) (C := RX9) (T := TX9) (N := 6) hx hb hts inX9 tyX9 tyX9_ok nmX9 hown hK hP hD hS 0 rfl rfl 5 (by decide) (hts _ mw_84) (fun _ h9 => h9) rfl (by decide +kernel) rfl rfl (Nat.le_of_ble_eq_true rfl) dX9_change_95 (fun H locs hP hD hS => ?_)
    have hP : va_P (dC, dI) vwCl [((a 11), .inr (9, [.int v1, .int v2, .int v3, .int v4, .int v5, .int v6]))] H := hP
    have hD : va_D A [((a 11), .inr (9, [.int v1, .int v2, .int v3, .int v4, .int v5, .int v6]))] := hD
    refine lv_iconst (v := 1) hx hb dX9_change_98 (by decide) ?_
    refine W.widen (k := 0) (n := 0) (Nat.le_of_ble_eq_true rfl) (Nat.le_of_ble_eq_true rfl) ?_
    exact W.zret (v := 1) (ty := .boolean) hx hb hr rfl (fun t ht hW => ⟨⟨1, (), rfl, (by first | rfl | (simp [sp_change, c_1]; done)), trivial⟩, hS.F ht⟩) hS.2.2 dX9_change_99
  · refine lv_iload_n hx hb dX9_change_8 rfl (lv_at hl 2 rfl) ?_
    refine lv_aload_n hx hb dX9_change_9 rfl (lv_at hl 0 rfl) ?_
    refine va_get (D := (dC, dI)) (ci := 9) (v := .int 270) (C := RX9) (T := TX9) (N := 6) hx hb hts inX9 hown hK hP 0 rfl rfl 1 (by decide) (hts _ mw_80) (fun _ h9 => h9) rfl dX9_change_10 ?_
    refine lv_icmp_ne (tgt := 46) hx hb dX9_change_13 (by decide) (fun c_2 => ?_) (fun c_2 => ?_)
    · refine lv_iconst (v := 0) hx hb dX9_change_46 (by decide) ?_
      refine lv_istore (lv' := [(7, .int 0), (0, .ref (a 11)), (1, .int v1), (2, .int v2), (3, .int v3), (4, .int v4), (5, .int v5), (6, .int v6)]) hx hb dX9_change_47 hl (by decide) rfl (fun ls hl => ?_)
      refine lv_iload hx hb dX9_change_49 (lv_at hl 0 rfl) ?_
      refine lv_if_eq (tgt := 65) hx hb dX9_change_51 (by decide) (fun c_ => ?_) (fun c_ => absurd c_ (by decide))
      refine lv_aload_n hx hb dX9_change_65 rfl (lv_at hl 1 rfl) ?_
      refine lv_iload_n hx hb dX9_change_66 rfl (lv_at hl 2 rfl) ?_
      refine va_put (D := (dC, dI)) (ci := 9) (v := .int v1) (ty := .int) (C := RX9) (T := TX9) (N := 6) hx hb hts inX9 tyX9 tyX9_ok nmX9 hown hK hP hD hS 0 rfl rfl 0 (by decide) (hts _ mw_79) (fun _ h9 => h9) rfl (by decide +kernel) rfl rfl (Nat.le_of_ble_eq_true rfl) dX9_change_67 (fun H locs hP hD hS => ?_)
      have hP : va_P (dC, dI) vwCl [((a 11), .inr (9, [.int v1, .int 270, .int 310, .int 320, .int 290, .int 2]))] H := hP
      have hD : va_D A [((a 11), .inr (9, [.int v1, .int 270, .int 310, .int 320, .int 290, .int 2]))] := hD
      refine lv_aload_n hx hb dX9_change_70 rfl (lv_at hl 1 rfl) ?_
      refine lv_iload_n hx hb dX9_change_71 rfl (lv_at hl 3 rfl) ?_
      refine va_put (D := (dC, dI)) (ci := 9) (v := .int v2) (ty := .int) (C := RX9) (T := TX9) (N := 6) hx hb hts inX9 tyX9 tyX9_ok nmX9 hown hK hP hD hS 0 rfl rfl 1 (by decide) (hts _ mw_80) (fun _ h9 => h9) rfl (by decide +kernel) rfl rfl (Nat.le_of_ble_eq_true rfl) dX9_change_72 (fun H locs hP hD hS => ?_)
      have hP : va_P (dC, dI) vwCl [((a 11), .inr (9, [.int v1, .int v2, .int 310, .int 320, .int 290, .int 2]))] H := hP
      have hD : va_D A [((a 11), .inr (9, [.int v1, .int v2, .int 310, .int 320, .int 290, .int 2]))] := hD
      refine lv_aload_n hx hb dX9_change_75 rfl (lv_at hl 1 rfl) ?_
      refine lv_iload_n hx hb dX9_change_76 rfl (lv_at hl 4 rfl) ?_
      refine va_put (D := (dC, dI)) (ci := 9) (v := .int v3) (ty := .int) (C := RX9) (T := TX9) (N := 6) hx hb hts inX9 tyX9 tyX9_ok nmX9 hown hK hP hD hS 0 rfl rfl 2 (by decide) (hts _ mw_81) (fun _ h9 => h9) rfl (by decide +kernel) rfl rfl (Nat.le_of_ble_eq_true rfl) dX9_change_77 (fun H locs hP hD hS => ?_)
      have hP : va_P (dC, dI) vwCl [((a 11), .inr (9, [.int v1, .int v2, .int v3, .int 320, .int 290, .int 2]))] H := hP
      have hD : va_D A [((a 11), .inr (9, [.int v1, .int v2, .int v3, .int 320, .int 290, .int 2]))] := hD
      refine lv_aload_n hx hb dX9_change_80 rfl (lv_at hl 1 rfl) ?_
      refine lv_iload hx hb dX9_change_81 (lv_at hl 5 rfl) ?_
      refine va_put (D := (dC, dI)) (ci := 9) (v := .int v4) (ty := .int) (C := RX9) (T := TX9) (N := 6) hx hb hts inX9 tyX9 tyX9_ok nmX9 hown hK hP hD hS 0 rfl rfl 3 (by decide) (hts _ mw_82) (fun _ h9 => h9) rfl (by decide +kernel) rfl rfl (Nat.le_of_ble_eq_true rfl) dX9_change_83 (fun H locs hP hD hS => ?_)
      have hP : va_P (dC, dI) vwCl [((a 11), .inr (9, [.int v1, .int v2, .int v3, .int v4, .int 290, .int 2]))] H := hP
      have hD : va_D A [((a 11), .inr (9, [.int v1, .int v2, .int v3, .int v4, .int 290, .int 2]))] := hD
      refine lv_aload_n hx hb dX9_change_86 rfl (lv_at hl 1 rfl) ?_
      refine lv_iload hx hb dX9_change_87 (lv_at hl 6 rfl) ?_
      refine va_put (D := (dC, dI)) (ci := 9) (v := .int v5) (ty := .int) (C := RX9) (T := TX9) (N := 6) hx hb hts inX9 tyX9 tyX9_ok nmX9 hown hK hP hD hS 0 rfl rfl 4 (by decide) (hts _ mw_83) (fun _ h9 => h9) rfl (by decide +kernel) rfl rfl (Nat.le_of_ble_eq_true rfl) dX9_change_89 (fun H locs hP hD hS => ?_)
      have hP : va_P (dC, dI) vwCl [((a 11), .inr (9, [.int v1, .int v2, .int v3, .int v4, .int v5, .int 2]))] H := hP
      have hD : va_D A [((a 11), .inr (9, [.int v1, .int v2, .int v3, .int v4, .int v5, .int 2]))] := hD
      refine lv_aload_n hx hb dX9_change_92 rfl (lv_at hl 1 rfl) ?_
      refine lv_iload hx hb dX9_change_93 (lv_at hl 7 rfl) ?_
      refine va_put (D := (dC, dI)) (ci := 9) (v := .int v6) (ty := .int) (C := RX9) (T := TX9) (N := 6) hx hb hts inX9 tyX9 tyX9_ok nmX9 hown hK hP hD hS 0 rfl rfl 5 (by decide) (hts _ mw_84) (fun _ h9 => h9) rfl (by decide +kernel) rfl rfl (Nat.le_of_ble_eq_true rfl) dX9_change_95 (fun H locs hP hD hS => ?_)
      have hP : va_P (dC, dI) vwCl [((a 11), .inr (9, [.int v1, .int v2, .int v3, .int v4, .int v5, .int v6]))] H := hP
      have hD : va_D A [((a 11), .inr (9, [.int v1, .int v2, .int v3, .int v4, .int v5, .int v6]))] := hD
      refine lv_iconst (v := 1) hx hb dX9_change_98 (by decide) ?_
      refine W.widen (k := 0) (n := 0) (Nat.le_of_ble_eq_true rfl) (Nat.le_of_ble_eq_true rfl) ?_
      exact W.zret (v := 1) (ty := .boolean) hx hb hr rfl (fun t ht hW => ⟨⟨1, (), rfl, (by first | rfl | (simp [sp_change, c_1, c_2]; done)), trivial⟩, hS.F ht⟩) hS.2.2 dX9_change_99
    · refine lv_iload_n hx hb dX9_change_16 rfl (lv_at hl 3 rfl) ?_
      refine lv_aload_n hx hb dX9_change_17 rfl (lv_at hl 0 rfl) ?_
      refine va_get (D := (dC, dI)) (ci := 9) (v := .int 310) (C := RX9) (T := TX9) (N := 6) hx hb hts inX9 hown hK hP 0 rfl rfl 2 (by decide) (hts _ mw_81) (fun _ h9 => h9) rfl dX9_change_18 ?_
      refine lv_icmp_ne (tgt := 46) hx hb dX9_change_21 (by decide) (fun c_3 => ?_) (fun c_3 => ?_)
      · refine lv_iconst (v := 0) hx hb dX9_change_46 (by decide) ?_
        refine lv_istore (lv' := [(7, .int 0), (0, .ref (a 11)), (1, .int v1), (2, .int v2), (3, .int v3), (4, .int v4), (5, .int v5), (6, .int v6)]) hx hb dX9_change_47 hl (by decide) rfl (fun ls hl => ?_)
        refine lv_iload hx hb dX9_change_49 (lv_at hl 0 rfl) ?_
        refine lv_if_eq (tgt := 65) hx hb dX9_change_51 (by decide) (fun c_ => ?_) (fun c_ => absurd c_ (by decide))
        refine lv_aload_n hx hb dX9_change_65 rfl (lv_at hl 1 rfl) ?_
        refine lv_iload_n hx hb dX9_change_66 rfl (lv_at hl 2 rfl) ?_
        refine va_put (D := (dC, dI)) (ci := 9) (v := .int v1) (ty := .int) (C := RX9) (T := TX9) (N := 6) hx hb hts inX9 tyX9 tyX9_ok nmX9 hown hK hP hD hS 0 rfl rfl 0 (by decide) (hts _ mw_79) (fun _ h9 => h9) rfl (by decide +kernel) rfl rfl (Nat.le_of_ble_eq_true rfl) dX9_change_67 (fun H locs hP hD hS => ?_)
        have hP : va_P (dC, dI) vwCl [((a 11), .inr (9, [.int v1, .int 270, .int 310, .int 320, .int 290, .int 2]))] H := hP
        have hD : va_D A [((a 11), .inr (9, [.int v1, .int 270, .int 310, .int 320, .int 290, .int 2]))] := hD
        refine lv_aload_n hx hb dX9_change_70 rfl (lv_at hl 1 rfl) ?_
        refine lv_iload_n hx hb dX9_change_71 rfl (lv_at hl 3 rfl) ?_
        refine va_put (D := (dC, dI)) (ci := 9) (v := .int v2) (ty := .int) (C := RX9) (T := TX9) (N := 6) hx hb hts inX9 tyX9 tyX9_ok nmX9 hown hK hP hD hS 0 rfl rfl 1 (by decide) (hts _ mw_80) (fun _ h9 => h9) rfl (by decide +kernel) rfl rfl (Nat.le_of_ble_eq_true rfl) dX9_change_72 (fun H locs hP hD hS => ?_)
        have hP : va_P (dC, dI) vwCl [((a 11), .inr (9, [.int v1, .int v2, .int 310, .int 320, .int 290, .int 2]))] H := hP
        have hD : va_D A [((a 11), .inr (9, [.int v1, .int v2, .int 310, .int 320, .int 290, .int 2]))] := hD
        refine lv_aload_n hx hb dX9_change_75 rfl (lv_at hl 1 rfl) ?_
        refine lv_iload_n hx hb dX9_change_76 rfl (lv_at hl 4 rfl) ?_
        refine va_put (D := (dC, dI)) (ci := 9) (v := .int v3) (ty := .int) (C := RX9) (T := TX9) (N := 6) hx hb hts inX9 tyX9 tyX9_ok nmX9 hown hK hP hD hS 0 rfl rfl 2 (by decide) (hts _ mw_81) (fun _ h9 => h9) rfl (by decide +kernel) rfl rfl (Nat.le_of_ble_eq_true rfl) dX9_change_77 (fun H locs hP hD hS => ?_)
        have hP : va_P (dC, dI) vwCl [((a 11), .inr (9, [.int v1, .int v2, .int v3, .int 320, .int 290, .int 2]))] H := hP
        have hD : va_D A [((a 11), .inr (9, [.int v1, .int v2, .int v3, .int 320, .int 290, .int 2]))] := hD
        refine lv_aload_n hx hb dX9_change_80 rfl (lv_at hl 1 rfl) ?_
        refine lv_iload hx hb dX9_change_81 (lv_at hl 5 rfl) ?_
        refine va_put (D := (dC, dI)) (ci := 9) (v := .int v4) (ty := .int) (C := RX9) (T := TX9) (N := 6) hx hb hts inX9 tyX9 tyX9_ok nmX9 hown hK hP hD hS 0 rfl rfl 3 (by decide) (hts _ mw_82) (fun _ h9 => h9) rfl (by decide +kernel) rfl rfl (Nat.le_of_ble_eq_true rfl) dX9_change_83 (fun H locs hP hD hS => ?_)
        have hP : va_P (dC, dI) vwCl [((a 11), .inr (9, [.int v1, .int v2, .int v3, .int v4, .int 290, .int 2]))] H := hP
        have hD : va_D A [((a 11), .inr (9, [.int v1, .int v2, .int v3, .int v4, .int 290, .int 2]))] := hD
        refine lv_aload_n hx hb dX9_change_86 rfl (lv_at hl 1 rfl) ?_
        refine lv_iload hx hb dX9_change_87 (lv_at hl 6 rfl) ?_
        refine va_put (D := (dC, dI)) (ci := 9) (v := .int v5) (ty := .int) (C := RX9) (T := TX9) (N := 6) hx hb hts inX9 tyX9 tyX9_ok nmX9 hown hK hP hD hS 0 rfl rfl 4 (by decide) (hts _ mw_83) (fun _ h9 => h9) rfl (by decide +kernel) rfl rfl (Nat.le_of_ble_eq_true rfl) dX9_change_89 (fun H locs hP hD hS => ?_)
        have hP : va_P (dC, dI) vwCl [((a 11), .inr (9, [.int v1, .int v2, .int v3, .int v4, .int v5, .int 2]))] H := hP
        have hD : va_D A [((a 11), .inr (9, [.int v1, .int v2, .int v3, .int v4, .int v5, .int 2]))] := hD
        refine lv_aload_n hx hb dX9_change_92 rfl (lv_at hl 1 rfl) ?_
        refine lv_iload hx hb dX9_change_93 (lv_at hl 7 rfl) ?_
        refine va_put (D := (dC, dI)) (ci := 9) (v := .int v6) (ty := .int) (C := RX9) (T := TX9) (N := 6) hx hb hts inX9 tyX9 tyX9_ok nmX9 hown hK hP hD hS 0 rfl rfl 5 (by decide) (hts _ mw_84) (fun _ h9 => h9) rfl (by decide +kernel) rfl rfl (Nat.le_of_ble_eq_true rfl) dX9_change_95 (fun H locs hP hD hS => ?_)
        have hP : va_P (dC, dI) vwCl [((a 11), .inr (9, [.int v1, .int v2, .int v3, .int v4, .int v5, .int v6]))] H := hP
        have hD : va_D A [((a 11), .inr (9, [.int v1, .int v2, .int v3, .int v4, .int v5, .int v6]))] := hD
        refine lv_iconst (v := 1) hx hb dX9_change_98 (by decide) ?_
        refine W.widen (k := 0) (n := 0) (Nat.le_of_ble_eq_true rfl) (Nat.le_of_ble_eq_true rfl) ?_
        exact W.zret (v := 1) (ty := .boolean) hx hb hr rfl (fun t ht hW => ⟨⟨1, (), rfl, (by first | rfl | (simp [sp_change, c_1, c_2, c_3]; done)), trivial⟩, hS.F ht⟩) hS.2.2 dX9_change_99
      · refine lv_iload hx hb dX9_change_24 (lv_at hl 4 rfl) ?_
        refine lv_aload_n hx hb dX9_change_26 rfl (lv_at hl 0 rfl) ?_
        refine va_get (D := (dC, dI)) (ci := 9) (v := .int 320) (C := RX9) (T := TX9) (N := 6) hx hb hts inX9 hown hK hP 0 rfl rfl 3 (by decide) (hts _ mw_82) (fun _ h9 => h9) rfl dX9_change_27 ?_
        refine lv_icmp_ne (tgt := 46) hx hb dX9_change_30 (by decide) (fun c_4 => ?_) (fun c_4 => ?_)
        · refine lv_iconst (v := 0) hx hb dX9_change_46 (by decide) ?_
          refine lv_istore (lv' := [(7, .int 0), (0, .ref (a 11)), (1, .int v1), (2, .int v2), (3, .int v3), (4, .int v4), (5, .int v5), (6, .int v6)]) hx hb dX9_change_47 hl (by decide) rfl (fun ls hl => ?_)
          refine lv_iload hx hb dX9_change_49 (lv_at hl 0 rfl) ?_
          refine lv_if_eq (tgt := 65) hx hb dX9_change_51 (by decide) (fun c_ => ?_) (fun c_ => absurd c_ (by decide))
          refine lv_aload_n hx hb dX9_change_65 rfl (lv_at hl 1 rfl) ?_
          refine lv_iload_n hx hb dX9_change_66 rfl (lv_at hl 2 rfl) ?_
          refine va_put (D := (dC, dI)) (ci := 9) (v := .int v1) (ty := .int) (C := RX9) (T := TX9) (N := 6) hx hb hts inX9 tyX9 tyX9_ok nmX9 hown hK hP hD hS 0 rfl rfl 0 (by decide) (hts _ mw_79) (fun _ h9 => h9) rfl (by decide +kernel) rfl rfl (Nat.le_of_ble_eq_true rfl) dX9_change_67 (fun H locs hP hD hS => ?_)
          have hP : va_P (dC, dI) vwCl [((a 11), .inr (9, [.int v1, .int 270, .int 310, .int 320, .int 290, .int 2]))] H := hP
          have hD : va_D A [((a 11), .inr (9, [.int v1, .int 270, .int 310, .int 320, .int 290, .int 2]))] := hD
          refine lv_aload_n hx hb dX9_change_70 rfl (lv_at hl 1 rfl) ?_
          refine lv_iload_n hx hb dX9_change_71 rfl (lv_at hl 3 rfl) ?_
          refine va_put (D := (dC, dI)) (ci := 9) (v := .int v2) (ty := .int) (C := RX9) (T := TX9) (N := 6) hx hb hts inX9 tyX9 tyX9_ok nmX9 hown hK hP hD hS 0 rfl rfl 1 (by decide) (hts _ mw_80) (fun _ h9 => h9) rfl (by decide +kernel) rfl rfl (Nat.le_of_ble_eq_true rfl) dX9_change_72 (fun H locs hP hD hS => ?_)
          have hP : va_P (dC, dI) vwCl [((a 11), .inr (9, [.int v1, .int v2, .int 310, .int 320, .int 290, .int 2]))] H := hP
          have hD : va_D A [((a 11), .inr (9, [.int v1, .int v2, .int 310, .int 320, .int 290, .int 2]))] := hD
          refine lv_aload_n hx hb dX9_change_75 rfl (lv_at hl 1 rfl) ?_
          refine lv_iload_n hx hb dX9_change_76 rfl (lv_at hl 4 rfl) ?_
          refine va_put (D := (dC, dI)) (ci := 9) (v := .int v3) (ty := .int) (C := RX9) (T := TX9) (N := 6) hx hb hts inX9 tyX9 tyX9_ok nmX9 hown hK hP hD hS 0 rfl rfl 2 (by decide) (hts _ mw_81) (fun _ h9 => h9) rfl (by decide +kernel) rfl rfl (Nat.le_of_ble_eq_true rfl) dX9_change_77 (fun H locs hP hD hS => ?_)
          have hP : va_P (dC, dI) vwCl [((a 11), .inr (9, [.int v1, .int v2, .int v3, .int 320, .int 290, .int 2]))] H := hP
          have hD : va_D A [((a 11), .inr (9, [.int v1, .int v2, .int v3, .int 320, .int 290, .int 2]))] := hD
          refine lv_aload_n hx hb dX9_change_80 rfl (lv_at hl 1 rfl) ?_
          refine lv_iload hx hb dX9_change_81 (lv_at hl 5 rfl) ?_
          refine va_put (D := (dC, dI)) (ci := 9) (v := .int v4) (ty := .int) (C := RX9) (T := TX9) (N := 6) hx hb hts inX9 tyX9 tyX9_ok nmX9 hown hK hP hD hS 0 rfl rfl 3 (by decide) (hts _ mw_82) (fun _ h9 => h9) rfl (by decide +kernel) rfl rfl (Nat.le_of_ble_eq_true rfl) dX9_change_83 (fun H locs hP hD hS => ?_)
          have hP : va_P (dC, dI) vwCl [((a 11), .inr (9, [.int v1, .int v2, .int v3, .int v4, .int 290, .int 2]))] H := hP
          have hD : va_D A [((a 11), .inr (9, [.int v1, .int v2, .int v3, .int v4, .int 290, .int 2]))] := hD
          refine lv_aload_n hx hb dX9_change_86 rfl (lv_at hl 1 rfl) ?_
          refine lv_iload hx hb dX9_change_87 (lv_at hl 6 rfl) ?_
          refine va_put (D := (dC, dI)) (ci := 9) (v := .int v5) (ty := .int) (C := RX9) (T := TX9) (N := 6) hx hb hts inX9 tyX9 tyX9_ok nmX9 hown hK hP hD hS 0 rfl rfl 4 (by decide) (hts _ mw_83) (fun _ h9 => h9) rfl (by decide +kernel) rfl rfl (Nat.le_of_ble_eq_true rfl) dX9_change_89 (fun H locs hP hD hS => ?_)
          have hP : va_P (dC, dI) vwCl [((a 11), .inr (9, [.int v1, .int v2, .int v3, .int v4, .int v5, .int 2]))] H := hP
          have hD : va_D A [((a 11), .inr (9, [.int v1, .int v2, .int v3, .int v4, .int v5, .int 2]))] := hD
          refine lv_aload_n hx hb dX9_change_92 rfl (lv_at hl 1 rfl) ?_
          refine lv_iload hx hb dX9_change_93 (lv_at hl 7 rfl) ?_
          refine va_put (D := (dC, dI)) (ci := 9) (v := .int v6) (ty := .int) (C := RX9) (T := TX9) (N := 6) hx hb hts inX9 tyX9 tyX9_ok nmX9 hown hK hP hD hS 0 rfl rfl 5 (by decide) (hts _ mw_84) (fun _ h9 => h9) rfl (by decide +kernel) rfl rfl (Nat.le_of_ble_eq_true rfl) dX9_change_95 (fun H locs hP hD hS => ?_)
          have hP : va_P (dC, dI) vwCl [((a 11), .inr (9, [.int v1, .int v2, .int v3, .int v4, .int v5, .int v6]))] H := hP
          have hD : va_D A [((a 11), .inr (9, [.int v1, .int v2, .int v3, .int v4, .int v5, .int v6]))] := hD
          refine lv_iconst (v := 1) hx hb dX9_change_98 (by decide) ?_
          refine W.widen (k := 0) (n := 0) (Nat.le_of_ble_eq_true rfl) (Nat.le_of_ble_eq_true rfl) ?_
          exact W.zret (v := 1) (ty := .boolean) hx hb hr rfl (fun t ht hW => ⟨⟨1, (), rfl, (by first | rfl | (simp [sp_change, c_1, c_2, c_3, c_4]; done)), trivial⟩, hS.F ht⟩) hS.2.2 dX9_change_99
        · refine lv_iload hx hb dX9_change_33 (lv_at hl 5 rfl) ?_
          refine lv_aload_n hx hb dX9_change_35 rfl (lv_at hl 0 rfl) ?_
          refine va_get (D := (dC, dI)) (ci := 9) (v := .int 290) (C := RX9) (T := TX9) (N := 6) hx hb hts inX9 hown hK hP 0 rfl rfl 4 (by decide) (hts _ mw_83) (fun _ h9 => h9) rfl dX9_change_36 ?_
          refine lv_icmp_ne (tgt := 46) hx hb dX9_change_39 (by decide) (fun c_5 => ?_) (fun c_5 => ?_)
          · refine lv_iconst (v := 0) hx hb dX9_change_46 (by decide) ?_
            refine lv_istore (lv' := [(7, .int 0), (0, .ref (a 11)), (1, .int v1), (2, .int v2), (3, .int v3), (4, .int v4), (5, .int v5), (6, .int v6)]) hx hb dX9_change_47 hl (by decide) rfl (fun ls hl => ?_)
            refine lv_iload hx hb dX9_change_49 (lv_at hl 0 rfl) ?_
            refine lv_if_eq (tgt := 65) hx hb dX9_change_51 (by decide) (fun c_ => ?_) (fun c_ => absurd c_ (by decide))
            refine lv_aload_n hx hb dX9_change_65 rfl (lv_at hl 1 rfl) ?_
            refine lv_iload_n hx hb dX9_change_66 rfl (lv_at hl 2 rfl) ?_
            refine va_put (D := (dC, dI)) (ci := 9) (v := .int v1) (ty := .int) (C := RX9) (T := TX9) (N := 6) hx hb hts inX9 tyX9 tyX9_ok nmX9 hown hK hP hD hS 0 rfl rfl 0 (by decide) (hts _ mw_79) (fun _ h9 => h9) rfl (by decide +kernel) rfl rfl (Nat.le_of_ble_eq_true rfl) dX9_change_67 (fun H locs hP hD hS => ?_)
            have hP : va_P (dC, dI) vwCl [((a 11), .inr (9, [.int v1, .int 270, .int 310, .int 320, .int 290, .int 2]))] H := hP
            have hD : va_D A [((a 11), .inr (9, [.int v1, .int 270, .int 310, .int 320, .int 290, .int 2]))] := hD
            refine lv_aload_n hx hb dX9_change_70 rfl (lv_at hl 1 rfl) ?_
            refine lv_iload_n hx hb dX9_change_71 rfl (lv_at hl 3 rfl) ?_
            refine va_put (D := (dC, dI)) (ci := 9) (v := .int v2) (ty := .int) (C := RX9) (T := TX9) (N := 6) hx hb hts inX9 tyX9 tyX9_ok nmX9 hown hK hP hD hS 0 rfl rfl 1 (by decide) (hts _ mw_80) (fun _ h9 => h9) rfl (by decide +kernel) rfl rfl (Nat.le_of_ble_eq_true rfl) dX9_change_72 (fun H locs hP hD hS => ?_)
            have hP : va_P (dC, dI) vwCl [((a 11), .inr (9, [.int v1, .int v2, .int 310, .int 320, .int 290, .int 2]))] H := hP
            have hD : va_D A [((a 11), .inr (9, [.int v1, .int v2, .int 310, .int 320, .int 290, .int 2]))] := hD
            refine lv_aload_n hx hb dX9_change_75 rfl (lv_at hl 1 rfl) ?_
            refine lv_iload_n hx hb dX9_change_76 rfl (lv_at hl 4 rfl) ?_
            refine va_put (D := (dC, dI)) (ci := 9) (v := .int v3) (ty := .int) (C := RX9) (T := TX9) (N := 6) hx hb hts inX9 tyX9 tyX9_ok nmX9 hown hK hP hD hS 0 rfl rfl 2 (by decide) (hts _ mw_81) (fun _ h9 => h9) rfl (by decide +kernel) rfl rfl (Nat.le_of_ble_eq_true rfl) dX9_change_77 (fun H locs hP hD hS => ?_)
            have hP : va_P (dC, dI) vwCl [((a 11), .inr (9, [.int v1, .int v2, .int v3, .int 320, .int 290, .int 2]))] H := hP
            have hD : va_D A [((a 11), .inr (9, [.int v1, .int v2, .int v3, .int 320, .int 290, .int 2]))] := hD
            refine lv_aload_n hx hb dX9_change_80 rfl (lv_at hl 1 rfl) ?_
            refine lv_iload hx hb dX9_change_81 (lv_at hl 5 rfl) ?_
            refine va_put (D := (dC, dI)) (ci := 9) (v := .int v4) (ty := .int) (C := RX9) (T := TX9) (N := 6) hx hb hts inX9 tyX9 tyX9_ok nmX9 hown hK hP hD hS 0 rfl rfl 3 (by decide) (hts _ mw_82) (fun _ h9 => h9) rfl (by decide +kernel) rfl rfl (Nat.le_of_ble_eq_true rfl) dX9_change_83 (fun H locs hP hD hS => ?_)
            have hP : va_P (dC, dI) vwCl [((a 11), .inr (9, [.int v1, .int v2, .int v3, .int v4, .int 290, .int 2]))] H := hP
            have hD : va_D A [((a 11), .inr (9, [.int v1, .int v2, .int v3, .int v4, .int 290, .int 2]))] := hD
            refine lv_aload_n hx hb dX9_change_86 rfl (lv_at hl 1 rfl) ?_
            refine lv_iload hx hb dX9_change_87 (lv_at hl 6 rfl) ?_
            refine va_put (D := (dC, dI)) (ci := 9) (v := .int v5) (ty := .int) (C := RX9) (T := TX9) (N := 6) hx hb hts inX9 tyX9 tyX9_ok nmX9 hown hK hP hD hS 0 rfl rfl 4 (by decide) (hts _ mw_83) (fun _ h9 => h9) rfl (by decide +kernel) rfl rfl (Nat.le_of_ble_eq_true rfl) dX9_change_89 (fun H locs hP hD hS => ?_)
            have hP : va_P (dC, dI) vwCl [((a 11), .inr (9, [.int v1, .int v2, .int v3, .int v4, .int v5, .int 2]))] H := hP
            have hD : va_D A [((a 11), .inr (9, [.int v1, .int v2, .int v3, .int v4, .int v5, .int 2]))] := hD
            refine lv_aload_n hx hb dX9_change_92 rfl (lv_at hl 1 rfl) ?_
            refine lv_iload hx hb dX9_change_93 (lv_at hl 7 rfl) ?_
            refine va_put (D := (dC, dI)) (ci := 9) (v := .int v6) (ty := .int) (C := RX9) (T := TX9) (N := 6) hx hb hts inX9 tyX9 tyX9_ok nmX9 hown hK hP hD hS 0 rfl rfl 5 (by decide) (hts _ mw_84) (fun _ h9 => h9) rfl (by decide +kernel) rfl rfl (Nat.le_of_ble_eq_true rfl) dX9_change_95 (fun H locs hP hD hS => ?_)
            have hP : va_P (dC, dI) vwCl [((a 11), .inr (9, [.int v1, .int v2, .int v3, .int v4, .int v5, .int v6]))] H := hP
            have hD : va_D A [((a 11), .inr (9, [.int v1, .int v2, .int v3, .int v4, .int v5, .int v6]))] := hD
            refine lv_iconst (v := 1) hx hb dX9_change_98 (by decide) ?_
            refine W.widen (k := 0) (n := 0) (Nat.le_of_ble_eq_true rfl) (Nat.le_of_ble_eq_true rfl) ?_
            exact W.zret (v := 1) (ty := .boolean) hx hb hr rfl (fun t ht hW => ⟨⟨1, (), rfl, (by first | rfl | (simp [sp_change, c_1, c_2, c_3, c_4, c_5]; done)), trivial⟩, hS.F ht⟩) hS.2.2 dX9_change_99
          · refine lv_iconst (v := 1) hx hb dX9_change_42 (by decide) ?_
            refine lv_goto (tgt := 47) hx hb dX9_change_43 (by decide) ?_
            refine lv_istore (lv' := [(7, .int 1), (0, .ref (a 11)), (1, .int v1), (2, .int v2), (3, .int v3), (4, .int v4), (5, .int v5), (6, .int v6)]) hx hb dX9_change_47 hl (by decide) rfl (fun ls hl => ?_)
            refine lv_iload hx hb dX9_change_49 (lv_at hl 0 rfl) ?_
            refine lv_if_eq (tgt := 65) hx hb dX9_change_51 (by decide) (fun c_ => absurd c_ (by decide)) (fun c_ => ?_)
            refine lv_iload hx hb dX9_change_54 (lv_at hl 7 rfl) ?_
            refine lv_aload_n hx hb dX9_change_56 rfl (lv_at hl 1 rfl) ?_
            refine va_get (D := (dC, dI)) (ci := 9) (v := .int 2) (C := RX9) (T := TX9) (N := 6) hx hb hts inX9 hown hK hP 0 rfl rfl 5 (by decide) (hts _ mw_84) (fun _ h9 => h9) rfl dX9_change_57 ?_
            refine lv_icmp_ne (tgt := 65) hx hb dX9_change_60 (by decide) (fun c_6 => ?_) (fun c_6 => ?_)
            · refine lv_aload_n hx hb dX9_change_65 rfl (lv_at hl 1 rfl) ?_
              refine lv_iload_n hx hb dX9_change_66 rfl (lv_at hl 2 rfl) ?_
              refine va_put (D := (dC, dI)) (ci := 9) (v := .int v1) (ty := .int) (C := RX9) (T := TX9) (N := 6) hx hb hts inX9 tyX9 tyX9_ok nmX9 hown hK hP hD hS 0 rfl rfl 0 (by decide) (hts _ mw_79) (fun _ h9 => h9) rfl (by decide +kernel) rfl rfl (Nat.le_of_ble_eq_true rfl) dX9_change_67 (fun H locs hP hD hS => ?_)
              have hP : va_P (dC, dI) vwCl [((a 11), .inr (9, [.int v1, .int 270, .int 310, .int 320, .int 290, .int 2]))] H := hP
              have hD : va_D A [((a 11), .inr (9, [.int v1, .int 270, .int 310, .int 320, .int 290, .int 2]))] := hD
              refine lv_aload_n hx hb dX9_change_70 rfl (lv_at hl 1 rfl) ?_
              refine lv_iload_n hx hb dX9_change_71 rfl (lv_at hl 3 rfl) ?_
              refine va_put (D := (dC, dI)) (ci := 9) (v := .int v2) (ty := .int) (C := RX9) (T := TX9) (N := 6) hx hb hts inX9 tyX9 tyX9_ok nmX9 hown hK hP hD hS 0 rfl rfl 1 (by decide) (hts _ mw_80) (fun _ h9 => h9) rfl (by decide +kernel) rfl rfl (Nat.le_of_ble_eq_true rfl) dX9_change_72 (fun H locs hP hD hS => ?_)
              have hP : va_P (dC, dI) vwCl [((a 11), .inr (9, [.int v1, .int v2, .int 310, .int 320, .int 290, .int 2]))] H := hP
              have hD : va_D A [((a 11), .inr (9, [.int v1, .int v2, .int 310, .int 320, .int 290, .int 2]))] := hD
              refine lv_aload_n hx hb dX9_change_75 rfl (lv_at hl 1 rfl) ?_
              refine lv_iload_n hx hb dX9_change_76 rfl (lv_at hl 4 rfl) ?_
              refine va_put (D := (dC, dI)) (ci := 9) (v := .int v3) (ty := .int) (C := RX9) (T := TX9) (N := 6) hx hb hts inX9 tyX9 tyX9_ok nmX9 hown hK hP hD hS 0 rfl rfl 2 (by decide) (hts _ mw_81) (fun _ h9 => h9) rfl (by decide +kernel) rfl rfl (Nat.le_of_ble_eq_true rfl) dX9_change_77 (fun H locs hP hD hS => ?_)
              have hP : va_P (dC, dI) vwCl [((a 11), .inr (9, [.int v1, .int v2, .int v3, .int 320, .int 290, .int 2]))] H := hP
              have hD : va_D A [((a 11), .inr (9, [.int v1, .int v2, .int v3, .int 320, .int 290, .int 2]))] := hD
              refine lv_aload_n hx hb dX9_change_80 rfl (lv_at hl 1 rfl) ?_
              refine lv_iload hx hb dX9_change_81 (lv_at hl 5 rfl) ?_
              refine va_put (D := (dC, dI)) (ci := 9) (v := .int v4) (ty := .int) (C := RX9) (T := TX9) (N := 6) hx hb hts inX9 tyX9 tyX9_ok nmX9 hown hK hP hD hS 0 rfl rfl 3 (by decide) (hts _ mw_82) (fun _ h9 => h9) rfl (by decide +kernel) rfl rfl (Nat.le_of_ble_eq_true rfl) dX9_change_83 (fun H locs hP hD hS => ?_)
              have hP : va_P (dC, dI) vwCl [((a 11), .inr (9, [.int v1, .int v2, .int v3, .int v4, .int 290, .int 2]))] H := hP
              have hD : va_D A [((a 11), .inr (9, [.int v1, .int v2, .int v3, .int v4, .int 290, .int 2]))] := hD
              refine lv_aload_n hx hb dX9_change_86 rfl (lv_at hl 1 rfl) ?_
              refine lv_iload hx hb dX9_change_87 (lv_at hl 6 rfl) ?_
              refine va_put (D := (dC, dI)) (ci := 9) (v := .int v5) (ty := .int) (C := RX9) (T := TX9) (N := 6) hx hb hts inX9 tyX9 tyX9_ok nmX9 hown hK hP hD hS 0 rfl rfl 4 (by decide) (hts _ mw_83) (fun _ h9 => h9) rfl (by decide +kernel) rfl rfl (Nat.le_of_ble_eq_true rfl) dX9_change_89 (fun H locs hP hD hS => ?_)
              have hP : va_P (dC, dI) vwCl [((a 11), .inr (9, [.int v1, .int v2, .int v3, .int v4, .int v5, .int 2]))] H := hP
              have hD : va_D A [((a 11), .inr (9, [.int v1, .int v2, .int v3, .int v4, .int v5, .int 2]))] := hD
              refine lv_aload_n hx hb dX9_change_92 rfl (lv_at hl 1 rfl) ?_
              refine lv_iload hx hb dX9_change_93 (lv_at hl 7 rfl) ?_
              refine va_put (D := (dC, dI)) (ci := 9) (v := .int v6) (ty := .int) (C := RX9) (T := TX9) (N := 6) hx hb hts inX9 tyX9 tyX9_ok nmX9 hown hK hP hD hS 0 rfl rfl 5 (by decide) (hts _ mw_84) (fun _ h9 => h9) rfl (by decide +kernel) rfl rfl (Nat.le_of_ble_eq_true rfl) dX9_change_95 (fun H locs hP hD hS => ?_)
              have hP : va_P (dC, dI) vwCl [((a 11), .inr (9, [.int v1, .int v2, .int v3, .int v4, .int v5, .int v6]))] H := hP
              have hD : va_D A [((a 11), .inr (9, [.int v1, .int v2, .int v3, .int v4, .int v5, .int v6]))] := hD
              refine lv_iconst (v := 1) hx hb dX9_change_98 (by decide) ?_
              refine W.widen (k := 0) (n := 0) (Nat.le_of_ble_eq_true rfl) (Nat.le_of_ble_eq_true rfl) ?_
              exact W.zret (v := 1) (ty := .boolean) hx hb hr rfl (fun t ht hW => ⟨⟨1, (), rfl, (by first | rfl | (simp [sp_change, c_1, c_2, c_3, c_4, c_5, c_6]; done)), trivial⟩, hS.F ht⟩) hS.2.2 dX9_change_99
            · refine lv_iconst (v := 0) hx hb dX9_change_63 (by decide) ?_
              refine W.widen (k := 0) (n := 0) (Nat.le_of_ble_eq_true rfl) (Nat.le_of_ble_eq_true rfl) ?_
              exact W.zret (v := 0) (ty := .boolean) hx hb hr rfl (fun t ht hW => ⟨⟨0, (), rfl, (by first | rfl | (simp [sp_change, c_1, c_2, c_3, c_4, c_5, c_6]; done)), trivial⟩, hS.F ht⟩) hS.2.2 dX9_change_64

set_option maxHeartbeats 4000000 in
set_option maxRecDepth 100000 in
theorem k_temper (l : Launch) (dC : Nat → ClassId) (dI : Nat → Nat → Nat) (sz : Nat) (x : Nat) (a : Nat → Nat) (cy : Nat → ClassId) (v1 v2 v3 v4 v5 v6 : Int32) : Met l yX10_temper (Cond.code yX10_temper cX10_temper 8 (some .boolean) :: gT) ({ frames := 2, cells := 0, slots := 0, locals := 87 }) (va_Pc [.ref x, .int v1, .int v2, .int v3, .int v4, .int v5, .int v6] (pr (dC, dI) sz [(x, .inr (10, (kO a))), ((a 11), .inr (9, [.int 450, .int 270, .int 310, .int 320, .int 290, .int 2]))] [])) (va_Qi (fun (r : Int32) (_ : Unit) => r = sp_temper v1 v2 v3 v4 v5 v6) (fun _ _ => True) (va_A [(x, .inr (10, (kO a))), ((a 11), .inr (9, [.int 450, .int 270, .int 310, .int 320, .int 290, .int 2]))] sz)) 0 0 (va_A [(x, .inr (10, (kO a))), ((a 11), .inr (9, [.int 450, .int 270, .int 310, .int 320, .int 290, .int 2]))] sz) := by
  refine Met.ofW (cc := cX10_temper) (maxL := 8) (ret := (some .boolean)) (by decide) rfl ?_
  intro p e s m args below meth c s₁ B hml hv
  obtain ⟨rfl, hsz, hP, hK, hD0, hE⟩ := hv
  have hx := B.exec
  have hb := B.bytes
  have hr := B.returns
  have hts : ∀ w ∈ gT, w.before _ s = true := fun w h => atoms_spec (ws := Cond.code yX10_temper cX10_temper 8 (some .boolean) :: gT) B.pre w (List.mem_cons_of_mem _ h)
  have hown : s.vm.findClass RX10 = some m.cls := findClass_of_methodNamed B.named
  have hlocks := B.notSynchronized
  subst hsz
  have hD := hD0.self (sz := s.heap.size)
  generalize hAe : va_A [(x, .inr (10, (kO a))), ((a 11), .inr (9, [.int 450, .int 270, .int 310, .int 320, .int 290, .int 2]))] s.heap.size = A at hD ⊢
  have hA : ∀ q : Nat, s.heap.size ≤ q → A q := fun q h => by rw [← hAe]; exact Or.inr h
  have hS : va_S A s.heap s.heap [] := va_S.rf
  have hl := lv_entry ([.ref x, .int v1, .int v2, .int v3, .int v4, .int v5, .int v6]) (n := 8) (Nat.le_of_ble_eq_true rfl)
  rw [lg_entry_eq]
  generalize (lg_sl ([.ref x, .int v1, .int v2, .int v3, .int v4, .int v5, .int v6]) ++ List.replicate (8 - (lg_sl ([.ref x, .int v1, .int v2, .int v3, .int v4, .int v5, .int v6])).length) Slot.unset).toArray = ls at hl ⊢
  have hl : lv_has ls 8 [(0, .ref x), (1, .int v1), (2, .int v2), (3, .int v3), (4, .int v4), (5, .int v5), (6, .int v6)] := hl
  refine lv_iload_n hx hb dX10_temper_0 rfl (lv_at hl 2 rfl) ?_
  refine lv_iload_n hx hb dX10_temper_1 rfl (lv_at hl 3 rfl) ?_
  refine lv_icmp_ge (tgt := 27) hx hb dX10_temper_2 (by decide) (fun c_1 => ?_) (fun c_1 => ?_)
  · refine lv_iconst (v := 0) hx hb dX10_temper_27 (by decide) ?_
    refine lv_istore (lv' := [(7, .int 0), (0, .ref x), (1, .int v1), (2, .int v2), (3, .int v3), (4, .int v4), (5, .int v5), (6, .int v6)]) hx hb dX10_temper_28 hl (by decide) rfl (fun ls hl => ?_)
    refine lv_iload hx hb dX10_temper_30 (lv_at hl 0 rfl) ?_
    refine lv_if_eq (tgt := 46) hx hb dX10_temper_32 (by decide) (fun c_ => ?_) (fun c_ => absurd c_ (by decide))
    refine lv_iconst (v := 0) hx hb dX10_temper_46 (by decide) ?_
    refine W.widen (k := 0) (n := 0) (Nat.le_of_ble_eq_true rfl) (Nat.le_of_ble_eq_true rfl) ?_
    exact W.zret (v := 0) (ty := .boolean) hx hb hr rfl (fun t ht hW => ⟨⟨0, (), rfl, (by first | rfl | (simp [sp_temper, c_1]; done)), trivial⟩, hS.F ht⟩) hS.2.2 dX10_temper_47
  · refine lv_iload_n hx hb dX10_temper_5 rfl (lv_at hl 3 rfl) ?_
    refine lv_iload hx hb dX10_temper_6 (lv_at hl 4 rfl) ?_
    refine lv_icmp_gt (tgt := 27) hx hb dX10_temper_8 (by decide) (fun c_2 => ?_) (fun c_2 => ?_)
    · refine lv_iconst (v := 0) hx hb dX10_temper_27 (by decide) ?_
      refine lv_istore (lv' := [(7, .int 0), (0, .ref x), (1, .int v1), (2, .int v2), (3, .int v3), (4, .int v4), (5, .int v5), (6, .int v6)]) hx hb dX10_temper_28 hl (by decide) rfl (fun ls hl => ?_)
      refine lv_iload hx hb dX10_temper_30 (lv_at hl 0 rfl) ?_
      refine lv_if_eq (tgt := 46) hx hb dX10_temper_32 (by decide) (fun c_ => ?_) (fun c_ => absurd c_ (by decide))
      refine lv_iconst (v := 0) hx hb dX10_temper_46 (by decide) ?_
      refine W.widen (k := 0) (n := 0) (Nat.le_of_ble_eq_true rfl) (Nat.le_of_ble_eq_true rfl) ?_
      exact W.zret (v := 0) (ty := .boolean) hx hb hr rfl (fun t ht hW => ⟨⟨0, (), rfl, (by first | rfl | (simp [sp_temper, c_1, c_2]; done)), trivial⟩, hS.F ht⟩) hS.2.2 dX10_temper_47
    · refine lv_iload hx hb dX10_temper_11 (lv_at hl 4 rfl) ?_
      refine lv_iload_n hx hb dX10_temper_13 rfl (lv_at hl 1 rfl) ?_
      refine lv_icmp_ge (tgt := 27) hx hb dX10_temper_14 (by decide) (fun c_3 => ?_) (fun c_3 => ?_)
      · refine lv_iconst (v := 0) hx hb dX10_temper_27 (by decide) ?_
        refine lv_istore (lv' := [(7, .int 0), (0, .ref x), (1, .int v1), (2, .int v2), (3, .int v3), (4, .int v4), (5, .int v5), (6, .int v6)]) hx hb dX10_temper_28 hl (by decide) rfl (fun ls hl => ?_)
        refine lv_iload hx hb dX10_temper_30 (lv_at hl 0 rfl) ?_
        refine lv_if_eq (tgt := 46) hx hb dX10_temper_32 (by decide) (fun c_ => ?_) (fun c_ => absurd c_ (by decide))
        refine lv_iconst (v := 0) hx hb dX10_temper_46 (by decide) ?_
        refine W.widen (k := 0) (n := 0) (Nat.le_of_ble_eq_true rfl) (Nat.le_of_ble_eq_true rfl) ?_
        exact W.zret (v := 0) (ty := .boolean) hx hb hr rfl (fun t ht hW => ⟨⟨0, (), rfl, (by first | rfl | (simp [sp_temper, c_1, c_2, c_3]; done)), trivial⟩, hS.F ht⟩) hS.2.2 dX10_temper_47
      · refine lv_iload hx hb dX10_temper_17 (lv_at hl 5 rfl) ?_
        refine lv_iload_n hx hb dX10_temper_19 rfl (lv_at hl 3 rfl) ?_
        refine lv_icmp_gt (tgt := 27) hx hb dX10_temper_20 (by decide) (fun c_4 => ?_) (fun c_4 => ?_)
        · refine lv_iconst (v := 0) hx hb dX10_temper_27 (by decide) ?_
          refine lv_istore (lv' := [(7, .int 0), (0, .ref x), (1, .int v1), (2, .int v2), (3, .int v3), (4, .int v4), (5, .int v5), (6, .int v6)]) hx hb dX10_temper_28 hl (by decide) rfl (fun ls hl => ?_)
          refine lv_iload hx hb dX10_temper_30 (lv_at hl 0 rfl) ?_
          refine lv_if_eq (tgt := 46) hx hb dX10_temper_32 (by decide) (fun c_ => ?_) (fun c_ => absurd c_ (by decide))
          refine lv_iconst (v := 0) hx hb dX10_temper_46 (by decide) ?_
          refine W.widen (k := 0) (n := 0) (Nat.le_of_ble_eq_true rfl) (Nat.le_of_ble_eq_true rfl) ?_
          exact W.zret (v := 0) (ty := .boolean) hx hb hr rfl (fun t ht hW => ⟨⟨0, (), rfl, (by first | rfl | (simp [sp_temper, c_1, c_2, c_3, c_4]; done)), trivial⟩, hS.F ht⟩) hS.2.2 dX10_temper_47
        · refine lv_iconst (v := 1) hx hb dX10_temper_23 (by decide) ?_
          refine lv_goto (tgt := 28) hx hb dX10_temper_24 (by decide) ?_
          refine lv_istore (lv' := [(7, .int 1), (0, .ref x), (1, .int v1), (2, .int v2), (3, .int v3), (4, .int v4), (5, .int v5), (6, .int v6)]) hx hb dX10_temper_28 hl (by decide) rfl (fun ls hl => ?_)
          refine lv_iload hx hb dX10_temper_30 (lv_at hl 0 rfl) ?_
          refine lv_if_eq (tgt := 46) hx hb dX10_temper_32 (by decide) (fun c_ => absurd c_ (by decide)) (fun c_ => ?_)
          refine lv_iload hx hb dX10_temper_35 (lv_at hl 7 rfl) ?_
          refine lv_iconst (v := 1) hx hb dX10_temper_37 (by decide) ?_
          refine lv_bipush (v := 20) hx hb dX10_temper_38 (by decide) ?_
          have hPc := hP.sub (ws' := []) [] rfl
          have hKc := hK.sub (tys' := []) [] rfl
          refine pc_i (va_runS (As := [.int v6, .int 1, .int 20]) (rest := []) ⟨hx, hb, hml, hown, hts⟩ (c_within l dC dI v6 1 20) (⟨callB_of 3 hts (gd mw_254) rfl rfl rfl (hts _ mw_1) (hts _ mw_252) ds_X10_within ⟨Nat.le_of_ble_eq_true rfl, Nat.le_of_ble_eq_true rfl⟩, (hts _ mw_253)⟩) (pu_S hPc hKc hE) rfl rfl hl.1 rfl (lv_room (Nat.le_of_ble_eq_true rfl)) dX10_temper_40 ⟨Nat.le_of_ble_eq_true rfl, Nat.le_of_ble_eq_true rfl⟩) (fun r_ hw_ => ?_)
          obtain rfl : r_ = (wi v6 1 20) := hw_
          refine lv_if_ne (tgt := 48) hx hb dX10_temper_43 (by decide) (fun c_6 => ?_) (fun c_6 => ?_)
          · refine lv_aload_n hx hb dX10_temper_48 rfl (lv_at hl 1 rfl) ?_
            refine va_get (D := (dC, dI)) (ci := 10) (v := .ref (a 11)) (C := RX10) (T := TX10) (N := 15) hx hb hts inX10 hown hK hP 0 rfl rfl 11 (by decide) (hts _ mw_212) (fun _ h9 => h9) rfl dX10_temper_49 ?_
            refine lv_iload_n hx hb dX10_temper_52 rfl (lv_at hl 2 rfl) ?_
            refine lv_iload_n hx hb dX10_temper_53 rfl (lv_at hl 3 rfl) ?_
            refine lv_iload_n hx hb dX10_temper_54 rfl (lv_at hl 4 rfl) ?_
            refine lv_iload hx hb dX10_temper_55 (lv_at hl 5 rfl) ?_
            refine lv_iload hx hb dX10_temper_57 (lv_at hl 6 rfl) ?_
            refine lv_iload hx hb dX10_temper_59 (lv_at hl 7 rfl) ?_
            have hPc := hP.sub (ws' := [((a 11), .inr (9, [.int 450, .int 270, .int 310, .int 320, .int 290, .int 2]))]) [1] rfl
            have hKc := hK.sub (tys' := []) [] rfl
            have hDc := hD.sub (ws' := [((a 11), .inr (9, [.int 450, .int 270, .int 310, .int 320, .int 290, .int 2]))]) [1] (by decide) rfl
            have hFc := va_free (wc := [((a 11), .inr (9, [.int 450, .int 270, .int 310, .int 320, .int 290, .int 2]))]) hD hS hA [1] rfl
            refine va_calli (va_runV (As := [.int v1, .int v2, .int v3, .int v4, .int v5, .int v6]) (rest := []) ⟨hx, hb, hml, hown, hts⟩ (k_change l dC dI s.heap.size x a cy v1 v2 v3 v4 v5 v6) (⟨callB_of 6 hts (gd mw_515) rfl rfl rfl (hts _ mw_4) (hts _ mw_512) ds_X9_change ⟨Nat.le_of_ble_eq_true rfl, Nat.le_of_ble_eq_true rfl⟩, (hts _ mw_513), (hts _ mw_514)⟩) (pr_V hPc hKc hDc hE (va_recv hKc hPc (ci := 9) (q0 := 0) rfl rfl)) rfl rfl hl.1 rfl (lv_room (Nat.le_of_ble_eq_true rfl)) dX10_temper_61 ⟨Nat.le_of_ble_eq_true rfl, Nat.le_of_ble_eq_true rfl⟩) hS (fun q _ h => hFc q h) hFc (fun r_ u_ t_ H1 locs ht hvm hw_ hB hz1 hk1 hS => ?_)
            obtain rfl : r_ = (sp_change v1 v2 v3 v4 v5 v6) := hw_
            have hP1 : va_P (dC, dI) vwCl [] H1 := fun k q h => by simp at h
            have hD1 : va_D (va_A [((a 11), .inr (9, [.int 450, .int 270, .int 310, .int 320, .int 290, .int 2]))] s.heap.size) [] := ⟨fun i j p q h => by simp at h, fun k q h => by simp at h⟩
            obtain ⟨hP, hD⟩ := va_join (wr := [(x, .inr (10, (kO a)))]) (w1 := []) hP hD [1] [0] rfl rfl (by decide) (by decide) hk1 hFc hP1 hD1
            generalize H1 = H at hP hS ⊢
            have hP : va_P (dC, dI) vwCl [(x, .inr (10, (kO a)))] H := hP
            have hD : va_D A [(x, .inr (10, (kO a)))] := hD
            refine lv_if_eq (tgt := 71) hx hb dX10_temper_64 (by decide) (fun c_8 => ?_) (fun c_8 => ?_)
            · refine lv_iconst (v := 1) hx hb dX10_temper_71 (by decide) ?_
              refine W.widen (k := 0) (n := 0) (Nat.le_of_ble_eq_true rfl) (Nat.le_of_ble_eq_true rfl) ?_
              exact W.zret (v := 1) (ty := .boolean) hx hb hr rfl (fun t ht hW => ⟨⟨1, (), rfl, (by first | rfl | (simp [sp_temper, c_1, c_2, c_3, c_4, c_6, c_8]; done)), trivial⟩, hS.F ht⟩) hS.2.2 dX10_temper_72
            · refine lv_aload_n hx hb dX10_temper_67 rfl (lv_at hl 1 rfl) ?_
              have hPc := hP.sub (ws' := [(x, .inr (10, (kO a)))]) [0] rfl
              have hKc := hK.sub (tys' := []) [] rfl
              refine pc_v (va_runV (As := []) (rest := []) ⟨hx, hb, hml, hown, hts⟩ (k_restart l dC dI x a cy ) (⟨callB_of 0 hts (gd mw_519) rfl rfl rfl (hts _ mw_1) (hts _ mw_516) ds_X10_restartCoats ⟨Nat.le_of_ble_eq_true rfl, Nat.le_of_ble_eq_true rfl⟩, (hts _ mw_518), (hts _ mp_5)⟩) (pu_V hPc hKc hE (va_recv hKc hPc (ci := 10) (q0 := 0) rfl rfl)) rfl rfl hl.1 rfl (lv_room (Nat.le_of_ble_eq_true rfl)) dX10_temper_68 ⟨Nat.le_of_ble_eq_true rfl, Nat.le_of_ble_eq_true rfl⟩) (fun hw_ => ?_)
              refine lv_iconst (v := 1) hx hb dX10_temper_71 (by decide) ?_
              refine W.widen (k := 0) (n := 0) (Nat.le_of_ble_eq_true rfl) (Nat.le_of_ble_eq_true rfl) ?_
              exact W.zret (v := 1) (ty := .boolean) hx hb hr rfl (fun t ht hW => ⟨⟨1, (), rfl, (by first | rfl | (simp [sp_temper, c_1, c_2, c_3, c_4, c_6, c_8]; done)), trivial⟩, hS.F ht⟩) hS.2.2 dX10_temper_72
          · refine lv_iconst (v := 0) hx hb dX10_temper_46 (by decide) ?_
            refine W.widen (k := 0) (n := 0) (Nat.le_of_ble_eq_true rfl) (Nat.le_of_ble_eq_true rfl) ?_
            exact W.zret (v := 0) (ty := .boolean) hx hb hr rfl (fun t ht hW => ⟨⟨0, (), rfl, (by first | rfl | (simp [sp_temper, c_1, c_2, c_3, c_4, c_6]; done)), trivial⟩, hS.F ht⟩) hS.2.2 dX10_temper_47

set_option maxHeartbeats 4000000 in
set_option maxRecDepth 100000 in
theorem k_at (l : Launch) (dC : Nat → ClassId) (dI : Nat → Nat → Nat) (x : Nat) (a : Nat → Nat) (cy : Nat → ClassId) (v1 v2 : Int32) : Met l yX10_at (Cond.code yX10_at cX10_at 4 (some .int) :: gT) ({ frames := 3, cells := 0, slots := 0, locals := 104 }) (va_Pc [.ref x, .int v1, .int v2] (pu (dC, dI) [(x, .inr (10, (kO a))), ((a 8), .inl ((cy 8), 144, .inl (fun _ => (-1))))] [((cy 8), .int)])) (vp_Si (fun r => r = -1)) 0 0 (fun _ => False) := by
  refine Met.ofW (cc := cX10_at) (maxL := 4) (ret := (some .int)) (by decide) rfl ?_
  intro p e s m args below meth c s₁ B hml hv
  obtain ⟨rfl, hP, hK, hE⟩ := hv
  have hx := B.exec
  have hb := B.bytes
  have hr := B.returns
  have hts : ∀ w ∈ gT, w.before _ s = true := fun w h => atoms_spec (ws := Cond.code yX10_at cX10_at 4 (some .int) :: gT) B.pre w (List.mem_cons_of_mem _ h)
  have hown : s.vm.findClass RX10 = some m.cls := findClass_of_methodNamed B.named
  have hlocks := B.notSynchronized
  have hl := lv_entry ([.ref x, .int v1, .int v2]) (n := 4) (Nat.le_of_ble_eq_true rfl)
  rw [lg_entry_eq]
  generalize (lg_sl ([.ref x, .int v1, .int v2]) ++ List.replicate (4 - (lg_sl ([.ref x, .int v1, .int v2])).length) Slot.unset).toArray = ls at hl ⊢
  have hl : lv_has ls 4 [(0, .ref x), (1, .int v1), (2, .int v2)] := hl
  refine lv_iload_n hx hb dX10_at_0 rfl (lv_at hl 1 rfl) ?_
  refine lv_iload_n hx hb dX10_at_1 rfl (lv_at hl 2 rfl) ?_
  have hPc := hP.sub (ws' := []) [] rfl
  have hKc := hK.sub (tys' := []) [] rfl
  refine pc_i (va_runS (As := [.int v1, .int v2]) (rest := []) ⟨hx, hb, hml, hown, hts⟩ (c_spotOf l dC dI v1 v2) (⟨callB_of 2 hts (gd mw_603) rfl rfl rfl (hts _ mw_1) (hts _ mw_601) ds_X10_spotOf ⟨Nat.le_of_ble_eq_true rfl, Nat.le_of_ble_eq_true rfl⟩, (hts _ mw_602)⟩) (pu_S hPc hKc hE) rfl rfl hl.1 rfl (lv_room (Nat.le_of_ble_eq_true rfl)) dX10_at_2 ⟨Nat.le_of_ble_eq_true rfl, Nat.le_of_ble_eq_true rfl⟩) (fun r_ hw_ => ?_)
  obtain rfl : r_ = (so v1 v2) := hw_
  refine lv_istore_n (lv' := [(3, .int (so v1 v2)), (0, .ref x), (1, .int v1), (2, .int v2)]) hx hb dX10_at_5 rfl hl (by decide) rfl (fun ls hl => ?_)
  refine lv_iload_n hx hb dX10_at_6 rfl (lv_at hl 0 rfl) ?_
  refine lv_iconst (v := (-1)) hx hb dX10_at_7 (by decide) ?_
  refine lv_icmp_ne (tgt := 15) hx hb dX10_at_8 (by decide) (fun c_2 => ?_) (fun c_2 => ?_)
  · refine lv_aload_n hx hb dX10_at_15 rfl (lv_at hl 1 rfl) ?_
    refine va_get (D := (dC, dI)) (ci := 10) (v := .ref (a 8)) (C := RX10) (T := TX10) (N := 15) hx hb hts inX10 hown hK hP 0 rfl rfl 8 (by decide) (hts _ mw_209) (fun _ h9 => h9) rfl dX10_at_16 ?_
    refine lv_iload_n hx hb dX10_at_19 rfl (lv_at hl 0 rfl) ?_
    refine va_iald hx hb hK hP 1 0 rfl rfl (so_in c_2) dX10_at_20 ?_
    refine lv_topi (fun y_ e_ => ?_)
    obtain rfl : y_ = (-1) := e_
    exact W.iret (v := (-1)) hx hb hr (fun t ht hW => ⟨(-1), rfl, (by first | rfl | (simp [c_2]; done)), ht⟩) (fun q h => absurd h List.not_mem_nil) dX10_at_21
  · refine lv_iconst (v := (-1)) hx hb dX10_at_11 (by decide) ?_
    refine lv_goto (tgt := 21) hx hb dX10_at_12 (by decide) ?_
    exact W.iret (v := (-1)) hx hb hr (fun t ht hW => ⟨(-1), rfl, (by first | rfl | (simp [c_2]; done)), ht⟩) (fun q h => absurd h List.not_mem_nil) dX10_at_21
