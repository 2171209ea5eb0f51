set_option maxHeartbeats 4000000 in
set_option maxRecDepth 100000 in
theorem m_table (l : Launch) (dC : Nat → ClassId) (dI : Nat → Nat → Nat) (sz : Nat) (x : Nat) (a : Nat → Nat) (cy : Nat → ClassId) (v1 v2 : Int32) : Met l yX11_table (Cond.code yX11_table cX11_table 3 (some .int) :: gT) ({ frames := 2, cells := 0, slots := 0, locals := 82 }) (va_Pc [.ref x, .int v1, .int v2] (pr (dC, dI) sz [(x, .inr (11, (mO a))), ((a 27), .inl ((cy 27), 16, .inl (fun _ => 0))), ((a 28), .inl ((cy 28), 16, .inl (fun _ => 0)))] [((cy 27), .int), ((cy 28), .int)])) (va_Qi (fun (r : Int32) (_ : Unit) => r = sp_table v2) (fun _ _ => True) (va_A [(x, .inr (11, (mO a))), ((a 27), .inl ((cy 27), 16, .inl (fun _ => 0))), ((a 28), .inl ((cy 28), 16, .inl (fun _ => 0)))] sz)) 0 0 (va_A [(x, .inr (11, (mO a))), ((a 27), .inl ((cy 27), 16, .inl (fun _ => 0))), ((a 28), .inl ((cy 28), 16, .inl (fun _ => 0)))] sz) := by
  refine Met.ofW (cc := cX11_table) (maxL := 3) (ret := (some .int)) (by decide) rfl ?_
  intro p e s m args below meth c s₁ B hml hv
  obtain ⟨rfl, hsz, hP, hK, hD0, hE⟩ := hv
  have hx := B.exec
  have hb := B.bytes
  have hr := B.returns
  have hts : ∀ w ∈ gT, w.before _ s = true := fun w h => atoms_spec (ws := Cond.code yX11_table cX11_table 3 (some .int) :: gT) B.pre w (List.mem_cons_of_mem _ h)
  have hown : s.vm.findClass RX11 = some m.cls := findClass_of_methodNamed B.named
  have hlocks := B.notSynchronized
  subst hsz
  have hD := hD0.self (sz := s.heap.size)
  generalize hAe : va_A [(x, .inr (11, (mO a))), ((a 27), .inl ((cy 27), 16, .inl (fun _ => 0))), ((a 28), .inl ((cy 28), 16, .inl (fun _ => 0)))] s.heap.size = A at hD ⊢
  have hA : ∀ q : Nat, s.heap.size ≤ q → A q := fun q h => by rw [← hAe]; exact Or.inr h
  have hS : va_S A s.heap s.heap [] := va_S.rf
  have hl := lv_entry ([.ref x, .int v1, .int v2]) (n := 3) (Nat.le_of_ble_eq_true rfl)
  rw [lg_entry_eq]
  generalize (lg_sl ([.ref x, .int v1, .int v2]) ++ List.replicate (3 - (lg_sl ([.ref x, .int v1, .int v2])).length) Slot.unset).toArray = ls at hl ⊢
  have hl : lv_has ls 3 [(0, .ref x), (1, .int v1), (2, .int v2)] := hl
  refine lv_aload_n hx hb dX11_table_0 rfl (lv_at hl 0 rfl) ?_
  refine va_get (D := (dC, dI)) (ci := 11) (v := .int 0) (C := RX11) (T := TX11) (N := 56) hx hb hts inX11 hown hK hP 0 rfl rfl 4 (by decide) (hts _ mw_884) (fun _ h9 => h9) rfl dX11_table_1 ?_
  refine lv_bipush (v := 16) hx hb dX11_table_4 (by decide) ?_
  refine lv_icmp_eq (tgt := 42) hx hb dX11_table_6 (by decide) (fun c_ => absurd c_ (by decide)) (fun c_ => ?_)
  refine lv_iload_n hx hb dX11_table_9 rfl (lv_at hl 2 rfl) ?_
  refine lv_iconst (v := 0) hx hb dX11_table_10 (by decide) ?_
  refine lv_sipush (v := 900) hx hb dX11_table_11 (by decide) ?_
  have hPc := hP.sub (ws' := []) [] rfl
  have hKc := hK.sub (tys' := []) [] rfl
  refine pc_i (va_runS (As := [.int v2, .int 0, .int 900]) (rest := []) ⟨hx, hb, hml, hown, hts⟩ (c_isIn l dC dI v2 0 900) (⟨callB_of 3 hts (gd mw_1057) rfl rfl rfl (hts _ mw_8) (hts _ mw_1055) ds_X11_isIn ⟨Nat.le_of_ble_eq_true rfl, Nat.le_of_ble_eq_true rfl⟩, (hts _ mw_1056)⟩) (pu_S hPc hKc hE) rfl rfl hl.1 rfl (lv_room (Nat.le_of_ble_eq_true rfl)) dX11_table_14 ⟨Nat.le_of_ble_eq_true rfl, Nat.le_of_ble_eq_true rfl⟩) (fun r_ hw_ => ?_)
  obtain rfl : r_ = (wi v2 0 900) := hw_
  refine lv_if_eq (tgt := 42) hx hb dX11_table_17 (by decide) (fun c_2 => ?_) (fun c_2 => ?_)
  · refine lv_iconst (v := (-1)) hx hb dX11_table_42 (by decide) ?_
    refine W.widen (k := 0) (n := 0) (Nat.le_of_ble_eq_true rfl) (Nat.le_of_ble_eq_true rfl) ?_
    exact W.iret (v := (-1)) hx hb hr (fun t ht hW => ⟨⟨(-1), (), rfl, (by first | rfl | (simp [sp_table, c_2]; done)), trivial⟩, hS.F ht⟩) hS.2.2 dX11_table_43
  · refine lv_aload_n hx hb dX11_table_20 rfl (lv_at hl 0 rfl) ?_
    refine va_get (D := (dC, dI)) (ci := 11) (v := .int 0) (C := RX11) (T := TX11) (N := 56) hx hb hts inX11 hown hK hP 0 rfl rfl 4 (by decide) (hts _ mw_884) (fun _ h9 => h9) rfl dX11_table_21 ?_
    refine lv_if_le (tgt := 44) hx hb dX11_table_24 (by decide) (fun c_ => ?_) (fun c_ => absurd c_ (by decide))
    refine lv_aload_n hx hb dX11_table_44 rfl (lv_at hl 0 rfl) ?_
    refine va_get (D := (dC, dI)) (ci := 11) (v := .ref (a 27)) (C := RX11) (T := TX11) (N := 56) hx hb hts inX11 hown hK hP 0 rfl rfl 27 (by decide) (hts _ mw_907) (fun _ h9 => h9) rfl dX11_table_45 ?_
    refine lv_aload_n hx hb dX11_table_48 rfl (lv_at hl 0 rfl) ?_
    refine va_get (D := (dC, dI)) (ci := 11) (v := .int 0) (C := RX11) (T := TX11) (N := 56) hx hb hts inX11 hown hK hP 0 rfl rfl 4 (by decide) (hts _ mw_884) (fun _ h9 => h9) rfl dX11_table_49 ?_
    refine lv_iload_n hx hb dX11_table_52 rfl (lv_at hl 1 rfl) ?_
    refine va_iast hx hb hK hP hD hS 1 0 rfl rfl (by unfold vp_in; decide) dX11_table_53 (fun H locs hP hD hS => ?_)
    have hP : va_P (dC, dI) vwCl [(x, .inr (11, (mO a))), ((a 27), .inl ((cy 27), 16, .inl (upd (fun _ => 0) (0 : Int32).toNatClampNeg v1))), ((a 28), .inl ((cy 28), 16, .inl (fun _ => 0)))] H := hP
    have hD : va_D A [(x, .inr (11, (mO a))), ((a 27), .inl ((cy 27), 16, .inl (upd (fun _ => 0) (0 : Int32).toNatClampNeg v1))), ((a 28), .inl ((cy 28), 16, .inl (fun _ => 0)))] := hD
    refine lv_aload_n hx hb dX11_table_54 rfl (lv_at hl 0 rfl) ?_
    refine va_get (D := (dC, dI)) (ci := 11) (v := .ref (a 28)) (C := RX11) (T := TX11) (N := 56) hx hb hts inX11 hown hK hP 0 rfl rfl 28 (by decide) (hts _ mw_908) (fun _ h9 => h9) rfl dX11_table_55 ?_
    refine lv_aload_n hx hb dX11_table_58 rfl (lv_at hl 0 rfl) ?_
    refine va_get (D := (dC, dI)) (ci := 11) (v := .int 0) (C := RX11) (T := TX11) (N := 56) hx hb hts inX11 hown hK hP 0 rfl rfl 4 (by decide) (hts _ mw_884) (fun _ h9 => h9) rfl dX11_table_59 ?_
    refine lv_iload_n hx hb dX11_table_62 rfl (lv_at hl 2 rfl) ?_
    refine va_iast hx hb hK hP hD hS 2 1 rfl rfl (by unfold vp_in; decide) dX11_table_63 (fun H locs hP hD hS => ?_)
    have hP : va_P (dC, dI) vwCl [(x, .inr (11, (mO a))), ((a 27), .inl ((cy 27), 16, .inl (upd (fun _ => 0) (0 : Int32).toNatClampNeg v1))), ((a 28), .inl ((cy 28), 16, .inl (upd (fun _ => 0) (0 : Int32).toNatClampNeg v2)))] H := hP
    have hD : va_D A [(x, .inr (11, (mO a))), ((a 27), .inl ((cy 27), 16, .inl (upd (fun _ => 0) (0 : Int32).toNatClampNeg v1))), ((a 28), .inl ((cy 28), 16, .inl (upd (fun _ => 0) (0 : Int32).toNatClampNeg v2)))] := hD
    refine lv_aload_n hx hb dX11_table_64 rfl (lv_at hl 0 rfl) ?_
    refine lv_dup hx hb dX11_table_65 rfl ?_
    refine va_get (D := (dC, dI)) (ci := 11) (v := .int 0) (C := RX11) (T := TX11) (N := 56) hx hb hts inX11 hown hK hP 0 rfl rfl 4 (by decide) (hts _ mw_884) (fun _ h9 => h9) rfl dX11_table_66 ?_
    refine lv_iconst (v := 1) hx hb dX11_table_69 (by decide) ?_
    refine lv_iadd hx hb dX11_table_70 ?_
    refine lv_topi (fun y_ e_ => ?_)
    obtain rfl : y_ = 1 := e_.trans (by decide)
    refine va_put (D := (dC, dI)) (ci := 11) (v := .int 1) (ty := .int) (C := RX11) (T := TX11) (N := 56) hx hb hts inX11 tyX11 tyX11_ok nmX11 hown hK hP hD hS 0 rfl rfl 4 (by decide) (hts _ mw_884) (fun _ h9 => h9) rfl (by decide +kernel) rfl rfl (Nat.le_of_ble_eq_true rfl) dX11_table_71 (fun H locs hP hD hS => ?_)
    have hP : va_P (dC, dI) vwCl [(x, .inr (11, ((mO a).set 4 (.int 1)))), ((a 27), .inl ((cy 27), 16, .inl (upd (fun _ => 0) (0 : Int32).toNatClampNeg v1))), ((a 28), .inl ((cy 28), 16, .inl (upd (fun _ => 0) (0 : Int32).toNatClampNeg v2)))] H := hP
    have hD : va_D A [(x, .inr (11, ((mO a).set 4 (.int 1)))), ((a 27), .inl ((cy 27), 16, .inl (upd (fun _ => 0) (0 : Int32).toNatClampNeg v1))), ((a 28), .inl ((cy 28), 16, .inl (upd (fun _ => 0) (0 : Int32).toNatClampNeg v2)))] := hD
    refine lv_aload_n hx hb dX11_table_74 rfl (lv_at hl 0 rfl) ?_
    refine va_get (D := (dC, dI)) (ci := 11) (v := .int 1) (C := RX11) (T := TX11) (N := 56) hx hb hts inX11 hown hK hP 0 rfl rfl 4 (by decide) (hts _ mw_884) (fun _ h9 => h9) rfl dX11_table_75 ?_
    refine W.widen (k := 0) (n := 0) (Nat.le_of_ble_eq_true rfl) (Nat.le_of_ble_eq_true rfl) ?_
    exact W.iret (v := 1) hx hb hr (fun t ht hW => ⟨⟨1, (), rfl, (by first | rfl | (simp [sp_table, c_2]; done)), trivial⟩, hS.F ht⟩) hS.2.2 dX11_table_78

set_option maxHeartbeats 4000000 in
set_option maxRecDepth 100000 in
theorem m_grain (l : Launch) (dC : Nat → ClassId) (dI : Nat → Nat → Nat) (sz : Nat) (x : Nat) (a : Nat → Nat) (cy : Nat → ClassId) (v1 v2 : Int32) : Met l yX11_grain (Cond.code yX11_grain cX11_grain 3 (some .boolean) :: gT) ({ frames := 1, cells := 0, slots := 0, locals := 60 }) (va_Pc [.ref x, .int v1, .int v2] (pr (dC, dI) sz [(x, .inr (11, (mO a)))] [])) (va_Qi (fun (r : Int32) (_ : Unit) => r = 1) (fun _ _ => True) (va_A [(x, .inr (11, (mO a)))] sz)) 0 0 (va_A [(x, .inr (11, (mO a)))] sz) := by
  refine Met.ofW (cc := cX11_grain) (maxL := 3) (ret := (some .boolean)) (by decide) rfl ?_
  intro p e s m args below meth c s₁ B hml hv
  obtain ⟨rfl, hsz, hP, hK, hD0, hE⟩ := hv
  have hx := B.exec
  have hb := B.bytes
  have hr := B.returns
  have hts : ∀ w ∈ gT, w.before _ s = true := fun w h => atoms_spec (ws := Cond.code yX11_grain cX11_grain 3 (some .boolean) :: gT) B.pre w (List.mem_cons_of_mem _ h)
  have hown : s.vm.findClass RX11 = some m.cls := findClass_of_methodNamed B.named
  have hlocks := B.notSynchronized
  subst hsz
  have hD := hD0.self (sz := s.heap.size)
  generalize hAe : va_A [(x, .inr (11, (mO a)))] s.heap.size = A at hD ⊢
  have hA : ∀ q : Nat, s.heap.size ≤ q → A q := fun q h => by rw [← hAe]; exact Or.inr h
  have hS : va_S A s.heap s.heap [] := va_S.rf
  have hl := lv_entry ([.ref x, .int v1, .int v2]) (n := 3) (Nat.le_of_ble_eq_true rfl)
  rw [lg_entry_eq]
  generalize (lg_sl ([.ref x, .int v1, .int v2]) ++ List.replicate (3 - (lg_sl ([.ref x, .int v1, .int v2])).length) Slot.unset).toArray = ls at hl ⊢
  have hl : lv_has ls 3 [(0, .ref x), (1, .int v1), (2, .int v2)] := hl
  refine lv_aload_n hx hb dX11_grain_0 rfl (lv_at hl 0 rfl) ?_
  refine lv_iload_n hx hb dX11_grain_1 rfl (lv_at hl 1 rfl) ?_
  refine va_put (D := (dC, dI)) (ci := 11) (v := .int v1) (ty := .int) (C := RX11) (T := TX11) (N := 56) hx hb hts inX11 tyX11 tyX11_ok nmX11 hown hK hP hD hS 0 rfl rfl 29 (by decide) (hts _ mw_909) (fun _ h9 => h9) rfl (by decide +kernel) rfl rfl (Nat.le_of_ble_eq_true rfl) dX11_grain_2 (fun H locs hP hD hS => ?_)
  have hP : va_P (dC, dI) vwCl [(x, .inr (11, ((mO a).set 29 (.int v1))))] H := hP
  have hD : va_D A [(x, .inr (11, ((mO a).set 29 (.int v1))))] := hD
  refine lv_aload_n hx hb dX11_grain_5 rfl (lv_at hl 0 rfl) ?_
  refine lv_iload_n hx hb dX11_grain_6 rfl (lv_at hl 2 rfl) ?_
  refine va_put (D := (dC, dI)) (ci := 11) (v := .int v2) (ty := .int) (C := RX11) (T := TX11) (N := 56) hx hb hts inX11 tyX11 tyX11_ok nmX11 hown hK hP hD hS 0 rfl rfl 30 (by decide) (hts _ mw_910) (fun _ h9 => h9) rfl (by decide +kernel) rfl rfl (Nat.le_of_ble_eq_true rfl) dX11_grain_7 (fun H locs hP hD hS => ?_)
  have hP : va_P (dC, dI) vwCl [(x, .inr (11, (((mO a).set 29 (.int v1)).set 30 (.int v2))))] H := hP
  have hD : va_D A [(x, .inr (11, (((mO a).set 29 (.int v1)).set 30 (.int v2))))] := hD
  refine lv_iconst (v := 1) hx hb dX11_grain_10 (by decide) ?_
  refine W.widen (k := 0) (n := 0) (Nat.le_of_ble_eq_true rfl) (Nat.le_of_ble_eq_true rfl) ?_
  exact W.zret (v := 1) (ty := .boolean) hx hb hr rfl (fun t ht hW => ⟨⟨1, (), rfl, (by first | rfl | (simp []; done)), trivial⟩, hS.F ht⟩) hS.2.2 dX11_grain_11

set_option maxHeartbeats 4000000 in
set_option maxRecDepth 100000 in
theorem m_bounds (l : Launch) (dC : Nat → ClassId) (dI : Nat → Nat → Nat) (sz : Nat) (x : Nat) (a : Nat → Nat) (cy : Nat → ClassId) (v1 v2 v3 : Int32) : Met l yX11_bounds (Cond.code yX11_bounds cX11_bounds 4 (some .boolean) :: gT) ({ frames := 2, cells := 0, slots := 0, locals := 82 }) (va_Pc [.ref x, .int v1, .int v2, .int v3] (pr (dC, dI) sz [(x, .inr (11, (mO a))), ((a 31), .inl ((cy 31), 6, .inl (fun _ => 0))), ((a 32), .inl ((cy 32), 6, .inl (fun _ => 900)))] [((cy 31), .int), ((cy 32), .int)])) (va_Qi (fun (r : Int32) (_ : Unit) => r = sp_bounds v1) (fun _ _ => True) (va_A [(x, .inr (11, (mO a))), ((a 31), .inl ((cy 31), 6, .inl (fun _ => 0))), ((a 32), .inl ((cy 32), 6, .inl (fun _ => 900)))] sz)) 0 0 (va_A [(x, .inr (11, (mO a))), ((a 31), .inl ((cy 31), 6, .inl (fun _ => 0))), ((a 32), .inl ((cy 32), 6, .inl (fun _ => 900)))] sz) := by
  refine Met.ofW (cc := cX11_bounds) (maxL := 4) (ret := (some .boolean)) (by decide) rfl ?_
  intro p e s m args below meth c s₁ B hml hv
  obtain ⟨rfl, hsz, hP, hK, hD0, hE⟩ := hv
  have hx := B.exec
  have hb := B.bytes
  have hr := B.returns
  have hts : ∀ w ∈ gT, w.before _ s = true := fun w h => atoms_spec (ws := Cond.code yX11_bounds cX11_bounds 4 (some .boolean) :: gT) B.pre w (List.mem_cons_of_mem _ h)
  have hown : s.vm.findClass RX11 = some m.cls := findClass_of_methodNamed B.named
  have hlocks := B.notSynchronized
  subst hsz
  have hD := hD0.self (sz := s.heap.size)
  generalize hAe : va_A [(x, .inr (11, (mO a))), ((a 31), .inl ((cy 31), 6, .inl (fun _ => 0))), ((a 32), .inl ((cy 32), 6, .inl (fun _ => 900)))] s.heap.size = A at hD ⊢
  have hA : ∀ q : Nat, s.heap.size ≤ q → A q := fun q h => by rw [← hAe]; exact Or.inr h
  have hS : va_S A s.heap s.heap [] := va_S.rf
  have hl := lv_entry ([.ref x, .int v1, .int v2, .int v3]) (n := 4) (Nat.le_of_ble_eq_true rfl)
  rw [lg_entry_eq]
  generalize (lg_sl ([.ref x, .int v1, .int v2, .int v3]) ++ List.replicate (4 - (lg_sl ([.ref x, .int v1, .int v2, .int v3])).length) Slot.unset).toArray = ls at hl ⊢
  have hl : lv_has ls 4 [(0, .ref x), (1, .int v1), (2, .int v2), (3, .int v3)] := hl
  refine lv_iload_n hx hb dX11_bounds_0 rfl (lv_at hl 1 rfl) ?_
  refine lv_iconst (v := 0) hx hb dX11_bounds_1 (by decide) ?_
  refine lv_iconst (v := 5) hx hb dX11_bounds_2 (by decide) ?_
  have hPc := hP.sub (ws' := []) [] rfl
  have hKc := hK.sub (tys' := []) [] rfl
  refine pc_i (va_runS (As := [.int v1, .int 0, .int 5]) (rest := []) ⟨hx, hb, hml, hown, hts⟩ (c_isIn l dC dI v1 0 5) (⟨callB_of 3 hts (gd mw_1057) rfl rfl rfl (hts _ mw_8) (hts _ mw_1055) ds_X11_isIn ⟨Nat.le_of_ble_eq_true rfl, Nat.le_of_ble_eq_true rfl⟩, (hts _ mw_1056)⟩) (pu_S hPc hKc hE) rfl rfl hl.1 rfl (lv_room (Nat.le_of_ble_eq_true rfl)) dX11_bounds_3 ⟨Nat.le_of_ble_eq_true rfl, Nat.le_of_ble_eq_true rfl⟩) (fun r_ hw_ => ?_)
  obtain rfl : r_ = (wi v1 0 5) := hw_
  refine lv_if_ne (tgt := 11) hx hb dX11_bounds_6 (by decide) (fun c_2 => ?_) (fun c_2 => ?_)
  · refine lv_aload_n hx hb dX11_bounds_11 rfl (lv_at hl 0 rfl) ?_
    refine va_get (D := (dC, dI)) (ci := 11) (v := .ref (a 31)) (C := RX11) (T := TX11) (N := 56) hx hb hts inX11 hown hK hP 0 rfl rfl 31 (by decide) (hts _ mw_911) (fun _ h9 => h9) rfl dX11_bounds_12 ?_
    refine lv_iload_n hx hb dX11_bounds_15 rfl (lv_at hl 1 rfl) ?_
    refine lv_iload_n hx hb dX11_bounds_16 rfl (lv_at hl 2 rfl) ?_
    refine va_iast hx hb hK hP hD hS 1 0 rfl rfl (wi_vp c_2 (by decide)) dX11_bounds_17 (fun H locs hP hD hS => ?_)
    have hP : va_P (dC, dI) vwCl [(x, .inr (11, (mO a))), ((a 31), .inl ((cy 31), 6, .inl (upd (fun _ => 0) (v1 : Int32).toNatClampNeg v2))), ((a 32), .inl ((cy 32), 6, .inl (fun _ => 900)))] H := hP
    have hD : va_D A [(x, .inr (11, (mO a))), ((a 31), .inl ((cy 31), 6, .inl (upd (fun _ => 0) (v1 : Int32).toNatClampNeg v2))), ((a 32), .inl ((cy 32), 6, .inl (fun _ => 900)))] := hD
    refine lv_aload_n hx hb dX11_bounds_18 rfl (lv_at hl 0 rfl) ?_
    refine va_get (D := (dC, dI)) (ci := 11) (v := .ref (a 32)) (C := RX11) (T := TX11) (N := 56) hx hb hts inX11 hown hK hP 0 rfl rfl 32 (by decide) (hts _ mw_912) (fun _ h9 => h9) rfl dX11_bounds_19 ?_
    refine lv_iload_n hx hb dX11_bounds_22 rfl (lv_at hl 1 rfl) ?_
    refine lv_iload_n hx hb dX11_bounds_23 rfl (lv_at hl 3 rfl) ?_
    refine va_iast hx hb hK hP hD hS 2 1 rfl rfl (wi_vp c_2 (by decide)) dX11_bounds_24 (fun H locs hP hD hS => ?_)
    have hP : va_P (dC, dI) vwCl [(x, .inr (11, (mO a))), ((a 31), .inl ((cy 31), 6, .inl (upd (fun _ => 0) (v1 : Int32).toNatClampNeg v2))), ((a 32), .inl ((cy 32), 6, .inl (upd (fun _ => 900) (v1 : Int32).toNatClampNeg v3)))] H := hP
    have hD : va_D A [(x, .inr (11, (mO a))), ((a 31), .inl ((cy 31), 6, .inl (upd (fun _ => 0) (v1 : Int32).toNatClampNeg v2))), ((a 32), .inl ((cy 32), 6, .inl (upd (fun _ => 900) (v1 : Int32).toNatClampNeg v3)))] := hD
    refine lv_iconst (v := 1) hx hb dX11_bounds_25 (by decide) ?_
    refine W.widen (k := 0) (n := 0) (Nat.le_of_ble_eq_true rfl) (Nat.le_of_ble_eq_true rfl) ?_
    exact W.zret (v := 1) (ty := .boolean) hx hb hr rfl (fun t ht hW => ⟨⟨1, (), rfl, (by first | rfl | (simp [sp_bounds, c_2]; done)), trivial⟩, hS.F ht⟩) hS.2.2 dX11_bounds_26
  · refine lv_iconst (v := 0) hx hb dX11_bounds_9 (by decide) ?_
    refine W.widen (k := 0) (n := 0) (Nat.le_of_ble_eq_true rfl) (Nat.le_of_ble_eq_true rfl) ?_
    exact W.zret (v := 0) (ty := .boolean) hx hb hr rfl (fun t ht hW => ⟨⟨0, (), rfl, (by first | rfl | (simp [sp_bounds, c_2]; done)), trivial⟩, hS.F ht⟩) hS.2.2 dX11_bounds_10

set_option maxHeartbeats 4000000 in
set_option maxRecDepth 100000 in
theorem m_temper (l : Launch) (dC : Nat → ClassId) (dI : Nat → Nat → Nat) (sz : Nat) (x : Nat) (a : Nat → Nat) (cy : Nat → ClassId) (v1 v2 v3 v4 v5 v6 : Int32) : Met l yX11_temper (Cond.code yX11_temper cX11_temper 8 (some .boolean) :: gT) ({ frames := 2, cells := 0, slots := 0, locals := 82 }) (va_Pc [.ref x, .int v1, .int v2, .int v3, .int v4, .int v5, .int v6] (pr (dC, dI) sz [(x, .inr (11, (mO a))), ((a 33), .inl ((cy 33), 6, .inl (upd (upd (upd (upd (upd (upd (fun _ => 0) (0 : Int32).toNatClampNeg 450) (1 : Int32).toNatClampNeg 270) (2 : Int32).toNatClampNeg 310) (3 : Int32).toNatClampNeg 320) (4 : Int32).toNatClampNeg 290) (5 : Int32).toNatClampNeg 2)))] [((cy 33), .int)])) (va_Qi (fun (r : Int32) (_ : Unit) => r = sp_temper v1 v2 v3 v4 v5 v6) (fun _ _ => True) (va_A [(x, .inr (11, (mO a))), ((a 33), .inl ((cy 33), 6, .inl (upd (upd (upd (upd (upd (upd (fun _ => 0) (0 : Int32).toNatClampNeg 450) (1 : Int32).toNatClampNeg 270) (2 : Int32).toNatClampNeg 310) (3 : Int32).toNatClampNeg 320) (4 : Int32).toNatClampNeg 290) (5 : Int32).toNatClampNeg 2)))] sz)) 0 0 (va_A [(x, .inr (11, (mO a))), ((a 33), .inl ((cy 33), 6, .inl (upd (upd (upd (upd (upd (upd (fun _ => 0) (0 : Int32).toNatClampNeg 450) (1 : Int32).toNatClampNeg 270) (2 : Int32).toNatClampNeg 310) (3 : Int32).toNatClampNeg 320) (4 : Int32).toNatClampNeg 290) (5 : Int32).toNatClampNeg 2)))] sz) := by
  refine Met.ofW (cc := cX11_temper) (maxL := 8) (ret := (some .boolean)) (by decide) rfl ?_
  intro p e s m args below meth c s₁ B hml hv
  obtain ⟨rfl, hsz, hP, hK, hD0, hE⟩ := hv
  have hx := B.exec
  have hb := B.bytes
  have hr := B.returns
  have hts : ∀ w ∈ gT, w.before _ s = true := fun w h => atoms_spec (ws := Cond.code yX11_temper cX11_temper 8 (some .boolean) :: gT) B.pre w (List.mem_cons_of_mem _ h)
  have hown : s.vm.findClass RX11 = some m.cls := findClass_of_methodNamed B.named
  have hlocks := B.notSynchronized
  subst hsz
  have hD := hD0.self (sz := s.heap.size)
  generalize hAe : va_A [(x, .inr (11, (mO a))), ((a 33), .inl ((cy 33), 6, .inl (upd (upd (upd (upd (upd (upd (fun _ => 0) (0 : Int32).toNatClampNeg 450) (1 : Int32).toNatClampNeg 270) (2 : Int32).toNatClampNeg 310) (3 : Int32).toNatClampNeg 320) (4 : Int32).toNatClampNeg 290) (5 : Int32).toNatClampNeg 2)))] s.heap.size = A at hD ⊢
  have hA : ∀ q : Nat, s.heap.size ≤ q → A q := fun q h => by rw [← hAe]; exact Or.inr h
  have hS : va_S A s.heap s.heap [] := va_S.rf
  have hl := lv_entry ([.ref x, .int v1, .int v2, .int v3, .int v4, .int v5, .int v6]) (n := 8) (Nat.le_of_ble_eq_true rfl)
  rw [lg_entry_eq]
  generalize (lg_sl ([.ref x, .int v1, .int v2, .int v3, .int v4, .int v5, .int v6]) ++ List.replicate (8 - (lg_sl ([.ref x, .int v1, .int v2, .int v3, .int v4, .int v5, .int v6])).length) Slot.unset).toArray = ls at hl ⊢
  have hl : lv_has ls 8 [(0, .ref x), (1, .int v1), (2, .int v2), (3, .int v3), (4, .int v4), (5, .int v5), (6, .int v6)] := hl
  refine lv_iload_n hx hb dX11_temper_0 rfl (lv_at hl 2 rfl) ?_
  refine lv_iload_n hx hb dX11_temper_1 rfl (lv_at hl 3 rfl) ?_
  refine lv_icmp_ge (tgt := 34) hx hb dX11_temper_2 (by decide) (fun c_1 => ?_) (fun c_1 => ?_)
  · refine lv_iconst (v := 0) hx hb dX11_temper_34 (by decide) ?_
    refine W.widen (k := 0) (n := 0) (Nat.le_of_ble_eq_true rfl) (Nat.le_of_ble_eq_true rfl) ?_
    exact W.zret (v := 0) (ty := .boolean) hx hb hr rfl (fun t ht hW => ⟨⟨0, (), rfl, (by first | rfl | (simp [sp_temper, c_1]; done)), trivial⟩, hS.F ht⟩) hS.2.2 dX11_temper_35
  · refine lv_iload_n hx hb dX11_temper_5 rfl (lv_at hl 3 rfl) ?_
    refine lv_iload hx hb dX11_temper_6 (lv_at hl 4 rfl) ?_
    refine lv_icmp_gt (tgt := 34) hx hb dX11_temper_8 (by decide) (fun c_2 => ?_) (fun c_2 => ?_)
    · refine lv_iconst (v := 0) hx hb dX11_temper_34 (by decide) ?_
      refine W.widen (k := 0) (n := 0) (Nat.le_of_ble_eq_true rfl) (Nat.le_of_ble_eq_true rfl) ?_
      exact W.zret (v := 0) (ty := .boolean) hx hb hr rfl (fun t ht hW => ⟨⟨0, (), rfl, (by first | rfl | (simp [sp_temper, c_1, c_2]; done)), trivial⟩, hS.F ht⟩) hS.2.2 dX11_temper_35
    · refine lv_iload hx hb dX11_temper_11 (lv_at hl 4 rfl) ?_
      refine lv_iload_n hx hb dX11_temper_13 rfl (lv_at hl 1 rfl) ?_
      refine lv_icmp_ge (tgt := 34) hx hb dX11_temper_14 (by decide) (fun c_3 => ?_) (fun c_3 => ?_)
      · refine lv_iconst (v := 0) hx hb dX11_temper_34 (by decide) ?_
        refine W.widen (k := 0) (n := 0) (Nat.le_of_ble_eq_true rfl) (Nat.le_of_ble_eq_true rfl) ?_
        exact W.zret (v := 0) (ty := .boolean) hx hb hr rfl (fun t ht hW => ⟨⟨0, (), rfl, (by first | rfl | (simp [sp_temper, c_1, c_2, c_3]; done)), trivial⟩, hS.F ht⟩) hS.2.2 dX11_temper_35
      · refine lv_iload hx hb dX11_temper_17 (lv_at hl 5 rfl) ?_
        refine lv_iload_n hx hb dX11_temper_19 rfl (lv_at hl 3 rfl) ?_
        refine lv_icmp_gt (tgt := 34) hx hb dX11_temper_20 (by decide) (fun c_4 => ?_) (fun c_4 => ?_)
        · refine lv_iconst (v := 0) hx hb dX11_temper_34 (by decide) ?_
          refine W.widen (k := 0) (n := 0) (Nat.le_of_ble_eq_true rfl) (Nat.le_of_ble_eq_true rfl) ?_
          exact W.zret (v := 0) (ty := .boolean) hx hb hr rfl (fun t ht hW => ⟨⟨0, (), rfl, (by first | rfl | (simp [sp_temper, c_1, c_2, c_3, c_4]; done)), trivial⟩, hS.F ht⟩) hS.2.2 dX11_temper_35
        · refine lv_iload hx hb dX11_temper_23 (lv_at hl 6 rfl) ?_
          refine lv_iconst (v := 1) hx hb dX11_temper_25 (by decide) ?_
          refine lv_bipush (v := 20) hx hb dX11_temper_26 (by decide) ?_
          have hPc := hP.sub (ws' := []) [] rfl
          have hKc := hK.sub (tys' := []) [] rfl
          refine pc_i (va_runS (As := [.int v6, .int 1, .int 20]) (rest := []) ⟨hx, hb, hml, hown, hts⟩ (c_isIn l dC dI v6 1 20) (⟨callB_of 3 hts (gd mw_1057) rfl rfl rfl (hts _ mw_8) (hts _ mw_1055) ds_X11_isIn ⟨Nat.le_of_ble_eq_true rfl, Nat.le_of_ble_eq_true rfl⟩, (hts _ mw_1056)⟩) (pu_S hPc hKc hE) rfl rfl hl.1 rfl (lv_room (Nat.le_of_ble_eq_true rfl)) dX11_temper_28 ⟨Nat.le_of_ble_eq_true rfl, Nat.le_of_ble_eq_true rfl⟩) (fun r_ hw_ => ?_)
          obtain rfl : r_ = (wi v6 1 20) := hw_
          refine lv_if_ne (tgt := 36) hx hb dX11_temper_31 (by decide) (fun c_6 => ?_) (fun c_6 => ?_)
          · refine lv_aload_n hx hb dX11_temper_36 rfl (lv_at hl 0 rfl) ?_
            refine va_get (D := (dC, dI)) (ci := 11) (v := .ref (a 33)) (C := RX11) (T := TX11) (N := 56) hx hb hts inX11 hown hK hP 0 rfl rfl 33 (by decide) (hts _ mw_913) (fun _ h9 => h9) rfl dX11_temper_37 ?_
            refine lv_iconst (v := 0) hx hb dX11_temper_40 (by decide) ?_
            refine lv_iload_n hx hb dX11_temper_41 rfl (lv_at hl 1 rfl) ?_
            refine va_iast hx hb hK hP hD hS 1 0 rfl rfl (by unfold vp_in; decide) dX11_temper_42 (fun H locs hP hD hS => ?_)
            have hP : va_P (dC, dI) vwCl [(x, .inr (11, (mO a))), ((a 33), .inl ((cy 33), 6, .inl (upd (upd (upd (upd (upd (upd (upd (fun _ => 0) (0 : Int32).toNatClampNeg 450) (1 : Int32).toNatClampNeg 270) (2 : Int32).toNatClampNeg 310) (3 : Int32).toNatClampNeg 320) (4 : Int32).toNatClampNeg 290) (5 : Int32).toNatClampNeg 2) (0 : Int32).toNatClampNeg v1)))] H := hP
            have hD : va_D A [(x, .inr (11, (mO a))), ((a 33), .inl ((cy 33), 6, .inl (upd (upd (upd (upd (upd (upd (upd (fun _ => 0) (0 : Int32).toNatClampNeg 450) (1 : Int32).toNatClampNeg 270) (2 : Int32).toNatClampNeg 310) (3 : Int32).toNatClampNeg 320) (4 : Int32).toNatClampNeg 290) (5 : Int32).toNatClampNeg 2) (0 : Int32).toNatClampNeg v1)))] := hD
            refine lv_aload_n hx hb dX11_temper_43 rfl (lv_at hl 0 rfl) ?_
            refine va_get (D := (dC, dI)) (ci := 11) (v := .ref (a 33)) (C := RX11) (T := TX11) (N := 56) hx hb hts inX11 hown hK hP 0 rfl rfl 33 (by decide) (hts _ mw_913) (fun _ h9 => h9) rfl dX11_temper_44 ?_
            refine lv_iconst (v := 1) hx hb dX11_temper_47 (by decide) ?_
            refine lv_iload_n hx hb dX11_temper_48 rfl (lv_at hl 2 rfl) ?_
            refine va_iast hx hb hK hP hD hS 1 0 rfl rfl (by unfold vp_in; decide) dX11_temper_49 (fun H locs hP hD hS => ?_)
            have hP : va_P (dC, dI) vwCl [(x, .inr (11, (mO a))), ((a 33), .inl ((cy 33), 6, .inl (upd (upd (upd (upd (upd (upd (upd (upd (fun _ => 0) (0 : Int32).toNatClampNeg 450) (1 : Int32).toNatClampNeg 270) (2 : Int32).toNatClampNeg 310) (3 : Int32).toNatClampNeg 320) (4 : Int32).toNatClampNeg 290) (5 : Int32).toNatClampNeg 2) (0 : Int32).toNatClampNeg v1) (1 : Int32).toNatClampNeg v2)))] H := hP
            have hD : va_D A [(x, .inr (11, (mO a))), ((a 33), .inl ((cy 33), 6, .inl (upd (upd (upd (upd (upd (upd (upd (upd (fun _ => 0) (0 : Int32).toNatClampNeg 450) (1 : Int32).toNatClampNeg 270) (2 : Int32).toNatClampNeg 310) (3 : Int32).toNatClampNeg 320) (4 : Int32).toNatClampNeg 290) (5 : Int32).toNatClampNeg 2) (0 : Int32).toNatClampNeg v1) (1 : Int32).toNatClampNeg v2)))] := hD
            refine lv_aload_n hx hb dX11_temper_50 rfl (lv_at hl 0 rfl) ?_
            refine va_get (D := (dC, dI)) (ci := 11) (v := .ref (a 33)) (C := RX11) (T := TX11) (N := 56) hx hb hts inX11 hown hK hP 0 rfl rfl 33 (by decide) (hts _ mw_913) (fun _ h9 => h9) rfl dX11_temper_51 ?_
            refine lv_iconst (v := 2) hx hb dX11_temper_54 (by decide) ?_
            refine lv_iload_n hx hb dX11_temper_55 rfl (lv_at hl 3 rfl) ?_
            refine va_iast hx hb hK hP hD hS 1 0 rfl rfl (by unfold vp_in; decide) dX11_temper_56 (fun H locs hP hD hS => ?_)
            have hP : va_P (dC, dI) vwCl [(x, .inr (11, (mO a))), ((a 33), .inl ((cy 33), 6, .inl (upd (upd (upd (upd (upd (upd (upd (upd (upd (fun _ => 0) (0 : Int32).toNatClampNeg 450) (1 : Int32).toNatClampNeg 270) (2 : Int32).toNatClampNeg 310) (3 : Int32).toNatClampNeg 320) (4 : Int32).toNatClampNeg 290) (5 : Int32).toNatClampNeg 2) (0 : Int32).toNatClampNeg v1) (1 : Int32).toNatClampNeg v2) (2 : Int32).toNatClampNeg v3)))] H := hP
            have hD : va_D A [(x, .inr (11, (mO a))), ((a 33), .inl ((cy 33), 6, .inl (upd (upd (upd (upd (upd (upd (upd (upd (upd (fun _ => 0) (0 : Int32).toNatClampNeg 450) (1 : Int32).toNatClampNeg 270) (2 : Int32).toNatClampNeg 310) (3 : Int32).toNatClampNeg 320) (4 : Int32).toNatClampNeg 290) (5 : Int32).toNatClampNeg 2) (0 : Int32).toNatClampNeg v1) (1 : Int32).toNatClampNeg v2) (2 : Int32).toNatClampNeg v3)))] := hD
            refine lv_aload_n hx hb dX11_temper_57 rfl (lv_at hl 0 rfl) ?_
            refine va_get (D := (dC, dI)) (ci := 11) (v := .ref (a 33)) (C := RX11) (T := TX11) (N := 56) hx hb hts inX11 hown hK hP 0 rfl rfl 33 (by decide) (hts _ mw_913) (fun _ h9 => h9) rfl dX11_temper_58 ?_
            refine lv_iconst (v := 3) hx hb dX11_temper_61 (by decide) ?_
            refine lv_iload hx hb dX11_temper_62 (lv_at hl 4 rfl) ?_
            refine va_iast hx hb hK hP hD hS 1 0 rfl rfl (by unfold vp_in; decide) dX11_temper_64 (fun H locs hP hD hS => ?_)
            have hP : va_P (dC, dI) vwCl [(x, .inr (11, (mO a))), ((a 33), .inl ((cy 33), 6, .inl (upd (upd (upd (upd (upd (upd (upd (upd (upd (upd (fun _ => 0) (0 : Int32).toNatClampNeg 450) (1 : Int32).toNatClampNeg 270) (2 : Int32).toNatClampNeg 310) (3 : Int32).toNatClampNeg 320) (4 : Int32).toNatClampNeg 290) (5 : Int32).toNatClampNeg 2) (0 : Int32).toNatClampNeg v1) (1 : Int32).toNatClampNeg v2) (2 : Int32).toNatClampNeg v3) (3 : Int32).toNatClampNeg v4)))] H := hP
            have hD : va_D A [(x, .inr (11, (mO a))), ((a 33), .inl ((cy 33), 6, .inl (upd (upd (upd (upd (upd (upd (upd (upd (upd (upd (fun _ => 0) (0 : Int32).toNatClampNeg 450) (1 : Int32).toNatClampNeg 270) (2 : Int32).toNatClampNeg 310) (3 : Int32).toNatClampNeg 320) (4 : Int32).toNatClampNeg 290) (5 : Int32).toNatClampNeg 2) (0 : Int32).toNatClampNeg v1) (1 : Int32).toNatClampNeg v2) (2 : Int32).toNatClampNeg v3) (3 : Int32).toNatClampNeg v4)))] := hD
            refine lv_aload_n hx hb dX11_temper_65 rfl (lv_at hl 0 rfl) ?_
            refine va_get (D := (dC, dI)) (ci := 11) (v := .ref (a 33)) (C := RX11) (T := TX11) (N := 56) hx hb hts inX11 hown hK hP 0 rfl rfl 33 (by decide) (hts _ mw_913) (fun _ h9 => h9) rfl dX11_temper_66 ?_
            refine lv_iconst (v := 4) hx hb dX11_temper_69 (by decide) ?_
            refine lv_iload hx hb dX11_temper_70 (lv_at hl 5 rfl) ?_
            refine va_iast hx hb hK hP hD hS 1 0 rfl rfl (by unfold vp_in; decide) dX11_temper_72 (fun H locs hP hD hS => ?_)
            have hP : va_P (dC, dI) vwCl [(x, .inr (11, (mO a))), ((a 33), .inl ((cy 33), 6, .inl (upd (upd (upd (upd (upd (upd (upd (upd (upd (upd (upd (fun _ => 0) (0 : Int32).toNatClampNeg 450) (1 : Int32).toNatClampNeg 270) (2 : Int32).toNatClampNeg 310) (3 : Int32).toNatClampNeg 320) (4 : Int32).toNatClampNeg 290) (5 : Int32).toNatClampNeg 2) (0 : Int32).toNatClampNeg v1) (1 : Int32).toNatClampNeg v2) (2 : Int32).toNatClampNeg v3) (3 : Int32).toNatClampNeg v4) (4 : Int32).toNatClampNeg v5)))] H := hP
            have hD : va_D A [(x, .inr (11, (mO a))), ((a 33), .inl ((cy 33), 6, .inl (upd (upd (upd (upd (upd (upd (upd (upd (upd (upd (upd (fun _ => 0) (0 : Int32).toNatClampNeg 450) (1 : Int32).toNatClampNeg 270) (2 : Int32).toNatClampNeg 310) (3 : Int32).toNatClampNeg 320) (4 : Int32).toNatClampNeg 290) (5 : Int32).toNatClampNeg 2) (0 : Int32).toNatClampNeg v1) (1 : Int32).toNatClampNeg v2) (2 : Int32).toNatClampNeg v3) (3 : Int32).toNatClampNeg v4) (4 : Int32).toNatClampNeg v5)))] := hD
            refine lv_aload_n hx hb dX11_temper_73 rfl (lv_at hl 0 rfl) ?_
            refine va_get (D := (dC, dI)) (ci := 11) (v := .ref (a 33)) (C := RX11) (T := TX11) (N := 56) hx hb hts inX11 hown hK hP 0 rfl rfl 33 (by decide) (hts _ mw_913) (fun _ h9 => h9) rfl dX11_temper_74 ?_
            refine lv_iconst (v := 5) hx hb dX11_temper_77 (by decide) ?_
            refine lv_iload hx hb dX11_temper_78 (lv_at hl 6 rfl) ?_
            refine va_iast hx hb hK hP hD hS 1 0 rfl rfl (by unfold vp_in; decide) dX11_temper_80 (fun H locs hP hD hS => ?_)
            have hP : va_P (dC, dI) vwCl [(x, .inr (11, (mO a))), ((a 33), .inl ((cy 33), 6, .inl (upd (upd (upd (upd (upd (upd (upd (upd (upd (upd (upd (upd (fun _ => 0) (0 : Int32).toNatClampNeg 450) (1 : Int32).toNatClampNeg 270) (2 : Int32).toNatClampNeg 310) (3 : Int32).toNatClampNeg 320) (4 : Int32).toNatClampNeg 290) (5 : Int32).toNatClampNeg 2) (0 : Int32).toNatClampNeg v1) (1 : Int32).toNatClampNeg v2) (2 : Int32).toNatClampNeg v3) (3 : Int32).toNatClampNeg v4) (4 : Int32).toNatClampNeg v5) (5 : Int32).toNatClampNeg v6)))] H := hP
            have hD : va_D A [(x, .inr (11, (mO a))), ((a 33), .inl ((cy 33), 6, .inl (upd (upd (upd (upd (upd (upd (upd (upd (upd (upd (upd (upd (fun _ => 0) (0 : Int32).toNatClampNeg 450) (1 : Int32).toNatClampNeg 270) (2 : Int32).toNatClampNeg 310) (3 : Int32).toNatClampNeg 320) (4 : Int32).toNatClampNeg 290) (5 : Int32).toNatClampNeg 2) (0 : Int32).toNatClampNeg v1) (1 : Int32).toNatClampNeg v2) (2 : Int32).toNatClampNeg v3) (3 : Int32).toNatClampNeg v4) (4 : Int32).toNatClampNeg v5) (5 : Int32).toNatClampNeg v6)))] := hD
            refine lv_iconst (v := 0) hx hb dX11_temper_81 (by decide) ?_
            refine lv_istore (lv' := [(7, .int 0), (0, .ref x), (1, .int v1), (2, .int v2), (3, .int v3), (4, .int v4), (5, .int v5), (6, .int v6)]) hx hb dX11_temper_82 hl (by decide) rfl (fun ls hl => ?_)
            refine lv_iload hx hb dX11_temper_84 (lv_at hl 0 rfl) ?_
            refine lv_aload_n hx hb dX11_temper_86 rfl (lv_at hl 1 rfl) ?_
            refine va_get (D := (dC, dI)) (ci := 11) (v := .int 0) (C := RX11) (T := TX11) (N := 56) hx hb hts inX11 hown hK hP 0 rfl rfl 1 (by decide) (hts _ mw_881) (fun _ h9 => h9) rfl dX11_temper_87 ?_
            refine lv_icmp_ge (tgt := 115) hx hb dX11_temper_90 (by decide) (fun c_ => ?_) (fun c_ => absurd c_ (by decide))
            refine lv_iconst (v := 1) hx hb dX11_temper_115 (by decide) ?_
            refine W.widen (k := 0) (n := 0) (Nat.le_of_ble_eq_true rfl) (Nat.le_of_ble_eq_true rfl) ?_
            exact W.zret (v := 1) (ty := .boolean) hx hb hr rfl (fun t ht hW => ⟨⟨1, (), rfl, (by first | rfl | (simp [sp_temper, c_1, c_2, c_3, c_4, c_6]; done)), trivial⟩, hS.F ht⟩) hS.2.2 dX11_temper_116
          · refine lv_iconst (v := 0) hx hb dX11_temper_34 (by decide) ?_
            refine W.widen (k := 0) (n := 0) (Nat.le_of_ble_eq_true rfl) (Nat.le_of_ble_eq_true rfl) ?_
            exact W.zret (v := 0) (ty := .boolean) hx hb hr rfl (fun t ht hW => ⟨⟨0, (), rfl, (by first | rfl | (simp [sp_temper, c_1, c_2, c_3, c_4, c_6]; done)), trivial⟩, hS.F ht⟩) hS.2.2 dX11_temper_35

set_option maxHeartbeats 4000000 in
set_option maxRecDepth 100000 in
theorem m_at (l : Launch) (dC : Nat → ClassId) (dI : Nat → Nat → Nat) (x : Nat) (a : Nat → Nat) (cy : Nat → ClassId) (v1 v2 : Int32) : Met l yX11_at (Cond.code yX11_at cX11_at 3 (some .int) :: gT) ({ frames := 2, cells := 0, slots := 0, locals := 82 }) (va_Pc [.ref x, .int v1, .int v2] (pu (dC, dI) [(x, .inr (11, (mO a))), ((a 43), .inl ((cy 43), 144, .inl (fun _ => (-1))))] [((cy 43), .int)])) (vp_Si (fun r => r = -1)) 0 0 (fun _ => False) := by
  refine Met.ofW (cc := cX11_at) (maxL := 3) (ret := (some .int)) (by decide) rfl ?_
  intro p e s m args below meth c s₁ B hml hv
  obtain ⟨rfl, hP, hK, hE⟩ := hv
  have hx := B.exec
  have hb := B.bytes
  have hr := B.returns
  have hts : ∀ w ∈ gT, w.before _ s = true := fun w h => atoms_spec (ws := Cond.code yX11_at cX11_at 3 (some .int) :: gT) B.pre w (List.mem_cons_of_mem _ h)
  have hown : s.vm.findClass RX11 = some m.cls := findClass_of_methodNamed B.named
  have hlocks := B.notSynchronized
  have hl := lv_entry ([.ref x, .int v1, .int v2]) (n := 3) (Nat.le_of_ble_eq_true rfl)
  rw [lg_entry_eq]
  generalize (lg_sl ([.ref x, .int v1, .int v2]) ++ List.replicate (3 - (lg_sl ([.ref x, .int v1, .int v2])).length) Slot.unset).toArray = ls at hl ⊢
  have hl : lv_has ls 3 [(0, .ref x), (1, .int v1), (2, .int v2)] := hl
  refine lv_iload_n hx hb dX11_at_0 rfl (lv_at hl 1 rfl) ?_
  refine lv_iconst (v := 0) hx hb dX11_at_1 (by decide) ?_
  refine lv_iconst (v := 5) hx hb dX11_at_2 (by decide) ?_
  have hPc := hP.sub (ws' := []) [] rfl
  have hKc := hK.sub (tys' := []) [] rfl
  refine pc_i (va_runS (As := [.int v1, .int 0, .int 5]) (rest := []) ⟨hx, hb, hml, hown, hts⟩ (c_isIn l dC dI v1 0 5) (⟨callB_of 3 hts (gd mw_1057) rfl rfl rfl (hts _ mw_8) (hts _ mw_1055) ds_X11_isIn ⟨Nat.le_of_ble_eq_true rfl, Nat.le_of_ble_eq_true rfl⟩, (hts _ mw_1056)⟩) (pu_S hPc hKc hE) rfl rfl hl.1 rfl (lv_room (Nat.le_of_ble_eq_true rfl)) dX11_at_3 ⟨Nat.le_of_ble_eq_true rfl, Nat.le_of_ble_eq_true rfl⟩) (fun r_ hw_ => ?_)
  obtain rfl : r_ = (wi v1 0 5) := hw_
  refine lv_if_eq (tgt := 33) hx hb dX11_at_6 (by decide) (fun c_2 => ?_) (fun c_2 => ?_)
  · refine lv_iconst (v := (-1)) hx hb dX11_at_33 (by decide) ?_
    exact W.iret (v := (-1)) hx hb hr (fun t ht hW => ⟨(-1), rfl, (by first | rfl | (simp [c_2]; done)), ht⟩) (fun q h => absurd h List.not_mem_nil) dX11_at_34
  · refine lv_iload_n hx hb dX11_at_9 rfl (lv_at hl 2 rfl) ?_
    refine lv_iconst (v := 0) hx hb dX11_at_10 (by decide) ?_
    refine lv_bipush (v := 23) hx hb dX11_at_11 (by decide) ?_
    have hPc := hP.sub (ws' := []) [] rfl
    have hKc := hK.sub (tys' := []) [] rfl
    refine pc_i (va_runS (As := [.int v2, .int 0, .int 23]) (rest := []) ⟨hx, hb, hml, hown, hts⟩ (c_isIn l dC dI v2 0 23) (⟨callB_of 3 hts (gd mw_1057) rfl rfl rfl (hts _ mw_8) (hts _ mw_1055) ds_X11_isIn ⟨Nat.le_of_ble_eq_true rfl, Nat.le_of_ble_eq_true rfl⟩, (hts _ mw_1056)⟩) (pu_S hPc hKc hE) rfl rfl hl.1 rfl (lv_room (Nat.le_of_ble_eq_true rfl)) dX11_at_13 ⟨Nat.le_of_ble_eq_true rfl, Nat.le_of_ble_eq_true rfl⟩) (fun r_ hw_ => ?_)
    obtain rfl : r_ = (wi v2 0 23) := hw_
    refine lv_if_eq (tgt := 33) hx hb dX11_at_16 (by decide) (fun c_4 => ?_) (fun c_4 => ?_)
    · refine lv_iconst (v := (-1)) hx hb dX11_at_33 (by decide) ?_
      exact W.iret (v := (-1)) hx hb hr (fun t ht hW => ⟨(-1), rfl, (by first | rfl | (simp [c_2, c_4]; done)), ht⟩) (fun q h => absurd h List.not_mem_nil) dX11_at_34
    · refine lv_aload_n hx hb dX11_at_19 rfl (lv_at hl 0 rfl) ?_
      refine va_get (D := (dC, dI)) (ci := 11) (v := .ref (a 43)) (C := RX11) (T := TX11) (N := 56) hx hb hts inX11 hown hK hP 0 rfl rfl 43 (by decide) (hts _ mw_923) (fun _ h9 => h9) rfl dX11_at_20 ?_
      refine lv_bipush (v := 24) hx hb dX11_at_23 (by decide) ?_
      refine lv_iload_n hx hb dX11_at_25 rfl (lv_at hl 1 rfl) ?_
      refine lv_imul hx hb dX11_at_26 ?_
      refine lv_iload_n hx hb dX11_at_27 rfl (lv_at hl 2 rfl) ?_
      refine lv_iadd hx hb dX11_at_28 ?_
      refine va_iald hx hb hK hP 1 0 rfl rfl (gr_in (A := 6) (B := 24) (wi_vp c_2 (by decide)) (wi_vp c_4 (by decide)) (by decide) (w := 24) (by decide) (by decide) (by decide)).2 dX11_at_29 ?_
      refine lv_topi (fun y_ e_ => ?_)
      obtain rfl : y_ = (-1) := e_
      refine lv_goto (tgt := 34) hx hb dX11_at_30 (by decide) ?_
      exact W.iret (v := (-1)) hx hb hr (fun t ht hW => ⟨(-1), rfl, (by first | rfl | (simp [c_2, c_4]; done)), ht⟩) (fun q h => absurd h List.not_mem_nil) dX11_at_34

set_option maxHeartbeats 4000000 in
set_option maxRecDepth 100000 in
theorem m_wash (l : Launch) (dC : Nat → ClassId) (dI : Nat → Nat → Nat) (sz : Nat) (x : Nat) (a : Nat → Nat) (cy : Nat → ClassId) (v1 v2 v3 : Int32) : Met l yX11_wash (Cond.code yX11_wash cX11_wash 4 (some .boolean) :: gT) ({ frames := 2, cells := 0, slots := 0, locals := 82 }) (va_Pc [.ref x, .int v1, .int v2, .int v3] (pr (dC, dI) sz [(x, .inr (11, (mO a))), ((a 34), .inl ((cy 34), 36, .inl (fun _ => 0)))] [((cy 34), .int)])) (va_Qi (fun (r : Int32) (_ : Unit) => r = sp_wash v1 v2 v3) (fun _ _ => True) (va_A [(x, .inr (11, (mO a))), ((a 34), .inl ((cy 34), 36, .inl (fun _ => 0)))] sz)) 0 0 (va_A [(x, .inr (11, (mO a))), ((a 34), .inl ((cy 34), 36, .inl (fun _ => 0)))] sz) := by
  refine Met.ofW (cc := cX11_wash) (maxL := 4) (ret := (some .boolean)) (by decide) rfl ?_
  intro p e s m args below meth c s₁ B hml hv
  obtain ⟨rfl, hsz, hP, hK, hD0, hE⟩ := hv
  have hx := B.exec
  have hb := B.bytes
  have hr := B.returns
  have hts : ∀ w ∈ gT, w.before _ s = true := fun w h => atoms_spec (ws := Cond.code yX11_wash cX11_wash 4 (some .boolean) :: gT) B.pre w (List.mem_cons_of_mem _ h)
  have hown : s.vm.findClass RX11 = some m.cls := findClass_of_methodNamed B.named
  have hlocks := B.notSynchronized
  subst hsz
  have hD := hD0.self (sz := s.heap.size)
  generalize hAe : va_A [(x, .inr (11, (mO a))), ((a 34), .inl ((cy 34), 36, .inl (fun _ => 0)))] s.heap.size = A at hD ⊢
  have hA : ∀ q : Nat, s.heap.size ≤ q → A q := fun q h => by rw [← hAe]; exact Or.inr h
  have hS : va_S A s.heap s.heap [] := va_S.rf
  have hl := lv_entry ([.ref x, .int v1, .int v2, .int v3]) (n := 4) (Nat.le_of_ble_eq_true rfl)
  rw [lg_entry_eq]
  generalize (lg_sl ([.ref x, .int v1, .int v2, .int v3]) ++ List.replicate (4 - (lg_sl ([.ref x, .int v1, .int v2, .int v3])).length) Slot.unset).toArray = ls at hl ⊢
  have hl : lv_has ls 4 [(0, .ref x), (1, .int v1), (2, .int v2), (3, .int v3)] := hl
  refine lv_iload_n hx hb dX11_wash_0 rfl (lv_at hl 1 rfl) ?_
  refine lv_iconst (v := 0) hx hb dX11_wash_1 (by decide) ?_
  refine lv_iconst (v := 5) hx hb dX11_wash_2 (by decide) ?_
  have hPc := hP.sub (ws' := []) [] rfl
  have hKc := hK.sub (tys' := []) [] rfl
  refine pc_i (va_runS (As := [.int v1, .int 0, .int 5]) (rest := []) ⟨hx, hb, hml, hown, hts⟩ (c_isIn l dC dI v1 0 5) (⟨callB_of 3 hts (gd mw_1057) rfl rfl rfl (hts _ mw_8) (hts _ mw_1055) ds_X11_isIn ⟨Nat.le_of_ble_eq_true rfl, Nat.le_of_ble_eq_true rfl⟩, (hts _ mw_1056)⟩) (pu_S hPc hKc hE) rfl rfl hl.1 rfl (lv_room (Nat.le_of_ble_eq_true rfl)) dX11_wash_3 ⟨Nat.le_of_ble_eq_true rfl, Nat.le_of_ble_eq_true rfl⟩) (fun r_ hw_ => ?_)
  obtain rfl : r_ = (wi v1 0 5) := hw_
  refine lv_if_eq (tgt := 29) hx hb dX11_wash_6 (by decide) (fun c_2 => ?_) (fun c_2 => ?_)
  · refine lv_iconst (v := 0) hx hb dX11_wash_29 (by decide) ?_
    refine W.widen (k := 0) (n := 0) (Nat.le_of_ble_eq_true rfl) (Nat.le_of_ble_eq_true rfl) ?_
    exact W.zret (v := 0) (ty := .boolean) hx hb hr rfl (fun t ht hW => ⟨⟨0, (), rfl, (by first | rfl | (simp [sp_wash, c_2]; done)), trivial⟩, hS.F ht⟩) hS.2.2 dX11_wash_30
  · refine lv_iload_n hx hb dX11_wash_9 rfl (lv_at hl 2 rfl) ?_
    refine lv_iconst (v := 0) hx hb dX11_wash_10 (by decide) ?_
    refine lv_iconst (v := 5) hx hb dX11_wash_11 (by decide) ?_
    have hPc := hP.sub (ws' := []) [] rfl
    have hKc := hK.sub (tys' := []) [] rfl
    refine pc_i (va_runS (As := [.int v2, .int 0, .int 5]) (rest := []) ⟨hx, hb, hml, hown, hts⟩ (c_isIn l dC dI v2 0 5) (⟨callB_of 3 hts (gd mw_1057) rfl rfl rfl (hts _ mw_8) (hts _ mw_1055) ds_X11_isIn ⟨Nat.le_of_ble_eq_true rfl, Nat.le_of_ble_eq_true rfl⟩, (hts _ mw_1056)⟩) (pu_S hPc hKc hE) rfl rfl hl.1 rfl (lv_room (Nat.le_of_ble_eq_true rfl)) dX11_wash_12 ⟨Nat.le_of_ble_eq_true rfl, Nat.le_of_ble_eq_true rfl⟩) (fun r_ hw_ => ?_)
    obtain rfl : r_ = (wi v2 0 5) := hw_
    refine lv_if_eq (tgt := 29) hx hb dX11_wash_15 (by decide) (fun c_4 => ?_) (fun c_4 => ?_)
    · refine lv_iconst (v := 0) hx hb dX11_wash_29 (by decide) ?_
      refine W.widen (k := 0) (n := 0) (Nat.le_of_ble_eq_true rfl) (Nat.le_of_ble_eq_true rfl) ?_
      exact W.zret (v := 0) (ty := .boolean) hx hb hr rfl (fun t ht hW => ⟨⟨0, (), rfl, (by first | rfl | (simp [sp_wash, c_2, c_4]; done)), trivial⟩, hS.F ht⟩) hS.2.2 dX11_wash_30
    · refine lv_iload_n hx hb dX11_wash_18 rfl (lv_at hl 3 rfl) ?_
      refine lv_iconst (v := 0) hx hb dX11_wash_19 (by decide) ?_
      refine lv_sipush (v := 600) hx hb dX11_wash_20 (by decide) ?_
      have hPc := hP.sub (ws' := []) [] rfl
      have hKc := hK.sub (tys' := []) [] rfl
      refine pc_i (va_runS (As := [.int v3, .int 0, .int 600]) (rest := []) ⟨hx, hb, hml, hown, hts⟩ (c_isIn l dC dI v3 0 600) (⟨callB_of 3 hts (gd mw_1057) rfl rfl rfl (hts _ mw_8) (hts _ mw_1055) ds_X11_isIn ⟨Nat.le_of_ble_eq_true rfl, Nat.le_of_ble_eq_true rfl⟩, (hts _ mw_1056)⟩) (pu_S hPc hKc hE) rfl rfl hl.1 rfl (lv_room (Nat.le_of_ble_eq_true rfl)) dX11_wash_23 ⟨Nat.le_of_ble_eq_true rfl, Nat.le_of_ble_eq_true rfl⟩) (fun r_ hw_ => ?_)
      obtain rfl : r_ = (wi v3 0 600) := hw_
      refine lv_if_ne (tgt := 31) hx hb dX11_wash_26 (by decide) (fun c_6 => ?_) (fun c_6 => ?_)
      · refine lv_aload_n hx hb dX11_wash_31 rfl (lv_at hl 0 rfl) ?_
        refine va_get (D := (dC, dI)) (ci := 11) (v := .ref (a 34)) (C := RX11) (T := TX11) (N := 56) hx hb hts inX11 hown hK hP 0 rfl rfl 34 (by decide) (hts _ mw_914) (fun _ h9 => h9) rfl dX11_wash_32 ?_
        refine lv_bipush (v := 6) hx hb dX11_wash_35 (by decide) ?_
        refine lv_iload_n hx hb dX11_wash_37 rfl (lv_at hl 1 rfl) ?_
        refine lv_imul hx hb dX11_wash_38 ?_
        refine lv_iload_n hx hb dX11_wash_39 rfl (lv_at hl 2 rfl) ?_
        refine lv_iadd hx hb dX11_wash_40 ?_
        refine lv_iload_n hx hb dX11_wash_41 rfl (lv_at hl 3 rfl) ?_
        refine va_iast hx hb hK hP hD hS 1 0 rfl rfl (gr_in (A := 6) (B := 6) (wi_vp c_2 (by decide)) (wi_vp c_4 (by decide)) (by decide) (w := 6) (by decide) (by decide) (by decide)).2 dX11_wash_42 (fun H locs hP hD hS => ?_)
        have hP : va_P (dC, dI) vwCl [(x, .inr (11, (mO a))), ((a 34), .inl ((cy 34), 36, .inl (upd (fun _ => 0) (((6 * v1) + v2) : Int32).toNatClampNeg v3)))] H := hP
        have hD : va_D A [(x, .inr (11, (mO a))), ((a 34), .inl ((cy 34), 36, .inl (upd (fun _ => 0) (((6 * v1) + v2) : Int32).toNatClampNeg v3)))] := hD
        refine lv_iconst (v := 1) hx hb dX11_wash_43 (by decide) ?_
        refine W.widen (k := 0) (n := 0) (Nat.le_of_ble_eq_true rfl) (Nat.le_of_ble_eq_true rfl) ?_
        exact W.zret (v := 1) (ty := .boolean) hx hb hr rfl (fun t ht hW => ⟨⟨1, (), rfl, (by first | rfl | (simp [sp_wash, c_2, c_4, c_6]; done)), trivial⟩, hS.F ht⟩) hS.2.2 dX11_wash_44
      · refine lv_iconst (v := 0) hx hb dX11_wash_29 (by decide) ?_
        refine W.widen (k := 0) (n := 0) (Nat.le_of_ble_eq_true rfl) (Nat.le_of_ble_eq_true rfl) ?_
        exact W.zret (v := 0) (ty := .boolean) hx hb hr rfl (fun t ht hW => ⟨⟨0, (), rfl, (by first | rfl | (simp [sp_wash, c_2, c_4, c_6]; done)), trivial⟩, hS.F ht⟩) hS.2.2 dX11_wash_30

set_option maxHeartbeats 4000000 in
set_option maxRecDepth 100000 in
theorem m_queue (l : Launch) (dC : Nat → ClassId) (dI : Nat → Nat → Nat) (sz : Nat) (x : Nat) (a : Nat → Nat) (cy : Nat → ClassId) (v1 : Int32) : Met l yX11_queue (Cond.code yX11_queue cX11_queue 3 (some .int) :: gT) ({ frames := 3, cells := 0, slots := 0, locals := 103 }) (va_Pc [.ref x, .int v1] (pr (dC, dI) sz [(x, .inr (11, (mO a)))] [])) (va_Qi (fun (r : Int32) (_ : Unit) => r = sp_queue v1) (fun _ _ => True) (va_A [(x, .inr (11, (mO a)))] sz)) 0 0 (va_A [(x, .inr (11, (mO a)))] sz) := by
  refine Met.ofW (cc := cX11_queue) (maxL := 3) (ret := (some .int)) (by decide) rfl ?_
  intro p e s m args below meth c s₁ B hml hv
  obtain ⟨rfl, hsz, hP, hK, hD0, hE⟩ := hv
  have hx := B.exec
  have hb := B.bytes
  have hr := B.returns
  have hts : ∀ w ∈ gT, w.before _ s = true := fun w h => atoms_spec (ws := Cond.code yX11_queue cX11_queue 3 (some .int) :: gT) B.pre w (List.mem_cons_of_mem _ h)
  have hown : s.vm.findClass RX11 = some m.cls := findClass_of_methodNamed B.named
  have hlocks := B.notSynchronized
  subst hsz
  have hD := hD0.self (sz := s.heap.size)
  generalize hAe : va_A [(x, .inr (11, (mO a)))] s.heap.size = A at hD ⊢
  have hA : ∀ q : Nat, s.heap.size ≤ q → A q := fun q h => by rw [← hAe]; exact Or.inr h
  have hS : va_S A s.heap s.heap [] := va_S.rf
  have hl := lv_entry ([.ref x, .int v1]) (n := 3) (Nat.le_of_ble_eq_true rfl)
  rw [lg_entry_eq]
  generalize (lg_sl ([.ref x, .int v1]) ++ List.replicate (3 - (lg_sl ([.ref x, .int v1])).length) Slot.unset).toArray = ls at hl ⊢
  have hl : lv_has ls 3 [(0, .ref x), (1, .int v1)] := hl
  refine lv_iload_n hx hb dX11_queue_0 rfl (lv_at hl 1 rfl) ?_
  refine lv_iconst (v := (-1)) hx hb dX11_queue_1 (by decide) ?_
  refine lv_icmp_ne (tgt := 12) hx hb dX11_queue_2 (by decide) (fun c_1 => ?_) (fun c_1 => ?_)
  · refine lv_aload_n hx hb dX11_queue_12 rfl (lv_at hl 0 rfl) ?_
    refine lv_iload_n hx hb dX11_queue_13 rfl (lv_at hl 1 rfl) ?_
    have hPc := hP.sub (ws' := [(x, .inr (11, (mO a)))]) [0] rfl
    have hKc := hK.sub (tys' := []) [] rfl
    refine pc_i (va_runV (As := [.int v1]) (rest := []) ⟨hx, hb, hml, hown, hts⟩ (m_isBatch l dC dI x a cy v1) (⟨callB_of 1 hts (gd mw_1070) rfl rfl rfl (hts _ mw_8) (hts _ mw_1067) ds_X11_isBatch ⟨Nat.le_of_ble_eq_true rfl, Nat.le_of_ble_eq_true rfl⟩, (hts _ mw_1069), (hts _ mp_39)⟩) (pu_V hPc hKc hE (va_recv hKc hPc (ci := 11) (q0 := 0) rfl rfl)) rfl rfl hl.1 rfl (lv_room (Nat.le_of_ble_eq_true rfl)) dX11_queue_14 ⟨Nat.le_of_ble_eq_true rfl, Nat.le_of_ble_eq_true rfl⟩) (fun r_ hw_ => ?_)
    obtain rfl : r_ = 0 := hw_
    refine lv_if_eq (tgt := 29) hx hb dX11_queue_17 (by decide) (fun c_ => ?_) (fun c_ => absurd c_ (by decide))
    refine lv_iconst (v := (-1)) hx hb dX11_queue_29 (by decide) ?_
    refine W.widen (k := 0) (n := 0) (Nat.le_of_ble_eq_true rfl) (Nat.le_of_ble_eq_true rfl) ?_
    exact W.iret (v := (-1)) hx hb hr (fun t ht hW => ⟨⟨(-1), (), rfl, (by first | rfl | (simp [sp_queue, c_1]; done)), trivial⟩, hS.F ht⟩) hS.2.2 dX11_queue_30
  · refine lv_aload_n hx hb dX11_queue_5 rfl (lv_at hl 0 rfl) ?_
    refine lv_iconst (v := 0) hx hb dX11_queue_6 (by decide) ?_
    refine va_put (D := (dC, dI)) (ci := 11) (v := .int 0) (ty := .int) (C := RX11) (T := TX11) (N := 56) hx hb hts inX11 tyX11 tyX11_ok nmX11 hown hK hP hD hS 0 rfl rfl 5 (by decide) (hts _ mw_885) (fun _ h9 => h9) rfl (by decide +kernel) rfl rfl (Nat.le_of_ble_eq_true rfl) dX11_queue_7 (fun H locs hP hD hS => ?_)
    have hP : va_P (dC, dI) vwCl [(x, .inr (11, ((mO a).set 5 (.int 0))))] H := hP
    have hD : va_D A [(x, .inr (11, ((mO a).set 5 (.int 0))))] := hD
    refine lv_iconst (v := 0) hx hb dX11_queue_10 (by decide) ?_
    refine W.widen (k := 0) (n := 0) (Nat.le_of_ble_eq_true rfl) (Nat.le_of_ble_eq_true rfl) ?_
    exact W.iret (v := 0) hx hb hr (fun t ht hW => ⟨⟨0, (), rfl, (by first | rfl | (simp [sp_queue, c_1]; done)), trivial⟩, hS.F ht⟩) hS.2.2 dX11_queue_11

set_option maxHeartbeats 4000000 in
set_option maxRecDepth 100000 in
theorem m_reckon (l : Launch) (dC : Nat → ClassId) (dI : Nat → Nat → Nat) (x : Nat) (a : Nat → Nat) (cy : Nat → ClassId) (v1 : Int32) : Met l yX11_reckon (Cond.code yX11_reckon cX11_reckon 8 none :: gT) ({ frames := 1, cells := 0, slots := 0, locals := 60 }) (va_Pc [.ref x, .int v1] (pu (dC, dI) [(x, .inr (11, (mO a)))] [])) (va_Sv (fun _ => True)) 0 0 (fun _ => False) := by
  refine Met.ofW (cc := cX11_reckon) (maxL := 8) (ret := none) (by decide) rfl ?_
  intro p e s m args below meth c s₁ B hml hv
  obtain ⟨rfl, hP, hK, hE⟩ := hv
  have hx := B.exec
  have hb := B.bytes
  have hr := B.returns
  have hts : ∀ w ∈ gT, w.before _ s = true := fun w h => atoms_spec (ws := Cond.code yX11_reckon cX11_reckon 8 none :: gT) B.pre w (List.mem_cons_of_mem _ h)
  have hown : s.vm.findClass RX11 = some m.cls := findClass_of_methodNamed B.named
  have hlocks := B.notSynchronized
  have hl := lv_entry ([.ref x, .int v1]) (n := 8) (Nat.le_of_ble_eq_true rfl)
  rw [lg_entry_eq]
  generalize (lg_sl ([.ref x, .int v1]) ++ List.replicate (8 - (lg_sl ([.ref x, .int v1])).length) Slot.unset).toArray = ls at hl ⊢
  have hl : lv_has ls 8 [(0, .ref x), (1, .int v1)] := hl
  refine lv_iconst (v := 1) hx hb dX11_reckon_0 (by decide) ?_
  refine lv_aload_n hx hb dX11_reckon_1 rfl (lv_at hl 0 rfl) ?_
  refine va_get (D := (dC, dI)) (ci := 11) (v := .int 0) (C := RX11) (T := TX11) (N := 56) hx hb hts inX11 hown hK hP 0 rfl rfl 5 (by decide) (hts _ mw_885) (fun _ h9 => h9) rfl dX11_reckon_2 ?_
  refine lv_ishl hx hb dX11_reckon_5 ?_
  refine lv_topi (fun y_ e_ => ?_)
  obtain rfl : y_ = 1 := e_.trans (by decide)
  refine lv_iconst (v := 1) hx hb dX11_reckon_6 (by decide) ?_
  refine lv_isub hx hb dX11_reckon_7 ?_
  refine lv_topi (fun y_ e_ => ?_)
  obtain rfl : y_ = 0 := e_.trans (by decide)
  refine lv_istore_n (lv' := [(2, .int 0), (0, .ref x), (1, .int v1)]) hx hb dX11_reckon_8 rfl hl (by decide) rfl (fun ls hl => ?_)
  refine lv_iload_n hx hb dX11_reckon_9 rfl (lv_at hl 0 rfl) ?_
  refine lv_istore_n (lv' := [(3, .int 0), (2, .int 0), (0, .ref x), (1, .int v1)]) hx hb dX11_reckon_10 rfl hl (by decide) rfl (fun ls hl => ?_)
  refine lv_iload_n hx hb dX11_reckon_11 rfl (lv_at hl 0 rfl) ?_
  refine lv_if_le (tgt := 138) hx hb dX11_reckon_12 (by decide) (fun c_ => ?_) (fun c_ => absurd c_ (by decide))
  exact W.vret hx hb hr (fun t ht hW => ⟨rfl, trivial, ht⟩) (fun q h => absurd h List.not_mem_nil) dX11_reckon_138

set_option maxHeartbeats 4000000 in
set_option maxRecDepth 100000 in
theorem m_order (l : Launch) (dC : Nat → ClassId) (dI : Nat → Nat → Nat) (x : Nat) (a : Nat → Nat) (cy : Nat → ClassId) (v1 v2 : Int32) : Met l yX11_order (Cond.code yX11_order cX11_order 11 (some .int) :: gT) ({ frames := 2, cells := 0, slots := 0, locals := 87 }) (va_Pc [.ref x, .int v1, .int v2] (pu (dC, dI) [(x, .inr (11, (mO a)))] [])) (vp_Si (fun r => r = sp_queue v2)) 0 0 (fun _ => False) := by
  refine Met.ofW (cc := cX11_order) (maxL := 11) (ret := (some .int)) (by decide) rfl ?_
  intro p e s m args below meth c s₁ B hml hv
  obtain ⟨rfl, hP, hK, hE⟩ := hv
  have hx := B.exec
  have hb := B.bytes
  have hr := B.returns
  have hts : ∀ w ∈ gT, w.before _ s = true := fun w h => atoms_spec (ws := Cond.code yX11_order cX11_order 11 (some .int) :: gT) B.pre w (List.mem_cons_of_mem _ h)
  have hown : s.vm.findClass RX11 = some m.cls := findClass_of_methodNamed B.named
  have hlocks := B.notSynchronized
  have hl := lv_entry ([.ref x, .int v1, .int v2]) (n := 11) (Nat.le_of_ble_eq_true rfl)
  rw [lg_entry_eq]
  generalize (lg_sl ([.ref x, .int v1, .int v2]) ++ List.replicate (11 - (lg_sl ([.ref x, .int v1, .int v2])).length) Slot.unset).toArray = ls at hl ⊢
  have hl : lv_has ls 11 [(0, .ref x), (1, .int v1), (2, .int v2)] := hl
  refine lv_iload_n hx hb dX11_order_0 rfl (lv_at hl 2 rfl) ?_
  refine lv_iconst (v := (-1)) hx hb dX11_order_1 (by decide) ?_
  refine lv_aload_n hx hb dX11_order_2 rfl (lv_at hl 0 rfl) ?_
  refine va_get (D := (dC, dI)) (ci := 11) (v := .int 0) (C := RX11) (T := TX11) (N := 56) hx hb hts inX11 hown hK hP 0 rfl rfl 5 (by decide) (hts _ mw_885) (fun _ h9 => h9) rfl dX11_order_3 ?_
  refine lv_iconst (v := 1) hx hb dX11_order_6 (by decide) ?_
  refine lv_isub hx hb dX11_order_7 ?_
  refine lv_topi (fun y_ e_ => ?_)
  obtain rfl : y_ = (-1) := e_.trans (by decide)
  have hPc := hP.sub (ws' := []) [] rfl
  have hKc := hK.sub (tys' := []) [] rfl
  refine pc_i (va_runS (As := [.int v2, .int (-1), .int (-1)]) (rest := []) ⟨hx, hb, hml, hown, hts⟩ (c_isIn l dC dI v2 (-1) (-1)) (⟨callB_of 3 hts (gd mw_1057) rfl rfl rfl (hts _ mw_8) (hts _ mw_1055) ds_X11_isIn ⟨Nat.le_of_ble_eq_true rfl, Nat.le_of_ble_eq_true rfl⟩, (hts _ mw_1056)⟩) (pu_S hPc hKc hE) rfl rfl hl.1 rfl (lv_room (Nat.le_of_ble_eq_true rfl)) dX11_order_8 ⟨Nat.le_of_ble_eq_true rfl, Nat.le_of_ble_eq_true rfl⟩) (fun r_ hw_ => ?_)
  obtain rfl : r_ = (wi v2 (-1) (-1)) := hw_
  refine lv_if_ne (tgt := 16) hx hb dX11_order_11 (by decide) (fun c_2 => ?_) (fun c_2 => ?_)
  · refine lv_aload_n hx hb dX11_order_16 rfl (lv_at hl 0 rfl) ?_
    refine lv_iload_n hx hb dX11_order_17 rfl (lv_at hl 1 rfl) ?_
    have hPc := hP.sub (ws' := [(x, .inr (11, (mO a)))]) [0] rfl
    have hKc := hK.sub (tys' := []) [] rfl
    refine pc_v (va_runV (As := [.int v1]) (rest := []) ⟨hx, hb, hml, hown, hts⟩ (m_reckon l dC dI x a cy v1) (⟨callB_of 1 hts (gd mw_1267) rfl rfl rfl (hts _ mw_8) (hts _ mw_1264) ds_X11_reckon ⟨Nat.le_of_ble_eq_true rfl, Nat.le_of_ble_eq_true rfl⟩, (hts _ mw_1266), (hts _ mp_61)⟩) (pu_V hPc hKc hE (va_recv hKc hPc (ci := 11) (q0 := 0) rfl rfl)) rfl rfl hl.1 rfl (lv_room (Nat.le_of_ble_eq_true rfl)) dX11_order_18 ⟨Nat.le_of_ble_eq_true rfl, Nat.le_of_ble_eq_true rfl⟩) (fun hw_ => ?_)
    refine lv_iconst (v := 0) hx hb dX11_order_21 (by decide) ?_
    refine lv_istore_n (lv' := [(3, .int 0), (0, .ref x), (1, .int v1), (2, .int v2)]) hx hb dX11_order_22 rfl hl (by decide) rfl (fun ls hl => ?_)
    refine lv_iconst (v := (-1)) hx hb dX11_order_23 (by decide) ?_
    refine lv_istore (lv' := [(4, .int (-1)), (3, .int 0), (0, .ref x), (1, .int v1), (2, .int v2)]) hx hb dX11_order_24 hl (by decide) rfl (fun ls hl => ?_)
    refine lv_iconst (v := 0) hx hb dX11_order_26 (by decide) ?_
    refine lv_istore (lv' := [(5, .int 0), (4, .int (-1)), (3, .int 0), (0, .ref x), (1, .int v1), (2, .int v2)]) hx hb dX11_order_27 hl (by decide) rfl (fun ls hl => ?_)
    refine lv_iconst (v := 0) hx hb dX11_order_29 (by decide) ?_
    refine lv_istore (lv' := [(6, .int 0), (5, .int 0), (4, .int (-1)), (3, .int 0), (0, .ref x), (1, .int v1), (2, .int v2)]) hx hb dX11_order_30 hl (by decide) rfl (fun ls hl => ?_)
    refine lv_iload hx hb dX11_order_32 (lv_at hl 0 rfl) ?_
    refine lv_aload_n hx hb dX11_order_34 rfl (lv_at hl 4 rfl) ?_
    refine va_get (D := (dC, dI)) (ci := 11) (v := .int 0) (C := RX11) (T := TX11) (N := 56) hx hb hts inX11 hown hK hP 0 rfl rfl 5 (by decide) (hts _ mw_885) (fun _ h9 => h9) rfl dX11_order_35 ?_
    refine lv_icmp_ge (tgt := 169) hx hb dX11_order_38 (by decide) (fun c_ => ?_) (fun c_ => absurd c_ (by decide))
    refine lv_iload hx hb dX11_order_169 (lv_at hl 1 rfl) ?_
    exact W.iret (v := 0) hx hb hr (fun t ht hW => ⟨0, rfl, (by first | (have h9 := (wi_m1 v2).mp c_2; simp [sp_queue, h9]; done) | (have h9 : v2 = -1 := Classical.byContradiction (fun h => c_2 ((wi_m1 v2).mpr h)); simp [sp_queue, h9]; done)), ht⟩) (fun q h => absurd h List.not_mem_nil) dX11_order_171
  · refine lv_iconst (v := (-1)) hx hb dX11_order_14 (by decide) ?_
    exact W.iret (v := (-1)) hx hb hr (fun t ht hW => ⟨(-1), rfl, (by first | (have h9 := (wi_m1 v2).mp c_2; simp [sp_queue, h9]; done) | (have h9 : v2 = -1 := Classical.byContradiction (fun h => c_2 ((wi_m1 v2).mpr h)); simp [sp_queue, h9]; done)), ht⟩) (fun q h => absurd h List.not_mem_nil) dX11_order_15

set_option maxHeartbeats 4000000 in
set_option maxRecDepth 100000 in
theorem m_about (l : Launch) (dC : Nat → ClassId) (dI : Nat → Nat → Nat) (x : Nat) (a : Nat → Nat) (cy : Nat → ClassId) (v1 : Int32) : Met l yX11_about (Cond.code yX11_about cX11_about 4 (some .int) :: gT) ({ frames := 1, cells := 0, slots := 0, locals := 60 }) (va_Pc [.ref x, .int v1] (pu (dC, dI) [(x, .inr (11, (mO a)))] [])) (vp_Si (fun r => r = sp_about v1)) 0 0 (fun _ => False) := by
  refine Met.ofW (cc := cX11_about) (maxL := 4) (ret := (some .int)) (by decide) rfl ?_
  intro p e s m args below meth c s₁ B hml hv
  obtain ⟨rfl, hP, hK, hE⟩ := hv
  have hx := B.exec
  have hb := B.bytes
  have hr := B.returns
  have hts : ∀ w ∈ gT, w.before _ s = true := fun w h => atoms_spec (ws := Cond.code yX11_about cX11_about 4 (some .int) :: gT) B.pre w (List.mem_cons_of_mem _ h)
  have hown : s.vm.findClass RX11 = some m.cls := findClass_of_methodNamed B.named
  have hlocks := B.notSynchronized
  have hl := lv_entry ([.ref x, .int v1]) (n := 4) (Nat.le_of_ble_eq_true rfl)
  rw [lg_entry_eq]
  generalize (lg_sl ([.ref x, .int v1]) ++ List.replicate (4 - (lg_sl ([.ref x, .int v1])).length) Slot.unset).toArray = ls at hl ⊢
  have hl : lv_has ls 4 [(0, .ref x), (1, .int v1)] := hl
  refine lv_iconst (v := 0) hx hb dX11_about_0 (by decide) ?_
  refine lv_istore_n (lv' := [(2, .int 0), (0, .ref x), (1, .int v1)]) hx hb dX11_about_1 rfl hl (by decide) rfl (fun ls hl => ?_)
  refine lv_iconst (v := 0) hx hb dX11_about_2 (by decide) ?_
  refine lv_istore_n (lv' := [(3, .int 0), (2, .int 0), (0, .ref x), (1, .int v1)]) hx hb dX11_about_3 rfl hl (by decide) rfl (fun ls hl => ?_)
  refine lv_iload_n hx hb dX11_about_4 rfl (lv_at hl 0 rfl) ?_
  refine lv_aload_n hx hb dX11_about_5 rfl (lv_at hl 2 rfl) ?_
  refine va_get (D := (dC, dI)) (ci := 11) (v := .int 0) (C := RX11) (T := TX11) (N := 56) hx hb hts inX11 hown hK hP 0 rfl rfl 2 (by decide) (hts _ mw_882) (fun _ h9 => h9) rfl dX11_about_6 ?_
  refine lv_icmp_ge (tgt := 34) hx hb dX11_about_9 (by decide) (fun c_ => ?_) (fun c_ => absurd c_ (by decide))
  refine lv_iload_n hx hb dX11_about_34 rfl (lv_at hl 3 rfl) ?_
  by_cases c_1 : v1 = 0
  · refine lv_topi (fun y_ e_ => ?_)
    obtain rfl : y_ = 0 := e_.trans c_1
    refine lv_tableIn (tgt := 76) hx hb dX11_about_35 (by decide) (by decide) rfl (by decide) ?_
    refine lv_aload_n hx hb dX11_about_76 rfl (lv_at hl 2 rfl) ?_
    refine va_get (D := (dC, dI)) (ci := 11) (v := .int 0) (C := RX11) (T := TX11) (N := 56) hx hb hts inX11 hown hK hP 0 rfl rfl 0 (by decide) (hts _ mw_880) (fun _ h9 => h9) rfl dX11_about_77 ?_
    exact W.iret (v := 0) hx hb hr (fun t ht hW => ⟨0, rfl, (by first | rfl | (simp [sp_about, c_1]; done)), ht⟩) (fun q h => absurd h List.not_mem_nil) dX11_about_80
  by_cases c_2 : v1 = 1
  · refine lv_topi (fun y_ e_ => ?_)
    obtain rfl : y_ = 1 := e_.trans c_2
    refine lv_tableIn (tgt := 81) hx hb dX11_about_35 (by decide) (by decide) rfl (by decide) ?_
    refine lv_aload_n hx hb dX11_about_81 rfl (lv_at hl 2 rfl) ?_
    refine va_get (D := (dC, dI)) (ci := 11) (v := .int 0) (C := RX11) (T := TX11) (N := 56) hx hb hts inX11 hown hK hP 0 rfl rfl 1 (by decide) (hts _ mw_881) (fun _ h9 => h9) rfl dX11_about_82 ?_
    exact W.iret (v := 0) hx hb hr (fun t ht hW => ⟨0, rfl, (by first | rfl | (simp [sp_about, c_1, c_2]; done)), ht⟩) (fun q h => absurd h List.not_mem_nil) dX11_about_85
  by_cases c_3 : v1 = 2
  · refine lv_topi (fun y_ e_ => ?_)
    obtain rfl : y_ = 2 := e_.trans c_3
    refine lv_tableIn (tgt := 86) hx hb dX11_about_35 (by decide) (by decide) rfl (by decide) ?_
    refine lv_aload_n hx hb dX11_about_86 rfl (lv_at hl 2 rfl) ?_
    refine va_get (D := (dC, dI)) (ci := 11) (v := .int 0) (C := RX11) (T := TX11) (N := 56) hx hb hts inX11 hown hK hP 0 rfl rfl 2 (by decide) (hts _ mw_882) (fun _ h9 => h9) rfl dX11_about_87 ?_
    exact W.iret (v := 0) hx hb hr (fun t ht hW => ⟨0, rfl, (by first | rfl | (simp [sp_about, c_1, c_2, c_3]; done)), ht⟩) (fun q h => absurd h List.not_mem_nil) dX11_about_90
  by_cases c_4 : v1 = 3
  · refine lv_topi (fun y_ e_ => ?_)
    obtain rfl : y_ = 3 := e_.trans c_4
    refine lv_tableIn (tgt := 91) hx hb dX11_about_35 (by decide) (by decide) rfl (by decide) ?_
    refine lv_aload_n hx hb dX11_about_91 rfl (lv_at hl 2 rfl) ?_
    refine va_get (D := (dC, dI)) (ci := 11) (v := .int 0) (C := RX11) (T := TX11) (N := 56) hx hb hts inX11 hown hK hP 0 rfl rfl 3 (by decide) (hts _ mw_883) (fun _ h9 => h9) rfl dX11_about_92 ?_
    exact W.iret (v := 0) hx hb hr (fun t ht hW => ⟨0, rfl, (by first | rfl | (simp [sp_about, c_1, c_2, c_3, c_4]; done)), ht⟩) (fun q h => absurd h List.not_mem_nil) dX11_about_95
  by_cases c_5 : v1 = 4
  · refine lv_topi (fun y_ e_ => ?_)
    obtain rfl : y_ = 4 := e_.trans c_5
    refine lv_tableIn (tgt := 96) hx hb dX11_about_35 (by decide) (by decide) rfl (by decide) ?_
    refine lv_aload_n hx hb dX11_about_96 rfl (lv_at hl 2 rfl) ?_
    refine va_get (D := (dC, dI)) (ci := 11) (v := .int 0) (C := RX11) (T := TX11) (N := 56) hx hb hts inX11 hown hK hP 0 rfl rfl 4 (by decide) (hts _ mw_884) (fun _ h9 => h9) rfl dX11_about_97 ?_
    exact W.iret (v := 0) hx hb hr (fun t ht hW => ⟨0, rfl, (by first | rfl | (simp [sp_about, c_1, c_2, c_3, c_4, c_5]; done)), ht⟩) (fun q h => absurd h List.not_mem_nil) dX11_about_100
  by_cases c_6 : v1 = 5
  · refine lv_topi (fun y_ e_ => ?_)
    obtain rfl : y_ = 5 := e_.trans c_6
    refine lv_tableIn (tgt := 101) hx hb dX11_about_35 (by decide) (by decide) rfl (by decide) ?_
    refine lv_aload_n hx hb dX11_about_101 rfl (lv_at hl 2 rfl) ?_
    refine va_get (D := (dC, dI)) (ci := 11) (v := .int 0) (C := RX11) (T := TX11) (N := 56) hx hb hts inX11 hown hK hP 0 rfl rfl 5 (by decide) (hts _ mw_885) (fun _ h9 => h9) rfl dX11_about_102 ?_
    exact W.iret (v := 0) hx hb hr (fun t ht hW => ⟨0, rfl, (by first | rfl | (simp [sp_about, c_1, c_2, c_3, c_4, c_5, c_6]; done)), ht⟩) (fun q h => absurd h List.not_mem_nil) dX11_about_105
  by_cases c_7 : v1 = 6
  · refine lv_topi (fun y_ e_ => ?_)
    obtain rfl : y_ = 6 := e_.trans c_7
    refine lv_tableIn (tgt := 106) hx hb dX11_about_35 (by decide) (by decide) rfl (by decide) ?_
    refine lv_iload_n hx hb dX11_about_106 rfl (lv_at hl 1 rfl) ?_
    exact W.iret (v := 0) hx hb hr (fun t ht hW => ⟨0, rfl, (by first | rfl | (simp [sp_about, c_1, c_2, c_3, c_4, c_5, c_6, c_7]; done)), ht⟩) (fun q h => absurd h List.not_mem_nil) dX11_about_107
  refine lv_tableOut (tgt := 108) hx hb dX11_about_35 (by have n0 := lv_neT c_1 (show (0 : Int32).toInt = 0 by decide); have n1 := lv_neT c_2 (show (1 : Int32).toInt = 1 by decide); have n2 := lv_neT c_3 (show (2 : Int32).toInt = 2 by decide); have n3 := lv_neT c_4 (show (3 : Int32).toInt = 3 by decide); have n4 := lv_neT c_5 (show (4 : Int32).toInt = 4 by decide); have n5 := lv_neT c_6 (show (5 : Int32).toInt = 5 by decide); have n6 := lv_neT c_7 (show (6 : Int32).toInt = 6 by decide); omega) (by decide) ?_
  refine lv_iconst (v := (-1)) hx hb dX11_about_108 (by decide) ?_
  exact W.iret (v := (-1)) hx hb hr (fun t ht hW => ⟨(-1), rfl, (by first | rfl | (simp [sp_about, c_1, c_2, c_3, c_4, c_5, c_6, c_7]; done)), ht⟩) (fun q h => absurd h List.not_mem_nil) dX11_about_109
