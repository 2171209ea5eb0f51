/-- arrays that are made when first needed -/
def oS (ca : Nat → ClassId) (sm : Option Nat) (SM : Nat → Int64) : va_W := match sm with
  | none => []
  | some q => [(q, .inl (ca 3, 5453, .inr (.inl SM)))]
def oK (ca : Nat → ClassId) (kn : Option Nat) (kl : Nat) (KN : Nat → Int32) : va_W := match kn with
  | none => []
  | some q => [(q, .inl (ca 2, kl, .inl KN))]
def oL (ca : Nat → ClassId) (lst : Option Nat) (LE : Nat → Int32) : va_W := match lst with
  | none => []
  | some q => [(q, .inl (ca 0, 1944, .inl LE))]
theorem tl1 {o pl c pl' : va_W} (h : pl.Perm (c ++ pl')) : (o ++ pl).Perm (c ++ (o ++ pl')) := (h.append_left o).trans (List.perm_append_comm_assoc o c pl')
theorem tl_P {D : va_G} {cl : List vw_C} {X o pl : va_W} {H : Heap} (hP : va_P D cl (X ++ (o ++ pl)) H) : va_P D cl ([] ++ pl) H := fun k q hk => by
  obtain ⟨j, hj⟩ := List.getElem?_of_mem (show q ∈ X ++ (o ++ pl) from List.mem_append_right _ (List.mem_append_right _ (show q ∈ pl from List.mem_of_getElem? hk)))
  exact hP j q hj

/-- the choice: how many, where, how heavy -/
def chI (cm : Nat) (sp wg : Nat → Int32) : Prop := cm ≤ 40 ∧ ∀ i, i < cm → (∃ k : Nat, k < 144 ∧ sp i = nI k) ∧ cnt (wg i) 3000
theorem chI_0 (sp wg : Nat → Int32) : chI 0 sp wg := ⟨by omega, fun i hi => absurd hi (by omega)⟩
theorem chI_add {cm : Nat} {sp wg : Nat → Int32} {v1 v2 : Int32} (h : chI cm sp wg) (hm : cm < 40) (h1 : ∃ k : Nat, k < 144 ∧ v1 = nI k) (h2 : cnt v2 3000) : chI (cm + 1) (upd sp cm v1) (upd wg cm v2) := ⟨by omega, fun i hi => by
  by_cases e : i = cm
  · subst e; rw [pk_us, pk_us]; exact ⟨h1, h2⟩
  · rw [pk_un e, pk_un e]; exact h.2 i (by omega)⟩
theorem up_upL (f : Nat → Int64) (k : Nat) (x : Int64) : vp_updL f k x = vp_updL f k x := rfl

set_option maxHeartbeats 4000000 in
set_option maxRecDepth 100000 in
theorem h_add (l : Launch) (dC : Nat → ClassId) (dI : Nat → Nat → Nat) (ca : Nat → ClassId) (sz : Nat) (h : Nat) (sm : Option Nat) (s0 : Nat) (s1 : Nat) (s2 : Nat) (cm : Nat) (wd : Int32) (sp : Nat → Int32) (wg : Nat → Int32) (v1 : Int32) (v2 : Int32) (hc : chI cm sp wg) (hv1 : ∃ k : Nat, k < 144 ∧ v1 = nI k) (hv2 : cnt v2 3000) : Met l yX2_add (Cond.code yX2_add cX2_add 3 none :: gT) ({ frames := 1, cells := 0, slots := 0, locals := 60 }) (va_Pc [.ref h, .int v1, .int v2] (pr (dC, dI) sz [(h, .inr (2, [.ref s0, .ref s1, .ref s2, .int (nI cm), va_rf sm, .int wd])), (s0, .inl (ca 0, 40, .inl sp)), (s1, .inl (ca 0, 40, .inl wg))] (aT ca))) (va_Qv (fun (u_ : Nat × (Nat → Int32) × (Nat → Int32)) => chI u_.1 u_.2.1 u_.2.2) (fun (u_ : Nat × (Nat → Int32) × (Nat → Int32)) t => va_P (dC, dI) vwCl [(h, .inr (2, [.ref s0, .ref s1, .ref s2, .int (nI u_.1), va_rf sm, .int wd])), (s0, .inl (ca 0, 40, .inl u_.2.1)), (s1, .inl (ca 0, 40, .inl u_.2.2))] t.heap ∧ va_D (va_A [(h, .inr (2, [.ref s0, .ref s1, .ref s2, .int (nI cm), va_rf sm, .int wd])), (s0, .inl (ca 0, 40, .inl sp)), (s1, .inl (ca 0, 40, .inl wg))] sz) [(h, .inr (2, [.ref s0, .ref s1, .ref s2, .int (nI u_.1), va_rf sm, .int wd])), (s0, .inl (ca 0, 40, .inl u_.2.1)), (s1, .inl (ca 0, 40, .inl u_.2.2))]) (va_A [(h, .inr (2, [.ref s0, .ref s1, .ref s2, .int (nI cm), va_rf sm, .int wd])), (s0, .inl (ca 0, 40, .inl sp)), (s1, .inl (ca 0, 40, .inl wg))] sz)) 0 0 (va_A [(h, .inr (2, [.ref s0, .ref s1, .ref s2, .int (nI cm), va_rf sm, .int wd])), (s0, .inl (ca 0, 40, .inl sp)), (s1, .inl (ca 0, 40, .inl wg))] sz) := by
  refine Met.ofW (cc := cX2_add) (maxL := 3) (ret := none) (by decide) rfl ?_
  intro p e s m args below meth c s₁ B hml hv
  obtain ⟨rfl, hsz, hP, hK, hD0, hE⟩ := hv
  have hx := B.exec
  have hb := B.bytes
  have hr := B.returns
  have hts : ∀ w ∈ gT, w.before _ s = true := fun w h => atoms_spec (ws := Cond.code yX2_add cX2_add 3 none :: gT) B.pre w (List.mem_cons_of_mem _ h)
  have hown : s.vm.findClass RX2 = some m.cls := findClass_of_methodNamed B.named
  have hlocks := B.notSynchronized
  subst hsz
  have hD := hD0.self (sz := s.heap.size)
  generalize hAe : va_A [(h, .inr (2, [.ref s0, .ref s1, .ref s2, .int (nI cm), va_rf sm, .int wd])), (s0, .inl (ca 0, 40, .inl sp)), (s1, .inl (ca 0, 40, .inl wg))] s.heap.size = A at hD ⊢
  have hA : ∀ q : Nat, s.heap.size ≤ q → A q := fun q h => by rw [← hAe]; exact Or.inr h
  have hS : va_S A s.heap s.heap [] := va_S.rf
  have hl := lv_entry ([.ref h, .int v1, .int v2]) (n := 3) (Nat.le_of_ble_eq_true rfl)
  rw [lg_entry_eq]
  generalize (lg_sl ([.ref h, .int v1, .int v2]) ++ List.replicate (3 - (lg_sl ([.ref h, .int v1, .int v2])).length) Slot.unset).toArray = ls at hl ⊢
  have hl : lv_has ls 3 [(0, .ref h), (1, .int v1), (2, .int v2)] := hl
  have hc0 := hc.1
  refine lv_aload_n hx hb dX2_add_0 rfl (lv_at hl 0 rfl) ?_
  refine va_get (D := (dC, dI)) (ci := 2) (v := .int (nI cm)) (C := RX2) (T := TX2) (N := 6) hx hb hts inX2 hown hK hP 0 rfl rfl 3 (by decide) (hts _ mw_160) (fun _ h9 => h9) rfl dX2_add_1 ?_
  refine lv_bipush (v := 40) hx hb dX2_add_4 (by decide) ?_
  refine lv_icmp_ge (tgt := 39) hx hb dX2_add_6 (by decide) (fun c_1 => ?_) (fun c_1 => ?_)
  · have nc_1 : 40 ≤ cm := (nI_leI (a := 40) (b := cm) (by omega) (by omega)).mp c_1
    refine W.widen (k := 0) (n := 0) (Nat.le_of_ble_eq_true rfl) (Nat.le_of_ble_eq_true rfl) ?_
    have hP9 : va_P (dC, dI) vwCl [(h, .inr (2, [.ref s0, .ref s1, .ref s2, .int (nI cm), va_rf sm, .int wd])), (s0, .inl (ca 0, 40, .inl sp)), (s1, .inl (ca 0, 40, .inl wg))] s.heap := va_P.sub hP [0, 1, 2] rfl
    have hD9 : va_D A [(h, .inr (2, [.ref s0, .ref s1, .ref s2, .int (nI cm), va_rf sm, .int wd])), (s0, .inl (ca 0, 40, .inl sp)), (s1, .inl (ca 0, 40, .inl wg))] := va_D.sub hD [0, 1, 2] (by decide) rfl
    exact W.vret hx hb hr (fun t ht hW => ⟨⟨(cm, sp, wg), rfl, hc, by rw [ht]; exact hP9, hD9⟩, hS.F ht⟩) hS.2.2 dX2_add_39
  · have nc_1 : ¬ (40 ≤ cm) := fun h9 => c_1 ((nI_leI (a := 40) (b := cm) (by omega) (by omega)).mpr h9)
    refine lv_aload_n hx hb dX2_add_9 rfl (lv_at hl 0 rfl) ?_
    refine va_get (D := (dC, dI)) (ci := 2) (v := .ref s0) (C := RX2) (T := TX2) (N := 6) hx hb hts inX2 hown hK hP 0 rfl rfl 0 (by decide) (hts _ mw_154) (fun _ h9 => h9) rfl dX2_add_10 ?_
    refine lv_aload_n hx hb dX2_add_13 rfl (lv_at hl 0 rfl) ?_
    refine va_get (D := (dC, dI)) (ci := 2) (v := .int (nI cm)) (C := RX2) (T := TX2) (N := 6) hx hb hts inX2 hown hK hP 0 rfl rfl 3 (by decide) (hts _ mw_160) (fun _ h9 => h9) rfl dX2_add_14 ?_
    refine lv_iload_n hx hb dX2_add_17 rfl (lv_at hl 1 rfl) ?_
    refine va_iast hx hb hK hP hD hS 1 0 rfl rfl (vp_in_nI (show cm < 40 by omega) (by first | decide | omega)) dX2_add_18 (fun H locs hP hD hS => ?_)
    rw [(show ((nI cm) : Int32).toNatClampNeg = cm from nI_clamp (by omega))] at hP hD
    have hP : va_P (dC, dI) vwCl [(h, .inr (2, [.ref s0, .ref s1, .ref s2, .int (nI cm), va_rf sm, .int wd])), (s0, .inl (ca 0, 40, .inl (upd sp cm v1))), (s1, .inl (ca 0, 40, .inl wg))] H := hP
    have hD : va_D A [(h, .inr (2, [.ref s0, .ref s1, .ref s2, .int (nI cm), va_rf sm, .int wd])), (s0, .inl (ca 0, 40, .inl (upd sp cm v1))), (s1, .inl (ca 0, 40, .inl wg))] := hD
    refine lv_aload_n hx hb dX2_add_19 rfl (lv_at hl 0 rfl) ?_
    refine va_get (D := (dC, dI)) (ci := 2) (v := .ref s1) (C := RX2) (T := TX2) (N := 6) hx hb hts inX2 hown hK hP 0 rfl rfl 1 (by decide) (hts _ mw_156) (fun _ h9 => h9) rfl dX2_add_20 ?_
    refine lv_aload_n hx hb dX2_add_23 rfl (lv_at hl 0 rfl) ?_
    refine va_get (D := (dC, dI)) (ci := 2) (v := .int (nI cm)) (C := RX2) (T := TX2) (N := 6) hx hb hts inX2 hown hK hP 0 rfl rfl 3 (by decide) (hts _ mw_160) (fun _ h9 => h9) rfl dX2_add_24 ?_
    refine lv_iload_n hx hb dX2_add_27 rfl (lv_at hl 2 rfl) ?_
    refine va_iast hx hb hK hP hD hS 2 0 rfl rfl (vp_in_nI (show cm < 40 by omega) (by first | decide | omega)) dX2_add_28 (fun H locs hP hD hS => ?_)
    rw [(show ((nI cm) : Int32).toNatClampNeg = cm from nI_clamp (by omega))] at hP hD
    have hP : va_P (dC, dI) vwCl [(h, .inr (2, [.ref s0, .ref s1, .ref s2, .int (nI cm), va_rf sm, .int wd])), (s0, .inl (ca 0, 40, .inl (upd sp cm v1))), (s1, .inl (ca 0, 40, .inl (upd wg cm v2)))] H := hP
    have hD : va_D A [(h, .inr (2, [.ref s0, .ref s1, .ref s2, .int (nI cm), va_rf sm, .int wd])), (s0, .inl (ca 0, 40, .inl (upd sp cm v1))), (s1, .inl (ca 0, 40, .inl (upd wg cm v2)))] := hD
    refine lv_aload_n hx hb dX2_add_29 rfl (lv_at hl 0 rfl) ?_
    refine lv_dup hx hb dX2_add_30 rfl ?_
    refine va_get (D := (dC, dI)) (ci := 2) (v := .int (nI cm)) (C := RX2) (T := TX2) (N := 6) hx hb hts inX2 hown hK hP 0 rfl rfl 3 (by decide) (hts _ mw_160) (fun _ h9 => h9) rfl dX2_add_31 ?_
    refine lv_iconst (v := 1) hx hb dX2_add_34 (by decide) ?_
    refine lv_iadd hx hb dX2_add_35 ?_
    refine lv_topi (fun y_ e_ => ?_)
    obtain rfl : y_ = (nI (cm + 1)) := e_.trans (nI_add (cm) (1))
    refine va_put (D := (dC, dI)) (ci := 2) (v := .int (nI (cm + 1))) (ty := .int) (C := RX2) (T := TX2) (N := 6) hx hb hts inX2 tyX2 tyX2_ok nmX2 hown hK hP hD hS 0 rfl rfl 3 (by decide) (hts _ mw_160) (fun _ h9 => h9) rfl (by decide +kernel) rfl rfl (Nat.le_of_ble_eq_true rfl) dX2_add_36 (fun H locs hP hD hS => ?_)
    have hP : va_P (dC, dI) vwCl [(h, .inr (2, [.ref s0, .ref s1, .ref s2, .int (nI (cm + 1)), va_rf sm, .int wd])), (s0, .inl (ca 0, 40, .inl (upd sp cm v1))), (s1, .inl (ca 0, 40, .inl (upd wg cm v2)))] H := hP
    have hD : va_D A [(h, .inr (2, [.ref s0, .ref s1, .ref s2, .int (nI (cm + 1)), va_rf sm, .int wd])), (s0, .inl (ca 0, 40, .inl (upd sp cm v1))), (s1, .inl (ca 0, 40, .inl (upd wg cm v2)))] := hD
    refine W.widen (k := 0) (n := 0) (Nat.le_of_ble_eq_true rfl) (Nat.le_of_ble_eq_true rfl) ?_
    have hP9 : va_P (dC, dI) vwCl [(h, .inr (2, [.ref s0, .ref s1, .ref s2, .int (nI (cm + 1)), va_rf sm, .int wd])), (s0, .inl (ca 0, 40, .inl (upd sp cm v1))), (s1, .inl (ca 0, 40, .inl (upd wg cm v2)))] H := va_P.sub hP [0, 1, 2] rfl
    have hD9 : va_D A [(h, .inr (2, [.ref s0, .ref s1, .ref s2, .int (nI (cm + 1)), va_rf sm, .int wd])), (s0, .inl (ca 0, 40, .inl (upd sp cm v1))), (s1, .inl (ca 0, 40, .inl (upd wg cm v2)))] := va_D.sub hD [0, 1, 2] (by decide) rfl
    exact W.vret hx hb hr (fun t ht hW => ⟨⟨(cm + 1, (upd sp cm v1), (upd wg cm v2)), rfl, (chI_add hc (by omega) hv1 hv2), by rw [ht]; exact hP9, hD9⟩, hS.F ht⟩) hS.2.2 dX2_add_39

set_option maxHeartbeats 4000000 in
set_option maxRecDepth 100000 in
theorem h_total (l : Launch) (dC : Nat → ClassId) (dI : Nat → Nat → Nat) (ca : Nat → ClassId) (h : Nat) (sm : Option Nat) (s0 : Nat) (s1 : Nat) (s2 : Nat) (cm : Nat) (wd : Int32) (wg : Nat → Int32) (hcm : cm ≤ 40) : Met l yX2_total (Cond.code yX2_total cX2_total 3 (some .int) :: gT) ({ frames := 1, cells := 0, slots := 0, locals := 60 }) (va_Pc [.ref h] (pu (dC, dI) [(h, .inr (2, [.ref s0, .ref s1, .ref s2, .int (nI cm), va_rf sm, .int wd])), (s1, .inl (ca 0, 40, .inl wg))] (aT ca))) (vp_Si (fun r => True)) 0 0 (fun _ => False) := by
  refine Met.ofW (cc := cX2_total) (maxL := 3) (ret := (some .int)) (by decide) rfl ?_
  intro p e s m args below meth c s₁ B hml hv
  obtain ⟨rfl, hP, hK, hE⟩ := hv
  have hx := B.exec
  have hb := B.bytes
  have hr := B.returns
  have hts : ∀ w ∈ gT, w.before _ s = true := fun w h => atoms_spec (ws := Cond.code yX2_total cX2_total 3 (some .int) :: gT) B.pre w (List.mem_cons_of_mem _ h)
  have hown : s.vm.findClass RX2 = some m.cls := findClass_of_methodNamed B.named
  have hlocks := B.notSynchronized
  have hl := lv_entry ([.ref h]) (n := 3) (Nat.le_of_ble_eq_true rfl)
  rw [lg_entry_eq]
  generalize (lg_sl ([.ref h]) ++ List.replicate (3 - (lg_sl ([.ref h])).length) Slot.unset).toArray = ls at hl ⊢
  have hl : lv_has ls 3 [(0, .ref h)] := hl
  refine lv_iconst (v := 0) hx hb dX2_total_0 (by decide) ?_
  refine lv_istore_n (lv' := [(1, .int 0), (0, .ref h)]) hx hb dX2_total_1 rfl hl (by decide) rfl (fun ls hl => ?_)
  refine lv_iconst (v := 0) hx hb dX2_total_2 (by decide) ?_
  refine lv_istore_n (lv' := [(2, .int 0), (1, .int 0), (0, .ref h)]) hx hb dX2_total_3 rfl hl (by decide) rfl (fun ls hl => ?_)
  refine wl_loop (fun (z_ : Nat × Int32) H locs ls => (z_.1 ≤ cm) ∧ H = s.heap ∧ locs = [] ∧ lv_has ls 3 [(2, .int (nI z_.1)), (1, .int z_.2), (0, .ref h)]) (fun (z_ : Nat × Int32) => cm - z_.1) (fun z_ H locs ls hI ih => ?_) (0, 0) ⟨(Nat.zero_le _), rfl, rfl, lv_sub hl [0, 1, 2] rfl⟩
  obtain ⟨i, sn⟩ := z_
  dsimp only at hI ih
  obtain ⟨hi, rfl, rfl, hl⟩ := hI
  refine lv_iload_n hx hb dX2_total_4 rfl (lv_at hl 0 rfl) ?_
  refine lv_aload_n hx hb dX2_total_5 rfl (lv_at hl 2 rfl) ?_
  refine va_get (D := (dC, dI)) (ci := 2) (v := .int (nI cm)) (C := RX2) (T := TX2) (N := 6) hx hb hts inX2 hown hK hP 0 rfl rfl 3 (by decide) (hts _ mw_160) (fun _ h9 => h9) rfl dX2_total_6 ?_
  refine lv_icmp_ge (tgt := 27) hx hb dX2_total_9 (by decide) (fun c_1 => ?_) (fun c_1 => ?_)
  · have nc_1 : cm ≤ i := (nI_leI (a := cm) (b := i) (by omega) (by omega)).mp c_1
    refine lv_iload_n hx hb dX2_total_27 rfl (lv_at hl 1 rfl) ?_
    exact W.iret (v := sn) hx hb hr (fun t ht hW => ⟨sn, rfl, trivial, ht⟩) (fun q h => absurd h List.not_mem_nil) dX2_total_28
  · have nc_1 : ¬ (cm ≤ i) := fun h9 => c_1 ((nI_leI (a := cm) (b := i) (by omega) (by omega)).mpr h9)
    refine lv_iload_n hx hb dX2_total_12 rfl (lv_at hl 1 rfl) ?_
    refine lv_aload_n hx hb dX2_total_13 rfl (lv_at hl 2 rfl) ?_
    refine va_get (D := (dC, dI)) (ci := 2) (v := .ref s1) (C := RX2) (T := TX2) (N := 6) hx hb hts inX2 hown hK hP 0 rfl rfl 1 (by decide) (hts _ mw_156) (fun _ h9 => h9) rfl dX2_total_14 ?_
    refine lv_iload_n hx hb dX2_total_17 rfl (lv_at hl 0 rfl) ?_
    refine va_iald hx hb hK hP 1 0 rfl rfl (vp_in_nI (show i < 40 by omega) (by first | decide | omega)) dX2_total_18 ?_
    refine lv_topi (fun y_ e_ => ?_)
    obtain rfl : y_ = (wg i) := e_.trans (congrArg wg (show ((nI i) : Int32).toNatClampNeg = i from nI_clamp (by omega)))
    refine lv_iadd hx hb dX2_total_19 ?_
    refine lv_istore_n (lv' := [(1, .int (sn + (wg i))), (2, .int (nI i)), (0, .ref h)]) hx hb dX2_total_20 rfl hl (by decide) rfl (fun ls hl => ?_)
    refine lv_iinc (v := (nI (i + 1))) (lv' := [(2, .int (nI (i + 1))), (1, .int (sn + (wg i))), (0, .ref h)]) hx hb dX2_total_21 hl (k := 1) rfl (nI_add (i) 1) (by decide) rfl (fun ls hl => ?_)
    refine lv_goto (tgt := 4) hx hb dX2_total_24 (by decide) ?_
    exact ih (i + 1, (sn + (wg i))) _ _ _ (by omega) ⟨(by omega), rfl, rfl, lv_sub hl [0, 1, 2] rfl⟩

set_option maxHeartbeats 4000000 in
set_option maxRecDepth 100000 in
theorem h_countChosen (l : Launch) (dC : Nat → ClassId) (dI : Nat → Nat → Nat) (ca : Nat → ClassId) (h : Nat) (sm : Option Nat) (s0 : Nat) (s1 : Nat) (s2 : Nat) (cm : Nat) (wd : Int32) (cz : Nat → Int32) (hcm : cm ≤ 40) : Met l yX2_countChosen (Cond.code yX2_countChosen cX2_countChosen 3 (some .int) :: gT) ({ frames := 1, cells := 0, slots := 0, locals := 60 }) (va_Pc [.ref h] (pu (dC, dI) [(h, .inr (2, [.ref s0, .ref s1, .ref s2, .int (nI cm), va_rf sm, .int wd])), (s2, .inl (ca 1, 40, .inl cz))] (aT ca))) (vp_Si (fun r => ∃ k : Nat, k ≤ 40 ∧ r = nI k)) 0 0 (fun _ => False) := by
  refine Met.ofW (cc := cX2_countChosen) (maxL := 3) (ret := (some .int)) (by decide) rfl ?_
  intro p e s m args below meth c s₁ B hml hv
  obtain ⟨rfl, hP, hK, hE⟩ := hv
  have hx := B.exec
  have hb := B.bytes
  have hr := B.returns
  have hts : ∀ w ∈ gT, w.before _ s = true := fun w h => atoms_spec (ws := Cond.code yX2_countChosen cX2_countChosen 3 (some .int) :: gT) B.pre w (List.mem_cons_of_mem _ h)
  have hown : s.vm.findClass RX2 = some m.cls := findClass_of_methodNamed B.named
  have hlocks := B.notSynchronized
  have hl := lv_entry ([.ref h]) (n := 3) (Nat.le_of_ble_eq_true rfl)
  rw [lg_entry_eq]
  generalize (lg_sl ([.ref h]) ++ List.replicate (3 - (lg_sl ([.ref h])).length) Slot.unset).toArray = ls at hl ⊢
  have hl : lv_has ls 3 [(0, .ref h)] := hl
  refine lv_iconst (v := 0) hx hb dX2_countChosen_0 (by decide) ?_
  refine lv_istore_n (lv' := [(1, .int 0), (0, .ref h)]) hx hb dX2_countChosen_1 rfl hl (by decide) rfl (fun ls hl => ?_)
  refine lv_iconst (v := 0) hx hb dX2_countChosen_2 (by decide) ?_
  refine lv_istore_n (lv' := [(2, .int 0), (1, .int 0), (0, .ref h)]) hx hb dX2_countChosen_3 rfl hl (by decide) rfl (fun ls hl => ?_)
  refine wl_loop (fun (z_ : Nat × Nat) H locs ls => (z_.1 ≤ cm ∧ z_.2 ≤ z_.1) ∧ H = s.heap ∧ locs = [] ∧ lv_has ls 3 [(2, .int (nI z_.1)), (1, .int (nI z_.2)), (0, .ref h)]) (fun (z_ : Nat × Nat) => cm - z_.1) (fun z_ H locs ls hI ih => ?_) (0, 0) ⟨⟨Nat.zero_le _, Nat.le_refl _⟩, rfl, rfl, lv_sub hl [0, 1, 2] rfl⟩
  obtain ⟨i, sn⟩ := z_
  dsimp only at hI ih
  obtain ⟨⟨hi, hi2⟩, rfl, rfl, hl⟩ := hI
  refine lv_iload_n hx hb dX2_countChosen_4 rfl (lv_at hl 0 rfl) ?_
  refine lv_aload_n hx hb dX2_countChosen_5 rfl (lv_at hl 2 rfl) ?_
  refine va_get (D := (dC, dI)) (ci := 2) (v := .int (nI cm)) (C := RX2) (T := TX2) (N := 6) hx hb hts inX2 hown hK hP 0 rfl rfl 3 (by decide) (hts _ mw_160) (fun _ h9 => h9) rfl dX2_countChosen_6 ?_
  refine lv_icmp_ge (tgt := 30) hx hb dX2_countChosen_9 (by decide) (fun c_1 => ?_) (fun c_1 => ?_)
  · have nc_1 : cm ≤ i := (nI_leI (a := cm) (b := i) (by omega) (by omega)).mp c_1
    refine lv_iload_n hx hb dX2_countChosen_30 rfl (lv_at hl 1 rfl) ?_
    exact W.iret (v := (nI sn)) hx hb hr (fun t ht hW => ⟨(nI sn), rfl, ⟨sn, by omega, rfl⟩, ht⟩) (fun q h => absurd h List.not_mem_nil) dX2_countChosen_31
  · have nc_1 : ¬ (cm ≤ i) := fun h9 => c_1 ((nI_leI (a := cm) (b := i) (by omega) (by omega)).mpr h9)
    refine lv_aload_n hx hb dX2_countChosen_12 rfl (lv_at hl 2 rfl) ?_
    refine va_get (D := (dC, dI)) (ci := 2) (v := .ref s2) (C := RX2) (T := TX2) (N := 6) hx hb hts inX2 hown hK hP 0 rfl rfl 2 (by decide) (hts _ mw_158) (fun _ h9 => h9) rfl dX2_countChosen_13 ?_
    refine lv_iload_n hx hb dX2_countChosen_16 rfl (lv_at hl 0 rfl) ?_
    refine va_zald hx hb hK hP 1 1 rfl rfl (vp_in_nI (show i < 40 by omega) (by first | decide | omega)) dX2_countChosen_17 ?_
    refine lv_topi (fun y_ e_ => ?_)
    obtain rfl : y_ = (cz i) := e_.trans (congrArg cz (show ((nI i) : Int32).toNatClampNeg = i from nI_clamp (by omega)))
    refine lv_if_eq (tgt := 24) hx hb dX2_countChosen_18 (by decide) (fun c_2 => ?_) (fun c_2 => ?_)
    · refine lv_iinc (v := (nI (i + 1))) (lv' := [(2, .int (nI (i + 1))), (1, .int (nI sn)), (0, .ref h)]) hx hb dX2_countChosen_24 hl (k := 0) rfl (nI_add (i) 1) (by decide) rfl (fun ls hl => ?_)
      refine lv_goto (tgt := 4) hx hb dX2_countChosen_27 (by decide) ?_
      exact ih (i + 1, sn) _ _ _ (by omega) ⟨(by omega), rfl, rfl, lv_sub hl [0, 1, 2] rfl⟩
    · refine lv_iinc (v := (nI (sn + 1))) (lv' := [(1, .int (nI (sn + 1))), (2, .int (nI i)), (0, .ref h)]) hx hb dX2_countChosen_21 hl (k := 1) rfl (nI_add (sn) 1) (by decide) rfl (fun ls hl => ?_)
      refine lv_iinc (v := (nI (i + 1))) (lv' := [(2, .int (nI (i + 1))), (1, .int (nI (sn + 1))), (0, .ref h)]) hx hb dX2_countChosen_24 hl (k := 1) rfl (nI_add (i) 1) (by decide) rfl (fun ls hl => ?_)
      refine lv_goto (tgt := 4) hx hb dX2_countChosen_27 (by decide) ?_
      exact ih (i + 1, sn + 1) _ _ _ (by omega) ⟨(by omega), rfl, rfl, lv_sub hl [0, 1, 2] rfl⟩

set_option maxHeartbeats 4000000 in
set_option maxRecDepth 100000 in
theorem h_canWeigh (l : Launch) (dC : Nat → ClassId) (dI : Nat → Nat → Nat) (ca : Nat → ClassId) (h : Nat) (q : Nat) (SM : Nat → Int64) (s0 : Nat) (s1 : Nat) (s2 : Nat) (cm : Nat) (wn : Nat) (fr : Nat) (v1 : Int32) (hfr : fr ≤ 40) (hwn : wn ≤ 133) (hv : v1 < 0 ∨ ∃ k : Nat, v1 = nI k ∧ k < 64 * wn) : Met l yX2_canWeigh (Cond.code yX2_canWeigh cX2_canWeigh 3 (some .boolean) :: gT) ({ frames := 1, cells := 0, slots := 0, locals := 60 }) (va_Pc [.ref h, .int (nI fr), .int v1] (pu (dC, dI) [(h, .inr (2, [.ref s0, .ref s1, .ref s2, .int (nI cm), .ref q, .int (nI wn)])), (q, .inl (ca 3, 5453, .inr (.inl SM)))] (aT ca))) (vp_Si (fun r => r = 0 ∨ r = 1)) 0 0 (fun _ => False) := by
  refine Met.ofW (cc := cX2_canWeigh) (maxL := 3) (ret := (some .boolean)) (by decide) rfl ?_
  intro p e s m args below meth c s₁ B hml hv
  obtain ⟨rfl, hP, hK, hE⟩ := hv
  have hx := B.exec
  have hb := B.bytes
  have hr := B.returns
  have hts : ∀ w ∈ gT, w.before _ s = true := fun w h => atoms_spec (ws := Cond.code yX2_canWeigh cX2_canWeigh 3 (some .boolean) :: gT) B.pre w (List.mem_cons_of_mem _ h)
  have hown : s.vm.findClass RX2 = some m.cls := findClass_of_methodNamed B.named
  have hlocks := B.notSynchronized
  have hl := lv_entry ([.ref h, .int (nI fr), .int v1]) (n := 3) (Nat.le_of_ble_eq_true rfl)
  rw [lg_entry_eq]
  generalize (lg_sl ([.ref h, .int (nI fr), .int v1]) ++ List.replicate (3 - (lg_sl ([.ref h, .int (nI fr), .int v1])).length) Slot.unset).toArray = ls at hl ⊢
  have hl : lv_has ls 3 [(0, .ref h), (1, .int (nI fr)), (2, .int v1)] := hl
  refine lv_iload_n hx hb dX2_canWeigh_0 rfl (lv_at hl 2 rfl) ?_
  refine lv_if_lt (tgt := 36) hx hb dX2_canWeigh_1 (by decide) (fun c_1 => ?_) (fun c_1 => ?_)
  · refine lv_iconst (v := 0) hx hb dX2_canWeigh_36 (by decide) ?_
    exact W.zret (v := 0) (ty := .boolean) hx hb hr rfl (fun t ht hW => ⟨0, rfl, (Or.inl rfl), ht⟩) (fun q h => absurd h List.not_mem_nil) dX2_canWeigh_37
  · obtain ⟨k, ek, hk⟩ := hv.resolve_left c_1
    subst ek
    have hfw := Nat.mul_le_mul hfr hwn
    have hfl : fr * wn + wn ≤ 5453 := by have := Nat.mul_le_mul_right wn (show fr + 1 ≤ 41 by omega); rw [Nat.add_mul, Nat.one_mul] at this; omega
    refine lv_aload_n hx hb dX2_canWeigh_4 rfl (lv_at hl 0 rfl) ?_
    refine va_get (D := (dC, dI)) (ci := 2) (v := .ref q) (C := RX2) (T := TX2) (N := 6) hx hb hts inX2 hown hK hP 0 rfl rfl 4 (by decide) (hts _ mw_163) (fun _ h9 => h9) rfl dX2_canWeigh_5 ?_
    refine lv_iload_n hx hb dX2_canWeigh_8 rfl (lv_at hl 1 rfl) ?_
    refine lv_aload_n hx hb dX2_canWeigh_9 rfl (lv_at hl 0 rfl) ?_
    refine va_get (D := (dC, dI)) (ci := 2) (v := .int (nI wn)) (C := RX2) (T := TX2) (N := 6) hx hb hts inX2 hown hK hP 0 rfl rfl 5 (by decide) (hts _ mw_164) (fun _ h9 => h9) rfl dX2_canWeigh_10 ?_
    refine lv_imul hx hb dX2_canWeigh_13 ?_
    refine lv_topi (fun y_ e_ => ?_)
    obtain rfl : y_ = (nI (fr * wn)) := e_.trans (pk_mul (fr) (wn))
    refine lv_iload_n hx hb dX2_canWeigh_14 rfl (lv_at hl 2 rfl) ?_
    refine lv_bipush (v := 64) hx hb dX2_canWeigh_15 (by decide) ?_
    refine lv_idiv hx hb dX2_canWeigh_17 (by decide) ?_
    refine lv_topi (fun y_ e_ => ?_)
    obtain rfl : y_ = (nI (k / 64)) := e_.trans (pk_div (by omega) (by decide) (by decide))
    refine lv_iadd hx hb dX2_canWeigh_18 ?_
    refine lv_topi (fun y_ e_ => ?_)
    obtain rfl : y_ = (nI (fr * wn + k / 64)) := e_.trans (nI_add (fr * wn) (k / 64))
    refine va_lald hx hb hK hP 1 3 rfl rfl (vp_in_nI (show fr * wn + k / 64 < 5453 by omega) (by first | decide | omega)) dX2_canWeigh_19 ?_
    refine lv_topl (fun y_ e_ => ?_)
    obtain rfl : y_ = (SM (fr * wn + k / 64)) := e_.trans (congrArg SM (show ((nI (fr * wn + k / 64)) : Int32).toNatClampNeg = fr * wn + k / 64 from nI_clamp (by omega)))
    refine lv_iload_n hx hb dX2_canWeigh_20 rfl (lv_at hl 2 rfl) ?_
    refine lv_bipush (v := 64) hx hb dX2_canWeigh_21 (by decide) ?_
    refine lv_irem hx hb dX2_canWeigh_23 (by decide) ?_
    refine lv_topi (fun y_ e_ => ?_)
    obtain rfl : y_ = (nI (k % 64)) := e_.trans (pk_rem (by omega) (by decide) (by decide))
    refine lv_lushr (v := (((SM (fr * wn + k / 64)) : Int64).toUInt64 >>> (((nI (k % 64)) : Int32).toInt64.toUInt64 &&& Int64.toUInt64 63)).toInt64) hx hb dX2_canWeigh_24 rfl ?_
    refine lv_lconst (v := 1) hx hb dX2_canWeigh_25 (by decide) ?_
    refine lv_land hx hb dX2_canWeigh_26 ?_
    refine lv_lconst (v := 0) hx hb dX2_canWeigh_27 (by decide) ?_
    refine W.lcmp hx hb dX2_canWeigh_28 ?_
    refine lv_if_eq (tgt := 36) hx hb dX2_canWeigh_29 (by decide) (fun c_2 => ?_) (fun c_2 => ?_)
    · refine lv_iconst (v := 0) hx hb dX2_canWeigh_36 (by decide) ?_
      exact W.zret (v := 0) (ty := .boolean) hx hb hr rfl (fun t ht hW => ⟨0, rfl, (Or.inl rfl), ht⟩) (fun q h => absurd h List.not_mem_nil) dX2_canWeigh_37
    · refine lv_iconst (v := 1) hx hb dX2_canWeigh_32 (by decide) ?_
      refine lv_goto (tgt := 37) hx hb dX2_canWeigh_33 (by decide) ?_
      exact W.zret (v := 1) (ty := .boolean) hx hb hr rfl (fun t ht hW => ⟨1, rfl, (Or.inr rfl), ht⟩) (fun q h => absurd h List.not_mem_nil) dX2_canWeigh_37
