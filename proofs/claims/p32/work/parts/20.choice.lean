/-- arrays that are made when first needed -/
def oS (ca : Nat → ClassId) (sm : Option Nat) (SM : Nat → Int64) : va_W := match sm with
  | none => []
  | some q => [(q, .inl (ca 3, 5453, .inr (.inl SM)))]
def oK (ca : Nat → ClassId) (kn : Option Nat) (kl : Nat) (KN : Nat → Int32) : va_W := match kn with
  | none => []
  | some q => [(q, .inl (ca 2, kl, .inl KN))]
def oL (ca : Nat → ClassId) (lst : Option Nat) (LE : Nat → Int32) : va_W := match lst with
  | none => []
  | some q => [(q, .inl (ca 0, 1944, .inl LE))]
theorem tl1 {o pl c pl' : va_W} (h : pl.Perm (c ++ pl')) : (o ++ pl).Perm (c ++ (o ++ pl')) := (h.append_left o).trans (List.perm_append_comm_assoc o c pl')
theorem tl_P {D : va_G} {cl : List vw_C} {X o pl : va_W} {H : Heap} (hP : va_P D cl (X ++ (o ++ pl)) H) : va_P D cl ([] ++ pl) H := fun k q hk => by
  obtain ⟨j, hj⟩ := List.getElem?_of_mem (show q ∈ X ++ (o ++ pl) from List.mem_append_right _ (List.mem_append_right _ (show q ∈ pl from List.mem_of_getElem? hk)))
  exact hP j q hj

/-- the choice: how many, where, how heavy -/
def chI (cm : Nat) (sp wg : Nat → Int32) : Prop := cm ≤ 40 ∧ ∀ i, i < cm → (∃ k : Nat, k < 144 ∧ sp i = nI k) ∧ cnt (wg i) 3000
theorem chI_0 (sp wg : Nat → Int32) : chI 0 sp wg := ⟨by omega, fun i hi => absurd hi (by omega)⟩
theorem chI_add {cm : Nat} {sp wg : Nat → Int32} {v1 v2 : Int32} (h : chI cm sp wg) (hm : cm < 40) (h1 : ∃ k : Nat, k < 144 ∧ v1 = nI k) (h2 : cnt v2 3000) : chI (cm + 1) (upd sp cm v1) (upd wg cm v2) := ⟨by omega, fun i hi => by
  by_cases e : i = cm
  · subst e; rw [pk_us, pk_us]; exact ⟨h1, h2⟩
  · rw [pk_un e, pk_un e]; exact h.2 i (by omega)⟩
theorem up_upL (f : Nat → Int64) (k : Nat) (x : Int64) : vp_updL f k x = vp_updL f k x := rfl

set_option maxHeartbeats 4000000 in
set_option maxRecDepth 100000 in
theorem h_add (l : Launch) (dC : Nat → ClassId) (dI : Nat → Nat → Nat) (ca : Nat → ClassId) (sz : Nat) (h : Nat) (sm : Option Nat) (s0 : Nat) (s1 : Nat) (s2 : Nat) (cm : Nat) (wd : Int32) (sp : Nat → Int32) (wg : Nat → Int32) (v1 : Int32) (v2 : Int32) (hc : chI cm sp wg) (hv1 : ∃ k : Nat, k < 144 ∧ v1 = nI k) (hv2 : cnt v2 3000) : Met l yX2_add (Cond.code yX2_add cX2_add 3 none :: gT) ({ frames := 1, cells := 0, slots := 0, locals := 60 }) (va_Pc [.ref h, .int v1, .int v2] (pr (dC, dI) sz [(h, .inr (2, [.ref s0, .ref s1, .ref s2, .int (nI cm), va_rf sm, .int wd])), (s0, .inl (ca 0, 40, .inl sp)), (s1, .inl (ca 0, 40, .inl wg))] (aT ca))) (va_Qv (fun (u_ : Nat × (Nat → Int32) × (Nat → Int32)) => chI u_.1 u_.2.1 u_.2.2 ∧ (cm < 40 → (u_.1, u_.2.1, u_.2.2) = (cm + 1, upd sp cm v1, upd wg cm v2))) (fun (u_ : Nat × (Nat → Int32) × (Nat → Int32)) t => va_P (dC, dI) vwCl [(h, .inr (2, [.ref s0, .ref s1, .ref s2, .int (nI u_.1), va_rf sm, .int wd])), (s0, .inl (ca 0, 40, .inl u_.2.1)), (s1, .inl (ca 0, 40, .inl u_.2.2))] t.heap ∧ va_D (va_A [(h, .inr (2, [.ref s0, .ref s1, .ref s2, .int (nI cm), va_rf sm, .int wd])), (s0, .inl (ca 0, 40, .inl sp)), (s1, .inl (ca 0, 40, .inl wg))] sz) [(h, .inr (2, [.ref s0, .ref s1, .ref s2, .int (nI u_.1), va_rf sm, .int wd])), (s0, .inl (ca 0, 40, .inl u_.2.1)), (s1, .inl (ca 0, 40, .inl u_.2.2))]) (va_A [(h, .inr (2, [.ref s0, .ref s1, .ref s2, .int (nI cm), va_rf sm, .int wd])), (s0, .inl (ca 0, 40, .inl sp)), (s1, .inl (ca 0, 40, .inl wg))] sz)) 0 0 (va_A [(h, .inr (2, [.ref s0, .ref s1, .ref s2, .int (nI cm), va_rf sm, .int wd])), (s0, .inl (ca 0, 40, .inl sp)), (s1, .inl (ca 0, 40, .inl wg))] sz) := by
  refine Met.ofW (cc := cX2_add) (maxL := 3) (ret := none) (by decide) rfl ?_
  intro p e s m args below meth c s₁ B hml hv
  obtain ⟨rfl, hsz, hP, hK, hD0, hE⟩ := hv
  have hx := B.exec
  have hb := B.bytes
  have hr := B.returns
  have hts : ∀ w ∈ gT, w.before _ s = true := fun w h => atoms_spec (ws := Cond.code yX2_add cX2_add 3 none :: gT) B.pre w (List.mem_cons_of_mem _ h)
  have hown : s.vm.findClass RX2 = some m.cls := findClass_of_methodNamed B.named
  have hlocks := B.notSynchronized
  subst hsz
  have hD := hD0.self (sz := s.heap.size)
  generalize hAe : va_A [(h, .inr (2, [.ref s0, .ref s1, .ref s2, .int (nI cm), va_rf sm, .int wd])), (s0, .inl (ca 0, 40, .inl sp)), (s1, .inl (ca 0, 40, .inl wg))] s.heap.size = A at hD ⊢
  have hA : ∀ q : Nat, s.heap.size ≤ q → A q := fun q h => by rw [← hAe]; exact Or.inr h
  have hS : va_S A s.heap s.heap [] := va_S.rf
  have hl := lv_entry ([.ref h, .int v1, .int v2]) (n := 3) (Nat.le_of_ble_eq_true rfl)
  rw [lg_entry_eq]
  generalize (lg_sl ([.ref h, .int v1, .int v2]) ++ List.replicate (3 - (lg_sl ([.ref h, .int v1, .int v2])).length) Slot.unset).toArray = ls at hl ⊢
  have hl : lv_has ls 3 [(0, .ref h), (1, .int v1), (2, .int v2)] := hl
  have hc0 := hc.1
  refine lv_aload_n hx hb dX2_add_0 rfl (lv_at hl 0 rfl) ?_
  refine va_get (D := (dC, dI)) (ci := 2) (v := .int (nI cm)) (C := RX2) (T := TX2) (N := 6) hx hb hts inX2 hown hK hP 0 rfl rfl 3 (by decide) (hts _ mw_160) (fun _ h9 => h9) rfl dX2_add_1 ?_
  refine lv_bipush (v := 40) hx hb dX2_add_4 (by decide) ?_
  refine lv_icmp_ge (tgt := 39) hx hb dX2_add_6 (by decide) (fun c_1 => ?_) (fun c_1 => ?_)
  · have nc_1 : 40 ≤ cm := (nI_leI (a := 40) (b := cm) (by omega) (by omega)).mp c_1
    refine W.widen (k := 0) (n := 0) (Nat.le_of_ble_eq_true rfl) (Nat.le_of_ble_eq_true rfl) ?_
    have hP9 : va_P (dC, dI) vwCl [(h, .inr (2, [.ref s0, .ref s1, .ref s2, .int (nI cm), va_rf sm, .int wd])), (s0, .inl (ca 0, 40, .inl sp)), (s1, .inl (ca 0, 40, .inl wg))] s.heap := va_P.sub hP [0, 1, 2] rfl
    have hD9 : va_D A [(h, .inr (2, [.ref s0, .ref s1, .ref s2, .int (nI cm), va_rf sm, .int wd])), (s0, .inl (ca 0, 40, .inl sp)), (s1, .inl (ca 0, 40, .inl wg))] := va_D.sub hD [0, 1, 2] (by decide) rfl
    exact W.vret hx hb hr (fun t ht hW => ⟨⟨(cm, sp, wg), rfl, ⟨hc, fun h9 => by omega⟩, by rw [ht]; dsimp only; exact hP9, by dsimp only; exact hD9⟩, hS.F ht⟩) hS.2.2 dX2_add_39
  · have nc_1 : ¬ (40 ≤ cm) := fun h9 => c_1 ((nI_leI (a := 40) (b := cm) (by omega) (by omega)).mpr h9)
    refine lv_aload_n hx hb dX2_add_9 rfl (lv_at hl 0 rfl) ?_
    refine va_get (D := (dC, dI)) (ci := 2) (v := .ref s0) (C := RX2) (T := TX2) (N := 6) hx hb hts inX2 hown hK hP 0 rfl rfl 0 (by decide) (hts _ mw_154) (fun _ h9 => h9) rfl dX2_add_10 ?_
    refine lv_aload_n hx hb dX2_add_13 rfl (lv_at hl 0 rfl) ?_
    refine va_get (D := (dC, dI)) (ci := 2) (v := .int (nI cm)) (C := RX2) (T := TX2) (N := 6) hx hb hts inX2 hown hK hP 0 rfl rfl 3 (by decide) (hts _ mw_160) (fun _ h9 => h9) rfl dX2_add_14 ?_
    refine lv_iload_n hx hb dX2_add_17 rfl (lv_at hl 1 rfl) ?_
    refine va_iast hx hb hK hP hD hS 1 0 rfl rfl (vp_in_nI (show cm < 40 by omega) (by first | decide | omega)) dX2_add_18 (fun H locs hP hD hS => ?_)
    rw [(show ((nI cm) : Int32).toNatClampNeg = cm from nI_clamp (by omega))] at hP hD
    obtain ⟨hP, hD⟩ := va_bo [(h, .inr (2, [.ref s0, .ref s1, .ref s2, .int (nI cm), va_rf sm, .int wd])), (s0, .inl (ca 0, 40, .inl (upd sp cm v1))), (s1, .inl (ca 0, 40, .inl wg))] hP hD
    refine lv_aload_n hx hb dX2_add_19 rfl (lv_at hl 0 rfl) ?_
    refine va_get (D := (dC, dI)) (ci := 2) (v := .ref s1) (C := RX2) (T := TX2) (N := 6) hx hb hts inX2 hown hK hP 0 rfl rfl 1 (by decide) (hts _ mw_156) (fun _ h9 => h9) rfl dX2_add_20 ?_
    refine lv_aload_n hx hb dX2_add_23 rfl (lv_at hl 0 rfl) ?_
    refine va_get (D := (dC, dI)) (ci := 2) (v := .int (nI cm)) (C := RX2) (T := TX2) (N := 6) hx hb hts inX2 hown hK hP 0 rfl rfl 3 (by decide) (hts _ mw_160) (fun _ h9 => h9) rfl dX2_add_24 ?_
    refine lv_iload_n hx hb dX2_add_27 rfl (lv_at hl 2 rfl) ?_
    refine va_iast hx hb hK hP hD hS 2 0 rfl rfl (vp_in_nI (show cm < 40 by omega) (by first | decide | omega)) dX2_add_28 (fun H locs hP hD hS => ?_)
    rw [(show ((nI cm) : Int32).toNatClampNeg = cm from nI_clamp (by omega))] at hP hD
    obtain ⟨hP, hD⟩ := va_bo [(h, .inr (2, [.ref s0, .ref s1, .ref s2, .int (nI cm), va_rf sm, .int wd])), (s0, .inl (ca 0, 40, .inl (upd sp cm v1))), (s1, .inl (ca 0, 40, .inl (upd wg cm v2)))] hP hD
    refine lv_aload_n hx hb dX2_add_29 rfl (lv_at hl 0 rfl) ?_
    refine lv_dup hx hb dX2_add_30 rfl ?_
    refine va_get (D := (dC, dI)) (ci := 2) (v := .int (nI cm)) (C := RX2) (T := TX2) (N := 6) hx hb hts inX2 hown hK hP 0 rfl rfl 3 (by decide) (hts _ mw_160) (fun _ h9 => h9) rfl dX2_add_31 ?_
    refine lv_iconst (v := 1) hx hb dX2_add_34 (by decide) ?_
    refine lv_iadd hx hb dX2_add_35 ?_
    refine lv_topi (fun y_ e_ => ?_)
    obtain rfl : y_ = (nI (cm + 1)) := e_.trans (nI_add (cm) (1))
    refine va_put (D := (dC, dI)) (ci := 2) (v := .int (nI (cm + 1))) (ty := .int) (C := RX2) (T := TX2) (N := 6) hx hb hts inX2 tyX2 tyX2_ok nmX2 hown hK hP hD hS 0 rfl rfl 3 (by decide) (hts _ mw_160) (fun _ h9 => h9) rfl (by decide +kernel) rfl rfl (Nat.le_of_ble_eq_true rfl) dX2_add_36 (fun H locs hP hD hS => ?_)
    obtain ⟨hP, hD⟩ := va_bo [(h, .inr (2, [.ref s0, .ref s1, .ref s2, .int (nI (cm + 1)), va_rf sm, .int wd])), (s0, .inl (ca 0, 40, .inl (upd sp cm v1))), (s1, .inl (ca 0, 40, .inl (upd wg cm v2)))] hP hD
    refine W.widen (k := 0) (n := 0) (Nat.le_of_ble_eq_true rfl) (Nat.le_of_ble_eq_true rfl) ?_
    have hP9 : va_P (dC, dI) vwCl [(h, .inr (2, [.ref s0, .ref s1, .ref s2, .int (nI (cm + 1)), va_rf sm, .int wd])), (s0, .inl (ca 0, 40, .inl (upd sp cm v1))), (s1, .inl (ca 0, 40, .inl (upd wg cm v2)))] H := va_P.sub hP [0, 1, 2] rfl
    have hD9 : va_D A [(h, .inr (2, [.ref s0, .ref s1, .ref s2, .int (nI (cm + 1)), va_rf sm, .int wd])), (s0, .inl (ca 0, 40, .inl (upd sp cm v1))), (s1, .inl (ca 0, 40, .inl (upd wg cm v2)))] := va_D.sub hD [0, 1, 2] (by decide) rfl
    exact W.vret hx hb hr (fun t ht hW => ⟨⟨(cm + 1, (upd sp cm v1), (upd wg cm v2)), rfl, ⟨chI_add hc (by omega) hv1 hv2, fun _ => rfl⟩, by rw [ht]; dsimp only; exact hP9, by dsimp only; exact hD9⟩, hS.F ht⟩) hS.2.2 dX2_add_39

set_option maxHeartbeats 4000000 in
set_option maxRecDepth 100000 in
theorem h_total (l : Launch) (dC : Nat → ClassId) (dI : Nat → Nat → Nat) (ca : Nat → ClassId) (h : Nat) (sm : Option Nat) (s0 : Nat) (s1 : Nat) (s2 : Nat) (cm : Nat) (wd : Int32) (wg : Nat → Int32) (hcm : cm ≤ 40) : Met l yX2_total (Cond.code yX2_total cX2_total 3 (some .int) :: gT) ({ frames := 1, cells := 0, slots := 0, locals := 60 }) (va_Pc [.ref h] (pu (dC, dI) [(h, .inr (2, [.ref s0, .ref s1, .ref s2, .int (nI cm), va_rf sm, .int wd])), (s1, .inl (ca 0, 40, .inl wg))] (aT ca))) (vp_Si (fun r => True)) 0 0 (fun _ => False) := by
  refine Met.ofW (cc := cX2_total) (maxL := 3) (ret := (some .int)) (by decide) rfl ?_
  intro p e s m args below meth c s₁ B hml hv
  obtain ⟨rfl, hP, hK, hE⟩ := hv
  have hx := B.exec
  have hb := B.bytes
  have hr := B.returns
  have hts : ∀ w ∈ gT, w.before _ s = true := fun w h => atoms_spec (ws := Cond.code yX2_total cX2_total 3 (some .int) :: gT) B.pre w (List.mem_cons_of_mem _ h)
  have hown : s.vm.findClass RX2 = some m.cls := findClass_of_methodNamed B.named
  have hlocks := B.notSynchronized
  have hl := lv_entry ([.ref h]) (n := 3) (Nat.le_of_ble_eq_true rfl)
  rw [lg_entry_eq]
  generalize (lg_sl ([.ref h]) ++ List.replicate (3 - (lg_sl ([.ref h])).length) Slot.unset).toArray = ls at hl ⊢
  have hl : lv_has ls 3 [(0, .ref h)] := hl
  refine lv_iconst (v := 0) hx hb dX2_total_0 (by decide) ?_
  refine lv_istore_n (lv' := [(1, .int 0), (0, .ref h)]) hx hb dX2_total_1 rfl hl (by decide) rfl (fun ls hl => ?_)
  refine lv_iconst (v := 0) hx hb dX2_total_2 (by decide) ?_
  refine lv_istore_n (lv' := [(2, .int 0), (1, .int 0), (0, .ref h)]) hx hb dX2_total_3 rfl hl (by decide) rfl (fun ls hl => ?_)
  refine wl_loop (fun (z_ : Nat × Int32) H locs ls => (z_.1 ≤ cm) ∧ H = s.heap ∧ locs = [] ∧ lv_has ls 3 [(2, .int (nI z_.1)), (1, .int z_.2), (0, .ref h)]) (fun (z_ : Nat × Int32) => cm - z_.1) (fun z_ H locs ls hI ih => ?_) (0, 0) ⟨(Nat.zero_le _), rfl, rfl, lv_sub hl [0, 1, 2] rfl⟩
  obtain ⟨i, sn⟩ := z_
  dsimp only at hI ih
  obtain ⟨hi, rfl, rfl, hl⟩ := hI
  refine lv_iload_n hx hb dX2_total_4 rfl (lv_at hl 0 rfl) ?_
  refine lv_aload_n hx hb dX2_total_5 rfl (lv_at hl 2 rfl) ?_
  refine va_get (D := (dC, dI)) (ci := 2) (v := .int (nI cm)) (C := RX2) (T := TX2) (N := 6) hx hb hts inX2 hown hK hP 0 rfl rfl 3 (by decide) (hts _ mw_160) (fun _ h9 => h9) rfl dX2_total_6 ?_
  refine lv_icmp_ge (tgt := 27) hx hb dX2_total_9 (by decide) (fun c_1 => ?_) (fun c_1 => ?_)
  · have nc_1 : cm ≤ i := (nI_leI (a := cm) (b := i) (by omega) (by omega)).mp c_1
    refine lv_iload_n hx hb dX2_total_27 rfl (lv_at hl 1 rfl) ?_
    exact W.iret (v := sn) hx hb hr (fun t ht hW => ⟨sn, rfl, trivial, ht⟩) (fun q h => absurd h List.not_mem_nil) dX2_total_28
  · have nc_1 : ¬ (cm ≤ i) := fun h9 => c_1 ((nI_leI (a := cm) (b := i) (by omega) (by omega)).mpr h9)
    refine lv_iload_n hx hb dX2_total_12 rfl (lv_at hl 1 rfl) ?_
    refine lv_aload_n hx hb dX2_total_13 rfl (lv_at hl 2 rfl) ?_
    refine va_get (D := (dC, dI)) (ci := 2) (v := .ref s1) (C := RX2) (T := TX2) (N := 6) hx hb hts inX2 hown hK hP 0 rfl rfl 1 (by decide) (hts _ mw_156) (fun _ h9 => h9) rfl dX2_total_14 ?_
    refine lv_iload_n hx hb dX2_total_17 rfl (lv_at hl 0 rfl) ?_
    refine va_iald hx hb hK hP 1 0 rfl rfl (vp_in_nI (show i < 40 by omega) (by first | decide | omega)) dX2_total_18 ?_
    refine lv_topi (fun y_ e_ => ?_)
    obtain rfl : y_ = (wg i) := e_.trans (congrArg wg (show ((nI i) : Int32).toNatClampNeg = i from nI_clamp (by omega)))
    refine lv_iadd hx hb dX2_total_19 ?_
    refine lv_istore_n (lv' := [(1, .int (sn + (wg i))), (2, .int (nI i)), (0, .ref h)]) hx hb dX2_total_20 rfl hl (by decide) rfl (fun ls hl => ?_)
    refine lv_iinc (v := (nI (i + 1))) (lv' := [(2, .int (nI (i + 1))), (1, .int (sn + (wg i))), (0, .ref h)]) hx hb dX2_total_21 hl (k := 1) rfl (nI_add (i) 1) (by decide) rfl (fun ls hl => ?_)
    refine lv_goto (tgt := 4) hx hb dX2_total_24 (by decide) ?_
    exact ih (i + 1, (sn + (wg i))) _ _ _ (by omega) ⟨(by omega), rfl, rfl, lv_sub hl [0, 1, 2] rfl⟩

set_option maxHeartbeats 4000000 in
set_option maxRecDepth 100000 in
theorem h_countChosen (l : Launch) (dC : Nat → ClassId) (dI : Nat → Nat → Nat) (ca : Nat → ClassId) (h : Nat) (sm : Option Nat) (s0 : Nat) (s1 : Nat) (s2 : Nat) (cm : Nat) (wd : Int32) (cz : Nat → Int32) (hcm : cm ≤ 40) : Met l yX2_countChosen (Cond.code yX2_countChosen cX2_countChosen 3 (some .int) :: gT) ({ frames := 1, cells := 0, slots := 0, locals := 60 }) (va_Pc [.ref h] (pu (dC, dI) [(h, .inr (2, [.ref s0, .ref s1, .ref s2, .int (nI cm), va_rf sm, .int wd])), (s2, .inl (ca 1, 40, .inl cz))] (aT ca))) (vp_Si (fun r => ∃ k : Nat, k ≤ 40 ∧ r = nI k)) 0 0 (fun _ => False) := by
  refine Met.ofW (cc := cX2_countChosen) (maxL := 3) (ret := (some .int)) (by decide) rfl ?_
  intro p e s m args below meth c s₁ B hml hv
  obtain ⟨rfl, hP, hK, hE⟩ := hv
  have hx := B.exec
  have hb := B.bytes
  have hr := B.returns
  have hts : ∀ w ∈ gT, w.before _ s = true := fun w h => atoms_spec (ws := Cond.code yX2_countChosen cX2_countChosen 3 (some .int) :: gT) B.pre w (List.mem_cons_of_mem _ h)
  have hown : s.vm.findClass RX2 = some m.cls := findClass_of_methodNamed B.named
  have hlocks := B.notSynchronized
  have hl := lv_entry ([.ref h]) (n := 3) (Nat.le_of_ble_eq_true rfl)
  rw [lg_entry_eq]
  generalize (lg_sl ([.ref h]) ++ List.replicate (3 - (lg_sl ([.ref h])).length) Slot.unset).toArray = ls at hl ⊢
  have hl : lv_has ls 3 [(0, .ref h)] := hl
  refine lv_iconst (v := 0) hx hb dX2_countChosen_0 (by decide) ?_
  refine lv_istore_n (lv' := [(1, .int 0), (0, .ref h)]) hx hb dX2_countChosen_1 rfl hl (by decide) rfl (fun ls hl => ?_)
  refine lv_iconst (v := 0) hx hb dX2_countChosen_2 (by decide) ?_
  refine lv_istore_n (lv' := [(2, .int 0), (1, .int 0), (0, .ref h)]) hx hb dX2_countChosen_3 rfl hl (by decide) rfl (fun ls hl => ?_)
  refine wl_loop (fun (z_ : Nat × Nat) H locs ls => (z_.1 ≤ cm ∧ z_.2 ≤ z_.1) ∧ H = s.heap ∧ locs = [] ∧ lv_has ls 3 [(2, .int (nI z_.1)), (1, .int (nI z_.2)), (0, .ref h)]) (fun (z_ : Nat × Nat) => cm - z_.1) (fun z_ H locs ls hI ih => ?_) (0, 0) ⟨⟨Nat.zero_le _, Nat.le_refl _⟩, rfl, rfl, lv_sub hl [0, 1, 2] rfl⟩
  obtain ⟨i, sn⟩ := z_
  dsimp only at hI ih
  obtain ⟨⟨hi, hi2⟩, rfl, rfl, hl⟩ := hI
  refine lv_iload_n hx hb dX2_countChosen_4 rfl (lv_at hl 0 rfl) ?_
  refine lv_aload_n hx hb dX2_countChosen_5 rfl (lv_at hl 2 rfl) ?_
  refine va_get (D := (dC, dI)) (ci := 2) (v := .int (nI cm)) (C := RX2) (T := TX2) (N := 6) hx hb hts inX2 hown hK hP 0 rfl rfl 3 (by decide) (hts _ mw_160) (fun _ h9 => h9) rfl dX2_countChosen_6 ?_
  refine lv_icmp_ge (tgt := 30) hx hb dX2_countChosen_9 (by decide) (fun c_1 => ?_) (fun c_1 => ?_)
  · have nc_1 : cm ≤ i := (nI_leI (a := cm) (b := i) (by omega) (by omega)).mp c_1
    refine lv_iload_n hx hb dX2_countChosen_30 rfl (lv_at hl 1 rfl) ?_
    exact W.iret (v := (nI sn)) hx hb hr (fun t ht hW => ⟨(nI sn), rfl, ⟨sn, by omega, rfl⟩, ht⟩) (fun q h => absurd h List.not_mem_nil) dX2_countChosen_31
  · have nc_1 : ¬ (cm ≤ i) := fun h9 => c_1 ((nI_leI (a := cm) (b := i) (by omega) (by omega)).mpr h9)
    refine lv_aload_n hx hb dX2_countChosen_12 rfl (lv_at hl 2 rfl) ?_
    refine va_get (D := (dC, dI)) (ci := 2) (v := .ref s2) (C := RX2) (T := TX2) (N := 6) hx hb hts inX2 hown hK hP 0 rfl rfl 2 (by decide) (hts _ mw_158) (fun _ h9 => h9) rfl dX2_countChosen_13 ?_
    refine lv_iload_n hx hb dX2_countChosen_16 rfl (lv_at hl 0 rfl) ?_
    refine va_zald hx hb hK hP 1 1 rfl rfl (vp_in_nI (show i < 40 by omega) (by first | decide | omega)) dX2_countChosen_17 ?_
    refine lv_topi (fun y_ e_ => ?_)
    obtain rfl : y_ = (cz i) := e_.trans (congrArg cz (show ((nI i) : Int32).toNatClampNeg = i from nI_clamp (by omega)))
    refine lv_if_eq (tgt := 24) hx hb dX2_countChosen_18 (by decide) (fun c_2 => ?_) (fun c_2 => ?_)
    · refine lv_iinc (v := (nI (i + 1))) (lv' := [(2, .int (nI (i + 1))), (1, .int (nI sn)), (0, .ref h)]) hx hb dX2_countChosen_24 hl (k := 0) rfl (nI_add (i) 1) (by decide) rfl (fun ls hl => ?_)
      refine lv_goto (tgt := 4) hx hb dX2_countChosen_27 (by decide) ?_
      exact ih (i + 1, sn) _ _ _ (by omega) ⟨(by omega), rfl, rfl, lv_sub hl [0, 1, 2] rfl⟩
    · refine lv_iinc (v := (nI (sn + 1))) (lv' := [(1, .int (nI (sn + 1))), (2, .int (nI i)), (0, .ref h)]) hx hb dX2_countChosen_21 hl (k := 1) rfl (nI_add (sn) 1) (by decide) rfl (fun ls hl => ?_)
      refine lv_iinc (v := (nI (i + 1))) (lv' := [(2, .int (nI (i + 1))), (1, .int (nI (sn + 1))), (0, .ref h)]) hx hb dX2_countChosen_24 hl (k := 1) rfl (nI_add (i) 1) (by decide) rfl (fun ls hl => ?_)
      refine lv_goto (tgt := 4) hx hb dX2_countChosen_27 (by decide) ?_
      exact ih (i + 1, sn + 1) _ _ _ (by omega) ⟨(by omega), rfl, rfl, lv_sub hl [0, 1, 2] rfl⟩

def oM (sm : Option Nat) : Nat := if sm.isNone then 1 else 0
theorem oM_le (sm : Option Nat) : oM sm ≤ 1 := by unfold oM; split <;> omega
theorem sub_cw {a b M : Nat} (ha : a < 2 ^ 30) (hb : b < 2 ^ 30) (h : a < M) : nI a - nI b < 0 ∨ ∃ k : Nat, nI a - nI b = nI k ∧ k < M := by
  rcases Nat.lt_or_ge a b with h1 | h1
  · exact Or.inl (pk_sneg hb h1)
  · exact Or.inr ⟨a - b, pk_sub h1, by omega⟩
theorem sub_nn {a b : Nat} (hb : b < 2 ^ 30) (h : ¬ nI a - nI b < 0) : b ≤ a := by
  rcases Nat.lt_or_ge a b with h1 | h1
  · exact absurd (pk_sneg hb h1) h
  · exact h1
theorem zb_nar {r : Int32} (h : r = 0 ∨ r = 1) : vp_nar .boolean r = r := by rcases h with rfl | rfl <;> rfl
theorem add_m1 (x : Int32) : x + (-1) = x - 1 := by rw [Int32.sub_eq_add_neg]
theorem nn_pred {j : Nat} (h : ¬ nI j - 1 < 0) (hj : j < 2 ^ 31) : ∃ i, j = i + 1 := by
  rcases Nat.eq_zero_or_pos j with h0 | h0
  · subst h0; exact absurd (by decide) h
  · exact ⟨j - 1, by omega⟩
theorem ml2 {i wn : Nat} (hi : i + 2 ≤ 41) (hw : wn ≤ 133) : i * wn + 2 * wn ≤ 5453 := by
  have := Nat.mul_le_mul hi hw
  rw [Nat.add_mul] at this
  omega
theorem ml1 {i wn : Nat} (hi : i + 1 ≤ 41) (hw : wn ≤ 133) : i * wn + wn ≤ 5453 := by
  have := Nat.mul_le_mul hi hw
  rw [Nat.add_mul, Nat.one_mul] at this
  omega

set_option maxHeartbeats 4000000 in
set_option maxRecDepth 100000 in
theorem h_canWeigh (l : Launch) (dC : Nat → ClassId) (dI : Nat → Nat → Nat) (ca : Nat → ClassId) (h : Nat) (q : Nat) (SM : Nat → Int64) (s0 : Nat) (s1 : Nat) (s2 : Nat) (cm : Nat) (wn : Nat) (fr : Nat) (v1 : Int32) (hfr : fr ≤ 40) (hwn : wn ≤ 133) (hv : v1 < 0 ∨ ∃ k : Nat, v1 = nI k ∧ k < 64 * wn) : Met l yX2_canWeigh (Cond.code yX2_canWeigh cX2_canWeigh 3 (some .boolean) :: gT) ({ frames := 1, cells := 0, slots := 0, locals := 60 }) (va_Pc [.ref h, .int (nI fr), .int v1] (pu (dC, dI) [(h, .inr (2, [.ref s0, .ref s1, .ref s2, .int (nI cm), .ref q, .int (nI wn)])), (q, .inl (ca 3, 5453, .inr (.inl SM)))] (aT ca))) (vp_Si (fun r => (r = 0 ∨ r = 1) ∧ (¬ r = 0 → ¬ v1 < 0))) 0 0 (fun _ => False) := by
  refine Met.ofW (cc := cX2_canWeigh) (maxL := 3) (ret := (some .boolean)) (by decide) rfl ?_
  intro p e s m args below meth c s₁ B hml hv
  obtain ⟨rfl, hP, hK, hE⟩ := hv
  have hx := B.exec
  have hb := B.bytes
  have hr := B.returns
  have hts : ∀ w ∈ gT, w.before _ s = true := fun w h => atoms_spec (ws := Cond.code yX2_canWeigh cX2_canWeigh 3 (some .boolean) :: gT) B.pre w (List.mem_cons_of_mem _ h)
  have hown : s.vm.findClass RX2 = some m.cls := findClass_of_methodNamed B.named
  have hlocks := B.notSynchronized
  have hl := lv_entry ([.ref h, .int (nI fr), .int v1]) (n := 3) (Nat.le_of_ble_eq_true rfl)
  rw [lg_entry_eq]
  generalize (lg_sl ([.ref h, .int (nI fr), .int v1]) ++ List.replicate (3 - (lg_sl ([.ref h, .int (nI fr), .int v1])).length) Slot.unset).toArray = ls at hl ⊢
  have hl : lv_has ls 3 [(0, .ref h), (1, .int (nI fr)), (2, .int v1)] := hl
  refine lv_iload_n hx hb dX2_canWeigh_0 rfl (lv_at hl 2 rfl) ?_
  refine lv_if_lt (tgt := 36) hx hb dX2_canWeigh_1 (by decide) (fun c_1 => ?_) (fun c_1 => ?_)
  · refine lv_iconst (v := 0) hx hb dX2_canWeigh_36 (by decide) ?_
    exact W.zret (v := 0) (ty := .boolean) hx hb hr rfl (fun t ht hW => ⟨0, rfl, ⟨(Or.inl rfl), fun h9 => absurd rfl h9⟩, ht⟩) (fun q h => absurd h List.not_mem_nil) dX2_canWeigh_37
  · obtain ⟨k, ek, hk⟩ := hv.resolve_left c_1
    subst ek
    have hfl := ml1 (i := fr) (wn := wn) (by omega) hwn
    refine lv_aload_n hx hb dX2_canWeigh_4 rfl (lv_at hl 0 rfl) ?_
    refine va_get (D := (dC, dI)) (ci := 2) (v := .ref q) (C := RX2) (T := TX2) (N := 6) hx hb hts inX2 hown hK hP 0 rfl rfl 4 (by decide) (hts _ mw_163) (fun _ h9 => h9) rfl dX2_canWeigh_5 ?_
    refine lv_iload_n hx hb dX2_canWeigh_8 rfl (lv_at hl 1 rfl) ?_
    refine lv_aload_n hx hb dX2_canWeigh_9 rfl (lv_at hl 0 rfl) ?_
    refine va_get (D := (dC, dI)) (ci := 2) (v := .int (nI wn)) (C := RX2) (T := TX2) (N := 6) hx hb hts inX2 hown hK hP 0 rfl rfl 5 (by decide) (hts _ mw_164) (fun _ h9 => h9) rfl dX2_canWeigh_10 ?_
    refine lv_imul hx hb dX2_canWeigh_13 ?_
    refine lv_topi (fun y_ e_ => ?_)
    obtain rfl : y_ = (nI (fr * wn)) := e_.trans (pk_mul (fr) (wn))
    refine lv_iload_n hx hb dX2_canWeigh_14 rfl (lv_at hl 2 rfl) ?_
    refine lv_bipush (v := 64) hx hb dX2_canWeigh_15 (by decide) ?_
    refine lv_idiv hx hb dX2_canWeigh_17 (by decide) ?_
    refine lv_topi (fun y_ e_ => ?_)
    obtain rfl : y_ = (nI (k / 64)) := e_.trans (pk_div (by omega) (by decide) (by decide))
    refine lv_iadd hx hb dX2_canWeigh_18 ?_
    refine lv_topi (fun y_ e_ => ?_)
    obtain rfl : y_ = (nI (fr * wn + k / 64)) := e_.trans (nI_add (fr * wn) (k / 64))
    refine va_lald hx hb hK hP 1 3 rfl rfl (vp_in_nI (show fr * wn + k / 64 < 5453 by omega) (by first | decide | omega)) dX2_canWeigh_19 ?_
    refine lv_topl (fun y_ e_ => ?_)
    obtain rfl : y_ = (SM (fr * wn + k / 64)) := e_.trans (congrArg SM (show ((nI (fr * wn + k / 64)) : Int32).toNatClampNeg = fr * wn + k / 64 from nI_clamp (by omega)))
    refine lv_iload_n hx hb dX2_canWeigh_20 rfl (lv_at hl 2 rfl) ?_
    refine lv_bipush (v := 64) hx hb dX2_canWeigh_21 (by decide) ?_
    refine lv_irem hx hb dX2_canWeigh_23 (by decide) ?_
    refine lv_topi (fun y_ e_ => ?_)
    obtain rfl : y_ = (nI (k % 64)) := e_.trans (pk_rem (by omega) (by decide) (by decide))
    refine lv_lushr (v := (((SM (fr * wn + k / 64)) : Int64).toUInt64 >>> (((nI (k % 64)) : Int32).toInt64.toUInt64 &&& Int64.toUInt64 63)).toInt64) hx hb dX2_canWeigh_24 rfl ?_
    refine lv_lconst (v := 1) hx hb dX2_canWeigh_25 (by decide) ?_
    refine lv_land hx hb dX2_canWeigh_26 ?_
    refine lv_lconst (v := 0) hx hb dX2_canWeigh_27 (by decide) ?_
    refine W.lcmp hx hb dX2_canWeigh_28 ?_
    refine lv_if_eq (tgt := 36) hx hb dX2_canWeigh_29 (by decide) (fun c_2 => ?_) (fun c_2 => ?_)
    · refine lv_iconst (v := 0) hx hb dX2_canWeigh_36 (by decide) ?_
      exact W.zret (v := 0) (ty := .boolean) hx hb hr rfl (fun t ht hW => ⟨0, rfl, ⟨(Or.inl rfl), fun h9 => absurd rfl h9⟩, ht⟩) (fun q h => absurd h List.not_mem_nil) dX2_canWeigh_37
    · refine lv_iconst (v := 1) hx hb dX2_canWeigh_32 (by decide) ?_
      refine lv_goto (tgt := 37) hx hb dX2_canWeigh_33 (by decide) ?_
      exact W.zret (v := 1) (ty := .boolean) hx hb hr rfl (fun t ht hW => ⟨1, rfl, ⟨(Or.inr rfl), fun _ => c_1⟩, ht⟩) (fun q h => absurd h List.not_mem_nil) dX2_canWeigh_37

set_option maxHeartbeats 4000000 in
set_option maxRecDepth 100000 in
theorem h_addPiece (l : Launch) (dC : Nat → ClassId) (dI : Nat → Nat → Nat) (ca : Nat → ClassId) (sz : Nat) (h : Nat) (q : Nat) (SM : Nat → Int64) (s0 : Nat) (s1 : Nat) (s2 : Nat) (cm : Nat) (wn : Nat) (sa : Nat) (pw : Nat) (hwn : wn ≤ 133) (hsa : sa + 2 * wn ≤ 5453) (hpw : pw ≤ 3000) : Met l yX2_addPiece (Cond.code yX2_addPiece cX2_addPiece 11 none :: gT) ({ frames := 2, cells := 0, slots := 0, locals := 60 }) (va_Pc [.ref h, .int (nI sa), .int (nI pw)] (pr (dC, dI) sz [(h, .inr (2, [.ref s0, .ref s1, .ref s2, .int (nI cm), .ref q, .int (nI wn)])), (q, .inl (ca 3, 5453, .inr (.inl SM)))] (aT ca))) (va_Qv (fun (u_ : (Nat → Int64)) => True) (fun (u_ : (Nat → Int64)) t => va_P (dC, dI) vwCl [(h, .inr (2, [.ref s0, .ref s1, .ref s2, .int (nI cm), .ref q, .int (nI wn)])), (q, .inl (ca 3, 5453, .inr (.inl u_)))] t.heap ∧ va_D (va_A [(h, .inr (2, [.ref s0, .ref s1, .ref s2, .int (nI cm), .ref q, .int (nI wn)])), (q, .inl (ca 3, 5453, .inr (.inl SM)))] sz) [(h, .inr (2, [.ref s0, .ref s1, .ref s2, .int (nI cm), .ref q, .int (nI wn)])), (q, .inl (ca 3, 5453, .inr (.inl u_)))]) (va_A [(h, .inr (2, [.ref s0, .ref s1, .ref s2, .int (nI cm), .ref q, .int (nI wn)])), (q, .inl (ca 3, 5453, .inr (.inl SM)))] sz)) 0 0 (va_A [(h, .inr (2, [.ref s0, .ref s1, .ref s2, .int (nI cm), .ref q, .int (nI wn)])), (q, .inl (ca 3, 5453, .inr (.inl SM)))] sz) := by
  refine Met.ofW (cc := cX2_addPiece) (maxL := 11) (ret := none) (by decide) rfl ?_
  intro p e s m args below meth c s₁ B hml hv
  obtain ⟨rfl, hsz, hP, hK, hD0, hE⟩ := hv
  have hx := B.exec
  have hb := B.bytes
  have hr := B.returns
  have hts : ∀ w ∈ gT, w.before _ s = true := fun w h => atoms_spec (ws := Cond.code yX2_addPiece cX2_addPiece 11 none :: gT) B.pre w (List.mem_cons_of_mem _ h)
  have hown : s.vm.findClass RX2 = some m.cls := findClass_of_methodNamed B.named
  have hlocks := B.notSynchronized
  subst hsz
  have hD := hD0.self (sz := s.heap.size)
  generalize hAe : va_A [(h, .inr (2, [.ref s0, .ref s1, .ref s2, .int (nI cm), .ref q, .int (nI wn)])), (q, .inl (ca 3, 5453, .inr (.inl SM)))] s.heap.size = A at hD ⊢
  have hA : ∀ q : Nat, s.heap.size ≤ q → A q := fun q h => by rw [← hAe]; exact Or.inr h
  have hS : va_S A s.heap s.heap [] := va_S.rf
  have hl := lv_entry ([.ref h, .int (nI sa), .int (nI pw)]) (n := 11) (Nat.le_of_ble_eq_true rfl)
  rw [lg_entry_eq]
  generalize (lg_sl ([.ref h, .int (nI sa), .int (nI pw)]) ++ List.replicate (11 - (lg_sl ([.ref h, .int (nI sa), .int (nI pw)])).length) Slot.unset).toArray = ls at hl ⊢
  have hl : lv_has ls 11 [(0, .ref h), (1, .int (nI sa)), (2, .int (nI pw))] := hl
  refine lv_iload_n hx hb dX2_addPiece_0 rfl (lv_at hl 1 rfl) ?_
  refine lv_aload_n hx hb dX2_addPiece_1 rfl (lv_at hl 0 rfl) ?_
  refine va_get (D := (dC, dI)) (ci := 2) (v := .int (nI wn)) (C := RX2) (T := TX2) (N := 6) hx hb hts inX2 hown hK hP 0 rfl rfl 5 (by decide) (hts _ mw_164) (fun _ h9 => h9) rfl dX2_addPiece_2 ?_
  refine lv_iadd hx hb dX2_addPiece_5 ?_
  refine lv_topi (fun y_ e_ => ?_)
  obtain rfl : y_ = (nI (sa + wn)) := e_.trans (nI_add (sa) (wn))
  refine lv_istore_n (lv' := [(3, .int (nI (sa + wn))), (0, .ref h), (1, .int (nI sa)), (2, .int (nI pw))]) hx hb dX2_addPiece_6 rfl hl (by decide) rfl (fun ls hl => ?_)
  refine lv_iload_n hx hb dX2_addPiece_7 rfl (lv_at hl 3 rfl) ?_
  refine lv_bipush (v := 64) hx hb dX2_addPiece_8 (by decide) ?_
  refine lv_idiv hx hb dX2_addPiece_10 (by decide) ?_
  refine lv_topi (fun y_ e_ => ?_)
  obtain rfl : y_ = (nI (pw / 64)) := e_.trans (pk_div (by omega) (by decide) (by decide))
  refine lv_istore (lv' := [(4, .int (nI (pw / 64))), (3, .int (nI (sa + wn))), (0, .ref h), (1, .int (nI sa)), (2, .int (nI pw))]) hx hb dX2_addPiece_11 hl (by decide) rfl (fun ls hl => ?_)
  refine lv_iload_n hx hb dX2_addPiece_13 rfl (lv_at hl 4 rfl) ?_
  refine lv_bipush (v := 64) hx hb dX2_addPiece_14 (by decide) ?_
  refine lv_irem hx hb dX2_addPiece_16 (by decide) ?_
  refine lv_topi (fun y_ e_ => ?_)
  obtain rfl : y_ = (nI (pw % 64)) := e_.trans (pk_rem (by omega) (by decide) (by decide))
  refine lv_istore (lv' := [(5, .int (nI (pw % 64))), (4, .int (nI (pw / 64))), (3, .int (nI (sa + wn))), (0, .ref h), (1, .int (nI sa)), (2, .int (nI pw))]) hx hb dX2_addPiece_17 hl (by decide) rfl (fun ls hl => ?_)
  refine lv_iload hx hb dX2_addPiece_19 (lv_at hl 1 rfl) ?_
  refine lv_aload_n hx hb dX2_addPiece_21 rfl (lv_at hl 3 rfl) ?_
  refine va_get (D := (dC, dI)) (ci := 2) (v := .int (nI wn)) (C := RX2) (T := TX2) (N := 6) hx hb hts inX2 hown hK hP 0 rfl rfl 5 (by decide) (hts _ mw_164) (fun _ h9 => h9) rfl dX2_addPiece_22 ?_
  refine va_mmin hx hb (by rw [hml]; exact hl.1.symm) hown (hts _ mw_661) (hts _ mw_442) (hts _ mw_12) (hts _ mmin_code) (Nat.le_of_ble_eq_true rfl) (Nat.le_of_ble_eq_true rfl) (Nat.le_of_ble_eq_true rfl) (Nat.le_of_ble_eq_true rfl) dX2_addPiece_25 ?_
  refine lv_topi (fun y_ e_ => ?_)
  obtain rfl : y_ = (nI (min (pw / 64) wn)) := e_.trans (nI_min (by omega) (by omega))
  refine lv_istore (lv' := [(6, .int (nI (min (pw / 64) wn))), (5, .int (nI (pw % 64))), (4, .int (nI (pw / 64))), (3, .int (nI (sa + wn))), (0, .ref h), (1, .int (nI sa)), (2, .int (nI pw))]) hx hb dX2_addPiece_28 hl (by decide) rfl (fun ls hl => ?_)
  refine lv_aload_n hx hb dX2_addPiece_30 rfl (lv_at hl 4 rfl) ?_
  refine va_get (D := (dC, dI)) (ci := 2) (v := .ref q) (C := RX2) (T := TX2) (N := 6) hx hb hts inX2 hown hK hP 0 rfl rfl 4 (by decide) (hts _ mw_163) (fun _ h9 => h9) rfl dX2_addPiece_31 ?_
  refine lv_iload_n hx hb dX2_addPiece_34 rfl (lv_at hl 3 rfl) ?_
  refine lv_aload_n hx hb dX2_addPiece_35 rfl (lv_at hl 4 rfl) ?_
  refine va_get (D := (dC, dI)) (ci := 2) (v := .ref q) (C := RX2) (T := TX2) (N := 6) hx hb hts inX2 hown hK hP 0 rfl rfl 4 (by decide) (hts _ mw_163) (fun _ h9 => h9) rfl dX2_addPiece_36 ?_
  refine lv_iload_n hx hb dX2_addPiece_39 rfl (lv_at hl 5 rfl) ?_
  refine lv_iload hx hb dX2_addPiece_40 (lv_at hl 0 rfl) ?_
  refine va_copyl (ty := .long) hx hb (by rw [hml]; exact hl.1.symm) hown (hts _ mw_670) (hts _ mw_672) (hts _ mw_671) (hts _ mw_15) hK hP hD hS 1 1 3 3 rfl rfl rfl rfl rfl (nI_pos (by omega)) (nI_pos (by omega)) (nI_pos (by omega)) (by rw [nI_clamp (by omega), nI_clamp (by omega)]; omega) (by rw [nI_clamp (by omega), nI_clamp (by omega)]; omega) (fun _ _ => rfl) (Nat.le_of_ble_eq_true rfl) (Nat.le_of_ble_eq_true rfl) dX2_addPiece_42 (fun H locs hP hD hS => ?_)
  obtain ⟨hP, hD⟩ := va_bo [(h, .inr (2, [.ref s0, .ref s1, .ref s2, .int (nI cm), .ref q, .int (nI wn)])), (q, .inl (ca 3, 5453, .inr (.inl (va_cpy SM SM ((nI (sa + wn)) : Int32).toNatClampNeg ((nI sa) : Int32).toNatClampNeg ((nI (min (pw / 64) wn)) : Int32).toNatClampNeg))))] hP hD
  refine lv_iload hx hb dX2_addPiece_45 (lv_at hl 0 rfl) ?_
  refine lv_istore (lv' := [(7, .int (nI (min (pw / 64) wn))), (6, .int (nI (min (pw / 64) wn))), (5, .int (nI (pw % 64))), (4, .int (nI (pw / 64))), (3, .int (nI (sa + wn))), (0, .ref h), (1, .int (nI sa)), (2, .int (nI pw))]) hx hb dX2_addPiece_47 hl (by decide) rfl (fun ls hl => ?_)
  refine wl_loop (fun (z_ : Nat × (Nat → Int64)) H locs ls => (min (pw / 64) wn ≤ z_.1 ∧ z_.1 ≤ wn) ∧ va_P (dC, dI) vwCl [(h, .inr (2, [.ref s0, .ref s1, .ref s2, .int (nI cm), .ref q, .int (nI wn)])), (q, .inl (ca 3, 5453, .inr (.inl z_.2)))] H ∧ va_D A [(h, .inr (2, [.ref s0, .ref s1, .ref s2, .int (nI cm), .ref q, .int (nI wn)])), (q, .inl (ca 3, 5453, .inr (.inl z_.2)))] ∧ va_S A s.heap H locs ∧ lv_has ls 11 [(7, .int (nI z_.1)), (6, .int (nI (min (pw / 64) wn))), (5, .int (nI (pw % 64))), (4, .int (nI (pw / 64))), (3, .int (nI (sa + wn))), (0, .ref h), (1, .int (nI sa)), (2, .int (nI pw))]) (fun (z_ : Nat × (Nat → Int64)) => wn - z_.1) (fun z_ H locs ls hI ih => ?_) (min (pw / 64) wn, (va_cpy SM SM ((nI (sa + wn)) : Int32).toNatClampNeg ((nI sa) : Int32).toNatClampNeg ((nI (min (pw / 64) wn)) : Int32).toNatClampNeg)) ⟨⟨Nat.le_refl _, Nat.min_le_right _ _⟩, hP, hD, hS, lv_sub hl [0, 1, 2, 3, 4, 5, 6, 7] rfl⟩
  obtain ⟨k, S1⟩ := z_
  dsimp only at hI ih
  obtain ⟨⟨hk, hk2⟩, hP, hD, hS, hl⟩ := hI
  refine lv_iload hx hb dX2_addPiece_49 (lv_at hl 0 rfl) ?_
  refine lv_aload_n hx hb dX2_addPiece_51 rfl (lv_at hl 5 rfl) ?_
  refine va_get (D := (dC, dI)) (ci := 2) (v := .int (nI wn)) (C := RX2) (T := TX2) (N := 6) hx hb hts inX2 hown hK hP 0 rfl rfl 5 (by decide) (hts _ mw_164) (fun _ h9 => h9) rfl dX2_addPiece_52 ?_
  refine lv_icmp_ge (tgt := 138) hx hb dX2_addPiece_55 (by decide) (fun c_1 => ?_) (fun c_1 => ?_)
  · have nc_1 : wn ≤ k := (nI_leI (a := wn) (b := k) (by omega) (by omega)).mp c_1
    refine W.widen (k := 0) (n := 0) (Nat.le_of_ble_eq_true rfl) (Nat.le_of_ble_eq_true rfl) ?_
    have hP9 : va_P (dC, dI) vwCl [(h, .inr (2, [.ref s0, .ref s1, .ref s2, .int (nI cm), .ref q, .int (nI wn)])), (q, .inl (ca 3, 5453, .inr (.inl S1)))] H := va_P.sub hP [0, 1] rfl
    have hD9 : va_D A [(h, .inr (2, [.ref s0, .ref s1, .ref s2, .int (nI cm), .ref q, .int (nI wn)])), (q, .inl (ca 3, 5453, .inr (.inl S1)))] := va_D.sub hD [0, 1] (by decide) rfl
    exact W.vret hx hb hr (fun t ht hW => ⟨⟨S1, rfl, trivial, by rw [ht]; exact hP9, hD9⟩, hS.F ht⟩) hS.2.2 dX2_addPiece_138
  · have nc_1 : ¬ (wn ≤ k) := fun h9 => c_1 ((nI_leI (a := wn) (b := k) (by omega) (by omega)).mpr h9)
    refine lv_iload_n hx hb dX2_addPiece_58 rfl (lv_at hl 4 rfl) ?_
    refine lv_iload hx hb dX2_addPiece_59 (lv_at hl 0 rfl) ?_
    refine lv_iadd hx hb dX2_addPiece_61 ?_
    refine lv_topi (fun y_ e_ => ?_)
    obtain rfl : y_ = (nI (sa + wn + k)) := e_.trans (nI_add (sa + wn) (k))
    refine lv_iload hx hb dX2_addPiece_62 (lv_at hl 3 rfl) ?_
    refine lv_isub hx hb dX2_addPiece_64 ?_
    refine lv_topi (fun y_ e_ => ?_)
    obtain rfl : y_ = (nI ((sa + wn + k) - (pw / 64))) := e_.trans (pk_sub (show pw / 64 ≤ sa + wn + k by omega))
    refine lv_istore (lv' := [(8, .int (nI ((sa + wn + k) - (pw / 64)))), (7, .int (nI k)), (6, .int (nI (min (pw / 64) wn))), (5, .int (nI (pw % 64))), (4, .int (nI (pw / 64))), (3, .int (nI (sa + wn))), (0, .ref h), (1, .int (nI sa)), (2, .int (nI pw))]) hx hb dX2_addPiece_65 hl (by decide) rfl (fun ls hl => ?_)
    refine lv_aload_n hx hb dX2_addPiece_67 rfl (lv_at hl 6 rfl) ?_
    refine va_get (D := (dC, dI)) (ci := 2) (v := .ref q) (C := RX2) (T := TX2) (N := 6) hx hb hts inX2 hown hK hP 0 rfl rfl 4 (by decide) (hts _ mw_163) (fun _ h9 => h9) rfl dX2_addPiece_68 ?_
    refine lv_iload hx hb dX2_addPiece_71 (lv_at hl 0 rfl) ?_
    refine va_lald hx hb hK hP 1 3 rfl rfl (vp_in_nI (show (sa + wn + k) - (pw / 64) < 5453 by omega) (by first | decide | omega)) dX2_addPiece_73 ?_
    refine lv_topl (fun y_ e_ => ?_)
    obtain rfl : y_ = (S1 ((sa + wn + k) - (pw / 64))) := e_.trans (congrArg S1 (show ((nI ((sa + wn + k) - (pw / 64))) : Int32).toNatClampNeg = (sa + wn + k) - (pw / 64) from nI_clamp (by omega)))
    refine lv_iload hx hb dX2_addPiece_74 (lv_at hl 3 rfl) ?_
    refine lv_lshl (v := (((S1 ((sa + wn + k) - (pw / 64))) : Int64) <<< (((nI (pw % 64)) : Int32).toInt64 &&& 63))) hx hb dX2_addPiece_76 rfl ?_
    refine lv_lstore (lv' := [(9, .long (((S1 ((sa + wn + k) - (pw / 64))) : Int64) <<< (((nI (pw % 64)) : Int32).toInt64 &&& 63))), (8, .int (nI ((sa + wn + k) - (pw / 64)))), (7, .int (nI k)), (6, .int (nI (min (pw / 64) wn))), (5, .int (nI (pw % 64))), (4, .int (nI (pw / 64))), (3, .int (nI (sa + wn))), (0, .ref h), (1, .int (nI sa)), (2, .int (nI pw))]) hx hb dX2_addPiece_77 hl (by decide) rfl (fun ls hl => ?_)
    refine lv_iload hx hb dX2_addPiece_79 (lv_at hl 4 rfl) ?_
    refine wl_cut (pc2 := 111) (σ := Int64) (stk2 := fun (z_ : Int64) => []) (fun (z_ : Int64) H locs ls => (True) ∧ va_P (dC, dI) vwCl [(h, .inr (2, [.ref s0, .ref s1, .ref s2, .int (nI cm), .ref q, .int (nI wn)])), (q, .inl (ca 3, 5453, .inr (.inl S1)))] H ∧ va_D A [(h, .inr (2, [.ref s0, .ref s1, .ref s2, .int (nI cm), .ref q, .int (nI wn)])), (q, .inl (ca 3, 5453, .inr (.inl S1)))] ∧ va_S A s.heap H locs ∧ lv_has ls 11 [(9, .long z_), (8, .int (nI ((sa + wn + k) - (pw / 64)))), (7, .int (nI k)), (6, .int (nI (min (pw / 64) wn))), (5, .int (nI (pw % 64))), (4, .int (nI (pw / 64))), (3, .int (nI (sa + wn))), (0, .ref h), (1, .int (nI sa)), (2, .int (nI pw))]) (fun z_ H locs ls hI => ?_) (fun J2 => ?_)
    · revert hI; revert z_; intro lg hI
      obtain ⟨-, hP, hD, hS, hl⟩ := hI
      refine lv_aload_n hx hb dX2_addPiece_111 rfl (lv_at hl 7 rfl) ?_
      refine va_get (D := (dC, dI)) (ci := 2) (v := .ref q) (C := RX2) (T := TX2) (N := 6) hx hb hts inX2 hown hK hP 0 rfl rfl 4 (by decide) (hts _ mw_163) (fun _ h9 => h9) rfl dX2_addPiece_112 ?_
      refine lv_iload_n hx hb dX2_addPiece_115 rfl (lv_at hl 8 rfl) ?_
      refine lv_iload hx hb dX2_addPiece_116 (lv_at hl 2 rfl) ?_
      refine lv_iadd hx hb dX2_addPiece_118 ?_
      refine lv_topi (fun y_ e_ => ?_)
      obtain rfl : y_ = (nI (sa + k)) := e_.trans (nI_add (sa) (k))
      refine lv_aload_n hx hb dX2_addPiece_119 rfl (lv_at hl 7 rfl) ?_
      refine va_get (D := (dC, dI)) (ci := 2) (v := .ref q) (C := RX2) (T := TX2) (N := 6) hx hb hts inX2 hown hK hP 0 rfl rfl 4 (by decide) (hts _ mw_163) (fun _ h9 => h9) rfl dX2_addPiece_120 ?_
      refine lv_iload_n hx hb dX2_addPiece_123 rfl (lv_at hl 6 rfl) ?_
      refine lv_iload hx hb dX2_addPiece_124 (lv_at hl 2 rfl) ?_
      refine lv_iadd hx hb dX2_addPiece_126 ?_
      refine lv_topi (fun y_ e_ => ?_)
      obtain rfl : y_ = (nI (sa + wn + k)) := e_.trans (nI_add (sa + wn) (k))
      refine va_lald hx hb hK hP 1 3 rfl rfl (vp_in_nI (show sa + wn + k < 5453 by omega) (by first | decide | omega)) dX2_addPiece_127 ?_
      refine lv_topl (fun y_ e_ => ?_)
      obtain rfl : y_ = (S1 (sa + wn + k)) := e_.trans (congrArg S1 (show ((nI (sa + wn + k)) : Int32).toNatClampNeg = sa + wn + k from nI_clamp (by omega)))
      refine lv_lload hx hb dX2_addPiece_128 (lv_at hl 0 rfl) ?_
      refine lv_lor hx hb dX2_addPiece_130 ?_
      refine va_last hx hb hK hP hD hS 1 3 rfl rfl (vp_in_nI (show sa + k < 5453 by omega) (by first | decide | omega)) dX2_addPiece_131 (fun H locs hP hD hS => ?_)
      rw [(show ((nI (sa + k)) : Int32).toNatClampNeg = sa + k from nI_clamp (by omega))] at hP hD
      obtain ⟨hP, hD⟩ := va_bo [(h, .inr (2, [.ref s0, .ref s1, .ref s2, .int (nI cm), .ref q, .int (nI wn)])), (q, .inl (ca 3, 5453, .inr (.inl (vp_updL S1 (sa + k) ((S1 (sa + wn + k)) ||| lg)))))] hP hD
      refine lv_iinc (v := (nI (k + 1))) (lv' := [(7, .int (nI (k + 1))), (9, .long lg), (8, .int (nI ((sa + wn + k) - (pw / 64)))), (6, .int (nI (min (pw / 64) wn))), (5, .int (nI (pw % 64))), (4, .int (nI (pw / 64))), (3, .int (nI (sa + wn))), (0, .ref h), (1, .int (nI sa)), (2, .int (nI pw))]) hx hb dX2_addPiece_132 hl (k := 2) rfl (nI_add (k) 1) (by decide) rfl (fun ls hl => ?_)
      refine lv_goto (tgt := 49) hx hb dX2_addPiece_135 (by decide) ?_
      exact ih (k + 1, (vp_updL S1 (sa + k) ((S1 (sa + wn + k)) ||| lg))) _ _ _ (by omega) ⟨(by omega), hP, hD, hS, lv_sub hl [0, 3, 4, 5, 6, 7, 8, 9] rfl⟩
    · refine lv_if_le (tgt := 111) hx hb dX2_addPiece_81 (by decide) (fun c_3 => ?_) (fun c_3 => ?_)
      · have nc_3 : pw % 64 ≤ 0 := (nI_leI (a := pw % 64) (b := 0) (by omega) (by omega)).mp c_3
        exact J2 (((S1 ((sa + wn + k) - (pw / 64))) : Int64) <<< (((nI (pw % 64)) : Int32).toInt64 &&& 63)) _ _ _ ⟨trivial, hP, hD, hS, lv_sub hl [0, 1, 2, 3, 4, 5, 6, 7, 8, 9] rfl⟩
      · have nc_3 : ¬ (pw % 64 ≤ 0) := fun h9 => c_3 ((nI_leI (a := pw % 64) (b := 0) (by omega) (by omega)).mpr h9)
        refine lv_iload hx hb dX2_addPiece_84 (lv_at hl 2 rfl) ?_
        refine lv_iload hx hb dX2_addPiece_86 (lv_at hl 5 rfl) ?_
        refine lv_icmp_le (tgt := 111) hx hb dX2_addPiece_88 (by decide) (fun c_4 => ?_) (fun c_4 => ?_)
        · have nc_4 : k ≤ pw / 64 := (nI_leI (a := k) (b := pw / 64) (by omega) (by omega)).mp c_4
          exact J2 (((S1 ((sa + wn + k) - (pw / 64))) : Int64) <<< (((nI (pw % 64)) : Int32).toInt64 &&& 63)) _ _ _ ⟨trivial, hP, hD, hS, lv_sub hl [0, 1, 2, 3, 4, 5, 6, 7, 8, 9] rfl⟩
        · have nc_4 : ¬ (k ≤ pw / 64) := fun h9 => c_4 ((nI_leI (a := k) (b := pw / 64) (by omega) (by omega)).mpr h9)
          refine lv_lload hx hb dX2_addPiece_91 (lv_at hl 0 rfl) ?_
          refine lv_aload_n hx hb dX2_addPiece_93 rfl (lv_at hl 7 rfl) ?_
          refine va_get (D := (dC, dI)) (ci := 2) (v := .ref q) (C := RX2) (T := TX2) (N := 6) hx hb hts inX2 hown hK hP 0 rfl rfl 4 (by decide) (hts _ mw_163) (fun _ h9 => h9) rfl dX2_addPiece_94 ?_
          refine lv_iload hx hb dX2_addPiece_97 (lv_at hl 1 rfl) ?_
          refine lv_iconst (v := 1) hx hb dX2_addPiece_99 (by decide) ?_
          refine lv_isub hx hb dX2_addPiece_100 ?_
          refine lv_topi (fun y_ e_ => ?_)
          obtain rfl : y_ = (nI (((sa + wn + k) - (pw / 64)) - 1)) := e_.trans (pk_sub (show 1 ≤ (sa + wn + k) - (pw / 64) by omega))
          refine va_lald hx hb hK hP 1 3 rfl rfl (vp_in_nI (show ((sa + wn + k) - (pw / 64)) - 1 < 5453 by omega) (by first | decide | omega)) dX2_addPiece_101 ?_
          refine lv_topl (fun y_ e_ => ?_)
          obtain rfl : y_ = (S1 (((sa + wn + k) - (pw / 64)) - 1)) := e_.trans (congrArg S1 (show ((nI (((sa + wn + k) - (pw / 64)) - 1)) : Int32).toNatClampNeg = ((sa + wn + k) - (pw / 64)) - 1 from nI_clamp (by omega)))
          refine lv_bipush (v := 64) hx hb dX2_addPiece_102 (by decide) ?_
          refine lv_iload hx hb dX2_addPiece_104 (lv_at hl 4 rfl) ?_
          refine lv_isub hx hb dX2_addPiece_106 ?_
          refine lv_topi (fun y_ e_ => ?_)
          obtain rfl : y_ = (nI (64 - (pw % 64))) := e_.trans (pk_sub (show pw % 64 ≤ 64 by omega))
          refine lv_lushr (v := (((S1 (((sa + wn + k) - (pw / 64)) - 1)) : Int64).toUInt64 >>> (((nI (64 - (pw % 64))) : Int32).toInt64.toUInt64 &&& Int64.toUInt64 63)).toInt64) hx hb dX2_addPiece_107 rfl ?_
          refine lv_lor hx hb dX2_addPiece_108 ?_
          refine lv_lstore (lv' := [(9, .long ((((S1 ((sa + wn + k) - (pw / 64))) : Int64) <<< (((nI (pw % 64)) : Int32).toInt64 &&& 63)) ||| (((S1 (((sa + wn + k) - (pw / 64)) - 1)) : Int64).toUInt64 >>> (((nI (64 - (pw % 64))) : Int32).toInt64.toUInt64 &&& Int64.toUInt64 63)).toInt64)), (8, .int (nI ((sa + wn + k) - (pw / 64)))), (7, .int (nI k)), (6, .int (nI (min (pw / 64) wn))), (5, .int (nI (pw % 64))), (4, .int (nI (pw / 64))), (3, .int (nI (sa + wn))), (0, .ref h), (1, .int (nI sa)), (2, .int (nI pw))]) hx hb dX2_addPiece_109 hl (by decide) rfl (fun ls hl => ?_)
          exact J2 ((((S1 ((sa + wn + k) - (pw / 64))) : Int64) <<< (((nI (pw % 64)) : Int32).toInt64 &&& 63)) ||| (((S1 (((sa + wn + k) - (pw / 64)) - 1)) : Int64).toUInt64 >>> (((nI (64 - (pw % 64))) : Int32).toInt64.toUInt64 &&& Int64.toUInt64 63)).toInt64) _ _ _ ⟨trivial, hP, hD, hS, lv_sub hl [0, 1, 2, 3, 4, 5, 6, 7, 8, 9] rfl⟩

set_option maxHeartbeats 4000000 in
set_option maxRecDepth 100000 in
theorem h_markFirst (l : Launch) (dC : Nat → ClassId) (dI : Nat → Nat → Nat) (ca : Nat → ClassId) (sz : Nat) (h : Nat) (q : Nat) (SM : Nat → Int64) (s0 : Nat) (s1 : Nat) (s2 : Nat) (cm : Nat) (wn : Nat) (wg : Nat → Int32) (cz : Nat → Int32) (su : Nat) (hw : cm ≤ 40 ∧ ∀ i, i < cm → cnt (wg i) 3000) (hwn : wn ≤ 133) (hsu : su < 64 * wn) : Met l yX2_markFirst (Cond.code yX2_markFirst cX2_markFirst 4 none :: gT) ({ frames := 2, cells := 0, slots := 0, locals := 82 }) (va_Pc [.ref h, .int (nI su)] (pr (dC, dI) sz [(h, .inr (2, [.ref s0, .ref s1, .ref s2, .int (nI cm), .ref q, .int (nI wn)])), (s1, .inl (ca 0, 40, .inl wg)), (s2, .inl (ca 1, 40, .inl cz)), (q, .inl (ca 3, 5453, .inr (.inl SM)))] (aT ca))) (va_Qv (fun (u_ : (Nat → Int32)) => True) (fun (u_ : (Nat → Int32)) t => va_P (dC, dI) vwCl [(h, .inr (2, [.ref s0, .ref s1, .ref s2, .int (nI cm), .ref q, .int (nI wn)])), (s1, .inl (ca 0, 40, .inl wg)), (s2, .inl (ca 1, 40, .inl u_)), (q, .inl (ca 3, 5453, .inr (.inl SM)))] t.heap ∧ va_D (va_A [(h, .inr (2, [.ref s0, .ref s1, .ref s2, .int (nI cm), .ref q, .int (nI wn)])), (s1, .inl (ca 0, 40, .inl wg)), (s2, .inl (ca 1, 40, .inl cz)), (q, .inl (ca 3, 5453, .inr (.inl SM)))] sz) [(h, .inr (2, [.ref s0, .ref s1, .ref s2, .int (nI cm), .ref q, .int (nI wn)])), (s1, .inl (ca 0, 40, .inl wg)), (s2, .inl (ca 1, 40, .inl u_)), (q, .inl (ca 3, 5453, .inr (.inl SM)))]) (va_A [(h, .inr (2, [.ref s0, .ref s1, .ref s2, .int (nI cm), .ref q, .int (nI wn)])), (s1, .inl (ca 0, 40, .inl wg)), (s2, .inl (ca 1, 40, .inl cz)), (q, .inl (ca 3, 5453, .inr (.inl SM)))] sz)) 0 0 (va_A [(h, .inr (2, [.ref s0, .ref s1, .ref s2, .int (nI cm), .ref q, .int (nI wn)])), (s1, .inl (ca 0, 40, .inl wg)), (s2, .inl (ca 1, 40, .inl cz)), (q, .inl (ca 3, 5453, .inr (.inl SM)))] sz) := by
  refine Met.ofW (cc := cX2_markFirst) (maxL := 4) (ret := none) (by decide) rfl ?_
  intro p e s m args below meth c s₁ B hml hv
  obtain ⟨rfl, hsz, hP, hK, hD0, hE⟩ := hv
  have hx := B.exec
  have hb := B.bytes
  have hr := B.returns
  have hts : ∀ w ∈ gT, w.before _ s = true := fun w h => atoms_spec (ws := Cond.code yX2_markFirst cX2_markFirst 4 none :: gT) B.pre w (List.mem_cons_of_mem _ h)
  have hown : s.vm.findClass RX2 = some m.cls := findClass_of_methodNamed B.named
  have hlocks := B.notSynchronized
  subst hsz
  have hD := hD0.self (sz := s.heap.size)
  generalize hAe : va_A [(h, .inr (2, [.ref s0, .ref s1, .ref s2, .int (nI cm), .ref q, .int (nI wn)])), (s1, .inl (ca 0, 40, .inl wg)), (s2, .inl (ca 1, 40, .inl cz)), (q, .inl (ca 3, 5453, .inr (.inl SM)))] s.heap.size = A at hD ⊢
  have hA : ∀ q : Nat, s.heap.size ≤ q → A q := fun q h => by rw [← hAe]; exact Or.inr h
  have hS : va_S A s.heap s.heap [] := va_S.rf
  have hl := lv_entry ([.ref h, .int (nI su)]) (n := 4) (Nat.le_of_ble_eq_true rfl)
  rw [lg_entry_eq]
  generalize (lg_sl ([.ref h, .int (nI su)]) ++ List.replicate (4 - (lg_sl ([.ref h, .int (nI su)])).length) Slot.unset).toArray = ls at hl ⊢
  have hl : lv_has ls 4 [(0, .ref h), (1, .int (nI su))] := hl
  have hcm := hw.1
  refine lv_iload_n hx hb dX2_markFirst_0 rfl (lv_at hl 1 rfl) ?_
  refine lv_istore_n (lv' := [(2, .int (nI su)), (0, .ref h), (1, .int (nI su))]) hx hb dX2_markFirst_1 rfl hl (by decide) rfl (fun ls hl => ?_)
  refine lv_iconst (v := 0) hx hb dX2_markFirst_2 (by decide) ?_
  refine lv_istore_n (lv' := [(3, .int 0), (2, .int (nI su)), (0, .ref h), (1, .int (nI su))]) hx hb dX2_markFirst_3 rfl hl (by decide) rfl (fun ls hl => ?_)
  refine wl_loop (fun (z_ : Nat × Nat × (Nat → Int32)) H locs ls => (z_.1 ≤ cm ∧ z_.2.1 ≤ su) ∧ va_P (dC, dI) vwCl [(h, .inr (2, [.ref s0, .ref s1, .ref s2, .int (nI cm), .ref q, .int (nI wn)])), (s1, .inl (ca 0, 40, .inl wg)), (s2, .inl (ca 1, 40, .inl z_.2.2)), (q, .inl (ca 3, 5453, .inr (.inl SM)))] H ∧ va_D A [(h, .inr (2, [.ref s0, .ref s1, .ref s2, .int (nI cm), .ref q, .int (nI wn)])), (s1, .inl (ca 0, 40, .inl wg)), (s2, .inl (ca 1, 40, .inl z_.2.2)), (q, .inl (ca 3, 5453, .inr (.inl SM)))] ∧ va_S A s.heap H locs ∧ lv_has ls 4 [(3, .int (nI z_.1)), (2, .int (nI z_.2.1)), (0, .ref h), (1, .int (nI su))]) (fun (z_ : Nat × Nat × (Nat → Int32)) => cm - z_.1) (fun z_ H locs ls hI ih => ?_) (0, su, cz) ⟨⟨Nat.zero_le _, Nat.le_refl _⟩, hP, hD, hS, lv_sub hl [0, 1, 2, 3] rfl⟩
  obtain ⟨i, rs_, z1⟩ := z_
  dsimp only at hI ih
  obtain ⟨⟨hi, hrs⟩, hP, hD, hS, hl⟩ := hI
  refine lv_iload_n hx hb dX2_markFirst_4 rfl (lv_at hl 0 rfl) ?_
  refine lv_aload_n hx hb dX2_markFirst_5 rfl (lv_at hl 2 rfl) ?_
  refine va_get (D := (dC, dI)) (ci := 2) (v := .int (nI cm)) (C := RX2) (T := TX2) (N := 6) hx hb hts inX2 hown hK hP 0 rfl rfl 3 (by decide) (hts _ mw_160) (fun _ h9 => h9) rfl dX2_markFirst_6 ?_
  refine lv_icmp_ge (tgt := 57) hx hb dX2_markFirst_9 (by decide) (fun c_1 => ?_) (fun c_1 => ?_)
  · have nc_1 : cm ≤ i := (nI_leI (a := cm) (b := i) (by omega) (by omega)).mp c_1
    refine W.widen (k := 0) (n := 0) (Nat.le_of_ble_eq_true rfl) (Nat.le_of_ble_eq_true rfl) ?_
    have hP9 : va_P (dC, dI) vwCl [(h, .inr (2, [.ref s0, .ref s1, .ref s2, .int (nI cm), .ref q, .int (nI wn)])), (s1, .inl (ca 0, 40, .inl wg)), (s2, .inl (ca 1, 40, .inl z1)), (q, .inl (ca 3, 5453, .inr (.inl SM)))] H := va_P.sub hP [0, 1, 2, 3] rfl
    have hD9 : va_D A [(h, .inr (2, [.ref s0, .ref s1, .ref s2, .int (nI cm), .ref q, .int (nI wn)])), (s1, .inl (ca 0, 40, .inl wg)), (s2, .inl (ca 1, 40, .inl z1)), (q, .inl (ca 3, 5453, .inr (.inl SM)))] := va_D.sub hD [0, 1, 2, 3] (by decide) rfl
    exact W.vret hx hb hr (fun t ht hW => ⟨⟨z1, rfl, trivial, by rw [ht]; exact hP9, hD9⟩, hS.F ht⟩) hS.2.2 dX2_markFirst_57
  · have nc_1 : ¬ (cm ≤ i) := fun h9 => c_1 ((nI_leI (a := cm) (b := i) (by omega) (by omega)).mpr h9)
    refine lv_aload_n hx hb dX2_markFirst_12 rfl (lv_at hl 2 rfl) ?_
    refine va_get (D := (dC, dI)) (ci := 2) (v := .ref s2) (C := RX2) (T := TX2) (N := 6) hx hb hts inX2 hown hK hP 0 rfl rfl 2 (by decide) (hts _ mw_158) (fun _ h9 => h9) rfl dX2_markFirst_13 ?_
    refine lv_iload_n hx hb dX2_markFirst_16 rfl (lv_at hl 0 rfl) ?_
    refine lv_aload_n hx hb dX2_markFirst_17 rfl (lv_at hl 2 rfl) ?_
    refine lv_iload_n hx hb dX2_markFirst_18 rfl (lv_at hl 0 rfl) ?_
    refine lv_iconst (v := 1) hx hb dX2_markFirst_19 (by decide) ?_
    refine lv_iadd hx hb dX2_markFirst_20 ?_
    refine lv_topi (fun y_ e_ => ?_)
    obtain rfl : y_ = (nI (i + 1)) := e_.trans (nI_add (i) (1))
    refine lv_iload_n hx hb dX2_markFirst_21 rfl (lv_at hl 1 rfl) ?_
    refine lv_aload_n hx hb dX2_markFirst_22 rfl (lv_at hl 2 rfl) ?_
    refine va_get (D := (dC, dI)) (ci := 2) (v := .ref s1) (C := RX2) (T := TX2) (N := 6) hx hb hts inX2 hown hK hP 0 rfl rfl 1 (by decide) (hts _ mw_156) (fun _ h9 => h9) rfl dX2_markFirst_23 ?_
    refine lv_iload_n hx hb dX2_markFirst_26 rfl (lv_at hl 0 rfl) ?_
    refine va_iald hx hb hK hP 1 0 rfl rfl (vp_in_nI (show i < 40 by omega) (by first | decide | omega)) dX2_markFirst_27 ?_
    refine lv_topi (fun y_ e_ => ?_)
    obtain rfl : y_ = (wg i) := e_.trans (congrArg wg (show ((nI i) : Int32).toNatClampNeg = i from nI_clamp (by omega)))
    obtain ⟨w9, hw9, ew9⟩ := hw.2 i (by omega)
    refine lv_topi (fun y_ e_ => ?_)
    obtain rfl : y_ = (nI w9) := e_.trans ew9
    refine lv_isub hx hb dX2_markFirst_28 ?_
    have hPc := hP.sub (ws' := [(h, .inr (2, [.ref s0, .ref s1, .ref s2, .int (nI cm), .ref q, .int (nI wn)])), (q, .inl (ca 3, 5453, .inr (.inl SM)))]) [0, 3] rfl
    refine pc_i (va_runV (As := [.int (nI (i + 1)), .int ((nI rs_) - (nI w9))]) (rest := [.int (nI i), .ref s2]) ⟨hx, hb, hml, hown, hts⟩ (h_canWeigh l dC dI ca h q SM s0 s1 s2 cm wn (i + 1) ((nI rs_) - (nI w9)) (by first | assumption | omega | exact ⟨_, by omega, rfl⟩) (by first | assumption | omega | exact ⟨_, by omega, rfl⟩) (sub_cw (by omega) (by omega) (by omega))) (⟨callB_of 2 hts (gd mw_677) rfl rfl rfl (hts _ mw_6) (hts _ mw_674) ds_X2_canWeigh ⟨Nat.le_of_ble_eq_true rfl, Nat.le_of_ble_eq_true rfl⟩, (hts _ mw_676), (hts _ mp_16)⟩) (pu_V hPc hK hE (va_recv hK hPc (ci := 2) (q0 := 0) rfl rfl)) rfl rfl hl.1 rfl (lv_room (Nat.le_of_ble_eq_true rfl)) dX2_markFirst_29 ⟨Nat.le_of_ble_eq_true rfl, Nat.le_of_ble_eq_true rfl⟩) (fun rv_2 hw_ => ?_)
    have hw_2 := hw_
    refine va_zast hx hb hK hP hD hS 2 1 rfl rfl (vp_in_nI (show i < 40 by omega) (by first | decide | omega)) dX2_markFirst_32 (fun H locs hP hD hS => ?_)
    rw [(show ((nI i) : Int32).toNatClampNeg = i from nI_clamp (by omega))] at hP hD
    obtain ⟨hP, hD⟩ := va_bo [(h, .inr (2, [.ref s0, .ref s1, .ref s2, .int (nI cm), .ref q, .int (nI wn)])), (s1, .inl (ca 0, 40, .inl wg)), (s2, .inl (ca 1, 40, .inl (upd z1 i (vp_nar .boolean rv_2)))), (q, .inl (ca 3, 5453, .inr (.inl SM)))] hP hD
    refine lv_aload_n hx hb dX2_markFirst_33 rfl (lv_at hl 2 rfl) ?_
    refine va_get (D := (dC, dI)) (ci := 2) (v := .ref s2) (C := RX2) (T := TX2) (N := 6) hx hb hts inX2 hown hK hP 0 rfl rfl 2 (by decide) (hts _ mw_158) (fun _ h9 => h9) rfl dX2_markFirst_34 ?_
    refine lv_iload_n hx hb dX2_markFirst_37 rfl (lv_at hl 0 rfl) ?_
    refine va_zald hx hb hK hP 2 1 rfl rfl (vp_in_nI (show i < 40 by omega) (by first | decide | omega)) dX2_markFirst_38 ?_
    refine lv_topi (fun y_ e_ => ?_)
    obtain rfl : y_ = ((upd z1 i (vp_nar .boolean rv_2)) i) := e_.trans (congrArg (upd z1 i (vp_nar .boolean rv_2)) (show ((nI i) : Int32).toNatClampNeg = i from nI_clamp (by omega)))
    refine lv_topi (fun y_ e_ => ?_)
    obtain rfl : rv_2 = y_ := (e_.trans (by rw [pk_us]; exact zb_nar hw_2.1)).symm
    refine lv_if_eq (tgt := 51) hx hb dX2_markFirst_39 (by decide) (fun c_3 => ?_) (fun c_3 => ?_)
    · refine lv_iinc (v := (nI (i + 1))) (lv' := [(3, .int (nI (i + 1))), (2, .int (nI rs_)), (0, .ref h), (1, .int (nI su))]) hx hb dX2_markFirst_51 hl (k := 0) rfl (nI_add (i) 1) (by decide) rfl (fun ls hl => ?_)
      refine lv_goto (tgt := 4) hx hb dX2_markFirst_54 (by decide) ?_
      exact ih (i + 1, rs_, (upd z1 i (vp_nar .boolean rv_2))) _ _ _ (by omega) ⟨(by first | omega | (dsimp only; omega)), hP, hD, hS, lv_sub hl [0, 1, 2, 3] rfl⟩
    · have hle := sub_nn (by omega) (hw_2.2 c_3)
      refine lv_iload_n hx hb dX2_markFirst_42 rfl (lv_at hl 1 rfl) ?_
      refine lv_aload_n hx hb dX2_markFirst_43 rfl (lv_at hl 2 rfl) ?_
      refine va_get (D := (dC, dI)) (ci := 2) (v := .ref s1) (C := RX2) (T := TX2) (N := 6) hx hb hts inX2 hown hK hP 0 rfl rfl 1 (by decide) (hts _ mw_156) (fun _ h9 => h9) rfl dX2_markFirst_44 ?_
      refine lv_iload_n hx hb dX2_markFirst_47 rfl (lv_at hl 0 rfl) ?_
      refine va_iald hx hb hK hP 1 0 rfl rfl (vp_in_nI (show i < 40 by omega) (by first | decide | omega)) dX2_markFirst_48 ?_
      refine lv_topi (fun y_ e_ => ?_)
      obtain rfl : y_ = (wg i) := e_.trans (congrArg wg (show ((nI i) : Int32).toNatClampNeg = i from nI_clamp (by omega)))
      refine lv_topi (fun y_ e_ => ?_)
      obtain rfl : y_ = (nI w9) := e_.trans ew9
      refine lv_isub hx hb dX2_markFirst_49 ?_
      refine lv_topi (fun y_ e_ => ?_)
      obtain rfl : y_ = (nI (rs_ - w9)) := e_.trans (pk_sub (show w9 ≤ rs_ by omega))
      refine lv_istore_n (lv' := [(2, .int (nI (rs_ - w9))), (3, .int (nI i)), (0, .ref h), (1, .int (nI su))]) hx hb dX2_markFirst_50 rfl hl (by decide) rfl (fun ls hl => ?_)
      refine lv_iinc (v := (nI (i + 1))) (lv' := [(3, .int (nI (i + 1))), (2, .int (nI (rs_ - w9))), (0, .ref h), (1, .int (nI su))]) hx hb dX2_markFirst_51 hl (k := 1) rfl (nI_add (i) 1) (by decide) rfl (fun ls hl => ?_)
      refine lv_goto (tgt := 4) hx hb dX2_markFirst_54 (by decide) ?_
      exact ih (i + 1, rs_ - w9, (upd z1 i (vp_nar .boolean rv_2))) _ _ _ (by omega) ⟨(by first | omega | (dsimp only; omega)), hP, hD, hS, lv_sub hl [0, 1, 2, 3] rfl⟩

set_option maxHeartbeats 4000000 in
set_option maxRecDepth 100000 in
theorem h_sumUp (l : Launch) (dC : Nat → ClassId) (dI : Nat → Nat → Nat) (ca : Nat → ClassId) (sz : Nat) (h : Nat) (sm : Option Nat) (SM : Nat → Int64) (s0 : Nat) (s1 : Nat) (s2 : Nat) (cm : Nat) (wd : Int32) (wg : Nat → Int32) (li : Nat) (tl : va_W) (hw : cm ≤ 40 ∧ ∀ i, i < cm → cnt (wg i) 3000) (hli : li ≤ 8511) : Met l yX2_sumUp (Cond.code yX2_sumUp cX2_sumUp 4 none :: gT) ({ frames := 3, cells := (oM sm), slots := (5453 * oM sm), locals := 90 }) (va_Pc [.ref h, .int (nI li)] (pr (dC, dI) sz (@HAppend.hAppend va_W va_W va_W _ [(h, .inr (2, [.ref s0, .ref s1, .ref s2, .int (nI cm), va_rf sm, .int wd])), (s1, .inl (ca 0, 40, .inl wg))] (@HAppend.hAppend va_W va_W va_W _ (oS ca sm SM) tl)) (aT ca))) (va_Qv (fun (u_ : Nat × (Nat → Int64)) => True) (fun (u_ : Nat × (Nat → Int64)) t => va_P (dC, dI) vwCl (@HAppend.hAppend va_W va_W va_W _ [(h, .inr (2, [.ref s0, .ref s1, .ref s2, .int (nI cm), .ref u_.1, .int (nI (li / 64 + 1))])), (s1, .inl (ca 0, 40, .inl wg)), (u_.1, .inl (ca 3, 5453, .inr (.inl u_.2)))] tl) t.heap ∧ va_D (va_A (@HAppend.hAppend va_W va_W va_W _ [(h, .inr (2, [.ref s0, .ref s1, .ref s2, .int (nI cm), va_rf sm, .int wd])), (s1, .inl (ca 0, 40, .inl wg))] (@HAppend.hAppend va_W va_W va_W _ (oS ca sm SM) tl)) sz) (@HAppend.hAppend va_W va_W va_W _ [(h, .inr (2, [.ref s0, .ref s1, .ref s2, .int (nI cm), .ref u_.1, .int (nI (li / 64 + 1))])), (s1, .inl (ca 0, 40, .inl wg)), (u_.1, .inl (ca 3, 5453, .inr (.inl u_.2)))] tl)) (va_A (@HAppend.hAppend va_W va_W va_W _ [(h, .inr (2, [.ref s0, .ref s1, .ref s2, .int (nI cm), va_rf sm, .int wd])), (s1, .inl (ca 0, 40, .inl wg))] (@HAppend.hAppend va_W va_W va_W _ (oS ca sm SM) tl)) sz)) (oM sm) (5453 * oM sm) (va_A (@HAppend.hAppend va_W va_W va_W _ [(h, .inr (2, [.ref s0, .ref s1, .ref s2, .int (nI cm), va_rf sm, .int wd])), (s1, .inl (ca 0, 40, .inl wg))] (@HAppend.hAppend va_W va_W va_W _ (oS ca sm SM) tl)) sz) := by
  refine Met.ofW (cc := cX2_sumUp) (maxL := 4) (ret := none) (by decide) rfl ?_
  intro p e s m args below meth c s₁ B hml hv
  obtain ⟨rfl, hsz, hP, hK, hD0, hE⟩ := hv
  have hx := B.exec
  have hb := B.bytes
  have hr := B.returns
  have hts : ∀ w ∈ gT, w.before _ s = true := fun w h => atoms_spec (ws := Cond.code yX2_sumUp cX2_sumUp 4 none :: gT) B.pre w (List.mem_cons_of_mem _ h)
  have hown : s.vm.findClass RX2 = some m.cls := findClass_of_methodNamed B.named
  have hlocks := B.notSynchronized
  subst hsz
  have hD := hD0.self (sz := s.heap.size)
  generalize hAe : va_A ([(h, .inr (2, [.ref s0, .ref s1, .ref s2, .int (nI cm), va_rf sm, .int wd])), (s1, .inl (ca 0, 40, .inl wg))] ++ (oS ca sm SM ++ tl)) s.heap.size = A at hD ⊢
  have hA : ∀ q : Nat, s.heap.size ≤ q → A q := fun q h => by rw [← hAe]; exact Or.inr h
  have hS : va_S A s.heap s.heap [] := va_S.rf
  have hl := lv_entry ([.ref h, .int (nI li)]) (n := 4) (Nat.le_of_ble_eq_true rfl)
  rw [lg_entry_eq]
  generalize (lg_sl ([.ref h, .int (nI li)]) ++ List.replicate (4 - (lg_sl ([.ref h, .int (nI li)])).length) Slot.unset).toArray = ls at hl ⊢
  have hl : lv_has ls 4 [(0, .ref h), (1, .int (nI li))] := hl
  have hcm := hw.1
  refine lv_aload_n hx hb dX2_sumUp_0 rfl (lv_at hl 0 rfl) ?_
  refine va_get (D := (dC, dI)) (ci := 2) (v := va_rf sm) (C := RX2) (T := TX2) (N := 6) hx hb hts inX2 hown hK hP 0 rfl rfl 4 (by decide) (hts _ mw_163) (fun _ h9 => h9) rfl dX2_sumUp_1 ?_
  cases sm with
  | none =>
    have hl : lv_has ls 4 [(0, .ref h), (1, .int (nI li))] := hl
    refine W.eq (g2 := F0 m 4 ls [.null]) rfl ?_
    refine lv_ifnonnullN hx hb dX2_sumUp_4 ?_
    obtain ⟨hP, hD⟩ := va_bo ([(h, .inr (2, [.ref s0, .ref s1, .ref s2, .int (nI cm), .null, .int wd])), (s1, .inl (ca 0, 40, .inl wg))] ++ tl) hP hD
    refine lv_aload_n hx hb dX2_sumUp_7 rfl (lv_at hl 0 rfl) ?_
    refine lv_sipush (v := 5453) hx hb dX2_sumUp_8 (by decide) ?_
    refine va_newa (atype := .long) (ty := .long) (a0 := (5453, .inr (.inl (fun _ => 0)))) hx hb (hts _ mw_713) rfl hK hP hD hS hA (fun _ => rfl) (by decide) (by decide +kernel) (by decide) (by first | decide | omega | (simp [oM]; done) | (simp [oM]; omega)) (by first | decide | omega | (simp [oM]; done) | (simp [oM]; omega)) dX2_sumUp_11 (fun q2 y2 H hK9 hP hD hS => ?_)
    obtain rfl : y2 = ca 3 := ca_eq hK9 (tys := aT ca) 3 rfl
    have hP := va_P.swap (a := [(h, .inr (2, [.ref s0, .ref s1, .ref s2, .int (nI cm), .null, .int wd])), (s1, .inl (ca 0, 40, .inl wg))]) hP
    have hD := va_D.swap (a := [(h, .inr (2, [.ref s0, .ref s1, .ref s2, .int (nI cm), .null, .int wd])), (s1, .inl (ca 0, 40, .inl wg))]) hD
    obtain ⟨hP, hD⟩ := va_bo ([(h, .inr (2, [.ref s0, .ref s1, .ref s2, .int (nI cm), .null, .int wd])), (s1, .inl (ca 0, 40, .inl wg)), (q2, .inl (ca 3, 5453, .inr (.inl (fun _ => 0))))] ++ tl) hP hD
    refine va_put (D := (dC, dI)) (ci := 2) (v := .ref q2) (ty := .array .long) (C := RX2) (T := TX2) (N := 6) hx hb hts inX2 tyX2 tyX2_ok nmX2 hown hK hP hD hS 0 rfl rfl 4 (by decide) (hts _ mw_163) (fun _ h9 => h9) rfl (by decide +kernel) rfl rfl (Nat.le_of_ble_eq_true rfl) dX2_sumUp_13 (fun H locs hP hD hS => ?_)
    obtain ⟨hP, hD⟩ := va_bo ([(h, .inr (2, [.ref s0, .ref s1, .ref s2, .int (nI cm), .ref q2, .int wd])), (s1, .inl (ca 0, 40, .inl wg)), (q2, .inl (ca 3, 5453, .inr (.inl (fun _ => 0))))] ++ tl) hP hD
    refine lv_aload_n hx hb dX2_sumUp_16 rfl (lv_at hl 0 rfl) ?_
    refine lv_iload_n hx hb dX2_sumUp_17 rfl (lv_at hl 1 rfl) ?_
    refine lv_bipush (v := 64) hx hb dX2_sumUp_18 (by decide) ?_
    refine lv_idiv hx hb dX2_sumUp_20 (by decide) ?_
    refine lv_topi (fun y_ e_ => ?_)
    obtain rfl : y_ = (nI (li / 64)) := e_.trans (pk_div (by omega) (by decide) (by decide))
    refine lv_iconst (v := 1) hx hb dX2_sumUp_21 (by decide) ?_
    refine lv_iadd hx hb dX2_sumUp_22 ?_
    refine lv_topi (fun y_ e_ => ?_)
    obtain rfl : y_ = (nI (li / 64 + 1)) := e_.trans (nI_add (li / 64) (1))
    obtain ⟨wn, hwn⟩ : ∃ z, z = li / 64 + 1 := ⟨_, rfl⟩
    refine lv_topi (fun y_ e_ => ?_)
    obtain rfl : y_ = (nI wn) := e_.trans (by rw [hwn])
    have hwn3 : wn ≤ 133 := by omega
    have hcw := ml1 (i := cm) (wn := wn) (by omega) hwn3
    refine va_put (D := (dC, dI)) (ci := 2) (v := .int (nI wn)) (ty := .int) (C := RX2) (T := TX2) (N := 6) hx hb hts inX2 tyX2 tyX2_ok nmX2 hown hK hP hD hS 0 rfl rfl 5 (by decide) (hts _ mw_164) (fun _ h9 => h9) rfl (by decide +kernel) rfl rfl (Nat.le_of_ble_eq_true rfl) dX2_sumUp_23 (fun H locs hP hD hS => ?_)
    obtain ⟨hP, hD⟩ := va_bo ([(h, .inr (2, [.ref s0, .ref s1, .ref s2, .int (nI cm), .ref q2, .int (nI wn)])), (s1, .inl (ca 0, 40, .inl wg)), (q2, .inl (ca 3, 5453, .inr (.inl (fun _ => 0))))] ++ tl) hP hD
    refine lv_aload_n hx hb dX2_sumUp_26 rfl (lv_at hl 0 rfl) ?_
    refine va_get (D := (dC, dI)) (ci := 2) (v := .int (nI cm)) (C := RX2) (T := TX2) (N := 6) hx hb hts inX2 hown hK hP 0 rfl rfl 3 (by decide) (hts _ mw_160) (fun _ h9 => h9) rfl dX2_sumUp_27 ?_
    refine lv_aload_n hx hb dX2_sumUp_30 rfl (lv_at hl 0 rfl) ?_
    refine va_get (D := (dC, dI)) (ci := 2) (v := .int (nI wn)) (C := RX2) (T := TX2) (N := 6) hx hb hts inX2 hown hK hP 0 rfl rfl 5 (by decide) (hts _ mw_164) (fun _ h9 => h9) rfl dX2_sumUp_31 ?_
    refine lv_imul hx hb dX2_sumUp_34 ?_
    refine lv_topi (fun y_ e_ => ?_)
    obtain rfl : y_ = (nI (cm * wn)) := e_.trans (pk_mul (cm) (wn))
    refine lv_istore_n (lv' := [(2, .int (nI (cm * wn))), (0, .ref h), (1, .int (nI li))]) hx hb dX2_sumUp_35 rfl hl (by decide) rfl (fun ls hl => ?_)
    refine lv_iconst (v := 1) hx hb dX2_sumUp_36 (by decide) ?_
    refine lv_istore_n (lv' := [(3, .int 1), (2, .int (nI (cm * wn))), (0, .ref h), (1, .int (nI li))]) hx hb dX2_sumUp_37 rfl hl (by decide) rfl (fun ls hl => ?_)
    refine wl_loop (fun (z_ : Nat × (Nat → Int64)) H locs ls => (1 ≤ z_.1 ∧ z_.1 ≤ wn) ∧ va_P (dC, dI) vwCl (@HAppend.hAppend va_W va_W va_W _ [(h, .inr (2, [.ref s0, .ref s1, .ref s2, .int (nI cm), .ref q2, .int (nI wn)])), (s1, .inl (ca 0, 40, .inl wg)), (q2, .inl (ca 3, 5453, .inr (.inl z_.2)))] tl) H ∧ va_D A (@HAppend.hAppend va_W va_W va_W _ [(h, .inr (2, [.ref s0, .ref s1, .ref s2, .int (nI cm), .ref q2, .int (nI wn)])), (s1, .inl (ca 0, 40, .inl wg)), (q2, .inl (ca 3, 5453, .inr (.inl z_.2)))] tl) ∧ va_S A s.heap H locs ∧ lv_has ls 4 [(3, .int (nI z_.1)), (2, .int (nI (cm * wn))), (0, .ref h), (1, .int (nI li))]) (fun (z_ : Nat × (Nat → Int64)) => wn - z_.1) (fun z_ H locs ls hI ih => ?_) (1, (fun _ => 0)) ⟨⟨Nat.le_refl _, by omega⟩, hP, hD, hS, lv_sub hl [0, 1, 2, 3] rfl⟩
    obtain ⟨k, S1⟩ := z_
    dsimp only at hI ih
    obtain ⟨⟨hk, hk2⟩, hP, hD, hS, hl⟩ := hI
    refine lv_iload_n hx hb dX2_sumUp_38 rfl (lv_at hl 0 rfl) ?_
    refine lv_aload_n hx hb dX2_sumUp_39 rfl (lv_at hl 2 rfl) ?_
    refine va_get (D := (dC, dI)) (ci := 2) (v := .int (nI wn)) (C := RX2) (T := TX2) (N := 6) hx hb hts inX2 hown hK hP 0 rfl rfl 5 (by decide) (hts _ mw_164) (fun _ h9 => h9) rfl dX2_sumUp_40 ?_
    refine lv_icmp_ge (tgt := 61) hx hb dX2_sumUp_43 (by decide) (fun c_3 => ?_) (fun c_3 => ?_)
    · have nc_3 : wn ≤ k := (nI_leI (a := wn) (b := k) (by omega) (by omega)).mp c_3
      refine lv_aload_n hx hb dX2_sumUp_61 rfl (lv_at hl 2 rfl) ?_
      refine va_get (D := (dC, dI)) (ci := 2) (v := .ref q2) (C := RX2) (T := TX2) (N := 6) hx hb hts inX2 hown hK hP 0 rfl rfl 4 (by decide) (hts _ mw_163) (fun _ h9 => h9) rfl dX2_sumUp_62 ?_
      refine lv_iload_n hx hb dX2_sumUp_65 rfl (lv_at hl 1 rfl) ?_
      refine lv_lconst (v := 1) hx hb dX2_sumUp_66 (by decide) ?_
      refine va_last hx hb hK hP hD hS 2 3 rfl rfl (vp_in_nI (show cm * wn < 5453 by omega) (by first | decide | omega)) dX2_sumUp_67 (fun H locs hP hD hS => ?_)
      rw [(show ((nI (cm * wn)) : Int32).toNatClampNeg = cm * wn from nI_clamp (by omega))] at hP hD
      obtain ⟨hP, hD⟩ := va_bo ([(h, .inr (2, [.ref s0, .ref s1, .ref s2, .int (nI cm), .ref q2, .int (nI wn)])), (s1, .inl (ca 0, 40, .inl wg)), (q2, .inl (ca 3, 5453, .inr (.inl (vp_updL S1 (cm * wn) 1))))] ++ tl) hP hD
      refine lv_aload_n hx hb dX2_sumUp_68 rfl (lv_at hl 2 rfl) ?_
      refine va_get (D := (dC, dI)) (ci := 2) (v := .int (nI cm)) (C := RX2) (T := TX2) (N := 6) hx hb hts inX2 hown hK hP 0 rfl rfl 3 (by decide) (hts _ mw_160) (fun _ h9 => h9) rfl dX2_sumUp_69 ?_
      refine lv_iconst (v := 1) hx hb dX2_sumUp_72 (by decide) ?_
      refine lv_isub hx hb dX2_sumUp_73 ?_
      refine lv_istore_n (lv' := [(3, .int ((nI cm) - 1)), (2, .int (nI (cm * wn))), (0, .ref h), (1, .int (nI li))]) hx hb dX2_sumUp_74 rfl hl (by decide) rfl (fun ls hl => ?_)
      refine wl_loop (fun (z_ : Nat × (Nat → Int64)) H locs ls => (z_.1 ≤ cm) ∧ va_P (dC, dI) vwCl (@HAppend.hAppend va_W va_W va_W _ [(h, .inr (2, [.ref s0, .ref s1, .ref s2, .int (nI cm), .ref q2, .int (nI wn)])), (s1, .inl (ca 0, 40, .inl wg)), (q2, .inl (ca 3, 5453, .inr (.inl z_.2)))] tl) H ∧ va_D A (@HAppend.hAppend va_W va_W va_W _ [(h, .inr (2, [.ref s0, .ref s1, .ref s2, .int (nI cm), .ref q2, .int (nI wn)])), (s1, .inl (ca 0, 40, .inl wg)), (q2, .inl (ca 3, 5453, .inr (.inl z_.2)))] tl) ∧ va_S A s.heap H locs ∧ lv_has ls 4 [(3, .int ((nI z_.1) - 1)), (2, .int (nI (cm * wn))), (0, .ref h), (1, .int (nI li))]) (fun (z_ : Nat × (Nat → Int64)) => z_.1) (fun z_ H locs ls hI ih75 => ?_) (cm, (vp_updL S1 (cm * wn) 1)) ⟨(Nat.le_refl _), hP, hD, hS, lv_sub hl [0, 1, 2, 3] rfl⟩
      obtain ⟨j, S1⟩ := z_
      dsimp only at hI ih75
      obtain ⟨hj, hP, hD, hS, hl⟩ := hI
      refine lv_iload_n hx hb dX2_sumUp_75 rfl (lv_at hl 0 rfl) ?_
      refine lv_if_lt (tgt := 101) hx hb dX2_sumUp_76 (by decide) (fun c_4 => ?_) (fun c_4 => ?_)
      · rw [hwn] at hP hD
        obtain ⟨hP, hD⟩ := va_bo ([(h, .inr (2, [.ref s0, .ref s1, .ref s2, .int (nI cm), .ref q2, .int (nI (li / 64 + 1))])), (s1, .inl (ca 0, 40, .inl wg)), (q2, .inl (ca 3, 5453, .inr (.inl S1)))] ++ tl) hP hD
        refine W.widen (k := (oM none)) (n := (5453 * oM none)) (by first | decide | omega | (simp [oM]; done) | (simp [oM]; omega)) (by first | decide | omega | (simp [oM]; done) | (simp [oM]; omega)) ?_
        have hP9 : va_P (dC, dI) vwCl ([(h, .inr (2, [.ref s0, .ref s1, .ref s2, .int (nI cm), .ref q2, .int (nI (li / 64 + 1))])), (s1, .inl (ca 0, 40, .inl wg)), (q2, .inl (ca 3, 5453, .inr (.inl S1)))] ++ tl) H := va_P.part (X := [(h, .inr (2, [.ref s0, .ref s1, .ref s2, .int (nI cm), .ref q2, .int (nI (li / 64 + 1))])), (s1, .inl (ca 0, 40, .inl wg)), (q2, .inl (ca 3, 5453, .inr (.inl S1)))]) hP [0, 1, 2] rfl
        have hD9 : va_D A ([(h, .inr (2, [.ref s0, .ref s1, .ref s2, .int (nI cm), .ref q2, .int (nI (li / 64 + 1))])), (s1, .inl (ca 0, 40, .inl wg)), (q2, .inl (ca 3, 5453, .inr (.inl S1)))] ++ tl) := va_D.part (X := [(h, .inr (2, [.ref s0, .ref s1, .ref s2, .int (nI cm), .ref q2, .int (nI (li / 64 + 1))])), (s1, .inl (ca 0, 40, .inl wg)), (q2, .inl (ca 3, 5453, .inr (.inl S1)))]) hD [0, 1, 2] (by decide) rfl
        exact W.vret hx hb hr (fun t ht hW => ⟨⟨(q2, S1), rfl, trivial, by rw [ht]; dsimp only; exact hP9, by dsimp only; exact hD9⟩, hS.F ht⟩) hS.2.2 dX2_sumUp_101
      · obtain ⟨i, rfl⟩ := nn_pred c_4 (by omega)
        rw [nI_pred] at hl
        refine lv_aload_n hx hb dX2_sumUp_79 rfl (lv_at hl 2 rfl) ?_
        refine lv_iload_n hx hb dX2_sumUp_80 rfl (lv_at hl 0 rfl) ?_
        refine lv_aload_n hx hb dX2_sumUp_81 rfl (lv_at hl 2 rfl) ?_
        refine va_get (D := (dC, dI)) (ci := 2) (v := .int (nI wn)) (C := RX2) (T := TX2) (N := 6) hx hb hts inX2 hown hK hP 0 rfl rfl 5 (by decide) (hts _ mw_164) (fun _ h9 => h9) rfl dX2_sumUp_82 ?_
        refine lv_imul hx hb dX2_sumUp_85 ?_
        refine lv_topi (fun y_ e_ => ?_)
        obtain rfl : y_ = (nI (i * wn)) := e_.trans (pk_mul (i) (wn))
        refine lv_aload_n hx hb dX2_sumUp_86 rfl (lv_at hl 2 rfl) ?_
        refine va_get (D := (dC, dI)) (ci := 2) (v := .ref s1) (C := RX2) (T := TX2) (N := 6) hx hb hts inX2 hown hK hP 0 rfl rfl 1 (by decide) (hts _ mw_156) (fun _ h9 => h9) rfl dX2_sumUp_87 ?_
        refine lv_iload_n hx hb dX2_sumUp_90 rfl (lv_at hl 0 rfl) ?_
        refine va_iald hx hb hK hP 1 0 rfl rfl (vp_in_nI (show i < 40 by omega) (by first | decide | omega)) dX2_sumUp_91 ?_
        refine lv_topi (fun y_ e_ => ?_)
        obtain rfl : y_ = (wg i) := e_.trans (congrArg wg (show ((nI i) : Int32).toNatClampNeg = i from nI_clamp (by omega)))
        obtain ⟨w9, hw9, ew9⟩ := hw.2 i (by omega)
        refine lv_topi (fun y_ e_ => ?_)
        obtain rfl : y_ = (nI w9) := e_.trans ew9
        have hPc := hP.sub (ws' := [(h, .inr (2, [.ref s0, .ref s1, .ref s2, .int (nI cm), .ref q2, .int (nI wn)])), (q2, .inl (ca 3, 5453, .inr (.inl S1)))]) [0, 2] rfl
        have hDc := hD.sub (ws' := [(h, .inr (2, [.ref s0, .ref s1, .ref s2, .int (nI cm), .ref q2, .int (nI wn)])), (q2, .inl (ca 3, 5453, .inr (.inl S1)))]) [0, 2] (by decide) rfl
        have hFc := va_free (wc := [(h, .inr (2, [.ref s0, .ref s1, .ref s2, .int (nI cm), .ref q2, .int (nI wn)])), (q2, .inl (ca 3, 5453, .inr (.inl S1)))]) hD hS hA [0, 2] rfl
        refine va_callv (va_runV (As := [.int (nI (i * wn)), .int (nI w9)]) (rest := []) ⟨hx, hb, hml, hown, hts⟩ (h_addPiece l dC dI ca H.size h q2 S1 s0 s1 s2 cm wn (i * wn) w9 (by first | assumption | omega | exact ⟨_, by omega, rfl⟩) (ml2 (by omega) hwn3) (by first | assumption | omega | exact ⟨_, by omega, rfl⟩)) (⟨callB_of 2 hts (gd mw_669) rfl rfl rfl (hts _ mw_6) (hts _ mw_666) ds_X2_addPiece ⟨Nat.le_of_ble_eq_true rfl, Nat.le_of_ble_eq_true rfl⟩, (hts _ mw_668), (hts _ mp_15)⟩) (pr_V hPc hK hDc hE (va_recv hK hPc (ci := 2) (q0 := 0) rfl rfl)) rfl rfl hl.1 rfl (lv_room (Nat.le_of_ble_eq_true rfl)) dX2_sumUp_92 ⟨by show (0 + 1) + 0 ≤ (oM none); first | decide | omega | (simp [oM]; done), by show (0 + 5453) + 0 ≤ (5453 * oM none); first | decide | omega | (simp [oM]; done)⟩) hS (fun q _ h => hFc q h) hFc (fun SM2_5 t_ H1 locs ht hvm hw_ hB hz1 hk1 hS => ?_)
        obtain ⟨hP1, hD1⟩ := hB
        rw [ht] at hP1
        obtain ⟨hP, hD⟩ := va_joinQ (X := [(h, .inr (2, [.ref s0, .ref s1, .ref s2, .int (nI cm), .ref q2, .int (nI wn)])), (s1, .inl (ca 0, 40, .inl wg)), (q2, .inl (ca 3, 5453, .inr (.inl S1)))]) (cx := [(h, .inr (2, [.ref s0, .ref s1, .ref s2, .int (nI cm), .ref q2, .int (nI wn)])), (q2, .inl (ca 3, 5453, .inr (.inl S1)))]) (wr := [(s1, .inl (ca 0, 40, .inl wg))]) (w1 := [(h, .inr (2, [.ref s0, .ref s1, .ref s2, .int (nI cm), .ref q2, .int (nI wn)])), (q2, .inl (ca 3, 5453, .inr (.inl SM2_5)))]) hP hD [0, 2] [1] rfl rfl (by decide) (by decide) hk1 hFc hP1 hD1
        generalize H1 = H at hP hS ⊢
        obtain ⟨hP, hD⟩ := va_bo ([(s1, .inl (ca 0, 40, .inl wg)), (h, .inr (2, [.ref s0, .ref s1, .ref s2, .int (nI cm), .ref q2, .int (nI wn)])), (q2, .inl (ca 3, 5453, .inr (.inl SM2_5)))] ++ tl) hP hD
        refine lv_iinc (v := ((nI i) - 1)) (lv' := [(3, .int ((nI i) - 1)), (2, .int (nI (cm * wn))), (0, .ref h), (1, .int (nI li))]) hx hb dX2_sumUp_95 hl (k := 0) rfl (add_m1 _) (by decide) rfl (fun ls hl => ?_)
        refine lv_goto (tgt := 75) hx hb dX2_sumUp_98 (by decide) ?_
        exact ih75 (i, SM2_5) _ _ _ (by omega) ⟨(by omega), (va_P.part (X := [(s1, .inl (ca 0, 40, .inl wg)), (h, .inr (2, [.ref s0, .ref s1, .ref s2, .int (nI cm), .ref q2, .int (nI wn)])), (q2, .inl (ca 3, 5453, .inr (.inl SM2_5)))]) hP [1, 0, 2] rfl), (va_D.part (X := [(s1, .inl (ca 0, 40, .inl wg)), (h, .inr (2, [.ref s0, .ref s1, .ref s2, .int (nI cm), .ref q2, .int (nI wn)])), (q2, .inl (ca 3, 5453, .inr (.inl SM2_5)))]) hD [1, 0, 2] (by decide) rfl), hS, lv_sub hl [0, 1, 2, 3] rfl⟩
    · have nc_3 : ¬ (wn ≤ k) := fun h9 => c_3 ((nI_leI (a := wn) (b := k) (by omega) (by omega)).mpr h9)
      refine lv_aload_n hx hb dX2_sumUp_46 rfl (lv_at hl 2 rfl) ?_
      refine va_get (D := (dC, dI)) (ci := 2) (v := .ref q2) (C := RX2) (T := TX2) (N := 6) hx hb hts inX2 hown hK hP 0 rfl rfl 4 (by decide) (hts _ mw_163) (fun _ h9 => h9) rfl dX2_sumUp_47 ?_
      refine lv_iload_n hx hb dX2_sumUp_50 rfl (lv_at hl 1 rfl) ?_
      refine lv_iload_n hx hb dX2_sumUp_51 rfl (lv_at hl 0 rfl) ?_
      refine lv_iadd hx hb dX2_sumUp_52 ?_
      refine lv_topi (fun y_ e_ => ?_)
      obtain rfl : y_ = (nI (cm * wn + k)) := e_.trans (nI_add (cm * wn) (k))
      refine lv_lconst (v := 0) hx hb dX2_sumUp_53 (by decide) ?_
      refine va_last hx hb hK hP hD hS 2 3 rfl rfl (vp_in_nI (show cm * wn + k < 5453 by omega) (by first | decide | omega)) dX2_sumUp_54 (fun H locs hP hD hS => ?_)
      rw [(show ((nI (cm * wn + k)) : Int32).toNatClampNeg = cm * wn + k from nI_clamp (by omega))] at hP hD
      obtain ⟨hP, hD⟩ := va_bo ([(h, .inr (2, [.ref s0, .ref s1, .ref s2, .int (nI cm), .ref q2, .int (nI wn)])), (s1, .inl (ca 0, 40, .inl wg)), (q2, .inl (ca 3, 5453, .inr (.inl (vp_updL S1 (cm * wn + k) 0))))] ++ tl) hP hD
      refine lv_iinc (v := (nI (k + 1))) (lv' := [(3, .int (nI (k + 1))), (2, .int (nI (cm * wn))), (0, .ref h), (1, .int (nI li))]) hx hb dX2_sumUp_55 hl (k := 0) rfl (nI_add (k) 1) (by decide) rfl (fun ls hl => ?_)
      refine lv_goto (tgt := 38) hx hb dX2_sumUp_58 (by decide) ?_
      exact ih (k + 1, (vp_updL S1 (cm * wn + k) 0)) _ _ _ (by omega) ⟨(by omega), hP, hD, hS, lv_sub hl [0, 1, 2, 3] rfl⟩
  | some b1 =>
    have hl : lv_has ls 4 [(0, .ref h), (1, .int (nI li))] := hl
    refine W.eq (g2 := F0 m 4 ls [.ref b1]) rfl ?_
    refine lv_ifnonnull (tgt := 16) hx hb dX2_sumUp_4 (by decide) ?_
    obtain ⟨hP, hD⟩ := va_bo ([(h, .inr (2, [.ref s0, .ref s1, .ref s2, .int (nI cm), .ref b1, .int wd])), (s1, .inl (ca 0, 40, .inl wg)), (b1, .inl (ca 3, 5453, .inr (.inl SM)))] ++ tl) hP hD
    refine lv_aload_n hx hb dX2_sumUp_16 rfl (lv_at hl 0 rfl) ?_
    refine lv_iload_n hx hb dX2_sumUp_17 rfl (lv_at hl 1 rfl) ?_
    refine lv_bipush (v := 64) hx hb dX2_sumUp_18 (by decide) ?_
    refine lv_idiv hx hb dX2_sumUp_20 (by decide) ?_
    refine lv_topi (fun y_ e_ => ?_)
    obtain rfl : y_ = (nI (li / 64)) := e_.trans (pk_div (by omega) (by decide) (by decide))
    refine lv_iconst (v := 1) hx hb dX2_sumUp_21 (by decide) ?_
    refine lv_iadd hx hb dX2_sumUp_22 ?_
    refine lv_topi (fun y_ e_ => ?_)
    obtain rfl : y_ = (nI (li / 64 + 1)) := e_.trans (nI_add (li / 64) (1))
    obtain ⟨wn, hwn⟩ : ∃ z, z = li / 64 + 1 := ⟨_, rfl⟩
    refine lv_topi (fun y_ e_ => ?_)
    obtain rfl : y_ = (nI wn) := e_.trans (by rw [hwn])
    have hwn3 : wn ≤ 133 := by omega
    have hcw := ml1 (i := cm) (wn := wn) (by omega) hwn3
    refine va_put (D := (dC, dI)) (ci := 2) (v := .int (nI wn)) (ty := .int) (C := RX2) (T := TX2) (N := 6) hx hb hts inX2 tyX2 tyX2_ok nmX2 hown hK hP hD hS 0 rfl rfl 5 (by decide) (hts _ mw_164) (fun _ h9 => h9) rfl (by decide +kernel) rfl rfl (Nat.le_of_ble_eq_true rfl) dX2_sumUp_23 (fun H locs hP hD hS => ?_)
    obtain ⟨hP, hD⟩ := va_bo ([(h, .inr (2, [.ref s0, .ref s1, .ref s2, .int (nI cm), .ref b1, .int (nI wn)])), (s1, .inl (ca 0, 40, .inl wg)), (b1, .inl (ca 3, 5453, .inr (.inl SM)))] ++ tl) hP hD
    refine lv_aload_n hx hb dX2_sumUp_26 rfl (lv_at hl 0 rfl) ?_
    refine va_get (D := (dC, dI)) (ci := 2) (v := .int (nI cm)) (C := RX2) (T := TX2) (N := 6) hx hb hts inX2 hown hK hP 0 rfl rfl 3 (by decide) (hts _ mw_160) (fun _ h9 => h9) rfl dX2_sumUp_27 ?_
    refine lv_aload_n hx hb dX2_sumUp_30 rfl (lv_at hl 0 rfl) ?_
    refine va_get (D := (dC, dI)) (ci := 2) (v := .int (nI wn)) (C := RX2) (T := TX2) (N := 6) hx hb hts inX2 hown hK hP 0 rfl rfl 5 (by decide) (hts _ mw_164) (fun _ h9 => h9) rfl dX2_sumUp_31 ?_
    refine lv_imul hx hb dX2_sumUp_34 ?_
    refine lv_topi (fun y_ e_ => ?_)
    obtain rfl : y_ = (nI (cm * wn)) := e_.trans (pk_mul (cm) (wn))
    refine lv_istore_n (lv' := [(2, .int (nI (cm * wn))), (0, .ref h), (1, .int (nI li))]) hx hb dX2_sumUp_35 rfl hl (by decide) rfl (fun ls hl => ?_)
    refine lv_iconst (v := 1) hx hb dX2_sumUp_36 (by decide) ?_
    refine lv_istore_n (lv' := [(3, .int 1), (2, .int (nI (cm * wn))), (0, .ref h), (1, .int (nI li))]) hx hb dX2_sumUp_37 rfl hl (by decide) rfl (fun ls hl => ?_)
    refine wl_loop (fun (z_ : Nat × (Nat → Int64)) H locs ls => (1 ≤ z_.1 ∧ z_.1 ≤ wn) ∧ va_P (dC, dI) vwCl (@HAppend.hAppend va_W va_W va_W _ [(h, .inr (2, [.ref s0, .ref s1, .ref s2, .int (nI cm), .ref b1, .int (nI wn)])), (s1, .inl (ca 0, 40, .inl wg)), (b1, .inl (ca 3, 5453, .inr (.inl z_.2)))] tl) H ∧ va_D A (@HAppend.hAppend va_W va_W va_W _ [(h, .inr (2, [.ref s0, .ref s1, .ref s2, .int (nI cm), .ref b1, .int (nI wn)])), (s1, .inl (ca 0, 40, .inl wg)), (b1, .inl (ca 3, 5453, .inr (.inl z_.2)))] tl) ∧ va_S A s.heap H locs ∧ lv_has ls 4 [(3, .int (nI z_.1)), (2, .int (nI (cm * wn))), (0, .ref h), (1, .int (nI li))]) (fun (z_ : Nat × (Nat → Int64)) => wn - z_.1) (fun z_ H locs ls hI ih => ?_) (1, SM) ⟨⟨Nat.le_refl _, by omega⟩, hP, hD, hS, lv_sub hl [0, 1, 2, 3] rfl⟩
    obtain ⟨k, S1⟩ := z_
    dsimp only at hI ih
    obtain ⟨⟨hk, hk2⟩, hP, hD, hS, hl⟩ := hI
    refine lv_iload_n hx hb dX2_sumUp_38 rfl (lv_at hl 0 rfl) ?_
    refine lv_aload_n hx hb dX2_sumUp_39 rfl (lv_at hl 2 rfl) ?_
    refine va_get (D := (dC, dI)) (ci := 2) (v := .int (nI wn)) (C := RX2) (T := TX2) (N := 6) hx hb hts inX2 hown hK hP 0 rfl rfl 5 (by decide) (hts _ mw_164) (fun _ h9 => h9) rfl dX2_sumUp_40 ?_
    refine lv_icmp_ge (tgt := 61) hx hb dX2_sumUp_43 (by decide) (fun c_6 => ?_) (fun c_6 => ?_)
    · have nc_6 : wn ≤ k := (nI_leI (a := wn) (b := k) (by omega) (by omega)).mp c_6
      refine lv_aload_n hx hb dX2_sumUp_61 rfl (lv_at hl 2 rfl) ?_
      refine va_get (D := (dC, dI)) (ci := 2) (v := .ref b1) (C := RX2) (T := TX2) (N := 6) hx hb hts inX2 hown hK hP 0 rfl rfl 4 (by decide) (hts _ mw_163) (fun _ h9 => h9) rfl dX2_sumUp_62 ?_
      refine lv_iload_n hx hb dX2_sumUp_65 rfl (lv_at hl 1 rfl) ?_
      refine lv_lconst (v := 1) hx hb dX2_sumUp_66 (by decide) ?_
      refine va_last hx hb hK hP hD hS 2 3 rfl rfl (vp_in_nI (show cm * wn < 5453 by omega) (by first | decide | omega)) dX2_sumUp_67 (fun H locs hP hD hS => ?_)
      rw [(show ((nI (cm * wn)) : Int32).toNatClampNeg = cm * wn from nI_clamp (by omega))] at hP hD
      obtain ⟨hP, hD⟩ := va_bo ([(h, .inr (2, [.ref s0, .ref s1, .ref s2, .int (nI cm), .ref b1, .int (nI wn)])), (s1, .inl (ca 0, 40, .inl wg)), (b1, .inl (ca 3, 5453, .inr (.inl (vp_updL S1 (cm * wn) 1))))] ++ tl) hP hD
      refine lv_aload_n hx hb dX2_sumUp_68 rfl (lv_at hl 2 rfl) ?_
      refine va_get (D := (dC, dI)) (ci := 2) (v := .int (nI cm)) (C := RX2) (T := TX2) (N := 6) hx hb hts inX2 hown hK hP 0 rfl rfl 3 (by decide) (hts _ mw_160) (fun _ h9 => h9) rfl dX2_sumUp_69 ?_
      refine lv_iconst (v := 1) hx hb dX2_sumUp_72 (by decide) ?_
      refine lv_isub hx hb dX2_sumUp_73 ?_
      refine lv_istore_n (lv' := [(3, .int ((nI cm) - 1)), (2, .int (nI (cm * wn))), (0, .ref h), (1, .int (nI li))]) hx hb dX2_sumUp_74 rfl hl (by decide) rfl (fun ls hl => ?_)
      refine wl_loop (fun (z_ : Nat × (Nat → Int64)) H locs ls => (z_.1 ≤ cm) ∧ va_P (dC, dI) vwCl (@HAppend.hAppend va_W va_W va_W _ [(h, .inr (2, [.ref s0, .ref s1, .ref s2, .int (nI cm), .ref b1, .int (nI wn)])), (s1, .inl (ca 0, 40, .inl wg)), (b1, .inl (ca 3, 5453, .inr (.inl z_.2)))] tl) H ∧ va_D A (@HAppend.hAppend va_W va_W va_W _ [(h, .inr (2, [.ref s0, .ref s1, .ref s2, .int (nI cm), .ref b1, .int (nI wn)])), (s1, .inl (ca 0, 40, .inl wg)), (b1, .inl (ca 3, 5453, .inr (.inl z_.2)))] tl) ∧ va_S A s.heap H locs ∧ lv_has ls 4 [(3, .int ((nI z_.1) - 1)), (2, .int (nI (cm * wn))), (0, .ref h), (1, .int (nI li))]) (fun (z_ : Nat × (Nat → Int64)) => z_.1) (fun z_ H locs ls hI ih75 => ?_) (cm, (vp_updL S1 (cm * wn) 1)) ⟨(Nat.le_refl _), hP, hD, hS, lv_sub hl [0, 1, 2, 3] rfl⟩
      obtain ⟨j, S1⟩ := z_
      dsimp only at hI ih75
      obtain ⟨hj, hP, hD, hS, hl⟩ := hI
      refine lv_iload_n hx hb dX2_sumUp_75 rfl (lv_at hl 0 rfl) ?_
      refine lv_if_lt (tgt := 101) hx hb dX2_sumUp_76 (by decide) (fun c_7 => ?_) (fun c_7 => ?_)
      · rw [hwn] at hP hD
        obtain ⟨hP, hD⟩ := va_bo ([(h, .inr (2, [.ref s0, .ref s1, .ref s2, .int (nI cm), .ref b1, .int (nI (li / 64 + 1))])), (s1, .inl (ca 0, 40, .inl wg)), (b1, .inl (ca 3, 5453, .inr (.inl S1)))] ++ tl) hP hD
        refine W.widen (k := (oM (some b1))) (n := (5453 * oM (some b1))) (Nat.le_of_ble_eq_true rfl) (Nat.le_of_ble_eq_true rfl) ?_
        have hP9 : va_P (dC, dI) vwCl ([(h, .inr (2, [.ref s0, .ref s1, .ref s2, .int (nI cm), .ref b1, .int (nI (li / 64 + 1))])), (s1, .inl (ca 0, 40, .inl wg)), (b1, .inl (ca 3, 5453, .inr (.inl S1)))] ++ tl) H := va_P.part (X := [(h, .inr (2, [.ref s0, .ref s1, .ref s2, .int (nI cm), .ref b1, .int (nI (li / 64 + 1))])), (s1, .inl (ca 0, 40, .inl wg)), (b1, .inl (ca 3, 5453, .inr (.inl S1)))]) hP [0, 1, 2] rfl
        have hD9 : va_D A ([(h, .inr (2, [.ref s0, .ref s1, .ref s2, .int (nI cm), .ref b1, .int (nI (li / 64 + 1))])), (s1, .inl (ca 0, 40, .inl wg)), (b1, .inl (ca 3, 5453, .inr (.inl S1)))] ++ tl) := va_D.part (X := [(h, .inr (2, [.ref s0, .ref s1, .ref s2, .int (nI cm), .ref b1, .int (nI (li / 64 + 1))])), (s1, .inl (ca 0, 40, .inl wg)), (b1, .inl (ca 3, 5453, .inr (.inl S1)))]) hD [0, 1, 2] (by decide) rfl
        exact W.vret hx hb hr (fun t ht hW => ⟨⟨(b1, S1), rfl, trivial, by rw [ht]; dsimp only; exact hP9, by dsimp only; exact hD9⟩, hS.F ht⟩) hS.2.2 dX2_sumUp_101
      · obtain ⟨i, rfl⟩ := nn_pred c_7 (by omega)
        rw [nI_pred] at hl
        refine lv_aload_n hx hb dX2_sumUp_79 rfl (lv_at hl 2 rfl) ?_
        refine lv_iload_n hx hb dX2_sumUp_80 rfl (lv_at hl 0 rfl) ?_
        refine lv_aload_n hx hb dX2_sumUp_81 rfl (lv_at hl 2 rfl) ?_
        refine va_get (D := (dC, dI)) (ci := 2) (v := .int (nI wn)) (C := RX2) (T := TX2) (N := 6) hx hb hts inX2 hown hK hP 0 rfl rfl 5 (by decide) (hts _ mw_164) (fun _ h9 => h9) rfl dX2_sumUp_82 ?_
        refine lv_imul hx hb dX2_sumUp_85 ?_
        refine lv_topi (fun y_ e_ => ?_)
        obtain rfl : y_ = (nI (i * wn)) := e_.trans (pk_mul (i) (wn))
        refine lv_aload_n hx hb dX2_sumUp_86 rfl (lv_at hl 2 rfl) ?_
        refine va_get (D := (dC, dI)) (ci := 2) (v := .ref s1) (C := RX2) (T := TX2) (N := 6) hx hb hts inX2 hown hK hP 0 rfl rfl 1 (by decide) (hts _ mw_156) (fun _ h9 => h9) rfl dX2_sumUp_87 ?_
        refine lv_iload_n hx hb dX2_sumUp_90 rfl (lv_at hl 0 rfl) ?_
        refine va_iald hx hb hK hP 1 0 rfl rfl (vp_in_nI (show i < 40 by omega) (by first | decide | omega)) dX2_sumUp_91 ?_
        refine lv_topi (fun y_ e_ => ?_)
        obtain rfl : y_ = (wg i) := e_.trans (congrArg wg (show ((nI i) : Int32).toNatClampNeg = i from nI_clamp (by omega)))
        obtain ⟨w9, hw9, ew9⟩ := hw.2 i (by omega)
        refine lv_topi (fun y_ e_ => ?_)
        obtain rfl : y_ = (nI w9) := e_.trans ew9
        have hPc := hP.sub (ws' := [(h, .inr (2, [.ref s0, .ref s1, .ref s2, .int (nI cm), .ref b1, .int (nI wn)])), (b1, .inl (ca 3, 5453, .inr (.inl S1)))]) [0, 2] rfl
        have hDc := hD.sub (ws' := [(h, .inr (2, [.ref s0, .ref s1, .ref s2, .int (nI cm), .ref b1, .int (nI wn)])), (b1, .inl (ca 3, 5453, .inr (.inl S1)))]) [0, 2] (by decide) rfl
        have hFc := va_free (wc := [(h, .inr (2, [.ref s0, .ref s1, .ref s2, .int (nI cm), .ref b1, .int (nI wn)])), (b1, .inl (ca 3, 5453, .inr (.inl S1)))]) hD hS hA [0, 2] rfl
        refine va_callv (va_runV (As := [.int (nI (i * wn)), .int (nI w9)]) (rest := []) ⟨hx, hb, hml, hown, hts⟩ (h_addPiece l dC dI ca H.size h b1 S1 s0 s1 s2 cm wn (i * wn) w9 (by first | assumption | omega | exact ⟨_, by omega, rfl⟩) (ml2 (by omega) hwn3) (by first | assumption | omega | exact ⟨_, by omega, rfl⟩)) (⟨callB_of 2 hts (gd mw_669) rfl rfl rfl (hts _ mw_6) (hts _ mw_666) ds_X2_addPiece ⟨Nat.le_of_ble_eq_true rfl, Nat.le_of_ble_eq_true rfl⟩, (hts _ mw_668), (hts _ mp_15)⟩) (pr_V hPc hK hDc hE (va_recv hK hPc (ci := 2) (q0 := 0) rfl rfl)) rfl rfl hl.1 rfl (lv_room (Nat.le_of_ble_eq_true rfl)) dX2_sumUp_92 ⟨Nat.le_of_ble_eq_true rfl, Nat.le_of_ble_eq_true rfl⟩) hS (fun q _ h => hFc q h) hFc (fun SM2_8 t_ H1 locs ht hvm hw_ hB hz1 hk1 hS => ?_)
        obtain ⟨hP1, hD1⟩ := hB
        rw [ht] at hP1
        obtain ⟨hP, hD⟩ := va_joinQ (X := [(h, .inr (2, [.ref s0, .ref s1, .ref s2, .int (nI cm), .ref b1, .int (nI wn)])), (s1, .inl (ca 0, 40, .inl wg)), (b1, .inl (ca 3, 5453, .inr (.inl S1)))]) (cx := [(h, .inr (2, [.ref s0, .ref s1, .ref s2, .int (nI cm), .ref b1, .int (nI wn)])), (b1, .inl (ca 3, 5453, .inr (.inl S1)))]) (wr := [(s1, .inl (ca 0, 40, .inl wg))]) (w1 := [(h, .inr (2, [.ref s0, .ref s1, .ref s2, .int (nI cm), .ref b1, .int (nI wn)])), (b1, .inl (ca 3, 5453, .inr (.inl SM2_8)))]) hP hD [0, 2] [1] rfl rfl (by decide) (by decide) hk1 hFc hP1 hD1
        generalize H1 = H at hP hS ⊢
        obtain ⟨hP, hD⟩ := va_bo ([(s1, .inl (ca 0, 40, .inl wg)), (h, .inr (2, [.ref s0, .ref s1, .ref s2, .int (nI cm), .ref b1, .int (nI wn)])), (b1, .inl (ca 3, 5453, .inr (.inl SM2_8)))] ++ tl) hP hD
        refine lv_iinc (v := ((nI i) - 1)) (lv' := [(3, .int ((nI i) - 1)), (2, .int (nI (cm * wn))), (0, .ref h), (1, .int (nI li))]) hx hb dX2_sumUp_95 hl (k := 0) rfl (add_m1 _) (by decide) rfl (fun ls hl => ?_)
        refine lv_goto (tgt := 75) hx hb dX2_sumUp_98 (by decide) ?_
        exact ih75 (i, SM2_8) _ _ _ (by omega) ⟨(by omega), (va_P.part (X := [(s1, .inl (ca 0, 40, .inl wg)), (h, .inr (2, [.ref s0, .ref s1, .ref s2, .int (nI cm), .ref b1, .int (nI wn)])), (b1, .inl (ca 3, 5453, .inr (.inl SM2_8)))]) hP [1, 0, 2] rfl), (va_D.part (X := [(s1, .inl (ca 0, 40, .inl wg)), (h, .inr (2, [.ref s0, .ref s1, .ref s2, .int (nI cm), .ref b1, .int (nI wn)])), (b1, .inl (ca 3, 5453, .inr (.inl SM2_8)))]) hD [1, 0, 2] (by decide) rfl), hS, lv_sub hl [0, 1, 2, 3] rfl⟩
    · have nc_6 : ¬ (wn ≤ k) := fun h9 => c_6 ((nI_leI (a := wn) (b := k) (by omega) (by omega)).mpr h9)
      refine lv_aload_n hx hb dX2_sumUp_46 rfl (lv_at hl 2 rfl) ?_
      refine va_get (D := (dC, dI)) (ci := 2) (v := .ref b1) (C := RX2) (T := TX2) (N := 6) hx hb hts inX2 hown hK hP 0 rfl rfl 4 (by decide) (hts _ mw_163) (fun _ h9 => h9) rfl dX2_sumUp_47 ?_
      refine lv_iload_n hx hb dX2_sumUp_50 rfl (lv_at hl 1 rfl) ?_
      refine lv_iload_n hx hb dX2_sumUp_51 rfl (lv_at hl 0 rfl) ?_
      refine lv_iadd hx hb dX2_sumUp_52 ?_
      refine lv_topi (fun y_ e_ => ?_)
      obtain rfl : y_ = (nI (cm * wn + k)) := e_.trans (nI_add (cm * wn) (k))
      refine lv_lconst (v := 0) hx hb dX2_sumUp_53 (by decide) ?_
      refine va_last hx hb hK hP hD hS 2 3 rfl rfl (vp_in_nI (show cm * wn + k < 5453 by omega) (by first | decide | omega)) dX2_sumUp_54 (fun H locs hP hD hS => ?_)
      rw [(show ((nI (cm * wn + k)) : Int32).toNatClampNeg = cm * wn + k from nI_clamp (by omega))] at hP hD
      obtain ⟨hP, hD⟩ := va_bo ([(h, .inr (2, [.ref s0, .ref s1, .ref s2, .int (nI cm), .ref b1, .int (nI wn)])), (s1, .inl (ca 0, 40, .inl wg)), (b1, .inl (ca 3, 5453, .inr (.inl (vp_updL S1 (cm * wn + k) 0))))] ++ tl) hP hD
      refine lv_iinc (v := (nI (k + 1))) (lv' := [(3, .int (nI (k + 1))), (2, .int (nI (cm * wn))), (0, .ref h), (1, .int (nI li))]) hx hb dX2_sumUp_55 hl (k := 0) rfl (nI_add (k) 1) (by decide) rfl (fun ls hl => ?_)
      refine lv_goto (tgt := 38) hx hb dX2_sumUp_58 (by decide) ?_
      exact ih (k + 1, (vp_updL S1 (cm * wn + k) 0)) _ _ _ (by omega) ⟨(by omega), hP, hD, hS, lv_sub hl [0, 1, 2, 3] rfl⟩
