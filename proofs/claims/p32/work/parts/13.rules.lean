set_option maxHeartbeats 4000000 in
set_option maxRecDepth 100000 in
theorem u_isGrain (l : Launch) (dC : Nat → ClassId) (dI : Nat → Nat → Nat) (ca : Nat → ClassId) (h : Nat) (f0 : Nat) (f1 : Nat) (f5 : Nat) (f6 : Nat) (rn : Nat) (gl : Int32) (gh : Int32) (v1 : Int32) : Met l yX8_isGrain (Cond.code yX8_isGrain cX8_isGrain 2 (some .boolean) :: gT) ({ frames := 2, cells := 0, slots := 0, locals := 82 }) (va_Pc [.ref h, .int v1] (pu (dC, dI) [(h, .inr (8, [.ref f0, .ref f1, .int (nI rn), .int gl, .int gh, .ref f5, .ref f6]))] (aT ca))) (vp_Si (fun r => r = wi v1 gl gh)) 0 0 (fun _ => False) := by
  refine Met.ofW (cc := cX8_isGrain) (maxL := 2) (ret := (some .boolean)) (by decide) rfl ?_
  intro p e s m args below meth c s₁ B hml hv
  obtain ⟨rfl, hP, hK, hE⟩ := hv
  have hx := B.exec
  have hb := B.bytes
  have hr := B.returns
  have hts : ∀ w ∈ gT, w.before _ s = true := fun w h => atoms_spec (ws := Cond.code yX8_isGrain cX8_isGrain 2 (some .boolean) :: gT) B.pre w (List.mem_cons_of_mem _ h)
  have hown : s.vm.findClass RX8 = some m.cls := findClass_of_methodNamed B.named
  have hlocks := B.notSynchronized
  have hl := lv_entry ([.ref h, .int v1]) (n := 2) (Nat.le_of_ble_eq_true rfl)
  rw [lg_entry_eq]
  generalize (lg_sl ([.ref h, .int v1]) ++ List.replicate (2 - (lg_sl ([.ref h, .int v1])).length) Slot.unset).toArray = ls at hl ⊢
  have hl : lv_has ls 2 [(0, .ref h), (1, .int v1)] := hl
  refine lv_iload_n hx hb dX8_isGrain_0 rfl (lv_at hl 1 rfl) ?_
  refine lv_aload_n hx hb dX8_isGrain_1 rfl (lv_at hl 0 rfl) ?_
  refine va_get (D := (dC, dI)) (ci := 8) (v := .int gl) (C := RX8) (T := TX8) (N := 7) hx hb hts inX8 hown hK hP 0 rfl rfl 3 (by decide) (hts _ mw_47) (fun _ h9 => h9) rfl dX8_isGrain_2 ?_
  refine lv_aload_n hx hb dX8_isGrain_5 rfl (lv_at hl 0 rfl) ?_
  refine va_get (D := (dC, dI)) (ci := 8) (v := .int gh) (C := RX8) (T := TX8) (N := 7) hx hb hts inX8 hown hK hP 0 rfl rfl 4 (by decide) (hts _ mw_49) (fun _ h9 => h9) rfl dX8_isGrain_6 ?_
  have hPc := hP.sub (ws' := []) [] rfl
  refine pc_i (va_runSN (As := [.int v1, .int gl, .int gh]) (rest := []) ⟨hx, hb, hml, hown, hts⟩ (c_within l dC dI ca v1 gl gh ) (⟨va_cnB 3 hts (gd mw_254) rfl rfl rfl hE.2.2.2.2.2.2.2 (hts _ mw_1) ds_X10_within ⟨Nat.le_of_ble_eq_true rfl, Nat.le_of_ble_eq_true rfl⟩, (hts _ mw_253), trivial⟩) (pu_S hPc hK hE) rfl rfl hl.1 rfl (lv_room (Nat.le_of_ble_eq_true rfl)) dX8_isGrain_9 ⟨Nat.le_of_ble_eq_true rfl, Nat.le_of_ble_eq_true rfl⟩) (fun rv_1 hw_ => ?_)
  obtain rfl : rv_1 = (wi v1 gl gh) := hw_
  exact W.zret (v := (wi v1 gl gh)) (ty := .boolean) hx hb hr (zb_n (by first | exact wi_z _ _ _ | assumption | exact Or.inl rfl | exact Or.inr rfl)) (fun t ht hW => ⟨(wi v1 gl gh), rfl, (by first | rfl | (simp []; done)), ht⟩) (fun q h => absurd h List.not_mem_nil) dX8_isGrain_12

set_option maxHeartbeats 4000000 in
set_option maxRecDepth 100000 in
theorem u_lossAt (l : Launch) (dC : Nat → ClassId) (dI : Nat → Nat → Nat) (ca : Nat → ClassId) (h : Nat) (f0 : Nat) (f1 : Nat) (f5 : Nat) (f6 : Nat) (rn : Nat) (gl : Int32) (gh : Int32) (fd : Nat → Int32) (lt : Nat → Int32) (v1 : Int32) (hls : rn ≤ 16) : Met l yX8_lossAt (Cond.code yX8_lossAt cX8_lossAt 4 (some .int) :: gT) ({ frames := 1, cells := 0, slots := 0, locals := 60 }) (va_Pc [.ref h, .int v1] (pu (dC, dI) [(h, .inr (8, [.ref f0, .ref f1, .int (nI rn), .int gl, .int gh, .ref f5, .ref f6])), (f0, .inl (ca 0, 16, .inl fd)), (f1, .inl (ca 0, 16, .inl lt))] (aT ca))) (vp_Si (fun r => r = lsG fd lt v1 rn 0 0)) 0 0 (fun _ => False) := by
  refine Met.ofW (cc := cX8_lossAt) (maxL := 4) (ret := (some .int)) (by decide) rfl ?_
  intro p e s m args below meth c s₁ B hml hv
  obtain ⟨rfl, hP, hK, hE⟩ := hv
  have hx := B.exec
  have hb := B.bytes
  have hr := B.returns
  have hts : ∀ w ∈ gT, w.before _ s = true := fun w h => atoms_spec (ws := Cond.code yX8_lossAt cX8_lossAt 4 (some .int) :: gT) B.pre w (List.mem_cons_of_mem _ h)
  have hown : s.vm.findClass RX8 = some m.cls := findClass_of_methodNamed B.named
  have hlocks := B.notSynchronized
  have hl := lv_entry ([.ref h, .int v1]) (n := 4) (Nat.le_of_ble_eq_true rfl)
  rw [lg_entry_eq]
  generalize (lg_sl ([.ref h, .int v1]) ++ List.replicate (4 - (lg_sl ([.ref h, .int v1])).length) Slot.unset).toArray = ls at hl ⊢
  have hl : lv_has ls 4 [(0, .ref h), (1, .int v1)] := hl
  refine lv_iconst (v := 0) hx hb dX8_lossAt_0 (by decide) ?_
  refine lv_istore_n (lv' := [(2, .int 0), (0, .ref h), (1, .int v1)]) hx hb dX8_lossAt_1 rfl hl (by decide) rfl (fun ls hl => ?_)
  refine lv_iconst (v := 0) hx hb dX8_lossAt_2 (by decide) ?_
  refine lv_istore_n (lv' := [(3, .int 0), (2, .int 0), (0, .ref h), (1, .int v1)]) hx hb dX8_lossAt_3 rfl hl (by decide) rfl (fun ls hl => ?_)
  refine wl_loop (fun (z_ : Nat × Int32) H locs ls => (z_.1 ≤ rn ∧ lsG fd lt v1 (rn - z_.1) z_.1 z_.2 = lsG fd lt v1 rn 0 0) ∧ H = s.heap ∧ locs = [] ∧ lv_has ls 4 [(3, .int (nI z_.1)), (2, .int z_.2), (0, .ref h), (1, .int v1)]) (fun (z_ : Nat × Int32) => rn - z_.1) (fun z_ H locs ls hI ih => ?_) (0, 0) ⟨⟨Nat.zero_le _, rfl⟩, rfl, rfl, lv_sub hl [0, 1, 2, 3] rfl⟩
  obtain ⟨i, cv⟩ := z_
  dsimp only at hI ih
  obtain ⟨⟨hi, hg⟩, rfl, rfl, hl⟩ := hI
  refine lv_iload_n hx hb dX8_lossAt_4 rfl (lv_at hl 0 rfl) ?_
  refine lv_aload_n hx hb dX8_lossAt_5 rfl (lv_at hl 2 rfl) ?_
  refine va_get (D := (dC, dI)) (ci := 8) (v := .int (nI rn)) (C := RX8) (T := TX8) (N := 7) hx hb hts inX8 hown hK hP 0 rfl rfl 2 (by decide) (hts _ mw_45) (fun _ h9 => h9) rfl dX8_lossAt_6 ?_
  refine lv_icmp_ge (tgt := 35) hx hb dX8_lossAt_9 (by decide) (fun c_1 => ?_) (fun c_1 => ?_)
  · have nc_1 : rn ≤ i := (nI_leI (a := rn) (b := i) (by omega) (by omega)).mp c_1
    refine lv_iload_n hx hb dX8_lossAt_35 rfl (lv_at hl 1 rfl) ?_
    exact W.iret (v := cv) hx hb hr (fun t ht hW => ⟨cv, rfl, (by rw [← hg, show rn - i = 0 by omega]; rfl), ht⟩) (fun q h => absurd h List.not_mem_nil) dX8_lossAt_36
  · have nc_1 : ¬ (rn ≤ i) := fun h9 => c_1 ((nI_leI (a := rn) (b := i) (by omega) (by omega)).mpr h9)
    refine lv_aload_n hx hb dX8_lossAt_12 rfl (lv_at hl 2 rfl) ?_
    refine va_get (D := (dC, dI)) (ci := 8) (v := .ref f0) (C := RX8) (T := TX8) (N := 7) hx hb hts inX8 hown hK hP 0 rfl rfl 0 (by decide) (hts _ mw_43) (fun _ h9 => h9) rfl dX8_lossAt_13 ?_
    refine lv_iload_n hx hb dX8_lossAt_16 rfl (lv_at hl 0 rfl) ?_
    refine va_iald hx hb hK hP 1 0 rfl rfl (vp_in_nI (show i < 16 by omega) (by first | decide | omega)) dX8_lossAt_17 ?_
    refine lv_topi (fun y_ e_ => ?_)
    obtain rfl : y_ = (fd i) := e_.trans (congrArg fd (show ((nI i) : Int32).toNatClampNeg = i from nI_clamp (by omega)))
    refine lv_iload_n hx hb dX8_lossAt_18 rfl (lv_at hl 3 rfl) ?_
    refine lv_icmp_gt (tgt := 35) hx hb dX8_lossAt_19 (by decide) (fun c_2 => ?_) (fun c_2 => ?_)
    · have hle := Int32.not_le.mpr c_2
      refine lv_iload_n hx hb dX8_lossAt_35 rfl (lv_at hl 1 rfl) ?_
      exact W.iret (v := cv) hx hb hr (fun t ht hW => ⟨cv, rfl, (by rw [← hg, lsG_n hle (by omega)]), ht⟩) (fun q h => absurd h List.not_mem_nil) dX8_lossAt_36
    · have hle := Int32.not_lt.mp c_2
      refine lv_aload_n hx hb dX8_lossAt_22 rfl (lv_at hl 2 rfl) ?_
      refine va_get (D := (dC, dI)) (ci := 8) (v := .ref f1) (C := RX8) (T := TX8) (N := 7) hx hb hts inX8 hown hK hP 0 rfl rfl 1 (by decide) (hts _ mw_44) (fun _ h9 => h9) rfl dX8_lossAt_23 ?_
      refine lv_iload_n hx hb dX8_lossAt_26 rfl (lv_at hl 0 rfl) ?_
      refine va_iald hx hb hK hP 2 0 rfl rfl (vp_in_nI (show i < 16 by omega) (by first | decide | omega)) dX8_lossAt_27 ?_
      refine lv_topi (fun y_ e_ => ?_)
      obtain rfl : y_ = (lt i) := e_.trans (congrArg lt (show ((nI i) : Int32).toNatClampNeg = i from nI_clamp (by omega)))
      refine lv_istore_n (lv' := [(2, .int (lt i)), (3, .int (nI i)), (0, .ref h), (1, .int v1)]) hx hb dX8_lossAt_28 rfl hl (by decide) rfl (fun ls hl => ?_)
      refine lv_iinc (v := (nI (i + 1))) (lv' := [(3, .int (nI (i + 1))), (2, .int (lt i)), (0, .ref h), (1, .int v1)]) hx hb dX8_lossAt_29 hl (k := 1) rfl (nI_add (i) 1) (by decide) rfl (fun ls hl => ?_)
      refine lv_goto (tgt := 4) hx hb dX8_lossAt_32 (by decide) ?_
      exact ih (i + 1, (lt i)) _ _ _ (by omega) ⟨⟨by omega, by rw [← hg, lsG_y (show fd i ≤ v1 from hle) (by omega), Nat.sub_sub] <;> rfl⟩, rfl, rfl, lv_sub hl [0, 1, 2, 3] rfl⟩

def adL (ls : Nat) (fd : Nat → Int32) (v1 v2 : Int32) : Int32 := if 16 ≤ ls then -1 else if ls ≠ 0 ∧ v1 ≤ fd (ls - 1) then -1 else if wi v2 0 900 = 0 then -1 else nI (ls + 1)

theorem nI_nm2 {q : Nat} (h : q < 2 ^ 31) : ¬ nI q = -1 := fun e => by
  have h1 := nI_toInt h
  rw [e] at h1
  have e1 : (-1 : Int32).toInt = -1 := by decide
  omega

set_option maxHeartbeats 4000000 in
set_option maxRecDepth 100000 in
theorem u_addLoss (l : Launch) (dC : Nat → ClassId) (dI : Nat → Nat → Nat) (ca : Nat → ClassId) (sz : Nat) (h : Nat) (f0 : Nat) (f1 : Nat) (f5 : Nat) (f6 : Nat) (rn : Nat) (gl : Int32) (gh : Int32) (fd : Nat → Int32) (lt : Nat → Int32) (v1 : Int32) (v2 : Int32) (hls : rn ≤ 16) : Met l yX8_addLoss (Cond.code yX8_addLoss cX8_addLoss 4 (some .int) :: gT) ({ frames := 2, cells := 0, slots := 0, locals := 82 }) (va_Pc [.ref h, .int v1, .int v2] (pr (dC, dI) sz [(h, .inr (8, [.ref f0, .ref f1, .int (nI rn), .int gl, .int gh, .ref f5, .ref f6])), (f0, .inl (ca 0, 16, .inl fd)), (f1, .inl (ca 0, 16, .inl lt))] (aT ca))) (va_Qi (fun (r : Int32) (u_ : Nat × (Nat → Int32) × (Nat → Int32)) => r = adL rn fd v1 v2 ∧ u_.1 ≤ 16 ∧ (if r = -1 then u_.1 = rn ∧ u_.2.1 = fd ∧ u_.2.2 = lt else u_.1 = rn + 1 ∧ u_.2.1 = upd fd rn v1 ∧ u_.2.2 = upd lt rn v2)) (fun (u_ : Nat × (Nat → Int32) × (Nat → Int32)) t => va_P (dC, dI) vwCl [(h, .inr (8, [.ref f0, .ref f1, .int (nI u_.1), .int gl, .int gh, .ref f5, .ref f6])), (f0, .inl (ca 0, 16, .inl u_.2.1)), (f1, .inl (ca 0, 16, .inl u_.2.2))] t.heap ∧ va_D (va_A [(h, .inr (8, [.ref f0, .ref f1, .int (nI rn), .int gl, .int gh, .ref f5, .ref f6])), (f0, .inl (ca 0, 16, .inl fd)), (f1, .inl (ca 0, 16, .inl lt))] sz) [(h, .inr (8, [.ref f0, .ref f1, .int (nI u_.1), .int gl, .int gh, .ref f5, .ref f6])), (f0, .inl (ca 0, 16, .inl u_.2.1)), (f1, .inl (ca 0, 16, .inl u_.2.2))]) (va_A [(h, .inr (8, [.ref f0, .ref f1, .int (nI rn), .int gl, .int gh, .ref f5, .ref f6])), (f0, .inl (ca 0, 16, .inl fd)), (f1, .inl (ca 0, 16, .inl lt))] sz)) 0 0 (va_A [(h, .inr (8, [.ref f0, .ref f1, .int (nI rn), .int gl, .int gh, .ref f5, .ref f6])), (f0, .inl (ca 0, 16, .inl fd)), (f1, .inl (ca 0, 16, .inl lt))] sz) := by
  refine Met.ofW (cc := cX8_addLoss) (maxL := 4) (ret := (some .int)) (by decide) rfl ?_
  intro p e s m args below meth c s₁ B hml hv
  obtain ⟨rfl, hsz, hP, hK, hD0, hE⟩ := hv
  have hx := B.exec
  have hb := B.bytes
  have hr := B.returns
  have hts : ∀ w ∈ gT, w.before _ s = true := fun w h => atoms_spec (ws := Cond.code yX8_addLoss cX8_addLoss 4 (some .int) :: gT) B.pre w (List.mem_cons_of_mem _ h)
  have hown : s.vm.findClass RX8 = some m.cls := findClass_of_methodNamed B.named
  have hlocks := B.notSynchronized
  subst hsz
  have hD := hD0.self (sz := s.heap.size)
  generalize hAe : va_A [(h, .inr (8, [.ref f0, .ref f1, .int (nI rn), .int gl, .int gh, .ref f5, .ref f6])), (f0, .inl (ca 0, 16, .inl fd)), (f1, .inl (ca 0, 16, .inl lt))] s.heap.size = A at hD ⊢
  have hA : ∀ q : Nat, s.heap.size ≤ q → A q := fun q h => by rw [← hAe]; exact Or.inr h
  have hS : va_S A s.heap s.heap [] := va_S.rf
  have hl := lv_entry ([.ref h, .int v1, .int v2]) (n := 4) (Nat.le_of_ble_eq_true rfl)
  rw [lg_entry_eq]
  generalize (lg_sl ([.ref h, .int v1, .int v2]) ++ List.replicate (4 - (lg_sl ([.ref h, .int v1, .int v2])).length) Slot.unset).toArray = ls at hl ⊢
  have hl : lv_has ls 4 [(0, .ref h), (1, .int v1), (2, .int v2)] := hl
  refine lv_aload_n hx hb dX8_addLoss_0 rfl (lv_at hl 0 rfl) ?_
  refine va_get (D := (dC, dI)) (ci := 8) (v := .int (nI rn)) (C := RX8) (T := TX8) (N := 7) hx hb hts inX8 hown hK hP 0 rfl rfl 2 (by decide) (hts _ mw_45) (fun _ h9 => h9) rfl dX8_addLoss_1 ?_
  refine lv_if_eq (tgt := 22) hx hb dX8_addLoss_4 (by decide) (fun c_1 => ?_) (fun c_1 => ?_)
  · have nc_1 : rn = 0 := (nI_eq (a := rn) (b := 0) (by omega) (by omega)).mp c_1
    refine lv_iconst (v := 1) hx hb dX8_addLoss_22 (by decide) ?_
    refine lv_goto (tgt := 27) hx hb dX8_addLoss_23 (by decide) ?_
    refine lv_istore_n (lv' := [(3, .int 1), (0, .ref h), (1, .int v1), (2, .int v2)]) hx hb dX8_addLoss_27 rfl hl (by decide) rfl (fun ls hl => ?_)
    refine lv_aload_n hx hb dX8_addLoss_28 rfl (lv_at hl 1 rfl) ?_
    refine va_get (D := (dC, dI)) (ci := 8) (v := .int (nI rn)) (C := RX8) (T := TX8) (N := 7) hx hb hts inX8 hown hK hP 0 rfl rfl 2 (by decide) (hts _ mw_45) (fun _ h9 => h9) rfl dX8_addLoss_29 ?_
    refine lv_bipush (v := 16) hx hb dX8_addLoss_32 (by decide) ?_
    refine lv_icmp_ge (tgt := 52) hx hb dX8_addLoss_34 (by decide) (fun c_2 => ?_) (fun c_2 => ?_)
    · have nc_2 : 16 ≤ rn := (nI_leI (a := 16) (b := rn) (by omega) (by omega)).mp c_2
      refine lv_iconst (v := (-1)) hx hb dX8_addLoss_52 (by decide) ?_
      refine W.widen (k := 0) (n := 0) (Nat.le_of_ble_eq_true rfl) (Nat.le_of_ble_eq_true rfl) ?_
      have hP9 : va_P (dC, dI) vwCl [(h, .inr (8, [.ref f0, .ref f1, .int (nI rn), .int gl, .int gh, .ref f5, .ref f6])), (f0, .inl (ca 0, 16, .inl fd)), (f1, .inl (ca 0, 16, .inl lt))] s.heap := va_P.sub hP [0, 1, 2] rfl
      have hD9 : va_D A [(h, .inr (8, [.ref f0, .ref f1, .int (nI rn), .int gl, .int gh, .ref f5, .ref f6])), (f0, .inl (ca 0, 16, .inl fd)), (f1, .inl (ca 0, 16, .inl lt))] := va_D.sub hD [0, 1, 2] (by decide) rfl
      exact W.iret (v := (-1)) hx hb hr (fun t ht hW => ⟨⟨(-1), (rn, fd, lt), rfl, ⟨by first | (exfalso; omega) | (unfold adL; simp [nc_1, nc_2]; done), hls, by rw [if_pos rfl]; exact ⟨rfl, rfl, rfl⟩⟩, by rw [ht]; dsimp only; exact hP9, by dsimp only; exact hD9⟩, hS.F ht⟩) hS.2.2 dX8_addLoss_53
    · have nc_2 : ¬ (16 ≤ rn) := fun h9 => c_2 ((nI_leI (a := 16) (b := rn) (by omega) (by omega)).mpr h9)
      refine lv_iload_n hx hb dX8_addLoss_37 rfl (lv_at hl 0 rfl) ?_
      refine lv_if_eq (tgt := 52) hx hb dX8_addLoss_38 (by decide) (fun c_ => absurd c_ (by decide)) (fun c_ => ?_)
      refine lv_iload_n hx hb dX8_addLoss_41 rfl (lv_at hl 3 rfl) ?_
      refine lv_iconst (v := 0) hx hb dX8_addLoss_42 (by decide) ?_
      refine lv_sipush (v := 900) hx hb dX8_addLoss_43 (by decide) ?_
      have hPc := hP.sub (ws' := []) [] rfl
      refine pc_i (va_runSN (As := [.int v2, .int 0, .int 900]) (rest := []) ⟨hx, hb, hml, hown, hts⟩ (c_within l dC dI ca v2 0 900 ) (⟨va_cnB 3 hts (gd mw_254) rfl rfl rfl hE.2.2.2.2.2.2.2 (hts _ mw_1) ds_X10_within ⟨Nat.le_of_ble_eq_true rfl, Nat.le_of_ble_eq_true rfl⟩, (hts _ mw_253), trivial⟩) (pu_S hPc hK hE) rfl rfl hl.1 rfl (lv_room (Nat.le_of_ble_eq_true rfl)) dX8_addLoss_46 ⟨Nat.le_of_ble_eq_true rfl, Nat.le_of_ble_eq_true rfl⟩) (fun rv_3 hw_ => ?_)
      obtain rfl : rv_3 = (wi v2 0 900) := hw_
      refine lv_if_ne (tgt := 54) hx hb dX8_addLoss_49 (by decide) (fun c_4 => ?_) (fun c_4 => ?_)
      · refine lv_aload_n hx hb dX8_addLoss_54 rfl (lv_at hl 1 rfl) ?_
        refine va_get (D := (dC, dI)) (ci := 8) (v := .ref f0) (C := RX8) (T := TX8) (N := 7) hx hb hts inX8 hown hK hP 0 rfl rfl 0 (by decide) (hts _ mw_43) (fun _ h9 => h9) rfl dX8_addLoss_55 ?_
        refine lv_aload_n hx hb dX8_addLoss_58 rfl (lv_at hl 1 rfl) ?_
        refine va_get (D := (dC, dI)) (ci := 8) (v := .int (nI rn)) (C := RX8) (T := TX8) (N := 7) hx hb hts inX8 hown hK hP 0 rfl rfl 2 (by decide) (hts _ mw_45) (fun _ h9 => h9) rfl dX8_addLoss_59 ?_
        refine lv_iload_n hx hb dX8_addLoss_62 rfl (lv_at hl 2 rfl) ?_
        refine va_iast hx hb hK hP hD hS 1 0 rfl rfl (vp_in_nI (show rn < 16 by omega) (by first | decide | omega)) dX8_addLoss_63 (fun H locs hP hD hS => ?_)
        rw [(show ((nI rn) : Int32).toNatClampNeg = rn from nI_clamp (by omega))] at hP hD
        obtain ⟨hP, hD⟩ := va_bo [(h, .inr (8, [.ref f0, .ref f1, .int (nI rn), .int gl, .int gh, .ref f5, .ref f6])), (f0, .inl (ca 0, 16, .inl (upd fd rn v1))), (f1, .inl (ca 0, 16, .inl lt))] hP hD
        refine lv_aload_n hx hb dX8_addLoss_64 rfl (lv_at hl 1 rfl) ?_
        refine va_get (D := (dC, dI)) (ci := 8) (v := .ref f1) (C := RX8) (T := TX8) (N := 7) hx hb hts inX8 hown hK hP 0 rfl rfl 1 (by decide) (hts _ mw_44) (fun _ h9 => h9) rfl dX8_addLoss_65 ?_
        refine lv_aload_n hx hb dX8_addLoss_68 rfl (lv_at hl 1 rfl) ?_
        refine va_get (D := (dC, dI)) (ci := 8) (v := .int (nI rn)) (C := RX8) (T := TX8) (N := 7) hx hb hts inX8 hown hK hP 0 rfl rfl 2 (by decide) (hts _ mw_45) (fun _ h9 => h9) rfl dX8_addLoss_69 ?_
        refine lv_iload_n hx hb dX8_addLoss_72 rfl (lv_at hl 3 rfl) ?_
        refine va_iast hx hb hK hP hD hS 2 0 rfl rfl (vp_in_nI (show rn < 16 by omega) (by first | decide | omega)) dX8_addLoss_73 (fun H locs hP hD hS => ?_)
        rw [(show ((nI rn) : Int32).toNatClampNeg = rn from nI_clamp (by omega))] at hP hD
        obtain ⟨hP, hD⟩ := va_bo [(h, .inr (8, [.ref f0, .ref f1, .int (nI rn), .int gl, .int gh, .ref f5, .ref f6])), (f0, .inl (ca 0, 16, .inl (upd fd rn v1))), (f1, .inl (ca 0, 16, .inl (upd lt rn v2)))] hP hD
        refine lv_aload_n hx hb dX8_addLoss_74 rfl (lv_at hl 1 rfl) ?_
        refine lv_dup hx hb dX8_addLoss_75 rfl ?_
        refine va_get (D := (dC, dI)) (ci := 8) (v := .int (nI rn)) (C := RX8) (T := TX8) (N := 7) hx hb hts inX8 hown hK hP 0 rfl rfl 2 (by decide) (hts _ mw_45) (fun _ h9 => h9) rfl dX8_addLoss_76 ?_
        refine lv_iconst (v := 1) hx hb dX8_addLoss_79 (by decide) ?_
        refine lv_iadd hx hb dX8_addLoss_80 ?_
        refine lv_topi (fun y_ e_ => ?_)
        obtain rfl : y_ = (nI (rn + 1)) := e_.trans (nI_add (rn) (1))
        refine va_put (D := (dC, dI)) (ci := 8) (v := .int (nI (rn + 1))) (ty := .int) (C := RX8) (T := TX8) (N := 7) hx hb hts inX8 tyX8 tyX8_ok nmX8 hown hK hP hD hS 0 rfl rfl 2 (by decide) (hts _ mw_45) (fun _ h9 => h9) rfl (by decide +kernel) rfl rfl (Nat.le_of_ble_eq_true rfl) dX8_addLoss_81 (fun H locs hP hD hS => ?_)
        obtain ⟨hP, hD⟩ := va_bo [(h, .inr (8, [.ref f0, .ref f1, .int (nI (rn + 1)), .int gl, .int gh, .ref f5, .ref f6])), (f0, .inl (ca 0, 16, .inl (upd fd rn v1))), (f1, .inl (ca 0, 16, .inl (upd lt rn v2)))] hP hD
        refine lv_aload_n hx hb dX8_addLoss_84 rfl (lv_at hl 1 rfl) ?_
        refine va_get (D := (dC, dI)) (ci := 8) (v := .int (nI (rn + 1))) (C := RX8) (T := TX8) (N := 7) hx hb hts inX8 hown hK hP 0 rfl rfl 2 (by decide) (hts _ mw_45) (fun _ h9 => h9) rfl dX8_addLoss_85 ?_
        refine W.widen (k := 0) (n := 0) (Nat.le_of_ble_eq_true rfl) (Nat.le_of_ble_eq_true rfl) ?_
        have hP9 : va_P (dC, dI) vwCl [(h, .inr (8, [.ref f0, .ref f1, .int (nI (rn + 1)), .int gl, .int gh, .ref f5, .ref f6])), (f0, .inl (ca 0, 16, .inl (upd fd rn v1))), (f1, .inl (ca 0, 16, .inl (upd lt rn v2)))] H := va_P.sub hP [0, 1, 2] rfl
        have hD9 : va_D A [(h, .inr (8, [.ref f0, .ref f1, .int (nI (rn + 1)), .int gl, .int gh, .ref f5, .ref f6])), (f0, .inl (ca 0, 16, .inl (upd fd rn v1))), (f1, .inl (ca 0, 16, .inl (upd lt rn v2)))] := va_D.sub hD [0, 1, 2] (by decide) rfl
        exact W.iret (v := (nI (rn + 1))) hx hb hr (fun t ht hW => ⟨⟨(nI (rn + 1)), (rn + 1, (upd fd rn v1), (upd lt rn v2)), rfl, ⟨by first | (exfalso; omega) | (unfold adL; simp [nc_1, nc_2, c_4]; done), by omega, by rw [if_neg (nI_nm2 (by omega))]; exact ⟨rfl, rfl, rfl⟩⟩, by rw [ht]; dsimp only; exact hP9, by dsimp only; exact hD9⟩, hS.F ht⟩) hS.2.2 dX8_addLoss_88
      · refine lv_iconst (v := (-1)) hx hb dX8_addLoss_52 (by decide) ?_
        refine W.widen (k := 0) (n := 0) (Nat.le_of_ble_eq_true rfl) (Nat.le_of_ble_eq_true rfl) ?_
        have hP9 : va_P (dC, dI) vwCl [(h, .inr (8, [.ref f0, .ref f1, .int (nI rn), .int gl, .int gh, .ref f5, .ref f6])), (f0, .inl (ca 0, 16, .inl fd)), (f1, .inl (ca 0, 16, .inl lt))] s.heap := va_P.sub hP [0, 1, 2] rfl
        have hD9 : va_D A [(h, .inr (8, [.ref f0, .ref f1, .int (nI rn), .int gl, .int gh, .ref f5, .ref f6])), (f0, .inl (ca 0, 16, .inl fd)), (f1, .inl (ca 0, 16, .inl lt))] := va_D.sub hD [0, 1, 2] (by decide) rfl
        exact W.iret (v := (-1)) hx hb hr (fun t ht hW => ⟨⟨(-1), (rn, fd, lt), rfl, ⟨by first | (exfalso; omega) | (unfold adL; simp [nc_1, nc_2, c_4]; done), hls, by rw [if_pos rfl]; exact ⟨rfl, rfl, rfl⟩⟩, by rw [ht]; dsimp only; exact hP9, by dsimp only; exact hD9⟩, hS.F ht⟩) hS.2.2 dX8_addLoss_53
  · have nc_1 : ¬ (rn = 0) := fun h9 => c_1 ((nI_eq (a := rn) (b := 0) (by omega) (by omega)).mpr h9)
    refine lv_aload_n hx hb dX8_addLoss_7 rfl (lv_at hl 0 rfl) ?_
    refine va_get (D := (dC, dI)) (ci := 8) (v := .ref f0) (C := RX8) (T := TX8) (N := 7) hx hb hts inX8 hown hK hP 0 rfl rfl 0 (by decide) (hts _ mw_43) (fun _ h9 => h9) rfl dX8_addLoss_8 ?_
    refine lv_aload_n hx hb dX8_addLoss_11 rfl (lv_at hl 0 rfl) ?_
    refine va_get (D := (dC, dI)) (ci := 8) (v := .int (nI rn)) (C := RX8) (T := TX8) (N := 7) hx hb hts inX8 hown hK hP 0 rfl rfl 2 (by decide) (hts _ mw_45) (fun _ h9 => h9) rfl dX8_addLoss_12 ?_
    refine lv_iconst (v := 1) hx hb dX8_addLoss_15 (by decide) ?_
    refine lv_isub hx hb dX8_addLoss_16 ?_
    refine lv_topi (fun y_ e_ => ?_)
    obtain rfl : y_ = (nI (rn - 1)) := e_.trans (pk_sub (show 1 ≤ rn by omega))
    refine va_iald hx hb hK hP 1 0 rfl rfl (vp_in_nI (show rn - 1 < 16 by omega) (by first | decide | omega)) dX8_addLoss_17 ?_
    refine lv_topi (fun y_ e_ => ?_)
    obtain rfl : y_ = (fd (rn - 1)) := e_.trans (congrArg fd (show ((nI (rn - 1)) : Int32).toNatClampNeg = rn - 1 from nI_clamp (by omega)))
    refine lv_iload_n hx hb dX8_addLoss_18 rfl (lv_at hl 1 rfl) ?_
    refine lv_icmp_ge (tgt := 26) hx hb dX8_addLoss_19 (by decide) (fun c_5 => ?_) (fun c_5 => ?_)
    · refine lv_iconst (v := 0) hx hb dX8_addLoss_26 (by decide) ?_
      refine lv_istore_n (lv' := [(3, .int 0), (0, .ref h), (1, .int v1), (2, .int v2)]) hx hb dX8_addLoss_27 rfl hl (by decide) rfl (fun ls hl => ?_)
      refine lv_aload_n hx hb dX8_addLoss_28 rfl (lv_at hl 1 rfl) ?_
      refine va_get (D := (dC, dI)) (ci := 8) (v := .int (nI rn)) (C := RX8) (T := TX8) (N := 7) hx hb hts inX8 hown hK hP 0 rfl rfl 2 (by decide) (hts _ mw_45) (fun _ h9 => h9) rfl dX8_addLoss_29 ?_
      refine lv_bipush (v := 16) hx hb dX8_addLoss_32 (by decide) ?_
      refine lv_icmp_ge (tgt := 52) hx hb dX8_addLoss_34 (by decide) (fun c_6 => ?_) (fun c_6 => ?_)
      · have nc_6 : 16 ≤ rn := (nI_leI (a := 16) (b := rn) (by omega) (by omega)).mp c_6
        refine lv_iconst (v := (-1)) hx hb dX8_addLoss_52 (by decide) ?_
        refine W.widen (k := 0) (n := 0) (Nat.le_of_ble_eq_true rfl) (Nat.le_of_ble_eq_true rfl) ?_
        have hP9 : va_P (dC, dI) vwCl [(h, .inr (8, [.ref f0, .ref f1, .int (nI rn), .int gl, .int gh, .ref f5, .ref f6])), (f0, .inl (ca 0, 16, .inl fd)), (f1, .inl (ca 0, 16, .inl lt))] s.heap := va_P.sub hP [0, 1, 2] rfl
        have hD9 : va_D A [(h, .inr (8, [.ref f0, .ref f1, .int (nI rn), .int gl, .int gh, .ref f5, .ref f6])), (f0, .inl (ca 0, 16, .inl fd)), (f1, .inl (ca 0, 16, .inl lt))] := va_D.sub hD [0, 1, 2] (by decide) rfl
        exact W.iret (v := (-1)) hx hb hr (fun t ht hW => ⟨⟨(-1), (rn, fd, lt), rfl, ⟨by first | (exfalso; omega) | (unfold adL; simp [nc_1, c_5, nc_6]; done), hls, by rw [if_pos rfl]; exact ⟨rfl, rfl, rfl⟩⟩, by rw [ht]; dsimp only; exact hP9, by dsimp only; exact hD9⟩, hS.F ht⟩) hS.2.2 dX8_addLoss_53
      · have nc_6 : ¬ (16 ≤ rn) := fun h9 => c_6 ((nI_leI (a := 16) (b := rn) (by omega) (by omega)).mpr h9)
        refine lv_iload_n hx hb dX8_addLoss_37 rfl (lv_at hl 0 rfl) ?_
        refine lv_if_eq (tgt := 52) hx hb dX8_addLoss_38 (by decide) (fun c_ => ?_) (fun c_ => absurd c_ (by decide))
        refine lv_iconst (v := (-1)) hx hb dX8_addLoss_52 (by decide) ?_
        refine W.widen (k := 0) (n := 0) (Nat.le_of_ble_eq_true rfl) (Nat.le_of_ble_eq_true rfl) ?_
        have hP9 : va_P (dC, dI) vwCl [(h, .inr (8, [.ref f0, .ref f1, .int (nI rn), .int gl, .int gh, .ref f5, .ref f6])), (f0, .inl (ca 0, 16, .inl fd)), (f1, .inl (ca 0, 16, .inl lt))] s.heap := va_P.sub hP [0, 1, 2] rfl
        have hD9 : va_D A [(h, .inr (8, [.ref f0, .ref f1, .int (nI rn), .int gl, .int gh, .ref f5, .ref f6])), (f0, .inl (ca 0, 16, .inl fd)), (f1, .inl (ca 0, 16, .inl lt))] := va_D.sub hD [0, 1, 2] (by decide) rfl
        exact W.iret (v := (-1)) hx hb hr (fun t ht hW => ⟨⟨(-1), (rn, fd, lt), rfl, ⟨by first | (exfalso; omega) | (unfold adL; simp [nc_1, c_5, nc_6]; done), hls, by rw [if_pos rfl]; exact ⟨rfl, rfl, rfl⟩⟩, by rw [ht]; dsimp only; exact hP9, by dsimp only; exact hD9⟩, hS.F ht⟩) hS.2.2 dX8_addLoss_53
    · refine lv_iconst (v := 1) hx hb dX8_addLoss_22 (by decide) ?_
      refine lv_goto (tgt := 27) hx hb dX8_addLoss_23 (by decide) ?_
      refine lv_istore_n (lv' := [(3, .int 1), (0, .ref h), (1, .int v1), (2, .int v2)]) hx hb dX8_addLoss_27 rfl hl (by decide) rfl (fun ls hl => ?_)
      refine lv_aload_n hx hb dX8_addLoss_28 rfl (lv_at hl 1 rfl) ?_
      refine va_get (D := (dC, dI)) (ci := 8) (v := .int (nI rn)) (C := RX8) (T := TX8) (N := 7) hx hb hts inX8 hown hK hP 0 rfl rfl 2 (by decide) (hts _ mw_45) (fun _ h9 => h9) rfl dX8_addLoss_29 ?_
      refine lv_bipush (v := 16) hx hb dX8_addLoss_32 (by decide) ?_
      refine lv_icmp_ge (tgt := 52) hx hb dX8_addLoss_34 (by decide) (fun c_7 => ?_) (fun c_7 => ?_)
      · have nc_7 : 16 ≤ rn := (nI_leI (a := 16) (b := rn) (by omega) (by omega)).mp c_7
        refine lv_iconst (v := (-1)) hx hb dX8_addLoss_52 (by decide) ?_
        refine W.widen (k := 0) (n := 0) (Nat.le_of_ble_eq_true rfl) (Nat.le_of_ble_eq_true rfl) ?_
        have hP9 : va_P (dC, dI) vwCl [(h, .inr (8, [.ref f0, .ref f1, .int (nI rn), .int gl, .int gh, .ref f5, .ref f6])), (f0, .inl (ca 0, 16, .inl fd)), (f1, .inl (ca 0, 16, .inl lt))] s.heap := va_P.sub hP [0, 1, 2] rfl
        have hD9 : va_D A [(h, .inr (8, [.ref f0, .ref f1, .int (nI rn), .int gl, .int gh, .ref f5, .ref f6])), (f0, .inl (ca 0, 16, .inl fd)), (f1, .inl (ca 0, 16, .inl lt))] := va_D.sub hD [0, 1, 2] (by decide) rfl
        exact W.iret (v := (-1)) hx hb hr (fun t ht hW => ⟨⟨(-1), (rn, fd, lt), rfl, ⟨by first | (exfalso; omega) | (unfold adL; simp [nc_1, c_5, nc_7]; done), hls, by rw [if_pos rfl]; exact ⟨rfl, rfl, rfl⟩⟩, by rw [ht]; dsimp only; exact hP9, by dsimp only; exact hD9⟩, hS.F ht⟩) hS.2.2 dX8_addLoss_53
      · have nc_7 : ¬ (16 ≤ rn) := fun h9 => c_7 ((nI_leI (a := 16) (b := rn) (by omega) (by omega)).mpr h9)
        refine lv_iload_n hx hb dX8_addLoss_37 rfl (lv_at hl 0 rfl) ?_
        refine lv_if_eq (tgt := 52) hx hb dX8_addLoss_38 (by decide) (fun c_ => absurd c_ (by decide)) (fun c_ => ?_)
        refine lv_iload_n hx hb dX8_addLoss_41 rfl (lv_at hl 3 rfl) ?_
        refine lv_iconst (v := 0) hx hb dX8_addLoss_42 (by decide) ?_
        refine lv_sipush (v := 900) hx hb dX8_addLoss_43 (by decide) ?_
        have hPc := hP.sub (ws' := []) [] rfl
        refine pc_i (va_runSN (As := [.int v2, .int 0, .int 900]) (rest := []) ⟨hx, hb, hml, hown, hts⟩ (c_within l dC dI ca v2 0 900 ) (⟨va_cnB 3 hts (gd mw_254) rfl rfl rfl hE.2.2.2.2.2.2.2 (hts _ mw_1) ds_X10_within ⟨Nat.le_of_ble_eq_true rfl, Nat.le_of_ble_eq_true rfl⟩, (hts _ mw_253), trivial⟩) (pu_S hPc hK hE) rfl rfl hl.1 rfl (lv_room (Nat.le_of_ble_eq_true rfl)) dX8_addLoss_46 ⟨Nat.le_of_ble_eq_true rfl, Nat.le_of_ble_eq_true rfl⟩) (fun rv_8 hw_ => ?_)
        obtain rfl : rv_8 = (wi v2 0 900) := hw_
        refine lv_if_ne (tgt := 54) hx hb dX8_addLoss_49 (by decide) (fun c_9 => ?_) (fun c_9 => ?_)
        · refine lv_aload_n hx hb dX8_addLoss_54 rfl (lv_at hl 1 rfl) ?_
          refine va_get (D := (dC, dI)) (ci := 8) (v := .ref f0) (C := RX8) (T := TX8) (N := 7) hx hb hts inX8 hown hK hP 0 rfl rfl 0 (by decide) (hts _ mw_43) (fun _ h9 => h9) rfl dX8_addLoss_55 ?_
          refine lv_aload_n hx hb dX8_addLoss_58 rfl (lv_at hl 1 rfl) ?_
          refine va_get (D := (dC, dI)) (ci := 8) (v := .int (nI rn)) (C := RX8) (T := TX8) (N := 7) hx hb hts inX8 hown hK hP 0 rfl rfl 2 (by decide) (hts _ mw_45) (fun _ h9 => h9) rfl dX8_addLoss_59 ?_
          refine lv_iload_n hx hb dX8_addLoss_62 rfl (lv_at hl 2 rfl) ?_
          refine va_iast hx hb hK hP hD hS 1 0 rfl rfl (vp_in_nI (show rn < 16 by omega) (by first | decide | omega)) dX8_addLoss_63 (fun H locs hP hD hS => ?_)
          rw [(show ((nI rn) : Int32).toNatClampNeg = rn from nI_clamp (by omega))] at hP hD
          obtain ⟨hP, hD⟩ := va_bo [(h, .inr (8, [.ref f0, .ref f1, .int (nI rn), .int gl, .int gh, .ref f5, .ref f6])), (f0, .inl (ca 0, 16, .inl (upd fd rn v1))), (f1, .inl (ca 0, 16, .inl lt))] hP hD
          refine lv_aload_n hx hb dX8_addLoss_64 rfl (lv_at hl 1 rfl) ?_
          refine va_get (D := (dC, dI)) (ci := 8) (v := .ref f1) (C := RX8) (T := TX8) (N := 7) hx hb hts inX8 hown hK hP 0 rfl rfl 1 (by decide) (hts _ mw_44) (fun _ h9 => h9) rfl dX8_addLoss_65 ?_
          refine lv_aload_n hx hb dX8_addLoss_68 rfl (lv_at hl 1 rfl) ?_
          refine va_get (D := (dC, dI)) (ci := 8) (v := .int (nI rn)) (C := RX8) (T := TX8) (N := 7) hx hb hts inX8 hown hK hP 0 rfl rfl 2 (by decide) (hts _ mw_45) (fun _ h9 => h9) rfl dX8_addLoss_69 ?_
          refine lv_iload_n hx hb dX8_addLoss_72 rfl (lv_at hl 3 rfl) ?_
          refine va_iast hx hb hK hP hD hS 2 0 rfl rfl (vp_in_nI (show rn < 16 by omega) (by first | decide | omega)) dX8_addLoss_73 (fun H locs hP hD hS => ?_)
          rw [(show ((nI rn) : Int32).toNatClampNeg = rn from nI_clamp (by omega))] at hP hD
          obtain ⟨hP, hD⟩ := va_bo [(h, .inr (8, [.ref f0, .ref f1, .int (nI rn), .int gl, .int gh, .ref f5, .ref f6])), (f0, .inl (ca 0, 16, .inl (upd fd rn v1))), (f1, .inl (ca 0, 16, .inl (upd lt rn v2)))] hP hD
          refine lv_aload_n hx hb dX8_addLoss_74 rfl (lv_at hl 1 rfl) ?_
          refine lv_dup hx hb dX8_addLoss_75 rfl ?_
          refine va_get (D := (dC, dI)) (ci := 8) (v := .int (nI rn)) (C := RX8) (T := TX8) (N := 7) hx hb hts inX8 hown hK hP 0 rfl rfl 2 (by decide) (hts _ mw_45) (fun _ h9 => h9) rfl dX8_addLoss_76 ?_
          refine lv_iconst (v := 1) hx hb dX8_addLoss_79 (by decide) ?_
          refine lv_iadd hx hb dX8_addLoss_80 ?_
          refine lv_topi (fun y_ e_ => ?_)
          obtain rfl : y_ = (nI (rn + 1)) := e_.trans (nI_add (rn) (1))
          refine va_put (D := (dC, dI)) (ci := 8) (v := .int (nI (rn + 1))) (ty := .int) (C := RX8) (T := TX8) (N := 7) hx hb hts inX8 tyX8 tyX8_ok nmX8 hown hK hP hD hS 0 rfl rfl 2 (by decide) (hts _ mw_45) (fun _ h9 => h9) rfl (by decide +kernel) rfl rfl (Nat.le_of_ble_eq_true rfl) dX8_addLoss_81 (fun H locs hP hD hS => ?_)
          obtain ⟨hP, hD⟩ := va_bo [(h, .inr (8, [.ref f0, .ref f1, .int (nI (rn + 1)), .int gl, .int gh, .ref f5, .ref f6])), (f0, .inl (ca 0, 16, .inl (upd fd rn v1))), (f1, .inl (ca 0, 16, .inl (upd lt rn v2)))] hP hD
          refine lv_aload_n hx hb dX8_addLoss_84 rfl (lv_at hl 1 rfl) ?_
          refine va_get (D := (dC, dI)) (ci := 8) (v := .int (nI (rn + 1))) (C := RX8) (T := TX8) (N := 7) hx hb hts inX8 hown hK hP 0 rfl rfl 2 (by decide) (hts _ mw_45) (fun _ h9 => h9) rfl dX8_addLoss_85 ?_
          refine W.widen (k := 0) (n := 0) (Nat.le_of_ble_eq_true rfl) (Nat.le_of_ble_eq_true rfl) ?_
          have hP9 : va_P (dC, dI) vwCl [(h, .inr (8, [.ref f0, .ref f1, .int (nI (rn + 1)), .int gl, .int gh, .ref f5, .ref f6])), (f0, .inl (ca 0, 16, .inl (upd fd rn v1))), (f1, .inl (ca 0, 16, .inl (upd lt rn v2)))] H := va_P.sub hP [0, 1, 2] rfl
          have hD9 : va_D A [(h, .inr (8, [.ref f0, .ref f1, .int (nI (rn + 1)), .int gl, .int gh, .ref f5, .ref f6])), (f0, .inl (ca 0, 16, .inl (upd fd rn v1))), (f1, .inl (ca 0, 16, .inl (upd lt rn v2)))] := va_D.sub hD [0, 1, 2] (by decide) rfl
          exact W.iret (v := (nI (rn + 1))) hx hb hr (fun t ht hW => ⟨⟨(nI (rn + 1)), (rn + 1, (upd fd rn v1), (upd lt rn v2)), rfl, ⟨by first | (exfalso; omega) | (unfold adL; simp [nc_1, c_5, nc_7, c_9]; done), by omega, by rw [if_neg (nI_nm2 (by omega))]; exact ⟨rfl, rfl, rfl⟩⟩, by rw [ht]; dsimp only; exact hP9, by dsimp only; exact hD9⟩, hS.F ht⟩) hS.2.2 dX8_addLoss_88
        · refine lv_iconst (v := (-1)) hx hb dX8_addLoss_52 (by decide) ?_
          refine W.widen (k := 0) (n := 0) (Nat.le_of_ble_eq_true rfl) (Nat.le_of_ble_eq_true rfl) ?_
          have hP9 : va_P (dC, dI) vwCl [(h, .inr (8, [.ref f0, .ref f1, .int (nI rn), .int gl, .int gh, .ref f5, .ref f6])), (f0, .inl (ca 0, 16, .inl fd)), (f1, .inl (ca 0, 16, .inl lt))] s.heap := va_P.sub hP [0, 1, 2] rfl
          have hD9 : va_D A [(h, .inr (8, [.ref f0, .ref f1, .int (nI rn), .int gl, .int gh, .ref f5, .ref f6])), (f0, .inl (ca 0, 16, .inl fd)), (f1, .inl (ca 0, 16, .inl lt))] := va_D.sub hD [0, 1, 2] (by decide) rfl
          exact W.iret (v := (-1)) hx hb hr (fun t ht hW => ⟨⟨(-1), (rn, fd, lt), rfl, ⟨by first | (exfalso; omega) | (unfold adL; simp [nc_1, c_5, nc_7, c_9]; done), hls, by rw [if_pos rfl]; exact ⟨rfl, rfl, rfl⟩⟩, by rw [ht]; dsimp only; exact hP9, by dsimp only; exact hD9⟩, hS.F ht⟩) hS.2.2 dX8_addLoss_53
