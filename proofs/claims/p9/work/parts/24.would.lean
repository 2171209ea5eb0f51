def kM (kn : Option Nat) (kl pm : Nat) : Nat := if kn.isNone = true ∨ kl < 2 ^ pm then 1 else 0
theorem kM_le (kn : Option Nat) (kl pm : Nat) : kM kn kl pm ≤ 1 := by unfold kM; split <;> omega
theorem kM_n (kl pm : Nat) : kM none kl pm = 1 := by unfold kM; rw [if_pos (Or.inl rfl)]
theorem kM_g (q : Nat) {kl pm : Nat} (h : kl < 2 ^ pm) : kM (some q) kl pm = 1 := by unfold kM; rw [if_pos (Or.inr h)]
theorem kM_s (q : Nat) {kl pm : Nat} (h : ¬ kl < 2 ^ pm) : kM (some q) kl pm = 0 := by unfold kM; rw [if_neg (by simp [h])]
theorem p14 {pm : Nat} (h : pm ≤ 14) : 2 ^ pm ≤ 16384 := by
  have := Nat.pow_le_pow_right (show 0 < 2 by decide) h
  omega

set_option maxHeartbeats 4000000 in
set_option maxRecDepth 100000 in
theorem q_insert (l : Launch) (dC : Nat → ClassId) (dI : Nat → Nat → Nat) (ca : Nat → ClassId) (sz : Nat) (h : Nat) (pwa : Nat) (pm : Nat) (lw : Int32) (hg : Int32) (pw : Nat → Int32) (kn : Option Nat) (v1 : Int32) (hp14 : pm < 14) : Met l yX5_insert (Cond.code yX5_insert cX5_insert 3 none :: gT) ({ frames := 1, cells := 0, slots := 0, locals := 60 }) (va_Pc [.ref h, .int v1] (pr (dC, dI) sz [(h, .inr (5, [.ref pwa, .int (nI pm), .int lw, .int hg, va_rf kn])), (pwa, .inl (ca 0, 14, .inl pw))] (aT ca))) (va_Qv (fun (u_ : (Nat → Int32)) => True) (fun (u_ : (Nat → Int32)) t => va_P (dC, dI) vwCl [(h, .inr (5, [.ref pwa, .int (nI (pm + 1)), .int lw, .int hg, va_rf kn])), (pwa, .inl (ca 0, 14, .inl u_))] t.heap ∧ va_D (va_A [(h, .inr (5, [.ref pwa, .int (nI pm), .int lw, .int hg, va_rf kn])), (pwa, .inl (ca 0, 14, .inl pw))] sz) [(h, .inr (5, [.ref pwa, .int (nI (pm + 1)), .int lw, .int hg, va_rf kn])), (pwa, .inl (ca 0, 14, .inl u_))]) (va_A [(h, .inr (5, [.ref pwa, .int (nI pm), .int lw, .int hg, va_rf kn])), (pwa, .inl (ca 0, 14, .inl pw))] sz)) 0 0 (va_A [(h, .inr (5, [.ref pwa, .int (nI pm), .int lw, .int hg, va_rf kn])), (pwa, .inl (ca 0, 14, .inl pw))] sz) := by
  refine Met.ofW (cc := cX5_insert) (maxL := 3) (ret := none) (by decide) rfl ?_
  intro p e s m args below meth c s₁ B hml hv
  obtain ⟨rfl, hsz, hP, hK, hD0, hE⟩ := hv
  have hx := B.exec
  have hb := B.bytes
  have hr := B.returns
  have hts : ∀ w ∈ gT, w.before _ s = true := fun w h => atoms_spec (ws := Cond.code yX5_insert cX5_insert 3 none :: gT) B.pre w (List.mem_cons_of_mem _ h)
  have hown : s.vm.findClass RX5 = some m.cls := findClass_of_methodNamed B.named
  have hlocks := B.notSynchronized
  subst hsz
  have hD := hD0.self (sz := s.heap.size)
  generalize hAe : va_A [(h, .inr (5, [.ref pwa, .int (nI pm), .int lw, .int hg, va_rf kn])), (pwa, .inl (ca 0, 14, .inl pw))] s.heap.size = A at hD ⊢
  have hA : ∀ q : Nat, s.heap.size ≤ q → A q := fun q h => by rw [← hAe]; exact Or.inr h
  have hS : va_S A s.heap s.heap [] := va_S.rf
  have hl := lv_entry ([.ref h, .int v1]) (n := 3) (Nat.le_of_ble_eq_true rfl)
  rw [lg_entry_eq]
  generalize (lg_sl ([.ref h, .int v1]) ++ List.replicate (3 - (lg_sl ([.ref h, .int v1])).length) Slot.unset).toArray = ls at hl ⊢
  have hl : lv_has ls 3 [(0, .ref h), (1, .int v1)] := hl
  refine lv_aload_n hx hb dX5_insert_0 rfl (lv_at hl 0 rfl) ?_
  refine va_get (D := (dC, dI)) (ci := 5) (v := .int (nI pm)) (C := RX5) (T := TX5) (N := 5) hx hb hts inX5 hown hK hP 0 rfl rfl 1 (by decide) (hts _ mw_185) (fun _ h9 => h9) rfl dX5_insert_1 ?_
  refine lv_istore_n (lv' := [(2, .int (nI pm)), (0, .ref h), (1, .int v1)]) hx hb dX5_insert_4 rfl hl (by decide) rfl (fun ls hl => ?_)
  refine wl_loop (fun (z_ : Nat × (Nat → Int32)) H locs ls => (z_.1 ≤ pm) ∧ va_P (dC, dI) vwCl [(h, .inr (5, [.ref pwa, .int (nI pm), .int lw, .int hg, va_rf kn])), (pwa, .inl (ca 0, 14, .inl z_.2))] H ∧ va_D A [(h, .inr (5, [.ref pwa, .int (nI pm), .int lw, .int hg, va_rf kn])), (pwa, .inl (ca 0, 14, .inl z_.2))] ∧ va_S A s.heap H locs ∧ lv_has ls 3 [(2, .int (nI z_.1)), (0, .ref h), (1, .int v1)]) (fun (z_ : Nat × (Nat → Int32)) => z_.1) (fun z_ H locs ls hI ih => ?_) (pm, pw) ⟨(Nat.le_refl _), hP, hD, hS, lv_sub hl [0, 1, 2] rfl⟩
  obtain ⟨i, w1_⟩ := z_
  dsimp only at hI ih
  obtain ⟨hi, hP, hD, hS, hl⟩ := hI
  refine lv_iload_n hx hb dX5_insert_5 rfl (lv_at hl 0 rfl) ?_
  refine lv_if_le (tgt := 41) hx hb dX5_insert_6 (by decide) (fun c_1 => ?_) (fun c_1 => ?_)
  · have nc_1 : i ≤ 0 := (nI_leI (a := i) (b := 0) (by omega) (by omega)).mp c_1
    refine lv_aload_n hx hb dX5_insert_41 rfl (lv_at hl 1 rfl) ?_
    refine va_get (D := (dC, dI)) (ci := 5) (v := .ref pwa) (C := RX5) (T := TX5) (N := 5) hx hb hts inX5 hown hK hP 0 rfl rfl 0 (by decide) (hts _ mw_184) (fun _ h9 => h9) rfl dX5_insert_42 ?_
    refine lv_iload_n hx hb dX5_insert_45 rfl (lv_at hl 0 rfl) ?_
    refine lv_iload_n hx hb dX5_insert_46 rfl (lv_at hl 2 rfl) ?_
    refine va_iast hx hb hK hP hD hS 1 0 rfl rfl (vp_in_nI (show i < 14 by omega) (by first | decide | omega)) dX5_insert_47 (fun H locs hP hD hS => ?_)
    rw [(show ((nI i) : Int32).toNatClampNeg = i from nI_clamp (by omega))] at hP hD
    have hP : va_P (dC, dI) vwCl [(h, .inr (5, [.ref pwa, .int (nI pm), .int lw, .int hg, va_rf kn])), (pwa, .inl (ca 0, 14, .inl (upd w1_ i v1)))] H := hP
    have hD : va_D A [(h, .inr (5, [.ref pwa, .int (nI pm), .int lw, .int hg, va_rf kn])), (pwa, .inl (ca 0, 14, .inl (upd w1_ i v1)))] := hD
    refine lv_aload_n hx hb dX5_insert_48 rfl (lv_at hl 1 rfl) ?_
    refine lv_dup hx hb dX5_insert_49 rfl ?_
    refine va_get (D := (dC, dI)) (ci := 5) (v := .int (nI pm)) (C := RX5) (T := TX5) (N := 5) hx hb hts inX5 hown hK hP 0 rfl rfl 1 (by decide) (hts _ mw_185) (fun _ h9 => h9) rfl dX5_insert_50 ?_
    refine lv_iconst (v := 1) hx hb dX5_insert_53 (by decide) ?_
    refine lv_iadd hx hb dX5_insert_54 ?_
    refine lv_topi (fun y_ e_ => ?_)
    obtain rfl : y_ = (nI (pm + 1)) := e_.trans (nI_add (pm) (1))
    refine va_put (D := (dC, dI)) (ci := 5) (v := .int (nI (pm + 1))) (ty := .int) (C := RX5) (T := TX5) (N := 5) hx hb hts inX5 tyX5 tyX5_ok nmX5 hown hK hP hD hS 0 rfl rfl 1 (by decide) (hts _ mw_185) (fun _ h9 => h9) rfl (by decide +kernel) rfl rfl (Nat.le_of_ble_eq_true rfl) dX5_insert_55 (fun H locs hP hD hS => ?_)
    have hP : va_P (dC, dI) vwCl [(h, .inr (5, [.ref pwa, .int (nI (pm + 1)), .int lw, .int hg, va_rf kn])), (pwa, .inl (ca 0, 14, .inl (upd w1_ i v1)))] H := hP
    have hD : va_D A [(h, .inr (5, [.ref pwa, .int (nI (pm + 1)), .int lw, .int hg, va_rf kn])), (pwa, .inl (ca 0, 14, .inl (upd w1_ i v1)))] := hD
    refine W.widen (k := 0) (n := 0) (Nat.le_of_ble_eq_true rfl) (Nat.le_of_ble_eq_true rfl) ?_
    have hP9 : va_P (dC, dI) vwCl [(h, .inr (5, [.ref pwa, .int (nI (pm + 1)), .int lw, .int hg, va_rf kn])), (pwa, .inl (ca 0, 14, .inl (upd w1_ i v1)))] H := va_P.sub hP [0, 1] rfl
    have hD9 : va_D A [(h, .inr (5, [.ref pwa, .int (nI (pm + 1)), .int lw, .int hg, va_rf kn])), (pwa, .inl (ca 0, 14, .inl (upd w1_ i v1)))] := va_D.sub hD [0, 1] (by decide) rfl
    exact W.vret hx hb hr (fun t ht hW => ⟨⟨(upd w1_ i v1), rfl, trivial, by rw [ht]; exact hP9, hD9⟩, hS.F ht⟩) hS.2.2 dX5_insert_58
  · have nc_1 : ¬ (i ≤ 0) := fun h9 => c_1 ((nI_leI (a := i) (b := 0) (by omega) (by omega)).mpr h9)
    refine lv_aload_n hx hb dX5_insert_9 rfl (lv_at hl 1 rfl) ?_
    refine va_get (D := (dC, dI)) (ci := 5) (v := .ref pwa) (C := RX5) (T := TX5) (N := 5) hx hb hts inX5 hown hK hP 0 rfl rfl 0 (by decide) (hts _ mw_184) (fun _ h9 => h9) rfl dX5_insert_10 ?_
    refine lv_iload_n hx hb dX5_insert_13 rfl (lv_at hl 0 rfl) ?_
    refine lv_iconst (v := 1) hx hb dX5_insert_14 (by decide) ?_
    refine lv_isub hx hb dX5_insert_15 ?_
    refine lv_topi (fun y_ e_ => ?_)
    obtain rfl : y_ = (nI (i - 1)) := e_.trans (pk_sub (show 1 ≤ i by omega))
    refine va_iald hx hb hK hP 1 0 rfl rfl (vp_in_nI (show i - 1 < 14 by omega) (by first | decide | omega)) dX5_insert_16 ?_
    refine lv_topi (fun y_ e_ => ?_)
    obtain rfl : y_ = (w1_ (i - 1)) := e_.trans (congrArg w1_ (show ((nI (i - 1)) : Int32).toNatClampNeg = i - 1 from nI_clamp (by omega)))
    refine lv_iload_n hx hb dX5_insert_17 rfl (lv_at hl 2 rfl) ?_
    refine lv_icmp_ge (tgt := 41) hx hb dX5_insert_18 (by decide) (fun c_2 => ?_) (fun c_2 => ?_)
    · refine lv_aload_n hx hb dX5_insert_41 rfl (lv_at hl 1 rfl) ?_
      refine va_get (D := (dC, dI)) (ci := 5) (v := .ref pwa) (C := RX5) (T := TX5) (N := 5) hx hb hts inX5 hown hK hP 0 rfl rfl 0 (by decide) (hts _ mw_184) (fun _ h9 => h9) rfl dX5_insert_42 ?_
      refine lv_iload_n hx hb dX5_insert_45 rfl (lv_at hl 0 rfl) ?_
      refine lv_iload_n hx hb dX5_insert_46 rfl (lv_at hl 2 rfl) ?_
      refine va_iast hx hb hK hP hD hS 1 0 rfl rfl (vp_in_nI (show i < 14 by omega) (by first | decide | omega)) dX5_insert_47 (fun H locs hP hD hS => ?_)
      rw [(show ((nI i) : Int32).toNatClampNeg = i from nI_clamp (by omega))] at hP hD
      have hP : va_P (dC, dI) vwCl [(h, .inr (5, [.ref pwa, .int (nI pm), .int lw, .int hg, va_rf kn])), (pwa, .inl (ca 0, 14, .inl (upd w1_ i v1)))] H := hP
      have hD : va_D A [(h, .inr (5, [.ref pwa, .int (nI pm), .int lw, .int hg, va_rf kn])), (pwa, .inl (ca 0, 14, .inl (upd w1_ i v1)))] := hD
      refine lv_aload_n hx hb dX5_insert_48 rfl (lv_at hl 1 rfl) ?_
      refine lv_dup hx hb dX5_insert_49 rfl ?_
      refine va_get (D := (dC, dI)) (ci := 5) (v := .int (nI pm)) (C := RX5) (T := TX5) (N := 5) hx hb hts inX5 hown hK hP 0 rfl rfl 1 (by decide) (hts _ mw_185) (fun _ h9 => h9) rfl dX5_insert_50 ?_
      refine lv_iconst (v := 1) hx hb dX5_insert_53 (by decide) ?_
      refine lv_iadd hx hb dX5_insert_54 ?_
      refine lv_topi (fun y_ e_ => ?_)
      obtain rfl : y_ = (nI (pm + 1)) := e_.trans (nI_add (pm) (1))
      refine va_put (D := (dC, dI)) (ci := 5) (v := .int (nI (pm + 1))) (ty := .int) (C := RX5) (T := TX5) (N := 5) hx hb hts inX5 tyX5 tyX5_ok nmX5 hown hK hP hD hS 0 rfl rfl 1 (by decide) (hts _ mw_185) (fun _ h9 => h9) rfl (by decide +kernel) rfl rfl (Nat.le_of_ble_eq_true rfl) dX5_insert_55 (fun H locs hP hD hS => ?_)
      have hP : va_P (dC, dI) vwCl [(h, .inr (5, [.ref pwa, .int (nI (pm + 1)), .int lw, .int hg, va_rf kn])), (pwa, .inl (ca 0, 14, .inl (upd w1_ i v1)))] H := hP
      have hD : va_D A [(h, .inr (5, [.ref pwa, .int (nI (pm + 1)), .int lw, .int hg, va_rf kn])), (pwa, .inl (ca 0, 14, .inl (upd w1_ i v1)))] := hD
      refine W.widen (k := 0) (n := 0) (Nat.le_of_ble_eq_true rfl) (Nat.le_of_ble_eq_true rfl) ?_
      have hP9 : va_P (dC, dI) vwCl [(h, .inr (5, [.ref pwa, .int (nI (pm + 1)), .int lw, .int hg, va_rf kn])), (pwa, .inl (ca 0, 14, .inl (upd w1_ i v1)))] H := va_P.sub hP [0, 1] rfl
      have hD9 : va_D A [(h, .inr (5, [.ref pwa, .int (nI (pm + 1)), .int lw, .int hg, va_rf kn])), (pwa, .inl (ca 0, 14, .inl (upd w1_ i v1)))] := va_D.sub hD [0, 1] (by decide) rfl
      exact W.vret hx hb hr (fun t ht hW => ⟨⟨(upd w1_ i v1), rfl, trivial, by rw [ht]; exact hP9, hD9⟩, hS.F ht⟩) hS.2.2 dX5_insert_58
    · refine lv_aload_n hx hb dX5_insert_21 rfl (lv_at hl 1 rfl) ?_
      refine va_get (D := (dC, dI)) (ci := 5) (v := .ref pwa) (C := RX5) (T := TX5) (N := 5) hx hb hts inX5 hown hK hP 0 rfl rfl 0 (by decide) (hts _ mw_184) (fun _ h9 => h9) rfl dX5_insert_22 ?_
      refine lv_iload_n hx hb dX5_insert_25 rfl (lv_at hl 0 rfl) ?_
      refine lv_aload_n hx hb dX5_insert_26 rfl (lv_at hl 1 rfl) ?_
      refine va_get (D := (dC, dI)) (ci := 5) (v := .ref pwa) (C := RX5) (T := TX5) (N := 5) hx hb hts inX5 hown hK hP 0 rfl rfl 0 (by decide) (hts _ mw_184) (fun _ h9 => h9) rfl dX5_insert_27 ?_
      refine lv_iload_n hx hb dX5_insert_30 rfl (lv_at hl 0 rfl) ?_
      refine lv_iconst (v := 1) hx hb dX5_insert_31 (by decide) ?_
      refine lv_isub hx hb dX5_insert_32 ?_
      refine lv_topi (fun y_ e_ => ?_)
      obtain rfl : y_ = (nI (i - 1)) := e_.trans (pk_sub (show 1 ≤ i by omega))
      refine va_iald hx hb hK hP 1 0 rfl rfl (vp_in_nI (show i - 1 < 14 by omega) (by first | decide | omega)) dX5_insert_33 ?_
      refine lv_topi (fun y_ e_ => ?_)
      obtain rfl : y_ = (w1_ (i - 1)) := e_.trans (congrArg w1_ (show ((nI (i - 1)) : Int32).toNatClampNeg = i - 1 from nI_clamp (by omega)))
      refine va_iast hx hb hK hP hD hS 1 0 rfl rfl (vp_in_nI (show i < 14 by omega) (by first | decide | omega)) dX5_insert_34 (fun H locs hP hD hS => ?_)
      rw [(show ((nI i) : Int32).toNatClampNeg = i from nI_clamp (by omega))] at hP hD
      have hP : va_P (dC, dI) vwCl [(h, .inr (5, [.ref pwa, .int (nI pm), .int lw, .int hg, va_rf kn])), (pwa, .inl (ca 0, 14, .inl (upd w1_ i (w1_ (i - 1)))))] H := hP
      have hD : va_D A [(h, .inr (5, [.ref pwa, .int (nI pm), .int lw, .int hg, va_rf kn])), (pwa, .inl (ca 0, 14, .inl (upd w1_ i (w1_ (i - 1)))))] := hD
      refine lv_iinc (v := (nI (i - 1))) (lv' := [(2, .int (nI (i - 1))), (0, .ref h), (1, .int v1)]) hx hb dX5_insert_35 hl (k := 0) rfl (nI_dec (by omega)) (by decide) rfl (fun ls hl => ?_)
      refine lv_goto (tgt := 5) hx hb dX5_insert_38 (by decide) ?_
      exact ih (i - 1, (upd w1_ i (w1_ (i - 1)))) _ _ _ (by omega) ⟨(by omega), hP, hD, hS, lv_sub hl [0, 1, 2] rfl⟩

set_option maxHeartbeats 4000000 in
set_option maxRecDepth 100000 in
theorem q_forget (l : Launch) (dC : Nat → ClassId) (dI : Nat → Nat → Nat) (ca : Nat → ClassId) (sz : Nat) (h : Nat) (pwa : Nat) (pm : Nat) (lw : Int32) (hg : Int32) (sm : Option Nat) (SM : Nat → Int64) (kn : Option Nat) (kl : Nat) (KN : Nat → Int32) (tl : va_W) (hpm : pm ≤ 14) (hkx : kl ≤ 16384) : Met l yX5_forget (Cond.code yX5_forget cX5_forget 3 none :: gT) ({ frames := 1, cells := (kM kn kl pm), slots := (16384 * kM kn kl pm), locals := 60 }) (va_Pc [.ref h] (pr (dC, dI) sz ([(h, .inr (5, [.ref pwa, .int (nI pm), .int lw, .int hg, va_rf kn]))] ++ (oS ca sm SM ++ (oK ca kn kl KN ++ tl))) (aT ca))) (va_Qv (fun (u_ : Nat × Nat × (Nat → Int32)) => 2 ^ pm ≤ u_.2.1 ∧ u_.2.1 ≤ 16384 ∧ u_.2.1 = (if kM kn kl pm = 1 then 2 ^ pm else kl)) (fun (u_ : Nat × Nat × (Nat → Int32)) t => va_P (dC, dI) vwCl ([(h, .inr (5, [.ref pwa, .int (nI pm), .int lw, .int hg, .ref u_.1])), (u_.1, .inl (ca 2, u_.2.1, .inl u_.2.2))] ++ (oS ca sm SM ++ tl)) t.heap ∧ va_D (va_A ([(h, .inr (5, [.ref pwa, .int (nI pm), .int lw, .int hg, va_rf kn]))] ++ (oS ca sm SM ++ (oK ca kn kl KN ++ tl))) sz) ([(h, .inr (5, [.ref pwa, .int (nI pm), .int lw, .int hg, .ref u_.1])), (u_.1, .inl (ca 2, u_.2.1, .inl u_.2.2))] ++ (oS ca sm SM ++ tl))) (va_A ([(h, .inr (5, [.ref pwa, .int (nI pm), .int lw, .int hg, va_rf kn]))] ++ (oS ca sm SM ++ (oK ca kn kl KN ++ tl))) sz)) (kM kn kl pm) (16384 * kM kn kl pm) (va_A ([(h, .inr (5, [.ref pwa, .int (nI pm), .int lw, .int hg, va_rf kn]))] ++ (oS ca sm SM ++ (oK ca kn kl KN ++ tl))) sz) := by
  refine Met.ofW (cc := cX5_forget) (maxL := 3) (ret := none) (by decide) rfl ?_
  intro p e s m args below meth c s₁ B hml hv
  obtain ⟨rfl, hsz, hP, hK, hD0, hE⟩ := hv
  have hx := B.exec
  have hb := B.bytes
  have hr := B.returns
  have hts : ∀ w ∈ gT, w.before _ s = true := fun w h => atoms_spec (ws := Cond.code yX5_forget cX5_forget 3 none :: gT) B.pre w (List.mem_cons_of_mem _ h)
  have hown : s.vm.findClass RX5 = some m.cls := findClass_of_methodNamed B.named
  have hlocks := B.notSynchronized
  subst hsz
  have hD := hD0.self (sz := s.heap.size)
  generalize hAe : va_A ([(h, .inr (5, [.ref pwa, .int (nI pm), .int lw, .int hg, va_rf kn]))] ++ (oS ca sm SM ++ (oK ca kn kl KN ++ tl))) s.heap.size = A at hD ⊢
  have hA : ∀ q : Nat, s.heap.size ≤ q → A q := fun q h => by rw [← hAe]; exact Or.inr h
  have hS : va_S A s.heap s.heap [] := va_S.rf
  have hl := lv_entry ([.ref h]) (n := 3) (Nat.le_of_ble_eq_true rfl)
  rw [lg_entry_eq]
  generalize (lg_sl ([.ref h]) ++ List.replicate (3 - (lg_sl ([.ref h])).length) Slot.unset).toArray = ls at hl ⊢
  have hl : lv_has ls 3 [(0, .ref h)] := hl
  have hp2 := p14 hpm
  have hp0 := Nat.two_pow_pos pm
  refine lv_iconst (v := 1) hx hb dX5_forget_0 (by decide) ?_
  refine lv_aload_n hx hb dX5_forget_1 rfl (lv_at hl 0 rfl) ?_
  refine va_get (D := (dC, dI)) (ci := 5) (v := .int (nI pm)) (C := RX5) (T := TX5) (N := 5) hx hb hts inX5 hown hK hP 0 rfl rfl 1 (by decide) (hts _ mw_185) (fun _ h9 => h9) rfl dX5_forget_2 ?_
  refine lv_ishl hx hb dX5_forget_5 ?_
  refine lv_topi (fun y_ e_ => ?_)
  obtain rfl : y_ = (nI (2 ^ pm)) := e_.trans (tb_sh (by omega))
  refine lv_istore_n (lv' := [(1, .int (nI (2 ^ pm))), (0, .ref h)]) hx hb dX5_forget_6 rfl hl (by decide) rfl (fun ls hl => ?_)
  refine lv_aload_n hx hb dX5_forget_7 rfl (lv_at hl 1 rfl) ?_
  refine va_get (D := (dC, dI)) (ci := 5) (v := va_rf kn) (C := RX5) (T := TX5) (N := 5) hx hb hts inX5 hown hK hP 0 rfl rfl 4 (by decide) (hts _ mw_188) (fun _ h9 => h9) rfl dX5_forget_8 ?_
  cases kn with
  | none =>
    have hl : lv_has ls 3 [(1, .int (nI (2 ^ pm))), (0, .ref h)] := hl
    refine W.eq (g2 := F0 m 11 ls [.null]) rfl ?_
    refine lv_ifnullN (tgt := 23) hx hb dX5_forget_11 (by decide) ?_
    have hP : va_P (dC, dI) vwCl ([(h, .inr (5, [.ref pwa, .int (nI pm), .int lw, .int hg, .null]))] ++ (oS ca sm SM ++ tl)) s.heap := hP
    have hD : va_D A ([(h, .inr (5, [.ref pwa, .int (nI pm), .int lw, .int hg, .null]))] ++ (oS ca sm SM ++ tl)) := hD
    have hkM := kM_n kl pm
    refine lv_aload_n hx hb dX5_forget_23 rfl (lv_at hl 1 rfl) ?_
    refine lv_iload_n hx hb dX5_forget_24 rfl (lv_at hl 0 rfl) ?_
    refine va_newa (atype := .byte) (ty := .byte) (a0 := ((2 ^ pm), .inl (fun _ => 0))) hx hb (hts _ mw_761) rfl hK hP hD hS hA (fun _ => rfl) (nI_pos (by omega)) (nI_clamp (by omega)) (by show (2 ^ pm) * 1 ≤ 536870912; omega) (by show (0 + 1) ≤ (kM none kl pm); omega) (by show (0 + (2 ^ pm)) ≤ (16384 * kM none kl pm); omega) dX5_forget_25 (fun q2 y2 H hK9 hP hD hS => ?_)
    obtain rfl : y2 = ca 2 := ca_eq hK9 (tys := aT ca) 2 rfl
    have hP := va_P.swap (a := [(h, .inr (5, [.ref pwa, .int (nI pm), .int lw, .int hg, .null]))]) hP
    have hD := va_D.swap (a := [(h, .inr (5, [.ref pwa, .int (nI pm), .int lw, .int hg, .null]))]) hD
    have hP : va_P (dC, dI) vwCl ([(h, .inr (5, [.ref pwa, .int (nI pm), .int lw, .int hg, .null])), (q2, .inl (ca 2, (2 ^ pm), .inl (fun _ => 0)))] ++ (oS ca sm SM ++ tl)) H := hP
    have hD : va_D A ([(h, .inr (5, [.ref pwa, .int (nI pm), .int lw, .int hg, .null])), (q2, .inl (ca 2, (2 ^ pm), .inl (fun _ => 0)))] ++ (oS ca sm SM ++ tl)) := hD
    refine va_put (D := (dC, dI)) (ci := 5) (v := .ref q2) (ty := .array .byte) (C := RX5) (T := TX5) (N := 5) hx hb hts inX5 tyX5 tyX5_ok nmX5 hown hK hP hD hS 0 rfl rfl 4 (by decide) (hts _ mw_188) (fun _ h9 => h9) rfl (by decide +kernel) rfl rfl (Nat.le_of_ble_eq_true rfl) dX5_forget_27 (fun H locs hP hD hS => ?_)
    have hP : va_P (dC, dI) vwCl ([(h, .inr (5, [.ref pwa, .int (nI pm), .int lw, .int hg, .ref q2])), (q2, .inl (ca 2, (2 ^ pm), .inl (fun _ => 0)))] ++ (oS ca sm SM ++ tl)) H := hP
    have hD : va_D A ([(h, .inr (5, [.ref pwa, .int (nI pm), .int lw, .int hg, .ref q2])), (q2, .inl (ca 2, (2 ^ pm), .inl (fun _ => 0)))] ++ (oS ca sm SM ++ tl)) := hD
    refine lv_iconst (v := 0) hx hb dX5_forget_30 (by decide) ?_
    refine lv_istore_n (lv' := [(2, .int 0), (1, .int (nI (2 ^ pm))), (0, .ref h)]) hx hb dX5_forget_31 rfl hl (by decide) rfl (fun ls hl => ?_)
    refine wl_loop (fun (z_ : Nat × (Nat → Int32)) H locs ls => (z_.1 ≤ 2 ^ pm) ∧ va_P (dC, dI) vwCl ([(h, .inr (5, [.ref pwa, .int (nI pm), .int lw, .int hg, .ref q2])), (q2, .inl (ca 2, (2 ^ pm), .inl z_.2))] ++ (oS ca sm SM ++ tl)) H ∧ va_D A ([(h, .inr (5, [.ref pwa, .int (nI pm), .int lw, .int hg, .ref q2])), (q2, .inl (ca 2, (2 ^ pm), .inl z_.2))] ++ (oS ca sm SM ++ tl)) ∧ va_S A s.heap H locs ∧ lv_has ls 3 [(2, .int (nI z_.1)), (1, .int (nI (2 ^ pm))), (0, .ref h)]) (fun (z_ : Nat × (Nat → Int32)) => 2 ^ pm - z_.1) (fun z_ H locs ls hI ih => ?_) (0, (fun _ => 0)) ⟨(Nat.zero_le _), hP, hD, hS, lv_sub hl [0, 1, 2] rfl⟩
    obtain ⟨i, K1⟩ := z_
    dsimp only at hI ih
    obtain ⟨hi, hP, hD, hS, hl⟩ := hI
    refine lv_iload_n hx hb dX5_forget_32 rfl (lv_at hl 0 rfl) ?_
    refine lv_iload_n hx hb dX5_forget_33 rfl (lv_at hl 1 rfl) ?_
    refine lv_icmp_ge (tgt := 50) hx hb dX5_forget_34 (by decide) (fun c_3 => ?_) (fun c_3 => ?_)
    · have nc_3 : 2 ^ pm ≤ i := (nI_leI (a := 2 ^ pm) (b := i) (by omega) (by omega)).mp c_3
      refine W.widen (k := (kM none kl pm)) (n := (16384 * kM none kl pm)) (by omega) (by omega) ?_
      have hP9 : va_P (dC, dI) vwCl ([(h, .inr (5, [.ref pwa, .int (nI pm), .int lw, .int hg, .ref q2])), (q2, .inl (ca 2, (2 ^ pm), .inl K1))] ++ (oS ca sm SM ++ tl)) H := va_P.part (X := [(h, .inr (5, [.ref pwa, .int (nI pm), .int lw, .int hg, .ref q2])), (q2, .inl (ca 2, (2 ^ pm), .inl K1))]) hP [0, 1] rfl
      have hD9 : va_D A ([(h, .inr (5, [.ref pwa, .int (nI pm), .int lw, .int hg, .ref q2])), (q2, .inl (ca 2, (2 ^ pm), .inl K1))] ++ (oS ca sm SM ++ tl)) := va_D.part (X := [(h, .inr (5, [.ref pwa, .int (nI pm), .int lw, .int hg, .ref q2])), (q2, .inl (ca 2, (2 ^ pm), .inl K1))]) hD [0, 1] (by decide) rfl
      exact W.vret hx hb hr (fun t ht hW => ⟨⟨(q2, (2 ^ pm), K1), rfl, ⟨Nat.le_refl _, p14 hpm, by rw [hkM, if_pos rfl]⟩, by rw [ht]; exact hP9, hD9⟩, hS.F ht⟩) hS.2.2 dX5_forget_50
    · have nc_3 : ¬ (2 ^ pm ≤ i) := fun h9 => c_3 ((nI_leI (a := 2 ^ pm) (b := i) (by omega) (by omega)).mpr h9)
      refine lv_aload_n hx hb dX5_forget_37 rfl (lv_at hl 2 rfl) ?_
      refine va_get (D := (dC, dI)) (ci := 5) (v := .ref q2) (C := RX5) (T := TX5) (N := 5) hx hb hts inX5 hown hK hP 0 rfl rfl 4 (by decide) (hts _ mw_188) (fun _ h9 => h9) rfl dX5_forget_38 ?_
      refine lv_iload_n hx hb dX5_forget_41 rfl (lv_at hl 0 rfl) ?_
      refine lv_iconst (v := (-1)) hx hb dX5_forget_42 (by decide) ?_
      refine va_bast hx hb hK hP hD hS 1 2 rfl rfl (vp_in_nI (show i < (2 ^ pm) by omega) (by first | decide | omega)) dX5_forget_43 (fun H locs hP hD hS => ?_)
      rw [(show ((nI i) : Int32).toNatClampNeg = i from nI_clamp (by omega))] at hP hD
      have hP : va_P (dC, dI) vwCl ([(h, .inr (5, [.ref pwa, .int (nI pm), .int lw, .int hg, .ref q2])), (q2, .inl (ca 2, (2 ^ pm), .inl (upd K1 i (vp_nar .byte (-1)))))] ++ (oS ca sm SM ++ tl)) H := hP
      have hD : va_D A ([(h, .inr (5, [.ref pwa, .int (nI pm), .int lw, .int hg, .ref q2])), (q2, .inl (ca 2, (2 ^ pm), .inl (upd K1 i (vp_nar .byte (-1)))))] ++ (oS ca sm SM ++ tl)) := hD
      refine lv_iinc (v := (nI (i + 1))) (lv' := [(2, .int (nI (i + 1))), (1, .int (nI (2 ^ pm))), (0, .ref h)]) hx hb dX5_forget_44 hl (k := 0) rfl (nI_add (i) 1) (by decide) rfl (fun ls hl => ?_)
      refine lv_goto (tgt := 32) hx hb dX5_forget_47 (by decide) ?_
      exact ih (i + 1, (upd K1 i (vp_nar .byte (-1)))) _ _ _ (by omega) ⟨(by omega), hP, hD, hS, lv_sub hl [0, 1, 2] rfl⟩
  | some b1 =>
    have hl : lv_has ls 3 [(1, .int (nI (2 ^ pm))), (0, .ref h)] := hl
    refine W.eq (g2 := F0 m 11 ls [.ref b1]) rfl ?_
    refine lv_ifnull hx hb dX5_forget_11 ?_
    have hP := va_fo (X := [(h, .inr (5, [.ref pwa, .int (nI pm), .int lw, .int hg, .ref b1]))]) (tl1 (List.Perm.refl _)) hP
    have hD := va_fo_D (X := [(h, .inr (5, [.ref pwa, .int (nI pm), .int lw, .int hg, .ref b1]))]) (tl1 (List.Perm.refl _)) hD
    have hP : va_P (dC, dI) vwCl ([(h, .inr (5, [.ref pwa, .int (nI pm), .int lw, .int hg, .ref b1])), (b1, .inl (ca 2, kl, .inl KN))] ++ (oS ca sm SM ++ tl)) s.heap := hP
    have hD : va_D A ([(h, .inr (5, [.ref pwa, .int (nI pm), .int lw, .int hg, .ref b1])), (b1, .inl (ca 2, kl, .inl KN))] ++ (oS ca sm SM ++ tl)) := hD
    refine lv_aload_n hx hb dX5_forget_14 rfl (lv_at hl 1 rfl) ?_
    refine va_get (D := (dC, dI)) (ci := 5) (v := .ref b1) (C := RX5) (T := TX5) (N := 5) hx hb hts inX5 hown hK hP 0 rfl rfl 4 (by decide) (hts _ mw_188) (fun _ h9 => h9) rfl dX5_forget_15 ?_
    refine va_alen (v := (nI kl)) hx hb hK hP 1 2 rfl rfl rfl dX5_forget_18 ?_
    refine lv_iload_n hx hb dX5_forget_19 rfl (lv_at hl 0 rfl) ?_
    refine lv_icmp_ge (tgt := 30) hx hb dX5_forget_20 (by decide) (fun c_4 => ?_) (fun c_4 => ?_)
    · have nc_4 : 2 ^ pm ≤ kl := (nI_leI (a := 2 ^ pm) (b := kl) (by omega) (by omega)).mp c_4
      refine lv_iconst (v := 0) hx hb dX5_forget_30 (by decide) ?_
      refine lv_istore_n (lv' := [(2, .int 0), (1, .int (nI (2 ^ pm))), (0, .ref h)]) hx hb dX5_forget_31 rfl hl (by decide) rfl (fun ls hl => ?_)
      refine wl_loop (fun (z_ : Nat × (Nat → Int32)) H locs ls => (z_.1 ≤ 2 ^ pm) ∧ va_P (dC, dI) vwCl ([(h, .inr (5, [.ref pwa, .int (nI pm), .int lw, .int hg, .ref b1])), (b1, .inl (ca 2, kl, .inl z_.2))] ++ (oS ca sm SM ++ tl)) H ∧ va_D A ([(h, .inr (5, [.ref pwa, .int (nI pm), .int lw, .int hg, .ref b1])), (b1, .inl (ca 2, kl, .inl z_.2))] ++ (oS ca sm SM ++ tl)) ∧ va_S A s.heap H locs ∧ lv_has ls 3 [(2, .int (nI z_.1)), (1, .int (nI (2 ^ pm))), (0, .ref h)]) (fun (z_ : Nat × (Nat → Int32)) => 2 ^ pm - z_.1) (fun z_ H locs ls hI ih => ?_) (0, KN) ⟨(Nat.zero_le _), hP, hD, hS, lv_sub hl [0, 1, 2] rfl⟩
      obtain ⟨i, K1⟩ := z_
      dsimp only at hI ih
      obtain ⟨hi, hP, hD, hS, hl⟩ := hI
      refine lv_iload_n hx hb dX5_forget_32 rfl (lv_at hl 0 rfl) ?_
      refine lv_iload_n hx hb dX5_forget_33 rfl (lv_at hl 1 rfl) ?_
      refine lv_icmp_ge (tgt := 50) hx hb dX5_forget_34 (by decide) (fun c_5 => ?_) (fun c_5 => ?_)
      · have nc_5 : 2 ^ pm ≤ i := (nI_leI (a := 2 ^ pm) (b := i) (by omega) (by omega)).mp c_5
        refine W.widen (k := (kM (some b1) kl pm)) (n := (16384 * kM (some b1) kl pm)) (by omega) (by omega) ?_
        have hP9 : va_P (dC, dI) vwCl ([(h, .inr (5, [.ref pwa, .int (nI pm), .int lw, .int hg, .ref b1])), (b1, .inl (ca 2, kl, .inl K1))] ++ (oS ca sm SM ++ tl)) H := va_P.part (X := [(h, .inr (5, [.ref pwa, .int (nI pm), .int lw, .int hg, .ref b1])), (b1, .inl (ca 2, kl, .inl K1))]) hP [0, 1] rfl
        have hD9 : va_D A ([(h, .inr (5, [.ref pwa, .int (nI pm), .int lw, .int hg, .ref b1])), (b1, .inl (ca 2, kl, .inl K1))] ++ (oS ca sm SM ++ tl)) := va_D.part (X := [(h, .inr (5, [.ref pwa, .int (nI pm), .int lw, .int hg, .ref b1])), (b1, .inl (ca 2, kl, .inl K1))]) hD [0, 1] (by decide) rfl
        exact W.vret hx hb hr (fun t ht hW => ⟨⟨(b1, kl, K1), rfl, ⟨by omega, hkx, by rw [kM_s b1 (by omega), if_neg (by decide)]⟩, by rw [ht]; exact hP9, hD9⟩, hS.F ht⟩) hS.2.2 dX5_forget_50
      · have nc_5 : ¬ (2 ^ pm ≤ i) := fun h9 => c_5 ((nI_leI (a := 2 ^ pm) (b := i) (by omega) (by omega)).mpr h9)
        refine lv_aload_n hx hb dX5_forget_37 rfl (lv_at hl 2 rfl) ?_
        refine va_get (D := (dC, dI)) (ci := 5) (v := .ref b1) (C := RX5) (T := TX5) (N := 5) hx hb hts inX5 hown hK hP 0 rfl rfl 4 (by decide) (hts _ mw_188) (fun _ h9 => h9) rfl dX5_forget_38 ?_
        refine lv_iload_n hx hb dX5_forget_41 rfl (lv_at hl 0 rfl) ?_
        refine lv_iconst (v := (-1)) hx hb dX5_forget_42 (by decide) ?_
        refine va_bast hx hb hK hP hD hS 1 2 rfl rfl (vp_in_nI (show i < kl by omega) (by first | decide | omega)) dX5_forget_43 (fun H locs hP hD hS => ?_)
        rw [(show ((nI i) : Int32).toNatClampNeg = i from nI_clamp (by omega))] at hP hD
        have hP : va_P (dC, dI) vwCl ([(h, .inr (5, [.ref pwa, .int (nI pm), .int lw, .int hg, .ref b1])), (b1, .inl (ca 2, kl, .inl (upd K1 i (vp_nar .byte (-1)))))] ++ (oS ca sm SM ++ tl)) H := hP
        have hD : va_D A ([(h, .inr (5, [.ref pwa, .int (nI pm), .int lw, .int hg, .ref b1])), (b1, .inl (ca 2, kl, .inl (upd K1 i (vp_nar .byte (-1)))))] ++ (oS ca sm SM ++ tl)) := hD
        refine lv_iinc (v := (nI (i + 1))) (lv' := [(2, .int (nI (i + 1))), (1, .int (nI (2 ^ pm))), (0, .ref h)]) hx hb dX5_forget_44 hl (k := 0) rfl (nI_add (i) 1) (by decide) rfl (fun ls hl => ?_)
        refine lv_goto (tgt := 32) hx hb dX5_forget_47 (by decide) ?_
        exact ih (i + 1, (upd K1 i (vp_nar .byte (-1)))) _ _ _ (by omega) ⟨(by omega), hP, hD, hS, lv_sub hl [0, 1, 2] rfl⟩
    · have nc_4 : ¬ (2 ^ pm ≤ kl) := fun h9 => c_4 ((nI_leI (a := 2 ^ pm) (b := kl) (by omega) (by omega)).mpr h9)
      have hkM := kM_g b1 (show kl < 2 ^ pm by omega)
      refine lv_aload_n hx hb dX5_forget_23 rfl (lv_at hl 1 rfl) ?_
      refine lv_iload_n hx hb dX5_forget_24 rfl (lv_at hl 0 rfl) ?_
      refine va_newa (atype := .byte) (ty := .byte) (a0 := ((2 ^ pm), .inl (fun _ => 0))) hx hb (hts _ mw_761) rfl hK hP hD hS hA (fun _ => rfl) (nI_pos (by omega)) (nI_clamp (by omega)) (by show (2 ^ pm) * 1 ≤ 536870912; omega) (by show (0 + 1) ≤ (kM (some b1) kl pm); omega) (by show (0 + (2 ^ pm)) ≤ (16384 * kM (some b1) kl pm); omega) dX5_forget_25 (fun q6 y6 H hK9 hP hD hS => ?_)
      obtain rfl : y6 = ca 2 := ca_eq hK9 (tys := aT ca) 2 rfl
      have hP := va_P.swap (a := [(h, .inr (5, [.ref pwa, .int (nI pm), .int lw, .int hg, .ref b1])), (b1, .inl (ca 2, kl, .inl KN))]) hP
      have hD := va_D.swap (a := [(h, .inr (5, [.ref pwa, .int (nI pm), .int lw, .int hg, .ref b1])), (b1, .inl (ca 2, kl, .inl KN))]) hD
      have hP : va_P (dC, dI) vwCl ([(h, .inr (5, [.ref pwa, .int (nI pm), .int lw, .int hg, .ref b1])), (b1, .inl (ca 2, kl, .inl KN)), (q6, .inl (ca 2, (2 ^ pm), .inl (fun _ => 0)))] ++ (oS ca sm SM ++ tl)) H := hP
      have hD : va_D A ([(h, .inr (5, [.ref pwa, .int (nI pm), .int lw, .int hg, .ref b1])), (b1, .inl (ca 2, kl, .inl KN)), (q6, .inl (ca 2, (2 ^ pm), .inl (fun _ => 0)))] ++ (oS ca sm SM ++ tl)) := hD
      refine va_put (D := (dC, dI)) (ci := 5) (v := .ref q6) (ty := .array .byte) (C := RX5) (T := TX5) (N := 5) hx hb hts inX5 tyX5 tyX5_ok nmX5 hown hK hP hD hS 0 rfl rfl 4 (by decide) (hts _ mw_188) (fun _ h9 => h9) rfl (by decide +kernel) rfl rfl (Nat.le_of_ble_eq_true rfl) dX5_forget_27 (fun H locs hP hD hS => ?_)
      have hP : va_P (dC, dI) vwCl ([(h, .inr (5, [.ref pwa, .int (nI pm), .int lw, .int hg, .ref q6])), (b1, .inl (ca 2, kl, .inl KN)), (q6, .inl (ca 2, (2 ^ pm), .inl (fun _ => 0)))] ++ (oS ca sm SM ++ tl)) H := hP
      have hD : va_D A ([(h, .inr (5, [.ref pwa, .int (nI pm), .int lw, .int hg, .ref q6])), (b1, .inl (ca 2, kl, .inl KN)), (q6, .inl (ca 2, (2 ^ pm), .inl (fun _ => 0)))] ++ (oS ca sm SM ++ tl)) := hD
      refine lv_iconst (v := 0) hx hb dX5_forget_30 (by decide) ?_
      refine lv_istore_n (lv' := [(2, .int 0), (1, .int (nI (2 ^ pm))), (0, .ref h)]) hx hb dX5_forget_31 rfl hl (by decide) rfl (fun ls hl => ?_)
      refine wl_loop (fun (z_ : Nat × (Nat → Int32)) H locs ls => (z_.1 ≤ 2 ^ pm) ∧ va_P (dC, dI) vwCl ([(h, .inr (5, [.ref pwa, .int (nI pm), .int lw, .int hg, .ref q6])), (b1, .inl (ca 2, kl, .inl KN)), (q6, .inl (ca 2, (2 ^ pm), .inl z_.2))] ++ (oS ca sm SM ++ tl)) H ∧ va_D A ([(h, .inr (5, [.ref pwa, .int (nI pm), .int lw, .int hg, .ref q6])), (b1, .inl (ca 2, kl, .inl KN)), (q6, .inl (ca 2, (2 ^ pm), .inl z_.2))] ++ (oS ca sm SM ++ tl)) ∧ va_S A s.heap H locs ∧ lv_has ls 3 [(2, .int (nI z_.1)), (1, .int (nI (2 ^ pm))), (0, .ref h)]) (fun (z_ : Nat × (Nat → Int32)) => 2 ^ pm - z_.1) (fun z_ H locs ls hI ih => ?_) (0, (fun _ => 0)) ⟨(Nat.zero_le _), hP, hD, hS, lv_sub hl [0, 1, 2] rfl⟩
      obtain ⟨i, K1⟩ := z_
      dsimp only at hI ih
      obtain ⟨hi, hP, hD, hS, hl⟩ := hI
      refine lv_iload_n hx hb dX5_forget_32 rfl (lv_at hl 0 rfl) ?_
      refine lv_iload_n hx hb dX5_forget_33 rfl (lv_at hl 1 rfl) ?_
      refine lv_icmp_ge (tgt := 50) hx hb dX5_forget_34 (by decide) (fun c_7 => ?_) (fun c_7 => ?_)
      · have nc_7 : 2 ^ pm ≤ i := (nI_leI (a := 2 ^ pm) (b := i) (by omega) (by omega)).mp c_7
        refine W.widen (k := (kM (some b1) kl pm)) (n := (16384 * kM (some b1) kl pm)) (by omega) (by omega) ?_
        have hP9 : va_P (dC, dI) vwCl ([(h, .inr (5, [.ref pwa, .int (nI pm), .int lw, .int hg, .ref q6])), (q6, .inl (ca 2, (2 ^ pm), .inl K1))] ++ (oS ca sm SM ++ tl)) H := va_P.part (X := [(h, .inr (5, [.ref pwa, .int (nI pm), .int lw, .int hg, .ref q6])), (b1, .inl (ca 2, kl, .inl KN)), (q6, .inl (ca 2, (2 ^ pm), .inl K1))]) hP [0, 2] rfl
        have hD9 : va_D A ([(h, .inr (5, [.ref pwa, .int (nI pm), .int lw, .int hg, .ref q6])), (q6, .inl (ca 2, (2 ^ pm), .inl K1))] ++ (oS ca sm SM ++ tl)) := va_D.part (X := [(h, .inr (5, [.ref pwa, .int (nI pm), .int lw, .int hg, .ref q6])), (b1, .inl (ca 2, kl, .inl KN)), (q6, .inl (ca 2, (2 ^ pm), .inl K1))]) hD [0, 2] (by decide) rfl
        exact W.vret hx hb hr (fun t ht hW => ⟨⟨(q6, (2 ^ pm), K1), rfl, ⟨Nat.le_refl _, p14 hpm, by rw [hkM, if_pos rfl]⟩, by rw [ht]; exact hP9, hD9⟩, hS.F ht⟩) hS.2.2 dX5_forget_50
      · have nc_7 : ¬ (2 ^ pm ≤ i) := fun h9 => c_7 ((nI_leI (a := 2 ^ pm) (b := i) (by omega) (by omega)).mpr h9)
        refine lv_aload_n hx hb dX5_forget_37 rfl (lv_at hl 2 rfl) ?_
        refine va_get (D := (dC, dI)) (ci := 5) (v := .ref q6) (C := RX5) (T := TX5) (N := 5) hx hb hts inX5 hown hK hP 0 rfl rfl 4 (by decide) (hts _ mw_188) (fun _ h9 => h9) rfl dX5_forget_38 ?_
        refine lv_iload_n hx hb dX5_forget_41 rfl (lv_at hl 0 rfl) ?_
        refine lv_iconst (v := (-1)) hx hb dX5_forget_42 (by decide) ?_
        refine va_bast hx hb hK hP hD hS 2 2 rfl rfl (vp_in_nI (show i < (2 ^ pm) by omega) (by first | decide | omega)) dX5_forget_43 (fun H locs hP hD hS => ?_)
        rw [(show ((nI i) : Int32).toNatClampNeg = i from nI_clamp (by omega))] at hP hD
        have hP : va_P (dC, dI) vwCl ([(h, .inr (5, [.ref pwa, .int (nI pm), .int lw, .int hg, .ref q6])), (b1, .inl (ca 2, kl, .inl KN)), (q6, .inl (ca 2, (2 ^ pm), .inl (upd K1 i (vp_nar .byte (-1)))))] ++ (oS ca sm SM ++ tl)) H := hP
        have hD : va_D A ([(h, .inr (5, [.ref pwa, .int (nI pm), .int lw, .int hg, .ref q6])), (b1, .inl (ca 2, kl, .inl KN)), (q6, .inl (ca 2, (2 ^ pm), .inl (upd K1 i (vp_nar .byte (-1)))))] ++ (oS ca sm SM ++ tl)) := hD
        refine lv_iinc (v := (nI (i + 1))) (lv' := [(2, .int (nI (i + 1))), (1, .int (nI (2 ^ pm))), (0, .ref h)]) hx hb dX5_forget_44 hl (k := 0) rfl (nI_add (i) 1) (by decide) rfl (fun ls hl => ?_)
        refine lv_goto (tgt := 32) hx hb dX5_forget_47 (by decide) ?_
        exact ih (i + 1, (upd K1 i (vp_nar .byte (-1)))) _ _ _ (by omega) ⟨(by omega), hP, hD, hS, lv_sub hl [0, 1, 2] rfl⟩

def smG (wg : Nat → Int32) : Nat → Int32
  | 0 => 0
  | n + 1 => smG wg n + wg n
/-- whether parting makes a new array -/
def mM (kn : Option Nat) (kl cm : Nat) (wg : Nat → Int32) (v : Int32) : Nat := if smG wg (min cm 14) < v then 0 else kM kn kl (min cm 14)
theorem kM_01 (kn : Option Nat) (kl pm : Nat) : kM kn kl pm = 0 ∨ kM kn kl pm = 1 := by unfold kM; split; exact Or.inr rfl; exact Or.inl rfl
theorem kM_0 {kn : Option Nat} {kl pm : Nat} (h : ¬ kM kn kl pm = 1) : kn.isNone = false := by
  cases kn with
  | none => exact absurd (kM_n kl pm) h
  | some q => rfl
def mP (kn kn2 : Option Nat) (kl kl2 M pm : Nat) : Prop := kl2 ≤ 16384 ∧ (M = 0 → kn2.isNone = kn.isNone ∧ kl2 = kl) ∧ (M = 1 → kn2.isNone = false ∧ kl2 = 2 ^ pm)
theorem q_most14 (l : Launch) (dC : Nat → ClassId) (dI : Nat → Nat → Nat) (ca : Nat → ClassId) : MetM l dC dI ca 14 := (q_all l dC dI ca 14).1

set_option maxHeartbeats 4000000 in
set_option maxRecDepth 100000 in
theorem q_mostBoxes (l : Launch) (dC : Nat → ClassId) (dI : Nat → Nat → Nat) (ca : Nat → ClassId) (sz : Nat) (h : Nat) (pwa : Nat) (pm : Nat) (lw : Int32) (hg : Int32) (pw : Nat → Int32) (g : Nat) (sm : Option Nat) (SM : Nat → Int64) (kn : Option Nat) (kl : Nat) (KN : Nat → Int32) (s0 : Nat) (s1 : Nat) (s2 : Nat) (cm : Nat) (wd : Int32) (wg : Nat → Int32) (we : Nat) (ov : Nat) (tl : va_W) (hcm : cm ≤ 40) (hkx : kl ≤ 16384) : Met l yX5_mostBoxes (Cond.code yX5_mostBoxes cX5_mostBoxes 7 (some .int) :: gT) ({ frames := 31, cells := (mM kn kl cm wg (nI we)), slots := (16384 * mM kn kl cm wg (nI we)), locals := 956 }) (va_Pc [.ref h, .ref g, .int (nI we), .int (nI ov)] (pr (dC, dI) sz ([(h, .inr (5, [.ref pwa, .int (nI pm), .int lw, .int hg, va_rf kn])), (pwa, .inl (ca 0, 14, .inl pw)), (g, .inr (2, [.ref s0, .ref s1, .ref s2, .int (nI cm), va_rf sm, .int wd])), (s1, .inl (ca 0, 40, .inl wg))] ++ (oS ca sm SM ++ (oK ca kn kl KN ++ tl))) (aT ca))) (va_Qi (fun (r : Int32) (u_ : Nat × Int32 × Int32 × (Nat → Int32) × Option Nat × Nat × (Nat → Int32)) => mP kn u_.2.2.2.2.1 kl u_.2.2.2.2.2.1 (mM kn kl cm wg (nI we)) (min cm 14)) (fun (u_ : Nat × Int32 × Int32 × (Nat → Int32) × Option Nat × Nat × (Nat → Int32)) t => va_P (dC, dI) vwCl ([(h, .inr (5, [.ref pwa, .int (nI u_.1), .int u_.2.1, .int u_.2.2.1, va_rf u_.2.2.2.2.1])), (pwa, .inl (ca 0, 14, .inl u_.2.2.2.1)), (g, .inr (2, [.ref s0, .ref s1, .ref s2, .int (nI cm), va_rf sm, .int wd])), (s1, .inl (ca 0, 40, .inl wg))] ++ (oS ca sm SM ++ (oK ca u_.2.2.2.2.1 u_.2.2.2.2.2.1 u_.2.2.2.2.2.2 ++ tl))) t.heap ∧ va_D (va_A ([(h, .inr (5, [.ref pwa, .int (nI pm), .int lw, .int hg, va_rf kn])), (pwa, .inl (ca 0, 14, .inl pw)), (g, .inr (2, [.ref s0, .ref s1, .ref s2, .int (nI cm), va_rf sm, .int wd])), (s1, .inl (ca 0, 40, .inl wg))] ++ (oS ca sm SM ++ (oK ca kn kl KN ++ tl))) sz) ([(h, .inr (5, [.ref pwa, .int (nI u_.1), .int u_.2.1, .int u_.2.2.1, va_rf u_.2.2.2.2.1])), (pwa, .inl (ca 0, 14, .inl u_.2.2.2.1)), (g, .inr (2, [.ref s0, .ref s1, .ref s2, .int (nI cm), va_rf sm, .int wd])), (s1, .inl (ca 0, 40, .inl wg))] ++ (oS ca sm SM ++ (oK ca u_.2.2.2.2.1 u_.2.2.2.2.2.1 u_.2.2.2.2.2.2 ++ tl)))) (va_A ([(h, .inr (5, [.ref pwa, .int (nI pm), .int lw, .int hg, va_rf kn])), (pwa, .inl (ca 0, 14, .inl pw)), (g, .inr (2, [.ref s0, .ref s1, .ref s2, .int (nI cm), va_rf sm, .int wd])), (s1, .inl (ca 0, 40, .inl wg))] ++ (oS ca sm SM ++ (oK ca kn kl KN ++ tl))) sz)) (mM kn kl cm wg (nI we)) (16384 * mM kn kl cm wg (nI we)) (va_A ([(h, .inr (5, [.ref pwa, .int (nI pm), .int lw, .int hg, va_rf kn])), (pwa, .inl (ca 0, 14, .inl pw)), (g, .inr (2, [.ref s0, .ref s1, .ref s2, .int (nI cm), va_rf sm, .int wd])), (s1, .inl (ca 0, 40, .inl wg))] ++ (oS ca sm SM ++ (oK ca kn kl KN ++ tl))) sz) := by
  refine Met.ofW (cc := cX5_mostBoxes) (maxL := 7) (ret := (some .int)) (by decide) rfl ?_
  intro p e s m args below meth c s₁ B hml hv
  obtain ⟨rfl, hsz, hP, hK, hD0, hE⟩ := hv
  have hx := B.exec
  have hb := B.bytes
  have hr := B.returns
  have hts : ∀ w ∈ gT, w.before _ s = true := fun w h => atoms_spec (ws := Cond.code yX5_mostBoxes cX5_mostBoxes 7 (some .int) :: gT) B.pre w (List.mem_cons_of_mem _ h)
  have hown : s.vm.findClass RX5 = some m.cls := findClass_of_methodNamed B.named
  have hlocks := B.notSynchronized
  subst hsz
  have hD := hD0.self (sz := s.heap.size)
  generalize hAe : va_A ([(h, .inr (5, [.ref pwa, .int (nI pm), .int lw, .int hg, va_rf kn])), (pwa, .inl (ca 0, 14, .inl pw)), (g, .inr (2, [.ref s0, .ref s1, .ref s2, .int (nI cm), va_rf sm, .int wd])), (s1, .inl (ca 0, 40, .inl wg))] ++ (oS ca sm SM ++ (oK ca kn kl KN ++ tl))) s.heap.size = A at hD ⊢
  have hA : ∀ q : Nat, s.heap.size ≤ q → A q := fun q h => by rw [← hAe]; exact Or.inr h
  have hS : va_S A s.heap s.heap [] := va_S.rf
  have hl := lv_entry ([.ref h, .ref g, .int (nI we), .int (nI ov)]) (n := 7) (Nat.le_of_ble_eq_true rfl)
  rw [lg_entry_eq]
  generalize (lg_sl ([.ref h, .ref g, .int (nI we), .int (nI ov)]) ++ List.replicate (7 - (lg_sl ([.ref h, .ref g, .int (nI we), .int (nI ov)])).length) Slot.unset).toArray = ls at hl ⊢
  have hl : lv_has ls 7 [(0, .ref h), (1, .ref g), (2, .int (nI we)), (3, .int (nI ov))] := hl
  refine lv_aload_n hx hb dX5_mostBoxes_0 rfl (lv_at hl 0 rfl) ?_
  refine lv_iload_n hx hb dX5_mostBoxes_1 rfl (lv_at hl 2 rfl) ?_
  refine va_put (D := (dC, dI)) (ci := 5) (v := .int (nI we)) (ty := .int) (C := RX5) (T := TX5) (N := 5) hx hb hts inX5 tyX5 tyX5_ok nmX5 hown hK hP hD hS 0 rfl rfl 2 (by decide) (hts _ mw_186) (fun _ h9 => h9) rfl (by decide +kernel) rfl rfl (Nat.le_of_ble_eq_true rfl) dX5_mostBoxes_2 (fun H locs hP hD hS => ?_)
  have hP : va_P (dC, dI) vwCl ([(h, .inr (5, [.ref pwa, .int (nI pm), .int (nI we), .int hg, va_rf kn])), (pwa, .inl (ca 0, 14, .inl pw)), (g, .inr (2, [.ref s0, .ref s1, .ref s2, .int (nI cm), va_rf sm, .int wd])), (s1, .inl (ca 0, 40, .inl wg))] ++ (oS ca sm SM ++ (oK ca kn kl KN ++ tl))) H := hP
  have hD : va_D A ([(h, .inr (5, [.ref pwa, .int (nI pm), .int (nI we), .int hg, va_rf kn])), (pwa, .inl (ca 0, 14, .inl pw)), (g, .inr (2, [.ref s0, .ref s1, .ref s2, .int (nI cm), va_rf sm, .int wd])), (s1, .inl (ca 0, 40, .inl wg))] ++ (oS ca sm SM ++ (oK ca kn kl KN ++ tl))) := hD
  refine lv_aload_n hx hb dX5_mostBoxes_5 rfl (lv_at hl 0 rfl) ?_
  refine lv_iload_n hx hb dX5_mostBoxes_6 rfl (lv_at hl 2 rfl) ?_
  refine lv_iload_n hx hb dX5_mostBoxes_7 rfl (lv_at hl 3 rfl) ?_
  refine lv_iadd hx hb dX5_mostBoxes_8 ?_
  refine lv_topi (fun y_ e_ => ?_)
  obtain rfl : y_ = (nI (we + ov)) := e_.trans (nI_add (we) (ov))
  refine va_put (D := (dC, dI)) (ci := 5) (v := .int (nI (we + ov))) (ty := .int) (C := RX5) (T := TX5) (N := 5) hx hb hts inX5 tyX5 tyX5_ok nmX5 hown hK hP hD hS 0 rfl rfl 3 (by decide) (hts _ mw_187) (fun _ h9 => h9) rfl (by decide +kernel) rfl rfl (Nat.le_of_ble_eq_true rfl) dX5_mostBoxes_9 (fun H locs hP hD hS => ?_)
  have hP : va_P (dC, dI) vwCl ([(h, .inr (5, [.ref pwa, .int (nI pm), .int (nI we), .int (nI (we + ov)), va_rf kn])), (pwa, .inl (ca 0, 14, .inl pw)), (g, .inr (2, [.ref s0, .ref s1, .ref s2, .int (nI cm), va_rf sm, .int wd])), (s1, .inl (ca 0, 40, .inl wg))] ++ (oS ca sm SM ++ (oK ca kn kl KN ++ tl))) H := hP
  have hD : va_D A ([(h, .inr (5, [.ref pwa, .int (nI pm), .int (nI we), .int (nI (we + ov)), va_rf kn])), (pwa, .inl (ca 0, 14, .inl pw)), (g, .inr (2, [.ref s0, .ref s1, .ref s2, .int (nI cm), va_rf sm, .int wd])), (s1, .inl (ca 0, 40, .inl wg))] ++ (oS ca sm SM ++ (oK ca kn kl KN ++ tl))) := hD
  refine lv_aload_n hx hb dX5_mostBoxes_12 rfl (lv_at hl 0 rfl) ?_
  refine lv_iconst (v := 0) hx hb dX5_mostBoxes_13 (by decide) ?_
  refine va_put (D := (dC, dI)) (ci := 5) (v := .int 0) (ty := .int) (C := RX5) (T := TX5) (N := 5) hx hb hts inX5 tyX5 tyX5_ok nmX5 hown hK hP hD hS 0 rfl rfl 1 (by decide) (hts _ mw_185) (fun _ h9 => h9) rfl (by decide +kernel) rfl rfl (Nat.le_of_ble_eq_true rfl) dX5_mostBoxes_14 (fun H locs hP hD hS => ?_)
  have hP : va_P (dC, dI) vwCl ([(h, .inr (5, [.ref pwa, .int 0, .int (nI we), .int (nI (we + ov)), va_rf kn])), (pwa, .inl (ca 0, 14, .inl pw)), (g, .inr (2, [.ref s0, .ref s1, .ref s2, .int (nI cm), va_rf sm, .int wd])), (s1, .inl (ca 0, 40, .inl wg))] ++ (oS ca sm SM ++ (oK ca kn kl KN ++ tl))) H := hP
  have hD : va_D A ([(h, .inr (5, [.ref pwa, .int 0, .int (nI we), .int (nI (we + ov)), va_rf kn])), (pwa, .inl (ca 0, 14, .inl pw)), (g, .inr (2, [.ref s0, .ref s1, .ref s2, .int (nI cm), va_rf sm, .int wd])), (s1, .inl (ca 0, 40, .inl wg))] ++ (oS ca sm SM ++ (oK ca kn kl KN ++ tl))) := hD
  refine lv_iconst (v := 0) hx hb dX5_mostBoxes_17 (by decide) ?_
  refine lv_istore (lv' := [(4, .int 0), (0, .ref h), (1, .ref g), (2, .int (nI we)), (3, .int (nI ov))]) hx hb dX5_mostBoxes_18 hl (by decide) rfl (fun ls hl => ?_)
  refine lv_aload_n hx hb dX5_mostBoxes_20 rfl (lv_at hl 2 rfl) ?_
  refine va_get (D := (dC, dI)) (ci := 2) (v := .int (nI cm)) (C := RX2) (T := TX2) (N := 6) hx hb hts inX2 hown hK hP 2 rfl rfl 3 (by decide) (hts _ mw_161) (fun _ h9 => h9) rfl dX5_mostBoxes_21 ?_
  refine lv_bipush (v := 14) hx hb dX5_mostBoxes_24 (by decide) ?_
  refine va_mmin hx hb (by rw [hml]; exact hl.1.symm) hown (hts _ mw_739) (hts _ mw_442) (hts _ mw_12) (hts _ mmin_code) (Nat.le_of_ble_eq_true rfl) (Nat.le_of_ble_eq_true rfl) (Nat.le_of_ble_eq_true rfl) (Nat.le_of_ble_eq_true rfl) dX5_mostBoxes_26 ?_
  refine lv_topi (fun y_ e_ => ?_)
  obtain rfl : y_ = (nI (min cm 14)) := e_.trans (nI_min (by omega) (by omega))
  refine lv_istore (lv' := [(5, .int (nI (min cm 14))), (4, .int 0), (0, .ref h), (1, .ref g), (2, .int (nI we)), (3, .int (nI ov))]) hx hb dX5_mostBoxes_29 hl (by decide) rfl (fun ls hl => ?_)
  refine lv_iconst (v := 0) hx hb dX5_mostBoxes_31 (by decide) ?_
  refine lv_istore (lv' := [(6, .int 0), (5, .int (nI (min cm 14))), (4, .int 0), (0, .ref h), (1, .ref g), (2, .int (nI we)), (3, .int (nI ov))]) hx hb dX5_mostBoxes_32 hl (by decide) rfl (fun ls hl => ?_)
  refine wl_loop (fun (z_ : Nat × (Nat → Int32)) H locs ls => (z_.1 ≤ min cm 14) ∧ va_P (dC, dI) vwCl ([(h, .inr (5, [.ref pwa, .int (nI z_.1), .int (nI we), .int (nI (we + ov)), va_rf kn])), (pwa, .inl (ca 0, 14, .inl z_.2)), (g, .inr (2, [.ref s0, .ref s1, .ref s2, .int (nI cm), va_rf sm, .int wd])), (s1, .inl (ca 0, 40, .inl wg))] ++ (oS ca sm SM ++ (oK ca kn kl KN ++ tl))) H ∧ va_D A ([(h, .inr (5, [.ref pwa, .int (nI z_.1), .int (nI we), .int (nI (we + ov)), va_rf kn])), (pwa, .inl (ca 0, 14, .inl z_.2)), (g, .inr (2, [.ref s0, .ref s1, .ref s2, .int (nI cm), va_rf sm, .int wd])), (s1, .inl (ca 0, 40, .inl wg))] ++ (oS ca sm SM ++ (oK ca kn kl KN ++ tl))) ∧ va_S A s.heap H locs ∧ lv_has ls 7 [(6, .int (nI z_.1)), (5, .int (nI (min cm 14))), (4, .int (smG wg z_.1)), (0, .ref h), (1, .ref g), (2, .int (nI we)), (3, .int (nI ov))]) (fun (z_ : Nat × (Nat → Int32)) => min cm 14 - z_.1) (fun z_ H locs ls hI ih => ?_) (0, pw) ⟨(Nat.zero_le _), hP, hD, hS, lv_sub hl [0, 1, 2, 3, 4, 5, 6] rfl⟩
  obtain ⟨i, w1_⟩ := z_
  dsimp only at hI ih
  obtain ⟨hi, hP, hD, hS, hl⟩ := hI
  refine lv_iload hx hb dX5_mostBoxes_34 (lv_at hl 0 rfl) ?_
  refine lv_iload hx hb dX5_mostBoxes_36 (lv_at hl 1 rfl) ?_
  refine lv_icmp_ge (tgt := 70) hx hb dX5_mostBoxes_38 (by decide) (fun c_1 => ?_) (fun c_1 => ?_)
  · have nc_1 : min cm 14 ≤ i := (nI_leI (a := min cm 14) (b := i) (by omega) (by omega)).mp c_1
    have hie : i = min cm 14 := (by omega)
    rw [hie] at hP hD hl
    have hP : va_P (dC, dI) vwCl ([(h, .inr (5, [.ref pwa, .int (nI (min cm 14)), .int (nI we), .int (nI (we + ov)), va_rf kn])), (pwa, .inl (ca 0, 14, .inl w1_)), (g, .inr (2, [.ref s0, .ref s1, .ref s2, .int (nI cm), va_rf sm, .int wd])), (s1, .inl (ca 0, 40, .inl wg))] ++ (oS ca sm SM ++ (oK ca kn kl KN ++ tl))) H := hP
    have hD : va_D A ([(h, .inr (5, [.ref pwa, .int (nI (min cm 14)), .int (nI we), .int (nI (we + ov)), va_rf kn])), (pwa, .inl (ca 0, 14, .inl w1_)), (g, .inr (2, [.ref s0, .ref s1, .ref s2, .int (nI cm), va_rf sm, .int wd])), (s1, .inl (ca 0, 40, .inl wg))] ++ (oS ca sm SM ++ (oK ca kn kl KN ++ tl))) := hD
    have hl : lv_has ls 7 [(6, .int (nI (min cm 14))), (5, .int (nI (min cm 14))), (4, .int (smG wg (min cm 14))), (0, .ref h), (1, .ref g), (2, .int (nI we)), (3, .int (nI ov))] := hl
    refine lv_iload hx hb dX5_mostBoxes_70 (lv_at hl 2 rfl) ?_
    refine lv_aload_n hx hb dX5_mostBoxes_72 rfl (lv_at hl 3 rfl) ?_
    refine va_get (D := (dC, dI)) (ci := 5) (v := .int (nI we)) (C := RX5) (T := TX5) (N := 5) hx hb hts inX5 hown hK hP 0 rfl rfl 2 (by decide) (hts _ mw_186) (fun _ h9 => h9) rfl dX5_mostBoxes_73 ?_
    refine lv_icmp_ge (tgt := 81) hx hb dX5_mostBoxes_76 (by decide) (fun c_2 => ?_) (fun c_2 => ?_)
    · have hmM : mM kn kl cm wg (nI we) = kM kn kl (min cm 14) := if_neg (Int32.not_lt.mpr c_2)
      refine lv_aload_n hx hb dX5_mostBoxes_81 rfl (lv_at hl 3 rfl) ?_
      have hPc := hP.part (X := [(h, .inr (5, [.ref pwa, .int (nI (min cm 14)), .int (nI we), .int (nI (we + ov)), va_rf kn])), (pwa, .inl (ca 0, 14, .inl w1_)), (g, .inr (2, [.ref s0, .ref s1, .ref s2, .int (nI cm), va_rf sm, .int wd])), (s1, .inl (ca 0, 40, .inl wg))]) (cx := [(h, .inr (5, [.ref pwa, .int (nI (min cm 14)), .int (nI we), .int (nI (we + ov)), va_rf kn]))]) [0] rfl
      have hDc := hD.part (X := [(h, .inr (5, [.ref pwa, .int (nI (min cm 14)), .int (nI we), .int (nI (we + ov)), va_rf kn])), (pwa, .inl (ca 0, 14, .inl w1_)), (g, .inr (2, [.ref s0, .ref s1, .ref s2, .int (nI cm), va_rf sm, .int wd])), (s1, .inl (ca 0, 40, .inl wg))]) (cx := [(h, .inr (5, [.ref pwa, .int (nI (min cm 14)), .int (nI we), .int (nI (we + ov)), va_rf kn]))]) [0] (by decide) rfl
      have hFc := va_freeP (X := [(h, .inr (5, [.ref pwa, .int (nI (min cm 14)), .int (nI we), .int (nI (we + ov)), va_rf kn])), (pwa, .inl (ca 0, 14, .inl w1_)), (g, .inr (2, [.ref s0, .ref s1, .ref s2, .int (nI cm), va_rf sm, .int wd])), (s1, .inl (ca 0, 40, .inl wg))]) (cx := [(h, .inr (5, [.ref pwa, .int (nI (min cm 14)), .int (nI we), .int (nI (we + ov)), va_rf kn]))]) hD hS hA [0] rfl
      refine va_callv (va_runV (As := []) (rest := []) ⟨hx, hb, hml, hown, hts⟩ (q_forget l dC dI ca H.size h pwa (min cm 14) (nI we) (nI (we + ov)) sm SM kn kl KN tl (by first | assumption | omega | exact ⟨_, by omega, rfl⟩) (by first | assumption | omega | exact ⟨_, by omega, rfl⟩)) (⟨callB_of 0 hts (gd mw_747) rfl rfl rfl (hts _ mw_7) (hts _ mw_744) ds_X5_forget ⟨Nat.le_of_ble_eq_true rfl, Nat.le_of_ble_eq_true rfl⟩, (hts _ mw_746), (hts _ mp_22)⟩) (pr_V hPc hK hDc hE (va_recv hK hPc (ci := 5) (q0 := 0) rfl rfl)) rfl rfl hl.1 rfl (lv_room (Nat.le_of_ble_eq_true rfl)) dX5_mostBoxes_82 ⟨by show 0 + (kM kn kl (min cm 14)) ≤ (mM kn kl cm wg (nI we)); omega, by show 0 + (16384 * kM kn kl (min cm 14)) ≤ (16384 * mM kn kl cm wg (nI we)); omega⟩) hS (fun q _ h => hFc q h) hFc (fun u_ t_ H1 locs ht hvm hw_ hB hz1 hk1 hS => ?_)
      obtain ⟨kq_3, kl2_3, KN2_3⟩ := u_
      have hw_3 := hw_
      obtain ⟨hP1, hD1⟩ := hB
      rw [ht] at hP1
      obtain ⟨hP, hD⟩ := va_joinP (X := [(h, .inr (5, [.ref pwa, .int (nI (min cm 14)), .int (nI we), .int (nI (we + ov)), va_rf kn])), (pwa, .inl (ca 0, 14, .inl w1_)), (g, .inr (2, [.ref s0, .ref s1, .ref s2, .int (nI cm), va_rf sm, .int wd])), (s1, .inl (ca 0, 40, .inl wg))]) (cx := [(h, .inr (5, [.ref pwa, .int (nI (min cm 14)), .int (nI we), .int (nI (we + ov)), va_rf kn]))]) (wr := [(pwa, .inl (ca 0, 14, .inl w1_)), (g, .inr (2, [.ref s0, .ref s1, .ref s2, .int (nI cm), va_rf sm, .int wd])), (s1, .inl (ca 0, 40, .inl wg))]) (rx := [(h, .inr (5, [.ref pwa, .int (nI (min cm 14)), .int (nI we), .int (nI (we + ov)), .ref kq_3])), (kq_3, .inl (ca 2, kl2_3, .inl KN2_3))]) (pl1 := (oS ca sm SM ++ tl)) hP hD [0] [1, 2, 3] rfl rfl (by decide) (by decide) hk1 hFc hP1 hD1
      generalize H1 = H at hP hS ⊢
      have hP : va_P (dC, dI) vwCl ([(pwa, .inl (ca 0, 14, .inl w1_)), (g, .inr (2, [.ref s0, .ref s1, .ref s2, .int (nI cm), va_rf sm, .int wd])), (s1, .inl (ca 0, 40, .inl wg)), (h, .inr (5, [.ref pwa, .int (nI (min cm 14)), .int (nI we), .int (nI (we + ov)), .ref kq_3])), (kq_3, .inl (ca 2, kl2_3, .inl KN2_3))] ++ (oS ca sm SM ++ tl)) H := hP
      have hD : va_D A ([(pwa, .inl (ca 0, 14, .inl w1_)), (g, .inr (2, [.ref s0, .ref s1, .ref s2, .int (nI cm), va_rf sm, .int wd])), (s1, .inl (ca 0, 40, .inl wg)), (h, .inr (5, [.ref pwa, .int (nI (min cm 14)), .int (nI we), .int (nI (we + ov)), .ref kq_3])), (kq_3, .inl (ca 2, kl2_3, .inl KN2_3))] ++ (oS ca sm SM ++ tl)) := hD
      have hfg1 := hw_3.1
      have hfg2 := hw_3.2.1
      refine lv_aload_n hx hb dX5_mostBoxes_85 rfl (lv_at hl 3 rfl) ?_
      refine lv_iconst (v := 1) hx hb dX5_mostBoxes_86 (by decide) ?_
      refine lv_aload_n hx hb dX5_mostBoxes_87 rfl (lv_at hl 3 rfl) ?_
      refine va_get (D := (dC, dI)) (ci := 5) (v := .int (nI (min cm 14))) (C := RX5) (T := TX5) (N := 5) hx hb hts inX5 hown hK hP 3 rfl rfl 1 (by decide) (hts _ mw_185) (fun _ h9 => h9) rfl dX5_mostBoxes_88 ?_
      refine lv_ishl hx hb dX5_mostBoxes_91 ?_
      refine lv_topi (fun y_ e_ => ?_)
      obtain rfl : y_ = (nI (2 ^ (min cm 14))) := e_.trans (tb_sh (by omega))
      refine lv_iconst (v := 1) hx hb dX5_mostBoxes_92 (by decide) ?_
      refine lv_isub hx hb dX5_mostBoxes_93 ?_
      refine lv_topi (fun y_ e_ => ?_)
      obtain rfl : y_ = (nI ((2 ^ (min cm 14)) - 1)) := e_.trans (pk_sub (show 1 ≤ 2 ^ (min cm 14) by omega))
      refine lv_iload hx hb dX5_mostBoxes_94 (lv_at hl 2 rfl) ?_
      have hPc := hP.sub (ws' := [(h, .inr (5, [.ref pwa, .int (nI (min cm 14)), .int (nI we), .int (nI (we + ov)), .ref kq_3])), (pwa, .inl (ca 0, 14, .inl w1_)), (kq_3, .inl (ca 2, kl2_3, .inl KN2_3))]) [3, 0, 4] rfl
      have hDc := hD.sub (ws' := [(h, .inr (5, [.ref pwa, .int (nI (min cm 14)), .int (nI we), .int (nI (we + ov)), .ref kq_3])), (pwa, .inl (ca 0, 14, .inl w1_)), (kq_3, .inl (ca 2, kl2_3, .inl KN2_3))]) [3, 0, 4] (by decide) rfl
      have hFc := va_free (wc := [(h, .inr (5, [.ref pwa, .int (nI (min cm 14)), .int (nI we), .int (nI (we + ov)), .ref kq_3])), (pwa, .inl (ca 0, 14, .inl w1_)), (kq_3, .inl (ca 2, kl2_3, .inl KN2_3))]) hD hS hA [3, 0, 4] rfl
      refine va_calli (va_runV (As := [.int (nI ((2 ^ (min cm 14)) - 1)), .int (smG wg (min cm 14))]) (rest := []) ⟨hx, hb, hml, hown, hts⟩ (q_most14 l dC dI ca H.size h pwa (min cm 14) (nI we) (nI (we + ov)) kq_3 kl2_3 w1_ KN2_3 ((2 ^ (min cm 14)) - 1) (smG wg (min cm 14)) (by first | assumption | omega | exact ⟨_, by omega, rfl⟩) (by first | assumption | omega | exact ⟨_, by omega, rfl⟩) (by first | assumption | omega | exact ⟨_, by omega, rfl⟩) (by have := Nat.two_pow_pos (min cm 14); omega) (pcn_le _)) (⟨callB_of 2 hts (gd mw_751) rfl rfl rfl (hts _ mw_7) (hts _ mw_748) ds_X5_mostOf ⟨Nat.le_of_ble_eq_true rfl, Nat.le_of_ble_eq_true rfl⟩, (hts _ mw_750), (hts _ mp_23)⟩) (pr_V hPc hK hDc hE (va_recv hK hPc (ci := 5) (q0 := 0) rfl rfl)) rfl rfl hl.1 rfl (lv_room (Nat.le_of_ble_eq_true rfl)) dX5_mostBoxes_96 ⟨by show (0 + (kM kn kl (min cm 14))) + 0 ≤ (mM kn kl cm wg (nI we)); omega, by show (0 + (16384 * kM kn kl (min cm 14))) + 0 ≤ (16384 * mM kn kl cm wg (nI we)); omega⟩) hS (fun q _ h => hFc q h) hFc (fun rv_4 KN2_4 t_ H1 locs ht hvm hw_ hB hz1 hk1 hS => ?_)
      have hw_4 := hw_
      obtain ⟨hP1, hD1⟩ := hB
      rw [ht] at hP1
      obtain ⟨hP, hD⟩ := va_joinQ (X := [(pwa, .inl (ca 0, 14, .inl w1_)), (g, .inr (2, [.ref s0, .ref s1, .ref s2, .int (nI cm), va_rf sm, .int wd])), (s1, .inl (ca 0, 40, .inl wg)), (h, .inr (5, [.ref pwa, .int (nI (min cm 14)), .int (nI we), .int (nI (we + ov)), .ref kq_3])), (kq_3, .inl (ca 2, kl2_3, .inl KN2_3))]) (cx := [(h, .inr (5, [.ref pwa, .int (nI (min cm 14)), .int (nI we), .int (nI (we + ov)), .ref kq_3])), (pwa, .inl (ca 0, 14, .inl w1_)), (kq_3, .inl (ca 2, kl2_3, .inl KN2_3))]) (wr := [(g, .inr (2, [.ref s0, .ref s1, .ref s2, .int (nI cm), va_rf sm, .int wd])), (s1, .inl (ca 0, 40, .inl wg))]) (w1 := [(h, .inr (5, [.ref pwa, .int (nI (min cm 14)), .int (nI we), .int (nI (we + ov)), .ref kq_3])), (pwa, .inl (ca 0, 14, .inl w1_)), (kq_3, .inl (ca 2, kl2_3, .inl KN2_4))]) hP hD [3, 0, 4] [1, 2] rfl rfl (by decide) (by decide) hk1 hFc hP1 hD1
      generalize H1 = H at hP hS ⊢
      have hP : va_P (dC, dI) vwCl ([(g, .inr (2, [.ref s0, .ref s1, .ref s2, .int (nI cm), va_rf sm, .int wd])), (s1, .inl (ca 0, 40, .inl wg)), (h, .inr (5, [.ref pwa, .int (nI (min cm 14)), .int (nI we), .int (nI (we + ov)), .ref kq_3])), (pwa, .inl (ca 0, 14, .inl w1_)), (kq_3, .inl (ca 2, kl2_3, .inl KN2_4))] ++ (oS ca sm SM ++ tl)) H := hP
      have hD : va_D A ([(g, .inr (2, [.ref s0, .ref s1, .ref s2, .int (nI cm), va_rf sm, .int wd])), (s1, .inl (ca 0, 40, .inl wg)), (h, .inr (5, [.ref pwa, .int (nI (min cm 14)), .int (nI we), .int (nI (we + ov)), .ref kq_3])), (pwa, .inl (ca 0, 14, .inl w1_)), (kq_3, .inl (ca 2, kl2_3, .inl KN2_4))] ++ (oS ca sm SM ++ tl)) := hD
      have hP := va_fb (X := [(g, .inr (2, [.ref s0, .ref s1, .ref s2, .int (nI cm), va_rf sm, .int wd])), (s1, .inl (ca 0, 40, .inl wg)), (h, .inr (5, [.ref pwa, .int (nI (min cm 14)), .int (nI we), .int (nI (we + ov)), .ref kq_3])), (pwa, .inl (ca 0, 14, .inl w1_))]) (tl1 (List.Perm.refl ([(kq_3, .inl (ca 2, kl2_3, .inl KN2_4))] ++ tl))) hP
      have hD := va_fb_D (X := [(g, .inr (2, [.ref s0, .ref s1, .ref s2, .int (nI cm), va_rf sm, .int wd])), (s1, .inl (ca 0, 40, .inl wg)), (h, .inr (5, [.ref pwa, .int (nI (min cm 14)), .int (nI we), .int (nI (we + ov)), .ref kq_3])), (pwa, .inl (ca 0, 14, .inl w1_))]) (tl1 (List.Perm.refl ([(kq_3, .inl (ca 2, kl2_3, .inl KN2_4))] ++ tl))) hD
      have hP : va_P (dC, dI) vwCl ([(g, .inr (2, [.ref s0, .ref s1, .ref s2, .int (nI cm), va_rf sm, .int wd])), (s1, .inl (ca 0, 40, .inl wg)), (h, .inr (5, [.ref pwa, .int (nI (min cm 14)), .int (nI we), .int (nI (we + ov)), va_rf (some kq_3)])), (pwa, .inl (ca 0, 14, .inl w1_))] ++ (oS ca sm SM ++ (oK ca (some kq_3) kl2_3 KN2_4 ++ tl))) H := hP
      have hD : va_D A ([(g, .inr (2, [.ref s0, .ref s1, .ref s2, .int (nI cm), va_rf sm, .int wd])), (s1, .inl (ca 0, 40, .inl wg)), (h, .inr (5, [.ref pwa, .int (nI (min cm 14)), .int (nI we), .int (nI (we + ov)), va_rf (some kq_3)])), (pwa, .inl (ca 0, 14, .inl w1_))] ++ (oS ca sm SM ++ (oK ca (some kq_3) kl2_3 KN2_4 ++ tl))) := hD
      refine W.widen (k := (mM kn kl cm wg (nI we))) (n := (16384 * mM kn kl cm wg (nI we))) (by omega) (by omega) ?_
      have hP9 : va_P (dC, dI) vwCl ([(h, .inr (5, [.ref pwa, .int (nI (min cm 14)), .int (nI we), .int (nI (we + ov)), va_rf (some kq_3)])), (pwa, .inl (ca 0, 14, .inl w1_)), (g, .inr (2, [.ref s0, .ref s1, .ref s2, .int (nI cm), va_rf sm, .int wd])), (s1, .inl (ca 0, 40, .inl wg))] ++ (oS ca sm SM ++ (oK ca (some kq_3) kl2_3 KN2_4 ++ tl))) H := va_P.part (X := [(g, .inr (2, [.ref s0, .ref s1, .ref s2, .int (nI cm), va_rf sm, .int wd])), (s1, .inl (ca 0, 40, .inl wg)), (h, .inr (5, [.ref pwa, .int (nI (min cm 14)), .int (nI we), .int (nI (we + ov)), va_rf (some kq_3)])), (pwa, .inl (ca 0, 14, .inl w1_))]) hP [2, 3, 0, 1] rfl
      have hD9 : va_D A ([(h, .inr (5, [.ref pwa, .int (nI (min cm 14)), .int (nI we), .int (nI (we + ov)), va_rf (some kq_3)])), (pwa, .inl (ca 0, 14, .inl w1_)), (g, .inr (2, [.ref s0, .ref s1, .ref s2, .int (nI cm), va_rf sm, .int wd])), (s1, .inl (ca 0, 40, .inl wg))] ++ (oS ca sm SM ++ (oK ca (some kq_3) kl2_3 KN2_4 ++ tl))) := va_D.part (X := [(g, .inr (2, [.ref s0, .ref s1, .ref s2, .int (nI cm), va_rf sm, .int wd])), (s1, .inl (ca 0, 40, .inl wg)), (h, .inr (5, [.ref pwa, .int (nI (min cm 14)), .int (nI we), .int (nI (we + ov)), va_rf (some kq_3)])), (pwa, .inl (ca 0, 14, .inl w1_))]) hD [2, 3, 0, 1] (by decide) rfl
      exact W.iret (v := rv_4) hx hb hr (fun t ht hW => ⟨⟨rv_4, ((min cm 14), (nI we), (nI (we + ov)), w1_, (some kq_3), kl2_3, KN2_4), rfl, ⟨hw_3.2.1, fun h9 => ⟨(kM_0 (fun h8 => by omega)).symm, hw_3.2.2.trans (if_neg (by omega))⟩, fun h9 => ⟨rfl, hw_3.2.2.trans (if_pos (by omega))⟩⟩, by rw [ht]; exact hP9, hD9⟩, hS.F ht⟩) hS.2.2 dX5_mostBoxes_99
    · have hmM : mM kn kl cm wg (nI we) = 0 := if_pos (Int32.not_le.mp c_2)
      refine lv_iconst (v := 0) hx hb dX5_mostBoxes_79 (by decide) ?_
      refine W.widen (k := (mM kn kl cm wg (nI we))) (n := (16384 * mM kn kl cm wg (nI we))) (by omega) (by omega) ?_
      have hP9 : va_P (dC, dI) vwCl ([(h, .inr (5, [.ref pwa, .int (nI (min cm 14)), .int (nI we), .int (nI (we + ov)), va_rf kn])), (pwa, .inl (ca 0, 14, .inl w1_)), (g, .inr (2, [.ref s0, .ref s1, .ref s2, .int (nI cm), va_rf sm, .int wd])), (s1, .inl (ca 0, 40, .inl wg))] ++ (oS ca sm SM ++ (oK ca kn kl KN ++ tl))) H := va_P.part (X := [(h, .inr (5, [.ref pwa, .int (nI (min cm 14)), .int (nI we), .int (nI (we + ov)), va_rf kn])), (pwa, .inl (ca 0, 14, .inl w1_)), (g, .inr (2, [.ref s0, .ref s1, .ref s2, .int (nI cm), va_rf sm, .int wd])), (s1, .inl (ca 0, 40, .inl wg))]) hP [0, 1, 2, 3] rfl
      have hD9 : va_D A ([(h, .inr (5, [.ref pwa, .int (nI (min cm 14)), .int (nI we), .int (nI (we + ov)), va_rf kn])), (pwa, .inl (ca 0, 14, .inl w1_)), (g, .inr (2, [.ref s0, .ref s1, .ref s2, .int (nI cm), va_rf sm, .int wd])), (s1, .inl (ca 0, 40, .inl wg))] ++ (oS ca sm SM ++ (oK ca kn kl KN ++ tl))) := va_D.part (X := [(h, .inr (5, [.ref pwa, .int (nI (min cm 14)), .int (nI we), .int (nI (we + ov)), va_rf kn])), (pwa, .inl (ca 0, 14, .inl w1_)), (g, .inr (2, [.ref s0, .ref s1, .ref s2, .int (nI cm), va_rf sm, .int wd])), (s1, .inl (ca 0, 40, .inl wg))]) hD [0, 1, 2, 3] (by decide) rfl
      exact W.iret (v := 0) hx hb hr (fun t ht hW => ⟨⟨0, ((min cm 14), (nI we), (nI (we + ov)), w1_, kn, kl, KN), rfl, ⟨hkx, fun _ => ⟨rfl, rfl⟩, fun h9 => absurd (h9.symm.trans hmM) (by decide)⟩, by rw [ht]; exact hP9, hD9⟩, hS.F ht⟩) hS.2.2 dX5_mostBoxes_80
  · have nc_1 : ¬ (min cm 14 ≤ i) := fun h9 => c_1 ((nI_leI (a := min cm 14) (b := i) (by omega) (by omega)).mpr h9)
    refine lv_aload_n hx hb dX5_mostBoxes_41 rfl (lv_at hl 3 rfl) ?_
    refine lv_aload_n hx hb dX5_mostBoxes_42 rfl (lv_at hl 4 rfl) ?_
    refine va_get (D := (dC, dI)) (ci := 2) (v := .ref s1) (C := RX2) (T := TX2) (N := 6) hx hb hts inX2 hown hK hP 2 rfl rfl 1 (by decide) (hts _ mw_157) (fun _ h9 => h9) rfl dX5_mostBoxes_43 ?_
    refine lv_iload hx hb dX5_mostBoxes_46 (lv_at hl 0 rfl) ?_
    refine va_iald hx hb hK hP 3 0 rfl rfl (vp_in_nI (show i < 40 by omega) (by first | decide | omega)) dX5_mostBoxes_48 ?_
    refine lv_topi (fun y_ e_ => ?_)
    obtain rfl : y_ = (wg i) := e_.trans (congrArg wg (show ((nI i) : Int32).toNatClampNeg = i from nI_clamp (by omega)))
    have hPc := hP.sub (ws' := [(h, .inr (5, [.ref pwa, .int (nI i), .int (nI we), .int (nI (we + ov)), va_rf kn])), (pwa, .inl (ca 0, 14, .inl w1_))]) [0, 1] rfl
    have hDc := hD.sub (ws' := [(h, .inr (5, [.ref pwa, .int (nI i), .int (nI we), .int (nI (we + ov)), va_rf kn])), (pwa, .inl (ca 0, 14, .inl w1_))]) [0, 1] (by decide) rfl
    have hFc := va_free (wc := [(h, .inr (5, [.ref pwa, .int (nI i), .int (nI we), .int (nI (we + ov)), va_rf kn])), (pwa, .inl (ca 0, 14, .inl w1_))]) hD hS hA [0, 1] rfl
    refine va_callv (va_runV (As := [.int (wg i)]) (rest := []) ⟨hx, hb, hml, hown, hts⟩ (q_insert l dC dI ca H.size h pwa i (nI we) (nI (we + ov)) w1_ kn (wg i) (by first | assumption | omega | exact ⟨_, by omega, rfl⟩)) (⟨callB_of 1 hts (gd mw_743) rfl rfl rfl (hts _ mw_7) (hts _ mw_740) ds_X5_insert ⟨Nat.le_of_ble_eq_true rfl, Nat.le_of_ble_eq_true rfl⟩, (hts _ mw_742), (hts _ mp_21)⟩) (pr_V hPc hK hDc hE (va_recv hK hPc (ci := 5) (q0 := 0) rfl rfl)) rfl rfl hl.1 rfl (lv_room (Nat.le_of_ble_eq_true rfl)) dX5_mostBoxes_49 ⟨Nat.le_of_ble_eq_true rfl, Nat.le_of_ble_eq_true rfl⟩) hS (fun q _ h => hFc q h) hFc (fun pw2_5 t_ H1 locs ht hvm hw_ hB hz1 hk1 hS => ?_)
    obtain ⟨hP1, hD1⟩ := hB
    rw [ht] at hP1
    obtain ⟨hP, hD⟩ := va_joinQ (X := [(h, .inr (5, [.ref pwa, .int (nI i), .int (nI we), .int (nI (we + ov)), va_rf kn])), (pwa, .inl (ca 0, 14, .inl w1_)), (g, .inr (2, [.ref s0, .ref s1, .ref s2, .int (nI cm), va_rf sm, .int wd])), (s1, .inl (ca 0, 40, .inl wg))]) (cx := [(h, .inr (5, [.ref pwa, .int (nI i), .int (nI we), .int (nI (we + ov)), va_rf kn])), (pwa, .inl (ca 0, 14, .inl w1_))]) (wr := [(g, .inr (2, [.ref s0, .ref s1, .ref s2, .int (nI cm), va_rf sm, .int wd])), (s1, .inl (ca 0, 40, .inl wg))]) (w1 := [(h, .inr (5, [.ref pwa, .int (nI (i + 1)), .int (nI we), .int (nI (we + ov)), va_rf kn])), (pwa, .inl (ca 0, 14, .inl pw2_5))]) hP hD [0, 1] [2, 3] rfl rfl (by decide) (by decide) hk1 hFc hP1 hD1
    generalize H1 = H at hP hS ⊢
    have hP : va_P (dC, dI) vwCl ([(g, .inr (2, [.ref s0, .ref s1, .ref s2, .int (nI cm), va_rf sm, .int wd])), (s1, .inl (ca 0, 40, .inl wg)), (h, .inr (5, [.ref pwa, .int (nI (i + 1)), .int (nI we), .int (nI (we + ov)), va_rf kn])), (pwa, .inl (ca 0, 14, .inl pw2_5))] ++ (oS ca sm SM ++ (oK ca kn kl KN ++ tl))) H := hP
    have hD : va_D A ([(g, .inr (2, [.ref s0, .ref s1, .ref s2, .int (nI cm), va_rf sm, .int wd])), (s1, .inl (ca 0, 40, .inl wg)), (h, .inr (5, [.ref pwa, .int (nI (i + 1)), .int (nI we), .int (nI (we + ov)), va_rf kn])), (pwa, .inl (ca 0, 14, .inl pw2_5))] ++ (oS ca sm SM ++ (oK ca kn kl KN ++ tl))) := hD
    refine lv_iload hx hb dX5_mostBoxes_52 (lv_at hl 2 rfl) ?_
    refine lv_aload_n hx hb dX5_mostBoxes_54 rfl (lv_at hl 4 rfl) ?_
    refine va_get (D := (dC, dI)) (ci := 2) (v := .ref s1) (C := RX2) (T := TX2) (N := 6) hx hb hts inX2 hown hK hP 0 rfl rfl 1 (by decide) (hts _ mw_157) (fun _ h9 => h9) rfl dX5_mostBoxes_55 ?_
    refine lv_iload hx hb dX5_mostBoxes_58 (lv_at hl 0 rfl) ?_
    refine va_iald hx hb hK hP 1 0 rfl rfl (vp_in_nI (show i < 40 by omega) (by first | decide | omega)) dX5_mostBoxes_60 ?_
    refine lv_topi (fun y_ e_ => ?_)
    obtain rfl : y_ = (wg i) := e_.trans (congrArg wg (show ((nI i) : Int32).toNatClampNeg = i from nI_clamp (by omega)))
    refine lv_iadd hx hb dX5_mostBoxes_61 ?_
    refine lv_istore (lv' := [(4, .int ((smG wg i) + (wg i))), (6, .int (nI i)), (5, .int (nI (min cm 14))), (0, .ref h), (1, .ref g), (2, .int (nI we)), (3, .int (nI ov))]) hx hb dX5_mostBoxes_62 hl (by decide) rfl (fun ls hl => ?_)
    refine lv_iinc (v := (nI (i + 1))) (lv' := [(6, .int (nI (i + 1))), (4, .int ((smG wg i) + (wg i))), (5, .int (nI (min cm 14))), (0, .ref h), (1, .ref g), (2, .int (nI we)), (3, .int (nI ov))]) hx hb dX5_mostBoxes_64 hl (k := 1) rfl (nI_add (i) 1) (by decide) rfl (fun ls hl => ?_)
    refine lv_goto (tgt := 34) hx hb dX5_mostBoxes_67 (by decide) ?_
    exact ih (i + 1, pw2_5) _ _ _ (by omega) ⟨(by omega), (va_P.part (X := [(g, .inr (2, [.ref s0, .ref s1, .ref s2, .int (nI cm), va_rf sm, .int wd])), (s1, .inl (ca 0, 40, .inl wg)), (h, .inr (5, [.ref pwa, .int (nI (i + 1)), .int (nI we), .int (nI (we + ov)), va_rf kn])), (pwa, .inl (ca 0, 14, .inl pw2_5))]) hP [2, 3, 0, 1] rfl), (va_D.part (X := [(g, .inr (2, [.ref s0, .ref s1, .ref s2, .int (nI cm), va_rf sm, .int wd])), (s1, .inl (ca 0, 40, .inl wg)), (h, .inr (5, [.ref pwa, .int (nI (i + 1)), .int (nI we), .int (nI (we + ov)), va_rf kn])), (pwa, .inl (ca 0, 14, .inl pw2_5))]) hD [2, 3, 0, 1] (by decide) rfl), hS, lv_sub hl [0, 2, 1, 3, 4, 5, 6] rfl⟩
