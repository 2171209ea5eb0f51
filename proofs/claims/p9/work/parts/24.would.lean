def kM (kn : Option Nat) (kl pm : Nat) : Nat := if kn.isNone = true ∨ kl < 2 ^ pm then 1 else 0
theorem kM_le (kn : Option Nat) (kl pm : Nat) : kM kn kl pm ≤ 1 := by unfold kM; split <;> omega
theorem kM_n (kl pm : Nat) : kM none kl pm = 1 := by unfold kM; rw [if_pos (Or.inl rfl)]
theorem kM_g (q : Nat) {kl pm : Nat} (h : kl < 2 ^ pm) : kM (some q) kl pm = 1 := by unfold kM; rw [if_pos (Or.inr h)]
theorem kM_s (q : Nat) {kl pm : Nat} (h : ¬ kl < 2 ^ pm) : kM (some q) kl pm = 0 := by unfold kM; rw [if_neg (by simp [h])]
theorem p14 {pm : Nat} (h : pm ≤ 14) : 2 ^ pm ≤ 16384 := by
  have := Nat.pow_le_pow_right (show 0 < 2 by decide) h
  omega

set_option maxHeartbeats 4000000 in
set_option maxRecDepth 100000 in
theorem q_insert (l : Launch) (dC : Nat → ClassId) (dI : Nat → Nat → Nat) (ca : Nat → ClassId) (sz : Nat) (h : Nat) (pwa : Nat) (pm : Nat) (lw : Int32) (hg : Int32) (pw : Nat → Int32) (kn : Option Nat) (v1 : Int32) (hp14 : pm < 14) : Met l yX5_insert (Cond.code yX5_insert cX5_insert 3 none :: gT) ({ frames := 1, cells := 0, slots := 0, locals := 60 }) (va_Pc [.ref h, .int v1] (pr (dC, dI) sz [(h, .inr (5, [.ref pwa, .int (nI pm), .int lw, .int hg, va_rf kn])), (pwa, .inl (ca 0, 14, .inl pw))] (aT ca))) (va_Qv (fun (u_ : (Nat → Int32)) => True) (fun (u_ : (Nat → Int32)) t => va_P (dC, dI) vwCl [(h, .inr (5, [.ref pwa, .int (nI (pm + 1)), .int lw, .int hg, va_rf kn])), (pwa, .inl (ca 0, 14, .inl u_))] t.heap ∧ va_D (va_A [(h, .inr (5, [.ref pwa, .int (nI pm), .int lw, .int hg, va_rf kn])), (pwa, .inl (ca 0, 14, .inl pw))] sz) [(h, .inr (5, [.ref pwa, .int (nI (pm + 1)), .int lw, .int hg, va_rf kn])), (pwa, .inl (ca 0, 14, .inl u_))]) (va_A [(h, .inr (5, [.ref pwa, .int (nI pm), .int lw, .int hg, va_rf kn])), (pwa, .inl (ca 0, 14, .inl pw))] sz)) 0 0 (va_A [(h, .inr (5, [.ref pwa, .int (nI pm), .int lw, .int hg, va_rf kn])), (pwa, .inl (ca 0, 14, .inl pw))] sz) := by
  refine Met.ofW (cc := cX5_insert) (maxL := 3) (ret := none) (by decide) rfl ?_
  intro p e s m args below meth c s₁ B hml hv
  obtain ⟨rfl, hsz, hP, hK, hD0, hE⟩ := hv
  have hx := B.exec
  have hb := B.bytes
  have hr := B.returns
  have hts : ∀ w ∈ gT, w.before _ s = true := fun w h => atoms_spec (ws := Cond.code yX5_insert cX5_insert 3 none :: gT) B.pre w (List.mem_cons_of_mem _ h)
  have hown : s.vm.findClass RX5 = some m.cls := findClass_of_methodNamed B.named
  have hlocks := B.notSynchronized
  subst hsz
  have hD := hD0.self (sz := s.heap.size)
  generalize hAe : va_A [(h, .inr (5, [.ref pwa, .int (nI pm), .int lw, .int hg, va_rf kn])), (pwa, .inl (ca 0, 14, .inl pw))] s.heap.size = A at hD ⊢
  have hA : ∀ q : Nat, s.heap.size ≤ q → A q := fun q h => by rw [← hAe]; exact Or.inr h
  have hS : va_S A s.heap s.heap [] := va_S.rf
  have hl := lv_entry ([.ref h, .int v1]) (n := 3) (Nat.le_of_ble_eq_true rfl)
  rw [lg_entry_eq]
  generalize (lg_sl ([.ref h, .int v1]) ++ List.replicate (3 - (lg_sl ([.ref h, .int v1])).length) Slot.unset).toArray = ls at hl ⊢
  have hl : lv_has ls 3 [(0, .ref h), (1, .int v1)] := hl
  refine lv_aload_n hx hb dX5_insert_0 rfl (lv_at hl 0 rfl) ?_
  refine va_get (D := (dC, dI)) (ci := 5) (v := .int (nI pm)) (C := RX5) (T := TX5) (N := 5) hx hb hts inX5 hown hK hP 0 rfl rfl 1 (by decide) (hts _ mw_185) (fun _ h9 => h9) rfl dX5_insert_1 ?_
  refine lv_istore_n (lv' := [(2, .int (nI pm)), (0, .ref h), (1, .int v1)]) hx hb dX5_insert_4 rfl hl (by decide) rfl (fun ls hl => ?_)
  refine wl_loop (fun (z_ : Nat × (Nat → Int32)) H locs ls => (z_.1 ≤ pm) ∧ va_P (dC, dI) vwCl [(h, .inr (5, [.ref pwa, .int (nI pm), .int lw, .int hg, va_rf kn])), (pwa, .inl (ca 0, 14, .inl z_.2))] H ∧ va_D A [(h, .inr (5, [.ref pwa, .int (nI pm), .int lw, .int hg, va_rf kn])), (pwa, .inl (ca 0, 14, .inl z_.2))] ∧ va_S A s.heap H locs ∧ lv_has ls 3 [(2, .int (nI z_.1)), (0, .ref h), (1, .int v1)]) (fun (z_ : Nat × (Nat → Int32)) => z_.1) (fun z_ H locs ls hI ih => ?_) (pm, pw) ⟨(Nat.le_refl _), hP, hD, hS, lv_sub hl [0, 1, 2] rfl⟩
  obtain ⟨i, w1_⟩ := z_
  dsimp only at hI ih
  obtain ⟨hi, hP, hD, hS, hl⟩ := hI
  refine lv_iload_n hx hb dX5_insert_5 rfl (lv_at hl 0 rfl) ?_
  refine lv_if_le (tgt := 41) hx hb dX5_insert_6 (by decide) (fun c_1 => ?_) (fun c_1 => ?_)
  · have nc_1 : i ≤ 0 := (nI_leI (a := i) (b := 0) (by omega) (by omega)).mp c_1
    refine lv_aload_n hx hb dX5_insert_41 rfl (lv_at hl 1 rfl) ?_
    refine va_get (D := (dC, dI)) (ci := 5) (v := .ref pwa) (C := RX5) (T := TX5) (N := 5) hx hb hts inX5 hown hK hP 0 rfl rfl 0 (by decide) (hts _ mw_184) (fun _ h9 => h9) rfl dX5_insert_42 ?_
    refine lv_iload_n hx hb dX5_insert_45 rfl (lv_at hl 0 rfl) ?_
    refine lv_iload_n hx hb dX5_insert_46 rfl (lv_at hl 2 rfl) ?_
    refine va_iast hx hb hK hP hD hS 1 0 rfl rfl (vp_in_nI (show i < 14 by omega) (by first | decide | omega)) dX5_insert_47 (fun H locs hP hD hS => ?_)
    rw [(show ((nI i) : Int32).toNatClampNeg = i from nI_clamp (by omega))] at hP hD
    have hP : va_P (dC, dI) vwCl [(h, .inr (5, [.ref pwa, .int (nI pm), .int lw, .int hg, va_rf kn])), (pwa, .inl (ca 0, 14, .inl (upd w1_ i v1)))] H := hP
    have hD : va_D A [(h, .inr (5, [.ref pwa, .int (nI pm), .int lw, .int hg, va_rf kn])), (pwa, .inl (ca 0, 14, .inl (upd w1_ i v1)))] := hD
    refine lv_aload_n hx hb dX5_insert_48 rfl (lv_at hl 1 rfl) ?_
    refine lv_dup hx hb dX5_insert_49 rfl ?_
    refine va_get (D := (dC, dI)) (ci := 5) (v := .int (nI pm)) (C := RX5) (T := TX5) (N := 5) hx hb hts inX5 hown hK hP 0 rfl rfl 1 (by decide) (hts _ mw_185) (fun _ h9 => h9) rfl dX5_insert_50 ?_
    refine lv_iconst (v := 1) hx hb dX5_insert_53 (by decide) ?_
    refine lv_iadd hx hb dX5_insert_54 ?_
    refine lv_topi (fun y_ e_ => ?_)
    obtain rfl : y_ = (nI (pm + 1)) := e_.trans (nI_add (pm) (1))
    refine va_put (D := (dC, dI)) (ci := 5) (v := .int (nI (pm + 1))) (ty := .int) (C := RX5) (T := TX5) (N := 5) hx hb hts inX5 tyX5 tyX5_ok nmX5 hown hK hP hD hS 0 rfl rfl 1 (by decide) (hts _ mw_185) (fun _ h9 => h9) rfl (by decide +kernel) rfl rfl (Nat.le_of_ble_eq_true rfl) dX5_insert_55 (fun H locs hP hD hS => ?_)
    have hP : va_P (dC, dI) vwCl [(h, .inr (5, [.ref pwa, .int (nI (pm + 1)), .int lw, .int hg, va_rf kn])), (pwa, .inl (ca 0, 14, .inl (upd w1_ i v1)))] H := hP
    have hD : va_D A [(h, .inr (5, [.ref pwa, .int (nI (pm + 1)), .int lw, .int hg, va_rf kn])), (pwa, .inl (ca 0, 14, .inl (upd w1_ i v1)))] := hD
    refine W.widen (k := 0) (n := 0) (Nat.le_of_ble_eq_true rfl) (Nat.le_of_ble_eq_true rfl) ?_
    have hP9 : va_P (dC, dI) vwCl [(h, .inr (5, [.ref pwa, .int (nI (pm + 1)), .int lw, .int hg, va_rf kn])), (pwa, .inl (ca 0, 14, .inl (upd w1_ i v1)))] H := va_P.sub hP [0, 1] rfl
    have hD9 : va_D A [(h, .inr (5, [.ref pwa, .int (nI (pm + 1)), .int lw, .int hg, va_rf kn])), (pwa, .inl (ca 0, 14, .inl (upd w1_ i v1)))] := va_D.sub hD [0, 1] (by decide) rfl
    exact W.vret hx hb hr (fun t ht hW => ⟨⟨(upd w1_ i v1), rfl, trivial, by rw [ht]; exact hP9, hD9⟩, hS.F ht⟩) hS.2.2 dX5_insert_58
  · have nc_1 : ¬ (i ≤ 0) := fun h9 => c_1 ((nI_leI (a := i) (b := 0) (by omega) (by omega)).mpr h9)
    refine lv_aload_n hx hb dX5_insert_9 rfl (lv_at hl 1 rfl) ?_
    refine va_get (D := (dC, dI)) (ci := 5) (v := .ref pwa) (C := RX5) (T := TX5) (N := 5) hx hb hts inX5 hown hK hP 0 rfl rfl 0 (by decide) (hts _ mw_184) (fun _ h9 => h9) rfl dX5_insert_10 ?_
    refine lv_iload_n hx hb dX5_insert_13 rfl (lv_at hl 0 rfl) ?_
    refine lv_iconst (v := 1) hx hb dX5_insert_14 (by decide) ?_
    refine lv_isub hx hb dX5_insert_15 ?_
    refine lv_topi (fun y_ e_ => ?_)
    obtain rfl : y_ = (nI (i - 1)) := e_.trans (pk_sub (show 1 ≤ i by omega))
    refine va_iald hx hb hK hP 1 0 rfl rfl (vp_in_nI (show i - 1 < 14 by omega) (by first | decide | omega)) dX5_insert_16 ?_
    refine lv_topi (fun y_ e_ => ?_)
    obtain rfl : y_ = (w1_ (i - 1)) := e_.trans (congrArg w1_ (show ((nI (i - 1)) : Int32).toNatClampNeg = i - 1 from nI_clamp (by omega)))
    refine lv_iload_n hx hb dX5_insert_17 rfl (lv_at hl 2 rfl) ?_
    refine lv_icmp_ge (tgt := 41) hx hb dX5_insert_18 (by decide) (fun c_2 => ?_) (fun c_2 => ?_)
    · refine lv_aload_n hx hb dX5_insert_41 rfl (lv_at hl 1 rfl) ?_
      refine va_get (D := (dC, dI)) (ci := 5) (v := .ref pwa) (C := RX5) (T := TX5) (N := 5) hx hb hts inX5 hown hK hP 0 rfl rfl 0 (by decide) (hts _ mw_184) (fun _ h9 => h9) rfl dX5_insert_42 ?_
      refine lv_iload_n hx hb dX5_insert_45 rfl (lv_at hl 0 rfl) ?_
      refine lv_iload_n hx hb dX5_insert_46 rfl (lv_at hl 2 rfl) ?_
      refine va_iast hx hb hK hP hD hS 1 0 rfl rfl (vp_in_nI (show i < 14 by omega) (by first | decide | omega)) dX5_insert_47 (fun H locs hP hD hS => ?_)
      rw [(show ((nI i) : Int32).toNatClampNeg = i from nI_clamp (by omega))] at hP hD
      have hP : va_P (dC, dI) vwCl [(h, .inr (5, [.ref pwa, .int (nI pm), .int lw, .int hg, va_rf kn])), (pwa, .inl (ca 0, 14, .inl (upd w1_ i v1)))] H := hP
      have hD : va_D A [(h, .inr (5, [.ref pwa, .int (nI pm), .int lw, .int hg, va_rf kn])), (pwa, .inl (ca 0, 14, .inl (upd w1_ i v1)))] := hD
      refine lv_aload_n hx hb dX5_insert_48 rfl (lv_at hl 1 rfl) ?_
      refine lv_dup hx hb dX5_insert_49 rfl ?_
      refine va_get (D := (dC, dI)) (ci := 5) (v := .int (nI pm)) (C := RX5) (T := TX5) (N := 5) hx hb hts inX5 hown hK hP 0 rfl rfl 1 (by decide) (hts _ mw_185) (fun _ h9 => h9) rfl dX5_insert_50 ?_
      refine lv_iconst (v := 1) hx hb dX5_insert_53 (by decide) ?_
      refine lv_iadd hx hb dX5_insert_54 ?_
      refine lv_topi (fun y_ e_ => ?_)
      obtain rfl : y_ = (nI (pm + 1)) := e_.trans (nI_add (pm) (1))
      refine va_put (D := (dC, dI)) (ci := 5) (v := .int (nI (pm + 1))) (ty := .int) (C := RX5) (T := TX5) (N := 5) hx hb hts inX5 tyX5 tyX5_ok nmX5 hown hK hP hD hS 0 rfl rfl 1 (by decide) (hts _ mw_185) (fun _ h9 => h9) rfl (by decide +kernel) rfl rfl (Nat.le_of_ble_eq_true rfl) dX5_insert_55 (fun H locs hP hD hS => ?_)
      have hP : va_P (dC, dI) vwCl [(h, .inr (5, [.ref pwa, .int (nI (pm + 1)), .int lw, .int hg, va_rf kn])), (pwa, .inl (ca 0, 14, .inl (upd w1_ i v1)))] H := hP
      have hD : va_D A [(h, .inr (5, [.ref pwa, .int (nI (pm + 1)), .int lw, .int hg, va_rf kn])), (pwa, .inl (ca 0, 14, .inl (upd w1_ i v1)))] := hD
      refine W.widen (k := 0) (n := 0) (Nat.le_of_ble_eq_true rfl) (Nat.le_of_ble_eq_true rfl) ?_
      have hP9 : va_P (dC, dI) vwCl [(h, .inr (5, [.ref pwa, .int (nI (pm + 1)), .int lw, .int hg, va_rf kn])), (pwa, .inl (ca 0, 14, .inl (upd w1_ i v1)))] H := va_P.sub hP [0, 1] rfl
      have hD9 : va_D A [(h, .inr (5, [.ref pwa, .int (nI (pm + 1)), .int lw, .int hg, va_rf kn])), (pwa, .inl (ca 0, 14, .inl (upd w1_ i v1)))] := va_D.sub hD [0, 1] (by decide) rfl
      exact W.vret hx hb hr (fun t ht hW => ⟨⟨(upd w1_ i v1), rfl, trivial, by rw [ht]; exact hP9, hD9⟩, hS.F ht⟩) hS.2.2 dX5_insert_58
    · refine lv_aload_n hx hb dX5_insert_21 rfl (lv_at hl 1 rfl) ?_
      refine va_get (D := (dC, dI)) (ci := 5) (v := .ref pwa) (C := RX5) (T := TX5) (N := 5) hx hb hts inX5 hown hK hP 0 rfl rfl 0 (by decide) (hts _ mw_184) (fun _ h9 => h9) rfl dX5_insert_22 ?_
      refine lv_iload_n hx hb dX5_insert_25 rfl (lv_at hl 0 rfl) ?_
      refine lv_aload_n hx hb dX5_insert_26 rfl (lv_at hl 1 rfl) ?_
      refine va_get (D := (dC, dI)) (ci := 5) (v := .ref pwa) (C := RX5) (T := TX5) (N := 5) hx hb hts inX5 hown hK hP 0 rfl rfl 0 (by decide) (hts _ mw_184) (fun _ h9 => h9) rfl dX5_insert_27 ?_
      refine lv_iload_n hx hb dX5_insert_30 rfl (lv_at hl 0 rfl) ?_
      refine lv_iconst (v := 1) hx hb dX5_insert_31 (by decide) ?_
      refine lv_isub hx hb dX5_insert_32 ?_
      refine lv_topi (fun y_ e_ => ?_)
      obtain rfl : y_ = (nI (i - 1)) := e_.trans (pk_sub (show 1 ≤ i by omega))
      refine va_iald hx hb hK hP 1 0 rfl rfl (vp_in_nI (show i - 1 < 14 by omega) (by first | decide | omega)) dX5_insert_33 ?_
      refine lv_topi (fun y_ e_ => ?_)
      obtain rfl : y_ = (w1_ (i - 1)) := e_.trans (congrArg w1_ (show ((nI (i - 1)) : Int32).toNatClampNeg = i - 1 from nI_clamp (by omega)))
      refine va_iast hx hb hK hP hD hS 1 0 rfl rfl (vp_in_nI (show i < 14 by omega) (by first | decide | omega)) dX5_insert_34 (fun H locs hP hD hS => ?_)
      rw [(show ((nI i) : Int32).toNatClampNeg = i from nI_clamp (by omega))] at hP hD
      have hP : va_P (dC, dI) vwCl [(h, .inr (5, [.ref pwa, .int (nI pm), .int lw, .int hg, va_rf kn])), (pwa, .inl (ca 0, 14, .inl (upd w1_ i (w1_ (i - 1)))))] H := hP
      have hD : va_D A [(h, .inr (5, [.ref pwa, .int (nI pm), .int lw, .int hg, va_rf kn])), (pwa, .inl (ca 0, 14, .inl (upd w1_ i (w1_ (i - 1)))))] := hD
      refine lv_iinc (v := (nI (i - 1))) (lv' := [(2, .int (nI (i - 1))), (0, .ref h), (1, .int v1)]) hx hb dX5_insert_35 hl (k := 0) rfl (nI_dec (by omega)) (by decide) rfl (fun ls hl => ?_)
      refine lv_goto (tgt := 5) hx hb dX5_insert_38 (by decide) ?_
      exact ih (i - 1, (upd w1_ i (w1_ (i - 1)))) _ _ _ (by omega) ⟨(by omega), hP, hD, hS, lv_sub hl [0, 1, 2] rfl⟩

set_option maxHeartbeats 4000000 in
set_option maxRecDepth 100000 in
theorem q_forget (l : Launch) (dC : Nat → ClassId) (dI : Nat → Nat → Nat) (ca : Nat → ClassId) (sz : Nat) (h : Nat) (pwa : Nat) (pm : Nat) (lw : Int32) (hg : Int32) (sm : Option Nat) (SM : Nat → Int64) (kn : Option Nat) (kl : Nat) (KN : Nat → Int32) (tl : va_W) (hpm : pm ≤ 14) (hkx : kl ≤ 16384) : Met l yX5_forget (Cond.code yX5_forget cX5_forget 3 none :: gT) ({ frames := 1, cells := (kM kn kl pm), slots := (16384 * kM kn kl pm), locals := 60 }) (va_Pc [.ref h] (pr (dC, dI) sz ([(h, .inr (5, [.ref pwa, .int (nI pm), .int lw, .int hg, va_rf kn]))] ++ (oS ca sm SM ++ (oK ca kn kl KN ++ tl))) (aT ca))) (va_Qv (fun (u_ : Nat × Nat × (Nat → Int32)) => 2 ^ pm ≤ u_.2.1 ∧ u_.2.1 ≤ 16384 ∧ u_.2.1 = (if kM kn kl pm = 1 then 2 ^ pm else kl)) (fun (u_ : Nat × Nat × (Nat → Int32)) t => va_P (dC, dI) vwCl ([(h, .inr (5, [.ref pwa, .int (nI pm), .int lw, .int hg, .ref u_.1])), (u_.1, .inl (ca 2, u_.2.1, .inl u_.2.2))] ++ (oS ca sm SM ++ tl)) t.heap ∧ va_D (va_A ([(h, .inr (5, [.ref pwa, .int (nI pm), .int lw, .int hg, va_rf kn]))] ++ (oS ca sm SM ++ (oK ca kn kl KN ++ tl))) sz) ([(h, .inr (5, [.ref pwa, .int (nI pm), .int lw, .int hg, .ref u_.1])), (u_.1, .inl (ca 2, u_.2.1, .inl u_.2.2))] ++ (oS ca sm SM ++ tl))) (va_A ([(h, .inr (5, [.ref pwa, .int (nI pm), .int lw, .int hg, va_rf kn]))] ++ (oS ca sm SM ++ (oK ca kn kl KN ++ tl))) sz)) (kM kn kl pm) (16384 * kM kn kl pm) (va_A ([(h, .inr (5, [.ref pwa, .int (nI pm), .int lw, .int hg, va_rf kn]))] ++ (oS ca sm SM ++ (oK ca kn kl KN ++ tl))) sz) := by
  refine Met.ofW (cc := cX5_forget) (maxL := 3) (ret := none) (by decide) rfl ?_
  intro p e s m args below meth c s₁ B hml hv
  obtain ⟨rfl, hsz, hP, hK, hD0, hE⟩ := hv
  have hx := B.exec
  have hb := B.bytes
  have hr := B.returns
  have hts : ∀ w ∈ gT, w.before _ s = true := fun w h => atoms_spec (ws := Cond.code yX5_forget cX5_forget 3 none :: gT) B.pre w (List.mem_cons_of_mem _ h)
  have hown : s.vm.findClass RX5 = some m.cls := findClass_of_methodNamed B.named
  have hlocks := B.notSynchronized
  subst hsz
  have hD := hD0.self (sz := s.heap.size)
  generalize hAe : va_A ([(h, .inr (5, [.ref pwa, .int (nI pm), .int lw, .int hg, va_rf kn]))] ++ (oS ca sm SM ++ (oK ca kn kl KN ++ tl))) s.heap.size = A at hD ⊢
  have hA : ∀ q : Nat, s.heap.size ≤ q → A q := fun q h => by rw [← hAe]; exact Or.inr h
  have hS : va_S A s.heap s.heap [] := va_S.rf
  have hl := lv_entry ([.ref h]) (n := 3) (Nat.le_of_ble_eq_true rfl)
  rw [lg_entry_eq]
  generalize (lg_sl ([.ref h]) ++ List.replicate (3 - (lg_sl ([.ref h])).length) Slot.unset).toArray = ls at hl ⊢
  have hl : lv_has ls 3 [(0, .ref h)] := hl
  have hp2 := p14 hpm
  have hp0 := Nat.two_pow_pos pm
  refine lv_iconst (v := 1) hx hb dX5_forget_0 (by decide) ?_
  refine lv_aload_n hx hb dX5_forget_1 rfl (lv_at hl 0 rfl) ?_
  refine va_get (D := (dC, dI)) (ci := 5) (v := .int (nI pm)) (C := RX5) (T := TX5) (N := 5) hx hb hts inX5 hown hK hP 0 rfl rfl 1 (by decide) (hts _ mw_185) (fun _ h9 => h9) rfl dX5_forget_2 ?_
  refine lv_ishl hx hb dX5_forget_5 ?_
  refine lv_topi (fun y_ e_ => ?_)
  obtain rfl : y_ = (nI (2 ^ pm)) := e_.trans (tb_sh (by omega))
  refine lv_istore_n (lv' := [(1, .int (nI (2 ^ pm))), (0, .ref h)]) hx hb dX5_forget_6 rfl hl (by decide) rfl (fun ls hl => ?_)
  refine lv_aload_n hx hb dX5_forget_7 rfl (lv_at hl 1 rfl) ?_
  refine va_get (D := (dC, dI)) (ci := 5) (v := va_rf kn) (C := RX5) (T := TX5) (N := 5) hx hb hts inX5 hown hK hP 0 rfl rfl 4 (by decide) (hts _ mw_188) (fun _ h9 => h9) rfl dX5_forget_8 ?_
  cases kn with
  | none =>
    have hl : lv_has ls 3 [(1, .int (nI (2 ^ pm))), (0, .ref h)] := hl
    refine W.eq (g2 := F0 m 11 ls [.null]) rfl ?_
    refine lv_ifnullN (tgt := 23) hx hb dX5_forget_11 (by decide) ?_
    have hP : va_P (dC, dI) vwCl ([(h, .inr (5, [.ref pwa, .int (nI pm), .int lw, .int hg, .null]))] ++ (oS ca sm SM ++ tl)) s.heap := hP
    have hD : va_D A ([(h, .inr (5, [.ref pwa, .int (nI pm), .int lw, .int hg, .null]))] ++ (oS ca sm SM ++ tl)) := hD
    have hkM := kM_n kl pm
    refine lv_aload_n hx hb dX5_forget_23 rfl (lv_at hl 1 rfl) ?_
    refine lv_iload_n hx hb dX5_forget_24 rfl (lv_at hl 0 rfl) ?_
    refine va_newa (atype := .byte) (ty := .byte) (a0 := ((2 ^ pm), .inl (fun _ => 0))) hx hb (hts _ mw_761) rfl hK hP hD hS hA (fun _ => rfl) (nI_pos (by omega)) (nI_clamp (by omega)) (by show (2 ^ pm) * 1 ≤ 536870912; omega) (by show (0 + 1) ≤ (kM none kl pm); omega) (by show (0 + (2 ^ pm)) ≤ (16384 * kM none kl pm); omega) dX5_forget_25 (fun q2 y2 H hK9 hP hD hS => ?_)
    obtain rfl : y2 = ca 2 := ca_eq hK9 (tys := aT ca) 2 rfl
    have hP := va_P.swap (a := [(h, .inr (5, [.ref pwa, .int (nI pm), .int lw, .int hg, .null]))]) hP
    have hD := va_D.swap (a := [(h, .inr (5, [.ref pwa, .int (nI pm), .int lw, .int hg, .null]))]) hD
    have hP : va_P (dC, dI) vwCl ([(h, .inr (5, [.ref pwa, .int (nI pm), .int lw, .int hg, .null])), (q2, .inl (ca 2, (2 ^ pm), .inl (fun _ => 0)))] ++ (oS ca sm SM ++ tl)) H := hP
    have hD : va_D A ([(h, .inr (5, [.ref pwa, .int (nI pm), .int lw, .int hg, .null])), (q2, .inl (ca 2, (2 ^ pm), .inl (fun _ => 0)))] ++ (oS ca sm SM ++ tl)) := hD
    refine va_put (D := (dC, dI)) (ci := 5) (v := .ref q2) (ty := .array .byte) (C := RX5) (T := TX5) (N := 5) hx hb hts inX5 tyX5 tyX5_ok nmX5 hown hK hP hD hS 0 rfl rfl 4 (by decide) (hts _ mw_188) (fun _ h9 => h9) rfl (by decide +kernel) rfl rfl (Nat.le_of_ble_eq_true rfl) dX5_forget_27 (fun H locs hP hD hS => ?_)
    have hP : va_P (dC, dI) vwCl ([(h, .inr (5, [.ref pwa, .int (nI pm), .int lw, .int hg, .ref q2])), (q2, .inl (ca 2, (2 ^ pm), .inl (fun _ => 0)))] ++ (oS ca sm SM ++ tl)) H := hP
    have hD : va_D A ([(h, .inr (5, [.ref pwa, .int (nI pm), .int lw, .int hg, .ref q2])), (q2, .inl (ca 2, (2 ^ pm), .inl (fun _ => 0)))] ++ (oS ca sm SM ++ tl)) := hD
    refine lv_iconst (v := 0) hx hb dX5_forget_30 (by decide) ?_
    refine lv_istore_n (lv' := [(2, .int 0), (1, .int (nI (2 ^ pm))), (0, .ref h)]) hx hb dX5_forget_31 rfl hl (by decide) rfl (fun ls hl => ?_)
    refine wl_loop (fun (z_ : Nat × (Nat → Int32)) H locs ls => (z_.1 ≤ 2 ^ pm) ∧ va_P (dC, dI) vwCl ([(h, .inr (5, [.ref pwa, .int (nI pm), .int lw, .int hg, .ref q2])), (q2, .inl (ca 2, (2 ^ pm), .inl z_.2))] ++ (oS ca sm SM ++ tl)) H ∧ va_D A ([(h, .inr (5, [.ref pwa, .int (nI pm), .int lw, .int hg, .ref q2])), (q2, .inl (ca 2, (2 ^ pm), .inl z_.2))] ++ (oS ca sm SM ++ tl)) ∧ va_S A s.heap H locs ∧ lv_has ls 3 [(2, .int (nI z_.1)), (1, .int (nI (2 ^ pm))), (0, .ref h)]) (fun (z_ : Nat × (Nat → Int32)) => 2 ^ pm - z_.1) (fun z_ H locs ls hI ih => ?_) (0, (fun _ => 0)) ⟨(Nat.zero_le _), hP, hD, hS, lv_sub hl [0, 1, 2] rfl⟩
    obtain ⟨i, K1⟩ := z_
    dsimp only at hI ih
    obtain ⟨hi, hP, hD, hS, hl⟩ := hI
    refine lv_iload_n hx hb dX5_forget_32 rfl (lv_at hl 0 rfl) ?_
    refine lv_iload_n hx hb dX5_forget_33 rfl (lv_at hl 1 rfl) ?_
    refine lv_icmp_ge (tgt := 50) hx hb dX5_forget_34 (by decide) (fun c_3 => ?_) (fun c_3 => ?_)
    · have nc_3 : 2 ^ pm ≤ i := (nI_leI (a := 2 ^ pm) (b := i) (by omega) (by omega)).mp c_3
      refine W.widen (k := (kM none kl pm)) (n := (16384 * kM none kl pm)) (by omega) (by omega) ?_
      have hP9 : va_P (dC, dI) vwCl ([(h, .inr (5, [.ref pwa, .int (nI pm), .int lw, .int hg, .ref q2])), (q2, .inl (ca 2, (2 ^ pm), .inl K1))] ++ (oS ca sm SM ++ tl)) H := va_P.part (X := [(h, .inr (5, [.ref pwa, .int (nI pm), .int lw, .int hg, .ref q2])), (q2, .inl (ca 2, (2 ^ pm), .inl K1))]) hP [0, 1] rfl
      have hD9 : va_D A ([(h, .inr (5, [.ref pwa, .int (nI pm), .int lw, .int hg, .ref q2])), (q2, .inl (ca 2, (2 ^ pm), .inl K1))] ++ (oS ca sm SM ++ tl)) := va_D.part (X := [(h, .inr (5, [.ref pwa, .int (nI pm), .int lw, .int hg, .ref q2])), (q2, .inl (ca 2, (2 ^ pm), .inl K1))]) hD [0, 1] (by decide) rfl
      exact W.vret hx hb hr (fun t ht hW => ⟨⟨(q2, (2 ^ pm), K1), rfl, ⟨Nat.le_refl _, p14 hpm, by rw [hkM, if_pos rfl]⟩, by rw [ht]; exact hP9, hD9⟩, hS.F ht⟩) hS.2.2 dX5_forget_50
    · have nc_3 : ¬ (2 ^ pm ≤ i) := fun h9 => c_3 ((nI_leI (a := 2 ^ pm) (b := i) (by omega) (by omega)).mpr h9)
      refine lv_aload_n hx hb dX5_forget_37 rfl (lv_at hl 2 rfl) ?_
      refine va_get (D := (dC, dI)) (ci := 5) (v := .ref q2) (C := RX5) (T := TX5) (N := 5) hx hb hts inX5 hown hK hP 0 rfl rfl 4 (by decide) (hts _ mw_188) (fun _ h9 => h9) rfl dX5_forget_38 ?_
      refine lv_iload_n hx hb dX5_forget_41 rfl (lv_at hl 0 rfl) ?_
      refine lv_iconst (v := (-1)) hx hb dX5_forget_42 (by decide) ?_
      refine va_bast hx hb hK hP hD hS 1 2 rfl rfl (vp_in_nI (show i < (2 ^ pm) by omega) (by first | decide | omega)) dX5_forget_43 (fun H locs hP hD hS => ?_)
      rw [(show ((nI i) : Int32).toNatClampNeg = i from nI_clamp (by omega))] at hP hD
      have hP : va_P (dC, dI) vwCl ([(h, .inr (5, [.ref pwa, .int (nI pm), .int lw, .int hg, .ref q2])), (q2, .inl (ca 2, (2 ^ pm), .inl (upd K1 i (vp_nar .byte (-1)))))] ++ (oS ca sm SM ++ tl)) H := hP
      have hD : va_D A ([(h, .inr (5, [.ref pwa, .int (nI pm), .int lw, .int hg, .ref q2])), (q2, .inl (ca 2, (2 ^ pm), .inl (upd K1 i (vp_nar .byte (-1)))))] ++ (oS ca sm SM ++ tl)) := hD
      refine lv_iinc (v := (nI (i + 1))) (lv' := [(2, .int (nI (i + 1))), (1, .int (nI (2 ^ pm))), (0, .ref h)]) hx hb dX5_forget_44 hl (k := 0) rfl (nI_add (i) 1) (by decide) rfl (fun ls hl => ?_)
      refine lv_goto (tgt := 32) hx hb dX5_forget_47 (by decide) ?_
      exact ih (i + 1, (upd K1 i (vp_nar .byte (-1)))) _ _ _ (by omega) ⟨(by omega), hP, hD, hS, lv_sub hl [0, 1, 2] rfl⟩
  | some b1 =>
    have hl : lv_has ls 3 [(1, .int (nI (2 ^ pm))), (0, .ref h)] := hl
    refine W.eq (g2 := F0 m 11 ls [.ref b1]) rfl ?_
    refine lv_ifnull hx hb dX5_forget_11 ?_
    have hP := va_fo (X := [(h, .inr (5, [.ref pwa, .int (nI pm), .int lw, .int hg, .ref b1]))]) (tl1 (List.Perm.refl _)) hP
    have hD := va_fo_D (X := [(h, .inr (5, [.ref pwa, .int (nI pm), .int lw, .int hg, .ref b1]))]) (tl1 (List.Perm.refl _)) hD
    have hP : va_P (dC, dI) vwCl ([(h, .inr (5, [.ref pwa, .int (nI pm), .int lw, .int hg, .ref b1])), (b1, .inl (ca 2, kl, .inl KN))] ++ (oS ca sm SM ++ tl)) s.heap := hP
    have hD : va_D A ([(h, .inr (5, [.ref pwa, .int (nI pm), .int lw, .int hg, .ref b1])), (b1, .inl (ca 2, kl, .inl KN))] ++ (oS ca sm SM ++ tl)) := hD
    refine lv_aload_n hx hb dX5_forget_14 rfl (lv_at hl 1 rfl) ?_
    refine va_get (D := (dC, dI)) (ci := 5) (v := .ref b1) (C := RX5) (T := TX5) (N := 5) hx hb hts inX5 hown hK hP 0 rfl rfl 4 (by decide) (hts _ mw_188) (fun _ h9 => h9) rfl dX5_forget_15 ?_
    refine va_alen (v := (nI kl)) hx hb hK hP 1 2 rfl rfl rfl dX5_forget_18 ?_
    refine lv_iload_n hx hb dX5_forget_19 rfl (lv_at hl 0 rfl) ?_
    refine lv_icmp_ge (tgt := 30) hx hb dX5_forget_20 (by decide) (fun c_4 => ?_) (fun c_4 => ?_)
    · have nc_4 : 2 ^ pm ≤ kl := (nI_leI (a := 2 ^ pm) (b := kl) (by omega) (by omega)).mp c_4
      refine lv_iconst (v := 0) hx hb dX5_forget_30 (by decide) ?_
      refine lv_istore_n (lv' := [(2, .int 0), (1, .int (nI (2 ^ pm))), (0, .ref h)]) hx hb dX5_forget_31 rfl hl (by decide) rfl (fun ls hl => ?_)
      refine wl_loop (fun (z_ : Nat × (Nat → Int32)) H locs ls => (z_.1 ≤ 2 ^ pm) ∧ va_P (dC, dI) vwCl ([(h, .inr (5, [.ref pwa, .int (nI pm), .int lw, .int hg, .ref b1])), (b1, .inl (ca 2, kl, .inl z_.2))] ++ (oS ca sm SM ++ tl)) H ∧ va_D A ([(h, .inr (5, [.ref pwa, .int (nI pm), .int lw, .int hg, .ref b1])), (b1, .inl (ca 2, kl, .inl z_.2))] ++ (oS ca sm SM ++ tl)) ∧ va_S A s.heap H locs ∧ lv_has ls 3 [(2, .int (nI z_.1)), (1, .int (nI (2 ^ pm))), (0, .ref h)]) (fun (z_ : Nat × (Nat → Int32)) => 2 ^ pm - z_.1) (fun z_ H locs ls hI ih => ?_) (0, KN) ⟨(Nat.zero_le _), hP, hD, hS, lv_sub hl [0, 1, 2] rfl⟩
      obtain ⟨i, K1⟩ := z_
      dsimp only at hI ih
      obtain ⟨hi, hP, hD, hS, hl⟩ := hI
      refine lv_iload_n hx hb dX5_forget_32 rfl (lv_at hl 0 rfl) ?_
      refine lv_iload_n hx hb dX5_forget_33 rfl (lv_at hl 1 rfl) ?_
      refine lv_icmp_ge (tgt := 50) hx hb dX5_forget_34 (by decide) (fun c_5 => ?_) (fun c_5 => ?_)
      · have nc_5 : 2 ^ pm ≤ i := (nI_leI (a := 2 ^ pm) (b := i) (by omega) (by omega)).mp c_5
        refine W.widen (k := (kM (some b1) kl pm)) (n := (16384 * kM (some b1) kl pm)) (by omega) (by omega) ?_
        have hP9 : va_P (dC, dI) vwCl ([(h, .inr (5, [.ref pwa, .int (nI pm), .int lw, .int hg, .ref b1])), (b1, .inl (ca 2, kl, .inl K1))] ++ (oS ca sm SM ++ tl)) H := va_P.part (X := [(h, .inr (5, [.ref pwa, .int (nI pm), .int lw, .int hg, .ref b1])), (b1, .inl (ca 2, kl, .inl K1))]) hP [0, 1] rfl
        have hD9 : va_D A ([(h, .inr (5, [.ref pwa, .int (nI pm), .int lw, .int hg, .ref b1])), (b1, .inl (ca 2, kl, .inl K1))] ++ (oS ca sm SM ++ tl)) := va_D.part (X := [(h, .inr (5, [.ref pwa, .int (nI pm), .int lw, .int hg, .ref b1])), (b1, .inl (ca 2, kl, .inl K1))]) hD [0, 1] (by decide) rfl
        exact W.vret hx hb hr (fun t ht hW => ⟨⟨(b1, kl, K1), rfl, ⟨by omega, hkx, by rw [kM_s b1 (by omega), if_neg (by decide)]⟩, by rw [ht]; exact hP9, hD9⟩, hS.F ht⟩) hS.2.2 dX5_forget_50
      · have nc_5 : ¬ (2 ^ pm ≤ i) := fun h9 => c_5 ((nI_leI (a := 2 ^ pm) (b := i) (by omega) (by omega)).mpr h9)
        refine lv_aload_n hx hb dX5_forget_37 rfl (lv_at hl 2 rfl) ?_
        refine va_get (D := (dC, dI)) (ci := 5) (v := .ref b1) (C := RX5) (T := TX5) (N := 5) hx hb hts inX5 hown hK hP 0 rfl rfl 4 (by decide) (hts _ mw_188) (fun _ h9 => h9) rfl dX5_forget_38 ?_
        refine lv_iload_n hx hb dX5_forget_41 rfl (lv_at hl 0 rfl) ?_
        refine lv_iconst (v := (-1)) hx hb dX5_forget_42 (by decide) ?_
        refine va_bast hx hb hK hP hD hS 1 2 rfl rfl (vp_in_nI (show i < kl by omega) (by first | decide | omega)) dX5_forget_43 (fun H locs hP hD hS => ?_)
        rw [(show ((nI i) : Int32).toNatClampNeg = i from nI_clamp (by omega))] at hP hD
        have hP : va_P (dC, dI) vwCl ([(h, .inr (5, [.ref pwa, .int (nI pm), .int lw, .int hg, .ref b1])), (b1, .inl (ca 2, kl, .inl (upd K1 i (vp_nar .byte (-1)))))] ++ (oS ca sm SM ++ tl)) H := hP
        have hD : va_D A ([(h, .inr (5, [.ref pwa, .int (nI pm), .int lw, .int hg, .ref b1])), (b1, .inl (ca 2, kl, .inl (upd K1 i (vp_nar .byte (-1)))))] ++ (oS ca sm SM ++ tl)) := hD
        refine lv_iinc (v := (nI (i + 1))) (lv' := [(2, .int (nI (i + 1))), (1, .int (nI (2 ^ pm))), (0, .ref h)]) hx hb dX5_forget_44 hl (k := 0) rfl (nI_add (i) 1) (by decide) rfl (fun ls hl => ?_)
        refine lv_goto (tgt := 32) hx hb dX5_forget_47 (by decide) ?_
        exact ih (i + 1, (upd K1 i (vp_nar .byte (-1)))) _ _ _ (by omega) ⟨(by omega), hP, hD, hS, lv_sub hl [0, 1, 2] rfl⟩
    · have nc_4 : ¬ (2 ^ pm ≤ kl) := fun h9 => c_4 ((nI_leI (a := 2 ^ pm) (b := kl) (by omega) (by omega)).mpr h9)
      have hkM := kM_g b1 (show kl < 2 ^ pm by omega)
      refine lv_aload_n hx hb dX5_forget_23 rfl (lv_at hl 1 rfl) ?_
      refine lv_iload_n hx hb dX5_forget_24 rfl (lv_at hl 0 rfl) ?_
      refine va_newa (atype := .byte) (ty := .byte) (a0 := ((2 ^ pm), .inl (fun _ => 0))) hx hb (hts _ mw_761) rfl hK hP hD hS hA (fun _ => rfl) (nI_pos (by omega)) (nI_clamp (by omega)) (by show (2 ^ pm) * 1 ≤ 536870912; omega) (by show (0 + 1) ≤ (kM (some b1) kl pm); omega) (by show (0 + (2 ^ pm)) ≤ (16384 * kM (some b1) kl pm); omega) dX5_forget_25 (fun q6 y6 H hK9 hP hD hS => ?_)
      obtain rfl : y6 = ca 2 := ca_eq hK9 (tys := aT ca) 2 rfl
      have hP := va_P.swap (a := [(h, .inr (5, [.ref pwa, .int (nI pm), .int lw, .int hg, .ref b1])), (b1, .inl (ca 2, kl, .inl KN))]) hP
      have hD := va_D.swap (a := [(h, .inr (5, [.ref pwa, .int (nI pm), .int lw, .int hg, .ref b1])), (b1, .inl (ca 2, kl, .inl KN))]) hD
      have hP : va_P (dC, dI) vwCl ([(h, .inr (5, [.ref pwa, .int (nI pm), .int lw, .int hg, .ref b1])), (b1, .inl (ca 2, kl, .inl KN)), (q6, .inl (ca 2, (2 ^ pm), .inl (fun _ => 0)))] ++ (oS ca sm SM ++ tl)) H := hP
      have hD : va_D A ([(h, .inr (5, [.ref pwa, .int (nI pm), .int lw, .int hg, .ref b1])), (b1, .inl (ca 2, kl, .inl KN)), (q6, .inl (ca 2, (2 ^ pm), .inl (fun _ => 0)))] ++ (oS ca sm SM ++ tl)) := hD
      refine va_put (D := (dC, dI)) (ci := 5) (v := .ref q6) (ty := .array .byte) (C := RX5) (T := TX5) (N := 5) hx hb hts inX5 tyX5 tyX5_ok nmX5 hown hK hP hD hS 0 rfl rfl 4 (by decide) (hts _ mw_188) (fun _ h9 => h9) rfl (by decide +kernel) rfl rfl (Nat.le_of_ble_eq_true rfl) dX5_forget_27 (fun H locs hP hD hS => ?_)
      have hP : va_P (dC, dI) vwCl ([(h, .inr (5, [.ref pwa, .int (nI pm), .int lw, .int hg, .ref q6])), (b1, .inl (ca 2, kl, .inl KN)), (q6, .inl (ca 2, (2 ^ pm), .inl (fun _ => 0)))] ++ (oS ca sm SM ++ tl)) H := hP
      have hD : va_D A ([(h, .inr (5, [.ref pwa, .int (nI pm), .int lw, .int hg, .ref q6])), (b1, .inl (ca 2, kl, .inl KN)), (q6, .inl (ca 2, (2 ^ pm), .inl (fun _ => 0)))] ++ (oS ca sm SM ++ tl)) := hD
      refine lv_iconst (v := 0) hx hb dX5_forget_30 (by decide) ?_
      refine lv_istore_n (lv' := [(2, .int 0), (1, .int (nI (2 ^ pm))), (0, .ref h)]) hx hb dX5_forget_31 rfl hl (by decide) rfl (fun ls hl => ?_)
      refine wl_loop (fun (z_ : Nat × (Nat → Int32)) H locs ls => (z_.1 ≤ 2 ^ pm) ∧ va_P (dC, dI) vwCl ([(h, .inr (5, [.ref pwa, .int (nI pm), .int lw, .int hg, .ref q6])), (b1, .inl (ca 2, kl, .inl KN)), (q6, .inl (ca 2, (2 ^ pm), .inl z_.2))] ++ (oS ca sm SM ++ tl)) H ∧ va_D A ([(h, .inr (5, [.ref pwa, .int (nI pm), .int lw, .int hg, .ref q6])), (b1, .inl (ca 2, kl, .inl KN)), (q6, .inl (ca 2, (2 ^ pm), .inl z_.2))] ++ (oS ca sm SM ++ tl)) ∧ va_S A s.heap H locs ∧ lv_has ls 3 [(2, .int (nI z_.1)), (1, .int (nI (2 ^ pm))), (0, .ref h)]) (fun (z_ : Nat × (Nat → Int32)) => 2 ^ pm - z_.1) (fun z_ H locs ls hI ih => ?_) (0, (fun _ => 0)) ⟨(Nat.zero_le _), hP, hD, hS, lv_sub hl [0, 1, 2] rfl⟩
      obtain ⟨i, K1⟩ := z_
      dsimp only at hI ih
      obtain ⟨hi, hP, hD, hS, hl⟩ := hI
      refine lv_iload_n hx hb dX5_forget_32 rfl (lv_at hl 0 rfl) ?_
      refine lv_iload_n hx hb dX5_forget_33 rfl (lv_at hl 1 rfl) ?_
      refine lv_icmp_ge (tgt := 50) hx hb dX5_forget_34 (by decide) (fun c_7 => ?_) (fun c_7 => ?_)
      · have nc_7 : 2 ^ pm ≤ i := (nI_leI (a := 2 ^ pm) (b := i) (by omega) (by omega)).mp c_7
        refine W.widen (k := (kM (some b1) kl pm)) (n := (16384 * kM (some b1) kl pm)) (by omega) (by omega) ?_
        have hP9 : va_P (dC, dI) vwCl ([(h, .inr (5, [.ref pwa, .int (nI pm), .int lw, .int hg, .ref q6])), (q6, .inl (ca 2, (2 ^ pm), .inl K1))] ++ (oS ca sm SM ++ tl)) H := va_P.part (X := [(h, .inr (5, [.ref pwa, .int (nI pm), .int lw, .int hg, .ref q6])), (b1, .inl (ca 2, kl, .inl KN)), (q6, .inl (ca 2, (2 ^ pm), .inl K1))]) hP [0, 2] rfl
        have hD9 : va_D A ([(h, .inr (5, [.ref pwa, .int (nI pm), .int lw, .int hg, .ref q6])), (q6, .inl (ca 2, (2 ^ pm), .inl K1))] ++ (oS ca sm SM ++ tl)) := va_D.part (X := [(h, .inr (5, [.ref pwa, .int (nI pm), .int lw, .int hg, .ref q6])), (b1, .inl (ca 2, kl, .inl KN)), (q6, .inl (ca 2, (2 ^ pm), .inl K1))]) hD [0, 2] (by decide) rfl
        exact W.vret hx hb hr (fun t ht hW => ⟨⟨(q6, (2 ^ pm), K1), rfl, ⟨Nat.le_refl _, p14 hpm, by rw [hkM, if_pos rfl]⟩, by rw [ht]; exact hP9, hD9⟩, hS.F ht⟩) hS.2.2 dX5_forget_50
      · have nc_7 : ¬ (2 ^ pm ≤ i) := fun h9 => c_7 ((nI_leI (a := 2 ^ pm) (b := i) (by omega) (by omega)).mpr h9)
        refine lv_aload_n hx hb dX5_forget_37 rfl (lv_at hl 2 rfl) ?_
        refine va_get (D := (dC, dI)) (ci := 5) (v := .ref q6) (C := RX5) (T := TX5) (N := 5) hx hb hts inX5 hown hK hP 0 rfl rfl 4 (by decide) (hts _ mw_188) (fun _ h9 => h9) rfl dX5_forget_38 ?_
        refine lv_iload_n hx hb dX5_forget_41 rfl (lv_at hl 0 rfl) ?_
        refine lv_iconst (v := (-1)) hx hb dX5_forget_42 (by decide) ?_
        refine va_bast hx hb hK hP hD hS 2 2 rfl rfl (vp_in_nI (show i < (2 ^ pm) by omega) (by first | decide | omega)) dX5_forget_43 (fun H locs hP hD hS => ?_)
        rw [(show ((nI i) : Int32).toNatClampNeg = i from nI_clamp (by omega))] at hP hD
        have hP : va_P (dC, dI) vwCl ([(h, .inr (5, [.ref pwa, .int (nI pm), .int lw, .int hg, .ref q6])), (b1, .inl (ca 2, kl, .inl KN)), (q6, .inl (ca 2, (2 ^ pm), .inl (upd K1 i (vp_nar .byte (-1)))))] ++ (oS ca sm SM ++ tl)) H := hP
        have hD : va_D A ([(h, .inr (5, [.ref pwa, .int (nI pm), .int lw, .int hg, .ref q6])), (b1, .inl (ca 2, kl, .inl KN)), (q6, .inl (ca 2, (2 ^ pm), .inl (upd K1 i (vp_nar .byte (-1)))))] ++ (oS ca sm SM ++ tl)) := hD
        refine lv_iinc (v := (nI (i + 1))) (lv' := [(2, .int (nI (i + 1))), (1, .int (nI (2 ^ pm))), (0, .ref h)]) hx hb dX5_forget_44 hl (k := 0) rfl (nI_add (i) 1) (by decide) rfl (fun ls hl => ?_)
        refine lv_goto (tgt := 32) hx hb dX5_forget_47 (by decide) ?_
        exact ih (i + 1, (upd K1 i (vp_nar .byte (-1)))) _ _ _ (by omega) ⟨(by omega), hP, hD, hS, lv_sub hl [0, 1, 2] rfl⟩
