theorem cl6 {v : Int32} {N : Nat} (h : cnt v N) (hN : N < 2 ^ 31 := by decide) : v.toNatClampNeg < N + 1 := by
  obtain ⟨n, hn, rfl⟩ := h
  rw [nI_clamp (by omega)]
  omega
theorem cnt_bump {c : Nat → Int32} {i j N : Nat} (h : ∀ k, k < N → cnt (c k) i) (hj : j < N) : ∀ k, k < N → cnt (upd c j (c j + 1) k) (i + 1) := fun k hk => by
  by_cases e : k = j
  · subst e; rw [pk_us]; exact cnt_add (h k hk) ⟨1, by omega, rfl⟩
  · rw [pk_un e]; exact cnt_le (h k hk) (by omega)
theorem flg_c {f : Nat → Int32} {n : Nat} : ∀ k, k < n → cnt (flg f 0 n k) 0 := fun k hk => ⟨0, Nat.le_refl _, by unfold flg; rw [if_pos hk]; rfl⟩
theorem st_mul {t n k : Nat} (h1 : 1 ≤ t) (h2 : t ≤ 11 ^ k) (hn : n ≤ 10) : 1 ≤ t * (n + 1) ∧ t * (n + 1) ≤ 11 ^ (k + 1) := ⟨Nat.mul_pos h1 (by omega), by rw [Nat.pow_succ]; exact Nat.mul_le_mul h2 (by omega)⟩
theorem st_b {t k : Nat} (h2 : t ≤ 11 ^ k) (hk : k ≤ 6) : t ≤ 1771561 := Nat.le_trans h2 (Nat.le_trans (Nat.pow_le_pow_right (by decide) hk) (by decide))
theorem st_up {d : Nat → Int32} {k t : Nat} (h : ∀ j, j < k → cnt (d j) 1771561) (h2 : t ≤ 11 ^ k) (hk : k ≤ 6) : ∀ j, j < k + 1 → cnt (upd d k (nI t) j) 1771561 := fun j hj => by
  by_cases e : j = k
  · subst e; rw [pk_us]; exact ⟨t, st_b h2 hk, rfl⟩
  · rw [pk_un e]; exact h j (by omega)
theorem sub_toI {v : Int32} {k : Nat} (h1 : -1073741824 ≤ v.toInt ∧ v.toInt ≤ 323) (hk : k ≤ 1771561) : (v - nI k).toInt = v.toInt - k := by
  rw [Int32.toInt_sub, nI_toInt (by omega), Int.bmod_def]
  split <;> omega
theorem lo_in {v1 v2 d : Int32} (hs : -1073741824 ≤ v1.toInt ∧ v1.toInt ≤ 323) (h2 : cnt v2 5) (hd : cnt d 1771561) (hn : ¬ v1 - d < 0) : vp_in ((v1 - d) * 6 + v2) 1944 := by
  obtain ⟨k, hk, rfl⟩ := hd
  have h1 := sub_toI hs hk
  obtain ⟨j, hj, ej⟩ := nI_of hn
  rw [ej, nI_toInt hj] at h1
  rw [ej]
  exact (gr_in (A := 324) (B := 6) (vp_in_nI (show j < 324 by omega) (by decide)) (cnt_vp h2 (by decide) (by decide)) (by decide) (w := 6) (by decide) (by decide) (by decide)).1
theorem sd_st {s d : Int32} {i : Nat} (hi : i ≤ 10) (hs : -1771561 * (i : Int) ≤ s.toInt ∧ s.toInt ≤ 323) (hd : cnt d 1771561) : -1771561 * ((i + 1 : Nat) : Int) ≤ (s - d).toInt ∧ (s - d).toInt ≤ 323 := by
  obtain ⟨k, hk, rfl⟩ := hd
  rw [sub_toI ⟨by omega, hs.2⟩ hk]
  omega
theorem nI_st {n : Nat} (h : n ≤ 323) : -1073741824 ≤ (nI n).toInt ∧ (nI n).toInt ≤ 323 := by
  rw [nI_toInt (by omega)]
  omega

set_option maxHeartbeats 4000000 in
set_option maxRecDepth 100000 in
theorem e_countKinds (l : Launch) (dC : Nat → ClassId) (dI : Nat → Nat → Nat) (ca : Nat → ClassId) (sz : Nat) (h : Nat) (g0 : Nat) (g1 : Nat) (g2 : Nat) (g4 : Nat) (g8 : Nat) (g9 : Nat) (g10 : Nat) (g11 : Nat) (qm : Nat) (om : Int32) (kn : Int32) (kl : Int32) (lst : Option Nat) (kd : Nat → Int32) (ct : Nat → Int32) (sd : Nat → Int32) (hq : qI qm kd) : Met l yX3_countKinds (Cond.code yX3_countKinds cX3_countKinds 3 (some .int) :: gT) ({ frames := 2, cells := 0, slots := 0, locals := 83 }) (va_Pc [.ref h] (pr (dC, dI) sz [(h, .inr (3, [.ref g0, .ref g1, .ref g2, .int (nI qm), .ref g4, .int om, .int kn, .int kl, .ref g8, .ref g9, .ref g10, .ref g11, va_rf lst])), (g2, .inl (ca 0, 10, .inl kd)), (g9, .inl (ca 0, 6, .inl ct)), (g10, .inl (ca 0, 6, .inl sd))] (aT ca))) (va_Qi (fun (r : Int32) (u_ : (Nat → Int32) × (Nat → Int32)) => (∃ n : Nat, r = nI n ∧ 1 ≤ n ∧ n ≤ 324) ∧ ∀ j, j < 6 → cnt (u_.2 j) 1771561) (fun (u_ : (Nat → Int32) × (Nat → Int32)) t => va_P (dC, dI) vwCl [(h, .inr (3, [.ref g0, .ref g1, .ref g2, .int (nI qm), .ref g4, .int om, .int kn, .int kl, .ref g8, .ref g9, .ref g10, .ref g11, va_rf lst])), (g2, .inl (ca 0, 10, .inl kd)), (g9, .inl (ca 0, 6, .inl u_.1)), (g10, .inl (ca 0, 6, .inl u_.2))] t.heap ∧ va_D (va_A [(h, .inr (3, [.ref g0, .ref g1, .ref g2, .int (nI qm), .ref g4, .int om, .int kn, .int kl, .ref g8, .ref g9, .ref g10, .ref g11, va_rf lst])), (g2, .inl (ca 0, 10, .inl kd)), (g9, .inl (ca 0, 6, .inl ct)), (g10, .inl (ca 0, 6, .inl sd))] sz) [(h, .inr (3, [.ref g0, .ref g1, .ref g2, .int (nI qm), .ref g4, .int om, .int kn, .int kl, .ref g8, .ref g9, .ref g10, .ref g11, va_rf lst])), (g2, .inl (ca 0, 10, .inl kd)), (g9, .inl (ca 0, 6, .inl u_.1)), (g10, .inl (ca 0, 6, .inl u_.2))]) (va_A [(h, .inr (3, [.ref g0, .ref g1, .ref g2, .int (nI qm), .ref g4, .int om, .int kn, .int kl, .ref g8, .ref g9, .ref g10, .ref g11, va_rf lst])), (g2, .inl (ca 0, 10, .inl kd)), (g9, .inl (ca 0, 6, .inl ct)), (g10, .inl (ca 0, 6, .inl sd))] sz)) 0 0 (va_A [(h, .inr (3, [.ref g0, .ref g1, .ref g2, .int (nI qm), .ref g4, .int om, .int kn, .int kl, .ref g8, .ref g9, .ref g10, .ref g11, va_rf lst])), (g2, .inl (ca 0, 10, .inl kd)), (g9, .inl (ca 0, 6, .inl ct)), (g10, .inl (ca 0, 6, .inl sd))] sz) := by
  refine Met.ofW (cc := cX3_countKinds) (maxL := 3) (ret := (some .int)) (by decide) rfl ?_
  intro p e s m args below meth c s₁ B hml hv
  obtain ⟨rfl, hsz, hP, hK, hD0, hE⟩ := hv
  have hx := B.exec
  have hb := B.bytes
  have hr := B.returns
  have hts : ∀ w ∈ gT, w.before _ s = true := fun w h => atoms_spec (ws := Cond.code yX3_countKinds cX3_countKinds 3 (some .int) :: gT) B.pre w (List.mem_cons_of_mem _ h)
  have hown : s.vm.findClass RX3 = some m.cls := findClass_of_methodNamed B.named
  have hlocks := B.notSynchronized
  subst hsz
  have hD := hD0.self (sz := s.heap.size)
  generalize hAe : va_A [(h, .inr (3, [.ref g0, .ref g1, .ref g2, .int (nI qm), .ref g4, .int om, .int kn, .int kl, .ref g8, .ref g9, .ref g10, .ref g11, va_rf lst])), (g2, .inl (ca 0, 10, .inl kd)), (g9, .inl (ca 0, 6, .inl ct)), (g10, .inl (ca 0, 6, .inl sd))] s.heap.size = A at hD ⊢
  have hA : ∀ q : Nat, s.heap.size ≤ q → A q := fun q h => by rw [← hAe]; exact Or.inr h
  have hS : va_S A s.heap s.heap [] := va_S.rf
  have hl := lv_entry ([.ref h]) (n := 3) (Nat.le_of_ble_eq_true rfl)
  rw [lg_entry_eq]
  generalize (lg_sl ([.ref h]) ++ List.replicate (3 - (lg_sl ([.ref h])).length) Slot.unset).toArray = ls at hl ⊢
  have hl : lv_has ls 3 [(0, .ref h)] := hl
  have hq0 := hq.1
  refine lv_aload_n hx hb dX3_countKinds_0 rfl (lv_at hl 0 rfl) ?_
  refine va_get (D := (dC, dI)) (ci := 3) (v := .ref g9) (C := RX3) (T := TX3) (N := 13) hx hb hts inX3 hown hK hP 0 rfl rfl 9 (by decide) (hts _ mw_116) (fun _ h9 => h9) rfl dX3_countKinds_1 ?_
  refine lv_iconst (v := 0) hx hb dX3_countKinds_4 (by decide) ?_
  have hPc := hP.sub (ws' := [(g9, .inl (ca 0, 6, .inl ct))]) [2] rfl
  have hDc := hD.sub (ws' := [(g9, .inl (ca 0, 6, .inl ct))]) [2] (by decide) rfl
  have hFc := va_free (wc := [(g9, .inl (ca 0, 6, .inl ct))]) hD hS hA [2] rfl
  refine va_callv (va_runS (As := [.ref g9, .int 0]) (rest := []) ⟨hx, hb, hml, hown, hts⟩ (c_fill l dC dI ca s.heap.size g9 6 ct 0 (by first | decide | omega)) (⟨callB_of 2 hts (gd mw_42) rfl rfl rfl (hts _ mw_3) (hts _ mw_817) ds_J7_fill_53178 ⟨Nat.le_of_ble_eq_true rfl, Nat.le_of_ble_eq_true rfl⟩, (hts _ mw_41)⟩) (pr_S hPc hK hDc hE) rfl rfl hl.1 rfl (lv_room (Nat.le_of_ble_eq_true rfl)) dX3_countKinds_5 ⟨Nat.le_of_ble_eq_true rfl, Nat.le_of_ble_eq_true rfl⟩) hS (fun q _ h => hFc q h) hFc (fun u_ t_ H1 locs ht hvm hw_ hB hz1 hk1 hS => ?_)
  obtain ⟨hP1, hD1⟩ := hB
  rw [ht] at hP1
  obtain ⟨hP, hD⟩ := va_join (wr := [(h, .inr (3, [.ref g0, .ref g1, .ref g2, .int (nI qm), .ref g4, .int om, .int kn, .int kl, .ref g8, .ref g9, .ref g10, .ref g11, va_rf lst])), (g2, .inl (ca 0, 10, .inl kd)), (g10, .inl (ca 0, 6, .inl sd))]) (w1 := [(g9, .inl (ca 0, 6, .inl (flg ct 0 6)))]) hP hD [2] [0, 1, 3] rfl rfl (by decide) (by decide) hk1 hFc hP1 hD1
  generalize H1 = H at hP hS ⊢
  have hP : va_P (dC, dI) vwCl [(h, .inr (3, [.ref g0, .ref g1, .ref g2, .int (nI qm), .ref g4, .int om, .int kn, .int kl, .ref g8, .ref g9, .ref g10, .ref g11, va_rf lst])), (g2, .inl (ca 0, 10, .inl kd)), (g10, .inl (ca 0, 6, .inl sd)), (g9, .inl (ca 0, 6, .inl (flg ct 0 6)))] H := hP
  have hD : va_D A [(h, .inr (3, [.ref g0, .ref g1, .ref g2, .int (nI qm), .ref g4, .int om, .int kn, .int kl, .ref g8, .ref g9, .ref g10, .ref g11, va_rf lst])), (g2, .inl (ca 0, 10, .inl kd)), (g10, .inl (ca 0, 6, .inl sd)), (g9, .inl (ca 0, 6, .inl (flg ct 0 6)))] := hD
  refine lv_iconst (v := 0) hx hb dX3_countKinds_8 (by decide) ?_
  refine lv_istore_n (lv' := [(1, .int 0), (0, .ref h)]) hx hb dX3_countKinds_9 rfl hl (by decide) rfl (fun ls hl => ?_)
  refine wl_loop (fun (z_ : Nat × (Nat → Int32)) H locs ls => (z_.1 ≤ qm ∧ ∀ k, k < 6 → cnt (z_.2 k) z_.1) ∧ va_P (dC, dI) vwCl [(h, .inr (3, [.ref g0, .ref g1, .ref g2, .int (nI qm), .ref g4, .int om, .int kn, .int kl, .ref g8, .ref g9, .ref g10, .ref g11, va_rf lst])), (g2, .inl (ca 0, 10, .inl kd)), (g10, .inl (ca 0, 6, .inl sd)), (g9, .inl (ca 0, 6, .inl z_.2))] H ∧ va_D A [(h, .inr (3, [.ref g0, .ref g1, .ref g2, .int (nI qm), .ref g4, .int om, .int kn, .int kl, .ref g8, .ref g9, .ref g10, .ref g11, va_rf lst])), (g2, .inl (ca 0, 10, .inl kd)), (g10, .inl (ca 0, 6, .inl sd)), (g9, .inl (ca 0, 6, .inl z_.2))] ∧ va_S A s.heap H locs ∧ lv_has ls 3 [(1, .int (nI z_.1)), (0, .ref h)]) (fun (z_ : Nat × (Nat → Int32)) => qm - z_.1) (fun z_ H locs ls hI ih => ?_) (0, (flg ct 0 6)) ⟨⟨Nat.zero_le _, flg_c⟩, hP, hD, hS, lv_sub hl [0, 1] rfl⟩
  obtain ⟨i, c1_⟩ := z_
  dsimp only at hI ih
  obtain ⟨⟨hi, hc⟩, hP, hD, hS, hl⟩ := hI
  refine lv_iload_n hx hb dX3_countKinds_10 rfl (lv_at hl 0 rfl) ?_
  refine lv_aload_n hx hb dX3_countKinds_11 rfl (lv_at hl 1 rfl) ?_
  refine va_get (D := (dC, dI)) (ci := 3) (v := .int (nI qm)) (C := RX3) (T := TX3) (N := 13) hx hb hts inX3 hown hK hP 0 rfl rfl 3 (by decide) (hts _ mw_107) (fun _ h9 => h9) rfl dX3_countKinds_12 ?_
  refine lv_icmp_ge (tgt := 39) hx hb dX3_countKinds_15 (by decide) (fun c_2 => ?_) (fun c_2 => ?_)
  · have nc_2 : qm ≤ i := (nI_leI (a := qm) (b := i) (by omega) (by omega)).mp c_2
    refine lv_iconst (v := 1) hx hb dX3_countKinds_39 (by decide) ?_
    refine lv_istore_n (lv' := [(1, .int 1), (0, .ref h)]) hx hb dX3_countKinds_40 rfl hl (by decide) rfl (fun ls hl => ?_)
    refine lv_iconst (v := 0) hx hb dX3_countKinds_41 (by decide) ?_
    refine lv_istore_n (lv' := [(2, .int 0), (1, .int 1), (0, .ref h)]) hx hb dX3_countKinds_42 rfl hl (by decide) rfl (fun ls hl => ?_)
    refine wl_loop (fun (z_ : Nat × Nat × (Nat → Int32)) H locs ls => (z_.1 ≤ 6 ∧ 1 ≤ z_.2.1 ∧ z_.2.1 ≤ 11 ^ z_.1 ∧ ∀ j, j < z_.1 → cnt (z_.2.2 j) 1771561) ∧ va_P (dC, dI) vwCl [(h, .inr (3, [.ref g0, .ref g1, .ref g2, .int (nI qm), .ref g4, .int om, .int kn, .int kl, .ref g8, .ref g9, .ref g10, .ref g11, va_rf lst])), (g2, .inl (ca 0, 10, .inl kd)), (g10, .inl (ca 0, 6, .inl z_.2.2)), (g9, .inl (ca 0, 6, .inl c1_))] H ∧ va_D A [(h, .inr (3, [.ref g0, .ref g1, .ref g2, .int (nI qm), .ref g4, .int om, .int kn, .int kl, .ref g8, .ref g9, .ref g10, .ref g11, va_rf lst])), (g2, .inl (ca 0, 10, .inl kd)), (g10, .inl (ca 0, 6, .inl z_.2.2)), (g9, .inl (ca 0, 6, .inl c1_))] ∧ va_S A s.heap H locs ∧ lv_has ls 3 [(2, .int (nI z_.1)), (1, .int (nI z_.2.1)), (0, .ref h)]) (fun (z_ : Nat × Nat × (Nat → Int32)) => 6 - z_.1) (fun z_ H locs ls hI ih43 => ?_) (0, 1, sd) ⟨⟨Nat.zero_le _, Nat.le_refl _, by show 1 ≤ 11 ^ 0; decide, fun j hj => absurd hj (Nat.not_lt_zero j)⟩, hP, hD, hS, lv_sub hl [0, 1, 2] rfl⟩
    obtain ⟨k, tp, d1_⟩ := z_
    dsimp only at hI ih43
    obtain ⟨⟨hk, ht1, ht2, hd⟩, hP, hD, hS, hl⟩ := hI
    have htb := st_b ht2 hk
    refine lv_iload_n hx hb dX3_countKinds_43 rfl (lv_at hl 0 rfl) ?_
    refine lv_bipush (v := 6) hx hb dX3_countKinds_44 (by decide) ?_
    refine lv_icmp_ge (tgt := 73) hx hb dX3_countKinds_46 (by decide) (fun c_3 => ?_) (fun c_3 => ?_)
    · have nc_3 : 6 ≤ k := (nI_leI (a := 6) (b := k) (by omega) (by omega)).mp c_3
      refine lv_iload_n hx hb dX3_countKinds_73 rfl (lv_at hl 1 rfl) ?_
      refine lv_sipush (v := 324) hx hb dX3_countKinds_74 (by decide) ?_
      refine va_mmin hx hb (by rw [hml]; exact hl.1.symm) hown (hts _ mw_818) (hts _ mw_442) (hts _ mw_12) (hts _ mmin_code) (Nat.le_of_ble_eq_true rfl) (Nat.le_of_ble_eq_true rfl) (Nat.le_of_ble_eq_true rfl) (Nat.le_of_ble_eq_true rfl) dX3_countKinds_77 ?_
      refine lv_topi (fun y_ e_ => ?_)
      obtain rfl : y_ = (nI (min tp 324)) := e_.trans (nI_min (a := tp) (b := 324) (by omega) (by omega))
      refine W.widen (k := 0) (n := 0) (Nat.le_of_ble_eq_true rfl) (Nat.le_of_ble_eq_true rfl) ?_
      have hP9 : va_P (dC, dI) vwCl [(h, .inr (3, [.ref g0, .ref g1, .ref g2, .int (nI qm), .ref g4, .int om, .int kn, .int kl, .ref g8, .ref g9, .ref g10, .ref g11, va_rf lst])), (g2, .inl (ca 0, 10, .inl kd)), (g9, .inl (ca 0, 6, .inl c1_)), (g10, .inl (ca 0, 6, .inl d1_))] H := va_P.sub hP [0, 1, 3, 2] rfl
      have hD9 : va_D A [(h, .inr (3, [.ref g0, .ref g1, .ref g2, .int (nI qm), .ref g4, .int om, .int kn, .int kl, .ref g8, .ref g9, .ref g10, .ref g11, va_rf lst])), (g2, .inl (ca 0, 10, .inl kd)), (g9, .inl (ca 0, 6, .inl c1_)), (g10, .inl (ca 0, 6, .inl d1_))] := va_D.sub hD [0, 1, 3, 2] (by decide) rfl
      exact W.iret (v := (nI (min tp 324))) hx hb hr (fun t ht hW => ⟨⟨(nI (min tp 324)), (c1_, d1_), rfl, ⟨⟨min tp 324, rfl, by omega, by omega⟩, fun j hj => hd j (by omega)⟩, by rw [ht]; exact hP9, hD9⟩, hS.F ht⟩) hS.2.2 dX3_countKinds_80
    · have nc_3 : ¬ (6 ≤ k) := fun h9 => c_3 ((nI_leI (a := 6) (b := k) (by omega) (by omega)).mpr h9)
      refine lv_aload_n hx hb dX3_countKinds_49 rfl (lv_at hl 2 rfl) ?_
      refine va_get (D := (dC, dI)) (ci := 3) (v := .ref g10) (C := RX3) (T := TX3) (N := 13) hx hb hts inX3 hown hK hP 0 rfl rfl 10 (by decide) (hts _ mw_117) (fun _ h9 => h9) rfl dX3_countKinds_50 ?_
      refine lv_iload_n hx hb dX3_countKinds_53 rfl (lv_at hl 0 rfl) ?_
      refine lv_iload_n hx hb dX3_countKinds_54 rfl (lv_at hl 1 rfl) ?_
      refine va_iast hx hb hK hP hD hS 2 0 rfl rfl (vp_in_nI (show k < 6 by omega) (by first | decide | omega)) dX3_countKinds_55 (fun H locs hP hD hS => ?_)
      rw [(show ((nI k) : Int32).toNatClampNeg = k from nI_clamp (by omega))] at hP hD
      have hP : va_P (dC, dI) vwCl [(h, .inr (3, [.ref g0, .ref g1, .ref g2, .int (nI qm), .ref g4, .int om, .int kn, .int kl, .ref g8, .ref g9, .ref g10, .ref g11, va_rf lst])), (g2, .inl (ca 0, 10, .inl kd)), (g10, .inl (ca 0, 6, .inl (upd d1_ k (nI tp)))), (g9, .inl (ca 0, 6, .inl c1_))] H := hP
      have hD : va_D A [(h, .inr (3, [.ref g0, .ref g1, .ref g2, .int (nI qm), .ref g4, .int om, .int kn, .int kl, .ref g8, .ref g9, .ref g10, .ref g11, va_rf lst])), (g2, .inl (ca 0, 10, .inl kd)), (g10, .inl (ca 0, 6, .inl (upd d1_ k (nI tp)))), (g9, .inl (ca 0, 6, .inl c1_))] := hD
      refine lv_iload_n hx hb dX3_countKinds_56 rfl (lv_at hl 1 rfl) ?_
      refine lv_aload_n hx hb dX3_countKinds_57 rfl (lv_at hl 2 rfl) ?_
      refine va_get (D := (dC, dI)) (ci := 3) (v := .ref g9) (C := RX3) (T := TX3) (N := 13) hx hb hts inX3 hown hK hP 0 rfl rfl 9 (by decide) (hts _ mw_116) (fun _ h9 => h9) rfl dX3_countKinds_58 ?_
      refine lv_iload_n hx hb dX3_countKinds_61 rfl (lv_at hl 0 rfl) ?_
      refine va_iald hx hb hK hP 3 0 rfl rfl (vp_in_nI (show k < 6 by omega) (by first | decide | omega)) dX3_countKinds_62 ?_
      refine lv_topi (fun y_ e_ => ?_)
      obtain rfl : y_ = (c1_ k) := e_.trans (congrArg c1_ (show ((nI k) : Int32).toNatClampNeg = k from nI_clamp (by omega)))
      obtain ⟨n9, hn9, en9⟩ := hc k (by omega)
      refine lv_topi (fun y_ e_ => ?_)
      obtain rfl : y_ = (nI n9) := e_.trans en9
      refine lv_iconst (v := 1) hx hb dX3_countKinds_63 (by decide) ?_
      refine lv_iadd hx hb dX3_countKinds_64 ?_
      refine lv_topi (fun y_ e_ => ?_)
      obtain rfl : y_ = (nI (n9 + 1)) := e_.trans (nI_add (n9) (1))
      refine lv_imul hx hb dX3_countKinds_65 ?_
      refine lv_topi (fun y_ e_ => ?_)
      obtain rfl : y_ = (nI (tp * (n9 + 1))) := e_.trans (pk_mul (tp) (n9 + 1))
      refine lv_istore_n (lv' := [(1, .int (nI (tp * (n9 + 1)))), (2, .int (nI k)), (0, .ref h)]) hx hb dX3_countKinds_66 rfl hl (by decide) rfl (fun ls hl => ?_)
      refine lv_iinc (v := (nI (k + 1))) (lv' := [(2, .int (nI (k + 1))), (1, .int (nI (tp * (n9 + 1)))), (0, .ref h)]) hx hb dX3_countKinds_67 hl (k := 1) rfl (nI_add (k) 1) (by decide) rfl (fun ls hl => ?_)
      refine lv_goto (tgt := 43) hx hb dX3_countKinds_70 (by decide) ?_
      exact ih43 (k + 1, tp * (n9 + 1), (upd d1_ k (nI tp))) _ _ _ (by omega) ⟨⟨by first | omega | (dsimp only; omega), (st_mul ht1 ht2 (by first | omega | (dsimp only; omega))).1, (st_mul ht1 ht2 (by first | omega | (dsimp only; omega))).2, st_up hd ht2 hk⟩, hP, hD, hS, lv_sub hl [0, 1, 2] rfl⟩
  · have nc_2 : ¬ (qm ≤ i) := fun h9 => c_2 ((nI_leI (a := qm) (b := i) (by omega) (by omega)).mpr h9)
    refine lv_aload_n hx hb dX3_countKinds_18 rfl (lv_at hl 1 rfl) ?_
    refine va_get (D := (dC, dI)) (ci := 3) (v := .ref g9) (C := RX3) (T := TX3) (N := 13) hx hb hts inX3 hown hK hP 0 rfl rfl 9 (by decide) (hts _ mw_116) (fun _ h9 => h9) rfl dX3_countKinds_19 ?_
    refine lv_aload_n hx hb dX3_countKinds_22 rfl (lv_at hl 1 rfl) ?_
    refine va_get (D := (dC, dI)) (ci := 3) (v := .ref g2) (C := RX3) (T := TX3) (N := 13) hx hb hts inX3 hown hK hP 0 rfl rfl 2 (by decide) (hts _ mw_106) (fun _ h9 => h9) rfl dX3_countKinds_23 ?_
    refine lv_iload_n hx hb dX3_countKinds_26 rfl (lv_at hl 0 rfl) ?_
    refine va_iald hx hb hK hP 1 0 rfl rfl (vp_in_nI (show i < 10 by omega) (by first | decide | omega)) dX3_countKinds_27 ?_
    refine lv_topi (fun y_ e_ => ?_)
    obtain rfl : y_ = (kd i) := e_.trans (congrArg kd (show ((nI i) : Int32).toNatClampNeg = i from nI_clamp (by omega)))
    refine lv_dup2_11 hx hb dX3_countKinds_28 rfl rfl ?_
    refine va_iald hx hb hK hP 3 0 rfl rfl (cnt_vp (hq.2 i (by omega)) (by decide) (by decide)) dX3_countKinds_29 ?_
    refine lv_iconst (v := 1) hx hb dX3_countKinds_30 (by decide) ?_
    refine lv_iadd hx hb dX3_countKinds_31 ?_
    refine va_iast hx hb hK hP hD hS 3 0 rfl rfl (cnt_vp (hq.2 i (by omega)) (by decide) (by decide)) dX3_countKinds_32 (fun H locs hP hD hS => ?_)
    have hP : va_P (dC, dI) vwCl [(h, .inr (3, [.ref g0, .ref g1, .ref g2, .int (nI qm), .ref g4, .int om, .int kn, .int kl, .ref g8, .ref g9, .ref g10, .ref g11, va_rf lst])), (g2, .inl (ca 0, 10, .inl kd)), (g10, .inl (ca 0, 6, .inl sd)), (g9, .inl (ca 0, 6, .inl (upd c1_ ((kd i) : Int32).toNatClampNeg ((c1_ ((kd i) : Int32).toNatClampNeg) + 1))))] H := hP
    have hD : va_D A [(h, .inr (3, [.ref g0, .ref g1, .ref g2, .int (nI qm), .ref g4, .int om, .int kn, .int kl, .ref g8, .ref g9, .ref g10, .ref g11, va_rf lst])), (g2, .inl (ca 0, 10, .inl kd)), (g10, .inl (ca 0, 6, .inl sd)), (g9, .inl (ca 0, 6, .inl (upd c1_ ((kd i) : Int32).toNatClampNeg ((c1_ ((kd i) : Int32).toNatClampNeg) + 1))))] := hD
    refine lv_iinc (v := (nI (i + 1))) (lv' := [(1, .int (nI (i + 1))), (0, .ref h)]) hx hb dX3_countKinds_33 hl (k := 0) rfl (nI_add (i) 1) (by decide) rfl (fun ls hl => ?_)
    refine lv_goto (tgt := 10) hx hb dX3_countKinds_36 (by decide) ?_
    exact ih (i + 1, (upd c1_ ((kd i) : Int32).toNatClampNeg ((c1_ ((kd i) : Int32).toNatClampNeg) + 1))) _ _ _ (by omega) ⟨⟨by omega, cnt_bump hc (cl6 (hq.2 i (by omega)))⟩, hP, hD, hS, lv_sub hl [0, 1] rfl⟩

set_option maxHeartbeats 4000000 in
set_option maxRecDepth 100000 in
theorem e_countOn (l : Launch) (dC : Nat → ClassId) (dI : Nat → Nat → Nat) (ca : Nat → ClassId) (sz : Nat) (h : Nat) (g0 : Nat) (g1 : Nat) (g2 : Nat) (g4 : Nat) (g8 : Nat) (g9 : Nat) (g10 : Nat) (g11 : Nat) (qm : Nat) (om : Int32) (kn : Int32) (kl : Int32) (lst : Option Nat) (ct : Nat → Int32) (wt : Nat → Int32) : Met l yX3_countOn (Cond.code yX3_countOn cX3_countOn 2 none :: gT) ({ frames := 1, cells := 0, slots := 0, locals := 60 }) (va_Pc [.ref h] (pr (dC, dI) sz [(h, .inr (3, [.ref g0, .ref g1, .ref g2, .int (nI qm), .ref g4, .int om, .int kn, .int kl, .ref g8, .ref g9, .ref g10, .ref g11, va_rf lst])), (g9, .inl (ca 0, 6, .inl ct)), (g11, .inl (ca 0, 6, .inl wt))] (aT ca))) (va_Qv (fun (u_ : (Nat → Int32)) => True) (fun (u_ : (Nat → Int32)) t => va_P (dC, dI) vwCl [(h, .inr (3, [.ref g0, .ref g1, .ref g2, .int (nI qm), .ref g4, .int om, .int kn, .int kl, .ref g8, .ref g9, .ref g10, .ref g11, va_rf lst])), (g9, .inl (ca 0, 6, .inl ct)), (g11, .inl (ca 0, 6, .inl u_))] t.heap ∧ va_D (va_A [(h, .inr (3, [.ref g0, .ref g1, .ref g2, .int (nI qm), .ref g4, .int om, .int kn, .int kl, .ref g8, .ref g9, .ref g10, .ref g11, va_rf lst])), (g9, .inl (ca 0, 6, .inl ct)), (g11, .inl (ca 0, 6, .inl wt))] sz) [(h, .inr (3, [.ref g0, .ref g1, .ref g2, .int (nI qm), .ref g4, .int om, .int kn, .int kl, .ref g8, .ref g9, .ref g10, .ref g11, va_rf lst])), (g9, .inl (ca 0, 6, .inl ct)), (g11, .inl (ca 0, 6, .inl u_))]) (va_A [(h, .inr (3, [.ref g0, .ref g1, .ref g2, .int (nI qm), .ref g4, .int om, .int kn, .int kl, .ref g8, .ref g9, .ref g10, .ref g11, va_rf lst])), (g9, .inl (ca 0, 6, .inl ct)), (g11, .inl (ca 0, 6, .inl wt))] sz)) 0 0 (va_A [(h, .inr (3, [.ref g0, .ref g1, .ref g2, .int (nI qm), .ref g4, .int om, .int kn, .int kl, .ref g8, .ref g9, .ref g10, .ref g11, va_rf lst])), (g9, .inl (ca 0, 6, .inl ct)), (g11, .inl (ca 0, 6, .inl wt))] sz) := by
  refine Met.ofW (cc := cX3_countOn) (maxL := 2) (ret := none) (by decide) rfl ?_
  intro p e s m args below meth c s₁ B hml hv
  obtain ⟨rfl, hsz, hP, hK, hD0, hE⟩ := hv
  have hx := B.exec
  have hb := B.bytes
  have hr := B.returns
  have hts : ∀ w ∈ gT, w.before _ s = true := fun w h => atoms_spec (ws := Cond.code yX3_countOn cX3_countOn 2 none :: gT) B.pre w (List.mem_cons_of_mem _ h)
  have hown : s.vm.findClass RX3 = some m.cls := findClass_of_methodNamed B.named
  have hlocks := B.notSynchronized
  subst hsz
  have hD := hD0.self (sz := s.heap.size)
  generalize hAe : va_A [(h, .inr (3, [.ref g0, .ref g1, .ref g2, .int (nI qm), .ref g4, .int om, .int kn, .int kl, .ref g8, .ref g9, .ref g10, .ref g11, va_rf lst])), (g9, .inl (ca 0, 6, .inl ct)), (g11, .inl (ca 0, 6, .inl wt))] s.heap.size = A at hD ⊢
  have hA : ∀ q : Nat, s.heap.size ≤ q → A q := fun q h => by rw [← hAe]; exact Or.inr h
  have hS : va_S A s.heap s.heap [] := va_S.rf
  have hl := lv_entry ([.ref h]) (n := 2) (Nat.le_of_ble_eq_true rfl)
  rw [lg_entry_eq]
  generalize (lg_sl ([.ref h]) ++ List.replicate (2 - (lg_sl ([.ref h])).length) Slot.unset).toArray = ls at hl ⊢
  have hl : lv_has ls 2 [(0, .ref h)] := hl
  refine lv_iconst (v := 0) hx hb dX3_countOn_0 (by decide) ?_
  refine lv_istore_n (lv' := [(1, .int 0), (0, .ref h)]) hx hb dX3_countOn_1 rfl hl (by decide) rfl (fun ls hl => ?_)
  refine wl_loop (fun (z_ : Nat × (Nat → Int32)) H locs ls => (z_.1 ≤ 5) ∧ va_P (dC, dI) vwCl [(h, .inr (3, [.ref g0, .ref g1, .ref g2, .int (nI qm), .ref g4, .int om, .int kn, .int kl, .ref g8, .ref g9, .ref g10, .ref g11, va_rf lst])), (g9, .inl (ca 0, 6, .inl ct)), (g11, .inl (ca 0, 6, .inl z_.2))] H ∧ va_D A [(h, .inr (3, [.ref g0, .ref g1, .ref g2, .int (nI qm), .ref g4, .int om, .int kn, .int kl, .ref g8, .ref g9, .ref g10, .ref g11, va_rf lst])), (g9, .inl (ca 0, 6, .inl ct)), (g11, .inl (ca 0, 6, .inl z_.2))] ∧ va_S A s.heap H locs ∧ lv_has ls 2 [(1, .int (nI z_.1)), (0, .ref h)]) (fun (z_ : Nat × (Nat → Int32)) => 5 - z_.1) (fun z_ H locs ls hI ih => ?_) (0, wt) ⟨(Nat.zero_le _), hP, hD, hS, lv_sub hl [0, 1] rfl⟩
  obtain ⟨i, w1_⟩ := z_
  dsimp only at hI ih
  obtain ⟨hi, hP, hD, hS, hl⟩ := hI
  refine lv_iload_n hx hb dX3_countOn_2 rfl (lv_at hl 0 rfl) ?_
  refine lv_iconst (v := 5) hx hb dX3_countOn_3 (by decide) ?_
  refine lv_icmp_ge (tgt := 35) hx hb dX3_countOn_4 (by decide) (fun c_1 => ?_) (fun c_1 => ?_)
  · have nc_1 : 5 ≤ i := (nI_leI (a := 5) (b := i) (by omega) (by omega)).mp c_1
    refine lv_aload_n hx hb dX3_countOn_35 rfl (lv_at hl 1 rfl) ?_
    refine va_get (D := (dC, dI)) (ci := 3) (v := .ref g11) (C := RX3) (T := TX3) (N := 13) hx hb hts inX3 hown hK hP 0 rfl rfl 11 (by decide) (hts _ mw_118) (fun _ h9 => h9) rfl dX3_countOn_36 ?_
    refine lv_iload_n hx hb dX3_countOn_39 rfl (lv_at hl 0 rfl) ?_
    refine lv_dup2_11 hx hb dX3_countOn_40 rfl rfl ?_
    refine va_iald hx hb hK hP 2 0 rfl rfl (vp_in_nI (show i < 6 by omega) (by first | decide | omega)) dX3_countOn_41 ?_
    refine lv_topi (fun y_ e_ => ?_)
    obtain rfl : y_ = (w1_ i) := e_.trans (congrArg w1_ (show ((nI i) : Int32).toNatClampNeg = i from nI_clamp (by omega)))
    refine lv_iconst (v := 1) hx hb dX3_countOn_42 (by decide) ?_
    refine lv_iadd hx hb dX3_countOn_43 ?_
    refine va_iast hx hb hK hP hD hS 2 0 rfl rfl (vp_in_nI (show i < 6 by omega) (by first | decide | omega)) dX3_countOn_44 (fun H locs hP hD hS => ?_)
    rw [(show ((nI i) : Int32).toNatClampNeg = i from nI_clamp (by omega))] at hP hD
    have hP : va_P (dC, dI) vwCl [(h, .inr (3, [.ref g0, .ref g1, .ref g2, .int (nI qm), .ref g4, .int om, .int kn, .int kl, .ref g8, .ref g9, .ref g10, .ref g11, va_rf lst])), (g9, .inl (ca 0, 6, .inl ct)), (g11, .inl (ca 0, 6, .inl (upd w1_ i ((w1_ i) + 1))))] H := hP
    have hD : va_D A [(h, .inr (3, [.ref g0, .ref g1, .ref g2, .int (nI qm), .ref g4, .int om, .int kn, .int kl, .ref g8, .ref g9, .ref g10, .ref g11, va_rf lst])), (g9, .inl (ca 0, 6, .inl ct)), (g11, .inl (ca 0, 6, .inl (upd w1_ i ((w1_ i) + 1))))] := hD
    refine W.widen (k := 0) (n := 0) (Nat.le_of_ble_eq_true rfl) (Nat.le_of_ble_eq_true rfl) ?_
    have hP9 : va_P (dC, dI) vwCl [(h, .inr (3, [.ref g0, .ref g1, .ref g2, .int (nI qm), .ref g4, .int om, .int kn, .int kl, .ref g8, .ref g9, .ref g10, .ref g11, va_rf lst])), (g9, .inl (ca 0, 6, .inl ct)), (g11, .inl (ca 0, 6, .inl (upd w1_ i ((w1_ i) + 1))))] H := va_P.sub hP [0, 1, 2] rfl
    have hD9 : va_D A [(h, .inr (3, [.ref g0, .ref g1, .ref g2, .int (nI qm), .ref g4, .int om, .int kn, .int kl, .ref g8, .ref g9, .ref g10, .ref g11, va_rf lst])), (g9, .inl (ca 0, 6, .inl ct)), (g11, .inl (ca 0, 6, .inl (upd w1_ i ((w1_ i) + 1))))] := va_D.sub hD [0, 1, 2] (by decide) rfl
    exact W.vret hx hb hr (fun t ht hW => ⟨⟨(upd w1_ i ((w1_ i) + 1)), rfl, trivial, by rw [ht]; exact hP9, hD9⟩, hS.F ht⟩) hS.2.2 dX3_countOn_45
  · have nc_1 : ¬ (5 ≤ i) := fun h9 => c_1 ((nI_leI (a := 5) (b := i) (by omega) (by omega)).mpr h9)
    refine lv_aload_n hx hb dX3_countOn_7 rfl (lv_at hl 1 rfl) ?_
    refine va_get (D := (dC, dI)) (ci := 3) (v := .ref g11) (C := RX3) (T := TX3) (N := 13) hx hb hts inX3 hown hK hP 0 rfl rfl 11 (by decide) (hts _ mw_118) (fun _ h9 => h9) rfl dX3_countOn_8 ?_
    refine lv_iload_n hx hb dX3_countOn_11 rfl (lv_at hl 0 rfl) ?_
    refine va_iald hx hb hK hP 2 0 rfl rfl (vp_in_nI (show i < 6 by omega) (by first | decide | omega)) dX3_countOn_12 ?_
    refine lv_topi (fun y_ e_ => ?_)
    obtain rfl : y_ = (w1_ i) := e_.trans (congrArg w1_ (show ((nI i) : Int32).toNatClampNeg = i from nI_clamp (by omega)))
    refine lv_aload_n hx hb dX3_countOn_13 rfl (lv_at hl 1 rfl) ?_
    refine va_get (D := (dC, dI)) (ci := 3) (v := .ref g9) (C := RX3) (T := TX3) (N := 13) hx hb hts inX3 hown hK hP 0 rfl rfl 9 (by decide) (hts _ mw_116) (fun _ h9 => h9) rfl dX3_countOn_14 ?_
    refine lv_iload_n hx hb dX3_countOn_17 rfl (lv_at hl 0 rfl) ?_
    refine va_iald hx hb hK hP 1 0 rfl rfl (vp_in_nI (show i < 6 by omega) (by first | decide | omega)) dX3_countOn_18 ?_
    refine lv_topi (fun y_ e_ => ?_)
    obtain rfl : y_ = (ct i) := e_.trans (congrArg ct (show ((nI i) : Int32).toNatClampNeg = i from nI_clamp (by omega)))
    refine lv_icmp_lt (tgt := 35) hx hb dX3_countOn_19 (by decide) (fun c_2 => ?_) (fun c_2 => ?_)
    · refine lv_aload_n hx hb dX3_countOn_35 rfl (lv_at hl 1 rfl) ?_
      refine va_get (D := (dC, dI)) (ci := 3) (v := .ref g11) (C := RX3) (T := TX3) (N := 13) hx hb hts inX3 hown hK hP 0 rfl rfl 11 (by decide) (hts _ mw_118) (fun _ h9 => h9) rfl dX3_countOn_36 ?_
      refine lv_iload_n hx hb dX3_countOn_39 rfl (lv_at hl 0 rfl) ?_
      refine lv_dup2_11 hx hb dX3_countOn_40 rfl rfl ?_
      refine va_iald hx hb hK hP 2 0 rfl rfl (vp_in_nI (show i < 6 by omega) (by first | decide | omega)) dX3_countOn_41 ?_
      refine lv_topi (fun y_ e_ => ?_)
      obtain rfl : y_ = (w1_ i) := e_.trans (congrArg w1_ (show ((nI i) : Int32).toNatClampNeg = i from nI_clamp (by omega)))
      refine lv_iconst (v := 1) hx hb dX3_countOn_42 (by decide) ?_
      refine lv_iadd hx hb dX3_countOn_43 ?_
      refine va_iast hx hb hK hP hD hS 2 0 rfl rfl (vp_in_nI (show i < 6 by omega) (by first | decide | omega)) dX3_countOn_44 (fun H locs hP hD hS => ?_)
      rw [(show ((nI i) : Int32).toNatClampNeg = i from nI_clamp (by omega))] at hP hD
      have hP : va_P (dC, dI) vwCl [(h, .inr (3, [.ref g0, .ref g1, .ref g2, .int (nI qm), .ref g4, .int om, .int kn, .int kl, .ref g8, .ref g9, .ref g10, .ref g11, va_rf lst])), (g9, .inl (ca 0, 6, .inl ct)), (g11, .inl (ca 0, 6, .inl (upd w1_ i ((w1_ i) + 1))))] H := hP
      have hD : va_D A [(h, .inr (3, [.ref g0, .ref g1, .ref g2, .int (nI qm), .ref g4, .int om, .int kn, .int kl, .ref g8, .ref g9, .ref g10, .ref g11, va_rf lst])), (g9, .inl (ca 0, 6, .inl ct)), (g11, .inl (ca 0, 6, .inl (upd w1_ i ((w1_ i) + 1))))] := hD
      refine W.widen (k := 0) (n := 0) (Nat.le_of_ble_eq_true rfl) (Nat.le_of_ble_eq_true rfl) ?_
      have hP9 : va_P (dC, dI) vwCl [(h, .inr (3, [.ref g0, .ref g1, .ref g2, .int (nI qm), .ref g4, .int om, .int kn, .int kl, .ref g8, .ref g9, .ref g10, .ref g11, va_rf lst])), (g9, .inl (ca 0, 6, .inl ct)), (g11, .inl (ca 0, 6, .inl (upd w1_ i ((w1_ i) + 1))))] H := va_P.sub hP [0, 1, 2] rfl
      have hD9 : va_D A [(h, .inr (3, [.ref g0, .ref g1, .ref g2, .int (nI qm), .ref g4, .int om, .int kn, .int kl, .ref g8, .ref g9, .ref g10, .ref g11, va_rf lst])), (g9, .inl (ca 0, 6, .inl ct)), (g11, .inl (ca 0, 6, .inl (upd w1_ i ((w1_ i) + 1))))] := va_D.sub hD [0, 1, 2] (by decide) rfl
      exact W.vret hx hb hr (fun t ht hW => ⟨⟨(upd w1_ i ((w1_ i) + 1)), rfl, trivial, by rw [ht]; exact hP9, hD9⟩, hS.F ht⟩) hS.2.2 dX3_countOn_45
    · refine lv_aload_n hx hb dX3_countOn_22 rfl (lv_at hl 1 rfl) ?_
      refine va_get (D := (dC, dI)) (ci := 3) (v := .ref g11) (C := RX3) (T := TX3) (N := 13) hx hb hts inX3 hown hK hP 0 rfl rfl 11 (by decide) (hts _ mw_118) (fun _ h9 => h9) rfl dX3_countOn_23 ?_
      refine lv_iload_n hx hb dX3_countOn_26 rfl (lv_at hl 0 rfl) ?_
      refine lv_iconst (v := 0) hx hb dX3_countOn_27 (by decide) ?_
      refine va_iast hx hb hK hP hD hS 2 0 rfl rfl (vp_in_nI (show i < 6 by omega) (by first | decide | omega)) dX3_countOn_28 (fun H locs hP hD hS => ?_)
      rw [(show ((nI i) : Int32).toNatClampNeg = i from nI_clamp (by omega))] at hP hD
      have hP : va_P (dC, dI) vwCl [(h, .inr (3, [.ref g0, .ref g1, .ref g2, .int (nI qm), .ref g4, .int om, .int kn, .int kl, .ref g8, .ref g9, .ref g10, .ref g11, va_rf lst])), (g9, .inl (ca 0, 6, .inl ct)), (g11, .inl (ca 0, 6, .inl (upd w1_ i 0)))] H := hP
      have hD : va_D A [(h, .inr (3, [.ref g0, .ref g1, .ref g2, .int (nI qm), .ref g4, .int om, .int kn, .int kl, .ref g8, .ref g9, .ref g10, .ref g11, va_rf lst])), (g9, .inl (ca 0, 6, .inl ct)), (g11, .inl (ca 0, 6, .inl (upd w1_ i 0)))] := hD
      refine lv_iinc (v := (nI (i + 1))) (lv' := [(1, .int (nI (i + 1))), (0, .ref h)]) hx hb dX3_countOn_29 hl (k := 0) rfl (nI_add (i) 1) (by decide) rfl (fun ls hl => ?_)
      refine lv_goto (tgt := 2) hx hb dX3_countOn_32 (by decide) ?_
      exact ih (i + 1, (upd w1_ i 0)) _ _ _ (by omega) ⟨(by omega), hP, hD, hS, lv_sub hl [0, 1] rfl⟩

set_option maxHeartbeats 4000000 in
set_option maxRecDepth 100000 in
theorem e_onlyNuts (l : Launch) (dC : Nat → ClassId) (dI : Nat → Nat → Nat) (ca : Nat → ClassId) (h : Nat) (g0 : Nat) (g1 : Nat) (g2 : Nat) (g4 : Nat) (g8 : Nat) (g9 : Nat) (g10 : Nat) (g11 : Nat) (qm : Nat) (om : Int32) (kn : Int32) (kl : Int32) (lst : Option Nat) (wt : Nat → Int32) : Met l yX3_onlyNutsWait (Cond.code yX3_onlyNutsWait cX3_onlyNutsWait 2 (some .boolean) :: gT) ({ frames := 1, cells := 0, slots := 0, locals := 60 }) (va_Pc [.ref h] (pu (dC, dI) [(h, .inr (3, [.ref g0, .ref g1, .ref g2, .int (nI qm), .ref g4, .int om, .int kn, .int kl, .ref g8, .ref g9, .ref g10, .ref g11, va_rf lst])), (g11, .inl (ca 0, 6, .inl wt))] (aT ca))) (vp_Si (fun r => r = 0 ∨ r = 1)) 0 0 (fun _ => False) := by
  refine Met.ofW (cc := cX3_onlyNutsWait) (maxL := 2) (ret := (some .boolean)) (by decide) rfl ?_
  intro p e s m args below meth c s₁ B hml hv
  obtain ⟨rfl, hP, hK, hE⟩ := hv
  have hx := B.exec
  have hb := B.bytes
  have hr := B.returns
  have hts : ∀ w ∈ gT, w.before _ s = true := fun w h => atoms_spec (ws := Cond.code yX3_onlyNutsWait cX3_onlyNutsWait 2 (some .boolean) :: gT) B.pre w (List.mem_cons_of_mem _ h)
  have hown : s.vm.findClass RX3 = some m.cls := findClass_of_methodNamed B.named
  have hlocks := B.notSynchronized
  have hl := lv_entry ([.ref h]) (n := 2) (Nat.le_of_ble_eq_true rfl)
  rw [lg_entry_eq]
  generalize (lg_sl ([.ref h]) ++ List.replicate (2 - (lg_sl ([.ref h])).length) Slot.unset).toArray = ls at hl ⊢
  have hl : lv_has ls 2 [(0, .ref h)] := hl
  refine lv_iconst (v := 0) hx hb dX3_onlyNutsWait_0 (by decide) ?_
  refine lv_istore_n (lv' := [(1, .int 0), (0, .ref h)]) hx hb dX3_onlyNutsWait_1 rfl hl (by decide) rfl (fun ls hl => ?_)
  refine wl_loop (fun (z_ : Nat) H locs ls => (z_ ≤ 6) ∧ H = s.heap ∧ locs = [] ∧ lv_has ls 2 [(1, .int (nI z_)), (0, .ref h)]) (fun (z_ : Nat) => 6 - z_) (fun z_ H locs ls hI ih => ?_) 0 ⟨(Nat.zero_le _), rfl, rfl, lv_sub hl [0, 1] rfl⟩
  revert hI ih; revert z_; intro i hI ih
  obtain ⟨hi, rfl, rfl, hl⟩ := hI
  refine lv_iload_n hx hb dX3_onlyNutsWait_2 rfl (lv_at hl 0 rfl) ?_
  refine lv_bipush (v := 6) hx hb dX3_onlyNutsWait_3 (by decide) ?_
  refine lv_icmp_ge (tgt := 30) hx hb dX3_onlyNutsWait_5 (by decide) (fun c_1 => ?_) (fun c_1 => ?_)
  · have nc_1 : 6 ≤ i := (nI_leI (a := 6) (b := i) (by omega) (by omega)).mp c_1
    refine lv_iconst (v := 1) hx hb dX3_onlyNutsWait_30 (by decide) ?_
    exact W.zret (v := 1) (ty := .boolean) hx hb hr rfl (fun t ht hW => ⟨1, rfl, (Or.inr rfl), ht⟩) (fun q h => absurd h List.not_mem_nil) dX3_onlyNutsWait_31
  · have nc_1 : ¬ (6 ≤ i) := fun h9 => c_1 ((nI_leI (a := 6) (b := i) (by omega) (by omega)).mpr h9)
    refine lv_iload_n hx hb dX3_onlyNutsWait_8 rfl (lv_at hl 0 rfl) ?_
    refine lv_iconst (v := 4) hx hb dX3_onlyNutsWait_9 (by decide) ?_
    refine lv_icmp_eq (tgt := 24) hx hb dX3_onlyNutsWait_10 (by decide) (fun c_2 => ?_) (fun c_2 => ?_)
    · have nc_2 : i = 4 := (nI_eq (a := i) (b := 4) (by omega) (by omega)).mp c_2
      refine lv_iinc (v := (nI (i + 1))) (lv' := [(1, .int (nI (i + 1))), (0, .ref h)]) hx hb dX3_onlyNutsWait_24 hl (k := 0) rfl (nI_add (i) 1) (by decide) rfl (fun ls hl => ?_)
      refine lv_goto (tgt := 2) hx hb dX3_onlyNutsWait_27 (by decide) ?_
      exact ih (i + 1) _ _ _ (by omega) ⟨(by omega), rfl, rfl, lv_sub hl [0, 1] rfl⟩
    · have nc_2 : ¬ (i = 4) := fun h9 => c_2 ((nI_eq (a := i) (b := 4) (by omega) (by omega)).mpr h9)
      refine lv_aload_n hx hb dX3_onlyNutsWait_13 rfl (lv_at hl 1 rfl) ?_
      refine va_get (D := (dC, dI)) (ci := 3) (v := .ref g11) (C := RX3) (T := TX3) (N := 13) hx hb hts inX3 hown hK hP 0 rfl rfl 11 (by decide) (hts _ mw_118) (fun _ h9 => h9) rfl dX3_onlyNutsWait_14 ?_
      refine lv_iload_n hx hb dX3_onlyNutsWait_17 rfl (lv_at hl 0 rfl) ?_
      refine va_iald hx hb hK hP 1 0 rfl rfl (vp_in_nI (show i < 6 by omega) (by first | decide | omega)) dX3_onlyNutsWait_18 ?_
      refine lv_topi (fun y_ e_ => ?_)
      obtain rfl : y_ = (wt i) := e_.trans (congrArg wt (show ((nI i) : Int32).toNatClampNeg = i from nI_clamp (by omega)))
      refine lv_if_le (tgt := 24) hx hb dX3_onlyNutsWait_19 (by decide) (fun c_3 => ?_) (fun c_3 => ?_)
      · refine lv_iinc (v := (nI (i + 1))) (lv' := [(1, .int (nI (i + 1))), (0, .ref h)]) hx hb dX3_onlyNutsWait_24 hl (k := 0) rfl (nI_add (i) 1) (by decide) rfl (fun ls hl => ?_)
        refine lv_goto (tgt := 2) hx hb dX3_onlyNutsWait_27 (by decide) ?_
        exact ih (i + 1) _ _ _ (by omega) ⟨(by omega), rfl, rfl, lv_sub hl [0, 1] rfl⟩
      · refine lv_iconst (v := 0) hx hb dX3_onlyNutsWait_22 (by decide) ?_
        exact W.zret (v := 0) (ty := .boolean) hx hb hr rfl (fun t ht hW => ⟨0, rfl, (Or.inl rfl), ht⟩) (fun q h => absurd h List.not_mem_nil) dX3_onlyNutsWait_23

set_option maxHeartbeats 4000000 in
set_option maxRecDepth 100000 in
theorem e_mayCome (l : Launch) (dC : Nat → ClassId) (dI : Nat → Nat → Nat) (ca : Nat → ClassId) (h : Nat) (g0 : Nat) (g1 : Nat) (g2 : Nat) (g4 : Nat) (g8 : Nat) (g9 : Nat) (g10 : Nat) (g11 : Nat) (qm : Nat) (om : Int32) (kn : Int32) (kl : Int32) (lst : Option Nat) (wt : Nat → Int32) (v1 : Int32) (v2 : Int32) (hv1 : cnt v1 5) : Met l yX3_mayCome (Cond.code yX3_mayCome cX3_mayCome 3 (some .boolean) :: gT) ({ frames := 2, cells := 0, slots := 0, locals := 81 }) (va_Pc [.ref h, .int v1, .int v2] (pu (dC, dI) [(h, .inr (3, [.ref g0, .ref g1, .ref g2, .int (nI qm), .ref g4, .int om, .int kn, .int kl, .ref g8, .ref g9, .ref g10, .ref g11, va_rf lst])), (g11, .inl (ca 0, 6, .inl wt))] (aT ca))) (vp_Si (fun r => r = 0 ∨ r = 1)) 0 0 (fun _ => False) := by
  refine Met.ofW (cc := cX3_mayCome) (maxL := 3) (ret := (some .boolean)) (by decide) rfl ?_
  intro p e s m args below meth c s₁ B hml hv
  obtain ⟨rfl, hP, hK, hE⟩ := hv
  have hx := B.exec
  have hb := B.bytes
  have hr := B.returns
  have hts : ∀ w ∈ gT, w.before _ s = true := fun w h => atoms_spec (ws := Cond.code yX3_mayCome cX3_mayCome 3 (some .boolean) :: gT) B.pre w (List.mem_cons_of_mem _ h)
  have hown : s.vm.findClass RX3 = some m.cls := findClass_of_methodNamed B.named
  have hlocks := B.notSynchronized
  have hl := lv_entry ([.ref h, .int v1, .int v2]) (n := 3) (Nat.le_of_ble_eq_true rfl)
  rw [lg_entry_eq]
  generalize (lg_sl ([.ref h, .int v1, .int v2]) ++ List.replicate (3 - (lg_sl ([.ref h, .int v1, .int v2])).length) Slot.unset).toArray = ls at hl ⊢
  have hl : lv_has ls 3 [(0, .ref h), (1, .int v1), (2, .int v2)] := hl
  refine lv_aload_n hx hb dX3_mayCome_0 rfl (lv_at hl 0 rfl) ?_
  refine va_get (D := (dC, dI)) (ci := 3) (v := .ref g11) (C := RX3) (T := TX3) (N := 13) hx hb hts inX3 hown hK hP 0 rfl rfl 11 (by decide) (hts _ mw_118) (fun _ h9 => h9) rfl dX3_mayCome_1 ?_
  refine lv_iload_n hx hb dX3_mayCome_4 rfl (lv_at hl 1 rfl) ?_
  refine va_iald hx hb hK hP 1 0 rfl rfl (cnt_vp hv1 (by decide) (by decide)) dX3_mayCome_5 ?_
  refine lv_if_gt (tgt := 11) hx hb dX3_mayCome_6 (by decide) (fun c_1 => ?_) (fun c_1 => ?_)
  · refine lv_iload_n hx hb dX3_mayCome_11 rfl (lv_at hl 1 rfl) ?_
    refine lv_iconst (v := 4) hx hb dX3_mayCome_12 (by decide) ?_
    refine lv_icmp_ne (tgt := 27) hx hb dX3_mayCome_13 (by decide) (fun c_2 => ?_) (fun c_2 => ?_)
    · refine lv_iconst (v := 1) hx hb dX3_mayCome_27 (by decide) ?_
      refine lv_goto (tgt := 32) hx hb dX3_mayCome_28 (by decide) ?_
      exact W.zret (v := 1) (ty := .boolean) hx hb hr rfl (fun t ht hW => ⟨1, rfl, (Or.inr rfl), ht⟩) (fun q h => absurd h List.not_mem_nil) dX3_mayCome_32
    · refine lv_iload_n hx hb dX3_mayCome_16 rfl (lv_at hl 2 rfl) ?_
      refine lv_if_eq (tgt := 27) hx hb dX3_mayCome_17 (by decide) (fun c_3 => ?_) (fun c_3 => ?_)
      · refine lv_iconst (v := 1) hx hb dX3_mayCome_27 (by decide) ?_
        refine lv_goto (tgt := 32) hx hb dX3_mayCome_28 (by decide) ?_
        exact W.zret (v := 1) (ty := .boolean) hx hb hr rfl (fun t ht hW => ⟨1, rfl, (Or.inr rfl), ht⟩) (fun q h => absurd h List.not_mem_nil) dX3_mayCome_32
      · refine lv_aload_n hx hb dX3_mayCome_20 rfl (lv_at hl 0 rfl) ?_
        have hPc := hP.sub (ws' := [(h, .inr (3, [.ref g0, .ref g1, .ref g2, .int (nI qm), .ref g4, .int om, .int kn, .int kl, .ref g8, .ref g9, .ref g10, .ref g11, va_rf lst])), (g11, .inl (ca 0, 6, .inl wt))]) [0, 1] rfl
        refine pc_i (va_runV (As := []) (rest := []) ⟨hx, hb, hml, hown, hts⟩ (e_onlyNuts l dC dI ca h g0 g1 g2 g4 g8 g9 g10 g11 qm om kn kl lst wt ) (⟨callB_of 0 hts (gd mw_839) rfl rfl rfl (hts _ mw_5) (hts _ mw_836) ds_X3_onlyNutsWait ⟨Nat.le_of_ble_eq_true rfl, Nat.le_of_ble_eq_true rfl⟩, (hts _ mw_838), (hts _ mp_33)⟩) (pu_V hPc hK hE (va_recv hK hPc (ci := 3) (q0 := 0) rfl rfl)) rfl rfl hl.1 rfl (lv_room (Nat.le_of_ble_eq_true rfl)) dX3_mayCome_21 ⟨Nat.le_of_ble_eq_true rfl, Nat.le_of_ble_eq_true rfl⟩) (fun rv_4 hw_ => ?_)
        have hw_4 := hw_
        refine lv_if_eq (tgt := 31) hx hb dX3_mayCome_24 (by decide) (fun c_5 => ?_) (fun c_5 => ?_)
        · refine lv_iconst (v := 0) hx hb dX3_mayCome_31 (by decide) ?_
          exact W.zret (v := 0) (ty := .boolean) hx hb hr rfl (fun t ht hW => ⟨0, rfl, (Or.inl rfl), ht⟩) (fun q h => absurd h List.not_mem_nil) dX3_mayCome_32
        · refine lv_iconst (v := 1) hx hb dX3_mayCome_27 (by decide) ?_
          refine lv_goto (tgt := 32) hx hb dX3_mayCome_28 (by decide) ?_
          exact W.zret (v := 1) (ty := .boolean) hx hb hr rfl (fun t ht hW => ⟨1, rfl, (Or.inr rfl), ht⟩) (fun q h => absurd h List.not_mem_nil) dX3_mayCome_32
  · refine lv_iconst (v := 0) hx hb dX3_mayCome_9 (by decide) ?_
    exact W.zret (v := 0) (ty := .boolean) hx hb hr rfl (fun t ht hW => ⟨0, rfl, (Or.inl rfl), ht⟩) (fun q h => absurd h List.not_mem_nil) dX3_mayCome_10

set_option maxHeartbeats 4000000 in
set_option maxRecDepth 100000 in
theorem e_leastOnce (l : Launch) (dC : Nat → ClassId) (dI : Nat → Nat → Nat) (ca : Nat → ClassId) (h : Nat) (g0 : Nat) (g1 : Nat) (g2 : Nat) (g4 : Nat) (g8 : Nat) (g9 : Nat) (g10 : Nat) (g11 : Nat) (qm : Nat) (om : Int32) (kn : Int32) (kl : Int32) (sd : Nat → Int32) (lq : Nat) (LE : Nat → Int32) (v1 : Int32) (v2 : Int32) (hv2 : cnt v2 5) (hst : -1073741824 ≤ v1.toInt ∧ v1.toInt ≤ 323) (hsd : ∀ j, j < 6 → cnt (sd j) 1771561) : Met l yX3_leastOnce (Cond.code yX3_leastOnce cX3_leastOnce 4 (some .int) :: gT) ({ frames := 1, cells := 0, slots := 0, locals := 60 }) (va_Pc [.ref h, .int v1, .int v2] (pu (dC, dI) [(h, .inr (3, [.ref g0, .ref g1, .ref g2, .int (nI qm), .ref g4, .int om, .int kn, .int kl, .ref g8, .ref g9, .ref g10, .ref g11, .ref lq])), (g10, .inl (ca 0, 6, .inl sd)), (lq, .inl (ca 0, 1944, .inl LE))] (aT ca))) (vp_Si (fun r => True)) 0 0 (fun _ => False) := by
  refine Met.ofW (cc := cX3_leastOnce) (maxL := 4) (ret := (some .int)) (by decide) rfl ?_
  intro p e s m args below meth c s₁ B hml hv
  obtain ⟨rfl, hP, hK, hE⟩ := hv
  have hx := B.exec
  have hb := B.bytes
  have hr := B.returns
  have hts : ∀ w ∈ gT, w.before _ s = true := fun w h => atoms_spec (ws := Cond.code yX3_leastOnce cX3_leastOnce 4 (some .int) :: gT) B.pre w (List.mem_cons_of_mem _ h)
  have hown : s.vm.findClass RX3 = some m.cls := findClass_of_methodNamed B.named
  have hlocks := B.notSynchronized
  have hl := lv_entry ([.ref h, .int v1, .int v2]) (n := 4) (Nat.le_of_ble_eq_true rfl)
  rw [lg_entry_eq]
  generalize (lg_sl ([.ref h, .int v1, .int v2]) ++ List.replicate (4 - (lg_sl ([.ref h, .int v1, .int v2])).length) Slot.unset).toArray = ls at hl ⊢
  have hl : lv_has ls 4 [(0, .ref h), (1, .int v1), (2, .int v2)] := hl
  refine lv_iload_n hx hb dX3_leastOnce_0 rfl (lv_at hl 1 rfl) ?_
  refine lv_aload_n hx hb dX3_leastOnce_1 rfl (lv_at hl 0 rfl) ?_
  refine va_get (D := (dC, dI)) (ci := 3) (v := .ref g10) (C := RX3) (T := TX3) (N := 13) hx hb hts inX3 hown hK hP 0 rfl rfl 10 (by decide) (hts _ mw_117) (fun _ h9 => h9) rfl dX3_leastOnce_2 ?_
  refine lv_iload_n hx hb dX3_leastOnce_5 rfl (lv_at hl 2 rfl) ?_
  refine va_iald hx hb hK hP 1 0 rfl rfl (cnt_vp hv2 (by decide) (by decide)) dX3_leastOnce_6 ?_
  refine lv_isub hx hb dX3_leastOnce_7 ?_
  refine lv_istore_n (lv' := [(3, .int (v1 - (sd (v2 : Int32).toNatClampNeg))), (0, .ref h), (1, .int v1), (2, .int v2)]) hx hb dX3_leastOnce_8 rfl hl (by decide) rfl (fun ls hl => ?_)
  refine lv_iload_n hx hb dX3_leastOnce_9 rfl (lv_at hl 0 rfl) ?_
  refine lv_if_lt (tgt := 27) hx hb dX3_leastOnce_10 (by decide) (fun c_1 => ?_) (fun c_1 => ?_)
  · refine lv_iconst (v := 0) hx hb dX3_leastOnce_27 (by decide) ?_
    exact W.iret (v := 0) hx hb hr (fun t ht hW => ⟨0, rfl, trivial, ht⟩) (fun q h => absurd h List.not_mem_nil) dX3_leastOnce_28
  · refine lv_aload_n hx hb dX3_leastOnce_13 rfl (lv_at hl 1 rfl) ?_
    refine va_get (D := (dC, dI)) (ci := 3) (v := .ref lq) (C := RX3) (T := TX3) (N := 13) hx hb hts inX3 hown hK hP 0 rfl rfl 12 (by decide) (hts _ mw_119) (fun _ h9 => h9) rfl dX3_leastOnce_14 ?_
    refine lv_iload_n hx hb dX3_leastOnce_17 rfl (lv_at hl 0 rfl) ?_
    refine lv_bipush (v := 6) hx hb dX3_leastOnce_18 (by decide) ?_
    refine lv_imul hx hb dX3_leastOnce_20 ?_
    refine lv_iload_n hx hb dX3_leastOnce_21 rfl (lv_at hl 3 rfl) ?_
    refine lv_iadd hx hb dX3_leastOnce_22 ?_
    refine va_iald hx hb hK hP 2 0 rfl rfl (lo_in hst hv2 (hsd _ (cl6 hv2)) c_1) dX3_leastOnce_23 ?_
    refine lv_goto (tgt := 28) hx hb dX3_leastOnce_24 (by decide) ?_
    exact W.iret (v := (LE ((((v1 - (sd (v2 : Int32).toNatClampNeg)) * 6) + v2) : Int32).toNatClampNeg)) hx hb hr (fun t ht hW => ⟨(LE ((((v1 - (sd (v2 : Int32).toNatClampNeg)) * 6) + v2) : Int32).toNatClampNeg), rfl, trivial, ht⟩) (fun q h => absurd h List.not_mem_nil) dX3_leastOnce_28

set_option maxHeartbeats 4000000 in
set_option maxRecDepth 100000 in
theorem e_findLeastOf (l : Launch) (dC : Nat → ClassId) (dI : Nat → Nat → Nat) (ca : Nat → ClassId) (sz : Nat) (h : Nat) (g0 : Nat) (g1 : Nat) (g2 : Nat) (g4 : Nat) (g8 : Nat) (g9 : Nat) (g10 : Nat) (g11 : Nat) (qm : Nat) (om : Int32) (kn : Int32) (kl : Int32) (ws : Nat → Int32) (sd : Nat → Int32) (wt : Nat → Int32) (lq : Nat) (LE : Nat → Int32) (n : Nat) (v2 : Int32) (hn : n ≤ 323) (hsd : ∀ j, j < 6 → cnt (sd j) 1771561) : Met l yX3_findLeastOf (Cond.code yX3_findLeastOf cX3_findLeastOf 8 none :: gT) ({ frames := 3, cells := 0, slots := 0, locals := 103 }) (va_Pc [.ref h, .int (nI n), .int v2] (pr (dC, dI) sz [(h, .inr (3, [.ref g0, .ref g1, .ref g2, .int (nI qm), .ref g4, .int om, .int kn, .int kl, .ref g8, .ref g9, .ref g10, .ref g11, .ref lq])), (g0, .inl (ca 0, 36, .inl ws)), (g10, .inl (ca 0, 6, .inl sd)), (g11, .inl (ca 0, 6, .inl wt)), (lq, .inl (ca 0, 1944, .inl LE))] (aT ca))) (va_Qv (fun (u_ : (Nat → Int32)) => True) (fun (u_ : (Nat → Int32)) t => va_P (dC, dI) vwCl [(h, .inr (3, [.ref g0, .ref g1, .ref g2, .int (nI qm), .ref g4, .int om, .int kn, .int kl, .ref g8, .ref g9, .ref g10, .ref g11, .ref lq])), (g0, .inl (ca 0, 36, .inl ws)), (g10, .inl (ca 0, 6, .inl sd)), (g11, .inl (ca 0, 6, .inl wt)), (lq, .inl (ca 0, 1944, .inl u_))] t.heap ∧ va_D (va_A [(h, .inr (3, [.ref g0, .ref g1, .ref g2, .int (nI qm), .ref g4, .int om, .int kn, .int kl, .ref g8, .ref g9, .ref g10, .ref g11, .ref lq])), (g0, .inl (ca 0, 36, .inl ws)), (g10, .inl (ca 0, 6, .inl sd)), (g11, .inl (ca 0, 6, .inl wt)), (lq, .inl (ca 0, 1944, .inl LE))] sz) [(h, .inr (3, [.ref g0, .ref g1, .ref g2, .int (nI qm), .ref g4, .int om, .int kn, .int kl, .ref g8, .ref g9, .ref g10, .ref g11, .ref lq])), (g0, .inl (ca 0, 36, .inl ws)), (g10, .inl (ca 0, 6, .inl sd)), (g11, .inl (ca 0, 6, .inl wt)), (lq, .inl (ca 0, 1944, .inl u_))]) (va_A [(h, .inr (3, [.ref g0, .ref g1, .ref g2, .int (nI qm), .ref g4, .int om, .int kn, .int kl, .ref g8, .ref g9, .ref g10, .ref g11, .ref lq])), (g0, .inl (ca 0, 36, .inl ws)), (g10, .inl (ca 0, 6, .inl sd)), (g11, .inl (ca 0, 6, .inl wt)), (lq, .inl (ca 0, 1944, .inl LE))] sz)) 0 0 (va_A [(h, .inr (3, [.ref g0, .ref g1, .ref g2, .int (nI qm), .ref g4, .int om, .int kn, .int kl, .ref g8, .ref g9, .ref g10, .ref g11, .ref lq])), (g0, .inl (ca 0, 36, .inl ws)), (g10, .inl (ca 0, 6, .inl sd)), (g11, .inl (ca 0, 6, .inl wt)), (lq, .inl (ca 0, 1944, .inl LE))] sz) := by
  refine Met.ofW (cc := cX3_findLeastOf) (maxL := 8) (ret := none) (by decide) rfl ?_
  intro p e s m args below meth c s₁ B hml hv
  obtain ⟨rfl, hsz, hP, hK, hD0, hE⟩ := hv
  have hx := B.exec
  have hb := B.bytes
  have hr := B.returns
  have hts : ∀ w ∈ gT, w.before _ s = true := fun w h => atoms_spec (ws := Cond.code yX3_findLeastOf cX3_findLeastOf 8 none :: gT) B.pre w (List.mem_cons_of_mem _ h)
  have hown : s.vm.findClass RX3 = some m.cls := findClass_of_methodNamed B.named
  have hlocks := B.notSynchronized
  subst hsz
  have hD := hD0.self (sz := s.heap.size)
  generalize hAe : va_A [(h, .inr (3, [.ref g0, .ref g1, .ref g2, .int (nI qm), .ref g4, .int om, .int kn, .int kl, .ref g8, .ref g9, .ref g10, .ref g11, .ref lq])), (g0, .inl (ca 0, 36, .inl ws)), (g10, .inl (ca 0, 6, .inl sd)), (g11, .inl (ca 0, 6, .inl wt)), (lq, .inl (ca 0, 1944, .inl LE))] s.heap.size = A at hD ⊢
  have hA : ∀ q : Nat, s.heap.size ≤ q → A q := fun q h => by rw [← hAe]; exact Or.inr h
  have hS : va_S A s.heap s.heap [] := va_S.rf
  have hl := lv_entry ([.ref h, .int (nI n), .int v2]) (n := 8) (Nat.le_of_ble_eq_true rfl)
  rw [lg_entry_eq]
  generalize (lg_sl ([.ref h, .int (nI n), .int v2]) ++ List.replicate (8 - (lg_sl ([.ref h, .int (nI n), .int v2])).length) Slot.unset).toArray = ls at hl ⊢
  have hl : lv_has ls 8 [(0, .ref h), (1, .int (nI n)), (2, .int v2)] := hl
  refine lv_iload_n hx hb dX3_findLeastOf_0 rfl (lv_at hl 1 rfl) ?_
  refine lv_bipush (v := 6) hx hb dX3_findLeastOf_1 (by decide) ?_
  refine lv_imul hx hb dX3_findLeastOf_3 ?_
  refine lv_topi (fun y_ e_ => ?_)
  obtain rfl : y_ = (nI (n * 6)) := e_.trans (pk_mul (n) (6))
  refine lv_istore_n (lv' := [(3, .int (nI (n * 6))), (0, .ref h), (1, .int (nI n)), (2, .int v2)]) hx hb dX3_findLeastOf_4 rfl hl (by decide) rfl (fun ls hl => ?_)
  refine lv_iconst (v := 0) hx hb dX3_findLeastOf_5 (by decide) ?_
  refine lv_istore (lv' := [(4, .int 0), (3, .int (nI (n * 6))), (0, .ref h), (1, .int (nI n)), (2, .int v2)]) hx hb dX3_findLeastOf_6 hl (by decide) rfl (fun ls hl => ?_)
  refine wl_loop (fun (z_ : Nat × (Nat → Int32)) H locs ls => (z_.1 ≤ 6) ∧ va_P (dC, dI) vwCl [(h, .inr (3, [.ref g0, .ref g1, .ref g2, .int (nI qm), .ref g4, .int om, .int kn, .int kl, .ref g8, .ref g9, .ref g10, .ref g11, .ref lq])), (g0, .inl (ca 0, 36, .inl ws)), (g10, .inl (ca 0, 6, .inl sd)), (g11, .inl (ca 0, 6, .inl wt)), (lq, .inl (ca 0, 1944, .inl z_.2))] H ∧ va_D A [(h, .inr (3, [.ref g0, .ref g1, .ref g2, .int (nI qm), .ref g4, .int om, .int kn, .int kl, .ref g8, .ref g9, .ref g10, .ref g11, .ref lq])), (g0, .inl (ca 0, 36, .inl ws)), (g10, .inl (ca 0, 6, .inl sd)), (g11, .inl (ca 0, 6, .inl wt)), (lq, .inl (ca 0, 1944, .inl z_.2))] ∧ va_S A s.heap H locs ∧ lv_has ls 8 [(4, .int (nI z_.1)), (3, .int (nI (n * 6))), (0, .ref h), (1, .int (nI n)), (2, .int v2)]) (fun (z_ : Nat × (Nat → Int32)) => 6 - z_.1) (fun z_ H locs ls hI ih => ?_) (0, LE) ⟨(Nat.zero_le _), hP, hD, hS, lv_sub hl [0, 1, 2, 3, 4] rfl⟩
  obtain ⟨i, L1⟩ := z_
  dsimp only at hI ih
  obtain ⟨hi, hP, hD, hS, hl⟩ := hI
  refine lv_iload hx hb dX3_findLeastOf_8 (lv_at hl 0 rfl) ?_
  refine lv_bipush (v := 6) hx hb dX3_findLeastOf_10 (by decide) ?_
  refine lv_icmp_ge (tgt := 32) hx hb dX3_findLeastOf_12 (by decide) (fun c_1 => ?_) (fun c_1 => ?_)
  · have nc_1 : 6 ≤ i := (nI_leI (a := 6) (b := i) (by omega) (by omega)).mp c_1
    refine lv_iconst (v := 0) hx hb dX3_findLeastOf_32 (by decide) ?_
    refine lv_istore (lv' := [(4, .int 0), (3, .int (nI (n * 6))), (0, .ref h), (1, .int (nI n)), (2, .int v2)]) hx hb dX3_findLeastOf_33 hl (by decide) rfl (fun ls hl => ?_)
    refine wl_loop (fun (z_ : Nat × (Nat → Int32)) H locs ls => (z_.1 ≤ 6) ∧ va_P (dC, dI) vwCl [(h, .inr (3, [.ref g0, .ref g1, .ref g2, .int (nI qm), .ref g4, .int om, .int kn, .int kl, .ref g8, .ref g9, .ref g10, .ref g11, .ref lq])), (g0, .inl (ca 0, 36, .inl ws)), (g10, .inl (ca 0, 6, .inl sd)), (g11, .inl (ca 0, 6, .inl wt)), (lq, .inl (ca 0, 1944, .inl z_.2))] H ∧ va_D A [(h, .inr (3, [.ref g0, .ref g1, .ref g2, .int (nI qm), .ref g4, .int om, .int kn, .int kl, .ref g8, .ref g9, .ref g10, .ref g11, .ref lq])), (g0, .inl (ca 0, 36, .inl ws)), (g10, .inl (ca 0, 6, .inl sd)), (g11, .inl (ca 0, 6, .inl wt)), (lq, .inl (ca 0, 1944, .inl z_.2))] ∧ va_S A s.heap H locs ∧ lv_has ls 8 [(4, .int (nI z_.1)), (3, .int (nI (n * 6))), (0, .ref h), (1, .int (nI n)), (2, .int v2)]) (fun (z_ : Nat × (Nat → Int32)) => 6 - z_.1) (fun z_ H locs ls hI ih35 => ?_) (0, L1) ⟨(Nat.zero_le _), hP, hD, hS, lv_sub hl [0, 1, 2, 3, 4] rfl⟩
    obtain ⟨i2, L2⟩ := z_
    dsimp only at hI ih35
    obtain ⟨hi2, hP, hD, hS, hl⟩ := hI
    refine lv_iload hx hb dX3_findLeastOf_35 (lv_at hl 0 rfl) ?_
    refine lv_bipush (v := 6) hx hb dX3_findLeastOf_37 (by decide) ?_
    refine lv_icmp_ge (tgt := 124) hx hb dX3_findLeastOf_39 (by decide) (fun c_2 => ?_) (fun c_2 => ?_)
    · have nc_2 : 6 ≤ i2 := (nI_leI (a := 6) (b := i2) (by omega) (by omega)).mp c_2
      refine W.widen (k := 0) (n := 0) (Nat.le_of_ble_eq_true rfl) (Nat.le_of_ble_eq_true rfl) ?_
      have hP9 : va_P (dC, dI) vwCl [(h, .inr (3, [.ref g0, .ref g1, .ref g2, .int (nI qm), .ref g4, .int om, .int kn, .int kl, .ref g8, .ref g9, .ref g10, .ref g11, .ref lq])), (g0, .inl (ca 0, 36, .inl ws)), (g10, .inl (ca 0, 6, .inl sd)), (g11, .inl (ca 0, 6, .inl wt)), (lq, .inl (ca 0, 1944, .inl L2))] H := va_P.sub hP [0, 1, 2, 3, 4] rfl
      have hD9 : va_D A [(h, .inr (3, [.ref g0, .ref g1, .ref g2, .int (nI qm), .ref g4, .int om, .int kn, .int kl, .ref g8, .ref g9, .ref g10, .ref g11, .ref lq])), (g0, .inl (ca 0, 36, .inl ws)), (g10, .inl (ca 0, 6, .inl sd)), (g11, .inl (ca 0, 6, .inl wt)), (lq, .inl (ca 0, 1944, .inl L2))] := va_D.sub hD [0, 1, 2, 3, 4] (by decide) rfl
      exact W.vret hx hb hr (fun t ht hW => ⟨⟨L2, rfl, trivial, by rw [ht]; exact hP9, hD9⟩, hS.F ht⟩) hS.2.2 dX3_findLeastOf_124
    · have nc_2 : ¬ (6 ≤ i2) := fun h9 => c_2 ((nI_leI (a := 6) (b := i2) (by omega) (by omega)).mpr h9)
      refine lv_aload_n hx hb dX3_findLeastOf_42 rfl (lv_at hl 2 rfl) ?_
      refine lv_iload hx hb dX3_findLeastOf_43 (lv_at hl 0 rfl) ?_
      refine lv_iload_n hx hb dX3_findLeastOf_45 rfl (lv_at hl 4 rfl) ?_
      have hPc := hP.sub (ws' := [(h, .inr (3, [.ref g0, .ref g1, .ref g2, .int (nI qm), .ref g4, .int om, .int kn, .int kl, .ref g8, .ref g9, .ref g10, .ref g11, va_rf (some lq)])), (g11, .inl (ca 0, 6, .inl wt))]) [0, 3] rfl
      refine pc_i (va_runV (As := [.int (nI i2), .int v2]) (rest := []) ⟨hx, hb, hml, hown, hts⟩ (e_mayCome l dC dI ca h g0 g1 g2 g4 g8 g9 g10 g11 qm om kn kl (some lq) wt (nI i2) v2 (by first | assumption | omega | exact ⟨_, by omega, rfl⟩)) (⟨callB_of 2 hts (gd mw_835) rfl rfl rfl (hts _ mw_5) (hts _ mw_832) ds_X3_mayCome ⟨Nat.le_of_ble_eq_true rfl, Nat.le_of_ble_eq_true rfl⟩, (hts _ mw_834), (hts _ mp_32)⟩) (pu_V hPc hK hE (va_recv hK hPc (ci := 3) (q0 := 0) rfl rfl)) rfl rfl hl.1 rfl (lv_room (Nat.le_of_ble_eq_true rfl)) dX3_findLeastOf_46 ⟨Nat.le_of_ble_eq_true rfl, Nat.le_of_ble_eq_true rfl⟩) (fun rv_3 hw_ => ?_)
      have hw_3 := hw_
      refine lv_if_eq (tgt := 118) hx hb dX3_findLeastOf_49 (by decide) (fun c_4 => ?_) (fun c_4 => ?_)
      · refine lv_iinc (v := (nI (i2 + 1))) (lv' := [(4, .int (nI (i2 + 1))), (3, .int (nI (n * 6))), (0, .ref h), (1, .int (nI n)), (2, .int v2)]) hx hb dX3_findLeastOf_118 hl (k := 0) rfl (nI_add (i2) 1) (by decide) rfl (fun ls hl => ?_)
        refine lv_goto (tgt := 35) hx hb dX3_findLeastOf_121 (by decide) ?_
        exact ih35 (i2 + 1, L2) _ _ _ (by omega) ⟨(by omega), hP, hD, hS, lv_sub hl [0, 1, 2, 3, 4] rfl⟩
      · refine lv_aload_n hx hb dX3_findLeastOf_52 rfl (lv_at hl 2 rfl) ?_
        refine lv_iload_n hx hb dX3_findLeastOf_53 rfl (lv_at hl 3 rfl) ?_
        refine lv_iload hx hb dX3_findLeastOf_54 (lv_at hl 0 rfl) ?_
        have hPc := hP.sub (ws' := [(h, .inr (3, [.ref g0, .ref g1, .ref g2, .int (nI qm), .ref g4, .int om, .int kn, .int kl, .ref g8, .ref g9, .ref g10, .ref g11, .ref lq])), (g10, .inl (ca 0, 6, .inl sd)), (lq, .inl (ca 0, 1944, .inl L2))]) [0, 2, 4] rfl
        refine pc_i (va_runV (As := [.int (nI n), .int (nI i2)]) (rest := []) ⟨hx, hb, hml, hown, hts⟩ (e_leastOnce l dC dI ca h g0 g1 g2 g4 g8 g9 g10 g11 qm om kn kl sd lq L2 (nI n) (nI i2) (by first | assumption | omega | exact ⟨_, by omega, rfl⟩) (nI_st hn) hsd) (⟨callB_of 2 hts (gd mw_843) rfl rfl rfl (hts _ mw_5) (hts _ mw_840) ds_X3_leastOnce ⟨Nat.le_of_ble_eq_true rfl, Nat.le_of_ble_eq_true rfl⟩, (hts _ mw_842), (hts _ mp_34)⟩) (pu_V hPc hK hE (va_recv hK hPc (ci := 3) (q0 := 0) rfl rfl)) rfl rfl hl.1 rfl (lv_room (Nat.le_of_ble_eq_true rfl)) dX3_findLeastOf_56 ⟨Nat.le_of_ble_eq_true rfl, Nat.le_of_ble_eq_true rfl⟩) (fun rv_5 hw_ => ?_)
        have hw_5 := hw_
        refine lv_istore (lv' := [(5, .int rv_5), (4, .int (nI i2)), (3, .int (nI (n * 6))), (0, .ref h), (1, .int (nI n)), (2, .int v2)]) hx hb dX3_findLeastOf_59 hl (by decide) rfl (fun ls hl => ?_)
        refine lv_iconst (v := 0) hx hb dX3_findLeastOf_61 (by decide) ?_
        refine lv_istore (lv' := [(6, .int 0), (5, .int rv_5), (4, .int (nI i2)), (3, .int (nI (n * 6))), (0, .ref h), (1, .int (nI n)), (2, .int v2)]) hx hb dX3_findLeastOf_62 hl (by decide) rfl (fun ls hl => ?_)
        refine wl_loop (fun (z_ : Nat × (Nat → Int32)) H locs ls => (z_.1 ≤ 6) ∧ va_P (dC, dI) vwCl [(h, .inr (3, [.ref g0, .ref g1, .ref g2, .int (nI qm), .ref g4, .int om, .int kn, .int kl, .ref g8, .ref g9, .ref g10, .ref g11, .ref lq])), (g0, .inl (ca 0, 36, .inl ws)), (g10, .inl (ca 0, 6, .inl sd)), (g11, .inl (ca 0, 6, .inl wt)), (lq, .inl (ca 0, 1944, .inl z_.2))] H ∧ va_D A [(h, .inr (3, [.ref g0, .ref g1, .ref g2, .int (nI qm), .ref g4, .int om, .int kn, .int kl, .ref g8, .ref g9, .ref g10, .ref g11, .ref lq])), (g0, .inl (ca 0, 36, .inl ws)), (g10, .inl (ca 0, 6, .inl sd)), (g11, .inl (ca 0, 6, .inl wt)), (lq, .inl (ca 0, 1944, .inl z_.2))] ∧ va_S A s.heap H locs ∧ lv_has ls 8 [(6, .int (nI z_.1)), (5, .int rv_5), (4, .int (nI i2)), (3, .int (nI (n * 6))), (0, .ref h), (1, .int (nI n)), (2, .int v2)]) (fun (z_ : Nat × (Nat → Int32)) => 6 - z_.1) (fun z_ H locs ls hI ih64 => ?_) (0, L2) ⟨(Nat.zero_le _), hP, hD, hS, lv_sub hl [0, 1, 2, 3, 4, 5, 6] rfl⟩
        obtain ⟨j, L3⟩ := z_
        dsimp only at hI ih64
        obtain ⟨hj, hP, hD, hS, hl⟩ := hI
        refine lv_iload hx hb dX3_findLeastOf_64 (lv_at hl 0 rfl) ?_
        refine lv_bipush (v := 6) hx hb dX3_findLeastOf_66 (by decide) ?_
        refine lv_icmp_ge (tgt := 118) hx hb dX3_findLeastOf_68 (by decide) (fun c_6 => ?_) (fun c_6 => ?_)
        · have nc_6 : 6 ≤ j := (nI_leI (a := 6) (b := j) (by omega) (by omega)).mp c_6
          refine lv_iinc (v := (nI (i2 + 1))) (lv' := [(4, .int (nI (i2 + 1))), (6, .int (nI j)), (5, .int rv_5), (3, .int (nI (n * 6))), (0, .ref h), (1, .int (nI n)), (2, .int v2)]) hx hb dX3_findLeastOf_118 hl (k := 2) rfl (nI_add (i2) 1) (by decide) rfl (fun ls hl => ?_)
          refine lv_goto (tgt := 35) hx hb dX3_findLeastOf_121 (by decide) ?_
          exact ih35 (i2 + 1, L3) _ _ _ (by omega) ⟨(by omega), hP, hD, hS, lv_sub hl [0, 3, 4, 5, 6] rfl⟩
        · have nc_6 : ¬ (6 ≤ j) := fun h9 => c_6 ((nI_leI (a := 6) (b := j) (by omega) (by omega)).mpr h9)
          refine lv_aload_n hx hb dX3_findLeastOf_71 rfl (lv_at hl 4 rfl) ?_
          refine va_get (D := (dC, dI)) (ci := 3) (v := .ref g0) (C := RX3) (T := TX3) (N := 13) hx hb hts inX3 hown hK hP 0 rfl rfl 0 (by decide) (hts _ mw_104) (fun _ h9 => h9) rfl dX3_findLeastOf_72 ?_
          refine lv_iload hx hb dX3_findLeastOf_75 (lv_at hl 0 rfl) ?_
          refine lv_bipush (v := 6) hx hb dX3_findLeastOf_77 (by decide) ?_
          refine lv_imul hx hb dX3_findLeastOf_79 ?_
          refine lv_topi (fun y_ e_ => ?_)
          obtain rfl : y_ = (nI (j * 6)) := e_.trans (pk_mul (j) (6))
          refine lv_iload hx hb dX3_findLeastOf_80 (lv_at hl 2 rfl) ?_
          refine lv_iadd hx hb dX3_findLeastOf_82 ?_
          refine lv_topi (fun y_ e_ => ?_)
          obtain rfl : y_ = (nI (j * 6 + i2)) := e_.trans (nI_add (j * 6) (i2))
          refine va_iald hx hb hK hP 1 0 rfl rfl (vp_in_nI (show j * 6 + i2 < 36 by omega) (by first | decide | omega)) dX3_findLeastOf_83 ?_
          refine lv_topi (fun y_ e_ => ?_)
          obtain rfl : y_ = (ws (j * 6 + i2)) := e_.trans (congrArg ws (show ((nI (j * 6 + i2)) : Int32).toNatClampNeg = j * 6 + i2 from nI_clamp (by omega)))
          refine lv_iload hx hb dX3_findLeastOf_84 (lv_at hl 1 rfl) ?_
          refine lv_iadd hx hb dX3_findLeastOf_86 ?_
          refine lv_istore (lv' := [(7, .int ((ws (j * 6 + i2)) + rv_5)), (6, .int (nI j)), (5, .int rv_5), (4, .int (nI i2)), (3, .int (nI (n * 6))), (0, .ref h), (1, .int (nI n)), (2, .int v2)]) hx hb dX3_findLeastOf_87 hl (by decide) rfl (fun ls hl => ?_)
          refine lv_aload_n hx hb dX3_findLeastOf_89 rfl (lv_at hl 5 rfl) ?_
          refine va_get (D := (dC, dI)) (ci := 3) (v := .ref lq) (C := RX3) (T := TX3) (N := 13) hx hb hts inX3 hown hK hP 0 rfl rfl 12 (by decide) (hts _ mw_119) (fun _ h9 => h9) rfl dX3_findLeastOf_90 ?_
          refine lv_iload_n hx hb dX3_findLeastOf_93 rfl (lv_at hl 4 rfl) ?_
          refine lv_iload hx hb dX3_findLeastOf_94 (lv_at hl 1 rfl) ?_
          refine lv_iadd hx hb dX3_findLeastOf_96 ?_
          refine lv_topi (fun y_ e_ => ?_)
          obtain rfl : y_ = (nI (n * 6 + j)) := e_.trans (nI_add (n * 6) (j))
          refine lv_aload_n hx hb dX3_findLeastOf_97 rfl (lv_at hl 5 rfl) ?_
          refine va_get (D := (dC, dI)) (ci := 3) (v := .ref lq) (C := RX3) (T := TX3) (N := 13) hx hb hts inX3 hown hK hP 0 rfl rfl 12 (by decide) (hts _ mw_119) (fun _ h9 => h9) rfl dX3_findLeastOf_98 ?_
          refine lv_iload_n hx hb dX3_findLeastOf_101 rfl (lv_at hl 4 rfl) ?_
          refine lv_iload hx hb dX3_findLeastOf_102 (lv_at hl 1 rfl) ?_
          refine lv_iadd hx hb dX3_findLeastOf_104 ?_
          refine lv_topi (fun y_ e_ => ?_)
          obtain rfl : y_ = (nI (n * 6 + j)) := e_.trans (nI_add (n * 6) (j))
          refine va_iald hx hb hK hP 4 0 rfl rfl (vp_in_nI (show n * 6 + j < 1944 by omega) (by first | decide | omega)) dX3_findLeastOf_105 ?_
          refine lv_topi (fun y_ e_ => ?_)
          obtain rfl : y_ = (L3 (n * 6 + j)) := e_.trans (congrArg L3 (show ((nI (n * 6 + j)) : Int32).toNatClampNeg = n * 6 + j from nI_clamp (by omega)))
          refine lv_iload hx hb dX3_findLeastOf_106 (lv_at hl 0 rfl) ?_
          refine va_mmin hx hb (by rw [hml]; exact hl.1.symm) hown (hts _ mw_818) (hts _ mw_442) (hts _ mw_12) (hts _ mmin_code) (Nat.le_of_ble_eq_true rfl) (Nat.le_of_ble_eq_true rfl) (Nat.le_of_ble_eq_true rfl) (Nat.le_of_ble_eq_true rfl) dX3_findLeastOf_108 ?_
          refine lv_topi (fun y_ e_ => ?_)
          obtain rfl : y_ = (miI (L3 (n * 6 + j)) ((ws (j * 6 + i2)) + rv_5)) := e_.trans rfl
          refine va_iast hx hb hK hP hD hS 4 0 rfl rfl (vp_in_nI (show n * 6 + j < 1944 by omega) (by first | decide | omega)) dX3_findLeastOf_111 (fun H locs hP hD hS => ?_)
          rw [(show ((nI (n * 6 + j)) : Int32).toNatClampNeg = n * 6 + j from nI_clamp (by omega))] at hP hD
          have hP : va_P (dC, dI) vwCl [(h, .inr (3, [.ref g0, .ref g1, .ref g2, .int (nI qm), .ref g4, .int om, .int kn, .int kl, .ref g8, .ref g9, .ref g10, .ref g11, .ref lq])), (g0, .inl (ca 0, 36, .inl ws)), (g10, .inl (ca 0, 6, .inl sd)), (g11, .inl (ca 0, 6, .inl wt)), (lq, .inl (ca 0, 1944, .inl (upd L3 (n * 6 + j) (miI (L3 (n * 6 + j)) ((ws (j * 6 + i2)) + rv_5)))))] H := hP
          have hD : va_D A [(h, .inr (3, [.ref g0, .ref g1, .ref g2, .int (nI qm), .ref g4, .int om, .int kn, .int kl, .ref g8, .ref g9, .ref g10, .ref g11, .ref lq])), (g0, .inl (ca 0, 36, .inl ws)), (g10, .inl (ca 0, 6, .inl sd)), (g11, .inl (ca 0, 6, .inl wt)), (lq, .inl (ca 0, 1944, .inl (upd L3 (n * 6 + j) (miI (L3 (n * 6 + j)) ((ws (j * 6 + i2)) + rv_5)))))] := hD
          refine lv_iinc (v := (nI (j + 1))) (lv' := [(6, .int (nI (j + 1))), (7, .int ((ws (j * 6 + i2)) + rv_5)), (5, .int rv_5), (4, .int (nI i2)), (3, .int (nI (n * 6))), (0, .ref h), (1, .int (nI n)), (2, .int v2)]) hx hb dX3_findLeastOf_112 hl (k := 1) rfl (nI_add (j) 1) (by decide) rfl (fun ls hl => ?_)
          refine lv_goto (tgt := 64) hx hb dX3_findLeastOf_115 (by decide) ?_
          exact ih64 (j + 1, (upd L3 (n * 6 + j) (miI (L3 (n * 6 + j)) ((ws (j * 6 + i2)) + rv_5)))) _ _ _ (by omega) ⟨(by omega), hP, hD, hS, lv_sub hl [0, 2, 3, 4, 5, 6, 7] rfl⟩
  · have nc_1 : ¬ (6 ≤ i) := fun h9 => c_1 ((nI_leI (a := 6) (b := i) (by omega) (by omega)).mpr h9)
    refine lv_aload_n hx hb dX3_findLeastOf_15 rfl (lv_at hl 2 rfl) ?_
    refine va_get (D := (dC, dI)) (ci := 3) (v := .ref lq) (C := RX3) (T := TX3) (N := 13) hx hb hts inX3 hown hK hP 0 rfl rfl 12 (by decide) (hts _ mw_119) (fun _ h9 => h9) rfl dX3_findLeastOf_16 ?_
    refine lv_iload_n hx hb dX3_findLeastOf_19 rfl (lv_at hl 1 rfl) ?_
    refine lv_iload hx hb dX3_findLeastOf_20 (lv_at hl 0 rfl) ?_
    refine lv_iadd hx hb dX3_findLeastOf_22 ?_
    refine lv_topi (fun y_ e_ => ?_)
    obtain rfl : y_ = (nI (n * 6 + i)) := e_.trans (nI_add (n * 6) (i))
    refine lv_ldc (v := 2147483647) hx hb hown (hts _ mw_831) dX3_findLeastOf_23 ?_
    refine va_iast hx hb hK hP hD hS 4 0 rfl rfl (vp_in_nI (show n * 6 + i < 1944 by omega) (by first | decide | omega)) dX3_findLeastOf_25 (fun H locs hP hD hS => ?_)
    rw [(show ((nI (n * 6 + i)) : Int32).toNatClampNeg = n * 6 + i from nI_clamp (by omega))] at hP hD
    have hP : va_P (dC, dI) vwCl [(h, .inr (3, [.ref g0, .ref g1, .ref g2, .int (nI qm), .ref g4, .int om, .int kn, .int kl, .ref g8, .ref g9, .ref g10, .ref g11, .ref lq])), (g0, .inl (ca 0, 36, .inl ws)), (g10, .inl (ca 0, 6, .inl sd)), (g11, .inl (ca 0, 6, .inl wt)), (lq, .inl (ca 0, 1944, .inl (upd L1 (n * 6 + i) 2147483647)))] H := hP
    have hD : va_D A [(h, .inr (3, [.ref g0, .ref g1, .ref g2, .int (nI qm), .ref g4, .int om, .int kn, .int kl, .ref g8, .ref g9, .ref g10, .ref g11, .ref lq])), (g0, .inl (ca 0, 36, .inl ws)), (g10, .inl (ca 0, 6, .inl sd)), (g11, .inl (ca 0, 6, .inl wt)), (lq, .inl (ca 0, 1944, .inl (upd L1 (n * 6 + i) 2147483647)))] := hD
    refine lv_iinc (v := (nI (i + 1))) (lv' := [(4, .int (nI (i + 1))), (3, .int (nI (n * 6))), (0, .ref h), (1, .int (nI n)), (2, .int v2)]) hx hb dX3_findLeastOf_26 hl (k := 0) rfl (nI_add (i) 1) (by decide) rfl (fun ls hl => ?_)
    refine lv_goto (tgt := 8) hx hb dX3_findLeastOf_29 (by decide) ?_
    exact ih (i + 1, (upd L1 (n * 6 + i) 2147483647)) _ _ _ (by omega) ⟨(by omega), hP, hD, hS, lv_sub hl [0, 1, 2, 3, 4] rfl⟩

set_option maxHeartbeats 4000000 in
set_option maxRecDepth 100000 in
theorem e_findLeast (l : Launch) (dC : Nat → ClassId) (dI : Nat → Nat → Nat) (ca : Nat → ClassId) (sz : Nat) (h : Nat) (g0 : Nat) (g1 : Nat) (g2 : Nat) (g4 : Nat) (g8 : Nat) (g9 : Nat) (g10 : Nat) (g11 : Nat) (qm : Nat) (om : Int32) (kn : Int32) (kl : Int32) (lst : Option Nat) (ws : Nat → Int32) (ct : Nat → Int32) (sd : Nat → Int32) (wt : Nat → Int32) (LE : Nat → Int32) (n : Nat) (v2 : Int32) (tl : va_W) (hn : 1 ≤ n ∧ n ≤ 324) (hsd : ∀ j, j < 6 → cnt (sd j) 1771561) : Met l yX3_findLeast (Cond.code yX3_findLeast cX3_findLeast 4 none :: gT) ({ frames := 4, cells := (oM lst), slots := (1944 * oM lst), locals := 130 }) (va_Pc [.ref h, .int (nI n), .int v2] (pr (dC, dI) sz (@HAppend.hAppend va_W va_W va_W _ [(h, .inr (3, [.ref g0, .ref g1, .ref g2, .int (nI qm), .ref g4, .int om, .int kn, .int kl, .ref g8, .ref g9, .ref g10, .ref g11, va_rf lst])), (g0, .inl (ca 0, 36, .inl ws)), (g9, .inl (ca 0, 6, .inl ct)), (g10, .inl (ca 0, 6, .inl sd)), (g11, .inl (ca 0, 6, .inl wt))] (@HAppend.hAppend va_W va_W va_W _ (oL ca lst LE) tl)) (aT ca))) (va_Qv (fun (u_ : Nat × (Nat → Int32) × (Nat → Int32)) => True) (fun (u_ : Nat × (Nat → Int32) × (Nat → Int32)) t => va_P (dC, dI) vwCl (@HAppend.hAppend va_W va_W va_W _ [(h, .inr (3, [.ref g0, .ref g1, .ref g2, .int (nI qm), .ref g4, .int om, .int kn, .int kl, .ref g8, .ref g9, .ref g10, .ref g11, .ref u_.1])), (g0, .inl (ca 0, 36, .inl ws)), (g9, .inl (ca 0, 6, .inl ct)), (g10, .inl (ca 0, 6, .inl sd)), (g11, .inl (ca 0, 6, .inl u_.2.2)), (u_.1, .inl (ca 0, 1944, .inl u_.2.1))] tl) t.heap ∧ va_D (va_A (@HAppend.hAppend va_W va_W va_W _ [(h, .inr (3, [.ref g0, .ref g1, .ref g2, .int (nI qm), .ref g4, .int om, .int kn, .int kl, .ref g8, .ref g9, .ref g10, .ref g11, va_rf lst])), (g0, .inl (ca 0, 36, .inl ws)), (g9, .inl (ca 0, 6, .inl ct)), (g10, .inl (ca 0, 6, .inl sd)), (g11, .inl (ca 0, 6, .inl wt))] (@HAppend.hAppend va_W va_W va_W _ (oL ca lst LE) tl)) sz) (@HAppend.hAppend va_W va_W va_W _ [(h, .inr (3, [.ref g0, .ref g1, .ref g2, .int (nI qm), .ref g4, .int om, .int kn, .int kl, .ref g8, .ref g9, .ref g10, .ref g11, .ref u_.1])), (g0, .inl (ca 0, 36, .inl ws)), (g9, .inl (ca 0, 6, .inl ct)), (g10, .inl (ca 0, 6, .inl sd)), (g11, .inl (ca 0, 6, .inl u_.2.2)), (u_.1, .inl (ca 0, 1944, .inl u_.2.1))] tl)) (va_A (@HAppend.hAppend va_W va_W va_W _ [(h, .inr (3, [.ref g0, .ref g1, .ref g2, .int (nI qm), .ref g4, .int om, .int kn, .int kl, .ref g8, .ref g9, .ref g10, .ref g11, va_rf lst])), (g0, .inl (ca 0, 36, .inl ws)), (g9, .inl (ca 0, 6, .inl ct)), (g10, .inl (ca 0, 6, .inl sd)), (g11, .inl (ca 0, 6, .inl wt))] (@HAppend.hAppend va_W va_W va_W _ (oL ca lst LE) tl)) sz)) (oM lst) (1944 * oM lst) (va_A (@HAppend.hAppend va_W va_W va_W _ [(h, .inr (3, [.ref g0, .ref g1, .ref g2, .int (nI qm), .ref g4, .int om, .int kn, .int kl, .ref g8, .ref g9, .ref g10, .ref g11, va_rf lst])), (g0, .inl (ca 0, 36, .inl ws)), (g9, .inl (ca 0, 6, .inl ct)), (g10, .inl (ca 0, 6, .inl sd)), (g11, .inl (ca 0, 6, .inl wt))] (@HAppend.hAppend va_W va_W va_W _ (oL ca lst LE) tl)) sz) := by
  refine Met.ofW (cc := cX3_findLeast) (maxL := 4) (ret := none) (by decide) rfl ?_
  intro p e s m args below meth c s₁ B hml hv
  obtain ⟨rfl, hsz, hP, hK, hD0, hE⟩ := hv
  have hx := B.exec
  have hb := B.bytes
  have hr := B.returns
  have hts : ∀ w ∈ gT, w.before _ s = true := fun w h => atoms_spec (ws := Cond.code yX3_findLeast cX3_findLeast 4 none :: gT) B.pre w (List.mem_cons_of_mem _ h)
  have hown : s.vm.findClass RX3 = some m.cls := findClass_of_methodNamed B.named
  have hlocks := B.notSynchronized
  subst hsz
  have hD := hD0.self (sz := s.heap.size)
  generalize hAe : va_A ([(h, .inr (3, [.ref g0, .ref g1, .ref g2, .int (nI qm), .ref g4, .int om, .int kn, .int kl, .ref g8, .ref g9, .ref g10, .ref g11, va_rf lst])), (g0, .inl (ca 0, 36, .inl ws)), (g9, .inl (ca 0, 6, .inl ct)), (g10, .inl (ca 0, 6, .inl sd)), (g11, .inl (ca 0, 6, .inl wt))] ++ (oL ca lst LE ++ tl)) s.heap.size = A at hD ⊢
  have hA : ∀ q : Nat, s.heap.size ≤ q → A q := fun q h => by rw [← hAe]; exact Or.inr h
  have hS : va_S A s.heap s.heap [] := va_S.rf
  have hl := lv_entry ([.ref h, .int (nI n), .int v2]) (n := 4) (Nat.le_of_ble_eq_true rfl)
  rw [lg_entry_eq]
  generalize (lg_sl ([.ref h, .int (nI n), .int v2]) ++ List.replicate (4 - (lg_sl ([.ref h, .int (nI n), .int v2])).length) Slot.unset).toArray = ls at hl ⊢
  have hl : lv_has ls 4 [(0, .ref h), (1, .int (nI n)), (2, .int v2)] := hl
  refine lv_aload_n hx hb dX3_findLeast_0 rfl (lv_at hl 0 rfl) ?_
  refine va_get (D := (dC, dI)) (ci := 3) (v := va_rf lst) (C := RX3) (T := TX3) (N := 13) hx hb hts inX3 hown hK hP 0 rfl rfl 12 (by decide) (hts _ mw_119) (fun _ h9 => h9) rfl dX3_findLeast_1 ?_
  cases lst with
  | none =>
    have hl : lv_has ls 4 [(0, .ref h), (1, .int (nI n)), (2, .int v2)] := hl
    refine W.eq (g2 := F0 m 4 ls [.null]) rfl ?_
    refine lv_ifnonnullN hx hb dX3_findLeast_4 ?_
    have hP : va_P (dC, dI) vwCl ([(h, .inr (3, [.ref g0, .ref g1, .ref g2, .int (nI qm), .ref g4, .int om, .int kn, .int kl, .ref g8, .ref g9, .ref g10, .ref g11, .null])), (g0, .inl (ca 0, 36, .inl ws)), (g9, .inl (ca 0, 6, .inl ct)), (g10, .inl (ca 0, 6, .inl sd)), (g11, .inl (ca 0, 6, .inl wt))] ++ tl) s.heap := hP
    have hD : va_D A ([(h, .inr (3, [.ref g0, .ref g1, .ref g2, .int (nI qm), .ref g4, .int om, .int kn, .int kl, .ref g8, .ref g9, .ref g10, .ref g11, .null])), (g0, .inl (ca 0, 36, .inl ws)), (g9, .inl (ca 0, 6, .inl ct)), (g10, .inl (ca 0, 6, .inl sd)), (g11, .inl (ca 0, 6, .inl wt))] ++ tl) := hD
    refine lv_aload_n hx hb dX3_findLeast_7 rfl (lv_at hl 0 rfl) ?_
    refine lv_sipush (v := 1944) hx hb dX3_findLeast_8 (by decide) ?_
    refine va_newa (atype := .int) (ty := .int) (a0 := (1944, .inl (fun _ => 0))) hx hb (hts _ mw_72) rfl hK hP hD hS hA (fun _ => rfl) (by decide) (by decide +kernel) (by decide) (by first | decide | omega | (simp [oM]; done) | (simp [oM]; omega)) (by first | decide | omega | (simp [oM]; done) | (simp [oM]; omega)) dX3_findLeast_11 (fun q2 y2 H hK9 hP hD hS => ?_)
    obtain rfl : y2 = ca 0 := ca_eq hK9 (tys := aT ca) 0 rfl
    have hP := va_P.swap (a := [(h, .inr (3, [.ref g0, .ref g1, .ref g2, .int (nI qm), .ref g4, .int om, .int kn, .int kl, .ref g8, .ref g9, .ref g10, .ref g11, .null])), (g0, .inl (ca 0, 36, .inl ws)), (g9, .inl (ca 0, 6, .inl ct)), (g10, .inl (ca 0, 6, .inl sd)), (g11, .inl (ca 0, 6, .inl wt))]) hP
    have hD := va_D.swap (a := [(h, .inr (3, [.ref g0, .ref g1, .ref g2, .int (nI qm), .ref g4, .int om, .int kn, .int kl, .ref g8, .ref g9, .ref g10, .ref g11, .null])), (g0, .inl (ca 0, 36, .inl ws)), (g9, .inl (ca 0, 6, .inl ct)), (g10, .inl (ca 0, 6, .inl sd)), (g11, .inl (ca 0, 6, .inl wt))]) hD
    have hP : va_P (dC, dI) vwCl ([(h, .inr (3, [.ref g0, .ref g1, .ref g2, .int (nI qm), .ref g4, .int om, .int kn, .int kl, .ref g8, .ref g9, .ref g10, .ref g11, .null])), (g0, .inl (ca 0, 36, .inl ws)), (g9, .inl (ca 0, 6, .inl ct)), (g10, .inl (ca 0, 6, .inl sd)), (g11, .inl (ca 0, 6, .inl wt)), (q2, .inl (ca 0, 1944, .inl (fun _ => 0)))] ++ tl) H := hP
    have hD : va_D A ([(h, .inr (3, [.ref g0, .ref g1, .ref g2, .int (nI qm), .ref g4, .int om, .int kn, .int kl, .ref g8, .ref g9, .ref g10, .ref g11, .null])), (g0, .inl (ca 0, 36, .inl ws)), (g9, .inl (ca 0, 6, .inl ct)), (g10, .inl (ca 0, 6, .inl sd)), (g11, .inl (ca 0, 6, .inl wt)), (q2, .inl (ca 0, 1944, .inl (fun _ => 0)))] ++ tl) := hD
    refine va_put (D := (dC, dI)) (ci := 3) (v := .ref q2) (ty := .array .int) (C := RX3) (T := TX3) (N := 13) hx hb hts inX3 tyX3 tyX3_ok nmX3 hown hK hP hD hS 0 rfl rfl 12 (by decide) (hts _ mw_119) (fun _ h9 => h9) rfl (by decide +kernel) rfl rfl (Nat.le_of_ble_eq_true rfl) dX3_findLeast_13 (fun H locs hP hD hS => ?_)
    have hP : va_P (dC, dI) vwCl ([(h, .inr (3, [.ref g0, .ref g1, .ref g2, .int (nI qm), .ref g4, .int om, .int kn, .int kl, .ref g8, .ref g9, .ref g10, .ref g11, .ref q2])), (g0, .inl (ca 0, 36, .inl ws)), (g9, .inl (ca 0, 6, .inl ct)), (g10, .inl (ca 0, 6, .inl sd)), (g11, .inl (ca 0, 6, .inl wt)), (q2, .inl (ca 0, 1944, .inl (fun _ => 0)))] ++ tl) H := hP
    have hD : va_D A ([(h, .inr (3, [.ref g0, .ref g1, .ref g2, .int (nI qm), .ref g4, .int om, .int kn, .int kl, .ref g8, .ref g9, .ref g10, .ref g11, .ref q2])), (g0, .inl (ca 0, 36, .inl ws)), (g9, .inl (ca 0, 6, .inl ct)), (g10, .inl (ca 0, 6, .inl sd)), (g11, .inl (ca 0, 6, .inl wt)), (q2, .inl (ca 0, 1944, .inl (fun _ => 0)))] ++ tl) := hD
    refine lv_aload_n hx hb dX3_findLeast_16 rfl (lv_at hl 0 rfl) ?_
    refine va_get (D := (dC, dI)) (ci := 3) (v := .ref g11) (C := RX3) (T := TX3) (N := 13) hx hb hts inX3 hown hK hP 0 rfl rfl 11 (by decide) (hts _ mw_118) (fun _ h9 => h9) rfl dX3_findLeast_17 ?_
    refine lv_iconst (v := 0) hx hb dX3_findLeast_20 (by decide) ?_
    have hPc := hP.sub (ws' := [(g11, .inl (ca 0, 6, .inl wt))]) [4] rfl
    have hDc := hD.sub (ws' := [(g11, .inl (ca 0, 6, .inl wt))]) [4] (by decide) rfl
    have hFc := va_free (wc := [(g11, .inl (ca 0, 6, .inl wt))]) hD hS hA [4] rfl
    refine va_callv (va_runS (As := [.ref g11, .int 0]) (rest := []) ⟨hx, hb, hml, hown, hts⟩ (c_fill l dC dI ca H.size g11 6 wt 0 (by first | decide | omega)) (⟨callB_of 2 hts (gd mw_42) rfl rfl rfl (hts _ mw_3) (hts _ mw_817) ds_J7_fill_53178 ⟨Nat.le_of_ble_eq_true rfl, Nat.le_of_ble_eq_true rfl⟩, (hts _ mw_41)⟩) (pr_S hPc hK hDc hE) rfl rfl hl.1 rfl (lv_room (Nat.le_of_ble_eq_true rfl)) dX3_findLeast_21 ⟨by show (0 + 1) + 0 ≤ (oM none); first | decide | omega | (simp [oM]; done), by show (0 + 1944) + 0 ≤ (1944 * oM none); first | decide | omega | (simp [oM]; done)⟩) hS (fun q _ h => hFc q h) hFc (fun u_ t_ H1 locs ht hvm hw_ hB hz1 hk1 hS => ?_)
    obtain ⟨hP1, hD1⟩ := hB
    rw [ht] at hP1
    obtain ⟨hP, hD⟩ := va_joinQ (X := [(h, .inr (3, [.ref g0, .ref g1, .ref g2, .int (nI qm), .ref g4, .int om, .int kn, .int kl, .ref g8, .ref g9, .ref g10, .ref g11, .ref q2])), (g0, .inl (ca 0, 36, .inl ws)), (g9, .inl (ca 0, 6, .inl ct)), (g10, .inl (ca 0, 6, .inl sd)), (g11, .inl (ca 0, 6, .inl wt)), (q2, .inl (ca 0, 1944, .inl (fun _ => 0)))]) (cx := [(g11, .inl (ca 0, 6, .inl wt))]) (wr := [(h, .inr (3, [.ref g0, .ref g1, .ref g2, .int (nI qm), .ref g4, .int om, .int kn, .int kl, .ref g8, .ref g9, .ref g10, .ref g11, .ref q2])), (g0, .inl (ca 0, 36, .inl ws)), (g9, .inl (ca 0, 6, .inl ct)), (g10, .inl (ca 0, 6, .inl sd)), (q2, .inl (ca 0, 1944, .inl (fun _ => 0)))]) (w1 := [(g11, .inl (ca 0, 6, .inl (flg wt 0 6)))]) hP hD [4] [0, 1, 2, 3, 5] rfl rfl (by decide) (by decide) hk1 hFc hP1 hD1
    generalize H1 = H at hP hS ⊢
    have hP : va_P (dC, dI) vwCl ([(h, .inr (3, [.ref g0, .ref g1, .ref g2, .int (nI qm), .ref g4, .int om, .int kn, .int kl, .ref g8, .ref g9, .ref g10, .ref g11, .ref q2])), (g0, .inl (ca 0, 36, .inl ws)), (g9, .inl (ca 0, 6, .inl ct)), (g10, .inl (ca 0, 6, .inl sd)), (q2, .inl (ca 0, 1944, .inl (fun _ => 0))), (g11, .inl (ca 0, 6, .inl (flg wt 0 6)))] ++ tl) H := hP
    have hD : va_D A ([(h, .inr (3, [.ref g0, .ref g1, .ref g2, .int (nI qm), .ref g4, .int om, .int kn, .int kl, .ref g8, .ref g9, .ref g10, .ref g11, .ref q2])), (g0, .inl (ca 0, 36, .inl ws)), (g9, .inl (ca 0, 6, .inl ct)), (g10, .inl (ca 0, 6, .inl sd)), (q2, .inl (ca 0, 1944, .inl (fun _ => 0))), (g11, .inl (ca 0, 6, .inl (flg wt 0 6)))] ++ tl) := hD
    refine lv_iconst (v := 0) hx hb dX3_findLeast_24 (by decide) ?_
    refine lv_istore_n (lv' := [(3, .int 0), (0, .ref h), (1, .int (nI n)), (2, .int v2)]) hx hb dX3_findLeast_25 rfl hl (by decide) rfl (fun ls hl => ?_)
    refine wl_loop (fun (z_ : Nat × (Nat → Int32)) H locs ls => (z_.1 ≤ 6) ∧ va_P (dC, dI) vwCl (@HAppend.hAppend va_W va_W va_W _ [(h, .inr (3, [.ref g0, .ref g1, .ref g2, .int (nI qm), .ref g4, .int om, .int kn, .int kl, .ref g8, .ref g9, .ref g10, .ref g11, .ref q2])), (g0, .inl (ca 0, 36, .inl ws)), (g9, .inl (ca 0, 6, .inl ct)), (g10, .inl (ca 0, 6, .inl sd)), (q2, .inl (ca 0, 1944, .inl z_.2)), (g11, .inl (ca 0, 6, .inl (flg wt 0 6)))] tl) H ∧ va_D A (@HAppend.hAppend va_W va_W va_W _ [(h, .inr (3, [.ref g0, .ref g1, .ref g2, .int (nI qm), .ref g4, .int om, .int kn, .int kl, .ref g8, .ref g9, .ref g10, .ref g11, .ref q2])), (g0, .inl (ca 0, 36, .inl ws)), (g9, .inl (ca 0, 6, .inl ct)), (g10, .inl (ca 0, 6, .inl sd)), (q2, .inl (ca 0, 1944, .inl z_.2)), (g11, .inl (ca 0, 6, .inl (flg wt 0 6)))] tl) ∧ va_S A s.heap H locs ∧ lv_has ls 4 [(3, .int (nI z_.1)), (0, .ref h), (1, .int (nI n)), (2, .int v2)]) (fun (z_ : Nat × (Nat → Int32)) => 6 - z_.1) (fun z_ H locs ls hI ih => ?_) (0, (fun _ => 0)) ⟨(Nat.zero_le _), hP, hD, hS, lv_sub hl [0, 1, 2, 3] rfl⟩
    obtain ⟨i, L1⟩ := z_
    dsimp only at hI ih
    obtain ⟨hi, hP, hD, hS, hl⟩ := hI
    refine lv_iload_n hx hb dX3_findLeast_26 rfl (lv_at hl 0 rfl) ?_
    refine lv_bipush (v := 6) hx hb dX3_findLeast_27 (by decide) ?_
    refine lv_icmp_ge (tgt := 45) hx hb dX3_findLeast_29 (by decide) (fun c_4 => ?_) (fun c_4 => ?_)
    · have nc_4 : 6 ≤ i := (nI_leI (a := 6) (b := i) (by omega) (by omega)).mp c_4
      refine lv_iconst (v := 1) hx hb dX3_findLeast_45 (by decide) ?_
      refine lv_istore_n (lv' := [(3, .int 1), (0, .ref h), (1, .int (nI n)), (2, .int v2)]) hx hb dX3_findLeast_46 rfl hl (by decide) rfl (fun ls hl => ?_)
      refine wl_loop (fun (z_ : Nat × (Nat → Int32) × (Nat → Int32)) H locs ls => (1 ≤ z_.1 ∧ z_.1 ≤ n) ∧ va_P (dC, dI) vwCl (@HAppend.hAppend va_W va_W va_W _ [(h, .inr (3, [.ref g0, .ref g1, .ref g2, .int (nI qm), .ref g4, .int om, .int kn, .int kl, .ref g8, .ref g9, .ref g10, .ref g11, .ref q2])), (g0, .inl (ca 0, 36, .inl ws)), (g9, .inl (ca 0, 6, .inl ct)), (g10, .inl (ca 0, 6, .inl sd)), (q2, .inl (ca 0, 1944, .inl z_.2.2)), (g11, .inl (ca 0, 6, .inl z_.2.1))] tl) H ∧ va_D A (@HAppend.hAppend va_W va_W va_W _ [(h, .inr (3, [.ref g0, .ref g1, .ref g2, .int (nI qm), .ref g4, .int om, .int kn, .int kl, .ref g8, .ref g9, .ref g10, .ref g11, .ref q2])), (g0, .inl (ca 0, 36, .inl ws)), (g9, .inl (ca 0, 6, .inl ct)), (g10, .inl (ca 0, 6, .inl sd)), (q2, .inl (ca 0, 1944, .inl z_.2.2)), (g11, .inl (ca 0, 6, .inl z_.2.1))] tl) ∧ va_S A s.heap H locs ∧ lv_has ls 4 [(3, .int (nI z_.1)), (0, .ref h), (1, .int (nI n)), (2, .int v2)]) (fun (z_ : Nat × (Nat → Int32) × (Nat → Int32)) => n - z_.1) (fun z_ H locs ls hI ih47 => ?_) (1, (flg wt 0 6), L1) ⟨⟨Nat.le_refl _, hn.1⟩, hP, hD, hS, lv_sub hl [0, 1, 2, 3] rfl⟩
      obtain ⟨i2, w2_, L2⟩ := z_
      dsimp only at hI ih47
      obtain ⟨⟨hi2, hi3⟩, hP, hD, hS, hl⟩ := hI
      refine lv_iload_n hx hb dX3_findLeast_47 rfl (lv_at hl 0 rfl) ?_
      refine lv_iload_n hx hb dX3_findLeast_48 rfl (lv_at hl 2 rfl) ?_
      refine lv_icmp_ge (tgt := 68) hx hb dX3_findLeast_49 (by decide) (fun c_5 => ?_) (fun c_5 => ?_)
      · have nc_5 : n ≤ i2 := (nI_leI (a := n) (b := i2) (by omega) (by omega)).mp c_5
        refine W.widen (k := (oM none)) (n := (1944 * oM none)) (by first | decide | omega | (simp [oM]; done) | (simp [oM]; omega)) (by first | decide | omega | (simp [oM]; done) | (simp [oM]; omega)) ?_
        have hP9 : va_P (dC, dI) vwCl (@HAppend.hAppend va_W va_W va_W _ [(h, .inr (3, [.ref g0, .ref g1, .ref g2, .int (nI qm), .ref g4, .int om, .int kn, .int kl, .ref g8, .ref g9, .ref g10, .ref g11, .ref q2])), (g0, .inl (ca 0, 36, .inl ws)), (g9, .inl (ca 0, 6, .inl ct)), (g10, .inl (ca 0, 6, .inl sd)), (g11, .inl (ca 0, 6, .inl w2_)), (q2, .inl (ca 0, 1944, .inl L2))] tl) H := va_P.part (X := [(h, .inr (3, [.ref g0, .ref g1, .ref g2, .int (nI qm), .ref g4, .int om, .int kn, .int kl, .ref g8, .ref g9, .ref g10, .ref g11, .ref q2])), (g0, .inl (ca 0, 36, .inl ws)), (g9, .inl (ca 0, 6, .inl ct)), (g10, .inl (ca 0, 6, .inl sd)), (q2, .inl (ca 0, 1944, .inl L2)), (g11, .inl (ca 0, 6, .inl w2_))]) hP [0, 1, 2, 3, 5, 4] rfl
        have hD9 : va_D A (@HAppend.hAppend va_W va_W va_W _ [(h, .inr (3, [.ref g0, .ref g1, .ref g2, .int (nI qm), .ref g4, .int om, .int kn, .int kl, .ref g8, .ref g9, .ref g10, .ref g11, .ref q2])), (g0, .inl (ca 0, 36, .inl ws)), (g9, .inl (ca 0, 6, .inl ct)), (g10, .inl (ca 0, 6, .inl sd)), (g11, .inl (ca 0, 6, .inl w2_)), (q2, .inl (ca 0, 1944, .inl L2))] tl) := va_D.part (X := [(h, .inr (3, [.ref g0, .ref g1, .ref g2, .int (nI qm), .ref g4, .int om, .int kn, .int kl, .ref g8, .ref g9, .ref g10, .ref g11, .ref q2])), (g0, .inl (ca 0, 36, .inl ws)), (g9, .inl (ca 0, 6, .inl ct)), (g10, .inl (ca 0, 6, .inl sd)), (q2, .inl (ca 0, 1944, .inl L2)), (g11, .inl (ca 0, 6, .inl w2_))]) hD [0, 1, 2, 3, 5, 4] (by decide) rfl
        exact W.vret hx hb hr (fun t ht hW => ⟨⟨(q2, L2, w2_), rfl, trivial, by rw [ht]; exact hP9, hD9⟩, hS.F ht⟩) hS.2.2 dX3_findLeast_68
      · have nc_5 : ¬ (n ≤ i2) := fun h9 => c_5 ((nI_leI (a := n) (b := i2) (by omega) (by omega)).mpr h9)
        refine lv_aload_n hx hb dX3_findLeast_52 rfl (lv_at hl 1 rfl) ?_
        have hPc := hP.sub (ws' := [(h, .inr (3, [.ref g0, .ref g1, .ref g2, .int (nI qm), .ref g4, .int om, .int kn, .int kl, .ref g8, .ref g9, .ref g10, .ref g11, va_rf (some q2)])), (g9, .inl (ca 0, 6, .inl ct)), (g11, .inl (ca 0, 6, .inl w2_))]) [0, 2, 5] rfl
        have hDc := hD.sub (ws' := [(h, .inr (3, [.ref g0, .ref g1, .ref g2, .int (nI qm), .ref g4, .int om, .int kn, .int kl, .ref g8, .ref g9, .ref g10, .ref g11, va_rf (some q2)])), (g9, .inl (ca 0, 6, .inl ct)), (g11, .inl (ca 0, 6, .inl w2_))]) [0, 2, 5] (by decide) rfl
        have hFc := va_free (wc := [(h, .inr (3, [.ref g0, .ref g1, .ref g2, .int (nI qm), .ref g4, .int om, .int kn, .int kl, .ref g8, .ref g9, .ref g10, .ref g11, va_rf (some q2)])), (g9, .inl (ca 0, 6, .inl ct)), (g11, .inl (ca 0, 6, .inl w2_))]) hD hS hA [0, 2, 5] rfl
        refine va_callv (va_runV (As := []) (rest := []) ⟨hx, hb, hml, hown, hts⟩ (e_countOn l dC dI ca H.size h g0 g1 g2 g4 g8 g9 g10 g11 qm om kn kl (some q2) ct w2_ ) (⟨callB_of 0 hts (gd mw_826) rfl rfl rfl (hts _ mw_5) (hts _ mw_823) ds_X3_countOn ⟨Nat.le_of_ble_eq_true rfl, Nat.le_of_ble_eq_true rfl⟩, (hts _ mw_825), (hts _ mp_30)⟩) (pr_V hPc hK hDc hE (va_recv hK hPc (ci := 3) (q0 := 0) rfl rfl)) rfl rfl hl.1 rfl (lv_room (Nat.le_of_ble_eq_true rfl)) dX3_findLeast_53 ⟨by show (0 + 1) + 0 ≤ (oM none); first | decide | omega | (simp [oM]; done), by show (0 + 1944) + 0 ≤ (1944 * oM none); first | decide | omega | (simp [oM]; done)⟩) hS (fun q _ h => hFc q h) hFc (fun wt2_6 t_ H1 locs ht hvm hw_ hB hz1 hk1 hS => ?_)
        obtain ⟨hP1, hD1⟩ := hB
        rw [ht] at hP1
        obtain ⟨hP, hD⟩ := va_joinQ (X := [(h, .inr (3, [.ref g0, .ref g1, .ref g2, .int (nI qm), .ref g4, .int om, .int kn, .int kl, .ref g8, .ref g9, .ref g10, .ref g11, .ref q2])), (g0, .inl (ca 0, 36, .inl ws)), (g9, .inl (ca 0, 6, .inl ct)), (g10, .inl (ca 0, 6, .inl sd)), (q2, .inl (ca 0, 1944, .inl L2)), (g11, .inl (ca 0, 6, .inl w2_))]) (cx := [(h, .inr (3, [.ref g0, .ref g1, .ref g2, .int (nI qm), .ref g4, .int om, .int kn, .int kl, .ref g8, .ref g9, .ref g10, .ref g11, va_rf (some q2)])), (g9, .inl (ca 0, 6, .inl ct)), (g11, .inl (ca 0, 6, .inl w2_))]) (wr := [(g0, .inl (ca 0, 36, .inl ws)), (g10, .inl (ca 0, 6, .inl sd)), (q2, .inl (ca 0, 1944, .inl L2))]) (w1 := [(h, .inr (3, [.ref g0, .ref g1, .ref g2, .int (nI qm), .ref g4, .int om, .int kn, .int kl, .ref g8, .ref g9, .ref g10, .ref g11, .ref q2])), (g9, .inl (ca 0, 6, .inl ct)), (g11, .inl (ca 0, 6, .inl wt2_6))]) hP hD [0, 2, 5] [1, 3, 4] rfl rfl (by decide) (by decide) hk1 hFc hP1 hD1
        generalize H1 = H at hP hS ⊢
        have hP : va_P (dC, dI) vwCl ([(g0, .inl (ca 0, 36, .inl ws)), (g10, .inl (ca 0, 6, .inl sd)), (q2, .inl (ca 0, 1944, .inl L2)), (h, .inr (3, [.ref g0, .ref g1, .ref g2, .int (nI qm), .ref g4, .int om, .int kn, .int kl, .ref g8, .ref g9, .ref g10, .ref g11, .ref q2])), (g9, .inl (ca 0, 6, .inl ct)), (g11, .inl (ca 0, 6, .inl wt2_6))] ++ tl) H := hP
        have hD : va_D A ([(g0, .inl (ca 0, 36, .inl ws)), (g10, .inl (ca 0, 6, .inl sd)), (q2, .inl (ca 0, 1944, .inl L2)), (h, .inr (3, [.ref g0, .ref g1, .ref g2, .int (nI qm), .ref g4, .int om, .int kn, .int kl, .ref g8, .ref g9, .ref g10, .ref g11, .ref q2])), (g9, .inl (ca 0, 6, .inl ct)), (g11, .inl (ca 0, 6, .inl wt2_6))] ++ tl) := hD
        refine lv_aload_n hx hb dX3_findLeast_56 rfl (lv_at hl 1 rfl) ?_
        refine lv_iload_n hx hb dX3_findLeast_57 rfl (lv_at hl 0 rfl) ?_
        refine lv_iload_n hx hb dX3_findLeast_58 rfl (lv_at hl 3 rfl) ?_
        have hPc := hP.sub (ws' := [(h, .inr (3, [.ref g0, .ref g1, .ref g2, .int (nI qm), .ref g4, .int om, .int kn, .int kl, .ref g8, .ref g9, .ref g10, .ref g11, .ref q2])), (g0, .inl (ca 0, 36, .inl ws)), (g10, .inl (ca 0, 6, .inl sd)), (g11, .inl (ca 0, 6, .inl wt2_6)), (q2, .inl (ca 0, 1944, .inl L2))]) [3, 0, 1, 5, 2] rfl
        have hDc := hD.sub (ws' := [(h, .inr (3, [.ref g0, .ref g1, .ref g2, .int (nI qm), .ref g4, .int om, .int kn, .int kl, .ref g8, .ref g9, .ref g10, .ref g11, .ref q2])), (g0, .inl (ca 0, 36, .inl ws)), (g10, .inl (ca 0, 6, .inl sd)), (g11, .inl (ca 0, 6, .inl wt2_6)), (q2, .inl (ca 0, 1944, .inl L2))]) [3, 0, 1, 5, 2] (by decide) rfl
        have hFc := va_free (wc := [(h, .inr (3, [.ref g0, .ref g1, .ref g2, .int (nI qm), .ref g4, .int om, .int kn, .int kl, .ref g8, .ref g9, .ref g10, .ref g11, .ref q2])), (g0, .inl (ca 0, 36, .inl ws)), (g10, .inl (ca 0, 6, .inl sd)), (g11, .inl (ca 0, 6, .inl wt2_6)), (q2, .inl (ca 0, 1944, .inl L2))]) hD hS hA [3, 0, 1, 5, 2] rfl
        refine va_callv (va_runV (As := [.int (nI i2), .int v2]) (rest := []) ⟨hx, hb, hml, hown, hts⟩ (e_findLeastOf l dC dI ca H.size h g0 g1 g2 g4 g8 g9 g10 g11 qm om kn kl ws sd wt2_6 q2 L2 i2 v2 (by omega) hsd) (⟨callB_of 2 hts (gd mw_830) rfl rfl rfl (hts _ mw_5) (hts _ mw_827) ds_X3_findLeastOf ⟨Nat.le_of_ble_eq_true rfl, Nat.le_of_ble_eq_true rfl⟩, (hts _ mw_829), (hts _ mp_31)⟩) (pr_V hPc hK hDc hE (va_recv hK hPc (ci := 3) (q0 := 0) rfl rfl)) rfl rfl hl.1 rfl (lv_room (Nat.le_of_ble_eq_true rfl)) dX3_findLeast_59 ⟨by show (0 + 1) + 0 ≤ (oM none); first | decide | omega | (simp [oM]; done), by show (0 + 1944) + 0 ≤ (1944 * oM none); first | decide | omega | (simp [oM]; done)⟩) hS (fun q _ h => hFc q h) hFc (fun LE2_7 t_ H1 locs ht hvm hw_ hB hz1 hk1 hS => ?_)
        obtain ⟨hP1, hD1⟩ := hB
        rw [ht] at hP1
        obtain ⟨hP, hD⟩ := va_joinQ (X := [(g0, .inl (ca 0, 36, .inl ws)), (g10, .inl (ca 0, 6, .inl sd)), (q2, .inl (ca 0, 1944, .inl L2)), (h, .inr (3, [.ref g0, .ref g1, .ref g2, .int (nI qm), .ref g4, .int om, .int kn, .int kl, .ref g8, .ref g9, .ref g10, .ref g11, .ref q2])), (g9, .inl (ca 0, 6, .inl ct)), (g11, .inl (ca 0, 6, .inl wt2_6))]) (cx := [(h, .inr (3, [.ref g0, .ref g1, .ref g2, .int (nI qm), .ref g4, .int om, .int kn, .int kl, .ref g8, .ref g9, .ref g10, .ref g11, .ref q2])), (g0, .inl (ca 0, 36, .inl ws)), (g10, .inl (ca 0, 6, .inl sd)), (g11, .inl (ca 0, 6, .inl wt2_6)), (q2, .inl (ca 0, 1944, .inl L2))]) (wr := [(g9, .inl (ca 0, 6, .inl ct))]) (w1 := [(h, .inr (3, [.ref g0, .ref g1, .ref g2, .int (nI qm), .ref g4, .int om, .int kn, .int kl, .ref g8, .ref g9, .ref g10, .ref g11, .ref q2])), (g0, .inl (ca 0, 36, .inl ws)), (g10, .inl (ca 0, 6, .inl sd)), (g11, .inl (ca 0, 6, .inl wt2_6)), (q2, .inl (ca 0, 1944, .inl LE2_7))]) hP hD [3, 0, 1, 5, 2] [4] rfl rfl (by decide) (by decide) hk1 hFc hP1 hD1
        generalize H1 = H at hP hS ⊢
        have hP : va_P (dC, dI) vwCl ([(g9, .inl (ca 0, 6, .inl ct)), (h, .inr (3, [.ref g0, .ref g1, .ref g2, .int (nI qm), .ref g4, .int om, .int kn, .int kl, .ref g8, .ref g9, .ref g10, .ref g11, .ref q2])), (g0, .inl (ca 0, 36, .inl ws)), (g10, .inl (ca 0, 6, .inl sd)), (g11, .inl (ca 0, 6, .inl wt2_6)), (q2, .inl (ca 0, 1944, .inl LE2_7))] ++ tl) H := hP
        have hD : va_D A ([(g9, .inl (ca 0, 6, .inl ct)), (h, .inr (3, [.ref g0, .ref g1, .ref g2, .int (nI qm), .ref g4, .int om, .int kn, .int kl, .ref g8, .ref g9, .ref g10, .ref g11, .ref q2])), (g0, .inl (ca 0, 36, .inl ws)), (g10, .inl (ca 0, 6, .inl sd)), (g11, .inl (ca 0, 6, .inl wt2_6)), (q2, .inl (ca 0, 1944, .inl LE2_7))] ++ tl) := hD
        refine lv_iinc (v := (nI (i2 + 1))) (lv' := [(3, .int (nI (i2 + 1))), (0, .ref h), (1, .int (nI n)), (2, .int v2)]) hx hb dX3_findLeast_62 hl (k := 0) rfl (nI_add (i2) 1) (by decide) rfl (fun ls hl => ?_)
        refine lv_goto (tgt := 47) hx hb dX3_findLeast_65 (by decide) ?_
        exact ih47 (i2 + 1, wt2_6, LE2_7) _ _ _ (by omega) ⟨⟨by first | omega | (dsimp only; omega), by first | omega | (dsimp only; omega)⟩, (va_P.part (X := [(g9, .inl (ca 0, 6, .inl ct)), (h, .inr (3, [.ref g0, .ref g1, .ref g2, .int (nI qm), .ref g4, .int om, .int kn, .int kl, .ref g8, .ref g9, .ref g10, .ref g11, .ref q2])), (g0, .inl (ca 0, 36, .inl ws)), (g10, .inl (ca 0, 6, .inl sd)), (g11, .inl (ca 0, 6, .inl wt2_6)), (q2, .inl (ca 0, 1944, .inl LE2_7))]) hP [1, 2, 0, 3, 5, 4] rfl), (va_D.part (X := [(g9, .inl (ca 0, 6, .inl ct)), (h, .inr (3, [.ref g0, .ref g1, .ref g2, .int (nI qm), .ref g4, .int om, .int kn, .int kl, .ref g8, .ref g9, .ref g10, .ref g11, .ref q2])), (g0, .inl (ca 0, 36, .inl ws)), (g10, .inl (ca 0, 6, .inl sd)), (g11, .inl (ca 0, 6, .inl wt2_6)), (q2, .inl (ca 0, 1944, .inl LE2_7))]) hD [1, 2, 0, 3, 5, 4] (by decide) rfl), hS, lv_sub hl [0, 1, 2, 3] rfl⟩
    · have nc_4 : ¬ (6 ≤ i) := fun h9 => c_4 ((nI_leI (a := 6) (b := i) (by omega) (by omega)).mpr h9)
      refine lv_aload_n hx hb dX3_findLeast_32 rfl (lv_at hl 1 rfl) ?_
      refine va_get (D := (dC, dI)) (ci := 3) (v := .ref q2) (C := RX3) (T := TX3) (N := 13) hx hb hts inX3 hown hK hP 0 rfl rfl 12 (by decide) (hts _ mw_119) (fun _ h9 => h9) rfl dX3_findLeast_33 ?_
      refine lv_iload_n hx hb dX3_findLeast_36 rfl (lv_at hl 0 rfl) ?_
      refine lv_iconst (v := 0) hx hb dX3_findLeast_37 (by decide) ?_
      refine va_iast hx hb hK hP hD hS 4 0 rfl rfl (vp_in_nI (show i < 1944 by omega) (by first | decide | omega)) dX3_findLeast_38 (fun H locs hP hD hS => ?_)
      rw [(show ((nI i) : Int32).toNatClampNeg = i from nI_clamp (by omega))] at hP hD
      have hP : va_P (dC, dI) vwCl ([(h, .inr (3, [.ref g0, .ref g1, .ref g2, .int (nI qm), .ref g4, .int om, .int kn, .int kl, .ref g8, .ref g9, .ref g10, .ref g11, .ref q2])), (g0, .inl (ca 0, 36, .inl ws)), (g9, .inl (ca 0, 6, .inl ct)), (g10, .inl (ca 0, 6, .inl sd)), (q2, .inl (ca 0, 1944, .inl (upd L1 i 0))), (g11, .inl (ca 0, 6, .inl (flg wt 0 6)))] ++ tl) H := hP
      have hD : va_D A ([(h, .inr (3, [.ref g0, .ref g1, .ref g2, .int (nI qm), .ref g4, .int om, .int kn, .int kl, .ref g8, .ref g9, .ref g10, .ref g11, .ref q2])), (g0, .inl (ca 0, 36, .inl ws)), (g9, .inl (ca 0, 6, .inl ct)), (g10, .inl (ca 0, 6, .inl sd)), (q2, .inl (ca 0, 1944, .inl (upd L1 i 0))), (g11, .inl (ca 0, 6, .inl (flg wt 0 6)))] ++ tl) := hD
      refine lv_iinc (v := (nI (i + 1))) (lv' := [(3, .int (nI (i + 1))), (0, .ref h), (1, .int (nI n)), (2, .int v2)]) hx hb dX3_findLeast_39 hl (k := 0) rfl (nI_add (i) 1) (by decide) rfl (fun ls hl => ?_)
      refine lv_goto (tgt := 26) hx hb dX3_findLeast_42 (by decide) ?_
      exact ih (i + 1, (upd L1 i 0)) _ _ _ (by omega) ⟨(by omega), hP, hD, hS, lv_sub hl [0, 1, 2, 3] rfl⟩
  | some b1 =>
    have hl : lv_has ls 4 [(0, .ref h), (1, .int (nI n)), (2, .int v2)] := hl
    refine W.eq (g2 := F0 m 4 ls [.ref b1]) rfl ?_
    refine lv_ifnonnull (tgt := 16) hx hb dX3_findLeast_4 (by decide) ?_
    have hP : va_P (dC, dI) vwCl ([(h, .inr (3, [.ref g0, .ref g1, .ref g2, .int (nI qm), .ref g4, .int om, .int kn, .int kl, .ref g8, .ref g9, .ref g10, .ref g11, .ref b1])), (g0, .inl (ca 0, 36, .inl ws)), (g9, .inl (ca 0, 6, .inl ct)), (g10, .inl (ca 0, 6, .inl sd)), (g11, .inl (ca 0, 6, .inl wt)), (b1, .inl (ca 0, 1944, .inl LE))] ++ tl) s.heap := hP
    have hD : va_D A ([(h, .inr (3, [.ref g0, .ref g1, .ref g2, .int (nI qm), .ref g4, .int om, .int kn, .int kl, .ref g8, .ref g9, .ref g10, .ref g11, .ref b1])), (g0, .inl (ca 0, 36, .inl ws)), (g9, .inl (ca 0, 6, .inl ct)), (g10, .inl (ca 0, 6, .inl sd)), (g11, .inl (ca 0, 6, .inl wt)), (b1, .inl (ca 0, 1944, .inl LE))] ++ tl) := hD
    refine lv_aload_n hx hb dX3_findLeast_16 rfl (lv_at hl 0 rfl) ?_
    refine va_get (D := (dC, dI)) (ci := 3) (v := .ref g11) (C := RX3) (T := TX3) (N := 13) hx hb hts inX3 hown hK hP 0 rfl rfl 11 (by decide) (hts _ mw_118) (fun _ h9 => h9) rfl dX3_findLeast_17 ?_
    refine lv_iconst (v := 0) hx hb dX3_findLeast_20 (by decide) ?_
    have hPc := hP.sub (ws' := [(g11, .inl (ca 0, 6, .inl wt))]) [4] rfl
    have hDc := hD.sub (ws' := [(g11, .inl (ca 0, 6, .inl wt))]) [4] (by decide) rfl
    have hFc := va_free (wc := [(g11, .inl (ca 0, 6, .inl wt))]) hD hS hA [4] rfl
    refine va_callv (va_runS (As := [.ref g11, .int 0]) (rest := []) ⟨hx, hb, hml, hown, hts⟩ (c_fill l dC dI ca s.heap.size g11 6 wt 0 (by first | decide | omega)) (⟨callB_of 2 hts (gd mw_42) rfl rfl rfl (hts _ mw_3) (hts _ mw_817) ds_J7_fill_53178 ⟨Nat.le_of_ble_eq_true rfl, Nat.le_of_ble_eq_true rfl⟩, (hts _ mw_41)⟩) (pr_S hPc hK hDc hE) rfl rfl hl.1 rfl (lv_room (Nat.le_of_ble_eq_true rfl)) dX3_findLeast_21 ⟨Nat.le_of_ble_eq_true rfl, Nat.le_of_ble_eq_true rfl⟩) hS (fun q _ h => hFc q h) hFc (fun u_ t_ H1 locs ht hvm hw_ hB hz1 hk1 hS => ?_)
    obtain ⟨hP1, hD1⟩ := hB
    rw [ht] at hP1
    obtain ⟨hP, hD⟩ := va_joinQ (X := [(h, .inr (3, [.ref g0, .ref g1, .ref g2, .int (nI qm), .ref g4, .int om, .int kn, .int kl, .ref g8, .ref g9, .ref g10, .ref g11, .ref b1])), (g0, .inl (ca 0, 36, .inl ws)), (g9, .inl (ca 0, 6, .inl ct)), (g10, .inl (ca 0, 6, .inl sd)), (g11, .inl (ca 0, 6, .inl wt)), (b1, .inl (ca 0, 1944, .inl LE))]) (cx := [(g11, .inl (ca 0, 6, .inl wt))]) (wr := [(h, .inr (3, [.ref g0, .ref g1, .ref g2, .int (nI qm), .ref g4, .int om, .int kn, .int kl, .ref g8, .ref g9, .ref g10, .ref g11, .ref b1])), (g0, .inl (ca 0, 36, .inl ws)), (g9, .inl (ca 0, 6, .inl ct)), (g10, .inl (ca 0, 6, .inl sd)), (b1, .inl (ca 0, 1944, .inl LE))]) (w1 := [(g11, .inl (ca 0, 6, .inl (flg wt 0 6)))]) hP hD [4] [0, 1, 2, 3, 5] rfl rfl (by decide) (by decide) hk1 hFc hP1 hD1
    generalize H1 = H at hP hS ⊢
    have hP : va_P (dC, dI) vwCl ([(h, .inr (3, [.ref g0, .ref g1, .ref g2, .int (nI qm), .ref g4, .int om, .int kn, .int kl, .ref g8, .ref g9, .ref g10, .ref g11, .ref b1])), (g0, .inl (ca 0, 36, .inl ws)), (g9, .inl (ca 0, 6, .inl ct)), (g10, .inl (ca 0, 6, .inl sd)), (b1, .inl (ca 0, 1944, .inl LE)), (g11, .inl (ca 0, 6, .inl (flg wt 0 6)))] ++ tl) H := hP
    have hD : va_D A ([(h, .inr (3, [.ref g0, .ref g1, .ref g2, .int (nI qm), .ref g4, .int om, .int kn, .int kl, .ref g8, .ref g9, .ref g10, .ref g11, .ref b1])), (g0, .inl (ca 0, 36, .inl ws)), (g9, .inl (ca 0, 6, .inl ct)), (g10, .inl (ca 0, 6, .inl sd)), (b1, .inl (ca 0, 1944, .inl LE)), (g11, .inl (ca 0, 6, .inl (flg wt 0 6)))] ++ tl) := hD
    refine lv_iconst (v := 0) hx hb dX3_findLeast_24 (by decide) ?_
    refine lv_istore_n (lv' := [(3, .int 0), (0, .ref h), (1, .int (nI n)), (2, .int v2)]) hx hb dX3_findLeast_25 rfl hl (by decide) rfl (fun ls hl => ?_)
    refine wl_loop (fun (z_ : Nat × (Nat → Int32)) H locs ls => (z_.1 ≤ 6) ∧ va_P (dC, dI) vwCl (@HAppend.hAppend va_W va_W va_W _ [(h, .inr (3, [.ref g0, .ref g1, .ref g2, .int (nI qm), .ref g4, .int om, .int kn, .int kl, .ref g8, .ref g9, .ref g10, .ref g11, .ref b1])), (g0, .inl (ca 0, 36, .inl ws)), (g9, .inl (ca 0, 6, .inl ct)), (g10, .inl (ca 0, 6, .inl sd)), (b1, .inl (ca 0, 1944, .inl z_.2)), (g11, .inl (ca 0, 6, .inl (flg wt 0 6)))] tl) H ∧ va_D A (@HAppend.hAppend va_W va_W va_W _ [(h, .inr (3, [.ref g0, .ref g1, .ref g2, .int (nI qm), .ref g4, .int om, .int kn, .int kl, .ref g8, .ref g9, .ref g10, .ref g11, .ref b1])), (g0, .inl (ca 0, 36, .inl ws)), (g9, .inl (ca 0, 6, .inl ct)), (g10, .inl (ca 0, 6, .inl sd)), (b1, .inl (ca 0, 1944, .inl z_.2)), (g11, .inl (ca 0, 6, .inl (flg wt 0 6)))] tl) ∧ va_S A s.heap H locs ∧ lv_has ls 4 [(3, .int (nI z_.1)), (0, .ref h), (1, .int (nI n)), (2, .int v2)]) (fun (z_ : Nat × (Nat → Int32)) => 6 - z_.1) (fun z_ H locs ls hI ih => ?_) (0, LE) ⟨(Nat.zero_le _), hP, hD, hS, lv_sub hl [0, 1, 2, 3] rfl⟩
    obtain ⟨i, L1⟩ := z_
    dsimp only at hI ih
    obtain ⟨hi, hP, hD, hS, hl⟩ := hI
    refine lv_iload_n hx hb dX3_findLeast_26 rfl (lv_at hl 0 rfl) ?_
    refine lv_bipush (v := 6) hx hb dX3_findLeast_27 (by decide) ?_
    refine lv_icmp_ge (tgt := 45) hx hb dX3_findLeast_29 (by decide) (fun c_9 => ?_) (fun c_9 => ?_)
    · have nc_9 : 6 ≤ i := (nI_leI (a := 6) (b := i) (by omega) (by omega)).mp c_9
      refine lv_iconst (v := 1) hx hb dX3_findLeast_45 (by decide) ?_
      refine lv_istore_n (lv' := [(3, .int 1), (0, .ref h), (1, .int (nI n)), (2, .int v2)]) hx hb dX3_findLeast_46 rfl hl (by decide) rfl (fun ls hl => ?_)
      refine wl_loop (fun (z_ : Nat × (Nat → Int32) × (Nat → Int32)) H locs ls => (1 ≤ z_.1 ∧ z_.1 ≤ n) ∧ va_P (dC, dI) vwCl (@HAppend.hAppend va_W va_W va_W _ [(h, .inr (3, [.ref g0, .ref g1, .ref g2, .int (nI qm), .ref g4, .int om, .int kn, .int kl, .ref g8, .ref g9, .ref g10, .ref g11, .ref b1])), (g0, .inl (ca 0, 36, .inl ws)), (g9, .inl (ca 0, 6, .inl ct)), (g10, .inl (ca 0, 6, .inl sd)), (b1, .inl (ca 0, 1944, .inl z_.2.2)), (g11, .inl (ca 0, 6, .inl z_.2.1))] tl) H ∧ va_D A (@HAppend.hAppend va_W va_W va_W _ [(h, .inr (3, [.ref g0, .ref g1, .ref g2, .int (nI qm), .ref g4, .int om, .int kn, .int kl, .ref g8, .ref g9, .ref g10, .ref g11, .ref b1])), (g0, .inl (ca 0, 36, .inl ws)), (g9, .inl (ca 0, 6, .inl ct)), (g10, .inl (ca 0, 6, .inl sd)), (b1, .inl (ca 0, 1944, .inl z_.2.2)), (g11, .inl (ca 0, 6, .inl z_.2.1))] tl) ∧ va_S A s.heap H locs ∧ lv_has ls 4 [(3, .int (nI z_.1)), (0, .ref h), (1, .int (nI n)), (2, .int v2)]) (fun (z_ : Nat × (Nat → Int32) × (Nat → Int32)) => n - z_.1) (fun z_ H locs ls hI ih47 => ?_) (1, (flg wt 0 6), L1) ⟨⟨Nat.le_refl _, hn.1⟩, hP, hD, hS, lv_sub hl [0, 1, 2, 3] rfl⟩
      obtain ⟨i2, w2_, L2⟩ := z_
      dsimp only at hI ih47
      obtain ⟨⟨hi2, hi3⟩, hP, hD, hS, hl⟩ := hI
      refine lv_iload_n hx hb dX3_findLeast_47 rfl (lv_at hl 0 rfl) ?_
      refine lv_iload_n hx hb dX3_findLeast_48 rfl (lv_at hl 2 rfl) ?_
      refine lv_icmp_ge (tgt := 68) hx hb dX3_findLeast_49 (by decide) (fun c_10 => ?_) (fun c_10 => ?_)
      · have nc_10 : n ≤ i2 := (nI_leI (a := n) (b := i2) (by omega) (by omega)).mp c_10
        refine W.widen (k := (oM (some b1))) (n := (1944 * oM (some b1))) (Nat.le_of_ble_eq_true rfl) (Nat.le_of_ble_eq_true rfl) ?_
        have hP9 : va_P (dC, dI) vwCl (@HAppend.hAppend va_W va_W va_W _ [(h, .inr (3, [.ref g0, .ref g1, .ref g2, .int (nI qm), .ref g4, .int om, .int kn, .int kl, .ref g8, .ref g9, .ref g10, .ref g11, .ref b1])), (g0, .inl (ca 0, 36, .inl ws)), (g9, .inl (ca 0, 6, .inl ct)), (g10, .inl (ca 0, 6, .inl sd)), (g11, .inl (ca 0, 6, .inl w2_)), (b1, .inl (ca 0, 1944, .inl L2))] tl) H := va_P.part (X := [(h, .inr (3, [.ref g0, .ref g1, .ref g2, .int (nI qm), .ref g4, .int om, .int kn, .int kl, .ref g8, .ref g9, .ref g10, .ref g11, .ref b1])), (g0, .inl (ca 0, 36, .inl ws)), (g9, .inl (ca 0, 6, .inl ct)), (g10, .inl (ca 0, 6, .inl sd)), (b1, .inl (ca 0, 1944, .inl L2)), (g11, .inl (ca 0, 6, .inl w2_))]) hP [0, 1, 2, 3, 5, 4] rfl
        have hD9 : va_D A (@HAppend.hAppend va_W va_W va_W _ [(h, .inr (3, [.ref g0, .ref g1, .ref g2, .int (nI qm), .ref g4, .int om, .int kn, .int kl, .ref g8, .ref g9, .ref g10, .ref g11, .ref b1])), (g0, .inl (ca 0, 36, .inl ws)), (g9, .inl (ca 0, 6, .inl ct)), (g10, .inl (ca 0, 6, .inl sd)), (g11, .inl (ca 0, 6, .inl w2_)), (b1, .inl (ca 0, 1944, .inl L2))] tl) := va_D.part (X := [(h, .inr (3, [.ref g0, .ref g1, .ref g2, .int (nI qm), .ref g4, .int om, .int kn, .int kl, .ref g8, .ref g9, .ref g10, .ref g11, .ref b1])), (g0, .inl (ca 0, 36, .inl ws)), (g9, .inl (ca 0, 6, .inl ct)), (g10, .inl (ca 0, 6, .inl sd)), (b1, .inl (ca 0, 1944, .inl L2)), (g11, .inl (ca 0, 6, .inl w2_))]) hD [0, 1, 2, 3, 5, 4] (by decide) rfl
        exact W.vret hx hb hr (fun t ht hW => ⟨⟨(b1, L2, w2_), rfl, trivial, by rw [ht]; exact hP9, hD9⟩, hS.F ht⟩) hS.2.2 dX3_findLeast_68
      · have nc_10 : ¬ (n ≤ i2) := fun h9 => c_10 ((nI_leI (a := n) (b := i2) (by omega) (by omega)).mpr h9)
        refine lv_aload_n hx hb dX3_findLeast_52 rfl (lv_at hl 1 rfl) ?_
        have hPc := hP.sub (ws' := [(h, .inr (3, [.ref g0, .ref g1, .ref g2, .int (nI qm), .ref g4, .int om, .int kn, .int kl, .ref g8, .ref g9, .ref g10, .ref g11, va_rf (some b1)])), (g9, .inl (ca 0, 6, .inl ct)), (g11, .inl (ca 0, 6, .inl w2_))]) [0, 2, 5] rfl
        have hDc := hD.sub (ws' := [(h, .inr (3, [.ref g0, .ref g1, .ref g2, .int (nI qm), .ref g4, .int om, .int kn, .int kl, .ref g8, .ref g9, .ref g10, .ref g11, va_rf (some b1)])), (g9, .inl (ca 0, 6, .inl ct)), (g11, .inl (ca 0, 6, .inl w2_))]) [0, 2, 5] (by decide) rfl
        have hFc := va_free (wc := [(h, .inr (3, [.ref g0, .ref g1, .ref g2, .int (nI qm), .ref g4, .int om, .int kn, .int kl, .ref g8, .ref g9, .ref g10, .ref g11, va_rf (some b1)])), (g9, .inl (ca 0, 6, .inl ct)), (g11, .inl (ca 0, 6, .inl w2_))]) hD hS hA [0, 2, 5] rfl
        refine va_callv (va_runV (As := []) (rest := []) ⟨hx, hb, hml, hown, hts⟩ (e_countOn l dC dI ca H.size h g0 g1 g2 g4 g8 g9 g10 g11 qm om kn kl (some b1) ct w2_ ) (⟨callB_of 0 hts (gd mw_826) rfl rfl rfl (hts _ mw_5) (hts _ mw_823) ds_X3_countOn ⟨Nat.le_of_ble_eq_true rfl, Nat.le_of_ble_eq_true rfl⟩, (hts _ mw_825), (hts _ mp_30)⟩) (pr_V hPc hK hDc hE (va_recv hK hPc (ci := 3) (q0 := 0) rfl rfl)) rfl rfl hl.1 rfl (lv_room (Nat.le_of_ble_eq_true rfl)) dX3_findLeast_53 ⟨Nat.le_of_ble_eq_true rfl, Nat.le_of_ble_eq_true rfl⟩) hS (fun q _ h => hFc q h) hFc (fun wt2_11 t_ H1 locs ht hvm hw_ hB hz1 hk1 hS => ?_)
        obtain ⟨hP1, hD1⟩ := hB
        rw [ht] at hP1
        obtain ⟨hP, hD⟩ := va_joinQ (X := [(h, .inr (3, [.ref g0, .ref g1, .ref g2, .int (nI qm), .ref g4, .int om, .int kn, .int kl, .ref g8, .ref g9, .ref g10, .ref g11, .ref b1])), (g0, .inl (ca 0, 36, .inl ws)), (g9, .inl (ca 0, 6, .inl ct)), (g10, .inl (ca 0, 6, .inl sd)), (b1, .inl (ca 0, 1944, .inl L2)), (g11, .inl (ca 0, 6, .inl w2_))]) (cx := [(h, .inr (3, [.ref g0, .ref g1, .ref g2, .int (nI qm), .ref g4, .int om, .int kn, .int kl, .ref g8, .ref g9, .ref g10, .ref g11, va_rf (some b1)])), (g9, .inl (ca 0, 6, .inl ct)), (g11, .inl (ca 0, 6, .inl w2_))]) (wr := [(g0, .inl (ca 0, 36, .inl ws)), (g10, .inl (ca 0, 6, .inl sd)), (b1, .inl (ca 0, 1944, .inl L2))]) (w1 := [(h, .inr (3, [.ref g0, .ref g1, .ref g2, .int (nI qm), .ref g4, .int om, .int kn, .int kl, .ref g8, .ref g9, .ref g10, .ref g11, .ref b1])), (g9, .inl (ca 0, 6, .inl ct)), (g11, .inl (ca 0, 6, .inl wt2_11))]) hP hD [0, 2, 5] [1, 3, 4] rfl rfl (by decide) (by decide) hk1 hFc hP1 hD1
        generalize H1 = H at hP hS ⊢
        have hP : va_P (dC, dI) vwCl ([(g0, .inl (ca 0, 36, .inl ws)), (g10, .inl (ca 0, 6, .inl sd)), (b1, .inl (ca 0, 1944, .inl L2)), (h, .inr (3, [.ref g0, .ref g1, .ref g2, .int (nI qm), .ref g4, .int om, .int kn, .int kl, .ref g8, .ref g9, .ref g10, .ref g11, .ref b1])), (g9, .inl (ca 0, 6, .inl ct)), (g11, .inl (ca 0, 6, .inl wt2_11))] ++ tl) H := hP
        have hD : va_D A ([(g0, .inl (ca 0, 36, .inl ws)), (g10, .inl (ca 0, 6, .inl sd)), (b1, .inl (ca 0, 1944, .inl L2)), (h, .inr (3, [.ref g0, .ref g1, .ref g2, .int (nI qm), .ref g4, .int om, .int kn, .int kl, .ref g8, .ref g9, .ref g10, .ref g11, .ref b1])), (g9, .inl (ca 0, 6, .inl ct)), (g11, .inl (ca 0, 6, .inl wt2_11))] ++ tl) := hD
        refine lv_aload_n hx hb dX3_findLeast_56 rfl (lv_at hl 1 rfl) ?_
        refine lv_iload_n hx hb dX3_findLeast_57 rfl (lv_at hl 0 rfl) ?_
        refine lv_iload_n hx hb dX3_findLeast_58 rfl (lv_at hl 3 rfl) ?_
        have hPc := hP.sub (ws' := [(h, .inr (3, [.ref g0, .ref g1, .ref g2, .int (nI qm), .ref g4, .int om, .int kn, .int kl, .ref g8, .ref g9, .ref g10, .ref g11, .ref b1])), (g0, .inl (ca 0, 36, .inl ws)), (g10, .inl (ca 0, 6, .inl sd)), (g11, .inl (ca 0, 6, .inl wt2_11)), (b1, .inl (ca 0, 1944, .inl L2))]) [3, 0, 1, 5, 2] rfl
        have hDc := hD.sub (ws' := [(h, .inr (3, [.ref g0, .ref g1, .ref g2, .int (nI qm), .ref g4, .int om, .int kn, .int kl, .ref g8, .ref g9, .ref g10, .ref g11, .ref b1])), (g0, .inl (ca 0, 36, .inl ws)), (g10, .inl (ca 0, 6, .inl sd)), (g11, .inl (ca 0, 6, .inl wt2_11)), (b1, .inl (ca 0, 1944, .inl L2))]) [3, 0, 1, 5, 2] (by decide) rfl
        have hFc := va_free (wc := [(h, .inr (3, [.ref g0, .ref g1, .ref g2, .int (nI qm), .ref g4, .int om, .int kn, .int kl, .ref g8, .ref g9, .ref g10, .ref g11, .ref b1])), (g0, .inl (ca 0, 36, .inl ws)), (g10, .inl (ca 0, 6, .inl sd)), (g11, .inl (ca 0, 6, .inl wt2_11)), (b1, .inl (ca 0, 1944, .inl L2))]) hD hS hA [3, 0, 1, 5, 2] rfl
        refine va_callv (va_runV (As := [.int (nI i2), .int v2]) (rest := []) ⟨hx, hb, hml, hown, hts⟩ (e_findLeastOf l dC dI ca H.size h g0 g1 g2 g4 g8 g9 g10 g11 qm om kn kl ws sd wt2_11 b1 L2 i2 v2 (by omega) hsd) (⟨callB_of 2 hts (gd mw_830) rfl rfl rfl (hts _ mw_5) (hts _ mw_827) ds_X3_findLeastOf ⟨Nat.le_of_ble_eq_true rfl, Nat.le_of_ble_eq_true rfl⟩, (hts _ mw_829), (hts _ mp_31)⟩) (pr_V hPc hK hDc hE (va_recv hK hPc (ci := 3) (q0 := 0) rfl rfl)) rfl rfl hl.1 rfl (lv_room (Nat.le_of_ble_eq_true rfl)) dX3_findLeast_59 ⟨Nat.le_of_ble_eq_true rfl, Nat.le_of_ble_eq_true rfl⟩) hS (fun q _ h => hFc q h) hFc (fun LE2_12 t_ H1 locs ht hvm hw_ hB hz1 hk1 hS => ?_)
        obtain ⟨hP1, hD1⟩ := hB
        rw [ht] at hP1
        obtain ⟨hP, hD⟩ := va_joinQ (X := [(g0, .inl (ca 0, 36, .inl ws)), (g10, .inl (ca 0, 6, .inl sd)), (b1, .inl (ca 0, 1944, .inl L2)), (h, .inr (3, [.ref g0, .ref g1, .ref g2, .int (nI qm), .ref g4, .int om, .int kn, .int kl, .ref g8, .ref g9, .ref g10, .ref g11, .ref b1])), (g9, .inl (ca 0, 6, .inl ct)), (g11, .inl (ca 0, 6, .inl wt2_11))]) (cx := [(h, .inr (3, [.ref g0, .ref g1, .ref g2, .int (nI qm), .ref g4, .int om, .int kn, .int kl, .ref g8, .ref g9, .ref g10, .ref g11, .ref b1])), (g0, .inl (ca 0, 36, .inl ws)), (g10, .inl (ca 0, 6, .inl sd)), (g11, .inl (ca 0, 6, .inl wt2_11)), (b1, .inl (ca 0, 1944, .inl L2))]) (wr := [(g9, .inl (ca 0, 6, .inl ct))]) (w1 := [(h, .inr (3, [.ref g0, .ref g1, .ref g2, .int (nI qm), .ref g4, .int om, .int kn, .int kl, .ref g8, .ref g9, .ref g10, .ref g11, .ref b1])), (g0, .inl (ca 0, 36, .inl ws)), (g10, .inl (ca 0, 6, .inl sd)), (g11, .inl (ca 0, 6, .inl wt2_11)), (b1, .inl (ca 0, 1944, .inl LE2_12))]) hP hD [3, 0, 1, 5, 2] [4] rfl rfl (by decide) (by decide) hk1 hFc hP1 hD1
        generalize H1 = H at hP hS ⊢
        have hP : va_P (dC, dI) vwCl ([(g9, .inl (ca 0, 6, .inl ct)), (h, .inr (3, [.ref g0, .ref g1, .ref g2, .int (nI qm), .ref g4, .int om, .int kn, .int kl, .ref g8, .ref g9, .ref g10, .ref g11, .ref b1])), (g0, .inl (ca 0, 36, .inl ws)), (g10, .inl (ca 0, 6, .inl sd)), (g11, .inl (ca 0, 6, .inl wt2_11)), (b1, .inl (ca 0, 1944, .inl LE2_12))] ++ tl) H := hP
        have hD : va_D A ([(g9, .inl (ca 0, 6, .inl ct)), (h, .inr (3, [.ref g0, .ref g1, .ref g2, .int (nI qm), .ref g4, .int om, .int kn, .int kl, .ref g8, .ref g9, .ref g10, .ref g11, .ref b1])), (g0, .inl (ca 0, 36, .inl ws)), (g10, .inl (ca 0, 6, .inl sd)), (g11, .inl (ca 0, 6, .inl wt2_11)), (b1, .inl (ca 0, 1944, .inl LE2_12))] ++ tl) := hD
        refine lv_iinc (v := (nI (i2 + 1))) (lv' := [(3, .int (nI (i2 + 1))), (0, .ref h), (1, .int (nI n)), (2, .int v2)]) hx hb dX3_findLeast_62 hl (k := 0) rfl (nI_add (i2) 1) (by decide) rfl (fun ls hl => ?_)
        refine lv_goto (tgt := 47) hx hb dX3_findLeast_65 (by decide) ?_
        exact ih47 (i2 + 1, wt2_11, LE2_12) _ _ _ (by omega) ⟨⟨by first | omega | (dsimp only; omega), by first | omega | (dsimp only; omega)⟩, (va_P.part (X := [(g9, .inl (ca 0, 6, .inl ct)), (h, .inr (3, [.ref g0, .ref g1, .ref g2, .int (nI qm), .ref g4, .int om, .int kn, .int kl, .ref g8, .ref g9, .ref g10, .ref g11, .ref b1])), (g0, .inl (ca 0, 36, .inl ws)), (g10, .inl (ca 0, 6, .inl sd)), (g11, .inl (ca 0, 6, .inl wt2_11)), (b1, .inl (ca 0, 1944, .inl LE2_12))]) hP [1, 2, 0, 3, 5, 4] rfl), (va_D.part (X := [(g9, .inl (ca 0, 6, .inl ct)), (h, .inr (3, [.ref g0, .ref g1, .ref g2, .int (nI qm), .ref g4, .int om, .int kn, .int kl, .ref g8, .ref g9, .ref g10, .ref g11, .ref b1])), (g0, .inl (ca 0, 36, .inl ws)), (g10, .inl (ca 0, 6, .inl sd)), (g11, .inl (ca 0, 6, .inl wt2_11)), (b1, .inl (ca 0, 1944, .inl LE2_12))]) hD [1, 2, 0, 3, 5, 4] (by decide) rfl), hS, lv_sub hl [0, 1, 2, 3] rfl⟩
    · have nc_9 : ¬ (6 ≤ i) := fun h9 => c_9 ((nI_leI (a := 6) (b := i) (by omega) (by omega)).mpr h9)
      refine lv_aload_n hx hb dX3_findLeast_32 rfl (lv_at hl 1 rfl) ?_
      refine va_get (D := (dC, dI)) (ci := 3) (v := .ref b1) (C := RX3) (T := TX3) (N := 13) hx hb hts inX3 hown hK hP 0 rfl rfl 12 (by decide) (hts _ mw_119) (fun _ h9 => h9) rfl dX3_findLeast_33 ?_
      refine lv_iload_n hx hb dX3_findLeast_36 rfl (lv_at hl 0 rfl) ?_
      refine lv_iconst (v := 0) hx hb dX3_findLeast_37 (by decide) ?_
      refine va_iast hx hb hK hP hD hS 4 0 rfl rfl (vp_in_nI (show i < 1944 by omega) (by first | decide | omega)) dX3_findLeast_38 (fun H locs hP hD hS => ?_)
      rw [(show ((nI i) : Int32).toNatClampNeg = i from nI_clamp (by omega))] at hP hD
      have hP : va_P (dC, dI) vwCl ([(h, .inr (3, [.ref g0, .ref g1, .ref g2, .int (nI qm), .ref g4, .int om, .int kn, .int kl, .ref g8, .ref g9, .ref g10, .ref g11, .ref b1])), (g0, .inl (ca 0, 36, .inl ws)), (g9, .inl (ca 0, 6, .inl ct)), (g10, .inl (ca 0, 6, .inl sd)), (b1, .inl (ca 0, 1944, .inl (upd L1 i 0))), (g11, .inl (ca 0, 6, .inl (flg wt 0 6)))] ++ tl) H := hP
      have hD : va_D A ([(h, .inr (3, [.ref g0, .ref g1, .ref g2, .int (nI qm), .ref g4, .int om, .int kn, .int kl, .ref g8, .ref g9, .ref g10, .ref g11, .ref b1])), (g0, .inl (ca 0, 36, .inl ws)), (g9, .inl (ca 0, 6, .inl ct)), (g10, .inl (ca 0, 6, .inl sd)), (b1, .inl (ca 0, 1944, .inl (upd L1 i 0))), (g11, .inl (ca 0, 6, .inl (flg wt 0 6)))] ++ tl) := hD
      refine lv_iinc (v := (nI (i + 1))) (lv' := [(3, .int (nI (i + 1))), (0, .ref h), (1, .int (nI n)), (2, .int v2)]) hx hb dX3_findLeast_39 hl (k := 0) rfl (nI_add (i) 1) (by decide) rfl (fun ls hl => ?_)
      refine lv_goto (tgt := 26) hx hb dX3_findLeast_42 (by decide) ?_
      exact ih (i + 1, (upd L1 i 0)) _ _ _ (by omega) ⟨(by omega), hP, hD, hS, lv_sub hl [0, 1, 2, 3] rfl⟩

set_option maxHeartbeats 4000000 in
set_option maxRecDepth 100000 in
theorem e_findNext (l : Launch) (dC : Nat → ClassId) (dI : Nat → Nat → Nat) (ca : Nat → ClassId) (h : Nat) (g0 : Nat) (g1 : Nat) (g2 : Nat) (g4 : Nat) (g8 : Nat) (g9 : Nat) (g10 : Nat) (g11 : Nat) (qm : Nat) (om : Int32) (kn : Int32) (kl : Int32) (ws : Nat → Int32) (kd : Nat → Int32) (us : Nat → Int32) (sd : Nat → Int32) (wt : Nat → Int32) (lq : Nat) (LE : Nat → Int32) (v1 : Int32) (v2 : Int32) (v3 : Int32) (hq : qI qm kd) (hq1 : 1 ≤ qm) (hst : -1073741824 ≤ v1.toInt ∧ v1.toInt ≤ 323) (hv2 : v2 = -1 ∨ cnt v2 5) (hsd : ∀ j, j < 6 → cnt (sd j) 1771561) : Met l yX3_findNext (Cond.code yX3_findNext cX3_findNext 8 (some .int) :: gT) ({ frames := 3, cells := 0, slots := 0, locals := 103 }) (va_Pc [.ref h, .int v1, .int v2, .int v3] (pu (dC, dI) [(h, .inr (3, [.ref g0, .ref g1, .ref g2, .int (nI qm), .ref g4, .int om, .int kn, .int kl, .ref g8, .ref g9, .ref g10, .ref g11, .ref lq])), (g0, .inl (ca 0, 36, .inl ws)), (g2, .inl (ca 0, 10, .inl kd)), (g8, .inl (ca 1, 10, .inl us)), (g10, .inl (ca 0, 6, .inl sd)), (g11, .inl (ca 0, 6, .inl wt)), (lq, .inl (ca 0, 1944, .inl LE))] (aT ca))) (vp_Si (fun r => ∃ n : Nat, n < qm ∧ r = nI n)) 0 0 (fun _ => False) := by
  refine Met.ofW (cc := cX3_findNext) (maxL := 8) (ret := (some .int)) (by decide) rfl ?_
  intro p e s m args below meth c s₁ B hml hv
  obtain ⟨rfl, hP, hK, hE⟩ := hv
  have hx := B.exec
  have hb := B.bytes
  have hr := B.returns
  have hts : ∀ w ∈ gT, w.before _ s = true := fun w h => atoms_spec (ws := Cond.code yX3_findNext cX3_findNext 8 (some .int) :: gT) B.pre w (List.mem_cons_of_mem _ h)
  have hown : s.vm.findClass RX3 = some m.cls := findClass_of_methodNamed B.named
  have hlocks := B.notSynchronized
  have hl := lv_entry ([.ref h, .int v1, .int v2, .int v3]) (n := 8) (Nat.le_of_ble_eq_true rfl)
  rw [lg_entry_eq]
  generalize (lg_sl ([.ref h, .int v1, .int v2, .int v3]) ++ List.replicate (8 - (lg_sl ([.ref h, .int v1, .int v2, .int v3])).length) Slot.unset).toArray = ls at hl ⊢
  have hl : lv_has ls 8 [(0, .ref h), (1, .int v1), (2, .int v2), (3, .int v3)] := hl
  have hq0 := hq.1
  refine lv_iconst (v := 0) hx hb dX3_findNext_0 (by decide) ?_
  refine lv_istore (lv' := [(4, .int 0), (0, .ref h), (1, .int v1), (2, .int v2), (3, .int v3)]) hx hb dX3_findNext_1 hl (by decide) rfl (fun ls hl => ?_)
  refine lv_ldc (v := 2147483647) hx hb hown (hts _ mw_831) dX3_findNext_3 ?_
  refine lv_istore (lv' := [(5, .int 2147483647), (4, .int 0), (0, .ref h), (1, .int v1), (2, .int v2), (3, .int v3)]) hx hb dX3_findNext_5 hl (by decide) rfl (fun ls hl => ?_)
  refine lv_iconst (v := 0) hx hb dX3_findNext_7 (by decide) ?_
  refine lv_istore (lv' := [(6, .int 0), (5, .int 2147483647), (4, .int 0), (0, .ref h), (1, .int v1), (2, .int v2), (3, .int v3)]) hx hb dX3_findNext_8 hl (by decide) rfl (fun ls hl => ?_)
  refine wl_loop (fun (z_ : Nat × Nat × Int32) H locs ls => (z_.1 ≤ qm ∧ z_.2.1 < qm) ∧ H = s.heap ∧ locs = [] ∧ lv_has ls 8 [(6, .int (nI z_.1)), (5, .int z_.2.2), (4, .int (nI z_.2.1)), (0, .ref h), (1, .int v1), (2, .int v2), (3, .int v3)]) (fun (z_ : Nat × Nat × Int32) => qm - z_.1) (fun z_ H locs ls hI ih => ?_) (0, 0, 2147483647) ⟨⟨Nat.zero_le _, by show 0 < qm; omega⟩, rfl, rfl, lv_sub hl [0, 1, 2, 3, 4, 5, 6] rfl⟩
  obtain ⟨i, bs, m5⟩ := z_
  dsimp only at hI ih
  obtain ⟨⟨hi, hbs⟩, rfl, rfl, hl⟩ := hI
  refine lv_iload hx hb dX3_findNext_10 (lv_at hl 0 rfl) ?_
  refine lv_aload_n hx hb dX3_findNext_12 rfl (lv_at hl 3 rfl) ?_
  refine va_get (D := (dC, dI)) (ci := 3) (v := .int (nI qm)) (C := RX3) (T := TX3) (N := 13) hx hb hts inX3 hown hK hP 0 rfl rfl 3 (by decide) (hts _ mw_107) (fun _ h9 => h9) rfl dX3_findNext_13 ?_
  refine lv_icmp_ge (tgt := 110) hx hb dX3_findNext_16 (by decide) (fun c_1 => ?_) (fun c_1 => ?_)
  · have nc_1 : qm ≤ i := (nI_leI (a := qm) (b := i) (by omega) (by omega)).mp c_1
    refine lv_iload hx hb dX3_findNext_110 (lv_at hl 2 rfl) ?_
    exact W.iret (v := (nI bs)) hx hb hr (fun t ht hW => ⟨(nI bs), rfl, ⟨bs, hbs, rfl⟩, ht⟩) (fun q h => absurd h List.not_mem_nil) dX3_findNext_112
  · have nc_1 : ¬ (qm ≤ i) := fun h9 => c_1 ((nI_leI (a := qm) (b := i) (by omega) (by omega)).mpr h9)
    refine lv_aload_n hx hb dX3_findNext_19 rfl (lv_at hl 3 rfl) ?_
    refine va_get (D := (dC, dI)) (ci := 3) (v := .ref g8) (C := RX3) (T := TX3) (N := 13) hx hb hts inX3 hown hK hP 0 rfl rfl 8 (by decide) (hts _ mw_115) (fun _ h9 => h9) rfl dX3_findNext_20 ?_
    refine lv_iload hx hb dX3_findNext_23 (lv_at hl 0 rfl) ?_
    refine va_zald hx hb hK hP 3 1 rfl rfl (vp_in_nI (show i < 10 by omega) (by first | decide | omega)) dX3_findNext_25 ?_
    refine lv_topi (fun y_ e_ => ?_)
    obtain rfl : y_ = (us i) := e_.trans (congrArg us (show ((nI i) : Int32).toNatClampNeg = i from nI_clamp (by omega)))
    refine lv_if_ne (tgt := 104) hx hb dX3_findNext_26 (by decide) (fun c_2 => ?_) (fun c_2 => ?_)
    · refine lv_iinc (v := (nI (i + 1))) (lv' := [(6, .int (nI (i + 1))), (5, .int m5), (4, .int (nI bs)), (0, .ref h), (1, .int v1), (2, .int v2), (3, .int v3)]) hx hb dX3_findNext_104 hl (k := 0) rfl (nI_add (i) 1) (by decide) rfl (fun ls hl => ?_)
      refine lv_goto (tgt := 10) hx hb dX3_findNext_107 (by decide) ?_
      exact ih (i + 1, bs, m5) _ _ _ (by omega) ⟨⟨by first | omega | (dsimp only; omega), by first | omega | (dsimp only; omega)⟩, rfl, rfl, lv_sub hl [0, 1, 2, 3, 4, 5, 6] rfl⟩
    · refine lv_aload_n hx hb dX3_findNext_29 rfl (lv_at hl 3 rfl) ?_
      refine lv_aload_n hx hb dX3_findNext_30 rfl (lv_at hl 3 rfl) ?_
      refine va_get (D := (dC, dI)) (ci := 3) (v := .ref g2) (C := RX3) (T := TX3) (N := 13) hx hb hts inX3 hown hK hP 0 rfl rfl 2 (by decide) (hts _ mw_106) (fun _ h9 => h9) rfl dX3_findNext_31 ?_
      refine lv_iload hx hb dX3_findNext_34 (lv_at hl 0 rfl) ?_
      refine va_iald hx hb hK hP 2 0 rfl rfl (vp_in_nI (show i < 10 by omega) (by first | decide | omega)) dX3_findNext_36 ?_
      refine lv_topi (fun y_ e_ => ?_)
      obtain rfl : y_ = (kd i) := e_.trans (congrArg kd (show ((nI i) : Int32).toNatClampNeg = i from nI_clamp (by omega)))
      refine lv_iload_n hx hb dX3_findNext_37 rfl (lv_at hl 6 rfl) ?_
      have hPc := hP.sub (ws' := [(h, .inr (3, [.ref g0, .ref g1, .ref g2, .int (nI qm), .ref g4, .int om, .int kn, .int kl, .ref g8, .ref g9, .ref g10, .ref g11, va_rf (some lq)])), (g11, .inl (ca 0, 6, .inl wt))]) [0, 5] rfl
      refine pc_i (va_runV (As := [.int (kd i), .int v3]) (rest := []) ⟨hx, hb, hml, hown, hts⟩ (e_mayCome l dC dI ca h g0 g1 g2 g4 g8 g9 g10 g11 qm om kn kl (some lq) wt (kd i) v3 (hq.2 i (by omega))) (⟨callB_of 2 hts (gd mw_835) rfl rfl rfl (hts _ mw_5) (hts _ mw_832) ds_X3_mayCome ⟨Nat.le_of_ble_eq_true rfl, Nat.le_of_ble_eq_true rfl⟩, (hts _ mw_834), (hts _ mp_32)⟩) (pu_V hPc hK hE (va_recv hK hPc (ci := 3) (q0 := 0) rfl rfl)) rfl rfl hl.1 rfl (lv_room (Nat.le_of_ble_eq_true rfl)) dX3_findNext_38 ⟨Nat.le_of_ble_eq_true rfl, Nat.le_of_ble_eq_true rfl⟩) (fun rv_3 hw_ => ?_)
      have hw_3 := hw_
      refine lv_if_eq (tgt := 104) hx hb dX3_findNext_41 (by decide) (fun c_4 => ?_) (fun c_4 => ?_)
      · refine lv_iinc (v := (nI (i + 1))) (lv' := [(6, .int (nI (i + 1))), (5, .int m5), (4, .int (nI bs)), (0, .ref h), (1, .int v1), (2, .int v2), (3, .int v3)]) hx hb dX3_findNext_104 hl (k := 0) rfl (nI_add (i) 1) (by decide) rfl (fun ls hl => ?_)
        refine lv_goto (tgt := 10) hx hb dX3_findNext_107 (by decide) ?_
        exact ih (i + 1, bs, m5) _ _ _ (by omega) ⟨⟨by first | omega | (dsimp only; omega), by first | omega | (dsimp only; omega)⟩, rfl, rfl, lv_sub hl [0, 1, 2, 3, 4, 5, 6] rfl⟩
      · refine lv_aload_n hx hb dX3_findNext_44 rfl (lv_at hl 3 rfl) ?_
        refine lv_iload_n hx hb dX3_findNext_45 rfl (lv_at hl 4 rfl) ?_
        refine lv_aload_n hx hb dX3_findNext_46 rfl (lv_at hl 3 rfl) ?_
        refine va_get (D := (dC, dI)) (ci := 3) (v := .ref g2) (C := RX3) (T := TX3) (N := 13) hx hb hts inX3 hown hK hP 0 rfl rfl 2 (by decide) (hts _ mw_106) (fun _ h9 => h9) rfl dX3_findNext_47 ?_
        refine lv_iload hx hb dX3_findNext_50 (lv_at hl 0 rfl) ?_
        refine va_iald hx hb hK hP 2 0 rfl rfl (vp_in_nI (show i < 10 by omega) (by first | decide | omega)) dX3_findNext_52 ?_
        refine lv_topi (fun y_ e_ => ?_)
        obtain rfl : y_ = (kd i) := e_.trans (congrArg kd (show ((nI i) : Int32).toNatClampNeg = i from nI_clamp (by omega)))
        have hPc := hP.sub (ws' := [(h, .inr (3, [.ref g0, .ref g1, .ref g2, .int (nI qm), .ref g4, .int om, .int kn, .int kl, .ref g8, .ref g9, .ref g10, .ref g11, .ref lq])), (g10, .inl (ca 0, 6, .inl sd)), (lq, .inl (ca 0, 1944, .inl LE))]) [0, 4, 6] rfl
        refine pc_i (va_runV (As := [.int v1, .int (kd i)]) (rest := []) ⟨hx, hb, hml, hown, hts⟩ (e_leastOnce l dC dI ca h g0 g1 g2 g4 g8 g9 g10 g11 qm om kn kl sd lq LE v1 (kd i) (hq.2 i (by omega)) hst hsd) (⟨callB_of 2 hts (gd mw_843) rfl rfl rfl (hts _ mw_5) (hts _ mw_840) ds_X3_leastOnce ⟨Nat.le_of_ble_eq_true rfl, Nat.le_of_ble_eq_true rfl⟩, (hts _ mw_842), (hts _ mp_34)⟩) (pu_V hPc hK hE (va_recv hK hPc (ci := 3) (q0 := 0) rfl rfl)) rfl rfl hl.1 rfl (lv_room (Nat.le_of_ble_eq_true rfl)) dX3_findNext_53 ⟨Nat.le_of_ble_eq_true rfl, Nat.le_of_ble_eq_true rfl⟩) (fun rv_5 hw_ => ?_)
        have hw_5 := hw_
        refine lv_istore (lv' := [(7, .int rv_5), (6, .int (nI i)), (5, .int m5), (4, .int (nI bs)), (0, .ref h), (1, .int v1), (2, .int v2), (3, .int v3)]) hx hb dX3_findNext_56 hl (by decide) rfl (fun ls hl => ?_)
        refine lv_iload hx hb dX3_findNext_58 (lv_at hl 0 rfl) ?_
        refine lv_iload_n hx hb dX3_findNext_60 rfl (lv_at hl 6 rfl) ?_
        refine lv_iconst (v := (-1)) hx hb dX3_findNext_61 (by decide) ?_
        refine lv_icmp_ne (tgt := 69) hx hb dX3_findNext_62 (by decide) (fun c_6 => ?_) (fun c_6 => ?_)
        · refine lv_aload_n hx hb dX3_findNext_69 rfl (lv_at hl 4 rfl) ?_
          refine va_get (D := (dC, dI)) (ci := 3) (v := .ref g0) (C := RX3) (T := TX3) (N := 13) hx hb hts inX3 hown hK hP 0 rfl rfl 0 (by decide) (hts _ mw_104) (fun _ h9 => h9) rfl dX3_findNext_70 ?_
          refine lv_iload_n hx hb dX3_findNext_73 rfl (lv_at hl 6 rfl) ?_
          refine lv_bipush (v := 6) hx hb dX3_findNext_74 (by decide) ?_
          refine lv_imul hx hb dX3_findNext_76 ?_
          refine lv_aload_n hx hb dX3_findNext_77 rfl (lv_at hl 4 rfl) ?_
          refine va_get (D := (dC, dI)) (ci := 3) (v := .ref g2) (C := RX3) (T := TX3) (N := 13) hx hb hts inX3 hown hK hP 0 rfl rfl 2 (by decide) (hts _ mw_106) (fun _ h9 => h9) rfl dX3_findNext_78 ?_
          refine lv_iload hx hb dX3_findNext_81 (lv_at hl 1 rfl) ?_
          refine va_iald hx hb hK hP 2 0 rfl rfl (vp_in_nI (show i < 10 by omega) (by first | decide | omega)) dX3_findNext_83 ?_
          refine lv_topi (fun y_ e_ => ?_)
          obtain rfl : y_ = (kd i) := e_.trans (congrArg kd (show ((nI i) : Int32).toNatClampNeg = i from nI_clamp (by omega)))
          refine lv_iadd hx hb dX3_findNext_84 ?_
          refine va_iald hx hb hK hP 1 0 rfl rfl (gr_in (A := 6) (B := 6) (cnt_vp (hv2.resolve_left c_6) (by decide) (by decide)) (cnt_vp (hq.2 i (by omega)) (by decide) (by decide)) (by decide) (w := 6) (by decide) (by decide) (by decide)).1 dX3_findNext_85 ?_
          refine lv_iadd hx hb dX3_findNext_86 ?_
          refine lv_istore (lv' := [(7, .int (rv_5 + (ws (((v2 * 6) + (kd i)) : Int32).toNatClampNeg))), (6, .int (nI i)), (5, .int m5), (4, .int (nI bs)), (0, .ref h), (1, .int v1), (2, .int v2), (3, .int v3)]) hx hb dX3_findNext_87 hl (by decide) rfl (fun ls hl => ?_)
          refine lv_iload hx hb dX3_findNext_89 (lv_at hl 0 rfl) ?_
          refine lv_iload hx hb dX3_findNext_91 (lv_at hl 2 rfl) ?_
          refine lv_icmp_ge (tgt := 104) hx hb dX3_findNext_93 (by decide) (fun c_7 => ?_) (fun c_7 => ?_)
          · refine lv_iinc (v := (nI (i + 1))) (lv' := [(6, .int (nI (i + 1))), (7, .int (rv_5 + (ws (((v2 * 6) + (kd i)) : Int32).toNatClampNeg))), (5, .int m5), (4, .int (nI bs)), (0, .ref h), (1, .int v1), (2, .int v2), (3, .int v3)]) hx hb dX3_findNext_104 hl (k := 1) rfl (nI_add (i) 1) (by decide) rfl (fun ls hl => ?_)
            refine lv_goto (tgt := 10) hx hb dX3_findNext_107 (by decide) ?_
            exact ih (i + 1, bs, m5) _ _ _ (by omega) ⟨⟨by first | omega | (dsimp only; omega), by first | omega | (dsimp only; omega)⟩, rfl, rfl, lv_sub hl [0, 2, 3, 4, 5, 6, 7] rfl⟩
          · refine lv_iload hx hb dX3_findNext_96 (lv_at hl 0 rfl) ?_
            refine lv_istore (lv' := [(5, .int (rv_5 + (ws (((v2 * 6) + (kd i)) : Int32).toNatClampNeg))), (7, .int (rv_5 + (ws (((v2 * 6) + (kd i)) : Int32).toNatClampNeg))), (6, .int (nI i)), (4, .int (nI bs)), (0, .ref h), (1, .int v1), (2, .int v2), (3, .int v3)]) hx hb dX3_findNext_98 hl (by decide) rfl (fun ls hl => ?_)
            refine lv_iload hx hb dX3_findNext_100 (lv_at hl 2 rfl) ?_
            refine lv_istore (lv' := [(4, .int (nI i)), (5, .int (rv_5 + (ws (((v2 * 6) + (kd i)) : Int32).toNatClampNeg))), (7, .int (rv_5 + (ws (((v2 * 6) + (kd i)) : Int32).toNatClampNeg))), (6, .int (nI i)), (0, .ref h), (1, .int v1), (2, .int v2), (3, .int v3)]) hx hb dX3_findNext_102 hl (by decide) rfl (fun ls hl => ?_)
            refine lv_iinc (v := (nI (i + 1))) (lv' := [(6, .int (nI (i + 1))), (4, .int (nI i)), (5, .int (rv_5 + (ws (((v2 * 6) + (kd i)) : Int32).toNatClampNeg))), (7, .int (rv_5 + (ws (((v2 * 6) + (kd i)) : Int32).toNatClampNeg))), (0, .ref h), (1, .int v1), (2, .int v2), (3, .int v3)]) hx hb dX3_findNext_104 hl (k := 3) rfl (nI_add (i) 1) (by decide) rfl (fun ls hl => ?_)
            refine lv_goto (tgt := 10) hx hb dX3_findNext_107 (by decide) ?_
            exact ih (i + 1, i, (rv_5 + (ws (((v2 * 6) + (kd i)) : Int32).toNatClampNeg))) _ _ _ (by omega) ⟨⟨by first | omega | (dsimp only; omega), by first | omega | (dsimp only; omega)⟩, rfl, rfl, lv_sub hl [0, 2, 1, 4, 5, 6, 7] rfl⟩
        · refine lv_iconst (v := 0) hx hb dX3_findNext_65 (by decide) ?_
          refine lv_goto (tgt := 86) hx hb dX3_findNext_66 (by decide) ?_
          refine lv_iadd hx hb dX3_findNext_86 ?_
          refine lv_topi (fun y_ e_ => ?_)
          obtain rfl : rv_5 = y_ := (e_.trans (Int32.add_zero _)).symm
          refine lv_istore (lv' := [(7, .int rv_5), (6, .int (nI i)), (5, .int m5), (4, .int (nI bs)), (0, .ref h), (1, .int v1), (2, .int v2), (3, .int v3)]) hx hb dX3_findNext_87 hl (by decide) rfl (fun ls hl => ?_)
          refine lv_iload hx hb dX3_findNext_89 (lv_at hl 0 rfl) ?_
          refine lv_iload hx hb dX3_findNext_91 (lv_at hl 2 rfl) ?_
          refine lv_icmp_ge (tgt := 104) hx hb dX3_findNext_93 (by decide) (fun c_8 => ?_) (fun c_8 => ?_)
          · refine lv_iinc (v := (nI (i + 1))) (lv' := [(6, .int (nI (i + 1))), (7, .int rv_5), (5, .int m5), (4, .int (nI bs)), (0, .ref h), (1, .int v1), (2, .int v2), (3, .int v3)]) hx hb dX3_findNext_104 hl (k := 1) rfl (nI_add (i) 1) (by decide) rfl (fun ls hl => ?_)
            refine lv_goto (tgt := 10) hx hb dX3_findNext_107 (by decide) ?_
            exact ih (i + 1, bs, m5) _ _ _ (by omega) ⟨⟨by first | omega | (dsimp only; omega), by first | omega | (dsimp only; omega)⟩, rfl, rfl, lv_sub hl [0, 2, 3, 4, 5, 6, 7] rfl⟩
          · refine lv_iload hx hb dX3_findNext_96 (lv_at hl 0 rfl) ?_
            refine lv_istore (lv' := [(5, .int rv_5), (7, .int rv_5), (6, .int (nI i)), (4, .int (nI bs)), (0, .ref h), (1, .int v1), (2, .int v2), (3, .int v3)]) hx hb dX3_findNext_98 hl (by decide) rfl (fun ls hl => ?_)
            refine lv_iload hx hb dX3_findNext_100 (lv_at hl 2 rfl) ?_
            refine lv_istore (lv' := [(4, .int (nI i)), (5, .int rv_5), (7, .int rv_5), (6, .int (nI i)), (0, .ref h), (1, .int v1), (2, .int v2), (3, .int v3)]) hx hb dX3_findNext_102 hl (by decide) rfl (fun ls hl => ?_)
            refine lv_iinc (v := (nI (i + 1))) (lv' := [(6, .int (nI (i + 1))), (4, .int (nI i)), (5, .int rv_5), (7, .int rv_5), (0, .ref h), (1, .int v1), (2, .int v2), (3, .int v3)]) hx hb dX3_findNext_104 hl (k := 3) rfl (nI_add (i) 1) (by decide) rfl (fun ls hl => ?_)
            refine lv_goto (tgt := 10) hx hb dX3_findNext_107 (by decide) ?_
            exact ih (i + 1, i, rv_5) _ _ _ (by omega) ⟨⟨by first | omega | (dsimp only; omega), by first | omega | (dsimp only; omega)⟩, rfl, rfl, lv_sub hl [0, 2, 1, 4, 5, 6, 7] rfl⟩

set_option maxHeartbeats 4000000 in
set_option maxRecDepth 100000 in
theorem e_followLeast (l : Launch) (dC : Nat → ClassId) (dI : Nat → Nat → Nat) (ca : Nat → ClassId) (sz : Nat) (h : Nat) (g0 : Nat) (g1 : Nat) (g2 : Nat) (g4 : Nat) (g8 : Nat) (g9 : Nat) (g10 : Nat) (g11 : Nat) (qm : Nat) (om : Int32) (kn : Int32) (kl : Int32) (ws : Nat → Int32) (qd : Nat → Int32) (kd : Nat → Int32) (od : Nat → Int32) (us : Nat → Int32) (ct : Nat → Int32) (sd : Nat → Int32) (wt : Nat → Int32) (lq : Nat) (LE : Nat → Int32) (n : Nat) (v2 : Int32) (hq : qI qm kd) (hn : n ≤ 323) (hsd : ∀ j, j < 6 → cnt (sd j) 1771561) : Met l yX3_followLeast (Cond.code yX3_followLeast cX3_followLeast 8 none :: gT) ({ frames := 4, cells := 0, slots := 0, locals := 130 }) (va_Pc [.ref h, .int (nI n), .int v2] (pr (dC, dI) sz [(h, .inr (3, [.ref g0, .ref g1, .ref g2, .int (nI qm), .ref g4, .int om, .int kn, .int kl, .ref g8, .ref g9, .ref g10, .ref g11, .ref lq])), (g0, .inl (ca 0, 36, .inl ws)), (g1, .inl (ca 0, 10, .inl qd)), (g2, .inl (ca 0, 10, .inl kd)), (g4, .inl (ca 0, 10, .inl od)), (g8, .inl (ca 1, 10, .inl us)), (g9, .inl (ca 0, 6, .inl ct)), (g10, .inl (ca 0, 6, .inl sd)), (g11, .inl (ca 0, 6, .inl wt)), (lq, .inl (ca 0, 1944, .inl LE))] (aT ca))) (va_Qv (fun (u_ : Int32 × (Nat → Int32) × (Nat → Int32) × (Nat → Int32)) => True) (fun (u_ : Int32 × (Nat → Int32) × (Nat → Int32) × (Nat → Int32)) t => va_P (dC, dI) vwCl [(h, .inr (3, [.ref g0, .ref g1, .ref g2, .int (nI qm), .ref g4, .int u_.1, .int kn, .int kl, .ref g8, .ref g9, .ref g10, .ref g11, .ref lq])), (g0, .inl (ca 0, 36, .inl ws)), (g1, .inl (ca 0, 10, .inl qd)), (g2, .inl (ca 0, 10, .inl kd)), (g4, .inl (ca 0, 10, .inl u_.2.1)), (g8, .inl (ca 1, 10, .inl u_.2.2.1)), (g9, .inl (ca 0, 6, .inl ct)), (g10, .inl (ca 0, 6, .inl sd)), (g11, .inl (ca 0, 6, .inl u_.2.2.2)), (lq, .inl (ca 0, 1944, .inl LE))] t.heap ∧ va_D (va_A [(h, .inr (3, [.ref g0, .ref g1, .ref g2, .int (nI qm), .ref g4, .int om, .int kn, .int kl, .ref g8, .ref g9, .ref g10, .ref g11, .ref lq])), (g0, .inl (ca 0, 36, .inl ws)), (g1, .inl (ca 0, 10, .inl qd)), (g2, .inl (ca 0, 10, .inl kd)), (g4, .inl (ca 0, 10, .inl od)), (g8, .inl (ca 1, 10, .inl us)), (g9, .inl (ca 0, 6, .inl ct)), (g10, .inl (ca 0, 6, .inl sd)), (g11, .inl (ca 0, 6, .inl wt)), (lq, .inl (ca 0, 1944, .inl LE))] sz) [(h, .inr (3, [.ref g0, .ref g1, .ref g2, .int (nI qm), .ref g4, .int u_.1, .int kn, .int kl, .ref g8, .ref g9, .ref g10, .ref g11, .ref lq])), (g0, .inl (ca 0, 36, .inl ws)), (g1, .inl (ca 0, 10, .inl qd)), (g2, .inl (ca 0, 10, .inl kd)), (g4, .inl (ca 0, 10, .inl u_.2.1)), (g8, .inl (ca 1, 10, .inl u_.2.2.1)), (g9, .inl (ca 0, 6, .inl ct)), (g10, .inl (ca 0, 6, .inl sd)), (g11, .inl (ca 0, 6, .inl u_.2.2.2)), (lq, .inl (ca 0, 1944, .inl LE))]) (va_A [(h, .inr (3, [.ref g0, .ref g1, .ref g2, .int (nI qm), .ref g4, .int om, .int kn, .int kl, .ref g8, .ref g9, .ref g10, .ref g11, .ref lq])), (g0, .inl (ca 0, 36, .inl ws)), (g1, .inl (ca 0, 10, .inl qd)), (g2, .inl (ca 0, 10, .inl kd)), (g4, .inl (ca 0, 10, .inl od)), (g8, .inl (ca 1, 10, .inl us)), (g9, .inl (ca 0, 6, .inl ct)), (g10, .inl (ca 0, 6, .inl sd)), (g11, .inl (ca 0, 6, .inl wt)), (lq, .inl (ca 0, 1944, .inl LE))] sz)) 0 0 (va_A [(h, .inr (3, [.ref g0, .ref g1, .ref g2, .int (nI qm), .ref g4, .int om, .int kn, .int kl, .ref g8, .ref g9, .ref g10, .ref g11, .ref lq])), (g0, .inl (ca 0, 36, .inl ws)), (g1, .inl (ca 0, 10, .inl qd)), (g2, .inl (ca 0, 10, .inl kd)), (g4, .inl (ca 0, 10, .inl od)), (g8, .inl (ca 1, 10, .inl us)), (g9, .inl (ca 0, 6, .inl ct)), (g10, .inl (ca 0, 6, .inl sd)), (g11, .inl (ca 0, 6, .inl wt)), (lq, .inl (ca 0, 1944, .inl LE))] sz) := by
  refine Met.ofW (cc := cX3_followLeast) (maxL := 8) (ret := none) (by decide) rfl ?_
  intro p e s m args below meth c s₁ B hml hv
  obtain ⟨rfl, hsz, hP, hK, hD0, hE⟩ := hv
  have hx := B.exec
  have hb := B.bytes
  have hr := B.returns
  have hts : ∀ w ∈ gT, w.before _ s = true := fun w h => atoms_spec (ws := Cond.code yX3_followLeast cX3_followLeast 8 none :: gT) B.pre w (List.mem_cons_of_mem _ h)
  have hown : s.vm.findClass RX3 = some m.cls := findClass_of_methodNamed B.named
  have hlocks := B.notSynchronized
  subst hsz
  have hD := hD0.self (sz := s.heap.size)
  generalize hAe : va_A [(h, .inr (3, [.ref g0, .ref g1, .ref g2, .int (nI qm), .ref g4, .int om, .int kn, .int kl, .ref g8, .ref g9, .ref g10, .ref g11, .ref lq])), (g0, .inl (ca 0, 36, .inl ws)), (g1, .inl (ca 0, 10, .inl qd)), (g2, .inl (ca 0, 10, .inl kd)), (g4, .inl (ca 0, 10, .inl od)), (g8, .inl (ca 1, 10, .inl us)), (g9, .inl (ca 0, 6, .inl ct)), (g10, .inl (ca 0, 6, .inl sd)), (g11, .inl (ca 0, 6, .inl wt)), (lq, .inl (ca 0, 1944, .inl LE))] s.heap.size = A at hD ⊢
  have hA : ∀ q : Nat, s.heap.size ≤ q → A q := fun q h => by rw [← hAe]; exact Or.inr h
  have hS : va_S A s.heap s.heap [] := va_S.rf
  have hl := lv_entry ([.ref h, .int (nI n), .int v2]) (n := 8) (Nat.le_of_ble_eq_true rfl)
  rw [lg_entry_eq]
  generalize (lg_sl ([.ref h, .int (nI n), .int v2]) ++ List.replicate (8 - (lg_sl ([.ref h, .int (nI n), .int v2])).length) Slot.unset).toArray = ls at hl ⊢
  have hl : lv_has ls 8 [(0, .ref h), (1, .int (nI n)), (2, .int v2)] := hl
  have hq0 := hq.1
  refine lv_aload_n hx hb dX3_followLeast_0 rfl (lv_at hl 0 rfl) ?_
  refine va_get (D := (dC, dI)) (ci := 3) (v := .ref g9) (C := RX3) (T := TX3) (N := 13) hx hb hts inX3 hown hK hP 0 rfl rfl 9 (by decide) (hts _ mw_116) (fun _ h9 => h9) rfl dX3_followLeast_1 ?_
  refine lv_iconst (v := 0) hx hb dX3_followLeast_4 (by decide) ?_
  refine lv_aload_n hx hb dX3_followLeast_5 rfl (lv_at hl 0 rfl) ?_
  refine va_get (D := (dC, dI)) (ci := 3) (v := .ref g11) (C := RX3) (T := TX3) (N := 13) hx hb hts inX3 hown hK hP 0 rfl rfl 11 (by decide) (hts _ mw_118) (fun _ h9 => h9) rfl dX3_followLeast_6 ?_
  refine lv_iconst (v := 0) hx hb dX3_followLeast_9 (by decide) ?_
  refine lv_bipush (v := 6) hx hb dX3_followLeast_10 (by decide) ?_
  refine va_copyi (ty := .int) hx hb (by rw [hml]; exact hl.1.symm) hown (hts _ mw_848) (hts _ mw_672) (hts _ mw_671) (hts _ mw_15) hK hP hD hS 6 8 0 0 rfl rfl rfl rfl rfl (by decide) (by decide) (by decide) (by decide) (by decide) (fun _ _ => rfl) (Nat.le_of_ble_eq_true rfl) (Nat.le_of_ble_eq_true rfl) dX3_followLeast_12 (fun H locs hP hD hS => ?_)
  have hP : va_P (dC, dI) vwCl [(h, .inr (3, [.ref g0, .ref g1, .ref g2, .int (nI qm), .ref g4, .int om, .int kn, .int kl, .ref g8, .ref g9, .ref g10, .ref g11, .ref lq])), (g0, .inl (ca 0, 36, .inl ws)), (g1, .inl (ca 0, 10, .inl qd)), (g2, .inl (ca 0, 10, .inl kd)), (g4, .inl (ca 0, 10, .inl od)), (g8, .inl (ca 1, 10, .inl us)), (g9, .inl (ca 0, 6, .inl ct)), (g10, .inl (ca 0, 6, .inl sd)), (g11, .inl (ca 0, 6, .inl (va_cpy ct wt (0 : Int32).toNatClampNeg (0 : Int32).toNatClampNeg (6 : Int32).toNatClampNeg))), (lq, .inl (ca 0, 1944, .inl LE))] H := hP
  have hD : va_D A [(h, .inr (3, [.ref g0, .ref g1, .ref g2, .int (nI qm), .ref g4, .int om, .int kn, .int kl, .ref g8, .ref g9, .ref g10, .ref g11, .ref lq])), (g0, .inl (ca 0, 36, .inl ws)), (g1, .inl (ca 0, 10, .inl qd)), (g2, .inl (ca 0, 10, .inl kd)), (g4, .inl (ca 0, 10, .inl od)), (g8, .inl (ca 1, 10, .inl us)), (g9, .inl (ca 0, 6, .inl ct)), (g10, .inl (ca 0, 6, .inl sd)), (g11, .inl (ca 0, 6, .inl (va_cpy ct wt (0 : Int32).toNatClampNeg (0 : Int32).toNatClampNeg (6 : Int32).toNatClampNeg))), (lq, .inl (ca 0, 1944, .inl LE))] := hD
  refine lv_iconst (v := 0) hx hb dX3_followLeast_15 (by decide) ?_
  refine lv_istore_n (lv' := [(3, .int 0), (0, .ref h), (1, .int (nI n)), (2, .int v2)]) hx hb dX3_followLeast_16 rfl hl (by decide) rfl (fun ls hl => ?_)
  refine wl_loop (fun (z_ : Nat × (Nat → Int32)) H locs ls => (z_.1 ≤ qm) ∧ va_P (dC, dI) vwCl [(h, .inr (3, [.ref g0, .ref g1, .ref g2, .int (nI qm), .ref g4, .int om, .int kn, .int kl, .ref g8, .ref g9, .ref g10, .ref g11, .ref lq])), (g0, .inl (ca 0, 36, .inl ws)), (g1, .inl (ca 0, 10, .inl qd)), (g2, .inl (ca 0, 10, .inl kd)), (g4, .inl (ca 0, 10, .inl od)), (g8, .inl (ca 1, 10, .inl z_.2)), (g9, .inl (ca 0, 6, .inl ct)), (g10, .inl (ca 0, 6, .inl sd)), (g11, .inl (ca 0, 6, .inl (va_cpy ct wt (0 : Int32).toNatClampNeg (0 : Int32).toNatClampNeg (6 : Int32).toNatClampNeg))), (lq, .inl (ca 0, 1944, .inl LE))] H ∧ va_D A [(h, .inr (3, [.ref g0, .ref g1, .ref g2, .int (nI qm), .ref g4, .int om, .int kn, .int kl, .ref g8, .ref g9, .ref g10, .ref g11, .ref lq])), (g0, .inl (ca 0, 36, .inl ws)), (g1, .inl (ca 0, 10, .inl qd)), (g2, .inl (ca 0, 10, .inl kd)), (g4, .inl (ca 0, 10, .inl od)), (g8, .inl (ca 1, 10, .inl z_.2)), (g9, .inl (ca 0, 6, .inl ct)), (g10, .inl (ca 0, 6, .inl sd)), (g11, .inl (ca 0, 6, .inl (va_cpy ct wt (0 : Int32).toNatClampNeg (0 : Int32).toNatClampNeg (6 : Int32).toNatClampNeg))), (lq, .inl (ca 0, 1944, .inl LE))] ∧ va_S A s.heap H locs ∧ lv_has ls 8 [(3, .int (nI z_.1)), (0, .ref h), (1, .int (nI n)), (2, .int v2)]) (fun (z_ : Nat × (Nat → Int32)) => qm - z_.1) (fun z_ H locs ls hI ih => ?_) (0, us) ⟨(Nat.zero_le _), hP, hD, hS, lv_sub hl [0, 1, 2, 3] rfl⟩
  obtain ⟨i, u1_⟩ := z_
  dsimp only at hI ih
  obtain ⟨hi, hP, hD, hS, hl⟩ := hI
  refine lv_iload_n hx hb dX3_followLeast_17 rfl (lv_at hl 0 rfl) ?_
  refine lv_aload_n hx hb dX3_followLeast_18 rfl (lv_at hl 1 rfl) ?_
  refine va_get (D := (dC, dI)) (ci := 3) (v := .int (nI qm)) (C := RX3) (T := TX3) (N := 13) hx hb hts inX3 hown hK hP 0 rfl rfl 3 (by decide) (hts _ mw_107) (fun _ h9 => h9) rfl dX3_followLeast_19 ?_
  refine lv_icmp_ge (tgt := 38) hx hb dX3_followLeast_22 (by decide) (fun c_1 => ?_) (fun c_1 => ?_)
  · have nc_1 : qm ≤ i := (nI_leI (a := qm) (b := i) (by omega) (by omega)).mp c_1
    refine lv_iload_n hx hb dX3_followLeast_38 rfl (lv_at hl 2 rfl) ?_
    refine lv_istore_n (lv' := [(3, .int (nI n)), (0, .ref h), (1, .int (nI n)), (2, .int v2)]) hx hb dX3_followLeast_39 rfl hl (by decide) rfl (fun ls hl => ?_)
    refine lv_iconst (v := (-1)) hx hb dX3_followLeast_40 (by decide) ?_
    refine lv_istore (lv' := [(4, .int (-1)), (3, .int (nI n)), (0, .ref h), (1, .int (nI n)), (2, .int v2)]) hx hb dX3_followLeast_41 hl (by decide) rfl (fun ls hl => ?_)
    refine lv_iconst (v := 0) hx hb dX3_followLeast_43 (by decide) ?_
    refine lv_istore (lv' := [(5, .int 0), (4, .int (-1)), (3, .int (nI n)), (0, .ref h), (1, .int (nI n)), (2, .int v2)]) hx hb dX3_followLeast_44 hl (by decide) rfl (fun ls hl => ?_)
    refine wl_loop (fun (z_ : Nat × Int32 × Int32 × Int32 × (Nat → Int32) × (Nat → Int32) × (Nat → Int32)) H locs ls => (z_.1 ≤ qm ∧ (-1771561 * (z_.1 : Int) ≤ z_.2.1.toInt ∧ z_.2.1.toInt ≤ 323) ∧ (z_.2.2.1 = -1 ∨ cnt z_.2.2.1 5)) ∧ va_P (dC, dI) vwCl [(h, .inr (3, [.ref g0, .ref g1, .ref g2, .int (nI qm), .ref g4, .int z_.2.2.2.1, .int kn, .int kl, .ref g8, .ref g9, .ref g10, .ref g11, .ref lq])), (g0, .inl (ca 0, 36, .inl ws)), (g1, .inl (ca 0, 10, .inl qd)), (g2, .inl (ca 0, 10, .inl kd)), (g4, .inl (ca 0, 10, .inl z_.2.2.2.2.1)), (g8, .inl (ca 1, 10, .inl z_.2.2.2.2.2.1)), (g9, .inl (ca 0, 6, .inl ct)), (g10, .inl (ca 0, 6, .inl sd)), (g11, .inl (ca 0, 6, .inl z_.2.2.2.2.2.2)), (lq, .inl (ca 0, 1944, .inl LE))] H ∧ va_D A [(h, .inr (3, [.ref g0, .ref g1, .ref g2, .int (nI qm), .ref g4, .int z_.2.2.2.1, .int kn, .int kl, .ref g8, .ref g9, .ref g10, .ref g11, .ref lq])), (g0, .inl (ca 0, 36, .inl ws)), (g1, .inl (ca 0, 10, .inl qd)), (g2, .inl (ca 0, 10, .inl kd)), (g4, .inl (ca 0, 10, .inl z_.2.2.2.2.1)), (g8, .inl (ca 1, 10, .inl z_.2.2.2.2.2.1)), (g9, .inl (ca 0, 6, .inl ct)), (g10, .inl (ca 0, 6, .inl sd)), (g11, .inl (ca 0, 6, .inl z_.2.2.2.2.2.2)), (lq, .inl (ca 0, 1944, .inl LE))] ∧ va_S A s.heap H locs ∧ lv_has ls 8 [(5, .int (nI z_.1)), (4, .int z_.2.2.1), (3, .int z_.2.1), (0, .ref h), (1, .int (nI n)), (2, .int v2)]) (fun (z_ : Nat × Int32 × Int32 × Int32 × (Nat → Int32) × (Nat → Int32) × (Nat → Int32)) => qm - z_.1) (fun z_ H locs ls hI ih46 => ?_) (0, (nI n), (-1), om, od, u1_, (va_cpy ct wt (0 : Int32).toNatClampNeg (0 : Int32).toNatClampNeg (6 : Int32).toNatClampNeg)) ⟨⟨Nat.zero_le _, by rw [nI_toInt (by omega)]; omega, Or.inl rfl⟩, hP, hD, hS, lv_sub hl [0, 1, 2, 3, 4, 5] rfl⟩
    obtain ⟨i2, s3, b4, om1, od1, us1, wt1⟩ := z_
    dsimp only at hI ih46
    obtain ⟨⟨hi2, hs3, hb4⟩, hP, hD, hS, hl⟩ := hI
    refine lv_iload hx hb dX3_followLeast_46 (lv_at hl 0 rfl) ?_
    refine lv_aload_n hx hb dX3_followLeast_48 rfl (lv_at hl 3 rfl) ?_
    refine va_get (D := (dC, dI)) (ci := 3) (v := .int (nI qm)) (C := RX3) (T := TX3) (N := 13) hx hb hts inX3 hown hK hP 0 rfl rfl 3 (by decide) (hts _ mw_107) (fun _ h9 => h9) rfl dX3_followLeast_49 ?_
    refine lv_icmp_ge (tgt := 159) hx hb dX3_followLeast_52 (by decide) (fun c_2 => ?_) (fun c_2 => ?_)
    · have nc_2 : qm ≤ i2 := (nI_leI (a := qm) (b := i2) (by omega) (by omega)).mp c_2
      refine W.widen (k := 0) (n := 0) (Nat.le_of_ble_eq_true rfl) (Nat.le_of_ble_eq_true rfl) ?_
      have hP9 : va_P (dC, dI) vwCl [(h, .inr (3, [.ref g0, .ref g1, .ref g2, .int (nI qm), .ref g4, .int om1, .int kn, .int kl, .ref g8, .ref g9, .ref g10, .ref g11, .ref lq])), (g0, .inl (ca 0, 36, .inl ws)), (g1, .inl (ca 0, 10, .inl qd)), (g2, .inl (ca 0, 10, .inl kd)), (g4, .inl (ca 0, 10, .inl od1)), (g8, .inl (ca 1, 10, .inl us1)), (g9, .inl (ca 0, 6, .inl ct)), (g10, .inl (ca 0, 6, .inl sd)), (g11, .inl (ca 0, 6, .inl wt1)), (lq, .inl (ca 0, 1944, .inl LE))] H := va_P.sub hP [0, 1, 2, 3, 4, 5, 6, 7, 8, 9] rfl
      have hD9 : va_D A [(h, .inr (3, [.ref g0, .ref g1, .ref g2, .int (nI qm), .ref g4, .int om1, .int kn, .int kl, .ref g8, .ref g9, .ref g10, .ref g11, .ref lq])), (g0, .inl (ca 0, 36, .inl ws)), (g1, .inl (ca 0, 10, .inl qd)), (g2, .inl (ca 0, 10, .inl kd)), (g4, .inl (ca 0, 10, .inl od1)), (g8, .inl (ca 1, 10, .inl us1)), (g9, .inl (ca 0, 6, .inl ct)), (g10, .inl (ca 0, 6, .inl sd)), (g11, .inl (ca 0, 6, .inl wt1)), (lq, .inl (ca 0, 1944, .inl LE))] := va_D.sub hD [0, 1, 2, 3, 4, 5, 6, 7, 8, 9] (by decide) rfl
      exact W.vret hx hb hr (fun t ht hW => ⟨⟨(om1, od1, us1, wt1), rfl, trivial, by rw [ht]; exact hP9, hD9⟩, hS.F ht⟩) hS.2.2 dX3_followLeast_159
    · have nc_2 : ¬ (qm ≤ i2) := fun h9 => c_2 ((nI_leI (a := qm) (b := i2) (by omega) (by omega)).mpr h9)
      refine lv_aload_n hx hb dX3_followLeast_55 rfl (lv_at hl 3 rfl) ?_
      refine lv_iload_n hx hb dX3_followLeast_56 rfl (lv_at hl 2 rfl) ?_
      refine lv_iload hx hb dX3_followLeast_57 (lv_at hl 1 rfl) ?_
      refine lv_iload_n hx hb dX3_followLeast_59 rfl (lv_at hl 5 rfl) ?_
      have hPc := hP.sub (ws' := [(h, .inr (3, [.ref g0, .ref g1, .ref g2, .int (nI qm), .ref g4, .int om1, .int kn, .int kl, .ref g8, .ref g9, .ref g10, .ref g11, .ref lq])), (g0, .inl (ca 0, 36, .inl ws)), (g2, .inl (ca 0, 10, .inl kd)), (g8, .inl (ca 1, 10, .inl us1)), (g10, .inl (ca 0, 6, .inl sd)), (g11, .inl (ca 0, 6, .inl wt1)), (lq, .inl (ca 0, 1944, .inl LE))]) [0, 1, 3, 5, 7, 8, 9] rfl
      refine pc_i (va_runV (As := [.int s3, .int b4, .int v2]) (rest := []) ⟨hx, hb, hml, hown, hts⟩ (e_findNext l dC dI ca h g0 g1 g2 g4 g8 g9 g10 g11 qm om1 kn kl ws kd us1 sd wt1 lq LE s3 b4 v2 hq (by omega) ⟨by omega, hs3.2⟩ hb4 hsd) (⟨callB_of 3 hts (gd mw_852) rfl rfl rfl (hts _ mw_5) (hts _ mw_849) ds_X3_findNext ⟨Nat.le_of_ble_eq_true rfl, Nat.le_of_ble_eq_true rfl⟩, (hts _ mw_851), (hts _ mp_36)⟩) (pu_V hPc hK hE (va_recv hK hPc (ci := 3) (q0 := 0) rfl rfl)) rfl rfl hl.1 rfl (lv_room (Nat.le_of_ble_eq_true rfl)) dX3_followLeast_60 ⟨Nat.le_of_ble_eq_true rfl, Nat.le_of_ble_eq_true rfl⟩) (fun rv_3 hw_ => ?_)
      have hw_3 := hw_
      obtain ⟨nx9, hnx, enx⟩ := hw_3
      subst enx
      refine lv_istore (lv' := [(6, .int (nI nx9)), (5, .int (nI i2)), (4, .int b4), (3, .int s3), (0, .ref h), (1, .int (nI n)), (2, .int v2)]) hx hb dX3_followLeast_63 hl (by decide) rfl (fun ls hl => ?_)
      refine lv_aload_n hx hb dX3_followLeast_65 rfl (lv_at hl 4 rfl) ?_
      refine va_get (D := (dC, dI)) (ci := 3) (v := .ref g2) (C := RX3) (T := TX3) (N := 13) hx hb hts inX3 hown hK hP 0 rfl rfl 2 (by decide) (hts _ mw_106) (fun _ h9 => h9) rfl dX3_followLeast_66 ?_
      refine lv_iload hx hb dX3_followLeast_69 (lv_at hl 0 rfl) ?_
      refine va_iald hx hb hK hP 3 0 rfl rfl (vp_in_nI (show nx9 < 10 by omega) (by first | decide | omega)) dX3_followLeast_71 ?_
      refine lv_topi (fun y_ e_ => ?_)
      obtain rfl : y_ = (kd nx9) := e_.trans (congrArg kd (show ((nI nx9) : Int32).toNatClampNeg = nx9 from nI_clamp (by omega)))
      refine lv_istore (lv' := [(7, .int (kd nx9)), (6, .int (nI nx9)), (5, .int (nI i2)), (4, .int b4), (3, .int s3), (0, .ref h), (1, .int (nI n)), (2, .int v2)]) hx hb dX3_followLeast_72 hl (by decide) rfl (fun ls hl => ?_)
      refine lv_aload_n hx hb dX3_followLeast_74 rfl (lv_at hl 5 rfl) ?_
      refine lv_dup hx hb dX3_followLeast_75 rfl ?_
      refine va_get (D := (dC, dI)) (ci := 3) (v := .int om1) (C := RX3) (T := TX3) (N := 13) hx hb hts inX3 hown hK hP 0 rfl rfl 5 (by decide) (hts _ mw_111) (fun _ h9 => h9) rfl dX3_followLeast_76 ?_
      refine lv_iload hx hb dX3_followLeast_79 (lv_at hl 3 rfl) ?_
      refine lv_iconst (v := (-1)) hx hb dX3_followLeast_81 (by decide) ?_
      refine lv_icmp_ne (tgt := 89) hx hb dX3_followLeast_82 (by decide) (fun c_4 => ?_) (fun c_4 => ?_)
      · refine lv_aload_n hx hb dX3_followLeast_89 rfl (lv_at hl 5 rfl) ?_
        refine va_get (D := (dC, dI)) (ci := 3) (v := .ref g0) (C := RX3) (T := TX3) (N := 13) hx hb hts inX3 hown hK hP 0 rfl rfl 0 (by decide) (hts _ mw_104) (fun _ h9 => h9) rfl dX3_followLeast_90 ?_
        refine lv_iload hx hb dX3_followLeast_93 (lv_at hl 3 rfl) ?_
        refine lv_bipush (v := 6) hx hb dX3_followLeast_95 (by decide) ?_
        refine lv_imul hx hb dX3_followLeast_97 ?_
        refine lv_iload hx hb dX3_followLeast_98 (lv_at hl 0 rfl) ?_
        refine lv_iadd hx hb dX3_followLeast_100 ?_
        refine va_iald hx hb hK hP 1 0 rfl rfl (gr_in (A := 6) (B := 6) (cnt_vp (hb4.resolve_left c_4) (by decide) (by decide)) (cnt_vp (hq.2 nx9 hnx) (by decide) (by decide)) (by decide) (w := 6) (by decide) (by decide) (by decide)).1 dX3_followLeast_101 ?_
        refine lv_iadd hx hb dX3_followLeast_102 ?_
        refine va_put (D := (dC, dI)) (ci := 3) (v := .int (om1 + (ws (((b4 * 6) + (kd nx9)) : Int32).toNatClampNeg))) (ty := .int) (C := RX3) (T := TX3) (N := 13) hx hb hts inX3 tyX3 tyX3_ok nmX3 hown hK hP hD hS 0 rfl rfl 5 (by decide) (hts _ mw_111) (fun _ h9 => h9) rfl (by decide +kernel) rfl rfl (Nat.le_of_ble_eq_true rfl) dX3_followLeast_103 (fun H locs hP hD hS => ?_)
        have hP : va_P (dC, dI) vwCl [(h, .inr (3, [.ref g0, .ref g1, .ref g2, .int (nI qm), .ref g4, .int (om1 + (ws (((b4 * 6) + (kd nx9)) : Int32).toNatClampNeg)), .int kn, .int kl, .ref g8, .ref g9, .ref g10, .ref g11, .ref lq])), (g0, .inl (ca 0, 36, .inl ws)), (g1, .inl (ca 0, 10, .inl qd)), (g2, .inl (ca 0, 10, .inl kd)), (g4, .inl (ca 0, 10, .inl od1)), (g8, .inl (ca 1, 10, .inl us1)), (g9, .inl (ca 0, 6, .inl ct)), (g10, .inl (ca 0, 6, .inl sd)), (g11, .inl (ca 0, 6, .inl wt1)), (lq, .inl (ca 0, 1944, .inl LE))] H := hP
        have hD : va_D A [(h, .inr (3, [.ref g0, .ref g1, .ref g2, .int (nI qm), .ref g4, .int (om1 + (ws (((b4 * 6) + (kd nx9)) : Int32).toNatClampNeg)), .int kn, .int kl, .ref g8, .ref g9, .ref g10, .ref g11, .ref lq])), (g0, .inl (ca 0, 36, .inl ws)), (g1, .inl (ca 0, 10, .inl qd)), (g2, .inl (ca 0, 10, .inl kd)), (g4, .inl (ca 0, 10, .inl od1)), (g8, .inl (ca 1, 10, .inl us1)), (g9, .inl (ca 0, 6, .inl ct)), (g10, .inl (ca 0, 6, .inl sd)), (g11, .inl (ca 0, 6, .inl wt1)), (lq, .inl (ca 0, 1944, .inl LE))] := hD
        refine lv_aload_n hx hb dX3_followLeast_106 rfl (lv_at hl 5 rfl) ?_
        refine va_get (D := (dC, dI)) (ci := 3) (v := .ref g4) (C := RX3) (T := TX3) (N := 13) hx hb hts inX3 hown hK hP 0 rfl rfl 4 (by decide) (hts _ mw_109) (fun _ h9 => h9) rfl dX3_followLeast_107 ?_
        refine lv_iload hx hb dX3_followLeast_110 (lv_at hl 2 rfl) ?_
        refine lv_aload_n hx hb dX3_followLeast_112 rfl (lv_at hl 5 rfl) ?_
        refine va_get (D := (dC, dI)) (ci := 3) (v := .ref g1) (C := RX3) (T := TX3) (N := 13) hx hb hts inX3 hown hK hP 0 rfl rfl 1 (by decide) (hts _ mw_105) (fun _ h9 => h9) rfl dX3_followLeast_113 ?_
        refine lv_iload hx hb dX3_followLeast_116 (lv_at hl 1 rfl) ?_
        refine va_iald hx hb hK hP 2 0 rfl rfl (vp_in_nI (show nx9 < 10 by omega) (by first | decide | omega)) dX3_followLeast_118 ?_
        refine lv_topi (fun y_ e_ => ?_)
        obtain rfl : y_ = (qd nx9) := e_.trans (congrArg qd (show ((nI nx9) : Int32).toNatClampNeg = nx9 from nI_clamp (by omega)))
        refine va_iast hx hb hK hP hD hS 4 0 rfl rfl (vp_in_nI (show i2 < 10 by omega) (by first | decide | omega)) dX3_followLeast_119 (fun H locs hP hD hS => ?_)
        rw [(show ((nI i2) : Int32).toNatClampNeg = i2 from nI_clamp (by omega))] at hP hD
        have hP : va_P (dC, dI) vwCl [(h, .inr (3, [.ref g0, .ref g1, .ref g2, .int (nI qm), .ref g4, .int (om1 + (ws (((b4 * 6) + (kd nx9)) : Int32).toNatClampNeg)), .int kn, .int kl, .ref g8, .ref g9, .ref g10, .ref g11, .ref lq])), (g0, .inl (ca 0, 36, .inl ws)), (g1, .inl (ca 0, 10, .inl qd)), (g2, .inl (ca 0, 10, .inl kd)), (g4, .inl (ca 0, 10, .inl (upd od1 i2 (qd nx9)))), (g8, .inl (ca 1, 10, .inl us1)), (g9, .inl (ca 0, 6, .inl ct)), (g10, .inl (ca 0, 6, .inl sd)), (g11, .inl (ca 0, 6, .inl wt1)), (lq, .inl (ca 0, 1944, .inl LE))] H := hP
        have hD : va_D A [(h, .inr (3, [.ref g0, .ref g1, .ref g2, .int (nI qm), .ref g4, .int (om1 + (ws (((b4 * 6) + (kd nx9)) : Int32).toNatClampNeg)), .int kn, .int kl, .ref g8, .ref g9, .ref g10, .ref g11, .ref lq])), (g0, .inl (ca 0, 36, .inl ws)), (g1, .inl (ca 0, 10, .inl qd)), (g2, .inl (ca 0, 10, .inl kd)), (g4, .inl (ca 0, 10, .inl (upd od1 i2 (qd nx9)))), (g8, .inl (ca 1, 10, .inl us1)), (g9, .inl (ca 0, 6, .inl ct)), (g10, .inl (ca 0, 6, .inl sd)), (g11, .inl (ca 0, 6, .inl wt1)), (lq, .inl (ca 0, 1944, .inl LE))] := hD
        refine lv_aload_n hx hb dX3_followLeast_120 rfl (lv_at hl 5 rfl) ?_
        refine va_get (D := (dC, dI)) (ci := 3) (v := .ref g8) (C := RX3) (T := TX3) (N := 13) hx hb hts inX3 hown hK hP 0 rfl rfl 8 (by decide) (hts _ mw_115) (fun _ h9 => h9) rfl dX3_followLeast_121 ?_
        refine lv_iload hx hb dX3_followLeast_124 (lv_at hl 1 rfl) ?_
        refine lv_iconst (v := 1) hx hb dX3_followLeast_126 (by decide) ?_
        refine va_zast hx hb hK hP hD hS 5 1 rfl rfl (vp_in_nI (show nx9 < 10 by omega) (by first | decide | omega)) dX3_followLeast_127 (fun H locs hP hD hS => ?_)
        rw [(show ((nI nx9) : Int32).toNatClampNeg = nx9 from nI_clamp (by omega))] at hP hD
        have hP : va_P (dC, dI) vwCl [(h, .inr (3, [.ref g0, .ref g1, .ref g2, .int (nI qm), .ref g4, .int (om1 + (ws (((b4 * 6) + (kd nx9)) : Int32).toNatClampNeg)), .int kn, .int kl, .ref g8, .ref g9, .ref g10, .ref g11, .ref lq])), (g0, .inl (ca 0, 36, .inl ws)), (g1, .inl (ca 0, 10, .inl qd)), (g2, .inl (ca 0, 10, .inl kd)), (g4, .inl (ca 0, 10, .inl (upd od1 i2 (qd nx9)))), (g8, .inl (ca 1, 10, .inl (upd us1 nx9 1))), (g9, .inl (ca 0, 6, .inl ct)), (g10, .inl (ca 0, 6, .inl sd)), (g11, .inl (ca 0, 6, .inl wt1)), (lq, .inl (ca 0, 1944, .inl LE))] H := hP
        have hD : va_D A [(h, .inr (3, [.ref g0, .ref g1, .ref g2, .int (nI qm), .ref g4, .int (om1 + (ws (((b4 * 6) + (kd nx9)) : Int32).toNatClampNeg)), .int kn, .int kl, .ref g8, .ref g9, .ref g10, .ref g11, .ref lq])), (g0, .inl (ca 0, 36, .inl ws)), (g1, .inl (ca 0, 10, .inl qd)), (g2, .inl (ca 0, 10, .inl kd)), (g4, .inl (ca 0, 10, .inl (upd od1 i2 (qd nx9)))), (g8, .inl (ca 1, 10, .inl (upd us1 nx9 1))), (g9, .inl (ca 0, 6, .inl ct)), (g10, .inl (ca 0, 6, .inl sd)), (g11, .inl (ca 0, 6, .inl wt1)), (lq, .inl (ca 0, 1944, .inl LE))] := hD
        refine lv_aload_n hx hb dX3_followLeast_128 rfl (lv_at hl 5 rfl) ?_
        refine va_get (D := (dC, dI)) (ci := 3) (v := .ref g11) (C := RX3) (T := TX3) (N := 13) hx hb hts inX3 hown hK hP 0 rfl rfl 11 (by decide) (hts _ mw_118) (fun _ h9 => h9) rfl dX3_followLeast_129 ?_
        refine lv_iload hx hb dX3_followLeast_132 (lv_at hl 0 rfl) ?_
        refine lv_dup2_11 hx hb dX3_followLeast_134 rfl rfl ?_
        refine va_iald hx hb hK hP 8 0 rfl rfl (cnt_vp (hq.2 nx9 hnx) (by decide) (by decide)) dX3_followLeast_135 ?_
        refine lv_iconst (v := 1) hx hb dX3_followLeast_136 (by decide) ?_
        refine lv_isub hx hb dX3_followLeast_137 ?_
        refine va_iast hx hb hK hP hD hS 8 0 rfl rfl (cnt_vp (hq.2 nx9 hnx) (by decide) (by decide)) dX3_followLeast_138 (fun H locs hP hD hS => ?_)
        have hP : va_P (dC, dI) vwCl [(h, .inr (3, [.ref g0, .ref g1, .ref g2, .int (nI qm), .ref g4, .int (om1 + (ws (((b4 * 6) + (kd nx9)) : Int32).toNatClampNeg)), .int kn, .int kl, .ref g8, .ref g9, .ref g10, .ref g11, .ref lq])), (g0, .inl (ca 0, 36, .inl ws)), (g1, .inl (ca 0, 10, .inl qd)), (g2, .inl (ca 0, 10, .inl kd)), (g4, .inl (ca 0, 10, .inl (upd od1 i2 (qd nx9)))), (g8, .inl (ca 1, 10, .inl (upd us1 nx9 1))), (g9, .inl (ca 0, 6, .inl ct)), (g10, .inl (ca 0, 6, .inl sd)), (g11, .inl (ca 0, 6, .inl (upd wt1 ((kd nx9) : Int32).toNatClampNeg ((wt1 ((kd nx9) : Int32).toNatClampNeg) - 1)))), (lq, .inl (ca 0, 1944, .inl LE))] H := hP
        have hD : va_D A [(h, .inr (3, [.ref g0, .ref g1, .ref g2, .int (nI qm), .ref g4, .int (om1 + (ws (((b4 * 6) + (kd nx9)) : Int32).toNatClampNeg)), .int kn, .int kl, .ref g8, .ref g9, .ref g10, .ref g11, .ref lq])), (g0, .inl (ca 0, 36, .inl ws)), (g1, .inl (ca 0, 10, .inl qd)), (g2, .inl (ca 0, 10, .inl kd)), (g4, .inl (ca 0, 10, .inl (upd od1 i2 (qd nx9)))), (g8, .inl (ca 1, 10, .inl (upd us1 nx9 1))), (g9, .inl (ca 0, 6, .inl ct)), (g10, .inl (ca 0, 6, .inl sd)), (g11, .inl (ca 0, 6, .inl (upd wt1 ((kd nx9) : Int32).toNatClampNeg ((wt1 ((kd nx9) : Int32).toNatClampNeg) - 1)))), (lq, .inl (ca 0, 1944, .inl LE))] := hD
        refine lv_iload_n hx hb dX3_followLeast_139 rfl (lv_at hl 4 rfl) ?_
        refine lv_aload_n hx hb dX3_followLeast_140 rfl (lv_at hl 5 rfl) ?_
        refine va_get (D := (dC, dI)) (ci := 3) (v := .ref g10) (C := RX3) (T := TX3) (N := 13) hx hb hts inX3 hown hK hP 0 rfl rfl 10 (by decide) (hts _ mw_117) (fun _ h9 => h9) rfl dX3_followLeast_141 ?_
        refine lv_iload hx hb dX3_followLeast_144 (lv_at hl 0 rfl) ?_
        refine va_iald hx hb hK hP 7 0 rfl rfl (cnt_vp (hq.2 nx9 hnx) (by decide) (by decide)) dX3_followLeast_146 ?_
        refine lv_isub hx hb dX3_followLeast_147 ?_
        refine lv_istore_n (lv' := [(3, .int (s3 - (sd ((kd nx9) : Int32).toNatClampNeg))), (7, .int (kd nx9)), (6, .int (nI nx9)), (5, .int (nI i2)), (4, .int b4), (0, .ref h), (1, .int (nI n)), (2, .int v2)]) hx hb dX3_followLeast_148 rfl hl (by decide) rfl (fun ls hl => ?_)
        refine lv_iload hx hb dX3_followLeast_149 (lv_at hl 1 rfl) ?_
        refine lv_istore (lv' := [(4, .int (kd nx9)), (3, .int (s3 - (sd ((kd nx9) : Int32).toNatClampNeg))), (7, .int (kd nx9)), (6, .int (nI nx9)), (5, .int (nI i2)), (0, .ref h), (1, .int (nI n)), (2, .int v2)]) hx hb dX3_followLeast_151 hl (by decide) rfl (fun ls hl => ?_)
        refine lv_iinc (v := (nI (i2 + 1))) (lv' := [(5, .int (nI (i2 + 1))), (4, .int (kd nx9)), (3, .int (s3 - (sd ((kd nx9) : Int32).toNatClampNeg))), (7, .int (kd nx9)), (6, .int (nI nx9)), (0, .ref h), (1, .int (nI n)), (2, .int v2)]) hx hb dX3_followLeast_153 hl (k := 4) rfl (nI_add (i2) 1) (by decide) rfl (fun ls hl => ?_)
        refine lv_goto (tgt := 46) hx hb dX3_followLeast_156 (by decide) ?_
        exact ih46 (i2 + 1, (s3 - (sd ((kd nx9) : Int32).toNatClampNeg)), (kd nx9), (om1 + (ws (((b4 * 6) + (kd nx9)) : Int32).toNatClampNeg)), (upd od1 i2 (qd nx9)), (upd us1 nx9 1), (upd wt1 ((kd nx9) : Int32).toNatClampNeg ((wt1 ((kd nx9) : Int32).toNatClampNeg) - 1))) _ _ _ (by omega) ⟨⟨by first | omega | (dsimp only; omega), sd_st (by first | omega | (dsimp only; omega)) hs3 (hsd _ (cl6 (hq.2 nx9 hnx))), Or.inr (hq.2 nx9 hnx)⟩, hP, hD, hS, lv_sub hl [0, 1, 2, 5, 6, 7] rfl⟩
      · refine lv_iconst (v := 0) hx hb dX3_followLeast_85 (by decide) ?_
        refine lv_goto (tgt := 102) hx hb dX3_followLeast_86 (by decide) ?_
        refine lv_iadd hx hb dX3_followLeast_102 ?_
        refine lv_topi (fun y_ e_ => ?_)
        obtain rfl : om1 = y_ := (e_.trans (Int32.add_zero _)).symm
        refine va_put (D := (dC, dI)) (ci := 3) (v := .int om1) (ty := .int) (C := RX3) (T := TX3) (N := 13) hx hb hts inX3 tyX3 tyX3_ok nmX3 hown hK hP hD hS 0 rfl rfl 5 (by decide) (hts _ mw_111) (fun _ h9 => h9) rfl (by decide +kernel) rfl rfl (Nat.le_of_ble_eq_true rfl) dX3_followLeast_103 (fun H locs hP hD hS => ?_)
        have hP : va_P (dC, dI) vwCl [(h, .inr (3, [.ref g0, .ref g1, .ref g2, .int (nI qm), .ref g4, .int om1, .int kn, .int kl, .ref g8, .ref g9, .ref g10, .ref g11, .ref lq])), (g0, .inl (ca 0, 36, .inl ws)), (g1, .inl (ca 0, 10, .inl qd)), (g2, .inl (ca 0, 10, .inl kd)), (g4, .inl (ca 0, 10, .inl od1)), (g8, .inl (ca 1, 10, .inl us1)), (g9, .inl (ca 0, 6, .inl ct)), (g10, .inl (ca 0, 6, .inl sd)), (g11, .inl (ca 0, 6, .inl wt1)), (lq, .inl (ca 0, 1944, .inl LE))] H := hP
        have hD : va_D A [(h, .inr (3, [.ref g0, .ref g1, .ref g2, .int (nI qm), .ref g4, .int om1, .int kn, .int kl, .ref g8, .ref g9, .ref g10, .ref g11, .ref lq])), (g0, .inl (ca 0, 36, .inl ws)), (g1, .inl (ca 0, 10, .inl qd)), (g2, .inl (ca 0, 10, .inl kd)), (g4, .inl (ca 0, 10, .inl od1)), (g8, .inl (ca 1, 10, .inl us1)), (g9, .inl (ca 0, 6, .inl ct)), (g10, .inl (ca 0, 6, .inl sd)), (g11, .inl (ca 0, 6, .inl wt1)), (lq, .inl (ca 0, 1944, .inl LE))] := hD
        refine lv_aload_n hx hb dX3_followLeast_106 rfl (lv_at hl 5 rfl) ?_
        refine va_get (D := (dC, dI)) (ci := 3) (v := .ref g4) (C := RX3) (T := TX3) (N := 13) hx hb hts inX3 hown hK hP 0 rfl rfl 4 (by decide) (hts _ mw_109) (fun _ h9 => h9) rfl dX3_followLeast_107 ?_
        refine lv_iload hx hb dX3_followLeast_110 (lv_at hl 2 rfl) ?_
        refine lv_aload_n hx hb dX3_followLeast_112 rfl (lv_at hl 5 rfl) ?_
        refine va_get (D := (dC, dI)) (ci := 3) (v := .ref g1) (C := RX3) (T := TX3) (N := 13) hx hb hts inX3 hown hK hP 0 rfl rfl 1 (by decide) (hts _ mw_105) (fun _ h9 => h9) rfl dX3_followLeast_113 ?_
        refine lv_iload hx hb dX3_followLeast_116 (lv_at hl 1 rfl) ?_
        refine va_iald hx hb hK hP 2 0 rfl rfl (vp_in_nI (show nx9 < 10 by omega) (by first | decide | omega)) dX3_followLeast_118 ?_
        refine lv_topi (fun y_ e_ => ?_)
        obtain rfl : y_ = (qd nx9) := e_.trans (congrArg qd (show ((nI nx9) : Int32).toNatClampNeg = nx9 from nI_clamp (by omega)))
        refine va_iast hx hb hK hP hD hS 4 0 rfl rfl (vp_in_nI (show i2 < 10 by omega) (by first | decide | omega)) dX3_followLeast_119 (fun H locs hP hD hS => ?_)
        rw [(show ((nI i2) : Int32).toNatClampNeg = i2 from nI_clamp (by omega))] at hP hD
        have hP : va_P (dC, dI) vwCl [(h, .inr (3, [.ref g0, .ref g1, .ref g2, .int (nI qm), .ref g4, .int om1, .int kn, .int kl, .ref g8, .ref g9, .ref g10, .ref g11, .ref lq])), (g0, .inl (ca 0, 36, .inl ws)), (g1, .inl (ca 0, 10, .inl qd)), (g2, .inl (ca 0, 10, .inl kd)), (g4, .inl (ca 0, 10, .inl (upd od1 i2 (qd nx9)))), (g8, .inl (ca 1, 10, .inl us1)), (g9, .inl (ca 0, 6, .inl ct)), (g10, .inl (ca 0, 6, .inl sd)), (g11, .inl (ca 0, 6, .inl wt1)), (lq, .inl (ca 0, 1944, .inl LE))] H := hP
        have hD : va_D A [(h, .inr (3, [.ref g0, .ref g1, .ref g2, .int (nI qm), .ref g4, .int om1, .int kn, .int kl, .ref g8, .ref g9, .ref g10, .ref g11, .ref lq])), (g0, .inl (ca 0, 36, .inl ws)), (g1, .inl (ca 0, 10, .inl qd)), (g2, .inl (ca 0, 10, .inl kd)), (g4, .inl (ca 0, 10, .inl (upd od1 i2 (qd nx9)))), (g8, .inl (ca 1, 10, .inl us1)), (g9, .inl (ca 0, 6, .inl ct)), (g10, .inl (ca 0, 6, .inl sd)), (g11, .inl (ca 0, 6, .inl wt1)), (lq, .inl (ca 0, 1944, .inl LE))] := hD
        refine lv_aload_n hx hb dX3_followLeast_120 rfl (lv_at hl 5 rfl) ?_
        refine va_get (D := (dC, dI)) (ci := 3) (v := .ref g8) (C := RX3) (T := TX3) (N := 13) hx hb hts inX3 hown hK hP 0 rfl rfl 8 (by decide) (hts _ mw_115) (fun _ h9 => h9) rfl dX3_followLeast_121 ?_
        refine lv_iload hx hb dX3_followLeast_124 (lv_at hl 1 rfl) ?_
        refine lv_iconst (v := 1) hx hb dX3_followLeast_126 (by decide) ?_
        refine va_zast hx hb hK hP hD hS 5 1 rfl rfl (vp_in_nI (show nx9 < 10 by omega) (by first | decide | omega)) dX3_followLeast_127 (fun H locs hP hD hS => ?_)
        rw [(show ((nI nx9) : Int32).toNatClampNeg = nx9 from nI_clamp (by omega))] at hP hD
        have hP : va_P (dC, dI) vwCl [(h, .inr (3, [.ref g0, .ref g1, .ref g2, .int (nI qm), .ref g4, .int om1, .int kn, .int kl, .ref g8, .ref g9, .ref g10, .ref g11, .ref lq])), (g0, .inl (ca 0, 36, .inl ws)), (g1, .inl (ca 0, 10, .inl qd)), (g2, .inl (ca 0, 10, .inl kd)), (g4, .inl (ca 0, 10, .inl (upd od1 i2 (qd nx9)))), (g8, .inl (ca 1, 10, .inl (upd us1 nx9 1))), (g9, .inl (ca 0, 6, .inl ct)), (g10, .inl (ca 0, 6, .inl sd)), (g11, .inl (ca 0, 6, .inl wt1)), (lq, .inl (ca 0, 1944, .inl LE))] H := hP
        have hD : va_D A [(h, .inr (3, [.ref g0, .ref g1, .ref g2, .int (nI qm), .ref g4, .int om1, .int kn, .int kl, .ref g8, .ref g9, .ref g10, .ref g11, .ref lq])), (g0, .inl (ca 0, 36, .inl ws)), (g1, .inl (ca 0, 10, .inl qd)), (g2, .inl (ca 0, 10, .inl kd)), (g4, .inl (ca 0, 10, .inl (upd od1 i2 (qd nx9)))), (g8, .inl (ca 1, 10, .inl (upd us1 nx9 1))), (g9, .inl (ca 0, 6, .inl ct)), (g10, .inl (ca 0, 6, .inl sd)), (g11, .inl (ca 0, 6, .inl wt1)), (lq, .inl (ca 0, 1944, .inl LE))] := hD
        refine lv_aload_n hx hb dX3_followLeast_128 rfl (lv_at hl 5 rfl) ?_
        refine va_get (D := (dC, dI)) (ci := 3) (v := .ref g11) (C := RX3) (T := TX3) (N := 13) hx hb hts inX3 hown hK hP 0 rfl rfl 11 (by decide) (hts _ mw_118) (fun _ h9 => h9) rfl dX3_followLeast_129 ?_
        refine lv_iload hx hb dX3_followLeast_132 (lv_at hl 0 rfl) ?_
        refine lv_dup2_11 hx hb dX3_followLeast_134 rfl rfl ?_
        refine va_iald hx hb hK hP 8 0 rfl rfl (cnt_vp (hq.2 nx9 hnx) (by decide) (by decide)) dX3_followLeast_135 ?_
        refine lv_iconst (v := 1) hx hb dX3_followLeast_136 (by decide) ?_
        refine lv_isub hx hb dX3_followLeast_137 ?_
        refine va_iast hx hb hK hP hD hS 8 0 rfl rfl (cnt_vp (hq.2 nx9 hnx) (by decide) (by decide)) dX3_followLeast_138 (fun H locs hP hD hS => ?_)
        have hP : va_P (dC, dI) vwCl [(h, .inr (3, [.ref g0, .ref g1, .ref g2, .int (nI qm), .ref g4, .int om1, .int kn, .int kl, .ref g8, .ref g9, .ref g10, .ref g11, .ref lq])), (g0, .inl (ca 0, 36, .inl ws)), (g1, .inl (ca 0, 10, .inl qd)), (g2, .inl (ca 0, 10, .inl kd)), (g4, .inl (ca 0, 10, .inl (upd od1 i2 (qd nx9)))), (g8, .inl (ca 1, 10, .inl (upd us1 nx9 1))), (g9, .inl (ca 0, 6, .inl ct)), (g10, .inl (ca 0, 6, .inl sd)), (g11, .inl (ca 0, 6, .inl (upd wt1 ((kd nx9) : Int32).toNatClampNeg ((wt1 ((kd nx9) : Int32).toNatClampNeg) - 1)))), (lq, .inl (ca 0, 1944, .inl LE))] H := hP
        have hD : va_D A [(h, .inr (3, [.ref g0, .ref g1, .ref g2, .int (nI qm), .ref g4, .int om1, .int kn, .int kl, .ref g8, .ref g9, .ref g10, .ref g11, .ref lq])), (g0, .inl (ca 0, 36, .inl ws)), (g1, .inl (ca 0, 10, .inl qd)), (g2, .inl (ca 0, 10, .inl kd)), (g4, .inl (ca 0, 10, .inl (upd od1 i2 (qd nx9)))), (g8, .inl (ca 1, 10, .inl (upd us1 nx9 1))), (g9, .inl (ca 0, 6, .inl ct)), (g10, .inl (ca 0, 6, .inl sd)), (g11, .inl (ca 0, 6, .inl (upd wt1 ((kd nx9) : Int32).toNatClampNeg ((wt1 ((kd nx9) : Int32).toNatClampNeg) - 1)))), (lq, .inl (ca 0, 1944, .inl LE))] := hD
        refine lv_iload_n hx hb dX3_followLeast_139 rfl (lv_at hl 4 rfl) ?_
        refine lv_aload_n hx hb dX3_followLeast_140 rfl (lv_at hl 5 rfl) ?_
        refine va_get (D := (dC, dI)) (ci := 3) (v := .ref g10) (C := RX3) (T := TX3) (N := 13) hx hb hts inX3 hown hK hP 0 rfl rfl 10 (by decide) (hts _ mw_117) (fun _ h9 => h9) rfl dX3_followLeast_141 ?_
        refine lv_iload hx hb dX3_followLeast_144 (lv_at hl 0 rfl) ?_
        refine va_iald hx hb hK hP 7 0 rfl rfl (cnt_vp (hq.2 nx9 hnx) (by decide) (by decide)) dX3_followLeast_146 ?_
        refine lv_isub hx hb dX3_followLeast_147 ?_
        refine lv_istore_n (lv' := [(3, .int (s3 - (sd ((kd nx9) : Int32).toNatClampNeg))), (7, .int (kd nx9)), (6, .int (nI nx9)), (5, .int (nI i2)), (4, .int b4), (0, .ref h), (1, .int (nI n)), (2, .int v2)]) hx hb dX3_followLeast_148 rfl hl (by decide) rfl (fun ls hl => ?_)
        refine lv_iload hx hb dX3_followLeast_149 (lv_at hl 1 rfl) ?_
        refine lv_istore (lv' := [(4, .int (kd nx9)), (3, .int (s3 - (sd ((kd nx9) : Int32).toNatClampNeg))), (7, .int (kd nx9)), (6, .int (nI nx9)), (5, .int (nI i2)), (0, .ref h), (1, .int (nI n)), (2, .int v2)]) hx hb dX3_followLeast_151 hl (by decide) rfl (fun ls hl => ?_)
        refine lv_iinc (v := (nI (i2 + 1))) (lv' := [(5, .int (nI (i2 + 1))), (4, .int (kd nx9)), (3, .int (s3 - (sd ((kd nx9) : Int32).toNatClampNeg))), (7, .int (kd nx9)), (6, .int (nI nx9)), (0, .ref h), (1, .int (nI n)), (2, .int v2)]) hx hb dX3_followLeast_153 hl (k := 4) rfl (nI_add (i2) 1) (by decide) rfl (fun ls hl => ?_)
        refine lv_goto (tgt := 46) hx hb dX3_followLeast_156 (by decide) ?_
        exact ih46 (i2 + 1, (s3 - (sd ((kd nx9) : Int32).toNatClampNeg)), (kd nx9), om1, (upd od1 i2 (qd nx9)), (upd us1 nx9 1), (upd wt1 ((kd nx9) : Int32).toNatClampNeg ((wt1 ((kd nx9) : Int32).toNatClampNeg) - 1))) _ _ _ (by omega) ⟨⟨by first | omega | (dsimp only; omega), sd_st (by first | omega | (dsimp only; omega)) hs3 (hsd _ (cl6 (hq.2 nx9 hnx))), Or.inr (hq.2 nx9 hnx)⟩, hP, hD, hS, lv_sub hl [0, 1, 2, 5, 6, 7] rfl⟩
  · have nc_1 : ¬ (qm ≤ i) := fun h9 => c_1 ((nI_leI (a := qm) (b := i) (by omega) (by omega)).mpr h9)
    refine lv_aload_n hx hb dX3_followLeast_25 rfl (lv_at hl 1 rfl) ?_
    refine va_get (D := (dC, dI)) (ci := 3) (v := .ref g8) (C := RX3) (T := TX3) (N := 13) hx hb hts inX3 hown hK hP 0 rfl rfl 8 (by decide) (hts _ mw_115) (fun _ h9 => h9) rfl dX3_followLeast_26 ?_
    refine lv_iload_n hx hb dX3_followLeast_29 rfl (lv_at hl 0 rfl) ?_
    refine lv_iconst (v := 0) hx hb dX3_followLeast_30 (by decide) ?_
    refine va_zast hx hb hK hP hD hS 5 1 rfl rfl (vp_in_nI (show i < 10 by omega) (by first | decide | omega)) dX3_followLeast_31 (fun H locs hP hD hS => ?_)
    rw [(show ((nI i) : Int32).toNatClampNeg = i from nI_clamp (by omega))] at hP hD
    have hP : va_P (dC, dI) vwCl [(h, .inr (3, [.ref g0, .ref g1, .ref g2, .int (nI qm), .ref g4, .int om, .int kn, .int kl, .ref g8, .ref g9, .ref g10, .ref g11, .ref lq])), (g0, .inl (ca 0, 36, .inl ws)), (g1, .inl (ca 0, 10, .inl qd)), (g2, .inl (ca 0, 10, .inl kd)), (g4, .inl (ca 0, 10, .inl od)), (g8, .inl (ca 1, 10, .inl (upd u1_ i 0))), (g9, .inl (ca 0, 6, .inl ct)), (g10, .inl (ca 0, 6, .inl sd)), (g11, .inl (ca 0, 6, .inl (va_cpy ct wt (0 : Int32).toNatClampNeg (0 : Int32).toNatClampNeg (6 : Int32).toNatClampNeg))), (lq, .inl (ca 0, 1944, .inl LE))] H := hP
    have hD : va_D A [(h, .inr (3, [.ref g0, .ref g1, .ref g2, .int (nI qm), .ref g4, .int om, .int kn, .int kl, .ref g8, .ref g9, .ref g10, .ref g11, .ref lq])), (g0, .inl (ca 0, 36, .inl ws)), (g1, .inl (ca 0, 10, .inl qd)), (g2, .inl (ca 0, 10, .inl kd)), (g4, .inl (ca 0, 10, .inl od)), (g8, .inl (ca 1, 10, .inl (upd u1_ i 0))), (g9, .inl (ca 0, 6, .inl ct)), (g10, .inl (ca 0, 6, .inl sd)), (g11, .inl (ca 0, 6, .inl (va_cpy ct wt (0 : Int32).toNatClampNeg (0 : Int32).toNatClampNeg (6 : Int32).toNatClampNeg))), (lq, .inl (ca 0, 1944, .inl LE))] := hD
    refine lv_iinc (v := (nI (i + 1))) (lv' := [(3, .int (nI (i + 1))), (0, .ref h), (1, .int (nI n)), (2, .int v2)]) hx hb dX3_followLeast_32 hl (k := 0) rfl (nI_add (i) 1) (by decide) rfl (fun ls hl => ?_)
    refine lv_goto (tgt := 17) hx hb dX3_followLeast_35 (by decide) ?_
    exact ih (i + 1, (upd u1_ i 0)) _ _ _ (by omega) ⟨(by omega), hP, hD, hS, lv_sub hl [0, 1, 2, 3] rfl⟩

set_option maxHeartbeats 4000000 in
set_option maxRecDepth 100000 in
theorem e_findOrder (l : Launch) (dC : Nat → ClassId) (dI : Nat → Nat → Nat) (ca : Nat → ClassId) (sz : Nat) (h : Nat) (g0 : Nat) (g1 : Nat) (g2 : Nat) (g4 : Nat) (g8 : Nat) (g9 : Nat) (g10 : Nat) (g11 : Nat) (qm : Nat) (om : Int32) (kn : Int32) (kl : Int32) (lst : Option Nat) (ws : Nat → Int32) (qd : Nat → Int32) (kd : Nat → Int32) (od : Nat → Int32) (us : Nat → Int32) (ct : Nat → Int32) (sd : Nat → Int32) (wt : Nat → Int32) (LE : Nat → Int32) (v1 : Int32) (tl : va_W) (hq : qI qm kd) (hz : v1 = 0 ∨ v1 = 1) : Met l yX3_findOrder (Cond.code yX3_findOrder cX3_findOrder 3 none :: gT) ({ frames := 5, cells := (oM lst), slots := (1944 * oM lst), locals := 157 }) (va_Pc [.ref h, .int v1] (pr (dC, dI) sz (@HAppend.hAppend va_W va_W va_W _ [(h, .inr (3, [.ref g0, .ref g1, .ref g2, .int (nI qm), .ref g4, .int om, .int kn, .int kl, .ref g8, .ref g9, .ref g10, .ref g11, va_rf lst])), (g0, .inl (ca 0, 36, .inl ws)), (g1, .inl (ca 0, 10, .inl qd)), (g2, .inl (ca 0, 10, .inl kd)), (g4, .inl (ca 0, 10, .inl od)), (g8, .inl (ca 1, 10, .inl us)), (g9, .inl (ca 0, 6, .inl ct)), (g10, .inl (ca 0, 6, .inl sd)), (g11, .inl (ca 0, 6, .inl wt))] (@HAppend.hAppend va_W va_W va_W _ (oL ca lst LE) tl)) (aT ca))) (va_Qv (fun (u_ : Int32 × Int32 × Int32 × Option Nat × (Nat → Int32) × (Nat → Int32) × (Nat → Int32) × (Nat → Int32) × (Nat → Int32) × (Nat → Int32)) => True) (fun (u_ : Int32 × Int32 × Int32 × Option Nat × (Nat → Int32) × (Nat → Int32) × (Nat → Int32) × (Nat → Int32) × (Nat → Int32) × (Nat → Int32)) t => va_P (dC, dI) vwCl (@HAppend.hAppend va_W va_W va_W _ [(h, .inr (3, [.ref g0, .ref g1, .ref g2, .int (nI qm), .ref g4, .int u_.1, .int u_.2.1, .int u_.2.2.1, .ref g8, .ref g9, .ref g10, .ref g11, va_rf u_.2.2.2.1])), (g0, .inl (ca 0, 36, .inl ws)), (g1, .inl (ca 0, 10, .inl qd)), (g2, .inl (ca 0, 10, .inl kd)), (g4, .inl (ca 0, 10, .inl u_.2.2.2.2.2.1)), (g8, .inl (ca 1, 10, .inl u_.2.2.2.2.2.2.1)), (g9, .inl (ca 0, 6, .inl u_.2.2.2.2.2.2.2.1)), (g10, .inl (ca 0, 6, .inl u_.2.2.2.2.2.2.2.2.1)), (g11, .inl (ca 0, 6, .inl u_.2.2.2.2.2.2.2.2.2))] (@HAppend.hAppend va_W va_W va_W _ (oL ca u_.2.2.2.1 u_.2.2.2.2.1) tl)) t.heap ∧ va_D (va_A (@HAppend.hAppend va_W va_W va_W _ [(h, .inr (3, [.ref g0, .ref g1, .ref g2, .int (nI qm), .ref g4, .int om, .int kn, .int kl, .ref g8, .ref g9, .ref g10, .ref g11, va_rf lst])), (g0, .inl (ca 0, 36, .inl ws)), (g1, .inl (ca 0, 10, .inl qd)), (g2, .inl (ca 0, 10, .inl kd)), (g4, .inl (ca 0, 10, .inl od)), (g8, .inl (ca 1, 10, .inl us)), (g9, .inl (ca 0, 6, .inl ct)), (g10, .inl (ca 0, 6, .inl sd)), (g11, .inl (ca 0, 6, .inl wt))] (@HAppend.hAppend va_W va_W va_W _ (oL ca lst LE) tl)) sz) (@HAppend.hAppend va_W va_W va_W _ [(h, .inr (3, [.ref g0, .ref g1, .ref g2, .int (nI qm), .ref g4, .int u_.1, .int u_.2.1, .int u_.2.2.1, .ref g8, .ref g9, .ref g10, .ref g11, va_rf u_.2.2.2.1])), (g0, .inl (ca 0, 36, .inl ws)), (g1, .inl (ca 0, 10, .inl qd)), (g2, .inl (ca 0, 10, .inl kd)), (g4, .inl (ca 0, 10, .inl u_.2.2.2.2.2.1)), (g8, .inl (ca 1, 10, .inl u_.2.2.2.2.2.2.1)), (g9, .inl (ca 0, 6, .inl u_.2.2.2.2.2.2.2.1)), (g10, .inl (ca 0, 6, .inl u_.2.2.2.2.2.2.2.2.1)), (g11, .inl (ca 0, 6, .inl u_.2.2.2.2.2.2.2.2.2))] (@HAppend.hAppend va_W va_W va_W _ (oL ca u_.2.2.2.1 u_.2.2.2.2.1) tl))) (va_A (@HAppend.hAppend va_W va_W va_W _ [(h, .inr (3, [.ref g0, .ref g1, .ref g2, .int (nI qm), .ref g4, .int om, .int kn, .int kl, .ref g8, .ref g9, .ref g10, .ref g11, va_rf lst])), (g0, .inl (ca 0, 36, .inl ws)), (g1, .inl (ca 0, 10, .inl qd)), (g2, .inl (ca 0, 10, .inl kd)), (g4, .inl (ca 0, 10, .inl od)), (g8, .inl (ca 1, 10, .inl us)), (g9, .inl (ca 0, 6, .inl ct)), (g10, .inl (ca 0, 6, .inl sd)), (g11, .inl (ca 0, 6, .inl wt))] (@HAppend.hAppend va_W va_W va_W _ (oL ca lst LE) tl)) sz)) (oM lst) (1944 * oM lst) (va_A (@HAppend.hAppend va_W va_W va_W _ [(h, .inr (3, [.ref g0, .ref g1, .ref g2, .int (nI qm), .ref g4, .int om, .int kn, .int kl, .ref g8, .ref g9, .ref g10, .ref g11, va_rf lst])), (g0, .inl (ca 0, 36, .inl ws)), (g1, .inl (ca 0, 10, .inl qd)), (g2, .inl (ca 0, 10, .inl kd)), (g4, .inl (ca 0, 10, .inl od)), (g8, .inl (ca 1, 10, .inl us)), (g9, .inl (ca 0, 6, .inl ct)), (g10, .inl (ca 0, 6, .inl sd)), (g11, .inl (ca 0, 6, .inl wt))] (@HAppend.hAppend va_W va_W va_W _ (oL ca lst LE) tl)) sz) := by
  refine Met.ofW (cc := cX3_findOrder) (maxL := 3) (ret := none) (by decide) rfl ?_
  intro p e s m args below meth c s₁ B hml hv
  obtain ⟨rfl, hsz, hP, hK, hD0, hE⟩ := hv
  have hx := B.exec
  have hb := B.bytes
  have hr := B.returns
  have hts : ∀ w ∈ gT, w.before _ s = true := fun w h => atoms_spec (ws := Cond.code yX3_findOrder cX3_findOrder 3 none :: gT) B.pre w (List.mem_cons_of_mem _ h)
  have hown : s.vm.findClass RX3 = some m.cls := findClass_of_methodNamed B.named
  have hlocks := B.notSynchronized
  subst hsz
  have hD := hD0.self (sz := s.heap.size)
  generalize hAe : va_A ([(h, .inr (3, [.ref g0, .ref g1, .ref g2, .int (nI qm), .ref g4, .int om, .int kn, .int kl, .ref g8, .ref g9, .ref g10, .ref g11, va_rf lst])), (g0, .inl (ca 0, 36, .inl ws)), (g1, .inl (ca 0, 10, .inl qd)), (g2, .inl (ca 0, 10, .inl kd)), (g4, .inl (ca 0, 10, .inl od)), (g8, .inl (ca 1, 10, .inl us)), (g9, .inl (ca 0, 6, .inl ct)), (g10, .inl (ca 0, 6, .inl sd)), (g11, .inl (ca 0, 6, .inl wt))] ++ (oL ca lst LE ++ tl)) s.heap.size = A at hD ⊢
  have hA : ∀ q : Nat, s.heap.size ≤ q → A q := fun q h => by rw [← hAe]; exact Or.inr h
  have hS : va_S A s.heap s.heap [] := va_S.rf
  have hl := lv_entry ([.ref h, .int v1]) (n := 3) (Nat.le_of_ble_eq_true rfl)
  rw [lg_entry_eq]
  generalize (lg_sl ([.ref h, .int v1]) ++ List.replicate (3 - (lg_sl ([.ref h, .int v1])).length) Slot.unset).toArray = ls at hl ⊢
  have hl : lv_has ls 3 [(0, .ref h), (1, .int v1)] := hl
  have hq0 := hq.1
  refine lv_aload_n hx hb dX3_findOrder_0 rfl (lv_at hl 0 rfl) ?_
  refine va_get (D := (dC, dI)) (ci := 3) (v := .int kn) (C := RX3) (T := TX3) (N := 13) hx hb hts inX3 hown hK hP 0 rfl rfl 6 (by decide) (hts _ mw_113) (fun _ h9 => h9) rfl dX3_findOrder_1 ?_
  refine lv_if_eq (tgt := 16) hx hb dX3_findOrder_4 (by decide) (fun c_1 => ?_) (fun c_1 => ?_)
  · refine lv_aload_n hx hb dX3_findOrder_16 rfl (lv_at hl 0 rfl) ?_
    refine lv_iconst (v := 0) hx hb dX3_findOrder_17 (by decide) ?_
    refine va_put (D := (dC, dI)) (ci := 3) (v := .int 0) (ty := .int) (C := RX3) (T := TX3) (N := 13) hx hb hts inX3 tyX3 tyX3_ok nmX3 hown hK hP hD hS 0 rfl rfl 5 (by decide) (hts _ mw_111) (fun _ h9 => h9) rfl (by decide +kernel) rfl rfl (Nat.le_of_ble_eq_true rfl) dX3_findOrder_18 (fun H locs hP hD hS => ?_)
    have hP : va_P (dC, dI) vwCl ([(h, .inr (3, [.ref g0, .ref g1, .ref g2, .int (nI qm), .ref g4, .int 0, .int kn, .int kl, .ref g8, .ref g9, .ref g10, .ref g11, va_rf lst])), (g0, .inl (ca 0, 36, .inl ws)), (g1, .inl (ca 0, 10, .inl qd)), (g2, .inl (ca 0, 10, .inl kd)), (g4, .inl (ca 0, 10, .inl od)), (g8, .inl (ca 1, 10, .inl us)), (g9, .inl (ca 0, 6, .inl ct)), (g10, .inl (ca 0, 6, .inl sd)), (g11, .inl (ca 0, 6, .inl wt))] ++ (oL ca lst LE ++ tl)) H := hP
    have hD : va_D A ([(h, .inr (3, [.ref g0, .ref g1, .ref g2, .int (nI qm), .ref g4, .int 0, .int kn, .int kl, .ref g8, .ref g9, .ref g10, .ref g11, va_rf lst])), (g0, .inl (ca 0, 36, .inl ws)), (g1, .inl (ca 0, 10, .inl qd)), (g2, .inl (ca 0, 10, .inl kd)), (g4, .inl (ca 0, 10, .inl od)), (g8, .inl (ca 1, 10, .inl us)), (g9, .inl (ca 0, 6, .inl ct)), (g10, .inl (ca 0, 6, .inl sd)), (g11, .inl (ca 0, 6, .inl wt))] ++ (oL ca lst LE ++ tl)) := hD
    refine lv_aload_n hx hb dX3_findOrder_21 rfl (lv_at hl 0 rfl) ?_
    refine va_get (D := (dC, dI)) (ci := 3) (v := .int (nI qm)) (C := RX3) (T := TX3) (N := 13) hx hb hts inX3 hown hK hP 0 rfl rfl 3 (by decide) (hts _ mw_107) (fun _ h9 => h9) rfl dX3_findOrder_22 ?_
    refine lv_if_le (tgt := 47) hx hb dX3_findOrder_25 (by decide) (fun c_2 => ?_) (fun c_2 => ?_)
    · have nc_2 : qm ≤ 0 := (nI_leI (a := qm) (b := 0) (by omega) (by omega)).mp c_2
      refine lv_aload_n hx hb dX3_findOrder_47 rfl (lv_at hl 0 rfl) ?_
      refine lv_iconst (v := 1) hx hb dX3_findOrder_48 (by decide) ?_
      refine va_put (D := (dC, dI)) (ci := 3) (v := .int 1) (ty := .boolean) (C := RX3) (T := TX3) (N := 13) hx hb hts inX3 tyX3 tyX3_ok nmX3 hown hK hP hD hS 0 rfl rfl 6 (by decide) (hts _ mw_113) (fun _ h9 => h9) rfl (by decide +kernel) rfl rfl (Nat.le_of_ble_eq_true rfl) dX3_findOrder_49 (fun H locs hP hD hS => ?_)
      have hP : va_P (dC, dI) vwCl ([(h, .inr (3, [.ref g0, .ref g1, .ref g2, .int (nI qm), .ref g4, .int 0, .int 1, .int kl, .ref g8, .ref g9, .ref g10, .ref g11, va_rf lst])), (g0, .inl (ca 0, 36, .inl ws)), (g1, .inl (ca 0, 10, .inl qd)), (g2, .inl (ca 0, 10, .inl kd)), (g4, .inl (ca 0, 10, .inl od)), (g8, .inl (ca 1, 10, .inl us)), (g9, .inl (ca 0, 6, .inl ct)), (g10, .inl (ca 0, 6, .inl sd)), (g11, .inl (ca 0, 6, .inl wt))] ++ (oL ca lst LE ++ tl)) H := hP
      have hD : va_D A ([(h, .inr (3, [.ref g0, .ref g1, .ref g2, .int (nI qm), .ref g4, .int 0, .int 1, .int kl, .ref g8, .ref g9, .ref g10, .ref g11, va_rf lst])), (g0, .inl (ca 0, 36, .inl ws)), (g1, .inl (ca 0, 10, .inl qd)), (g2, .inl (ca 0, 10, .inl kd)), (g4, .inl (ca 0, 10, .inl od)), (g8, .inl (ca 1, 10, .inl us)), (g9, .inl (ca 0, 6, .inl ct)), (g10, .inl (ca 0, 6, .inl sd)), (g11, .inl (ca 0, 6, .inl wt))] ++ (oL ca lst LE ++ tl)) := hD
      refine lv_aload_n hx hb dX3_findOrder_52 rfl (lv_at hl 0 rfl) ?_
      refine lv_iload_n hx hb dX3_findOrder_53 rfl (lv_at hl 1 rfl) ?_
      refine va_put (D := (dC, dI)) (ci := 3) (v := .int v1) (ty := .boolean) (C := RX3) (T := TX3) (N := 13) hx hb hts inX3 tyX3 tyX3_ok nmX3 hown hK hP hD hS 0 rfl rfl 7 (by decide) (hts _ mw_114) (fun _ h9 => h9) rfl (by decide +kernel) (zb_n (by first | exact wi_z _ _ _ | assumption | exact Or.inl rfl | exact Or.inr rfl)) (zb_f (by first | exact wi_z _ _ _ | assumption | exact Or.inl rfl | exact Or.inr rfl)) (Nat.le_of_ble_eq_true rfl) dX3_findOrder_54 (fun H locs hP hD hS => ?_)
      have hP : va_P (dC, dI) vwCl ([(h, .inr (3, [.ref g0, .ref g1, .ref g2, .int (nI qm), .ref g4, .int 0, .int 1, .int v1, .ref g8, .ref g9, .ref g10, .ref g11, va_rf lst])), (g0, .inl (ca 0, 36, .inl ws)), (g1, .inl (ca 0, 10, .inl qd)), (g2, .inl (ca 0, 10, .inl kd)), (g4, .inl (ca 0, 10, .inl od)), (g8, .inl (ca 1, 10, .inl us)), (g9, .inl (ca 0, 6, .inl ct)), (g10, .inl (ca 0, 6, .inl sd)), (g11, .inl (ca 0, 6, .inl wt))] ++ (oL ca lst LE ++ tl)) H := hP
      have hD : va_D A ([(h, .inr (3, [.ref g0, .ref g1, .ref g2, .int (nI qm), .ref g4, .int 0, .int 1, .int v1, .ref g8, .ref g9, .ref g10, .ref g11, va_rf lst])), (g0, .inl (ca 0, 36, .inl ws)), (g1, .inl (ca 0, 10, .inl qd)), (g2, .inl (ca 0, 10, .inl kd)), (g4, .inl (ca 0, 10, .inl od)), (g8, .inl (ca 1, 10, .inl us)), (g9, .inl (ca 0, 6, .inl ct)), (g10, .inl (ca 0, 6, .inl sd)), (g11, .inl (ca 0, 6, .inl wt))] ++ (oL ca lst LE ++ tl)) := hD
      refine W.widen (k := (oM lst)) (n := (1944 * oM lst)) (by omega) (by omega) ?_
      have hP9 : va_P (dC, dI) vwCl (@HAppend.hAppend va_W va_W va_W _ [(h, .inr (3, [.ref g0, .ref g1, .ref g2, .int (nI qm), .ref g4, .int 0, .int 1, .int v1, .ref g8, .ref g9, .ref g10, .ref g11, va_rf lst])), (g0, .inl (ca 0, 36, .inl ws)), (g1, .inl (ca 0, 10, .inl qd)), (g2, .inl (ca 0, 10, .inl kd)), (g4, .inl (ca 0, 10, .inl od)), (g8, .inl (ca 1, 10, .inl us)), (g9, .inl (ca 0, 6, .inl ct)), (g10, .inl (ca 0, 6, .inl sd)), (g11, .inl (ca 0, 6, .inl wt))] (@HAppend.hAppend va_W va_W va_W _ (oL ca lst LE) tl)) H := va_P.part (X := [(h, .inr (3, [.ref g0, .ref g1, .ref g2, .int (nI qm), .ref g4, .int 0, .int 1, .int v1, .ref g8, .ref g9, .ref g10, .ref g11, va_rf lst])), (g0, .inl (ca 0, 36, .inl ws)), (g1, .inl (ca 0, 10, .inl qd)), (g2, .inl (ca 0, 10, .inl kd)), (g4, .inl (ca 0, 10, .inl od)), (g8, .inl (ca 1, 10, .inl us)), (g9, .inl (ca 0, 6, .inl ct)), (g10, .inl (ca 0, 6, .inl sd)), (g11, .inl (ca 0, 6, .inl wt))]) hP [0, 1, 2, 3, 4, 5, 6, 7, 8] rfl
      have hD9 : va_D A (@HAppend.hAppend va_W va_W va_W _ [(h, .inr (3, [.ref g0, .ref g1, .ref g2, .int (nI qm), .ref g4, .int 0, .int 1, .int v1, .ref g8, .ref g9, .ref g10, .ref g11, va_rf lst])), (g0, .inl (ca 0, 36, .inl ws)), (g1, .inl (ca 0, 10, .inl qd)), (g2, .inl (ca 0, 10, .inl kd)), (g4, .inl (ca 0, 10, .inl od)), (g8, .inl (ca 1, 10, .inl us)), (g9, .inl (ca 0, 6, .inl ct)), (g10, .inl (ca 0, 6, .inl sd)), (g11, .inl (ca 0, 6, .inl wt))] (@HAppend.hAppend va_W va_W va_W _ (oL ca lst LE) tl)) := va_D.part (X := [(h, .inr (3, [.ref g0, .ref g1, .ref g2, .int (nI qm), .ref g4, .int 0, .int 1, .int v1, .ref g8, .ref g9, .ref g10, .ref g11, va_rf lst])), (g0, .inl (ca 0, 36, .inl ws)), (g1, .inl (ca 0, 10, .inl qd)), (g2, .inl (ca 0, 10, .inl kd)), (g4, .inl (ca 0, 10, .inl od)), (g8, .inl (ca 1, 10, .inl us)), (g9, .inl (ca 0, 6, .inl ct)), (g10, .inl (ca 0, 6, .inl sd)), (g11, .inl (ca 0, 6, .inl wt))]) hD [0, 1, 2, 3, 4, 5, 6, 7, 8] (by decide) rfl
      exact W.vret hx hb hr (fun t ht hW => ⟨⟨(0, 1, v1, lst, LE, od, us, ct, sd, wt), rfl, trivial, by rw [ht]; exact hP9, hD9⟩, hS.F ht⟩) hS.2.2 dX3_findOrder_57
    · have nc_2 : ¬ (qm ≤ 0) := fun h9 => c_2 ((nI_leI (a := qm) (b := 0) (by omega) (by omega)).mpr h9)
      refine lv_aload_n hx hb dX3_findOrder_28 rfl (lv_at hl 0 rfl) ?_
      have hPc := hP.sub (ws' := [(h, .inr (3, [.ref g0, .ref g1, .ref g2, .int (nI qm), .ref g4, .int 0, .int kn, .int kl, .ref g8, .ref g9, .ref g10, .ref g11, va_rf lst])), (g2, .inl (ca 0, 10, .inl kd)), (g9, .inl (ca 0, 6, .inl ct)), (g10, .inl (ca 0, 6, .inl sd))]) [0, 3, 6, 7] rfl
      have hDc := hD.sub (ws' := [(h, .inr (3, [.ref g0, .ref g1, .ref g2, .int (nI qm), .ref g4, .int 0, .int kn, .int kl, .ref g8, .ref g9, .ref g10, .ref g11, va_rf lst])), (g2, .inl (ca 0, 10, .inl kd)), (g9, .inl (ca 0, 6, .inl ct)), (g10, .inl (ca 0, 6, .inl sd))]) [0, 3, 6, 7] (by decide) rfl
      have hFc := va_free (wc := [(h, .inr (3, [.ref g0, .ref g1, .ref g2, .int (nI qm), .ref g4, .int 0, .int kn, .int kl, .ref g8, .ref g9, .ref g10, .ref g11, va_rf lst])), (g2, .inl (ca 0, 10, .inl kd)), (g9, .inl (ca 0, 6, .inl ct)), (g10, .inl (ca 0, 6, .inl sd))]) hD hS hA [0, 3, 6, 7] rfl
      refine va_calli (va_runV (As := []) (rest := []) ⟨hx, hb, hml, hown, hts⟩ (e_countKinds l dC dI ca H.size h g0 g1 g2 g4 g8 g9 g10 g11 qm 0 kn kl lst kd ct sd (by first | assumption | omega | exact ⟨_, by omega, rfl⟩)) (⟨callB_of 0 hts (gd mw_816) rfl rfl rfl (hts _ mw_5) (hts _ mw_813) ds_X3_countKinds ⟨Nat.le_of_ble_eq_true rfl, Nat.le_of_ble_eq_true rfl⟩, (hts _ mw_815), (hts _ mp_28)⟩) (pr_V hPc hK hDc hE (va_recv hK hPc (ci := 3) (q0 := 0) rfl rfl)) rfl rfl hl.1 rfl (lv_room (Nat.le_of_ble_eq_true rfl)) dX3_findOrder_29 ⟨Nat.le_of_ble_eq_true rfl, Nat.le_of_ble_eq_true rfl⟩) hS (fun q _ h => hFc q h) hFc (fun rv_3 u_ t_ H1 locs ht hvm hw_ hB hz1 hk1 hS => ?_)
      obtain ⟨ct2_3, sd2_3⟩ := u_
      have hw_3 := hw_
      obtain ⟨hP1, hD1⟩ := hB
      rw [ht] at hP1
      obtain ⟨hP, hD⟩ := va_joinQ (X := [(h, .inr (3, [.ref g0, .ref g1, .ref g2, .int (nI qm), .ref g4, .int 0, .int kn, .int kl, .ref g8, .ref g9, .ref g10, .ref g11, va_rf lst])), (g0, .inl (ca 0, 36, .inl ws)), (g1, .inl (ca 0, 10, .inl qd)), (g2, .inl (ca 0, 10, .inl kd)), (g4, .inl (ca 0, 10, .inl od)), (g8, .inl (ca 1, 10, .inl us)), (g9, .inl (ca 0, 6, .inl ct)), (g10, .inl (ca 0, 6, .inl sd)), (g11, .inl (ca 0, 6, .inl wt))]) (cx := [(h, .inr (3, [.ref g0, .ref g1, .ref g2, .int (nI qm), .ref g4, .int 0, .int kn, .int kl, .ref g8, .ref g9, .ref g10, .ref g11, va_rf lst])), (g2, .inl (ca 0, 10, .inl kd)), (g9, .inl (ca 0, 6, .inl ct)), (g10, .inl (ca 0, 6, .inl sd))]) (wr := [(g0, .inl (ca 0, 36, .inl ws)), (g1, .inl (ca 0, 10, .inl qd)), (g4, .inl (ca 0, 10, .inl od)), (g8, .inl (ca 1, 10, .inl us)), (g11, .inl (ca 0, 6, .inl wt))]) (w1 := [(h, .inr (3, [.ref g0, .ref g1, .ref g2, .int (nI qm), .ref g4, .int 0, .int kn, .int kl, .ref g8, .ref g9, .ref g10, .ref g11, va_rf lst])), (g2, .inl (ca 0, 10, .inl kd)), (g9, .inl (ca 0, 6, .inl ct2_3)), (g10, .inl (ca 0, 6, .inl sd2_3))]) hP hD [0, 3, 6, 7] [1, 2, 4, 5, 8] rfl rfl (by decide) (by decide) hk1 hFc hP1 hD1
      generalize H1 = H at hP hS ⊢
      have hP : va_P (dC, dI) vwCl ([(g0, .inl (ca 0, 36, .inl ws)), (g1, .inl (ca 0, 10, .inl qd)), (g4, .inl (ca 0, 10, .inl od)), (g8, .inl (ca 1, 10, .inl us)), (g11, .inl (ca 0, 6, .inl wt)), (h, .inr (3, [.ref g0, .ref g1, .ref g2, .int (nI qm), .ref g4, .int 0, .int kn, .int kl, .ref g8, .ref g9, .ref g10, .ref g11, va_rf lst])), (g2, .inl (ca 0, 10, .inl kd)), (g9, .inl (ca 0, 6, .inl ct2_3)), (g10, .inl (ca 0, 6, .inl sd2_3))] ++ (oL ca lst LE ++ tl)) H := hP
      have hD : va_D A ([(g0, .inl (ca 0, 36, .inl ws)), (g1, .inl (ca 0, 10, .inl qd)), (g4, .inl (ca 0, 10, .inl od)), (g8, .inl (ca 1, 10, .inl us)), (g11, .inl (ca 0, 6, .inl wt)), (h, .inr (3, [.ref g0, .ref g1, .ref g2, .int (nI qm), .ref g4, .int 0, .int kn, .int kl, .ref g8, .ref g9, .ref g10, .ref g11, va_rf lst])), (g2, .inl (ca 0, 10, .inl kd)), (g9, .inl (ca 0, 6, .inl ct2_3)), (g10, .inl (ca 0, 6, .inl sd2_3))] ++ (oL ca lst LE ++ tl)) := hD
      obtain ⟨⟨n, en, hn1, hn2⟩, hsd⟩ := hw_3
      subst en
      refine lv_istore_n (lv' := [(2, .int (nI n)), (0, .ref h), (1, .int v1)]) hx hb dX3_findOrder_32 rfl hl (by decide) rfl (fun ls hl => ?_)
      refine lv_aload_n hx hb dX3_findOrder_33 rfl (lv_at hl 1 rfl) ?_
      refine lv_iload_n hx hb dX3_findOrder_34 rfl (lv_at hl 0 rfl) ?_
      refine lv_iload_n hx hb dX3_findOrder_35 rfl (lv_at hl 2 rfl) ?_
      have hPc := hP.part (X := [(g0, .inl (ca 0, 36, .inl ws)), (g1, .inl (ca 0, 10, .inl qd)), (g4, .inl (ca 0, 10, .inl od)), (g8, .inl (ca 1, 10, .inl us)), (g11, .inl (ca 0, 6, .inl wt)), (h, .inr (3, [.ref g0, .ref g1, .ref g2, .int (nI qm), .ref g4, .int 0, .int kn, .int kl, .ref g8, .ref g9, .ref g10, .ref g11, va_rf lst])), (g2, .inl (ca 0, 10, .inl kd)), (g9, .inl (ca 0, 6, .inl ct2_3)), (g10, .inl (ca 0, 6, .inl sd2_3))]) (cx := [(h, .inr (3, [.ref g0, .ref g1, .ref g2, .int (nI qm), .ref g4, .int 0, .int kn, .int kl, .ref g8, .ref g9, .ref g10, .ref g11, va_rf lst])), (g0, .inl (ca 0, 36, .inl ws)), (g9, .inl (ca 0, 6, .inl ct2_3)), (g10, .inl (ca 0, 6, .inl sd2_3)), (g11, .inl (ca 0, 6, .inl wt))]) [5, 0, 7, 8, 4] rfl
      have hDc := hD.part (X := [(g0, .inl (ca 0, 36, .inl ws)), (g1, .inl (ca 0, 10, .inl qd)), (g4, .inl (ca 0, 10, .inl od)), (g8, .inl (ca 1, 10, .inl us)), (g11, .inl (ca 0, 6, .inl wt)), (h, .inr (3, [.ref g0, .ref g1, .ref g2, .int (nI qm), .ref g4, .int 0, .int kn, .int kl, .ref g8, .ref g9, .ref g10, .ref g11, va_rf lst])), (g2, .inl (ca 0, 10, .inl kd)), (g9, .inl (ca 0, 6, .inl ct2_3)), (g10, .inl (ca 0, 6, .inl sd2_3))]) (cx := [(h, .inr (3, [.ref g0, .ref g1, .ref g2, .int (nI qm), .ref g4, .int 0, .int kn, .int kl, .ref g8, .ref g9, .ref g10, .ref g11, va_rf lst])), (g0, .inl (ca 0, 36, .inl ws)), (g9, .inl (ca 0, 6, .inl ct2_3)), (g10, .inl (ca 0, 6, .inl sd2_3)), (g11, .inl (ca 0, 6, .inl wt))]) [5, 0, 7, 8, 4] (by decide) rfl
      have hFc := va_freeP (X := [(g0, .inl (ca 0, 36, .inl ws)), (g1, .inl (ca 0, 10, .inl qd)), (g4, .inl (ca 0, 10, .inl od)), (g8, .inl (ca 1, 10, .inl us)), (g11, .inl (ca 0, 6, .inl wt)), (h, .inr (3, [.ref g0, .ref g1, .ref g2, .int (nI qm), .ref g4, .int 0, .int kn, .int kl, .ref g8, .ref g9, .ref g10, .ref g11, va_rf lst])), (g2, .inl (ca 0, 10, .inl kd)), (g9, .inl (ca 0, 6, .inl ct2_3)), (g10, .inl (ca 0, 6, .inl sd2_3))]) (cx := [(h, .inr (3, [.ref g0, .ref g1, .ref g2, .int (nI qm), .ref g4, .int 0, .int kn, .int kl, .ref g8, .ref g9, .ref g10, .ref g11, va_rf lst])), (g0, .inl (ca 0, 36, .inl ws)), (g9, .inl (ca 0, 6, .inl ct2_3)), (g10, .inl (ca 0, 6, .inl sd2_3)), (g11, .inl (ca 0, 6, .inl wt))]) hD hS hA [5, 0, 7, 8, 4] rfl
      refine va_callv (va_runV (As := [.int (nI n), .int v1]) (rest := []) ⟨hx, hb, hml, hown, hts⟩ (e_findLeast l dC dI ca H.size h g0 g1 g2 g4 g8 g9 g10 g11 qm 0 kn kl lst ws ct2_3 sd2_3 wt LE n v1 tl ⟨hn1, hn2⟩ hsd) (⟨callB_of 2 hts (gd mw_822) rfl rfl rfl (hts _ mw_5) (hts _ mw_819) ds_X3_findLeast ⟨Nat.le_of_ble_eq_true rfl, Nat.le_of_ble_eq_true rfl⟩, (hts _ mw_821), (hts _ mp_29)⟩) (pr_V hPc hK hDc hE (va_recv hK hPc (ci := 3) (q0 := 0) rfl rfl)) rfl rfl hl.1 rfl (lv_room (Nat.le_of_ble_eq_true rfl)) dX3_findOrder_36 ⟨by show 0 + (oM lst) ≤ (oM lst); omega, by show 0 + (1944 * oM lst) ≤ (1944 * oM lst); omega⟩) hS (fun q _ h => hFc q h) hFc (fun u_ t_ H1 locs ht hvm hw_ hB hz1 hk1 hS => ?_)
      obtain ⟨lq_4, LE2_4, wt2_4⟩ := u_
      obtain ⟨hP1, hD1⟩ := hB
      rw [ht] at hP1
      obtain ⟨hP, hD⟩ := va_joinP (X := [(g0, .inl (ca 0, 36, .inl ws)), (g1, .inl (ca 0, 10, .inl qd)), (g4, .inl (ca 0, 10, .inl od)), (g8, .inl (ca 1, 10, .inl us)), (g11, .inl (ca 0, 6, .inl wt)), (h, .inr (3, [.ref g0, .ref g1, .ref g2, .int (nI qm), .ref g4, .int 0, .int kn, .int kl, .ref g8, .ref g9, .ref g10, .ref g11, va_rf lst])), (g2, .inl (ca 0, 10, .inl kd)), (g9, .inl (ca 0, 6, .inl ct2_3)), (g10, .inl (ca 0, 6, .inl sd2_3))]) (cx := [(h, .inr (3, [.ref g0, .ref g1, .ref g2, .int (nI qm), .ref g4, .int 0, .int kn, .int kl, .ref g8, .ref g9, .ref g10, .ref g11, va_rf lst])), (g0, .inl (ca 0, 36, .inl ws)), (g9, .inl (ca 0, 6, .inl ct2_3)), (g10, .inl (ca 0, 6, .inl sd2_3)), (g11, .inl (ca 0, 6, .inl wt))]) (wr := [(g1, .inl (ca 0, 10, .inl qd)), (g4, .inl (ca 0, 10, .inl od)), (g8, .inl (ca 1, 10, .inl us)), (g2, .inl (ca 0, 10, .inl kd))]) (rx := [(h, .inr (3, [.ref g0, .ref g1, .ref g2, .int (nI qm), .ref g4, .int 0, .int kn, .int kl, .ref g8, .ref g9, .ref g10, .ref g11, .ref lq_4])), (g0, .inl (ca 0, 36, .inl ws)), (g9, .inl (ca 0, 6, .inl ct2_3)), (g10, .inl (ca 0, 6, .inl sd2_3)), (g11, .inl (ca 0, 6, .inl wt2_4)), (lq_4, .inl (ca 0, 1944, .inl LE2_4))]) (pl1 := tl) hP hD [5, 0, 7, 8, 4] [1, 2, 3, 6] rfl rfl (by decide) (by decide) hk1 hFc hP1 hD1
      generalize H1 = H at hP hS ⊢
      have hP : va_P (dC, dI) vwCl ([(g1, .inl (ca 0, 10, .inl qd)), (g4, .inl (ca 0, 10, .inl od)), (g8, .inl (ca 1, 10, .inl us)), (g2, .inl (ca 0, 10, .inl kd)), (h, .inr (3, [.ref g0, .ref g1, .ref g2, .int (nI qm), .ref g4, .int 0, .int kn, .int kl, .ref g8, .ref g9, .ref g10, .ref g11, .ref lq_4])), (g0, .inl (ca 0, 36, .inl ws)), (g9, .inl (ca 0, 6, .inl ct2_3)), (g10, .inl (ca 0, 6, .inl sd2_3)), (g11, .inl (ca 0, 6, .inl wt2_4)), (lq_4, .inl (ca 0, 1944, .inl LE2_4))] ++ tl) H := hP
      have hD : va_D A ([(g1, .inl (ca 0, 10, .inl qd)), (g4, .inl (ca 0, 10, .inl od)), (g8, .inl (ca 1, 10, .inl us)), (g2, .inl (ca 0, 10, .inl kd)), (h, .inr (3, [.ref g0, .ref g1, .ref g2, .int (nI qm), .ref g4, .int 0, .int kn, .int kl, .ref g8, .ref g9, .ref g10, .ref g11, .ref lq_4])), (g0, .inl (ca 0, 36, .inl ws)), (g9, .inl (ca 0, 6, .inl ct2_3)), (g10, .inl (ca 0, 6, .inl sd2_3)), (g11, .inl (ca 0, 6, .inl wt2_4)), (lq_4, .inl (ca 0, 1944, .inl LE2_4))] ++ tl) := hD
      refine lv_aload_n hx hb dX3_findOrder_39 rfl (lv_at hl 1 rfl) ?_
      refine lv_iload_n hx hb dX3_findOrder_40 rfl (lv_at hl 0 rfl) ?_
      refine lv_iconst (v := 1) hx hb dX3_findOrder_41 (by decide) ?_
      refine lv_isub hx hb dX3_findOrder_42 ?_
      refine lv_topi (fun y_ e_ => ?_)
      obtain rfl : y_ = (nI (n - 1)) := e_.trans (pk_sub (show 1 ≤ n by omega))
      refine lv_iload_n hx hb dX3_findOrder_43 rfl (lv_at hl 2 rfl) ?_
      have hPc := hP.sub (ws' := [(h, .inr (3, [.ref g0, .ref g1, .ref g2, .int (nI qm), .ref g4, .int 0, .int kn, .int kl, .ref g8, .ref g9, .ref g10, .ref g11, .ref lq_4])), (g0, .inl (ca 0, 36, .inl ws)), (g1, .inl (ca 0, 10, .inl qd)), (g2, .inl (ca 0, 10, .inl kd)), (g4, .inl (ca 0, 10, .inl od)), (g8, .inl (ca 1, 10, .inl us)), (g9, .inl (ca 0, 6, .inl ct2_3)), (g10, .inl (ca 0, 6, .inl sd2_3)), (g11, .inl (ca 0, 6, .inl wt2_4)), (lq_4, .inl (ca 0, 1944, .inl LE2_4))]) [4, 5, 0, 3, 1, 2, 6, 7, 8, 9] rfl
      have hDc := hD.sub (ws' := [(h, .inr (3, [.ref g0, .ref g1, .ref g2, .int (nI qm), .ref g4, .int 0, .int kn, .int kl, .ref g8, .ref g9, .ref g10, .ref g11, .ref lq_4])), (g0, .inl (ca 0, 36, .inl ws)), (g1, .inl (ca 0, 10, .inl qd)), (g2, .inl (ca 0, 10, .inl kd)), (g4, .inl (ca 0, 10, .inl od)), (g8, .inl (ca 1, 10, .inl us)), (g9, .inl (ca 0, 6, .inl ct2_3)), (g10, .inl (ca 0, 6, .inl sd2_3)), (g11, .inl (ca 0, 6, .inl wt2_4)), (lq_4, .inl (ca 0, 1944, .inl LE2_4))]) [4, 5, 0, 3, 1, 2, 6, 7, 8, 9] (by decide) rfl
      have hFc := va_free (wc := [(h, .inr (3, [.ref g0, .ref g1, .ref g2, .int (nI qm), .ref g4, .int 0, .int kn, .int kl, .ref g8, .ref g9, .ref g10, .ref g11, .ref lq_4])), (g0, .inl (ca 0, 36, .inl ws)), (g1, .inl (ca 0, 10, .inl qd)), (g2, .inl (ca 0, 10, .inl kd)), (g4, .inl (ca 0, 10, .inl od)), (g8, .inl (ca 1, 10, .inl us)), (g9, .inl (ca 0, 6, .inl ct2_3)), (g10, .inl (ca 0, 6, .inl sd2_3)), (g11, .inl (ca 0, 6, .inl wt2_4)), (lq_4, .inl (ca 0, 1944, .inl LE2_4))]) hD hS hA [4, 5, 0, 3, 1, 2, 6, 7, 8, 9] rfl
      refine va_callv (va_runV (As := [.int (nI (n - 1)), .int v1]) (rest := []) ⟨hx, hb, hml, hown, hts⟩ (e_followLeast l dC dI ca H.size h g0 g1 g2 g4 g8 g9 g10 g11 qm 0 kn kl ws qd kd od us ct2_3 sd2_3 wt2_4 lq_4 LE2_4 (n - 1) v1 hq (by omega) hsd) (⟨callB_of 2 hts (gd mw_847) rfl rfl rfl (hts _ mw_5) (hts _ mw_844) ds_X3_followLeast ⟨Nat.le_of_ble_eq_true rfl, Nat.le_of_ble_eq_true rfl⟩, (hts _ mw_846), (hts _ mp_35)⟩) (pr_V hPc hK hDc hE (va_recv hK hPc (ci := 3) (q0 := 0) rfl rfl)) rfl rfl hl.1 rfl (lv_room (Nat.le_of_ble_eq_true rfl)) dX3_findOrder_44 ⟨by show (0 + (oM lst)) + 0 ≤ (oM lst); omega, by show (0 + (1944 * oM lst)) + 0 ≤ (1944 * oM lst); omega⟩) hS (fun q _ h => hFc q h) hFc (fun u_ t_ H1 locs ht hvm hw_ hB hz1 hk1 hS => ?_)
      obtain ⟨om2_5, od2_5, us2_5, wt2_5⟩ := u_
      obtain ⟨hP1, hD1⟩ := hB
      rw [ht] at hP1
      obtain ⟨hP, hD⟩ := va_joinQ (X := [(g1, .inl (ca 0, 10, .inl qd)), (g4, .inl (ca 0, 10, .inl od)), (g8, .inl (ca 1, 10, .inl us)), (g2, .inl (ca 0, 10, .inl kd)), (h, .inr (3, [.ref g0, .ref g1, .ref g2, .int (nI qm), .ref g4, .int 0, .int kn, .int kl, .ref g8, .ref g9, .ref g10, .ref g11, .ref lq_4])), (g0, .inl (ca 0, 36, .inl ws)), (g9, .inl (ca 0, 6, .inl ct2_3)), (g10, .inl (ca 0, 6, .inl sd2_3)), (g11, .inl (ca 0, 6, .inl wt2_4)), (lq_4, .inl (ca 0, 1944, .inl LE2_4))]) (cx := [(h, .inr (3, [.ref g0, .ref g1, .ref g2, .int (nI qm), .ref g4, .int 0, .int kn, .int kl, .ref g8, .ref g9, .ref g10, .ref g11, .ref lq_4])), (g0, .inl (ca 0, 36, .inl ws)), (g1, .inl (ca 0, 10, .inl qd)), (g2, .inl (ca 0, 10, .inl kd)), (g4, .inl (ca 0, 10, .inl od)), (g8, .inl (ca 1, 10, .inl us)), (g9, .inl (ca 0, 6, .inl ct2_3)), (g10, .inl (ca 0, 6, .inl sd2_3)), (g11, .inl (ca 0, 6, .inl wt2_4)), (lq_4, .inl (ca 0, 1944, .inl LE2_4))]) (wr := []) (w1 := [(h, .inr (3, [.ref g0, .ref g1, .ref g2, .int (nI qm), .ref g4, .int om2_5, .int kn, .int kl, .ref g8, .ref g9, .ref g10, .ref g11, .ref lq_4])), (g0, .inl (ca 0, 36, .inl ws)), (g1, .inl (ca 0, 10, .inl qd)), (g2, .inl (ca 0, 10, .inl kd)), (g4, .inl (ca 0, 10, .inl od2_5)), (g8, .inl (ca 1, 10, .inl us2_5)), (g9, .inl (ca 0, 6, .inl ct2_3)), (g10, .inl (ca 0, 6, .inl sd2_3)), (g11, .inl (ca 0, 6, .inl wt2_5)), (lq_4, .inl (ca 0, 1944, .inl LE2_4))]) hP hD [4, 5, 0, 3, 1, 2, 6, 7, 8, 9] [] rfl rfl (by decide) (by decide) hk1 hFc hP1 hD1
      generalize H1 = H at hP hS ⊢
      have hP : va_P (dC, dI) vwCl (@HAppend.hAppend va_W va_W va_W _ [(h, .inr (3, [.ref g0, .ref g1, .ref g2, .int (nI qm), .ref g4, .int om2_5, .int kn, .int kl, .ref g8, .ref g9, .ref g10, .ref g11, .ref lq_4])), (g0, .inl (ca 0, 36, .inl ws)), (g1, .inl (ca 0, 10, .inl qd)), (g2, .inl (ca 0, 10, .inl kd)), (g4, .inl (ca 0, 10, .inl od2_5)), (g8, .inl (ca 1, 10, .inl us2_5)), (g9, .inl (ca 0, 6, .inl ct2_3)), (g10, .inl (ca 0, 6, .inl sd2_3)), (g11, .inl (ca 0, 6, .inl wt2_5)), (lq_4, .inl (ca 0, 1944, .inl LE2_4))] tl) H := hP
      have hD : va_D A ([(h, .inr (3, [.ref g0, .ref g1, .ref g2, .int (nI qm), .ref g4, .int om2_5, .int kn, .int kl, .ref g8, .ref g9, .ref g10, .ref g11, .ref lq_4])), (g0, .inl (ca 0, 36, .inl ws)), (g1, .inl (ca 0, 10, .inl qd)), (g2, .inl (ca 0, 10, .inl kd)), (g4, .inl (ca 0, 10, .inl od2_5)), (g8, .inl (ca 1, 10, .inl us2_5)), (g9, .inl (ca 0, 6, .inl ct2_3)), (g10, .inl (ca 0, 6, .inl sd2_3)), (g11, .inl (ca 0, 6, .inl wt2_5)), (lq_4, .inl (ca 0, 1944, .inl LE2_4))] ++ tl) := hD
      refine lv_aload_n hx hb dX3_findOrder_47 rfl (lv_at hl 1 rfl) ?_
      refine lv_iconst (v := 1) hx hb dX3_findOrder_48 (by decide) ?_
      refine va_put (D := (dC, dI)) (ci := 3) (v := .int 1) (ty := .boolean) (C := RX3) (T := TX3) (N := 13) hx hb hts inX3 tyX3 tyX3_ok nmX3 hown hK hP hD hS 0 rfl rfl 6 (by decide) (hts _ mw_113) (fun _ h9 => h9) rfl (by decide +kernel) rfl rfl (Nat.le_of_ble_eq_true rfl) dX3_findOrder_49 (fun H locs hP hD hS => ?_)
      have hP : va_P (dC, dI) vwCl (@HAppend.hAppend va_W va_W va_W _ [(h, .inr (3, [.ref g0, .ref g1, .ref g2, .int (nI qm), .ref g4, .int om2_5, .int 1, .int kl, .ref g8, .ref g9, .ref g10, .ref g11, .ref lq_4])), (g0, .inl (ca 0, 36, .inl ws)), (g1, .inl (ca 0, 10, .inl qd)), (g2, .inl (ca 0, 10, .inl kd)), (g4, .inl (ca 0, 10, .inl od2_5)), (g8, .inl (ca 1, 10, .inl us2_5)), (g9, .inl (ca 0, 6, .inl ct2_3)), (g10, .inl (ca 0, 6, .inl sd2_3)), (g11, .inl (ca 0, 6, .inl wt2_5)), (lq_4, .inl (ca 0, 1944, .inl LE2_4))] tl) H := hP
      have hD : va_D A ([(h, .inr (3, [.ref g0, .ref g1, .ref g2, .int (nI qm), .ref g4, .int om2_5, .int 1, .int kl, .ref g8, .ref g9, .ref g10, .ref g11, .ref lq_4])), (g0, .inl (ca 0, 36, .inl ws)), (g1, .inl (ca 0, 10, .inl qd)), (g2, .inl (ca 0, 10, .inl kd)), (g4, .inl (ca 0, 10, .inl od2_5)), (g8, .inl (ca 1, 10, .inl us2_5)), (g9, .inl (ca 0, 6, .inl ct2_3)), (g10, .inl (ca 0, 6, .inl sd2_3)), (g11, .inl (ca 0, 6, .inl wt2_5)), (lq_4, .inl (ca 0, 1944, .inl LE2_4))] ++ tl) := hD
      refine lv_aload_n hx hb dX3_findOrder_52 rfl (lv_at hl 1 rfl) ?_
      refine lv_iload_n hx hb dX3_findOrder_53 rfl (lv_at hl 2 rfl) ?_
      refine va_put (D := (dC, dI)) (ci := 3) (v := .int v1) (ty := .boolean) (C := RX3) (T := TX3) (N := 13) hx hb hts inX3 tyX3 tyX3_ok nmX3 hown hK hP hD hS 0 rfl rfl 7 (by decide) (hts _ mw_114) (fun _ h9 => h9) rfl (by decide +kernel) (zb_n (by first | exact wi_z _ _ _ | assumption | exact Or.inl rfl | exact Or.inr rfl)) (zb_f (by first | exact wi_z _ _ _ | assumption | exact Or.inl rfl | exact Or.inr rfl)) (Nat.le_of_ble_eq_true rfl) dX3_findOrder_54 (fun H locs hP hD hS => ?_)
      have hP : va_P (dC, dI) vwCl (@HAppend.hAppend va_W va_W va_W _ [(h, .inr (3, [.ref g0, .ref g1, .ref g2, .int (nI qm), .ref g4, .int om2_5, .int 1, .int v1, .ref g8, .ref g9, .ref g10, .ref g11, .ref lq_4])), (g0, .inl (ca 0, 36, .inl ws)), (g1, .inl (ca 0, 10, .inl qd)), (g2, .inl (ca 0, 10, .inl kd)), (g4, .inl (ca 0, 10, .inl od2_5)), (g8, .inl (ca 1, 10, .inl us2_5)), (g9, .inl (ca 0, 6, .inl ct2_3)), (g10, .inl (ca 0, 6, .inl sd2_3)), (g11, .inl (ca 0, 6, .inl wt2_5)), (lq_4, .inl (ca 0, 1944, .inl LE2_4))] tl) H := hP
      have hD : va_D A ([(h, .inr (3, [.ref g0, .ref g1, .ref g2, .int (nI qm), .ref g4, .int om2_5, .int 1, .int v1, .ref g8, .ref g9, .ref g10, .ref g11, .ref lq_4])), (g0, .inl (ca 0, 36, .inl ws)), (g1, .inl (ca 0, 10, .inl qd)), (g2, .inl (ca 0, 10, .inl kd)), (g4, .inl (ca 0, 10, .inl od2_5)), (g8, .inl (ca 1, 10, .inl us2_5)), (g9, .inl (ca 0, 6, .inl ct2_3)), (g10, .inl (ca 0, 6, .inl sd2_3)), (g11, .inl (ca 0, 6, .inl wt2_5)), (lq_4, .inl (ca 0, 1944, .inl LE2_4))] ++ tl) := hD
      refine W.widen (k := (oM lst)) (n := (1944 * oM lst)) (by omega) (by omega) ?_
      have hP9 : va_P (dC, dI) vwCl (@HAppend.hAppend va_W va_W va_W _ [(h, .inr (3, [.ref g0, .ref g1, .ref g2, .int (nI qm), .ref g4, .int om2_5, .int 1, .int v1, .ref g8, .ref g9, .ref g10, .ref g11, va_rf (some lq_4)])), (g0, .inl (ca 0, 36, .inl ws)), (g1, .inl (ca 0, 10, .inl qd)), (g2, .inl (ca 0, 10, .inl kd)), (g4, .inl (ca 0, 10, .inl od2_5)), (g8, .inl (ca 1, 10, .inl us2_5)), (g9, .inl (ca 0, 6, .inl ct2_3)), (g10, .inl (ca 0, 6, .inl sd2_3)), (g11, .inl (ca 0, 6, .inl wt2_5))] (@HAppend.hAppend va_W va_W va_W _ (oL ca (some lq_4) LE2_4) tl)) H := va_P.part (X := [(h, .inr (3, [.ref g0, .ref g1, .ref g2, .int (nI qm), .ref g4, .int om2_5, .int 1, .int v1, .ref g8, .ref g9, .ref g10, .ref g11, .ref lq_4])), (g0, .inl (ca 0, 36, .inl ws)), (g1, .inl (ca 0, 10, .inl qd)), (g2, .inl (ca 0, 10, .inl kd)), (g4, .inl (ca 0, 10, .inl od2_5)), (g8, .inl (ca 1, 10, .inl us2_5)), (g9, .inl (ca 0, 6, .inl ct2_3)), (g10, .inl (ca 0, 6, .inl sd2_3)), (g11, .inl (ca 0, 6, .inl wt2_5)), (lq_4, .inl (ca 0, 1944, .inl LE2_4))]) (cx := [(h, .inr (3, [.ref g0, .ref g1, .ref g2, .int (nI qm), .ref g4, .int om2_5, .int 1, .int v1, .ref g8, .ref g9, .ref g10, .ref g11, .ref lq_4])), (g0, .inl (ca 0, 36, .inl ws)), (g1, .inl (ca 0, 10, .inl qd)), (g2, .inl (ca 0, 10, .inl kd)), (g4, .inl (ca 0, 10, .inl od2_5)), (g8, .inl (ca 1, 10, .inl us2_5)), (g9, .inl (ca 0, 6, .inl ct2_3)), (g10, .inl (ca 0, 6, .inl sd2_3)), (g11, .inl (ca 0, 6, .inl wt2_5)), (lq_4, .inl (ca 0, 1944, .inl LE2_4))]) hP [0, 1, 2, 3, 4, 5, 6, 7, 8, 9] rfl
      have hD9 : va_D A (@HAppend.hAppend va_W va_W va_W _ [(h, .inr (3, [.ref g0, .ref g1, .ref g2, .int (nI qm), .ref g4, .int om2_5, .int 1, .int v1, .ref g8, .ref g9, .ref g10, .ref g11, va_rf (some lq_4)])), (g0, .inl (ca 0, 36, .inl ws)), (g1, .inl (ca 0, 10, .inl qd)), (g2, .inl (ca 0, 10, .inl kd)), (g4, .inl (ca 0, 10, .inl od2_5)), (g8, .inl (ca 1, 10, .inl us2_5)), (g9, .inl (ca 0, 6, .inl ct2_3)), (g10, .inl (ca 0, 6, .inl sd2_3)), (g11, .inl (ca 0, 6, .inl wt2_5))] (@HAppend.hAppend va_W va_W va_W _ (oL ca (some lq_4) LE2_4) tl)) := va_D.part (X := [(h, .inr (3, [.ref g0, .ref g1, .ref g2, .int (nI qm), .ref g4, .int om2_5, .int 1, .int v1, .ref g8, .ref g9, .ref g10, .ref g11, .ref lq_4])), (g0, .inl (ca 0, 36, .inl ws)), (g1, .inl (ca 0, 10, .inl qd)), (g2, .inl (ca 0, 10, .inl kd)), (g4, .inl (ca 0, 10, .inl od2_5)), (g8, .inl (ca 1, 10, .inl us2_5)), (g9, .inl (ca 0, 6, .inl ct2_3)), (g10, .inl (ca 0, 6, .inl sd2_3)), (g11, .inl (ca 0, 6, .inl wt2_5)), (lq_4, .inl (ca 0, 1944, .inl LE2_4))]) (cx := [(h, .inr (3, [.ref g0, .ref g1, .ref g2, .int (nI qm), .ref g4, .int om2_5, .int 1, .int v1, .ref g8, .ref g9, .ref g10, .ref g11, .ref lq_4])), (g0, .inl (ca 0, 36, .inl ws)), (g1, .inl (ca 0, 10, .inl qd)), (g2, .inl (ca 0, 10, .inl kd)), (g4, .inl (ca 0, 10, .inl od2_5)), (g8, .inl (ca 1, 10, .inl us2_5)), (g9, .inl (ca 0, 6, .inl ct2_3)), (g10, .inl (ca 0, 6, .inl sd2_3)), (g11, .inl (ca 0, 6, .inl wt2_5)), (lq_4, .inl (ca 0, 1944, .inl LE2_4))]) hD [0, 1, 2, 3, 4, 5, 6, 7, 8, 9] (by decide) rfl
      exact W.vret hx hb hr (fun t ht hW => ⟨⟨(om2_5, 1, v1, (some lq_4), LE2_4, od2_5, us2_5, ct2_3, sd2_3, wt2_5), rfl, trivial, by rw [ht]; exact hP9, hD9⟩, hS.F ht⟩) hS.2.2 dX3_findOrder_57
  · refine lv_aload_n hx hb dX3_findOrder_7 rfl (lv_at hl 0 rfl) ?_
    refine va_get (D := (dC, dI)) (ci := 3) (v := .int kl) (C := RX3) (T := TX3) (N := 13) hx hb hts inX3 hown hK hP 0 rfl rfl 7 (by decide) (hts _ mw_114) (fun _ h9 => h9) rfl dX3_findOrder_8 ?_
    refine lv_iload_n hx hb dX3_findOrder_11 rfl (lv_at hl 1 rfl) ?_
    refine lv_icmp_ne (tgt := 16) hx hb dX3_findOrder_12 (by decide) (fun c_6 => ?_) (fun c_6 => ?_)
    · refine lv_aload_n hx hb dX3_findOrder_16 rfl (lv_at hl 0 rfl) ?_
      refine lv_iconst (v := 0) hx hb dX3_findOrder_17 (by decide) ?_
      refine va_put (D := (dC, dI)) (ci := 3) (v := .int 0) (ty := .int) (C := RX3) (T := TX3) (N := 13) hx hb hts inX3 tyX3 tyX3_ok nmX3 hown hK hP hD hS 0 rfl rfl 5 (by decide) (hts _ mw_111) (fun _ h9 => h9) rfl (by decide +kernel) rfl rfl (Nat.le_of_ble_eq_true rfl) dX3_findOrder_18 (fun H locs hP hD hS => ?_)
      have hP : va_P (dC, dI) vwCl ([(h, .inr (3, [.ref g0, .ref g1, .ref g2, .int (nI qm), .ref g4, .int 0, .int kn, .int kl, .ref g8, .ref g9, .ref g10, .ref g11, va_rf lst])), (g0, .inl (ca 0, 36, .inl ws)), (g1, .inl (ca 0, 10, .inl qd)), (g2, .inl (ca 0, 10, .inl kd)), (g4, .inl (ca 0, 10, .inl od)), (g8, .inl (ca 1, 10, .inl us)), (g9, .inl (ca 0, 6, .inl ct)), (g10, .inl (ca 0, 6, .inl sd)), (g11, .inl (ca 0, 6, .inl wt))] ++ (oL ca lst LE ++ tl)) H := hP
      have hD : va_D A ([(h, .inr (3, [.ref g0, .ref g1, .ref g2, .int (nI qm), .ref g4, .int 0, .int kn, .int kl, .ref g8, .ref g9, .ref g10, .ref g11, va_rf lst])), (g0, .inl (ca 0, 36, .inl ws)), (g1, .inl (ca 0, 10, .inl qd)), (g2, .inl (ca 0, 10, .inl kd)), (g4, .inl (ca 0, 10, .inl od)), (g8, .inl (ca 1, 10, .inl us)), (g9, .inl (ca 0, 6, .inl ct)), (g10, .inl (ca 0, 6, .inl sd)), (g11, .inl (ca 0, 6, .inl wt))] ++ (oL ca lst LE ++ tl)) := hD
      refine lv_aload_n hx hb dX3_findOrder_21 rfl (lv_at hl 0 rfl) ?_
      refine va_get (D := (dC, dI)) (ci := 3) (v := .int (nI qm)) (C := RX3) (T := TX3) (N := 13) hx hb hts inX3 hown hK hP 0 rfl rfl 3 (by decide) (hts _ mw_107) (fun _ h9 => h9) rfl dX3_findOrder_22 ?_
      refine lv_if_le (tgt := 47) hx hb dX3_findOrder_25 (by decide) (fun c_7 => ?_) (fun c_7 => ?_)
      · have nc_7 : qm ≤ 0 := (nI_leI (a := qm) (b := 0) (by omega) (by omega)).mp c_7
        refine lv_aload_n hx hb dX3_findOrder_47 rfl (lv_at hl 0 rfl) ?_
        refine lv_iconst (v := 1) hx hb dX3_findOrder_48 (by decide) ?_
        refine va_put (D := (dC, dI)) (ci := 3) (v := .int 1) (ty := .boolean) (C := RX3) (T := TX3) (N := 13) hx hb hts inX3 tyX3 tyX3_ok nmX3 hown hK hP hD hS 0 rfl rfl 6 (by decide) (hts _ mw_113) (fun _ h9 => h9) rfl (by decide +kernel) rfl rfl (Nat.le_of_ble_eq_true rfl) dX3_findOrder_49 (fun H locs hP hD hS => ?_)
        have hP : va_P (dC, dI) vwCl ([(h, .inr (3, [.ref g0, .ref g1, .ref g2, .int (nI qm), .ref g4, .int 0, .int 1, .int kl, .ref g8, .ref g9, .ref g10, .ref g11, va_rf lst])), (g0, .inl (ca 0, 36, .inl ws)), (g1, .inl (ca 0, 10, .inl qd)), (g2, .inl (ca 0, 10, .inl kd)), (g4, .inl (ca 0, 10, .inl od)), (g8, .inl (ca 1, 10, .inl us)), (g9, .inl (ca 0, 6, .inl ct)), (g10, .inl (ca 0, 6, .inl sd)), (g11, .inl (ca 0, 6, .inl wt))] ++ (oL ca lst LE ++ tl)) H := hP
        have hD : va_D A ([(h, .inr (3, [.ref g0, .ref g1, .ref g2, .int (nI qm), .ref g4, .int 0, .int 1, .int kl, .ref g8, .ref g9, .ref g10, .ref g11, va_rf lst])), (g0, .inl (ca 0, 36, .inl ws)), (g1, .inl (ca 0, 10, .inl qd)), (g2, .inl (ca 0, 10, .inl kd)), (g4, .inl (ca 0, 10, .inl od)), (g8, .inl (ca 1, 10, .inl us)), (g9, .inl (ca 0, 6, .inl ct)), (g10, .inl (ca 0, 6, .inl sd)), (g11, .inl (ca 0, 6, .inl wt))] ++ (oL ca lst LE ++ tl)) := hD
        refine lv_aload_n hx hb dX3_findOrder_52 rfl (lv_at hl 0 rfl) ?_
        refine lv_iload_n hx hb dX3_findOrder_53 rfl (lv_at hl 1 rfl) ?_
        refine va_put (D := (dC, dI)) (ci := 3) (v := .int v1) (ty := .boolean) (C := RX3) (T := TX3) (N := 13) hx hb hts inX3 tyX3 tyX3_ok nmX3 hown hK hP hD hS 0 rfl rfl 7 (by decide) (hts _ mw_114) (fun _ h9 => h9) rfl (by decide +kernel) (zb_n (by first | exact wi_z _ _ _ | assumption | exact Or.inl rfl | exact Or.inr rfl)) (zb_f (by first | exact wi_z _ _ _ | assumption | exact Or.inl rfl | exact Or.inr rfl)) (Nat.le_of_ble_eq_true rfl) dX3_findOrder_54 (fun H locs hP hD hS => ?_)
        have hP : va_P (dC, dI) vwCl ([(h, .inr (3, [.ref g0, .ref g1, .ref g2, .int (nI qm), .ref g4, .int 0, .int 1, .int v1, .ref g8, .ref g9, .ref g10, .ref g11, va_rf lst])), (g0, .inl (ca 0, 36, .inl ws)), (g1, .inl (ca 0, 10, .inl qd)), (g2, .inl (ca 0, 10, .inl kd)), (g4, .inl (ca 0, 10, .inl od)), (g8, .inl (ca 1, 10, .inl us)), (g9, .inl (ca 0, 6, .inl ct)), (g10, .inl (ca 0, 6, .inl sd)), (g11, .inl (ca 0, 6, .inl wt))] ++ (oL ca lst LE ++ tl)) H := hP
        have hD : va_D A ([(h, .inr (3, [.ref g0, .ref g1, .ref g2, .int (nI qm), .ref g4, .int 0, .int 1, .int v1, .ref g8, .ref g9, .ref g10, .ref g11, va_rf lst])), (g0, .inl (ca 0, 36, .inl ws)), (g1, .inl (ca 0, 10, .inl qd)), (g2, .inl (ca 0, 10, .inl kd)), (g4, .inl (ca 0, 10, .inl od)), (g8, .inl (ca 1, 10, .inl us)), (g9, .inl (ca 0, 6, .inl ct)), (g10, .inl (ca 0, 6, .inl sd)), (g11, .inl (ca 0, 6, .inl wt))] ++ (oL ca lst LE ++ tl)) := hD
        refine W.widen (k := (oM lst)) (n := (1944 * oM lst)) (by omega) (by omega) ?_
        have hP9 : va_P (dC, dI) vwCl (@HAppend.hAppend va_W va_W va_W _ [(h, .inr (3, [.ref g0, .ref g1, .ref g2, .int (nI qm), .ref g4, .int 0, .int 1, .int v1, .ref g8, .ref g9, .ref g10, .ref g11, va_rf lst])), (g0, .inl (ca 0, 36, .inl ws)), (g1, .inl (ca 0, 10, .inl qd)), (g2, .inl (ca 0, 10, .inl kd)), (g4, .inl (ca 0, 10, .inl od)), (g8, .inl (ca 1, 10, .inl us)), (g9, .inl (ca 0, 6, .inl ct)), (g10, .inl (ca 0, 6, .inl sd)), (g11, .inl (ca 0, 6, .inl wt))] (@HAppend.hAppend va_W va_W va_W _ (oL ca lst LE) tl)) H := va_P.part (X := [(h, .inr (3, [.ref g0, .ref g1, .ref g2, .int (nI qm), .ref g4, .int 0, .int 1, .int v1, .ref g8, .ref g9, .ref g10, .ref g11, va_rf lst])), (g0, .inl (ca 0, 36, .inl ws)), (g1, .inl (ca 0, 10, .inl qd)), (g2, .inl (ca 0, 10, .inl kd)), (g4, .inl (ca 0, 10, .inl od)), (g8, .inl (ca 1, 10, .inl us)), (g9, .inl (ca 0, 6, .inl ct)), (g10, .inl (ca 0, 6, .inl sd)), (g11, .inl (ca 0, 6, .inl wt))]) hP [0, 1, 2, 3, 4, 5, 6, 7, 8] rfl
        have hD9 : va_D A (@HAppend.hAppend va_W va_W va_W _ [(h, .inr (3, [.ref g0, .ref g1, .ref g2, .int (nI qm), .ref g4, .int 0, .int 1, .int v1, .ref g8, .ref g9, .ref g10, .ref g11, va_rf lst])), (g0, .inl (ca 0, 36, .inl ws)), (g1, .inl (ca 0, 10, .inl qd)), (g2, .inl (ca 0, 10, .inl kd)), (g4, .inl (ca 0, 10, .inl od)), (g8, .inl (ca 1, 10, .inl us)), (g9, .inl (ca 0, 6, .inl ct)), (g10, .inl (ca 0, 6, .inl sd)), (g11, .inl (ca 0, 6, .inl wt))] (@HAppend.hAppend va_W va_W va_W _ (oL ca lst LE) tl)) := va_D.part (X := [(h, .inr (3, [.ref g0, .ref g1, .ref g2, .int (nI qm), .ref g4, .int 0, .int 1, .int v1, .ref g8, .ref g9, .ref g10, .ref g11, va_rf lst])), (g0, .inl (ca 0, 36, .inl ws)), (g1, .inl (ca 0, 10, .inl qd)), (g2, .inl (ca 0, 10, .inl kd)), (g4, .inl (ca 0, 10, .inl od)), (g8, .inl (ca 1, 10, .inl us)), (g9, .inl (ca 0, 6, .inl ct)), (g10, .inl (ca 0, 6, .inl sd)), (g11, .inl (ca 0, 6, .inl wt))]) hD [0, 1, 2, 3, 4, 5, 6, 7, 8] (by decide) rfl
        exact W.vret hx hb hr (fun t ht hW => ⟨⟨(0, 1, v1, lst, LE, od, us, ct, sd, wt), rfl, trivial, by rw [ht]; exact hP9, hD9⟩, hS.F ht⟩) hS.2.2 dX3_findOrder_57
      · have nc_7 : ¬ (qm ≤ 0) := fun h9 => c_7 ((nI_leI (a := qm) (b := 0) (by omega) (by omega)).mpr h9)
        refine lv_aload_n hx hb dX3_findOrder_28 rfl (lv_at hl 0 rfl) ?_
        have hPc := hP.sub (ws' := [(h, .inr (3, [.ref g0, .ref g1, .ref g2, .int (nI qm), .ref g4, .int 0, .int kn, .int kl, .ref g8, .ref g9, .ref g10, .ref g11, va_rf lst])), (g2, .inl (ca 0, 10, .inl kd)), (g9, .inl (ca 0, 6, .inl ct)), (g10, .inl (ca 0, 6, .inl sd))]) [0, 3, 6, 7] rfl
        have hDc := hD.sub (ws' := [(h, .inr (3, [.ref g0, .ref g1, .ref g2, .int (nI qm), .ref g4, .int 0, .int kn, .int kl, .ref g8, .ref g9, .ref g10, .ref g11, va_rf lst])), (g2, .inl (ca 0, 10, .inl kd)), (g9, .inl (ca 0, 6, .inl ct)), (g10, .inl (ca 0, 6, .inl sd))]) [0, 3, 6, 7] (by decide) rfl
        have hFc := va_free (wc := [(h, .inr (3, [.ref g0, .ref g1, .ref g2, .int (nI qm), .ref g4, .int 0, .int kn, .int kl, .ref g8, .ref g9, .ref g10, .ref g11, va_rf lst])), (g2, .inl (ca 0, 10, .inl kd)), (g9, .inl (ca 0, 6, .inl ct)), (g10, .inl (ca 0, 6, .inl sd))]) hD hS hA [0, 3, 6, 7] rfl
        refine va_calli (va_runV (As := []) (rest := []) ⟨hx, hb, hml, hown, hts⟩ (e_countKinds l dC dI ca H.size h g0 g1 g2 g4 g8 g9 g10 g11 qm 0 kn kl lst kd ct sd (by first | assumption | omega | exact ⟨_, by omega, rfl⟩)) (⟨callB_of 0 hts (gd mw_816) rfl rfl rfl (hts _ mw_5) (hts _ mw_813) ds_X3_countKinds ⟨Nat.le_of_ble_eq_true rfl, Nat.le_of_ble_eq_true rfl⟩, (hts _ mw_815), (hts _ mp_28)⟩) (pr_V hPc hK hDc hE (va_recv hK hPc (ci := 3) (q0 := 0) rfl rfl)) rfl rfl hl.1 rfl (lv_room (Nat.le_of_ble_eq_true rfl)) dX3_findOrder_29 ⟨Nat.le_of_ble_eq_true rfl, Nat.le_of_ble_eq_true rfl⟩) hS (fun q _ h => hFc q h) hFc (fun rv_8 u_ t_ H1 locs ht hvm hw_ hB hz1 hk1 hS => ?_)
        obtain ⟨ct2_8, sd2_8⟩ := u_
        have hw_8 := hw_
        obtain ⟨hP1, hD1⟩ := hB
        rw [ht] at hP1
        obtain ⟨hP, hD⟩ := va_joinQ (X := [(h, .inr (3, [.ref g0, .ref g1, .ref g2, .int (nI qm), .ref g4, .int 0, .int kn, .int kl, .ref g8, .ref g9, .ref g10, .ref g11, va_rf lst])), (g0, .inl (ca 0, 36, .inl ws)), (g1, .inl (ca 0, 10, .inl qd)), (g2, .inl (ca 0, 10, .inl kd)), (g4, .inl (ca 0, 10, .inl od)), (g8, .inl (ca 1, 10, .inl us)), (g9, .inl (ca 0, 6, .inl ct)), (g10, .inl (ca 0, 6, .inl sd)), (g11, .inl (ca 0, 6, .inl wt))]) (cx := [(h, .inr (3, [.ref g0, .ref g1, .ref g2, .int (nI qm), .ref g4, .int 0, .int kn, .int kl, .ref g8, .ref g9, .ref g10, .ref g11, va_rf lst])), (g2, .inl (ca 0, 10, .inl kd)), (g9, .inl (ca 0, 6, .inl ct)), (g10, .inl (ca 0, 6, .inl sd))]) (wr := [(g0, .inl (ca 0, 36, .inl ws)), (g1, .inl (ca 0, 10, .inl qd)), (g4, .inl (ca 0, 10, .inl od)), (g8, .inl (ca 1, 10, .inl us)), (g11, .inl (ca 0, 6, .inl wt))]) (w1 := [(h, .inr (3, [.ref g0, .ref g1, .ref g2, .int (nI qm), .ref g4, .int 0, .int kn, .int kl, .ref g8, .ref g9, .ref g10, .ref g11, va_rf lst])), (g2, .inl (ca 0, 10, .inl kd)), (g9, .inl (ca 0, 6, .inl ct2_8)), (g10, .inl (ca 0, 6, .inl sd2_8))]) hP hD [0, 3, 6, 7] [1, 2, 4, 5, 8] rfl rfl (by decide) (by decide) hk1 hFc hP1 hD1
        generalize H1 = H at hP hS ⊢
        have hP : va_P (dC, dI) vwCl ([(g0, .inl (ca 0, 36, .inl ws)), (g1, .inl (ca 0, 10, .inl qd)), (g4, .inl (ca 0, 10, .inl od)), (g8, .inl (ca 1, 10, .inl us)), (g11, .inl (ca 0, 6, .inl wt)), (h, .inr (3, [.ref g0, .ref g1, .ref g2, .int (nI qm), .ref g4, .int 0, .int kn, .int kl, .ref g8, .ref g9, .ref g10, .ref g11, va_rf lst])), (g2, .inl (ca 0, 10, .inl kd)), (g9, .inl (ca 0, 6, .inl ct2_8)), (g10, .inl (ca 0, 6, .inl sd2_8))] ++ (oL ca lst LE ++ tl)) H := hP
        have hD : va_D A ([(g0, .inl (ca 0, 36, .inl ws)), (g1, .inl (ca 0, 10, .inl qd)), (g4, .inl (ca 0, 10, .inl od)), (g8, .inl (ca 1, 10, .inl us)), (g11, .inl (ca 0, 6, .inl wt)), (h, .inr (3, [.ref g0, .ref g1, .ref g2, .int (nI qm), .ref g4, .int 0, .int kn, .int kl, .ref g8, .ref g9, .ref g10, .ref g11, va_rf lst])), (g2, .inl (ca 0, 10, .inl kd)), (g9, .inl (ca 0, 6, .inl ct2_8)), (g10, .inl (ca 0, 6, .inl sd2_8))] ++ (oL ca lst LE ++ tl)) := hD
        obtain ⟨⟨n, en, hn1, hn2⟩, hsd⟩ := hw_8
        subst en
        refine lv_istore_n (lv' := [(2, .int (nI n)), (0, .ref h), (1, .int v1)]) hx hb dX3_findOrder_32 rfl hl (by decide) rfl (fun ls hl => ?_)
        refine lv_aload_n hx hb dX3_findOrder_33 rfl (lv_at hl 1 rfl) ?_
        refine lv_iload_n hx hb dX3_findOrder_34 rfl (lv_at hl 0 rfl) ?_
        refine lv_iload_n hx hb dX3_findOrder_35 rfl (lv_at hl 2 rfl) ?_
        have hPc := hP.part (X := [(g0, .inl (ca 0, 36, .inl ws)), (g1, .inl (ca 0, 10, .inl qd)), (g4, .inl (ca 0, 10, .inl od)), (g8, .inl (ca 1, 10, .inl us)), (g11, .inl (ca 0, 6, .inl wt)), (h, .inr (3, [.ref g0, .ref g1, .ref g2, .int (nI qm), .ref g4, .int 0, .int kn, .int kl, .ref g8, .ref g9, .ref g10, .ref g11, va_rf lst])), (g2, .inl (ca 0, 10, .inl kd)), (g9, .inl (ca 0, 6, .inl ct2_8)), (g10, .inl (ca 0, 6, .inl sd2_8))]) (cx := [(h, .inr (3, [.ref g0, .ref g1, .ref g2, .int (nI qm), .ref g4, .int 0, .int kn, .int kl, .ref g8, .ref g9, .ref g10, .ref g11, va_rf lst])), (g0, .inl (ca 0, 36, .inl ws)), (g9, .inl (ca 0, 6, .inl ct2_8)), (g10, .inl (ca 0, 6, .inl sd2_8)), (g11, .inl (ca 0, 6, .inl wt))]) [5, 0, 7, 8, 4] rfl
        have hDc := hD.part (X := [(g0, .inl (ca 0, 36, .inl ws)), (g1, .inl (ca 0, 10, .inl qd)), (g4, .inl (ca 0, 10, .inl od)), (g8, .inl (ca 1, 10, .inl us)), (g11, .inl (ca 0, 6, .inl wt)), (h, .inr (3, [.ref g0, .ref g1, .ref g2, .int (nI qm), .ref g4, .int 0, .int kn, .int kl, .ref g8, .ref g9, .ref g10, .ref g11, va_rf lst])), (g2, .inl (ca 0, 10, .inl kd)), (g9, .inl (ca 0, 6, .inl ct2_8)), (g10, .inl (ca 0, 6, .inl sd2_8))]) (cx := [(h, .inr (3, [.ref g0, .ref g1, .ref g2, .int (nI qm), .ref g4, .int 0, .int kn, .int kl, .ref g8, .ref g9, .ref g10, .ref g11, va_rf lst])), (g0, .inl (ca 0, 36, .inl ws)), (g9, .inl (ca 0, 6, .inl ct2_8)), (g10, .inl (ca 0, 6, .inl sd2_8)), (g11, .inl (ca 0, 6, .inl wt))]) [5, 0, 7, 8, 4] (by decide) rfl
        have hFc := va_freeP (X := [(g0, .inl (ca 0, 36, .inl ws)), (g1, .inl (ca 0, 10, .inl qd)), (g4, .inl (ca 0, 10, .inl od)), (g8, .inl (ca 1, 10, .inl us)), (g11, .inl (ca 0, 6, .inl wt)), (h, .inr (3, [.ref g0, .ref g1, .ref g2, .int (nI qm), .ref g4, .int 0, .int kn, .int kl, .ref g8, .ref g9, .ref g10, .ref g11, va_rf lst])), (g2, .inl (ca 0, 10, .inl kd)), (g9, .inl (ca 0, 6, .inl ct2_8)), (g10, .inl (ca 0, 6, .inl sd2_8))]) (cx := [(h, .inr (3, [.ref g0, .ref g1, .ref g2, .int (nI qm), .ref g4, .int 0, .int kn, .int kl, .ref g8, .ref g9, .ref g10, .ref g11, va_rf lst])), (g0, .inl (ca 0, 36, .inl ws)), (g9, .inl (ca 0, 6, .inl ct2_8)), (g10, .inl (ca 0, 6, .inl sd2_8)), (g11, .inl (ca 0, 6, .inl wt))]) hD hS hA [5, 0, 7, 8, 4] rfl
        refine va_callv (va_runV (As := [.int (nI n), .int v1]) (rest := []) ⟨hx, hb, hml, hown, hts⟩ (e_findLeast l dC dI ca H.size h g0 g1 g2 g4 g8 g9 g10 g11 qm 0 kn kl lst ws ct2_8 sd2_8 wt LE n v1 tl ⟨hn1, hn2⟩ hsd) (⟨callB_of 2 hts (gd mw_822) rfl rfl rfl (hts _ mw_5) (hts _ mw_819) ds_X3_findLeast ⟨Nat.le_of_ble_eq_true rfl, Nat.le_of_ble_eq_true rfl⟩, (hts _ mw_821), (hts _ mp_29)⟩) (pr_V hPc hK hDc hE (va_recv hK hPc (ci := 3) (q0 := 0) rfl rfl)) rfl rfl hl.1 rfl (lv_room (Nat.le_of_ble_eq_true rfl)) dX3_findOrder_36 ⟨by show 0 + (oM lst) ≤ (oM lst); omega, by show 0 + (1944 * oM lst) ≤ (1944 * oM lst); omega⟩) hS (fun q _ h => hFc q h) hFc (fun u_ t_ H1 locs ht hvm hw_ hB hz1 hk1 hS => ?_)
        obtain ⟨lq_9, LE2_9, wt2_9⟩ := u_
        obtain ⟨hP1, hD1⟩ := hB
        rw [ht] at hP1
        obtain ⟨hP, hD⟩ := va_joinP (X := [(g0, .inl (ca 0, 36, .inl ws)), (g1, .inl (ca 0, 10, .inl qd)), (g4, .inl (ca 0, 10, .inl od)), (g8, .inl (ca 1, 10, .inl us)), (g11, .inl (ca 0, 6, .inl wt)), (h, .inr (3, [.ref g0, .ref g1, .ref g2, .int (nI qm), .ref g4, .int 0, .int kn, .int kl, .ref g8, .ref g9, .ref g10, .ref g11, va_rf lst])), (g2, .inl (ca 0, 10, .inl kd)), (g9, .inl (ca 0, 6, .inl ct2_8)), (g10, .inl (ca 0, 6, .inl sd2_8))]) (cx := [(h, .inr (3, [.ref g0, .ref g1, .ref g2, .int (nI qm), .ref g4, .int 0, .int kn, .int kl, .ref g8, .ref g9, .ref g10, .ref g11, va_rf lst])), (g0, .inl (ca 0, 36, .inl ws)), (g9, .inl (ca 0, 6, .inl ct2_8)), (g10, .inl (ca 0, 6, .inl sd2_8)), (g11, .inl (ca 0, 6, .inl wt))]) (wr := [(g1, .inl (ca 0, 10, .inl qd)), (g4, .inl (ca 0, 10, .inl od)), (g8, .inl (ca 1, 10, .inl us)), (g2, .inl (ca 0, 10, .inl kd))]) (rx := [(h, .inr (3, [.ref g0, .ref g1, .ref g2, .int (nI qm), .ref g4, .int 0, .int kn, .int kl, .ref g8, .ref g9, .ref g10, .ref g11, .ref lq_9])), (g0, .inl (ca 0, 36, .inl ws)), (g9, .inl (ca 0, 6, .inl ct2_8)), (g10, .inl (ca 0, 6, .inl sd2_8)), (g11, .inl (ca 0, 6, .inl wt2_9)), (lq_9, .inl (ca 0, 1944, .inl LE2_9))]) (pl1 := tl) hP hD [5, 0, 7, 8, 4] [1, 2, 3, 6] rfl rfl (by decide) (by decide) hk1 hFc hP1 hD1
        generalize H1 = H at hP hS ⊢
        have hP : va_P (dC, dI) vwCl ([(g1, .inl (ca 0, 10, .inl qd)), (g4, .inl (ca 0, 10, .inl od)), (g8, .inl (ca 1, 10, .inl us)), (g2, .inl (ca 0, 10, .inl kd)), (h, .inr (3, [.ref g0, .ref g1, .ref g2, .int (nI qm), .ref g4, .int 0, .int kn, .int kl, .ref g8, .ref g9, .ref g10, .ref g11, .ref lq_9])), (g0, .inl (ca 0, 36, .inl ws)), (g9, .inl (ca 0, 6, .inl ct2_8)), (g10, .inl (ca 0, 6, .inl sd2_8)), (g11, .inl (ca 0, 6, .inl wt2_9)), (lq_9, .inl (ca 0, 1944, .inl LE2_9))] ++ tl) H := hP
        have hD : va_D A ([(g1, .inl (ca 0, 10, .inl qd)), (g4, .inl (ca 0, 10, .inl od)), (g8, .inl (ca 1, 10, .inl us)), (g2, .inl (ca 0, 10, .inl kd)), (h, .inr (3, [.ref g0, .ref g1, .ref g2, .int (nI qm), .ref g4, .int 0, .int kn, .int kl, .ref g8, .ref g9, .ref g10, .ref g11, .ref lq_9])), (g0, .inl (ca 0, 36, .inl ws)), (g9, .inl (ca 0, 6, .inl ct2_8)), (g10, .inl (ca 0, 6, .inl sd2_8)), (g11, .inl (ca 0, 6, .inl wt2_9)), (lq_9, .inl (ca 0, 1944, .inl LE2_9))] ++ tl) := hD
        refine lv_aload_n hx hb dX3_findOrder_39 rfl (lv_at hl 1 rfl) ?_
        refine lv_iload_n hx hb dX3_findOrder_40 rfl (lv_at hl 0 rfl) ?_
        refine lv_iconst (v := 1) hx hb dX3_findOrder_41 (by decide) ?_
        refine lv_isub hx hb dX3_findOrder_42 ?_
        refine lv_topi (fun y_ e_ => ?_)
        obtain rfl : y_ = (nI (n - 1)) := e_.trans (pk_sub (show 1 ≤ n by omega))
        refine lv_iload_n hx hb dX3_findOrder_43 rfl (lv_at hl 2 rfl) ?_
        have hPc := hP.sub (ws' := [(h, .inr (3, [.ref g0, .ref g1, .ref g2, .int (nI qm), .ref g4, .int 0, .int kn, .int kl, .ref g8, .ref g9, .ref g10, .ref g11, .ref lq_9])), (g0, .inl (ca 0, 36, .inl ws)), (g1, .inl (ca 0, 10, .inl qd)), (g2, .inl (ca 0, 10, .inl kd)), (g4, .inl (ca 0, 10, .inl od)), (g8, .inl (ca 1, 10, .inl us)), (g9, .inl (ca 0, 6, .inl ct2_8)), (g10, .inl (ca 0, 6, .inl sd2_8)), (g11, .inl (ca 0, 6, .inl wt2_9)), (lq_9, .inl (ca 0, 1944, .inl LE2_9))]) [4, 5, 0, 3, 1, 2, 6, 7, 8, 9] rfl
        have hDc := hD.sub (ws' := [(h, .inr (3, [.ref g0, .ref g1, .ref g2, .int (nI qm), .ref g4, .int 0, .int kn, .int kl, .ref g8, .ref g9, .ref g10, .ref g11, .ref lq_9])), (g0, .inl (ca 0, 36, .inl ws)), (g1, .inl (ca 0, 10, .inl qd)), (g2, .inl (ca 0, 10, .inl kd)), (g4, .inl (ca 0, 10, .inl od)), (g8, .inl (ca 1, 10, .inl us)), (g9, .inl (ca 0, 6, .inl ct2_8)), (g10, .inl (ca 0, 6, .inl sd2_8)), (g11, .inl (ca 0, 6, .inl wt2_9)), (lq_9, .inl (ca 0, 1944, .inl LE2_9))]) [4, 5, 0, 3, 1, 2, 6, 7, 8, 9] (by decide) rfl
        have hFc := va_free (wc := [(h, .inr (3, [.ref g0, .ref g1, .ref g2, .int (nI qm), .ref g4, .int 0, .int kn, .int kl, .ref g8, .ref g9, .ref g10, .ref g11, .ref lq_9])), (g0, .inl (ca 0, 36, .inl ws)), (g1, .inl (ca 0, 10, .inl qd)), (g2, .inl (ca 0, 10, .inl kd)), (g4, .inl (ca 0, 10, .inl od)), (g8, .inl (ca 1, 10, .inl us)), (g9, .inl (ca 0, 6, .inl ct2_8)), (g10, .inl (ca 0, 6, .inl sd2_8)), (g11, .inl (ca 0, 6, .inl wt2_9)), (lq_9, .inl (ca 0, 1944, .inl LE2_9))]) hD hS hA [4, 5, 0, 3, 1, 2, 6, 7, 8, 9] rfl
        refine va_callv (va_runV (As := [.int (nI (n - 1)), .int v1]) (rest := []) ⟨hx, hb, hml, hown, hts⟩ (e_followLeast l dC dI ca H.size h g0 g1 g2 g4 g8 g9 g10 g11 qm 0 kn kl ws qd kd od us ct2_8 sd2_8 wt2_9 lq_9 LE2_9 (n - 1) v1 hq (by omega) hsd) (⟨callB_of 2 hts (gd mw_847) rfl rfl rfl (hts _ mw_5) (hts _ mw_844) ds_X3_followLeast ⟨Nat.le_of_ble_eq_true rfl, Nat.le_of_ble_eq_true rfl⟩, (hts _ mw_846), (hts _ mp_35)⟩) (pr_V hPc hK hDc hE (va_recv hK hPc (ci := 3) (q0 := 0) rfl rfl)) rfl rfl hl.1 rfl (lv_room (Nat.le_of_ble_eq_true rfl)) dX3_findOrder_44 ⟨by show (0 + (oM lst)) + 0 ≤ (oM lst); omega, by show (0 + (1944 * oM lst)) + 0 ≤ (1944 * oM lst); omega⟩) hS (fun q _ h => hFc q h) hFc (fun u_ t_ H1 locs ht hvm hw_ hB hz1 hk1 hS => ?_)
        obtain ⟨om2_10, od2_10, us2_10, wt2_10⟩ := u_
        obtain ⟨hP1, hD1⟩ := hB
        rw [ht] at hP1
        obtain ⟨hP, hD⟩ := va_joinQ (X := [(g1, .inl (ca 0, 10, .inl qd)), (g4, .inl (ca 0, 10, .inl od)), (g8, .inl (ca 1, 10, .inl us)), (g2, .inl (ca 0, 10, .inl kd)), (h, .inr (3, [.ref g0, .ref g1, .ref g2, .int (nI qm), .ref g4, .int 0, .int kn, .int kl, .ref g8, .ref g9, .ref g10, .ref g11, .ref lq_9])), (g0, .inl (ca 0, 36, .inl ws)), (g9, .inl (ca 0, 6, .inl ct2_8)), (g10, .inl (ca 0, 6, .inl sd2_8)), (g11, .inl (ca 0, 6, .inl wt2_9)), (lq_9, .inl (ca 0, 1944, .inl LE2_9))]) (cx := [(h, .inr (3, [.ref g0, .ref g1, .ref g2, .int (nI qm), .ref g4, .int 0, .int kn, .int kl, .ref g8, .ref g9, .ref g10, .ref g11, .ref lq_9])), (g0, .inl (ca 0, 36, .inl ws)), (g1, .inl (ca 0, 10, .inl qd)), (g2, .inl (ca 0, 10, .inl kd)), (g4, .inl (ca 0, 10, .inl od)), (g8, .inl (ca 1, 10, .inl us)), (g9, .inl (ca 0, 6, .inl ct2_8)), (g10, .inl (ca 0, 6, .inl sd2_8)), (g11, .inl (ca 0, 6, .inl wt2_9)), (lq_9, .inl (ca 0, 1944, .inl LE2_9))]) (wr := []) (w1 := [(h, .inr (3, [.ref g0, .ref g1, .ref g2, .int (nI qm), .ref g4, .int om2_10, .int kn, .int kl, .ref g8, .ref g9, .ref g10, .ref g11, .ref lq_9])), (g0, .inl (ca 0, 36, .inl ws)), (g1, .inl (ca 0, 10, .inl qd)), (g2, .inl (ca 0, 10, .inl kd)), (g4, .inl (ca 0, 10, .inl od2_10)), (g8, .inl (ca 1, 10, .inl us2_10)), (g9, .inl (ca 0, 6, .inl ct2_8)), (g10, .inl (ca 0, 6, .inl sd2_8)), (g11, .inl (ca 0, 6, .inl wt2_10)), (lq_9, .inl (ca 0, 1944, .inl LE2_9))]) hP hD [4, 5, 0, 3, 1, 2, 6, 7, 8, 9] [] rfl rfl (by decide) (by decide) hk1 hFc hP1 hD1
        generalize H1 = H at hP hS ⊢
        have hP : va_P (dC, dI) vwCl (@HAppend.hAppend va_W va_W va_W _ [(h, .inr (3, [.ref g0, .ref g1, .ref g2, .int (nI qm), .ref g4, .int om2_10, .int kn, .int kl, .ref g8, .ref g9, .ref g10, .ref g11, .ref lq_9])), (g0, .inl (ca 0, 36, .inl ws)), (g1, .inl (ca 0, 10, .inl qd)), (g2, .inl (ca 0, 10, .inl kd)), (g4, .inl (ca 0, 10, .inl od2_10)), (g8, .inl (ca 1, 10, .inl us2_10)), (g9, .inl (ca 0, 6, .inl ct2_8)), (g10, .inl (ca 0, 6, .inl sd2_8)), (g11, .inl (ca 0, 6, .inl wt2_10)), (lq_9, .inl (ca 0, 1944, .inl LE2_9))] tl) H := hP
        have hD : va_D A ([(h, .inr (3, [.ref g0, .ref g1, .ref g2, .int (nI qm), .ref g4, .int om2_10, .int kn, .int kl, .ref g8, .ref g9, .ref g10, .ref g11, .ref lq_9])), (g0, .inl (ca 0, 36, .inl ws)), (g1, .inl (ca 0, 10, .inl qd)), (g2, .inl (ca 0, 10, .inl kd)), (g4, .inl (ca 0, 10, .inl od2_10)), (g8, .inl (ca 1, 10, .inl us2_10)), (g9, .inl (ca 0, 6, .inl ct2_8)), (g10, .inl (ca 0, 6, .inl sd2_8)), (g11, .inl (ca 0, 6, .inl wt2_10)), (lq_9, .inl (ca 0, 1944, .inl LE2_9))] ++ tl) := hD
        refine lv_aload_n hx hb dX3_findOrder_47 rfl (lv_at hl 1 rfl) ?_
        refine lv_iconst (v := 1) hx hb dX3_findOrder_48 (by decide) ?_
        refine va_put (D := (dC, dI)) (ci := 3) (v := .int 1) (ty := .boolean) (C := RX3) (T := TX3) (N := 13) hx hb hts inX3 tyX3 tyX3_ok nmX3 hown hK hP hD hS 0 rfl rfl 6 (by decide) (hts _ mw_113) (fun _ h9 => h9) rfl (by decide +kernel) rfl rfl (Nat.le_of_ble_eq_true rfl) dX3_findOrder_49 (fun H locs hP hD hS => ?_)
        have hP : va_P (dC, dI) vwCl (@HAppend.hAppend va_W va_W va_W _ [(h, .inr (3, [.ref g0, .ref g1, .ref g2, .int (nI qm), .ref g4, .int om2_10, .int 1, .int kl, .ref g8, .ref g9, .ref g10, .ref g11, .ref lq_9])), (g0, .inl (ca 0, 36, .inl ws)), (g1, .inl (ca 0, 10, .inl qd)), (g2, .inl (ca 0, 10, .inl kd)), (g4, .inl (ca 0, 10, .inl od2_10)), (g8, .inl (ca 1, 10, .inl us2_10)), (g9, .inl (ca 0, 6, .inl ct2_8)), (g10, .inl (ca 0, 6, .inl sd2_8)), (g11, .inl (ca 0, 6, .inl wt2_10)), (lq_9, .inl (ca 0, 1944, .inl LE2_9))] tl) H := hP
        have hD : va_D A ([(h, .inr (3, [.ref g0, .ref g1, .ref g2, .int (nI qm), .ref g4, .int om2_10, .int 1, .int kl, .ref g8, .ref g9, .ref g10, .ref g11, .ref lq_9])), (g0, .inl (ca 0, 36, .inl ws)), (g1, .inl (ca 0, 10, .inl qd)), (g2, .inl (ca 0, 10, .inl kd)), (g4, .inl (ca 0, 10, .inl od2_10)), (g8, .inl (ca 1, 10, .inl us2_10)), (g9, .inl (ca 0, 6, .inl ct2_8)), (g10, .inl (ca 0, 6, .inl sd2_8)), (g11, .inl (ca 0, 6, .inl wt2_10)), (lq_9, .inl (ca 0, 1944, .inl LE2_9))] ++ tl) := hD
        refine lv_aload_n hx hb dX3_findOrder_52 rfl (lv_at hl 1 rfl) ?_
        refine lv_iload_n hx hb dX3_findOrder_53 rfl (lv_at hl 2 rfl) ?_
        refine va_put (D := (dC, dI)) (ci := 3) (v := .int v1) (ty := .boolean) (C := RX3) (T := TX3) (N := 13) hx hb hts inX3 tyX3 tyX3_ok nmX3 hown hK hP hD hS 0 rfl rfl 7 (by decide) (hts _ mw_114) (fun _ h9 => h9) rfl (by decide +kernel) (zb_n (by first | exact wi_z _ _ _ | assumption | exact Or.inl rfl | exact Or.inr rfl)) (zb_f (by first | exact wi_z _ _ _ | assumption | exact Or.inl rfl | exact Or.inr rfl)) (Nat.le_of_ble_eq_true rfl) dX3_findOrder_54 (fun H locs hP hD hS => ?_)
        have hP : va_P (dC, dI) vwCl (@HAppend.hAppend va_W va_W va_W _ [(h, .inr (3, [.ref g0, .ref g1, .ref g2, .int (nI qm), .ref g4, .int om2_10, .int 1, .int v1, .ref g8, .ref g9, .ref g10, .ref g11, .ref lq_9])), (g0, .inl (ca 0, 36, .inl ws)), (g1, .inl (ca 0, 10, .inl qd)), (g2, .inl (ca 0, 10, .inl kd)), (g4, .inl (ca 0, 10, .inl od2_10)), (g8, .inl (ca 1, 10, .inl us2_10)), (g9, .inl (ca 0, 6, .inl ct2_8)), (g10, .inl (ca 0, 6, .inl sd2_8)), (g11, .inl (ca 0, 6, .inl wt2_10)), (lq_9, .inl (ca 0, 1944, .inl LE2_9))] tl) H := hP
        have hD : va_D A ([(h, .inr (3, [.ref g0, .ref g1, .ref g2, .int (nI qm), .ref g4, .int om2_10, .int 1, .int v1, .ref g8, .ref g9, .ref g10, .ref g11, .ref lq_9])), (g0, .inl (ca 0, 36, .inl ws)), (g1, .inl (ca 0, 10, .inl qd)), (g2, .inl (ca 0, 10, .inl kd)), (g4, .inl (ca 0, 10, .inl od2_10)), (g8, .inl (ca 1, 10, .inl us2_10)), (g9, .inl (ca 0, 6, .inl ct2_8)), (g10, .inl (ca 0, 6, .inl sd2_8)), (g11, .inl (ca 0, 6, .inl wt2_10)), (lq_9, .inl (ca 0, 1944, .inl LE2_9))] ++ tl) := hD
        refine W.widen (k := (oM lst)) (n := (1944 * oM lst)) (by omega) (by omega) ?_
        have hP9 : va_P (dC, dI) vwCl (@HAppend.hAppend va_W va_W va_W _ [(h, .inr (3, [.ref g0, .ref g1, .ref g2, .int (nI qm), .ref g4, .int om2_10, .int 1, .int v1, .ref g8, .ref g9, .ref g10, .ref g11, va_rf (some lq_9)])), (g0, .inl (ca 0, 36, .inl ws)), (g1, .inl (ca 0, 10, .inl qd)), (g2, .inl (ca 0, 10, .inl kd)), (g4, .inl (ca 0, 10, .inl od2_10)), (g8, .inl (ca 1, 10, .inl us2_10)), (g9, .inl (ca 0, 6, .inl ct2_8)), (g10, .inl (ca 0, 6, .inl sd2_8)), (g11, .inl (ca 0, 6, .inl wt2_10))] (@HAppend.hAppend va_W va_W va_W _ (oL ca (some lq_9) LE2_9) tl)) H := va_P.part (X := [(h, .inr (3, [.ref g0, .ref g1, .ref g2, .int (nI qm), .ref g4, .int om2_10, .int 1, .int v1, .ref g8, .ref g9, .ref g10, .ref g11, .ref lq_9])), (g0, .inl (ca 0, 36, .inl ws)), (g1, .inl (ca 0, 10, .inl qd)), (g2, .inl (ca 0, 10, .inl kd)), (g4, .inl (ca 0, 10, .inl od2_10)), (g8, .inl (ca 1, 10, .inl us2_10)), (g9, .inl (ca 0, 6, .inl ct2_8)), (g10, .inl (ca 0, 6, .inl sd2_8)), (g11, .inl (ca 0, 6, .inl wt2_10)), (lq_9, .inl (ca 0, 1944, .inl LE2_9))]) (cx := [(h, .inr (3, [.ref g0, .ref g1, .ref g2, .int (nI qm), .ref g4, .int om2_10, .int 1, .int v1, .ref g8, .ref g9, .ref g10, .ref g11, .ref lq_9])), (g0, .inl (ca 0, 36, .inl ws)), (g1, .inl (ca 0, 10, .inl qd)), (g2, .inl (ca 0, 10, .inl kd)), (g4, .inl (ca 0, 10, .inl od2_10)), (g8, .inl (ca 1, 10, .inl us2_10)), (g9, .inl (ca 0, 6, .inl ct2_8)), (g10, .inl (ca 0, 6, .inl sd2_8)), (g11, .inl (ca 0, 6, .inl wt2_10)), (lq_9, .inl (ca 0, 1944, .inl LE2_9))]) hP [0, 1, 2, 3, 4, 5, 6, 7, 8, 9] rfl
        have hD9 : va_D A (@HAppend.hAppend va_W va_W va_W _ [(h, .inr (3, [.ref g0, .ref g1, .ref g2, .int (nI qm), .ref g4, .int om2_10, .int 1, .int v1, .ref g8, .ref g9, .ref g10, .ref g11, va_rf (some lq_9)])), (g0, .inl (ca 0, 36, .inl ws)), (g1, .inl (ca 0, 10, .inl qd)), (g2, .inl (ca 0, 10, .inl kd)), (g4, .inl (ca 0, 10, .inl od2_10)), (g8, .inl (ca 1, 10, .inl us2_10)), (g9, .inl (ca 0, 6, .inl ct2_8)), (g10, .inl (ca 0, 6, .inl sd2_8)), (g11, .inl (ca 0, 6, .inl wt2_10))] (@HAppend.hAppend va_W va_W va_W _ (oL ca (some lq_9) LE2_9) tl)) := va_D.part (X := [(h, .inr (3, [.ref g0, .ref g1, .ref g2, .int (nI qm), .ref g4, .int om2_10, .int 1, .int v1, .ref g8, .ref g9, .ref g10, .ref g11, .ref lq_9])), (g0, .inl (ca 0, 36, .inl ws)), (g1, .inl (ca 0, 10, .inl qd)), (g2, .inl (ca 0, 10, .inl kd)), (g4, .inl (ca 0, 10, .inl od2_10)), (g8, .inl (ca 1, 10, .inl us2_10)), (g9, .inl (ca 0, 6, .inl ct2_8)), (g10, .inl (ca 0, 6, .inl sd2_8)), (g11, .inl (ca 0, 6, .inl wt2_10)), (lq_9, .inl (ca 0, 1944, .inl LE2_9))]) (cx := [(h, .inr (3, [.ref g0, .ref g1, .ref g2, .int (nI qm), .ref g4, .int om2_10, .int 1, .int v1, .ref g8, .ref g9, .ref g10, .ref g11, .ref lq_9])), (g0, .inl (ca 0, 36, .inl ws)), (g1, .inl (ca 0, 10, .inl qd)), (g2, .inl (ca 0, 10, .inl kd)), (g4, .inl (ca 0, 10, .inl od2_10)), (g8, .inl (ca 1, 10, .inl us2_10)), (g9, .inl (ca 0, 6, .inl ct2_8)), (g10, .inl (ca 0, 6, .inl sd2_8)), (g11, .inl (ca 0, 6, .inl wt2_10)), (lq_9, .inl (ca 0, 1944, .inl LE2_9))]) hD [0, 1, 2, 3, 4, 5, 6, 7, 8, 9] (by decide) rfl
        exact W.vret hx hb hr (fun t ht hW => ⟨⟨(om2_10, 1, v1, (some lq_9), LE2_9, od2_10, us2_10, ct2_8, sd2_8, wt2_10), rfl, trivial, by rw [ht]; exact hP9, hD9⟩, hS.F ht⟩) hS.2.2 dX3_findOrder_57
    · refine W.widen (k := (oM lst)) (n := (1944 * oM lst)) (by omega) (by omega) ?_
      have hP9 : va_P (dC, dI) vwCl (@HAppend.hAppend va_W va_W va_W _ [(h, .inr (3, [.ref g0, .ref g1, .ref g2, .int (nI qm), .ref g4, .int om, .int kn, .int kl, .ref g8, .ref g9, .ref g10, .ref g11, va_rf lst])), (g0, .inl (ca 0, 36, .inl ws)), (g1, .inl (ca 0, 10, .inl qd)), (g2, .inl (ca 0, 10, .inl kd)), (g4, .inl (ca 0, 10, .inl od)), (g8, .inl (ca 1, 10, .inl us)), (g9, .inl (ca 0, 6, .inl ct)), (g10, .inl (ca 0, 6, .inl sd)), (g11, .inl (ca 0, 6, .inl wt))] (@HAppend.hAppend va_W va_W va_W _ (oL ca lst LE) tl)) s.heap := va_P.part (X := [(h, .inr (3, [.ref g0, .ref g1, .ref g2, .int (nI qm), .ref g4, .int om, .int kn, .int kl, .ref g8, .ref g9, .ref g10, .ref g11, va_rf lst])), (g0, .inl (ca 0, 36, .inl ws)), (g1, .inl (ca 0, 10, .inl qd)), (g2, .inl (ca 0, 10, .inl kd)), (g4, .inl (ca 0, 10, .inl od)), (g8, .inl (ca 1, 10, .inl us)), (g9, .inl (ca 0, 6, .inl ct)), (g10, .inl (ca 0, 6, .inl sd)), (g11, .inl (ca 0, 6, .inl wt))]) hP [0, 1, 2, 3, 4, 5, 6, 7, 8] rfl
      have hD9 : va_D A (@HAppend.hAppend va_W va_W va_W _ [(h, .inr (3, [.ref g0, .ref g1, .ref g2, .int (nI qm), .ref g4, .int om, .int kn, .int kl, .ref g8, .ref g9, .ref g10, .ref g11, va_rf lst])), (g0, .inl (ca 0, 36, .inl ws)), (g1, .inl (ca 0, 10, .inl qd)), (g2, .inl (ca 0, 10, .inl kd)), (g4, .inl (ca 0, 10, .inl od)), (g8, .inl (ca 1, 10, .inl us)), (g9, .inl (ca 0, 6, .inl ct)), (g10, .inl (ca 0, 6, .inl sd)), (g11, .inl (ca 0, 6, .inl wt))] (@HAppend.hAppend va_W va_W va_W _ (oL ca lst LE) tl)) := va_D.part (X := [(h, .inr (3, [.ref g0, .ref g1, .ref g2, .int (nI qm), .ref g4, .int om, .int kn, .int kl, .ref g8, .ref g9, .ref g10, .ref g11, va_rf lst])), (g0, .inl (ca 0, 36, .inl ws)), (g1, .inl (ca 0, 10, .inl qd)), (g2, .inl (ca 0, 10, .inl kd)), (g4, .inl (ca 0, 10, .inl od)), (g8, .inl (ca 1, 10, .inl us)), (g9, .inl (ca 0, 6, .inl ct)), (g10, .inl (ca 0, 6, .inl sd)), (g11, .inl (ca 0, 6, .inl wt))]) hD [0, 1, 2, 3, 4, 5, 6, 7, 8] (by decide) rfl
      exact W.vret hx hb hr (fun t ht hW => ⟨⟨(om, kn, kl, lst, LE, od, us, ct, sd, wt), rfl, trivial, by rw [ht]; exact hP9, hD9⟩, hS.F ht⟩) hS.2.2 dX3_findOrder_15

set_option maxHeartbeats 4000000 in
set_option maxRecDepth 100000 in
theorem k_order (l : Launch) (dC : Nat → ClassId) (dI : Nat → Nat → Nat) (ca : Nat → ClassId) (sz : Nat) (x : Nat) (a : Nat → Nat) (nl : Nat) (nb : Nat) (np : Nat) (nx : Nat) (g0 : Nat) (g1 : Nat) (g2 : Nat) (g4 : Nat) (g8 : Nat) (g9 : Nat) (g10 : Nat) (g11 : Nat) (qm : Nat) (om : Int32) (kn : Int32) (kl : Int32) (lst : Option Nat) (ws : Nat → Int32) (qd : Nat → Int32) (kd : Nat → Int32) (od : Nat → Int32) (us : Nat → Int32) (ct : Nat → Int32) (sd : Nat → Int32) (wt : Nat → Int32) (LE : Nat → Int32) (tl : va_W) (v1 : Int32) (v2 : Int32) (hq : qI qm kd) (hz : v1 = 0 ∨ v1 = 1) : Met l yX10_order (Cond.code yX10_order cX10_order 3 (some .int) :: gT) ({ frames := 6, cells := (oM lst), slots := (1944 * oM lst), locals := 179 }) (va_Pc [.ref x, .int v1, .int v2] (pr (dC, dI) sz (@HAppend.hAppend va_W va_W va_W _ [(x, .inr (10, [.ref (a 0), .int (nI nl), .ref (a 2), .int (nI nb), .ref (a 4), .int (nI np), .ref (a 6), .int (nI nx), .ref (a 8), .ref (a 9), .ref (a 10), .ref (a 11), .ref (a 12), .ref (a 13), .ref (a 14)])), ((a 12), .inr (3, [.ref g0, .ref g1, .ref g2, .int (nI qm), .ref g4, .int om, .int kn, .int kl, .ref g8, .ref g9, .ref g10, .ref g11, va_rf lst])), (g0, .inl (ca 0, 36, .inl ws)), (g1, .inl (ca 0, 10, .inl qd)), (g2, .inl (ca 0, 10, .inl kd)), (g4, .inl (ca 0, 10, .inl od)), (g8, .inl (ca 1, 10, .inl us)), (g9, .inl (ca 0, 6, .inl ct)), (g10, .inl (ca 0, 6, .inl sd)), (g11, .inl (ca 0, 6, .inl wt))] (@HAppend.hAppend va_W va_W va_W _ (oL ca lst LE) tl)) (aT ca))) (va_Qi (fun (r : Int32) (u_ : Int32 × Int32 × Int32 × Option Nat × (Nat → Int32) × (Nat → Int32) × (Nat → Int32) × (Nat → Int32) × (Nat → Int32) × (Nat → Int32)) => True) (fun (u_ : Int32 × Int32 × Int32 × Option Nat × (Nat → Int32) × (Nat → Int32) × (Nat → Int32) × (Nat → Int32) × (Nat → Int32) × (Nat → Int32)) t => va_P (dC, dI) vwCl (@HAppend.hAppend va_W va_W va_W _ [(x, .inr (10, [.ref (a 0), .int (nI nl), .ref (a 2), .int (nI nb), .ref (a 4), .int (nI np), .ref (a 6), .int (nI nx), .ref (a 8), .ref (a 9), .ref (a 10), .ref (a 11), .ref (a 12), .ref (a 13), .ref (a 14)])), ((a 12), .inr (3, [.ref g0, .ref g1, .ref g2, .int (nI qm), .ref g4, .int u_.1, .int u_.2.1, .int u_.2.2.1, .ref g8, .ref g9, .ref g10, .ref g11, va_rf u_.2.2.2.1])), (g0, .inl (ca 0, 36, .inl ws)), (g1, .inl (ca 0, 10, .inl qd)), (g2, .inl (ca 0, 10, .inl kd)), (g4, .inl (ca 0, 10, .inl u_.2.2.2.2.2.1)), (g8, .inl (ca 1, 10, .inl u_.2.2.2.2.2.2.1)), (g9, .inl (ca 0, 6, .inl u_.2.2.2.2.2.2.2.1)), (g10, .inl (ca 0, 6, .inl u_.2.2.2.2.2.2.2.2.1)), (g11, .inl (ca 0, 6, .inl u_.2.2.2.2.2.2.2.2.2))] (@HAppend.hAppend va_W va_W va_W _ (oL ca u_.2.2.2.1 u_.2.2.2.2.1) tl)) t.heap ∧ va_D (va_A (@HAppend.hAppend va_W va_W va_W _ [(x, .inr (10, [.ref (a 0), .int (nI nl), .ref (a 2), .int (nI nb), .ref (a 4), .int (nI np), .ref (a 6), .int (nI nx), .ref (a 8), .ref (a 9), .ref (a 10), .ref (a 11), .ref (a 12), .ref (a 13), .ref (a 14)])), ((a 12), .inr (3, [.ref g0, .ref g1, .ref g2, .int (nI qm), .ref g4, .int om, .int kn, .int kl, .ref g8, .ref g9, .ref g10, .ref g11, va_rf lst])), (g0, .inl (ca 0, 36, .inl ws)), (g1, .inl (ca 0, 10, .inl qd)), (g2, .inl (ca 0, 10, .inl kd)), (g4, .inl (ca 0, 10, .inl od)), (g8, .inl (ca 1, 10, .inl us)), (g9, .inl (ca 0, 6, .inl ct)), (g10, .inl (ca 0, 6, .inl sd)), (g11, .inl (ca 0, 6, .inl wt))] (@HAppend.hAppend va_W va_W va_W _ (oL ca lst LE) tl)) sz) (@HAppend.hAppend va_W va_W va_W _ [(x, .inr (10, [.ref (a 0), .int (nI nl), .ref (a 2), .int (nI nb), .ref (a 4), .int (nI np), .ref (a 6), .int (nI nx), .ref (a 8), .ref (a 9), .ref (a 10), .ref (a 11), .ref (a 12), .ref (a 13), .ref (a 14)])), ((a 12), .inr (3, [.ref g0, .ref g1, .ref g2, .int (nI qm), .ref g4, .int u_.1, .int u_.2.1, .int u_.2.2.1, .ref g8, .ref g9, .ref g10, .ref g11, va_rf u_.2.2.2.1])), (g0, .inl (ca 0, 36, .inl ws)), (g1, .inl (ca 0, 10, .inl qd)), (g2, .inl (ca 0, 10, .inl kd)), (g4, .inl (ca 0, 10, .inl u_.2.2.2.2.2.1)), (g8, .inl (ca 1, 10, .inl u_.2.2.2.2.2.2.1)), (g9, .inl (ca 0, 6, .inl u_.2.2.2.2.2.2.2.1)), (g10, .inl (ca 0, 6, .inl u_.2.2.2.2.2.2.2.2.1)), (g11, .inl (ca 0, 6, .inl u_.2.2.2.2.2.2.2.2.2))] (@HAppend.hAppend va_W va_W va_W _ (oL ca u_.2.2.2.1 u_.2.2.2.2.1) tl))) (va_A (@HAppend.hAppend va_W va_W va_W _ [(x, .inr (10, [.ref (a 0), .int (nI nl), .ref (a 2), .int (nI nb), .ref (a 4), .int (nI np), .ref (a 6), .int (nI nx), .ref (a 8), .ref (a 9), .ref (a 10), .ref (a 11), .ref (a 12), .ref (a 13), .ref (a 14)])), ((a 12), .inr (3, [.ref g0, .ref g1, .ref g2, .int (nI qm), .ref g4, .int om, .int kn, .int kl, .ref g8, .ref g9, .ref g10, .ref g11, va_rf lst])), (g0, .inl (ca 0, 36, .inl ws)), (g1, .inl (ca 0, 10, .inl qd)), (g2, .inl (ca 0, 10, .inl kd)), (g4, .inl (ca 0, 10, .inl od)), (g8, .inl (ca 1, 10, .inl us)), (g9, .inl (ca 0, 6, .inl ct)), (g10, .inl (ca 0, 6, .inl sd)), (g11, .inl (ca 0, 6, .inl wt))] (@HAppend.hAppend va_W va_W va_W _ (oL ca lst LE) tl)) sz)) (oM lst) (1944 * oM lst) (va_A (@HAppend.hAppend va_W va_W va_W _ [(x, .inr (10, [.ref (a 0), .int (nI nl), .ref (a 2), .int (nI nb), .ref (a 4), .int (nI np), .ref (a 6), .int (nI nx), .ref (a 8), .ref (a 9), .ref (a 10), .ref (a 11), .ref (a 12), .ref (a 13), .ref (a 14)])), ((a 12), .inr (3, [.ref g0, .ref g1, .ref g2, .int (nI qm), .ref g4, .int om, .int kn, .int kl, .ref g8, .ref g9, .ref g10, .ref g11, va_rf lst])), (g0, .inl (ca 0, 36, .inl ws)), (g1, .inl (ca 0, 10, .inl qd)), (g2, .inl (ca 0, 10, .inl kd)), (g4, .inl (ca 0, 10, .inl od)), (g8, .inl (ca 1, 10, .inl us)), (g9, .inl (ca 0, 6, .inl ct)), (g10, .inl (ca 0, 6, .inl sd)), (g11, .inl (ca 0, 6, .inl wt))] (@HAppend.hAppend va_W va_W va_W _ (oL ca lst LE) tl)) sz) := by
  refine Met.ofW (cc := cX10_order) (maxL := 3) (ret := (some .int)) (by decide) rfl ?_
  intro p e s m args below meth c s₁ B hml hv
  obtain ⟨rfl, hsz, hP, hK, hD0, hE⟩ := hv
  have hx := B.exec
  have hb := B.bytes
  have hr := B.returns
  have hts : ∀ w ∈ gT, w.before _ s = true := fun w h => atoms_spec (ws := Cond.code yX10_order cX10_order 3 (some .int) :: gT) B.pre w (List.mem_cons_of_mem _ h)
  have hown : s.vm.findClass RX10 = some m.cls := findClass_of_methodNamed B.named
  have hlocks := B.notSynchronized
  subst hsz
  have hD := hD0.self (sz := s.heap.size)
  generalize hAe : va_A (@HAppend.hAppend va_W va_W va_W _ [(x, .inr (10, [.ref (a 0), .int (nI nl), .ref (a 2), .int (nI nb), .ref (a 4), .int (nI np), .ref (a 6), .int (nI nx), .ref (a 8), .ref (a 9), .ref (a 10), .ref (a 11), .ref (a 12), .ref (a 13), .ref (a 14)])), ((a 12), .inr (3, [.ref g0, .ref g1, .ref g2, .int (nI qm), .ref g4, .int om, .int kn, .int kl, .ref g8, .ref g9, .ref g10, .ref g11, va_rf lst])), (g0, .inl (ca 0, 36, .inl ws)), (g1, .inl (ca 0, 10, .inl qd)), (g2, .inl (ca 0, 10, .inl kd)), (g4, .inl (ca 0, 10, .inl od)), (g8, .inl (ca 1, 10, .inl us)), (g9, .inl (ca 0, 6, .inl ct)), (g10, .inl (ca 0, 6, .inl sd)), (g11, .inl (ca 0, 6, .inl wt))] (@HAppend.hAppend va_W va_W va_W _ (oL ca lst LE) tl)) s.heap.size = A at hD ⊢
  have hA : ∀ q : Nat, s.heap.size ≤ q → A q := fun q h => by rw [← hAe]; exact Or.inr h
  have hS : va_S A s.heap s.heap [] := va_S.rf
  have hl := lv_entry ([.ref x, .int v1, .int v2]) (n := 3) (Nat.le_of_ble_eq_true rfl)
  rw [lg_entry_eq]
  generalize (lg_sl ([.ref x, .int v1, .int v2]) ++ List.replicate (3 - (lg_sl ([.ref x, .int v1, .int v2])).length) Slot.unset).toArray = ls at hl ⊢
  have hl : lv_has ls 3 [(0, .ref x), (1, .int v1), (2, .int v2)] := hl
  refine lv_aload_n hx hb dX10_order_0 rfl (lv_at hl 0 rfl) ?_
  refine va_get (D := (dC, dI)) (ci := 10) (v := .ref (a 12)) (C := RX10) (T := TX10) (N := 15) hx hb hts inX10 hown hK hP 0 rfl rfl 12 (by decide) (hts _ mw_213) (fun _ h9 => h9) rfl dX10_order_1 ?_
  refine lv_iload_n hx hb dX10_order_4 rfl (lv_at hl 1 rfl) ?_
  have hPc := hP.part (X := [(x, .inr (10, [.ref (a 0), .int (nI nl), .ref (a 2), .int (nI nb), .ref (a 4), .int (nI np), .ref (a 6), .int (nI nx), .ref (a 8), .ref (a 9), .ref (a 10), .ref (a 11), .ref (a 12), .ref (a 13), .ref (a 14)])), ((a 12), .inr (3, [.ref g0, .ref g1, .ref g2, .int (nI qm), .ref g4, .int om, .int kn, .int kl, .ref g8, .ref g9, .ref g10, .ref g11, va_rf lst])), (g0, .inl (ca 0, 36, .inl ws)), (g1, .inl (ca 0, 10, .inl qd)), (g2, .inl (ca 0, 10, .inl kd)), (g4, .inl (ca 0, 10, .inl od)), (g8, .inl (ca 1, 10, .inl us)), (g9, .inl (ca 0, 6, .inl ct)), (g10, .inl (ca 0, 6, .inl sd)), (g11, .inl (ca 0, 6, .inl wt))]) (cx := [((a 12), .inr (3, [.ref g0, .ref g1, .ref g2, .int (nI qm), .ref g4, .int om, .int kn, .int kl, .ref g8, .ref g9, .ref g10, .ref g11, va_rf lst])), (g0, .inl (ca 0, 36, .inl ws)), (g1, .inl (ca 0, 10, .inl qd)), (g2, .inl (ca 0, 10, .inl kd)), (g4, .inl (ca 0, 10, .inl od)), (g8, .inl (ca 1, 10, .inl us)), (g9, .inl (ca 0, 6, .inl ct)), (g10, .inl (ca 0, 6, .inl sd)), (g11, .inl (ca 0, 6, .inl wt))]) [1, 2, 3, 4, 5, 6, 7, 8, 9] rfl
  have hDc := hD.part (X := [(x, .inr (10, [.ref (a 0), .int (nI nl), .ref (a 2), .int (nI nb), .ref (a 4), .int (nI np), .ref (a 6), .int (nI nx), .ref (a 8), .ref (a 9), .ref (a 10), .ref (a 11), .ref (a 12), .ref (a 13), .ref (a 14)])), ((a 12), .inr (3, [.ref g0, .ref g1, .ref g2, .int (nI qm), .ref g4, .int om, .int kn, .int kl, .ref g8, .ref g9, .ref g10, .ref g11, va_rf lst])), (g0, .inl (ca 0, 36, .inl ws)), (g1, .inl (ca 0, 10, .inl qd)), (g2, .inl (ca 0, 10, .inl kd)), (g4, .inl (ca 0, 10, .inl od)), (g8, .inl (ca 1, 10, .inl us)), (g9, .inl (ca 0, 6, .inl ct)), (g10, .inl (ca 0, 6, .inl sd)), (g11, .inl (ca 0, 6, .inl wt))]) (cx := [((a 12), .inr (3, [.ref g0, .ref g1, .ref g2, .int (nI qm), .ref g4, .int om, .int kn, .int kl, .ref g8, .ref g9, .ref g10, .ref g11, va_rf lst])), (g0, .inl (ca 0, 36, .inl ws)), (g1, .inl (ca 0, 10, .inl qd)), (g2, .inl (ca 0, 10, .inl kd)), (g4, .inl (ca 0, 10, .inl od)), (g8, .inl (ca 1, 10, .inl us)), (g9, .inl (ca 0, 6, .inl ct)), (g10, .inl (ca 0, 6, .inl sd)), (g11, .inl (ca 0, 6, .inl wt))]) [1, 2, 3, 4, 5, 6, 7, 8, 9] (by decide) rfl
  have hFc := va_freeP (X := [(x, .inr (10, [.ref (a 0), .int (nI nl), .ref (a 2), .int (nI nb), .ref (a 4), .int (nI np), .ref (a 6), .int (nI nx), .ref (a 8), .ref (a 9), .ref (a 10), .ref (a 11), .ref (a 12), .ref (a 13), .ref (a 14)])), ((a 12), .inr (3, [.ref g0, .ref g1, .ref g2, .int (nI qm), .ref g4, .int om, .int kn, .int kl, .ref g8, .ref g9, .ref g10, .ref g11, va_rf lst])), (g0, .inl (ca 0, 36, .inl ws)), (g1, .inl (ca 0, 10, .inl qd)), (g2, .inl (ca 0, 10, .inl kd)), (g4, .inl (ca 0, 10, .inl od)), (g8, .inl (ca 1, 10, .inl us)), (g9, .inl (ca 0, 6, .inl ct)), (g10, .inl (ca 0, 6, .inl sd)), (g11, .inl (ca 0, 6, .inl wt))]) (cx := [((a 12), .inr (3, [.ref g0, .ref g1, .ref g2, .int (nI qm), .ref g4, .int om, .int kn, .int kl, .ref g8, .ref g9, .ref g10, .ref g11, va_rf lst])), (g0, .inl (ca 0, 36, .inl ws)), (g1, .inl (ca 0, 10, .inl qd)), (g2, .inl (ca 0, 10, .inl kd)), (g4, .inl (ca 0, 10, .inl od)), (g8, .inl (ca 1, 10, .inl us)), (g9, .inl (ca 0, 6, .inl ct)), (g10, .inl (ca 0, 6, .inl sd)), (g11, .inl (ca 0, 6, .inl wt))]) hD hS hA [1, 2, 3, 4, 5, 6, 7, 8, 9] rfl
  refine va_callv (va_runV (As := [.int v1]) (rest := []) ⟨hx, hb, hml, hown, hts⟩ (e_findOrder l dC dI ca s.heap.size (a 12) g0 g1 g2 g4 g8 g9 g10 g11 qm om kn kl lst ws qd kd od us ct sd wt LE v1 tl hq hz) (⟨callB_of 1 hts (gd mw_812) rfl rfl rfl (hts _ mw_5) (hts _ mw_809) ds_X3_findOrder ⟨Nat.le_of_ble_eq_true rfl, Nat.le_of_ble_eq_true rfl⟩, (hts _ mw_810), (hts _ mw_811)⟩) (pr_V hPc hK hDc hE (va_recv hK hPc (ci := 3) (q0 := 0) rfl rfl)) rfl rfl hl.1 rfl (lv_room (Nat.le_of_ble_eq_true rfl)) dX10_order_5 ⟨by show 0 + (oM lst) ≤ (oM lst); omega, by show 0 + (1944 * oM lst) ≤ (1944 * oM lst); omega⟩) hS (fun q _ h => hFc q h) hFc (fun u_ t_ H1 locs ht hvm hw_ hB hz1 hk1 hS => ?_)
  obtain ⟨om2_1, kn2_1, kl2_1, lst2_1, LE2_1, od2_1, us2_1, ct2_1, sd2_1, wt2_1⟩ := u_
  obtain ⟨hP1, hD1⟩ := hB
  rw [ht] at hP1
  obtain ⟨hP, hD⟩ := va_joinP (X := [(x, .inr (10, [.ref (a 0), .int (nI nl), .ref (a 2), .int (nI nb), .ref (a 4), .int (nI np), .ref (a 6), .int (nI nx), .ref (a 8), .ref (a 9), .ref (a 10), .ref (a 11), .ref (a 12), .ref (a 13), .ref (a 14)])), ((a 12), .inr (3, [.ref g0, .ref g1, .ref g2, .int (nI qm), .ref g4, .int om, .int kn, .int kl, .ref g8, .ref g9, .ref g10, .ref g11, va_rf lst])), (g0, .inl (ca 0, 36, .inl ws)), (g1, .inl (ca 0, 10, .inl qd)), (g2, .inl (ca 0, 10, .inl kd)), (g4, .inl (ca 0, 10, .inl od)), (g8, .inl (ca 1, 10, .inl us)), (g9, .inl (ca 0, 6, .inl ct)), (g10, .inl (ca 0, 6, .inl sd)), (g11, .inl (ca 0, 6, .inl wt))]) (cx := [((a 12), .inr (3, [.ref g0, .ref g1, .ref g2, .int (nI qm), .ref g4, .int om, .int kn, .int kl, .ref g8, .ref g9, .ref g10, .ref g11, va_rf lst])), (g0, .inl (ca 0, 36, .inl ws)), (g1, .inl (ca 0, 10, .inl qd)), (g2, .inl (ca 0, 10, .inl kd)), (g4, .inl (ca 0, 10, .inl od)), (g8, .inl (ca 1, 10, .inl us)), (g9, .inl (ca 0, 6, .inl ct)), (g10, .inl (ca 0, 6, .inl sd)), (g11, .inl (ca 0, 6, .inl wt))]) (wr := [(x, .inr (10, [.ref (a 0), .int (nI nl), .ref (a 2), .int (nI nb), .ref (a 4), .int (nI np), .ref (a 6), .int (nI nx), .ref (a 8), .ref (a 9), .ref (a 10), .ref (a 11), .ref (a 12), .ref (a 13), .ref (a 14)]))]) (rx := [((a 12), .inr (3, [.ref g0, .ref g1, .ref g2, .int (nI qm), .ref g4, .int om2_1, .int kn2_1, .int kl2_1, .ref g8, .ref g9, .ref g10, .ref g11, va_rf lst2_1])), (g0, .inl (ca 0, 36, .inl ws)), (g1, .inl (ca 0, 10, .inl qd)), (g2, .inl (ca 0, 10, .inl kd)), (g4, .inl (ca 0, 10, .inl od2_1)), (g8, .inl (ca 1, 10, .inl us2_1)), (g9, .inl (ca 0, 6, .inl ct2_1)), (g10, .inl (ca 0, 6, .inl sd2_1)), (g11, .inl (ca 0, 6, .inl wt2_1))]) (pl1 := (@HAppend.hAppend va_W va_W va_W _ (oL ca lst2_1 LE2_1) tl)) hP hD [1, 2, 3, 4, 5, 6, 7, 8, 9] [0] rfl rfl (by decide) (by decide) hk1 hFc hP1 hD1
  generalize H1 = H at hP hS ⊢
  have hP : va_P (dC, dI) vwCl (@HAppend.hAppend va_W va_W va_W _ [(x, .inr (10, [.ref (a 0), .int (nI nl), .ref (a 2), .int (nI nb), .ref (a 4), .int (nI np), .ref (a 6), .int (nI nx), .ref (a 8), .ref (a 9), .ref (a 10), .ref (a 11), .ref (a 12), .ref (a 13), .ref (a 14)])), ((a 12), .inr (3, [.ref g0, .ref g1, .ref g2, .int (nI qm), .ref g4, .int om2_1, .int kn2_1, .int kl2_1, .ref g8, .ref g9, .ref g10, .ref g11, va_rf lst2_1])), (g0, .inl (ca 0, 36, .inl ws)), (g1, .inl (ca 0, 10, .inl qd)), (g2, .inl (ca 0, 10, .inl kd)), (g4, .inl (ca 0, 10, .inl od2_1)), (g8, .inl (ca 1, 10, .inl us2_1)), (g9, .inl (ca 0, 6, .inl ct2_1)), (g10, .inl (ca 0, 6, .inl sd2_1)), (g11, .inl (ca 0, 6, .inl wt2_1))] (@HAppend.hAppend va_W va_W va_W _ (oL ca lst2_1 LE2_1) tl)) H := hP
  have hD : va_D A (@HAppend.hAppend va_W va_W va_W _ [(x, .inr (10, [.ref (a 0), .int (nI nl), .ref (a 2), .int (nI nb), .ref (a 4), .int (nI np), .ref (a 6), .int (nI nx), .ref (a 8), .ref (a 9), .ref (a 10), .ref (a 11), .ref (a 12), .ref (a 13), .ref (a 14)])), ((a 12), .inr (3, [.ref g0, .ref g1, .ref g2, .int (nI qm), .ref g4, .int om2_1, .int kn2_1, .int kl2_1, .ref g8, .ref g9, .ref g10, .ref g11, va_rf lst2_1])), (g0, .inl (ca 0, 36, .inl ws)), (g1, .inl (ca 0, 10, .inl qd)), (g2, .inl (ca 0, 10, .inl kd)), (g4, .inl (ca 0, 10, .inl od2_1)), (g8, .inl (ca 1, 10, .inl us2_1)), (g9, .inl (ca 0, 6, .inl ct2_1)), (g10, .inl (ca 0, 6, .inl sd2_1)), (g11, .inl (ca 0, 6, .inl wt2_1))] (@HAppend.hAppend va_W va_W va_W _ (oL ca lst2_1 LE2_1) tl)) := hD
  refine lv_iload_n hx hb dX10_order_8 rfl (lv_at hl 2 rfl) ?_
  refine lv_iconst (v := (-1)) hx hb dX10_order_9 (by decide) ?_
  refine lv_icmp_ne (tgt := 21) hx hb dX10_order_10 (by decide) (fun c_2 => ?_) (fun c_2 => ?_)
  · refine lv_iload_n hx hb dX10_order_21 rfl (lv_at hl 2 rfl) ?_
    refine lv_iconst (v := 0) hx hb dX10_order_22 (by decide) ?_
    refine lv_aload_n hx hb dX10_order_23 rfl (lv_at hl 0 rfl) ?_
    refine va_get (D := (dC, dI)) (ci := 10) (v := .ref (a 12)) (C := RX10) (T := TX10) (N := 15) hx hb hts inX10 hown hK hP 0 rfl rfl 12 (by decide) (hts _ mw_213) (fun _ h9 => h9) rfl dX10_order_24 ?_
    refine va_get (D := (dC, dI)) (ci := 3) (v := .int (nI qm)) (C := RX3) (T := TX3) (N := 13) hx hb hts inX3 hown hK hP 1 rfl rfl 3 (by decide) (hts _ mw_108) (fun _ h9 => h9) rfl dX10_order_27 ?_
    refine lv_iconst (v := 1) hx hb dX10_order_30 (by decide) ?_
    refine lv_isub hx hb dX10_order_31 ?_
    have hPc := hP.sub (ws' := []) [] rfl
    refine pc_i (va_runS (As := [.int v2, .int 0, .int ((nI qm) - 1)]) (rest := []) ⟨hx, hb, hml, hown, hts⟩ (c_within l dC dI ca v2 0 ((nI qm) - 1) ) (⟨callB_of 3 hts (gd mw_254) rfl rfl rfl (hts _ mw_1) (hts _ mw_252) ds_X10_within ⟨Nat.le_of_ble_eq_true rfl, Nat.le_of_ble_eq_true rfl⟩, (hts _ mw_253)⟩) (pu_S hPc hK hE) rfl rfl hl.1 rfl (lv_room (Nat.le_of_ble_eq_true rfl)) dX10_order_32 ⟨by show (0 + (oM lst)) + 0 ≤ (oM lst); omega, by show (0 + (1944 * oM lst)) + 0 ≤ (1944 * oM lst); omega⟩) (fun rv_3 hw_ => ?_)
    obtain rfl : rv_3 = (wi v2 0 ((nI qm) - 1)) := hw_
    refine lv_if_eq (tgt := 50) hx hb dX10_order_35 (by decide) (fun c_4 => ?_) (fun c_4 => ?_)
    · refine lv_iconst (v := (-1)) hx hb dX10_order_50 (by decide) ?_
      refine W.widen (k := (oM lst)) (n := (1944 * oM lst)) (by omega) (by omega) ?_
      have hP9 : va_P (dC, dI) vwCl (@HAppend.hAppend va_W va_W va_W _ [(x, .inr (10, [.ref (a 0), .int (nI nl), .ref (a 2), .int (nI nb), .ref (a 4), .int (nI np), .ref (a 6), .int (nI nx), .ref (a 8), .ref (a 9), .ref (a 10), .ref (a 11), .ref (a 12), .ref (a 13), .ref (a 14)])), ((a 12), .inr (3, [.ref g0, .ref g1, .ref g2, .int (nI qm), .ref g4, .int om2_1, .int kn2_1, .int kl2_1, .ref g8, .ref g9, .ref g10, .ref g11, va_rf lst2_1])), (g0, .inl (ca 0, 36, .inl ws)), (g1, .inl (ca 0, 10, .inl qd)), (g2, .inl (ca 0, 10, .inl kd)), (g4, .inl (ca 0, 10, .inl od2_1)), (g8, .inl (ca 1, 10, .inl us2_1)), (g9, .inl (ca 0, 6, .inl ct2_1)), (g10, .inl (ca 0, 6, .inl sd2_1)), (g11, .inl (ca 0, 6, .inl wt2_1))] (@HAppend.hAppend va_W va_W va_W _ (oL ca lst2_1 LE2_1) tl)) H := va_P.part (X := [(x, .inr (10, [.ref (a 0), .int (nI nl), .ref (a 2), .int (nI nb), .ref (a 4), .int (nI np), .ref (a 6), .int (nI nx), .ref (a 8), .ref (a 9), .ref (a 10), .ref (a 11), .ref (a 12), .ref (a 13), .ref (a 14)])), ((a 12), .inr (3, [.ref g0, .ref g1, .ref g2, .int (nI qm), .ref g4, .int om2_1, .int kn2_1, .int kl2_1, .ref g8, .ref g9, .ref g10, .ref g11, va_rf lst2_1])), (g0, .inl (ca 0, 36, .inl ws)), (g1, .inl (ca 0, 10, .inl qd)), (g2, .inl (ca 0, 10, .inl kd)), (g4, .inl (ca 0, 10, .inl od2_1)), (g8, .inl (ca 1, 10, .inl us2_1)), (g9, .inl (ca 0, 6, .inl ct2_1)), (g10, .inl (ca 0, 6, .inl sd2_1)), (g11, .inl (ca 0, 6, .inl wt2_1))]) hP [0, 1, 2, 3, 4, 5, 6, 7, 8, 9] rfl
      have hD9 : va_D A (@HAppend.hAppend va_W va_W va_W _ [(x, .inr (10, [.ref (a 0), .int (nI nl), .ref (a 2), .int (nI nb), .ref (a 4), .int (nI np), .ref (a 6), .int (nI nx), .ref (a 8), .ref (a 9), .ref (a 10), .ref (a 11), .ref (a 12), .ref (a 13), .ref (a 14)])), ((a 12), .inr (3, [.ref g0, .ref g1, .ref g2, .int (nI qm), .ref g4, .int om2_1, .int kn2_1, .int kl2_1, .ref g8, .ref g9, .ref g10, .ref g11, va_rf lst2_1])), (g0, .inl (ca 0, 36, .inl ws)), (g1, .inl (ca 0, 10, .inl qd)), (g2, .inl (ca 0, 10, .inl kd)), (g4, .inl (ca 0, 10, .inl od2_1)), (g8, .inl (ca 1, 10, .inl us2_1)), (g9, .inl (ca 0, 6, .inl ct2_1)), (g10, .inl (ca 0, 6, .inl sd2_1)), (g11, .inl (ca 0, 6, .inl wt2_1))] (@HAppend.hAppend va_W va_W va_W _ (oL ca lst2_1 LE2_1) tl)) := va_D.part (X := [(x, .inr (10, [.ref (a 0), .int (nI nl), .ref (a 2), .int (nI nb), .ref (a 4), .int (nI np), .ref (a 6), .int (nI nx), .ref (a 8), .ref (a 9), .ref (a 10), .ref (a 11), .ref (a 12), .ref (a 13), .ref (a 14)])), ((a 12), .inr (3, [.ref g0, .ref g1, .ref g2, .int (nI qm), .ref g4, .int om2_1, .int kn2_1, .int kl2_1, .ref g8, .ref g9, .ref g10, .ref g11, va_rf lst2_1])), (g0, .inl (ca 0, 36, .inl ws)), (g1, .inl (ca 0, 10, .inl qd)), (g2, .inl (ca 0, 10, .inl kd)), (g4, .inl (ca 0, 10, .inl od2_1)), (g8, .inl (ca 1, 10, .inl us2_1)), (g9, .inl (ca 0, 6, .inl ct2_1)), (g10, .inl (ca 0, 6, .inl sd2_1)), (g11, .inl (ca 0, 6, .inl wt2_1))]) hD [0, 1, 2, 3, 4, 5, 6, 7, 8, 9] (by decide) rfl
      exact W.iret (v := (-1)) hx hb hr (fun t ht hW => ⟨⟨(-1), (om2_1, kn2_1, kl2_1, lst2_1, LE2_1, od2_1, us2_1, ct2_1, sd2_1, wt2_1), rfl, trivial, by rw [ht]; exact hP9, hD9⟩, hS.F ht⟩) hS.2.2 dX10_order_51
    · refine lv_aload_n hx hb dX10_order_38 rfl (lv_at hl 0 rfl) ?_
      refine va_get (D := (dC, dI)) (ci := 10) (v := .ref (a 12)) (C := RX10) (T := TX10) (N := 15) hx hb hts inX10 hown hK hP 0 rfl rfl 12 (by decide) (hts _ mw_213) (fun _ h9 => h9) rfl dX10_order_39 ?_
      refine va_get (D := (dC, dI)) (ci := 3) (v := .ref g4) (C := RX3) (T := TX3) (N := 13) hx hb hts inX3 hown hK hP 1 rfl rfl 4 (by decide) (hts _ mw_110) (fun _ h9 => h9) rfl dX10_order_42 ?_
      refine lv_iload_n hx hb dX10_order_45 rfl (lv_at hl 2 rfl) ?_
      refine va_iald hx hb hK hP 5 0 rfl rfl (wi_vpn hq.1 (by decide) c_4) dX10_order_46 ?_
      refine lv_goto (tgt := 51) hx hb dX10_order_47 (by decide) ?_
      refine W.widen (k := (oM lst)) (n := (1944 * oM lst)) (by omega) (by omega) ?_
      have hP9 : va_P (dC, dI) vwCl (@HAppend.hAppend va_W va_W va_W _ [(x, .inr (10, [.ref (a 0), .int (nI nl), .ref (a 2), .int (nI nb), .ref (a 4), .int (nI np), .ref (a 6), .int (nI nx), .ref (a 8), .ref (a 9), .ref (a 10), .ref (a 11), .ref (a 12), .ref (a 13), .ref (a 14)])), ((a 12), .inr (3, [.ref g0, .ref g1, .ref g2, .int (nI qm), .ref g4, .int om2_1, .int kn2_1, .int kl2_1, .ref g8, .ref g9, .ref g10, .ref g11, va_rf lst2_1])), (g0, .inl (ca 0, 36, .inl ws)), (g1, .inl (ca 0, 10, .inl qd)), (g2, .inl (ca 0, 10, .inl kd)), (g4, .inl (ca 0, 10, .inl od2_1)), (g8, .inl (ca 1, 10, .inl us2_1)), (g9, .inl (ca 0, 6, .inl ct2_1)), (g10, .inl (ca 0, 6, .inl sd2_1)), (g11, .inl (ca 0, 6, .inl wt2_1))] (@HAppend.hAppend va_W va_W va_W _ (oL ca lst2_1 LE2_1) tl)) H := va_P.part (X := [(x, .inr (10, [.ref (a 0), .int (nI nl), .ref (a 2), .int (nI nb), .ref (a 4), .int (nI np), .ref (a 6), .int (nI nx), .ref (a 8), .ref (a 9), .ref (a 10), .ref (a 11), .ref (a 12), .ref (a 13), .ref (a 14)])), ((a 12), .inr (3, [.ref g0, .ref g1, .ref g2, .int (nI qm), .ref g4, .int om2_1, .int kn2_1, .int kl2_1, .ref g8, .ref g9, .ref g10, .ref g11, va_rf lst2_1])), (g0, .inl (ca 0, 36, .inl ws)), (g1, .inl (ca 0, 10, .inl qd)), (g2, .inl (ca 0, 10, .inl kd)), (g4, .inl (ca 0, 10, .inl od2_1)), (g8, .inl (ca 1, 10, .inl us2_1)), (g9, .inl (ca 0, 6, .inl ct2_1)), (g10, .inl (ca 0, 6, .inl sd2_1)), (g11, .inl (ca 0, 6, .inl wt2_1))]) hP [0, 1, 2, 3, 4, 5, 6, 7, 8, 9] rfl
      have hD9 : va_D A (@HAppend.hAppend va_W va_W va_W _ [(x, .inr (10, [.ref (a 0), .int (nI nl), .ref (a 2), .int (nI nb), .ref (a 4), .int (nI np), .ref (a 6), .int (nI nx), .ref (a 8), .ref (a 9), .ref (a 10), .ref (a 11), .ref (a 12), .ref (a 13), .ref (a 14)])), ((a 12), .inr (3, [.ref g0, .ref g1, .ref g2, .int (nI qm), .ref g4, .int om2_1, .int kn2_1, .int kl2_1, .ref g8, .ref g9, .ref g10, .ref g11, va_rf lst2_1])), (g0, .inl (ca 0, 36, .inl ws)), (g1, .inl (ca 0, 10, .inl qd)), (g2, .inl (ca 0, 10, .inl kd)), (g4, .inl (ca 0, 10, .inl od2_1)), (g8, .inl (ca 1, 10, .inl us2_1)), (g9, .inl (ca 0, 6, .inl ct2_1)), (g10, .inl (ca 0, 6, .inl sd2_1)), (g11, .inl (ca 0, 6, .inl wt2_1))] (@HAppend.hAppend va_W va_W va_W _ (oL ca lst2_1 LE2_1) tl)) := va_D.part (X := [(x, .inr (10, [.ref (a 0), .int (nI nl), .ref (a 2), .int (nI nb), .ref (a 4), .int (nI np), .ref (a 6), .int (nI nx), .ref (a 8), .ref (a 9), .ref (a 10), .ref (a 11), .ref (a 12), .ref (a 13), .ref (a 14)])), ((a 12), .inr (3, [.ref g0, .ref g1, .ref g2, .int (nI qm), .ref g4, .int om2_1, .int kn2_1, .int kl2_1, .ref g8, .ref g9, .ref g10, .ref g11, va_rf lst2_1])), (g0, .inl (ca 0, 36, .inl ws)), (g1, .inl (ca 0, 10, .inl qd)), (g2, .inl (ca 0, 10, .inl kd)), (g4, .inl (ca 0, 10, .inl od2_1)), (g8, .inl (ca 1, 10, .inl us2_1)), (g9, .inl (ca 0, 6, .inl ct2_1)), (g10, .inl (ca 0, 6, .inl sd2_1)), (g11, .inl (ca 0, 6, .inl wt2_1))]) hD [0, 1, 2, 3, 4, 5, 6, 7, 8, 9] (by decide) rfl
      exact W.iret (v := (od2_1 (v2 : Int32).toNatClampNeg)) hx hb hr (fun t ht hW => ⟨⟨(od2_1 (v2 : Int32).toNatClampNeg), (om2_1, kn2_1, kl2_1, lst2_1, LE2_1, od2_1, us2_1, ct2_1, sd2_1, wt2_1), rfl, trivial, by rw [ht]; exact hP9, hD9⟩, hS.F ht⟩) hS.2.2 dX10_order_51
  · refine lv_aload_n hx hb dX10_order_13 rfl (lv_at hl 0 rfl) ?_
    refine va_get (D := (dC, dI)) (ci := 10) (v := .ref (a 12)) (C := RX10) (T := TX10) (N := 15) hx hb hts inX10 hown hK hP 0 rfl rfl 12 (by decide) (hts _ mw_213) (fun _ h9 => h9) rfl dX10_order_14 ?_
    refine va_get (D := (dC, dI)) (ci := 3) (v := .int om2_1) (C := RX3) (T := TX3) (N := 13) hx hb hts inX3 hown hK hP 1 rfl rfl 5 (by decide) (hts _ mw_112) (fun _ h9 => h9) rfl dX10_order_17 ?_
    refine W.widen (k := (oM lst)) (n := (1944 * oM lst)) (by omega) (by omega) ?_
    have hP9 : va_P (dC, dI) vwCl (@HAppend.hAppend va_W va_W va_W _ [(x, .inr (10, [.ref (a 0), .int (nI nl), .ref (a 2), .int (nI nb), .ref (a 4), .int (nI np), .ref (a 6), .int (nI nx), .ref (a 8), .ref (a 9), .ref (a 10), .ref (a 11), .ref (a 12), .ref (a 13), .ref (a 14)])), ((a 12), .inr (3, [.ref g0, .ref g1, .ref g2, .int (nI qm), .ref g4, .int om2_1, .int kn2_1, .int kl2_1, .ref g8, .ref g9, .ref g10, .ref g11, va_rf lst2_1])), (g0, .inl (ca 0, 36, .inl ws)), (g1, .inl (ca 0, 10, .inl qd)), (g2, .inl (ca 0, 10, .inl kd)), (g4, .inl (ca 0, 10, .inl od2_1)), (g8, .inl (ca 1, 10, .inl us2_1)), (g9, .inl (ca 0, 6, .inl ct2_1)), (g10, .inl (ca 0, 6, .inl sd2_1)), (g11, .inl (ca 0, 6, .inl wt2_1))] (@HAppend.hAppend va_W va_W va_W _ (oL ca lst2_1 LE2_1) tl)) H := va_P.part (X := [(x, .inr (10, [.ref (a 0), .int (nI nl), .ref (a 2), .int (nI nb), .ref (a 4), .int (nI np), .ref (a 6), .int (nI nx), .ref (a 8), .ref (a 9), .ref (a 10), .ref (a 11), .ref (a 12), .ref (a 13), .ref (a 14)])), ((a 12), .inr (3, [.ref g0, .ref g1, .ref g2, .int (nI qm), .ref g4, .int om2_1, .int kn2_1, .int kl2_1, .ref g8, .ref g9, .ref g10, .ref g11, va_rf lst2_1])), (g0, .inl (ca 0, 36, .inl ws)), (g1, .inl (ca 0, 10, .inl qd)), (g2, .inl (ca 0, 10, .inl kd)), (g4, .inl (ca 0, 10, .inl od2_1)), (g8, .inl (ca 1, 10, .inl us2_1)), (g9, .inl (ca 0, 6, .inl ct2_1)), (g10, .inl (ca 0, 6, .inl sd2_1)), (g11, .inl (ca 0, 6, .inl wt2_1))]) hP [0, 1, 2, 3, 4, 5, 6, 7, 8, 9] rfl
    have hD9 : va_D A (@HAppend.hAppend va_W va_W va_W _ [(x, .inr (10, [.ref (a 0), .int (nI nl), .ref (a 2), .int (nI nb), .ref (a 4), .int (nI np), .ref (a 6), .int (nI nx), .ref (a 8), .ref (a 9), .ref (a 10), .ref (a 11), .ref (a 12), .ref (a 13), .ref (a 14)])), ((a 12), .inr (3, [.ref g0, .ref g1, .ref g2, .int (nI qm), .ref g4, .int om2_1, .int kn2_1, .int kl2_1, .ref g8, .ref g9, .ref g10, .ref g11, va_rf lst2_1])), (g0, .inl (ca 0, 36, .inl ws)), (g1, .inl (ca 0, 10, .inl qd)), (g2, .inl (ca 0, 10, .inl kd)), (g4, .inl (ca 0, 10, .inl od2_1)), (g8, .inl (ca 1, 10, .inl us2_1)), (g9, .inl (ca 0, 6, .inl ct2_1)), (g10, .inl (ca 0, 6, .inl sd2_1)), (g11, .inl (ca 0, 6, .inl wt2_1))] (@HAppend.hAppend va_W va_W va_W _ (oL ca lst2_1 LE2_1) tl)) := va_D.part (X := [(x, .inr (10, [.ref (a 0), .int (nI nl), .ref (a 2), .int (nI nb), .ref (a 4), .int (nI np), .ref (a 6), .int (nI nx), .ref (a 8), .ref (a 9), .ref (a 10), .ref (a 11), .ref (a 12), .ref (a 13), .ref (a 14)])), ((a 12), .inr (3, [.ref g0, .ref g1, .ref g2, .int (nI qm), .ref g4, .int om2_1, .int kn2_1, .int kl2_1, .ref g8, .ref g9, .ref g10, .ref g11, va_rf lst2_1])), (g0, .inl (ca 0, 36, .inl ws)), (g1, .inl (ca 0, 10, .inl qd)), (g2, .inl (ca 0, 10, .inl kd)), (g4, .inl (ca 0, 10, .inl od2_1)), (g8, .inl (ca 1, 10, .inl us2_1)), (g9, .inl (ca 0, 6, .inl ct2_1)), (g10, .inl (ca 0, 6, .inl sd2_1)), (g11, .inl (ca 0, 6, .inl wt2_1))]) hD [0, 1, 2, 3, 4, 5, 6, 7, 8, 9] (by decide) rfl
    exact W.iret (v := om2_1) hx hb hr (fun t ht hW => ⟨⟨om2_1, (om2_1, kn2_1, kl2_1, lst2_1, LE2_1, od2_1, us2_1, ct2_1, sd2_1, wt2_1), rfl, trivial, by rw [ht]; exact hP9, hD9⟩, hS.F ht⟩) hS.2.2 dX10_order_20
