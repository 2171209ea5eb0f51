set_option maxHeartbeats 4000000 in
set_option maxRecDepth 100000 in
theorem lc_11 {p : Program} {e : Env} {s : State} {m : MethodId} {below : List Frame} {meth : Method} {c : Code} (l : Launch) {b L : Nat} {xs : Nat → Int32} {dC : Nat → ClassId} {dI : Nat → Nat → Nat} {ca : Nat → ClassId} {Q : State → Prop} {d0 : Drawn} {x y n g : Nat} {H : Heap} {locs : List Loc} {ls : Array Slot} (hd0 : s.drawn.sameBut d0 lw_cs) (F : lwF p s d0 m c b L xs dC dI ca) (hL : L ≤ 3584) (hn : 7 * n + 7 ≤ L) (hI : lI dC dI ca s.heap x y b n g H locs ls) (kk : ∀ (d1 : Drawn) (g1 : Nat) (H : Heap) (locs : List Loc) (ls : Array Slot), s.drawn.sameBut d1 lw_cs → lI dC dI ca s.heap x y b n g1 H locs ls → W p l e room_1 (s.setDrawn d1) m #[Value.ref b] below meth c H locs (100 + 99 * (n + 1)) (410000 + 5499 * (n + 1) + 16384 * g1) Q (F0 m 1319 ls [])) : W p l e room_1 (s.setDrawn d0) m #[Value.ref b] below meth c H locs (100 + 99 * n) (410000 + 5499 * n + 16384 * g) Q (F0 m 581 ls []) := by
  obtain ⟨hx, hb, hml, hown, hts, hE, hK, hX, hbl⟩ := F
  obtain ⟨nl, nb, rn, fd, Lf, Cf, Mf, Hf, Sf, qm, qd, lt, gl, gh, lw6, hi6, np, Xf, ws, kd, wK, wM, hk, hm, hP, hD, hS, hl⟩ := hI
  have hA : ∀ q : Nat, s.heap.size ≤ q → (fun q : Nat => s.heap.size ≤ q) q := fun _ h => h
  have hbA : ¬ (fun q : Nat => s.heap.size ≤ q) b := Nat.not_le.mpr hbl
  refine lv_aload_n hx hb dL_law_581 rfl (lv_at hl 2 rfl) ?_
  refine lv_aload_n hx hb dL_law_582 rfl (lv_at hl 3 rfl) ?_
  refine lv_iload_n hx hb dL_law_583 rfl (lv_at hl 0 rfl) ?_
  refine lv_iconst (v := 1) hx hb dL_law_584 (by decide) ?_
  refine lv_iadd hx hb dL_law_585 ?_
  refine lv_topi (fun y_ e_ => ?_)
  obtain rfl : y_ = (nI (7 * n + 1)) := e_.trans (nI_add (7 * n) (1))
  refine va_sld hx hb hX hbl hbA hS (vp_in_nI (show 7 * n + 1 < L by omega) (by omega)) dL_law_586 ?_
  have hgl := kOK_g hk
  obtain ⟨fs, hfs⟩ := kOK_x hk
  obtain ⟨mc_, ms_, d_, hmc, hms, hd_, hMet⟩ := K_why l dC dI ca x g nl nb rn fd Lf Cf Mf Hf Sf qm qd lt gl gh lw6 hi6 np Xf ws kd H.size wK (xs ((nI (7 * n + 1)) : Int32).toNatClampNeg) hk
  have hFc := fr_l hD hS hA
  refine va_calli (va_runV (As := [.int (xs ((nI (7 * n + 1)) : Int32).toNatClampNeg)]) (rest := []) ⟨hx, hb, hml, hown, hts⟩ hMet (⟨callB_of 1 hts (gd mw_492) rfl rfl rfl (hts _ mw_1) (hts _ mw_489) ds_X10_why ⟨Nat.le_of_ble_eq_true rfl, Nat.le_of_ble_eq_true rfl⟩, (hts _ mw_490), (hts _ mw_491)⟩) (pr_V (w_left hP) hK (d_left hD) hE (va_recv hK (w_left hP) (ci := 10) (q0 := 0) rfl hfs)) rfl rfl hl.1 rfl (lv_room (Nat.le_of_ble_eq_true rfl)) dL_law_587 ⟨by show (100 + 99 * n) + mc_ ≤ 600000; omega, by show (410000 + 5499 * n + 16384 * g) + ms_ ≤ 7302250; omega⟩) hS (fun q _ h => hFc q h) hFc (fun rv_1 u_1 t_ H1 locs ht hvm hw_ hB hz1 hk1 hS => ?_)
  obtain ⟨hP1, hD1⟩ := hB
  rw [ht] at hP1
  obtain ⟨hP, hD⟩ := frm hP hD hk1 hFc hP1 hD1
  generalize H1 = H at hP hS ⊢
  obtain ⟨e_, hk2⟩ := hw_
  obtain rfl : rv_1 = (whV nb Cf Xf lw6 hi6 (xs ((nI (7 * n + 1)) : Int32).toNatClampNeg)) := e_
  refine W.widen (k := (100 + 99 * (n + 1))) (n := (410000 + 5499 * (n + 1) + 16384 * (g + d_))) (by omega) (by omega) ?_
  refine lv_pop hx hb dL_law_590 rfl ?_
  refine lv_aload_n hx hb dL_law_591 rfl (lv_at hl 1 rfl) ?_
  refine lv_aload_n hx hb dL_law_592 rfl (lv_at hl 3 rfl) ?_
  refine lv_iload_n hx hb dL_law_593 rfl (lv_at hl 0 rfl) ?_
  refine lv_iconst (v := 1) hx hb dL_law_594 (by decide) ?_
  refine lv_iadd hx hb dL_law_595 ?_
  refine lv_topi (fun y_ e_ => ?_)
  obtain rfl : y_ = (nI (7 * n + 1)) := e_.trans (nI_add (7 * n) (1))
  refine va_sld hx hb hX hbl hbA hS (vp_in_nI (show 7 * n + 1 < L by omega) (by omega)) dL_law_596 ?_
  have hP := hP.perm List.perm_append_comm
  have hD := hD.perm List.perm_append_comm
  obtain ⟨fs2, hfs2⟩ := mOK_x hm
  have hMet2 := M_why l dC dI ca y nl nb rn fd Lf Cf Mf Hf Sf qm qd lt gl gh lw6 hi6 np Xf ws kd H.size wM (xs ((nI (7 * n + 1)) : Int32).toNatClampNeg) hm
  have hFc := fr_l hD hS hA
  refine va_calli (va_runV (As := [.int (xs ((nI (7 * n + 1)) : Int32).toNatClampNeg)]) (rest := []) ⟨hx, hb, hml, hown, hts⟩ hMet2 (⟨callB_of 1 hts (gd mw_1123) rfl rfl rfl (hts _ mw_8) (hts _ mw_1120) ds_X11_why ⟨Nat.le_of_ble_eq_true rfl, Nat.le_of_ble_eq_true rfl⟩, (hts _ mw_1121), (hts _ mw_1122)⟩) (pr_V (w_left hP) hK (d_left hD) hE (va_recv hK (w_left hP) (ci := 11) (q0 := 0) rfl hfs2)) rfl rfl hl.1 rfl (lv_room (Nat.le_of_ble_eq_true rfl)) dL_law_597 ⟨by show (100 + 99 * (n + 1)) + 0 ≤ 600000; omega, by show (410000 + 5499 * (n + 1) + 16384 * (g + d_)) + 0 ≤ 7302250; omega⟩) hS (fun q _ h => hFc q h) hFc (fun rv_2 u_2 t_ H1 locs ht hvm hw_ hB hz1 hk1 hS => ?_)
  obtain ⟨hP1, hD1⟩ := hB
  rw [ht] at hP1
  obtain ⟨hP, hD⟩ := frm hP hD hk1 hFc hP1 hD1
  generalize H1 = H at hP hS ⊢
  obtain ⟨e_, hm2⟩ := hw_
  obtain rfl : rv_2 = (whV nb Cf Xf lw6 hi6 (xs ((nI (7 * n + 1)) : Int32).toNatClampNeg)) := e_
  have hP := hP.perm List.perm_append_comm
  have hD := hD.perm List.perm_append_comm
  refine lv_pop hx hb dL_law_600 rfl ?_
  refine lv_goto (tgt := 1319) hx hb dL_law_601 (by decide) ?_
  exact kk d0 (g + d_) _ _ _ hd0 ⟨_, _, _, _, _, _, _, _, _, _, _, _, _, _, _, _, _, _, _, _, u_1, u_2, hk2, hm2, hP, hD, hS, hl⟩

set_option maxHeartbeats 4000000 in
set_option maxRecDepth 100000 in
theorem lc_12 {p : Program} {e : Env} {s : State} {m : MethodId} {below : List Frame} {meth : Method} {c : Code} (l : Launch) {b L : Nat} {xs : Nat → Int32} {dC : Nat → ClassId} {dI : Nat → Nat → Nat} {ca : Nat → ClassId} {Q : State → Prop} {d0 : Drawn} {x y n g : Nat} {H : Heap} {locs : List Loc} {ls : Array Slot} (hd0 : s.drawn.sameBut d0 lw_cs) (F : lwF p s d0 m c b L xs dC dI ca) (hL : L ≤ 3584) (hn : 7 * n + 7 ≤ L) (hI : lI dC dI ca s.heap x y b n g H locs ls) (kk : ∀ (d1 : Drawn) (g1 : Nat) (H : Heap) (locs : List Loc) (ls : Array Slot), s.drawn.sameBut d1 lw_cs → lI dC dI ca s.heap x y b n g1 H locs ls → W p l e room_1 (s.setDrawn d1) m #[Value.ref b] below meth c H locs (100 + 99 * (n + 1)) (410000 + 5499 * (n + 1) + 16384 * g1) Q (F0 m 1319 ls [])) : W p l e room_1 (s.setDrawn d0) m #[Value.ref b] below meth c H locs (100 + 99 * n) (410000 + 5499 * n + 16384 * g) Q (F0 m 604 ls []) := by
  obtain ⟨hx, hb, hml, hown, hts, hE, hK, hX, hbl⟩ := F
  obtain ⟨nl, nb, rn, fd, Lf, Cf, Mf, Hf, Sf, qm, qd, lt, gl, gh, lw6, hi6, np, Xf, ws, kd, wK, wM, hk, hm, hP, hD, hS, hl⟩ := hI
  have hA : ∀ q : Nat, s.heap.size ≤ q → (fun q : Nat => s.heap.size ≤ q) q := fun _ h => h
  have hbA : ¬ (fun q : Nat => s.heap.size ≤ q) b := Nat.not_le.mpr hbl
  refine lv_aload_n hx hb dL_law_604 rfl (lv_at hl 2 rfl) ?_
  refine lv_aload_n hx hb dL_law_605 rfl (lv_at hl 3 rfl) ?_
  refine lv_iload_n hx hb dL_law_606 rfl (lv_at hl 0 rfl) ?_
  refine lv_iconst (v := 1) hx hb dL_law_607 (by decide) ?_
  refine lv_iadd hx hb dL_law_608 ?_
  refine lv_topi (fun y_ e_ => ?_)
  obtain rfl : y_ = (nI (7 * n + 1)) := e_.trans (nI_add (7 * n) (1))
  refine va_sld hx hb hX hbl hbA hS (vp_in_nI (show 7 * n + 1 < L by omega) (by omega)) dL_law_609 ?_
  refine lv_aload_n hx hb dL_law_610 rfl (lv_at hl 3 rfl) ?_
  refine lv_iload_n hx hb dL_law_611 rfl (lv_at hl 0 rfl) ?_
  refine lv_iconst (v := 2) hx hb dL_law_612 (by decide) ?_
  refine lv_iadd hx hb dL_law_613 ?_
  refine lv_topi (fun y_ e_ => ?_)
  obtain rfl : y_ = (nI (7 * n + 2)) := e_.trans (nI_add (7 * n) (2))
  refine va_sld hx hb hX hbl hbA hS (vp_in_nI (show 7 * n + 2 < L by omega) (by omega)) dL_law_614 ?_
  have hgl := kOK_g hk
  obtain ⟨fs, hfs⟩ := kOK_x hk
  obtain ⟨mc_, ms_, d_, hmc, hms, hd_, hMet⟩ := K_batchOf l dC dI ca x g nl nb rn fd Lf Cf Mf Hf Sf qm qd lt gl gh lw6 hi6 np Xf ws kd H.size wK (xs ((nI (7 * n + 1)) : Int32).toNatClampNeg) (xs ((nI (7 * n + 2)) : Int32).toNatClampNeg) hk
  have hFc := fr_l hD hS hA
  refine va_calli (va_runV (As := [.int (xs ((nI (7 * n + 1)) : Int32).toNatClampNeg), .int (xs ((nI (7 * n + 2)) : Int32).toNatClampNeg)]) (rest := []) ⟨hx, hb, hml, hown, hts⟩ hMet (⟨callB_of 2 hts (gd mw_503) rfl rfl rfl (hts _ mw_1) (hts _ mw_500) ds_X10_batchOf ⟨Nat.le_of_ble_eq_true rfl, Nat.le_of_ble_eq_true rfl⟩, (hts _ mw_501), (hts _ mw_502)⟩) (pr_V (w_left hP) hK (d_left hD) hE (va_recv hK (w_left hP) (ci := 10) (q0 := 0) rfl hfs)) rfl rfl hl.1 rfl (lv_room (Nat.le_of_ble_eq_true rfl)) dL_law_615 ⟨by show (100 + 99 * n) + mc_ ≤ 600000; omega, by show (410000 + 5499 * n + 16384 * g) + ms_ ≤ 7302250; omega⟩) hS (fun q _ h => hFc q h) hFc (fun rv_1 u_1 t_ H1 locs ht hvm hw_ hB hz1 hk1 hS => ?_)
  obtain ⟨hP1, hD1⟩ := hB
  rw [ht] at hP1
  obtain ⟨hP, hD⟩ := frm hP hD hk1 hFc hP1 hD1
  generalize H1 = H at hP hS ⊢
  have hk2 := hw_
  refine W.widen (k := (100 + 99 * (n + 1))) (n := (410000 + 5499 * (n + 1) + 16384 * (g + d_))) (by omega) (by omega) ?_
  refine lv_pop hx hb dL_law_618 rfl ?_
  refine lv_aload_n hx hb dL_law_619 rfl (lv_at hl 1 rfl) ?_
  refine lv_aload_n hx hb dL_law_620 rfl (lv_at hl 3 rfl) ?_
  refine lv_iload_n hx hb dL_law_621 rfl (lv_at hl 0 rfl) ?_
  refine lv_iconst (v := 1) hx hb dL_law_622 (by decide) ?_
  refine lv_iadd hx hb dL_law_623 ?_
  refine lv_topi (fun y_ e_ => ?_)
  obtain rfl : y_ = (nI (7 * n + 1)) := e_.trans (nI_add (7 * n) (1))
  refine va_sld hx hb hX hbl hbA hS (vp_in_nI (show 7 * n + 1 < L by omega) (by omega)) dL_law_624 ?_
  refine lv_aload_n hx hb dL_law_625 rfl (lv_at hl 3 rfl) ?_
  refine lv_iload_n hx hb dL_law_626 rfl (lv_at hl 0 rfl) ?_
  refine lv_iconst (v := 2) hx hb dL_law_627 (by decide) ?_
  refine lv_iadd hx hb dL_law_628 ?_
  refine lv_topi (fun y_ e_ => ?_)
  obtain rfl : y_ = (nI (7 * n + 2)) := e_.trans (nI_add (7 * n) (2))
  refine va_sld hx hb hX hbl hbA hS (vp_in_nI (show 7 * n + 2 < L by omega) (by omega)) dL_law_629 ?_
  have hP := hP.perm List.perm_append_comm
  have hD := hD.perm List.perm_append_comm
  obtain ⟨fs2, hfs2⟩ := mOK_x hm
  have hMet2 := M_batchOf l dC dI ca y nl nb rn fd Lf Cf Mf Hf Sf qm qd lt gl gh lw6 hi6 np Xf ws kd H.size wM (xs ((nI (7 * n + 1)) : Int32).toNatClampNeg) (xs ((nI (7 * n + 2)) : Int32).toNatClampNeg) hm
  have hFc := fr_l hD hS hA
  refine va_calli (va_runV (As := [.int (xs ((nI (7 * n + 1)) : Int32).toNatClampNeg), .int (xs ((nI (7 * n + 2)) : Int32).toNatClampNeg)]) (rest := []) ⟨hx, hb, hml, hown, hts⟩ hMet2 (⟨callB_of 2 hts (gd mw_1127) rfl rfl rfl (hts _ mw_8) (hts _ mw_1124) ds_X11_batchOf ⟨Nat.le_of_ble_eq_true rfl, Nat.le_of_ble_eq_true rfl⟩, (hts _ mw_1125), (hts _ mw_1126)⟩) (pr_V (w_left hP) hK (d_left hD) hE (va_recv hK (w_left hP) (ci := 11) (q0 := 0) rfl hfs2)) rfl rfl hl.1 rfl (lv_room (Nat.le_of_ble_eq_true rfl)) dL_law_630 ⟨by show (100 + 99 * (n + 1)) + 0 ≤ 600000; omega, by show (410000 + 5499 * (n + 1) + 16384 * (g + d_)) + 0 ≤ 7302250; omega⟩) hS (fun q _ h => hFc q h) hFc (fun rv_2 u_2 t_ H1 locs ht hvm hw_ hB hz1 hk1 hS => ?_)
  obtain ⟨hP1, hD1⟩ := hB
  rw [ht] at hP1
  obtain ⟨hP, hD⟩ := frm hP hD hk1 hFc hP1 hD1
  generalize H1 = H at hP hS ⊢
  have hm2 := hw_
  have hP := hP.perm List.perm_append_comm
  have hD := hD.perm List.perm_append_comm
  refine lv_pop hx hb dL_law_633 rfl ?_
  refine lv_goto (tgt := 1319) hx hb dL_law_634 (by decide) ?_
  exact kk d0 (g + d_) _ _ _ hd0 ⟨_, _, _, _, _, _, _, _, _, _, _, _, _, _, _, _, _, _, _, _, u_1, u_2, hk2, hm2, hP, hD, hS, hl⟩

set_option maxHeartbeats 4000000 in
set_option maxRecDepth 100000 in
theorem lc_13 {p : Program} {e : Env} {s : State} {m : MethodId} {below : List Frame} {meth : Method} {c : Code} (l : Launch) {b L : Nat} {xs : Nat → Int32} {dC : Nat → ClassId} {dI : Nat → Nat → Nat} {ca : Nat → ClassId} {Q : State → Prop} {d0 : Drawn} {x y n g : Nat} {H : Heap} {locs : List Loc} {ls : Array Slot} (hd0 : s.drawn.sameBut d0 lw_cs) (F : lwF p s d0 m c b L xs dC dI ca) (hL : L ≤ 3584) (hn : 7 * n + 7 ≤ L) (hI : lI dC dI ca s.heap x y b n g H locs ls) (kk : ∀ (d1 : Drawn) (g1 : Nat) (H : Heap) (locs : List Loc) (ls : Array Slot), s.drawn.sameBut d1 lw_cs → lI dC dI ca s.heap x y b n g1 H locs ls → W p l e room_1 (s.setDrawn d1) m #[Value.ref b] below meth c H locs (100 + 99 * (n + 1)) (410000 + 5499 * (n + 1) + 16384 * g1) Q (F0 m 1319 ls [])) : W p l e room_1 (s.setDrawn d0) m #[Value.ref b] below meth c H locs (100 + 99 * n) (410000 + 5499 * n + 16384 * g) Q (F0 m 637 ls []) := by
  obtain ⟨hx, hb, hml, hown, hts, hE, hK, hX, hbl⟩ := F
  obtain ⟨nl, nb, rn, fd, Lf, Cf, Mf, Hf, Sf, qm, qd, lt, gl, gh, lw6, hi6, np, Xf, ws, kd, wK, wM, hk, hm, hP, hD, hS, hl⟩ := hI
  have hA : ∀ q : Nat, s.heap.size ≤ q → (fun q : Nat => s.heap.size ≤ q) q := fun _ h => h
  have hbA : ¬ (fun q : Nat => s.heap.size ≤ q) b := Nat.not_le.mpr hbl
  refine lv_aload_n hx hb dL_law_637 rfl (lv_at hl 2 rfl) ?_
  refine lv_aload_n hx hb dL_law_638 rfl (lv_at hl 3 rfl) ?_
  refine lv_iload_n hx hb dL_law_639 rfl (lv_at hl 0 rfl) ?_
  refine lv_iconst (v := 1) hx hb dL_law_640 (by decide) ?_
  refine lv_iadd hx hb dL_law_641 ?_
  refine lv_topi (fun y_ e_ => ?_)
  obtain rfl : y_ = (nI (7 * n + 1)) := e_.trans (nI_add (7 * n) (1))
  refine va_sld hx hb hX hbl hbA hS (vp_in_nI (show 7 * n + 1 < L by omega) (by omega)) dL_law_642 ?_
  refine lv_aload_n hx hb dL_law_643 rfl (lv_at hl 3 rfl) ?_
  refine lv_iload_n hx hb dL_law_644 rfl (lv_at hl 0 rfl) ?_
  refine lv_iconst (v := 2) hx hb dL_law_645 (by decide) ?_
  refine lv_iadd hx hb dL_law_646 ?_
  refine lv_topi (fun y_ e_ => ?_)
  obtain rfl : y_ = (nI (7 * n + 2)) := e_.trans (nI_add (7 * n) (2))
  refine va_sld hx hb hX hbl hbA hS (vp_in_nI (show 7 * n + 2 < L by omega) (by omega)) dL_law_647 ?_
  refine lv_aload_n hx hb dL_law_648 rfl (lv_at hl 3 rfl) ?_
  refine lv_iload_n hx hb dL_law_649 rfl (lv_at hl 0 rfl) ?_
  refine lv_iconst (v := 3) hx hb dL_law_650 (by decide) ?_
  refine lv_iadd hx hb dL_law_651 ?_
  refine lv_topi (fun y_ e_ => ?_)
  obtain rfl : y_ = (nI (7 * n + 3)) := e_.trans (nI_add (7 * n) (3))
  refine va_sld hx hb hX hbl hbA hS (vp_in_nI (show 7 * n + 3 < L by omega) (by omega)) dL_law_652 ?_
  refine lv_aload_n hx hb dL_law_653 rfl (lv_at hl 3 rfl) ?_
  refine lv_iload_n hx hb dL_law_654 rfl (lv_at hl 0 rfl) ?_
  refine lv_iconst (v := 4) hx hb dL_law_655 (by decide) ?_
  refine lv_iadd hx hb dL_law_656 ?_
  refine lv_topi (fun y_ e_ => ?_)
  obtain rfl : y_ = (nI (7 * n + 4)) := e_.trans (nI_add (7 * n) (4))
  refine va_sld hx hb hX hbl hbA hS (vp_in_nI (show 7 * n + 4 < L by omega) (by omega)) dL_law_657 ?_
  refine lv_aload_n hx hb dL_law_658 rfl (lv_at hl 3 rfl) ?_
  refine lv_iload_n hx hb dL_law_659 rfl (lv_at hl 0 rfl) ?_
  refine lv_iconst (v := 5) hx hb dL_law_660 (by decide) ?_
  refine lv_iadd hx hb dL_law_661 ?_
  refine lv_topi (fun y_ e_ => ?_)
  obtain rfl : y_ = (nI (7 * n + 5)) := e_.trans (nI_add (7 * n) (5))
  refine va_sld hx hb hX hbl hbA hS (vp_in_nI (show 7 * n + 5 < L by omega) (by omega)) dL_law_662 ?_
  refine lv_aload_n hx hb dL_law_663 rfl (lv_at hl 3 rfl) ?_
  refine lv_iload_n hx hb dL_law_664 rfl (lv_at hl 0 rfl) ?_
  refine lv_bipush (v := 6) hx hb dL_law_665 (by decide) ?_
  refine lv_iadd hx hb dL_law_667 ?_
  refine lv_topi (fun y_ e_ => ?_)
  obtain rfl : y_ = (nI (7 * n + 6)) := e_.trans (nI_add (7 * n) (6))
  refine va_sld hx hb hX hbl hbA hS (vp_in_nI (show 7 * n + 6 < L by omega) (by omega)) dL_law_668 ?_
  have hgl := kOK_g hk
  obtain ⟨fs, hfs⟩ := kOK_x hk
  obtain ⟨mc_, ms_, d_, hmc, hms, hd_, hMet⟩ := K_temper l dC dI ca x g nl nb rn fd Lf Cf Mf Hf Sf qm qd lt gl gh lw6 hi6 np Xf ws kd H.size wK (xs ((nI (7 * n + 1)) : Int32).toNatClampNeg) (xs ((nI (7 * n + 2)) : Int32).toNatClampNeg) (xs ((nI (7 * n + 3)) : Int32).toNatClampNeg) (xs ((nI (7 * n + 4)) : Int32).toNatClampNeg) (xs ((nI (7 * n + 5)) : Int32).toNatClampNeg) (xs ((nI (7 * n + 6)) : Int32).toNatClampNeg) hk
  have hFc := fr_l hD hS hA
  refine va_calli (va_runV (As := [.int (xs ((nI (7 * n + 1)) : Int32).toNatClampNeg), .int (xs ((nI (7 * n + 2)) : Int32).toNatClampNeg), .int (xs ((nI (7 * n + 3)) : Int32).toNatClampNeg), .int (xs ((nI (7 * n + 4)) : Int32).toNatClampNeg), .int (xs ((nI (7 * n + 5)) : Int32).toNatClampNeg), .int (xs ((nI (7 * n + 6)) : Int32).toNatClampNeg)]) (rest := []) ⟨hx, hb, hml, hown, hts⟩ hMet (⟨callB_of 6 hts (gd mw_511) rfl rfl rfl (hts _ mw_1) (hts _ mw_508) ds_X10_temper ⟨Nat.le_of_ble_eq_true rfl, Nat.le_of_ble_eq_true rfl⟩, (hts _ mw_509), (hts _ mw_510)⟩) (pr_V (w_left hP) hK (d_left hD) hE (va_recv hK (w_left hP) (ci := 10) (q0 := 0) rfl hfs)) rfl rfl hl.1 rfl (lv_room (Nat.le_of_ble_eq_true rfl)) dL_law_669 ⟨by show (100 + 99 * n) + mc_ ≤ 600000; omega, by show (410000 + 5499 * n + 16384 * g) + ms_ ≤ 7302250; omega⟩) hS (fun q _ h => hFc q h) hFc (fun rv_1 u_1 t_ H1 locs ht hvm hw_ hB hz1 hk1 hS => ?_)
  obtain ⟨hP1, hD1⟩ := hB
  rw [ht] at hP1
  obtain ⟨hP, hD⟩ := frm hP hD hk1 hFc hP1 hD1
  generalize H1 = H at hP hS ⊢
  obtain ⟨e_, hk2⟩ := hw_
  obtain rfl : rv_1 = (spT (xs ((nI (7 * n + 1)) : Int32).toNatClampNeg) (xs ((nI (7 * n + 2)) : Int32).toNatClampNeg) (xs ((nI (7 * n + 3)) : Int32).toNatClampNeg) (xs ((nI (7 * n + 4)) : Int32).toNatClampNeg) (xs ((nI (7 * n + 5)) : Int32).toNatClampNeg) (xs ((nI (7 * n + 6)) : Int32).toNatClampNeg)) := e_
  refine W.widen (k := (100 + 99 * (n + 1))) (n := (410000 + 5499 * (n + 1) + 16384 * (g + d_))) (by omega) (by omega) ?_
  refine lv_pop hx hb dL_law_672 rfl ?_
  refine lv_aload_n hx hb dL_law_673 rfl (lv_at hl 1 rfl) ?_
  refine lv_aload_n hx hb dL_law_674 rfl (lv_at hl 3 rfl) ?_
  refine lv_iload_n hx hb dL_law_675 rfl (lv_at hl 0 rfl) ?_
  refine lv_iconst (v := 1) hx hb dL_law_676 (by decide) ?_
  refine lv_iadd hx hb dL_law_677 ?_
  refine lv_topi (fun y_ e_ => ?_)
  obtain rfl : y_ = (nI (7 * n + 1)) := e_.trans (nI_add (7 * n) (1))
  refine va_sld hx hb hX hbl hbA hS (vp_in_nI (show 7 * n + 1 < L by omega) (by omega)) dL_law_678 ?_
  refine lv_aload_n hx hb dL_law_679 rfl (lv_at hl 3 rfl) ?_
  refine lv_iload_n hx hb dL_law_680 rfl (lv_at hl 0 rfl) ?_
  refine lv_iconst (v := 2) hx hb dL_law_681 (by decide) ?_
  refine lv_iadd hx hb dL_law_682 ?_
  refine lv_topi (fun y_ e_ => ?_)
  obtain rfl : y_ = (nI (7 * n + 2)) := e_.trans (nI_add (7 * n) (2))
  refine va_sld hx hb hX hbl hbA hS (vp_in_nI (show 7 * n + 2 < L by omega) (by omega)) dL_law_683 ?_
  refine lv_aload_n hx hb dL_law_684 rfl (lv_at hl 3 rfl) ?_
  refine lv_iload_n hx hb dL_law_685 rfl (lv_at hl 0 rfl) ?_
  refine lv_iconst (v := 3) hx hb dL_law_686 (by decide) ?_
  refine lv_iadd hx hb dL_law_687 ?_
  refine lv_topi (fun y_ e_ => ?_)
  obtain rfl : y_ = (nI (7 * n + 3)) := e_.trans (nI_add (7 * n) (3))
  refine va_sld hx hb hX hbl hbA hS (vp_in_nI (show 7 * n + 3 < L by omega) (by omega)) dL_law_688 ?_
  refine lv_aload_n hx hb dL_law_689 rfl (lv_at hl 3 rfl) ?_
  refine lv_iload_n hx hb dL_law_690 rfl (lv_at hl 0 rfl) ?_
  refine lv_iconst (v := 4) hx hb dL_law_691 (by decide) ?_
  refine lv_iadd hx hb dL_law_692 ?_
  refine lv_topi (fun y_ e_ => ?_)
  obtain rfl : y_ = (nI (7 * n + 4)) := e_.trans (nI_add (7 * n) (4))
  refine va_sld hx hb hX hbl hbA hS (vp_in_nI (show 7 * n + 4 < L by omega) (by omega)) dL_law_693 ?_
  refine lv_aload_n hx hb dL_law_694 rfl (lv_at hl 3 rfl) ?_
  refine lv_iload_n hx hb dL_law_695 rfl (lv_at hl 0 rfl) ?_
  refine lv_iconst (v := 5) hx hb dL_law_696 (by decide) ?_
  refine lv_iadd hx hb dL_law_697 ?_
  refine lv_topi (fun y_ e_ => ?_)
  obtain rfl : y_ = (nI (7 * n + 5)) := e_.trans (nI_add (7 * n) (5))
  refine va_sld hx hb hX hbl hbA hS (vp_in_nI (show 7 * n + 5 < L by omega) (by omega)) dL_law_698 ?_
  refine lv_aload_n hx hb dL_law_699 rfl (lv_at hl 3 rfl) ?_
  refine lv_iload_n hx hb dL_law_700 rfl (lv_at hl 0 rfl) ?_
  refine lv_bipush (v := 6) hx hb dL_law_701 (by decide) ?_
  refine lv_iadd hx hb dL_law_703 ?_
  refine lv_topi (fun y_ e_ => ?_)
  obtain rfl : y_ = (nI (7 * n + 6)) := e_.trans (nI_add (7 * n) (6))
  refine va_sld hx hb hX hbl hbA hS (vp_in_nI (show 7 * n + 6 < L by omega) (by omega)) dL_law_704 ?_
  have hP := hP.perm List.perm_append_comm
  have hD := hD.perm List.perm_append_comm
  obtain ⟨fs2, hfs2⟩ := mOK_x hm
  have hMet2 := M_temper l dC dI ca y nl nb rn fd Lf Cf Mf Hf Sf qm qd lt gl gh lw6 hi6 np Xf ws kd H.size wM (xs ((nI (7 * n + 1)) : Int32).toNatClampNeg) (xs ((nI (7 * n + 2)) : Int32).toNatClampNeg) (xs ((nI (7 * n + 3)) : Int32).toNatClampNeg) (xs ((nI (7 * n + 4)) : Int32).toNatClampNeg) (xs ((nI (7 * n + 5)) : Int32).toNatClampNeg) (xs ((nI (7 * n + 6)) : Int32).toNatClampNeg) hm
  have hFc := fr_l hD hS hA
  refine va_calli (va_runV (As := [.int (xs ((nI (7 * n + 1)) : Int32).toNatClampNeg), .int (xs ((nI (7 * n + 2)) : Int32).toNatClampNeg), .int (xs ((nI (7 * n + 3)) : Int32).toNatClampNeg), .int (xs ((nI (7 * n + 4)) : Int32).toNatClampNeg), .int (xs ((nI (7 * n + 5)) : Int32).toNatClampNeg), .int (xs ((nI (7 * n + 6)) : Int32).toNatClampNeg)]) (rest := []) ⟨hx, hb, hml, hown, hts⟩ hMet2 (⟨callB_of 6 hts (gd mw_1131) rfl rfl rfl (hts _ mw_8) (hts _ mw_1128) ds_X11_temper ⟨Nat.le_of_ble_eq_true rfl, Nat.le_of_ble_eq_true rfl⟩, (hts _ mw_1129), (hts _ mw_1130)⟩) (pr_V (w_left hP) hK (d_left hD) hE (va_recv hK (w_left hP) (ci := 11) (q0 := 0) rfl hfs2)) rfl rfl hl.1 rfl (lv_room (Nat.le_of_ble_eq_true rfl)) dL_law_705 ⟨by show (100 + 99 * (n + 1)) + 0 ≤ 600000; omega, by show (410000 + 5499 * (n + 1) + 16384 * (g + d_)) + 0 ≤ 7302250; omega⟩) hS (fun q _ h => hFc q h) hFc (fun rv_2 u_2 t_ H1 locs ht hvm hw_ hB hz1 hk1 hS => ?_)
  obtain ⟨hP1, hD1⟩ := hB
  rw [ht] at hP1
  obtain ⟨hP, hD⟩ := frm hP hD hk1 hFc hP1 hD1
  generalize H1 = H at hP hS ⊢
  obtain ⟨e_, hm2⟩ := hw_
  obtain rfl : rv_2 = (spT (xs ((nI (7 * n + 1)) : Int32).toNatClampNeg) (xs ((nI (7 * n + 2)) : Int32).toNatClampNeg) (xs ((nI (7 * n + 3)) : Int32).toNatClampNeg) (xs ((nI (7 * n + 4)) : Int32).toNatClampNeg) (xs ((nI (7 * n + 5)) : Int32).toNatClampNeg) (xs ((nI (7 * n + 6)) : Int32).toNatClampNeg)) := e_
  have hP := hP.perm List.perm_append_comm
  have hD := hD.perm List.perm_append_comm
  refine lv_pop hx hb dL_law_708 rfl ?_
  refine lv_goto (tgt := 1319) hx hb dL_law_709 (by decide) ?_
  exact kk d0 (g + d_) _ _ _ hd0 ⟨_, _, _, _, _, _, _, _, _, _, _, _, _, _, _, _, _, _, _, _, u_1, u_2, hk2, hm2, hP, hD, hS, hl⟩

set_option maxHeartbeats 4000000 in
set_option maxRecDepth 100000 in
theorem lc_14 {p : Program} {e : Env} {s : State} {m : MethodId} {below : List Frame} {meth : Method} {c : Code} (l : Launch) {b L : Nat} {xs : Nat → Int32} {dC : Nat → ClassId} {dI : Nat → Nat → Nat} {ca : Nat → ClassId} {Q : State → Prop} {d0 : Drawn} {x y n g : Nat} {H : Heap} {locs : List Loc} {ls : Array Slot} (hd0 : s.drawn.sameBut d0 lw_cs) (F : lwF p s d0 m c b L xs dC dI ca) (hL : L ≤ 3584) (hn : 7 * n + 7 ≤ L) (hI : lI dC dI ca s.heap x y b n g H locs ls) (kk : ∀ (d1 : Drawn) (g1 : Nat) (H : Heap) (locs : List Loc) (ls : Array Slot), s.drawn.sameBut d1 lw_cs → lI dC dI ca s.heap x y b n g1 H locs ls → W p l e room_1 (s.setDrawn d1) m #[Value.ref b] below meth c H locs (100 + 99 * (n + 1)) (410000 + 5499 * (n + 1) + 16384 * g1) Q (F0 m 1319 ls [])) : W p l e room_1 (s.setDrawn d0) m #[Value.ref b] below meth c H locs (100 + 99 * n) (410000 + 5499 * n + 16384 * g) Q (F0 m 712 ls []) := by
  obtain ⟨hx, hb, hml, hown, hts, hE, hK, hX, hbl⟩ := F
  obtain ⟨nl, nb, rn, fd, Lf, Cf, Mf, Hf, Sf, qm, qd, lt, gl, gh, lw6, hi6, np, Xf, ws, kd, wK, wM, hk, hm, hP, hD, hS, hl⟩ := hI
  have hA : ∀ q : Nat, s.heap.size ≤ q → (fun q : Nat => s.heap.size ≤ q) q := fun _ h => h
  have hbA : ¬ (fun q : Nat => s.heap.size ≤ q) b := Nat.not_le.mpr hbl
  refine lv_aload_n hx hb dL_law_712 rfl (lv_at hl 2 rfl) ?_
  refine lv_aload_n hx hb dL_law_713 rfl (lv_at hl 3 rfl) ?_
  refine lv_iload_n hx hb dL_law_714 rfl (lv_at hl 0 rfl) ?_
  refine lv_iconst (v := 1) hx hb dL_law_715 (by decide) ?_
  refine lv_iadd hx hb dL_law_716 ?_
  refine lv_topi (fun y_ e_ => ?_)
  obtain rfl : y_ = (nI (7 * n + 1)) := e_.trans (nI_add (7 * n) (1))
  refine va_sld hx hb hX hbl hbA hS (vp_in_nI (show 7 * n + 1 < L by omega) (by omega)) dL_law_717 ?_
  refine lv_aload_n hx hb dL_law_718 rfl (lv_at hl 3 rfl) ?_
  refine lv_iload_n hx hb dL_law_719 rfl (lv_at hl 0 rfl) ?_
  refine lv_iconst (v := 2) hx hb dL_law_720 (by decide) ?_
  refine lv_iadd hx hb dL_law_721 ?_
  refine lv_topi (fun y_ e_ => ?_)
  obtain rfl : y_ = (nI (7 * n + 2)) := e_.trans (nI_add (7 * n) (2))
  refine va_sld hx hb hX hbl hbA hS (vp_in_nI (show 7 * n + 2 < L by omega) (by omega)) dL_law_722 ?_
  have hgl := kOK_g hk
  obtain ⟨fs, hfs⟩ := kOK_x hk
  obtain ⟨mc_, ms_, d_, hmc, hms, hd_, hMet⟩ := K_heat l dC dI ca x g nl nb rn fd Lf Cf Mf Hf Sf qm qd lt gl gh lw6 hi6 np Xf ws kd H.size wK (xs ((nI (7 * n + 1)) : Int32).toNatClampNeg) (xs ((nI (7 * n + 2)) : Int32).toNatClampNeg) hk
  have hFc := fr_l hD hS hA
  refine va_calli (va_runV (As := [.int (xs ((nI (7 * n + 1)) : Int32).toNatClampNeg), .int (xs ((nI (7 * n + 2)) : Int32).toNatClampNeg)]) (rest := []) ⟨hx, hb, hml, hown, hts⟩ hMet (⟨callB_of 2 hts (gd mw_523) rfl rfl rfl (hts _ mw_1) (hts _ mw_520) ds_X10_heat ⟨Nat.le_of_ble_eq_true rfl, Nat.le_of_ble_eq_true rfl⟩, (hts _ mw_521), (hts _ mw_522)⟩) (pr_V (w_left hP) hK (d_left hD) hE (va_recv hK (w_left hP) (ci := 10) (q0 := 0) rfl hfs)) rfl rfl hl.1 rfl (lv_room (Nat.le_of_ble_eq_true rfl)) dL_law_723 ⟨by show (100 + 99 * n) + mc_ ≤ 600000; omega, by show (410000 + 5499 * n + 16384 * g) + ms_ ≤ 7302250; omega⟩) hS (fun q _ h => hFc q h) hFc (fun rv_1 u_1 t_ H1 locs ht hvm hw_ hB hz1 hk1 hS => ?_)
  obtain ⟨hP1, hD1⟩ := hB
  rw [ht] at hP1
  obtain ⟨hP, hD⟩ := frm hP hD hk1 hFc hP1 hD1
  generalize H1 = H at hP hS ⊢
  have hk2 := hw_
  refine W.widen (k := (100 + 99 * (n + 1))) (n := (410000 + 5499 * (n + 1) + 16384 * (g + d_))) (by omega) (by omega) ?_
  refine lv_pop hx hb dL_law_726 rfl ?_
  refine lv_aload_n hx hb dL_law_727 rfl (lv_at hl 1 rfl) ?_
  refine lv_aload_n hx hb dL_law_728 rfl (lv_at hl 3 rfl) ?_
  refine lv_iload_n hx hb dL_law_729 rfl (lv_at hl 0 rfl) ?_
  refine lv_iconst (v := 1) hx hb dL_law_730 (by decide) ?_
  refine lv_iadd hx hb dL_law_731 ?_
  refine lv_topi (fun y_ e_ => ?_)
  obtain rfl : y_ = (nI (7 * n + 1)) := e_.trans (nI_add (7 * n) (1))
  refine va_sld hx hb hX hbl hbA hS (vp_in_nI (show 7 * n + 1 < L by omega) (by omega)) dL_law_732 ?_
  refine lv_aload_n hx hb dL_law_733 rfl (lv_at hl 3 rfl) ?_
  refine lv_iload_n hx hb dL_law_734 rfl (lv_at hl 0 rfl) ?_
  refine lv_iconst (v := 2) hx hb dL_law_735 (by decide) ?_
  refine lv_iadd hx hb dL_law_736 ?_
  refine lv_topi (fun y_ e_ => ?_)
  obtain rfl : y_ = (nI (7 * n + 2)) := e_.trans (nI_add (7 * n) (2))
  refine va_sld hx hb hX hbl hbA hS (vp_in_nI (show 7 * n + 2 < L by omega) (by omega)) dL_law_737 ?_
  have hP := hP.perm List.perm_append_comm
  have hD := hD.perm List.perm_append_comm
  obtain ⟨fs2, hfs2⟩ := mOK_x hm
  have hMet2 := M_heat l dC dI ca y nl nb rn fd Lf Cf Mf Hf Sf qm qd lt gl gh lw6 hi6 np Xf ws kd H.size wM (xs ((nI (7 * n + 1)) : Int32).toNatClampNeg) (xs ((nI (7 * n + 2)) : Int32).toNatClampNeg) hm
  have hFc := fr_l hD hS hA
  refine va_calli (va_runV (As := [.int (xs ((nI (7 * n + 1)) : Int32).toNatClampNeg), .int (xs ((nI (7 * n + 2)) : Int32).toNatClampNeg)]) (rest := []) ⟨hx, hb, hml, hown, hts⟩ hMet2 (⟨callB_of 2 hts (gd mw_1135) rfl rfl rfl (hts _ mw_8) (hts _ mw_1132) ds_X11_heat ⟨Nat.le_of_ble_eq_true rfl, Nat.le_of_ble_eq_true rfl⟩, (hts _ mw_1133), (hts _ mw_1134)⟩) (pr_V (w_left hP) hK (d_left hD) hE (va_recv hK (w_left hP) (ci := 11) (q0 := 0) rfl hfs2)) rfl rfl hl.1 rfl (lv_room (Nat.le_of_ble_eq_true rfl)) dL_law_738 ⟨by show (100 + 99 * (n + 1)) + 0 ≤ 600000; omega, by show (410000 + 5499 * (n + 1) + 16384 * (g + d_)) + 0 ≤ 7302250; omega⟩) hS (fun q _ h => hFc q h) hFc (fun rv_2 u_2 t_ H1 locs ht hvm hw_ hB hz1 hk1 hS => ?_)
  obtain ⟨hP1, hD1⟩ := hB
  rw [ht] at hP1
  obtain ⟨hP, hD⟩ := frm hP hD hk1 hFc hP1 hD1
  generalize H1 = H at hP hS ⊢
  have hm2 := hw_
  have hP := hP.perm List.perm_append_comm
  have hD := hD.perm List.perm_append_comm
  refine lv_pop hx hb dL_law_741 rfl ?_
  refine lv_goto (tgt := 1319) hx hb dL_law_742 (by decide) ?_
  exact kk d0 (g + d_) _ _ _ hd0 ⟨_, _, _, _, _, _, _, _, _, _, _, _, _, _, _, _, _, _, _, _, u_1, u_2, hk2, hm2, hP, hD, hS, hl⟩

set_option maxHeartbeats 4000000 in
set_option maxRecDepth 100000 in
theorem lc_15 {p : Program} {e : Env} {s : State} {m : MethodId} {below : List Frame} {meth : Method} {c : Code} (l : Launch) {b L : Nat} {xs : Nat → Int32} {dC : Nat → ClassId} {dI : Nat → Nat → Nat} {ca : Nat → ClassId} {Q : State → Prop} {d0 : Drawn} {x y n g : Nat} {H : Heap} {locs : List Loc} {ls : Array Slot} (hd0 : s.drawn.sameBut d0 lw_cs) (F : lwF p s d0 m c b L xs dC dI ca) (hL : L ≤ 3584) (hn : 7 * n + 7 ≤ L) (hI : lI dC dI ca s.heap x y b n g H locs ls) (kk : ∀ (d1 : Drawn) (g1 : Nat) (H : Heap) (locs : List Loc) (ls : Array Slot), s.drawn.sameBut d1 lw_cs → lI dC dI ca s.heap x y b n g1 H locs ls → W p l e room_1 (s.setDrawn d1) m #[Value.ref b] below meth c H locs (100 + 99 * (n + 1)) (410000 + 5499 * (n + 1) + 16384 * g1) Q (F0 m 1319 ls [])) : W p l e room_1 (s.setDrawn d0) m #[Value.ref b] below meth c H locs (100 + 99 * n) (410000 + 5499 * n + 16384 * g) Q (F0 m 745 ls []) := by
  obtain ⟨hx, hb, hml, hown, hts, hE, hK, hX, hbl⟩ := F
  obtain ⟨nl, nb, rn, fd, Lf, Cf, Mf, Hf, Sf, qm, qd, lt, gl, gh, lw6, hi6, np, Xf, ws, kd, wK, wM, hk, hm, hP, hD, hS, hl⟩ := hI
  have hA : ∀ q : Nat, s.heap.size ≤ q → (fun q : Nat => s.heap.size ≤ q) q := fun _ h => h
  have hbA : ¬ (fun q : Nat => s.heap.size ≤ q) b := Nat.not_le.mpr hbl
  refine lv_aload_n hx hb dL_law_745 rfl (lv_at hl 2 rfl) ?_
  refine lv_aload_n hx hb dL_law_746 rfl (lv_at hl 3 rfl) ?_
  refine lv_iload_n hx hb dL_law_747 rfl (lv_at hl 0 rfl) ?_
  refine lv_iconst (v := 1) hx hb dL_law_748 (by decide) ?_
  refine lv_iadd hx hb dL_law_749 ?_
  refine lv_topi (fun y_ e_ => ?_)
  obtain rfl : y_ = (nI (7 * n + 1)) := e_.trans (nI_add (7 * n) (1))
  refine va_sld hx hb hX hbl hbA hS (vp_in_nI (show 7 * n + 1 < L by omega) (by omega)) dL_law_750 ?_
  refine lv_aload_n hx hb dL_law_751 rfl (lv_at hl 3 rfl) ?_
  refine lv_iload_n hx hb dL_law_752 rfl (lv_at hl 0 rfl) ?_
  refine lv_iconst (v := 2) hx hb dL_law_753 (by decide) ?_
  refine lv_iadd hx hb dL_law_754 ?_
  refine lv_topi (fun y_ e_ => ?_)
  obtain rfl : y_ = (nI (7 * n + 2)) := e_.trans (nI_add (7 * n) (2))
  refine va_sld hx hb hX hbl hbA hS (vp_in_nI (show 7 * n + 2 < L by omega) (by omega)) dL_law_755 ?_
  refine lv_aload_n hx hb dL_law_756 rfl (lv_at hl 3 rfl) ?_
  refine lv_iload_n hx hb dL_law_757 rfl (lv_at hl 0 rfl) ?_
  refine lv_iconst (v := 3) hx hb dL_law_758 (by decide) ?_
  refine lv_iadd hx hb dL_law_759 ?_
  refine lv_topi (fun y_ e_ => ?_)
  obtain rfl : y_ = (nI (7 * n + 3)) := e_.trans (nI_add (7 * n) (3))
  refine va_sld hx hb hX hbl hbA hS (vp_in_nI (show 7 * n + 3 < L by omega) (by omega)) dL_law_760 ?_
  have hgl := kOK_g hk
  obtain ⟨fs, hfs⟩ := kOK_x hk
  obtain ⟨mc_, ms_, d_, hmc, hms, hd_, hMet⟩ := K_cut l dC dI ca x g nl nb rn fd Lf Cf Mf Hf Sf qm qd lt gl gh lw6 hi6 np Xf ws kd H.size wK (xs ((nI (7 * n + 1)) : Int32).toNatClampNeg) (xs ((nI (7 * n + 2)) : Int32).toNatClampNeg) (xs ((nI (7 * n + 3)) : Int32).toNatClampNeg) hk
  have hFc := fr_l hD hS hA
  refine va_calli (va_runV (As := [.int (xs ((nI (7 * n + 1)) : Int32).toNatClampNeg), .int (xs ((nI (7 * n + 2)) : Int32).toNatClampNeg), .int (xs ((nI (7 * n + 3)) : Int32).toNatClampNeg)]) (rest := []) ⟨hx, hb, hml, hown, hts⟩ hMet (⟨callB_of 3 hts (gd mw_539) rfl rfl rfl (hts _ mw_1) (hts _ mw_536) ds_X10_cut ⟨Nat.le_of_ble_eq_true rfl, Nat.le_of_ble_eq_true rfl⟩, (hts _ mw_537), (hts _ mw_538)⟩) (pr_V (w_left hP) hK (d_left hD) hE (va_recv hK (w_left hP) (ci := 10) (q0 := 0) rfl hfs)) rfl rfl hl.1 rfl (lv_room (Nat.le_of_ble_eq_true rfl)) dL_law_761 ⟨by show (100 + 99 * n) + mc_ ≤ 600000; omega, by show (410000 + 5499 * n + 16384 * g) + ms_ ≤ 7302250; omega⟩) hS (fun q _ h => hFc q h) hFc (fun rv_1 u_1 t_ H1 locs ht hvm hw_ hB hz1 hk1 hS => ?_)
  obtain ⟨hP1, hD1⟩ := hB
  rw [ht] at hP1
  obtain ⟨hP, hD⟩ := frm hP hD hk1 hFc hP1 hD1
  generalize H1 = H at hP hS ⊢
  obtain ⟨e_, hk2⟩ := hw_
  obtain rfl : rv_1 = (cuA nb Cf Xf lw6 hi6 np (xs ((nI (7 * n + 1)) : Int32).toNatClampNeg) (xs ((nI (7 * n + 2)) : Int32).toNatClampNeg) (xs ((nI (7 * n + 3)) : Int32).toNatClampNeg)) := e_
  refine W.widen (k := (100 + 99 * (n + 1))) (n := (410000 + 5499 * (n + 1) + 16384 * (g + d_))) (by omega) (by omega) ?_
  refine lv_pop hx hb dL_law_764 rfl ?_
  refine lv_aload_n hx hb dL_law_765 rfl (lv_at hl 1 rfl) ?_
  refine lv_aload_n hx hb dL_law_766 rfl (lv_at hl 3 rfl) ?_
  refine lv_iload_n hx hb dL_law_767 rfl (lv_at hl 0 rfl) ?_
  refine lv_iconst (v := 1) hx hb dL_law_768 (by decide) ?_
  refine lv_iadd hx hb dL_law_769 ?_
  refine lv_topi (fun y_ e_ => ?_)
  obtain rfl : y_ = (nI (7 * n + 1)) := e_.trans (nI_add (7 * n) (1))
  refine va_sld hx hb hX hbl hbA hS (vp_in_nI (show 7 * n + 1 < L by omega) (by omega)) dL_law_770 ?_
  refine lv_aload_n hx hb dL_law_771 rfl (lv_at hl 3 rfl) ?_
  refine lv_iload_n hx hb dL_law_772 rfl (lv_at hl 0 rfl) ?_
  refine lv_iconst (v := 2) hx hb dL_law_773 (by decide) ?_
  refine lv_iadd hx hb dL_law_774 ?_
  refine lv_topi (fun y_ e_ => ?_)
  obtain rfl : y_ = (nI (7 * n + 2)) := e_.trans (nI_add (7 * n) (2))
  refine va_sld hx hb hX hbl hbA hS (vp_in_nI (show 7 * n + 2 < L by omega) (by omega)) dL_law_775 ?_
  refine lv_aload_n hx hb dL_law_776 rfl (lv_at hl 3 rfl) ?_
  refine lv_iload_n hx hb dL_law_777 rfl (lv_at hl 0 rfl) ?_
  refine lv_iconst (v := 3) hx hb dL_law_778 (by decide) ?_
  refine lv_iadd hx hb dL_law_779 ?_
  refine lv_topi (fun y_ e_ => ?_)
  obtain rfl : y_ = (nI (7 * n + 3)) := e_.trans (nI_add (7 * n) (3))
  refine va_sld hx hb hX hbl hbA hS (vp_in_nI (show 7 * n + 3 < L by omega) (by omega)) dL_law_780 ?_
  have hP := hP.perm List.perm_append_comm
  have hD := hD.perm List.perm_append_comm
  obtain ⟨fs2, hfs2⟩ := mOK_x hm
  have hMet2 := M_cut l dC dI ca y nl nb rn fd Lf Cf Mf Hf Sf qm qd lt gl gh lw6 hi6 np Xf ws kd H.size wM (xs ((nI (7 * n + 1)) : Int32).toNatClampNeg) (xs ((nI (7 * n + 2)) : Int32).toNatClampNeg) (xs ((nI (7 * n + 3)) : Int32).toNatClampNeg) hm
  have hFc := fr_l hD hS hA
  refine va_calli (va_runV (As := [.int (xs ((nI (7 * n + 1)) : Int32).toNatClampNeg), .int (xs ((nI (7 * n + 2)) : Int32).toNatClampNeg), .int (xs ((nI (7 * n + 3)) : Int32).toNatClampNeg)]) (rest := []) ⟨hx, hb, hml, hown, hts⟩ hMet2 (⟨callB_of 3 hts (gd mw_1139) rfl rfl rfl (hts _ mw_8) (hts _ mw_1136) ds_X11_cut ⟨Nat.le_of_ble_eq_true rfl, Nat.le_of_ble_eq_true rfl⟩, (hts _ mw_1137), (hts _ mw_1138)⟩) (pr_V (w_left hP) hK (d_left hD) hE (va_recv hK (w_left hP) (ci := 11) (q0 := 0) rfl hfs2)) rfl rfl hl.1 rfl (lv_room (Nat.le_of_ble_eq_true rfl)) dL_law_781 ⟨by show (100 + 99 * (n + 1)) + 0 ≤ 600000; omega, by show (410000 + 5499 * (n + 1) + 16384 * (g + d_)) + 0 ≤ 7302250; omega⟩) hS (fun q _ h => hFc q h) hFc (fun rv_2 u_2 t_ H1 locs ht hvm hw_ hB hz1 hk1 hS => ?_)
  obtain ⟨hP1, hD1⟩ := hB
  rw [ht] at hP1
  obtain ⟨hP, hD⟩ := frm hP hD hk1 hFc hP1 hD1
  generalize H1 = H at hP hS ⊢
  obtain ⟨e_, hm2⟩ := hw_
  obtain rfl : rv_2 = (cuA nb Cf Xf lw6 hi6 np (xs ((nI (7 * n + 1)) : Int32).toNatClampNeg) (xs ((nI (7 * n + 2)) : Int32).toNatClampNeg) (xs ((nI (7 * n + 3)) : Int32).toNatClampNeg)) := e_
  have hP := hP.perm List.perm_append_comm
  have hD := hD.perm List.perm_append_comm
  refine lv_pop hx hb dL_law_784 rfl ?_
  refine lv_goto (tgt := 1319) hx hb dL_law_785 (by decide) ?_
  exact kk d0 (g + d_) _ _ _ hd0 ⟨_, _, _, _, _, _, _, _, _, _, _, _, _, _, _, _, _, _, _, _, u_1, u_2, hk2, hm2, hP, hD, hS, hl⟩

set_option maxHeartbeats 4000000 in
set_option maxRecDepth 100000 in
theorem lc_16 {p : Program} {e : Env} {s : State} {m : MethodId} {below : List Frame} {meth : Method} {c : Code} (l : Launch) {b L : Nat} {xs : Nat → Int32} {dC : Nat → ClassId} {dI : Nat → Nat → Nat} {ca : Nat → ClassId} {Q : State → Prop} {d0 : Drawn} {x y n g : Nat} {H : Heap} {locs : List Loc} {ls : Array Slot} (hd0 : s.drawn.sameBut d0 lw_cs) (F : lwF p s d0 m c b L xs dC dI ca) (hL : L ≤ 3584) (hn : 7 * n + 7 ≤ L) (hI : lI dC dI ca s.heap x y b n g H locs ls) (kk : ∀ (d1 : Drawn) (g1 : Nat) (H : Heap) (locs : List Loc) (ls : Array Slot), s.drawn.sameBut d1 lw_cs → lI dC dI ca s.heap x y b n g1 H locs ls → W p l e room_1 (s.setDrawn d1) m #[Value.ref b] below meth c H locs (100 + 99 * (n + 1)) (410000 + 5499 * (n + 1) + 16384 * g1) Q (F0 m 1319 ls [])) : W p l e room_1 (s.setDrawn d0) m #[Value.ref b] below meth c H locs (100 + 99 * n) (410000 + 5499 * n + 16384 * g) Q (F0 m 788 ls []) := by
  obtain ⟨hx, hb, hml, hown, hts, hE, hK, hX, hbl⟩ := F
  obtain ⟨nl, nb, rn, fd, Lf, Cf, Mf, Hf, Sf, qm, qd, lt, gl, gh, lw6, hi6, np, Xf, ws, kd, wK, wM, hk, hm, hP, hD, hS, hl⟩ := hI
  have hA : ∀ q : Nat, s.heap.size ≤ q → (fun q : Nat => s.heap.size ≤ q) q := fun _ h => h
  have hbA : ¬ (fun q : Nat => s.heap.size ≤ q) b := Nat.not_le.mpr hbl
  refine lv_aload_n hx hb dL_law_788 rfl (lv_at hl 2 rfl) ?_
  refine lv_aload_n hx hb dL_law_789 rfl (lv_at hl 3 rfl) ?_
  refine lv_iload_n hx hb dL_law_790 rfl (lv_at hl 0 rfl) ?_
  refine lv_iconst (v := 1) hx hb dL_law_791 (by decide) ?_
  refine lv_iadd hx hb dL_law_792 ?_
  refine lv_topi (fun y_ e_ => ?_)
  obtain rfl : y_ = (nI (7 * n + 1)) := e_.trans (nI_add (7 * n) (1))
  refine va_sld hx hb hX hbl hbA hS (vp_in_nI (show 7 * n + 1 < L by omega) (by omega)) dL_law_793 ?_
  refine lv_aload_n hx hb dL_law_794 rfl (lv_at hl 3 rfl) ?_
  refine lv_iload_n hx hb dL_law_795 rfl (lv_at hl 0 rfl) ?_
  refine lv_iconst (v := 2) hx hb dL_law_796 (by decide) ?_
  refine lv_iadd hx hb dL_law_797 ?_
  refine lv_topi (fun y_ e_ => ?_)
  obtain rfl : y_ = (nI (7 * n + 2)) := e_.trans (nI_add (7 * n) (2))
  refine va_sld hx hb hX hbl hbA hS (vp_in_nI (show 7 * n + 2 < L by omega) (by omega)) dL_law_798 ?_
  refine lv_aload_n hx hb dL_law_799 rfl (lv_at hl 3 rfl) ?_
  refine lv_iload_n hx hb dL_law_800 rfl (lv_at hl 0 rfl) ?_
  refine lv_iconst (v := 3) hx hb dL_law_801 (by decide) ?_
  refine lv_iadd hx hb dL_law_802 ?_
  refine lv_topi (fun y_ e_ => ?_)
  obtain rfl : y_ = (nI (7 * n + 3)) := e_.trans (nI_add (7 * n) (3))
  refine va_sld hx hb hX hbl hbA hS (vp_in_nI (show 7 * n + 3 < L by omega) (by omega)) dL_law_803 ?_
  have hgl := kOK_g hk
  obtain ⟨fs, hfs⟩ := kOK_x hk
  obtain ⟨mc_, ms_, d_, hmc, hms, hd_, hMet⟩ := K_dip l dC dI ca x g nl nb rn fd Lf Cf Mf Hf Sf qm qd lt gl gh lw6 hi6 np Xf ws kd H.size wK (xs ((nI (7 * n + 1)) : Int32).toNatClampNeg) (xs ((nI (7 * n + 2)) : Int32).toNatClampNeg) (xs ((nI (7 * n + 3)) : Int32).toNatClampNeg) hk
  have hFc := fr_l hD hS hA
  refine va_calli (va_runV (As := [.int (xs ((nI (7 * n + 1)) : Int32).toNatClampNeg), .int (xs ((nI (7 * n + 2)) : Int32).toNatClampNeg), .int (xs ((nI (7 * n + 3)) : Int32).toNatClampNeg)]) (rest := []) ⟨hx, hb, hml, hown, hts⟩ hMet (⟨callB_of 3 hts (gd mw_588) rfl rfl rfl (hts _ mw_1) (hts _ mw_585) ds_X10_dip ⟨Nat.le_of_ble_eq_true rfl, Nat.le_of_ble_eq_true rfl⟩, (hts _ mw_586), (hts _ mw_587)⟩) (pr_V (w_left hP) hK (d_left hD) hE (va_recv hK (w_left hP) (ci := 10) (q0 := 0) rfl hfs)) rfl rfl hl.1 rfl (lv_room (Nat.le_of_ble_eq_true rfl)) dL_law_804 ⟨by show (100 + 99 * n) + mc_ ≤ 600000; omega, by show (410000 + 5499 * n + 16384 * g) + ms_ ≤ 7302250; omega⟩) hS (fun q _ h => hFc q h) hFc (fun rv_1 u_1 t_ H1 locs ht hvm hw_ hB hz1 hk1 hS => ?_)
  obtain ⟨hP1, hD1⟩ := hB
  rw [ht] at hP1
  obtain ⟨hP, hD⟩ := frm hP hD hk1 hFc hP1 hD1
  generalize H1 = H at hP hS ⊢
  have hk2 := hw_
  refine W.widen (k := (100 + 99 * (n + 1))) (n := (410000 + 5499 * (n + 1) + 16384 * (g + d_))) (by omega) (by omega) ?_
  refine lv_pop hx hb dL_law_807 rfl ?_
  refine lv_aload_n hx hb dL_law_808 rfl (lv_at hl 1 rfl) ?_
  refine lv_aload_n hx hb dL_law_809 rfl (lv_at hl 3 rfl) ?_
  refine lv_iload_n hx hb dL_law_810 rfl (lv_at hl 0 rfl) ?_
  refine lv_iconst (v := 1) hx hb dL_law_811 (by decide) ?_
  refine lv_iadd hx hb dL_law_812 ?_
  refine lv_topi (fun y_ e_ => ?_)
  obtain rfl : y_ = (nI (7 * n + 1)) := e_.trans (nI_add (7 * n) (1))
  refine va_sld hx hb hX hbl hbA hS (vp_in_nI (show 7 * n + 1 < L by omega) (by omega)) dL_law_813 ?_
  refine lv_aload_n hx hb dL_law_814 rfl (lv_at hl 3 rfl) ?_
  refine lv_iload_n hx hb dL_law_815 rfl (lv_at hl 0 rfl) ?_
  refine lv_iconst (v := 2) hx hb dL_law_816 (by decide) ?_
  refine lv_iadd hx hb dL_law_817 ?_
  refine lv_topi (fun y_ e_ => ?_)
  obtain rfl : y_ = (nI (7 * n + 2)) := e_.trans (nI_add (7 * n) (2))
  refine va_sld hx hb hX hbl hbA hS (vp_in_nI (show 7 * n + 2 < L by omega) (by omega)) dL_law_818 ?_
  refine lv_aload_n hx hb dL_law_819 rfl (lv_at hl 3 rfl) ?_
  refine lv_iload_n hx hb dL_law_820 rfl (lv_at hl 0 rfl) ?_
  refine lv_iconst (v := 3) hx hb dL_law_821 (by decide) ?_
  refine lv_iadd hx hb dL_law_822 ?_
  refine lv_topi (fun y_ e_ => ?_)
  obtain rfl : y_ = (nI (7 * n + 3)) := e_.trans (nI_add (7 * n) (3))
  refine va_sld hx hb hX hbl hbA hS (vp_in_nI (show 7 * n + 3 < L by omega) (by omega)) dL_law_823 ?_
  have hP := hP.perm List.perm_append_comm
  have hD := hD.perm List.perm_append_comm
  obtain ⟨fs2, hfs2⟩ := mOK_x hm
  have hMet2 := M_dip l dC dI ca y nl nb rn fd Lf Cf Mf Hf Sf qm qd lt gl gh lw6 hi6 np Xf ws kd H.size wM (xs ((nI (7 * n + 1)) : Int32).toNatClampNeg) (xs ((nI (7 * n + 2)) : Int32).toNatClampNeg) (xs ((nI (7 * n + 3)) : Int32).toNatClampNeg) hm
  have hFc := fr_l hD hS hA
  refine va_calli (va_runV (As := [.int (xs ((nI (7 * n + 1)) : Int32).toNatClampNeg), .int (xs ((nI (7 * n + 2)) : Int32).toNatClampNeg), .int (xs ((nI (7 * n + 3)) : Int32).toNatClampNeg)]) (rest := []) ⟨hx, hb, hml, hown, hts⟩ hMet2 (⟨callB_of 3 hts (gd mw_1148) rfl rfl rfl (hts _ mw_8) (hts _ mw_1145) ds_X11_dip ⟨Nat.le_of_ble_eq_true rfl, Nat.le_of_ble_eq_true rfl⟩, (hts _ mw_1146), (hts _ mw_1147)⟩) (pr_V (w_left hP) hK (d_left hD) hE (va_recv hK (w_left hP) (ci := 11) (q0 := 0) rfl hfs2)) rfl rfl hl.1 rfl (lv_room (Nat.le_of_ble_eq_true rfl)) dL_law_824 ⟨by show (100 + 99 * (n + 1)) + 0 ≤ 600000; omega, by show (410000 + 5499 * (n + 1) + 16384 * (g + d_)) + 0 ≤ 7302250; omega⟩) hS (fun q _ h => hFc q h) hFc (fun rv_2 u_2 t_ H1 locs ht hvm hw_ hB hz1 hk1 hS => ?_)
  obtain ⟨hP1, hD1⟩ := hB
  rw [ht] at hP1
  obtain ⟨hP, hD⟩ := frm hP hD hk1 hFc hP1 hD1
  generalize H1 = H at hP hS ⊢
  have hm2 := hw_
  have hP := hP.perm List.perm_append_comm
  have hD := hD.perm List.perm_append_comm
  refine lv_pop hx hb dL_law_827 rfl ?_
  refine lv_goto (tgt := 1319) hx hb dL_law_828 (by decide) ?_
  exact kk d0 (g + d_) _ _ _ hd0 ⟨_, _, _, _, _, _, _, _, _, _, _, _, _, _, _, _, _, _, _, _, u_1, u_2, hk2, hm2, hP, hD, hS, hl⟩

set_option maxHeartbeats 4000000 in
set_option maxRecDepth 100000 in
theorem lc_17 {p : Program} {e : Env} {s : State} {m : MethodId} {below : List Frame} {meth : Method} {c : Code} (l : Launch) {b L : Nat} {xs : Nat → Int32} {dC : Nat → ClassId} {dI : Nat → Nat → Nat} {ca : Nat → ClassId} {Q : State → Prop} {d0 : Drawn} {x y n g : Nat} {H : Heap} {locs : List Loc} {ls : Array Slot} (hd0 : s.drawn.sameBut d0 lw_cs) (F : lwF p s d0 m c b L xs dC dI ca) (hL : L ≤ 3584) (hn : 7 * n + 7 ≤ L) (hI : lI dC dI ca s.heap x y b n g H locs ls) (kk : ∀ (d1 : Drawn) (g1 : Nat) (H : Heap) (locs : List Loc) (ls : Array Slot), s.drawn.sameBut d1 lw_cs → lI dC dI ca s.heap x y b n g1 H locs ls → W p l e room_1 (s.setDrawn d1) m #[Value.ref b] below meth c H locs (100 + 99 * (n + 1)) (410000 + 5499 * (n + 1) + 16384 * g1) Q (F0 m 1319 ls [])) : W p l e room_1 (s.setDrawn d0) m #[Value.ref b] below meth c H locs (100 + 99 * n) (410000 + 5499 * n + 16384 * g) Q (F0 m 831 ls []) := by
  obtain ⟨hx, hb, hml, hown, hts, hE, hK, hX, hbl⟩ := F
  obtain ⟨nl, nb, rn, fd, Lf, Cf, Mf, Hf, Sf, qm, qd, lt, gl, gh, lw6, hi6, np, Xf, ws, kd, wK, wM, hk, hm, hP, hD, hS, hl⟩ := hI
  have hA : ∀ q : Nat, s.heap.size ≤ q → (fun q : Nat => s.heap.size ≤ q) q := fun _ h => h
  have hbA : ¬ (fun q : Nat => s.heap.size ≤ q) b := Nat.not_le.mpr hbl
  refine lv_aload_n hx hb dL_law_831 rfl (lv_at hl 2 rfl) ?_
  refine lv_aload_n hx hb dL_law_832 rfl (lv_at hl 3 rfl) ?_
  refine lv_iload_n hx hb dL_law_833 rfl (lv_at hl 0 rfl) ?_
  refine lv_iconst (v := 1) hx hb dL_law_834 (by decide) ?_
  refine lv_iadd hx hb dL_law_835 ?_
  refine lv_topi (fun y_ e_ => ?_)
  obtain rfl : y_ = (nI (7 * n + 1)) := e_.trans (nI_add (7 * n) (1))
  refine va_sld hx hb hX hbl hbA hS (vp_in_nI (show 7 * n + 1 < L by omega) (by omega)) dL_law_836 ?_
  refine lv_aload_n hx hb dL_law_837 rfl (lv_at hl 3 rfl) ?_
  refine lv_iload_n hx hb dL_law_838 rfl (lv_at hl 0 rfl) ?_
  refine lv_iconst (v := 2) hx hb dL_law_839 (by decide) ?_
  refine lv_iadd hx hb dL_law_840 ?_
  refine lv_topi (fun y_ e_ => ?_)
  obtain rfl : y_ = (nI (7 * n + 2)) := e_.trans (nI_add (7 * n) (2))
  refine va_sld hx hb hX hbl hbA hS (vp_in_nI (show 7 * n + 2 < L by omega) (by omega)) dL_law_841 ?_
  refine lv_aload_n hx hb dL_law_842 rfl (lv_at hl 3 rfl) ?_
  refine lv_iload_n hx hb dL_law_843 rfl (lv_at hl 0 rfl) ?_
  refine lv_iconst (v := 3) hx hb dL_law_844 (by decide) ?_
  refine lv_iadd hx hb dL_law_845 ?_
  refine lv_topi (fun y_ e_ => ?_)
  obtain rfl : y_ = (nI (7 * n + 3)) := e_.trans (nI_add (7 * n) (3))
  refine va_sld hx hb hX hbl hbA hS (vp_in_nI (show 7 * n + 3 < L by omega) (by omega)) dL_law_846 ?_
  have hgl := kOK_g hk
  obtain ⟨fs, hfs⟩ := kOK_x hk
  obtain ⟨mc_, ms_, d_, hmc, hms, hd_, hMet⟩ := K_place l dC dI ca x g nl nb rn fd Lf Cf Mf Hf Sf qm qd lt gl gh lw6 hi6 np Xf ws kd H.size wK (xs ((nI (7 * n + 1)) : Int32).toNatClampNeg) (xs ((nI (7 * n + 2)) : Int32).toNatClampNeg) (xs ((nI (7 * n + 3)) : Int32).toNatClampNeg) hk
  have hFc := fr_l hD hS hA
  refine va_calli (va_runV (As := [.int (xs ((nI (7 * n + 1)) : Int32).toNatClampNeg), .int (xs ((nI (7 * n + 2)) : Int32).toNatClampNeg), .int (xs ((nI (7 * n + 3)) : Int32).toNatClampNeg)]) (rest := []) ⟨hx, hb, hml, hown, hts⟩ hMet (⟨callB_of 3 hts (gd mw_600) rfl rfl rfl (hts _ mw_1) (hts _ mw_597) ds_X10_place ⟨Nat.le_of_ble_eq_true rfl, Nat.le_of_ble_eq_true rfl⟩, (hts _ mw_598), (hts _ mw_599)⟩) (pr_V (w_left hP) hK (d_left hD) hE (va_recv hK (w_left hP) (ci := 10) (q0 := 0) rfl hfs)) rfl rfl hl.1 rfl (lv_room (Nat.le_of_ble_eq_true rfl)) dL_law_847 ⟨by show (100 + 99 * n) + mc_ ≤ 600000; omega, by show (410000 + 5499 * n + 16384 * g) + ms_ ≤ 7302250; omega⟩) hS (fun q _ h => hFc q h) hFc (fun rv_1 u_1 t_ H1 locs ht hvm hw_ hB hz1 hk1 hS => ?_)
  obtain ⟨hP1, hD1⟩ := hB
  rw [ht] at hP1
  obtain ⟨hP, hD⟩ := frm hP hD hk1 hFc hP1 hD1
  generalize H1 = H at hP hS ⊢
  have hk2 := hw_
  refine W.widen (k := (100 + 99 * (n + 1))) (n := (410000 + 5499 * (n + 1) + 16384 * (g + d_))) (by omega) (by omega) ?_
  refine lv_pop hx hb dL_law_850 rfl ?_
  refine lv_aload_n hx hb dL_law_851 rfl (lv_at hl 1 rfl) ?_
  refine lv_aload_n hx hb dL_law_852 rfl (lv_at hl 3 rfl) ?_
  refine lv_iload_n hx hb dL_law_853 rfl (lv_at hl 0 rfl) ?_
  refine lv_iconst (v := 1) hx hb dL_law_854 (by decide) ?_
  refine lv_iadd hx hb dL_law_855 ?_
  refine lv_topi (fun y_ e_ => ?_)
  obtain rfl : y_ = (nI (7 * n + 1)) := e_.trans (nI_add (7 * n) (1))
  refine va_sld hx hb hX hbl hbA hS (vp_in_nI (show 7 * n + 1 < L by omega) (by omega)) dL_law_856 ?_
  refine lv_aload_n hx hb dL_law_857 rfl (lv_at hl 3 rfl) ?_
  refine lv_iload_n hx hb dL_law_858 rfl (lv_at hl 0 rfl) ?_
  refine lv_iconst (v := 2) hx hb dL_law_859 (by decide) ?_
  refine lv_iadd hx hb dL_law_860 ?_
  refine lv_topi (fun y_ e_ => ?_)
  obtain rfl : y_ = (nI (7 * n + 2)) := e_.trans (nI_add (7 * n) (2))
  refine va_sld hx hb hX hbl hbA hS (vp_in_nI (show 7 * n + 2 < L by omega) (by omega)) dL_law_861 ?_
  refine lv_aload_n hx hb dL_law_862 rfl (lv_at hl 3 rfl) ?_
  refine lv_iload_n hx hb dL_law_863 rfl (lv_at hl 0 rfl) ?_
  refine lv_iconst (v := 3) hx hb dL_law_864 (by decide) ?_
  refine lv_iadd hx hb dL_law_865 ?_
  refine lv_topi (fun y_ e_ => ?_)
  obtain rfl : y_ = (nI (7 * n + 3)) := e_.trans (nI_add (7 * n) (3))
  refine va_sld hx hb hX hbl hbA hS (vp_in_nI (show 7 * n + 3 < L by omega) (by omega)) dL_law_866 ?_
  have hP := hP.perm List.perm_append_comm
  have hD := hD.perm List.perm_append_comm
  obtain ⟨fs2, hfs2⟩ := mOK_x hm
  have hMet2 := M_place l dC dI ca y nl nb rn fd Lf Cf Mf Hf Sf qm qd lt gl gh lw6 hi6 np Xf ws kd H.size wM (xs ((nI (7 * n + 1)) : Int32).toNatClampNeg) (xs ((nI (7 * n + 2)) : Int32).toNatClampNeg) (xs ((nI (7 * n + 3)) : Int32).toNatClampNeg) hm
  have hFc := fr_l hD hS hA
  refine va_calli (va_runV (As := [.int (xs ((nI (7 * n + 1)) : Int32).toNatClampNeg), .int (xs ((nI (7 * n + 2)) : Int32).toNatClampNeg), .int (xs ((nI (7 * n + 3)) : Int32).toNatClampNeg)]) (rest := []) ⟨hx, hb, hml, hown, hts⟩ hMet2 (⟨callB_of 3 hts (gd mw_1156) rfl rfl rfl (hts _ mw_8) (hts _ mw_1153) ds_X11_place ⟨Nat.le_of_ble_eq_true rfl, Nat.le_of_ble_eq_true rfl⟩, (hts _ mw_1154), (hts _ mw_1155)⟩) (pr_V (w_left hP) hK (d_left hD) hE (va_recv hK (w_left hP) (ci := 11) (q0 := 0) rfl hfs2)) rfl rfl hl.1 rfl (lv_room (Nat.le_of_ble_eq_true rfl)) dL_law_867 ⟨by show (100 + 99 * (n + 1)) + 0 ≤ 600000; omega, by show (410000 + 5499 * (n + 1) + 16384 * (g + d_)) + 0 ≤ 7302250; omega⟩) hS (fun q _ h => hFc q h) hFc (fun rv_2 u_2 t_ H1 locs ht hvm hw_ hB hz1 hk1 hS => ?_)
  obtain ⟨hP1, hD1⟩ := hB
  rw [ht] at hP1
  obtain ⟨hP, hD⟩ := frm hP hD hk1 hFc hP1 hD1
  generalize H1 = H at hP hS ⊢
  have hm2 := hw_
  have hP := hP.perm List.perm_append_comm
  have hD := hD.perm List.perm_append_comm
  refine lv_pop hx hb dL_law_870 rfl ?_
  refine lv_goto (tgt := 1319) hx hb dL_law_871 (by decide) ?_
  exact kk d0 (g + d_) _ _ _ hd0 ⟨_, _, _, _, _, _, _, _, _, _, _, _, _, _, _, _, _, _, _, _, u_1, u_2, hk2, hm2, hP, hD, hS, hl⟩

set_option maxHeartbeats 4000000 in
set_option maxRecDepth 100000 in
theorem lc_18 {p : Program} {e : Env} {s : State} {m : MethodId} {below : List Frame} {meth : Method} {c : Code} (l : Launch) {b L : Nat} {xs : Nat → Int32} {dC : Nat → ClassId} {dI : Nat → Nat → Nat} {ca : Nat → ClassId} {Q : State → Prop} {d0 : Drawn} {x y n g : Nat} {H : Heap} {locs : List Loc} {ls : Array Slot} (hd0 : s.drawn.sameBut d0 lw_cs) (F : lwF p s d0 m c b L xs dC dI ca) (hL : L ≤ 3584) (hn : 7 * n + 7 ≤ L) (hI : lI dC dI ca s.heap x y b n g H locs ls) (kk : ∀ (d1 : Drawn) (g1 : Nat) (H : Heap) (locs : List Loc) (ls : Array Slot), s.drawn.sameBut d1 lw_cs → lI dC dI ca s.heap x y b n g1 H locs ls → W p l e room_1 (s.setDrawn d1) m #[Value.ref b] below meth c H locs (100 + 99 * (n + 1)) (410000 + 5499 * (n + 1) + 16384 * g1) Q (F0 m 1319 ls [])) : W p l e room_1 (s.setDrawn d0) m #[Value.ref b] below meth c H locs (100 + 99 * n) (410000 + 5499 * n + 16384 * g) Q (F0 m 874 ls []) := by
  obtain ⟨hx, hb, hml, hown, hts, hE, hK, hX, hbl⟩ := F
  obtain ⟨nl, nb, rn, fd, Lf, Cf, Mf, Hf, Sf, qm, qd, lt, gl, gh, lw6, hi6, np, Xf, ws, kd, wK, wM, hk, hm, hP, hD, hS, hl⟩ := hI
  have hA : ∀ q : Nat, s.heap.size ≤ q → (fun q : Nat => s.heap.size ≤ q) q := fun _ h => h
  have hbA : ¬ (fun q : Nat => s.heap.size ≤ q) b := Nat.not_le.mpr hbl
  refine lv_aload_n hx hb dL_law_874 rfl (lv_at hl 2 rfl) ?_
  refine lv_aload_n hx hb dL_law_875 rfl (lv_at hl 3 rfl) ?_
  refine lv_iload_n hx hb dL_law_876 rfl (lv_at hl 0 rfl) ?_
  refine lv_iconst (v := 1) hx hb dL_law_877 (by decide) ?_
  refine lv_iadd hx hb dL_law_878 ?_
  refine lv_topi (fun y_ e_ => ?_)
  obtain rfl : y_ = (nI (7 * n + 1)) := e_.trans (nI_add (7 * n) (1))
  refine va_sld hx hb hX hbl hbA hS (vp_in_nI (show 7 * n + 1 < L by omega) (by omega)) dL_law_879 ?_
  have hgl := kOK_g hk
  obtain ⟨fs, hfs⟩ := kOK_x hk
  obtain ⟨mc_, ms_, d_, hmc, hms, hd_, hMet⟩ := K_take l dC dI ca x g nl nb rn fd Lf Cf Mf Hf Sf qm qd lt gl gh lw6 hi6 np Xf ws kd H.size wK (xs ((nI (7 * n + 1)) : Int32).toNatClampNeg) hk
  have hFc := fr_l hD hS hA
  refine va_calli (va_runV (As := [.int (xs ((nI (7 * n + 1)) : Int32).toNatClampNeg)]) (rest := []) ⟨hx, hb, hml, hown, hts⟩ hMet (⟨callB_of 1 hts (gd mw_611) rfl rfl rfl (hts _ mw_1) (hts _ mw_608) ds_X10_take ⟨Nat.le_of_ble_eq_true rfl, Nat.le_of_ble_eq_true rfl⟩, (hts _ mw_609), (hts _ mw_610)⟩) (pr_V (w_left hP) hK (d_left hD) hE (va_recv hK (w_left hP) (ci := 10) (q0 := 0) rfl hfs)) rfl rfl hl.1 rfl (lv_room (Nat.le_of_ble_eq_true rfl)) dL_law_880 ⟨by show (100 + 99 * n) + mc_ ≤ 600000; omega, by show (410000 + 5499 * n + 16384 * g) + ms_ ≤ 7302250; omega⟩) hS (fun q _ h => hFc q h) hFc (fun rv_1 u_1 t_ H1 locs ht hvm hw_ hB hz1 hk1 hS => ?_)
  obtain ⟨hP1, hD1⟩ := hB
  rw [ht] at hP1
  obtain ⟨hP, hD⟩ := frm hP hD hk1 hFc hP1 hD1
  generalize H1 = H at hP hS ⊢
  have hk2 := hw_
  refine W.widen (k := (100 + 99 * (n + 1))) (n := (410000 + 5499 * (n + 1) + 16384 * (g + d_))) (by omega) (by omega) ?_
  refine lv_pop hx hb dL_law_883 rfl ?_
  refine lv_aload_n hx hb dL_law_884 rfl (lv_at hl 1 rfl) ?_
  refine lv_aload_n hx hb dL_law_885 rfl (lv_at hl 3 rfl) ?_
  refine lv_iload_n hx hb dL_law_886 rfl (lv_at hl 0 rfl) ?_
  refine lv_iconst (v := 1) hx hb dL_law_887 (by decide) ?_
  refine lv_iadd hx hb dL_law_888 ?_
  refine lv_topi (fun y_ e_ => ?_)
  obtain rfl : y_ = (nI (7 * n + 1)) := e_.trans (nI_add (7 * n) (1))
  refine va_sld hx hb hX hbl hbA hS (vp_in_nI (show 7 * n + 1 < L by omega) (by omega)) dL_law_889 ?_
  have hP := hP.perm List.perm_append_comm
  have hD := hD.perm List.perm_append_comm
  obtain ⟨fs2, hfs2⟩ := mOK_x hm
  have hMet2 := M_take l dC dI ca y nl nb rn fd Lf Cf Mf Hf Sf qm qd lt gl gh lw6 hi6 np Xf ws kd H.size wM (xs ((nI (7 * n + 1)) : Int32).toNatClampNeg) hm
  have hFc := fr_l hD hS hA
  refine va_calli (va_runV (As := [.int (xs ((nI (7 * n + 1)) : Int32).toNatClampNeg)]) (rest := []) ⟨hx, hb, hml, hown, hts⟩ hMet2 (⟨callB_of 1 hts (gd mw_1164) rfl rfl rfl (hts _ mw_8) (hts _ mw_1161) ds_X11_take ⟨Nat.le_of_ble_eq_true rfl, Nat.le_of_ble_eq_true rfl⟩, (hts _ mw_1162), (hts _ mw_1163)⟩) (pr_V (w_left hP) hK (d_left hD) hE (va_recv hK (w_left hP) (ci := 11) (q0 := 0) rfl hfs2)) rfl rfl hl.1 rfl (lv_room (Nat.le_of_ble_eq_true rfl)) dL_law_890 ⟨by show (100 + 99 * (n + 1)) + 0 ≤ 600000; omega, by show (410000 + 5499 * (n + 1) + 16384 * (g + d_)) + 0 ≤ 7302250; omega⟩) hS (fun q _ h => hFc q h) hFc (fun rv_2 u_2 t_ H1 locs ht hvm hw_ hB hz1 hk1 hS => ?_)
  obtain ⟨hP1, hD1⟩ := hB
  rw [ht] at hP1
  obtain ⟨hP, hD⟩ := frm hP hD hk1 hFc hP1 hD1
  generalize H1 = H at hP hS ⊢
  have hm2 := hw_
  have hP := hP.perm List.perm_append_comm
  have hD := hD.perm List.perm_append_comm
  refine lv_pop hx hb dL_law_893 rfl ?_
  refine lv_goto (tgt := 1319) hx hb dL_law_894 (by decide) ?_
  exact kk d0 (g + d_) _ _ _ hd0 ⟨_, _, _, _, _, _, _, _, _, _, _, _, _, _, _, _, _, _, _, _, u_1, u_2, hk2, hm2, hP, hD, hS, hl⟩

set_option maxHeartbeats 4000000 in
set_option maxRecDepth 100000 in
theorem lc_19 {p : Program} {e : Env} {s : State} {m : MethodId} {below : List Frame} {meth : Method} {c : Code} (l : Launch) {b L : Nat} {xs : Nat → Int32} {dC : Nat → ClassId} {dI : Nat → Nat → Nat} {ca : Nat → ClassId} {Q : State → Prop} {d0 : Drawn} {x y n g : Nat} {H : Heap} {locs : List Loc} {ls : Array Slot} (hd0 : s.drawn.sameBut d0 lw_cs) (F : lwF p s d0 m c b L xs dC dI ca) (hL : L ≤ 3584) (hn : 7 * n + 7 ≤ L) (hI : lI dC dI ca s.heap x y b n g H locs ls) (kk : ∀ (d1 : Drawn) (g1 : Nat) (H : Heap) (locs : List Loc) (ls : Array Slot), s.drawn.sameBut d1 lw_cs → lI dC dI ca s.heap x y b n g1 H locs ls → W p l e room_1 (s.setDrawn d1) m #[Value.ref b] below meth c H locs (100 + 99 * (n + 1)) (410000 + 5499 * (n + 1) + 16384 * g1) Q (F0 m 1319 ls [])) : W p l e room_1 (s.setDrawn d0) m #[Value.ref b] below meth c H locs (100 + 99 * n) (410000 + 5499 * n + 16384 * g) Q (F0 m 897 ls []) := by
  obtain ⟨hx, hb, hml, hown, hts, hE, hK, hX, hbl⟩ := F
  obtain ⟨nl, nb, rn, fd, Lf, Cf, Mf, Hf, Sf, qm, qd, lt, gl, gh, lw6, hi6, np, Xf, ws, kd, wK, wM, hk, hm, hP, hD, hS, hl⟩ := hI
  have hA : ∀ q : Nat, s.heap.size ≤ q → (fun q : Nat => s.heap.size ≤ q) q := fun _ h => h
  have hbA : ¬ (fun q : Nat => s.heap.size ≤ q) b := Nat.not_le.mpr hbl
  refine lv_aload_n hx hb dL_law_897 rfl (lv_at hl 2 rfl) ?_
  refine lv_aload_n hx hb dL_law_898 rfl (lv_at hl 3 rfl) ?_
  refine lv_iload_n hx hb dL_law_899 rfl (lv_at hl 0 rfl) ?_
  refine lv_iconst (v := 1) hx hb dL_law_900 (by decide) ?_
  refine lv_iadd hx hb dL_law_901 ?_
  refine lv_topi (fun y_ e_ => ?_)
  obtain rfl : y_ = (nI (7 * n + 1)) := e_.trans (nI_add (7 * n) (1))
  refine va_sld hx hb hX hbl hbA hS (vp_in_nI (show 7 * n + 1 < L by omega) (by omega)) dL_law_902 ?_
  have hgl := kOK_g hk
  obtain ⟨fs, hfs⟩ := kOK_x hk
  obtain ⟨mc_, ms_, d_, hmc, hms, hd_, hMet⟩ := K_allow l dC dI ca x g nl nb rn fd Lf Cf Mf Hf Sf qm qd lt gl gh lw6 hi6 np Xf ws kd H.size wK (xs ((nI (7 * n + 1)) : Int32).toNatClampNeg) hk
  have hFc := fr_l hD hS hA
  refine va_calli (va_runV (As := [.int (xs ((nI (7 * n + 1)) : Int32).toNatClampNeg)]) (rest := []) ⟨hx, hb, hml, hown, hts⟩ hMet (⟨callB_of 1 hts (gd mw_615) rfl rfl rfl (hts _ mw_1) (hts _ mw_612) ds_X10_allow ⟨Nat.le_of_ble_eq_true rfl, Nat.le_of_ble_eq_true rfl⟩, (hts _ mw_613), (hts _ mw_614)⟩) (pr_V (w_left hP) hK (d_left hD) hE (va_recv hK (w_left hP) (ci := 10) (q0 := 0) rfl hfs)) rfl rfl hl.1 rfl (lv_room (Nat.le_of_ble_eq_true rfl)) dL_law_903 ⟨by show (100 + 99 * n) + mc_ ≤ 600000; omega, by show (410000 + 5499 * n + 16384 * g) + ms_ ≤ 7302250; omega⟩) hS (fun q _ h => hFc q h) hFc (fun rv_1 u_1 t_ H1 locs ht hvm hw_ hB hz1 hk1 hS => ?_)
  obtain ⟨hP1, hD1⟩ := hB
  rw [ht] at hP1
  obtain ⟨hP, hD⟩ := frm hP hD hk1 hFc hP1 hD1
  generalize H1 = H at hP hS ⊢
  have hk2 := hw_
  refine W.widen (k := (100 + 99 * (n + 1))) (n := (410000 + 5499 * (n + 1) + 16384 * (g + d_))) (by omega) (by omega) ?_
  refine lv_pop hx hb dL_law_906 rfl ?_
  refine lv_aload_n hx hb dL_law_907 rfl (lv_at hl 1 rfl) ?_
  refine lv_aload_n hx hb dL_law_908 rfl (lv_at hl 3 rfl) ?_
  refine lv_iload_n hx hb dL_law_909 rfl (lv_at hl 0 rfl) ?_
  refine lv_iconst (v := 1) hx hb dL_law_910 (by decide) ?_
  refine lv_iadd hx hb dL_law_911 ?_
  refine lv_topi (fun y_ e_ => ?_)
  obtain rfl : y_ = (nI (7 * n + 1)) := e_.trans (nI_add (7 * n) (1))
  refine va_sld hx hb hX hbl hbA hS (vp_in_nI (show 7 * n + 1 < L by omega) (by omega)) dL_law_912 ?_
  have hP := hP.perm List.perm_append_comm
  have hD := hD.perm List.perm_append_comm
  obtain ⟨fs2, hfs2⟩ := mOK_x hm
  have hMet2 := M_allow l dC dI ca y nl nb rn fd Lf Cf Mf Hf Sf qm qd lt gl gh lw6 hi6 np Xf ws kd H.size wM (xs ((nI (7 * n + 1)) : Int32).toNatClampNeg) hm
  have hFc := fr_l hD hS hA
  refine va_calli (va_runV (As := [.int (xs ((nI (7 * n + 1)) : Int32).toNatClampNeg)]) (rest := []) ⟨hx, hb, hml, hown, hts⟩ hMet2 (⟨callB_of 1 hts (gd mw_1168) rfl rfl rfl (hts _ mw_8) (hts _ mw_1165) ds_X11_allow ⟨Nat.le_of_ble_eq_true rfl, Nat.le_of_ble_eq_true rfl⟩, (hts _ mw_1166), (hts _ mw_1167)⟩) (pr_V (w_left hP) hK (d_left hD) hE (va_recv hK (w_left hP) (ci := 11) (q0 := 0) rfl hfs2)) rfl rfl hl.1 rfl (lv_room (Nat.le_of_ble_eq_true rfl)) dL_law_913 ⟨by show (100 + 99 * (n + 1)) + 0 ≤ 600000; omega, by show (410000 + 5499 * (n + 1) + 16384 * (g + d_)) + 0 ≤ 7302250; omega⟩) hS (fun q _ h => hFc q h) hFc (fun rv_2 u_2 t_ H1 locs ht hvm hw_ hB hz1 hk1 hS => ?_)
  obtain ⟨hP1, hD1⟩ := hB
  rw [ht] at hP1
  obtain ⟨hP, hD⟩ := frm hP hD hk1 hFc hP1 hD1
  generalize H1 = H at hP hS ⊢
  have hm2 := hw_
  have hP := hP.perm List.perm_append_comm
  have hD := hD.perm List.perm_append_comm
  refine lv_pop hx hb dL_law_916 rfl ?_
  refine lv_goto (tgt := 1319) hx hb dL_law_917 (by decide) ?_
  exact kk d0 (g + d_) _ _ _ hd0 ⟨_, _, _, _, _, _, _, _, _, _, _, _, _, _, _, _, _, _, _, _, u_1, u_2, hk2, hm2, hP, hD, hS, hl⟩

set_option maxHeartbeats 4000000 in
set_option maxRecDepth 100000 in
theorem lc_20 {p : Program} {e : Env} {s : State} {m : MethodId} {below : List Frame} {meth : Method} {c : Code} (l : Launch) {b L : Nat} {xs : Nat → Int32} {dC : Nat → ClassId} {dI : Nat → Nat → Nat} {ca : Nat → ClassId} {Q : State → Prop} {d0 : Drawn} {x y n g : Nat} {H : Heap} {locs : List Loc} {ls : Array Slot} (hd0 : s.drawn.sameBut d0 lw_cs) (F : lwF p s d0 m c b L xs dC dI ca) (hL : L ≤ 3584) (hn : 7 * n + 7 ≤ L) (hI : lI dC dI ca s.heap x y b n g H locs ls) (kk : ∀ (d1 : Drawn) (g1 : Nat) (H : Heap) (locs : List Loc) (ls : Array Slot), s.drawn.sameBut d1 lw_cs → lI dC dI ca s.heap x y b n g1 H locs ls → W p l e room_1 (s.setDrawn d1) m #[Value.ref b] below meth c H locs (100 + 99 * (n + 1)) (410000 + 5499 * (n + 1) + 16384 * g1) Q (F0 m 1319 ls [])) : W p l e room_1 (s.setDrawn d0) m #[Value.ref b] below meth c H locs (100 + 99 * n) (410000 + 5499 * n + 16384 * g) Q (F0 m 920 ls []) := by
  obtain ⟨hx, hb, hml, hown, hts, hE, hK, hX, hbl⟩ := F
  obtain ⟨nl, nb, rn, fd, Lf, Cf, Mf, Hf, Sf, qm, qd, lt, gl, gh, lw6, hi6, np, Xf, ws, kd, wK, wM, hk, hm, hP, hD, hS, hl⟩ := hI
  have hA : ∀ q : Nat, s.heap.size ≤ q → (fun q : Nat => s.heap.size ≤ q) q := fun _ h => h
  have hbA : ¬ (fun q : Nat => s.heap.size ≤ q) b := Nat.not_le.mpr hbl
  refine lv_aload_n hx hb dL_law_920 rfl (lv_at hl 2 rfl) ?_
  refine lv_aload_n hx hb dL_law_921 rfl (lv_at hl 3 rfl) ?_
  refine lv_iload_n hx hb dL_law_922 rfl (lv_at hl 0 rfl) ?_
  refine lv_iconst (v := 1) hx hb dL_law_923 (by decide) ?_
  refine lv_iadd hx hb dL_law_924 ?_
  refine lv_topi (fun y_ e_ => ?_)
  obtain rfl : y_ = (nI (7 * n + 1)) := e_.trans (nI_add (7 * n) (1))
  refine va_sld hx hb hX hbl hbA hS (vp_in_nI (show 7 * n + 1 < L by omega) (by omega)) dL_law_925 ?_
  refine lv_aload_n hx hb dL_law_926 rfl (lv_at hl 3 rfl) ?_
  refine lv_iload_n hx hb dL_law_927 rfl (lv_at hl 0 rfl) ?_
  refine lv_iconst (v := 2) hx hb dL_law_928 (by decide) ?_
  refine lv_iadd hx hb dL_law_929 ?_
  refine lv_topi (fun y_ e_ => ?_)
  obtain rfl : y_ = (nI (7 * n + 2)) := e_.trans (nI_add (7 * n) (2))
  refine va_sld hx hb hX hbl hbA hS (vp_in_nI (show 7 * n + 2 < L by omega) (by omega)) dL_law_930 ?_
  have hgl := kOK_g hk
  obtain ⟨fs, hfs⟩ := kOK_x hk
  obtain ⟨mc_, ms_, d_, hmc, hms, hd_, hMet⟩ := K_pieceOf l dC dI ca x g nl nb rn fd Lf Cf Mf Hf Sf qm qd lt gl gh lw6 hi6 np Xf ws kd H.size wK (xs ((nI (7 * n + 1)) : Int32).toNatClampNeg) (xs ((nI (7 * n + 2)) : Int32).toNatClampNeg) hk
  have hFc := fr_l hD hS hA
  refine va_calli (va_runV (As := [.int (xs ((nI (7 * n + 1)) : Int32).toNatClampNeg), .int (xs ((nI (7 * n + 2)) : Int32).toNatClampNeg)]) (rest := []) ⟨hx, hb, hml, hown, hts⟩ hMet (⟨callB_of 2 hts (gd mw_619) rfl rfl rfl (hts _ mw_1) (hts _ mw_616) ds_X10_pieceOf ⟨Nat.le_of_ble_eq_true rfl, Nat.le_of_ble_eq_true rfl⟩, (hts _ mw_617), (hts _ mw_618)⟩) (pr_V (w_left hP) hK (d_left hD) hE (va_recv hK (w_left hP) (ci := 10) (q0 := 0) rfl hfs)) rfl rfl hl.1 rfl (lv_room (Nat.le_of_ble_eq_true rfl)) dL_law_931 ⟨by show (100 + 99 * n) + mc_ ≤ 600000; omega, by show (410000 + 5499 * n + 16384 * g) + ms_ ≤ 7302250; omega⟩) hS (fun q _ h => hFc q h) hFc (fun rv_1 u_1 t_ H1 locs ht hvm hw_ hB hz1 hk1 hS => ?_)
  obtain ⟨hP1, hD1⟩ := hB
  rw [ht] at hP1
  obtain ⟨hP, hD⟩ := frm hP hD hk1 hFc hP1 hD1
  generalize H1 = H at hP hS ⊢
  have hk2 := hw_
  refine W.widen (k := (100 + 99 * (n + 1))) (n := (410000 + 5499 * (n + 1) + 16384 * (g + d_))) (by omega) (by omega) ?_
  refine lv_pop hx hb dL_law_934 rfl ?_
  refine lv_aload_n hx hb dL_law_935 rfl (lv_at hl 1 rfl) ?_
  refine lv_aload_n hx hb dL_law_936 rfl (lv_at hl 3 rfl) ?_
  refine lv_iload_n hx hb dL_law_937 rfl (lv_at hl 0 rfl) ?_
  refine lv_iconst (v := 1) hx hb dL_law_938 (by decide) ?_
  refine lv_iadd hx hb dL_law_939 ?_
  refine lv_topi (fun y_ e_ => ?_)
  obtain rfl : y_ = (nI (7 * n + 1)) := e_.trans (nI_add (7 * n) (1))
  refine va_sld hx hb hX hbl hbA hS (vp_in_nI (show 7 * n + 1 < L by omega) (by omega)) dL_law_940 ?_
  refine lv_aload_n hx hb dL_law_941 rfl (lv_at hl 3 rfl) ?_
  refine lv_iload_n hx hb dL_law_942 rfl (lv_at hl 0 rfl) ?_
  refine lv_iconst (v := 2) hx hb dL_law_943 (by decide) ?_
  refine lv_iadd hx hb dL_law_944 ?_
  refine lv_topi (fun y_ e_ => ?_)
  obtain rfl : y_ = (nI (7 * n + 2)) := e_.trans (nI_add (7 * n) (2))
  refine va_sld hx hb hX hbl hbA hS (vp_in_nI (show 7 * n + 2 < L by omega) (by omega)) dL_law_945 ?_
  have hP := hP.perm List.perm_append_comm
  have hD := hD.perm List.perm_append_comm
  obtain ⟨fs2, hfs2⟩ := mOK_x hm
  have hMet2 := M_pieceOf l dC dI ca y nl nb rn fd Lf Cf Mf Hf Sf qm qd lt gl gh lw6 hi6 np Xf ws kd H.size wM (xs ((nI (7 * n + 1)) : Int32).toNatClampNeg) (xs ((nI (7 * n + 2)) : Int32).toNatClampNeg) hm
  have hFc := fr_l hD hS hA
  refine va_calli (va_runV (As := [.int (xs ((nI (7 * n + 1)) : Int32).toNatClampNeg), .int (xs ((nI (7 * n + 2)) : Int32).toNatClampNeg)]) (rest := []) ⟨hx, hb, hml, hown, hts⟩ hMet2 (⟨callB_of 2 hts (gd mw_1172) rfl rfl rfl (hts _ mw_8) (hts _ mw_1169) ds_X11_pieceOf ⟨Nat.le_of_ble_eq_true rfl, Nat.le_of_ble_eq_true rfl⟩, (hts _ mw_1170), (hts _ mw_1171)⟩) (pr_V (w_left hP) hK (d_left hD) hE (va_recv hK (w_left hP) (ci := 11) (q0 := 0) rfl hfs2)) rfl rfl hl.1 rfl (lv_room (Nat.le_of_ble_eq_true rfl)) dL_law_946 ⟨by show (100 + 99 * (n + 1)) + 0 ≤ 600000; omega, by show (410000 + 5499 * (n + 1) + 16384 * (g + d_)) + 0 ≤ 7302250; omega⟩) hS (fun q _ h => hFc q h) hFc (fun rv_2 u_2 t_ H1 locs ht hvm hw_ hB hz1 hk1 hS => ?_)
  obtain ⟨hP1, hD1⟩ := hB
  rw [ht] at hP1
  obtain ⟨hP, hD⟩ := frm hP hD hk1 hFc hP1 hD1
  generalize H1 = H at hP hS ⊢
  have hm2 := hw_
  have hP := hP.perm List.perm_append_comm
  have hD := hD.perm List.perm_append_comm
  refine lv_pop hx hb dL_law_949 rfl ?_
  refine lv_goto (tgt := 1319) hx hb dL_law_950 (by decide) ?_
  exact kk d0 (g + d_) _ _ _ hd0 ⟨_, _, _, _, _, _, _, _, _, _, _, _, _, _, _, _, _, _, _, _, u_1, u_2, hk2, hm2, hP, hD, hS, hl⟩
