set_option maxHeartbeats 4000000 in
set_option maxRecDepth 100000 in
theorem lc_21 {p : Program} {e : Env} {s : State} {m : MethodId} {below : List Frame} {meth : Method} {c : Code} (l : Launch) {b L : Nat} {xs : Nat → Int32} {dC : Nat → ClassId} {dI : Nat → Nat → Nat} {ca : Nat → ClassId} {Q : State → Prop} {d0 : Drawn} {x y n g : Nat} {H : Heap} {locs : List Loc} {ls : Array Slot} (hd0 : s.drawn.sameBut d0 lw_cs) (F : lwF p s d0 m c b L xs dC dI ca) (hL : L ≤ 3584) (hn : 7 * n + 7 ≤ L) (hI : lI dC dI ca s.heap x y b n g H locs ls) (kk : ∀ (d1 : Drawn) (g1 : Nat) (H : Heap) (locs : List Loc) (ls : Array Slot), s.drawn.sameBut d1 lw_cs → lI dC dI ca s.heap x y b n g1 H locs ls → W p l e room_1 (s.setDrawn d1) m #[Value.ref b] below meth c H locs (100 + 99 * (n + 1)) (410000 + 5499 * (n + 1) + 16384 * g1) Q (F0 m 1319 ls [])) : W p l e room_1 (s.setDrawn d0) m #[Value.ref b] below meth c H locs (100 + 99 * n) (410000 + 5499 * n + 16384 * g) Q (F0 m 953 ls []) := by
  obtain ⟨hx, hb, hml, hown, hts, hE, hK, hX, hbl⟩ := F
  obtain ⟨nl, nb, rn, fd, Lf, Cf, Mf, Hf, Sf, qm, qd, lt, gl, gh, lw6, hi6, np, Xf, ws, kd, wK, wM, hk, hm, hP, hD, hS, hl⟩ := hI
  have hA : ∀ q : Nat, s.heap.size ≤ q → (fun q : Nat => s.heap.size ≤ q) q := fun _ h => h
  have hbA : ¬ (fun q : Nat => s.heap.size ≤ q) b := Nat.not_le.mpr hbl
  refine lv_aload_n hx hb dL_law_953 rfl (lv_at hl 2 rfl) ?_
  refine lv_aload_n hx hb dL_law_954 rfl (lv_at hl 3 rfl) ?_
  refine lv_iload_n hx hb dL_law_955 rfl (lv_at hl 0 rfl) ?_
  refine lv_iconst (v := 1) hx hb dL_law_956 (by decide) ?_
  refine lv_iadd hx hb dL_law_957 ?_
  refine lv_topi (fun y_ e_ => ?_)
  obtain rfl : y_ = (nI (7 * n + 1)) := e_.trans (nI_add (7 * n) (1))
  refine va_sld hx hb hX hbl hbA hS (vp_in_nI (show 7 * n + 1 < L by omega) (by omega)) dL_law_958 ?_
  refine lv_aload_n hx hb dL_law_959 rfl (lv_at hl 3 rfl) ?_
  refine lv_iload_n hx hb dL_law_960 rfl (lv_at hl 0 rfl) ?_
  refine lv_iconst (v := 2) hx hb dL_law_961 (by decide) ?_
  refine lv_iadd hx hb dL_law_962 ?_
  refine lv_topi (fun y_ e_ => ?_)
  obtain rfl : y_ = (nI (7 * n + 2)) := e_.trans (nI_add (7 * n) (2))
  refine va_sld hx hb hX hbl hbA hS (vp_in_nI (show 7 * n + 2 < L by omega) (by omega)) dL_law_963 ?_
  have hgl := kOK_g hk
  obtain ⟨fs, hfs⟩ := kOK_x hk
  obtain ⟨mc_, ms_, d_, hmc, hms, hd_, hMet⟩ := K_at l dC dI ca x g nl nb rn fd Lf Cf Mf Hf Sf qm qd lt gl gh lw6 hi6 np Xf ws kd H.size wK (xs ((nI (7 * n + 1)) : Int32).toNatClampNeg) (xs ((nI (7 * n + 2)) : Int32).toNatClampNeg) hk
  have hFc := fr_l hD hS hA
  refine va_calli (va_runV (As := [.int (xs ((nI (7 * n + 1)) : Int32).toNatClampNeg), .int (xs ((nI (7 * n + 2)) : Int32).toNatClampNeg)]) (rest := []) ⟨hx, hb, hml, hown, hts⟩ hMet (⟨callB_of 2 hts (gd mw_635) rfl rfl rfl (hts _ mw_1) (hts _ mw_632) ds_X10_at ⟨Nat.le_of_ble_eq_true rfl, Nat.le_of_ble_eq_true rfl⟩, (hts _ mw_633), (hts _ mw_634)⟩) (pr_V (w_left hP) hK (d_left hD) hE (va_recv hK (w_left hP) (ci := 10) (q0 := 0) rfl hfs)) rfl rfl hl.1 rfl (lv_room (Nat.le_of_ble_eq_true rfl)) dL_law_964 ⟨by show (100 + 99 * n) + mc_ ≤ 600000; omega, by show (410000 + 5499 * n + 16384 * g) + ms_ ≤ 7302250; omega⟩) hS (fun q _ h => hFc q h) hFc (fun rv_1 u_1 t_ H1 locs ht hvm hw_ hB hz1 hk1 hS => ?_)
  obtain ⟨hP1, hD1⟩ := hB
  rw [ht] at hP1
  obtain ⟨hP, hD⟩ := frm hP hD hk1 hFc hP1 hD1
  generalize H1 = H at hP hS ⊢
  have hk2 := hw_
  refine W.widen (k := (100 + 99 * (n + 1))) (n := (410000 + 5499 * (n + 1) + 16384 * (g + d_))) (by omega) (by omega) ?_
  refine lv_pop hx hb dL_law_967 rfl ?_
  refine lv_aload_n hx hb dL_law_968 rfl (lv_at hl 1 rfl) ?_
  refine lv_aload_n hx hb dL_law_969 rfl (lv_at hl 3 rfl) ?_
  refine lv_iload_n hx hb dL_law_970 rfl (lv_at hl 0 rfl) ?_
  refine lv_iconst (v := 1) hx hb dL_law_971 (by decide) ?_
  refine lv_iadd hx hb dL_law_972 ?_
  refine lv_topi (fun y_ e_ => ?_)
  obtain rfl : y_ = (nI (7 * n + 1)) := e_.trans (nI_add (7 * n) (1))
  refine va_sld hx hb hX hbl hbA hS (vp_in_nI (show 7 * n + 1 < L by omega) (by omega)) dL_law_973 ?_
  refine lv_aload_n hx hb dL_law_974 rfl (lv_at hl 3 rfl) ?_
  refine lv_iload_n hx hb dL_law_975 rfl (lv_at hl 0 rfl) ?_
  refine lv_iconst (v := 2) hx hb dL_law_976 (by decide) ?_
  refine lv_iadd hx hb dL_law_977 ?_
  refine lv_topi (fun y_ e_ => ?_)
  obtain rfl : y_ = (nI (7 * n + 2)) := e_.trans (nI_add (7 * n) (2))
  refine va_sld hx hb hX hbl hbA hS (vp_in_nI (show 7 * n + 2 < L by omega) (by omega)) dL_law_978 ?_
  have hP := hP.perm List.perm_append_comm
  have hD := hD.perm List.perm_append_comm
  obtain ⟨fs2, hfs2⟩ := mOK_x hm
  have hMet2 := M_at l dC dI ca y nl nb rn fd Lf Cf Mf Hf Sf qm qd lt gl gh lw6 hi6 np Xf ws kd H.size wM (xs ((nI (7 * n + 1)) : Int32).toNatClampNeg) (xs ((nI (7 * n + 2)) : Int32).toNatClampNeg) hm
  have hFc := fr_l hD hS hA
  refine va_calli (va_runV (As := [.int (xs ((nI (7 * n + 1)) : Int32).toNatClampNeg), .int (xs ((nI (7 * n + 2)) : Int32).toNatClampNeg)]) (rest := []) ⟨hx, hb, hml, hown, hts⟩ hMet2 (⟨callB_of 2 hts (gd mw_1184) rfl rfl rfl (hts _ mw_8) (hts _ mw_1181) ds_X11_at ⟨Nat.le_of_ble_eq_true rfl, Nat.le_of_ble_eq_true rfl⟩, (hts _ mw_1182), (hts _ mw_1183)⟩) (pr_V (w_left hP) hK (d_left hD) hE (va_recv hK (w_left hP) (ci := 11) (q0 := 0) rfl hfs2)) rfl rfl hl.1 rfl (lv_room (Nat.le_of_ble_eq_true rfl)) dL_law_979 ⟨by show (100 + 99 * (n + 1)) + 0 ≤ 600000; omega, by show (410000 + 5499 * (n + 1) + 16384 * (g + d_)) + 0 ≤ 7302250; omega⟩) hS (fun q _ h => hFc q h) hFc (fun rv_2 u_2 t_ H1 locs ht hvm hw_ hB hz1 hk1 hS => ?_)
  obtain ⟨hP1, hD1⟩ := hB
  rw [ht] at hP1
  obtain ⟨hP, hD⟩ := frm hP hD hk1 hFc hP1 hD1
  generalize H1 = H at hP hS ⊢
  have hm2 := hw_
  have hP := hP.perm List.perm_append_comm
  have hD := hD.perm List.perm_append_comm
  refine lv_pop hx hb dL_law_982 rfl ?_
  refine lv_goto (tgt := 1319) hx hb dL_law_983 (by decide) ?_
  exact kk d0 (g + d_) _ _ _ hd0 ⟨_, _, _, _, _, _, _, _, _, _, _, _, _, _, _, _, _, _, _, _, u_1, u_2, hk2, hm2, hP, hD, hS, hl⟩

set_option maxHeartbeats 4000000 in
set_option maxRecDepth 100000 in
theorem lc_22 {p : Program} {e : Env} {s : State} {m : MethodId} {below : List Frame} {meth : Method} {c : Code} (l : Launch) {b L : Nat} {xs : Nat → Int32} {dC : Nat → ClassId} {dI : Nat → Nat → Nat} {ca : Nat → ClassId} {Q : State → Prop} {d0 : Drawn} {x y n g : Nat} {H : Heap} {locs : List Loc} {ls : Array Slot} (hd0 : s.drawn.sameBut d0 lw_cs) (F : lwF p s d0 m c b L xs dC dI ca) (hL : L ≤ 3584) (hn : 7 * n + 7 ≤ L) (hI : lI dC dI ca s.heap x y b n g H locs ls) (kk : ∀ (d1 : Drawn) (g1 : Nat) (H : Heap) (locs : List Loc) (ls : Array Slot), s.drawn.sameBut d1 lw_cs → lI dC dI ca s.heap x y b n g1 H locs ls → W p l e room_1 (s.setDrawn d1) m #[Value.ref b] below meth c H locs (100 + 99 * (n + 1)) (410000 + 5499 * (n + 1) + 16384 * g1) Q (F0 m 1319 ls [])) : W p l e room_1 (s.setDrawn d0) m #[Value.ref b] below meth c H locs (100 + 99 * n) (410000 + 5499 * n + 16384 * g) Q (F0 m 986 ls []) := by
  obtain ⟨hx, hb, hml, hown, hts, hE, hK, hX, hbl⟩ := F
  obtain ⟨nl, nb, rn, fd, Lf, Cf, Mf, Hf, Sf, qm, qd, lt, gl, gh, lw6, hi6, np, Xf, ws, kd, wK, wM, hk, hm, hP, hD, hS, hl⟩ := hI
  have hA : ∀ q : Nat, s.heap.size ≤ q → (fun q : Nat => s.heap.size ≤ q) q := fun _ h => h
  have hbA : ¬ (fun q : Nat => s.heap.size ≤ q) b := Nat.not_le.mpr hbl
  refine lv_aload_n hx hb dL_law_986 rfl (lv_at hl 2 rfl) ?_
  refine lv_aload_n hx hb dL_law_987 rfl (lv_at hl 3 rfl) ?_
  refine lv_iload_n hx hb dL_law_988 rfl (lv_at hl 0 rfl) ?_
  refine lv_iconst (v := 1) hx hb dL_law_989 (by decide) ?_
  refine lv_iadd hx hb dL_law_990 ?_
  refine lv_topi (fun y_ e_ => ?_)
  obtain rfl : y_ = (nI (7 * n + 1)) := e_.trans (nI_add (7 * n) (1))
  refine va_sld hx hb hX hbl hbA hS (vp_in_nI (show 7 * n + 1 < L by omega) (by omega)) dL_law_991 ?_
  refine lv_aload_n hx hb dL_law_992 rfl (lv_at hl 3 rfl) ?_
  refine lv_iload_n hx hb dL_law_993 rfl (lv_at hl 0 rfl) ?_
  refine lv_iconst (v := 2) hx hb dL_law_994 (by decide) ?_
  refine lv_iadd hx hb dL_law_995 ?_
  refine lv_topi (fun y_ e_ => ?_)
  obtain rfl : y_ = (nI (7 * n + 2)) := e_.trans (nI_add (7 * n) (2))
  refine va_sld hx hb hX hbl hbA hS (vp_in_nI (show 7 * n + 2 < L by omega) (by omega)) dL_law_996 ?_
  refine lv_aload_n hx hb dL_law_997 rfl (lv_at hl 3 rfl) ?_
  refine lv_iload_n hx hb dL_law_998 rfl (lv_at hl 0 rfl) ?_
  refine lv_iconst (v := 3) hx hb dL_law_999 (by decide) ?_
  refine lv_iadd hx hb dL_law_1000 ?_
  refine lv_topi (fun y_ e_ => ?_)
  obtain rfl : y_ = (nI (7 * n + 3)) := e_.trans (nI_add (7 * n) (3))
  refine va_sld hx hb hX hbl hbA hS (vp_in_nI (show 7 * n + 3 < L by omega) (by omega)) dL_law_1001 ?_
  have hgl := kOK_g hk
  obtain ⟨fs, hfs⟩ := kOK_x hk
  obtain ⟨mc_, ms_, d_, hmc, hms, hd_, hMet⟩ := K_pack l dC dI ca x g nl nb rn fd Lf Cf Mf Hf Sf qm qd lt gl gh lw6 hi6 np Xf ws kd H.size wK (xs ((nI (7 * n + 1)) : Int32).toNatClampNeg) (xs ((nI (7 * n + 2)) : Int32).toNatClampNeg) (xs ((nI (7 * n + 3)) : Int32).toNatClampNeg) hk
  have hFc := fr_l hD hS hA
  refine va_calli (va_runV (As := [.int (xs ((nI (7 * n + 1)) : Int32).toNatClampNeg), .int (xs ((nI (7 * n + 2)) : Int32).toNatClampNeg), .int (xs ((nI (7 * n + 3)) : Int32).toNatClampNeg)]) (rest := []) ⟨hx, hb, hml, hown, hts⟩ hMet (⟨callB_of 3 hts (gd mw_639) rfl rfl rfl (hts _ mw_1) (hts _ mw_636) ds_X10_pack ⟨Nat.le_of_ble_eq_true rfl, Nat.le_of_ble_eq_true rfl⟩, (hts _ mw_637), (hts _ mw_638)⟩) (pr_V (w_left hP) hK (d_left hD) hE (va_recv hK (w_left hP) (ci := 10) (q0 := 0) rfl hfs)) rfl rfl hl.1 rfl (lv_room (Nat.le_of_ble_eq_true rfl)) dL_law_1002 ⟨by show (100 + 99 * n) + mc_ ≤ 600000; omega, by show (410000 + 5499 * n + 16384 * g) + ms_ ≤ 7302250; omega⟩) hS (fun q _ h => hFc q h) hFc (fun rv_1 u_1 t_ H1 locs ht hvm hw_ hB hz1 hk1 hS => ?_)
  obtain ⟨hP1, hD1⟩ := hB
  rw [ht] at hP1
  obtain ⟨hP, hD⟩ := frm hP hD hk1 hFc hP1 hD1
  generalize H1 = H at hP hS ⊢
  have hk2 := hw_
  refine W.widen (k := (100 + 99 * (n + 1))) (n := (410000 + 5499 * (n + 1) + 16384 * (g + d_))) (by omega) (by omega) ?_
  refine lv_pop hx hb dL_law_1005 rfl ?_
  refine lv_aload_n hx hb dL_law_1006 rfl (lv_at hl 1 rfl) ?_
  refine lv_aload_n hx hb dL_law_1007 rfl (lv_at hl 3 rfl) ?_
  refine lv_iload_n hx hb dL_law_1008 rfl (lv_at hl 0 rfl) ?_
  refine lv_iconst (v := 1) hx hb dL_law_1009 (by decide) ?_
  refine lv_iadd hx hb dL_law_1010 ?_
  refine lv_topi (fun y_ e_ => ?_)
  obtain rfl : y_ = (nI (7 * n + 1)) := e_.trans (nI_add (7 * n) (1))
  refine va_sld hx hb hX hbl hbA hS (vp_in_nI (show 7 * n + 1 < L by omega) (by omega)) dL_law_1011 ?_
  refine lv_aload_n hx hb dL_law_1012 rfl (lv_at hl 3 rfl) ?_
  refine lv_iload_n hx hb dL_law_1013 rfl (lv_at hl 0 rfl) ?_
  refine lv_iconst (v := 2) hx hb dL_law_1014 (by decide) ?_
  refine lv_iadd hx hb dL_law_1015 ?_
  refine lv_topi (fun y_ e_ => ?_)
  obtain rfl : y_ = (nI (7 * n + 2)) := e_.trans (nI_add (7 * n) (2))
  refine va_sld hx hb hX hbl hbA hS (vp_in_nI (show 7 * n + 2 < L by omega) (by omega)) dL_law_1016 ?_
  refine lv_aload_n hx hb dL_law_1017 rfl (lv_at hl 3 rfl) ?_
  refine lv_iload_n hx hb dL_law_1018 rfl (lv_at hl 0 rfl) ?_
  refine lv_iconst (v := 3) hx hb dL_law_1019 (by decide) ?_
  refine lv_iadd hx hb dL_law_1020 ?_
  refine lv_topi (fun y_ e_ => ?_)
  obtain rfl : y_ = (nI (7 * n + 3)) := e_.trans (nI_add (7 * n) (3))
  refine va_sld hx hb hX hbl hbA hS (vp_in_nI (show 7 * n + 3 < L by omega) (by omega)) dL_law_1021 ?_
  have hP := hP.perm List.perm_append_comm
  have hD := hD.perm List.perm_append_comm
  obtain ⟨fs2, hfs2⟩ := mOK_x hm
  have hMet2 := M_pack l dC dI ca y nl nb rn fd Lf Cf Mf Hf Sf qm qd lt gl gh lw6 hi6 np Xf ws kd H.size wM (xs ((nI (7 * n + 1)) : Int32).toNatClampNeg) (xs ((nI (7 * n + 2)) : Int32).toNatClampNeg) (xs ((nI (7 * n + 3)) : Int32).toNatClampNeg) hm
  have hFc := fr_l hD hS hA
  refine va_calli (va_runV (As := [.int (xs ((nI (7 * n + 1)) : Int32).toNatClampNeg), .int (xs ((nI (7 * n + 2)) : Int32).toNatClampNeg), .int (xs ((nI (7 * n + 3)) : Int32).toNatClampNeg)]) (rest := []) ⟨hx, hb, hml, hown, hts⟩ hMet2 (⟨callB_of 3 hts (gd mw_1188) rfl rfl rfl (hts _ mw_8) (hts _ mw_1185) ds_X11_pack ⟨Nat.le_of_ble_eq_true rfl, Nat.le_of_ble_eq_true rfl⟩, (hts _ mw_1186), (hts _ mw_1187)⟩) (pr_V (w_left hP) hK (d_left hD) hE (va_recv hK (w_left hP) (ci := 11) (q0 := 0) rfl hfs2)) rfl rfl hl.1 rfl (lv_room (Nat.le_of_ble_eq_true rfl)) dL_law_1022 ⟨by show (100 + 99 * (n + 1)) + 0 ≤ 600000; omega, by show (410000 + 5499 * (n + 1) + 16384 * (g + d_)) + 0 ≤ 7302250; omega⟩) hS (fun q _ h => hFc q h) hFc (fun rv_2 u_2 t_ H1 locs ht hvm hw_ hB hz1 hk1 hS => ?_)
  obtain ⟨hP1, hD1⟩ := hB
  rw [ht] at hP1
  obtain ⟨hP, hD⟩ := frm hP hD hk1 hFc hP1 hD1
  generalize H1 = H at hP hS ⊢
  have hm2 := hw_
  have hP := hP.perm List.perm_append_comm
  have hD := hD.perm List.perm_append_comm
  refine lv_pop hx hb dL_law_1025 rfl ?_
  refine lv_goto (tgt := 1319) hx hb dL_law_1026 (by decide) ?_
  exact kk d0 (g + d_) _ _ _ hd0 ⟨_, _, _, _, _, _, _, _, _, _, _, _, _, _, _, _, _, _, _, _, u_1, u_2, hk2, hm2, hP, hD, hS, hl⟩

set_option maxHeartbeats 4000000 in
set_option maxRecDepth 100000 in
theorem lc_23 {p : Program} {e : Env} {s : State} {m : MethodId} {below : List Frame} {meth : Method} {c : Code} (l : Launch) {b L : Nat} {xs : Nat → Int32} {dC : Nat → ClassId} {dI : Nat → Nat → Nat} {ca : Nat → ClassId} {Q : State → Prop} {d0 : Drawn} {x y n g : Nat} {H : Heap} {locs : List Loc} {ls : Array Slot} (hd0 : s.drawn.sameBut d0 lw_cs) (F : lwF p s d0 m c b L xs dC dI ca) (hL : L ≤ 3584) (hn : 7 * n + 7 ≤ L) (hI : lI dC dI ca s.heap x y b n g H locs ls) (kk : ∀ (d1 : Drawn) (g1 : Nat) (H : Heap) (locs : List Loc) (ls : Array Slot), s.drawn.sameBut d1 lw_cs → lI dC dI ca s.heap x y b n g1 H locs ls → W p l e room_1 (s.setDrawn d1) m #[Value.ref b] below meth c H locs (100 + 99 * (n + 1)) (410000 + 5499 * (n + 1) + 16384 * g1) Q (F0 m 1319 ls [])) : W p l e room_1 (s.setDrawn d0) m #[Value.ref b] below meth c H locs (100 + 99 * n) (410000 + 5499 * n + 16384 * g) Q (F0 m 1029 ls []) := by
  obtain ⟨hx, hb, hml, hown, hts, hE, hK, hX, hbl⟩ := F
  obtain ⟨nl, nb, rn, fd, Lf, Cf, Mf, Hf, Sf, qm, qd, lt, gl, gh, lw6, hi6, np, Xf, ws, kd, wK, wM, hk, hm, hP, hD, hS, hl⟩ := hI
  have hA : ∀ q : Nat, s.heap.size ≤ q → (fun q : Nat => s.heap.size ≤ q) q := fun _ h => h
  have hbA : ¬ (fun q : Nat => s.heap.size ≤ q) b := Nat.not_le.mpr hbl
  refine lv_aload_n hx hb dL_law_1029 rfl (lv_at hl 2 rfl) ?_
  refine lv_aload_n hx hb dL_law_1030 rfl (lv_at hl 3 rfl) ?_
  refine lv_iload_n hx hb dL_law_1031 rfl (lv_at hl 0 rfl) ?_
  refine lv_iconst (v := 1) hx hb dL_law_1032 (by decide) ?_
  refine lv_iadd hx hb dL_law_1033 ?_
  refine lv_topi (fun y_ e_ => ?_)
  obtain rfl : y_ = (nI (7 * n + 1)) := e_.trans (nI_add (7 * n) (1))
  refine va_sld hx hb hX hbl hbA hS (vp_in_nI (show 7 * n + 1 < L by omega) (by omega)) dL_law_1034 ?_
  refine lv_aload_n hx hb dL_law_1035 rfl (lv_at hl 3 rfl) ?_
  refine lv_iload_n hx hb dL_law_1036 rfl (lv_at hl 0 rfl) ?_
  refine lv_iconst (v := 2) hx hb dL_law_1037 (by decide) ?_
  refine lv_iadd hx hb dL_law_1038 ?_
  refine lv_topi (fun y_ e_ => ?_)
  obtain rfl : y_ = (nI (7 * n + 2)) := e_.trans (nI_add (7 * n) (2))
  refine va_sld hx hb hX hbl hbA hS (vp_in_nI (show 7 * n + 2 < L by omega) (by omega)) dL_law_1039 ?_
  refine lv_aload_n hx hb dL_law_1040 rfl (lv_at hl 3 rfl) ?_
  refine lv_iload_n hx hb dL_law_1041 rfl (lv_at hl 0 rfl) ?_
  refine lv_iconst (v := 3) hx hb dL_law_1042 (by decide) ?_
  refine lv_iadd hx hb dL_law_1043 ?_
  refine lv_topi (fun y_ e_ => ?_)
  obtain rfl : y_ = (nI (7 * n + 3)) := e_.trans (nI_add (7 * n) (3))
  refine va_sld hx hb hX hbl hbA hS (vp_in_nI (show 7 * n + 3 < L by omega) (by omega)) dL_law_1044 ?_
  refine lv_aload_n hx hb dL_law_1045 rfl (lv_at hl 3 rfl) ?_
  refine lv_iload_n hx hb dL_law_1046 rfl (lv_at hl 0 rfl) ?_
  refine lv_iconst (v := 4) hx hb dL_law_1047 (by decide) ?_
  refine lv_iadd hx hb dL_law_1048 ?_
  refine lv_topi (fun y_ e_ => ?_)
  obtain rfl : y_ = (nI (7 * n + 4)) := e_.trans (nI_add (7 * n) (4))
  refine va_sld hx hb hX hbl hbA hS (vp_in_nI (show 7 * n + 4 < L by omega) (by omega)) dL_law_1049 ?_
  have hgl := kOK_g hk
  obtain ⟨fs, hfs⟩ := kOK_x hk
  obtain ⟨mc_, ms_, d_, hmc, hms, hd_, hMet⟩ := K_would l dC dI ca x g nl nb rn fd Lf Cf Mf Hf Sf qm qd lt gl gh lw6 hi6 np Xf ws kd H.size wK (xs ((nI (7 * n + 1)) : Int32).toNatClampNeg) (xs ((nI (7 * n + 2)) : Int32).toNatClampNeg) (xs ((nI (7 * n + 3)) : Int32).toNatClampNeg) (xs ((nI (7 * n + 4)) : Int32).toNatClampNeg) hk
  have hFc := fr_l hD hS hA
  refine va_calli (va_runV (As := [.int (xs ((nI (7 * n + 1)) : Int32).toNatClampNeg), .int (xs ((nI (7 * n + 2)) : Int32).toNatClampNeg), .int (xs ((nI (7 * n + 3)) : Int32).toNatClampNeg), .int (xs ((nI (7 * n + 4)) : Int32).toNatClampNeg)]) (rest := []) ⟨hx, hb, hml, hown, hts⟩ hMet (⟨callB_of 4 hts (gd mw_729) rfl rfl rfl (hts _ mw_1) (hts _ mw_726) ds_X10_would ⟨Nat.le_of_ble_eq_true rfl, Nat.le_of_ble_eq_true rfl⟩, (hts _ mw_727), (hts _ mw_728)⟩) (pr_V (w_left hP) hK (d_left hD) hE (va_recv hK (w_left hP) (ci := 10) (q0 := 0) rfl hfs)) rfl rfl hl.1 rfl (lv_room (Nat.le_of_ble_eq_true rfl)) dL_law_1050 ⟨by show (100 + 99 * n) + mc_ ≤ 600000; omega, by show (410000 + 5499 * n + 16384 * g) + ms_ ≤ 7302250; omega⟩) hS (fun q _ h => hFc q h) hFc (fun rv_1 u_1 t_ H1 locs ht hvm hw_ hB hz1 hk1 hS => ?_)
  obtain ⟨hP1, hD1⟩ := hB
  rw [ht] at hP1
  obtain ⟨hP, hD⟩ := frm hP hD hk1 hFc hP1 hD1
  generalize H1 = H at hP hS ⊢
  have hk2 := hw_
  refine W.widen (k := (100 + 99 * (n + 1))) (n := (410000 + 5499 * (n + 1) + 16384 * (g + d_))) (by omega) (by omega) ?_
  refine lv_pop hx hb dL_law_1053 rfl ?_
  refine lv_aload_n hx hb dL_law_1054 rfl (lv_at hl 1 rfl) ?_
  refine lv_aload_n hx hb dL_law_1055 rfl (lv_at hl 3 rfl) ?_
  refine lv_iload_n hx hb dL_law_1056 rfl (lv_at hl 0 rfl) ?_
  refine lv_iconst (v := 1) hx hb dL_law_1057 (by decide) ?_
  refine lv_iadd hx hb dL_law_1058 ?_
  refine lv_topi (fun y_ e_ => ?_)
  obtain rfl : y_ = (nI (7 * n + 1)) := e_.trans (nI_add (7 * n) (1))
  refine va_sld hx hb hX hbl hbA hS (vp_in_nI (show 7 * n + 1 < L by omega) (by omega)) dL_law_1059 ?_
  refine lv_aload_n hx hb dL_law_1060 rfl (lv_at hl 3 rfl) ?_
  refine lv_iload_n hx hb dL_law_1061 rfl (lv_at hl 0 rfl) ?_
  refine lv_iconst (v := 2) hx hb dL_law_1062 (by decide) ?_
  refine lv_iadd hx hb dL_law_1063 ?_
  refine lv_topi (fun y_ e_ => ?_)
  obtain rfl : y_ = (nI (7 * n + 2)) := e_.trans (nI_add (7 * n) (2))
  refine va_sld hx hb hX hbl hbA hS (vp_in_nI (show 7 * n + 2 < L by omega) (by omega)) dL_law_1064 ?_
  refine lv_aload_n hx hb dL_law_1065 rfl (lv_at hl 3 rfl) ?_
  refine lv_iload_n hx hb dL_law_1066 rfl (lv_at hl 0 rfl) ?_
  refine lv_iconst (v := 3) hx hb dL_law_1067 (by decide) ?_
  refine lv_iadd hx hb dL_law_1068 ?_
  refine lv_topi (fun y_ e_ => ?_)
  obtain rfl : y_ = (nI (7 * n + 3)) := e_.trans (nI_add (7 * n) (3))
  refine va_sld hx hb hX hbl hbA hS (vp_in_nI (show 7 * n + 3 < L by omega) (by omega)) dL_law_1069 ?_
  refine lv_aload_n hx hb dL_law_1070 rfl (lv_at hl 3 rfl) ?_
  refine lv_iload_n hx hb dL_law_1071 rfl (lv_at hl 0 rfl) ?_
  refine lv_iconst (v := 4) hx hb dL_law_1072 (by decide) ?_
  refine lv_iadd hx hb dL_law_1073 ?_
  refine lv_topi (fun y_ e_ => ?_)
  obtain rfl : y_ = (nI (7 * n + 4)) := e_.trans (nI_add (7 * n) (4))
  refine va_sld hx hb hX hbl hbA hS (vp_in_nI (show 7 * n + 4 < L by omega) (by omega)) dL_law_1074 ?_
  have hP := hP.perm List.perm_append_comm
  have hD := hD.perm List.perm_append_comm
  obtain ⟨fs2, hfs2⟩ := mOK_x hm
  have hMet2 := M_would l dC dI ca y nl nb rn fd Lf Cf Mf Hf Sf qm qd lt gl gh lw6 hi6 np Xf ws kd H.size wM (xs ((nI (7 * n + 1)) : Int32).toNatClampNeg) (xs ((nI (7 * n + 2)) : Int32).toNatClampNeg) (xs ((nI (7 * n + 3)) : Int32).toNatClampNeg) (xs ((nI (7 * n + 4)) : Int32).toNatClampNeg) hm
  have hFc := fr_l hD hS hA
  refine va_calli (va_runV (As := [.int (xs ((nI (7 * n + 1)) : Int32).toNatClampNeg), .int (xs ((nI (7 * n + 2)) : Int32).toNatClampNeg), .int (xs ((nI (7 * n + 3)) : Int32).toNatClampNeg), .int (xs ((nI (7 * n + 4)) : Int32).toNatClampNeg)]) (rest := []) ⟨hx, hb, hml, hown, hts⟩ hMet2 (⟨callB_of 4 hts (gd mw_1215) rfl rfl rfl (hts _ mw_8) (hts _ mw_1212) ds_X11_would ⟨Nat.le_of_ble_eq_true rfl, Nat.le_of_ble_eq_true rfl⟩, (hts _ mw_1213), (hts _ mw_1214)⟩) (pr_V (w_left hP) hK (d_left hD) hE (va_recv hK (w_left hP) (ci := 11) (q0 := 0) rfl hfs2)) rfl rfl hl.1 rfl (lv_room (Nat.le_of_ble_eq_true rfl)) dL_law_1075 ⟨by show (100 + 99 * (n + 1)) + 0 ≤ 600000; omega, by show (410000 + 5499 * (n + 1) + 16384 * (g + d_)) + 0 ≤ 7302250; omega⟩) hS (fun q _ h => hFc q h) hFc (fun rv_2 u_2 t_ H1 locs ht hvm hw_ hB hz1 hk1 hS => ?_)
  obtain ⟨hP1, hD1⟩ := hB
  rw [ht] at hP1
  obtain ⟨hP, hD⟩ := frm hP hD hk1 hFc hP1 hD1
  generalize H1 = H at hP hS ⊢
  have hm2 := hw_
  have hP := hP.perm List.perm_append_comm
  have hD := hD.perm List.perm_append_comm
  refine lv_pop hx hb dL_law_1078 rfl ?_
  refine lv_goto (tgt := 1319) hx hb dL_law_1079 (by decide) ?_
  exact kk d0 (g + d_) _ _ _ hd0 ⟨_, _, _, _, _, _, _, _, _, _, _, _, _, _, _, _, _, _, _, _, u_1, u_2, hk2, hm2, hP, hD, hS, hl⟩

set_option maxHeartbeats 4000000 in
set_option maxRecDepth 100000 in
theorem lc_24 {p : Program} {e : Env} {s : State} {m : MethodId} {below : List Frame} {meth : Method} {c : Code} (l : Launch) {b L : Nat} {xs : Nat → Int32} {dC : Nat → ClassId} {dI : Nat → Nat → Nat} {ca : Nat → ClassId} {Q : State → Prop} {d0 : Drawn} {x y n g : Nat} {H : Heap} {locs : List Loc} {ls : Array Slot} (hd0 : s.drawn.sameBut d0 lw_cs) (F : lwF p s d0 m c b L xs dC dI ca) (hL : L ≤ 3584) (hn : 7 * n + 7 ≤ L) (hI : lI dC dI ca s.heap x y b n g H locs ls) (kk : ∀ (d1 : Drawn) (g1 : Nat) (H : Heap) (locs : List Loc) (ls : Array Slot), s.drawn.sameBut d1 lw_cs → lI dC dI ca s.heap x y b n g1 H locs ls → W p l e room_1 (s.setDrawn d1) m #[Value.ref b] below meth c H locs (100 + 99 * (n + 1)) (410000 + 5499 * (n + 1) + 16384 * g1) Q (F0 m 1319 ls [])) : W p l e room_1 (s.setDrawn d0) m #[Value.ref b] below meth c H locs (100 + 99 * n) (410000 + 5499 * n + 16384 * g) Q (F0 m 1082 ls []) := by
  obtain ⟨hx, hb, hml, hown, hts, hE, hK, hX, hbl⟩ := F
  obtain ⟨nl, nb, rn, fd, Lf, Cf, Mf, Hf, Sf, qm, qd, lt, gl, gh, lw6, hi6, np, Xf, ws, kd, wK, wM, hk, hm, hP, hD, hS, hl⟩ := hI
  have hA : ∀ q : Nat, s.heap.size ≤ q → (fun q : Nat => s.heap.size ≤ q) q := fun _ h => h
  have hbA : ¬ (fun q : Nat => s.heap.size ≤ q) b := Nat.not_le.mpr hbl
  refine lv_aload_n hx hb dL_law_1082 rfl (lv_at hl 2 rfl) ?_
  refine lv_aload_n hx hb dL_law_1083 rfl (lv_at hl 3 rfl) ?_
  refine lv_iload_n hx hb dL_law_1084 rfl (lv_at hl 0 rfl) ?_
  refine lv_iconst (v := 1) hx hb dL_law_1085 (by decide) ?_
  refine lv_iadd hx hb dL_law_1086 ?_
  refine lv_topi (fun y_ e_ => ?_)
  obtain rfl : y_ = (nI (7 * n + 1)) := e_.trans (nI_add (7 * n) (1))
  refine va_sld hx hb hX hbl hbA hS (vp_in_nI (show 7 * n + 1 < L by omega) (by omega)) dL_law_1087 ?_
  refine lv_aload_n hx hb dL_law_1088 rfl (lv_at hl 3 rfl) ?_
  refine lv_iload_n hx hb dL_law_1089 rfl (lv_at hl 0 rfl) ?_
  refine lv_iconst (v := 2) hx hb dL_law_1090 (by decide) ?_
  refine lv_iadd hx hb dL_law_1091 ?_
  refine lv_topi (fun y_ e_ => ?_)
  obtain rfl : y_ = (nI (7 * n + 2)) := e_.trans (nI_add (7 * n) (2))
  refine va_sld hx hb hX hbl hbA hS (vp_in_nI (show 7 * n + 2 < L by omega) (by omega)) dL_law_1092 ?_
  have hgl := kOK_g hk
  obtain ⟨fs, hfs⟩ := kOK_x hk
  obtain ⟨mc_, ms_, d_, hmc, hms, hd_, hMet⟩ := K_boxOf l dC dI ca x g nl nb rn fd Lf Cf Mf Hf Sf qm qd lt gl gh lw6 hi6 np Xf ws kd H.size wK (xs ((nI (7 * n + 1)) : Int32).toNatClampNeg) (xs ((nI (7 * n + 2)) : Int32).toNatClampNeg) hk
  have hFc := fr_l hD hS hA
  refine va_calli (va_runV (As := [.int (xs ((nI (7 * n + 1)) : Int32).toNatClampNeg), .int (xs ((nI (7 * n + 2)) : Int32).toNatClampNeg)]) (rest := []) ⟨hx, hb, hml, hown, hts⟩ hMet (⟨callB_of 2 hts (gd mw_765) rfl rfl rfl (hts _ mw_1) (hts _ mw_762) ds_X10_boxOf ⟨Nat.le_of_ble_eq_true rfl, Nat.le_of_ble_eq_true rfl⟩, (hts _ mw_763), (hts _ mw_764)⟩) (pr_V (w_left hP) hK (d_left hD) hE (va_recv hK (w_left hP) (ci := 10) (q0 := 0) rfl hfs)) rfl rfl hl.1 rfl (lv_room (Nat.le_of_ble_eq_true rfl)) dL_law_1093 ⟨by show (100 + 99 * n) + mc_ ≤ 600000; omega, by show (410000 + 5499 * n + 16384 * g) + ms_ ≤ 7302250; omega⟩) hS (fun q _ h => hFc q h) hFc (fun rv_1 u_1 t_ H1 locs ht hvm hw_ hB hz1 hk1 hS => ?_)
  obtain ⟨hP1, hD1⟩ := hB
  rw [ht] at hP1
  obtain ⟨hP, hD⟩ := frm hP hD hk1 hFc hP1 hD1
  generalize H1 = H at hP hS ⊢
  have hk2 := hw_
  refine W.widen (k := (100 + 99 * (n + 1))) (n := (410000 + 5499 * (n + 1) + 16384 * (g + d_))) (by omega) (by omega) ?_
  refine lv_pop hx hb dL_law_1096 rfl ?_
  refine lv_aload_n hx hb dL_law_1097 rfl (lv_at hl 1 rfl) ?_
  refine lv_aload_n hx hb dL_law_1098 rfl (lv_at hl 3 rfl) ?_
  refine lv_iload_n hx hb dL_law_1099 rfl (lv_at hl 0 rfl) ?_
  refine lv_iconst (v := 1) hx hb dL_law_1100 (by decide) ?_
  refine lv_iadd hx hb dL_law_1101 ?_
  refine lv_topi (fun y_ e_ => ?_)
  obtain rfl : y_ = (nI (7 * n + 1)) := e_.trans (nI_add (7 * n) (1))
  refine va_sld hx hb hX hbl hbA hS (vp_in_nI (show 7 * n + 1 < L by omega) (by omega)) dL_law_1102 ?_
  refine lv_aload_n hx hb dL_law_1103 rfl (lv_at hl 3 rfl) ?_
  refine lv_iload_n hx hb dL_law_1104 rfl (lv_at hl 0 rfl) ?_
  refine lv_iconst (v := 2) hx hb dL_law_1105 (by decide) ?_
  refine lv_iadd hx hb dL_law_1106 ?_
  refine lv_topi (fun y_ e_ => ?_)
  obtain rfl : y_ = (nI (7 * n + 2)) := e_.trans (nI_add (7 * n) (2))
  refine va_sld hx hb hX hbl hbA hS (vp_in_nI (show 7 * n + 2 < L by omega) (by omega)) dL_law_1107 ?_
  have hP := hP.perm List.perm_append_comm
  have hD := hD.perm List.perm_append_comm
  obtain ⟨fs2, hfs2⟩ := mOK_x hm
  have hMet2 := M_boxOf l dC dI ca y nl nb rn fd Lf Cf Mf Hf Sf qm qd lt gl gh lw6 hi6 np Xf ws kd H.size wM (xs ((nI (7 * n + 1)) : Int32).toNatClampNeg) (xs ((nI (7 * n + 2)) : Int32).toNatClampNeg) hm
  have hFc := fr_l hD hS hA
  refine va_calli (va_runV (As := [.int (xs ((nI (7 * n + 1)) : Int32).toNatClampNeg), .int (xs ((nI (7 * n + 2)) : Int32).toNatClampNeg)]) (rest := []) ⟨hx, hb, hml, hown, hts⟩ hMet2 (⟨callB_of 2 hts (gd mw_1227) rfl rfl rfl (hts _ mw_8) (hts _ mw_1224) ds_X11_boxOf ⟨Nat.le_of_ble_eq_true rfl, Nat.le_of_ble_eq_true rfl⟩, (hts _ mw_1225), (hts _ mw_1226)⟩) (pr_V (w_left hP) hK (d_left hD) hE (va_recv hK (w_left hP) (ci := 11) (q0 := 0) rfl hfs2)) rfl rfl hl.1 rfl (lv_room (Nat.le_of_ble_eq_true rfl)) dL_law_1108 ⟨by show (100 + 99 * (n + 1)) + 0 ≤ 600000; omega, by show (410000 + 5499 * (n + 1) + 16384 * (g + d_)) + 0 ≤ 7302250; omega⟩) hS (fun q _ h => hFc q h) hFc (fun rv_2 u_2 t_ H1 locs ht hvm hw_ hB hz1 hk1 hS => ?_)
  obtain ⟨hP1, hD1⟩ := hB
  rw [ht] at hP1
  obtain ⟨hP, hD⟩ := frm hP hD hk1 hFc hP1 hD1
  generalize H1 = H at hP hS ⊢
  have hm2 := hw_
  have hP := hP.perm List.perm_append_comm
  have hD := hD.perm List.perm_append_comm
  refine lv_pop hx hb dL_law_1111 rfl ?_
  refine lv_goto (tgt := 1319) hx hb dL_law_1112 (by decide) ?_
  exact kk d0 (g + d_) _ _ _ hd0 ⟨_, _, _, _, _, _, _, _, _, _, _, _, _, _, _, _, _, _, _, _, u_1, u_2, hk2, hm2, hP, hD, hS, hl⟩

set_option maxHeartbeats 4000000 in
set_option maxRecDepth 100000 in
theorem lc_25 {p : Program} {e : Env} {s : State} {m : MethodId} {below : List Frame} {meth : Method} {c : Code} (l : Launch) {b L : Nat} {xs : Nat → Int32} {dC : Nat → ClassId} {dI : Nat → Nat → Nat} {ca : Nat → ClassId} {Q : State → Prop} {d0 : Drawn} {x y n g : Nat} {H : Heap} {locs : List Loc} {ls : Array Slot} (hd0 : s.drawn.sameBut d0 lw_cs) (F : lwF p s d0 m c b L xs dC dI ca) (hL : L ≤ 3584) (hn : 7 * n + 7 ≤ L) (hI : lI dC dI ca s.heap x y b n g H locs ls) (kk : ∀ (d1 : Drawn) (g1 : Nat) (H : Heap) (locs : List Loc) (ls : Array Slot), s.drawn.sameBut d1 lw_cs → lI dC dI ca s.heap x y b n g1 H locs ls → W p l e room_1 (s.setDrawn d1) m #[Value.ref b] below meth c H locs (100 + 99 * (n + 1)) (410000 + 5499 * (n + 1) + 16384 * g1) Q (F0 m 1319 ls [])) : W p l e room_1 (s.setDrawn d0) m #[Value.ref b] below meth c H locs (100 + 99 * n) (410000 + 5499 * n + 16384 * g) Q (F0 m 1115 ls []) := by
  obtain ⟨hx, hb, hml, hown, hts, hE, hK, hX, hbl⟩ := F
  obtain ⟨nl, nb, rn, fd, Lf, Cf, Mf, Hf, Sf, qm, qd, lt, gl, gh, lw6, hi6, np, Xf, ws, kd, wK, wM, hk, hm, hP, hD, hS, hl⟩ := hI
  have hA : ∀ q : Nat, s.heap.size ≤ q → (fun q : Nat => s.heap.size ≤ q) q := fun _ h => h
  have hbA : ¬ (fun q : Nat => s.heap.size ≤ q) b := Nat.not_le.mpr hbl
  refine lv_aload_n hx hb dL_law_1115 rfl (lv_at hl 2 rfl) ?_
  refine lv_aload_n hx hb dL_law_1116 rfl (lv_at hl 3 rfl) ?_
  refine lv_iload_n hx hb dL_law_1117 rfl (lv_at hl 0 rfl) ?_
  refine lv_iconst (v := 1) hx hb dL_law_1118 (by decide) ?_
  refine lv_iadd hx hb dL_law_1119 ?_
  refine lv_topi (fun y_ e_ => ?_)
  obtain rfl : y_ = (nI (7 * n + 1)) := e_.trans (nI_add (7 * n) (1))
  refine va_sld hx hb hX hbl hbA hS (vp_in_nI (show 7 * n + 1 < L by omega) (by omega)) dL_law_1120 ?_
  refine lv_aload_n hx hb dL_law_1121 rfl (lv_at hl 3 rfl) ?_
  refine lv_iload_n hx hb dL_law_1122 rfl (lv_at hl 0 rfl) ?_
  refine lv_iconst (v := 2) hx hb dL_law_1123 (by decide) ?_
  refine lv_iadd hx hb dL_law_1124 ?_
  refine lv_topi (fun y_ e_ => ?_)
  obtain rfl : y_ = (nI (7 * n + 2)) := e_.trans (nI_add (7 * n) (2))
  refine va_sld hx hb hX hbl hbA hS (vp_in_nI (show 7 * n + 2 < L by omega) (by omega)) dL_law_1125 ?_
  refine lv_aload_n hx hb dL_law_1126 rfl (lv_at hl 3 rfl) ?_
  refine lv_iload_n hx hb dL_law_1127 rfl (lv_at hl 0 rfl) ?_
  refine lv_iconst (v := 3) hx hb dL_law_1128 (by decide) ?_
  refine lv_iadd hx hb dL_law_1129 ?_
  refine lv_topi (fun y_ e_ => ?_)
  obtain rfl : y_ = (nI (7 * n + 3)) := e_.trans (nI_add (7 * n) (3))
  refine va_sld hx hb hX hbl hbA hS (vp_in_nI (show 7 * n + 3 < L by omega) (by omega)) dL_law_1130 ?_
  have hgl := kOK_g hk
  obtain ⟨fs, hfs⟩ := kOK_x hk
  obtain ⟨mc_, ms_, d_, hmc, hms, hd_, hMet⟩ := K_wash l dC dI ca x g nl nb rn fd Lf Cf Mf Hf Sf qm qd lt gl gh lw6 hi6 np Xf ws kd H.size wK (xs ((nI (7 * n + 1)) : Int32).toNatClampNeg) (xs ((nI (7 * n + 2)) : Int32).toNatClampNeg) (xs ((nI (7 * n + 3)) : Int32).toNatClampNeg) hk
  have hFc := fr_l hD hS hA
  refine va_calli (va_runV (As := [.int (xs ((nI (7 * n + 1)) : Int32).toNatClampNeg), .int (xs ((nI (7 * n + 2)) : Int32).toNatClampNeg), .int (xs ((nI (7 * n + 3)) : Int32).toNatClampNeg)]) (rest := []) ⟨hx, hb, hml, hown, hts⟩ hMet (⟨callB_of 3 hts (gd mw_788) rfl rfl rfl (hts _ mw_1) (hts _ mw_785) ds_X10_wash ⟨Nat.le_of_ble_eq_true rfl, Nat.le_of_ble_eq_true rfl⟩, (hts _ mw_786), (hts _ mw_787)⟩) (pr_V (w_left hP) hK (d_left hD) hE (va_recv hK (w_left hP) (ci := 10) (q0 := 0) rfl hfs)) rfl rfl hl.1 rfl (lv_room (Nat.le_of_ble_eq_true rfl)) dL_law_1131 ⟨by show (100 + 99 * n) + mc_ ≤ 600000; omega, by show (410000 + 5499 * n + 16384 * g) + ms_ ≤ 7302250; omega⟩) hS (fun q _ h => hFc q h) hFc (fun rv_1 u_1 t_ H1 locs ht hvm hw_ hB hz1 hk1 hS => ?_)
  obtain ⟨hP1, hD1⟩ := hB
  rw [ht] at hP1
  obtain ⟨hP, hD⟩ := frm hP hD hk1 hFc hP1 hD1
  generalize H1 = H at hP hS ⊢
  obtain ⟨e_, hk2⟩ := hw_
  obtain rfl : rv_1 = (spW (xs ((nI (7 * n + 1)) : Int32).toNatClampNeg) (xs ((nI (7 * n + 2)) : Int32).toNatClampNeg) (xs ((nI (7 * n + 3)) : Int32).toNatClampNeg)) := e_
  refine W.widen (k := (100 + 99 * (n + 1))) (n := (410000 + 5499 * (n + 1) + 16384 * (g + d_))) (by omega) (by omega) ?_
  refine lv_pop hx hb dL_law_1134 rfl ?_
  refine lv_aload_n hx hb dL_law_1135 rfl (lv_at hl 1 rfl) ?_
  refine lv_aload_n hx hb dL_law_1136 rfl (lv_at hl 3 rfl) ?_
  refine lv_iload_n hx hb dL_law_1137 rfl (lv_at hl 0 rfl) ?_
  refine lv_iconst (v := 1) hx hb dL_law_1138 (by decide) ?_
  refine lv_iadd hx hb dL_law_1139 ?_
  refine lv_topi (fun y_ e_ => ?_)
  obtain rfl : y_ = (nI (7 * n + 1)) := e_.trans (nI_add (7 * n) (1))
  refine va_sld hx hb hX hbl hbA hS (vp_in_nI (show 7 * n + 1 < L by omega) (by omega)) dL_law_1140 ?_
  refine lv_aload_n hx hb dL_law_1141 rfl (lv_at hl 3 rfl) ?_
  refine lv_iload_n hx hb dL_law_1142 rfl (lv_at hl 0 rfl) ?_
  refine lv_iconst (v := 2) hx hb dL_law_1143 (by decide) ?_
  refine lv_iadd hx hb dL_law_1144 ?_
  refine lv_topi (fun y_ e_ => ?_)
  obtain rfl : y_ = (nI (7 * n + 2)) := e_.trans (nI_add (7 * n) (2))
  refine va_sld hx hb hX hbl hbA hS (vp_in_nI (show 7 * n + 2 < L by omega) (by omega)) dL_law_1145 ?_
  refine lv_aload_n hx hb dL_law_1146 rfl (lv_at hl 3 rfl) ?_
  refine lv_iload_n hx hb dL_law_1147 rfl (lv_at hl 0 rfl) ?_
  refine lv_iconst (v := 3) hx hb dL_law_1148 (by decide) ?_
  refine lv_iadd hx hb dL_law_1149 ?_
  refine lv_topi (fun y_ e_ => ?_)
  obtain rfl : y_ = (nI (7 * n + 3)) := e_.trans (nI_add (7 * n) (3))
  refine va_sld hx hb hX hbl hbA hS (vp_in_nI (show 7 * n + 3 < L by omega) (by omega)) dL_law_1150 ?_
  have hP := hP.perm List.perm_append_comm
  have hD := hD.perm List.perm_append_comm
  obtain ⟨fs2, hfs2⟩ := mOK_x hm
  have hMet2 := M_wash l dC dI ca y nl nb rn fd Lf Cf Mf Hf Sf qm qd lt gl gh lw6 hi6 np Xf ws kd H.size wM (xs ((nI (7 * n + 1)) : Int32).toNatClampNeg) (xs ((nI (7 * n + 2)) : Int32).toNatClampNeg) (xs ((nI (7 * n + 3)) : Int32).toNatClampNeg) hm
  have hFc := fr_l hD hS hA
  refine va_calli (va_runV (As := [.int (xs ((nI (7 * n + 1)) : Int32).toNatClampNeg), .int (xs ((nI (7 * n + 2)) : Int32).toNatClampNeg), .int (xs ((nI (7 * n + 3)) : Int32).toNatClampNeg)]) (rest := []) ⟨hx, hb, hml, hown, hts⟩ hMet2 (⟨callB_of 3 hts (gd mw_1255) rfl rfl rfl (hts _ mw_8) (hts _ mw_1252) ds_X11_wash ⟨Nat.le_of_ble_eq_true rfl, Nat.le_of_ble_eq_true rfl⟩, (hts _ mw_1253), (hts _ mw_1254)⟩) (pr_V (w_left hP) hK (d_left hD) hE (va_recv hK (w_left hP) (ci := 11) (q0 := 0) rfl hfs2)) rfl rfl hl.1 rfl (lv_room (Nat.le_of_ble_eq_true rfl)) dL_law_1151 ⟨by show (100 + 99 * (n + 1)) + 0 ≤ 600000; omega, by show (410000 + 5499 * (n + 1) + 16384 * (g + d_)) + 0 ≤ 7302250; omega⟩) hS (fun q _ h => hFc q h) hFc (fun rv_2 u_2 t_ H1 locs ht hvm hw_ hB hz1 hk1 hS => ?_)
  obtain ⟨hP1, hD1⟩ := hB
  rw [ht] at hP1
  obtain ⟨hP, hD⟩ := frm hP hD hk1 hFc hP1 hD1
  generalize H1 = H at hP hS ⊢
  obtain ⟨e_, hm2⟩ := hw_
  obtain rfl : rv_2 = (spW (xs ((nI (7 * n + 1)) : Int32).toNatClampNeg) (xs ((nI (7 * n + 2)) : Int32).toNatClampNeg) (xs ((nI (7 * n + 3)) : Int32).toNatClampNeg)) := e_
  have hP := hP.perm List.perm_append_comm
  have hD := hD.perm List.perm_append_comm
  refine lv_pop hx hb dL_law_1154 rfl ?_
  refine lv_goto (tgt := 1319) hx hb dL_law_1155 (by decide) ?_
  exact kk d0 (g + d_) _ _ _ hd0 ⟨_, _, _, _, _, _, _, _, _, _, _, _, _, _, _, _, _, _, _, _, u_1, u_2, hk2, hm2, hP, hD, hS, hl⟩

set_option maxHeartbeats 4000000 in
set_option maxRecDepth 100000 in
theorem lc_26 {p : Program} {e : Env} {s : State} {m : MethodId} {below : List Frame} {meth : Method} {c : Code} (l : Launch) {b L : Nat} {xs : Nat → Int32} {dC : Nat → ClassId} {dI : Nat → Nat → Nat} {ca : Nat → ClassId} {Q : State → Prop} {d0 : Drawn} {x y n g : Nat} {H : Heap} {locs : List Loc} {ls : Array Slot} (hd0 : s.drawn.sameBut d0 lw_cs) (F : lwF p s d0 m c b L xs dC dI ca) (hL : L ≤ 3584) (hn : 7 * n + 7 ≤ L) (hI : lI dC dI ca s.heap x y b n g H locs ls) (kk : ∀ (d1 : Drawn) (g1 : Nat) (H : Heap) (locs : List Loc) (ls : Array Slot), s.drawn.sameBut d1 lw_cs → lI dC dI ca s.heap x y b n g1 H locs ls → W p l e room_1 (s.setDrawn d1) m #[Value.ref b] below meth c H locs (100 + 99 * (n + 1)) (410000 + 5499 * (n + 1) + 16384 * g1) Q (F0 m 1319 ls [])) : W p l e room_1 (s.setDrawn d0) m #[Value.ref b] below meth c H locs (100 + 99 * n) (410000 + 5499 * n + 16384 * g) Q (F0 m 1158 ls []) := by
  obtain ⟨hx, hb, hml, hown, hts, hE, hK, hX, hbl⟩ := F
  obtain ⟨nl, nb, rn, fd, Lf, Cf, Mf, Hf, Sf, qm, qd, lt, gl, gh, lw6, hi6, np, Xf, ws, kd, wK, wM, hk, hm, hP, hD, hS, hl⟩ := hI
  have hA : ∀ q : Nat, s.heap.size ≤ q → (fun q : Nat => s.heap.size ≤ q) q := fun _ h => h
  have hbA : ¬ (fun q : Nat => s.heap.size ≤ q) b := Nat.not_le.mpr hbl
  refine lv_aload_n hx hb dL_law_1158 rfl (lv_at hl 2 rfl) ?_
  refine lv_aload_n hx hb dL_law_1159 rfl (lv_at hl 3 rfl) ?_
  refine lv_iload_n hx hb dL_law_1160 rfl (lv_at hl 0 rfl) ?_
  refine lv_iconst (v := 1) hx hb dL_law_1161 (by decide) ?_
  refine lv_iadd hx hb dL_law_1162 ?_
  refine lv_topi (fun y_ e_ => ?_)
  obtain rfl : y_ = (nI (7 * n + 1)) := e_.trans (nI_add (7 * n) (1))
  refine va_sld hx hb hX hbl hbA hS (vp_in_nI (show 7 * n + 1 < L by omega) (by omega)) dL_law_1163 ?_
  have hgl := kOK_g hk
  obtain ⟨fs, hfs⟩ := kOK_x hk
  obtain ⟨mc_, ms_, d_, hmc, hms, hd_, hMet⟩ := K_queue l dC dI ca x g nl nb rn fd Lf Cf Mf Hf Sf qm qd lt gl gh lw6 hi6 np Xf ws kd H.size wK (xs ((nI (7 * n + 1)) : Int32).toNatClampNeg) hk
  have hFc := fr_l hD hS hA
  refine va_calli (va_runV (As := [.int (xs ((nI (7 * n + 1)) : Int32).toNatClampNeg)]) (rest := []) ⟨hx, hb, hml, hown, hts⟩ hMet (⟨callB_of 1 hts (gd mw_796) rfl rfl rfl (hts _ mw_1) (hts _ mw_793) ds_X10_queue ⟨Nat.le_of_ble_eq_true rfl, Nat.le_of_ble_eq_true rfl⟩, (hts _ mw_794), (hts _ mw_795)⟩) (pr_V (w_left hP) hK (d_left hD) hE (va_recv hK (w_left hP) (ci := 10) (q0 := 0) rfl hfs)) rfl rfl hl.1 rfl (lv_room (Nat.le_of_ble_eq_true rfl)) dL_law_1164 ⟨by show (100 + 99 * n) + mc_ ≤ 600000; omega, by show (410000 + 5499 * n + 16384 * g) + ms_ ≤ 7302250; omega⟩) hS (fun q _ h => hFc q h) hFc (fun rv_1 u_1 t_ H1 locs ht hvm hw_ hB hz1 hk1 hS => ?_)
  obtain ⟨hP1, hD1⟩ := hB
  rw [ht] at hP1
  obtain ⟨hP, hD⟩ := frm hP hD hk1 hFc hP1 hD1
  generalize H1 = H at hP hS ⊢
  obtain ⟨e_, hk2⟩ := hw_
  obtain rfl : rv_1 = (spQ nb qm qd (xs ((nI (7 * n + 1)) : Int32).toNatClampNeg)) := e_
  refine W.widen (k := (100 + 99 * (n + 1))) (n := (410000 + 5499 * (n + 1) + 16384 * (g + d_))) (by omega) (by omega) ?_
  refine lv_pop hx hb dL_law_1167 rfl ?_
  refine lv_aload_n hx hb dL_law_1168 rfl (lv_at hl 1 rfl) ?_
  refine lv_aload_n hx hb dL_law_1169 rfl (lv_at hl 3 rfl) ?_
  refine lv_iload_n hx hb dL_law_1170 rfl (lv_at hl 0 rfl) ?_
  refine lv_iconst (v := 1) hx hb dL_law_1171 (by decide) ?_
  refine lv_iadd hx hb dL_law_1172 ?_
  refine lv_topi (fun y_ e_ => ?_)
  obtain rfl : y_ = (nI (7 * n + 1)) := e_.trans (nI_add (7 * n) (1))
  refine va_sld hx hb hX hbl hbA hS (vp_in_nI (show 7 * n + 1 < L by omega) (by omega)) dL_law_1173 ?_
  have hP := hP.perm List.perm_append_comm
  have hD := hD.perm List.perm_append_comm
  obtain ⟨fs2, hfs2⟩ := mOK_x hm
  have hMet2 := M_queue l dC dI ca y nl nb rn fd Lf Cf Mf Hf Sf qm qd lt gl gh lw6 hi6 np Xf ws kd H.size wM (xs ((nI (7 * n + 1)) : Int32).toNatClampNeg) hm
  have hFc := fr_l hD hS hA
  refine va_calli (va_runV (As := [.int (xs ((nI (7 * n + 1)) : Int32).toNatClampNeg)]) (rest := []) ⟨hx, hb, hml, hown, hts⟩ hMet2 (⟨callB_of 1 hts (gd mw_1259) rfl rfl rfl (hts _ mw_8) (hts _ mw_1256) ds_X11_queue ⟨Nat.le_of_ble_eq_true rfl, Nat.le_of_ble_eq_true rfl⟩, (hts _ mw_1257), (hts _ mw_1258)⟩) (pr_V (w_left hP) hK (d_left hD) hE (va_recv hK (w_left hP) (ci := 11) (q0 := 0) rfl hfs2)) rfl rfl hl.1 rfl (lv_room (Nat.le_of_ble_eq_true rfl)) dL_law_1174 ⟨by show (100 + 99 * (n + 1)) + 0 ≤ 600000; omega, by show (410000 + 5499 * (n + 1) + 16384 * (g + d_)) + 0 ≤ 7302250; omega⟩) hS (fun q _ h => hFc q h) hFc (fun rv_2 u_2 t_ H1 locs ht hvm hw_ hB hz1 hk1 hS => ?_)
  obtain ⟨hP1, hD1⟩ := hB
  rw [ht] at hP1
  obtain ⟨hP, hD⟩ := frm hP hD hk1 hFc hP1 hD1
  generalize H1 = H at hP hS ⊢
  obtain ⟨e_, hm2⟩ := hw_
  obtain rfl : rv_2 = (spQ nb qm qd (xs ((nI (7 * n + 1)) : Int32).toNatClampNeg)) := e_
  have hP := hP.perm List.perm_append_comm
  have hD := hD.perm List.perm_append_comm
  refine lv_pop hx hb dL_law_1177 rfl ?_
  refine lv_goto (tgt := 1319) hx hb dL_law_1178 (by decide) ?_
  exact kk d0 (g + d_) _ _ _ hd0 ⟨_, _, _, _, _, _, _, _, _, _, _, _, _, _, _, _, _, _, _, _, u_1, u_2, hk2, hm2, hP, hD, hS, hl⟩

set_option maxHeartbeats 4000000 in
set_option maxRecDepth 100000 in
theorem lc_27 {p : Program} {e : Env} {s : State} {m : MethodId} {below : List Frame} {meth : Method} {c : Code} (l : Launch) {b L : Nat} {xs : Nat → Int32} {dC : Nat → ClassId} {dI : Nat → Nat → Nat} {ca : Nat → ClassId} {Q : State → Prop} {d0 : Drawn} {x y n g : Nat} {H : Heap} {locs : List Loc} {ls : Array Slot} (hd0 : s.drawn.sameBut d0 lw_cs) (F : lwF p s d0 m c b L xs dC dI ca) (hL : L ≤ 3584) (hn : 7 * n + 7 ≤ L) (hI : lI dC dI ca s.heap x y b n g H locs ls) (kk : ∀ (d1 : Drawn) (g1 : Nat) (H : Heap) (locs : List Loc) (ls : Array Slot), s.drawn.sameBut d1 lw_cs → lI dC dI ca s.heap x y b n g1 H locs ls → W p l e room_1 (s.setDrawn d1) m #[Value.ref b] below meth c H locs (100 + 99 * (n + 1)) (410000 + 5499 * (n + 1) + 16384 * g1) Q (F0 m 1319 ls [])) : W p l e room_1 (s.setDrawn d0) m #[Value.ref b] below meth c H locs (100 + 99 * n) (410000 + 5499 * n + 16384 * g) Q (F0 m 1181 ls []) := by
  obtain ⟨hx, hb, hml, hown, hts, hE, hK, hX, hbl⟩ := F
  obtain ⟨nl, nb, rn, fd, Lf, Cf, Mf, Hf, Sf, qm, qd, lt, gl, gh, lw6, hi6, np, Xf, ws, kd, wK, wM, hk, hm, hP, hD, hS, hl⟩ := hI
  have hA : ∀ q : Nat, s.heap.size ≤ q → (fun q : Nat => s.heap.size ≤ q) q := fun _ h => h
  have hbA : ¬ (fun q : Nat => s.heap.size ≤ q) b := Nat.not_le.mpr hbl
  refine lv_aload_n hx hb dL_law_1181 rfl (lv_at hl 2 rfl) ?_
  refine lv_aload_n hx hb dL_law_1182 rfl (lv_at hl 3 rfl) ?_
  refine lv_iload_n hx hb dL_law_1183 rfl (lv_at hl 0 rfl) ?_
  refine lv_iconst (v := 1) hx hb dL_law_1184 (by decide) ?_
  refine lv_iadd hx hb dL_law_1185 ?_
  refine lv_topi (fun y_ e_ => ?_)
  obtain rfl : y_ = (nI (7 * n + 1)) := e_.trans (nI_add (7 * n) (1))
  refine va_sld hx hb hX hbl hbA hS (vp_in_nI (show 7 * n + 1 < L by omega) (by omega)) dL_law_1186 ?_
  refine lv_if_eq (tgt := 1194) hx hb dL_law_1187 (by decide) (fun c_1 => ?_) (fun c_1 => ?_)
  · refine lv_iconst (v := 0) hx hb dL_law_1194 (by decide) ?_
    refine lv_aload_n hx hb dL_law_1195 rfl (lv_at hl 3 rfl) ?_
    refine lv_iload_n hx hb dL_law_1196 rfl (lv_at hl 0 rfl) ?_
    refine lv_iconst (v := 2) hx hb dL_law_1197 (by decide) ?_
    refine lv_iadd hx hb dL_law_1198 ?_
    refine lv_topi (fun y_ e_ => ?_)
    obtain rfl : y_ = (nI (7 * n + 2)) := e_.trans (nI_add (7 * n) (2))
    refine va_sld hx hb hX hbl hbA hS (vp_in_nI (show 7 * n + 2 < L by omega) (by omega)) dL_law_1199 ?_
    have hgl := kOK_g hk
    obtain ⟨fs, hfs⟩ := kOK_x hk
    obtain ⟨mc_, ms_, d_, hmc, hms, hd_, hMet⟩ := K_order l dC dI ca x g nl nb rn fd Lf Cf Mf Hf Sf qm qd lt gl gh lw6 hi6 np Xf ws kd H.size wK 0 (xs ((nI (7 * n + 2)) : Int32).toNatClampNeg) hk (Or.inl rfl)
    have hFc := fr_l hD hS hA
    refine va_calli (va_runV (As := [.int 0, .int (xs ((nI (7 * n + 2)) : Int32).toNatClampNeg)]) (rest := []) ⟨hx, hb, hml, hown, hts⟩ hMet (⟨callB_of 2 hts (gd mw_808) rfl rfl rfl (hts _ mw_1) (hts _ mw_805) ds_X10_order ⟨Nat.le_of_ble_eq_true rfl, Nat.le_of_ble_eq_true rfl⟩, (hts _ mw_806), (hts _ mw_807)⟩) (pr_V (w_left hP) hK (d_left hD) hE (va_recv hK (w_left hP) (ci := 10) (q0 := 0) rfl hfs)) rfl rfl hl.1 rfl (lv_room (Nat.le_of_ble_eq_true rfl)) dL_law_1200 ⟨by show (100 + 99 * n) + mc_ ≤ 600000; omega, by show (410000 + 5499 * n + 16384 * g) + ms_ ≤ 7302250; omega⟩) hS (fun q _ h => hFc q h) hFc (fun rv_2 u_2 t_ H1 locs ht hvm hw_ hB hz1 hk1 hS => ?_)
    obtain ⟨hP1, hD1⟩ := hB
    rw [ht] at hP1
    obtain ⟨hP, hD⟩ := frm hP hD hk1 hFc hP1 hD1
    generalize H1 = H at hP hS ⊢
    obtain ⟨e_, hk2⟩ := hw_
    obtain rfl : rv_2 = (oq_A ws qd kd qm 0 (xs ((nI (7 * n + 2)) : Int32).toNatClampNeg)) := e_
    refine W.widen (k := (100 + 99 * (n + 1))) (n := (410000 + 5499 * (n + 1) + 16384 * (g + d_))) (by omega) (by omega) ?_
    refine lv_pop hx hb dL_law_1203 rfl ?_
    refine lv_aload_n hx hb dL_law_1204 rfl (lv_at hl 1 rfl) ?_
    refine lv_aload_n hx hb dL_law_1205 rfl (lv_at hl 3 rfl) ?_
    refine lv_iload_n hx hb dL_law_1206 rfl (lv_at hl 0 rfl) ?_
    refine lv_iconst (v := 1) hx hb dL_law_1207 (by decide) ?_
    refine lv_iadd hx hb dL_law_1208 ?_
    refine lv_topi (fun y_ e_ => ?_)
    obtain rfl : y_ = (nI (7 * n + 1)) := e_.trans (nI_add (7 * n) (1))
    refine va_sld hx hb hX hbl hbA hS (vp_in_nI (show 7 * n + 1 < L by omega) (by omega)) dL_law_1209 ?_
    refine lv_if_eq (tgt := 1217) hx hb dL_law_1210 (by decide) (fun c_ => ?_) (fun c_ => absurd c_1 c_)
    refine lv_iconst (v := 0) hx hb dL_law_1217 (by decide) ?_
    refine lv_aload_n hx hb dL_law_1218 rfl (lv_at hl 3 rfl) ?_
    refine lv_iload_n hx hb dL_law_1219 rfl (lv_at hl 0 rfl) ?_
    refine lv_iconst (v := 2) hx hb dL_law_1220 (by decide) ?_
    refine lv_iadd hx hb dL_law_1221 ?_
    refine lv_topi (fun y_ e_ => ?_)
    obtain rfl : y_ = (nI (7 * n + 2)) := e_.trans (nI_add (7 * n) (2))
    refine va_sld hx hb hX hbl hbA hS (vp_in_nI (show 7 * n + 2 < L by omega) (by omega)) dL_law_1222 ?_
    have hP := hP.perm List.perm_append_comm
    have hD := hD.perm List.perm_append_comm
    obtain ⟨fs2, hfs2⟩ := mOK_x hm
    have hMet2 := M_order l dC dI ca y nl nb rn fd Lf Cf Mf Hf Sf qm qd lt gl gh lw6 hi6 np Xf ws kd H.size wM 0 (xs ((nI (7 * n + 2)) : Int32).toNatClampNeg) hm
    have hFc := fr_l hD hS hA
    refine va_calli (va_runV (As := [.int 0, .int (xs ((nI (7 * n + 2)) : Int32).toNatClampNeg)]) (rest := []) ⟨hx, hb, hml, hown, hts⟩ hMet2 (⟨callB_of 2 hts (gd mw_1263) rfl rfl rfl (hts _ mw_8) (hts _ mw_1260) ds_X11_order ⟨Nat.le_of_ble_eq_true rfl, Nat.le_of_ble_eq_true rfl⟩, (hts _ mw_1261), (hts _ mw_1262)⟩) (pr_V (w_left hP) hK (d_left hD) hE (va_recv hK (w_left hP) (ci := 11) (q0 := 0) rfl hfs2)) rfl rfl hl.1 rfl (lv_room (Nat.le_of_ble_eq_true rfl)) dL_law_1223 ⟨by show (100 + 99 * (n + 1)) + 0 ≤ 600000; omega, by show (410000 + 5499 * (n + 1) + 16384 * (g + d_)) + 0 ≤ 7302250; omega⟩) hS (fun q _ h => hFc q h) hFc (fun rv_3 u_3 t_ H1 locs ht hvm hw_ hB hz1 hk1 hS => ?_)
    obtain ⟨hP1, hD1⟩ := hB
    rw [ht] at hP1
    obtain ⟨hP, hD⟩ := frm hP hD hk1 hFc hP1 hD1
    generalize H1 = H at hP hS ⊢
    obtain ⟨e_, hm2⟩ := hw_
    obtain rfl : rv_3 = (oq_A ws qd kd qm 0 (xs ((nI (7 * n + 2)) : Int32).toNatClampNeg)) := e_
    have hP := hP.perm List.perm_append_comm
    have hD := hD.perm List.perm_append_comm
    refine lv_pop hx hb dL_law_1226 rfl ?_
    refine lv_goto (tgt := 1319) hx hb dL_law_1227 (by decide) ?_
    exact kk d0 (g + d_) _ _ _ hd0 ⟨_, _, _, _, _, _, _, _, _, _, _, _, _, _, _, _, _, _, _, _, u_2, u_3, hk2, hm2, hP, hD, hS, hl⟩
  · refine lv_iconst (v := 1) hx hb dL_law_1190 (by decide) ?_
    refine lv_goto (tgt := 1195) hx hb dL_law_1191 (by decide) ?_
    refine lv_aload_n hx hb dL_law_1195 rfl (lv_at hl 3 rfl) ?_
    refine lv_iload_n hx hb dL_law_1196 rfl (lv_at hl 0 rfl) ?_
    refine lv_iconst (v := 2) hx hb dL_law_1197 (by decide) ?_
    refine lv_iadd hx hb dL_law_1198 ?_
    refine lv_topi (fun y_ e_ => ?_)
    obtain rfl : y_ = (nI (7 * n + 2)) := e_.trans (nI_add (7 * n) (2))
    refine va_sld hx hb hX hbl hbA hS (vp_in_nI (show 7 * n + 2 < L by omega) (by omega)) dL_law_1199 ?_
    have hgl := kOK_g hk
    obtain ⟨fs, hfs⟩ := kOK_x hk
    obtain ⟨mc_, ms_, d_, hmc, hms, hd_, hMet⟩ := K_order l dC dI ca x g nl nb rn fd Lf Cf Mf Hf Sf qm qd lt gl gh lw6 hi6 np Xf ws kd H.size wK 1 (xs ((nI (7 * n + 2)) : Int32).toNatClampNeg) hk (Or.inr rfl)
    have hFc := fr_l hD hS hA
    refine va_calli (va_runV (As := [.int 1, .int (xs ((nI (7 * n + 2)) : Int32).toNatClampNeg)]) (rest := []) ⟨hx, hb, hml, hown, hts⟩ hMet (⟨callB_of 2 hts (gd mw_808) rfl rfl rfl (hts _ mw_1) (hts _ mw_805) ds_X10_order ⟨Nat.le_of_ble_eq_true rfl, Nat.le_of_ble_eq_true rfl⟩, (hts _ mw_806), (hts _ mw_807)⟩) (pr_V (w_left hP) hK (d_left hD) hE (va_recv hK (w_left hP) (ci := 10) (q0 := 0) rfl hfs)) rfl rfl hl.1 rfl (lv_room (Nat.le_of_ble_eq_true rfl)) dL_law_1200 ⟨by show (100 + 99 * n) + mc_ ≤ 600000; omega, by show (410000 + 5499 * n + 16384 * g) + ms_ ≤ 7302250; omega⟩) hS (fun q _ h => hFc q h) hFc (fun rv_4 u_4 t_ H1 locs ht hvm hw_ hB hz1 hk1 hS => ?_)
    obtain ⟨hP1, hD1⟩ := hB
    rw [ht] at hP1
    obtain ⟨hP, hD⟩ := frm hP hD hk1 hFc hP1 hD1
    generalize H1 = H at hP hS ⊢
    obtain ⟨e_, hk2⟩ := hw_
    obtain rfl : rv_4 = (oq_A ws qd kd qm 1 (xs ((nI (7 * n + 2)) : Int32).toNatClampNeg)) := e_
    refine W.widen (k := (100 + 99 * (n + 1))) (n := (410000 + 5499 * (n + 1) + 16384 * (g + d_))) (by omega) (by omega) ?_
    refine lv_pop hx hb dL_law_1203 rfl ?_
    refine lv_aload_n hx hb dL_law_1204 rfl (lv_at hl 1 rfl) ?_
    refine lv_aload_n hx hb dL_law_1205 rfl (lv_at hl 3 rfl) ?_
    refine lv_iload_n hx hb dL_law_1206 rfl (lv_at hl 0 rfl) ?_
    refine lv_iconst (v := 1) hx hb dL_law_1207 (by decide) ?_
    refine lv_iadd hx hb dL_law_1208 ?_
    refine lv_topi (fun y_ e_ => ?_)
    obtain rfl : y_ = (nI (7 * n + 1)) := e_.trans (nI_add (7 * n) (1))
    refine va_sld hx hb hX hbl hbA hS (vp_in_nI (show 7 * n + 1 < L by omega) (by omega)) dL_law_1209 ?_
    refine lv_if_eq (tgt := 1217) hx hb dL_law_1210 (by decide) (fun c_ => absurd c_ c_1) (fun c_ => ?_)
    refine lv_iconst (v := 1) hx hb dL_law_1213 (by decide) ?_
    refine lv_goto (tgt := 1218) hx hb dL_law_1214 (by decide) ?_
    refine lv_aload_n hx hb dL_law_1218 rfl (lv_at hl 3 rfl) ?_
    refine lv_iload_n hx hb dL_law_1219 rfl (lv_at hl 0 rfl) ?_
    refine lv_iconst (v := 2) hx hb dL_law_1220 (by decide) ?_
    refine lv_iadd hx hb dL_law_1221 ?_
    refine lv_topi (fun y_ e_ => ?_)
    obtain rfl : y_ = (nI (7 * n + 2)) := e_.trans (nI_add (7 * n) (2))
    refine va_sld hx hb hX hbl hbA hS (vp_in_nI (show 7 * n + 2 < L by omega) (by omega)) dL_law_1222 ?_
    have hP := hP.perm List.perm_append_comm
    have hD := hD.perm List.perm_append_comm
    obtain ⟨fs2, hfs2⟩ := mOK_x hm
    have hMet2 := M_order l dC dI ca y nl nb rn fd Lf Cf Mf Hf Sf qm qd lt gl gh lw6 hi6 np Xf ws kd H.size wM 1 (xs ((nI (7 * n + 2)) : Int32).toNatClampNeg) hm
    have hFc := fr_l hD hS hA
    refine va_calli (va_runV (As := [.int 1, .int (xs ((nI (7 * n + 2)) : Int32).toNatClampNeg)]) (rest := []) ⟨hx, hb, hml, hown, hts⟩ hMet2 (⟨callB_of 2 hts (gd mw_1263) rfl rfl rfl (hts _ mw_8) (hts _ mw_1260) ds_X11_order ⟨Nat.le_of_ble_eq_true rfl, Nat.le_of_ble_eq_true rfl⟩, (hts _ mw_1261), (hts _ mw_1262)⟩) (pr_V (w_left hP) hK (d_left hD) hE (va_recv hK (w_left hP) (ci := 11) (q0 := 0) rfl hfs2)) rfl rfl hl.1 rfl (lv_room (Nat.le_of_ble_eq_true rfl)) dL_law_1223 ⟨by show (100 + 99 * (n + 1)) + 0 ≤ 600000; omega, by show (410000 + 5499 * (n + 1) + 16384 * (g + d_)) + 0 ≤ 7302250; omega⟩) hS (fun q _ h => hFc q h) hFc (fun rv_5 u_5 t_ H1 locs ht hvm hw_ hB hz1 hk1 hS => ?_)
    obtain ⟨hP1, hD1⟩ := hB
    rw [ht] at hP1
    obtain ⟨hP, hD⟩ := frm hP hD hk1 hFc hP1 hD1
    generalize H1 = H at hP hS ⊢
    obtain ⟨e_, hm2⟩ := hw_
    obtain rfl : rv_5 = (oq_A ws qd kd qm 1 (xs ((nI (7 * n + 2)) : Int32).toNatClampNeg)) := e_
    have hP := hP.perm List.perm_append_comm
    have hD := hD.perm List.perm_append_comm
    refine lv_pop hx hb dL_law_1226 rfl ?_
    refine lv_goto (tgt := 1319) hx hb dL_law_1227 (by decide) ?_
    exact kk d0 (g + d_) _ _ _ hd0 ⟨_, _, _, _, _, _, _, _, _, _, _, _, _, _, _, _, _, _, _, _, u_4, u_5, hk2, hm2, hP, hD, hS, hl⟩

set_option maxHeartbeats 4000000 in
set_option maxRecDepth 100000 in
theorem lc_28 {p : Program} {e : Env} {s : State} {m : MethodId} {below : List Frame} {meth : Method} {c : Code} (l : Launch) {b L : Nat} {xs : Nat → Int32} {dC : Nat → ClassId} {dI : Nat → Nat → Nat} {ca : Nat → ClassId} {Q : State → Prop} {d0 : Drawn} {x y n g : Nat} {H : Heap} {locs : List Loc} {ls : Array Slot} (hd0 : s.drawn.sameBut d0 lw_cs) (F : lwF p s d0 m c b L xs dC dI ca) (hL : L ≤ 3584) (hn : 7 * n + 7 ≤ L) (hI : lI dC dI ca s.heap x y b n g H locs ls) (kk : ∀ (d1 : Drawn) (g1 : Nat) (H : Heap) (locs : List Loc) (ls : Array Slot), s.drawn.sameBut d1 lw_cs → lI dC dI ca s.heap x y b n g1 H locs ls → W p l e room_1 (s.setDrawn d1) m #[Value.ref b] below meth c H locs (100 + 99 * (n + 1)) (410000 + 5499 * (n + 1) + 16384 * g1) Q (F0 m 1319 ls [])) : W p l e room_1 (s.setDrawn d0) m #[Value.ref b] below meth c H locs (100 + 99 * n) (410000 + 5499 * n + 16384 * g) Q (F0 m 1230 ls []) := by
  obtain ⟨hx, hb, hml, hown, hts, hE, hK, hX, hbl⟩ := F
  obtain ⟨nl, nb, rn, fd, Lf, Cf, Mf, Hf, Sf, qm, qd, lt, gl, gh, lw6, hi6, np, Xf, ws, kd, wK, wM, hk, hm, hP, hD, hS, hl⟩ := hI
  have hA : ∀ q : Nat, s.heap.size ≤ q → (fun q : Nat => s.heap.size ≤ q) q := fun _ h => h
  have hbA : ¬ (fun q : Nat => s.heap.size ≤ q) b := Nat.not_le.mpr hbl
  refine lv_aload_n hx hb dL_law_1230 rfl (lv_at hl 2 rfl) ?_
  refine lv_aload_n hx hb dL_law_1231 rfl (lv_at hl 3 rfl) ?_
  refine lv_iload_n hx hb dL_law_1232 rfl (lv_at hl 0 rfl) ?_
  refine lv_iconst (v := 1) hx hb dL_law_1233 (by decide) ?_
  refine lv_iadd hx hb dL_law_1234 ?_
  refine lv_topi (fun y_ e_ => ?_)
  obtain rfl : y_ = (nI (7 * n + 1)) := e_.trans (nI_add (7 * n) (1))
  refine va_sld hx hb hX hbl hbA hS (vp_in_nI (show 7 * n + 1 < L by omega) (by omega)) dL_law_1235 ?_
  refine lv_aload_n hx hb dL_law_1236 rfl (lv_at hl 3 rfl) ?_
  refine lv_iload_n hx hb dL_law_1237 rfl (lv_at hl 0 rfl) ?_
  refine lv_iconst (v := 2) hx hb dL_law_1238 (by decide) ?_
  refine lv_iadd hx hb dL_law_1239 ?_
  refine lv_topi (fun y_ e_ => ?_)
  obtain rfl : y_ = (nI (7 * n + 2)) := e_.trans (nI_add (7 * n) (2))
  refine va_sld hx hb hX hbl hbA hS (vp_in_nI (show 7 * n + 2 < L by omega) (by omega)) dL_law_1240 ?_
  refine lv_aload_n hx hb dL_law_1241 rfl (lv_at hl 3 rfl) ?_
  refine lv_iload_n hx hb dL_law_1242 rfl (lv_at hl 0 rfl) ?_
  refine lv_iconst (v := 3) hx hb dL_law_1243 (by decide) ?_
  refine lv_iadd hx hb dL_law_1244 ?_
  refine lv_topi (fun y_ e_ => ?_)
  obtain rfl : y_ = (nI (7 * n + 3)) := e_.trans (nI_add (7 * n) (3))
  refine va_sld hx hb hX hbl hbA hS (vp_in_nI (show 7 * n + 3 < L by omega) (by omega)) dL_law_1245 ?_
  have hgl := kOK_g hk
  obtain ⟨fs, hfs⟩ := kOK_x hk
  obtain ⟨mc_, ms_, d_, hmc, hms, hd_, hMet⟩ := K_recall l dC dI ca x g nl nb rn fd Lf Cf Mf Hf Sf qm qd lt gl gh lw6 hi6 np Xf ws kd H.size wK (xs ((nI (7 * n + 1)) : Int32).toNatClampNeg) (xs ((nI (7 * n + 2)) : Int32).toNatClampNeg) (xs ((nI (7 * n + 3)) : Int32).toNatClampNeg) hk
  have hFc := fr_l hD hS hA
  refine va_calli (va_runV (As := [.int (xs ((nI (7 * n + 1)) : Int32).toNatClampNeg), .int (xs ((nI (7 * n + 2)) : Int32).toNatClampNeg), .int (xs ((nI (7 * n + 3)) : Int32).toNatClampNeg)]) (rest := []) ⟨hx, hb, hml, hown, hts⟩ hMet (⟨callB_of 3 hts (gd mw_856) rfl rfl rfl (hts _ mw_1) (hts _ mw_853) ds_X10_recall ⟨Nat.le_of_ble_eq_true rfl, Nat.le_of_ble_eq_true rfl⟩, (hts _ mw_854), (hts _ mw_855)⟩) (pr_V (w_left hP) hK (d_left hD) hE (va_recv hK (w_left hP) (ci := 10) (q0 := 0) rfl hfs)) rfl rfl hl.1 rfl (lv_room (Nat.le_of_ble_eq_true rfl)) dL_law_1246 ⟨by show (100 + 99 * n) + mc_ ≤ 600000; omega, by show (410000 + 5499 * n + 16384 * g) + ms_ ≤ 7302250; omega⟩) hS (fun q _ h => hFc q h) hFc (fun rv_1 u_1 t_ H1 locs ht hvm hw_ hB hz1 hk1 hS => ?_)
  obtain ⟨hP1, hD1⟩ := hB
  rw [ht] at hP1
  obtain ⟨hP, hD⟩ := frm hP hD hk1 hFc hP1 hD1
  generalize H1 = H at hP hS ⊢
  have hk2 := hw_
  refine W.widen (k := (100 + 99 * (n + 1))) (n := (410000 + 5499 * (n + 1) + 16384 * (g + d_))) (by omega) (by omega) ?_
  refine lv_pop hx hb dL_law_1249 rfl ?_
  refine lv_aload_n hx hb dL_law_1250 rfl (lv_at hl 1 rfl) ?_
  refine lv_aload_n hx hb dL_law_1251 rfl (lv_at hl 3 rfl) ?_
  refine lv_iload_n hx hb dL_law_1252 rfl (lv_at hl 0 rfl) ?_
  refine lv_iconst (v := 1) hx hb dL_law_1253 (by decide) ?_
  refine lv_iadd hx hb dL_law_1254 ?_
  refine lv_topi (fun y_ e_ => ?_)
  obtain rfl : y_ = (nI (7 * n + 1)) := e_.trans (nI_add (7 * n) (1))
  refine va_sld hx hb hX hbl hbA hS (vp_in_nI (show 7 * n + 1 < L by omega) (by omega)) dL_law_1255 ?_
  refine lv_aload_n hx hb dL_law_1256 rfl (lv_at hl 3 rfl) ?_
  refine lv_iload_n hx hb dL_law_1257 rfl (lv_at hl 0 rfl) ?_
  refine lv_iconst (v := 2) hx hb dL_law_1258 (by decide) ?_
  refine lv_iadd hx hb dL_law_1259 ?_
  refine lv_topi (fun y_ e_ => ?_)
  obtain rfl : y_ = (nI (7 * n + 2)) := e_.trans (nI_add (7 * n) (2))
  refine va_sld hx hb hX hbl hbA hS (vp_in_nI (show 7 * n + 2 < L by omega) (by omega)) dL_law_1260 ?_
  refine lv_aload_n hx hb dL_law_1261 rfl (lv_at hl 3 rfl) ?_
  refine lv_iload_n hx hb dL_law_1262 rfl (lv_at hl 0 rfl) ?_
  refine lv_iconst (v := 3) hx hb dL_law_1263 (by decide) ?_
  refine lv_iadd hx hb dL_law_1264 ?_
  refine lv_topi (fun y_ e_ => ?_)
  obtain rfl : y_ = (nI (7 * n + 3)) := e_.trans (nI_add (7 * n) (3))
  refine va_sld hx hb hX hbl hbA hS (vp_in_nI (show 7 * n + 3 < L by omega) (by omega)) dL_law_1265 ?_
  have hP := hP.perm List.perm_append_comm
  have hD := hD.perm List.perm_append_comm
  obtain ⟨fs2, hfs2⟩ := mOK_x hm
  have hMet2 := M_recall l dC dI ca y nl nb rn fd Lf Cf Mf Hf Sf qm qd lt gl gh lw6 hi6 np Xf ws kd H.size wM (xs ((nI (7 * n + 1)) : Int32).toNatClampNeg) (xs ((nI (7 * n + 2)) : Int32).toNatClampNeg) (xs ((nI (7 * n + 3)) : Int32).toNatClampNeg) hm
  have hFc := fr_l hD hS hA
  refine va_calli (va_runV (As := [.int (xs ((nI (7 * n + 1)) : Int32).toNatClampNeg), .int (xs ((nI (7 * n + 2)) : Int32).toNatClampNeg), .int (xs ((nI (7 * n + 3)) : Int32).toNatClampNeg)]) (rest := []) ⟨hx, hb, hml, hown, hts⟩ hMet2 (⟨callB_of 3 hts (gd mw_1288) rfl rfl rfl (hts _ mw_8) (hts _ mw_1285) ds_X11_recall ⟨Nat.le_of_ble_eq_true rfl, Nat.le_of_ble_eq_true rfl⟩, (hts _ mw_1286), (hts _ mw_1287)⟩) (pr_V (w_left hP) hK (d_left hD) hE (va_recv hK (w_left hP) (ci := 11) (q0 := 0) rfl hfs2)) rfl rfl hl.1 rfl (lv_room (Nat.le_of_ble_eq_true rfl)) dL_law_1266 ⟨by show (100 + 99 * (n + 1)) + 0 ≤ 600000; omega, by show (410000 + 5499 * (n + 1) + 16384 * (g + d_)) + 0 ≤ 7302250; omega⟩) hS (fun q _ h => hFc q h) hFc (fun rv_2 u_2 t_ H1 locs ht hvm hw_ hB hz1 hk1 hS => ?_)
  obtain ⟨hP1, hD1⟩ := hB
  rw [ht] at hP1
  obtain ⟨hP, hD⟩ := frm hP hD hk1 hFc hP1 hD1
  generalize H1 = H at hP hS ⊢
  have hm2 := hw_
  have hP := hP.perm List.perm_append_comm
  have hD := hD.perm List.perm_append_comm
  refine lv_pop hx hb dL_law_1269 rfl ?_
  refine lv_goto (tgt := 1319) hx hb dL_law_1270 (by decide) ?_
  exact kk d0 (g + d_) _ _ _ hd0 ⟨_, _, _, _, _, _, _, _, _, _, _, _, _, _, _, _, _, _, _, _, u_1, u_2, hk2, hm2, hP, hD, hS, hl⟩

set_option maxHeartbeats 4000000 in
set_option maxRecDepth 100000 in
theorem lc_29 {p : Program} {e : Env} {s : State} {m : MethodId} {below : List Frame} {meth : Method} {c : Code} (l : Launch) {b L : Nat} {xs : Nat → Int32} {dC : Nat → ClassId} {dI : Nat → Nat → Nat} {ca : Nat → ClassId} {Q : State → Prop} {d0 : Drawn} {x y n g : Nat} {H : Heap} {locs : List Loc} {ls : Array Slot} (hd0 : s.drawn.sameBut d0 lw_cs) (F : lwF p s d0 m c b L xs dC dI ca) (hL : L ≤ 3584) (hn : 7 * n + 7 ≤ L) (hI : lI dC dI ca s.heap x y b n g H locs ls) (kk : ∀ (d1 : Drawn) (g1 : Nat) (H : Heap) (locs : List Loc) (ls : Array Slot), s.drawn.sameBut d1 lw_cs → lI dC dI ca s.heap x y b n g1 H locs ls → W p l e room_1 (s.setDrawn d1) m #[Value.ref b] below meth c H locs (100 + 99 * (n + 1)) (410000 + 5499 * (n + 1) + 16384 * g1) Q (F0 m 1319 ls [])) : W p l e room_1 (s.setDrawn d0) m #[Value.ref b] below meth c H locs (100 + 99 * n) (410000 + 5499 * n + 16384 * g) Q (F0 m 1273 ls []) := by
  obtain ⟨hx, hb, hml, hown, hts, hE, hK, hX, hbl⟩ := F
  obtain ⟨nl, nb, rn, fd, Lf, Cf, Mf, Hf, Sf, qm, qd, lt, gl, gh, lw6, hi6, np, Xf, ws, kd, wK, wM, hk, hm, hP, hD, hS, hl⟩ := hI
  have hA : ∀ q : Nat, s.heap.size ≤ q → (fun q : Nat => s.heap.size ≤ q) q := fun _ h => h
  have hbA : ¬ (fun q : Nat => s.heap.size ≤ q) b := Nat.not_le.mpr hbl
  refine lv_aload_n hx hb dL_law_1273 rfl (lv_at hl 2 rfl) ?_
  refine lv_aload_n hx hb dL_law_1274 rfl (lv_at hl 3 rfl) ?_
  refine lv_iload_n hx hb dL_law_1275 rfl (lv_at hl 0 rfl) ?_
  refine lv_iconst (v := 1) hx hb dL_law_1276 (by decide) ?_
  refine lv_iadd hx hb dL_law_1277 ?_
  refine lv_topi (fun y_ e_ => ?_)
  obtain rfl : y_ = (nI (7 * n + 1)) := e_.trans (nI_add (7 * n) (1))
  refine va_sld hx hb hX hbl hbA hS (vp_in_nI (show 7 * n + 1 < L by omega) (by omega)) dL_law_1278 ?_
  have hgl := kOK_g hk
  obtain ⟨fs, hfs⟩ := kOK_x hk
  obtain ⟨mc_, ms_, d_, hmc, hms, hd_, hMet⟩ := K_about l dC dI ca x g nl nb rn fd Lf Cf Mf Hf Sf qm qd lt gl gh lw6 hi6 np Xf ws kd H.size wK (xs ((nI (7 * n + 1)) : Int32).toNatClampNeg) hk
  have hFc := fr_l hD hS hA
  refine va_calli (va_runV (As := [.int (xs ((nI (7 * n + 1)) : Int32).toNatClampNeg)]) (rest := []) ⟨hx, hb, hml, hown, hts⟩ hMet (⟨callB_of 1 hts (gd mw_864) rfl rfl rfl (hts _ mw_1) (hts _ mw_861) ds_X10_about ⟨Nat.le_of_ble_eq_true rfl, Nat.le_of_ble_eq_true rfl⟩, (hts _ mw_862), (hts _ mw_863)⟩) (pr_V (w_left hP) hK (d_left hD) hE (va_recv hK (w_left hP) (ci := 10) (q0 := 0) rfl hfs)) rfl rfl hl.1 rfl (lv_room (Nat.le_of_ble_eq_true rfl)) dL_law_1279 ⟨by show (100 + 99 * n) + mc_ ≤ 600000; omega, by show (410000 + 5499 * n + 16384 * g) + ms_ ≤ 7302250; omega⟩) hS (fun q _ h => hFc q h) hFc (fun rv_1 u_1 t_ H1 locs ht hvm hw_ hB hz1 hk1 hS => ?_)
  obtain ⟨hP1, hD1⟩ := hB
  rw [ht] at hP1
  obtain ⟨hP, hD⟩ := frm hP hD hk1 hFc hP1 hD1
  generalize H1 = H at hP hS ⊢
  have hk2 := hw_
  refine W.widen (k := (100 + 99 * (n + 1))) (n := (410000 + 5499 * (n + 1) + 16384 * (g + d_))) (by omega) (by omega) ?_
  refine lv_pop hx hb dL_law_1282 rfl ?_
  refine lv_aload_n hx hb dL_law_1283 rfl (lv_at hl 1 rfl) ?_
  refine lv_aload_n hx hb dL_law_1284 rfl (lv_at hl 3 rfl) ?_
  refine lv_iload_n hx hb dL_law_1285 rfl (lv_at hl 0 rfl) ?_
  refine lv_iconst (v := 1) hx hb dL_law_1286 (by decide) ?_
  refine lv_iadd hx hb dL_law_1287 ?_
  refine lv_topi (fun y_ e_ => ?_)
  obtain rfl : y_ = (nI (7 * n + 1)) := e_.trans (nI_add (7 * n) (1))
  refine va_sld hx hb hX hbl hbA hS (vp_in_nI (show 7 * n + 1 < L by omega) (by omega)) dL_law_1288 ?_
  have hP := hP.perm List.perm_append_comm
  have hD := hD.perm List.perm_append_comm
  obtain ⟨fs2, hfs2⟩ := mOK_x hm
  have hMet2 := M_about l dC dI ca y nl nb rn fd Lf Cf Mf Hf Sf qm qd lt gl gh lw6 hi6 np Xf ws kd H.size wM (xs ((nI (7 * n + 1)) : Int32).toNatClampNeg) hm
  have hFc := fr_l hD hS hA
  refine va_calli (va_runV (As := [.int (xs ((nI (7 * n + 1)) : Int32).toNatClampNeg)]) (rest := []) ⟨hx, hb, hml, hown, hts⟩ hMet2 (⟨callB_of 1 hts (gd mw_1296) rfl rfl rfl (hts _ mw_8) (hts _ mw_1293) ds_X11_about ⟨Nat.le_of_ble_eq_true rfl, Nat.le_of_ble_eq_true rfl⟩, (hts _ mw_1294), (hts _ mw_1295)⟩) (pr_V (w_left hP) hK (d_left hD) hE (va_recv hK (w_left hP) (ci := 11) (q0 := 0) rfl hfs2)) rfl rfl hl.1 rfl (lv_room (Nat.le_of_ble_eq_true rfl)) dL_law_1289 ⟨by show (100 + 99 * (n + 1)) + 0 ≤ 600000; omega, by show (410000 + 5499 * (n + 1) + 16384 * (g + d_)) + 0 ≤ 7302250; omega⟩) hS (fun q _ h => hFc q h) hFc (fun rv_2 u_2 t_ H1 locs ht hvm hw_ hB hz1 hk1 hS => ?_)
  obtain ⟨hP1, hD1⟩ := hB
  rw [ht] at hP1
  obtain ⟨hP, hD⟩ := frm hP hD hk1 hFc hP1 hD1
  generalize H1 = H at hP hS ⊢
  have hm2 := hw_
  have hP := hP.perm List.perm_append_comm
  have hD := hD.perm List.perm_append_comm
  refine lv_pop hx hb dL_law_1292 rfl ?_
  refine lv_goto (tgt := 1319) hx hb dL_law_1293 (by decide) ?_
  exact kk d0 (g + d_) _ _ _ hd0 ⟨_, _, _, _, _, _, _, _, _, _, _, _, _, _, _, _, _, _, _, _, u_1, u_2, hk2, hm2, hP, hD, hS, hl⟩

set_option maxHeartbeats 4000000 in
set_option maxRecDepth 100000 in
theorem lc_30 {p : Program} {e : Env} {s : State} {m : MethodId} {below : List Frame} {meth : Method} {c : Code} (l : Launch) {b L : Nat} {xs : Nat → Int32} {dC : Nat → ClassId} {dI : Nat → Nat → Nat} {ca : Nat → ClassId} {Q : State → Prop} {d0 : Drawn} {x y n g : Nat} {H : Heap} {locs : List Loc} {ls : Array Slot} (hd0 : s.drawn.sameBut d0 lw_cs) (F : lwF p s d0 m c b L xs dC dI ca) (hL : L ≤ 3584) (hn : 7 * n + 7 ≤ L) (hI : lI dC dI ca s.heap x y b n g H locs ls) (kk : ∀ (d1 : Drawn) (g1 : Nat) (H : Heap) (locs : List Loc) (ls : Array Slot), s.drawn.sameBut d1 lw_cs → lI dC dI ca s.heap x y b n g1 H locs ls → W p l e room_1 (s.setDrawn d1) m #[Value.ref b] below meth c H locs (100 + 99 * (n + 1)) (410000 + 5499 * (n + 1) + 16384 * g1) Q (F0 m 1319 ls [])) : W p l e room_1 (s.setDrawn d0) m #[Value.ref b] below meth c H locs (100 + 99 * n) (410000 + 5499 * n + 16384 * g) Q (F0 m 1296 ls []) := by
  obtain ⟨hx, hb, hml, hown, hts, hE, hK, hX, hbl⟩ := F
  obtain ⟨nl, nb, rn, fd, Lf, Cf, Mf, Hf, Sf, qm, qd, lt, gl, gh, lw6, hi6, np, Xf, ws, kd, wK, wM, hk, hm, hP, hD, hS, hl⟩ := hI
  have hA : ∀ q : Nat, s.heap.size ≤ q → (fun q : Nat => s.heap.size ≤ q) q := fun _ h => h
  have hbA : ¬ (fun q : Nat => s.heap.size ≤ q) b := Nat.not_le.mpr hbl
  refine lv_aload_n hx hb dL_law_1296 rfl (lv_at hl 2 rfl) ?_
  refine lv_aload_n hx hb dL_law_1297 rfl (lv_at hl 3 rfl) ?_
  refine lv_iload_n hx hb dL_law_1298 rfl (lv_at hl 0 rfl) ?_
  refine lv_iconst (v := 1) hx hb dL_law_1299 (by decide) ?_
  refine lv_iadd hx hb dL_law_1300 ?_
  refine lv_topi (fun y_ e_ => ?_)
  obtain rfl : y_ = (nI (7 * n + 1)) := e_.trans (nI_add (7 * n) (1))
  refine va_sld hx hb hX hbl hbA hS (vp_in_nI (show 7 * n + 1 < L by omega) (by omega)) dL_law_1301 ?_
  have hgl := kOK_g hk
  obtain ⟨fs, hfs⟩ := kOK_x hk
  obtain ⟨mc_, ms_, d_, hmc, hms, hd_, hMet⟩ := K_left l dC dI ca x g nl nb rn fd Lf Cf Mf Hf Sf qm qd lt gl gh lw6 hi6 np Xf ws kd H.size wK (xs ((nI (7 * n + 1)) : Int32).toNatClampNeg) hk
  have hFc := fr_l hD hS hA
  refine va_calli (va_runV (As := [.int (xs ((nI (7 * n + 1)) : Int32).toNatClampNeg)]) (rest := []) ⟨hx, hb, hml, hown, hts⟩ hMet (⟨callB_of 1 hts (gd mw_872) rfl rfl rfl (hts _ mw_1) (hts _ mw_869) ds_X10_left ⟨Nat.le_of_ble_eq_true rfl, Nat.le_of_ble_eq_true rfl⟩, (hts _ mw_870), (hts _ mw_871)⟩) (pr_V (w_left hP) hK (d_left hD) hE (va_recv hK (w_left hP) (ci := 10) (q0 := 0) rfl hfs)) rfl rfl hl.1 rfl (lv_room (Nat.le_of_ble_eq_true rfl)) dL_law_1302 ⟨by show (100 + 99 * n) + mc_ ≤ 600000; omega, by show (410000 + 5499 * n + 16384 * g) + ms_ ≤ 7302250; omega⟩) hS (fun q _ h => hFc q h) hFc (fun rv_1 u_1 t_ H1 locs ht hvm hw_ hB hz1 hk1 hS => ?_)
  obtain ⟨hP1, hD1⟩ := hB
  rw [ht] at hP1
  obtain ⟨hP, hD⟩ := frm hP hD hk1 hFc hP1 hD1
  generalize H1 = H at hP hS ⊢
  obtain ⟨e_, hk2⟩ := hw_
  obtain rfl : rv_1 = (lfS nl Lf (xs ((nI (7 * n + 1)) : Int32).toNatClampNeg)) := e_
  refine W.widen (k := (100 + 99 * (n + 1))) (n := (410000 + 5499 * (n + 1) + 16384 * (g + d_))) (by omega) (by omega) ?_
  refine lv_aload_n hx hb dL_law_1305 rfl (lv_at hl 1 rfl) ?_
  refine lv_aload_n hx hb dL_law_1306 rfl (lv_at hl 3 rfl) ?_
  refine lv_iload_n hx hb dL_law_1307 rfl (lv_at hl 0 rfl) ?_
  refine lv_iconst (v := 1) hx hb dL_law_1308 (by decide) ?_
  refine lv_iadd hx hb dL_law_1309 ?_
  refine lv_topi (fun y_ e_ => ?_)
  obtain rfl : y_ = (nI (7 * n + 1)) := e_.trans (nI_add (7 * n) (1))
  refine va_sld hx hb hX hbl hbA hS (vp_in_nI (show 7 * n + 1 < L by omega) (by omega)) dL_law_1310 ?_
  have hP := hP.perm List.perm_append_comm
  have hD := hD.perm List.perm_append_comm
  obtain ⟨fs2, hfs2⟩ := mOK_x hm
  have hMet2 := M_left l dC dI ca y nl nb rn fd Lf Cf Mf Hf Sf qm qd lt gl gh lw6 hi6 np Xf ws kd H.size wM (xs ((nI (7 * n + 1)) : Int32).toNatClampNeg) hm
  have hFc := fr_l hD hS hA
  refine va_calli (va_runV (As := [.int (xs ((nI (7 * n + 1)) : Int32).toNatClampNeg)]) (rest := [.int (lfS nl Lf (xs ((nI (7 * n + 1)) : Int32).toNatClampNeg))]) ⟨hx, hb, hml, hown, hts⟩ hMet2 (⟨callB_of 1 hts (gd mw_1300) rfl rfl rfl (hts _ mw_8) (hts _ mw_1297) ds_X11_left ⟨Nat.le_of_ble_eq_true rfl, Nat.le_of_ble_eq_true rfl⟩, (hts _ mw_1298), (hts _ mw_1299)⟩) (pr_V (w_left hP) hK (d_left hD) hE (va_recv hK (w_left hP) (ci := 11) (q0 := 0) rfl hfs2)) rfl rfl hl.1 rfl (lv_room (Nat.le_of_ble_eq_true rfl)) dL_law_1311 ⟨by show (100 + 99 * (n + 1)) + 0 ≤ 600000; omega, by show (410000 + 5499 * (n + 1) + 16384 * (g + d_)) + 0 ≤ 7302250; omega⟩) hS (fun q _ h => hFc q h) hFc (fun rv_2 u_2 t_ H1 locs ht hvm hw_ hB hz1 hk1 hS => ?_)
  obtain ⟨hP1, hD1⟩ := hB
  rw [ht] at hP1
  obtain ⟨hP, hD⟩ := frm hP hD hk1 hFc hP1 hD1
  generalize H1 = H at hP hS ⊢
  obtain ⟨e_, hm2⟩ := hw_
  obtain rfl : rv_2 = (lfS nl Lf (xs ((nI (7 * n + 1)) : Int32).toNatClampNeg)) := e_
  have hP := hP.perm List.perm_append_comm
  have hD := hD.perm List.perm_append_comm
  refine lv_icmp_eq (tgt := 1319) hx hb dL_law_1314 (by decide) (fun c_ => ?_) (fun c_ => absurd rfl c_)
  exact kk d0 (g + d_) _ _ _ hd0 ⟨_, _, _, _, _, _, _, _, _, _, _, _, _, _, _, _, _, _, _, _, u_1, u_2, hk2, hm2, hP, hD, hS, hl⟩
