set_option maxHeartbeats 4000000 in
set_option maxRecDepth 100000 in
theorem lc_0 {p : Program} {e : Env} {s : State} {m : MethodId} {below : List Frame} {meth : Method} {c : Code} (l : Launch) {b L : Nat} {xs : Nat → Int32} {dC : Nat → ClassId} {dI : Nat → Nat → Nat} {ca : Nat → ClassId} {Q : State → Prop} {d0 : Drawn} {x y n g : Nat} {H : Heap} {locs : List Loc} {ls : Array Slot} (hd0 : s.drawn.sameBut d0 lw_cs) (F : lwF p s d0 m c b L xs dC dI ca) (hL : L ≤ 3584) (hn : 7 * n + 7 ≤ L) (hI : lI dC dI ca s.heap x y b n g H locs ls) (kk : ∀ (d1 : Drawn) (g1 : Nat) (H : Heap) (locs : List Loc) (ls : Array Slot), s.drawn.sameBut d1 lw_cs → lI dC dI ca s.heap x y b n g1 H locs ls → W p l e room_1 (s.setDrawn d1) m #[Value.ref b] below meth c H locs (100 + 99 * (n + 1)) (410000 + 5499 * (n + 1) + 16384 * g1) Q (F0 m 1319 ls [])) : W p l e room_1 (s.setDrawn d0) m #[Value.ref b] below meth c H locs (100 + 99 * n) (410000 + 5499 * n + 16384 * g) Q (F0 m 172 ls []) := by
  obtain ⟨hx, hb, hml, hown, hts, hE, hK, hX, hbl⟩ := F
  obtain ⟨nl, nb, rn, fd, Lf, Cf, Mf, Hf, Sf, qm, qd, lt, gl, gh, lw6, hi6, np, Xf, ws, kd, wK, wM, hk, hm, hP, hD, hS, hl⟩ := hI
  have hA : ∀ q : Nat, s.heap.size ≤ q → (fun q : Nat => s.heap.size ≤ q) q := fun _ h => h
  have hbA : ¬ (fun q : Nat => s.heap.size ≤ q) b := Nat.not_le.mpr hbl
  refine lv_aload_n hx hb dL_law_172 rfl (lv_at hl 2 rfl) ?_
  refine lv_aload_n hx hb dL_law_173 rfl (lv_at hl 3 rfl) ?_
  refine lv_iload_n hx hb dL_law_174 rfl (lv_at hl 0 rfl) ?_
  refine lv_iconst (v := 1) hx hb dL_law_175 (by decide) ?_
  refine lv_iadd hx hb dL_law_176 ?_
  refine lv_topi (fun y_ e_ => ?_)
  obtain rfl : y_ = (nI (7 * n + 1)) := e_.trans (nI_add (7 * n) (1))
  refine va_sld hx hb hX hbl hbA hS (vp_in_nI (show 7 * n + 1 < L by omega) (by omega)) dL_law_177 ?_
  refine lv_aload_n hx hb dL_law_178 rfl (lv_at hl 3 rfl) ?_
  refine lv_iload_n hx hb dL_law_179 rfl (lv_at hl 0 rfl) ?_
  refine lv_iconst (v := 2) hx hb dL_law_180 (by decide) ?_
  refine lv_iadd hx hb dL_law_181 ?_
  refine lv_topi (fun y_ e_ => ?_)
  obtain rfl : y_ = (nI (7 * n + 2)) := e_.trans (nI_add (7 * n) (2))
  refine va_sld hx hb hX hbl hbA hS (vp_in_nI (show 7 * n + 2 < L by omega) (by omega)) dL_law_182 ?_
  have hgl := kOK_g hk
  obtain ⟨fs, hfs⟩ := kOK_x hk
  obtain ⟨mc_, ms_, d_, hmc, hms, hd_, hMet⟩ := K_lot l dC dI ca x g nl nb rn fd Lf Cf Mf Hf Sf qm qd lt gl gh lw6 hi6 np Xf ws kd H.size wK (xs ((nI (7 * n + 1)) : Int32).toNatClampNeg) (xs ((nI (7 * n + 2)) : Int32).toNatClampNeg) hk
  have hFc := fr_l hD hS hA
  refine va_calli (va_runV (As := [.int (xs ((nI (7 * n + 1)) : Int32).toNatClampNeg), .int (xs ((nI (7 * n + 2)) : Int32).toNatClampNeg)]) (rest := []) ⟨hx, hb, hml, hown, hts⟩ hMet (⟨callB_of 2 hts (gd mw_250) rfl rfl rfl (hts _ mw_1) (hts _ mw_247) ds_X10_lot ⟨Nat.le_of_ble_eq_true rfl, Nat.le_of_ble_eq_true rfl⟩, (hts _ mw_248), (hts _ mw_249)⟩) (pr_V (w_left hP) hK (d_left hD) hE (va_recv hK (w_left hP) (ci := 10) (q0 := 0) rfl hfs)) rfl rfl hl.1 rfl (lv_room (Nat.le_of_ble_eq_true rfl)) dL_law_183 ⟨by show (100 + 99 * n) + mc_ ≤ 600000; omega, by show (410000 + 5499 * n + 16384 * g) + ms_ ≤ 7302250; omega⟩) hS (fun q _ h => hFc q h) hFc (fun rv_1 u_1 t_ H1 locs ht hvm hw_ hB hz1 hk1 hS => ?_)
  obtain ⟨hP1, hD1⟩ := hB
  rw [ht] at hP1
  obtain ⟨hP, hD⟩ := frm hP hD hk1 hFc hP1 hD1
  generalize H1 = H at hP hS ⊢
  obtain ⟨e_, hk2⟩ := hw_
  obtain rfl : rv_1 = (spL nl (xs ((nI (7 * n + 1)) : Int32).toNatClampNeg) (xs ((nI (7 * n + 2)) : Int32).toNatClampNeg)) := e_
  refine W.widen (k := (100 + 99 * (n + 1))) (n := (410000 + 5499 * (n + 1) + 16384 * (g + d_))) (by omega) (by omega) ?_
  refine lv_pop hx hb dL_law_186 rfl ?_
  refine lv_aload_n hx hb dL_law_187 rfl (lv_at hl 1 rfl) ?_
  refine lv_aload_n hx hb dL_law_188 rfl (lv_at hl 3 rfl) ?_
  refine lv_iload_n hx hb dL_law_189 rfl (lv_at hl 0 rfl) ?_
  refine lv_iconst (v := 1) hx hb dL_law_190 (by decide) ?_
  refine lv_iadd hx hb dL_law_191 ?_
  refine lv_topi (fun y_ e_ => ?_)
  obtain rfl : y_ = (nI (7 * n + 1)) := e_.trans (nI_add (7 * n) (1))
  refine va_sld hx hb hX hbl hbA hS (vp_in_nI (show 7 * n + 1 < L by omega) (by omega)) dL_law_192 ?_
  refine lv_aload_n hx hb dL_law_193 rfl (lv_at hl 3 rfl) ?_
  refine lv_iload_n hx hb dL_law_194 rfl (lv_at hl 0 rfl) ?_
  refine lv_iconst (v := 2) hx hb dL_law_195 (by decide) ?_
  refine lv_iadd hx hb dL_law_196 ?_
  refine lv_topi (fun y_ e_ => ?_)
  obtain rfl : y_ = (nI (7 * n + 2)) := e_.trans (nI_add (7 * n) (2))
  refine va_sld hx hb hX hbl hbA hS (vp_in_nI (show 7 * n + 2 < L by omega) (by omega)) dL_law_197 ?_
  have hP := hP.perm List.perm_append_comm
  have hD := hD.perm List.perm_append_comm
  obtain ⟨fs2, hfs2⟩ := mOK_x hm
  have hMet2 := M_lot l dC dI ca y nl nb rn fd Lf Cf Mf Hf Sf qm qd lt gl gh lw6 hi6 np Xf ws kd H.size wM (xs ((nI (7 * n + 1)) : Int32).toNatClampNeg) (xs ((nI (7 * n + 2)) : Int32).toNatClampNeg) hm
  have hFc := fr_l hD hS hA
  refine va_calli (va_runV (As := [.int (xs ((nI (7 * n + 1)) : Int32).toNatClampNeg), .int (xs ((nI (7 * n + 2)) : Int32).toNatClampNeg)]) (rest := []) ⟨hx, hb, hml, hown, hts⟩ hMet2 (⟨callB_of 2 hts (gd mw_1053) rfl rfl rfl (hts _ mw_8) (hts _ mw_1050) ds_X11_lot ⟨Nat.le_of_ble_eq_true rfl, Nat.le_of_ble_eq_true rfl⟩, (hts _ mw_1051), (hts _ mw_1052)⟩) (pr_V (w_left hP) hK (d_left hD) hE (va_recv hK (w_left hP) (ci := 11) (q0 := 0) rfl hfs2)) rfl rfl hl.1 rfl (lv_room (Nat.le_of_ble_eq_true rfl)) dL_law_198 ⟨by show (100 + 99 * (n + 1)) + 0 ≤ 600000; omega, by show (410000 + 5499 * (n + 1) + 16384 * (g + d_)) + 0 ≤ 7302250; omega⟩) hS (fun q _ h => hFc q h) hFc (fun rv_2 u_2 t_ H1 locs ht hvm hw_ hB hz1 hk1 hS => ?_)
  obtain ⟨hP1, hD1⟩ := hB
  rw [ht] at hP1
  obtain ⟨hP, hD⟩ := frm hP hD hk1 hFc hP1 hD1
  generalize H1 = H at hP hS ⊢
  obtain ⟨e_, hm2⟩ := hw_
  obtain rfl : rv_2 = (spL nl (xs ((nI (7 * n + 1)) : Int32).toNatClampNeg) (xs ((nI (7 * n + 2)) : Int32).toNatClampNeg)) := e_
  have hP := hP.perm List.perm_append_comm
  have hD := hD.perm List.perm_append_comm
  refine lv_pop hx hb dL_law_201 rfl ?_
  refine lv_goto (tgt := 1319) hx hb dL_law_202 (by decide) ?_
  exact kk d0 (g + d_) _ _ _ hd0 ⟨_, _, _, _, _, _, _, _, _, _, _, _, _, _, _, _, _, _, _, _, u_1, u_2, hk2, hm2, hP, hD, hS, hl⟩

set_option maxHeartbeats 4000000 in
set_option maxRecDepth 100000 in
theorem lc_1 {p : Program} {e : Env} {s : State} {m : MethodId} {below : List Frame} {meth : Method} {c : Code} (l : Launch) {b L : Nat} {xs : Nat → Int32} {dC : Nat → ClassId} {dI : Nat → Nat → Nat} {ca : Nat → ClassId} {Q : State → Prop} {d0 : Drawn} {x y n g : Nat} {H : Heap} {locs : List Loc} {ls : Array Slot} (hd0 : s.drawn.sameBut d0 lw_cs) (F : lwF p s d0 m c b L xs dC dI ca) (hL : L ≤ 3584) (hn : 7 * n + 7 ≤ L) (hI : lI dC dI ca s.heap x y b n g H locs ls) (kk : ∀ (d1 : Drawn) (g1 : Nat) (H : Heap) (locs : List Loc) (ls : Array Slot), s.drawn.sameBut d1 lw_cs → lI dC dI ca s.heap x y b n g1 H locs ls → W p l e room_1 (s.setDrawn d1) m #[Value.ref b] below meth c H locs (100 + 99 * (n + 1)) (410000 + 5499 * (n + 1) + 16384 * g1) Q (F0 m 1319 ls [])) : W p l e room_1 (s.setDrawn d0) m #[Value.ref b] below meth c H locs (100 + 99 * n) (410000 + 5499 * n + 16384 * g) Q (F0 m 205 ls []) := by
  obtain ⟨hx, hb, hml, hown, hts, hE, hK, hX, hbl⟩ := F
  obtain ⟨nl, nb, rn, fd, Lf, Cf, Mf, Hf, Sf, qm, qd, lt, gl, gh, lw6, hi6, np, Xf, ws, kd, wK, wM, hk, hm, hP, hD, hS, hl⟩ := hI
  have hA : ∀ q : Nat, s.heap.size ≤ q → (fun q : Nat => s.heap.size ≤ q) q := fun _ h => h
  have hbA : ¬ (fun q : Nat => s.heap.size ≤ q) b := Nat.not_le.mpr hbl
  refine lv_aload_n hx hb dL_law_205 rfl (lv_at hl 2 rfl) ?_
  refine lv_aload_n hx hb dL_law_206 rfl (lv_at hl 3 rfl) ?_
  refine lv_iload_n hx hb dL_law_207 rfl (lv_at hl 0 rfl) ?_
  refine lv_iconst (v := 1) hx hb dL_law_208 (by decide) ?_
  refine lv_iadd hx hb dL_law_209 ?_
  refine lv_topi (fun y_ e_ => ?_)
  obtain rfl : y_ = (nI (7 * n + 1)) := e_.trans (nI_add (7 * n) (1))
  refine va_sld hx hb hX hbl hbA hS (vp_in_nI (show 7 * n + 1 < L by omega) (by omega)) dL_law_210 ?_
  have hgl := kOK_g hk
  obtain ⟨fs, hfs⟩ := kOK_x hk
  obtain ⟨mc_, ms_, d_, hmc, hms, hd_, hMet⟩ := K_batch l dC dI ca x g nl nb rn fd Lf Cf Mf Hf Sf qm qd lt gl gh lw6 hi6 np Xf ws kd H.size wK (xs ((nI (7 * n + 1)) : Int32).toNatClampNeg) hk
  have hFc := fr_l hD hS hA
  refine va_calli (va_runV (As := [.int (xs ((nI (7 * n + 1)) : Int32).toNatClampNeg)]) (rest := []) ⟨hx, hb, hml, hown, hts⟩ hMet (⟨callB_of 1 hts (gd mw_272) rfl rfl rfl (hts _ mw_1) (hts _ mw_269) ds_X10_batch ⟨Nat.le_of_ble_eq_true rfl, Nat.le_of_ble_eq_true rfl⟩, (hts _ mw_270), (hts _ mw_271)⟩) (pr_V (w_left hP) hK (d_left hD) hE (va_recv hK (w_left hP) (ci := 10) (q0 := 0) rfl hfs)) rfl rfl hl.1 rfl (lv_room (Nat.le_of_ble_eq_true rfl)) dL_law_211 ⟨by show (100 + 99 * n) + mc_ ≤ 600000; omega, by show (410000 + 5499 * n + 16384 * g) + ms_ ≤ 7302250; omega⟩) hS (fun q _ h => hFc q h) hFc (fun rv_1 u_1 t_ H1 locs ht hvm hw_ hB hz1 hk1 hS => ?_)
  obtain ⟨hP1, hD1⟩ := hB
  rw [ht] at hP1
  obtain ⟨hP, hD⟩ := frm hP hD hk1 hFc hP1 hD1
  generalize H1 = H at hP hS ⊢
  obtain ⟨e_, hk2⟩ := hw_
  obtain rfl : rv_1 = (spB nb (xs ((nI (7 * n + 1)) : Int32).toNatClampNeg)) := e_
  refine W.widen (k := (100 + 99 * (n + 1))) (n := (410000 + 5499 * (n + 1) + 16384 * (g + d_))) (by omega) (by omega) ?_
  refine lv_pop hx hb dL_law_214 rfl ?_
  refine lv_aload_n hx hb dL_law_215 rfl (lv_at hl 1 rfl) ?_
  refine lv_aload_n hx hb dL_law_216 rfl (lv_at hl 3 rfl) ?_
  refine lv_iload_n hx hb dL_law_217 rfl (lv_at hl 0 rfl) ?_
  refine lv_iconst (v := 1) hx hb dL_law_218 (by decide) ?_
  refine lv_iadd hx hb dL_law_219 ?_
  refine lv_topi (fun y_ e_ => ?_)
  obtain rfl : y_ = (nI (7 * n + 1)) := e_.trans (nI_add (7 * n) (1))
  refine va_sld hx hb hX hbl hbA hS (vp_in_nI (show 7 * n + 1 < L by omega) (by omega)) dL_law_220 ?_
  have hP := hP.perm List.perm_append_comm
  have hD := hD.perm List.perm_append_comm
  obtain ⟨fs2, hfs2⟩ := mOK_x hm
  have hMet2 := M_batch l dC dI ca y nl nb rn fd Lf Cf Mf Hf Sf qm qd lt gl gh lw6 hi6 np Xf ws kd H.size wM (xs ((nI (7 * n + 1)) : Int32).toNatClampNeg) hm
  have hFc := fr_l hD hS hA
  refine va_calli (va_runV (As := [.int (xs ((nI (7 * n + 1)) : Int32).toNatClampNeg)]) (rest := []) ⟨hx, hb, hml, hown, hts⟩ hMet2 (⟨callB_of 1 hts (gd mw_1061) rfl rfl rfl (hts _ mw_8) (hts _ mw_1058) ds_X11_batch ⟨Nat.le_of_ble_eq_true rfl, Nat.le_of_ble_eq_true rfl⟩, (hts _ mw_1059), (hts _ mw_1060)⟩) (pr_V (w_left hP) hK (d_left hD) hE (va_recv hK (w_left hP) (ci := 11) (q0 := 0) rfl hfs2)) rfl rfl hl.1 rfl (lv_room (Nat.le_of_ble_eq_true rfl)) dL_law_221 ⟨by show (100 + 99 * (n + 1)) + 0 ≤ 600000; omega, by show (410000 + 5499 * (n + 1) + 16384 * (g + d_)) + 0 ≤ 7302250; omega⟩) hS (fun q _ h => hFc q h) hFc (fun rv_2 u_2 t_ H1 locs ht hvm hw_ hB hz1 hk1 hS => ?_)
  obtain ⟨hP1, hD1⟩ := hB
  rw [ht] at hP1
  obtain ⟨hP, hD⟩ := frm hP hD hk1 hFc hP1 hD1
  generalize H1 = H at hP hS ⊢
  obtain ⟨e_, hm2⟩ := hw_
  obtain rfl : rv_2 = (spB nb (xs ((nI (7 * n + 1)) : Int32).toNatClampNeg)) := e_
  have hP := hP.perm List.perm_append_comm
  have hD := hD.perm List.perm_append_comm
  refine lv_pop hx hb dL_law_224 rfl ?_
  refine lv_goto (tgt := 1319) hx hb dL_law_225 (by decide) ?_
  exact kk d0 (g + d_) _ _ _ hd0 ⟨_, _, _, _, _, _, _, _, _, _, _, _, _, _, _, _, _, _, _, _, u_1, u_2, hk2, hm2, hP, hD, hS, hl⟩

set_option maxHeartbeats 4000000 in
set_option maxRecDepth 100000 in
theorem lc_2 {p : Program} {e : Env} {s : State} {m : MethodId} {below : List Frame} {meth : Method} {c : Code} (l : Launch) {b L : Nat} {xs : Nat → Int32} {dC : Nat → ClassId} {dI : Nat → Nat → Nat} {ca : Nat → ClassId} {Q : State → Prop} {d0 : Drawn} {x y n g : Nat} {H : Heap} {locs : List Loc} {ls : Array Slot} (hd0 : s.drawn.sameBut d0 lw_cs) (F : lwF p s d0 m c b L xs dC dI ca) (hL : L ≤ 3584) (hn : 7 * n + 7 ≤ L) (hI : lI dC dI ca s.heap x y b n g H locs ls) (kk : ∀ (d1 : Drawn) (g1 : Nat) (H : Heap) (locs : List Loc) (ls : Array Slot), s.drawn.sameBut d1 lw_cs → lI dC dI ca s.heap x y b n g1 H locs ls → W p l e room_1 (s.setDrawn d1) m #[Value.ref b] below meth c H locs (100 + 99 * (n + 1)) (410000 + 5499 * (n + 1) + 16384 * g1) Q (F0 m 1319 ls [])) : W p l e room_1 (s.setDrawn d0) m #[Value.ref b] below meth c H locs (100 + 99 * n) (410000 + 5499 * n + 16384 * g) Q (F0 m 228 ls []) := by
  obtain ⟨hx, hb, hml, hown, hts, hE, hK, hX, hbl⟩ := F
  obtain ⟨nl, nb, rn, fd, Lf, Cf, Mf, Hf, Sf, qm, qd, lt, gl, gh, lw6, hi6, np, Xf, ws, kd, wK, wM, hk, hm, hP, hD, hS, hl⟩ := hI
  have hA : ∀ q : Nat, s.heap.size ≤ q → (fun q : Nat => s.heap.size ≤ q) q := fun _ h => h
  have hbA : ¬ (fun q : Nat => s.heap.size ≤ q) b := Nat.not_le.mpr hbl
  refine lv_aload_n hx hb dL_law_228 rfl (lv_at hl 2 rfl) ?_
  refine lv_aload_n hx hb dL_law_229 rfl (lv_at hl 3 rfl) ?_
  refine lv_iload_n hx hb dL_law_230 rfl (lv_at hl 0 rfl) ?_
  refine lv_iconst (v := 1) hx hb dL_law_231 (by decide) ?_
  refine lv_iadd hx hb dL_law_232 ?_
  refine lv_topi (fun y_ e_ => ?_)
  obtain rfl : y_ = (nI (7 * n + 1)) := e_.trans (nI_add (7 * n) (1))
  refine va_sld hx hb hX hbl hbA hS (vp_in_nI (show 7 * n + 1 < L by omega) (by omega)) dL_law_233 ?_
  refine lv_aload_n hx hb dL_law_234 rfl (lv_at hl 3 rfl) ?_
  refine lv_iload_n hx hb dL_law_235 rfl (lv_at hl 0 rfl) ?_
  refine lv_iconst (v := 2) hx hb dL_law_236 (by decide) ?_
  refine lv_iadd hx hb dL_law_237 ?_
  refine lv_topi (fun y_ e_ => ?_)
  obtain rfl : y_ = (nI (7 * n + 2)) := e_.trans (nI_add (7 * n) (2))
  refine va_sld hx hb hX hbl hbA hS (vp_in_nI (show 7 * n + 2 < L by omega) (by omega)) dL_law_238 ?_
  refine lv_aload_n hx hb dL_law_239 rfl (lv_at hl 3 rfl) ?_
  refine lv_iload_n hx hb dL_law_240 rfl (lv_at hl 0 rfl) ?_
  refine lv_iconst (v := 3) hx hb dL_law_241 (by decide) ?_
  refine lv_iadd hx hb dL_law_242 ?_
  refine lv_topi (fun y_ e_ => ?_)
  obtain rfl : y_ = (nI (7 * n + 3)) := e_.trans (nI_add (7 * n) (3))
  refine va_sld hx hb hX hbl hbA hS (vp_in_nI (show 7 * n + 3 < L by omega) (by omega)) dL_law_243 ?_
  have hgl := kOK_g hk
  obtain ⟨fs, hfs⟩ := kOK_x hk
  obtain ⟨mc_, ms_, d_, hmc, hms, hd_, hMet⟩ := K_put l dC dI ca x g nl nb rn fd Lf Cf Mf Hf Sf qm qd lt gl gh lw6 hi6 np Xf ws kd H.size wK (xs ((nI (7 * n + 1)) : Int32).toNatClampNeg) (xs ((nI (7 * n + 2)) : Int32).toNatClampNeg) (xs ((nI (7 * n + 3)) : Int32).toNatClampNeg) hk
  have hFc := fr_l hD hS hA
  refine va_calli (va_runV (As := [.int (xs ((nI (7 * n + 1)) : Int32).toNatClampNeg), .int (xs ((nI (7 * n + 2)) : Int32).toNatClampNeg), .int (xs ((nI (7 * n + 3)) : Int32).toNatClampNeg)]) (rest := []) ⟨hx, hb, hml, hown, hts⟩ hMet (⟨callB_of 3 hts (gd mw_370) rfl rfl rfl (hts _ mw_1) (hts _ mw_367) ds_X10_put ⟨Nat.le_of_ble_eq_true rfl, Nat.le_of_ble_eq_true rfl⟩, (hts _ mw_368), (hts _ mw_369)⟩) (pr_V (w_left hP) hK (d_left hD) hE (va_recv hK (w_left hP) (ci := 10) (q0 := 0) rfl hfs)) rfl rfl hl.1 rfl (lv_room (Nat.le_of_ble_eq_true rfl)) dL_law_244 ⟨by show (100 + 99 * n) + mc_ ≤ 600000; omega, by show (410000 + 5499 * n + 16384 * g) + ms_ ≤ 7302250; omega⟩) hS (fun q _ h => hFc q h) hFc (fun rv_1 u_1 t_ H1 locs ht hvm hw_ hB hz1 hk1 hS => ?_)
  obtain ⟨hP1, hD1⟩ := hB
  rw [ht] at hP1
  obtain ⟨hP, hD⟩ := frm hP hD hk1 hFc hP1 hD1
  generalize H1 = H at hP hS ⊢
  obtain ⟨e_, hk2⟩ := hw_
  obtain rfl : rv_1 = (if putC nl nb Lf Cf (xs ((nI (7 * n + 1)) : Int32).toNatClampNeg) (xs ((nI (7 * n + 2)) : Int32).toNatClampNeg) (xs ((nI (7 * n + 3)) : Int32).toNatClampNeg) = true then Mf ((xs ((nI (7 * n + 1)) : Int32).toNatClampNeg) : Int32).toNatClampNeg + (xs ((nI (7 * n + 3)) : Int32).toNatClampNeg) else -1) := e_
  refine W.widen (k := (100 + 99 * (n + 1))) (n := (410000 + 5499 * (n + 1) + 16384 * (g + d_))) (by omega) (by omega) ?_
  refine lv_pop hx hb dL_law_247 rfl ?_
  refine lv_aload_n hx hb dL_law_248 rfl (lv_at hl 1 rfl) ?_
  refine lv_aload_n hx hb dL_law_249 rfl (lv_at hl 3 rfl) ?_
  refine lv_iload_n hx hb dL_law_250 rfl (lv_at hl 0 rfl) ?_
  refine lv_iconst (v := 1) hx hb dL_law_251 (by decide) ?_
  refine lv_iadd hx hb dL_law_252 ?_
  refine lv_topi (fun y_ e_ => ?_)
  obtain rfl : y_ = (nI (7 * n + 1)) := e_.trans (nI_add (7 * n) (1))
  refine va_sld hx hb hX hbl hbA hS (vp_in_nI (show 7 * n + 1 < L by omega) (by omega)) dL_law_253 ?_
  refine lv_aload_n hx hb dL_law_254 rfl (lv_at hl 3 rfl) ?_
  refine lv_iload_n hx hb dL_law_255 rfl (lv_at hl 0 rfl) ?_
  refine lv_iconst (v := 2) hx hb dL_law_256 (by decide) ?_
  refine lv_iadd hx hb dL_law_257 ?_
  refine lv_topi (fun y_ e_ => ?_)
  obtain rfl : y_ = (nI (7 * n + 2)) := e_.trans (nI_add (7 * n) (2))
  refine va_sld hx hb hX hbl hbA hS (vp_in_nI (show 7 * n + 2 < L by omega) (by omega)) dL_law_258 ?_
  refine lv_aload_n hx hb dL_law_259 rfl (lv_at hl 3 rfl) ?_
  refine lv_iload_n hx hb dL_law_260 rfl (lv_at hl 0 rfl) ?_
  refine lv_iconst (v := 3) hx hb dL_law_261 (by decide) ?_
  refine lv_iadd hx hb dL_law_262 ?_
  refine lv_topi (fun y_ e_ => ?_)
  obtain rfl : y_ = (nI (7 * n + 3)) := e_.trans (nI_add (7 * n) (3))
  refine va_sld hx hb hX hbl hbA hS (vp_in_nI (show 7 * n + 3 < L by omega) (by omega)) dL_law_263 ?_
  have hP := hP.perm List.perm_append_comm
  have hD := hD.perm List.perm_append_comm
  obtain ⟨fs2, hfs2⟩ := mOK_x hm
  have hMet2 := M_put l dC dI ca y nl nb rn fd Lf Cf Mf Hf Sf qm qd lt gl gh lw6 hi6 np Xf ws kd H.size wM (xs ((nI (7 * n + 1)) : Int32).toNatClampNeg) (xs ((nI (7 * n + 2)) : Int32).toNatClampNeg) (xs ((nI (7 * n + 3)) : Int32).toNatClampNeg) hm
  have hFc := fr_l hD hS hA
  refine va_calli (va_runV (As := [.int (xs ((nI (7 * n + 1)) : Int32).toNatClampNeg), .int (xs ((nI (7 * n + 2)) : Int32).toNatClampNeg), .int (xs ((nI (7 * n + 3)) : Int32).toNatClampNeg)]) (rest := []) ⟨hx, hb, hml, hown, hts⟩ hMet2 (⟨callB_of 3 hts (gd mw_1066) rfl rfl rfl (hts _ mw_8) (hts _ mw_1063) ds_X11_put ⟨Nat.le_of_ble_eq_true rfl, Nat.le_of_ble_eq_true rfl⟩, (hts _ mw_1064), (hts _ mw_1065)⟩) (pr_V (w_left hP) hK (d_left hD) hE (va_recv hK (w_left hP) (ci := 11) (q0 := 0) rfl hfs2)) rfl rfl hl.1 rfl (lv_room (Nat.le_of_ble_eq_true rfl)) dL_law_264 ⟨by show (100 + 99 * (n + 1)) + 0 ≤ 600000; omega, by show (410000 + 5499 * (n + 1) + 16384 * (g + d_)) + 0 ≤ 7302250; omega⟩) hS (fun q _ h => hFc q h) hFc (fun rv_2 u_2 t_ H1 locs ht hvm hw_ hB hz1 hk1 hS => ?_)
  obtain ⟨hP1, hD1⟩ := hB
  rw [ht] at hP1
  obtain ⟨hP, hD⟩ := frm hP hD hk1 hFc hP1 hD1
  generalize H1 = H at hP hS ⊢
  obtain ⟨e_, hm2⟩ := hw_
  obtain rfl : rv_2 = (if putC nl nb Lf Cf (xs ((nI (7 * n + 1)) : Int32).toNatClampNeg) (xs ((nI (7 * n + 2)) : Int32).toNatClampNeg) (xs ((nI (7 * n + 3)) : Int32).toNatClampNeg) = true then Mf ((xs ((nI (7 * n + 1)) : Int32).toNatClampNeg) : Int32).toNatClampNeg + (xs ((nI (7 * n + 3)) : Int32).toNatClampNeg) else -1) := e_
  have hP := hP.perm List.perm_append_comm
  have hD := hD.perm List.perm_append_comm
  refine lv_pop hx hb dL_law_267 rfl ?_
  refine lv_goto (tgt := 1319) hx hb dL_law_268 (by decide) ?_
  exact kk d0 (g + d_) _ _ _ hd0 ⟨_, _, _, _, _, _, _, _, _, _, _, _, _, _, _, _, _, _, _, _, u_1, u_2, hk2, hm2, hP, hD, hS, hl⟩

set_option maxHeartbeats 4000000 in
set_option maxRecDepth 100000 in
theorem lc_3 {p : Program} {e : Env} {s : State} {m : MethodId} {below : List Frame} {meth : Method} {c : Code} (l : Launch) {b L : Nat} {xs : Nat → Int32} {dC : Nat → ClassId} {dI : Nat → Nat → Nat} {ca : Nat → ClassId} {Q : State → Prop} {d0 : Drawn} {x y n g : Nat} {H : Heap} {locs : List Loc} {ls : Array Slot} (hd0 : s.drawn.sameBut d0 lw_cs) (F : lwF p s d0 m c b L xs dC dI ca) (hL : L ≤ 3584) (hn : 7 * n + 7 ≤ L) (hI : lI dC dI ca s.heap x y b n g H locs ls) (kk : ∀ (d1 : Drawn) (g1 : Nat) (H : Heap) (locs : List Loc) (ls : Array Slot), s.drawn.sameBut d1 lw_cs → lI dC dI ca s.heap x y b n g1 H locs ls → W p l e room_1 (s.setDrawn d1) m #[Value.ref b] below meth c H locs (100 + 99 * (n + 1)) (410000 + 5499 * (n + 1) + 16384 * g1) Q (F0 m 1319 ls [])) : W p l e room_1 (s.setDrawn d0) m #[Value.ref b] below meth c H locs (100 + 99 * n) (410000 + 5499 * n + 16384 * g) Q (F0 m 271 ls []) := by
  obtain ⟨hx, hb, hml, hown, hts, hE, hK, hX, hbl⟩ := F
  obtain ⟨nl, nb, rn, fd, Lf, Cf, Mf, Hf, Sf, qm, qd, lt, gl, gh, lw6, hi6, np, Xf, ws, kd, wK, wM, hk, hm, hP, hD, hS, hl⟩ := hI
  have hA : ∀ q : Nat, s.heap.size ≤ q → (fun q : Nat => s.heap.size ≤ q) q := fun _ h => h
  have hbA : ¬ (fun q : Nat => s.heap.size ≤ q) b := Nat.not_le.mpr hbl
  refine lv_aload_n hx hb dL_law_271 rfl (lv_at hl 2 rfl) ?_
  refine lv_aload_n hx hb dL_law_272 rfl (lv_at hl 3 rfl) ?_
  refine lv_iload_n hx hb dL_law_273 rfl (lv_at hl 0 rfl) ?_
  refine lv_iconst (v := 1) hx hb dL_law_274 (by decide) ?_
  refine lv_iadd hx hb dL_law_275 ?_
  refine lv_topi (fun y_ e_ => ?_)
  obtain rfl : y_ = (nI (7 * n + 1)) := e_.trans (nI_add (7 * n) (1))
  refine va_sld hx hb hX hbl hbA hS (vp_in_nI (show 7 * n + 1 < L by omega) (by omega)) dL_law_276 ?_
  refine lv_aload_n hx hb dL_law_277 rfl (lv_at hl 3 rfl) ?_
  refine lv_iload_n hx hb dL_law_278 rfl (lv_at hl 0 rfl) ?_
  refine lv_iconst (v := 2) hx hb dL_law_279 (by decide) ?_
  refine lv_iadd hx hb dL_law_280 ?_
  refine lv_topi (fun y_ e_ => ?_)
  obtain rfl : y_ = (nI (7 * n + 2)) := e_.trans (nI_add (7 * n) (2))
  refine va_sld hx hb hX hbl hbA hS (vp_in_nI (show 7 * n + 2 < L by omega) (by omega)) dL_law_281 ?_
  refine lv_aload_n hx hb dL_law_282 rfl (lv_at hl 3 rfl) ?_
  refine lv_iload_n hx hb dL_law_283 rfl (lv_at hl 0 rfl) ?_
  refine lv_iconst (v := 3) hx hb dL_law_284 (by decide) ?_
  refine lv_iadd hx hb dL_law_285 ?_
  refine lv_topi (fun y_ e_ => ?_)
  obtain rfl : y_ = (nI (7 * n + 3)) := e_.trans (nI_add (7 * n) (3))
  refine va_sld hx hb hX hbl hbA hS (vp_in_nI (show 7 * n + 3 < L by omega) (by omega)) dL_law_286 ?_
  have hgl := kOK_g hk
  obtain ⟨fs, hfs⟩ := kOK_x hk
  obtain ⟨mc_, ms_, d_, hmc, hms, hd_, hMet⟩ := K_row l dC dI ca x g nl nb rn fd Lf Cf Mf Hf Sf qm qd lt gl gh lw6 hi6 np Xf ws kd H.size wK (xs ((nI (7 * n + 1)) : Int32).toNatClampNeg) (xs ((nI (7 * n + 2)) : Int32).toNatClampNeg) (xs ((nI (7 * n + 3)) : Int32).toNatClampNeg) hk
  have hFc := fr_l hD hS hA
  refine va_calli (va_runV (As := [.int (xs ((nI (7 * n + 1)) : Int32).toNatClampNeg), .int (xs ((nI (7 * n + 2)) : Int32).toNatClampNeg), .int (xs ((nI (7 * n + 3)) : Int32).toNatClampNeg)]) (rest := []) ⟨hx, hb, hml, hown, hts⟩ hMet (⟨callB_of 3 hts (gd mw_386) rfl rfl rfl (hts _ mw_1) (hts _ mw_383) ds_X10_row ⟨Nat.le_of_ble_eq_true rfl, Nat.le_of_ble_eq_true rfl⟩, (hts _ mw_384), (hts _ mw_385)⟩) (pr_V (w_left hP) hK (d_left hD) hE (va_recv hK (w_left hP) (ci := 10) (q0 := 0) rfl hfs)) rfl rfl hl.1 rfl (lv_room (Nat.le_of_ble_eq_true rfl)) dL_law_287 ⟨by show (100 + 99 * n) + mc_ ≤ 600000; omega, by show (410000 + 5499 * n + 16384 * g) + ms_ ≤ 7302250; omega⟩) hS (fun q _ h => hFc q h) hFc (fun rv_1 u_1 t_ H1 locs ht hvm hw_ hB hz1 hk1 hS => ?_)
  obtain ⟨hP1, hD1⟩ := hB
  rw [ht] at hP1
  obtain ⟨hP, hD⟩ := frm hP hD hk1 hFc hP1 hD1
  generalize H1 = H at hP hS ⊢
  obtain ⟨e_, hk2⟩ := hw_
  obtain rfl : rv_1 = (if rowC nb Cf (xs ((nI (7 * n + 1)) : Int32).toNatClampNeg) (xs ((nI (7 * n + 2)) : Int32).toNatClampNeg) (xs ((nI (7 * n + 3)) : Int32).toNatClampNeg) = true then 1 else 0) := e_
  refine W.widen (k := (100 + 99 * (n + 1))) (n := (410000 + 5499 * (n + 1) + 16384 * (g + d_))) (by omega) (by omega) ?_
  refine lv_pop hx hb dL_law_290 rfl ?_
  refine lv_aload_n hx hb dL_law_291 rfl (lv_at hl 1 rfl) ?_
  refine lv_aload_n hx hb dL_law_292 rfl (lv_at hl 3 rfl) ?_
  refine lv_iload_n hx hb dL_law_293 rfl (lv_at hl 0 rfl) ?_
  refine lv_iconst (v := 1) hx hb dL_law_294 (by decide) ?_
  refine lv_iadd hx hb dL_law_295 ?_
  refine lv_topi (fun y_ e_ => ?_)
  obtain rfl : y_ = (nI (7 * n + 1)) := e_.trans (nI_add (7 * n) (1))
  refine va_sld hx hb hX hbl hbA hS (vp_in_nI (show 7 * n + 1 < L by omega) (by omega)) dL_law_296 ?_
  refine lv_aload_n hx hb dL_law_297 rfl (lv_at hl 3 rfl) ?_
  refine lv_iload_n hx hb dL_law_298 rfl (lv_at hl 0 rfl) ?_
  refine lv_iconst (v := 2) hx hb dL_law_299 (by decide) ?_
  refine lv_iadd hx hb dL_law_300 ?_
  refine lv_topi (fun y_ e_ => ?_)
  obtain rfl : y_ = (nI (7 * n + 2)) := e_.trans (nI_add (7 * n) (2))
  refine va_sld hx hb hX hbl hbA hS (vp_in_nI (show 7 * n + 2 < L by omega) (by omega)) dL_law_301 ?_
  refine lv_aload_n hx hb dL_law_302 rfl (lv_at hl 3 rfl) ?_
  refine lv_iload_n hx hb dL_law_303 rfl (lv_at hl 0 rfl) ?_
  refine lv_iconst (v := 3) hx hb dL_law_304 (by decide) ?_
  refine lv_iadd hx hb dL_law_305 ?_
  refine lv_topi (fun y_ e_ => ?_)
  obtain rfl : y_ = (nI (7 * n + 3)) := e_.trans (nI_add (7 * n) (3))
  refine va_sld hx hb hX hbl hbA hS (vp_in_nI (show 7 * n + 3 < L by omega) (by omega)) dL_law_306 ?_
  have hP := hP.perm List.perm_append_comm
  have hD := hD.perm List.perm_append_comm
  obtain ⟨fs2, hfs2⟩ := mOK_x hm
  have hMet2 := M_row l dC dI ca y nl nb rn fd Lf Cf Mf Hf Sf qm qd lt gl gh lw6 hi6 np Xf ws kd H.size wM (xs ((nI (7 * n + 1)) : Int32).toNatClampNeg) (xs ((nI (7 * n + 2)) : Int32).toNatClampNeg) (xs ((nI (7 * n + 3)) : Int32).toNatClampNeg) hm
  have hFc := fr_l hD hS hA
  refine va_calli (va_runV (As := [.int (xs ((nI (7 * n + 1)) : Int32).toNatClampNeg), .int (xs ((nI (7 * n + 2)) : Int32).toNatClampNeg), .int (xs ((nI (7 * n + 3)) : Int32).toNatClampNeg)]) (rest := []) ⟨hx, hb, hml, hown, hts⟩ hMet2 (⟨callB_of 3 hts (gd mw_1074) rfl rfl rfl (hts _ mw_8) (hts _ mw_1071) ds_X11_row ⟨Nat.le_of_ble_eq_true rfl, Nat.le_of_ble_eq_true rfl⟩, (hts _ mw_1072), (hts _ mw_1073)⟩) (pr_V (w_left hP) hK (d_left hD) hE (va_recv hK (w_left hP) (ci := 11) (q0 := 0) rfl hfs2)) rfl rfl hl.1 rfl (lv_room (Nat.le_of_ble_eq_true rfl)) dL_law_307 ⟨by show (100 + 99 * (n + 1)) + 0 ≤ 600000; omega, by show (410000 + 5499 * (n + 1) + 16384 * (g + d_)) + 0 ≤ 7302250; omega⟩) hS (fun q _ h => hFc q h) hFc (fun rv_2 u_2 t_ H1 locs ht hvm hw_ hB hz1 hk1 hS => ?_)
  obtain ⟨hP1, hD1⟩ := hB
  rw [ht] at hP1
  obtain ⟨hP, hD⟩ := frm hP hD hk1 hFc hP1 hD1
  generalize H1 = H at hP hS ⊢
  obtain ⟨e_, hm2⟩ := hw_
  obtain rfl : rv_2 = (if rowC nb Cf (xs ((nI (7 * n + 1)) : Int32).toNatClampNeg) (xs ((nI (7 * n + 2)) : Int32).toNatClampNeg) (xs ((nI (7 * n + 3)) : Int32).toNatClampNeg) = true then 1 else 0) := e_
  have hP := hP.perm List.perm_append_comm
  have hD := hD.perm List.perm_append_comm
  refine lv_pop hx hb dL_law_310 rfl ?_
  refine lv_goto (tgt := 1319) hx hb dL_law_311 (by decide) ?_
  exact kk d0 (g + d_) _ _ _ hd0 ⟨_, _, _, _, _, _, _, _, _, _, _, _, _, _, _, _, _, _, _, _, u_1, u_2, hk2, hm2, hP, hD, hS, hl⟩

set_option maxHeartbeats 4000000 in
set_option maxRecDepth 100000 in
theorem lc_4 {p : Program} {e : Env} {s : State} {m : MethodId} {below : List Frame} {meth : Method} {c : Code} (l : Launch) {b L : Nat} {xs : Nat → Int32} {dC : Nat → ClassId} {dI : Nat → Nat → Nat} {ca : Nat → ClassId} {Q : State → Prop} {d0 : Drawn} {x y n g : Nat} {H : Heap} {locs : List Loc} {ls : Array Slot} (hd0 : s.drawn.sameBut d0 lw_cs) (F : lwF p s d0 m c b L xs dC dI ca) (hL : L ≤ 3584) (hn : 7 * n + 7 ≤ L) (hI : lI dC dI ca s.heap x y b n g H locs ls) (kk : ∀ (d1 : Drawn) (g1 : Nat) (H : Heap) (locs : List Loc) (ls : Array Slot), s.drawn.sameBut d1 lw_cs → lI dC dI ca s.heap x y b n g1 H locs ls → W p l e room_1 (s.setDrawn d1) m #[Value.ref b] below meth c H locs (100 + 99 * (n + 1)) (410000 + 5499 * (n + 1) + 16384 * g1) Q (F0 m 1319 ls [])) : W p l e room_1 (s.setDrawn d0) m #[Value.ref b] below meth c H locs (100 + 99 * n) (410000 + 5499 * n + 16384 * g) Q (F0 m 314 ls []) := by
  obtain ⟨hx, hb, hml, hown, hts, hE, hK, hX, hbl⟩ := F
  obtain ⟨nl, nb, rn, fd, Lf, Cf, Mf, Hf, Sf, qm, qd, lt, gl, gh, lw6, hi6, np, Xf, ws, kd, wK, wM, hk, hm, hP, hD, hS, hl⟩ := hI
  have hA : ∀ q : Nat, s.heap.size ≤ q → (fun q : Nat => s.heap.size ≤ q) q := fun _ h => h
  have hbA : ¬ (fun q : Nat => s.heap.size ≤ q) b := Nat.not_le.mpr hbl
  refine lv_aload_n hx hb dL_law_314 rfl (lv_at hl 2 rfl) ?_
  refine lv_aload_n hx hb dL_law_315 rfl (lv_at hl 3 rfl) ?_
  refine lv_iload_n hx hb dL_law_316 rfl (lv_at hl 0 rfl) ?_
  refine lv_iconst (v := 1) hx hb dL_law_317 (by decide) ?_
  refine lv_iadd hx hb dL_law_318 ?_
  refine lv_topi (fun y_ e_ => ?_)
  obtain rfl : y_ = (nI (7 * n + 1)) := e_.trans (nI_add (7 * n) (1))
  refine va_sld hx hb hX hbl hbA hS (vp_in_nI (show 7 * n + 1 < L by omega) (by omega)) dL_law_319 ?_
  refine lv_aload_n hx hb dL_law_320 rfl (lv_at hl 3 rfl) ?_
  refine lv_iload_n hx hb dL_law_321 rfl (lv_at hl 0 rfl) ?_
  refine lv_iconst (v := 2) hx hb dL_law_322 (by decide) ?_
  refine lv_iadd hx hb dL_law_323 ?_
  refine lv_topi (fun y_ e_ => ?_)
  obtain rfl : y_ = (nI (7 * n + 2)) := e_.trans (nI_add (7 * n) (2))
  refine va_sld hx hb hX hbl hbA hS (vp_in_nI (show 7 * n + 2 < L by omega) (by omega)) dL_law_324 ?_
  refine lv_aload_n hx hb dL_law_325 rfl (lv_at hl 3 rfl) ?_
  refine lv_iload_n hx hb dL_law_326 rfl (lv_at hl 0 rfl) ?_
  refine lv_iconst (v := 3) hx hb dL_law_327 (by decide) ?_
  refine lv_iadd hx hb dL_law_328 ?_
  refine lv_topi (fun y_ e_ => ?_)
  obtain rfl : y_ = (nI (7 * n + 3)) := e_.trans (nI_add (7 * n) (3))
  refine va_sld hx hb hX hbl hbA hS (vp_in_nI (show 7 * n + 3 < L by omega) (by omega)) dL_law_329 ?_
  have hgl := kOK_g hk
  obtain ⟨fs, hfs⟩ := kOK_x hk
  obtain ⟨mc_, ms_, d_, hmc, hms, hd_, hMet⟩ := K_tick l dC dI ca x g nl nb rn fd Lf Cf Mf Hf Sf qm qd lt gl gh lw6 hi6 np Xf ws kd H.size wK (xs ((nI (7 * n + 1)) : Int32).toNatClampNeg) (xs ((nI (7 * n + 2)) : Int32).toNatClampNeg) (xs ((nI (7 * n + 3)) : Int32).toNatClampNeg) hk
  have hFc := fr_l hD hS hA
  refine va_calli (va_runV (As := [.int (xs ((nI (7 * n + 1)) : Int32).toNatClampNeg), .int (xs ((nI (7 * n + 2)) : Int32).toNatClampNeg), .int (xs ((nI (7 * n + 3)) : Int32).toNatClampNeg)]) (rest := []) ⟨hx, hb, hml, hown, hts⟩ hMet (⟨callB_of 3 hts (gd mw_402) rfl rfl rfl (hts _ mw_1) (hts _ mw_399) ds_X10_tick ⟨Nat.le_of_ble_eq_true rfl, Nat.le_of_ble_eq_true rfl⟩, (hts _ mw_400), (hts _ mw_401)⟩) (pr_V (w_left hP) hK (d_left hD) hE (va_recv hK (w_left hP) (ci := 10) (q0 := 0) rfl hfs)) rfl rfl hl.1 rfl (lv_room (Nat.le_of_ble_eq_true rfl)) dL_law_330 ⟨by show (100 + 99 * n) + mc_ ≤ 600000; omega, by show (410000 + 5499 * n + 16384 * g) + ms_ ≤ 7302250; omega⟩) hS (fun q _ h => hFc q h) hFc (fun rv_1 u_1 t_ H1 locs ht hvm hw_ hB hz1 hk1 hS => ?_)
  obtain ⟨hP1, hD1⟩ := hB
  rw [ht] at hP1
  obtain ⟨hP, hD⟩ := frm hP hD hk1 hFc hP1 hD1
  generalize H1 = H at hP hS ⊢
  obtain ⟨e_, hk2⟩ := hw_
  obtain rfl : rv_1 = (tkS nb Cf (fun q_ => mx0 (Hf q_)) (xs ((nI (7 * n + 1)) : Int32).toNatClampNeg) (xs ((nI (7 * n + 2)) : Int32).toNatClampNeg)) := e_
  refine W.widen (k := (100 + 99 * (n + 1))) (n := (410000 + 5499 * (n + 1) + 16384 * (g + d_))) (by omega) (by omega) ?_
  refine lv_pop hx hb dL_law_333 rfl ?_
  refine lv_aload_n hx hb dL_law_334 rfl (lv_at hl 1 rfl) ?_
  refine lv_aload_n hx hb dL_law_335 rfl (lv_at hl 3 rfl) ?_
  refine lv_iload_n hx hb dL_law_336 rfl (lv_at hl 0 rfl) ?_
  refine lv_iconst (v := 1) hx hb dL_law_337 (by decide) ?_
  refine lv_iadd hx hb dL_law_338 ?_
  refine lv_topi (fun y_ e_ => ?_)
  obtain rfl : y_ = (nI (7 * n + 1)) := e_.trans (nI_add (7 * n) (1))
  refine va_sld hx hb hX hbl hbA hS (vp_in_nI (show 7 * n + 1 < L by omega) (by omega)) dL_law_339 ?_
  refine lv_aload_n hx hb dL_law_340 rfl (lv_at hl 3 rfl) ?_
  refine lv_iload_n hx hb dL_law_341 rfl (lv_at hl 0 rfl) ?_
  refine lv_iconst (v := 2) hx hb dL_law_342 (by decide) ?_
  refine lv_iadd hx hb dL_law_343 ?_
  refine lv_topi (fun y_ e_ => ?_)
  obtain rfl : y_ = (nI (7 * n + 2)) := e_.trans (nI_add (7 * n) (2))
  refine va_sld hx hb hX hbl hbA hS (vp_in_nI (show 7 * n + 2 < L by omega) (by omega)) dL_law_344 ?_
  refine lv_aload_n hx hb dL_law_345 rfl (lv_at hl 3 rfl) ?_
  refine lv_iload_n hx hb dL_law_346 rfl (lv_at hl 0 rfl) ?_
  refine lv_iconst (v := 3) hx hb dL_law_347 (by decide) ?_
  refine lv_iadd hx hb dL_law_348 ?_
  refine lv_topi (fun y_ e_ => ?_)
  obtain rfl : y_ = (nI (7 * n + 3)) := e_.trans (nI_add (7 * n) (3))
  refine va_sld hx hb hX hbl hbA hS (vp_in_nI (show 7 * n + 3 < L by omega) (by omega)) dL_law_349 ?_
  have hP := hP.perm List.perm_append_comm
  have hD := hD.perm List.perm_append_comm
  obtain ⟨fs2, hfs2⟩ := mOK_x hm
  have hMet2 := M_tick l dC dI ca y nl nb rn fd Lf Cf Mf Hf Sf qm qd lt gl gh lw6 hi6 np Xf ws kd H.size wM (xs ((nI (7 * n + 1)) : Int32).toNatClampNeg) (xs ((nI (7 * n + 2)) : Int32).toNatClampNeg) (xs ((nI (7 * n + 3)) : Int32).toNatClampNeg) hm
  have hFc := fr_l hD hS hA
  refine va_calliD hd0 (va_runV_D (As := [.int (xs ((nI (7 * n + 1)) : Int32).toNatClampNeg), .int (xs ((nI (7 * n + 2)) : Int32).toNatClampNeg), .int (xs ((nI (7 * n + 3)) : Int32).toNatClampNeg)]) (rest := []) ⟨hx, hb, hml, hown, hts⟩ hMet2 (⟨callB_of 3 hts (gd mw_1078) rfl rfl rfl (hts _ mw_8) (hts _ mw_1075) ds_X11_tick ⟨Nat.le_of_ble_eq_true rfl, Nat.le_of_ble_eq_true rfl⟩, (hts _ mw_1076), (hts _ mw_1077)⟩) (pr_V (w_left hP) hK (d_left hD) hE (va_recv hK (w_left hP) (ci := 11) (q0 := 0) rfl hfs2)) rfl rfl hl.1 rfl (lv_room (Nat.le_of_ble_eq_true rfl)) dL_law_350 ⟨by show (100 + 99 * (n + 1)) + 0 ≤ 600000; omega, by show (410000 + 5499 * (n + 1) + 16384 * (g + d_)) + 0 ≤ 7302250; omega⟩) hS (fun q _ h => hFc q h) hFc (fun rv_2 u_2 t_ H1 locs ht hvm hw_ hB hz1 hk1 hS d1 hd1 => ?_)
  obtain ⟨hP1, hD1⟩ := hB
  rw [ht] at hP1
  obtain ⟨hP, hD⟩ := frm hP hD hk1 hFc hP1 hD1
  generalize H1 = H at hP hS ⊢
  obtain ⟨e_, hm2⟩ := hw_
  obtain rfl : rv_2 = (tkS nb Cf (fun q_ => mx0 (Hf q_)) (xs ((nI (7 * n + 1)) : Int32).toNatClampNeg) (xs ((nI (7 * n + 2)) : Int32).toNatClampNeg)) := e_
  have hP := hP.perm List.perm_append_comm
  have hD := hD.perm List.perm_append_comm
  refine lv_pop hx hb dL_law_353 rfl ?_
  refine lv_goto (tgt := 1319) hx hb dL_law_354 (by decide) ?_
  exact kk d1 (g + d_) _ _ _ hd1 ⟨_, _, _, _, _, _, _, _, _, _, _, _, _, _, _, _, _, _, _, _, u_1, u_2, hk2, hm2, hP, hD, hS, hl⟩

set_option maxHeartbeats 4000000 in
set_option maxRecDepth 100000 in
theorem lc_5 {p : Program} {e : Env} {s : State} {m : MethodId} {below : List Frame} {meth : Method} {c : Code} (l : Launch) {b L : Nat} {xs : Nat → Int32} {dC : Nat → ClassId} {dI : Nat → Nat → Nat} {ca : Nat → ClassId} {Q : State → Prop} {d0 : Drawn} {x y n g : Nat} {H : Heap} {locs : List Loc} {ls : Array Slot} (hd0 : s.drawn.sameBut d0 lw_cs) (F : lwF p s d0 m c b L xs dC dI ca) (hL : L ≤ 3584) (hn : 7 * n + 7 ≤ L) (hI : lI dC dI ca s.heap x y b n g H locs ls) (kk : ∀ (d1 : Drawn) (g1 : Nat) (H : Heap) (locs : List Loc) (ls : Array Slot), s.drawn.sameBut d1 lw_cs → lI dC dI ca s.heap x y b n g1 H locs ls → W p l e room_1 (s.setDrawn d1) m #[Value.ref b] below meth c H locs (100 + 99 * (n + 1)) (410000 + 5499 * (n + 1) + 16384 * g1) Q (F0 m 1319 ls [])) : W p l e room_1 (s.setDrawn d0) m #[Value.ref b] below meth c H locs (100 + 99 * n) (410000 + 5499 * n + 16384 * g) Q (F0 m 357 ls []) := by
  obtain ⟨hx, hb, hml, hown, hts, hE, hK, hX, hbl⟩ := F
  obtain ⟨nl, nb, rn, fd, Lf, Cf, Mf, Hf, Sf, qm, qd, lt, gl, gh, lw6, hi6, np, Xf, ws, kd, wK, wM, hk, hm, hP, hD, hS, hl⟩ := hI
  have hA : ∀ q : Nat, s.heap.size ≤ q → (fun q : Nat => s.heap.size ≤ q) q := fun _ h => h
  have hbA : ¬ (fun q : Nat => s.heap.size ≤ q) b := Nat.not_le.mpr hbl
  refine lv_aload_n hx hb dL_law_357 rfl (lv_at hl 2 rfl) ?_
  refine lv_aload_n hx hb dL_law_358 rfl (lv_at hl 3 rfl) ?_
  refine lv_iload_n hx hb dL_law_359 rfl (lv_at hl 0 rfl) ?_
  refine lv_iconst (v := 1) hx hb dL_law_360 (by decide) ?_
  refine lv_iadd hx hb dL_law_361 ?_
  refine lv_topi (fun y_ e_ => ?_)
  obtain rfl : y_ = (nI (7 * n + 1)) := e_.trans (nI_add (7 * n) (1))
  refine va_sld hx hb hX hbl hbA hS (vp_in_nI (show 7 * n + 1 < L by omega) (by omega)) dL_law_362 ?_
  refine lv_aload_n hx hb dL_law_363 rfl (lv_at hl 3 rfl) ?_
  refine lv_iload_n hx hb dL_law_364 rfl (lv_at hl 0 rfl) ?_
  refine lv_iconst (v := 2) hx hb dL_law_365 (by decide) ?_
  refine lv_iadd hx hb dL_law_366 ?_
  refine lv_topi (fun y_ e_ => ?_)
  obtain rfl : y_ = (nI (7 * n + 2)) := e_.trans (nI_add (7 * n) (2))
  refine va_sld hx hb hX hbl hbA hS (vp_in_nI (show 7 * n + 2 < L by omega) (by omega)) dL_law_367 ?_
  refine lv_aload_n hx hb dL_law_368 rfl (lv_at hl 3 rfl) ?_
  refine lv_iload_n hx hb dL_law_369 rfl (lv_at hl 0 rfl) ?_
  refine lv_iconst (v := 3) hx hb dL_law_370 (by decide) ?_
  refine lv_iadd hx hb dL_law_371 ?_
  refine lv_topi (fun y_ e_ => ?_)
  obtain rfl : y_ = (nI (7 * n + 3)) := e_.trans (nI_add (7 * n) (3))
  refine va_sld hx hb hX hbl hbA hS (vp_in_nI (show 7 * n + 3 < L by omega) (by omega)) dL_law_372 ?_
  refine lv_if_eq (tgt := 380) hx hb dL_law_373 (by decide) (fun c_1 => ?_) (fun c_1 => ?_)
  · refine lv_iconst (v := 0) hx hb dL_law_380 (by decide) ?_
    have hgl := kOK_g hk
    obtain ⟨fs, hfs⟩ := kOK_x hk
    obtain ⟨mc_, ms_, d_, hmc, hms, hd_, hMet⟩ := K_stir l dC dI ca x g nl nb rn fd Lf Cf Mf Hf Sf qm qd lt gl gh lw6 hi6 np Xf ws kd H.size wK (xs ((nI (7 * n + 1)) : Int32).toNatClampNeg) (xs ((nI (7 * n + 2)) : Int32).toNatClampNeg) 0 hk
    have hFc := fr_l hD hS hA
    refine va_calli (va_runV (As := [.int (xs ((nI (7 * n + 1)) : Int32).toNatClampNeg), .int (xs ((nI (7 * n + 2)) : Int32).toNatClampNeg), .int 0]) (rest := []) ⟨hx, hb, hml, hown, hts⟩ hMet (⟨callB_of 3 hts (gd mw_411) rfl rfl rfl (hts _ mw_1) (hts _ mw_408) ds_X10_stir ⟨Nat.le_of_ble_eq_true rfl, Nat.le_of_ble_eq_true rfl⟩, (hts _ mw_409), (hts _ mw_410)⟩) (pr_V (w_left hP) hK (d_left hD) hE (va_recv hK (w_left hP) (ci := 10) (q0 := 0) rfl hfs)) rfl rfl hl.1 rfl (lv_room (Nat.le_of_ble_eq_true rfl)) dL_law_381 ⟨by show (100 + 99 * n) + mc_ ≤ 600000; omega, by show (410000 + 5499 * n + 16384 * g) + ms_ ≤ 7302250; omega⟩) hS (fun q _ h => hFc q h) hFc (fun rv_2 u_2 t_ H1 locs ht hvm hw_ hB hz1 hk1 hS => ?_)
    obtain ⟨hP1, hD1⟩ := hB
    rw [ht] at hP1
    obtain ⟨hP, hD⟩ := frm hP hD hk1 hFc hP1 hD1
    generalize H1 = H at hP hS ⊢
    obtain ⟨e_, hk2⟩ := hw_
    obtain rfl : rv_2 = (tkS nb Cf (fun q_ => mx0 (Sf q_)) (xs ((nI (7 * n + 1)) : Int32).toNatClampNeg) (xs ((nI (7 * n + 2)) : Int32).toNatClampNeg)) := e_
    refine W.widen (k := (100 + 99 * (n + 1))) (n := (410000 + 5499 * (n + 1) + 16384 * (g + d_))) (by omega) (by omega) ?_
    refine lv_pop hx hb dL_law_384 rfl ?_
    refine lv_aload_n hx hb dL_law_385 rfl (lv_at hl 1 rfl) ?_
    refine lv_aload_n hx hb dL_law_386 rfl (lv_at hl 3 rfl) ?_
    refine lv_iload_n hx hb dL_law_387 rfl (lv_at hl 0 rfl) ?_
    refine lv_iconst (v := 1) hx hb dL_law_388 (by decide) ?_
    refine lv_iadd hx hb dL_law_389 ?_
    refine lv_topi (fun y_ e_ => ?_)
    obtain rfl : y_ = (nI (7 * n + 1)) := e_.trans (nI_add (7 * n) (1))
    refine va_sld hx hb hX hbl hbA hS (vp_in_nI (show 7 * n + 1 < L by omega) (by omega)) dL_law_390 ?_
    refine lv_aload_n hx hb dL_law_391 rfl (lv_at hl 3 rfl) ?_
    refine lv_iload_n hx hb dL_law_392 rfl (lv_at hl 0 rfl) ?_
    refine lv_iconst (v := 2) hx hb dL_law_393 (by decide) ?_
    refine lv_iadd hx hb dL_law_394 ?_
    refine lv_topi (fun y_ e_ => ?_)
    obtain rfl : y_ = (nI (7 * n + 2)) := e_.trans (nI_add (7 * n) (2))
    refine va_sld hx hb hX hbl hbA hS (vp_in_nI (show 7 * n + 2 < L by omega) (by omega)) dL_law_395 ?_
    refine lv_aload_n hx hb dL_law_396 rfl (lv_at hl 3 rfl) ?_
    refine lv_iload_n hx hb dL_law_397 rfl (lv_at hl 0 rfl) ?_
    refine lv_iconst (v := 3) hx hb dL_law_398 (by decide) ?_
    refine lv_iadd hx hb dL_law_399 ?_
    refine lv_topi (fun y_ e_ => ?_)
    obtain rfl : y_ = (nI (7 * n + 3)) := e_.trans (nI_add (7 * n) (3))
    refine va_sld hx hb hX hbl hbA hS (vp_in_nI (show 7 * n + 3 < L by omega) (by omega)) dL_law_400 ?_
    refine lv_if_eq (tgt := 408) hx hb dL_law_401 (by decide) (fun c_ => ?_) (fun c_ => absurd c_1 c_)
    refine lv_iconst (v := 0) hx hb dL_law_408 (by decide) ?_
    have hP := hP.perm List.perm_append_comm
    have hD := hD.perm List.perm_append_comm
    obtain ⟨fs2, hfs2⟩ := mOK_x hm
    have hMet2 := M_stir l dC dI ca y nl nb rn fd Lf Cf Mf Hf Sf qm qd lt gl gh lw6 hi6 np Xf ws kd H.size wM (xs ((nI (7 * n + 1)) : Int32).toNatClampNeg) (xs ((nI (7 * n + 2)) : Int32).toNatClampNeg) 0 hm
    have hFc := fr_l hD hS hA
    refine va_calli (va_runV (As := [.int (xs ((nI (7 * n + 1)) : Int32).toNatClampNeg), .int (xs ((nI (7 * n + 2)) : Int32).toNatClampNeg), .int 0]) (rest := []) ⟨hx, hb, hml, hown, hts⟩ hMet2 (⟨callB_of 3 hts (gd mw_1085) rfl rfl rfl (hts _ mw_8) (hts _ mw_1082) ds_X11_stir ⟨Nat.le_of_ble_eq_true rfl, Nat.le_of_ble_eq_true rfl⟩, (hts _ mw_1083), (hts _ mw_1084)⟩) (pr_V (w_left hP) hK (d_left hD) hE (va_recv hK (w_left hP) (ci := 11) (q0 := 0) rfl hfs2)) rfl rfl hl.1 rfl (lv_room (Nat.le_of_ble_eq_true rfl)) dL_law_409 ⟨by show (100 + 99 * (n + 1)) + 0 ≤ 600000; omega, by show (410000 + 5499 * (n + 1) + 16384 * (g + d_)) + 0 ≤ 7302250; omega⟩) hS (fun q _ h => hFc q h) hFc (fun rv_3 u_3 t_ H1 locs ht hvm hw_ hB hz1 hk1 hS => ?_)
    obtain ⟨hP1, hD1⟩ := hB
    rw [ht] at hP1
    obtain ⟨hP, hD⟩ := frm hP hD hk1 hFc hP1 hD1
    generalize H1 = H at hP hS ⊢
    obtain ⟨e_, hm2⟩ := hw_
    obtain rfl : rv_3 = (tkS nb Cf (fun q_ => mx0 (Sf q_)) (xs ((nI (7 * n + 1)) : Int32).toNatClampNeg) (xs ((nI (7 * n + 2)) : Int32).toNatClampNeg)) := e_
    have hP := hP.perm List.perm_append_comm
    have hD := hD.perm List.perm_append_comm
    refine lv_pop hx hb dL_law_412 rfl ?_
    refine lv_goto (tgt := 1319) hx hb dL_law_413 (by decide) ?_
    exact kk d0 (g + d_) _ _ _ hd0 ⟨_, _, _, _, _, _, _, _, _, _, _, _, _, _, _, _, _, _, _, _, u_2, u_3, hk2, hm2, hP, hD, hS, hl⟩
  · refine lv_iconst (v := 1) hx hb dL_law_376 (by decide) ?_
    refine lv_goto (tgt := 381) hx hb dL_law_377 (by decide) ?_
    have hgl := kOK_g hk
    obtain ⟨fs, hfs⟩ := kOK_x hk
    obtain ⟨mc_, ms_, d_, hmc, hms, hd_, hMet⟩ := K_stir l dC dI ca x g nl nb rn fd Lf Cf Mf Hf Sf qm qd lt gl gh lw6 hi6 np Xf ws kd H.size wK (xs ((nI (7 * n + 1)) : Int32).toNatClampNeg) (xs ((nI (7 * n + 2)) : Int32).toNatClampNeg) 1 hk
    have hFc := fr_l hD hS hA
    refine va_calli (va_runV (As := [.int (xs ((nI (7 * n + 1)) : Int32).toNatClampNeg), .int (xs ((nI (7 * n + 2)) : Int32).toNatClampNeg), .int 1]) (rest := []) ⟨hx, hb, hml, hown, hts⟩ hMet (⟨callB_of 3 hts (gd mw_411) rfl rfl rfl (hts _ mw_1) (hts _ mw_408) ds_X10_stir ⟨Nat.le_of_ble_eq_true rfl, Nat.le_of_ble_eq_true rfl⟩, (hts _ mw_409), (hts _ mw_410)⟩) (pr_V (w_left hP) hK (d_left hD) hE (va_recv hK (w_left hP) (ci := 10) (q0 := 0) rfl hfs)) rfl rfl hl.1 rfl (lv_room (Nat.le_of_ble_eq_true rfl)) dL_law_381 ⟨by show (100 + 99 * n) + mc_ ≤ 600000; omega, by show (410000 + 5499 * n + 16384 * g) + ms_ ≤ 7302250; omega⟩) hS (fun q _ h => hFc q h) hFc (fun rv_4 u_4 t_ H1 locs ht hvm hw_ hB hz1 hk1 hS => ?_)
    obtain ⟨hP1, hD1⟩ := hB
    rw [ht] at hP1
    obtain ⟨hP, hD⟩ := frm hP hD hk1 hFc hP1 hD1
    generalize H1 = H at hP hS ⊢
    obtain ⟨e_, hk2⟩ := hw_
    obtain rfl : rv_4 = (tkS nb Cf (fun q_ => mx0 (Sf q_)) (xs ((nI (7 * n + 1)) : Int32).toNatClampNeg) (xs ((nI (7 * n + 2)) : Int32).toNatClampNeg)) := e_
    refine W.widen (k := (100 + 99 * (n + 1))) (n := (410000 + 5499 * (n + 1) + 16384 * (g + d_))) (by omega) (by omega) ?_
    refine lv_pop hx hb dL_law_384 rfl ?_
    refine lv_aload_n hx hb dL_law_385 rfl (lv_at hl 1 rfl) ?_
    refine lv_aload_n hx hb dL_law_386 rfl (lv_at hl 3 rfl) ?_
    refine lv_iload_n hx hb dL_law_387 rfl (lv_at hl 0 rfl) ?_
    refine lv_iconst (v := 1) hx hb dL_law_388 (by decide) ?_
    refine lv_iadd hx hb dL_law_389 ?_
    refine lv_topi (fun y_ e_ => ?_)
    obtain rfl : y_ = (nI (7 * n + 1)) := e_.trans (nI_add (7 * n) (1))
    refine va_sld hx hb hX hbl hbA hS (vp_in_nI (show 7 * n + 1 < L by omega) (by omega)) dL_law_390 ?_
    refine lv_aload_n hx hb dL_law_391 rfl (lv_at hl 3 rfl) ?_
    refine lv_iload_n hx hb dL_law_392 rfl (lv_at hl 0 rfl) ?_
    refine lv_iconst (v := 2) hx hb dL_law_393 (by decide) ?_
    refine lv_iadd hx hb dL_law_394 ?_
    refine lv_topi (fun y_ e_ => ?_)
    obtain rfl : y_ = (nI (7 * n + 2)) := e_.trans (nI_add (7 * n) (2))
    refine va_sld hx hb hX hbl hbA hS (vp_in_nI (show 7 * n + 2 < L by omega) (by omega)) dL_law_395 ?_
    refine lv_aload_n hx hb dL_law_396 rfl (lv_at hl 3 rfl) ?_
    refine lv_iload_n hx hb dL_law_397 rfl (lv_at hl 0 rfl) ?_
    refine lv_iconst (v := 3) hx hb dL_law_398 (by decide) ?_
    refine lv_iadd hx hb dL_law_399 ?_
    refine lv_topi (fun y_ e_ => ?_)
    obtain rfl : y_ = (nI (7 * n + 3)) := e_.trans (nI_add (7 * n) (3))
    refine va_sld hx hb hX hbl hbA hS (vp_in_nI (show 7 * n + 3 < L by omega) (by omega)) dL_law_400 ?_
    refine lv_if_eq (tgt := 408) hx hb dL_law_401 (by decide) (fun c_ => absurd c_ c_1) (fun c_ => ?_)
    refine lv_iconst (v := 1) hx hb dL_law_404 (by decide) ?_
    refine lv_goto (tgt := 409) hx hb dL_law_405 (by decide) ?_
    have hP := hP.perm List.perm_append_comm
    have hD := hD.perm List.perm_append_comm
    obtain ⟨fs2, hfs2⟩ := mOK_x hm
    have hMet2 := M_stir l dC dI ca y nl nb rn fd Lf Cf Mf Hf Sf qm qd lt gl gh lw6 hi6 np Xf ws kd H.size wM (xs ((nI (7 * n + 1)) : Int32).toNatClampNeg) (xs ((nI (7 * n + 2)) : Int32).toNatClampNeg) 1 hm
    have hFc := fr_l hD hS hA
    refine va_calli (va_runV (As := [.int (xs ((nI (7 * n + 1)) : Int32).toNatClampNeg), .int (xs ((nI (7 * n + 2)) : Int32).toNatClampNeg), .int 1]) (rest := []) ⟨hx, hb, hml, hown, hts⟩ hMet2 (⟨callB_of 3 hts (gd mw_1085) rfl rfl rfl (hts _ mw_8) (hts _ mw_1082) ds_X11_stir ⟨Nat.le_of_ble_eq_true rfl, Nat.le_of_ble_eq_true rfl⟩, (hts _ mw_1083), (hts _ mw_1084)⟩) (pr_V (w_left hP) hK (d_left hD) hE (va_recv hK (w_left hP) (ci := 11) (q0 := 0) rfl hfs2)) rfl rfl hl.1 rfl (lv_room (Nat.le_of_ble_eq_true rfl)) dL_law_409 ⟨by show (100 + 99 * (n + 1)) + 0 ≤ 600000; omega, by show (410000 + 5499 * (n + 1) + 16384 * (g + d_)) + 0 ≤ 7302250; omega⟩) hS (fun q _ h => hFc q h) hFc (fun rv_5 u_5 t_ H1 locs ht hvm hw_ hB hz1 hk1 hS => ?_)
    obtain ⟨hP1, hD1⟩ := hB
    rw [ht] at hP1
    obtain ⟨hP, hD⟩ := frm hP hD hk1 hFc hP1 hD1
    generalize H1 = H at hP hS ⊢
    obtain ⟨e_, hm2⟩ := hw_
    obtain rfl : rv_5 = (tkS nb Cf (fun q_ => mx0 (Sf q_)) (xs ((nI (7 * n + 1)) : Int32).toNatClampNeg) (xs ((nI (7 * n + 2)) : Int32).toNatClampNeg)) := e_
    have hP := hP.perm List.perm_append_comm
    have hD := hD.perm List.perm_append_comm
    refine lv_pop hx hb dL_law_412 rfl ?_
    refine lv_goto (tgt := 1319) hx hb dL_law_413 (by decide) ?_
    exact kk d0 (g + d_) _ _ _ hd0 ⟨_, _, _, _, _, _, _, _, _, _, _, _, _, _, _, _, _, _, _, _, u_4, u_5, hk2, hm2, hP, hD, hS, hl⟩

set_option maxHeartbeats 4000000 in
set_option maxRecDepth 100000 in
theorem lc_6 {p : Program} {e : Env} {s : State} {m : MethodId} {below : List Frame} {meth : Method} {c : Code} (l : Launch) {b L : Nat} {xs : Nat → Int32} {dC : Nat → ClassId} {dI : Nat → Nat → Nat} {ca : Nat → ClassId} {Q : State → Prop} {d0 : Drawn} {x y n g : Nat} {H : Heap} {locs : List Loc} {ls : Array Slot} (hd0 : s.drawn.sameBut d0 lw_cs) (F : lwF p s d0 m c b L xs dC dI ca) (hL : L ≤ 3584) (hn : 7 * n + 7 ≤ L) (hI : lI dC dI ca s.heap x y b n g H locs ls) (kk : ∀ (d1 : Drawn) (g1 : Nat) (H : Heap) (locs : List Loc) (ls : Array Slot), s.drawn.sameBut d1 lw_cs → lI dC dI ca s.heap x y b n g1 H locs ls → W p l e room_1 (s.setDrawn d1) m #[Value.ref b] below meth c H locs (100 + 99 * (n + 1)) (410000 + 5499 * (n + 1) + 16384 * g1) Q (F0 m 1319 ls [])) : W p l e room_1 (s.setDrawn d0) m #[Value.ref b] below meth c H locs (100 + 99 * n) (410000 + 5499 * n + 16384 * g) Q (F0 m 416 ls []) := by
  obtain ⟨hx, hb, hml, hown, hts, hE, hK, hX, hbl⟩ := F
  obtain ⟨nl, nb, rn, fd, Lf, Cf, Mf, Hf, Sf, qm, qd, lt, gl, gh, lw6, hi6, np, Xf, ws, kd, wK, wM, hk, hm, hP, hD, hS, hl⟩ := hI
  have hA : ∀ q : Nat, s.heap.size ≤ q → (fun q : Nat => s.heap.size ≤ q) q := fun _ h => h
  have hbA : ¬ (fun q : Nat => s.heap.size ≤ q) b := Nat.not_le.mpr hbl
  refine lv_aload_n hx hb dL_law_416 rfl (lv_at hl 2 rfl) ?_
  refine lv_aload_n hx hb dL_law_417 rfl (lv_at hl 3 rfl) ?_
  refine lv_iload_n hx hb dL_law_418 rfl (lv_at hl 0 rfl) ?_
  refine lv_iconst (v := 1) hx hb dL_law_419 (by decide) ?_
  refine lv_iadd hx hb dL_law_420 ?_
  refine lv_topi (fun y_ e_ => ?_)
  obtain rfl : y_ = (nI (7 * n + 1)) := e_.trans (nI_add (7 * n) (1))
  refine va_sld hx hb hX hbl hbA hS (vp_in_nI (show 7 * n + 1 < L by omega) (by omega)) dL_law_421 ?_
  refine lv_aload_n hx hb dL_law_422 rfl (lv_at hl 3 rfl) ?_
  refine lv_iload_n hx hb dL_law_423 rfl (lv_at hl 0 rfl) ?_
  refine lv_iconst (v := 2) hx hb dL_law_424 (by decide) ?_
  refine lv_iadd hx hb dL_law_425 ?_
  refine lv_topi (fun y_ e_ => ?_)
  obtain rfl : y_ = (nI (7 * n + 2)) := e_.trans (nI_add (7 * n) (2))
  refine va_sld hx hb hX hbl hbA hS (vp_in_nI (show 7 * n + 2 < L by omega) (by omega)) dL_law_426 ?_
  have hgl := kOK_g hk
  obtain ⟨fs, hfs⟩ := kOK_x hk
  obtain ⟨mc_, ms_, d_, hmc, hms, hd_, hMet⟩ := K_table l dC dI ca x g nl nb rn fd Lf Cf Mf Hf Sf qm qd lt gl gh lw6 hi6 np Xf ws kd H.size wK (xs ((nI (7 * n + 1)) : Int32).toNatClampNeg) (xs ((nI (7 * n + 2)) : Int32).toNatClampNeg) hk
  have hFc := fr_l hD hS hA
  refine va_calli (va_runV (As := [.int (xs ((nI (7 * n + 1)) : Int32).toNatClampNeg), .int (xs ((nI (7 * n + 2)) : Int32).toNatClampNeg)]) (rest := []) ⟨hx, hb, hml, hown, hts⟩ hMet (⟨callB_of 2 hts (gd mw_419) rfl rfl rfl (hts _ mw_1) (hts _ mw_416) ds_X10_table ⟨Nat.le_of_ble_eq_true rfl, Nat.le_of_ble_eq_true rfl⟩, (hts _ mw_417), (hts _ mw_418)⟩) (pr_V (w_left hP) hK (d_left hD) hE (va_recv hK (w_left hP) (ci := 10) (q0 := 0) rfl hfs)) rfl rfl hl.1 rfl (lv_room (Nat.le_of_ble_eq_true rfl)) dL_law_427 ⟨by show (100 + 99 * n) + mc_ ≤ 600000; omega, by show (410000 + 5499 * n + 16384 * g) + ms_ ≤ 7302250; omega⟩) hS (fun q _ h => hFc q h) hFc (fun rv_1 u_1 t_ H1 locs ht hvm hw_ hB hz1 hk1 hS => ?_)
  obtain ⟨hP1, hD1⟩ := hB
  rw [ht] at hP1
  obtain ⟨hP, hD⟩ := frm hP hD hk1 hFc hP1 hD1
  generalize H1 = H at hP hS ⊢
  obtain ⟨e_, hk2⟩ := hw_
  obtain rfl : rv_1 = (adL rn fd (xs ((nI (7 * n + 1)) : Int32).toNatClampNeg) (xs ((nI (7 * n + 2)) : Int32).toNatClampNeg)) := e_
  refine W.widen (k := (100 + 99 * (n + 1))) (n := (410000 + 5499 * (n + 1) + 16384 * (g + d_))) (by omega) (by omega) ?_
  refine lv_pop hx hb dL_law_430 rfl ?_
  refine lv_aload_n hx hb dL_law_431 rfl (lv_at hl 1 rfl) ?_
  refine lv_aload_n hx hb dL_law_432 rfl (lv_at hl 3 rfl) ?_
  refine lv_iload_n hx hb dL_law_433 rfl (lv_at hl 0 rfl) ?_
  refine lv_iconst (v := 1) hx hb dL_law_434 (by decide) ?_
  refine lv_iadd hx hb dL_law_435 ?_
  refine lv_topi (fun y_ e_ => ?_)
  obtain rfl : y_ = (nI (7 * n + 1)) := e_.trans (nI_add (7 * n) (1))
  refine va_sld hx hb hX hbl hbA hS (vp_in_nI (show 7 * n + 1 < L by omega) (by omega)) dL_law_436 ?_
  refine lv_aload_n hx hb dL_law_437 rfl (lv_at hl 3 rfl) ?_
  refine lv_iload_n hx hb dL_law_438 rfl (lv_at hl 0 rfl) ?_
  refine lv_iconst (v := 2) hx hb dL_law_439 (by decide) ?_
  refine lv_iadd hx hb dL_law_440 ?_
  refine lv_topi (fun y_ e_ => ?_)
  obtain rfl : y_ = (nI (7 * n + 2)) := e_.trans (nI_add (7 * n) (2))
  refine va_sld hx hb hX hbl hbA hS (vp_in_nI (show 7 * n + 2 < L by omega) (by omega)) dL_law_441 ?_
  have hP := hP.perm List.perm_append_comm
  have hD := hD.perm List.perm_append_comm
  obtain ⟨fs2, hfs2⟩ := mOK_x hm
  have hMet2 := M_table l dC dI ca y nl nb rn fd Lf Cf Mf Hf Sf qm qd lt gl gh lw6 hi6 np Xf ws kd H.size wM (xs ((nI (7 * n + 1)) : Int32).toNatClampNeg) (xs ((nI (7 * n + 2)) : Int32).toNatClampNeg) hm
  have hFc := fr_l hD hS hA
  refine va_calli (va_runV (As := [.int (xs ((nI (7 * n + 1)) : Int32).toNatClampNeg), .int (xs ((nI (7 * n + 2)) : Int32).toNatClampNeg)]) (rest := []) ⟨hx, hb, hml, hown, hts⟩ hMet2 (⟨callB_of 2 hts (gd mw_1089) rfl rfl rfl (hts _ mw_8) (hts _ mw_1086) ds_X11_table ⟨Nat.le_of_ble_eq_true rfl, Nat.le_of_ble_eq_true rfl⟩, (hts _ mw_1087), (hts _ mw_1088)⟩) (pr_V (w_left hP) hK (d_left hD) hE (va_recv hK (w_left hP) (ci := 11) (q0 := 0) rfl hfs2)) rfl rfl hl.1 rfl (lv_room (Nat.le_of_ble_eq_true rfl)) dL_law_442 ⟨by show (100 + 99 * (n + 1)) + 0 ≤ 600000; omega, by show (410000 + 5499 * (n + 1) + 16384 * (g + d_)) + 0 ≤ 7302250; omega⟩) hS (fun q _ h => hFc q h) hFc (fun rv_2 u_2 t_ H1 locs ht hvm hw_ hB hz1 hk1 hS => ?_)
  obtain ⟨hP1, hD1⟩ := hB
  rw [ht] at hP1
  obtain ⟨hP, hD⟩ := frm hP hD hk1 hFc hP1 hD1
  generalize H1 = H at hP hS ⊢
  obtain ⟨e_, hm2⟩ := hw_
  obtain rfl : rv_2 = (adL rn fd (xs ((nI (7 * n + 1)) : Int32).toNatClampNeg) (xs ((nI (7 * n + 2)) : Int32).toNatClampNeg)) := e_
  have hP := hP.perm List.perm_append_comm
  have hD := hD.perm List.perm_append_comm
  refine lv_pop hx hb dL_law_445 rfl ?_
  refine lv_goto (tgt := 1319) hx hb dL_law_446 (by decide) ?_
  exact kk d0 (g + d_) _ _ _ hd0 ⟨_, _, _, _, _, _, _, _, _, _, _, _, _, _, _, _, _, _, _, _, u_1, u_2, hk2, hm2, hP, hD, hS, hl⟩

set_option maxHeartbeats 4000000 in
set_option maxRecDepth 100000 in
theorem lc_7 {p : Program} {e : Env} {s : State} {m : MethodId} {below : List Frame} {meth : Method} {c : Code} (l : Launch) {b L : Nat} {xs : Nat → Int32} {dC : Nat → ClassId} {dI : Nat → Nat → Nat} {ca : Nat → ClassId} {Q : State → Prop} {d0 : Drawn} {x y n g : Nat} {H : Heap} {locs : List Loc} {ls : Array Slot} (hd0 : s.drawn.sameBut d0 lw_cs) (F : lwF p s d0 m c b L xs dC dI ca) (hL : L ≤ 3584) (hn : 7 * n + 7 ≤ L) (hI : lI dC dI ca s.heap x y b n g H locs ls) (kk : ∀ (d1 : Drawn) (g1 : Nat) (H : Heap) (locs : List Loc) (ls : Array Slot), s.drawn.sameBut d1 lw_cs → lI dC dI ca s.heap x y b n g1 H locs ls → W p l e room_1 (s.setDrawn d1) m #[Value.ref b] below meth c H locs (100 + 99 * (n + 1)) (410000 + 5499 * (n + 1) + 16384 * g1) Q (F0 m 1319 ls [])) : W p l e room_1 (s.setDrawn d0) m #[Value.ref b] below meth c H locs (100 + 99 * n) (410000 + 5499 * n + 16384 * g) Q (F0 m 449 ls []) := by
  obtain ⟨hx, hb, hml, hown, hts, hE, hK, hX, hbl⟩ := F
  obtain ⟨nl, nb, rn, fd, Lf, Cf, Mf, Hf, Sf, qm, qd, lt, gl, gh, lw6, hi6, np, Xf, ws, kd, wK, wM, hk, hm, hP, hD, hS, hl⟩ := hI
  have hA : ∀ q : Nat, s.heap.size ≤ q → (fun q : Nat => s.heap.size ≤ q) q := fun _ h => h
  have hbA : ¬ (fun q : Nat => s.heap.size ≤ q) b := Nat.not_le.mpr hbl
  refine lv_aload_n hx hb dL_law_449 rfl (lv_at hl 2 rfl) ?_
  refine lv_aload_n hx hb dL_law_450 rfl (lv_at hl 3 rfl) ?_
  refine lv_iload_n hx hb dL_law_451 rfl (lv_at hl 0 rfl) ?_
  refine lv_iconst (v := 1) hx hb dL_law_452 (by decide) ?_
  refine lv_iadd hx hb dL_law_453 ?_
  refine lv_topi (fun y_ e_ => ?_)
  obtain rfl : y_ = (nI (7 * n + 1)) := e_.trans (nI_add (7 * n) (1))
  refine va_sld hx hb hX hbl hbA hS (vp_in_nI (show 7 * n + 1 < L by omega) (by omega)) dL_law_454 ?_
  refine lv_aload_n hx hb dL_law_455 rfl (lv_at hl 3 rfl) ?_
  refine lv_iload_n hx hb dL_law_456 rfl (lv_at hl 0 rfl) ?_
  refine lv_iconst (v := 2) hx hb dL_law_457 (by decide) ?_
  refine lv_iadd hx hb dL_law_458 ?_
  refine lv_topi (fun y_ e_ => ?_)
  obtain rfl : y_ = (nI (7 * n + 2)) := e_.trans (nI_add (7 * n) (2))
  refine va_sld hx hb hX hbl hbA hS (vp_in_nI (show 7 * n + 2 < L by omega) (by omega)) dL_law_459 ?_
  have hgl := kOK_g hk
  obtain ⟨fs, hfs⟩ := kOK_x hk
  obtain ⟨mc_, ms_, d_, hmc, hms, hd_, hMet⟩ := K_grain l dC dI ca x g nl nb rn fd Lf Cf Mf Hf Sf qm qd lt gl gh lw6 hi6 np Xf ws kd H.size wK (xs ((nI (7 * n + 1)) : Int32).toNatClampNeg) (xs ((nI (7 * n + 2)) : Int32).toNatClampNeg) hk
  have hFc := fr_l hD hS hA
  refine va_calli (va_runV (As := [.int (xs ((nI (7 * n + 1)) : Int32).toNatClampNeg), .int (xs ((nI (7 * n + 2)) : Int32).toNatClampNeg)]) (rest := []) ⟨hx, hb, hml, hown, hts⟩ hMet (⟨callB_of 2 hts (gd mw_428) rfl rfl rfl (hts _ mw_1) (hts _ mw_425) ds_X10_grain ⟨Nat.le_of_ble_eq_true rfl, Nat.le_of_ble_eq_true rfl⟩, (hts _ mw_426), (hts _ mw_427)⟩) (pr_V (w_left hP) hK (d_left hD) hE (va_recv hK (w_left hP) (ci := 10) (q0 := 0) rfl hfs)) rfl rfl hl.1 rfl (lv_room (Nat.le_of_ble_eq_true rfl)) dL_law_460 ⟨by show (100 + 99 * n) + mc_ ≤ 600000; omega, by show (410000 + 5499 * n + 16384 * g) + ms_ ≤ 7302250; omega⟩) hS (fun q _ h => hFc q h) hFc (fun rv_1 u_1 t_ H1 locs ht hvm hw_ hB hz1 hk1 hS => ?_)
  obtain ⟨hP1, hD1⟩ := hB
  rw [ht] at hP1
  obtain ⟨hP, hD⟩ := frm hP hD hk1 hFc hP1 hD1
  generalize H1 = H at hP hS ⊢
  obtain ⟨e_, hk2⟩ := hw_
  obtain rfl : rv_1 = 1 := e_
  refine W.widen (k := (100 + 99 * (n + 1))) (n := (410000 + 5499 * (n + 1) + 16384 * (g + d_))) (by omega) (by omega) ?_
  refine lv_pop hx hb dL_law_463 rfl ?_
  refine lv_aload_n hx hb dL_law_464 rfl (lv_at hl 1 rfl) ?_
  refine lv_aload_n hx hb dL_law_465 rfl (lv_at hl 3 rfl) ?_
  refine lv_iload_n hx hb dL_law_466 rfl (lv_at hl 0 rfl) ?_
  refine lv_iconst (v := 1) hx hb dL_law_467 (by decide) ?_
  refine lv_iadd hx hb dL_law_468 ?_
  refine lv_topi (fun y_ e_ => ?_)
  obtain rfl : y_ = (nI (7 * n + 1)) := e_.trans (nI_add (7 * n) (1))
  refine va_sld hx hb hX hbl hbA hS (vp_in_nI (show 7 * n + 1 < L by omega) (by omega)) dL_law_469 ?_
  refine lv_aload_n hx hb dL_law_470 rfl (lv_at hl 3 rfl) ?_
  refine lv_iload_n hx hb dL_law_471 rfl (lv_at hl 0 rfl) ?_
  refine lv_iconst (v := 2) hx hb dL_law_472 (by decide) ?_
  refine lv_iadd hx hb dL_law_473 ?_
  refine lv_topi (fun y_ e_ => ?_)
  obtain rfl : y_ = (nI (7 * n + 2)) := e_.trans (nI_add (7 * n) (2))
  refine va_sld hx hb hX hbl hbA hS (vp_in_nI (show 7 * n + 2 < L by omega) (by omega)) dL_law_474 ?_
  have hP := hP.perm List.perm_append_comm
  have hD := hD.perm List.perm_append_comm
  obtain ⟨fs2, hfs2⟩ := mOK_x hm
  have hMet2 := M_grain l dC dI ca y nl nb rn fd Lf Cf Mf Hf Sf qm qd lt gl gh lw6 hi6 np Xf ws kd H.size wM (xs ((nI (7 * n + 1)) : Int32).toNatClampNeg) (xs ((nI (7 * n + 2)) : Int32).toNatClampNeg) hm
  have hFc := fr_l hD hS hA
  refine va_calli (va_runV (As := [.int (xs ((nI (7 * n + 1)) : Int32).toNatClampNeg), .int (xs ((nI (7 * n + 2)) : Int32).toNatClampNeg)]) (rest := []) ⟨hx, hb, hml, hown, hts⟩ hMet2 (⟨callB_of 2 hts (gd mw_1093) rfl rfl rfl (hts _ mw_8) (hts _ mw_1090) ds_X11_grain ⟨Nat.le_of_ble_eq_true rfl, Nat.le_of_ble_eq_true rfl⟩, (hts _ mw_1091), (hts _ mw_1092)⟩) (pr_V (w_left hP) hK (d_left hD) hE (va_recv hK (w_left hP) (ci := 11) (q0 := 0) rfl hfs2)) rfl rfl hl.1 rfl (lv_room (Nat.le_of_ble_eq_true rfl)) dL_law_475 ⟨by show (100 + 99 * (n + 1)) + 0 ≤ 600000; omega, by show (410000 + 5499 * (n + 1) + 16384 * (g + d_)) + 0 ≤ 7302250; omega⟩) hS (fun q _ h => hFc q h) hFc (fun rv_2 u_2 t_ H1 locs ht hvm hw_ hB hz1 hk1 hS => ?_)
  obtain ⟨hP1, hD1⟩ := hB
  rw [ht] at hP1
  obtain ⟨hP, hD⟩ := frm hP hD hk1 hFc hP1 hD1
  generalize H1 = H at hP hS ⊢
  obtain ⟨e_, hm2⟩ := hw_
  obtain rfl : rv_2 = 1 := e_
  have hP := hP.perm List.perm_append_comm
  have hD := hD.perm List.perm_append_comm
  refine lv_pop hx hb dL_law_478 rfl ?_
  refine lv_goto (tgt := 1319) hx hb dL_law_479 (by decide) ?_
  exact kk d0 (g + d_) _ _ _ hd0 ⟨_, _, _, _, _, _, _, _, _, _, _, _, _, _, _, _, _, _, _, _, u_1, u_2, hk2, hm2, hP, hD, hS, hl⟩

set_option maxHeartbeats 4000000 in
set_option maxRecDepth 100000 in
theorem lc_8 {p : Program} {e : Env} {s : State} {m : MethodId} {below : List Frame} {meth : Method} {c : Code} (l : Launch) {b L : Nat} {xs : Nat → Int32} {dC : Nat → ClassId} {dI : Nat → Nat → Nat} {ca : Nat → ClassId} {Q : State → Prop} {d0 : Drawn} {x y n g : Nat} {H : Heap} {locs : List Loc} {ls : Array Slot} (hd0 : s.drawn.sameBut d0 lw_cs) (F : lwF p s d0 m c b L xs dC dI ca) (hL : L ≤ 3584) (hn : 7 * n + 7 ≤ L) (hI : lI dC dI ca s.heap x y b n g H locs ls) (kk : ∀ (d1 : Drawn) (g1 : Nat) (H : Heap) (locs : List Loc) (ls : Array Slot), s.drawn.sameBut d1 lw_cs → lI dC dI ca s.heap x y b n g1 H locs ls → W p l e room_1 (s.setDrawn d1) m #[Value.ref b] below meth c H locs (100 + 99 * (n + 1)) (410000 + 5499 * (n + 1) + 16384 * g1) Q (F0 m 1319 ls [])) : W p l e room_1 (s.setDrawn d0) m #[Value.ref b] below meth c H locs (100 + 99 * n) (410000 + 5499 * n + 16384 * g) Q (F0 m 482 ls []) := by
  obtain ⟨hx, hb, hml, hown, hts, hE, hK, hX, hbl⟩ := F
  obtain ⟨nl, nb, rn, fd, Lf, Cf, Mf, Hf, Sf, qm, qd, lt, gl, gh, lw6, hi6, np, Xf, ws, kd, wK, wM, hk, hm, hP, hD, hS, hl⟩ := hI
  have hA : ∀ q : Nat, s.heap.size ≤ q → (fun q : Nat => s.heap.size ≤ q) q := fun _ h => h
  have hbA : ¬ (fun q : Nat => s.heap.size ≤ q) b := Nat.not_le.mpr hbl
  refine lv_aload_n hx hb dL_law_482 rfl (lv_at hl 2 rfl) ?_
  refine lv_aload_n hx hb dL_law_483 rfl (lv_at hl 3 rfl) ?_
  refine lv_iload_n hx hb dL_law_484 rfl (lv_at hl 0 rfl) ?_
  refine lv_iconst (v := 1) hx hb dL_law_485 (by decide) ?_
  refine lv_iadd hx hb dL_law_486 ?_
  refine lv_topi (fun y_ e_ => ?_)
  obtain rfl : y_ = (nI (7 * n + 1)) := e_.trans (nI_add (7 * n) (1))
  refine va_sld hx hb hX hbl hbA hS (vp_in_nI (show 7 * n + 1 < L by omega) (by omega)) dL_law_487 ?_
  refine lv_aload_n hx hb dL_law_488 rfl (lv_at hl 3 rfl) ?_
  refine lv_iload_n hx hb dL_law_489 rfl (lv_at hl 0 rfl) ?_
  refine lv_iconst (v := 2) hx hb dL_law_490 (by decide) ?_
  refine lv_iadd hx hb dL_law_491 ?_
  refine lv_topi (fun y_ e_ => ?_)
  obtain rfl : y_ = (nI (7 * n + 2)) := e_.trans (nI_add (7 * n) (2))
  refine va_sld hx hb hX hbl hbA hS (vp_in_nI (show 7 * n + 2 < L by omega) (by omega)) dL_law_492 ?_
  refine lv_aload_n hx hb dL_law_493 rfl (lv_at hl 3 rfl) ?_
  refine lv_iload_n hx hb dL_law_494 rfl (lv_at hl 0 rfl) ?_
  refine lv_iconst (v := 3) hx hb dL_law_495 (by decide) ?_
  refine lv_iadd hx hb dL_law_496 ?_
  refine lv_topi (fun y_ e_ => ?_)
  obtain rfl : y_ = (nI (7 * n + 3)) := e_.trans (nI_add (7 * n) (3))
  refine va_sld hx hb hX hbl hbA hS (vp_in_nI (show 7 * n + 3 < L by omega) (by omega)) dL_law_497 ?_
  have hgl := kOK_g hk
  obtain ⟨fs, hfs⟩ := kOK_x hk
  obtain ⟨mc_, ms_, d_, hmc, hms, hd_, hMet⟩ := K_bounds l dC dI ca x g nl nb rn fd Lf Cf Mf Hf Sf qm qd lt gl gh lw6 hi6 np Xf ws kd H.size wK (xs ((nI (7 * n + 1)) : Int32).toNatClampNeg) (xs ((nI (7 * n + 2)) : Int32).toNatClampNeg) (xs ((nI (7 * n + 3)) : Int32).toNatClampNeg) hk
  have hFc := fr_l hD hS hA
  refine va_calli (va_runV (As := [.int (xs ((nI (7 * n + 1)) : Int32).toNatClampNeg), .int (xs ((nI (7 * n + 2)) : Int32).toNatClampNeg), .int (xs ((nI (7 * n + 3)) : Int32).toNatClampNeg)]) (rest := []) ⟨hx, hb, hml, hown, hts⟩ hMet (⟨callB_of 3 hts (gd mw_432) rfl rfl rfl (hts _ mw_1) (hts _ mw_429) ds_X10_bounds ⟨Nat.le_of_ble_eq_true rfl, Nat.le_of_ble_eq_true rfl⟩, (hts _ mw_430), (hts _ mw_431)⟩) (pr_V (w_left hP) hK (d_left hD) hE (va_recv hK (w_left hP) (ci := 10) (q0 := 0) rfl hfs)) rfl rfl hl.1 rfl (lv_room (Nat.le_of_ble_eq_true rfl)) dL_law_498 ⟨by show (100 + 99 * n) + mc_ ≤ 600000; omega, by show (410000 + 5499 * n + 16384 * g) + ms_ ≤ 7302250; omega⟩) hS (fun q _ h => hFc q h) hFc (fun rv_1 u_1 t_ H1 locs ht hvm hw_ hB hz1 hk1 hS => ?_)
  obtain ⟨hP1, hD1⟩ := hB
  rw [ht] at hP1
  obtain ⟨hP, hD⟩ := frm hP hD hk1 hFc hP1 hD1
  generalize H1 = H at hP hS ⊢
  obtain ⟨e_, hk2⟩ := hw_
  obtain rfl : rv_1 = (spBd (xs ((nI (7 * n + 1)) : Int32).toNatClampNeg)) := e_
  refine W.widen (k := (100 + 99 * (n + 1))) (n := (410000 + 5499 * (n + 1) + 16384 * (g + d_))) (by omega) (by omega) ?_
  refine lv_pop hx hb dL_law_501 rfl ?_
  refine lv_aload_n hx hb dL_law_502 rfl (lv_at hl 1 rfl) ?_
  refine lv_aload_n hx hb dL_law_503 rfl (lv_at hl 3 rfl) ?_
  refine lv_iload_n hx hb dL_law_504 rfl (lv_at hl 0 rfl) ?_
  refine lv_iconst (v := 1) hx hb dL_law_505 (by decide) ?_
  refine lv_iadd hx hb dL_law_506 ?_
  refine lv_topi (fun y_ e_ => ?_)
  obtain rfl : y_ = (nI (7 * n + 1)) := e_.trans (nI_add (7 * n) (1))
  refine va_sld hx hb hX hbl hbA hS (vp_in_nI (show 7 * n + 1 < L by omega) (by omega)) dL_law_507 ?_
  refine lv_aload_n hx hb dL_law_508 rfl (lv_at hl 3 rfl) ?_
  refine lv_iload_n hx hb dL_law_509 rfl (lv_at hl 0 rfl) ?_
  refine lv_iconst (v := 2) hx hb dL_law_510 (by decide) ?_
  refine lv_iadd hx hb dL_law_511 ?_
  refine lv_topi (fun y_ e_ => ?_)
  obtain rfl : y_ = (nI (7 * n + 2)) := e_.trans (nI_add (7 * n) (2))
  refine va_sld hx hb hX hbl hbA hS (vp_in_nI (show 7 * n + 2 < L by omega) (by omega)) dL_law_512 ?_
  refine lv_aload_n hx hb dL_law_513 rfl (lv_at hl 3 rfl) ?_
  refine lv_iload_n hx hb dL_law_514 rfl (lv_at hl 0 rfl) ?_
  refine lv_iconst (v := 3) hx hb dL_law_515 (by decide) ?_
  refine lv_iadd hx hb dL_law_516 ?_
  refine lv_topi (fun y_ e_ => ?_)
  obtain rfl : y_ = (nI (7 * n + 3)) := e_.trans (nI_add (7 * n) (3))
  refine va_sld hx hb hX hbl hbA hS (vp_in_nI (show 7 * n + 3 < L by omega) (by omega)) dL_law_517 ?_
  have hP := hP.perm List.perm_append_comm
  have hD := hD.perm List.perm_append_comm
  obtain ⟨fs2, hfs2⟩ := mOK_x hm
  have hMet2 := M_bounds l dC dI ca y nl nb rn fd Lf Cf Mf Hf Sf qm qd lt gl gh lw6 hi6 np Xf ws kd H.size wM (xs ((nI (7 * n + 1)) : Int32).toNatClampNeg) (xs ((nI (7 * n + 2)) : Int32).toNatClampNeg) (xs ((nI (7 * n + 3)) : Int32).toNatClampNeg) hm
  have hFc := fr_l hD hS hA
  refine va_calli (va_runV (As := [.int (xs ((nI (7 * n + 1)) : Int32).toNatClampNeg), .int (xs ((nI (7 * n + 2)) : Int32).toNatClampNeg), .int (xs ((nI (7 * n + 3)) : Int32).toNatClampNeg)]) (rest := []) ⟨hx, hb, hml, hown, hts⟩ hMet2 (⟨callB_of 3 hts (gd mw_1097) rfl rfl rfl (hts _ mw_8) (hts _ mw_1094) ds_X11_bounds ⟨Nat.le_of_ble_eq_true rfl, Nat.le_of_ble_eq_true rfl⟩, (hts _ mw_1095), (hts _ mw_1096)⟩) (pr_V (w_left hP) hK (d_left hD) hE (va_recv hK (w_left hP) (ci := 11) (q0 := 0) rfl hfs2)) rfl rfl hl.1 rfl (lv_room (Nat.le_of_ble_eq_true rfl)) dL_law_518 ⟨by show (100 + 99 * (n + 1)) + 0 ≤ 600000; omega, by show (410000 + 5499 * (n + 1) + 16384 * (g + d_)) + 0 ≤ 7302250; omega⟩) hS (fun q _ h => hFc q h) hFc (fun rv_2 u_2 t_ H1 locs ht hvm hw_ hB hz1 hk1 hS => ?_)
  obtain ⟨hP1, hD1⟩ := hB
  rw [ht] at hP1
  obtain ⟨hP, hD⟩ := frm hP hD hk1 hFc hP1 hD1
  generalize H1 = H at hP hS ⊢
  obtain ⟨e_, hm2⟩ := hw_
  obtain rfl : rv_2 = (spBd (xs ((nI (7 * n + 1)) : Int32).toNatClampNeg)) := e_
  have hP := hP.perm List.perm_append_comm
  have hD := hD.perm List.perm_append_comm
  refine lv_pop hx hb dL_law_521 rfl ?_
  refine lv_goto (tgt := 1319) hx hb dL_law_522 (by decide) ?_
  exact kk d0 (g + d_) _ _ _ hd0 ⟨_, _, _, _, _, _, _, _, _, _, _, _, _, _, _, _, _, _, _, _, u_1, u_2, hk2, hm2, hP, hD, hS, hl⟩

set_option maxHeartbeats 4000000 in
set_option maxRecDepth 100000 in
theorem lc_9 {p : Program} {e : Env} {s : State} {m : MethodId} {below : List Frame} {meth : Method} {c : Code} (l : Launch) {b L : Nat} {xs : Nat → Int32} {dC : Nat → ClassId} {dI : Nat → Nat → Nat} {ca : Nat → ClassId} {Q : State → Prop} {d0 : Drawn} {x y n g : Nat} {H : Heap} {locs : List Loc} {ls : Array Slot} (hd0 : s.drawn.sameBut d0 lw_cs) (F : lwF p s d0 m c b L xs dC dI ca) (hL : L ≤ 3584) (hn : 7 * n + 7 ≤ L) (hI : lI dC dI ca s.heap x y b n g H locs ls) (kk : ∀ (d1 : Drawn) (g1 : Nat) (H : Heap) (locs : List Loc) (ls : Array Slot), s.drawn.sameBut d1 lw_cs → lI dC dI ca s.heap x y b n g1 H locs ls → W p l e room_1 (s.setDrawn d1) m #[Value.ref b] below meth c H locs (100 + 99 * (n + 1)) (410000 + 5499 * (n + 1) + 16384 * g1) Q (F0 m 1319 ls [])) : W p l e room_1 (s.setDrawn d0) m #[Value.ref b] below meth c H locs (100 + 99 * n) (410000 + 5499 * n + 16384 * g) Q (F0 m 525 ls []) := by
  obtain ⟨hx, hb, hml, hown, hts, hE, hK, hX, hbl⟩ := F
  obtain ⟨nl, nb, rn, fd, Lf, Cf, Mf, Hf, Sf, qm, qd, lt, gl, gh, lw6, hi6, np, Xf, ws, kd, wK, wM, hk, hm, hP, hD, hS, hl⟩ := hI
  have hA : ∀ q : Nat, s.heap.size ≤ q → (fun q : Nat => s.heap.size ≤ q) q := fun _ h => h
  have hbA : ¬ (fun q : Nat => s.heap.size ≤ q) b := Nat.not_le.mpr hbl
  refine lv_aload_n hx hb dL_law_525 rfl (lv_at hl 2 rfl) ?_
  refine lv_aload_n hx hb dL_law_526 rfl (lv_at hl 3 rfl) ?_
  refine lv_iload_n hx hb dL_law_527 rfl (lv_at hl 0 rfl) ?_
  refine lv_iconst (v := 1) hx hb dL_law_528 (by decide) ?_
  refine lv_iadd hx hb dL_law_529 ?_
  refine lv_topi (fun y_ e_ => ?_)
  obtain rfl : y_ = (nI (7 * n + 1)) := e_.trans (nI_add (7 * n) (1))
  refine va_sld hx hb hX hbl hbA hS (vp_in_nI (show 7 * n + 1 < L by omega) (by omega)) dL_law_530 ?_
  refine lv_aload_n hx hb dL_law_531 rfl (lv_at hl 3 rfl) ?_
  refine lv_iload_n hx hb dL_law_532 rfl (lv_at hl 0 rfl) ?_
  refine lv_iconst (v := 2) hx hb dL_law_533 (by decide) ?_
  refine lv_iadd hx hb dL_law_534 ?_
  refine lv_topi (fun y_ e_ => ?_)
  obtain rfl : y_ = (nI (7 * n + 2)) := e_.trans (nI_add (7 * n) (2))
  refine va_sld hx hb hX hbl hbA hS (vp_in_nI (show 7 * n + 2 < L by omega) (by omega)) dL_law_535 ?_
  have hgl := kOK_g hk
  obtain ⟨fs, hfs⟩ := kOK_x hk
  obtain ⟨mc_, ms_, d_, hmc, hms, hd_, hMet⟩ := K_cook l dC dI ca x g nl nb rn fd Lf Cf Mf Hf Sf qm qd lt gl gh lw6 hi6 np Xf ws kd H.size wK (xs ((nI (7 * n + 1)) : Int32).toNatClampNeg) (xs ((nI (7 * n + 2)) : Int32).toNatClampNeg) hk
  have hFc := fr_l hD hS hA
  refine va_calli (va_runV (As := [.int (xs ((nI (7 * n + 1)) : Int32).toNatClampNeg), .int (xs ((nI (7 * n + 2)) : Int32).toNatClampNeg)]) (rest := []) ⟨hx, hb, hml, hown, hts⟩ hMet (⟨callB_of 2 hts (gd mw_436) rfl rfl rfl (hts _ mw_1) (hts _ mw_433) ds_X10_cook ⟨Nat.le_of_ble_eq_true rfl, Nat.le_of_ble_eq_true rfl⟩, (hts _ mw_434), (hts _ mw_435)⟩) (pr_V (w_left hP) hK (d_left hD) hE (va_recv hK (w_left hP) (ci := 10) (q0 := 0) rfl hfs)) rfl rfl hl.1 rfl (lv_room (Nat.le_of_ble_eq_true rfl)) dL_law_536 ⟨by show (100 + 99 * n) + mc_ ≤ 600000; omega, by show (410000 + 5499 * n + 16384 * g) + ms_ ≤ 7302250; omega⟩) hS (fun q _ h => hFc q h) hFc (fun rv_1 u_1 t_ H1 locs ht hvm hw_ hB hz1 hk1 hS => ?_)
  obtain ⟨hP1, hD1⟩ := hB
  rw [ht] at hP1
  obtain ⟨hP, hD⟩ := frm hP hD hk1 hFc hP1 hD1
  generalize H1 = H at hP hS ⊢
  obtain ⟨e_, hk2⟩ := hw_
  obtain rfl : rv_1 = (ckA nb Cf Mf Hf Sf gl gh fd lt rn Xf (xs ((nI (7 * n + 1)) : Int32).toNatClampNeg) (xs ((nI (7 * n + 2)) : Int32).toNatClampNeg)) := e_
  refine W.widen (k := (100 + 99 * (n + 1))) (n := (410000 + 5499 * (n + 1) + 16384 * (g + d_))) (by omega) (by omega) ?_
  refine lv_pop hx hb dL_law_539 rfl ?_
  refine lv_aload_n hx hb dL_law_540 rfl (lv_at hl 1 rfl) ?_
  refine lv_aload_n hx hb dL_law_541 rfl (lv_at hl 3 rfl) ?_
  refine lv_iload_n hx hb dL_law_542 rfl (lv_at hl 0 rfl) ?_
  refine lv_iconst (v := 1) hx hb dL_law_543 (by decide) ?_
  refine lv_iadd hx hb dL_law_544 ?_
  refine lv_topi (fun y_ e_ => ?_)
  obtain rfl : y_ = (nI (7 * n + 1)) := e_.trans (nI_add (7 * n) (1))
  refine va_sld hx hb hX hbl hbA hS (vp_in_nI (show 7 * n + 1 < L by omega) (by omega)) dL_law_545 ?_
  refine lv_aload_n hx hb dL_law_546 rfl (lv_at hl 3 rfl) ?_
  refine lv_iload_n hx hb dL_law_547 rfl (lv_at hl 0 rfl) ?_
  refine lv_iconst (v := 2) hx hb dL_law_548 (by decide) ?_
  refine lv_iadd hx hb dL_law_549 ?_
  refine lv_topi (fun y_ e_ => ?_)
  obtain rfl : y_ = (nI (7 * n + 2)) := e_.trans (nI_add (7 * n) (2))
  refine va_sld hx hb hX hbl hbA hS (vp_in_nI (show 7 * n + 2 < L by omega) (by omega)) dL_law_550 ?_
  have hP := hP.perm List.perm_append_comm
  have hD := hD.perm List.perm_append_comm
  obtain ⟨fs2, hfs2⟩ := mOK_x hm
  have hMet2 := M_cook l dC dI ca y nl nb rn fd Lf Cf Mf Hf Sf qm qd lt gl gh lw6 hi6 np Xf ws kd H.size wM (xs ((nI (7 * n + 1)) : Int32).toNatClampNeg) (xs ((nI (7 * n + 2)) : Int32).toNatClampNeg) hm
  have hFc := fr_l hD hS hA
  refine va_calli (va_runV (As := [.int (xs ((nI (7 * n + 1)) : Int32).toNatClampNeg), .int (xs ((nI (7 * n + 2)) : Int32).toNatClampNeg)]) (rest := []) ⟨hx, hb, hml, hown, hts⟩ hMet2 (⟨callB_of 2 hts (gd mw_1101) rfl rfl rfl (hts _ mw_8) (hts _ mw_1098) ds_X11_cook ⟨Nat.le_of_ble_eq_true rfl, Nat.le_of_ble_eq_true rfl⟩, (hts _ mw_1099), (hts _ mw_1100)⟩) (pr_V (w_left hP) hK (d_left hD) hE (va_recv hK (w_left hP) (ci := 11) (q0 := 0) rfl hfs2)) rfl rfl hl.1 rfl (lv_room (Nat.le_of_ble_eq_true rfl)) dL_law_551 ⟨by show (100 + 99 * (n + 1)) + 0 ≤ 600000; omega, by show (410000 + 5499 * (n + 1) + 16384 * (g + d_)) + 0 ≤ 7302250; omega⟩) hS (fun q _ h => hFc q h) hFc (fun rv_2 u_2 t_ H1 locs ht hvm hw_ hB hz1 hk1 hS => ?_)
  obtain ⟨hP1, hD1⟩ := hB
  rw [ht] at hP1
  obtain ⟨hP, hD⟩ := frm hP hD hk1 hFc hP1 hD1
  generalize H1 = H at hP hS ⊢
  obtain ⟨e_, hm2⟩ := hw_
  obtain rfl : rv_2 = (ckA nb Cf Mf Hf Sf gl gh fd lt rn Xf (xs ((nI (7 * n + 1)) : Int32).toNatClampNeg) (xs ((nI (7 * n + 2)) : Int32).toNatClampNeg)) := e_
  have hP := hP.perm List.perm_append_comm
  have hD := hD.perm List.perm_append_comm
  refine lv_pop hx hb dL_law_554 rfl ?_
  refine lv_goto (tgt := 1319) hx hb dL_law_555 (by decide) ?_
  exact kk d0 (g + d_) _ _ _ hd0 ⟨_, _, _, _, _, _, _, _, _, _, _, _, _, _, _, _, _, _, _, _, u_1, u_2, hk2, hm2, hP, hD, hS, hl⟩

set_option maxHeartbeats 4000000 in
set_option maxRecDepth 100000 in
theorem lc_10 {p : Program} {e : Env} {s : State} {m : MethodId} {below : List Frame} {meth : Method} {c : Code} (l : Launch) {b L : Nat} {xs : Nat → Int32} {dC : Nat → ClassId} {dI : Nat → Nat → Nat} {ca : Nat → ClassId} {Q : State → Prop} {d0 : Drawn} {x y n g : Nat} {H : Heap} {locs : List Loc} {ls : Array Slot} (hd0 : s.drawn.sameBut d0 lw_cs) (F : lwF p s d0 m c b L xs dC dI ca) (hL : L ≤ 3584) (hn : 7 * n + 7 ≤ L) (hI : lI dC dI ca s.heap x y b n g H locs ls) (kk : ∀ (d1 : Drawn) (g1 : Nat) (H : Heap) (locs : List Loc) (ls : Array Slot), s.drawn.sameBut d1 lw_cs → lI dC dI ca s.heap x y b n g1 H locs ls → W p l e room_1 (s.setDrawn d1) m #[Value.ref b] below meth c H locs (100 + 99 * (n + 1)) (410000 + 5499 * (n + 1) + 16384 * g1) Q (F0 m 1319 ls [])) : W p l e room_1 (s.setDrawn d0) m #[Value.ref b] below meth c H locs (100 + 99 * n) (410000 + 5499 * n + 16384 * g) Q (F0 m 558 ls []) := by
  obtain ⟨hx, hb, hml, hown, hts, hE, hK, hX, hbl⟩ := F
  obtain ⟨nl, nb, rn, fd, Lf, Cf, Mf, Hf, Sf, qm, qd, lt, gl, gh, lw6, hi6, np, Xf, ws, kd, wK, wM, hk, hm, hP, hD, hS, hl⟩ := hI
  have hA : ∀ q : Nat, s.heap.size ≤ q → (fun q : Nat => s.heap.size ≤ q) q := fun _ h => h
  have hbA : ¬ (fun q : Nat => s.heap.size ≤ q) b := Nat.not_le.mpr hbl
  refine lv_aload_n hx hb dL_law_558 rfl (lv_at hl 2 rfl) ?_
  refine lv_aload_n hx hb dL_law_559 rfl (lv_at hl 3 rfl) ?_
  refine lv_iload_n hx hb dL_law_560 rfl (lv_at hl 0 rfl) ?_
  refine lv_iconst (v := 1) hx hb dL_law_561 (by decide) ?_
  refine lv_iadd hx hb dL_law_562 ?_
  refine lv_topi (fun y_ e_ => ?_)
  obtain rfl : y_ = (nI (7 * n + 1)) := e_.trans (nI_add (7 * n) (1))
  refine va_sld hx hb hX hbl hbA hS (vp_in_nI (show 7 * n + 1 < L by omega) (by omega)) dL_law_563 ?_
  have hgl := kOK_g hk
  obtain ⟨fs, hfs⟩ := kOK_x hk
  obtain ⟨mc_, ms_, d_, hmc, hms, hd_, hMet⟩ := K_vouch l dC dI ca x g nl nb rn fd Lf Cf Mf Hf Sf qm qd lt gl gh lw6 hi6 np Xf ws kd H.size wK (xs ((nI (7 * n + 1)) : Int32).toNatClampNeg) hk
  have hFc := fr_l hD hS hA
  refine va_calli (va_runV (As := [.int (xs ((nI (7 * n + 1)) : Int32).toNatClampNeg)]) (rest := []) ⟨hx, hb, hml, hown, hts⟩ hMet (⟨callB_of 1 hts (gd mw_488) rfl rfl rfl (hts _ mw_1) (hts _ mw_485) ds_X10_vouch ⟨Nat.le_of_ble_eq_true rfl, Nat.le_of_ble_eq_true rfl⟩, (hts _ mw_486), (hts _ mw_487)⟩) (pr_V (w_left hP) hK (d_left hD) hE (va_recv hK (w_left hP) (ci := 10) (q0 := 0) rfl hfs)) rfl rfl hl.1 rfl (lv_room (Nat.le_of_ble_eq_true rfl)) dL_law_564 ⟨by show (100 + 99 * n) + mc_ ≤ 600000; omega, by show (410000 + 5499 * n + 16384 * g) + ms_ ≤ 7302250; omega⟩) hS (fun q _ h => hFc q h) hFc (fun rv_1 u_1 t_ H1 locs ht hvm hw_ hB hz1 hk1 hS => ?_)
  obtain ⟨hP1, hD1⟩ := hB
  rw [ht] at hP1
  obtain ⟨hP, hD⟩ := frm hP hD hk1 hFc hP1 hD1
  generalize H1 = H at hP hS ⊢
  obtain ⟨e_, hk2⟩ := hw_
  obtain rfl : rv_1 = (vcS nb Cf (xs ((nI (7 * n + 1)) : Int32).toNatClampNeg)) := e_
  refine W.widen (k := (100 + 99 * (n + 1))) (n := (410000 + 5499 * (n + 1) + 16384 * (g + d_))) (by omega) (by omega) ?_
  refine lv_pop hx hb dL_law_567 rfl ?_
  refine lv_aload_n hx hb dL_law_568 rfl (lv_at hl 1 rfl) ?_
  refine lv_aload_n hx hb dL_law_569 rfl (lv_at hl 3 rfl) ?_
  refine lv_iload_n hx hb dL_law_570 rfl (lv_at hl 0 rfl) ?_
  refine lv_iconst (v := 1) hx hb dL_law_571 (by decide) ?_
  refine lv_iadd hx hb dL_law_572 ?_
  refine lv_topi (fun y_ e_ => ?_)
  obtain rfl : y_ = (nI (7 * n + 1)) := e_.trans (nI_add (7 * n) (1))
  refine va_sld hx hb hX hbl hbA hS (vp_in_nI (show 7 * n + 1 < L by omega) (by omega)) dL_law_573 ?_
  have hP := hP.perm List.perm_append_comm
  have hD := hD.perm List.perm_append_comm
  obtain ⟨fs2, hfs2⟩ := mOK_x hm
  have hMet2 := M_vouch l dC dI ca y nl nb rn fd Lf Cf Mf Hf Sf qm qd lt gl gh lw6 hi6 np Xf ws kd H.size wM (xs ((nI (7 * n + 1)) : Int32).toNatClampNeg) hm
  have hFc := fr_l hD hS hA
  refine va_calli (va_runV (As := [.int (xs ((nI (7 * n + 1)) : Int32).toNatClampNeg)]) (rest := []) ⟨hx, hb, hml, hown, hts⟩ hMet2 (⟨callB_of 1 hts (gd mw_1119) rfl rfl rfl (hts _ mw_8) (hts _ mw_1116) ds_X11_vouch ⟨Nat.le_of_ble_eq_true rfl, Nat.le_of_ble_eq_true rfl⟩, (hts _ mw_1117), (hts _ mw_1118)⟩) (pr_V (w_left hP) hK (d_left hD) hE (va_recv hK (w_left hP) (ci := 11) (q0 := 0) rfl hfs2)) rfl rfl hl.1 rfl (lv_room (Nat.le_of_ble_eq_true rfl)) dL_law_574 ⟨by show (100 + 99 * (n + 1)) + 0 ≤ 600000; omega, by show (410000 + 5499 * (n + 1) + 16384 * (g + d_)) + 0 ≤ 7302250; omega⟩) hS (fun q _ h => hFc q h) hFc (fun rv_2 u_2 t_ H1 locs ht hvm hw_ hB hz1 hk1 hS => ?_)
  obtain ⟨hP1, hD1⟩ := hB
  rw [ht] at hP1
  obtain ⟨hP, hD⟩ := frm hP hD hk1 hFc hP1 hD1
  generalize H1 = H at hP hS ⊢
  obtain ⟨e_, hm2⟩ := hw_
  obtain rfl : rv_2 = (vcS nb Cf (xs ((nI (7 * n + 1)) : Int32).toNatClampNeg)) := e_
  have hP := hP.perm List.perm_append_comm
  have hD := hD.perm List.perm_append_comm
  refine lv_pop hx hb dL_law_577 rfl ?_
  refine lv_goto (tgt := 1319) hx hb dL_law_578 (by decide) ?_
  exact kk d0 (g + d_) _ _ _ hd0 ⟨_, _, _, _, _, _, _, _, _, _, _, _, _, _, _, _, _, _, _, _, u_1, u_2, hk2, hm2, hP, hD, hS, hl⟩
