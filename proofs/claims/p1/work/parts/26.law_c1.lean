set_option maxHeartbeats 4000000 in
set_option maxRecDepth 100000 in
theorem law_c8 {p : Program} {e : Env} {s : State} {m : MethodId} {below : List Frame} {meth : Method} {c : Code} (l : Launch) {b : Nat} {xs : Nat → Int32} {dC : Nat → ClassId} {dI : Nat → Nat → Nat} (x : Nat) (a : Nat → Nat) (cy : Nat → ClassId) (y : Nat) (b2 : Nat → Nat) (cz : Nat → ClassId) {H : Heap} {locs : List Loc} {ls : Array Slot} (C0 : lw_At p s m meth c b 7 xs) (hE : ext s) (hts : ∀ w ∈ gT, w.before #[Value.ref b] s = true) (hK : va_K (dC, dI) vwCl (lT cy cz) s) (hP : va_P (dC, dI) vwCl (lW x a cy y b2 cz) H) (hD : va_D (fun q : Nat => s.heap.size ≤ q) (lW x a cy y b2 cz)) (hS : va_S (fun q : Nat => s.heap.size ≤ q) s.heap H locs) (hl : lv_has ls 4 [(3, .int 0), (2, .ref y), (1, .ref x), (0, .ref b)]) : W p l e room_1 s m #[Value.ref b] below meth c H locs 74 405288 (lw_Z below #[Value.ref b] s) (F0 m 482 ls []) := by
  have C1 := C0
  obtain ⟨hx, hb, hr, hml, hown, hts0, hX, hbl, hlocks, hgv⟩ := C1
  have hA : ∀ q : Nat, s.heap.size ≤ q → (fun q : Nat => s.heap.size ≤ q) q := fun _ h => h
  have hbA : ¬ (fun q : Nat => s.heap.size ≤ q) b := Nat.not_le.mpr hbl
  refine lv_aload_n hx hb dL_law_482 rfl (lv_at hl 2 rfl) ?_
  refine lv_aload_n hx hb dL_law_483 rfl (lv_at hl 3 rfl) ?_
  refine lv_iload_n hx hb dL_law_484 rfl (lv_at hl 0 rfl) ?_
  refine lv_iconst (v := 1) hx hb dL_law_485 (by decide) ?_
  refine lv_iadd hx hb dL_law_486 ?_
  refine lv_topi (fun y_ e_ => ?_)
  obtain rfl : y_ = 1 := e_.trans (by decide)
  refine va_sld hx hb hX hbl hbA hS (by unfold vp_in; decide) dL_law_487 ?_
  refine lv_aload_n hx hb dL_law_488 rfl (lv_at hl 3 rfl) ?_
  refine lv_iload_n hx hb dL_law_489 rfl (lv_at hl 0 rfl) ?_
  refine lv_iconst (v := 2) hx hb dL_law_490 (by decide) ?_
  refine lv_iadd hx hb dL_law_491 ?_
  refine lv_topi (fun y_ e_ => ?_)
  obtain rfl : y_ = 2 := e_.trans (by decide)
  refine va_sld hx hb hX hbl hbA hS (by unfold vp_in; decide) dL_law_492 ?_
  refine lv_aload_n hx hb dL_law_493 rfl (lv_at hl 3 rfl) ?_
  refine lv_iload_n hx hb dL_law_494 rfl (lv_at hl 0 rfl) ?_
  refine lv_iconst (v := 3) hx hb dL_law_495 (by decide) ?_
  refine lv_iadd hx hb dL_law_496 ?_
  refine lv_topi (fun y_ e_ => ?_)
  obtain rfl : y_ = 3 := e_.trans (by decide)
  refine va_sld hx hb hX hbl hbA hS (by unfold vp_in; decide) dL_law_497 ?_
  have hPc := hP.sub (ws' := [(x, .inr (10, (kO a))), ((a 10), .inr (8, (rO a))), ((a 25), .inl ((cy 25), 6, .inl (fun _ => 0))), ((a 26), .inl ((cy 26), 6, .inl (fun _ => 900)))]) [0, 7, 10, 11] rfl
  have hKc := hK.sub (tys' := [((cy 25), .int), ((cy 26), .int)]) [8, 9] rfl
  have hDc := hD.sub (ws' := [(x, .inr (10, (kO a))), ((a 10), .inr (8, (rO a))), ((a 25), .inl ((cy 25), 6, .inl (fun _ => 0))), ((a 26), .inl ((cy 26), 6, .inl (fun _ => 900)))]) [0, 7, 10, 11] (by decide) rfl
  have hFc := va_free (wc := [(x, .inr (10, (kO a))), ((a 10), .inr (8, (rO a))), ((a 25), .inl ((cy 25), 6, .inl (fun _ => 0))), ((a 26), .inl ((cy 26), 6, .inl (fun _ => 900)))]) hD hS hA [0, 7, 10, 11] rfl
  refine va_calli (va_runV (As := [.int (xs (1 : Int32).toNatClampNeg), .int (xs (2 : Int32).toNatClampNeg), .int (xs (3 : Int32).toNatClampNeg)]) (rest := []) ⟨hx, hb, hml, hown, hts⟩ (k_bounds l dC dI H.size x a cy (xs (1 : Int32).toNatClampNeg) (xs (2 : Int32).toNatClampNeg) (xs (3 : Int32).toNatClampNeg)) (⟨callB_of 3 hts (gd mw_432) rfl rfl rfl (hts _ mw_1) (hts _ mw_429) ds_X10_bounds ⟨Nat.le_of_ble_eq_true rfl, Nat.le_of_ble_eq_true rfl⟩, (hts _ mw_430), (hts _ mw_431)⟩) (pr_V hPc hKc hDc hE (va_recv hKc hPc (ci := 10) (q0 := 0) rfl rfl)) rfl rfl hl.1 rfl (lv_room (Nat.le_of_ble_eq_true rfl)) dL_law_498 ⟨Nat.le_of_ble_eq_true rfl, Nat.le_of_ble_eq_true rfl⟩) hS (fun q _ h => hFc q h) hFc (fun r_ u_ t_ H1 locs ht hvm hw_ hB hz1 hk1 hS => ?_)
  obtain rfl : r_ = (sp_bounds (xs (1 : Int32).toNatClampNeg)) := hw_
  have hP1 : va_P (dC, dI) vwCl [] H1 := fun k q h => by simp at h
  have hD1 : va_D (va_A [(x, .inr (10, (kO a))), ((a 10), .inr (8, (rO a))), ((a 25), .inl ((cy 25), 6, .inl (fun _ => 0))), ((a 26), .inl ((cy 26), 6, .inl (fun _ => 900)))] H.size) [] := ⟨fun i j p q h => by simp at h, fun k q h => by simp at h⟩
  obtain ⟨hP, hD⟩ := va_join (wr := [((a 0), .inl ((cy 0), 40, .inr (.inr (.inr (.inr (fun _ => none)))))), ((a 2), .inl ((cy 2), 40, .inr (.inr (.inr (.inr (fun _ => none)))))), ((a 4), .inl ((cy 4), 600, .inr (.inr (.inr (.inr (fun _ => none)))))), ((a 6), .inl ((cy 6), 200, .inr (.inr (.inr (.inr (fun _ => none)))))), ((a 8), .inl ((cy 8), 144, .inl (fun _ => (-1)))), ((a 9), .inl ((cy 9), 144, .inl (fun _ => 0))), ((a 20), .inl ((cy 20), 16, .inl (fun _ => 0))), ((a 21), .inl ((cy 21), 16, .inl (fun _ => 0))), ((a 11), .inr (9, [.int 450, .int 270, .int 310, .int 320, .int 290, .int 2])), ((a 12), .inr (3, (keO a))), ((a 30), .inl ((cy 30), 36, .inl (fun _ => 0))), ((a 31), .inl ((cy 31), 10, .inl (fun _ => 0))), ((a 32), .inl ((cy 32), 10, .inl (fun _ => 0))), ((a 34), .inl ((cy 34), 10, .inl (fun _ => 0))), ((a 38), .inl ((cy 38), 10, .inl (fun _ => 0))), ((a 39), .inl ((cy 39), 6, .inl (fun _ => 0))), ((a 40), .inl ((cy 40), 6, .inl (fun _ => 0))), ((a 41), .inl ((cy 41), 6, .inl (fun _ => 0))), ((a 13), .inr (2, (chO a))), ((a 50), .inl ((cy 50), 40, .inl (fun _ => 0))), ((a 51), .inl ((cy 51), 40, .inl (fun _ => 0))), ((a 52), .inl ((cy 52), 40, .inl (fun _ => 0))), ((a 14), .inr (5, (paO a))), ((a 60), .inl ((cy 60), 14, .inl (fun _ => 0))), (y, .inr (11, (mO b2))), ((b2 6), .inl ((cz 6), 40, .inl (fun _ => 0))), ((b2 7), .inl ((cz 7), 40, .inl (fun _ => 0))), ((b2 8), .inl ((cz 8), 40, .inl (fun _ => 0))), ((b2 9), .inl ((cz 9), 40, .inl (fun _ => 0))), ((b2 10), .inl ((cz 10), 40, .inl (fun _ => 0))), ((b2 11), .inl ((cz 11), 40, .inl (fun _ => 0))), ((b2 12), .inl ((cz 12), 40, .inl (fun _ => 0))), ((b2 13), .inl ((cz 13), 40, .inl (fun _ => 0))), ((b2 14), .inl ((cz 14), 40, .inl (fun _ => 0))), ((b2 15), .inl ((cz 15), 40, .inl (fun _ => 0))), ((b2 16), .inl ((cz 16), 40, .inl (fun _ => 0))), ((b2 17), .inl ((cz 17), 40, .inl (fun _ => 0))), ((b2 18), .inl ((cz 18), 40, .inl (fun _ => 0))), ((b2 19), .inl ((cz 19), 40, .inl (fun _ => 0))), ((b2 20), .inl ((cz 20), 40, .inl (fun _ => 0))), ((b2 21), .inl ((cz 21), 40, .inl (fun _ => 0))), ((b2 22), .inl ((cz 22), 1600, .inl (fun _ => 0))), ((b2 23), .inl ((cz 23), 40, .inl (fun _ => 0))), ((b2 24), .inl ((cz 24), 40, .inl (fun _ => 0))), ((b2 25), .inl ((cz 25), 2400, .inr (.inr (.inl (fun _ => 0))))), ((b2 26), .inl ((cz 26), 2400, .inl (fun _ => 0))), ((b2 27), .inl ((cz 27), 16, .inl (fun _ => 0))), ((b2 28), .inl ((cz 28), 16, .inl (fun _ => 0))), ((b2 31), .inl ((cz 31), 6, .inl (fun _ => 0))), ((b2 32), .inl ((cz 32), 6, .inl (fun _ => 900))), ((b2 33), .inl ((cz 33), 6, .inl (upd (upd (upd (upd (upd (upd (fun _ => 0) (0 : Int32).toNatClampNeg 450) (1 : Int32).toNatClampNeg 270) (2 : Int32).toNatClampNeg 310) (3 : Int32).toNatClampNeg 320) (4 : Int32).toNatClampNeg 290) (5 : Int32).toNatClampNeg 2))), ((b2 34), .inl ((cz 34), 36, .inl (fun _ => 0))), ((b2 35), .inl ((cz 35), 10, .inl (fun _ => 0))), ((b2 36), .inl ((cz 36), 600, .inl (fun _ => 0))), ((b2 37), .inl ((cz 37), 600, .inl (fun _ => 0))), ((b2 38), .inl ((cz 38), 600, .inl (fun _ => 0))), ((b2 39), .inl ((cz 39), 600, .inl (fun _ => 0))), ((b2 40), .inl ((cz 40), 600, .inl (fun _ => 0))), ((b2 41), .inl ((cz 41), 600, .inl (fun _ => 0))), ((b2 42), .inl ((cz 42), 600, .inl (fun _ => 0))), ((b2 43), .inl ((cz 43), 144, .inl (fun _ => (-1)))), ((b2 44), .inl ((cz 44), 200, .inl (fun _ => 0))), ((b2 45), .inl ((cz 45), 144, .inl (fun _ => 0))), ((b2 46), .inl ((cz 46), 144, .inl (fun _ => 0))), ((b2 47), .inl ((cz 47), 144, .inl (fun _ => 0))), ((b2 50), .inl ((cz 50), 348500, .inl (fun _ => 0))), ((b2 51), .inl ((cz 51), 40, .inl (fun _ => 0))), ((b2 53), .inl ((cz 53), 16384, .inl (fun _ => 0))), ((b2 54), .inl ((cz 54), 16384, .inl (fun _ => 0))), ((b2 55), .inl ((cz 55), 10240, .inl (fun _ => 0)))]) (w1 := []) hP hD [0, 7, 10, 11] [1, 2, 3, 4, 5, 6, 8, 9, 12, 13, 14, 15, 16, 17, 18, 19, 20, 21, 22, 23, 24, 25, 26, 27, 28, 29, 30, 31, 32, 33, 34, 35, 36, 37, 38, 39, 40, 41, 42, 43, 44, 45, 46, 47, 48, 49, 50, 51, 52, 53, 54, 55, 56, 57, 58, 59, 60, 61, 62, 63, 64, 65, 66, 67, 68, 69, 70, 71, 72, 73] rfl rfl (by decide) (by decide) hk1 hFc hP1 hD1
  generalize H1 = H at hP hS ⊢
  have hP : va_P (dC, dI) vwCl [((a 0), .inl ((cy 0), 40, .inr (.inr (.inr (.inr (fun _ => none)))))), ((a 2), .inl ((cy 2), 40, .inr (.inr (.inr (.inr (fun _ => none)))))), ((a 4), .inl ((cy 4), 600, .inr (.inr (.inr (.inr (fun _ => none)))))), ((a 6), .inl ((cy 6), 200, .inr (.inr (.inr (.inr (fun _ => none)))))), ((a 8), .inl ((cy 8), 144, .inl (fun _ => (-1)))), ((a 9), .inl ((cy 9), 144, .inl (fun _ => 0))), ((a 20), .inl ((cy 20), 16, .inl (fun _ => 0))), ((a 21), .inl ((cy 21), 16, .inl (fun _ => 0))), ((a 11), .inr (9, [.int 450, .int 270, .int 310, .int 320, .int 290, .int 2])), ((a 12), .inr (3, (keO a))), ((a 30), .inl ((cy 30), 36, .inl (fun _ => 0))), ((a 31), .inl ((cy 31), 10, .inl (fun _ => 0))), ((a 32), .inl ((cy 32), 10, .inl (fun _ => 0))), ((a 34), .inl ((cy 34), 10, .inl (fun _ => 0))), ((a 38), .inl ((cy 38), 10, .inl (fun _ => 0))), ((a 39), .inl ((cy 39), 6, .inl (fun _ => 0))), ((a 40), .inl ((cy 40), 6, .inl (fun _ => 0))), ((a 41), .inl ((cy 41), 6, .inl (fun _ => 0))), ((a 13), .inr (2, (chO a))), ((a 50), .inl ((cy 50), 40, .inl (fun _ => 0))), ((a 51), .inl ((cy 51), 40, .inl (fun _ => 0))), ((a 52), .inl ((cy 52), 40, .inl (fun _ => 0))), ((a 14), .inr (5, (paO a))), ((a 60), .inl ((cy 60), 14, .inl (fun _ => 0))), (y, .inr (11, (mO b2))), ((b2 6), .inl ((cz 6), 40, .inl (fun _ => 0))), ((b2 7), .inl ((cz 7), 40, .inl (fun _ => 0))), ((b2 8), .inl ((cz 8), 40, .inl (fun _ => 0))), ((b2 9), .inl ((cz 9), 40, .inl (fun _ => 0))), ((b2 10), .inl ((cz 10), 40, .inl (fun _ => 0))), ((b2 11), .inl ((cz 11), 40, .inl (fun _ => 0))), ((b2 12), .inl ((cz 12), 40, .inl (fun _ => 0))), ((b2 13), .inl ((cz 13), 40, .inl (fun _ => 0))), ((b2 14), .inl ((cz 14), 40, .inl (fun _ => 0))), ((b2 15), .inl ((cz 15), 40, .inl (fun _ => 0))), ((b2 16), .inl ((cz 16), 40, .inl (fun _ => 0))), ((b2 17), .inl ((cz 17), 40, .inl (fun _ => 0))), ((b2 18), .inl ((cz 18), 40, .inl (fun _ => 0))), ((b2 19), .inl ((cz 19), 40, .inl (fun _ => 0))), ((b2 20), .inl ((cz 20), 40, .inl (fun _ => 0))), ((b2 21), .inl ((cz 21), 40, .inl (fun _ => 0))), ((b2 22), .inl ((cz 22), 1600, .inl (fun _ => 0))), ((b2 23), .inl ((cz 23), 40, .inl (fun _ => 0))), ((b2 24), .inl ((cz 24), 40, .inl (fun _ => 0))), ((b2 25), .inl ((cz 25), 2400, .inr (.inr (.inl (fun _ => 0))))), ((b2 26), .inl ((cz 26), 2400, .inl (fun _ => 0))), ((b2 27), .inl ((cz 27), 16, .inl (fun _ => 0))), ((b2 28), .inl ((cz 28), 16, .inl (fun _ => 0))), ((b2 31), .inl ((cz 31), 6, .inl (fun _ => 0))), ((b2 32), .inl ((cz 32), 6, .inl (fun _ => 900))), ((b2 33), .inl ((cz 33), 6, .inl (upd (upd (upd (upd (upd (upd (fun _ => 0) (0 : Int32).toNatClampNeg 450) (1 : Int32).toNatClampNeg 270) (2 : Int32).toNatClampNeg 310) (3 : Int32).toNatClampNeg 320) (4 : Int32).toNatClampNeg 290) (5 : Int32).toNatClampNeg 2))), ((b2 34), .inl ((cz 34), 36, .inl (fun _ => 0))), ((b2 35), .inl ((cz 35), 10, .inl (fun _ => 0))), ((b2 36), .inl ((cz 36), 600, .inl (fun _ => 0))), ((b2 37), .inl ((cz 37), 600, .inl (fun _ => 0))), ((b2 38), .inl ((cz 38), 600, .inl (fun _ => 0))), ((b2 39), .inl ((cz 39), 600, .inl (fun _ => 0))), ((b2 40), .inl ((cz 40), 600, .inl (fun _ => 0))), ((b2 41), .inl ((cz 41), 600, .inl (fun _ => 0))), ((b2 42), .inl ((cz 42), 600, .inl (fun _ => 0))), ((b2 43), .inl ((cz 43), 144, .inl (fun _ => (-1)))), ((b2 44), .inl ((cz 44), 200, .inl (fun _ => 0))), ((b2 45), .inl ((cz 45), 144, .inl (fun _ => 0))), ((b2 46), .inl ((cz 46), 144, .inl (fun _ => 0))), ((b2 47), .inl ((cz 47), 144, .inl (fun _ => 0))), ((b2 50), .inl ((cz 50), 348500, .inl (fun _ => 0))), ((b2 51), .inl ((cz 51), 40, .inl (fun _ => 0))), ((b2 53), .inl ((cz 53), 16384, .inl (fun _ => 0))), ((b2 54), .inl ((cz 54), 16384, .inl (fun _ => 0))), ((b2 55), .inl ((cz 55), 10240, .inl (fun _ => 0)))] H := hP
  have hD : va_D (fun q : Nat => s.heap.size ≤ q) [((a 0), .inl ((cy 0), 40, .inr (.inr (.inr (.inr (fun _ => none)))))), ((a 2), .inl ((cy 2), 40, .inr (.inr (.inr (.inr (fun _ => none)))))), ((a 4), .inl ((cy 4), 600, .inr (.inr (.inr (.inr (fun _ => none)))))), ((a 6), .inl ((cy 6), 200, .inr (.inr (.inr (.inr (fun _ => none)))))), ((a 8), .inl ((cy 8), 144, .inl (fun _ => (-1)))), ((a 9), .inl ((cy 9), 144, .inl (fun _ => 0))), ((a 20), .inl ((cy 20), 16, .inl (fun _ => 0))), ((a 21), .inl ((cy 21), 16, .inl (fun _ => 0))), ((a 11), .inr (9, [.int 450, .int 270, .int 310, .int 320, .int 290, .int 2])), ((a 12), .inr (3, (keO a))), ((a 30), .inl ((cy 30), 36, .inl (fun _ => 0))), ((a 31), .inl ((cy 31), 10, .inl (fun _ => 0))), ((a 32), .inl ((cy 32), 10, .inl (fun _ => 0))), ((a 34), .inl ((cy 34), 10, .inl (fun _ => 0))), ((a 38), .inl ((cy 38), 10, .inl (fun _ => 0))), ((a 39), .inl ((cy 39), 6, .inl (fun _ => 0))), ((a 40), .inl ((cy 40), 6, .inl (fun _ => 0))), ((a 41), .inl ((cy 41), 6, .inl (fun _ => 0))), ((a 13), .inr (2, (chO a))), ((a 50), .inl ((cy 50), 40, .inl (fun _ => 0))), ((a 51), .inl ((cy 51), 40, .inl (fun _ => 0))), ((a 52), .inl ((cy 52), 40, .inl (fun _ => 0))), ((a 14), .inr (5, (paO a))), ((a 60), .inl ((cy 60), 14, .inl (fun _ => 0))), (y, .inr (11, (mO b2))), ((b2 6), .inl ((cz 6), 40, .inl (fun _ => 0))), ((b2 7), .inl ((cz 7), 40, .inl (fun _ => 0))), ((b2 8), .inl ((cz 8), 40, .inl (fun _ => 0))), ((b2 9), .inl ((cz 9), 40, .inl (fun _ => 0))), ((b2 10), .inl ((cz 10), 40, .inl (fun _ => 0))), ((b2 11), .inl ((cz 11), 40, .inl (fun _ => 0))), ((b2 12), .inl ((cz 12), 40, .inl (fun _ => 0))), ((b2 13), .inl ((cz 13), 40, .inl (fun _ => 0))), ((b2 14), .inl ((cz 14), 40, .inl (fun _ => 0))), ((b2 15), .inl ((cz 15), 40, .inl (fun _ => 0))), ((b2 16), .inl ((cz 16), 40, .inl (fun _ => 0))), ((b2 17), .inl ((cz 17), 40, .inl (fun _ => 0))), ((b2 18), .inl ((cz 18), 40, .inl (fun _ => 0))), ((b2 19), .inl ((cz 19), 40, .inl (fun _ => 0))), ((b2 20), .inl ((cz 20), 40, .inl (fun _ => 0))), ((b2 21), .inl ((cz 21), 40, .inl (fun _ => 0))), ((b2 22), .inl ((cz 22), 1600, .inl (fun _ => 0))), ((b2 23), .inl ((cz 23), 40, .inl (fun _ => 0))), ((b2 24), .inl ((cz 24), 40, .inl (fun _ => 0))), ((b2 25), .inl ((cz 25), 2400, .inr (.inr (.inl (fun _ => 0))))), ((b2 26), .inl ((cz 26), 2400, .inl (fun _ => 0))), ((b2 27), .inl ((cz 27), 16, .inl (fun _ => 0))), ((b2 28), .inl ((cz 28), 16, .inl (fun _ => 0))), ((b2 31), .inl ((cz 31), 6, .inl (fun _ => 0))), ((b2 32), .inl ((cz 32), 6, .inl (fun _ => 900))), ((b2 33), .inl ((cz 33), 6, .inl (upd (upd (upd (upd (upd (upd (fun _ => 0) (0 : Int32).toNatClampNeg 450) (1 : Int32).toNatClampNeg 270) (2 : Int32).toNatClampNeg 310) (3 : Int32).toNatClampNeg 320) (4 : Int32).toNatClampNeg 290) (5 : Int32).toNatClampNeg 2))), ((b2 34), .inl ((cz 34), 36, .inl (fun _ => 0))), ((b2 35), .inl ((cz 35), 10, .inl (fun _ => 0))), ((b2 36), .inl ((cz 36), 600, .inl (fun _ => 0))), ((b2 37), .inl ((cz 37), 600, .inl (fun _ => 0))), ((b2 38), .inl ((cz 38), 600, .inl (fun _ => 0))), ((b2 39), .inl ((cz 39), 600, .inl (fun _ => 0))), ((b2 40), .inl ((cz 40), 600, .inl (fun _ => 0))), ((b2 41), .inl ((cz 41), 600, .inl (fun _ => 0))), ((b2 42), .inl ((cz 42), 600, .inl (fun _ => 0))), ((b2 43), .inl ((cz 43), 144, .inl (fun _ => (-1)))), ((b2 44), .inl ((cz 44), 200, .inl (fun _ => 0))), ((b2 45), .inl ((cz 45), 144, .inl (fun _ => 0))), ((b2 46), .inl ((cz 46), 144, .inl (fun _ => 0))), ((b2 47), .inl ((cz 47), 144, .inl (fun _ => 0))), ((b2 50), .inl ((cz 50), 348500, .inl (fun _ => 0))), ((b2 51), .inl ((cz 51), 40, .inl (fun _ => 0))), ((b2 53), .inl ((cz 53), 16384, .inl (fun _ => 0))), ((b2 54), .inl ((cz 54), 16384, .inl (fun _ => 0))), ((b2 55), .inl ((cz 55), 10240, .inl (fun _ => 0)))] := hD
  refine lv_aload_n hx hb dL_law_501 rfl (lv_at hl 1 rfl) ?_
  refine lv_aload_n hx hb dL_law_502 rfl (lv_at hl 3 rfl) ?_
  refine lv_iload_n hx hb dL_law_503 rfl (lv_at hl 0 rfl) ?_
  refine lv_iconst (v := 1) hx hb dL_law_504 (by decide) ?_
  refine lv_iadd hx hb dL_law_505 ?_
  refine lv_topi (fun y_ e_ => ?_)
  obtain rfl : y_ = 1 := e_.trans (by decide)
  refine va_sld hx hb hX hbl hbA hS (by unfold vp_in; decide) dL_law_506 ?_
  refine lv_aload_n hx hb dL_law_507 rfl (lv_at hl 3 rfl) ?_
  refine lv_iload_n hx hb dL_law_508 rfl (lv_at hl 0 rfl) ?_
  refine lv_iconst (v := 2) hx hb dL_law_509 (by decide) ?_
  refine lv_iadd hx hb dL_law_510 ?_
  refine lv_topi (fun y_ e_ => ?_)
  obtain rfl : y_ = 2 := e_.trans (by decide)
  refine va_sld hx hb hX hbl hbA hS (by unfold vp_in; decide) dL_law_511 ?_
  refine lv_aload_n hx hb dL_law_512 rfl (lv_at hl 3 rfl) ?_
  refine lv_iload_n hx hb dL_law_513 rfl (lv_at hl 0 rfl) ?_
  refine lv_iconst (v := 3) hx hb dL_law_514 (by decide) ?_
  refine lv_iadd hx hb dL_law_515 ?_
  refine lv_topi (fun y_ e_ => ?_)
  obtain rfl : y_ = 3 := e_.trans (by decide)
  refine va_sld hx hb hX hbl hbA hS (by unfold vp_in; decide) dL_law_516 ?_
  have hPc := hP.sub (ws' := [(y, .inr (11, (mO b2))), ((b2 31), .inl ((cz 31), 6, .inl (fun _ => 0))), ((b2 32), .inl ((cz 32), 6, .inl (fun _ => 900)))]) [24, 48, 49] rfl
  have hKc := hK.sub (tys' := [((cz 31), .int), ((cz 32), .int)]) [45, 46] rfl
  have hDc := hD.sub (ws' := [(y, .inr (11, (mO b2))), ((b2 31), .inl ((cz 31), 6, .inl (fun _ => 0))), ((b2 32), .inl ((cz 32), 6, .inl (fun _ => 900)))]) [24, 48, 49] (by decide) rfl
  have hFc := va_free (wc := [(y, .inr (11, (mO b2))), ((b2 31), .inl ((cz 31), 6, .inl (fun _ => 0))), ((b2 32), .inl ((cz 32), 6, .inl (fun _ => 900)))]) hD hS hA [24, 48, 49] rfl
  refine va_calli (va_runV (As := [.int (xs (1 : Int32).toNatClampNeg), .int (xs (2 : Int32).toNatClampNeg), .int (xs (3 : Int32).toNatClampNeg)]) (rest := [.int (sp_bounds (xs (1 : Int32).toNatClampNeg))]) ⟨hx, hb, hml, hown, hts⟩ (m_bounds l dC dI H.size y b2 cz (xs (1 : Int32).toNatClampNeg) (xs (2 : Int32).toNatClampNeg) (xs (3 : Int32).toNatClampNeg)) (⟨callB_of 3 hts (gd mw_1097) rfl rfl rfl (hts _ mw_8) (hts _ mw_1094) ds_X11_bounds ⟨Nat.le_of_ble_eq_true rfl, Nat.le_of_ble_eq_true rfl⟩, (hts _ mw_1095), (hts _ mw_1096)⟩) (pr_V hPc hKc hDc hE (va_recv hKc hPc (ci := 11) (q0 := 0) rfl rfl)) rfl rfl hl.1 rfl (lv_room (Nat.le_of_ble_eq_true rfl)) dL_law_517 ⟨Nat.le_of_ble_eq_true rfl, Nat.le_of_ble_eq_true rfl⟩) hS (fun q _ h => hFc q h) hFc (fun r_ u_ t_ H1 locs ht hvm hw_ hB hz1 hk1 hS => ?_)
  obtain rfl : r_ = (sp_bounds (xs (1 : Int32).toNatClampNeg)) := hw_
  have hP1 : va_P (dC, dI) vwCl [] H1 := fun k q h => by simp at h
  have hD1 : va_D (va_A [(y, .inr (11, (mO b2))), ((b2 31), .inl ((cz 31), 6, .inl (fun _ => 0))), ((b2 32), .inl ((cz 32), 6, .inl (fun _ => 900)))] H.size) [] := ⟨fun i j p q h => by simp at h, fun k q h => by simp at h⟩
  obtain ⟨hP, hD⟩ := va_join (wr := [((a 0), .inl ((cy 0), 40, .inr (.inr (.inr (.inr (fun _ => none)))))), ((a 2), .inl ((cy 2), 40, .inr (.inr (.inr (.inr (fun _ => none)))))), ((a 4), .inl ((cy 4), 600, .inr (.inr (.inr (.inr (fun _ => none)))))), ((a 6), .inl ((cy 6), 200, .inr (.inr (.inr (.inr (fun _ => none)))))), ((a 8), .inl ((cy 8), 144, .inl (fun _ => (-1)))), ((a 9), .inl ((cy 9), 144, .inl (fun _ => 0))), ((a 20), .inl ((cy 20), 16, .inl (fun _ => 0))), ((a 21), .inl ((cy 21), 16, .inl (fun _ => 0))), ((a 11), .inr (9, [.int 450, .int 270, .int 310, .int 320, .int 290, .int 2])), ((a 12), .inr (3, (keO a))), ((a 30), .inl ((cy 30), 36, .inl (fun _ => 0))), ((a 31), .inl ((cy 31), 10, .inl (fun _ => 0))), ((a 32), .inl ((cy 32), 10, .inl (fun _ => 0))), ((a 34), .inl ((cy 34), 10, .inl (fun _ => 0))), ((a 38), .inl ((cy 38), 10, .inl (fun _ => 0))), ((a 39), .inl ((cy 39), 6, .inl (fun _ => 0))), ((a 40), .inl ((cy 40), 6, .inl (fun _ => 0))), ((a 41), .inl ((cy 41), 6, .inl (fun _ => 0))), ((a 13), .inr (2, (chO a))), ((a 50), .inl ((cy 50), 40, .inl (fun _ => 0))), ((a 51), .inl ((cy 51), 40, .inl (fun _ => 0))), ((a 52), .inl ((cy 52), 40, .inl (fun _ => 0))), ((a 14), .inr (5, (paO a))), ((a 60), .inl ((cy 60), 14, .inl (fun _ => 0))), ((b2 6), .inl ((cz 6), 40, .inl (fun _ => 0))), ((b2 7), .inl ((cz 7), 40, .inl (fun _ => 0))), ((b2 8), .inl ((cz 8), 40, .inl (fun _ => 0))), ((b2 9), .inl ((cz 9), 40, .inl (fun _ => 0))), ((b2 10), .inl ((cz 10), 40, .inl (fun _ => 0))), ((b2 11), .inl ((cz 11), 40, .inl (fun _ => 0))), ((b2 12), .inl ((cz 12), 40, .inl (fun _ => 0))), ((b2 13), .inl ((cz 13), 40, .inl (fun _ => 0))), ((b2 14), .inl ((cz 14), 40, .inl (fun _ => 0))), ((b2 15), .inl ((cz 15), 40, .inl (fun _ => 0))), ((b2 16), .inl ((cz 16), 40, .inl (fun _ => 0))), ((b2 17), .inl ((cz 17), 40, .inl (fun _ => 0))), ((b2 18), .inl ((cz 18), 40, .inl (fun _ => 0))), ((b2 19), .inl ((cz 19), 40, .inl (fun _ => 0))), ((b2 20), .inl ((cz 20), 40, .inl (fun _ => 0))), ((b2 21), .inl ((cz 21), 40, .inl (fun _ => 0))), ((b2 22), .inl ((cz 22), 1600, .inl (fun _ => 0))), ((b2 23), .inl ((cz 23), 40, .inl (fun _ => 0))), ((b2 24), .inl ((cz 24), 40, .inl (fun _ => 0))), ((b2 25), .inl ((cz 25), 2400, .inr (.inr (.inl (fun _ => 0))))), ((b2 26), .inl ((cz 26), 2400, .inl (fun _ => 0))), ((b2 27), .inl ((cz 27), 16, .inl (fun _ => 0))), ((b2 28), .inl ((cz 28), 16, .inl (fun _ => 0))), ((b2 33), .inl ((cz 33), 6, .inl (upd (upd (upd (upd (upd (upd (fun _ => 0) (0 : Int32).toNatClampNeg 450) (1 : Int32).toNatClampNeg 270) (2 : Int32).toNatClampNeg 310) (3 : Int32).toNatClampNeg 320) (4 : Int32).toNatClampNeg 290) (5 : Int32).toNatClampNeg 2))), ((b2 34), .inl ((cz 34), 36, .inl (fun _ => 0))), ((b2 35), .inl ((cz 35), 10, .inl (fun _ => 0))), ((b2 36), .inl ((cz 36), 600, .inl (fun _ => 0))), ((b2 37), .inl ((cz 37), 600, .inl (fun _ => 0))), ((b2 38), .inl ((cz 38), 600, .inl (fun _ => 0))), ((b2 39), .inl ((cz 39), 600, .inl (fun _ => 0))), ((b2 40), .inl ((cz 40), 600, .inl (fun _ => 0))), ((b2 41), .inl ((cz 41), 600, .inl (fun _ => 0))), ((b2 42), .inl ((cz 42), 600, .inl (fun _ => 0))), ((b2 43), .inl ((cz 43), 144, .inl (fun _ => (-1)))), ((b2 44), .inl ((cz 44), 200, .inl (fun _ => 0))), ((b2 45), .inl ((cz 45), 144, .inl (fun _ => 0))), ((b2 46), .inl ((cz 46), 144, .inl (fun _ => 0))), ((b2 47), .inl ((cz 47), 144, .inl (fun _ => 0))), ((b2 50), .inl ((cz 50), 348500, .inl (fun _ => 0))), ((b2 51), .inl ((cz 51), 40, .inl (fun _ => 0))), ((b2 53), .inl ((cz 53), 16384, .inl (fun _ => 0))), ((b2 54), .inl ((cz 54), 16384, .inl (fun _ => 0))), ((b2 55), .inl ((cz 55), 10240, .inl (fun _ => 0)))]) (w1 := []) hP hD [24, 48, 49] [0, 1, 2, 3, 4, 5, 6, 7, 8, 9, 10, 11, 12, 13, 14, 15, 16, 17, 18, 19, 20, 21, 22, 23, 25, 26, 27, 28, 29, 30, 31, 32, 33, 34, 35, 36, 37, 38, 39, 40, 41, 42, 43, 44, 45, 46, 47, 50, 51, 52, 53, 54, 55, 56, 57, 58, 59, 60, 61, 62, 63, 64, 65, 66, 67, 68, 69] rfl rfl (by decide) (by decide) hk1 hFc hP1 hD1
  generalize H1 = H at hP hS ⊢
  have hP : va_P (dC, dI) vwCl [((a 0), .inl ((cy 0), 40, .inr (.inr (.inr (.inr (fun _ => none)))))), ((a 2), .inl ((cy 2), 40, .inr (.inr (.inr (.inr (fun _ => none)))))), ((a 4), .inl ((cy 4), 600, .inr (.inr (.inr (.inr (fun _ => none)))))), ((a 6), .inl ((cy 6), 200, .inr (.inr (.inr (.inr (fun _ => none)))))), ((a 8), .inl ((cy 8), 144, .inl (fun _ => (-1)))), ((a 9), .inl ((cy 9), 144, .inl (fun _ => 0))), ((a 20), .inl ((cy 20), 16, .inl (fun _ => 0))), ((a 21), .inl ((cy 21), 16, .inl (fun _ => 0))), ((a 11), .inr (9, [.int 450, .int 270, .int 310, .int 320, .int 290, .int 2])), ((a 12), .inr (3, (keO a))), ((a 30), .inl ((cy 30), 36, .inl (fun _ => 0))), ((a 31), .inl ((cy 31), 10, .inl (fun _ => 0))), ((a 32), .inl ((cy 32), 10, .inl (fun _ => 0))), ((a 34), .inl ((cy 34), 10, .inl (fun _ => 0))), ((a 38), .inl ((cy 38), 10, .inl (fun _ => 0))), ((a 39), .inl ((cy 39), 6, .inl (fun _ => 0))), ((a 40), .inl ((cy 40), 6, .inl (fun _ => 0))), ((a 41), .inl ((cy 41), 6, .inl (fun _ => 0))), ((a 13), .inr (2, (chO a))), ((a 50), .inl ((cy 50), 40, .inl (fun _ => 0))), ((a 51), .inl ((cy 51), 40, .inl (fun _ => 0))), ((a 52), .inl ((cy 52), 40, .inl (fun _ => 0))), ((a 14), .inr (5, (paO a))), ((a 60), .inl ((cy 60), 14, .inl (fun _ => 0))), ((b2 6), .inl ((cz 6), 40, .inl (fun _ => 0))), ((b2 7), .inl ((cz 7), 40, .inl (fun _ => 0))), ((b2 8), .inl ((cz 8), 40, .inl (fun _ => 0))), ((b2 9), .inl ((cz 9), 40, .inl (fun _ => 0))), ((b2 10), .inl ((cz 10), 40, .inl (fun _ => 0))), ((b2 11), .inl ((cz 11), 40, .inl (fun _ => 0))), ((b2 12), .inl ((cz 12), 40, .inl (fun _ => 0))), ((b2 13), .inl ((cz 13), 40, .inl (fun _ => 0))), ((b2 14), .inl ((cz 14), 40, .inl (fun _ => 0))), ((b2 15), .inl ((cz 15), 40, .inl (fun _ => 0))), ((b2 16), .inl ((cz 16), 40, .inl (fun _ => 0))), ((b2 17), .inl ((cz 17), 40, .inl (fun _ => 0))), ((b2 18), .inl ((cz 18), 40, .inl (fun _ => 0))), ((b2 19), .inl ((cz 19), 40, .inl (fun _ => 0))), ((b2 20), .inl ((cz 20), 40, .inl (fun _ => 0))), ((b2 21), .inl ((cz 21), 40, .inl (fun _ => 0))), ((b2 22), .inl ((cz 22), 1600, .inl (fun _ => 0))), ((b2 23), .inl ((cz 23), 40, .inl (fun _ => 0))), ((b2 24), .inl ((cz 24), 40, .inl (fun _ => 0))), ((b2 25), .inl ((cz 25), 2400, .inr (.inr (.inl (fun _ => 0))))), ((b2 26), .inl ((cz 26), 2400, .inl (fun _ => 0))), ((b2 27), .inl ((cz 27), 16, .inl (fun _ => 0))), ((b2 28), .inl ((cz 28), 16, .inl (fun _ => 0))), ((b2 33), .inl ((cz 33), 6, .inl (upd (upd (upd (upd (upd (upd (fun _ => 0) (0 : Int32).toNatClampNeg 450) (1 : Int32).toNatClampNeg 270) (2 : Int32).toNatClampNeg 310) (3 : Int32).toNatClampNeg 320) (4 : Int32).toNatClampNeg 290) (5 : Int32).toNatClampNeg 2))), ((b2 34), .inl ((cz 34), 36, .inl (fun _ => 0))), ((b2 35), .inl ((cz 35), 10, .inl (fun _ => 0))), ((b2 36), .inl ((cz 36), 600, .inl (fun _ => 0))), ((b2 37), .inl ((cz 37), 600, .inl (fun _ => 0))), ((b2 38), .inl ((cz 38), 600, .inl (fun _ => 0))), ((b2 39), .inl ((cz 39), 600, .inl (fun _ => 0))), ((b2 40), .inl ((cz 40), 600, .inl (fun _ => 0))), ((b2 41), .inl ((cz 41), 600, .inl (fun _ => 0))), ((b2 42), .inl ((cz 42), 600, .inl (fun _ => 0))), ((b2 43), .inl ((cz 43), 144, .inl (fun _ => (-1)))), ((b2 44), .inl ((cz 44), 200, .inl (fun _ => 0))), ((b2 45), .inl ((cz 45), 144, .inl (fun _ => 0))), ((b2 46), .inl ((cz 46), 144, .inl (fun _ => 0))), ((b2 47), .inl ((cz 47), 144, .inl (fun _ => 0))), ((b2 50), .inl ((cz 50), 348500, .inl (fun _ => 0))), ((b2 51), .inl ((cz 51), 40, .inl (fun _ => 0))), ((b2 53), .inl ((cz 53), 16384, .inl (fun _ => 0))), ((b2 54), .inl ((cz 54), 16384, .inl (fun _ => 0))), ((b2 55), .inl ((cz 55), 10240, .inl (fun _ => 0)))] H := hP
  have hD : va_D (fun q : Nat => s.heap.size ≤ q) [((a 0), .inl ((cy 0), 40, .inr (.inr (.inr (.inr (fun _ => none)))))), ((a 2), .inl ((cy 2), 40, .inr (.inr (.inr (.inr (fun _ => none)))))), ((a 4), .inl ((cy 4), 600, .inr (.inr (.inr (.inr (fun _ => none)))))), ((a 6), .inl ((cy 6), 200, .inr (.inr (.inr (.inr (fun _ => none)))))), ((a 8), .inl ((cy 8), 144, .inl (fun _ => (-1)))), ((a 9), .inl ((cy 9), 144, .inl (fun _ => 0))), ((a 20), .inl ((cy 20), 16, .inl (fun _ => 0))), ((a 21), .inl ((cy 21), 16, .inl (fun _ => 0))), ((a 11), .inr (9, [.int 450, .int 270, .int 310, .int 320, .int 290, .int 2])), ((a 12), .inr (3, (keO a))), ((a 30), .inl ((cy 30), 36, .inl (fun _ => 0))), ((a 31), .inl ((cy 31), 10, .inl (fun _ => 0))), ((a 32), .inl ((cy 32), 10, .inl (fun _ => 0))), ((a 34), .inl ((cy 34), 10, .inl (fun _ => 0))), ((a 38), .inl ((cy 38), 10, .inl (fun _ => 0))), ((a 39), .inl ((cy 39), 6, .inl (fun _ => 0))), ((a 40), .inl ((cy 40), 6, .inl (fun _ => 0))), ((a 41), .inl ((cy 41), 6, .inl (fun _ => 0))), ((a 13), .inr (2, (chO a))), ((a 50), .inl ((cy 50), 40, .inl (fun _ => 0))), ((a 51), .inl ((cy 51), 40, .inl (fun _ => 0))), ((a 52), .inl ((cy 52), 40, .inl (fun _ => 0))), ((a 14), .inr (5, (paO a))), ((a 60), .inl ((cy 60), 14, .inl (fun _ => 0))), ((b2 6), .inl ((cz 6), 40, .inl (fun _ => 0))), ((b2 7), .inl ((cz 7), 40, .inl (fun _ => 0))), ((b2 8), .inl ((cz 8), 40, .inl (fun _ => 0))), ((b2 9), .inl ((cz 9), 40, .inl (fun _ => 0))), ((b2 10), .inl ((cz 10), 40, .inl (fun _ => 0))), ((b2 11), .inl ((cz 11), 40, .inl (fun _ => 0))), ((b2 12), .inl ((cz 12), 40, .inl (fun _ => 0))), ((b2 13), .inl ((cz 13), 40, .inl (fun _ => 0))), ((b2 14), .inl ((cz 14), 40, .inl (fun _ => 0))), ((b2 15), .inl ((cz 15), 40, .inl (fun _ => 0))), ((b2 16), .inl ((cz 16), 40, .inl (fun _ => 0))), ((b2 17), .inl ((cz 17), 40, .inl (fun _ => 0))), ((b2 18), .inl ((cz 18), 40, .inl (fun _ => 0))), ((b2 19), .inl ((cz 19), 40, .inl (fun _ => 0))), ((b2 20), .inl ((cz 20), 40, .inl (fun _ => 0))), ((b2 21), .inl ((cz 21), 40, .inl (fun _ => 0))), ((b2 22), .inl ((cz 22), 1600, .inl (fun _ => 0))), ((b2 23), .inl ((cz 23), 40, .inl (fun _ => 0))), ((b2 24), .inl ((cz 24), 40, .inl (fun _ => 0))), ((b2 25), .inl ((cz 25), 2400, .inr (.inr (.inl (fun _ => 0))))), ((b2 26), .inl ((cz 26), 2400, .inl (fun _ => 0))), ((b2 27), .inl ((cz 27), 16, .inl (fun _ => 0))), ((b2 28), .inl ((cz 28), 16, .inl (fun _ => 0))), ((b2 33), .inl ((cz 33), 6, .inl (upd (upd (upd (upd (upd (upd (fun _ => 0) (0 : Int32).toNatClampNeg 450) (1 : Int32).toNatClampNeg 270) (2 : Int32).toNatClampNeg 310) (3 : Int32).toNatClampNeg 320) (4 : Int32).toNatClampNeg 290) (5 : Int32).toNatClampNeg 2))), ((b2 34), .inl ((cz 34), 36, .inl (fun _ => 0))), ((b2 35), .inl ((cz 35), 10, .inl (fun _ => 0))), ((b2 36), .inl ((cz 36), 600, .inl (fun _ => 0))), ((b2 37), .inl ((cz 37), 600, .inl (fun _ => 0))), ((b2 38), .inl ((cz 38), 600, .inl (fun _ => 0))), ((b2 39), .inl ((cz 39), 600, .inl (fun _ => 0))), ((b2 40), .inl ((cz 40), 600, .inl (fun _ => 0))), ((b2 41), .inl ((cz 41), 600, .inl (fun _ => 0))), ((b2 42), .inl ((cz 42), 600, .inl (fun _ => 0))), ((b2 43), .inl ((cz 43), 144, .inl (fun _ => (-1)))), ((b2 44), .inl ((cz 44), 200, .inl (fun _ => 0))), ((b2 45), .inl ((cz 45), 144, .inl (fun _ => 0))), ((b2 46), .inl ((cz 46), 144, .inl (fun _ => 0))), ((b2 47), .inl ((cz 47), 144, .inl (fun _ => 0))), ((b2 50), .inl ((cz 50), 348500, .inl (fun _ => 0))), ((b2 51), .inl ((cz 51), 40, .inl (fun _ => 0))), ((b2 53), .inl ((cz 53), 16384, .inl (fun _ => 0))), ((b2 54), .inl ((cz 54), 16384, .inl (fun _ => 0))), ((b2 55), .inl ((cz 55), 10240, .inl (fun _ => 0)))] := hD
  refine lv_icmp_eq (tgt := 1319) hx hb dL_law_520 (by decide) (fun c_ => ?_) (fun c_ => absurd rfl c_)
  exact law_end l (Nat.le_refl 7) C0 (Nat.le_of_ble_eq_true rfl) (Nat.le_of_ble_eq_true rfl) hS (lv_sub hl [0, 3] rfl)

set_option maxHeartbeats 4000000 in
set_option maxRecDepth 100000 in
theorem law_c9 {p : Program} {e : Env} {s : State} {m : MethodId} {below : List Frame} {meth : Method} {c : Code} (l : Launch) {b : Nat} {xs : Nat → Int32} {dC : Nat → ClassId} {dI : Nat → Nat → Nat} (x : Nat) (a : Nat → Nat) (cy : Nat → ClassId) (y : Nat) (b2 : Nat → Nat) (cz : Nat → ClassId) {H : Heap} {locs : List Loc} {ls : Array Slot} (C0 : lw_At p s m meth c b 7 xs) (hE : ext s) (hts : ∀ w ∈ gT, w.before #[Value.ref b] s = true) (hK : va_K (dC, dI) vwCl (lT cy cz) s) (hP : va_P (dC, dI) vwCl (lW x a cy y b2 cz) H) (hD : va_D (fun q : Nat => s.heap.size ≤ q) (lW x a cy y b2 cz)) (hS : va_S (fun q : Nat => s.heap.size ≤ q) s.heap H locs) (hl : lv_has ls 4 [(3, .int 0), (2, .ref y), (1, .ref x), (0, .ref b)]) : W p l e room_1 s m #[Value.ref b] below meth c H locs 74 405288 (lw_Z below #[Value.ref b] s) (F0 m 525 ls []) := by
  have C1 := C0
  obtain ⟨hx, hb, hr, hml, hown, hts0, hX, hbl, hlocks, hgv⟩ := C1
  have hA : ∀ q : Nat, s.heap.size ≤ q → (fun q : Nat => s.heap.size ≤ q) q := fun _ h => h
  have hbA : ¬ (fun q : Nat => s.heap.size ≤ q) b := Nat.not_le.mpr hbl
  refine lv_aload_n hx hb dL_law_525 rfl (lv_at hl 2 rfl) ?_
  refine lv_aload_n hx hb dL_law_526 rfl (lv_at hl 3 rfl) ?_
  refine lv_iload_n hx hb dL_law_527 rfl (lv_at hl 0 rfl) ?_
  refine lv_iconst (v := 1) hx hb dL_law_528 (by decide) ?_
  refine lv_iadd hx hb dL_law_529 ?_
  refine lv_topi (fun y_ e_ => ?_)
  obtain rfl : y_ = 1 := e_.trans (by decide)
  refine va_sld hx hb hX hbl hbA hS (by unfold vp_in; decide) dL_law_530 ?_
  refine lv_aload_n hx hb dL_law_531 rfl (lv_at hl 3 rfl) ?_
  refine lv_iload_n hx hb dL_law_532 rfl (lv_at hl 0 rfl) ?_
  refine lv_iconst (v := 2) hx hb dL_law_533 (by decide) ?_
  refine lv_iadd hx hb dL_law_534 ?_
  refine lv_topi (fun y_ e_ => ?_)
  obtain rfl : y_ = 2 := e_.trans (by decide)
  refine va_sld hx hb hX hbl hbA hS (by unfold vp_in; decide) dL_law_535 ?_
  have hPc := hP.sub (ws' := [(x, .inr (10, (kO a)))]) [0] rfl
  have hKc := hK.sub (tys' := []) [] rfl
  refine pc_i (va_runV (As := [.int (xs (1 : Int32).toNatClampNeg), .int (xs (2 : Int32).toNatClampNeg)]) (rest := []) ⟨hx, hb, hml, hown, hts⟩ (k_cook l dC dI x a cy (xs (1 : Int32).toNatClampNeg) (xs (2 : Int32).toNatClampNeg)) (⟨callB_of 2 hts (gd mw_436) rfl rfl rfl (hts _ mw_1) (hts _ mw_433) ds_X10_cook ⟨Nat.le_of_ble_eq_true rfl, Nat.le_of_ble_eq_true rfl⟩, (hts _ mw_434), (hts _ mw_435)⟩) (pu_V hPc hKc hE (va_recv hKc hPc (ci := 10) (q0 := 0) rfl rfl)) rfl rfl hl.1 rfl (lv_room (Nat.le_of_ble_eq_true rfl)) dL_law_536 ⟨Nat.le_of_ble_eq_true rfl, Nat.le_of_ble_eq_true rfl⟩) (fun r_ hw_ => ?_)
  obtain rfl : r_ = (-1) := hw_
  refine lv_aload_n hx hb dL_law_539 rfl (lv_at hl 1 rfl) ?_
  refine lv_aload_n hx hb dL_law_540 rfl (lv_at hl 3 rfl) ?_
  refine lv_iload_n hx hb dL_law_541 rfl (lv_at hl 0 rfl) ?_
  refine lv_iconst (v := 1) hx hb dL_law_542 (by decide) ?_
  refine lv_iadd hx hb dL_law_543 ?_
  refine lv_topi (fun y_ e_ => ?_)
  obtain rfl : y_ = 1 := e_.trans (by decide)
  refine va_sld hx hb hX hbl hbA hS (by unfold vp_in; decide) dL_law_544 ?_
  refine lv_aload_n hx hb dL_law_545 rfl (lv_at hl 3 rfl) ?_
  refine lv_iload_n hx hb dL_law_546 rfl (lv_at hl 0 rfl) ?_
  refine lv_iconst (v := 2) hx hb dL_law_547 (by decide) ?_
  refine lv_iadd hx hb dL_law_548 ?_
  refine lv_topi (fun y_ e_ => ?_)
  obtain rfl : y_ = 2 := e_.trans (by decide)
  refine va_sld hx hb hX hbl hbA hS (by unfold vp_in; decide) dL_law_549 ?_
  have hPc := hP.sub (ws' := [(y, .inr (11, (mO b2)))]) [28] rfl
  have hKc := hK.sub (tys' := []) [] rfl
  refine pc_i (va_runV (As := [.int (xs (1 : Int32).toNatClampNeg), .int (xs (2 : Int32).toNatClampNeg)]) (rest := [.int (-1)]) ⟨hx, hb, hml, hown, hts⟩ (m_cook l dC dI y b2 cz (xs (1 : Int32).toNatClampNeg) (xs (2 : Int32).toNatClampNeg)) (⟨callB_of 2 hts (gd mw_1101) rfl rfl rfl (hts _ mw_8) (hts _ mw_1098) ds_X11_cook ⟨Nat.le_of_ble_eq_true rfl, Nat.le_of_ble_eq_true rfl⟩, (hts _ mw_1099), (hts _ mw_1100)⟩) (pu_V hPc hKc hE (va_recv hKc hPc (ci := 11) (q0 := 0) rfl rfl)) rfl rfl hl.1 rfl (lv_room (Nat.le_of_ble_eq_true rfl)) dL_law_550 ⟨Nat.le_of_ble_eq_true rfl, Nat.le_of_ble_eq_true rfl⟩) (fun r_ hw_ => ?_)
  obtain rfl : r_ = (-1) := hw_
  refine lv_icmp_eq (tgt := 1319) hx hb dL_law_553 (by decide) (fun c_ => ?_) (fun c_ => absurd c_ (by decide))
  exact law_end l (Nat.le_refl 7) C0 (Nat.le_of_ble_eq_true rfl) (Nat.le_of_ble_eq_true rfl) hS (lv_sub hl [0, 3] rfl)

set_option maxHeartbeats 4000000 in
set_option maxRecDepth 100000 in
theorem law_c10 {p : Program} {e : Env} {s : State} {m : MethodId} {below : List Frame} {meth : Method} {c : Code} (l : Launch) {b : Nat} {xs : Nat → Int32} {dC : Nat → ClassId} {dI : Nat → Nat → Nat} (x : Nat) (a : Nat → Nat) (cy : Nat → ClassId) (y : Nat) (b2 : Nat → Nat) (cz : Nat → ClassId) {H : Heap} {locs : List Loc} {ls : Array Slot} (C0 : lw_At p s m meth c b 7 xs) (hE : ext s) (hts : ∀ w ∈ gT, w.before #[Value.ref b] s = true) (hK : va_K (dC, dI) vwCl (lT cy cz) s) (hP : va_P (dC, dI) vwCl (lW x a cy y b2 cz) H) (hD : va_D (fun q : Nat => s.heap.size ≤ q) (lW x a cy y b2 cz)) (hS : va_S (fun q : Nat => s.heap.size ≤ q) s.heap H locs) (hl : lv_has ls 4 [(3, .int 0), (2, .ref y), (1, .ref x), (0, .ref b)]) : W p l e room_1 s m #[Value.ref b] below meth c H locs 74 405288 (lw_Z below #[Value.ref b] s) (F0 m 558 ls []) := by
  have C1 := C0
  obtain ⟨hx, hb, hr, hml, hown, hts0, hX, hbl, hlocks, hgv⟩ := C1
  have hA : ∀ q : Nat, s.heap.size ≤ q → (fun q : Nat => s.heap.size ≤ q) q := fun _ h => h
  have hbA : ¬ (fun q : Nat => s.heap.size ≤ q) b := Nat.not_le.mpr hbl
  refine lv_aload_n hx hb dL_law_558 rfl (lv_at hl 2 rfl) ?_
  refine lv_aload_n hx hb dL_law_559 rfl (lv_at hl 3 rfl) ?_
  refine lv_iload_n hx hb dL_law_560 rfl (lv_at hl 0 rfl) ?_
  refine lv_iconst (v := 1) hx hb dL_law_561 (by decide) ?_
  refine lv_iadd hx hb dL_law_562 ?_
  refine lv_topi (fun y_ e_ => ?_)
  obtain rfl : y_ = 1 := e_.trans (by decide)
  refine va_sld hx hb hX hbl hbA hS (by unfold vp_in; decide) dL_law_563 ?_
  have hPc := hP.sub (ws' := [(x, .inr (10, (kO a)))]) [0] rfl
  have hKc := hK.sub (tys' := []) [] rfl
  refine pc_i (va_runV (As := [.int (xs (1 : Int32).toNatClampNeg)]) (rest := []) ⟨hx, hb, hml, hown, hts⟩ (k_vouch l dC dI x a cy (xs (1 : Int32).toNatClampNeg)) (⟨callB_of 1 hts (gd mw_488) rfl rfl rfl (hts _ mw_1) (hts _ mw_485) ds_X10_vouch ⟨Nat.le_of_ble_eq_true rfl, Nat.le_of_ble_eq_true rfl⟩, (hts _ mw_486), (hts _ mw_487)⟩) (pu_V hPc hKc hE (va_recv hKc hPc (ci := 10) (q0 := 0) rfl rfl)) rfl rfl hl.1 rfl (lv_room (Nat.le_of_ble_eq_true rfl)) dL_law_564 ⟨Nat.le_of_ble_eq_true rfl, Nat.le_of_ble_eq_true rfl⟩) (fun r_ hw_ => ?_)
  obtain rfl : r_ = 0 := hw_
  refine lv_aload_n hx hb dL_law_567 rfl (lv_at hl 1 rfl) ?_
  refine lv_aload_n hx hb dL_law_568 rfl (lv_at hl 3 rfl) ?_
  refine lv_iload_n hx hb dL_law_569 rfl (lv_at hl 0 rfl) ?_
  refine lv_iconst (v := 1) hx hb dL_law_570 (by decide) ?_
  refine lv_iadd hx hb dL_law_571 ?_
  refine lv_topi (fun y_ e_ => ?_)
  obtain rfl : y_ = 1 := e_.trans (by decide)
  refine va_sld hx hb hX hbl hbA hS (by unfold vp_in; decide) dL_law_572 ?_
  have hPc := hP.sub (ws' := [(y, .inr (11, (mO b2)))]) [28] rfl
  have hKc := hK.sub (tys' := []) [] rfl
  refine pc_i (va_runV (As := [.int (xs (1 : Int32).toNatClampNeg)]) (rest := [.int 0]) ⟨hx, hb, hml, hown, hts⟩ (m_vouch l dC dI y b2 cz (xs (1 : Int32).toNatClampNeg)) (⟨callB_of 1 hts (gd mw_1119) rfl rfl rfl (hts _ mw_8) (hts _ mw_1116) ds_X11_vouch ⟨Nat.le_of_ble_eq_true rfl, Nat.le_of_ble_eq_true rfl⟩, (hts _ mw_1117), (hts _ mw_1118)⟩) (pu_V hPc hKc hE (va_recv hKc hPc (ci := 11) (q0 := 0) rfl rfl)) rfl rfl hl.1 rfl (lv_room (Nat.le_of_ble_eq_true rfl)) dL_law_573 ⟨Nat.le_of_ble_eq_true rfl, Nat.le_of_ble_eq_true rfl⟩) (fun r_ hw_ => ?_)
  obtain rfl : r_ = 0 := hw_
  refine lv_icmp_eq (tgt := 1319) hx hb dL_law_576 (by decide) (fun c_ => ?_) (fun c_ => absurd c_ (by decide))
  exact law_end l (Nat.le_refl 7) C0 (Nat.le_of_ble_eq_true rfl) (Nat.le_of_ble_eq_true rfl) hS (lv_sub hl [0, 3] rfl)

set_option maxHeartbeats 4000000 in
set_option maxRecDepth 100000 in
theorem law_c11 {p : Program} {e : Env} {s : State} {m : MethodId} {below : List Frame} {meth : Method} {c : Code} (l : Launch) {b : Nat} {xs : Nat → Int32} {dC : Nat → ClassId} {dI : Nat → Nat → Nat} (x : Nat) (a : Nat → Nat) (cy : Nat → ClassId) (y : Nat) (b2 : Nat → Nat) (cz : Nat → ClassId) {H : Heap} {locs : List Loc} {ls : Array Slot} (C0 : lw_At p s m meth c b 7 xs) (hE : ext s) (hts : ∀ w ∈ gT, w.before #[Value.ref b] s = true) (hK : va_K (dC, dI) vwCl (lT cy cz) s) (hP : va_P (dC, dI) vwCl (lW x a cy y b2 cz) H) (hD : va_D (fun q : Nat => s.heap.size ≤ q) (lW x a cy y b2 cz)) (hS : va_S (fun q : Nat => s.heap.size ≤ q) s.heap H locs) (hl : lv_has ls 4 [(3, .int 0), (2, .ref y), (1, .ref x), (0, .ref b)]) : W p l e room_1 s m #[Value.ref b] below meth c H locs 74 405288 (lw_Z below #[Value.ref b] s) (F0 m 581 ls []) := by
  have C1 := C0
  obtain ⟨hx, hb, hr, hml, hown, hts0, hX, hbl, hlocks, hgv⟩ := C1
  have hA : ∀ q : Nat, s.heap.size ≤ q → (fun q : Nat => s.heap.size ≤ q) q := fun _ h => h
  have hbA : ¬ (fun q : Nat => s.heap.size ≤ q) b := Nat.not_le.mpr hbl
  refine lv_aload_n hx hb dL_law_581 rfl (lv_at hl 2 rfl) ?_
  refine lv_aload_n hx hb dL_law_582 rfl (lv_at hl 3 rfl) ?_
  refine lv_iload_n hx hb dL_law_583 rfl (lv_at hl 0 rfl) ?_
  refine lv_iconst (v := 1) hx hb dL_law_584 (by decide) ?_
  refine lv_iadd hx hb dL_law_585 ?_
  refine lv_topi (fun y_ e_ => ?_)
  obtain rfl : y_ = 1 := e_.trans (by decide)
  refine va_sld hx hb hX hbl hbA hS (by unfold vp_in; decide) dL_law_586 ?_
  have hPc := hP.sub (ws' := [(x, .inr (10, (kO a)))]) [0] rfl
  have hKc := hK.sub (tys' := []) [] rfl
  refine pc_i (va_runV (As := [.int (xs (1 : Int32).toNatClampNeg)]) (rest := []) ⟨hx, hb, hml, hown, hts⟩ (k_why l dC dI x a cy (xs (1 : Int32).toNatClampNeg)) (⟨callB_of 1 hts (gd mw_492) rfl rfl rfl (hts _ mw_1) (hts _ mw_489) ds_X10_why ⟨Nat.le_of_ble_eq_true rfl, Nat.le_of_ble_eq_true rfl⟩, (hts _ mw_490), (hts _ mw_491)⟩) (pu_V hPc hKc hE (va_recv hKc hPc (ci := 10) (q0 := 0) rfl rfl)) rfl rfl hl.1 rfl (lv_room (Nat.le_of_ble_eq_true rfl)) dL_law_587 ⟨Nat.le_of_ble_eq_true rfl, Nat.le_of_ble_eq_true rfl⟩) (fun r_ hw_ => ?_)
  obtain rfl : r_ = (-1) := hw_
  refine lv_aload_n hx hb dL_law_590 rfl (lv_at hl 1 rfl) ?_
  refine lv_aload_n hx hb dL_law_591 rfl (lv_at hl 3 rfl) ?_
  refine lv_iload_n hx hb dL_law_592 rfl (lv_at hl 0 rfl) ?_
  refine lv_iconst (v := 1) hx hb dL_law_593 (by decide) ?_
  refine lv_iadd hx hb dL_law_594 ?_
  refine lv_topi (fun y_ e_ => ?_)
  obtain rfl : y_ = 1 := e_.trans (by decide)
  refine va_sld hx hb hX hbl hbA hS (by unfold vp_in; decide) dL_law_595 ?_
  have hPc := hP.sub (ws' := [(y, .inr (11, (mO b2)))]) [28] rfl
  have hKc := hK.sub (tys' := []) [] rfl
  refine pc_i (va_runV (As := [.int (xs (1 : Int32).toNatClampNeg)]) (rest := [.int (-1)]) ⟨hx, hb, hml, hown, hts⟩ (m_why l dC dI y b2 cz (xs (1 : Int32).toNatClampNeg)) (⟨callB_of 1 hts (gd mw_1123) rfl rfl rfl (hts _ mw_8) (hts _ mw_1120) ds_X11_why ⟨Nat.le_of_ble_eq_true rfl, Nat.le_of_ble_eq_true rfl⟩, (hts _ mw_1121), (hts _ mw_1122)⟩) (pu_V hPc hKc hE (va_recv hKc hPc (ci := 11) (q0 := 0) rfl rfl)) rfl rfl hl.1 rfl (lv_room (Nat.le_of_ble_eq_true rfl)) dL_law_596 ⟨Nat.le_of_ble_eq_true rfl, Nat.le_of_ble_eq_true rfl⟩) (fun r_ hw_ => ?_)
  obtain rfl : r_ = (-1) := hw_
  refine lv_icmp_eq (tgt := 1319) hx hb dL_law_599 (by decide) (fun c_ => ?_) (fun c_ => absurd c_ (by decide))
  exact law_end l (Nat.le_refl 7) C0 (Nat.le_of_ble_eq_true rfl) (Nat.le_of_ble_eq_true rfl) hS (lv_sub hl [0, 3] rfl)

set_option maxHeartbeats 4000000 in
set_option maxRecDepth 100000 in
theorem law_c12 {p : Program} {e : Env} {s : State} {m : MethodId} {below : List Frame} {meth : Method} {c : Code} (l : Launch) {b : Nat} {xs : Nat → Int32} {dC : Nat → ClassId} {dI : Nat → Nat → Nat} (x : Nat) (a : Nat → Nat) (cy : Nat → ClassId) (y : Nat) (b2 : Nat → Nat) (cz : Nat → ClassId) {H : Heap} {locs : List Loc} {ls : Array Slot} (C0 : lw_At p s m meth c b 7 xs) (hE : ext s) (hts : ∀ w ∈ gT, w.before #[Value.ref b] s = true) (hK : va_K (dC, dI) vwCl (lT cy cz) s) (hP : va_P (dC, dI) vwCl (lW x a cy y b2 cz) H) (hD : va_D (fun q : Nat => s.heap.size ≤ q) (lW x a cy y b2 cz)) (hS : va_S (fun q : Nat => s.heap.size ≤ q) s.heap H locs) (hl : lv_has ls 4 [(3, .int 0), (2, .ref y), (1, .ref x), (0, .ref b)]) : W p l e room_1 s m #[Value.ref b] below meth c H locs 74 405288 (lw_Z below #[Value.ref b] s) (F0 m 604 ls []) := by
  have C1 := C0
  obtain ⟨hx, hb, hr, hml, hown, hts0, hX, hbl, hlocks, hgv⟩ := C1
  have hA : ∀ q : Nat, s.heap.size ≤ q → (fun q : Nat => s.heap.size ≤ q) q := fun _ h => h
  have hbA : ¬ (fun q : Nat => s.heap.size ≤ q) b := Nat.not_le.mpr hbl
  refine lv_aload_n hx hb dL_law_604 rfl (lv_at hl 2 rfl) ?_
  refine lv_aload_n hx hb dL_law_605 rfl (lv_at hl 3 rfl) ?_
  refine lv_iload_n hx hb dL_law_606 rfl (lv_at hl 0 rfl) ?_
  refine lv_iconst (v := 1) hx hb dL_law_607 (by decide) ?_
  refine lv_iadd hx hb dL_law_608 ?_
  refine lv_topi (fun y_ e_ => ?_)
  obtain rfl : y_ = 1 := e_.trans (by decide)
  refine va_sld hx hb hX hbl hbA hS (by unfold vp_in; decide) dL_law_609 ?_
  refine lv_aload_n hx hb dL_law_610 rfl (lv_at hl 3 rfl) ?_
  refine lv_iload_n hx hb dL_law_611 rfl (lv_at hl 0 rfl) ?_
  refine lv_iconst (v := 2) hx hb dL_law_612 (by decide) ?_
  refine lv_iadd hx hb dL_law_613 ?_
  refine lv_topi (fun y_ e_ => ?_)
  obtain rfl : y_ = 2 := e_.trans (by decide)
  refine va_sld hx hb hX hbl hbA hS (by unfold vp_in; decide) dL_law_614 ?_
  have hPc := hP.sub (ws' := [(x, .inr (10, (kO a)))]) [0] rfl
  have hKc := hK.sub (tys' := []) [] rfl
  refine pc_i (va_runV (As := [.int (xs (1 : Int32).toNatClampNeg), .int (xs (2 : Int32).toNatClampNeg)]) (rest := []) ⟨hx, hb, hml, hown, hts⟩ (k_batchOf l dC dI x a cy (xs (1 : Int32).toNatClampNeg) (xs (2 : Int32).toNatClampNeg)) (⟨callB_of 2 hts (gd mw_503) rfl rfl rfl (hts _ mw_1) (hts _ mw_500) ds_X10_batchOf ⟨Nat.le_of_ble_eq_true rfl, Nat.le_of_ble_eq_true rfl⟩, (hts _ mw_501), (hts _ mw_502)⟩) (pu_V hPc hKc hE (va_recv hKc hPc (ci := 10) (q0 := 0) rfl rfl)) rfl rfl hl.1 rfl (lv_room (Nat.le_of_ble_eq_true rfl)) dL_law_615 ⟨Nat.le_of_ble_eq_true rfl, Nat.le_of_ble_eq_true rfl⟩) (fun r_ hw_ => ?_)
  obtain rfl : r_ = (-1) := hw_
  refine lv_aload_n hx hb dL_law_618 rfl (lv_at hl 1 rfl) ?_
  refine lv_aload_n hx hb dL_law_619 rfl (lv_at hl 3 rfl) ?_
  refine lv_iload_n hx hb dL_law_620 rfl (lv_at hl 0 rfl) ?_
  refine lv_iconst (v := 1) hx hb dL_law_621 (by decide) ?_
  refine lv_iadd hx hb dL_law_622 ?_
  refine lv_topi (fun y_ e_ => ?_)
  obtain rfl : y_ = 1 := e_.trans (by decide)
  refine va_sld hx hb hX hbl hbA hS (by unfold vp_in; decide) dL_law_623 ?_
  refine lv_aload_n hx hb dL_law_624 rfl (lv_at hl 3 rfl) ?_
  refine lv_iload_n hx hb dL_law_625 rfl (lv_at hl 0 rfl) ?_
  refine lv_iconst (v := 2) hx hb dL_law_626 (by decide) ?_
  refine lv_iadd hx hb dL_law_627 ?_
  refine lv_topi (fun y_ e_ => ?_)
  obtain rfl : y_ = 2 := e_.trans (by decide)
  refine va_sld hx hb hX hbl hbA hS (by unfold vp_in; decide) dL_law_628 ?_
  have hPc := hP.sub (ws' := [(y, .inr (11, (mO b2)))]) [28] rfl
  have hKc := hK.sub (tys' := []) [] rfl
  refine pc_i (va_runV (As := [.int (xs (1 : Int32).toNatClampNeg), .int (xs (2 : Int32).toNatClampNeg)]) (rest := [.int (-1)]) ⟨hx, hb, hml, hown, hts⟩ (m_batchOf l dC dI y b2 cz (xs (1 : Int32).toNatClampNeg) (xs (2 : Int32).toNatClampNeg)) (⟨callB_of 2 hts (gd mw_1127) rfl rfl rfl (hts _ mw_8) (hts _ mw_1124) ds_X11_batchOf ⟨Nat.le_of_ble_eq_true rfl, Nat.le_of_ble_eq_true rfl⟩, (hts _ mw_1125), (hts _ mw_1126)⟩) (pu_V hPc hKc hE (va_recv hKc hPc (ci := 11) (q0 := 0) rfl rfl)) rfl rfl hl.1 rfl (lv_room (Nat.le_of_ble_eq_true rfl)) dL_law_629 ⟨Nat.le_of_ble_eq_true rfl, Nat.le_of_ble_eq_true rfl⟩) (fun r_ hw_ => ?_)
  obtain rfl : r_ = (-1) := hw_
  refine lv_icmp_eq (tgt := 1319) hx hb dL_law_632 (by decide) (fun c_ => ?_) (fun c_ => absurd c_ (by decide))
  exact law_end l (Nat.le_refl 7) C0 (Nat.le_of_ble_eq_true rfl) (Nat.le_of_ble_eq_true rfl) hS (lv_sub hl [0, 3] rfl)

set_option maxHeartbeats 4000000 in
set_option maxRecDepth 100000 in
theorem law_c13 {p : Program} {e : Env} {s : State} {m : MethodId} {below : List Frame} {meth : Method} {c : Code} (l : Launch) {b : Nat} {xs : Nat → Int32} {dC : Nat → ClassId} {dI : Nat → Nat → Nat} (x : Nat) (a : Nat → Nat) (cy : Nat → ClassId) (y : Nat) (b2 : Nat → Nat) (cz : Nat → ClassId) {H : Heap} {locs : List Loc} {ls : Array Slot} (C0 : lw_At p s m meth c b 7 xs) (hE : ext s) (hts : ∀ w ∈ gT, w.before #[Value.ref b] s = true) (hK : va_K (dC, dI) vwCl (lT cy cz) s) (hP : va_P (dC, dI) vwCl (lW x a cy y b2 cz) H) (hD : va_D (fun q : Nat => s.heap.size ≤ q) (lW x a cy y b2 cz)) (hS : va_S (fun q : Nat => s.heap.size ≤ q) s.heap H locs) (hl : lv_has ls 4 [(3, .int 0), (2, .ref y), (1, .ref x), (0, .ref b)]) : W p l e room_1 s m #[Value.ref b] below meth c H locs 74 405288 (lw_Z below #[Value.ref b] s) (F0 m 637 ls []) := by
  have C1 := C0
  obtain ⟨hx, hb, hr, hml, hown, hts0, hX, hbl, hlocks, hgv⟩ := C1
  have hA : ∀ q : Nat, s.heap.size ≤ q → (fun q : Nat => s.heap.size ≤ q) q := fun _ h => h
  have hbA : ¬ (fun q : Nat => s.heap.size ≤ q) b := Nat.not_le.mpr hbl
  refine lv_aload_n hx hb dL_law_637 rfl (lv_at hl 2 rfl) ?_
  refine lv_aload_n hx hb dL_law_638 rfl (lv_at hl 3 rfl) ?_
  refine lv_iload_n hx hb dL_law_639 rfl (lv_at hl 0 rfl) ?_
  refine lv_iconst (v := 1) hx hb dL_law_640 (by decide) ?_
  refine lv_iadd hx hb dL_law_641 ?_
  refine lv_topi (fun y_ e_ => ?_)
  obtain rfl : y_ = 1 := e_.trans (by decide)
  refine va_sld hx hb hX hbl hbA hS (by unfold vp_in; decide) dL_law_642 ?_
  refine lv_aload_n hx hb dL_law_643 rfl (lv_at hl 3 rfl) ?_
  refine lv_iload_n hx hb dL_law_644 rfl (lv_at hl 0 rfl) ?_
  refine lv_iconst (v := 2) hx hb dL_law_645 (by decide) ?_
  refine lv_iadd hx hb dL_law_646 ?_
  refine lv_topi (fun y_ e_ => ?_)
  obtain rfl : y_ = 2 := e_.trans (by decide)
  refine va_sld hx hb hX hbl hbA hS (by unfold vp_in; decide) dL_law_647 ?_
  refine lv_aload_n hx hb dL_law_648 rfl (lv_at hl 3 rfl) ?_
  refine lv_iload_n hx hb dL_law_649 rfl (lv_at hl 0 rfl) ?_
  refine lv_iconst (v := 3) hx hb dL_law_650 (by decide) ?_
  refine lv_iadd hx hb dL_law_651 ?_
  refine lv_topi (fun y_ e_ => ?_)
  obtain rfl : y_ = 3 := e_.trans (by decide)
  refine va_sld hx hb hX hbl hbA hS (by unfold vp_in; decide) dL_law_652 ?_
  refine lv_aload_n hx hb dL_law_653 rfl (lv_at hl 3 rfl) ?_
  refine lv_iload_n hx hb dL_law_654 rfl (lv_at hl 0 rfl) ?_
  refine lv_iconst (v := 4) hx hb dL_law_655 (by decide) ?_
  refine lv_iadd hx hb dL_law_656 ?_
  refine lv_topi (fun y_ e_ => ?_)
  obtain rfl : y_ = 4 := e_.trans (by decide)
  refine va_sld hx hb hX hbl hbA hS (by unfold vp_in; decide) dL_law_657 ?_
  refine lv_aload_n hx hb dL_law_658 rfl (lv_at hl 3 rfl) ?_
  refine lv_iload_n hx hb dL_law_659 rfl (lv_at hl 0 rfl) ?_
  refine lv_iconst (v := 5) hx hb dL_law_660 (by decide) ?_
  refine lv_iadd hx hb dL_law_661 ?_
  refine lv_topi (fun y_ e_ => ?_)
  obtain rfl : y_ = 5 := e_.trans (by decide)
  refine va_sld hx hb hX hbl hbA hS (by unfold vp_in; decide) dL_law_662 ?_
  refine lv_aload_n hx hb dL_law_663 rfl (lv_at hl 3 rfl) ?_
  refine lv_iload_n hx hb dL_law_664 rfl (lv_at hl 0 rfl) ?_
  refine lv_bipush (v := 6) hx hb dL_law_665 (by decide) ?_
  refine lv_iadd hx hb dL_law_667 ?_
  refine lv_topi (fun y_ e_ => ?_)
  obtain rfl : y_ = 6 := e_.trans (by decide)
  refine va_sld hx hb hX hbl hbA hS (by unfold vp_in; decide) dL_law_668 ?_
  have hPc := hP.sub (ws' := [(x, .inr (10, (kO a))), ((a 11), .inr (9, [.int 450, .int 270, .int 310, .int 320, .int 290, .int 2]))]) [0, 12] rfl
  have hKc := hK.sub (tys' := []) [] rfl
  have hDc := hD.sub (ws' := [(x, .inr (10, (kO a))), ((a 11), .inr (9, [.int 450, .int 270, .int 310, .int 320, .int 290, .int 2]))]) [0, 12] (by decide) rfl
  have hFc := va_free (wc := [(x, .inr (10, (kO a))), ((a 11), .inr (9, [.int 450, .int 270, .int 310, .int 320, .int 290, .int 2]))]) hD hS hA [0, 12] rfl
  refine va_calli (va_runV (As := [.int (xs (1 : Int32).toNatClampNeg), .int (xs (2 : Int32).toNatClampNeg), .int (xs (3 : Int32).toNatClampNeg), .int (xs (4 : Int32).toNatClampNeg), .int (xs (5 : Int32).toNatClampNeg), .int (xs (6 : Int32).toNatClampNeg)]) (rest := []) ⟨hx, hb, hml, hown, hts⟩ (k_temper l dC dI H.size x a cy (xs (1 : Int32).toNatClampNeg) (xs (2 : Int32).toNatClampNeg) (xs (3 : Int32).toNatClampNeg) (xs (4 : Int32).toNatClampNeg) (xs (5 : Int32).toNatClampNeg) (xs (6 : Int32).toNatClampNeg)) (⟨callB_of 6 hts (gd mw_511) rfl rfl rfl (hts _ mw_1) (hts _ mw_508) ds_X10_temper ⟨Nat.le_of_ble_eq_true rfl, Nat.le_of_ble_eq_true rfl⟩, (hts _ mw_509), (hts _ mw_510)⟩) (pr_V hPc hKc hDc hE (va_recv hKc hPc (ci := 10) (q0 := 0) rfl rfl)) rfl rfl hl.1 rfl (lv_room (Nat.le_of_ble_eq_true rfl)) dL_law_669 ⟨Nat.le_of_ble_eq_true rfl, Nat.le_of_ble_eq_true rfl⟩) hS (fun q _ h => hFc q h) hFc (fun r_ u_ t_ H1 locs ht hvm hw_ hB hz1 hk1 hS => ?_)
  obtain rfl : r_ = (sp_temper (xs (1 : Int32).toNatClampNeg) (xs (2 : Int32).toNatClampNeg) (xs (3 : Int32).toNatClampNeg) (xs (4 : Int32).toNatClampNeg) (xs (5 : Int32).toNatClampNeg) (xs (6 : Int32).toNatClampNeg)) := hw_
  have hP1 : va_P (dC, dI) vwCl [] H1 := fun k q h => by simp at h
  have hD1 : va_D (va_A [(x, .inr (10, (kO a))), ((a 11), .inr (9, [.int 450, .int 270, .int 310, .int 320, .int 290, .int 2]))] H.size) [] := ⟨fun i j p q h => by simp at h, fun k q h => by simp at h⟩
  obtain ⟨hP, hD⟩ := va_join (wr := [((a 0), .inl ((cy 0), 40, .inr (.inr (.inr (.inr (fun _ => none)))))), ((a 2), .inl ((cy 2), 40, .inr (.inr (.inr (.inr (fun _ => none)))))), ((a 4), .inl ((cy 4), 600, .inr (.inr (.inr (.inr (fun _ => none)))))), ((a 6), .inl ((cy 6), 200, .inr (.inr (.inr (.inr (fun _ => none)))))), ((a 8), .inl ((cy 8), 144, .inl (fun _ => (-1)))), ((a 9), .inl ((cy 9), 144, .inl (fun _ => 0))), ((a 10), .inr (8, (rO a))), ((a 20), .inl ((cy 20), 16, .inl (fun _ => 0))), ((a 21), .inl ((cy 21), 16, .inl (fun _ => 0))), ((a 25), .inl ((cy 25), 6, .inl (fun _ => 0))), ((a 26), .inl ((cy 26), 6, .inl (fun _ => 900))), ((a 12), .inr (3, (keO a))), ((a 30), .inl ((cy 30), 36, .inl (fun _ => 0))), ((a 31), .inl ((cy 31), 10, .inl (fun _ => 0))), ((a 32), .inl ((cy 32), 10, .inl (fun _ => 0))), ((a 34), .inl ((cy 34), 10, .inl (fun _ => 0))), ((a 38), .inl ((cy 38), 10, .inl (fun _ => 0))), ((a 39), .inl ((cy 39), 6, .inl (fun _ => 0))), ((a 40), .inl ((cy 40), 6, .inl (fun _ => 0))), ((a 41), .inl ((cy 41), 6, .inl (fun _ => 0))), ((a 13), .inr (2, (chO a))), ((a 50), .inl ((cy 50), 40, .inl (fun _ => 0))), ((a 51), .inl ((cy 51), 40, .inl (fun _ => 0))), ((a 52), .inl ((cy 52), 40, .inl (fun _ => 0))), ((a 14), .inr (5, (paO a))), ((a 60), .inl ((cy 60), 14, .inl (fun _ => 0))), (y, .inr (11, (mO b2))), ((b2 6), .inl ((cz 6), 40, .inl (fun _ => 0))), ((b2 7), .inl ((cz 7), 40, .inl (fun _ => 0))), ((b2 8), .inl ((cz 8), 40, .inl (fun _ => 0))), ((b2 9), .inl ((cz 9), 40, .inl (fun _ => 0))), ((b2 10), .inl ((cz 10), 40, .inl (fun _ => 0))), ((b2 11), .inl ((cz 11), 40, .inl (fun _ => 0))), ((b2 12), .inl ((cz 12), 40, .inl (fun _ => 0))), ((b2 13), .inl ((cz 13), 40, .inl (fun _ => 0))), ((b2 14), .inl ((cz 14), 40, .inl (fun _ => 0))), ((b2 15), .inl ((cz 15), 40, .inl (fun _ => 0))), ((b2 16), .inl ((cz 16), 40, .inl (fun _ => 0))), ((b2 17), .inl ((cz 17), 40, .inl (fun _ => 0))), ((b2 18), .inl ((cz 18), 40, .inl (fun _ => 0))), ((b2 19), .inl ((cz 19), 40, .inl (fun _ => 0))), ((b2 20), .inl ((cz 20), 40, .inl (fun _ => 0))), ((b2 21), .inl ((cz 21), 40, .inl (fun _ => 0))), ((b2 22), .inl ((cz 22), 1600, .inl (fun _ => 0))), ((b2 23), .inl ((cz 23), 40, .inl (fun _ => 0))), ((b2 24), .inl ((cz 24), 40, .inl (fun _ => 0))), ((b2 25), .inl ((cz 25), 2400, .inr (.inr (.inl (fun _ => 0))))), ((b2 26), .inl ((cz 26), 2400, .inl (fun _ => 0))), ((b2 27), .inl ((cz 27), 16, .inl (fun _ => 0))), ((b2 28), .inl ((cz 28), 16, .inl (fun _ => 0))), ((b2 31), .inl ((cz 31), 6, .inl (fun _ => 0))), ((b2 32), .inl ((cz 32), 6, .inl (fun _ => 900))), ((b2 33), .inl ((cz 33), 6, .inl (upd (upd (upd (upd (upd (upd (fun _ => 0) (0 : Int32).toNatClampNeg 450) (1 : Int32).toNatClampNeg 270) (2 : Int32).toNatClampNeg 310) (3 : Int32).toNatClampNeg 320) (4 : Int32).toNatClampNeg 290) (5 : Int32).toNatClampNeg 2))), ((b2 34), .inl ((cz 34), 36, .inl (fun _ => 0))), ((b2 35), .inl ((cz 35), 10, .inl (fun _ => 0))), ((b2 36), .inl ((cz 36), 600, .inl (fun _ => 0))), ((b2 37), .inl ((cz 37), 600, .inl (fun _ => 0))), ((b2 38), .inl ((cz 38), 600, .inl (fun _ => 0))), ((b2 39), .inl ((cz 39), 600, .inl (fun _ => 0))), ((b2 40), .inl ((cz 40), 600, .inl (fun _ => 0))), ((b2 41), .inl ((cz 41), 600, .inl (fun _ => 0))), ((b2 42), .inl ((cz 42), 600, .inl (fun _ => 0))), ((b2 43), .inl ((cz 43), 144, .inl (fun _ => (-1)))), ((b2 44), .inl ((cz 44), 200, .inl (fun _ => 0))), ((b2 45), .inl ((cz 45), 144, .inl (fun _ => 0))), ((b2 46), .inl ((cz 46), 144, .inl (fun _ => 0))), ((b2 47), .inl ((cz 47), 144, .inl (fun _ => 0))), ((b2 50), .inl ((cz 50), 348500, .inl (fun _ => 0))), ((b2 51), .inl ((cz 51), 40, .inl (fun _ => 0))), ((b2 53), .inl ((cz 53), 16384, .inl (fun _ => 0))), ((b2 54), .inl ((cz 54), 16384, .inl (fun _ => 0))), ((b2 55), .inl ((cz 55), 10240, .inl (fun _ => 0)))]) (w1 := []) hP hD [0, 12] [1, 2, 3, 4, 5, 6, 7, 8, 9, 10, 11, 13, 14, 15, 16, 17, 18, 19, 20, 21, 22, 23, 24, 25, 26, 27, 28, 29, 30, 31, 32, 33, 34, 35, 36, 37, 38, 39, 40, 41, 42, 43, 44, 45, 46, 47, 48, 49, 50, 51, 52, 53, 54, 55, 56, 57, 58, 59, 60, 61, 62, 63, 64, 65, 66, 67, 68, 69, 70, 71, 72, 73] rfl rfl (by decide) (by decide) hk1 hFc hP1 hD1
  generalize H1 = H at hP hS ⊢
  have hP : va_P (dC, dI) vwCl [((a 0), .inl ((cy 0), 40, .inr (.inr (.inr (.inr (fun _ => none)))))), ((a 2), .inl ((cy 2), 40, .inr (.inr (.inr (.inr (fun _ => none)))))), ((a 4), .inl ((cy 4), 600, .inr (.inr (.inr (.inr (fun _ => none)))))), ((a 6), .inl ((cy 6), 200, .inr (.inr (.inr (.inr (fun _ => none)))))), ((a 8), .inl ((cy 8), 144, .inl (fun _ => (-1)))), ((a 9), .inl ((cy 9), 144, .inl (fun _ => 0))), ((a 10), .inr (8, (rO a))), ((a 20), .inl ((cy 20), 16, .inl (fun _ => 0))), ((a 21), .inl ((cy 21), 16, .inl (fun _ => 0))), ((a 25), .inl ((cy 25), 6, .inl (fun _ => 0))), ((a 26), .inl ((cy 26), 6, .inl (fun _ => 900))), ((a 12), .inr (3, (keO a))), ((a 30), .inl ((cy 30), 36, .inl (fun _ => 0))), ((a 31), .inl ((cy 31), 10, .inl (fun _ => 0))), ((a 32), .inl ((cy 32), 10, .inl (fun _ => 0))), ((a 34), .inl ((cy 34), 10, .inl (fun _ => 0))), ((a 38), .inl ((cy 38), 10, .inl (fun _ => 0))), ((a 39), .inl ((cy 39), 6, .inl (fun _ => 0))), ((a 40), .inl ((cy 40), 6, .inl (fun _ => 0))), ((a 41), .inl ((cy 41), 6, .inl (fun _ => 0))), ((a 13), .inr (2, (chO a))), ((a 50), .inl ((cy 50), 40, .inl (fun _ => 0))), ((a 51), .inl ((cy 51), 40, .inl (fun _ => 0))), ((a 52), .inl ((cy 52), 40, .inl (fun _ => 0))), ((a 14), .inr (5, (paO a))), ((a 60), .inl ((cy 60), 14, .inl (fun _ => 0))), (y, .inr (11, (mO b2))), ((b2 6), .inl ((cz 6), 40, .inl (fun _ => 0))), ((b2 7), .inl ((cz 7), 40, .inl (fun _ => 0))), ((b2 8), .inl ((cz 8), 40, .inl (fun _ => 0))), ((b2 9), .inl ((cz 9), 40, .inl (fun _ => 0))), ((b2 10), .inl ((cz 10), 40, .inl (fun _ => 0))), ((b2 11), .inl ((cz 11), 40, .inl (fun _ => 0))), ((b2 12), .inl ((cz 12), 40, .inl (fun _ => 0))), ((b2 13), .inl ((cz 13), 40, .inl (fun _ => 0))), ((b2 14), .inl ((cz 14), 40, .inl (fun _ => 0))), ((b2 15), .inl ((cz 15), 40, .inl (fun _ => 0))), ((b2 16), .inl ((cz 16), 40, .inl (fun _ => 0))), ((b2 17), .inl ((cz 17), 40, .inl (fun _ => 0))), ((b2 18), .inl ((cz 18), 40, .inl (fun _ => 0))), ((b2 19), .inl ((cz 19), 40, .inl (fun _ => 0))), ((b2 20), .inl ((cz 20), 40, .inl (fun _ => 0))), ((b2 21), .inl ((cz 21), 40, .inl (fun _ => 0))), ((b2 22), .inl ((cz 22), 1600, .inl (fun _ => 0))), ((b2 23), .inl ((cz 23), 40, .inl (fun _ => 0))), ((b2 24), .inl ((cz 24), 40, .inl (fun _ => 0))), ((b2 25), .inl ((cz 25), 2400, .inr (.inr (.inl (fun _ => 0))))), ((b2 26), .inl ((cz 26), 2400, .inl (fun _ => 0))), ((b2 27), .inl ((cz 27), 16, .inl (fun _ => 0))), ((b2 28), .inl ((cz 28), 16, .inl (fun _ => 0))), ((b2 31), .inl ((cz 31), 6, .inl (fun _ => 0))), ((b2 32), .inl ((cz 32), 6, .inl (fun _ => 900))), ((b2 33), .inl ((cz 33), 6, .inl (upd (upd (upd (upd (upd (upd (fun _ => 0) (0 : Int32).toNatClampNeg 450) (1 : Int32).toNatClampNeg 270) (2 : Int32).toNatClampNeg 310) (3 : Int32).toNatClampNeg 320) (4 : Int32).toNatClampNeg 290) (5 : Int32).toNatClampNeg 2))), ((b2 34), .inl ((cz 34), 36, .inl (fun _ => 0))), ((b2 35), .inl ((cz 35), 10, .inl (fun _ => 0))), ((b2 36), .inl ((cz 36), 600, .inl (fun _ => 0))), ((b2 37), .inl ((cz 37), 600, .inl (fun _ => 0))), ((b2 38), .inl ((cz 38), 600, .inl (fun _ => 0))), ((b2 39), .inl ((cz 39), 600, .inl (fun _ => 0))), ((b2 40), .inl ((cz 40), 600, .inl (fun _ => 0))), ((b2 41), .inl ((cz 41), 600, .inl (fun _ => 0))), ((b2 42), .inl ((cz 42), 600, .inl (fun _ => 0))), ((b2 43), .inl ((cz 43), 144, .inl (fun _ => (-1)))), ((b2 44), .inl ((cz 44), 200, .inl (fun _ => 0))), ((b2 45), .inl ((cz 45), 144, .inl (fun _ => 0))), ((b2 46), .inl ((cz 46), 144, .inl (fun _ => 0))), ((b2 47), .inl ((cz 47), 144, .inl (fun _ => 0))), ((b2 50), .inl ((cz 50), 348500, .inl (fun _ => 0))), ((b2 51), .inl ((cz 51), 40, .inl (fun _ => 0))), ((b2 53), .inl ((cz 53), 16384, .inl (fun _ => 0))), ((b2 54), .inl ((cz 54), 16384, .inl (fun _ => 0))), ((b2 55), .inl ((cz 55), 10240, .inl (fun _ => 0)))] H := hP
  have hD : va_D (fun q : Nat => s.heap.size ≤ q) [((a 0), .inl ((cy 0), 40, .inr (.inr (.inr (.inr (fun _ => none)))))), ((a 2), .inl ((cy 2), 40, .inr (.inr (.inr (.inr (fun _ => none)))))), ((a 4), .inl ((cy 4), 600, .inr (.inr (.inr (.inr (fun _ => none)))))), ((a 6), .inl ((cy 6), 200, .inr (.inr (.inr (.inr (fun _ => none)))))), ((a 8), .inl ((cy 8), 144, .inl (fun _ => (-1)))), ((a 9), .inl ((cy 9), 144, .inl (fun _ => 0))), ((a 10), .inr (8, (rO a))), ((a 20), .inl ((cy 20), 16, .inl (fun _ => 0))), ((a 21), .inl ((cy 21), 16, .inl (fun _ => 0))), ((a 25), .inl ((cy 25), 6, .inl (fun _ => 0))), ((a 26), .inl ((cy 26), 6, .inl (fun _ => 900))), ((a 12), .inr (3, (keO a))), ((a 30), .inl ((cy 30), 36, .inl (fun _ => 0))), ((a 31), .inl ((cy 31), 10, .inl (fun _ => 0))), ((a 32), .inl ((cy 32), 10, .inl (fun _ => 0))), ((a 34), .inl ((cy 34), 10, .inl (fun _ => 0))), ((a 38), .inl ((cy 38), 10, .inl (fun _ => 0))), ((a 39), .inl ((cy 39), 6, .inl (fun _ => 0))), ((a 40), .inl ((cy 40), 6, .inl (fun _ => 0))), ((a 41), .inl ((cy 41), 6, .inl (fun _ => 0))), ((a 13), .inr (2, (chO a))), ((a 50), .inl ((cy 50), 40, .inl (fun _ => 0))), ((a 51), .inl ((cy 51), 40, .inl (fun _ => 0))), ((a 52), .inl ((cy 52), 40, .inl (fun _ => 0))), ((a 14), .inr (5, (paO a))), ((a 60), .inl ((cy 60), 14, .inl (fun _ => 0))), (y, .inr (11, (mO b2))), ((b2 6), .inl ((cz 6), 40, .inl (fun _ => 0))), ((b2 7), .inl ((cz 7), 40, .inl (fun _ => 0))), ((b2 8), .inl ((cz 8), 40, .inl (fun _ => 0))), ((b2 9), .inl ((cz 9), 40, .inl (fun _ => 0))), ((b2 10), .inl ((cz 10), 40, .inl (fun _ => 0))), ((b2 11), .inl ((cz 11), 40, .inl (fun _ => 0))), ((b2 12), .inl ((cz 12), 40, .inl (fun _ => 0))), ((b2 13), .inl ((cz 13), 40, .inl (fun _ => 0))), ((b2 14), .inl ((cz 14), 40, .inl (fun _ => 0))), ((b2 15), .inl ((cz 15), 40, .inl (fun _ => 0))), ((b2 16), .inl ((cz 16), 40, .inl (fun _ => 0))), ((b2 17), .inl ((cz 17), 40, .inl (fun _ => 0))), ((b2 18), .inl ((cz 18), 40, .inl (fun _ => 0))), ((b2 19), .inl ((cz 19), 40, .inl (fun _ => 0))), ((b2 20), .inl ((cz 20), 40, .inl (fun _ => 0))), ((b2 21), .inl ((cz 21), 40, .inl (fun _ => 0))), ((b2 22), .inl ((cz 22), 1600, .inl (fun _ => 0))), ((b2 23), .inl ((cz 23), 40, .inl (fun _ => 0))), ((b2 24), .inl ((cz 24), 40, .inl (fun _ => 0))), ((b2 25), .inl ((cz 25), 2400, .inr (.inr (.inl (fun _ => 0))))), ((b2 26), .inl ((cz 26), 2400, .inl (fun _ => 0))), ((b2 27), .inl ((cz 27), 16, .inl (fun _ => 0))), ((b2 28), .inl ((cz 28), 16, .inl (fun _ => 0))), ((b2 31), .inl ((cz 31), 6, .inl (fun _ => 0))), ((b2 32), .inl ((cz 32), 6, .inl (fun _ => 900))), ((b2 33), .inl ((cz 33), 6, .inl (upd (upd (upd (upd (upd (upd (fun _ => 0) (0 : Int32).toNatClampNeg 450) (1 : Int32).toNatClampNeg 270) (2 : Int32).toNatClampNeg 310) (3 : Int32).toNatClampNeg 320) (4 : Int32).toNatClampNeg 290) (5 : Int32).toNatClampNeg 2))), ((b2 34), .inl ((cz 34), 36, .inl (fun _ => 0))), ((b2 35), .inl ((cz 35), 10, .inl (fun _ => 0))), ((b2 36), .inl ((cz 36), 600, .inl (fun _ => 0))), ((b2 37), .inl ((cz 37), 600, .inl (fun _ => 0))), ((b2 38), .inl ((cz 38), 600, .inl (fun _ => 0))), ((b2 39), .inl ((cz 39), 600, .inl (fun _ => 0))), ((b2 40), .inl ((cz 40), 600, .inl (fun _ => 0))), ((b2 41), .inl ((cz 41), 600, .inl (fun _ => 0))), ((b2 42), .inl ((cz 42), 600, .inl (fun _ => 0))), ((b2 43), .inl ((cz 43), 144, .inl (fun _ => (-1)))), ((b2 44), .inl ((cz 44), 200, .inl (fun _ => 0))), ((b2 45), .inl ((cz 45), 144, .inl (fun _ => 0))), ((b2 46), .inl ((cz 46), 144, .inl (fun _ => 0))), ((b2 47), .inl ((cz 47), 144, .inl (fun _ => 0))), ((b2 50), .inl ((cz 50), 348500, .inl (fun _ => 0))), ((b2 51), .inl ((cz 51), 40, .inl (fun _ => 0))), ((b2 53), .inl ((cz 53), 16384, .inl (fun _ => 0))), ((b2 54), .inl ((cz 54), 16384, .inl (fun _ => 0))), ((b2 55), .inl ((cz 55), 10240, .inl (fun _ => 0)))] := hD
  refine lv_aload_n hx hb dL_law_672 rfl (lv_at hl 1 rfl) ?_
  refine lv_aload_n hx hb dL_law_673 rfl (lv_at hl 3 rfl) ?_
  refine lv_iload_n hx hb dL_law_674 rfl (lv_at hl 0 rfl) ?_
  refine lv_iconst (v := 1) hx hb dL_law_675 (by decide) ?_
  refine lv_iadd hx hb dL_law_676 ?_
  refine lv_topi (fun y_ e_ => ?_)
  obtain rfl : y_ = 1 := e_.trans (by decide)
  refine va_sld hx hb hX hbl hbA hS (by unfold vp_in; decide) dL_law_677 ?_
  refine lv_aload_n hx hb dL_law_678 rfl (lv_at hl 3 rfl) ?_
  refine lv_iload_n hx hb dL_law_679 rfl (lv_at hl 0 rfl) ?_
  refine lv_iconst (v := 2) hx hb dL_law_680 (by decide) ?_
  refine lv_iadd hx hb dL_law_681 ?_
  refine lv_topi (fun y_ e_ => ?_)
  obtain rfl : y_ = 2 := e_.trans (by decide)
  refine va_sld hx hb hX hbl hbA hS (by unfold vp_in; decide) dL_law_682 ?_
  refine lv_aload_n hx hb dL_law_683 rfl (lv_at hl 3 rfl) ?_
  refine lv_iload_n hx hb dL_law_684 rfl (lv_at hl 0 rfl) ?_
  refine lv_iconst (v := 3) hx hb dL_law_685 (by decide) ?_
  refine lv_iadd hx hb dL_law_686 ?_
  refine lv_topi (fun y_ e_ => ?_)
  obtain rfl : y_ = 3 := e_.trans (by decide)
  refine va_sld hx hb hX hbl hbA hS (by unfold vp_in; decide) dL_law_687 ?_
  refine lv_aload_n hx hb dL_law_688 rfl (lv_at hl 3 rfl) ?_
  refine lv_iload_n hx hb dL_law_689 rfl (lv_at hl 0 rfl) ?_
  refine lv_iconst (v := 4) hx hb dL_law_690 (by decide) ?_
  refine lv_iadd hx hb dL_law_691 ?_
  refine lv_topi (fun y_ e_ => ?_)
  obtain rfl : y_ = 4 := e_.trans (by decide)
  refine va_sld hx hb hX hbl hbA hS (by unfold vp_in; decide) dL_law_692 ?_
  refine lv_aload_n hx hb dL_law_693 rfl (lv_at hl 3 rfl) ?_
  refine lv_iload_n hx hb dL_law_694 rfl (lv_at hl 0 rfl) ?_
  refine lv_iconst (v := 5) hx hb dL_law_695 (by decide) ?_
  refine lv_iadd hx hb dL_law_696 ?_
  refine lv_topi (fun y_ e_ => ?_)
  obtain rfl : y_ = 5 := e_.trans (by decide)
  refine va_sld hx hb hX hbl hbA hS (by unfold vp_in; decide) dL_law_697 ?_
  refine lv_aload_n hx hb dL_law_698 rfl (lv_at hl 3 rfl) ?_
  refine lv_iload_n hx hb dL_law_699 rfl (lv_at hl 0 rfl) ?_
  refine lv_bipush (v := 6) hx hb dL_law_700 (by decide) ?_
  refine lv_iadd hx hb dL_law_702 ?_
  refine lv_topi (fun y_ e_ => ?_)
  obtain rfl : y_ = 6 := e_.trans (by decide)
  refine va_sld hx hb hX hbl hbA hS (by unfold vp_in; decide) dL_law_703 ?_
  have hPc := hP.sub (ws' := [(y, .inr (11, (mO b2))), ((b2 33), .inl ((cz 33), 6, .inl (upd (upd (upd (upd (upd (upd (fun _ => 0) (0 : Int32).toNatClampNeg 450) (1 : Int32).toNatClampNeg 270) (2 : Int32).toNatClampNeg 310) (3 : Int32).toNatClampNeg 320) (4 : Int32).toNatClampNeg 290) (5 : Int32).toNatClampNeg 2)))]) [26, 52] rfl
  have hKc := hK.sub (tys' := [((cz 33), .int)]) [47] rfl
  have hDc := hD.sub (ws' := [(y, .inr (11, (mO b2))), ((b2 33), .inl ((cz 33), 6, .inl (upd (upd (upd (upd (upd (upd (fun _ => 0) (0 : Int32).toNatClampNeg 450) (1 : Int32).toNatClampNeg 270) (2 : Int32).toNatClampNeg 310) (3 : Int32).toNatClampNeg 320) (4 : Int32).toNatClampNeg 290) (5 : Int32).toNatClampNeg 2)))]) [26, 52] (by decide) rfl
  have hFc := va_free (wc := [(y, .inr (11, (mO b2))), ((b2 33), .inl ((cz 33), 6, .inl (upd (upd (upd (upd (upd (upd (fun _ => 0) (0 : Int32).toNatClampNeg 450) (1 : Int32).toNatClampNeg 270) (2 : Int32).toNatClampNeg 310) (3 : Int32).toNatClampNeg 320) (4 : Int32).toNatClampNeg 290) (5 : Int32).toNatClampNeg 2)))]) hD hS hA [26, 52] rfl
  refine va_calli (va_runV (As := [.int (xs (1 : Int32).toNatClampNeg), .int (xs (2 : Int32).toNatClampNeg), .int (xs (3 : Int32).toNatClampNeg), .int (xs (4 : Int32).toNatClampNeg), .int (xs (5 : Int32).toNatClampNeg), .int (xs (6 : Int32).toNatClampNeg)]) (rest := [.int (sp_temper (xs (1 : Int32).toNatClampNeg) (xs (2 : Int32).toNatClampNeg) (xs (3 : Int32).toNatClampNeg) (xs (4 : Int32).toNatClampNeg) (xs (5 : Int32).toNatClampNeg) (xs (6 : Int32).toNatClampNeg))]) ⟨hx, hb, hml, hown, hts⟩ (m_temper l dC dI H.size y b2 cz (xs (1 : Int32).toNatClampNeg) (xs (2 : Int32).toNatClampNeg) (xs (3 : Int32).toNatClampNeg) (xs (4 : Int32).toNatClampNeg) (xs (5 : Int32).toNatClampNeg) (xs (6 : Int32).toNatClampNeg)) (⟨callB_of 6 hts (gd mw_1131) rfl rfl rfl (hts _ mw_8) (hts _ mw_1128) ds_X11_temper ⟨Nat.le_of_ble_eq_true rfl, Nat.le_of_ble_eq_true rfl⟩, (hts _ mw_1129), (hts _ mw_1130)⟩) (pr_V hPc hKc hDc hE (va_recv hKc hPc (ci := 11) (q0 := 0) rfl rfl)) rfl rfl hl.1 rfl (lv_room (Nat.le_of_ble_eq_true rfl)) dL_law_704 ⟨Nat.le_of_ble_eq_true rfl, Nat.le_of_ble_eq_true rfl⟩) hS (fun q _ h => hFc q h) hFc (fun r_ u_ t_ H1 locs ht hvm hw_ hB hz1 hk1 hS => ?_)
  obtain rfl : r_ = (sp_temper (xs (1 : Int32).toNatClampNeg) (xs (2 : Int32).toNatClampNeg) (xs (3 : Int32).toNatClampNeg) (xs (4 : Int32).toNatClampNeg) (xs (5 : Int32).toNatClampNeg) (xs (6 : Int32).toNatClampNeg)) := hw_
  have hP1 : va_P (dC, dI) vwCl [] H1 := fun k q h => by simp at h
  have hD1 : va_D (va_A [(y, .inr (11, (mO b2))), ((b2 33), .inl ((cz 33), 6, .inl (upd (upd (upd (upd (upd (upd (fun _ => 0) (0 : Int32).toNatClampNeg 450) (1 : Int32).toNatClampNeg 270) (2 : Int32).toNatClampNeg 310) (3 : Int32).toNatClampNeg 320) (4 : Int32).toNatClampNeg 290) (5 : Int32).toNatClampNeg 2)))] H.size) [] := ⟨fun i j p q h => by simp at h, fun k q h => by simp at h⟩
  obtain ⟨hP, hD⟩ := va_join (wr := [((a 0), .inl ((cy 0), 40, .inr (.inr (.inr (.inr (fun _ => none)))))), ((a 2), .inl ((cy 2), 40, .inr (.inr (.inr (.inr (fun _ => none)))))), ((a 4), .inl ((cy 4), 600, .inr (.inr (.inr (.inr (fun _ => none)))))), ((a 6), .inl ((cy 6), 200, .inr (.inr (.inr (.inr (fun _ => none)))))), ((a 8), .inl ((cy 8), 144, .inl (fun _ => (-1)))), ((a 9), .inl ((cy 9), 144, .inl (fun _ => 0))), ((a 10), .inr (8, (rO a))), ((a 20), .inl ((cy 20), 16, .inl (fun _ => 0))), ((a 21), .inl ((cy 21), 16, .inl (fun _ => 0))), ((a 25), .inl ((cy 25), 6, .inl (fun _ => 0))), ((a 26), .inl ((cy 26), 6, .inl (fun _ => 900))), ((a 12), .inr (3, (keO a))), ((a 30), .inl ((cy 30), 36, .inl (fun _ => 0))), ((a 31), .inl ((cy 31), 10, .inl (fun _ => 0))), ((a 32), .inl ((cy 32), 10, .inl (fun _ => 0))), ((a 34), .inl ((cy 34), 10, .inl (fun _ => 0))), ((a 38), .inl ((cy 38), 10, .inl (fun _ => 0))), ((a 39), .inl ((cy 39), 6, .inl (fun _ => 0))), ((a 40), .inl ((cy 40), 6, .inl (fun _ => 0))), ((a 41), .inl ((cy 41), 6, .inl (fun _ => 0))), ((a 13), .inr (2, (chO a))), ((a 50), .inl ((cy 50), 40, .inl (fun _ => 0))), ((a 51), .inl ((cy 51), 40, .inl (fun _ => 0))), ((a 52), .inl ((cy 52), 40, .inl (fun _ => 0))), ((a 14), .inr (5, (paO a))), ((a 60), .inl ((cy 60), 14, .inl (fun _ => 0))), ((b2 6), .inl ((cz 6), 40, .inl (fun _ => 0))), ((b2 7), .inl ((cz 7), 40, .inl (fun _ => 0))), ((b2 8), .inl ((cz 8), 40, .inl (fun _ => 0))), ((b2 9), .inl ((cz 9), 40, .inl (fun _ => 0))), ((b2 10), .inl ((cz 10), 40, .inl (fun _ => 0))), ((b2 11), .inl ((cz 11), 40, .inl (fun _ => 0))), ((b2 12), .inl ((cz 12), 40, .inl (fun _ => 0))), ((b2 13), .inl ((cz 13), 40, .inl (fun _ => 0))), ((b2 14), .inl ((cz 14), 40, .inl (fun _ => 0))), ((b2 15), .inl ((cz 15), 40, .inl (fun _ => 0))), ((b2 16), .inl ((cz 16), 40, .inl (fun _ => 0))), ((b2 17), .inl ((cz 17), 40, .inl (fun _ => 0))), ((b2 18), .inl ((cz 18), 40, .inl (fun _ => 0))), ((b2 19), .inl ((cz 19), 40, .inl (fun _ => 0))), ((b2 20), .inl ((cz 20), 40, .inl (fun _ => 0))), ((b2 21), .inl ((cz 21), 40, .inl (fun _ => 0))), ((b2 22), .inl ((cz 22), 1600, .inl (fun _ => 0))), ((b2 23), .inl ((cz 23), 40, .inl (fun _ => 0))), ((b2 24), .inl ((cz 24), 40, .inl (fun _ => 0))), ((b2 25), .inl ((cz 25), 2400, .inr (.inr (.inl (fun _ => 0))))), ((b2 26), .inl ((cz 26), 2400, .inl (fun _ => 0))), ((b2 27), .inl ((cz 27), 16, .inl (fun _ => 0))), ((b2 28), .inl ((cz 28), 16, .inl (fun _ => 0))), ((b2 31), .inl ((cz 31), 6, .inl (fun _ => 0))), ((b2 32), .inl ((cz 32), 6, .inl (fun _ => 900))), ((b2 34), .inl ((cz 34), 36, .inl (fun _ => 0))), ((b2 35), .inl ((cz 35), 10, .inl (fun _ => 0))), ((b2 36), .inl ((cz 36), 600, .inl (fun _ => 0))), ((b2 37), .inl ((cz 37), 600, .inl (fun _ => 0))), ((b2 38), .inl ((cz 38), 600, .inl (fun _ => 0))), ((b2 39), .inl ((cz 39), 600, .inl (fun _ => 0))), ((b2 40), .inl ((cz 40), 600, .inl (fun _ => 0))), ((b2 41), .inl ((cz 41), 600, .inl (fun _ => 0))), ((b2 42), .inl ((cz 42), 600, .inl (fun _ => 0))), ((b2 43), .inl ((cz 43), 144, .inl (fun _ => (-1)))), ((b2 44), .inl ((cz 44), 200, .inl (fun _ => 0))), ((b2 45), .inl ((cz 45), 144, .inl (fun _ => 0))), ((b2 46), .inl ((cz 46), 144, .inl (fun _ => 0))), ((b2 47), .inl ((cz 47), 144, .inl (fun _ => 0))), ((b2 50), .inl ((cz 50), 348500, .inl (fun _ => 0))), ((b2 51), .inl ((cz 51), 40, .inl (fun _ => 0))), ((b2 53), .inl ((cz 53), 16384, .inl (fun _ => 0))), ((b2 54), .inl ((cz 54), 16384, .inl (fun _ => 0))), ((b2 55), .inl ((cz 55), 10240, .inl (fun _ => 0)))]) (w1 := []) hP hD [26, 52] [0, 1, 2, 3, 4, 5, 6, 7, 8, 9, 10, 11, 12, 13, 14, 15, 16, 17, 18, 19, 20, 21, 22, 23, 24, 25, 27, 28, 29, 30, 31, 32, 33, 34, 35, 36, 37, 38, 39, 40, 41, 42, 43, 44, 45, 46, 47, 48, 49, 50, 51, 53, 54, 55, 56, 57, 58, 59, 60, 61, 62, 63, 64, 65, 66, 67, 68, 69, 70, 71] rfl rfl (by decide) (by decide) hk1 hFc hP1 hD1
  generalize H1 = H at hP hS ⊢
  have hP : va_P (dC, dI) vwCl [((a 0), .inl ((cy 0), 40, .inr (.inr (.inr (.inr (fun _ => none)))))), ((a 2), .inl ((cy 2), 40, .inr (.inr (.inr (.inr (fun _ => none)))))), ((a 4), .inl ((cy 4), 600, .inr (.inr (.inr (.inr (fun _ => none)))))), ((a 6), .inl ((cy 6), 200, .inr (.inr (.inr (.inr (fun _ => none)))))), ((a 8), .inl ((cy 8), 144, .inl (fun _ => (-1)))), ((a 9), .inl ((cy 9), 144, .inl (fun _ => 0))), ((a 10), .inr (8, (rO a))), ((a 20), .inl ((cy 20), 16, .inl (fun _ => 0))), ((a 21), .inl ((cy 21), 16, .inl (fun _ => 0))), ((a 25), .inl ((cy 25), 6, .inl (fun _ => 0))), ((a 26), .inl ((cy 26), 6, .inl (fun _ => 900))), ((a 12), .inr (3, (keO a))), ((a 30), .inl ((cy 30), 36, .inl (fun _ => 0))), ((a 31), .inl ((cy 31), 10, .inl (fun _ => 0))), ((a 32), .inl ((cy 32), 10, .inl (fun _ => 0))), ((a 34), .inl ((cy 34), 10, .inl (fun _ => 0))), ((a 38), .inl ((cy 38), 10, .inl (fun _ => 0))), ((a 39), .inl ((cy 39), 6, .inl (fun _ => 0))), ((a 40), .inl ((cy 40), 6, .inl (fun _ => 0))), ((a 41), .inl ((cy 41), 6, .inl (fun _ => 0))), ((a 13), .inr (2, (chO a))), ((a 50), .inl ((cy 50), 40, .inl (fun _ => 0))), ((a 51), .inl ((cy 51), 40, .inl (fun _ => 0))), ((a 52), .inl ((cy 52), 40, .inl (fun _ => 0))), ((a 14), .inr (5, (paO a))), ((a 60), .inl ((cy 60), 14, .inl (fun _ => 0))), ((b2 6), .inl ((cz 6), 40, .inl (fun _ => 0))), ((b2 7), .inl ((cz 7), 40, .inl (fun _ => 0))), ((b2 8), .inl ((cz 8), 40, .inl (fun _ => 0))), ((b2 9), .inl ((cz 9), 40, .inl (fun _ => 0))), ((b2 10), .inl ((cz 10), 40, .inl (fun _ => 0))), ((b2 11), .inl ((cz 11), 40, .inl (fun _ => 0))), ((b2 12), .inl ((cz 12), 40, .inl (fun _ => 0))), ((b2 13), .inl ((cz 13), 40, .inl (fun _ => 0))), ((b2 14), .inl ((cz 14), 40, .inl (fun _ => 0))), ((b2 15), .inl ((cz 15), 40, .inl (fun _ => 0))), ((b2 16), .inl ((cz 16), 40, .inl (fun _ => 0))), ((b2 17), .inl ((cz 17), 40, .inl (fun _ => 0))), ((b2 18), .inl ((cz 18), 40, .inl (fun _ => 0))), ((b2 19), .inl ((cz 19), 40, .inl (fun _ => 0))), ((b2 20), .inl ((cz 20), 40, .inl (fun _ => 0))), ((b2 21), .inl ((cz 21), 40, .inl (fun _ => 0))), ((b2 22), .inl ((cz 22), 1600, .inl (fun _ => 0))), ((b2 23), .inl ((cz 23), 40, .inl (fun _ => 0))), ((b2 24), .inl ((cz 24), 40, .inl (fun _ => 0))), ((b2 25), .inl ((cz 25), 2400, .inr (.inr (.inl (fun _ => 0))))), ((b2 26), .inl ((cz 26), 2400, .inl (fun _ => 0))), ((b2 27), .inl ((cz 27), 16, .inl (fun _ => 0))), ((b2 28), .inl ((cz 28), 16, .inl (fun _ => 0))), ((b2 31), .inl ((cz 31), 6, .inl (fun _ => 0))), ((b2 32), .inl ((cz 32), 6, .inl (fun _ => 900))), ((b2 34), .inl ((cz 34), 36, .inl (fun _ => 0))), ((b2 35), .inl ((cz 35), 10, .inl (fun _ => 0))), ((b2 36), .inl ((cz 36), 600, .inl (fun _ => 0))), ((b2 37), .inl ((cz 37), 600, .inl (fun _ => 0))), ((b2 38), .inl ((cz 38), 600, .inl (fun _ => 0))), ((b2 39), .inl ((cz 39), 600, .inl (fun _ => 0))), ((b2 40), .inl ((cz 40), 600, .inl (fun _ => 0))), ((b2 41), .inl ((cz 41), 600, .inl (fun _ => 0))), ((b2 42), .inl ((cz 42), 600, .inl (fun _ => 0))), ((b2 43), .inl ((cz 43), 144, .inl (fun _ => (-1)))), ((b2 44), .inl ((cz 44), 200, .inl (fun _ => 0))), ((b2 45), .inl ((cz 45), 144, .inl (fun _ => 0))), ((b2 46), .inl ((cz 46), 144, .inl (fun _ => 0))), ((b2 47), .inl ((cz 47), 144, .inl (fun _ => 0))), ((b2 50), .inl ((cz 50), 348500, .inl (fun _ => 0))), ((b2 51), .inl ((cz 51), 40, .inl (fun _ => 0))), ((b2 53), .inl ((cz 53), 16384, .inl (fun _ => 0))), ((b2 54), .inl ((cz 54), 16384, .inl (fun _ => 0))), ((b2 55), .inl ((cz 55), 10240, .inl (fun _ => 0)))] H := hP
  have hD : va_D (fun q : Nat => s.heap.size ≤ q) [((a 0), .inl ((cy 0), 40, .inr (.inr (.inr (.inr (fun _ => none)))))), ((a 2), .inl ((cy 2), 40, .inr (.inr (.inr (.inr (fun _ => none)))))), ((a 4), .inl ((cy 4), 600, .inr (.inr (.inr (.inr (fun _ => none)))))), ((a 6), .inl ((cy 6), 200, .inr (.inr (.inr (.inr (fun _ => none)))))), ((a 8), .inl ((cy 8), 144, .inl (fun _ => (-1)))), ((a 9), .inl ((cy 9), 144, .inl (fun _ => 0))), ((a 10), .inr (8, (rO a))), ((a 20), .inl ((cy 20), 16, .inl (fun _ => 0))), ((a 21), .inl ((cy 21), 16, .inl (fun _ => 0))), ((a 25), .inl ((cy 25), 6, .inl (fun _ => 0))), ((a 26), .inl ((cy 26), 6, .inl (fun _ => 900))), ((a 12), .inr (3, (keO a))), ((a 30), .inl ((cy 30), 36, .inl (fun _ => 0))), ((a 31), .inl ((cy 31), 10, .inl (fun _ => 0))), ((a 32), .inl ((cy 32), 10, .inl (fun _ => 0))), ((a 34), .inl ((cy 34), 10, .inl (fun _ => 0))), ((a 38), .inl ((cy 38), 10, .inl (fun _ => 0))), ((a 39), .inl ((cy 39), 6, .inl (fun _ => 0))), ((a 40), .inl ((cy 40), 6, .inl (fun _ => 0))), ((a 41), .inl ((cy 41), 6, .inl (fun _ => 0))), ((a 13), .inr (2, (chO a))), ((a 50), .inl ((cy 50), 40, .inl (fun _ => 0))), ((a 51), .inl ((cy 51), 40, .inl (fun _ => 0))), ((a 52), .inl ((cy 52), 40, .inl (fun _ => 0))), ((a 14), .inr (5, (paO a))), ((a 60), .inl ((cy 60), 14, .inl (fun _ => 0))), ((b2 6), .inl ((cz 6), 40, .inl (fun _ => 0))), ((b2 7), .inl ((cz 7), 40, .inl (fun _ => 0))), ((b2 8), .inl ((cz 8), 40, .inl (fun _ => 0))), ((b2 9), .inl ((cz 9), 40, .inl (fun _ => 0))), ((b2 10), .inl ((cz 10), 40, .inl (fun _ => 0))), ((b2 11), .inl ((cz 11), 40, .inl (fun _ => 0))), ((b2 12), .inl ((cz 12), 40, .inl (fun _ => 0))), ((b2 13), .inl ((cz 13), 40, .inl (fun _ => 0))), ((b2 14), .inl ((cz 14), 40, .inl (fun _ => 0))), ((b2 15), .inl ((cz 15), 40, .inl (fun _ => 0))), ((b2 16), .inl ((cz 16), 40, .inl (fun _ => 0))), ((b2 17), .inl ((cz 17), 40, .inl (fun _ => 0))), ((b2 18), .inl ((cz 18), 40, .inl (fun _ => 0))), ((b2 19), .inl ((cz 19), 40, .inl (fun _ => 0))), ((b2 20), .inl ((cz 20), 40, .inl (fun _ => 0))), ((b2 21), .inl ((cz 21), 40, .inl (fun _ => 0))), ((b2 22), .inl ((cz 22), 1600, .inl (fun _ => 0))), ((b2 23), .inl ((cz 23), 40, .inl (fun _ => 0))), ((b2 24), .inl ((cz 24), 40, .inl (fun _ => 0))), ((b2 25), .inl ((cz 25), 2400, .inr (.inr (.inl (fun _ => 0))))), ((b2 26), .inl ((cz 26), 2400, .inl (fun _ => 0))), ((b2 27), .inl ((cz 27), 16, .inl (fun _ => 0))), ((b2 28), .inl ((cz 28), 16, .inl (fun _ => 0))), ((b2 31), .inl ((cz 31), 6, .inl (fun _ => 0))), ((b2 32), .inl ((cz 32), 6, .inl (fun _ => 900))), ((b2 34), .inl ((cz 34), 36, .inl (fun _ => 0))), ((b2 35), .inl ((cz 35), 10, .inl (fun _ => 0))), ((b2 36), .inl ((cz 36), 600, .inl (fun _ => 0))), ((b2 37), .inl ((cz 37), 600, .inl (fun _ => 0))), ((b2 38), .inl ((cz 38), 600, .inl (fun _ => 0))), ((b2 39), .inl ((cz 39), 600, .inl (fun _ => 0))), ((b2 40), .inl ((cz 40), 600, .inl (fun _ => 0))), ((b2 41), .inl ((cz 41), 600, .inl (fun _ => 0))), ((b2 42), .inl ((cz 42), 600, .inl (fun _ => 0))), ((b2 43), .inl ((cz 43), 144, .inl (fun _ => (-1)))), ((b2 44), .inl ((cz 44), 200, .inl (fun _ => 0))), ((b2 45), .inl ((cz 45), 144, .inl (fun _ => 0))), ((b2 46), .inl ((cz 46), 144, .inl (fun _ => 0))), ((b2 47), .inl ((cz 47), 144, .inl (fun _ => 0))), ((b2 50), .inl ((cz 50), 348500, .inl (fun _ => 0))), ((b2 51), .inl ((cz 51), 40, .inl (fun _ => 0))), ((b2 53), .inl ((cz 53), 16384, .inl (fun _ => 0))), ((b2 54), .inl ((cz 54), 16384, .inl (fun _ => 0))), ((b2 55), .inl ((cz 55), 10240, .inl (fun _ => 0)))] := hD
  refine lv_icmp_eq (tgt := 1319) hx hb dL_law_707 (by decide) (fun c_ => ?_) (fun c_ => absurd rfl c_)
  exact law_end l (Nat.le_refl 7) C0 (Nat.le_of_ble_eq_true rfl) (Nat.le_of_ble_eq_true rfl) hS (lv_sub hl [0, 3] rfl)

set_option maxHeartbeats 4000000 in
set_option maxRecDepth 100000 in
theorem law_c14 {p : Program} {e : Env} {s : State} {m : MethodId} {below : List Frame} {meth : Method} {c : Code} (l : Launch) {b : Nat} {xs : Nat → Int32} {dC : Nat → ClassId} {dI : Nat → Nat → Nat} (x : Nat) (a : Nat → Nat) (cy : Nat → ClassId) (y : Nat) (b2 : Nat → Nat) (cz : Nat → ClassId) {H : Heap} {locs : List Loc} {ls : Array Slot} (C0 : lw_At p s m meth c b 7 xs) (hE : ext s) (hts : ∀ w ∈ gT, w.before #[Value.ref b] s = true) (hK : va_K (dC, dI) vwCl (lT cy cz) s) (hP : va_P (dC, dI) vwCl (lW x a cy y b2 cz) H) (hD : va_D (fun q : Nat => s.heap.size ≤ q) (lW x a cy y b2 cz)) (hS : va_S (fun q : Nat => s.heap.size ≤ q) s.heap H locs) (hl : lv_has ls 4 [(3, .int 0), (2, .ref y), (1, .ref x), (0, .ref b)]) : W p l e room_1 s m #[Value.ref b] below meth c H locs 74 405288 (lw_Z below #[Value.ref b] s) (F0 m 712 ls []) := by
  have C1 := C0
  obtain ⟨hx, hb, hr, hml, hown, hts0, hX, hbl, hlocks, hgv⟩ := C1
  have hA : ∀ q : Nat, s.heap.size ≤ q → (fun q : Nat => s.heap.size ≤ q) q := fun _ h => h
  have hbA : ¬ (fun q : Nat => s.heap.size ≤ q) b := Nat.not_le.mpr hbl
  refine lv_aload_n hx hb dL_law_712 rfl (lv_at hl 2 rfl) ?_
  refine lv_aload_n hx hb dL_law_713 rfl (lv_at hl 3 rfl) ?_
  refine lv_iload_n hx hb dL_law_714 rfl (lv_at hl 0 rfl) ?_
  refine lv_iconst (v := 1) hx hb dL_law_715 (by decide) ?_
  refine lv_iadd hx hb dL_law_716 ?_
  refine lv_topi (fun y_ e_ => ?_)
  obtain rfl : y_ = 1 := e_.trans (by decide)
  refine va_sld hx hb hX hbl hbA hS (by unfold vp_in; decide) dL_law_717 ?_
  refine lv_aload_n hx hb dL_law_718 rfl (lv_at hl 3 rfl) ?_
  refine lv_iload_n hx hb dL_law_719 rfl (lv_at hl 0 rfl) ?_
  refine lv_iconst (v := 2) hx hb dL_law_720 (by decide) ?_
  refine lv_iadd hx hb dL_law_721 ?_
  refine lv_topi (fun y_ e_ => ?_)
  obtain rfl : y_ = 2 := e_.trans (by decide)
  refine va_sld hx hb hX hbl hbA hS (by unfold vp_in; decide) dL_law_722 ?_
  have hPc := hP.sub (ws' := [(x, .inr (10, (kO a)))]) [0] rfl
  have hKc := hK.sub (tys' := []) [] rfl
  refine pc_i (va_runV (As := [.int (xs (1 : Int32).toNatClampNeg), .int (xs (2 : Int32).toNatClampNeg)]) (rest := []) ⟨hx, hb, hml, hown, hts⟩ (k_heat l dC dI x a cy (xs (1 : Int32).toNatClampNeg) (xs (2 : Int32).toNatClampNeg)) (⟨callB_of 2 hts (gd mw_523) rfl rfl rfl (hts _ mw_1) (hts _ mw_520) ds_X10_heat ⟨Nat.le_of_ble_eq_true rfl, Nat.le_of_ble_eq_true rfl⟩, (hts _ mw_521), (hts _ mw_522)⟩) (pu_V hPc hKc hE (va_recv hKc hPc (ci := 10) (q0 := 0) rfl rfl)) rfl rfl hl.1 rfl (lv_room (Nat.le_of_ble_eq_true rfl)) dL_law_723 ⟨Nat.le_of_ble_eq_true rfl, Nat.le_of_ble_eq_true rfl⟩) (fun r_ hw_ => ?_)
  obtain rfl : r_ = (-1) := hw_
  refine lv_aload_n hx hb dL_law_726 rfl (lv_at hl 1 rfl) ?_
  refine lv_aload_n hx hb dL_law_727 rfl (lv_at hl 3 rfl) ?_
  refine lv_iload_n hx hb dL_law_728 rfl (lv_at hl 0 rfl) ?_
  refine lv_iconst (v := 1) hx hb dL_law_729 (by decide) ?_
  refine lv_iadd hx hb dL_law_730 ?_
  refine lv_topi (fun y_ e_ => ?_)
  obtain rfl : y_ = 1 := e_.trans (by decide)
  refine va_sld hx hb hX hbl hbA hS (by unfold vp_in; decide) dL_law_731 ?_
  refine lv_aload_n hx hb dL_law_732 rfl (lv_at hl 3 rfl) ?_
  refine lv_iload_n hx hb dL_law_733 rfl (lv_at hl 0 rfl) ?_
  refine lv_iconst (v := 2) hx hb dL_law_734 (by decide) ?_
  refine lv_iadd hx hb dL_law_735 ?_
  refine lv_topi (fun y_ e_ => ?_)
  obtain rfl : y_ = 2 := e_.trans (by decide)
  refine va_sld hx hb hX hbl hbA hS (by unfold vp_in; decide) dL_law_736 ?_
  have hPc := hP.sub (ws' := [(y, .inr (11, (mO b2)))]) [28] rfl
  have hKc := hK.sub (tys' := []) [] rfl
  refine pc_i (va_runV (As := [.int (xs (1 : Int32).toNatClampNeg), .int (xs (2 : Int32).toNatClampNeg)]) (rest := [.int (-1)]) ⟨hx, hb, hml, hown, hts⟩ (m_heat l dC dI y b2 cz (xs (1 : Int32).toNatClampNeg) (xs (2 : Int32).toNatClampNeg)) (⟨callB_of 2 hts (gd mw_1135) rfl rfl rfl (hts _ mw_8) (hts _ mw_1132) ds_X11_heat ⟨Nat.le_of_ble_eq_true rfl, Nat.le_of_ble_eq_true rfl⟩, (hts _ mw_1133), (hts _ mw_1134)⟩) (pu_V hPc hKc hE (va_recv hKc hPc (ci := 11) (q0 := 0) rfl rfl)) rfl rfl hl.1 rfl (lv_room (Nat.le_of_ble_eq_true rfl)) dL_law_737 ⟨Nat.le_of_ble_eq_true rfl, Nat.le_of_ble_eq_true rfl⟩) (fun r_ hw_ => ?_)
  obtain rfl : r_ = (-1) := hw_
  refine lv_icmp_eq (tgt := 1319) hx hb dL_law_740 (by decide) (fun c_ => ?_) (fun c_ => absurd c_ (by decide))
  exact law_end l (Nat.le_refl 7) C0 (Nat.le_of_ble_eq_true rfl) (Nat.le_of_ble_eq_true rfl) hS (lv_sub hl [0, 3] rfl)

set_option maxHeartbeats 4000000 in
set_option maxRecDepth 100000 in
theorem law_c15 {p : Program} {e : Env} {s : State} {m : MethodId} {below : List Frame} {meth : Method} {c : Code} (l : Launch) {b : Nat} {xs : Nat → Int32} {dC : Nat → ClassId} {dI : Nat → Nat → Nat} (x : Nat) (a : Nat → Nat) (cy : Nat → ClassId) (y : Nat) (b2 : Nat → Nat) (cz : Nat → ClassId) {H : Heap} {locs : List Loc} {ls : Array Slot} (C0 : lw_At p s m meth c b 7 xs) (hE : ext s) (hts : ∀ w ∈ gT, w.before #[Value.ref b] s = true) (hK : va_K (dC, dI) vwCl (lT cy cz) s) (hP : va_P (dC, dI) vwCl (lW x a cy y b2 cz) H) (hD : va_D (fun q : Nat => s.heap.size ≤ q) (lW x a cy y b2 cz)) (hS : va_S (fun q : Nat => s.heap.size ≤ q) s.heap H locs) (hl : lv_has ls 4 [(3, .int 0), (2, .ref y), (1, .ref x), (0, .ref b)]) : W p l e room_1 s m #[Value.ref b] below meth c H locs 74 405288 (lw_Z below #[Value.ref b] s) (F0 m 745 ls []) := by
  have C1 := C0
  obtain ⟨hx, hb, hr, hml, hown, hts0, hX, hbl, hlocks, hgv⟩ := C1
  have hA : ∀ q : Nat, s.heap.size ≤ q → (fun q : Nat => s.heap.size ≤ q) q := fun _ h => h
  have hbA : ¬ (fun q : Nat => s.heap.size ≤ q) b := Nat.not_le.mpr hbl
  refine lv_aload_n hx hb dL_law_745 rfl (lv_at hl 2 rfl) ?_
  refine lv_aload_n hx hb dL_law_746 rfl (lv_at hl 3 rfl) ?_
  refine lv_iload_n hx hb dL_law_747 rfl (lv_at hl 0 rfl) ?_
  refine lv_iconst (v := 1) hx hb dL_law_748 (by decide) ?_
  refine lv_iadd hx hb dL_law_749 ?_
  refine lv_topi (fun y_ e_ => ?_)
  obtain rfl : y_ = 1 := e_.trans (by decide)
  refine va_sld hx hb hX hbl hbA hS (by unfold vp_in; decide) dL_law_750 ?_
  refine lv_aload_n hx hb dL_law_751 rfl (lv_at hl 3 rfl) ?_
  refine lv_iload_n hx hb dL_law_752 rfl (lv_at hl 0 rfl) ?_
  refine lv_iconst (v := 2) hx hb dL_law_753 (by decide) ?_
  refine lv_iadd hx hb dL_law_754 ?_
  refine lv_topi (fun y_ e_ => ?_)
  obtain rfl : y_ = 2 := e_.trans (by decide)
  refine va_sld hx hb hX hbl hbA hS (by unfold vp_in; decide) dL_law_755 ?_
  refine lv_aload_n hx hb dL_law_756 rfl (lv_at hl 3 rfl) ?_
  refine lv_iload_n hx hb dL_law_757 rfl (lv_at hl 0 rfl) ?_
  refine lv_iconst (v := 3) hx hb dL_law_758 (by decide) ?_
  refine lv_iadd hx hb dL_law_759 ?_
  refine lv_topi (fun y_ e_ => ?_)
  obtain rfl : y_ = 3 := e_.trans (by decide)
  refine va_sld hx hb hX hbl hbA hS (by unfold vp_in; decide) dL_law_760 ?_
  have hPc := hP.sub (ws' := [(x, .inr (10, (kO a)))]) [0] rfl
  have hKc := hK.sub (tys' := []) [] rfl
  refine pc_i (va_runV (As := [.int (xs (1 : Int32).toNatClampNeg), .int (xs (2 : Int32).toNatClampNeg), .int (xs (3 : Int32).toNatClampNeg)]) (rest := []) ⟨hx, hb, hml, hown, hts⟩ (k_cut l dC dI x a cy (xs (1 : Int32).toNatClampNeg) (xs (2 : Int32).toNatClampNeg) (xs (3 : Int32).toNatClampNeg)) (⟨callB_of 3 hts (gd mw_539) rfl rfl rfl (hts _ mw_1) (hts _ mw_536) ds_X10_cut ⟨Nat.le_of_ble_eq_true rfl, Nat.le_of_ble_eq_true rfl⟩, (hts _ mw_537), (hts _ mw_538)⟩) (pu_V hPc hKc hE (va_recv hKc hPc (ci := 10) (q0 := 0) rfl rfl)) rfl rfl hl.1 rfl (lv_room (Nat.le_of_ble_eq_true rfl)) dL_law_761 ⟨Nat.le_of_ble_eq_true rfl, Nat.le_of_ble_eq_true rfl⟩) (fun r_ hw_ => ?_)
  obtain rfl : r_ = (-1) := hw_
  refine lv_aload_n hx hb dL_law_764 rfl (lv_at hl 1 rfl) ?_
  refine lv_aload_n hx hb dL_law_765 rfl (lv_at hl 3 rfl) ?_
  refine lv_iload_n hx hb dL_law_766 rfl (lv_at hl 0 rfl) ?_
  refine lv_iconst (v := 1) hx hb dL_law_767 (by decide) ?_
  refine lv_iadd hx hb dL_law_768 ?_
  refine lv_topi (fun y_ e_ => ?_)
  obtain rfl : y_ = 1 := e_.trans (by decide)
  refine va_sld hx hb hX hbl hbA hS (by unfold vp_in; decide) dL_law_769 ?_
  refine lv_aload_n hx hb dL_law_770 rfl (lv_at hl 3 rfl) ?_
  refine lv_iload_n hx hb dL_law_771 rfl (lv_at hl 0 rfl) ?_
  refine lv_iconst (v := 2) hx hb dL_law_772 (by decide) ?_
  refine lv_iadd hx hb dL_law_773 ?_
  refine lv_topi (fun y_ e_ => ?_)
  obtain rfl : y_ = 2 := e_.trans (by decide)
  refine va_sld hx hb hX hbl hbA hS (by unfold vp_in; decide) dL_law_774 ?_
  refine lv_aload_n hx hb dL_law_775 rfl (lv_at hl 3 rfl) ?_
  refine lv_iload_n hx hb dL_law_776 rfl (lv_at hl 0 rfl) ?_
  refine lv_iconst (v := 3) hx hb dL_law_777 (by decide) ?_
  refine lv_iadd hx hb dL_law_778 ?_
  refine lv_topi (fun y_ e_ => ?_)
  obtain rfl : y_ = 3 := e_.trans (by decide)
  refine va_sld hx hb hX hbl hbA hS (by unfold vp_in; decide) dL_law_779 ?_
  have hPc := hP.sub (ws' := [(y, .inr (11, (mO b2)))]) [28] rfl
  have hKc := hK.sub (tys' := []) [] rfl
  refine pc_i (va_runV (As := [.int (xs (1 : Int32).toNatClampNeg), .int (xs (2 : Int32).toNatClampNeg), .int (xs (3 : Int32).toNatClampNeg)]) (rest := [.int (-1)]) ⟨hx, hb, hml, hown, hts⟩ (m_cut l dC dI y b2 cz (xs (1 : Int32).toNatClampNeg) (xs (2 : Int32).toNatClampNeg) (xs (3 : Int32).toNatClampNeg)) (⟨callB_of 3 hts (gd mw_1139) rfl rfl rfl (hts _ mw_8) (hts _ mw_1136) ds_X11_cut ⟨Nat.le_of_ble_eq_true rfl, Nat.le_of_ble_eq_true rfl⟩, (hts _ mw_1137), (hts _ mw_1138)⟩) (pu_V hPc hKc hE (va_recv hKc hPc (ci := 11) (q0 := 0) rfl rfl)) rfl rfl hl.1 rfl (lv_room (Nat.le_of_ble_eq_true rfl)) dL_law_780 ⟨Nat.le_of_ble_eq_true rfl, Nat.le_of_ble_eq_true rfl⟩) (fun r_ hw_ => ?_)
  obtain rfl : r_ = (-1) := hw_
  refine lv_icmp_eq (tgt := 1319) hx hb dL_law_783 (by decide) (fun c_ => ?_) (fun c_ => absurd c_ (by decide))
  exact law_end l (Nat.le_refl 7) C0 (Nat.le_of_ble_eq_true rfl) (Nat.le_of_ble_eq_true rfl) hS (lv_sub hl [0, 3] rfl)
