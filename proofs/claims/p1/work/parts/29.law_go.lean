set_option maxHeartbeats 4000000 in
set_option maxRecDepth 100000 in
theorem law_go {p : Program} {e : Env} {s : State} {m : MethodId} {below : List Frame} {meth : Method} {c : Code} (l : Launch) {b : Nat} {xs : Nat → Int32} {dC : Nat → ClassId} {dI : Nat → Nat → Nat} (x : Nat) (a : Nat → Nat) (cy : Nat → ClassId) (y : Nat) (b2 : Nat → Nat) (cz : Nat → ClassId) {H : Heap} {locs : List Loc} {ls : Array Slot} (C0 : lw_At p s m meth c b 7 xs) (hE : ext s) (hts : ∀ w ∈ gT, w.before #[Value.ref b] s = true) (hK : va_K (dC, dI) vwCl (lT cy cz) s) (hP : va_P (dC, dI) vwCl (lW x a cy y b2 cz) H) (hD : va_D (fun q : Nat => s.heap.size ≤ q) (lW x a cy y b2 cz)) (hS : va_S (fun q : Nat => s.heap.size ≤ q) s.heap H locs) (hl : lv_has ls 4 [(3, .int 0), (2, .ref y), (1, .ref x), (0, .ref b)]) : W p l e room_1 s m #[Value.ref b] below meth c H locs 74 405288 (lw_Z below #[Value.ref b] s) (F0 m 18 ls []) := by
  have C1 := C0
  obtain ⟨hx, hb, hr, hml, hown, hts0, hX, hbl, hlocks, hgv⟩ := C1
  have hA : ∀ q : Nat, s.heap.size ≤ q → (fun q : Nat => s.heap.size ≤ q) q := fun _ h => h
  have hbA : ¬ (fun q : Nat => s.heap.size ≤ q) b := Nat.not_le.mpr hbl
  refine lv_iload_n hx hb dL_law_18 rfl (lv_at hl 0 rfl) ?_
  refine lv_aload_n hx hb dL_law_19 rfl (lv_at hl 3 rfl) ?_
  refine va_slen hx hb hX hbl hbA hS dL_law_20 ?_
  refine lv_bipush (v := 7) hx hb dL_law_21 (by decide) ?_
  refine lv_isub hx hb dL_law_23 ?_
  refine lv_icmp_gt (tgt := 1325) hx hb dL_law_24 (by decide) (fun c_ => absurd c_ (by decide)) (fun c_ => ?_)
  refine lv_aload_n hx hb dL_law_27 rfl (lv_at hl 3 rfl) ?_
  refine lv_iload_n hx hb dL_law_28 rfl (lv_at hl 0 rfl) ?_
  refine va_sld hx hb hX hbl hbA hS (by unfold vp_in; decide) dL_law_29 ?_
  refine lv_bipush (v := 31) hx hb dL_law_30 (by decide) ?_
  refine lv_iand hx hb dL_law_32 ?_
  by_cases c_1 : ((xs (0 : Int32).toNatClampNeg) &&& 31) = 0
  · refine lv_topi (fun y_ e_ => ?_)
    obtain rfl : y_ = 0 := e_.trans c_1
    refine lv_tableIn (tgt := 172) hx hb dL_law_33 (by decide) (by decide) rfl (by decide) ?_
    exact law_c0 l x a cy y b2 cz C0 hE hts hK hP hD hS (lv_sub hl [0, 1, 2, 3] rfl)
  by_cases c_2 : ((xs (0 : Int32).toNatClampNeg) &&& 31) = 1
  · refine lv_topi (fun y_ e_ => ?_)
    obtain rfl : y_ = 1 := e_.trans c_2
    refine lv_tableIn (tgt := 205) hx hb dL_law_33 (by decide) (by decide) rfl (by decide) ?_
    exact law_c1 l x a cy y b2 cz C0 hE hts hK hP hD hS (lv_sub hl [0, 1, 2, 3] rfl)
  by_cases c_3 : ((xs (0 : Int32).toNatClampNeg) &&& 31) = 2
  · refine lv_topi (fun y_ e_ => ?_)
    obtain rfl : y_ = 2 := e_.trans c_3
    refine lv_tableIn (tgt := 228) hx hb dL_law_33 (by decide) (by decide) rfl (by decide) ?_
    exact law_c2 l x a cy y b2 cz C0 hE hts hK hP hD hS (lv_sub hl [0, 1, 2, 3] rfl)
  by_cases c_4 : ((xs (0 : Int32).toNatClampNeg) &&& 31) = 3
  · refine lv_topi (fun y_ e_ => ?_)
    obtain rfl : y_ = 3 := e_.trans c_4
    refine lv_tableIn (tgt := 271) hx hb dL_law_33 (by decide) (by decide) rfl (by decide) ?_
    exact law_c3 l x a cy y b2 cz C0 hE hts hK hP hD hS (lv_sub hl [0, 1, 2, 3] rfl)
  by_cases c_5 : ((xs (0 : Int32).toNatClampNeg) &&& 31) = 4
  · refine lv_topi (fun y_ e_ => ?_)
    obtain rfl : y_ = 4 := e_.trans c_5
    refine lv_tableIn (tgt := 314) hx hb dL_law_33 (by decide) (by decide) rfl (by decide) ?_
    exact law_c4 l x a cy y b2 cz C0 hE hts hK hP hD hS (lv_sub hl [0, 1, 2, 3] rfl)
  by_cases c_6 : ((xs (0 : Int32).toNatClampNeg) &&& 31) = 5
  · refine lv_topi (fun y_ e_ => ?_)
    obtain rfl : y_ = 5 := e_.trans c_6
    refine lv_tableIn (tgt := 357) hx hb dL_law_33 (by decide) (by decide) rfl (by decide) ?_
    exact law_c5 l x a cy y b2 cz C0 hE hts hK hP hD hS (lv_sub hl [0, 1, 2, 3] rfl)
  by_cases c_7 : ((xs (0 : Int32).toNatClampNeg) &&& 31) = 6
  · refine lv_topi (fun y_ e_ => ?_)
    obtain rfl : y_ = 6 := e_.trans c_7
    refine lv_tableIn (tgt := 416) hx hb dL_law_33 (by decide) (by decide) rfl (by decide) ?_
    exact law_c6 l x a cy y b2 cz C0 hE hts hK hP hD hS (lv_sub hl [0, 1, 2, 3] rfl)
  by_cases c_8 : ((xs (0 : Int32).toNatClampNeg) &&& 31) = 7
  · refine lv_topi (fun y_ e_ => ?_)
    obtain rfl : y_ = 7 := e_.trans c_8
    refine lv_tableIn (tgt := 449) hx hb dL_law_33 (by decide) (by decide) rfl (by decide) ?_
    exact law_c7 l x a cy y b2 cz C0 hE hts hK hP hD hS (lv_sub hl [0, 1, 2, 3] rfl)
  by_cases c_9 : ((xs (0 : Int32).toNatClampNeg) &&& 31) = 8
  · refine lv_topi (fun y_ e_ => ?_)
    obtain rfl : y_ = 8 := e_.trans c_9
    refine lv_tableIn (tgt := 482) hx hb dL_law_33 (by decide) (by decide) rfl (by decide) ?_
    exact law_c8 l x a cy y b2 cz C0 hE hts hK hP hD hS (lv_sub hl [0, 1, 2, 3] rfl)
  by_cases c_10 : ((xs (0 : Int32).toNatClampNeg) &&& 31) = 9
  · refine lv_topi (fun y_ e_ => ?_)
    obtain rfl : y_ = 9 := e_.trans c_10
    refine lv_tableIn (tgt := 525) hx hb dL_law_33 (by decide) (by decide) rfl (by decide) ?_
    exact law_c9 l x a cy y b2 cz C0 hE hts hK hP hD hS (lv_sub hl [0, 1, 2, 3] rfl)
  by_cases c_11 : ((xs (0 : Int32).toNatClampNeg) &&& 31) = 10
  · refine lv_topi (fun y_ e_ => ?_)
    obtain rfl : y_ = 10 := e_.trans c_11
    refine lv_tableIn (tgt := 558) hx hb dL_law_33 (by decide) (by decide) rfl (by decide) ?_
    exact law_c10 l x a cy y b2 cz C0 hE hts hK hP hD hS (lv_sub hl [0, 1, 2, 3] rfl)
  by_cases c_12 : ((xs (0 : Int32).toNatClampNeg) &&& 31) = 11
  · refine lv_topi (fun y_ e_ => ?_)
    obtain rfl : y_ = 11 := e_.trans c_12
    refine lv_tableIn (tgt := 581) hx hb dL_law_33 (by decide) (by decide) rfl (by decide) ?_
    exact law_c11 l x a cy y b2 cz C0 hE hts hK hP hD hS (lv_sub hl [0, 1, 2, 3] rfl)
  by_cases c_13 : ((xs (0 : Int32).toNatClampNeg) &&& 31) = 12
  · refine lv_topi (fun y_ e_ => ?_)
    obtain rfl : y_ = 12 := e_.trans c_13
    refine lv_tableIn (tgt := 604) hx hb dL_law_33 (by decide) (by decide) rfl (by decide) ?_
    exact law_c12 l x a cy y b2 cz C0 hE hts hK hP hD hS (lv_sub hl [0, 1, 2, 3] rfl)
  by_cases c_14 : ((xs (0 : Int32).toNatClampNeg) &&& 31) = 13
  · refine lv_topi (fun y_ e_ => ?_)
    obtain rfl : y_ = 13 := e_.trans c_14
    refine lv_tableIn (tgt := 637) hx hb dL_law_33 (by decide) (by decide) rfl (by decide) ?_
    exact law_c13 l x a cy y b2 cz C0 hE hts hK hP hD hS (lv_sub hl [0, 1, 2, 3] rfl)
  by_cases c_15 : ((xs (0 : Int32).toNatClampNeg) &&& 31) = 14
  · refine lv_topi (fun y_ e_ => ?_)
    obtain rfl : y_ = 14 := e_.trans c_15
    refine lv_tableIn (tgt := 712) hx hb dL_law_33 (by decide) (by decide) rfl (by decide) ?_
    exact law_c14 l x a cy y b2 cz C0 hE hts hK hP hD hS (lv_sub hl [0, 1, 2, 3] rfl)
  by_cases c_16 : ((xs (0 : Int32).toNatClampNeg) &&& 31) = 15
  · refine lv_topi (fun y_ e_ => ?_)
    obtain rfl : y_ = 15 := e_.trans c_16
    refine lv_tableIn (tgt := 745) hx hb dL_law_33 (by decide) (by decide) rfl (by decide) ?_
    exact law_c15 l x a cy y b2 cz C0 hE hts hK hP hD hS (lv_sub hl [0, 1, 2, 3] rfl)
  by_cases c_17 : ((xs (0 : Int32).toNatClampNeg) &&& 31) = 16
  · refine lv_topi (fun y_ e_ => ?_)
    obtain rfl : y_ = 16 := e_.trans c_17
    refine lv_tableIn (tgt := 788) hx hb dL_law_33 (by decide) (by decide) rfl (by decide) ?_
    exact law_c16 l x a cy y b2 cz C0 hE hts hK hP hD hS (lv_sub hl [0, 1, 2, 3] rfl)
  by_cases c_18 : ((xs (0 : Int32).toNatClampNeg) &&& 31) = 17
  · refine lv_topi (fun y_ e_ => ?_)
    obtain rfl : y_ = 17 := e_.trans c_18
    refine lv_tableIn (tgt := 831) hx hb dL_law_33 (by decide) (by decide) rfl (by decide) ?_
    exact law_c17 l x a cy y b2 cz C0 hE hts hK hP hD hS (lv_sub hl [0, 1, 2, 3] rfl)
  by_cases c_19 : ((xs (0 : Int32).toNatClampNeg) &&& 31) = 18
  · refine lv_topi (fun y_ e_ => ?_)
    obtain rfl : y_ = 18 := e_.trans c_19
    refine lv_tableIn (tgt := 874) hx hb dL_law_33 (by decide) (by decide) rfl (by decide) ?_
    exact law_c18 l x a cy y b2 cz C0 hE hts hK hP hD hS (lv_sub hl [0, 1, 2, 3] rfl)
  by_cases c_20 : ((xs (0 : Int32).toNatClampNeg) &&& 31) = 19
  · refine lv_topi (fun y_ e_ => ?_)
    obtain rfl : y_ = 19 := e_.trans c_20
    refine lv_tableIn (tgt := 897) hx hb dL_law_33 (by decide) (by decide) rfl (by decide) ?_
    exact law_c19 l x a cy y b2 cz C0 hE hts hK hP hD hS (lv_sub hl [0, 1, 2, 3] rfl)
  by_cases c_21 : ((xs (0 : Int32).toNatClampNeg) &&& 31) = 20
  · refine lv_topi (fun y_ e_ => ?_)
    obtain rfl : y_ = 20 := e_.trans c_21
    refine lv_tableIn (tgt := 920) hx hb dL_law_33 (by decide) (by decide) rfl (by decide) ?_
    exact law_c20 l x a cy y b2 cz C0 hE hts hK hP hD hS (lv_sub hl [0, 1, 2, 3] rfl)
  by_cases c_22 : ((xs (0 : Int32).toNatClampNeg) &&& 31) = 21
  · refine lv_topi (fun y_ e_ => ?_)
    obtain rfl : y_ = 21 := e_.trans c_22
    refine lv_tableIn (tgt := 953) hx hb dL_law_33 (by decide) (by decide) rfl (by decide) ?_
    exact law_c21 l x a cy y b2 cz C0 hE hts hK hP hD hS (lv_sub hl [0, 1, 2, 3] rfl)
  by_cases c_23 : ((xs (0 : Int32).toNatClampNeg) &&& 31) = 22
  · refine lv_topi (fun y_ e_ => ?_)
    obtain rfl : y_ = 22 := e_.trans c_23
    refine lv_tableIn (tgt := 986) hx hb dL_law_33 (by decide) (by decide) rfl (by decide) ?_
    exact law_c22 l x a cy y b2 cz C0 hE hts hK hP hD hS (lv_sub hl [0, 1, 2, 3] rfl)
  by_cases c_24 : ((xs (0 : Int32).toNatClampNeg) &&& 31) = 23
  · refine lv_topi (fun y_ e_ => ?_)
    obtain rfl : y_ = 23 := e_.trans c_24
    refine lv_tableIn (tgt := 1029) hx hb dL_law_33 (by decide) (by decide) rfl (by decide) ?_
    exact law_c23 l x a cy y b2 cz C0 hE hts hK hP hD hS (lv_sub hl [0, 1, 2, 3] rfl)
  by_cases c_25 : ((xs (0 : Int32).toNatClampNeg) &&& 31) = 24
  · refine lv_topi (fun y_ e_ => ?_)
    obtain rfl : y_ = 24 := e_.trans c_25
    refine lv_tableIn (tgt := 1082) hx hb dL_law_33 (by decide) (by decide) rfl (by decide) ?_
    exact law_c24 l x a cy y b2 cz C0 hE hts hK hP hD hS (lv_sub hl [0, 1, 2, 3] rfl)
  by_cases c_26 : ((xs (0 : Int32).toNatClampNeg) &&& 31) = 25
  · refine lv_topi (fun y_ e_ => ?_)
    obtain rfl : y_ = 25 := e_.trans c_26
    refine lv_tableIn (tgt := 1115) hx hb dL_law_33 (by decide) (by decide) rfl (by decide) ?_
    exact law_c25 l x a cy y b2 cz C0 hE hts hK hP hD hS (lv_sub hl [0, 1, 2, 3] rfl)
  by_cases c_27 : ((xs (0 : Int32).toNatClampNeg) &&& 31) = 26
  · refine lv_topi (fun y_ e_ => ?_)
    obtain rfl : y_ = 26 := e_.trans c_27
    refine lv_tableIn (tgt := 1158) hx hb dL_law_33 (by decide) (by decide) rfl (by decide) ?_
    exact law_c26 l x a cy y b2 cz C0 hE hts hK hP hD hS (lv_sub hl [0, 1, 2, 3] rfl)
  by_cases c_28 : ((xs (0 : Int32).toNatClampNeg) &&& 31) = 27
  · refine lv_topi (fun y_ e_ => ?_)
    obtain rfl : y_ = 27 := e_.trans c_28
    refine lv_tableIn (tgt := 1181) hx hb dL_law_33 (by decide) (by decide) rfl (by decide) ?_
    exact law_c27 l x a cy y b2 cz C0 hE hts hK hP hD hS (lv_sub hl [0, 1, 2, 3] rfl)
  by_cases c_29 : ((xs (0 : Int32).toNatClampNeg) &&& 31) = 28
  · refine lv_topi (fun y_ e_ => ?_)
    obtain rfl : y_ = 28 := e_.trans c_29
    refine lv_tableIn (tgt := 1230) hx hb dL_law_33 (by decide) (by decide) rfl (by decide) ?_
    exact law_c28 l x a cy y b2 cz C0 hE hts hK hP hD hS (lv_sub hl [0, 1, 2, 3] rfl)
  by_cases c_30 : ((xs (0 : Int32).toNatClampNeg) &&& 31) = 29
  · refine lv_topi (fun y_ e_ => ?_)
    obtain rfl : y_ = 29 := e_.trans c_30
    refine lv_tableIn (tgt := 1273) hx hb dL_law_33 (by decide) (by decide) rfl (by decide) ?_
    exact law_c29 l x a cy y b2 cz C0 hE hts hK hP hD hS (lv_sub hl [0, 1, 2, 3] rfl)
  by_cases c_31 : ((xs (0 : Int32).toNatClampNeg) &&& 31) = 30
  · refine lv_topi (fun y_ e_ => ?_)
    obtain rfl : y_ = 30 := e_.trans c_31
    refine lv_tableIn (tgt := 1296) hx hb dL_law_33 (by decide) (by decide) rfl (by decide) ?_
    exact law_c30 l x a cy y b2 cz C0 hE hts hK hP hD hS (lv_sub hl [0, 1, 2, 3] rfl)
  refine lv_tableOut (tgt := 1319) hx hb dL_law_33 (by have n0 := lv_neT c_1 (show (0 : Int32).toInt = 0 by decide); have n1 := lv_neT c_2 (show (1 : Int32).toInt = 1 by decide); have n2 := lv_neT c_3 (show (2 : Int32).toInt = 2 by decide); have n3 := lv_neT c_4 (show (3 : Int32).toInt = 3 by decide); have n4 := lv_neT c_5 (show (4 : Int32).toInt = 4 by decide); have n5 := lv_neT c_6 (show (5 : Int32).toInt = 5 by decide); have n6 := lv_neT c_7 (show (6 : Int32).toInt = 6 by decide); have n7 := lv_neT c_8 (show (7 : Int32).toInt = 7 by decide); have n8 := lv_neT c_9 (show (8 : Int32).toInt = 8 by decide); have n9 := lv_neT c_10 (show (9 : Int32).toInt = 9 by decide); have n10 := lv_neT c_11 (show (10 : Int32).toInt = 10 by decide); have n11 := lv_neT c_12 (show (11 : Int32).toInt = 11 by decide); have n12 := lv_neT c_13 (show (12 : Int32).toInt = 12 by decide); have n13 := lv_neT c_14 (show (13 : Int32).toInt = 13 by decide); have n14 := lv_neT c_15 (show (14 : Int32).toInt = 14 by decide); have n15 := lv_neT c_16 (show (15 : Int32).toInt = 15 by decide); have n16 := lv_neT c_17 (show (16 : Int32).toInt = 16 by decide); have n17 := lv_neT c_18 (show (17 : Int32).toInt = 17 by decide); have n18 := lv_neT c_19 (show (18 : Int32).toInt = 18 by decide); have n19 := lv_neT c_20 (show (19 : Int32).toInt = 19 by decide); have n20 := lv_neT c_21 (show (20 : Int32).toInt = 20 by decide); have n21 := lv_neT c_22 (show (21 : Int32).toInt = 21 by decide); have n22 := lv_neT c_23 (show (22 : Int32).toInt = 22 by decide); have n23 := lv_neT c_24 (show (23 : Int32).toInt = 23 by decide); have n24 := lv_neT c_25 (show (24 : Int32).toInt = 24 by decide); have n25 := lv_neT c_26 (show (25 : Int32).toInt = 25 by decide); have n26 := lv_neT c_27 (show (26 : Int32).toInt = 26 by decide); have n27 := lv_neT c_28 (show (27 : Int32).toInt = 27 by decide); have n28 := lv_neT c_29 (show (28 : Int32).toInt = 28 by decide); have n29 := lv_neT c_30 (show (29 : Int32).toInt = 29 by decide); have n30 := lv_neT c_31 (show (30 : Int32).toInt = 30 by decide); omega) (by decide) ?_
  exact law_end l (Nat.le_refl 7) C0 (Nat.le_of_ble_eq_true rfl) (Nat.le_of_ble_eq_true rfl) hS (lv_sub hl [0, 3] rfl)
set_option maxHeartbeats 4000000 in
set_option maxRecDepth 100000 in
theorem whole_start {p : Program} {e : Env} {s : State} {m : MethodId} {below : List Frame} {meth : Method} {c : Code} (l : Launch) {b L : Nat} {xs : Nat → Int32} (hL : L ≤ 7) (C0 : lw_At p s m meth c b L xs) : W p l e room_1 s m #[Value.ref b] below meth c s.heap [] 0 0 (lw_Z below #[Value.ref b] s) (entryFrame m ([Value.ref b] : List Value).toArray 4) := by
  have C1 := C0
  obtain ⟨hx, hb, hr, hml, hown, hts0, hX, hbl, hlocks, hgv⟩ := C1
  have hA : ∀ q : Nat, s.heap.size ≤ q → (fun q : Nat => s.heap.size ≤ q) q := fun _ h => h
  have hbA : ¬ (fun q : Nat => s.heap.size ≤ q) b := Nat.not_le.mpr hbl
  have hE : ext s := ext_of hts0
  have hts : ∀ w ∈ gT, w.before #[Value.ref b] s = true := fun w h => hts0 w (gT_mem.mp h).1
  obtain ⟨c0, i0, hKn0⟩ := u_known (C := RX0) (T := TX0) (N := 16) (n := 16) hts inX0 (hts _ mw_276)
  obtain ⟨c1, i1, hKn1⟩ := u_known (C := RX1) (T := TX1) (N := 6) (n := 6) hts inX1 (hts _ mw_682)
  obtain ⟨c2, i2, hKn2⟩ := u_known (C := RX2) (T := TX2) (N := 6) (n := 6) hts inX2 (hts _ mw_149)
  obtain ⟨c3, i3, hKn3⟩ := u_known (C := RX3) (T := TX3) (N := 13) (n := 13) hts inX3 (hts _ mw_99)
  obtain ⟨c4, i4, hKn4⟩ := u_known (C := RX4) (T := TX4) (N := 2) (n := 2) hts inX4 (hts _ mw_255)
  obtain ⟨c5, i5, hKn5⟩ := u_known (C := RX5) (T := TX5) (N := 5) (n := 5) hts inX5 (hts _ mw_179)
  obtain ⟨c6, i6, hKn6⟩ := u_known (C := RX6) (T := TX6) (N := 9) (n := 9) hts inX6 (hts _ mw_545)
  obtain ⟨c7, i7, hKn7⟩ := u_known (C := RX7) (T := TX7) (N := 4) (n := 4) hts inX7 (hts _ mw_282)
  obtain ⟨c8, i8, hKn8⟩ := u_known (C := RX8) (T := TX8) (N := 7) (n := 7) hts inX8 (hts _ mw_35)
  obtain ⟨c9, i9, hKn9⟩ := u_known (C := RX9) (T := TX9) (N := 6) (n := 6) hts inX9 (hts _ mw_74)
  obtain ⟨c10, i10, hKn10⟩ := u_known (C := RX10) (T := TX10) (N := 15) (n := 15) hts inX10 (hts _ mw_19)
  obtain ⟨c11, i11, hKn11⟩ := u_known (C := RX11) (T := TX11) (N := 56) (n := 56) hts inX11 (hts _ mw_874)
  obtain ⟨dC, dI, hKc⟩ : ∃ (dC : Nat → ClassId) (dI : Nat → Nat → Nat), ∀ (k : Nat) (q : vw_C), vwCl[k]? = some q → u_Kn s q.1 q.2.1 q.2.2 (dC k) (dI k) := by
    refine ⟨fun k => ([c0, c1, c2, c3, c4, c5, c6, c7, c8, c9, c10, c11] : List ClassId).getD k c0, fun k => ([i0, i1, i2, i3, i4, i5, i6, i7, i8, i9, i10, i11] : List (Nat → Nat)).getD k i0, ?_⟩
    intro k q hq
    match k, hq with
    | 0, hq => cases hq; exact hKn0
    | 1, hq => cases hq; exact hKn1
    | 2, hq => cases hq; exact hKn2
    | 3, hq => cases hq; exact hKn3
    | 4, hq => cases hq; exact hKn4
    | 5, hq => cases hq; exact hKn5
    | 6, hq => cases hq; exact hKn6
    | 7, hq => cases hq; exact hKn7
    | 8, hq => cases hq; exact hKn8
    | 9, hq => cases hq; exact hKn9
    | 10, hq => cases hq; exact hKn10
    | 11, hq => cases hq; exact hKn11
    | k + 12, hq => simp [vwCl] at hq
  have hS : va_S (fun q : Nat => s.heap.size ≤ q) s.heap s.heap [] := va_S.rf
  have hK : va_K (dC, dI) vwCl [] s := ⟨hKc, fun k q h => by simp at h⟩
  have hP : va_P (dC, dI) vwCl [] s.heap := fun k q h => by simp at h
  have hD : va_D (fun q : Nat => s.heap.size ≤ q) [] := ⟨fun i j p q h => by simp at h, fun k q h => by simp at h⟩
  have hl := lv_entry ([.ref b]) (n := 4) (Nat.le_of_ble_eq_true rfl)
  rw [lg_entry_eq]
  generalize (lg_sl ([.ref b]) ++ List.replicate (4 - (lg_sl ([.ref b])).length) Slot.unset).toArray = ls at hl ⊢
  have hl : lv_has ls 4 [(0, .ref b)] := hl
  refine va_new (ci := 10) (fs := [.null, .int 0, .null, .int 0, .null, .int 0, .null, .int 0, .null, .null, .null, .null, .null, .null, .null]) (C := RX10) (T := TX10) (N := 15) hx hb hts inX10 tyX10 tyX10_ok hown (hts _ mw_18) (hts _ mw_19) (hts _ mw_1) hK hP hD hS hA rfl dfX10 (Nat.le_of_ble_eq_true rfl) (Nat.le_of_ble_eq_true rfl) dL_law_0 (fun q1 H hP hD hS => ?_)
  refine W.widen (k := 1) (n := 15) (Nat.le_of_ble_eq_true rfl) (Nat.le_of_ble_eq_true rfl) ?_
  have hP : va_P (dC, dI) vwCl [(q1, .inr (10, [.null, .int 0, .null, .int 0, .null, .int 0, .null, .int 0, .null, .null, .null, .null, .null, .null, .null]))] H := hP
  have hD : va_D (fun q : Nat => s.heap.size ≤ q) [(q1, .inr (10, [.null, .int 0, .null, .int 0, .null, .int 0, .null, .int 0, .null, .null, .null, .null, .null, .null, .null]))] := hD
  refine lv_dup hx hb dL_law_3 rfl ?_
  have hPc := hP.sub (ws' := [(q1, .inr (10, [.null, .int 0, .null, .int 0, .null, .int 0, .null, .int 0, .null, .null, .null, .null, .null, .null, .null]))]) [0] rfl
  have hKc := hK.sub (tys' := []) [] rfl
  have hDc := hD.sub (ws' := [(q1, .inr (10, [.null, .int 0, .null, .int 0, .null, .int 0, .null, .int 0, .null, .null, .null, .null, .null, .null, .null]))]) [0] (by decide) rfl
  have hFc := va_free (wc := [(q1, .inr (10, [.null, .int 0, .null, .int 0, .null, .int 0, .null, .int 0, .null, .null, .null, .null, .null, .null, .null]))]) hD hS hA [0] rfl
  refine va_callv (va_runI (As := []) (rest := [.ref q1]) ⟨hx, hb, hml, hown, hts⟩ (c_X10_init l dC dI H.size q1) (⟨callB_of 0 hts (gd mw_22) rfl rfl rfl (hts _ mw_1) (hts _ mw_20) ds_X10_init ⟨Nat.le_of_ble_eq_true rfl, Nat.le_of_ble_eq_true rfl⟩, rfl, (hts _ mw_21)⟩) (pr_S hPc hKc hDc hE) rfl rfl hl.1 rfl (lv_room (Nat.le_of_ble_eq_true rfl)) dL_law_4 ⟨Nat.le_of_ble_eq_true rfl, Nat.le_of_ble_eq_true rfl⟩) hS (fun q _ h => hFc q h) hFc (fun u_ t_ H1 locs ht hvm hw_ hB hz1 hk1 hS => ?_)
  obtain ⟨a_2, cy_2, hP1, hK1, hD1⟩ := hB
  rw [ht] at hP1
  have hK1 := va_K.moved hvm.symm hK1
  obtain ⟨hP, hD⟩ := va_join (wr := []) (w1 := [(q1, .inr (10, (kO a_2))), ((a_2 0), .inl ((cy_2 0), 40, .inr (.inr (.inr (.inr (fun _ => none)))))), ((a_2 2), .inl ((cy_2 2), 40, .inr (.inr (.inr (.inr (fun _ => none)))))), ((a_2 4), .inl ((cy_2 4), 600, .inr (.inr (.inr (.inr (fun _ => none)))))), ((a_2 6), .inl ((cy_2 6), 200, .inr (.inr (.inr (.inr (fun _ => none)))))), ((a_2 8), .inl ((cy_2 8), 144, .inl (fun _ => (-1)))), ((a_2 9), .inl ((cy_2 9), 144, .inl (fun _ => 0))), ((a_2 10), .inr (8, (rO a_2))), ((a_2 20), .inl ((cy_2 20), 16, .inl (fun _ => 0))), ((a_2 21), .inl ((cy_2 21), 16, .inl (fun _ => 0))), ((a_2 25), .inl ((cy_2 25), 6, .inl (fun _ => 0))), ((a_2 26), .inl ((cy_2 26), 6, .inl (fun _ => 900))), ((a_2 11), .inr (9, [.int 450, .int 270, .int 310, .int 320, .int 290, .int 2])), ((a_2 12), .inr (3, (keO a_2))), ((a_2 30), .inl ((cy_2 30), 36, .inl (fun _ => 0))), ((a_2 31), .inl ((cy_2 31), 10, .inl (fun _ => 0))), ((a_2 32), .inl ((cy_2 32), 10, .inl (fun _ => 0))), ((a_2 34), .inl ((cy_2 34), 10, .inl (fun _ => 0))), ((a_2 38), .inl ((cy_2 38), 10, .inl (fun _ => 0))), ((a_2 39), .inl ((cy_2 39), 6, .inl (fun _ => 0))), ((a_2 40), .inl ((cy_2 40), 6, .inl (fun _ => 0))), ((a_2 41), .inl ((cy_2 41), 6, .inl (fun _ => 0))), ((a_2 13), .inr (2, (chO a_2))), ((a_2 50), .inl ((cy_2 50), 40, .inl (fun _ => 0))), ((a_2 51), .inl ((cy_2 51), 40, .inl (fun _ => 0))), ((a_2 52), .inl ((cy_2 52), 40, .inl (fun _ => 0))), ((a_2 14), .inr (5, (paO a_2))), ((a_2 60), .inl ((cy_2 60), 14, .inl (fun _ => 0)))]) hP hD [0] [] rfl rfl (by decide) (by decide) hk1 hFc hP1 hD1
  have hK := hK.app hK1
  generalize H1 = H at hP hS ⊢
  have hP : va_P (dC, dI) vwCl [(q1, .inr (10, (kO a_2))), ((a_2 0), .inl ((cy_2 0), 40, .inr (.inr (.inr (.inr (fun _ => none)))))), ((a_2 2), .inl ((cy_2 2), 40, .inr (.inr (.inr (.inr (fun _ => none)))))), ((a_2 4), .inl ((cy_2 4), 600, .inr (.inr (.inr (.inr (fun _ => none)))))), ((a_2 6), .inl ((cy_2 6), 200, .inr (.inr (.inr (.inr (fun _ => none)))))), ((a_2 8), .inl ((cy_2 8), 144, .inl (fun _ => (-1)))), ((a_2 9), .inl ((cy_2 9), 144, .inl (fun _ => 0))), ((a_2 10), .inr (8, (rO a_2))), ((a_2 20), .inl ((cy_2 20), 16, .inl (fun _ => 0))), ((a_2 21), .inl ((cy_2 21), 16, .inl (fun _ => 0))), ((a_2 25), .inl ((cy_2 25), 6, .inl (fun _ => 0))), ((a_2 26), .inl ((cy_2 26), 6, .inl (fun _ => 900))), ((a_2 11), .inr (9, [.int 450, .int 270, .int 310, .int 320, .int 290, .int 2])), ((a_2 12), .inr (3, (keO a_2))), ((a_2 30), .inl ((cy_2 30), 36, .inl (fun _ => 0))), ((a_2 31), .inl ((cy_2 31), 10, .inl (fun _ => 0))), ((a_2 32), .inl ((cy_2 32), 10, .inl (fun _ => 0))), ((a_2 34), .inl ((cy_2 34), 10, .inl (fun _ => 0))), ((a_2 38), .inl ((cy_2 38), 10, .inl (fun _ => 0))), ((a_2 39), .inl ((cy_2 39), 6, .inl (fun _ => 0))), ((a_2 40), .inl ((cy_2 40), 6, .inl (fun _ => 0))), ((a_2 41), .inl ((cy_2 41), 6, .inl (fun _ => 0))), ((a_2 13), .inr (2, (chO a_2))), ((a_2 50), .inl ((cy_2 50), 40, .inl (fun _ => 0))), ((a_2 51), .inl ((cy_2 51), 40, .inl (fun _ => 0))), ((a_2 52), .inl ((cy_2 52), 40, .inl (fun _ => 0))), ((a_2 14), .inr (5, (paO a_2))), ((a_2 60), .inl ((cy_2 60), 14, .inl (fun _ => 0)))] H := hP
  have hD : va_D (fun q : Nat => s.heap.size ≤ q) [(q1, .inr (10, (kO a_2))), ((a_2 0), .inl ((cy_2 0), 40, .inr (.inr (.inr (.inr (fun _ => none)))))), ((a_2 2), .inl ((cy_2 2), 40, .inr (.inr (.inr (.inr (fun _ => none)))))), ((a_2 4), .inl ((cy_2 4), 600, .inr (.inr (.inr (.inr (fun _ => none)))))), ((a_2 6), .inl ((cy_2 6), 200, .inr (.inr (.inr (.inr (fun _ => none)))))), ((a_2 8), .inl ((cy_2 8), 144, .inl (fun _ => (-1)))), ((a_2 9), .inl ((cy_2 9), 144, .inl (fun _ => 0))), ((a_2 10), .inr (8, (rO a_2))), ((a_2 20), .inl ((cy_2 20), 16, .inl (fun _ => 0))), ((a_2 21), .inl ((cy_2 21), 16, .inl (fun _ => 0))), ((a_2 25), .inl ((cy_2 25), 6, .inl (fun _ => 0))), ((a_2 26), .inl ((cy_2 26), 6, .inl (fun _ => 900))), ((a_2 11), .inr (9, [.int 450, .int 270, .int 310, .int 320, .int 290, .int 2])), ((a_2 12), .inr (3, (keO a_2))), ((a_2 30), .inl ((cy_2 30), 36, .inl (fun _ => 0))), ((a_2 31), .inl ((cy_2 31), 10, .inl (fun _ => 0))), ((a_2 32), .inl ((cy_2 32), 10, .inl (fun _ => 0))), ((a_2 34), .inl ((cy_2 34), 10, .inl (fun _ => 0))), ((a_2 38), .inl ((cy_2 38), 10, .inl (fun _ => 0))), ((a_2 39), .inl ((cy_2 39), 6, .inl (fun _ => 0))), ((a_2 40), .inl ((cy_2 40), 6, .inl (fun _ => 0))), ((a_2 41), .inl ((cy_2 41), 6, .inl (fun _ => 0))), ((a_2 13), .inr (2, (chO a_2))), ((a_2 50), .inl ((cy_2 50), 40, .inl (fun _ => 0))), ((a_2 51), .inl ((cy_2 51), 40, .inl (fun _ => 0))), ((a_2 52), .inl ((cy_2 52), 40, .inl (fun _ => 0))), ((a_2 14), .inr (5, (paO a_2))), ((a_2 60), .inl ((cy_2 60), 14, .inl (fun _ => 0)))] := hD
  have hK : va_K (dC, dI) vwCl [((cy_2 0), .object "SugarKitchen$Lot"), ((cy_2 2), .object "SugarKitchen$Batch"), ((cy_2 4), .object "SugarKitchen$Piece"), ((cy_2 6), .object "SugarKitchen$Box"), ((cy_2 8), .int), ((cy_2 9), .int), ((cy_2 20), .int), ((cy_2 21), .int), ((cy_2 25), .int), ((cy_2 26), .int), ((cy_2 30), .int), ((cy_2 31), .int), ((cy_2 32), .int), ((cy_2 34), .int), ((cy_2 38), .boolean), ((cy_2 39), .int), ((cy_2 40), .int), ((cy_2 41), .int), ((cy_2 50), .int), ((cy_2 51), .int), ((cy_2 52), .boolean), ((cy_2 60), .int)] s := hK
  refine W.widen (k := 28) (n := 1492) (Nat.le_of_ble_eq_true rfl) (Nat.le_of_ble_eq_true rfl) ?_
  refine lv_astore_n (lv' := [(1, .ref q1), (0, .ref b)]) hx hb dL_law_7 rfl hl (by decide) rfl (fun ls hl => ?_)
  refine va_new (ci := 11) (fs := [.int 0, .int 0, .int 0, .int 0, .int 0, .int 0, .null, .null, .null, .null, .null, .null, .null, .null, .null, .null, .null, .null, .null, .null, .null, .null, .null, .null, .null, .null, .null, .null, .null, .int 0, .int 0, .null, .null, .null, .null, .null, .null, .null, .null, .null, .null, .null, .null, .null, .null, .null, .null, .null, .int 0, .int 0, .null, .null, .int 0, .null, .null, .null]) (C := RX11) (T := TX11) (N := 56) hx hb hts inX11 tyX11 tyX11_ok hown (hts _ mw_873) (hts _ mw_874) (hts _ mw_8) hK hP hD hS hA rfl dfX11 (Nat.le_of_ble_eq_true rfl) (Nat.le_of_ble_eq_true rfl) dL_law_8 (fun q3 H hP hD hS => ?_)
  refine W.widen (k := 29) (n := 1548) (Nat.le_of_ble_eq_true rfl) (Nat.le_of_ble_eq_true rfl) ?_
  have hP : va_P (dC, dI) vwCl [(q1, .inr (10, (kO a_2))), ((a_2 0), .inl ((cy_2 0), 40, .inr (.inr (.inr (.inr (fun _ => none)))))), ((a_2 2), .inl ((cy_2 2), 40, .inr (.inr (.inr (.inr (fun _ => none)))))), ((a_2 4), .inl ((cy_2 4), 600, .inr (.inr (.inr (.inr (fun _ => none)))))), ((a_2 6), .inl ((cy_2 6), 200, .inr (.inr (.inr (.inr (fun _ => none)))))), ((a_2 8), .inl ((cy_2 8), 144, .inl (fun _ => (-1)))), ((a_2 9), .inl ((cy_2 9), 144, .inl (fun _ => 0))), ((a_2 10), .inr (8, (rO a_2))), ((a_2 20), .inl ((cy_2 20), 16, .inl (fun _ => 0))), ((a_2 21), .inl ((cy_2 21), 16, .inl (fun _ => 0))), ((a_2 25), .inl ((cy_2 25), 6, .inl (fun _ => 0))), ((a_2 26), .inl ((cy_2 26), 6, .inl (fun _ => 900))), ((a_2 11), .inr (9, [.int 450, .int 270, .int 310, .int 320, .int 290, .int 2])), ((a_2 12), .inr (3, (keO a_2))), ((a_2 30), .inl ((cy_2 30), 36, .inl (fun _ => 0))), ((a_2 31), .inl ((cy_2 31), 10, .inl (fun _ => 0))), ((a_2 32), .inl ((cy_2 32), 10, .inl (fun _ => 0))), ((a_2 34), .inl ((cy_2 34), 10, .inl (fun _ => 0))), ((a_2 38), .inl ((cy_2 38), 10, .inl (fun _ => 0))), ((a_2 39), .inl ((cy_2 39), 6, .inl (fun _ => 0))), ((a_2 40), .inl ((cy_2 40), 6, .inl (fun _ => 0))), ((a_2 41), .inl ((cy_2 41), 6, .inl (fun _ => 0))), ((a_2 13), .inr (2, (chO a_2))), ((a_2 50), .inl ((cy_2 50), 40, .inl (fun _ => 0))), ((a_2 51), .inl ((cy_2 51), 40, .inl (fun _ => 0))), ((a_2 52), .inl ((cy_2 52), 40, .inl (fun _ => 0))), ((a_2 14), .inr (5, (paO a_2))), ((a_2 60), .inl ((cy_2 60), 14, .inl (fun _ => 0))), (q3, .inr (11, [.int 0, .int 0, .int 0, .int 0, .int 0, .int 0, .null, .null, .null, .null, .null, .null, .null, .null, .null, .null, .null, .null, .null, .null, .null, .null, .null, .null, .null, .null, .null, .null, .null, .int 0, .int 0, .null, .null, .null, .null, .null, .null, .null, .null, .null, .null, .null, .null, .null, .null, .null, .null, .null, .int 0, .int 0, .null, .null, .int 0, .null, .null, .null]))] H := hP
  have hD : va_D (fun q : Nat => s.heap.size ≤ q) [(q1, .inr (10, (kO a_2))), ((a_2 0), .inl ((cy_2 0), 40, .inr (.inr (.inr (.inr (fun _ => none)))))), ((a_2 2), .inl ((cy_2 2), 40, .inr (.inr (.inr (.inr (fun _ => none)))))), ((a_2 4), .inl ((cy_2 4), 600, .inr (.inr (.inr (.inr (fun _ => none)))))), ((a_2 6), .inl ((cy_2 6), 200, .inr (.inr (.inr (.inr (fun _ => none)))))), ((a_2 8), .inl ((cy_2 8), 144, .inl (fun _ => (-1)))), ((a_2 9), .inl ((cy_2 9), 144, .inl (fun _ => 0))), ((a_2 10), .inr (8, (rO a_2))), ((a_2 20), .inl ((cy_2 20), 16, .inl (fun _ => 0))), ((a_2 21), .inl ((cy_2 21), 16, .inl (fun _ => 0))), ((a_2 25), .inl ((cy_2 25), 6, .inl (fun _ => 0))), ((a_2 26), .inl ((cy_2 26), 6, .inl (fun _ => 900))), ((a_2 11), .inr (9, [.int 450, .int 270, .int 310, .int 320, .int 290, .int 2])), ((a_2 12), .inr (3, (keO a_2))), ((a_2 30), .inl ((cy_2 30), 36, .inl (fun _ => 0))), ((a_2 31), .inl ((cy_2 31), 10, .inl (fun _ => 0))), ((a_2 32), .inl ((cy_2 32), 10, .inl (fun _ => 0))), ((a_2 34), .inl ((cy_2 34), 10, .inl (fun _ => 0))), ((a_2 38), .inl ((cy_2 38), 10, .inl (fun _ => 0))), ((a_2 39), .inl ((cy_2 39), 6, .inl (fun _ => 0))), ((a_2 40), .inl ((cy_2 40), 6, .inl (fun _ => 0))), ((a_2 41), .inl ((cy_2 41), 6, .inl (fun _ => 0))), ((a_2 13), .inr (2, (chO a_2))), ((a_2 50), .inl ((cy_2 50), 40, .inl (fun _ => 0))), ((a_2 51), .inl ((cy_2 51), 40, .inl (fun _ => 0))), ((a_2 52), .inl ((cy_2 52), 40, .inl (fun _ => 0))), ((a_2 14), .inr (5, (paO a_2))), ((a_2 60), .inl ((cy_2 60), 14, .inl (fun _ => 0))), (q3, .inr (11, [.int 0, .int 0, .int 0, .int 0, .int 0, .int 0, .null, .null, .null, .null, .null, .null, .null, .null, .null, .null, .null, .null, .null, .null, .null, .null, .null, .null, .null, .null, .null, .null, .null, .int 0, .int 0, .null, .null, .null, .null, .null, .null, .null, .null, .null, .null, .null, .null, .null, .null, .null, .null, .null, .int 0, .int 0, .null, .null, .int 0, .null, .null, .null]))] := hD
  refine lv_dup hx hb dL_law_11 rfl ?_
  have hPc := hP.sub (ws' := [(q3, .inr (11, [.int 0, .int 0, .int 0, .int 0, .int 0, .int 0, .null, .null, .null, .null, .null, .null, .null, .null, .null, .null, .null, .null, .null, .null, .null, .null, .null, .null, .null, .null, .null, .null, .null, .int 0, .int 0, .null, .null, .null, .null, .null, .null, .null, .null, .null, .null, .null, .null, .null, .null, .null, .null, .null, .int 0, .int 0, .null, .null, .int 0, .null, .null, .null]))]) [28] rfl
  have hKc := hK.sub (tys' := []) [] rfl
  have hDc := hD.sub (ws' := [(q3, .inr (11, [.int 0, .int 0, .int 0, .int 0, .int 0, .int 0, .null, .null, .null, .null, .null, .null, .null, .null, .null, .null, .null, .null, .null, .null, .null, .null, .null, .null, .null, .null, .null, .null, .null, .int 0, .int 0, .null, .null, .null, .null, .null, .null, .null, .null, .null, .null, .null, .null, .null, .null, .null, .null, .null, .int 0, .int 0, .null, .null, .int 0, .null, .null, .null]))]) [28] (by decide) rfl
  have hFc := va_free (wc := [(q3, .inr (11, [.int 0, .int 0, .int 0, .int 0, .int 0, .int 0, .null, .null, .null, .null, .null, .null, .null, .null, .null, .null, .null, .null, .null, .null, .null, .null, .null, .null, .null, .null, .null, .null, .null, .int 0, .int 0, .null, .null, .null, .null, .null, .null, .null, .null, .null, .null, .null, .null, .null, .null, .null, .null, .null, .int 0, .int 0, .null, .null, .int 0, .null, .null, .null]))]) hD hS hA [28] rfl
  refine va_callv (va_runI (As := []) (rest := [.ref q3]) ⟨hx, hb, hml, hown, hts⟩ (c_X11_init l dC dI H.size q3) (⟨callB_of 0 hts (gd mw_877) rfl rfl rfl (hts _ mw_8) (hts _ mw_875) ds_X11_init ⟨Nat.le_of_ble_eq_true rfl, Nat.le_of_ble_eq_true rfl⟩, rfl, (hts _ mw_876)⟩) (pr_S hPc hKc hDc hE) rfl rfl hl.1 rfl (lv_room (Nat.le_of_ble_eq_true rfl)) dL_law_12 ⟨Nat.le_of_ble_eq_true rfl, Nat.le_of_ble_eq_true rfl⟩) hS (fun q _ h => hFc q h) hFc (fun u_ t_ H1 locs ht hvm hw_ hB hz1 hk1 hS => ?_)
  obtain ⟨a_4, cy_4, hP1, hK1, hD1⟩ := hB
  rw [ht] at hP1
  have hK1 := va_K.moved hvm.symm hK1
  obtain ⟨hP, hD⟩ := va_join (wr := [(q1, .inr (10, (kO a_2))), ((a_2 0), .inl ((cy_2 0), 40, .inr (.inr (.inr (.inr (fun _ => none)))))), ((a_2 2), .inl ((cy_2 2), 40, .inr (.inr (.inr (.inr (fun _ => none)))))), ((a_2 4), .inl ((cy_2 4), 600, .inr (.inr (.inr (.inr (fun _ => none)))))), ((a_2 6), .inl ((cy_2 6), 200, .inr (.inr (.inr (.inr (fun _ => none)))))), ((a_2 8), .inl ((cy_2 8), 144, .inl (fun _ => (-1)))), ((a_2 9), .inl ((cy_2 9), 144, .inl (fun _ => 0))), ((a_2 10), .inr (8, (rO a_2))), ((a_2 20), .inl ((cy_2 20), 16, .inl (fun _ => 0))), ((a_2 21), .inl ((cy_2 21), 16, .inl (fun _ => 0))), ((a_2 25), .inl ((cy_2 25), 6, .inl (fun _ => 0))), ((a_2 26), .inl ((cy_2 26), 6, .inl (fun _ => 900))), ((a_2 11), .inr (9, [.int 450, .int 270, .int 310, .int 320, .int 290, .int 2])), ((a_2 12), .inr (3, (keO a_2))), ((a_2 30), .inl ((cy_2 30), 36, .inl (fun _ => 0))), ((a_2 31), .inl ((cy_2 31), 10, .inl (fun _ => 0))), ((a_2 32), .inl ((cy_2 32), 10, .inl (fun _ => 0))), ((a_2 34), .inl ((cy_2 34), 10, .inl (fun _ => 0))), ((a_2 38), .inl ((cy_2 38), 10, .inl (fun _ => 0))), ((a_2 39), .inl ((cy_2 39), 6, .inl (fun _ => 0))), ((a_2 40), .inl ((cy_2 40), 6, .inl (fun _ => 0))), ((a_2 41), .inl ((cy_2 41), 6, .inl (fun _ => 0))), ((a_2 13), .inr (2, (chO a_2))), ((a_2 50), .inl ((cy_2 50), 40, .inl (fun _ => 0))), ((a_2 51), .inl ((cy_2 51), 40, .inl (fun _ => 0))), ((a_2 52), .inl ((cy_2 52), 40, .inl (fun _ => 0))), ((a_2 14), .inr (5, (paO a_2))), ((a_2 60), .inl ((cy_2 60), 14, .inl (fun _ => 0)))]) (w1 := [(q3, .inr (11, (mO a_4))), ((a_4 6), .inl ((cy_4 6), 40, .inl (fun _ => 0))), ((a_4 7), .inl ((cy_4 7), 40, .inl (fun _ => 0))), ((a_4 8), .inl ((cy_4 8), 40, .inl (fun _ => 0))), ((a_4 9), .inl ((cy_4 9), 40, .inl (fun _ => 0))), ((a_4 10), .inl ((cy_4 10), 40, .inl (fun _ => 0))), ((a_4 11), .inl ((cy_4 11), 40, .inl (fun _ => 0))), ((a_4 12), .inl ((cy_4 12), 40, .inl (fun _ => 0))), ((a_4 13), .inl ((cy_4 13), 40, .inl (fun _ => 0))), ((a_4 14), .inl ((cy_4 14), 40, .inl (fun _ => 0))), ((a_4 15), .inl ((cy_4 15), 40, .inl (fun _ => 0))), ((a_4 16), .inl ((cy_4 16), 40, .inl (fun _ => 0))), ((a_4 17), .inl ((cy_4 17), 40, .inl (fun _ => 0))), ((a_4 18), .inl ((cy_4 18), 40, .inl (fun _ => 0))), ((a_4 19), .inl ((cy_4 19), 40, .inl (fun _ => 0))), ((a_4 20), .inl ((cy_4 20), 40, .inl (fun _ => 0))), ((a_4 21), .inl ((cy_4 21), 40, .inl (fun _ => 0))), ((a_4 22), .inl ((cy_4 22), 1600, .inl (fun _ => 0))), ((a_4 23), .inl ((cy_4 23), 40, .inl (fun _ => 0))), ((a_4 24), .inl ((cy_4 24), 40, .inl (fun _ => 0))), ((a_4 25), .inl ((cy_4 25), 2400, .inr (.inr (.inl (fun _ => 0))))), ((a_4 26), .inl ((cy_4 26), 2400, .inl (fun _ => 0))), ((a_4 27), .inl ((cy_4 27), 16, .inl (fun _ => 0))), ((a_4 28), .inl ((cy_4 28), 16, .inl (fun _ => 0))), ((a_4 31), .inl ((cy_4 31), 6, .inl (fun _ => 0))), ((a_4 32), .inl ((cy_4 32), 6, .inl (fun _ => 900))), ((a_4 33), .inl ((cy_4 33), 6, .inl (upd (upd (upd (upd (upd (upd (fun _ => 0) (0 : Int32).toNatClampNeg 450) (1 : Int32).toNatClampNeg 270) (2 : Int32).toNatClampNeg 310) (3 : Int32).toNatClampNeg 320) (4 : Int32).toNatClampNeg 290) (5 : Int32).toNatClampNeg 2))), ((a_4 34), .inl ((cy_4 34), 36, .inl (fun _ => 0))), ((a_4 35), .inl ((cy_4 35), 10, .inl (fun _ => 0))), ((a_4 36), .inl ((cy_4 36), 600, .inl (fun _ => 0))), ((a_4 37), .inl ((cy_4 37), 600, .inl (fun _ => 0))), ((a_4 38), .inl ((cy_4 38), 600, .inl (fun _ => 0))), ((a_4 39), .inl ((cy_4 39), 600, .inl (fun _ => 0))), ((a_4 40), .inl ((cy_4 40), 600, .inl (fun _ => 0))), ((a_4 41), .inl ((cy_4 41), 600, .inl (fun _ => 0))), ((a_4 42), .inl ((cy_4 42), 600, .inl (fun _ => 0))), ((a_4 43), .inl ((cy_4 43), 144, .inl (fun _ => (-1)))), ((a_4 44), .inl ((cy_4 44), 200, .inl (fun _ => 0))), ((a_4 45), .inl ((cy_4 45), 144, .inl (fun _ => 0))), ((a_4 46), .inl ((cy_4 46), 144, .inl (fun _ => 0))), ((a_4 47), .inl ((cy_4 47), 144, .inl (fun _ => 0))), ((a_4 50), .inl ((cy_4 50), 348500, .inl (fun _ => 0))), ((a_4 51), .inl ((cy_4 51), 40, .inl (fun _ => 0))), ((a_4 53), .inl ((cy_4 53), 16384, .inl (fun _ => 0))), ((a_4 54), .inl ((cy_4 54), 16384, .inl (fun _ => 0))), ((a_4 55), .inl ((cy_4 55), 10240, .inl (fun _ => 0)))]) hP hD [28] [0, 1, 2, 3, 4, 5, 6, 7, 8, 9, 10, 11, 12, 13, 14, 15, 16, 17, 18, 19, 20, 21, 22, 23, 24, 25, 26, 27] rfl rfl (by decide) (by decide) hk1 hFc hP1 hD1
  have hK := hK.app hK1
  generalize H1 = H at hP hS ⊢
  have hP : va_P (dC, dI) vwCl [(q1, .inr (10, (kO a_2))), ((a_2 0), .inl ((cy_2 0), 40, .inr (.inr (.inr (.inr (fun _ => none)))))), ((a_2 2), .inl ((cy_2 2), 40, .inr (.inr (.inr (.inr (fun _ => none)))))), ((a_2 4), .inl ((cy_2 4), 600, .inr (.inr (.inr (.inr (fun _ => none)))))), ((a_2 6), .inl ((cy_2 6), 200, .inr (.inr (.inr (.inr (fun _ => none)))))), ((a_2 8), .inl ((cy_2 8), 144, .inl (fun _ => (-1)))), ((a_2 9), .inl ((cy_2 9), 144, .inl (fun _ => 0))), ((a_2 10), .inr (8, (rO a_2))), ((a_2 20), .inl ((cy_2 20), 16, .inl (fun _ => 0))), ((a_2 21), .inl ((cy_2 21), 16, .inl (fun _ => 0))), ((a_2 25), .inl ((cy_2 25), 6, .inl (fun _ => 0))), ((a_2 26), .inl ((cy_2 26), 6, .inl (fun _ => 900))), ((a_2 11), .inr (9, [.int 450, .int 270, .int 310, .int 320, .int 290, .int 2])), ((a_2 12), .inr (3, (keO a_2))), ((a_2 30), .inl ((cy_2 30), 36, .inl (fun _ => 0))), ((a_2 31), .inl ((cy_2 31), 10, .inl (fun _ => 0))), ((a_2 32), .inl ((cy_2 32), 10, .inl (fun _ => 0))), ((a_2 34), .inl ((cy_2 34), 10, .inl (fun _ => 0))), ((a_2 38), .inl ((cy_2 38), 10, .inl (fun _ => 0))), ((a_2 39), .inl ((cy_2 39), 6, .inl (fun _ => 0))), ((a_2 40), .inl ((cy_2 40), 6, .inl (fun _ => 0))), ((a_2 41), .inl ((cy_2 41), 6, .inl (fun _ => 0))), ((a_2 13), .inr (2, (chO a_2))), ((a_2 50), .inl ((cy_2 50), 40, .inl (fun _ => 0))), ((a_2 51), .inl ((cy_2 51), 40, .inl (fun _ => 0))), ((a_2 52), .inl ((cy_2 52), 40, .inl (fun _ => 0))), ((a_2 14), .inr (5, (paO a_2))), ((a_2 60), .inl ((cy_2 60), 14, .inl (fun _ => 0))), (q3, .inr (11, (mO a_4))), ((a_4 6), .inl ((cy_4 6), 40, .inl (fun _ => 0))), ((a_4 7), .inl ((cy_4 7), 40, .inl (fun _ => 0))), ((a_4 8), .inl ((cy_4 8), 40, .inl (fun _ => 0))), ((a_4 9), .inl ((cy_4 9), 40, .inl (fun _ => 0))), ((a_4 10), .inl ((cy_4 10), 40, .inl (fun _ => 0))), ((a_4 11), .inl ((cy_4 11), 40, .inl (fun _ => 0))), ((a_4 12), .inl ((cy_4 12), 40, .inl (fun _ => 0))), ((a_4 13), .inl ((cy_4 13), 40, .inl (fun _ => 0))), ((a_4 14), .inl ((cy_4 14), 40, .inl (fun _ => 0))), ((a_4 15), .inl ((cy_4 15), 40, .inl (fun _ => 0))), ((a_4 16), .inl ((cy_4 16), 40, .inl (fun _ => 0))), ((a_4 17), .inl ((cy_4 17), 40, .inl (fun _ => 0))), ((a_4 18), .inl ((cy_4 18), 40, .inl (fun _ => 0))), ((a_4 19), .inl ((cy_4 19), 40, .inl (fun _ => 0))), ((a_4 20), .inl ((cy_4 20), 40, .inl (fun _ => 0))), ((a_4 21), .inl ((cy_4 21), 40, .inl (fun _ => 0))), ((a_4 22), .inl ((cy_4 22), 1600, .inl (fun _ => 0))), ((a_4 23), .inl ((cy_4 23), 40, .inl (fun _ => 0))), ((a_4 24), .inl ((cy_4 24), 40, .inl (fun _ => 0))), ((a_4 25), .inl ((cy_4 25), 2400, .inr (.inr (.inl (fun _ => 0))))), ((a_4 26), .inl ((cy_4 26), 2400, .inl (fun _ => 0))), ((a_4 27), .inl ((cy_4 27), 16, .inl (fun _ => 0))), ((a_4 28), .inl ((cy_4 28), 16, .inl (fun _ => 0))), ((a_4 31), .inl ((cy_4 31), 6, .inl (fun _ => 0))), ((a_4 32), .inl ((cy_4 32), 6, .inl (fun _ => 900))), ((a_4 33), .inl ((cy_4 33), 6, .inl (upd (upd (upd (upd (upd (upd (fun _ => 0) (0 : Int32).toNatClampNeg 450) (1 : Int32).toNatClampNeg 270) (2 : Int32).toNatClampNeg 310) (3 : Int32).toNatClampNeg 320) (4 : Int32).toNatClampNeg 290) (5 : Int32).toNatClampNeg 2))), ((a_4 34), .inl ((cy_4 34), 36, .inl (fun _ => 0))), ((a_4 35), .inl ((cy_4 35), 10, .inl (fun _ => 0))), ((a_4 36), .inl ((cy_4 36), 600, .inl (fun _ => 0))), ((a_4 37), .inl ((cy_4 37), 600, .inl (fun _ => 0))), ((a_4 38), .inl ((cy_4 38), 600, .inl (fun _ => 0))), ((a_4 39), .inl ((cy_4 39), 600, .inl (fun _ => 0))), ((a_4 40), .inl ((cy_4 40), 600, .inl (fun _ => 0))), ((a_4 41), .inl ((cy_4 41), 600, .inl (fun _ => 0))), ((a_4 42), .inl ((cy_4 42), 600, .inl (fun _ => 0))), ((a_4 43), .inl ((cy_4 43), 144, .inl (fun _ => (-1)))), ((a_4 44), .inl ((cy_4 44), 200, .inl (fun _ => 0))), ((a_4 45), .inl ((cy_4 45), 144, .inl (fun _ => 0))), ((a_4 46), .inl ((cy_4 46), 144, .inl (fun _ => 0))), ((a_4 47), .inl ((cy_4 47), 144, .inl (fun _ => 0))), ((a_4 50), .inl ((cy_4 50), 348500, .inl (fun _ => 0))), ((a_4 51), .inl ((cy_4 51), 40, .inl (fun _ => 0))), ((a_4 53), .inl ((cy_4 53), 16384, .inl (fun _ => 0))), ((a_4 54), .inl ((cy_4 54), 16384, .inl (fun _ => 0))), ((a_4 55), .inl ((cy_4 55), 10240, .inl (fun _ => 0)))] H := hP
  have hD : va_D (fun q : Nat => s.heap.size ≤ q) [(q1, .inr (10, (kO a_2))), ((a_2 0), .inl ((cy_2 0), 40, .inr (.inr (.inr (.inr (fun _ => none)))))), ((a_2 2), .inl ((cy_2 2), 40, .inr (.inr (.inr (.inr (fun _ => none)))))), ((a_2 4), .inl ((cy_2 4), 600, .inr (.inr (.inr (.inr (fun _ => none)))))), ((a_2 6), .inl ((cy_2 6), 200, .inr (.inr (.inr (.inr (fun _ => none)))))), ((a_2 8), .inl ((cy_2 8), 144, .inl (fun _ => (-1)))), ((a_2 9), .inl ((cy_2 9), 144, .inl (fun _ => 0))), ((a_2 10), .inr (8, (rO a_2))), ((a_2 20), .inl ((cy_2 20), 16, .inl (fun _ => 0))), ((a_2 21), .inl ((cy_2 21), 16, .inl (fun _ => 0))), ((a_2 25), .inl ((cy_2 25), 6, .inl (fun _ => 0))), ((a_2 26), .inl ((cy_2 26), 6, .inl (fun _ => 900))), ((a_2 11), .inr (9, [.int 450, .int 270, .int 310, .int 320, .int 290, .int 2])), ((a_2 12), .inr (3, (keO a_2))), ((a_2 30), .inl ((cy_2 30), 36, .inl (fun _ => 0))), ((a_2 31), .inl ((cy_2 31), 10, .inl (fun _ => 0))), ((a_2 32), .inl ((cy_2 32), 10, .inl (fun _ => 0))), ((a_2 34), .inl ((cy_2 34), 10, .inl (fun _ => 0))), ((a_2 38), .inl ((cy_2 38), 10, .inl (fun _ => 0))), ((a_2 39), .inl ((cy_2 39), 6, .inl (fun _ => 0))), ((a_2 40), .inl ((cy_2 40), 6, .inl (fun _ => 0))), ((a_2 41), .inl ((cy_2 41), 6, .inl (fun _ => 0))), ((a_2 13), .inr (2, (chO a_2))), ((a_2 50), .inl ((cy_2 50), 40, .inl (fun _ => 0))), ((a_2 51), .inl ((cy_2 51), 40, .inl (fun _ => 0))), ((a_2 52), .inl ((cy_2 52), 40, .inl (fun _ => 0))), ((a_2 14), .inr (5, (paO a_2))), ((a_2 60), .inl ((cy_2 60), 14, .inl (fun _ => 0))), (q3, .inr (11, (mO a_4))), ((a_4 6), .inl ((cy_4 6), 40, .inl (fun _ => 0))), ((a_4 7), .inl ((cy_4 7), 40, .inl (fun _ => 0))), ((a_4 8), .inl ((cy_4 8), 40, .inl (fun _ => 0))), ((a_4 9), .inl ((cy_4 9), 40, .inl (fun _ => 0))), ((a_4 10), .inl ((cy_4 10), 40, .inl (fun _ => 0))), ((a_4 11), .inl ((cy_4 11), 40, .inl (fun _ => 0))), ((a_4 12), .inl ((cy_4 12), 40, .inl (fun _ => 0))), ((a_4 13), .inl ((cy_4 13), 40, .inl (fun _ => 0))), ((a_4 14), .inl ((cy_4 14), 40, .inl (fun _ => 0))), ((a_4 15), .inl ((cy_4 15), 40, .inl (fun _ => 0))), ((a_4 16), .inl ((cy_4 16), 40, .inl (fun _ => 0))), ((a_4 17), .inl ((cy_4 17), 40, .inl (fun _ => 0))), ((a_4 18), .inl ((cy_4 18), 40, .inl (fun _ => 0))), ((a_4 19), .inl ((cy_4 19), 40, .inl (fun _ => 0))), ((a_4 20), .inl ((cy_4 20), 40, .inl (fun _ => 0))), ((a_4 21), .inl ((cy_4 21), 40, .inl (fun _ => 0))), ((a_4 22), .inl ((cy_4 22), 1600, .inl (fun _ => 0))), ((a_4 23), .inl ((cy_4 23), 40, .inl (fun _ => 0))), ((a_4 24), .inl ((cy_4 24), 40, .inl (fun _ => 0))), ((a_4 25), .inl ((cy_4 25), 2400, .inr (.inr (.inl (fun _ => 0))))), ((a_4 26), .inl ((cy_4 26), 2400, .inl (fun _ => 0))), ((a_4 27), .inl ((cy_4 27), 16, .inl (fun _ => 0))), ((a_4 28), .inl ((cy_4 28), 16, .inl (fun _ => 0))), ((a_4 31), .inl ((cy_4 31), 6, .inl (fun _ => 0))), ((a_4 32), .inl ((cy_4 32), 6, .inl (fun _ => 900))), ((a_4 33), .inl ((cy_4 33), 6, .inl (upd (upd (upd (upd (upd (upd (fun _ => 0) (0 : Int32).toNatClampNeg 450) (1 : Int32).toNatClampNeg 270) (2 : Int32).toNatClampNeg 310) (3 : Int32).toNatClampNeg 320) (4 : Int32).toNatClampNeg 290) (5 : Int32).toNatClampNeg 2))), ((a_4 34), .inl ((cy_4 34), 36, .inl (fun _ => 0))), ((a_4 35), .inl ((cy_4 35), 10, .inl (fun _ => 0))), ((a_4 36), .inl ((cy_4 36), 600, .inl (fun _ => 0))), ((a_4 37), .inl ((cy_4 37), 600, .inl (fun _ => 0))), ((a_4 38), .inl ((cy_4 38), 600, .inl (fun _ => 0))), ((a_4 39), .inl ((cy_4 39), 600, .inl (fun _ => 0))), ((a_4 40), .inl ((cy_4 40), 600, .inl (fun _ => 0))), ((a_4 41), .inl ((cy_4 41), 600, .inl (fun _ => 0))), ((a_4 42), .inl ((cy_4 42), 600, .inl (fun _ => 0))), ((a_4 43), .inl ((cy_4 43), 144, .inl (fun _ => (-1)))), ((a_4 44), .inl ((cy_4 44), 200, .inl (fun _ => 0))), ((a_4 45), .inl ((cy_4 45), 144, .inl (fun _ => 0))), ((a_4 46), .inl ((cy_4 46), 144, .inl (fun _ => 0))), ((a_4 47), .inl ((cy_4 47), 144, .inl (fun _ => 0))), ((a_4 50), .inl ((cy_4 50), 348500, .inl (fun _ => 0))), ((a_4 51), .inl ((cy_4 51), 40, .inl (fun _ => 0))), ((a_4 53), .inl ((cy_4 53), 16384, .inl (fun _ => 0))), ((a_4 54), .inl ((cy_4 54), 16384, .inl (fun _ => 0))), ((a_4 55), .inl ((cy_4 55), 10240, .inl (fun _ => 0)))] := hD
  have hK : va_K (dC, dI) vwCl [((cy_2 0), .object "SugarKitchen$Lot"), ((cy_2 2), .object "SugarKitchen$Batch"), ((cy_2 4), .object "SugarKitchen$Piece"), ((cy_2 6), .object "SugarKitchen$Box"), ((cy_2 8), .int), ((cy_2 9), .int), ((cy_2 20), .int), ((cy_2 21), .int), ((cy_2 25), .int), ((cy_2 26), .int), ((cy_2 30), .int), ((cy_2 31), .int), ((cy_2 32), .int), ((cy_2 34), .int), ((cy_2 38), .boolean), ((cy_2 39), .int), ((cy_2 40), .int), ((cy_2 41), .int), ((cy_2 50), .int), ((cy_2 51), .int), ((cy_2 52), .boolean), ((cy_2 60), .int), ((cy_4 6), .int), ((cy_4 7), .int), ((cy_4 8), .int), ((cy_4 9), .int), ((cy_4 10), .int), ((cy_4 11), .int), ((cy_4 12), .int), ((cy_4 13), .int), ((cy_4 14), .int), ((cy_4 15), .int), ((cy_4 16), .boolean), ((cy_4 17), .boolean), ((cy_4 18), .int), ((cy_4 19), .int), ((cy_4 20), .int), ((cy_4 21), .int), ((cy_4 22), .int), ((cy_4 23), .int), ((cy_4 24), .int), ((cy_4 25), .float), ((cy_4 26), .boolean), ((cy_4 27), .int), ((cy_4 28), .int), ((cy_4 31), .int), ((cy_4 32), .int), ((cy_4 33), .int), ((cy_4 34), .int), ((cy_4 35), .int), ((cy_4 36), .int), ((cy_4 37), .int), ((cy_4 38), .int), ((cy_4 39), .int), ((cy_4 40), .boolean), ((cy_4 41), .int), ((cy_4 42), .int), ((cy_4 43), .int), ((cy_4 44), .int), ((cy_4 45), .int), ((cy_4 46), .boolean), ((cy_4 47), .boolean), ((cy_4 50), .boolean), ((cy_4 51), .int), ((cy_4 53), .int), ((cy_4 54), .byte), ((cy_4 55), .int)] s := hK
  refine W.widen (k := 74) (n := 405288) (Nat.le_of_ble_eq_true rfl) (Nat.le_of_ble_eq_true rfl) ?_
  refine lv_astore_n (lv' := [(2, .ref q3), (1, .ref q1), (0, .ref b)]) hx hb dL_law_15 rfl hl (by decide) rfl (fun ls hl => ?_)
  refine lv_iconst (v := 0) hx hb dL_law_16 (by decide) ?_
  refine lv_istore_n (lv' := [(3, .int 0), (2, .ref q3), (1, .ref q1), (0, .ref b)]) hx hb dL_law_17 rfl hl (by decide) rfl (fun ls hl => ?_)
  rcases Nat.lt_or_ge L 7 with h7 | h7
  · exact law_exit l hL C0 (Nat.le_of_ble_eq_true rfl) (Nat.le_of_ble_eq_true rfl) 0 (Or.inl ⟨rfl, h7⟩) hS (lv_sub hl [0, 3] rfl)
  · obtain rfl : L = 7 := Nat.le_antisymm hL h7
    have hP9 := hP.sub (ws' := lW q1 a_2 cy_2 q3 a_4 cy_4) [0, 1, 2, 3, 4, 5, 6, 7, 8, 9, 10, 11, 12, 13, 14, 15, 16, 17, 18, 19, 20, 21, 22, 23, 24, 25, 26, 27, 28, 29, 30, 31, 32, 33, 34, 35, 36, 37, 38, 39, 40, 41, 42, 43, 44, 45, 46, 47, 48, 49, 50, 51, 52, 53, 54, 55, 56, 57, 58, 59, 60, 61, 62, 63, 64, 65, 66, 67, 68, 69, 70, 71, 72, 73] rfl
    have hD9 := hD.sub (ws' := lW q1 a_2 cy_2 q3 a_4 cy_4) [0, 1, 2, 3, 4, 5, 6, 7, 8, 9, 10, 11, 12, 13, 14, 15, 16, 17, 18, 19, 20, 21, 22, 23, 24, 25, 26, 27, 28, 29, 30, 31, 32, 33, 34, 35, 36, 37, 38, 39, 40, 41, 42, 43, 44, 45, 46, 47, 48, 49, 50, 51, 52, 53, 54, 55, 56, 57, 58, 59, 60, 61, 62, 63, 64, 65, 66, 67, 68, 69, 70, 71, 72, 73] (by decide) rfl
    have hK9 := hK.sub (tys' := lT cy_2 cy_4) [0, 1, 2, 3, 4, 5, 6, 7, 8, 9, 10, 11, 12, 13, 14, 15, 16, 17, 18, 19, 20, 21, 22, 23, 24, 25, 26, 27, 28, 29, 30, 31, 32, 33, 34, 35, 36, 37, 38, 39, 40, 41, 42, 43, 44, 45, 46, 47, 48, 49, 50, 51, 52, 53, 54, 55, 56, 57, 58, 59, 60, 61, 62, 63, 64, 65, 66] rfl
    exact law_go l q1 a_2 cy_2 q3 a_4 cy_4 C0 hE hts hK9 hP9 hD9 hS (lv_sub hl [0, 1, 2, 3] rfl)
