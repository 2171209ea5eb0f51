theorem lw_gt {n L : Nat} (hL : L ≤ 3584) (hn : 7 * n ≤ L) (c : Int32.ofNat L - 7 < nI (7 * n)) : L < 7 * n + 7 := by
  rw [Int32.lt_iff_toInt_lt, show (Int32.ofNat L - 7 : Int32) = nI L - nI 7 from rfl, pk_sub_toInt (by omega) (by omega), nI_toInt (by omega)] at c
  omega
theorem lw_le {n L : Nat} (hL : L ≤ 3584) (hn : 7 * n ≤ L) (c : ¬ Int32.ofNat L - 7 < nI (7 * n)) : 7 * n + 7 ≤ L := by
  rw [Int32.lt_iff_toInt_lt, show (Int32.ofNat L - 7 : Int32) = nI L - nI 7 from rfl, pk_sub_toInt (by omega) (by omega), nI_toInt (by omega)] at c
  omega

set_option maxHeartbeats 4000000 in
set_option maxRecDepth 100000 in
theorem law_loop {p : Program} {e : Env} {s : State} {m : MethodId} {below : List Frame} {meth : Method} {c : Code} (l : Launch) {b L : Nat} {xs : Nat → Int32} {dC : Nat → ClassId} {dI : Nat → Nat → Nat} {ca : Nat → ClassId} {x y : Nat} (hr : meth.sig.returnType = ret) (hlocks : meth.locks = false) (hF : ∀ d : Drawn, lwF p s d m c b L xs dC dI ca) (hL : L ≤ 3584) : ∀ (k n : Nat) (d0 : Drawn) (g : Nat) (H : Heap) (locs : List Loc) (ls : Array Slot), s.drawn.sameBut d0 lw_cs → 7 * n ≤ L → L ≤ 7 * n + 7 * k + 6 → lI dC dI ca s.heap x y b n g H locs ls → W p l e room_1 (s.setDrawn d0) m #[Value.ref b] below meth c H locs (100 + 99 * n) (410000 + 5499 * n + 16384 * g) (lw_Z below #[Value.ref b] s) (F0 m 18 ls []) := by
  intro k
  induction k with
  | zero =>
    intro n d0 g H locs ls hd0 hn hk0 hI
    have hI0 := hI
    obtain ⟨hx, hb, hml, hown, hts, hE, hK, hX, hbl⟩ := hF d0
    obtain ⟨nl, nb, rn, fd, Lf, Cf, Mf, Hf, Sf, qm, qd, lt, gl, gh, lw6, hi6, np, Xf, ws, kd, wK, wM, hk, hm, hP, hD, hS, hl⟩ := hI
    have hgl := kOK_g hk
    have hbA : ¬ (fun q : Nat => s.heap.size ≤ q) b := Nat.not_le.mpr hbl
    refine lv_iload_n hx hb dL_law_18 rfl (lv_at hl 0 rfl) ?_
    refine lv_aload_n hx hb dL_law_19 rfl (lv_at hl 3 rfl) ?_
    refine va_slen hx hb hX hbl hbA hS dL_law_20 ?_
    refine lv_bipush (v := 7) hx hb dL_law_21 (by decide) ?_
    refine lv_isub hx hb dL_law_23 ?_
    refine lv_icmp_gt (tgt := 1325) hx hb dL_law_24 (by decide) (fun c_ => ?_) (fun c_ => absurd (lw_le hL hn c_) (by omega))
    refine lv_iconst (v := 1) hx hb dL_law_1325 (by decide) ?_
    refine va_forget (fun q hq => hS.2.2 q hq) ?_
    refine W.widen (k := 600000) (n := 7302250) (by omega) (by omega) ?_
    exact lw_ret hd0 hx hb hr hlocks dL_law_1326
  | succ k ih =>
    intro n d0 g H locs ls hd0 hn hk0 hI
    have hI0 := hI
    obtain ⟨hx, hb, hml, hown, hts, hE, hK, hX, hbl⟩ := hF d0
    obtain ⟨nl, nb, rn, fd, Lf, Cf, Mf, Hf, Sf, qm, qd, lt, gl, gh, lw6, hi6, np, Xf, ws, kd, wK, wM, hk, hm, hP, hD, hS, hl⟩ := hI
    have hgl := kOK_g hk
    have hbA : ¬ (fun q : Nat => s.heap.size ≤ q) b := Nat.not_le.mpr hbl
    refine lv_iload_n hx hb dL_law_18 rfl (lv_at hl 0 rfl) ?_
    refine lv_aload_n hx hb dL_law_19 rfl (lv_at hl 3 rfl) ?_
    refine va_slen hx hb hX hbl hbA hS dL_law_20 ?_
    refine lv_bipush (v := 7) hx hb dL_law_21 (by decide) ?_
    refine lv_isub hx hb dL_law_23 ?_
    refine lv_icmp_gt (tgt := 1325) hx hb dL_law_24 (by decide) (fun c_ => ?_) (fun c_ => ?_)
    · refine lv_iconst (v := 1) hx hb dL_law_1325 (by decide) ?_
      refine va_forget (fun q hq => hS.2.2 q hq) ?_
      refine W.widen (k := 600000) (n := 7302250) (by omega) (by omega) ?_
      exact lw_ret hd0 hx hb hr hlocks dL_law_1326
    · have hn7 := lw_le hL hn c_
      have KK : ∀ (d1 : Drawn) (g1 : Nat) (H : Heap) (locs : List Loc) (ls : Array Slot), s.drawn.sameBut d1 lw_cs → lI dC dI ca s.heap x y b n g1 H locs ls → W p l e room_1 (s.setDrawn d1) m #[Value.ref b] below meth c H locs (100 + 99 * (n + 1)) (410000 + 5499 * (n + 1) + 16384 * g1) (lw_Z below #[Value.ref b] s) (F0 m 1319 ls []) := by
        intro d1 g1 H locs ls hd1 hI
        obtain ⟨nl, nb, rn, fd, Lf, Cf, Mf, Hf, Sf, qm, qd, lt, gl, gh, lw6, hi6, np, Xf, ws, kd, wK, wM, hk, hm, hP, hD, hS, hl⟩ := hI
        refine lv_iinc (v := (nI (7 * (n + 1)))) (lv' := [(3, .int (nI (7 * (n + 1)))), (2, .ref y), (1, .ref x), (0, .ref b)]) hx hb dL_law_1319 hl (k := 0) rfl (nI_add (7 * n) 7) (by decide) rfl (fun ls hl => ?_)
        refine lv_goto (tgt := 18) hx hb dL_law_1322 (by decide) ?_
        exact ih (n + 1) d1 g1 H locs ls hd1 (by omega) (by omega) ⟨nl, nb, rn, fd, Lf, Cf, Mf, Hf, Sf, qm, qd, lt, gl, gh, lw6, hi6, np, Xf, ws, kd, wK, wM, hk, hm, hP, hD, hS, hl⟩
      refine lv_aload_n hx hb dL_law_27 rfl (lv_at hl 3 rfl) ?_
      refine lv_iload_n hx hb dL_law_28 rfl (lv_at hl 0 rfl) ?_
      refine va_sld hx hb hX hbl hbA hS (vp_in_nI (show 7 * n < L by omega) (by omega)) dL_law_29 ?_
      refine lv_bipush (v := 31) hx hb dL_law_30 (by decide) ?_
      refine lv_iand hx hb dL_law_32 ?_
      by_cases c_1 : ((xs ((nI (7 * n)) : Int32).toNatClampNeg) &&& 31) = 0
      · refine lv_topi (fun y_ e_ => ?_)
        obtain rfl : y_ = 0 := e_.trans c_1
        refine lv_tableIn (tgt := 172) hx hb dL_law_33 (by decide) (by decide) rfl (by decide) ?_
        exact lc_0 l hd0 (hF d0) hL hn7 hI0 KK
      by_cases c_2 : ((xs ((nI (7 * n)) : Int32).toNatClampNeg) &&& 31) = 1
      · refine lv_topi (fun y_ e_ => ?_)
        obtain rfl : y_ = 1 := e_.trans c_2
        refine lv_tableIn (tgt := 205) hx hb dL_law_33 (by decide) (by decide) rfl (by decide) ?_
        exact lc_1 l hd0 (hF d0) hL hn7 hI0 KK
      by_cases c_3 : ((xs ((nI (7 * n)) : Int32).toNatClampNeg) &&& 31) = 2
      · refine lv_topi (fun y_ e_ => ?_)
        obtain rfl : y_ = 2 := e_.trans c_3
        refine lv_tableIn (tgt := 228) hx hb dL_law_33 (by decide) (by decide) rfl (by decide) ?_
        exact lc_2 l hd0 (hF d0) hL hn7 hI0 KK
      by_cases c_4 : ((xs ((nI (7 * n)) : Int32).toNatClampNeg) &&& 31) = 3
      · refine lv_topi (fun y_ e_ => ?_)
        obtain rfl : y_ = 3 := e_.trans c_4
        refine lv_tableIn (tgt := 271) hx hb dL_law_33 (by decide) (by decide) rfl (by decide) ?_
        exact lc_3 l hd0 (hF d0) hL hn7 hI0 KK
      by_cases c_5 : ((xs ((nI (7 * n)) : Int32).toNatClampNeg) &&& 31) = 4
      · refine lv_topi (fun y_ e_ => ?_)
        obtain rfl : y_ = 4 := e_.trans c_5
        refine lv_tableIn (tgt := 314) hx hb dL_law_33 (by decide) (by decide) rfl (by decide) ?_
        exact lc_4 l hd0 (hF d0) hL hn7 hI0 KK
      by_cases c_6 : ((xs ((nI (7 * n)) : Int32).toNatClampNeg) &&& 31) = 5
      · refine lv_topi (fun y_ e_ => ?_)
        obtain rfl : y_ = 5 := e_.trans c_6
        refine lv_tableIn (tgt := 357) hx hb dL_law_33 (by decide) (by decide) rfl (by decide) ?_
        exact lc_5 l hd0 (hF d0) hL hn7 hI0 KK
      by_cases c_7 : ((xs ((nI (7 * n)) : Int32).toNatClampNeg) &&& 31) = 6
      · refine lv_topi (fun y_ e_ => ?_)
        obtain rfl : y_ = 6 := e_.trans c_7
        refine lv_tableIn (tgt := 416) hx hb dL_law_33 (by decide) (by decide) rfl (by decide) ?_
        exact lc_6 l hd0 (hF d0) hL hn7 hI0 KK
      by_cases c_8 : ((xs ((nI (7 * n)) : Int32).toNatClampNeg) &&& 31) = 7
      · refine lv_topi (fun y_ e_ => ?_)
        obtain rfl : y_ = 7 := e_.trans c_8
        refine lv_tableIn (tgt := 449) hx hb dL_law_33 (by decide) (by decide) rfl (by decide) ?_
        exact lc_7 l hd0 (hF d0) hL hn7 hI0 KK
      by_cases c_9 : ((xs ((nI (7 * n)) : Int32).toNatClampNeg) &&& 31) = 8
      · refine lv_topi (fun y_ e_ => ?_)
        obtain rfl : y_ = 8 := e_.trans c_9
        refine lv_tableIn (tgt := 482) hx hb dL_law_33 (by decide) (by decide) rfl (by decide) ?_
        exact lc_8 l hd0 (hF d0) hL hn7 hI0 KK
      by_cases c_10 : ((xs ((nI (7 * n)) : Int32).toNatClampNeg) &&& 31) = 9
      · refine lv_topi (fun y_ e_ => ?_)
        obtain rfl : y_ = 9 := e_.trans c_10
        refine lv_tableIn (tgt := 525) hx hb dL_law_33 (by decide) (by decide) rfl (by decide) ?_
        exact lc_9 l hd0 (hF d0) hL hn7 hI0 KK
      by_cases c_11 : ((xs ((nI (7 * n)) : Int32).toNatClampNeg) &&& 31) = 10
      · refine lv_topi (fun y_ e_ => ?_)
        obtain rfl : y_ = 10 := e_.trans c_11
        refine lv_tableIn (tgt := 558) hx hb dL_law_33 (by decide) (by decide) rfl (by decide) ?_
        exact lc_10 l hd0 (hF d0) hL hn7 hI0 KK
      by_cases c_12 : ((xs ((nI (7 * n)) : Int32).toNatClampNeg) &&& 31) = 11
      · refine lv_topi (fun y_ e_ => ?_)
        obtain rfl : y_ = 11 := e_.trans c_12
        refine lv_tableIn (tgt := 581) hx hb dL_law_33 (by decide) (by decide) rfl (by decide) ?_
        exact lc_11 l hd0 (hF d0) hL hn7 hI0 KK
      by_cases c_13 : ((xs ((nI (7 * n)) : Int32).toNatClampNeg) &&& 31) = 12
      · refine lv_topi (fun y_ e_ => ?_)
        obtain rfl : y_ = 12 := e_.trans c_13
        refine lv_tableIn (tgt := 604) hx hb dL_law_33 (by decide) (by decide) rfl (by decide) ?_
        exact lc_12 l hd0 (hF d0) hL hn7 hI0 KK
      by_cases c_14 : ((xs ((nI (7 * n)) : Int32).toNatClampNeg) &&& 31) = 13
      · refine lv_topi (fun y_ e_ => ?_)
        obtain rfl : y_ = 13 := e_.trans c_14
        refine lv_tableIn (tgt := 637) hx hb dL_law_33 (by decide) (by decide) rfl (by decide) ?_
        exact lc_13 l hd0 (hF d0) hL hn7 hI0 KK
      by_cases c_15 : ((xs ((nI (7 * n)) : Int32).toNatClampNeg) &&& 31) = 14
      · refine lv_topi (fun y_ e_ => ?_)
        obtain rfl : y_ = 14 := e_.trans c_15
        refine lv_tableIn (tgt := 712) hx hb dL_law_33 (by decide) (by decide) rfl (by decide) ?_
        exact lc_14 l hd0 (hF d0) hL hn7 hI0 KK
      by_cases c_16 : ((xs ((nI (7 * n)) : Int32).toNatClampNeg) &&& 31) = 15
      · refine lv_topi (fun y_ e_ => ?_)
        obtain rfl : y_ = 15 := e_.trans c_16
        refine lv_tableIn (tgt := 745) hx hb dL_law_33 (by decide) (by decide) rfl (by decide) ?_
        exact lc_15 l hd0 (hF d0) hL hn7 hI0 KK
      by_cases c_17 : ((xs ((nI (7 * n)) : Int32).toNatClampNeg) &&& 31) = 16
      · refine lv_topi (fun y_ e_ => ?_)
        obtain rfl : y_ = 16 := e_.trans c_17
        refine lv_tableIn (tgt := 788) hx hb dL_law_33 (by decide) (by decide) rfl (by decide) ?_
        exact lc_16 l hd0 (hF d0) hL hn7 hI0 KK
      by_cases c_18 : ((xs ((nI (7 * n)) : Int32).toNatClampNeg) &&& 31) = 17
      · refine lv_topi (fun y_ e_ => ?_)
        obtain rfl : y_ = 17 := e_.trans c_18
        refine lv_tableIn (tgt := 831) hx hb dL_law_33 (by decide) (by decide) rfl (by decide) ?_
        exact lc_17 l hd0 (hF d0) hL hn7 hI0 KK
      by_cases c_19 : ((xs ((nI (7 * n)) : Int32).toNatClampNeg) &&& 31) = 18
      · refine lv_topi (fun y_ e_ => ?_)
        obtain rfl : y_ = 18 := e_.trans c_19
        refine lv_tableIn (tgt := 874) hx hb dL_law_33 (by decide) (by decide) rfl (by decide) ?_
        exact lc_18 l hd0 (hF d0) hL hn7 hI0 KK
      by_cases c_20 : ((xs ((nI (7 * n)) : Int32).toNatClampNeg) &&& 31) = 19
      · refine lv_topi (fun y_ e_ => ?_)
        obtain rfl : y_ = 19 := e_.trans c_20
        refine lv_tableIn (tgt := 897) hx hb dL_law_33 (by decide) (by decide) rfl (by decide) ?_
        exact lc_19 l hd0 (hF d0) hL hn7 hI0 KK
      by_cases c_21 : ((xs ((nI (7 * n)) : Int32).toNatClampNeg) &&& 31) = 20
      · refine lv_topi (fun y_ e_ => ?_)
        obtain rfl : y_ = 20 := e_.trans c_21
        refine lv_tableIn (tgt := 920) hx hb dL_law_33 (by decide) (by decide) rfl (by decide) ?_
        exact lc_20 l hd0 (hF d0) hL hn7 hI0 KK
      by_cases c_22 : ((xs ((nI (7 * n)) : Int32).toNatClampNeg) &&& 31) = 21
      · refine lv_topi (fun y_ e_ => ?_)
        obtain rfl : y_ = 21 := e_.trans c_22
        refine lv_tableIn (tgt := 953) hx hb dL_law_33 (by decide) (by decide) rfl (by decide) ?_
        exact lc_21 l hd0 (hF d0) hL hn7 hI0 KK
      by_cases c_23 : ((xs ((nI (7 * n)) : Int32).toNatClampNeg) &&& 31) = 22
      · refine lv_topi (fun y_ e_ => ?_)
        obtain rfl : y_ = 22 := e_.trans c_23
        refine lv_tableIn (tgt := 986) hx hb dL_law_33 (by decide) (by decide) rfl (by decide) ?_
        exact lc_22 l hd0 (hF d0) hL hn7 hI0 KK
      by_cases c_24 : ((xs ((nI (7 * n)) : Int32).toNatClampNeg) &&& 31) = 23
      · refine lv_topi (fun y_ e_ => ?_)
        obtain rfl : y_ = 23 := e_.trans c_24
        refine lv_tableIn (tgt := 1029) hx hb dL_law_33 (by decide) (by decide) rfl (by decide) ?_
        exact lc_23 l hd0 (hF d0) hL hn7 hI0 KK
      by_cases c_25 : ((xs ((nI (7 * n)) : Int32).toNatClampNeg) &&& 31) = 24
      · refine lv_topi (fun y_ e_ => ?_)
        obtain rfl : y_ = 24 := e_.trans c_25
        refine lv_tableIn (tgt := 1082) hx hb dL_law_33 (by decide) (by decide) rfl (by decide) ?_
        exact lc_24 l hd0 (hF d0) hL hn7 hI0 KK
      by_cases c_26 : ((xs ((nI (7 * n)) : Int32).toNatClampNeg) &&& 31) = 25
      · refine lv_topi (fun y_ e_ => ?_)
        obtain rfl : y_ = 25 := e_.trans c_26
        refine lv_tableIn (tgt := 1115) hx hb dL_law_33 (by decide) (by decide) rfl (by decide) ?_
        exact lc_25 l hd0 (hF d0) hL hn7 hI0 KK
      by_cases c_27 : ((xs ((nI (7 * n)) : Int32).toNatClampNeg) &&& 31) = 26
      · refine lv_topi (fun y_ e_ => ?_)
        obtain rfl : y_ = 26 := e_.trans c_27
        refine lv_tableIn (tgt := 1158) hx hb dL_law_33 (by decide) (by decide) rfl (by decide) ?_
        exact lc_26 l hd0 (hF d0) hL hn7 hI0 KK
      by_cases c_28 : ((xs ((nI (7 * n)) : Int32).toNatClampNeg) &&& 31) = 27
      · refine lv_topi (fun y_ e_ => ?_)
        obtain rfl : y_ = 27 := e_.trans c_28
        refine lv_tableIn (tgt := 1181) hx hb dL_law_33 (by decide) (by decide) rfl (by decide) ?_
        exact lc_27 l hd0 (hF d0) hL hn7 hI0 KK
      by_cases c_29 : ((xs ((nI (7 * n)) : Int32).toNatClampNeg) &&& 31) = 28
      · refine lv_topi (fun y_ e_ => ?_)
        obtain rfl : y_ = 28 := e_.trans c_29
        refine lv_tableIn (tgt := 1230) hx hb dL_law_33 (by decide) (by decide) rfl (by decide) ?_
        exact lc_28 l hd0 (hF d0) hL hn7 hI0 KK
      by_cases c_30 : ((xs ((nI (7 * n)) : Int32).toNatClampNeg) &&& 31) = 29
      · refine lv_topi (fun y_ e_ => ?_)
        obtain rfl : y_ = 29 := e_.trans c_30
        refine lv_tableIn (tgt := 1273) hx hb dL_law_33 (by decide) (by decide) rfl (by decide) ?_
        exact lc_29 l hd0 (hF d0) hL hn7 hI0 KK
      by_cases c_31 : ((xs ((nI (7 * n)) : Int32).toNatClampNeg) &&& 31) = 30
      · refine lv_topi (fun y_ e_ => ?_)
        obtain rfl : y_ = 30 := e_.trans c_31
        refine lv_tableIn (tgt := 1296) hx hb dL_law_33 (by decide) (by decide) rfl (by decide) ?_
        exact lc_30 l hd0 (hF d0) hL hn7 hI0 KK
      refine lv_tableOut (tgt := 1319) hx hb dL_law_33 (by have n0 := lv_neT c_1 (show (0 : Int32).toInt = 0 by decide); have n1 := lv_neT c_2 (show (1 : Int32).toInt = 1 by decide); have n2 := lv_neT c_3 (show (2 : Int32).toInt = 2 by decide); have n3 := lv_neT c_4 (show (3 : Int32).toInt = 3 by decide); have n4 := lv_neT c_5 (show (4 : Int32).toInt = 4 by decide); have n5 := lv_neT c_6 (show (5 : Int32).toInt = 5 by decide); have n6 := lv_neT c_7 (show (6 : Int32).toInt = 6 by decide); have n7 := lv_neT c_8 (show (7 : Int32).toInt = 7 by decide); have n8 := lv_neT c_9 (show (8 : Int32).toInt = 8 by decide); have n9 := lv_neT c_10 (show (9 : Int32).toInt = 9 by decide); have n10 := lv_neT c_11 (show (10 : Int32).toInt = 10 by decide); have n11 := lv_neT c_12 (show (11 : Int32).toInt = 11 by decide); have n12 := lv_neT c_13 (show (12 : Int32).toInt = 12 by decide); have n13 := lv_neT c_14 (show (13 : Int32).toInt = 13 by decide); have n14 := lv_neT c_15 (show (14 : Int32).toInt = 14 by decide); have n15 := lv_neT c_16 (show (15 : Int32).toInt = 15 by decide); have n16 := lv_neT c_17 (show (16 : Int32).toInt = 16 by decide); have n17 := lv_neT c_18 (show (17 : Int32).toInt = 17 by decide); have n18 := lv_neT c_19 (show (18 : Int32).toInt = 18 by decide); have n19 := lv_neT c_20 (show (19 : Int32).toInt = 19 by decide); have n20 := lv_neT c_21 (show (20 : Int32).toInt = 20 by decide); have n21 := lv_neT c_22 (show (21 : Int32).toInt = 21 by decide); have n22 := lv_neT c_23 (show (22 : Int32).toInt = 22 by decide); have n23 := lv_neT c_24 (show (23 : Int32).toInt = 23 by decide); have n24 := lv_neT c_25 (show (24 : Int32).toInt = 24 by decide); have n25 := lv_neT c_26 (show (25 : Int32).toInt = 25 by decide); have n26 := lv_neT c_27 (show (26 : Int32).toInt = 26 by decide); have n27 := lv_neT c_28 (show (27 : Int32).toInt = 27 by decide); have n28 := lv_neT c_29 (show (28 : Int32).toInt = 28 by decide); have n29 := lv_neT c_30 (show (29 : Int32).toInt = 29 by decide); have n30 := lv_neT c_31 (show (30 : Int32).toInt = 30 by decide); omega) (by decide) ?_
      refine W.widen (k := (100 + 99 * (n + 1))) (n := (410000 + 5499 * (n + 1) + 16384 * g)) (by omega) (by omega) ?_
      exact KK d0 g _ _ _ hd0 hI0

set_option maxHeartbeats 4000000 in
set_option maxRecDepth 100000 in
theorem whole_start {p : Program} {e : Env} {s : State} {m : MethodId} {below : List Frame} {meth : Method} {c : Code} (l : Launch) {b L : Nat} {xs : Nat → Int32} (hL : L ≤ 3584) (C0 : lw_At p s m meth c b L xs) : W p l e room_1 s m #[Value.ref b] below meth c s.heap [] 0 0 (lw_Z below #[Value.ref b] s) (entryFrame m ([Value.ref b] : List Value).toArray 4) := by
  have C1 := C0
  obtain ⟨hx, hb, hr, hml, hown, hts0, hX, hbl, hlocks, hgv⟩ := C1
  have hA : ∀ q : Nat, s.heap.size ≤ q → (fun q : Nat => s.heap.size ≤ q) q := fun _ h => h
  have hE : ext s := ext_of hts0
  have hts : ∀ w ∈ gT, w.before #[Value.ref b] s = true := fun w h => hts0 w (gT_mem.mp h).1
  obtain ⟨c0, i0, hKn0⟩ := u_known (C := RX0) (T := TX0) (N := 16) (n := 16) hts inX0 (hts _ mw_276)
  obtain ⟨c1, i1, hKn1⟩ := u_known (C := RX1) (T := TX1) (N := 6) (n := 6) hts inX1 (hts _ mw_682)
  obtain ⟨c2, i2, hKn2⟩ := u_known (C := RX2) (T := TX2) (N := 6) (n := 6) hts inX2 (hts _ mw_149)
  obtain ⟨c3, i3, hKn3⟩ := u_known (C := RX3) (T := TX3) (N := 13) (n := 13) hts inX3 (hts _ mw_99)
  obtain ⟨c4, i4, hKn4⟩ := u_known (C := RX4) (T := TX4) (N := 2) (n := 2) hts inX4 (hts _ mw_255)
  obtain ⟨c5, i5, hKn5⟩ := u_known (C := RX5) (T := TX5) (N := 5) (n := 5) hts inX5 (hts _ mw_179)
  obtain ⟨c6, i6, hKn6⟩ := u_known (C := RX6) (T := TX6) (N := 9) (n := 9) hts inX6 (hts _ mw_545)
  obtain ⟨c7, i7, hKn7⟩ := u_known (C := RX7) (T := TX7) (N := 4) (n := 4) hts inX7 (hts _ mw_282)
  obtain ⟨c8, i8, hKn8⟩ := u_known (C := RX8) (T := TX8) (N := 7) (n := 7) hts inX8 (hts _ mw_35)
  obtain ⟨c9, i9, hKn9⟩ := u_known (C := RX9) (T := TX9) (N := 6) (n := 6) hts inX9 (hts _ mw_74)
  obtain ⟨c10, i10, hKn10⟩ := u_known (C := RX10) (T := TX10) (N := 15) (n := 15) hts inX10 (hts _ mw_19)
  obtain ⟨c11, i11, hKn11⟩ := u_known (C := RX11) (T := TX11) (N := 56) (n := 56) hts inX11 (hts _ mw_874)
  obtain ⟨dC, dI, hKc⟩ : ∃ (dC : Nat → ClassId) (dI : Nat → Nat → Nat), ∀ (k : Nat) (q : vw_C), vwCl[k]? = some q → u_Kn s q.1 q.2.1 q.2.2 (dC k) (dI k) := by
    refine ⟨fun k => ([c0, c1, c2, c3, c4, c5, c6, c7, c8, c9, c10, c11] : List ClassId).getD k c0, fun k => ([i0, i1, i2, i3, i4, i5, i6, i7, i8, i9, i10, i11] : List (Nat → Nat)).getD k i0, ?_⟩
    intro k q hq
    match k, hq with
    | 0, hq => cases hq; exact hKn0
    | 1, hq => cases hq; exact hKn1
    | 2, hq => cases hq; exact hKn2
    | 3, hq => cases hq; exact hKn3
    | 4, hq => cases hq; exact hKn4
    | 5, hq => cases hq; exact hKn5
    | 6, hq => cases hq; exact hKn6
    | 7, hq => cases hq; exact hKn7
    | 8, hq => cases hq; exact hKn8
    | 9, hq => cases hq; exact hKn9
    | 10, hq => cases hq; exact hKn10
    | 11, hq => cases hq; exact hKn11
    | k + 12, hq => simp [vwCl] at hq
  obtain ⟨a0, ha0⟩ := ra_prim (hts _ mw_72) (fun C h => by cases h)
  obtain ⟨a1, ha1⟩ := ra_prim (hts _ mw_147) (fun C h => by cases h)
  obtain ⟨a2, ha2⟩ := ra_prim (hts _ mw_761) (fun C h => by cases h)
  obtain ⟨a3, ha3⟩ := ra_prim (hts _ mw_713) (fun C h => by cases h)
  obtain ⟨a4, ha4⟩ := ra_prim (hts _ mw_1049) (fun C h => by cases h)
  obtain ⟨a5, ha5⟩ := ra_obj hE.1
  obtain ⟨a6, ha6⟩ := ra_obj hE.2.1
  obtain ⟨a7, ha7⟩ := ra_obj hE.2.2.1
  obtain ⟨a8, ha8⟩ := ra_obj hE.2.2.2.1
  obtain ⟨ca, hK⟩ : ∃ ca : Nat → ClassId, va_K (dC, dI) vwCl (aT ca) s := by
    refine ⟨fun k => ([a0, a1, a2, a3, a4, a5, a6, a7, a8] : List ClassId).getD k a0, hKc, ?_⟩
    intro k q hq
    match k, hq with
    | 0, hq => cases hq; exact ha0
    | 1, hq => cases hq; exact ha1
    | 2, hq => cases hq; exact ha2
    | 3, hq => cases hq; exact ha3
    | 4, hq => cases hq; exact ha4
    | 5, hq => cases hq; exact ha5
    | 6, hq => cases hq; exact ha6
    | 7, hq => cases hq; exact ha7
    | 8, hq => cases hq; exact ha8
    | k + 9, hq => simp [aT] at hq
  have hF : ∀ d : Drawn, lwF p s d m c b L xs dC dI ca := fun d => ⟨hx, hb, hml, hown, dr_words hts d, ext_of (dr_words hts0 d), hK, hX, hbl⟩
  have hS : va_S (fun q : Nat => s.heap.size ≤ q) s.heap s.heap [] := va_S.rf
  have hP : va_P (dC, dI) vwCl [] s.heap := fun k q h => by simp at h
  have hD : va_D (fun q : Nat => s.heap.size ≤ q) [] := ⟨fun i j p q h => by simp at h, fun k q h => by simp at h⟩
  have hl := lv_entry ([.ref b]) (n := 4) (Nat.le_of_ble_eq_true rfl)
  rw [lg_entry_eq]
  generalize (lg_sl ([.ref b]) ++ List.replicate (4 - (lg_sl ([.ref b])).length) Slot.unset).toArray = ls at hl ⊢
  have hl : lv_has ls 4 [(0, .ref b)] := hl
  refine va_new (ci := 10) (fs := [.null, .int 0, .null, .int 0, .null, .int 0, .null, .int 0, .null, .null, .null, .null, .null, .null, .null]) (C := RX10) (T := TX10) (N := 15) hx hb hts inX10 tyX10 tyX10_ok hown (hts _ mw_18) (hts _ mw_19) (hts _ mw_1) hK hP hD hS hA rfl dfX10 (Nat.le_of_ble_eq_true rfl) (Nat.le_of_ble_eq_true rfl) dL_law_0 (fun x H hP hD hS => ?_)
  refine W.widen (k := 1) (n := 15) (Nat.le_of_ble_eq_true rfl) (Nat.le_of_ble_eq_true rfl) ?_
  refine lv_dup hx hb dL_law_3 rfl ?_
  have hP : va_P (dC, dI) vwCl ([(x, .inr (10, [.null, .int 0, .null, .int 0, .null, .int 0, .null, .int 0, .null, .null, .null, .null, .null, .null, .null]))] ++ []) H := hP
  have hD : va_D (fun q : Nat => s.heap.size ≤ q) ([(x, .inr (10, [.null, .int 0, .null, .int 0, .null, .int 0, .null, .int 0, .null, .null, .null, .null, .null, .null, .null]))] ++ []) := hD
  have hFc := fr_l hD hS hA
  refine va_callv (va_runI (As := []) (rest := [.ref x]) ⟨hx, hb, hml, hown, hts⟩ (K_new l dC dI ca H.size x) (⟨callB_of 0 hts (gd mw_22) rfl rfl rfl (hts _ mw_1) (hts _ mw_20) ds_X10_init ⟨Nat.le_of_ble_eq_true rfl, Nat.le_of_ble_eq_true rfl⟩, rfl, (hts _ mw_21)⟩) (pr_S (w_left hP) hK (d_left hD) hE) rfl rfl hl.1 rfl (lv_room (Nat.le_of_ble_eq_true rfl)) dL_law_4 ⟨Nat.le_of_ble_eq_true rfl, Nat.le_of_ble_eq_true rfl⟩) hS (fun q _ h => hFc q h) hFc (fun wK t_ H1 locs ht hvm hk hB hz1 hk1 hS => ?_)
  obtain ⟨hP1, hD1⟩ := hB
  rw [ht] at hP1
  obtain ⟨hP, hD⟩ := frm hP hD hk1 hFc hP1 hD1
  generalize H1 = H at hP hS ⊢
  refine W.widen (k := 28) (n := 1492) (Nat.le_of_ble_eq_true rfl) (Nat.le_of_ble_eq_true rfl) ?_
  rw [List.append_nil] at hP hD
  refine lv_astore_n (lv' := [(1, .ref x), (0, .ref b)]) hx hb dL_law_7 rfl hl (by decide) rfl (fun ls hl => ?_)
  refine va_new (ci := 11) (fs := [.int 0, .int 0, .int 0, .int 0, .int 0, .int 0, .null, .null, .null, .null, .null, .null, .null, .null, .null, .null, .null, .null, .null, .null, .null, .null, .null, .null, .null, .null, .null, .null, .null, .int 0, .int 0, .null, .null, .null, .null, .null, .null, .null, .null, .null, .null, .null, .null, .null, .null, .null, .null, .null, .int 0, .int 0, .null, .null, .int 0, .null, .null, .null]) (C := RX11) (T := TX11) (N := 56) hx hb hts inX11 tyX11 tyX11_ok hown (hts _ mw_873) (hts _ mw_874) (hts _ mw_8) hK hP hD hS hA rfl dfX11 (Nat.le_of_ble_eq_true rfl) (Nat.le_of_ble_eq_true rfl) dL_law_8 (fun y H hP hD hS => ?_)
  refine W.widen (k := 29) (n := 1548) (Nat.le_of_ble_eq_true rfl) (Nat.le_of_ble_eq_true rfl) ?_
  refine lv_dup hx hb dL_law_11 rfl ?_
  have hP := hP.perm List.perm_append_comm
  have hD := hD.perm List.perm_append_comm
  have hFc := fr_l hD hS hA
  refine va_callv (va_runI (As := []) (rest := [.ref y]) ⟨hx, hb, hml, hown, hts⟩ (M_new l dC dI ca H.size y) (⟨callB_of 0 hts (gd mw_877) rfl rfl rfl (hts _ mw_8) (hts _ mw_875) ds_X11_init ⟨Nat.le_of_ble_eq_true rfl, Nat.le_of_ble_eq_true rfl⟩, rfl, (hts _ mw_876)⟩) (pr_S (w_left hP) hK (d_left hD) hE) rfl rfl hl.1 rfl (lv_room (Nat.le_of_ble_eq_true rfl)) dL_law_12 ⟨Nat.le_of_ble_eq_true rfl, Nat.le_of_ble_eq_true rfl⟩) hS (fun q _ h => hFc q h) hFc (fun wM t_ H1 locs ht hvm hm hB hz1 hk1 hS => ?_)
  obtain ⟨hP1, hD1⟩ := hB
  rw [ht] at hP1
  obtain ⟨hP, hD⟩ := frm hP hD hk1 hFc hP1 hD1
  generalize H1 = H at hP hS ⊢
  refine W.widen (k := 74) (n := 405288) (Nat.le_of_ble_eq_true rfl) (Nat.le_of_ble_eq_true rfl) ?_
  have hP := hP.perm List.perm_append_comm
  have hD := hD.perm List.perm_append_comm
  refine lv_astore_n (lv' := [(2, .ref y), (1, .ref x), (0, .ref b)]) hx hb dL_law_15 rfl hl (by decide) rfl (fun ls hl => ?_)
  refine lv_iconst (v := 0) hx hb dL_law_16 (by decide) ?_
  refine lv_istore_n (lv' := [(3, .int 0), (2, .ref y), (1, .ref x), (0, .ref b)]) hx hb dL_law_17 rfl hl (by decide) rfl (fun ls hl => ?_)
  refine W.widen (k := (100 + 99 * 0)) (n := (410000 + 5499 * 0 + 16384 * 0)) (Nat.le_of_ble_eq_true rfl) (Nat.le_of_ble_eq_true rfl) ?_
  exact law_loop l hr hlocks hF hL 512 0 s.drawn 0 H locs ls (Drawn.sameBut.refl s.drawn lw_cs) (by omega) (by omega) ⟨_, _, _, _, _, _, _, _, _, _, _, _, _, _, _, _, _, _, _, _, wK, wM, hk, hm, hP, hD, hS, hl⟩
