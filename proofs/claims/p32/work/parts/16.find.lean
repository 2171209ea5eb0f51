theorem cnt_add {x y : Int32} {a b : Nat} (h1 : cnt x a) (h2 : cnt y b) : cnt (x + y) (a + b) := by
  obtain ⟨n, hn, rfl⟩ := h1
  obtain ⟨k, hk, rfl⟩ := h2
  exact ⟨n + k, by omega, nI_add n k⟩
theorem cnt_le {x : Int32} {a b : Nat} (h1 : cnt x a) (h : a ≤ b) : cnt x b := by
  obtain ⟨n, hn, rfl⟩ := h1
  exact ⟨n, by omega, rfl⟩
theorem wi_cn {v lo hi : Int32} {N : Nat} (h : ¬ wi v lo hi = 0) (h0 : 0 ≤ lo.toInt) (hN : hi.toInt ≤ N) : cnt v N := by
  obtain ⟨j, rfl, h1, h2⟩ := wi_nat h h0
  exact ⟨j, by omega, rfl⟩
theorem gr_in {a b : Int32} {A B : Nat} (ha : vp_in a A) (hb : vp_in b B) (hA : A * B < 2 ^ 31) {w : Int32} (hw : w = nI B) (hA2 : A < 2 ^ 31) (hB2 : B < 2 ^ 31) : vp_in (a * w + b) (A * B) ∧ vp_in (w * a + b) (A * B) := by
  obtain ⟨j, hj, rfl⟩ := vp_in_of ha hA2
  obtain ⟨k, hk, rfl⟩ := vp_in_of hb hB2
  subst hw
  have h1 : j * B + k < A * B := by
    have := Nat.mul_le_mul_right B (show j + 1 ≤ A from hj)
    rw [Nat.add_mul, Nat.one_mul] at this
    omega
  rw [pk_mul, pk_mul, nI_add, nI_add, Nat.mul_comm B j]
  exact ⟨vp_in_nI h1 hA, vp_in_nI h1 hA⟩
theorem so_in {t p : Int32} (h : ¬ so t p = -1) : vp_in (so t p) 144 := by
  unfold so at h ⊢
  split at h
  · exact absurd rfl h
  · rename_i h1
    split at h
    · exact absurd rfl h
    · rename_i h2
      rw [if_neg h1, if_neg h2]
      exact (gr_in (A := 6) (B := 24) (wi_vp h1 (by decide)) (wi_vp h2 (by decide)) (by decide) (w := 24) (by decide) (by decide) (by decide)).1
def eqB (n : Nat) (b1 b2 : Nat → BatG) : Prop := ∀ j, j < n → (b2 j).2 = (b1 j).2 ∧ ∀ k, k ≠ 12 → k ≠ 13 → (b2 j).1 k = (b1 j).1 k
theorem eqB_rf (n : Nat) (b : Nat → BatG) : eqB n b b := fun j hj => ⟨rfl, fun k _ _ => rfl⟩
theorem eqB_I {n : Nat} {b1 b2 : Nat → BatG} (h : eqB n b1 b2) (hI : ∀ j, j < n → bI (b1 j)) : ∀ j, j < n → bI (b2 j) := fun j hj => by
  obtain ⟨h1, h2⟩ := h j hj
  obtain ⟨i0, i1, i2⟩ := hI j hj
  exact ⟨by rw [h2 0 (by decide) (by decide)]; exact i0, by rw [h2 16 (by decide) (by decide)]; exact i1, by rw [h2 17 (by decide) (by decide)]; exact i2⟩
theorem eqB_up {n : Nat} {b1 b2 : Nat → BatG} (h : eqB n b1 b2) (i : Nat) (x y : Int32) : eqB n b1 (va_up b2 i (upd (upd (b2 i).1 12 x) 13 y, (b2 i).2.1, (b2 i).2.2.1, (b2 i).2.2.2)) := fun j hj => by
  by_cases e : j = i
  · subst e
    rw [va_up_self]
    exact ⟨(h j hj).1, fun k h1 h2 => by
      show upd (upd (b2 j).1 12 x) 13 y k = _
      rw [pk_un h2, pk_un h1]
      exact (h j hj).2 k h1 h2⟩
  · rw [va_up_ne _ _ e]
    exact h j hj
def fng (n : Nat) (f : Nat → Nat) (ok : Nat → Bool) (v : Int32) : Option Nat := if wi v 0 (nI n - 1) = 0 then none else if ok v.toNatClampNeg then some (f v.toNatClampNeg) else none
theorem fng_some {n : Nat} {f : Nat → Nat} {ok : Nat → Bool} {v : Int32} {b : Nat} (hn : n < 2 ^ 31) (h : some b = fng n f ok v) : ∃ j, j < n ∧ v = nI j ∧ b = f j ∧ ok j = true := by
  unfold fng at h
  split at h
  · cases h
  · rename_i h1
    obtain ⟨j, hj, rfl⟩ := wi_cnt hn h1
    rw [nI_clamp (by omega)] at h
    split at h
    · rename_i h2
      exact ⟨j, hj, rfl, Option.some.inj h, h2⟩
    · cases h
theorem fng_of {n : Nat} {f : Nat → Nat} {ok : Nat → Bool} {v : Int32} {j : Nat} (hn : n < 2 ^ 31) (hj : j < n) (hv : v = nI j) : fng n f ok v = if ok j then some (f j) else none := by
  subst hv
  unfold fng
  rw [wi_nI hn hj, if_neg (by decide), nI_clamp (by omega)]
theorem fng_no {n : Nat} {f g : Nat → Nat} {ok : Nat → Bool} {v : Int32} (h : none = fnd n g v) : none = fng n f ok v := by
  unfold fng
  rw [if_pos (fnd_none h)]
/-- a batch that is good -/
def okG (bt : Nat → BatG) (lw6 hi6 : Nat → Int32) : Nat → Bool := fun j => decide (flt ((bt j).1 0) ((bt j).1 5) ((bt j).1 6) ((bt j).1 8) ((bt j).1 10) ((bt j).1 11) lw6 hi6 = 0)
/-- a piece that is in no box -/
def okU (pc : Nat → PieG) : Nat → Bool := fun j => decide (¬ (pc j).1 7 = 2)

set_option maxHeartbeats 4000000 in
set_option maxRecDepth 100000 in
theorem k_findRaw (l : Launch) (dC : Nat → ClassId) (dI : Nat → Nat → Nat) (ca : Nat → ClassId) (x : Nat) (a : Nat → Nat) (nl : Nat) (la : Nat → Nat) (lo : Nat → Int32 × Int32) (nb : Nat) (ba : Nat → Nat → Nat) (bt : Nat → BatG) (np : Nat) (pa : Nat → Nat) (pc : Nat → PieG) (nx : Nat) (xa : Nat → Nat → Nat) (bx : Nat → BoxG) (v1 : Int32) (hQ : kI nl lo nb bt np pc nx bx) : Met l yX10_findRaw (Cond.code yX10_findRaw cX10_findRaw 3 (some (.object "SugarKitchen$Batch")) :: gT) ({ frames := 3, cells := 0, slots := 0, locals := 103 }) (va_Pc [.ref x, .int v1] (pu (dC, dI) (@HAppend.hAppend va_W va_W va_W _ [(x, .inr (10, [.ref (a 0), .int (nI nl), .ref (a 2), .int (nI nb), .ref (a 4), .int (nI np), .ref (a 6), .int (nI nx), .ref (a 8), .ref (a 9), .ref (a 10), .ref (a 11), .ref (a 12), .ref (a 13), .ref (a 14)])), ((a 2), .inl (ca 6, 40, .inr (.inr (.inr (.inr (rA nb (bA0 ba)))))))] (pool ca (List.range nl) la lo (List.range nb) ba bt (List.range np) pa pc (List.range nx) xa bx)) (aT ca))) (va_Sq (fun r => r = fnr nb (bA0 ba) (bF bt 5) v1)) 0 0 (fun _ => False) := by
  refine Met.ofW (cc := cX10_findRaw) (maxL := 3) (ret := (some (.object "SugarKitchen$Batch"))) (by decide) rfl ?_
  intro p e s m args below meth c s₁ B hml hv
  obtain ⟨rfl, hP, hK, hE⟩ := hv
  have hx := B.exec
  have hb := B.bytes
  have hr := B.returns
  have hts : ∀ w ∈ gT, w.before _ s = true := fun w h => atoms_spec (ws := Cond.code yX10_findRaw cX10_findRaw 3 (some (.object "SugarKitchen$Batch")) :: gT) B.pre w (List.mem_cons_of_mem _ h)
  have hown : s.vm.findClass RX10 = some m.cls := findClass_of_methodNamed B.named
  have hlocks := B.notSynchronized
  have hl := lv_entry ([.ref x, .int v1]) (n := 3) (Nat.le_of_ble_eq_true rfl)
  rw [lg_entry_eq]
  generalize (lg_sl ([.ref x, .int v1]) ++ List.replicate (3 - (lg_sl ([.ref x, .int v1])).length) Slot.unset).toArray = ls at hl ⊢
  have hl : lv_has ls 3 [(0, .ref x), (1, .int v1)] := hl
  obtain ⟨hq1, hq2, hq3, hq4, hq5, hq6, hq7⟩ := id hQ
  refine lv_aload_n hx hb dX10_findRaw_0 rfl (lv_at hl 0 rfl) ?_
  refine lv_iload_n hx hb dX10_findRaw_1 rfl (lv_at hl 1 rfl) ?_
  have hPc := hP.sub (ws' := [(x, .inr (10, [.ref (a 0), .int (nI nl), .ref (a 2), .int (nI nb), .ref (a 4), .int (nI np), .ref (a 6), .int (nI nx), .ref (a 8), .ref (a 9), .ref (a 10), .ref (a 11), .ref (a 12), .ref (a 13), .ref (a 14)])), ((a 2), .inl (ca 6, 40, .inr (.inr (.inr (.inr (rA nb (bA0 ba)))))))]) [0, 1] rfl
  refine pc_q (va_runV (As := [.int v1]) (rest := []) ⟨hx, hb, hml, hown, hts⟩ (k_findBatch l dC dI ca x a nl nb np nx ba v1 (by first | assumption | omega | exact ⟨_, by omega, rfl⟩)) (⟨callB_of 1 hts (gd mw_378) rfl rfl rfl (hts _ mw_1) (hts _ mw_375) ds_X10_findBatch ⟨Nat.le_of_ble_eq_true rfl, Nat.le_of_ble_eq_true rfl⟩, (hts _ mw_377), (hts _ mp_1)⟩) (pu_V hPc hK hE (va_recv hK hPc (ci := 10) (q0 := 0) rfl rfl)) rfl rfl hl.1 rfl (lv_room (Nat.le_of_ble_eq_true rfl)) dX10_findRaw_2 ⟨Nat.le_of_ble_eq_true rfl, Nat.le_of_ble_eq_true rfl⟩) (fun rv_1 hw_ => ?_)
  have hw_1 := hw_
  refine lq_astore_n (lv' := [(2, va_rf rv_1), (0, .ref x), (1, .int v1)]) hx hb dX10_findRaw_5 rfl hl (by decide) rfl (fun ls hl => ?_)
  refine lq_aload_n hx hb dX10_findRaw_6 rfl (lv_at hl 0 rfl) ?_
  cases rv_1 with
  | none =>
    have hl : lv_has ls 3 [(2, .null), (0, .ref x), (1, .int v1)] := hl
    refine W.eq (g2 := F0 m 7 ls [.null]) rfl ?_
    refine lv_ifnullN (tgt := 17) hx hb dX10_findRaw_7 (by decide) ?_
    refine lv_null hx hb dX10_findRaw_17 ?_
    refine lv_goto (tgt := 22) hx hb dX10_findRaw_18 (by decide) ?_
    exact W.aret (v := .null) hx hb hr (Or.inl ⟨_, rfl⟩) (Or.inl rfl) (fun t ht hW => ⟨none, rfl, (fnr_no hw_1), ht⟩) (fun q h => absurd h List.not_mem_nil) dX10_findRaw_22
  | some b2 =>
    have hl : lv_has ls 3 [(2, .ref b2), (0, .ref x), (1, .int v1)] := hl
    refine W.eq (g2 := F0 m 7 ls [.ref b2]) rfl ?_
    refine lv_ifnull hx hb dX10_findRaw_7 ?_
    obtain ⟨j3, hj3, ev3, e9⟩ := fnd_some (by omega) hw_1
    have e9 : b2 = (ba j3 0) := e9
    subst e9
    have hl : lv_has ls 3 [(2, .ref (ba j3 0)), (0, .ref x), (1, .int v1)] := hl
    have hPr4 := bat_P hP (rg_in hj3)
    refine lv_aload_n hx hb dX10_findRaw_10 rfl (lv_at hl 0 rfl) ?_
    refine va_get (D := (dC, dI)) (ci := 0) (v := .int ((bt j3).1 5)) (C := RX0) (T := TX0) (N := 16) hx hb hts inX0 hown hK hPr4 0 rfl rfl 5 (by decide) (hts _ mw_316) (fun _ h9 => h9) rfl dX10_findRaw_11 ?_
    refine lv_if_eq (tgt := 21) hx hb dX10_findRaw_14 (by decide) (fun c_5 => ?_) (fun c_5 => ?_)
    · refine lv_aload_n hx hb dX10_findRaw_21 rfl (lv_at hl 0 rfl) ?_
      exact W.aret (v := .ref (ba j3 0)) hx hb hr (Or.inl ⟨_, rfl⟩) (Or.inr ⟨_, rfl⟩) (fun t ht hW => ⟨(some (ba j3 0)), rfl, (by rw [fnr_of (by omega) hj3 ev3, if_pos (show bF bt 5 j3 = 0 from c_5)] <;> rfl), ht⟩) (fun q h => absurd h List.not_mem_nil) dX10_findRaw_22
    · refine lv_null hx hb dX10_findRaw_17 ?_
      refine lv_goto (tgt := 22) hx hb dX10_findRaw_18 (by decide) ?_
      exact W.aret (v := .null) hx hb hr (Or.inl ⟨_, rfl⟩) (Or.inl rfl) (fun t ht hW => ⟨none, rfl, (by rw [fnr_of (by omega) hj3 ev3, if_neg (show ¬ bF bt 5 j3 = 0 from c_5)]), ht⟩) (fun q h => absurd h List.not_mem_nil) dX10_findRaw_22

set_option maxHeartbeats 4000000 in
set_option maxRecDepth 100000 in
theorem k_findGood (l : Launch) (dC : Nat → ClassId) (dI : Nat → Nat → Nat) (ca : Nat → ClassId) (x : Nat) (a : Nat → Nat) (nl : Nat) (la : Nat → Nat) (lo : Nat → Int32 × Int32) (nb : Nat) (ba : Nat → Nat → Nat) (bt : Nat → BatG) (np : Nat) (pa : Nat → Nat) (pc : Nat → PieG) (nx : Nat) (xa : Nat → Nat → Nat) (bx : Nat → BoxG) (f0 : Nat) (f1 : Nat) (f5 : Nat) (f6 : Nat) (rn : Nat) (gl : Int32) (gh : Int32) (lw6 : Nat → Int32) (hi6 : Nat → Int32) (v1 : Int32) (hQ : kI nl lo nb bt np pc nx bx) : Met l yX10_findGood (Cond.code yX10_findGood cX10_findGood 3 (some (.object "SugarKitchen$Batch")) :: gT) ({ frames := 3, cells := 0, slots := 0, locals := 103 }) (va_Pc [.ref x, .int v1] (pu (dC, dI) (@HAppend.hAppend va_W va_W va_W _ [(x, .inr (10, [.ref (a 0), .int (nI nl), .ref (a 2), .int (nI nb), .ref (a 4), .int (nI np), .ref (a 6), .int (nI nx), .ref (a 8), .ref (a 9), .ref (a 10), .ref (a 11), .ref (a 12), .ref (a 13), .ref (a 14)])), ((a 2), .inl (ca 6, 40, .inr (.inr (.inr (.inr (rA nb (bA0 ba))))))), ((a 10), .inr (8, [.ref f0, .ref f1, .int (nI rn), .int gl, .int gh, .ref f5, .ref f6])), (f5, .inl (ca 0, 6, .inl lw6)), (f6, .inl (ca 0, 6, .inl hi6))] (pool ca (List.range nl) la lo (List.range nb) ba bt (List.range np) pa pc (List.range nx) xa bx)) (aT ca))) (va_Sq (fun r => r = fng nb (bA0 ba) (okG bt lw6 hi6) v1)) 0 0 (fun _ => False) := by
  refine Met.ofW (cc := cX10_findGood) (maxL := 3) (ret := (some (.object "SugarKitchen$Batch"))) (by decide) rfl ?_
  intro p e s m args below meth c s₁ B hml hv
  obtain ⟨rfl, hP, hK, hE⟩ := hv
  have hx := B.exec
  have hb := B.bytes
  have hr := B.returns
  have hts : ∀ w ∈ gT, w.before _ s = true := fun w h => atoms_spec (ws := Cond.code yX10_findGood cX10_findGood 3 (some (.object "SugarKitchen$Batch")) :: gT) B.pre w (List.mem_cons_of_mem _ h)
  have hown : s.vm.findClass RX10 = some m.cls := findClass_of_methodNamed B.named
  have hlocks := B.notSynchronized
  have hl := lv_entry ([.ref x, .int v1]) (n := 3) (Nat.le_of_ble_eq_true rfl)
  rw [lg_entry_eq]
  generalize (lg_sl ([.ref x, .int v1]) ++ List.replicate (3 - (lg_sl ([.ref x, .int v1])).length) Slot.unset).toArray = ls at hl ⊢
  have hl : lv_has ls 3 [(0, .ref x), (1, .int v1)] := hl
  obtain ⟨hq1, hq2, hq3, hq4, hq5, hq6, hq7⟩ := id hQ
  refine lv_aload_n hx hb dX10_findGood_0 rfl (lv_at hl 0 rfl) ?_
  refine lv_iload_n hx hb dX10_findGood_1 rfl (lv_at hl 1 rfl) ?_
  have hPc := hP.sub (ws' := [(x, .inr (10, [.ref (a 0), .int (nI nl), .ref (a 2), .int (nI nb), .ref (a 4), .int (nI np), .ref (a 6), .int (nI nx), .ref (a 8), .ref (a 9), .ref (a 10), .ref (a 11), .ref (a 12), .ref (a 13), .ref (a 14)])), ((a 2), .inl (ca 6, 40, .inr (.inr (.inr (.inr (rA nb (bA0 ba)))))))]) [0, 1] rfl
  refine pc_q (va_runV (As := [.int v1]) (rest := []) ⟨hx, hb, hml, hown, hts⟩ (k_findBatch l dC dI ca x a nl nb np nx ba v1 (by first | assumption | omega | exact ⟨_, by omega, rfl⟩)) (⟨callB_of 1 hts (gd mw_378) rfl rfl rfl (hts _ mw_1) (hts _ mw_375) ds_X10_findBatch ⟨Nat.le_of_ble_eq_true rfl, Nat.le_of_ble_eq_true rfl⟩, (hts _ mw_377), (hts _ mp_1)⟩) (pu_V hPc hK hE (va_recv hK hPc (ci := 10) (q0 := 0) rfl rfl)) rfl rfl hl.1 rfl (lv_room (Nat.le_of_ble_eq_true rfl)) dX10_findGood_2 ⟨Nat.le_of_ble_eq_true rfl, Nat.le_of_ble_eq_true rfl⟩) (fun rv_1 hw_ => ?_)
  have hw_1 := hw_
  refine lq_astore_n (lv' := [(2, va_rf rv_1), (0, .ref x), (1, .int v1)]) hx hb dX10_findGood_5 rfl hl (by decide) rfl (fun ls hl => ?_)
  refine lq_aload_n hx hb dX10_findGood_6 rfl (lv_at hl 0 rfl) ?_
  cases rv_1 with
  | none =>
    have hl : lv_has ls 3 [(2, .null), (0, .ref x), (1, .int v1)] := hl
    refine W.eq (g2 := F0 m 7 ls [.null]) rfl ?_
    refine lv_ifnullN (tgt := 21) hx hb dX10_findGood_7 (by decide) ?_
    refine lv_null hx hb dX10_findGood_21 ?_
    refine lv_goto (tgt := 26) hx hb dX10_findGood_22 (by decide) ?_
    exact W.aret (v := .null) hx hb hr (Or.inl ⟨_, rfl⟩) (Or.inl rfl) (fun t ht hW => ⟨none, rfl, (fng_no hw_1), ht⟩) (fun q h => absurd h List.not_mem_nil) dX10_findGood_26
  | some b2 =>
    have hl : lv_has ls 3 [(2, .ref b2), (0, .ref x), (1, .int v1)] := hl
    refine W.eq (g2 := F0 m 7 ls [.ref b2]) rfl ?_
    refine lv_ifnull hx hb dX10_findGood_7 ?_
    obtain ⟨j3, hj3, ev3, e9⟩ := fnd_some (by omega) hw_1
    have e9 : b2 = (ba j3 0) := e9
    subst e9
    have hl : lv_has ls 3 [(2, .ref (ba j3 0)), (0, .ref x), (1, .int v1)] := hl
    have hPr4 := bat_P hP (rg_in hj3)
    refine lv_aload_n hx hb dX10_findGood_10 rfl (lv_at hl 0 rfl) ?_
    refine lv_aload_n hx hb dX10_findGood_11 rfl (lv_at hl 1 rfl) ?_
    refine va_get (D := (dC, dI)) (ci := 10) (v := .ref (a 10)) (C := RX10) (T := TX10) (N := 15) hx hb hts inX10 hown hK hP 0 rfl rfl 10 (by decide) (hts _ mw_211) (fun _ h9 => h9) rfl dX10_findGood_12 ?_
    have hPc : va_P (dC, dI) vwCl [((ba j3 0), .inr (0, [.int ((bt j3).1 0), .ref (ba j3 1), .int ((bt j3).1 2), .int ((bt j3).1 3), .long ((bt j3).2.1), .int ((bt j3).1 5), .int ((bt j3).1 6), .int ((bt j3).1 7), .int ((bt j3).1 8), .int ((bt j3).1 9), .int ((bt j3).1 10), .int ((bt j3).1 11), .int ((bt j3).1 12), .int ((bt j3).1 13), .int ((bt j3).1 14), .int ((bt j3).1 15)])), ((a 10), .inr (8, [.ref f0, .ref f1, .int (nI rn), .int gl, .int gh, .ref f5, .ref f6])), (f5, .inl (ca 0, 6, .inl lw6)), (f6, .inl (ca 0, 6, .inl hi6))] s.heap := (va_P.app (va_P.sub (ws' := [((ba j3 0), .inr (0, [.int ((bt j3).1 0), .ref (ba j3 1), .int ((bt j3).1 2), .int ((bt j3).1 3), .long ((bt j3).2.1), .int ((bt j3).1 5), .int ((bt j3).1 6), .int ((bt j3).1 7), .int ((bt j3).1 8), .int ((bt j3).1 9), .int ((bt j3).1 10), .int ((bt j3).1 11), .int ((bt j3).1 12), .int ((bt j3).1 13), .int ((bt j3).1 14), .int ((bt j3).1 15)]))]) hPr4 [0] rfl) (va_P.sub (ws' := [((a 10), .inr (8, [.ref f0, .ref f1, .int (nI rn), .int gl, .int gh, .ref f5, .ref f6])), (f5, .inl (ca 0, 6, .inl lw6)), (f6, .inl (ca 0, 6, .inl hi6))]) hP [2, 3, 4] rfl))
    refine pc_i (va_runV (As := [.ref (a 10)]) (rest := []) ⟨hx, hb, hml, hown, hts⟩ (b_fault l dC dI ca (ba j3 0) ((bt j3).1 0) ((bt j3).1 2) ((bt j3).1 3) ((bt j3).2.1) ((bt j3).1 5) ((bt j3).1 6) ((bt j3).1 7) ((bt j3).1 8) ((bt j3).1 9) ((bt j3).1 10) ((bt j3).1 11) ((bt j3).1 12) ((bt j3).1 13) ((bt j3).1 14) ((bt j3).1 15) (ba j3 1) (a 10) f0 f1 f5 f6 rn gl gh lw6 hi6 (hq5 j3 hj3).1) (⟨callB_of 1 hts (gd mw_496) rfl rfl rfl (hts _ mw_10) (hts _ mw_493) ds_X0_fault ⟨Nat.le_of_ble_eq_true rfl, Nat.le_of_ble_eq_true rfl⟩, (hts _ mw_494), (hts _ mw_495)⟩) (pu_V hPc hK hE (va_recv hK hPc (ci := 0) (q0 := 0) rfl rfl)) rfl rfl hl.1 rfl (lv_room (Nat.le_of_ble_eq_true rfl)) dX10_findGood_15 ⟨Nat.le_of_ble_eq_true rfl, Nat.le_of_ble_eq_true rfl⟩) (fun rv_5 hw_ => ?_)
    obtain rfl : rv_5 = (flt ((bt j3).1 0) ((bt j3).1 5) ((bt j3).1 6) ((bt j3).1 8) ((bt j3).1 10) ((bt j3).1 11) lw6 hi6) := hw_
    refine lv_if_eq (tgt := 25) hx hb dX10_findGood_18 (by decide) (fun c_6 => ?_) (fun c_6 => ?_)
    · refine lv_aload_n hx hb dX10_findGood_25 rfl (lv_at hl 0 rfl) ?_
      exact W.aret (v := .ref (ba j3 0)) hx hb hr (Or.inl ⟨_, rfl⟩) (Or.inr ⟨_, rfl⟩) (fun t ht hW => ⟨(some (ba j3 0)), rfl, (by rw [fng_of (by omega) hj3 ev3, if_pos (show okG bt lw6 hi6 j3 = true from decide_eq_true c_6)] <;> rfl), ht⟩) (fun q h => absurd h List.not_mem_nil) dX10_findGood_26
    · refine lv_null hx hb dX10_findGood_21 ?_
      refine lv_goto (tgt := 26) hx hb dX10_findGood_22 (by decide) ?_
      exact W.aret (v := .null) hx hb hr (Or.inl ⟨_, rfl⟩) (Or.inl rfl) (fun t ht hW => ⟨none, rfl, (by rw [fng_of (by omega) hj3 ev3, if_neg (show ¬ okG bt lw6 hi6 j3 = true from fun h9 => c_6 (of_decide_eq_true h9))]), ht⟩) (fun q h => absurd h List.not_mem_nil) dX10_findGood_26

set_option maxHeartbeats 4000000 in
set_option maxRecDepth 100000 in
theorem k_findUnboxed (l : Launch) (dC : Nat → ClassId) (dI : Nat → Nat → Nat) (ca : Nat → ClassId) (x : Nat) (a : Nat → Nat) (nl : Nat) (la : Nat → Nat) (lo : Nat → Int32 × Int32) (nb : Nat) (ba : Nat → Nat → Nat) (bt : Nat → BatG) (np : Nat) (pa : Nat → Nat) (pc : Nat → PieG) (nx : Nat) (xa : Nat → Nat → Nat) (bx : Nat → BoxG) (v1 : Int32) (hQ : kI nl lo nb bt np pc nx bx) : Met l yX10_findUnboxed (Cond.code yX10_findUnboxed cX10_findUnboxed 3 (some (.object "SugarKitchen$Piece")) :: gT) ({ frames := 3, cells := 0, slots := 0, locals := 103 }) (va_Pc [.ref x, .int v1] (pu (dC, dI) (@HAppend.hAppend va_W va_W va_W _ [(x, .inr (10, [.ref (a 0), .int (nI nl), .ref (a 2), .int (nI nb), .ref (a 4), .int (nI np), .ref (a 6), .int (nI nx), .ref (a 8), .ref (a 9), .ref (a 10), .ref (a 11), .ref (a 12), .ref (a 13), .ref (a 14)])), ((a 4), .inl (ca 7, 600, .inr (.inr (.inr (.inr (rA np pa))))))] (pool ca (List.range nl) la lo (List.range nb) ba bt (List.range np) pa pc (List.range nx) xa bx)) (aT ca))) (va_Sq (fun r => r = fng np pa (okU pc) v1)) 0 0 (fun _ => False) := by
  refine Met.ofW (cc := cX10_findUnboxed) (maxL := 3) (ret := (some (.object "SugarKitchen$Piece"))) (by decide) rfl ?_
  intro p e s m args below meth c s₁ B hml hv
  obtain ⟨rfl, hP, hK, hE⟩ := hv
  have hx := B.exec
  have hb := B.bytes
  have hr := B.returns
  have hts : ∀ w ∈ gT, w.before _ s = true := fun w h => atoms_spec (ws := Cond.code yX10_findUnboxed cX10_findUnboxed 3 (some (.object "SugarKitchen$Piece")) :: gT) B.pre w (List.mem_cons_of_mem _ h)
  have hown : s.vm.findClass RX10 = some m.cls := findClass_of_methodNamed B.named
  have hlocks := B.notSynchronized
  have hl := lv_entry ([.ref x, .int v1]) (n := 3) (Nat.le_of_ble_eq_true rfl)
  rw [lg_entry_eq]
  generalize (lg_sl ([.ref x, .int v1]) ++ List.replicate (3 - (lg_sl ([.ref x, .int v1])).length) Slot.unset).toArray = ls at hl ⊢
  have hl : lv_has ls 3 [(0, .ref x), (1, .int v1)] := hl
  obtain ⟨hq1, hq2, hq3, hq4, hq5, hq6, hq7⟩ := id hQ
  refine lv_aload_n hx hb dX10_findUnboxed_0 rfl (lv_at hl 0 rfl) ?_
  refine lv_iload_n hx hb dX10_findUnboxed_1 rfl (lv_at hl 1 rfl) ?_
  have hPc := hP.sub (ws' := [(x, .inr (10, [.ref (a 0), .int (nI nl), .ref (a 2), .int (nI nb), .ref (a 4), .int (nI np), .ref (a 6), .int (nI nx), .ref (a 8), .ref (a 9), .ref (a 10), .ref (a 11), .ref (a 12), .ref (a 13), .ref (a 14)])), ((a 4), .inl (ca 7, 600, .inr (.inr (.inr (.inr (rA np pa))))))]) [0, 1] rfl
  refine pc_q (va_runV (As := [.int v1]) (rest := []) ⟨hx, hb, hml, hown, hts⟩ (k_findPiece l dC dI ca x a nl nb np nx pa v1 (by first | assumption | omega | exact ⟨_, by omega, rfl⟩)) (⟨callB_of 1 hts (gd mw_596) rfl rfl rfl (hts _ mw_1) (hts _ mw_593) ds_X10_findPiece ⟨Nat.le_of_ble_eq_true rfl, Nat.le_of_ble_eq_true rfl⟩, (hts _ mw_595), (hts _ mp_10)⟩) (pu_V hPc hK hE (va_recv hK hPc (ci := 10) (q0 := 0) rfl rfl)) rfl rfl hl.1 rfl (lv_room (Nat.le_of_ble_eq_true rfl)) dX10_findUnboxed_2 ⟨Nat.le_of_ble_eq_true rfl, Nat.le_of_ble_eq_true rfl⟩) (fun rv_1 hw_ => ?_)
  have hw_1 := hw_
  refine lq_astore_n (lv' := [(2, va_rf rv_1), (0, .ref x), (1, .int v1)]) hx hb dX10_findUnboxed_5 rfl hl (by decide) rfl (fun ls hl => ?_)
  refine lq_aload_n hx hb dX10_findUnboxed_6 rfl (lv_at hl 0 rfl) ?_
  cases rv_1 with
  | none =>
    have hl : lv_has ls 3 [(2, .null), (0, .ref x), (1, .int v1)] := hl
    refine W.eq (g2 := F0 m 7 ls [.null]) rfl ?_
    refine lv_ifnullN (tgt := 18) hx hb dX10_findUnboxed_7 (by decide) ?_
    refine lv_null hx hb dX10_findUnboxed_18 ?_
    refine lv_goto (tgt := 23) hx hb dX10_findUnboxed_19 (by decide) ?_
    exact W.aret (v := .null) hx hb hr (Or.inl ⟨_, rfl⟩) (Or.inl rfl) (fun t ht hW => ⟨none, rfl, (fng_no hw_1), ht⟩) (fun q h => absurd h List.not_mem_nil) dX10_findUnboxed_23
  | some b2 =>
    have hl : lv_has ls 3 [(2, .ref b2), (0, .ref x), (1, .int v1)] := hl
    refine W.eq (g2 := F0 m 7 ls [.ref b2]) rfl ?_
    refine lv_ifnull hx hb dX10_findUnboxed_7 ?_
    obtain ⟨j3, hj3, ev3, e9⟩ := fnd_some (by omega) hw_1
    have e9 : b2 = (pa j3) := e9
    subst e9
    have hl : lv_has ls 3 [(2, .ref (pa j3)), (0, .ref x), (1, .int v1)] := hl
    have hPr4 := pie_P hP (rg_in hj3)
    refine lv_aload_n hx hb dX10_findUnboxed_10 rfl (lv_at hl 0 rfl) ?_
    refine va_get (D := (dC, dI)) (ci := 6) (v := .int ((pc j3).1 7)) (C := RX6) (T := TX6) (N := 9) hx hb hts inX6 hown hK hPr4 0 rfl rfl 7 (by decide) (hts _ mw_563) (fun _ h9 => h9) rfl dX10_findUnboxed_11 ?_
    refine lv_iconst (v := 2) hx hb dX10_findUnboxed_14 (by decide) ?_
    refine lv_icmp_ne (tgt := 22) hx hb dX10_findUnboxed_15 (by decide) (fun c_5 => ?_) (fun c_5 => ?_)
    · refine lv_aload_n hx hb dX10_findUnboxed_22 rfl (lv_at hl 0 rfl) ?_
      exact W.aret (v := .ref (pa j3)) hx hb hr (Or.inl ⟨_, rfl⟩) (Or.inr ⟨_, rfl⟩) (fun t ht hW => ⟨(some (pa j3)), rfl, (by rw [fng_of (by omega) hj3 ev3, if_pos (show okU pc j3 = true from decide_eq_true c_5)] <;> rfl), ht⟩) (fun q h => absurd h List.not_mem_nil) dX10_findUnboxed_23
    · refine lv_null hx hb dX10_findUnboxed_18 ?_
      refine lv_goto (tgt := 23) hx hb dX10_findUnboxed_19 (by decide) ?_
      exact W.aret (v := .null) hx hb hr (Or.inl ⟨_, rfl⟩) (Or.inl rfl) (fun t ht hW => ⟨none, rfl, (by rw [fng_of (by omega) hj3 ev3, if_neg (show ¬ okU pc j3 = true from fun h9 => (of_decide_eq_true h9) c_5)]), ht⟩) (fun q h => absurd h List.not_mem_nil) dX10_findUnboxed_23

/-! ===== what both sides answer: lots, raw batches, the queue ===== -/
def lF (lo : Nat → Int32 × Int32) : Nat → Int32 := fun j => (lo j).1
def mx0 (v : Int32) : Int32 := if v < 0 then 0 else v
/-- a batch that is there and not cooked -/
def rawA (nb : Nat) (Cf : Nat → Int32) (v1 : Int32) : Bool := decide (¬ wi v1 0 (nI nb - 1) = 0 ∧ Cf v1.toNatClampNeg = 0)
def bU (b1 b2 : Nat → BatG) (j : Nat) (c m d s : Int32) : Prop := ∃ f : BatG, b2 = va_up b1 j f ∧ f.1 5 = c ∧ f.1 2 = m ∧ f.1 16 = d ∧ f.1 17 = s
def eqF (nb : Nat) (b1 b2 : Nat → BatG) : Prop := ∀ j, j < nb → (b2 j).1 5 = (b1 j).1 5 ∧ (b2 j).1 2 = (b1 j).1 2 ∧ (b2 j).1 16 = (b1 j).1 16 ∧ (b2 j).1 17 = (b1 j).1 17
def eqK (nb : Nat) (b1 b2 : Nat → BatG) : Prop := ∀ j, j < nb → (b2 j).1 5 = (b1 j).1 5 ∧ ((b1 j).1 5 = 0 → b2 j = b1 j)
theorem eqF_rf (nb : Nat) (b : Nat → BatG) : eqF nb b b := fun _ _ => ⟨rfl, rfl, rfl, rfl⟩
theorem eqF_up {nb : Nat} {bt : Nat → BatG} {j : Nat} {f : BatG} (h : f.1 5 = (bt j).1 5 ∧ f.1 2 = (bt j).1 2 ∧ f.1 16 = (bt j).1 16 ∧ f.1 17 = (bt j).1 17) : eqF nb bt (va_up bt j f) := fun q _ => by
  by_cases e : q = j
  · subst e; rw [va_up_self]; exact h
  · rw [va_up_ne bt f e]; exact ⟨rfl, rfl, rfl, rfl⟩
theorem eqF_B {nb : Nat} {b1 b2 : Nat → BatG} (h : eqB nb b1 b2) : eqF nb b1 b2 := fun j hj => ⟨(h j hj).2 5 (by decide) (by decide), (h j hj).2 2 (by decide) (by decide), (h j hj).2 16 (by decide) (by decide), (h j hj).2 17 (by decide) (by decide)⟩
theorem eqK_rf (nb : Nat) (b : Nat → BatG) : eqK nb b b := fun _ _ => ⟨rfl, fun _ => rfl⟩
theorem eqK_up {nb : Nat} {bt : Nat → BatG} {j : Nat} {f : BatG} (hb : ¬ (bt j).1 5 = 0) (hf : f.1 5 = (bt j).1 5) : eqK nb bt (va_up bt j f) := fun q _ => by
  by_cases e : q = j
  · subst e; rw [va_up_self]; exact ⟨hf, fun h => absurd h hb⟩
  · rw [va_up_ne bt f e]; exact ⟨rfl, fun _ => rfl⟩
theorem okG_c {bt : Nat → BatG} {lw6 hi6 : Nat → Int32} {j : Nat} (h : okG bt lw6 hi6 j = true) : ¬ (bt j).1 5 = 0 := fun h5 => by
  have h1 := of_decide_eq_true h
  unfold flt at h1
  rw [if_pos h5] at h1
  exact absurd h1 (by decide)
section RAW
variable {nb nl j q : Nat} {Cf Mf Lf Df : Nat → Int32} {v1 v2 v3 r : Int32} {f : Nat → Nat} {lo lo2 : Nat → Int32 × Int32} {bt bt2 : Nat → BatG}
theorem rawA_n (h : none = fnr nb f Cf v1) : rawA nb Cf v1 = false := by
  unfold fnr at h
  split at h
  · rename_i h1
    exact decide_eq_false (fun h9 => h9.1 h1)
  · split at h
    · cases h
    · rename_i h2
      exact decide_eq_false (fun h9 => h2 h9.2)
theorem rawA_y (hn : nb < 2 ^ 31) (hj : j < nb) (e : v1 = nI j) (hc : Cf j = 0) : rawA nb Cf v1 = true ∧ v1.toNatClampNeg = j := by
  subst e
  have e1 := nI_clamp (show j < 2 ^ 31 by omega)
  exact ⟨decide_eq_true ⟨by rw [wi_nI hn hj]; decide, by rw [e1]; exact hc⟩, e1⟩
theorem rawA_n2 (hj : j < 2 ^ 31) (hc : ¬ Cf j = 0) : rawA nb Cf (nI j) = false := decide_eq_false (fun h9 => by
  have h8 := h9.2
  rw [nI_clamp hj] at h8
  exact hc h8)
theorem rawA_n0 (h : wi v1 0 (nI nb - 1) = 0) : rawA nb Cf v1 = false := decide_eq_false (fun h9 => h9.1 h)
/-- put -/
def putC (nl nb : Nat) (Lf Cf : Nat → Int32) (v1 v2 v3 : Int32) : Bool := rawA nb Cf v1 && decide (¬ wi v2 0 (nI nl - 1) = 0 ∧ ¬ wi v3 1 (Lf v2.toNatClampNeg) = 0)
theorem putC_r (h : rawA nb Cf v1 = false) : putC nl nb Lf Cf v1 v2 v3 = false := by unfold putC; rw [h]; rfl
theorem putC_n1 (h : none = fnr nb f Cf v1) : putC nl nb Lf Cf v1 v2 v3 = false := putC_r (rawA_n h)
theorem putC_w (h : wi v2 0 (nI nl - 1) = 0) : putC nl nb Lf Cf v1 v2 v3 = false := by
  unfold putC
  rw [decide_eq_false (fun h9 => h9.1 h), Bool.and_false]
theorem putC_n2 (h : none = fnd nl f v2) : putC nl nb Lf Cf v1 v2 v3 = false := putC_w (fnd_none h)
theorem putC_n3 (hq : q < 2 ^ 31) (e : v2 = nI q) (h : wi v3 1 (Lf q) = 0) : putC nl nb Lf Cf v1 v2 v3 = false := by
  subst e
  unfold putC
  rw [nI_clamp hq, decide_eq_false (fun h9 => h9.2 h), Bool.and_false]
theorem putC_y (hn : nb < 2 ^ 31) (hj : j < nb) (e : v1 = nI j) (hc : Cf j = 0) (hl : nl < 2 ^ 31) (hq : q < nl) (e2 : v2 = nI q) (h3 : ¬ wi v3 1 (Lf q) = 0) : putC nl nb Lf Cf v1 v2 v3 = true ∧ v1.toNatClampNeg = j ∧ v2.toNatClampNeg = q := by
  obtain ⟨h1, h2⟩ := rawA_y hn hj e hc
  have e3 : v2.toNatClampNeg = q := by rw [e2]; exact nI_clamp (by omega)
  refine ⟨?_, h2, e3⟩
  unfold putC
  rw [h1, e3, decide_eq_true ⟨by rw [e2, wi_nI hl hq]; decide, h3⟩]
  rfl
def putS (nl : Nat) (lo : Nat → Int32 × Int32) (nb : Nat) (bt : Nat → BatG) (v1 v2 v3 r : Int32) (lo2 : Nat → Int32 × Int32) (bt2 : Nat → BatG) : Prop :=
  if putC nl nb (lF lo) (bF bt 5) v1 v2 v3 = true then r = bF bt 2 v1.toNatClampNeg + v3 ∧ lo2 = va_up lo v2.toNatClampNeg ((lo v2.toNatClampNeg).1 - v3, (lo v2.toNatClampNeg).2) ∧ bU bt bt2 v1.toNatClampNeg (bF bt 5 v1.toNatClampNeg) (bF bt 2 v1.toNatClampNeg + v3) (bF bt 16 v1.toNatClampNeg) (bF bt 17 v1.toNatClampNeg)
  else r = -1 ∧ lo2 = lo ∧ bt2 = bt
theorem putS_n (h : putC nl nb (lF lo) (bF bt 5) v1 v2 v3 = false) : putS nl lo nb bt v1 v2 v3 (-1) lo bt := by
  unfold putS
  rw [if_neg (by rw [h]; decide)]
  exact ⟨rfl, rfl, rfl⟩
theorem putS_y (h : putC nl nb (lF lo) (bF bt 5) v1 v2 v3 = true ∧ v1.toNatClampNeg = j ∧ v2.toNatClampNeg = q) (hs : r = bF bt 2 j + v3 ∧ lo2 = va_up lo q ((lo q).1 - v3, (lo q).2) ∧ bU bt bt2 j (bF bt 5 j) (bF bt 2 j + v3) (bF bt 16 j) (bF bt 17 j)) : putS nl lo nb bt v1 v2 v3 r lo2 bt2 := by
  obtain ⟨h1, h2, h3⟩ := h
  unfold putS
  rw [if_pos h1, h2, h3]
  exact hs
/-- row -/
def rowC (nb : Nat) (Cf : Nat → Int32) (v1 v2 v3 : Int32) : Bool := rawA nb Cf v1 && decide (¬ wi v3 (-1) 60 = 0 ∧ (v2 = 0 ∨ v2 = 1))
theorem rowC_r (h : rawA nb Cf v1 = false) : rowC nb Cf v1 v2 v3 = false := by unfold rowC; rw [h]; rfl
theorem rowC_n1 (h : none = fnr nb f Cf v1) : rowC nb Cf v1 v2 v3 = false := rowC_r (rawA_n h)
theorem rowC_n2 (h : wi v3 (-1) 60 = 0) : rowC nb Cf v1 v2 v3 = false := by
  unfold rowC
  rw [decide_eq_false (fun h9 => h9.1 h), Bool.and_false]
theorem rowC_n3 (h : ¬ v2 = 0) (h2 : ¬ v2 = 1) : rowC nb Cf v1 v2 v3 = false := by
  unfold rowC
  rw [decide_eq_false (fun h9 => h9.2.elim h h2), Bool.and_false]
theorem rowC_y (hn : nb < 2 ^ 31) (hj : j < nb) (e : v1 = nI j) (hc : Cf j = 0) (h3 : ¬ wi v3 (-1) 60 = 0) (h2 : v2 = 0 ∨ v2 = 1) : rowC nb Cf v1 v2 v3 = true ∧ v1.toNatClampNeg = j := by
  obtain ⟨h1, e1⟩ := rawA_y hn hj e hc
  refine ⟨?_, e1⟩
  unfold rowC
  rw [h1, decide_eq_true ⟨h3, h2⟩]
  rfl
def rowS (nb : Nat) (bt : Nat → BatG) (v1 v2 v3 r : Int32) (bt2 : Nat → BatG) : Prop :=
  if rowC nb (bF bt 5) v1 v2 v3 = true then r = 1 ∧ bU bt bt2 v1.toNatClampNeg (bF bt 5 v1.toNatClampNeg) (bF bt 2 v1.toNatClampNeg) (if v2 = 0 then mx0 v3 else bF bt 16 v1.toNatClampNeg) (if v2 = 0 then bF bt 17 v1.toNatClampNeg else mx0 v3)
  else r = 0 ∧ eqF nb bt bt2
theorem rowS_n (h : rowC nb (bF bt 5) v1 v2 v3 = false) (he : eqF nb bt bt2) : rowS nb bt v1 v2 v3 0 bt2 := by
  unfold rowS
  rw [if_neg (by rw [h]; decide)]
  exact ⟨rfl, he⟩
theorem rowS_0 (hn : nb < 2 ^ 31) (hj : j < nb) (e : v1 = nI j) (hc : bF bt 5 j = 0) (h3 : ¬ wi v3 (-1) 60 = 0) (h2 : v2 = 0) (hb : bU bt bt2 j (bF bt 5 j) (bF bt 2 j) (mx0 v3) (bF bt 17 j)) : rowS nb bt v1 v2 v3 1 bt2 := by
  obtain ⟨h1, e1⟩ := rowC_y (v2 := v2) hn hj e hc h3 (Or.inl h2)
  unfold rowS
  rw [if_pos h1, e1, if_pos h2, if_pos h2]
  exact ⟨rfl, hb⟩
theorem rowS_1 (hn : nb < 2 ^ 31) (hj : j < nb) (e : v1 = nI j) (hc : bF bt 5 j = 0) (h3 : ¬ wi v3 (-1) 60 = 0) (h2 : v2 = 1) (hb : bU bt bt2 j (bF bt 5 j) (bF bt 2 j) (bF bt 16 j) (mx0 v3)) : rowS nb bt v1 v2 v3 1 bt2 := by
  obtain ⟨h1, e1⟩ := rowC_y (v2 := v2) hn hj e hc h3 (Or.inr h2)
  have h0 : ¬ v2 = 0 := by rw [h2]; decide
  unfold rowS
  rw [if_pos h1, e1, if_neg h0, if_neg h0]
  exact ⟨rfl, hb⟩
/-- tick, stir -/
def tkS (nb : Nat) (Cf Df : Nat → Int32) (v1 v2 : Int32) : Int32 := if (rawA nb Cf v1 && decide (¬ wi v2 0 (Df v1.toNatClampNeg - 1) = 0)) = true then 1 else 0
theorem tkS_r (h : rawA nb Cf v1 = false) : 0 = tkS nb Cf Df v1 v2 := by
  unfold tkS
  rw [h, Bool.false_and, if_neg (by decide)]
theorem tkS_n1 (h : none = fnr nb f Cf v1) : 0 = tkS nb Cf Df v1 v2 := tkS_r (rawA_n h)
theorem tkS_n2 (hj : j < 2 ^ 31) (e : v1 = nI j) (h : wi v2 0 (Df j - 1) = 0) : 0 = tkS nb Cf Df v1 v2 := by
  subst e
  unfold tkS
  rw [nI_clamp hj, decide_eq_false (fun h9 => h9 h), Bool.and_false, if_neg (by decide)]
theorem tkS_y (hn : nb < 2 ^ 31) (hj : j < nb) (e : v1 = nI j) (hc : Cf j = 0) (h : ¬ wi v2 0 (Df j - 1) = 0) : 1 = tkS nb Cf Df v1 v2 := by
  obtain ⟨h1, e1⟩ := rawA_y hn hj e hc
  unfold tkS
  rw [h1, e1, decide_eq_true h, if_pos (by decide)]
/-- vouch, left -/
def vcS (nb : Nat) (Cf : Nat → Int32) (v1 : Int32) : Int32 := if ¬ wi v1 0 (nI nb - 1) = 0 ∧ ¬ Cf v1.toNatClampNeg = 0 then 1 else 0
theorem vcS_n1 (h : wi v1 0 (nI nb - 1) = 0) : 0 = vcS nb Cf v1 := by
  unfold vcS
  rw [if_neg (fun h9 => h9.1 h)]
theorem vcS_n2 (hj : j < 2 ^ 31) (e : v1 = nI j) (h : Cf j = 0) : 0 = vcS nb Cf v1 := by
  subst e
  unfold vcS
  rw [nI_clamp hj, if_neg (fun h9 => h9.2 h)]
theorem vcS_y (hn : nb < 2 ^ 31) (hj : j < nb) (e : v1 = nI j) (h : ¬ Cf j = 0) : 1 = vcS nb Cf v1 := by
  subst e
  unfold vcS
  rw [nI_clamp (by omega), if_pos ⟨by rw [wi_nI hn hj]; decide, h⟩]
def lfS (nl : Nat) (Lf : Nat → Int32) (v1 : Int32) : Int32 := if wi v1 0 (nI nl - 1) = 0 then -1 else Lf v1.toNatClampNeg
theorem lfS_n (h : wi v1 0 (nI nl - 1) = 0) : -1 = lfS nl Lf v1 := by
  unfold lfS
  rw [if_pos h]
theorem lfS_y (hn : nl < 2 ^ 31) (hq : q < nl) (e : v1 = nI q) : Lf q = lfS nl Lf v1 := by
  subst e
  unfold lfS
  rw [wi_nI hn hq, if_neg (by decide), nI_clamp (by omega)]
/-- cook: whether it is -/
def ckC (nb : Nat) (Cf Mf : Nat → Int32) (v1 v2 : Int32) : Bool := rawA nb Cf v1 && decide (¬ wi v2 1 60 = 0 ∧ ¬ Mf v1.toNatClampNeg = 0)
theorem ckC_r (h : rawA nb Cf v1 = false) : ckC nb Cf Mf v1 v2 = false := by unfold ckC; rw [h]; rfl
theorem ckC_n1 (h : none = fnr nb f Cf v1) : ckC nb Cf Mf v1 v2 = false := ckC_r (rawA_n h)
theorem ckC_n2 (h : wi v2 1 60 = 0) : ckC nb Cf Mf v1 v2 = false := by
  unfold ckC
  rw [decide_eq_false (fun h9 => h9.1 h), Bool.and_false]
theorem ckC_n3 (hj : j < 2 ^ 31) (e : v1 = nI j) (h : Mf j = 0) : ckC nb Cf Mf v1 v2 = false := by
  subst e
  unfold ckC
  rw [nI_clamp hj, decide_eq_false (fun h9 => h9.2 h), Bool.and_false]
theorem ckC_y (hn : nb < 2 ^ 31) (hj : j < nb) (e : v1 = nI j) (hc : Cf j = 0) (h2 : ¬ wi v2 1 60 = 0) (h3 : ¬ Mf j = 0) : ckC nb Cf Mf v1 v2 = true ∧ v1.toNatClampNeg = j := by
  obtain ⟨h1, e1⟩ := rawA_y hn hj e hc
  refine ⟨?_, e1⟩
  unfold ckC
  rw [h1, e1, decide_eq_true ⟨h2, h3⟩]
  rfl
def ckS (nb : Nat) (bt : Nat → BatG) (v1 v2 : Int32) (bt2 : Nat → BatG) : Prop := if ckC nb (bF bt 5) (bF bt 2) v1 v2 = true then ∃ f : BatG, bt2 = va_up bt v1.toNatClampNeg f ∧ f.1 5 = 1 else bt2 = bt
theorem ckS_n (h : ckC nb (bF bt 5) (bF bt 2) v1 v2 = false) : ckS nb bt v1 v2 bt := by
  unfold ckS
  rw [if_neg (by rw [h]; decide)]
theorem ckS_y (hn : nb < 2 ^ 31) (hj : j < nb) (e : v1 = nI j) (hc : bF bt 5 j = 0) (h2 : ¬ wi v2 1 60 = 0) (h3 : ¬ bF bt 2 j = 0) (hb : ∃ f : BatG, bt2 = va_up bt j f ∧ f.1 5 = 1) : ckS nb bt v1 v2 bt2 := by
  obtain ⟨h1, e1⟩ := ckC_y hn hj e hc h2 h3
  unfold ckS
  rw [if_pos h1, e1]
  exact hb
end RAW
/-- the queue: whether v stands among the first n -/
def inQ (qd : Nat → Int32) (v : Int32) : Nat → Bool
  | 0 => false
  | n + 1 => inQ qd v n || decide (qd n = v)
section QUE
variable {nb qm qm2 i j : Nat} {qd qd2 kd2 : Nat → Int32} {v r : Int32}
theorem inQ_n (h : inQ qd v i = false) (c : ¬ qd i = v) : inQ qd v (i + 1) = false := by
  show (inQ qd v i || decide (qd i = v)) = false
  rw [h, decide_eq_false c]; rfl
theorem inQ_d : ∀ {n : Nat}, i < n → qd i = v → inQ qd v n = true
  | 0, h, _ => absurd h (Nat.not_lt_zero _)
  | n + 1, h, c => by
    show (inQ qd v n || decide (qd n = v)) = true
    by_cases e : i = n
    · subst e; rw [decide_eq_true c, Bool.or_true]
    · rw [inQ_d (n := n) (by omega) c]; rfl
def adQ (qm : Nat) (qd : Nat → Int32) (v : Int32) : Int32 := if inQ qd v qm = true then -1 else if 10 ≤ qm then -1 else nI (qm + 1)
def spQ (nb qm : Nat) (qd : Nat → Int32) (v : Int32) : Int32 := if v = -1 then 0 else if wi v 0 (nI nb - 1) = 0 then -1 else adQ qm qd v
def qN (r : Int32) (qm : Nat) : Nat := if r = 0 then 0 else if r = -1 then qm else qm + 1
def qF (r : Int32) (qm : Nat) (qd : Nat → Int32) (v : Int32) : Nat → Int32 := if r = 0 ∨ r = -1 then qd else upd qd qm v
theorem nI_n0 {q : Nat} (h : q + 1 < 2 ^ 31) : ¬ nI (q + 1) = 0 := fun e => by
  have h1 := nI_toInt h
  rw [e] at h1
  have e0 : (0 : Int32).toInt = 0 := by decide
  omega
theorem nI_n1 {q : Nat} (h : q < 2 ^ 31) : ¬ nI q = -1 := fun e => by
  have h1 := nI_toInt h
  rw [e] at h1
  have e1 : (-1 : Int32).toInt = -1 := by decide
  omega
theorem adQ_d (hi : i < qm) (c : qd i = v) : -1 = adQ qm qd v := by
  unfold adQ
  rw [if_pos (inQ_d hi c)]
theorem adQ_f (h : 10 ≤ qm) : -1 = adQ qm qd v := by
  unfold adQ
  by_cases h0 : inQ qd v qm = true
  · rw [if_pos h0]
  · rw [if_neg h0, if_pos h]
theorem adQ_y (e : i = qm) (h : inQ qd v i = false) (h2 : qm < 10) : nI (qm + 1) = adQ qm qd v := by
  subst e
  unfold adQ
  rw [if_neg (by rw [h]; decide), if_neg (by omega)]
theorem qN_y (h : qm < 10) : qm + 1 = qN (nI (qm + 1)) qm := by
  unfold qN
  rw [if_neg (nI_n0 (by omega)), if_neg (nI_n1 (by omega))]
theorem qF_y (h : qm < 10) : upd qd qm v = qF (nI (qm + 1)) qm qd v := by
  unfold qF
  rw [if_neg (fun h9 => h9.elim (nI_n0 (by omega)) (nI_n1 (by omega)))]
theorem spQ_0 (h : v = -1) : 0 = spQ nb qm qd v := by
  unfold spQ
  rw [if_pos h]
theorem spQ_n (h : ¬ v = -1) (h2 : wi v 0 (nI nb - 1) = 0) : -1 = spQ nb qm qd v := by
  unfold spQ
  rw [if_neg h, if_pos h2]
theorem spQ_a (hn : nb < 2 ^ 31) (h : ¬ v = -1) (hj : j < nb) (e : v = nI j) : spQ nb qm qd v = adQ qm qd v := by
  unfold spQ
  rw [if_neg h, if_neg (by rw [e, wi_nI hn hj]; decide)]
theorem spQ_y {P : Prop} (hn : nb < 2 ^ 31) (h : ¬ v = -1) (hj : j < nb) (e : v = nI j) (hq : r = adQ qm qd v ∧ qm2 = qN r qm ∧ qd2 = qF r qm qd v ∧ P) : r = spQ nb qm qd v ∧ qm2 = qN r qm ∧ qd2 = qF r qm qd v ∧ P := by
  rw [spQ_a hn h hj e]
  exact hq
end QUE

/-! ===== what a batch keeps: its kind, whether a hand vouched, loss, missing, grained, its rows ===== -/
abbrev BX : Type := (Nat → Int32) × (Nat → Int32) × (Nat → Int32)
def xe (y z : BX) : Prop := y.1 0 = z.1 0 ∧ y.1 6 = z.1 6 ∧ y.1 8 = z.1 8 ∧ y.1 10 = z.1 10 ∧ y.1 11 = z.1 11 ∧ y.2 = z.2
def xB (g : BatG) : BX := (g.1, g.2.2)
def xU (b1 b2 : Nat → BatG) (j : Nat) (x : BX) (m : Int32) : Prop := ∃ f : BatG, b2 = va_up b1 j f ∧ xe (xB f) x ∧ f.1 2 = m
/-- each change, as a function -/
def xN (v : Int32) : BX := (fun k => if k = 0 then v else if k = 10 then -1 else if k = 11 then -1 else 0, fun _ => 0, fun _ => 0)
def xRow (v2 : Int32) (x : BX) : BX := if v2 = 0 then (x.1, flg x.2.1 0 60, x.2.2) else (x.1, x.2.1, flg x.2.2 0 60)
def xTk (v2 v3 : Int32) (x : BX) : BX := (x.1, upd x.2.1 v2.toNatClampNeg v3, x.2.2)
def xSt (v2 v3 : Int32) (x : BX) : BX := (x.1, x.2.1, upd x.2.2 v2.toNatClampNeg (vp_nar .boolean v3))
def xVo (x : BX) : BX := (upd x.1 6 1, x.2)
def xCk (l8 m10 g11 m : Int32) (x : BX) : BX := (upd (upd (upd (upd x.1 8 l8) 10 m10) 11 g11) 2 m, x.2)
def xMa (m : Int32) (x : BX) : BX := (upd x.1 2 m, x.2)
section XES
variable {x y z : BX} {v2 v3 l8 m10 g11 m : Int32}
theorem xe_rf (x : BX) : xe x x := ⟨rfl, rfl, rfl, rfl, rfl, rfl⟩
theorem xe_tr (h1 : xe x y) (h2 : xe y z) : xe x z := ⟨h1.1.trans h2.1, h1.2.1.trans h2.2.1, h1.2.2.1.trans h2.2.2.1, h1.2.2.2.1.trans h2.2.2.2.1, h1.2.2.2.2.1.trans h2.2.2.2.2.1, h1.2.2.2.2.2.trans h2.2.2.2.2.2⟩
theorem xe_Row (h : xe y z) : xe (xRow v2 y) (xRow v2 z) := by
  obtain ⟨h0, h6, h8, h10, h11, h2⟩ := h
  unfold xRow
  by_cases e : v2 = 0
  · rw [if_pos e, if_pos e]
    exact ⟨h0, h6, h8, h10, h11, by show (flg y.2.1 0 60, y.2.2) = (flg z.2.1 0 60, z.2.2); rw [h2]⟩
  · rw [if_neg e, if_neg e]
    exact ⟨h0, h6, h8, h10, h11, by show (y.2.1, flg y.2.2 0 60) = (z.2.1, flg z.2.2 0 60); rw [h2]⟩
theorem xe_Tk (h : xe y z) : xe (xTk v2 v3 y) (xTk v2 v3 z) := by
  obtain ⟨h0, h6, h8, h10, h11, h2⟩ := h
  exact ⟨h0, h6, h8, h10, h11, by show (upd y.2.1 v2.toNatClampNeg v3, y.2.2) = (upd z.2.1 v2.toNatClampNeg v3, z.2.2); rw [h2]⟩
theorem xe_St (h : xe y z) : xe (xSt v2 v3 y) (xSt v2 v3 z) := by
  obtain ⟨h0, h6, h8, h10, h11, h2⟩ := h
  exact ⟨h0, h6, h8, h10, h11, by show (y.2.1, upd y.2.2 v2.toNatClampNeg (vp_nar .boolean v3)) = (z.2.1, upd z.2.2 v2.toNatClampNeg (vp_nar .boolean v3)); rw [h2]⟩
theorem xe_Vo (h : xe y z) : xe (xVo y) (xVo z) := ⟨h.1, rfl, h.2.2.1, h.2.2.2.1, h.2.2.2.2.1, h.2.2.2.2.2⟩
theorem xe_Ck (h : xe y z) : xe (xCk l8 m10 g11 m y) (xCk l8 m10 g11 m z) := ⟨h.1, h.2.1, rfl, rfl, rfl, h.2.2.2.2.2⟩
theorem xe_Ma (h : xe y z) : xe (xMa m y) (xMa m z) := ⟨h.1, h.2.1, h.2.2.1, h.2.2.2.1, h.2.2.2.2.1, h.2.2.2.2.2⟩
end XES
/-- what stays as it is -/
def eqX (nb : Nat) (b1 b2 : Nat → BatG) : Prop := ∀ j, j < nb → xe (xB (b2 j)) (xB (b1 j)) ∧ (¬ (b1 j).1 5 = 0 → ¬ (b1 j).1 0 = 5 → (b2 j).1 2 = (b1 j).1 2)
theorem eqX_rf (nb : Nat) (b : Nat → BatG) : eqX nb b b := fun _ _ => ⟨xe_rf _, fun _ _ => rfl⟩
theorem eqX_up {nb : Nat} {bt : Nat → BatG} {j : Nat} {f : BatG} (h : xe (xB f) (xB (bt j))) (hm : ¬ (bt j).1 5 = 0 → ¬ (bt j).1 0 = 5 → f.1 2 = (bt j).1 2) : eqX nb bt (va_up bt j f) := fun q _ => by
  by_cases e : q = j
  · subst e; rw [va_up_self]; exact ⟨h, hm⟩
  · rw [va_up_ne bt f e]; exact ⟨xe_rf _, fun _ _ => rfl⟩
theorem eqX_B {nb : Nat} {b1 b2 : Nat → BatG} (h : eqB nb b1 b2) : eqX nb b1 b2 := fun j hj => by
  obtain ⟨h1, h2⟩ := h j hj
  exact ⟨⟨h2 0 (by decide) (by decide), h2 6 (by decide) (by decide), h2 8 (by decide) (by decide), h2 10 (by decide) (by decide), h2 11 (by decide) (by decide), by show (b2 j).2.2 = (b1 j).2.2; rw [h1]⟩, fun _ _ => h2 2 (by decide) (by decide)⟩
/-- one batch changed by F, its mass by G; or nothing -/
def xW (r r0 : Int32) (nb : Nat) (b1 b2 : Nat → BatG) (v1 : Int32) (F : BX → BX) (G : BatG → Int32) : Prop := if r = r0 then eqX nb b1 b2 else xU b1 b2 v1.toNatClampNeg (F (xB (b1 v1.toNatClampNeg))) (G (b1 v1.toNatClampNeg))
section XWS
variable {r r0 v1 : Int32} {nb j : Nat} {b1 b2 : Nat → BatG} {F : BX → BX} {G : BatG → Int32}
theorem xW_n (e : r = r0) (h : eqX nb b1 b2) : xW r r0 nb b1 b2 v1 F G := by unfold xW; rw [if_pos e]; exact h
theorem xW_y (e : ¬ r = r0) (ev : v1 = nI j) (hj : j < 2 ^ 31) (h : xU b1 b2 j (F (xB (b1 j))) (G (b1 j))) : xW r r0 nb b1 b2 v1 F G := by
  subst ev
  unfold xW
  rw [if_neg e, nI_clamp hj]
  exact h
end XWS
def gMa (g : BatG) : Int32 := g.1 2
/-- cooking, as functions of what a batch keeps -/
def ckL (tk dn : Nat) (FB fd lt : Nat → Int32) (rn : Nat) : Int32 := if ckT (nI dn) FB (min tk dn) = -1 then 0 else lsG fd lt (dgA (nI dn) FB (ckT (nI dn) FB (min tk dn))) rn 0 0
def ckN (tk dn : Nat) : Int32 := if dn < tk then nI dn else -1
def ckG (tk dn : Nat) (FB : Nat → Int32) (sv : Int32) (SB : Nat → Int32) (gl gh : Int32) : Int32 := if ckT (nI dn) FB (min tk dn) = -1 then -1 else fgG (yesF (nI dn) FB sv SB gl gh) (min tk dn - ((ckT (nI dn) FB (min tk dn)).toNatClampNeg + 1)) ((ckT (nI dn) FB (min tk dn)).toNatClampNeg + 1)
theorem ckOk_f {tk dn : Nat} {FB : Nat → Int32} {sv : Int32} {SB : Nat → Int32} {gl gh : Int32} {fd lt : Nat → Int32} {ls : Nat} {b8 b9 b10 b11 m10 t9 l8 g11 : Int32} (h : ckOk tk dn FB sv SB gl gh fd lt ls b8 b9 b10 b11 m10 t9 l8 g11) (h8 : b8 = 0) (h10 : b10 = -1) (h11 : b11 = -1) : m10 = ckN tk dn ∧ l8 = ckL tk dn FB fd lt ls ∧ g11 = ckG tk dn FB sv SB gl gh := by
  obtain ⟨h1, h2⟩ := h
  subst h8; subst h10; subst h11
  unfold ckN ckL ckG
  refine ⟨h1, ?_⟩
  by_cases e : ckT (nI dn) FB (min tk dn) = -1
  · rw [if_pos e] at h2
    rw [if_pos e, if_pos e]
    exact h2.2
  · rw [if_neg e] at h2
    rw [if_neg e, if_neg e]
    obtain ⟨e1, e2, e3⟩ := h2
    rw [e1] at e2
    exact ⟨e2, e3⟩
/-- what cook leaves -/
def ckX (nb : Nat) (bt : Nat → BatG) (v1 v2 gl gh : Int32) (fd lt : Nat → Int32) (rn : Nat) (r : Int32) (bt2 : Nat → BatG) : Prop := if ckC nb (bF bt 5) (bF bt 2) v1 v2 = true then ∃ (tk dn : Nat) (m10 t9 l8 g11 : Int32), v2 = nI tk ∧ tk ≤ 60 ∧ (bt v1.toNatClampNeg).1 16 = nI dn ∧ dn ≤ 60 ∧ ckOk tk dn (bt v1.toNatClampNeg).2.2.1 ((bt v1.toNatClampNeg).1 17) (bt v1.toNatClampNeg).2.2.2 gl gh fd lt rn ((bt v1.toNatClampNeg).1 8) ((bt v1.toNatClampNeg).1 9) ((bt v1.toNatClampNeg).1 10) ((bt v1.toNatClampNeg).1 11) m10 t9 l8 g11 ∧ xU bt bt2 v1.toNatClampNeg (xCk l8 m10 g11 ((bt v1.toNatClampNeg).1 2 - ckl ((bt v1.toNatClampNeg).1 2) l8) (xB (bt v1.toNatClampNeg))) ((bt v1.toNatClampNeg).1 2 - ckl ((bt v1.toNatClampNeg).1 2) l8) ∧ r = (bt v1.toNatClampNeg).1 2 - ckl ((bt v1.toNatClampNeg).1 2) l8 else r = -1 ∧ bt2 = bt
section CKX
variable {nb j tk dn rn : Nat} {bt bt2 : Nat → BatG} {v1 v2 gl gh r m10 t9 l8 g11 : Int32} {fd lt : Nat → Int32}
theorem ckX_n (h : ckC nb (bF bt 5) (bF bt 2) v1 v2 = false) : ckX nb bt v1 v2 gl gh fd lt rn (-1) bt := by
  unfold ckX
  rw [if_neg (by rw [h]; decide)]
  exact ⟨rfl, rfl⟩
theorem ckX_y (hn : nb < 2 ^ 31) (hj : j < nb) (e : v1 = nI j) (hc : bF bt 5 j = 0) (h2 : ¬ wi v2 1 60 = 0) (h3 : ¬ bF bt 2 j = 0) (e2 : v2 = nI tk) (htk : tk ≤ 60) (edn : (bt j).1 16 = nI dn) (hdn : dn ≤ 60) (hk : ckOk tk dn (bt j).2.2.1 ((bt j).1 17) (bt j).2.2.2 gl gh fd lt rn ((bt j).1 8) ((bt j).1 9) ((bt j).1 10) ((bt j).1 11) m10 t9 l8 g11) (hu : xU bt bt2 j (xCk l8 m10 g11 ((bt j).1 2 - ckl ((bt j).1 2) l8) (xB (bt j))) ((bt j).1 2 - ckl ((bt j).1 2) l8)) : ckX nb bt v1 v2 gl gh fd lt rn ((bt j).1 2 - ckl ((bt j).1 2) l8) bt2 := by
  obtain ⟨h1, e1⟩ := ckC_y hn hj e hc h2 h3
  unfold ckX
  rw [if_pos h1, e1]
  exact ⟨tk, dn, m10, t9, l8, g11, e2, htk, edn, hdn, hk, hu, rfl⟩
end CKX
/-- cutting -/
def cutS (m w : Int32) : Nat → Int32
  | 0 => m
  | k + 1 => cutS m w k - w
def cutG (w : Int32) : Nat → Int32 → Nat → Nat
  | 0, _, _ => 0
  | k + 1, m, n => if w ≤ m ∧ n < 600 then 1 + cutG w k (m - w) (n + 1) else 0
section CUT
variable {w m : Int32} {k n : Nat}
theorem cutG_y (h1 : w ≤ m) (h2 : n < 600) (hk : 0 < k) : cutG w k m n = 1 + cutG w (k - 1) (m - w) (n + 1) := by
  obtain ⟨q, rfl⟩ : ∃ q, k = q + 1 := ⟨k - 1, by omega⟩
  rw [cutG, if_pos ⟨h1, h2⟩, Nat.add_sub_cancel]
theorem cutG_n (h : ¬ (w ≤ m ∧ n < 600)) : cutG w k m n = 0 := by
  cases k with
  | zero => rfl
  | succ q => rw [cutG, if_neg h]
theorem cutG_0 (hk : k = 0) : cutG w k m n = 0 := by subst hk; rfl
end CUT
def cutI (w m : Int32) (cn np i np1 : Nat) (m1 : Int32) : Prop := np1 = np + i ∧ m1 = cutS m w i ∧ i + cutG w (cn - i) m1 np1 = cutG w cn m np
theorem cutI_0 {w m : Int32} {cn np : Nat} : cutI w m cn np 0 np m := ⟨rfl, rfl, by rw [Nat.sub_zero, Nat.zero_add]⟩
theorem cutI_s {w m m1 : Int32} {cn np i np1 : Nat} (h : cutI w m cn np i np1 m1) (hi : i < cn) (h1 : w ≤ m1) (h2 : np1 < 600) : cutI w m cn np (i + 1) (np1 + 1) (m1 - w) := by
  obtain ⟨e1, e2, e3⟩ := h
  refine ⟨by omega, by rw [e2]; rfl, ?_⟩
  rw [cutG_y h1 h2 (by omega), Nat.sub_sub] at e3
  omega
theorem cutI_e {w m m1 : Int32} {cn np i np1 : Nat} (h : cutI w m cn np i np1 m1) (he : cn - i = 0 ∨ ¬ (w ≤ m1 ∧ np1 < 600)) : i = cutG w cn m np ∧ np1 = np + cutG w cn m np ∧ m1 = cutS m w (cutG w cn m np) := by
  obtain ⟨e1, e2, e3⟩ := h
  have e4 : cutG w (cn - i) m1 np1 = 0 := he.elim cutG_0 cutG_n
  have e5 : i = cutG w cn m np := by omega
  rw [← e5]
  exact ⟨rfl, e1, e2⟩
/-- what cut leaves -/
def cutC (nb : Nat) (ok : Nat → Bool) (Kf : Nat → Int32) (v1 v2 v3 : Int32) : Bool := decide (¬ wi v1 0 (nI nb - 1) = 0) && (ok v1.toNatClampNeg && (decide (Kf v1.toNatClampNeg = 3 ∨ Kf v1.toNatClampNeg = 4) && decide (¬ wi v2 10 2000 = 0 ∧ ¬ wi v3 1 99 = 0)))
def cutX (nb np : Nat) (bt : Nat → BatG) (lw6 hi6 : Nat → Int32) (v1 v2 v3 r : Int32) (bt2 : Nat → BatG) (np2 : Nat) : Prop := if cutC nb (okG bt lw6 hi6) (bF bt 0) v1 v2 v3 = true then r = nI (cutG v2 v3.toNatClampNeg (bF bt 2 v1.toNatClampNeg) np) ∧ np2 = np + cutG v2 v3.toNatClampNeg (bF bt 2 v1.toNatClampNeg) np ∧ xU bt bt2 v1.toNatClampNeg (xMa (cutS (bF bt 2 v1.toNatClampNeg) v2 (cutG v2 v3.toNatClampNeg (bF bt 2 v1.toNatClampNeg) np)) (xB (bt v1.toNatClampNeg))) (cutS (bF bt 2 v1.toNatClampNeg) v2 (cutG v2 v3.toNatClampNeg (bF bt 2 v1.toNatClampNeg) np)) else r = -1 ∧ bt2 = bt ∧ np2 = np
section CUX
variable {nb np np2 j cn : Nat} {bt bt2 : Nat → BatG} {lw6 hi6 Kf : Nat → Int32} {v1 v2 v3 r : Int32} {ok : Nat → Bool} {f : Nat → Nat}
theorem cutC_n1 (h : none = fng nb f ok v1) : cutC nb ok Kf v1 v2 v3 = false := by
  unfold cutC
  unfold fng at h
  by_cases h0 : wi v1 0 (nI nb - 1) = 0
  · rw [decide_eq_false (fun h9 => h9 h0)]; rfl
  · rw [if_neg h0] at h
    cases h1 : ok v1.toNatClampNeg with
    | false => rw [Bool.false_and, Bool.and_false]
    | true => rw [h1, if_pos rfl] at h; cases h
theorem cutC_w1 (h0 : wi v1 0 (nI nb - 1) = 0) : cutC nb ok Kf v1 v2 v3 = false := by
  unfold cutC
  rw [decide_eq_false (fun h9 => h9 h0)]; rfl
theorem cutC_ok (hj : j < 2 ^ 31) (e : v1 = nI j) (h : ok j = false) : cutC nb ok Kf v1 v2 v3 = false := by
  subst e
  unfold cutC
  rw [nI_clamp hj, h, Bool.false_and, Bool.and_false]
theorem cutC_n2 (hj : j < 2 ^ 31) (e : v1 = nI j) (h : ¬ (Kf j = 3 ∨ Kf j = 4)) : cutC nb ok Kf v1 v2 v3 = false := by
  subst e
  unfold cutC
  rw [nI_clamp hj, decide_eq_false h, Bool.false_and, Bool.and_false, Bool.and_false]
theorem cutC_n3 (h : wi v2 10 2000 = 0) : cutC nb ok Kf v1 v2 v3 = false := by
  unfold cutC
  rw [decide_eq_false (p := ¬ wi v2 10 2000 = 0 ∧ ¬ wi v3 1 99 = 0) (fun h9 => h9.1 h), Bool.and_false, Bool.and_false, Bool.and_false]
theorem cutC_n4 (h : wi v3 1 99 = 0) : cutC nb ok Kf v1 v2 v3 = false := by
  unfold cutC
  rw [decide_eq_false (p := ¬ wi v2 10 2000 = 0 ∧ ¬ wi v3 1 99 = 0) (fun h9 => h9.2 h), Bool.and_false, Bool.and_false, Bool.and_false]
theorem cutC_y (hn : nb < 2 ^ 31) (hj : j < nb) (e : v1 = nI j) (ho : ok j = true) (hk : Kf j = 3 ∨ Kf j = 4) (h2 : ¬ wi v2 10 2000 = 0) (h3 : ¬ wi v3 1 99 = 0) : cutC nb ok Kf v1 v2 v3 = true ∧ v1.toNatClampNeg = j := by
  subst e
  have e1 := nI_clamp (show j < 2 ^ 31 by omega)
  refine ⟨?_, e1⟩
  unfold cutC
  rw [e1, ho, decide_eq_true hk, decide_eq_true (show ¬ wi v2 10 2000 = 0 ∧ ¬ wi v3 1 99 = 0 from ⟨h2, h3⟩), decide_eq_true (show ¬ wi (nI j) 0 (nI nb - 1) = 0 by rw [wi_nI hn hj]; decide)]
  rfl
theorem cutX_n (h : cutC nb (okG bt lw6 hi6) (bF bt 0) v1 v2 v3 = false) : cutX nb np bt lw6 hi6 v1 v2 v3 (-1) bt np := by
  unfold cutX
  rw [if_neg (by rw [h]; decide)]
  exact ⟨rfl, rfl, rfl⟩
theorem cutX_y {i : Nat} {m1 : Int32} (h : cutC nb (okG bt lw6 hi6) (bF bt 0) v1 v2 v3 = true ∧ v1.toNatClampNeg = j) (e3 : v3.toNatClampNeg = cn) (he : i = cutG v2 cn (bF bt 2 j) np ∧ np2 = np + cutG v2 cn (bF bt 2 j) np ∧ m1 = cutS (bF bt 2 j) v2 (cutG v2 cn (bF bt 2 j) np)) (hu : xU bt bt2 j (xMa m1 (xB (bt j))) m1) : cutX nb np bt lw6 hi6 v1 v2 v3 (nI i) bt2 np2 := by
  obtain ⟨h1, h2⟩ := h
  obtain ⟨g1, g2, g3⟩ := he
  unfold cutX
  rw [if_pos h1, h2, e3, ← g3, ← g1]
  exact ⟨rfl, by rw [g1]; exact g2, hu⟩
end CUX
theorem isC_34 {v : Int32} : ¬ isC v = 0 ↔ v = 3 ∨ v = 4 := by
  unfold isC
  by_cases h3 : v = 3
  · simp [h3]
  · by_cases h4 : v = 4
    · simp [h4]
    · simp [h3, h4]
/-- why -/
def whS (nb : Nat) (bt : Nat → BatG) (lw6 hi6 : Nat → Int32) (v1 : Int32) : Int32 := if wi v1 0 (nI nb - 1) = 0 then -1 else flt ((bt v1.toNatClampNeg).1 0) ((bt v1.toNatClampNeg).1 5) ((bt v1.toNatClampNeg).1 6) ((bt v1.toNatClampNeg).1 8) ((bt v1.toNatClampNeg).1 10) ((bt v1.toNatClampNeg).1 11) lw6 hi6
theorem whS_n {nb : Nat} {bt : Nat → BatG} {lw6 hi6 : Nat → Int32} {v1 : Int32} (h : wi v1 0 (nI nb - 1) = 0) : -1 = whS nb bt lw6 hi6 v1 := by
  unfold whS
  rw [if_pos h]
theorem whS_y {nb j : Nat} {bt : Nat → BatG} {lw6 hi6 : Nat → Int32} {v1 : Int32} (hn : nb < 2 ^ 31) (hj : j < nb) (e : v1 = nI j) : flt ((bt j).1 0) ((bt j).1 5) ((bt j).1 6) ((bt j).1 8) ((bt j).1 10) ((bt j).1 11) lw6 hi6 = whS nb bt lw6 hi6 v1 := by
  subst e
  unfold whS
  rw [wi_nI hn hj, if_neg (by decide), nI_clamp (by omega)]

def spL (nl : Nat) (v1 v2 : Int32) : Int32 := if wi v1 0 1000000 = 0 then -1 else if wi v2 0 255 = 0 then -1 else if 40 ≤ nl then -1 else nI nl
def spB (nb : Nat) (v1 : Int32) : Int32 := if wi v1 0 5 = 0 then -1 else if 40 ≤ nb then -1 else nI nb

set_option maxHeartbeats 4000000 in
set_option maxRecDepth 100000 in
theorem k_lot (l : Launch) (dC : Nat → ClassId) (dI : Nat → Nat → Nat) (ca : Nat → ClassId) (sz : Nat) (x : Nat) (a : Nat → Nat) (nl : Nat) (la : Nat → Nat) (lo : Nat → Int32 × Int32) (nb : Nat) (ba : Nat → Nat → Nat) (bt : Nat → BatG) (np : Nat) (pa : Nat → Nat) (pc : Nat → PieG) (nx : Nat) (xa : Nat → Nat → Nat) (bx : Nat → BoxG) (v1 : Int32) (v2 : Int32) (hQ : kI nl lo nb bt np pc nx bx) : Met l yX10_lot (Cond.code yX10_lot cX10_lot 3 (some .int) :: gT) ({ frames := 2, cells := 1, slots := 2, locals := 82 }) (va_Pc [.ref x, .int v1, .int v2] (pr (dC, dI) sz (@HAppend.hAppend va_W va_W va_W _ [(x, .inr (10, [.ref (a 0), .int (nI nl), .ref (a 2), .int (nI nb), .ref (a 4), .int (nI np), .ref (a 6), .int (nI nx), .ref (a 8), .ref (a 9), .ref (a 10), .ref (a 11), .ref (a 12), .ref (a 13), .ref (a 14)])), ((a 0), .inl (ca 5, 40, .inr (.inr (.inr (.inr (rA nl la))))))] (pool ca (List.range nl) la lo (List.range nb) ba bt (List.range np) pa pc (List.range nx) xa bx)) (aT ca))) (va_Qi (fun (r : Int32) (u_ : Nat × (Nat → Nat) × (Nat → Int32 × Int32)) => r = spL nl v1 v2 ∧ u_.1 = (if r = -1 then nl else nl + 1) ∧ u_.2.2 = (if r = -1 then lo else va_up lo nl (v1, v2)) ∧ kI u_.1 u_.2.2 nb bt np pc nx bx) (fun (u_ : Nat × (Nat → Nat) × (Nat → Int32 × Int32)) t => va_P (dC, dI) vwCl (@HAppend.hAppend va_W va_W va_W _ [(x, .inr (10, [.ref (a 0), .int (nI u_.1), .ref (a 2), .int (nI nb), .ref (a 4), .int (nI np), .ref (a 6), .int (nI nx), .ref (a 8), .ref (a 9), .ref (a 10), .ref (a 11), .ref (a 12), .ref (a 13), .ref (a 14)])), ((a 0), .inl (ca 5, 40, .inr (.inr (.inr (.inr (rA u_.1 u_.2.1))))))] (pool ca (List.range u_.1) u_.2.1 u_.2.2 (List.range nb) ba bt (List.range np) pa pc (List.range nx) xa bx)) t.heap ∧ va_D (va_A (@HAppend.hAppend va_W va_W va_W _ [(x, .inr (10, [.ref (a 0), .int (nI nl), .ref (a 2), .int (nI nb), .ref (a 4), .int (nI np), .ref (a 6), .int (nI nx), .ref (a 8), .ref (a 9), .ref (a 10), .ref (a 11), .ref (a 12), .ref (a 13), .ref (a 14)])), ((a 0), .inl (ca 5, 40, .inr (.inr (.inr (.inr (rA nl la))))))] (pool ca (List.range nl) la lo (List.range nb) ba bt (List.range np) pa pc (List.range nx) xa bx)) sz) (@HAppend.hAppend va_W va_W va_W _ [(x, .inr (10, [.ref (a 0), .int (nI u_.1), .ref (a 2), .int (nI nb), .ref (a 4), .int (nI np), .ref (a 6), .int (nI nx), .ref (a 8), .ref (a 9), .ref (a 10), .ref (a 11), .ref (a 12), .ref (a 13), .ref (a 14)])), ((a 0), .inl (ca 5, 40, .inr (.inr (.inr (.inr (rA u_.1 u_.2.1))))))] (pool ca (List.range u_.1) u_.2.1 u_.2.2 (List.range nb) ba bt (List.range np) pa pc (List.range nx) xa bx))) (va_A (@HAppend.hAppend va_W va_W va_W _ [(x, .inr (10, [.ref (a 0), .int (nI nl), .ref (a 2), .int (nI nb), .ref (a 4), .int (nI np), .ref (a 6), .int (nI nx), .ref (a 8), .ref (a 9), .ref (a 10), .ref (a 11), .ref (a 12), .ref (a 13), .ref (a 14)])), ((a 0), .inl (ca 5, 40, .inr (.inr (.inr (.inr (rA nl la))))))] (pool ca (List.range nl) la lo (List.range nb) ba bt (List.range np) pa pc (List.range nx) xa bx)) sz)) 1 2 (va_A (@HAppend.hAppend va_W va_W va_W _ [(x, .inr (10, [.ref (a 0), .int (nI nl), .ref (a 2), .int (nI nb), .ref (a 4), .int (nI np), .ref (a 6), .int (nI nx), .ref (a 8), .ref (a 9), .ref (a 10), .ref (a 11), .ref (a 12), .ref (a 13), .ref (a 14)])), ((a 0), .inl (ca 5, 40, .inr (.inr (.inr (.inr (rA nl la))))))] (pool ca (List.range nl) la lo (List.range nb) ba bt (List.range np) pa pc (List.range nx) xa bx)) sz) := by
  refine Met.ofW (cc := cX10_lot) (maxL := 3) (ret := (some .int)) (by decide) rfl ?_
  intro p e s m args below meth c s₁ B hml hv
  obtain ⟨rfl, hsz, hP, hK, hD0, hE⟩ := hv
  have hx := B.exec
  have hb := B.bytes
  have hr := B.returns
  have hts : ∀ w ∈ gT, w.before _ s = true := fun w h => atoms_spec (ws := Cond.code yX10_lot cX10_lot 3 (some .int) :: gT) B.pre w (List.mem_cons_of_mem _ h)
  have hown : s.vm.findClass RX10 = some m.cls := findClass_of_methodNamed B.named
  have hlocks := B.notSynchronized
  subst hsz
  have hD := hD0.self (sz := s.heap.size)
  generalize hAe : va_A ([(x, .inr (10, [.ref (a 0), .int (nI nl), .ref (a 2), .int (nI nb), .ref (a 4), .int (nI np), .ref (a 6), .int (nI nx), .ref (a 8), .ref (a 9), .ref (a 10), .ref (a 11), .ref (a 12), .ref (a 13), .ref (a 14)])), ((a 0), .inl (ca 5, 40, .inr (.inr (.inr (.inr (rA nl la))))))] ++ (pool ca (List.range nl) la lo (List.range nb) ba bt (List.range np) pa pc (List.range nx) xa bx)) s.heap.size = A at hD ⊢
  have hA : ∀ q : Nat, s.heap.size ≤ q → A q := fun q h => by rw [← hAe]; exact Or.inr h
  have hS : va_S A s.heap s.heap [] := va_S.rf
  have hl := lv_entry ([.ref x, .int v1, .int v2]) (n := 3) (Nat.le_of_ble_eq_true rfl)
  rw [lg_entry_eq]
  generalize (lg_sl ([.ref x, .int v1, .int v2]) ++ List.replicate (3 - (lg_sl ([.ref x, .int v1, .int v2])).length) Slot.unset).toArray = ls at hl ⊢
  have hl : lv_has ls 3 [(0, .ref x), (1, .int v1), (2, .int v2)] := hl
  obtain ⟨hq1, hq2, hq3, hq4, hq5, hq6, hq7⟩ := id hQ
  refine lv_iload_n hx hb dX10_lot_0 rfl (lv_at hl 1 rfl) ?_
  refine lv_iconst (v := 0) hx hb dX10_lot_1 (by decide) ?_
  refine lv_ldc (v := 1000000) hx hb hown (hts _ mw_251) dX10_lot_2 ?_
  have hPc := hP.sub (ws' := []) [] rfl
  refine pc_i (va_runS (As := [.int v1, .int 0, .int 1000000]) (rest := []) ⟨hx, hb, hml, hown, hts⟩ (c_within l dC dI ca v1 0 1000000 ) (⟨callB_of 3 hts (gd mw_254) rfl rfl rfl (hts _ mw_1) (hts _ mw_252) ds_X10_within ⟨Nat.le_of_ble_eq_true rfl, Nat.le_of_ble_eq_true rfl⟩, (hts _ mw_253)⟩) (pu_S hPc hK hE) rfl rfl hl.1 rfl (lv_room (Nat.le_of_ble_eq_true rfl)) dX10_lot_4 ⟨Nat.le_of_ble_eq_true rfl, Nat.le_of_ble_eq_true rfl⟩) (fun rv_1 hw_ => ?_)
  obtain rfl : rv_1 = (wi v1 0 1000000) := hw_
  refine lv_if_eq (tgt := 30) hx hb dX10_lot_7 (by decide) (fun c_2 => ?_) (fun c_2 => ?_)
  · refine lv_iconst (v := (-1)) hx hb dX10_lot_30 (by decide) ?_
    refine W.widen (k := 1) (n := 2) (Nat.le_of_ble_eq_true rfl) (Nat.le_of_ble_eq_true rfl) ?_
    have hP9 : va_P (dC, dI) vwCl (@HAppend.hAppend va_W va_W va_W _ [(x, .inr (10, [.ref (a 0), .int (nI nl), .ref (a 2), .int (nI nb), .ref (a 4), .int (nI np), .ref (a 6), .int (nI nx), .ref (a 8), .ref (a 9), .ref (a 10), .ref (a 11), .ref (a 12), .ref (a 13), .ref (a 14)])), ((a 0), .inl (ca 5, 40, .inr (.inr (.inr (.inr (rA nl la))))))] (pool ca (List.range nl) la lo (List.range nb) ba bt (List.range np) pa pc (List.range nx) xa bx)) s.heap := va_P.part (X := [(x, .inr (10, [.ref (a 0), .int (nI nl), .ref (a 2), .int (nI nb), .ref (a 4), .int (nI np), .ref (a 6), .int (nI nx), .ref (a 8), .ref (a 9), .ref (a 10), .ref (a 11), .ref (a 12), .ref (a 13), .ref (a 14)])), ((a 0), .inl (ca 5, 40, .inr (.inr (.inr (.inr (rA nl la))))))]) hP [0, 1] rfl
    have hD9 : va_D A (@HAppend.hAppend va_W va_W va_W _ [(x, .inr (10, [.ref (a 0), .int (nI nl), .ref (a 2), .int (nI nb), .ref (a 4), .int (nI np), .ref (a 6), .int (nI nx), .ref (a 8), .ref (a 9), .ref (a 10), .ref (a 11), .ref (a 12), .ref (a 13), .ref (a 14)])), ((a 0), .inl (ca 5, 40, .inr (.inr (.inr (.inr (rA nl la))))))] (pool ca (List.range nl) la lo (List.range nb) ba bt (List.range np) pa pc (List.range nx) xa bx)) := va_D.part (X := [(x, .inr (10, [.ref (a 0), .int (nI nl), .ref (a 2), .int (nI nb), .ref (a 4), .int (nI np), .ref (a 6), .int (nI nx), .ref (a 8), .ref (a 9), .ref (a 10), .ref (a 11), .ref (a 12), .ref (a 13), .ref (a 14)])), ((a 0), .inl (ca 5, 40, .inr (.inr (.inr (.inr (rA nl la))))))]) hD [0, 1] (by decide) rfl
    exact W.iret (v := (-1)) hx hb hr (fun t ht hW => ⟨⟨(-1), (nl, la, lo), rfl, ⟨by unfold spL; simp [c_2], rfl, rfl, hQ⟩, by rw [ht]; dsimp only; exact hP9, by dsimp only; exact hD9⟩, hS.F ht⟩) hS.2.2 dX10_lot_31
  · refine lv_iload_n hx hb dX10_lot_10 rfl (lv_at hl 2 rfl) ?_
    refine lv_iconst (v := 0) hx hb dX10_lot_11 (by decide) ?_
    refine lv_sipush (v := 255) hx hb dX10_lot_12 (by decide) ?_
    have hPc := hP.sub (ws' := []) [] rfl
    refine pc_i (va_runS (As := [.int v2, .int 0, .int 255]) (rest := []) ⟨hx, hb, hml, hown, hts⟩ (c_within l dC dI ca v2 0 255 ) (⟨callB_of 3 hts (gd mw_254) rfl rfl rfl (hts _ mw_1) (hts _ mw_252) ds_X10_within ⟨Nat.le_of_ble_eq_true rfl, Nat.le_of_ble_eq_true rfl⟩, (hts _ mw_253)⟩) (pu_S hPc hK hE) rfl rfl hl.1 rfl (lv_room (Nat.le_of_ble_eq_true rfl)) dX10_lot_15 ⟨Nat.le_of_ble_eq_true rfl, Nat.le_of_ble_eq_true rfl⟩) (fun rv_3 hw_ => ?_)
    obtain rfl : rv_3 = (wi v2 0 255) := hw_
    refine lv_if_eq (tgt := 30) hx hb dX10_lot_18 (by decide) (fun c_4 => ?_) (fun c_4 => ?_)
    · refine lv_iconst (v := (-1)) hx hb dX10_lot_30 (by decide) ?_
      refine W.widen (k := 1) (n := 2) (Nat.le_of_ble_eq_true rfl) (Nat.le_of_ble_eq_true rfl) ?_
      have hP9 : va_P (dC, dI) vwCl (@HAppend.hAppend va_W va_W va_W _ [(x, .inr (10, [.ref (a 0), .int (nI nl), .ref (a 2), .int (nI nb), .ref (a 4), .int (nI np), .ref (a 6), .int (nI nx), .ref (a 8), .ref (a 9), .ref (a 10), .ref (a 11), .ref (a 12), .ref (a 13), .ref (a 14)])), ((a 0), .inl (ca 5, 40, .inr (.inr (.inr (.inr (rA nl la))))))] (pool ca (List.range nl) la lo (List.range nb) ba bt (List.range np) pa pc (List.range nx) xa bx)) s.heap := va_P.part (X := [(x, .inr (10, [.ref (a 0), .int (nI nl), .ref (a 2), .int (nI nb), .ref (a 4), .int (nI np), .ref (a 6), .int (nI nx), .ref (a 8), .ref (a 9), .ref (a 10), .ref (a 11), .ref (a 12), .ref (a 13), .ref (a 14)])), ((a 0), .inl (ca 5, 40, .inr (.inr (.inr (.inr (rA nl la))))))]) hP [0, 1] rfl
      have hD9 : va_D A (@HAppend.hAppend va_W va_W va_W _ [(x, .inr (10, [.ref (a 0), .int (nI nl), .ref (a 2), .int (nI nb), .ref (a 4), .int (nI np), .ref (a 6), .int (nI nx), .ref (a 8), .ref (a 9), .ref (a 10), .ref (a 11), .ref (a 12), .ref (a 13), .ref (a 14)])), ((a 0), .inl (ca 5, 40, .inr (.inr (.inr (.inr (rA nl la))))))] (pool ca (List.range nl) la lo (List.range nb) ba bt (List.range np) pa pc (List.range nx) xa bx)) := va_D.part (X := [(x, .inr (10, [.ref (a 0), .int (nI nl), .ref (a 2), .int (nI nb), .ref (a 4), .int (nI np), .ref (a 6), .int (nI nx), .ref (a 8), .ref (a 9), .ref (a 10), .ref (a 11), .ref (a 12), .ref (a 13), .ref (a 14)])), ((a 0), .inl (ca 5, 40, .inr (.inr (.inr (.inr (rA nl la))))))]) hD [0, 1] (by decide) rfl
      exact W.iret (v := (-1)) hx hb hr (fun t ht hW => ⟨⟨(-1), (nl, la, lo), rfl, ⟨by unfold spL; simp [c_2, c_4], rfl, rfl, hQ⟩, by rw [ht]; dsimp only; exact hP9, by dsimp only; exact hD9⟩, hS.F ht⟩) hS.2.2 dX10_lot_31
    · refine lv_aload_n hx hb dX10_lot_21 rfl (lv_at hl 0 rfl) ?_
      refine va_get (D := (dC, dI)) (ci := 10) (v := .int (nI nl)) (C := RX10) (T := TX10) (N := 15) hx hb hts inX10 hown hK hP 0 rfl rfl 1 (by decide) (hts _ mw_202) (fun _ h9 => h9) rfl dX10_lot_22 ?_
      refine lv_bipush (v := 40) hx hb dX10_lot_25 (by decide) ?_
      refine lv_icmp_lt (tgt := 32) hx hb dX10_lot_27 (by decide) (fun c_5 => ?_) (fun c_5 => ?_)
      · have nc_5 : nl < 40 := (nI_ltI (a := nl) (b := 40) (by omega) (by omega)).mp c_5
        refine lv_aload_n hx hb dX10_lot_32 rfl (lv_at hl 0 rfl) ?_
        refine va_get (D := (dC, dI)) (ci := 10) (v := .ref (a 0)) (C := RX10) (T := TX10) (N := 15) hx hb hts inX10 hown hK hP 0 rfl rfl 0 (by decide) (hts _ mw_201) (fun _ h9 => h9) rfl dX10_lot_33 ?_
        refine lv_aload_n hx hb dX10_lot_36 rfl (lv_at hl 0 rfl) ?_
        refine va_get (D := (dC, dI)) (ci := 10) (v := .int (nI nl)) (C := RX10) (T := TX10) (N := 15) hx hb hts inX10 hown hK hP 0 rfl rfl 1 (by decide) (hts _ mw_202) (fun _ h9 => h9) rfl dX10_lot_37 ?_
        refine va_new (ci := 4) (fs := [.int 0, .int 0]) (C := RX4) (T := TX4) (N := 2) hx hb hts inX4 tyX4 tyX4_ok hown (hts _ mw_26) (hts _ mw_255) (hts _ mw_9) hK hP hD hS hA rfl dfX4 (Nat.le_of_ble_eq_true rfl) (Nat.le_of_ble_eq_true rfl) dX10_lot_40 (fun q6 H hP hD hS => ?_)
        have hP := va_P.swap (a := [(x, .inr (10, [.ref (a 0), .int (nI nl), .ref (a 2), .int (nI nb), .ref (a 4), .int (nI np), .ref (a 6), .int (nI nx), .ref (a 8), .ref (a 9), .ref (a 10), .ref (a 11), .ref (a 12), .ref (a 13), .ref (a 14)])), ((a 0), .inl (ca 5, 40, .inr (.inr (.inr (.inr (rA nl la))))))]) hP
        have hD := va_D.swap (a := [(x, .inr (10, [.ref (a 0), .int (nI nl), .ref (a 2), .int (nI nb), .ref (a 4), .int (nI np), .ref (a 6), .int (nI nx), .ref (a 8), .ref (a 9), .ref (a 10), .ref (a 11), .ref (a 12), .ref (a 13), .ref (a 14)])), ((a 0), .inl (ca 5, 40, .inr (.inr (.inr (.inr (rA nl la))))))]) hD
        refine W.widen (k := 1) (n := 2) (Nat.le_of_ble_eq_true rfl) (Nat.le_of_ble_eq_true rfl) ?_
        obtain ⟨hP, hD⟩ := va_bo ([(x, .inr (10, [.ref (a 0), .int (nI nl), .ref (a 2), .int (nI nb), .ref (a 4), .int (nI np), .ref (a 6), .int (nI nx), .ref (a 8), .ref (a 9), .ref (a 10), .ref (a 11), .ref (a 12), .ref (a 13), .ref (a 14)])), ((a 0), .inl (ca 5, 40, .inr (.inr (.inr (.inr (rA nl la)))))), (q6, .inr (4, [.int 0, .int 0]))] ++ (pool ca (List.range nl) la lo (List.range nb) ba bt (List.range np) pa pc (List.range nx) xa bx)) hP hD
        refine lv_dup hx hb dX10_lot_43 rfl ?_
        refine lv_iload_n hx hb dX10_lot_44 rfl (lv_at hl 1 rfl) ?_
        refine lv_iload_n hx hb dX10_lot_45 rfl (lv_at hl 2 rfl) ?_
        have hPc := hP.sub (ws' := [(q6, .inr (4, [.int 0, .int 0]))]) [2] rfl
        have hDc := hD.sub (ws' := [(q6, .inr (4, [.int 0, .int 0]))]) [2] (by decide) rfl
        have hFc := va_free (wc := [(q6, .inr (4, [.int 0, .int 0]))]) hD hS hA [2] rfl
        refine va_callv (va_runI (As := [.int v1, .int v2]) (rest := [.ref q6, .int (nI nl), .ref (a 0)]) ⟨hx, hb, hml, hown, hts⟩ (c_Lot l dC dI ca H.size q6 v1 v2 ) (⟨callB_of 2 hts (gd mw_258) rfl rfl rfl (hts _ mw_9) (hts _ mw_256) ds_X4_init ⟨Nat.le_of_ble_eq_true rfl, Nat.le_of_ble_eq_true rfl⟩, rfl, (hts _ mw_257)⟩) (pr_S hPc hK hDc hE) rfl rfl hl.1 rfl (lv_room (Nat.le_of_ble_eq_true rfl)) dX10_lot_46 ⟨Nat.le_of_ble_eq_true rfl, Nat.le_of_ble_eq_true rfl⟩) hS (fun q _ h => hFc q h) hFc (fun u_ t_ H1 locs ht hvm hw_ hB hz1 hk1 hS => ?_)
        obtain ⟨hP1, hD1⟩ := hB
        rw [ht] at hP1
        obtain ⟨hP, hD⟩ := va_joinQ (X := [(x, .inr (10, [.ref (a 0), .int (nI nl), .ref (a 2), .int (nI nb), .ref (a 4), .int (nI np), .ref (a 6), .int (nI nx), .ref (a 8), .ref (a 9), .ref (a 10), .ref (a 11), .ref (a 12), .ref (a 13), .ref (a 14)])), ((a 0), .inl (ca 5, 40, .inr (.inr (.inr (.inr (rA nl la)))))), (q6, .inr (4, [.int 0, .int 0]))]) (cx := [(q6, .inr (4, [.int 0, .int 0]))]) (wr := [(x, .inr (10, [.ref (a 0), .int (nI nl), .ref (a 2), .int (nI nb), .ref (a 4), .int (nI np), .ref (a 6), .int (nI nx), .ref (a 8), .ref (a 9), .ref (a 10), .ref (a 11), .ref (a 12), .ref (a 13), .ref (a 14)])), ((a 0), .inl (ca 5, 40, .inr (.inr (.inr (.inr (rA nl la))))))]) (w1 := [(q6, .inr (4, [.int v1, .int v2]))]) hP hD [2] [0, 1] rfl rfl (by decide) (by decide) hk1 hFc hP1 hD1
        generalize H1 = H at hP hS ⊢
        obtain ⟨hP, hD⟩ := va_bo ([(x, .inr (10, [.ref (a 0), .int (nI nl), .ref (a 2), .int (nI nb), .ref (a 4), .int (nI np), .ref (a 6), .int (nI nx), .ref (a 8), .ref (a 9), .ref (a 10), .ref (a 11), .ref (a 12), .ref (a 13), .ref (a 14)])), ((a 0), .inl (ca 5, 40, .inr (.inr (.inr (.inr (rA nl la)))))), (q6, .inr (4, [.int v1, .int v2]))] ++ (pool ca (List.range nl) la lo (List.range nb) ba bt (List.range np) pa pc (List.range nx) xa bx)) hP hD
        refine va_astq hx hb hK hP hD hS 1 5 2 4 rfl rfl rfl rfl (vp_in_nI (show nl < 40 by omega) (by first | decide | omega)) dX10_lot_49 (fun H locs hP hD hS => ?_)
        rw [(show ((nI nl) : Int32).toNatClampNeg = nl from nI_clamp (by omega))] at hP hD
        obtain ⟨hP, hD⟩ := va_bo ([(x, .inr (10, [.ref (a 0), .int (nI nl), .ref (a 2), .int (nI nb), .ref (a 4), .int (nI np), .ref (a 6), .int (nI nx), .ref (a 8), .ref (a 9), .ref (a 10), .ref (a 11), .ref (a 12), .ref (a 13), .ref (a 14)])), ((a 0), .inl (ca 5, 40, .inr (.inr (.inr (.inr (va_up (rA nl la) nl (some q6))))))), (q6, .inr (4, [.int v1, .int v2]))] ++ (pool ca (List.range nl) la lo (List.range nb) ba bt (List.range np) pa pc (List.range nx) xa bx)) hP hD
        refine lv_aload_n hx hb dX10_lot_50 rfl (lv_at hl 0 rfl) ?_
        refine lv_dup hx hb dX10_lot_51 rfl ?_
        refine va_get (D := (dC, dI)) (ci := 10) (v := .int (nI nl)) (C := RX10) (T := TX10) (N := 15) hx hb hts inX10 hown hK hP 0 rfl rfl 1 (by decide) (hts _ mw_202) (fun _ h9 => h9) rfl dX10_lot_52 ?_
        refine lv_iconst (v := 1) hx hb dX10_lot_55 (by decide) ?_
        refine lv_iadd hx hb dX10_lot_56 ?_
        refine lv_topi (fun y_ e_ => ?_)
        obtain rfl : y_ = (nI (nl + 1)) := e_.trans (nI_add (nl) (1))
        refine va_put (D := (dC, dI)) (ci := 10) (v := .int (nI (nl + 1))) (ty := .int) (C := RX10) (T := TX10) (N := 15) hx hb hts inX10 tyX10 tyX10_ok nmX10 hown hK hP hD hS 0 rfl rfl 1 (by decide) (hts _ mw_202) (fun _ h9 => h9) rfl (by decide +kernel) rfl rfl (Nat.le_of_ble_eq_true rfl) dX10_lot_57 (fun H locs hP hD hS => ?_)
        obtain ⟨hP, hD⟩ := va_bo ([(x, .inr (10, [.ref (a 0), .int (nI (nl + 1)), .ref (a 2), .int (nI nb), .ref (a 4), .int (nI np), .ref (a 6), .int (nI nx), .ref (a 8), .ref (a 9), .ref (a 10), .ref (a 11), .ref (a 12), .ref (a 13), .ref (a 14)])), ((a 0), .inl (ca 5, 40, .inr (.inr (.inr (.inr (va_up (rA nl la) nl (some q6))))))), (q6, .inr (4, [.int v1, .int v2]))] ++ (pool ca (List.range nl) la lo (List.range nb) ba bt (List.range np) pa pc (List.range nx) xa bx)) hP hD
        refine lv_aload_n hx hb dX10_lot_60 rfl (lv_at hl 0 rfl) ?_
        refine va_get (D := (dC, dI)) (ci := 10) (v := .int (nI (nl + 1))) (C := RX10) (T := TX10) (N := 15) hx hb hts inX10 hown hK hP 0 rfl rfl 1 (by decide) (hts _ mw_202) (fun _ h9 => h9) rfl dX10_lot_61 ?_
        refine lv_iconst (v := 1) hx hb dX10_lot_64 (by decide) ?_
        refine lv_isub hx hb dX10_lot_65 ?_
        refine lv_topi (fun y_ e_ => ?_)
        obtain rfl : y_ = (nI nl) := e_.trans (nI_pred (nl))
        rw [rA_push] at hP hD
        have hP := va_fb (X := [(x, .inr (10, [.ref (a 0), .int (nI (nl + 1)), .ref (a 2), .int (nI nb), .ref (a 4), .int (nI np), .ref (a 6), .int (nI nx), .ref (a 8), .ref (a 9), .ref (a 10), .ref (a 11), .ref (a 12), .ref (a 13), .ref (a 14)])), ((a 0), .inl (ca 5, 40, .inr (.inr (.inr (.inr (rA (nl + 1) (va_up la nl q6)))))))]) (lot_pu (q := q6) (c := (v1, v2))) hP
        have hD := va_fb_D (X := [(x, .inr (10, [.ref (a 0), .int (nI (nl + 1)), .ref (a 2), .int (nI nb), .ref (a 4), .int (nI np), .ref (a 6), .int (nI nx), .ref (a 8), .ref (a 9), .ref (a 10), .ref (a 11), .ref (a 12), .ref (a 13), .ref (a 14)])), ((a 0), .inl (ca 5, 40, .inr (.inr (.inr (.inr (rA (nl + 1) (va_up la nl q6)))))))]) (lot_pu (q := q6) (c := (v1, v2))) hD
        obtain ⟨hP, hD⟩ := va_bo ([(x, .inr (10, [.ref (a 0), .int (nI (nl + 1)), .ref (a 2), .int (nI nb), .ref (a 4), .int (nI np), .ref (a 6), .int (nI nx), .ref (a 8), .ref (a 9), .ref (a 10), .ref (a 11), .ref (a 12), .ref (a 13), .ref (a 14)])), ((a 0), .inl (ca 5, 40, .inr (.inr (.inr (.inr (rA (nl + 1) (va_up la nl q6)))))))] ++ (pool ca (List.range (nl + 1)) (va_up la nl q6) (va_up lo nl (v1, v2)) (List.range nb) ba bt (List.range np) pa pc (List.range nx) xa bx)) hP hD
        refine W.widen (k := 1) (n := 2) (Nat.le_of_ble_eq_true rfl) (Nat.le_of_ble_eq_true rfl) ?_
        have hP9 : va_P (dC, dI) vwCl (@HAppend.hAppend va_W va_W va_W _ [(x, .inr (10, [.ref (a 0), .int (nI (nl + 1)), .ref (a 2), .int (nI nb), .ref (a 4), .int (nI np), .ref (a 6), .int (nI nx), .ref (a 8), .ref (a 9), .ref (a 10), .ref (a 11), .ref (a 12), .ref (a 13), .ref (a 14)])), ((a 0), .inl (ca 5, 40, .inr (.inr (.inr (.inr (rA (nl + 1) (va_up la nl q6)))))))] (pool ca (List.range (nl + 1)) (va_up la nl q6) (va_up lo nl (v1, v2)) (List.range nb) ba bt (List.range np) pa pc (List.range nx) xa bx)) H := va_P.part (X := [(x, .inr (10, [.ref (a 0), .int (nI (nl + 1)), .ref (a 2), .int (nI nb), .ref (a 4), .int (nI np), .ref (a 6), .int (nI nx), .ref (a 8), .ref (a 9), .ref (a 10), .ref (a 11), .ref (a 12), .ref (a 13), .ref (a 14)])), ((a 0), .inl (ca 5, 40, .inr (.inr (.inr (.inr (rA (nl + 1) (va_up la nl q6)))))))]) hP [0, 1] rfl
        have hD9 : va_D A (@HAppend.hAppend va_W va_W va_W _ [(x, .inr (10, [.ref (a 0), .int (nI (nl + 1)), .ref (a 2), .int (nI nb), .ref (a 4), .int (nI np), .ref (a 6), .int (nI nx), .ref (a 8), .ref (a 9), .ref (a 10), .ref (a 11), .ref (a 12), .ref (a 13), .ref (a 14)])), ((a 0), .inl (ca 5, 40, .inr (.inr (.inr (.inr (rA (nl + 1) (va_up la nl q6)))))))] (pool ca (List.range (nl + 1)) (va_up la nl q6) (va_up lo nl (v1, v2)) (List.range nb) ba bt (List.range np) pa pc (List.range nx) xa bx)) := va_D.part (X := [(x, .inr (10, [.ref (a 0), .int (nI (nl + 1)), .ref (a 2), .int (nI nb), .ref (a 4), .int (nI np), .ref (a 6), .int (nI nx), .ref (a 8), .ref (a 9), .ref (a 10), .ref (a 11), .ref (a 12), .ref (a 13), .ref (a 14)])), ((a 0), .inl (ca 5, 40, .inr (.inr (.inr (.inr (rA (nl + 1) (va_up la nl q6)))))))]) hD [0, 1] (by decide) rfl
        exact W.iret (v := (nI nl)) hx hb hr (fun t ht hW => ⟨⟨(nI nl), (nl + 1, (va_up la nl q6), (va_up lo nl (v1, v2))), rfl, ⟨by unfold spL; simp [c_2, c_4, (Nat.not_le.mpr nc_5)], by rw [if_neg (nI_nm1 (by omega))], by rw [if_neg (nI_nm1 (by omega))], ⟨by omega, hq2, hq3, hq4, hq5, hq6, hq7⟩⟩, by rw [ht]; dsimp only; exact hP9, by dsimp only; exact hD9⟩, hS.F ht⟩) hS.2.2 dX10_lot_66
      · have nc_5 : ¬ (nl < 40) := fun h9 => c_5 ((nI_ltI (a := nl) (b := 40) (by omega) (by omega)).mpr h9)
        refine lv_iconst (v := (-1)) hx hb dX10_lot_30 (by decide) ?_
        refine W.widen (k := 1) (n := 2) (Nat.le_of_ble_eq_true rfl) (Nat.le_of_ble_eq_true rfl) ?_
        have hP9 : va_P (dC, dI) vwCl (@HAppend.hAppend va_W va_W va_W _ [(x, .inr (10, [.ref (a 0), .int (nI nl), .ref (a 2), .int (nI nb), .ref (a 4), .int (nI np), .ref (a 6), .int (nI nx), .ref (a 8), .ref (a 9), .ref (a 10), .ref (a 11), .ref (a 12), .ref (a 13), .ref (a 14)])), ((a 0), .inl (ca 5, 40, .inr (.inr (.inr (.inr (rA nl la))))))] (pool ca (List.range nl) la lo (List.range nb) ba bt (List.range np) pa pc (List.range nx) xa bx)) s.heap := va_P.part (X := [(x, .inr (10, [.ref (a 0), .int (nI nl), .ref (a 2), .int (nI nb), .ref (a 4), .int (nI np), .ref (a 6), .int (nI nx), .ref (a 8), .ref (a 9), .ref (a 10), .ref (a 11), .ref (a 12), .ref (a 13), .ref (a 14)])), ((a 0), .inl (ca 5, 40, .inr (.inr (.inr (.inr (rA nl la))))))]) hP [0, 1] rfl
        have hD9 : va_D A (@HAppend.hAppend va_W va_W va_W _ [(x, .inr (10, [.ref (a 0), .int (nI nl), .ref (a 2), .int (nI nb), .ref (a 4), .int (nI np), .ref (a 6), .int (nI nx), .ref (a 8), .ref (a 9), .ref (a 10), .ref (a 11), .ref (a 12), .ref (a 13), .ref (a 14)])), ((a 0), .inl (ca 5, 40, .inr (.inr (.inr (.inr (rA nl la))))))] (pool ca (List.range nl) la lo (List.range nb) ba bt (List.range np) pa pc (List.range nx) xa bx)) := va_D.part (X := [(x, .inr (10, [.ref (a 0), .int (nI nl), .ref (a 2), .int (nI nb), .ref (a 4), .int (nI np), .ref (a 6), .int (nI nx), .ref (a 8), .ref (a 9), .ref (a 10), .ref (a 11), .ref (a 12), .ref (a 13), .ref (a 14)])), ((a 0), .inl (ca 5, 40, .inr (.inr (.inr (.inr (rA nl la))))))]) hD [0, 1] (by decide) rfl
        exact W.iret (v := (-1)) hx hb hr (fun t ht hW => ⟨⟨(-1), (nl, la, lo), rfl, ⟨by unfold spL; simp [c_2, c_4, (Nat.not_lt.mp nc_5)], rfl, rfl, hQ⟩, by rw [ht]; dsimp only; exact hP9, by dsimp only; exact hD9⟩, hS.F ht⟩) hS.2.2 dX10_lot_31

theorem bA0_up {ba : Nat → Nat → Nat} {n q0 : Nat} {q : Nat → Nat} (h : q 0 = q0) : va_up (bA0 ba) n q0 = bA0 (va_up ba n q) := by
  subst h
  funext j
  unfold bA0 va_up
  by_cases e : j = n <;> simp [e]

set_option maxHeartbeats 4000000 in
set_option maxRecDepth 100000 in
theorem k_batch (l : Launch) (dC : Nat → ClassId) (dI : Nat → Nat → Nat) (ca : Nat → ClassId) (sz : Nat) (x : Nat) (a : Nat → Nat) (nl : Nat) (la : Nat → Nat) (lo : Nat → Int32 × Int32) (nb : Nat) (ba : Nat → Nat → Nat) (bt : Nat → BatG) (np : Nat) (pa : Nat → Nat) (pc : Nat → PieG) (nx : Nat) (xa : Nat → Nat → Nat) (bx : Nat → BoxG) (v1 : Int32) (hQ : kI nl lo nb bt np pc nx bx) : Met l yX10_batch (Cond.code yX10_batch cX10_batch 2 (some .int) :: gT) ({ frames := 3, cells := 4, slots := 140, locals := 102 }) (va_Pc [.ref x, .int v1] (pr (dC, dI) sz (@HAppend.hAppend va_W va_W va_W _ [(x, .inr (10, [.ref (a 0), .int (nI nl), .ref (a 2), .int (nI nb), .ref (a 4), .int (nI np), .ref (a 6), .int (nI nx), .ref (a 8), .ref (a 9), .ref (a 10), .ref (a 11), .ref (a 12), .ref (a 13), .ref (a 14)])), ((a 2), .inl (ca 6, 40, .inr (.inr (.inr (.inr (rA nb (bA0 ba)))))))] (pool ca (List.range nl) la lo (List.range nb) ba bt (List.range np) pa pc (List.range nx) xa bx)) (aT ca))) (va_Qi (fun (r : Int32) (u_ : Nat × (Nat → Nat → Nat) × (Nat → BatG)) => r = spB nb v1 ∧ u_.1 = (if r = -1 then nb else nb + 1) ∧ (if r = -1 then u_.2.2 = bt else bU bt u_.2.2 nb 0 0 0 0) ∧ (if r = -1 then u_.2.2 = bt else xU bt u_.2.2 nb (xN v1) 0) ∧ kI nl lo u_.1 u_.2.2 np pc nx bx) (fun (u_ : Nat × (Nat → Nat → Nat) × (Nat → BatG)) t => va_P (dC, dI) vwCl (@HAppend.hAppend va_W va_W va_W _ [(x, .inr (10, [.ref (a 0), .int (nI nl), .ref (a 2), .int (nI u_.1), .ref (a 4), .int (nI np), .ref (a 6), .int (nI nx), .ref (a 8), .ref (a 9), .ref (a 10), .ref (a 11), .ref (a 12), .ref (a 13), .ref (a 14)])), ((a 2), .inl (ca 6, 40, .inr (.inr (.inr (.inr (rA u_.1 (bA0 u_.2.1)))))))] (pool ca (List.range nl) la lo (List.range u_.1) u_.2.1 u_.2.2 (List.range np) pa pc (List.range nx) xa bx)) t.heap ∧ va_D (va_A (@HAppend.hAppend va_W va_W va_W _ [(x, .inr (10, [.ref (a 0), .int (nI nl), .ref (a 2), .int (nI nb), .ref (a 4), .int (nI np), .ref (a 6), .int (nI nx), .ref (a 8), .ref (a 9), .ref (a 10), .ref (a 11), .ref (a 12), .ref (a 13), .ref (a 14)])), ((a 2), .inl (ca 6, 40, .inr (.inr (.inr (.inr (rA nb (bA0 ba)))))))] (pool ca (List.range nl) la lo (List.range nb) ba bt (List.range np) pa pc (List.range nx) xa bx)) sz) (@HAppend.hAppend va_W va_W va_W _ [(x, .inr (10, [.ref (a 0), .int (nI nl), .ref (a 2), .int (nI u_.1), .ref (a 4), .int (nI np), .ref (a 6), .int (nI nx), .ref (a 8), .ref (a 9), .ref (a 10), .ref (a 11), .ref (a 12), .ref (a 13), .ref (a 14)])), ((a 2), .inl (ca 6, 40, .inr (.inr (.inr (.inr (rA u_.1 (bA0 u_.2.1)))))))] (pool ca (List.range nl) la lo (List.range u_.1) u_.2.1 u_.2.2 (List.range np) pa pc (List.range nx) xa bx))) (va_A (@HAppend.hAppend va_W va_W va_W _ [(x, .inr (10, [.ref (a 0), .int (nI nl), .ref (a 2), .int (nI nb), .ref (a 4), .int (nI np), .ref (a 6), .int (nI nx), .ref (a 8), .ref (a 9), .ref (a 10), .ref (a 11), .ref (a 12), .ref (a 13), .ref (a 14)])), ((a 2), .inl (ca 6, 40, .inr (.inr (.inr (.inr (rA nb (bA0 ba)))))))] (pool ca (List.range nl) la lo (List.range nb) ba bt (List.range np) pa pc (List.range nx) xa bx)) sz)) 4 140 (va_A (@HAppend.hAppend va_W va_W va_W _ [(x, .inr (10, [.ref (a 0), .int (nI nl), .ref (a 2), .int (nI nb), .ref (a 4), .int (nI np), .ref (a 6), .int (nI nx), .ref (a 8), .ref (a 9), .ref (a 10), .ref (a 11), .ref (a 12), .ref (a 13), .ref (a 14)])), ((a 2), .inl (ca 6, 40, .inr (.inr (.inr (.inr (rA nb (bA0 ba)))))))] (pool ca (List.range nl) la lo (List.range nb) ba bt (List.range np) pa pc (List.range nx) xa bx)) sz) := by
  refine Met.ofW (cc := cX10_batch) (maxL := 2) (ret := (some .int)) (by decide) rfl ?_
  intro p e s m args below meth c s₁ B hml hv
  obtain ⟨rfl, hsz, hP, hK, hD0, hE⟩ := hv
  have hx := B.exec
  have hb := B.bytes
  have hr := B.returns
  have hts : ∀ w ∈ gT, w.before _ s = true := fun w h => atoms_spec (ws := Cond.code yX10_batch cX10_batch 2 (some .int) :: gT) B.pre w (List.mem_cons_of_mem _ h)
  have hown : s.vm.findClass RX10 = some m.cls := findClass_of_methodNamed B.named
  have hlocks := B.notSynchronized
  subst hsz
  have hD := hD0.self (sz := s.heap.size)
  generalize hAe : va_A ([(x, .inr (10, [.ref (a 0), .int (nI nl), .ref (a 2), .int (nI nb), .ref (a 4), .int (nI np), .ref (a 6), .int (nI nx), .ref (a 8), .ref (a 9), .ref (a 10), .ref (a 11), .ref (a 12), .ref (a 13), .ref (a 14)])), ((a 2), .inl (ca 6, 40, .inr (.inr (.inr (.inr (rA nb (bA0 ba)))))))] ++ (pool ca (List.range nl) la lo (List.range nb) ba bt (List.range np) pa pc (List.range nx) xa bx)) s.heap.size = A at hD ⊢
  have hA : ∀ q : Nat, s.heap.size ≤ q → A q := fun q h => by rw [← hAe]; exact Or.inr h
  have hS : va_S A s.heap s.heap [] := va_S.rf
  have hl := lv_entry ([.ref x, .int v1]) (n := 2) (Nat.le_of_ble_eq_true rfl)
  rw [lg_entry_eq]
  generalize (lg_sl ([.ref x, .int v1]) ++ List.replicate (2 - (lg_sl ([.ref x, .int v1])).length) Slot.unset).toArray = ls at hl ⊢
  have hl : lv_has ls 2 [(0, .ref x), (1, .int v1)] := hl
  obtain ⟨hq1, hq2, hq3, hq4, hq5, hq6, hq7⟩ := id hQ
  refine lv_iload_n hx hb dX10_batch_0 rfl (lv_at hl 1 rfl) ?_
  have hPc := hP.sub (ws' := []) [] rfl
  refine pc_i (va_runS (As := [.int v1]) (rest := []) ⟨hx, hb, hml, hown, hts⟩ (c_isKind l dC dI ca v1 ) (⟨callB_of 1 hts (gd mw_275) rfl rfl rfl (hts _ mw_1) (hts _ mw_273) ds_X10_isKind ⟨Nat.le_of_ble_eq_true rfl, Nat.le_of_ble_eq_true rfl⟩, (hts _ mw_274)⟩) (pu_S hPc hK hE) rfl rfl hl.1 rfl (lv_room (Nat.le_of_ble_eq_true rfl)) dX10_batch_1 ⟨Nat.le_of_ble_eq_true rfl, Nat.le_of_ble_eq_true rfl⟩) (fun rv_1 hw_ => ?_)
  obtain rfl : rv_1 = (wi v1 0 5) := hw_
  refine lv_if_eq (tgt := 16) hx hb dX10_batch_4 (by decide) (fun c_2 => ?_) (fun c_2 => ?_)
  · refine lv_iconst (v := (-1)) hx hb dX10_batch_16 (by decide) ?_
    refine W.widen (k := 4) (n := 140) (Nat.le_of_ble_eq_true rfl) (Nat.le_of_ble_eq_true rfl) ?_
    have hP9 : va_P (dC, dI) vwCl (@HAppend.hAppend va_W va_W va_W _ [(x, .inr (10, [.ref (a 0), .int (nI nl), .ref (a 2), .int (nI nb), .ref (a 4), .int (nI np), .ref (a 6), .int (nI nx), .ref (a 8), .ref (a 9), .ref (a 10), .ref (a 11), .ref (a 12), .ref (a 13), .ref (a 14)])), ((a 2), .inl (ca 6, 40, .inr (.inr (.inr (.inr (rA nb (bA0 ba)))))))] (pool ca (List.range nl) la lo (List.range nb) ba bt (List.range np) pa pc (List.range nx) xa bx)) s.heap := va_P.part (X := [(x, .inr (10, [.ref (a 0), .int (nI nl), .ref (a 2), .int (nI nb), .ref (a 4), .int (nI np), .ref (a 6), .int (nI nx), .ref (a 8), .ref (a 9), .ref (a 10), .ref (a 11), .ref (a 12), .ref (a 13), .ref (a 14)])), ((a 2), .inl (ca 6, 40, .inr (.inr (.inr (.inr (rA nb (bA0 ba)))))))]) hP [0, 1] rfl
    have hD9 : va_D A (@HAppend.hAppend va_W va_W va_W _ [(x, .inr (10, [.ref (a 0), .int (nI nl), .ref (a 2), .int (nI nb), .ref (a 4), .int (nI np), .ref (a 6), .int (nI nx), .ref (a 8), .ref (a 9), .ref (a 10), .ref (a 11), .ref (a 12), .ref (a 13), .ref (a 14)])), ((a 2), .inl (ca 6, 40, .inr (.inr (.inr (.inr (rA nb (bA0 ba)))))))] (pool ca (List.range nl) la lo (List.range nb) ba bt (List.range np) pa pc (List.range nx) xa bx)) := va_D.part (X := [(x, .inr (10, [.ref (a 0), .int (nI nl), .ref (a 2), .int (nI nb), .ref (a 4), .int (nI np), .ref (a 6), .int (nI nx), .ref (a 8), .ref (a 9), .ref (a 10), .ref (a 11), .ref (a 12), .ref (a 13), .ref (a 14)])), ((a 2), .inl (ca 6, 40, .inr (.inr (.inr (.inr (rA nb (bA0 ba)))))))]) hD [0, 1] (by decide) rfl
    exact W.iret (v := (-1)) hx hb hr (fun t ht hW => ⟨⟨(-1), (nb, ba, bt), rfl, ⟨by unfold spB; simp [c_2], rfl, rfl, rfl, hQ⟩, by rw [ht]; dsimp only; exact hP9, by dsimp only; exact hD9⟩, hS.F ht⟩) hS.2.2 dX10_batch_17
  · refine lv_aload_n hx hb dX10_batch_7 rfl (lv_at hl 0 rfl) ?_
    refine va_get (D := (dC, dI)) (ci := 10) (v := .int (nI nb)) (C := RX10) (T := TX10) (N := 15) hx hb hts inX10 hown hK hP 0 rfl rfl 3 (by decide) (hts _ mw_204) (fun _ h9 => h9) rfl dX10_batch_8 ?_
    refine lv_bipush (v := 40) hx hb dX10_batch_11 (by decide) ?_
    refine lv_icmp_lt (tgt := 18) hx hb dX10_batch_13 (by decide) (fun c_3 => ?_) (fun c_3 => ?_)
    · have nc_3 : nb < 40 := (nI_ltI (a := nb) (b := 40) (by omega) (by omega)).mp c_3
      refine lv_aload_n hx hb dX10_batch_18 rfl (lv_at hl 0 rfl) ?_
      refine va_get (D := (dC, dI)) (ci := 10) (v := .ref (a 2)) (C := RX10) (T := TX10) (N := 15) hx hb hts inX10 hown hK hP 0 rfl rfl 2 (by decide) (hts _ mw_203) (fun _ h9 => h9) rfl dX10_batch_19 ?_
      refine lv_aload_n hx hb dX10_batch_22 rfl (lv_at hl 0 rfl) ?_
      refine va_get (D := (dC, dI)) (ci := 10) (v := .int (nI nb)) (C := RX10) (T := TX10) (N := 15) hx hb hts inX10 hown hK hP 0 rfl rfl 3 (by decide) (hts _ mw_204) (fun _ h9 => h9) rfl dX10_batch_23 ?_
      refine va_new (ci := 0) (fs := [.int 0, .null, .int 0, .int 0, .long 0, .int 0, .int 0, .int 0, .int 0, .int 0, .int 0, .int 0, .int 0, .int 0, .int 0, .int 0]) (C := RX0) (T := TX0) (N := 16) hx hb hts inX0 tyX0 tyX0_ok hown (hts _ mw_28) (hts _ mw_276) (hts _ mw_10) hK hP hD hS hA rfl dfX0 (Nat.le_of_ble_eq_true rfl) (Nat.le_of_ble_eq_true rfl) dX10_batch_26 (fun q4 H hP hD hS => ?_)
      have hP := va_P.swap (a := [(x, .inr (10, [.ref (a 0), .int (nI nl), .ref (a 2), .int (nI nb), .ref (a 4), .int (nI np), .ref (a 6), .int (nI nx), .ref (a 8), .ref (a 9), .ref (a 10), .ref (a 11), .ref (a 12), .ref (a 13), .ref (a 14)])), ((a 2), .inl (ca 6, 40, .inr (.inr (.inr (.inr (rA nb (bA0 ba)))))))]) hP
      have hD := va_D.swap (a := [(x, .inr (10, [.ref (a 0), .int (nI nl), .ref (a 2), .int (nI nb), .ref (a 4), .int (nI np), .ref (a 6), .int (nI nx), .ref (a 8), .ref (a 9), .ref (a 10), .ref (a 11), .ref (a 12), .ref (a 13), .ref (a 14)])), ((a 2), .inl (ca 6, 40, .inr (.inr (.inr (.inr (rA nb (bA0 ba)))))))]) hD
      refine W.widen (k := 1) (n := 16) (Nat.le_of_ble_eq_true rfl) (Nat.le_of_ble_eq_true rfl) ?_
      obtain ⟨hP, hD⟩ := va_bo (@HAppend.hAppend va_W va_W va_W _ [(x, .inr (10, [.ref (a 0), .int (nI nl), .ref (a 2), .int (nI nb), .ref (a 4), .int (nI np), .ref (a 6), .int (nI nx), .ref (a 8), .ref (a 9), .ref (a 10), .ref (a 11), .ref (a 12), .ref (a 13), .ref (a 14)])), ((a 2), .inl (ca 6, 40, .inr (.inr (.inr (.inr (rA nb (bA0 ba))))))), (q4, .inr (0, [.int 0, .null, .int 0, .int 0, .long 0, .int 0, .int 0, .int 0, .int 0, .int 0, .int 0, .int 0, .int 0, .int 0, .int 0, .int 0]))] (pool ca (List.range nl) la lo (List.range nb) ba bt (List.range np) pa pc (List.range nx) xa bx)) hP hD
      refine lv_dup hx hb dX10_batch_29 rfl ?_
      refine lv_iload_n hx hb dX10_batch_30 rfl (lv_at hl 1 rfl) ?_
      have hPc := hP.sub (ws' := [(q4, .inr (0, [.int 0, .null, .int 0, .int 0, .long 0, .int 0, .int 0, .int 0, .int 0, .int 0, .int 0, .int 0, .int 0, .int 0, .int 0, .int 0]))]) [2] rfl
      have hDc := hD.sub (ws' := [(q4, .inr (0, [.int 0, .null, .int 0, .int 0, .long 0, .int 0, .int 0, .int 0, .int 0, .int 0, .int 0, .int 0, .int 0, .int 0, .int 0, .int 0]))]) [2] (by decide) rfl
      have hFc := va_free (wc := [(q4, .inr (0, [.int 0, .null, .int 0, .int 0, .long 0, .int 0, .int 0, .int 0, .int 0, .int 0, .int 0, .int 0, .int 0, .int 0, .int 0, .int 0]))]) hD hS hA [2] rfl
      refine va_callv (va_runI (As := [.int v1]) (rest := [.ref q4, .int (nI nb), .ref (a 2)]) ⟨hx, hb, hml, hown, hts⟩ (c_Batch l dC dI ca H.size q4 v1 ) (⟨callB_of 1 hts (gd mw_279) rfl rfl rfl (hts _ mw_10) (hts _ mw_277) ds_X0_init ⟨Nat.le_of_ble_eq_true rfl, Nat.le_of_ble_eq_true rfl⟩, rfl, (hts _ mw_278)⟩) (pr_S hPc hK hDc hE) rfl rfl hl.1 rfl (lv_room (Nat.le_of_ble_eq_true rfl)) dX10_batch_31 ⟨Nat.le_of_ble_eq_true rfl, Nat.le_of_ble_eq_true rfl⟩) hS (fun q _ h => hFc q h) hFc (fun u_ t_ H1 locs ht hvm hw_ hB hz1 hk1 hS => ?_)
      obtain ⟨q0_5, q1_5, q2_5⟩ := u_
      obtain ⟨hP1, hD1⟩ := hB
      rw [ht] at hP1
      obtain ⟨hP, hD⟩ := va_joinQ (X := [(x, .inr (10, [.ref (a 0), .int (nI nl), .ref (a 2), .int (nI nb), .ref (a 4), .int (nI np), .ref (a 6), .int (nI nx), .ref (a 8), .ref (a 9), .ref (a 10), .ref (a 11), .ref (a 12), .ref (a 13), .ref (a 14)])), ((a 2), .inl (ca 6, 40, .inr (.inr (.inr (.inr (rA nb (bA0 ba))))))), (q4, .inr (0, [.int 0, .null, .int 0, .int 0, .long 0, .int 0, .int 0, .int 0, .int 0, .int 0, .int 0, .int 0, .int 0, .int 0, .int 0, .int 0]))]) (cx := [(q4, .inr (0, [.int 0, .null, .int 0, .int 0, .long 0, .int 0, .int 0, .int 0, .int 0, .int 0, .int 0, .int 0, .int 0, .int 0, .int 0, .int 0]))]) (wr := [(x, .inr (10, [.ref (a 0), .int (nI nl), .ref (a 2), .int (nI nb), .ref (a 4), .int (nI np), .ref (a 6), .int (nI nx), .ref (a 8), .ref (a 9), .ref (a 10), .ref (a 11), .ref (a 12), .ref (a 13), .ref (a 14)])), ((a 2), .inl (ca 6, 40, .inr (.inr (.inr (.inr (rA nb (bA0 ba)))))))]) (w1 := [(q4, .inr (0, [.int v1, .ref q0_5, .int 0, .int 0, .long 0, .int 0, .int 0, .int 0, .int 0, .int (-1000001), .int (-1), .int (-1), .int 0, .int 0, .int 0, .int 0])), (q0_5, .inr (7, [.ref q1_5, .ref q2_5, .int 0, .int 0])), (q1_5, .inl (ca 0, 60, .inl (fun _ => 0))), (q2_5, .inl (ca 1, 60, .inl (fun _ => 0)))]) hP hD [2] [0, 1] rfl rfl (by decide) (by decide) hk1 hFc hP1 hD1
      generalize H1 = H at hP hS ⊢
      obtain ⟨hP, hD⟩ := va_bo (@HAppend.hAppend va_W va_W va_W _ [(x, .inr (10, [.ref (a 0), .int (nI nl), .ref (a 2), .int (nI nb), .ref (a 4), .int (nI np), .ref (a 6), .int (nI nx), .ref (a 8), .ref (a 9), .ref (a 10), .ref (a 11), .ref (a 12), .ref (a 13), .ref (a 14)])), ((a 2), .inl (ca 6, 40, .inr (.inr (.inr (.inr (rA nb (bA0 ba))))))), (q4, .inr (0, [.int v1, .ref q0_5, .int 0, .int 0, .long 0, .int 0, .int 0, .int 0, .int 0, .int (-1000001), .int (-1), .int (-1), .int 0, .int 0, .int 0, .int 0])), (q0_5, .inr (7, [.ref q1_5, .ref q2_5, .int 0, .int 0])), (q1_5, .inl (ca 0, 60, .inl (fun _ => 0))), (q2_5, .inl (ca 1, 60, .inl (fun _ => 0)))] (pool ca (List.range nl) la lo (List.range nb) ba bt (List.range np) pa pc (List.range nx) xa bx)) hP hD
      refine W.widen (k := 4) (n := 140) (Nat.le_of_ble_eq_true rfl) (Nat.le_of_ble_eq_true rfl) ?_
      refine va_astq hx hb hK hP hD hS 1 6 2 0 rfl rfl rfl rfl (vp_in_nI (show nb < 40 by omega) (by first | decide | omega)) dX10_batch_34 (fun H locs hP hD hS => ?_)
      rw [(show ((nI nb) : Int32).toNatClampNeg = nb from nI_clamp (by omega))] at hP hD
      obtain ⟨hP, hD⟩ := va_bo (@HAppend.hAppend va_W va_W va_W _ [(x, .inr (10, [.ref (a 0), .int (nI nl), .ref (a 2), .int (nI nb), .ref (a 4), .int (nI np), .ref (a 6), .int (nI nx), .ref (a 8), .ref (a 9), .ref (a 10), .ref (a 11), .ref (a 12), .ref (a 13), .ref (a 14)])), ((a 2), .inl (ca 6, 40, .inr (.inr (.inr (.inr (va_up (rA nb (bA0 ba)) nb (some q4))))))), (q4, .inr (0, [.int v1, .ref q0_5, .int 0, .int 0, .long 0, .int 0, .int 0, .int 0, .int 0, .int (-1000001), .int (-1), .int (-1), .int 0, .int 0, .int 0, .int 0])), (q0_5, .inr (7, [.ref q1_5, .ref q2_5, .int 0, .int 0])), (q1_5, .inl (ca 0, 60, .inl (fun _ => 0))), (q2_5, .inl (ca 1, 60, .inl (fun _ => 0)))] (pool ca (List.range nl) la lo (List.range nb) ba bt (List.range np) pa pc (List.range nx) xa bx)) hP hD
      refine lv_aload_n hx hb dX10_batch_35 rfl (lv_at hl 0 rfl) ?_
      refine lv_dup hx hb dX10_batch_36 rfl ?_
      refine va_get (D := (dC, dI)) (ci := 10) (v := .int (nI nb)) (C := RX10) (T := TX10) (N := 15) hx hb hts inX10 hown hK hP 0 rfl rfl 3 (by decide) (hts _ mw_204) (fun _ h9 => h9) rfl dX10_batch_37 ?_
      refine lv_iconst (v := 1) hx hb dX10_batch_40 (by decide) ?_
      refine lv_iadd hx hb dX10_batch_41 ?_
      refine lv_topi (fun y_ e_ => ?_)
      obtain rfl : y_ = (nI (nb + 1)) := e_.trans (nI_add (nb) (1))
      refine va_put (D := (dC, dI)) (ci := 10) (v := .int (nI (nb + 1))) (ty := .int) (C := RX10) (T := TX10) (N := 15) hx hb hts inX10 tyX10 tyX10_ok nmX10 hown hK hP hD hS 0 rfl rfl 3 (by decide) (hts _ mw_204) (fun _ h9 => h9) rfl (by decide +kernel) rfl rfl (Nat.le_of_ble_eq_true rfl) dX10_batch_42 (fun H locs hP hD hS => ?_)
      obtain ⟨hP, hD⟩ := va_bo (@HAppend.hAppend va_W va_W va_W _ [(x, .inr (10, [.ref (a 0), .int (nI nl), .ref (a 2), .int (nI (nb + 1)), .ref (a 4), .int (nI np), .ref (a 6), .int (nI nx), .ref (a 8), .ref (a 9), .ref (a 10), .ref (a 11), .ref (a 12), .ref (a 13), .ref (a 14)])), ((a 2), .inl (ca 6, 40, .inr (.inr (.inr (.inr (va_up (rA nb (bA0 ba)) nb (some q4))))))), (q4, .inr (0, [.int v1, .ref q0_5, .int 0, .int 0, .long 0, .int 0, .int 0, .int 0, .int 0, .int (-1000001), .int (-1), .int (-1), .int 0, .int 0, .int 0, .int 0])), (q0_5, .inr (7, [.ref q1_5, .ref q2_5, .int 0, .int 0])), (q1_5, .inl (ca 0, 60, .inl (fun _ => 0))), (q2_5, .inl (ca 1, 60, .inl (fun _ => 0)))] (pool ca (List.range nl) la lo (List.range nb) ba bt (List.range np) pa pc (List.range nx) xa bx)) hP hD
      refine lv_aload_n hx hb dX10_batch_45 rfl (lv_at hl 0 rfl) ?_
      refine va_get (D := (dC, dI)) (ci := 10) (v := .int (nI (nb + 1))) (C := RX10) (T := TX10) (N := 15) hx hb hts inX10 hown hK hP 0 rfl rfl 3 (by decide) (hts _ mw_204) (fun _ h9 => h9) rfl dX10_batch_46 ?_
      refine lv_iconst (v := 1) hx hb dX10_batch_49 (by decide) ?_
      refine lv_isub hx hb dX10_batch_50 ?_
      refine lv_topi (fun y_ e_ => ?_)
      obtain rfl : y_ = (nI nb) := e_.trans (nI_pred (nb))
      rw [rA_push] at hP hD
      have hb9 : va_up (bA0 ba) nb q4 = bA0 (va_up ba nb (ad4 q4 q0_5 q1_5 q2_5)) := bA0_up rfl
      rw [hb9] at hP hD
      have hP := va_fb (X := [(x, .inr (10, [.ref (a 0), .int (nI nl), .ref (a 2), .int (nI (nb + 1)), .ref (a 4), .int (nI np), .ref (a 6), .int (nI nx), .ref (a 8), .ref (a 9), .ref (a 10), .ref (a 11), .ref (a 12), .ref (a 13), .ref (a 14)])), ((a 2), .inl (ca 6, 40, .inr (.inr (.inr (.inr (rA (nb + 1) (bA0 (va_up ba nb (ad4 q4 q0_5 q1_5 q2_5)))))))))]) (bat_pu (q := (ad4 q4 q0_5 q1_5 q2_5)) (c := ((upd (upd (upd (upd (upd (upd (upd (upd (upd (upd (upd (upd (upd (upd (upd (upd (bt nb).1 0 v1) 2 0) 3 0) 5 0) 6 0) 7 0) 8 0) 9 (-1000001)) 10 (-1)) 11 (-1)) 12 0) 13 0) 14 0) 15 0) 16 0) 17 0), 0, (fun _ => 0), (fun _ => 0)))) hP
      have hD := va_fb_D (X := [(x, .inr (10, [.ref (a 0), .int (nI nl), .ref (a 2), .int (nI (nb + 1)), .ref (a 4), .int (nI np), .ref (a 6), .int (nI nx), .ref (a 8), .ref (a 9), .ref (a 10), .ref (a 11), .ref (a 12), .ref (a 13), .ref (a 14)])), ((a 2), .inl (ca 6, 40, .inr (.inr (.inr (.inr (rA (nb + 1) (bA0 (va_up ba nb (ad4 q4 q0_5 q1_5 q2_5)))))))))]) (bat_pu (q := (ad4 q4 q0_5 q1_5 q2_5)) (c := ((upd (upd (upd (upd (upd (upd (upd (upd (upd (upd (upd (upd (upd (upd (upd (upd (bt nb).1 0 v1) 2 0) 3 0) 5 0) 6 0) 7 0) 8 0) 9 (-1000001)) 10 (-1)) 11 (-1)) 12 0) 13 0) 14 0) 15 0) 16 0) 17 0), 0, (fun _ => 0), (fun _ => 0)))) hD
      obtain ⟨hP, hD⟩ := va_bo (@HAppend.hAppend va_W va_W va_W _ [(x, .inr (10, [.ref (a 0), .int (nI nl), .ref (a 2), .int (nI (nb + 1)), .ref (a 4), .int (nI np), .ref (a 6), .int (nI nx), .ref (a 8), .ref (a 9), .ref (a 10), .ref (a 11), .ref (a 12), .ref (a 13), .ref (a 14)])), ((a 2), .inl (ca 6, 40, .inr (.inr (.inr (.inr (rA (nb + 1) (bA0 (va_up ba nb (ad4 q4 q0_5 q1_5 q2_5)))))))))] (pool ca (List.range nl) la lo (List.range (nb + 1)) (va_up ba nb (ad4 q4 q0_5 q1_5 q2_5)) (va_up bt nb ((upd (upd (upd (upd (upd (upd (upd (upd (upd (upd (upd (upd (upd (upd (upd (upd (bt nb).1 0 v1) 2 0) 3 0) 5 0) 6 0) 7 0) 8 0) 9 (-1000001)) 10 (-1)) 11 (-1)) 12 0) 13 0) 14 0) 15 0) 16 0) 17 0), 0, (fun _ => 0), (fun _ => 0))) (List.range np) pa pc (List.range nx) xa bx)) hP hD
      refine W.widen (k := 4) (n := 140) (Nat.le_of_ble_eq_true rfl) (Nat.le_of_ble_eq_true rfl) ?_
      have hP9 : va_P (dC, dI) vwCl (@HAppend.hAppend va_W va_W va_W _ [(x, .inr (10, [.ref (a 0), .int (nI nl), .ref (a 2), .int (nI (nb + 1)), .ref (a 4), .int (nI np), .ref (a 6), .int (nI nx), .ref (a 8), .ref (a 9), .ref (a 10), .ref (a 11), .ref (a 12), .ref (a 13), .ref (a 14)])), ((a 2), .inl (ca 6, 40, .inr (.inr (.inr (.inr (rA (nb + 1) (bA0 (va_up ba nb (ad4 q4 q0_5 q1_5 q2_5)))))))))] (pool ca (List.range nl) la lo (List.range (nb + 1)) (va_up ba nb (ad4 q4 q0_5 q1_5 q2_5)) (va_up bt nb ((upd (upd (upd (upd (upd (upd (upd (upd (upd (upd (upd (upd (upd (upd (upd (upd (bt nb).1 0 v1) 2 0) 3 0) 5 0) 6 0) 7 0) 8 0) 9 (-1000001)) 10 (-1)) 11 (-1)) 12 0) 13 0) 14 0) 15 0) 16 0) 17 0), 0, (fun _ => 0), (fun _ => 0))) (List.range np) pa pc (List.range nx) xa bx)) H := va_P.part (X := [(x, .inr (10, [.ref (a 0), .int (nI nl), .ref (a 2), .int (nI (nb + 1)), .ref (a 4), .int (nI np), .ref (a 6), .int (nI nx), .ref (a 8), .ref (a 9), .ref (a 10), .ref (a 11), .ref (a 12), .ref (a 13), .ref (a 14)])), ((a 2), .inl (ca 6, 40, .inr (.inr (.inr (.inr (rA (nb + 1) (bA0 (va_up ba nb (ad4 q4 q0_5 q1_5 q2_5)))))))))]) hP [0, 1] rfl
      have hD9 : va_D A (@HAppend.hAppend va_W va_W va_W _ [(x, .inr (10, [.ref (a 0), .int (nI nl), .ref (a 2), .int (nI (nb + 1)), .ref (a 4), .int (nI np), .ref (a 6), .int (nI nx), .ref (a 8), .ref (a 9), .ref (a 10), .ref (a 11), .ref (a 12), .ref (a 13), .ref (a 14)])), ((a 2), .inl (ca 6, 40, .inr (.inr (.inr (.inr (rA (nb + 1) (bA0 (va_up ba nb (ad4 q4 q0_5 q1_5 q2_5)))))))))] (pool ca (List.range nl) la lo (List.range (nb + 1)) (va_up ba nb (ad4 q4 q0_5 q1_5 q2_5)) (va_up bt nb ((upd (upd (upd (upd (upd (upd (upd (upd (upd (upd (upd (upd (upd (upd (upd (upd (bt nb).1 0 v1) 2 0) 3 0) 5 0) 6 0) 7 0) 8 0) 9 (-1000001)) 10 (-1)) 11 (-1)) 12 0) 13 0) 14 0) 15 0) 16 0) 17 0), 0, (fun _ => 0), (fun _ => 0))) (List.range np) pa pc (List.range nx) xa bx)) := va_D.part (X := [(x, .inr (10, [.ref (a 0), .int (nI nl), .ref (a 2), .int (nI (nb + 1)), .ref (a 4), .int (nI np), .ref (a 6), .int (nI nx), .ref (a 8), .ref (a 9), .ref (a 10), .ref (a 11), .ref (a 12), .ref (a 13), .ref (a 14)])), ((a 2), .inl (ca 6, 40, .inr (.inr (.inr (.inr (rA (nb + 1) (bA0 (va_up ba nb (ad4 q4 q0_5 q1_5 q2_5)))))))))]) hD [0, 1] (by decide) rfl
      exact W.iret (v := (nI nb)) hx hb hr (fun t ht hW => ⟨⟨(nI nb), (nb + 1, (va_up ba nb (ad4 q4 q0_5 q1_5 q2_5)), (va_up bt nb ((upd (upd (upd (upd (upd (upd (upd (upd (upd (upd (upd (upd (upd (upd (upd (upd (bt nb).1 0 v1) 2 0) 3 0) 5 0) 6 0) 7 0) 8 0) 9 (-1000001)) 10 (-1)) 11 (-1)) 12 0) 13 0) 14 0) 15 0) 16 0) 17 0), 0, (fun _ => 0), (fun _ => 0)))), rfl, ⟨by unfold spB; simp [c_2, (Nat.not_le.mpr nc_3)], by rw [if_neg (nI_nm1 (by omega))], by rw [if_neg (nI_nm1 (by omega))]; exact ⟨_, rfl, rfl, rfl, rfl, rfl⟩, by rw [if_neg (nI_nm1 (by omega))]; exact ⟨_, rfl, ⟨rfl, rfl, rfl, rfl, rfl, rfl⟩, rfl⟩, ⟨hq1, by omega, hq3, hq4, (up_all1 hq5 ⟨wi_cn c_2 (by decide) (by decide), ⟨0, by omega, rfl⟩, ⟨0, by omega, rfl⟩⟩), hq6, hq7⟩⟩, by rw [ht]; dsimp only; exact hP9, by dsimp only; exact hD9⟩, hS.F ht⟩) hS.2.2 dX10_batch_51
    · have nc_3 : ¬ (nb < 40) := fun h9 => c_3 ((nI_ltI (a := nb) (b := 40) (by omega) (by omega)).mpr h9)
      refine lv_iconst (v := (-1)) hx hb dX10_batch_16 (by decide) ?_
      refine W.widen (k := 4) (n := 140) (Nat.le_of_ble_eq_true rfl) (Nat.le_of_ble_eq_true rfl) ?_
      have hP9 : va_P (dC, dI) vwCl (@HAppend.hAppend va_W va_W va_W _ [(x, .inr (10, [.ref (a 0), .int (nI nl), .ref (a 2), .int (nI nb), .ref (a 4), .int (nI np), .ref (a 6), .int (nI nx), .ref (a 8), .ref (a 9), .ref (a 10), .ref (a 11), .ref (a 12), .ref (a 13), .ref (a 14)])), ((a 2), .inl (ca 6, 40, .inr (.inr (.inr (.inr (rA nb (bA0 ba)))))))] (pool ca (List.range nl) la lo (List.range nb) ba bt (List.range np) pa pc (List.range nx) xa bx)) s.heap := va_P.part (X := [(x, .inr (10, [.ref (a 0), .int (nI nl), .ref (a 2), .int (nI nb), .ref (a 4), .int (nI np), .ref (a 6), .int (nI nx), .ref (a 8), .ref (a 9), .ref (a 10), .ref (a 11), .ref (a 12), .ref (a 13), .ref (a 14)])), ((a 2), .inl (ca 6, 40, .inr (.inr (.inr (.inr (rA nb (bA0 ba)))))))]) hP [0, 1] rfl
      have hD9 : va_D A (@HAppend.hAppend va_W va_W va_W _ [(x, .inr (10, [.ref (a 0), .int (nI nl), .ref (a 2), .int (nI nb), .ref (a 4), .int (nI np), .ref (a 6), .int (nI nx), .ref (a 8), .ref (a 9), .ref (a 10), .ref (a 11), .ref (a 12), .ref (a 13), .ref (a 14)])), ((a 2), .inl (ca 6, 40, .inr (.inr (.inr (.inr (rA nb (bA0 ba)))))))] (pool ca (List.range nl) la lo (List.range nb) ba bt (List.range np) pa pc (List.range nx) xa bx)) := va_D.part (X := [(x, .inr (10, [.ref (a 0), .int (nI nl), .ref (a 2), .int (nI nb), .ref (a 4), .int (nI np), .ref (a 6), .int (nI nx), .ref (a 8), .ref (a 9), .ref (a 10), .ref (a 11), .ref (a 12), .ref (a 13), .ref (a 14)])), ((a 2), .inl (ca 6, 40, .inr (.inr (.inr (.inr (rA nb (bA0 ba)))))))]) hD [0, 1] (by decide) rfl
      exact W.iret (v := (-1)) hx hb hr (fun t ht hW => ⟨⟨(-1), (nb, ba, bt), rfl, ⟨by unfold spB; simp [c_2, (Nat.not_lt.mp nc_3)], rfl, rfl, rfl, hQ⟩, by rw [ht]; dsimp only; exact hP9, by dsimp only; exact hD9⟩, hS.F ht⟩) hS.2.2 dX10_batch_17
