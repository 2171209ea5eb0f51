/-! ===== ten times a float: the class's own way answers as the machine's ===== -/
theorem tn_c (x : Int32) : (x.toBitVec.toNat : Int) = if x.toInt < 0 then x.toInt + 4294967296 else x.toInt := by
  have h : x.toInt = x.toBitVec.toInt := rfl
  rw [h, BitVec.toInt_eq_toNat_cond]
  have hl := x.toBitVec.isLt
  split <;> split <;> omega
/-- the exponent's field -/
theorem tf_E (b : Int32) : tfP b = nI (b.toBitVec.toNat / 2 ^ 23 % 256) - 150 := by
  unfold tfP
  rw [pk_and (b >>> (23 &&& 31)) (m := 255) 8 (by decide)]
  have h1 : (b >>> (23 &&& 31)).toInt = b.toInt >>> 23 := pk_shr b (23 &&& 31) 23 (by decide)
  rw [Int.shiftRight_eq_div_pow] at h1
  have h2 := tn_c (b >>> (23 &&& 31))
  have h3 := tn_c b
  have h4 : (b >>> (23 &&& 31)).toBitVec.toNat % 2 ^ 8 = b.toBitVec.toNat / 2 ^ 23 % 256 := by
    rw [h1] at h2
    generalize (b >>> (23 &&& 31)).toBitVec.toNat = X at h2 ⊢
    generalize b.toBitVec.toNat = N at h3 ⊢
    have h5 := b.toInt_lt
    have h6 := b.le_toInt
    generalize b.toInt = B at h2 h3 h5 h6
    split at h2 <;> split at h3 <;> omega
  rw [h4]
theorem tf_D (b : Int32) : tfD b = nI (2 ^ 23 + b.toBitVec.toNat % 2 ^ 23) := by
  unfold tfD
  rw [pk_and b (m := 8388607) 23 (by decide), show (8388608 : Int32) = nI (2 ^ 23) from by decide, tb_or]
  have hy : b.toBitVec.toNat % 2 ^ 23 < 2 ^ 23 := Nat.mod_lt _ (by decide)
  have h1 := Nat.two_pow_add_eq_or_of_lt hy 1
  rw [Nat.mul_one] at h1
  rw [h1, Nat.or_comm]
theorem dec32 (n : Nat) : Jvm.FP.Core.decode Jvm.FP.Core.b32 n = if n / 8388608 % 256 = 255 then (if n % 8388608 = 0 then .inf (Jvm.FP.Core.fieldS Jvm.FP.Core.b32 n) else .nan) else if n / 8388608 % 256 = 0 then .fin (Jvm.FP.Core.fieldS Jvm.FP.Core.b32 n) (n % 8388608) (-149) else .fin (Jvm.FP.Core.fieldS Jvm.FP.Core.b32 n) (8388608 + n % 8388608) (-149 + (((n / 8388608 % 256 : Nat) : Int) - 1)) := rfl
/-- the sign -/
theorem sg32 (b : Int32) : Jvm.FP.Core.fieldS Jvm.FP.Core.b32 b.toUInt32.toNat = decide (b < 0) := by
  have h : Jvm.FP.Core.fieldS Jvm.FP.Core.b32 b.toUInt32.toNat = (b.toBitVec.toNat / 8388608 / 256 % 2 == 1) := rfl
  have h1 := tn_c b
  have h5 := b.toInt_lt
  have h6 := b.le_toInt
  have e0 : (0 : Int32).toInt = 0 := by decide
  rw [h]
  by_cases hb : b < 0
  · rw [decide_eq_true hb]
    rw [Int32.lt_iff_toInt_lt, e0] at hb
    rw [if_pos hb] at h1
    have : b.toBitVec.toNat / 8388608 / 256 % 2 = 1 := by omega
    rw [this]; rfl
  · rw [decide_eq_false hb]
    rw [Int32.lt_iff_toInt_lt, e0] at hb
    rw [if_neg hb] at h1
    have : b.toBitVec.toNat / 8388608 / 256 % 2 = 0 := by omega
    rw [this]; rfl
theorem f2i_small {r : UInt32} (h : r.toNat % 2 ^ 31 < 127 * 2 ^ 23) : FP.f2i r = 0 := by
  show Jvm.FP.Core.toI (Jvm.FP.Core.decode Jvm.FP.Core.b32 r.toNat) = 0
  have hl := r.toNat_lt
  rw [dec32, if_neg (by omega)]
  have key : ∀ (s : Bool) (c : Nat) (k : Nat), c < 2 ^ 24 → 24 ≤ k → Jvm.FP.Core.toI (.fin s c (-(k : Int))) = 0 := by
    intro s c k hc hk
    have h1 : Jvm.FP.Core.truncate s c (-(k : Int)) = 0 := by
      unfold Jvm.FP.Core.truncate
      rw [show (-(k : Int)).toNat = 0 by omega, show (-(-(k : Int))).toNat = k by omega, Nat.pow_zero, Nat.mul_one, Nat.div_eq_of_lt (Nat.lt_of_lt_of_le hc (Nat.pow_le_pow_right (by decide) hk))]
      unfold Jvm.FP.Core.signed
      split <;> rfl
    show Int32.ofInt (max (-2 ^ 31) (min (2 ^ 31 - 1) (Jvm.FP.Core.truncate s c (-(k : Int))))) = 0
    rw [h1]
    decide
  split
  · exact key _ _ 149 (by omega) (by decide)
  · rename_i h2
    have e : (-149 + (((r.toNat / 8388608 % 256 : Nat) : Int) - 1)) = -((150 - r.toNat / 8388608 % 256 : Nat) : Int) := by omega
    rw [e]
    exact key _ _ _ (by omega) (by omega)
theorem tr_big (s : Bool) {c q : Nat} (hc : 2 ^ 23 ≤ c) (hq : 8 ≤ q) : Jvm.FP.Core.toI (.fin s c (q : Int)) = if s = true then -2147483648 else 2147483647 := by
  have h1 : 2 ^ 31 ≤ c * 2 ^ q := Nat.le_trans (show 2 ^ 31 ≤ 2 ^ 23 * 2 ^ 8 by decide) (Nat.mul_le_mul hc (Nat.pow_le_pow_right (by decide) hq))
  have ht : Jvm.FP.Core.truncate s c (q : Int) = Jvm.FP.Core.signed s (c * 2 ^ q) := by
    unfold Jvm.FP.Core.truncate
    rw [show ((q : Int)).toNat = q by omega, show (-(q : Int)).toNat = 0 by omega, Nat.pow_zero, Nat.div_one]
  show Int32.ofInt (max (-2 ^ 31) (min (2 ^ 31 - 1) (Jvm.FP.Core.truncate s c (q : Int)))) = _
  rw [ht]
  generalize c * 2 ^ q = v at h1
  unfold Jvm.FP.Core.signed
  cases s with
  | false =>
    have h2 : max (-2 ^ 31) (min (2 ^ 31 - 1) ((v : Nat) : Int)) = 2 ^ 31 - 1 := by omega
    show Int32.ofInt (max (-2 ^ 31) (min (2 ^ 31 - 1) ((v : Nat) : Int))) = 2147483647
    rw [h2]; decide
  | true =>
    have h2 : max (-2 ^ 31) (min (2 ^ 31 - 1) (-((v : Nat) : Int))) = -2 ^ 31 := by omega
    show Int32.ofInt (max (-2 ^ 31) (min (2 ^ 31 - 1) (-((v : Nat) : Int)))) = -2147483648
    rw [h2]; decide
theorem f2i_big {r : UInt32} (h : 158 * 2 ^ 23 ≤ r.toNat % 2 ^ 31) (h2 : r.toNat % 2 ^ 31 ≤ 255 * 2 ^ 23) : FP.f2i r = if Jvm.FP.Core.fieldS Jvm.FP.Core.b32 r.toNat = true then -2147483648 else 2147483647 := by
  show Jvm.FP.Core.toI (Jvm.FP.Core.decode Jvm.FP.Core.b32 r.toNat) = _
  have hl := r.toNat_lt
  by_cases h3 : r.toNat / 8388608 % 256 = 255
  · rw [dec32, if_pos h3, if_pos (by omega)]
    cases Jvm.FP.Core.fieldS Jvm.FP.Core.b32 r.toNat <;> decide
  · rw [dec32, if_neg h3, if_neg (by omega)]
    have e : (-149 + (((r.toNat / 8388608 % 256 : Nat) : Int) - 1)) = ((r.toNat / 8388608 % 256 - 150 : Nat) : Int) := by omega
    rw [e]
    exact tr_big _ (by omega) (by omega)
theorem v10 : Jvm.FP.Core.val32 1092616192 = .fin false 10485760 (-20) := by decide
theorem mul_small {x : UInt32} (h : x.toNat % 2 ^ 31 < 120 * 2 ^ 23) : FP.f2i (FP.fmul 1092616192 x) = 0 := f2i_small (by
  have h1 : (FP.fmul 1092616192 x).toNat % 2 ^ 31 < (131 + 120 - 129 + 3) * 2 ^ 23 := Jvm.FP.Core.fmul_mag (a := 1092616192) (b := x) (Ka := 131) (Kb := 120) (by decide) h (by decide) (by decide)
  omega)
theorem mul_big {x : UInt32} (h : 158 * 2 ^ 23 ≤ x.toNat % 2 ^ 31) (h2 : x.toNat % 2 ^ 31 ≤ 255 * 2 ^ 23) : FP.f2i (FP.fmul 1092616192 x) = if Jvm.FP.Core.fieldS Jvm.FP.Core.b32 x.toNat = true then -2147483648 else 2147483647 := by
  have hl := x.toNat_lt
  have hv : Jvm.FP.Core.val32 (FP.fmul 1092616192 x) = Jvm.FP.Core.round Jvm.FP.Core.b32 (Jvm.FP.Core.exactProduct (Jvm.FP.Core.val32 1092616192) (Jvm.FP.Core.val32 x)) := Jvm.FP.Core.val32_fmul _ _
  rw [v10] at hv
  have hx : Jvm.FP.Core.val32 x = Jvm.FP.Core.decode Jvm.FP.Core.b32 x.toNat := rfl
  rw [hx, dec32] at hv
  by_cases h3 : x.toNat / 8388608 % 256 = 255
  · rw [if_pos h3, if_pos (by omega)] at hv
    show Jvm.FP.Core.toI (Jvm.FP.Core.val32 (FP.fmul 1092616192 x)) = _
    rw [hv]
    cases Jvm.FP.Core.fieldS Jvm.FP.Core.b32 x.toNat <;> decide
  · rw [if_neg h3, if_neg (by omega)] at hv
    have e : (-149 + (((x.toNat / 8388608 % 256 : Nat) : Int) - 1)) = ((x.toNat / 8388608 % 256 - 150 : Nat) : Int) := by omega
    rw [e] at hv
    have hk : 8 ≤ x.toNat / 8388608 % 256 - 150 := by omega
    generalize hS : Jvm.FP.Core.fieldS Jvm.FP.Core.b32 x.toNat = S at hv ⊢
    generalize x.toNat / 8388608 % 256 - 150 = k at hv hk
    have hc : 8388608 ≤ 8388608 + x.toNat % 8388608 := Nat.le_add_right _ _
    generalize 8388608 + x.toNat % 8388608 = c at hv hc
    have hv2 : Jvm.FP.Core.decode Jvm.FP.Core.b32 (FP.fmul 1092616192 x).toNat = Jvm.FP.Core.roundRatio Jvm.FP.Core.b32 S (10485760 * c) 1 (-20 + (k : Int)) := by
      refine Eq.trans hv ?_
      show Jvm.FP.Core.roundRatio Jvm.FP.Core.b32 (false != S) (10485760 * c) 1 (-20 + (k : Int)) = _
      rw [show (false != S) = S from by cases S <;> rfl]
    have hu : Jvm.FP.Core.unitsOf Jvm.FP.Core.b32 (158 * 2 ^ 23) = 2 ^ 180 := by decide +kernel
    have hm : 158 * 2 ^ 23 ≤ Jvm.FP.Core.mag Jvm.FP.Core.b32 (FP.fmul 1092616192 x).toNat := by
      refine Jvm.FP.Core.mag_ge (e0 := -149) Jvm.FP.Core.good_b32 hv2 (by decide) (by decide) (by omega) (by decide) ?_
      rw [hu, show (Jvm.FP.Core.b32.qmin - -149).toNat = 0 by decide, Nat.pow_zero, Nat.mul_one, Nat.mul_one]
      unfold Jvm.FP.Core.inUnits
      rw [show (-20 + (k : Int) - -149).toNat = 129 + k by omega]
      calc 2 ^ 180 ≤ 2 ^ 46 * 2 ^ 137 := by decide
        _ ≤ (10485760 * c) * 2 ^ (129 + k) := Nat.mul_le_mul (Nat.le_trans (show 2 ^ 46 ≤ 10485760 * 8388608 by decide) (Nat.mul_le_mul_left _ hc)) (Nat.pow_le_pow_right (by decide) (by omega))
    have hnn : ¬ Jvm.FP.Core.infBits Jvm.FP.Core.b32 < Jvm.FP.Core.mag Jvm.FP.Core.b32 (FP.fmul 1092616192 x).toNat := fun h9 => Jvm.FP.Core.roundRatio_ne_nan _ _ _ _ _ (hv2 ▸ (Jvm.FP.Core.decode_nan _).mpr h9)
    have hsg := Jvm.FP.Core.sgn_decode (f := Jvm.FP.Core.b32) (Nat.le_of_not_lt hnn) (Jvm.FP.Core.lt_full32 (FP.fmul 1092616192 x))
    rw [← Jvm.FP.Core.fieldS_mag _ (Jvm.FP.Core.lt_full32 _), hv2, Jvm.FP.Core.sgn_roundRatio] at hsg
    rw [Jvm.FP.Core.mag_toNat32] at hm hnn
    rw [Jvm.FP.Core.infBits_b32] at hnn
    rw [f2i_big hm (by omega), ← hsg]
theorem fit32 {c : Nat} {q : Int} (h1 : 2 ^ 23 ≤ c) (h2 : c < 2 ^ 24) (h3 : -149 ≤ q) (h4 : q ≤ 104) (s : Bool) : Jvm.FP.Core.fits Jvm.FP.Core.b32 (.fin s c q) := ⟨h2, h3, h4, Or.inr h1⟩
theorem vi_D {D : Nat} (h1 : 2 ^ 23 ≤ D) (h2 : D < 2 ^ 24) {p : Nat} (hp : p ≤ 7) : Jvm.FP.Core.val32 (FP.i2f (nI (D * 2 ^ p))) = .fin false D (p : Int) := by
  have h3 : D * 2 ^ p < 2 ^ 24 * 2 ^ 7 := Nat.lt_of_lt_of_le (Nat.mul_lt_mul_of_pos_right h2 (Nat.two_pow_pos p)) (Nat.mul_le_mul_left _ (Nat.pow_le_pow_right (by decide) hp))
  have h4 : (nI (D * 2 ^ p)).toInt = ((D * 2 ^ p : Nat) : Int) := nI_toInt (by omega)
  have h5 : Jvm.FP.Core.val32 (FP.i2f (nI (D * 2 ^ p))) = Jvm.FP.Core.round Jvm.FP.Core.b32 (Jvm.FP.Core.ofInt (nI (D * 2 ^ p)).toInt) := Jvm.FP.Core.val32_i2f _
  rw [h5, h4]
  unfold Jvm.FP.Core.ofInt
  rw [decide_eq_false (by omega), Int.natAbs_natCast]
  show Jvm.FP.Core.roundRatio Jvm.FP.Core.b32 false (D * 2 ^ p) 1 0 = _
  refine Jvm.FP.Core.roundRatio_exact Jvm.FP.Core.good_b32 (by decide) (fit32 h1 h2 (by omega) (by omega) false) ?_
  rw [show (0 - (p : Int)).toNat = 0 by omega, show ((p : Int) - 0).toNat = p by omega, Nat.pow_zero, Nat.mul_one, Nat.mul_one]
theorem vi_2 {k : Nat} (hk : k ≤ 30) : Jvm.FP.Core.val32 (FP.i2f (nI (2 ^ k))) = .fin false (2 ^ 23) ((k : Int) - 23) := by
  have h3 : 2 ^ k ≤ 2 ^ 30 := Nat.pow_le_pow_right (by decide) hk
  have h4 : (nI (2 ^ k)).toInt = ((2 ^ k : Nat) : Int) := nI_toInt (by omega)
  have h5 : Jvm.FP.Core.val32 (FP.i2f (nI (2 ^ k))) = Jvm.FP.Core.round Jvm.FP.Core.b32 (Jvm.FP.Core.ofInt (nI (2 ^ k)).toInt) := Jvm.FP.Core.val32_i2f _
  rw [h5, h4]
  unfold Jvm.FP.Core.ofInt
  rw [decide_eq_false (Int.not_lt.mpr (Int.natCast_nonneg _)), Int.natAbs_natCast]
  show Jvm.FP.Core.roundRatio Jvm.FP.Core.b32 false (2 ^ k) 1 0 = _
  refine Jvm.FP.Core.roundRatio_exact Jvm.FP.Core.good_b32 (by decide) (fit32 (Nat.le_refl _) (by decide) (by omega) (by omega) false) ?_
  rw [Nat.mul_one]
  rcases Nat.le_total k 23 with h | h
  · rw [show (0 - ((k : Int) - 23)).toNat = 23 - k by omega, show ((k : Int) - 23 - 0).toNat = 0 by omega, Nat.pow_zero, Nat.mul_one, ← Nat.pow_add, show k + (23 - k) = 23 by omega]
  · rw [show (0 - ((k : Int) - 23)).toNat = 0 by omega, show ((k : Int) - 23 - 0).toNat = k - 23 by omega, Nat.pow_zero, Nat.mul_one, ← Nat.pow_add, show 23 + (k - 23) = k by omega]
theorem sh7 : ∀ p : Fin 8, ((nI p.val &&& 31).toBitVec.smod 32).toNat = p.val := by decide +kernel
/-- what the class scales a float to: its size -/
theorem tfS_v (b : Int32) (h1 : 120 ≤ b.toBitVec.toNat / 2 ^ 23 % 256) (h2 : b.toBitVec.toNat / 2 ^ 23 % 256 ≤ 157) : Jvm.FP.Core.val32 (tfS b) = .fin false (2 ^ 23 + b.toBitVec.toNat % 2 ^ 23) (((b.toBitVec.toNat / 2 ^ 23 % 256 : Nat) : Int) - 150) := by
  have hD1 : 2 ^ 23 ≤ 2 ^ 23 + b.toBitVec.toNat % 2 ^ 23 := Nat.le_add_right _ _
  have hD2 : 2 ^ 23 + b.toBitVec.toNat % 2 ^ 23 < 2 ^ 24 := by
    have := Nat.mod_lt b.toBitVec.toNat (show 0 < 2 ^ 23 by decide)
    omega
  unfold tfS
  rw [tf_E, tf_D]
  generalize 2 ^ 23 + b.toBitVec.toNat % 2 ^ 23 = D at hD1 hD2 ⊢
  have he : b.toBitVec.toNat / 2 ^ 23 % 256 < 256 := Nat.mod_lt _ (by decide)
  generalize b.toBitVec.toNat / 2 ^ 23 % 256 = e at h1 h2 he ⊢
  have t := tf_lt ⟨e, he⟩
  by_cases h3 : e < 150
  · rw [if_pos (t.1.mpr h3)]
    have sh : (1 : Int32) <<< ((-(nI e - 150)) &&& 31) = nI (2 ^ (150 - e)) := tf_sh ⟨e, he⟩ h1 h3
    rw [sh]
    have hv : Jvm.FP.Core.val32 (FP.fdiv (FP.i2f (nI D)) (FP.i2f (nI (2 ^ (150 - e))))) = Jvm.FP.Core.quotient Jvm.FP.Core.b32 (Jvm.FP.Core.val32 (FP.i2f (nI D))) (Jvm.FP.Core.val32 (FP.i2f (nI (2 ^ (150 - e))))) := Jvm.FP.Core.val32_fdiv _ _
    have v1 := vi_D hD1 hD2 (p := 0) (by decide)
    rw [Nat.pow_zero, Nat.mul_one] at v1
    rw [hv, v1, vi_2 (k := 150 - e) (by omega)]
    show (if (2 ^ 23 : Nat) = 0 then (if D = 0 then Jvm.FP.Core.Datum.nan else Jvm.FP.Core.Datum.inf (false != false)) else Jvm.FP.Core.roundRatio Jvm.FP.Core.b32 (false != false) D (2 ^ 23) (((0 : Nat) : Int) - (((150 - e : Nat) : Int) - 23))) = _
    rw [if_neg (by decide)]
    show Jvm.FP.Core.roundRatio Jvm.FP.Core.b32 false D (2 ^ 23) (((0 : Nat) : Int) - (((150 - e : Nat) : Int) - 23)) = _
    refine Jvm.FP.Core.roundRatio_exact Jvm.FP.Core.good_b32 (by decide) (fit32 hD1 hD2 (by omega) (by omega) false) ?_
    rw [show (((0 : Nat) : Int) - (((150 - e : Nat) : Int) - 23) - ((e : Int) - 150)).toNat = 23 by omega, show ((e : Int) - 150 - (((0 : Nat) : Int) - (((150 - e : Nat) : Int) - 23))).toNat = 0 by omega, Nat.pow_zero, Nat.mul_one]
  · rw [if_neg (fun h9 => h3 (t.1.mp h9))]
    have e1 : nI e - 150 = nI (e - 150) := pk_sub (b := 150) (by omega)
    rw [e1, pk_shlN (nI (e - 150) &&& 31) (e - 150) (sh7 ⟨e - 150, by omega⟩) (by
      have : D * 2 ^ (e - 150) < 2 ^ 24 * 2 ^ 7 := Nat.lt_of_lt_of_le (Nat.mul_lt_mul_of_pos_right hD2 (Nat.two_pow_pos _)) (Nat.mul_le_mul_left _ (Nat.pow_le_pow_right (by decide) (by omega)))
      omega), vi_D hD1 hD2 (p := e - 150) (by omega)]
    rw [show ((e - 150 : Nat) : Int) = (e : Int) - 150 by omega]
theorem neg10 : (3240099840 : UInt32) = Jvm.FP.Core.fneg 1092616192 := by decide
/-- ten times a float that is a number -/
theorem tf_eq (b : Int32) (hn : ¬ 2139095040 < (b &&& 2147483647)) : tf b = FP.f2i (FP.fmul 1092616192 b.toUInt32) := by
  have hN : b.toUInt32.toNat = b.toBitVec.toNat := rfl
  have hl := b.toBitVec.isLt
  have hm : b.toBitVec.toNat % 2 ^ 31 ≤ 255 * 2 ^ 23 := by
    rw [pk_and b (m := 2147483647) 31 (by decide), show (2139095040 : Int32) = nI 2139095040 from by decide] at hn
    have h9 := Nat.mod_lt b.toBitVec.toNat (show 0 < 2 ^ 31 by decide)
    rcases Nat.lt_or_ge 2139095040 (b.toBitVec.toNat % 2 ^ 31) with h | h
    · exact absurd ((nI_ltI (by decide) h9).mpr h) hn
    · omega
  have he : b.toBitVec.toNat / 2 ^ 23 % 256 < 256 := Nat.mod_lt _ (by decide)
  have t := tf_lt ⟨_, he⟩
  have tE := tf_E b
  unfold tf
  by_cases c1 : b.toBitVec.toNat / 2 ^ 23 % 256 < 120
  · rw [if_pos (by rw [tE]; exact t.2.1.mpr c1)]
    exact (mul_small (by rw [hN]; omega)).symm
  · rw [if_neg (by rw [tE]; exact fun h9 => c1 (t.2.1.mp h9))]
    by_cases c2 : 157 < b.toBitVec.toNat / 2 ^ 23 % 256
    · rw [if_pos (by rw [tE]; exact t.2.2.mpr c2), mul_big (by rw [hN]; omega) (by rw [hN]; exact hm), sg32]
      by_cases hb : b < 0
      · rw [if_neg (Int32.not_le.mpr hb), if_pos (decide_eq_true hb)]
      · rw [if_pos (Int32.not_lt.mp hb), if_neg (by rw [decide_eq_false hb]; decide)]
    · rw [if_neg (by rw [tE]; exact fun h9 => c2 (t.2.2.mp h9))]
      have hs := tfS_v b (by omega) (by omega)
      have hx : Jvm.FP.Core.val32 b.toUInt32 = .fin (decide (b < 0)) (2 ^ 23 + b.toBitVec.toNat % 2 ^ 23) (((b.toBitVec.toNat / 2 ^ 23 % 256 : Nat) : Int) - 150) := by
        have h8 : Jvm.FP.Core.val32 b.toUInt32 = Jvm.FP.Core.decode Jvm.FP.Core.b32 b.toUInt32.toNat := rfl
        rw [h8, dec32, sg32, hN, if_neg (by omega), if_neg (by omega)]
        congr 1
        omega
      have hs0 : Jvm.FP.Core.val32 (tfS b) ≠ .nan := by rw [hs]; exact fun h9 => by cases h9
      by_cases hb : b < 0
      · rw [if_neg (Int32.not_le.mpr hb)]
        rw [decide_eq_true hb] at hx
        have e1 : b.toUInt32 = Jvm.FP.Core.fneg (tfS b) := by
          refine (Jvm.FP.Core.val32_inj ?_ ?_).symm
          · rw [Jvm.FP.Core.val32_fneg, hs]; exact fun h9 => by cases h9
          · rw [Jvm.FP.Core.val32_fneg, hs, hx]; rfl
        rw [e1, neg10]
        show FP.f2i (Jvm.FP.Core.fmul (Jvm.FP.Core.fneg 1092616192) (tfS b)) = FP.f2i (Jvm.FP.Core.fmul 1092616192 (Jvm.FP.Core.fneg (tfS b)))
        rw [Jvm.FP.Core.fmul_fneg, Jvm.FP.Core.fmul_comm 1092616192 (Jvm.FP.Core.fneg (tfS b)), Jvm.FP.Core.fmul_fneg, Jvm.FP.Core.fmul_comm (tfS b)]
      · rw [if_pos (Int32.not_lt.mp hb)]
        rw [decide_eq_false hb] at hx
        rw [Jvm.FP.Core.val32_inj hs0 (hs.trans hx.symm)]

/-! ===== cooking: the class's way and the reference's ===== -/
theorem ftG_cg {nu nu2 dg dg2 : Nat → Int32} : ∀ (k i : Nat) (t h : Int32), (∀ q, i ≤ q → q < i + k → nu q = nu2 q ∧ (¬ nu q = 0 → dg q = dg2 q)) → ftG nu dg k i t h = ftG nu2 dg2 k i t h
  | 0, _, _, _, _ => rfl
  | k + 1, i, t, h, hq => by
    have up := fun (t' h' : Int32) => ftG_cg (nu := nu) (nu2 := nu2) (dg := dg) (dg2 := dg2) k (i + 1) t' h' (fun q h1 h2 => hq q (by omega) (by omega))
    obtain ⟨e1, e2⟩ := hq i (Nat.le_refl _) (by omega)
    rw [ftG, ftG, up, up, ← e1]
    by_cases h0 : nu i = 0
    · rw [if_pos h0, if_pos h0]
    · rw [if_neg h0, if_neg h0, e2 h0]
theorem fgG_cg {y y2 : Nat → Bool} : ∀ (k i : Nat), (∀ q, i ≤ q → q < i + k → y q = y2 q) → fgG y k i = fgG y2 k i
  | 0, _, _ => rfl
  | k + 1, i, hq => by
    rw [fgG, fgG, hq i (Nat.le_refl _) (by omega), fgG_cg k (i + 1) (fun q h1 h2 => hq q (by omega) (by omega))]
def tS (n : Nat) (fd : Nat → Int32) : Prop := ∀ a b, a < b → b < n → fd a < fd b
theorem lsM_no {fd lt : Nat → Int32} {top : Int32} : ∀ (k i : Nat) (c : Int32), (∀ q, i ≤ q → q < i + k → ¬ fd q ≤ top) → lsM fd lt top k i c = c
  | 0, _, _, _ => rfl
  | k + 1, i, c, h => by
    rw [lsM, if_neg (h i (Nat.le_refl _) (by omega))]
    exact lsM_no k (i + 1) c (fun q h1 h2 => h q (by omega) (by omega))
theorem lsG_M {fd lt : Nat → Int32} {top : Int32} {n : Nat} (hs : tS n fd) : ∀ (k i : Nat) (c : Int32), i + k = n → lsG fd lt top k i c = lsM fd lt top k i c
  | 0, _, _, _ => rfl
  | k + 1, i, c, h => by
    rw [lsG, lsM]
    by_cases h1 : fd i ≤ top
    · rw [if_pos h1, if_pos h1]
      exact lsG_M hs k (i + 1) (lt i) (by omega)
    · rw [if_neg h1, if_neg h1]
      refine (lsM_no k (i + 1) c (fun q h2 h3 h4 => ?_)).symm
      have h5 := hs i q (by omega) (by omega)
      rw [Int32.lt_iff_toInt_lt] at h5
      rw [Int32.le_iff_toInt_le] at h1 h4
      omega
theorem tS_0 (fd : Nat → Int32) : tS 0 fd := fun a b _ h => absurd h (Nat.not_lt_zero b)
theorem tS_add {n : Nat} {fd : Nat → Int32} {v1 v2 : Int32} (h : tS n fd) (ha : ¬ adL n fd v1 v2 = -1) : tS (n + 1) (upd fd n v1) := by
  have h0 : n = 0 ∨ fd (n - 1) < v1 := by
    rcases Nat.eq_zero_or_pos n with h1 | h1
    · exact Or.inl h1
    · refine Or.inr (Int32.not_le.mp (fun h9 => ha ?_))
      unfold adL
      by_cases h2 : 16 ≤ n
      · rw [if_pos h2]
      · rw [if_neg h2, if_pos ⟨by omega, h9⟩]
  intro a b hab hb
  by_cases e : b = n
  · subst e
    rw [pk_us, pk_un (by omega)]
    rcases h0 with h1 | h1
    · omega
    · by_cases e2 : a = b - 1
      · rw [e2]; exact h1
      · have h3 := h a (b - 1) (by omega) (by omega)
        rw [Int32.lt_iff_toInt_lt] at h1 h3 ⊢
        omega
  · rw [pk_un e, pk_un (by omega)]
    exact h a b hab (by omega)
/-- a stored float against its bits -/
def fR (x : UInt32) (b : Int32) : Prop := if 2139095040 < (b &&& 2147483647) then Jvm.FP.Core.val32 x = .nan else x = b.toUInt32
theorem nan_and (b : Int32) : 2139095040 < (b &&& 2147483647) ↔ Jvm.FP.Core.val32 b.toUInt32 = .nan := by
  have h1 := Jvm.FP.Core.ne_nan32 b.toUInt32
  have hN : b.toUInt32.toNat = b.toBitVec.toNat := rfl
  have h9 := Nat.mod_lt b.toBitVec.toNat (show 0 < 2 ^ 31 by decide)
  rw [pk_and b (m := 2147483647) 31 (by decide), show (2139095040 : Int32) = nI 2139095040 from by decide, nI_ltI (by decide) h9]
  rw [hN] at h1
  constructor
  · intro h
    refine Classical.byContradiction (fun h2 => ?_)
    have := h1.mp h2
    omega
  · intro h
    refine Nat.lt_of_not_le (fun h2 => (h1.mpr h2) h)
theorem fcmp_s {v : UInt32} (h : Jvm.FP.Core.val32 v ≠ .nan) : FP.fcmp v v = some .eq := Jvm.FP.Core.fcmp_self h
/-- whether a stored float is a number; ten times it -/
theorem fR_n {x : UInt32} {b : Int32} (h : fR x b) : Op.cmpValue (FP.fcmp x x) .l = 0 ↔ ¬ 2139095040 < (b &&& 2147483647) := by
  unfold fR at h
  by_cases h0 : 2139095040 < (b &&& 2147483647)
  · rw [if_pos h0] at h
    exact ⟨fun h1 => absurd h (nn_self h1), fun h1 => absurd h0 h1⟩
  · rw [if_neg h0] at h
    refine ⟨fun _ => h0, fun _ => ?_⟩
    rw [fcmp_s (by rw [h]; exact fun h9 => h0 ((nan_and b).mpr h9))]
    decide
theorem fR_d {x : UInt32} {b : Int32} (h : fR x b) (hn : ¬ 2139095040 < (b &&& 2147483647)) : FP.f2i (FP.fmul 1092616192 x) = tf b := by
  unfold fR at h
  rw [if_neg hn] at h
  rw [h, tf_eq b hn]
theorem fR_z : fR 0 0 := by
  unfold fR
  rw [if_neg (by decide)]
  decide
