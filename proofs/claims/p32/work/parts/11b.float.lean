/-! ===== ten times a float: no NaN comes out ===== -/
def tfP (b : Int32) : Int32 := ((b >>> (23 &&& 31)) &&& 255) - 150
def tfD (b : Int32) : Int32 := (b &&& 8388607) ||| 8388608
def tfS (b : Int32) : UInt32 := if tfP b < 0 then FP.fdiv (FP.i2f (tfD b)) (FP.i2f (1 <<< ((-(tfP b)) &&& 31))) else FP.i2f (tfD b <<< (tfP b &&& 31))
/-- ten times the float with these bits, cut -/
def tf (b : Int32) : Int32 := if tfP b < -30 then 0 else if 7 < tfP b then (if 0 ≤ b then 2147483647 else -2147483648) else FP.f2i (FP.fmul (if 0 ≤ b then 1092616192 else 3240099840) (tfS b))
theorem n32_of {r : UInt32} (h : r.toNat % 2 ^ 31 ≤ 255 * 2 ^ 23) : vf_n32 r := by
  unfold vf_n32
  rw [UInt32.le_iff_toNat_le, UInt32.toNat_and, show (0x7fffffff : UInt32).toNat = 2 ^ 31 - 1 from by decide, Nat.and_two_pow_sub_one_eq_mod, show (0x7f800000 : UInt32).toNat = 255 * 2 ^ 23 from by decide]
  exact h
theorem tf_sh : ∀ e : Fin 256, 120 ≤ e.val → e.val < 150 → (1 : Int32) <<< ((-(nI e.val - 150)) &&& 31) = nI (2 ^ (150 - e.val)) := by decide +kernel
theorem tf_lt : ∀ e : Fin 256, (nI e.val - 150 < 0 ↔ e.val < 150) ∧ (nI e.val - 150 < -30 ↔ e.val < 120) ∧ (7 < nI e.val - 150 ↔ 157 < e.val) := by decide +kernel
theorem tfP_n (b : Int32) : ∃ e : Nat, e < 256 ∧ tfP b = nI e - 150 := by
  obtain ⟨e, he, h⟩ := pk_andE (b >>> (23 &&& 31)) (m := 255) 8 (by decide)
  exact ⟨e, he, by unfold tfP; rw [h]⟩
theorem tfD_n (b : Int32) : ∃ d : Nat, tfD b = nI d ∧ 2 ^ 23 ≤ d ∧ d < 2 ^ 24 := by
  obtain ⟨y, hy, h⟩ := pk_andE b (m := 8388607) 23 (by decide)
  refine ⟨2 ^ 23 + y, ?_, by omega, by omega⟩
  unfold tfD
  rw [h]
  have h1 := Nat.two_pow_add_eq_or_of_lt hy 1
  rw [Nat.mul_one] at h1
  rw [h1]
  apply Int32.toBitVec_inj.mp
  show (Int32.ofNat y ||| Int32.ofNat (2 ^ 23)).toBitVec = (Int32.ofNat (2 ^ 23 ||| y)).toBitVec
  rw [Int32.toBitVec_or]
  apply BitVec.eq_of_toNat_eq
  rw [BitVec.toNat_or]
  show y % 2 ^ 32 ||| 2 ^ 23 % 2 ^ 32 = (2 ^ 23 ||| y) % 2 ^ 32
  rw [Nat.mod_eq_of_lt (by omega), Nat.mod_eq_of_lt (by decide), Nat.mod_eq_of_lt (by rw [← h1]; omega), Nat.or_comm]
theorem i2f_mag {v : Int32} {j K : Nat} (hi : v.toInt.natAbs ≤ 2 ^ j) (hK : 1 ≤ K) (h : j + 150 ≤ 23 + K) : (FP.i2f v).toNat % 2 ^ 31 ≤ K * 2 ^ 23 :=
  Jvm.FP.Core.fromInt_mag32 (Jvm.FP.Core.toNat_i2f v) hi hK (by omega)
theorem i2f_ge {v : Int32} (hi : v.toInt ≠ 0) : 127 * 2 ^ 23 ≤ (FP.i2f v).toNat % 2 ^ 31 := Jvm.FP.Core.fromInt_ge32 (Jvm.FP.Core.toNat_i2f v) hi
theorem div_m {b : Int32} (h1 : ¬ tfP b < -30) (h3 : tfP b < 0) : (FP.fdiv (FP.i2f (tfD b)) (FP.i2f (1 <<< ((-(tfP b)) &&& 31)))).toNat % 2 ^ 31 < 153 * 2 ^ 23 := by
  obtain ⟨e, he, hP⟩ := tfP_n b
  obtain ⟨d, hd, d1, d2⟩ := tfD_n b
  rw [hP] at h1 h3 ⊢
  rw [hd]
  have t := tf_lt ⟨e, he⟩
  have e1 : e < 150 := t.1.mp h3
  have e2 : ¬ e < 120 := fun h => h1 (t.2.1.mpr h)
  have sh : (1 : Int32) <<< ((-(nI e - 150)) &&& 31) = nI (2 ^ (150 - e)) := tf_sh ⟨e, he⟩ (show 120 ≤ e by omega) e1
  rw [sh]
  have p1 : 2 ^ (150 - e) ≤ 2 ^ 30 := Nat.pow_le_pow_right (by decide) (by omega)
  have p2 : 0 < 2 ^ (150 - e) := Nat.two_pow_pos _
  have q1 : (nI (2 ^ (150 - e))).toInt = ((2 ^ (150 - e) : Nat) : Int) := nI_toInt (by omega)
  have q2 : (nI d).toInt = (d : Int) := nI_toInt (by omega)
  have a1 := i2f_mag (v := nI d) (j := 24) (K := 151) (by rw [q2]; omega) (by decide) (by decide)
  have b1 := i2f_mag (v := nI (2 ^ (150 - e))) (j := 30) (K := 157) (by rw [q1]; omega) (by decide) (by decide)
  have b2 := i2f_ge (v := nI (2 ^ (150 - e))) (by rw [q1]; omega)
  have r := Jvm.FP.Core.fdiv_mag (K := 152) (L := 127) (a := FP.i2f (nI d)) (b := FP.i2f (nI (2 ^ (150 - e)))) (by omega) b2 (by omega) (by decide) (by decide)
  exact Nat.lt_of_lt_of_le r (by decide)
theorem nn_div {b : Int32} (h1 : ¬ tfP b < -30) (h3 : tfP b < 0) : vf_n32 (FP.fdiv (FP.i2f (tfD b)) (FP.i2f (1 <<< ((-(tfP b)) &&& 31)))) := n32_of (by have := div_m h1 h3; omega)
theorem tfS_m {b : Int32} (h1 : ¬ tfP b < -30) : (tfS b).toNat % 2 ^ 31 < 159 * 2 ^ 23 := by
  unfold tfS
  split
  · rename_i h3
    have := div_m h1 h3
    omega
  · have := i2f_mag (v := tfD b <<< (tfP b &&& 31)) (j := 31) (K := 158) (Jvm.FP.Core.int32_abs _) (by decide) (by decide)
    omega
theorem nn_mul {b : Int32} (h1 : ¬ tfP b < -30) (h2 : ¬ 7 < tfP b) (c : UInt32) (hc : c = 1092616192 ∨ c = 3240099840) : vf_n32 (FP.fmul c (tfS b)) := by
  have hm : c.toNat % 2 ^ 31 < 131 * 2 ^ 23 := by rcases hc with rfl | rfl <;> decide
  have r : (FP.fmul c (tfS b)).toNat % 2 ^ 31 < (131 + 159 - 129 + 3) * 2 ^ 23 := Jvm.FP.Core.fmul_mag (Ka := 131) (Kb := 159) hm (tfS_m h1) (by decide) (by decide)
  exact n32_of (by omega)
