def ntI (K Q : Nat → Int32) (k : Nat) : Int32 := if K (Q k).toNatClampNeg = 4 then 1 else 0
theorem ntI_z (K Q : Nat → Int32) (k : Nat) : ntI K Q k = 0 ∨ ntI K Q k = 1 := by
  unfold ntI
  split
  · exact Or.inr rfl
  · exact Or.inl rfl
/-- why one may not come -/
def blk (K Q : Nat → Int32) (n st k : Nat) : Prop := st.testBit k = true ∨ (¬ ntI K Q k = 0 ∧ ∃ j, j < n ∧ ntI K Q j = 0 ∧ st.testBit j = false)
theorem tb_ex (p : Nat → Bool) : ∀ n, tb_ct p n < n → ∃ k, k < n ∧ p k = false
  | 0, h => absurd h (by omega)
  | n + 1, h => by
    cases hp : p n with
    | false => exact ⟨n, by omega, hp⟩
    | true =>
      have h1 : tb_ct p n + (if p n then 1 else 0) < n + 1 := h
      rw [hp, if_pos rfl] at h1
      obtain ⟨k, hk, h2⟩ := tb_ex p n (by omega)
      exact ⟨k, by omega, h2⟩
/-- while some are wanting, one may come -/
theorem blk_no {K Q : Nat → Int32} {n st : Nat} (hc : tb_ct (fun k => st.testBit k) n < n) (h : ∀ k, k < n → blk K Q n st k) : False := by
  obtain ⟨k, hk, h1⟩ := tb_ex _ n hc
  rcases h k hk with h2 | ⟨_, j, hj, h3, h4⟩
  · rw [h1] at h2; cases h2
  · rcases h j hj with h5 | ⟨h5, _⟩
    · rw [h4] at h5; cases h5
    · exact h5 h3
theorem or_bit {st b k : Nat} (hne : ¬ k = b) : (st ||| 2 ^ b).testBit k = st.testBit k := by
  rw [Nat.testBit_or, Nat.testBit_two_pow_of_ne (fun h => hne h.symm), Bool.or_false]
theorem or_ct {st b n : Nat} (hb : b < n) (h : st.testBit b = false) : tb_ct (fun k => (st ||| 2 ^ b).testBit k) n = tb_ct (fun k => st.testBit k) n + 1 :=
  (tb_off (p := fun k => (st ||| 2 ^ b).testBit k) (q := fun k => st.testBit k) (i := b) (by show (st ||| 2 ^ b).testBit b = true; rw [Nat.testBit_or, Nat.testBit_two_pow_self, Bool.or_true]) h hb (fun k _ hne => (or_bit hne).symm)).symm
theorem ct_0 (n : Nat) : tb_ct (fun k => (0 : Nat).testBit k) n = 0 := by
  induction n with
  | zero => rfl
  | succ n ih => show tb_ct _ n + _ = 0; rw [ih]; simp
theorem or_10 {st k : Nat} (hs : st < 1024) (hk : k < 10) : st ||| 2 ^ k < 1024 := Nat.or_lt_two_pow (n := 10) hs (Nat.pow_lt_pow_right (by decide) hk)
theorem p10 {n : Nat} (h : n ≤ 10) : 2 ^ n ≤ 1024 := Nat.pow_le_pow_right (n := 2) (by decide) h
theorem lt31 {n : Nat} (h : n < 1024) : n < 2 ^ 31 := by omega

/-! ===== the kettle's order, in the reference ===== -/
def oq_bt (st : Nat) : Nat → Bool := fun j => st.testBit j
theorem oq_nt {K Q kd : Nat → Int32} {mq k : Nat} (hkq : ∀ i, i < mq → K (Q i).toNatClampNeg = kd i) (hq : qI mq kd) (hk : k < mq) : ntI K Q k = 0 ↔ ¬ oq_N kd k = 4 := by
  unfold ntI
  rw [hkq k hk]
  constructor
  · intro h h4
    have e : kd k = 4 := by rw [oq_Ke hq hk, h4]; rfl
    rw [if_pos e] at h
    exact absurd h (by decide)
  · intro h
    rw [if_neg (fun h9 => h (oq_e4 h9))]
theorem oq_rp1 {K Q kd : Nat → Int32} {v3 : Int32} {mq st k : Nat} (hkq : ∀ i, i < mq → K (Q i).toNatClampNeg = kd i) (hq : qI mq kd) (hk : k < mq) (h0 : st.testBit k = false) (h : ¬ ntI K Q k = 0 → ¬ v3 = 0 → ∀ q, q < mq → ntI K Q q = 0 → st.testBit q = true) : oq_p (oq_N kd) (oq_b v3) mq (oq_bt st) k = true := oq_p_i.mpr ⟨h0, oq_may_i.mpr ⟨oq_c_in (u := oq_bt st) h0 hk, fun h4 hb j _ hj4 => by
  by_cases hz : 0 < oq_c (oq_N kd) (oq_bt st) mq j
  · obtain ⟨i, hi, hu, he⟩ := oq_c_pos hz
    have h5 := h (fun h9 => (oq_nt hkq hq hk).mp h9 h4) (of_decide_eq_true hb) i hi ((oq_nt hkq hq hi).mpr (by rw [he]; exact hj4))
    rw [show oq_bt st i = true from h5] at hu
    cases hu
  · omega⟩⟩
theorem oq_rp0 {kd : Nat → Int32} {v3 : Int32} {mq st k : Nat} (h : st.testBit k = true) : oq_p (oq_N kd) (oq_b v3) mq (oq_bt st) k = false := oq_p_f (fun h9 => by
  rw [show oq_bt st k = true from h] at h9
  cases h9.1)
theorem oq_rp2 {K Q kd : Nat → Int32} {v3 : Int32} {mq st k j : Nat} (hkq : ∀ i, i < mq → K (Q i).toNatClampNeg = kd i) (hq : qI mq kd) (hk : k < mq) (hn : ¬ ntI K Q k = 0) (hz : ¬ v3 = 0) (hj : j < mq) (h1 : ntI K Q j = 0) (h2 : st.testBit j = false) : oq_p (oq_N kd) (oq_b v3) mq (oq_bt st) k = false := oq_p_f (fun h9 => by
  have h4 : oq_N kd k = 4 := Classical.byContradiction (fun h8 => hn ((oq_nt hkq hq hk).mpr h8))
  have h3 := (oq_may_i.mp h9.2).2 h4 (decide_eq_true hz) (oq_N kd j) (oq_Kb hq j hj) ((oq_nt hkq hq hj).mp h1)
  have h5 := oq_c_in (K := oq_N kd) (u := oq_bt st) h2 hj
  omega)
theorem oq_nn_n {K Q : Nat → Int32} {st j : Nat} (h : ∀ q, q < j → ntI K Q q = 0 → st.testBit q = true) (c : ¬ ntI K Q j = 0) : ∀ q, q < j + 1 → ntI K Q q = 0 → st.testBit q = true := fun q hq h0 => by
  by_cases e : q = j
  · subst e; exact absurd h0 c
  · exact h q (by omega) h0
theorem oq_nn_b {K Q : Nat → Int32} {st j : Nat} (h : ∀ q, q < j → ntI K Q q = 0 → st.testBit q = true) (c : st.testBit j = true) : ∀ q, q < j + 1 → ntI K Q q = 0 → st.testBit q = true := fun q hq h0 => by
  by_cases e : q = j
  · subst e; exact c
  · exact h q (by omega) h0
/-! minutes -/
def oq_la (kd : Nat → Int32) (mq : Nat) (v : Int32) (a : Nat) : Prop := (v = -1 ∧ a = 6) ∨ ∃ q : Nat, q < mq ∧ v = nI q ∧ oq_N kd q = a
theorem oq_mi0 {ws kd : Nat → Int32} {mq k : Nat} {v : Int32} (hq : mq ≤ 10) (c : ¬ 0 ≤ v) : ∀ a, oq_la kd mq v a → 0 = nI (oq_w (oq_W ws) a (oq_N kd k)) := fun a h => by
  rcases h with ⟨_, h1⟩ | ⟨q, h1, h2, _⟩
  · unfold oq_w
    rw [if_pos h1]
    rfl
  · rw [h2] at c
    exact absurd ((nI_leI (a := 0) (b := q) (by omega) (by omega)).mpr (Nat.zero_le _)) c
theorem oq_n1 {q : Nat} (h : q < 2 ^ 31) : ¬ nI q = -1 := fun e => by
  have h3 := congrArg Int32.toInt e
  rw [nI_toInt h] at h3
  have h4 : (-1 : Int32).toInt = -1 := by decide
  omega
theorem oq_mi1 {K Q ws kd : Nat → Int32} {mq k a9 : Nat} (hkq : ∀ i, i < mq → K (Q i).toNatClampNeg = kd i) (hq : qI mq kd) (hws : ∀ j, cnt (ws j) 600) (hk : k < mq) (ha : a9 ≤ 9) : ∀ a, oq_la kd mq (nI a9) a → ws (6 * K (Q a9).toNatClampNeg + K (Q k).toNatClampNeg : Int32).toNatClampNeg = nI (oq_w (oq_W ws) a (oq_N kd k)) := fun a h => by
  have hq0 := hq.1
  rcases h with ⟨h1, _⟩ | ⟨q, h1, h2, h3⟩
  · exact absurd h1 (oq_n1 (by omega))
  · have e := (nI_eq (by omega) (by omega)).mp h2
    subst e
    have b1 := oq_Kb hq a9 h1
    have b2 := oq_Kb hq k hk
    have e2 : (6 * K (Q a9).toNatClampNeg + K (Q k).toNatClampNeg : Int32) = nI (a * 6 + oq_N kd k) := by
      rw [hkq a9 h1, hkq k hk, oq_Ke hq h1, oq_Ke hq hk, h3, Int32.mul_comm]
      exact (congrArg (fun q => q + nI (oq_N kd k)) (pk_mul a 6)).trans (nI_add _ _)
    rw [e2, nI_clamp (by omega), oq_We hws]
    unfold oq_w
    rw [if_neg (by omega)]
/-! the table of the reference -/
def oq_RT (ws kd : Nat → Int32) (z : Int32) (mq : Nat) (R : Nat → Int32) (sx : Nat) : Prop := ∀ s, sx < s → s < 2 ^ mq → ∀ a, a < mq → R (10 * s + a) = nI (oq_V (oq_W ws) (oq_b z) (oq_c (oq_N kd) (oq_bt s) mq) (oq_N kd a))
def oq_RL (ws kd : Nat → Int32) (z : Int32) (mq : Nat) (R : Nat → Int32) (sx la : Nat) : Prop := oq_RT ws kd z mq R sx ∧ ∀ a, a < la → R (10 * sx + a) = nI (oq_V (oq_W ws) (oq_b z) (oq_c (oq_N kd) (oq_bt sx) mq) (oq_N kd a))
def oq_F (ws kd : Nat → Int32) (z : Int32) (mq sx la k : Nat) : Nat := oq_W ws (oq_N kd la) (oq_N kd k) + oq_V (oq_W ws) (oq_b z) (oq_d (oq_c (oq_N kd) (oq_bt sx) mq) (oq_N kd k)) (oq_N kd k)
def oq_be (ws kd : Nat → Int32) (z : Int32) (mq sx la kx : Nat) (be : Int32) : Prop := (sx = 2 ^ mq - 1 → be = 0) ∧ (¬ sx = 2 ^ mq - 1 → ∃ v : Nat, be = nI v ∧ v ≤ 100000000 ∧ (∀ k, k < kx → oq_p (oq_N kd) (oq_b z) mq (oq_bt sx) k = true → v ≤ oq_F ws kd z mq sx la k) ∧ (v = 100000000 ∨ ∃ k, k < kx ∧ oq_p (oq_N kd) (oq_b z) mq (oq_bt sx) k = true ∧ v = oq_F ws kd z mq sx la k))
theorem oq_RT_0 {ws kd : Nat → Int32} {z : Int32} {mq : Nat} {R : Nat → Int32} : oq_RT ws kd z mq R (2 ^ mq - 1) := fun s h1 h2 => absurd h1 (by omega)
theorem oq_RL_0 {ws kd : Nat → Int32} {z : Int32} {mq : Nat} {R : Nat → Int32} {sx : Nat} (h : oq_RT ws kd z mq R sx) : oq_RL ws kd z mq R sx 0 := ⟨h, fun a ha => absurd ha (Nat.not_lt_zero a)⟩
theorem oq_RL_e {ws kd : Nat → Int32} {z : Int32} {mq : Nat} {R : Nat → Int32} {sx la : Nat} (h : oq_RL ws kd z mq R sx la) (hl : mq ≤ la) (h0 : 0 < sx) : oq_RT ws kd z mq R (sx - 1) := fun s h1 h2 a ha => by
  by_cases e : s = sx
  · subst e; exact h.2 a (by omega)
  · exact h.1 s (by omega) h2 a ha
theorem oq_RL_s {ws kd : Nat → Int32} {z be : Int32} {mq : Nat} {R : Nat → Int32} {sx la : Nat} (h : oq_RL ws kd z mq R sx la) (hm : mq ≤ 10) (hl : la < mq) (hb : be = nI (oq_V (oq_W ws) (oq_b z) (oq_c (oq_N kd) (oq_bt sx) mq) (oq_N kd la))) : oq_RL ws kd z mq (upd R (10 * sx + la) be) sx (la + 1) := ⟨fun s h1 h2 a ha => by rw [pk_un (by omega)]; exact h.1 s h1 h2 a ha, fun a ha => by
  by_cases e : a = la
  · subst e; rw [pk_us]; exact hb
  · rw [pk_un (by omega)]; exact h.2 a (by omega)⟩
theorem oq_be_a {ws kd : Nat → Int32} {z : Int32} {mq sx la : Nat} (h : sx = 2 ^ mq - 1) : oq_be ws kd z mq sx la 0 0 := ⟨fun _ => rfl, fun h9 => absurd h h9⟩
theorem oq_be_b {ws kd : Nat → Int32} {z : Int32} {mq sx la : Nat} (h : ¬ sx = 2 ^ mq - 1) : oq_be ws kd z mq sx la 0 100000000 := ⟨fun h9 => absurd h9 h, fun _ => ⟨100000000, rfl, Nat.le_refl _, fun k hk => absurd hk (Nat.not_lt_zero k), Or.inl rfl⟩⟩
theorem oq_be_n {ws kd : Nat → Int32} {z be : Int32} {mq sx la kx : Nat} (h : oq_be ws kd z mq sx la kx be) (hp : oq_p (oq_N kd) (oq_b z) mq (oq_bt sx) kx = false) : oq_be ws kd z mq sx la (kx + 1) be := ⟨h.1, fun hn => by
  obtain ⟨v, e, h1, h2, h3⟩ := h.2 hn
  refine ⟨v, e, h1, fun k hk hpk => ?_, ?_⟩
  · by_cases ek : k = kx
    · subst ek; rw [hp] at hpk; cases hpk
    · exact h2 k (by omega) hpk
  · rcases h3 with h3 | ⟨k, hk, h3⟩
    · exact Or.inl h3
    · exact Or.inr ⟨k, by omega, h3⟩⟩
theorem oq_F_bd {ws kd : Nat → Int32} {z : Int32} {mq sx la k : Nat} (hws : ∀ j, cnt (ws j) 600) (hq : qI mq kd) (hk : k < mq) (hp : oq_p (oq_N kd) (oq_b z) mq (oq_bt sx) k = true) : oq_F ws kd z mq sx la k ≤ 6600 := by
  have h1 := oq_Vd_bd (b := oq_b z) (oq_Wb hws) (oq_Kb hq) hq.1 hk (oq_p_i.mp hp).1
  have h2 := oq_Wb hws (oq_N kd la) (oq_N kd k)
  unfold oq_F
  omega
theorem oq_be_y {ws kd : Nat → Int32} {z be m : Int32} {mq sx la kx : Nat} (h : oq_be ws kd z mq sx la kx be) (hn : ¬ sx = 2 ^ mq - 1) (hws : ∀ j, cnt (ws j) 600) (hq : qI mq kd) (hk : kx < mq) (hp : oq_p (oq_N kd) (oq_b z) mq (oq_bt sx) kx = true) (hm : m = nI (oq_F ws kd z mq sx la kx)) (c : m < be) : oq_be ws kd z mq sx la (kx + 1) m := ⟨fun h9 => absurd h9 hn, fun _ => by
  obtain ⟨v, e, h1, h2, h3⟩ := h.2 hn
  have hb := oq_F_bd (la := la) hws hq hk hp
  rw [e, hm] at c
  have h4 := (nI_ltI (by omega) (by omega)).mp c
  refine ⟨_, hm, by omega, fun k hk2 hpk => ?_, Or.inr ⟨kx, by omega, hp, rfl⟩⟩
  by_cases ek : k = kx
  · subst ek; exact Nat.le_refl _
  · have h5 := h2 k (by omega) hpk; omega⟩
theorem oq_be_g {ws kd : Nat → Int32} {z be m : Int32} {mq sx la kx : Nat} (h : oq_be ws kd z mq sx la kx be) (hws : ∀ j, cnt (ws j) 600) (hq : qI mq kd) (hk : kx < mq) (hp : oq_p (oq_N kd) (oq_b z) mq (oq_bt sx) kx = true) (hm : m = nI (oq_F ws kd z mq sx la kx)) (c : ¬ m < be) : oq_be ws kd z mq sx la (kx + 1) be := ⟨h.1, fun hn => by
  obtain ⟨v, e, h1, h2, h3⟩ := h.2 hn
  have hb := oq_F_bd (la := la) hws hq hk hp
  rw [e, hm] at c
  have h4 : ¬ oq_F ws kd z mq sx la kx < v := fun h9 => c ((nI_ltI (by omega) (by omega)).mpr h9)
  refine ⟨v, e, h1, fun k hk2 hpk => ?_, ?_⟩
  · by_cases ek : k = kx
    · subst ek; omega
    · exact h2 k (by omega) hpk
  · rcases h3 with h3 | ⟨k, hk2, h3⟩
    · exact Or.inl h3
    · exact Or.inr ⟨k, by omega, h3⟩⟩
theorem oq_tball {u : Nat → Bool} : ∀ {n : Nat}, (∀ k, k < n → u k = true) → tb_ct u n = n
  | 0, _ => rfl
  | n + 1, h => by
    show tb_ct u n + (if u n then 1 else 0) = n + 1
    rw [oq_tball (fun k hk => h k (by omega)), h n (by omega)]
    rfl
/-- not all have come: one is wanting -/
theorem oq_btn {n sx : Nat} (h : sx < 2 ^ n) (hn : ¬ sx = 2 ^ n - 1) : tb_ct (oq_bt sx) n < n := by
  have h1 := tb_le (oq_bt sx) n
  by_cases e : tb_ct (oq_bt sx) n = n
  · exfalso
    apply hn
    apply Nat.eq_of_testBit_eq
    intro i
    rw [Nat.testBit_two_pow_sub_one]
    by_cases hi : i < n
    · rw [decide_eq_true hi]
      cases hb : sx.testBit i with
      | true => rfl
      | false =>
        exfalso
        have h2 := tb_off (p := oq_u (oq_bt sx) i) (q := oq_bt sx) (i := i) (oq_u_s _ _) hb (n := n) hi (fun k _ hne => (oq_u_n hne).symm)
        have h3 := tb_le (oq_u (oq_bt sx) i) n
        omega
    · rw [decide_eq_false hi]
      exact Nat.testBit_lt_two_pow (Nat.lt_of_lt_of_le h (Nat.pow_le_pow_right (by decide) (by omega)))
  · omega
theorem oq_be_e {ws kd : Nat → Int32} {z be : Int32} {mq sx la kx : Nat} (h : oq_be ws kd z mq sx la kx be) (hws : ∀ j, cnt (ws j) 600) (hq : qI mq kd) (hs : sx < 2 ^ mq) (hx : sx = 2 ^ mq - 1 ∨ mq ≤ kx) (hkx : kx ≤ mq) : be = nI (oq_V (oq_W ws) (oq_b z) (oq_c (oq_N kd) (oq_bt sx) mq) (oq_N kd la)) := by
  have hT := oq_c_T (u := oq_bt sx) (oq_Kb hq)
  have hq0 := hq.1
  by_cases e : sx = 2 ^ mq - 1
  · rw [h.1 e]
    have h1 : tb_ct (oq_bt sx) mq = mq := oq_tball (fun k hk => by show sx.testBit k = true; rw [e, Nat.testBit_two_pow_sub_one]; exact decide_eq_true hk)
    rw [oq_V_0 (by omega)]
    rfl
  · obtain ⟨v, e1, h1, h2, h3⟩ := h.2 e
    have hk : kx = mq := by omega
    subst hk
    have h4 := oq_btn hs e
    obtain ⟨k, hk, hm, hV⟩ := oq_V_ex (W := oq_W ws) (b := oq_b z) (a := oq_N kd la) (oq_Wb hws) (c := oq_c (oq_N kd) (oq_bt sx) kx) (by omega) (by omega)
    obtain ⟨i, hi, hu, he⟩ := oq_c_pos (oq_may_i.mp hm).1
    have hp : oq_p (oq_N kd) (oq_b z) kx (oq_bt sx) i = true := oq_p_i.mpr ⟨hu, by rw [he]; exact hm⟩
    have hF : oq_F ws kd z kx sx la i = oq_V (oq_W ws) (oq_b z) (oq_c (oq_N kd) (oq_bt sx) kx) (oq_N kd la) := by
      rw [hV]
      unfold oq_F
      rw [he]
    have h5 := h2 i hi hp
    have h6 := oq_F_bd (la := la) hws hq hi hp
    rcases h3 with h3 | ⟨j, hj, hpj, h3⟩
    · omega
    · have h7 := oq_V_le (W := oq_W ws) (a := oq_N kd la) (oq_Kb hq j hj) (oq_p_i.mp hpj).2
      have h8 : oq_F ws kd z kx sx la j = oq_W ws (oq_N kd la) (oq_N kd j) + oq_V (oq_W ws) (oq_b z) (oq_d (oq_c (oq_N kd) (oq_bt sx) kx) (oq_N kd j)) (oq_N kd j) := rfl
      rw [e1]
      exact congrArg nI (by omega)
/-- one bit more -/
theorem oq_bo {sx k : Nat} : ∀ j, oq_bt (sx ||| 2 ^ k) j = oq_u (oq_bt sx) k j := fun j => by
  show (sx ||| 2 ^ k).testBit j = _
  by_cases e : j = k
  · subst e; rw [oq_u_s, Nat.testBit_or, Nat.testBit_two_pow_self, Bool.or_true]
  · rw [oq_u_n e]; exact or_bit e
theorem oq_bo_lt {sx k n : Nat} (hs : sx < 2 ^ n) (hk : k < n) : sx ||| 2 ^ k < 2 ^ n := Nat.or_lt_two_pow hs (Nat.pow_lt_pow_right (by decide) hk)
theorem oq_bo_gt {sx k : Nat} (h : sx.testBit k = false) : sx < sx ||| 2 ^ k := by
  have h1 : sx ≤ sx ||| 2 ^ k := Nat.left_le_or
  have h2 : ¬ sx = sx ||| 2 ^ k := fun e => by
    have h3 : (sx ||| 2 ^ k).testBit k = true := by rw [Nat.testBit_or, Nat.testBit_two_pow_self, Bool.or_true]
    rw [← e, h] at h3
    cases h3
  omega
theorem oq_bo_V {ws kd : Nat → Int32} {z : Int32} {mq sx k : Nat} (hk : k < mq) (h : sx.testBit k = false) : oq_V (oq_W ws) (oq_b z) (oq_c (oq_N kd) (oq_bt (sx ||| 2 ^ k)) mq) (oq_N kd k) = oq_V (oq_W ws) (oq_b z) (oq_d (oq_c (oq_N kd) (oq_bt sx) mq) (oq_N kd k)) (oq_N kd k) := oq_V_cg (fun q _ => by
  rw [oq_c_cg (u := oq_bt (sx ||| 2 ^ k)) (v := oq_u (oq_bt sx) k) (fun j _ => oq_bo j)]
  exact oq_c_u (u := oq_bt sx) h q hk)
/-- what one more costs -/
theorem oq_me {ws kd R : Nat → Int32} {z r1 r2 : Int32} {mq sx la k : Nat} (hq : qI mq kd) (h : oq_RT ws kd z mq R sx) (hs : sx < 2 ^ mq) (hk : k < mq) (hl : la < mq) (hp : oq_p (oq_N kd) (oq_b z) mq (oq_bt sx) k = true) (h1 : ∀ a, oq_la kd mq (nI la) a → r1 = nI (oq_w (oq_W ws) a (oq_N kd k))) (h2 : r2 = R (10 * (sx ||| 2 ^ k) + k)) : r1 + r2 = nI (oq_F ws kd z mq sx la k) := by
  have h0 : sx.testBit k = false := (oq_p_i.mp hp).1
  have h3 := oq_Kb hq la hl
  rw [h1 _ (Or.inr ⟨la, hl, rfl, rfl⟩), h2, h _ (oq_bo_gt h0) (oq_bo_lt hs hk) k hk, oq_bo_V hk h0, nI_add]
  unfold oq_w oq_F
  rw [if_neg (by omega)]
/-! the order itself -/
theorem oq_p_cg {K : Nat → Nat} {b : Bool} {q : Nat} {u v : Nat → Bool} (h : ∀ j, j < q → u j = v j) {i : Nat} (hi : i < q) (hK : K i < 6) : oq_p K b q u i = oq_p K b q v i := by
  unfold oq_p
  rw [h i hi, oq_may_cg (c := oq_c K u q) (d := oq_c K v q) (fun k _ => oq_c_cg h) hK]
/-- behind n of them; sx: which have come -/
def oq_or (ws kd : Nat → Int32) (z : Int32) (mq n sx : Nat) (lb s5 : Int32) : Prop := (∀ j, j < mq → oq_bt sx j = (oq_S (oq_W ws) (oq_N kd) (oq_b z) mq n).1 j) ∧ oq_la kd mq lb (oq_S (oq_W ws) (oq_N kd) (oq_b z) mq n).2.1 ∧ s5 = nI (oq_S (oq_W ws) (oq_N kd) (oq_b z) mq n).2.2
theorem oq_or_0 {ws kd : Nat → Int32} {z : Int32} {mq : Nat} : oq_or ws kd z mq 0 0 (-1) 0 := ⟨fun j _ => Nat.zero_testBit j, Or.inl ⟨rfl, rfl⟩, rfl⟩
def oq_oi (ws kd : Nat → Int32) (z : Int32) (mq n kx : Nat) (be le : Int32) : Prop := (be = -1 ∧ ∀ j, j < kx → oq_p (oq_N kd) (oq_b z) mq (oq_S (oq_W ws) (oq_N kd) (oq_b z) mq n).1 j = false) ∨ (be = nI (oq_pk (oq_f (oq_W ws) (oq_N kd) (oq_b z) mq (oq_S (oq_W ws) (oq_N kd) (oq_b z) mq n).1 (oq_S (oq_W ws) (oq_N kd) (oq_b z) mq n).2.1) (oq_p (oq_N kd) (oq_b z) mq (oq_S (oq_W ws) (oq_N kd) (oq_b z) mq n).1) kx).1 ∧ le = nI (oq_pk (oq_f (oq_W ws) (oq_N kd) (oq_b z) mq (oq_S (oq_W ws) (oq_N kd) (oq_b z) mq n).1 (oq_S (oq_W ws) (oq_N kd) (oq_b z) mq n).2.1) (oq_p (oq_N kd) (oq_b z) mq (oq_S (oq_W ws) (oq_N kd) (oq_b z) mq n).1) kx).2 ∧ (oq_pk (oq_f (oq_W ws) (oq_N kd) (oq_b z) mq (oq_S (oq_W ws) (oq_N kd) (oq_b z) mq n).1 (oq_S (oq_W ws) (oq_N kd) (oq_b z) mq n).2.1) (oq_p (oq_N kd) (oq_b z) mq (oq_S (oq_W ws) (oq_N kd) (oq_b z) mq n).1) kx).1 < kx)
theorem oq_oi_0 {ws kd : Nat → Int32} {z le : Int32} {mq n : Nat} : oq_oi ws kd z mq n 0 (-1) le := Or.inl ⟨rfl, fun j hj => absurd hj (Nat.not_lt_zero j)⟩
theorem oq_pS {ws kd : Nat → Int32} {z lb s5 r : Int32} {mq n sx k : Nat} (h : oq_or ws kd z mq n sx lb s5) (hq : qI mq kd) (hk : k < mq) : oq_p (oq_N kd) (oq_b z) mq (oq_bt sx) k = oq_p (oq_N kd) (oq_b z) mq (oq_S (oq_W ws) (oq_N kd) (oq_b z) mq n).1 k := oq_p_cg h.1 hk (oq_Kb hq k hk)
theorem oq_oi_n {ws kd : Nat → Int32} {z lb s5 r be le : Int32} {mq n sx kx : Nat} (h : oq_oi ws kd z mq n kx be le) (ho : oq_or ws kd z mq n sx lb s5) (hq : qI mq kd) (hk : kx < mq) (hr : (r = 1 ∧ oq_p (oq_N kd) (oq_b z) mq (oq_bt sx) kx = true) ∨ (r = 0 ∧ oq_p (oq_N kd) (oq_b z) mq (oq_bt sx) kx = false)) (c : r = 0) : oq_oi ws kd z mq n (kx + 1) be le := by
  have hp : oq_p (oq_N kd) (oq_b z) mq (oq_S (oq_W ws) (oq_N kd) (oq_b z) mq n).1 kx = false := by
    rw [← oq_pS (r := r) ho hq hk]
    rcases hr with h1 | h1
    · rw [c] at h1; exact absurd h1.1 (by decide)
    · exact h1.2
  unfold oq_oi
  rw [oq_pk_n hp]
  rcases h with h | h
  · exact Or.inl ⟨h.1, fun j hj => by
      by_cases e : j = kx
      · subst e; exact hp
      · exact h.2 j (by omega)⟩
  · exact Or.inr ⟨h.1, h.2.1, by omega⟩
theorem oq_oi_p {ws kd : Nat → Int32} {z lb s5 r : Int32} {mq n sx kx : Nat} (ho : oq_or ws kd z mq n sx lb s5) (hq : qI mq kd) (hk : kx < mq) (hr : (r = 1 ∧ oq_p (oq_N kd) (oq_b z) mq (oq_bt sx) kx = true) ∨ (r = 0 ∧ oq_p (oq_N kd) (oq_b z) mq (oq_bt sx) kx = false)) (c : ¬ r = 0) : oq_p (oq_N kd) (oq_b z) mq (oq_bt sx) kx = true := by
  rcases hr with h1 | h1
  · exact h1.2
  · exact absurd h1.1 c
theorem oq_oe {ws kd R : Nat → Int32} {z lb s5 r1 r2 : Int32} {mq n sx k : Nat} (ho : oq_or ws kd z mq n sx lb s5) (hq : qI mq kd) (h : oq_RT ws kd z mq R 0) (hs : sx < 2 ^ mq) (hk : k < mq) (hp : oq_p (oq_N kd) (oq_b z) mq (oq_bt sx) k = true) (h1 : ∀ a, oq_la kd mq lb a → r1 = nI (oq_w (oq_W ws) a (oq_N kd k))) (h2 : r2 = R (10 * (sx ||| 2 ^ k) + k)) : r1 + r2 = nI (oq_f (oq_W ws) (oq_N kd) (oq_b z) mq (oq_S (oq_W ws) (oq_N kd) (oq_b z) mq n).1 (oq_S (oq_W ws) (oq_N kd) (oq_b z) mq n).2.1 k) := by
  have h0 : sx.testBit k = false := (oq_p_i.mp hp).1
  have h4 := oq_bo_gt h0
  rw [h1 _ ho.2.1, h2, h _ (by omega) (oq_bo_lt hs hk) k hk, oq_bo_V hk h0, nI_add]
  unfold oq_f
  rw [oq_V_cg (c := oq_d (oq_c (oq_N kd) (oq_bt sx) mq) (oq_N kd k)) (d := oq_d (oq_c (oq_N kd) (oq_S (oq_W ws) (oq_N kd) (oq_b z) mq n).1 mq) (oq_N kd k)) (fun j _ => by
    unfold oq_d
    rw [oq_c_cg ho.1])]
theorem oq_oi_y {ws kd : Nat → Int32} {z lb s5 be le m : Int32} {mq n sx kx : Nat} (h : oq_oi ws kd z mq n kx be le) (ho : oq_or ws kd z mq n sx lb s5) (hq : qI mq kd) (hws : ∀ j, cnt (ws j) 600) (hk : kx < mq) (hp : oq_p (oq_N kd) (oq_b z) mq (oq_bt sx) kx = true) (hm : m = nI (oq_f (oq_W ws) (oq_N kd) (oq_b z) mq (oq_S (oq_W ws) (oq_N kd) (oq_b z) mq n).1 (oq_S (oq_W ws) (oq_N kd) (oq_b z) mq n).2.1 kx)) (c : be < 0 ∨ m < le) : oq_oi ws kd z mq n (kx + 1) (nI kx) m := by
  have hp2 := (oq_pS (r := 0) ho hq hk).symm.trans hp
  have hb := oq_f_bd (b := oq_b z) (a := (oq_S (oq_W ws) (oq_N kd) (oq_b z) mq n).2.1) (oq_Wb hws) (oq_Kb hq) hq.1 hk (oq_p_i.mp hp2).1
  have hle := oq_pk_le (oq_f (oq_W ws) (oq_N kd) (oq_b z) mq (oq_S (oq_W ws) (oq_N kd) (oq_b z) mq n).1 (oq_S (oq_W ws) (oq_N kd) (oq_b z) mq n).2.1) (oq_p (oq_N kd) (oq_b z) mq (oq_S (oq_W ws) (oq_N kd) (oq_b z) mq n).1) kx
  have h3 : oq_f (oq_W ws) (oq_N kd) (oq_b z) mq (oq_S (oq_W ws) (oq_N kd) (oq_b z) mq n).1 (oq_S (oq_W ws) (oq_N kd) (oq_b z) mq n).2.1 kx < (oq_pk (oq_f (oq_W ws) (oq_N kd) (oq_b z) mq (oq_S (oq_W ws) (oq_N kd) (oq_b z) mq n).1 (oq_S (oq_W ws) (oq_N kd) (oq_b z) mq n).2.1) (oq_p (oq_N kd) (oq_b z) mq (oq_S (oq_W ws) (oq_N kd) (oq_b z) mq n).1) kx).2 := by
    rcases h with h | ⟨h1, h2, h4⟩
    · rcases oq_pk_ok (f := oq_f (oq_W ws) (oq_N kd) (oq_b z) mq (oq_S (oq_W ws) (oq_N kd) (oq_b z) mq n).1 (oq_S (oq_W ws) (oq_N kd) (oq_b z) mq n).2.1) (p := oq_p (oq_N kd) (oq_b z) mq (oq_S (oq_W ws) (oq_N kd) (oq_b z) mq n).1) (n := kx) (fun j hj hpj => by rw [h.2 j hj] at hpj; cases hpj) with ⟨_, e⟩ | ⟨e1, e2, _, _⟩
      · rw [e]; show _ < 2147483647; omega
      · rw [h.2 _ e1] at e2; cases e2
    · rcases c with c | c
      · exfalso
        rw [h1] at c
        have hq0 := hq.1
        have h5 := (nI_ltI (a := _) (b := 0) (by omega) (by omega)).mp c
        omega
      · rw [hm, h2] at c
        exact (nI_ltI (by omega) (by omega)).mp c
  unfold oq_oi
  rw [oq_pk_y hp2 h3]
  exact Or.inr ⟨rfl, hm, Nat.lt_succ_self kx⟩
theorem oq_oi_g {ws kd : Nat → Int32} {z lb s5 be le m : Int32} {mq n sx kx : Nat} (h : oq_oi ws kd z mq n kx be le) (ho : oq_or ws kd z mq n sx lb s5) (hq : qI mq kd) (hws : ∀ j, cnt (ws j) 600) (hk : kx < mq) (hp : oq_p (oq_N kd) (oq_b z) mq (oq_bt sx) kx = true) (hm : m = nI (oq_f (oq_W ws) (oq_N kd) (oq_b z) mq (oq_S (oq_W ws) (oq_N kd) (oq_b z) mq n).1 (oq_S (oq_W ws) (oq_N kd) (oq_b z) mq n).2.1 kx)) (c1 : ¬ be < 0) (c2 : ¬ m < le) : oq_oi ws kd z mq n (kx + 1) be le := by
  have hp2 := (oq_pS (r := 0) ho hq hk).symm.trans hp
  have hb := oq_f_bd (b := oq_b z) (a := (oq_S (oq_W ws) (oq_N kd) (oq_b z) mq n).2.1) (oq_Wb hws) (oq_Kb hq) hq.1 hk (oq_p_i.mp hp2).1
  have hle := oq_pk_le (oq_f (oq_W ws) (oq_N kd) (oq_b z) mq (oq_S (oq_W ws) (oq_N kd) (oq_b z) mq n).1 (oq_S (oq_W ws) (oq_N kd) (oq_b z) mq n).2.1) (oq_p (oq_N kd) (oq_b z) mq (oq_S (oq_W ws) (oq_N kd) (oq_b z) mq n).1) kx
  rcases h with h | ⟨h1, h2, h4⟩
  · rw [h.1] at c1; exact absurd (by decide) c1
  · rw [hm, h2] at c2
    have h3 := fun h9 => c2 ((nI_ltI (by omega) (by omega)).mpr h9)
    unfold oq_oi
    rw [oq_pk_g h3]
    exact Or.inr ⟨h1, h2, by omega⟩
/-- the search's end: one was found -/
theorem oq_oi_e {ws kd : Nat → Int32} {z lb s5 be le : Int32} {mq n sx kx : Nat} (h : oq_oi ws kd z mq n kx be le) (hq : qI mq kd) (hws : ∀ j, cnt (ws j) 600) (hn : n < mq) (hk : kx = mq) : be = nI (oq_x (oq_W ws) (oq_N kd) (oq_b z) mq (oq_S (oq_W ws) (oq_N kd) (oq_b z) mq n)) := by
  subst hk
  rcases h with h | h
  · have h1 := (oq_S_ok (b := oq_b z) (oq_Wb hws) (oq_Kb hq) hq.1 (n := n) (by omega)).1
    obtain ⟨i, hi, hp⟩ := oq_p_ex (b := oq_b z) (u := (oq_S (oq_W ws) (oq_N kd) (oq_b z) kx n).1) (oq_Kb hq) (by omega)
    rw [h.2 i hi] at hp
    cases hp
  · exact h.1
theorem oq_or_s {ws kd : Nat → Int32} {z lb s5 r : Int32} {mq n sx nx : Nat} (h : oq_or ws kd z mq n sx lb s5) (hq : qI mq kd) (hws : ∀ j, cnt (ws j) 600) (hn : n < mq) (hnx : nx = oq_x (oq_W ws) (oq_N kd) (oq_b z) mq (oq_S (oq_W ws) (oq_N kd) (oq_b z) mq n)) (h1 : ∀ a, oq_la kd mq lb a → r = nI (oq_w (oq_W ws) a (oq_N kd nx))) : oq_or ws kd z mq (n + 1) (sx ||| 2 ^ nx) (nI nx) (s5 + r) := by
  subst hnx
  obtain ⟨x1, _, _⟩ := oq_S_x (b := oq_b z) (oq_Wb hws) (oq_Kb hq) hq.1 hn
  refine ⟨fun j hj => ?_, Or.inr ⟨_, x1, rfl, rfl⟩, ?_⟩
  · rw [oq_bo j]
    show oq_u _ _ j = oq_u _ _ j
    unfold oq_u
    rw [h.1 j hj]
  · rw [h1 _ h.2.1, h.2.2, nI_add]
    rfl
theorem oq_A_o {ws qd kd : Nat → Int32} {qm : Nat} {z v : Int32} (hq : qm ≤ 10) (c : wi v (-1) (nI qm - 1) = 0) : -1 = oq_A ws qd kd qm z v := by
  have e1 : (-1 : Int32).toInt = -1 := by decide
  have e2 : (nI qm - 1 : Int32).toInt = (qm : Int) - 1 := by rw [show (nI qm - 1 : Int32) = nI qm - nI 1 from rfl, pk_sub_toInt (by omega) (by omega)]; rfl
  have h1 : ¬ v = -1 := fun h9 => by
    rw [h9] at c
    unfold wi at c
    rw [if_neg (by rw [Int32.lt_iff_toInt_lt]; omega), if_neg (by rw [Int32.lt_iff_toInt_lt]; omega)] at c
    exact absurd c (by decide)
  refine oq_A_n h1 (Classical.byContradiction (fun h9 => ?_))
  obtain ⟨h2, h3⟩ := wi_in h9
  have e0 : (0 : Int32).toInt = 0 := by decide
  unfold wi at c
  rw [if_neg (by rw [Int32.lt_iff_toInt_lt]; omega), if_neg (by rw [Int32.lt_iff_toInt_lt]; omega)] at c
  exact absurd c (by decide)
/-- which is asked for -/
def oq_v2 (mq n : Nat) (v : Int32) : Prop := v = -1 ∨ ∃ i : Nat, v = nI i ∧ n ≤ i ∧ i < mq
theorem oq_v2_0 {mq : Nat} {v : Int32} (hq : mq ≤ 10) (c : ¬ wi v (-1) (nI mq - 1) = 0) : oq_v2 mq 0 v := by
  obtain ⟨h1, h2⟩ := wi_in c
  have e1 : (-1 : Int32).toInt = -1 := by decide
  rw [show (nI mq - 1 : Int32) = nI mq - nI 1 from rfl, pk_sub_toInt (by omega) (by omega)] at h2
  by_cases h3 : v = -1
  · exact Or.inl h3
  · right
    have h4 : ¬ v.toInt = -1 := fun h9 => h3 (Int32.toInt_inj.mp (by rw [h9, e1]))
    obtain ⟨j, hj, ej⟩ := nI_of (x := v) (by rw [Int32.lt_iff_toInt_lt]; have e0 : (0 : Int32).toInt = 0 := by decide
                                             omega)
    rw [ej, nI_toInt hj] at h2
    exact ⟨j, ej, Nat.zero_le _, by omega⟩
theorem oq_v2_s {mq n : Nat} {v : Int32} (h : oq_v2 mq n v) (hn : n < mq) (hq : mq ≤ 10) (c : ¬ nI n = v) : oq_v2 mq (n + 1) v := by
  rcases h with h | ⟨i, e, h1, h2⟩
  · exact Or.inl h
  · refine Or.inr ⟨i, e, ?_, h2⟩
    by_cases e2 : n = i
    · exact absurd (by rw [e, e2]) c
    · omega
theorem oq_A_i {ws qd kd : Nat → Int32} {qm n nx : Nat} {z v : Int32} (hq : qm ≤ 10) (hn : n < qm) (hnx : nx = oq_x (oq_W ws) (oq_N kd) (oq_b z) qm (oq_S (oq_W ws) (oq_N kd) (oq_b z) qm n)) (c : nI n = v) : qd nx = oq_A ws qd kd qm z v := by
  subst c
  unfold oq_A
  rw [if_neg (oq_n1 (by omega)), if_neg (by rw [wi_nI (by omega) hn]; decide), nI_clamp (by omega), hnx]
theorem oq_A_e {ws qd kd : Nat → Int32} {qm n sx : Nat} {z v lb s5 : Int32} (h : oq_or ws kd z qm n sx lb s5) (hv : oq_v2 qm n v) (hn : n = qm) : s5 = oq_A ws qd kd qm z v := by
  subst hn
  rcases hv with h1 | ⟨i, _, h1, h2⟩
  · unfold oq_A
    rw [if_pos h1]
    exact h.2.2
  · omega
theorem oq_la9 {kd : Nat → Int32} {mq a : Nat} {v : Int32} (hq : mq ≤ 10) (h : oq_la kd mq v a) : v = -1 ∨ cnt v 9 := by
  rcases h with h | ⟨q, h1, h2, _⟩
  · exact Or.inl h.1
  · exact Or.inr ⟨q, by omega, h2⟩

set_option maxHeartbeats 4000000 in
set_option maxRecDepth 100000 in
theorem m_isNut (l : Launch) (dC : Nat → ClassId) (dI : Nat → Nat → Nat) (ca : Nat → ClassId) (y : Nat) (b2 : Nat → Nat) (ml : Nat) (mb : Nat) (mp : Nat) (mx : Nat) (mr : Nat) (mq : Nat) (gl : Int32) (gh : Int32) (mch : Nat) (mli : Nat) (mno : Nat) (A8 : Nat → Int32) (A35 : Nat → Int32) (k : Nat) (hM : mI ml mb mp mx mr mq mch mli mno) (hk : k < 10) (h_queue : ∀ j, cnt (A35 j) 39) : Met l yX11_isNut (Cond.code yX11_isNut cX11_isNut 2 (some .boolean) :: gT) ({ frames := 1, cells := 0, slots := 0, locals := 60 }) (va_Pc [.ref y, .int (nI k)] (pu (dC, dI) [(y, .inr (11, [.int (nI ml), .int (nI mb), .int (nI mp), .int (nI mx), .int (nI mr), .int (nI mq), .ref (b2 6), .ref (b2 7), .ref (b2 8), .ref (b2 9), .ref (b2 10), .ref (b2 11), .ref (b2 12), .ref (b2 13), .ref (b2 14), .ref (b2 15), .ref (b2 16), .ref (b2 17), .ref (b2 18), .ref (b2 19), .ref (b2 20), .ref (b2 21), .ref (b2 22), .ref (b2 23), .ref (b2 24), .ref (b2 25), .ref (b2 26), .ref (b2 27), .ref (b2 28), .int gl, .int gh, .ref (b2 31), .ref (b2 32), .ref (b2 33), .ref (b2 34), .ref (b2 35), .ref (b2 36), .ref (b2 37), .ref (b2 38), .ref (b2 39), .ref (b2 40), .ref (b2 41), .ref (b2 42), .ref (b2 43), .ref (b2 44), .ref (b2 45), .ref (b2 46), .ref (b2 47), .int (nI mch), .int (nI mli), .ref (b2 50), .ref (b2 51), .int (nI mno), .ref (b2 53), .ref (b2 54), .ref (b2 55)])), ((b2 8), .inl (ca 0, 40, .inl A8)), ((b2 35), .inl (ca 0, 10, .inl A35))] (aT ca))) (vp_Si (fun r => r = ntI A8 A35 k)) 0 0 (fun _ => False) := by
  refine Met.ofW (cc := cX11_isNut) (maxL := 2) (ret := (some .boolean)) (by decide) rfl ?_
  intro p e s m args below meth c s₁ B hml hv
  obtain ⟨rfl, hP, hK, hE⟩ := hv
  have hx := B.exec
  have hb := B.bytes
  have hr := B.returns
  have hts : ∀ w ∈ gT, w.before _ s = true := fun w h => atoms_spec (ws := Cond.code yX11_isNut cX11_isNut 2 (some .boolean) :: gT) B.pre w (List.mem_cons_of_mem _ h)
  have hown : s.vm.findClass RX11 = some m.cls := findClass_of_methodNamed B.named
  have hlocks := B.notSynchronized
  have hl := lv_entry ([.ref y, .int (nI k)]) (n := 2) (Nat.le_of_ble_eq_true rfl)
  rw [lg_entry_eq]
  generalize (lg_sl ([.ref y, .int (nI k)]) ++ List.replicate (2 - (lg_sl ([.ref y, .int (nI k)])).length) Slot.unset).toArray = ls at hl ⊢
  have hl : lv_has ls 2 [(0, .ref y), (1, .int (nI k))] := hl
  obtain ⟨hm1, hm2, hm3, hm4, hm5, hm6, hm7, hm8, hm9⟩ := id hM
  refine lv_aload_n hx hb dX11_isNut_0 rfl (lv_at hl 0 rfl) ?_
  refine va_get (D := (dC, dI)) (ci := 11) (v := .ref (b2 8)) (C := RX11) (T := TX11) (N := 56) hx hb hts inX11 hown hK hP 0 rfl rfl 8 (by decide) (hts _ mw_888) (fun _ h9 => h9) rfl dX11_isNut_1 ?_
  refine lv_aload_n hx hb dX11_isNut_4 rfl (lv_at hl 0 rfl) ?_
  refine va_get (D := (dC, dI)) (ci := 11) (v := .ref (b2 35)) (C := RX11) (T := TX11) (N := 56) hx hb hts inX11 hown hK hP 0 rfl rfl 35 (by decide) (hts _ mw_915) (fun _ h9 => h9) rfl dX11_isNut_5 ?_
  refine lv_iload_n hx hb dX11_isNut_8 rfl (lv_at hl 1 rfl) ?_
  refine va_iald hx hb hK hP 2 0 rfl rfl (vp_in_nI (show k < 10 by omega) (by first | decide | omega)) dX11_isNut_9 ?_
  refine lv_topi (fun y_ e_ => ?_)
  obtain rfl : y_ = (A35 k) := e_.trans (congrArg A35 (show ((nI k) : Int32).toNatClampNeg = k from nI_clamp (by omega)))
  refine va_iald hx hb hK hP 1 0 rfl rfl (cnt_vp (h_queue k) (by decide) (by decide)) dX11_isNut_10 ?_
  refine lv_iconst (v := 4) hx hb dX11_isNut_11 (by decide) ?_
  refine lv_icmp_ne (tgt := 19) hx hb dX11_isNut_12 (by decide) (fun c_1 => ?_) (fun c_1 => ?_)
  · refine lv_iconst (v := 0) hx hb dX11_isNut_19 (by decide) ?_
    exact W.zret (v := 0) (ty := .boolean) hx hb hr rfl (fun t ht hW => ⟨0, rfl, (by unfold ntI; simp [c_1]), ht⟩) (fun q h => absurd h List.not_mem_nil) dX11_isNut_20
  · refine lv_iconst (v := 1) hx hb dX11_isNut_15 (by decide) ?_
    refine lv_goto (tgt := 20) hx hb dX11_isNut_16 (by decide) ?_
    exact W.zret (v := 1) (ty := .boolean) hx hb hr rfl (fun t ht hW => ⟨1, rfl, (by unfold ntI; simp [c_1]), ht⟩) (fun q h => absurd h List.not_mem_nil) dX11_isNut_20

set_option maxHeartbeats 4000000 in
set_option maxRecDepth 100000 in
theorem m_mayCome (l : Launch) (dC : Nat → ClassId) (dI : Nat → Nat → Nat) (ca : Nat → ClassId) (y : Nat) (b2 : Nat → Nat) (ml : Nat) (mb : Nat) (mp : Nat) (mx : Nat) (mr : Nat) (mq : Nat) (gl : Int32) (gh : Int32) (mch : Nat) (mli : Nat) (mno : Nat) (A8 : Nat → Int32) (A35 : Nat → Int32) (st_ : Nat) (k : Nat) (v3 : Int32) (kd : Nat → Int32) (hM : mI ml mb mp mx mr mq mch mli mno) (hst : st_ < 1024) (hk : k < 10) (hkm : k < mq) (h_queue : ∀ j, cnt (A35 j) 39) (hkq : ∀ i, i < mq → A8 (A35 i).toNatClampNeg = kd i) (hqk : qI mq kd) : Met l yX11_mayCome (Cond.code yX11_mayCome cX11_mayCome 5 (some .boolean) :: gT) ({ frames := 2, cells := 0, slots := 0, locals := 81 }) (va_Pc [.ref y, .int (nI st_), .int (nI k), .int v3] (pu (dC, dI) [(y, .inr (11, [.int (nI ml), .int (nI mb), .int (nI mp), .int (nI mx), .int (nI mr), .int (nI mq), .ref (b2 6), .ref (b2 7), .ref (b2 8), .ref (b2 9), .ref (b2 10), .ref (b2 11), .ref (b2 12), .ref (b2 13), .ref (b2 14), .ref (b2 15), .ref (b2 16), .ref (b2 17), .ref (b2 18), .ref (b2 19), .ref (b2 20), .ref (b2 21), .ref (b2 22), .ref (b2 23), .ref (b2 24), .ref (b2 25), .ref (b2 26), .ref (b2 27), .ref (b2 28), .int gl, .int gh, .ref (b2 31), .ref (b2 32), .ref (b2 33), .ref (b2 34), .ref (b2 35), .ref (b2 36), .ref (b2 37), .ref (b2 38), .ref (b2 39), .ref (b2 40), .ref (b2 41), .ref (b2 42), .ref (b2 43), .ref (b2 44), .ref (b2 45), .ref (b2 46), .ref (b2 47), .int (nI mch), .int (nI mli), .ref (b2 50), .ref (b2 51), .int (nI mno), .ref (b2 53), .ref (b2 54), .ref (b2 55)])), ((b2 8), .inl (ca 0, 40, .inl A8)), ((b2 35), .inl (ca 0, 10, .inl A35))] (aT ca))) (vp_Si (fun r => (r = 1 ∧ oq_p (oq_N kd) (oq_b v3) mq (oq_bt st_) k = true) ∨ (r = 0 ∧ oq_p (oq_N kd) (oq_b v3) mq (oq_bt st_) k = false))) 0 0 (fun _ => False) := by
  refine Met.ofW (cc := cX11_mayCome) (maxL := 5) (ret := (some .boolean)) (by decide) rfl ?_
  intro p e s m args below meth c s₁ B hml hv
  obtain ⟨rfl, hP, hK, hE⟩ := hv
  have hx := B.exec
  have hb := B.bytes
  have hr := B.returns
  have hts : ∀ w ∈ gT, w.before _ s = true := fun w h => atoms_spec (ws := Cond.code yX11_mayCome cX11_mayCome 5 (some .boolean) :: gT) B.pre w (List.mem_cons_of_mem _ h)
  have hown : s.vm.findClass RX11 = some m.cls := findClass_of_methodNamed B.named
  have hlocks := B.notSynchronized
  have hl := lv_entry ([.ref y, .int (nI st_), .int (nI k), .int v3]) (n := 5) (Nat.le_of_ble_eq_true rfl)
  rw [lg_entry_eq]
  generalize (lg_sl ([.ref y, .int (nI st_), .int (nI k), .int v3]) ++ List.replicate (5 - (lg_sl ([.ref y, .int (nI st_), .int (nI k), .int v3])).length) Slot.unset).toArray = ls at hl ⊢
  have hl : lv_has ls 5 [(0, .ref y), (1, .int (nI st_)), (2, .int (nI k)), (3, .int v3)] := hl
  obtain ⟨hm1, hm2, hm3, hm4, hm5, hm6, hm7, hm8, hm9⟩ := id hM
  refine lv_iload_n hx hb dX11_mayCome_0 rfl (lv_at hl 1 rfl) ?_
  refine lv_iload_n hx hb dX11_mayCome_1 rfl (lv_at hl 2 rfl) ?_
  refine lv_ishr hx hb dX11_mayCome_2 ?_
  refine lv_iconst (v := 1) hx hb dX11_mayCome_3 (by decide) ?_
  refine lv_iand hx hb dX11_mayCome_4 ?_
  refine lv_topi (fun y_ e_ => ?_)
  obtain rfl : y_ = (bt1 st_ k) := e_.trans (bt1_eq (by omega) (by omega))
  refine lv_iconst (v := 1) hx hb dX11_mayCome_5 (by decide) ?_
  refine lv_icmp_ne (tgt := 11) hx hb dX11_mayCome_6 (by decide) (fun c_1 => ?_) (fun c_1 => ?_)
  · refine lv_iconst (v := 0) hx hb dX11_mayCome_11 (by decide) ?_
    refine lv_istore (lv' := [(4, .int 0), (0, .ref y), (1, .int (nI st_)), (2, .int (nI k)), (3, .int v3)]) hx hb dX11_mayCome_12 hl (by decide) rfl (fun ls hl => ?_)
    refine wl_loop (fun (z_ : Nat) H locs ls => (z_ ≤ mq ∧ ∀ q, q < z_ → ntI A8 A35 q = 0 → st_.testBit q = true) ∧ H = s.heap ∧ locs = [] ∧ lv_has ls 5 [(4, .int (nI z_)), (0, .ref y), (1, .int (nI st_)), (2, .int (nI k)), (3, .int v3)]) (fun (z_ : Nat) => mq - z_) (fun z_ H locs ls hI ih => ?_) 0 ⟨⟨Nat.zero_le _, fun q hq => absurd hq (Nat.not_lt_zero q)⟩, rfl, rfl, lv_sub hl [0, 1, 2, 3, 4] rfl⟩
    revert hI ih; revert z_; intro j hI ih
    obtain ⟨⟨hj, hnn⟩, rfl, rfl, hl⟩ := hI
    refine lv_iload hx hb dX11_mayCome_14 (lv_at hl 0 rfl) ?_
    refine lv_aload_n hx hb dX11_mayCome_16 rfl (lv_at hl 1 rfl) ?_
    refine va_get (D := (dC, dI)) (ci := 11) (v := .int (nI mq)) (C := RX11) (T := TX11) (N := 56) hx hb hts inX11 hown hK hP 0 rfl rfl 5 (by decide) (hts _ mw_885) (fun _ h9 => h9) rfl dX11_mayCome_17 ?_
    refine lv_icmp_ge (tgt := 61) hx hb dX11_mayCome_20 (by decide) (fun c_2 => ?_) (fun c_2 => ?_)
    · have nc_2 : mq ≤ j := (nI_leI (a := mq) (b := j) (by omega) (by omega)).mp c_2
      refine lv_iconst (v := 1) hx hb dX11_mayCome_61 (by decide) ?_
      exact W.zret (v := 1) (ty := .boolean) hx hb hr rfl (fun t ht hW => ⟨1, rfl, (Or.inl ⟨rfl, oq_rp1 hkq hqk hkm (bt1_n1 c_1) (fun _ _ q9 hq9 => hnn q9 (by omega))⟩), ht⟩) (fun q h => absurd h List.not_mem_nil) dX11_mayCome_62
    · have nc_2 : ¬ (mq ≤ j) := fun h9 => c_2 ((nI_leI (a := mq) (b := j) (by omega) (by omega)).mpr h9)
      refine lv_iload_n hx hb dX11_mayCome_23 rfl (lv_at hl 4 rfl) ?_
      refine lv_if_eq (tgt := 61) hx hb dX11_mayCome_24 (by decide) (fun c_3 => ?_) (fun c_3 => ?_)
      · refine lv_iconst (v := 1) hx hb dX11_mayCome_61 (by decide) ?_
        exact W.zret (v := 1) (ty := .boolean) hx hb hr rfl (fun t ht hW => ⟨1, rfl, (Or.inl ⟨rfl, oq_rp1 hkq hqk hkm (bt1_n1 c_1) (fun _ h9 => absurd c_3 h9)⟩), ht⟩) (fun q h => absurd h List.not_mem_nil) dX11_mayCome_62
      · refine lv_aload_n hx hb dX11_mayCome_27 rfl (lv_at hl 1 rfl) ?_
        refine lv_iload_n hx hb dX11_mayCome_28 rfl (lv_at hl 3 rfl) ?_
        have hPc := hP.sub (ws' := [(y, .inr (11, [.int (nI ml), .int (nI mb), .int (nI mp), .int (nI mx), .int (nI mr), .int (nI mq), .ref (b2 6), .ref (b2 7), .ref (b2 8), .ref (b2 9), .ref (b2 10), .ref (b2 11), .ref (b2 12), .ref (b2 13), .ref (b2 14), .ref (b2 15), .ref (b2 16), .ref (b2 17), .ref (b2 18), .ref (b2 19), .ref (b2 20), .ref (b2 21), .ref (b2 22), .ref (b2 23), .ref (b2 24), .ref (b2 25), .ref (b2 26), .ref (b2 27), .ref (b2 28), .int gl, .int gh, .ref (b2 31), .ref (b2 32), .ref (b2 33), .ref (b2 34), .ref (b2 35), .ref (b2 36), .ref (b2 37), .ref (b2 38), .ref (b2 39), .ref (b2 40), .ref (b2 41), .ref (b2 42), .ref (b2 43), .ref (b2 44), .ref (b2 45), .ref (b2 46), .ref (b2 47), .int (nI mch), .int (nI mli), .ref (b2 50), .ref (b2 51), .int (nI mno), .ref (b2 53), .ref (b2 54), .ref (b2 55)])), ((b2 8), .inl (ca 0, 40, .inl A8)), ((b2 35), .inl (ca 0, 10, .inl A35))]) [0, 1, 2] rfl
        refine pc_i (va_runV (As := [.int (nI k)]) (rest := []) ⟨hx, hb, hml, hown, hts⟩ (m_isNut l dC dI ca y b2 ml mb mp mx mr mq gl gh mch mli mno A8 A35 k (by first | assumption | omega | exact ⟨_, by omega, rfl⟩) (by first | assumption | omega | exact ⟨_, by omega, rfl⟩) (by first | assumption | omega | exact ⟨_, by omega, rfl⟩)) (⟨callB_of 1 hts (gd mw_1276) rfl rfl rfl (hts _ mw_8) (hts _ mw_1273) ds_X11_isNut ⟨Nat.le_of_ble_eq_true rfl, Nat.le_of_ble_eq_true rfl⟩, (hts _ mw_1275), (hts _ mp_63)⟩) (pu_V hPc hK hE (va_recv hK hPc (ci := 11) (q0 := 0) rfl rfl)) rfl rfl hl.1 rfl (lv_room (Nat.le_of_ble_eq_true rfl)) dX11_mayCome_29 ⟨Nat.le_of_ble_eq_true rfl, Nat.le_of_ble_eq_true rfl⟩) (fun rv_4 hw_ => ?_)
        obtain rfl : rv_4 = (ntI A8 A35 k) := hw_
        refine lv_if_eq (tgt := 61) hx hb dX11_mayCome_32 (by decide) (fun c_5 => ?_) (fun c_5 => ?_)
        · refine lv_iconst (v := 1) hx hb dX11_mayCome_61 (by decide) ?_
          exact W.zret (v := 1) (ty := .boolean) hx hb hr rfl (fun t ht hW => ⟨1, rfl, (Or.inl ⟨rfl, oq_rp1 hkq hqk hkm (bt1_n1 c_1) (fun h9 => absurd c_5 h9)⟩), ht⟩) (fun q h => absurd h List.not_mem_nil) dX11_mayCome_62
        · refine lv_aload_n hx hb dX11_mayCome_35 rfl (lv_at hl 1 rfl) ?_
          refine lv_iload hx hb dX11_mayCome_36 (lv_at hl 0 rfl) ?_
          have hPc := hP.sub (ws' := [(y, .inr (11, [.int (nI ml), .int (nI mb), .int (nI mp), .int (nI mx), .int (nI mr), .int (nI mq), .ref (b2 6), .ref (b2 7), .ref (b2 8), .ref (b2 9), .ref (b2 10), .ref (b2 11), .ref (b2 12), .ref (b2 13), .ref (b2 14), .ref (b2 15), .ref (b2 16), .ref (b2 17), .ref (b2 18), .ref (b2 19), .ref (b2 20), .ref (b2 21), .ref (b2 22), .ref (b2 23), .ref (b2 24), .ref (b2 25), .ref (b2 26), .ref (b2 27), .ref (b2 28), .int gl, .int gh, .ref (b2 31), .ref (b2 32), .ref (b2 33), .ref (b2 34), .ref (b2 35), .ref (b2 36), .ref (b2 37), .ref (b2 38), .ref (b2 39), .ref (b2 40), .ref (b2 41), .ref (b2 42), .ref (b2 43), .ref (b2 44), .ref (b2 45), .ref (b2 46), .ref (b2 47), .int (nI mch), .int (nI mli), .ref (b2 50), .ref (b2 51), .int (nI mno), .ref (b2 53), .ref (b2 54), .ref (b2 55)])), ((b2 8), .inl (ca 0, 40, .inl A8)), ((b2 35), .inl (ca 0, 10, .inl A35))]) [0, 1, 2] rfl
          refine pc_i (va_runV (As := [.int (nI j)]) (rest := []) ⟨hx, hb, hml, hown, hts⟩ (m_isNut l dC dI ca y b2 ml mb mp mx mr mq gl gh mch mli mno A8 A35 j (by first | assumption | omega | exact ⟨_, by omega, rfl⟩) (by first | assumption | omega | exact ⟨_, by omega, rfl⟩) (by first | assumption | omega | exact ⟨_, by omega, rfl⟩)) (⟨callB_of 1 hts (gd mw_1276) rfl rfl rfl (hts _ mw_8) (hts _ mw_1273) ds_X11_isNut ⟨Nat.le_of_ble_eq_true rfl, Nat.le_of_ble_eq_true rfl⟩, (hts _ mw_1275), (hts _ mp_63)⟩) (pu_V hPc hK hE (va_recv hK hPc (ci := 11) (q0 := 0) rfl rfl)) rfl rfl hl.1 rfl (lv_room (Nat.le_of_ble_eq_true rfl)) dX11_mayCome_38 ⟨Nat.le_of_ble_eq_true rfl, Nat.le_of_ble_eq_true rfl⟩) (fun rv_6 hw_ => ?_)
          obtain rfl : rv_6 = (ntI A8 A35 j) := hw_
          refine lv_if_ne (tgt := 55) hx hb dX11_mayCome_41 (by decide) (fun c_7 => ?_) (fun c_7 => ?_)
          · refine lv_iinc (v := (nI (j + 1))) (lv' := [(4, .int (nI (j + 1))), (0, .ref y), (1, .int (nI st_)), (2, .int (nI k)), (3, .int v3)]) hx hb dX11_mayCome_55 hl (k := 0) rfl (nI_add (j) 1) (by decide) rfl (fun ls hl => ?_)
            refine lv_goto (tgt := 14) hx hb dX11_mayCome_58 (by decide) ?_
            exact ih (j + 1) _ _ _ (by omega) ⟨⟨by omega, oq_nn_n hnn c_7⟩, rfl, rfl, lv_sub hl [0, 1, 2, 3, 4] rfl⟩
          · refine lv_iload_n hx hb dX11_mayCome_44 rfl (lv_at hl 2 rfl) ?_
            refine lv_iload hx hb dX11_mayCome_45 (lv_at hl 0 rfl) ?_
            refine lv_ishr hx hb dX11_mayCome_47 ?_
            refine lv_iconst (v := 1) hx hb dX11_mayCome_48 (by decide) ?_
            refine lv_iand hx hb dX11_mayCome_49 ?_
            refine lv_topi (fun y_ e_ => ?_)
            obtain rfl : y_ = (bt1 st_ j) := e_.trans (bt1_eq (by omega) (by omega))
            refine lv_if_ne (tgt := 55) hx hb dX11_mayCome_50 (by decide) (fun c_8 => ?_) (fun c_8 => ?_)
            · refine lv_iinc (v := (nI (j + 1))) (lv' := [(4, .int (nI (j + 1))), (0, .ref y), (1, .int (nI st_)), (2, .int (nI k)), (3, .int v3)]) hx hb dX11_mayCome_55 hl (k := 0) rfl (nI_add (j) 1) (by decide) rfl (fun ls hl => ?_)
              refine lv_goto (tgt := 14) hx hb dX11_mayCome_58 (by decide) ?_
              exact ih (j + 1) _ _ _ (by omega) ⟨⟨by omega, oq_nn_b hnn (bt1_n0 c_8)⟩, rfl, rfl, lv_sub hl [0, 1, 2, 3, 4] rfl⟩
            · refine lv_iconst (v := 0) hx hb dX11_mayCome_53 (by decide) ?_
              exact W.zret (v := 0) (ty := .boolean) hx hb hr rfl (fun t ht hW => ⟨0, rfl, (Or.inr ⟨rfl, oq_rp2 hkq hqk hkm c_5 c_3 (show j < mq by omega) c_7 (bt1_0 c_8)⟩), ht⟩) (fun q h => absurd h List.not_mem_nil) dX11_mayCome_54
  · refine lv_iconst (v := 0) hx hb dX11_mayCome_9 (by decide) ?_
    exact W.zret (v := 0) (ty := .boolean) hx hb hr rfl (fun t ht hW => ⟨0, rfl, (Or.inr ⟨rfl, oq_rp0 (bt1_1 c_1)⟩), ht⟩) (fun q h => absurd h List.not_mem_nil) dX11_mayCome_10

set_option maxHeartbeats 4000000 in
set_option maxRecDepth 100000 in
theorem m_minutes (l : Launch) (dC : Nat → ClassId) (dI : Nat → Nat → Nat) (ca : Nat → ClassId) (y : Nat) (b2 : Nat → Nat) (ml : Nat) (mb : Nat) (mp : Nat) (mx : Nat) (mr : Nat) (mq : Nat) (gl : Int32) (gh : Int32) (mch : Nat) (mli : Nat) (mno : Nat) (A8 : Nat → Int32) (A35 : Nat → Int32) (A34 : Nat → Int32) (v1 : Int32) (k : Nat) (kd : Nat → Int32) (hM : mI ml mb mp mx mr mq mch mli mno) (hv1 : v1 = -1 ∨ cnt v1 9) (hk : k < 10) (hkm : k < mq) (h_kind : ∀ j, cnt (A8 j) 5) (h_queue : ∀ j, cnt (A35 j) 39) (hkq : ∀ i, i < mq → A8 (A35 i).toNatClampNeg = kd i) (hqk : qI mq kd) (hws : ∀ j, cnt (A34 j) 600) : Met l yX11_minutes (Cond.code yX11_minutes cX11_minutes 3 (some .int) :: gT) ({ frames := 1, cells := 0, slots := 0, locals := 60 }) (va_Pc [.ref y, .int v1, .int (nI k)] (pu (dC, dI) [(y, .inr (11, [.int (nI ml), .int (nI mb), .int (nI mp), .int (nI mx), .int (nI mr), .int (nI mq), .ref (b2 6), .ref (b2 7), .ref (b2 8), .ref (b2 9), .ref (b2 10), .ref (b2 11), .ref (b2 12), .ref (b2 13), .ref (b2 14), .ref (b2 15), .ref (b2 16), .ref (b2 17), .ref (b2 18), .ref (b2 19), .ref (b2 20), .ref (b2 21), .ref (b2 22), .ref (b2 23), .ref (b2 24), .ref (b2 25), .ref (b2 26), .ref (b2 27), .ref (b2 28), .int gl, .int gh, .ref (b2 31), .ref (b2 32), .ref (b2 33), .ref (b2 34), .ref (b2 35), .ref (b2 36), .ref (b2 37), .ref (b2 38), .ref (b2 39), .ref (b2 40), .ref (b2 41), .ref (b2 42), .ref (b2 43), .ref (b2 44), .ref (b2 45), .ref (b2 46), .ref (b2 47), .int (nI mch), .int (nI mli), .ref (b2 50), .ref (b2 51), .int (nI mno), .ref (b2 53), .ref (b2 54), .ref (b2 55)])), ((b2 8), .inl (ca 0, 40, .inl A8)), ((b2 35), .inl (ca 0, 10, .inl A35)), ((b2 34), .inl (ca 0, 36, .inl A34))] (aT ca))) (vp_Si (fun r => ∀ a, oq_la kd mq v1 a → r = nI (oq_w (oq_W A34) a (oq_N kd k)))) 0 0 (fun _ => False) := by
  refine Met.ofW (cc := cX11_minutes) (maxL := 3) (ret := (some .int)) (by decide) rfl ?_
  intro p e s m args below meth c s₁ B hml hv
  obtain ⟨rfl, hP, hK, hE⟩ := hv
  have hx := B.exec
  have hb := B.bytes
  have hr := B.returns
  have hts : ∀ w ∈ gT, w.before _ s = true := fun w h => atoms_spec (ws := Cond.code yX11_minutes cX11_minutes 3 (some .int) :: gT) B.pre w (List.mem_cons_of_mem _ h)
  have hown : s.vm.findClass RX11 = some m.cls := findClass_of_methodNamed B.named
  have hlocks := B.notSynchronized
  have hl := lv_entry ([.ref y, .int v1, .int (nI k)]) (n := 3) (Nat.le_of_ble_eq_true rfl)
  rw [lg_entry_eq]
  generalize (lg_sl ([.ref y, .int v1, .int (nI k)]) ++ List.replicate (3 - (lg_sl ([.ref y, .int v1, .int (nI k)])).length) Slot.unset).toArray = ls at hl ⊢
  have hl : lv_has ls 3 [(0, .ref y), (1, .int v1), (2, .int (nI k))] := hl
  obtain ⟨hm1, hm2, hm3, hm4, hm5, hm6, hm7, hm8, hm9⟩ := id hM
  refine lv_iload_n hx hb dX11_minutes_0 rfl (lv_at hl 1 rfl) ?_
  refine lv_if_ge (tgt := 8) hx hb dX11_minutes_1 (by decide) (fun c_1 => ?_) (fun c_1 => ?_)
  · obtain ⟨a9, ha9, ea9⟩ := hv1.resolve_left (fun e9 => absurd (e9 ▸ c_1) (by decide))
    subst ea9
    refine lv_aload_n hx hb dX11_minutes_8 rfl (lv_at hl 0 rfl) ?_
    refine va_get (D := (dC, dI)) (ci := 11) (v := .ref (b2 34)) (C := RX11) (T := TX11) (N := 56) hx hb hts inX11 hown hK hP 0 rfl rfl 34 (by decide) (hts _ mw_914) (fun _ h9 => h9) rfl dX11_minutes_9 ?_
    refine lv_bipush (v := 6) hx hb dX11_minutes_12 (by decide) ?_
    refine lv_aload_n hx hb dX11_minutes_14 rfl (lv_at hl 0 rfl) ?_
    refine va_get (D := (dC, dI)) (ci := 11) (v := .ref (b2 8)) (C := RX11) (T := TX11) (N := 56) hx hb hts inX11 hown hK hP 0 rfl rfl 8 (by decide) (hts _ mw_888) (fun _ h9 => h9) rfl dX11_minutes_15 ?_
    refine lv_aload_n hx hb dX11_minutes_18 rfl (lv_at hl 0 rfl) ?_
    refine va_get (D := (dC, dI)) (ci := 11) (v := .ref (b2 35)) (C := RX11) (T := TX11) (N := 56) hx hb hts inX11 hown hK hP 0 rfl rfl 35 (by decide) (hts _ mw_915) (fun _ h9 => h9) rfl dX11_minutes_19 ?_
    refine lv_iload_n hx hb dX11_minutes_22 rfl (lv_at hl 1 rfl) ?_
    refine va_iald hx hb hK hP 2 0 rfl rfl (vp_in_nI (show a9 < 10 by omega) (by first | decide | omega)) dX11_minutes_23 ?_
    refine lv_topi (fun y_ e_ => ?_)
    obtain rfl : y_ = (A35 a9) := e_.trans (congrArg A35 (show ((nI a9) : Int32).toNatClampNeg = a9 from nI_clamp (by omega)))
    refine va_iald hx hb hK hP 1 0 rfl rfl (cnt_vp (h_queue a9) (by decide) (by decide)) dX11_minutes_24 ?_
    refine lv_imul hx hb dX11_minutes_25 ?_
    refine lv_aload_n hx hb dX11_minutes_26 rfl (lv_at hl 0 rfl) ?_
    refine va_get (D := (dC, dI)) (ci := 11) (v := .ref (b2 8)) (C := RX11) (T := TX11) (N := 56) hx hb hts inX11 hown hK hP 0 rfl rfl 8 (by decide) (hts _ mw_888) (fun _ h9 => h9) rfl dX11_minutes_27 ?_
    refine lv_aload_n hx hb dX11_minutes_30 rfl (lv_at hl 0 rfl) ?_
    refine va_get (D := (dC, dI)) (ci := 11) (v := .ref (b2 35)) (C := RX11) (T := TX11) (N := 56) hx hb hts inX11 hown hK hP 0 rfl rfl 35 (by decide) (hts _ mw_915) (fun _ h9 => h9) rfl dX11_minutes_31 ?_
    refine lv_iload_n hx hb dX11_minutes_34 rfl (lv_at hl 2 rfl) ?_
    refine va_iald hx hb hK hP 2 0 rfl rfl (vp_in_nI (show k < 10 by omega) (by first | decide | omega)) dX11_minutes_35 ?_
    refine lv_topi (fun y_ e_ => ?_)
    obtain rfl : y_ = (A35 k) := e_.trans (congrArg A35 (show ((nI k) : Int32).toNatClampNeg = k from nI_clamp (by omega)))
    refine va_iald hx hb hK hP 1 0 rfl rfl (cnt_vp (h_queue k) (by decide) (by decide)) dX11_minutes_36 ?_
    refine lv_iadd hx hb dX11_minutes_37 ?_
    refine va_iald hx hb hK hP 3 0 rfl rfl (gr_in (A := 6) (B := 6) (cnt_vp (h_kind _) (by decide) (by decide)) (cnt_vp (h_kind _) (by decide) (by decide)) (by decide) (w := 6) (by decide) (by decide) (by decide)).2 dX11_minutes_38 ?_
    exact W.iret (v := (A34 (((6 * (A8 ((A35 a9) : Int32).toNatClampNeg)) + (A8 ((A35 k) : Int32).toNatClampNeg)) : Int32).toNatClampNeg)) hx hb hr (fun t ht hW => ⟨(A34 (((6 * (A8 ((A35 a9) : Int32).toNatClampNeg)) + (A8 ((A35 k) : Int32).toNatClampNeg)) : Int32).toNatClampNeg), rfl, (oq_mi1 hkq hqk hws hkm ha9), ht⟩) (fun q h => absurd h List.not_mem_nil) dX11_minutes_39
  · refine lv_iconst (v := 0) hx hb dX11_minutes_4 (by decide) ?_
    refine lv_goto (tgt := 39) hx hb dX11_minutes_5 (by decide) ?_
    exact W.iret (v := 0) hx hb hr (fun t ht hW => ⟨0, rfl, (oq_mi0 hm6 c_1), ht⟩) (fun q h => absurd h List.not_mem_nil) dX11_minutes_39

set_option maxHeartbeats 4000000 in
set_option maxRecDepth 100000 in
theorem m_restOf (l : Launch) (dC : Nat → ClassId) (dI : Nat → Nat → Nat) (ca : Nat → ClassId) (y : Nat) (b2 : Nat → Nat) (ml : Nat) (mb : Nat) (mp : Nat) (mx : Nat) (mr : Nat) (mq : Nat) (gl : Int32) (gh : Int32) (mch : Nat) (mli : Nat) (mno : Nat) (A55 : Nat → Int32) (st_ : Nat) (k : Nat) (hM : mI ml mb mp mx mr mq mch mli mno) (hst : st_ < 1024) (hk : k < 10) : Met l yX11_restOf (Cond.code yX11_restOf cX11_restOf 3 (some .int) :: gT) ({ frames := 1, cells := 0, slots := 0, locals := 60 }) (va_Pc [.ref y, .int (nI st_), .int (nI k)] (pu (dC, dI) [(y, .inr (11, [.int (nI ml), .int (nI mb), .int (nI mp), .int (nI mx), .int (nI mr), .int (nI mq), .ref (b2 6), .ref (b2 7), .ref (b2 8), .ref (b2 9), .ref (b2 10), .ref (b2 11), .ref (b2 12), .ref (b2 13), .ref (b2 14), .ref (b2 15), .ref (b2 16), .ref (b2 17), .ref (b2 18), .ref (b2 19), .ref (b2 20), .ref (b2 21), .ref (b2 22), .ref (b2 23), .ref (b2 24), .ref (b2 25), .ref (b2 26), .ref (b2 27), .ref (b2 28), .int gl, .int gh, .ref (b2 31), .ref (b2 32), .ref (b2 33), .ref (b2 34), .ref (b2 35), .ref (b2 36), .ref (b2 37), .ref (b2 38), .ref (b2 39), .ref (b2 40), .ref (b2 41), .ref (b2 42), .ref (b2 43), .ref (b2 44), .ref (b2 45), .ref (b2 46), .ref (b2 47), .int (nI mch), .int (nI mli), .ref (b2 50), .ref (b2 51), .int (nI mno), .ref (b2 53), .ref (b2 54), .ref (b2 55)])), ((b2 55), .inl (ca 0, 10240, .inl A55))] (aT ca))) (vp_Si (fun r => r = A55 (10 * st_ + k))) 0 0 (fun _ => False) := by
  refine Met.ofW (cc := cX11_restOf) (maxL := 3) (ret := (some .int)) (by decide) rfl ?_
  intro p e s m args below meth c s₁ B hml hv
  obtain ⟨rfl, hP, hK, hE⟩ := hv
  have hx := B.exec
  have hb := B.bytes
  have hr := B.returns
  have hts : ∀ w ∈ gT, w.before _ s = true := fun w h => atoms_spec (ws := Cond.code yX11_restOf cX11_restOf 3 (some .int) :: gT) B.pre w (List.mem_cons_of_mem _ h)
  have hown : s.vm.findClass RX11 = some m.cls := findClass_of_methodNamed B.named
  have hlocks := B.notSynchronized
  have hl := lv_entry ([.ref y, .int (nI st_), .int (nI k)]) (n := 3) (Nat.le_of_ble_eq_true rfl)
  rw [lg_entry_eq]
  generalize (lg_sl ([.ref y, .int (nI st_), .int (nI k)]) ++ List.replicate (3 - (lg_sl ([.ref y, .int (nI st_), .int (nI k)])).length) Slot.unset).toArray = ls at hl ⊢
  have hl : lv_has ls 3 [(0, .ref y), (1, .int (nI st_)), (2, .int (nI k))] := hl
  obtain ⟨hm1, hm2, hm3, hm4, hm5, hm6, hm7, hm8, hm9⟩ := id hM
  refine lv_aload_n hx hb dX11_restOf_0 rfl (lv_at hl 0 rfl) ?_
  refine va_get (D := (dC, dI)) (ci := 11) (v := .ref (b2 55)) (C := RX11) (T := TX11) (N := 56) hx hb hts inX11 hown hK hP 0 rfl rfl 55 (by decide) (hts _ mw_935) (fun _ h9 => h9) rfl dX11_restOf_1 ?_
  refine lv_bipush (v := 10) hx hb dX11_restOf_4 (by decide) ?_
  refine lv_iload_n hx hb dX11_restOf_6 rfl (lv_at hl 1 rfl) ?_
  refine lv_imul hx hb dX11_restOf_7 ?_
  refine lv_topi (fun y_ e_ => ?_)
  obtain rfl : y_ = (nI (10 * st_)) := e_.trans (pk_mul (10) (st_))
  refine lv_iload_n hx hb dX11_restOf_8 rfl (lv_at hl 2 rfl) ?_
  refine lv_iadd hx hb dX11_restOf_9 ?_
  refine lv_topi (fun y_ e_ => ?_)
  obtain rfl : y_ = (nI (10 * st_ + k)) := e_.trans (nI_add (10 * st_) (k))
  refine va_iald hx hb hK hP 1 0 rfl rfl (vp_in_nI (show 10 * st_ + k < 10240 by omega) (by first | decide | omega)) dX11_restOf_10 ?_
  refine lv_topi (fun y_ e_ => ?_)
  obtain rfl : y_ = (A55 (10 * st_ + k)) := e_.trans (congrArg A55 (show ((nI (10 * st_ + k)) : Int32).toNatClampNeg = 10 * st_ + k from nI_clamp (by omega)))
  exact W.iret (v := (A55 (10 * st_ + k))) hx hb hr (fun t ht hW => ⟨(A55 (10 * st_ + k)), rfl, rfl, ht⟩) (fun q h => absurd h List.not_mem_nil) dX11_restOf_11

theorem oq_pt {r : Int32} {x : Bool} (h : (r = 1 ∧ x = true) ∨ (r = 0 ∧ x = false)) (c : ¬ r = 0) : x = true := by
  rcases h with h | h
  · exact h.2
  · exact absurd h.1 c
theorem oq_pf {r : Int32} {x : Bool} (h : (r = 1 ∧ x = true) ∨ (r = 0 ∧ x = false)) (c : r = 0) : x = false := by
  rcases h with h | h
  · rw [c] at h; exact absurd h.1 (by decide)
  · exact h.2

set_option maxHeartbeats 4000000 in
set_option maxRecDepth 100000 in
theorem m_reckon (l : Launch) (dC : Nat → ClassId) (dI : Nat → Nat → Nat) (ca : Nat → ClassId) (sz : Nat) (y : Nat) (b2 : Nat → Nat) (ml : Nat) (mb : Nat) (mp : Nat) (mx : Nat) (mr : Nat) (mq : Nat) (gl : Int32) (gh : Int32) (mch : Nat) (mli : Nat) (mno : Nat) (A8 : Nat → Int32) (A35 : Nat → Int32) (A34 : Nat → Int32) (A55 : Nat → Int32) (v1 : Int32) (kd : Nat → Int32) (hM : mI ml mb mp mx mr mq mch mli mno) (h_kind : ∀ j, cnt (A8 j) 5) (h_queue : ∀ j, cnt (A35 j) 39) (hkq : ∀ i, i < mq → A8 (A35 i).toNatClampNeg = kd i) (hqk : qI mq kd) (hws : ∀ j, cnt (A34 j) 600) : Met l yX11_reckon (Cond.code yX11_reckon cX11_reckon 8 none :: gT) ({ frames := 3, cells := 0, slots := 0, locals := 105 }) (va_Pc [.ref y, .int v1] (pr (dC, dI) sz [(y, .inr (11, [.int (nI ml), .int (nI mb), .int (nI mp), .int (nI mx), .int (nI mr), .int (nI mq), .ref (b2 6), .ref (b2 7), .ref (b2 8), .ref (b2 9), .ref (b2 10), .ref (b2 11), .ref (b2 12), .ref (b2 13), .ref (b2 14), .ref (b2 15), .ref (b2 16), .ref (b2 17), .ref (b2 18), .ref (b2 19), .ref (b2 20), .ref (b2 21), .ref (b2 22), .ref (b2 23), .ref (b2 24), .ref (b2 25), .ref (b2 26), .ref (b2 27), .ref (b2 28), .int gl, .int gh, .ref (b2 31), .ref (b2 32), .ref (b2 33), .ref (b2 34), .ref (b2 35), .ref (b2 36), .ref (b2 37), .ref (b2 38), .ref (b2 39), .ref (b2 40), .ref (b2 41), .ref (b2 42), .ref (b2 43), .ref (b2 44), .ref (b2 45), .ref (b2 46), .ref (b2 47), .int (nI mch), .int (nI mli), .ref (b2 50), .ref (b2 51), .int (nI mno), .ref (b2 53), .ref (b2 54), .ref (b2 55)])), ((b2 8), .inl (ca 0, 40, .inl A8)), ((b2 35), .inl (ca 0, 10, .inl A35)), ((b2 34), .inl (ca 0, 36, .inl A34)), ((b2 55), .inl (ca 0, 10240, .inl A55))] (aT ca))) (va_Qv (fun (u_ : (Nat → Int32)) => oq_RT A34 kd v1 mq u_ 0) (fun (u_ : (Nat → Int32)) t => va_P (dC, dI) vwCl [(y, .inr (11, [.int (nI ml), .int (nI mb), .int (nI mp), .int (nI mx), .int (nI mr), .int (nI mq), .ref (b2 6), .ref (b2 7), .ref (b2 8), .ref (b2 9), .ref (b2 10), .ref (b2 11), .ref (b2 12), .ref (b2 13), .ref (b2 14), .ref (b2 15), .ref (b2 16), .ref (b2 17), .ref (b2 18), .ref (b2 19), .ref (b2 20), .ref (b2 21), .ref (b2 22), .ref (b2 23), .ref (b2 24), .ref (b2 25), .ref (b2 26), .ref (b2 27), .ref (b2 28), .int gl, .int gh, .ref (b2 31), .ref (b2 32), .ref (b2 33), .ref (b2 34), .ref (b2 35), .ref (b2 36), .ref (b2 37), .ref (b2 38), .ref (b2 39), .ref (b2 40), .ref (b2 41), .ref (b2 42), .ref (b2 43), .ref (b2 44), .ref (b2 45), .ref (b2 46), .ref (b2 47), .int (nI mch), .int (nI mli), .ref (b2 50), .ref (b2 51), .int (nI mno), .ref (b2 53), .ref (b2 54), .ref (b2 55)])), ((b2 8), .inl (ca 0, 40, .inl A8)), ((b2 35), .inl (ca 0, 10, .inl A35)), ((b2 34), .inl (ca 0, 36, .inl A34)), ((b2 55), .inl (ca 0, 10240, .inl u_))] t.heap ∧ va_D (va_A [(y, .inr (11, [.int (nI ml), .int (nI mb), .int (nI mp), .int (nI mx), .int (nI mr), .int (nI mq), .ref (b2 6), .ref (b2 7), .ref (b2 8), .ref (b2 9), .ref (b2 10), .ref (b2 11), .ref (b2 12), .ref (b2 13), .ref (b2 14), .ref (b2 15), .ref (b2 16), .ref (b2 17), .ref (b2 18), .ref (b2 19), .ref (b2 20), .ref (b2 21), .ref (b2 22), .ref (b2 23), .ref (b2 24), .ref (b2 25), .ref (b2 26), .ref (b2 27), .ref (b2 28), .int gl, .int gh, .ref (b2 31), .ref (b2 32), .ref (b2 33), .ref (b2 34), .ref (b2 35), .ref (b2 36), .ref (b2 37), .ref (b2 38), .ref (b2 39), .ref (b2 40), .ref (b2 41), .ref (b2 42), .ref (b2 43), .ref (b2 44), .ref (b2 45), .ref (b2 46), .ref (b2 47), .int (nI mch), .int (nI mli), .ref (b2 50), .ref (b2 51), .int (nI mno), .ref (b2 53), .ref (b2 54), .ref (b2 55)])), ((b2 8), .inl (ca 0, 40, .inl A8)), ((b2 35), .inl (ca 0, 10, .inl A35)), ((b2 34), .inl (ca 0, 36, .inl A34)), ((b2 55), .inl (ca 0, 10240, .inl A55))] sz) [(y, .inr (11, [.int (nI ml), .int (nI mb), .int (nI mp), .int (nI mx), .int (nI mr), .int (nI mq), .ref (b2 6), .ref (b2 7), .ref (b2 8), .ref (b2 9), .ref (b2 10), .ref (b2 11), .ref (b2 12), .ref (b2 13), .ref (b2 14), .ref (b2 15), .ref (b2 16), .ref (b2 17), .ref (b2 18), .ref (b2 19), .ref (b2 20), .ref (b2 21), .ref (b2 22), .ref (b2 23), .ref (b2 24), .ref (b2 25), .ref (b2 26), .ref (b2 27), .ref (b2 28), .int gl, .int gh, .ref (b2 31), .ref (b2 32), .ref (b2 33), .ref (b2 34), .ref (b2 35), .ref (b2 36), .ref (b2 37), .ref (b2 38), .ref (b2 39), .ref (b2 40), .ref (b2 41), .ref (b2 42), .ref (b2 43), .ref (b2 44), .ref (b2 45), .ref (b2 46), .ref (b2 47), .int (nI mch), .int (nI mli), .ref (b2 50), .ref (b2 51), .int (nI mno), .ref (b2 53), .ref (b2 54), .ref (b2 55)])), ((b2 8), .inl (ca 0, 40, .inl A8)), ((b2 35), .inl (ca 0, 10, .inl A35)), ((b2 34), .inl (ca 0, 36, .inl A34)), ((b2 55), .inl (ca 0, 10240, .inl u_))]) (va_A [(y, .inr (11, [.int (nI ml), .int (nI mb), .int (nI mp), .int (nI mx), .int (nI mr), .int (nI mq), .ref (b2 6), .ref (b2 7), .ref (b2 8), .ref (b2 9), .ref (b2 10), .ref (b2 11), .ref (b2 12), .ref (b2 13), .ref (b2 14), .ref (b2 15), .ref (b2 16), .ref (b2 17), .ref (b2 18), .ref (b2 19), .ref (b2 20), .ref (b2 21), .ref (b2 22), .ref (b2 23), .ref (b2 24), .ref (b2 25), .ref (b2 26), .ref (b2 27), .ref (b2 28), .int gl, .int gh, .ref (b2 31), .ref (b2 32), .ref (b2 33), .ref (b2 34), .ref (b2 35), .ref (b2 36), .ref (b2 37), .ref (b2 38), .ref (b2 39), .ref (b2 40), .ref (b2 41), .ref (b2 42), .ref (b2 43), .ref (b2 44), .ref (b2 45), .ref (b2 46), .ref (b2 47), .int (nI mch), .int (nI mli), .ref (b2 50), .ref (b2 51), .int (nI mno), .ref (b2 53), .ref (b2 54), .ref (b2 55)])), ((b2 8), .inl (ca 0, 40, .inl A8)), ((b2 35), .inl (ca 0, 10, .inl A35)), ((b2 34), .inl (ca 0, 36, .inl A34)), ((b2 55), .inl (ca 0, 10240, .inl A55))] sz)) 0 0 (va_A [(y, .inr (11, [.int (nI ml), .int (nI mb), .int (nI mp), .int (nI mx), .int (nI mr), .int (nI mq), .ref (b2 6), .ref (b2 7), .ref (b2 8), .ref (b2 9), .ref (b2 10), .ref (b2 11), .ref (b2 12), .ref (b2 13), .ref (b2 14), .ref (b2 15), .ref (b2 16), .ref (b2 17), .ref (b2 18), .ref (b2 19), .ref (b2 20), .ref (b2 21), .ref (b2 22), .ref (b2 23), .ref (b2 24), .ref (b2 25), .ref (b2 26), .ref (b2 27), .ref (b2 28), .int gl, .int gh, .ref (b2 31), .ref (b2 32), .ref (b2 33), .ref (b2 34), .ref (b2 35), .ref (b2 36), .ref (b2 37), .ref (b2 38), .ref (b2 39), .ref (b2 40), .ref (b2 41), .ref (b2 42), .ref (b2 43), .ref (b2 44), .ref (b2 45), .ref (b2 46), .ref (b2 47), .int (nI mch), .int (nI mli), .ref (b2 50), .ref (b2 51), .int (nI mno), .ref (b2 53), .ref (b2 54), .ref (b2 55)])), ((b2 8), .inl (ca 0, 40, .inl A8)), ((b2 35), .inl (ca 0, 10, .inl A35)), ((b2 34), .inl (ca 0, 36, .inl A34)), ((b2 55), .inl (ca 0, 10240, .inl A55))] sz) := by
  refine Met.ofW (cc := cX11_reckon) (maxL := 8) (ret := none) (by decide) rfl ?_
  intro p e s m args below meth c s₁ B hml hv
  obtain ⟨rfl, hsz, hP, hK, hD0, hE⟩ := hv
  have hx := B.exec
  have hb := B.bytes
  have hr := B.returns
  have hts : ∀ w ∈ gT, w.before _ s = true := fun w h => atoms_spec (ws := Cond.code yX11_reckon cX11_reckon 8 none :: gT) B.pre w (List.mem_cons_of_mem _ h)
  have hown : s.vm.findClass RX11 = some m.cls := findClass_of_methodNamed B.named
  have hlocks := B.notSynchronized
  subst hsz
  have hD := hD0.self (sz := s.heap.size)
  generalize hAe : va_A [(y, .inr (11, [.int (nI ml), .int (nI mb), .int (nI mp), .int (nI mx), .int (nI mr), .int (nI mq), .ref (b2 6), .ref (b2 7), .ref (b2 8), .ref (b2 9), .ref (b2 10), .ref (b2 11), .ref (b2 12), .ref (b2 13), .ref (b2 14), .ref (b2 15), .ref (b2 16), .ref (b2 17), .ref (b2 18), .ref (b2 19), .ref (b2 20), .ref (b2 21), .ref (b2 22), .ref (b2 23), .ref (b2 24), .ref (b2 25), .ref (b2 26), .ref (b2 27), .ref (b2 28), .int gl, .int gh, .ref (b2 31), .ref (b2 32), .ref (b2 33), .ref (b2 34), .ref (b2 35), .ref (b2 36), .ref (b2 37), .ref (b2 38), .ref (b2 39), .ref (b2 40), .ref (b2 41), .ref (b2 42), .ref (b2 43), .ref (b2 44), .ref (b2 45), .ref (b2 46), .ref (b2 47), .int (nI mch), .int (nI mli), .ref (b2 50), .ref (b2 51), .int (nI mno), .ref (b2 53), .ref (b2 54), .ref (b2 55)])), ((b2 8), .inl (ca 0, 40, .inl A8)), ((b2 35), .inl (ca 0, 10, .inl A35)), ((b2 34), .inl (ca 0, 36, .inl A34)), ((b2 55), .inl (ca 0, 10240, .inl A55))] s.heap.size = A at hD ⊢
  have hA : ∀ q : Nat, s.heap.size ≤ q → A q := fun q h => by rw [← hAe]; exact Or.inr h
  have hS : va_S A s.heap s.heap [] := va_S.rf
  have hl := lv_entry ([.ref y, .int v1]) (n := 8) (Nat.le_of_ble_eq_true rfl)
  rw [lg_entry_eq]
  generalize (lg_sl ([.ref y, .int v1]) ++ List.replicate (8 - (lg_sl ([.ref y, .int v1])).length) Slot.unset).toArray = ls at hl ⊢
  have hl : lv_has ls 8 [(0, .ref y), (1, .int v1)] := hl
  obtain ⟨hm1, hm2, hm3, hm4, hm5, hm6, hm7, hm8, hm9⟩ := id hM
  have hp2 := p10 hm6
  have hp0 := Nat.two_pow_pos mq
  refine lv_iconst (v := 1) hx hb dX11_reckon_0 (by decide) ?_
  refine lv_aload_n hx hb dX11_reckon_1 rfl (lv_at hl 0 rfl) ?_
  refine va_get (D := (dC, dI)) (ci := 11) (v := .int (nI mq)) (C := RX11) (T := TX11) (N := 56) hx hb hts inX11 hown hK hP 0 rfl rfl 5 (by decide) (hts _ mw_885) (fun _ h9 => h9) rfl dX11_reckon_2 ?_
  refine lv_ishl hx hb dX11_reckon_5 ?_
  refine lv_topi (fun y_ e_ => ?_)
  obtain rfl : y_ = (nI (2 ^ mq)) := e_.trans (tb_sh (by omega))
  refine lv_iconst (v := 1) hx hb dX11_reckon_6 (by decide) ?_
  refine lv_isub hx hb dX11_reckon_7 ?_
  refine lv_topi (fun y_ e_ => ?_)
  obtain rfl : y_ = (nI ((2 ^ mq) - 1)) := e_.trans (pk_sub (show 1 ≤ 2 ^ mq by omega))
  refine lv_istore_n (lv' := [(2, .int (nI ((2 ^ mq) - 1))), (0, .ref y), (1, .int v1)]) hx hb dX11_reckon_8 rfl hl (by decide) rfl (fun ls hl => ?_)
  refine lv_iload_n hx hb dX11_reckon_9 rfl (lv_at hl 0 rfl) ?_
  refine lv_istore_n (lv' := [(3, .int (nI ((2 ^ mq) - 1))), (2, .int (nI ((2 ^ mq) - 1))), (0, .ref y), (1, .int v1)]) hx hb dX11_reckon_10 rfl hl (by decide) rfl (fun ls hl => ?_)
  refine wl_loop (fun (z_ : Nat × (Nat → Int32)) H locs ls => (z_.1 < 2 ^ mq ∧ oq_RT A34 kd v1 mq z_.2 z_.1) ∧ va_P (dC, dI) vwCl [(y, .inr (11, [.int (nI ml), .int (nI mb), .int (nI mp), .int (nI mx), .int (nI mr), .int (nI mq), .ref (b2 6), .ref (b2 7), .ref (b2 8), .ref (b2 9), .ref (b2 10), .ref (b2 11), .ref (b2 12), .ref (b2 13), .ref (b2 14), .ref (b2 15), .ref (b2 16), .ref (b2 17), .ref (b2 18), .ref (b2 19), .ref (b2 20), .ref (b2 21), .ref (b2 22), .ref (b2 23), .ref (b2 24), .ref (b2 25), .ref (b2 26), .ref (b2 27), .ref (b2 28), .int gl, .int gh, .ref (b2 31), .ref (b2 32), .ref (b2 33), .ref (b2 34), .ref (b2 35), .ref (b2 36), .ref (b2 37), .ref (b2 38), .ref (b2 39), .ref (b2 40), .ref (b2 41), .ref (b2 42), .ref (b2 43), .ref (b2 44), .ref (b2 45), .ref (b2 46), .ref (b2 47), .int (nI mch), .int (nI mli), .ref (b2 50), .ref (b2 51), .int (nI mno), .ref (b2 53), .ref (b2 54), .ref (b2 55)])), ((b2 8), .inl (ca 0, 40, .inl A8)), ((b2 35), .inl (ca 0, 10, .inl A35)), ((b2 34), .inl (ca 0, 36, .inl A34)), ((b2 55), .inl (ca 0, 10240, .inl z_.2))] H ∧ va_D A [(y, .inr (11, [.int (nI ml), .int (nI mb), .int (nI mp), .int (nI mx), .int (nI mr), .int (nI mq), .ref (b2 6), .ref (b2 7), .ref (b2 8), .ref (b2 9), .ref (b2 10), .ref (b2 11), .ref (b2 12), .ref (b2 13), .ref (b2 14), .ref (b2 15), .ref (b2 16), .ref (b2 17), .ref (b2 18), .ref (b2 19), .ref (b2 20), .ref (b2 21), .ref (b2 22), .ref (b2 23), .ref (b2 24), .ref (b2 25), .ref (b2 26), .ref (b2 27), .ref (b2 28), .int gl, .int gh, .ref (b2 31), .ref (b2 32), .ref (b2 33), .ref (b2 34), .ref (b2 35), .ref (b2 36), .ref (b2 37), .ref (b2 38), .ref (b2 39), .ref (b2 40), .ref (b2 41), .ref (b2 42), .ref (b2 43), .ref (b2 44), .ref (b2 45), .ref (b2 46), .ref (b2 47), .int (nI mch), .int (nI mli), .ref (b2 50), .ref (b2 51), .int (nI mno), .ref (b2 53), .ref (b2 54), .ref (b2 55)])), ((b2 8), .inl (ca 0, 40, .inl A8)), ((b2 35), .inl (ca 0, 10, .inl A35)), ((b2 34), .inl (ca 0, 36, .inl A34)), ((b2 55), .inl (ca 0, 10240, .inl z_.2))] ∧ va_S A s.heap H locs ∧ lv_has ls 8 [(3, .int (nI z_.1)), (2, .int (nI ((2 ^ mq) - 1))), (0, .ref y), (1, .int v1)]) (fun (z_ : Nat × (Nat → Int32)) => z_.1) (fun z_ H locs ls hI ih => ?_) ((2 ^ mq) - 1, A55) ⟨⟨by omega, oq_RT_0⟩, hP, hD, hS, lv_sub hl [0, 1, 2, 3] rfl⟩
  obtain ⟨sx, R1_⟩ := z_
  dsimp only at hI ih
  obtain ⟨⟨hsx, hrt⟩, hP, hD, hS, hl⟩ := hI
  refine lv_iload_n hx hb dX11_reckon_11 rfl (lv_at hl 0 rfl) ?_
  refine lv_if_le (tgt := 138) hx hb dX11_reckon_12 (by decide) (fun c_1 => ?_) (fun c_1 => ?_)
  · have nc_1 : sx ≤ 0 := (nI_leI (a := sx) (b := 0) (by omega) (by omega)).mp c_1
    refine W.widen (k := 0) (n := 0) (Nat.le_of_ble_eq_true rfl) (Nat.le_of_ble_eq_true rfl) ?_
    have hP9 : va_P (dC, dI) vwCl [(y, .inr (11, [.int (nI ml), .int (nI mb), .int (nI mp), .int (nI mx), .int (nI mr), .int (nI mq), .ref (b2 6), .ref (b2 7), .ref (b2 8), .ref (b2 9), .ref (b2 10), .ref (b2 11), .ref (b2 12), .ref (b2 13), .ref (b2 14), .ref (b2 15), .ref (b2 16), .ref (b2 17), .ref (b2 18), .ref (b2 19), .ref (b2 20), .ref (b2 21), .ref (b2 22), .ref (b2 23), .ref (b2 24), .ref (b2 25), .ref (b2 26), .ref (b2 27), .ref (b2 28), .int gl, .int gh, .ref (b2 31), .ref (b2 32), .ref (b2 33), .ref (b2 34), .ref (b2 35), .ref (b2 36), .ref (b2 37), .ref (b2 38), .ref (b2 39), .ref (b2 40), .ref (b2 41), .ref (b2 42), .ref (b2 43), .ref (b2 44), .ref (b2 45), .ref (b2 46), .ref (b2 47), .int (nI mch), .int (nI mli), .ref (b2 50), .ref (b2 51), .int (nI mno), .ref (b2 53), .ref (b2 54), .ref (b2 55)])), ((b2 8), .inl (ca 0, 40, .inl A8)), ((b2 35), .inl (ca 0, 10, .inl A35)), ((b2 34), .inl (ca 0, 36, .inl A34)), ((b2 55), .inl (ca 0, 10240, .inl R1_))] H := va_P.sub hP [0, 1, 2, 3, 4] rfl
    have hD9 : va_D A [(y, .inr (11, [.int (nI ml), .int (nI mb), .int (nI mp), .int (nI mx), .int (nI mr), .int (nI mq), .ref (b2 6), .ref (b2 7), .ref (b2 8), .ref (b2 9), .ref (b2 10), .ref (b2 11), .ref (b2 12), .ref (b2 13), .ref (b2 14), .ref (b2 15), .ref (b2 16), .ref (b2 17), .ref (b2 18), .ref (b2 19), .ref (b2 20), .ref (b2 21), .ref (b2 22), .ref (b2 23), .ref (b2 24), .ref (b2 25), .ref (b2 26), .ref (b2 27), .ref (b2 28), .int gl, .int gh, .ref (b2 31), .ref (b2 32), .ref (b2 33), .ref (b2 34), .ref (b2 35), .ref (b2 36), .ref (b2 37), .ref (b2 38), .ref (b2 39), .ref (b2 40), .ref (b2 41), .ref (b2 42), .ref (b2 43), .ref (b2 44), .ref (b2 45), .ref (b2 46), .ref (b2 47), .int (nI mch), .int (nI mli), .ref (b2 50), .ref (b2 51), .int (nI mno), .ref (b2 53), .ref (b2 54), .ref (b2 55)])), ((b2 8), .inl (ca 0, 40, .inl A8)), ((b2 35), .inl (ca 0, 10, .inl A35)), ((b2 34), .inl (ca 0, 36, .inl A34)), ((b2 55), .inl (ca 0, 10240, .inl R1_))] := va_D.sub hD [0, 1, 2, 3, 4] (by decide) rfl
    exact W.vret hx hb hr (fun t ht hW => ⟨⟨R1_, rfl, (show sx = 0 by omega) ▸ hrt, by rw [ht]; exact hP9, hD9⟩, hS.F ht⟩) hS.2.2 dX11_reckon_138
  · have nc_1 : ¬ (sx ≤ 0) := fun h9 => c_1 ((nI_leI (a := sx) (b := 0) (by omega) (by omega)).mpr h9)
    refine lv_iconst (v := 0) hx hb dX11_reckon_15 (by decide) ?_
    refine lv_istore (lv' := [(4, .int 0), (3, .int (nI sx)), (2, .int (nI ((2 ^ mq) - 1))), (0, .ref y), (1, .int v1)]) hx hb dX11_reckon_16 hl (by decide) rfl (fun ls hl => ?_)
    refine wl_loop (fun (z_ : Nat × (Nat → Int32)) H locs ls => (z_.1 ≤ mq ∧ oq_RL A34 kd v1 mq z_.2 sx z_.1) ∧ va_P (dC, dI) vwCl [(y, .inr (11, [.int (nI ml), .int (nI mb), .int (nI mp), .int (nI mx), .int (nI mr), .int (nI mq), .ref (b2 6), .ref (b2 7), .ref (b2 8), .ref (b2 9), .ref (b2 10), .ref (b2 11), .ref (b2 12), .ref (b2 13), .ref (b2 14), .ref (b2 15), .ref (b2 16), .ref (b2 17), .ref (b2 18), .ref (b2 19), .ref (b2 20), .ref (b2 21), .ref (b2 22), .ref (b2 23), .ref (b2 24), .ref (b2 25), .ref (b2 26), .ref (b2 27), .ref (b2 28), .int gl, .int gh, .ref (b2 31), .ref (b2 32), .ref (b2 33), .ref (b2 34), .ref (b2 35), .ref (b2 36), .ref (b2 37), .ref (b2 38), .ref (b2 39), .ref (b2 40), .ref (b2 41), .ref (b2 42), .ref (b2 43), .ref (b2 44), .ref (b2 45), .ref (b2 46), .ref (b2 47), .int (nI mch), .int (nI mli), .ref (b2 50), .ref (b2 51), .int (nI mno), .ref (b2 53), .ref (b2 54), .ref (b2 55)])), ((b2 8), .inl (ca 0, 40, .inl A8)), ((b2 35), .inl (ca 0, 10, .inl A35)), ((b2 34), .inl (ca 0, 36, .inl A34)), ((b2 55), .inl (ca 0, 10240, .inl z_.2))] H ∧ va_D A [(y, .inr (11, [.int (nI ml), .int (nI mb), .int (nI mp), .int (nI mx), .int (nI mr), .int (nI mq), .ref (b2 6), .ref (b2 7), .ref (b2 8), .ref (b2 9), .ref (b2 10), .ref (b2 11), .ref (b2 12), .ref (b2 13), .ref (b2 14), .ref (b2 15), .ref (b2 16), .ref (b2 17), .ref (b2 18), .ref (b2 19), .ref (b2 20), .ref (b2 21), .ref (b2 22), .ref (b2 23), .ref (b2 24), .ref (b2 25), .ref (b2 26), .ref (b2 27), .ref (b2 28), .int gl, .int gh, .ref (b2 31), .ref (b2 32), .ref (b2 33), .ref (b2 34), .ref (b2 35), .ref (b2 36), .ref (b2 37), .ref (b2 38), .ref (b2 39), .ref (b2 40), .ref (b2 41), .ref (b2 42), .ref (b2 43), .ref (b2 44), .ref (b2 45), .ref (b2 46), .ref (b2 47), .int (nI mch), .int (nI mli), .ref (b2 50), .ref (b2 51), .int (nI mno), .ref (b2 53), .ref (b2 54), .ref (b2 55)])), ((b2 8), .inl (ca 0, 40, .inl A8)), ((b2 35), .inl (ca 0, 10, .inl A35)), ((b2 34), .inl (ca 0, 36, .inl A34)), ((b2 55), .inl (ca 0, 10240, .inl z_.2))] ∧ va_S A s.heap H locs ∧ lv_has ls 8 [(4, .int (nI z_.1)), (3, .int (nI sx)), (2, .int (nI ((2 ^ mq) - 1))), (0, .ref y), (1, .int v1)]) (fun (z_ : Nat × (Nat → Int32)) => mq - z_.1) (fun z_ H locs ls hI ih18 => ?_) (0, R1_) ⟨⟨Nat.zero_le _, oq_RL_0 hrt⟩, hP, hD, hS, lv_sub hl [0, 1, 2, 3, 4] rfl⟩
    obtain ⟨la, R2_⟩ := z_
    dsimp only at hI ih18
    obtain ⟨⟨hla, hrl⟩, hP, hD, hS, hl⟩ := hI
    refine lv_iload hx hb dX11_reckon_18 (lv_at hl 0 rfl) ?_
    refine lv_aload_n hx hb dX11_reckon_20 rfl (lv_at hl 3 rfl) ?_
    refine va_get (D := (dC, dI)) (ci := 11) (v := .int (nI mq)) (C := RX11) (T := TX11) (N := 56) hx hb hts inX11 hown hK hP 0 rfl rfl 5 (by decide) (hts _ mw_885) (fun _ h9 => h9) rfl dX11_reckon_21 ?_
    refine lv_icmp_ge (tgt := 132) hx hb dX11_reckon_24 (by decide) (fun c_2 => ?_) (fun c_2 => ?_)
    · have nc_2 : mq ≤ la := (nI_leI (a := mq) (b := la) (by omega) (by omega)).mp c_2
      refine lv_iinc (v := (nI (sx - 1))) (lv' := [(3, .int (nI (sx - 1))), (4, .int (nI la)), (2, .int (nI ((2 ^ mq) - 1))), (0, .ref y), (1, .int v1)]) hx hb dX11_reckon_132 hl (k := 1) rfl (nI_dec (by omega)) (by decide) rfl (fun ls hl => ?_)
      refine lv_goto (tgt := 11) hx hb dX11_reckon_135 (by decide) ?_
      exact ih (sx - 1, R2_) _ _ _ (by omega) ⟨⟨by omega, oq_RL_e hrl (by omega) (by omega)⟩, hP, hD, hS, lv_sub hl [0, 2, 3, 4] rfl⟩
    · have nc_2 : ¬ (mq ≤ la) := fun h9 => c_2 ((nI_leI (a := mq) (b := la) (by omega) (by omega)).mpr h9)
      refine lv_iload_n hx hb dX11_reckon_27 rfl (lv_at hl 1 rfl) ?_
      refine lv_iload_n hx hb dX11_reckon_28 rfl (lv_at hl 2 rfl) ?_
      refine lv_icmp_ne (tgt := 36) hx hb dX11_reckon_29 (by decide) (fun c_3 => ?_) (fun c_3 => ?_)
      · have nc_3 : ¬ (sx = (2 ^ mq) - 1) := fun h9 => c_3 ((nI_eq (a := sx) (b := (2 ^ mq) - 1) (by omega) (by omega)).mpr h9)
        refine lv_ldcw (v := 100000000) hx hb hown (hts _ mw_1268) dX11_reckon_36 ?_
        refine lv_istore (lv' := [(5, .int 100000000), (4, .int (nI la)), (3, .int (nI sx)), (2, .int (nI ((2 ^ mq) - 1))), (0, .ref y), (1, .int v1)]) hx hb dX11_reckon_39 hl (by decide) rfl (fun ls hl => ?_)
        refine lv_iconst (v := 0) hx hb dX11_reckon_41 (by decide) ?_
        refine lv_istore (lv' := [(6, .int 0), (5, .int 100000000), (4, .int (nI la)), (3, .int (nI sx)), (2, .int (nI ((2 ^ mq) - 1))), (0, .ref y), (1, .int v1)]) hx hb dX11_reckon_42 hl (by decide) rfl (fun ls hl => ?_)
        refine wl_loop (fun (z_ : Nat × Int32) H locs ls => (z_.1 ≤ mq ∧ oq_be A34 kd v1 mq sx la z_.1 z_.2) ∧ va_P (dC, dI) vwCl [(y, .inr (11, [.int (nI ml), .int (nI mb), .int (nI mp), .int (nI mx), .int (nI mr), .int (nI mq), .ref (b2 6), .ref (b2 7), .ref (b2 8), .ref (b2 9), .ref (b2 10), .ref (b2 11), .ref (b2 12), .ref (b2 13), .ref (b2 14), .ref (b2 15), .ref (b2 16), .ref (b2 17), .ref (b2 18), .ref (b2 19), .ref (b2 20), .ref (b2 21), .ref (b2 22), .ref (b2 23), .ref (b2 24), .ref (b2 25), .ref (b2 26), .ref (b2 27), .ref (b2 28), .int gl, .int gh, .ref (b2 31), .ref (b2 32), .ref (b2 33), .ref (b2 34), .ref (b2 35), .ref (b2 36), .ref (b2 37), .ref (b2 38), .ref (b2 39), .ref (b2 40), .ref (b2 41), .ref (b2 42), .ref (b2 43), .ref (b2 44), .ref (b2 45), .ref (b2 46), .ref (b2 47), .int (nI mch), .int (nI mli), .ref (b2 50), .ref (b2 51), .int (nI mno), .ref (b2 53), .ref (b2 54), .ref (b2 55)])), ((b2 8), .inl (ca 0, 40, .inl A8)), ((b2 35), .inl (ca 0, 10, .inl A35)), ((b2 34), .inl (ca 0, 36, .inl A34)), ((b2 55), .inl (ca 0, 10240, .inl R2_))] H ∧ va_D A [(y, .inr (11, [.int (nI ml), .int (nI mb), .int (nI mp), .int (nI mx), .int (nI mr), .int (nI mq), .ref (b2 6), .ref (b2 7), .ref (b2 8), .ref (b2 9), .ref (b2 10), .ref (b2 11), .ref (b2 12), .ref (b2 13), .ref (b2 14), .ref (b2 15), .ref (b2 16), .ref (b2 17), .ref (b2 18), .ref (b2 19), .ref (b2 20), .ref (b2 21), .ref (b2 22), .ref (b2 23), .ref (b2 24), .ref (b2 25), .ref (b2 26), .ref (b2 27), .ref (b2 28), .int gl, .int gh, .ref (b2 31), .ref (b2 32), .ref (b2 33), .ref (b2 34), .ref (b2 35), .ref (b2 36), .ref (b2 37), .ref (b2 38), .ref (b2 39), .ref (b2 40), .ref (b2 41), .ref (b2 42), .ref (b2 43), .ref (b2 44), .ref (b2 45), .ref (b2 46), .ref (b2 47), .int (nI mch), .int (nI mli), .ref (b2 50), .ref (b2 51), .int (nI mno), .ref (b2 53), .ref (b2 54), .ref (b2 55)])), ((b2 8), .inl (ca 0, 40, .inl A8)), ((b2 35), .inl (ca 0, 10, .inl A35)), ((b2 34), .inl (ca 0, 36, .inl A34)), ((b2 55), .inl (ca 0, 10240, .inl R2_))] ∧ va_S A s.heap H locs ∧ lv_has ls 8 [(6, .int (nI z_.1)), (5, .int z_.2), (4, .int (nI la)), (3, .int (nI sx)), (2, .int (nI ((2 ^ mq) - 1))), (0, .ref y), (1, .int v1)]) (fun (z_ : Nat × Int32) => mq - z_.1) (fun z_ H locs ls hI ih44 => ?_) (0, 100000000) ⟨⟨Nat.zero_le _, oq_be_b nc_3⟩, hP, hD, hS, lv_sub hl [0, 1, 2, 3, 4, 5, 6] rfl⟩
        obtain ⟨kx, be⟩ := z_
        dsimp only at hI ih44
        obtain ⟨⟨hkx, hbe⟩, hP, hD, hS, hl⟩ := hI
        refine lv_iload hx hb dX11_reckon_44 (lv_at hl 0 rfl) ?_
        refine lv_aload_n hx hb dX11_reckon_46 rfl (lv_at hl 5 rfl) ?_
        refine va_get (D := (dC, dI)) (ci := 11) (v := .int (nI mq)) (C := RX11) (T := TX11) (N := 56) hx hb hts inX11 hown hK hP 0 rfl rfl 5 (by decide) (hts _ mw_885) (fun _ h9 => h9) rfl dX11_reckon_47 ?_
        refine lv_icmp_ge (tgt := 112) hx hb dX11_reckon_50 (by decide) (fun c_4 => ?_) (fun c_4 => ?_)
        · have nc_4 : mq ≤ kx := (nI_leI (a := mq) (b := kx) (by omega) (by omega)).mp c_4
          refine lv_aload_n hx hb dX11_reckon_112 rfl (lv_at hl 5 rfl) ?_
          refine va_get (D := (dC, dI)) (ci := 11) (v := .ref (b2 55)) (C := RX11) (T := TX11) (N := 56) hx hb hts inX11 hown hK hP 0 rfl rfl 55 (by decide) (hts _ mw_935) (fun _ h9 => h9) rfl dX11_reckon_113 ?_
          refine lv_bipush (v := 10) hx hb dX11_reckon_116 (by decide) ?_
          refine lv_iload_n hx hb dX11_reckon_118 rfl (lv_at hl 3 rfl) ?_
          refine lv_imul hx hb dX11_reckon_119 ?_
          refine lv_topi (fun y_ e_ => ?_)
          obtain rfl : y_ = (nI (10 * sx)) := e_.trans (pk_mul (10) (sx))
          refine lv_iload hx hb dX11_reckon_120 (lv_at hl 2 rfl) ?_
          refine lv_iadd hx hb dX11_reckon_122 ?_
          refine lv_topi (fun y_ e_ => ?_)
          obtain rfl : y_ = (nI (10 * sx + la)) := e_.trans (nI_add (10 * sx) (la))
          refine lv_iload hx hb dX11_reckon_123 (lv_at hl 1 rfl) ?_
          refine va_iast hx hb hK hP hD hS 4 0 rfl rfl (vp_in_nI (show 10 * sx + la < 10240 by omega) (by first | decide | omega)) dX11_reckon_125 (fun H locs hP hD hS => ?_)
          rw [(show ((nI (10 * sx + la)) : Int32).toNatClampNeg = 10 * sx + la from nI_clamp (by omega))] at hP hD
          obtain ⟨hP, hD⟩ := va_bo [(y, .inr (11, [.int (nI ml), .int (nI mb), .int (nI mp), .int (nI mx), .int (nI mr), .int (nI mq), .ref (b2 6), .ref (b2 7), .ref (b2 8), .ref (b2 9), .ref (b2 10), .ref (b2 11), .ref (b2 12), .ref (b2 13), .ref (b2 14), .ref (b2 15), .ref (b2 16), .ref (b2 17), .ref (b2 18), .ref (b2 19), .ref (b2 20), .ref (b2 21), .ref (b2 22), .ref (b2 23), .ref (b2 24), .ref (b2 25), .ref (b2 26), .ref (b2 27), .ref (b2 28), .int gl, .int gh, .ref (b2 31), .ref (b2 32), .ref (b2 33), .ref (b2 34), .ref (b2 35), .ref (b2 36), .ref (b2 37), .ref (b2 38), .ref (b2 39), .ref (b2 40), .ref (b2 41), .ref (b2 42), .ref (b2 43), .ref (b2 44), .ref (b2 45), .ref (b2 46), .ref (b2 47), .int (nI mch), .int (nI mli), .ref (b2 50), .ref (b2 51), .int (nI mno), .ref (b2 53), .ref (b2 54), .ref (b2 55)])), ((b2 8), .inl (ca 0, 40, .inl A8)), ((b2 35), .inl (ca 0, 10, .inl A35)), ((b2 34), .inl (ca 0, 36, .inl A34)), ((b2 55), .inl (ca 0, 10240, .inl (upd R2_ (10 * sx + la) be)))] hP hD
          refine lv_iinc (v := (nI (la + 1))) (lv' := [(4, .int (nI (la + 1))), (6, .int (nI kx)), (5, .int be), (3, .int (nI sx)), (2, .int (nI ((2 ^ mq) - 1))), (0, .ref y), (1, .int v1)]) hx hb dX11_reckon_126 hl (k := 2) rfl (nI_add (la) 1) (by decide) rfl (fun ls hl => ?_)
          refine lv_goto (tgt := 18) hx hb dX11_reckon_129 (by decide) ?_
          exact ih18 (la + 1, (upd R2_ (10 * sx + la) be)) _ _ _ (by omega) ⟨⟨by omega, oq_RL_s hrl hm6 (by omega) (oq_be_e hbe hws hqk hsx (Or.inr (by omega)) hkx)⟩, hP, hD, hS, lv_sub hl [0, 3, 4, 5, 6] rfl⟩
        · have nc_4 : ¬ (mq ≤ kx) := fun h9 => c_4 ((nI_leI (a := mq) (b := kx) (by omega) (by omega)).mpr h9)
          refine lv_iload_n hx hb dX11_reckon_53 rfl (lv_at hl 3 rfl) ?_
          refine lv_iload_n hx hb dX11_reckon_54 rfl (lv_at hl 4 rfl) ?_
          refine lv_icmp_eq (tgt := 112) hx hb dX11_reckon_55 (by decide) (fun c_5 => ?_) (fun c_5 => ?_)
          · have nc_5 : sx = 2 ^ mq - 1 := (nI_eq (a := sx) (b := 2 ^ mq - 1) (by omega) (by omega)).mp c_5
            refine lv_aload_n hx hb dX11_reckon_112 rfl (lv_at hl 5 rfl) ?_
            refine va_get (D := (dC, dI)) (ci := 11) (v := .ref (b2 55)) (C := RX11) (T := TX11) (N := 56) hx hb hts inX11 hown hK hP 0 rfl rfl 55 (by decide) (hts _ mw_935) (fun _ h9 => h9) rfl dX11_reckon_113 ?_
            refine lv_bipush (v := 10) hx hb dX11_reckon_116 (by decide) ?_
            refine lv_iload_n hx hb dX11_reckon_118 rfl (lv_at hl 3 rfl) ?_
            refine lv_imul hx hb dX11_reckon_119 ?_
            refine lv_topi (fun y_ e_ => ?_)
            obtain rfl : y_ = (nI (10 * sx)) := e_.trans (pk_mul (10) (sx))
            refine lv_iload hx hb dX11_reckon_120 (lv_at hl 2 rfl) ?_
            refine lv_iadd hx hb dX11_reckon_122 ?_
            refine lv_topi (fun y_ e_ => ?_)
            obtain rfl : y_ = (nI (10 * sx + la)) := e_.trans (nI_add (10 * sx) (la))
            refine lv_iload hx hb dX11_reckon_123 (lv_at hl 1 rfl) ?_
            refine va_iast hx hb hK hP hD hS 4 0 rfl rfl (vp_in_nI (show 10 * sx + la < 10240 by omega) (by first | decide | omega)) dX11_reckon_125 (fun H locs hP hD hS => ?_)
            rw [(show ((nI (10 * sx + la)) : Int32).toNatClampNeg = 10 * sx + la from nI_clamp (by omega))] at hP hD
            obtain ⟨hP, hD⟩ := va_bo [(y, .inr (11, [.int (nI ml), .int (nI mb), .int (nI mp), .int (nI mx), .int (nI mr), .int (nI mq), .ref (b2 6), .ref (b2 7), .ref (b2 8), .ref (b2 9), .ref (b2 10), .ref (b2 11), .ref (b2 12), .ref (b2 13), .ref (b2 14), .ref (b2 15), .ref (b2 16), .ref (b2 17), .ref (b2 18), .ref (b2 19), .ref (b2 20), .ref (b2 21), .ref (b2 22), .ref (b2 23), .ref (b2 24), .ref (b2 25), .ref (b2 26), .ref (b2 27), .ref (b2 28), .int gl, .int gh, .ref (b2 31), .ref (b2 32), .ref (b2 33), .ref (b2 34), .ref (b2 35), .ref (b2 36), .ref (b2 37), .ref (b2 38), .ref (b2 39), .ref (b2 40), .ref (b2 41), .ref (b2 42), .ref (b2 43), .ref (b2 44), .ref (b2 45), .ref (b2 46), .ref (b2 47), .int (nI mch), .int (nI mli), .ref (b2 50), .ref (b2 51), .int (nI mno), .ref (b2 53), .ref (b2 54), .ref (b2 55)])), ((b2 8), .inl (ca 0, 40, .inl A8)), ((b2 35), .inl (ca 0, 10, .inl A35)), ((b2 34), .inl (ca 0, 36, .inl A34)), ((b2 55), .inl (ca 0, 10240, .inl (upd R2_ (10 * sx + la) be)))] hP hD
            refine lv_iinc (v := (nI (la + 1))) (lv' := [(4, .int (nI (la + 1))), (6, .int (nI kx)), (5, .int be), (3, .int (nI sx)), (2, .int (nI ((2 ^ mq) - 1))), (0, .ref y), (1, .int v1)]) hx hb dX11_reckon_126 hl (k := 2) rfl (nI_add (la) 1) (by decide) rfl (fun ls hl => ?_)
            refine lv_goto (tgt := 18) hx hb dX11_reckon_129 (by decide) ?_
            exact ih18 (la + 1, (upd R2_ (10 * sx + la) be)) _ _ _ (by omega) ⟨⟨by omega, oq_RL_s hrl hm6 (by omega) (oq_be_e hbe hws hqk hsx (Or.inl nc_5) hkx)⟩, hP, hD, hS, lv_sub hl [0, 3, 4, 5, 6] rfl⟩
          · have nc_5 : ¬ (sx = 2 ^ mq - 1) := fun h9 => c_5 ((nI_eq (a := sx) (b := 2 ^ mq - 1) (by omega) (by omega)).mpr h9)
            refine lv_aload_n hx hb dX11_reckon_58 rfl (lv_at hl 5 rfl) ?_
            refine lv_iload_n hx hb dX11_reckon_59 rfl (lv_at hl 3 rfl) ?_
            refine lv_iload hx hb dX11_reckon_60 (lv_at hl 0 rfl) ?_
            refine lv_iload_n hx hb dX11_reckon_62 rfl (lv_at hl 6 rfl) ?_
            have hPc := hP.sub (ws' := [(y, .inr (11, [.int (nI ml), .int (nI mb), .int (nI mp), .int (nI mx), .int (nI mr), .int (nI mq), .ref (b2 6), .ref (b2 7), .ref (b2 8), .ref (b2 9), .ref (b2 10), .ref (b2 11), .ref (b2 12), .ref (b2 13), .ref (b2 14), .ref (b2 15), .ref (b2 16), .ref (b2 17), .ref (b2 18), .ref (b2 19), .ref (b2 20), .ref (b2 21), .ref (b2 22), .ref (b2 23), .ref (b2 24), .ref (b2 25), .ref (b2 26), .ref (b2 27), .ref (b2 28), .int gl, .int gh, .ref (b2 31), .ref (b2 32), .ref (b2 33), .ref (b2 34), .ref (b2 35), .ref (b2 36), .ref (b2 37), .ref (b2 38), .ref (b2 39), .ref (b2 40), .ref (b2 41), .ref (b2 42), .ref (b2 43), .ref (b2 44), .ref (b2 45), .ref (b2 46), .ref (b2 47), .int (nI mch), .int (nI mli), .ref (b2 50), .ref (b2 51), .int (nI mno), .ref (b2 53), .ref (b2 54), .ref (b2 55)])), ((b2 8), .inl (ca 0, 40, .inl A8)), ((b2 35), .inl (ca 0, 10, .inl A35))]) [0, 1, 2] rfl
            refine pc_i (va_runV (As := [.int (nI sx), .int (nI kx), .int v1]) (rest := []) ⟨hx, hb, hml, hown, hts⟩ (m_mayCome l dC dI ca y b2 ml mb mp mx mr mq gl gh mch mli mno A8 A35 sx kx v1 kd (by first | assumption | omega | exact ⟨_, by omega, rfl⟩) (by first | assumption | omega | exact ⟨_, by omega, rfl⟩) (by first | assumption | omega | exact ⟨_, by omega, rfl⟩) (by omega) (by first | assumption | omega | exact ⟨_, by omega, rfl⟩) hkq hqk) (⟨callB_of 3 hts (gd mw_1272) rfl rfl rfl (hts _ mw_8) (hts _ mw_1269) ds_X11_mayCome ⟨Nat.le_of_ble_eq_true rfl, Nat.le_of_ble_eq_true rfl⟩, (hts _ mw_1271), (hts _ mp_62)⟩) (pu_V hPc hK hE (va_recv hK hPc (ci := 11) (q0 := 0) rfl rfl)) rfl rfl hl.1 rfl (lv_room (Nat.le_of_ble_eq_true rfl)) dX11_reckon_63 ⟨Nat.le_of_ble_eq_true rfl, Nat.le_of_ble_eq_true rfl⟩) (fun rv_6 hw_ => ?_)
            have hw_6 := hw_
            refine lv_if_ne (tgt := 72) hx hb dX11_reckon_66 (by decide) (fun c_7 => ?_) (fun c_7 => ?_)
            · have hpk := oq_pt hw_6 c_7
              refine lv_aload_n hx hb dX11_reckon_72 rfl (lv_at hl 5 rfl) ?_
              refine lv_iload hx hb dX11_reckon_73 (lv_at hl 2 rfl) ?_
              refine lv_iload hx hb dX11_reckon_75 (lv_at hl 0 rfl) ?_
              have hPc := hP.sub (ws' := [(y, .inr (11, [.int (nI ml), .int (nI mb), .int (nI mp), .int (nI mx), .int (nI mr), .int (nI mq), .ref (b2 6), .ref (b2 7), .ref (b2 8), .ref (b2 9), .ref (b2 10), .ref (b2 11), .ref (b2 12), .ref (b2 13), .ref (b2 14), .ref (b2 15), .ref (b2 16), .ref (b2 17), .ref (b2 18), .ref (b2 19), .ref (b2 20), .ref (b2 21), .ref (b2 22), .ref (b2 23), .ref (b2 24), .ref (b2 25), .ref (b2 26), .ref (b2 27), .ref (b2 28), .int gl, .int gh, .ref (b2 31), .ref (b2 32), .ref (b2 33), .ref (b2 34), .ref (b2 35), .ref (b2 36), .ref (b2 37), .ref (b2 38), .ref (b2 39), .ref (b2 40), .ref (b2 41), .ref (b2 42), .ref (b2 43), .ref (b2 44), .ref (b2 45), .ref (b2 46), .ref (b2 47), .int (nI mch), .int (nI mli), .ref (b2 50), .ref (b2 51), .int (nI mno), .ref (b2 53), .ref (b2 54), .ref (b2 55)])), ((b2 8), .inl (ca 0, 40, .inl A8)), ((b2 35), .inl (ca 0, 10, .inl A35)), ((b2 34), .inl (ca 0, 36, .inl A34))]) [0, 1, 2, 3] rfl
              refine pc_i (va_runV (As := [.int (nI la), .int (nI kx)]) (rest := []) ⟨hx, hb, hml, hown, hts⟩ (m_minutes l dC dI ca y b2 ml mb mp mx mr mq gl gh mch mli mno A8 A35 A34 (nI la) kx kd (by first | assumption | omega | exact ⟨_, by omega, rfl⟩) (Or.inr ⟨la, by omega, rfl⟩) (by first | assumption | omega | exact ⟨_, by omega, rfl⟩) (by omega) (by first | assumption | omega | exact ⟨_, by omega, rfl⟩) (by first | assumption | omega | exact ⟨_, by omega, rfl⟩) hkq hqk hws) (⟨callB_of 2 hts (gd mw_1280) rfl rfl rfl (hts _ mw_8) (hts _ mw_1277) ds_X11_minutes ⟨Nat.le_of_ble_eq_true rfl, Nat.le_of_ble_eq_true rfl⟩, (hts _ mw_1279), (hts _ mp_64)⟩) (pu_V hPc hK hE (va_recv hK hPc (ci := 11) (q0 := 0) rfl rfl)) rfl rfl hl.1 rfl (lv_room (Nat.le_of_ble_eq_true rfl)) dX11_reckon_77 ⟨Nat.le_of_ble_eq_true rfl, Nat.le_of_ble_eq_true rfl⟩) (fun rv_8 hw_ => ?_)
              have hw_8 := hw_
              refine lv_aload_n hx hb dX11_reckon_80 rfl (lv_at hl 5 rfl) ?_
              refine lv_iload_n hx hb dX11_reckon_81 rfl (lv_at hl 3 rfl) ?_
              refine lv_iconst (v := 1) hx hb dX11_reckon_82 (by decide) ?_
              refine lv_iload hx hb dX11_reckon_83 (lv_at hl 0 rfl) ?_
              refine lv_ishl hx hb dX11_reckon_85 ?_
              refine lv_topi (fun y_ e_ => ?_)
              obtain rfl : y_ = (nI (2 ^ kx)) := e_.trans (tb_sh (by omega))
              refine lv_ior hx hb dX11_reckon_86 ?_
              refine lv_topi (fun y_ e_ => ?_)
              obtain rfl : y_ = (nI (sx ||| (2 ^ kx))) := e_.trans (tb_or _ _)
              refine lv_iload hx hb dX11_reckon_87 (lv_at hl 0 rfl) ?_
              have hPc := hP.sub (ws' := [(y, .inr (11, [.int (nI ml), .int (nI mb), .int (nI mp), .int (nI mx), .int (nI mr), .int (nI mq), .ref (b2 6), .ref (b2 7), .ref (b2 8), .ref (b2 9), .ref (b2 10), .ref (b2 11), .ref (b2 12), .ref (b2 13), .ref (b2 14), .ref (b2 15), .ref (b2 16), .ref (b2 17), .ref (b2 18), .ref (b2 19), .ref (b2 20), .ref (b2 21), .ref (b2 22), .ref (b2 23), .ref (b2 24), .ref (b2 25), .ref (b2 26), .ref (b2 27), .ref (b2 28), .int gl, .int gh, .ref (b2 31), .ref (b2 32), .ref (b2 33), .ref (b2 34), .ref (b2 35), .ref (b2 36), .ref (b2 37), .ref (b2 38), .ref (b2 39), .ref (b2 40), .ref (b2 41), .ref (b2 42), .ref (b2 43), .ref (b2 44), .ref (b2 45), .ref (b2 46), .ref (b2 47), .int (nI mch), .int (nI mli), .ref (b2 50), .ref (b2 51), .int (nI mno), .ref (b2 53), .ref (b2 54), .ref (b2 55)])), ((b2 55), .inl (ca 0, 10240, .inl R2_))]) [0, 4] rfl
              refine pc_i (va_runV (As := [.int (nI (sx ||| (2 ^ kx))), .int (nI kx)]) (rest := [.int rv_8]) ⟨hx, hb, hml, hown, hts⟩ (m_restOf l dC dI ca y b2 ml mb mp mx mr mq gl gh mch mli mno R2_ (sx ||| (2 ^ kx)) kx (by first | assumption | omega | exact ⟨_, by omega, rfl⟩) (or_10 (by omega) (by omega)) (by first | assumption | omega | exact ⟨_, by omega, rfl⟩)) (⟨callB_of 2 hts (gd mw_1284) rfl rfl rfl (hts _ mw_8) (hts _ mw_1281) ds_X11_restOf ⟨Nat.le_of_ble_eq_true rfl, Nat.le_of_ble_eq_true rfl⟩, (hts _ mw_1283), (hts _ mp_65)⟩) (pu_V hPc hK hE (va_recv hK hPc (ci := 11) (q0 := 0) rfl rfl)) rfl rfl hl.1 rfl (lv_room (Nat.le_of_ble_eq_true rfl)) dX11_reckon_89 ⟨Nat.le_of_ble_eq_true rfl, Nat.le_of_ble_eq_true rfl⟩) (fun rv_9 hw_ => ?_)
              have hw_9 := hw_
              refine lv_iadd hx hb dX11_reckon_92 ?_
              refine lv_istore (lv' := [(7, .int (rv_8 + rv_9)), (6, .int (nI kx)), (5, .int be), (4, .int (nI la)), (3, .int (nI sx)), (2, .int (nI ((2 ^ mq) - 1))), (0, .ref y), (1, .int v1)]) hx hb dX11_reckon_93 hl (by decide) rfl (fun ls hl => ?_)
              refine lv_iload hx hb dX11_reckon_95 (lv_at hl 0 rfl) ?_
              refine lv_iload hx hb dX11_reckon_97 (lv_at hl 2 rfl) ?_
              refine lv_icmp_ge (tgt := 106) hx hb dX11_reckon_99 (by decide) (fun c_10 => ?_) (fun c_10 => ?_)
              · refine lv_iinc (v := (nI (kx + 1))) (lv' := [(6, .int (nI (kx + 1))), (7, .int (rv_8 + rv_9)), (5, .int be), (4, .int (nI la)), (3, .int (nI sx)), (2, .int (nI ((2 ^ mq) - 1))), (0, .ref y), (1, .int v1)]) hx hb dX11_reckon_106 hl (k := 1) rfl (nI_add (kx) 1) (by decide) rfl (fun ls hl => ?_)
                refine lv_goto (tgt := 44) hx hb dX11_reckon_109 (by decide) ?_
                exact ih44 (kx + 1, be) _ _ _ (by omega) ⟨⟨by omega, oq_be_g hbe hws hqk (by omega) hpk (oq_me hqk hrl.1 hsx (by omega) (by omega) hpk hw_8 hw_9) (Int32.not_lt.mpr c_10)⟩, hP, hD, hS, lv_sub hl [0, 2, 3, 4, 5, 6, 7] rfl⟩
              · refine lv_iload hx hb dX11_reckon_102 (lv_at hl 0 rfl) ?_
                refine lv_istore (lv' := [(5, .int (rv_8 + rv_9)), (7, .int (rv_8 + rv_9)), (6, .int (nI kx)), (4, .int (nI la)), (3, .int (nI sx)), (2, .int (nI ((2 ^ mq) - 1))), (0, .ref y), (1, .int v1)]) hx hb dX11_reckon_104 hl (by decide) rfl (fun ls hl => ?_)
                refine lv_iinc (v := (nI (kx + 1))) (lv' := [(6, .int (nI (kx + 1))), (5, .int (rv_8 + rv_9)), (7, .int (rv_8 + rv_9)), (4, .int (nI la)), (3, .int (nI sx)), (2, .int (nI ((2 ^ mq) - 1))), (0, .ref y), (1, .int v1)]) hx hb dX11_reckon_106 hl (k := 2) rfl (nI_add (kx) 1) (by decide) rfl (fun ls hl => ?_)
                refine lv_goto (tgt := 44) hx hb dX11_reckon_109 (by decide) ?_
                exact ih44 (kx + 1, (rv_8 + rv_9)) _ _ _ (by omega) ⟨⟨by omega, oq_be_y hbe nc_5 hws hqk (by omega) hpk (oq_me hqk hrl.1 hsx (by omega) (by omega) hpk hw_8 hw_9) (Int32.not_le.mp c_10)⟩, hP, hD, hS, lv_sub hl [0, 1, 3, 4, 5, 6, 7] rfl⟩
            · have hpn := oq_pf hw_6 c_7
              refine lv_goto (tgt := 106) hx hb dX11_reckon_69 (by decide) ?_
              refine lv_iinc (v := (nI (kx + 1))) (lv' := [(6, .int (nI (kx + 1))), (5, .int be), (4, .int (nI la)), (3, .int (nI sx)), (2, .int (nI ((2 ^ mq) - 1))), (0, .ref y), (1, .int v1)]) hx hb dX11_reckon_106 hl (k := 0) rfl (nI_add (kx) 1) (by decide) rfl (fun ls hl => ?_)
              refine lv_goto (tgt := 44) hx hb dX11_reckon_109 (by decide) ?_
              exact ih44 (kx + 1, be) _ _ _ (by omega) ⟨⟨by omega, oq_be_n hbe hpn⟩, hP, hD, hS, lv_sub hl [0, 1, 2, 3, 4, 5, 6] rfl⟩
      · have nc_3 : sx = (2 ^ mq) - 1 := (nI_eq (a := sx) (b := (2 ^ mq) - 1) (by omega) (by omega)).mp c_3
        refine lv_iconst (v := 0) hx hb dX11_reckon_32 (by decide) ?_
        refine lv_goto (tgt := 39) hx hb dX11_reckon_33 (by decide) ?_
        refine lv_istore (lv' := [(5, .int 0), (4, .int (nI la)), (3, .int (nI sx)), (2, .int (nI ((2 ^ mq) - 1))), (0, .ref y), (1, .int v1)]) hx hb dX11_reckon_39 hl (by decide) rfl (fun ls hl => ?_)
        refine lv_iconst (v := 0) hx hb dX11_reckon_41 (by decide) ?_
        refine lv_istore (lv' := [(6, .int 0), (5, .int 0), (4, .int (nI la)), (3, .int (nI sx)), (2, .int (nI ((2 ^ mq) - 1))), (0, .ref y), (1, .int v1)]) hx hb dX11_reckon_42 hl (by decide) rfl (fun ls hl => ?_)
        refine wl_loop (fun (z_ : Nat × Int32) H locs ls => (z_.1 ≤ mq ∧ oq_be A34 kd v1 mq sx la z_.1 z_.2) ∧ va_P (dC, dI) vwCl [(y, .inr (11, [.int (nI ml), .int (nI mb), .int (nI mp), .int (nI mx), .int (nI mr), .int (nI mq), .ref (b2 6), .ref (b2 7), .ref (b2 8), .ref (b2 9), .ref (b2 10), .ref (b2 11), .ref (b2 12), .ref (b2 13), .ref (b2 14), .ref (b2 15), .ref (b2 16), .ref (b2 17), .ref (b2 18), .ref (b2 19), .ref (b2 20), .ref (b2 21), .ref (b2 22), .ref (b2 23), .ref (b2 24), .ref (b2 25), .ref (b2 26), .ref (b2 27), .ref (b2 28), .int gl, .int gh, .ref (b2 31), .ref (b2 32), .ref (b2 33), .ref (b2 34), .ref (b2 35), .ref (b2 36), .ref (b2 37), .ref (b2 38), .ref (b2 39), .ref (b2 40), .ref (b2 41), .ref (b2 42), .ref (b2 43), .ref (b2 44), .ref (b2 45), .ref (b2 46), .ref (b2 47), .int (nI mch), .int (nI mli), .ref (b2 50), .ref (b2 51), .int (nI mno), .ref (b2 53), .ref (b2 54), .ref (b2 55)])), ((b2 8), .inl (ca 0, 40, .inl A8)), ((b2 35), .inl (ca 0, 10, .inl A35)), ((b2 34), .inl (ca 0, 36, .inl A34)), ((b2 55), .inl (ca 0, 10240, .inl R2_))] H ∧ va_D A [(y, .inr (11, [.int (nI ml), .int (nI mb), .int (nI mp), .int (nI mx), .int (nI mr), .int (nI mq), .ref (b2 6), .ref (b2 7), .ref (b2 8), .ref (b2 9), .ref (b2 10), .ref (b2 11), .ref (b2 12), .ref (b2 13), .ref (b2 14), .ref (b2 15), .ref (b2 16), .ref (b2 17), .ref (b2 18), .ref (b2 19), .ref (b2 20), .ref (b2 21), .ref (b2 22), .ref (b2 23), .ref (b2 24), .ref (b2 25), .ref (b2 26), .ref (b2 27), .ref (b2 28), .int gl, .int gh, .ref (b2 31), .ref (b2 32), .ref (b2 33), .ref (b2 34), .ref (b2 35), .ref (b2 36), .ref (b2 37), .ref (b2 38), .ref (b2 39), .ref (b2 40), .ref (b2 41), .ref (b2 42), .ref (b2 43), .ref (b2 44), .ref (b2 45), .ref (b2 46), .ref (b2 47), .int (nI mch), .int (nI mli), .ref (b2 50), .ref (b2 51), .int (nI mno), .ref (b2 53), .ref (b2 54), .ref (b2 55)])), ((b2 8), .inl (ca 0, 40, .inl A8)), ((b2 35), .inl (ca 0, 10, .inl A35)), ((b2 34), .inl (ca 0, 36, .inl A34)), ((b2 55), .inl (ca 0, 10240, .inl R2_))] ∧ va_S A s.heap H locs ∧ lv_has ls 8 [(6, .int (nI z_.1)), (5, .int z_.2), (4, .int (nI la)), (3, .int (nI sx)), (2, .int (nI ((2 ^ mq) - 1))), (0, .ref y), (1, .int v1)]) (fun (z_ : Nat × Int32) => mq - z_.1) (fun z_ H locs ls hI ih44 => ?_) (0, 0) ⟨⟨Nat.zero_le _, oq_be_a nc_3⟩, hP, hD, hS, lv_sub hl [0, 1, 2, 3, 4, 5, 6] rfl⟩
        obtain ⟨kx, be⟩ := z_
        dsimp only at hI ih44
        obtain ⟨⟨hkx, hbe⟩, hP, hD, hS, hl⟩ := hI
        refine lv_iload hx hb dX11_reckon_44 (lv_at hl 0 rfl) ?_
        refine lv_aload_n hx hb dX11_reckon_46 rfl (lv_at hl 5 rfl) ?_
        refine va_get (D := (dC, dI)) (ci := 11) (v := .int (nI mq)) (C := RX11) (T := TX11) (N := 56) hx hb hts inX11 hown hK hP 0 rfl rfl 5 (by decide) (hts _ mw_885) (fun _ h9 => h9) rfl dX11_reckon_47 ?_
        refine lv_icmp_ge (tgt := 112) hx hb dX11_reckon_50 (by decide) (fun c_11 => ?_) (fun c_11 => ?_)
        · have nc_11 : mq ≤ kx := (nI_leI (a := mq) (b := kx) (by omega) (by omega)).mp c_11
          refine lv_aload_n hx hb dX11_reckon_112 rfl (lv_at hl 5 rfl) ?_
          refine va_get (D := (dC, dI)) (ci := 11) (v := .ref (b2 55)) (C := RX11) (T := TX11) (N := 56) hx hb hts inX11 hown hK hP 0 rfl rfl 55 (by decide) (hts _ mw_935) (fun _ h9 => h9) rfl dX11_reckon_113 ?_
          refine lv_bipush (v := 10) hx hb dX11_reckon_116 (by decide) ?_
          refine lv_iload_n hx hb dX11_reckon_118 rfl (lv_at hl 3 rfl) ?_
          refine lv_imul hx hb dX11_reckon_119 ?_
          refine lv_topi (fun y_ e_ => ?_)
          obtain rfl : y_ = (nI (10 * sx)) := e_.trans (pk_mul (10) (sx))
          refine lv_iload hx hb dX11_reckon_120 (lv_at hl 2 rfl) ?_
          refine lv_iadd hx hb dX11_reckon_122 ?_
          refine lv_topi (fun y_ e_ => ?_)
          obtain rfl : y_ = (nI (10 * sx + la)) := e_.trans (nI_add (10 * sx) (la))
          refine lv_iload hx hb dX11_reckon_123 (lv_at hl 1 rfl) ?_
          refine va_iast hx hb hK hP hD hS 4 0 rfl rfl (vp_in_nI (show 10 * sx + la < 10240 by omega) (by first | decide | omega)) dX11_reckon_125 (fun H locs hP hD hS => ?_)
          rw [(show ((nI (10 * sx + la)) : Int32).toNatClampNeg = 10 * sx + la from nI_clamp (by omega))] at hP hD
          obtain ⟨hP, hD⟩ := va_bo [(y, .inr (11, [.int (nI ml), .int (nI mb), .int (nI mp), .int (nI mx), .int (nI mr), .int (nI mq), .ref (b2 6), .ref (b2 7), .ref (b2 8), .ref (b2 9), .ref (b2 10), .ref (b2 11), .ref (b2 12), .ref (b2 13), .ref (b2 14), .ref (b2 15), .ref (b2 16), .ref (b2 17), .ref (b2 18), .ref (b2 19), .ref (b2 20), .ref (b2 21), .ref (b2 22), .ref (b2 23), .ref (b2 24), .ref (b2 25), .ref (b2 26), .ref (b2 27), .ref (b2 28), .int gl, .int gh, .ref (b2 31), .ref (b2 32), .ref (b2 33), .ref (b2 34), .ref (b2 35), .ref (b2 36), .ref (b2 37), .ref (b2 38), .ref (b2 39), .ref (b2 40), .ref (b2 41), .ref (b2 42), .ref (b2 43), .ref (b2 44), .ref (b2 45), .ref (b2 46), .ref (b2 47), .int (nI mch), .int (nI mli), .ref (b2 50), .ref (b2 51), .int (nI mno), .ref (b2 53), .ref (b2 54), .ref (b2 55)])), ((b2 8), .inl (ca 0, 40, .inl A8)), ((b2 35), .inl (ca 0, 10, .inl A35)), ((b2 34), .inl (ca 0, 36, .inl A34)), ((b2 55), .inl (ca 0, 10240, .inl (upd R2_ (10 * sx + la) be)))] hP hD
          refine lv_iinc (v := (nI (la + 1))) (lv' := [(4, .int (nI (la + 1))), (6, .int (nI kx)), (5, .int be), (3, .int (nI sx)), (2, .int (nI ((2 ^ mq) - 1))), (0, .ref y), (1, .int v1)]) hx hb dX11_reckon_126 hl (k := 2) rfl (nI_add (la) 1) (by decide) rfl (fun ls hl => ?_)
          refine lv_goto (tgt := 18) hx hb dX11_reckon_129 (by decide) ?_
          exact ih18 (la + 1, (upd R2_ (10 * sx + la) be)) _ _ _ (by omega) ⟨⟨by omega, oq_RL_s hrl hm6 (by omega) (oq_be_e hbe hws hqk hsx (Or.inr (by omega)) hkx)⟩, hP, hD, hS, lv_sub hl [0, 3, 4, 5, 6] rfl⟩
        · have nc_11 : ¬ (mq ≤ kx) := fun h9 => c_11 ((nI_leI (a := mq) (b := kx) (by omega) (by omega)).mpr h9)
          refine lv_iload_n hx hb dX11_reckon_53 rfl (lv_at hl 3 rfl) ?_
          refine lv_iload_n hx hb dX11_reckon_54 rfl (lv_at hl 4 rfl) ?_
          refine lv_icmp_eq (tgt := 112) hx hb dX11_reckon_55 (by decide) (fun c_12 => ?_) (fun c_12 => ?_)
          · have nc_12 : sx = 2 ^ mq - 1 := (nI_eq (a := sx) (b := 2 ^ mq - 1) (by omega) (by omega)).mp c_12
            refine lv_aload_n hx hb dX11_reckon_112 rfl (lv_at hl 5 rfl) ?_
            refine va_get (D := (dC, dI)) (ci := 11) (v := .ref (b2 55)) (C := RX11) (T := TX11) (N := 56) hx hb hts inX11 hown hK hP 0 rfl rfl 55 (by decide) (hts _ mw_935) (fun _ h9 => h9) rfl dX11_reckon_113 ?_
            refine lv_bipush (v := 10) hx hb dX11_reckon_116 (by decide) ?_
            refine lv_iload_n hx hb dX11_reckon_118 rfl (lv_at hl 3 rfl) ?_
            refine lv_imul hx hb dX11_reckon_119 ?_
            refine lv_topi (fun y_ e_ => ?_)
            obtain rfl : y_ = (nI (10 * sx)) := e_.trans (pk_mul (10) (sx))
            refine lv_iload hx hb dX11_reckon_120 (lv_at hl 2 rfl) ?_
            refine lv_iadd hx hb dX11_reckon_122 ?_
            refine lv_topi (fun y_ e_ => ?_)
            obtain rfl : y_ = (nI (10 * sx + la)) := e_.trans (nI_add (10 * sx) (la))
            refine lv_iload hx hb dX11_reckon_123 (lv_at hl 1 rfl) ?_
            refine va_iast hx hb hK hP hD hS 4 0 rfl rfl (vp_in_nI (show 10 * sx + la < 10240 by omega) (by first | decide | omega)) dX11_reckon_125 (fun H locs hP hD hS => ?_)
            rw [(show ((nI (10 * sx + la)) : Int32).toNatClampNeg = 10 * sx + la from nI_clamp (by omega))] at hP hD
            obtain ⟨hP, hD⟩ := va_bo [(y, .inr (11, [.int (nI ml), .int (nI mb), .int (nI mp), .int (nI mx), .int (nI mr), .int (nI mq), .ref (b2 6), .ref (b2 7), .ref (b2 8), .ref (b2 9), .ref (b2 10), .ref (b2 11), .ref (b2 12), .ref (b2 13), .ref (b2 14), .ref (b2 15), .ref (b2 16), .ref (b2 17), .ref (b2 18), .ref (b2 19), .ref (b2 20), .ref (b2 21), .ref (b2 22), .ref (b2 23), .ref (b2 24), .ref (b2 25), .ref (b2 26), .ref (b2 27), .ref (b2 28), .int gl, .int gh, .ref (b2 31), .ref (b2 32), .ref (b2 33), .ref (b2 34), .ref (b2 35), .ref (b2 36), .ref (b2 37), .ref (b2 38), .ref (b2 39), .ref (b2 40), .ref (b2 41), .ref (b2 42), .ref (b2 43), .ref (b2 44), .ref (b2 45), .ref (b2 46), .ref (b2 47), .int (nI mch), .int (nI mli), .ref (b2 50), .ref (b2 51), .int (nI mno), .ref (b2 53), .ref (b2 54), .ref (b2 55)])), ((b2 8), .inl (ca 0, 40, .inl A8)), ((b2 35), .inl (ca 0, 10, .inl A35)), ((b2 34), .inl (ca 0, 36, .inl A34)), ((b2 55), .inl (ca 0, 10240, .inl (upd R2_ (10 * sx + la) be)))] hP hD
            refine lv_iinc (v := (nI (la + 1))) (lv' := [(4, .int (nI (la + 1))), (6, .int (nI kx)), (5, .int be), (3, .int (nI sx)), (2, .int (nI ((2 ^ mq) - 1))), (0, .ref y), (1, .int v1)]) hx hb dX11_reckon_126 hl (k := 2) rfl (nI_add (la) 1) (by decide) rfl (fun ls hl => ?_)
            refine lv_goto (tgt := 18) hx hb dX11_reckon_129 (by decide) ?_
            exact ih18 (la + 1, (upd R2_ (10 * sx + la) be)) _ _ _ (by omega) ⟨⟨by omega, oq_RL_s hrl hm6 (by omega) (oq_be_e hbe hws hqk hsx (Or.inl nc_12) hkx)⟩, hP, hD, hS, lv_sub hl [0, 3, 4, 5, 6] rfl⟩
          · have nc_12 : ¬ (sx = 2 ^ mq - 1) := fun h9 => c_12 ((nI_eq (a := sx) (b := 2 ^ mq - 1) (by omega) (by omega)).mpr h9)
            refine lv_aload_n hx hb dX11_reckon_58 rfl (lv_at hl 5 rfl) ?_
            refine lv_iload_n hx hb dX11_reckon_59 rfl (lv_at hl 3 rfl) ?_
            refine lv_iload hx hb dX11_reckon_60 (lv_at hl 0 rfl) ?_
            refine lv_iload_n hx hb dX11_reckon_62 rfl (lv_at hl 6 rfl) ?_
            have hPc := hP.sub (ws' := [(y, .inr (11, [.int (nI ml), .int (nI mb), .int (nI mp), .int (nI mx), .int (nI mr), .int (nI mq), .ref (b2 6), .ref (b2 7), .ref (b2 8), .ref (b2 9), .ref (b2 10), .ref (b2 11), .ref (b2 12), .ref (b2 13), .ref (b2 14), .ref (b2 15), .ref (b2 16), .ref (b2 17), .ref (b2 18), .ref (b2 19), .ref (b2 20), .ref (b2 21), .ref (b2 22), .ref (b2 23), .ref (b2 24), .ref (b2 25), .ref (b2 26), .ref (b2 27), .ref (b2 28), .int gl, .int gh, .ref (b2 31), .ref (b2 32), .ref (b2 33), .ref (b2 34), .ref (b2 35), .ref (b2 36), .ref (b2 37), .ref (b2 38), .ref (b2 39), .ref (b2 40), .ref (b2 41), .ref (b2 42), .ref (b2 43), .ref (b2 44), .ref (b2 45), .ref (b2 46), .ref (b2 47), .int (nI mch), .int (nI mli), .ref (b2 50), .ref (b2 51), .int (nI mno), .ref (b2 53), .ref (b2 54), .ref (b2 55)])), ((b2 8), .inl (ca 0, 40, .inl A8)), ((b2 35), .inl (ca 0, 10, .inl A35))]) [0, 1, 2] rfl
            refine pc_i (va_runV (As := [.int (nI sx), .int (nI kx), .int v1]) (rest := []) ⟨hx, hb, hml, hown, hts⟩ (m_mayCome l dC dI ca y b2 ml mb mp mx mr mq gl gh mch mli mno A8 A35 sx kx v1 kd (by first | assumption | omega | exact ⟨_, by omega, rfl⟩) (by first | assumption | omega | exact ⟨_, by omega, rfl⟩) (by first | assumption | omega | exact ⟨_, by omega, rfl⟩) (by omega) (by first | assumption | omega | exact ⟨_, by omega, rfl⟩) hkq hqk) (⟨callB_of 3 hts (gd mw_1272) rfl rfl rfl (hts _ mw_8) (hts _ mw_1269) ds_X11_mayCome ⟨Nat.le_of_ble_eq_true rfl, Nat.le_of_ble_eq_true rfl⟩, (hts _ mw_1271), (hts _ mp_62)⟩) (pu_V hPc hK hE (va_recv hK hPc (ci := 11) (q0 := 0) rfl rfl)) rfl rfl hl.1 rfl (lv_room (Nat.le_of_ble_eq_true rfl)) dX11_reckon_63 ⟨Nat.le_of_ble_eq_true rfl, Nat.le_of_ble_eq_true rfl⟩) (fun rv_13 hw_ => ?_)
            have hw_13 := hw_
            refine lv_if_ne (tgt := 72) hx hb dX11_reckon_66 (by decide) (fun c_14 => ?_) (fun c_14 => ?_)
            · have hpk := oq_pt hw_13 c_14
              refine lv_aload_n hx hb dX11_reckon_72 rfl (lv_at hl 5 rfl) ?_
              refine lv_iload hx hb dX11_reckon_73 (lv_at hl 2 rfl) ?_
              refine lv_iload hx hb dX11_reckon_75 (lv_at hl 0 rfl) ?_
              have hPc := hP.sub (ws' := [(y, .inr (11, [.int (nI ml), .int (nI mb), .int (nI mp), .int (nI mx), .int (nI mr), .int (nI mq), .ref (b2 6), .ref (b2 7), .ref (b2 8), .ref (b2 9), .ref (b2 10), .ref (b2 11), .ref (b2 12), .ref (b2 13), .ref (b2 14), .ref (b2 15), .ref (b2 16), .ref (b2 17), .ref (b2 18), .ref (b2 19), .ref (b2 20), .ref (b2 21), .ref (b2 22), .ref (b2 23), .ref (b2 24), .ref (b2 25), .ref (b2 26), .ref (b2 27), .ref (b2 28), .int gl, .int gh, .ref (b2 31), .ref (b2 32), .ref (b2 33), .ref (b2 34), .ref (b2 35), .ref (b2 36), .ref (b2 37), .ref (b2 38), .ref (b2 39), .ref (b2 40), .ref (b2 41), .ref (b2 42), .ref (b2 43), .ref (b2 44), .ref (b2 45), .ref (b2 46), .ref (b2 47), .int (nI mch), .int (nI mli), .ref (b2 50), .ref (b2 51), .int (nI mno), .ref (b2 53), .ref (b2 54), .ref (b2 55)])), ((b2 8), .inl (ca 0, 40, .inl A8)), ((b2 35), .inl (ca 0, 10, .inl A35)), ((b2 34), .inl (ca 0, 36, .inl A34))]) [0, 1, 2, 3] rfl
              refine pc_i (va_runV (As := [.int (nI la), .int (nI kx)]) (rest := []) ⟨hx, hb, hml, hown, hts⟩ (m_minutes l dC dI ca y b2 ml mb mp mx mr mq gl gh mch mli mno A8 A35 A34 (nI la) kx kd (by first | assumption | omega | exact ⟨_, by omega, rfl⟩) (Or.inr ⟨la, by omega, rfl⟩) (by first | assumption | omega | exact ⟨_, by omega, rfl⟩) (by omega) (by first | assumption | omega | exact ⟨_, by omega, rfl⟩) (by first | assumption | omega | exact ⟨_, by omega, rfl⟩) hkq hqk hws) (⟨callB_of 2 hts (gd mw_1280) rfl rfl rfl (hts _ mw_8) (hts _ mw_1277) ds_X11_minutes ⟨Nat.le_of_ble_eq_true rfl, Nat.le_of_ble_eq_true rfl⟩, (hts _ mw_1279), (hts _ mp_64)⟩) (pu_V hPc hK hE (va_recv hK hPc (ci := 11) (q0 := 0) rfl rfl)) rfl rfl hl.1 rfl (lv_room (Nat.le_of_ble_eq_true rfl)) dX11_reckon_77 ⟨Nat.le_of_ble_eq_true rfl, Nat.le_of_ble_eq_true rfl⟩) (fun rv_15 hw_ => ?_)
              have hw_15 := hw_
              refine lv_aload_n hx hb dX11_reckon_80 rfl (lv_at hl 5 rfl) ?_
              refine lv_iload_n hx hb dX11_reckon_81 rfl (lv_at hl 3 rfl) ?_
              refine lv_iconst (v := 1) hx hb dX11_reckon_82 (by decide) ?_
              refine lv_iload hx hb dX11_reckon_83 (lv_at hl 0 rfl) ?_
              refine lv_ishl hx hb dX11_reckon_85 ?_
              refine lv_topi (fun y_ e_ => ?_)
              obtain rfl : y_ = (nI (2 ^ kx)) := e_.trans (tb_sh (by omega))
              refine lv_ior hx hb dX11_reckon_86 ?_
              refine lv_topi (fun y_ e_ => ?_)
              obtain rfl : y_ = (nI (sx ||| (2 ^ kx))) := e_.trans (tb_or _ _)
              refine lv_iload hx hb dX11_reckon_87 (lv_at hl 0 rfl) ?_
              have hPc := hP.sub (ws' := [(y, .inr (11, [.int (nI ml), .int (nI mb), .int (nI mp), .int (nI mx), .int (nI mr), .int (nI mq), .ref (b2 6), .ref (b2 7), .ref (b2 8), .ref (b2 9), .ref (b2 10), .ref (b2 11), .ref (b2 12), .ref (b2 13), .ref (b2 14), .ref (b2 15), .ref (b2 16), .ref (b2 17), .ref (b2 18), .ref (b2 19), .ref (b2 20), .ref (b2 21), .ref (b2 22), .ref (b2 23), .ref (b2 24), .ref (b2 25), .ref (b2 26), .ref (b2 27), .ref (b2 28), .int gl, .int gh, .ref (b2 31), .ref (b2 32), .ref (b2 33), .ref (b2 34), .ref (b2 35), .ref (b2 36), .ref (b2 37), .ref (b2 38), .ref (b2 39), .ref (b2 40), .ref (b2 41), .ref (b2 42), .ref (b2 43), .ref (b2 44), .ref (b2 45), .ref (b2 46), .ref (b2 47), .int (nI mch), .int (nI mli), .ref (b2 50), .ref (b2 51), .int (nI mno), .ref (b2 53), .ref (b2 54), .ref (b2 55)])), ((b2 55), .inl (ca 0, 10240, .inl R2_))]) [0, 4] rfl
              refine pc_i (va_runV (As := [.int (nI (sx ||| (2 ^ kx))), .int (nI kx)]) (rest := [.int rv_15]) ⟨hx, hb, hml, hown, hts⟩ (m_restOf l dC dI ca y b2 ml mb mp mx mr mq gl gh mch mli mno R2_ (sx ||| (2 ^ kx)) kx (by first | assumption | omega | exact ⟨_, by omega, rfl⟩) (or_10 (by omega) (by omega)) (by first | assumption | omega | exact ⟨_, by omega, rfl⟩)) (⟨callB_of 2 hts (gd mw_1284) rfl rfl rfl (hts _ mw_8) (hts _ mw_1281) ds_X11_restOf ⟨Nat.le_of_ble_eq_true rfl, Nat.le_of_ble_eq_true rfl⟩, (hts _ mw_1283), (hts _ mp_65)⟩) (pu_V hPc hK hE (va_recv hK hPc (ci := 11) (q0 := 0) rfl rfl)) rfl rfl hl.1 rfl (lv_room (Nat.le_of_ble_eq_true rfl)) dX11_reckon_89 ⟨Nat.le_of_ble_eq_true rfl, Nat.le_of_ble_eq_true rfl⟩) (fun rv_16 hw_ => ?_)
              have hw_16 := hw_
              refine lv_iadd hx hb dX11_reckon_92 ?_
              refine lv_istore (lv' := [(7, .int (rv_15 + rv_16)), (6, .int (nI kx)), (5, .int be), (4, .int (nI la)), (3, .int (nI sx)), (2, .int (nI ((2 ^ mq) - 1))), (0, .ref y), (1, .int v1)]) hx hb dX11_reckon_93 hl (by decide) rfl (fun ls hl => ?_)
              refine lv_iload hx hb dX11_reckon_95 (lv_at hl 0 rfl) ?_
              refine lv_iload hx hb dX11_reckon_97 (lv_at hl 2 rfl) ?_
              refine lv_icmp_ge (tgt := 106) hx hb dX11_reckon_99 (by decide) (fun c_17 => ?_) (fun c_17 => ?_)
              · refine lv_iinc (v := (nI (kx + 1))) (lv' := [(6, .int (nI (kx + 1))), (7, .int (rv_15 + rv_16)), (5, .int be), (4, .int (nI la)), (3, .int (nI sx)), (2, .int (nI ((2 ^ mq) - 1))), (0, .ref y), (1, .int v1)]) hx hb dX11_reckon_106 hl (k := 1) rfl (nI_add (kx) 1) (by decide) rfl (fun ls hl => ?_)
                refine lv_goto (tgt := 44) hx hb dX11_reckon_109 (by decide) ?_
                exact ih44 (kx + 1, be) _ _ _ (by omega) ⟨⟨by omega, oq_be_g hbe hws hqk (by omega) hpk (oq_me hqk hrl.1 hsx (by omega) (by omega) hpk hw_15 hw_16) (Int32.not_lt.mpr c_17)⟩, hP, hD, hS, lv_sub hl [0, 2, 3, 4, 5, 6, 7] rfl⟩
              · refine lv_iload hx hb dX11_reckon_102 (lv_at hl 0 rfl) ?_
                refine lv_istore (lv' := [(5, .int (rv_15 + rv_16)), (7, .int (rv_15 + rv_16)), (6, .int (nI kx)), (4, .int (nI la)), (3, .int (nI sx)), (2, .int (nI ((2 ^ mq) - 1))), (0, .ref y), (1, .int v1)]) hx hb dX11_reckon_104 hl (by decide) rfl (fun ls hl => ?_)
                refine lv_iinc (v := (nI (kx + 1))) (lv' := [(6, .int (nI (kx + 1))), (5, .int (rv_15 + rv_16)), (7, .int (rv_15 + rv_16)), (4, .int (nI la)), (3, .int (nI sx)), (2, .int (nI ((2 ^ mq) - 1))), (0, .ref y), (1, .int v1)]) hx hb dX11_reckon_106 hl (k := 2) rfl (nI_add (kx) 1) (by decide) rfl (fun ls hl => ?_)
                refine lv_goto (tgt := 44) hx hb dX11_reckon_109 (by decide) ?_
                exact ih44 (kx + 1, (rv_15 + rv_16)) _ _ _ (by omega) ⟨⟨by omega, oq_be_y hbe nc_12 hws hqk (by omega) hpk (oq_me hqk hrl.1 hsx (by omega) (by omega) hpk hw_15 hw_16) (Int32.not_le.mp c_17)⟩, hP, hD, hS, lv_sub hl [0, 1, 3, 4, 5, 6, 7] rfl⟩
            · have hpn := oq_pf hw_13 c_14
              refine lv_goto (tgt := 106) hx hb dX11_reckon_69 (by decide) ?_
              refine lv_iinc (v := (nI (kx + 1))) (lv' := [(6, .int (nI (kx + 1))), (5, .int be), (4, .int (nI la)), (3, .int (nI sx)), (2, .int (nI ((2 ^ mq) - 1))), (0, .ref y), (1, .int v1)]) hx hb dX11_reckon_106 hl (k := 0) rfl (nI_add (kx) 1) (by decide) rfl (fun ls hl => ?_)
              refine lv_goto (tgt := 44) hx hb dX11_reckon_109 (by decide) ?_
              exact ih44 (kx + 1, be) _ _ _ (by omega) ⟨⟨by omega, oq_be_n hbe hpn⟩, hP, hD, hS, lv_sub hl [0, 1, 2, 3, 4, 5, 6] rfl⟩

set_option maxHeartbeats 4000000 in
set_option maxRecDepth 100000 in
theorem m_order (l : Launch) (dC : Nat → ClassId) (dI : Nat → Nat → Nat) (ca : Nat → ClassId) (sz : Nat) (y : Nat) (b2 : Nat → Nat) (ml : Nat) (mb : Nat) (mp : Nat) (mx : Nat) (mr : Nat) (mq : Nat) (gl : Int32) (gh : Int32) (mch : Nat) (mli : Nat) (mno : Nat) (A8 : Nat → Int32) (A35 : Nat → Int32) (A34 : Nat → Int32) (A55 : Nat → Int32) (v1 : Int32) (v2 : Int32) (kd : Nat → Int32) (hM : mI ml mb mp mx mr mq mch mli mno) (h_kind : ∀ j, cnt (A8 j) 5) (h_queue : ∀ j, cnt (A35 j) 39) (hkq : ∀ i, i < mq → A8 (A35 i).toNatClampNeg = kd i) (hqk : qI mq kd) (hws : ∀ j, cnt (A34 j) 600) : Met l yX11_order (Cond.code yX11_order cX11_order 11 (some .int) :: gT) ({ frames := 4, cells := 0, slots := 0, locals := 132 }) (va_Pc [.ref y, .int v1, .int v2] (pr (dC, dI) sz [(y, .inr (11, [.int (nI ml), .int (nI mb), .int (nI mp), .int (nI mx), .int (nI mr), .int (nI mq), .ref (b2 6), .ref (b2 7), .ref (b2 8), .ref (b2 9), .ref (b2 10), .ref (b2 11), .ref (b2 12), .ref (b2 13), .ref (b2 14), .ref (b2 15), .ref (b2 16), .ref (b2 17), .ref (b2 18), .ref (b2 19), .ref (b2 20), .ref (b2 21), .ref (b2 22), .ref (b2 23), .ref (b2 24), .ref (b2 25), .ref (b2 26), .ref (b2 27), .ref (b2 28), .int gl, .int gh, .ref (b2 31), .ref (b2 32), .ref (b2 33), .ref (b2 34), .ref (b2 35), .ref (b2 36), .ref (b2 37), .ref (b2 38), .ref (b2 39), .ref (b2 40), .ref (b2 41), .ref (b2 42), .ref (b2 43), .ref (b2 44), .ref (b2 45), .ref (b2 46), .ref (b2 47), .int (nI mch), .int (nI mli), .ref (b2 50), .ref (b2 51), .int (nI mno), .ref (b2 53), .ref (b2 54), .ref (b2 55)])), ((b2 8), .inl (ca 0, 40, .inl A8)), ((b2 35), .inl (ca 0, 10, .inl A35)), ((b2 34), .inl (ca 0, 36, .inl A34)), ((b2 55), .inl (ca 0, 10240, .inl A55))] (aT ca))) (va_Qi (fun (r : Int32) (u_ : (Nat → Int32)) => r = oq_A A34 A35 kd mq v1 v2) (fun (u_ : (Nat → Int32)) t => va_P (dC, dI) vwCl [(y, .inr (11, [.int (nI ml), .int (nI mb), .int (nI mp), .int (nI mx), .int (nI mr), .int (nI mq), .ref (b2 6), .ref (b2 7), .ref (b2 8), .ref (b2 9), .ref (b2 10), .ref (b2 11), .ref (b2 12), .ref (b2 13), .ref (b2 14), .ref (b2 15), .ref (b2 16), .ref (b2 17), .ref (b2 18), .ref (b2 19), .ref (b2 20), .ref (b2 21), .ref (b2 22), .ref (b2 23), .ref (b2 24), .ref (b2 25), .ref (b2 26), .ref (b2 27), .ref (b2 28), .int gl, .int gh, .ref (b2 31), .ref (b2 32), .ref (b2 33), .ref (b2 34), .ref (b2 35), .ref (b2 36), .ref (b2 37), .ref (b2 38), .ref (b2 39), .ref (b2 40), .ref (b2 41), .ref (b2 42), .ref (b2 43), .ref (b2 44), .ref (b2 45), .ref (b2 46), .ref (b2 47), .int (nI mch), .int (nI mli), .ref (b2 50), .ref (b2 51), .int (nI mno), .ref (b2 53), .ref (b2 54), .ref (b2 55)])), ((b2 8), .inl (ca 0, 40, .inl A8)), ((b2 35), .inl (ca 0, 10, .inl A35)), ((b2 34), .inl (ca 0, 36, .inl A34)), ((b2 55), .inl (ca 0, 10240, .inl u_))] t.heap ∧ va_D (va_A [(y, .inr (11, [.int (nI ml), .int (nI mb), .int (nI mp), .int (nI mx), .int (nI mr), .int (nI mq), .ref (b2 6), .ref (b2 7), .ref (b2 8), .ref (b2 9), .ref (b2 10), .ref (b2 11), .ref (b2 12), .ref (b2 13), .ref (b2 14), .ref (b2 15), .ref (b2 16), .ref (b2 17), .ref (b2 18), .ref (b2 19), .ref (b2 20), .ref (b2 21), .ref (b2 22), .ref (b2 23), .ref (b2 24), .ref (b2 25), .ref (b2 26), .ref (b2 27), .ref (b2 28), .int gl, .int gh, .ref (b2 31), .ref (b2 32), .ref (b2 33), .ref (b2 34), .ref (b2 35), .ref (b2 36), .ref (b2 37), .ref (b2 38), .ref (b2 39), .ref (b2 40), .ref (b2 41), .ref (b2 42), .ref (b2 43), .ref (b2 44), .ref (b2 45), .ref (b2 46), .ref (b2 47), .int (nI mch), .int (nI mli), .ref (b2 50), .ref (b2 51), .int (nI mno), .ref (b2 53), .ref (b2 54), .ref (b2 55)])), ((b2 8), .inl (ca 0, 40, .inl A8)), ((b2 35), .inl (ca 0, 10, .inl A35)), ((b2 34), .inl (ca 0, 36, .inl A34)), ((b2 55), .inl (ca 0, 10240, .inl A55))] sz) [(y, .inr (11, [.int (nI ml), .int (nI mb), .int (nI mp), .int (nI mx), .int (nI mr), .int (nI mq), .ref (b2 6), .ref (b2 7), .ref (b2 8), .ref (b2 9), .ref (b2 10), .ref (b2 11), .ref (b2 12), .ref (b2 13), .ref (b2 14), .ref (b2 15), .ref (b2 16), .ref (b2 17), .ref (b2 18), .ref (b2 19), .ref (b2 20), .ref (b2 21), .ref (b2 22), .ref (b2 23), .ref (b2 24), .ref (b2 25), .ref (b2 26), .ref (b2 27), .ref (b2 28), .int gl, .int gh, .ref (b2 31), .ref (b2 32), .ref (b2 33), .ref (b2 34), .ref (b2 35), .ref (b2 36), .ref (b2 37), .ref (b2 38), .ref (b2 39), .ref (b2 40), .ref (b2 41), .ref (b2 42), .ref (b2 43), .ref (b2 44), .ref (b2 45), .ref (b2 46), .ref (b2 47), .int (nI mch), .int (nI mli), .ref (b2 50), .ref (b2 51), .int (nI mno), .ref (b2 53), .ref (b2 54), .ref (b2 55)])), ((b2 8), .inl (ca 0, 40, .inl A8)), ((b2 35), .inl (ca 0, 10, .inl A35)), ((b2 34), .inl (ca 0, 36, .inl A34)), ((b2 55), .inl (ca 0, 10240, .inl u_))]) (va_A [(y, .inr (11, [.int (nI ml), .int (nI mb), .int (nI mp), .int (nI mx), .int (nI mr), .int (nI mq), .ref (b2 6), .ref (b2 7), .ref (b2 8), .ref (b2 9), .ref (b2 10), .ref (b2 11), .ref (b2 12), .ref (b2 13), .ref (b2 14), .ref (b2 15), .ref (b2 16), .ref (b2 17), .ref (b2 18), .ref (b2 19), .ref (b2 20), .ref (b2 21), .ref (b2 22), .ref (b2 23), .ref (b2 24), .ref (b2 25), .ref (b2 26), .ref (b2 27), .ref (b2 28), .int gl, .int gh, .ref (b2 31), .ref (b2 32), .ref (b2 33), .ref (b2 34), .ref (b2 35), .ref (b2 36), .ref (b2 37), .ref (b2 38), .ref (b2 39), .ref (b2 40), .ref (b2 41), .ref (b2 42), .ref (b2 43), .ref (b2 44), .ref (b2 45), .ref (b2 46), .ref (b2 47), .int (nI mch), .int (nI mli), .ref (b2 50), .ref (b2 51), .int (nI mno), .ref (b2 53), .ref (b2 54), .ref (b2 55)])), ((b2 8), .inl (ca 0, 40, .inl A8)), ((b2 35), .inl (ca 0, 10, .inl A35)), ((b2 34), .inl (ca 0, 36, .inl A34)), ((b2 55), .inl (ca 0, 10240, .inl A55))] sz)) 0 0 (va_A [(y, .inr (11, [.int (nI ml), .int (nI mb), .int (nI mp), .int (nI mx), .int (nI mr), .int (nI mq), .ref (b2 6), .ref (b2 7), .ref (b2 8), .ref (b2 9), .ref (b2 10), .ref (b2 11), .ref (b2 12), .ref (b2 13), .ref (b2 14), .ref (b2 15), .ref (b2 16), .ref (b2 17), .ref (b2 18), .ref (b2 19), .ref (b2 20), .ref (b2 21), .ref (b2 22), .ref (b2 23), .ref (b2 24), .ref (b2 25), .ref (b2 26), .ref (b2 27), .ref (b2 28), .int gl, .int gh, .ref (b2 31), .ref (b2 32), .ref (b2 33), .ref (b2 34), .ref (b2 35), .ref (b2 36), .ref (b2 37), .ref (b2 38), .ref (b2 39), .ref (b2 40), .ref (b2 41), .ref (b2 42), .ref (b2 43), .ref (b2 44), .ref (b2 45), .ref (b2 46), .ref (b2 47), .int (nI mch), .int (nI mli), .ref (b2 50), .ref (b2 51), .int (nI mno), .ref (b2 53), .ref (b2 54), .ref (b2 55)])), ((b2 8), .inl (ca 0, 40, .inl A8)), ((b2 35), .inl (ca 0, 10, .inl A35)), ((b2 34), .inl (ca 0, 36, .inl A34)), ((b2 55), .inl (ca 0, 10240, .inl A55))] sz) := by
  refine Met.ofW (cc := cX11_order) (maxL := 11) (ret := (some .int)) (by decide) rfl ?_
  intro p e s m args below meth c s₁ B hml hv
  obtain ⟨rfl, hsz, hP, hK, hD0, hE⟩ := hv
  have hx := B.exec
  have hb := B.bytes
  have hr := B.returns
  have hts : ∀ w ∈ gT, w.before _ s = true := fun w h => atoms_spec (ws := Cond.code yX11_order cX11_order 11 (some .int) :: gT) B.pre w (List.mem_cons_of_mem _ h)
  have hown : s.vm.findClass RX11 = some m.cls := findClass_of_methodNamed B.named
  have hlocks := B.notSynchronized
  subst hsz
  have hD := hD0.self (sz := s.heap.size)
  generalize hAe : va_A [(y, .inr (11, [.int (nI ml), .int (nI mb), .int (nI mp), .int (nI mx), .int (nI mr), .int (nI mq), .ref (b2 6), .ref (b2 7), .ref (b2 8), .ref (b2 9), .ref (b2 10), .ref (b2 11), .ref (b2 12), .ref (b2 13), .ref (b2 14), .ref (b2 15), .ref (b2 16), .ref (b2 17), .ref (b2 18), .ref (b2 19), .ref (b2 20), .ref (b2 21), .ref (b2 22), .ref (b2 23), .ref (b2 24), .ref (b2 25), .ref (b2 26), .ref (b2 27), .ref (b2 28), .int gl, .int gh, .ref (b2 31), .ref (b2 32), .ref (b2 33), .ref (b2 34), .ref (b2 35), .ref (b2 36), .ref (b2 37), .ref (b2 38), .ref (b2 39), .ref (b2 40), .ref (b2 41), .ref (b2 42), .ref (b2 43), .ref (b2 44), .ref (b2 45), .ref (b2 46), .ref (b2 47), .int (nI mch), .int (nI mli), .ref (b2 50), .ref (b2 51), .int (nI mno), .ref (b2 53), .ref (b2 54), .ref (b2 55)])), ((b2 8), .inl (ca 0, 40, .inl A8)), ((b2 35), .inl (ca 0, 10, .inl A35)), ((b2 34), .inl (ca 0, 36, .inl A34)), ((b2 55), .inl (ca 0, 10240, .inl A55))] s.heap.size = A at hD ⊢
  have hA : ∀ q : Nat, s.heap.size ≤ q → A q := fun q h => by rw [← hAe]; exact Or.inr h
  have hS : va_S A s.heap s.heap [] := va_S.rf
  have hl := lv_entry ([.ref y, .int v1, .int v2]) (n := 11) (Nat.le_of_ble_eq_true rfl)
  rw [lg_entry_eq]
  generalize (lg_sl ([.ref y, .int v1, .int v2]) ++ List.replicate (11 - (lg_sl ([.ref y, .int v1, .int v2])).length) Slot.unset).toArray = ls at hl ⊢
  have hl : lv_has ls 11 [(0, .ref y), (1, .int v1), (2, .int v2)] := hl
  obtain ⟨hm1, hm2, hm3, hm4, hm5, hm6, hm7, hm8, hm9⟩ := id hM
  have hp2 := p10 hm6
  have hp0 := Nat.two_pow_pos mq
  refine lv_iload_n hx hb dX11_order_0 rfl (lv_at hl 2 rfl) ?_
  refine lv_iconst (v := (-1)) hx hb dX11_order_1 (by decide) ?_
  refine lv_aload_n hx hb dX11_order_2 rfl (lv_at hl 0 rfl) ?_
  refine va_get (D := (dC, dI)) (ci := 11) (v := .int (nI mq)) (C := RX11) (T := TX11) (N := 56) hx hb hts inX11 hown hK hP 0 rfl rfl 5 (by decide) (hts _ mw_885) (fun _ h9 => h9) rfl dX11_order_3 ?_
  refine lv_iconst (v := 1) hx hb dX11_order_6 (by decide) ?_
  refine lv_isub hx hb dX11_order_7 ?_
  have hPc := hP.sub (ws' := []) [] rfl
  refine pc_i (va_runS (As := [.int v2, .int (-1), .int ((nI mq) - 1)]) (rest := []) ⟨hx, hb, hml, hown, hts⟩ (c_isIn l dC dI ca v2 (-1) ((nI mq) - 1) ) (⟨callB_of 3 hts (gd mw_1057) rfl rfl rfl (hts _ mw_8) (hts _ mw_1055) ds_X11_isIn ⟨Nat.le_of_ble_eq_true rfl, Nat.le_of_ble_eq_true rfl⟩, (hts _ mw_1056)⟩) (pu_S hPc hK hE) rfl rfl hl.1 rfl (lv_room (Nat.le_of_ble_eq_true rfl)) dX11_order_8 ⟨Nat.le_of_ble_eq_true rfl, Nat.le_of_ble_eq_true rfl⟩) (fun rv_1 hw_ => ?_)
  obtain rfl : rv_1 = (wi v2 (-1) ((nI mq) - 1)) := hw_
  refine lv_if_ne (tgt := 16) hx hb dX11_order_11 (by decide) (fun c_2 => ?_) (fun c_2 => ?_)
  · refine lv_aload_n hx hb dX11_order_16 rfl (lv_at hl 0 rfl) ?_
    refine lv_iload_n hx hb dX11_order_17 rfl (lv_at hl 1 rfl) ?_
    have hPc := hP.sub (ws' := [(y, .inr (11, [.int (nI ml), .int (nI mb), .int (nI mp), .int (nI mx), .int (nI mr), .int (nI mq), .ref (b2 6), .ref (b2 7), .ref (b2 8), .ref (b2 9), .ref (b2 10), .ref (b2 11), .ref (b2 12), .ref (b2 13), .ref (b2 14), .ref (b2 15), .ref (b2 16), .ref (b2 17), .ref (b2 18), .ref (b2 19), .ref (b2 20), .ref (b2 21), .ref (b2 22), .ref (b2 23), .ref (b2 24), .ref (b2 25), .ref (b2 26), .ref (b2 27), .ref (b2 28), .int gl, .int gh, .ref (b2 31), .ref (b2 32), .ref (b2 33), .ref (b2 34), .ref (b2 35), .ref (b2 36), .ref (b2 37), .ref (b2 38), .ref (b2 39), .ref (b2 40), .ref (b2 41), .ref (b2 42), .ref (b2 43), .ref (b2 44), .ref (b2 45), .ref (b2 46), .ref (b2 47), .int (nI mch), .int (nI mli), .ref (b2 50), .ref (b2 51), .int (nI mno), .ref (b2 53), .ref (b2 54), .ref (b2 55)])), ((b2 8), .inl (ca 0, 40, .inl A8)), ((b2 35), .inl (ca 0, 10, .inl A35)), ((b2 34), .inl (ca 0, 36, .inl A34)), ((b2 55), .inl (ca 0, 10240, .inl A55))]) [0, 1, 2, 3, 4] rfl
    have hDc := hD.sub (ws' := [(y, .inr (11, [.int (nI ml), .int (nI mb), .int (nI mp), .int (nI mx), .int (nI mr), .int (nI mq), .ref (b2 6), .ref (b2 7), .ref (b2 8), .ref (b2 9), .ref (b2 10), .ref (b2 11), .ref (b2 12), .ref (b2 13), .ref (b2 14), .ref (b2 15), .ref (b2 16), .ref (b2 17), .ref (b2 18), .ref (b2 19), .ref (b2 20), .ref (b2 21), .ref (b2 22), .ref (b2 23), .ref (b2 24), .ref (b2 25), .ref (b2 26), .ref (b2 27), .ref (b2 28), .int gl, .int gh, .ref (b2 31), .ref (b2 32), .ref (b2 33), .ref (b2 34), .ref (b2 35), .ref (b2 36), .ref (b2 37), .ref (b2 38), .ref (b2 39), .ref (b2 40), .ref (b2 41), .ref (b2 42), .ref (b2 43), .ref (b2 44), .ref (b2 45), .ref (b2 46), .ref (b2 47), .int (nI mch), .int (nI mli), .ref (b2 50), .ref (b2 51), .int (nI mno), .ref (b2 53), .ref (b2 54), .ref (b2 55)])), ((b2 8), .inl (ca 0, 40, .inl A8)), ((b2 35), .inl (ca 0, 10, .inl A35)), ((b2 34), .inl (ca 0, 36, .inl A34)), ((b2 55), .inl (ca 0, 10240, .inl A55))]) [0, 1, 2, 3, 4] (by decide) rfl
    have hFc := va_free (wc := [(y, .inr (11, [.int (nI ml), .int (nI mb), .int (nI mp), .int (nI mx), .int (nI mr), .int (nI mq), .ref (b2 6), .ref (b2 7), .ref (b2 8), .ref (b2 9), .ref (b2 10), .ref (b2 11), .ref (b2 12), .ref (b2 13), .ref (b2 14), .ref (b2 15), .ref (b2 16), .ref (b2 17), .ref (b2 18), .ref (b2 19), .ref (b2 20), .ref (b2 21), .ref (b2 22), .ref (b2 23), .ref (b2 24), .ref (b2 25), .ref (b2 26), .ref (b2 27), .ref (b2 28), .int gl, .int gh, .ref (b2 31), .ref (b2 32), .ref (b2 33), .ref (b2 34), .ref (b2 35), .ref (b2 36), .ref (b2 37), .ref (b2 38), .ref (b2 39), .ref (b2 40), .ref (b2 41), .ref (b2 42), .ref (b2 43), .ref (b2 44), .ref (b2 45), .ref (b2 46), .ref (b2 47), .int (nI mch), .int (nI mli), .ref (b2 50), .ref (b2 51), .int (nI mno), .ref (b2 53), .ref (b2 54), .ref (b2 55)])), ((b2 8), .inl (ca 0, 40, .inl A8)), ((b2 35), .inl (ca 0, 10, .inl A35)), ((b2 34), .inl (ca 0, 36, .inl A34)), ((b2 55), .inl (ca 0, 10240, .inl A55))]) hD hS hA [0, 1, 2, 3, 4] rfl
    refine va_callv (va_runV (As := [.int v1]) (rest := []) ⟨hx, hb, hml, hown, hts⟩ (m_reckon l dC dI ca s.heap.size y b2 ml mb mp mx mr mq gl gh mch mli mno A8 A35 A34 A55 v1 kd (by first | assumption | omega | exact ⟨_, by omega, rfl⟩) (by first | assumption | omega | exact ⟨_, by omega, rfl⟩) (by first | assumption | omega | exact ⟨_, by omega, rfl⟩) hkq hqk hws) (⟨callB_of 1 hts (gd mw_1267) rfl rfl rfl (hts _ mw_8) (hts _ mw_1264) ds_X11_reckon ⟨Nat.le_of_ble_eq_true rfl, Nat.le_of_ble_eq_true rfl⟩, (hts _ mw_1266), (hts _ mp_61)⟩) (pr_V hPc hK hDc hE (va_recv hK hPc (ci := 11) (q0 := 0) rfl rfl)) rfl rfl hl.1 rfl (lv_room (Nat.le_of_ble_eq_true rfl)) dX11_order_18 ⟨Nat.le_of_ble_eq_true rfl, Nat.le_of_ble_eq_true rfl⟩) hS (fun q _ h => hFc q h) hFc (fun B55_3 t_ H1 locs ht hvm hw_ hB hz1 hk1 hS => ?_)
    have hw_3 := hw_
    obtain ⟨hP1, hD1⟩ := hB
    rw [ht] at hP1
    obtain ⟨hP, hD⟩ := va_join (wr := []) (w1 := [(y, .inr (11, [.int (nI ml), .int (nI mb), .int (nI mp), .int (nI mx), .int (nI mr), .int (nI mq), .ref (b2 6), .ref (b2 7), .ref (b2 8), .ref (b2 9), .ref (b2 10), .ref (b2 11), .ref (b2 12), .ref (b2 13), .ref (b2 14), .ref (b2 15), .ref (b2 16), .ref (b2 17), .ref (b2 18), .ref (b2 19), .ref (b2 20), .ref (b2 21), .ref (b2 22), .ref (b2 23), .ref (b2 24), .ref (b2 25), .ref (b2 26), .ref (b2 27), .ref (b2 28), .int gl, .int gh, .ref (b2 31), .ref (b2 32), .ref (b2 33), .ref (b2 34), .ref (b2 35), .ref (b2 36), .ref (b2 37), .ref (b2 38), .ref (b2 39), .ref (b2 40), .ref (b2 41), .ref (b2 42), .ref (b2 43), .ref (b2 44), .ref (b2 45), .ref (b2 46), .ref (b2 47), .int (nI mch), .int (nI mli), .ref (b2 50), .ref (b2 51), .int (nI mno), .ref (b2 53), .ref (b2 54), .ref (b2 55)])), ((b2 8), .inl (ca 0, 40, .inl A8)), ((b2 35), .inl (ca 0, 10, .inl A35)), ((b2 34), .inl (ca 0, 36, .inl A34)), ((b2 55), .inl (ca 0, 10240, .inl B55_3))]) hP hD [0, 1, 2, 3, 4] [] rfl rfl (by decide) (by decide) hk1 hFc hP1 hD1
    generalize H1 = H at hP hS ⊢
    obtain ⟨hP, hD⟩ := va_bo [(y, .inr (11, [.int (nI ml), .int (nI mb), .int (nI mp), .int (nI mx), .int (nI mr), .int (nI mq), .ref (b2 6), .ref (b2 7), .ref (b2 8), .ref (b2 9), .ref (b2 10), .ref (b2 11), .ref (b2 12), .ref (b2 13), .ref (b2 14), .ref (b2 15), .ref (b2 16), .ref (b2 17), .ref (b2 18), .ref (b2 19), .ref (b2 20), .ref (b2 21), .ref (b2 22), .ref (b2 23), .ref (b2 24), .ref (b2 25), .ref (b2 26), .ref (b2 27), .ref (b2 28), .int gl, .int gh, .ref (b2 31), .ref (b2 32), .ref (b2 33), .ref (b2 34), .ref (b2 35), .ref (b2 36), .ref (b2 37), .ref (b2 38), .ref (b2 39), .ref (b2 40), .ref (b2 41), .ref (b2 42), .ref (b2 43), .ref (b2 44), .ref (b2 45), .ref (b2 46), .ref (b2 47), .int (nI mch), .int (nI mli), .ref (b2 50), .ref (b2 51), .int (nI mno), .ref (b2 53), .ref (b2 54), .ref (b2 55)])), ((b2 8), .inl (ca 0, 40, .inl A8)), ((b2 35), .inl (ca 0, 10, .inl A35)), ((b2 34), .inl (ca 0, 36, .inl A34)), ((b2 55), .inl (ca 0, 10240, .inl B55_3))] hP hD
    have hrt := hw_3
    refine lv_iconst (v := 0) hx hb dX11_order_21 (by decide) ?_
    refine lv_istore_n (lv' := [(3, .int 0), (0, .ref y), (1, .int v1), (2, .int v2)]) hx hb dX11_order_22 rfl hl (by decide) rfl (fun ls hl => ?_)
    refine lv_iconst (v := (-1)) hx hb dX11_order_23 (by decide) ?_
    refine lv_istore (lv' := [(4, .int (-1)), (3, .int 0), (0, .ref y), (1, .int v1), (2, .int v2)]) hx hb dX11_order_24 hl (by decide) rfl (fun ls hl => ?_)
    refine lv_iconst (v := 0) hx hb dX11_order_26 (by decide) ?_
    refine lv_istore (lv' := [(5, .int 0), (4, .int (-1)), (3, .int 0), (0, .ref y), (1, .int v1), (2, .int v2)]) hx hb dX11_order_27 hl (by decide) rfl (fun ls hl => ?_)
    refine lv_iconst (v := 0) hx hb dX11_order_29 (by decide) ?_
    refine lv_istore (lv' := [(6, .int 0), (5, .int 0), (4, .int (-1)), (3, .int 0), (0, .ref y), (1, .int v1), (2, .int v2)]) hx hb dX11_order_30 hl (by decide) rfl (fun ls hl => ?_)
    refine wl_loop (fun (z_ : Nat × Nat × Int32 × Int32) H locs ls => (z_.1 ≤ mq ∧ z_.2.1 < 2 ^ mq ∧ oq_or A34 kd v1 mq z_.1 z_.2.1 z_.2.2.1 z_.2.2.2 ∧ oq_v2 mq z_.1 v2) ∧ va_P (dC, dI) vwCl [(y, .inr (11, [.int (nI ml), .int (nI mb), .int (nI mp), .int (nI mx), .int (nI mr), .int (nI mq), .ref (b2 6), .ref (b2 7), .ref (b2 8), .ref (b2 9), .ref (b2 10), .ref (b2 11), .ref (b2 12), .ref (b2 13), .ref (b2 14), .ref (b2 15), .ref (b2 16), .ref (b2 17), .ref (b2 18), .ref (b2 19), .ref (b2 20), .ref (b2 21), .ref (b2 22), .ref (b2 23), .ref (b2 24), .ref (b2 25), .ref (b2 26), .ref (b2 27), .ref (b2 28), .int gl, .int gh, .ref (b2 31), .ref (b2 32), .ref (b2 33), .ref (b2 34), .ref (b2 35), .ref (b2 36), .ref (b2 37), .ref (b2 38), .ref (b2 39), .ref (b2 40), .ref (b2 41), .ref (b2 42), .ref (b2 43), .ref (b2 44), .ref (b2 45), .ref (b2 46), .ref (b2 47), .int (nI mch), .int (nI mli), .ref (b2 50), .ref (b2 51), .int (nI mno), .ref (b2 53), .ref (b2 54), .ref (b2 55)])), ((b2 8), .inl (ca 0, 40, .inl A8)), ((b2 35), .inl (ca 0, 10, .inl A35)), ((b2 34), .inl (ca 0, 36, .inl A34)), ((b2 55), .inl (ca 0, 10240, .inl B55_3))] H ∧ va_D A [(y, .inr (11, [.int (nI ml), .int (nI mb), .int (nI mp), .int (nI mx), .int (nI mr), .int (nI mq), .ref (b2 6), .ref (b2 7), .ref (b2 8), .ref (b2 9), .ref (b2 10), .ref (b2 11), .ref (b2 12), .ref (b2 13), .ref (b2 14), .ref (b2 15), .ref (b2 16), .ref (b2 17), .ref (b2 18), .ref (b2 19), .ref (b2 20), .ref (b2 21), .ref (b2 22), .ref (b2 23), .ref (b2 24), .ref (b2 25), .ref (b2 26), .ref (b2 27), .ref (b2 28), .int gl, .int gh, .ref (b2 31), .ref (b2 32), .ref (b2 33), .ref (b2 34), .ref (b2 35), .ref (b2 36), .ref (b2 37), .ref (b2 38), .ref (b2 39), .ref (b2 40), .ref (b2 41), .ref (b2 42), .ref (b2 43), .ref (b2 44), .ref (b2 45), .ref (b2 46), .ref (b2 47), .int (nI mch), .int (nI mli), .ref (b2 50), .ref (b2 51), .int (nI mno), .ref (b2 53), .ref (b2 54), .ref (b2 55)])), ((b2 8), .inl (ca 0, 40, .inl A8)), ((b2 35), .inl (ca 0, 10, .inl A35)), ((b2 34), .inl (ca 0, 36, .inl A34)), ((b2 55), .inl (ca 0, 10240, .inl B55_3))] ∧ va_S A s.heap H locs ∧ lv_has ls 11 [(6, .int (nI z_.1)), (5, .int z_.2.2.2), (4, .int z_.2.2.1), (3, .int (nI z_.2.1)), (0, .ref y), (1, .int v1), (2, .int v2)]) (fun (z_ : Nat × Nat × Int32 × Int32) => mq - z_.1) (fun z_ H locs ls hI ih => ?_) (0, 0, (-1), 0) ⟨⟨Nat.zero_le _, hp0, oq_or_0, oq_v2_0 hm6 c_2⟩, hP, hD, hS, lv_sub hl [0, 1, 2, 3, 4, 5, 6] rfl⟩
    obtain ⟨n, sx, lb, s5⟩ := z_
    dsimp only at hI ih
    obtain ⟨⟨hn, hsx, hor, hv2⟩, hP, hD, hS, hl⟩ := hI
    refine lv_iload hx hb dX11_order_32 (lv_at hl 0 rfl) ?_
    refine lv_aload_n hx hb dX11_order_34 rfl (lv_at hl 4 rfl) ?_
    refine va_get (D := (dC, dI)) (ci := 11) (v := .int (nI mq)) (C := RX11) (T := TX11) (N := 56) hx hb hts inX11 hown hK hP 0 rfl rfl 5 (by decide) (hts _ mw_885) (fun _ h9 => h9) rfl dX11_order_35 ?_
    refine lv_icmp_ge (tgt := 169) hx hb dX11_order_38 (by decide) (fun c_4 => ?_) (fun c_4 => ?_)
    · have nc_4 : mq ≤ n := (nI_leI (a := mq) (b := n) (by omega) (by omega)).mp c_4
      refine lv_iload hx hb dX11_order_169 (lv_at hl 1 rfl) ?_
      refine W.widen (k := 0) (n := 0) (Nat.le_of_ble_eq_true rfl) (Nat.le_of_ble_eq_true rfl) ?_
      have hP9 : va_P (dC, dI) vwCl [(y, .inr (11, [.int (nI ml), .int (nI mb), .int (nI mp), .int (nI mx), .int (nI mr), .int (nI mq), .ref (b2 6), .ref (b2 7), .ref (b2 8), .ref (b2 9), .ref (b2 10), .ref (b2 11), .ref (b2 12), .ref (b2 13), .ref (b2 14), .ref (b2 15), .ref (b2 16), .ref (b2 17), .ref (b2 18), .ref (b2 19), .ref (b2 20), .ref (b2 21), .ref (b2 22), .ref (b2 23), .ref (b2 24), .ref (b2 25), .ref (b2 26), .ref (b2 27), .ref (b2 28), .int gl, .int gh, .ref (b2 31), .ref (b2 32), .ref (b2 33), .ref (b2 34), .ref (b2 35), .ref (b2 36), .ref (b2 37), .ref (b2 38), .ref (b2 39), .ref (b2 40), .ref (b2 41), .ref (b2 42), .ref (b2 43), .ref (b2 44), .ref (b2 45), .ref (b2 46), .ref (b2 47), .int (nI mch), .int (nI mli), .ref (b2 50), .ref (b2 51), .int (nI mno), .ref (b2 53), .ref (b2 54), .ref (b2 55)])), ((b2 8), .inl (ca 0, 40, .inl A8)), ((b2 35), .inl (ca 0, 10, .inl A35)), ((b2 34), .inl (ca 0, 36, .inl A34)), ((b2 55), .inl (ca 0, 10240, .inl B55_3))] H := va_P.sub hP [0, 1, 2, 3, 4] rfl
      have hD9 : va_D A [(y, .inr (11, [.int (nI ml), .int (nI mb), .int (nI mp), .int (nI mx), .int (nI mr), .int (nI mq), .ref (b2 6), .ref (b2 7), .ref (b2 8), .ref (b2 9), .ref (b2 10), .ref (b2 11), .ref (b2 12), .ref (b2 13), .ref (b2 14), .ref (b2 15), .ref (b2 16), .ref (b2 17), .ref (b2 18), .ref (b2 19), .ref (b2 20), .ref (b2 21), .ref (b2 22), .ref (b2 23), .ref (b2 24), .ref (b2 25), .ref (b2 26), .ref (b2 27), .ref (b2 28), .int gl, .int gh, .ref (b2 31), .ref (b2 32), .ref (b2 33), .ref (b2 34), .ref (b2 35), .ref (b2 36), .ref (b2 37), .ref (b2 38), .ref (b2 39), .ref (b2 40), .ref (b2 41), .ref (b2 42), .ref (b2 43), .ref (b2 44), .ref (b2 45), .ref (b2 46), .ref (b2 47), .int (nI mch), .int (nI mli), .ref (b2 50), .ref (b2 51), .int (nI mno), .ref (b2 53), .ref (b2 54), .ref (b2 55)])), ((b2 8), .inl (ca 0, 40, .inl A8)), ((b2 35), .inl (ca 0, 10, .inl A35)), ((b2 34), .inl (ca 0, 36, .inl A34)), ((b2 55), .inl (ca 0, 10240, .inl B55_3))] := va_D.sub hD [0, 1, 2, 3, 4] (by decide) rfl
      exact W.iret (v := s5) hx hb hr (fun t ht hW => ⟨⟨s5, B55_3, rfl, (oq_A_e hor hv2 (by omega)), by rw [ht]; exact hP9, hD9⟩, hS.F ht⟩) hS.2.2 dX11_order_171
    · have nc_4 : ¬ (mq ≤ n) := fun h9 => c_4 ((nI_leI (a := mq) (b := n) (by omega) (by omega)).mpr h9)
      refine lv_iconst (v := (-1)) hx hb dX11_order_41 (by decide) ?_
      refine lv_istore (lv' := [(7, .int (-1)), (6, .int (nI n)), (5, .int s5), (4, .int lb), (3, .int (nI sx)), (0, .ref y), (1, .int v1), (2, .int v2)]) hx hb dX11_order_42 hl (by decide) rfl (fun ls hl => ?_)
      refine lv_iconst (v := 0) hx hb dX11_order_44 (by decide) ?_
      refine lv_istore (lv' := [(8, .int 0), (7, .int (-1)), (6, .int (nI n)), (5, .int s5), (4, .int lb), (3, .int (nI sx)), (0, .ref y), (1, .int v1), (2, .int v2)]) hx hb dX11_order_45 hl (by decide) rfl (fun ls hl => ?_)
      refine lv_iconst (v := 0) hx hb dX11_order_47 (by decide) ?_
      refine lv_istore (lv' := [(9, .int 0), (8, .int 0), (7, .int (-1)), (6, .int (nI n)), (5, .int s5), (4, .int lb), (3, .int (nI sx)), (0, .ref y), (1, .int v1), (2, .int v2)]) hx hb dX11_order_48 hl (by decide) rfl (fun ls hl => ?_)
      refine wl_loop (fun (z_ : Nat × Int32 × Int32) H locs ls => (z_.1 ≤ mq ∧ oq_oi A34 kd v1 mq n z_.1 z_.2.1 z_.2.2) ∧ va_P (dC, dI) vwCl [(y, .inr (11, [.int (nI ml), .int (nI mb), .int (nI mp), .int (nI mx), .int (nI mr), .int (nI mq), .ref (b2 6), .ref (b2 7), .ref (b2 8), .ref (b2 9), .ref (b2 10), .ref (b2 11), .ref (b2 12), .ref (b2 13), .ref (b2 14), .ref (b2 15), .ref (b2 16), .ref (b2 17), .ref (b2 18), .ref (b2 19), .ref (b2 20), .ref (b2 21), .ref (b2 22), .ref (b2 23), .ref (b2 24), .ref (b2 25), .ref (b2 26), .ref (b2 27), .ref (b2 28), .int gl, .int gh, .ref (b2 31), .ref (b2 32), .ref (b2 33), .ref (b2 34), .ref (b2 35), .ref (b2 36), .ref (b2 37), .ref (b2 38), .ref (b2 39), .ref (b2 40), .ref (b2 41), .ref (b2 42), .ref (b2 43), .ref (b2 44), .ref (b2 45), .ref (b2 46), .ref (b2 47), .int (nI mch), .int (nI mli), .ref (b2 50), .ref (b2 51), .int (nI mno), .ref (b2 53), .ref (b2 54), .ref (b2 55)])), ((b2 8), .inl (ca 0, 40, .inl A8)), ((b2 35), .inl (ca 0, 10, .inl A35)), ((b2 34), .inl (ca 0, 36, .inl A34)), ((b2 55), .inl (ca 0, 10240, .inl B55_3))] H ∧ va_D A [(y, .inr (11, [.int (nI ml), .int (nI mb), .int (nI mp), .int (nI mx), .int (nI mr), .int (nI mq), .ref (b2 6), .ref (b2 7), .ref (b2 8), .ref (b2 9), .ref (b2 10), .ref (b2 11), .ref (b2 12), .ref (b2 13), .ref (b2 14), .ref (b2 15), .ref (b2 16), .ref (b2 17), .ref (b2 18), .ref (b2 19), .ref (b2 20), .ref (b2 21), .ref (b2 22), .ref (b2 23), .ref (b2 24), .ref (b2 25), .ref (b2 26), .ref (b2 27), .ref (b2 28), .int gl, .int gh, .ref (b2 31), .ref (b2 32), .ref (b2 33), .ref (b2 34), .ref (b2 35), .ref (b2 36), .ref (b2 37), .ref (b2 38), .ref (b2 39), .ref (b2 40), .ref (b2 41), .ref (b2 42), .ref (b2 43), .ref (b2 44), .ref (b2 45), .ref (b2 46), .ref (b2 47), .int (nI mch), .int (nI mli), .ref (b2 50), .ref (b2 51), .int (nI mno), .ref (b2 53), .ref (b2 54), .ref (b2 55)])), ((b2 8), .inl (ca 0, 40, .inl A8)), ((b2 35), .inl (ca 0, 10, .inl A35)), ((b2 34), .inl (ca 0, 36, .inl A34)), ((b2 55), .inl (ca 0, 10240, .inl B55_3))] ∧ va_S A s.heap H locs ∧ lv_has ls 11 [(9, .int (nI z_.1)), (8, .int z_.2.2), (7, .int z_.2.1), (6, .int (nI n)), (5, .int s5), (4, .int lb), (3, .int (nI sx)), (0, .ref y), (1, .int v1), (2, .int v2)]) (fun (z_ : Nat × Int32 × Int32) => mq - z_.1) (fun z_ H locs ls hI ih50 => ?_) (0, (-1), 0) ⟨⟨Nat.zero_le _, oq_oi_0⟩, hP, hD, hS, lv_sub hl [0, 1, 2, 3, 4, 5, 6, 7, 8, 9] rfl⟩
      obtain ⟨kx, be, le_⟩ := z_
      dsimp only at hI ih50
      obtain ⟨⟨hkx, hoi⟩, hP, hD, hS, hl⟩ := hI
      refine lv_iload hx hb dX11_order_50 (lv_at hl 0 rfl) ?_
      refine lv_aload_n hx hb dX11_order_52 rfl (lv_at hl 7 rfl) ?_
      refine va_get (D := (dC, dI)) (ci := 11) (v := .int (nI mq)) (C := RX11) (T := TX11) (N := 56) hx hb hts inX11 hown hK hP 0 rfl rfl 5 (by decide) (hts _ mw_885) (fun _ h9 => h9) rfl dX11_order_53 ?_
      refine lv_icmp_ge (tgt := 125) hx hb dX11_order_56 (by decide) (fun c_5 => ?_) (fun c_5 => ?_)
      · have nc_5 : mq ≤ kx := (nI_leI (a := mq) (b := kx) (by omega) (by omega)).mp c_5
        obtain ⟨bq, ebx⟩ : ∃ q : Nat, q = oq_x (oq_W A34) (oq_N kd) (oq_b v1) mq (oq_S (oq_W A34) (oq_N kd) (oq_b v1) mq n) := ⟨_, rfl⟩
        have hbq : bq < mq := by rw [ebx]; exact (oq_S_x (oq_Wb hws) (oq_Kb hqk) hqk.1 (show n < mq by omega)).1
        have ebq := (oq_oi_e (lb := lb) (s5 := s5) (sx := sx) hoi hqk hws (by omega) (by omega)).trans (congrArg nI ebx.symm)
        subst ebq
        refine lv_iload hx hb dX11_order_125 (lv_at hl 4 rfl) ?_
        refine lv_aload_n hx hb dX11_order_127 rfl (lv_at hl 7 rfl) ?_
        refine lv_iload hx hb dX11_order_128 (lv_at hl 5 rfl) ?_
        refine lv_iload hx hb dX11_order_130 (lv_at hl 2 rfl) ?_
        have hPc := hP.sub (ws' := [(y, .inr (11, [.int (nI ml), .int (nI mb), .int (nI mp), .int (nI mx), .int (nI mr), .int (nI mq), .ref (b2 6), .ref (b2 7), .ref (b2 8), .ref (b2 9), .ref (b2 10), .ref (b2 11), .ref (b2 12), .ref (b2 13), .ref (b2 14), .ref (b2 15), .ref (b2 16), .ref (b2 17), .ref (b2 18), .ref (b2 19), .ref (b2 20), .ref (b2 21), .ref (b2 22), .ref (b2 23), .ref (b2 24), .ref (b2 25), .ref (b2 26), .ref (b2 27), .ref (b2 28), .int gl, .int gh, .ref (b2 31), .ref (b2 32), .ref (b2 33), .ref (b2 34), .ref (b2 35), .ref (b2 36), .ref (b2 37), .ref (b2 38), .ref (b2 39), .ref (b2 40), .ref (b2 41), .ref (b2 42), .ref (b2 43), .ref (b2 44), .ref (b2 45), .ref (b2 46), .ref (b2 47), .int (nI mch), .int (nI mli), .ref (b2 50), .ref (b2 51), .int (nI mno), .ref (b2 53), .ref (b2 54), .ref (b2 55)])), ((b2 8), .inl (ca 0, 40, .inl A8)), ((b2 35), .inl (ca 0, 10, .inl A35)), ((b2 34), .inl (ca 0, 36, .inl A34))]) [0, 1, 2, 3] rfl
        refine pc_i (va_runV (As := [.int lb, .int (nI bq)]) (rest := [.int s5]) ⟨hx, hb, hml, hown, hts⟩ (m_minutes l dC dI ca y b2 ml mb mp mx mr mq gl gh mch mli mno A8 A35 A34 lb bq kd (by first | assumption | omega | exact ⟨_, by omega, rfl⟩) (oq_la9 hm6 hor.2.1) (by omega) (by omega) (by first | assumption | omega | exact ⟨_, by omega, rfl⟩) (by first | assumption | omega | exact ⟨_, by omega, rfl⟩) hkq hqk hws) (⟨callB_of 2 hts (gd mw_1280) rfl rfl rfl (hts _ mw_8) (hts _ mw_1277) ds_X11_minutes ⟨Nat.le_of_ble_eq_true rfl, Nat.le_of_ble_eq_true rfl⟩, (hts _ mw_1279), (hts _ mp_64)⟩) (pu_V hPc hK hE (va_recv hK hPc (ci := 11) (q0 := 0) rfl rfl)) rfl rfl hl.1 rfl (lv_room (Nat.le_of_ble_eq_true rfl)) dX11_order_132 ⟨Nat.le_of_ble_eq_true rfl, Nat.le_of_ble_eq_true rfl⟩) (fun rv_6 hw_ => ?_)
        have hw_6 := hw_
        refine lv_iadd hx hb dX11_order_135 ?_
        refine lv_istore (lv' := [(5, .int (s5 + rv_6)), (9, .int (nI kx)), (8, .int le_), (7, .int (nI bq)), (6, .int (nI n)), (4, .int lb), (3, .int (nI sx)), (0, .ref y), (1, .int v1), (2, .int v2)]) hx hb dX11_order_136 hl (by decide) rfl (fun ls hl => ?_)
        refine lv_iload_n hx hb dX11_order_138 rfl (lv_at hl 6 rfl) ?_
        refine lv_iconst (v := 1) hx hb dX11_order_139 (by decide) ?_
        refine lv_iload hx hb dX11_order_140 (lv_at hl 3 rfl) ?_
        refine lv_ishl hx hb dX11_order_142 ?_
        refine lv_topi (fun y_ e_ => ?_)
        obtain rfl : y_ = (nI (2 ^ bq)) := e_.trans (tb_sh (by omega))
        refine lv_ior hx hb dX11_order_143 ?_
        refine lv_topi (fun y_ e_ => ?_)
        obtain rfl : y_ = (nI (sx ||| (2 ^ bq))) := e_.trans (tb_or _ _)
        refine lv_istore_n (lv' := [(3, .int (nI (sx ||| (2 ^ bq)))), (5, .int (s5 + rv_6)), (9, .int (nI kx)), (8, .int le_), (7, .int (nI bq)), (6, .int (nI n)), (4, .int lb), (0, .ref y), (1, .int v1), (2, .int v2)]) hx hb dX11_order_144 rfl hl (by decide) rfl (fun ls hl => ?_)
        refine lv_iload hx hb dX11_order_145 (lv_at hl 4 rfl) ?_
        refine lv_istore (lv' := [(4, .int (nI bq)), (3, .int (nI (sx ||| (2 ^ bq)))), (5, .int (s5 + rv_6)), (9, .int (nI kx)), (8, .int le_), (7, .int (nI bq)), (6, .int (nI n)), (0, .ref y), (1, .int v1), (2, .int v2)]) hx hb dX11_order_147 hl (by decide) rfl (fun ls hl => ?_)
        refine lv_iload hx hb dX11_order_149 (lv_at hl 6 rfl) ?_
        refine lv_iload_n hx hb dX11_order_151 rfl (lv_at hl 9 rfl) ?_
        refine lv_icmp_ne (tgt := 163) hx hb dX11_order_152 (by decide) (fun c_7 => ?_) (fun c_7 => ?_)
        · refine lv_iinc (v := (nI (n + 1))) (lv' := [(6, .int (nI (n + 1))), (4, .int (nI bq)), (3, .int (nI (sx ||| (2 ^ bq)))), (5, .int (s5 + rv_6)), (9, .int (nI kx)), (8, .int le_), (7, .int (nI bq)), (0, .ref y), (1, .int v1), (2, .int v2)]) hx hb dX11_order_163 hl (k := 6) rfl (nI_add (n) 1) (by decide) rfl (fun ls hl => ?_)
          refine lv_goto (tgt := 32) hx hb dX11_order_166 (by decide) ?_
          exact ih (n + 1, sx ||| (2 ^ bq), (nI bq), (s5 + rv_6)) _ _ _ (by omega) ⟨⟨by first | omega | (dsimp only; omega), oq_bo_lt hsx hbq, oq_or_s hor hqk hws (by first | omega | (dsimp only; omega)) ebx hw_6, oq_v2_s hv2 (by first | omega | (dsimp only; omega)) hm6 c_7⟩, hP, hD, hS, lv_sub hl [0, 3, 1, 2, 7, 8, 9] rfl⟩
        · refine lv_aload_n hx hb dX11_order_155 rfl (lv_at hl 7 rfl) ?_
          refine va_get (D := (dC, dI)) (ci := 11) (v := .ref (b2 35)) (C := RX11) (T := TX11) (N := 56) hx hb hts inX11 hown hK hP 0 rfl rfl 35 (by decide) (hts _ mw_915) (fun _ h9 => h9) rfl dX11_order_156 ?_
          refine lv_iload hx hb dX11_order_159 (lv_at hl 5 rfl) ?_
          refine va_iald hx hb hK hP 2 0 rfl rfl (vp_in_nI (show bq < 10 by omega) (by first | decide | omega)) dX11_order_161 ?_
          refine lv_topi (fun y_ e_ => ?_)
          obtain rfl : y_ = (A35 bq) := e_.trans (congrArg A35 (show ((nI bq) : Int32).toNatClampNeg = bq from nI_clamp (by omega)))
          refine W.widen (k := 0) (n := 0) (Nat.le_of_ble_eq_true rfl) (Nat.le_of_ble_eq_true rfl) ?_
          have hP9 : va_P (dC, dI) vwCl [(y, .inr (11, [.int (nI ml), .int (nI mb), .int (nI mp), .int (nI mx), .int (nI mr), .int (nI mq), .ref (b2 6), .ref (b2 7), .ref (b2 8), .ref (b2 9), .ref (b2 10), .ref (b2 11), .ref (b2 12), .ref (b2 13), .ref (b2 14), .ref (b2 15), .ref (b2 16), .ref (b2 17), .ref (b2 18), .ref (b2 19), .ref (b2 20), .ref (b2 21), .ref (b2 22), .ref (b2 23), .ref (b2 24), .ref (b2 25), .ref (b2 26), .ref (b2 27), .ref (b2 28), .int gl, .int gh, .ref (b2 31), .ref (b2 32), .ref (b2 33), .ref (b2 34), .ref (b2 35), .ref (b2 36), .ref (b2 37), .ref (b2 38), .ref (b2 39), .ref (b2 40), .ref (b2 41), .ref (b2 42), .ref (b2 43), .ref (b2 44), .ref (b2 45), .ref (b2 46), .ref (b2 47), .int (nI mch), .int (nI mli), .ref (b2 50), .ref (b2 51), .int (nI mno), .ref (b2 53), .ref (b2 54), .ref (b2 55)])), ((b2 8), .inl (ca 0, 40, .inl A8)), ((b2 35), .inl (ca 0, 10, .inl A35)), ((b2 34), .inl (ca 0, 36, .inl A34)), ((b2 55), .inl (ca 0, 10240, .inl B55_3))] H := va_P.sub hP [0, 1, 2, 3, 4] rfl
          have hD9 : va_D A [(y, .inr (11, [.int (nI ml), .int (nI mb), .int (nI mp), .int (nI mx), .int (nI mr), .int (nI mq), .ref (b2 6), .ref (b2 7), .ref (b2 8), .ref (b2 9), .ref (b2 10), .ref (b2 11), .ref (b2 12), .ref (b2 13), .ref (b2 14), .ref (b2 15), .ref (b2 16), .ref (b2 17), .ref (b2 18), .ref (b2 19), .ref (b2 20), .ref (b2 21), .ref (b2 22), .ref (b2 23), .ref (b2 24), .ref (b2 25), .ref (b2 26), .ref (b2 27), .ref (b2 28), .int gl, .int gh, .ref (b2 31), .ref (b2 32), .ref (b2 33), .ref (b2 34), .ref (b2 35), .ref (b2 36), .ref (b2 37), .ref (b2 38), .ref (b2 39), .ref (b2 40), .ref (b2 41), .ref (b2 42), .ref (b2 43), .ref (b2 44), .ref (b2 45), .ref (b2 46), .ref (b2 47), .int (nI mch), .int (nI mli), .ref (b2 50), .ref (b2 51), .int (nI mno), .ref (b2 53), .ref (b2 54), .ref (b2 55)])), ((b2 8), .inl (ca 0, 40, .inl A8)), ((b2 35), .inl (ca 0, 10, .inl A35)), ((b2 34), .inl (ca 0, 36, .inl A34)), ((b2 55), .inl (ca 0, 10240, .inl B55_3))] := va_D.sub hD [0, 1, 2, 3, 4] (by decide) rfl
          exact W.iret (v := (A35 bq)) hx hb hr (fun t ht hW => ⟨⟨(A35 bq), B55_3, rfl, (oq_A_i hm6 (show n < mq by omega) ebx c_7), by rw [ht]; exact hP9, hD9⟩, hS.F ht⟩) hS.2.2 dX11_order_162
      · have nc_5 : ¬ (mq ≤ kx) := fun h9 => c_5 ((nI_leI (a := mq) (b := kx) (by omega) (by omega)).mpr h9)
        refine lv_aload_n hx hb dX11_order_59 rfl (lv_at hl 7 rfl) ?_
        refine lv_iload_n hx hb dX11_order_60 rfl (lv_at hl 6 rfl) ?_
        refine lv_iload hx hb dX11_order_61 (lv_at hl 0 rfl) ?_
        refine lv_iload_n hx hb dX11_order_63 rfl (lv_at hl 8 rfl) ?_
        have hPc := hP.sub (ws' := [(y, .inr (11, [.int (nI ml), .int (nI mb), .int (nI mp), .int (nI mx), .int (nI mr), .int (nI mq), .ref (b2 6), .ref (b2 7), .ref (b2 8), .ref (b2 9), .ref (b2 10), .ref (b2 11), .ref (b2 12), .ref (b2 13), .ref (b2 14), .ref (b2 15), .ref (b2 16), .ref (b2 17), .ref (b2 18), .ref (b2 19), .ref (b2 20), .ref (b2 21), .ref (b2 22), .ref (b2 23), .ref (b2 24), .ref (b2 25), .ref (b2 26), .ref (b2 27), .ref (b2 28), .int gl, .int gh, .ref (b2 31), .ref (b2 32), .ref (b2 33), .ref (b2 34), .ref (b2 35), .ref (b2 36), .ref (b2 37), .ref (b2 38), .ref (b2 39), .ref (b2 40), .ref (b2 41), .ref (b2 42), .ref (b2 43), .ref (b2 44), .ref (b2 45), .ref (b2 46), .ref (b2 47), .int (nI mch), .int (nI mli), .ref (b2 50), .ref (b2 51), .int (nI mno), .ref (b2 53), .ref (b2 54), .ref (b2 55)])), ((b2 8), .inl (ca 0, 40, .inl A8)), ((b2 35), .inl (ca 0, 10, .inl A35))]) [0, 1, 2] rfl
        refine pc_i (va_runV (As := [.int (nI sx), .int (nI kx), .int v1]) (rest := []) ⟨hx, hb, hml, hown, hts⟩ (m_mayCome l dC dI ca y b2 ml mb mp mx mr mq gl gh mch mli mno A8 A35 sx kx v1 kd (by first | assumption | omega | exact ⟨_, by omega, rfl⟩) (by first | assumption | omega | exact ⟨_, by omega, rfl⟩) (by first | assumption | omega | exact ⟨_, by omega, rfl⟩) (by omega) (by first | assumption | omega | exact ⟨_, by omega, rfl⟩) hkq hqk) (⟨callB_of 3 hts (gd mw_1272) rfl rfl rfl (hts _ mw_8) (hts _ mw_1269) ds_X11_mayCome ⟨Nat.le_of_ble_eq_true rfl, Nat.le_of_ble_eq_true rfl⟩, (hts _ mw_1271), (hts _ mp_62)⟩) (pu_V hPc hK hE (va_recv hK hPc (ci := 11) (q0 := 0) rfl rfl)) rfl rfl hl.1 rfl (lv_room (Nat.le_of_ble_eq_true rfl)) dX11_order_64 ⟨Nat.le_of_ble_eq_true rfl, Nat.le_of_ble_eq_true rfl⟩) (fun rv_8 hw_ => ?_)
        have hw_8 := hw_
        refine lv_if_ne (tgt := 73) hx hb dX11_order_67 (by decide) (fun c_9 => ?_) (fun c_9 => ?_)
        · have hpk := oq_oi_p hor hqk (show kx < mq by omega) hw_8 c_9
          refine lv_aload_n hx hb dX11_order_73 rfl (lv_at hl 7 rfl) ?_
          refine lv_iload hx hb dX11_order_74 (lv_at hl 5 rfl) ?_
          refine lv_iload hx hb dX11_order_76 (lv_at hl 0 rfl) ?_
          have hPc := hP.sub (ws' := [(y, .inr (11, [.int (nI ml), .int (nI mb), .int (nI mp), .int (nI mx), .int (nI mr), .int (nI mq), .ref (b2 6), .ref (b2 7), .ref (b2 8), .ref (b2 9), .ref (b2 10), .ref (b2 11), .ref (b2 12), .ref (b2 13), .ref (b2 14), .ref (b2 15), .ref (b2 16), .ref (b2 17), .ref (b2 18), .ref (b2 19), .ref (b2 20), .ref (b2 21), .ref (b2 22), .ref (b2 23), .ref (b2 24), .ref (b2 25), .ref (b2 26), .ref (b2 27), .ref (b2 28), .int gl, .int gh, .ref (b2 31), .ref (b2 32), .ref (b2 33), .ref (b2 34), .ref (b2 35), .ref (b2 36), .ref (b2 37), .ref (b2 38), .ref (b2 39), .ref (b2 40), .ref (b2 41), .ref (b2 42), .ref (b2 43), .ref (b2 44), .ref (b2 45), .ref (b2 46), .ref (b2 47), .int (nI mch), .int (nI mli), .ref (b2 50), .ref (b2 51), .int (nI mno), .ref (b2 53), .ref (b2 54), .ref (b2 55)])), ((b2 8), .inl (ca 0, 40, .inl A8)), ((b2 35), .inl (ca 0, 10, .inl A35)), ((b2 34), .inl (ca 0, 36, .inl A34))]) [0, 1, 2, 3] rfl
          refine pc_i (va_runV (As := [.int lb, .int (nI kx)]) (rest := []) ⟨hx, hb, hml, hown, hts⟩ (m_minutes l dC dI ca y b2 ml mb mp mx mr mq gl gh mch mli mno A8 A35 A34 lb kx kd (by first | assumption | omega | exact ⟨_, by omega, rfl⟩) (oq_la9 hm6 hor.2.1) (by omega) (by omega) (by first | assumption | omega | exact ⟨_, by omega, rfl⟩) (by first | assumption | omega | exact ⟨_, by omega, rfl⟩) hkq hqk hws) (⟨callB_of 2 hts (gd mw_1280) rfl rfl rfl (hts _ mw_8) (hts _ mw_1277) ds_X11_minutes ⟨Nat.le_of_ble_eq_true rfl, Nat.le_of_ble_eq_true rfl⟩, (hts _ mw_1279), (hts _ mp_64)⟩) (pu_V hPc hK hE (va_recv hK hPc (ci := 11) (q0 := 0) rfl rfl)) rfl rfl hl.1 rfl (lv_room (Nat.le_of_ble_eq_true rfl)) dX11_order_78 ⟨Nat.le_of_ble_eq_true rfl, Nat.le_of_ble_eq_true rfl⟩) (fun rv_10 hw_ => ?_)
          have hw_10 := hw_
          refine lv_aload_n hx hb dX11_order_81 rfl (lv_at hl 7 rfl) ?_
          refine lv_iload_n hx hb dX11_order_82 rfl (lv_at hl 6 rfl) ?_
          refine lv_iconst (v := 1) hx hb dX11_order_83 (by decide) ?_
          refine lv_iload hx hb dX11_order_84 (lv_at hl 0 rfl) ?_
          refine lv_ishl hx hb dX11_order_86 ?_
          refine lv_topi (fun y_ e_ => ?_)
          obtain rfl : y_ = (nI (2 ^ kx)) := e_.trans (tb_sh (by omega))
          refine lv_ior hx hb dX11_order_87 ?_
          refine lv_topi (fun y_ e_ => ?_)
          obtain rfl : y_ = (nI (sx ||| (2 ^ kx))) := e_.trans (tb_or _ _)
          refine lv_iload hx hb dX11_order_88 (lv_at hl 0 rfl) ?_
          have hPc := hP.sub (ws' := [(y, .inr (11, [.int (nI ml), .int (nI mb), .int (nI mp), .int (nI mx), .int (nI mr), .int (nI mq), .ref (b2 6), .ref (b2 7), .ref (b2 8), .ref (b2 9), .ref (b2 10), .ref (b2 11), .ref (b2 12), .ref (b2 13), .ref (b2 14), .ref (b2 15), .ref (b2 16), .ref (b2 17), .ref (b2 18), .ref (b2 19), .ref (b2 20), .ref (b2 21), .ref (b2 22), .ref (b2 23), .ref (b2 24), .ref (b2 25), .ref (b2 26), .ref (b2 27), .ref (b2 28), .int gl, .int gh, .ref (b2 31), .ref (b2 32), .ref (b2 33), .ref (b2 34), .ref (b2 35), .ref (b2 36), .ref (b2 37), .ref (b2 38), .ref (b2 39), .ref (b2 40), .ref (b2 41), .ref (b2 42), .ref (b2 43), .ref (b2 44), .ref (b2 45), .ref (b2 46), .ref (b2 47), .int (nI mch), .int (nI mli), .ref (b2 50), .ref (b2 51), .int (nI mno), .ref (b2 53), .ref (b2 54), .ref (b2 55)])), ((b2 55), .inl (ca 0, 10240, .inl B55_3))]) [0, 4] rfl
          refine pc_i (va_runV (As := [.int (nI (sx ||| (2 ^ kx))), .int (nI kx)]) (rest := [.int rv_10]) ⟨hx, hb, hml, hown, hts⟩ (m_restOf l dC dI ca y b2 ml mb mp mx mr mq gl gh mch mli mno B55_3 (sx ||| (2 ^ kx)) kx (by first | assumption | omega | exact ⟨_, by omega, rfl⟩) (or_10 (by omega) (by omega)) (by first | assumption | omega | exact ⟨_, by omega, rfl⟩)) (⟨callB_of 2 hts (gd mw_1284) rfl rfl rfl (hts _ mw_8) (hts _ mw_1281) ds_X11_restOf ⟨Nat.le_of_ble_eq_true rfl, Nat.le_of_ble_eq_true rfl⟩, (hts _ mw_1283), (hts _ mp_65)⟩) (pu_V hPc hK hE (va_recv hK hPc (ci := 11) (q0 := 0) rfl rfl)) rfl rfl hl.1 rfl (lv_room (Nat.le_of_ble_eq_true rfl)) dX11_order_90 ⟨Nat.le_of_ble_eq_true rfl, Nat.le_of_ble_eq_true rfl⟩) (fun rv_11 hw_ => ?_)
          have hw_11 := hw_
          refine lv_iadd hx hb dX11_order_93 ?_
          refine lv_istore (lv' := [(10, .int (rv_10 + rv_11)), (9, .int (nI kx)), (8, .int le_), (7, .int be), (6, .int (nI n)), (5, .int s5), (4, .int lb), (3, .int (nI sx)), (0, .ref y), (1, .int v1), (2, .int v2)]) hx hb dX11_order_94 hl (by decide) rfl (fun ls hl => ?_)
          refine lv_iload hx hb dX11_order_96 (lv_at hl 3 rfl) ?_
          refine lv_if_lt (tgt := 111) hx hb dX11_order_98 (by decide) (fun c_12 => ?_) (fun c_12 => ?_)
          · refine lv_iload hx hb dX11_order_111 (lv_at hl 1 rfl) ?_
            refine lv_istore (lv' := [(7, .int (nI kx)), (10, .int (rv_10 + rv_11)), (9, .int (nI kx)), (8, .int le_), (6, .int (nI n)), (5, .int s5), (4, .int lb), (3, .int (nI sx)), (0, .ref y), (1, .int v1), (2, .int v2)]) hx hb dX11_order_113 hl (by decide) rfl (fun ls hl => ?_)
            refine lv_iload hx hb dX11_order_115 (lv_at hl 1 rfl) ?_
            refine lv_istore (lv' := [(8, .int (rv_10 + rv_11)), (7, .int (nI kx)), (10, .int (rv_10 + rv_11)), (9, .int (nI kx)), (6, .int (nI n)), (5, .int s5), (4, .int lb), (3, .int (nI sx)), (0, .ref y), (1, .int v1), (2, .int v2)]) hx hb dX11_order_117 hl (by decide) rfl (fun ls hl => ?_)
            refine lv_iinc (v := (nI (kx + 1))) (lv' := [(9, .int (nI (kx + 1))), (8, .int (rv_10 + rv_11)), (7, .int (nI kx)), (10, .int (rv_10 + rv_11)), (6, .int (nI n)), (5, .int s5), (4, .int lb), (3, .int (nI sx)), (0, .ref y), (1, .int v1), (2, .int v2)]) hx hb dX11_order_119 hl (k := 3) rfl (nI_add (kx) 1) (by decide) rfl (fun ls hl => ?_)
            refine lv_goto (tgt := 50) hx hb dX11_order_122 (by decide) ?_
            exact ih50 (kx + 1, (nI kx), (rv_10 + rv_11)) _ _ _ (by omega) ⟨⟨by first | omega | (dsimp only; omega), oq_oi_y hoi hor hqk hws (by first | omega | (dsimp only; omega)) hpk (oq_oe hor hqk hrt hsx (by first | omega | (dsimp only; omega)) hpk hw_10 hw_11) (Or.inl c_12)⟩, hP, hD, hS, lv_sub hl [0, 1, 2, 4, 5, 6, 7, 8, 9, 10] rfl⟩
          · refine lv_iload hx hb dX11_order_101 (lv_at hl 0 rfl) ?_
            refine lv_iload hx hb dX11_order_103 (lv_at hl 2 rfl) ?_
            refine lv_icmp_lt (tgt := 111) hx hb dX11_order_105 (by decide) (fun c_13 => ?_) (fun c_13 => ?_)
            · refine lv_iload hx hb dX11_order_111 (lv_at hl 1 rfl) ?_
              refine lv_istore (lv' := [(7, .int (nI kx)), (10, .int (rv_10 + rv_11)), (9, .int (nI kx)), (8, .int le_), (6, .int (nI n)), (5, .int s5), (4, .int lb), (3, .int (nI sx)), (0, .ref y), (1, .int v1), (2, .int v2)]) hx hb dX11_order_113 hl (by decide) rfl (fun ls hl => ?_)
              refine lv_iload hx hb dX11_order_115 (lv_at hl 1 rfl) ?_
              refine lv_istore (lv' := [(8, .int (rv_10 + rv_11)), (7, .int (nI kx)), (10, .int (rv_10 + rv_11)), (9, .int (nI kx)), (6, .int (nI n)), (5, .int s5), (4, .int lb), (3, .int (nI sx)), (0, .ref y), (1, .int v1), (2, .int v2)]) hx hb dX11_order_117 hl (by decide) rfl (fun ls hl => ?_)
              refine lv_iinc (v := (nI (kx + 1))) (lv' := [(9, .int (nI (kx + 1))), (8, .int (rv_10 + rv_11)), (7, .int (nI kx)), (10, .int (rv_10 + rv_11)), (6, .int (nI n)), (5, .int s5), (4, .int lb), (3, .int (nI sx)), (0, .ref y), (1, .int v1), (2, .int v2)]) hx hb dX11_order_119 hl (k := 3) rfl (nI_add (kx) 1) (by decide) rfl (fun ls hl => ?_)
              refine lv_goto (tgt := 50) hx hb dX11_order_122 (by decide) ?_
              exact ih50 (kx + 1, (nI kx), (rv_10 + rv_11)) _ _ _ (by omega) ⟨⟨by first | omega | (dsimp only; omega), oq_oi_y hoi hor hqk hws (by first | omega | (dsimp only; omega)) hpk (oq_oe hor hqk hrt hsx (by first | omega | (dsimp only; omega)) hpk hw_10 hw_11) (Or.inr c_13)⟩, hP, hD, hS, lv_sub hl [0, 1, 2, 4, 5, 6, 7, 8, 9, 10] rfl⟩
            · refine lv_goto (tgt := 119) hx hb dX11_order_108 (by decide) ?_
              refine lv_iinc (v := (nI (kx + 1))) (lv' := [(9, .int (nI (kx + 1))), (10, .int (rv_10 + rv_11)), (8, .int le_), (7, .int be), (6, .int (nI n)), (5, .int s5), (4, .int lb), (3, .int (nI sx)), (0, .ref y), (1, .int v1), (2, .int v2)]) hx hb dX11_order_119 hl (k := 1) rfl (nI_add (kx) 1) (by decide) rfl (fun ls hl => ?_)
              refine lv_goto (tgt := 50) hx hb dX11_order_122 (by decide) ?_
              exact ih50 (kx + 1, be, le_) _ _ _ (by omega) ⟨⟨by first | omega | (dsimp only; omega), oq_oi_g hoi hor hqk hws (by first | omega | (dsimp only; omega)) hpk (oq_oe hor hqk hrt hsx (by first | omega | (dsimp only; omega)) hpk hw_10 hw_11) c_12 c_13⟩, hP, hD, hS, lv_sub hl [0, 2, 3, 4, 5, 6, 7, 8, 9, 10] rfl⟩
        · refine lv_goto (tgt := 119) hx hb dX11_order_70 (by decide) ?_
          refine lv_iinc (v := (nI (kx + 1))) (lv' := [(9, .int (nI (kx + 1))), (8, .int le_), (7, .int be), (6, .int (nI n)), (5, .int s5), (4, .int lb), (3, .int (nI sx)), (0, .ref y), (1, .int v1), (2, .int v2)]) hx hb dX11_order_119 hl (k := 0) rfl (nI_add (kx) 1) (by decide) rfl (fun ls hl => ?_)
          refine lv_goto (tgt := 50) hx hb dX11_order_122 (by decide) ?_
          exact ih50 (kx + 1, be, le_) _ _ _ (by omega) ⟨⟨by first | omega | (dsimp only; omega), oq_oi_n hoi hor hqk (by first | omega | (dsimp only; omega)) hw_8 c_9⟩, hP, hD, hS, lv_sub hl [0, 1, 2, 3, 4, 5, 6, 7, 8, 9] rfl⟩
  · refine lv_iconst (v := (-1)) hx hb dX11_order_14 (by decide) ?_
    refine W.widen (k := 0) (n := 0) (Nat.le_of_ble_eq_true rfl) (Nat.le_of_ble_eq_true rfl) ?_
    have hP9 : va_P (dC, dI) vwCl [(y, .inr (11, [.int (nI ml), .int (nI mb), .int (nI mp), .int (nI mx), .int (nI mr), .int (nI mq), .ref (b2 6), .ref (b2 7), .ref (b2 8), .ref (b2 9), .ref (b2 10), .ref (b2 11), .ref (b2 12), .ref (b2 13), .ref (b2 14), .ref (b2 15), .ref (b2 16), .ref (b2 17), .ref (b2 18), .ref (b2 19), .ref (b2 20), .ref (b2 21), .ref (b2 22), .ref (b2 23), .ref (b2 24), .ref (b2 25), .ref (b2 26), .ref (b2 27), .ref (b2 28), .int gl, .int gh, .ref (b2 31), .ref (b2 32), .ref (b2 33), .ref (b2 34), .ref (b2 35), .ref (b2 36), .ref (b2 37), .ref (b2 38), .ref (b2 39), .ref (b2 40), .ref (b2 41), .ref (b2 42), .ref (b2 43), .ref (b2 44), .ref (b2 45), .ref (b2 46), .ref (b2 47), .int (nI mch), .int (nI mli), .ref (b2 50), .ref (b2 51), .int (nI mno), .ref (b2 53), .ref (b2 54), .ref (b2 55)])), ((b2 8), .inl (ca 0, 40, .inl A8)), ((b2 35), .inl (ca 0, 10, .inl A35)), ((b2 34), .inl (ca 0, 36, .inl A34)), ((b2 55), .inl (ca 0, 10240, .inl A55))] s.heap := va_P.sub hP [0, 1, 2, 3, 4] rfl
    have hD9 : va_D A [(y, .inr (11, [.int (nI ml), .int (nI mb), .int (nI mp), .int (nI mx), .int (nI mr), .int (nI mq), .ref (b2 6), .ref (b2 7), .ref (b2 8), .ref (b2 9), .ref (b2 10), .ref (b2 11), .ref (b2 12), .ref (b2 13), .ref (b2 14), .ref (b2 15), .ref (b2 16), .ref (b2 17), .ref (b2 18), .ref (b2 19), .ref (b2 20), .ref (b2 21), .ref (b2 22), .ref (b2 23), .ref (b2 24), .ref (b2 25), .ref (b2 26), .ref (b2 27), .ref (b2 28), .int gl, .int gh, .ref (b2 31), .ref (b2 32), .ref (b2 33), .ref (b2 34), .ref (b2 35), .ref (b2 36), .ref (b2 37), .ref (b2 38), .ref (b2 39), .ref (b2 40), .ref (b2 41), .ref (b2 42), .ref (b2 43), .ref (b2 44), .ref (b2 45), .ref (b2 46), .ref (b2 47), .int (nI mch), .int (nI mli), .ref (b2 50), .ref (b2 51), .int (nI mno), .ref (b2 53), .ref (b2 54), .ref (b2 55)])), ((b2 8), .inl (ca 0, 40, .inl A8)), ((b2 35), .inl (ca 0, 10, .inl A35)), ((b2 34), .inl (ca 0, 36, .inl A34)), ((b2 55), .inl (ca 0, 10240, .inl A55))] := va_D.sub hD [0, 1, 2, 3, 4] (by decide) rfl
    exact W.iret (v := (-1)) hx hb hr (fun t ht hW => ⟨⟨(-1), A55, rfl, (oq_A_o hm6 c_2), by rw [ht]; exact hP9, hD9⟩, hS.F ht⟩) hS.2.2 dX11_order_15
