/-! ===== the kettle's order, in naturals ===== -/
/-- the least of the first n -/
def oq_mn (f : Nat → Nat) : Nat → Nat
  | 0 => 2147483647
  | n + 1 => min (oq_mn f n) (f n)
theorem oq_mn_le (f : Nat → Nat) : ∀ {n k : Nat}, k < n → oq_mn f n ≤ f k
  | 0, k, h => absurd h (Nat.not_lt_zero k)
  | n + 1, k, h => by
    by_cases e : k = n
    · subst e; exact Nat.min_le_right _ _
    · exact Nat.le_trans (Nat.min_le_left _ _) (oq_mn_le f (by omega))
theorem oq_mn_at (f : Nat → Nat) : ∀ n : Nat, oq_mn f n = 2147483647 ∨ ∃ k, k < n ∧ oq_mn f n = f k
  | 0 => Or.inl rfl
  | n + 1 => by
    have h1 : oq_mn f (n + 1) = min (oq_mn f n) (f n) := rfl
    rcases Nat.le_total (oq_mn f n) (f n) with h | h
    · rw [h1, Nat.min_eq_left h]
      rcases oq_mn_at f n with h2 | ⟨k, hk, h2⟩
      · exact Or.inl h2
      · exact Or.inr ⟨k, by omega, h2⟩
    · rw [h1, Nat.min_eq_right h]
      exact Or.inr ⟨n, by omega, rfl⟩
theorem oq_mn_cg {f g : Nat → Nat} : ∀ {n : Nat}, (∀ k, k < n → f k = g k) → oq_mn f n = oq_mn g n
  | 0, _ => rfl
  | n + 1, h => by
    show min (oq_mn f n) (f n) = min (oq_mn g n) (g n)
    rw [oq_mn_cg (fun k hk => h k (by omega)), h n (by omega)]
theorem oq_mn_top (f : Nat → Nat) : ∀ n : Nat, oq_mn f n ≤ 2147483647
  | 0 => Nat.le_refl _
  | n + 1 => Nat.le_trans (Nat.min_le_left _ _) (oq_mn_top f n)
/-- all together -/
def oq_T (c : Nat → Nat) : Nat → Nat
  | 0 => 0
  | n + 1 => oq_T c n + c n
theorem oq_T_cg {c d : Nat → Nat} : ∀ {n : Nat}, (∀ k, k < n → c k = d k) → oq_T c n = oq_T d n
  | 0, _ => rfl
  | n + 1, h => by
    show oq_T c n + c n = oq_T d n + d n
    rw [oq_T_cg (fun k hk => h k (by omega)), h n (by omega)]
/-- one of a kind fewer -/
def oq_d (c : Nat → Nat) (k : Nat) : Nat → Nat := fun j => if j = k then c j - 1 else c j
theorem oq_d_s (c : Nat → Nat) (k : Nat) : oq_d c k k = c k - 1 := if_pos rfl
theorem oq_d_n {c : Nat → Nat} {j k : Nat} (h : ¬ j = k) : oq_d c k j = c j := if_neg h
theorem oq_d_le (c : Nat → Nat) (k j : Nat) : oq_d c k j ≤ c j := by
  by_cases e : j = k
  · subst e; rw [oq_d_s]; omega
  · rw [oq_d_n e]; omega
theorem oq_T_d {c : Nat → Nat} {k : Nat} (h : 0 < c k) : ∀ {n : Nat}, k < n → oq_T (oq_d c k) n + 1 = oq_T c n
  | 0, hk => absurd hk (Nat.not_lt_zero k)
  | n + 1, hk => by
    show oq_T (oq_d c k) n + oq_d c k n + 1 = oq_T c n + c n
    by_cases e : n = k
    · subst e
      rw [oq_T_cg (c := oq_d c n) (d := c) (fun j hj => oq_d_n (by omega)), oq_d_s]
      omega
    · have h1 := oq_T_d h (n := n) (by omega)
      rw [oq_d_n e]
      omega
theorem oq_T6 (c : Nat → Nat) : oq_T c 6 = c 0 + c 1 + c 2 + c 3 + c 4 + c 5 := by
  show 0 + c 0 + c 1 + c 2 + c 3 + c 4 + c 5 = _
  omega
/-- may one of kind k come, where c wait -/
def oq_may (b : Bool) (c : Nat → Nat) (k : Nat) : Bool := decide (0 < c k ∧ (¬ k = 4 ∨ b = false ∨ (c 0 = 0 ∧ c 1 = 0 ∧ c 2 = 0 ∧ c 3 = 0 ∧ c 5 = 0)))
theorem oq_may_i {b : Bool} {c : Nat → Nat} {k : Nat} : oq_may b c k = true ↔ (0 < c k ∧ (k = 4 → b = true → ∀ j, j < 6 → ¬ j = 4 → c j = 0)) := by
  unfold oq_may
  rw [decide_eq_true_iff]
  refine and_congr_right (fun _ => ⟨fun h h1 h2 j hj h4 => ?_, fun h => ?_⟩)
  · rcases h with h | h | ⟨e0, e1, e2, e3, e5⟩
    · exact absurd h1 h
    · rw [h2] at h; cases h
    · have hc : j = 0 ∨ j = 1 ∨ j = 2 ∨ j = 3 ∨ j = 5 := by omega
      rcases hc with rfl | rfl | rfl | rfl | rfl <;> assumption
  · by_cases h1 : k = 4
    · cases b with
      | false => exact Or.inr (Or.inl rfl)
      | true => exact Or.inr (Or.inr ⟨h h1 rfl 0 (by decide) (by decide), h h1 rfl 1 (by decide) (by decide), h h1 rfl 2 (by decide) (by decide), h h1 rfl 3 (by decide) (by decide), h h1 rfl 5 (by decide) (by decide)⟩)
    · exact Or.inl h1
theorem oq_may_ex {b : Bool} {c : Nat → Nat} (h : 0 < oq_T c 6) : ∃ k, k < 6 ∧ oq_may b c k = true := by
  by_cases e : ∃ j, j < 6 ∧ ¬ j = 4 ∧ 0 < c j
  · obtain ⟨j, hj, h4, hc⟩ := e
    exact ⟨j, hj, oq_may_i.mpr ⟨hc, fun h9 => absurd h9 h4⟩⟩
  · have hz : ∀ j, j < 6 → ¬ j = 4 → c j = 0 := fun j hj h4 => by
      by_cases hc : c j = 0
      · exact hc
      · exact absurd ⟨j, hj, h4, by omega⟩ e
    refine ⟨4, by decide, oq_may_i.mpr ⟨?_, fun _ _ => hz⟩⟩
    rw [oq_T6, hz 0 (by decide) (by decide), hz 1 (by decide) (by decide), hz 2 (by decide) (by decide), hz 3 (by decide) (by decide), hz 5 (by decide) (by decide)] at h
    omega
theorem oq_may_cg {b : Bool} {c d : Nat → Nat} (h : ∀ k, k < 6 → c k = d k) {k : Nat} (hk : k < 6) : oq_may b c k = oq_may b d k := by
  have h1 : ∀ {c d : Nat → Nat}, (∀ k, k < 6 → c k = d k) → oq_may b c k = true → oq_may b d k = true := fun h hm => by
    obtain ⟨h2, h3⟩ := oq_may_i.mp hm
    exact oq_may_i.mpr ⟨h k hk ▸ h2, fun h4 h5 j hj hn => h j hj ▸ h3 h4 h5 j hj hn⟩
  exact Bool.eq_iff_iff.mpr ⟨h1 h, h1 (fun k hk => (h k hk).symm)⟩
/-- the least minutes behind a, where n wait, c of each kind -/
def oq_R (W : Nat → Nat → Nat) (b : Bool) : Nat → (Nat → Nat) → Nat → Nat
  | 0, _, _ => 0
  | n + 1, c, a => oq_mn (fun k => if oq_may b c k = true then W a k + oq_R W b n (oq_d c k) k else 2147483647) 6
def oq_V (W : Nat → Nat → Nat) (b : Bool) (c : Nat → Nat) (a : Nat) : Nat := oq_R W b (oq_T c 6) c a
theorem oq_R_le {W : Nat → Nat → Nat} {b : Bool} {n : Nat} {c : Nat → Nat} {a k : Nat} (hk : k < 6) (hm : oq_may b c k = true) : oq_R W b (n + 1) c a ≤ W a k + oq_R W b n (oq_d c k) k := by
  have h : oq_R W b (n + 1) c a ≤ (if oq_may b c k = true then W a k + oq_R W b n (oq_d c k) k else 2147483647) := oq_mn_le (fun k => if oq_may b c k = true then W a k + oq_R W b n (oq_d c k) k else 2147483647) hk
  rw [if_pos hm] at h
  exact h
theorem oq_R_cg {W : Nat → Nat → Nat} {b : Bool} : ∀ (n : Nat) {c d : Nat → Nat} (a : Nat), (∀ k, k < 6 → c k = d k) → oq_R W b n c a = oq_R W b n d a
  | 0, _, _, _, _ => rfl
  | n + 1, c, d, a, h => by
    show oq_mn _ 6 = oq_mn _ 6
    refine oq_mn_cg (fun k hk => ?_)
    show (if oq_may b c k = true then W a k + oq_R W b n (oq_d c k) k else 2147483647) = (if oq_may b d k = true then W a k + oq_R W b n (oq_d d k) k else 2147483647)
    rw [oq_may_cg h hk, oq_R_cg n (c := oq_d c k) (d := oq_d d k) k (fun j hj => by
      by_cases e : j = k
      · subst e; rw [oq_d_s, oq_d_s, h j hj]
      · rw [oq_d_n e, oq_d_n e, h j hj])]
theorem oq_V_cg {W : Nat → Nat → Nat} {b : Bool} {c d : Nat → Nat} {a : Nat} (h : ∀ k, k < 6 → c k = d k) : oq_V W b c a = oq_V W b d a := by
  unfold oq_V
  rw [oq_T_cg h, oq_R_cg _ _ h]
theorem oq_R_bd {W : Nat → Nat → Nat} {b : Bool} (hW : ∀ a k, W a k ≤ 600) : ∀ (n : Nat) (c : Nat → Nat) (a : Nat), oq_T c 6 = n → oq_R W b n c a ≤ 600 * n
  | 0, _, _, _ => Nat.le_refl _
  | n + 1, c, a, h => by
    obtain ⟨k, hk, hm⟩ := oq_may_ex (b := b) (c := c) (by omega)
    have h1 := oq_T_d (oq_may_i.mp hm).1 hk
    have h2 := oq_R_bd (b := b) hW n (oq_d c k) k (by omega)
    have h3 := oq_R_le (W := W) (n := n) (a := a) hk hm
    have h4 := hW a k
    omega
theorem oq_V_bd {W : Nat → Nat → Nat} {b : Bool} (hW : ∀ a k, W a k ≤ 600) (c : Nat → Nat) (a : Nat) : oq_V W b c a ≤ 600 * oq_T c 6 := oq_R_bd hW _ c a rfl
theorem oq_V_0 {W : Nat → Nat → Nat} {b : Bool} {c : Nat → Nat} {a : Nat} (h : oq_T c 6 = 0) : oq_V W b c a = 0 := by
  unfold oq_V
  rw [h]
  rfl
theorem oq_V_le {W : Nat → Nat → Nat} {b : Bool} {c : Nat → Nat} {a k : Nat} (hk : k < 6) (hm : oq_may b c k = true) : oq_V W b c a ≤ W a k + oq_V W b (oq_d c k) k := by
  unfold oq_V
  rw [← oq_T_d (oq_may_i.mp hm).1 hk]
  exact oq_R_le hk hm
theorem oq_V_mn {W : Nat → Nat → Nat} {b : Bool} {c : Nat → Nat} {a : Nat} (h : 0 < oq_T c 6) : oq_V W b c a = oq_mn (fun k => if oq_may b c k = true then W a k + oq_V W b (oq_d c k) k else 2147483647) 6 := by
  obtain ⟨n, hn⟩ : ∃ n, oq_T c 6 = n + 1 := ⟨oq_T c 6 - 1, by omega⟩
  unfold oq_V
  rw [hn]
  show oq_mn _ 6 = oq_mn _ 6
  refine oq_mn_cg (fun k hk => ?_)
  show (if oq_may b c k = true then W a k + oq_R W b n (oq_d c k) k else 2147483647) = (if oq_may b c k = true then W a k + oq_R W b (oq_T (oq_d c k) 6) (oq_d c k) k else 2147483647)
  by_cases hm : oq_may b c k = true
  · have h1 := oq_T_d (oq_may_i.mp hm).1 hk
    rw [if_pos hm, if_pos hm, show oq_T (oq_d c k) 6 = n by omega]
  · rw [if_neg hm, if_neg hm]
theorem oq_V_ex {W : Nat → Nat → Nat} {b : Bool} (hW : ∀ a k, W a k ≤ 600) {c : Nat → Nat} {a : Nat} (h : 0 < oq_T c 6) (hT : oq_T c 6 ≤ 10) : ∃ k, k < 6 ∧ oq_may b c k = true ∧ oq_V W b c a = W a k + oq_V W b (oq_d c k) k := by
  have h0 := oq_V_bd (b := b) hW c a
  rcases oq_mn_at (fun k => if oq_may b c k = true then W a k + oq_V W b (oq_d c k) k else 2147483647) 6 with h1 | ⟨k, hk, h1⟩
  · rw [← oq_V_mn h] at h1; omega
  · have h2 : oq_V W b c a = (if oq_may b c k = true then W a k + oq_V W b (oq_d c k) k else 2147483647) := (oq_V_mn h).trans h1
    by_cases hm : oq_may b c k = true
    · rw [if_pos hm] at h2; exact ⟨k, hk, hm, h2⟩
    · rw [if_neg hm] at h2; omega
/-- of those among the first q that aren't used, how many are of kind k -/
def oq_c (K : Nat → Nat) (u : Nat → Bool) : Nat → Nat → Nat
  | 0, _ => 0
  | n + 1, k => oq_c K u n k + (if u n = false ∧ K n = k then 1 else 0)
theorem oq_c_s (K : Nat → Nat) (u : Nat → Bool) (n k : Nat) : oq_c K u (n + 1) k = oq_c K u n k + (if u n = false ∧ K n = k then 1 else 0) := rfl
theorem oq_c_cg {K : Nat → Nat} {u v : Nat → Bool} {k : Nat} : ∀ {n : Nat}, (∀ i, i < n → u i = v i) → oq_c K u n k = oq_c K v n k
  | 0, _ => rfl
  | n + 1, h => by rw [oq_c_s, oq_c_s, oq_c_cg (fun i hi => h i (by omega)), h n (by omega)]
theorem oq_c_pos {K : Nat → Nat} {u : Nat → Bool} {k : Nat} : ∀ {n : Nat}, 0 < oq_c K u n k → ∃ i, i < n ∧ u i = false ∧ K i = k
  | 0, h => absurd h (Nat.not_lt_zero _)
  | n + 1, h => by
    by_cases e : u n = false ∧ K n = k
    · exact ⟨n, by omega, e⟩
    · rw [oq_c_s, if_neg e] at h
      obtain ⟨i, hi, h2⟩ := oq_c_pos (n := n) (by omega)
      exact ⟨i, by omega, h2⟩
theorem oq_c_in {K : Nat → Nat} {u : Nat → Bool} {i : Nat} (hu : u i = false) : ∀ {n : Nat}, i < n → 0 < oq_c K u n (K i)
  | 0, h => absurd h (Nat.not_lt_zero _)
  | n + 1, h => by
    rw [oq_c_s]
    by_cases e : i = n
    · subst e; rw [if_pos ⟨hu, rfl⟩]; omega
    · have h1 := oq_c_in (K := K) hu (n := n) (by omega); omega
/-- one more used -/
def oq_u (u : Nat → Bool) (i : Nat) : Nat → Bool := fun j => if j = i then true else u j
theorem oq_u_s (u : Nat → Bool) (i : Nat) : oq_u u i i = true := if_pos rfl
theorem oq_u_n {u : Nat → Bool} {i j : Nat} (h : ¬ j = i) : oq_u u i j = u j := if_neg h
theorem oq_c_u {K : Nat → Nat} {u : Nat → Bool} {i : Nat} (hu : u i = false) (k : Nat) : ∀ {n : Nat}, i < n → oq_c K (oq_u u i) n k = oq_d (oq_c K u n) (K i) k
  | 0, h => absurd h (Nat.not_lt_zero _)
  | n + 1, h => by
    rw [oq_c_s]
    by_cases e : i = n
    · subst e
      rw [oq_c_cg (u := oq_u u i) (v := u) (fun j hj => oq_u_n (by omega)), oq_u_s, if_neg (fun h9 => absurd h9.1 (by decide))]
      by_cases ek : k = K i
      · subst ek; rw [oq_d_s, oq_c_s, if_pos ⟨hu, rfl⟩]; omega
      · rw [oq_d_n ek, oq_c_s, if_neg (fun h9 => ek h9.2.symm)]
    · have h1 := oq_c_u (K := K) hu k (n := n) (by omega)
      have h2 := oq_c_in (K := K) hu (n := n) (by omega)
      rw [oq_u_n (fun h9 => e h9.symm), h1]
      by_cases ek : k = K i
      · subst ek; rw [oq_d_s, oq_d_s, oq_c_s]; omega
      · rw [oq_d_n ek, oq_d_n ek, oq_c_s]
theorem oq_T_1 {f g : Nat → Nat} {x : Nat} (hx : x < 6) (h : ∀ k, k < 6 → g k = f k + (if x = k then 1 else 0)) : oq_T g 6 = oq_T f 6 + 1 := by
  rw [oq_T6, oq_T6, h 0 (by decide), h 1 (by decide), h 2 (by decide), h 3 (by decide), h 4 (by decide), h 5 (by decide)]
  have hc : x = 0 ∨ x = 1 ∨ x = 2 ∨ x = 3 ∨ x = 4 ∨ x = 5 := by omega
  rcases hc with rfl | rfl | rfl | rfl | rfl | rfl <;> simp <;> omega
theorem oq_c_T {K : Nat → Nat} {u : Nat → Bool} : ∀ {n : Nat}, (∀ i, i < n → K i < 6) → oq_T (oq_c K u n) 6 + tb_ct u n = n
  | 0, _ => rfl
  | n + 1, h => by
    have h1 := oq_c_T (K := K) (u := u) (n := n) (fun i hi => h i (by omega))
    show oq_T (oq_c K u (n + 1)) 6 + (tb_ct u n + (if u n then 1 else 0)) = n + 1
    cases hu : u n with
    | false =>
      rw [oq_T_1 (f := oq_c K u n) (x := K n) (h n (by omega)) (fun k _ => by
        rw [oq_c_s]
        by_cases ek : K n = k
        · rw [if_pos ⟨hu, ek⟩, if_pos ek]
        · rw [if_neg (fun h9 => ek h9.2), if_neg ek])]
      simp; omega
    | true =>
      rw [oq_T_cg (c := oq_c K u (n + 1)) (d := oq_c K u n) (fun k _ => by rw [oq_c_s, if_neg (fun h9 => by rw [hu] at h9; cases h9.1)]; rfl)]
      simp; omega
/-! the states of the class: one digit a kind -/
def oq_s (m : Nat → Nat) : Nat → Nat
  | 0 => 1
  | n + 1 => oq_s m n * (m n + 1)
def oq_E (m c : Nat → Nat) : Nat → Nat
  | 0 => 0
  | n + 1 => oq_E m c n + c n * oq_s m n
theorem oq_s_pos (m : Nat → Nat) : ∀ n : Nat, 0 < oq_s m n
  | 0 => Nat.one_pos
  | n + 1 => Nat.mul_pos (oq_s_pos m n) (Nat.succ_pos _)
theorem oq_s_le (m : Nat → Nat) {k : Nat} : ∀ {n : Nat}, k ≤ n → oq_s m k ≤ oq_s m n
  | 0, h => by rw [Nat.le_zero.mp h]; exact Nat.le_refl _
  | n + 1, h => by
    by_cases e : k = n + 1
    · subst e; exact Nat.le_refl _
    · exact Nat.le_trans (oq_s_le m (n := n) (by omega)) (Nat.le_mul_of_pos_right _ (Nat.succ_pos _))
theorem oq_s_cg {m d : Nat → Nat} : ∀ {n : Nat}, (∀ k, k < n → m k = d k) → oq_s m n = oq_s d n
  | 0, _ => rfl
  | n + 1, h => by
    show oq_s m n * (m n + 1) = oq_s d n * (d n + 1)
    rw [oq_s_cg (fun k hk => h k (by omega)), h n (by omega)]
theorem oq_E_cg {m c d : Nat → Nat} : ∀ {n : Nat}, (∀ k, k < n → c k = d k) → oq_E m c n = oq_E m d n
  | 0, _ => rfl
  | n + 1, h => by
    show oq_E m c n + c n * oq_s m n = oq_E m d n + d n * oq_s m n
    rw [oq_E_cg (fun k hk => h k (by omega)), h n (by omega)]
theorem oq_E_lt {m c : Nat → Nat} : ∀ {n : Nat}, (∀ k, k < n → c k ≤ m k) → oq_E m c n < oq_s m n
  | 0, _ => Nat.one_pos
  | n + 1, h => by
    have h1 := oq_E_lt (m := m) (c := c) (n := n) (fun k hk => h k (by omega))
    have h2 := Nat.mul_le_mul_right (oq_s m n) (h n (by omega))
    show oq_E m c n + c n * oq_s m n < oq_s m n * (m n + 1)
    rw [Nat.mul_add, Nat.mul_one, Nat.mul_comm (oq_s m n) (m n)]
    omega
theorem oq_E_max (m : Nat → Nat) : ∀ n : Nat, oq_E m m n + 1 = oq_s m n
  | 0 => rfl
  | n + 1 => by
    have h1 := oq_E_max m n
    show oq_E m m n + m n * oq_s m n + 1 = oq_s m n * (m n + 1)
    rw [Nat.mul_add, Nat.mul_one, Nat.mul_comm (oq_s m n) (m n)]
    omega
theorem oq_E_inj {m c d : Nat → Nat} : ∀ {n : Nat}, (∀ k, k < n → c k ≤ m k) → (∀ k, k < n → d k ≤ m k) → oq_E m c n = oq_E m d n → ∀ k, k < n → c k = d k
  | 0, _, _, _ => fun k hk => absurd hk (Nat.not_lt_zero k)
  | n + 1, hc, hd, h => by
    have h1 := oq_E_lt (m := m) (c := c) (n := n) (fun k hk => hc k (by omega))
    have h2 := oq_E_lt (m := m) (c := d) (n := n) (fun k hk => hd k (by omega))
    have hp := oq_s_pos m n
    have h3 : oq_E m c n + c n * oq_s m n = oq_E m d n + d n * oq_s m n := h
    have e1 : (oq_E m c n + c n * oq_s m n) / oq_s m n = c n := by rw [Nat.add_mul_div_right _ _ hp, Nat.div_eq_of_lt h1, Nat.zero_add]
    have e2 : (oq_E m d n + d n * oq_s m n) / oq_s m n = d n := by rw [Nat.add_mul_div_right _ _ hp, Nat.div_eq_of_lt h2, Nat.zero_add]
    have e3 : c n = d n := by rw [← e1, ← e2, h3]
    have h4 := oq_E_inj (m := m) (c := c) (d := d) (n := n) (fun k hk => hc k (by omega)) (fun k hk => hd k (by omega)) (by rw [e3] at h3; omega)
    intro k hk
    by_cases e : k = n
    · subst e; exact e3
    · exact h4 k (by omega)
theorem oq_E_d {m c : Nat → Nat} {k : Nat} (h : 0 < c k) : ∀ {n : Nat}, k < n → oq_E m (oq_d c k) n + oq_s m k = oq_E m c n
  | 0, hk => absurd hk (Nat.not_lt_zero k)
  | n + 1, hk => by
    show oq_E m (oq_d c k) n + oq_d c k n * oq_s m n + oq_s m k = oq_E m c n + c n * oq_s m n
    by_cases e : n = k
    · subst e
      rw [oq_E_cg (c := oq_d c n) (d := c) (fun j hj => oq_d_n (by omega)), oq_d_s]
      obtain ⟨t, ht⟩ : ∃ t, c n = t + 1 := ⟨c n - 1, by omega⟩
      rw [ht, Nat.succ_mul, Nat.add_sub_cancel]
      omega
    · have h1 := oq_E_d h (m := m) (n := n) (by omega)
      rw [oq_d_n e]
      omega
/-- the digits below k at their most, set back; the digit k one more -/
theorem oq_E_on {m c d : Nat → Nat} {k : Nat} (h0 : ∀ j, j < k → c j = m j ∧ d j = 0) (h1 : d k = c k + 1) (h2 : ∀ j, ¬ j < k → ¬ j = k → d j = c j) : ∀ {n : Nat}, (n ≤ k → oq_E m d n + oq_s m n = oq_E m c n + 1) ∧ (k < n → oq_E m d n = oq_E m c n + 1)
  | 0 => ⟨fun _ => rfl, fun h => absurd h (Nat.not_lt_zero k)⟩
  | n + 1 => by
    have ih := oq_E_on h0 h1 h2 (m := m) (n := n)
    refine ⟨fun h => ?_, fun h => ?_⟩
    · show oq_E m d n + d n * oq_s m n + oq_s m n * (m n + 1) = oq_E m c n + c n * oq_s m n + 1
      obtain ⟨e1, e2⟩ := h0 n (by omega)
      have h3 := ih.1 (by omega)
      rw [e1, e2, Nat.zero_mul, Nat.mul_add, Nat.mul_one, Nat.mul_comm (oq_s m n) (m n)]
      omega
    · show oq_E m d n + d n * oq_s m n = oq_E m c n + c n * oq_s m n + 1
      by_cases e : n = k
      · subst e
        have h3 := ih.1 (Nat.le_refl _)
        rw [h1, Nat.succ_mul]
        omega
      · have h3 := ih.2 (by omega)
        rw [h2 n (by omega) e]
        omega
def oq_t (s : Nat) : Nat := (s + 2) * (s + 2) / 4
theorem oq_p2 : ∀ a b : Fin 11, (a.val + 1) * (b.val + 1) ≤ oq_t (a.val + b.val) := by decide +kernel
theorem oq_p6 : ∀ a b c : Fin 11, a.val + b.val + c.val ≤ 10 → oq_t a.val * oq_t b.val * oq_t c.val ≤ 324 := by decide +kernel
theorem oq_s324 {m : Nat → Nat} (h : oq_T m 6 ≤ 10) : oq_s m 6 ≤ 324 := by
  rw [oq_T6] at h
  have h1 := oq_p2 ⟨m 0, by omega⟩ ⟨m 1, by omega⟩
  have h2 := oq_p2 ⟨m 2, by omega⟩ ⟨m 3, by omega⟩
  have h3 := oq_p2 ⟨m 4, by omega⟩ ⟨m 5, by omega⟩
  have h4 := oq_p6 ⟨m 0 + m 1, by omega⟩ ⟨m 2 + m 3, by omega⟩ ⟨m 4 + m 5, by omega⟩ (by show m 0 + m 1 + (m 2 + m 3) + (m 4 + m 5) ≤ 10; omega)
  have e : oq_s m 6 = (m 0 + 1) * (m 1 + 1) * ((m 2 + 1) * (m 3 + 1)) * ((m 4 + 1) * (m 5 + 1)) := by
    show 1 * (m 0 + 1) * (m 1 + 1) * (m 2 + 1) * (m 3 + 1) * (m 4 + 1) * (m 5 + 1) = _
    rw [Nat.one_mul, Nat.mul_assoc ((m 0 + 1) * (m 1 + 1)), Nat.mul_assoc _ (m 4 + 1)]
  rw [e]
  exact Nat.le_trans (Nat.mul_le_mul (Nat.mul_le_mul h1 h2) h3) h4
/-! which comes next: the first with the least -/
def oq_pk (f : Nat → Nat) (p : Nat → Bool) : Nat → Nat × Nat
  | 0 => (0, 2147483647)
  | n + 1 => if p n = true ∧ f n < (oq_pk f p n).2 then (n, f n) else oq_pk f p n
theorem oq_pk_s (f : Nat → Nat) (p : Nat → Bool) (n : Nat) : oq_pk f p (n + 1) = if p n = true ∧ f n < (oq_pk f p n).2 then (n, f n) else oq_pk f p n := rfl
theorem oq_pk_ok {f : Nat → Nat} {p : Nat → Bool} : ∀ {n : Nat}, (∀ j, j < n → p j = true → f j < 2147483647) → ((∀ j, j < n → p j = false) ∧ oq_pk f p n = (0, 2147483647)) ∨ ((oq_pk f p n).1 < n ∧ p (oq_pk f p n).1 = true ∧ (oq_pk f p n).2 = f (oq_pk f p n).1 ∧ (oq_pk f p n).2 < 2147483647)
  | 0, _ => Or.inl ⟨fun j hj => absurd hj (Nat.not_lt_zero j), rfl⟩
  | n + 1, h => by
    rw [oq_pk_s]
    rcases oq_pk_ok (f := f) (p := p) (n := n) (fun j hj => h j (by omega)) with ⟨h1, h2⟩ | ⟨h1, h2, h3, h4⟩
    · cases hp : p n with
      | false =>
        rw [if_neg (fun h9 => absurd h9.1 (by decide))]
        exact Or.inl ⟨fun j hj => by
          by_cases e : j = n
          · subst e; exact hp
          · exact h1 j (by omega), h2⟩
      | true =>
        rw [h2, if_pos ⟨rfl, h n (by omega) hp⟩]
        exact Or.inr ⟨by show n < n + 1; omega, hp, rfl, h n (by omega) hp⟩
    · by_cases e : p n = true ∧ f n < (oq_pk f p n).2
      · rw [if_pos e]
        exact Or.inr ⟨by show n < n + 1; omega, e.1, rfl, h n (by omega) e.1⟩
      · rw [if_neg e]
        exact Or.inr ⟨by omega, h2, h3, h4⟩
/-! one after another -/
def oq_w (W : Nat → Nat → Nat) (a k : Nat) : Nat := if a = 6 then 0 else W a k
def oq_f (W : Nat → Nat → Nat) (K : Nat → Nat) (b : Bool) (q : Nat) (u : Nat → Bool) (a i : Nat) : Nat := oq_w W a (K i) + oq_V W b (oq_d (oq_c K u q) (K i)) (K i)
def oq_p (K : Nat → Nat) (b : Bool) (q : Nat) (u : Nat → Bool) (i : Nat) : Bool := !u i && oq_may b (oq_c K u q) (K i)
theorem oq_p_i {K : Nat → Nat} {b : Bool} {q : Nat} {u : Nat → Bool} {i : Nat} : oq_p K b q u i = true ↔ (u i = false ∧ oq_may b (oq_c K u q) (K i) = true) := by
  unfold oq_p
  simp
theorem oq_p_f {K : Nat → Nat} {b : Bool} {q : Nat} {u : Nat → Bool} {i : Nat} (h : ¬ (u i = false ∧ oq_may b (oq_c K u q) (K i) = true)) : oq_p K b q u i = false := by
  cases hp : oq_p K b q u i with
  | false => rfl
  | true => exact absurd (oq_p_i.mp hp) h
theorem oq_w_bd {W : Nat → Nat → Nat} (hW : ∀ a k, W a k ≤ 600) (a k : Nat) : oq_w W a k ≤ 600 := by
  unfold oq_w
  split
  · omega
  · exact hW a k
theorem oq_Vd_bd {W : Nat → Nat → Nat} {K : Nat → Nat} {b : Bool} {q : Nat} {u : Nat → Bool} {i : Nat} (hW : ∀ a k, W a k ≤ 600) (hK : ∀ i, i < q → K i < 6) (hq : q ≤ 10) (hi : i < q) (hu : u i = false) : oq_V W b (oq_d (oq_c K u q) (K i)) (K i) ≤ 6000 := by
  have h1 := oq_c_T (u := u) hK
  have h2 := oq_T_d (oq_c_in (K := K) hu hi) (hK i hi)
  have h3 := oq_V_bd (b := b) hW (oq_d (oq_c K u q) (K i)) (K i)
  omega
theorem oq_f_bd {W : Nat → Nat → Nat} {K : Nat → Nat} {b : Bool} {q : Nat} {u : Nat → Bool} {a i : Nat} (hW : ∀ a k, W a k ≤ 600) (hK : ∀ i, i < q → K i < 6) (hq : q ≤ 10) (hi : i < q) (hu : u i = false) : oq_f W K b q u a i ≤ 6600 := by
  have h1 := oq_Vd_bd (b := b) hW hK hq hi hu
  have h4 := oq_w_bd hW a (K i)
  unfold oq_f
  omega
theorem oq_p_ex {K : Nat → Nat} {b : Bool} {q : Nat} {u : Nat → Bool} (hK : ∀ i, i < q → K i < 6) (h : tb_ct u q < q) : ∃ i, i < q ∧ oq_p K b q u i = true := by
  have h1 := oq_c_T (u := u) hK
  obtain ⟨k, hk, hm⟩ := oq_may_ex (b := b) (c := oq_c K u q) (by omega)
  obtain ⟨i, hi, hu, he⟩ := oq_c_pos (oq_may_i.mp hm).1
  exact ⟨i, hi, oq_p_i.mpr ⟨hu, by rw [he]; exact hm⟩⟩
theorem oq_nx {W : Nat → Nat → Nat} {K : Nat → Nat} {b : Bool} {q : Nat} {u : Nat → Bool} {a : Nat} (hW : ∀ a k, W a k ≤ 600) (hK : ∀ i, i < q → K i < 6) (hq : q ≤ 10) (h : tb_ct u q < q) : (oq_pk (oq_f W K b q u a) (oq_p K b q u) q).1 < q ∧ u (oq_pk (oq_f W K b q u a) (oq_p K b q u) q).1 = false ∧ oq_may b (oq_c K u q) (K (oq_pk (oq_f W K b q u a) (oq_p K b q u) q).1) = true := by
  rcases oq_pk_ok (f := oq_f W K b q u a) (p := oq_p K b q u) (n := q) (fun j hj hp => by have h9 := oq_f_bd (b := b) (a := a) hW hK hq hj (oq_p_i.mp hp).1; omega) with ⟨h1, _⟩ | ⟨h1, h2, _, _⟩
  · obtain ⟨i, hi, hp⟩ := oq_p_ex (b := b) hK h
    rw [h1 i hi] at hp
    cases hp
  · exact ⟨h1, oq_p_i.mp h2⟩
def oq_x (W : Nat → Nat → Nat) (K : Nat → Nat) (b : Bool) (q : Nat) (s : (Nat → Bool) × Nat × Nat) : Nat := (oq_pk (oq_f W K b q s.1 s.2.1) (oq_p K b q s.1) q).1
/-- behind n of them: which have come, the kind before (6: none), the minutes -/
def oq_S (W : Nat → Nat → Nat) (K : Nat → Nat) (b : Bool) (q : Nat) : Nat → (Nat → Bool) × Nat × Nat
  | 0 => (fun _ => false, 6, 0)
  | n + 1 => (oq_u (oq_S W K b q n).1 (oq_x W K b q (oq_S W K b q n)), K (oq_x W K b q (oq_S W K b q n)), (oq_S W K b q n).2.2 + oq_w W (oq_S W K b q n).2.1 (K (oq_x W K b q (oq_S W K b q n))))
theorem oq_tb0 : ∀ n : Nat, tb_ct (fun _ => false) n = 0
  | 0 => rfl
  | n + 1 => by
    show tb_ct (fun _ => false) n + _ = 0
    rw [oq_tb0 n]
    rfl
theorem oq_S_ok {W : Nat → Nat → Nat} {K : Nat → Nat} {b : Bool} {q : Nat} (hW : ∀ a k, W a k ≤ 600) (hK : ∀ i, i < q → K i < 6) (hq : q ≤ 10) : ∀ {n : Nat}, n ≤ q → tb_ct (oq_S W K b q n).1 q = n ∧ (oq_S W K b q n).2.2 ≤ 600 * n ∧ ((n = 0 ∧ (oq_S W K b q n).2.1 = 6) ∨ (0 < n ∧ (oq_S W K b q n).2.1 < 6))
  | 0, _ => ⟨oq_tb0 q, Nat.le_refl _, Or.inl ⟨rfl, rfl⟩⟩
  | n + 1, h => by
    obtain ⟨h1, h2, h3⟩ := oq_S_ok (b := b) hW hK hq (n := n) (by omega)
    obtain ⟨e1, e2, e3⟩ := oq_nx (b := b) (u := (oq_S W K b q n).1) (a := (oq_S W K b q n).2.1) hW hK hq (by omega)
    have h4 := oq_w_bd hW (oq_S W K b q n).2.1 (K (oq_x W K b q (oq_S W K b q n)))
    have h5 := tb_off (p := oq_u (oq_S W K b q n).1 (oq_x W K b q (oq_S W K b q n))) (q := (oq_S W K b q n).1) (i := oq_x W K b q (oq_S W K b q n)) (oq_u_s _ _) e2 (n := q) e1 (fun k _ hne => (oq_u_n hne).symm)
    refine ⟨?_, ?_, Or.inr ⟨by omega, hK _ e1⟩⟩
    · show tb_ct (oq_u (oq_S W K b q n).1 (oq_x W K b q (oq_S W K b q n))) q = n + 1
      omega
    · show (oq_S W K b q n).2.2 + oq_w W (oq_S W K b q n).2.1 (K (oq_x W K b q (oq_S W K b q n))) ≤ 600 * (n + 1)
      omega
theorem oq_S_x {W : Nat → Nat → Nat} {K : Nat → Nat} {b : Bool} {q : Nat} (hW : ∀ a k, W a k ≤ 600) (hK : ∀ i, i < q → K i < 6) (hq : q ≤ 10) {n : Nat} (hn : n < q) : oq_x W K b q (oq_S W K b q n) < q ∧ (oq_S W K b q n).1 (oq_x W K b q (oq_S W K b q n)) = false ∧ oq_may b (oq_c K (oq_S W K b q n).1 q) (K (oq_x W K b q (oq_S W K b q n))) = true := by
  have h1 := (oq_S_ok (b := b) hW hK hq (n := n) (by omega)).1
  exact oq_nx hW hK hq (by omega)
/-! in ints -/
def oq_N (f : Nat → Int32) : Nat → Nat := fun k => (f k).toNatClampNeg
def oq_W (ws : Nat → Int32) : Nat → Nat → Nat := fun a k => (ws (a * 6 + k)).toNatClampNeg
def oq_b (z : Int32) : Bool := decide (¬ z = 0)
theorem oq_cn {v : Int32} {N : Nat} (h : cnt v N) (hN : N < 2 ^ 31 := by decide) : v = nI v.toNatClampNeg ∧ v.toNatClampNeg ≤ N := by
  obtain ⟨n, hn, rfl⟩ := h
  rw [nI_clamp (by omega)]
  exact ⟨rfl, hn⟩
theorem oq_Wb {ws : Nat → Int32} (h : ∀ j, cnt (ws j) 600) : ∀ a k, oq_W ws a k ≤ 600 := fun a k => (oq_cn (h (a * 6 + k))).2
theorem oq_We {ws : Nat → Int32} (h : ∀ j, cnt (ws j) 600) (a k : Nat) : ws (a * 6 + k) = nI (oq_W ws a k) := (oq_cn (h (a * 6 + k))).1
theorem oq_Kb {qm : Nat} {kd : Nat → Int32} (h : qI qm kd) : ∀ i, i < qm → oq_N kd i < 6 := fun i hi => Nat.lt_succ_of_le (oq_cn (h.2 i hi)).2
theorem oq_Ke {qm : Nat} {kd : Nat → Int32} (h : qI qm kd) {i : Nat} (hi : i < qm) : kd i = nI (oq_N kd i) := (oq_cn (h.2 i hi)).1
/-- the answer -/
def oq_A (ws qd kd : Nat → Int32) (qm : Nat) (z v : Int32) : Int32 := if v = -1 then nI (oq_S (oq_W ws) (oq_N kd) (oq_b z) qm qm).2.2 else if wi v 0 (nI qm - 1) = 0 then -1 else qd (oq_x (oq_W ws) (oq_N kd) (oq_b z) qm (oq_S (oq_W ws) (oq_N kd) (oq_b z) qm v.toNatClampNeg))
/-- what stands once it was found -/
def oq_kn (ws qd kd : Nat → Int32) (qm : Nat) (z om : Int32) (od : Nat → Int32) : Prop := om = nI (oq_S (oq_W ws) (oq_N kd) (oq_b z) qm qm).2.2 ∧ ∀ i, i < qm → od i = qd (oq_x (oq_W ws) (oq_N kd) (oq_b z) qm (oq_S (oq_W ws) (oq_N kd) (oq_b z) qm i))

/-! ===== the kettle's order: what the class keeps, step by step ===== -/
theorem oq_N_e {f : Nat → Int32} {k n : Nat} (h : f k = nI n) (hn : n < 2 ^ 31) : oq_N f k = n := by
  show (f k).toNatClampNeg = n
  rw [h, nI_clamp hn]
theorem oq_c_le (K : Nat → Nat) (u : Nat → Bool) (k : Nat) : ∀ n : Nat, oq_c K u n k ≤ n
  | 0 => Nat.le_refl _
  | n + 1 => by
    have h := oq_c_le K u k n
    rw [oq_c_s]
    split <;> omega
theorem oq_c0 {f : Nat → Int32} {K : Nat → Nat} : ∀ k, k < 6 → flg f 0 6 k = nI (oq_c K (fun _ => false) 0 k) := fun k hk => by
  unfold flg
  rw [if_pos hk]
  rfl
theorem oq_ck {c kd : Nat → Int32} {i : Nat} (h : ∀ k, k < 6 → c k = nI (oq_c (oq_N kd) (fun _ => false) i k)) : ∀ k, k < 6 → upd c (kd i).toNatClampNeg (c (kd i).toNatClampNeg + 1) k = nI (oq_c (oq_N kd) (fun _ => false) (i + 1) k) := fun k hk => by
  rw [oq_c_s]
  by_cases e : k = (kd i).toNatClampNeg
  · subst e
    rw [pk_us, h _ hk, if_pos ⟨rfl, rfl⟩]
    exact nI_add _ 1
  · rw [pk_un e, h k hk, if_neg (fun h9 => e h9.2.symm), Nat.add_zero]
theorem oq_sd {d : Nat → Int32} {m : Nat → Nat} {k tp : Nat} (h : ∀ j, j < k → d j = nI (oq_s m j)) (ht : tp = oq_s m k) : ∀ j, j < k + 1 → upd d k (nI tp) j = nI (oq_s m j) := fun j hj => by
  by_cases e : j = k
  · subst e; rw [pk_us, ht]
  · rw [pk_un e]; exact h j (by omega)
/-- how many wait in all, at most qm -/
theorem oq_mT {qm : Nat} {kd : Nat → Int32} (hq : qI qm kd) : oq_T (oq_c (oq_N kd) (fun _ => false) qm) 6 = qm := by
  have h1 := oq_c_T (u := fun _ => false) (oq_Kb hq)
  rw [oq_tb0] at h1
  exact h1
theorem oq_ms {qm : Nat} {kd : Nat → Int32} (hq : qI qm kd) : oq_s (oq_c (oq_N kd) (fun _ => false) qm) 6 ≤ 324 := oq_s324 (by rw [oq_mT hq]; exact hq.1)
/-! counting on -/
def oq_dg (m : Nat → Nat) (wt : Nat → Int32) : Prop := ∀ k, k < 6 → wt k = nI (oq_N wt k) ∧ oq_N wt k ≤ m k
def oq_m (m : Nat → Nat) (ct : Nat → Int32) : Prop := ∀ k, k < 6 → ct k = nI (m k) ∧ m k ≤ 10
def oq_co (m : Nat → Nat) (wt w1 : Nat → Int32) (i : Nat) : Prop := (∀ j, j < i → oq_N wt j = m j ∧ w1 j = 0) ∧ ∀ j, ¬ j < i → w1 j = wt j
theorem oq_co_0 {m : Nat → Nat} {wt : Nat → Int32} : oq_co m wt wt 0 := ⟨fun j hj => absurd hj (Nat.not_lt_zero j), fun _ _ => rfl⟩
theorem oq_co_s {m : Nat → Nat} {wt w1 ct : Nat → Int32} {i : Nat} (h : oq_co m wt w1 i) (hd : oq_dg m wt) (hm : oq_m m ct) (hi : i < 6) (hc : ¬ w1 i < ct i) : oq_co m wt (upd w1 i 0) (i + 1) := by
  have e := h.2 i (by omega)
  have h3 := (hd i hi).2
  have h4 := (hm i hi).2
  rw [e, (hd i hi).1, (hm i hi).1] at hc
  have h2 : ¬ oq_N wt i < m i := fun h9 => hc ((nI_ltI (by omega) (by omega)).mpr h9)
  refine ⟨fun j hj => ?_, fun j hj => ?_⟩
  · by_cases e : j = i
    · subst e; exact ⟨by omega, pk_us⟩
    · rw [pk_un e]; exact h.1 j (by omega)
  · rw [pk_un (by omega)]; exact h.2 j (by omega)
theorem oq_co_e {m : Nat → Nat} {wt w1 ct : Nat → Int32} {i : Nat} (h : oq_co m wt w1 i) (hd : oq_dg m wt) (hm : oq_m m ct) (hi : i ≤ 5) (hE : oq_E m (oq_N wt) 6 + 1 < oq_s m 6) (hx : i = 5 ∨ w1 i < ct i) : oq_dg m (upd w1 i (w1 i + 1)) ∧ oq_E m (oq_N (upd w1 i (w1 i + 1))) 6 = oq_E m (oq_N wt) 6 + 1 := by
  obtain ⟨w2, hw2⟩ : ∃ w2, w2 = upd w1 i (w1 i + 1) := ⟨_, rfl⟩
  rw [← hw2]
  have ei : w1 i = nI (oq_N wt i) := (h.2 i (by omega)).trans (hd i (by omega)).1
  have hb := (hd i (by omega)).2
  have hm10 := (hm i (by omega)).2
  have e2 : w2 i = nI (oq_N wt i + 1) := by rw [hw2, pk_us, ei]; exact nI_add _ 1
  have n2 : oq_N w2 i = oq_N wt i + 1 := oq_N_e e2 (by omega)
  have nl : ∀ j, j < i → oq_N w2 j = 0 ∧ w2 j = 0 := fun j hj => by
    have e3 : w2 j = 0 := by rw [hw2, pk_un (by omega)]; exact (h.1 j hj).2
    exact ⟨oq_N_e (n := 0) e3 (by decide), e3⟩
  have nh : ∀ j, ¬ j < i → ¬ j = i → w2 j = wt j := fun j h1 h2 => by rw [hw2, pk_un h2]; exact h.2 j h1
  have hE2 := (oq_E_on (m := m) (c := oq_N wt) (d := oq_N w2) (k := i) (fun j hj => ⟨(h.1 j hj).1, (nl j hj).1⟩) n2 (fun j h1 h2 => by show (w2 j).toNatClampNeg = (wt j).toNatClampNeg; rw [nh j h1 h2]) (n := 6)).2 (by omega)
  refine ⟨fun k hk => ?_, hE2⟩
  by_cases e : k = i
  · subst e
    rw [n2]
    refine ⟨e2, ?_⟩
    rcases hx with h5 | h5
    · subst h5
      have h6 : oq_E m (oq_N w2) 6 = oq_E m (oq_N w2) 5 + oq_N w2 5 * oq_s m 5 := rfl
      have h7 : oq_s m 6 = oq_s m 5 * (m 5 + 1) := rfl
      by_cases h8 : oq_N wt 5 + 1 ≤ m 5
      · exact h8
      · have h9 := Nat.mul_le_mul_right (oq_s m 5) (show m 5 + 1 ≤ oq_N w2 5 by omega)
        rw [Nat.mul_comm (oq_s m 5)] at h7
        omega
    · rw [ei, (hm k hk).1] at h5
      have h6 := (nI_ltI (by omega) (by omega)).mp h5
      omega
  · by_cases e3 : k < i
    · rw [(nl k e3).1, (nl k e3).2]
      exact ⟨rfl, Nat.zero_le _⟩
    · have h6 := nh k e3 e
      show w2 k = nI (w2 k).toNatClampNeg ∧ (w2 k).toNatClampNeg ≤ m k
      rw [h6]
      exact hd k hk
/-! may one come -/
theorem oq_z {v : Int32} (h : cnt v 10) : 0 < v ↔ 0 < v.toNatClampNeg := by
  obtain ⟨n, hn, rfl⟩ := h
  rw [nI_clamp (by omega)]
  exact nI_ltI (a := 0) (b := n) (by omega) (by omega)
theorem oq_my_0 {b : Bool} {wt : Nat → Int32} {k : Nat} (h : cnt (wt k) 10) (c : ¬ 0 < wt k) : oq_may b (oq_N wt) k = false := by
  cases hm : oq_may b (oq_N wt) k with
  | false => rfl
  | true => exact absurd ((oq_z h).mpr (oq_may_i.mp hm).1) c
theorem oq_my_1 {b : Bool} {wt : Nat → Int32} {k : Nat} (h : cnt (wt k) 10) (c : 0 < wt k) (c2 : ¬ k = 4) : oq_may b (oq_N wt) k = true := oq_may_i.mpr ⟨(oq_z h).mp c, fun h9 => absurd h9 c2⟩
theorem oq_my_2 {z : Int32} {wt : Nat → Int32} {k : Nat} (h : cnt (wt k) 10) (c : 0 < wt k) (c2 : z = 0) : oq_may (oq_b z) (oq_N wt) k = true := oq_may_i.mpr ⟨(oq_z h).mp c, fun _ h9 => absurd c2 (of_decide_eq_true h9)⟩
theorem oq_my_3 {b : Bool} {wt : Nat → Int32} {k : Nat} (h : cnt (wt k) 10) (c : 0 < wt k) (c2 : ∀ j, j < 6 → ¬ j = 4 → oq_N wt j = 0) : oq_may b (oq_N wt) k = true := oq_may_i.mpr ⟨(oq_z h).mp c, fun _ _ => c2⟩
theorem oq_my_4 {z : Int32} {wt : Nat → Int32} {k : Nat} (c1 : k = 4) (c2 : ¬ z = 0) (c3 : ∃ j, j < 6 ∧ ¬ j = 4 ∧ 0 < oq_N wt j) : oq_may (oq_b z) (oq_N wt) k = false := by
  cases hm : oq_may (oq_b z) (oq_N wt) k with
  | false => rfl
  | true =>
    obtain ⟨j, hj, h4, h0⟩ := c3
    have h5 := (oq_may_i.mp hm).2 c1 (decide_eq_true c2) j hj h4
    omega
/-! the least of one state -/
def oq_g (ws : Nat → Int32) (b : Bool) (c v : Nat → Nat) (a k : Nat) : Nat := if oq_may b c k = true then oq_W ws a k + v k else 2147483647
def oq_l1 (L0 L1 : Nat → Int32) (n i : Nat) : Prop := (∀ x, x < n * 6 → L1 x = L0 x) ∧ ∀ j, j < i → L1 (n * 6 + j) = nI 2147483647
def oq_l2 (L0 L2 : Nat → Int32) (n : Nat) (g : Nat → Nat → Nat) (i : Nat) : Prop := (∀ x, x < n * 6 → L2 x = L0 x) ∧ ∀ a, a < 6 → L2 (n * 6 + a) = nI (oq_mn (g a) i)
def oq_l3 (L0 L3 : Nat → Int32) (n : Nat) (g : Nat → Nat → Nat) (i j : Nat) : Prop := (∀ x, x < n * 6 → L3 x = L0 x) ∧ ∀ a, a < 6 → L3 (n * 6 + a) = nI (oq_mn (g a) (if a < j then i + 1 else i))
theorem oq_l1_0 {L0 : Nat → Int32} {n : Nat} : oq_l1 L0 L0 n 0 := ⟨fun _ _ => rfl, fun j hj => absurd hj (Nat.not_lt_zero j)⟩
theorem oq_l1_s {L0 L1 : Nat → Int32} {n i : Nat} (h : oq_l1 L0 L1 n i) : oq_l1 L0 (upd L1 (n * 6 + i) 2147483647) n (i + 1) := ⟨fun x hx => by rw [pk_un (by omega)]; exact h.1 x hx, fun j hj => by
  by_cases e : j = i
  · subst e; rw [pk_us]; rfl
  · rw [pk_un (by omega)]; exact h.2 j (by omega)⟩
theorem oq_l1_2 {L0 L1 : Nat → Int32} {n i : Nat} {g : Nat → Nat → Nat} (h : oq_l1 L0 L1 n i) (hi : 6 ≤ i) : oq_l2 L0 L1 n g 0 := ⟨h.1, fun a ha => h.2 a (by omega)⟩
theorem oq_l2_n {L0 L2 : Nat → Int32} {n i : Nat} {g : Nat → Nat → Nat} (h : oq_l2 L0 L2 n g i) (hg : ∀ a, g a i = 2147483647) : oq_l2 L0 L2 n g (i + 1) := ⟨h.1, fun a ha => by
  rw [h.2 a ha]
  show nI (oq_mn (g a) i) = nI (min (oq_mn (g a) i) (g a i))
  rw [hg a, Nat.min_eq_left (oq_mn_top _ _)]⟩
theorem oq_l2_3 {L0 L2 : Nat → Int32} {n i : Nat} {g : Nat → Nat → Nat} (h : oq_l2 L0 L2 n g i) : oq_l3 L0 L2 n g i 0 := ⟨h.1, fun a ha => by rw [if_neg (Nat.not_lt_zero a)]; exact h.2 a ha⟩
theorem oq_l3_s {L0 L3 : Nat → Int32} {n i j x y : Nat} {g : Nat → Nat → Nat} {wv rv : Int32} (h : oq_l3 L0 L3 n g i j) (hj : j < 6) (hw : wv = nI x) (hr : rv = nI y) (hx : x ≤ 600) (hy : y ≤ 6000) (hg : g j i = x + y) : oq_l3 L0 (upd L3 (n * 6 + j) (miI (L3 (n * 6 + j)) (wv + rv))) n g i (j + 1) := ⟨fun q hq => by rw [pk_un (by omega)]; exact h.1 q hq, fun a ha => by
  by_cases e : a = j
  · subst e
    rw [pk_us, h.2 a ha, if_neg (Nat.lt_irrefl a), if_pos (Nat.lt_succ_self a), hw, hr, nI_add]
    show (if nI (x + y) < nI (oq_mn (g a) i) then nI (x + y) else nI (oq_mn (g a) i)) = nI (min (oq_mn (g a) i) (g a i))
    have h8 := oq_mn_top (g a) i
    rw [hg, nI_min (by omega) (by omega)]
  · rw [pk_un (by omega), h.2 a ha]
    by_cases e2 : a < j
    · rw [if_pos e2, if_pos (by omega)]
    · rw [if_neg e2, if_neg (by omega)]⟩
theorem oq_l3_2 {L0 L3 : Nat → Int32} {n i j : Nat} {g : Nat → Nat → Nat} (h : oq_l3 L0 L3 n g i j) (hj : 6 ≤ j) : oq_l2 L0 L3 n g (i + 1) := ⟨h.1, fun a ha => by
  have h1 := h.2 a ha
  rw [if_pos (by omega)] at h1
  exact h1⟩
/-! the table -/
def oq_TB (W : Nat → Nat → Nat) (b : Bool) (m : Nat → Nat) (L : Nat → Int32) (S : Nat) : Prop := ∀ c : Nat → Nat, (∀ k, k < 6 → c k ≤ m k) → oq_E m c 6 < S → ∀ a, a < 6 → L (oq_E m c 6 * 6 + a) = nI (oq_V W b c a)
theorem oq_E_0 {m c : Nat → Nat} : ∀ {n : Nat}, oq_E m c n = 0 → oq_T c n = 0
  | 0, _ => rfl
  | n + 1, h => by
    have h1 : oq_E m c n + c n * oq_s m n = 0 := h
    have h2 := oq_s_pos m n
    have h3 : c n * oq_s m n = 0 := by omega
    have h4 := oq_E_0 (m := m) (c := c) (n := n) (by omega)
    show oq_T c n + c n = 0
    rcases Nat.mul_eq_zero.mp h3 with h5 | h5 <;> omega
theorem oq_E_z {m c : Nat → Nat} : ∀ {n : Nat}, (∀ k, k < n → c k = 0) → oq_E m c n = 0
  | 0, _ => rfl
  | n + 1, h => by
    show oq_E m c n + c n * oq_s m n = 0
    rw [oq_E_z (fun k hk => h k (by omega)), h n (by omega), Nat.zero_mul]
theorem oq_T_le {c m : Nat → Nat} (h : ∀ k, k < 6 → c k ≤ m k) : oq_T c 6 ≤ oq_T m 6 := by
  rw [oq_T6, oq_T6]
  have h0 := h 0 (by decide); have h1 := h 1 (by decide); have h2 := h 2 (by decide); have h3 := h 3 (by decide); have h4 := h 4 (by decide); have h5 := h 5 (by decide)
  omega
theorem oq_TB_1 {W : Nat → Nat → Nat} {b : Bool} {m : Nat → Nat} {L : Nat → Int32} {i : Nat} (h : ∀ a, a < i → L a = 0) (hi : 6 ≤ i) : oq_TB W b m L 1 := fun c _ hE a ha => by
  have e : oq_E m c 6 = 0 := by omega
  rw [oq_V_0 (oq_E_0 e), e, Nat.zero_mul, Nat.zero_add]
  exact h a (by omega)
theorem oq_TB_T {W : Nat → Nat → Nat} {b : Bool} {m : Nat → Nat} {L : Nat → Int32} {n S : Nat} {c : Nat → Nat} (h : oq_TB W b m L S) (hS : n ≤ S) (hW : ∀ a k, W a k ≤ 600) (hc : ∀ k, k < 6 → c k ≤ m k) (hE : oq_E m c 6 = n) (hT : oq_T m 6 ≤ 10) {k : Nat} (hk : k < 6) (h0 : 0 < c k) : oq_s m k ≤ n ∧ L ((n - oq_s m k) * 6 + k) = nI (oq_V W b (oq_d c k) k) ∧ oq_V W b (oq_d c k) k ≤ 6000 := by
  have h1 := oq_E_d (m := m) h0 hk
  have h2 := oq_s_pos m k
  have h3 := h (oq_d c k) (fun j hj => Nat.le_trans (oq_d_le c k j) (hc j hj)) (by omega) k hk
  have h4 := oq_V_bd (b := b) hW (oq_d c k) k
  have h5 := oq_T_le (c := oq_d c k) (m := m) (fun j hj => Nat.le_trans (oq_d_le c k j) (hc j hj))
  refine ⟨by omega, ?_, by omega⟩
  rw [show n - oq_s m k = oq_E m (oq_d c k) 6 by omega]
  exact h3
theorem oq_TB_n {ws : Nat → Int32} {b : Bool} {m c : Nat → Nat} {L L2 : Nat → Int32} {i : Nat} (h : oq_TB (oq_W ws) b m L i) (hl : oq_l2 L L2 i (oq_g ws b c (fun k => oq_V (oq_W ws) b (oq_d c k) k)) 6) (hc : ∀ k, k < 6 → c k ≤ m k) (hE : oq_E m c 6 = i) (hi : 1 ≤ i) : oq_TB (oq_W ws) b m L2 (i + 1) := fun d hd hE2 a ha => by
  by_cases e : oq_E m d 6 = i
  · have h1 := oq_E_inj hc hd (hE.trans e.symm)
    rw [e, hl.2 a ha, ← oq_V_cg h1]
    have h2 : 0 < oq_T c 6 := by
      by_cases h3 : oq_T c 6 = 0
      · rw [oq_T6] at h3
        have h4 : oq_E m c 6 = 0 := oq_E_z (fun k hk => by
          have hx : k = 0 ∨ k = 1 ∨ k = 2 ∨ k = 3 ∨ k = 4 ∨ k = 5 := by omega
          rcases hx with rfl | rfl | rfl | rfl | rfl | rfl <;> omega)
        omega
      · omega
    rw [oq_V_mn h2]
    rfl
  · rw [hl.1 _ (by omega)]
    exact h d hd (by omega) a ha
theorem oq_dg0 {m : Nat → Nat} {wt : Nat → Int32} : oq_dg m (flg wt 0 6) ∧ oq_E m (oq_N (flg wt 0 6)) 6 = 0 := by
  have h : ∀ k, k < 6 → flg wt 0 6 k = nI 0 := fun k hk => by
    unfold flg
    rw [if_pos hk]
    rfl
  refine ⟨fun k hk => ?_, oq_E_z (fun k hk => oq_N_e (h k hk) (by decide))⟩
  rw [oq_N_e (h k hk) (by decide)]
  exact ⟨h k hk, Nat.zero_le _⟩
theorem oq_dg_c {m : Nat → Nat} {wt ct : Nat → Int32} (h : oq_dg m wt) (hm : oq_m m ct) : ∀ j, j < 6 → cnt (wt j) 10 := fun j hj => ⟨oq_N wt j, Nat.le_trans (h j hj).2 (hm j hj).2, (h j hj).1⟩

/-! one batch after another, in the class -/
def oq_lo (sd LE : Nat → Int32) (v1 v2 : Int32) : Int32 := if v1 - sd v2.toNatClampNeg < 0 then 0 else LE ((v1 - sd v2.toNatClampNeg) * 6 + v2 : Int32).toNatClampNeg
theorem oq_lo_e {W : Nat → Nat → Nat} {b : Bool} {m : Nat → Nat} {sd LE : Nat → Int32} {n S k : Nat} {c : Nat → Nat} {x y : Int32} (h : oq_TB W b m LE S) (hS : n ≤ S) (hW : ∀ a k, W a k ≤ 600) (hc : ∀ k, k < 6 → c k ≤ m k) (hE : oq_E m c 6 = n) (hT : oq_T m 6 ≤ 10) (hk : k < 6) (h0 : 0 < c k) (hsd : ∀ j, j < 6 → sd j = nI (oq_s m j)) (hn : n ≤ 323) (hx : x = nI n) (hy : y = nI k) : oq_lo sd LE x y = nI (oq_V W b (oq_d c k) k) := by
  subst hx
  subst hy
  obtain ⟨h1, h2, h3⟩ := oq_TB_T h hS hW hc hE hT hk h0
  unfold oq_lo
  rw [nI_clamp (show k < 2 ^ 31 by omega), hsd k hk, pk_sub h1, if_neg (show ¬ nI (n - oq_s m k) < 0 from fun h9 => absurd ((nI_ltI (a := n - oq_s m k) (b := 0) (by omega) (by omega)).mp h9) (by omega)), show (nI (n - oq_s m k) * 6 + nI k : Int32) = nI ((n - oq_s m k) * 6 + k) from (congrArg (fun q => q + nI k) (pk_mul (n - oq_s m k) 6)).trans (nI_add _ _), nI_clamp (by omega)]
  exact h2
theorem oq_TB_of {W : Nat → Nat → Nat} {b : Bool} {m : Nat → Nat} {L L2 : Nat → Int32} {n : Nat} (h : oq_TB W b m L n) (he : ∀ x, x < n * 6 → L2 x = L x) : oq_TB W b m L2 n := fun c hc hE a ha => by
  rw [he _ (by omega)]
  exact h c hc hE a ha
theorem oq_TB_le {W : Nat → Nat → Nat} {b : Bool} {m : Nat → Nat} {L : Nat → Int32} {n k : Nat} (h : oq_TB W b m L n) (hk : k ≤ n) : oq_TB W b m L k := fun c hc hE a ha => h c hc (by omega) a ha
theorem oq_us_f {us : Nat → Int32} {u : Nat → Bool} {i : Nat} (h : us i = (if u i = true then 1 else 0)) (c : us i = 0) : u i = false := by
  cases hu : u i with
  | false => rfl
  | true =>
    rw [hu, if_pos rfl] at h
    rw [h] at c
    exact absurd c (by decide)
theorem oq_us_t {us : Nat → Int32} {u : Nat → Bool} {i : Nat} (h : us i = (if u i = true then 1 else 0)) (c : ¬ us i = 0) : u i = true := by
  cases hu : u i with
  | true => rfl
  | false =>
    rw [hu, if_neg (by decide)] at h
    exact absurd h c
theorem oq_pk_n {f : Nat → Nat} {p : Nat → Bool} {i : Nat} (h : p i = false) : oq_pk f p (i + 1) = oq_pk f p i := by
  rw [oq_pk_s, if_neg (fun h9 => by rw [h] at h9; cases h9.1)]
theorem oq_pk_y {f : Nat → Nat} {p : Nat → Bool} {i : Nat} (h : p i = true) (h2 : f i < (oq_pk f p i).2) : oq_pk f p (i + 1) = (i, f i) := by
  rw [oq_pk_s, if_pos ⟨h, h2⟩]
theorem oq_pk_g {f : Nat → Nat} {p : Nat → Bool} {i : Nat} (h2 : ¬ f i < (oq_pk f p i).2) : oq_pk f p (i + 1) = oq_pk f p i := by
  rw [oq_pk_s, if_neg (fun h9 => h2 h9.2)]
theorem oq_pk_le (f : Nat → Nat) (p : Nat → Bool) : ∀ n : Nat, (oq_pk f p n).2 ≤ 2147483647
  | 0 => Nat.le_refl _
  | n + 1 => by
    have h := oq_pk_le f p n
    by_cases e : p n = true ∧ f n < (oq_pk f p n).2
    · rw [oq_pk_s, if_pos e]; show f n ≤ 2147483647; omega
    · rw [oq_pk_s, if_neg e]; exact h
/-- where the search for the next stands -/
def oq_fn (ws kd : Nat → Int32) (z : Int32) (qm : Nat) (u : Nat → Bool) (a i bs : Nat) (m5 : Int32) : Prop := bs = (oq_pk (oq_f (oq_W ws) (oq_N kd) (oq_b z) qm u a) (oq_p (oq_N kd) (oq_b z) qm u) i).1 ∧ m5 = nI (oq_pk (oq_f (oq_W ws) (oq_N kd) (oq_b z) qm u a) (oq_p (oq_N kd) (oq_b z) qm u) i).2
theorem oq_fn_0 {ws kd : Nat → Int32} {z : Int32} {qm : Nat} {u : Nat → Bool} {a : Nat} : oq_fn ws kd z qm u a 0 0 2147483647 := ⟨rfl, rfl⟩
theorem oq_fn_n {ws kd : Nat → Int32} {z : Int32} {qm : Nat} {u : Nat → Bool} {a i bs : Nat} {m5 : Int32} (h : oq_fn ws kd z qm u a i bs m5) (hp : ¬ (u i = false ∧ oq_may (oq_b z) (oq_c (oq_N kd) u qm) (oq_N kd i) = true)) : oq_fn ws kd z qm u a (i + 1) bs m5 := by
  unfold oq_fn
  rw [oq_pk_n (oq_p_f hp)]
  exact h
theorem oq_fn_u {ws kd us : Nat → Int32} {z : Int32} {qm : Nat} {u : Nat → Bool} {a i bs : Nat} {m5 : Int32} (h : oq_fn ws kd z qm u a i bs m5) (hu : us i = (if u i = true then 1 else 0)) (c : ¬ us i = 0) : oq_fn ws kd z qm u a (i + 1) bs m5 := oq_fn_n h (fun h9 => by rw [oq_us_t hu c] at h9; cases h9.1)
/-- what is told of those that wait -/
theorem oq_wN {kd wt : Nat → Int32} {qm : Nat} {u : Nat → Bool} (hq : qI qm kd) (h : ∀ k, k < 6 → wt k = nI (oq_c (oq_N kd) u qm k)) : ∀ k, k < 6 → oq_N wt k = oq_c (oq_N kd) u qm k := fun k hk => oq_N_e (h k hk) (by have h1 := oq_c_le (oq_N kd) u k qm; have h2 := hq.1; omega)
theorem oq_wC {kd wt : Nat → Int32} {qm : Nat} {u : Nat → Bool} (hq : qI qm kd) (h : ∀ k, k < 6 → wt k = nI (oq_c (oq_N kd) u qm k)) : ∀ k, k < 6 → cnt (wt k) 10 := fun k hk => ⟨_, by have h1 := oq_c_le (oq_N kd) u k qm; have h2 := hq.1; omega, h k hk⟩
theorem oq_fn_m {ws kd wt : Nat → Int32} {z r : Int32} {qm : Nat} {u : Nat → Bool} {a i bs : Nat} {m5 : Int32} (h : oq_fn ws kd z qm u a i bs m5) (hq : qI qm kd) (hi : i < qm) (hw : ∀ k, k < 6 → wt k = nI (oq_c (oq_N kd) u qm k)) (hr : (r = 1 ∧ oq_may (oq_b z) (oq_N wt) (kd i).toNatClampNeg = true) ∨ (r = 0 ∧ oq_may (oq_b z) (oq_N wt) (kd i).toNatClampNeg = false)) (c : r = 0) : oq_fn ws kd z qm u a (i + 1) bs m5 := oq_fn_n h (fun h9 => by
  rcases hr with ⟨h1, _⟩ | ⟨_, h1⟩
  · rw [c] at h1; exact absurd h1 (by decide)
  · have h2 : oq_may (oq_b z) (oq_N wt) (oq_N kd i) = false := h1
    rw [oq_may_cg (oq_wN hq hw) (oq_Kb hq i hi), h9.2] at h2
    cases h2)
theorem oq_mc {kd wt : Nat → Int32} {z r : Int32} {qm : Nat} {u : Nat → Bool} {i : Nat} (hq : qI qm kd) (hi : i < qm) (hw : ∀ k, k < 6 → wt k = nI (oq_c (oq_N kd) u qm k)) (hr : (r = 1 ∧ oq_may (oq_b z) (oq_N wt) (kd i).toNatClampNeg = true) ∨ (r = 0 ∧ oq_may (oq_b z) (oq_N wt) (kd i).toNatClampNeg = false)) (c : ¬ r = 0) : oq_may (oq_b z) (oq_c (oq_N kd) u qm) (oq_N kd i) = true := by
  rcases hr with ⟨_, h1⟩ | ⟨h1, _⟩
  · rw [← oq_may_cg (oq_wN hq hw) (oq_Kb hq i hi)]; exact h1
  · exact absurd h1 c
theorem oq_fx1 {ws kd : Nat → Int32} {z v2 rv : Int32} {qm : Nat} {u : Nat → Bool} {a i : Nat} (hq : qI qm kd) (hi : i < qm) (hws : ∀ j, cnt (ws j) 600) (hr : rv = nI (oq_V (oq_W ws) (oq_b z) (oq_d (oq_c (oq_N kd) u qm) (oq_N kd i)) (oq_N kd i))) (hv2 : (v2 = -1 ∧ a = 6) ∨ (v2 = nI a ∧ a < 6)) (c : ¬ v2 = -1) : rv + ws (v2 * 6 + kd i : Int32).toNatClampNeg = nI (oq_f (oq_W ws) (oq_N kd) (oq_b z) qm u a i) := by
  rcases hv2 with ⟨h1, _⟩ | ⟨h1, h2⟩
  · exact absurd h1 c
  · have h3 := oq_Kb hq i hi
    have e : (v2 * 6 + kd i : Int32) = nI (a * 6 + oq_N kd i) := by
      rw [h1, oq_Ke hq hi]
      exact (congrArg (fun q => q + nI (oq_N kd i)) (pk_mul a 6)).trans (nI_add _ _)
    rw [e, nI_clamp (by omega), oq_We hws, hr, nI_add]
    unfold oq_f oq_w
    rw [if_neg (by omega), Nat.add_comm]
theorem oq_fx0 {ws kd : Nat → Int32} {z v2 rv : Int32} {qm : Nat} {u : Nat → Bool} {a i : Nat} (hr : rv = nI (oq_V (oq_W ws) (oq_b z) (oq_d (oq_c (oq_N kd) u qm) (oq_N kd i)) (oq_N kd i))) (hv2 : (v2 = -1 ∧ a = 6) ∨ (v2 = nI a ∧ a < 6)) (c : v2 = -1) : rv = nI (oq_f (oq_W ws) (oq_N kd) (oq_b z) qm u a i) := by
  rcases hv2 with ⟨_, h1⟩ | ⟨h1, h2⟩
  · rw [hr]
    unfold oq_f oq_w
    rw [if_pos h1, Nat.zero_add]
  · exfalso
    rw [h1] at c
    have h3 := congrArg Int32.toInt c
    rw [nI_toInt (by omega)] at h3
    have h4 : (-1 : Int32).toInt = -1 := by decide
    omega
theorem oq_fn_y {ws kd : Nat → Int32} {z : Int32} {qm : Nat} {u : Nat → Bool} {a i bs : Nat} {m5 x : Int32} (h : oq_fn ws kd z qm u a i bs m5) (hq : qI qm kd) (hi : i < qm) (hws : ∀ j, cnt (ws j) 600) (hu : u i = false) (hm : oq_may (oq_b z) (oq_c (oq_N kd) u qm) (oq_N kd i) = true) (hx : x = nI (oq_f (oq_W ws) (oq_N kd) (oq_b z) qm u a i)) (c : x < m5) : oq_fn ws kd z qm u a (i + 1) i x := by
  have h1 := oq_f_bd (b := oq_b z) (a := a) (oq_Wb hws) (oq_Kb hq) hq.1 hi hu
  have h2 := oq_pk_le (oq_f (oq_W ws) (oq_N kd) (oq_b z) qm u a) (oq_p (oq_N kd) (oq_b z) qm u) i
  rw [h.2, hx] at c
  have h3 := (nI_ltI (by omega) (by omega)).mp c
  unfold oq_fn
  rw [oq_pk_y (oq_p_i.mpr ⟨hu, hm⟩) h3]
  exact ⟨rfl, hx⟩
theorem oq_fn_g {ws kd : Nat → Int32} {z : Int32} {qm : Nat} {u : Nat → Bool} {a i bs : Nat} {m5 x : Int32} (h : oq_fn ws kd z qm u a i bs m5) (hq : qI qm kd) (hi : i < qm) (hws : ∀ j, cnt (ws j) 600) (hu : u i = false) (hx : x = nI (oq_f (oq_W ws) (oq_N kd) (oq_b z) qm u a i)) (c : ¬ x < m5) : oq_fn ws kd z qm u a (i + 1) bs m5 := by
  have h1 := oq_f_bd (b := oq_b z) (a := a) (oq_Wb hws) (oq_Kb hq) hq.1 hi hu
  have h2 := oq_pk_le (oq_f (oq_W ws) (oq_N kd) (oq_b z) qm u a) (oq_p (oq_N kd) (oq_b z) qm u) i
  rw [h.2, hx] at c
  have h3 := fun h9 => c ((nI_ltI (by omega) (by omega)).mpr h9)
  unfold oq_fn
  rw [oq_pk_g h3]
  exact h
/-- behind i of them -/
def oq_fo (ws qd kd : Nat → Int32) (qm : Nat) (z : Int32) (i : Nat) (s3 b4 om1 : Int32) (od1 us1 wt1 : Nat → Int32) : Prop := s3 = nI (oq_E (oq_c (oq_N kd) (fun _ => false) qm) (oq_c (oq_N kd) (oq_S (oq_W ws) (oq_N kd) (oq_b z) qm i).1 qm) 6) ∧ ((b4 = -1 ∧ (oq_S (oq_W ws) (oq_N kd) (oq_b z) qm i).2.1 = 6) ∨ (b4 = nI (oq_S (oq_W ws) (oq_N kd) (oq_b z) qm i).2.1 ∧ (oq_S (oq_W ws) (oq_N kd) (oq_b z) qm i).2.1 < 6)) ∧ om1 = nI (oq_S (oq_W ws) (oq_N kd) (oq_b z) qm i).2.2 ∧ (∀ j, j < i → od1 j = qd (oq_x (oq_W ws) (oq_N kd) (oq_b z) qm (oq_S (oq_W ws) (oq_N kd) (oq_b z) qm j))) ∧ (∀ j, j < qm → us1 j = (if (oq_S (oq_W ws) (oq_N kd) (oq_b z) qm i).1 j = true then 1 else 0)) ∧ ∀ k, k < 6 → wt1 k = nI (oq_c (oq_N kd) (oq_S (oq_W ws) (oq_N kd) (oq_b z) qm i).1 qm k)
theorem oq_c_mo {K : Nat → Nat} {u : Nat → Bool} {k : Nat} : ∀ n : Nat, oq_c K u n k ≤ oq_c K (fun _ => false) n k
  | 0 => Nat.le_refl _
  | n + 1 => by
    have h := oq_c_mo (K := K) (u := u) (k := k) n
    rw [oq_c_s, oq_c_s]
    by_cases e : u n = false ∧ K n = k
    · rw [if_pos e, if_pos ⟨rfl, e.2⟩]; omega
    · rw [if_neg e]; omega
theorem oq_fo_0 {ws qd kd ct wt od u1 : Nat → Int32} {qm : Nat} {z om : Int32} {n i : Nat} (hn : n + 1 = oq_s (oq_c (oq_N kd) (fun _ => false) qm) 6) (hct : ∀ k, k < 6 → ct k = nI (oq_c (oq_N kd) (fun _ => false) qm k)) (hu : ∀ j, j < i → u1 j = 0) (hi : qm ≤ i) (hom : om = 0) : oq_fo ws qd kd qm z 0 (nI n) (-1) om od u1 (va_cpy ct wt (0 : Int32).toNatClampNeg (0 : Int32).toNatClampNeg (6 : Int32).toNatClampNeg) := by
  refine ⟨?_, Or.inl ⟨rfl, rfl⟩, hom, fun j hj => absurd hj (Nat.not_lt_zero j), fun j hj => hu j (by omega), fun k hk => ?_⟩
  · have h1 := oq_E_max (oq_c (oq_N kd) (fun _ => false) qm) 6
    exact congrArg nI (show n = oq_E (oq_c (oq_N kd) (fun _ => false) qm) (oq_c (oq_N kd) (fun _ => false) qm) 6 by omega)
  · have h1 : va_cpy ct wt (0 : Int32).toNatClampNeg (0 : Int32).toNatClampNeg (6 : Int32).toNatClampNeg k = ct k := by
      show (if 0 ≤ k ∧ k < 0 + 6 then ct (0 + (k - 0)) else wt k) = ct k
      rw [if_pos ⟨by omega, by omega⟩, Nat.zero_add, Nat.sub_zero]
    rw [h1]
    exact hct k hk
/-- what holds ahead of the search for the next -/
theorem oq_fo_E {ws qd kd : Nat → Int32} {qm : Nat} {z : Int32} {i : Nat} {s3 b4 om1 : Int32} {od1 us1 wt1 : Nat → Int32} (h : oq_fo ws qd kd qm z i s3 b4 om1 od1 us1 wt1) (hq : qI qm kd) : ∃ sn : Nat, s3 = nI sn ∧ sn < oq_s (oq_c (oq_N kd) (fun _ => false) qm) 6 ∧ oq_E (oq_c (oq_N kd) (fun _ => false) qm) (oq_c (oq_N kd) (oq_S (oq_W ws) (oq_N kd) (oq_b z) qm i).1 qm) 6 = sn := ⟨_, h.1, oq_E_lt (fun k _ => oq_c_mo qm), rfl⟩
theorem oq_fo_s {ws qd kd sd : Nat → Int32} {qm : Nat} {z : Int32} {i nx : Nat} {s3 b4 om1 om2 : Int32} {od1 us1 wt1 : Nat → Int32} (h : oq_fo ws qd kd qm z i s3 b4 om1 od1 us1 wt1) (hq : qI qm kd) (hi : i < qm) (hws : ∀ j, cnt (ws j) 600) (hsd : ∀ j, j < 6 → sd j = nI (oq_s (oq_c (oq_N kd) (fun _ => false) qm) j)) (hnx : nx = oq_x (oq_W ws) (oq_N kd) (oq_b z) qm (oq_S (oq_W ws) (oq_N kd) (oq_b z) qm i)) (hom : om2 = nI ((oq_S (oq_W ws) (oq_N kd) (oq_b z) qm i).2.2 + oq_w (oq_W ws) (oq_S (oq_W ws) (oq_N kd) (oq_b z) qm i).2.1 (oq_N kd nx))) : oq_fo ws qd kd qm z (i + 1) (s3 - sd (kd nx).toNatClampNeg) (kd nx) om2 (upd od1 i (qd nx)) (upd us1 nx 1) (upd wt1 (kd nx).toNatClampNeg (wt1 (kd nx).toNatClampNeg - 1)) := by
  subst hnx
  obtain ⟨x1, x2, x3⟩ := oq_S_x (b := oq_b z) (oq_Wb hws) (oq_Kb hq) hq.1 hi
  obtain ⟨h1, h2, h3, h4, h5, h6⟩ := h
  have hk := oq_Kb hq _ x1
  have h0 := oq_c_in (K := oq_N kd) x2 x1
  have hcu := fun k => oq_c_u (K := oq_N kd) x2 k x1
  have hEd := oq_E_d (m := oq_c (oq_N kd) (fun _ => false) qm) h0 hk
  refine ⟨?_, Or.inr ⟨oq_Ke hq x1, hk⟩, hom, fun j hj => ?_, fun j hj => ?_, fun k hk6 => ?_⟩
  · show s3 - sd (oq_N kd _) = nI (oq_E _ (oq_c (oq_N kd) (oq_u _ _) qm) 6)
    rw [h1, hsd _ hk, pk_sub (by omega), oq_E_cg (fun k _ => hcu k)]
    exact congrArg nI (by omega)
  · by_cases e : j = i
    · subst e; rw [pk_us]
    · rw [pk_un e]; exact h4 j (by omega)
  · show upd us1 _ 1 j = (if oq_u _ _ j = true then 1 else 0)
    by_cases e : j = oq_x (oq_W ws) (oq_N kd) (oq_b z) qm (oq_S (oq_W ws) (oq_N kd) (oq_b z) qm i)
    · rw [e, pk_us, oq_u_s, if_pos rfl]
    · rw [pk_un e, oq_u_n e]; exact h5 j hj
  · show upd wt1 (oq_N kd _) (wt1 (oq_N kd _) - 1) k = nI (oq_c (oq_N kd) (oq_u _ _) qm k)
    rw [hcu k]
    by_cases e : k = oq_N kd (oq_x (oq_W ws) (oq_N kd) (oq_b z) qm (oq_S (oq_W ws) (oq_N kd) (oq_b z) qm i))
    · rw [e, pk_us, oq_d_s, h6 _ hk]
      exact pk_sub h0
    · rw [pk_un e, oq_d_n e]; exact h6 k hk6
theorem oq_fo_o1 {ws qd kd : Nat → Int32} {qm : Nat} {z : Int32} {i nx : Nat} {s3 b4 om1 : Int32} {od1 us1 wt1 : Nat → Int32} (h : oq_fo ws qd kd qm z i s3 b4 om1 od1 us1 wt1) (hq : qI qm kd) (hws : ∀ j, cnt (ws j) 600) (hnx : nx < qm) (c : ¬ b4 = -1) : om1 + ws (b4 * 6 + kd nx : Int32).toNatClampNeg = nI ((oq_S (oq_W ws) (oq_N kd) (oq_b z) qm i).2.2 + oq_w (oq_W ws) (oq_S (oq_W ws) (oq_N kd) (oq_b z) qm i).2.1 (oq_N kd nx)) := by
  rcases h.2.1 with ⟨h1, _⟩ | ⟨h1, h2⟩
  · exact absurd h1 c
  · have h3 := oq_Kb hq nx hnx
    have e : (b4 * 6 + kd nx : Int32) = nI ((oq_S (oq_W ws) (oq_N kd) (oq_b z) qm i).2.1 * 6 + oq_N kd nx) := by
      rw [h1, oq_Ke hq hnx]
      exact (congrArg (fun q => q + nI (oq_N kd nx)) (pk_mul (oq_S (oq_W ws) (oq_N kd) (oq_b z) qm i).2.1 6)).trans (nI_add _ _)
    rw [e, nI_clamp (by omega), oq_We hws, h.2.2.1, nI_add]
    unfold oq_w
    rw [if_neg (by omega)]
theorem oq_fo_o0 {ws qd kd : Nat → Int32} {qm : Nat} {z : Int32} {i nx : Nat} {s3 b4 om1 : Int32} {od1 us1 wt1 : Nat → Int32} (h : oq_fo ws qd kd qm z i s3 b4 om1 od1 us1 wt1) (c : b4 = -1) : om1 = nI ((oq_S (oq_W ws) (oq_N kd) (oq_b z) qm i).2.2 + oq_w (oq_W ws) (oq_S (oq_W ws) (oq_N kd) (oq_b z) qm i).2.1 (oq_N kd nx)) := by
  rcases h.2.1 with ⟨_, h1⟩ | ⟨h1, h2⟩
  · rw [h.2.2.1]
    unfold oq_w
    rw [if_pos h1, Nat.add_zero]
  · exfalso
    rw [h1] at c
    have h3 := congrArg Int32.toInt c
    rw [nI_toInt (by omega)] at h3
    have h4 : (-1 : Int32).toInt = -1 := by decide
    omega
theorem oq_fo_k {ws qd kd : Nat → Int32} {qm : Nat} {z : Int32} {i : Nat} {s3 b4 om1 : Int32} {od1 us1 wt1 : Nat → Int32} (h : oq_fo ws qd kd qm z i s3 b4 om1 od1 us1 wt1) (hi : i = qm) : oq_kn ws qd kd qm z om1 od1 := by
  subst hi
  exact ⟨h.2.2.1, h.2.2.2.1⟩
theorem oq_kn_0 {ws qd kd od : Nat → Int32} {qm : Nat} {z : Int32} (h : qm = 0) : oq_kn ws qd kd qm z 0 od := by
  subst h
  exact ⟨rfl, fun i hi => absurd hi (Nat.not_lt_zero i)⟩

theorem cl6 {v : Int32} {N : Nat} (h : cnt v N) (hN : N < 2 ^ 31 := by decide) : v.toNatClampNeg < N + 1 := by
  obtain ⟨n, hn, rfl⟩ := h
  rw [nI_clamp (by omega)]
  omega
theorem sub_toI {v : Int32} {k : Nat} (h1 : -1073741824 ≤ v.toInt ∧ v.toInt ≤ 323) (hk : k ≤ 1771561) : (v - nI k).toInt = v.toInt - k := by
  rw [Int32.toInt_sub, nI_toInt (by omega), Int.bmod_def]
  split <;> omega
theorem lo_in {v1 v2 d : Int32} (hs : -1073741824 ≤ v1.toInt ∧ v1.toInt ≤ 323) (h2 : cnt v2 5) (hd : cnt d 1771561) (hn : ¬ v1 - d < 0) : vp_in ((v1 - d) * 6 + v2) 1944 := by
  obtain ⟨k, hk, rfl⟩ := hd
  have h1 := sub_toI hs hk
  obtain ⟨j, hj, ej⟩ := nI_of hn
  rw [ej, nI_toInt hj] at h1
  rw [ej]
  exact (gr_in (A := 324) (B := 6) (vp_in_nI (show j < 324 by omega) (by decide)) (cnt_vp h2 (by decide) (by decide)) (by decide) (w := 6) (by decide) (by decide) (by decide)).1
theorem nI_st {n : Nat} (h : n ≤ 323) : -1073741824 ≤ (nI n).toInt ∧ (nI n).toInt ≤ 323 := by
  rw [nI_toInt (by omega)]
  omega
theorem oq_sdc {m : Nat → Nat} {sd : Nat → Int32} (h : ∀ j, j < 6 → sd j = nI (oq_s m j)) (hs : oq_s m 6 ≤ 324) : ∀ j, j < 6 → cnt (sd j) 1771561 := fun j hj => ⟨_, by have h1 := oq_s_le m (k := j) (n := 6) (by omega); omega, h j hj⟩

set_option maxHeartbeats 4000000 in
set_option maxRecDepth 100000 in
theorem e_countKinds (l : Launch) (dC : Nat → ClassId) (dI : Nat → Nat → Nat) (ca : Nat → ClassId) (sz : Nat) (h : Nat) (g0 : Nat) (g1 : Nat) (g2 : Nat) (g4 : Nat) (g8 : Nat) (g9 : Nat) (g10 : Nat) (g11 : Nat) (qm : Nat) (om : Int32) (kn : Int32) (kl : Int32) (lst : Option Nat) (kd : Nat → Int32) (ct : Nat → Int32) (sd : Nat → Int32) (hq : qI qm kd) : Met l yX3_countKinds (Cond.code yX3_countKinds cX3_countKinds 3 (some .int) :: gT) ({ frames := 2, cells := 0, slots := 0, locals := 83 }) (va_Pc [.ref h] (pr (dC, dI) sz [(h, .inr (3, [.ref g0, .ref g1, .ref g2, .int (nI qm), .ref g4, .int om, .int kn, .int kl, .ref g8, .ref g9, .ref g10, .ref g11, va_rf lst])), (g2, .inl (ca 0, 10, .inl kd)), (g9, .inl (ca 0, 6, .inl ct)), (g10, .inl (ca 0, 6, .inl sd))] (aT ca))) (va_Qi (fun (r : Int32) (u_ : (Nat → Int32) × (Nat → Int32)) => r = nI (oq_s (oq_c (oq_N kd) (fun _ => false) qm) 6) ∧ (∀ k, k < 6 → u_.1 k = nI (oq_c (oq_N kd) (fun _ => false) qm k)) ∧ ∀ j, j < 6 → u_.2 j = nI (oq_s (oq_c (oq_N kd) (fun _ => false) qm) j)) (fun (u_ : (Nat → Int32) × (Nat → Int32)) t => va_P (dC, dI) vwCl [(h, .inr (3, [.ref g0, .ref g1, .ref g2, .int (nI qm), .ref g4, .int om, .int kn, .int kl, .ref g8, .ref g9, .ref g10, .ref g11, va_rf lst])), (g2, .inl (ca 0, 10, .inl kd)), (g9, .inl (ca 0, 6, .inl u_.1)), (g10, .inl (ca 0, 6, .inl u_.2))] t.heap ∧ va_D (va_A [(h, .inr (3, [.ref g0, .ref g1, .ref g2, .int (nI qm), .ref g4, .int om, .int kn, .int kl, .ref g8, .ref g9, .ref g10, .ref g11, va_rf lst])), (g2, .inl (ca 0, 10, .inl kd)), (g9, .inl (ca 0, 6, .inl ct)), (g10, .inl (ca 0, 6, .inl sd))] sz) [(h, .inr (3, [.ref g0, .ref g1, .ref g2, .int (nI qm), .ref g4, .int om, .int kn, .int kl, .ref g8, .ref g9, .ref g10, .ref g11, va_rf lst])), (g2, .inl (ca 0, 10, .inl kd)), (g9, .inl (ca 0, 6, .inl u_.1)), (g10, .inl (ca 0, 6, .inl u_.2))]) (va_A [(h, .inr (3, [.ref g0, .ref g1, .ref g2, .int (nI qm), .ref g4, .int om, .int kn, .int kl, .ref g8, .ref g9, .ref g10, .ref g11, va_rf lst])), (g2, .inl (ca 0, 10, .inl kd)), (g9, .inl (ca 0, 6, .inl ct)), (g10, .inl (ca 0, 6, .inl sd))] sz)) 0 0 (va_A [(h, .inr (3, [.ref g0, .ref g1, .ref g2, .int (nI qm), .ref g4, .int om, .int kn, .int kl, .ref g8, .ref g9, .ref g10, .ref g11, va_rf lst])), (g2, .inl (ca 0, 10, .inl kd)), (g9, .inl (ca 0, 6, .inl ct)), (g10, .inl (ca 0, 6, .inl sd))] sz) := by
  refine Met.ofW (cc := cX3_countKinds) (maxL := 3) (ret := (some .int)) (by decide) rfl ?_
  intro p e s m args below meth c s₁ B hml hv
  obtain ⟨rfl, hsz, hP, hK, hD0, hE⟩ := hv
  have hx := B.exec
  have hb := B.bytes
  have hr := B.returns
  have hts : ∀ w ∈ gT, w.before _ s = true := fun w h => atoms_spec (ws := Cond.code yX3_countKinds cX3_countKinds 3 (some .int) :: gT) B.pre w (List.mem_cons_of_mem _ h)
  have hown : s.vm.findClass RX3 = some m.cls := findClass_of_methodNamed B.named
  have hlocks := B.notSynchronized
  subst hsz
  have hD := hD0.self (sz := s.heap.size)
  generalize hAe : va_A [(h, .inr (3, [.ref g0, .ref g1, .ref g2, .int (nI qm), .ref g4, .int om, .int kn, .int kl, .ref g8, .ref g9, .ref g10, .ref g11, va_rf lst])), (g2, .inl (ca 0, 10, .inl kd)), (g9, .inl (ca 0, 6, .inl ct)), (g10, .inl (ca 0, 6, .inl sd))] s.heap.size = A at hD ⊢
  have hA : ∀ q : Nat, s.heap.size ≤ q → A q := fun q h => by rw [← hAe]; exact Or.inr h
  have hS : va_S A s.heap s.heap [] := va_S.rf
  have hl := lv_entry ([.ref h]) (n := 3) (Nat.le_of_ble_eq_true rfl)
  rw [lg_entry_eq]
  generalize (lg_sl ([.ref h]) ++ List.replicate (3 - (lg_sl ([.ref h])).length) Slot.unset).toArray = ls at hl ⊢
  have hl : lv_has ls 3 [(0, .ref h)] := hl
  have hq0 := hq.1
  have hms := oq_ms hq
  refine lv_aload_n hx hb dX3_countKinds_0 rfl (lv_at hl 0 rfl) ?_
  refine va_get (D := (dC, dI)) (ci := 3) (v := .ref g9) (C := RX3) (T := TX3) (N := 13) hx hb hts inX3 hown hK hP 0 rfl rfl 9 (by decide) (hts _ mw_116) (fun _ h9 => h9) rfl dX3_countKinds_1 ?_
  refine lv_iconst (v := 0) hx hb dX3_countKinds_4 (by decide) ?_
  have hPc := hP.sub (ws' := [(g9, .inl (ca 0, 6, .inl ct))]) [2] rfl
  have hDc := hD.sub (ws' := [(g9, .inl (ca 0, 6, .inl ct))]) [2] (by decide) rfl
  have hFc := va_free (wc := [(g9, .inl (ca 0, 6, .inl ct))]) hD hS hA [2] rfl
  refine va_callv (va_runS (As := [.ref g9, .int 0]) (rest := []) ⟨hx, hb, hml, hown, hts⟩ (c_fill l dC dI ca s.heap.size g9 6 ct 0 (by first | decide | omega)) (⟨callB_of 2 hts (gd mw_42) rfl rfl rfl (hts _ mw_3) (hts _ mw_817) ds_J7_fill_53178 ⟨Nat.le_of_ble_eq_true rfl, Nat.le_of_ble_eq_true rfl⟩, (hts _ mw_41)⟩) (pr_S hPc hK hDc hE) rfl rfl hl.1 rfl (lv_room (Nat.le_of_ble_eq_true rfl)) dX3_countKinds_5 ⟨Nat.le_of_ble_eq_true rfl, Nat.le_of_ble_eq_true rfl⟩) hS (fun q _ h => hFc q h) hFc (fun u_ t_ H1 locs ht hvm hw_ hB hz1 hk1 hS => ?_)
  obtain ⟨hP1, hD1⟩ := hB
  rw [ht] at hP1
  obtain ⟨hP, hD⟩ := va_join (wr := [(h, .inr (3, [.ref g0, .ref g1, .ref g2, .int (nI qm), .ref g4, .int om, .int kn, .int kl, .ref g8, .ref g9, .ref g10, .ref g11, va_rf lst])), (g2, .inl (ca 0, 10, .inl kd)), (g10, .inl (ca 0, 6, .inl sd))]) (w1 := [(g9, .inl (ca 0, 6, .inl (flg ct 0 6)))]) hP hD [2] [0, 1, 3] rfl rfl (by decide) (by decide) hk1 hFc hP1 hD1
  generalize H1 = H at hP hS ⊢
  obtain ⟨hP, hD⟩ := va_bo [(h, .inr (3, [.ref g0, .ref g1, .ref g2, .int (nI qm), .ref g4, .int om, .int kn, .int kl, .ref g8, .ref g9, .ref g10, .ref g11, va_rf lst])), (g2, .inl (ca 0, 10, .inl kd)), (g10, .inl (ca 0, 6, .inl sd)), (g9, .inl (ca 0, 6, .inl (flg ct 0 6)))] hP hD
  refine lv_iconst (v := 0) hx hb dX3_countKinds_8 (by decide) ?_
  refine lv_istore_n (lv' := [(1, .int 0), (0, .ref h)]) hx hb dX3_countKinds_9 rfl hl (by decide) rfl (fun ls hl => ?_)
  refine wl_loop (fun (z_ : Nat × (Nat → Int32)) H locs ls => (z_.1 ≤ qm ∧ ∀ k, k < 6 → z_.2 k = nI (oq_c (oq_N kd) (fun _ => false) z_.1 k)) ∧ va_P (dC, dI) vwCl [(h, .inr (3, [.ref g0, .ref g1, .ref g2, .int (nI qm), .ref g4, .int om, .int kn, .int kl, .ref g8, .ref g9, .ref g10, .ref g11, va_rf lst])), (g2, .inl (ca 0, 10, .inl kd)), (g10, .inl (ca 0, 6, .inl sd)), (g9, .inl (ca 0, 6, .inl z_.2))] H ∧ va_D A [(h, .inr (3, [.ref g0, .ref g1, .ref g2, .int (nI qm), .ref g4, .int om, .int kn, .int kl, .ref g8, .ref g9, .ref g10, .ref g11, va_rf lst])), (g2, .inl (ca 0, 10, .inl kd)), (g10, .inl (ca 0, 6, .inl sd)), (g9, .inl (ca 0, 6, .inl z_.2))] ∧ va_S A s.heap H locs ∧ lv_has ls 3 [(1, .int (nI z_.1)), (0, .ref h)]) (fun (z_ : Nat × (Nat → Int32)) => qm - z_.1) (fun z_ H locs ls hI ih => ?_) (0, (flg ct 0 6)) ⟨⟨Nat.zero_le _, oq_c0⟩, hP, hD, hS, lv_sub hl [0, 1] rfl⟩
  obtain ⟨i, c1_⟩ := z_
  dsimp only at hI ih
  obtain ⟨⟨hi, hc⟩, hP, hD, hS, hl⟩ := hI
  refine lv_iload_n hx hb dX3_countKinds_10 rfl (lv_at hl 0 rfl) ?_
  refine lv_aload_n hx hb dX3_countKinds_11 rfl (lv_at hl 1 rfl) ?_
  refine va_get (D := (dC, dI)) (ci := 3) (v := .int (nI qm)) (C := RX3) (T := TX3) (N := 13) hx hb hts inX3 hown hK hP 0 rfl rfl 3 (by decide) (hts _ mw_107) (fun _ h9 => h9) rfl dX3_countKinds_12 ?_
  refine lv_icmp_ge (tgt := 39) hx hb dX3_countKinds_15 (by decide) (fun c_2 => ?_) (fun c_2 => ?_)
  · have nc_2 : qm ≤ i := (nI_leI (a := qm) (b := i) (by omega) (by omega)).mp c_2
    refine lv_iconst (v := 1) hx hb dX3_countKinds_39 (by decide) ?_
    refine lv_istore_n (lv' := [(1, .int 1), (0, .ref h)]) hx hb dX3_countKinds_40 rfl hl (by decide) rfl (fun ls hl => ?_)
    refine lv_iconst (v := 0) hx hb dX3_countKinds_41 (by decide) ?_
    refine lv_istore_n (lv' := [(2, .int 0), (1, .int 1), (0, .ref h)]) hx hb dX3_countKinds_42 rfl hl (by decide) rfl (fun ls hl => ?_)
    refine wl_loop (fun (z_ : Nat × Nat × (Nat → Int32)) H locs ls => (z_.1 ≤ 6 ∧ z_.2.1 = oq_s (oq_c (oq_N kd) (fun _ => false) qm) z_.1 ∧ ∀ j, j < z_.1 → z_.2.2 j = nI (oq_s (oq_c (oq_N kd) (fun _ => false) qm) j)) ∧ va_P (dC, dI) vwCl [(h, .inr (3, [.ref g0, .ref g1, .ref g2, .int (nI qm), .ref g4, .int om, .int kn, .int kl, .ref g8, .ref g9, .ref g10, .ref g11, va_rf lst])), (g2, .inl (ca 0, 10, .inl kd)), (g10, .inl (ca 0, 6, .inl z_.2.2)), (g9, .inl (ca 0, 6, .inl c1_))] H ∧ va_D A [(h, .inr (3, [.ref g0, .ref g1, .ref g2, .int (nI qm), .ref g4, .int om, .int kn, .int kl, .ref g8, .ref g9, .ref g10, .ref g11, va_rf lst])), (g2, .inl (ca 0, 10, .inl kd)), (g10, .inl (ca 0, 6, .inl z_.2.2)), (g9, .inl (ca 0, 6, .inl c1_))] ∧ va_S A s.heap H locs ∧ lv_has ls 3 [(2, .int (nI z_.1)), (1, .int (nI z_.2.1)), (0, .ref h)]) (fun (z_ : Nat × Nat × (Nat → Int32)) => 6 - z_.1) (fun z_ H locs ls hI ih43 => ?_) (0, 1, sd) ⟨⟨Nat.zero_le _, rfl, fun j hj => absurd hj (Nat.not_lt_zero j)⟩, hP, hD, hS, lv_sub hl [0, 1, 2] rfl⟩
    obtain ⟨k, tp, d1_⟩ := z_
    dsimp only at hI ih43
    obtain ⟨⟨hk, ht1, hd⟩, hP, hD, hS, hl⟩ := hI
    have htb : tp ≤ 324 := by rw [ht1]; exact Nat.le_trans (oq_s_le _ hk) hms
    refine lv_iload_n hx hb dX3_countKinds_43 rfl (lv_at hl 0 rfl) ?_
    refine lv_bipush (v := 6) hx hb dX3_countKinds_44 (by decide) ?_
    refine lv_icmp_ge (tgt := 73) hx hb dX3_countKinds_46 (by decide) (fun c_3 => ?_) (fun c_3 => ?_)
    · have nc_3 : 6 ≤ k := (nI_leI (a := 6) (b := k) (by omega) (by omega)).mp c_3
      refine lv_iload_n hx hb dX3_countKinds_73 rfl (lv_at hl 1 rfl) ?_
      refine lv_sipush (v := 324) hx hb dX3_countKinds_74 (by decide) ?_
      refine va_mmin hx hb (by rw [hml]; exact hl.1.symm) hown (hts _ mw_818) (hts _ mw_442) (hts _ mw_12) (hts _ mmin_code) (Nat.le_of_ble_eq_true rfl) (Nat.le_of_ble_eq_true rfl) (Nat.le_of_ble_eq_true rfl) (Nat.le_of_ble_eq_true rfl) dX3_countKinds_77 ?_
      refine lv_topi (fun y_ e_ => ?_)
      obtain rfl : y_ = (nI (min tp 324)) := e_.trans (nI_min (a := tp) (b := 324) (by omega) (by omega))
      refine W.widen (k := 0) (n := 0) (Nat.le_of_ble_eq_true rfl) (Nat.le_of_ble_eq_true rfl) ?_
      have hP9 : va_P (dC, dI) vwCl [(h, .inr (3, [.ref g0, .ref g1, .ref g2, .int (nI qm), .ref g4, .int om, .int kn, .int kl, .ref g8, .ref g9, .ref g10, .ref g11, va_rf lst])), (g2, .inl (ca 0, 10, .inl kd)), (g9, .inl (ca 0, 6, .inl c1_)), (g10, .inl (ca 0, 6, .inl d1_))] H := va_P.sub hP [0, 1, 3, 2] rfl
      have hD9 : va_D A [(h, .inr (3, [.ref g0, .ref g1, .ref g2, .int (nI qm), .ref g4, .int om, .int kn, .int kl, .ref g8, .ref g9, .ref g10, .ref g11, va_rf lst])), (g2, .inl (ca 0, 10, .inl kd)), (g9, .inl (ca 0, 6, .inl c1_)), (g10, .inl (ca 0, 6, .inl d1_))] := va_D.sub hD [0, 1, 3, 2] (by decide) rfl
      exact W.iret (v := (nI (min tp 324))) hx hb hr (fun t ht hW => ⟨⟨(nI (min tp 324)), (c1_, d1_), rfl, ⟨congrArg nI (show min tp 324 = oq_s (oq_c (oq_N kd) (fun _ => false) qm) 6 by rw [Nat.min_eq_left htb, ht1, show k = 6 by omega]), fun k9 hk9 => (hc k9 hk9).trans (by rw [show i = qm by omega]), fun j hj => hd j (by omega)⟩, by rw [ht]; dsimp only; exact hP9, by dsimp only; exact hD9⟩, hS.F ht⟩) hS.2.2 dX3_countKinds_80
    · have nc_3 : ¬ (6 ≤ k) := fun h9 => c_3 ((nI_leI (a := 6) (b := k) (by omega) (by omega)).mpr h9)
      refine lv_aload_n hx hb dX3_countKinds_49 rfl (lv_at hl 2 rfl) ?_
      refine va_get (D := (dC, dI)) (ci := 3) (v := .ref g10) (C := RX3) (T := TX3) (N := 13) hx hb hts inX3 hown hK hP 0 rfl rfl 10 (by decide) (hts _ mw_117) (fun _ h9 => h9) rfl dX3_countKinds_50 ?_
      refine lv_iload_n hx hb dX3_countKinds_53 rfl (lv_at hl 0 rfl) ?_
      refine lv_iload_n hx hb dX3_countKinds_54 rfl (lv_at hl 1 rfl) ?_
      refine va_iast hx hb hK hP hD hS 2 0 rfl rfl (vp_in_nI (show k < 6 by omega) (by first | decide | omega)) dX3_countKinds_55 (fun H locs hP hD hS => ?_)
      rw [(show ((nI k) : Int32).toNatClampNeg = k from nI_clamp (by omega))] at hP hD
      obtain ⟨hP, hD⟩ := va_bo [(h, .inr (3, [.ref g0, .ref g1, .ref g2, .int (nI qm), .ref g4, .int om, .int kn, .int kl, .ref g8, .ref g9, .ref g10, .ref g11, va_rf lst])), (g2, .inl (ca 0, 10, .inl kd)), (g10, .inl (ca 0, 6, .inl (upd d1_ k (nI tp)))), (g9, .inl (ca 0, 6, .inl c1_))] hP hD
      refine lv_iload_n hx hb dX3_countKinds_56 rfl (lv_at hl 1 rfl) ?_
      refine lv_aload_n hx hb dX3_countKinds_57 rfl (lv_at hl 2 rfl) ?_
      refine va_get (D := (dC, dI)) (ci := 3) (v := .ref g9) (C := RX3) (T := TX3) (N := 13) hx hb hts inX3 hown hK hP 0 rfl rfl 9 (by decide) (hts _ mw_116) (fun _ h9 => h9) rfl dX3_countKinds_58 ?_
      refine lv_iload_n hx hb dX3_countKinds_61 rfl (lv_at hl 0 rfl) ?_
      refine va_iald hx hb hK hP 3 0 rfl rfl (vp_in_nI (show k < 6 by omega) (by first | decide | omega)) dX3_countKinds_62 ?_
      refine lv_topi (fun y_ e_ => ?_)
      obtain rfl : y_ = (c1_ k) := e_.trans (congrArg c1_ (show ((nI k) : Int32).toNatClampNeg = k from nI_clamp (by omega)))
      have hm9 := oq_c_le (oq_N kd) (fun _ => false) k qm
      obtain ⟨n9, hn9⟩ : ∃ q : Nat, q = oq_c (oq_N kd) (fun _ => false) qm k := ⟨_, rfl⟩
      have en9 := (hc k (by omega)).trans (congrArg nI (show oq_c (oq_N kd) (fun _ => false) i k = n9 by rw [hn9, show i = qm by omega]))
      refine lv_topi (fun y_ e_ => ?_)
      obtain rfl : y_ = (nI n9) := e_.trans en9
      refine lv_iconst (v := 1) hx hb dX3_countKinds_63 (by decide) ?_
      refine lv_iadd hx hb dX3_countKinds_64 ?_
      refine lv_topi (fun y_ e_ => ?_)
      obtain rfl : y_ = (nI (n9 + 1)) := e_.trans (nI_add (n9) (1))
      refine lv_imul hx hb dX3_countKinds_65 ?_
      refine lv_topi (fun y_ e_ => ?_)
      obtain rfl : y_ = (nI (tp * (n9 + 1))) := e_.trans (pk_mul (tp) (n9 + 1))
      refine lv_istore_n (lv' := [(1, .int (nI (tp * (n9 + 1)))), (2, .int (nI k)), (0, .ref h)]) hx hb dX3_countKinds_66 rfl hl (by decide) rfl (fun ls hl => ?_)
      refine lv_iinc (v := (nI (k + 1))) (lv' := [(2, .int (nI (k + 1))), (1, .int (nI (tp * (n9 + 1)))), (0, .ref h)]) hx hb dX3_countKinds_67 hl (k := 1) rfl (nI_add (k) 1) (by decide) rfl (fun ls hl => ?_)
      refine lv_goto (tgt := 43) hx hb dX3_countKinds_70 (by decide) ?_
      exact ih43 (k + 1, tp * (n9 + 1), (upd d1_ k (nI tp))) _ _ _ (by omega) ⟨⟨by first | omega | (dsimp only; omega), (by rw [ht1, hn9]; rfl), oq_sd hd ht1⟩, hP, hD, hS, lv_sub hl [0, 1, 2] rfl⟩
  · have nc_2 : ¬ (qm ≤ i) := fun h9 => c_2 ((nI_leI (a := qm) (b := i) (by omega) (by omega)).mpr h9)
    refine lv_aload_n hx hb dX3_countKinds_18 rfl (lv_at hl 1 rfl) ?_
    refine va_get (D := (dC, dI)) (ci := 3) (v := .ref g9) (C := RX3) (T := TX3) (N := 13) hx hb hts inX3 hown hK hP 0 rfl rfl 9 (by decide) (hts _ mw_116) (fun _ h9 => h9) rfl dX3_countKinds_19 ?_
    refine lv_aload_n hx hb dX3_countKinds_22 rfl (lv_at hl 1 rfl) ?_
    refine va_get (D := (dC, dI)) (ci := 3) (v := .ref g2) (C := RX3) (T := TX3) (N := 13) hx hb hts inX3 hown hK hP 0 rfl rfl 2 (by decide) (hts _ mw_106) (fun _ h9 => h9) rfl dX3_countKinds_23 ?_
    refine lv_iload_n hx hb dX3_countKinds_26 rfl (lv_at hl 0 rfl) ?_
    refine va_iald hx hb hK hP 1 0 rfl rfl (vp_in_nI (show i < 10 by omega) (by first | decide | omega)) dX3_countKinds_27 ?_
    refine lv_topi (fun y_ e_ => ?_)
    obtain rfl : y_ = (kd i) := e_.trans (congrArg kd (show ((nI i) : Int32).toNatClampNeg = i from nI_clamp (by omega)))
    refine lv_dup2_11 hx hb dX3_countKinds_28 rfl rfl ?_
    refine va_iald hx hb hK hP 3 0 rfl rfl (cnt_vp (hq.2 i (by omega)) (by decide) (by decide)) dX3_countKinds_29 ?_
    refine lv_iconst (v := 1) hx hb dX3_countKinds_30 (by decide) ?_
    refine lv_iadd hx hb dX3_countKinds_31 ?_
    refine va_iast hx hb hK hP hD hS 3 0 rfl rfl (cnt_vp (hq.2 i (by omega)) (by decide) (by decide)) dX3_countKinds_32 (fun H locs hP hD hS => ?_)
    obtain ⟨hP, hD⟩ := va_bo [(h, .inr (3, [.ref g0, .ref g1, .ref g2, .int (nI qm), .ref g4, .int om, .int kn, .int kl, .ref g8, .ref g9, .ref g10, .ref g11, va_rf lst])), (g2, .inl (ca 0, 10, .inl kd)), (g10, .inl (ca 0, 6, .inl sd)), (g9, .inl (ca 0, 6, .inl (upd c1_ ((kd i) : Int32).toNatClampNeg ((c1_ ((kd i) : Int32).toNatClampNeg) + 1))))] hP hD
    refine lv_iinc (v := (nI (i + 1))) (lv' := [(1, .int (nI (i + 1))), (0, .ref h)]) hx hb dX3_countKinds_33 hl (k := 0) rfl (nI_add (i) 1) (by decide) rfl (fun ls hl => ?_)
    refine lv_goto (tgt := 10) hx hb dX3_countKinds_36 (by decide) ?_
    exact ih (i + 1, (upd c1_ ((kd i) : Int32).toNatClampNeg ((c1_ ((kd i) : Int32).toNatClampNeg) + 1))) _ _ _ (by omega) ⟨⟨by omega, oq_ck hc⟩, hP, hD, hS, lv_sub hl [0, 1] rfl⟩

set_option maxHeartbeats 4000000 in
set_option maxRecDepth 100000 in
theorem e_countOn (l : Launch) (dC : Nat → ClassId) (dI : Nat → Nat → Nat) (ca : Nat → ClassId) (sz : Nat) (h : Nat) (g0 : Nat) (g1 : Nat) (g2 : Nat) (g4 : Nat) (g8 : Nat) (g9 : Nat) (g10 : Nat) (g11 : Nat) (qm : Nat) (om : Int32) (kn : Int32) (kl : Int32) (lst : Option Nat) (ct : Nat → Int32) (wt : Nat → Int32) (mm_ : Nat → Nat) (hdg : oq_dg mm_ wt) (hmm : oq_m mm_ ct) (hE_ : oq_E mm_ (oq_N wt) 6 + 1 < oq_s mm_ 6) : Met l yX3_countOn (Cond.code yX3_countOn cX3_countOn 2 none :: gT) ({ frames := 1, cells := 0, slots := 0, locals := 60 }) (va_Pc [.ref h] (pr (dC, dI) sz [(h, .inr (3, [.ref g0, .ref g1, .ref g2, .int (nI qm), .ref g4, .int om, .int kn, .int kl, .ref g8, .ref g9, .ref g10, .ref g11, va_rf lst])), (g9, .inl (ca 0, 6, .inl ct)), (g11, .inl (ca 0, 6, .inl wt))] (aT ca))) (va_Qv (fun (u_ : (Nat → Int32)) => oq_dg mm_ u_ ∧ oq_E mm_ (oq_N u_) 6 = oq_E mm_ (oq_N wt) 6 + 1) (fun (u_ : (Nat → Int32)) t => va_P (dC, dI) vwCl [(h, .inr (3, [.ref g0, .ref g1, .ref g2, .int (nI qm), .ref g4, .int om, .int kn, .int kl, .ref g8, .ref g9, .ref g10, .ref g11, va_rf lst])), (g9, .inl (ca 0, 6, .inl ct)), (g11, .inl (ca 0, 6, .inl u_))] t.heap ∧ va_D (va_A [(h, .inr (3, [.ref g0, .ref g1, .ref g2, .int (nI qm), .ref g4, .int om, .int kn, .int kl, .ref g8, .ref g9, .ref g10, .ref g11, va_rf lst])), (g9, .inl (ca 0, 6, .inl ct)), (g11, .inl (ca 0, 6, .inl wt))] sz) [(h, .inr (3, [.ref g0, .ref g1, .ref g2, .int (nI qm), .ref g4, .int om, .int kn, .int kl, .ref g8, .ref g9, .ref g10, .ref g11, va_rf lst])), (g9, .inl (ca 0, 6, .inl ct)), (g11, .inl (ca 0, 6, .inl u_))]) (va_A [(h, .inr (3, [.ref g0, .ref g1, .ref g2, .int (nI qm), .ref g4, .int om, .int kn, .int kl, .ref g8, .ref g9, .ref g10, .ref g11, va_rf lst])), (g9, .inl (ca 0, 6, .inl ct)), (g11, .inl (ca 0, 6, .inl wt))] sz)) 0 0 (va_A [(h, .inr (3, [.ref g0, .ref g1, .ref g2, .int (nI qm), .ref g4, .int om, .int kn, .int kl, .ref g8, .ref g9, .ref g10, .ref g11, va_rf lst])), (g9, .inl (ca 0, 6, .inl ct)), (g11, .inl (ca 0, 6, .inl wt))] sz) := by
  refine Met.ofW (cc := cX3_countOn) (maxL := 2) (ret := none) (by decide) rfl ?_
  intro p e s m args below meth c s₁ B hml hv
  obtain ⟨rfl, hsz, hP, hK, hD0, hE⟩ := hv
  have hx := B.exec
  have hb := B.bytes
  have hr := B.returns
  have hts : ∀ w ∈ gT, w.before _ s = true := fun w h => atoms_spec (ws := Cond.code yX3_countOn cX3_countOn 2 none :: gT) B.pre w (List.mem_cons_of_mem _ h)
  have hown : s.vm.findClass RX3 = some m.cls := findClass_of_methodNamed B.named
  have hlocks := B.notSynchronized
  subst hsz
  have hD := hD0.self (sz := s.heap.size)
  generalize hAe : va_A [(h, .inr (3, [.ref g0, .ref g1, .ref g2, .int (nI qm), .ref g4, .int om, .int kn, .int kl, .ref g8, .ref g9, .ref g10, .ref g11, va_rf lst])), (g9, .inl (ca 0, 6, .inl ct)), (g11, .inl (ca 0, 6, .inl wt))] s.heap.size = A at hD ⊢
  have hA : ∀ q : Nat, s.heap.size ≤ q → A q := fun q h => by rw [← hAe]; exact Or.inr h
  have hS : va_S A s.heap s.heap [] := va_S.rf
  have hl := lv_entry ([.ref h]) (n := 2) (Nat.le_of_ble_eq_true rfl)
  rw [lg_entry_eq]
  generalize (lg_sl ([.ref h]) ++ List.replicate (2 - (lg_sl ([.ref h])).length) Slot.unset).toArray = ls at hl ⊢
  have hl : lv_has ls 2 [(0, .ref h)] := hl
  refine lv_iconst (v := 0) hx hb dX3_countOn_0 (by decide) ?_
  refine lv_istore_n (lv' := [(1, .int 0), (0, .ref h)]) hx hb dX3_countOn_1 rfl hl (by decide) rfl (fun ls hl => ?_)
  refine wl_loop (fun (z_ : Nat × (Nat → Int32)) H locs ls => (z_.1 ≤ 5 ∧ oq_co mm_ wt z_.2 z_.1) ∧ va_P (dC, dI) vwCl [(h, .inr (3, [.ref g0, .ref g1, .ref g2, .int (nI qm), .ref g4, .int om, .int kn, .int kl, .ref g8, .ref g9, .ref g10, .ref g11, va_rf lst])), (g9, .inl (ca 0, 6, .inl ct)), (g11, .inl (ca 0, 6, .inl z_.2))] H ∧ va_D A [(h, .inr (3, [.ref g0, .ref g1, .ref g2, .int (nI qm), .ref g4, .int om, .int kn, .int kl, .ref g8, .ref g9, .ref g10, .ref g11, va_rf lst])), (g9, .inl (ca 0, 6, .inl ct)), (g11, .inl (ca 0, 6, .inl z_.2))] ∧ va_S A s.heap H locs ∧ lv_has ls 2 [(1, .int (nI z_.1)), (0, .ref h)]) (fun (z_ : Nat × (Nat → Int32)) => 5 - z_.1) (fun z_ H locs ls hI ih => ?_) (0, wt) ⟨⟨Nat.zero_le _, oq_co_0⟩, hP, hD, hS, lv_sub hl [0, 1] rfl⟩
  obtain ⟨i, w1_⟩ := z_
  dsimp only at hI ih
  obtain ⟨⟨hi, hco⟩, hP, hD, hS, hl⟩ := hI
  refine lv_iload_n hx hb dX3_countOn_2 rfl (lv_at hl 0 rfl) ?_
  refine lv_iconst (v := 5) hx hb dX3_countOn_3 (by decide) ?_
  refine lv_icmp_ge (tgt := 35) hx hb dX3_countOn_4 (by decide) (fun c_1 => ?_) (fun c_1 => ?_)
  · have nc_1 : 5 ≤ i := (nI_leI (a := 5) (b := i) (by omega) (by omega)).mp c_1
    refine lv_aload_n hx hb dX3_countOn_35 rfl (lv_at hl 1 rfl) ?_
    refine va_get (D := (dC, dI)) (ci := 3) (v := .ref g11) (C := RX3) (T := TX3) (N := 13) hx hb hts inX3 hown hK hP 0 rfl rfl 11 (by decide) (hts _ mw_118) (fun _ h9 => h9) rfl dX3_countOn_36 ?_
    refine lv_iload_n hx hb dX3_countOn_39 rfl (lv_at hl 0 rfl) ?_
    refine lv_dup2_11 hx hb dX3_countOn_40 rfl rfl ?_
    refine va_iald hx hb hK hP 2 0 rfl rfl (vp_in_nI (show i < 6 by omega) (by first | decide | omega)) dX3_countOn_41 ?_
    refine lv_topi (fun y_ e_ => ?_)
    obtain rfl : y_ = (w1_ i) := e_.trans (congrArg w1_ (show ((nI i) : Int32).toNatClampNeg = i from nI_clamp (by omega)))
    refine lv_iconst (v := 1) hx hb dX3_countOn_42 (by decide) ?_
    refine lv_iadd hx hb dX3_countOn_43 ?_
    refine va_iast hx hb hK hP hD hS 2 0 rfl rfl (vp_in_nI (show i < 6 by omega) (by first | decide | omega)) dX3_countOn_44 (fun H locs hP hD hS => ?_)
    rw [(show ((nI i) : Int32).toNatClampNeg = i from nI_clamp (by omega))] at hP hD
    obtain ⟨hP, hD⟩ := va_bo [(h, .inr (3, [.ref g0, .ref g1, .ref g2, .int (nI qm), .ref g4, .int om, .int kn, .int kl, .ref g8, .ref g9, .ref g10, .ref g11, va_rf lst])), (g9, .inl (ca 0, 6, .inl ct)), (g11, .inl (ca 0, 6, .inl (upd w1_ i ((w1_ i) + 1))))] hP hD
    refine W.widen (k := 0) (n := 0) (Nat.le_of_ble_eq_true rfl) (Nat.le_of_ble_eq_true rfl) ?_
    have hP9 : va_P (dC, dI) vwCl [(h, .inr (3, [.ref g0, .ref g1, .ref g2, .int (nI qm), .ref g4, .int om, .int kn, .int kl, .ref g8, .ref g9, .ref g10, .ref g11, va_rf lst])), (g9, .inl (ca 0, 6, .inl ct)), (g11, .inl (ca 0, 6, .inl (upd w1_ i ((w1_ i) + 1))))] H := va_P.sub hP [0, 1, 2] rfl
    have hD9 : va_D A [(h, .inr (3, [.ref g0, .ref g1, .ref g2, .int (nI qm), .ref g4, .int om, .int kn, .int kl, .ref g8, .ref g9, .ref g10, .ref g11, va_rf lst])), (g9, .inl (ca 0, 6, .inl ct)), (g11, .inl (ca 0, 6, .inl (upd w1_ i ((w1_ i) + 1))))] := va_D.sub hD [0, 1, 2] (by decide) rfl
    exact W.vret hx hb hr (fun t ht hW => ⟨⟨(upd w1_ i ((w1_ i) + 1)), rfl, oq_co_e hco hdg hmm (by omega) hE_ (Or.inl (by omega)), by rw [ht]; exact hP9, hD9⟩, hS.F ht⟩) hS.2.2 dX3_countOn_45
  · have nc_1 : ¬ (5 ≤ i) := fun h9 => c_1 ((nI_leI (a := 5) (b := i) (by omega) (by omega)).mpr h9)
    refine lv_aload_n hx hb dX3_countOn_7 rfl (lv_at hl 1 rfl) ?_
    refine va_get (D := (dC, dI)) (ci := 3) (v := .ref g11) (C := RX3) (T := TX3) (N := 13) hx hb hts inX3 hown hK hP 0 rfl rfl 11 (by decide) (hts _ mw_118) (fun _ h9 => h9) rfl dX3_countOn_8 ?_
    refine lv_iload_n hx hb dX3_countOn_11 rfl (lv_at hl 0 rfl) ?_
    refine va_iald hx hb hK hP 2 0 rfl rfl (vp_in_nI (show i < 6 by omega) (by first | decide | omega)) dX3_countOn_12 ?_
    refine lv_topi (fun y_ e_ => ?_)
    obtain rfl : y_ = (w1_ i) := e_.trans (congrArg w1_ (show ((nI i) : Int32).toNatClampNeg = i from nI_clamp (by omega)))
    refine lv_aload_n hx hb dX3_countOn_13 rfl (lv_at hl 1 rfl) ?_
    refine va_get (D := (dC, dI)) (ci := 3) (v := .ref g9) (C := RX3) (T := TX3) (N := 13) hx hb hts inX3 hown hK hP 0 rfl rfl 9 (by decide) (hts _ mw_116) (fun _ h9 => h9) rfl dX3_countOn_14 ?_
    refine lv_iload_n hx hb dX3_countOn_17 rfl (lv_at hl 0 rfl) ?_
    refine va_iald hx hb hK hP 1 0 rfl rfl (vp_in_nI (show i < 6 by omega) (by first | decide | omega)) dX3_countOn_18 ?_
    refine lv_topi (fun y_ e_ => ?_)
    obtain rfl : y_ = (ct i) := e_.trans (congrArg ct (show ((nI i) : Int32).toNatClampNeg = i from nI_clamp (by omega)))
    refine lv_icmp_lt (tgt := 35) hx hb dX3_countOn_19 (by decide) (fun c_2 => ?_) (fun c_2 => ?_)
    · refine lv_aload_n hx hb dX3_countOn_35 rfl (lv_at hl 1 rfl) ?_
      refine va_get (D := (dC, dI)) (ci := 3) (v := .ref g11) (C := RX3) (T := TX3) (N := 13) hx hb hts inX3 hown hK hP 0 rfl rfl 11 (by decide) (hts _ mw_118) (fun _ h9 => h9) rfl dX3_countOn_36 ?_
      refine lv_iload_n hx hb dX3_countOn_39 rfl (lv_at hl 0 rfl) ?_
      refine lv_dup2_11 hx hb dX3_countOn_40 rfl rfl ?_
      refine va_iald hx hb hK hP 2 0 rfl rfl (vp_in_nI (show i < 6 by omega) (by first | decide | omega)) dX3_countOn_41 ?_
      refine lv_topi (fun y_ e_ => ?_)
      obtain rfl : y_ = (w1_ i) := e_.trans (congrArg w1_ (show ((nI i) : Int32).toNatClampNeg = i from nI_clamp (by omega)))
      refine lv_iconst (v := 1) hx hb dX3_countOn_42 (by decide) ?_
      refine lv_iadd hx hb dX3_countOn_43 ?_
      refine va_iast hx hb hK hP hD hS 2 0 rfl rfl (vp_in_nI (show i < 6 by omega) (by first | decide | omega)) dX3_countOn_44 (fun H locs hP hD hS => ?_)
      rw [(show ((nI i) : Int32).toNatClampNeg = i from nI_clamp (by omega))] at hP hD
      obtain ⟨hP, hD⟩ := va_bo [(h, .inr (3, [.ref g0, .ref g1, .ref g2, .int (nI qm), .ref g4, .int om, .int kn, .int kl, .ref g8, .ref g9, .ref g10, .ref g11, va_rf lst])), (g9, .inl (ca 0, 6, .inl ct)), (g11, .inl (ca 0, 6, .inl (upd w1_ i ((w1_ i) + 1))))] hP hD
      refine W.widen (k := 0) (n := 0) (Nat.le_of_ble_eq_true rfl) (Nat.le_of_ble_eq_true rfl) ?_
      have hP9 : va_P (dC, dI) vwCl [(h, .inr (3, [.ref g0, .ref g1, .ref g2, .int (nI qm), .ref g4, .int om, .int kn, .int kl, .ref g8, .ref g9, .ref g10, .ref g11, va_rf lst])), (g9, .inl (ca 0, 6, .inl ct)), (g11, .inl (ca 0, 6, .inl (upd w1_ i ((w1_ i) + 1))))] H := va_P.sub hP [0, 1, 2] rfl
      have hD9 : va_D A [(h, .inr (3, [.ref g0, .ref g1, .ref g2, .int (nI qm), .ref g4, .int om, .int kn, .int kl, .ref g8, .ref g9, .ref g10, .ref g11, va_rf lst])), (g9, .inl (ca 0, 6, .inl ct)), (g11, .inl (ca 0, 6, .inl (upd w1_ i ((w1_ i) + 1))))] := va_D.sub hD [0, 1, 2] (by decide) rfl
      exact W.vret hx hb hr (fun t ht hW => ⟨⟨(upd w1_ i ((w1_ i) + 1)), rfl, oq_co_e hco hdg hmm (by omega) hE_ (Or.inr c_2), by rw [ht]; exact hP9, hD9⟩, hS.F ht⟩) hS.2.2 dX3_countOn_45
    · refine lv_aload_n hx hb dX3_countOn_22 rfl (lv_at hl 1 rfl) ?_
      refine va_get (D := (dC, dI)) (ci := 3) (v := .ref g11) (C := RX3) (T := TX3) (N := 13) hx hb hts inX3 hown hK hP 0 rfl rfl 11 (by decide) (hts _ mw_118) (fun _ h9 => h9) rfl dX3_countOn_23 ?_
      refine lv_iload_n hx hb dX3_countOn_26 rfl (lv_at hl 0 rfl) ?_
      refine lv_iconst (v := 0) hx hb dX3_countOn_27 (by decide) ?_
      refine va_iast hx hb hK hP hD hS 2 0 rfl rfl (vp_in_nI (show i < 6 by omega) (by first | decide | omega)) dX3_countOn_28 (fun H locs hP hD hS => ?_)
      rw [(show ((nI i) : Int32).toNatClampNeg = i from nI_clamp (by omega))] at hP hD
      obtain ⟨hP, hD⟩ := va_bo [(h, .inr (3, [.ref g0, .ref g1, .ref g2, .int (nI qm), .ref g4, .int om, .int kn, .int kl, .ref g8, .ref g9, .ref g10, .ref g11, va_rf lst])), (g9, .inl (ca 0, 6, .inl ct)), (g11, .inl (ca 0, 6, .inl (upd w1_ i 0)))] hP hD
      refine lv_iinc (v := (nI (i + 1))) (lv' := [(1, .int (nI (i + 1))), (0, .ref h)]) hx hb dX3_countOn_29 hl (k := 0) rfl (nI_add (i) 1) (by decide) rfl (fun ls hl => ?_)
      refine lv_goto (tgt := 2) hx hb dX3_countOn_32 (by decide) ?_
      exact ih (i + 1, (upd w1_ i 0)) _ _ _ (by omega) ⟨⟨by omega, oq_co_s hco hdg hmm (by omega) c_2⟩, hP, hD, hS, lv_sub hl [0, 1] rfl⟩

theorem oq_on_4 {wt : Nat → Int32} {i : Nat} (h : ∀ j, j < i → ¬ j = 4 → oq_N wt j = 0) (e : i = 4) : ∀ j, j < i + 1 → ¬ j = 4 → oq_N wt j = 0 := fun j hj h4 => h j (by omega) h4
theorem oq_on_z {wt : Nat → Int32} {i : Nat} (h : ∀ j, j < i → ¬ j = 4 → oq_N wt j = 0) (hw : cnt (wt i) 10) (c : wt i ≤ 0) : ∀ j, j < i + 1 → ¬ j = 4 → oq_N wt j = 0 := fun j hj h4 => by
  by_cases e : j = i
  · subst e
    by_cases h0 : 0 < oq_N wt j
    · exact absurd c (Int32.not_le.mpr ((oq_z hw).mpr h0))
    · omega
  · exact h j (by omega) h4
theorem oq_on_y {wt : Nat → Int32} {r : Int32} (h : (r = 1 ∧ ∀ j, j < 6 → ¬ j = 4 → oq_N wt j = 0) ∨ (r = 0 ∧ ∃ j, j < 6 ∧ ¬ j = 4 ∧ 0 < oq_N wt j)) (c : ¬ r = 0) : ∀ j, j < 6 → ¬ j = 4 → oq_N wt j = 0 := by
  rcases h with h | h
  · exact h.2
  · exact absurd h.1 c
theorem oq_on_n {wt : Nat → Int32} {r : Int32} (h : (r = 1 ∧ ∀ j, j < 6 → ¬ j = 4 → oq_N wt j = 0) ∨ (r = 0 ∧ ∃ j, j < 6 ∧ ¬ j = 4 ∧ 0 < oq_N wt j)) (c : r = 0) : ∃ j, j < 6 ∧ ¬ j = 4 ∧ 0 < oq_N wt j := by
  rcases h with h | h
  · rw [c] at h; exact absurd h.1 (by decide)
  · exact h.2
theorem oq_n4 {v : Int32} (h : cnt v 5) (c : ¬ v = 4) : ¬ v.toNatClampNeg = 4 := fun h9 => c (by rw [(oq_cn h).1, h9]; rfl)
theorem oq_e4 {v : Int32} (c : v = 4) : v.toNatClampNeg = 4 := by rw [c]; rfl

set_option maxHeartbeats 4000000 in
set_option maxRecDepth 100000 in
theorem e_onlyNuts (l : Launch) (dC : Nat → ClassId) (dI : Nat → Nat → Nat) (ca : Nat → ClassId) (h : Nat) (g0 : Nat) (g1 : Nat) (g2 : Nat) (g4 : Nat) (g8 : Nat) (g9 : Nat) (g10 : Nat) (g11 : Nat) (qm : Nat) (om : Int32) (kn : Int32) (kl : Int32) (lst : Option Nat) (wt : Nat → Int32) (hwt : ∀ j, j < 6 → cnt (wt j) 10) : Met l yX3_onlyNutsWait (Cond.code yX3_onlyNutsWait cX3_onlyNutsWait 2 (some .boolean) :: gT) ({ frames := 1, cells := 0, slots := 0, locals := 60 }) (va_Pc [.ref h] (pu (dC, dI) [(h, .inr (3, [.ref g0, .ref g1, .ref g2, .int (nI qm), .ref g4, .int om, .int kn, .int kl, .ref g8, .ref g9, .ref g10, .ref g11, va_rf lst])), (g11, .inl (ca 0, 6, .inl wt))] (aT ca))) (vp_Si (fun r => (r = 1 ∧ ∀ j, j < 6 → ¬ j = 4 → oq_N wt j = 0) ∨ (r = 0 ∧ ∃ j, j < 6 ∧ ¬ j = 4 ∧ 0 < oq_N wt j))) 0 0 (fun _ => False) := by
  refine Met.ofW (cc := cX3_onlyNutsWait) (maxL := 2) (ret := (some .boolean)) (by decide) rfl ?_
  intro p e s m args below meth c s₁ B hml hv
  obtain ⟨rfl, hP, hK, hE⟩ := hv
  have hx := B.exec
  have hb := B.bytes
  have hr := B.returns
  have hts : ∀ w ∈ gT, w.before _ s = true := fun w h => atoms_spec (ws := Cond.code yX3_onlyNutsWait cX3_onlyNutsWait 2 (some .boolean) :: gT) B.pre w (List.mem_cons_of_mem _ h)
  have hown : s.vm.findClass RX3 = some m.cls := findClass_of_methodNamed B.named
  have hlocks := B.notSynchronized
  have hl := lv_entry ([.ref h]) (n := 2) (Nat.le_of_ble_eq_true rfl)
  rw [lg_entry_eq]
  generalize (lg_sl ([.ref h]) ++ List.replicate (2 - (lg_sl ([.ref h])).length) Slot.unset).toArray = ls at hl ⊢
  have hl : lv_has ls 2 [(0, .ref h)] := hl
  refine lv_iconst (v := 0) hx hb dX3_onlyNutsWait_0 (by decide) ?_
  refine lv_istore_n (lv' := [(1, .int 0), (0, .ref h)]) hx hb dX3_onlyNutsWait_1 rfl hl (by decide) rfl (fun ls hl => ?_)
  refine wl_loop (fun (z_ : Nat) H locs ls => (z_ ≤ 6 ∧ ∀ j, j < z_ → ¬ j = 4 → oq_N wt j = 0) ∧ H = s.heap ∧ locs = [] ∧ lv_has ls 2 [(1, .int (nI z_)), (0, .ref h)]) (fun (z_ : Nat) => 6 - z_) (fun z_ H locs ls hI ih => ?_) 0 ⟨⟨Nat.zero_le _, fun j hj => absurd hj (Nat.not_lt_zero j)⟩, rfl, rfl, lv_sub hl [0, 1] rfl⟩
  revert hI ih; revert z_; intro i hI ih
  obtain ⟨⟨hi, hon⟩, rfl, rfl, hl⟩ := hI
  refine lv_iload_n hx hb dX3_onlyNutsWait_2 rfl (lv_at hl 0 rfl) ?_
  refine lv_bipush (v := 6) hx hb dX3_onlyNutsWait_3 (by decide) ?_
  refine lv_icmp_ge (tgt := 30) hx hb dX3_onlyNutsWait_5 (by decide) (fun c_1 => ?_) (fun c_1 => ?_)
  · have nc_1 : 6 ≤ i := (nI_leI (a := 6) (b := i) (by omega) (by omega)).mp c_1
    refine lv_iconst (v := 1) hx hb dX3_onlyNutsWait_30 (by decide) ?_
    exact W.zret (v := 1) (ty := .boolean) hx hb hr rfl (fun t ht hW => ⟨1, rfl, (Or.inl ⟨rfl, fun j9 hj9 h9 => hon j9 (by omega) h9⟩), ht⟩) (fun q h => absurd h List.not_mem_nil) dX3_onlyNutsWait_31
  · have nc_1 : ¬ (6 ≤ i) := fun h9 => c_1 ((nI_leI (a := 6) (b := i) (by omega) (by omega)).mpr h9)
    refine lv_iload_n hx hb dX3_onlyNutsWait_8 rfl (lv_at hl 0 rfl) ?_
    refine lv_iconst (v := 4) hx hb dX3_onlyNutsWait_9 (by decide) ?_
    refine lv_icmp_eq (tgt := 24) hx hb dX3_onlyNutsWait_10 (by decide) (fun c_2 => ?_) (fun c_2 => ?_)
    · have nc_2 : i = 4 := (nI_eq (a := i) (b := 4) (by omega) (by omega)).mp c_2
      refine lv_iinc (v := (nI (i + 1))) (lv' := [(1, .int (nI (i + 1))), (0, .ref h)]) hx hb dX3_onlyNutsWait_24 hl (k := 0) rfl (nI_add (i) 1) (by decide) rfl (fun ls hl => ?_)
      refine lv_goto (tgt := 2) hx hb dX3_onlyNutsWait_27 (by decide) ?_
      exact ih (i + 1) _ _ _ (by omega) ⟨⟨by omega, oq_on_4 hon nc_2⟩, rfl, rfl, lv_sub hl [0, 1] rfl⟩
    · have nc_2 : ¬ (i = 4) := fun h9 => c_2 ((nI_eq (a := i) (b := 4) (by omega) (by omega)).mpr h9)
      refine lv_aload_n hx hb dX3_onlyNutsWait_13 rfl (lv_at hl 1 rfl) ?_
      refine va_get (D := (dC, dI)) (ci := 3) (v := .ref g11) (C := RX3) (T := TX3) (N := 13) hx hb hts inX3 hown hK hP 0 rfl rfl 11 (by decide) (hts _ mw_118) (fun _ h9 => h9) rfl dX3_onlyNutsWait_14 ?_
      refine lv_iload_n hx hb dX3_onlyNutsWait_17 rfl (lv_at hl 0 rfl) ?_
      refine va_iald hx hb hK hP 1 0 rfl rfl (vp_in_nI (show i < 6 by omega) (by first | decide | omega)) dX3_onlyNutsWait_18 ?_
      refine lv_topi (fun y_ e_ => ?_)
      obtain rfl : y_ = (wt i) := e_.trans (congrArg wt (show ((nI i) : Int32).toNatClampNeg = i from nI_clamp (by omega)))
      refine lv_if_le (tgt := 24) hx hb dX3_onlyNutsWait_19 (by decide) (fun c_3 => ?_) (fun c_3 => ?_)
      · refine lv_iinc (v := (nI (i + 1))) (lv' := [(1, .int (nI (i + 1))), (0, .ref h)]) hx hb dX3_onlyNutsWait_24 hl (k := 0) rfl (nI_add (i) 1) (by decide) rfl (fun ls hl => ?_)
        refine lv_goto (tgt := 2) hx hb dX3_onlyNutsWait_27 (by decide) ?_
        exact ih (i + 1) _ _ _ (by omega) ⟨⟨by omega, oq_on_z hon (hwt i (by omega)) c_3⟩, rfl, rfl, lv_sub hl [0, 1] rfl⟩
      · refine lv_iconst (v := 0) hx hb dX3_onlyNutsWait_22 (by decide) ?_
        exact W.zret (v := 0) (ty := .boolean) hx hb hr rfl (fun t ht hW => ⟨0, rfl, (Or.inr ⟨rfl, i, by omega, nc_2, (oq_z (hwt i (by omega))).mp (Int32.not_le.mp c_3)⟩), ht⟩) (fun q h => absurd h List.not_mem_nil) dX3_onlyNutsWait_23

set_option maxHeartbeats 4000000 in
set_option maxRecDepth 100000 in
theorem e_mayCome (l : Launch) (dC : Nat → ClassId) (dI : Nat → Nat → Nat) (ca : Nat → ClassId) (h : Nat) (g0 : Nat) (g1 : Nat) (g2 : Nat) (g4 : Nat) (g8 : Nat) (g9 : Nat) (g10 : Nat) (g11 : Nat) (qm : Nat) (om : Int32) (kn : Int32) (kl : Int32) (lst : Option Nat) (wt : Nat → Int32) (v1 : Int32) (v2 : Int32) (hv1 : cnt v1 5) (hwt : ∀ j, j < 6 → cnt (wt j) 10) : Met l yX3_mayCome (Cond.code yX3_mayCome cX3_mayCome 3 (some .boolean) :: gT) ({ frames := 2, cells := 0, slots := 0, locals := 81 }) (va_Pc [.ref h, .int v1, .int v2] (pu (dC, dI) [(h, .inr (3, [.ref g0, .ref g1, .ref g2, .int (nI qm), .ref g4, .int om, .int kn, .int kl, .ref g8, .ref g9, .ref g10, .ref g11, va_rf lst])), (g11, .inl (ca 0, 6, .inl wt))] (aT ca))) (vp_Si (fun r => (r = 1 ∧ oq_may (oq_b v2) (oq_N wt) v1.toNatClampNeg = true) ∨ (r = 0 ∧ oq_may (oq_b v2) (oq_N wt) v1.toNatClampNeg = false))) 0 0 (fun _ => False) := by
  refine Met.ofW (cc := cX3_mayCome) (maxL := 3) (ret := (some .boolean)) (by decide) rfl ?_
  intro p e s m args below meth c s₁ B hml hv
  obtain ⟨rfl, hP, hK, hE⟩ := hv
  have hx := B.exec
  have hb := B.bytes
  have hr := B.returns
  have hts : ∀ w ∈ gT, w.before _ s = true := fun w h => atoms_spec (ws := Cond.code yX3_mayCome cX3_mayCome 3 (some .boolean) :: gT) B.pre w (List.mem_cons_of_mem _ h)
  have hown : s.vm.findClass RX3 = some m.cls := findClass_of_methodNamed B.named
  have hlocks := B.notSynchronized
  have hl := lv_entry ([.ref h, .int v1, .int v2]) (n := 3) (Nat.le_of_ble_eq_true rfl)
  rw [lg_entry_eq]
  generalize (lg_sl ([.ref h, .int v1, .int v2]) ++ List.replicate (3 - (lg_sl ([.ref h, .int v1, .int v2])).length) Slot.unset).toArray = ls at hl ⊢
  have hl : lv_has ls 3 [(0, .ref h), (1, .int v1), (2, .int v2)] := hl
  refine lv_aload_n hx hb dX3_mayCome_0 rfl (lv_at hl 0 rfl) ?_
  refine va_get (D := (dC, dI)) (ci := 3) (v := .ref g11) (C := RX3) (T := TX3) (N := 13) hx hb hts inX3 hown hK hP 0 rfl rfl 11 (by decide) (hts _ mw_118) (fun _ h9 => h9) rfl dX3_mayCome_1 ?_
  refine lv_iload_n hx hb dX3_mayCome_4 rfl (lv_at hl 1 rfl) ?_
  refine va_iald hx hb hK hP 1 0 rfl rfl (cnt_vp hv1 (by decide) (by decide)) dX3_mayCome_5 ?_
  refine lv_if_gt (tgt := 11) hx hb dX3_mayCome_6 (by decide) (fun c_1 => ?_) (fun c_1 => ?_)
  · refine lv_iload_n hx hb dX3_mayCome_11 rfl (lv_at hl 1 rfl) ?_
    refine lv_iconst (v := 4) hx hb dX3_mayCome_12 (by decide) ?_
    refine lv_icmp_ne (tgt := 27) hx hb dX3_mayCome_13 (by decide) (fun c_2 => ?_) (fun c_2 => ?_)
    · refine lv_iconst (v := 1) hx hb dX3_mayCome_27 (by decide) ?_
      refine lv_goto (tgt := 32) hx hb dX3_mayCome_28 (by decide) ?_
      exact W.zret (v := 1) (ty := .boolean) hx hb hr rfl (fun t ht hW => ⟨1, rfl, (Or.inl ⟨rfl, oq_my_1 (hwt _ (cl6 hv1)) c_1 (oq_n4 hv1 c_2)⟩), ht⟩) (fun q h => absurd h List.not_mem_nil) dX3_mayCome_32
    · refine lv_iload_n hx hb dX3_mayCome_16 rfl (lv_at hl 2 rfl) ?_
      refine lv_if_eq (tgt := 27) hx hb dX3_mayCome_17 (by decide) (fun c_3 => ?_) (fun c_3 => ?_)
      · refine lv_iconst (v := 1) hx hb dX3_mayCome_27 (by decide) ?_
        refine lv_goto (tgt := 32) hx hb dX3_mayCome_28 (by decide) ?_
        exact W.zret (v := 1) (ty := .boolean) hx hb hr rfl (fun t ht hW => ⟨1, rfl, (Or.inl ⟨rfl, oq_my_2 (hwt _ (cl6 hv1)) c_1 c_3⟩), ht⟩) (fun q h => absurd h List.not_mem_nil) dX3_mayCome_32
      · refine lv_aload_n hx hb dX3_mayCome_20 rfl (lv_at hl 0 rfl) ?_
        have hPc := hP.sub (ws' := [(h, .inr (3, [.ref g0, .ref g1, .ref g2, .int (nI qm), .ref g4, .int om, .int kn, .int kl, .ref g8, .ref g9, .ref g10, .ref g11, va_rf lst])), (g11, .inl (ca 0, 6, .inl wt))]) [0, 1] rfl
        refine pc_i (va_runV (As := []) (rest := []) ⟨hx, hb, hml, hown, hts⟩ (e_onlyNuts l dC dI ca h g0 g1 g2 g4 g8 g9 g10 g11 qm om kn kl lst wt hwt) (⟨callB_of 0 hts (gd mw_839) rfl rfl rfl (hts _ mw_5) (hts _ mw_836) ds_X3_onlyNutsWait ⟨Nat.le_of_ble_eq_true rfl, Nat.le_of_ble_eq_true rfl⟩, (hts _ mw_838), (hts _ mp_33)⟩) (pu_V hPc hK hE (va_recv hK hPc (ci := 3) (q0 := 0) rfl rfl)) rfl rfl hl.1 rfl (lv_room (Nat.le_of_ble_eq_true rfl)) dX3_mayCome_21 ⟨Nat.le_of_ble_eq_true rfl, Nat.le_of_ble_eq_true rfl⟩) (fun rv_4 hw_ => ?_)
        have hw_4 := hw_
        refine lv_if_eq (tgt := 31) hx hb dX3_mayCome_24 (by decide) (fun c_5 => ?_) (fun c_5 => ?_)
        · refine lv_iconst (v := 0) hx hb dX3_mayCome_31 (by decide) ?_
          exact W.zret (v := 0) (ty := .boolean) hx hb hr rfl (fun t ht hW => ⟨0, rfl, (Or.inr ⟨rfl, oq_my_4 (oq_e4 c_2) c_3 (oq_on_n hw_4 c_5)⟩), ht⟩) (fun q h => absurd h List.not_mem_nil) dX3_mayCome_32
        · refine lv_iconst (v := 1) hx hb dX3_mayCome_27 (by decide) ?_
          refine lv_goto (tgt := 32) hx hb dX3_mayCome_28 (by decide) ?_
          exact W.zret (v := 1) (ty := .boolean) hx hb hr rfl (fun t ht hW => ⟨1, rfl, (Or.inl ⟨rfl, oq_my_3 (hwt _ (cl6 hv1)) c_1 (oq_on_y hw_4 c_5)⟩), ht⟩) (fun q h => absurd h List.not_mem_nil) dX3_mayCome_32
  · refine lv_iconst (v := 0) hx hb dX3_mayCome_9 (by decide) ?_
    exact W.zret (v := 0) (ty := .boolean) hx hb hr rfl (fun t ht hW => ⟨0, rfl, (Or.inr ⟨rfl, oq_my_0 (hwt _ (cl6 hv1)) c_1⟩), ht⟩) (fun q h => absurd h List.not_mem_nil) dX3_mayCome_10

set_option maxHeartbeats 4000000 in
set_option maxRecDepth 100000 in
theorem e_leastOnce (l : Launch) (dC : Nat → ClassId) (dI : Nat → Nat → Nat) (ca : Nat → ClassId) (h : Nat) (g0 : Nat) (g1 : Nat) (g2 : Nat) (g4 : Nat) (g8 : Nat) (g9 : Nat) (g10 : Nat) (g11 : Nat) (qm : Nat) (om : Int32) (kn : Int32) (kl : Int32) (sd : Nat → Int32) (lq : Nat) (LE : Nat → Int32) (v1 : Int32) (v2 : Int32) (hv2 : cnt v2 5) (hst : -1073741824 ≤ v1.toInt ∧ v1.toInt ≤ 323) (hsd : ∀ j, j < 6 → cnt (sd j) 1771561) : Met l yX3_leastOnce (Cond.code yX3_leastOnce cX3_leastOnce 4 (some .int) :: gT) ({ frames := 1, cells := 0, slots := 0, locals := 60 }) (va_Pc [.ref h, .int v1, .int v2] (pu (dC, dI) [(h, .inr (3, [.ref g0, .ref g1, .ref g2, .int (nI qm), .ref g4, .int om, .int kn, .int kl, .ref g8, .ref g9, .ref g10, .ref g11, .ref lq])), (g10, .inl (ca 0, 6, .inl sd)), (lq, .inl (ca 0, 1944, .inl LE))] (aT ca))) (vp_Si (fun r => r = oq_lo sd LE v1 v2)) 0 0 (fun _ => False) := by
  refine Met.ofW (cc := cX3_leastOnce) (maxL := 4) (ret := (some .int)) (by decide) rfl ?_
  intro p e s m args below meth c s₁ B hml hv
  obtain ⟨rfl, hP, hK, hE⟩ := hv
  have hx := B.exec
  have hb := B.bytes
  have hr := B.returns
  have hts : ∀ w ∈ gT, w.before _ s = true := fun w h => atoms_spec (ws := Cond.code yX3_leastOnce cX3_leastOnce 4 (some .int) :: gT) B.pre w (List.mem_cons_of_mem _ h)
  have hown : s.vm.findClass RX3 = some m.cls := findClass_of_methodNamed B.named
  have hlocks := B.notSynchronized
  have hl := lv_entry ([.ref h, .int v1, .int v2]) (n := 4) (Nat.le_of_ble_eq_true rfl)
  rw [lg_entry_eq]
  generalize (lg_sl ([.ref h, .int v1, .int v2]) ++ List.replicate (4 - (lg_sl ([.ref h, .int v1, .int v2])).length) Slot.unset).toArray = ls at hl ⊢
  have hl : lv_has ls 4 [(0, .ref h), (1, .int v1), (2, .int v2)] := hl
  refine lv_iload_n hx hb dX3_leastOnce_0 rfl (lv_at hl 1 rfl) ?_
  refine lv_aload_n hx hb dX3_leastOnce_1 rfl (lv_at hl 0 rfl) ?_
  refine va_get (D := (dC, dI)) (ci := 3) (v := .ref g10) (C := RX3) (T := TX3) (N := 13) hx hb hts inX3 hown hK hP 0 rfl rfl 10 (by decide) (hts _ mw_117) (fun _ h9 => h9) rfl dX3_leastOnce_2 ?_
  refine lv_iload_n hx hb dX3_leastOnce_5 rfl (lv_at hl 2 rfl) ?_
  refine va_iald hx hb hK hP 1 0 rfl rfl (cnt_vp hv2 (by decide) (by decide)) dX3_leastOnce_6 ?_
  refine lv_isub hx hb dX3_leastOnce_7 ?_
  refine lv_istore_n (lv' := [(3, .int (v1 - (sd (v2 : Int32).toNatClampNeg))), (0, .ref h), (1, .int v1), (2, .int v2)]) hx hb dX3_leastOnce_8 rfl hl (by decide) rfl (fun ls hl => ?_)
  refine lv_iload_n hx hb dX3_leastOnce_9 rfl (lv_at hl 0 rfl) ?_
  refine lv_if_lt (tgt := 27) hx hb dX3_leastOnce_10 (by decide) (fun c_1 => ?_) (fun c_1 => ?_)
  · refine lv_iconst (v := 0) hx hb dX3_leastOnce_27 (by decide) ?_
    exact W.iret (v := 0) hx hb hr (fun t ht hW => ⟨0, rfl, (by unfold oq_lo; rw [if_pos c_1]), ht⟩) (fun q h => absurd h List.not_mem_nil) dX3_leastOnce_28
  · refine lv_aload_n hx hb dX3_leastOnce_13 rfl (lv_at hl 1 rfl) ?_
    refine va_get (D := (dC, dI)) (ci := 3) (v := .ref lq) (C := RX3) (T := TX3) (N := 13) hx hb hts inX3 hown hK hP 0 rfl rfl 12 (by decide) (hts _ mw_119) (fun _ h9 => h9) rfl dX3_leastOnce_14 ?_
    refine lv_iload_n hx hb dX3_leastOnce_17 rfl (lv_at hl 0 rfl) ?_
    refine lv_bipush (v := 6) hx hb dX3_leastOnce_18 (by decide) ?_
    refine lv_imul hx hb dX3_leastOnce_20 ?_
    refine lv_iload_n hx hb dX3_leastOnce_21 rfl (lv_at hl 3 rfl) ?_
    refine lv_iadd hx hb dX3_leastOnce_22 ?_
    refine va_iald hx hb hK hP 2 0 rfl rfl (lo_in hst hv2 (hsd _ (cl6 hv2)) c_1) dX3_leastOnce_23 ?_
    refine lv_goto (tgt := 28) hx hb dX3_leastOnce_24 (by decide) ?_
    exact W.iret (v := (LE ((((v1 - (sd (v2 : Int32).toNatClampNeg)) * 6) + v2) : Int32).toNatClampNeg)) hx hb hr (fun t ht hW => ⟨(LE ((((v1 - (sd (v2 : Int32).toNatClampNeg)) * 6) + v2) : Int32).toNatClampNeg), rfl, (by unfold oq_lo; rw [if_neg c_1]), ht⟩) (fun q h => absurd h List.not_mem_nil) dX3_leastOnce_28

theorem oq_g_n {ws wt : Nat → Int32} {z r : Int32} {v : Nat → Nat} {k : Nat} (hk : k < 6) (h : (r = 1 ∧ oq_may (oq_b z) (oq_N wt) (nI k).toNatClampNeg = true) ∨ (r = 0 ∧ oq_may (oq_b z) (oq_N wt) (nI k).toNatClampNeg = false)) (c : r = 0) : ∀ a, oq_g ws (oq_b z) (oq_N wt) v a k = 2147483647 := fun a => by
  rw [nI_clamp (by omega)] at h
  unfold oq_g
  rcases h with h | h
  · rw [c] at h; exact absurd h.1 (by decide)
  · rw [h.2, if_neg (by decide)]
theorem oq_g_m {wt : Nat → Int32} {z r : Int32} {k : Nat} (hk : k < 6) (h : (r = 1 ∧ oq_may (oq_b z) (oq_N wt) (nI k).toNatClampNeg = true) ∨ (r = 0 ∧ oq_may (oq_b z) (oq_N wt) (nI k).toNatClampNeg = false)) (c : ¬ r = 0) : oq_may (oq_b z) (oq_N wt) k = true := by
  rw [nI_clamp (by omega)] at h
  rcases h with h | h
  · exact h.2
  · exact absurd h.1 c
theorem oq_g_y {ws wt : Nat → Int32} {z : Int32} {v : Nat → Nat} {a k : Nat} (h : oq_may (oq_b z) (oq_N wt) k = true) : oq_g ws (oq_b z) (oq_N wt) v a k = oq_W ws a k + v k := by
  unfold oq_g
  rw [if_pos h]

set_option maxHeartbeats 4000000 in
set_option maxRecDepth 100000 in
theorem e_findLeastOf (l : Launch) (dC : Nat → ClassId) (dI : Nat → Nat → Nat) (ca : Nat → ClassId) (sz : Nat) (h : Nat) (g0 : Nat) (g1 : Nat) (g2 : Nat) (g4 : Nat) (g8 : Nat) (g9 : Nat) (g10 : Nat) (g11 : Nat) (qm : Nat) (om : Int32) (kn : Int32) (kl : Int32) (ws : Nat → Int32) (sd : Nat → Int32) (wt : Nat → Int32) (lq : Nat) (LE : Nat → Int32) (n : Nat) (v2 : Int32) (vv : Nat → Nat) (hn : n ≤ 323) (hsd : ∀ j, j < 6 → cnt (sd j) 1771561) (hws : ∀ j, cnt (ws j) 600) (hwt : ∀ j, j < 6 → cnt (wt j) 10) (hT_ : ∀ L : Nat → Int32, (∀ x, x < n * 6 → L x = LE x) → ∀ k, k < 6 → oq_may (oq_b v2) (oq_N wt) k = true → oq_lo sd L (nI n) (nI k) = nI (vv k) ∧ vv k ≤ 6000) : Met l yX3_findLeastOf (Cond.code yX3_findLeastOf cX3_findLeastOf 8 none :: gT) ({ frames := 3, cells := 0, slots := 0, locals := 103 }) (va_Pc [.ref h, .int (nI n), .int v2] (pr (dC, dI) sz [(h, .inr (3, [.ref g0, .ref g1, .ref g2, .int (nI qm), .ref g4, .int om, .int kn, .int kl, .ref g8, .ref g9, .ref g10, .ref g11, .ref lq])), (g0, .inl (ca 0, 36, .inl ws)), (g10, .inl (ca 0, 6, .inl sd)), (g11, .inl (ca 0, 6, .inl wt)), (lq, .inl (ca 0, 1944, .inl LE))] (aT ca))) (va_Qv (fun (u_ : (Nat → Int32)) => oq_l2 LE u_ n (oq_g ws (oq_b v2) (oq_N wt) vv) 6) (fun (u_ : (Nat → Int32)) t => va_P (dC, dI) vwCl [(h, .inr (3, [.ref g0, .ref g1, .ref g2, .int (nI qm), .ref g4, .int om, .int kn, .int kl, .ref g8, .ref g9, .ref g10, .ref g11, .ref lq])), (g0, .inl (ca 0, 36, .inl ws)), (g10, .inl (ca 0, 6, .inl sd)), (g11, .inl (ca 0, 6, .inl wt)), (lq, .inl (ca 0, 1944, .inl u_))] t.heap ∧ va_D (va_A [(h, .inr (3, [.ref g0, .ref g1, .ref g2, .int (nI qm), .ref g4, .int om, .int kn, .int kl, .ref g8, .ref g9, .ref g10, .ref g11, .ref lq])), (g0, .inl (ca 0, 36, .inl ws)), (g10, .inl (ca 0, 6, .inl sd)), (g11, .inl (ca 0, 6, .inl wt)), (lq, .inl (ca 0, 1944, .inl LE))] sz) [(h, .inr (3, [.ref g0, .ref g1, .ref g2, .int (nI qm), .ref g4, .int om, .int kn, .int kl, .ref g8, .ref g9, .ref g10, .ref g11, .ref lq])), (g0, .inl (ca 0, 36, .inl ws)), (g10, .inl (ca 0, 6, .inl sd)), (g11, .inl (ca 0, 6, .inl wt)), (lq, .inl (ca 0, 1944, .inl u_))]) (va_A [(h, .inr (3, [.ref g0, .ref g1, .ref g2, .int (nI qm), .ref g4, .int om, .int kn, .int kl, .ref g8, .ref g9, .ref g10, .ref g11, .ref lq])), (g0, .inl (ca 0, 36, .inl ws)), (g10, .inl (ca 0, 6, .inl sd)), (g11, .inl (ca 0, 6, .inl wt)), (lq, .inl (ca 0, 1944, .inl LE))] sz)) 0 0 (va_A [(h, .inr (3, [.ref g0, .ref g1, .ref g2, .int (nI qm), .ref g4, .int om, .int kn, .int kl, .ref g8, .ref g9, .ref g10, .ref g11, .ref lq])), (g0, .inl (ca 0, 36, .inl ws)), (g10, .inl (ca 0, 6, .inl sd)), (g11, .inl (ca 0, 6, .inl wt)), (lq, .inl (ca 0, 1944, .inl LE))] sz) := by
  refine Met.ofW (cc := cX3_findLeastOf) (maxL := 8) (ret := none) (by decide) rfl ?_
  intro p e s m args below meth c s₁ B hml hv
  obtain ⟨rfl, hsz, hP, hK, hD0, hE⟩ := hv
  have hx := B.exec
  have hb := B.bytes
  have hr := B.returns
  have hts : ∀ w ∈ gT, w.before _ s = true := fun w h => atoms_spec (ws := Cond.code yX3_findLeastOf cX3_findLeastOf 8 none :: gT) B.pre w (List.mem_cons_of_mem _ h)
  have hown : s.vm.findClass RX3 = some m.cls := findClass_of_methodNamed B.named
  have hlocks := B.notSynchronized
  subst hsz
  have hD := hD0.self (sz := s.heap.size)
  generalize hAe : va_A [(h, .inr (3, [.ref g0, .ref g1, .ref g2, .int (nI qm), .ref g4, .int om, .int kn, .int kl, .ref g8, .ref g9, .ref g10, .ref g11, .ref lq])), (g0, .inl (ca 0, 36, .inl ws)), (g10, .inl (ca 0, 6, .inl sd)), (g11, .inl (ca 0, 6, .inl wt)), (lq, .inl (ca 0, 1944, .inl LE))] s.heap.size = A at hD ⊢
  have hA : ∀ q : Nat, s.heap.size ≤ q → A q := fun q h => by rw [← hAe]; exact Or.inr h
  have hS : va_S A s.heap s.heap [] := va_S.rf
  have hl := lv_entry ([.ref h, .int (nI n), .int v2]) (n := 8) (Nat.le_of_ble_eq_true rfl)
  rw [lg_entry_eq]
  generalize (lg_sl ([.ref h, .int (nI n), .int v2]) ++ List.replicate (8 - (lg_sl ([.ref h, .int (nI n), .int v2])).length) Slot.unset).toArray = ls at hl ⊢
  have hl : lv_has ls 8 [(0, .ref h), (1, .int (nI n)), (2, .int v2)] := hl
  refine lv_iload_n hx hb dX3_findLeastOf_0 rfl (lv_at hl 1 rfl) ?_
  refine lv_bipush (v := 6) hx hb dX3_findLeastOf_1 (by decide) ?_
  refine lv_imul hx hb dX3_findLeastOf_3 ?_
  refine lv_topi (fun y_ e_ => ?_)
  obtain rfl : y_ = (nI (n * 6)) := e_.trans (pk_mul (n) (6))
  refine lv_istore_n (lv' := [(3, .int (nI (n * 6))), (0, .ref h), (1, .int (nI n)), (2, .int v2)]) hx hb dX3_findLeastOf_4 rfl hl (by decide) rfl (fun ls hl => ?_)
  refine lv_iconst (v := 0) hx hb dX3_findLeastOf_5 (by decide) ?_
  refine lv_istore (lv' := [(4, .int 0), (3, .int (nI (n * 6))), (0, .ref h), (1, .int (nI n)), (2, .int v2)]) hx hb dX3_findLeastOf_6 hl (by decide) rfl (fun ls hl => ?_)
  refine wl_loop (fun (z_ : Nat × (Nat → Int32)) H locs ls => (z_.1 ≤ 6 ∧ oq_l1 LE z_.2 n z_.1) ∧ va_P (dC, dI) vwCl [(h, .inr (3, [.ref g0, .ref g1, .ref g2, .int (nI qm), .ref g4, .int om, .int kn, .int kl, .ref g8, .ref g9, .ref g10, .ref g11, .ref lq])), (g0, .inl (ca 0, 36, .inl ws)), (g10, .inl (ca 0, 6, .inl sd)), (g11, .inl (ca 0, 6, .inl wt)), (lq, .inl (ca 0, 1944, .inl z_.2))] H ∧ va_D A [(h, .inr (3, [.ref g0, .ref g1, .ref g2, .int (nI qm), .ref g4, .int om, .int kn, .int kl, .ref g8, .ref g9, .ref g10, .ref g11, .ref lq])), (g0, .inl (ca 0, 36, .inl ws)), (g10, .inl (ca 0, 6, .inl sd)), (g11, .inl (ca 0, 6, .inl wt)), (lq, .inl (ca 0, 1944, .inl z_.2))] ∧ va_S A s.heap H locs ∧ lv_has ls 8 [(4, .int (nI z_.1)), (3, .int (nI (n * 6))), (0, .ref h), (1, .int (nI n)), (2, .int v2)]) (fun (z_ : Nat × (Nat → Int32)) => 6 - z_.1) (fun z_ H locs ls hI ih => ?_) (0, LE) ⟨⟨Nat.zero_le _, oq_l1_0⟩, hP, hD, hS, lv_sub hl [0, 1, 2, 3, 4] rfl⟩
  obtain ⟨i, L1⟩ := z_
  dsimp only at hI ih
  obtain ⟨⟨hi, hl1⟩, hP, hD, hS, hl⟩ := hI
  refine lv_iload hx hb dX3_findLeastOf_8 (lv_at hl 0 rfl) ?_
  refine lv_bipush (v := 6) hx hb dX3_findLeastOf_10 (by decide) ?_
  refine lv_icmp_ge (tgt := 32) hx hb dX3_findLeastOf_12 (by decide) (fun c_1 => ?_) (fun c_1 => ?_)
  · have nc_1 : 6 ≤ i := (nI_leI (a := 6) (b := i) (by omega) (by omega)).mp c_1
    refine lv_iconst (v := 0) hx hb dX3_findLeastOf_32 (by decide) ?_
    refine lv_istore (lv' := [(4, .int 0), (3, .int (nI (n * 6))), (0, .ref h), (1, .int (nI n)), (2, .int v2)]) hx hb dX3_findLeastOf_33 hl (by decide) rfl (fun ls hl => ?_)
    refine wl_loop (fun (z_ : Nat × (Nat → Int32)) H locs ls => (z_.1 ≤ 6 ∧ oq_l2 LE z_.2 n (oq_g ws (oq_b v2) (oq_N wt) vv) z_.1) ∧ va_P (dC, dI) vwCl [(h, .inr (3, [.ref g0, .ref g1, .ref g2, .int (nI qm), .ref g4, .int om, .int kn, .int kl, .ref g8, .ref g9, .ref g10, .ref g11, .ref lq])), (g0, .inl (ca 0, 36, .inl ws)), (g10, .inl (ca 0, 6, .inl sd)), (g11, .inl (ca 0, 6, .inl wt)), (lq, .inl (ca 0, 1944, .inl z_.2))] H ∧ va_D A [(h, .inr (3, [.ref g0, .ref g1, .ref g2, .int (nI qm), .ref g4, .int om, .int kn, .int kl, .ref g8, .ref g9, .ref g10, .ref g11, .ref lq])), (g0, .inl (ca 0, 36, .inl ws)), (g10, .inl (ca 0, 6, .inl sd)), (g11, .inl (ca 0, 6, .inl wt)), (lq, .inl (ca 0, 1944, .inl z_.2))] ∧ va_S A s.heap H locs ∧ lv_has ls 8 [(4, .int (nI z_.1)), (3, .int (nI (n * 6))), (0, .ref h), (1, .int (nI n)), (2, .int v2)]) (fun (z_ : Nat × (Nat → Int32)) => 6 - z_.1) (fun z_ H locs ls hI ih35 => ?_) (0, L1) ⟨⟨Nat.zero_le _, oq_l1_2 hl1 (by omega)⟩, hP, hD, hS, lv_sub hl [0, 1, 2, 3, 4] rfl⟩
    obtain ⟨i2, L2⟩ := z_
    dsimp only at hI ih35
    obtain ⟨⟨hi2, hl2⟩, hP, hD, hS, hl⟩ := hI
    refine lv_iload hx hb dX3_findLeastOf_35 (lv_at hl 0 rfl) ?_
    refine lv_bipush (v := 6) hx hb dX3_findLeastOf_37 (by decide) ?_
    refine lv_icmp_ge (tgt := 124) hx hb dX3_findLeastOf_39 (by decide) (fun c_2 => ?_) (fun c_2 => ?_)
    · have nc_2 : 6 ≤ i2 := (nI_leI (a := 6) (b := i2) (by omega) (by omega)).mp c_2
      refine W.widen (k := 0) (n := 0) (Nat.le_of_ble_eq_true rfl) (Nat.le_of_ble_eq_true rfl) ?_
      have hP9 : va_P (dC, dI) vwCl [(h, .inr (3, [.ref g0, .ref g1, .ref g2, .int (nI qm), .ref g4, .int om, .int kn, .int kl, .ref g8, .ref g9, .ref g10, .ref g11, .ref lq])), (g0, .inl (ca 0, 36, .inl ws)), (g10, .inl (ca 0, 6, .inl sd)), (g11, .inl (ca 0, 6, .inl wt)), (lq, .inl (ca 0, 1944, .inl L2))] H := va_P.sub hP [0, 1, 2, 3, 4] rfl
      have hD9 : va_D A [(h, .inr (3, [.ref g0, .ref g1, .ref g2, .int (nI qm), .ref g4, .int om, .int kn, .int kl, .ref g8, .ref g9, .ref g10, .ref g11, .ref lq])), (g0, .inl (ca 0, 36, .inl ws)), (g10, .inl (ca 0, 6, .inl sd)), (g11, .inl (ca 0, 6, .inl wt)), (lq, .inl (ca 0, 1944, .inl L2))] := va_D.sub hD [0, 1, 2, 3, 4] (by decide) rfl
      exact W.vret hx hb hr (fun t ht hW => ⟨⟨L2, rfl, (show i2 = 6 by omega) ▸ hl2, by rw [ht]; exact hP9, hD9⟩, hS.F ht⟩) hS.2.2 dX3_findLeastOf_124
    · have nc_2 : ¬ (6 ≤ i2) := fun h9 => c_2 ((nI_leI (a := 6) (b := i2) (by omega) (by omega)).mpr h9)
      refine lv_aload_n hx hb dX3_findLeastOf_42 rfl (lv_at hl 2 rfl) ?_
      refine lv_iload hx hb dX3_findLeastOf_43 (lv_at hl 0 rfl) ?_
      refine lv_iload_n hx hb dX3_findLeastOf_45 rfl (lv_at hl 4 rfl) ?_
      have hPc := hP.sub (ws' := [(h, .inr (3, [.ref g0, .ref g1, .ref g2, .int (nI qm), .ref g4, .int om, .int kn, .int kl, .ref g8, .ref g9, .ref g10, .ref g11, va_rf (some lq)])), (g11, .inl (ca 0, 6, .inl wt))]) [0, 3] rfl
      refine pc_i (va_runV (As := [.int (nI i2), .int v2]) (rest := []) ⟨hx, hb, hml, hown, hts⟩ (e_mayCome l dC dI ca h g0 g1 g2 g4 g8 g9 g10 g11 qm om kn kl (some lq) wt (nI i2) v2 (by first | assumption | omega | exact ⟨_, by omega, rfl⟩) hwt) (⟨callB_of 2 hts (gd mw_835) rfl rfl rfl (hts _ mw_5) (hts _ mw_832) ds_X3_mayCome ⟨Nat.le_of_ble_eq_true rfl, Nat.le_of_ble_eq_true rfl⟩, (hts _ mw_834), (hts _ mp_32)⟩) (pu_V hPc hK hE (va_recv hK hPc (ci := 3) (q0 := 0) rfl rfl)) rfl rfl hl.1 rfl (lv_room (Nat.le_of_ble_eq_true rfl)) dX3_findLeastOf_46 ⟨Nat.le_of_ble_eq_true rfl, Nat.le_of_ble_eq_true rfl⟩) (fun rv_3 hw_ => ?_)
      have hw_3 := hw_
      refine lv_if_eq (tgt := 118) hx hb dX3_findLeastOf_49 (by decide) (fun c_4 => ?_) (fun c_4 => ?_)
      · refine lv_iinc (v := (nI (i2 + 1))) (lv' := [(4, .int (nI (i2 + 1))), (3, .int (nI (n * 6))), (0, .ref h), (1, .int (nI n)), (2, .int v2)]) hx hb dX3_findLeastOf_118 hl (k := 0) rfl (nI_add (i2) 1) (by decide) rfl (fun ls hl => ?_)
        refine lv_goto (tgt := 35) hx hb dX3_findLeastOf_121 (by decide) ?_
        exact ih35 (i2 + 1, L2) _ _ _ (by omega) ⟨⟨by omega, oq_l2_n hl2 (oq_g_n (show i2 < 6 by omega) hw_3 c_4)⟩, hP, hD, hS, lv_sub hl [0, 1, 2, 3, 4] rfl⟩
      · have hma := oq_g_m (show i2 < 6 by omega) hw_3 c_4
        refine lv_aload_n hx hb dX3_findLeastOf_52 rfl (lv_at hl 2 rfl) ?_
        refine lv_iload_n hx hb dX3_findLeastOf_53 rfl (lv_at hl 3 rfl) ?_
        refine lv_iload hx hb dX3_findLeastOf_54 (lv_at hl 0 rfl) ?_
        have hPc := hP.sub (ws' := [(h, .inr (3, [.ref g0, .ref g1, .ref g2, .int (nI qm), .ref g4, .int om, .int kn, .int kl, .ref g8, .ref g9, .ref g10, .ref g11, .ref lq])), (g10, .inl (ca 0, 6, .inl sd)), (lq, .inl (ca 0, 1944, .inl L2))]) [0, 2, 4] rfl
        refine pc_i (va_runV (As := [.int (nI n), .int (nI i2)]) (rest := []) ⟨hx, hb, hml, hown, hts⟩ (e_leastOnce l dC dI ca h g0 g1 g2 g4 g8 g9 g10 g11 qm om kn kl sd lq L2 (nI n) (nI i2) (by first | assumption | omega | exact ⟨_, by omega, rfl⟩) (nI_st hn) hsd) (⟨callB_of 2 hts (gd mw_843) rfl rfl rfl (hts _ mw_5) (hts _ mw_840) ds_X3_leastOnce ⟨Nat.le_of_ble_eq_true rfl, Nat.le_of_ble_eq_true rfl⟩, (hts _ mw_842), (hts _ mp_34)⟩) (pu_V hPc hK hE (va_recv hK hPc (ci := 3) (q0 := 0) rfl rfl)) rfl rfl hl.1 rfl (lv_room (Nat.le_of_ble_eq_true rfl)) dX3_findLeastOf_56 ⟨Nat.le_of_ble_eq_true rfl, Nat.le_of_ble_eq_true rfl⟩) (fun rv_5 hw_ => ?_)
        have hw_5 := hw_
        refine lv_istore (lv' := [(5, .int rv_5), (4, .int (nI i2)), (3, .int (nI (n * 6))), (0, .ref h), (1, .int (nI n)), (2, .int v2)]) hx hb dX3_findLeastOf_59 hl (by decide) rfl (fun ls hl => ?_)
        refine lv_iconst (v := 0) hx hb dX3_findLeastOf_61 (by decide) ?_
        refine lv_istore (lv' := [(6, .int 0), (5, .int rv_5), (4, .int (nI i2)), (3, .int (nI (n * 6))), (0, .ref h), (1, .int (nI n)), (2, .int v2)]) hx hb dX3_findLeastOf_62 hl (by decide) rfl (fun ls hl => ?_)
        refine wl_loop (fun (z_ : Nat × (Nat → Int32)) H locs ls => (z_.1 ≤ 6 ∧ oq_l3 LE z_.2 n (oq_g ws (oq_b v2) (oq_N wt) vv) i2 z_.1) ∧ va_P (dC, dI) vwCl [(h, .inr (3, [.ref g0, .ref g1, .ref g2, .int (nI qm), .ref g4, .int om, .int kn, .int kl, .ref g8, .ref g9, .ref g10, .ref g11, .ref lq])), (g0, .inl (ca 0, 36, .inl ws)), (g10, .inl (ca 0, 6, .inl sd)), (g11, .inl (ca 0, 6, .inl wt)), (lq, .inl (ca 0, 1944, .inl z_.2))] H ∧ va_D A [(h, .inr (3, [.ref g0, .ref g1, .ref g2, .int (nI qm), .ref g4, .int om, .int kn, .int kl, .ref g8, .ref g9, .ref g10, .ref g11, .ref lq])), (g0, .inl (ca 0, 36, .inl ws)), (g10, .inl (ca 0, 6, .inl sd)), (g11, .inl (ca 0, 6, .inl wt)), (lq, .inl (ca 0, 1944, .inl z_.2))] ∧ va_S A s.heap H locs ∧ lv_has ls 8 [(6, .int (nI z_.1)), (5, .int rv_5), (4, .int (nI i2)), (3, .int (nI (n * 6))), (0, .ref h), (1, .int (nI n)), (2, .int v2)]) (fun (z_ : Nat × (Nat → Int32)) => 6 - z_.1) (fun z_ H locs ls hI ih64 => ?_) (0, L2) ⟨⟨Nat.zero_le _, oq_l2_3 hl2⟩, hP, hD, hS, lv_sub hl [0, 1, 2, 3, 4, 5, 6] rfl⟩
        obtain ⟨j, L3⟩ := z_
        dsimp only at hI ih64
        obtain ⟨⟨hj, hl3⟩, hP, hD, hS, hl⟩ := hI
        refine lv_iload hx hb dX3_findLeastOf_64 (lv_at hl 0 rfl) ?_
        refine lv_bipush (v := 6) hx hb dX3_findLeastOf_66 (by decide) ?_
        refine lv_icmp_ge (tgt := 118) hx hb dX3_findLeastOf_68 (by decide) (fun c_6 => ?_) (fun c_6 => ?_)
        · have nc_6 : 6 ≤ j := (nI_leI (a := 6) (b := j) (by omega) (by omega)).mp c_6
          refine lv_iinc (v := (nI (i2 + 1))) (lv' := [(4, .int (nI (i2 + 1))), (6, .int (nI j)), (5, .int rv_5), (3, .int (nI (n * 6))), (0, .ref h), (1, .int (nI n)), (2, .int v2)]) hx hb dX3_findLeastOf_118 hl (k := 2) rfl (nI_add (i2) 1) (by decide) rfl (fun ls hl => ?_)
          refine lv_goto (tgt := 35) hx hb dX3_findLeastOf_121 (by decide) ?_
          exact ih35 (i2 + 1, L3) _ _ _ (by omega) ⟨⟨by omega, oq_l3_2 hl3 (by omega)⟩, hP, hD, hS, lv_sub hl [0, 3, 4, 5, 6] rfl⟩
        · have nc_6 : ¬ (6 ≤ j) := fun h9 => c_6 ((nI_leI (a := 6) (b := j) (by omega) (by omega)).mpr h9)
          refine lv_aload_n hx hb dX3_findLeastOf_71 rfl (lv_at hl 4 rfl) ?_
          refine va_get (D := (dC, dI)) (ci := 3) (v := .ref g0) (C := RX3) (T := TX3) (N := 13) hx hb hts inX3 hown hK hP 0 rfl rfl 0 (by decide) (hts _ mw_104) (fun _ h9 => h9) rfl dX3_findLeastOf_72 ?_
          refine lv_iload hx hb dX3_findLeastOf_75 (lv_at hl 0 rfl) ?_
          refine lv_bipush (v := 6) hx hb dX3_findLeastOf_77 (by decide) ?_
          refine lv_imul hx hb dX3_findLeastOf_79 ?_
          refine lv_topi (fun y_ e_ => ?_)
          obtain rfl : y_ = (nI (j * 6)) := e_.trans (pk_mul (j) (6))
          refine lv_iload hx hb dX3_findLeastOf_80 (lv_at hl 2 rfl) ?_
          refine lv_iadd hx hb dX3_findLeastOf_82 ?_
          refine lv_topi (fun y_ e_ => ?_)
          obtain rfl : y_ = (nI (j * 6 + i2)) := e_.trans (nI_add (j * 6) (i2))
          refine va_iald hx hb hK hP 1 0 rfl rfl (vp_in_nI (show j * 6 + i2 < 36 by omega) (by first | decide | omega)) dX3_findLeastOf_83 ?_
          refine lv_topi (fun y_ e_ => ?_)
          obtain rfl : y_ = (ws (j * 6 + i2)) := e_.trans (congrArg ws (show ((nI (j * 6 + i2)) : Int32).toNatClampNeg = j * 6 + i2 from nI_clamp (by omega)))
          refine lv_iload hx hb dX3_findLeastOf_84 (lv_at hl 1 rfl) ?_
          refine lv_iadd hx hb dX3_findLeastOf_86 ?_
          refine lv_istore (lv' := [(7, .int ((ws (j * 6 + i2)) + rv_5)), (6, .int (nI j)), (5, .int rv_5), (4, .int (nI i2)), (3, .int (nI (n * 6))), (0, .ref h), (1, .int (nI n)), (2, .int v2)]) hx hb dX3_findLeastOf_87 hl (by decide) rfl (fun ls hl => ?_)
          refine lv_aload_n hx hb dX3_findLeastOf_89 rfl (lv_at hl 5 rfl) ?_
          refine va_get (D := (dC, dI)) (ci := 3) (v := .ref lq) (C := RX3) (T := TX3) (N := 13) hx hb hts inX3 hown hK hP 0 rfl rfl 12 (by decide) (hts _ mw_119) (fun _ h9 => h9) rfl dX3_findLeastOf_90 ?_
          refine lv_iload_n hx hb dX3_findLeastOf_93 rfl (lv_at hl 4 rfl) ?_
          refine lv_iload hx hb dX3_findLeastOf_94 (lv_at hl 1 rfl) ?_
          refine lv_iadd hx hb dX3_findLeastOf_96 ?_
          refine lv_topi (fun y_ e_ => ?_)
          obtain rfl : y_ = (nI (n * 6 + j)) := e_.trans (nI_add (n * 6) (j))
          refine lv_aload_n hx hb dX3_findLeastOf_97 rfl (lv_at hl 5 rfl) ?_
          refine va_get (D := (dC, dI)) (ci := 3) (v := .ref lq) (C := RX3) (T := TX3) (N := 13) hx hb hts inX3 hown hK hP 0 rfl rfl 12 (by decide) (hts _ mw_119) (fun _ h9 => h9) rfl dX3_findLeastOf_98 ?_
          refine lv_iload_n hx hb dX3_findLeastOf_101 rfl (lv_at hl 4 rfl) ?_
          refine lv_iload hx hb dX3_findLeastOf_102 (lv_at hl 1 rfl) ?_
          refine lv_iadd hx hb dX3_findLeastOf_104 ?_
          refine lv_topi (fun y_ e_ => ?_)
          obtain rfl : y_ = (nI (n * 6 + j)) := e_.trans (nI_add (n * 6) (j))
          refine va_iald hx hb hK hP 4 0 rfl rfl (vp_in_nI (show n * 6 + j < 1944 by omega) (by first | decide | omega)) dX3_findLeastOf_105 ?_
          refine lv_topi (fun y_ e_ => ?_)
          obtain rfl : y_ = (L3 (n * 6 + j)) := e_.trans (congrArg L3 (show ((nI (n * 6 + j)) : Int32).toNatClampNeg = n * 6 + j from nI_clamp (by omega)))
          refine lv_iload hx hb dX3_findLeastOf_106 (lv_at hl 0 rfl) ?_
          refine va_mmin hx hb (by rw [hml]; exact hl.1.symm) hown (hts _ mw_818) (hts _ mw_442) (hts _ mw_12) (hts _ mmin_code) (Nat.le_of_ble_eq_true rfl) (Nat.le_of_ble_eq_true rfl) (Nat.le_of_ble_eq_true rfl) (Nat.le_of_ble_eq_true rfl) dX3_findLeastOf_108 ?_
          refine lv_topi (fun y_ e_ => ?_)
          obtain rfl : y_ = (miI (L3 (n * 6 + j)) ((ws (j * 6 + i2)) + rv_5)) := e_.trans rfl
          refine va_iast hx hb hK hP hD hS 4 0 rfl rfl (vp_in_nI (show n * 6 + j < 1944 by omega) (by first | decide | omega)) dX3_findLeastOf_111 (fun H locs hP hD hS => ?_)
          rw [(show ((nI (n * 6 + j)) : Int32).toNatClampNeg = n * 6 + j from nI_clamp (by omega))] at hP hD
          obtain ⟨hP, hD⟩ := va_bo [(h, .inr (3, [.ref g0, .ref g1, .ref g2, .int (nI qm), .ref g4, .int om, .int kn, .int kl, .ref g8, .ref g9, .ref g10, .ref g11, .ref lq])), (g0, .inl (ca 0, 36, .inl ws)), (g10, .inl (ca 0, 6, .inl sd)), (g11, .inl (ca 0, 6, .inl wt)), (lq, .inl (ca 0, 1944, .inl (upd L3 (n * 6 + j) (miI (L3 (n * 6 + j)) ((ws (j * 6 + i2)) + rv_5)))))] hP hD
          refine lv_iinc (v := (nI (j + 1))) (lv' := [(6, .int (nI (j + 1))), (7, .int ((ws (j * 6 + i2)) + rv_5)), (5, .int rv_5), (4, .int (nI i2)), (3, .int (nI (n * 6))), (0, .ref h), (1, .int (nI n)), (2, .int v2)]) hx hb dX3_findLeastOf_112 hl (k := 1) rfl (nI_add (j) 1) (by decide) rfl (fun ls hl => ?_)
          refine lv_goto (tgt := 64) hx hb dX3_findLeastOf_115 (by decide) ?_
          exact ih64 (j + 1, (upd L3 (n * 6 + j) (miI (L3 (n * 6 + j)) ((ws (j * 6 + i2)) + rv_5)))) _ _ _ (by omega) ⟨⟨by omega, oq_l3_s hl3 (by omega) (oq_We hws j i2) (hw_5.trans (hT_ L2 hl2.1 i2 (by omega) hma).1) (oq_Wb hws j i2) (hT_ L2 hl2.1 i2 (by omega) hma).2 (oq_g_y hma)⟩, hP, hD, hS, lv_sub hl [0, 2, 3, 4, 5, 6, 7] rfl⟩
  · have nc_1 : ¬ (6 ≤ i) := fun h9 => c_1 ((nI_leI (a := 6) (b := i) (by omega) (by omega)).mpr h9)
    refine lv_aload_n hx hb dX3_findLeastOf_15 rfl (lv_at hl 2 rfl) ?_
    refine va_get (D := (dC, dI)) (ci := 3) (v := .ref lq) (C := RX3) (T := TX3) (N := 13) hx hb hts inX3 hown hK hP 0 rfl rfl 12 (by decide) (hts _ mw_119) (fun _ h9 => h9) rfl dX3_findLeastOf_16 ?_
    refine lv_iload_n hx hb dX3_findLeastOf_19 rfl (lv_at hl 1 rfl) ?_
    refine lv_iload hx hb dX3_findLeastOf_20 (lv_at hl 0 rfl) ?_
    refine lv_iadd hx hb dX3_findLeastOf_22 ?_
    refine lv_topi (fun y_ e_ => ?_)
    obtain rfl : y_ = (nI (n * 6 + i)) := e_.trans (nI_add (n * 6) (i))
    refine lv_ldc (v := 2147483647) hx hb hown (hts _ mw_831) dX3_findLeastOf_23 ?_
    refine va_iast hx hb hK hP hD hS 4 0 rfl rfl (vp_in_nI (show n * 6 + i < 1944 by omega) (by first | decide | omega)) dX3_findLeastOf_25 (fun H locs hP hD hS => ?_)
    rw [(show ((nI (n * 6 + i)) : Int32).toNatClampNeg = n * 6 + i from nI_clamp (by omega))] at hP hD
    obtain ⟨hP, hD⟩ := va_bo [(h, .inr (3, [.ref g0, .ref g1, .ref g2, .int (nI qm), .ref g4, .int om, .int kn, .int kl, .ref g8, .ref g9, .ref g10, .ref g11, .ref lq])), (g0, .inl (ca 0, 36, .inl ws)), (g10, .inl (ca 0, 6, .inl sd)), (g11, .inl (ca 0, 6, .inl wt)), (lq, .inl (ca 0, 1944, .inl (upd L1 (n * 6 + i) 2147483647)))] hP hD
    refine lv_iinc (v := (nI (i + 1))) (lv' := [(4, .int (nI (i + 1))), (3, .int (nI (n * 6))), (0, .ref h), (1, .int (nI n)), (2, .int v2)]) hx hb dX3_findLeastOf_26 hl (k := 0) rfl (nI_add (i) 1) (by decide) rfl (fun ls hl => ?_)
    refine lv_goto (tgt := 8) hx hb dX3_findLeastOf_29 (by decide) ?_
    exact ih (i + 1, (upd L1 (n * 6 + i) 2147483647)) _ _ _ (by omega) ⟨⟨by omega, oq_l1_s hl1⟩, hP, hD, hS, lv_sub hl [0, 1, 2, 3, 4] rfl⟩

theorem oq_lz {L : Nat → Int32} {i : Nat} (h : ∀ a, a < i → L a = 0) : ∀ a, a < i + 1 → upd L i 0 a = 0 := fun a ha => by
  by_cases e : a = i
  · subst e; exact pk_us
  · rw [pk_un e]; exact h a (by omega)
theorem oq_mT10 {m : Nat → Nat} {c : Nat → Nat} (h : ∀ k, k < 6 → c k ≤ m k) (hT : oq_T m 6 ≤ 10) : oq_T c 6 ≤ 10 := Nat.le_trans (oq_T_le h) hT
/-- what the least of one state wants -/
theorem oq_hT {ws sd L0 wt : Nat → Int32} {z : Int32} {m : Nat → Nat} {n : Nat} (h : oq_TB (oq_W ws) (oq_b z) m L0 n) (hws : ∀ j, cnt (ws j) 600) (hd : oq_dg m wt) (hE : oq_E m (oq_N wt) 6 = n) (hT : oq_T m 6 ≤ 10) (hse : ∀ j, j < 6 → sd j = nI (oq_s m j)) (hn : n ≤ 323) : ∀ L : Nat → Int32, (∀ x, x < n * 6 → L x = L0 x) → ∀ k, k < 6 → oq_may (oq_b z) (oq_N wt) k = true → oq_lo sd L (nI n) (nI k) = nI (oq_V (oq_W ws) (oq_b z) (oq_d (oq_N wt) k) k) ∧ oq_V (oq_W ws) (oq_b z) (oq_d (oq_N wt) k) k ≤ 6000 := fun L hL k hk hm =>
  ⟨oq_lo_e (oq_TB_of h hL) (Nat.le_refl _) (oq_Wb hws) (fun j hj => (hd j hj).2) hE hT hk (oq_may_i.mp hm).1 hse hn rfl rfl, (oq_TB_T h (Nat.le_refl _) (oq_Wb hws) (fun j hj => (hd j hj).2) hE hT hk (oq_may_i.mp hm).1).2.2⟩

set_option maxHeartbeats 4000000 in
set_option maxRecDepth 100000 in
theorem e_findLeast (l : Launch) (dC : Nat → ClassId) (dI : Nat → Nat → Nat) (ca : Nat → ClassId) (sz : Nat) (h : Nat) (g0 : Nat) (g1 : Nat) (g2 : Nat) (g4 : Nat) (g8 : Nat) (g9 : Nat) (g10 : Nat) (g11 : Nat) (qm : Nat) (om : Int32) (kn : Int32) (kl : Int32) (lst : Option Nat) (ws : Nat → Int32) (ct : Nat → Int32) (sd : Nat → Int32) (wt : Nat → Int32) (LE : Nat → Int32) (n : Nat) (v2 : Int32) (tl : va_W) (mm_ : Nat → Nat) (hn : 1 ≤ n ∧ n ≤ 324) (hsd : ∀ j, j < 6 → cnt (sd j) 1771561) (hws : ∀ j, cnt (ws j) 600) (hne : n = oq_s mm_ 6) (hmm : oq_m mm_ ct) (hTm : oq_T mm_ 6 ≤ 10) (hse : ∀ j, j < 6 → sd j = nI (oq_s mm_ j)) : Met l yX3_findLeast (Cond.code yX3_findLeast cX3_findLeast 4 none :: gT) ({ frames := 4, cells := (oM lst), slots := (1944 * oM lst), locals := 130 }) (va_Pc [.ref h, .int (nI n), .int v2] (pr (dC, dI) sz (@HAppend.hAppend va_W va_W va_W _ [(h, .inr (3, [.ref g0, .ref g1, .ref g2, .int (nI qm), .ref g4, .int om, .int kn, .int kl, .ref g8, .ref g9, .ref g10, .ref g11, va_rf lst])), (g0, .inl (ca 0, 36, .inl ws)), (g9, .inl (ca 0, 6, .inl ct)), (g10, .inl (ca 0, 6, .inl sd)), (g11, .inl (ca 0, 6, .inl wt))] (@HAppend.hAppend va_W va_W va_W _ (oL ca lst LE) tl)) (aT ca))) (va_Qv (fun (u_ : Nat × (Nat → Int32) × (Nat → Int32)) => oq_TB (oq_W ws) (oq_b v2) mm_ u_.2.1 n) (fun (u_ : Nat × (Nat → Int32) × (Nat → Int32)) t => va_P (dC, dI) vwCl (@HAppend.hAppend va_W va_W va_W _ [(h, .inr (3, [.ref g0, .ref g1, .ref g2, .int (nI qm), .ref g4, .int om, .int kn, .int kl, .ref g8, .ref g9, .ref g10, .ref g11, .ref u_.1])), (g0, .inl (ca 0, 36, .inl ws)), (g9, .inl (ca 0, 6, .inl ct)), (g10, .inl (ca 0, 6, .inl sd)), (g11, .inl (ca 0, 6, .inl u_.2.2)), (u_.1, .inl (ca 0, 1944, .inl u_.2.1))] tl) t.heap ∧ va_D (va_A (@HAppend.hAppend va_W va_W va_W _ [(h, .inr (3, [.ref g0, .ref g1, .ref g2, .int (nI qm), .ref g4, .int om, .int kn, .int kl, .ref g8, .ref g9, .ref g10, .ref g11, va_rf lst])), (g0, .inl (ca 0, 36, .inl ws)), (g9, .inl (ca 0, 6, .inl ct)), (g10, .inl (ca 0, 6, .inl sd)), (g11, .inl (ca 0, 6, .inl wt))] (@HAppend.hAppend va_W va_W va_W _ (oL ca lst LE) tl)) sz) (@HAppend.hAppend va_W va_W va_W _ [(h, .inr (3, [.ref g0, .ref g1, .ref g2, .int (nI qm), .ref g4, .int om, .int kn, .int kl, .ref g8, .ref g9, .ref g10, .ref g11, .ref u_.1])), (g0, .inl (ca 0, 36, .inl ws)), (g9, .inl (ca 0, 6, .inl ct)), (g10, .inl (ca 0, 6, .inl sd)), (g11, .inl (ca 0, 6, .inl u_.2.2)), (u_.1, .inl (ca 0, 1944, .inl u_.2.1))] tl)) (va_A (@HAppend.hAppend va_W va_W va_W _ [(h, .inr (3, [.ref g0, .ref g1, .ref g2, .int (nI qm), .ref g4, .int om, .int kn, .int kl, .ref g8, .ref g9, .ref g10, .ref g11, va_rf lst])), (g0, .inl (ca 0, 36, .inl ws)), (g9, .inl (ca 0, 6, .inl ct)), (g10, .inl (ca 0, 6, .inl sd)), (g11, .inl (ca 0, 6, .inl wt))] (@HAppend.hAppend va_W va_W va_W _ (oL ca lst LE) tl)) sz)) (oM lst) (1944 * oM lst) (va_A (@HAppend.hAppend va_W va_W va_W _ [(h, .inr (3, [.ref g0, .ref g1, .ref g2, .int (nI qm), .ref g4, .int om, .int kn, .int kl, .ref g8, .ref g9, .ref g10, .ref g11, va_rf lst])), (g0, .inl (ca 0, 36, .inl ws)), (g9, .inl (ca 0, 6, .inl ct)), (g10, .inl (ca 0, 6, .inl sd)), (g11, .inl (ca 0, 6, .inl wt))] (@HAppend.hAppend va_W va_W va_W _ (oL ca lst LE) tl)) sz) := by
  refine Met.ofW (cc := cX3_findLeast) (maxL := 4) (ret := none) (by decide) rfl ?_
  intro p e s m args below meth c s₁ B hml hv
  obtain ⟨rfl, hsz, hP, hK, hD0, hE⟩ := hv
  have hx := B.exec
  have hb := B.bytes
  have hr := B.returns
  have hts : ∀ w ∈ gT, w.before _ s = true := fun w h => atoms_spec (ws := Cond.code yX3_findLeast cX3_findLeast 4 none :: gT) B.pre w (List.mem_cons_of_mem _ h)
  have hown : s.vm.findClass RX3 = some m.cls := findClass_of_methodNamed B.named
  have hlocks := B.notSynchronized
  subst hsz
  have hD := hD0.self (sz := s.heap.size)
  generalize hAe : va_A ([(h, .inr (3, [.ref g0, .ref g1, .ref g2, .int (nI qm), .ref g4, .int om, .int kn, .int kl, .ref g8, .ref g9, .ref g10, .ref g11, va_rf lst])), (g0, .inl (ca 0, 36, .inl ws)), (g9, .inl (ca 0, 6, .inl ct)), (g10, .inl (ca 0, 6, .inl sd)), (g11, .inl (ca 0, 6, .inl wt))] ++ (oL ca lst LE ++ tl)) s.heap.size = A at hD ⊢
  have hA : ∀ q : Nat, s.heap.size ≤ q → A q := fun q h => by rw [← hAe]; exact Or.inr h
  have hS : va_S A s.heap s.heap [] := va_S.rf
  have hl := lv_entry ([.ref h, .int (nI n), .int v2]) (n := 4) (Nat.le_of_ble_eq_true rfl)
  rw [lg_entry_eq]
  generalize (lg_sl ([.ref h, .int (nI n), .int v2]) ++ List.replicate (4 - (lg_sl ([.ref h, .int (nI n), .int v2])).length) Slot.unset).toArray = ls at hl ⊢
  have hl : lv_has ls 4 [(0, .ref h), (1, .int (nI n)), (2, .int v2)] := hl
  refine lv_aload_n hx hb dX3_findLeast_0 rfl (lv_at hl 0 rfl) ?_
  refine va_get (D := (dC, dI)) (ci := 3) (v := va_rf lst) (C := RX3) (T := TX3) (N := 13) hx hb hts inX3 hown hK hP 0 rfl rfl 12 (by decide) (hts _ mw_119) (fun _ h9 => h9) rfl dX3_findLeast_1 ?_
  cases lst with
  | none =>
    have hl : lv_has ls 4 [(0, .ref h), (1, .int (nI n)), (2, .int v2)] := hl
    refine W.eq (g2 := F0 m 4 ls [.null]) rfl ?_
    refine lv_ifnonnullN hx hb dX3_findLeast_4 ?_
    obtain ⟨hP, hD⟩ := va_bo ([(h, .inr (3, [.ref g0, .ref g1, .ref g2, .int (nI qm), .ref g4, .int om, .int kn, .int kl, .ref g8, .ref g9, .ref g10, .ref g11, .null])), (g0, .inl (ca 0, 36, .inl ws)), (g9, .inl (ca 0, 6, .inl ct)), (g10, .inl (ca 0, 6, .inl sd)), (g11, .inl (ca 0, 6, .inl wt))] ++ tl) hP hD
    refine lv_aload_n hx hb dX3_findLeast_7 rfl (lv_at hl 0 rfl) ?_
    refine lv_sipush (v := 1944) hx hb dX3_findLeast_8 (by decide) ?_
    refine va_newa (atype := .int) (ty := .int) (a0 := (1944, .inl (fun _ => 0))) hx hb (hts _ mw_72) rfl hK hP hD hS hA (fun _ => rfl) (by decide) (by decide +kernel) (by decide) (by first | decide | omega | (simp [oM]; done) | (simp [oM]; omega)) (by first | decide | omega | (simp [oM]; done) | (simp [oM]; omega)) dX3_findLeast_11 (fun q2 y2 H hK9 hP hD hS => ?_)
    obtain rfl : y2 = ca 0 := ca_eq hK9 (tys := aT ca) 0 rfl
    have hP := va_P.swap (a := [(h, .inr (3, [.ref g0, .ref g1, .ref g2, .int (nI qm), .ref g4, .int om, .int kn, .int kl, .ref g8, .ref g9, .ref g10, .ref g11, .null])), (g0, .inl (ca 0, 36, .inl ws)), (g9, .inl (ca 0, 6, .inl ct)), (g10, .inl (ca 0, 6, .inl sd)), (g11, .inl (ca 0, 6, .inl wt))]) hP
    have hD := va_D.swap (a := [(h, .inr (3, [.ref g0, .ref g1, .ref g2, .int (nI qm), .ref g4, .int om, .int kn, .int kl, .ref g8, .ref g9, .ref g10, .ref g11, .null])), (g0, .inl (ca 0, 36, .inl ws)), (g9, .inl (ca 0, 6, .inl ct)), (g10, .inl (ca 0, 6, .inl sd)), (g11, .inl (ca 0, 6, .inl wt))]) hD
    obtain ⟨hP, hD⟩ := va_bo ([(h, .inr (3, [.ref g0, .ref g1, .ref g2, .int (nI qm), .ref g4, .int om, .int kn, .int kl, .ref g8, .ref g9, .ref g10, .ref g11, .null])), (g0, .inl (ca 0, 36, .inl ws)), (g9, .inl (ca 0, 6, .inl ct)), (g10, .inl (ca 0, 6, .inl sd)), (g11, .inl (ca 0, 6, .inl wt)), (q2, .inl (ca 0, 1944, .inl (fun _ => 0)))] ++ tl) hP hD
    refine va_put (D := (dC, dI)) (ci := 3) (v := .ref q2) (ty := .array .int) (C := RX3) (T := TX3) (N := 13) hx hb hts inX3 tyX3 tyX3_ok nmX3 hown hK hP hD hS 0 rfl rfl 12 (by decide) (hts _ mw_119) (fun _ h9 => h9) rfl (by decide +kernel) rfl rfl (Nat.le_of_ble_eq_true rfl) dX3_findLeast_13 (fun H locs hP hD hS => ?_)
    obtain ⟨hP, hD⟩ := va_bo ([(h, .inr (3, [.ref g0, .ref g1, .ref g2, .int (nI qm), .ref g4, .int om, .int kn, .int kl, .ref g8, .ref g9, .ref g10, .ref g11, .ref q2])), (g0, .inl (ca 0, 36, .inl ws)), (g9, .inl (ca 0, 6, .inl ct)), (g10, .inl (ca 0, 6, .inl sd)), (g11, .inl (ca 0, 6, .inl wt)), (q2, .inl (ca 0, 1944, .inl (fun _ => 0)))] ++ tl) hP hD
    refine lv_aload_n hx hb dX3_findLeast_16 rfl (lv_at hl 0 rfl) ?_
    refine va_get (D := (dC, dI)) (ci := 3) (v := .ref g11) (C := RX3) (T := TX3) (N := 13) hx hb hts inX3 hown hK hP 0 rfl rfl 11 (by decide) (hts _ mw_118) (fun _ h9 => h9) rfl dX3_findLeast_17 ?_
    refine lv_iconst (v := 0) hx hb dX3_findLeast_20 (by decide) ?_
    have hPc := hP.sub (ws' := [(g11, .inl (ca 0, 6, .inl wt))]) [4] rfl
    have hDc := hD.sub (ws' := [(g11, .inl (ca 0, 6, .inl wt))]) [4] (by decide) rfl
    have hFc := va_free (wc := [(g11, .inl (ca 0, 6, .inl wt))]) hD hS hA [4] rfl
    refine va_callv (va_runS (As := [.ref g11, .int 0]) (rest := []) ⟨hx, hb, hml, hown, hts⟩ (c_fill l dC dI ca H.size g11 6 wt 0 (by first | decide | omega)) (⟨callB_of 2 hts (gd mw_42) rfl rfl rfl (hts _ mw_3) (hts _ mw_817) ds_J7_fill_53178 ⟨Nat.le_of_ble_eq_true rfl, Nat.le_of_ble_eq_true rfl⟩, (hts _ mw_41)⟩) (pr_S hPc hK hDc hE) rfl rfl hl.1 rfl (lv_room (Nat.le_of_ble_eq_true rfl)) dX3_findLeast_21 ⟨by show (0 + 1) + 0 ≤ (oM none); first | decide | omega | (simp [oM]; done), by show (0 + 1944) + 0 ≤ (1944 * oM none); first | decide | omega | (simp [oM]; done)⟩) hS (fun q _ h => hFc q h) hFc (fun u_ t_ H1 locs ht hvm hw_ hB hz1 hk1 hS => ?_)
    obtain ⟨hP1, hD1⟩ := hB
    rw [ht] at hP1
    obtain ⟨hP, hD⟩ := va_joinQ (X := [(h, .inr (3, [.ref g0, .ref g1, .ref g2, .int (nI qm), .ref g4, .int om, .int kn, .int kl, .ref g8, .ref g9, .ref g10, .ref g11, .ref q2])), (g0, .inl (ca 0, 36, .inl ws)), (g9, .inl (ca 0, 6, .inl ct)), (g10, .inl (ca 0, 6, .inl sd)), (g11, .inl (ca 0, 6, .inl wt)), (q2, .inl (ca 0, 1944, .inl (fun _ => 0)))]) (cx := [(g11, .inl (ca 0, 6, .inl wt))]) (wr := [(h, .inr (3, [.ref g0, .ref g1, .ref g2, .int (nI qm), .ref g4, .int om, .int kn, .int kl, .ref g8, .ref g9, .ref g10, .ref g11, .ref q2])), (g0, .inl (ca 0, 36, .inl ws)), (g9, .inl (ca 0, 6, .inl ct)), (g10, .inl (ca 0, 6, .inl sd)), (q2, .inl (ca 0, 1944, .inl (fun _ => 0)))]) (w1 := [(g11, .inl (ca 0, 6, .inl (flg wt 0 6)))]) hP hD [4] [0, 1, 2, 3, 5] rfl rfl (by decide) (by decide) hk1 hFc hP1 hD1
    generalize H1 = H at hP hS ⊢
    obtain ⟨hP, hD⟩ := va_bo ([(h, .inr (3, [.ref g0, .ref g1, .ref g2, .int (nI qm), .ref g4, .int om, .int kn, .int kl, .ref g8, .ref g9, .ref g10, .ref g11, .ref q2])), (g0, .inl (ca 0, 36, .inl ws)), (g9, .inl (ca 0, 6, .inl ct)), (g10, .inl (ca 0, 6, .inl sd)), (q2, .inl (ca 0, 1944, .inl (fun _ => 0))), (g11, .inl (ca 0, 6, .inl (flg wt 0 6)))] ++ tl) hP hD
    refine lv_iconst (v := 0) hx hb dX3_findLeast_24 (by decide) ?_
    refine lv_istore_n (lv' := [(3, .int 0), (0, .ref h), (1, .int (nI n)), (2, .int v2)]) hx hb dX3_findLeast_25 rfl hl (by decide) rfl (fun ls hl => ?_)
    refine wl_loop (fun (z_ : Nat × (Nat → Int32)) H locs ls => (z_.1 ≤ 6 ∧ ∀ a, a < z_.1 → z_.2 a = 0) ∧ va_P (dC, dI) vwCl (@HAppend.hAppend va_W va_W va_W _ [(h, .inr (3, [.ref g0, .ref g1, .ref g2, .int (nI qm), .ref g4, .int om, .int kn, .int kl, .ref g8, .ref g9, .ref g10, .ref g11, .ref q2])), (g0, .inl (ca 0, 36, .inl ws)), (g9, .inl (ca 0, 6, .inl ct)), (g10, .inl (ca 0, 6, .inl sd)), (q2, .inl (ca 0, 1944, .inl z_.2)), (g11, .inl (ca 0, 6, .inl (flg wt 0 6)))] tl) H ∧ va_D A (@HAppend.hAppend va_W va_W va_W _ [(h, .inr (3, [.ref g0, .ref g1, .ref g2, .int (nI qm), .ref g4, .int om, .int kn, .int kl, .ref g8, .ref g9, .ref g10, .ref g11, .ref q2])), (g0, .inl (ca 0, 36, .inl ws)), (g9, .inl (ca 0, 6, .inl ct)), (g10, .inl (ca 0, 6, .inl sd)), (q2, .inl (ca 0, 1944, .inl z_.2)), (g11, .inl (ca 0, 6, .inl (flg wt 0 6)))] tl) ∧ va_S A s.heap H locs ∧ lv_has ls 4 [(3, .int (nI z_.1)), (0, .ref h), (1, .int (nI n)), (2, .int v2)]) (fun (z_ : Nat × (Nat → Int32)) => 6 - z_.1) (fun z_ H locs ls hI ih => ?_) (0, (fun _ => 0)) ⟨⟨Nat.zero_le _, fun j hj => absurd hj (Nat.not_lt_zero j)⟩, hP, hD, hS, lv_sub hl [0, 1, 2, 3] rfl⟩
    obtain ⟨i, L1⟩ := z_
    dsimp only at hI ih
    obtain ⟨⟨hi, hz0⟩, hP, hD, hS, hl⟩ := hI
    refine lv_iload_n hx hb dX3_findLeast_26 rfl (lv_at hl 0 rfl) ?_
    refine lv_bipush (v := 6) hx hb dX3_findLeast_27 (by decide) ?_
    refine lv_icmp_ge (tgt := 45) hx hb dX3_findLeast_29 (by decide) (fun c_4 => ?_) (fun c_4 => ?_)
    · have nc_4 : 6 ≤ i := (nI_leI (a := 6) (b := i) (by omega) (by omega)).mp c_4
      refine lv_iconst (v := 1) hx hb dX3_findLeast_45 (by decide) ?_
      refine lv_istore_n (lv' := [(3, .int 1), (0, .ref h), (1, .int (nI n)), (2, .int v2)]) hx hb dX3_findLeast_46 rfl hl (by decide) rfl (fun ls hl => ?_)
      refine wl_loop (fun (z_ : Nat × (Nat → Int32) × (Nat → Int32)) H locs ls => ((1 ≤ z_.1 ∧ z_.1 ≤ n) ∧ oq_dg mm_ z_.2.1 ∧ oq_E mm_ (oq_N z_.2.1) 6 + 1 = z_.1 ∧ oq_TB (oq_W ws) (oq_b v2) mm_ z_.2.2 z_.1) ∧ va_P (dC, dI) vwCl (@HAppend.hAppend va_W va_W va_W _ [(h, .inr (3, [.ref g0, .ref g1, .ref g2, .int (nI qm), .ref g4, .int om, .int kn, .int kl, .ref g8, .ref g9, .ref g10, .ref g11, .ref q2])), (g0, .inl (ca 0, 36, .inl ws)), (g9, .inl (ca 0, 6, .inl ct)), (g10, .inl (ca 0, 6, .inl sd)), (q2, .inl (ca 0, 1944, .inl z_.2.2)), (g11, .inl (ca 0, 6, .inl z_.2.1))] tl) H ∧ va_D A (@HAppend.hAppend va_W va_W va_W _ [(h, .inr (3, [.ref g0, .ref g1, .ref g2, .int (nI qm), .ref g4, .int om, .int kn, .int kl, .ref g8, .ref g9, .ref g10, .ref g11, .ref q2])), (g0, .inl (ca 0, 36, .inl ws)), (g9, .inl (ca 0, 6, .inl ct)), (g10, .inl (ca 0, 6, .inl sd)), (q2, .inl (ca 0, 1944, .inl z_.2.2)), (g11, .inl (ca 0, 6, .inl z_.2.1))] tl) ∧ va_S A s.heap H locs ∧ lv_has ls 4 [(3, .int (nI z_.1)), (0, .ref h), (1, .int (nI n)), (2, .int v2)]) (fun (z_ : Nat × (Nat → Int32) × (Nat → Int32)) => n - z_.1) (fun z_ H locs ls hI ih47 => ?_) (1, (flg wt 0 6), L1) ⟨⟨⟨Nat.le_refl _, hn.1⟩, oq_dg0.1, by rw [oq_dg0.2], oq_TB_1 hz0 (by omega)⟩, hP, hD, hS, lv_sub hl [0, 1, 2, 3] rfl⟩
      obtain ⟨i2, w2_, L2⟩ := z_
      dsimp only at hI ih47
      obtain ⟨⟨⟨hi2, hi3⟩, hdg, heE, htb⟩, hP, hD, hS, hl⟩ := hI
      refine lv_iload_n hx hb dX3_findLeast_47 rfl (lv_at hl 0 rfl) ?_
      refine lv_iload_n hx hb dX3_findLeast_48 rfl (lv_at hl 2 rfl) ?_
      refine lv_icmp_ge (tgt := 68) hx hb dX3_findLeast_49 (by decide) (fun c_5 => ?_) (fun c_5 => ?_)
      · have nc_5 : n ≤ i2 := (nI_leI (a := n) (b := i2) (by omega) (by omega)).mp c_5
        refine W.widen (k := (oM none)) (n := (1944 * oM none)) (by first | decide | omega | (simp [oM]; done) | (simp [oM]; omega)) (by first | decide | omega | (simp [oM]; done) | (simp [oM]; omega)) ?_
        have hP9 : va_P (dC, dI) vwCl (@HAppend.hAppend va_W va_W va_W _ [(h, .inr (3, [.ref g0, .ref g1, .ref g2, .int (nI qm), .ref g4, .int om, .int kn, .int kl, .ref g8, .ref g9, .ref g10, .ref g11, .ref q2])), (g0, .inl (ca 0, 36, .inl ws)), (g9, .inl (ca 0, 6, .inl ct)), (g10, .inl (ca 0, 6, .inl sd)), (g11, .inl (ca 0, 6, .inl w2_)), (q2, .inl (ca 0, 1944, .inl L2))] tl) H := va_P.part (X := [(h, .inr (3, [.ref g0, .ref g1, .ref g2, .int (nI qm), .ref g4, .int om, .int kn, .int kl, .ref g8, .ref g9, .ref g10, .ref g11, .ref q2])), (g0, .inl (ca 0, 36, .inl ws)), (g9, .inl (ca 0, 6, .inl ct)), (g10, .inl (ca 0, 6, .inl sd)), (q2, .inl (ca 0, 1944, .inl L2)), (g11, .inl (ca 0, 6, .inl w2_))]) hP [0, 1, 2, 3, 5, 4] rfl
        have hD9 : va_D A (@HAppend.hAppend va_W va_W va_W _ [(h, .inr (3, [.ref g0, .ref g1, .ref g2, .int (nI qm), .ref g4, .int om, .int kn, .int kl, .ref g8, .ref g9, .ref g10, .ref g11, .ref q2])), (g0, .inl (ca 0, 36, .inl ws)), (g9, .inl (ca 0, 6, .inl ct)), (g10, .inl (ca 0, 6, .inl sd)), (g11, .inl (ca 0, 6, .inl w2_)), (q2, .inl (ca 0, 1944, .inl L2))] tl) := va_D.part (X := [(h, .inr (3, [.ref g0, .ref g1, .ref g2, .int (nI qm), .ref g4, .int om, .int kn, .int kl, .ref g8, .ref g9, .ref g10, .ref g11, .ref q2])), (g0, .inl (ca 0, 36, .inl ws)), (g9, .inl (ca 0, 6, .inl ct)), (g10, .inl (ca 0, 6, .inl sd)), (q2, .inl (ca 0, 1944, .inl L2)), (g11, .inl (ca 0, 6, .inl w2_))]) hD [0, 1, 2, 3, 5, 4] (by decide) rfl
        exact W.vret hx hb hr (fun t ht hW => ⟨⟨(q2, L2, w2_), rfl, (show i2 = n by omega) ▸ htb, by rw [ht]; dsimp only; exact hP9, by dsimp only; exact hD9⟩, hS.F ht⟩) hS.2.2 dX3_findLeast_68
      · have nc_5 : ¬ (n ≤ i2) := fun h9 => c_5 ((nI_leI (a := n) (b := i2) (by omega) (by omega)).mpr h9)
        refine lv_aload_n hx hb dX3_findLeast_52 rfl (lv_at hl 1 rfl) ?_
        have hPc := hP.sub (ws' := [(h, .inr (3, [.ref g0, .ref g1, .ref g2, .int (nI qm), .ref g4, .int om, .int kn, .int kl, .ref g8, .ref g9, .ref g10, .ref g11, va_rf (some q2)])), (g9, .inl (ca 0, 6, .inl ct)), (g11, .inl (ca 0, 6, .inl w2_))]) [0, 2, 5] rfl
        have hDc := hD.sub (ws' := [(h, .inr (3, [.ref g0, .ref g1, .ref g2, .int (nI qm), .ref g4, .int om, .int kn, .int kl, .ref g8, .ref g9, .ref g10, .ref g11, va_rf (some q2)])), (g9, .inl (ca 0, 6, .inl ct)), (g11, .inl (ca 0, 6, .inl w2_))]) [0, 2, 5] (by decide) rfl
        have hFc := va_free (wc := [(h, .inr (3, [.ref g0, .ref g1, .ref g2, .int (nI qm), .ref g4, .int om, .int kn, .int kl, .ref g8, .ref g9, .ref g10, .ref g11, va_rf (some q2)])), (g9, .inl (ca 0, 6, .inl ct)), (g11, .inl (ca 0, 6, .inl w2_))]) hD hS hA [0, 2, 5] rfl
        refine va_callv (va_runV (As := []) (rest := []) ⟨hx, hb, hml, hown, hts⟩ (e_countOn l dC dI ca H.size h g0 g1 g2 g4 g8 g9 g10 g11 qm om kn kl (some q2) ct w2_ mm_ hdg hmm (by omega)) (⟨callB_of 0 hts (gd mw_826) rfl rfl rfl (hts _ mw_5) (hts _ mw_823) ds_X3_countOn ⟨Nat.le_of_ble_eq_true rfl, Nat.le_of_ble_eq_true rfl⟩, (hts _ mw_825), (hts _ mp_30)⟩) (pr_V hPc hK hDc hE (va_recv hK hPc (ci := 3) (q0 := 0) rfl rfl)) rfl rfl hl.1 rfl (lv_room (Nat.le_of_ble_eq_true rfl)) dX3_findLeast_53 ⟨by show (0 + 1) + 0 ≤ (oM none); first | decide | omega | (simp [oM]; done), by show (0 + 1944) + 0 ≤ (1944 * oM none); first | decide | omega | (simp [oM]; done)⟩) hS (fun q _ h => hFc q h) hFc (fun wt2_6 t_ H1 locs ht hvm hw_ hB hz1 hk1 hS => ?_)
        have hw_6 := hw_
        obtain ⟨hP1, hD1⟩ := hB
        rw [ht] at hP1
        obtain ⟨hP, hD⟩ := va_joinQ (X := [(h, .inr (3, [.ref g0, .ref g1, .ref g2, .int (nI qm), .ref g4, .int om, .int kn, .int kl, .ref g8, .ref g9, .ref g10, .ref g11, .ref q2])), (g0, .inl (ca 0, 36, .inl ws)), (g9, .inl (ca 0, 6, .inl ct)), (g10, .inl (ca 0, 6, .inl sd)), (q2, .inl (ca 0, 1944, .inl L2)), (g11, .inl (ca 0, 6, .inl w2_))]) (cx := [(h, .inr (3, [.ref g0, .ref g1, .ref g2, .int (nI qm), .ref g4, .int om, .int kn, .int kl, .ref g8, .ref g9, .ref g10, .ref g11, va_rf (some q2)])), (g9, .inl (ca 0, 6, .inl ct)), (g11, .inl (ca 0, 6, .inl w2_))]) (wr := [(g0, .inl (ca 0, 36, .inl ws)), (g10, .inl (ca 0, 6, .inl sd)), (q2, .inl (ca 0, 1944, .inl L2))]) (w1 := [(h, .inr (3, [.ref g0, .ref g1, .ref g2, .int (nI qm), .ref g4, .int om, .int kn, .int kl, .ref g8, .ref g9, .ref g10, .ref g11, .ref q2])), (g9, .inl (ca 0, 6, .inl ct)), (g11, .inl (ca 0, 6, .inl wt2_6))]) hP hD [0, 2, 5] [1, 3, 4] rfl rfl (by decide) (by decide) hk1 hFc hP1 hD1
        generalize H1 = H at hP hS ⊢
        obtain ⟨hP, hD⟩ := va_bo ([(g0, .inl (ca 0, 36, .inl ws)), (g10, .inl (ca 0, 6, .inl sd)), (q2, .inl (ca 0, 1944, .inl L2)), (h, .inr (3, [.ref g0, .ref g1, .ref g2, .int (nI qm), .ref g4, .int om, .int kn, .int kl, .ref g8, .ref g9, .ref g10, .ref g11, .ref q2])), (g9, .inl (ca 0, 6, .inl ct)), (g11, .inl (ca 0, 6, .inl wt2_6))] ++ tl) hP hD
        refine lv_aload_n hx hb dX3_findLeast_56 rfl (lv_at hl 1 rfl) ?_
        refine lv_iload_n hx hb dX3_findLeast_57 rfl (lv_at hl 0 rfl) ?_
        refine lv_iload_n hx hb dX3_findLeast_58 rfl (lv_at hl 3 rfl) ?_
        have hPc := hP.sub (ws' := [(h, .inr (3, [.ref g0, .ref g1, .ref g2, .int (nI qm), .ref g4, .int om, .int kn, .int kl, .ref g8, .ref g9, .ref g10, .ref g11, .ref q2])), (g0, .inl (ca 0, 36, .inl ws)), (g10, .inl (ca 0, 6, .inl sd)), (g11, .inl (ca 0, 6, .inl wt2_6)), (q2, .inl (ca 0, 1944, .inl L2))]) [3, 0, 1, 5, 2] rfl
        have hDc := hD.sub (ws' := [(h, .inr (3, [.ref g0, .ref g1, .ref g2, .int (nI qm), .ref g4, .int om, .int kn, .int kl, .ref g8, .ref g9, .ref g10, .ref g11, .ref q2])), (g0, .inl (ca 0, 36, .inl ws)), (g10, .inl (ca 0, 6, .inl sd)), (g11, .inl (ca 0, 6, .inl wt2_6)), (q2, .inl (ca 0, 1944, .inl L2))]) [3, 0, 1, 5, 2] (by decide) rfl
        have hFc := va_free (wc := [(h, .inr (3, [.ref g0, .ref g1, .ref g2, .int (nI qm), .ref g4, .int om, .int kn, .int kl, .ref g8, .ref g9, .ref g10, .ref g11, .ref q2])), (g0, .inl (ca 0, 36, .inl ws)), (g10, .inl (ca 0, 6, .inl sd)), (g11, .inl (ca 0, 6, .inl wt2_6)), (q2, .inl (ca 0, 1944, .inl L2))]) hD hS hA [3, 0, 1, 5, 2] rfl
        refine va_callv (va_runV (As := [.int (nI i2), .int v2]) (rest := []) ⟨hx, hb, hml, hown, hts⟩ (e_findLeastOf l dC dI ca H.size h g0 g1 g2 g4 g8 g9 g10 g11 qm om kn kl ws sd wt2_6 q2 L2 i2 v2 (fun k => oq_V (oq_W ws) (oq_b v2) (oq_d (oq_N wt2_6) k) k) (by omega) hsd hws (oq_dg_c hw_6.1 hmm) (oq_hT htb hws hw_6.1 (by rw [hw_6.2]; omega) hTm hse (by omega))) (⟨callB_of 2 hts (gd mw_830) rfl rfl rfl (hts _ mw_5) (hts _ mw_827) ds_X3_findLeastOf ⟨Nat.le_of_ble_eq_true rfl, Nat.le_of_ble_eq_true rfl⟩, (hts _ mw_829), (hts _ mp_31)⟩) (pr_V hPc hK hDc hE (va_recv hK hPc (ci := 3) (q0 := 0) rfl rfl)) rfl rfl hl.1 rfl (lv_room (Nat.le_of_ble_eq_true rfl)) dX3_findLeast_59 ⟨by show (0 + 1) + 0 ≤ (oM none); first | decide | omega | (simp [oM]; done), by show (0 + 1944) + 0 ≤ (1944 * oM none); first | decide | omega | (simp [oM]; done)⟩) hS (fun q _ h => hFc q h) hFc (fun LE2_7 t_ H1 locs ht hvm hw_ hB hz1 hk1 hS => ?_)
        have hw_7 := hw_
        obtain ⟨hP1, hD1⟩ := hB
        rw [ht] at hP1
        obtain ⟨hP, hD⟩ := va_joinQ (X := [(g0, .inl (ca 0, 36, .inl ws)), (g10, .inl (ca 0, 6, .inl sd)), (q2, .inl (ca 0, 1944, .inl L2)), (h, .inr (3, [.ref g0, .ref g1, .ref g2, .int (nI qm), .ref g4, .int om, .int kn, .int kl, .ref g8, .ref g9, .ref g10, .ref g11, .ref q2])), (g9, .inl (ca 0, 6, .inl ct)), (g11, .inl (ca 0, 6, .inl wt2_6))]) (cx := [(h, .inr (3, [.ref g0, .ref g1, .ref g2, .int (nI qm), .ref g4, .int om, .int kn, .int kl, .ref g8, .ref g9, .ref g10, .ref g11, .ref q2])), (g0, .inl (ca 0, 36, .inl ws)), (g10, .inl (ca 0, 6, .inl sd)), (g11, .inl (ca 0, 6, .inl wt2_6)), (q2, .inl (ca 0, 1944, .inl L2))]) (wr := [(g9, .inl (ca 0, 6, .inl ct))]) (w1 := [(h, .inr (3, [.ref g0, .ref g1, .ref g2, .int (nI qm), .ref g4, .int om, .int kn, .int kl, .ref g8, .ref g9, .ref g10, .ref g11, .ref q2])), (g0, .inl (ca 0, 36, .inl ws)), (g10, .inl (ca 0, 6, .inl sd)), (g11, .inl (ca 0, 6, .inl wt2_6)), (q2, .inl (ca 0, 1944, .inl LE2_7))]) hP hD [3, 0, 1, 5, 2] [4] rfl rfl (by decide) (by decide) hk1 hFc hP1 hD1
        generalize H1 = H at hP hS ⊢
        obtain ⟨hP, hD⟩ := va_bo ([(g9, .inl (ca 0, 6, .inl ct)), (h, .inr (3, [.ref g0, .ref g1, .ref g2, .int (nI qm), .ref g4, .int om, .int kn, .int kl, .ref g8, .ref g9, .ref g10, .ref g11, .ref q2])), (g0, .inl (ca 0, 36, .inl ws)), (g10, .inl (ca 0, 6, .inl sd)), (g11, .inl (ca 0, 6, .inl wt2_6)), (q2, .inl (ca 0, 1944, .inl LE2_7))] ++ tl) hP hD
        refine lv_iinc (v := (nI (i2 + 1))) (lv' := [(3, .int (nI (i2 + 1))), (0, .ref h), (1, .int (nI n)), (2, .int v2)]) hx hb dX3_findLeast_62 hl (k := 0) rfl (nI_add (i2) 1) (by decide) rfl (fun ls hl => ?_)
        refine lv_goto (tgt := 47) hx hb dX3_findLeast_65 (by decide) ?_
        exact ih47 (i2 + 1, wt2_6, LE2_7) _ _ _ (by omega) ⟨⟨⟨by first | omega | (dsimp only; omega), by first | omega | (dsimp only; omega)⟩, hw_6.1, (by rw [hw_6.2]; omega), oq_TB_n htb hw_7 (fun k hk => (hw_6.1 k hk).2) (by rw [hw_6.2]; omega) hi2⟩, (va_P.part (X := [(g9, .inl (ca 0, 6, .inl ct)), (h, .inr (3, [.ref g0, .ref g1, .ref g2, .int (nI qm), .ref g4, .int om, .int kn, .int kl, .ref g8, .ref g9, .ref g10, .ref g11, .ref q2])), (g0, .inl (ca 0, 36, .inl ws)), (g10, .inl (ca 0, 6, .inl sd)), (g11, .inl (ca 0, 6, .inl wt2_6)), (q2, .inl (ca 0, 1944, .inl LE2_7))]) hP [1, 2, 0, 3, 5, 4] rfl), (va_D.part (X := [(g9, .inl (ca 0, 6, .inl ct)), (h, .inr (3, [.ref g0, .ref g1, .ref g2, .int (nI qm), .ref g4, .int om, .int kn, .int kl, .ref g8, .ref g9, .ref g10, .ref g11, .ref q2])), (g0, .inl (ca 0, 36, .inl ws)), (g10, .inl (ca 0, 6, .inl sd)), (g11, .inl (ca 0, 6, .inl wt2_6)), (q2, .inl (ca 0, 1944, .inl LE2_7))]) hD [1, 2, 0, 3, 5, 4] (by decide) rfl), hS, lv_sub hl [0, 1, 2, 3] rfl⟩
    · have nc_4 : ¬ (6 ≤ i) := fun h9 => c_4 ((nI_leI (a := 6) (b := i) (by omega) (by omega)).mpr h9)
      refine lv_aload_n hx hb dX3_findLeast_32 rfl (lv_at hl 1 rfl) ?_
      refine va_get (D := (dC, dI)) (ci := 3) (v := .ref q2) (C := RX3) (T := TX3) (N := 13) hx hb hts inX3 hown hK hP 0 rfl rfl 12 (by decide) (hts _ mw_119) (fun _ h9 => h9) rfl dX3_findLeast_33 ?_
      refine lv_iload_n hx hb dX3_findLeast_36 rfl (lv_at hl 0 rfl) ?_
      refine lv_iconst (v := 0) hx hb dX3_findLeast_37 (by decide) ?_
      refine va_iast hx hb hK hP hD hS 4 0 rfl rfl (vp_in_nI (show i < 1944 by omega) (by first | decide | omega)) dX3_findLeast_38 (fun H locs hP hD hS => ?_)
      rw [(show ((nI i) : Int32).toNatClampNeg = i from nI_clamp (by omega))] at hP hD
      obtain ⟨hP, hD⟩ := va_bo ([(h, .inr (3, [.ref g0, .ref g1, .ref g2, .int (nI qm), .ref g4, .int om, .int kn, .int kl, .ref g8, .ref g9, .ref g10, .ref g11, .ref q2])), (g0, .inl (ca 0, 36, .inl ws)), (g9, .inl (ca 0, 6, .inl ct)), (g10, .inl (ca 0, 6, .inl sd)), (q2, .inl (ca 0, 1944, .inl (upd L1 i 0))), (g11, .inl (ca 0, 6, .inl (flg wt 0 6)))] ++ tl) hP hD
      refine lv_iinc (v := (nI (i + 1))) (lv' := [(3, .int (nI (i + 1))), (0, .ref h), (1, .int (nI n)), (2, .int v2)]) hx hb dX3_findLeast_39 hl (k := 0) rfl (nI_add (i) 1) (by decide) rfl (fun ls hl => ?_)
      refine lv_goto (tgt := 26) hx hb dX3_findLeast_42 (by decide) ?_
      exact ih (i + 1, (upd L1 i 0)) _ _ _ (by omega) ⟨⟨by omega, oq_lz hz0⟩, hP, hD, hS, lv_sub hl [0, 1, 2, 3] rfl⟩
  | some b1 =>
    have hl : lv_has ls 4 [(0, .ref h), (1, .int (nI n)), (2, .int v2)] := hl
    refine W.eq (g2 := F0 m 4 ls [.ref b1]) rfl ?_
    refine lv_ifnonnull (tgt := 16) hx hb dX3_findLeast_4 (by decide) ?_
    obtain ⟨hP, hD⟩ := va_bo ([(h, .inr (3, [.ref g0, .ref g1, .ref g2, .int (nI qm), .ref g4, .int om, .int kn, .int kl, .ref g8, .ref g9, .ref g10, .ref g11, .ref b1])), (g0, .inl (ca 0, 36, .inl ws)), (g9, .inl (ca 0, 6, .inl ct)), (g10, .inl (ca 0, 6, .inl sd)), (g11, .inl (ca 0, 6, .inl wt)), (b1, .inl (ca 0, 1944, .inl LE))] ++ tl) hP hD
    refine lv_aload_n hx hb dX3_findLeast_16 rfl (lv_at hl 0 rfl) ?_
    refine va_get (D := (dC, dI)) (ci := 3) (v := .ref g11) (C := RX3) (T := TX3) (N := 13) hx hb hts inX3 hown hK hP 0 rfl rfl 11 (by decide) (hts _ mw_118) (fun _ h9 => h9) rfl dX3_findLeast_17 ?_
    refine lv_iconst (v := 0) hx hb dX3_findLeast_20 (by decide) ?_
    have hPc := hP.sub (ws' := [(g11, .inl (ca 0, 6, .inl wt))]) [4] rfl
    have hDc := hD.sub (ws' := [(g11, .inl (ca 0, 6, .inl wt))]) [4] (by decide) rfl
    have hFc := va_free (wc := [(g11, .inl (ca 0, 6, .inl wt))]) hD hS hA [4] rfl
    refine va_callv (va_runS (As := [.ref g11, .int 0]) (rest := []) ⟨hx, hb, hml, hown, hts⟩ (c_fill l dC dI ca s.heap.size g11 6 wt 0 (by first | decide | omega)) (⟨callB_of 2 hts (gd mw_42) rfl rfl rfl (hts _ mw_3) (hts _ mw_817) ds_J7_fill_53178 ⟨Nat.le_of_ble_eq_true rfl, Nat.le_of_ble_eq_true rfl⟩, (hts _ mw_41)⟩) (pr_S hPc hK hDc hE) rfl rfl hl.1 rfl (lv_room (Nat.le_of_ble_eq_true rfl)) dX3_findLeast_21 ⟨Nat.le_of_ble_eq_true rfl, Nat.le_of_ble_eq_true rfl⟩) hS (fun q _ h => hFc q h) hFc (fun u_ t_ H1 locs ht hvm hw_ hB hz1 hk1 hS => ?_)
    obtain ⟨hP1, hD1⟩ := hB
    rw [ht] at hP1
    obtain ⟨hP, hD⟩ := va_joinQ (X := [(h, .inr (3, [.ref g0, .ref g1, .ref g2, .int (nI qm), .ref g4, .int om, .int kn, .int kl, .ref g8, .ref g9, .ref g10, .ref g11, .ref b1])), (g0, .inl (ca 0, 36, .inl ws)), (g9, .inl (ca 0, 6, .inl ct)), (g10, .inl (ca 0, 6, .inl sd)), (g11, .inl (ca 0, 6, .inl wt)), (b1, .inl (ca 0, 1944, .inl LE))]) (cx := [(g11, .inl (ca 0, 6, .inl wt))]) (wr := [(h, .inr (3, [.ref g0, .ref g1, .ref g2, .int (nI qm), .ref g4, .int om, .int kn, .int kl, .ref g8, .ref g9, .ref g10, .ref g11, .ref b1])), (g0, .inl (ca 0, 36, .inl ws)), (g9, .inl (ca 0, 6, .inl ct)), (g10, .inl (ca 0, 6, .inl sd)), (b1, .inl (ca 0, 1944, .inl LE))]) (w1 := [(g11, .inl (ca 0, 6, .inl (flg wt 0 6)))]) hP hD [4] [0, 1, 2, 3, 5] rfl rfl (by decide) (by decide) hk1 hFc hP1 hD1
    generalize H1 = H at hP hS ⊢
    obtain ⟨hP, hD⟩ := va_bo ([(h, .inr (3, [.ref g0, .ref g1, .ref g2, .int (nI qm), .ref g4, .int om, .int kn, .int kl, .ref g8, .ref g9, .ref g10, .ref g11, .ref b1])), (g0, .inl (ca 0, 36, .inl ws)), (g9, .inl (ca 0, 6, .inl ct)), (g10, .inl (ca 0, 6, .inl sd)), (b1, .inl (ca 0, 1944, .inl LE)), (g11, .inl (ca 0, 6, .inl (flg wt 0 6)))] ++ tl) hP hD
    refine lv_iconst (v := 0) hx hb dX3_findLeast_24 (by decide) ?_
    refine lv_istore_n (lv' := [(3, .int 0), (0, .ref h), (1, .int (nI n)), (2, .int v2)]) hx hb dX3_findLeast_25 rfl hl (by decide) rfl (fun ls hl => ?_)
    refine wl_loop (fun (z_ : Nat × (Nat → Int32)) H locs ls => (z_.1 ≤ 6 ∧ ∀ a, a < z_.1 → z_.2 a = 0) ∧ va_P (dC, dI) vwCl (@HAppend.hAppend va_W va_W va_W _ [(h, .inr (3, [.ref g0, .ref g1, .ref g2, .int (nI qm), .ref g4, .int om, .int kn, .int kl, .ref g8, .ref g9, .ref g10, .ref g11, .ref b1])), (g0, .inl (ca 0, 36, .inl ws)), (g9, .inl (ca 0, 6, .inl ct)), (g10, .inl (ca 0, 6, .inl sd)), (b1, .inl (ca 0, 1944, .inl z_.2)), (g11, .inl (ca 0, 6, .inl (flg wt 0 6)))] tl) H ∧ va_D A (@HAppend.hAppend va_W va_W va_W _ [(h, .inr (3, [.ref g0, .ref g1, .ref g2, .int (nI qm), .ref g4, .int om, .int kn, .int kl, .ref g8, .ref g9, .ref g10, .ref g11, .ref b1])), (g0, .inl (ca 0, 36, .inl ws)), (g9, .inl (ca 0, 6, .inl ct)), (g10, .inl (ca 0, 6, .inl sd)), (b1, .inl (ca 0, 1944, .inl z_.2)), (g11, .inl (ca 0, 6, .inl (flg wt 0 6)))] tl) ∧ va_S A s.heap H locs ∧ lv_has ls 4 [(3, .int (nI z_.1)), (0, .ref h), (1, .int (nI n)), (2, .int v2)]) (fun (z_ : Nat × (Nat → Int32)) => 6 - z_.1) (fun z_ H locs ls hI ih => ?_) (0, LE) ⟨⟨Nat.zero_le _, fun j hj => absurd hj (Nat.not_lt_zero j)⟩, hP, hD, hS, lv_sub hl [0, 1, 2, 3] rfl⟩
    obtain ⟨i, L1⟩ := z_
    dsimp only at hI ih
    obtain ⟨⟨hi, hz0⟩, hP, hD, hS, hl⟩ := hI
    refine lv_iload_n hx hb dX3_findLeast_26 rfl (lv_at hl 0 rfl) ?_
    refine lv_bipush (v := 6) hx hb dX3_findLeast_27 (by decide) ?_
    refine lv_icmp_ge (tgt := 45) hx hb dX3_findLeast_29 (by decide) (fun c_9 => ?_) (fun c_9 => ?_)
    · have nc_9 : 6 ≤ i := (nI_leI (a := 6) (b := i) (by omega) (by omega)).mp c_9
      refine lv_iconst (v := 1) hx hb dX3_findLeast_45 (by decide) ?_
      refine lv_istore_n (lv' := [(3, .int 1), (0, .ref h), (1, .int (nI n)), (2, .int v2)]) hx hb dX3_findLeast_46 rfl hl (by decide) rfl (fun ls hl => ?_)
      refine wl_loop (fun (z_ : Nat × (Nat → Int32) × (Nat → Int32)) H locs ls => ((1 ≤ z_.1 ∧ z_.1 ≤ n) ∧ oq_dg mm_ z_.2.1 ∧ oq_E mm_ (oq_N z_.2.1) 6 + 1 = z_.1 ∧ oq_TB (oq_W ws) (oq_b v2) mm_ z_.2.2 z_.1) ∧ va_P (dC, dI) vwCl (@HAppend.hAppend va_W va_W va_W _ [(h, .inr (3, [.ref g0, .ref g1, .ref g2, .int (nI qm), .ref g4, .int om, .int kn, .int kl, .ref g8, .ref g9, .ref g10, .ref g11, .ref b1])), (g0, .inl (ca 0, 36, .inl ws)), (g9, .inl (ca 0, 6, .inl ct)), (g10, .inl (ca 0, 6, .inl sd)), (b1, .inl (ca 0, 1944, .inl z_.2.2)), (g11, .inl (ca 0, 6, .inl z_.2.1))] tl) H ∧ va_D A (@HAppend.hAppend va_W va_W va_W _ [(h, .inr (3, [.ref g0, .ref g1, .ref g2, .int (nI qm), .ref g4, .int om, .int kn, .int kl, .ref g8, .ref g9, .ref g10, .ref g11, .ref b1])), (g0, .inl (ca 0, 36, .inl ws)), (g9, .inl (ca 0, 6, .inl ct)), (g10, .inl (ca 0, 6, .inl sd)), (b1, .inl (ca 0, 1944, .inl z_.2.2)), (g11, .inl (ca 0, 6, .inl z_.2.1))] tl) ∧ va_S A s.heap H locs ∧ lv_has ls 4 [(3, .int (nI z_.1)), (0, .ref h), (1, .int (nI n)), (2, .int v2)]) (fun (z_ : Nat × (Nat → Int32) × (Nat → Int32)) => n - z_.1) (fun z_ H locs ls hI ih47 => ?_) (1, (flg wt 0 6), L1) ⟨⟨⟨Nat.le_refl _, hn.1⟩, oq_dg0.1, by rw [oq_dg0.2], oq_TB_1 hz0 (by omega)⟩, hP, hD, hS, lv_sub hl [0, 1, 2, 3] rfl⟩
      obtain ⟨i2, w2_, L2⟩ := z_
      dsimp only at hI ih47
      obtain ⟨⟨⟨hi2, hi3⟩, hdg, heE, htb⟩, hP, hD, hS, hl⟩ := hI
      refine lv_iload_n hx hb dX3_findLeast_47 rfl (lv_at hl 0 rfl) ?_
      refine lv_iload_n hx hb dX3_findLeast_48 rfl (lv_at hl 2 rfl) ?_
      refine lv_icmp_ge (tgt := 68) hx hb dX3_findLeast_49 (by decide) (fun c_10 => ?_) (fun c_10 => ?_)
      · have nc_10 : n ≤ i2 := (nI_leI (a := n) (b := i2) (by omega) (by omega)).mp c_10
        refine W.widen (k := (oM (some b1))) (n := (1944 * oM (some b1))) (Nat.le_of_ble_eq_true rfl) (Nat.le_of_ble_eq_true rfl) ?_
        have hP9 : va_P (dC, dI) vwCl (@HAppend.hAppend va_W va_W va_W _ [(h, .inr (3, [.ref g0, .ref g1, .ref g2, .int (nI qm), .ref g4, .int om, .int kn, .int kl, .ref g8, .ref g9, .ref g10, .ref g11, .ref b1])), (g0, .inl (ca 0, 36, .inl ws)), (g9, .inl (ca 0, 6, .inl ct)), (g10, .inl (ca 0, 6, .inl sd)), (g11, .inl (ca 0, 6, .inl w2_)), (b1, .inl (ca 0, 1944, .inl L2))] tl) H := va_P.part (X := [(h, .inr (3, [.ref g0, .ref g1, .ref g2, .int (nI qm), .ref g4, .int om, .int kn, .int kl, .ref g8, .ref g9, .ref g10, .ref g11, .ref b1])), (g0, .inl (ca 0, 36, .inl ws)), (g9, .inl (ca 0, 6, .inl ct)), (g10, .inl (ca 0, 6, .inl sd)), (b1, .inl (ca 0, 1944, .inl L2)), (g11, .inl (ca 0, 6, .inl w2_))]) hP [0, 1, 2, 3, 5, 4] rfl
        have hD9 : va_D A (@HAppend.hAppend va_W va_W va_W _ [(h, .inr (3, [.ref g0, .ref g1, .ref g2, .int (nI qm), .ref g4, .int om, .int kn, .int kl, .ref g8, .ref g9, .ref g10, .ref g11, .ref b1])), (g0, .inl (ca 0, 36, .inl ws)), (g9, .inl (ca 0, 6, .inl ct)), (g10, .inl (ca 0, 6, .inl sd)), (g11, .inl (ca 0, 6, .inl w2_)), (b1, .inl (ca 0, 1944, .inl L2))] tl) := va_D.part (X := [(h, .inr (3, [.ref g0, .ref g1, .ref g2, .int (nI qm), .ref g4, .int om, .int kn, .int kl, .ref g8, .ref g9, .ref g10, .ref g11, .ref b1])), (g0, .inl (ca 0, 36, .inl ws)), (g9, .inl (ca 0, 6, .inl ct)), (g10, .inl (ca 0, 6, .inl sd)), (b1, .inl (ca 0, 1944, .inl L2)), (g11, .inl (ca 0, 6, .inl w2_))]) hD [0, 1, 2, 3, 5, 4] (by decide) rfl
        exact W.vret hx hb hr (fun t ht hW => ⟨⟨(b1, L2, w2_), rfl, (show i2 = n by omega) ▸ htb, by rw [ht]; dsimp only; exact hP9, by dsimp only; exact hD9⟩, hS.F ht⟩) hS.2.2 dX3_findLeast_68
      · have nc_10 : ¬ (n ≤ i2) := fun h9 => c_10 ((nI_leI (a := n) (b := i2) (by omega) (by omega)).mpr h9)
        refine lv_aload_n hx hb dX3_findLeast_52 rfl (lv_at hl 1 rfl) ?_
        have hPc := hP.sub (ws' := [(h, .inr (3, [.ref g0, .ref g1, .ref g2, .int (nI qm), .ref g4, .int om, .int kn, .int kl, .ref g8, .ref g9, .ref g10, .ref g11, va_rf (some b1)])), (g9, .inl (ca 0, 6, .inl ct)), (g11, .inl (ca 0, 6, .inl w2_))]) [0, 2, 5] rfl
        have hDc := hD.sub (ws' := [(h, .inr (3, [.ref g0, .ref g1, .ref g2, .int (nI qm), .ref g4, .int om, .int kn, .int kl, .ref g8, .ref g9, .ref g10, .ref g11, va_rf (some b1)])), (g9, .inl (ca 0, 6, .inl ct)), (g11, .inl (ca 0, 6, .inl w2_))]) [0, 2, 5] (by decide) rfl
        have hFc := va_free (wc := [(h, .inr (3, [.ref g0, .ref g1, .ref g2, .int (nI qm), .ref g4, .int om, .int kn, .int kl, .ref g8, .ref g9, .ref g10, .ref g11, va_rf (some b1)])), (g9, .inl (ca 0, 6, .inl ct)), (g11, .inl (ca 0, 6, .inl w2_))]) hD hS hA [0, 2, 5] rfl
        refine va_callv (va_runV (As := []) (rest := []) ⟨hx, hb, hml, hown, hts⟩ (e_countOn l dC dI ca H.size h g0 g1 g2 g4 g8 g9 g10 g11 qm om kn kl (some b1) ct w2_ mm_ hdg hmm (by omega)) (⟨callB_of 0 hts (gd mw_826) rfl rfl rfl (hts _ mw_5) (hts _ mw_823) ds_X3_countOn ⟨Nat.le_of_ble_eq_true rfl, Nat.le_of_ble_eq_true rfl⟩, (hts _ mw_825), (hts _ mp_30)⟩) (pr_V hPc hK hDc hE (va_recv hK hPc (ci := 3) (q0 := 0) rfl rfl)) rfl rfl hl.1 rfl (lv_room (Nat.le_of_ble_eq_true rfl)) dX3_findLeast_53 ⟨Nat.le_of_ble_eq_true rfl, Nat.le_of_ble_eq_true rfl⟩) hS (fun q _ h => hFc q h) hFc (fun wt2_11 t_ H1 locs ht hvm hw_ hB hz1 hk1 hS => ?_)
        have hw_11 := hw_
        obtain ⟨hP1, hD1⟩ := hB
        rw [ht] at hP1
        obtain ⟨hP, hD⟩ := va_joinQ (X := [(h, .inr (3, [.ref g0, .ref g1, .ref g2, .int (nI qm), .ref g4, .int om, .int kn, .int kl, .ref g8, .ref g9, .ref g10, .ref g11, .ref b1])), (g0, .inl (ca 0, 36, .inl ws)), (g9, .inl (ca 0, 6, .inl ct)), (g10, .inl (ca 0, 6, .inl sd)), (b1, .inl (ca 0, 1944, .inl L2)), (g11, .inl (ca 0, 6, .inl w2_))]) (cx := [(h, .inr (3, [.ref g0, .ref g1, .ref g2, .int (nI qm), .ref g4, .int om, .int kn, .int kl, .ref g8, .ref g9, .ref g10, .ref g11, va_rf (some b1)])), (g9, .inl (ca 0, 6, .inl ct)), (g11, .inl (ca 0, 6, .inl w2_))]) (wr := [(g0, .inl (ca 0, 36, .inl ws)), (g10, .inl (ca 0, 6, .inl sd)), (b1, .inl (ca 0, 1944, .inl L2))]) (w1 := [(h, .inr (3, [.ref g0, .ref g1, .ref g2, .int (nI qm), .ref g4, .int om, .int kn, .int kl, .ref g8, .ref g9, .ref g10, .ref g11, .ref b1])), (g9, .inl (ca 0, 6, .inl ct)), (g11, .inl (ca 0, 6, .inl wt2_11))]) hP hD [0, 2, 5] [1, 3, 4] rfl rfl (by decide) (by decide) hk1 hFc hP1 hD1
        generalize H1 = H at hP hS ⊢
        obtain ⟨hP, hD⟩ := va_bo ([(g0, .inl (ca 0, 36, .inl ws)), (g10, .inl (ca 0, 6, .inl sd)), (b1, .inl (ca 0, 1944, .inl L2)), (h, .inr (3, [.ref g0, .ref g1, .ref g2, .int (nI qm), .ref g4, .int om, .int kn, .int kl, .ref g8, .ref g9, .ref g10, .ref g11, .ref b1])), (g9, .inl (ca 0, 6, .inl ct)), (g11, .inl (ca 0, 6, .inl wt2_11))] ++ tl) hP hD
        refine lv_aload_n hx hb dX3_findLeast_56 rfl (lv_at hl 1 rfl) ?_
        refine lv_iload_n hx hb dX3_findLeast_57 rfl (lv_at hl 0 rfl) ?_
        refine lv_iload_n hx hb dX3_findLeast_58 rfl (lv_at hl 3 rfl) ?_
        have hPc := hP.sub (ws' := [(h, .inr (3, [.ref g0, .ref g1, .ref g2, .int (nI qm), .ref g4, .int om, .int kn, .int kl, .ref g8, .ref g9, .ref g10, .ref g11, .ref b1])), (g0, .inl (ca 0, 36, .inl ws)), (g10, .inl (ca 0, 6, .inl sd)), (g11, .inl (ca 0, 6, .inl wt2_11)), (b1, .inl (ca 0, 1944, .inl L2))]) [3, 0, 1, 5, 2] rfl
        have hDc := hD.sub (ws' := [(h, .inr (3, [.ref g0, .ref g1, .ref g2, .int (nI qm), .ref g4, .int om, .int kn, .int kl, .ref g8, .ref g9, .ref g10, .ref g11, .ref b1])), (g0, .inl (ca 0, 36, .inl ws)), (g10, .inl (ca 0, 6, .inl sd)), (g11, .inl (ca 0, 6, .inl wt2_11)), (b1, .inl (ca 0, 1944, .inl L2))]) [3, 0, 1, 5, 2] (by decide) rfl
        have hFc := va_free (wc := [(h, .inr (3, [.ref g0, .ref g1, .ref g2, .int (nI qm), .ref g4, .int om, .int kn, .int kl, .ref g8, .ref g9, .ref g10, .ref g11, .ref b1])), (g0, .inl (ca 0, 36, .inl ws)), (g10, .inl (ca 0, 6, .inl sd)), (g11, .inl (ca 0, 6, .inl wt2_11)), (b1, .inl (ca 0, 1944, .inl L2))]) hD hS hA [3, 0, 1, 5, 2] rfl
        refine va_callv (va_runV (As := [.int (nI i2), .int v2]) (rest := []) ⟨hx, hb, hml, hown, hts⟩ (e_findLeastOf l dC dI ca H.size h g0 g1 g2 g4 g8 g9 g10 g11 qm om kn kl ws sd wt2_11 b1 L2 i2 v2 (fun k => oq_V (oq_W ws) (oq_b v2) (oq_d (oq_N wt2_11) k) k) (by omega) hsd hws (oq_dg_c hw_11.1 hmm) (oq_hT htb hws hw_11.1 (by rw [hw_11.2]; omega) hTm hse (by omega))) (⟨callB_of 2 hts (gd mw_830) rfl rfl rfl (hts _ mw_5) (hts _ mw_827) ds_X3_findLeastOf ⟨Nat.le_of_ble_eq_true rfl, Nat.le_of_ble_eq_true rfl⟩, (hts _ mw_829), (hts _ mp_31)⟩) (pr_V hPc hK hDc hE (va_recv hK hPc (ci := 3) (q0 := 0) rfl rfl)) rfl rfl hl.1 rfl (lv_room (Nat.le_of_ble_eq_true rfl)) dX3_findLeast_59 ⟨Nat.le_of_ble_eq_true rfl, Nat.le_of_ble_eq_true rfl⟩) hS (fun q _ h => hFc q h) hFc (fun LE2_12 t_ H1 locs ht hvm hw_ hB hz1 hk1 hS => ?_)
        have hw_12 := hw_
        obtain ⟨hP1, hD1⟩ := hB
        rw [ht] at hP1
        obtain ⟨hP, hD⟩ := va_joinQ (X := [(g0, .inl (ca 0, 36, .inl ws)), (g10, .inl (ca 0, 6, .inl sd)), (b1, .inl (ca 0, 1944, .inl L2)), (h, .inr (3, [.ref g0, .ref g1, .ref g2, .int (nI qm), .ref g4, .int om, .int kn, .int kl, .ref g8, .ref g9, .ref g10, .ref g11, .ref b1])), (g9, .inl (ca 0, 6, .inl ct)), (g11, .inl (ca 0, 6, .inl wt2_11))]) (cx := [(h, .inr (3, [.ref g0, .ref g1, .ref g2, .int (nI qm), .ref g4, .int om, .int kn, .int kl, .ref g8, .ref g9, .ref g10, .ref g11, .ref b1])), (g0, .inl (ca 0, 36, .inl ws)), (g10, .inl (ca 0, 6, .inl sd)), (g11, .inl (ca 0, 6, .inl wt2_11)), (b1, .inl (ca 0, 1944, .inl L2))]) (wr := [(g9, .inl (ca 0, 6, .inl ct))]) (w1 := [(h, .inr (3, [.ref g0, .ref g1, .ref g2, .int (nI qm), .ref g4, .int om, .int kn, .int kl, .ref g8, .ref g9, .ref g10, .ref g11, .ref b1])), (g0, .inl (ca 0, 36, .inl ws)), (g10, .inl (ca 0, 6, .inl sd)), (g11, .inl (ca 0, 6, .inl wt2_11)), (b1, .inl (ca 0, 1944, .inl LE2_12))]) hP hD [3, 0, 1, 5, 2] [4] rfl rfl (by decide) (by decide) hk1 hFc hP1 hD1
        generalize H1 = H at hP hS ⊢
        obtain ⟨hP, hD⟩ := va_bo ([(g9, .inl (ca 0, 6, .inl ct)), (h, .inr (3, [.ref g0, .ref g1, .ref g2, .int (nI qm), .ref g4, .int om, .int kn, .int kl, .ref g8, .ref g9, .ref g10, .ref g11, .ref b1])), (g0, .inl (ca 0, 36, .inl ws)), (g10, .inl (ca 0, 6, .inl sd)), (g11, .inl (ca 0, 6, .inl wt2_11)), (b1, .inl (ca 0, 1944, .inl LE2_12))] ++ tl) hP hD
        refine lv_iinc (v := (nI (i2 + 1))) (lv' := [(3, .int (nI (i2 + 1))), (0, .ref h), (1, .int (nI n)), (2, .int v2)]) hx hb dX3_findLeast_62 hl (k := 0) rfl (nI_add (i2) 1) (by decide) rfl (fun ls hl => ?_)
        refine lv_goto (tgt := 47) hx hb dX3_findLeast_65 (by decide) ?_
        exact ih47 (i2 + 1, wt2_11, LE2_12) _ _ _ (by omega) ⟨⟨⟨by first | omega | (dsimp only; omega), by first | omega | (dsimp only; omega)⟩, hw_11.1, (by rw [hw_11.2]; omega), oq_TB_n htb hw_12 (fun k hk => (hw_11.1 k hk).2) (by rw [hw_11.2]; omega) hi2⟩, (va_P.part (X := [(g9, .inl (ca 0, 6, .inl ct)), (h, .inr (3, [.ref g0, .ref g1, .ref g2, .int (nI qm), .ref g4, .int om, .int kn, .int kl, .ref g8, .ref g9, .ref g10, .ref g11, .ref b1])), (g0, .inl (ca 0, 36, .inl ws)), (g10, .inl (ca 0, 6, .inl sd)), (g11, .inl (ca 0, 6, .inl wt2_11)), (b1, .inl (ca 0, 1944, .inl LE2_12))]) hP [1, 2, 0, 3, 5, 4] rfl), (va_D.part (X := [(g9, .inl (ca 0, 6, .inl ct)), (h, .inr (3, [.ref g0, .ref g1, .ref g2, .int (nI qm), .ref g4, .int om, .int kn, .int kl, .ref g8, .ref g9, .ref g10, .ref g11, .ref b1])), (g0, .inl (ca 0, 36, .inl ws)), (g10, .inl (ca 0, 6, .inl sd)), (g11, .inl (ca 0, 6, .inl wt2_11)), (b1, .inl (ca 0, 1944, .inl LE2_12))]) hD [1, 2, 0, 3, 5, 4] (by decide) rfl), hS, lv_sub hl [0, 1, 2, 3] rfl⟩
    · have nc_9 : ¬ (6 ≤ i) := fun h9 => c_9 ((nI_leI (a := 6) (b := i) (by omega) (by omega)).mpr h9)
      refine lv_aload_n hx hb dX3_findLeast_32 rfl (lv_at hl 1 rfl) ?_
      refine va_get (D := (dC, dI)) (ci := 3) (v := .ref b1) (C := RX3) (T := TX3) (N := 13) hx hb hts inX3 hown hK hP 0 rfl rfl 12 (by decide) (hts _ mw_119) (fun _ h9 => h9) rfl dX3_findLeast_33 ?_
      refine lv_iload_n hx hb dX3_findLeast_36 rfl (lv_at hl 0 rfl) ?_
      refine lv_iconst (v := 0) hx hb dX3_findLeast_37 (by decide) ?_
      refine va_iast hx hb hK hP hD hS 4 0 rfl rfl (vp_in_nI (show i < 1944 by omega) (by first | decide | omega)) dX3_findLeast_38 (fun H locs hP hD hS => ?_)
      rw [(show ((nI i) : Int32).toNatClampNeg = i from nI_clamp (by omega))] at hP hD
      obtain ⟨hP, hD⟩ := va_bo ([(h, .inr (3, [.ref g0, .ref g1, .ref g2, .int (nI qm), .ref g4, .int om, .int kn, .int kl, .ref g8, .ref g9, .ref g10, .ref g11, .ref b1])), (g0, .inl (ca 0, 36, .inl ws)), (g9, .inl (ca 0, 6, .inl ct)), (g10, .inl (ca 0, 6, .inl sd)), (b1, .inl (ca 0, 1944, .inl (upd L1 i 0))), (g11, .inl (ca 0, 6, .inl (flg wt 0 6)))] ++ tl) hP hD
      refine lv_iinc (v := (nI (i + 1))) (lv' := [(3, .int (nI (i + 1))), (0, .ref h), (1, .int (nI n)), (2, .int v2)]) hx hb dX3_findLeast_39 hl (k := 0) rfl (nI_add (i) 1) (by decide) rfl (fun ls hl => ?_)
      refine lv_goto (tgt := 26) hx hb dX3_findLeast_42 (by decide) ?_
      exact ih (i + 1, (upd L1 i 0)) _ _ _ (by omega) ⟨⟨by omega, oq_lz hz0⟩, hP, hD, hS, lv_sub hl [0, 1, 2, 3] rfl⟩

theorem oq_v5 {v : Int32} {a : Nat} (h : (v = -1 ∧ a = 6) ∨ (v = nI a ∧ a < 6)) (c : ¬ v = -1) : cnt v 5 := by
  rcases h with h | h
  · exact absurd h.1 c
  · exact ⟨a, by omega, h.1⟩

set_option maxHeartbeats 4000000 in
set_option maxRecDepth 100000 in
theorem e_findNext (l : Launch) (dC : Nat → ClassId) (dI : Nat → Nat → Nat) (ca : Nat → ClassId) (h : Nat) (g0 : Nat) (g1 : Nat) (g2 : Nat) (g4 : Nat) (g8 : Nat) (g9 : Nat) (g10 : Nat) (g11 : Nat) (qm : Nat) (om : Int32) (kn : Int32) (kl : Int32) (ws : Nat → Int32) (kd : Nat → Int32) (us : Nat → Int32) (sd : Nat → Int32) (wt : Nat → Int32) (lq : Nat) (LE : Nat → Int32) (v1 : Int32) (v2 : Int32) (v3 : Int32) (uu : Nat → Bool) (aa : Nat) (nn : Nat) (mm_ : Nat → Nat) (hq : qI qm kd) (hq1 : 1 ≤ qm) (hv1 : v1 = nI nn) (hnn : nn ≤ 323) (hv2 : (v2 = -1 ∧ aa = 6) ∨ (v2 = nI aa ∧ aa < 6)) (hsd : ∀ j, j < 6 → cnt (sd j) 1771561) (hws : ∀ j, cnt (ws j) 600) (hus : ∀ i, i < qm → us i = (if uu i = true then 1 else 0)) (hwe : ∀ k, k < 6 → wt k = nI (oq_c (oq_N kd) uu qm k)) (hcm : ∀ k, k < 6 → oq_c (oq_N kd) uu qm k ≤ mm_ k) (hE_ : oq_E mm_ (oq_c (oq_N kd) uu qm) 6 = nn) (hTm : oq_T mm_ 6 ≤ 10) (htb : oq_TB (oq_W ws) (oq_b v3) mm_ LE (nn + 1)) (hse : ∀ j, j < 6 → sd j = nI (oq_s mm_ j)) : Met l yX3_findNext (Cond.code yX3_findNext cX3_findNext 8 (some .int) :: gT) ({ frames := 3, cells := 0, slots := 0, locals := 103 }) (va_Pc [.ref h, .int v1, .int v2, .int v3] (pu (dC, dI) [(h, .inr (3, [.ref g0, .ref g1, .ref g2, .int (nI qm), .ref g4, .int om, .int kn, .int kl, .ref g8, .ref g9, .ref g10, .ref g11, .ref lq])), (g0, .inl (ca 0, 36, .inl ws)), (g2, .inl (ca 0, 10, .inl kd)), (g8, .inl (ca 1, 10, .inl us)), (g10, .inl (ca 0, 6, .inl sd)), (g11, .inl (ca 0, 6, .inl wt)), (lq, .inl (ca 0, 1944, .inl LE))] (aT ca))) (vp_Si (fun r => r = nI (oq_pk (oq_f (oq_W ws) (oq_N kd) (oq_b v3) qm uu aa) (oq_p (oq_N kd) (oq_b v3) qm uu) qm).1)) 0 0 (fun _ => False) := by
  refine Met.ofW (cc := cX3_findNext) (maxL := 8) (ret := (some .int)) (by decide) rfl ?_
  intro p e s m args below meth c s₁ B hml hv
  obtain ⟨rfl, hP, hK, hE⟩ := hv
  have hx := B.exec
  have hb := B.bytes
  have hr := B.returns
  have hts : ∀ w ∈ gT, w.before _ s = true := fun w h => atoms_spec (ws := Cond.code yX3_findNext cX3_findNext 8 (some .int) :: gT) B.pre w (List.mem_cons_of_mem _ h)
  have hown : s.vm.findClass RX3 = some m.cls := findClass_of_methodNamed B.named
  have hlocks := B.notSynchronized
  have hl := lv_entry ([.ref h, .int v1, .int v2, .int v3]) (n := 8) (Nat.le_of_ble_eq_true rfl)
  rw [lg_entry_eq]
  generalize (lg_sl ([.ref h, .int v1, .int v2, .int v3]) ++ List.replicate (8 - (lg_sl ([.ref h, .int v1, .int v2, .int v3])).length) Slot.unset).toArray = ls at hl ⊢
  have hl : lv_has ls 8 [(0, .ref h), (1, .int v1), (2, .int v2), (3, .int v3)] := hl
  have hq0 := hq.1
  have hst : -1073741824 ≤ v1.toInt ∧ v1.toInt ≤ 323 := by rw [hv1]; exact nI_st hnn
  refine lv_iconst (v := 0) hx hb dX3_findNext_0 (by decide) ?_
  refine lv_istore (lv' := [(4, .int 0), (0, .ref h), (1, .int v1), (2, .int v2), (3, .int v3)]) hx hb dX3_findNext_1 hl (by decide) rfl (fun ls hl => ?_)
  refine lv_ldc (v := 2147483647) hx hb hown (hts _ mw_831) dX3_findNext_3 ?_
  refine lv_istore (lv' := [(5, .int 2147483647), (4, .int 0), (0, .ref h), (1, .int v1), (2, .int v2), (3, .int v3)]) hx hb dX3_findNext_5 hl (by decide) rfl (fun ls hl => ?_)
  refine lv_iconst (v := 0) hx hb dX3_findNext_7 (by decide) ?_
  refine lv_istore (lv' := [(6, .int 0), (5, .int 2147483647), (4, .int 0), (0, .ref h), (1, .int v1), (2, .int v2), (3, .int v3)]) hx hb dX3_findNext_8 hl (by decide) rfl (fun ls hl => ?_)
  refine wl_loop (fun (z_ : Nat × Nat × Int32) H locs ls => (z_.1 ≤ qm ∧ z_.2.1 < qm ∧ oq_fn ws kd v3 qm uu aa z_.1 z_.2.1 z_.2.2) ∧ H = s.heap ∧ locs = [] ∧ lv_has ls 8 [(6, .int (nI z_.1)), (5, .int z_.2.2), (4, .int (nI z_.2.1)), (0, .ref h), (1, .int v1), (2, .int v2), (3, .int v3)]) (fun (z_ : Nat × Nat × Int32) => qm - z_.1) (fun z_ H locs ls hI ih => ?_) (0, 0, 2147483647) ⟨⟨Nat.zero_le _, by show 0 < qm; omega, oq_fn_0⟩, rfl, rfl, lv_sub hl [0, 1, 2, 3, 4, 5, 6] rfl⟩
  obtain ⟨i, bs, m5⟩ := z_
  dsimp only at hI ih
  obtain ⟨⟨hi, hbs, hfn⟩, rfl, rfl, hl⟩ := hI
  refine lv_iload hx hb dX3_findNext_10 (lv_at hl 0 rfl) ?_
  refine lv_aload_n hx hb dX3_findNext_12 rfl (lv_at hl 3 rfl) ?_
  refine va_get (D := (dC, dI)) (ci := 3) (v := .int (nI qm)) (C := RX3) (T := TX3) (N := 13) hx hb hts inX3 hown hK hP 0 rfl rfl 3 (by decide) (hts _ mw_107) (fun _ h9 => h9) rfl dX3_findNext_13 ?_
  refine lv_icmp_ge (tgt := 110) hx hb dX3_findNext_16 (by decide) (fun c_1 => ?_) (fun c_1 => ?_)
  · have nc_1 : qm ≤ i := (nI_leI (a := qm) (b := i) (by omega) (by omega)).mp c_1
    refine lv_iload hx hb dX3_findNext_110 (lv_at hl 2 rfl) ?_
    exact W.iret (v := (nI bs)) hx hb hr (fun t ht hW => ⟨(nI bs), rfl, (congrArg nI ((show i = qm by omega) ▸ hfn.1)), ht⟩) (fun q h => absurd h List.not_mem_nil) dX3_findNext_112
  · have nc_1 : ¬ (qm ≤ i) := fun h9 => c_1 ((nI_leI (a := qm) (b := i) (by omega) (by omega)).mpr h9)
    refine lv_aload_n hx hb dX3_findNext_19 rfl (lv_at hl 3 rfl) ?_
    refine va_get (D := (dC, dI)) (ci := 3) (v := .ref g8) (C := RX3) (T := TX3) (N := 13) hx hb hts inX3 hown hK hP 0 rfl rfl 8 (by decide) (hts _ mw_115) (fun _ h9 => h9) rfl dX3_findNext_20 ?_
    refine lv_iload hx hb dX3_findNext_23 (lv_at hl 0 rfl) ?_
    refine va_zald hx hb hK hP 3 1 rfl rfl (vp_in_nI (show i < 10 by omega) (by first | decide | omega)) dX3_findNext_25 ?_
    refine lv_topi (fun y_ e_ => ?_)
    obtain rfl : y_ = (us i) := e_.trans (congrArg us (show ((nI i) : Int32).toNatClampNeg = i from nI_clamp (by omega)))
    refine lv_if_ne (tgt := 104) hx hb dX3_findNext_26 (by decide) (fun c_2 => ?_) (fun c_2 => ?_)
    · refine lv_iinc (v := (nI (i + 1))) (lv' := [(6, .int (nI (i + 1))), (5, .int m5), (4, .int (nI bs)), (0, .ref h), (1, .int v1), (2, .int v2), (3, .int v3)]) hx hb dX3_findNext_104 hl (k := 0) rfl (nI_add (i) 1) (by decide) rfl (fun ls hl => ?_)
      refine lv_goto (tgt := 10) hx hb dX3_findNext_107 (by decide) ?_
      exact ih (i + 1, bs, m5) _ _ _ (by omega) ⟨⟨by first | omega | (dsimp only; omega), hbs, oq_fn_u hfn (hus i (by first | omega | (dsimp only; omega))) c_2⟩, rfl, rfl, lv_sub hl [0, 1, 2, 3, 4, 5, 6] rfl⟩
    · refine lv_aload_n hx hb dX3_findNext_29 rfl (lv_at hl 3 rfl) ?_
      refine lv_aload_n hx hb dX3_findNext_30 rfl (lv_at hl 3 rfl) ?_
      refine va_get (D := (dC, dI)) (ci := 3) (v := .ref g2) (C := RX3) (T := TX3) (N := 13) hx hb hts inX3 hown hK hP 0 rfl rfl 2 (by decide) (hts _ mw_106) (fun _ h9 => h9) rfl dX3_findNext_31 ?_
      refine lv_iload hx hb dX3_findNext_34 (lv_at hl 0 rfl) ?_
      refine va_iald hx hb hK hP 2 0 rfl rfl (vp_in_nI (show i < 10 by omega) (by first | decide | omega)) dX3_findNext_36 ?_
      refine lv_topi (fun y_ e_ => ?_)
      obtain rfl : y_ = (kd i) := e_.trans (congrArg kd (show ((nI i) : Int32).toNatClampNeg = i from nI_clamp (by omega)))
      refine lv_iload_n hx hb dX3_findNext_37 rfl (lv_at hl 6 rfl) ?_
      have hPc := hP.sub (ws' := [(h, .inr (3, [.ref g0, .ref g1, .ref g2, .int (nI qm), .ref g4, .int om, .int kn, .int kl, .ref g8, .ref g9, .ref g10, .ref g11, va_rf (some lq)])), (g11, .inl (ca 0, 6, .inl wt))]) [0, 5] rfl
      refine pc_i (va_runV (As := [.int (kd i), .int v3]) (rest := []) ⟨hx, hb, hml, hown, hts⟩ (e_mayCome l dC dI ca h g0 g1 g2 g4 g8 g9 g10 g11 qm om kn kl (some lq) wt (kd i) v3 (hq.2 i (by omega)) (oq_wC hq hwe)) (⟨callB_of 2 hts (gd mw_835) rfl rfl rfl (hts _ mw_5) (hts _ mw_832) ds_X3_mayCome ⟨Nat.le_of_ble_eq_true rfl, Nat.le_of_ble_eq_true rfl⟩, (hts _ mw_834), (hts _ mp_32)⟩) (pu_V hPc hK hE (va_recv hK hPc (ci := 3) (q0 := 0) rfl rfl)) rfl rfl hl.1 rfl (lv_room (Nat.le_of_ble_eq_true rfl)) dX3_findNext_38 ⟨Nat.le_of_ble_eq_true rfl, Nat.le_of_ble_eq_true rfl⟩) (fun rv_3 hw_ => ?_)
      have hw_3 := hw_
      refine lv_if_eq (tgt := 104) hx hb dX3_findNext_41 (by decide) (fun c_4 => ?_) (fun c_4 => ?_)
      · refine lv_iinc (v := (nI (i + 1))) (lv' := [(6, .int (nI (i + 1))), (5, .int m5), (4, .int (nI bs)), (0, .ref h), (1, .int v1), (2, .int v2), (3, .int v3)]) hx hb dX3_findNext_104 hl (k := 0) rfl (nI_add (i) 1) (by decide) rfl (fun ls hl => ?_)
        refine lv_goto (tgt := 10) hx hb dX3_findNext_107 (by decide) ?_
        exact ih (i + 1, bs, m5) _ _ _ (by omega) ⟨⟨by first | omega | (dsimp only; omega), hbs, oq_fn_m hfn hq (by first | omega | (dsimp only; omega)) hwe hw_3 c_4⟩, rfl, rfl, lv_sub hl [0, 1, 2, 3, 4, 5, 6] rfl⟩
      · have hma9 := oq_mc hq (show i < qm by omega) hwe hw_3 c_4
        have hu9 : uu i = false := oq_us_f (hus i (by omega)) c_2
        refine lv_aload_n hx hb dX3_findNext_44 rfl (lv_at hl 3 rfl) ?_
        refine lv_iload_n hx hb dX3_findNext_45 rfl (lv_at hl 4 rfl) ?_
        refine lv_aload_n hx hb dX3_findNext_46 rfl (lv_at hl 3 rfl) ?_
        refine va_get (D := (dC, dI)) (ci := 3) (v := .ref g2) (C := RX3) (T := TX3) (N := 13) hx hb hts inX3 hown hK hP 0 rfl rfl 2 (by decide) (hts _ mw_106) (fun _ h9 => h9) rfl dX3_findNext_47 ?_
        refine lv_iload hx hb dX3_findNext_50 (lv_at hl 0 rfl) ?_
        refine va_iald hx hb hK hP 2 0 rfl rfl (vp_in_nI (show i < 10 by omega) (by first | decide | omega)) dX3_findNext_52 ?_
        refine lv_topi (fun y_ e_ => ?_)
        obtain rfl : y_ = (kd i) := e_.trans (congrArg kd (show ((nI i) : Int32).toNatClampNeg = i from nI_clamp (by omega)))
        have hPc := hP.sub (ws' := [(h, .inr (3, [.ref g0, .ref g1, .ref g2, .int (nI qm), .ref g4, .int om, .int kn, .int kl, .ref g8, .ref g9, .ref g10, .ref g11, .ref lq])), (g10, .inl (ca 0, 6, .inl sd)), (lq, .inl (ca 0, 1944, .inl LE))]) [0, 4, 6] rfl
        refine pc_i (va_runV (As := [.int v1, .int (kd i)]) (rest := []) ⟨hx, hb, hml, hown, hts⟩ (e_leastOnce l dC dI ca h g0 g1 g2 g4 g8 g9 g10 g11 qm om kn kl sd lq LE v1 (kd i) (hq.2 i (by omega)) hst hsd) (⟨callB_of 2 hts (gd mw_843) rfl rfl rfl (hts _ mw_5) (hts _ mw_840) ds_X3_leastOnce ⟨Nat.le_of_ble_eq_true rfl, Nat.le_of_ble_eq_true rfl⟩, (hts _ mw_842), (hts _ mp_34)⟩) (pu_V hPc hK hE (va_recv hK hPc (ci := 3) (q0 := 0) rfl rfl)) rfl rfl hl.1 rfl (lv_room (Nat.le_of_ble_eq_true rfl)) dX3_findNext_53 ⟨Nat.le_of_ble_eq_true rfl, Nat.le_of_ble_eq_true rfl⟩) (fun rv_5 hw_ => ?_)
        have hw_5 := hw_
        have hlo9 := hw_5.trans (oq_lo_e htb (Nat.le_succ nn) (oq_Wb hws) hcm hE_ hTm (oq_Kb hq i (by omega)) (oq_c_in (K := oq_N kd) hu9 (by omega)) hse (by omega) hv1 (oq_Ke hq (by omega)))
        refine lv_istore (lv' := [(7, .int rv_5), (6, .int (nI i)), (5, .int m5), (4, .int (nI bs)), (0, .ref h), (1, .int v1), (2, .int v2), (3, .int v3)]) hx hb dX3_findNext_56 hl (by decide) rfl (fun ls hl => ?_)
        refine lv_iload hx hb dX3_findNext_58 (lv_at hl 0 rfl) ?_
        refine lv_iload_n hx hb dX3_findNext_60 rfl (lv_at hl 6 rfl) ?_
        refine lv_iconst (v := (-1)) hx hb dX3_findNext_61 (by decide) ?_
        refine lv_icmp_ne (tgt := 69) hx hb dX3_findNext_62 (by decide) (fun c_6 => ?_) (fun c_6 => ?_)
        · refine lv_aload_n hx hb dX3_findNext_69 rfl (lv_at hl 4 rfl) ?_
          refine va_get (D := (dC, dI)) (ci := 3) (v := .ref g0) (C := RX3) (T := TX3) (N := 13) hx hb hts inX3 hown hK hP 0 rfl rfl 0 (by decide) (hts _ mw_104) (fun _ h9 => h9) rfl dX3_findNext_70 ?_
          refine lv_iload_n hx hb dX3_findNext_73 rfl (lv_at hl 6 rfl) ?_
          refine lv_bipush (v := 6) hx hb dX3_findNext_74 (by decide) ?_
          refine lv_imul hx hb dX3_findNext_76 ?_
          refine lv_aload_n hx hb dX3_findNext_77 rfl (lv_at hl 4 rfl) ?_
          refine va_get (D := (dC, dI)) (ci := 3) (v := .ref g2) (C := RX3) (T := TX3) (N := 13) hx hb hts inX3 hown hK hP 0 rfl rfl 2 (by decide) (hts _ mw_106) (fun _ h9 => h9) rfl dX3_findNext_78 ?_
          refine lv_iload hx hb dX3_findNext_81 (lv_at hl 1 rfl) ?_
          refine va_iald hx hb hK hP 2 0 rfl rfl (vp_in_nI (show i < 10 by omega) (by first | decide | omega)) dX3_findNext_83 ?_
          refine lv_topi (fun y_ e_ => ?_)
          obtain rfl : y_ = (kd i) := e_.trans (congrArg kd (show ((nI i) : Int32).toNatClampNeg = i from nI_clamp (by omega)))
          refine lv_iadd hx hb dX3_findNext_84 ?_
          refine va_iald hx hb hK hP 1 0 rfl rfl (gr_in (A := 6) (B := 6) (cnt_vp (oq_v5 hv2 c_6) (by decide) (by decide)) (cnt_vp (hq.2 i (by omega)) (by decide) (by decide)) (by decide) (w := 6) (by decide) (by decide) (by decide)).1 dX3_findNext_85 ?_
          refine lv_iadd hx hb dX3_findNext_86 ?_
          refine lv_istore (lv' := [(7, .int (rv_5 + (ws (((v2 * 6) + (kd i)) : Int32).toNatClampNeg))), (6, .int (nI i)), (5, .int m5), (4, .int (nI bs)), (0, .ref h), (1, .int v1), (2, .int v2), (3, .int v3)]) hx hb dX3_findNext_87 hl (by decide) rfl (fun ls hl => ?_)
          refine lv_iload hx hb dX3_findNext_89 (lv_at hl 0 rfl) ?_
          refine lv_iload hx hb dX3_findNext_91 (lv_at hl 2 rfl) ?_
          refine lv_icmp_ge (tgt := 104) hx hb dX3_findNext_93 (by decide) (fun c_7 => ?_) (fun c_7 => ?_)
          · refine lv_iinc (v := (nI (i + 1))) (lv' := [(6, .int (nI (i + 1))), (7, .int (rv_5 + (ws (((v2 * 6) + (kd i)) : Int32).toNatClampNeg))), (5, .int m5), (4, .int (nI bs)), (0, .ref h), (1, .int v1), (2, .int v2), (3, .int v3)]) hx hb dX3_findNext_104 hl (k := 1) rfl (nI_add (i) 1) (by decide) rfl (fun ls hl => ?_)
            refine lv_goto (tgt := 10) hx hb dX3_findNext_107 (by decide) ?_
            exact ih (i + 1, bs, m5) _ _ _ (by omega) ⟨⟨by first | omega | (dsimp only; omega), hbs, oq_fn_g hfn hq (by first | omega | (dsimp only; omega)) hws hu9 (oq_fx1 hq (show i < qm by first | omega | (dsimp only; omega)) hws hlo9 hv2 c_6) (Int32.not_lt.mpr c_7)⟩, rfl, rfl, lv_sub hl [0, 2, 3, 4, 5, 6, 7] rfl⟩
          · refine lv_iload hx hb dX3_findNext_96 (lv_at hl 0 rfl) ?_
            refine lv_istore (lv' := [(5, .int (rv_5 + (ws (((v2 * 6) + (kd i)) : Int32).toNatClampNeg))), (7, .int (rv_5 + (ws (((v2 * 6) + (kd i)) : Int32).toNatClampNeg))), (6, .int (nI i)), (4, .int (nI bs)), (0, .ref h), (1, .int v1), (2, .int v2), (3, .int v3)]) hx hb dX3_findNext_98 hl (by decide) rfl (fun ls hl => ?_)
            refine lv_iload hx hb dX3_findNext_100 (lv_at hl 2 rfl) ?_
            refine lv_istore (lv' := [(4, .int (nI i)), (5, .int (rv_5 + (ws (((v2 * 6) + (kd i)) : Int32).toNatClampNeg))), (7, .int (rv_5 + (ws (((v2 * 6) + (kd i)) : Int32).toNatClampNeg))), (6, .int (nI i)), (0, .ref h), (1, .int v1), (2, .int v2), (3, .int v3)]) hx hb dX3_findNext_102 hl (by decide) rfl (fun ls hl => ?_)
            refine lv_iinc (v := (nI (i + 1))) (lv' := [(6, .int (nI (i + 1))), (4, .int (nI i)), (5, .int (rv_5 + (ws (((v2 * 6) + (kd i)) : Int32).toNatClampNeg))), (7, .int (rv_5 + (ws (((v2 * 6) + (kd i)) : Int32).toNatClampNeg))), (0, .ref h), (1, .int v1), (2, .int v2), (3, .int v3)]) hx hb dX3_findNext_104 hl (k := 3) rfl (nI_add (i) 1) (by decide) rfl (fun ls hl => ?_)
            refine lv_goto (tgt := 10) hx hb dX3_findNext_107 (by decide) ?_
            exact ih (i + 1, i, (rv_5 + (ws (((v2 * 6) + (kd i)) : Int32).toNatClampNeg))) _ _ _ (by omega) ⟨⟨by first | omega | (dsimp only; omega), by first | omega | (dsimp only; omega), oq_fn_y hfn hq (by first | omega | (dsimp only; omega)) hws hu9 hma9 (oq_fx1 hq (show i < qm by first | omega | (dsimp only; omega)) hws hlo9 hv2 c_6) (Int32.not_le.mp c_7)⟩, rfl, rfl, lv_sub hl [0, 2, 1, 4, 5, 6, 7] rfl⟩
        · refine lv_iconst (v := 0) hx hb dX3_findNext_65 (by decide) ?_
          refine lv_goto (tgt := 86) hx hb dX3_findNext_66 (by decide) ?_
          refine lv_iadd hx hb dX3_findNext_86 ?_
          refine lv_topi (fun y_ e_ => ?_)
          obtain rfl : rv_5 = y_ := (e_.trans (Int32.add_zero _)).symm
          refine lv_istore (lv' := [(7, .int rv_5), (6, .int (nI i)), (5, .int m5), (4, .int (nI bs)), (0, .ref h), (1, .int v1), (2, .int v2), (3, .int v3)]) hx hb dX3_findNext_87 hl (by decide) rfl (fun ls hl => ?_)
          refine lv_iload hx hb dX3_findNext_89 (lv_at hl 0 rfl) ?_
          refine lv_iload hx hb dX3_findNext_91 (lv_at hl 2 rfl) ?_
          refine lv_icmp_ge (tgt := 104) hx hb dX3_findNext_93 (by decide) (fun c_8 => ?_) (fun c_8 => ?_)
          · refine lv_iinc (v := (nI (i + 1))) (lv' := [(6, .int (nI (i + 1))), (7, .int rv_5), (5, .int m5), (4, .int (nI bs)), (0, .ref h), (1, .int v1), (2, .int v2), (3, .int v3)]) hx hb dX3_findNext_104 hl (k := 1) rfl (nI_add (i) 1) (by decide) rfl (fun ls hl => ?_)
            refine lv_goto (tgt := 10) hx hb dX3_findNext_107 (by decide) ?_
            exact ih (i + 1, bs, m5) _ _ _ (by omega) ⟨⟨by first | omega | (dsimp only; omega), hbs, oq_fn_g hfn hq (by first | omega | (dsimp only; omega)) hws hu9 (oq_fx0 hlo9 hv2 c_6) (Int32.not_lt.mpr c_8)⟩, rfl, rfl, lv_sub hl [0, 2, 3, 4, 5, 6, 7] rfl⟩
          · refine lv_iload hx hb dX3_findNext_96 (lv_at hl 0 rfl) ?_
            refine lv_istore (lv' := [(5, .int rv_5), (7, .int rv_5), (6, .int (nI i)), (4, .int (nI bs)), (0, .ref h), (1, .int v1), (2, .int v2), (3, .int v3)]) hx hb dX3_findNext_98 hl (by decide) rfl (fun ls hl => ?_)
            refine lv_iload hx hb dX3_findNext_100 (lv_at hl 2 rfl) ?_
            refine lv_istore (lv' := [(4, .int (nI i)), (5, .int rv_5), (7, .int rv_5), (6, .int (nI i)), (0, .ref h), (1, .int v1), (2, .int v2), (3, .int v3)]) hx hb dX3_findNext_102 hl (by decide) rfl (fun ls hl => ?_)
            refine lv_iinc (v := (nI (i + 1))) (lv' := [(6, .int (nI (i + 1))), (4, .int (nI i)), (5, .int rv_5), (7, .int rv_5), (0, .ref h), (1, .int v1), (2, .int v2), (3, .int v3)]) hx hb dX3_findNext_104 hl (k := 3) rfl (nI_add (i) 1) (by decide) rfl (fun ls hl => ?_)
            refine lv_goto (tgt := 10) hx hb dX3_findNext_107 (by decide) ?_
            exact ih (i + 1, i, rv_5) _ _ _ (by omega) ⟨⟨by first | omega | (dsimp only; omega), by first | omega | (dsimp only; omega), oq_fn_y hfn hq (by first | omega | (dsimp only; omega)) hws hu9 hma9 (oq_fx0 hlo9 hv2 c_6) (Int32.not_le.mp c_8)⟩, rfl, rfl, lv_sub hl [0, 2, 1, 4, 5, 6, 7] rfl⟩

theorem oq_fo_5 {ws qd kd : Nat → Int32} {qm : Nat} {z : Int32} {i : Nat} {s3 b4 om1 : Int32} {od1 us1 wt1 : Nat → Int32} (h : oq_fo ws qd kd qm z i s3 b4 om1 od1 us1 wt1) (c : ¬ b4 = -1) : cnt b4 5 := oq_v5 h.2.1 c
theorem oq_u0 {u : Nat → Int32} {i : Nat} (h : ∀ j, j < i → u j = 0) : ∀ j, j < i + 1 → upd u i 0 j = 0 := oq_lz h

set_option maxHeartbeats 4000000 in
set_option maxRecDepth 100000 in
theorem e_followLeast (l : Launch) (dC : Nat → ClassId) (dI : Nat → Nat → Nat) (ca : Nat → ClassId) (sz : Nat) (h : Nat) (g0 : Nat) (g1 : Nat) (g2 : Nat) (g4 : Nat) (g8 : Nat) (g9 : Nat) (g10 : Nat) (g11 : Nat) (qm : Nat) (om : Int32) (kn : Int32) (kl : Int32) (ws : Nat → Int32) (qd : Nat → Int32) (kd : Nat → Int32) (od : Nat → Int32) (us : Nat → Int32) (ct : Nat → Int32) (sd : Nat → Int32) (wt : Nat → Int32) (lq : Nat) (LE : Nat → Int32) (n : Nat) (v2 : Int32) (hq : qI qm kd) (hn : n ≤ 323) (hsd : ∀ j, j < 6 → cnt (sd j) 1771561) (hws : ∀ j, cnt (ws j) 600) (hne : n + 1 = oq_s (oq_c (oq_N kd) (fun _ => false) qm) 6) (hct : ∀ k, k < 6 → ct k = nI (oq_c (oq_N kd) (fun _ => false) qm k)) (hse : ∀ j, j < 6 → sd j = nI (oq_s (oq_c (oq_N kd) (fun _ => false) qm) j)) (htb : oq_TB (oq_W ws) (oq_b v2) (oq_c (oq_N kd) (fun _ => false) qm) LE (n + 1)) (hom : om = 0) : Met l yX3_followLeast (Cond.code yX3_followLeast cX3_followLeast 8 none :: gT) ({ frames := 4, cells := 0, slots := 0, locals := 130 }) (va_Pc [.ref h, .int (nI n), .int v2] (pr (dC, dI) sz [(h, .inr (3, [.ref g0, .ref g1, .ref g2, .int (nI qm), .ref g4, .int om, .int kn, .int kl, .ref g8, .ref g9, .ref g10, .ref g11, .ref lq])), (g0, .inl (ca 0, 36, .inl ws)), (g1, .inl (ca 0, 10, .inl qd)), (g2, .inl (ca 0, 10, .inl kd)), (g4, .inl (ca 0, 10, .inl od)), (g8, .inl (ca 1, 10, .inl us)), (g9, .inl (ca 0, 6, .inl ct)), (g10, .inl (ca 0, 6, .inl sd)), (g11, .inl (ca 0, 6, .inl wt)), (lq, .inl (ca 0, 1944, .inl LE))] (aT ca))) (va_Qv (fun (u_ : Int32 × (Nat → Int32) × (Nat → Int32) × (Nat → Int32)) => oq_kn ws qd kd qm v2 u_.1 u_.2.1) (fun (u_ : Int32 × (Nat → Int32) × (Nat → Int32) × (Nat → Int32)) t => va_P (dC, dI) vwCl [(h, .inr (3, [.ref g0, .ref g1, .ref g2, .int (nI qm), .ref g4, .int u_.1, .int kn, .int kl, .ref g8, .ref g9, .ref g10, .ref g11, .ref lq])), (g0, .inl (ca 0, 36, .inl ws)), (g1, .inl (ca 0, 10, .inl qd)), (g2, .inl (ca 0, 10, .inl kd)), (g4, .inl (ca 0, 10, .inl u_.2.1)), (g8, .inl (ca 1, 10, .inl u_.2.2.1)), (g9, .inl (ca 0, 6, .inl ct)), (g10, .inl (ca 0, 6, .inl sd)), (g11, .inl (ca 0, 6, .inl u_.2.2.2)), (lq, .inl (ca 0, 1944, .inl LE))] t.heap ∧ va_D (va_A [(h, .inr (3, [.ref g0, .ref g1, .ref g2, .int (nI qm), .ref g4, .int om, .int kn, .int kl, .ref g8, .ref g9, .ref g10, .ref g11, .ref lq])), (g0, .inl (ca 0, 36, .inl ws)), (g1, .inl (ca 0, 10, .inl qd)), (g2, .inl (ca 0, 10, .inl kd)), (g4, .inl (ca 0, 10, .inl od)), (g8, .inl (ca 1, 10, .inl us)), (g9, .inl (ca 0, 6, .inl ct)), (g10, .inl (ca 0, 6, .inl sd)), (g11, .inl (ca 0, 6, .inl wt)), (lq, .inl (ca 0, 1944, .inl LE))] sz) [(h, .inr (3, [.ref g0, .ref g1, .ref g2, .int (nI qm), .ref g4, .int u_.1, .int kn, .int kl, .ref g8, .ref g9, .ref g10, .ref g11, .ref lq])), (g0, .inl (ca 0, 36, .inl ws)), (g1, .inl (ca 0, 10, .inl qd)), (g2, .inl (ca 0, 10, .inl kd)), (g4, .inl (ca 0, 10, .inl u_.2.1)), (g8, .inl (ca 1, 10, .inl u_.2.2.1)), (g9, .inl (ca 0, 6, .inl ct)), (g10, .inl (ca 0, 6, .inl sd)), (g11, .inl (ca 0, 6, .inl u_.2.2.2)), (lq, .inl (ca 0, 1944, .inl LE))]) (va_A [(h, .inr (3, [.ref g0, .ref g1, .ref g2, .int (nI qm), .ref g4, .int om, .int kn, .int kl, .ref g8, .ref g9, .ref g10, .ref g11, .ref lq])), (g0, .inl (ca 0, 36, .inl ws)), (g1, .inl (ca 0, 10, .inl qd)), (g2, .inl (ca 0, 10, .inl kd)), (g4, .inl (ca 0, 10, .inl od)), (g8, .inl (ca 1, 10, .inl us)), (g9, .inl (ca 0, 6, .inl ct)), (g10, .inl (ca 0, 6, .inl sd)), (g11, .inl (ca 0, 6, .inl wt)), (lq, .inl (ca 0, 1944, .inl LE))] sz)) 0 0 (va_A [(h, .inr (3, [.ref g0, .ref g1, .ref g2, .int (nI qm), .ref g4, .int om, .int kn, .int kl, .ref g8, .ref g9, .ref g10, .ref g11, .ref lq])), (g0, .inl (ca 0, 36, .inl ws)), (g1, .inl (ca 0, 10, .inl qd)), (g2, .inl (ca 0, 10, .inl kd)), (g4, .inl (ca 0, 10, .inl od)), (g8, .inl (ca 1, 10, .inl us)), (g9, .inl (ca 0, 6, .inl ct)), (g10, .inl (ca 0, 6, .inl sd)), (g11, .inl (ca 0, 6, .inl wt)), (lq, .inl (ca 0, 1944, .inl LE))] sz) := by
  refine Met.ofW (cc := cX3_followLeast) (maxL := 8) (ret := none) (by decide) rfl ?_
  intro p e s m args below meth c s₁ B hml hv
  obtain ⟨rfl, hsz, hP, hK, hD0, hE⟩ := hv
  have hx := B.exec
  have hb := B.bytes
  have hr := B.returns
  have hts : ∀ w ∈ gT, w.before _ s = true := fun w h => atoms_spec (ws := Cond.code yX3_followLeast cX3_followLeast 8 none :: gT) B.pre w (List.mem_cons_of_mem _ h)
  have hown : s.vm.findClass RX3 = some m.cls := findClass_of_methodNamed B.named
  have hlocks := B.notSynchronized
  subst hsz
  have hD := hD0.self (sz := s.heap.size)
  generalize hAe : va_A [(h, .inr (3, [.ref g0, .ref g1, .ref g2, .int (nI qm), .ref g4, .int om, .int kn, .int kl, .ref g8, .ref g9, .ref g10, .ref g11, .ref lq])), (g0, .inl (ca 0, 36, .inl ws)), (g1, .inl (ca 0, 10, .inl qd)), (g2, .inl (ca 0, 10, .inl kd)), (g4, .inl (ca 0, 10, .inl od)), (g8, .inl (ca 1, 10, .inl us)), (g9, .inl (ca 0, 6, .inl ct)), (g10, .inl (ca 0, 6, .inl sd)), (g11, .inl (ca 0, 6, .inl wt)), (lq, .inl (ca 0, 1944, .inl LE))] s.heap.size = A at hD ⊢
  have hA : ∀ q : Nat, s.heap.size ≤ q → A q := fun q h => by rw [← hAe]; exact Or.inr h
  have hS : va_S A s.heap s.heap [] := va_S.rf
  have hl := lv_entry ([.ref h, .int (nI n), .int v2]) (n := 8) (Nat.le_of_ble_eq_true rfl)
  rw [lg_entry_eq]
  generalize (lg_sl ([.ref h, .int (nI n), .int v2]) ++ List.replicate (8 - (lg_sl ([.ref h, .int (nI n), .int v2])).length) Slot.unset).toArray = ls at hl ⊢
  have hl : lv_has ls 8 [(0, .ref h), (1, .int (nI n)), (2, .int v2)] := hl
  have hq0 := hq.1
  refine lv_aload_n hx hb dX3_followLeast_0 rfl (lv_at hl 0 rfl) ?_
  refine va_get (D := (dC, dI)) (ci := 3) (v := .ref g9) (C := RX3) (T := TX3) (N := 13) hx hb hts inX3 hown hK hP 0 rfl rfl 9 (by decide) (hts _ mw_116) (fun _ h9 => h9) rfl dX3_followLeast_1 ?_
  refine lv_iconst (v := 0) hx hb dX3_followLeast_4 (by decide) ?_
  refine lv_aload_n hx hb dX3_followLeast_5 rfl (lv_at hl 0 rfl) ?_
  refine va_get (D := (dC, dI)) (ci := 3) (v := .ref g11) (C := RX3) (T := TX3) (N := 13) hx hb hts inX3 hown hK hP 0 rfl rfl 11 (by decide) (hts _ mw_118) (fun _ h9 => h9) rfl dX3_followLeast_6 ?_
  refine lv_iconst (v := 0) hx hb dX3_followLeast_9 (by decide) ?_
  refine lv_bipush (v := 6) hx hb dX3_followLeast_10 (by decide) ?_
  refine va_copyi (ty := .int) hx hb (by rw [hml]; exact hl.1.symm) hown (hts _ mw_848) (hts _ mw_672) (hts _ mw_671) (hts _ mw_15) hK hP hD hS 6 8 0 0 rfl rfl rfl rfl rfl (by decide) (by decide) (by decide) (by decide) (by decide) (fun _ _ => rfl) (Nat.le_of_ble_eq_true rfl) (Nat.le_of_ble_eq_true rfl) dX3_followLeast_12 (fun H locs hP hD hS => ?_)
  obtain ⟨hP, hD⟩ := va_bo [(h, .inr (3, [.ref g0, .ref g1, .ref g2, .int (nI qm), .ref g4, .int om, .int kn, .int kl, .ref g8, .ref g9, .ref g10, .ref g11, .ref lq])), (g0, .inl (ca 0, 36, .inl ws)), (g1, .inl (ca 0, 10, .inl qd)), (g2, .inl (ca 0, 10, .inl kd)), (g4, .inl (ca 0, 10, .inl od)), (g8, .inl (ca 1, 10, .inl us)), (g9, .inl (ca 0, 6, .inl ct)), (g10, .inl (ca 0, 6, .inl sd)), (g11, .inl (ca 0, 6, .inl (va_cpy ct wt (0 : Int32).toNatClampNeg (0 : Int32).toNatClampNeg (6 : Int32).toNatClampNeg))), (lq, .inl (ca 0, 1944, .inl LE))] hP hD
  refine lv_iconst (v := 0) hx hb dX3_followLeast_15 (by decide) ?_
  refine lv_istore_n (lv' := [(3, .int 0), (0, .ref h), (1, .int (nI n)), (2, .int v2)]) hx hb dX3_followLeast_16 rfl hl (by decide) rfl (fun ls hl => ?_)
  refine wl_loop (fun (z_ : Nat × (Nat → Int32)) H locs ls => (z_.1 ≤ qm ∧ ∀ j, j < z_.1 → z_.2 j = 0) ∧ va_P (dC, dI) vwCl [(h, .inr (3, [.ref g0, .ref g1, .ref g2, .int (nI qm), .ref g4, .int om, .int kn, .int kl, .ref g8, .ref g9, .ref g10, .ref g11, .ref lq])), (g0, .inl (ca 0, 36, .inl ws)), (g1, .inl (ca 0, 10, .inl qd)), (g2, .inl (ca 0, 10, .inl kd)), (g4, .inl (ca 0, 10, .inl od)), (g8, .inl (ca 1, 10, .inl z_.2)), (g9, .inl (ca 0, 6, .inl ct)), (g10, .inl (ca 0, 6, .inl sd)), (g11, .inl (ca 0, 6, .inl (va_cpy ct wt (0 : Int32).toNatClampNeg (0 : Int32).toNatClampNeg (6 : Int32).toNatClampNeg))), (lq, .inl (ca 0, 1944, .inl LE))] H ∧ va_D A [(h, .inr (3, [.ref g0, .ref g1, .ref g2, .int (nI qm), .ref g4, .int om, .int kn, .int kl, .ref g8, .ref g9, .ref g10, .ref g11, .ref lq])), (g0, .inl (ca 0, 36, .inl ws)), (g1, .inl (ca 0, 10, .inl qd)), (g2, .inl (ca 0, 10, .inl kd)), (g4, .inl (ca 0, 10, .inl od)), (g8, .inl (ca 1, 10, .inl z_.2)), (g9, .inl (ca 0, 6, .inl ct)), (g10, .inl (ca 0, 6, .inl sd)), (g11, .inl (ca 0, 6, .inl (va_cpy ct wt (0 : Int32).toNatClampNeg (0 : Int32).toNatClampNeg (6 : Int32).toNatClampNeg))), (lq, .inl (ca 0, 1944, .inl LE))] ∧ va_S A s.heap H locs ∧ lv_has ls 8 [(3, .int (nI z_.1)), (0, .ref h), (1, .int (nI n)), (2, .int v2)]) (fun (z_ : Nat × (Nat → Int32)) => qm - z_.1) (fun z_ H locs ls hI ih => ?_) (0, us) ⟨⟨Nat.zero_le _, fun j hj => absurd hj (Nat.not_lt_zero j)⟩, hP, hD, hS, lv_sub hl [0, 1, 2, 3] rfl⟩
  obtain ⟨i, u1_⟩ := z_
  dsimp only at hI ih
  obtain ⟨⟨hi, hu0⟩, hP, hD, hS, hl⟩ := hI
  refine lv_iload_n hx hb dX3_followLeast_17 rfl (lv_at hl 0 rfl) ?_
  refine lv_aload_n hx hb dX3_followLeast_18 rfl (lv_at hl 1 rfl) ?_
  refine va_get (D := (dC, dI)) (ci := 3) (v := .int (nI qm)) (C := RX3) (T := TX3) (N := 13) hx hb hts inX3 hown hK hP 0 rfl rfl 3 (by decide) (hts _ mw_107) (fun _ h9 => h9) rfl dX3_followLeast_19 ?_
  refine lv_icmp_ge (tgt := 38) hx hb dX3_followLeast_22 (by decide) (fun c_1 => ?_) (fun c_1 => ?_)
  · have nc_1 : qm ≤ i := (nI_leI (a := qm) (b := i) (by omega) (by omega)).mp c_1
    refine lv_iload_n hx hb dX3_followLeast_38 rfl (lv_at hl 2 rfl) ?_
    refine lv_istore_n (lv' := [(3, .int (nI n)), (0, .ref h), (1, .int (nI n)), (2, .int v2)]) hx hb dX3_followLeast_39 rfl hl (by decide) rfl (fun ls hl => ?_)
    refine lv_iconst (v := (-1)) hx hb dX3_followLeast_40 (by decide) ?_
    refine lv_istore (lv' := [(4, .int (-1)), (3, .int (nI n)), (0, .ref h), (1, .int (nI n)), (2, .int v2)]) hx hb dX3_followLeast_41 hl (by decide) rfl (fun ls hl => ?_)
    refine lv_iconst (v := 0) hx hb dX3_followLeast_43 (by decide) ?_
    refine lv_istore (lv' := [(5, .int 0), (4, .int (-1)), (3, .int (nI n)), (0, .ref h), (1, .int (nI n)), (2, .int v2)]) hx hb dX3_followLeast_44 hl (by decide) rfl (fun ls hl => ?_)
    refine wl_loop (fun (z_ : Nat × Int32 × Int32 × Int32 × (Nat → Int32) × (Nat → Int32) × (Nat → Int32)) H locs ls => (z_.1 ≤ qm ∧ oq_fo ws qd kd qm v2 z_.1 z_.2.1 z_.2.2.1 z_.2.2.2.1 z_.2.2.2.2.1 z_.2.2.2.2.2.1 z_.2.2.2.2.2.2) ∧ va_P (dC, dI) vwCl [(h, .inr (3, [.ref g0, .ref g1, .ref g2, .int (nI qm), .ref g4, .int z_.2.2.2.1, .int kn, .int kl, .ref g8, .ref g9, .ref g10, .ref g11, .ref lq])), (g0, .inl (ca 0, 36, .inl ws)), (g1, .inl (ca 0, 10, .inl qd)), (g2, .inl (ca 0, 10, .inl kd)), (g4, .inl (ca 0, 10, .inl z_.2.2.2.2.1)), (g8, .inl (ca 1, 10, .inl z_.2.2.2.2.2.1)), (g9, .inl (ca 0, 6, .inl ct)), (g10, .inl (ca 0, 6, .inl sd)), (g11, .inl (ca 0, 6, .inl z_.2.2.2.2.2.2)), (lq, .inl (ca 0, 1944, .inl LE))] H ∧ va_D A [(h, .inr (3, [.ref g0, .ref g1, .ref g2, .int (nI qm), .ref g4, .int z_.2.2.2.1, .int kn, .int kl, .ref g8, .ref g9, .ref g10, .ref g11, .ref lq])), (g0, .inl (ca 0, 36, .inl ws)), (g1, .inl (ca 0, 10, .inl qd)), (g2, .inl (ca 0, 10, .inl kd)), (g4, .inl (ca 0, 10, .inl z_.2.2.2.2.1)), (g8, .inl (ca 1, 10, .inl z_.2.2.2.2.2.1)), (g9, .inl (ca 0, 6, .inl ct)), (g10, .inl (ca 0, 6, .inl sd)), (g11, .inl (ca 0, 6, .inl z_.2.2.2.2.2.2)), (lq, .inl (ca 0, 1944, .inl LE))] ∧ va_S A s.heap H locs ∧ lv_has ls 8 [(5, .int (nI z_.1)), (4, .int z_.2.2.1), (3, .int z_.2.1), (0, .ref h), (1, .int (nI n)), (2, .int v2)]) (fun (z_ : Nat × Int32 × Int32 × Int32 × (Nat → Int32) × (Nat → Int32) × (Nat → Int32)) => qm - z_.1) (fun z_ H locs ls hI ih46 => ?_) (0, (nI n), (-1), om, od, u1_, (va_cpy ct wt (0 : Int32).toNatClampNeg (0 : Int32).toNatClampNeg (6 : Int32).toNatClampNeg)) ⟨⟨Nat.zero_le _, oq_fo_0 hne hct hu0 (by omega) hom⟩, hP, hD, hS, lv_sub hl [0, 1, 2, 3, 4, 5] rfl⟩
    obtain ⟨i2, s3, b4, om1, od1, us1, wt1⟩ := z_
    dsimp only at hI ih46
    obtain ⟨⟨hi2, hfo⟩, hP, hD, hS, hl⟩ := hI
    refine lv_iload hx hb dX3_followLeast_46 (lv_at hl 0 rfl) ?_
    refine lv_aload_n hx hb dX3_followLeast_48 rfl (lv_at hl 3 rfl) ?_
    refine va_get (D := (dC, dI)) (ci := 3) (v := .int (nI qm)) (C := RX3) (T := TX3) (N := 13) hx hb hts inX3 hown hK hP 0 rfl rfl 3 (by decide) (hts _ mw_107) (fun _ h9 => h9) rfl dX3_followLeast_49 ?_
    refine lv_icmp_ge (tgt := 159) hx hb dX3_followLeast_52 (by decide) (fun c_2 => ?_) (fun c_2 => ?_)
    · have nc_2 : qm ≤ i2 := (nI_leI (a := qm) (b := i2) (by omega) (by omega)).mp c_2
      refine W.widen (k := 0) (n := 0) (Nat.le_of_ble_eq_true rfl) (Nat.le_of_ble_eq_true rfl) ?_
      have hP9 : va_P (dC, dI) vwCl [(h, .inr (3, [.ref g0, .ref g1, .ref g2, .int (nI qm), .ref g4, .int om1, .int kn, .int kl, .ref g8, .ref g9, .ref g10, .ref g11, .ref lq])), (g0, .inl (ca 0, 36, .inl ws)), (g1, .inl (ca 0, 10, .inl qd)), (g2, .inl (ca 0, 10, .inl kd)), (g4, .inl (ca 0, 10, .inl od1)), (g8, .inl (ca 1, 10, .inl us1)), (g9, .inl (ca 0, 6, .inl ct)), (g10, .inl (ca 0, 6, .inl sd)), (g11, .inl (ca 0, 6, .inl wt1)), (lq, .inl (ca 0, 1944, .inl LE))] H := va_P.sub hP [0, 1, 2, 3, 4, 5, 6, 7, 8, 9] rfl
      have hD9 : va_D A [(h, .inr (3, [.ref g0, .ref g1, .ref g2, .int (nI qm), .ref g4, .int om1, .int kn, .int kl, .ref g8, .ref g9, .ref g10, .ref g11, .ref lq])), (g0, .inl (ca 0, 36, .inl ws)), (g1, .inl (ca 0, 10, .inl qd)), (g2, .inl (ca 0, 10, .inl kd)), (g4, .inl (ca 0, 10, .inl od1)), (g8, .inl (ca 1, 10, .inl us1)), (g9, .inl (ca 0, 6, .inl ct)), (g10, .inl (ca 0, 6, .inl sd)), (g11, .inl (ca 0, 6, .inl wt1)), (lq, .inl (ca 0, 1944, .inl LE))] := va_D.sub hD [0, 1, 2, 3, 4, 5, 6, 7, 8, 9] (by decide) rfl
      exact W.vret hx hb hr (fun t ht hW => ⟨⟨(om1, od1, us1, wt1), rfl, oq_fo_k hfo (by omega), by rw [ht]; dsimp only; exact hP9, by dsimp only; exact hD9⟩, hS.F ht⟩) hS.2.2 dX3_followLeast_159
    · have nc_2 : ¬ (qm ≤ i2) := fun h9 => c_2 ((nI_leI (a := qm) (b := i2) (by omega) (by omega)).mpr h9)
      refine lv_aload_n hx hb dX3_followLeast_55 rfl (lv_at hl 3 rfl) ?_
      refine lv_iload_n hx hb dX3_followLeast_56 rfl (lv_at hl 2 rfl) ?_
      refine lv_iload hx hb dX3_followLeast_57 (lv_at hl 1 rfl) ?_
      refine lv_iload_n hx hb dX3_followLeast_59 rfl (lv_at hl 5 rfl) ?_
      obtain ⟨sn, esn, hsn, heE⟩ := oq_fo_E hfo hq
      have hPc := hP.sub (ws' := [(h, .inr (3, [.ref g0, .ref g1, .ref g2, .int (nI qm), .ref g4, .int om1, .int kn, .int kl, .ref g8, .ref g9, .ref g10, .ref g11, .ref lq])), (g0, .inl (ca 0, 36, .inl ws)), (g2, .inl (ca 0, 10, .inl kd)), (g8, .inl (ca 1, 10, .inl us1)), (g10, .inl (ca 0, 6, .inl sd)), (g11, .inl (ca 0, 6, .inl wt1)), (lq, .inl (ca 0, 1944, .inl LE))]) [0, 1, 3, 5, 7, 8, 9] rfl
      refine pc_i (va_runV (As := [.int s3, .int b4, .int v2]) (rest := []) ⟨hx, hb, hml, hown, hts⟩ (e_findNext l dC dI ca h g0 g1 g2 g4 g8 g9 g10 g11 qm om1 kn kl ws kd us1 sd wt1 lq LE s3 b4 v2 ((oq_S (oq_W ws) (oq_N kd) (oq_b v2) qm i2).1) ((oq_S (oq_W ws) (oq_N kd) (oq_b v2) qm i2).2.1) sn (oq_c (oq_N kd) (fun _ => false) qm) hq (by omega) esn (by omega) hfo.2.1 hsd hws hfo.2.2.2.2.1 hfo.2.2.2.2.2 (fun k _ => oq_c_mo qm) heE (by rw [oq_mT hq]; exact hq.1) (oq_TB_le htb (by omega)) hse) (⟨callB_of 3 hts (gd mw_852) rfl rfl rfl (hts _ mw_5) (hts _ mw_849) ds_X3_findNext ⟨Nat.le_of_ble_eq_true rfl, Nat.le_of_ble_eq_true rfl⟩, (hts _ mw_851), (hts _ mp_36)⟩) (pu_V hPc hK hE (va_recv hK hPc (ci := 3) (q0 := 0) rfl rfl)) rfl rfl hl.1 rfl (lv_room (Nat.le_of_ble_eq_true rfl)) dX3_followLeast_60 ⟨Nat.le_of_ble_eq_true rfl, Nat.le_of_ble_eq_true rfl⟩) (fun rv_3 hw_ => ?_)
      have hw_3 := hw_
      obtain ⟨nx9, ex9⟩ : ∃ q : Nat, q = oq_x (oq_W ws) (oq_N kd) (oq_b v2) qm (oq_S (oq_W ws) (oq_N kd) (oq_b v2) qm i2) := ⟨_, rfl⟩
      have hnx : nx9 < qm := by rw [ex9]; exact (oq_S_x (oq_Wb hws) (oq_Kb hq) hq.1 (show i2 < qm by omega)).1
      have enx := hw_3.trans (congrArg nI ex9.symm)
      subst enx
      refine lv_istore (lv' := [(6, .int (nI nx9)), (5, .int (nI i2)), (4, .int b4), (3, .int s3), (0, .ref h), (1, .int (nI n)), (2, .int v2)]) hx hb dX3_followLeast_63 hl (by decide) rfl (fun ls hl => ?_)
      refine lv_aload_n hx hb dX3_followLeast_65 rfl (lv_at hl 4 rfl) ?_
      refine va_get (D := (dC, dI)) (ci := 3) (v := .ref g2) (C := RX3) (T := TX3) (N := 13) hx hb hts inX3 hown hK hP 0 rfl rfl 2 (by decide) (hts _ mw_106) (fun _ h9 => h9) rfl dX3_followLeast_66 ?_
      refine lv_iload hx hb dX3_followLeast_69 (lv_at hl 0 rfl) ?_
      refine va_iald hx hb hK hP 3 0 rfl rfl (vp_in_nI (show nx9 < 10 by omega) (by first | decide | omega)) dX3_followLeast_71 ?_
      refine lv_topi (fun y_ e_ => ?_)
      obtain rfl : y_ = (kd nx9) := e_.trans (congrArg kd (show ((nI nx9) : Int32).toNatClampNeg = nx9 from nI_clamp (by omega)))
      refine lv_istore (lv' := [(7, .int (kd nx9)), (6, .int (nI nx9)), (5, .int (nI i2)), (4, .int b4), (3, .int s3), (0, .ref h), (1, .int (nI n)), (2, .int v2)]) hx hb dX3_followLeast_72 hl (by decide) rfl (fun ls hl => ?_)
      refine lv_aload_n hx hb dX3_followLeast_74 rfl (lv_at hl 5 rfl) ?_
      refine lv_dup hx hb dX3_followLeast_75 rfl ?_
      refine va_get (D := (dC, dI)) (ci := 3) (v := .int om1) (C := RX3) (T := TX3) (N := 13) hx hb hts inX3 hown hK hP 0 rfl rfl 5 (by decide) (hts _ mw_111) (fun _ h9 => h9) rfl dX3_followLeast_76 ?_
      refine lv_iload hx hb dX3_followLeast_79 (lv_at hl 3 rfl) ?_
      refine lv_iconst (v := (-1)) hx hb dX3_followLeast_81 (by decide) ?_
      refine lv_icmp_ne (tgt := 89) hx hb dX3_followLeast_82 (by decide) (fun c_4 => ?_) (fun c_4 => ?_)
      · refine lv_aload_n hx hb dX3_followLeast_89 rfl (lv_at hl 5 rfl) ?_
        refine va_get (D := (dC, dI)) (ci := 3) (v := .ref g0) (C := RX3) (T := TX3) (N := 13) hx hb hts inX3 hown hK hP 0 rfl rfl 0 (by decide) (hts _ mw_104) (fun _ h9 => h9) rfl dX3_followLeast_90 ?_
        refine lv_iload hx hb dX3_followLeast_93 (lv_at hl 3 rfl) ?_
        refine lv_bipush (v := 6) hx hb dX3_followLeast_95 (by decide) ?_
        refine lv_imul hx hb dX3_followLeast_97 ?_
        refine lv_iload hx hb dX3_followLeast_98 (lv_at hl 0 rfl) ?_
        refine lv_iadd hx hb dX3_followLeast_100 ?_
        refine va_iald hx hb hK hP 1 0 rfl rfl (gr_in (A := 6) (B := 6) (cnt_vp (oq_fo_5 hfo c_4) (by decide) (by decide)) (cnt_vp (hq.2 nx9 hnx) (by decide) (by decide)) (by decide) (w := 6) (by decide) (by decide) (by decide)).1 dX3_followLeast_101 ?_
        refine lv_iadd hx hb dX3_followLeast_102 ?_
        refine va_put (D := (dC, dI)) (ci := 3) (v := .int (om1 + (ws (((b4 * 6) + (kd nx9)) : Int32).toNatClampNeg))) (ty := .int) (C := RX3) (T := TX3) (N := 13) hx hb hts inX3 tyX3 tyX3_ok nmX3 hown hK hP hD hS 0 rfl rfl 5 (by decide) (hts _ mw_111) (fun _ h9 => h9) rfl (by decide +kernel) rfl rfl (Nat.le_of_ble_eq_true rfl) dX3_followLeast_103 (fun H locs hP hD hS => ?_)
        obtain ⟨hP, hD⟩ := va_bo [(h, .inr (3, [.ref g0, .ref g1, .ref g2, .int (nI qm), .ref g4, .int (om1 + (ws (((b4 * 6) + (kd nx9)) : Int32).toNatClampNeg)), .int kn, .int kl, .ref g8, .ref g9, .ref g10, .ref g11, .ref lq])), (g0, .inl (ca 0, 36, .inl ws)), (g1, .inl (ca 0, 10, .inl qd)), (g2, .inl (ca 0, 10, .inl kd)), (g4, .inl (ca 0, 10, .inl od1)), (g8, .inl (ca 1, 10, .inl us1)), (g9, .inl (ca 0, 6, .inl ct)), (g10, .inl (ca 0, 6, .inl sd)), (g11, .inl (ca 0, 6, .inl wt1)), (lq, .inl (ca 0, 1944, .inl LE))] hP hD
        refine lv_aload_n hx hb dX3_followLeast_106 rfl (lv_at hl 5 rfl) ?_
        refine va_get (D := (dC, dI)) (ci := 3) (v := .ref g4) (C := RX3) (T := TX3) (N := 13) hx hb hts inX3 hown hK hP 0 rfl rfl 4 (by decide) (hts _ mw_109) (fun _ h9 => h9) rfl dX3_followLeast_107 ?_
        refine lv_iload hx hb dX3_followLeast_110 (lv_at hl 2 rfl) ?_
        refine lv_aload_n hx hb dX3_followLeast_112 rfl (lv_at hl 5 rfl) ?_
        refine va_get (D := (dC, dI)) (ci := 3) (v := .ref g1) (C := RX3) (T := TX3) (N := 13) hx hb hts inX3 hown hK hP 0 rfl rfl 1 (by decide) (hts _ mw_105) (fun _ h9 => h9) rfl dX3_followLeast_113 ?_
        refine lv_iload hx hb dX3_followLeast_116 (lv_at hl 1 rfl) ?_
        refine va_iald hx hb hK hP 2 0 rfl rfl (vp_in_nI (show nx9 < 10 by omega) (by first | decide | omega)) dX3_followLeast_118 ?_
        refine lv_topi (fun y_ e_ => ?_)
        obtain rfl : y_ = (qd nx9) := e_.trans (congrArg qd (show ((nI nx9) : Int32).toNatClampNeg = nx9 from nI_clamp (by omega)))
        refine va_iast hx hb hK hP hD hS 4 0 rfl rfl (vp_in_nI (show i2 < 10 by omega) (by first | decide | omega)) dX3_followLeast_119 (fun H locs hP hD hS => ?_)
        rw [(show ((nI i2) : Int32).toNatClampNeg = i2 from nI_clamp (by omega))] at hP hD
        obtain ⟨hP, hD⟩ := va_bo [(h, .inr (3, [.ref g0, .ref g1, .ref g2, .int (nI qm), .ref g4, .int (om1 + (ws (((b4 * 6) + (kd nx9)) : Int32).toNatClampNeg)), .int kn, .int kl, .ref g8, .ref g9, .ref g10, .ref g11, .ref lq])), (g0, .inl (ca 0, 36, .inl ws)), (g1, .inl (ca 0, 10, .inl qd)), (g2, .inl (ca 0, 10, .inl kd)), (g4, .inl (ca 0, 10, .inl (upd od1 i2 (qd nx9)))), (g8, .inl (ca 1, 10, .inl us1)), (g9, .inl (ca 0, 6, .inl ct)), (g10, .inl (ca 0, 6, .inl sd)), (g11, .inl (ca 0, 6, .inl wt1)), (lq, .inl (ca 0, 1944, .inl LE))] hP hD
        refine lv_aload_n hx hb dX3_followLeast_120 rfl (lv_at hl 5 rfl) ?_
        refine va_get (D := (dC, dI)) (ci := 3) (v := .ref g8) (C := RX3) (T := TX3) (N := 13) hx hb hts inX3 hown hK hP 0 rfl rfl 8 (by decide) (hts _ mw_115) (fun _ h9 => h9) rfl dX3_followLeast_121 ?_
        refine lv_iload hx hb dX3_followLeast_124 (lv_at hl 1 rfl) ?_
        refine lv_iconst (v := 1) hx hb dX3_followLeast_126 (by decide) ?_
        refine va_zast hx hb hK hP hD hS 5 1 rfl rfl (vp_in_nI (show nx9 < 10 by omega) (by first | decide | omega)) dX3_followLeast_127 (fun H locs hP hD hS => ?_)
        rw [(show ((nI nx9) : Int32).toNatClampNeg = nx9 from nI_clamp (by omega))] at hP hD
        obtain ⟨hP, hD⟩ := va_bo [(h, .inr (3, [.ref g0, .ref g1, .ref g2, .int (nI qm), .ref g4, .int (om1 + (ws (((b4 * 6) + (kd nx9)) : Int32).toNatClampNeg)), .int kn, .int kl, .ref g8, .ref g9, .ref g10, .ref g11, .ref lq])), (g0, .inl (ca 0, 36, .inl ws)), (g1, .inl (ca 0, 10, .inl qd)), (g2, .inl (ca 0, 10, .inl kd)), (g4, .inl (ca 0, 10, .inl (upd od1 i2 (qd nx9)))), (g8, .inl (ca 1, 10, .inl (upd us1 nx9 1))), (g9, .inl (ca 0, 6, .inl ct)), (g10, .inl (ca 0, 6, .inl sd)), (g11, .inl (ca 0, 6, .inl wt1)), (lq, .inl (ca 0, 1944, .inl LE))] hP hD
        refine lv_aload_n hx hb dX3_followLeast_128 rfl (lv_at hl 5 rfl) ?_
        refine va_get (D := (dC, dI)) (ci := 3) (v := .ref g11) (C := RX3) (T := TX3) (N := 13) hx hb hts inX3 hown hK hP 0 rfl rfl 11 (by decide) (hts _ mw_118) (fun _ h9 => h9) rfl dX3_followLeast_129 ?_
        refine lv_iload hx hb dX3_followLeast_132 (lv_at hl 0 rfl) ?_
        refine lv_dup2_11 hx hb dX3_followLeast_134 rfl rfl ?_
        refine va_iald hx hb hK hP 8 0 rfl rfl (cnt_vp (hq.2 nx9 hnx) (by decide) (by decide)) dX3_followLeast_135 ?_
        refine lv_iconst (v := 1) hx hb dX3_followLeast_136 (by decide) ?_
        refine lv_isub hx hb dX3_followLeast_137 ?_
        refine va_iast hx hb hK hP hD hS 8 0 rfl rfl (cnt_vp (hq.2 nx9 hnx) (by decide) (by decide)) dX3_followLeast_138 (fun H locs hP hD hS => ?_)
        obtain ⟨hP, hD⟩ := va_bo [(h, .inr (3, [.ref g0, .ref g1, .ref g2, .int (nI qm), .ref g4, .int (om1 + (ws (((b4 * 6) + (kd nx9)) : Int32).toNatClampNeg)), .int kn, .int kl, .ref g8, .ref g9, .ref g10, .ref g11, .ref lq])), (g0, .inl (ca 0, 36, .inl ws)), (g1, .inl (ca 0, 10, .inl qd)), (g2, .inl (ca 0, 10, .inl kd)), (g4, .inl (ca 0, 10, .inl (upd od1 i2 (qd nx9)))), (g8, .inl (ca 1, 10, .inl (upd us1 nx9 1))), (g9, .inl (ca 0, 6, .inl ct)), (g10, .inl (ca 0, 6, .inl sd)), (g11, .inl (ca 0, 6, .inl (upd wt1 ((kd nx9) : Int32).toNatClampNeg ((wt1 ((kd nx9) : Int32).toNatClampNeg) - 1)))), (lq, .inl (ca 0, 1944, .inl LE))] hP hD
        refine lv_iload_n hx hb dX3_followLeast_139 rfl (lv_at hl 4 rfl) ?_
        refine lv_aload_n hx hb dX3_followLeast_140 rfl (lv_at hl 5 rfl) ?_
        refine va_get (D := (dC, dI)) (ci := 3) (v := .ref g10) (C := RX3) (T := TX3) (N := 13) hx hb hts inX3 hown hK hP 0 rfl rfl 10 (by decide) (hts _ mw_117) (fun _ h9 => h9) rfl dX3_followLeast_141 ?_
        refine lv_iload hx hb dX3_followLeast_144 (lv_at hl 0 rfl) ?_
        refine va_iald hx hb hK hP 7 0 rfl rfl (cnt_vp (hq.2 nx9 hnx) (by decide) (by decide)) dX3_followLeast_146 ?_
        refine lv_isub hx hb dX3_followLeast_147 ?_
        refine lv_istore_n (lv' := [(3, .int (s3 - (sd ((kd nx9) : Int32).toNatClampNeg))), (7, .int (kd nx9)), (6, .int (nI nx9)), (5, .int (nI i2)), (4, .int b4), (0, .ref h), (1, .int (nI n)), (2, .int v2)]) hx hb dX3_followLeast_148 rfl hl (by decide) rfl (fun ls hl => ?_)
        refine lv_iload hx hb dX3_followLeast_149 (lv_at hl 1 rfl) ?_
        refine lv_istore (lv' := [(4, .int (kd nx9)), (3, .int (s3 - (sd ((kd nx9) : Int32).toNatClampNeg))), (7, .int (kd nx9)), (6, .int (nI nx9)), (5, .int (nI i2)), (0, .ref h), (1, .int (nI n)), (2, .int v2)]) hx hb dX3_followLeast_151 hl (by decide) rfl (fun ls hl => ?_)
        refine lv_iinc (v := (nI (i2 + 1))) (lv' := [(5, .int (nI (i2 + 1))), (4, .int (kd nx9)), (3, .int (s3 - (sd ((kd nx9) : Int32).toNatClampNeg))), (7, .int (kd nx9)), (6, .int (nI nx9)), (0, .ref h), (1, .int (nI n)), (2, .int v2)]) hx hb dX3_followLeast_153 hl (k := 4) rfl (nI_add (i2) 1) (by decide) rfl (fun ls hl => ?_)
        refine lv_goto (tgt := 46) hx hb dX3_followLeast_156 (by decide) ?_
        exact ih46 (i2 + 1, (s3 - (sd ((kd nx9) : Int32).toNatClampNeg)), (kd nx9), (om1 + (ws (((b4 * 6) + (kd nx9)) : Int32).toNatClampNeg)), (upd od1 i2 (qd nx9)), (upd us1 nx9 1), (upd wt1 ((kd nx9) : Int32).toNatClampNeg ((wt1 ((kd nx9) : Int32).toNatClampNeg) - 1))) _ _ _ (by omega) ⟨⟨by first | omega | (dsimp only; omega), oq_fo_s hfo hq (by first | omega | (dsimp only; omega)) hws hse ex9 (oq_fo_o1 hfo hq hws hnx c_4)⟩, hP, hD, hS, lv_sub hl [0, 1, 2, 5, 6, 7] rfl⟩
      · refine lv_iconst (v := 0) hx hb dX3_followLeast_85 (by decide) ?_
        refine lv_goto (tgt := 102) hx hb dX3_followLeast_86 (by decide) ?_
        refine lv_iadd hx hb dX3_followLeast_102 ?_
        refine lv_topi (fun y_ e_ => ?_)
        obtain rfl : om1 = y_ := (e_.trans (Int32.add_zero _)).symm
        refine va_put (D := (dC, dI)) (ci := 3) (v := .int om1) (ty := .int) (C := RX3) (T := TX3) (N := 13) hx hb hts inX3 tyX3 tyX3_ok nmX3 hown hK hP hD hS 0 rfl rfl 5 (by decide) (hts _ mw_111) (fun _ h9 => h9) rfl (by decide +kernel) rfl rfl (Nat.le_of_ble_eq_true rfl) dX3_followLeast_103 (fun H locs hP hD hS => ?_)
        obtain ⟨hP, hD⟩ := va_bo [(h, .inr (3, [.ref g0, .ref g1, .ref g2, .int (nI qm), .ref g4, .int om1, .int kn, .int kl, .ref g8, .ref g9, .ref g10, .ref g11, .ref lq])), (g0, .inl (ca 0, 36, .inl ws)), (g1, .inl (ca 0, 10, .inl qd)), (g2, .inl (ca 0, 10, .inl kd)), (g4, .inl (ca 0, 10, .inl od1)), (g8, .inl (ca 1, 10, .inl us1)), (g9, .inl (ca 0, 6, .inl ct)), (g10, .inl (ca 0, 6, .inl sd)), (g11, .inl (ca 0, 6, .inl wt1)), (lq, .inl (ca 0, 1944, .inl LE))] hP hD
        refine lv_aload_n hx hb dX3_followLeast_106 rfl (lv_at hl 5 rfl) ?_
        refine va_get (D := (dC, dI)) (ci := 3) (v := .ref g4) (C := RX3) (T := TX3) (N := 13) hx hb hts inX3 hown hK hP 0 rfl rfl 4 (by decide) (hts _ mw_109) (fun _ h9 => h9) rfl dX3_followLeast_107 ?_
        refine lv_iload hx hb dX3_followLeast_110 (lv_at hl 2 rfl) ?_
        refine lv_aload_n hx hb dX3_followLeast_112 rfl (lv_at hl 5 rfl) ?_
        refine va_get (D := (dC, dI)) (ci := 3) (v := .ref g1) (C := RX3) (T := TX3) (N := 13) hx hb hts inX3 hown hK hP 0 rfl rfl 1 (by decide) (hts _ mw_105) (fun _ h9 => h9) rfl dX3_followLeast_113 ?_
        refine lv_iload hx hb dX3_followLeast_116 (lv_at hl 1 rfl) ?_
        refine va_iald hx hb hK hP 2 0 rfl rfl (vp_in_nI (show nx9 < 10 by omega) (by first | decide | omega)) dX3_followLeast_118 ?_
        refine lv_topi (fun y_ e_ => ?_)
        obtain rfl : y_ = (qd nx9) := e_.trans (congrArg qd (show ((nI nx9) : Int32).toNatClampNeg = nx9 from nI_clamp (by omega)))
        refine va_iast hx hb hK hP hD hS 4 0 rfl rfl (vp_in_nI (show i2 < 10 by omega) (by first | decide | omega)) dX3_followLeast_119 (fun H locs hP hD hS => ?_)
        rw [(show ((nI i2) : Int32).toNatClampNeg = i2 from nI_clamp (by omega))] at hP hD
        obtain ⟨hP, hD⟩ := va_bo [(h, .inr (3, [.ref g0, .ref g1, .ref g2, .int (nI qm), .ref g4, .int om1, .int kn, .int kl, .ref g8, .ref g9, .ref g10, .ref g11, .ref lq])), (g0, .inl (ca 0, 36, .inl ws)), (g1, .inl (ca 0, 10, .inl qd)), (g2, .inl (ca 0, 10, .inl kd)), (g4, .inl (ca 0, 10, .inl (upd od1 i2 (qd nx9)))), (g8, .inl (ca 1, 10, .inl us1)), (g9, .inl (ca 0, 6, .inl ct)), (g10, .inl (ca 0, 6, .inl sd)), (g11, .inl (ca 0, 6, .inl wt1)), (lq, .inl (ca 0, 1944, .inl LE))] hP hD
        refine lv_aload_n hx hb dX3_followLeast_120 rfl (lv_at hl 5 rfl) ?_
        refine va_get (D := (dC, dI)) (ci := 3) (v := .ref g8) (C := RX3) (T := TX3) (N := 13) hx hb hts inX3 hown hK hP 0 rfl rfl 8 (by decide) (hts _ mw_115) (fun _ h9 => h9) rfl dX3_followLeast_121 ?_
        refine lv_iload hx hb dX3_followLeast_124 (lv_at hl 1 rfl) ?_
        refine lv_iconst (v := 1) hx hb dX3_followLeast_126 (by decide) ?_
        refine va_zast hx hb hK hP hD hS 5 1 rfl rfl (vp_in_nI (show nx9 < 10 by omega) (by first | decide | omega)) dX3_followLeast_127 (fun H locs hP hD hS => ?_)
        rw [(show ((nI nx9) : Int32).toNatClampNeg = nx9 from nI_clamp (by omega))] at hP hD
        obtain ⟨hP, hD⟩ := va_bo [(h, .inr (3, [.ref g0, .ref g1, .ref g2, .int (nI qm), .ref g4, .int om1, .int kn, .int kl, .ref g8, .ref g9, .ref g10, .ref g11, .ref lq])), (g0, .inl (ca 0, 36, .inl ws)), (g1, .inl (ca 0, 10, .inl qd)), (g2, .inl (ca 0, 10, .inl kd)), (g4, .inl (ca 0, 10, .inl (upd od1 i2 (qd nx9)))), (g8, .inl (ca 1, 10, .inl (upd us1 nx9 1))), (g9, .inl (ca 0, 6, .inl ct)), (g10, .inl (ca 0, 6, .inl sd)), (g11, .inl (ca 0, 6, .inl wt1)), (lq, .inl (ca 0, 1944, .inl LE))] hP hD
        refine lv_aload_n hx hb dX3_followLeast_128 rfl (lv_at hl 5 rfl) ?_
        refine va_get (D := (dC, dI)) (ci := 3) (v := .ref g11) (C := RX3) (T := TX3) (N := 13) hx hb hts inX3 hown hK hP 0 rfl rfl 11 (by decide) (hts _ mw_118) (fun _ h9 => h9) rfl dX3_followLeast_129 ?_
        refine lv_iload hx hb dX3_followLeast_132 (lv_at hl 0 rfl) ?_
        refine lv_dup2_11 hx hb dX3_followLeast_134 rfl rfl ?_
        refine va_iald hx hb hK hP 8 0 rfl rfl (cnt_vp (hq.2 nx9 hnx) (by decide) (by decide)) dX3_followLeast_135 ?_
        refine lv_iconst (v := 1) hx hb dX3_followLeast_136 (by decide) ?_
        refine lv_isub hx hb dX3_followLeast_137 ?_
        refine va_iast hx hb hK hP hD hS 8 0 rfl rfl (cnt_vp (hq.2 nx9 hnx) (by decide) (by decide)) dX3_followLeast_138 (fun H locs hP hD hS => ?_)
        obtain ⟨hP, hD⟩ := va_bo [(h, .inr (3, [.ref g0, .ref g1, .ref g2, .int (nI qm), .ref g4, .int om1, .int kn, .int kl, .ref g8, .ref g9, .ref g10, .ref g11, .ref lq])), (g0, .inl (ca 0, 36, .inl ws)), (g1, .inl (ca 0, 10, .inl qd)), (g2, .inl (ca 0, 10, .inl kd)), (g4, .inl (ca 0, 10, .inl (upd od1 i2 (qd nx9)))), (g8, .inl (ca 1, 10, .inl (upd us1 nx9 1))), (g9, .inl (ca 0, 6, .inl ct)), (g10, .inl (ca 0, 6, .inl sd)), (g11, .inl (ca 0, 6, .inl (upd wt1 ((kd nx9) : Int32).toNatClampNeg ((wt1 ((kd nx9) : Int32).toNatClampNeg) - 1)))), (lq, .inl (ca 0, 1944, .inl LE))] hP hD
        refine lv_iload_n hx hb dX3_followLeast_139 rfl (lv_at hl 4 rfl) ?_
        refine lv_aload_n hx hb dX3_followLeast_140 rfl (lv_at hl 5 rfl) ?_
        refine va_get (D := (dC, dI)) (ci := 3) (v := .ref g10) (C := RX3) (T := TX3) (N := 13) hx hb hts inX3 hown hK hP 0 rfl rfl 10 (by decide) (hts _ mw_117) (fun _ h9 => h9) rfl dX3_followLeast_141 ?_
        refine lv_iload hx hb dX3_followLeast_144 (lv_at hl 0 rfl) ?_
        refine va_iald hx hb hK hP 7 0 rfl rfl (cnt_vp (hq.2 nx9 hnx) (by decide) (by decide)) dX3_followLeast_146 ?_
        refine lv_isub hx hb dX3_followLeast_147 ?_
        refine lv_istore_n (lv' := [(3, .int (s3 - (sd ((kd nx9) : Int32).toNatClampNeg))), (7, .int (kd nx9)), (6, .int (nI nx9)), (5, .int (nI i2)), (4, .int b4), (0, .ref h), (1, .int (nI n)), (2, .int v2)]) hx hb dX3_followLeast_148 rfl hl (by decide) rfl (fun ls hl => ?_)
        refine lv_iload hx hb dX3_followLeast_149 (lv_at hl 1 rfl) ?_
        refine lv_istore (lv' := [(4, .int (kd nx9)), (3, .int (s3 - (sd ((kd nx9) : Int32).toNatClampNeg))), (7, .int (kd nx9)), (6, .int (nI nx9)), (5, .int (nI i2)), (0, .ref h), (1, .int (nI n)), (2, .int v2)]) hx hb dX3_followLeast_151 hl (by decide) rfl (fun ls hl => ?_)
        refine lv_iinc (v := (nI (i2 + 1))) (lv' := [(5, .int (nI (i2 + 1))), (4, .int (kd nx9)), (3, .int (s3 - (sd ((kd nx9) : Int32).toNatClampNeg))), (7, .int (kd nx9)), (6, .int (nI nx9)), (0, .ref h), (1, .int (nI n)), (2, .int v2)]) hx hb dX3_followLeast_153 hl (k := 4) rfl (nI_add (i2) 1) (by decide) rfl (fun ls hl => ?_)
        refine lv_goto (tgt := 46) hx hb dX3_followLeast_156 (by decide) ?_
        exact ih46 (i2 + 1, (s3 - (sd ((kd nx9) : Int32).toNatClampNeg)), (kd nx9), om1, (upd od1 i2 (qd nx9)), (upd us1 nx9 1), (upd wt1 ((kd nx9) : Int32).toNatClampNeg ((wt1 ((kd nx9) : Int32).toNatClampNeg) - 1))) _ _ _ (by omega) ⟨⟨by first | omega | (dsimp only; omega), oq_fo_s hfo hq (by first | omega | (dsimp only; omega)) hws hse ex9 (oq_fo_o0 hfo c_4)⟩, hP, hD, hS, lv_sub hl [0, 1, 2, 5, 6, 7] rfl⟩
  · have nc_1 : ¬ (qm ≤ i) := fun h9 => c_1 ((nI_leI (a := qm) (b := i) (by omega) (by omega)).mpr h9)
    refine lv_aload_n hx hb dX3_followLeast_25 rfl (lv_at hl 1 rfl) ?_
    refine va_get (D := (dC, dI)) (ci := 3) (v := .ref g8) (C := RX3) (T := TX3) (N := 13) hx hb hts inX3 hown hK hP 0 rfl rfl 8 (by decide) (hts _ mw_115) (fun _ h9 => h9) rfl dX3_followLeast_26 ?_
    refine lv_iload_n hx hb dX3_followLeast_29 rfl (lv_at hl 0 rfl) ?_
    refine lv_iconst (v := 0) hx hb dX3_followLeast_30 (by decide) ?_
    refine va_zast hx hb hK hP hD hS 5 1 rfl rfl (vp_in_nI (show i < 10 by omega) (by first | decide | omega)) dX3_followLeast_31 (fun H locs hP hD hS => ?_)
    rw [(show ((nI i) : Int32).toNatClampNeg = i from nI_clamp (by omega))] at hP hD
    obtain ⟨hP, hD⟩ := va_bo [(h, .inr (3, [.ref g0, .ref g1, .ref g2, .int (nI qm), .ref g4, .int om, .int kn, .int kl, .ref g8, .ref g9, .ref g10, .ref g11, .ref lq])), (g0, .inl (ca 0, 36, .inl ws)), (g1, .inl (ca 0, 10, .inl qd)), (g2, .inl (ca 0, 10, .inl kd)), (g4, .inl (ca 0, 10, .inl od)), (g8, .inl (ca 1, 10, .inl (upd u1_ i 0))), (g9, .inl (ca 0, 6, .inl ct)), (g10, .inl (ca 0, 6, .inl sd)), (g11, .inl (ca 0, 6, .inl (va_cpy ct wt (0 : Int32).toNatClampNeg (0 : Int32).toNatClampNeg (6 : Int32).toNatClampNeg))), (lq, .inl (ca 0, 1944, .inl LE))] hP hD
    refine lv_iinc (v := (nI (i + 1))) (lv' := [(3, .int (nI (i + 1))), (0, .ref h), (1, .int (nI n)), (2, .int v2)]) hx hb dX3_followLeast_32 hl (k := 0) rfl (nI_add (i) 1) (by decide) rfl (fun ls hl => ?_)
    refine lv_goto (tgt := 17) hx hb dX3_followLeast_35 (by decide) ?_
    exact ih (i + 1, (upd u1_ i 0)) _ _ _ (by omega) ⟨⟨by omega, oq_u0 hu0⟩, hP, hD, hS, lv_sub hl [0, 1, 2, 3] rfl⟩

theorem oq_mm {qm : Nat} {kd ct : Nat → Int32} (hq : qI qm kd) (h : ∀ k, k < 6 → ct k = nI (oq_c (oq_N kd) (fun _ => false) qm k)) : oq_m (oq_c (oq_N kd) (fun _ => false) qm) ct := fun k hk => ⟨h k hk, Nat.le_trans (oq_c_le _ _ _ _) hq.1⟩

set_option maxHeartbeats 4000000 in
set_option maxRecDepth 100000 in
theorem e_findOrder (l : Launch) (dC : Nat → ClassId) (dI : Nat → Nat → Nat) (ca : Nat → ClassId) (sz : Nat) (h : Nat) (g0 : Nat) (g1 : Nat) (g2 : Nat) (g4 : Nat) (g8 : Nat) (g9 : Nat) (g10 : Nat) (g11 : Nat) (qm : Nat) (om : Int32) (kn : Int32) (kl : Int32) (lst : Option Nat) (ws : Nat → Int32) (qd : Nat → Int32) (kd : Nat → Int32) (od : Nat → Int32) (us : Nat → Int32) (ct : Nat → Int32) (sd : Nat → Int32) (wt : Nat → Int32) (LE : Nat → Int32) (v1 : Int32) (tl : va_W) (hq : qI qm kd) (hz : v1 = 0 ∨ v1 = 1) (hws : ∀ j, cnt (ws j) 600) (hkn : ¬ kn = 0 → oq_kn ws qd kd qm kl om od) : Met l yX3_findOrder (Cond.code yX3_findOrder cX3_findOrder 3 none :: gT) ({ frames := 5, cells := (oM lst), slots := (1944 * oM lst), locals := 157 }) (va_Pc [.ref h, .int v1] (pr (dC, dI) sz (@HAppend.hAppend va_W va_W va_W _ [(h, .inr (3, [.ref g0, .ref g1, .ref g2, .int (nI qm), .ref g4, .int om, .int kn, .int kl, .ref g8, .ref g9, .ref g10, .ref g11, va_rf lst])), (g0, .inl (ca 0, 36, .inl ws)), (g1, .inl (ca 0, 10, .inl qd)), (g2, .inl (ca 0, 10, .inl kd)), (g4, .inl (ca 0, 10, .inl od)), (g8, .inl (ca 1, 10, .inl us)), (g9, .inl (ca 0, 6, .inl ct)), (g10, .inl (ca 0, 6, .inl sd)), (g11, .inl (ca 0, 6, .inl wt))] (@HAppend.hAppend va_W va_W va_W _ (oL ca lst LE) tl)) (aT ca))) (va_Qv (fun (u_ : Int32 × Int32 × Int32 × Option Nat × (Nat → Int32) × (Nat → Int32) × (Nat → Int32) × (Nat → Int32) × (Nat → Int32) × (Nat → Int32)) => ¬ u_.2.1 = 0 ∧ u_.2.2.1 = v1 ∧ oq_kn ws qd kd qm v1 u_.1 u_.2.2.2.2.2.1) (fun (u_ : Int32 × Int32 × Int32 × Option Nat × (Nat → Int32) × (Nat → Int32) × (Nat → Int32) × (Nat → Int32) × (Nat → Int32) × (Nat → Int32)) t => va_P (dC, dI) vwCl (@HAppend.hAppend va_W va_W va_W _ [(h, .inr (3, [.ref g0, .ref g1, .ref g2, .int (nI qm), .ref g4, .int u_.1, .int u_.2.1, .int u_.2.2.1, .ref g8, .ref g9, .ref g10, .ref g11, va_rf u_.2.2.2.1])), (g0, .inl (ca 0, 36, .inl ws)), (g1, .inl (ca 0, 10, .inl qd)), (g2, .inl (ca 0, 10, .inl kd)), (g4, .inl (ca 0, 10, .inl u_.2.2.2.2.2.1)), (g8, .inl (ca 1, 10, .inl u_.2.2.2.2.2.2.1)), (g9, .inl (ca 0, 6, .inl u_.2.2.2.2.2.2.2.1)), (g10, .inl (ca 0, 6, .inl u_.2.2.2.2.2.2.2.2.1)), (g11, .inl (ca 0, 6, .inl u_.2.2.2.2.2.2.2.2.2))] (@HAppend.hAppend va_W va_W va_W _ (oL ca u_.2.2.2.1 u_.2.2.2.2.1) tl)) t.heap ∧ va_D (va_A (@HAppend.hAppend va_W va_W va_W _ [(h, .inr (3, [.ref g0, .ref g1, .ref g2, .int (nI qm), .ref g4, .int om, .int kn, .int kl, .ref g8, .ref g9, .ref g10, .ref g11, va_rf lst])), (g0, .inl (ca 0, 36, .inl ws)), (g1, .inl (ca 0, 10, .inl qd)), (g2, .inl (ca 0, 10, .inl kd)), (g4, .inl (ca 0, 10, .inl od)), (g8, .inl (ca 1, 10, .inl us)), (g9, .inl (ca 0, 6, .inl ct)), (g10, .inl (ca 0, 6, .inl sd)), (g11, .inl (ca 0, 6, .inl wt))] (@HAppend.hAppend va_W va_W va_W _ (oL ca lst LE) tl)) sz) (@HAppend.hAppend va_W va_W va_W _ [(h, .inr (3, [.ref g0, .ref g1, .ref g2, .int (nI qm), .ref g4, .int u_.1, .int u_.2.1, .int u_.2.2.1, .ref g8, .ref g9, .ref g10, .ref g11, va_rf u_.2.2.2.1])), (g0, .inl (ca 0, 36, .inl ws)), (g1, .inl (ca 0, 10, .inl qd)), (g2, .inl (ca 0, 10, .inl kd)), (g4, .inl (ca 0, 10, .inl u_.2.2.2.2.2.1)), (g8, .inl (ca 1, 10, .inl u_.2.2.2.2.2.2.1)), (g9, .inl (ca 0, 6, .inl u_.2.2.2.2.2.2.2.1)), (g10, .inl (ca 0, 6, .inl u_.2.2.2.2.2.2.2.2.1)), (g11, .inl (ca 0, 6, .inl u_.2.2.2.2.2.2.2.2.2))] (@HAppend.hAppend va_W va_W va_W _ (oL ca u_.2.2.2.1 u_.2.2.2.2.1) tl))) (va_A (@HAppend.hAppend va_W va_W va_W _ [(h, .inr (3, [.ref g0, .ref g1, .ref g2, .int (nI qm), .ref g4, .int om, .int kn, .int kl, .ref g8, .ref g9, .ref g10, .ref g11, va_rf lst])), (g0, .inl (ca 0, 36, .inl ws)), (g1, .inl (ca 0, 10, .inl qd)), (g2, .inl (ca 0, 10, .inl kd)), (g4, .inl (ca 0, 10, .inl od)), (g8, .inl (ca 1, 10, .inl us)), (g9, .inl (ca 0, 6, .inl ct)), (g10, .inl (ca 0, 6, .inl sd)), (g11, .inl (ca 0, 6, .inl wt))] (@HAppend.hAppend va_W va_W va_W _ (oL ca lst LE) tl)) sz)) (oM lst) (1944 * oM lst) (va_A (@HAppend.hAppend va_W va_W va_W _ [(h, .inr (3, [.ref g0, .ref g1, .ref g2, .int (nI qm), .ref g4, .int om, .int kn, .int kl, .ref g8, .ref g9, .ref g10, .ref g11, va_rf lst])), (g0, .inl (ca 0, 36, .inl ws)), (g1, .inl (ca 0, 10, .inl qd)), (g2, .inl (ca 0, 10, .inl kd)), (g4, .inl (ca 0, 10, .inl od)), (g8, .inl (ca 1, 10, .inl us)), (g9, .inl (ca 0, 6, .inl ct)), (g10, .inl (ca 0, 6, .inl sd)), (g11, .inl (ca 0, 6, .inl wt))] (@HAppend.hAppend va_W va_W va_W _ (oL ca lst LE) tl)) sz) := by
  refine Met.ofW (cc := cX3_findOrder) (maxL := 3) (ret := none) (by decide) rfl ?_
  intro p e s m args below meth c s₁ B hml hv
  obtain ⟨rfl, hsz, hP, hK, hD0, hE⟩ := hv
  have hx := B.exec
  have hb := B.bytes
  have hr := B.returns
  have hts : ∀ w ∈ gT, w.before _ s = true := fun w h => atoms_spec (ws := Cond.code yX3_findOrder cX3_findOrder 3 none :: gT) B.pre w (List.mem_cons_of_mem _ h)
  have hown : s.vm.findClass RX3 = some m.cls := findClass_of_methodNamed B.named
  have hlocks := B.notSynchronized
  subst hsz
  have hD := hD0.self (sz := s.heap.size)
  generalize hAe : va_A ([(h, .inr (3, [.ref g0, .ref g1, .ref g2, .int (nI qm), .ref g4, .int om, .int kn, .int kl, .ref g8, .ref g9, .ref g10, .ref g11, va_rf lst])), (g0, .inl (ca 0, 36, .inl ws)), (g1, .inl (ca 0, 10, .inl qd)), (g2, .inl (ca 0, 10, .inl kd)), (g4, .inl (ca 0, 10, .inl od)), (g8, .inl (ca 1, 10, .inl us)), (g9, .inl (ca 0, 6, .inl ct)), (g10, .inl (ca 0, 6, .inl sd)), (g11, .inl (ca 0, 6, .inl wt))] ++ (oL ca lst LE ++ tl)) s.heap.size = A at hD ⊢
  have hA : ∀ q : Nat, s.heap.size ≤ q → A q := fun q h => by rw [← hAe]; exact Or.inr h
  have hS : va_S A s.heap s.heap [] := va_S.rf
  have hl := lv_entry ([.ref h, .int v1]) (n := 3) (Nat.le_of_ble_eq_true rfl)
  rw [lg_entry_eq]
  generalize (lg_sl ([.ref h, .int v1]) ++ List.replicate (3 - (lg_sl ([.ref h, .int v1])).length) Slot.unset).toArray = ls at hl ⊢
  have hl : lv_has ls 3 [(0, .ref h), (1, .int v1)] := hl
  have hq0 := hq.1
  refine lv_aload_n hx hb dX3_findOrder_0 rfl (lv_at hl 0 rfl) ?_
  refine va_get (D := (dC, dI)) (ci := 3) (v := .int kn) (C := RX3) (T := TX3) (N := 13) hx hb hts inX3 hown hK hP 0 rfl rfl 6 (by decide) (hts _ mw_113) (fun _ h9 => h9) rfl dX3_findOrder_1 ?_
  refine lv_if_eq (tgt := 16) hx hb dX3_findOrder_4 (by decide) (fun c_1 => ?_) (fun c_1 => ?_)
  · refine lv_aload_n hx hb dX3_findOrder_16 rfl (lv_at hl 0 rfl) ?_
    refine lv_iconst (v := 0) hx hb dX3_findOrder_17 (by decide) ?_
    refine va_put (D := (dC, dI)) (ci := 3) (v := .int 0) (ty := .int) (C := RX3) (T := TX3) (N := 13) hx hb hts inX3 tyX3 tyX3_ok nmX3 hown hK hP hD hS 0 rfl rfl 5 (by decide) (hts _ mw_111) (fun _ h9 => h9) rfl (by decide +kernel) rfl rfl (Nat.le_of_ble_eq_true rfl) dX3_findOrder_18 (fun H locs hP hD hS => ?_)
    obtain ⟨hP, hD⟩ := va_bo ([(h, .inr (3, [.ref g0, .ref g1, .ref g2, .int (nI qm), .ref g4, .int 0, .int kn, .int kl, .ref g8, .ref g9, .ref g10, .ref g11, va_rf lst])), (g0, .inl (ca 0, 36, .inl ws)), (g1, .inl (ca 0, 10, .inl qd)), (g2, .inl (ca 0, 10, .inl kd)), (g4, .inl (ca 0, 10, .inl od)), (g8, .inl (ca 1, 10, .inl us)), (g9, .inl (ca 0, 6, .inl ct)), (g10, .inl (ca 0, 6, .inl sd)), (g11, .inl (ca 0, 6, .inl wt))] ++ (oL ca lst LE ++ tl)) hP hD
    refine lv_aload_n hx hb dX3_findOrder_21 rfl (lv_at hl 0 rfl) ?_
    refine va_get (D := (dC, dI)) (ci := 3) (v := .int (nI qm)) (C := RX3) (T := TX3) (N := 13) hx hb hts inX3 hown hK hP 0 rfl rfl 3 (by decide) (hts _ mw_107) (fun _ h9 => h9) rfl dX3_findOrder_22 ?_
    refine lv_if_le (tgt := 47) hx hb dX3_findOrder_25 (by decide) (fun c_2 => ?_) (fun c_2 => ?_)
    · have nc_2 : qm ≤ 0 := (nI_leI (a := qm) (b := 0) (by omega) (by omega)).mp c_2
      refine lv_aload_n hx hb dX3_findOrder_47 rfl (lv_at hl 0 rfl) ?_
      refine lv_iconst (v := 1) hx hb dX3_findOrder_48 (by decide) ?_
      refine va_put (D := (dC, dI)) (ci := 3) (v := .int 1) (ty := .boolean) (C := RX3) (T := TX3) (N := 13) hx hb hts inX3 tyX3 tyX3_ok nmX3 hown hK hP hD hS 0 rfl rfl 6 (by decide) (hts _ mw_113) (fun _ h9 => h9) rfl (by decide +kernel) rfl rfl (Nat.le_of_ble_eq_true rfl) dX3_findOrder_49 (fun H locs hP hD hS => ?_)
      obtain ⟨hP, hD⟩ := va_bo ([(h, .inr (3, [.ref g0, .ref g1, .ref g2, .int (nI qm), .ref g4, .int 0, .int 1, .int kl, .ref g8, .ref g9, .ref g10, .ref g11, va_rf lst])), (g0, .inl (ca 0, 36, .inl ws)), (g1, .inl (ca 0, 10, .inl qd)), (g2, .inl (ca 0, 10, .inl kd)), (g4, .inl (ca 0, 10, .inl od)), (g8, .inl (ca 1, 10, .inl us)), (g9, .inl (ca 0, 6, .inl ct)), (g10, .inl (ca 0, 6, .inl sd)), (g11, .inl (ca 0, 6, .inl wt))] ++ (oL ca lst LE ++ tl)) hP hD
      refine lv_aload_n hx hb dX3_findOrder_52 rfl (lv_at hl 0 rfl) ?_
      refine lv_iload_n hx hb dX3_findOrder_53 rfl (lv_at hl 1 rfl) ?_
      refine va_put (D := (dC, dI)) (ci := 3) (v := .int v1) (ty := .boolean) (C := RX3) (T := TX3) (N := 13) hx hb hts inX3 tyX3 tyX3_ok nmX3 hown hK hP hD hS 0 rfl rfl 7 (by decide) (hts _ mw_114) (fun _ h9 => h9) rfl (by decide +kernel) (zb_n (by first | exact wi_z _ _ _ | assumption | exact Or.inl rfl | exact Or.inr rfl)) (zb_f (by first | exact wi_z _ _ _ | assumption | exact Or.inl rfl | exact Or.inr rfl)) (Nat.le_of_ble_eq_true rfl) dX3_findOrder_54 (fun H locs hP hD hS => ?_)
      obtain ⟨hP, hD⟩ := va_bo ([(h, .inr (3, [.ref g0, .ref g1, .ref g2, .int (nI qm), .ref g4, .int 0, .int 1, .int v1, .ref g8, .ref g9, .ref g10, .ref g11, va_rf lst])), (g0, .inl (ca 0, 36, .inl ws)), (g1, .inl (ca 0, 10, .inl qd)), (g2, .inl (ca 0, 10, .inl kd)), (g4, .inl (ca 0, 10, .inl od)), (g8, .inl (ca 1, 10, .inl us)), (g9, .inl (ca 0, 6, .inl ct)), (g10, .inl (ca 0, 6, .inl sd)), (g11, .inl (ca 0, 6, .inl wt))] ++ (oL ca lst LE ++ tl)) hP hD
      refine W.widen (k := (oM lst)) (n := (1944 * oM lst)) (by omega) (by omega) ?_
      have hP9 : va_P (dC, dI) vwCl (@HAppend.hAppend va_W va_W va_W _ [(h, .inr (3, [.ref g0, .ref g1, .ref g2, .int (nI qm), .ref g4, .int 0, .int 1, .int v1, .ref g8, .ref g9, .ref g10, .ref g11, va_rf lst])), (g0, .inl (ca 0, 36, .inl ws)), (g1, .inl (ca 0, 10, .inl qd)), (g2, .inl (ca 0, 10, .inl kd)), (g4, .inl (ca 0, 10, .inl od)), (g8, .inl (ca 1, 10, .inl us)), (g9, .inl (ca 0, 6, .inl ct)), (g10, .inl (ca 0, 6, .inl sd)), (g11, .inl (ca 0, 6, .inl wt))] (@HAppend.hAppend va_W va_W va_W _ (oL ca lst LE) tl)) H := va_P.part (X := [(h, .inr (3, [.ref g0, .ref g1, .ref g2, .int (nI qm), .ref g4, .int 0, .int 1, .int v1, .ref g8, .ref g9, .ref g10, .ref g11, va_rf lst])), (g0, .inl (ca 0, 36, .inl ws)), (g1, .inl (ca 0, 10, .inl qd)), (g2, .inl (ca 0, 10, .inl kd)), (g4, .inl (ca 0, 10, .inl od)), (g8, .inl (ca 1, 10, .inl us)), (g9, .inl (ca 0, 6, .inl ct)), (g10, .inl (ca 0, 6, .inl sd)), (g11, .inl (ca 0, 6, .inl wt))]) hP [0, 1, 2, 3, 4, 5, 6, 7, 8] rfl
      have hD9 : va_D A (@HAppend.hAppend va_W va_W va_W _ [(h, .inr (3, [.ref g0, .ref g1, .ref g2, .int (nI qm), .ref g4, .int 0, .int 1, .int v1, .ref g8, .ref g9, .ref g10, .ref g11, va_rf lst])), (g0, .inl (ca 0, 36, .inl ws)), (g1, .inl (ca 0, 10, .inl qd)), (g2, .inl (ca 0, 10, .inl kd)), (g4, .inl (ca 0, 10, .inl od)), (g8, .inl (ca 1, 10, .inl us)), (g9, .inl (ca 0, 6, .inl ct)), (g10, .inl (ca 0, 6, .inl sd)), (g11, .inl (ca 0, 6, .inl wt))] (@HAppend.hAppend va_W va_W va_W _ (oL ca lst LE) tl)) := va_D.part (X := [(h, .inr (3, [.ref g0, .ref g1, .ref g2, .int (nI qm), .ref g4, .int 0, .int 1, .int v1, .ref g8, .ref g9, .ref g10, .ref g11, va_rf lst])), (g0, .inl (ca 0, 36, .inl ws)), (g1, .inl (ca 0, 10, .inl qd)), (g2, .inl (ca 0, 10, .inl kd)), (g4, .inl (ca 0, 10, .inl od)), (g8, .inl (ca 1, 10, .inl us)), (g9, .inl (ca 0, 6, .inl ct)), (g10, .inl (ca 0, 6, .inl sd)), (g11, .inl (ca 0, 6, .inl wt))]) hD [0, 1, 2, 3, 4, 5, 6, 7, 8] (by decide) rfl
      exact W.vret hx hb hr (fun t ht hW => ⟨⟨(0, 1, v1, lst, LE, od, us, ct, sd, wt), rfl, ⟨(show ¬ (1 : Int32) = 0 by decide), rfl, oq_kn_0 (by omega)⟩, by rw [ht]; dsimp only; exact hP9, by dsimp only; exact hD9⟩, hS.F ht⟩) hS.2.2 dX3_findOrder_57
    · have nc_2 : ¬ (qm ≤ 0) := fun h9 => c_2 ((nI_leI (a := qm) (b := 0) (by omega) (by omega)).mpr h9)
      refine lv_aload_n hx hb dX3_findOrder_28 rfl (lv_at hl 0 rfl) ?_
      have hPc := hP.sub (ws' := [(h, .inr (3, [.ref g0, .ref g1, .ref g2, .int (nI qm), .ref g4, .int 0, .int kn, .int kl, .ref g8, .ref g9, .ref g10, .ref g11, va_rf lst])), (g2, .inl (ca 0, 10, .inl kd)), (g9, .inl (ca 0, 6, .inl ct)), (g10, .inl (ca 0, 6, .inl sd))]) [0, 3, 6, 7] rfl
      have hDc := hD.sub (ws' := [(h, .inr (3, [.ref g0, .ref g1, .ref g2, .int (nI qm), .ref g4, .int 0, .int kn, .int kl, .ref g8, .ref g9, .ref g10, .ref g11, va_rf lst])), (g2, .inl (ca 0, 10, .inl kd)), (g9, .inl (ca 0, 6, .inl ct)), (g10, .inl (ca 0, 6, .inl sd))]) [0, 3, 6, 7] (by decide) rfl
      have hFc := va_free (wc := [(h, .inr (3, [.ref g0, .ref g1, .ref g2, .int (nI qm), .ref g4, .int 0, .int kn, .int kl, .ref g8, .ref g9, .ref g10, .ref g11, va_rf lst])), (g2, .inl (ca 0, 10, .inl kd)), (g9, .inl (ca 0, 6, .inl ct)), (g10, .inl (ca 0, 6, .inl sd))]) hD hS hA [0, 3, 6, 7] rfl
      refine va_calli (va_runV (As := []) (rest := []) ⟨hx, hb, hml, hown, hts⟩ (e_countKinds l dC dI ca H.size h g0 g1 g2 g4 g8 g9 g10 g11 qm 0 kn kl lst kd ct sd (by first | assumption | omega | exact ⟨_, by omega, rfl⟩)) (⟨callB_of 0 hts (gd mw_816) rfl rfl rfl (hts _ mw_5) (hts _ mw_813) ds_X3_countKinds ⟨Nat.le_of_ble_eq_true rfl, Nat.le_of_ble_eq_true rfl⟩, (hts _ mw_815), (hts _ mp_28)⟩) (pr_V hPc hK hDc hE (va_recv hK hPc (ci := 3) (q0 := 0) rfl rfl)) rfl rfl hl.1 rfl (lv_room (Nat.le_of_ble_eq_true rfl)) dX3_findOrder_29 ⟨Nat.le_of_ble_eq_true rfl, Nat.le_of_ble_eq_true rfl⟩) hS (fun q _ h => hFc q h) hFc (fun rv_3 u_ t_ H1 locs ht hvm hw_ hB hz1 hk1 hS => ?_)
      obtain ⟨ct2_3, sd2_3⟩ := u_
      have hw_3 := hw_
      obtain ⟨hP1, hD1⟩ := hB
      rw [ht] at hP1
      obtain ⟨hP, hD⟩ := va_joinQ (X := [(h, .inr (3, [.ref g0, .ref g1, .ref g2, .int (nI qm), .ref g4, .int 0, .int kn, .int kl, .ref g8, .ref g9, .ref g10, .ref g11, va_rf lst])), (g0, .inl (ca 0, 36, .inl ws)), (g1, .inl (ca 0, 10, .inl qd)), (g2, .inl (ca 0, 10, .inl kd)), (g4, .inl (ca 0, 10, .inl od)), (g8, .inl (ca 1, 10, .inl us)), (g9, .inl (ca 0, 6, .inl ct)), (g10, .inl (ca 0, 6, .inl sd)), (g11, .inl (ca 0, 6, .inl wt))]) (cx := [(h, .inr (3, [.ref g0, .ref g1, .ref g2, .int (nI qm), .ref g4, .int 0, .int kn, .int kl, .ref g8, .ref g9, .ref g10, .ref g11, va_rf lst])), (g2, .inl (ca 0, 10, .inl kd)), (g9, .inl (ca 0, 6, .inl ct)), (g10, .inl (ca 0, 6, .inl sd))]) (wr := [(g0, .inl (ca 0, 36, .inl ws)), (g1, .inl (ca 0, 10, .inl qd)), (g4, .inl (ca 0, 10, .inl od)), (g8, .inl (ca 1, 10, .inl us)), (g11, .inl (ca 0, 6, .inl wt))]) (w1 := [(h, .inr (3, [.ref g0, .ref g1, .ref g2, .int (nI qm), .ref g4, .int 0, .int kn, .int kl, .ref g8, .ref g9, .ref g10, .ref g11, va_rf lst])), (g2, .inl (ca 0, 10, .inl kd)), (g9, .inl (ca 0, 6, .inl ct2_3)), (g10, .inl (ca 0, 6, .inl sd2_3))]) hP hD [0, 3, 6, 7] [1, 2, 4, 5, 8] rfl rfl (by decide) (by decide) hk1 hFc hP1 hD1
      generalize H1 = H at hP hS ⊢
      obtain ⟨hP, hD⟩ := va_bo ([(g0, .inl (ca 0, 36, .inl ws)), (g1, .inl (ca 0, 10, .inl qd)), (g4, .inl (ca 0, 10, .inl od)), (g8, .inl (ca 1, 10, .inl us)), (g11, .inl (ca 0, 6, .inl wt)), (h, .inr (3, [.ref g0, .ref g1, .ref g2, .int (nI qm), .ref g4, .int 0, .int kn, .int kl, .ref g8, .ref g9, .ref g10, .ref g11, va_rf lst])), (g2, .inl (ca 0, 10, .inl kd)), (g9, .inl (ca 0, 6, .inl ct2_3)), (g10, .inl (ca 0, 6, .inl sd2_3))] ++ (oL ca lst LE ++ tl)) hP hD
      obtain ⟨en0, hct, hse⟩ := hw_3
      obtain ⟨n, hne⟩ : ∃ q : Nat, q = oq_s (oq_c (oq_N kd) (fun _ => false) qm) 6 := ⟨_, rfl⟩
      have hn2 : n ≤ 324 := by rw [hne]; exact oq_ms hq
      have hn1 : 1 ≤ n := by rw [hne]; exact oq_s_pos _ 6
      have hsd := oq_sdc hse (oq_ms hq)
      have en := en0.trans (congrArg nI hne.symm)
      subst en
      refine lv_istore_n (lv' := [(2, .int (nI n)), (0, .ref h), (1, .int v1)]) hx hb dX3_findOrder_32 rfl hl (by decide) rfl (fun ls hl => ?_)
      refine lv_aload_n hx hb dX3_findOrder_33 rfl (lv_at hl 1 rfl) ?_
      refine lv_iload_n hx hb dX3_findOrder_34 rfl (lv_at hl 0 rfl) ?_
      refine lv_iload_n hx hb dX3_findOrder_35 rfl (lv_at hl 2 rfl) ?_
      have hPc := hP.part (X := [(g0, .inl (ca 0, 36, .inl ws)), (g1, .inl (ca 0, 10, .inl qd)), (g4, .inl (ca 0, 10, .inl od)), (g8, .inl (ca 1, 10, .inl us)), (g11, .inl (ca 0, 6, .inl wt)), (h, .inr (3, [.ref g0, .ref g1, .ref g2, .int (nI qm), .ref g4, .int 0, .int kn, .int kl, .ref g8, .ref g9, .ref g10, .ref g11, va_rf lst])), (g2, .inl (ca 0, 10, .inl kd)), (g9, .inl (ca 0, 6, .inl ct2_3)), (g10, .inl (ca 0, 6, .inl sd2_3))]) (cx := [(h, .inr (3, [.ref g0, .ref g1, .ref g2, .int (nI qm), .ref g4, .int 0, .int kn, .int kl, .ref g8, .ref g9, .ref g10, .ref g11, va_rf lst])), (g0, .inl (ca 0, 36, .inl ws)), (g9, .inl (ca 0, 6, .inl ct2_3)), (g10, .inl (ca 0, 6, .inl sd2_3)), (g11, .inl (ca 0, 6, .inl wt))]) [5, 0, 7, 8, 4] rfl
      have hDc := hD.part (X := [(g0, .inl (ca 0, 36, .inl ws)), (g1, .inl (ca 0, 10, .inl qd)), (g4, .inl (ca 0, 10, .inl od)), (g8, .inl (ca 1, 10, .inl us)), (g11, .inl (ca 0, 6, .inl wt)), (h, .inr (3, [.ref g0, .ref g1, .ref g2, .int (nI qm), .ref g4, .int 0, .int kn, .int kl, .ref g8, .ref g9, .ref g10, .ref g11, va_rf lst])), (g2, .inl (ca 0, 10, .inl kd)), (g9, .inl (ca 0, 6, .inl ct2_3)), (g10, .inl (ca 0, 6, .inl sd2_3))]) (cx := [(h, .inr (3, [.ref g0, .ref g1, .ref g2, .int (nI qm), .ref g4, .int 0, .int kn, .int kl, .ref g8, .ref g9, .ref g10, .ref g11, va_rf lst])), (g0, .inl (ca 0, 36, .inl ws)), (g9, .inl (ca 0, 6, .inl ct2_3)), (g10, .inl (ca 0, 6, .inl sd2_3)), (g11, .inl (ca 0, 6, .inl wt))]) [5, 0, 7, 8, 4] (by decide) rfl
      have hFc := va_freeP (X := [(g0, .inl (ca 0, 36, .inl ws)), (g1, .inl (ca 0, 10, .inl qd)), (g4, .inl (ca 0, 10, .inl od)), (g8, .inl (ca 1, 10, .inl us)), (g11, .inl (ca 0, 6, .inl wt)), (h, .inr (3, [.ref g0, .ref g1, .ref g2, .int (nI qm), .ref g4, .int 0, .int kn, .int kl, .ref g8, .ref g9, .ref g10, .ref g11, va_rf lst])), (g2, .inl (ca 0, 10, .inl kd)), (g9, .inl (ca 0, 6, .inl ct2_3)), (g10, .inl (ca 0, 6, .inl sd2_3))]) (cx := [(h, .inr (3, [.ref g0, .ref g1, .ref g2, .int (nI qm), .ref g4, .int 0, .int kn, .int kl, .ref g8, .ref g9, .ref g10, .ref g11, va_rf lst])), (g0, .inl (ca 0, 36, .inl ws)), (g9, .inl (ca 0, 6, .inl ct2_3)), (g10, .inl (ca 0, 6, .inl sd2_3)), (g11, .inl (ca 0, 6, .inl wt))]) hD hS hA [5, 0, 7, 8, 4] rfl
      refine va_callv (va_runV (As := [.int (nI n), .int v1]) (rest := []) ⟨hx, hb, hml, hown, hts⟩ (e_findLeast l dC dI ca H.size h g0 g1 g2 g4 g8 g9 g10 g11 qm 0 kn kl lst ws ct2_3 sd2_3 wt LE n v1 tl (oq_c (oq_N kd) (fun _ => false) qm) ⟨hn1, hn2⟩ hsd hws hne (oq_mm hq hct) (by rw [oq_mT hq]; exact hq.1) hse) (⟨callB_of 2 hts (gd mw_822) rfl rfl rfl (hts _ mw_5) (hts _ mw_819) ds_X3_findLeast ⟨Nat.le_of_ble_eq_true rfl, Nat.le_of_ble_eq_true rfl⟩, (hts _ mw_821), (hts _ mp_29)⟩) (pr_V hPc hK hDc hE (va_recv hK hPc (ci := 3) (q0 := 0) rfl rfl)) rfl rfl hl.1 rfl (lv_room (Nat.le_of_ble_eq_true rfl)) dX3_findOrder_36 ⟨by show 0 + (oM lst) ≤ (oM lst); omega, by show 0 + (1944 * oM lst) ≤ (1944 * oM lst); omega⟩) hS (fun q _ h => hFc q h) hFc (fun u_ t_ H1 locs ht hvm hw_ hB hz1 hk1 hS => ?_)
      obtain ⟨lq_4, LE2_4, wt2_4⟩ := u_
      have hw_4 := hw_
      obtain ⟨hP1, hD1⟩ := hB
      rw [ht] at hP1
      obtain ⟨hP, hD⟩ := va_joinP (X := [(g0, .inl (ca 0, 36, .inl ws)), (g1, .inl (ca 0, 10, .inl qd)), (g4, .inl (ca 0, 10, .inl od)), (g8, .inl (ca 1, 10, .inl us)), (g11, .inl (ca 0, 6, .inl wt)), (h, .inr (3, [.ref g0, .ref g1, .ref g2, .int (nI qm), .ref g4, .int 0, .int kn, .int kl, .ref g8, .ref g9, .ref g10, .ref g11, va_rf lst])), (g2, .inl (ca 0, 10, .inl kd)), (g9, .inl (ca 0, 6, .inl ct2_3)), (g10, .inl (ca 0, 6, .inl sd2_3))]) (cx := [(h, .inr (3, [.ref g0, .ref g1, .ref g2, .int (nI qm), .ref g4, .int 0, .int kn, .int kl, .ref g8, .ref g9, .ref g10, .ref g11, va_rf lst])), (g0, .inl (ca 0, 36, .inl ws)), (g9, .inl (ca 0, 6, .inl ct2_3)), (g10, .inl (ca 0, 6, .inl sd2_3)), (g11, .inl (ca 0, 6, .inl wt))]) (wr := [(g1, .inl (ca 0, 10, .inl qd)), (g4, .inl (ca 0, 10, .inl od)), (g8, .inl (ca 1, 10, .inl us)), (g2, .inl (ca 0, 10, .inl kd))]) (rx := [(h, .inr (3, [.ref g0, .ref g1, .ref g2, .int (nI qm), .ref g4, .int 0, .int kn, .int kl, .ref g8, .ref g9, .ref g10, .ref g11, .ref lq_4])), (g0, .inl (ca 0, 36, .inl ws)), (g9, .inl (ca 0, 6, .inl ct2_3)), (g10, .inl (ca 0, 6, .inl sd2_3)), (g11, .inl (ca 0, 6, .inl wt2_4)), (lq_4, .inl (ca 0, 1944, .inl LE2_4))]) (pl1 := tl) hP hD [5, 0, 7, 8, 4] [1, 2, 3, 6] rfl rfl (by decide) (by decide) hk1 hFc hP1 hD1
      generalize H1 = H at hP hS ⊢
      obtain ⟨hP, hD⟩ := va_bo ([(g1, .inl (ca 0, 10, .inl qd)), (g4, .inl (ca 0, 10, .inl od)), (g8, .inl (ca 1, 10, .inl us)), (g2, .inl (ca 0, 10, .inl kd)), (h, .inr (3, [.ref g0, .ref g1, .ref g2, .int (nI qm), .ref g4, .int 0, .int kn, .int kl, .ref g8, .ref g9, .ref g10, .ref g11, .ref lq_4])), (g0, .inl (ca 0, 36, .inl ws)), (g9, .inl (ca 0, 6, .inl ct2_3)), (g10, .inl (ca 0, 6, .inl sd2_3)), (g11, .inl (ca 0, 6, .inl wt2_4)), (lq_4, .inl (ca 0, 1944, .inl LE2_4))] ++ tl) hP hD
      refine lv_aload_n hx hb dX3_findOrder_39 rfl (lv_at hl 1 rfl) ?_
      refine lv_iload_n hx hb dX3_findOrder_40 rfl (lv_at hl 0 rfl) ?_
      refine lv_iconst (v := 1) hx hb dX3_findOrder_41 (by decide) ?_
      refine lv_isub hx hb dX3_findOrder_42 ?_
      refine lv_topi (fun y_ e_ => ?_)
      obtain rfl : y_ = (nI (n - 1)) := e_.trans (pk_sub (show 1 ≤ n by omega))
      refine lv_iload_n hx hb dX3_findOrder_43 rfl (lv_at hl 2 rfl) ?_
      have hPc := hP.sub (ws' := [(h, .inr (3, [.ref g0, .ref g1, .ref g2, .int (nI qm), .ref g4, .int 0, .int kn, .int kl, .ref g8, .ref g9, .ref g10, .ref g11, .ref lq_4])), (g0, .inl (ca 0, 36, .inl ws)), (g1, .inl (ca 0, 10, .inl qd)), (g2, .inl (ca 0, 10, .inl kd)), (g4, .inl (ca 0, 10, .inl od)), (g8, .inl (ca 1, 10, .inl us)), (g9, .inl (ca 0, 6, .inl ct2_3)), (g10, .inl (ca 0, 6, .inl sd2_3)), (g11, .inl (ca 0, 6, .inl wt2_4)), (lq_4, .inl (ca 0, 1944, .inl LE2_4))]) [4, 5, 0, 3, 1, 2, 6, 7, 8, 9] rfl
      have hDc := hD.sub (ws' := [(h, .inr (3, [.ref g0, .ref g1, .ref g2, .int (nI qm), .ref g4, .int 0, .int kn, .int kl, .ref g8, .ref g9, .ref g10, .ref g11, .ref lq_4])), (g0, .inl (ca 0, 36, .inl ws)), (g1, .inl (ca 0, 10, .inl qd)), (g2, .inl (ca 0, 10, .inl kd)), (g4, .inl (ca 0, 10, .inl od)), (g8, .inl (ca 1, 10, .inl us)), (g9, .inl (ca 0, 6, .inl ct2_3)), (g10, .inl (ca 0, 6, .inl sd2_3)), (g11, .inl (ca 0, 6, .inl wt2_4)), (lq_4, .inl (ca 0, 1944, .inl LE2_4))]) [4, 5, 0, 3, 1, 2, 6, 7, 8, 9] (by decide) rfl
      have hFc := va_free (wc := [(h, .inr (3, [.ref g0, .ref g1, .ref g2, .int (nI qm), .ref g4, .int 0, .int kn, .int kl, .ref g8, .ref g9, .ref g10, .ref g11, .ref lq_4])), (g0, .inl (ca 0, 36, .inl ws)), (g1, .inl (ca 0, 10, .inl qd)), (g2, .inl (ca 0, 10, .inl kd)), (g4, .inl (ca 0, 10, .inl od)), (g8, .inl (ca 1, 10, .inl us)), (g9, .inl (ca 0, 6, .inl ct2_3)), (g10, .inl (ca 0, 6, .inl sd2_3)), (g11, .inl (ca 0, 6, .inl wt2_4)), (lq_4, .inl (ca 0, 1944, .inl LE2_4))]) hD hS hA [4, 5, 0, 3, 1, 2, 6, 7, 8, 9] rfl
      refine va_callv (va_runV (As := [.int (nI (n - 1)), .int v1]) (rest := []) ⟨hx, hb, hml, hown, hts⟩ (e_followLeast l dC dI ca H.size h g0 g1 g2 g4 g8 g9 g10 g11 qm 0 kn kl ws qd kd od us ct2_3 sd2_3 wt2_4 lq_4 LE2_4 (n - 1) v1 hq (by omega) hsd hws (by omega) hct hse ((show n - 1 + 1 = n by omega).symm ▸ hw_4) rfl) (⟨callB_of 2 hts (gd mw_847) rfl rfl rfl (hts _ mw_5) (hts _ mw_844) ds_X3_followLeast ⟨Nat.le_of_ble_eq_true rfl, Nat.le_of_ble_eq_true rfl⟩, (hts _ mw_846), (hts _ mp_35)⟩) (pr_V hPc hK hDc hE (va_recv hK hPc (ci := 3) (q0 := 0) rfl rfl)) rfl rfl hl.1 rfl (lv_room (Nat.le_of_ble_eq_true rfl)) dX3_findOrder_44 ⟨by show (0 + (oM lst)) + 0 ≤ (oM lst); omega, by show (0 + (1944 * oM lst)) + 0 ≤ (1944 * oM lst); omega⟩) hS (fun q _ h => hFc q h) hFc (fun u_ t_ H1 locs ht hvm hw_ hB hz1 hk1 hS => ?_)
      obtain ⟨om2_5, od2_5, us2_5, wt2_5⟩ := u_
      have hw_5 := hw_
      obtain ⟨hP1, hD1⟩ := hB
      rw [ht] at hP1
      obtain ⟨hP, hD⟩ := va_joinQ (X := [(g1, .inl (ca 0, 10, .inl qd)), (g4, .inl (ca 0, 10, .inl od)), (g8, .inl (ca 1, 10, .inl us)), (g2, .inl (ca 0, 10, .inl kd)), (h, .inr (3, [.ref g0, .ref g1, .ref g2, .int (nI qm), .ref g4, .int 0, .int kn, .int kl, .ref g8, .ref g9, .ref g10, .ref g11, .ref lq_4])), (g0, .inl (ca 0, 36, .inl ws)), (g9, .inl (ca 0, 6, .inl ct2_3)), (g10, .inl (ca 0, 6, .inl sd2_3)), (g11, .inl (ca 0, 6, .inl wt2_4)), (lq_4, .inl (ca 0, 1944, .inl LE2_4))]) (cx := [(h, .inr (3, [.ref g0, .ref g1, .ref g2, .int (nI qm), .ref g4, .int 0, .int kn, .int kl, .ref g8, .ref g9, .ref g10, .ref g11, .ref lq_4])), (g0, .inl (ca 0, 36, .inl ws)), (g1, .inl (ca 0, 10, .inl qd)), (g2, .inl (ca 0, 10, .inl kd)), (g4, .inl (ca 0, 10, .inl od)), (g8, .inl (ca 1, 10, .inl us)), (g9, .inl (ca 0, 6, .inl ct2_3)), (g10, .inl (ca 0, 6, .inl sd2_3)), (g11, .inl (ca 0, 6, .inl wt2_4)), (lq_4, .inl (ca 0, 1944, .inl LE2_4))]) (wr := []) (w1 := [(h, .inr (3, [.ref g0, .ref g1, .ref g2, .int (nI qm), .ref g4, .int om2_5, .int kn, .int kl, .ref g8, .ref g9, .ref g10, .ref g11, .ref lq_4])), (g0, .inl (ca 0, 36, .inl ws)), (g1, .inl (ca 0, 10, .inl qd)), (g2, .inl (ca 0, 10, .inl kd)), (g4, .inl (ca 0, 10, .inl od2_5)), (g8, .inl (ca 1, 10, .inl us2_5)), (g9, .inl (ca 0, 6, .inl ct2_3)), (g10, .inl (ca 0, 6, .inl sd2_3)), (g11, .inl (ca 0, 6, .inl wt2_5)), (lq_4, .inl (ca 0, 1944, .inl LE2_4))]) hP hD [4, 5, 0, 3, 1, 2, 6, 7, 8, 9] [] rfl rfl (by decide) (by decide) hk1 hFc hP1 hD1
      generalize H1 = H at hP hS ⊢
      obtain ⟨hP, hD⟩ := va_bo ([(h, .inr (3, [.ref g0, .ref g1, .ref g2, .int (nI qm), .ref g4, .int om2_5, .int kn, .int kl, .ref g8, .ref g9, .ref g10, .ref g11, .ref lq_4])), (g0, .inl (ca 0, 36, .inl ws)), (g1, .inl (ca 0, 10, .inl qd)), (g2, .inl (ca 0, 10, .inl kd)), (g4, .inl (ca 0, 10, .inl od2_5)), (g8, .inl (ca 1, 10, .inl us2_5)), (g9, .inl (ca 0, 6, .inl ct2_3)), (g10, .inl (ca 0, 6, .inl sd2_3)), (g11, .inl (ca 0, 6, .inl wt2_5)), (lq_4, .inl (ca 0, 1944, .inl LE2_4))] ++ tl) hP hD
      refine lv_aload_n hx hb dX3_findOrder_47 rfl (lv_at hl 1 rfl) ?_
      refine lv_iconst (v := 1) hx hb dX3_findOrder_48 (by decide) ?_
      refine va_put (D := (dC, dI)) (ci := 3) (v := .int 1) (ty := .boolean) (C := RX3) (T := TX3) (N := 13) hx hb hts inX3 tyX3 tyX3_ok nmX3 hown hK hP hD hS 0 rfl rfl 6 (by decide) (hts _ mw_113) (fun _ h9 => h9) rfl (by decide +kernel) rfl rfl (Nat.le_of_ble_eq_true rfl) dX3_findOrder_49 (fun H locs hP hD hS => ?_)
      obtain ⟨hP, hD⟩ := va_bo ([(h, .inr (3, [.ref g0, .ref g1, .ref g2, .int (nI qm), .ref g4, .int om2_5, .int 1, .int kl, .ref g8, .ref g9, .ref g10, .ref g11, .ref lq_4])), (g0, .inl (ca 0, 36, .inl ws)), (g1, .inl (ca 0, 10, .inl qd)), (g2, .inl (ca 0, 10, .inl kd)), (g4, .inl (ca 0, 10, .inl od2_5)), (g8, .inl (ca 1, 10, .inl us2_5)), (g9, .inl (ca 0, 6, .inl ct2_3)), (g10, .inl (ca 0, 6, .inl sd2_3)), (g11, .inl (ca 0, 6, .inl wt2_5)), (lq_4, .inl (ca 0, 1944, .inl LE2_4))] ++ tl) hP hD
      refine lv_aload_n hx hb dX3_findOrder_52 rfl (lv_at hl 1 rfl) ?_
      refine lv_iload_n hx hb dX3_findOrder_53 rfl (lv_at hl 2 rfl) ?_
      refine va_put (D := (dC, dI)) (ci := 3) (v := .int v1) (ty := .boolean) (C := RX3) (T := TX3) (N := 13) hx hb hts inX3 tyX3 tyX3_ok nmX3 hown hK hP hD hS 0 rfl rfl 7 (by decide) (hts _ mw_114) (fun _ h9 => h9) rfl (by decide +kernel) (zb_n (by first | exact wi_z _ _ _ | assumption | exact Or.inl rfl | exact Or.inr rfl)) (zb_f (by first | exact wi_z _ _ _ | assumption | exact Or.inl rfl | exact Or.inr rfl)) (Nat.le_of_ble_eq_true rfl) dX3_findOrder_54 (fun H locs hP hD hS => ?_)
      obtain ⟨hP, hD⟩ := va_bo ([(h, .inr (3, [.ref g0, .ref g1, .ref g2, .int (nI qm), .ref g4, .int om2_5, .int 1, .int v1, .ref g8, .ref g9, .ref g10, .ref g11, .ref lq_4])), (g0, .inl (ca 0, 36, .inl ws)), (g1, .inl (ca 0, 10, .inl qd)), (g2, .inl (ca 0, 10, .inl kd)), (g4, .inl (ca 0, 10, .inl od2_5)), (g8, .inl (ca 1, 10, .inl us2_5)), (g9, .inl (ca 0, 6, .inl ct2_3)), (g10, .inl (ca 0, 6, .inl sd2_3)), (g11, .inl (ca 0, 6, .inl wt2_5)), (lq_4, .inl (ca 0, 1944, .inl LE2_4))] ++ tl) hP hD
      refine W.widen (k := (oM lst)) (n := (1944 * oM lst)) (by omega) (by omega) ?_
      have hP9 : va_P (dC, dI) vwCl (@HAppend.hAppend va_W va_W va_W _ [(h, .inr (3, [.ref g0, .ref g1, .ref g2, .int (nI qm), .ref g4, .int om2_5, .int 1, .int v1, .ref g8, .ref g9, .ref g10, .ref g11, va_rf (some lq_4)])), (g0, .inl (ca 0, 36, .inl ws)), (g1, .inl (ca 0, 10, .inl qd)), (g2, .inl (ca 0, 10, .inl kd)), (g4, .inl (ca 0, 10, .inl od2_5)), (g8, .inl (ca 1, 10, .inl us2_5)), (g9, .inl (ca 0, 6, .inl ct2_3)), (g10, .inl (ca 0, 6, .inl sd2_3)), (g11, .inl (ca 0, 6, .inl wt2_5))] (@HAppend.hAppend va_W va_W va_W _ (oL ca (some lq_4) LE2_4) tl)) H := va_P.part (X := [(h, .inr (3, [.ref g0, .ref g1, .ref g2, .int (nI qm), .ref g4, .int om2_5, .int 1, .int v1, .ref g8, .ref g9, .ref g10, .ref g11, .ref lq_4])), (g0, .inl (ca 0, 36, .inl ws)), (g1, .inl (ca 0, 10, .inl qd)), (g2, .inl (ca 0, 10, .inl kd)), (g4, .inl (ca 0, 10, .inl od2_5)), (g8, .inl (ca 1, 10, .inl us2_5)), (g9, .inl (ca 0, 6, .inl ct2_3)), (g10, .inl (ca 0, 6, .inl sd2_3)), (g11, .inl (ca 0, 6, .inl wt2_5)), (lq_4, .inl (ca 0, 1944, .inl LE2_4))]) (cx := [(h, .inr (3, [.ref g0, .ref g1, .ref g2, .int (nI qm), .ref g4, .int om2_5, .int 1, .int v1, .ref g8, .ref g9, .ref g10, .ref g11, .ref lq_4])), (g0, .inl (ca 0, 36, .inl ws)), (g1, .inl (ca 0, 10, .inl qd)), (g2, .inl (ca 0, 10, .inl kd)), (g4, .inl (ca 0, 10, .inl od2_5)), (g8, .inl (ca 1, 10, .inl us2_5)), (g9, .inl (ca 0, 6, .inl ct2_3)), (g10, .inl (ca 0, 6, .inl sd2_3)), (g11, .inl (ca 0, 6, .inl wt2_5)), (lq_4, .inl (ca 0, 1944, .inl LE2_4))]) hP [0, 1, 2, 3, 4, 5, 6, 7, 8, 9] rfl
      have hD9 : va_D A (@HAppend.hAppend va_W va_W va_W _ [(h, .inr (3, [.ref g0, .ref g1, .ref g2, .int (nI qm), .ref g4, .int om2_5, .int 1, .int v1, .ref g8, .ref g9, .ref g10, .ref g11, va_rf (some lq_4)])), (g0, .inl (ca 0, 36, .inl ws)), (g1, .inl (ca 0, 10, .inl qd)), (g2, .inl (ca 0, 10, .inl kd)), (g4, .inl (ca 0, 10, .inl od2_5)), (g8, .inl (ca 1, 10, .inl us2_5)), (g9, .inl (ca 0, 6, .inl ct2_3)), (g10, .inl (ca 0, 6, .inl sd2_3)), (g11, .inl (ca 0, 6, .inl wt2_5))] (@HAppend.hAppend va_W va_W va_W _ (oL ca (some lq_4) LE2_4) tl)) := va_D.part (X := [(h, .inr (3, [.ref g0, .ref g1, .ref g2, .int (nI qm), .ref g4, .int om2_5, .int 1, .int v1, .ref g8, .ref g9, .ref g10, .ref g11, .ref lq_4])), (g0, .inl (ca 0, 36, .inl ws)), (g1, .inl (ca 0, 10, .inl qd)), (g2, .inl (ca 0, 10, .inl kd)), (g4, .inl (ca 0, 10, .inl od2_5)), (g8, .inl (ca 1, 10, .inl us2_5)), (g9, .inl (ca 0, 6, .inl ct2_3)), (g10, .inl (ca 0, 6, .inl sd2_3)), (g11, .inl (ca 0, 6, .inl wt2_5)), (lq_4, .inl (ca 0, 1944, .inl LE2_4))]) (cx := [(h, .inr (3, [.ref g0, .ref g1, .ref g2, .int (nI qm), .ref g4, .int om2_5, .int 1, .int v1, .ref g8, .ref g9, .ref g10, .ref g11, .ref lq_4])), (g0, .inl (ca 0, 36, .inl ws)), (g1, .inl (ca 0, 10, .inl qd)), (g2, .inl (ca 0, 10, .inl kd)), (g4, .inl (ca 0, 10, .inl od2_5)), (g8, .inl (ca 1, 10, .inl us2_5)), (g9, .inl (ca 0, 6, .inl ct2_3)), (g10, .inl (ca 0, 6, .inl sd2_3)), (g11, .inl (ca 0, 6, .inl wt2_5)), (lq_4, .inl (ca 0, 1944, .inl LE2_4))]) hD [0, 1, 2, 3, 4, 5, 6, 7, 8, 9] (by decide) rfl
      exact W.vret hx hb hr (fun t ht hW => ⟨⟨(om2_5, 1, v1, (some lq_4), LE2_4, od2_5, us2_5, ct2_3, sd2_3, wt2_5), rfl, ⟨(show ¬ (1 : Int32) = 0 by decide), rfl, hw_5⟩, by rw [ht]; dsimp only; exact hP9, by dsimp only; exact hD9⟩, hS.F ht⟩) hS.2.2 dX3_findOrder_57
  · refine lv_aload_n hx hb dX3_findOrder_7 rfl (lv_at hl 0 rfl) ?_
    refine va_get (D := (dC, dI)) (ci := 3) (v := .int kl) (C := RX3) (T := TX3) (N := 13) hx hb hts inX3 hown hK hP 0 rfl rfl 7 (by decide) (hts _ mw_114) (fun _ h9 => h9) rfl dX3_findOrder_8 ?_
    refine lv_iload_n hx hb dX3_findOrder_11 rfl (lv_at hl 1 rfl) ?_
    refine lv_icmp_ne (tgt := 16) hx hb dX3_findOrder_12 (by decide) (fun c_6 => ?_) (fun c_6 => ?_)
    · refine lv_aload_n hx hb dX3_findOrder_16 rfl (lv_at hl 0 rfl) ?_
      refine lv_iconst (v := 0) hx hb dX3_findOrder_17 (by decide) ?_
      refine va_put (D := (dC, dI)) (ci := 3) (v := .int 0) (ty := .int) (C := RX3) (T := TX3) (N := 13) hx hb hts inX3 tyX3 tyX3_ok nmX3 hown hK hP hD hS 0 rfl rfl 5 (by decide) (hts _ mw_111) (fun _ h9 => h9) rfl (by decide +kernel) rfl rfl (Nat.le_of_ble_eq_true rfl) dX3_findOrder_18 (fun H locs hP hD hS => ?_)
      obtain ⟨hP, hD⟩ := va_bo ([(h, .inr (3, [.ref g0, .ref g1, .ref g2, .int (nI qm), .ref g4, .int 0, .int kn, .int kl, .ref g8, .ref g9, .ref g10, .ref g11, va_rf lst])), (g0, .inl (ca 0, 36, .inl ws)), (g1, .inl (ca 0, 10, .inl qd)), (g2, .inl (ca 0, 10, .inl kd)), (g4, .inl (ca 0, 10, .inl od)), (g8, .inl (ca 1, 10, .inl us)), (g9, .inl (ca 0, 6, .inl ct)), (g10, .inl (ca 0, 6, .inl sd)), (g11, .inl (ca 0, 6, .inl wt))] ++ (oL ca lst LE ++ tl)) hP hD
      refine lv_aload_n hx hb dX3_findOrder_21 rfl (lv_at hl 0 rfl) ?_
      refine va_get (D := (dC, dI)) (ci := 3) (v := .int (nI qm)) (C := RX3) (T := TX3) (N := 13) hx hb hts inX3 hown hK hP 0 rfl rfl 3 (by decide) (hts _ mw_107) (fun _ h9 => h9) rfl dX3_findOrder_22 ?_
      refine lv_if_le (tgt := 47) hx hb dX3_findOrder_25 (by decide) (fun c_7 => ?_) (fun c_7 => ?_)
      · have nc_7 : qm ≤ 0 := (nI_leI (a := qm) (b := 0) (by omega) (by omega)).mp c_7
        refine lv_aload_n hx hb dX3_findOrder_47 rfl (lv_at hl 0 rfl) ?_
        refine lv_iconst (v := 1) hx hb dX3_findOrder_48 (by decide) ?_
        refine va_put (D := (dC, dI)) (ci := 3) (v := .int 1) (ty := .boolean) (C := RX3) (T := TX3) (N := 13) hx hb hts inX3 tyX3 tyX3_ok nmX3 hown hK hP hD hS 0 rfl rfl 6 (by decide) (hts _ mw_113) (fun _ h9 => h9) rfl (by decide +kernel) rfl rfl (Nat.le_of_ble_eq_true rfl) dX3_findOrder_49 (fun H locs hP hD hS => ?_)
        obtain ⟨hP, hD⟩ := va_bo ([(h, .inr (3, [.ref g0, .ref g1, .ref g2, .int (nI qm), .ref g4, .int 0, .int 1, .int kl, .ref g8, .ref g9, .ref g10, .ref g11, va_rf lst])), (g0, .inl (ca 0, 36, .inl ws)), (g1, .inl (ca 0, 10, .inl qd)), (g2, .inl (ca 0, 10, .inl kd)), (g4, .inl (ca 0, 10, .inl od)), (g8, .inl (ca 1, 10, .inl us)), (g9, .inl (ca 0, 6, .inl ct)), (g10, .inl (ca 0, 6, .inl sd)), (g11, .inl (ca 0, 6, .inl wt))] ++ (oL ca lst LE ++ tl)) hP hD
        refine lv_aload_n hx hb dX3_findOrder_52 rfl (lv_at hl 0 rfl) ?_
        refine lv_iload_n hx hb dX3_findOrder_53 rfl (lv_at hl 1 rfl) ?_
        refine va_put (D := (dC, dI)) (ci := 3) (v := .int v1) (ty := .boolean) (C := RX3) (T := TX3) (N := 13) hx hb hts inX3 tyX3 tyX3_ok nmX3 hown hK hP hD hS 0 rfl rfl 7 (by decide) (hts _ mw_114) (fun _ h9 => h9) rfl (by decide +kernel) (zb_n (by first | exact wi_z _ _ _ | assumption | exact Or.inl rfl | exact Or.inr rfl)) (zb_f (by first | exact wi_z _ _ _ | assumption | exact Or.inl rfl | exact Or.inr rfl)) (Nat.le_of_ble_eq_true rfl) dX3_findOrder_54 (fun H locs hP hD hS => ?_)
        obtain ⟨hP, hD⟩ := va_bo ([(h, .inr (3, [.ref g0, .ref g1, .ref g2, .int (nI qm), .ref g4, .int 0, .int 1, .int v1, .ref g8, .ref g9, .ref g10, .ref g11, va_rf lst])), (g0, .inl (ca 0, 36, .inl ws)), (g1, .inl (ca 0, 10, .inl qd)), (g2, .inl (ca 0, 10, .inl kd)), (g4, .inl (ca 0, 10, .inl od)), (g8, .inl (ca 1, 10, .inl us)), (g9, .inl (ca 0, 6, .inl ct)), (g10, .inl (ca 0, 6, .inl sd)), (g11, .inl (ca 0, 6, .inl wt))] ++ (oL ca lst LE ++ tl)) hP hD
        refine W.widen (k := (oM lst)) (n := (1944 * oM lst)) (by omega) (by omega) ?_
        have hP9 : va_P (dC, dI) vwCl (@HAppend.hAppend va_W va_W va_W _ [(h, .inr (3, [.ref g0, .ref g1, .ref g2, .int (nI qm), .ref g4, .int 0, .int 1, .int v1, .ref g8, .ref g9, .ref g10, .ref g11, va_rf lst])), (g0, .inl (ca 0, 36, .inl ws)), (g1, .inl (ca 0, 10, .inl qd)), (g2, .inl (ca 0, 10, .inl kd)), (g4, .inl (ca 0, 10, .inl od)), (g8, .inl (ca 1, 10, .inl us)), (g9, .inl (ca 0, 6, .inl ct)), (g10, .inl (ca 0, 6, .inl sd)), (g11, .inl (ca 0, 6, .inl wt))] (@HAppend.hAppend va_W va_W va_W _ (oL ca lst LE) tl)) H := va_P.part (X := [(h, .inr (3, [.ref g0, .ref g1, .ref g2, .int (nI qm), .ref g4, .int 0, .int 1, .int v1, .ref g8, .ref g9, .ref g10, .ref g11, va_rf lst])), (g0, .inl (ca 0, 36, .inl ws)), (g1, .inl (ca 0, 10, .inl qd)), (g2, .inl (ca 0, 10, .inl kd)), (g4, .inl (ca 0, 10, .inl od)), (g8, .inl (ca 1, 10, .inl us)), (g9, .inl (ca 0, 6, .inl ct)), (g10, .inl (ca 0, 6, .inl sd)), (g11, .inl (ca 0, 6, .inl wt))]) hP [0, 1, 2, 3, 4, 5, 6, 7, 8] rfl
        have hD9 : va_D A (@HAppend.hAppend va_W va_W va_W _ [(h, .inr (3, [.ref g0, .ref g1, .ref g2, .int (nI qm), .ref g4, .int 0, .int 1, .int v1, .ref g8, .ref g9, .ref g10, .ref g11, va_rf lst])), (g0, .inl (ca 0, 36, .inl ws)), (g1, .inl (ca 0, 10, .inl qd)), (g2, .inl (ca 0, 10, .inl kd)), (g4, .inl (ca 0, 10, .inl od)), (g8, .inl (ca 1, 10, .inl us)), (g9, .inl (ca 0, 6, .inl ct)), (g10, .inl (ca 0, 6, .inl sd)), (g11, .inl (ca 0, 6, .inl wt))] (@HAppend.hAppend va_W va_W va_W _ (oL ca lst LE) tl)) := va_D.part (X := [(h, .inr (3, [.ref g0, .ref g1, .ref g2, .int (nI qm), .ref g4, .int 0, .int 1, .int v1, .ref g8, .ref g9, .ref g10, .ref g11, va_rf lst])), (g0, .inl (ca 0, 36, .inl ws)), (g1, .inl (ca 0, 10, .inl qd)), (g2, .inl (ca 0, 10, .inl kd)), (g4, .inl (ca 0, 10, .inl od)), (g8, .inl (ca 1, 10, .inl us)), (g9, .inl (ca 0, 6, .inl ct)), (g10, .inl (ca 0, 6, .inl sd)), (g11, .inl (ca 0, 6, .inl wt))]) hD [0, 1, 2, 3, 4, 5, 6, 7, 8] (by decide) rfl
        exact W.vret hx hb hr (fun t ht hW => ⟨⟨(0, 1, v1, lst, LE, od, us, ct, sd, wt), rfl, ⟨(show ¬ (1 : Int32) = 0 by decide), rfl, oq_kn_0 (by omega)⟩, by rw [ht]; dsimp only; exact hP9, by dsimp only; exact hD9⟩, hS.F ht⟩) hS.2.2 dX3_findOrder_57
      · have nc_7 : ¬ (qm ≤ 0) := fun h9 => c_7 ((nI_leI (a := qm) (b := 0) (by omega) (by omega)).mpr h9)
        refine lv_aload_n hx hb dX3_findOrder_28 rfl (lv_at hl 0 rfl) ?_
        have hPc := hP.sub (ws' := [(h, .inr (3, [.ref g0, .ref g1, .ref g2, .int (nI qm), .ref g4, .int 0, .int kn, .int kl, .ref g8, .ref g9, .ref g10, .ref g11, va_rf lst])), (g2, .inl (ca 0, 10, .inl kd)), (g9, .inl (ca 0, 6, .inl ct)), (g10, .inl (ca 0, 6, .inl sd))]) [0, 3, 6, 7] rfl
        have hDc := hD.sub (ws' := [(h, .inr (3, [.ref g0, .ref g1, .ref g2, .int (nI qm), .ref g4, .int 0, .int kn, .int kl, .ref g8, .ref g9, .ref g10, .ref g11, va_rf lst])), (g2, .inl (ca 0, 10, .inl kd)), (g9, .inl (ca 0, 6, .inl ct)), (g10, .inl (ca 0, 6, .inl sd))]) [0, 3, 6, 7] (by decide) rfl
        have hFc := va_free (wc := [(h, .inr (3, [.ref g0, .ref g1, .ref g2, .int (nI qm), .ref g4, .int 0, .int kn, .int kl, .ref g8, .ref g9, .ref g10, .ref g11, va_rf lst])), (g2, .inl (ca 0, 10, .inl kd)), (g9, .inl (ca 0, 6, .inl ct)), (g10, .inl (ca 0, 6, .inl sd))]) hD hS hA [0, 3, 6, 7] rfl
        refine va_calli (va_runV (As := []) (rest := []) ⟨hx, hb, hml, hown, hts⟩ (e_countKinds l dC dI ca H.size h g0 g1 g2 g4 g8 g9 g10 g11 qm 0 kn kl lst kd ct sd (by first | assumption | omega | exact ⟨_, by omega, rfl⟩)) (⟨callB_of 0 hts (gd mw_816) rfl rfl rfl (hts _ mw_5) (hts _ mw_813) ds_X3_countKinds ⟨Nat.le_of_ble_eq_true rfl, Nat.le_of_ble_eq_true rfl⟩, (hts _ mw_815), (hts _ mp_28)⟩) (pr_V hPc hK hDc hE (va_recv hK hPc (ci := 3) (q0 := 0) rfl rfl)) rfl rfl hl.1 rfl (lv_room (Nat.le_of_ble_eq_true rfl)) dX3_findOrder_29 ⟨Nat.le_of_ble_eq_true rfl, Nat.le_of_ble_eq_true rfl⟩) hS (fun q _ h => hFc q h) hFc (fun rv_8 u_ t_ H1 locs ht hvm hw_ hB hz1 hk1 hS => ?_)
        obtain ⟨ct2_8, sd2_8⟩ := u_
        have hw_8 := hw_
        obtain ⟨hP1, hD1⟩ := hB
        rw [ht] at hP1
        obtain ⟨hP, hD⟩ := va_joinQ (X := [(h, .inr (3, [.ref g0, .ref g1, .ref g2, .int (nI qm), .ref g4, .int 0, .int kn, .int kl, .ref g8, .ref g9, .ref g10, .ref g11, va_rf lst])), (g0, .inl (ca 0, 36, .inl ws)), (g1, .inl (ca 0, 10, .inl qd)), (g2, .inl (ca 0, 10, .inl kd)), (g4, .inl (ca 0, 10, .inl od)), (g8, .inl (ca 1, 10, .inl us)), (g9, .inl (ca 0, 6, .inl ct)), (g10, .inl (ca 0, 6, .inl sd)), (g11, .inl (ca 0, 6, .inl wt))]) (cx := [(h, .inr (3, [.ref g0, .ref g1, .ref g2, .int (nI qm), .ref g4, .int 0, .int kn, .int kl, .ref g8, .ref g9, .ref g10, .ref g11, va_rf lst])), (g2, .inl (ca 0, 10, .inl kd)), (g9, .inl (ca 0, 6, .inl ct)), (g10, .inl (ca 0, 6, .inl sd))]) (wr := [(g0, .inl (ca 0, 36, .inl ws)), (g1, .inl (ca 0, 10, .inl qd)), (g4, .inl (ca 0, 10, .inl od)), (g8, .inl (ca 1, 10, .inl us)), (g11, .inl (ca 0, 6, .inl wt))]) (w1 := [(h, .inr (3, [.ref g0, .ref g1, .ref g2, .int (nI qm), .ref g4, .int 0, .int kn, .int kl, .ref g8, .ref g9, .ref g10, .ref g11, va_rf lst])), (g2, .inl (ca 0, 10, .inl kd)), (g9, .inl (ca 0, 6, .inl ct2_8)), (g10, .inl (ca 0, 6, .inl sd2_8))]) hP hD [0, 3, 6, 7] [1, 2, 4, 5, 8] rfl rfl (by decide) (by decide) hk1 hFc hP1 hD1
        generalize H1 = H at hP hS ⊢
        obtain ⟨hP, hD⟩ := va_bo ([(g0, .inl (ca 0, 36, .inl ws)), (g1, .inl (ca 0, 10, .inl qd)), (g4, .inl (ca 0, 10, .inl od)), (g8, .inl (ca 1, 10, .inl us)), (g11, .inl (ca 0, 6, .inl wt)), (h, .inr (3, [.ref g0, .ref g1, .ref g2, .int (nI qm), .ref g4, .int 0, .int kn, .int kl, .ref g8, .ref g9, .ref g10, .ref g11, va_rf lst])), (g2, .inl (ca 0, 10, .inl kd)), (g9, .inl (ca 0, 6, .inl ct2_8)), (g10, .inl (ca 0, 6, .inl sd2_8))] ++ (oL ca lst LE ++ tl)) hP hD
        obtain ⟨en0, hct, hse⟩ := hw_8
        obtain ⟨n, hne⟩ : ∃ q : Nat, q = oq_s (oq_c (oq_N kd) (fun _ => false) qm) 6 := ⟨_, rfl⟩
        have hn2 : n ≤ 324 := by rw [hne]; exact oq_ms hq
        have hn1 : 1 ≤ n := by rw [hne]; exact oq_s_pos _ 6
        have hsd := oq_sdc hse (oq_ms hq)
        have en := en0.trans (congrArg nI hne.symm)
        subst en
        refine lv_istore_n (lv' := [(2, .int (nI n)), (0, .ref h), (1, .int v1)]) hx hb dX3_findOrder_32 rfl hl (by decide) rfl (fun ls hl => ?_)
        refine lv_aload_n hx hb dX3_findOrder_33 rfl (lv_at hl 1 rfl) ?_
        refine lv_iload_n hx hb dX3_findOrder_34 rfl (lv_at hl 0 rfl) ?_
        refine lv_iload_n hx hb dX3_findOrder_35 rfl (lv_at hl 2 rfl) ?_
        have hPc := hP.part (X := [(g0, .inl (ca 0, 36, .inl ws)), (g1, .inl (ca 0, 10, .inl qd)), (g4, .inl (ca 0, 10, .inl od)), (g8, .inl (ca 1, 10, .inl us)), (g11, .inl (ca 0, 6, .inl wt)), (h, .inr (3, [.ref g0, .ref g1, .ref g2, .int (nI qm), .ref g4, .int 0, .int kn, .int kl, .ref g8, .ref g9, .ref g10, .ref g11, va_rf lst])), (g2, .inl (ca 0, 10, .inl kd)), (g9, .inl (ca 0, 6, .inl ct2_8)), (g10, .inl (ca 0, 6, .inl sd2_8))]) (cx := [(h, .inr (3, [.ref g0, .ref g1, .ref g2, .int (nI qm), .ref g4, .int 0, .int kn, .int kl, .ref g8, .ref g9, .ref g10, .ref g11, va_rf lst])), (g0, .inl (ca 0, 36, .inl ws)), (g9, .inl (ca 0, 6, .inl ct2_8)), (g10, .inl (ca 0, 6, .inl sd2_8)), (g11, .inl (ca 0, 6, .inl wt))]) [5, 0, 7, 8, 4] rfl
        have hDc := hD.part (X := [(g0, .inl (ca 0, 36, .inl ws)), (g1, .inl (ca 0, 10, .inl qd)), (g4, .inl (ca 0, 10, .inl od)), (g8, .inl (ca 1, 10, .inl us)), (g11, .inl (ca 0, 6, .inl wt)), (h, .inr (3, [.ref g0, .ref g1, .ref g2, .int (nI qm), .ref g4, .int 0, .int kn, .int kl, .ref g8, .ref g9, .ref g10, .ref g11, va_rf lst])), (g2, .inl (ca 0, 10, .inl kd)), (g9, .inl (ca 0, 6, .inl ct2_8)), (g10, .inl (ca 0, 6, .inl sd2_8))]) (cx := [(h, .inr (3, [.ref g0, .ref g1, .ref g2, .int (nI qm), .ref g4, .int 0, .int kn, .int kl, .ref g8, .ref g9, .ref g10, .ref g11, va_rf lst])), (g0, .inl (ca 0, 36, .inl ws)), (g9, .inl (ca 0, 6, .inl ct2_8)), (g10, .inl (ca 0, 6, .inl sd2_8)), (g11, .inl (ca 0, 6, .inl wt))]) [5, 0, 7, 8, 4] (by decide) rfl
        have hFc := va_freeP (X := [(g0, .inl (ca 0, 36, .inl ws)), (g1, .inl (ca 0, 10, .inl qd)), (g4, .inl (ca 0, 10, .inl od)), (g8, .inl (ca 1, 10, .inl us)), (g11, .inl (ca 0, 6, .inl wt)), (h, .inr (3, [.ref g0, .ref g1, .ref g2, .int (nI qm), .ref g4, .int 0, .int kn, .int kl, .ref g8, .ref g9, .ref g10, .ref g11, va_rf lst])), (g2, .inl (ca 0, 10, .inl kd)), (g9, .inl (ca 0, 6, .inl ct2_8)), (g10, .inl (ca 0, 6, .inl sd2_8))]) (cx := [(h, .inr (3, [.ref g0, .ref g1, .ref g2, .int (nI qm), .ref g4, .int 0, .int kn, .int kl, .ref g8, .ref g9, .ref g10, .ref g11, va_rf lst])), (g0, .inl (ca 0, 36, .inl ws)), (g9, .inl (ca 0, 6, .inl ct2_8)), (g10, .inl (ca 0, 6, .inl sd2_8)), (g11, .inl (ca 0, 6, .inl wt))]) hD hS hA [5, 0, 7, 8, 4] rfl
        refine va_callv (va_runV (As := [.int (nI n), .int v1]) (rest := []) ⟨hx, hb, hml, hown, hts⟩ (e_findLeast l dC dI ca H.size h g0 g1 g2 g4 g8 g9 g10 g11 qm 0 kn kl lst ws ct2_8 sd2_8 wt LE n v1 tl (oq_c (oq_N kd) (fun _ => false) qm) ⟨hn1, hn2⟩ hsd hws hne (oq_mm hq hct) (by rw [oq_mT hq]; exact hq.1) hse) (⟨callB_of 2 hts (gd mw_822) rfl rfl rfl (hts _ mw_5) (hts _ mw_819) ds_X3_findLeast ⟨Nat.le_of_ble_eq_true rfl, Nat.le_of_ble_eq_true rfl⟩, (hts _ mw_821), (hts _ mp_29)⟩) (pr_V hPc hK hDc hE (va_recv hK hPc (ci := 3) (q0 := 0) rfl rfl)) rfl rfl hl.1 rfl (lv_room (Nat.le_of_ble_eq_true rfl)) dX3_findOrder_36 ⟨by show 0 + (oM lst) ≤ (oM lst); omega, by show 0 + (1944 * oM lst) ≤ (1944 * oM lst); omega⟩) hS (fun q _ h => hFc q h) hFc (fun u_ t_ H1 locs ht hvm hw_ hB hz1 hk1 hS => ?_)
        obtain ⟨lq_9, LE2_9, wt2_9⟩ := u_
        have hw_9 := hw_
        obtain ⟨hP1, hD1⟩ := hB
        rw [ht] at hP1
        obtain ⟨hP, hD⟩ := va_joinP (X := [(g0, .inl (ca 0, 36, .inl ws)), (g1, .inl (ca 0, 10, .inl qd)), (g4, .inl (ca 0, 10, .inl od)), (g8, .inl (ca 1, 10, .inl us)), (g11, .inl (ca 0, 6, .inl wt)), (h, .inr (3, [.ref g0, .ref g1, .ref g2, .int (nI qm), .ref g4, .int 0, .int kn, .int kl, .ref g8, .ref g9, .ref g10, .ref g11, va_rf lst])), (g2, .inl (ca 0, 10, .inl kd)), (g9, .inl (ca 0, 6, .inl ct2_8)), (g10, .inl (ca 0, 6, .inl sd2_8))]) (cx := [(h, .inr (3, [.ref g0, .ref g1, .ref g2, .int (nI qm), .ref g4, .int 0, .int kn, .int kl, .ref g8, .ref g9, .ref g10, .ref g11, va_rf lst])), (g0, .inl (ca 0, 36, .inl ws)), (g9, .inl (ca 0, 6, .inl ct2_8)), (g10, .inl (ca 0, 6, .inl sd2_8)), (g11, .inl (ca 0, 6, .inl wt))]) (wr := [(g1, .inl (ca 0, 10, .inl qd)), (g4, .inl (ca 0, 10, .inl od)), (g8, .inl (ca 1, 10, .inl us)), (g2, .inl (ca 0, 10, .inl kd))]) (rx := [(h, .inr (3, [.ref g0, .ref g1, .ref g2, .int (nI qm), .ref g4, .int 0, .int kn, .int kl, .ref g8, .ref g9, .ref g10, .ref g11, .ref lq_9])), (g0, .inl (ca 0, 36, .inl ws)), (g9, .inl (ca 0, 6, .inl ct2_8)), (g10, .inl (ca 0, 6, .inl sd2_8)), (g11, .inl (ca 0, 6, .inl wt2_9)), (lq_9, .inl (ca 0, 1944, .inl LE2_9))]) (pl1 := tl) hP hD [5, 0, 7, 8, 4] [1, 2, 3, 6] rfl rfl (by decide) (by decide) hk1 hFc hP1 hD1
        generalize H1 = H at hP hS ⊢
        obtain ⟨hP, hD⟩ := va_bo ([(g1, .inl (ca 0, 10, .inl qd)), (g4, .inl (ca 0, 10, .inl od)), (g8, .inl (ca 1, 10, .inl us)), (g2, .inl (ca 0, 10, .inl kd)), (h, .inr (3, [.ref g0, .ref g1, .ref g2, .int (nI qm), .ref g4, .int 0, .int kn, .int kl, .ref g8, .ref g9, .ref g10, .ref g11, .ref lq_9])), (g0, .inl (ca 0, 36, .inl ws)), (g9, .inl (ca 0, 6, .inl ct2_8)), (g10, .inl (ca 0, 6, .inl sd2_8)), (g11, .inl (ca 0, 6, .inl wt2_9)), (lq_9, .inl (ca 0, 1944, .inl LE2_9))] ++ tl) hP hD
        refine lv_aload_n hx hb dX3_findOrder_39 rfl (lv_at hl 1 rfl) ?_
        refine lv_iload_n hx hb dX3_findOrder_40 rfl (lv_at hl 0 rfl) ?_
        refine lv_iconst (v := 1) hx hb dX3_findOrder_41 (by decide) ?_
        refine lv_isub hx hb dX3_findOrder_42 ?_
        refine lv_topi (fun y_ e_ => ?_)
        obtain rfl : y_ = (nI (n - 1)) := e_.trans (pk_sub (show 1 ≤ n by omega))
        refine lv_iload_n hx hb dX3_findOrder_43 rfl (lv_at hl 2 rfl) ?_
        have hPc := hP.sub (ws' := [(h, .inr (3, [.ref g0, .ref g1, .ref g2, .int (nI qm), .ref g4, .int 0, .int kn, .int kl, .ref g8, .ref g9, .ref g10, .ref g11, .ref lq_9])), (g0, .inl (ca 0, 36, .inl ws)), (g1, .inl (ca 0, 10, .inl qd)), (g2, .inl (ca 0, 10, .inl kd)), (g4, .inl (ca 0, 10, .inl od)), (g8, .inl (ca 1, 10, .inl us)), (g9, .inl (ca 0, 6, .inl ct2_8)), (g10, .inl (ca 0, 6, .inl sd2_8)), (g11, .inl (ca 0, 6, .inl wt2_9)), (lq_9, .inl (ca 0, 1944, .inl LE2_9))]) [4, 5, 0, 3, 1, 2, 6, 7, 8, 9] rfl
        have hDc := hD.sub (ws' := [(h, .inr (3, [.ref g0, .ref g1, .ref g2, .int (nI qm), .ref g4, .int 0, .int kn, .int kl, .ref g8, .ref g9, .ref g10, .ref g11, .ref lq_9])), (g0, .inl (ca 0, 36, .inl ws)), (g1, .inl (ca 0, 10, .inl qd)), (g2, .inl (ca 0, 10, .inl kd)), (g4, .inl (ca 0, 10, .inl od)), (g8, .inl (ca 1, 10, .inl us)), (g9, .inl (ca 0, 6, .inl ct2_8)), (g10, .inl (ca 0, 6, .inl sd2_8)), (g11, .inl (ca 0, 6, .inl wt2_9)), (lq_9, .inl (ca 0, 1944, .inl LE2_9))]) [4, 5, 0, 3, 1, 2, 6, 7, 8, 9] (by decide) rfl
        have hFc := va_free (wc := [(h, .inr (3, [.ref g0, .ref g1, .ref g2, .int (nI qm), .ref g4, .int 0, .int kn, .int kl, .ref g8, .ref g9, .ref g10, .ref g11, .ref lq_9])), (g0, .inl (ca 0, 36, .inl ws)), (g1, .inl (ca 0, 10, .inl qd)), (g2, .inl (ca 0, 10, .inl kd)), (g4, .inl (ca 0, 10, .inl od)), (g8, .inl (ca 1, 10, .inl us)), (g9, .inl (ca 0, 6, .inl ct2_8)), (g10, .inl (ca 0, 6, .inl sd2_8)), (g11, .inl (ca 0, 6, .inl wt2_9)), (lq_9, .inl (ca 0, 1944, .inl LE2_9))]) hD hS hA [4, 5, 0, 3, 1, 2, 6, 7, 8, 9] rfl
        refine va_callv (va_runV (As := [.int (nI (n - 1)), .int v1]) (rest := []) ⟨hx, hb, hml, hown, hts⟩ (e_followLeast l dC dI ca H.size h g0 g1 g2 g4 g8 g9 g10 g11 qm 0 kn kl ws qd kd od us ct2_8 sd2_8 wt2_9 lq_9 LE2_9 (n - 1) v1 hq (by omega) hsd hws (by omega) hct hse ((show n - 1 + 1 = n by omega).symm ▸ hw_9) rfl) (⟨callB_of 2 hts (gd mw_847) rfl rfl rfl (hts _ mw_5) (hts _ mw_844) ds_X3_followLeast ⟨Nat.le_of_ble_eq_true rfl, Nat.le_of_ble_eq_true rfl⟩, (hts _ mw_846), (hts _ mp_35)⟩) (pr_V hPc hK hDc hE (va_recv hK hPc (ci := 3) (q0 := 0) rfl rfl)) rfl rfl hl.1 rfl (lv_room (Nat.le_of_ble_eq_true rfl)) dX3_findOrder_44 ⟨by show (0 + (oM lst)) + 0 ≤ (oM lst); omega, by show (0 + (1944 * oM lst)) + 0 ≤ (1944 * oM lst); omega⟩) hS (fun q _ h => hFc q h) hFc (fun u_ t_ H1 locs ht hvm hw_ hB hz1 hk1 hS => ?_)
        obtain ⟨om2_10, od2_10, us2_10, wt2_10⟩ := u_
        have hw_10 := hw_
        obtain ⟨hP1, hD1⟩ := hB
        rw [ht] at hP1
        obtain ⟨hP, hD⟩ := va_joinQ (X := [(g1, .inl (ca 0, 10, .inl qd)), (g4, .inl (ca 0, 10, .inl od)), (g8, .inl (ca 1, 10, .inl us)), (g2, .inl (ca 0, 10, .inl kd)), (h, .inr (3, [.ref g0, .ref g1, .ref g2, .int (nI qm), .ref g4, .int 0, .int kn, .int kl, .ref g8, .ref g9, .ref g10, .ref g11, .ref lq_9])), (g0, .inl (ca 0, 36, .inl ws)), (g9, .inl (ca 0, 6, .inl ct2_8)), (g10, .inl (ca 0, 6, .inl sd2_8)), (g11, .inl (ca 0, 6, .inl wt2_9)), (lq_9, .inl (ca 0, 1944, .inl LE2_9))]) (cx := [(h, .inr (3, [.ref g0, .ref g1, .ref g2, .int (nI qm), .ref g4, .int 0, .int kn, .int kl, .ref g8, .ref g9, .ref g10, .ref g11, .ref lq_9])), (g0, .inl (ca 0, 36, .inl ws)), (g1, .inl (ca 0, 10, .inl qd)), (g2, .inl (ca 0, 10, .inl kd)), (g4, .inl (ca 0, 10, .inl od)), (g8, .inl (ca 1, 10, .inl us)), (g9, .inl (ca 0, 6, .inl ct2_8)), (g10, .inl (ca 0, 6, .inl sd2_8)), (g11, .inl (ca 0, 6, .inl wt2_9)), (lq_9, .inl (ca 0, 1944, .inl LE2_9))]) (wr := []) (w1 := [(h, .inr (3, [.ref g0, .ref g1, .ref g2, .int (nI qm), .ref g4, .int om2_10, .int kn, .int kl, .ref g8, .ref g9, .ref g10, .ref g11, .ref lq_9])), (g0, .inl (ca 0, 36, .inl ws)), (g1, .inl (ca 0, 10, .inl qd)), (g2, .inl (ca 0, 10, .inl kd)), (g4, .inl (ca 0, 10, .inl od2_10)), (g8, .inl (ca 1, 10, .inl us2_10)), (g9, .inl (ca 0, 6, .inl ct2_8)), (g10, .inl (ca 0, 6, .inl sd2_8)), (g11, .inl (ca 0, 6, .inl wt2_10)), (lq_9, .inl (ca 0, 1944, .inl LE2_9))]) hP hD [4, 5, 0, 3, 1, 2, 6, 7, 8, 9] [] rfl rfl (by decide) (by decide) hk1 hFc hP1 hD1
        generalize H1 = H at hP hS ⊢
        obtain ⟨hP, hD⟩ := va_bo (@HAppend.hAppend va_W va_W va_W _ [(h, .inr (3, [.ref g0, .ref g1, .ref g2, .int (nI qm), .ref g4, .int om2_10, .int kn, .int kl, .ref g8, .ref g9, .ref g10, .ref g11, .ref lq_9])), (g0, .inl (ca 0, 36, .inl ws)), (g1, .inl (ca 0, 10, .inl qd)), (g2, .inl (ca 0, 10, .inl kd)), (g4, .inl (ca 0, 10, .inl od2_10)), (g8, .inl (ca 1, 10, .inl us2_10)), (g9, .inl (ca 0, 6, .inl ct2_8)), (g10, .inl (ca 0, 6, .inl sd2_8)), (g11, .inl (ca 0, 6, .inl wt2_10)), (lq_9, .inl (ca 0, 1944, .inl LE2_9))] tl) hP hD
        refine lv_aload_n hx hb dX3_findOrder_47 rfl (lv_at hl 1 rfl) ?_
        refine lv_iconst (v := 1) hx hb dX3_findOrder_48 (by decide) ?_
        refine va_put (D := (dC, dI)) (ci := 3) (v := .int 1) (ty := .boolean) (C := RX3) (T := TX3) (N := 13) hx hb hts inX3 tyX3 tyX3_ok nmX3 hown hK hP hD hS 0 rfl rfl 6 (by decide) (hts _ mw_113) (fun _ h9 => h9) rfl (by decide +kernel) rfl rfl (Nat.le_of_ble_eq_true rfl) dX3_findOrder_49 (fun H locs hP hD hS => ?_)
        obtain ⟨hP, hD⟩ := va_bo (@HAppend.hAppend va_W va_W va_W _ [(h, .inr (3, [.ref g0, .ref g1, .ref g2, .int (nI qm), .ref g4, .int om2_10, .int 1, .int kl, .ref g8, .ref g9, .ref g10, .ref g11, .ref lq_9])), (g0, .inl (ca 0, 36, .inl ws)), (g1, .inl (ca 0, 10, .inl qd)), (g2, .inl (ca 0, 10, .inl kd)), (g4, .inl (ca 0, 10, .inl od2_10)), (g8, .inl (ca 1, 10, .inl us2_10)), (g9, .inl (ca 0, 6, .inl ct2_8)), (g10, .inl (ca 0, 6, .inl sd2_8)), (g11, .inl (ca 0, 6, .inl wt2_10)), (lq_9, .inl (ca 0, 1944, .inl LE2_9))] tl) hP hD
        refine lv_aload_n hx hb dX3_findOrder_52 rfl (lv_at hl 1 rfl) ?_
        refine lv_iload_n hx hb dX3_findOrder_53 rfl (lv_at hl 2 rfl) ?_
        refine va_put (D := (dC, dI)) (ci := 3) (v := .int v1) (ty := .boolean) (C := RX3) (T := TX3) (N := 13) hx hb hts inX3 tyX3 tyX3_ok nmX3 hown hK hP hD hS 0 rfl rfl 7 (by decide) (hts _ mw_114) (fun _ h9 => h9) rfl (by decide +kernel) (zb_n (by first | exact wi_z _ _ _ | assumption | exact Or.inl rfl | exact Or.inr rfl)) (zb_f (by first | exact wi_z _ _ _ | assumption | exact Or.inl rfl | exact Or.inr rfl)) (Nat.le_of_ble_eq_true rfl) dX3_findOrder_54 (fun H locs hP hD hS => ?_)
        obtain ⟨hP, hD⟩ := va_bo (@HAppend.hAppend va_W va_W va_W _ [(h, .inr (3, [.ref g0, .ref g1, .ref g2, .int (nI qm), .ref g4, .int om2_10, .int 1, .int v1, .ref g8, .ref g9, .ref g10, .ref g11, .ref lq_9])), (g0, .inl (ca 0, 36, .inl ws)), (g1, .inl (ca 0, 10, .inl qd)), (g2, .inl (ca 0, 10, .inl kd)), (g4, .inl (ca 0, 10, .inl od2_10)), (g8, .inl (ca 1, 10, .inl us2_10)), (g9, .inl (ca 0, 6, .inl ct2_8)), (g10, .inl (ca 0, 6, .inl sd2_8)), (g11, .inl (ca 0, 6, .inl wt2_10)), (lq_9, .inl (ca 0, 1944, .inl LE2_9))] tl) hP hD
        refine W.widen (k := (oM lst)) (n := (1944 * oM lst)) (by omega) (by omega) ?_
        have hP9 : va_P (dC, dI) vwCl (@HAppend.hAppend va_W va_W va_W _ [(h, .inr (3, [.ref g0, .ref g1, .ref g2, .int (nI qm), .ref g4, .int om2_10, .int 1, .int v1, .ref g8, .ref g9, .ref g10, .ref g11, va_rf (some lq_9)])), (g0, .inl (ca 0, 36, .inl ws)), (g1, .inl (ca 0, 10, .inl qd)), (g2, .inl (ca 0, 10, .inl kd)), (g4, .inl (ca 0, 10, .inl od2_10)), (g8, .inl (ca 1, 10, .inl us2_10)), (g9, .inl (ca 0, 6, .inl ct2_8)), (g10, .inl (ca 0, 6, .inl sd2_8)), (g11, .inl (ca 0, 6, .inl wt2_10))] (@HAppend.hAppend va_W va_W va_W _ (oL ca (some lq_9) LE2_9) tl)) H := va_P.part (X := [(h, .inr (3, [.ref g0, .ref g1, .ref g2, .int (nI qm), .ref g4, .int om2_10, .int 1, .int v1, .ref g8, .ref g9, .ref g10, .ref g11, .ref lq_9])), (g0, .inl (ca 0, 36, .inl ws)), (g1, .inl (ca 0, 10, .inl qd)), (g2, .inl (ca 0, 10, .inl kd)), (g4, .inl (ca 0, 10, .inl od2_10)), (g8, .inl (ca 1, 10, .inl us2_10)), (g9, .inl (ca 0, 6, .inl ct2_8)), (g10, .inl (ca 0, 6, .inl sd2_8)), (g11, .inl (ca 0, 6, .inl wt2_10)), (lq_9, .inl (ca 0, 1944, .inl LE2_9))]) (cx := [(h, .inr (3, [.ref g0, .ref g1, .ref g2, .int (nI qm), .ref g4, .int om2_10, .int 1, .int v1, .ref g8, .ref g9, .ref g10, .ref g11, .ref lq_9])), (g0, .inl (ca 0, 36, .inl ws)), (g1, .inl (ca 0, 10, .inl qd)), (g2, .inl (ca 0, 10, .inl kd)), (g4, .inl (ca 0, 10, .inl od2_10)), (g8, .inl (ca 1, 10, .inl us2_10)), (g9, .inl (ca 0, 6, .inl ct2_8)), (g10, .inl (ca 0, 6, .inl sd2_8)), (g11, .inl (ca 0, 6, .inl wt2_10)), (lq_9, .inl (ca 0, 1944, .inl LE2_9))]) hP [0, 1, 2, 3, 4, 5, 6, 7, 8, 9] rfl
        have hD9 : va_D A (@HAppend.hAppend va_W va_W va_W _ [(h, .inr (3, [.ref g0, .ref g1, .ref g2, .int (nI qm), .ref g4, .int om2_10, .int 1, .int v1, .ref g8, .ref g9, .ref g10, .ref g11, va_rf (some lq_9)])), (g0, .inl (ca 0, 36, .inl ws)), (g1, .inl (ca 0, 10, .inl qd)), (g2, .inl (ca 0, 10, .inl kd)), (g4, .inl (ca 0, 10, .inl od2_10)), (g8, .inl (ca 1, 10, .inl us2_10)), (g9, .inl (ca 0, 6, .inl ct2_8)), (g10, .inl (ca 0, 6, .inl sd2_8)), (g11, .inl (ca 0, 6, .inl wt2_10))] (@HAppend.hAppend va_W va_W va_W _ (oL ca (some lq_9) LE2_9) tl)) := va_D.part (X := [(h, .inr (3, [.ref g0, .ref g1, .ref g2, .int (nI qm), .ref g4, .int om2_10, .int 1, .int v1, .ref g8, .ref g9, .ref g10, .ref g11, .ref lq_9])), (g0, .inl (ca 0, 36, .inl ws)), (g1, .inl (ca 0, 10, .inl qd)), (g2, .inl (ca 0, 10, .inl kd)), (g4, .inl (ca 0, 10, .inl od2_10)), (g8, .inl (ca 1, 10, .inl us2_10)), (g9, .inl (ca 0, 6, .inl ct2_8)), (g10, .inl (ca 0, 6, .inl sd2_8)), (g11, .inl (ca 0, 6, .inl wt2_10)), (lq_9, .inl (ca 0, 1944, .inl LE2_9))]) (cx := [(h, .inr (3, [.ref g0, .ref g1, .ref g2, .int (nI qm), .ref g4, .int om2_10, .int 1, .int v1, .ref g8, .ref g9, .ref g10, .ref g11, .ref lq_9])), (g0, .inl (ca 0, 36, .inl ws)), (g1, .inl (ca 0, 10, .inl qd)), (g2, .inl (ca 0, 10, .inl kd)), (g4, .inl (ca 0, 10, .inl od2_10)), (g8, .inl (ca 1, 10, .inl us2_10)), (g9, .inl (ca 0, 6, .inl ct2_8)), (g10, .inl (ca 0, 6, .inl sd2_8)), (g11, .inl (ca 0, 6, .inl wt2_10)), (lq_9, .inl (ca 0, 1944, .inl LE2_9))]) hD [0, 1, 2, 3, 4, 5, 6, 7, 8, 9] (by decide) rfl
        exact W.vret hx hb hr (fun t ht hW => ⟨⟨(om2_10, 1, v1, (some lq_9), LE2_9, od2_10, us2_10, ct2_8, sd2_8, wt2_10), rfl, ⟨(show ¬ (1 : Int32) = 0 by decide), rfl, hw_10⟩, by rw [ht]; dsimp only; exact hP9, by dsimp only; exact hD9⟩, hS.F ht⟩) hS.2.2 dX3_findOrder_57
    · refine W.widen (k := (oM lst)) (n := (1944 * oM lst)) (by omega) (by omega) ?_
      have hP9 : va_P (dC, dI) vwCl (@HAppend.hAppend va_W va_W va_W _ [(h, .inr (3, [.ref g0, .ref g1, .ref g2, .int (nI qm), .ref g4, .int om, .int kn, .int kl, .ref g8, .ref g9, .ref g10, .ref g11, va_rf lst])), (g0, .inl (ca 0, 36, .inl ws)), (g1, .inl (ca 0, 10, .inl qd)), (g2, .inl (ca 0, 10, .inl kd)), (g4, .inl (ca 0, 10, .inl od)), (g8, .inl (ca 1, 10, .inl us)), (g9, .inl (ca 0, 6, .inl ct)), (g10, .inl (ca 0, 6, .inl sd)), (g11, .inl (ca 0, 6, .inl wt))] (@HAppend.hAppend va_W va_W va_W _ (oL ca lst LE) tl)) s.heap := va_P.part (X := [(h, .inr (3, [.ref g0, .ref g1, .ref g2, .int (nI qm), .ref g4, .int om, .int kn, .int kl, .ref g8, .ref g9, .ref g10, .ref g11, va_rf lst])), (g0, .inl (ca 0, 36, .inl ws)), (g1, .inl (ca 0, 10, .inl qd)), (g2, .inl (ca 0, 10, .inl kd)), (g4, .inl (ca 0, 10, .inl od)), (g8, .inl (ca 1, 10, .inl us)), (g9, .inl (ca 0, 6, .inl ct)), (g10, .inl (ca 0, 6, .inl sd)), (g11, .inl (ca 0, 6, .inl wt))]) hP [0, 1, 2, 3, 4, 5, 6, 7, 8] rfl
      have hD9 : va_D A (@HAppend.hAppend va_W va_W va_W _ [(h, .inr (3, [.ref g0, .ref g1, .ref g2, .int (nI qm), .ref g4, .int om, .int kn, .int kl, .ref g8, .ref g9, .ref g10, .ref g11, va_rf lst])), (g0, .inl (ca 0, 36, .inl ws)), (g1, .inl (ca 0, 10, .inl qd)), (g2, .inl (ca 0, 10, .inl kd)), (g4, .inl (ca 0, 10, .inl od)), (g8, .inl (ca 1, 10, .inl us)), (g9, .inl (ca 0, 6, .inl ct)), (g10, .inl (ca 0, 6, .inl sd)), (g11, .inl (ca 0, 6, .inl wt))] (@HAppend.hAppend va_W va_W va_W _ (oL ca lst LE) tl)) := va_D.part (X := [(h, .inr (3, [.ref g0, .ref g1, .ref g2, .int (nI qm), .ref g4, .int om, .int kn, .int kl, .ref g8, .ref g9, .ref g10, .ref g11, va_rf lst])), (g0, .inl (ca 0, 36, .inl ws)), (g1, .inl (ca 0, 10, .inl qd)), (g2, .inl (ca 0, 10, .inl kd)), (g4, .inl (ca 0, 10, .inl od)), (g8, .inl (ca 1, 10, .inl us)), (g9, .inl (ca 0, 6, .inl ct)), (g10, .inl (ca 0, 6, .inl sd)), (g11, .inl (ca 0, 6, .inl wt))]) hD [0, 1, 2, 3, 4, 5, 6, 7, 8] (by decide) rfl
      exact W.vret hx hb hr (fun t ht hW => ⟨⟨(om, kn, kl, lst, LE, od, us, ct, sd, wt), rfl, ⟨c_1, c_6, by have h8 := hkn c_1; rw [c_6] at h8; exact h8⟩, by rw [ht]; dsimp only; exact hP9, by dsimp only; exact hD9⟩, hS.F ht⟩) hS.2.2 dX3_findOrder_15

theorem oq_A_1 {ws qd kd od : Nat → Int32} {qm : Nat} {z v om : Int32} (h : oq_kn ws qd kd qm z om od) (c : v = -1) : om = oq_A ws qd kd qm z v := by
  unfold oq_A
  rw [if_pos c]
  exact h.1
theorem oq_A_n {ws qd kd : Nat → Int32} {qm : Nat} {z v : Int32} (c : ¬ v = -1) (c2 : wi v 0 (nI qm - 1) = 0) : -1 = oq_A ws qd kd qm z v := by
  unfold oq_A
  rw [if_neg c, if_pos c2]
theorem oq_wi {qm : Nat} {v : Int32} (hq : qm ≤ 10) (c2 : ¬ wi v 0 (nI qm - 1) = 0) : v.toNatClampNeg < qm := by
  obtain ⟨j, e, h1, h2⟩ := wi_nat c2 (by decide)
  rw [show (nI qm - 1 : Int32) = nI qm - nI 1 from rfl, pk_sub_toInt (by omega) (by omega)] at h2
  rw [e, nI_clamp (by omega)]
  omega
theorem oq_A_y {ws qd kd od : Nat → Int32} {qm : Nat} {z v om : Int32} (h : oq_kn ws qd kd qm z om od) (hq : qm ≤ 10) (c : ¬ v = -1) (c2 : ¬ wi v 0 (nI qm - 1) = 0) : od v.toNatClampNeg = oq_A ws qd kd qm z v := by
  unfold oq_A
  rw [if_neg c, if_neg c2]
  exact h.2 _ (oq_wi hq c2)

set_option maxHeartbeats 4000000 in
set_option maxRecDepth 100000 in
theorem k_order (l : Launch) (dC : Nat → ClassId) (dI : Nat → Nat → Nat) (ca : Nat → ClassId) (sz : Nat) (x : Nat) (a : Nat → Nat) (nl : Nat) (nb : Nat) (np : Nat) (nx : Nat) (g0 : Nat) (g1 : Nat) (g2 : Nat) (g4 : Nat) (g8 : Nat) (g9 : Nat) (g10 : Nat) (g11 : Nat) (qm : Nat) (om : Int32) (kn : Int32) (kl : Int32) (lst : Option Nat) (ws : Nat → Int32) (qd : Nat → Int32) (kd : Nat → Int32) (od : Nat → Int32) (us : Nat → Int32) (ct : Nat → Int32) (sd : Nat → Int32) (wt : Nat → Int32) (LE : Nat → Int32) (tl : va_W) (v1 : Int32) (v2 : Int32) (hq : qI qm kd) (hz : v1 = 0 ∨ v1 = 1) (hws : ∀ j, cnt (ws j) 600) (hkn : ¬ kn = 0 → oq_kn ws qd kd qm kl om od) : Met l yX10_order (Cond.code yX10_order cX10_order 3 (some .int) :: gT) ({ frames := 6, cells := (oM lst), slots := (1944 * oM lst), locals := 179 }) (va_Pc [.ref x, .int v1, .int v2] (pr (dC, dI) sz (@HAppend.hAppend va_W va_W va_W _ [(x, .inr (10, [.ref (a 0), .int (nI nl), .ref (a 2), .int (nI nb), .ref (a 4), .int (nI np), .ref (a 6), .int (nI nx), .ref (a 8), .ref (a 9), .ref (a 10), .ref (a 11), .ref (a 12), .ref (a 13), .ref (a 14)])), ((a 12), .inr (3, [.ref g0, .ref g1, .ref g2, .int (nI qm), .ref g4, .int om, .int kn, .int kl, .ref g8, .ref g9, .ref g10, .ref g11, va_rf lst])), (g0, .inl (ca 0, 36, .inl ws)), (g1, .inl (ca 0, 10, .inl qd)), (g2, .inl (ca 0, 10, .inl kd)), (g4, .inl (ca 0, 10, .inl od)), (g8, .inl (ca 1, 10, .inl us)), (g9, .inl (ca 0, 6, .inl ct)), (g10, .inl (ca 0, 6, .inl sd)), (g11, .inl (ca 0, 6, .inl wt))] (@HAppend.hAppend va_W va_W va_W _ (oL ca lst LE) tl)) (aT ca))) (va_Qi (fun (r : Int32) (u_ : Int32 × Int32 × Int32 × Option Nat × (Nat → Int32) × (Nat → Int32) × (Nat → Int32) × (Nat → Int32) × (Nat → Int32) × (Nat → Int32)) => r = oq_A ws qd kd qm v1 v2 ∧ ¬ u_.2.1 = 0 ∧ u_.2.2.1 = v1 ∧ oq_kn ws qd kd qm v1 u_.1 u_.2.2.2.2.2.1) (fun (u_ : Int32 × Int32 × Int32 × Option Nat × (Nat → Int32) × (Nat → Int32) × (Nat → Int32) × (Nat → Int32) × (Nat → Int32) × (Nat → Int32)) t => va_P (dC, dI) vwCl (@HAppend.hAppend va_W va_W va_W _ [(x, .inr (10, [.ref (a 0), .int (nI nl), .ref (a 2), .int (nI nb), .ref (a 4), .int (nI np), .ref (a 6), .int (nI nx), .ref (a 8), .ref (a 9), .ref (a 10), .ref (a 11), .ref (a 12), .ref (a 13), .ref (a 14)])), ((a 12), .inr (3, [.ref g0, .ref g1, .ref g2, .int (nI qm), .ref g4, .int u_.1, .int u_.2.1, .int u_.2.2.1, .ref g8, .ref g9, .ref g10, .ref g11, va_rf u_.2.2.2.1])), (g0, .inl (ca 0, 36, .inl ws)), (g1, .inl (ca 0, 10, .inl qd)), (g2, .inl (ca 0, 10, .inl kd)), (g4, .inl (ca 0, 10, .inl u_.2.2.2.2.2.1)), (g8, .inl (ca 1, 10, .inl u_.2.2.2.2.2.2.1)), (g9, .inl (ca 0, 6, .inl u_.2.2.2.2.2.2.2.1)), (g10, .inl (ca 0, 6, .inl u_.2.2.2.2.2.2.2.2.1)), (g11, .inl (ca 0, 6, .inl u_.2.2.2.2.2.2.2.2.2))] (@HAppend.hAppend va_W va_W va_W _ (oL ca u_.2.2.2.1 u_.2.2.2.2.1) tl)) t.heap ∧ va_D (va_A (@HAppend.hAppend va_W va_W va_W _ [(x, .inr (10, [.ref (a 0), .int (nI nl), .ref (a 2), .int (nI nb), .ref (a 4), .int (nI np), .ref (a 6), .int (nI nx), .ref (a 8), .ref (a 9), .ref (a 10), .ref (a 11), .ref (a 12), .ref (a 13), .ref (a 14)])), ((a 12), .inr (3, [.ref g0, .ref g1, .ref g2, .int (nI qm), .ref g4, .int om, .int kn, .int kl, .ref g8, .ref g9, .ref g10, .ref g11, va_rf lst])), (g0, .inl (ca 0, 36, .inl ws)), (g1, .inl (ca 0, 10, .inl qd)), (g2, .inl (ca 0, 10, .inl kd)), (g4, .inl (ca 0, 10, .inl od)), (g8, .inl (ca 1, 10, .inl us)), (g9, .inl (ca 0, 6, .inl ct)), (g10, .inl (ca 0, 6, .inl sd)), (g11, .inl (ca 0, 6, .inl wt))] (@HAppend.hAppend va_W va_W va_W _ (oL ca lst LE) tl)) sz) (@HAppend.hAppend va_W va_W va_W _ [(x, .inr (10, [.ref (a 0), .int (nI nl), .ref (a 2), .int (nI nb), .ref (a 4), .int (nI np), .ref (a 6), .int (nI nx), .ref (a 8), .ref (a 9), .ref (a 10), .ref (a 11), .ref (a 12), .ref (a 13), .ref (a 14)])), ((a 12), .inr (3, [.ref g0, .ref g1, .ref g2, .int (nI qm), .ref g4, .int u_.1, .int u_.2.1, .int u_.2.2.1, .ref g8, .ref g9, .ref g10, .ref g11, va_rf u_.2.2.2.1])), (g0, .inl (ca 0, 36, .inl ws)), (g1, .inl (ca 0, 10, .inl qd)), (g2, .inl (ca 0, 10, .inl kd)), (g4, .inl (ca 0, 10, .inl u_.2.2.2.2.2.1)), (g8, .inl (ca 1, 10, .inl u_.2.2.2.2.2.2.1)), (g9, .inl (ca 0, 6, .inl u_.2.2.2.2.2.2.2.1)), (g10, .inl (ca 0, 6, .inl u_.2.2.2.2.2.2.2.2.1)), (g11, .inl (ca 0, 6, .inl u_.2.2.2.2.2.2.2.2.2))] (@HAppend.hAppend va_W va_W va_W _ (oL ca u_.2.2.2.1 u_.2.2.2.2.1) tl))) (va_A (@HAppend.hAppend va_W va_W va_W _ [(x, .inr (10, [.ref (a 0), .int (nI nl), .ref (a 2), .int (nI nb), .ref (a 4), .int (nI np), .ref (a 6), .int (nI nx), .ref (a 8), .ref (a 9), .ref (a 10), .ref (a 11), .ref (a 12), .ref (a 13), .ref (a 14)])), ((a 12), .inr (3, [.ref g0, .ref g1, .ref g2, .int (nI qm), .ref g4, .int om, .int kn, .int kl, .ref g8, .ref g9, .ref g10, .ref g11, va_rf lst])), (g0, .inl (ca 0, 36, .inl ws)), (g1, .inl (ca 0, 10, .inl qd)), (g2, .inl (ca 0, 10, .inl kd)), (g4, .inl (ca 0, 10, .inl od)), (g8, .inl (ca 1, 10, .inl us)), (g9, .inl (ca 0, 6, .inl ct)), (g10, .inl (ca 0, 6, .inl sd)), (g11, .inl (ca 0, 6, .inl wt))] (@HAppend.hAppend va_W va_W va_W _ (oL ca lst LE) tl)) sz)) (oM lst) (1944 * oM lst) (va_A (@HAppend.hAppend va_W va_W va_W _ [(x, .inr (10, [.ref (a 0), .int (nI nl), .ref (a 2), .int (nI nb), .ref (a 4), .int (nI np), .ref (a 6), .int (nI nx), .ref (a 8), .ref (a 9), .ref (a 10), .ref (a 11), .ref (a 12), .ref (a 13), .ref (a 14)])), ((a 12), .inr (3, [.ref g0, .ref g1, .ref g2, .int (nI qm), .ref g4, .int om, .int kn, .int kl, .ref g8, .ref g9, .ref g10, .ref g11, va_rf lst])), (g0, .inl (ca 0, 36, .inl ws)), (g1, .inl (ca 0, 10, .inl qd)), (g2, .inl (ca 0, 10, .inl kd)), (g4, .inl (ca 0, 10, .inl od)), (g8, .inl (ca 1, 10, .inl us)), (g9, .inl (ca 0, 6, .inl ct)), (g10, .inl (ca 0, 6, .inl sd)), (g11, .inl (ca 0, 6, .inl wt))] (@HAppend.hAppend va_W va_W va_W _ (oL ca lst LE) tl)) sz) := by
  refine Met.ofW (cc := cX10_order) (maxL := 3) (ret := (some .int)) (by decide) rfl ?_
  intro p e s m args below meth c s₁ B hml hv
  obtain ⟨rfl, hsz, hP, hK, hD0, hE⟩ := hv
  have hx := B.exec
  have hb := B.bytes
  have hr := B.returns
  have hts : ∀ w ∈ gT, w.before _ s = true := fun w h => atoms_spec (ws := Cond.code yX10_order cX10_order 3 (some .int) :: gT) B.pre w (List.mem_cons_of_mem _ h)
  have hown : s.vm.findClass RX10 = some m.cls := findClass_of_methodNamed B.named
  have hlocks := B.notSynchronized
  subst hsz
  have hD := hD0.self (sz := s.heap.size)
  generalize hAe : va_A (@HAppend.hAppend va_W va_W va_W _ [(x, .inr (10, [.ref (a 0), .int (nI nl), .ref (a 2), .int (nI nb), .ref (a 4), .int (nI np), .ref (a 6), .int (nI nx), .ref (a 8), .ref (a 9), .ref (a 10), .ref (a 11), .ref (a 12), .ref (a 13), .ref (a 14)])), ((a 12), .inr (3, [.ref g0, .ref g1, .ref g2, .int (nI qm), .ref g4, .int om, .int kn, .int kl, .ref g8, .ref g9, .ref g10, .ref g11, va_rf lst])), (g0, .inl (ca 0, 36, .inl ws)), (g1, .inl (ca 0, 10, .inl qd)), (g2, .inl (ca 0, 10, .inl kd)), (g4, .inl (ca 0, 10, .inl od)), (g8, .inl (ca 1, 10, .inl us)), (g9, .inl (ca 0, 6, .inl ct)), (g10, .inl (ca 0, 6, .inl sd)), (g11, .inl (ca 0, 6, .inl wt))] (@HAppend.hAppend va_W va_W va_W _ (oL ca lst LE) tl)) s.heap.size = A at hD ⊢
  have hA : ∀ q : Nat, s.heap.size ≤ q → A q := fun q h => by rw [← hAe]; exact Or.inr h
  have hS : va_S A s.heap s.heap [] := va_S.rf
  have hl := lv_entry ([.ref x, .int v1, .int v2]) (n := 3) (Nat.le_of_ble_eq_true rfl)
  rw [lg_entry_eq]
  generalize (lg_sl ([.ref x, .int v1, .int v2]) ++ List.replicate (3 - (lg_sl ([.ref x, .int v1, .int v2])).length) Slot.unset).toArray = ls at hl ⊢
  have hl : lv_has ls 3 [(0, .ref x), (1, .int v1), (2, .int v2)] := hl
  refine lv_aload_n hx hb dX10_order_0 rfl (lv_at hl 0 rfl) ?_
  refine va_get (D := (dC, dI)) (ci := 10) (v := .ref (a 12)) (C := RX10) (T := TX10) (N := 15) hx hb hts inX10 hown hK hP 0 rfl rfl 12 (by decide) (hts _ mw_213) (fun _ h9 => h9) rfl dX10_order_1 ?_
  refine lv_iload_n hx hb dX10_order_4 rfl (lv_at hl 1 rfl) ?_
  have hPc := hP.part (X := [(x, .inr (10, [.ref (a 0), .int (nI nl), .ref (a 2), .int (nI nb), .ref (a 4), .int (nI np), .ref (a 6), .int (nI nx), .ref (a 8), .ref (a 9), .ref (a 10), .ref (a 11), .ref (a 12), .ref (a 13), .ref (a 14)])), ((a 12), .inr (3, [.ref g0, .ref g1, .ref g2, .int (nI qm), .ref g4, .int om, .int kn, .int kl, .ref g8, .ref g9, .ref g10, .ref g11, va_rf lst])), (g0, .inl (ca 0, 36, .inl ws)), (g1, .inl (ca 0, 10, .inl qd)), (g2, .inl (ca 0, 10, .inl kd)), (g4, .inl (ca 0, 10, .inl od)), (g8, .inl (ca 1, 10, .inl us)), (g9, .inl (ca 0, 6, .inl ct)), (g10, .inl (ca 0, 6, .inl sd)), (g11, .inl (ca 0, 6, .inl wt))]) (cx := [((a 12), .inr (3, [.ref g0, .ref g1, .ref g2, .int (nI qm), .ref g4, .int om, .int kn, .int kl, .ref g8, .ref g9, .ref g10, .ref g11, va_rf lst])), (g0, .inl (ca 0, 36, .inl ws)), (g1, .inl (ca 0, 10, .inl qd)), (g2, .inl (ca 0, 10, .inl kd)), (g4, .inl (ca 0, 10, .inl od)), (g8, .inl (ca 1, 10, .inl us)), (g9, .inl (ca 0, 6, .inl ct)), (g10, .inl (ca 0, 6, .inl sd)), (g11, .inl (ca 0, 6, .inl wt))]) [1, 2, 3, 4, 5, 6, 7, 8, 9] rfl
  have hDc := hD.part (X := [(x, .inr (10, [.ref (a 0), .int (nI nl), .ref (a 2), .int (nI nb), .ref (a 4), .int (nI np), .ref (a 6), .int (nI nx), .ref (a 8), .ref (a 9), .ref (a 10), .ref (a 11), .ref (a 12), .ref (a 13), .ref (a 14)])), ((a 12), .inr (3, [.ref g0, .ref g1, .ref g2, .int (nI qm), .ref g4, .int om, .int kn, .int kl, .ref g8, .ref g9, .ref g10, .ref g11, va_rf lst])), (g0, .inl (ca 0, 36, .inl ws)), (g1, .inl (ca 0, 10, .inl qd)), (g2, .inl (ca 0, 10, .inl kd)), (g4, .inl (ca 0, 10, .inl od)), (g8, .inl (ca 1, 10, .inl us)), (g9, .inl (ca 0, 6, .inl ct)), (g10, .inl (ca 0, 6, .inl sd)), (g11, .inl (ca 0, 6, .inl wt))]) (cx := [((a 12), .inr (3, [.ref g0, .ref g1, .ref g2, .int (nI qm), .ref g4, .int om, .int kn, .int kl, .ref g8, .ref g9, .ref g10, .ref g11, va_rf lst])), (g0, .inl (ca 0, 36, .inl ws)), (g1, .inl (ca 0, 10, .inl qd)), (g2, .inl (ca 0, 10, .inl kd)), (g4, .inl (ca 0, 10, .inl od)), (g8, .inl (ca 1, 10, .inl us)), (g9, .inl (ca 0, 6, .inl ct)), (g10, .inl (ca 0, 6, .inl sd)), (g11, .inl (ca 0, 6, .inl wt))]) [1, 2, 3, 4, 5, 6, 7, 8, 9] (by decide) rfl
  have hFc := va_freeP (X := [(x, .inr (10, [.ref (a 0), .int (nI nl), .ref (a 2), .int (nI nb), .ref (a 4), .int (nI np), .ref (a 6), .int (nI nx), .ref (a 8), .ref (a 9), .ref (a 10), .ref (a 11), .ref (a 12), .ref (a 13), .ref (a 14)])), ((a 12), .inr (3, [.ref g0, .ref g1, .ref g2, .int (nI qm), .ref g4, .int om, .int kn, .int kl, .ref g8, .ref g9, .ref g10, .ref g11, va_rf lst])), (g0, .inl (ca 0, 36, .inl ws)), (g1, .inl (ca 0, 10, .inl qd)), (g2, .inl (ca 0, 10, .inl kd)), (g4, .inl (ca 0, 10, .inl od)), (g8, .inl (ca 1, 10, .inl us)), (g9, .inl (ca 0, 6, .inl ct)), (g10, .inl (ca 0, 6, .inl sd)), (g11, .inl (ca 0, 6, .inl wt))]) (cx := [((a 12), .inr (3, [.ref g0, .ref g1, .ref g2, .int (nI qm), .ref g4, .int om, .int kn, .int kl, .ref g8, .ref g9, .ref g10, .ref g11, va_rf lst])), (g0, .inl (ca 0, 36, .inl ws)), (g1, .inl (ca 0, 10, .inl qd)), (g2, .inl (ca 0, 10, .inl kd)), (g4, .inl (ca 0, 10, .inl od)), (g8, .inl (ca 1, 10, .inl us)), (g9, .inl (ca 0, 6, .inl ct)), (g10, .inl (ca 0, 6, .inl sd)), (g11, .inl (ca 0, 6, .inl wt))]) hD hS hA [1, 2, 3, 4, 5, 6, 7, 8, 9] rfl
  refine va_callv (va_runV (As := [.int v1]) (rest := []) ⟨hx, hb, hml, hown, hts⟩ (e_findOrder l dC dI ca s.heap.size (a 12) g0 g1 g2 g4 g8 g9 g10 g11 qm om kn kl lst ws qd kd od us ct sd wt LE v1 tl hq hz hws hkn) (⟨callB_of 1 hts (gd mw_812) rfl rfl rfl (hts _ mw_5) (hts _ mw_809) ds_X3_findOrder ⟨Nat.le_of_ble_eq_true rfl, Nat.le_of_ble_eq_true rfl⟩, (hts _ mw_810), (hts _ mw_811)⟩) (pr_V hPc hK hDc hE (va_recv hK hPc (ci := 3) (q0 := 0) rfl rfl)) rfl rfl hl.1 rfl (lv_room (Nat.le_of_ble_eq_true rfl)) dX10_order_5 ⟨by show 0 + (oM lst) ≤ (oM lst); omega, by show 0 + (1944 * oM lst) ≤ (1944 * oM lst); omega⟩) hS (fun q _ h => hFc q h) hFc (fun u_ t_ H1 locs ht hvm hw_ hB hz1 hk1 hS => ?_)
  obtain ⟨om2_1, kn2_1, kl2_1, lst2_1, LE2_1, od2_1, us2_1, ct2_1, sd2_1, wt2_1⟩ := u_
  have hw_1 := hw_
  obtain ⟨hP1, hD1⟩ := hB
  rw [ht] at hP1
  obtain ⟨hP, hD⟩ := va_joinP (X := [(x, .inr (10, [.ref (a 0), .int (nI nl), .ref (a 2), .int (nI nb), .ref (a 4), .int (nI np), .ref (a 6), .int (nI nx), .ref (a 8), .ref (a 9), .ref (a 10), .ref (a 11), .ref (a 12), .ref (a 13), .ref (a 14)])), ((a 12), .inr (3, [.ref g0, .ref g1, .ref g2, .int (nI qm), .ref g4, .int om, .int kn, .int kl, .ref g8, .ref g9, .ref g10, .ref g11, va_rf lst])), (g0, .inl (ca 0, 36, .inl ws)), (g1, .inl (ca 0, 10, .inl qd)), (g2, .inl (ca 0, 10, .inl kd)), (g4, .inl (ca 0, 10, .inl od)), (g8, .inl (ca 1, 10, .inl us)), (g9, .inl (ca 0, 6, .inl ct)), (g10, .inl (ca 0, 6, .inl sd)), (g11, .inl (ca 0, 6, .inl wt))]) (cx := [((a 12), .inr (3, [.ref g0, .ref g1, .ref g2, .int (nI qm), .ref g4, .int om, .int kn, .int kl, .ref g8, .ref g9, .ref g10, .ref g11, va_rf lst])), (g0, .inl (ca 0, 36, .inl ws)), (g1, .inl (ca 0, 10, .inl qd)), (g2, .inl (ca 0, 10, .inl kd)), (g4, .inl (ca 0, 10, .inl od)), (g8, .inl (ca 1, 10, .inl us)), (g9, .inl (ca 0, 6, .inl ct)), (g10, .inl (ca 0, 6, .inl sd)), (g11, .inl (ca 0, 6, .inl wt))]) (wr := [(x, .inr (10, [.ref (a 0), .int (nI nl), .ref (a 2), .int (nI nb), .ref (a 4), .int (nI np), .ref (a 6), .int (nI nx), .ref (a 8), .ref (a 9), .ref (a 10), .ref (a 11), .ref (a 12), .ref (a 13), .ref (a 14)]))]) (rx := [((a 12), .inr (3, [.ref g0, .ref g1, .ref g2, .int (nI qm), .ref g4, .int om2_1, .int kn2_1, .int kl2_1, .ref g8, .ref g9, .ref g10, .ref g11, va_rf lst2_1])), (g0, .inl (ca 0, 36, .inl ws)), (g1, .inl (ca 0, 10, .inl qd)), (g2, .inl (ca 0, 10, .inl kd)), (g4, .inl (ca 0, 10, .inl od2_1)), (g8, .inl (ca 1, 10, .inl us2_1)), (g9, .inl (ca 0, 6, .inl ct2_1)), (g10, .inl (ca 0, 6, .inl sd2_1)), (g11, .inl (ca 0, 6, .inl wt2_1))]) (pl1 := (@HAppend.hAppend va_W va_W va_W _ (oL ca lst2_1 LE2_1) tl)) hP hD [1, 2, 3, 4, 5, 6, 7, 8, 9] [0] rfl rfl (by decide) (by decide) hk1 hFc hP1 hD1
  generalize H1 = H at hP hS ⊢
  obtain ⟨hP, hD⟩ := va_bo (@HAppend.hAppend va_W va_W va_W _ [(x, .inr (10, [.ref (a 0), .int (nI nl), .ref (a 2), .int (nI nb), .ref (a 4), .int (nI np), .ref (a 6), .int (nI nx), .ref (a 8), .ref (a 9), .ref (a 10), .ref (a 11), .ref (a 12), .ref (a 13), .ref (a 14)])), ((a 12), .inr (3, [.ref g0, .ref g1, .ref g2, .int (nI qm), .ref g4, .int om2_1, .int kn2_1, .int kl2_1, .ref g8, .ref g9, .ref g10, .ref g11, va_rf lst2_1])), (g0, .inl (ca 0, 36, .inl ws)), (g1, .inl (ca 0, 10, .inl qd)), (g2, .inl (ca 0, 10, .inl kd)), (g4, .inl (ca 0, 10, .inl od2_1)), (g8, .inl (ca 1, 10, .inl us2_1)), (g9, .inl (ca 0, 6, .inl ct2_1)), (g10, .inl (ca 0, 6, .inl sd2_1)), (g11, .inl (ca 0, 6, .inl wt2_1))] (@HAppend.hAppend va_W va_W va_W _ (oL ca lst2_1 LE2_1) tl)) hP hD
  refine lv_iload_n hx hb dX10_order_8 rfl (lv_at hl 2 rfl) ?_
  refine lv_iconst (v := (-1)) hx hb dX10_order_9 (by decide) ?_
  refine lv_icmp_ne (tgt := 21) hx hb dX10_order_10 (by decide) (fun c_2 => ?_) (fun c_2 => ?_)
  · refine lv_iload_n hx hb dX10_order_21 rfl (lv_at hl 2 rfl) ?_
    refine lv_iconst (v := 0) hx hb dX10_order_22 (by decide) ?_
    refine lv_aload_n hx hb dX10_order_23 rfl (lv_at hl 0 rfl) ?_
    refine va_get (D := (dC, dI)) (ci := 10) (v := .ref (a 12)) (C := RX10) (T := TX10) (N := 15) hx hb hts inX10 hown hK hP 0 rfl rfl 12 (by decide) (hts _ mw_213) (fun _ h9 => h9) rfl dX10_order_24 ?_
    refine va_get (D := (dC, dI)) (ci := 3) (v := .int (nI qm)) (C := RX3) (T := TX3) (N := 13) hx hb hts inX3 hown hK hP 1 rfl rfl 3 (by decide) (hts _ mw_108) (fun _ h9 => h9) rfl dX10_order_27 ?_
    refine lv_iconst (v := 1) hx hb dX10_order_30 (by decide) ?_
    refine lv_isub hx hb dX10_order_31 ?_
    have hPc := hP.sub (ws' := []) [] rfl
    refine pc_i (va_runS (As := [.int v2, .int 0, .int ((nI qm) - 1)]) (rest := []) ⟨hx, hb, hml, hown, hts⟩ (c_within l dC dI ca v2 0 ((nI qm) - 1) ) (⟨callB_of 3 hts (gd mw_254) rfl rfl rfl (hts _ mw_1) (hts _ mw_252) ds_X10_within ⟨Nat.le_of_ble_eq_true rfl, Nat.le_of_ble_eq_true rfl⟩, (hts _ mw_253)⟩) (pu_S hPc hK hE) rfl rfl hl.1 rfl (lv_room (Nat.le_of_ble_eq_true rfl)) dX10_order_32 ⟨by show (0 + (oM lst)) + 0 ≤ (oM lst); omega, by show (0 + (1944 * oM lst)) + 0 ≤ (1944 * oM lst); omega⟩) (fun rv_3 hw_ => ?_)
    obtain rfl : rv_3 = (wi v2 0 ((nI qm) - 1)) := hw_
    refine lv_if_eq (tgt := 50) hx hb dX10_order_35 (by decide) (fun c_4 => ?_) (fun c_4 => ?_)
    · refine lv_iconst (v := (-1)) hx hb dX10_order_50 (by decide) ?_
      refine W.widen (k := (oM lst)) (n := (1944 * oM lst)) (by omega) (by omega) ?_
      have hP9 : va_P (dC, dI) vwCl (@HAppend.hAppend va_W va_W va_W _ [(x, .inr (10, [.ref (a 0), .int (nI nl), .ref (a 2), .int (nI nb), .ref (a 4), .int (nI np), .ref (a 6), .int (nI nx), .ref (a 8), .ref (a 9), .ref (a 10), .ref (a 11), .ref (a 12), .ref (a 13), .ref (a 14)])), ((a 12), .inr (3, [.ref g0, .ref g1, .ref g2, .int (nI qm), .ref g4, .int om2_1, .int kn2_1, .int kl2_1, .ref g8, .ref g9, .ref g10, .ref g11, va_rf lst2_1])), (g0, .inl (ca 0, 36, .inl ws)), (g1, .inl (ca 0, 10, .inl qd)), (g2, .inl (ca 0, 10, .inl kd)), (g4, .inl (ca 0, 10, .inl od2_1)), (g8, .inl (ca 1, 10, .inl us2_1)), (g9, .inl (ca 0, 6, .inl ct2_1)), (g10, .inl (ca 0, 6, .inl sd2_1)), (g11, .inl (ca 0, 6, .inl wt2_1))] (@HAppend.hAppend va_W va_W va_W _ (oL ca lst2_1 LE2_1) tl)) H := va_P.part (X := [(x, .inr (10, [.ref (a 0), .int (nI nl), .ref (a 2), .int (nI nb), .ref (a 4), .int (nI np), .ref (a 6), .int (nI nx), .ref (a 8), .ref (a 9), .ref (a 10), .ref (a 11), .ref (a 12), .ref (a 13), .ref (a 14)])), ((a 12), .inr (3, [.ref g0, .ref g1, .ref g2, .int (nI qm), .ref g4, .int om2_1, .int kn2_1, .int kl2_1, .ref g8, .ref g9, .ref g10, .ref g11, va_rf lst2_1])), (g0, .inl (ca 0, 36, .inl ws)), (g1, .inl (ca 0, 10, .inl qd)), (g2, .inl (ca 0, 10, .inl kd)), (g4, .inl (ca 0, 10, .inl od2_1)), (g8, .inl (ca 1, 10, .inl us2_1)), (g9, .inl (ca 0, 6, .inl ct2_1)), (g10, .inl (ca 0, 6, .inl sd2_1)), (g11, .inl (ca 0, 6, .inl wt2_1))]) hP [0, 1, 2, 3, 4, 5, 6, 7, 8, 9] rfl
      have hD9 : va_D A (@HAppend.hAppend va_W va_W va_W _ [(x, .inr (10, [.ref (a 0), .int (nI nl), .ref (a 2), .int (nI nb), .ref (a 4), .int (nI np), .ref (a 6), .int (nI nx), .ref (a 8), .ref (a 9), .ref (a 10), .ref (a 11), .ref (a 12), .ref (a 13), .ref (a 14)])), ((a 12), .inr (3, [.ref g0, .ref g1, .ref g2, .int (nI qm), .ref g4, .int om2_1, .int kn2_1, .int kl2_1, .ref g8, .ref g9, .ref g10, .ref g11, va_rf lst2_1])), (g0, .inl (ca 0, 36, .inl ws)), (g1, .inl (ca 0, 10, .inl qd)), (g2, .inl (ca 0, 10, .inl kd)), (g4, .inl (ca 0, 10, .inl od2_1)), (g8, .inl (ca 1, 10, .inl us2_1)), (g9, .inl (ca 0, 6, .inl ct2_1)), (g10, .inl (ca 0, 6, .inl sd2_1)), (g11, .inl (ca 0, 6, .inl wt2_1))] (@HAppend.hAppend va_W va_W va_W _ (oL ca lst2_1 LE2_1) tl)) := va_D.part (X := [(x, .inr (10, [.ref (a 0), .int (nI nl), .ref (a 2), .int (nI nb), .ref (a 4), .int (nI np), .ref (a 6), .int (nI nx), .ref (a 8), .ref (a 9), .ref (a 10), .ref (a 11), .ref (a 12), .ref (a 13), .ref (a 14)])), ((a 12), .inr (3, [.ref g0, .ref g1, .ref g2, .int (nI qm), .ref g4, .int om2_1, .int kn2_1, .int kl2_1, .ref g8, .ref g9, .ref g10, .ref g11, va_rf lst2_1])), (g0, .inl (ca 0, 36, .inl ws)), (g1, .inl (ca 0, 10, .inl qd)), (g2, .inl (ca 0, 10, .inl kd)), (g4, .inl (ca 0, 10, .inl od2_1)), (g8, .inl (ca 1, 10, .inl us2_1)), (g9, .inl (ca 0, 6, .inl ct2_1)), (g10, .inl (ca 0, 6, .inl sd2_1)), (g11, .inl (ca 0, 6, .inl wt2_1))]) hD [0, 1, 2, 3, 4, 5, 6, 7, 8, 9] (by decide) rfl
      exact W.iret (v := (-1)) hx hb hr (fun t ht hW => ⟨⟨(-1), (om2_1, kn2_1, kl2_1, lst2_1, LE2_1, od2_1, us2_1, ct2_1, sd2_1, wt2_1), rfl, ⟨oq_A_n c_2 c_4, hw_1⟩, by rw [ht]; dsimp only; exact hP9, by dsimp only; exact hD9⟩, hS.F ht⟩) hS.2.2 dX10_order_51
    · refine lv_aload_n hx hb dX10_order_38 rfl (lv_at hl 0 rfl) ?_
      refine va_get (D := (dC, dI)) (ci := 10) (v := .ref (a 12)) (C := RX10) (T := TX10) (N := 15) hx hb hts inX10 hown hK hP 0 rfl rfl 12 (by decide) (hts _ mw_213) (fun _ h9 => h9) rfl dX10_order_39 ?_
      refine va_get (D := (dC, dI)) (ci := 3) (v := .ref g4) (C := RX3) (T := TX3) (N := 13) hx hb hts inX3 hown hK hP 1 rfl rfl 4 (by decide) (hts _ mw_110) (fun _ h9 => h9) rfl dX10_order_42 ?_
      refine lv_iload_n hx hb dX10_order_45 rfl (lv_at hl 2 rfl) ?_
      refine va_iald hx hb hK hP 5 0 rfl rfl (wi_vpn hq.1 (by decide) c_4) dX10_order_46 ?_
      refine lv_goto (tgt := 51) hx hb dX10_order_47 (by decide) ?_
      refine W.widen (k := (oM lst)) (n := (1944 * oM lst)) (by omega) (by omega) ?_
      have hP9 : va_P (dC, dI) vwCl (@HAppend.hAppend va_W va_W va_W _ [(x, .inr (10, [.ref (a 0), .int (nI nl), .ref (a 2), .int (nI nb), .ref (a 4), .int (nI np), .ref (a 6), .int (nI nx), .ref (a 8), .ref (a 9), .ref (a 10), .ref (a 11), .ref (a 12), .ref (a 13), .ref (a 14)])), ((a 12), .inr (3, [.ref g0, .ref g1, .ref g2, .int (nI qm), .ref g4, .int om2_1, .int kn2_1, .int kl2_1, .ref g8, .ref g9, .ref g10, .ref g11, va_rf lst2_1])), (g0, .inl (ca 0, 36, .inl ws)), (g1, .inl (ca 0, 10, .inl qd)), (g2, .inl (ca 0, 10, .inl kd)), (g4, .inl (ca 0, 10, .inl od2_1)), (g8, .inl (ca 1, 10, .inl us2_1)), (g9, .inl (ca 0, 6, .inl ct2_1)), (g10, .inl (ca 0, 6, .inl sd2_1)), (g11, .inl (ca 0, 6, .inl wt2_1))] (@HAppend.hAppend va_W va_W va_W _ (oL ca lst2_1 LE2_1) tl)) H := va_P.part (X := [(x, .inr (10, [.ref (a 0), .int (nI nl), .ref (a 2), .int (nI nb), .ref (a 4), .int (nI np), .ref (a 6), .int (nI nx), .ref (a 8), .ref (a 9), .ref (a 10), .ref (a 11), .ref (a 12), .ref (a 13), .ref (a 14)])), ((a 12), .inr (3, [.ref g0, .ref g1, .ref g2, .int (nI qm), .ref g4, .int om2_1, .int kn2_1, .int kl2_1, .ref g8, .ref g9, .ref g10, .ref g11, va_rf lst2_1])), (g0, .inl (ca 0, 36, .inl ws)), (g1, .inl (ca 0, 10, .inl qd)), (g2, .inl (ca 0, 10, .inl kd)), (g4, .inl (ca 0, 10, .inl od2_1)), (g8, .inl (ca 1, 10, .inl us2_1)), (g9, .inl (ca 0, 6, .inl ct2_1)), (g10, .inl (ca 0, 6, .inl sd2_1)), (g11, .inl (ca 0, 6, .inl wt2_1))]) hP [0, 1, 2, 3, 4, 5, 6, 7, 8, 9] rfl
      have hD9 : va_D A (@HAppend.hAppend va_W va_W va_W _ [(x, .inr (10, [.ref (a 0), .int (nI nl), .ref (a 2), .int (nI nb), .ref (a 4), .int (nI np), .ref (a 6), .int (nI nx), .ref (a 8), .ref (a 9), .ref (a 10), .ref (a 11), .ref (a 12), .ref (a 13), .ref (a 14)])), ((a 12), .inr (3, [.ref g0, .ref g1, .ref g2, .int (nI qm), .ref g4, .int om2_1, .int kn2_1, .int kl2_1, .ref g8, .ref g9, .ref g10, .ref g11, va_rf lst2_1])), (g0, .inl (ca 0, 36, .inl ws)), (g1, .inl (ca 0, 10, .inl qd)), (g2, .inl (ca 0, 10, .inl kd)), (g4, .inl (ca 0, 10, .inl od2_1)), (g8, .inl (ca 1, 10, .inl us2_1)), (g9, .inl (ca 0, 6, .inl ct2_1)), (g10, .inl (ca 0, 6, .inl sd2_1)), (g11, .inl (ca 0, 6, .inl wt2_1))] (@HAppend.hAppend va_W va_W va_W _ (oL ca lst2_1 LE2_1) tl)) := va_D.part (X := [(x, .inr (10, [.ref (a 0), .int (nI nl), .ref (a 2), .int (nI nb), .ref (a 4), .int (nI np), .ref (a 6), .int (nI nx), .ref (a 8), .ref (a 9), .ref (a 10), .ref (a 11), .ref (a 12), .ref (a 13), .ref (a 14)])), ((a 12), .inr (3, [.ref g0, .ref g1, .ref g2, .int (nI qm), .ref g4, .int om2_1, .int kn2_1, .int kl2_1, .ref g8, .ref g9, .ref g10, .ref g11, va_rf lst2_1])), (g0, .inl (ca 0, 36, .inl ws)), (g1, .inl (ca 0, 10, .inl qd)), (g2, .inl (ca 0, 10, .inl kd)), (g4, .inl (ca 0, 10, .inl od2_1)), (g8, .inl (ca 1, 10, .inl us2_1)), (g9, .inl (ca 0, 6, .inl ct2_1)), (g10, .inl (ca 0, 6, .inl sd2_1)), (g11, .inl (ca 0, 6, .inl wt2_1))]) hD [0, 1, 2, 3, 4, 5, 6, 7, 8, 9] (by decide) rfl
      exact W.iret (v := (od2_1 (v2 : Int32).toNatClampNeg)) hx hb hr (fun t ht hW => ⟨⟨(od2_1 (v2 : Int32).toNatClampNeg), (om2_1, kn2_1, kl2_1, lst2_1, LE2_1, od2_1, us2_1, ct2_1, sd2_1, wt2_1), rfl, ⟨oq_A_y hw_1.2.2 hq.1 c_2 c_4, hw_1⟩, by rw [ht]; dsimp only; exact hP9, by dsimp only; exact hD9⟩, hS.F ht⟩) hS.2.2 dX10_order_51
  · refine lv_aload_n hx hb dX10_order_13 rfl (lv_at hl 0 rfl) ?_
    refine va_get (D := (dC, dI)) (ci := 10) (v := .ref (a 12)) (C := RX10) (T := TX10) (N := 15) hx hb hts inX10 hown hK hP 0 rfl rfl 12 (by decide) (hts _ mw_213) (fun _ h9 => h9) rfl dX10_order_14 ?_
    refine va_get (D := (dC, dI)) (ci := 3) (v := .int om2_1) (C := RX3) (T := TX3) (N := 13) hx hb hts inX3 hown hK hP 1 rfl rfl 5 (by decide) (hts _ mw_112) (fun _ h9 => h9) rfl dX10_order_17 ?_
    refine W.widen (k := (oM lst)) (n := (1944 * oM lst)) (by omega) (by omega) ?_
    have hP9 : va_P (dC, dI) vwCl (@HAppend.hAppend va_W va_W va_W _ [(x, .inr (10, [.ref (a 0), .int (nI nl), .ref (a 2), .int (nI nb), .ref (a 4), .int (nI np), .ref (a 6), .int (nI nx), .ref (a 8), .ref (a 9), .ref (a 10), .ref (a 11), .ref (a 12), .ref (a 13), .ref (a 14)])), ((a 12), .inr (3, [.ref g0, .ref g1, .ref g2, .int (nI qm), .ref g4, .int om2_1, .int kn2_1, .int kl2_1, .ref g8, .ref g9, .ref g10, .ref g11, va_rf lst2_1])), (g0, .inl (ca 0, 36, .inl ws)), (g1, .inl (ca 0, 10, .inl qd)), (g2, .inl (ca 0, 10, .inl kd)), (g4, .inl (ca 0, 10, .inl od2_1)), (g8, .inl (ca 1, 10, .inl us2_1)), (g9, .inl (ca 0, 6, .inl ct2_1)), (g10, .inl (ca 0, 6, .inl sd2_1)), (g11, .inl (ca 0, 6, .inl wt2_1))] (@HAppend.hAppend va_W va_W va_W _ (oL ca lst2_1 LE2_1) tl)) H := va_P.part (X := [(x, .inr (10, [.ref (a 0), .int (nI nl), .ref (a 2), .int (nI nb), .ref (a 4), .int (nI np), .ref (a 6), .int (nI nx), .ref (a 8), .ref (a 9), .ref (a 10), .ref (a 11), .ref (a 12), .ref (a 13), .ref (a 14)])), ((a 12), .inr (3, [.ref g0, .ref g1, .ref g2, .int (nI qm), .ref g4, .int om2_1, .int kn2_1, .int kl2_1, .ref g8, .ref g9, .ref g10, .ref g11, va_rf lst2_1])), (g0, .inl (ca 0, 36, .inl ws)), (g1, .inl (ca 0, 10, .inl qd)), (g2, .inl (ca 0, 10, .inl kd)), (g4, .inl (ca 0, 10, .inl od2_1)), (g8, .inl (ca 1, 10, .inl us2_1)), (g9, .inl (ca 0, 6, .inl ct2_1)), (g10, .inl (ca 0, 6, .inl sd2_1)), (g11, .inl (ca 0, 6, .inl wt2_1))]) hP [0, 1, 2, 3, 4, 5, 6, 7, 8, 9] rfl
    have hD9 : va_D A (@HAppend.hAppend va_W va_W va_W _ [(x, .inr (10, [.ref (a 0), .int (nI nl), .ref (a 2), .int (nI nb), .ref (a 4), .int (nI np), .ref (a 6), .int (nI nx), .ref (a 8), .ref (a 9), .ref (a 10), .ref (a 11), .ref (a 12), .ref (a 13), .ref (a 14)])), ((a 12), .inr (3, [.ref g0, .ref g1, .ref g2, .int (nI qm), .ref g4, .int om2_1, .int kn2_1, .int kl2_1, .ref g8, .ref g9, .ref g10, .ref g11, va_rf lst2_1])), (g0, .inl (ca 0, 36, .inl ws)), (g1, .inl (ca 0, 10, .inl qd)), (g2, .inl (ca 0, 10, .inl kd)), (g4, .inl (ca 0, 10, .inl od2_1)), (g8, .inl (ca 1, 10, .inl us2_1)), (g9, .inl (ca 0, 6, .inl ct2_1)), (g10, .inl (ca 0, 6, .inl sd2_1)), (g11, .inl (ca 0, 6, .inl wt2_1))] (@HAppend.hAppend va_W va_W va_W _ (oL ca lst2_1 LE2_1) tl)) := va_D.part (X := [(x, .inr (10, [.ref (a 0), .int (nI nl), .ref (a 2), .int (nI nb), .ref (a 4), .int (nI np), .ref (a 6), .int (nI nx), .ref (a 8), .ref (a 9), .ref (a 10), .ref (a 11), .ref (a 12), .ref (a 13), .ref (a 14)])), ((a 12), .inr (3, [.ref g0, .ref g1, .ref g2, .int (nI qm), .ref g4, .int om2_1, .int kn2_1, .int kl2_1, .ref g8, .ref g9, .ref g10, .ref g11, va_rf lst2_1])), (g0, .inl (ca 0, 36, .inl ws)), (g1, .inl (ca 0, 10, .inl qd)), (g2, .inl (ca 0, 10, .inl kd)), (g4, .inl (ca 0, 10, .inl od2_1)), (g8, .inl (ca 1, 10, .inl us2_1)), (g9, .inl (ca 0, 6, .inl ct2_1)), (g10, .inl (ca 0, 6, .inl sd2_1)), (g11, .inl (ca 0, 6, .inl wt2_1))]) hD [0, 1, 2, 3, 4, 5, 6, 7, 8, 9] (by decide) rfl
    exact W.iret (v := om2_1) hx hb hr (fun t ht hW => ⟨⟨om2_1, (om2_1, kn2_1, kl2_1, lst2_1, LE2_1, od2_1, us2_1, ct2_1, sd2_1, wt2_1), rfl, ⟨oq_A_1 hw_1.2.2 c_2, hw_1⟩, by rw [ht]; dsimp only; exact hP9, by dsimp only; exact hD9⟩, hS.F ht⟩) hS.2.2 dX10_order_20
