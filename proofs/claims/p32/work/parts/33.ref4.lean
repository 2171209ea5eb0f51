/-! ===== the reference's table of sums ===== -/
/-- a row of the table, below s0: what is reached is reached by a piece or without it -/
def rRow (R : Nat → Int32) (w : Nat → Nat) (n i s0 : Nat) : Prop := ∀ s, s < s0 → ¬ R (8500 * i + s) = 0 → (i = n ∧ s = 0) ∨ (i < n ∧ (¬ R (8500 * (i + 1) + s) = 0 ∨ (w i ≤ s ∧ ¬ R (8500 * (i + 1) + (s - w i)) = 0)))
def rTab (R : Nat → Int32) (w : Nat → Nat) (n j : Nat) : Prop := ∀ i, j ≤ i → i ≤ n → rRow R w n i 8500
/-- 8500 is reached by some piece from i on -/
def r85 (R : Nat → Int32) (w : Nat → Nat) (n i : Nat) : Prop := ∃ k, i ≤ k ∧ k < n ∧ 0 < w k ∧ w k ≤ 8500 ∧ ¬ R (8500 * (k + 1) + (8500 - w k)) = 0
def rGo (R : Nat → Int32) (w : Nat → Nat) (n i s : Nat) : Prop := (s < 8500 ∧ ¬ R (8500 * i + s) = 0) ∨ (s = 8500 ∧ r85 R w n i)
theorem rTab_top (R : Nat → Int32) (w : Nat → Nat) (n : Nat) : rTab R w n (n + 1) := fun i h1 h2 => absurd h2 (by omega)
theorem rRow_0 (R : Nat → Int32) (w : Nat → Nat) (n i : Nat) : rRow R w n i 0 := fun s h => absurd h (Nat.not_lt_zero s)
theorem rTab_dn {R : Nat → Int32} {w : Nat → Nat} {n i : Nat} (hT : rTab R w n (i + 1)) (hr : rRow R w n i 8500) : rTab R w n i := fun k h1 h2 => by
  rcases Nat.lt_or_ge i k with h | h
  · exact hT k h h2
  · have e : k = i := by omega
    subst e; exact hr
theorem rTab_set {R : Nat → Int32} {w : Nat → Nat} {n i s0 : Nat} {v : Int32} (hT : rTab R w n (i + 1)) (hs : s0 < 8500) : rTab (upd R (8500 * i + s0) v) w n (i + 1) := fun k h1 h2 s h3 h4 => by
  have e1 : ∀ q, 8500 * (i + 1) ≤ q → upd R (8500 * i + s0) v q = R q := fun q hq => pk_un (by omega)
  rw [e1 _ (by omega)] at h4
  rcases hT k h1 h2 s h3 h4 with h | ⟨h5, h | ⟨h6, h⟩⟩
  · exact Or.inl h
  · exact Or.inr ⟨h5, Or.inl (by rw [e1 _ (by omega)]; exact h)⟩
  · exact Or.inr ⟨h5, Or.inr ⟨h6, by rw [e1 _ (by omega)]; exact h⟩⟩
theorem rRow_set {R : Nat → Int32} {w : Nat → Nat} {n i s0 : Nat} {v : Int32} (hr : rRow R w n i s0) (hs : s0 < 8500) (hv : ¬ v = 0 → (i = n ∧ s0 = 0) ∨ (i < n ∧ (¬ R (8500 * (i + 1) + s0) = 0 ∨ (w i ≤ s0 ∧ ¬ R (8500 * (i + 1) + (s0 - w i)) = 0)))) : rRow (upd R (8500 * i + s0) v) w n i (s0 + 1) := fun s h3 h4 => by
  have e1 : ∀ q, ¬ q = 8500 * i + s0 → upd R (8500 * i + s0) v q = R q := fun q hq => pk_un hq
  have key : (i = n ∧ s = 0) ∨ (i < n ∧ (¬ R (8500 * (i + 1) + s) = 0 ∨ (w i ≤ s ∧ ¬ R (8500 * (i + 1) + (s - w i)) = 0))) := by
    by_cases e : s = s0
    · subst e
      rw [pk_us] at h4
      exact hv h4
    · rw [e1 _ (by omega)] at h4
      exact hr s (by omega) h4
  rcases key with h | ⟨h5, h | ⟨h6, h⟩⟩
  · exact Or.inl h
  · exact Or.inr ⟨h5, Or.inl (by rw [e1 _ (by omega)]; exact h)⟩
  · exact Or.inr ⟨h5, Or.inr ⟨h6, by rw [e1 _ (by omega)]; exact h⟩⟩
/-- no piece is taken at i: the sum is still to be reached from i + 1 on -/
theorem rGo_s {R : Nat → Int32} {w : Nat → Nat} {n i s : Nat} (hT : rTab R w n 0) (hi : i < n) (hs : 1 ≤ s) (h : rGo R w n i s) (hno : w i ≤ s → s - w i < 8500 → R (8500 * (i + 1) + (s - w i)) = 0) : rGo R w n (i + 1) s := by
  rcases h with ⟨h1, h2⟩ | ⟨h1, k, h2, h3, h4, h5, h6⟩
  · rcases hT i (by omega) (by omega) s h1 h2 with h | ⟨h5, h | ⟨h6, h⟩⟩
    · omega
    · exact Or.inl ⟨h1, h⟩
    · exact absurd (hno h6 (by omega)) h
  · refine Or.inr ⟨h1, k, ?_, h3, h4, h5, h6⟩
    rcases Nat.lt_or_ge i k with h | h
    · omega
    · have e : k = i := by omega
      subst e
      exact absurd (hno (by omega) (by omega)) (by rw [h1]; exact h6)
theorem rGo_end {R : Nat → Int32} {w : Nat → Nat} {n s : Nat} (hT : rTab R w n 0) (hs : 1 ≤ s) (h : rGo R w n n s) : False := by
  rcases h with ⟨h1, h2⟩ | ⟨h1, k, h2, h3, h4⟩
  · rcases hT n (by omega) (by omega) s h1 h2 with h | ⟨h5, h⟩ <;> omega
  · omega
/-- what gather takes: not gone, each once -/
def gaI (gn nw : Nat → Int32) (n i : Nat) : Prop := (∀ q, q < n → ∃ k : Nat, k < i ∧ nw q = nI k ∧ gn k = 0) ∧ ∀ a b, a < b → b < n → ¬ nw a = nw b
theorem gaI_0 (gn nw : Nat → Int32) (i : Nat) : gaI gn nw 0 i := ⟨fun q h => absurd h (Nat.not_lt_zero q), fun a b _ h => absurd h (Nat.not_lt_zero b)⟩
theorem gaI_sk {gn nw : Nat → Int32} {n i : Nat} (h : gaI gn nw n i) : gaI gn nw n (i + 1) := ⟨fun q hq => by
  obtain ⟨k, h1, h2⟩ := h.1 q hq
  exact ⟨k, by omega, h2⟩, h.2⟩
theorem gaI_add {gn nw : Nat → Int32} {n i : Nat} (h : gaI gn nw n i) (hi : i < 2 ^ 31) (hg : gn i = 0) : gaI gn (upd nw n (nI i)) (n + 1) (i + 1) := ⟨fun q hq => by
  by_cases e : q = n
  · subst e; exact ⟨i, by omega, pk_us, hg⟩
  · obtain ⟨k, h1, h2⟩ := h.1 q (by omega)
    exact ⟨k, by omega, by rw [pk_un e]; exact h2.1, h2.2⟩, fun a b hab hb => by
  rw [pk_un (show ¬ a = n by omega)]
  by_cases e : b = n
  · subst e
    rw [pk_us]
    obtain ⟨k, h1, h2⟩ := h.1 a (by omega)
    rw [h2.1]
    intro e2
    have := (nI_eq (by omega) hi).mp e2
    omega
  · rw [pk_un e]; exact h.2 a b hab (by omega)⟩
/-- how many are not gone -/
def ngo (g : Nat → Int32) : Nat → Nat
  | 0 => 0
  | n + 1 => ngo g n + (if g n = 0 then 1 else 0)
theorem ngo_le {g g2 : Nat → Int32} : ∀ n : Nat, (∀ j, j < n → g j = 0 ∨ ¬ g2 j = 0) → ngo g2 n ≤ ngo g n
  | 0, _ => Nat.le_refl _
  | n + 1, h => by
    have h1 := ngo_le n (fun j hj => h j (by omega))
    show ngo g2 n + _ ≤ ngo g n + _
    rcases h n (by omega) with h2 | h2
    · rw [if_pos h2]; split <;> omega
    · rw [if_neg h2]; omega
theorem ngo_lt {g g2 : Nat → Int32} {k : Nat} : ∀ n : Nat, (∀ j, j < n → g j = 0 ∨ ¬ g2 j = 0) → k < n → g k = 0 → ¬ g2 k = 0 → ngo g2 n < ngo g n
  | 0, _, h, _, _ => absurd h (Nat.not_lt_zero k)
  | n + 1, h, hk, h1, h2 => by
    show ngo g2 n + _ < ngo g n + _
    by_cases e : k = n
    · subst e
      rw [if_pos h1, if_neg h2]
      have := ngo_le k (fun j hj => h j (by omega))
      omega
    · have := ngo_lt (k := k) n (fun j hj => h j (by omega)) (by omega) h1 h2
      rcases h n (by omega) with h3 | h3
      · rw [if_pos h3]; split <;> omega
      · rw [if_neg h3]; omega

theorem gaI_mo {gn nw : Nat → Int32} {n i k : Nat} (h : gaI gn nw n i) (hk : i ≤ k) : gaI gn nw n k := ⟨fun q hq => by
  obtain ⟨j, h1, h2⟩ := h.1 q hq
  exact ⟨j, by omega, h2⟩, h.2⟩

set_option maxHeartbeats 4000000 in
set_option maxRecDepth 100000 in
theorem m_list (l : Launch) (dC : Nat → ClassId) (dI : Nat → Nat → Nat) (ca : Nat → ClassId) (sz : Nat) (y : Nat) (b2 : Nat → Nat) (ml : Nat) (mb : Nat) (mp : Nat) (mx : Nat) (mr : Nat) (mq : Nat) (gl : Int32) (gh : Int32) (mch : Nat) (mli : Nat) (mno : Nat) (A43 : Nat → Int32) (A41 : Nat → Int32) (A39 : Nat → Int32) (A40 : Nat → Int32) (A8 : Nat → Int32) (A36 : Nat → Int32) (A38 : Nat → Int32) (A45 : Nat → Int32) (A46 : Nat → Int32) (v1 : Int32) (hM : mI ml mb mp mx mr mq mch mli mno) (h_tray : ∀ j, ot (A43 j)) (h_batchOfPiece : ∀ j, cnt (A36 j) 39) (h_choice : ∀ j, cnt (A45 j) 599) : Met l yX11_list (Cond.code yX11_list cX11_list 4 none :: gT) ({ frames := 2, cells := 0, slots := 0, locals := 81 }) (va_Pc [.ref y, .int v1] (pr (dC, dI) sz [(y, .inr (11, [.int (nI ml), .int (nI mb), .int (nI mp), .int (nI mx), .int (nI mr), .int (nI mq), .ref (b2 6), .ref (b2 7), .ref (b2 8), .ref (b2 9), .ref (b2 10), .ref (b2 11), .ref (b2 12), .ref (b2 13), .ref (b2 14), .ref (b2 15), .ref (b2 16), .ref (b2 17), .ref (b2 18), .ref (b2 19), .ref (b2 20), .ref (b2 21), .ref (b2 22), .ref (b2 23), .ref (b2 24), .ref (b2 25), .ref (b2 26), .ref (b2 27), .ref (b2 28), .int gl, .int gh, .ref (b2 31), .ref (b2 32), .ref (b2 33), .ref (b2 34), .ref (b2 35), .ref (b2 36), .ref (b2 37), .ref (b2 38), .ref (b2 39), .ref (b2 40), .ref (b2 41), .ref (b2 42), .ref (b2 43), .ref (b2 44), .ref (b2 45), .ref (b2 46), .ref (b2 47), .int (nI mch), .int (nI mli), .ref (b2 50), .ref (b2 51), .int (nI mno), .ref (b2 53), .ref (b2 54), .ref (b2 55)])), ((b2 43), .inl (ca 0, 144, .inl A43)), ((b2 41), .inl (ca 0, 600, .inl A41)), ((b2 39), .inl (ca 0, 600, .inl A39)), ((b2 40), .inl (ca 1, 600, .inl A40)), ((b2 8), .inl (ca 0, 40, .inl A8)), ((b2 36), .inl (ca 0, 600, .inl A36)), ((b2 38), .inl (ca 0, 600, .inl A38)), ((b2 45), .inl (ca 0, 144, .inl A45)), ((b2 46), .inl (ca 1, 144, .inl A46))] (aT ca))) (va_Qv (fun (u_ : Nat × Nat × (Nat → Int32) × (Nat → Int32)) => mI ml mb mp mx mr mq u_.1 u_.2.1 mno ∧ ∀ j, cnt (u_.2.2.1 j) 599) (fun (u_ : Nat × Nat × (Nat → Int32) × (Nat → Int32)) t => va_P (dC, dI) vwCl [(y, .inr (11, [.int (nI ml), .int (nI mb), .int (nI mp), .int (nI mx), .int (nI mr), .int (nI mq), .ref (b2 6), .ref (b2 7), .ref (b2 8), .ref (b2 9), .ref (b2 10), .ref (b2 11), .ref (b2 12), .ref (b2 13), .ref (b2 14), .ref (b2 15), .ref (b2 16), .ref (b2 17), .ref (b2 18), .ref (b2 19), .ref (b2 20), .ref (b2 21), .ref (b2 22), .ref (b2 23), .ref (b2 24), .ref (b2 25), .ref (b2 26), .ref (b2 27), .ref (b2 28), .int gl, .int gh, .ref (b2 31), .ref (b2 32), .ref (b2 33), .ref (b2 34), .ref (b2 35), .ref (b2 36), .ref (b2 37), .ref (b2 38), .ref (b2 39), .ref (b2 40), .ref (b2 41), .ref (b2 42), .ref (b2 43), .ref (b2 44), .ref (b2 45), .ref (b2 46), .ref (b2 47), .int (nI u_.1), .int (nI u_.2.1), .ref (b2 50), .ref (b2 51), .int (nI mno), .ref (b2 53), .ref (b2 54), .ref (b2 55)])), ((b2 43), .inl (ca 0, 144, .inl A43)), ((b2 41), .inl (ca 0, 600, .inl A41)), ((b2 39), .inl (ca 0, 600, .inl A39)), ((b2 40), .inl (ca 1, 600, .inl A40)), ((b2 8), .inl (ca 0, 40, .inl A8)), ((b2 36), .inl (ca 0, 600, .inl A36)), ((b2 38), .inl (ca 0, 600, .inl A38)), ((b2 45), .inl (ca 0, 144, .inl u_.2.2.1)), ((b2 46), .inl (ca 1, 144, .inl u_.2.2.2))] t.heap ∧ va_D (va_A [(y, .inr (11, [.int (nI ml), .int (nI mb), .int (nI mp), .int (nI mx), .int (nI mr), .int (nI mq), .ref (b2 6), .ref (b2 7), .ref (b2 8), .ref (b2 9), .ref (b2 10), .ref (b2 11), .ref (b2 12), .ref (b2 13), .ref (b2 14), .ref (b2 15), .ref (b2 16), .ref (b2 17), .ref (b2 18), .ref (b2 19), .ref (b2 20), .ref (b2 21), .ref (b2 22), .ref (b2 23), .ref (b2 24), .ref (b2 25), .ref (b2 26), .ref (b2 27), .ref (b2 28), .int gl, .int gh, .ref (b2 31), .ref (b2 32), .ref (b2 33), .ref (b2 34), .ref (b2 35), .ref (b2 36), .ref (b2 37), .ref (b2 38), .ref (b2 39), .ref (b2 40), .ref (b2 41), .ref (b2 42), .ref (b2 43), .ref (b2 44), .ref (b2 45), .ref (b2 46), .ref (b2 47), .int (nI mch), .int (nI mli), .ref (b2 50), .ref (b2 51), .int (nI mno), .ref (b2 53), .ref (b2 54), .ref (b2 55)])), ((b2 43), .inl (ca 0, 144, .inl A43)), ((b2 41), .inl (ca 0, 600, .inl A41)), ((b2 39), .inl (ca 0, 600, .inl A39)), ((b2 40), .inl (ca 1, 600, .inl A40)), ((b2 8), .inl (ca 0, 40, .inl A8)), ((b2 36), .inl (ca 0, 600, .inl A36)), ((b2 38), .inl (ca 0, 600, .inl A38)), ((b2 45), .inl (ca 0, 144, .inl A45)), ((b2 46), .inl (ca 1, 144, .inl A46))] sz) [(y, .inr (11, [.int (nI ml), .int (nI mb), .int (nI mp), .int (nI mx), .int (nI mr), .int (nI mq), .ref (b2 6), .ref (b2 7), .ref (b2 8), .ref (b2 9), .ref (b2 10), .ref (b2 11), .ref (b2 12), .ref (b2 13), .ref (b2 14), .ref (b2 15), .ref (b2 16), .ref (b2 17), .ref (b2 18), .ref (b2 19), .ref (b2 20), .ref (b2 21), .ref (b2 22), .ref (b2 23), .ref (b2 24), .ref (b2 25), .ref (b2 26), .ref (b2 27), .ref (b2 28), .int gl, .int gh, .ref (b2 31), .ref (b2 32), .ref (b2 33), .ref (b2 34), .ref (b2 35), .ref (b2 36), .ref (b2 37), .ref (b2 38), .ref (b2 39), .ref (b2 40), .ref (b2 41), .ref (b2 42), .ref (b2 43), .ref (b2 44), .ref (b2 45), .ref (b2 46), .ref (b2 47), .int (nI u_.1), .int (nI u_.2.1), .ref (b2 50), .ref (b2 51), .int (nI mno), .ref (b2 53), .ref (b2 54), .ref (b2 55)])), ((b2 43), .inl (ca 0, 144, .inl A43)), ((b2 41), .inl (ca 0, 600, .inl A41)), ((b2 39), .inl (ca 0, 600, .inl A39)), ((b2 40), .inl (ca 1, 600, .inl A40)), ((b2 8), .inl (ca 0, 40, .inl A8)), ((b2 36), .inl (ca 0, 600, .inl A36)), ((b2 38), .inl (ca 0, 600, .inl A38)), ((b2 45), .inl (ca 0, 144, .inl u_.2.2.1)), ((b2 46), .inl (ca 1, 144, .inl u_.2.2.2))]) (va_A [(y, .inr (11, [.int (nI ml), .int (nI mb), .int (nI mp), .int (nI mx), .int (nI mr), .int (nI mq), .ref (b2 6), .ref (b2 7), .ref (b2 8), .ref (b2 9), .ref (b2 10), .ref (b2 11), .ref (b2 12), .ref (b2 13), .ref (b2 14), .ref (b2 15), .ref (b2 16), .ref (b2 17), .ref (b2 18), .ref (b2 19), .ref (b2 20), .ref (b2 21), .ref (b2 22), .ref (b2 23), .ref (b2 24), .ref (b2 25), .ref (b2 26), .ref (b2 27), .ref (b2 28), .int gl, .int gh, .ref (b2 31), .ref (b2 32), .ref (b2 33), .ref (b2 34), .ref (b2 35), .ref (b2 36), .ref (b2 37), .ref (b2 38), .ref (b2 39), .ref (b2 40), .ref (b2 41), .ref (b2 42), .ref (b2 43), .ref (b2 44), .ref (b2 45), .ref (b2 46), .ref (b2 47), .int (nI mch), .int (nI mli), .ref (b2 50), .ref (b2 51), .int (nI mno), .ref (b2 53), .ref (b2 54), .ref (b2 55)])), ((b2 43), .inl (ca 0, 144, .inl A43)), ((b2 41), .inl (ca 0, 600, .inl A41)), ((b2 39), .inl (ca 0, 600, .inl A39)), ((b2 40), .inl (ca 1, 600, .inl A40)), ((b2 8), .inl (ca 0, 40, .inl A8)), ((b2 36), .inl (ca 0, 600, .inl A36)), ((b2 38), .inl (ca 0, 600, .inl A38)), ((b2 45), .inl (ca 0, 144, .inl A45)), ((b2 46), .inl (ca 1, 144, .inl A46))] sz)) 0 0 (va_A [(y, .inr (11, [.int (nI ml), .int (nI mb), .int (nI mp), .int (nI mx), .int (nI mr), .int (nI mq), .ref (b2 6), .ref (b2 7), .ref (b2 8), .ref (b2 9), .ref (b2 10), .ref (b2 11), .ref (b2 12), .ref (b2 13), .ref (b2 14), .ref (b2 15), .ref (b2 16), .ref (b2 17), .ref (b2 18), .ref (b2 19), .ref (b2 20), .ref (b2 21), .ref (b2 22), .ref (b2 23), .ref (b2 24), .ref (b2 25), .ref (b2 26), .ref (b2 27), .ref (b2 28), .int gl, .int gh, .ref (b2 31), .ref (b2 32), .ref (b2 33), .ref (b2 34), .ref (b2 35), .ref (b2 36), .ref (b2 37), .ref (b2 38), .ref (b2 39), .ref (b2 40), .ref (b2 41), .ref (b2 42), .ref (b2 43), .ref (b2 44), .ref (b2 45), .ref (b2 46), .ref (b2 47), .int (nI mch), .int (nI mli), .ref (b2 50), .ref (b2 51), .int (nI mno), .ref (b2 53), .ref (b2 54), .ref (b2 55)])), ((b2 43), .inl (ca 0, 144, .inl A43)), ((b2 41), .inl (ca 0, 600, .inl A41)), ((b2 39), .inl (ca 0, 600, .inl A39)), ((b2 40), .inl (ca 1, 600, .inl A40)), ((b2 8), .inl (ca 0, 40, .inl A8)), ((b2 36), .inl (ca 0, 600, .inl A36)), ((b2 38), .inl (ca 0, 600, .inl A38)), ((b2 45), .inl (ca 0, 144, .inl A45)), ((b2 46), .inl (ca 1, 144, .inl A46))] sz) := by
  refine Met.ofW (cc := cX11_list) (maxL := 4) (ret := none) (by decide) rfl ?_
  intro p e s m args below meth c s₁ B hml hv
  obtain ⟨rfl, hsz, hP, hK, hD0, hE⟩ := hv
  have hx := B.exec
  have hb := B.bytes
  have hr := B.returns
  have hts : ∀ w ∈ gT, w.before _ s = true := fun w h => atoms_spec (ws := Cond.code yX11_list cX11_list 4 none :: gT) B.pre w (List.mem_cons_of_mem _ h)
  have hown : s.vm.findClass RX11 = some m.cls := findClass_of_methodNamed B.named
  have hlocks := B.notSynchronized
  subst hsz
  have hD := hD0.self (sz := s.heap.size)
  generalize hAe : va_A [(y, .inr (11, [.int (nI ml), .int (nI mb), .int (nI mp), .int (nI mx), .int (nI mr), .int (nI mq), .ref (b2 6), .ref (b2 7), .ref (b2 8), .ref (b2 9), .ref (b2 10), .ref (b2 11), .ref (b2 12), .ref (b2 13), .ref (b2 14), .ref (b2 15), .ref (b2 16), .ref (b2 17), .ref (b2 18), .ref (b2 19), .ref (b2 20), .ref (b2 21), .ref (b2 22), .ref (b2 23), .ref (b2 24), .ref (b2 25), .ref (b2 26), .ref (b2 27), .ref (b2 28), .int gl, .int gh, .ref (b2 31), .ref (b2 32), .ref (b2 33), .ref (b2 34), .ref (b2 35), .ref (b2 36), .ref (b2 37), .ref (b2 38), .ref (b2 39), .ref (b2 40), .ref (b2 41), .ref (b2 42), .ref (b2 43), .ref (b2 44), .ref (b2 45), .ref (b2 46), .ref (b2 47), .int (nI mch), .int (nI mli), .ref (b2 50), .ref (b2 51), .int (nI mno), .ref (b2 53), .ref (b2 54), .ref (b2 55)])), ((b2 43), .inl (ca 0, 144, .inl A43)), ((b2 41), .inl (ca 0, 600, .inl A41)), ((b2 39), .inl (ca 0, 600, .inl A39)), ((b2 40), .inl (ca 1, 600, .inl A40)), ((b2 8), .inl (ca 0, 40, .inl A8)), ((b2 36), .inl (ca 0, 600, .inl A36)), ((b2 38), .inl (ca 0, 600, .inl A38)), ((b2 45), .inl (ca 0, 144, .inl A45)), ((b2 46), .inl (ca 1, 144, .inl A46))] s.heap.size = A at hD ⊢
  have hA : ∀ q : Nat, s.heap.size ≤ q → A q := fun q h => by rw [← hAe]; exact Or.inr h
  have hS : va_S A s.heap s.heap [] := va_S.rf
  have hl := lv_entry ([.ref y, .int v1]) (n := 4) (Nat.le_of_ble_eq_true rfl)
  rw [lg_entry_eq]
  generalize (lg_sl ([.ref y, .int v1]) ++ List.replicate (4 - (lg_sl ([.ref y, .int v1])).length) Slot.unset).toArray = ls at hl ⊢
  have hl : lv_has ls 4 [(0, .ref y), (1, .int v1)] := hl
  obtain ⟨hm1, hm2, hm3, hm4, hm5, hm6, hm7, hm8, hm9⟩ := id hM
  refine lv_aload_n hx hb dX11_list_0 rfl (lv_at hl 0 rfl) ?_
  refine lv_iconst (v := 0) hx hb dX11_list_1 (by decide) ?_
  refine va_put (D := (dC, dI)) (ci := 11) (v := .int 0) (ty := .int) (C := RX11) (T := TX11) (N := 56) hx hb hts inX11 tyX11 tyX11_ok nmX11 hown hK hP hD hS 0 rfl rfl 49 (by decide) (hts _ mw_929) (fun _ h9 => h9) rfl (by decide +kernel) rfl rfl (Nat.le_of_ble_eq_true rfl) dX11_list_2 (fun H locs hP hD hS => ?_)
  obtain ⟨hP, hD⟩ := va_bo [(y, .inr (11, [.int (nI ml), .int (nI mb), .int (nI mp), .int (nI mx), .int (nI mr), .int (nI mq), .ref (b2 6), .ref (b2 7), .ref (b2 8), .ref (b2 9), .ref (b2 10), .ref (b2 11), .ref (b2 12), .ref (b2 13), .ref (b2 14), .ref (b2 15), .ref (b2 16), .ref (b2 17), .ref (b2 18), .ref (b2 19), .ref (b2 20), .ref (b2 21), .ref (b2 22), .ref (b2 23), .ref (b2 24), .ref (b2 25), .ref (b2 26), .ref (b2 27), .ref (b2 28), .int gl, .int gh, .ref (b2 31), .ref (b2 32), .ref (b2 33), .ref (b2 34), .ref (b2 35), .ref (b2 36), .ref (b2 37), .ref (b2 38), .ref (b2 39), .ref (b2 40), .ref (b2 41), .ref (b2 42), .ref (b2 43), .ref (b2 44), .ref (b2 45), .ref (b2 46), .ref (b2 47), .int (nI mch), .int 0, .ref (b2 50), .ref (b2 51), .int (nI mno), .ref (b2 53), .ref (b2 54), .ref (b2 55)])), ((b2 43), .inl (ca 0, 144, .inl A43)), ((b2 41), .inl (ca 0, 600, .inl A41)), ((b2 39), .inl (ca 0, 600, .inl A39)), ((b2 40), .inl (ca 1, 600, .inl A40)), ((b2 8), .inl (ca 0, 40, .inl A8)), ((b2 36), .inl (ca 0, 600, .inl A36)), ((b2 38), .inl (ca 0, 600, .inl A38)), ((b2 45), .inl (ca 0, 144, .inl A45)), ((b2 46), .inl (ca 1, 144, .inl A46))] hP hD
  refine lv_iconst (v := 0) hx hb dX11_list_5 (by decide) ?_
  refine lv_istore_n (lv' := [(2, .int 0), (0, .ref y), (1, .int v1)]) hx hb dX11_list_6 rfl hl (by decide) rfl (fun ls hl => ?_)
  refine wl_loop (fun (z_ : Nat × Nat × (Nat → Int32) × (Nat → Int32)) H locs ls => (z_.1 ≤ 144 ∧ z_.2.1 ≤ z_.1 ∧ ∀ j, cnt (z_.2.2.1 j) 599) ∧ va_P (dC, dI) vwCl [(y, .inr (11, [.int (nI ml), .int (nI mb), .int (nI mp), .int (nI mx), .int (nI mr), .int (nI mq), .ref (b2 6), .ref (b2 7), .ref (b2 8), .ref (b2 9), .ref (b2 10), .ref (b2 11), .ref (b2 12), .ref (b2 13), .ref (b2 14), .ref (b2 15), .ref (b2 16), .ref (b2 17), .ref (b2 18), .ref (b2 19), .ref (b2 20), .ref (b2 21), .ref (b2 22), .ref (b2 23), .ref (b2 24), .ref (b2 25), .ref (b2 26), .ref (b2 27), .ref (b2 28), .int gl, .int gh, .ref (b2 31), .ref (b2 32), .ref (b2 33), .ref (b2 34), .ref (b2 35), .ref (b2 36), .ref (b2 37), .ref (b2 38), .ref (b2 39), .ref (b2 40), .ref (b2 41), .ref (b2 42), .ref (b2 43), .ref (b2 44), .ref (b2 45), .ref (b2 46), .ref (b2 47), .int (nI mch), .int (nI z_.2.1), .ref (b2 50), .ref (b2 51), .int (nI mno), .ref (b2 53), .ref (b2 54), .ref (b2 55)])), ((b2 43), .inl (ca 0, 144, .inl A43)), ((b2 41), .inl (ca 0, 600, .inl A41)), ((b2 39), .inl (ca 0, 600, .inl A39)), ((b2 40), .inl (ca 1, 600, .inl A40)), ((b2 8), .inl (ca 0, 40, .inl A8)), ((b2 36), .inl (ca 0, 600, .inl A36)), ((b2 38), .inl (ca 0, 600, .inl A38)), ((b2 45), .inl (ca 0, 144, .inl z_.2.2.1)), ((b2 46), .inl (ca 1, 144, .inl z_.2.2.2))] H ∧ va_D A [(y, .inr (11, [.int (nI ml), .int (nI mb), .int (nI mp), .int (nI mx), .int (nI mr), .int (nI mq), .ref (b2 6), .ref (b2 7), .ref (b2 8), .ref (b2 9), .ref (b2 10), .ref (b2 11), .ref (b2 12), .ref (b2 13), .ref (b2 14), .ref (b2 15), .ref (b2 16), .ref (b2 17), .ref (b2 18), .ref (b2 19), .ref (b2 20), .ref (b2 21), .ref (b2 22), .ref (b2 23), .ref (b2 24), .ref (b2 25), .ref (b2 26), .ref (b2 27), .ref (b2 28), .int gl, .int gh, .ref (b2 31), .ref (b2 32), .ref (b2 33), .ref (b2 34), .ref (b2 35), .ref (b2 36), .ref (b2 37), .ref (b2 38), .ref (b2 39), .ref (b2 40), .ref (b2 41), .ref (b2 42), .ref (b2 43), .ref (b2 44), .ref (b2 45), .ref (b2 46), .ref (b2 47), .int (nI mch), .int (nI z_.2.1), .ref (b2 50), .ref (b2 51), .int (nI mno), .ref (b2 53), .ref (b2 54), .ref (b2 55)])), ((b2 43), .inl (ca 0, 144, .inl A43)), ((b2 41), .inl (ca 0, 600, .inl A41)), ((b2 39), .inl (ca 0, 600, .inl A39)), ((b2 40), .inl (ca 1, 600, .inl A40)), ((b2 8), .inl (ca 0, 40, .inl A8)), ((b2 36), .inl (ca 0, 600, .inl A36)), ((b2 38), .inl (ca 0, 600, .inl A38)), ((b2 45), .inl (ca 0, 144, .inl z_.2.2.1)), ((b2 46), .inl (ca 1, 144, .inl z_.2.2.2))] ∧ va_S A s.heap H locs ∧ lv_has ls 4 [(2, .int (nI z_.1)), (0, .ref y), (1, .int v1)]) (fun (z_ : Nat × Nat × (Nat → Int32) × (Nat → Int32)) => 144 - z_.1) (fun z_ H locs ls hI ih => ?_) (0, 0, A45, A46) ⟨⟨Nat.zero_le _, Nat.le_refl _, h_choice⟩, hP, hD, hS, lv_sub hl [0, 1, 2] rfl⟩
  obtain ⟨i, l1, C1_, G1_⟩ := z_
  dsimp only at hI ih
  obtain ⟨⟨hi, hl1, hC1⟩, hP, hD, hS, hl⟩ := hI
  refine lv_iload_n hx hb dX11_list_7 rfl (lv_at hl 0 rfl) ?_
  refine lv_sipush (v := 144) hx hb dX11_list_8 (by decide) ?_
  refine lv_icmp_ge (tgt := 84) hx hb dX11_list_11 (by decide) (fun c_1 => ?_) (fun c_1 => ?_)
  · have nc_1 : 144 ≤ i := (nI_leI (a := 144) (b := i) (by omega) (by omega)).mp c_1
    refine lv_aload_n hx hb dX11_list_84 rfl (lv_at hl 1 rfl) ?_
    refine lv_aload_n hx hb dX11_list_85 rfl (lv_at hl 1 rfl) ?_
    refine va_get (D := (dC, dI)) (ci := 11) (v := .int (nI l1)) (C := RX11) (T := TX11) (N := 56) hx hb hts inX11 hown hK hP 0 rfl rfl 49 (by decide) (hts _ mw_929) (fun _ h9 => h9) rfl dX11_list_86 ?_
    refine lv_bipush (v := 40) hx hb dX11_list_89 (by decide) ?_
    refine lv_icmp_le (tgt := 99) hx hb dX11_list_91 (by decide) (fun c_2 => ?_) (fun c_2 => ?_)
    · have nc_2 : l1 ≤ 40 := (nI_leI (a := l1) (b := 40) (by omega) (by omega)).mp c_2
      refine lv_aload_n hx hb dX11_list_99 rfl (lv_at hl 1 rfl) ?_
      refine va_get (D := (dC, dI)) (ci := 11) (v := .int (nI l1)) (C := RX11) (T := TX11) (N := 56) hx hb hts inX11 hown hK hP 0 rfl rfl 49 (by decide) (hts _ mw_929) (fun _ h9 => h9) rfl dX11_list_100 ?_
      refine va_put (D := (dC, dI)) (ci := 11) (v := .int (nI l1)) (ty := .int) (C := RX11) (T := TX11) (N := 56) hx hb hts inX11 tyX11 tyX11_ok nmX11 hown hK hP hD hS 0 rfl rfl 48 (by decide) (hts _ mw_928) (fun _ h9 => h9) rfl (by decide +kernel) rfl rfl (Nat.le_of_ble_eq_true rfl) dX11_list_103 (fun H locs hP hD hS => ?_)
      obtain ⟨hP, hD⟩ := va_bo [(y, .inr (11, [.int (nI ml), .int (nI mb), .int (nI mp), .int (nI mx), .int (nI mr), .int (nI mq), .ref (b2 6), .ref (b2 7), .ref (b2 8), .ref (b2 9), .ref (b2 10), .ref (b2 11), .ref (b2 12), .ref (b2 13), .ref (b2 14), .ref (b2 15), .ref (b2 16), .ref (b2 17), .ref (b2 18), .ref (b2 19), .ref (b2 20), .ref (b2 21), .ref (b2 22), .ref (b2 23), .ref (b2 24), .ref (b2 25), .ref (b2 26), .ref (b2 27), .ref (b2 28), .int gl, .int gh, .ref (b2 31), .ref (b2 32), .ref (b2 33), .ref (b2 34), .ref (b2 35), .ref (b2 36), .ref (b2 37), .ref (b2 38), .ref (b2 39), .ref (b2 40), .ref (b2 41), .ref (b2 42), .ref (b2 43), .ref (b2 44), .ref (b2 45), .ref (b2 46), .ref (b2 47), .int (nI l1), .int (nI l1), .ref (b2 50), .ref (b2 51), .int (nI mno), .ref (b2 53), .ref (b2 54), .ref (b2 55)])), ((b2 43), .inl (ca 0, 144, .inl A43)), ((b2 41), .inl (ca 0, 600, .inl A41)), ((b2 39), .inl (ca 0, 600, .inl A39)), ((b2 40), .inl (ca 1, 600, .inl A40)), ((b2 8), .inl (ca 0, 40, .inl A8)), ((b2 36), .inl (ca 0, 600, .inl A36)), ((b2 38), .inl (ca 0, 600, .inl A38)), ((b2 45), .inl (ca 0, 144, .inl C1_)), ((b2 46), .inl (ca 1, 144, .inl G1_))] hP hD
      refine W.widen (k := 0) (n := 0) (Nat.le_of_ble_eq_true rfl) (Nat.le_of_ble_eq_true rfl) ?_
      have hP9 : va_P (dC, dI) vwCl [(y, .inr (11, [.int (nI ml), .int (nI mb), .int (nI mp), .int (nI mx), .int (nI mr), .int (nI mq), .ref (b2 6), .ref (b2 7), .ref (b2 8), .ref (b2 9), .ref (b2 10), .ref (b2 11), .ref (b2 12), .ref (b2 13), .ref (b2 14), .ref (b2 15), .ref (b2 16), .ref (b2 17), .ref (b2 18), .ref (b2 19), .ref (b2 20), .ref (b2 21), .ref (b2 22), .ref (b2 23), .ref (b2 24), .ref (b2 25), .ref (b2 26), .ref (b2 27), .ref (b2 28), .int gl, .int gh, .ref (b2 31), .ref (b2 32), .ref (b2 33), .ref (b2 34), .ref (b2 35), .ref (b2 36), .ref (b2 37), .ref (b2 38), .ref (b2 39), .ref (b2 40), .ref (b2 41), .ref (b2 42), .ref (b2 43), .ref (b2 44), .ref (b2 45), .ref (b2 46), .ref (b2 47), .int (nI l1), .int (nI l1), .ref (b2 50), .ref (b2 51), .int (nI mno), .ref (b2 53), .ref (b2 54), .ref (b2 55)])), ((b2 43), .inl (ca 0, 144, .inl A43)), ((b2 41), .inl (ca 0, 600, .inl A41)), ((b2 39), .inl (ca 0, 600, .inl A39)), ((b2 40), .inl (ca 1, 600, .inl A40)), ((b2 8), .inl (ca 0, 40, .inl A8)), ((b2 36), .inl (ca 0, 600, .inl A36)), ((b2 38), .inl (ca 0, 600, .inl A38)), ((b2 45), .inl (ca 0, 144, .inl C1_)), ((b2 46), .inl (ca 1, 144, .inl G1_))] H := va_P.sub hP [0, 1, 2, 3, 4, 5, 6, 7, 8, 9] rfl
      have hD9 : va_D A [(y, .inr (11, [.int (nI ml), .int (nI mb), .int (nI mp), .int (nI mx), .int (nI mr), .int (nI mq), .ref (b2 6), .ref (b2 7), .ref (b2 8), .ref (b2 9), .ref (b2 10), .ref (b2 11), .ref (b2 12), .ref (b2 13), .ref (b2 14), .ref (b2 15), .ref (b2 16), .ref (b2 17), .ref (b2 18), .ref (b2 19), .ref (b2 20), .ref (b2 21), .ref (b2 22), .ref (b2 23), .ref (b2 24), .ref (b2 25), .ref (b2 26), .ref (b2 27), .ref (b2 28), .int gl, .int gh, .ref (b2 31), .ref (b2 32), .ref (b2 33), .ref (b2 34), .ref (b2 35), .ref (b2 36), .ref (b2 37), .ref (b2 38), .ref (b2 39), .ref (b2 40), .ref (b2 41), .ref (b2 42), .ref (b2 43), .ref (b2 44), .ref (b2 45), .ref (b2 46), .ref (b2 47), .int (nI l1), .int (nI l1), .ref (b2 50), .ref (b2 51), .int (nI mno), .ref (b2 53), .ref (b2 54), .ref (b2 55)])), ((b2 43), .inl (ca 0, 144, .inl A43)), ((b2 41), .inl (ca 0, 600, .inl A41)), ((b2 39), .inl (ca 0, 600, .inl A39)), ((b2 40), .inl (ca 1, 600, .inl A40)), ((b2 8), .inl (ca 0, 40, .inl A8)), ((b2 36), .inl (ca 0, 600, .inl A36)), ((b2 38), .inl (ca 0, 600, .inl A38)), ((b2 45), .inl (ca 0, 144, .inl C1_)), ((b2 46), .inl (ca 1, 144, .inl G1_))] := va_D.sub hD [0, 1, 2, 3, 4, 5, 6, 7, 8, 9] (by decide) rfl
      exact W.vret hx hb hr (fun t ht hW => ⟨⟨(l1, l1, C1_, G1_), rfl, ⟨⟨hm1, hm2, hm3, hm4, hm5, hm6, by first | omega | (dsimp only; omega), by first | omega | (dsimp only; omega), hm9⟩, hC1⟩, by rw [ht]; dsimp only; exact hP9, by dsimp only; exact hD9⟩, hS.F ht⟩) hS.2.2 dX11_list_106
    · have nc_2 : ¬ (l1 ≤ 40) := fun h9 => c_2 ((nI_leI (a := l1) (b := 40) (by omega) (by omega)).mpr h9)
      refine lv_bipush (v := 40) hx hb dX11_list_94 (by decide) ?_
      refine lv_goto (tgt := 103) hx hb dX11_list_96 (by decide) ?_
      refine va_put (D := (dC, dI)) (ci := 11) (v := .int 40) (ty := .int) (C := RX11) (T := TX11) (N := 56) hx hb hts inX11 tyX11 tyX11_ok nmX11 hown hK hP hD hS 0 rfl rfl 48 (by decide) (hts _ mw_928) (fun _ h9 => h9) rfl (by decide +kernel) rfl rfl (Nat.le_of_ble_eq_true rfl) dX11_list_103 (fun H locs hP hD hS => ?_)
      obtain ⟨hP, hD⟩ := va_bo [(y, .inr (11, [.int (nI ml), .int (nI mb), .int (nI mp), .int (nI mx), .int (nI mr), .int (nI mq), .ref (b2 6), .ref (b2 7), .ref (b2 8), .ref (b2 9), .ref (b2 10), .ref (b2 11), .ref (b2 12), .ref (b2 13), .ref (b2 14), .ref (b2 15), .ref (b2 16), .ref (b2 17), .ref (b2 18), .ref (b2 19), .ref (b2 20), .ref (b2 21), .ref (b2 22), .ref (b2 23), .ref (b2 24), .ref (b2 25), .ref (b2 26), .ref (b2 27), .ref (b2 28), .int gl, .int gh, .ref (b2 31), .ref (b2 32), .ref (b2 33), .ref (b2 34), .ref (b2 35), .ref (b2 36), .ref (b2 37), .ref (b2 38), .ref (b2 39), .ref (b2 40), .ref (b2 41), .ref (b2 42), .ref (b2 43), .ref (b2 44), .ref (b2 45), .ref (b2 46), .ref (b2 47), .int 40, .int (nI l1), .ref (b2 50), .ref (b2 51), .int (nI mno), .ref (b2 53), .ref (b2 54), .ref (b2 55)])), ((b2 43), .inl (ca 0, 144, .inl A43)), ((b2 41), .inl (ca 0, 600, .inl A41)), ((b2 39), .inl (ca 0, 600, .inl A39)), ((b2 40), .inl (ca 1, 600, .inl A40)), ((b2 8), .inl (ca 0, 40, .inl A8)), ((b2 36), .inl (ca 0, 600, .inl A36)), ((b2 38), .inl (ca 0, 600, .inl A38)), ((b2 45), .inl (ca 0, 144, .inl C1_)), ((b2 46), .inl (ca 1, 144, .inl G1_))] hP hD
      refine W.widen (k := 0) (n := 0) (Nat.le_of_ble_eq_true rfl) (Nat.le_of_ble_eq_true rfl) ?_
      have hP9 : va_P (dC, dI) vwCl [(y, .inr (11, [.int (nI ml), .int (nI mb), .int (nI mp), .int (nI mx), .int (nI mr), .int (nI mq), .ref (b2 6), .ref (b2 7), .ref (b2 8), .ref (b2 9), .ref (b2 10), .ref (b2 11), .ref (b2 12), .ref (b2 13), .ref (b2 14), .ref (b2 15), .ref (b2 16), .ref (b2 17), .ref (b2 18), .ref (b2 19), .ref (b2 20), .ref (b2 21), .ref (b2 22), .ref (b2 23), .ref (b2 24), .ref (b2 25), .ref (b2 26), .ref (b2 27), .ref (b2 28), .int gl, .int gh, .ref (b2 31), .ref (b2 32), .ref (b2 33), .ref (b2 34), .ref (b2 35), .ref (b2 36), .ref (b2 37), .ref (b2 38), .ref (b2 39), .ref (b2 40), .ref (b2 41), .ref (b2 42), .ref (b2 43), .ref (b2 44), .ref (b2 45), .ref (b2 46), .ref (b2 47), .int (nI 40), .int (nI l1), .ref (b2 50), .ref (b2 51), .int (nI mno), .ref (b2 53), .ref (b2 54), .ref (b2 55)])), ((b2 43), .inl (ca 0, 144, .inl A43)), ((b2 41), .inl (ca 0, 600, .inl A41)), ((b2 39), .inl (ca 0, 600, .inl A39)), ((b2 40), .inl (ca 1, 600, .inl A40)), ((b2 8), .inl (ca 0, 40, .inl A8)), ((b2 36), .inl (ca 0, 600, .inl A36)), ((b2 38), .inl (ca 0, 600, .inl A38)), ((b2 45), .inl (ca 0, 144, .inl C1_)), ((b2 46), .inl (ca 1, 144, .inl G1_))] H := va_P.sub hP [0, 1, 2, 3, 4, 5, 6, 7, 8, 9] rfl
      have hD9 : va_D A [(y, .inr (11, [.int (nI ml), .int (nI mb), .int (nI mp), .int (nI mx), .int (nI mr), .int (nI mq), .ref (b2 6), .ref (b2 7), .ref (b2 8), .ref (b2 9), .ref (b2 10), .ref (b2 11), .ref (b2 12), .ref (b2 13), .ref (b2 14), .ref (b2 15), .ref (b2 16), .ref (b2 17), .ref (b2 18), .ref (b2 19), .ref (b2 20), .ref (b2 21), .ref (b2 22), .ref (b2 23), .ref (b2 24), .ref (b2 25), .ref (b2 26), .ref (b2 27), .ref (b2 28), .int gl, .int gh, .ref (b2 31), .ref (b2 32), .ref (b2 33), .ref (b2 34), .ref (b2 35), .ref (b2 36), .ref (b2 37), .ref (b2 38), .ref (b2 39), .ref (b2 40), .ref (b2 41), .ref (b2 42), .ref (b2 43), .ref (b2 44), .ref (b2 45), .ref (b2 46), .ref (b2 47), .int (nI 40), .int (nI l1), .ref (b2 50), .ref (b2 51), .int (nI mno), .ref (b2 53), .ref (b2 54), .ref (b2 55)])), ((b2 43), .inl (ca 0, 144, .inl A43)), ((b2 41), .inl (ca 0, 600, .inl A41)), ((b2 39), .inl (ca 0, 600, .inl A39)), ((b2 40), .inl (ca 1, 600, .inl A40)), ((b2 8), .inl (ca 0, 40, .inl A8)), ((b2 36), .inl (ca 0, 600, .inl A36)), ((b2 38), .inl (ca 0, 600, .inl A38)), ((b2 45), .inl (ca 0, 144, .inl C1_)), ((b2 46), .inl (ca 1, 144, .inl G1_))] := va_D.sub hD [0, 1, 2, 3, 4, 5, 6, 7, 8, 9] (by decide) rfl
      exact W.vret hx hb hr (fun t ht hW => ⟨⟨(40, l1, C1_, G1_), rfl, ⟨⟨hm1, hm2, hm3, hm4, hm5, hm6, by first | omega | (dsimp only; omega), by first | omega | (dsimp only; omega), hm9⟩, hC1⟩, by rw [ht]; dsimp only; exact hP9, by dsimp only; exact hD9⟩, hS.F ht⟩) hS.2.2 dX11_list_106
  · have nc_1 : ¬ (144 ≤ i) := fun h9 => c_1 ((nI_leI (a := 144) (b := i) (by omega) (by omega)).mpr h9)
    refine lv_aload_n hx hb dX11_list_14 rfl (lv_at hl 1 rfl) ?_
    refine va_get (D := (dC, dI)) (ci := 11) (v := .ref (b2 43)) (C := RX11) (T := TX11) (N := 56) hx hb hts inX11 hown hK hP 0 rfl rfl 43 (by decide) (hts _ mw_923) (fun _ h9 => h9) rfl dX11_list_15 ?_
    refine lv_iload_n hx hb dX11_list_18 rfl (lv_at hl 0 rfl) ?_
    refine va_iald hx hb hK hP 1 0 rfl rfl (vp_in_nI (show i < 144 by omega) (by first | decide | omega)) dX11_list_19 ?_
    refine lv_topi (fun y_ e_ => ?_)
    obtain rfl : y_ = (A43 i) := e_.trans (congrArg A43 (show ((nI i) : Int32).toNatClampNeg = i from nI_clamp (by omega)))
    refine lv_istore_n (lv' := [(3, .int (A43 i)), (2, .int (nI i)), (0, .ref y), (1, .int v1)]) hx hb dX11_list_20 rfl hl (by decide) rfl (fun ls hl => ?_)
    refine lv_iload_n hx hb dX11_list_21 rfl (lv_at hl 0 rfl) ?_
    refine lv_if_lt (tgt := 78) hx hb dX11_list_22 (by decide) (fun c_3 => ?_) (fun c_3 => ?_)
    · refine lv_iinc (v := (nI (i + 1))) (lv' := [(2, .int (nI (i + 1))), (3, .int (A43 i)), (0, .ref y), (1, .int v1)]) hx hb dX11_list_78 hl (k := 1) rfl (nI_add (i) 1) (by decide) rfl (fun ls hl => ?_)
      refine lv_goto (tgt := 7) hx hb dX11_list_81 (by decide) ?_
      exact ih (i + 1, l1, C1_, G1_) _ _ _ (by omega) ⟨⟨by first | omega | (dsimp only; omega), by first | omega | (dsimp only; omega), hC1⟩, hP, hD, hS, lv_sub hl [0, 2, 3] rfl⟩
    · obtain ⟨k9, hk9, ek9⟩ := ot_nn (h_tray i) c_3
      rw [ek9] at hl
      refine lv_aload_n hx hb dX11_list_25 rfl (lv_at hl 2 rfl) ?_
      refine lv_iload_n hx hb dX11_list_26 rfl (lv_at hl 0 rfl) ?_
      have hPc := hP.sub (ws' := [(y, .inr (11, [.int (nI ml), .int (nI mb), .int (nI mp), .int (nI mx), .int (nI mr), .int (nI mq), .ref (b2 6), .ref (b2 7), .ref (b2 8), .ref (b2 9), .ref (b2 10), .ref (b2 11), .ref (b2 12), .ref (b2 13), .ref (b2 14), .ref (b2 15), .ref (b2 16), .ref (b2 17), .ref (b2 18), .ref (b2 19), .ref (b2 20), .ref (b2 21), .ref (b2 22), .ref (b2 23), .ref (b2 24), .ref (b2 25), .ref (b2 26), .ref (b2 27), .ref (b2 28), .int gl, .int gh, .ref (b2 31), .ref (b2 32), .ref (b2 33), .ref (b2 34), .ref (b2 35), .ref (b2 36), .ref (b2 37), .ref (b2 38), .ref (b2 39), .ref (b2 40), .ref (b2 41), .ref (b2 42), .ref (b2 43), .ref (b2 44), .ref (b2 45), .ref (b2 46), .ref (b2 47), .int (nI mch), .int (nI l1), .ref (b2 50), .ref (b2 51), .int (nI mno), .ref (b2 53), .ref (b2 54), .ref (b2 55)])), ((b2 41), .inl (ca 0, 600, .inl A41)), ((b2 39), .inl (ca 0, 600, .inl A39)), ((b2 40), .inl (ca 1, 600, .inl A40))]) [0, 2, 3, 4] rfl
      refine pc_i (va_runV (As := [.int (nI k9)]) (rest := []) ⟨hx, hb, hml, hown, hts⟩ (m_isFit l dC dI ca y b2 ml mb mp mx mr mq gl gh mch l1 mno A41 A39 A40 k9 (by first | assumption | (refine ⟨?_, ?_, ?_, ?_, ?_, ?_, ?_, ?_, ?_⟩ <;> omega)) (by first | assumption | omega | exact ⟨_, by omega, rfl⟩)) (⟨callB_of 1 hts (gd mw_1180) rfl rfl rfl (hts _ mw_8) (hts _ mw_1177) ds_X11_isFit ⟨Nat.le_of_ble_eq_true rfl, Nat.le_of_ble_eq_true rfl⟩, (hts _ mw_1179), (hts _ mp_47)⟩) (pu_V hPc hK hE (va_recv hK hPc (ci := 11) (q0 := 0) rfl rfl)) rfl rfl hl.1 rfl (lv_room (Nat.le_of_ble_eq_true rfl)) dX11_list_27 ⟨Nat.le_of_ble_eq_true rfl, Nat.le_of_ble_eq_true rfl⟩) (fun rv_4 hw_ => ?_)
      have hw_4 := hw_
      refine lv_if_eq (tgt := 78) hx hb dX11_list_30 (by decide) (fun c_5 => ?_) (fun c_5 => ?_)
      · refine lv_iinc (v := (nI (i + 1))) (lv' := [(2, .int (nI (i + 1))), (3, .int (nI k9)), (0, .ref y), (1, .int v1)]) hx hb dX11_list_78 hl (k := 1) rfl (nI_add (i) 1) (by decide) rfl (fun ls hl => ?_)
        refine lv_goto (tgt := 7) hx hb dX11_list_81 (by decide) ?_
        exact ih (i + 1, l1, C1_, G1_) _ _ _ (by omega) ⟨⟨by first | omega | (dsimp only; omega), by first | omega | (dsimp only; omega), hC1⟩, hP, hD, hS, lv_sub hl [0, 2, 3] rfl⟩
      · refine lv_iload_n hx hb dX11_list_33 rfl (lv_at hl 3 rfl) ?_
        refine lv_aload_n hx hb dX11_list_34 rfl (lv_at hl 2 rfl) ?_
        refine lv_iload_n hx hb dX11_list_35 rfl (lv_at hl 0 rfl) ?_
        have hPc := hP.sub (ws' := [(y, .inr (11, [.int (nI ml), .int (nI mb), .int (nI mp), .int (nI mx), .int (nI mr), .int (nI mq), .ref (b2 6), .ref (b2 7), .ref (b2 8), .ref (b2 9), .ref (b2 10), .ref (b2 11), .ref (b2 12), .ref (b2 13), .ref (b2 14), .ref (b2 15), .ref (b2 16), .ref (b2 17), .ref (b2 18), .ref (b2 19), .ref (b2 20), .ref (b2 21), .ref (b2 22), .ref (b2 23), .ref (b2 24), .ref (b2 25), .ref (b2 26), .ref (b2 27), .ref (b2 28), .int gl, .int gh, .ref (b2 31), .ref (b2 32), .ref (b2 33), .ref (b2 34), .ref (b2 35), .ref (b2 36), .ref (b2 37), .ref (b2 38), .ref (b2 39), .ref (b2 40), .ref (b2 41), .ref (b2 42), .ref (b2 43), .ref (b2 44), .ref (b2 45), .ref (b2 46), .ref (b2 47), .int (nI mch), .int (nI l1), .ref (b2 50), .ref (b2 51), .int (nI mno), .ref (b2 53), .ref (b2 54), .ref (b2 55)])), ((b2 8), .inl (ca 0, 40, .inl A8)), ((b2 36), .inl (ca 0, 600, .inl A36)), ((b2 38), .inl (ca 0, 600, .inl A38))]) [0, 5, 6, 7] rfl
        refine pc_i (va_runV (As := [.int (nI k9)]) (rest := [.int v1]) ⟨hx, hb, hml, hown, hts⟩ (m_sort l dC dI ca y b2 ml mb mp mx mr mq gl gh mch l1 mno A8 A36 A38 k9 (by first | assumption | (refine ⟨?_, ?_, ?_, ?_, ?_, ?_, ?_, ?_, ?_⟩ <;> omega)) (by first | assumption | omega | exact ⟨_, by omega, rfl⟩) h_batchOfPiece) (⟨callB_of 1 hts (gd mw_1176) rfl rfl rfl (hts _ mw_8) (hts _ mw_1173) ds_X11_sort ⟨Nat.le_of_ble_eq_true rfl, Nat.le_of_ble_eq_true rfl⟩, (hts _ mw_1175), (hts _ mp_46)⟩) (pu_V hPc hK hE (va_recv hK hPc (ci := 11) (q0 := 0) rfl rfl)) rfl rfl hl.1 rfl (lv_room (Nat.le_of_ble_eq_true rfl)) dX11_list_36 ⟨Nat.le_of_ble_eq_true rfl, Nat.le_of_ble_eq_true rfl⟩) (fun rv_6 hw_ => ?_)
        have hw_6 := hw_
        refine lv_ishr hx hb dX11_list_39 ?_
        refine lv_iconst (v := 1) hx hb dX11_list_40 (by decide) ?_
        refine lv_iand hx hb dX11_list_41 ?_
        refine lv_if_ne (tgt := 48) hx hb dX11_list_42 (by decide) (fun c_7 => ?_) (fun c_7 => ?_)
        · refine lv_aload_n hx hb dX11_list_48 rfl (lv_at hl 2 rfl) ?_
          refine va_get (D := (dC, dI)) (ci := 11) (v := .ref (b2 45)) (C := RX11) (T := TX11) (N := 56) hx hb hts inX11 hown hK hP 0 rfl rfl 45 (by decide) (hts _ mw_925) (fun _ h9 => h9) rfl dX11_list_49 ?_
          refine lv_aload_n hx hb dX11_list_52 rfl (lv_at hl 2 rfl) ?_
          refine va_get (D := (dC, dI)) (ci := 11) (v := .int (nI l1)) (C := RX11) (T := TX11) (N := 56) hx hb hts inX11 hown hK hP 0 rfl rfl 49 (by decide) (hts _ mw_929) (fun _ h9 => h9) rfl dX11_list_53 ?_
          refine lv_iload_n hx hb dX11_list_56 rfl (lv_at hl 0 rfl) ?_
          refine va_iast hx hb hK hP hD hS 8 0 rfl rfl (vp_in_nI (show l1 < 144 by omega) (by first | decide | omega)) dX11_list_57 (fun H locs hP hD hS => ?_)
          rw [(show ((nI l1) : Int32).toNatClampNeg = l1 from nI_clamp (by omega))] at hP hD
          obtain ⟨hP, hD⟩ := va_bo [(y, .inr (11, [.int (nI ml), .int (nI mb), .int (nI mp), .int (nI mx), .int (nI mr), .int (nI mq), .ref (b2 6), .ref (b2 7), .ref (b2 8), .ref (b2 9), .ref (b2 10), .ref (b2 11), .ref (b2 12), .ref (b2 13), .ref (b2 14), .ref (b2 15), .ref (b2 16), .ref (b2 17), .ref (b2 18), .ref (b2 19), .ref (b2 20), .ref (b2 21), .ref (b2 22), .ref (b2 23), .ref (b2 24), .ref (b2 25), .ref (b2 26), .ref (b2 27), .ref (b2 28), .int gl, .int gh, .ref (b2 31), .ref (b2 32), .ref (b2 33), .ref (b2 34), .ref (b2 35), .ref (b2 36), .ref (b2 37), .ref (b2 38), .ref (b2 39), .ref (b2 40), .ref (b2 41), .ref (b2 42), .ref (b2 43), .ref (b2 44), .ref (b2 45), .ref (b2 46), .ref (b2 47), .int (nI mch), .int (nI l1), .ref (b2 50), .ref (b2 51), .int (nI mno), .ref (b2 53), .ref (b2 54), .ref (b2 55)])), ((b2 43), .inl (ca 0, 144, .inl A43)), ((b2 41), .inl (ca 0, 600, .inl A41)), ((b2 39), .inl (ca 0, 600, .inl A39)), ((b2 40), .inl (ca 1, 600, .inl A40)), ((b2 8), .inl (ca 0, 40, .inl A8)), ((b2 36), .inl (ca 0, 600, .inl A36)), ((b2 38), .inl (ca 0, 600, .inl A38)), ((b2 45), .inl (ca 0, 144, .inl (upd C1_ l1 (nI k9)))), ((b2 46), .inl (ca 1, 144, .inl G1_))] hP hD
          refine lv_aload_n hx hb dX11_list_58 rfl (lv_at hl 2 rfl) ?_
          refine va_get (D := (dC, dI)) (ci := 11) (v := .ref (b2 46)) (C := RX11) (T := TX11) (N := 56) hx hb hts inX11 hown hK hP 0 rfl rfl 46 (by decide) (hts _ mw_926) (fun _ h9 => h9) rfl dX11_list_59 ?_
          refine lv_aload_n hx hb dX11_list_62 rfl (lv_at hl 2 rfl) ?_
          refine va_get (D := (dC, dI)) (ci := 11) (v := .int (nI l1)) (C := RX11) (T := TX11) (N := 56) hx hb hts inX11 hown hK hP 0 rfl rfl 49 (by decide) (hts _ mw_929) (fun _ h9 => h9) rfl dX11_list_63 ?_
          refine lv_iconst (v := 0) hx hb dX11_list_66 (by decide) ?_
          refine va_zast hx hb hK hP hD hS 9 1 rfl rfl (vp_in_nI (show l1 < 144 by omega) (by first | decide | omega)) dX11_list_67 (fun H locs hP hD hS => ?_)
          rw [(show ((nI l1) : Int32).toNatClampNeg = l1 from nI_clamp (by omega))] at hP hD
          obtain ⟨hP, hD⟩ := va_bo [(y, .inr (11, [.int (nI ml), .int (nI mb), .int (nI mp), .int (nI mx), .int (nI mr), .int (nI mq), .ref (b2 6), .ref (b2 7), .ref (b2 8), .ref (b2 9), .ref (b2 10), .ref (b2 11), .ref (b2 12), .ref (b2 13), .ref (b2 14), .ref (b2 15), .ref (b2 16), .ref (b2 17), .ref (b2 18), .ref (b2 19), .ref (b2 20), .ref (b2 21), .ref (b2 22), .ref (b2 23), .ref (b2 24), .ref (b2 25), .ref (b2 26), .ref (b2 27), .ref (b2 28), .int gl, .int gh, .ref (b2 31), .ref (b2 32), .ref (b2 33), .ref (b2 34), .ref (b2 35), .ref (b2 36), .ref (b2 37), .ref (b2 38), .ref (b2 39), .ref (b2 40), .ref (b2 41), .ref (b2 42), .ref (b2 43), .ref (b2 44), .ref (b2 45), .ref (b2 46), .ref (b2 47), .int (nI mch), .int (nI l1), .ref (b2 50), .ref (b2 51), .int (nI mno), .ref (b2 53), .ref (b2 54), .ref (b2 55)])), ((b2 43), .inl (ca 0, 144, .inl A43)), ((b2 41), .inl (ca 0, 600, .inl A41)), ((b2 39), .inl (ca 0, 600, .inl A39)), ((b2 40), .inl (ca 1, 600, .inl A40)), ((b2 8), .inl (ca 0, 40, .inl A8)), ((b2 36), .inl (ca 0, 600, .inl A36)), ((b2 38), .inl (ca 0, 600, .inl A38)), ((b2 45), .inl (ca 0, 144, .inl (upd C1_ l1 (nI k9)))), ((b2 46), .inl (ca 1, 144, .inl (upd G1_ l1 0)))] hP hD
          refine lv_aload_n hx hb dX11_list_68 rfl (lv_at hl 2 rfl) ?_
          refine lv_dup hx hb dX11_list_69 rfl ?_
          refine va_get (D := (dC, dI)) (ci := 11) (v := .int (nI l1)) (C := RX11) (T := TX11) (N := 56) hx hb hts inX11 hown hK hP 0 rfl rfl 49 (by decide) (hts _ mw_929) (fun _ h9 => h9) rfl dX11_list_70 ?_
          refine lv_iconst (v := 1) hx hb dX11_list_73 (by decide) ?_
          refine lv_iadd hx hb dX11_list_74 ?_
          refine lv_topi (fun y_ e_ => ?_)
          obtain rfl : y_ = (nI (l1 + 1)) := e_.trans (nI_add (l1) (1))
          refine va_put (D := (dC, dI)) (ci := 11) (v := .int (nI (l1 + 1))) (ty := .int) (C := RX11) (T := TX11) (N := 56) hx hb hts inX11 tyX11 tyX11_ok nmX11 hown hK hP hD hS 0 rfl rfl 49 (by decide) (hts _ mw_929) (fun _ h9 => h9) rfl (by decide +kernel) rfl rfl (Nat.le_of_ble_eq_true rfl) dX11_list_75 (fun H locs hP hD hS => ?_)
          obtain ⟨hP, hD⟩ := va_bo [(y, .inr (11, [.int (nI ml), .int (nI mb), .int (nI mp), .int (nI mx), .int (nI mr), .int (nI mq), .ref (b2 6), .ref (b2 7), .ref (b2 8), .ref (b2 9), .ref (b2 10), .ref (b2 11), .ref (b2 12), .ref (b2 13), .ref (b2 14), .ref (b2 15), .ref (b2 16), .ref (b2 17), .ref (b2 18), .ref (b2 19), .ref (b2 20), .ref (b2 21), .ref (b2 22), .ref (b2 23), .ref (b2 24), .ref (b2 25), .ref (b2 26), .ref (b2 27), .ref (b2 28), .int gl, .int gh, .ref (b2 31), .ref (b2 32), .ref (b2 33), .ref (b2 34), .ref (b2 35), .ref (b2 36), .ref (b2 37), .ref (b2 38), .ref (b2 39), .ref (b2 40), .ref (b2 41), .ref (b2 42), .ref (b2 43), .ref (b2 44), .ref (b2 45), .ref (b2 46), .ref (b2 47), .int (nI mch), .int (nI (l1 + 1)), .ref (b2 50), .ref (b2 51), .int (nI mno), .ref (b2 53), .ref (b2 54), .ref (b2 55)])), ((b2 43), .inl (ca 0, 144, .inl A43)), ((b2 41), .inl (ca 0, 600, .inl A41)), ((b2 39), .inl (ca 0, 600, .inl A39)), ((b2 40), .inl (ca 1, 600, .inl A40)), ((b2 8), .inl (ca 0, 40, .inl A8)), ((b2 36), .inl (ca 0, 600, .inl A36)), ((b2 38), .inl (ca 0, 600, .inl A38)), ((b2 45), .inl (ca 0, 144, .inl (upd C1_ l1 (nI k9)))), ((b2 46), .inl (ca 1, 144, .inl (upd G1_ l1 0)))] hP hD
          refine lv_iinc (v := (nI (i + 1))) (lv' := [(2, .int (nI (i + 1))), (3, .int (nI k9)), (0, .ref y), (1, .int v1)]) hx hb dX11_list_78 hl (k := 1) rfl (nI_add (i) 1) (by decide) rfl (fun ls hl => ?_)
          refine lv_goto (tgt := 7) hx hb dX11_list_81 (by decide) ?_
          exact ih (i + 1, l1 + 1, (upd C1_ l1 (nI k9)), (upd G1_ l1 0)) _ _ _ (by omega) ⟨⟨by first | omega | (dsimp only; omega), by first | omega | (dsimp only; omega), all_up (P := fun z => cnt z 599) hC1 ⟨k9, by first | omega | (dsimp only; omega), rfl⟩⟩, hP, hD, hS, lv_sub hl [0, 2, 3] rfl⟩
        · refine lv_goto (tgt := 78) hx hb dX11_list_45 (by decide) ?_
          refine lv_iinc (v := (nI (i + 1))) (lv' := [(2, .int (nI (i + 1))), (3, .int (nI k9)), (0, .ref y), (1, .int v1)]) hx hb dX11_list_78 hl (k := 1) rfl (nI_add (i) 1) (by decide) rfl (fun ls hl => ?_)
          refine lv_goto (tgt := 7) hx hb dX11_list_81 (by decide) ?_
          exact ih (i + 1, l1, C1_, G1_) _ _ _ (by omega) ⟨⟨by first | omega | (dsimp only; omega), by first | omega | (dsimp only; omega), hC1⟩, hP, hD, hS, lv_sub hl [0, 2, 3] rfl⟩

set_option maxHeartbeats 4000000 in
set_option maxRecDepth 100000 in
theorem m_gather (l : Launch) (dC : Nat → ClassId) (dI : Nat → Nat → Nat) (ca : Nat → ClassId) (sz : Nat) (y : Nat) (b2 : Nat → Nat) (ml : Nat) (mb : Nat) (mp : Nat) (mx : Nat) (mr : Nat) (mq : Nat) (gl : Int32) (gh : Int32) (mch : Nat) (mli : Nat) (mno : Nat) (A46 : Nat → Int32) (A51 : Nat → Int32) (hM : mI ml mb mp mx mr mq mch mli mno) (h_now : ∀ j, cnt (A51 j) 143) : Met l yX11_gather (Cond.code yX11_gather cX11_gather 2 none :: gT) ({ frames := 1, cells := 0, slots := 0, locals := 60 }) (va_Pc [.ref y] (pr (dC, dI) sz [(y, .inr (11, [.int (nI ml), .int (nI mb), .int (nI mp), .int (nI mx), .int (nI mr), .int (nI mq), .ref (b2 6), .ref (b2 7), .ref (b2 8), .ref (b2 9), .ref (b2 10), .ref (b2 11), .ref (b2 12), .ref (b2 13), .ref (b2 14), .ref (b2 15), .ref (b2 16), .ref (b2 17), .ref (b2 18), .ref (b2 19), .ref (b2 20), .ref (b2 21), .ref (b2 22), .ref (b2 23), .ref (b2 24), .ref (b2 25), .ref (b2 26), .ref (b2 27), .ref (b2 28), .int gl, .int gh, .ref (b2 31), .ref (b2 32), .ref (b2 33), .ref (b2 34), .ref (b2 35), .ref (b2 36), .ref (b2 37), .ref (b2 38), .ref (b2 39), .ref (b2 40), .ref (b2 41), .ref (b2 42), .ref (b2 43), .ref (b2 44), .ref (b2 45), .ref (b2 46), .ref (b2 47), .int (nI mch), .int (nI mli), .ref (b2 50), .ref (b2 51), .int (nI mno), .ref (b2 53), .ref (b2 54), .ref (b2 55)])), ((b2 46), .inl (ca 1, 144, .inl A46)), ((b2 51), .inl (ca 0, 40, .inl A51))] (aT ca))) (va_Qv (fun (u_ : Nat × (Nat → Int32)) => mI ml mb mp mx mr mq mch mli u_.1 ∧ (∀ j, cnt (u_.2 j) 143) ∧ gaI A46 u_.2 u_.1 mli) (fun (u_ : Nat × (Nat → Int32)) t => va_P (dC, dI) vwCl [(y, .inr (11, [.int (nI ml), .int (nI mb), .int (nI mp), .int (nI mx), .int (nI mr), .int (nI mq), .ref (b2 6), .ref (b2 7), .ref (b2 8), .ref (b2 9), .ref (b2 10), .ref (b2 11), .ref (b2 12), .ref (b2 13), .ref (b2 14), .ref (b2 15), .ref (b2 16), .ref (b2 17), .ref (b2 18), .ref (b2 19), .ref (b2 20), .ref (b2 21), .ref (b2 22), .ref (b2 23), .ref (b2 24), .ref (b2 25), .ref (b2 26), .ref (b2 27), .ref (b2 28), .int gl, .int gh, .ref (b2 31), .ref (b2 32), .ref (b2 33), .ref (b2 34), .ref (b2 35), .ref (b2 36), .ref (b2 37), .ref (b2 38), .ref (b2 39), .ref (b2 40), .ref (b2 41), .ref (b2 42), .ref (b2 43), .ref (b2 44), .ref (b2 45), .ref (b2 46), .ref (b2 47), .int (nI mch), .int (nI mli), .ref (b2 50), .ref (b2 51), .int (nI u_.1), .ref (b2 53), .ref (b2 54), .ref (b2 55)])), ((b2 46), .inl (ca 1, 144, .inl A46)), ((b2 51), .inl (ca 0, 40, .inl u_.2))] t.heap ∧ va_D (va_A [(y, .inr (11, [.int (nI ml), .int (nI mb), .int (nI mp), .int (nI mx), .int (nI mr), .int (nI mq), .ref (b2 6), .ref (b2 7), .ref (b2 8), .ref (b2 9), .ref (b2 10), .ref (b2 11), .ref (b2 12), .ref (b2 13), .ref (b2 14), .ref (b2 15), .ref (b2 16), .ref (b2 17), .ref (b2 18), .ref (b2 19), .ref (b2 20), .ref (b2 21), .ref (b2 22), .ref (b2 23), .ref (b2 24), .ref (b2 25), .ref (b2 26), .ref (b2 27), .ref (b2 28), .int gl, .int gh, .ref (b2 31), .ref (b2 32), .ref (b2 33), .ref (b2 34), .ref (b2 35), .ref (b2 36), .ref (b2 37), .ref (b2 38), .ref (b2 39), .ref (b2 40), .ref (b2 41), .ref (b2 42), .ref (b2 43), .ref (b2 44), .ref (b2 45), .ref (b2 46), .ref (b2 47), .int (nI mch), .int (nI mli), .ref (b2 50), .ref (b2 51), .int (nI mno), .ref (b2 53), .ref (b2 54), .ref (b2 55)])), ((b2 46), .inl (ca 1, 144, .inl A46)), ((b2 51), .inl (ca 0, 40, .inl A51))] sz) [(y, .inr (11, [.int (nI ml), .int (nI mb), .int (nI mp), .int (nI mx), .int (nI mr), .int (nI mq), .ref (b2 6), .ref (b2 7), .ref (b2 8), .ref (b2 9), .ref (b2 10), .ref (b2 11), .ref (b2 12), .ref (b2 13), .ref (b2 14), .ref (b2 15), .ref (b2 16), .ref (b2 17), .ref (b2 18), .ref (b2 19), .ref (b2 20), .ref (b2 21), .ref (b2 22), .ref (b2 23), .ref (b2 24), .ref (b2 25), .ref (b2 26), .ref (b2 27), .ref (b2 28), .int gl, .int gh, .ref (b2 31), .ref (b2 32), .ref (b2 33), .ref (b2 34), .ref (b2 35), .ref (b2 36), .ref (b2 37), .ref (b2 38), .ref (b2 39), .ref (b2 40), .ref (b2 41), .ref (b2 42), .ref (b2 43), .ref (b2 44), .ref (b2 45), .ref (b2 46), .ref (b2 47), .int (nI mch), .int (nI mli), .ref (b2 50), .ref (b2 51), .int (nI u_.1), .ref (b2 53), .ref (b2 54), .ref (b2 55)])), ((b2 46), .inl (ca 1, 144, .inl A46)), ((b2 51), .inl (ca 0, 40, .inl u_.2))]) (va_A [(y, .inr (11, [.int (nI ml), .int (nI mb), .int (nI mp), .int (nI mx), .int (nI mr), .int (nI mq), .ref (b2 6), .ref (b2 7), .ref (b2 8), .ref (b2 9), .ref (b2 10), .ref (b2 11), .ref (b2 12), .ref (b2 13), .ref (b2 14), .ref (b2 15), .ref (b2 16), .ref (b2 17), .ref (b2 18), .ref (b2 19), .ref (b2 20), .ref (b2 21), .ref (b2 22), .ref (b2 23), .ref (b2 24), .ref (b2 25), .ref (b2 26), .ref (b2 27), .ref (b2 28), .int gl, .int gh, .ref (b2 31), .ref (b2 32), .ref (b2 33), .ref (b2 34), .ref (b2 35), .ref (b2 36), .ref (b2 37), .ref (b2 38), .ref (b2 39), .ref (b2 40), .ref (b2 41), .ref (b2 42), .ref (b2 43), .ref (b2 44), .ref (b2 45), .ref (b2 46), .ref (b2 47), .int (nI mch), .int (nI mli), .ref (b2 50), .ref (b2 51), .int (nI mno), .ref (b2 53), .ref (b2 54), .ref (b2 55)])), ((b2 46), .inl (ca 1, 144, .inl A46)), ((b2 51), .inl (ca 0, 40, .inl A51))] sz)) 0 0 (va_A [(y, .inr (11, [.int (nI ml), .int (nI mb), .int (nI mp), .int (nI mx), .int (nI mr), .int (nI mq), .ref (b2 6), .ref (b2 7), .ref (b2 8), .ref (b2 9), .ref (b2 10), .ref (b2 11), .ref (b2 12), .ref (b2 13), .ref (b2 14), .ref (b2 15), .ref (b2 16), .ref (b2 17), .ref (b2 18), .ref (b2 19), .ref (b2 20), .ref (b2 21), .ref (b2 22), .ref (b2 23), .ref (b2 24), .ref (b2 25), .ref (b2 26), .ref (b2 27), .ref (b2 28), .int gl, .int gh, .ref (b2 31), .ref (b2 32), .ref (b2 33), .ref (b2 34), .ref (b2 35), .ref (b2 36), .ref (b2 37), .ref (b2 38), .ref (b2 39), .ref (b2 40), .ref (b2 41), .ref (b2 42), .ref (b2 43), .ref (b2 44), .ref (b2 45), .ref (b2 46), .ref (b2 47), .int (nI mch), .int (nI mli), .ref (b2 50), .ref (b2 51), .int (nI mno), .ref (b2 53), .ref (b2 54), .ref (b2 55)])), ((b2 46), .inl (ca 1, 144, .inl A46)), ((b2 51), .inl (ca 0, 40, .inl A51))] sz) := by
  refine Met.ofW (cc := cX11_gather) (maxL := 2) (ret := none) (by decide) rfl ?_
  intro p e s m args below meth c s₁ B hml hv
  obtain ⟨rfl, hsz, hP, hK, hD0, hE⟩ := hv
  have hx := B.exec
  have hb := B.bytes
  have hr := B.returns
  have hts : ∀ w ∈ gT, w.before _ s = true := fun w h => atoms_spec (ws := Cond.code yX11_gather cX11_gather 2 none :: gT) B.pre w (List.mem_cons_of_mem _ h)
  have hown : s.vm.findClass RX11 = some m.cls := findClass_of_methodNamed B.named
  have hlocks := B.notSynchronized
  subst hsz
  have hD := hD0.self (sz := s.heap.size)
  generalize hAe : va_A [(y, .inr (11, [.int (nI ml), .int (nI mb), .int (nI mp), .int (nI mx), .int (nI mr), .int (nI mq), .ref (b2 6), .ref (b2 7), .ref (b2 8), .ref (b2 9), .ref (b2 10), .ref (b2 11), .ref (b2 12), .ref (b2 13), .ref (b2 14), .ref (b2 15), .ref (b2 16), .ref (b2 17), .ref (b2 18), .ref (b2 19), .ref (b2 20), .ref (b2 21), .ref (b2 22), .ref (b2 23), .ref (b2 24), .ref (b2 25), .ref (b2 26), .ref (b2 27), .ref (b2 28), .int gl, .int gh, .ref (b2 31), .ref (b2 32), .ref (b2 33), .ref (b2 34), .ref (b2 35), .ref (b2 36), .ref (b2 37), .ref (b2 38), .ref (b2 39), .ref (b2 40), .ref (b2 41), .ref (b2 42), .ref (b2 43), .ref (b2 44), .ref (b2 45), .ref (b2 46), .ref (b2 47), .int (nI mch), .int (nI mli), .ref (b2 50), .ref (b2 51), .int (nI mno), .ref (b2 53), .ref (b2 54), .ref (b2 55)])), ((b2 46), .inl (ca 1, 144, .inl A46)), ((b2 51), .inl (ca 0, 40, .inl A51))] s.heap.size = A at hD ⊢
  have hA : ∀ q : Nat, s.heap.size ≤ q → A q := fun q h => by rw [← hAe]; exact Or.inr h
  have hS : va_S A s.heap s.heap [] := va_S.rf
  have hl := lv_entry ([.ref y]) (n := 2) (Nat.le_of_ble_eq_true rfl)
  rw [lg_entry_eq]
  generalize (lg_sl ([.ref y]) ++ List.replicate (2 - (lg_sl ([.ref y])).length) Slot.unset).toArray = ls at hl ⊢
  have hl : lv_has ls 2 [(0, .ref y)] := hl
  obtain ⟨hm1, hm2, hm3, hm4, hm5, hm6, hm7, hm8, hm9⟩ := id hM
  refine lv_aload_n hx hb dX11_gather_0 rfl (lv_at hl 0 rfl) ?_
  refine lv_iconst (v := 0) hx hb dX11_gather_1 (by decide) ?_
  refine va_put (D := (dC, dI)) (ci := 11) (v := .int 0) (ty := .int) (C := RX11) (T := TX11) (N := 56) hx hb hts inX11 tyX11 tyX11_ok nmX11 hown hK hP hD hS 0 rfl rfl 52 (by decide) (hts _ mw_932) (fun _ h9 => h9) rfl (by decide +kernel) rfl rfl (Nat.le_of_ble_eq_true rfl) dX11_gather_2 (fun H locs hP hD hS => ?_)
  obtain ⟨hP, hD⟩ := va_bo [(y, .inr (11, [.int (nI ml), .int (nI mb), .int (nI mp), .int (nI mx), .int (nI mr), .int (nI mq), .ref (b2 6), .ref (b2 7), .ref (b2 8), .ref (b2 9), .ref (b2 10), .ref (b2 11), .ref (b2 12), .ref (b2 13), .ref (b2 14), .ref (b2 15), .ref (b2 16), .ref (b2 17), .ref (b2 18), .ref (b2 19), .ref (b2 20), .ref (b2 21), .ref (b2 22), .ref (b2 23), .ref (b2 24), .ref (b2 25), .ref (b2 26), .ref (b2 27), .ref (b2 28), .int gl, .int gh, .ref (b2 31), .ref (b2 32), .ref (b2 33), .ref (b2 34), .ref (b2 35), .ref (b2 36), .ref (b2 37), .ref (b2 38), .ref (b2 39), .ref (b2 40), .ref (b2 41), .ref (b2 42), .ref (b2 43), .ref (b2 44), .ref (b2 45), .ref (b2 46), .ref (b2 47), .int (nI mch), .int (nI mli), .ref (b2 50), .ref (b2 51), .int 0, .ref (b2 53), .ref (b2 54), .ref (b2 55)])), ((b2 46), .inl (ca 1, 144, .inl A46)), ((b2 51), .inl (ca 0, 40, .inl A51))] hP hD
  refine lv_iconst (v := 0) hx hb dX11_gather_5 (by decide) ?_
  refine lv_istore_n (lv' := [(1, .int 0), (0, .ref y)]) hx hb dX11_gather_6 rfl hl (by decide) rfl (fun ls hl => ?_)
  refine wl_loop (fun (z_ : Nat × Nat × (Nat → Int32)) H locs ls => (z_.1 ≤ mli ∧ z_.2.1 ≤ 40 ∧ gaI A46 z_.2.2 z_.2.1 z_.1 ∧ ∀ j, cnt (z_.2.2 j) 143) ∧ va_P (dC, dI) vwCl [(y, .inr (11, [.int (nI ml), .int (nI mb), .int (nI mp), .int (nI mx), .int (nI mr), .int (nI mq), .ref (b2 6), .ref (b2 7), .ref (b2 8), .ref (b2 9), .ref (b2 10), .ref (b2 11), .ref (b2 12), .ref (b2 13), .ref (b2 14), .ref (b2 15), .ref (b2 16), .ref (b2 17), .ref (b2 18), .ref (b2 19), .ref (b2 20), .ref (b2 21), .ref (b2 22), .ref (b2 23), .ref (b2 24), .ref (b2 25), .ref (b2 26), .ref (b2 27), .ref (b2 28), .int gl, .int gh, .ref (b2 31), .ref (b2 32), .ref (b2 33), .ref (b2 34), .ref (b2 35), .ref (b2 36), .ref (b2 37), .ref (b2 38), .ref (b2 39), .ref (b2 40), .ref (b2 41), .ref (b2 42), .ref (b2 43), .ref (b2 44), .ref (b2 45), .ref (b2 46), .ref (b2 47), .int (nI mch), .int (nI mli), .ref (b2 50), .ref (b2 51), .int (nI z_.2.1), .ref (b2 53), .ref (b2 54), .ref (b2 55)])), ((b2 46), .inl (ca 1, 144, .inl A46)), ((b2 51), .inl (ca 0, 40, .inl z_.2.2))] H ∧ va_D A [(y, .inr (11, [.int (nI ml), .int (nI mb), .int (nI mp), .int (nI mx), .int (nI mr), .int (nI mq), .ref (b2 6), .ref (b2 7), .ref (b2 8), .ref (b2 9), .ref (b2 10), .ref (b2 11), .ref (b2 12), .ref (b2 13), .ref (b2 14), .ref (b2 15), .ref (b2 16), .ref (b2 17), .ref (b2 18), .ref (b2 19), .ref (b2 20), .ref (b2 21), .ref (b2 22), .ref (b2 23), .ref (b2 24), .ref (b2 25), .ref (b2 26), .ref (b2 27), .ref (b2 28), .int gl, .int gh, .ref (b2 31), .ref (b2 32), .ref (b2 33), .ref (b2 34), .ref (b2 35), .ref (b2 36), .ref (b2 37), .ref (b2 38), .ref (b2 39), .ref (b2 40), .ref (b2 41), .ref (b2 42), .ref (b2 43), .ref (b2 44), .ref (b2 45), .ref (b2 46), .ref (b2 47), .int (nI mch), .int (nI mli), .ref (b2 50), .ref (b2 51), .int (nI z_.2.1), .ref (b2 53), .ref (b2 54), .ref (b2 55)])), ((b2 46), .inl (ca 1, 144, .inl A46)), ((b2 51), .inl (ca 0, 40, .inl z_.2.2))] ∧ va_S A s.heap H locs ∧ lv_has ls 2 [(1, .int (nI z_.1)), (0, .ref y)]) (fun (z_ : Nat × Nat × (Nat → Int32)) => mli - z_.1) (fun z_ H locs ls hI ih => ?_) (0, 0, A51) ⟨⟨Nat.zero_le _, Nat.zero_le _, gaI_0 _ _ _, h_now⟩, hP, hD, hS, lv_sub hl [0, 1] rfl⟩
  obtain ⟨i, n1, N1_⟩ := z_
  dsimp only at hI ih
  obtain ⟨⟨hi, hn1, hg, hN1⟩, hP, hD, hS, hl⟩ := hI
  refine lv_iload_n hx hb dX11_gather_7 rfl (lv_at hl 0 rfl) ?_
  refine lv_aload_n hx hb dX11_gather_8 rfl (lv_at hl 1 rfl) ?_
  refine va_get (D := (dC, dI)) (ci := 11) (v := .int (nI mli)) (C := RX11) (T := TX11) (N := 56) hx hb hts inX11 hown hK hP 0 rfl rfl 49 (by decide) (hts _ mw_929) (fun _ h9 => h9) rfl dX11_gather_9 ?_
  refine lv_icmp_ge (tgt := 62) hx hb dX11_gather_12 (by decide) (fun c_1 => ?_) (fun c_1 => ?_)
  · have nc_1 : mli ≤ i := (nI_leI (a := mli) (b := i) (by omega) (by omega)).mp c_1
    refine W.widen (k := 0) (n := 0) (Nat.le_of_ble_eq_true rfl) (Nat.le_of_ble_eq_true rfl) ?_
    have hP9 : va_P (dC, dI) vwCl [(y, .inr (11, [.int (nI ml), .int (nI mb), .int (nI mp), .int (nI mx), .int (nI mr), .int (nI mq), .ref (b2 6), .ref (b2 7), .ref (b2 8), .ref (b2 9), .ref (b2 10), .ref (b2 11), .ref (b2 12), .ref (b2 13), .ref (b2 14), .ref (b2 15), .ref (b2 16), .ref (b2 17), .ref (b2 18), .ref (b2 19), .ref (b2 20), .ref (b2 21), .ref (b2 22), .ref (b2 23), .ref (b2 24), .ref (b2 25), .ref (b2 26), .ref (b2 27), .ref (b2 28), .int gl, .int gh, .ref (b2 31), .ref (b2 32), .ref (b2 33), .ref (b2 34), .ref (b2 35), .ref (b2 36), .ref (b2 37), .ref (b2 38), .ref (b2 39), .ref (b2 40), .ref (b2 41), .ref (b2 42), .ref (b2 43), .ref (b2 44), .ref (b2 45), .ref (b2 46), .ref (b2 47), .int (nI mch), .int (nI mli), .ref (b2 50), .ref (b2 51), .int (nI n1), .ref (b2 53), .ref (b2 54), .ref (b2 55)])), ((b2 46), .inl (ca 1, 144, .inl A46)), ((b2 51), .inl (ca 0, 40, .inl N1_))] H := va_P.sub hP [0, 1, 2] rfl
    have hD9 : va_D A [(y, .inr (11, [.int (nI ml), .int (nI mb), .int (nI mp), .int (nI mx), .int (nI mr), .int (nI mq), .ref (b2 6), .ref (b2 7), .ref (b2 8), .ref (b2 9), .ref (b2 10), .ref (b2 11), .ref (b2 12), .ref (b2 13), .ref (b2 14), .ref (b2 15), .ref (b2 16), .ref (b2 17), .ref (b2 18), .ref (b2 19), .ref (b2 20), .ref (b2 21), .ref (b2 22), .ref (b2 23), .ref (b2 24), .ref (b2 25), .ref (b2 26), .ref (b2 27), .ref (b2 28), .int gl, .int gh, .ref (b2 31), .ref (b2 32), .ref (b2 33), .ref (b2 34), .ref (b2 35), .ref (b2 36), .ref (b2 37), .ref (b2 38), .ref (b2 39), .ref (b2 40), .ref (b2 41), .ref (b2 42), .ref (b2 43), .ref (b2 44), .ref (b2 45), .ref (b2 46), .ref (b2 47), .int (nI mch), .int (nI mli), .ref (b2 50), .ref (b2 51), .int (nI n1), .ref (b2 53), .ref (b2 54), .ref (b2 55)])), ((b2 46), .inl (ca 1, 144, .inl A46)), ((b2 51), .inl (ca 0, 40, .inl N1_))] := va_D.sub hD [0, 1, 2] (by decide) rfl
    exact W.vret hx hb hr (fun t ht hW => ⟨⟨(n1, N1_), rfl, ⟨⟨hm1, hm2, hm3, hm4, hm5, hm6, hm7, hm8, hn1⟩, hN1, gaI_mo hg hi⟩, by rw [ht]; dsimp only; exact hP9, by dsimp only; exact hD9⟩, hS.F ht⟩) hS.2.2 dX11_gather_62
  · have nc_1 : ¬ (mli ≤ i) := fun h9 => c_1 ((nI_leI (a := mli) (b := i) (by omega) (by omega)).mpr h9)
    refine lv_aload_n hx hb dX11_gather_15 rfl (lv_at hl 1 rfl) ?_
    refine va_get (D := (dC, dI)) (ci := 11) (v := .int (nI n1)) (C := RX11) (T := TX11) (N := 56) hx hb hts inX11 hown hK hP 0 rfl rfl 52 (by decide) (hts _ mw_932) (fun _ h9 => h9) rfl dX11_gather_16 ?_
    refine lv_bipush (v := 40) hx hb dX11_gather_19 (by decide) ?_
    refine lv_icmp_ge (tgt := 62) hx hb dX11_gather_21 (by decide) (fun c_2 => ?_) (fun c_2 => ?_)
    · have nc_2 : 40 ≤ n1 := (nI_leI (a := 40) (b := n1) (by omega) (by omega)).mp c_2
      refine W.widen (k := 0) (n := 0) (Nat.le_of_ble_eq_true rfl) (Nat.le_of_ble_eq_true rfl) ?_
      have hP9 : va_P (dC, dI) vwCl [(y, .inr (11, [.int (nI ml), .int (nI mb), .int (nI mp), .int (nI mx), .int (nI mr), .int (nI mq), .ref (b2 6), .ref (b2 7), .ref (b2 8), .ref (b2 9), .ref (b2 10), .ref (b2 11), .ref (b2 12), .ref (b2 13), .ref (b2 14), .ref (b2 15), .ref (b2 16), .ref (b2 17), .ref (b2 18), .ref (b2 19), .ref (b2 20), .ref (b2 21), .ref (b2 22), .ref (b2 23), .ref (b2 24), .ref (b2 25), .ref (b2 26), .ref (b2 27), .ref (b2 28), .int gl, .int gh, .ref (b2 31), .ref (b2 32), .ref (b2 33), .ref (b2 34), .ref (b2 35), .ref (b2 36), .ref (b2 37), .ref (b2 38), .ref (b2 39), .ref (b2 40), .ref (b2 41), .ref (b2 42), .ref (b2 43), .ref (b2 44), .ref (b2 45), .ref (b2 46), .ref (b2 47), .int (nI mch), .int (nI mli), .ref (b2 50), .ref (b2 51), .int (nI n1), .ref (b2 53), .ref (b2 54), .ref (b2 55)])), ((b2 46), .inl (ca 1, 144, .inl A46)), ((b2 51), .inl (ca 0, 40, .inl N1_))] H := va_P.sub hP [0, 1, 2] rfl
      have hD9 : va_D A [(y, .inr (11, [.int (nI ml), .int (nI mb), .int (nI mp), .int (nI mx), .int (nI mr), .int (nI mq), .ref (b2 6), .ref (b2 7), .ref (b2 8), .ref (b2 9), .ref (b2 10), .ref (b2 11), .ref (b2 12), .ref (b2 13), .ref (b2 14), .ref (b2 15), .ref (b2 16), .ref (b2 17), .ref (b2 18), .ref (b2 19), .ref (b2 20), .ref (b2 21), .ref (b2 22), .ref (b2 23), .ref (b2 24), .ref (b2 25), .ref (b2 26), .ref (b2 27), .ref (b2 28), .int gl, .int gh, .ref (b2 31), .ref (b2 32), .ref (b2 33), .ref (b2 34), .ref (b2 35), .ref (b2 36), .ref (b2 37), .ref (b2 38), .ref (b2 39), .ref (b2 40), .ref (b2 41), .ref (b2 42), .ref (b2 43), .ref (b2 44), .ref (b2 45), .ref (b2 46), .ref (b2 47), .int (nI mch), .int (nI mli), .ref (b2 50), .ref (b2 51), .int (nI n1), .ref (b2 53), .ref (b2 54), .ref (b2 55)])), ((b2 46), .inl (ca 1, 144, .inl A46)), ((b2 51), .inl (ca 0, 40, .inl N1_))] := va_D.sub hD [0, 1, 2] (by decide) rfl
      exact W.vret hx hb hr (fun t ht hW => ⟨⟨(n1, N1_), rfl, ⟨⟨hm1, hm2, hm3, hm4, hm5, hm6, hm7, hm8, hn1⟩, hN1, gaI_mo hg hi⟩, by rw [ht]; dsimp only; exact hP9, by dsimp only; exact hD9⟩, hS.F ht⟩) hS.2.2 dX11_gather_62
    · have nc_2 : ¬ (40 ≤ n1) := fun h9 => c_2 ((nI_leI (a := 40) (b := n1) (by omega) (by omega)).mpr h9)
      refine lv_aload_n hx hb dX11_gather_24 rfl (lv_at hl 1 rfl) ?_
      refine va_get (D := (dC, dI)) (ci := 11) (v := .ref (b2 46)) (C := RX11) (T := TX11) (N := 56) hx hb hts inX11 hown hK hP 0 rfl rfl 46 (by decide) (hts _ mw_926) (fun _ h9 => h9) rfl dX11_gather_25 ?_
      refine lv_iload_n hx hb dX11_gather_28 rfl (lv_at hl 0 rfl) ?_
      refine va_zald hx hb hK hP 1 1 rfl rfl (vp_in_nI (show i < 144 by omega) (by first | decide | omega)) dX11_gather_29 ?_
      refine lv_topi (fun y_ e_ => ?_)
      obtain rfl : y_ = (A46 i) := e_.trans (congrArg A46 (show ((nI i) : Int32).toNatClampNeg = i from nI_clamp (by omega)))
      refine lv_if_eq (tgt := 36) hx hb dX11_gather_30 (by decide) (fun c_3 => ?_) (fun c_3 => ?_)
      · refine lv_aload_n hx hb dX11_gather_36 rfl (lv_at hl 1 rfl) ?_
        refine va_get (D := (dC, dI)) (ci := 11) (v := .ref (b2 51)) (C := RX11) (T := TX11) (N := 56) hx hb hts inX11 hown hK hP 0 rfl rfl 51 (by decide) (hts _ mw_931) (fun _ h9 => h9) rfl dX11_gather_37 ?_
        refine lv_aload_n hx hb dX11_gather_40 rfl (lv_at hl 1 rfl) ?_
        refine va_get (D := (dC, dI)) (ci := 11) (v := .int (nI n1)) (C := RX11) (T := TX11) (N := 56) hx hb hts inX11 hown hK hP 0 rfl rfl 52 (by decide) (hts _ mw_932) (fun _ h9 => h9) rfl dX11_gather_41 ?_
        refine lv_iload_n hx hb dX11_gather_44 rfl (lv_at hl 0 rfl) ?_
        refine va_iast hx hb hK hP hD hS 2 0 rfl rfl (vp_in_nI (show n1 < 40 by omega) (by first | decide | omega)) dX11_gather_45 (fun H locs hP hD hS => ?_)
        rw [(show ((nI n1) : Int32).toNatClampNeg = n1 from nI_clamp (by omega))] at hP hD
        obtain ⟨hP, hD⟩ := va_bo [(y, .inr (11, [.int (nI ml), .int (nI mb), .int (nI mp), .int (nI mx), .int (nI mr), .int (nI mq), .ref (b2 6), .ref (b2 7), .ref (b2 8), .ref (b2 9), .ref (b2 10), .ref (b2 11), .ref (b2 12), .ref (b2 13), .ref (b2 14), .ref (b2 15), .ref (b2 16), .ref (b2 17), .ref (b2 18), .ref (b2 19), .ref (b2 20), .ref (b2 21), .ref (b2 22), .ref (b2 23), .ref (b2 24), .ref (b2 25), .ref (b2 26), .ref (b2 27), .ref (b2 28), .int gl, .int gh, .ref (b2 31), .ref (b2 32), .ref (b2 33), .ref (b2 34), .ref (b2 35), .ref (b2 36), .ref (b2 37), .ref (b2 38), .ref (b2 39), .ref (b2 40), .ref (b2 41), .ref (b2 42), .ref (b2 43), .ref (b2 44), .ref (b2 45), .ref (b2 46), .ref (b2 47), .int (nI mch), .int (nI mli), .ref (b2 50), .ref (b2 51), .int (nI n1), .ref (b2 53), .ref (b2 54), .ref (b2 55)])), ((b2 46), .inl (ca 1, 144, .inl A46)), ((b2 51), .inl (ca 0, 40, .inl (upd N1_ n1 (nI i))))] hP hD
        refine lv_aload_n hx hb dX11_gather_46 rfl (lv_at hl 1 rfl) ?_
        refine lv_dup hx hb dX11_gather_47 rfl ?_
        refine va_get (D := (dC, dI)) (ci := 11) (v := .int (nI n1)) (C := RX11) (T := TX11) (N := 56) hx hb hts inX11 hown hK hP 0 rfl rfl 52 (by decide) (hts _ mw_932) (fun _ h9 => h9) rfl dX11_gather_48 ?_
        refine lv_iconst (v := 1) hx hb dX11_gather_51 (by decide) ?_
        refine lv_iadd hx hb dX11_gather_52 ?_
        refine lv_topi (fun y_ e_ => ?_)
        obtain rfl : y_ = (nI (n1 + 1)) := e_.trans (nI_add (n1) (1))
        refine va_put (D := (dC, dI)) (ci := 11) (v := .int (nI (n1 + 1))) (ty := .int) (C := RX11) (T := TX11) (N := 56) hx hb hts inX11 tyX11 tyX11_ok nmX11 hown hK hP hD hS 0 rfl rfl 52 (by decide) (hts _ mw_932) (fun _ h9 => h9) rfl (by decide +kernel) rfl rfl (Nat.le_of_ble_eq_true rfl) dX11_gather_53 (fun H locs hP hD hS => ?_)
        obtain ⟨hP, hD⟩ := va_bo [(y, .inr (11, [.int (nI ml), .int (nI mb), .int (nI mp), .int (nI mx), .int (nI mr), .int (nI mq), .ref (b2 6), .ref (b2 7), .ref (b2 8), .ref (b2 9), .ref (b2 10), .ref (b2 11), .ref (b2 12), .ref (b2 13), .ref (b2 14), .ref (b2 15), .ref (b2 16), .ref (b2 17), .ref (b2 18), .ref (b2 19), .ref (b2 20), .ref (b2 21), .ref (b2 22), .ref (b2 23), .ref (b2 24), .ref (b2 25), .ref (b2 26), .ref (b2 27), .ref (b2 28), .int gl, .int gh, .ref (b2 31), .ref (b2 32), .ref (b2 33), .ref (b2 34), .ref (b2 35), .ref (b2 36), .ref (b2 37), .ref (b2 38), .ref (b2 39), .ref (b2 40), .ref (b2 41), .ref (b2 42), .ref (b2 43), .ref (b2 44), .ref (b2 45), .ref (b2 46), .ref (b2 47), .int (nI mch), .int (nI mli), .ref (b2 50), .ref (b2 51), .int (nI (n1 + 1)), .ref (b2 53), .ref (b2 54), .ref (b2 55)])), ((b2 46), .inl (ca 1, 144, .inl A46)), ((b2 51), .inl (ca 0, 40, .inl (upd N1_ n1 (nI i))))] hP hD
        refine lv_iinc (v := (nI (i + 1))) (lv' := [(1, .int (nI (i + 1))), (0, .ref y)]) hx hb dX11_gather_56 hl (k := 0) rfl (nI_add (i) 1) (by decide) rfl (fun ls hl => ?_)
        refine lv_goto (tgt := 7) hx hb dX11_gather_59 (by decide) ?_
        exact ih (i + 1, n1 + 1, (upd N1_ n1 (nI i))) _ _ _ (by omega) ⟨⟨by first | omega | (dsimp only; omega), by first | omega | (dsimp only; omega), gaI_add hg (by first | omega | (dsimp only; omega)) c_3, all_up (P := fun z => cnt z 143) hN1 ⟨i, by first | omega | (dsimp only; omega), rfl⟩⟩, hP, hD, hS, lv_sub hl [0, 1] rfl⟩
      · refine lv_goto (tgt := 56) hx hb dX11_gather_33 (by decide) ?_
        refine lv_iinc (v := (nI (i + 1))) (lv' := [(1, .int (nI (i + 1))), (0, .ref y)]) hx hb dX11_gather_56 hl (k := 0) rfl (nI_add (i) 1) (by decide) rfl (fun ls hl => ?_)
        refine lv_goto (tgt := 7) hx hb dX11_gather_59 (by decide) ?_
        exact ih (i + 1, n1, N1_) _ _ _ (by omega) ⟨⟨by first | omega | (dsimp only; omega), by first | omega | (dsimp only; omega), gaI_sk hg, hN1⟩, hP, hD, hS, lv_sub hl [0, 1] rfl⟩

def wOf (W C N : Nat → Int32) : Nat → Nat := fun i => (W (C (N i).toNatClampNeg).toNatClampNeg).toNatClampNeg

set_option maxHeartbeats 4000000 in
set_option maxRecDepth 100000 in
theorem m_r8500 (l : Launch) (dC : Nat → ClassId) (dI : Nat → Nat → Nat) (ca : Nat → ClassId) (y : Nat) (b2 : Nat → Nat) (ml : Nat) (mb : Nat) (mp : Nat) (mx : Nat) (mr : Nat) (mq : Nat) (gl : Int32) (gh : Int32) (mch : Nat) (mli : Nat) (mno : Nat) (A37 : Nat → Int32) (A45 : Nat → Int32) (A51 : Nat → Int32) (A50 : Nat → Int32) (kc_ : Nat → Int32) (hM : mI ml mb mp mx mr mq mch mli mno) (h_w : ∀ j, wg_ok (A37 j) (kc_ j)) (h_choice : ∀ j, cnt (A45 j) 599) (h_now : ∀ j, cnt (A51 j) 143) : Met l yX11_reaches8500 (Cond.code yX11_reaches8500 cX11_reaches8500 3 (some .boolean) :: gT) ({ frames := 1, cells := 0, slots := 0, locals := 60 }) (va_Pc [.ref y] (pu (dC, dI) [(y, .inr (11, [.int (nI ml), .int (nI mb), .int (nI mp), .int (nI mx), .int (nI mr), .int (nI mq), .ref (b2 6), .ref (b2 7), .ref (b2 8), .ref (b2 9), .ref (b2 10), .ref (b2 11), .ref (b2 12), .ref (b2 13), .ref (b2 14), .ref (b2 15), .ref (b2 16), .ref (b2 17), .ref (b2 18), .ref (b2 19), .ref (b2 20), .ref (b2 21), .ref (b2 22), .ref (b2 23), .ref (b2 24), .ref (b2 25), .ref (b2 26), .ref (b2 27), .ref (b2 28), .int gl, .int gh, .ref (b2 31), .ref (b2 32), .ref (b2 33), .ref (b2 34), .ref (b2 35), .ref (b2 36), .ref (b2 37), .ref (b2 38), .ref (b2 39), .ref (b2 40), .ref (b2 41), .ref (b2 42), .ref (b2 43), .ref (b2 44), .ref (b2 45), .ref (b2 46), .ref (b2 47), .int (nI mch), .int (nI mli), .ref (b2 50), .ref (b2 51), .int (nI mno), .ref (b2 53), .ref (b2 54), .ref (b2 55)])), ((b2 37), .inl (ca 0, 600, .inl A37)), ((b2 45), .inl (ca 0, 144, .inl A45)), ((b2 51), .inl (ca 0, 40, .inl A51)), ((b2 50), .inl (ca 1, 348500, .inl A50))] (aT ca))) (vp_Si (fun r => (r = 0 ∨ r = 1) ∧ (¬ r = 0 → r85 A50 (wOf A37 A45 A51) mno 0))) 0 0 (fun _ => False) := by
  refine Met.ofW (cc := cX11_reaches8500) (maxL := 3) (ret := (some .boolean)) (by decide) rfl ?_
  intro p e s m args below meth c s₁ B hml hv
  obtain ⟨rfl, hP, hK, hE⟩ := hv
  have hx := B.exec
  have hb := B.bytes
  have hr := B.returns
  have hts : ∀ w ∈ gT, w.before _ s = true := fun w h => atoms_spec (ws := Cond.code yX11_reaches8500 cX11_reaches8500 3 (some .boolean) :: gT) B.pre w (List.mem_cons_of_mem _ h)
  have hown : s.vm.findClass RX11 = some m.cls := findClass_of_methodNamed B.named
  have hlocks := B.notSynchronized
  have hl := lv_entry ([.ref y]) (n := 3) (Nat.le_of_ble_eq_true rfl)
  rw [lg_entry_eq]
  generalize (lg_sl ([.ref y]) ++ List.replicate (3 - (lg_sl ([.ref y])).length) Slot.unset).toArray = ls at hl ⊢
  have hl : lv_has ls 3 [(0, .ref y)] := hl
  obtain ⟨hm1, hm2, hm3, hm4, hm5, hm6, hm7, hm8, hm9⟩ := id hM
  refine lv_iconst (v := 0) hx hb dX11_reaches8500_0 (by decide) ?_
  refine lv_istore_n (lv' := [(1, .int 0), (0, .ref y)]) hx hb dX11_reaches8500_1 rfl hl (by decide) rfl (fun ls hl => ?_)
  refine wl_loop (fun (z_ : Nat) H locs ls => (z_ ≤ mno) ∧ H = s.heap ∧ locs = [] ∧ lv_has ls 3 [(1, .int (nI z_)), (0, .ref y)]) (fun (z_ : Nat) => mno - z_) (fun z_ H locs ls hI ih => ?_) 0 ⟨(Nat.zero_le _), rfl, rfl, lv_sub hl [0, 1] rfl⟩
  revert hI ih; revert z_; intro i hI ih
  obtain ⟨hi, rfl, rfl, hl⟩ := hI
  refine lv_iload_n hx hb dX11_reaches8500_2 rfl (lv_at hl 0 rfl) ?_
  refine lv_aload_n hx hb dX11_reaches8500_3 rfl (lv_at hl 1 rfl) ?_
  refine va_get (D := (dC, dI)) (ci := 11) (v := .int (nI mno)) (C := RX11) (T := TX11) (N := 56) hx hb hts inX11 hown hK hP 0 rfl rfl 52 (by decide) (hts _ mw_932) (fun _ h9 => h9) rfl dX11_reaches8500_4 ?_
  refine lv_icmp_ge (tgt := 67) hx hb dX11_reaches8500_7 (by decide) (fun c_1 => ?_) (fun c_1 => ?_)
  · have nc_1 : mno ≤ i := (nI_leI (a := mno) (b := i) (by omega) (by omega)).mp c_1
    refine lv_iconst (v := 0) hx hb dX11_reaches8500_67 (by decide) ?_
    exact W.zret (v := 0) (ty := .boolean) hx hb hr rfl (fun t ht hW => ⟨0, rfl, ⟨Or.inl rfl, fun h9 => absurd rfl h9⟩, ht⟩) (fun q h => absurd h List.not_mem_nil) dX11_reaches8500_68
  · have nc_1 : ¬ (mno ≤ i) := fun h9 => c_1 ((nI_leI (a := mno) (b := i) (by omega) (by omega)).mpr h9)
    refine lv_aload_n hx hb dX11_reaches8500_10 rfl (lv_at hl 1 rfl) ?_
    refine va_get (D := (dC, dI)) (ci := 11) (v := .ref (b2 37)) (C := RX11) (T := TX11) (N := 56) hx hb hts inX11 hown hK hP 0 rfl rfl 37 (by decide) (hts _ mw_917) (fun _ h9 => h9) rfl dX11_reaches8500_11 ?_
    refine lv_aload_n hx hb dX11_reaches8500_14 rfl (lv_at hl 1 rfl) ?_
    refine va_get (D := (dC, dI)) (ci := 11) (v := .ref (b2 45)) (C := RX11) (T := TX11) (N := 56) hx hb hts inX11 hown hK hP 0 rfl rfl 45 (by decide) (hts _ mw_925) (fun _ h9 => h9) rfl dX11_reaches8500_15 ?_
    refine lv_aload_n hx hb dX11_reaches8500_18 rfl (lv_at hl 1 rfl) ?_
    refine va_get (D := (dC, dI)) (ci := 11) (v := .ref (b2 51)) (C := RX11) (T := TX11) (N := 56) hx hb hts inX11 hown hK hP 0 rfl rfl 51 (by decide) (hts _ mw_931) (fun _ h9 => h9) rfl dX11_reaches8500_19 ?_
    refine lv_iload_n hx hb dX11_reaches8500_22 rfl (lv_at hl 0 rfl) ?_
    refine va_iald hx hb hK hP 3 0 rfl rfl (vp_in_nI (show i < 40 by omega) (by first | decide | omega)) dX11_reaches8500_23 ?_
    refine lv_topi (fun y_ e_ => ?_)
    obtain rfl : y_ = (A51 i) := e_.trans (congrArg A51 (show ((nI i) : Int32).toNatClampNeg = i from nI_clamp (by omega)))
    refine va_iald hx hb hK hP 2 0 rfl rfl (cnt_vp (h_now i) (by decide) (by decide)) dX11_reaches8500_24 ?_
    refine va_iald hx hb hK hP 1 0 rfl rfl (cnt_vp (h_choice _) (by decide) (by decide)) dX11_reaches8500_25 ?_
    obtain ⟨w9, hw9, ew9⟩ : cnt (A37 ((A45 ((A51 i) : Int32).toNatClampNeg) : Int32).toNatClampNeg) 3000 := (h_w _).1
    have hwN : wOf A37 A45 A51 i = w9 := by unfold wOf; rw [ew9, nI_clamp (by omega)]
    refine lv_topi (fun y_ e_ => ?_)
    obtain rfl : y_ = (nI w9) := e_.trans ew9
    refine lv_istore_n (lv' := [(2, .int (nI w9)), (1, .int (nI i)), (0, .ref y)]) hx hb dX11_reaches8500_26 rfl hl (by decide) rfl (fun ls hl => ?_)
    refine lv_iload_n hx hb dX11_reaches8500_27 rfl (lv_at hl 0 rfl) ?_
    refine lv_sipush (v := 8500) hx hb dX11_reaches8500_28 (by decide) ?_
    refine lv_icmp_gt (tgt := 61) hx hb dX11_reaches8500_31 (by decide) (fun c_2 => ?_) (fun c_2 => ?_)
    · have nc_2 : 8500 < w9 := (nI_ltI (a := 8500) (b := w9) (by omega) (by omega)).mp c_2
      refine lv_iinc (v := (nI (i + 1))) (lv' := [(1, .int (nI (i + 1))), (2, .int (nI w9)), (0, .ref y)]) hx hb dX11_reaches8500_61 hl (k := 1) rfl (nI_add (i) 1) (by decide) rfl (fun ls hl => ?_)
      refine lv_goto (tgt := 2) hx hb dX11_reaches8500_64 (by decide) ?_
      exact ih (i + 1) _ _ _ (by omega) ⟨(by omega), rfl, rfl, lv_sub hl [0, 2] rfl⟩
    · have nc_2 : ¬ (8500 < w9) := fun h9 => c_2 ((nI_ltI (a := 8500) (b := w9) (by omega) (by omega)).mpr h9)
      refine lv_iload_n hx hb dX11_reaches8500_34 rfl (lv_at hl 0 rfl) ?_
      refine lv_if_le (tgt := 61) hx hb dX11_reaches8500_35 (by decide) (fun c_3 => ?_) (fun c_3 => ?_)
      · have nc_3 : w9 ≤ 0 := (nI_leI (a := w9) (b := 0) (by omega) (by omega)).mp c_3
        refine lv_iinc (v := (nI (i + 1))) (lv' := [(1, .int (nI (i + 1))), (2, .int (nI w9)), (0, .ref y)]) hx hb dX11_reaches8500_61 hl (k := 1) rfl (nI_add (i) 1) (by decide) rfl (fun ls hl => ?_)
        refine lv_goto (tgt := 2) hx hb dX11_reaches8500_64 (by decide) ?_
        exact ih (i + 1) _ _ _ (by omega) ⟨(by omega), rfl, rfl, lv_sub hl [0, 2] rfl⟩
      · have nc_3 : ¬ (w9 ≤ 0) := fun h9 => c_3 ((nI_leI (a := w9) (b := 0) (by omega) (by omega)).mpr h9)
        refine lv_aload_n hx hb dX11_reaches8500_38 rfl (lv_at hl 2 rfl) ?_
        refine va_get (D := (dC, dI)) (ci := 11) (v := .ref (b2 50)) (C := RX11) (T := TX11) (N := 56) hx hb hts inX11 hown hK hP 0 rfl rfl 50 (by decide) (hts _ mw_930) (fun _ h9 => h9) rfl dX11_reaches8500_39 ?_
        refine lv_sipush (v := 8500) hx hb dX11_reaches8500_42 (by decide) ?_
        refine lv_iload_n hx hb dX11_reaches8500_45 rfl (lv_at hl 1 rfl) ?_
        refine lv_iconst (v := 1) hx hb dX11_reaches8500_46 (by decide) ?_
        refine lv_iadd hx hb dX11_reaches8500_47 ?_
        refine lv_topi (fun y_ e_ => ?_)
        obtain rfl : y_ = (nI (i + 1)) := e_.trans (nI_add (i) (1))
        refine lv_imul hx hb dX11_reaches8500_48 ?_
        refine lv_topi (fun y_ e_ => ?_)
        obtain rfl : y_ = (nI (8500 * (i + 1))) := e_.trans (pk_mul (8500) (i + 1))
        refine lv_sipush (v := 8500) hx hb dX11_reaches8500_49 (by decide) ?_
        refine lv_iadd hx hb dX11_reaches8500_52 ?_
        refine lv_topi (fun y_ e_ => ?_)
        obtain rfl : y_ = (nI (8500 * (i + 1) + 8500)) := e_.trans (nI_add (8500 * (i + 1)) (8500))
        refine lv_iload_n hx hb dX11_reaches8500_53 rfl (lv_at hl 0 rfl) ?_
        refine lv_isub hx hb dX11_reaches8500_54 ?_
        refine lv_topi (fun y_ e_ => ?_)
        obtain rfl : y_ = (nI ((8500 * (i + 1) + 8500) - w9)) := e_.trans (pk_sub (show w9 ≤ 8500 * (i + 1) + 8500 by omega))
        refine va_zald hx hb hK hP 4 1 rfl rfl (vp_in_nI (show (8500 * (i + 1) + 8500) - w9 < 348500 by omega) (by first | decide | omega)) dX11_reaches8500_55 ?_
        refine lv_topi (fun y_ e_ => ?_)
        obtain rfl : y_ = (A50 ((8500 * (i + 1) + 8500) - w9)) := e_.trans (congrArg A50 (show ((nI ((8500 * (i + 1) + 8500) - w9)) : Int32).toNatClampNeg = (8500 * (i + 1) + 8500) - w9 from nI_clamp (by omega)))
        refine lv_if_eq (tgt := 61) hx hb dX11_reaches8500_56 (by decide) (fun c_4 => ?_) (fun c_4 => ?_)
        · refine lv_iinc (v := (nI (i + 1))) (lv' := [(1, .int (nI (i + 1))), (2, .int (nI w9)), (0, .ref y)]) hx hb dX11_reaches8500_61 hl (k := 1) rfl (nI_add (i) 1) (by decide) rfl (fun ls hl => ?_)
          refine lv_goto (tgt := 2) hx hb dX11_reaches8500_64 (by decide) ?_
          exact ih (i + 1) _ _ _ (by omega) ⟨(by omega), rfl, rfl, lv_sub hl [0, 2] rfl⟩
        · refine lv_iconst (v := 1) hx hb dX11_reaches8500_59 (by decide) ?_
          exact W.zret (v := 1) (ty := .boolean) hx hb hr rfl (fun t ht hW => ⟨1, rfl, ⟨Or.inr rfl, fun _ => ⟨i, by omega, by omega, by rw [hwN]; omega, by rw [hwN]; omega, by rw [hwN, show 8500 * (i + 1) + (8500 - w9) = 8500 * (i + 1) + 8500 - w9 by omega]; exact c_4⟩⟩, ht⟩) (fun q h => absurd h List.not_mem_nil) dX11_reaches8500_60

theorem nn_0 {j : Nat} (h : nI j - 1 < 0) (hj : j < 2 ^ 31) : j = 0 := by
  rcases Nat.eq_zero_or_pos j with h0 | h0
  · exact h0
  · obtain ⟨k, rfl⟩ : ∃ k, j = k + 1 := ⟨j - 1, by omega⟩
    rw [nI_pred] at h
    exact absurd h (nI_pos (by omega))

set_option maxHeartbeats 4000000 in
set_option maxRecDepth 100000 in
theorem m_leastSum (l : Launch) (dC : Nat → ClassId) (dI : Nat → Nat → Nat) (ca : Nat → ClassId) (sz : Nat) (y : Nat) (b2 : Nat → Nat) (ml : Nat) (mb : Nat) (mp : Nat) (mx : Nat) (mr : Nat) (mq : Nat) (gl : Int32) (gh : Int32) (mch : Nat) (mli : Nat) (mno : Nat) (A37 : Nat → Int32) (A45 : Nat → Int32) (A51 : Nat → Int32) (A50 : Nat → Int32) (kc_ : Nat → Int32) (fr : Nat) (ov : Nat) (hM : mI ml mb mp mx mr mq mch mli mno) (h_w : ∀ j, wg_ok (A37 j) (kc_ j)) (h_choice : ∀ j, cnt (A45 j) 599) (h_now : ∀ j, cnt (A51 j) 143) (hfr : 1 ≤ fr ∧ fr ≤ 8000) (hov : ov ≤ 500) : Met l yX11_leastSum (Cond.code yX11_leastSum cX11_leastSum 8 (some .int) :: gT) ({ frames := 2, cells := 0, slots := 0, locals := 82 }) (va_Pc [.ref y, .int (nI fr), .int (nI ov)] (pr (dC, dI) sz [(y, .inr (11, [.int (nI ml), .int (nI mb), .int (nI mp), .int (nI mx), .int (nI mr), .int (nI mq), .ref (b2 6), .ref (b2 7), .ref (b2 8), .ref (b2 9), .ref (b2 10), .ref (b2 11), .ref (b2 12), .ref (b2 13), .ref (b2 14), .ref (b2 15), .ref (b2 16), .ref (b2 17), .ref (b2 18), .ref (b2 19), .ref (b2 20), .ref (b2 21), .ref (b2 22), .ref (b2 23), .ref (b2 24), .ref (b2 25), .ref (b2 26), .ref (b2 27), .ref (b2 28), .int gl, .int gh, .ref (b2 31), .ref (b2 32), .ref (b2 33), .ref (b2 34), .ref (b2 35), .ref (b2 36), .ref (b2 37), .ref (b2 38), .ref (b2 39), .ref (b2 40), .ref (b2 41), .ref (b2 42), .ref (b2 43), .ref (b2 44), .ref (b2 45), .ref (b2 46), .ref (b2 47), .int (nI mch), .int (nI mli), .ref (b2 50), .ref (b2 51), .int (nI mno), .ref (b2 53), .ref (b2 54), .ref (b2 55)])), ((b2 37), .inl (ca 0, 600, .inl A37)), ((b2 45), .inl (ca 0, 144, .inl A45)), ((b2 51), .inl (ca 0, 40, .inl A51)), ((b2 50), .inl (ca 1, 348500, .inl A50))] (aT ca))) (va_Qi (fun (r : Int32) (u_ : (Nat → Int32)) => rTab u_ (wOf A37 A45 A51) mno 0 ∧ (r = -1 ∨ ∃ s_ : Nat, r = nI s_ ∧ fr ≤ s_ ∧ s_ ≤ 8500 ∧ rGo u_ (wOf A37 A45 A51) mno 0 s_)) (fun (u_ : (Nat → Int32)) t => va_P (dC, dI) vwCl [(y, .inr (11, [.int (nI ml), .int (nI mb), .int (nI mp), .int (nI mx), .int (nI mr), .int (nI mq), .ref (b2 6), .ref (b2 7), .ref (b2 8), .ref (b2 9), .ref (b2 10), .ref (b2 11), .ref (b2 12), .ref (b2 13), .ref (b2 14), .ref (b2 15), .ref (b2 16), .ref (b2 17), .ref (b2 18), .ref (b2 19), .ref (b2 20), .ref (b2 21), .ref (b2 22), .ref (b2 23), .ref (b2 24), .ref (b2 25), .ref (b2 26), .ref (b2 27), .ref (b2 28), .int gl, .int gh, .ref (b2 31), .ref (b2 32), .ref (b2 33), .ref (b2 34), .ref (b2 35), .ref (b2 36), .ref (b2 37), .ref (b2 38), .ref (b2 39), .ref (b2 40), .ref (b2 41), .ref (b2 42), .ref (b2 43), .ref (b2 44), .ref (b2 45), .ref (b2 46), .ref (b2 47), .int (nI mch), .int (nI mli), .ref (b2 50), .ref (b2 51), .int (nI mno), .ref (b2 53), .ref (b2 54), .ref (b2 55)])), ((b2 37), .inl (ca 0, 600, .inl A37)), ((b2 45), .inl (ca 0, 144, .inl A45)), ((b2 51), .inl (ca 0, 40, .inl A51)), ((b2 50), .inl (ca 1, 348500, .inl u_))] t.heap ∧ va_D (va_A [(y, .inr (11, [.int (nI ml), .int (nI mb), .int (nI mp), .int (nI mx), .int (nI mr), .int (nI mq), .ref (b2 6), .ref (b2 7), .ref (b2 8), .ref (b2 9), .ref (b2 10), .ref (b2 11), .ref (b2 12), .ref (b2 13), .ref (b2 14), .ref (b2 15), .ref (b2 16), .ref (b2 17), .ref (b2 18), .ref (b2 19), .ref (b2 20), .ref (b2 21), .ref (b2 22), .ref (b2 23), .ref (b2 24), .ref (b2 25), .ref (b2 26), .ref (b2 27), .ref (b2 28), .int gl, .int gh, .ref (b2 31), .ref (b2 32), .ref (b2 33), .ref (b2 34), .ref (b2 35), .ref (b2 36), .ref (b2 37), .ref (b2 38), .ref (b2 39), .ref (b2 40), .ref (b2 41), .ref (b2 42), .ref (b2 43), .ref (b2 44), .ref (b2 45), .ref (b2 46), .ref (b2 47), .int (nI mch), .int (nI mli), .ref (b2 50), .ref (b2 51), .int (nI mno), .ref (b2 53), .ref (b2 54), .ref (b2 55)])), ((b2 37), .inl (ca 0, 600, .inl A37)), ((b2 45), .inl (ca 0, 144, .inl A45)), ((b2 51), .inl (ca 0, 40, .inl A51)), ((b2 50), .inl (ca 1, 348500, .inl A50))] sz) [(y, .inr (11, [.int (nI ml), .int (nI mb), .int (nI mp), .int (nI mx), .int (nI mr), .int (nI mq), .ref (b2 6), .ref (b2 7), .ref (b2 8), .ref (b2 9), .ref (b2 10), .ref (b2 11), .ref (b2 12), .ref (b2 13), .ref (b2 14), .ref (b2 15), .ref (b2 16), .ref (b2 17), .ref (b2 18), .ref (b2 19), .ref (b2 20), .ref (b2 21), .ref (b2 22), .ref (b2 23), .ref (b2 24), .ref (b2 25), .ref (b2 26), .ref (b2 27), .ref (b2 28), .int gl, .int gh, .ref (b2 31), .ref (b2 32), .ref (b2 33), .ref (b2 34), .ref (b2 35), .ref (b2 36), .ref (b2 37), .ref (b2 38), .ref (b2 39), .ref (b2 40), .ref (b2 41), .ref (b2 42), .ref (b2 43), .ref (b2 44), .ref (b2 45), .ref (b2 46), .ref (b2 47), .int (nI mch), .int (nI mli), .ref (b2 50), .ref (b2 51), .int (nI mno), .ref (b2 53), .ref (b2 54), .ref (b2 55)])), ((b2 37), .inl (ca 0, 600, .inl A37)), ((b2 45), .inl (ca 0, 144, .inl A45)), ((b2 51), .inl (ca 0, 40, .inl A51)), ((b2 50), .inl (ca 1, 348500, .inl u_))]) (va_A [(y, .inr (11, [.int (nI ml), .int (nI mb), .int (nI mp), .int (nI mx), .int (nI mr), .int (nI mq), .ref (b2 6), .ref (b2 7), .ref (b2 8), .ref (b2 9), .ref (b2 10), .ref (b2 11), .ref (b2 12), .ref (b2 13), .ref (b2 14), .ref (b2 15), .ref (b2 16), .ref (b2 17), .ref (b2 18), .ref (b2 19), .ref (b2 20), .ref (b2 21), .ref (b2 22), .ref (b2 23), .ref (b2 24), .ref (b2 25), .ref (b2 26), .ref (b2 27), .ref (b2 28), .int gl, .int gh, .ref (b2 31), .ref (b2 32), .ref (b2 33), .ref (b2 34), .ref (b2 35), .ref (b2 36), .ref (b2 37), .ref (b2 38), .ref (b2 39), .ref (b2 40), .ref (b2 41), .ref (b2 42), .ref (b2 43), .ref (b2 44), .ref (b2 45), .ref (b2 46), .ref (b2 47), .int (nI mch), .int (nI mli), .ref (b2 50), .ref (b2 51), .int (nI mno), .ref (b2 53), .ref (b2 54), .ref (b2 55)])), ((b2 37), .inl (ca 0, 600, .inl A37)), ((b2 45), .inl (ca 0, 144, .inl A45)), ((b2 51), .inl (ca 0, 40, .inl A51)), ((b2 50), .inl (ca 1, 348500, .inl A50))] sz)) 0 0 (va_A [(y, .inr (11, [.int (nI ml), .int (nI mb), .int (nI mp), .int (nI mx), .int (nI mr), .int (nI mq), .ref (b2 6), .ref (b2 7), .ref (b2 8), .ref (b2 9), .ref (b2 10), .ref (b2 11), .ref (b2 12), .ref (b2 13), .ref (b2 14), .ref (b2 15), .ref (b2 16), .ref (b2 17), .ref (b2 18), .ref (b2 19), .ref (b2 20), .ref (b2 21), .ref (b2 22), .ref (b2 23), .ref (b2 24), .ref (b2 25), .ref (b2 26), .ref (b2 27), .ref (b2 28), .int gl, .int gh, .ref (b2 31), .ref (b2 32), .ref (b2 33), .ref (b2 34), .ref (b2 35), .ref (b2 36), .ref (b2 37), .ref (b2 38), .ref (b2 39), .ref (b2 40), .ref (b2 41), .ref (b2 42), .ref (b2 43), .ref (b2 44), .ref (b2 45), .ref (b2 46), .ref (b2 47), .int (nI mch), .int (nI mli), .ref (b2 50), .ref (b2 51), .int (nI mno), .ref (b2 53), .ref (b2 54), .ref (b2 55)])), ((b2 37), .inl (ca 0, 600, .inl A37)), ((b2 45), .inl (ca 0, 144, .inl A45)), ((b2 51), .inl (ca 0, 40, .inl A51)), ((b2 50), .inl (ca 1, 348500, .inl A50))] sz) := by
  refine Met.ofW (cc := cX11_leastSum) (maxL := 8) (ret := (some .int)) (by decide) rfl ?_
  intro p e s m args below meth c s₁ B hml hv
  obtain ⟨rfl, hsz, hP, hK, hD0, hE⟩ := hv
  have hx := B.exec
  have hb := B.bytes
  have hr := B.returns
  have hts : ∀ w ∈ gT, w.before _ s = true := fun w h => atoms_spec (ws := Cond.code yX11_leastSum cX11_leastSum 8 (some .int) :: gT) B.pre w (List.mem_cons_of_mem _ h)
  have hown : s.vm.findClass RX11 = some m.cls := findClass_of_methodNamed B.named
  have hlocks := B.notSynchronized
  subst hsz
  have hD := hD0.self (sz := s.heap.size)
  generalize hAe : va_A [(y, .inr (11, [.int (nI ml), .int (nI mb), .int (nI mp), .int (nI mx), .int (nI mr), .int (nI mq), .ref (b2 6), .ref (b2 7), .ref (b2 8), .ref (b2 9), .ref (b2 10), .ref (b2 11), .ref (b2 12), .ref (b2 13), .ref (b2 14), .ref (b2 15), .ref (b2 16), .ref (b2 17), .ref (b2 18), .ref (b2 19), .ref (b2 20), .ref (b2 21), .ref (b2 22), .ref (b2 23), .ref (b2 24), .ref (b2 25), .ref (b2 26), .ref (b2 27), .ref (b2 28), .int gl, .int gh, .ref (b2 31), .ref (b2 32), .ref (b2 33), .ref (b2 34), .ref (b2 35), .ref (b2 36), .ref (b2 37), .ref (b2 38), .ref (b2 39), .ref (b2 40), .ref (b2 41), .ref (b2 42), .ref (b2 43), .ref (b2 44), .ref (b2 45), .ref (b2 46), .ref (b2 47), .int (nI mch), .int (nI mli), .ref (b2 50), .ref (b2 51), .int (nI mno), .ref (b2 53), .ref (b2 54), .ref (b2 55)])), ((b2 37), .inl (ca 0, 600, .inl A37)), ((b2 45), .inl (ca 0, 144, .inl A45)), ((b2 51), .inl (ca 0, 40, .inl A51)), ((b2 50), .inl (ca 1, 348500, .inl A50))] s.heap.size = A at hD ⊢
  have hA : ∀ q : Nat, s.heap.size ≤ q → A q := fun q h => by rw [← hAe]; exact Or.inr h
  have hS : va_S A s.heap s.heap [] := va_S.rf
  have hl := lv_entry ([.ref y, .int (nI fr), .int (nI ov)]) (n := 8) (Nat.le_of_ble_eq_true rfl)
  rw [lg_entry_eq]
  generalize (lg_sl ([.ref y, .int (nI fr), .int (nI ov)]) ++ List.replicate (8 - (lg_sl ([.ref y, .int (nI fr), .int (nI ov)])).length) Slot.unset).toArray = ls at hl ⊢
  have hl : lv_has ls 8 [(0, .ref y), (1, .int (nI fr)), (2, .int (nI ov))] := hl
  obtain ⟨hm1, hm2, hm3, hm4, hm5, hm6, hm7, hm8, hm9⟩ := id hM
  refine lv_iload_n hx hb dX11_leastSum_0 rfl (lv_at hl 1 rfl) ?_
  refine lv_iload_n hx hb dX11_leastSum_1 rfl (lv_at hl 2 rfl) ?_
  refine lv_iadd hx hb dX11_leastSum_2 ?_
  refine lv_topi (fun y_ e_ => ?_)
  obtain rfl : y_ = (nI (fr + ov)) := e_.trans (nI_add (fr) (ov))
  refine lv_istore_n (lv' := [(3, .int (nI (fr + ov))), (0, .ref y), (1, .int (nI fr)), (2, .int (nI ov))]) hx hb dX11_leastSum_3 rfl hl (by decide) rfl (fun ls hl => ?_)
  refine lv_aload_n hx hb dX11_leastSum_4 rfl (lv_at hl 1 rfl) ?_
  refine va_get (D := (dC, dI)) (ci := 11) (v := .int (nI mno)) (C := RX11) (T := TX11) (N := 56) hx hb hts inX11 hown hK hP 0 rfl rfl 52 (by decide) (hts _ mw_932) (fun _ h9 => h9) rfl dX11_leastSum_5 ?_
  refine lv_istore (lv' := [(4, .int (nI mno)), (3, .int (nI (fr + ov))), (0, .ref y), (1, .int (nI fr)), (2, .int (nI ov))]) hx hb dX11_leastSum_8 hl (by decide) rfl (fun ls hl => ?_)
  have hl : lv_has ls 8 [(4, .int ((nI (mno + 1)) - 1)), (3, .int (nI (fr + ov))), (0, .ref y), (1, .int (nI fr)), (2, .int (nI ov))] := by rw [nI_pred]; exact hl
  refine wl_loop (fun (z_ : Nat × (Nat → Int32)) H locs ls => (z_.1 ≤ mno + 1 ∧ rTab z_.2 (wOf A37 A45 A51) mno z_.1) ∧ va_P (dC, dI) vwCl [(y, .inr (11, [.int (nI ml), .int (nI mb), .int (nI mp), .int (nI mx), .int (nI mr), .int (nI mq), .ref (b2 6), .ref (b2 7), .ref (b2 8), .ref (b2 9), .ref (b2 10), .ref (b2 11), .ref (b2 12), .ref (b2 13), .ref (b2 14), .ref (b2 15), .ref (b2 16), .ref (b2 17), .ref (b2 18), .ref (b2 19), .ref (b2 20), .ref (b2 21), .ref (b2 22), .ref (b2 23), .ref (b2 24), .ref (b2 25), .ref (b2 26), .ref (b2 27), .ref (b2 28), .int gl, .int gh, .ref (b2 31), .ref (b2 32), .ref (b2 33), .ref (b2 34), .ref (b2 35), .ref (b2 36), .ref (b2 37), .ref (b2 38), .ref (b2 39), .ref (b2 40), .ref (b2 41), .ref (b2 42), .ref (b2 43), .ref (b2 44), .ref (b2 45), .ref (b2 46), .ref (b2 47), .int (nI mch), .int (nI mli), .ref (b2 50), .ref (b2 51), .int (nI mno), .ref (b2 53), .ref (b2 54), .ref (b2 55)])), ((b2 37), .inl (ca 0, 600, .inl A37)), ((b2 45), .inl (ca 0, 144, .inl A45)), ((b2 51), .inl (ca 0, 40, .inl A51)), ((b2 50), .inl (ca 1, 348500, .inl z_.2))] H ∧ va_D A [(y, .inr (11, [.int (nI ml), .int (nI mb), .int (nI mp), .int (nI mx), .int (nI mr), .int (nI mq), .ref (b2 6), .ref (b2 7), .ref (b2 8), .ref (b2 9), .ref (b2 10), .ref (b2 11), .ref (b2 12), .ref (b2 13), .ref (b2 14), .ref (b2 15), .ref (b2 16), .ref (b2 17), .ref (b2 18), .ref (b2 19), .ref (b2 20), .ref (b2 21), .ref (b2 22), .ref (b2 23), .ref (b2 24), .ref (b2 25), .ref (b2 26), .ref (b2 27), .ref (b2 28), .int gl, .int gh, .ref (b2 31), .ref (b2 32), .ref (b2 33), .ref (b2 34), .ref (b2 35), .ref (b2 36), .ref (b2 37), .ref (b2 38), .ref (b2 39), .ref (b2 40), .ref (b2 41), .ref (b2 42), .ref (b2 43), .ref (b2 44), .ref (b2 45), .ref (b2 46), .ref (b2 47), .int (nI mch), .int (nI mli), .ref (b2 50), .ref (b2 51), .int (nI mno), .ref (b2 53), .ref (b2 54), .ref (b2 55)])), ((b2 37), .inl (ca 0, 600, .inl A37)), ((b2 45), .inl (ca 0, 144, .inl A45)), ((b2 51), .inl (ca 0, 40, .inl A51)), ((b2 50), .inl (ca 1, 348500, .inl z_.2))] ∧ va_S A s.heap H locs ∧ lv_has ls 8 [(4, .int ((nI z_.1) - 1)), (3, .int (nI (fr + ov))), (0, .ref y), (1, .int (nI fr)), (2, .int (nI ov))]) (fun (z_ : Nat × (Nat → Int32)) => z_.1) (fun z_ H locs ls hI ih => ?_) (mno + 1, A50) ⟨⟨Nat.le_refl _, rTab_top _ _ _⟩, hP, hD, hS, lv_sub hl [0, 1, 2, 3, 4] rfl⟩
  obtain ⟨jx, R1_⟩ := z_
  dsimp only at hI ih
  obtain ⟨⟨hjx, hT⟩, hP, hD, hS, hl⟩ := hI
  refine lv_iload hx hb dX11_leastSum_10 (lv_at hl 0 rfl) ?_
  refine lv_if_lt (tgt := 163) hx hb dX11_leastSum_12 (by decide) (fun c_1 => ?_) (fun c_1 => ?_)
  · have hjx0 : jx = 0 := nn_0 c_1 (by omega)
    rw [hjx0] at hT
    refine lv_iload_n hx hb dX11_leastSum_163 rfl (lv_at hl 3 rfl) ?_
    refine lv_istore (lv' := [(4, .int (nI fr)), (3, .int (nI (fr + ov))), (0, .ref y), (1, .int (nI fr)), (2, .int (nI ov))]) hx hb dX11_leastSum_164 hl (by decide) rfl (fun ls hl => ?_)
    refine wl_loop (fun (z_ : Nat) H locs ls => (fr ≤ z_ ∧ z_ ≤ 8500) ∧ va_P (dC, dI) vwCl [(y, .inr (11, [.int (nI ml), .int (nI mb), .int (nI mp), .int (nI mx), .int (nI mr), .int (nI mq), .ref (b2 6), .ref (b2 7), .ref (b2 8), .ref (b2 9), .ref (b2 10), .ref (b2 11), .ref (b2 12), .ref (b2 13), .ref (b2 14), .ref (b2 15), .ref (b2 16), .ref (b2 17), .ref (b2 18), .ref (b2 19), .ref (b2 20), .ref (b2 21), .ref (b2 22), .ref (b2 23), .ref (b2 24), .ref (b2 25), .ref (b2 26), .ref (b2 27), .ref (b2 28), .int gl, .int gh, .ref (b2 31), .ref (b2 32), .ref (b2 33), .ref (b2 34), .ref (b2 35), .ref (b2 36), .ref (b2 37), .ref (b2 38), .ref (b2 39), .ref (b2 40), .ref (b2 41), .ref (b2 42), .ref (b2 43), .ref (b2 44), .ref (b2 45), .ref (b2 46), .ref (b2 47), .int (nI mch), .int (nI mli), .ref (b2 50), .ref (b2 51), .int (nI mno), .ref (b2 53), .ref (b2 54), .ref (b2 55)])), ((b2 37), .inl (ca 0, 600, .inl A37)), ((b2 45), .inl (ca 0, 144, .inl A45)), ((b2 51), .inl (ca 0, 40, .inl A51)), ((b2 50), .inl (ca 1, 348500, .inl R1_))] H ∧ va_D A [(y, .inr (11, [.int (nI ml), .int (nI mb), .int (nI mp), .int (nI mx), .int (nI mr), .int (nI mq), .ref (b2 6), .ref (b2 7), .ref (b2 8), .ref (b2 9), .ref (b2 10), .ref (b2 11), .ref (b2 12), .ref (b2 13), .ref (b2 14), .ref (b2 15), .ref (b2 16), .ref (b2 17), .ref (b2 18), .ref (b2 19), .ref (b2 20), .ref (b2 21), .ref (b2 22), .ref (b2 23), .ref (b2 24), .ref (b2 25), .ref (b2 26), .ref (b2 27), .ref (b2 28), .int gl, .int gh, .ref (b2 31), .ref (b2 32), .ref (b2 33), .ref (b2 34), .ref (b2 35), .ref (b2 36), .ref (b2 37), .ref (b2 38), .ref (b2 39), .ref (b2 40), .ref (b2 41), .ref (b2 42), .ref (b2 43), .ref (b2 44), .ref (b2 45), .ref (b2 46), .ref (b2 47), .int (nI mch), .int (nI mli), .ref (b2 50), .ref (b2 51), .int (nI mno), .ref (b2 53), .ref (b2 54), .ref (b2 55)])), ((b2 37), .inl (ca 0, 600, .inl A37)), ((b2 45), .inl (ca 0, 144, .inl A45)), ((b2 51), .inl (ca 0, 40, .inl A51)), ((b2 50), .inl (ca 1, 348500, .inl R1_))] ∧ va_S A s.heap H locs ∧ lv_has ls 8 [(4, .int (nI z_)), (3, .int (nI (fr + ov))), (0, .ref y), (1, .int (nI fr)), (2, .int (nI ov))]) (fun (z_ : Nat) => 8500 - z_) (fun z_ H locs ls hI ih166 => ?_) fr ⟨⟨Nat.le_refl _, by omega⟩, hP, hD, hS, lv_sub hl [0, 1, 2, 3, 4] rfl⟩
    revert hI ih166; revert z_; intro s4 hI ih166
    obtain ⟨⟨hs4, hs5⟩, hP, hD, hS, hl⟩ := hI
    refine lv_iload hx hb dX11_leastSum_166 (lv_at hl 0 rfl) ?_
    refine lv_iload_n hx hb dX11_leastSum_168 rfl (lv_at hl 1 rfl) ?_
    refine lv_icmp_gt (tgt := 199) hx hb dX11_leastSum_169 (by decide) (fun c_2 => ?_) (fun c_2 => ?_)
    · have nc_2 : fr + ov < s4 := (nI_ltI (a := fr + ov) (b := s4) (by omega) (by omega)).mp c_2
      refine lv_iload_n hx hb dX11_leastSum_199 rfl (lv_at hl 1 rfl) ?_
      refine lv_sipush (v := 8500) hx hb dX11_leastSum_200 (by decide) ?_
      refine lv_icmp_lt (tgt := 221) hx hb dX11_leastSum_203 (by decide) (fun c_3 => ?_) (fun c_3 => ?_)
      · have nc_3 : fr + ov < 8500 := (nI_ltI (a := fr + ov) (b := 8500) (by omega) (by omega)).mp c_3
        refine lv_iconst (v := (-1)) hx hb dX11_leastSum_221 (by decide) ?_
        refine W.widen (k := 0) (n := 0) (Nat.le_of_ble_eq_true rfl) (Nat.le_of_ble_eq_true rfl) ?_
        have hP9 : va_P (dC, dI) vwCl [(y, .inr (11, [.int (nI ml), .int (nI mb), .int (nI mp), .int (nI mx), .int (nI mr), .int (nI mq), .ref (b2 6), .ref (b2 7), .ref (b2 8), .ref (b2 9), .ref (b2 10), .ref (b2 11), .ref (b2 12), .ref (b2 13), .ref (b2 14), .ref (b2 15), .ref (b2 16), .ref (b2 17), .ref (b2 18), .ref (b2 19), .ref (b2 20), .ref (b2 21), .ref (b2 22), .ref (b2 23), .ref (b2 24), .ref (b2 25), .ref (b2 26), .ref (b2 27), .ref (b2 28), .int gl, .int gh, .ref (b2 31), .ref (b2 32), .ref (b2 33), .ref (b2 34), .ref (b2 35), .ref (b2 36), .ref (b2 37), .ref (b2 38), .ref (b2 39), .ref (b2 40), .ref (b2 41), .ref (b2 42), .ref (b2 43), .ref (b2 44), .ref (b2 45), .ref (b2 46), .ref (b2 47), .int (nI mch), .int (nI mli), .ref (b2 50), .ref (b2 51), .int (nI mno), .ref (b2 53), .ref (b2 54), .ref (b2 55)])), ((b2 37), .inl (ca 0, 600, .inl A37)), ((b2 45), .inl (ca 0, 144, .inl A45)), ((b2 51), .inl (ca 0, 40, .inl A51)), ((b2 50), .inl (ca 1, 348500, .inl R1_))] H := va_P.sub hP [0, 1, 2, 3, 4] rfl
        have hD9 : va_D A [(y, .inr (11, [.int (nI ml), .int (nI mb), .int (nI mp), .int (nI mx), .int (nI mr), .int (nI mq), .ref (b2 6), .ref (b2 7), .ref (b2 8), .ref (b2 9), .ref (b2 10), .ref (b2 11), .ref (b2 12), .ref (b2 13), .ref (b2 14), .ref (b2 15), .ref (b2 16), .ref (b2 17), .ref (b2 18), .ref (b2 19), .ref (b2 20), .ref (b2 21), .ref (b2 22), .ref (b2 23), .ref (b2 24), .ref (b2 25), .ref (b2 26), .ref (b2 27), .ref (b2 28), .int gl, .int gh, .ref (b2 31), .ref (b2 32), .ref (b2 33), .ref (b2 34), .ref (b2 35), .ref (b2 36), .ref (b2 37), .ref (b2 38), .ref (b2 39), .ref (b2 40), .ref (b2 41), .ref (b2 42), .ref (b2 43), .ref (b2 44), .ref (b2 45), .ref (b2 46), .ref (b2 47), .int (nI mch), .int (nI mli), .ref (b2 50), .ref (b2 51), .int (nI mno), .ref (b2 53), .ref (b2 54), .ref (b2 55)])), ((b2 37), .inl (ca 0, 600, .inl A37)), ((b2 45), .inl (ca 0, 144, .inl A45)), ((b2 51), .inl (ca 0, 40, .inl A51)), ((b2 50), .inl (ca 1, 348500, .inl R1_))] := va_D.sub hD [0, 1, 2, 3, 4] (by decide) rfl
        exact W.iret (v := (-1)) hx hb hr (fun t ht hW => ⟨⟨(-1), R1_, rfl, ⟨hT, Or.inl rfl⟩, by rw [ht]; exact hP9, hD9⟩, hS.F ht⟩) hS.2.2 dX11_leastSum_222
      · have nc_3 : ¬ (fr + ov < 8500) := fun h9 => c_3 ((nI_ltI (a := fr + ov) (b := 8500) (by omega) (by omega)).mpr h9)
        refine lv_aload_n hx hb dX11_leastSum_206 rfl (lv_at hl 2 rfl) ?_
        have hPc := hP.sub (ws' := [(y, .inr (11, [.int (nI ml), .int (nI mb), .int (nI mp), .int (nI mx), .int (nI mr), .int (nI mq), .ref (b2 6), .ref (b2 7), .ref (b2 8), .ref (b2 9), .ref (b2 10), .ref (b2 11), .ref (b2 12), .ref (b2 13), .ref (b2 14), .ref (b2 15), .ref (b2 16), .ref (b2 17), .ref (b2 18), .ref (b2 19), .ref (b2 20), .ref (b2 21), .ref (b2 22), .ref (b2 23), .ref (b2 24), .ref (b2 25), .ref (b2 26), .ref (b2 27), .ref (b2 28), .int gl, .int gh, .ref (b2 31), .ref (b2 32), .ref (b2 33), .ref (b2 34), .ref (b2 35), .ref (b2 36), .ref (b2 37), .ref (b2 38), .ref (b2 39), .ref (b2 40), .ref (b2 41), .ref (b2 42), .ref (b2 43), .ref (b2 44), .ref (b2 45), .ref (b2 46), .ref (b2 47), .int (nI mch), .int (nI mli), .ref (b2 50), .ref (b2 51), .int (nI mno), .ref (b2 53), .ref (b2 54), .ref (b2 55)])), ((b2 37), .inl (ca 0, 600, .inl A37)), ((b2 45), .inl (ca 0, 144, .inl A45)), ((b2 51), .inl (ca 0, 40, .inl A51)), ((b2 50), .inl (ca 1, 348500, .inl R1_))]) [0, 1, 2, 3, 4] rfl
        refine pc_i (va_runV (As := []) (rest := []) ⟨hx, hb, hml, hown, hts⟩ (m_r8500 l dC dI ca y b2 ml mb mp mx mr mq gl gh mch mli mno A37 A45 A51 R1_ kc_ (by first | assumption | omega | exact ⟨_, by omega, rfl⟩) (by first | assumption | omega | exact ⟨_, by omega, rfl⟩) (by first | assumption | omega | exact ⟨_, by omega, rfl⟩) (by first | assumption | omega | exact ⟨_, by omega, rfl⟩)) (⟨callB_of 0 hts (gd mw_1207) rfl rfl rfl (hts _ mw_8) (hts _ mw_1204) ds_X11_reaches8500 ⟨Nat.le_of_ble_eq_true rfl, Nat.le_of_ble_eq_true rfl⟩, (hts _ mw_1206), (hts _ mp_51)⟩) (pu_V hPc hK hE (va_recv hK hPc (ci := 11) (q0 := 0) rfl rfl)) rfl rfl hl.1 rfl (lv_room (Nat.le_of_ble_eq_true rfl)) dX11_leastSum_207 ⟨Nat.le_of_ble_eq_true rfl, Nat.le_of_ble_eq_true rfl⟩) (fun rv_4 hw_ => ?_)
        have hw_4 := hw_
        refine lv_if_eq (tgt := 219) hx hb dX11_leastSum_210 (by decide) (fun c_5 => ?_) (fun c_5 => ?_)
        · refine lv_iconst (v := (-1)) hx hb dX11_leastSum_219 (by decide) ?_
          refine W.widen (k := 0) (n := 0) (Nat.le_of_ble_eq_true rfl) (Nat.le_of_ble_eq_true rfl) ?_
          have hP9 : va_P (dC, dI) vwCl [(y, .inr (11, [.int (nI ml), .int (nI mb), .int (nI mp), .int (nI mx), .int (nI mr), .int (nI mq), .ref (b2 6), .ref (b2 7), .ref (b2 8), .ref (b2 9), .ref (b2 10), .ref (b2 11), .ref (b2 12), .ref (b2 13), .ref (b2 14), .ref (b2 15), .ref (b2 16), .ref (b2 17), .ref (b2 18), .ref (b2 19), .ref (b2 20), .ref (b2 21), .ref (b2 22), .ref (b2 23), .ref (b2 24), .ref (b2 25), .ref (b2 26), .ref (b2 27), .ref (b2 28), .int gl, .int gh, .ref (b2 31), .ref (b2 32), .ref (b2 33), .ref (b2 34), .ref (b2 35), .ref (b2 36), .ref (b2 37), .ref (b2 38), .ref (b2 39), .ref (b2 40), .ref (b2 41), .ref (b2 42), .ref (b2 43), .ref (b2 44), .ref (b2 45), .ref (b2 46), .ref (b2 47), .int (nI mch), .int (nI mli), .ref (b2 50), .ref (b2 51), .int (nI mno), .ref (b2 53), .ref (b2 54), .ref (b2 55)])), ((b2 37), .inl (ca 0, 600, .inl A37)), ((b2 45), .inl (ca 0, 144, .inl A45)), ((b2 51), .inl (ca 0, 40, .inl A51)), ((b2 50), .inl (ca 1, 348500, .inl R1_))] H := va_P.sub hP [0, 1, 2, 3, 4] rfl
          have hD9 : va_D A [(y, .inr (11, [.int (nI ml), .int (nI mb), .int (nI mp), .int (nI mx), .int (nI mr), .int (nI mq), .ref (b2 6), .ref (b2 7), .ref (b2 8), .ref (b2 9), .ref (b2 10), .ref (b2 11), .ref (b2 12), .ref (b2 13), .ref (b2 14), .ref (b2 15), .ref (b2 16), .ref (b2 17), .ref (b2 18), .ref (b2 19), .ref (b2 20), .ref (b2 21), .ref (b2 22), .ref (b2 23), .ref (b2 24), .ref (b2 25), .ref (b2 26), .ref (b2 27), .ref (b2 28), .int gl, .int gh, .ref (b2 31), .ref (b2 32), .ref (b2 33), .ref (b2 34), .ref (b2 35), .ref (b2 36), .ref (b2 37), .ref (b2 38), .ref (b2 39), .ref (b2 40), .ref (b2 41), .ref (b2 42), .ref (b2 43), .ref (b2 44), .ref (b2 45), .ref (b2 46), .ref (b2 47), .int (nI mch), .int (nI mli), .ref (b2 50), .ref (b2 51), .int (nI mno), .ref (b2 53), .ref (b2 54), .ref (b2 55)])), ((b2 37), .inl (ca 0, 600, .inl A37)), ((b2 45), .inl (ca 0, 144, .inl A45)), ((b2 51), .inl (ca 0, 40, .inl A51)), ((b2 50), .inl (ca 1, 348500, .inl R1_))] := va_D.sub hD [0, 1, 2, 3, 4] (by decide) rfl
          exact W.iret (v := (-1)) hx hb hr (fun t ht hW => ⟨⟨(-1), R1_, rfl, ⟨hT, Or.inl rfl⟩, by rw [ht]; exact hP9, hD9⟩, hS.F ht⟩) hS.2.2 dX11_leastSum_220
        · refine lv_sipush (v := 8500) hx hb dX11_leastSum_213 (by decide) ?_
          refine lv_goto (tgt := 220) hx hb dX11_leastSum_216 (by decide) ?_
          refine W.widen (k := 0) (n := 0) (Nat.le_of_ble_eq_true rfl) (Nat.le_of_ble_eq_true rfl) ?_
          have hP9 : va_P (dC, dI) vwCl [(y, .inr (11, [.int (nI ml), .int (nI mb), .int (nI mp), .int (nI mx), .int (nI mr), .int (nI mq), .ref (b2 6), .ref (b2 7), .ref (b2 8), .ref (b2 9), .ref (b2 10), .ref (b2 11), .ref (b2 12), .ref (b2 13), .ref (b2 14), .ref (b2 15), .ref (b2 16), .ref (b2 17), .ref (b2 18), .ref (b2 19), .ref (b2 20), .ref (b2 21), .ref (b2 22), .ref (b2 23), .ref (b2 24), .ref (b2 25), .ref (b2 26), .ref (b2 27), .ref (b2 28), .int gl, .int gh, .ref (b2 31), .ref (b2 32), .ref (b2 33), .ref (b2 34), .ref (b2 35), .ref (b2 36), .ref (b2 37), .ref (b2 38), .ref (b2 39), .ref (b2 40), .ref (b2 41), .ref (b2 42), .ref (b2 43), .ref (b2 44), .ref (b2 45), .ref (b2 46), .ref (b2 47), .int (nI mch), .int (nI mli), .ref (b2 50), .ref (b2 51), .int (nI mno), .ref (b2 53), .ref (b2 54), .ref (b2 55)])), ((b2 37), .inl (ca 0, 600, .inl A37)), ((b2 45), .inl (ca 0, 144, .inl A45)), ((b2 51), .inl (ca 0, 40, .inl A51)), ((b2 50), .inl (ca 1, 348500, .inl R1_))] H := va_P.sub hP [0, 1, 2, 3, 4] rfl
          have hD9 : va_D A [(y, .inr (11, [.int (nI ml), .int (nI mb), .int (nI mp), .int (nI mx), .int (nI mr), .int (nI mq), .ref (b2 6), .ref (b2 7), .ref (b2 8), .ref (b2 9), .ref (b2 10), .ref (b2 11), .ref (b2 12), .ref (b2 13), .ref (b2 14), .ref (b2 15), .ref (b2 16), .ref (b2 17), .ref (b2 18), .ref (b2 19), .ref (b2 20), .ref (b2 21), .ref (b2 22), .ref (b2 23), .ref (b2 24), .ref (b2 25), .ref (b2 26), .ref (b2 27), .ref (b2 28), .int gl, .int gh, .ref (b2 31), .ref (b2 32), .ref (b2 33), .ref (b2 34), .ref (b2 35), .ref (b2 36), .ref (b2 37), .ref (b2 38), .ref (b2 39), .ref (b2 40), .ref (b2 41), .ref (b2 42), .ref (b2 43), .ref (b2 44), .ref (b2 45), .ref (b2 46), .ref (b2 47), .int (nI mch), .int (nI mli), .ref (b2 50), .ref (b2 51), .int (nI mno), .ref (b2 53), .ref (b2 54), .ref (b2 55)])), ((b2 37), .inl (ca 0, 600, .inl A37)), ((b2 45), .inl (ca 0, 144, .inl A45)), ((b2 51), .inl (ca 0, 40, .inl A51)), ((b2 50), .inl (ca 1, 348500, .inl R1_))] := va_D.sub hD [0, 1, 2, 3, 4] (by decide) rfl
          exact W.iret (v := 8500) hx hb hr (fun t ht hW => ⟨⟨8500, R1_, rfl, ⟨hT, Or.inr ⟨8500, rfl, by omega, Nat.le_refl _, Or.inr ⟨rfl, hw_4.2 c_5⟩⟩⟩, by rw [ht]; exact hP9, hD9⟩, hS.F ht⟩) hS.2.2 dX11_leastSum_220
    · have nc_2 : ¬ (fr + ov < s4) := fun h9 => c_2 ((nI_ltI (a := fr + ov) (b := s4) (by omega) (by omega)).mpr h9)
      refine lv_iload hx hb dX11_leastSum_172 (lv_at hl 0 rfl) ?_
      refine lv_sipush (v := 8500) hx hb dX11_leastSum_174 (by decide) ?_
      refine lv_icmp_ge (tgt := 199) hx hb dX11_leastSum_177 (by decide) (fun c_6 => ?_) (fun c_6 => ?_)
      · have nc_6 : 8500 ≤ s4 := (nI_leI (a := 8500) (b := s4) (by omega) (by omega)).mp c_6
        refine lv_iload_n hx hb dX11_leastSum_199 rfl (lv_at hl 1 rfl) ?_
        refine lv_sipush (v := 8500) hx hb dX11_leastSum_200 (by decide) ?_
        refine lv_icmp_lt (tgt := 221) hx hb dX11_leastSum_203 (by decide) (fun c_7 => ?_) (fun c_7 => ?_)
        · have nc_7 : fr + ov < 8500 := (nI_ltI (a := fr + ov) (b := 8500) (by omega) (by omega)).mp c_7
          refine lv_iconst (v := (-1)) hx hb dX11_leastSum_221 (by decide) ?_
          refine W.widen (k := 0) (n := 0) (Nat.le_of_ble_eq_true rfl) (Nat.le_of_ble_eq_true rfl) ?_
          have hP9 : va_P (dC, dI) vwCl [(y, .inr (11, [.int (nI ml), .int (nI mb), .int (nI mp), .int (nI mx), .int (nI mr), .int (nI mq), .ref (b2 6), .ref (b2 7), .ref (b2 8), .ref (b2 9), .ref (b2 10), .ref (b2 11), .ref (b2 12), .ref (b2 13), .ref (b2 14), .ref (b2 15), .ref (b2 16), .ref (b2 17), .ref (b2 18), .ref (b2 19), .ref (b2 20), .ref (b2 21), .ref (b2 22), .ref (b2 23), .ref (b2 24), .ref (b2 25), .ref (b2 26), .ref (b2 27), .ref (b2 28), .int gl, .int gh, .ref (b2 31), .ref (b2 32), .ref (b2 33), .ref (b2 34), .ref (b2 35), .ref (b2 36), .ref (b2 37), .ref (b2 38), .ref (b2 39), .ref (b2 40), .ref (b2 41), .ref (b2 42), .ref (b2 43), .ref (b2 44), .ref (b2 45), .ref (b2 46), .ref (b2 47), .int (nI mch), .int (nI mli), .ref (b2 50), .ref (b2 51), .int (nI mno), .ref (b2 53), .ref (b2 54), .ref (b2 55)])), ((b2 37), .inl (ca 0, 600, .inl A37)), ((b2 45), .inl (ca 0, 144, .inl A45)), ((b2 51), .inl (ca 0, 40, .inl A51)), ((b2 50), .inl (ca 1, 348500, .inl R1_))] H := va_P.sub hP [0, 1, 2, 3, 4] rfl
          have hD9 : va_D A [(y, .inr (11, [.int (nI ml), .int (nI mb), .int (nI mp), .int (nI mx), .int (nI mr), .int (nI mq), .ref (b2 6), .ref (b2 7), .ref (b2 8), .ref (b2 9), .ref (b2 10), .ref (b2 11), .ref (b2 12), .ref (b2 13), .ref (b2 14), .ref (b2 15), .ref (b2 16), .ref (b2 17), .ref (b2 18), .ref (b2 19), .ref (b2 20), .ref (b2 21), .ref (b2 22), .ref (b2 23), .ref (b2 24), .ref (b2 25), .ref (b2 26), .ref (b2 27), .ref (b2 28), .int gl, .int gh, .ref (b2 31), .ref (b2 32), .ref (b2 33), .ref (b2 34), .ref (b2 35), .ref (b2 36), .ref (b2 37), .ref (b2 38), .ref (b2 39), .ref (b2 40), .ref (b2 41), .ref (b2 42), .ref (b2 43), .ref (b2 44), .ref (b2 45), .ref (b2 46), .ref (b2 47), .int (nI mch), .int (nI mli), .ref (b2 50), .ref (b2 51), .int (nI mno), .ref (b2 53), .ref (b2 54), .ref (b2 55)])), ((b2 37), .inl (ca 0, 600, .inl A37)), ((b2 45), .inl (ca 0, 144, .inl A45)), ((b2 51), .inl (ca 0, 40, .inl A51)), ((b2 50), .inl (ca 1, 348500, .inl R1_))] := va_D.sub hD [0, 1, 2, 3, 4] (by decide) rfl
          exact W.iret (v := (-1)) hx hb hr (fun t ht hW => ⟨⟨(-1), R1_, rfl, ⟨hT, Or.inl rfl⟩, by rw [ht]; exact hP9, hD9⟩, hS.F ht⟩) hS.2.2 dX11_leastSum_222
        · have nc_7 : ¬ (fr + ov < 8500) := fun h9 => c_7 ((nI_ltI (a := fr + ov) (b := 8500) (by omega) (by omega)).mpr h9)
          refine lv_aload_n hx hb dX11_leastSum_206 rfl (lv_at hl 2 rfl) ?_
          have hPc := hP.sub (ws' := [(y, .inr (11, [.int (nI ml), .int (nI mb), .int (nI mp), .int (nI mx), .int (nI mr), .int (nI mq), .ref (b2 6), .ref (b2 7), .ref (b2 8), .ref (b2 9), .ref (b2 10), .ref (b2 11), .ref (b2 12), .ref (b2 13), .ref (b2 14), .ref (b2 15), .ref (b2 16), .ref (b2 17), .ref (b2 18), .ref (b2 19), .ref (b2 20), .ref (b2 21), .ref (b2 22), .ref (b2 23), .ref (b2 24), .ref (b2 25), .ref (b2 26), .ref (b2 27), .ref (b2 28), .int gl, .int gh, .ref (b2 31), .ref (b2 32), .ref (b2 33), .ref (b2 34), .ref (b2 35), .ref (b2 36), .ref (b2 37), .ref (b2 38), .ref (b2 39), .ref (b2 40), .ref (b2 41), .ref (b2 42), .ref (b2 43), .ref (b2 44), .ref (b2 45), .ref (b2 46), .ref (b2 47), .int (nI mch), .int (nI mli), .ref (b2 50), .ref (b2 51), .int (nI mno), .ref (b2 53), .ref (b2 54), .ref (b2 55)])), ((b2 37), .inl (ca 0, 600, .inl A37)), ((b2 45), .inl (ca 0, 144, .inl A45)), ((b2 51), .inl (ca 0, 40, .inl A51)), ((b2 50), .inl (ca 1, 348500, .inl R1_))]) [0, 1, 2, 3, 4] rfl
          refine pc_i (va_runV (As := []) (rest := []) ⟨hx, hb, hml, hown, hts⟩ (m_r8500 l dC dI ca y b2 ml mb mp mx mr mq gl gh mch mli mno A37 A45 A51 R1_ kc_ (by first | assumption | omega | exact ⟨_, by omega, rfl⟩) (by first | assumption | omega | exact ⟨_, by omega, rfl⟩) (by first | assumption | omega | exact ⟨_, by omega, rfl⟩) (by first | assumption | omega | exact ⟨_, by omega, rfl⟩)) (⟨callB_of 0 hts (gd mw_1207) rfl rfl rfl (hts _ mw_8) (hts _ mw_1204) ds_X11_reaches8500 ⟨Nat.le_of_ble_eq_true rfl, Nat.le_of_ble_eq_true rfl⟩, (hts _ mw_1206), (hts _ mp_51)⟩) (pu_V hPc hK hE (va_recv hK hPc (ci := 11) (q0 := 0) rfl rfl)) rfl rfl hl.1 rfl (lv_room (Nat.le_of_ble_eq_true rfl)) dX11_leastSum_207 ⟨Nat.le_of_ble_eq_true rfl, Nat.le_of_ble_eq_true rfl⟩) (fun rv_8 hw_ => ?_)
          have hw_8 := hw_
          refine lv_if_eq (tgt := 219) hx hb dX11_leastSum_210 (by decide) (fun c_9 => ?_) (fun c_9 => ?_)
          · refine lv_iconst (v := (-1)) hx hb dX11_leastSum_219 (by decide) ?_
            refine W.widen (k := 0) (n := 0) (Nat.le_of_ble_eq_true rfl) (Nat.le_of_ble_eq_true rfl) ?_
            have hP9 : va_P (dC, dI) vwCl [(y, .inr (11, [.int (nI ml), .int (nI mb), .int (nI mp), .int (nI mx), .int (nI mr), .int (nI mq), .ref (b2 6), .ref (b2 7), .ref (b2 8), .ref (b2 9), .ref (b2 10), .ref (b2 11), .ref (b2 12), .ref (b2 13), .ref (b2 14), .ref (b2 15), .ref (b2 16), .ref (b2 17), .ref (b2 18), .ref (b2 19), .ref (b2 20), .ref (b2 21), .ref (b2 22), .ref (b2 23), .ref (b2 24), .ref (b2 25), .ref (b2 26), .ref (b2 27), .ref (b2 28), .int gl, .int gh, .ref (b2 31), .ref (b2 32), .ref (b2 33), .ref (b2 34), .ref (b2 35), .ref (b2 36), .ref (b2 37), .ref (b2 38), .ref (b2 39), .ref (b2 40), .ref (b2 41), .ref (b2 42), .ref (b2 43), .ref (b2 44), .ref (b2 45), .ref (b2 46), .ref (b2 47), .int (nI mch), .int (nI mli), .ref (b2 50), .ref (b2 51), .int (nI mno), .ref (b2 53), .ref (b2 54), .ref (b2 55)])), ((b2 37), .inl (ca 0, 600, .inl A37)), ((b2 45), .inl (ca 0, 144, .inl A45)), ((b2 51), .inl (ca 0, 40, .inl A51)), ((b2 50), .inl (ca 1, 348500, .inl R1_))] H := va_P.sub hP [0, 1, 2, 3, 4] rfl
            have hD9 : va_D A [(y, .inr (11, [.int (nI ml), .int (nI mb), .int (nI mp), .int (nI mx), .int (nI mr), .int (nI mq), .ref (b2 6), .ref (b2 7), .ref (b2 8), .ref (b2 9), .ref (b2 10), .ref (b2 11), .ref (b2 12), .ref (b2 13), .ref (b2 14), .ref (b2 15), .ref (b2 16), .ref (b2 17), .ref (b2 18), .ref (b2 19), .ref (b2 20), .ref (b2 21), .ref (b2 22), .ref (b2 23), .ref (b2 24), .ref (b2 25), .ref (b2 26), .ref (b2 27), .ref (b2 28), .int gl, .int gh, .ref (b2 31), .ref (b2 32), .ref (b2 33), .ref (b2 34), .ref (b2 35), .ref (b2 36), .ref (b2 37), .ref (b2 38), .ref (b2 39), .ref (b2 40), .ref (b2 41), .ref (b2 42), .ref (b2 43), .ref (b2 44), .ref (b2 45), .ref (b2 46), .ref (b2 47), .int (nI mch), .int (nI mli), .ref (b2 50), .ref (b2 51), .int (nI mno), .ref (b2 53), .ref (b2 54), .ref (b2 55)])), ((b2 37), .inl (ca 0, 600, .inl A37)), ((b2 45), .inl (ca 0, 144, .inl A45)), ((b2 51), .inl (ca 0, 40, .inl A51)), ((b2 50), .inl (ca 1, 348500, .inl R1_))] := va_D.sub hD [0, 1, 2, 3, 4] (by decide) rfl
            exact W.iret (v := (-1)) hx hb hr (fun t ht hW => ⟨⟨(-1), R1_, rfl, ⟨hT, Or.inl rfl⟩, by rw [ht]; exact hP9, hD9⟩, hS.F ht⟩) hS.2.2 dX11_leastSum_220
          · refine lv_sipush (v := 8500) hx hb dX11_leastSum_213 (by decide) ?_
            refine lv_goto (tgt := 220) hx hb dX11_leastSum_216 (by decide) ?_
            refine W.widen (k := 0) (n := 0) (Nat.le_of_ble_eq_true rfl) (Nat.le_of_ble_eq_true rfl) ?_
            have hP9 : va_P (dC, dI) vwCl [(y, .inr (11, [.int (nI ml), .int (nI mb), .int (nI mp), .int (nI mx), .int (nI mr), .int (nI mq), .ref (b2 6), .ref (b2 7), .ref (b2 8), .ref (b2 9), .ref (b2 10), .ref (b2 11), .ref (b2 12), .ref (b2 13), .ref (b2 14), .ref (b2 15), .ref (b2 16), .ref (b2 17), .ref (b2 18), .ref (b2 19), .ref (b2 20), .ref (b2 21), .ref (b2 22), .ref (b2 23), .ref (b2 24), .ref (b2 25), .ref (b2 26), .ref (b2 27), .ref (b2 28), .int gl, .int gh, .ref (b2 31), .ref (b2 32), .ref (b2 33), .ref (b2 34), .ref (b2 35), .ref (b2 36), .ref (b2 37), .ref (b2 38), .ref (b2 39), .ref (b2 40), .ref (b2 41), .ref (b2 42), .ref (b2 43), .ref (b2 44), .ref (b2 45), .ref (b2 46), .ref (b2 47), .int (nI mch), .int (nI mli), .ref (b2 50), .ref (b2 51), .int (nI mno), .ref (b2 53), .ref (b2 54), .ref (b2 55)])), ((b2 37), .inl (ca 0, 600, .inl A37)), ((b2 45), .inl (ca 0, 144, .inl A45)), ((b2 51), .inl (ca 0, 40, .inl A51)), ((b2 50), .inl (ca 1, 348500, .inl R1_))] H := va_P.sub hP [0, 1, 2, 3, 4] rfl
            have hD9 : va_D A [(y, .inr (11, [.int (nI ml), .int (nI mb), .int (nI mp), .int (nI mx), .int (nI mr), .int (nI mq), .ref (b2 6), .ref (b2 7), .ref (b2 8), .ref (b2 9), .ref (b2 10), .ref (b2 11), .ref (b2 12), .ref (b2 13), .ref (b2 14), .ref (b2 15), .ref (b2 16), .ref (b2 17), .ref (b2 18), .ref (b2 19), .ref (b2 20), .ref (b2 21), .ref (b2 22), .ref (b2 23), .ref (b2 24), .ref (b2 25), .ref (b2 26), .ref (b2 27), .ref (b2 28), .int gl, .int gh, .ref (b2 31), .ref (b2 32), .ref (b2 33), .ref (b2 34), .ref (b2 35), .ref (b2 36), .ref (b2 37), .ref (b2 38), .ref (b2 39), .ref (b2 40), .ref (b2 41), .ref (b2 42), .ref (b2 43), .ref (b2 44), .ref (b2 45), .ref (b2 46), .ref (b2 47), .int (nI mch), .int (nI mli), .ref (b2 50), .ref (b2 51), .int (nI mno), .ref (b2 53), .ref (b2 54), .ref (b2 55)])), ((b2 37), .inl (ca 0, 600, .inl A37)), ((b2 45), .inl (ca 0, 144, .inl A45)), ((b2 51), .inl (ca 0, 40, .inl A51)), ((b2 50), .inl (ca 1, 348500, .inl R1_))] := va_D.sub hD [0, 1, 2, 3, 4] (by decide) rfl
            exact W.iret (v := 8500) hx hb hr (fun t ht hW => ⟨⟨8500, R1_, rfl, ⟨hT, Or.inr ⟨8500, rfl, by omega, Nat.le_refl _, Or.inr ⟨rfl, hw_8.2 c_9⟩⟩⟩, by rw [ht]; exact hP9, hD9⟩, hS.F ht⟩) hS.2.2 dX11_leastSum_220
      · have nc_6 : ¬ (8500 ≤ s4) := fun h9 => c_6 ((nI_leI (a := 8500) (b := s4) (by omega) (by omega)).mpr h9)
        refine lv_aload_n hx hb dX11_leastSum_180 rfl (lv_at hl 2 rfl) ?_
        refine va_get (D := (dC, dI)) (ci := 11) (v := .ref (b2 50)) (C := RX11) (T := TX11) (N := 56) hx hb hts inX11 hown hK hP 0 rfl rfl 50 (by decide) (hts _ mw_930) (fun _ h9 => h9) rfl dX11_leastSum_181 ?_
        refine lv_iload hx hb dX11_leastSum_184 (lv_at hl 0 rfl) ?_
        refine va_zald hx hb hK hP 4 1 rfl rfl (vp_in_nI (show s4 < 348500 by omega) (by first | decide | omega)) dX11_leastSum_186 ?_
        refine lv_topi (fun y_ e_ => ?_)
        obtain rfl : y_ = (R1_ s4) := e_.trans (congrArg R1_ (show ((nI s4) : Int32).toNatClampNeg = s4 from nI_clamp (by omega)))
        refine lv_if_eq (tgt := 193) hx hb dX11_leastSum_187 (by decide) (fun c_10 => ?_) (fun c_10 => ?_)
        · refine lv_iinc (v := (nI (s4 + 1))) (lv' := [(4, .int (nI (s4 + 1))), (3, .int (nI (fr + ov))), (0, .ref y), (1, .int (nI fr)), (2, .int (nI ov))]) hx hb dX11_leastSum_193 hl (k := 0) rfl (nI_add (s4) 1) (by decide) rfl (fun ls hl => ?_)
          refine lv_goto (tgt := 166) hx hb dX11_leastSum_196 (by decide) ?_
          exact ih166 (s4 + 1) _ _ _ (by omega) ⟨⟨by omega, by omega⟩, hP, hD, hS, lv_sub hl [0, 1, 2, 3, 4] rfl⟩
        · refine lv_iload hx hb dX11_leastSum_190 (lv_at hl 0 rfl) ?_
          refine W.widen (k := 0) (n := 0) (Nat.le_of_ble_eq_true rfl) (Nat.le_of_ble_eq_true rfl) ?_
          have hP9 : va_P (dC, dI) vwCl [(y, .inr (11, [.int (nI ml), .int (nI mb), .int (nI mp), .int (nI mx), .int (nI mr), .int (nI mq), .ref (b2 6), .ref (b2 7), .ref (b2 8), .ref (b2 9), .ref (b2 10), .ref (b2 11), .ref (b2 12), .ref (b2 13), .ref (b2 14), .ref (b2 15), .ref (b2 16), .ref (b2 17), .ref (b2 18), .ref (b2 19), .ref (b2 20), .ref (b2 21), .ref (b2 22), .ref (b2 23), .ref (b2 24), .ref (b2 25), .ref (b2 26), .ref (b2 27), .ref (b2 28), .int gl, .int gh, .ref (b2 31), .ref (b2 32), .ref (b2 33), .ref (b2 34), .ref (b2 35), .ref (b2 36), .ref (b2 37), .ref (b2 38), .ref (b2 39), .ref (b2 40), .ref (b2 41), .ref (b2 42), .ref (b2 43), .ref (b2 44), .ref (b2 45), .ref (b2 46), .ref (b2 47), .int (nI mch), .int (nI mli), .ref (b2 50), .ref (b2 51), .int (nI mno), .ref (b2 53), .ref (b2 54), .ref (b2 55)])), ((b2 37), .inl (ca 0, 600, .inl A37)), ((b2 45), .inl (ca 0, 144, .inl A45)), ((b2 51), .inl (ca 0, 40, .inl A51)), ((b2 50), .inl (ca 1, 348500, .inl R1_))] H := va_P.sub hP [0, 1, 2, 3, 4] rfl
          have hD9 : va_D A [(y, .inr (11, [.int (nI ml), .int (nI mb), .int (nI mp), .int (nI mx), .int (nI mr), .int (nI mq), .ref (b2 6), .ref (b2 7), .ref (b2 8), .ref (b2 9), .ref (b2 10), .ref (b2 11), .ref (b2 12), .ref (b2 13), .ref (b2 14), .ref (b2 15), .ref (b2 16), .ref (b2 17), .ref (b2 18), .ref (b2 19), .ref (b2 20), .ref (b2 21), .ref (b2 22), .ref (b2 23), .ref (b2 24), .ref (b2 25), .ref (b2 26), .ref (b2 27), .ref (b2 28), .int gl, .int gh, .ref (b2 31), .ref (b2 32), .ref (b2 33), .ref (b2 34), .ref (b2 35), .ref (b2 36), .ref (b2 37), .ref (b2 38), .ref (b2 39), .ref (b2 40), .ref (b2 41), .ref (b2 42), .ref (b2 43), .ref (b2 44), .ref (b2 45), .ref (b2 46), .ref (b2 47), .int (nI mch), .int (nI mli), .ref (b2 50), .ref (b2 51), .int (nI mno), .ref (b2 53), .ref (b2 54), .ref (b2 55)])), ((b2 37), .inl (ca 0, 600, .inl A37)), ((b2 45), .inl (ca 0, 144, .inl A45)), ((b2 51), .inl (ca 0, 40, .inl A51)), ((b2 50), .inl (ca 1, 348500, .inl R1_))] := va_D.sub hD [0, 1, 2, 3, 4] (by decide) rfl
          exact W.iret (v := (nI s4)) hx hb hr (fun t ht hW => ⟨⟨(nI s4), R1_, rfl, ⟨hT, Or.inr ⟨s4, rfl, hs4, hs5, Or.inl ⟨by omega, by rw [Nat.mul_zero, Nat.zero_add]; exact c_10⟩⟩⟩, by rw [ht]; exact hP9, hD9⟩, hS.F ht⟩) hS.2.2 dX11_leastSum_192
  · obtain ⟨i, rfl⟩ := nn_pred c_1 (by omega)
    rw [nI_pred] at hl
    refine lv_iload hx hb dX11_leastSum_15 (lv_at hl 0 rfl) ?_
    refine lv_aload_n hx hb dX11_leastSum_17 rfl (lv_at hl 2 rfl) ?_
    refine va_get (D := (dC, dI)) (ci := 11) (v := .int (nI mno)) (C := RX11) (T := TX11) (N := 56) hx hb hts inX11 hown hK hP 0 rfl rfl 52 (by decide) (hts _ mw_932) (fun _ h9 => h9) rfl dX11_leastSum_18 ?_
    refine lv_icmp_ge (tgt := 44) hx hb dX11_leastSum_21 (by decide) (fun c_11 => ?_) (fun c_11 => ?_)
    · have nc_11 : mno ≤ i := (nI_leI (a := mno) (b := i) (by omega) (by omega)).mp c_11
      refine lv_iconst (v := 0) hx hb dX11_leastSum_44 (by decide) ?_
      refine lv_istore (lv' := [(5, .int 0), (4, .int (nI i)), (3, .int (nI (fr + ov))), (0, .ref y), (1, .int (nI fr)), (2, .int (nI ov))]) hx hb dX11_leastSum_45 hl (by decide) rfl (fun ls hl => ?_)
      refine lv_iconst (v := 0) hx hb dX11_leastSum_47 (by decide) ?_
      refine lv_istore (lv' := [(6, .int 0), (5, .int 0), (4, .int (nI i)), (3, .int (nI (fr + ov))), (0, .ref y), (1, .int (nI fr)), (2, .int (nI ov))]) hx hb dX11_leastSum_48 hl (by decide) rfl (fun ls hl => ?_)
      refine wl_loop (fun (z_ : Nat × (Nat → Int32)) H locs ls => (z_.1 ≤ 8500 ∧ rTab z_.2 (wOf A37 A45 A51) mno (i + 1) ∧ rRow z_.2 (wOf A37 A45 A51) mno i z_.1) ∧ va_P (dC, dI) vwCl [(y, .inr (11, [.int (nI ml), .int (nI mb), .int (nI mp), .int (nI mx), .int (nI mr), .int (nI mq), .ref (b2 6), .ref (b2 7), .ref (b2 8), .ref (b2 9), .ref (b2 10), .ref (b2 11), .ref (b2 12), .ref (b2 13), .ref (b2 14), .ref (b2 15), .ref (b2 16), .ref (b2 17), .ref (b2 18), .ref (b2 19), .ref (b2 20), .ref (b2 21), .ref (b2 22), .ref (b2 23), .ref (b2 24), .ref (b2 25), .ref (b2 26), .ref (b2 27), .ref (b2 28), .int gl, .int gh, .ref (b2 31), .ref (b2 32), .ref (b2 33), .ref (b2 34), .ref (b2 35), .ref (b2 36), .ref (b2 37), .ref (b2 38), .ref (b2 39), .ref (b2 40), .ref (b2 41), .ref (b2 42), .ref (b2 43), .ref (b2 44), .ref (b2 45), .ref (b2 46), .ref (b2 47), .int (nI mch), .int (nI mli), .ref (b2 50), .ref (b2 51), .int (nI mno), .ref (b2 53), .ref (b2 54), .ref (b2 55)])), ((b2 37), .inl (ca 0, 600, .inl A37)), ((b2 45), .inl (ca 0, 144, .inl A45)), ((b2 51), .inl (ca 0, 40, .inl A51)), ((b2 50), .inl (ca 1, 348500, .inl z_.2))] H ∧ va_D A [(y, .inr (11, [.int (nI ml), .int (nI mb), .int (nI mp), .int (nI mx), .int (nI mr), .int (nI mq), .ref (b2 6), .ref (b2 7), .ref (b2 8), .ref (b2 9), .ref (b2 10), .ref (b2 11), .ref (b2 12), .ref (b2 13), .ref (b2 14), .ref (b2 15), .ref (b2 16), .ref (b2 17), .ref (b2 18), .ref (b2 19), .ref (b2 20), .ref (b2 21), .ref (b2 22), .ref (b2 23), .ref (b2 24), .ref (b2 25), .ref (b2 26), .ref (b2 27), .ref (b2 28), .int gl, .int gh, .ref (b2 31), .ref (b2 32), .ref (b2 33), .ref (b2 34), .ref (b2 35), .ref (b2 36), .ref (b2 37), .ref (b2 38), .ref (b2 39), .ref (b2 40), .ref (b2 41), .ref (b2 42), .ref (b2 43), .ref (b2 44), .ref (b2 45), .ref (b2 46), .ref (b2 47), .int (nI mch), .int (nI mli), .ref (b2 50), .ref (b2 51), .int (nI mno), .ref (b2 53), .ref (b2 54), .ref (b2 55)])), ((b2 37), .inl (ca 0, 600, .inl A37)), ((b2 45), .inl (ca 0, 144, .inl A45)), ((b2 51), .inl (ca 0, 40, .inl A51)), ((b2 50), .inl (ca 1, 348500, .inl z_.2))] ∧ va_S A s.heap H locs ∧ lv_has ls 8 [(6, .int (nI z_.1)), (5, .int 0), (4, .int (nI i)), (3, .int (nI (fr + ov))), (0, .ref y), (1, .int (nI fr)), (2, .int (nI ov))]) (fun (z_ : Nat × (Nat → Int32)) => 8500 - z_.1) (fun z_ H locs ls hI ih50 => ?_) (0, R1_) ⟨⟨Nat.zero_le _, hT, rRow_0 _ _ _ _⟩, hP, hD, hS, lv_sub hl [0, 1, 2, 3, 4, 5, 6] rfl⟩
      obtain ⟨s6, R2_⟩ := z_
      dsimp only at hI ih50
      obtain ⟨⟨hs6, hT2, hR2⟩, hP, hD, hS, hl⟩ := hI
      refine lv_iload hx hb dX11_leastSum_50 (lv_at hl 0 rfl) ?_
      refine lv_sipush (v := 8500) hx hb dX11_leastSum_52 (by decide) ?_
      refine lv_icmp_ge (tgt := 157) hx hb dX11_leastSum_55 (by decide) (fun c_12 => ?_) (fun c_12 => ?_)
      · have nc_12 : 8500 ≤ s6 := (nI_leI (a := 8500) (b := s6) (by omega) (by omega)).mp c_12
        have hs6e : s6 = 8500 := by omega
        rw [hs6e] at hR2
        refine lv_iinc (v := ((nI i) - 1)) (lv' := [(4, .int ((nI i) - 1)), (6, .int (nI s6)), (5, .int 0), (3, .int (nI (fr + ov))), (0, .ref y), (1, .int (nI fr)), (2, .int (nI ov))]) hx hb dX11_leastSum_157 hl (k := 2) rfl (add_m1 _) (by decide) rfl (fun ls hl => ?_)
        refine lv_goto (tgt := 10) hx hb dX11_leastSum_160 (by decide) ?_
        exact ih (i, R2_) _ _ _ (by omega) ⟨⟨by omega, rTab_dn hT2 hR2⟩, hP, hD, hS, lv_sub hl [0, 3, 4, 5, 6] rfl⟩
      · have nc_12 : ¬ (8500 ≤ s6) := fun h9 => c_12 ((nI_leI (a := 8500) (b := s6) (by omega) (by omega)).mpr h9)
        refine lv_iload hx hb dX11_leastSum_58 (lv_at hl 2 rfl) ?_
        refine lv_aload_n hx hb dX11_leastSum_60 rfl (lv_at hl 4 rfl) ?_
        refine va_get (D := (dC, dI)) (ci := 11) (v := .int (nI mno)) (C := RX11) (T := TX11) (N := 56) hx hb hts inX11 hown hK hP 0 rfl rfl 52 (by decide) (hts _ mw_932) (fun _ h9 => h9) rfl dX11_leastSum_61 ?_
        refine lv_icmp_ne (tgt := 80) hx hb dX11_leastSum_64 (by decide) (fun c_13 => ?_) (fun c_13 => ?_)
        · have nc_13 : ¬ (i = mno) := fun h9 => c_13 ((nI_eq (a := i) (b := mno) (by omega) (by omega)).mpr h9)
          refine lv_aload_n hx hb dX11_leastSum_80 rfl (lv_at hl 4 rfl) ?_
          refine va_get (D := (dC, dI)) (ci := 11) (v := .ref (b2 50)) (C := RX11) (T := TX11) (N := 56) hx hb hts inX11 hown hK hP 0 rfl rfl 50 (by decide) (hts _ mw_930) (fun _ h9 => h9) rfl dX11_leastSum_81 ?_
          refine lv_sipush (v := 8500) hx hb dX11_leastSum_84 (by decide) ?_
          refine lv_iload hx hb dX11_leastSum_87 (lv_at hl 2 rfl) ?_
          refine lv_iconst (v := 1) hx hb dX11_leastSum_89 (by decide) ?_
          refine lv_iadd hx hb dX11_leastSum_90 ?_
          refine lv_topi (fun y_ e_ => ?_)
          obtain rfl : y_ = (nI (i + 1)) := e_.trans (nI_add (i) (1))
          refine lv_imul hx hb dX11_leastSum_91 ?_
          refine lv_topi (fun y_ e_ => ?_)
          obtain rfl : y_ = (nI (8500 * (i + 1))) := e_.trans (pk_mul (8500) (i + 1))
          refine lv_iload hx hb dX11_leastSum_92 (lv_at hl 0 rfl) ?_
          refine lv_iadd hx hb dX11_leastSum_94 ?_
          refine lv_topi (fun y_ e_ => ?_)
          obtain rfl : y_ = (nI (8500 * (i + 1) + s6)) := e_.trans (nI_add (8500 * (i + 1)) (s6))
          refine va_zald hx hb hK hP 4 1 rfl rfl (vp_in_nI (show 8500 * (i + 1) + s6 < 348500 by omega) (by first | decide | omega)) dX11_leastSum_95 ?_
          refine lv_topi (fun y_ e_ => ?_)
          obtain rfl : y_ = (R2_ (8500 * (i + 1) + s6)) := e_.trans (congrArg R2_ (show ((nI (8500 * (i + 1) + s6)) : Int32).toNatClampNeg = 8500 * (i + 1) + s6 from nI_clamp (by omega)))
          refine lv_if_ne (tgt := 128) hx hb dX11_leastSum_96 (by decide) (fun c_14 => ?_) (fun c_14 => ?_)
          · refine lv_iconst (v := 1) hx hb dX11_leastSum_128 (by decide) ?_
            refine lv_goto (tgt := 133) hx hb dX11_leastSum_129 (by decide) ?_
            refine lv_istore (lv' := [(7, .int 1), (6, .int (nI s6)), (5, .int 0), (4, .int (nI i)), (3, .int (nI (fr + ov))), (0, .ref y), (1, .int (nI fr)), (2, .int (nI ov))]) hx hb dX11_leastSum_133 hl (by decide) rfl (fun ls hl => ?_)
            refine lv_aload_n hx hb dX11_leastSum_135 rfl (lv_at hl 5 rfl) ?_
            refine va_get (D := (dC, dI)) (ci := 11) (v := .ref (b2 50)) (C := RX11) (T := TX11) (N := 56) hx hb hts inX11 hown hK hP 0 rfl rfl 50 (by decide) (hts _ mw_930) (fun _ h9 => h9) rfl dX11_leastSum_136 ?_
            refine lv_sipush (v := 8500) hx hb dX11_leastSum_139 (by decide) ?_
            refine lv_iload hx hb dX11_leastSum_142 (lv_at hl 3 rfl) ?_
            refine lv_imul hx hb dX11_leastSum_144 ?_
            refine lv_topi (fun y_ e_ => ?_)
            obtain rfl : y_ = (nI (8500 * i)) := e_.trans (pk_mul (8500) (i))
            refine lv_iload hx hb dX11_leastSum_145 (lv_at hl 1 rfl) ?_
            refine lv_iadd hx hb dX11_leastSum_147 ?_
            refine lv_topi (fun y_ e_ => ?_)
            obtain rfl : y_ = (nI (8500 * i + s6)) := e_.trans (nI_add (8500 * i) (s6))
            refine lv_iload hx hb dX11_leastSum_148 (lv_at hl 0 rfl) ?_
            refine va_zast hx hb hK hP hD hS 4 1 rfl rfl (vp_in_nI (show 8500 * i + s6 < 348500 by omega) (by first | decide | omega)) dX11_leastSum_150 (fun H locs hP hD hS => ?_)
            rw [(show ((nI (8500 * i + s6)) : Int32).toNatClampNeg = 8500 * i + s6 from nI_clamp (by omega))] at hP hD
            obtain ⟨hP, hD⟩ := va_bo [(y, .inr (11, [.int (nI ml), .int (nI mb), .int (nI mp), .int (nI mx), .int (nI mr), .int (nI mq), .ref (b2 6), .ref (b2 7), .ref (b2 8), .ref (b2 9), .ref (b2 10), .ref (b2 11), .ref (b2 12), .ref (b2 13), .ref (b2 14), .ref (b2 15), .ref (b2 16), .ref (b2 17), .ref (b2 18), .ref (b2 19), .ref (b2 20), .ref (b2 21), .ref (b2 22), .ref (b2 23), .ref (b2 24), .ref (b2 25), .ref (b2 26), .ref (b2 27), .ref (b2 28), .int gl, .int gh, .ref (b2 31), .ref (b2 32), .ref (b2 33), .ref (b2 34), .ref (b2 35), .ref (b2 36), .ref (b2 37), .ref (b2 38), .ref (b2 39), .ref (b2 40), .ref (b2 41), .ref (b2 42), .ref (b2 43), .ref (b2 44), .ref (b2 45), .ref (b2 46), .ref (b2 47), .int (nI mch), .int (nI mli), .ref (b2 50), .ref (b2 51), .int (nI mno), .ref (b2 53), .ref (b2 54), .ref (b2 55)])), ((b2 37), .inl (ca 0, 600, .inl A37)), ((b2 45), .inl (ca 0, 144, .inl A45)), ((b2 51), .inl (ca 0, 40, .inl A51)), ((b2 50), .inl (ca 1, 348500, .inl (upd R2_ (8500 * i + s6) 1)))] hP hD
            refine lv_iinc (v := (nI (s6 + 1))) (lv' := [(6, .int (nI (s6 + 1))), (7, .int 1), (5, .int 0), (4, .int (nI i)), (3, .int (nI (fr + ov))), (0, .ref y), (1, .int (nI fr)), (2, .int (nI ov))]) hx hb dX11_leastSum_151 hl (k := 1) rfl (nI_add (s6) 1) (by decide) rfl (fun ls hl => ?_)
            refine lv_goto (tgt := 50) hx hb dX11_leastSum_154 (by decide) ?_
            exact ih50 (s6 + 1, (upd R2_ (8500 * i + s6) 1)) _ _ _ (by omega) ⟨⟨by omega, rTab_set hT2 (by omega), rRow_set hR2 (by omega) (fun _ => by first | exact Or.inl ⟨by omega, by omega⟩ | (exfalso; omega))⟩, hP, hD, hS, lv_sub hl [0, 2, 3, 4, 5, 6, 7] rfl⟩
          · refine lv_iload hx hb dX11_leastSum_99 (lv_at hl 0 rfl) ?_
            refine lv_iload hx hb dX11_leastSum_101 (lv_at hl 1 rfl) ?_
            refine lv_icmp_lt (tgt := 132) hx hb dX11_leastSum_103 (by decide) (fun c_15 => ?_) (fun c_15 => ?_)
            · have nc_15 : s6 < 0 := (nI_ltI (a := s6) (b := 0) (by omega) (by omega)).mp c_15
              refine lv_iconst (v := 0) hx hb dX11_leastSum_132 (by decide) ?_
              refine lv_istore (lv' := [(7, .int 0), (6, .int (nI s6)), (5, .int 0), (4, .int (nI i)), (3, .int (nI (fr + ov))), (0, .ref y), (1, .int (nI fr)), (2, .int (nI ov))]) hx hb dX11_leastSum_133 hl (by decide) rfl (fun ls hl => ?_)
              refine lv_aload_n hx hb dX11_leastSum_135 rfl (lv_at hl 5 rfl) ?_
              refine va_get (D := (dC, dI)) (ci := 11) (v := .ref (b2 50)) (C := RX11) (T := TX11) (N := 56) hx hb hts inX11 hown hK hP 0 rfl rfl 50 (by decide) (hts _ mw_930) (fun _ h9 => h9) rfl dX11_leastSum_136 ?_
              refine lv_sipush (v := 8500) hx hb dX11_leastSum_139 (by decide) ?_
              refine lv_iload hx hb dX11_leastSum_142 (lv_at hl 3 rfl) ?_
              refine lv_imul hx hb dX11_leastSum_144 ?_
              refine lv_topi (fun y_ e_ => ?_)
              obtain rfl : y_ = (nI (8500 * i)) := e_.trans (pk_mul (8500) (i))
              refine lv_iload hx hb dX11_leastSum_145 (lv_at hl 1 rfl) ?_
              refine lv_iadd hx hb dX11_leastSum_147 ?_
              refine lv_topi (fun y_ e_ => ?_)
              obtain rfl : y_ = (nI (8500 * i + s6)) := e_.trans (nI_add (8500 * i) (s6))
              refine lv_iload hx hb dX11_leastSum_148 (lv_at hl 0 rfl) ?_
              refine va_zast hx hb hK hP hD hS 4 1 rfl rfl (vp_in_nI (show 8500 * i + s6 < 348500 by omega) (by first | decide | omega)) dX11_leastSum_150 (fun H locs hP hD hS => ?_)
              rw [(show ((nI (8500 * i + s6)) : Int32).toNatClampNeg = 8500 * i + s6 from nI_clamp (by omega))] at hP hD
              obtain ⟨hP, hD⟩ := va_bo [(y, .inr (11, [.int (nI ml), .int (nI mb), .int (nI mp), .int (nI mx), .int (nI mr), .int (nI mq), .ref (b2 6), .ref (b2 7), .ref (b2 8), .ref (b2 9), .ref (b2 10), .ref (b2 11), .ref (b2 12), .ref (b2 13), .ref (b2 14), .ref (b2 15), .ref (b2 16), .ref (b2 17), .ref (b2 18), .ref (b2 19), .ref (b2 20), .ref (b2 21), .ref (b2 22), .ref (b2 23), .ref (b2 24), .ref (b2 25), .ref (b2 26), .ref (b2 27), .ref (b2 28), .int gl, .int gh, .ref (b2 31), .ref (b2 32), .ref (b2 33), .ref (b2 34), .ref (b2 35), .ref (b2 36), .ref (b2 37), .ref (b2 38), .ref (b2 39), .ref (b2 40), .ref (b2 41), .ref (b2 42), .ref (b2 43), .ref (b2 44), .ref (b2 45), .ref (b2 46), .ref (b2 47), .int (nI mch), .int (nI mli), .ref (b2 50), .ref (b2 51), .int (nI mno), .ref (b2 53), .ref (b2 54), .ref (b2 55)])), ((b2 37), .inl (ca 0, 600, .inl A37)), ((b2 45), .inl (ca 0, 144, .inl A45)), ((b2 51), .inl (ca 0, 40, .inl A51)), ((b2 50), .inl (ca 1, 348500, .inl (upd R2_ (8500 * i + s6) 0)))] hP hD
              refine lv_iinc (v := (nI (s6 + 1))) (lv' := [(6, .int (nI (s6 + 1))), (7, .int 0), (5, .int 0), (4, .int (nI i)), (3, .int (nI (fr + ov))), (0, .ref y), (1, .int (nI fr)), (2, .int (nI ov))]) hx hb dX11_leastSum_151 hl (k := 1) rfl (nI_add (s6) 1) (by decide) rfl (fun ls hl => ?_)
              refine lv_goto (tgt := 50) hx hb dX11_leastSum_154 (by decide) ?_
              exact ih50 (s6 + 1, (upd R2_ (8500 * i + s6) 0)) _ _ _ (by omega) ⟨⟨by omega, rTab_set hT2 (by omega), rRow_set hR2 (by omega) (fun h9 => absurd rfl h9)⟩, hP, hD, hS, lv_sub hl [0, 2, 3, 4, 5, 6, 7] rfl⟩
            · have nc_15 : ¬ (s6 < 0) := fun h9 => c_15 ((nI_ltI (a := s6) (b := 0) (by omega) (by omega)).mpr h9)
              refine lv_aload_n hx hb dX11_leastSum_106 rfl (lv_at hl 4 rfl) ?_
              refine va_get (D := (dC, dI)) (ci := 11) (v := .ref (b2 50)) (C := RX11) (T := TX11) (N := 56) hx hb hts inX11 hown hK hP 0 rfl rfl 50 (by decide) (hts _ mw_930) (fun _ h9 => h9) rfl dX11_leastSum_107 ?_
              refine lv_sipush (v := 8500) hx hb dX11_leastSum_110 (by decide) ?_
              refine lv_iload hx hb dX11_leastSum_113 (lv_at hl 2 rfl) ?_
              refine lv_iconst (v := 1) hx hb dX11_leastSum_115 (by decide) ?_
              refine lv_iadd hx hb dX11_leastSum_116 ?_
              refine lv_topi (fun y_ e_ => ?_)
              obtain rfl : y_ = (nI (i + 1)) := e_.trans (nI_add (i) (1))
              refine lv_imul hx hb dX11_leastSum_117 ?_
              refine lv_topi (fun y_ e_ => ?_)
              obtain rfl : y_ = (nI (8500 * (i + 1))) := e_.trans (pk_mul (8500) (i + 1))
              refine lv_iload hx hb dX11_leastSum_118 (lv_at hl 0 rfl) ?_
              refine lv_iadd hx hb dX11_leastSum_120 ?_
              refine lv_topi (fun y_ e_ => ?_)
              obtain rfl : y_ = (nI (8500 * (i + 1) + s6)) := e_.trans (nI_add (8500 * (i + 1)) (s6))
              refine lv_iload hx hb dX11_leastSum_121 (lv_at hl 1 rfl) ?_
              refine lv_isub hx hb dX11_leastSum_123 ?_
              refine lv_topi (fun y_ e_ => ?_)
              obtain rfl : y_ = (nI ((8500 * (i + 1) + s6) - 0)) := e_.trans (pk_sub (show 0 ≤ 8500 * (i + 1) + s6 by omega))
              refine va_zald hx hb hK hP 4 1 rfl rfl (vp_in_nI (show (8500 * (i + 1) + s6) - 0 < 348500 by omega) (by first | decide | omega)) dX11_leastSum_124 ?_
              refine lv_topi (fun y_ e_ => ?_)
              obtain rfl : y_ = (R2_ ((8500 * (i + 1) + s6) - 0)) := e_.trans (congrArg R2_ (show ((nI ((8500 * (i + 1) + s6) - 0)) : Int32).toNatClampNeg = (8500 * (i + 1) + s6) - 0 from nI_clamp (by omega)))
              refine lv_if_eq (tgt := 132) hx hb dX11_leastSum_125 (by decide) (fun c_16 => ?_) (fun c_16 => ?_)
              · refine lv_iconst (v := 0) hx hb dX11_leastSum_132 (by decide) ?_
                refine lv_istore (lv' := [(7, .int 0), (6, .int (nI s6)), (5, .int 0), (4, .int (nI i)), (3, .int (nI (fr + ov))), (0, .ref y), (1, .int (nI fr)), (2, .int (nI ov))]) hx hb dX11_leastSum_133 hl (by decide) rfl (fun ls hl => ?_)
                refine lv_aload_n hx hb dX11_leastSum_135 rfl (lv_at hl 5 rfl) ?_
                refine va_get (D := (dC, dI)) (ci := 11) (v := .ref (b2 50)) (C := RX11) (T := TX11) (N := 56) hx hb hts inX11 hown hK hP 0 rfl rfl 50 (by decide) (hts _ mw_930) (fun _ h9 => h9) rfl dX11_leastSum_136 ?_
                refine lv_sipush (v := 8500) hx hb dX11_leastSum_139 (by decide) ?_
                refine lv_iload hx hb dX11_leastSum_142 (lv_at hl 3 rfl) ?_
                refine lv_imul hx hb dX11_leastSum_144 ?_
                refine lv_topi (fun y_ e_ => ?_)
                obtain rfl : y_ = (nI (8500 * i)) := e_.trans (pk_mul (8500) (i))
                refine lv_iload hx hb dX11_leastSum_145 (lv_at hl 1 rfl) ?_
                refine lv_iadd hx hb dX11_leastSum_147 ?_
                refine lv_topi (fun y_ e_ => ?_)
                obtain rfl : y_ = (nI (8500 * i + s6)) := e_.trans (nI_add (8500 * i) (s6))
                refine lv_iload hx hb dX11_leastSum_148 (lv_at hl 0 rfl) ?_
                refine va_zast hx hb hK hP hD hS 4 1 rfl rfl (vp_in_nI (show 8500 * i + s6 < 348500 by omega) (by first | decide | omega)) dX11_leastSum_150 (fun H locs hP hD hS => ?_)
                rw [(show ((nI (8500 * i + s6)) : Int32).toNatClampNeg = 8500 * i + s6 from nI_clamp (by omega))] at hP hD
                obtain ⟨hP, hD⟩ := va_bo [(y, .inr (11, [.int (nI ml), .int (nI mb), .int (nI mp), .int (nI mx), .int (nI mr), .int (nI mq), .ref (b2 6), .ref (b2 7), .ref (b2 8), .ref (b2 9), .ref (b2 10), .ref (b2 11), .ref (b2 12), .ref (b2 13), .ref (b2 14), .ref (b2 15), .ref (b2 16), .ref (b2 17), .ref (b2 18), .ref (b2 19), .ref (b2 20), .ref (b2 21), .ref (b2 22), .ref (b2 23), .ref (b2 24), .ref (b2 25), .ref (b2 26), .ref (b2 27), .ref (b2 28), .int gl, .int gh, .ref (b2 31), .ref (b2 32), .ref (b2 33), .ref (b2 34), .ref (b2 35), .ref (b2 36), .ref (b2 37), .ref (b2 38), .ref (b2 39), .ref (b2 40), .ref (b2 41), .ref (b2 42), .ref (b2 43), .ref (b2 44), .ref (b2 45), .ref (b2 46), .ref (b2 47), .int (nI mch), .int (nI mli), .ref (b2 50), .ref (b2 51), .int (nI mno), .ref (b2 53), .ref (b2 54), .ref (b2 55)])), ((b2 37), .inl (ca 0, 600, .inl A37)), ((b2 45), .inl (ca 0, 144, .inl A45)), ((b2 51), .inl (ca 0, 40, .inl A51)), ((b2 50), .inl (ca 1, 348500, .inl (upd R2_ (8500 * i + s6) 0)))] hP hD
                refine lv_iinc (v := (nI (s6 + 1))) (lv' := [(6, .int (nI (s6 + 1))), (7, .int 0), (5, .int 0), (4, .int (nI i)), (3, .int (nI (fr + ov))), (0, .ref y), (1, .int (nI fr)), (2, .int (nI ov))]) hx hb dX11_leastSum_151 hl (k := 1) rfl (nI_add (s6) 1) (by decide) rfl (fun ls hl => ?_)
                refine lv_goto (tgt := 50) hx hb dX11_leastSum_154 (by decide) ?_
                exact ih50 (s6 + 1, (upd R2_ (8500 * i + s6) 0)) _ _ _ (by omega) ⟨⟨by omega, rTab_set hT2 (by omega), rRow_set hR2 (by omega) (fun h9 => absurd rfl h9)⟩, hP, hD, hS, lv_sub hl [0, 2, 3, 4, 5, 6, 7] rfl⟩
              · refine lv_iconst (v := 1) hx hb dX11_leastSum_128 (by decide) ?_
                refine lv_goto (tgt := 133) hx hb dX11_leastSum_129 (by decide) ?_
                refine lv_istore (lv' := [(7, .int 1), (6, .int (nI s6)), (5, .int 0), (4, .int (nI i)), (3, .int (nI (fr + ov))), (0, .ref y), (1, .int (nI fr)), (2, .int (nI ov))]) hx hb dX11_leastSum_133 hl (by decide) rfl (fun ls hl => ?_)
                refine lv_aload_n hx hb dX11_leastSum_135 rfl (lv_at hl 5 rfl) ?_
                refine va_get (D := (dC, dI)) (ci := 11) (v := .ref (b2 50)) (C := RX11) (T := TX11) (N := 56) hx hb hts inX11 hown hK hP 0 rfl rfl 50 (by decide) (hts _ mw_930) (fun _ h9 => h9) rfl dX11_leastSum_136 ?_
                refine lv_sipush (v := 8500) hx hb dX11_leastSum_139 (by decide) ?_
                refine lv_iload hx hb dX11_leastSum_142 (lv_at hl 3 rfl) ?_
                refine lv_imul hx hb dX11_leastSum_144 ?_
                refine lv_topi (fun y_ e_ => ?_)
                obtain rfl : y_ = (nI (8500 * i)) := e_.trans (pk_mul (8500) (i))
                refine lv_iload hx hb dX11_leastSum_145 (lv_at hl 1 rfl) ?_
                refine lv_iadd hx hb dX11_leastSum_147 ?_
                refine lv_topi (fun y_ e_ => ?_)
                obtain rfl : y_ = (nI (8500 * i + s6)) := e_.trans (nI_add (8500 * i) (s6))
                refine lv_iload hx hb dX11_leastSum_148 (lv_at hl 0 rfl) ?_
                refine va_zast hx hb hK hP hD hS 4 1 rfl rfl (vp_in_nI (show 8500 * i + s6 < 348500 by omega) (by first | decide | omega)) dX11_leastSum_150 (fun H locs hP hD hS => ?_)
                rw [(show ((nI (8500 * i + s6)) : Int32).toNatClampNeg = 8500 * i + s6 from nI_clamp (by omega))] at hP hD
                obtain ⟨hP, hD⟩ := va_bo [(y, .inr (11, [.int (nI ml), .int (nI mb), .int (nI mp), .int (nI mx), .int (nI mr), .int (nI mq), .ref (b2 6), .ref (b2 7), .ref (b2 8), .ref (b2 9), .ref (b2 10), .ref (b2 11), .ref (b2 12), .ref (b2 13), .ref (b2 14), .ref (b2 15), .ref (b2 16), .ref (b2 17), .ref (b2 18), .ref (b2 19), .ref (b2 20), .ref (b2 21), .ref (b2 22), .ref (b2 23), .ref (b2 24), .ref (b2 25), .ref (b2 26), .ref (b2 27), .ref (b2 28), .int gl, .int gh, .ref (b2 31), .ref (b2 32), .ref (b2 33), .ref (b2 34), .ref (b2 35), .ref (b2 36), .ref (b2 37), .ref (b2 38), .ref (b2 39), .ref (b2 40), .ref (b2 41), .ref (b2 42), .ref (b2 43), .ref (b2 44), .ref (b2 45), .ref (b2 46), .ref (b2 47), .int (nI mch), .int (nI mli), .ref (b2 50), .ref (b2 51), .int (nI mno), .ref (b2 53), .ref (b2 54), .ref (b2 55)])), ((b2 37), .inl (ca 0, 600, .inl A37)), ((b2 45), .inl (ca 0, 144, .inl A45)), ((b2 51), .inl (ca 0, 40, .inl A51)), ((b2 50), .inl (ca 1, 348500, .inl (upd R2_ (8500 * i + s6) 1)))] hP hD
                refine lv_iinc (v := (nI (s6 + 1))) (lv' := [(6, .int (nI (s6 + 1))), (7, .int 1), (5, .int 0), (4, .int (nI i)), (3, .int (nI (fr + ov))), (0, .ref y), (1, .int (nI fr)), (2, .int (nI ov))]) hx hb dX11_leastSum_151 hl (k := 1) rfl (nI_add (s6) 1) (by decide) rfl (fun ls hl => ?_)
                refine lv_goto (tgt := 50) hx hb dX11_leastSum_154 (by decide) ?_
                exact ih50 (s6 + 1, (upd R2_ (8500 * i + s6) 1)) _ _ _ (by omega) ⟨⟨by omega, rTab_set hT2 (by omega), rRow_set hR2 (by omega) (fun _ => by first | exact Or.inl ⟨by omega, by omega⟩ | (exfalso; omega))⟩, hP, hD, hS, lv_sub hl [0, 2, 3, 4, 5, 6, 7] rfl⟩
        · have nc_13 : i = mno := (nI_eq (a := i) (b := mno) (by omega) (by omega)).mp c_13
          refine lv_iload hx hb dX11_leastSum_67 (lv_at hl 0 rfl) ?_
          refine lv_if_ne (tgt := 76) hx hb dX11_leastSum_69 (by decide) (fun c_17 => ?_) (fun c_17 => ?_)
          · have nc_17 : ¬ (s6 = 0) := fun h9 => c_17 ((nI_eq (a := s6) (b := 0) (by omega) (by omega)).mpr h9)
            refine lv_iconst (v := 0) hx hb dX11_leastSum_76 (by decide) ?_
            refine lv_goto (tgt := 133) hx hb dX11_leastSum_77 (by decide) ?_
            refine lv_istore (lv' := [(7, .int 0), (6, .int (nI s6)), (5, .int 0), (4, .int (nI i)), (3, .int (nI (fr + ov))), (0, .ref y), (1, .int (nI fr)), (2, .int (nI ov))]) hx hb dX11_leastSum_133 hl (by decide) rfl (fun ls hl => ?_)
            refine lv_aload_n hx hb dX11_leastSum_135 rfl (lv_at hl 5 rfl) ?_
            refine va_get (D := (dC, dI)) (ci := 11) (v := .ref (b2 50)) (C := RX11) (T := TX11) (N := 56) hx hb hts inX11 hown hK hP 0 rfl rfl 50 (by decide) (hts _ mw_930) (fun _ h9 => h9) rfl dX11_leastSum_136 ?_
            refine lv_sipush (v := 8500) hx hb dX11_leastSum_139 (by decide) ?_
            refine lv_iload hx hb dX11_leastSum_142 (lv_at hl 3 rfl) ?_
            refine lv_imul hx hb dX11_leastSum_144 ?_
            refine lv_topi (fun y_ e_ => ?_)
            obtain rfl : y_ = (nI (8500 * i)) := e_.trans (pk_mul (8500) (i))
            refine lv_iload hx hb dX11_leastSum_145 (lv_at hl 1 rfl) ?_
            refine lv_iadd hx hb dX11_leastSum_147 ?_
            refine lv_topi (fun y_ e_ => ?_)
            obtain rfl : y_ = (nI (8500 * i + s6)) := e_.trans (nI_add (8500 * i) (s6))
            refine lv_iload hx hb dX11_leastSum_148 (lv_at hl 0 rfl) ?_
            refine va_zast hx hb hK hP hD hS 4 1 rfl rfl (vp_in_nI (show 8500 * i + s6 < 348500 by omega) (by first | decide | omega)) dX11_leastSum_150 (fun H locs hP hD hS => ?_)
            rw [(show ((nI (8500 * i + s6)) : Int32).toNatClampNeg = 8500 * i + s6 from nI_clamp (by omega))] at hP hD
            obtain ⟨hP, hD⟩ := va_bo [(y, .inr (11, [.int (nI ml), .int (nI mb), .int (nI mp), .int (nI mx), .int (nI mr), .int (nI mq), .ref (b2 6), .ref (b2 7), .ref (b2 8), .ref (b2 9), .ref (b2 10), .ref (b2 11), .ref (b2 12), .ref (b2 13), .ref (b2 14), .ref (b2 15), .ref (b2 16), .ref (b2 17), .ref (b2 18), .ref (b2 19), .ref (b2 20), .ref (b2 21), .ref (b2 22), .ref (b2 23), .ref (b2 24), .ref (b2 25), .ref (b2 26), .ref (b2 27), .ref (b2 28), .int gl, .int gh, .ref (b2 31), .ref (b2 32), .ref (b2 33), .ref (b2 34), .ref (b2 35), .ref (b2 36), .ref (b2 37), .ref (b2 38), .ref (b2 39), .ref (b2 40), .ref (b2 41), .ref (b2 42), .ref (b2 43), .ref (b2 44), .ref (b2 45), .ref (b2 46), .ref (b2 47), .int (nI mch), .int (nI mli), .ref (b2 50), .ref (b2 51), .int (nI mno), .ref (b2 53), .ref (b2 54), .ref (b2 55)])), ((b2 37), .inl (ca 0, 600, .inl A37)), ((b2 45), .inl (ca 0, 144, .inl A45)), ((b2 51), .inl (ca 0, 40, .inl A51)), ((b2 50), .inl (ca 1, 348500, .inl (upd R2_ (8500 * i + s6) 0)))] hP hD
            refine lv_iinc (v := (nI (s6 + 1))) (lv' := [(6, .int (nI (s6 + 1))), (7, .int 0), (5, .int 0), (4, .int (nI i)), (3, .int (nI (fr + ov))), (0, .ref y), (1, .int (nI fr)), (2, .int (nI ov))]) hx hb dX11_leastSum_151 hl (k := 1) rfl (nI_add (s6) 1) (by decide) rfl (fun ls hl => ?_)
            refine lv_goto (tgt := 50) hx hb dX11_leastSum_154 (by decide) ?_
            exact ih50 (s6 + 1, (upd R2_ (8500 * i + s6) 0)) _ _ _ (by omega) ⟨⟨by omega, rTab_set hT2 (by omega), rRow_set hR2 (by omega) (fun h9 => absurd rfl h9)⟩, hP, hD, hS, lv_sub hl [0, 2, 3, 4, 5, 6, 7] rfl⟩
          · have nc_17 : s6 = 0 := (nI_eq (a := s6) (b := 0) (by omega) (by omega)).mp c_17
            refine lv_iconst (v := 1) hx hb dX11_leastSum_72 (by decide) ?_
            refine lv_goto (tgt := 133) hx hb dX11_leastSum_73 (by decide) ?_
            refine lv_istore (lv' := [(7, .int 1), (6, .int (nI s6)), (5, .int 0), (4, .int (nI i)), (3, .int (nI (fr + ov))), (0, .ref y), (1, .int (nI fr)), (2, .int (nI ov))]) hx hb dX11_leastSum_133 hl (by decide) rfl (fun ls hl => ?_)
            refine lv_aload_n hx hb dX11_leastSum_135 rfl (lv_at hl 5 rfl) ?_
            refine va_get (D := (dC, dI)) (ci := 11) (v := .ref (b2 50)) (C := RX11) (T := TX11) (N := 56) hx hb hts inX11 hown hK hP 0 rfl rfl 50 (by decide) (hts _ mw_930) (fun _ h9 => h9) rfl dX11_leastSum_136 ?_
            refine lv_sipush (v := 8500) hx hb dX11_leastSum_139 (by decide) ?_
            refine lv_iload hx hb dX11_leastSum_142 (lv_at hl 3 rfl) ?_
            refine lv_imul hx hb dX11_leastSum_144 ?_
            refine lv_topi (fun y_ e_ => ?_)
            obtain rfl : y_ = (nI (8500 * i)) := e_.trans (pk_mul (8500) (i))
            refine lv_iload hx hb dX11_leastSum_145 (lv_at hl 1 rfl) ?_
            refine lv_iadd hx hb dX11_leastSum_147 ?_
            refine lv_topi (fun y_ e_ => ?_)
            obtain rfl : y_ = (nI (8500 * i + s6)) := e_.trans (nI_add (8500 * i) (s6))
            refine lv_iload hx hb dX11_leastSum_148 (lv_at hl 0 rfl) ?_
            refine va_zast hx hb hK hP hD hS 4 1 rfl rfl (vp_in_nI (show 8500 * i + s6 < 348500 by omega) (by first | decide | omega)) dX11_leastSum_150 (fun H locs hP hD hS => ?_)
            rw [(show ((nI (8500 * i + s6)) : Int32).toNatClampNeg = 8500 * i + s6 from nI_clamp (by omega))] at hP hD
            obtain ⟨hP, hD⟩ := va_bo [(y, .inr (11, [.int (nI ml), .int (nI mb), .int (nI mp), .int (nI mx), .int (nI mr), .int (nI mq), .ref (b2 6), .ref (b2 7), .ref (b2 8), .ref (b2 9), .ref (b2 10), .ref (b2 11), .ref (b2 12), .ref (b2 13), .ref (b2 14), .ref (b2 15), .ref (b2 16), .ref (b2 17), .ref (b2 18), .ref (b2 19), .ref (b2 20), .ref (b2 21), .ref (b2 22), .ref (b2 23), .ref (b2 24), .ref (b2 25), .ref (b2 26), .ref (b2 27), .ref (b2 28), .int gl, .int gh, .ref (b2 31), .ref (b2 32), .ref (b2 33), .ref (b2 34), .ref (b2 35), .ref (b2 36), .ref (b2 37), .ref (b2 38), .ref (b2 39), .ref (b2 40), .ref (b2 41), .ref (b2 42), .ref (b2 43), .ref (b2 44), .ref (b2 45), .ref (b2 46), .ref (b2 47), .int (nI mch), .int (nI mli), .ref (b2 50), .ref (b2 51), .int (nI mno), .ref (b2 53), .ref (b2 54), .ref (b2 55)])), ((b2 37), .inl (ca 0, 600, .inl A37)), ((b2 45), .inl (ca 0, 144, .inl A45)), ((b2 51), .inl (ca 0, 40, .inl A51)), ((b2 50), .inl (ca 1, 348500, .inl (upd R2_ (8500 * i + s6) 1)))] hP hD
            refine lv_iinc (v := (nI (s6 + 1))) (lv' := [(6, .int (nI (s6 + 1))), (7, .int 1), (5, .int 0), (4, .int (nI i)), (3, .int (nI (fr + ov))), (0, .ref y), (1, .int (nI fr)), (2, .int (nI ov))]) hx hb dX11_leastSum_151 hl (k := 1) rfl (nI_add (s6) 1) (by decide) rfl (fun ls hl => ?_)
            refine lv_goto (tgt := 50) hx hb dX11_leastSum_154 (by decide) ?_
            exact ih50 (s6 + 1, (upd R2_ (8500 * i + s6) 1)) _ _ _ (by omega) ⟨⟨by omega, rTab_set hT2 (by omega), rRow_set hR2 (by omega) (fun _ => by first | exact Or.inl ⟨by omega, by omega⟩ | (exfalso; omega))⟩, hP, hD, hS, lv_sub hl [0, 2, 3, 4, 5, 6, 7] rfl⟩
    · have nc_11 : ¬ (mno ≤ i) := fun h9 => c_11 ((nI_leI (a := mno) (b := i) (by omega) (by omega)).mpr h9)
      refine lv_aload_n hx hb dX11_leastSum_24 rfl (lv_at hl 2 rfl) ?_
      refine va_get (D := (dC, dI)) (ci := 11) (v := .ref (b2 37)) (C := RX11) (T := TX11) (N := 56) hx hb hts inX11 hown hK hP 0 rfl rfl 37 (by decide) (hts _ mw_917) (fun _ h9 => h9) rfl dX11_leastSum_25 ?_
      refine lv_aload_n hx hb dX11_leastSum_28 rfl (lv_at hl 2 rfl) ?_
      refine va_get (D := (dC, dI)) (ci := 11) (v := .ref (b2 45)) (C := RX11) (T := TX11) (N := 56) hx hb hts inX11 hown hK hP 0 rfl rfl 45 (by decide) (hts _ mw_925) (fun _ h9 => h9) rfl dX11_leastSum_29 ?_
      refine lv_aload_n hx hb dX11_leastSum_32 rfl (lv_at hl 2 rfl) ?_
      refine va_get (D := (dC, dI)) (ci := 11) (v := .ref (b2 51)) (C := RX11) (T := TX11) (N := 56) hx hb hts inX11 hown hK hP 0 rfl rfl 51 (by decide) (hts _ mw_931) (fun _ h9 => h9) rfl dX11_leastSum_33 ?_
      refine lv_iload hx hb dX11_leastSum_36 (lv_at hl 0 rfl) ?_
      refine va_iald hx hb hK hP 3 0 rfl rfl (vp_in_nI (show i < 40 by omega) (by first | decide | omega)) dX11_leastSum_38 ?_
      refine lv_topi (fun y_ e_ => ?_)
      obtain rfl : y_ = (A51 i) := e_.trans (congrArg A51 (show ((nI i) : Int32).toNatClampNeg = i from nI_clamp (by omega)))
      refine va_iald hx hb hK hP 2 0 rfl rfl (cnt_vp (h_now i) (by decide) (by decide)) dX11_leastSum_39 ?_
      refine va_iald hx hb hK hP 1 0 rfl rfl (cnt_vp (h_choice _) (by decide) (by decide)) dX11_leastSum_40 ?_
      obtain ⟨w9, hw9, ew9⟩ : cnt (A37 ((A45 ((A51 i) : Int32).toNatClampNeg) : Int32).toNatClampNeg) 3000 := (h_w _).1
      have hwN : wOf A37 A45 A51 i = w9 := by unfold wOf; rw [ew9, nI_clamp (by omega)]
      refine lv_topi (fun y_ e_ => ?_)
      obtain rfl : y_ = (nI w9) := e_.trans ew9
      refine lv_goto (tgt := 45) hx hb dX11_leastSum_41 (by decide) ?_
      refine lv_istore (lv' := [(5, .int (nI w9)), (4, .int (nI i)), (3, .int (nI (fr + ov))), (0, .ref y), (1, .int (nI fr)), (2, .int (nI ov))]) hx hb dX11_leastSum_45 hl (by decide) rfl (fun ls hl => ?_)
      refine lv_iconst (v := 0) hx hb dX11_leastSum_47 (by decide) ?_
      refine lv_istore (lv' := [(6, .int 0), (5, .int (nI w9)), (4, .int (nI i)), (3, .int (nI (fr + ov))), (0, .ref y), (1, .int (nI fr)), (2, .int (nI ov))]) hx hb dX11_leastSum_48 hl (by decide) rfl (fun ls hl => ?_)
      refine wl_loop (fun (z_ : Nat × (Nat → Int32)) H locs ls => (z_.1 ≤ 8500 ∧ rTab z_.2 (wOf A37 A45 A51) mno (i + 1) ∧ rRow z_.2 (wOf A37 A45 A51) mno i z_.1) ∧ va_P (dC, dI) vwCl [(y, .inr (11, [.int (nI ml), .int (nI mb), .int (nI mp), .int (nI mx), .int (nI mr), .int (nI mq), .ref (b2 6), .ref (b2 7), .ref (b2 8), .ref (b2 9), .ref (b2 10), .ref (b2 11), .ref (b2 12), .ref (b2 13), .ref (b2 14), .ref (b2 15), .ref (b2 16), .ref (b2 17), .ref (b2 18), .ref (b2 19), .ref (b2 20), .ref (b2 21), .ref (b2 22), .ref (b2 23), .ref (b2 24), .ref (b2 25), .ref (b2 26), .ref (b2 27), .ref (b2 28), .int gl, .int gh, .ref (b2 31), .ref (b2 32), .ref (b2 33), .ref (b2 34), .ref (b2 35), .ref (b2 36), .ref (b2 37), .ref (b2 38), .ref (b2 39), .ref (b2 40), .ref (b2 41), .ref (b2 42), .ref (b2 43), .ref (b2 44), .ref (b2 45), .ref (b2 46), .ref (b2 47), .int (nI mch), .int (nI mli), .ref (b2 50), .ref (b2 51), .int (nI mno), .ref (b2 53), .ref (b2 54), .ref (b2 55)])), ((b2 37), .inl (ca 0, 600, .inl A37)), ((b2 45), .inl (ca 0, 144, .inl A45)), ((b2 51), .inl (ca 0, 40, .inl A51)), ((b2 50), .inl (ca 1, 348500, .inl z_.2))] H ∧ va_D A [(y, .inr (11, [.int (nI ml), .int (nI mb), .int (nI mp), .int (nI mx), .int (nI mr), .int (nI mq), .ref (b2 6), .ref (b2 7), .ref (b2 8), .ref (b2 9), .ref (b2 10), .ref (b2 11), .ref (b2 12), .ref (b2 13), .ref (b2 14), .ref (b2 15), .ref (b2 16), .ref (b2 17), .ref (b2 18), .ref (b2 19), .ref (b2 20), .ref (b2 21), .ref (b2 22), .ref (b2 23), .ref (b2 24), .ref (b2 25), .ref (b2 26), .ref (b2 27), .ref (b2 28), .int gl, .int gh, .ref (b2 31), .ref (b2 32), .ref (b2 33), .ref (b2 34), .ref (b2 35), .ref (b2 36), .ref (b2 37), .ref (b2 38), .ref (b2 39), .ref (b2 40), .ref (b2 41), .ref (b2 42), .ref (b2 43), .ref (b2 44), .ref (b2 45), .ref (b2 46), .ref (b2 47), .int (nI mch), .int (nI mli), .ref (b2 50), .ref (b2 51), .int (nI mno), .ref (b2 53), .ref (b2 54), .ref (b2 55)])), ((b2 37), .inl (ca 0, 600, .inl A37)), ((b2 45), .inl (ca 0, 144, .inl A45)), ((b2 51), .inl (ca 0, 40, .inl A51)), ((b2 50), .inl (ca 1, 348500, .inl z_.2))] ∧ va_S A s.heap H locs ∧ lv_has ls 8 [(6, .int (nI z_.1)), (5, .int (nI w9)), (4, .int (nI i)), (3, .int (nI (fr + ov))), (0, .ref y), (1, .int (nI fr)), (2, .int (nI ov))]) (fun (z_ : Nat × (Nat → Int32)) => 8500 - z_.1) (fun z_ H locs ls hI ih50 => ?_) (0, R1_) ⟨⟨Nat.zero_le _, hT, rRow_0 _ _ _ _⟩, hP, hD, hS, lv_sub hl [0, 1, 2, 3, 4, 5, 6] rfl⟩
      obtain ⟨s6, R2_⟩ := z_
      dsimp only at hI ih50
      obtain ⟨⟨hs6, hT2, hR2⟩, hP, hD, hS, hl⟩ := hI
      refine lv_iload hx hb dX11_leastSum_50 (lv_at hl 0 rfl) ?_
      refine lv_sipush (v := 8500) hx hb dX11_leastSum_52 (by decide) ?_
      refine lv_icmp_ge (tgt := 157) hx hb dX11_leastSum_55 (by decide) (fun c_18 => ?_) (fun c_18 => ?_)
      · have nc_18 : 8500 ≤ s6 := (nI_leI (a := 8500) (b := s6) (by omega) (by omega)).mp c_18
        have hs6e : s6 = 8500 := by omega
        rw [hs6e] at hR2
        refine lv_iinc (v := ((nI i) - 1)) (lv' := [(4, .int ((nI i) - 1)), (6, .int (nI s6)), (5, .int (nI w9)), (3, .int (nI (fr + ov))), (0, .ref y), (1, .int (nI fr)), (2, .int (nI ov))]) hx hb dX11_leastSum_157 hl (k := 2) rfl (add_m1 _) (by decide) rfl (fun ls hl => ?_)
        refine lv_goto (tgt := 10) hx hb dX11_leastSum_160 (by decide) ?_
        exact ih (i, R2_) _ _ _ (by omega) ⟨⟨by omega, rTab_dn hT2 hR2⟩, hP, hD, hS, lv_sub hl [0, 3, 4, 5, 6] rfl⟩
      · have nc_18 : ¬ (8500 ≤ s6) := fun h9 => c_18 ((nI_leI (a := 8500) (b := s6) (by omega) (by omega)).mpr h9)
        refine lv_iload hx hb dX11_leastSum_58 (lv_at hl 2 rfl) ?_
        refine lv_aload_n hx hb dX11_leastSum_60 rfl (lv_at hl 4 rfl) ?_
        refine va_get (D := (dC, dI)) (ci := 11) (v := .int (nI mno)) (C := RX11) (T := TX11) (N := 56) hx hb hts inX11 hown hK hP 0 rfl rfl 52 (by decide) (hts _ mw_932) (fun _ h9 => h9) rfl dX11_leastSum_61 ?_
        refine lv_icmp_ne (tgt := 80) hx hb dX11_leastSum_64 (by decide) (fun c_19 => ?_) (fun c_19 => ?_)
        · have nc_19 : ¬ (i = mno) := fun h9 => c_19 ((nI_eq (a := i) (b := mno) (by omega) (by omega)).mpr h9)
          refine lv_aload_n hx hb dX11_leastSum_80 rfl (lv_at hl 4 rfl) ?_
          refine va_get (D := (dC, dI)) (ci := 11) (v := .ref (b2 50)) (C := RX11) (T := TX11) (N := 56) hx hb hts inX11 hown hK hP 0 rfl rfl 50 (by decide) (hts _ mw_930) (fun _ h9 => h9) rfl dX11_leastSum_81 ?_
          refine lv_sipush (v := 8500) hx hb dX11_leastSum_84 (by decide) ?_
          refine lv_iload hx hb dX11_leastSum_87 (lv_at hl 2 rfl) ?_
          refine lv_iconst (v := 1) hx hb dX11_leastSum_89 (by decide) ?_
          refine lv_iadd hx hb dX11_leastSum_90 ?_
          refine lv_topi (fun y_ e_ => ?_)
          obtain rfl : y_ = (nI (i + 1)) := e_.trans (nI_add (i) (1))
          refine lv_imul hx hb dX11_leastSum_91 ?_
          refine lv_topi (fun y_ e_ => ?_)
          obtain rfl : y_ = (nI (8500 * (i + 1))) := e_.trans (pk_mul (8500) (i + 1))
          refine lv_iload hx hb dX11_leastSum_92 (lv_at hl 0 rfl) ?_
          refine lv_iadd hx hb dX11_leastSum_94 ?_
          refine lv_topi (fun y_ e_ => ?_)
          obtain rfl : y_ = (nI (8500 * (i + 1) + s6)) := e_.trans (nI_add (8500 * (i + 1)) (s6))
          refine va_zald hx hb hK hP 4 1 rfl rfl (vp_in_nI (show 8500 * (i + 1) + s6 < 348500 by omega) (by first | decide | omega)) dX11_leastSum_95 ?_
          refine lv_topi (fun y_ e_ => ?_)
          obtain rfl : y_ = (R2_ (8500 * (i + 1) + s6)) := e_.trans (congrArg R2_ (show ((nI (8500 * (i + 1) + s6)) : Int32).toNatClampNeg = 8500 * (i + 1) + s6 from nI_clamp (by omega)))
          refine lv_if_ne (tgt := 128) hx hb dX11_leastSum_96 (by decide) (fun c_20 => ?_) (fun c_20 => ?_)
          · refine lv_iconst (v := 1) hx hb dX11_leastSum_128 (by decide) ?_
            refine lv_goto (tgt := 133) hx hb dX11_leastSum_129 (by decide) ?_
            refine lv_istore (lv' := [(7, .int 1), (6, .int (nI s6)), (5, .int (nI w9)), (4, .int (nI i)), (3, .int (nI (fr + ov))), (0, .ref y), (1, .int (nI fr)), (2, .int (nI ov))]) hx hb dX11_leastSum_133 hl (by decide) rfl (fun ls hl => ?_)
            refine lv_aload_n hx hb dX11_leastSum_135 rfl (lv_at hl 5 rfl) ?_
            refine va_get (D := (dC, dI)) (ci := 11) (v := .ref (b2 50)) (C := RX11) (T := TX11) (N := 56) hx hb hts inX11 hown hK hP 0 rfl rfl 50 (by decide) (hts _ mw_930) (fun _ h9 => h9) rfl dX11_leastSum_136 ?_
            refine lv_sipush (v := 8500) hx hb dX11_leastSum_139 (by decide) ?_
            refine lv_iload hx hb dX11_leastSum_142 (lv_at hl 3 rfl) ?_
            refine lv_imul hx hb dX11_leastSum_144 ?_
            refine lv_topi (fun y_ e_ => ?_)
            obtain rfl : y_ = (nI (8500 * i)) := e_.trans (pk_mul (8500) (i))
            refine lv_iload hx hb dX11_leastSum_145 (lv_at hl 1 rfl) ?_
            refine lv_iadd hx hb dX11_leastSum_147 ?_
            refine lv_topi (fun y_ e_ => ?_)
            obtain rfl : y_ = (nI (8500 * i + s6)) := e_.trans (nI_add (8500 * i) (s6))
            refine lv_iload hx hb dX11_leastSum_148 (lv_at hl 0 rfl) ?_
            refine va_zast hx hb hK hP hD hS 4 1 rfl rfl (vp_in_nI (show 8500 * i + s6 < 348500 by omega) (by first | decide | omega)) dX11_leastSum_150 (fun H locs hP hD hS => ?_)
            rw [(show ((nI (8500 * i + s6)) : Int32).toNatClampNeg = 8500 * i + s6 from nI_clamp (by omega))] at hP hD
            obtain ⟨hP, hD⟩ := va_bo [(y, .inr (11, [.int (nI ml), .int (nI mb), .int (nI mp), .int (nI mx), .int (nI mr), .int (nI mq), .ref (b2 6), .ref (b2 7), .ref (b2 8), .ref (b2 9), .ref (b2 10), .ref (b2 11), .ref (b2 12), .ref (b2 13), .ref (b2 14), .ref (b2 15), .ref (b2 16), .ref (b2 17), .ref (b2 18), .ref (b2 19), .ref (b2 20), .ref (b2 21), .ref (b2 22), .ref (b2 23), .ref (b2 24), .ref (b2 25), .ref (b2 26), .ref (b2 27), .ref (b2 28), .int gl, .int gh, .ref (b2 31), .ref (b2 32), .ref (b2 33), .ref (b2 34), .ref (b2 35), .ref (b2 36), .ref (b2 37), .ref (b2 38), .ref (b2 39), .ref (b2 40), .ref (b2 41), .ref (b2 42), .ref (b2 43), .ref (b2 44), .ref (b2 45), .ref (b2 46), .ref (b2 47), .int (nI mch), .int (nI mli), .ref (b2 50), .ref (b2 51), .int (nI mno), .ref (b2 53), .ref (b2 54), .ref (b2 55)])), ((b2 37), .inl (ca 0, 600, .inl A37)), ((b2 45), .inl (ca 0, 144, .inl A45)), ((b2 51), .inl (ca 0, 40, .inl A51)), ((b2 50), .inl (ca 1, 348500, .inl (upd R2_ (8500 * i + s6) 1)))] hP hD
            refine lv_iinc (v := (nI (s6 + 1))) (lv' := [(6, .int (nI (s6 + 1))), (7, .int 1), (5, .int (nI w9)), (4, .int (nI i)), (3, .int (nI (fr + ov))), (0, .ref y), (1, .int (nI fr)), (2, .int (nI ov))]) hx hb dX11_leastSum_151 hl (k := 1) rfl (nI_add (s6) 1) (by decide) rfl (fun ls hl => ?_)
            refine lv_goto (tgt := 50) hx hb dX11_leastSum_154 (by decide) ?_
            exact ih50 (s6 + 1, (upd R2_ (8500 * i + s6) 1)) _ _ _ (by omega) ⟨⟨by omega, rTab_set hT2 (by omega), rRow_set hR2 (by omega) (fun _ => Or.inr ⟨by omega, Or.inl c_20⟩)⟩, hP, hD, hS, lv_sub hl [0, 2, 3, 4, 5, 6, 7] rfl⟩
          · refine lv_iload hx hb dX11_leastSum_99 (lv_at hl 0 rfl) ?_
            refine lv_iload hx hb dX11_leastSum_101 (lv_at hl 1 rfl) ?_
            refine lv_icmp_lt (tgt := 132) hx hb dX11_leastSum_103 (by decide) (fun c_21 => ?_) (fun c_21 => ?_)
            · have nc_21 : s6 < w9 := (nI_ltI (a := s6) (b := w9) (by omega) (by omega)).mp c_21
              refine lv_iconst (v := 0) hx hb dX11_leastSum_132 (by decide) ?_
              refine lv_istore (lv' := [(7, .int 0), (6, .int (nI s6)), (5, .int (nI w9)), (4, .int (nI i)), (3, .int (nI (fr + ov))), (0, .ref y), (1, .int (nI fr)), (2, .int (nI ov))]) hx hb dX11_leastSum_133 hl (by decide) rfl (fun ls hl => ?_)
              refine lv_aload_n hx hb dX11_leastSum_135 rfl (lv_at hl 5 rfl) ?_
              refine va_get (D := (dC, dI)) (ci := 11) (v := .ref (b2 50)) (C := RX11) (T := TX11) (N := 56) hx hb hts inX11 hown hK hP 0 rfl rfl 50 (by decide) (hts _ mw_930) (fun _ h9 => h9) rfl dX11_leastSum_136 ?_
              refine lv_sipush (v := 8500) hx hb dX11_leastSum_139 (by decide) ?_
              refine lv_iload hx hb dX11_leastSum_142 (lv_at hl 3 rfl) ?_
              refine lv_imul hx hb dX11_leastSum_144 ?_
              refine lv_topi (fun y_ e_ => ?_)
              obtain rfl : y_ = (nI (8500 * i)) := e_.trans (pk_mul (8500) (i))
              refine lv_iload hx hb dX11_leastSum_145 (lv_at hl 1 rfl) ?_
              refine lv_iadd hx hb dX11_leastSum_147 ?_
              refine lv_topi (fun y_ e_ => ?_)
              obtain rfl : y_ = (nI (8500 * i + s6)) := e_.trans (nI_add (8500 * i) (s6))
              refine lv_iload hx hb dX11_leastSum_148 (lv_at hl 0 rfl) ?_
              refine va_zast hx hb hK hP hD hS 4 1 rfl rfl (vp_in_nI (show 8500 * i + s6 < 348500 by omega) (by first | decide | omega)) dX11_leastSum_150 (fun H locs hP hD hS => ?_)
              rw [(show ((nI (8500 * i + s6)) : Int32).toNatClampNeg = 8500 * i + s6 from nI_clamp (by omega))] at hP hD
              obtain ⟨hP, hD⟩ := va_bo [(y, .inr (11, [.int (nI ml), .int (nI mb), .int (nI mp), .int (nI mx), .int (nI mr), .int (nI mq), .ref (b2 6), .ref (b2 7), .ref (b2 8), .ref (b2 9), .ref (b2 10), .ref (b2 11), .ref (b2 12), .ref (b2 13), .ref (b2 14), .ref (b2 15), .ref (b2 16), .ref (b2 17), .ref (b2 18), .ref (b2 19), .ref (b2 20), .ref (b2 21), .ref (b2 22), .ref (b2 23), .ref (b2 24), .ref (b2 25), .ref (b2 26), .ref (b2 27), .ref (b2 28), .int gl, .int gh, .ref (b2 31), .ref (b2 32), .ref (b2 33), .ref (b2 34), .ref (b2 35), .ref (b2 36), .ref (b2 37), .ref (b2 38), .ref (b2 39), .ref (b2 40), .ref (b2 41), .ref (b2 42), .ref (b2 43), .ref (b2 44), .ref (b2 45), .ref (b2 46), .ref (b2 47), .int (nI mch), .int (nI mli), .ref (b2 50), .ref (b2 51), .int (nI mno), .ref (b2 53), .ref (b2 54), .ref (b2 55)])), ((b2 37), .inl (ca 0, 600, .inl A37)), ((b2 45), .inl (ca 0, 144, .inl A45)), ((b2 51), .inl (ca 0, 40, .inl A51)), ((b2 50), .inl (ca 1, 348500, .inl (upd R2_ (8500 * i + s6) 0)))] hP hD
              refine lv_iinc (v := (nI (s6 + 1))) (lv' := [(6, .int (nI (s6 + 1))), (7, .int 0), (5, .int (nI w9)), (4, .int (nI i)), (3, .int (nI (fr + ov))), (0, .ref y), (1, .int (nI fr)), (2, .int (nI ov))]) hx hb dX11_leastSum_151 hl (k := 1) rfl (nI_add (s6) 1) (by decide) rfl (fun ls hl => ?_)
              refine lv_goto (tgt := 50) hx hb dX11_leastSum_154 (by decide) ?_
              exact ih50 (s6 + 1, (upd R2_ (8500 * i + s6) 0)) _ _ _ (by omega) ⟨⟨by omega, rTab_set hT2 (by omega), rRow_set hR2 (by omega) (fun h9 => absurd rfl h9)⟩, hP, hD, hS, lv_sub hl [0, 2, 3, 4, 5, 6, 7] rfl⟩
            · have nc_21 : ¬ (s6 < w9) := fun h9 => c_21 ((nI_ltI (a := s6) (b := w9) (by omega) (by omega)).mpr h9)
              refine lv_aload_n hx hb dX11_leastSum_106 rfl (lv_at hl 4 rfl) ?_
              refine va_get (D := (dC, dI)) (ci := 11) (v := .ref (b2 50)) (C := RX11) (T := TX11) (N := 56) hx hb hts inX11 hown hK hP 0 rfl rfl 50 (by decide) (hts _ mw_930) (fun _ h9 => h9) rfl dX11_leastSum_107 ?_
              refine lv_sipush (v := 8500) hx hb dX11_leastSum_110 (by decide) ?_
              refine lv_iload hx hb dX11_leastSum_113 (lv_at hl 2 rfl) ?_
              refine lv_iconst (v := 1) hx hb dX11_leastSum_115 (by decide) ?_
              refine lv_iadd hx hb dX11_leastSum_116 ?_
              refine lv_topi (fun y_ e_ => ?_)
              obtain rfl : y_ = (nI (i + 1)) := e_.trans (nI_add (i) (1))
              refine lv_imul hx hb dX11_leastSum_117 ?_
              refine lv_topi (fun y_ e_ => ?_)
              obtain rfl : y_ = (nI (8500 * (i + 1))) := e_.trans (pk_mul (8500) (i + 1))
              refine lv_iload hx hb dX11_leastSum_118 (lv_at hl 0 rfl) ?_
              refine lv_iadd hx hb dX11_leastSum_120 ?_
              refine lv_topi (fun y_ e_ => ?_)
              obtain rfl : y_ = (nI (8500 * (i + 1) + s6)) := e_.trans (nI_add (8500 * (i + 1)) (s6))
              refine lv_iload hx hb dX11_leastSum_121 (lv_at hl 1 rfl) ?_
              refine lv_isub hx hb dX11_leastSum_123 ?_
              refine lv_topi (fun y_ e_ => ?_)
              obtain rfl : y_ = (nI ((8500 * (i + 1) + s6) - w9)) := e_.trans (pk_sub (show w9 ≤ 8500 * (i + 1) + s6 by omega))
              refine va_zald hx hb hK hP 4 1 rfl rfl (vp_in_nI (show (8500 * (i + 1) + s6) - w9 < 348500 by omega) (by first | decide | omega)) dX11_leastSum_124 ?_
              refine lv_topi (fun y_ e_ => ?_)
              obtain rfl : y_ = (R2_ ((8500 * (i + 1) + s6) - w9)) := e_.trans (congrArg R2_ (show ((nI ((8500 * (i + 1) + s6) - w9)) : Int32).toNatClampNeg = (8500 * (i + 1) + s6) - w9 from nI_clamp (by omega)))
              refine lv_if_eq (tgt := 132) hx hb dX11_leastSum_125 (by decide) (fun c_22 => ?_) (fun c_22 => ?_)
              · refine lv_iconst (v := 0) hx hb dX11_leastSum_132 (by decide) ?_
                refine lv_istore (lv' := [(7, .int 0), (6, .int (nI s6)), (5, .int (nI w9)), (4, .int (nI i)), (3, .int (nI (fr + ov))), (0, .ref y), (1, .int (nI fr)), (2, .int (nI ov))]) hx hb dX11_leastSum_133 hl (by decide) rfl (fun ls hl => ?_)
                refine lv_aload_n hx hb dX11_leastSum_135 rfl (lv_at hl 5 rfl) ?_
                refine va_get (D := (dC, dI)) (ci := 11) (v := .ref (b2 50)) (C := RX11) (T := TX11) (N := 56) hx hb hts inX11 hown hK hP 0 rfl rfl 50 (by decide) (hts _ mw_930) (fun _ h9 => h9) rfl dX11_leastSum_136 ?_
                refine lv_sipush (v := 8500) hx hb dX11_leastSum_139 (by decide) ?_
                refine lv_iload hx hb dX11_leastSum_142 (lv_at hl 3 rfl) ?_
                refine lv_imul hx hb dX11_leastSum_144 ?_
                refine lv_topi (fun y_ e_ => ?_)
                obtain rfl : y_ = (nI (8500 * i)) := e_.trans (pk_mul (8500) (i))
                refine lv_iload hx hb dX11_leastSum_145 (lv_at hl 1 rfl) ?_
                refine lv_iadd hx hb dX11_leastSum_147 ?_
                refine lv_topi (fun y_ e_ => ?_)
                obtain rfl : y_ = (nI (8500 * i + s6)) := e_.trans (nI_add (8500 * i) (s6))
                refine lv_iload hx hb dX11_leastSum_148 (lv_at hl 0 rfl) ?_
                refine va_zast hx hb hK hP hD hS 4 1 rfl rfl (vp_in_nI (show 8500 * i + s6 < 348500 by omega) (by first | decide | omega)) dX11_leastSum_150 (fun H locs hP hD hS => ?_)
                rw [(show ((nI (8500 * i + s6)) : Int32).toNatClampNeg = 8500 * i + s6 from nI_clamp (by omega))] at hP hD
                obtain ⟨hP, hD⟩ := va_bo [(y, .inr (11, [.int (nI ml), .int (nI mb), .int (nI mp), .int (nI mx), .int (nI mr), .int (nI mq), .ref (b2 6), .ref (b2 7), .ref (b2 8), .ref (b2 9), .ref (b2 10), .ref (b2 11), .ref (b2 12), .ref (b2 13), .ref (b2 14), .ref (b2 15), .ref (b2 16), .ref (b2 17), .ref (b2 18), .ref (b2 19), .ref (b2 20), .ref (b2 21), .ref (b2 22), .ref (b2 23), .ref (b2 24), .ref (b2 25), .ref (b2 26), .ref (b2 27), .ref (b2 28), .int gl, .int gh, .ref (b2 31), .ref (b2 32), .ref (b2 33), .ref (b2 34), .ref (b2 35), .ref (b2 36), .ref (b2 37), .ref (b2 38), .ref (b2 39), .ref (b2 40), .ref (b2 41), .ref (b2 42), .ref (b2 43), .ref (b2 44), .ref (b2 45), .ref (b2 46), .ref (b2 47), .int (nI mch), .int (nI mli), .ref (b2 50), .ref (b2 51), .int (nI mno), .ref (b2 53), .ref (b2 54), .ref (b2 55)])), ((b2 37), .inl (ca 0, 600, .inl A37)), ((b2 45), .inl (ca 0, 144, .inl A45)), ((b2 51), .inl (ca 0, 40, .inl A51)), ((b2 50), .inl (ca 1, 348500, .inl (upd R2_ (8500 * i + s6) 0)))] hP hD
                refine lv_iinc (v := (nI (s6 + 1))) (lv' := [(6, .int (nI (s6 + 1))), (7, .int 0), (5, .int (nI w9)), (4, .int (nI i)), (3, .int (nI (fr + ov))), (0, .ref y), (1, .int (nI fr)), (2, .int (nI ov))]) hx hb dX11_leastSum_151 hl (k := 1) rfl (nI_add (s6) 1) (by decide) rfl (fun ls hl => ?_)
                refine lv_goto (tgt := 50) hx hb dX11_leastSum_154 (by decide) ?_
                exact ih50 (s6 + 1, (upd R2_ (8500 * i + s6) 0)) _ _ _ (by omega) ⟨⟨by omega, rTab_set hT2 (by omega), rRow_set hR2 (by omega) (fun h9 => absurd rfl h9)⟩, hP, hD, hS, lv_sub hl [0, 2, 3, 4, 5, 6, 7] rfl⟩
              · refine lv_iconst (v := 1) hx hb dX11_leastSum_128 (by decide) ?_
                refine lv_goto (tgt := 133) hx hb dX11_leastSum_129 (by decide) ?_
                refine lv_istore (lv' := [(7, .int 1), (6, .int (nI s6)), (5, .int (nI w9)), (4, .int (nI i)), (3, .int (nI (fr + ov))), (0, .ref y), (1, .int (nI fr)), (2, .int (nI ov))]) hx hb dX11_leastSum_133 hl (by decide) rfl (fun ls hl => ?_)
                refine lv_aload_n hx hb dX11_leastSum_135 rfl (lv_at hl 5 rfl) ?_
                refine va_get (D := (dC, dI)) (ci := 11) (v := .ref (b2 50)) (C := RX11) (T := TX11) (N := 56) hx hb hts inX11 hown hK hP 0 rfl rfl 50 (by decide) (hts _ mw_930) (fun _ h9 => h9) rfl dX11_leastSum_136 ?_
                refine lv_sipush (v := 8500) hx hb dX11_leastSum_139 (by decide) ?_
                refine lv_iload hx hb dX11_leastSum_142 (lv_at hl 3 rfl) ?_
                refine lv_imul hx hb dX11_leastSum_144 ?_
                refine lv_topi (fun y_ e_ => ?_)
                obtain rfl : y_ = (nI (8500 * i)) := e_.trans (pk_mul (8500) (i))
                refine lv_iload hx hb dX11_leastSum_145 (lv_at hl 1 rfl) ?_
                refine lv_iadd hx hb dX11_leastSum_147 ?_
                refine lv_topi (fun y_ e_ => ?_)
                obtain rfl : y_ = (nI (8500 * i + s6)) := e_.trans (nI_add (8500 * i) (s6))
                refine lv_iload hx hb dX11_leastSum_148 (lv_at hl 0 rfl) ?_
                refine va_zast hx hb hK hP hD hS 4 1 rfl rfl (vp_in_nI (show 8500 * i + s6 < 348500 by omega) (by first | decide | omega)) dX11_leastSum_150 (fun H locs hP hD hS => ?_)
                rw [(show ((nI (8500 * i + s6)) : Int32).toNatClampNeg = 8500 * i + s6 from nI_clamp (by omega))] at hP hD
                obtain ⟨hP, hD⟩ := va_bo [(y, .inr (11, [.int (nI ml), .int (nI mb), .int (nI mp), .int (nI mx), .int (nI mr), .int (nI mq), .ref (b2 6), .ref (b2 7), .ref (b2 8), .ref (b2 9), .ref (b2 10), .ref (b2 11), .ref (b2 12), .ref (b2 13), .ref (b2 14), .ref (b2 15), .ref (b2 16), .ref (b2 17), .ref (b2 18), .ref (b2 19), .ref (b2 20), .ref (b2 21), .ref (b2 22), .ref (b2 23), .ref (b2 24), .ref (b2 25), .ref (b2 26), .ref (b2 27), .ref (b2 28), .int gl, .int gh, .ref (b2 31), .ref (b2 32), .ref (b2 33), .ref (b2 34), .ref (b2 35), .ref (b2 36), .ref (b2 37), .ref (b2 38), .ref (b2 39), .ref (b2 40), .ref (b2 41), .ref (b2 42), .ref (b2 43), .ref (b2 44), .ref (b2 45), .ref (b2 46), .ref (b2 47), .int (nI mch), .int (nI mli), .ref (b2 50), .ref (b2 51), .int (nI mno), .ref (b2 53), .ref (b2 54), .ref (b2 55)])), ((b2 37), .inl (ca 0, 600, .inl A37)), ((b2 45), .inl (ca 0, 144, .inl A45)), ((b2 51), .inl (ca 0, 40, .inl A51)), ((b2 50), .inl (ca 1, 348500, .inl (upd R2_ (8500 * i + s6) 1)))] hP hD
                refine lv_iinc (v := (nI (s6 + 1))) (lv' := [(6, .int (nI (s6 + 1))), (7, .int 1), (5, .int (nI w9)), (4, .int (nI i)), (3, .int (nI (fr + ov))), (0, .ref y), (1, .int (nI fr)), (2, .int (nI ov))]) hx hb dX11_leastSum_151 hl (k := 1) rfl (nI_add (s6) 1) (by decide) rfl (fun ls hl => ?_)
                refine lv_goto (tgt := 50) hx hb dX11_leastSum_154 (by decide) ?_
                exact ih50 (s6 + 1, (upd R2_ (8500 * i + s6) 1)) _ _ _ (by omega) ⟨⟨by omega, rTab_set hT2 (by omega), rRow_set hR2 (by omega) (fun _ => by first | (exfalso; omega) | exact Or.inr ⟨by omega, Or.inr ⟨by rw [hwN]; omega, by rw [hwN, show 8500 * (i + 1) + (s6 - w9) = 8500 * (i + 1) + s6 - w9 by omega]; exact c_22⟩⟩)⟩, hP, hD, hS, lv_sub hl [0, 2, 3, 4, 5, 6, 7] rfl⟩
        · have nc_19 : i = mno := (nI_eq (a := i) (b := mno) (by omega) (by omega)).mp c_19
          refine lv_iload hx hb dX11_leastSum_67 (lv_at hl 0 rfl) ?_
          refine lv_if_ne (tgt := 76) hx hb dX11_leastSum_69 (by decide) (fun c_23 => ?_) (fun c_23 => ?_)
          · have nc_23 : ¬ (s6 = 0) := fun h9 => c_23 ((nI_eq (a := s6) (b := 0) (by omega) (by omega)).mpr h9)
            refine lv_iconst (v := 0) hx hb dX11_leastSum_76 (by decide) ?_
            refine lv_goto (tgt := 133) hx hb dX11_leastSum_77 (by decide) ?_
            refine lv_istore (lv' := [(7, .int 0), (6, .int (nI s6)), (5, .int (nI w9)), (4, .int (nI i)), (3, .int (nI (fr + ov))), (0, .ref y), (1, .int (nI fr)), (2, .int (nI ov))]) hx hb dX11_leastSum_133 hl (by decide) rfl (fun ls hl => ?_)
            refine lv_aload_n hx hb dX11_leastSum_135 rfl (lv_at hl 5 rfl) ?_
            refine va_get (D := (dC, dI)) (ci := 11) (v := .ref (b2 50)) (C := RX11) (T := TX11) (N := 56) hx hb hts inX11 hown hK hP 0 rfl rfl 50 (by decide) (hts _ mw_930) (fun _ h9 => h9) rfl dX11_leastSum_136 ?_
            refine lv_sipush (v := 8500) hx hb dX11_leastSum_139 (by decide) ?_
            refine lv_iload hx hb dX11_leastSum_142 (lv_at hl 3 rfl) ?_
            refine lv_imul hx hb dX11_leastSum_144 ?_
            refine lv_topi (fun y_ e_ => ?_)
            obtain rfl : y_ = (nI (8500 * i)) := e_.trans (pk_mul (8500) (i))
            refine lv_iload hx hb dX11_leastSum_145 (lv_at hl 1 rfl) ?_
            refine lv_iadd hx hb dX11_leastSum_147 ?_
            refine lv_topi (fun y_ e_ => ?_)
            obtain rfl : y_ = (nI (8500 * i + s6)) := e_.trans (nI_add (8500 * i) (s6))
            refine lv_iload hx hb dX11_leastSum_148 (lv_at hl 0 rfl) ?_
            refine va_zast hx hb hK hP hD hS 4 1 rfl rfl (vp_in_nI (show 8500 * i + s6 < 348500 by omega) (by first | decide | omega)) dX11_leastSum_150 (fun H locs hP hD hS => ?_)
            rw [(show ((nI (8500 * i + s6)) : Int32).toNatClampNeg = 8500 * i + s6 from nI_clamp (by omega))] at hP hD
            obtain ⟨hP, hD⟩ := va_bo [(y, .inr (11, [.int (nI ml), .int (nI mb), .int (nI mp), .int (nI mx), .int (nI mr), .int (nI mq), .ref (b2 6), .ref (b2 7), .ref (b2 8), .ref (b2 9), .ref (b2 10), .ref (b2 11), .ref (b2 12), .ref (b2 13), .ref (b2 14), .ref (b2 15), .ref (b2 16), .ref (b2 17), .ref (b2 18), .ref (b2 19), .ref (b2 20), .ref (b2 21), .ref (b2 22), .ref (b2 23), .ref (b2 24), .ref (b2 25), .ref (b2 26), .ref (b2 27), .ref (b2 28), .int gl, .int gh, .ref (b2 31), .ref (b2 32), .ref (b2 33), .ref (b2 34), .ref (b2 35), .ref (b2 36), .ref (b2 37), .ref (b2 38), .ref (b2 39), .ref (b2 40), .ref (b2 41), .ref (b2 42), .ref (b2 43), .ref (b2 44), .ref (b2 45), .ref (b2 46), .ref (b2 47), .int (nI mch), .int (nI mli), .ref (b2 50), .ref (b2 51), .int (nI mno), .ref (b2 53), .ref (b2 54), .ref (b2 55)])), ((b2 37), .inl (ca 0, 600, .inl A37)), ((b2 45), .inl (ca 0, 144, .inl A45)), ((b2 51), .inl (ca 0, 40, .inl A51)), ((b2 50), .inl (ca 1, 348500, .inl (upd R2_ (8500 * i + s6) 0)))] hP hD
            refine lv_iinc (v := (nI (s6 + 1))) (lv' := [(6, .int (nI (s6 + 1))), (7, .int 0), (5, .int (nI w9)), (4, .int (nI i)), (3, .int (nI (fr + ov))), (0, .ref y), (1, .int (nI fr)), (2, .int (nI ov))]) hx hb dX11_leastSum_151 hl (k := 1) rfl (nI_add (s6) 1) (by decide) rfl (fun ls hl => ?_)
            refine lv_goto (tgt := 50) hx hb dX11_leastSum_154 (by decide) ?_
            exact ih50 (s6 + 1, (upd R2_ (8500 * i + s6) 0)) _ _ _ (by omega) ⟨⟨by omega, rTab_set hT2 (by omega), rRow_set hR2 (by omega) (fun h9 => absurd rfl h9)⟩, hP, hD, hS, lv_sub hl [0, 2, 3, 4, 5, 6, 7] rfl⟩
          · have nc_23 : s6 = 0 := (nI_eq (a := s6) (b := 0) (by omega) (by omega)).mp c_23
            refine lv_iconst (v := 1) hx hb dX11_leastSum_72 (by decide) ?_
            refine lv_goto (tgt := 133) hx hb dX11_leastSum_73 (by decide) ?_
            refine lv_istore (lv' := [(7, .int 1), (6, .int (nI s6)), (5, .int (nI w9)), (4, .int (nI i)), (3, .int (nI (fr + ov))), (0, .ref y), (1, .int (nI fr)), (2, .int (nI ov))]) hx hb dX11_leastSum_133 hl (by decide) rfl (fun ls hl => ?_)
            refine lv_aload_n hx hb dX11_leastSum_135 rfl (lv_at hl 5 rfl) ?_
            refine va_get (D := (dC, dI)) (ci := 11) (v := .ref (b2 50)) (C := RX11) (T := TX11) (N := 56) hx hb hts inX11 hown hK hP 0 rfl rfl 50 (by decide) (hts _ mw_930) (fun _ h9 => h9) rfl dX11_leastSum_136 ?_
            refine lv_sipush (v := 8500) hx hb dX11_leastSum_139 (by decide) ?_
            refine lv_iload hx hb dX11_leastSum_142 (lv_at hl 3 rfl) ?_
            refine lv_imul hx hb dX11_leastSum_144 ?_
            refine lv_topi (fun y_ e_ => ?_)
            obtain rfl : y_ = (nI (8500 * i)) := e_.trans (pk_mul (8500) (i))
            refine lv_iload hx hb dX11_leastSum_145 (lv_at hl 1 rfl) ?_
            refine lv_iadd hx hb dX11_leastSum_147 ?_
            refine lv_topi (fun y_ e_ => ?_)
            obtain rfl : y_ = (nI (8500 * i + s6)) := e_.trans (nI_add (8500 * i) (s6))
            refine lv_iload hx hb dX11_leastSum_148 (lv_at hl 0 rfl) ?_
            refine va_zast hx hb hK hP hD hS 4 1 rfl rfl (vp_in_nI (show 8500 * i + s6 < 348500 by omega) (by first | decide | omega)) dX11_leastSum_150 (fun H locs hP hD hS => ?_)
            rw [(show ((nI (8500 * i + s6)) : Int32).toNatClampNeg = 8500 * i + s6 from nI_clamp (by omega))] at hP hD
            obtain ⟨hP, hD⟩ := va_bo [(y, .inr (11, [.int (nI ml), .int (nI mb), .int (nI mp), .int (nI mx), .int (nI mr), .int (nI mq), .ref (b2 6), .ref (b2 7), .ref (b2 8), .ref (b2 9), .ref (b2 10), .ref (b2 11), .ref (b2 12), .ref (b2 13), .ref (b2 14), .ref (b2 15), .ref (b2 16), .ref (b2 17), .ref (b2 18), .ref (b2 19), .ref (b2 20), .ref (b2 21), .ref (b2 22), .ref (b2 23), .ref (b2 24), .ref (b2 25), .ref (b2 26), .ref (b2 27), .ref (b2 28), .int gl, .int gh, .ref (b2 31), .ref (b2 32), .ref (b2 33), .ref (b2 34), .ref (b2 35), .ref (b2 36), .ref (b2 37), .ref (b2 38), .ref (b2 39), .ref (b2 40), .ref (b2 41), .ref (b2 42), .ref (b2 43), .ref (b2 44), .ref (b2 45), .ref (b2 46), .ref (b2 47), .int (nI mch), .int (nI mli), .ref (b2 50), .ref (b2 51), .int (nI mno), .ref (b2 53), .ref (b2 54), .ref (b2 55)])), ((b2 37), .inl (ca 0, 600, .inl A37)), ((b2 45), .inl (ca 0, 144, .inl A45)), ((b2 51), .inl (ca 0, 40, .inl A51)), ((b2 50), .inl (ca 1, 348500, .inl (upd R2_ (8500 * i + s6) 1)))] hP hD
            refine lv_iinc (v := (nI (s6 + 1))) (lv' := [(6, .int (nI (s6 + 1))), (7, .int 1), (5, .int (nI w9)), (4, .int (nI i)), (3, .int (nI (fr + ov))), (0, .ref y), (1, .int (nI fr)), (2, .int (nI ov))]) hx hb dX11_leastSum_151 hl (k := 1) rfl (nI_add (s6) 1) (by decide) rfl (fun ls hl => ?_)
            refine lv_goto (tgt := 50) hx hb dX11_leastSum_154 (by decide) ?_
            exact ih50 (s6 + 1, (upd R2_ (8500 * i + s6) 1)) _ _ _ (by omega) ⟨⟨by omega, rTab_set hT2 (by omega), rRow_set hR2 (by omega) (fun _ => by first | exact Or.inl ⟨by omega, by omega⟩ | (exfalso; omega))⟩, hP, hD, hS, lv_sub hl [0, 2, 3, 4, 5, 6, 7] rfl⟩
