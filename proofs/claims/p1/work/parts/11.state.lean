abbrev kO (a : Nat → Nat) : List Value := [.ref (a 0), .int 0, .ref (a 2), .int 0, .ref (a 4), .int 0, .ref (a 6), .int 0, .ref (a 8), .ref (a 9), .ref (a 10), .ref (a 11), .ref (a 12), .ref (a 13), .ref (a 14)]
abbrev rO (a : Nat → Nat) : List Value := [.ref (a 20), .ref (a 21), .int 0, .int 0, .int (-1), .ref (a 25), .ref (a 26)]
abbrev keO (a : Nat → Nat) : List Value := [.ref (a 30), .ref (a 31), .ref (a 32), .int 0, .ref (a 34), .int 0, .int 0, .int 0, .ref (a 38), .ref (a 39), .ref (a 40), .ref (a 41), .null]
abbrev chO (a : Nat → Nat) : List Value := [.ref (a 50), .ref (a 51), .ref (a 52), .int 0, .null, .int 0]
abbrev paO (a : Nat → Nat) : List Value := [.ref (a 60), .int 0, .int 0, .int 0, .null]
/-- a fresh kitchen, its cells -/
abbrev kW (x : Nat) (a : Nat → Nat) (cy : Nat → ClassId) : va_W := [(x, .inr (10, (kO a))), ((a 0), .inl ((cy 0), 40, .inr (.inr (.inr (.inr (fun _ => none)))))), ((a 2), .inl ((cy 2), 40, .inr (.inr (.inr (.inr (fun _ => none)))))), ((a 4), .inl ((cy 4), 600, .inr (.inr (.inr (.inr (fun _ => none)))))), ((a 6), .inl ((cy 6), 200, .inr (.inr (.inr (.inr (fun _ => none)))))), ((a 8), .inl ((cy 8), 144, .inl (fun _ => (-1)))), ((a 9), .inl ((cy 9), 144, .inl (fun _ => 0))), ((a 10), .inr (8, (rO a))), ((a 20), .inl ((cy 20), 16, .inl (fun _ => 0))), ((a 21), .inl ((cy 21), 16, .inl (fun _ => 0))), ((a 25), .inl ((cy 25), 6, .inl (fun _ => 0))), ((a 26), .inl ((cy 26), 6, .inl (fun _ => 900))), ((a 11), .inr (9, [.int 450, .int 270, .int 310, .int 320, .int 290, .int 2])), ((a 12), .inr (3, (keO a))), ((a 30), .inl ((cy 30), 36, .inl (fun _ => 0))), ((a 31), .inl ((cy 31), 10, .inl (fun _ => 0))), ((a 32), .inl ((cy 32), 10, .inl (fun _ => 0))), ((a 34), .inl ((cy 34), 10, .inl (fun _ => 0))), ((a 38), .inl ((cy 38), 10, .inl (fun _ => 0))), ((a 39), .inl ((cy 39), 6, .inl (fun _ => 0))), ((a 40), .inl ((cy 40), 6, .inl (fun _ => 0))), ((a 41), .inl ((cy 41), 6, .inl (fun _ => 0))), ((a 13), .inr (2, (chO a))), ((a 50), .inl ((cy 50), 40, .inl (fun _ => 0))), ((a 51), .inl ((cy 51), 40, .inl (fun _ => 0))), ((a 52), .inl ((cy 52), 40, .inl (fun _ => 0))), ((a 14), .inr (5, (paO a))), ((a 60), .inl ((cy 60), 14, .inl (fun _ => 0)))]
abbrev kT (cy : Nat → ClassId) : List (ClassId × FieldType) := [((cy 0), .object "SugarKitchen$Lot"), ((cy 2), .object "SugarKitchen$Batch"), ((cy 4), .object "SugarKitchen$Piece"), ((cy 6), .object "SugarKitchen$Box"), ((cy 8), .int), ((cy 9), .int), ((cy 20), .int), ((cy 21), .int), ((cy 25), .int), ((cy 26), .int), ((cy 30), .int), ((cy 31), .int), ((cy 32), .int), ((cy 34), .int), ((cy 38), .boolean), ((cy 39), .int), ((cy 40), .int), ((cy 41), .int), ((cy 50), .int), ((cy 51), .int), ((cy 52), .boolean), ((cy 60), .int)]
theorem mmin_code : Cond.code Lib.Math.min.name Lib.Math.min.code 2 (some .int) ∈ gT := gI 443 (by decide +kernel) rfl
section PUV
variable {p : Program} {l : Launch} {e : Env} {R : Room} {s : State} {m : MethodId} {args : Array Value} {below : List Frame} {meth : Method} {c : Code} {H : Heap} {locs : List Loc} {cells slots : Nat} {Q : State → Prop}
variable {pc : Nat} {ls : Array Slot} {rest st0 : List Value} {a : Array Value}
theorem pc_v {post : Unit → Prop} (hr : va_Run p l e R s m args below meth c H locs cells slots 0 0 (F0 m pc ls st0) rest (va_Sv post a) (fun _ => False))
    (kk : post () → W p l e R s m args below meth c H locs cells slots Q (F0 m (pc + 3) ls rest)) : W p l e R s m args below meth c H locs cells slots Q (F0 m pc ls st0) := by
  intro T hT X
  obtain ⟨v, st₀, t, T', L, h0, X', hL, e1, e2, ⟨hv, hp, hh⟩, st⟩ := hr T hT X
  cases hv
  obtain ⟨t2, a1, b1⟩ := kk hp T' (by rw [e1, hh, h0]) (Stand.forget X' (fun q h => (hL q h).elim))
  exact ⟨t2, st t2 a1, b1⟩
end PUV
/-- a row of ints of which the first i are v -/
def flg (f : Nat → Int32) (v : Int32) (i : Nat) : Nat → Int32 := fun j => if j < i then v else f j
theorem flg_0 (f : Nat → Int32) (v : Int32) : flg f v 0 = f := funext fun j => by simp [flg]
theorem flg_s (f : Nat → Int32) (v : Int32) {i : Nat} (h : i < 2 ^ 31) : upd (flg f v i) (nI i).toNatClampNeg v = flg f v (i + 1) := by
  rw [nI_clamp h]
  funext j
  unfold upd flg
  by_cases h1 : j = i
  · subst h1; simp
  · by_cases h2 : j < i
    · simp [h1, h2, Nat.lt_succ_of_lt h2]
    · have h3 : ¬ j < i + 1 := by omega
      simp [h1, h2, h3]
theorem flg_all (f : Nat → Int32) (v : Int32) (n : Nat) : ∀ j, j < n → flg f v n j = v := fun j h => by simp [flg, h]
theorem nI_end {i N : Nat} {x : Int32} (hN : x = nI N) (hb : N < 2 ^ 31) (hi : i ≤ N) (h : x ≤ nI i) : i = N := by
  rcases Nat.lt_or_ge i N with h1 | h1
  · rw [hN] at h; exact absurd h (nI_ge h1 hb)
  · omega
theorem nI_on {i N : Nat} {x : Int32} (hN : x = nI N) (hb : N < 2 ^ 31) (hi : i ≤ N) (h : ¬ x ≤ nI i) : i < N := by
  rcases Nat.lt_or_ge i N with h1 | h1
  · exact h1
  · exfalso
    have h2 : i = N := by omega
    subst h2
    rw [hN] at h
    exact h (nI_le (Nat.le_refl _) hb)
theorem wi_vp {v hi : Int32} {n : Nat} (h : ¬ wi v 0 hi = 0) (hn : hi.toInt + 1 = n) : vp_in v n := by
  have h1 := wi_in h
  have e0 : (0 : Int32).toInt = 0 := by decide
  exact vp_in_iff.mpr (by omega)
theorem gr_in {a b : Int32} {A B : Nat} (ha : vp_in a A) (hb : vp_in b B) (hA : A * B < 2 ^ 31) {w : Int32} (hw : w = nI B) (hA2 : A < 2 ^ 31) (hB2 : B < 2 ^ 31) : vp_in (a * w + b) (A * B) ∧ vp_in (w * a + b) (A * B) := by
  obtain ⟨j, hj, rfl⟩ := vp_in_of ha hA2
  obtain ⟨k, hk, rfl⟩ := vp_in_of hb hB2
  subst hw
  have h1 : j * B + k < A * B := by
    have := Nat.mul_le_mul_right B (show j + 1 ≤ A from hj)
    rw [Nat.add_mul, Nat.one_mul] at this
    omega
  rw [pk_mul, pk_mul, nI_add, nI_add, Nat.mul_comm B j]
  exact ⟨vp_in_nI h1 hA, vp_in_nI h1 hA⟩
theorem so_in {t p : Int32} (h : ¬ so t p = -1) : vp_in (so t p) 144 := by
  unfold so at h ⊢
  split at h
  · exact absurd rfl h
  · rename_i h1
    split at h
    · exact absurd rfl h
    · rename_i h2
      rw [if_neg h1, if_neg h2]
      exact (gr_in (A := 6) (B := 24) (wi_vp h1 (by decide)) (wi_vp h2 (by decide)) (by decide) (w := 24) (by decide) (by decide) (by decide)).1
theorem cb_w {v1 v2 v3 : Int32} (h : ¬ cb v1 v2 v3 = 0) : ¬ wi v2 1 8000 = 0 ∧ ¬ wi v3 0 500 = 0 := by
  unfold cb at h
  split at h
  · exact absurd rfl h
  · split at h
    · exact absurd rfl h
    · rename_i h2
      split at h
      · exact absurd rfl h
      · rename_i h3
        exact ⟨h2, h3⟩
theorem wi_pos {v hi : Int32} (h : ¬ wi v 1 hi = 0) : ¬ v ≤ 0 := by
  have h1 := wi_in h
  intro h2
  rw [Int32.le_iff_toInt_le] at h2
  have e0 : (0 : Int32).toInt = 0 := by decide
  have e1 : (1 : Int32).toInt = 1 := by decide
  omega
theorem zb_n {v : Int32} (h : v = 0 ∨ v = 1) : narrow .boolean (.int v) = .int v := by rcases h with rfl | rfl <;> rfl
theorem zb_f {v : Int32} (h : v = 0 ∨ v = 1) : fits .boolean (.int v) = true := by rcases h with rfl | rfl <;> rfl
theorem cpy_all (n : Nat) (v : Int32) (g : Nat → Int32) (x y z : Int32) (hx : x.toNatClampNeg = 0) (hy : y.toNatClampNeg = 0) (hz : z.toNatClampNeg = n) : ∀ j, j < n → va_cpy (fun _ => v) g x.toNatClampNeg y.toNatClampNeg z.toNatClampNeg j = v := fun j h => by
  rw [hx, hy, hz]
  rw [pk_cpy_in (Nat.zero_le _) (by omega)]
def sp_lot (v1 v2 : Int32) : Int32 := if wi v1 0 1000000 = 0 then -1 else if wi v2 0 255 = 0 then -1 else 0
def sp_batch (v1 : Int32) : Int32 := if wi v1 0 5 = 0 then -1 else 0
def sp_table (v2 : Int32) : Int32 := if wi v2 0 900 = 0 then -1 else 1
def sp_bounds (v1 : Int32) : Int32 := if wi v1 0 5 = 0 then 0 else 1
def sp_temper (v1 v2 v3 v4 v5 v6 : Int32) : Int32 := if v3 ≤ v2 then 0 else if v4 < v3 then 0 else if v1 ≤ v4 then 0 else if v3 < v5 then 0 else if wi v6 1 20 = 0 then 0 else 1
def sp_change (v1 v2 v3 v4 v5 v6 : Int32) : Int32 := if v1 = 450 ∧ v2 = 270 ∧ v3 = 310 ∧ v4 = 320 ∧ v5 = 290 ∧ v6 = 2 then 0 else 1
def sp_would (v1 v2 v3 v4 : Int32) : Int32 := if cb v1 v2 v3 = 0 then -1 else if v4 = 2 ∨ v4 = 3 ∨ v4 = 4 then 0 else -1
def sp_wash (v1 v2 v3 : Int32) : Int32 := if wi v1 0 5 = 0 then 0 else if wi v2 0 5 = 0 then 0 else if wi v3 0 600 = 0 then 0 else 1
def sp_queue (v1 : Int32) : Int32 := if v1 = -1 then 0 else -1
def sp_about (v1 : Int32) : Int32 := if v1 = 0 ∨ v1 = 1 ∨ v1 = 2 ∨ v1 = 3 ∨ v1 = 4 ∨ v1 = 5 ∨ v1 = 6 then 0 else -1

