/-! ===== contracts over a whole object's world ===== -/
section MFR
variable {l : Launch} {y : MethodName} {ws : List Cond} {rm : Room} {Pc Pc' : Array Value → State → Prop} {Qc Qc' : Array Value → State → Outcome → State → Prop} {mc ms : Nat} {free free' : Addr → Prop}
theorem Met.cq (h : Met l y ws rm Pc Qc mc ms free) (h1 : ∀ a s, Pc' a s → Pc a s) (h2 : ∀ a s o t, Pc' a s → Qc a s o t → Qc' a s o t) (h3 : ∀ q, free q → free' q) : Met l y ws rm Pc' Qc' mc ms free' := by
  intro p e ha hc hk s m args below hf happ hP hK
  obtain ⟨n, o, g1, g2, g3, g4, L, g5, g6⟩ := h p e ha hc hk s m args below hf happ (h1 _ _ hP) hK
  exact ⟨n, o, g1, g2, g3, h2 _ _ _ _ hP g4, L, g5, fun q hq => h3 _ (g6 q hq)⟩
theorem MetD.cq {cs : List Choice} (h : MetD cs l y ws rm Pc Qc mc ms free) (h1 : ∀ a s, Pc' a s → Pc a s) (h2 : ∀ a s d o t, Pc' a s → Qc a (s.setDrawn d) o t → Qc' a (s.setDrawn d) o t) (h3 : ∀ q, free q → free' q) : MetD cs l y ws rm Pc' Qc' mc ms free' := by
  intro p e ha hc hk s m args below hf happ hP hK
  obtain ⟨n, o, g1, g2, g3, d, hd, g4, L, g5, g6⟩ := h p e ha hc hk s m args below hf happ (h1 _ _ hP) hK
  exact ⟨n, o, g1, g2, g3, d, hd, h2 _ _ _ _ _ hP g4, L, g5, fun q hq => h3 _ (g6 q hq)⟩
end MFR
theorem w_left {D : va_G} {cl : List vw_C} {a b : va_W} {H : Heap} (h : va_P D cl (a ++ b) H) : va_P D cl a H := fun k q hk => h k q (by rw [List.getElem?_append_left (List.getElem?_eq_some_iff.mp hk).1]; exact hk)
theorem w_right {D : va_G} {cl : List vw_C} {a b : va_W} {H : Heap} (h : va_P D cl (a ++ b) H) : va_P D cl b H := fun k q hk => h (a.length + k) q (by rw [List.getElem?_append_right (by omega), Nat.add_sub_cancel_left]; exact hk)
theorem d_left {A : Nat → Prop} {a b : va_W} (h : va_D A (a ++ b)) : va_D A a := ⟨fun i j p q hi hj e => h.1 i j p q (by rw [List.getElem?_append_left (List.getElem?_eq_some_iff.mp hi).1]; exact hi) (by rw [List.getElem?_append_left (List.getElem?_eq_some_iff.mp hj).1]; exact hj) e, fun k q hk => h.2 k q (by rw [List.getElem?_append_left (List.getElem?_eq_some_iff.mp hk).1]; exact hk)⟩
theorem d_right {A : Nat → Prop} {a b : va_W} (h : va_D A (a ++ b)) : va_D A b := d_left (h.perm List.perm_append_comm)
theorem a_sub {w w2 : va_W} {sz : Nat} (h : ∀ q ∈ w, q ∈ w2) (q : Nat) (hq : va_A w sz q) : va_A w2 sz q := by
  rcases hq with ⟨k, e, hk⟩ | hq
  · obtain ⟨i, hi⟩ := List.getElem?_of_mem (h _ (List.mem_of_getElem? hk))
    exact Or.inl ⟨i, e, hi⟩
  · exact Or.inr hq
/-- what stands beside a callee's world stays as it is -/
theorem frm {A0 : Nat → Prop} {D : va_G} {cl : List vw_C} {wc wr w1 : va_W} {H H1 : Heap} (hP : va_P D cl (wc ++ wr) H) (hD : va_D A0 (wc ++ wr))
    (hk : ∀ q : Nat, q < H.size → ¬ va_A wc H.size q → H1[q]? = H[q]?) (hF : ∀ q, va_A wc H.size q → A0 q) (hP1 : va_P D cl w1 H1) (hD1 : va_D (va_A wc H.size) w1) : va_P D cl (w1 ++ wr) H1 ∧ va_D A0 (w1 ++ wr) := by
  have at_ : ∀ (k : Nat) (q : Nat × va_E), wr[k]? = some q → (wc ++ wr)[wc.length + k]? = some q := fun k q h => by
    rw [List.getElem?_append_right (by omega), Nat.add_sub_cancel_left]; exact h
  have apart : ∀ (k : Nat) (q : Nat × va_E), wr[k]? = some q → q.1 < H.size ∧ ¬ va_A wc H.size q.1 := by
    intro k q hq
    have h2 := at_ k q hq
    have hl := (hP _ q h2).lt
    refine ⟨hl, fun h => ?_⟩
    rcases h with ⟨k2, e, h⟩ | h
    · have h3 : (wc ++ wr)[k2]? = some (q.1, e) := by rw [List.getElem?_append_left (List.getElem?_eq_some_iff.mp h).1]; exact h
      have h4 := hD.1 _ _ _ _ h2 h3 rfl
      have h5 := (List.getElem?_eq_some_iff.mp h).1
      omega
    · omega
  refine ⟨va_P.app hP1 (fun k q hq => ?_), va_D.app (hD1.weaken (fun k q _ h => hF q.1 h)) (d_right hD) (fun i j x y hx hy hxy => ?_)⟩
  · obtain ⟨g1, g2⟩ := apart k q hq
    exact (hP _ q (at_ k q hq)).kept (hk q.1 g1 g2)
  · exact (apart j y hy).2 (by rw [← hxy]; exact hD1.2 i x hx)
section MFW
variable {l : Launch} {y : MethodName} {ws : List Cond} {rm : Room} {mc ms sz : Nat} {D : va_G} {wc wr w : va_W} {tys : List (ClassId × FieldType)} {av : List Value}
/-- the world that a whole object's method leaves -/
abbrev wB (D : va_G) (w : va_W) (sz : Nat) : va_W → State → Prop := fun w' t => va_P D vwCl w' t.heap ∧ va_D (va_A w sz) w'
theorem frm_q {s t : State} {w1 w' : va_W} (hp : w.Perm (wc ++ wr)) (hsz : s.heap.size = sz) (hP : va_P D vwCl w s.heap) (hD : va_D (fun _ => True) w) (hP1 : va_P D vwCl w1 t.heap) (hD1 : va_D (va_A wc sz) w1) (hF : va_F (va_A wc sz) s t) (hw : w'.Perm (w1 ++ wr)) : wB D w sz w' t ∧ va_F (va_A w sz) s t := by
  subst hsz
  have hs : ∀ q, va_A wc s.heap.size q → va_A w s.heap.size q := a_sub (fun q hq => hp.mem_iff.mpr (List.mem_append_left _ hq))
  obtain ⟨h1, h2⟩ := frm (A0 := va_A w s.heap.size) (hP.perm hp) ((hD.self (sz := s.heap.size)).perm hp) hF.2 hs hP1 hD1
  exact ⟨⟨h1.perm hw.symm, h2.perm hw.symm⟩, hF.1, fun q g1 g2 => hF.2 q g1 (fun g3 => g2 (hs q g3))⟩
theorem mfr_i {S : Type} {post : Int32 → S → Prop} {W1 : S → va_W} (hM : Met l y ws rm (va_Pc av (pr D sz wc tys)) (va_Qi post (fun u t => va_P D vwCl (W1 u) t.heap ∧ va_D (va_A wc sz) (W1 u)) (va_A wc sz)) mc ms (va_A wc sz)) (hp : w.Perm (wc ++ wr)) (K : Int32 → va_W → Prop) (hk : ∀ r u, post r u → ∃ w', w'.Perm (W1 u ++ wr) ∧ K r w') :
    Met l y ws rm (va_Pc av (pr D sz w tys)) (va_Qi K (wB D w sz) (va_A w sz)) mc ms (va_A w sz) := by
  refine Met.cq hM (fun a s h => ⟨h.1, h.2.1, w_left (h.2.2.1.perm hp), h.2.2.2.1, d_left (h.2.2.2.2.1.perm hp), h.2.2.2.2.2⟩) (fun a s o t h q => ?_) (a_sub (fun q hq => hp.mem_iff.mpr (List.mem_append_left _ hq)))
  obtain ⟨⟨r, u, ho, hpo, hP1, hD1⟩, hF⟩ := q
  obtain ⟨w', hw, hK⟩ := hk r u hpo
  obtain ⟨g1, g2⟩ := frm_q hp h.2.1 h.2.2.1 h.2.2.2.2.1 hP1 hD1 hF hw
  exact ⟨⟨r, w', ho, hK, g1⟩, g2⟩
theorem mfr_p {post : Int32 → Prop} (hM : Met l y ws rm (va_Pc av (pu D wc tys)) (vp_Si post) mc ms (fun _ => False)) (hp : w.Perm (wc ++ wr)) (K : Int32 → va_W → Prop) (hk : ∀ r, post r → K r w) :
    Met l y ws rm (va_Pc av (pr D sz w tys)) (va_Qi K (wB D w sz) (va_A w sz)) mc ms (va_A w sz) := by
  refine Met.cq hM (fun a s h => ⟨h.1, w_left (h.2.2.1.perm hp), h.2.2.2.1, h.2.2.2.2.2⟩) (fun a s o t h q => ?_) (fun q h => h.elim)
  obtain ⟨r, ho, hpo, hh⟩ := q
  exact ⟨⟨r, w, ho, hk r hpo, by rw [hh]; exact h.2.2.1, h.2.2.2.2.1.self⟩, by rw [hh]; exact Nat.le_refl _, fun q _ _ => by rw [hh]⟩
theorem mfrD_i {cs : List Choice} {S : Type} {post : Int32 → S → Prop} {W1 : S → va_W} (hM : MetD cs l y ws rm (va_Pc av (pr D sz wc tys)) (va_Qi post (fun u t => va_P D vwCl (W1 u) t.heap ∧ va_D (va_A wc sz) (W1 u)) (va_A wc sz)) mc ms (va_A wc sz)) (hp : w.Perm (wc ++ wr)) (K : Int32 → va_W → Prop) (hk : ∀ r u, post r u → ∃ w', w'.Perm (W1 u ++ wr) ∧ K r w') :
    MetD cs l y ws rm (va_Pc av (pr D sz w tys)) (va_Qi K (wB D w sz) (va_A w sz)) mc ms (va_A w sz) := by
  refine MetD.cq hM (fun a s h => ⟨h.1, h.2.1, w_left (h.2.2.1.perm hp), h.2.2.2.1, d_left (h.2.2.2.2.1.perm hp), h.2.2.2.2.2⟩) (fun a s d o t h q => ?_) (a_sub (fun q hq => hp.mem_iff.mpr (List.mem_append_left _ hq)))
  obtain ⟨⟨r, u, ho, hpo, hP1, hD1⟩, hF⟩ := q
  obtain ⟨w', hw, hK⟩ := hk r u hpo
  obtain ⟨g1, g2⟩ := frm_q (s := s.setDrawn d) hp h.2.1 h.2.2.1 h.2.2.2.2.1 hP1 hD1 hF hw
  exact ⟨⟨r, w', ho, hK, g1⟩, g2⟩
end MFW
theorem ix_all {α : Type} (X : List α) : (List.range X.length).map (fun i => X[i]?) = X.map some := by
  apply List.ext_getElem?
  intro i
  rw [List.getElem?_map, List.getElem?_map]
  rcases Nat.lt_or_ge i X.length with h | h
  · rw [List.getElem?_range h, List.getElem?_eq_getElem h]
    show some X[i]? = some (some X[i])
    rw [List.getElem?_eq_getElem h]
  · rw [List.getElem?_eq_none (by rw [List.length_range]; exact h), List.getElem?_eq_none h]
    rfl
theorem perm_ix {α : Type} {X Y : List α} {n : Nat} (is : List Nat) (hs : is.Perm (List.range n)) (hn : X.length = n) (h : is.map (fun i => X[i]?) = Y.map some) : X.Perm Y := by
  subst hn
  have h1 := hs.map (fun i => X[i]?)
  rw [h, ix_all] at h1
  have h2 := h1.filterMap id
  rw [List.filterMap_map, List.filterMap_map] at h2
  have e : ∀ Z : List α, Z.filterMap (id ∘ some) = Z := fun Z => by
    show Z.filterMap some = Z
    exact List.filterMap_some
  rw [e, e] at h2
  exact h2.symm
section KPS
variable {X cX wX A T a b c P : va_W}
theorem kp_N (h : X.Perm (cX ++ wX)) : (X ++ T).Perm (cX ++ (wX ++ T)) := by
  rw [← List.append_assoc]; exact h.append_right T
theorem kp_T (h : X.Perm (cX ++ wX)) : (X ++ (A ++ T)).Perm ((cX ++ T) ++ (wX ++ A)) := by
  refine (h.append_right _).trans ?_
  rw [List.append_assoc, List.append_assoc]
  refine List.Perm.append_left cX ?_
  rw [← List.append_assoc]
  exact List.perm_append_comm
theorem kp_P (h : X.Perm (cX ++ wX)) : (X ++ (a ++ (b ++ (c ++ P)))).Perm ((cX ++ P) ++ (wX ++ (a ++ (b ++ c)))) := by
  have e : a ++ (b ++ (c ++ P)) = (a ++ (b ++ c)) ++ P := by simp only [List.append_assoc]
  rw [e]
  exact kp_T h
theorem kp_A (h : X.Perm (cX ++ wX)) : (X ++ T).Perm ((cX ++ T) ++ wX) := by
  refine (h.append_right _).trans ?_
  rw [List.append_assoc, List.append_assoc]
  exact List.Perm.append_left cX List.perm_append_comm
end KPS
def grI (kn : Option Nat) (kl g : Nat) : Prop := (kn.isNone = true → g = 0) ∧ (kn.isNone = false → ∃ j : Nat, j ≤ 14 ∧ kl = 2 ^ j ∧ g ≤ j + 1)
theorem grI_w {kn kn2 : Option Nat} {kl kl2 g M : Nat} (h : grI kn kl g) (hM : M ≤ 1) (hw : wP kn kn2 kl kl2 M) : grI kn2 kl2 (g + M) := by
  rcases Nat.eq_zero_or_pos M with h0 | h0
  · obtain ⟨e1, e2⟩ := hw.2.1 h0
    subst h0
    unfold grI
    rw [e1, e2]
    exact h
  · have h1 : M = 1 := by omega
    subst h1
    obtain ⟨e1, e2, j, hj, e3⟩ := hw.2.2 rfl
    refine ⟨fun h9 => absurd (e1.symm.trans h9) (by decide), fun _ => ⟨j, hj, e3, ?_⟩⟩
    cases hn : kn.isNone with
    | true => rw [h.1 hn]; omega
    | false =>
      obtain ⟨i, hi, e4, hg⟩ := h.2 hn
      have h2 : kl < kl2 := e2.resolve_left (by rw [hn]; decide)
      rw [e3, e4] at h2
      have h3 := (Nat.pow_lt_pow_iff_right (a := 2) (by decide)).mp h2
      omega
theorem grI_le {kn : Option Nat} {kl g : Nat} (h : grI kn kl g) : g ≤ 15 := by
  cases hn : kn.isNone with
  | true => rw [h.1 hn]; omega
  | false =>
    obtain ⟨i, hi, e4, hg⟩ := h.2 hn
    omega
theorem rA_0 (f : Nat → Nat) : rA 0 f = fun _ => none := funext fun j => by unfold rA; rw [if_neg (Nat.not_lt_zero j)]
theorem tb_e {r : Int32} {n n2 : Nat} {f f2 g g2 k k2 : Nat → Int32} (h : if r = -1 then n2 = n ∧ f2 = f ∧ g2 = g else n2 = n + 1 ∧ f2 = k ∧ g2 = k2) : n2 = (if r = -1 then n else n + 1) ∧ f2 = (if r = -1 then f else k) := by
  by_cases h9 : r = -1
  · rw [if_pos h9] at h
    rw [if_pos h9, if_pos h9]
    exact ⟨h.1, h.2.1⟩
  · rw [if_neg h9] at h
    rw [if_neg h9, if_neg h9]
    exact ⟨h.1, h.2.1⟩
/-! ===== what both sides share of lots and batches ===== -/
/-- a batch: cooked or not; of one that isn't: its mass, its rows' lengths -/
def bR (g : BatG) (c m h s : Int32) : Prop := g.1 5 = c ∧ (c = 0 → g.1 2 = m ∧ g.1 16 = mx0 h ∧ g.1 17 = mx0 s)
section SHR
variable {nl nl2 nb nb2 : Nat} {lo lo2 : Nat → Int32 × Int32} {bt bt2 : Nat → BatG} {Lf Cf Mf Hf Sf Af Lf2 Cf2 Mf2 : Nat → Int32} {v1 v2 v3 r : Int32}
theorem raw_in {nb : Nat} {Cf : Nat → Int32} {v : Int32} (hn : nb < 2 ^ 31) (h : rawA nb Cf v = true) : v.toNatClampNeg < nb ∧ Cf v.toNatClampNeg = 0 := by
  have h1 := of_decide_eq_true h
  obtain ⟨j, hj, rfl⟩ := wi_cnt hn h1.1
  refine ⟨?_, h1.2⟩
  rw [nI_clamp (by omega)]
  exact hj
theorem rawA_cg {f g : Nat → Int32} {v : Int32} (hn : nb < 2 ^ 31) (h : ∀ j, j < nb → f j = g j) : rawA nb f v = rawA nb g v := by
  unfold rawA
  by_cases h0 : wi v 0 (nI nb - 1) = 0
  · rw [decide_eq_false (fun h9 => h9.1 h0), decide_eq_false (fun h9 => h9.1 h0)]
  · obtain ⟨j, hj, rfl⟩ := wi_cnt hn h0
    rw [nI_clamp (by omega), h j hj]
theorem b5 (hB : ∀ j, j < nb → bR (bt j) (Cf j) (Mf j) (Hf j) (Sf j)) : ∀ j, j < nb → bF bt 5 j = Cf j := fun j hj => (hB j hj).1
theorem wi_cl {n : Nat} {v : Int32} (hn : n < 2 ^ 31) (h : ¬ wi v 0 (nI n - 1) = 0) : v.toNatClampNeg < n := by
  obtain ⟨j, hj, rfl⟩ := wi_cnt hn h
  rw [nI_clamp (by omega)]
  exact hj
theorem bR_up {j : Nat} {f : BatG} {c m h s : Int32} {Cf2 Mf2 Hf2 Sf2 : Nat → Int32} (hB : ∀ q, q < nb → bR (bt q) (Cf q) (Mf q) (Hf q) (Sf q)) (hf : bR f c m h s) (ho : ∀ q, ¬ q = j → Cf2 q = Cf q ∧ Mf2 q = Mf q ∧ Hf2 q = Hf q ∧ Sf2 q = Sf q) (hs : Cf2 j = c ∧ Mf2 j = m ∧ Hf2 j = h ∧ Sf2 j = s) : ∀ q, q < nb → bR (va_up bt j f q) (Cf2 q) (Mf2 q) (Hf2 q) (Sf2 q) := fun q hq => by
  by_cases e : q = j
  · subst e
    rw [va_up_self, hs.1, hs.2.1, hs.2.2.1, hs.2.2.2]; exact hf
  · rw [va_up_ne bt f e, (ho q e).1, (ho q e).2.1, (ho q e).2.2.1, (ho q e).2.2.2]; exact hB q hq
theorem eqF_R (he : eqF nb bt bt2) (hB : ∀ q, q < nb → bR (bt q) (Cf q) (Mf q) (Hf q) (Sf q)) : ∀ q, q < nb → bR (bt2 q) (Cf q) (Mf q) (Hf q) (Sf q) := fun q hq => by
  obtain ⟨h1, h2, h3, h4⟩ := he q hq
  unfold bR
  rw [h1, h2, h3, h4]
  exact hB q hq
theorem eqK_R (he : eqK nb bt bt2) (hB : ∀ q, q < nb → bR (bt q) (Cf q) (Mf q) (Hf q) (Sf q)) : ∀ q, q < nb → bR (bt2 q) (Cf q) (Mf q) (Hf q) (Sf q) := fun q hq => by
  obtain ⟨h1, h2⟩ := he q hq
  obtain ⟨g1, g2⟩ := hB q hq
  refine ⟨h1.trans g1, fun h => ?_⟩
  rw [h2 (g1.trans h)]
  exact g2 h
theorem lotL (e2 : nl2 = if r = -1 then nl else nl + 1) (e3 : lo2 = if r = -1 then lo else va_up lo nl (v1, v2)) (h : ∀ j, j < nl → (lo j).1 = Lf j) : ∀ j, j < nl2 → (lo2 j).1 = (if r = -1 then Lf else upd Lf nl v1) j := fun j hj => by
  by_cases h9 : r = -1
  · rw [if_pos h9] at e2 e3 ⊢
    subst e2; subst e3
    exact h j hj
  · rw [if_neg h9] at e2 e3 ⊢
    subst e2; subst e3
    by_cases e : j = nl
    · subst e; rw [va_up_self, pk_us]
    · rw [va_up_ne lo _ e, pk_un e]; exact h j (by omega)
theorem batB (e2 : nb2 = if r = -1 then nb else nb + 1) (e3 : if r = -1 then bt2 = bt else bU bt bt2 nb 0 0 0 0) (hB : ∀ q, q < nb → bR (bt q) (Cf q) (Mf q) (Hf q) (Sf q)) (hV : ∀ j, nb ≤ j → Cf j = 0) : ∀ q, q < nb2 → bR (bt2 q) (Cf q) ((if r = -1 then Mf else upd Mf nb 0) q) ((if r = -1 then Hf else upd Hf nb (-1)) q) ((if r = -1 then Sf else upd Sf nb (-1)) q) := fun q hq => by
  by_cases h9 : r = -1
  · rw [if_pos h9] at e2 e3 ⊢
    rw [if_pos h9, if_pos h9]
    subst e2; subst e3
    exact hB q hq
  · rw [if_neg h9] at e2 e3 ⊢
    rw [if_neg h9, if_neg h9]
    subst e2
    obtain ⟨f, rfl, f1, f2, f3, f4⟩ := e3
    by_cases e : q = nb
    · subst e
      rw [va_up_self, pk_us, pk_us, pk_us, hV q (Nat.le_refl _)]
      exact ⟨f1, fun _ => ⟨f2, f3, f4⟩⟩
    · rw [va_up_ne bt f e, pk_un e, pk_un e, pk_un e]
      exact hB q (by omega)
theorem nb_le (e2 : nb2 = if r = -1 then nb else nb + 1) : nb ≤ nb2 := by
  rw [e2]; split <;> omega
theorem putC_cg (hl : nl < 2 ^ 31) (hn : nb < 2 ^ 31) (hL : ∀ j, j < nl → (lo j).1 = Lf j) (h5 : ∀ j, j < nb → bF bt 5 j = Cf j) : putC nl nb (lF lo) (bF bt 5) v1 v2 v3 = putC nl nb Lf Cf v1 v2 v3 := by
  unfold putC
  rw [rawA_cg hn h5]
  by_cases h0 : wi v2 0 (nI nl - 1) = 0
  · rw [decide_eq_false (fun h9 => h9.1 h0), decide_eq_false (fun h9 => h9.1 h0)]
  · rw [show lF lo v2.toNatClampNeg = Lf v2.toNatClampNeg from hL _ (wi_cl hl h0)]
theorem putC_in (hl : nl < 2 ^ 31) (hn : nb < 2 ^ 31) (h : putC nl nb Lf Cf v1 v2 v3 = true) : v1.toNatClampNeg < nb ∧ Cf v1.toNatClampNeg = 0 ∧ v2.toNatClampNeg < nl := by
  unfold putC at h
  rw [Bool.and_eq_true] at h
  obtain ⟨h1, h2⟩ := raw_in hn h.1
  exact ⟨h1, h2, wi_cl hl (of_decide_eq_true h.2).1⟩
theorem putK (hs : putS nl lo nb bt v1 v2 v3 r lo2 bt2) (hl : nl < 2 ^ 31) (hn : nb < 2 ^ 31) (hL : ∀ j, j < nl → (lo j).1 = Lf j) (hB : ∀ q, q < nb → bR (bt q) (Cf q) (Mf q) (Hf q) (Sf q)) : r = (if putC nl nb Lf Cf v1 v2 v3 = true then Mf v1.toNatClampNeg + v3 else -1) ∧ (∀ j, j < nl → (lo2 j).1 = (if putC nl nb Lf Cf v1 v2 v3 = true then upd Lf v2.toNatClampNeg (Lf v2.toNatClampNeg - v3) else Lf) j) ∧ (∀ q, q < nb → bR (bt2 q) (Cf q) ((if putC nl nb Lf Cf v1 v2 v3 = true then upd Mf v1.toNatClampNeg (Mf v1.toNatClampNeg + v3) else Mf) q) (Hf q) (Sf q)) := by
  unfold putS at hs
  rw [putC_cg hl hn hL (b5 hB)] at hs
  by_cases h9 : putC nl nb Lf Cf v1 v2 v3 = true
  · rw [if_pos h9] at hs
    rw [if_pos h9, if_pos h9, if_pos h9]
    obtain ⟨g1, g2, g3⟩ := putC_in hl hn h9
    obtain ⟨e1, e2, f, e3, f1, f2, f3, f4⟩ := hs
    obtain ⟨b1, b2⟩ := hB _ g1
    have b3 := b2 g2
    refine ⟨?_, fun j hj => ?_, ?_⟩
    · rw [e1]; show (bt v1.toNatClampNeg).1 2 + v3 = _; rw [b3.1]
    · rw [e2]
      by_cases e : j = v2.toNatClampNeg
      · subst e; rw [va_up_self, pk_us, hL _ g3]
      · rw [va_up_ne lo _ e, pk_un e]; exact hL j hj
    · rw [e3]
      refine bR_up (Cf2 := Cf) (Hf2 := Hf) (Sf2 := Sf) hB (c := Cf v1.toNatClampNeg) (m := Mf v1.toNatClampNeg + v3) (h := Hf v1.toNatClampNeg) (s := Sf v1.toNatClampNeg) ⟨f1.trans b1, fun _ => ⟨?_, f3.trans b3.2.1, f4.trans b3.2.2⟩⟩ (fun q hq => ⟨rfl, pk_un hq, rfl, rfl⟩) ⟨rfl, pk_us, rfl, rfl⟩
      rw [f2]; show (bt v1.toNatClampNeg).1 2 + v3 = _; rw [b3.1]
  · rw [if_neg h9] at hs
    rw [if_neg h9, if_neg h9, if_neg h9]
    obtain ⟨e1, rfl, rfl⟩ := hs
    exact ⟨e1, hL, hB⟩
theorem rowK (hs : rowS nb bt v1 v2 v3 r bt2) (hn : nb < 2 ^ 31) (hB : ∀ q, q < nb → bR (bt q) (Cf q) (Mf q) (Hf q) (Sf q)) : r = (if rowC nb Cf v1 v2 v3 = true then 1 else 0) ∧ (∀ q, q < nb → bR (bt2 q) (Cf q) (Mf q) ((if rowC nb Cf v1 v2 v3 = true then (if v2 = 0 then upd Hf v1.toNatClampNeg v3 else Hf) else Hf) q) ((if rowC nb Cf v1 v2 v3 = true then (if v2 = 0 then Sf else upd Sf v1.toNatClampNeg v3) else Sf) q)) := by
  have hc : rowC nb (bF bt 5) v1 v2 v3 = rowC nb Cf v1 v2 v3 := by
    unfold rowC
    rw [rawA_cg hn (b5 hB)]
  unfold rowS at hs
  rw [hc] at hs
  by_cases h9 : rowC nb Cf v1 v2 v3 = true
  · rw [if_pos h9] at hs
    rw [if_pos h9, if_pos h9, if_pos h9]
    obtain ⟨e1, f, e3, f1, f2, f3, f4⟩ := hs
    have h8 := h9
    unfold rowC at h8
    rw [Bool.and_eq_true] at h8
    obtain ⟨g1, g2⟩ := raw_in hn h8.1
    obtain ⟨b1, b2⟩ := hB _ g1
    have b3 := b2 g2
    refine ⟨e1, ?_⟩
    rw [e3]
    by_cases h0 : v2 = 0
    · rw [if_pos h0] at f3 f4
      rw [if_pos h0, if_pos h0]
      exact bR_up (Cf2 := Cf) (Mf2 := Mf) (Sf2 := Sf) hB (c := Cf v1.toNatClampNeg) (m := Mf v1.toNatClampNeg) (h := v3) (s := Sf v1.toNatClampNeg) ⟨f1.trans b1, fun _ => ⟨f2.trans b3.1, f3, f4.trans b3.2.2⟩⟩ (fun q hq => ⟨rfl, rfl, pk_un hq, rfl⟩) ⟨rfl, rfl, pk_us, rfl⟩
    · rw [if_neg h0] at f3 f4
      rw [if_neg h0, if_neg h0]
      exact bR_up (Cf2 := Cf) (Mf2 := Mf) (Hf2 := Hf) hB (c := Cf v1.toNatClampNeg) (m := Mf v1.toNatClampNeg) (h := Hf v1.toNatClampNeg) (s := v3) ⟨f1.trans b1, fun _ => ⟨f2.trans b3.1, f3.trans b3.2.1, f4⟩⟩ (fun q hq => ⟨rfl, rfl, rfl, pk_un hq⟩) ⟨rfl, rfl, rfl, pk_us⟩
  · rw [if_neg h9] at hs
    rw [if_neg h9, if_neg h9, if_neg h9]
    exact ⟨hs.1, eqF_R hs.2 hB⟩
theorem tkK {k : Nat} {Df : Nat → Int32} (hn : nb < 2 ^ 31) (hB : ∀ q, q < nb → bR (bt q) (Cf q) (Mf q) (Hf q) (Sf q)) (hk : ∀ q, q < nb → Cf q = 0 → (bt q).1 k = Df q) : tkS nb (bF bt 5) (bF bt k) v1 v2 = tkS nb Cf Df v1 v2 := by
  unfold tkS
  rw [rawA_cg hn (b5 hB)]
  by_cases h : rawA nb Cf v1 = true
  · obtain ⟨g1, g2⟩ := raw_in hn h
    rw [show bF bt k v1.toNatClampNeg = Df v1.toNatClampNeg from hk _ g1 g2]
  · rw [Bool.not_eq_true] at h
    rw [h, Bool.false_and, Bool.false_and]
theorem ckC_in (hn : nb < 2 ^ 31) (h : ckC nb Cf Mf v1 v2 = true) : v1.toNatClampNeg < nb ∧ Cf v1.toNatClampNeg = 0 := by
  unfold ckC at h
  rw [Bool.and_eq_true] at h
  exact raw_in hn h.1
theorem ckC_cg (hn : nb < 2 ^ 31) {f g : Nat → Int32} {Af Bf : Nat → Int32} (h5 : ∀ j, j < nb → f j = g j) (hm : ∀ j, j < nb → g j = 0 → Af j = Bf j) : ckC nb f Af v1 v2 = ckC nb g Bf v1 v2 := by
  unfold ckC
  rw [rawA_cg hn h5]
  cases h : rawA nb g v1 with
  | false => rfl
  | true =>
    obtain ⟨g1, g2⟩ := raw_in hn h
    rw [hm _ g1 g2]
theorem ckK (hs : ckS nb bt v1 v2 bt2) (hn : nb < 2 ^ 31) (hB : ∀ q, q < nb → bR (bt q) (Cf q) (Mf q) (Hf q) (Sf q)) (hV : ∀ j, nb ≤ j → Cf j = 0) : (∀ q, q < nb → bR (bt2 q) ((if ckC nb Cf Mf v1 v2 = true then upd Cf v1.toNatClampNeg 1 else Cf) q) (Mf q) (Hf q) (Sf q)) ∧ (∀ j, nb ≤ j → (if ckC nb Cf Mf v1 v2 = true then upd Cf v1.toNatClampNeg 1 else Cf) j = 0) := by
  unfold ckS at hs
  rw [ckC_cg (f := bF bt 5) (g := Cf) (Af := bF bt 2) (Bf := Mf) hn (b5 hB) (fun j hj h0 => ((hB j hj).2 h0).1)] at hs
  by_cases h9 : ckC nb Cf Mf v1 v2 = true
  · rw [if_pos h9] at hs
    rw [if_pos h9]
    obtain ⟨f, e3, f1⟩ := hs
    obtain ⟨g1, g2⟩ := ckC_in hn h9
    refine ⟨?_, fun j hj => by rw [pk_un (by omega)]; exact hV j hj⟩
    rw [e3]
    exact bR_up (Mf2 := Mf) (Hf2 := Hf) (Sf2 := Sf) hB (c := 1) (m := Mf v1.toNatClampNeg) (h := Hf v1.toNatClampNeg) (s := Sf v1.toNatClampNeg) ⟨f1, fun h => absurd h (by decide)⟩ (fun q hq => ⟨pk_un hq, rfl, rfl, rfl⟩) ⟨pk_us, rfl, rfl, rfl⟩
  · rw [if_neg h9] at hs
    rw [if_neg h9]
    subst hs
    exact ⟨hB, hV⟩
theorem vcK (hn : nb < 2 ^ 31) {f g : Nat → Int32} (h : ∀ j, j < nb → f j = g j) : vcS nb f v1 = vcS nb g v1 := by
  unfold vcS
  by_cases h0 : wi v1 0 (nI nb - 1) = 0
  · rw [if_neg (fun h9 => h9.1 h0), if_neg (fun h9 => h9.1 h0)]
  · rw [h _ (wi_cl hn h0)]
theorem lfK (hn : nl < 2 ^ 31) {f g : Nat → Int32} (h : ∀ j, j < nl → f j = g j) : lfS nl f v1 = lfS nl g v1 := by
  unfold lfS
  by_cases h0 : wi v1 0 (nI nl - 1) = 0
  · rw [if_pos h0, if_pos h0]
  · rw [if_neg h0, if_neg h0, h _ (wi_cl hn h0)]
/-! the reference's side -/
theorem batM (hz : ∀ q, nb ≤ q → Af q = 0) (hm : ∀ q, Cf q = 0 → Af q = Mf q) : ∀ q, Cf q = 0 → Af q = (if r = -1 then Mf else upd Mf nb 0) q := fun q h => by
  by_cases h9 : r = -1
  · rw [if_pos h9]; exact hm q h
  · rw [if_neg h9]
    by_cases e : q = nb
    · subst e; rw [pk_us]; exact hz q (Nat.le_refl _)
    · rw [pk_un e]; exact hm q h
theorem putM (hs : mput nl nb Lf Cf Af v1 v2 v3 r Lf2 Mf2) (hl : nl < 2 ^ 31) (hn : nb < 2 ^ 31) (hz : ∀ q, nb ≤ q → Af q = 0) (hm : ∀ q, Cf q = 0 → Af q = Mf q) : r = (if putC nl nb Lf Cf v1 v2 v3 = true then Mf v1.toNatClampNeg + v3 else -1) ∧ Lf2 = (if putC nl nb Lf Cf v1 v2 v3 = true then upd Lf v2.toNatClampNeg (Lf v2.toNatClampNeg - v3) else Lf) ∧ (∀ q, Cf q = 0 → Mf2 q = (if putC nl nb Lf Cf v1 v2 v3 = true then upd Mf v1.toNatClampNeg (Mf v1.toNatClampNeg + v3) else Mf) q) ∧ (∀ q, nb ≤ q → Mf2 q = 0) := by
  unfold mput at hs
  by_cases h9 : putC nl nb Lf Cf v1 v2 v3 = true
  · rw [if_pos h9] at hs
    rw [if_pos h9, if_pos h9, if_pos h9]
    obtain ⟨g1, g2, g3⟩ := putC_in hl hn h9
    obtain ⟨e1, e2, e3⟩ := hs
    refine ⟨by rw [e1, hm _ g2], e2, fun q h => ?_, fun q h => ?_⟩
    · rw [e3]
      by_cases e : q = v1.toNatClampNeg
      · rw [e, pk_us, pk_us, hm _ g2]
      · rw [pk_un e, pk_un e]; exact hm q h
    · rw [e3, pk_un (by omega)]; exact hz q h
  · rw [if_neg h9] at hs
    rw [if_neg h9, if_neg h9, if_neg h9]
    obtain ⟨e1, rfl, rfl⟩ := hs
    exact ⟨e1, rfl, hm, hz⟩
theorem rowM {hl2 sl2 : Nat → Int32} (hs : mrow nb Cf Hf Sf v1 v2 v3 r hl2 sl2) : r = (if rowC nb Cf v1 v2 v3 = true then 1 else 0) ∧ hl2 = (if rowC nb Cf v1 v2 v3 = true then (if v2 = 0 then upd Hf v1.toNatClampNeg v3 else Hf) else Hf) ∧ sl2 = (if rowC nb Cf v1 v2 v3 = true then (if v2 = 0 then Sf else upd Sf v1.toNatClampNeg v3) else Sf) := by
  unfold mrow at hs
  by_cases h9 : rowC nb Cf v1 v2 v3 = true
  · rw [if_pos h9] at hs
    rw [if_pos h9, if_pos h9, if_pos h9]
    exact hs
  · rw [if_neg h9] at hs
    rw [if_neg h9, if_neg h9, if_neg h9]
    exact hs
theorem ckM_ (hs : mck nb Cf Af v1 v2 Cf2 Mf2) (hn : nb < 2 ^ 31) (hz : ∀ q, nb ≤ q → Af q = 0) (hm : ∀ q, Cf q = 0 → Af q = Mf q) : Cf2 = (if ckC nb Cf Mf v1 v2 = true then upd Cf v1.toNatClampNeg 1 else Cf) ∧ (∀ q, Cf2 q = 0 → Mf2 q = Mf q) ∧ (∀ q, nb ≤ q → Mf2 q = 0) := by
  unfold mck at hs
  rw [ckC_cg (f := Cf) (g := Cf) (Af := Af) (Bf := Mf) hn (fun _ _ => rfl) (fun j _ h0 => hm j h0)] at hs
  by_cases h9 : ckC nb Cf Mf v1 v2 = true
  · rw [if_pos h9] at hs
    rw [if_pos h9]
    obtain ⟨g1, g2⟩ := ckC_in hn h9
    obtain ⟨e1, e2⟩ := hs
    refine ⟨e1, fun q h => ?_, fun q h => by rw [e2 q (by omega)]; exact hz q h⟩
    rw [e1] at h
    by_cases e : q = v1.toNatClampNeg
    · rw [e, pk_us] at h; exact absurd h (by decide)
    · rw [pk_un e] at h
      rw [e2 q e]; exact hm q h
  · rw [if_neg h9] at hs
    rw [if_neg h9]
    obtain ⟨rfl, rfl⟩ := hs
    exact ⟨rfl, hm, hz⟩
end SHR

/-! ===== what a batch keeps, over a whole kitchen ===== -/
def xR (g : BatG) (c : Int32) (x : BX) : Prop := xe (xB g) x ∧ (c = 0 → g.1 8 = 0 ∧ g.1 10 = -1 ∧ g.1 11 = -1) ∧ (¬ c = 0 → ¬ g.1 0 = 5 → g.1 2 = x.1 2)
/-- why, cook, cut, said of what is kept -/
def whV (nb : Nat) (Cf : Nat → Int32) (Xf : Nat → BX) (lw6 hi6 : Nat → Int32) (v1 : Int32) : Int32 := if wi v1 0 (nI nb - 1) = 0 then -1 else flt ((Xf v1.toNatClampNeg).1 0) (Cf v1.toNatClampNeg) ((Xf v1.toNatClampNeg).1 6) ((Xf v1.toNatClampNeg).1 8) ((Xf v1.toNatClampNeg).1 10) ((Xf v1.toNatClampNeg).1 11) lw6 hi6
def okV (Cf : Nat → Int32) (Xf : Nat → BX) (lw6 hi6 : Nat → Int32) : Nat → Bool := fun q => decide (flt ((Xf q).1 0) (Cf q) ((Xf q).1 6) ((Xf q).1 8) ((Xf q).1 10) ((Xf q).1 11) lw6 hi6 = 0)
def xCo (tk dn : Nat) (sv gl gh : Int32) (fd lt : Nat → Int32) (rn : Nat) (m : Int32) (x : BX) : BX := xCk (ckL tk dn x.2.1 fd lt rn) (ckN tk dn) (ckG tk dn x.2.1 sv x.2.2 gl gh) (m - ckl m (ckL tk dn x.2.1 fd lt rn)) x
def ckV (v1 v2 : Int32) (Hf Sf Mf : Nat → Int32) (gl gh : Int32) (fd lt : Nat → Int32) (rn : Nat) (Xf : Nat → BX) : BX := xCo v2.toNatClampNeg (mx0 (Hf v1.toNatClampNeg)).toNatClampNeg (mx0 (Sf v1.toNatClampNeg)) gl gh fd lt rn (Mf v1.toNatClampNeg) (Xf v1.toNatClampNeg)
def ckA (nb : Nat) (Cf Mf Hf Sf : Nat → Int32) (gl gh : Int32) (fd lt : Nat → Int32) (rn : Nat) (Xf : Nat → BX) (v1 v2 : Int32) : Int32 := if ckC nb Cf Mf v1 v2 = true then (ckV v1 v2 Hf Sf Mf gl gh fd lt rn Xf).1 2 else -1
def ckF (nb : Nat) (Cf Mf Hf Sf : Nat → Int32) (gl gh : Int32) (fd lt : Nat → Int32) (rn : Nat) (Xf : Nat → BX) (v1 v2 : Int32) : Nat → BX := if ckC nb Cf Mf v1 v2 = true then va_up Xf v1.toNatClampNeg (ckV v1 v2 Hf Sf Mf gl gh fd lt rn Xf) else Xf
def kdV (Xf : Nat → BX) : Nat → Int32 := fun q => (Xf q).1 0
def cuN (Xf : Nat → BX) (np : Nat) (v1 v2 v3 : Int32) : Nat := cutG v2 v3.toNatClampNeg ((Xf v1.toNatClampNeg).1 2) np
def cuC (nb : Nat) (Cf : Nat → Int32) (Xf : Nat → BX) (lw6 hi6 : Nat → Int32) (v1 v2 v3 : Int32) : Bool := cutC nb (okV Cf Xf lw6 hi6) (kdV Xf) v1 v2 v3
def cuA (nb : Nat) (Cf : Nat → Int32) (Xf : Nat → BX) (lw6 hi6 : Nat → Int32) (np : Nat) (v1 v2 v3 : Int32) : Int32 := if cuC nb Cf Xf lw6 hi6 v1 v2 v3 = true then nI (cuN Xf np v1 v2 v3) else -1
def cuP (nb : Nat) (Cf : Nat → Int32) (Xf : Nat → BX) (lw6 hi6 : Nat → Int32) (np : Nat) (v1 v2 v3 : Int32) : Nat := if cuC nb Cf Xf lw6 hi6 v1 v2 v3 = true then np + cuN Xf np v1 v2 v3 else np
def cuF (nb : Nat) (Cf : Nat → Int32) (Xf : Nat → BX) (lw6 hi6 : Nat → Int32) (np : Nat) (v1 v2 v3 : Int32) : Nat → BX := if cuC nb Cf Xf lw6 hi6 v1 v2 v3 = true then va_up Xf v1.toNatClampNeg (xMa (cutS ((Xf v1.toNatClampNeg).1 2) v2 (cuN Xf np v1 v2 v3)) (Xf v1.toNatClampNeg)) else Xf
section XKS
variable {nb nb2 np np2 j rn : Nat} {bt bt2 : Nat → BatG} {Cf Cf2 Mf Hf Sf fd lt lw6 hi6 : Nat → Int32} {Xf : Nat → BX} {v1 v2 v3 r r0 m gl gh : Int32} {F : BX → BX}
theorem eqX_R (h5 : ∀ q, q < nb → bF bt 5 q = Cf q) (he : eqX nb bt bt2) (hX : ∀ q, q < nb → xR (bt q) (Cf q) (Xf q)) : ∀ q, q < nb → xR (bt2 q) (Cf q) (Xf q) := fun q hq => by
  obtain ⟨h1, h2⟩ := he q hq
  obtain ⟨g1, g2, g3⟩ := hX q hq
  refine ⟨xe_tr h1 g1, fun h => ?_, fun h hk => ?_⟩
  · obtain ⟨e8, e10, e11⟩ := g2 h
    exact ⟨h1.2.2.1.trans e8, h1.2.2.2.1.trans e10, h1.2.2.2.2.1.trans e11⟩
  · have hk1 : ¬ (bt q).1 0 = 5 := fun h9 => hk (h1.1.trans h9)
    rw [h2 (fun h9 => h ((h5 q hq).symm.trans h9)) hk1]
    exact g3 h hk1
theorem xU_R (hX : ∀ q, q < nb → xR (bt q) (Cf q) (Xf q)) {x : BX} (hu : xU bt bt2 j (F (xB (bt j))) m) (hF : ∀ y z, xe y z → xe (F y) (F z)) (hx : x = F (Xf j)) (ho : ∀ q, ¬ q = j → Cf2 q = Cf q) (h0 : Cf2 j = 0 → (F (xB (bt j))).1 8 = 0 ∧ (F (xB (bt j))).1 10 = -1 ∧ (F (xB (bt j))).1 11 = -1) (hm : ¬ Cf2 j = 0 → ¬ (F (xB (bt j))).1 0 = 5 → m = (F (Xf j)).1 2) : ∀ q, q < nb → xR (bt2 q) (Cf2 q) (va_up Xf j x q) := fun q hq => by
  subst hx
  obtain ⟨f, rfl, f1, f2⟩ := hu
  by_cases e : q = j
  · subst e
    rw [va_up_self, va_up_self]
    obtain ⟨g1, g2, g3⟩ := hX q hq
    refine ⟨xe_tr f1 (hF _ _ g1), fun h => ?_, fun h hk => ?_⟩
    · obtain ⟨e8, e10, e11⟩ := h0 h
      exact ⟨f1.2.2.1.trans e8, f1.2.2.2.1.trans e10, f1.2.2.2.2.1.trans e11⟩
    · exact f2.trans (hm h (fun h9 => hk (f1.1.trans h9)))
  · rw [va_up_ne bt f e, va_up_ne Xf _ e, ho q e]
    exact hX q hq
def xk5 (F : BX → BX) : Prop := (∀ y z, xe y z → xe (F y) (F z)) ∧ ∀ y, (F y).1 0 = y.1 0 ∧ (F y).1 8 = y.1 8 ∧ (F y).1 10 = y.1 10 ∧ (F y).1 11 = y.1 11 ∧ (F y).1 2 = y.1 2
theorem k5_Row : xk5 (xRow v2) := ⟨fun _ _ h => xe_Row h, fun y => by
  unfold xRow
  by_cases e : v2 = 0
  · rw [if_pos e]; exact ⟨rfl, rfl, rfl, rfl, rfl⟩
  · rw [if_neg e]; exact ⟨rfl, rfl, rfl, rfl, rfl⟩⟩
theorem k5_Tk : xk5 (xTk v2 v3) := ⟨fun _ _ h => xe_Tk h, fun _ => ⟨rfl, rfl, rfl, rfl, rfl⟩⟩
theorem k5_St : xk5 (xSt v2 v3) := ⟨fun _ _ h => xe_St h, fun _ => ⟨rfl, rfl, rfl, rfl, rfl⟩⟩
theorem k5_Vo : xk5 xVo := ⟨fun _ _ h => xe_Vo h, fun _ => ⟨rfl, rfl, rfl, rfl, rfl⟩⟩
theorem xW_K (h5 : ∀ q, q < nb → bF bt 5 q = Cf q) (hX : ∀ q, q < nb → xR (bt q) (Cf q) (Xf q)) (hw : xW r r0 nb bt bt2 v1 F gMa) (hin : ¬ r = r0 → v1.toNatClampNeg < nb) (hF : xk5 F) : ∀ q, q < nb → xR (bt2 q) (Cf q) ((if r = r0 then Xf else va_up Xf v1.toNatClampNeg (F (Xf v1.toNatClampNeg))) q) := by
  unfold xW at hw
  by_cases e : r = r0
  · rw [if_pos e] at hw
    rw [if_pos e]
    exact eqX_R h5 hw hX
  · rw [if_neg e] at hw
    rw [if_neg e]
    obtain ⟨g1, g2, g3⟩ := hX _ (hin e)
    obtain ⟨k0, k8, k10, k11, k2⟩ := hF.2 (xB (bt v1.toNatClampNeg))
    refine xU_R hX hw hF.1 rfl (fun _ _ => rfl) (fun h => ?_) (fun h hk => ?_)
    · rw [k8, k10, k11]; exact g2 h
    · rw [k0] at hk
      rw [(hF.2 (Xf v1.toNatClampNeg)).2.2.2.2]
      exact g3 h hk
theorem xN_K (e2 : nb2 = if r = -1 then nb else nb + 1) (e3 : if r = -1 then bt2 = bt else xU bt bt2 nb (xN v1) 0) (hX : ∀ q, q < nb → xR (bt q) (Cf q) (Xf q)) (hV : ∀ j, nb ≤ j → Cf j = 0) : ∀ q, q < nb2 → xR (bt2 q) (Cf q) ((if r = -1 then Xf else va_up Xf nb (xN v1)) q) := fun q hq => by
  by_cases h9 : r = -1
  · rw [if_pos h9] at e2 e3 ⊢
    subst e2; subst e3
    exact hX q hq
  · rw [if_neg h9] at e2 e3 ⊢
    subst e2
    obtain ⟨f, rfl, f1, f2⟩ := e3
    by_cases e : q = nb
    · subst e
      rw [va_up_self, va_up_self]
      exact ⟨f1, fun _ => ⟨f1.2.2.1, f1.2.2.2.1, f1.2.2.2.2.1⟩, fun h => absurd (hV q (Nat.le_refl _)) h⟩
    · rw [va_up_ne bt f e, va_up_ne Xf _ e]
      exact hX q (by omega)
theorem rowR_in (hn : nb < 2 ^ 31) (hr : r = if rowC nb Cf v1 v2 v3 = true then 1 else 0) (h : ¬ r = 0) : v1.toNatClampNeg < nb ∧ Cf v1.toNatClampNeg = 0 := by
  by_cases h1 : rowC nb Cf v1 v2 v3 = true
  · unfold rowC at h1
    rw [Bool.and_eq_true] at h1
    exact raw_in hn h1.1
  · rw [if_neg h1] at hr; exact absurd hr h
theorem tkS_in {Df : Nat → Int32} (hn : nb < 2 ^ 31) (hr : r = tkS nb Cf Df v1 v2) (h : ¬ r = 0) : v1.toNatClampNeg < nb ∧ Cf v1.toNatClampNeg = 0 := by
  unfold tkS at hr
  by_cases h1 : (rawA nb Cf v1 && decide (¬ wi v2 0 (Df v1.toNatClampNeg - 1) = 0)) = true
  · rw [Bool.and_eq_true] at h1
    exact raw_in hn h1.1
  · rw [if_neg h1] at hr; exact absurd hr h
theorem vcS_in (hn : nb < 2 ^ 31) (hr : r = vcS nb Cf v1) (h : ¬ r = 0) : v1.toNatClampNeg < nb := by
  unfold vcS at hr
  by_cases h1 : ¬ wi v1 0 (nI nb - 1) = 0 ∧ ¬ Cf v1.toNatClampNeg = 0
  · exact wi_cl hn h1.1
  · rw [if_neg h1] at hr; exact absurd hr h
theorem ckX_K (hk : ckX nb bt v1 v2 gl gh fd lt rn r bt2) (hn : nb < 2 ^ 31) (hB : ∀ q, q < nb → bR (bt q) (Cf q) (Mf q) (Hf q) (Sf q)) (hX : ∀ q, q < nb → xR (bt q) (Cf q) (Xf q)) : r = ckA nb Cf Mf Hf Sf gl gh fd lt rn Xf v1 v2 ∧ ∀ q, q < nb → xR (bt2 q) ((if ckC nb Cf Mf v1 v2 = true then upd Cf v1.toNatClampNeg 1 else Cf) q) (ckF nb Cf Mf Hf Sf gl gh fd lt rn Xf v1 v2 q) := by
  unfold ckX at hk
  rw [ckC_cg (f := bF bt 5) (g := Cf) (Af := bF bt 2) (Bf := Mf) hn (b5 hB) (fun j hj h0 => ((hB j hj).2 h0).1)] at hk
  unfold ckA ckF
  by_cases h9 : ckC nb Cf Mf v1 v2 = true
  · rw [if_pos h9] at hk
    rw [if_pos h9, if_pos h9, if_pos h9]
    obtain ⟨g1, g2⟩ := ckC_in hn h9
    obtain ⟨tk, dn, m10, t9, l8, g11, e2, htk, edn, hdn, hok, hu, hr⟩ := hk
    obtain ⟨x1, x2, x3⟩ := hX _ g1
    obtain ⟨a8, a10, a11⟩ := x2 g2
    obtain ⟨b1, b2⟩ := hB _ g1
    obtain ⟨b3, b4, b5⟩ := b2 g2
    obtain ⟨r1, r2, r3⟩ := ckOk_f hok a8 a10 a11
    have ex : (bt v1.toNatClampNeg).2.2 = (Xf v1.toNatClampNeg).2 := x1.2.2.2.2.2
    have etk : v2.toNatClampNeg = tk := by rw [e2]; exact nI_clamp (by omega)
    have ednx : (mx0 (Hf v1.toNatClampNeg)).toNatClampNeg = dn := by rw [← b4, edn]; exact nI_clamp (by omega)
    have eV : ckV v1 v2 Hf Sf Mf gl gh fd lt rn Xf = xCk l8 m10 g11 ((bt v1.toNatClampNeg).1 2 - ckl ((bt v1.toNatClampNeg).1 2) l8) (Xf v1.toNatClampNeg) := by
      unfold ckV xCo
      rw [etk, ednx, ← b3, ← b5, ← ex, ← r1, ← r2, ← r3]
    refine ⟨by rw [eV, hr]; rfl, ?_⟩
    rw [eV]
    refine xU_R (Cf2 := upd Cf v1.toNatClampNeg 1) hX hu (fun _ _ h => xe_Ck h) rfl (fun q hq => pk_un hq) (fun h => ?_) (fun _ _ => rfl)
    rw [pk_us] at h
    exact absurd h (by decide)
  · rw [if_neg h9] at hk
    rw [if_neg h9, if_neg h9, if_neg h9]
    obtain ⟨h1, rfl⟩ := hk
    exact ⟨h1, hX⟩
theorem flt_X (h5 : ∀ q, q < nb → bF bt 5 q = Cf q) (hX : ∀ q, q < nb → xR (bt q) (Cf q) (Xf q)) (hj : j < nb) : flt ((bt j).1 0) ((bt j).1 5) ((bt j).1 6) ((bt j).1 8) ((bt j).1 10) ((bt j).1 11) lw6 hi6 = flt ((Xf j).1 0) (Cf j) ((Xf j).1 6) ((Xf j).1 8) ((Xf j).1 10) ((Xf j).1 11) lw6 hi6 := by
  obtain ⟨⟨x0, x6, x8, x10, x11, -⟩, -, -⟩ := hX j hj
  have y0 : (bt j).1 0 = (Xf j).1 0 := x0
  have y6 : (bt j).1 6 = (Xf j).1 6 := x6
  have y8 : (bt j).1 8 = (Xf j).1 8 := x8
  have y10 : (bt j).1 10 = (Xf j).1 10 := x10
  have y11 : (bt j).1 11 = (Xf j).1 11 := x11
  have y5 : (bt j).1 5 = Cf j := h5 j hj
  rw [y0, y6, y8, y10, y11, y5]
theorem whK (hn : nb < 2 ^ 31) (h5 : ∀ q, q < nb → bF bt 5 q = Cf q) (hX : ∀ q, q < nb → xR (bt q) (Cf q) (Xf q)) : whS nb bt lw6 hi6 v1 = whV nb Cf Xf lw6 hi6 v1 := by
  unfold whS whV
  by_cases h0 : wi v1 0 (nI nb - 1) = 0
  · rw [if_pos h0, if_pos h0]
  · rw [if_neg h0, if_neg h0, flt_X h5 hX (wi_cl hn h0)]
theorem cutC_cg {ok ok2 : Nat → Bool} {Kf Kf2 : Nat → Int32} (hn : nb < 2 ^ 31) (h1 : ∀ q, q < nb → ok q = ok2 q) (h2 : ∀ q, q < nb → Kf q = Kf2 q) : cutC nb ok Kf v1 v2 v3 = cutC nb ok2 Kf2 v1 v2 v3 := by
  by_cases h0 : wi v1 0 (nI nb - 1) = 0
  · rw [cutC_w1 h0, cutC_w1 h0]
  · have h3 := wi_cl hn h0
    unfold cutC
    rw [h1 _ h3, h2 _ h3]
theorem cutC_in {ok : Nat → Bool} {Kf : Nat → Int32} (hn : nb < 2 ^ 31) (h : cutC nb ok Kf v1 v2 v3 = true) : v1.toNatClampNeg < nb ∧ ok v1.toNatClampNeg = true ∧ (Kf v1.toNatClampNeg = 3 ∨ Kf v1.toNatClampNeg = 4) := by
  unfold cutC at h
  rw [Bool.and_eq_true, Bool.and_eq_true, Bool.and_eq_true] at h
  exact ⟨wi_cl hn (of_decide_eq_true h.1), h.2.1, of_decide_eq_true h.2.2.1⟩
theorem okV_c {q : Nat} (h : okV Cf Xf lw6 hi6 q = true) : ¬ Cf q = 0 := fun h5 => by
  have h1 := of_decide_eq_true h
  unfold flt at h1
  rw [if_pos h5] at h1
  exact absurd h1 (by decide)
theorem k34 {v : Int32} (h : v = 3 ∨ v = 4) : ¬ v = 5 := fun e => by
  subst e
  rcases h with h | h <;> exact absurd h (by decide)
theorem cutK (hk : cutX nb np bt lw6 hi6 v1 v2 v3 r bt2 np2) (hn : nb < 2 ^ 31) (h5 : ∀ q, q < nb → bF bt 5 q = Cf q) (hX : ∀ q, q < nb → xR (bt q) (Cf q) (Xf q)) : r = cuA nb Cf Xf lw6 hi6 np v1 v2 v3 ∧ np2 = cuP nb Cf Xf lw6 hi6 np v1 v2 v3 ∧ ∀ q, q < nb → xR (bt2 q) (Cf q) (cuF nb Cf Xf lw6 hi6 np v1 v2 v3 q) := by
  have hc : cutC nb (okG bt lw6 hi6) (bF bt 0) v1 v2 v3 = cuC nb Cf Xf lw6 hi6 v1 v2 v3 := cutC_cg hn (fun q hq => by unfold okG okV; rw [flt_X h5 hX hq]) (fun q hq => (hX q hq).1.1)
  unfold cutX at hk
  rw [hc] at hk
  unfold cuA cuP cuF
  by_cases h9 : cuC nb Cf Xf lw6 hi6 v1 v2 v3 = true
  · rw [if_pos h9] at hk
    rw [if_pos h9, if_pos h9, if_pos h9]
    obtain ⟨g1, g2, g3⟩ := cutC_in hn h9
    obtain ⟨x1, x2, x3⟩ := hX _ g1
    have hc0 := okV_c g2
    have hk5 : ¬ (bt v1.toNatClampNeg).1 0 = 5 := fun h8 => k34 g3 (x1.1.symm.trans h8)
    have em : bF bt 2 v1.toNatClampNeg = (Xf v1.toNatClampNeg).1 2 := x3 hc0 hk5
    rw [em] at hk
    obtain ⟨e1, e2, hu⟩ := hk
    refine ⟨e1, e2, ?_⟩
    exact xU_R (F := xMa (cutS ((Xf v1.toNatClampNeg).1 2) v2 (cuN Xf np v1 v2 v3))) (Cf2 := Cf) hX hu (fun _ _ h => xe_Ma h) rfl (fun _ _ => rfl) (fun h => absurd h hc0) (fun _ _ => rfl)
  · rw [if_neg h9] at hk
    rw [if_neg h9, if_neg h9, if_neg h9]
    obtain ⟨h1, rfl, h2⟩ := hk
    exact ⟨h1, h2, hX⟩
end XKS
theorem tb_l {r : Int32} {n n2 : Nat} {f f2 g g2 k k2 : Nat → Int32} (h : if r = -1 then n2 = n ∧ f2 = f ∧ g2 = g else n2 = n + 1 ∧ f2 = k ∧ g2 = k2) : g2 = (if r = -1 then g else k2) := by
  by_cases h9 : r = -1
  · rw [if_pos h9] at h
    rw [if_pos h9]
    exact h.2.2
  · rw [if_neg h9] at h
    rw [if_neg h9]
    exact h.2.2

/-! the queue's kinds -/
theorem spQ_in {nb qm : Nat} {qd : Nat → Int32} {v r : Int32} (hr : r = spQ nb qm qd v) (r0 : ¬ r = 0) (r1 : ¬ r = -1) (hn : nb < 2 ^ 31) : ∃ j, j < nb ∧ v = nI j := by
  unfold spQ at hr
  by_cases h1 : v = -1
  · rw [if_pos h1] at hr; exact absurd hr r0
  · by_cases h2 : wi v 0 (nI nb - 1) = 0
    · rw [if_neg h1, if_pos h2] at hr; exact absurd hr r1
    · exact wi_cnt hn h2
theorem qu_x {nb qm : Nat} {qd kd kd2 : Nat → Int32} {v r : Int32} {bt : Nat → BatG} {Cf : Nat → Int32} {Xf : Nat → BX} (hr : r = spQ nb qm qd v) (hn : nb < 2 ^ 31) (hX : ∀ j, j < nb → xR (bt j) (Cf j) (Xf j)) (e : kd2 = qF r qm kd ((bt v.toNatClampNeg).1 0)) : kd2 = qF r qm kd ((Xf v.toNatClampNeg).1 0) := by
  by_cases r0 : r = 0 ∨ r = -1
  · rw [e]
    unfold qF
    rw [if_pos r0, if_pos r0]
  · obtain ⟨j, hj, ev⟩ := spQ_in hr (fun h9 => r0 (Or.inl h9)) (fun h9 => r0 (Or.inr h9)) hn
    have h1 : (bt v.toNatClampNeg).1 0 = (Xf v.toNatClampNeg).1 0 := by
      rw [ev, nI_clamp (by omega)]
      exact (hX j hj).1.1
    rw [e, h1]
theorem kq_b {mb mb2 mq : Nat} {K K2 Q kd : Nat → Int32} {r v1 : Int32} {P1 P3 : Prop} (h : ∀ i, i < mq → ∃ q : Nat, q < mb ∧ Q i = nI q ∧ K q = kd i) (e2 : mb2 = if r = -1 then mb else mb + 1) (e : if r = -1 then K2 = K ∧ P1 else K2 = upd K mb v1 ∧ P3) : ∀ i, i < mq → ∃ q : Nat, q < mb2 ∧ Q i = nI q ∧ K2 q = kd i := fun i hi => by
  obtain ⟨q, h1, h2, h3⟩ := h i hi
  by_cases er : r = -1
  · rw [if_pos er] at e e2
    rw [e2, e.1]
    exact ⟨q, h1, h2, h3⟩
  · rw [if_neg er] at e e2
    rw [e2, e.1]
    exact ⟨q, by omega, h2, by rw [pk_un (by omega)]; exact h3⟩
theorem kq_q {mb mq mq2 : Nat} {K Q Q2 kd : Nat → Int32} {r v : Int32} {Xf : Nat → BX} (h : ∀ i, i < mq → ∃ q : Nat, q < mb ∧ Q i = nI q ∧ K q = kd i) (hr : r = spQ mb mq Q v) (e2 : mq2 = qN r mq) (e3 : Q2 = qF r mq Q v) (hX : ∀ q, q < mb → K q = (Xf q).1 0) (hn : mb < 2 ^ 31) : ∀ i, i < mq2 → ∃ q : Nat, q < mb ∧ Q2 i = nI q ∧ K q = qF r mq kd ((Xf v.toNatClampNeg).1 0) i := fun i hi => by
  unfold qN at e2
  unfold qF at e3
  unfold qF
  by_cases r0 : r = 0
  · rw [if_pos r0] at e2; omega
  · by_cases r1 : r = -1
    · rw [if_neg r0, if_pos r1] at e2
      rw [if_pos (Or.inr r1)] at e3
      rw [if_pos (Or.inr r1), e3]
      exact h i (by omega)
    · obtain ⟨j, hj, ev⟩ := spQ_in hr r0 r1 hn
      have hx : ¬ (r = 0 ∨ r = -1) := fun h9 => h9.elim r0 r1
      rw [if_neg r0, if_neg r1] at e2
      rw [if_neg hx] at e3
      rw [if_neg hx, e3]
      by_cases e : i = mq
      · subst e
        rw [pk_us, pk_us]
        refine ⟨j, hj, ev, ?_⟩
        rw [ev, nI_clamp (by omega)]
        exact hX j hj
      · rw [pk_un e, pk_un e]
        exact h i (by omega)

/-- a kitchen whole: what it keeps, and its cells; g arrays were made for parting; nl lots, nb batches, rn rows from the degrees fd -/
def kOK (ca : Nat → ClassId) (x g : Nat) (nl : Nat) (nb : Nat) (rn : Nat) (fd : Nat → Int32) (Lf : Nat → Int32) (Cf : Nat → Int32) (Mf : Nat → Int32) (Hf : Nat → Int32) (Sf : Nat → Int32) (qm : Nat) (qd : Nat → Int32) (lt : Nat → Int32) (gl : Int32) (gh : Int32) (lw6 : Nat → Int32) (hi6 : Nat → Int32) (np : Nat) (Xf : Nat → BX) (ws : Nat → Int32) (kd : Nat → Int32) (w : va_W) : Prop := ∀ C_ : va_W → Prop, (∀ (a : Nat → Nat) (la : Nat → Nat) (lo : Nat → Int32 × Int32) (ba : Nat → Nat → Nat) (bt : Nat → BatG) (pa : Nat → Nat) (pc : Nat → PieG) (nx : Nat) (xa : Nat → Nat → Nat) (bx : Nat → BoxG) (tr : Nat → Int32) (tt : Nat → Int32) (f0 : Nat) (f1 : Nat) (f5 : Nat) (f6 : Nat) (t0 : Int32) (t1 : Int32) (t2 : Int32) (t3 : Int32) (t4 : Int32) (t5 : Int32) (g0 : Nat) (g1 : Nat) (g2 : Nat) (g4 : Nat) (g8 : Nat) (g9 : Nat) (g10 : Nat) (g11 : Nat) (om : Int32) (ekn : Int32) (ekl : Int32) (lst : Option Nat) (LE : Nat → Int32) (od : Nat → Int32) (us : Nat → Int32) (ct : Nat → Int32) (sd : Nat → Int32) (wt : Nat → Int32) (s0 : Nat) (s1 : Nat) (s2 : Nat) (cm : Nat) (wd : Int32) (sm : Option Nat) (SM : Nat → Int64) (sp : Nat → Int32) (wg : Nat → Int32) (cz : Nat → Int32) (pwa : Nat) (pm : Nat) (lw : Int32) (hg : Int32) (kn : Option Nat) (kl : Nat) (KN : Nat → Int32) (pw : Nat → Int32), (kI nl lo nb bt np pc nx bx) → (chI cm sp wg) → (qI qm kd) → (rn ≤ 16) → (kl ≤ 16384) → (grI kn kl g) → (∀ j, j < nl → (lo j).1 = Lf j) → (∀ j, j < nb → bR (bt j) (Cf j) (Mf j) (Hf j) (Sf j)) → (∀ j, nb ≤ j → Cf j = 0) → (∀ j, j < nb → xR (bt j) (Cf j) (Xf j)) → (∀ j, cnt (ws j) 600) → (¬ ekn = 0 → oq_kn ws qd kd qm ekl om od) → C_ (@HAppend.hAppend va_W va_W va_W _ [(x, .inr (10, [.ref (a 0), .int (nI nl), .ref (a 2), .int (nI nb), .ref (a 4), .int (nI np), .ref (a 6), .int (nI nx), .ref (a 8), .ref (a 9), .ref (a 10), .ref (a 11), .ref (a 12), .ref (a 13), .ref (a 14)])), ((a 0), .inl (ca 5, 40, .inr (.inr (.inr (.inr (rA nl la)))))), ((a 2), .inl (ca 6, 40, .inr (.inr (.inr (.inr (rA nb (bA0 ba))))))), ((a 4), .inl (ca 7, 600, .inr (.inr (.inr (.inr (rA np pa)))))), ((a 6), .inl (ca 8, 200, .inr (.inr (.inr (.inr (rA nx (bA0 xa))))))), ((a 8), .inl (ca 0, 144, .inl tr)), ((a 9), .inl (ca 0, 144, .inl tt)), ((a 10), .inr (8, [.ref f0, .ref f1, .int (nI rn), .int gl, .int gh, .ref f5, .ref f6])), (f0, .inl (ca 0, 16, .inl fd)), (f1, .inl (ca 0, 16, .inl lt)), (f5, .inl (ca 0, 6, .inl lw6)), (f6, .inl (ca 0, 6, .inl hi6)), ((a 11), .inr (9, [.int t0, .int t1, .int t2, .int t3, .int t4, .int t5])), ((a 12), .inr (3, [.ref g0, .ref g1, .ref g2, .int (nI qm), .ref g4, .int om, .int ekn, .int ekl, .ref g8, .ref g9, .ref g10, .ref g11, va_rf lst])), (g0, .inl (ca 0, 36, .inl ws)), (g1, .inl (ca 0, 10, .inl qd)), (g2, .inl (ca 0, 10, .inl kd)), (g4, .inl (ca 0, 10, .inl od)), (g8, .inl (ca 1, 10, .inl us)), (g9, .inl (ca 0, 6, .inl ct)), (g10, .inl (ca 0, 6, .inl sd)), (g11, .inl (ca 0, 6, .inl wt)), ((a 13), .inr (2, [.ref s0, .ref s1, .ref s2, .int (nI cm), va_rf sm, .int wd])), (s0, .inl (ca 0, 40, .inl sp)), (s1, .inl (ca 0, 40, .inl wg)), (s2, .inl (ca 1, 40, .inl cz)), ((a 14), .inr (5, [.ref pwa, .int (nI pm), .int lw, .int hg, va_rf kn])), (pwa, .inl (ca 0, 14, .inl pw))] (@HAppend.hAppend va_W va_W va_W _ (oL ca lst LE) (@HAppend.hAppend va_W va_W va_W _ (oS ca sm SM) (@HAppend.hAppend va_W va_W va_W _ (oK ca kn kl KN) (pool ca (List.range nl) la lo (List.range nb) ba bt (List.range np) pa pc (List.range nx) xa bx)))))) → C_ w

theorem kOK_x {ca : Nat → ClassId} {x g : Nat} {nl : Nat} {nb : Nat} {rn : Nat} {fd : Nat → Int32} {Lf : Nat → Int32} {Cf : Nat → Int32} {Mf : Nat → Int32} {Hf : Nat → Int32} {Sf : Nat → Int32} {qm : Nat} {qd : Nat → Int32} {lt : Nat → Int32} {gl : Int32} {gh : Int32} {lw6 : Nat → Int32} {hi6 : Nat → Int32} {np : Nat} {Xf : Nat → BX} {ws : Nat → Int32} {kd : Nat → Int32} {w : va_W} (h : kOK ca x g nl nb rn fd Lf Cf Mf Hf Sf qm qd lt gl gh lw6 hi6 np Xf ws kd w) : ∃ fs, w[0]? = some (x, .inr (10, fs)) := h (fun w => ∃ fs, w[0]? = some (x, .inr (10, fs))) (fun a la lo ba bt pa pc nx xa bx tr tt f0 f1 f5 f6 t0 t1 t2 t3 t4 t5 g0 g1 g2 g4 g8 g9 g10 g11 om ekn ekl lst LE od us ct sd wt s0 s1 s2 cm wd sm SM sp wg cz pwa pm lw hg kn kl KN pw hQ hc0 hq hls hkx hg_ hL_ hB_ hV_ hX_ hws hkn => ⟨_, rfl⟩)
theorem kOK_g {ca : Nat → ClassId} {x g : Nat} {nl : Nat} {nb : Nat} {rn : Nat} {fd : Nat → Int32} {Lf : Nat → Int32} {Cf : Nat → Int32} {Mf : Nat → Int32} {Hf : Nat → Int32} {Sf : Nat → Int32} {qm : Nat} {qd : Nat → Int32} {lt : Nat → Int32} {gl : Int32} {gh : Int32} {lw6 : Nat → Int32} {hi6 : Nat → Int32} {np : Nat} {Xf : Nat → BX} {ws : Nat → Int32} {kd : Nat → Int32} {w : va_W} (h : kOK ca x g nl nb rn fd Lf Cf Mf Hf Sf qm qd lt gl gh lw6 hi6 np Xf ws kd w) : g ≤ 15 := h (fun _ => g ≤ 15) (fun a la lo ba bt pa pc nx xa bx tr tt f0 f1 f5 f6 t0 t1 t2 t3 t4 t5 g0 g1 g2 g4 g8 g9 g10 g11 om ekn ekl lst LE od us ct sd wt s0 s1 s2 cm wd sm SM sp wg cz pwa pm lw hg kn kl KN pw hQ hc0 hq hls hkx hg_ hL_ hB_ hV_ hX_ hws hkn => grI_le hg_)
