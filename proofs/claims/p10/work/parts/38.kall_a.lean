/-! ===== contracts over a whole object's world ===== -/
section MFR
variable {l : Launch} {y : MethodName} {ws : List Cond} {rm : Room} {Pc Pc' : Array Value → State → Prop} {Qc Qc' : Array Value → State → Outcome → State → Prop} {mc ms : Nat} {free free' : Addr → Prop}
theorem Met.cq (h : Met l y ws rm Pc Qc mc ms free) (h1 : ∀ a s, Pc' a s → Pc a s) (h2 : ∀ a s o t, Pc' a s → Qc a s o t → Qc' a s o t) (h3 : ∀ q, free q → free' q) : Met l y ws rm Pc' Qc' mc ms free' := by
  intro p e ha hc hk s m args below hf happ hP hK
  obtain ⟨n, o, g1, g2, g3, g4, L, g5, g6⟩ := h p e ha hc hk s m args below hf happ (h1 _ _ hP) hK
  exact ⟨n, o, g1, g2, g3, h2 _ _ _ _ hP g4, L, g5, fun q hq => h3 _ (g6 q hq)⟩
theorem MetD.cq {cs : List Choice} (h : MetD cs l y ws rm Pc Qc mc ms free) (h1 : ∀ a s, Pc' a s → Pc a s) (h2 : ∀ a s d o t, Pc' a s → Qc a (s.setDrawn d) o t → Qc' a (s.setDrawn d) o t) (h3 : ∀ q, free q → free' q) : MetD cs l y ws rm Pc' Qc' mc ms free' := by
  intro p e ha hc hk s m args below hf happ hP hK
  obtain ⟨n, o, g1, g2, g3, d, hd, g4, L, g5, g6⟩ := h p e ha hc hk s m args below hf happ (h1 _ _ hP) hK
  exact ⟨n, o, g1, g2, g3, d, hd, h2 _ _ _ _ _ hP g4, L, g5, fun q hq => h3 _ (g6 q hq)⟩
end MFR
theorem w_left {D : va_G} {cl : List vw_C} {a b : va_W} {H : Heap} (h : va_P D cl (a ++ b) H) : va_P D cl a H := fun k q hk => h k q (by rw [List.getElem?_append_left (List.getElem?_eq_some_iff.mp hk).1]; exact hk)
theorem w_right {D : va_G} {cl : List vw_C} {a b : va_W} {H : Heap} (h : va_P D cl (a ++ b) H) : va_P D cl b H := fun k q hk => h (a.length + k) q (by rw [List.getElem?_append_right (by omega), Nat.add_sub_cancel_left]; exact hk)
theorem d_left {A : Nat → Prop} {a b : va_W} (h : va_D A (a ++ b)) : va_D A a := ⟨fun i j p q hi hj e => h.1 i j p q (by rw [List.getElem?_append_left (List.getElem?_eq_some_iff.mp hi).1]; exact hi) (by rw [List.getElem?_append_left (List.getElem?_eq_some_iff.mp hj).1]; exact hj) e, fun k q hk => h.2 k q (by rw [List.getElem?_append_left (List.getElem?_eq_some_iff.mp hk).1]; exact hk)⟩
theorem d_right {A : Nat → Prop} {a b : va_W} (h : va_D A (a ++ b)) : va_D A b := d_left (h.perm List.perm_append_comm)
theorem a_sub {w w2 : va_W} {sz : Nat} (h : ∀ q ∈ w, q ∈ w2) (q : Nat) (hq : va_A w sz q) : va_A w2 sz q := by
  rcases hq with ⟨k, e, hk⟩ | hq
  · obtain ⟨i, hi⟩ := List.getElem?_of_mem (h _ (List.mem_of_getElem? hk))
    exact Or.inl ⟨i, e, hi⟩
  · exact Or.inr hq
/-- what stands beside a callee's world stays as it is -/
theorem frm {A0 : Nat → Prop} {D : va_G} {cl : List vw_C} {wc wr w1 : va_W} {H H1 : Heap} (hP : va_P D cl (wc ++ wr) H) (hD : va_D A0 (wc ++ wr))
    (hk : ∀ q : Nat, q < H.size → ¬ va_A wc H.size q → H1[q]? = H[q]?) (hF : ∀ q, va_A wc H.size q → A0 q) (hP1 : va_P D cl w1 H1) (hD1 : va_D (va_A wc H.size) w1) : va_P D cl (w1 ++ wr) H1 ∧ va_D A0 (w1 ++ wr) := by
  have at_ : ∀ (k : Nat) (q : Nat × va_E), wr[k]? = some q → (wc ++ wr)[wc.length + k]? = some q := fun k q h => by
    rw [List.getElem?_append_right (by omega), Nat.add_sub_cancel_left]; exact h
  have apart : ∀ (k : Nat) (q : Nat × va_E), wr[k]? = some q → q.1 < H.size ∧ ¬ va_A wc H.size q.1 := by
    intro k q hq
    have h2 := at_ k q hq
    have hl := (hP _ q h2).lt
    refine ⟨hl, fun h => ?_⟩
    rcases h with ⟨k2, e, h⟩ | h
    · have h3 : (wc ++ wr)[k2]? = some (q.1, e) := by rw [List.getElem?_append_left (List.getElem?_eq_some_iff.mp h).1]; exact h
      have h4 := hD.1 _ _ _ _ h2 h3 rfl
      have h5 := (List.getElem?_eq_some_iff.mp h).1
      omega
    · omega
  refine ⟨va_P.app hP1 (fun k q hq => ?_), va_D.app (hD1.weaken (fun k q _ h => hF q.1 h)) (d_right hD) (fun i j x y hx hy hxy => ?_)⟩
  · obtain ⟨g1, g2⟩ := apart k q hq
    exact (hP _ q (at_ k q hq)).kept (hk q.1 g1 g2)
  · exact (apart j y hy).2 (by rw [← hxy]; exact hD1.2 i x hx)
section MFW
variable {l : Launch} {y : MethodName} {ws : List Cond} {rm : Room} {mc ms sz : Nat} {D : va_G} {wc wr w : va_W} {tys : List (ClassId × FieldType)} {av : List Value}
/-- the world that a whole object's method leaves -/
abbrev wB (D : va_G) (w : va_W) (sz : Nat) : va_W → State → Prop := fun w' t => va_P D vwCl w' t.heap ∧ va_D (va_A w sz) w'
theorem frm_q {s t : State} {w1 w' : va_W} (hp : w.Perm (wc ++ wr)) (hsz : s.heap.size = sz) (hP : va_P D vwCl w s.heap) (hD : va_D (fun _ => True) w) (hP1 : va_P D vwCl w1 t.heap) (hD1 : va_D (va_A wc sz) w1) (hF : va_F (va_A wc sz) s t) (hw : w'.Perm (w1 ++ wr)) : wB D w sz w' t ∧ va_F (va_A w sz) s t := by
  subst hsz
  have hs : ∀ q, va_A wc s.heap.size q → va_A w s.heap.size q := a_sub (fun q hq => hp.mem_iff.mpr (List.mem_append_left _ hq))
  obtain ⟨h1, h2⟩ := frm (A0 := va_A w s.heap.size) (hP.perm hp) ((hD.self (sz := s.heap.size)).perm hp) hF.2 hs hP1 hD1
  exact ⟨⟨h1.perm hw.symm, h2.perm hw.symm⟩, hF.1, fun q g1 g2 => hF.2 q g1 (fun g3 => g2 (hs q g3))⟩
theorem mfr_i {S : Type} {post : Int32 → S → Prop} {W1 : S → va_W} (hM : Met l y ws rm (va_Pc av (pr D sz wc tys)) (va_Qi post (fun u t => va_P D vwCl (W1 u) t.heap ∧ va_D (va_A wc sz) (W1 u)) (va_A wc sz)) mc ms (va_A wc sz)) (hp : w.Perm (wc ++ wr)) (K : Int32 → va_W → Prop) (hk : ∀ r u, post r u → ∃ w', w'.Perm (W1 u ++ wr) ∧ K r w') :
    Met l y ws rm (va_Pc av (pr D sz w tys)) (va_Qi K (wB D w sz) (va_A w sz)) mc ms (va_A w sz) := by
  refine Met.cq hM (fun a s h => ⟨h.1, h.2.1, w_left (h.2.2.1.perm hp), h.2.2.2.1, d_left (h.2.2.2.2.1.perm hp), h.2.2.2.2.2⟩) (fun a s o t h q => ?_) (a_sub (fun q hq => hp.mem_iff.mpr (List.mem_append_left _ hq)))
  obtain ⟨⟨r, u, ho, hpo, hP1, hD1⟩, hF⟩ := q
  obtain ⟨w', hw, hK⟩ := hk r u hpo
  obtain ⟨g1, g2⟩ := frm_q hp h.2.1 h.2.2.1 h.2.2.2.2.1 hP1 hD1 hF hw
  exact ⟨⟨r, w', ho, hK, g1⟩, g2⟩
theorem mfr_p {post : Int32 → Prop} (hM : Met l y ws rm (va_Pc av (pu D wc tys)) (vp_Si post) mc ms (fun _ => False)) (hp : w.Perm (wc ++ wr)) (K : Int32 → va_W → Prop) (hk : ∀ r, post r → K r w) :
    Met l y ws rm (va_Pc av (pr D sz w tys)) (va_Qi K (wB D w sz) (va_A w sz)) mc ms (va_A w sz) := by
  refine Met.cq hM (fun a s h => ⟨h.1, w_left (h.2.2.1.perm hp), h.2.2.2.1, h.2.2.2.2.2⟩) (fun a s o t h q => ?_) (fun q h => h.elim)
  obtain ⟨r, ho, hpo, hh⟩ := q
  exact ⟨⟨r, w, ho, hk r hpo, by rw [hh]; exact h.2.2.1, h.2.2.2.2.1.self⟩, by rw [hh]; exact Nat.le_refl _, fun q _ _ => by rw [hh]⟩
theorem mfrD_i {cs : List Choice} {S : Type} {post : Int32 → S → Prop} {W1 : S → va_W} (hM : MetD cs l y ws rm (va_Pc av (pr D sz wc tys)) (va_Qi post (fun u t => va_P D vwCl (W1 u) t.heap ∧ va_D (va_A wc sz) (W1 u)) (va_A wc sz)) mc ms (va_A wc sz)) (hp : w.Perm (wc ++ wr)) (K : Int32 → va_W → Prop) (hk : ∀ r u, post r u → ∃ w', w'.Perm (W1 u ++ wr) ∧ K r w') :
    MetD cs l y ws rm (va_Pc av (pr D sz w tys)) (va_Qi K (wB D w sz) (va_A w sz)) mc ms (va_A w sz) := by
  refine MetD.cq hM (fun a s h => ⟨h.1, h.2.1, w_left (h.2.2.1.perm hp), h.2.2.2.1, d_left (h.2.2.2.2.1.perm hp), h.2.2.2.2.2⟩) (fun a s d o t h q => ?_) (a_sub (fun q hq => hp.mem_iff.mpr (List.mem_append_left _ hq)))
  obtain ⟨⟨r, u, ho, hpo, hP1, hD1⟩, hF⟩ := q
  obtain ⟨w', hw, hK⟩ := hk r u hpo
  obtain ⟨g1, g2⟩ := frm_q (s := s.setDrawn d) hp h.2.1 h.2.2.1 h.2.2.2.2.1 hP1 hD1 hF hw
  exact ⟨⟨r, w', ho, hK, g1⟩, g2⟩
end MFW
theorem ix_all {α : Type} (X : List α) : (List.range X.length).map (fun i => X[i]?) = X.map some := by
  apply List.ext_getElem?
  intro i
  rw [List.getElem?_map, List.getElem?_map]
  rcases Nat.lt_or_ge i X.length with h | h
  · rw [List.getElem?_range h, List.getElem?_eq_getElem h]
    show some X[i]? = some (some X[i])
    rw [List.getElem?_eq_getElem h]
  · rw [List.getElem?_eq_none (by rw [List.length_range]; exact h), List.getElem?_eq_none h]
    rfl
theorem perm_ix {α : Type} {X Y : List α} {n : Nat} (is : List Nat) (hs : is.Perm (List.range n)) (hn : X.length = n) (h : is.map (fun i => X[i]?) = Y.map some) : X.Perm Y := by
  subst hn
  have h1 := hs.map (fun i => X[i]?)
  rw [h, ix_all] at h1
  have h2 := h1.filterMap id
  rw [List.filterMap_map, List.filterMap_map] at h2
  have e : ∀ Z : List α, Z.filterMap (id ∘ some) = Z := fun Z => by
    show Z.filterMap some = Z
    exact List.filterMap_some
  rw [e, e] at h2
  exact h2.symm
section KPS
variable {X cX wX A T a b c P : va_W}
theorem kp_N (h : X.Perm (cX ++ wX)) : (X ++ T).Perm (cX ++ (wX ++ T)) := by
  rw [← List.append_assoc]; exact h.append_right T
theorem kp_T (h : X.Perm (cX ++ wX)) : (X ++ (A ++ T)).Perm ((cX ++ T) ++ (wX ++ A)) := by
  refine (h.append_right _).trans ?_
  rw [List.append_assoc, List.append_assoc]
  refine List.Perm.append_left cX ?_
  rw [← List.append_assoc]
  exact List.perm_append_comm
theorem kp_P (h : X.Perm (cX ++ wX)) : (X ++ (a ++ (b ++ (c ++ P)))).Perm ((cX ++ P) ++ (wX ++ (a ++ (b ++ c)))) := by
  have e : a ++ (b ++ (c ++ P)) = (a ++ (b ++ c)) ++ P := by simp only [List.append_assoc]
  rw [e]
  exact kp_T h
theorem kp_A (h : X.Perm (cX ++ wX)) : (X ++ T).Perm ((cX ++ T) ++ wX) := by
  refine (h.append_right _).trans ?_
  rw [List.append_assoc, List.append_assoc]
  exact List.Perm.append_left cX List.perm_append_comm
end KPS
def grI (kn : Option Nat) (kl g : Nat) : Prop := (kn.isNone = true → g = 0) ∧ (kn.isNone = false → ∃ j : Nat, j ≤ 14 ∧ kl = 2 ^ j ∧ g ≤ j + 1)
theorem grI_w {kn kn2 : Option Nat} {kl kl2 g M : Nat} (h : grI kn kl g) (hM : M ≤ 1) (hw : wP kn kn2 kl kl2 M) : grI kn2 kl2 (g + M) := by
  rcases Nat.eq_zero_or_pos M with h0 | h0
  · obtain ⟨e1, e2⟩ := hw.2.1 h0
    subst h0
    unfold grI
    rw [e1, e2]
    exact h
  · have h1 : M = 1 := by omega
    subst h1
    obtain ⟨e1, e2, j, hj, e3⟩ := hw.2.2 rfl
    refine ⟨fun h9 => absurd (e1.symm.trans h9) (by decide), fun _ => ⟨j, hj, e3, ?_⟩⟩
    cases hn : kn.isNone with
    | true => rw [h.1 hn]; omega
    | false =>
      obtain ⟨i, hi, e4, hg⟩ := h.2 hn
      have h2 : kl < kl2 := e2.resolve_left (by rw [hn]; decide)
      rw [e3, e4] at h2
      have h3 := (Nat.pow_lt_pow_iff_right (a := 2) (by decide)).mp h2
      omega
theorem grI_le {kn : Option Nat} {kl g : Nat} (h : grI kn kl g) : g ≤ 15 := by
  cases hn : kn.isNone with
  | true => rw [h.1 hn]; omega
  | false =>
    obtain ⟨i, hi, e4, hg⟩ := h.2 hn
    omega
theorem rA_0 (f : Nat → Nat) : rA 0 f = fun _ => none := funext fun j => by unfold rA; rw [if_neg (Nat.not_lt_zero j)]
theorem tb_e {r : Int32} {n n2 : Nat} {f f2 g g2 k k2 : Nat → Int32} (h : if r = -1 then n2 = n ∧ f2 = f ∧ g2 = g else n2 = n + 1 ∧ f2 = k ∧ g2 = k2) : n2 = (if r = -1 then n else n + 1) ∧ f2 = (if r = -1 then f else k) := by
  by_cases h9 : r = -1
  · rw [if_pos h9] at h
    rw [if_pos h9, if_pos h9]
    exact ⟨h.1, h.2.1⟩
  · rw [if_neg h9] at h
    rw [if_neg h9, if_neg h9]
    exact ⟨h.1, h.2.1⟩

/-- a kitchen whole: what it keeps, and its cells; g arrays were made for parting; nl lots, nb batches, rn rows from the degrees fd -/
def kOK (ca : Nat → ClassId) (x g : Nat) (nl : Nat) (nb : Nat) (rn : Nat) (fd : Nat → Int32) (w : va_W) : Prop := ∀ C_ : va_W → Prop, (∀ (a : Nat → Nat) (la : Nat → Nat) (lo : Nat → Int32 × Int32) (ba : Nat → Nat → Nat) (bt : Nat → BatG) (np : Nat) (pa : Nat → Nat) (pc : Nat → PieG) (nx : Nat) (xa : Nat → Nat → Nat) (bx : Nat → BoxG) (tr : Nat → Int32) (tt : Nat → Int32) (f0 : Nat) (f1 : Nat) (f5 : Nat) (f6 : Nat) (gl : Int32) (gh : Int32) (lt : Nat → Int32) (lw6 : Nat → Int32) (hi6 : Nat → Int32) (t0 : Int32) (t1 : Int32) (t2 : Int32) (t3 : Int32) (t4 : Int32) (t5 : Int32) (g0 : Nat) (g1 : Nat) (g2 : Nat) (g4 : Nat) (g8 : Nat) (g9 : Nat) (g10 : Nat) (g11 : Nat) (qm : Nat) (om : Int32) (ekn : Int32) (ekl : Int32) (lst : Option Nat) (LE : Nat → Int32) (ws : Nat → Int32) (qd : Nat → Int32) (kd : Nat → Int32) (od : Nat → Int32) (us : Nat → Int32) (ct : Nat → Int32) (sd : Nat → Int32) (wt : Nat → Int32) (s0 : Nat) (s1 : Nat) (s2 : Nat) (cm : Nat) (wd : Int32) (sm : Option Nat) (SM : Nat → Int64) (sp : Nat → Int32) (wg : Nat → Int32) (cz : Nat → Int32) (pwa : Nat) (pm : Nat) (lw : Int32) (hg : Int32) (kn : Option Nat) (kl : Nat) (KN : Nat → Int32) (pw : Nat → Int32), (kI nl lo nb bt np pc nx bx) → (chI cm sp wg) → (qI qm kd) → (rn ≤ 16) → (kl ≤ 16384) → (grI kn kl g) → C_ ([(x, .inr (10, [.ref (a 0), .int (nI nl), .ref (a 2), .int (nI nb), .ref (a 4), .int (nI np), .ref (a 6), .int (nI nx), .ref (a 8), .ref (a 9), .ref (a 10), .ref (a 11), .ref (a 12), .ref (a 13), .ref (a 14)])), ((a 0), .inl (ca 5, 40, .inr (.inr (.inr (.inr (rA nl la)))))), ((a 2), .inl (ca 6, 40, .inr (.inr (.inr (.inr (rA nb (bA0 ba))))))), ((a 4), .inl (ca 7, 600, .inr (.inr (.inr (.inr (rA np pa)))))), ((a 6), .inl (ca 8, 200, .inr (.inr (.inr (.inr (rA nx (bA0 xa))))))), ((a 8), .inl (ca 0, 144, .inl tr)), ((a 9), .inl (ca 0, 144, .inl tt)), ((a 10), .inr (8, [.ref f0, .ref f1, .int (nI rn), .int gl, .int gh, .ref f5, .ref f6])), (f0, .inl (ca 0, 16, .inl fd)), (f1, .inl (ca 0, 16, .inl lt)), (f5, .inl (ca 0, 6, .inl lw6)), (f6, .inl (ca 0, 6, .inl hi6)), ((a 11), .inr (9, [.int t0, .int t1, .int t2, .int t3, .int t4, .int t5])), ((a 12), .inr (3, [.ref g0, .ref g1, .ref g2, .int (nI qm), .ref g4, .int om, .int ekn, .int ekl, .ref g8, .ref g9, .ref g10, .ref g11, va_rf lst])), (g0, .inl (ca 0, 36, .inl ws)), (g1, .inl (ca 0, 10, .inl qd)), (g2, .inl (ca 0, 10, .inl kd)), (g4, .inl (ca 0, 10, .inl od)), (g8, .inl (ca 1, 10, .inl us)), (g9, .inl (ca 0, 6, .inl ct)), (g10, .inl (ca 0, 6, .inl sd)), (g11, .inl (ca 0, 6, .inl wt)), ((a 13), .inr (2, [.ref s0, .ref s1, .ref s2, .int (nI cm), va_rf sm, .int wd])), (s0, .inl (ca 0, 40, .inl sp)), (s1, .inl (ca 0, 40, .inl wg)), (s2, .inl (ca 1, 40, .inl cz)), ((a 14), .inr (5, [.ref pwa, .int (nI pm), .int lw, .int hg, va_rf kn])), (pwa, .inl (ca 0, 14, .inl pw))] ++ (oL ca lst LE ++ (oS ca sm SM ++ (oK ca kn kl KN ++ (pool ca (List.range nl) la lo (List.range nb) ba bt (List.range np) pa pc (List.range nx) xa bx)))))) → C_ w

theorem kOK_x {ca : Nat → ClassId} {x g nl nb rn : Nat} {fd : Nat → Int32} {w : va_W} (h : kOK ca x g nl nb rn fd w) : ∃ fs, w[0]? = some (x, .inr (10, fs)) := h (fun w => ∃ fs, w[0]? = some (x, .inr (10, fs))) (fun a la lo ba bt np pa pc nx xa bx tr tt f0 f1 f5 f6 gl gh lt lw6 hi6 t0 t1 t2 t3 t4 t5 g0 g1 g2 g4 g8 g9 g10 g11 qm om ekn ekl lst LE ws qd kd od us ct sd wt s0 s1 s2 cm wd sm SM sp wg cz pwa pm lw hg kn kl KN pw hQ hc0 hq hls hkx hg_ => ⟨_, rfl⟩)
theorem kOK_g {ca : Nat → ClassId} {x g nl nb rn : Nat} {fd : Nat → Int32} {w : va_W} (h : kOK ca x g nl nb rn fd w) : g ≤ 15 := h (fun _ => g ≤ 15) (fun a la lo ba bt np pa pc nx xa bx tr tt f0 f1 f5 f6 gl gh lt lw6 hi6 t0 t1 t2 t3 t4 t5 g0 g1 g2 g4 g8 g9 g10 g11 qm om ekn ekl lst LE ws qd kd od us ct sd wt s0 s1 s2 cm wd sm SM sp wg cz pwa pm lw hg kn kl KN pw hQ hc0 hq hls hkx hg_ => grI_le hg_)
