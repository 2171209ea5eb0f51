/-! ===== array classes, pools, cuts ===== -/
abbrev aT (ca : Nat → ClassId) : List (ClassId × FieldType) := [(ca 0, .int), (ca 1, .boolean), (ca 2, .byte), (ca 3, .long), (ca 4, .float), (ca 5, .object "SugarKitchen$Lot"), (ca 6, .object "SugarKitchen$Batch"), (ca 7, .object "SugarKitchen$Piece"), (ca 8, .object "SugarKitchen$Box")]
theorem ra_one {U : State} {c1 c2 : ClassId} {ty : FieldType} (h1 : va_RA U c1 ty) (h2 : va_RA U c2 ty) : c1 = c2 := by
  cases ty with
  | object C =>
    obtain ⟨_, _, _, _, _, e1⟩ := h1
    obtain ⟨_, _, _, _, _, e2⟩ := h2
    exact Option.some.inj (e1.symm.trans e2)
  | _ => exact Option.some.inj (Eq.trans (Eq.symm h1) h2)
theorem ca_eq {D : va_G} {cl : List vw_C} {tys : List (ClassId × FieldType)} {U : State} {c2 : ClassId} {ty : FieldType} (hK : va_K D cl (tys ++ [(c2, ty)]) U) (i : Nat) {c1 : ClassId} (h : tys[i]? = some (c1, ty)) : c2 = c1 := by
  have h1 := (hK.2 tys.length (c2, ty) (by rw [List.getElem?_append_right (Nat.le_refl _), Nat.sub_self]; rfl)).2
  have h2 := (hK.2 i (c1, ty) (by rw [List.getElem?_append_left (List.getElem?_eq_some_iff.mp h).1]; exact h)).2
  exact ra_one h1 h2
theorem va_D_iff {A : Nat → Prop} {ws : va_W} : va_D A ws ↔ (ws.map Prod.fst).Nodup ∧ ∀ q ∈ ws, A q.1 := by
  constructor
  · intro h
    refine ⟨?_, fun q hq => ?_⟩
    · rw [List.Nodup, List.pairwise_iff_getElem]
      intro i j hi hj hij e
      rw [List.length_map] at hi hj
      rw [List.getElem_map, List.getElem_map] at e
      have := h.1 i j _ _ (List.getElem?_eq_getElem hi) (List.getElem?_eq_getElem hj) e
      omega
    · obtain ⟨k, hk⟩ := List.getElem?_of_mem hq
      exact h.2 k q hk
  · intro h
    refine ⟨fun i j p q hi hj e => ?_, fun k q hk => h.2 q (List.mem_of_getElem? hk)⟩
    have h1 := h.1
    rw [List.Nodup, List.pairwise_iff_getElem] at h1
    obtain ⟨li, ei⟩ := List.getElem?_eq_some_iff.mp hi
    obtain ⟨lj, ej⟩ := List.getElem?_eq_some_iff.mp hj
    rcases Nat.lt_trichotomy i j with h2 | h2 | h2
    · exact absurd (by rw [List.getElem_map, List.getElem_map, ei, ej]; exact e) (h1 i j (by rw [List.length_map]; exact li) (by rw [List.length_map]; exact lj) h2)
    · exact h2
    · exact absurd (by rw [List.getElem_map, List.getElem_map, ei, ej]; exact e.symm) (h1 j i (by rw [List.length_map]; exact lj) (by rw [List.length_map]; exact li) h2)
theorem va_P.perm {D : va_G} {cl : List vw_C} {ws ws' : va_W} {H : Heap} (h : ws.Perm ws') (hP : va_P D cl ws H) : va_P D cl ws' H := fun k q hk => by
  obtain ⟨i, hi⟩ := List.getElem?_of_mem (h.mem_iff.mpr (List.mem_of_getElem? hk))
  exact hP i q hi
theorem va_D.perm {A : Nat → Prop} {ws ws' : va_W} (h : ws.Perm ws') (hD : va_D A ws) : va_D A ws' := by
  rw [va_D_iff] at hD ⊢
  exact ⟨(h.map Prod.fst).nodup_iff.mp hD.1, fun q hq => hD.2 q (h.mem_iff.mpr hq)⟩
theorem fo_perm {X c pl pl' : va_W} (h : pl.Perm (c ++ pl')) : (X ++ pl).Perm ((X ++ c) ++ pl') := by
  rw [List.append_assoc]
  exact h.append_left X
theorem va_fo {D : va_G} {cl : List vw_C} {X c pl pl' : va_W} {H : Heap} (h : pl.Perm (c ++ pl')) (hP : va_P D cl (X ++ pl) H) : va_P D cl ((X ++ c) ++ pl') H := hP.perm (fo_perm h)
theorem va_fo_D {A : Nat → Prop} {X c pl pl' : va_W} (h : pl.Perm (c ++ pl')) (hD : va_D A (X ++ pl)) : va_D A ((X ++ c) ++ pl') := hD.perm (fo_perm h)
theorem va_fb {D : va_G} {cl : List vw_C} {X c pl pl' : va_W} {H : Heap} (h : pl.Perm (c ++ pl')) (hP : va_P D cl ((X ++ c) ++ pl') H) : va_P D cl (X ++ pl) H := hP.perm (fo_perm h).symm
theorem va_fb_D {A : Nat → Prop} {X c pl pl' : va_W} (h : pl.Perm (c ++ pl')) (hD : va_D A ((X ++ c) ++ pl')) : va_D A (X ++ pl) := hD.perm (fo_perm h).symm
theorem fl_fo {f : Nat → va_W} {L : List Nat} {i : Nat} (h : i ∈ L) : (L.flatMap f).Perm (f i ++ (L.erase i).flatMap f) := by
  have h1 := List.Perm.flatMap_right f (List.perm_cons_erase h)
  rw [List.flatMap_cons] at h1
  exact h1
theorem fl_cg {f g : Nat → va_W} {L : List Nat} (h : ∀ i ∈ L, f i = g i) : L.flatMap f = L.flatMap g := by
  induction L with
  | nil => rfl
  | cons a L ih =>
    rw [List.flatMap_cons, List.flatMap_cons, h a List.mem_cons_self, ih (fun i hi => h i (List.mem_cons_of_mem _ hi))]
/-- a batch's, a piece's, a box's numbers -/
abbrev BatG : Type := (Nat → Int32) × Int64 × (Nat → Int32) × (Nat → Int32)
abbrev PieG : Type := (Nat → Int32) × Int64
abbrev BoxG : Type := (Nat → Int32) × Int64 × Nat × (Nat → Int32)
abbrev lotC (a : Nat) (g : Int32 × Int32) : va_W := [(a, .inr (4, [.int g.1, .int g.2]))]
abbrev batC (ca : Nat → ClassId) (a : Nat → Nat) (g : BatG) : va_W := [(a 0, .inr (0, [.int (g.1 0), .ref (a 1), .int (g.1 2), .int (g.1 3), .long g.2.1, .int (g.1 5), .int (g.1 6), .int (g.1 7), .int (g.1 8), .int (g.1 9), .int (g.1 10), .int (g.1 11), .int (g.1 12), .int (g.1 13), .int (g.1 14), .int (g.1 15)])), (a 1, .inr (7, [.ref (a 2), .ref (a 3), .int (g.1 16), .int (g.1 17)])), (a 2, .inl (ca 0, 60, .inl g.2.2.1)), (a 3, .inl (ca 1, 60, .inl g.2.2.2))]
abbrev pieC (a : Nat) (g : PieG) : va_W := [(a, .inr (6, [.int (g.1 0), .int (g.1 1), .int (g.1 2), .long g.2, .int (g.1 4), .int (g.1 5), .int (g.1 6), .int (g.1 7), .int (g.1 8)]))]
abbrev boxC (ca : Nat → ClassId) (a : Nat → Nat) (g : BoxG) : va_W := [(a 0, .inr (1, [.int (g.1 0), .int (g.1 1), .ref (a 1), .int (g.1 3), .long g.2.1, .int (g.1 5)])), (a 1, .inl (ca 0, g.2.2.1, .inl g.2.2.2))]
/-- all lots, batches, pieces, boxes -/
def pool (ca : Nat → ClassId) (L : List Nat) (la : Nat → Nat) (lo : Nat → Int32 × Int32) (B : List Nat) (ba : Nat → Nat → Nat) (bt : Nat → BatG) (Q : List Nat) (pa : Nat → Nat) (pc : Nat → PieG) (Z : List Nat) (xa : Nat → Nat → Nat) (bx : Nat → BoxG) : va_W :=
  L.flatMap (fun i => lotC (la i) (lo i)) ++ (B.flatMap (fun i => batC ca (ba i) (bt i)) ++ (Q.flatMap (fun i => pieC (pa i) (pc i)) ++ Z.flatMap (fun i => boxC ca (xa i) (bx i))))
section POOL
variable {ca : Nat → ClassId} {L : List Nat} {la : Nat → Nat} {lo : Nat → Int32 × Int32} {B : List Nat} {ba : Nat → Nat → Nat} {bt : Nat → BatG} {Q : List Nat} {pa : Nat → Nat} {pc : Nat → PieG} {Z : List Nat} {xa : Nat → Nat → Nat} {bx : Nat → BoxG} {i n : Nat}
theorem p4_1 {a a' b c d : va_W} {x : va_W} (h : a.Perm (x ++ a')) : (a ++ (b ++ (c ++ d))).Perm (x ++ (a' ++ (b ++ (c ++ d)))) := by
  rw [← List.append_assoc x]
  exact h.append_right _
theorem p4_2 {a b b' c d : va_W} {x : va_W} (h : b.Perm (x ++ b')) : (a ++ (b ++ (c ++ d))).Perm (x ++ (a ++ (b' ++ (c ++ d)))) := by
  refine ((h.append_right (c ++ d)).append_left a).trans ?_
  rw [List.append_assoc x]
  exact List.perm_append_comm_assoc a x _
theorem p4_3 {a b c c' d : va_W} {x : va_W} (h : c.Perm (x ++ c')) : (a ++ (b ++ (c ++ d))).Perm (x ++ (a ++ (b ++ (c' ++ d)))) := by
  refine (((h.append_right d).append_left b).append_left a).trans ?_
  rw [List.append_assoc x]
  exact ((List.perm_append_comm_assoc b x _).append_left a).trans (List.perm_append_comm_assoc a x _)
theorem p4_4 {a b c d d' : va_W} {x : va_W} (h : d.Perm (x ++ d')) : (a ++ (b ++ (c ++ d))).Perm (x ++ (a ++ (b ++ (c ++ d')))) := by
  refine (((h.append_left c).append_left b).append_left a).trans ?_
  exact (((List.perm_append_comm_assoc c x _).append_left b).append_left a).trans (((List.perm_append_comm_assoc b x _).append_left a).trans (List.perm_append_comm_assoc a x _))
theorem up_off {α : Type} {f : Nat → α} {i : Nat} {c : α} {L : List Nat} (hn : i ∉ L) : ∀ j ∈ L, va_up f i c j = f j := fun j hj => va_up_ne f c (fun e => hn (e ▸ hj))
theorem lot_fo (h : i ∈ L) : (pool ca L la lo B ba bt Q pa pc Z xa bx).Perm (lotC (la i) (lo i) ++ pool ca (L.erase i) la lo B ba bt Q pa pc Z xa bx) := p4_1 (fl_fo (f := fun i => lotC (la i) (lo i)) h)
theorem bat_fo (h : i ∈ B) : (pool ca L la lo B ba bt Q pa pc Z xa bx).Perm (batC ca (ba i) (bt i) ++ pool ca L la lo (B.erase i) ba bt Q pa pc Z xa bx) := p4_2 (fl_fo (f := fun i => batC ca (ba i) (bt i)) h)
theorem pie_fo (h : i ∈ Q) : (pool ca L la lo B ba bt Q pa pc Z xa bx).Perm (pieC (pa i) (pc i) ++ pool ca L la lo B ba bt (Q.erase i) pa pc Z xa bx) := p4_3 (fl_fo (f := fun i => pieC (pa i) (pc i)) h)
theorem box_fo (h : i ∈ Z) : (pool ca L la lo B ba bt Q pa pc Z xa bx).Perm (boxC ca (xa i) (bx i) ++ pool ca L la lo B ba bt Q pa pc (Z.erase i) xa bx) := p4_4 (fl_fo (f := fun i => boxC ca (xa i) (bx i)) h)
theorem lot_fb {c : Int32 × Int32} (h : i ∈ L ∧ L.Nodup) : (pool ca L la (va_up lo i c) B ba bt Q pa pc Z xa bx).Perm (lotC (la i) c ++ pool ca (L.erase i) la lo B ba bt Q pa pc Z xa bx) := by
  have h1 := fl_fo (f := fun j => lotC (la j) (va_up lo i c j)) h.1
  rw [fl_cg (g := fun j => lotC (la j) (lo j)) (L := L.erase i) (fun j hj => by rw [up_off h.2.not_mem_erase j hj])] at h1
  rw [va_up_self] at h1
  exact p4_1 h1
theorem bat_fb {c : BatG} (h : i ∈ B ∧ B.Nodup) : (pool ca L la lo B ba (va_up bt i c) Q pa pc Z xa bx).Perm (batC ca (ba i) c ++ pool ca L la lo (B.erase i) ba bt Q pa pc Z xa bx) := by
  have h1 := fl_fo (f := fun j => batC ca (ba j) (va_up bt i c j)) h.1
  rw [fl_cg (g := fun j => batC ca (ba j) (bt j)) (L := B.erase i) (fun j hj => by rw [up_off h.2.not_mem_erase j hj])] at h1
  rw [va_up_self] at h1
  exact p4_2 h1
theorem pie_fb {c : PieG} (h : i ∈ Q ∧ Q.Nodup) : (pool ca L la lo B ba bt Q pa (va_up pc i c) Z xa bx).Perm (pieC (pa i) c ++ pool ca L la lo B ba bt (Q.erase i) pa pc Z xa bx) := by
  have h1 := fl_fo (f := fun j => pieC (pa j) (va_up pc i c j)) h.1
  rw [fl_cg (g := fun j => pieC (pa j) (pc j)) (L := Q.erase i) (fun j hj => by rw [up_off h.2.not_mem_erase j hj])] at h1
  rw [va_up_self] at h1
  exact p4_3 h1
theorem box_fb {c : BoxG} (h : i ∈ Z ∧ Z.Nodup) : (pool ca L la lo B ba bt Q pa pc Z xa (va_up bx i c)).Perm (boxC ca (xa i) c ++ pool ca L la lo B ba bt Q pa pc (Z.erase i) xa bx) := by
  have h1 := fl_fo (f := fun j => boxC ca (xa j) (va_up bx i c j)) h.1
  rw [fl_cg (g := fun j => boxC ca (xa j) (bx j)) (L := Z.erase i) (fun j hj => by rw [up_off h.2.not_mem_erase j hj])] at h1
  rw [va_up_self] at h1
  exact p4_4 h1
theorem fl_pu {f g : Nat → va_W} {n : Nat} (h : ∀ j, j < n → f j = g j) : ((List.range (n + 1)).flatMap f).Perm (f n ++ (List.range n).flatMap g) := by
  rw [List.range_succ, List.flatMap_append, fl_cg (g := g) (fun j hj => h j (List.mem_range.mp hj))]
  rw [List.flatMap_cons, List.flatMap_nil, List.append_nil]
  exact List.perm_append_comm
theorem lot_pu {q : Nat} {c : Int32 × Int32} : (pool ca (List.range (n + 1)) (va_up la n q) (va_up lo n c) B ba bt Q pa pc Z xa bx).Perm (lotC q c ++ pool ca (List.range n) la lo B ba bt Q pa pc Z xa bx) := by
  have h1 := fl_pu (f := fun j => lotC (va_up la n q j) (va_up lo n c j)) (g := fun j => lotC (la j) (lo j)) (n := n) (fun j hj => by rw [va_up_ne _ _ (Nat.ne_of_lt hj), va_up_ne _ _ (Nat.ne_of_lt hj)])
  rw [va_up_self, va_up_self] at h1
  exact p4_1 h1
theorem bat_pu {q : Nat → Nat} {c : BatG} : (pool ca L la lo (List.range (n + 1)) (va_up ba n q) (va_up bt n c) Q pa pc Z xa bx).Perm (batC ca q c ++ pool ca L la lo (List.range n) ba bt Q pa pc Z xa bx) := by
  have h1 := fl_pu (f := fun j => batC ca (va_up ba n q j) (va_up bt n c j)) (g := fun j => batC ca (ba j) (bt j)) (n := n) (fun j hj => by rw [va_up_ne _ _ (Nat.ne_of_lt hj), va_up_ne _ _ (Nat.ne_of_lt hj)])
  rw [va_up_self, va_up_self] at h1
  exact p4_2 h1
theorem pie_pu {q : Nat} {c : PieG} : (pool ca L la lo B ba bt (List.range (n + 1)) (va_up pa n q) (va_up pc n c) Z xa bx).Perm (pieC q c ++ pool ca L la lo B ba bt (List.range n) pa pc Z xa bx) := by
  have h1 := fl_pu (f := fun j => pieC (va_up pa n q j) (va_up pc n c j)) (g := fun j => pieC (pa j) (pc j)) (n := n) (fun j hj => by rw [va_up_ne _ _ (Nat.ne_of_lt hj), va_up_ne _ _ (Nat.ne_of_lt hj)])
  rw [va_up_self, va_up_self] at h1
  exact p4_3 h1
theorem box_pu {q : Nat → Nat} {c : BoxG} : (pool ca L la lo B ba bt Q pa pc (List.range (n + 1)) (va_up xa n q) (va_up bx n c)).Perm (boxC ca q c ++ pool ca L la lo B ba bt Q pa pc (List.range n) xa bx) := by
  have h1 := fl_pu (f := fun j => boxC ca (va_up xa n q j) (va_up bx n c j)) (g := fun j => boxC ca (xa j) (bx j)) (n := n) (fun j hj => by rw [va_up_ne _ _ (Nat.ne_of_lt hj), va_up_ne _ _ (Nat.ne_of_lt hj)])
  rw [va_up_self, va_up_self] at h1
  exact p4_4 h1
variable {D : va_G} {cl : List vw_C} {H : Heap} {X : va_W}
theorem pl_read {pl c pl' : va_W} (h : pl.Perm (c ++ pl')) (hP : va_P D cl (X ++ pl) H) : va_P D cl c H := fun k q hk => by
  have h1 : q ∈ X ++ pl := List.mem_append_right _ (h.mem_iff.mpr (List.mem_append_left _ (List.mem_of_getElem? hk)))
  obtain ⟨j, hj⟩ := List.getElem?_of_mem h1
  exact hP j q hj
theorem lot_P (hP : va_P D cl (X ++ pool ca L la lo B ba bt Q pa pc Z xa bx) H) (h : i ∈ L) : va_P D cl (lotC (la i) (lo i)) H := pl_read (lot_fo h) hP
theorem bat_P (hP : va_P D cl (X ++ pool ca L la lo B ba bt Q pa pc Z xa bx) H) (h : i ∈ B) : va_P D cl (batC ca (ba i) (bt i)) H := pl_read (bat_fo h) hP
theorem pie_P (hP : va_P D cl (X ++ pool ca L la lo B ba bt Q pa pc Z xa bx) H) (h : i ∈ Q) : va_P D cl (pieC (pa i) (pc i)) H := pl_read (pie_fo h) hP
theorem box_P (hP : va_P D cl (X ++ pool ca L la lo B ba bt Q pa pc Z xa bx) H) (h : i ∈ Z) : va_P D cl (boxC ca (xa i) (bx i)) H := pl_read (box_fo h) hP
end POOL
theorem rg_in {i n : Nat} (h : i < n) : i ∈ List.range n := List.mem_range.mpr h
theorem rg_nd {i n : Nat} (h : i < n) : i ∈ List.range n ∧ (List.range n).Nodup := ⟨List.mem_range.mpr h, List.nodup_range⟩
section CUTS
variable {p : Program} {l : Launch} {e : Env} {R : Room} {s : State} {m : MethodId} {args : Array Value} {below : List Frame} {meth : Method} {c : Code} {H : Heap} {locs : List Loc} {cells slots : Nat} {Q : State → Prop}
variable {cc : ByteArray} {pc pc2 : Nat} {ls : Array Slot} {rest st0 : List Value} {a : Array Value}
theorem pc_l {post : Int64 → Prop} (hr : va_Run p l e R s m args below meth c H locs cells slots 0 0 (F0 m pc ls st0) rest (vp_Sl post a) (fun _ => False))
    (kk : ∀ r : Int64, post r → W p l e R s m args below meth c H locs cells slots Q (F0 m (pc + 3) ls (.long r :: rest))) : W p l e R s m args below meth c H locs cells slots Q (F0 m pc ls st0) := by
  intro T hT X
  obtain ⟨v, st₀, t, T', L, h0, X', hL, e1, e2, ⟨r, hv, hp, hh⟩, st⟩ := hr T hT X
  cases hv
  obtain ⟨t2, a1, b1⟩ := kk r hp T' (by rw [e1, hh, h0]) (Stand.forget X' (fun q h => (hL q h).elim))
  exact ⟨t2, st t2 a1, b1⟩
theorem pc_v {post : Unit → Prop} (hr : va_Run p l e R s m args below meth c H locs cells slots 0 0 (F0 m pc ls st0) rest (va_Sv post a) (fun _ => False))
    (kk : post () → W p l e R s m args below meth c H locs cells slots Q (F0 m (pc + 3) ls rest)) : W p l e R s m args below meth c H locs cells slots Q (F0 m pc ls st0) := by
  intro T hT X
  obtain ⟨v, st₀, t, T', L, h0, X', hL, e1, e2, ⟨hv, hp, hh⟩, st⟩ := hr T hT X
  cases hv
  obtain ⟨t2, a1, b1⟩ := kk hp T' (by rw [e1, hh, h0]) (Stand.forget X' (fun q h => (hL q h).elim))
  exact ⟨t2, st t2 a1, b1⟩
/-- where two ways meet -/
theorem wl_cut {σ : Type} (stk2 : σ → List Value) (I : σ → Heap → List Loc → Array Slot → Prop)
    (hJ : ∀ (x : σ) (H : Heap) (locs : List Loc) (ls : Array Slot), I x H locs ls → W p l e R s m args below meth c H locs cells slots Q (F0 m pc2 ls (stk2 x)))
    (hk : (∀ (x : σ) (H : Heap) (locs : List Loc) (ls : Array Slot), I x H locs ls → W p l e R s m args below meth c H locs cells slots Q (F0 m pc2 ls (stk2 x))) → W p l e R s m args below meth c H locs cells slots Q (F0 m pc ls st0)) : W p l e R s m args below meth c H locs cells slots Q (F0 m pc ls st0) := hk hJ
/-- a loop that makes cells -/
theorem wl_loopC {σ : Type} {cf sf : σ → Nat} (I : σ → Heap → List Loc → Array Slot → Prop) (μ : σ → Nat) {stk : List Value}
    (hs : ∀ (x : σ) (H : Heap) (locs : List Loc) (ls : Array Slot), I x H locs ls → (∀ (y : σ) (H' : Heap) (locs' : List Loc) (ls' : Array Slot), μ y < μ x → I y H' locs' ls' → W p l e R s m args below meth c H' locs' (cf y) (sf y) Q (F0 m pc ls' stk)) → W p l e R s m args below meth c H locs (cf x) (sf x) Q (F0 m pc ls stk))
    (x : σ) (h : I x H locs ls) : W p l e R s m args below meth c H locs (cf x) (sf x) Q (F0 m pc ls stk) := by
  have key : ∀ (n : Nat) (x : σ) (H : Heap) (locs : List Loc) (ls : Array Slot), μ x < n → I x H locs ls → W p l e R s m args below meth c H locs (cf x) (sf x) Q (F0 m pc ls stk) := by
    intro n
    induction n with
    | zero => intro x H locs ls h; omega
    | succ n ih => intro x H locs ls h hI; exact hs x H locs ls hI (fun y H' locs' ls' hy hI' => ih y H' locs' ls' (by omega) hI')
  exact key (μ x + 1) x H locs ls (by omega) h
theorem lq_aload_n (hexec : p.tables.exec = Jvm.exec) (hb : c.code = cc) {k : Fin 4} {i : Nat} {r : Option Nat} (hdg : decode cc pc = .ok (.aload_n k, 1)) (hi : (k : Nat) = i) (hl : ls[i]? = some (.val (va_rf r)))
    (kk : W p l e R s m args below meth c H locs cells slots Q (F0 m (pc + 1) ls (va_rf r :: rest))) : W p l e R s m args below meth c H locs cells slots Q (F0 m pc ls rest) := by
  cases r with
  | none => exact lv_aload_nN hexec hb hdg hi hl kk
  | some x => exact lv_aload_n hexec hb hdg hi hl kk
theorem lq_aload (hexec : p.tables.exec = Jvm.exec) (hb : c.code = cc) {i : Nat} {r : Option Nat} (hdg : decode cc pc = .ok (.aload i, 2)) (hl : ls[i]? = some (.val (va_rf r)))
    (kk : W p l e R s m args below meth c H locs cells slots Q (F0 m (pc + 2) ls (va_rf r :: rest))) : W p l e R s m args below meth c H locs cells slots Q (F0 m pc ls rest) := by
  cases r with
  | none => exact lv_aloadN hexec hb hdg hl kk
  | some x => exact lv_aload hexec hb hdg hl kk
theorem rf_cat (r : Option Nat) : (va_rf r).category = 1 := by cases r <;> rfl
theorem lq_astore_n (hexec : p.tables.exec = Jvm.exec) (hb : c.code = cc) {k : Fin 4} {i nL : Nat} {r : Option Nat} {lv lv' : List (Nat × Value)} (hdg : decode cc pc = .ok (.astore_n k, 1)) (hi : (k : Nat) = i) (h : lv_has ls nL lv) (hn : i < nL) (hl : (i, va_rf r) :: lv.filter (fun q => !(q.1 == i) && !(q.1 + 1 == i && q.2.category == 2)) = lv')
    (kk : ∀ ls' : Array Slot, lv_has ls' nL lv' → W p l e R s m args below meth c H locs cells slots Q (F0 m (pc + 1) ls' rest)) : W p l e R s m args below meth c H locs cells slots Q (F0 m pc ls (va_rf r :: rest)) := by
  cases r with
  | none => exact lv_astore_nN hexec hb hdg hi h hn hl kk
  | some x => exact lv_astore_n hexec hb hdg hi h hn hl kk
theorem lq_astore (hexec : p.tables.exec = Jvm.exec) (hb : c.code = cc) {i nL : Nat} {r : Option Nat} {lv lv' : List (Nat × Value)} (hdg : decode cc pc = .ok (.astore i, 2)) (h : lv_has ls nL lv) (hn : i < nL) (hl : (i, va_rf r) :: lv.filter (fun q => !(q.1 == i) && !(q.1 + 1 == i && q.2.category == 2)) = lv')
    (kk : ∀ ls' : Array Slot, lv_has ls' nL lv' → W p l e R s m args below meth c H locs cells slots Q (F0 m (pc + 2) ls' rest)) : W p l e R s m args below meth c H locs cells slots Q (F0 m pc ls (va_rf r :: rest)) := by
  cases r with
  | none => exact lv_astoreN hexec hb hdg h hn hl kk
  | some x => exact lv_astore hexec hb hdg h hn hl kk
end CUTS
theorem zb_n {v : Int32} (h : v = 0 ∨ v = 1) : narrow .boolean (.int v) = .int v := by rcases h with rfl | rfl <;> rfl
theorem zb_f {v : Int32} (h : v = 0 ∨ v = 1) : fits .boolean (.int v) = true := by rcases h with rfl | rfl <;> rfl
def miI (x y : Int32) : Int32 := if y < x then y else x
def maI (x y : Int32) : Int32 := if x < y then y else x
theorem nI_min {a b : Nat} (ha : a < 2 ^ 31) (hb : b < 2 ^ 31) : (if nI b < nI a then nI b else nI a) = nI (min a b) := by
  by_cases h : b < a
  · rw [if_pos ((nI_ltI hb ha).mpr h), Nat.min_eq_right (Nat.le_of_lt h)]
  · rw [if_neg (fun q => h ((nI_ltI hb ha).mp q)), Nat.min_eq_left (Nat.not_lt.mp h)]
theorem nI_max {a b : Nat} (ha : a < 2 ^ 31) (hb : b < 2 ^ 31) : (if nI a < nI b then nI b else nI a) = nI (max a b) := by
  by_cases h : a < b
  · rw [if_pos ((nI_ltI ha hb).mpr h), Nat.max_eq_right (Nat.le_of_lt h)]
  · rw [if_neg (fun q => h ((nI_ltI ha hb).mp q)), Nat.max_eq_left (Nat.not_lt.mp h)]
/-- a row of references: the first n -/
def rA (n : Nat) (f : Nat → Nat) : Nat → Option Nat := fun j => if j < n then some (f j) else none
theorem rA_push {n : Nat} {f : Nat → Nat} {q : Nat} : va_up (rA n f) n (some q) = rA (n + 1) (va_up f n q) := by
  funext j
  unfold rA va_up
  by_cases h : j = n
  · subst h; simp
  · by_cases h2 : j < n
    · have h3 : j < n + 1 := by omega
      simp [h, h2, h3]
    · have h3 : ¬ j < n + 1 := by omega
      simp [h, h2, h3]
/-- the object with a number, or none -/
def fnd (n : Nat) (f : Nat → Nat) (v : Int32) : Option Nat := if wi v 0 (nI n - 1) = 0 then none else some (f v.toNatClampNeg)
theorem nI_m1 {n : Nat} (h : n < 2 ^ 31) : (nI n - 1).toInt = (n : Int) - 1 := by
  rcases Nat.eq_zero_or_pos n with h0 | h0
  · subst h0; decide
  · obtain ⟨k, rfl⟩ : ∃ k, n = k + 1 := ⟨n - 1, by omega⟩
    rw [nI_pred, nI_toInt (by omega)]
    omega
theorem wi_cnt {n : Nat} {v : Int32} (hn : n < 2 ^ 31) (h : ¬ wi v 0 (nI n - 1) = 0) : ∃ j, j < n ∧ v = nI j := by
  obtain ⟨h1, h2⟩ := wi_in h
  rw [nI_m1 hn] at h2
  have e0 : (0 : Int32).toInt = 0 := by decide
  obtain ⟨j, hj, rfl⟩ := nI_of (x := v) (by rw [Int32.lt_iff_toInt_lt]; omega)
  rw [nI_toInt hj] at h2
  exact ⟨j, by omega, rfl⟩
theorem wi_nI {j n : Nat} (hn : n < 2 ^ 31) (h : j < n) : wi (nI j) 0 (nI n - 1) = 1 := by
  unfold wi
  rw [if_neg (nI_pos (by omega)), if_neg]
  rw [Int32.lt_iff_toInt_lt, nI_m1 hn, nI_toInt (by omega)]
  omega
theorem fnd_some {n : Nat} {f : Nat → Nat} {v : Int32} {b : Nat} (hn : n < 2 ^ 31) (h : some b = fnd n f v) : ∃ j, j < n ∧ v = nI j ∧ b = f j := by
  unfold fnd at h
  split at h
  · cases h
  · rename_i h1
    obtain ⟨j, hj, rfl⟩ := wi_cnt hn h1
    rw [nI_clamp (by omega)] at h
    exact ⟨j, hj, rfl, Option.some.inj h⟩
theorem fnd_in {n : Nat} {f : Nat → Nat} {j : Nat} (hn : n < 2 ^ 31) (h : j < n) : fnd n f (nI j) = some (f j) := by
  unfold fnd
  rw [wi_nI hn h, if_neg (by decide), nI_clamp (by omega)]
theorem rA_in {n : Nat} {f : Nat → Nat} {j : Nat} (h : j < n) : rA n f j = some (f j) := if_pos h
def ad4 (a b c d : Nat) : Nat → Nat := fun k => if k = 0 then a else if k = 1 then b else if k = 2 then c else d
def ad2 (a b : Nat) : Nat → Nat := fun k => if k = 0 then a else b
theorem up_all {α : Type} {P : α → Prop} {f : Nat → α} {n i : Nat} {c : α} (h : ∀ j, j < n → P (f j)) (hc : P c) : ∀ j, j < n → P (va_up f i c j) := fun j hj => by
  by_cases e : j = i
  · subst e; rw [va_up_self]; exact hc
  · rw [va_up_ne f c e]; exact h j hj
theorem up_all1 {α : Type} {P : α → Prop} {f : Nat → α} {n : Nat} {c : α} (h : ∀ j, j < n → P (f j)) (hc : P c) : ∀ j, j < n + 1 → P (va_up f n c j) := fun j hj => by
  by_cases e : j = n
  · subst e; rw [va_up_self]; exact hc
  · rw [va_up_ne f c e]; exact h j (by omega)
/-- a count -/
def cnt (v : Int32) (N : Nat) : Prop := ∃ n : Nat, n ≤ N ∧ v = nI n
/-- a world said anew, for its picture and its places at once -/
theorem va_bo {D : va_G} {A : Nat → Prop} {H : Heap} (T : va_W) (hP : va_P D vwCl T H) (hD : va_D A T) : va_P D vwCl T H ∧ va_D A T := ⟨hP, hD⟩
