/-- what no list of words hands on: the array classes over our classes, the links to a nest mate -/
def ext (U : State) : Prop := va_AO "SugarKitchen$Lot" U ∧ va_AO "SugarKitchen$Batch" U ∧ va_AO "SugarKitchen$Piece" U ∧ va_AO "SugarKitchen$Box" U ∧ va_Nw (.methodLinkNest "SugarKitchen$Batch" 92 yX10_isCut "SugarKitchen") U ∧ va_Nw (.methodLinkNest "SugarKitchen$Box" 35 yX10_within "SugarKitchen") U ∧ va_Nw (.methodLinkNest "SugarKitchen$Rows" 32 yX10_within "SugarKitchen") U ∧ va_Nw (.methodLinkNest "SugarKitchen$Rules" 40 yX10_within "SugarKitchen") U
theorem ext.warm {s U : State} (hW : s.WarmedH U.vm) (h : ext s) : ext U := ⟨va_AO.moved hW.alike h.1, va_AO.moved hW.alike h.2.1, va_AO.moved hW.alike h.2.2.1, va_AO.moved hW.alike h.2.2.2.1, va_Nw.warmM hW h.2.2.2.2.1, va_Nw.warmM hW h.2.2.2.2.2.1, va_Nw.warmM hW h.2.2.2.2.2.2.1, va_Nw.warmM hW h.2.2.2.2.2.2.2⟩
theorem ext.call {U : State} {g : JFrame} {mk : MethodId} {a : Array Value} (h : ext U) : ext (U.calling g mk a) := ⟨va_AO.moved (u := U) (U := U.calling g mk a) (Vm.Alike.refl U.vm) h.1, va_AO.moved (u := U) (U := U.calling g mk a) (Vm.Alike.refl U.vm) h.2.1, va_AO.moved (u := U) (U := U.calling g mk a) (Vm.Alike.refl U.vm) h.2.2.1, va_AO.moved (u := U) (U := U.calling g mk a) (Vm.Alike.refl U.vm) h.2.2.2.1, va_Nw.same (u := U) (U := U.calling g mk a) rfl rfl h.2.2.2.2.1, va_Nw.same (u := U) (U := U.calling g mk a) rfl rfl h.2.2.2.2.2.1, va_Nw.same (u := U) (U := U.calling g mk a) rfl rfl h.2.2.2.2.2.2.1, va_Nw.same (u := U) (U := U.calling g mk a) rfl rfl h.2.2.2.2.2.2.2⟩
theorem ext_of {args : Array Value} {s : State} (hts : ∀ w ∈ lw_tbl, w.before args s = true) : ext s := ⟨va_AO.of (hts _ mt_27), va_AO.of (hts _ mt_29), va_AO.of (hts _ mt_31), va_AO.of (hts _ mt_33), va_Nw.of rfl (hts _ mt_497), va_Nw.of rfl (hts _ mt_774), va_Nw.of rfl (hts _ mt_407), va_Nw.of rfl (hts _ mt_424)⟩
/-- a method's start: its cells, apart; the heap's size -/
def pr (D : va_G) (sz : Nat) (ws : va_W) (tys : List (ClassId × FieldType)) (U : State) : Prop := U.heap.size = sz ∧ va_P D vwCl ws U.heap ∧ va_K D vwCl tys U ∧ va_D (fun _ => True) ws ∧ ext U
/-- the start of a method that changes nothing -/
def pu (D : va_G) (ws : va_W) (tys : List (ClassId × FieldType)) (U : State) : Prop := va_P D vwCl ws U.heap ∧ va_K D vwCl tys U ∧ ext U
theorem pr_blind {D : va_G} {sz : Nat} {ws : va_W} {tys : List (ClassId × FieldType)} {av : List Value} : FrameBlind (va_Pc av (pr D sz ws tys)) := fun a U g mk q => ⟨q.1, q.2.1, q.2.2.1, va_K.moved (u := U) (U := U.calling g mk a) (Vm.Alike.refl U.vm) q.2.2.2.1, q.2.2.2.2.1, q.2.2.2.2.2.call⟩
theorem pu_blind {D : va_G} {ws : va_W} {tys : List (ClassId × FieldType)} {av : List Value} : FrameBlind (va_Pc av (pu D ws tys)) := fun a U g mk q => ⟨q.1, q.2.1, va_K.moved (u := U) (U := U.calling g mk a) (Vm.Alike.refl U.vm) q.2.2.1, q.2.2.2.call⟩
theorem pr_S {s : State} {H : Heap} {D : va_G} {ws : va_W} {tys : List (ClassId × FieldType)} {A : Nat → Prop} {As : List Value} (hP : va_P D vwCl ws H) (hK : va_K D vwCl tys s) (hD : va_D A ws) (hE : ext s) : PreS s H (va_Pc As (pr D H.size ws tys)) As :=
  ⟨pr_blind, fun U hU hW => ⟨rfl, by rw [hU], by rw [hU]; exact hP, va_K.moved hW.alike hK, hD.weaken (fun _ _ _ _ => trivial), hE.warm hW⟩⟩
theorem pu_S {s : State} {H : Heap} {D : va_G} {ws : va_W} {tys : List (ClassId × FieldType)} {As : List Value} (hP : va_P D vwCl ws H) (hK : va_K D vwCl tys s) (hE : ext s) : PreS s H (va_Pc As (pu D ws tys)) As :=
  ⟨pu_blind, fun U hU hW => ⟨rfl, by rw [hU]; exact hP, va_K.moved hW.alike hK, hE.warm hW⟩⟩
theorem pr_V {s : State} {H : Heap} {D : va_G} {ws : va_W} {tys : List (ClassId × FieldType)} {A : Nat → Prop} {As : List Value} {C : String} {b : Nat} (hP : va_P D vwCl ws H) (hK : va_K D vwCl tys s) (hD : va_D A ws) (hE : ext s) (hr : ∃ cell : Cell, H[b]? = some cell ∧ cell.vm.isStatics = false ∧ s.vm.findClass C = some cell.cls) : PreV s H C b (va_Pc (.ref b :: As) (pr D H.size ws tys)) As :=
  ⟨pr_blind, hr, fun U hU hW => ⟨rfl, by rw [hU], by rw [hU]; exact hP, va_K.moved hW.alike hK, hD.weaken (fun _ _ _ _ => trivial), hE.warm hW⟩⟩
theorem pu_V {s : State} {H : Heap} {D : va_G} {ws : va_W} {tys : List (ClassId × FieldType)} {As : List Value} {C : String} {b : Nat} (hP : va_P D vwCl ws H) (hK : va_K D vwCl tys s) (hE : ext s) (hr : ∃ cell : Cell, H[b]? = some cell ∧ cell.vm.isStatics = false ∧ s.vm.findClass C = some cell.cls) : PreV s H C b (va_Pc (.ref b :: As) (pu D ws tys)) As :=
  ⟨pu_blind, hr, fun U hU hW => ⟨rfl, by rw [hU]; exact hP, va_K.moved hW.alike hK, hE.warm hW⟩⟩
theorem gd_ok {w : Cond} (h : w ∈ gT) : w ∈ gT ∧ ((w.onTables && w.keeps) = true ∨ ∃ ty, w = .arrayClass ty) := ⟨h, good_of_word (gT_mem.mp h).2⟩
theorem gd {y : MethodName} {bytes : ByteArray} {maxL : Nat} {ret : Option FieldType} (h : Cond.code y bytes maxL ret ∈ gT) : GoodIn gT (Cond.code y bytes maxL ret :: gT) := fun w hw => (List.mem_cons.mp hw).elim (fun e => by rw [e]; exact gd_ok h) gd_ok
section PUC
variable {p : Program} {l : Launch} {e : Env} {R : Room} {s : State} {m : MethodId} {args : Array Value} {below : List Frame} {meth : Method} {c : Code} {H : Heap} {locs : List Loc} {cells slots : Nat} {Q : State → Prop}
variable {pc : Nat} {ls : Array Slot} {rest st0 : List Value} {a : Array Value}
theorem pc_i {post : Int32 → Prop} (hr : va_Run p l e R s m args below meth c H locs cells slots 0 0 (F0 m pc ls st0) rest (vp_Si post a) (fun _ => False))
    (kk : ∀ r : Int32, post r → W p l e R s m args below meth c H locs cells slots Q (F0 m (pc + 3) ls (.int r :: rest))) : W p l e R s m args below meth c H locs cells slots Q (F0 m pc ls st0) := by
  intro T hT X
  obtain ⟨v, st₀, t, T', L, h0, X', hL, e1, e2, ⟨r, hv, hp, hh⟩, st⟩ := hr T hT X
  cases hv
  obtain ⟨t2, a1, b1⟩ := kk r hp T' (by rw [e1, hh, h0]) (Stand.forget X' (fun q h => (hL q h).elim))
  exact ⟨t2, st t2 a1, b1⟩
theorem pc_q {post : Option Nat → Prop} (hr : va_Run p l e R s m args below meth c H locs cells slots 0 0 (F0 m pc ls st0) rest (va_Sq post a) (fun _ => False))
    (kk : ∀ r : Option Nat, post r → W p l e R s m args below meth c H locs cells slots Q (F0 m (pc + 3) ls (va_rf r :: rest))) : W p l e R s m args below meth c H locs cells slots Q (F0 m pc ls st0) := by
  intro T hT X
  obtain ⟨v, st₀, t, T', L, h0, X', hL, e1, e2, ⟨r, hv, hp, hh⟩, st⟩ := hr T hT X
  cases hv
  obtain ⟨t2, a1, b1⟩ := kk r hp T' (by rw [e1, hh, h0]) (Stand.forget X' (fun q h => (hL q h).elim))
  exact ⟨t2, st t2 a1, b1⟩
/-- a loop: an invariant over a picture x of it, and a measure that falls -/
theorem wl_loop {σ : Type} (I : σ → Heap → List Loc → Array Slot → Prop) (μ : σ → Nat) {stk : List Value}
    (hs : ∀ (x : σ) (H : Heap) (locs : List Loc) (ls : Array Slot), I x H locs ls → (∀ (y : σ) (H' : Heap) (locs' : List Loc) (ls' : Array Slot), μ y < μ x → I y H' locs' ls' → W p l e R s m args below meth c H' locs' cells slots Q (F0 m pc ls' stk)) → W p l e R s m args below meth c H locs cells slots Q (F0 m pc ls stk))
    (x : σ) (h : I x H locs ls) : W p l e R s m args below meth c H locs cells slots Q (F0 m pc ls stk) := by
  have key : ∀ (n : Nat) (x : σ) (H : Heap) (locs : List Loc) (ls : Array Slot), μ x < n → I x H locs ls → W p l e R s m args below meth c H locs cells slots Q (F0 m pc ls stk) := by
    intro n
    induction n with
    | zero => intro x H locs ls h; omega
    | succ n ih => intro x H locs ls h hI; exact hs x H locs ls hI (fun y H' locs' ls' hy hI' => ih y H' locs' ls' (by omega) hI')
  exact key (μ x + 1) x H locs ls (by omega) h
end PUC
theorem cell_i {cA : ClassId} {n : Nat} {f g : Nat → Int32} (h : ∀ j, j < n → f j = g j) : vp_cell cA (n, .inl f) = vp_cell cA (n, .inl g) := by
  show arrV cA n (fun j => .int (f j)) = arrV cA n (fun j => .int (g j))
  unfold arrV
  congr 1
  exact congrArg Array.ofFn (funext fun j => congrArg Value.int (h j.val j.isLt))
/-- a row of ints said in other words -/
theorem va_P.re {D : va_G} {cl : List vw_C} {ws : va_W} {H : Heap} (hP : va_P D cl ws H) (q0 : Nat) {a : Nat} {cA : ClassId} {n : Nat} {f : Nat → Int32} (g : Nat → Int32) (ha : ws[q0]? = some (a, .inl (cA, n, .inl f))) (h : ∀ j, j < n → f j = g j) : va_P D cl (ws.set q0 (a, .inl (cA, n, .inl g))) H := by
  intro k q hk
  by_cases e : q0 = k
  · subst e
    have hl : q0 < ws.length := (List.getElem?_eq_some_iff.mp ha).1
    rw [List.getElem?_set_self hl] at hk
    cases hk
    have h1 : H[a]? = some (vp_cell cA (n, .inl f)) := hP q0 _ ha
    show H[a]? = some (vp_cell cA (n, .inl g))
    rw [h1, cell_i h]
  · rw [List.getElem?_set_ne e] at hk
    exact hP k q hk
/-- whether v lies in lo .. hi -/
def wi (v lo hi : Int32) : Int32 := if v < lo then 0 else if hi < v then 0 else 1
theorem wi_e (v : Int32) : wi v 0 (-1) = 0 := by
  unfold wi
  split
  · rfl
  · rename_i h
    split
    · rfl
    · rename_i h2
      exfalso
      rw [Int32.lt_iff_toInt_lt] at h h2
      have e0 : (0 : Int32).toInt = 0 := by decide
      have e1 : (-1 : Int32).toInt = -1 := by decide
      omega
theorem wi_z (v lo hi : Int32) : wi v lo hi = 0 ∨ wi v lo hi = 1 := by
  unfold wi
  split
  · exact Or.inl rfl
  · split
    · exact Or.inl rfl
    · exact Or.inr rfl
theorem wi_n (v lo hi : Int32) : narrow .boolean (.int (wi v lo hi)) = .int (wi v lo hi) := by
  rcases wi_z v lo hi with h | h <;> rw [h] <;> rfl
theorem wi_in {v lo hi : Int32} (h : ¬ wi v lo hi = 0) : lo.toInt ≤ v.toInt ∧ v.toInt ≤ hi.toInt := by
  unfold wi at h
  split at h
  · exact absurd rfl h
  · rename_i h1
    split at h
    · exact absurd rfl h
    · rename_i h2
      rw [Int32.lt_iff_toInt_lt] at h1 h2
      omega
theorem ts_out {x : Int32} {lo hi : Int} (h : ∀ j : Int, lo ≤ j → j ≤ hi → x.toInt ≠ j) : x.toInt < lo ∨ hi < x.toInt := by
  by_cases h1 : x.toInt < lo
  · exact Or.inl h1
  · by_cases h2 : hi < x.toInt
    · exact Or.inr h2
    · exact absurd rfl (h x.toInt (by omega) (by omega))
set_option maxRecDepth 20000 in
theorem inX0 : ∀ w ∈ u_ws RX0 TX0 16, w ∈ gT := by
  intro w h
  obtain ⟨k, hk, rfl⟩ := List.mem_map.mp h
  have hk := List.mem_range.mp hk
  rcases (show k = 0 ∨ k = 1 ∨ k = 2 ∨ k = 3 ∨ k = 4 ∨ k = 5 ∨ k = 6 ∨ k = 7 ∨ k = 8 ∨ k = 9 ∨ k = 10 ∨ k = 11 ∨ k = 12 ∨ k = 13 ∨ k = 14 ∨ k = 15 by omega) with rfl | rfl | rfl | rfl | rfl | rfl | rfl | rfl | rfl | rfl | rfl | rfl | rfl | rfl | rfl | rfl
  · exact mw_334
  · exact mw_336
  · exact mw_338
  · exact mw_340
  · exact mw_342
  · exact mw_344
  · exact mw_346
  · exact mw_348
  · exact mw_350
  · exact mw_352
  · exact mw_354
  · exact mw_356
  · exact mw_358
  · exact mw_360
  · exact mw_362
  · exact mw_364
theorem dfX0 : ∀ j, j < 16 → defaultValue (tyX0 j) = vp_V [.int 0, .null, .int 0, .int 0, .long 0, .int 0, .int 0, .int 0, .int 0, .int 0, .int 0, .int 0, .int 0, .int 0, .int 0, .int 0] j := by
  intro k hk
  rcases (show k = 0 ∨ k = 1 ∨ k = 2 ∨ k = 3 ∨ k = 4 ∨ k = 5 ∨ k = 6 ∨ k = 7 ∨ k = 8 ∨ k = 9 ∨ k = 10 ∨ k = 11 ∨ k = 12 ∨ k = 13 ∨ k = 14 ∨ k = 15 by omega) with rfl | rfl | rfl | rfl | rfl | rfl | rfl | rfl | rfl | rfl | rfl | rfl | rfl | rfl | rfl | rfl <;> rfl
set_option maxRecDepth 20000 in
theorem inX1 : ∀ w ∈ u_ws RX1 TX1 6, w ∈ gT := by
  intro w h
  obtain ⟨k, hk, rfl⟩ := List.mem_map.mp h
  have hk := List.mem_range.mp hk
  rcases (show k = 0 ∨ k = 1 ∨ k = 2 ∨ k = 3 ∨ k = 4 ∨ k = 5 by omega) with rfl | rfl | rfl | rfl | rfl | rfl
  · exact mw_700
  · exact mw_702
  · exact mw_704
  · exact mw_706
  · exact mw_708
  · exact mw_710
theorem dfX1 : ∀ j, j < 6 → defaultValue (tyX1 j) = vp_V [.int 0, .int 0, .null, .int 0, .long 0, .int 0] j := by
  intro k hk
  rcases (show k = 0 ∨ k = 1 ∨ k = 2 ∨ k = 3 ∨ k = 4 ∨ k = 5 by omega) with rfl | rfl | rfl | rfl | rfl | rfl <;> rfl
set_option maxRecDepth 20000 in
theorem inX2 : ∀ w ∈ u_ws RX2 TX2 6, w ∈ gT := by
  intro w h
  obtain ⟨k, hk, rfl⟩ := List.mem_map.mp h
  have hk := List.mem_range.mp hk
  rcases (show k = 0 ∨ k = 1 ∨ k = 2 ∨ k = 3 ∨ k = 4 ∨ k = 5 by omega) with rfl | rfl | rfl | rfl | rfl | rfl
  · exact mw_165
  · exact mw_167
  · exact mw_169
  · exact mw_171
  · exact mw_173
  · exact mw_175
theorem dfX2 : ∀ j, j < 6 → defaultValue (tyX2 j) = vp_V [.null, .null, .null, .int 0, .null, .int 0] j := by
  intro k hk
  rcases (show k = 0 ∨ k = 1 ∨ k = 2 ∨ k = 3 ∨ k = 4 ∨ k = 5 by omega) with rfl | rfl | rfl | rfl | rfl | rfl <;> rfl
set_option maxRecDepth 20000 in
theorem inX3 : ∀ w ∈ u_ws RX3 TX3 13, w ∈ gT := by
  intro w h
  obtain ⟨k, hk, rfl⟩ := List.mem_map.mp h
  have hk := List.mem_range.mp hk
  rcases (show k = 0 ∨ k = 1 ∨ k = 2 ∨ k = 3 ∨ k = 4 ∨ k = 5 ∨ k = 6 ∨ k = 7 ∨ k = 8 ∨ k = 9 ∨ k = 10 ∨ k = 11 ∨ k = 12 by omega) with rfl | rfl | rfl | rfl | rfl | rfl | rfl | rfl | rfl | rfl | rfl | rfl | rfl
  · exact mw_120
  · exact mw_122
  · exact mw_124
  · exact mw_126
  · exact mw_128
  · exact mw_130
  · exact mw_132
  · exact mw_134
  · exact mw_136
  · exact mw_138
  · exact mw_140
  · exact mw_142
  · exact mw_144
theorem dfX3 : ∀ j, j < 13 → defaultValue (tyX3 j) = vp_V [.null, .null, .null, .int 0, .null, .int 0, .int 0, .int 0, .null, .null, .null, .null, .null] j := by
  intro k hk
  rcases (show k = 0 ∨ k = 1 ∨ k = 2 ∨ k = 3 ∨ k = 4 ∨ k = 5 ∨ k = 6 ∨ k = 7 ∨ k = 8 ∨ k = 9 ∨ k = 10 ∨ k = 11 ∨ k = 12 by omega) with rfl | rfl | rfl | rfl | rfl | rfl | rfl | rfl | rfl | rfl | rfl | rfl | rfl <;> rfl
set_option maxRecDepth 20000 in
theorem inX4 : ∀ w ∈ u_ws RX4 TX4 2, w ∈ gT := by
  intro w h
  obtain ⟨k, hk, rfl⟩ := List.mem_map.mp h
  have hk := List.mem_range.mp hk
  rcases (show k = 0 ∨ k = 1 by omega) with rfl | rfl
  · exact mw_264
  · exact mw_266
theorem dfX4 : ∀ j, j < 2 → defaultValue (tyX4 j) = vp_V [.int 0, .int 0] j := by
  intro k hk
  rcases (show k = 0 ∨ k = 1 by omega) with rfl | rfl <;> rfl
set_option maxRecDepth 20000 in
theorem inX5 : ∀ w ∈ u_ws RX5 TX5 5, w ∈ gT := by
  intro w h
  obtain ⟨k, hk, rfl⟩ := List.mem_map.mp h
  have hk := List.mem_range.mp hk
  rcases (show k = 0 ∨ k = 1 ∨ k = 2 ∨ k = 3 ∨ k = 4 by omega) with rfl | rfl | rfl | rfl | rfl
  · exact mw_189
  · exact mw_191
  · exact mw_193
  · exact mw_195
  · exact mw_197
theorem dfX5 : ∀ j, j < 5 → defaultValue (tyX5 j) = vp_V [.null, .int 0, .int 0, .int 0, .null] j := by
  intro k hk
  rcases (show k = 0 ∨ k = 1 ∨ k = 2 ∨ k = 3 ∨ k = 4 by omega) with rfl | rfl | rfl | rfl | rfl <;> rfl
set_option maxRecDepth 20000 in
theorem inX6 : ∀ w ∈ u_ws RX6 TX6 9, w ∈ gT := by
  intro w h
  obtain ⟨k, hk, rfl⟩ := List.mem_map.mp h
  have hk := List.mem_range.mp hk
  rcases (show k = 0 ∨ k = 1 ∨ k = 2 ∨ k = 3 ∨ k = 4 ∨ k = 5 ∨ k = 6 ∨ k = 7 ∨ k = 8 by omega) with rfl | rfl | rfl | rfl | rfl | rfl | rfl | rfl | rfl
  · exact mw_566
  · exact mw_568
  · exact mw_570
  · exact mw_572
  · exact mw_574
  · exact mw_576
  · exact mw_578
  · exact mw_580
  · exact mw_582
theorem dfX6 : ∀ j, j < 9 → defaultValue (tyX6 j) = vp_V [.int 0, .int 0, .int 0, .long 0, .int 0, .int 0, .int 0, .int 0, .int 0] j := by
  intro k hk
  rcases (show k = 0 ∨ k = 1 ∨ k = 2 ∨ k = 3 ∨ k = 4 ∨ k = 5 ∨ k = 6 ∨ k = 7 ∨ k = 8 by omega) with rfl | rfl | rfl | rfl | rfl | rfl | rfl | rfl | rfl <;> rfl
set_option maxRecDepth 20000 in
theorem inX7 : ∀ w ∈ u_ws RX7 TX7 4, w ∈ gT := by
  intro w h
  obtain ⟨k, hk, rfl⟩ := List.mem_map.mp h
  have hk := List.mem_range.mp hk
  rcases (show k = 0 ∨ k = 1 ∨ k = 2 ∨ k = 3 by omega) with rfl | rfl | rfl | rfl
  · exact mw_294
  · exact mw_296
  · exact mw_298
  · exact mw_300
theorem dfX7 : ∀ j, j < 4 → defaultValue (tyX7 j) = vp_V [.null, .null, .int 0, .int 0] j := by
  intro k hk
  rcases (show k = 0 ∨ k = 1 ∨ k = 2 ∨ k = 3 by omega) with rfl | rfl | rfl | rfl <;> rfl
set_option maxRecDepth 20000 in
theorem inX8 : ∀ w ∈ u_ws RX8 TX8 7, w ∈ gT := by
  intro w h
  obtain ⟨k, hk, rfl⟩ := List.mem_map.mp h
  have hk := List.mem_range.mp hk
  rcases (show k = 0 ∨ k = 1 ∨ k = 2 ∨ k = 3 ∨ k = 4 ∨ k = 5 ∨ k = 6 by omega) with rfl | rfl | rfl | rfl | rfl | rfl | rfl
  · exact mw_57
  · exact mw_59
  · exact mw_61
  · exact mw_63
  · exact mw_65
  · exact mw_67
  · exact mw_69
theorem dfX8 : ∀ j, j < 7 → defaultValue (tyX8 j) = vp_V [.null, .null, .int 0, .int 0, .int 0, .null, .null] j := by
  intro k hk
  rcases (show k = 0 ∨ k = 1 ∨ k = 2 ∨ k = 3 ∨ k = 4 ∨ k = 5 ∨ k = 6 by omega) with rfl | rfl | rfl | rfl | rfl | rfl | rfl <;> rfl
set_option maxRecDepth 20000 in
theorem inX9 : ∀ w ∈ u_ws RX9 TX9 6, w ∈ gT := by
  intro w h
  obtain ⟨k, hk, rfl⟩ := List.mem_map.mp h
  have hk := List.mem_range.mp hk
  rcases (show k = 0 ∨ k = 1 ∨ k = 2 ∨ k = 3 ∨ k = 4 ∨ k = 5 by omega) with rfl | rfl | rfl | rfl | rfl | rfl
  · exact mw_85
  · exact mw_87
  · exact mw_89
  · exact mw_91
  · exact mw_93
  · exact mw_95
theorem dfX9 : ∀ j, j < 6 → defaultValue (tyX9 j) = vp_V [.int 0, .int 0, .int 0, .int 0, .int 0, .int 0] j := by
  intro k hk
  rcases (show k = 0 ∨ k = 1 ∨ k = 2 ∨ k = 3 ∨ k = 4 ∨ k = 5 by omega) with rfl | rfl | rfl | rfl | rfl | rfl <;> rfl
set_option maxRecDepth 20000 in
theorem inX10 : ∀ w ∈ u_ws RX10 TX10 15, w ∈ gT := by
  intro w h
  obtain ⟨k, hk, rfl⟩ := List.mem_map.mp h
  have hk := List.mem_range.mp hk
  rcases (show k = 0 ∨ k = 1 ∨ k = 2 ∨ k = 3 ∨ k = 4 ∨ k = 5 ∨ k = 6 ∨ k = 7 ∨ k = 8 ∨ k = 9 ∨ k = 10 ∨ k = 11 ∨ k = 12 ∨ k = 13 ∨ k = 14 by omega) with rfl | rfl | rfl | rfl | rfl | rfl | rfl | rfl | rfl | rfl | rfl | rfl | rfl | rfl | rfl
  · exact mw_216
  · exact mw_218
  · exact mw_220
  · exact mw_222
  · exact mw_224
  · exact mw_226
  · exact mw_228
  · exact mw_230
  · exact mw_232
  · exact mw_234
  · exact mw_236
  · exact mw_238
  · exact mw_240
  · exact mw_242
  · exact mw_244
theorem dfX10 : ∀ j, j < 15 → defaultValue (tyX10 j) = vp_V [.null, .int 0, .null, .int 0, .null, .int 0, .null, .int 0, .null, .null, .null, .null, .null, .null, .null] j := by
  intro k hk
  rcases (show k = 0 ∨ k = 1 ∨ k = 2 ∨ k = 3 ∨ k = 4 ∨ k = 5 ∨ k = 6 ∨ k = 7 ∨ k = 8 ∨ k = 9 ∨ k = 10 ∨ k = 11 ∨ k = 12 ∨ k = 13 ∨ k = 14 by omega) with rfl | rfl | rfl | rfl | rfl | rfl | rfl | rfl | rfl | rfl | rfl | rfl | rfl | rfl | rfl <;> rfl
set_option maxRecDepth 20000 in
theorem inX11 : ∀ w ∈ u_ws RX11 TX11 56, w ∈ gT := by
  intro w h
  obtain ⟨k, hk, rfl⟩ := List.mem_map.mp h
  have hk := List.mem_range.mp hk
  rcases (show k = 0 ∨ k = 1 ∨ k = 2 ∨ k = 3 ∨ k = 4 ∨ k = 5 ∨ k = 6 ∨ k = 7 ∨ k = 8 ∨ k = 9 ∨ k = 10 ∨ k = 11 ∨ k = 12 ∨ k = 13 ∨ k = 14 ∨ k = 15 ∨ k = 16 ∨ k = 17 ∨ k = 18 ∨ k = 19 ∨ k = 20 ∨ k = 21 ∨ k = 22 ∨ k = 23 ∨ k = 24 ∨ k = 25 ∨ k = 26 ∨ k = 27 ∨ k = 28 ∨ k = 29 ∨ k = 30 ∨ k = 31 ∨ k = 32 ∨ k = 33 ∨ k = 34 ∨ k = 35 ∨ k = 36 ∨ k = 37 ∨ k = 38 ∨ k = 39 ∨ k = 40 ∨ k = 41 ∨ k = 42 ∨ k = 43 ∨ k = 44 ∨ k = 45 ∨ k = 46 ∨ k = 47 ∨ k = 48 ∨ k = 49 ∨ k = 50 ∨ k = 51 ∨ k = 52 ∨ k = 53 ∨ k = 54 ∨ k = 55 by omega) with rfl | rfl | rfl | rfl | rfl | rfl | rfl | rfl | rfl | rfl | rfl | rfl | rfl | rfl | rfl | rfl | rfl | rfl | rfl | rfl | rfl | rfl | rfl | rfl | rfl | rfl | rfl | rfl | rfl | rfl | rfl | rfl | rfl | rfl | rfl | rfl | rfl | rfl | rfl | rfl | rfl | rfl | rfl | rfl | rfl | rfl | rfl | rfl | rfl | rfl | rfl | rfl | rfl | rfl | rfl | rfl
  · exact mw_936
  · exact mw_938
  · exact mw_940
  · exact mw_942
  · exact mw_944
  · exact mw_946
  · exact mw_948
  · exact mw_950
  · exact mw_952
  · exact mw_954
  · exact mw_956
  · exact mw_958
  · exact mw_960
  · exact mw_962
  · exact mw_964
  · exact mw_966
  · exact mw_968
  · exact mw_970
  · exact mw_972
  · exact mw_974
  · exact mw_976
  · exact mw_978
  · exact mw_980
  · exact mw_982
  · exact mw_984
  · exact mw_986
  · exact mw_988
  · exact mw_990
  · exact mw_992
  · exact mw_994
  · exact mw_996
  · exact mw_998
  · exact mw_1000
  · exact mw_1002
  · exact mw_1004
  · exact mw_1006
  · exact mw_1008
  · exact mw_1010
  · exact mw_1012
  · exact mw_1014
  · exact mw_1016
  · exact mw_1018
  · exact mw_1020
  · exact mw_1022
  · exact mw_1024
  · exact mw_1026
  · exact mw_1028
  · exact mw_1030
  · exact mw_1032
  · exact mw_1034
  · exact mw_1036
  · exact mw_1038
  · exact mw_1040
  · exact mw_1042
  · exact mw_1044
  · exact mw_1046
theorem dfX11 : ∀ j, j < 56 → defaultValue (tyX11 j) = vp_V [.int 0, .int 0, .int 0, .int 0, .int 0, .int 0, .null, .null, .null, .null, .null, .null, .null, .null, .null, .null, .null, .null, .null, .null, .null, .null, .null, .null, .null, .null, .null, .null, .null, .int 0, .int 0, .null, .null, .null, .null, .null, .null, .null, .null, .null, .null, .null, .null, .null, .null, .null, .null, .null, .int 0, .int 0, .null, .null, .int 0, .null, .null, .null] j := by
  intro k hk
  rcases (show k = 0 ∨ k = 1 ∨ k = 2 ∨ k = 3 ∨ k = 4 ∨ k = 5 ∨ k = 6 ∨ k = 7 ∨ k = 8 ∨ k = 9 ∨ k = 10 ∨ k = 11 ∨ k = 12 ∨ k = 13 ∨ k = 14 ∨ k = 15 ∨ k = 16 ∨ k = 17 ∨ k = 18 ∨ k = 19 ∨ k = 20 ∨ k = 21 ∨ k = 22 ∨ k = 23 ∨ k = 24 ∨ k = 25 ∨ k = 26 ∨ k = 27 ∨ k = 28 ∨ k = 29 ∨ k = 30 ∨ k = 31 ∨ k = 32 ∨ k = 33 ∨ k = 34 ∨ k = 35 ∨ k = 36 ∨ k = 37 ∨ k = 38 ∨ k = 39 ∨ k = 40 ∨ k = 41 ∨ k = 42 ∨ k = 43 ∨ k = 44 ∨ k = 45 ∨ k = 46 ∨ k = 47 ∨ k = 48 ∨ k = 49 ∨ k = 50 ∨ k = 51 ∨ k = 52 ∨ k = 53 ∨ k = 54 ∨ k = 55 by omega) with rfl | rfl | rfl | rfl | rfl | rfl | rfl | rfl | rfl | rfl | rfl | rfl | rfl | rfl | rfl | rfl | rfl | rfl | rfl | rfl | rfl | rfl | rfl | rfl | rfl | rfl | rfl | rfl | rfl | rfl | rfl | rfl | rfl | rfl | rfl | rfl | rfl | rfl | rfl | rfl | rfl | rfl | rfl | rfl | rfl | rfl | rfl | rfl | rfl | rfl | rfl | rfl | rfl | rfl | rfl | rfl <;> rfl
theorem ds_J13_bitCount_95d88 : yJ13_bitCount_95d88.cls ≠ "java/lang/invoke/MethodHandle" ∧ yJ13_bitCount_95d88.cls ≠ "java/lang/invoke/VarHandle" ∧ (parseMethodDescriptor yJ13_bitCount_95d88.desc).map (fun d => d.parameters.length) = some 1 := by decide +kernel
theorem ds_J7_fill_53178 : yJ7_fill_53178.cls ≠ "java/lang/invoke/MethodHandle" ∧ yJ7_fill_53178.cls ≠ "java/lang/invoke/VarHandle" ∧ (parseMethodDescriptor yJ7_fill_53178.desc).map (fun d => d.parameters.length) = some 2 := by decide +kernel
theorem ds_J9_max_7cf53 : yJ9_max_7cf53.cls ≠ "java/lang/invoke/MethodHandle" ∧ yJ9_max_7cf53.cls ≠ "java/lang/invoke/VarHandle" ∧ (parseMethodDescriptor yJ9_max_7cf53.desc).map (fun d => d.parameters.length) = some 2 := by decide +kernel
theorem ds_J9_min_7cf53 : yJ9_min_7cf53.cls ≠ "java/lang/invoke/MethodHandle" ∧ yJ9_min_7cf53.cls ≠ "java/lang/invoke/VarHandle" ∧ (parseMethodDescriptor yJ9_min_7cf53.desc).map (fun d => d.parameters.length) = some 2 := by decide +kernel
theorem ds_X0_cookOver : yX0_cookOver.cls ≠ "java/lang/invoke/MethodHandle" ∧ yX0_cookOver.cls ≠ "java/lang/invoke/VarHandle" ∧ (parseMethodDescriptor yX0_cookOver.desc).map (fun d => d.parameters.length) = some 2 := by decide +kernel
theorem ds_X0_fault : yX0_fault.cls ≠ "java/lang/invoke/MethodHandle" ∧ yX0_fault.cls ≠ "java/lang/invoke/VarHandle" ∧ (parseMethodDescriptor yX0_fault.desc).map (fun d => d.parameters.length) = some 1 := by decide +kernel
theorem ds_X0_findGrained : yX0_findGrained.cls ≠ "java/lang/invoke/MethodHandle" ∧ yX0_findGrained.cls ≠ "java/lang/invoke/VarHandle" ∧ (parseMethodDescriptor yX0_findGrained.desc).map (fun d => d.parameters.length) = some 3 := by decide +kernel
theorem ds_X0_findTop : yX0_findTop.cls ≠ "java/lang/invoke/MethodHandle" ∧ yX0_findTop.cls ≠ "java/lang/invoke/VarHandle" ∧ (parseMethodDescriptor yX0_findTop.desc).map (fun d => d.parameters.length) = some 1 := by decide +kernel
theorem ds_X0_init : yX0_init.cls ≠ "java/lang/invoke/MethodHandle" ∧ yX0_init.cls ≠ "java/lang/invoke/VarHandle" ∧ (parseMethodDescriptor yX0_init.desc).map (fun d => d.parameters.length) = some 1 := by decide +kernel
theorem ds_X0_tell : yX0_tell.cls ≠ "java/lang/invoke/MethodHandle" ∧ yX0_tell.cls ≠ "java/lang/invoke/VarHandle" ∧ (parseMethodDescriptor yX0_tell.desc).map (fun d => d.parameters.length) = some 1 := by decide +kernel
theorem ds_X10_about : yX10_about.cls ≠ "java/lang/invoke/MethodHandle" ∧ yX10_about.cls ≠ "java/lang/invoke/VarHandle" ∧ (parseMethodDescriptor yX10_about.desc).map (fun d => d.parameters.length) = some 1 := by decide +kernel
theorem ds_X10_allow : yX10_allow.cls ≠ "java/lang/invoke/MethodHandle" ∧ yX10_allow.cls ≠ "java/lang/invoke/VarHandle" ∧ (parseMethodDescriptor yX10_allow.desc).map (fun d => d.parameters.length) = some 1 := by decide +kernel
theorem ds_X10_at : yX10_at.cls ≠ "java/lang/invoke/MethodHandle" ∧ yX10_at.cls ≠ "java/lang/invoke/VarHandle" ∧ (parseMethodDescriptor yX10_at.desc).map (fun d => d.parameters.length) = some 2 := by decide +kernel
theorem ds_X10_batch : yX10_batch.cls ≠ "java/lang/invoke/MethodHandle" ∧ yX10_batch.cls ≠ "java/lang/invoke/VarHandle" ∧ (parseMethodDescriptor yX10_batch.desc).map (fun d => d.parameters.length) = some 1 := by decide +kernel
theorem ds_X10_batchOf : yX10_batchOf.cls ≠ "java/lang/invoke/MethodHandle" ∧ yX10_batchOf.cls ≠ "java/lang/invoke/VarHandle" ∧ (parseMethodDescriptor yX10_batchOf.desc).map (fun d => d.parameters.length) = some 2 := by decide +kernel
theorem ds_X10_bounds : yX10_bounds.cls ≠ "java/lang/invoke/MethodHandle" ∧ yX10_bounds.cls ≠ "java/lang/invoke/VarHandle" ∧ (parseMethodDescriptor yX10_bounds.desc).map (fun d => d.parameters.length) = some 3 := by decide +kernel
theorem ds_X10_boxOf : yX10_boxOf.cls ≠ "java/lang/invoke/MethodHandle" ∧ yX10_boxOf.cls ≠ "java/lang/invoke/VarHandle" ∧ (parseMethodDescriptor yX10_boxOf.desc).map (fun d => d.parameters.length) = some 2 := by decide +kernel
theorem ds_X10_canBeAsked : yX10_canBeAsked.cls ≠ "java/lang/invoke/MethodHandle" ∧ yX10_canBeAsked.cls ≠ "java/lang/invoke/VarHandle" ∧ (parseMethodDescriptor yX10_canBeAsked.desc).map (fun d => d.parameters.length) = some 3 := by decide +kernel
theorem ds_X10_cook : yX10_cook.cls ≠ "java/lang/invoke/MethodHandle" ∧ yX10_cook.cls ≠ "java/lang/invoke/VarHandle" ∧ (parseMethodDescriptor yX10_cook.desc).map (fun d => d.parameters.length) = some 2 := by decide +kernel
theorem ds_X10_countFit : yX10_countFit.cls ≠ "java/lang/invoke/MethodHandle" ∧ yX10_countFit.cls ≠ "java/lang/invoke/VarHandle" ∧ (parseMethodDescriptor yX10_countFit.desc).map (fun d => d.parameters.length) = some 0 := by decide +kernel
theorem ds_X10_countFull : yX10_countFull.cls ≠ "java/lang/invoke/MethodHandle" ∧ yX10_countFull.cls ≠ "java/lang/invoke/VarHandle" ∧ (parseMethodDescriptor yX10_countFull.desc).map (fun d => d.parameters.length) = some 3 := by decide +kernel
theorem ds_X10_cut : yX10_cut.cls ≠ "java/lang/invoke/MethodHandle" ∧ yX10_cut.cls ≠ "java/lang/invoke/VarHandle" ∧ (parseMethodDescriptor yX10_cut.desc).map (fun d => d.parameters.length) = some 3 := by decide +kernel
theorem ds_X10_dip : yX10_dip.cls ≠ "java/lang/invoke/MethodHandle" ∧ yX10_dip.cls ≠ "java/lang/invoke/VarHandle" ∧ (parseMethodDescriptor yX10_dip.desc).map (fun d => d.parameters.length) = some 3 := by decide +kernel
theorem ds_X10_findBatch : yX10_findBatch.cls ≠ "java/lang/invoke/MethodHandle" ∧ yX10_findBatch.cls ≠ "java/lang/invoke/VarHandle" ∧ (parseMethodDescriptor yX10_findBatch.desc).map (fun d => d.parameters.length) = some 1 := by decide +kernel
theorem ds_X10_findBox : yX10_findBox.cls ≠ "java/lang/invoke/MethodHandle" ∧ yX10_findBox.cls ≠ "java/lang/invoke/VarHandle" ∧ (parseMethodDescriptor yX10_findBox.desc).map (fun d => d.parameters.length) = some 1 := by decide +kernel
theorem ds_X10_findGood : yX10_findGood.cls ≠ "java/lang/invoke/MethodHandle" ∧ yX10_findGood.cls ≠ "java/lang/invoke/VarHandle" ∧ (parseMethodDescriptor yX10_findGood.desc).map (fun d => d.parameters.length) = some 1 := by decide +kernel
theorem ds_X10_findLot : yX10_findLot.cls ≠ "java/lang/invoke/MethodHandle" ∧ yX10_findLot.cls ≠ "java/lang/invoke/VarHandle" ∧ (parseMethodDescriptor yX10_findLot.desc).map (fun d => d.parameters.length) = some 1 := by decide +kernel
theorem ds_X10_findPiece : yX10_findPiece.cls ≠ "java/lang/invoke/MethodHandle" ∧ yX10_findPiece.cls ≠ "java/lang/invoke/VarHandle" ∧ (parseMethodDescriptor yX10_findPiece.desc).map (fun d => d.parameters.length) = some 1 := by decide +kernel
theorem ds_X10_findRaw : yX10_findRaw.cls ≠ "java/lang/invoke/MethodHandle" ∧ yX10_findRaw.cls ≠ "java/lang/invoke/VarHandle" ∧ (parseMethodDescriptor yX10_findRaw.desc).map (fun d => d.parameters.length) = some 1 := by decide +kernel
theorem ds_X10_findUnboxed : yX10_findUnboxed.cls ≠ "java/lang/invoke/MethodHandle" ∧ yX10_findUnboxed.cls ≠ "java/lang/invoke/VarHandle" ∧ (parseMethodDescriptor yX10_findUnboxed.desc).map (fun d => d.parameters.length) = some 1 := by decide +kernel
theorem ds_X10_gather : yX10_gather.cls ≠ "java/lang/invoke/MethodHandle" ∧ yX10_gather.cls ≠ "java/lang/invoke/VarHandle" ∧ (parseMethodDescriptor yX10_gather.desc).map (fun d => d.parameters.length) = some 2 := by decide +kernel
theorem ds_X10_grain : yX10_grain.cls ≠ "java/lang/invoke/MethodHandle" ∧ yX10_grain.cls ≠ "java/lang/invoke/VarHandle" ∧ (parseMethodDescriptor yX10_grain.desc).map (fun d => d.parameters.length) = some 2 := by decide +kernel
theorem ds_X10_heat : yX10_heat.cls ≠ "java/lang/invoke/MethodHandle" ∧ yX10_heat.cls ≠ "java/lang/invoke/VarHandle" ∧ (parseMethodDescriptor yX10_heat.desc).map (fun d => d.parameters.length) = some 2 := by decide +kernel
theorem ds_X10_init : yX10_init.cls ≠ "java/lang/invoke/MethodHandle" ∧ yX10_init.cls ≠ "java/lang/invoke/VarHandle" ∧ (parseMethodDescriptor yX10_init.desc).map (fun d => d.parameters.length) = some 0 := by decide +kernel
theorem ds_X10_isCut : yX10_isCut.cls ≠ "java/lang/invoke/MethodHandle" ∧ yX10_isCut.cls ≠ "java/lang/invoke/VarHandle" ∧ (parseMethodDescriptor yX10_isCut.desc).map (fun d => d.parameters.length) = some 1 := by decide +kernel
theorem ds_X10_isKind : yX10_isKind.cls ≠ "java/lang/invoke/MethodHandle" ∧ yX10_isKind.cls ≠ "java/lang/invoke/VarHandle" ∧ (parseMethodDescriptor yX10_isKind.desc).map (fun d => d.parameters.length) = some 1 := by decide +kernel
theorem ds_X10_left : yX10_left.cls ≠ "java/lang/invoke/MethodHandle" ∧ yX10_left.cls ≠ "java/lang/invoke/VarHandle" ∧ (parseMethodDescriptor yX10_left.desc).map (fun d => d.parameters.length) = some 1 := by decide +kernel
theorem ds_X10_liftFromTray : yX10_liftFromTray.cls ≠ "java/lang/invoke/MethodHandle" ∧ yX10_liftFromTray.cls ≠ "java/lang/invoke/VarHandle" ∧ (parseMethodDescriptor yX10_liftFromTray.desc).map (fun d => d.parameters.length) = some 1 := by decide +kernel
theorem ds_X10_lot : yX10_lot.cls ≠ "java/lang/invoke/MethodHandle" ∧ yX10_lot.cls ≠ "java/lang/invoke/VarHandle" ∧ (parseMethodDescriptor yX10_lot.desc).map (fun d => d.parameters.length) = some 2 := by decide +kernel
theorem ds_X10_lotsIn : yX10_lotsIn.cls ≠ "java/lang/invoke/MethodHandle" ∧ yX10_lotsIn.cls ≠ "java/lang/invoke/VarHandle" ∧ (parseMethodDescriptor yX10_lotsIn.desc).map (fun d => d.parameters.length) = some 2 := by decide +kernel
theorem ds_X10_moveToBox : yX10_moveToBox.cls ≠ "java/lang/invoke/MethodHandle" ∧ yX10_moveToBox.cls ≠ "java/lang/invoke/VarHandle" ∧ (parseMethodDescriptor yX10_moveToBox.desc).map (fun d => d.parameters.length) = some 2 := by decide +kernel
theorem ds_X10_order : yX10_order.cls ≠ "java/lang/invoke/MethodHandle" ∧ yX10_order.cls ≠ "java/lang/invoke/VarHandle" ∧ (parseMethodDescriptor yX10_order.desc).map (fun d => d.parameters.length) = some 2 := by decide +kernel
theorem ds_X10_pack : yX10_pack.cls ≠ "java/lang/invoke/MethodHandle" ∧ yX10_pack.cls ≠ "java/lang/invoke/VarHandle" ∧ (parseMethodDescriptor yX10_pack.desc).map (fun d => d.parameters.length) = some 3 := by decide +kernel
theorem ds_X10_pieceOf : yX10_pieceOf.cls ≠ "java/lang/invoke/MethodHandle" ∧ yX10_pieceOf.cls ≠ "java/lang/invoke/VarHandle" ∧ (parseMethodDescriptor yX10_pieceOf.desc).map (fun d => d.parameters.length) = some 2 := by decide +kernel
theorem ds_X10_place : yX10_place.cls ≠ "java/lang/invoke/MethodHandle" ∧ yX10_place.cls ≠ "java/lang/invoke/VarHandle" ∧ (parseMethodDescriptor yX10_place.desc).map (fun d => d.parameters.length) = some 3 := by decide +kernel
theorem ds_X10_put : yX10_put.cls ≠ "java/lang/invoke/MethodHandle" ∧ yX10_put.cls ≠ "java/lang/invoke/VarHandle" ∧ (parseMethodDescriptor yX10_put.desc).map (fun d => d.parameters.length) = some 3 := by decide +kernel
theorem ds_X10_queue : yX10_queue.cls ≠ "java/lang/invoke/MethodHandle" ∧ yX10_queue.cls ≠ "java/lang/invoke/VarHandle" ∧ (parseMethodDescriptor yX10_queue.desc).map (fun d => d.parameters.length) = some 1 := by decide +kernel
theorem ds_X10_recall : yX10_recall.cls ≠ "java/lang/invoke/MethodHandle" ∧ yX10_recall.cls ≠ "java/lang/invoke/VarHandle" ∧ (parseMethodDescriptor yX10_recall.desc).map (fun d => d.parameters.length) = some 3 := by decide +kernel
theorem ds_X10_restartCoats : yX10_restartCoats.cls ≠ "java/lang/invoke/MethodHandle" ∧ yX10_restartCoats.cls ≠ "java/lang/invoke/VarHandle" ∧ (parseMethodDescriptor yX10_restartCoats.desc).map (fun d => d.parameters.length) = some 0 := by decide +kernel
theorem ds_X10_row : yX10_row.cls ≠ "java/lang/invoke/MethodHandle" ∧ yX10_row.cls ≠ "java/lang/invoke/VarHandle" ∧ (parseMethodDescriptor yX10_row.desc).map (fun d => d.parameters.length) = some 3 := by decide +kernel
theorem ds_X10_spotOf : yX10_spotOf.cls ≠ "java/lang/invoke/MethodHandle" ∧ yX10_spotOf.cls ≠ "java/lang/invoke/VarHandle" ∧ (parseMethodDescriptor yX10_spotOf.desc).map (fun d => d.parameters.length) = some 2 := by decide +kernel
theorem ds_X10_stir : yX10_stir.cls ≠ "java/lang/invoke/MethodHandle" ∧ yX10_stir.cls ≠ "java/lang/invoke/VarHandle" ∧ (parseMethodDescriptor yX10_stir.desc).map (fun d => d.parameters.length) = some 3 := by decide +kernel
theorem ds_X10_table : yX10_table.cls ≠ "java/lang/invoke/MethodHandle" ∧ yX10_table.cls ≠ "java/lang/invoke/VarHandle" ∧ (parseMethodDescriptor yX10_table.desc).map (fun d => d.parameters.length) = some 2 := by decide +kernel
theorem ds_X10_take : yX10_take.cls ≠ "java/lang/invoke/MethodHandle" ∧ yX10_take.cls ≠ "java/lang/invoke/VarHandle" ∧ (parseMethodDescriptor yX10_take.desc).map (fun d => d.parameters.length) = some 1 := by decide +kernel
theorem ds_X10_temper : yX10_temper.cls ≠ "java/lang/invoke/MethodHandle" ∧ yX10_temper.cls ≠ "java/lang/invoke/VarHandle" ∧ (parseMethodDescriptor yX10_temper.desc).map (fun d => d.parameters.length) = some 6 := by decide +kernel
theorem ds_X10_tick : yX10_tick.cls ≠ "java/lang/invoke/MethodHandle" ∧ yX10_tick.cls ≠ "java/lang/invoke/VarHandle" ∧ (parseMethodDescriptor yX10_tick.desc).map (fun d => d.parameters.length) = some 3 := by decide +kernel
theorem ds_X10_vouch : yX10_vouch.cls ≠ "java/lang/invoke/MethodHandle" ∧ yX10_vouch.cls ≠ "java/lang/invoke/VarHandle" ∧ (parseMethodDescriptor yX10_vouch.desc).map (fun d => d.parameters.length) = some 1 := by decide +kernel
theorem ds_X10_warningsOf : yX10_warningsOf.cls ≠ "java/lang/invoke/MethodHandle" ∧ yX10_warningsOf.cls ≠ "java/lang/invoke/VarHandle" ∧ (parseMethodDescriptor yX10_warningsOf.desc).map (fun d => d.parameters.length) = some 1 := by decide +kernel
theorem ds_X10_wash : yX10_wash.cls ≠ "java/lang/invoke/MethodHandle" ∧ yX10_wash.cls ≠ "java/lang/invoke/VarHandle" ∧ (parseMethodDescriptor yX10_wash.desc).map (fun d => d.parameters.length) = some 3 := by decide +kernel
theorem ds_X10_why : yX10_why.cls ≠ "java/lang/invoke/MethodHandle" ∧ yX10_why.cls ≠ "java/lang/invoke/VarHandle" ∧ (parseMethodDescriptor yX10_why.desc).map (fun d => d.parameters.length) = some 1 := by decide +kernel
theorem ds_X10_within : yX10_within.cls ≠ "java/lang/invoke/MethodHandle" ∧ yX10_within.cls ≠ "java/lang/invoke/VarHandle" ∧ (parseMethodDescriptor yX10_within.desc).map (fun d => d.parameters.length) = some 3 := by decide +kernel
theorem ds_X10_would : yX10_would.cls ≠ "java/lang/invoke/MethodHandle" ∧ yX10_would.cls ≠ "java/lang/invoke/VarHandle" ∧ (parseMethodDescriptor yX10_would.desc).map (fun d => d.parameters.length) = some 4 := by decide +kernel
theorem ds_X11_about : yX11_about.cls ≠ "java/lang/invoke/MethodHandle" ∧ yX11_about.cls ≠ "java/lang/invoke/VarHandle" ∧ (parseMethodDescriptor yX11_about.desc).map (fun d => d.parameters.length) = some 1 := by decide +kernel
theorem ds_X11_allow : yX11_allow.cls ≠ "java/lang/invoke/MethodHandle" ∧ yX11_allow.cls ≠ "java/lang/invoke/VarHandle" ∧ (parseMethodDescriptor yX11_allow.desc).map (fun d => d.parameters.length) = some 1 := by decide +kernel
theorem ds_X11_areNumbers : yX11_areNumbers.cls ≠ "java/lang/invoke/MethodHandle" ∧ yX11_areNumbers.cls ≠ "java/lang/invoke/VarHandle" ∧ (parseMethodDescriptor yX11_areNumbers.desc).map (fun d => d.parameters.length) = some 3 := by decide +kernel
theorem ds_X11_at : yX11_at.cls ≠ "java/lang/invoke/MethodHandle" ∧ yX11_at.cls ≠ "java/lang/invoke/VarHandle" ∧ (parseMethodDescriptor yX11_at.desc).map (fun d => d.parameters.length) = some 2 := by decide +kernel
theorem ds_X11_batch : yX11_batch.cls ≠ "java/lang/invoke/MethodHandle" ∧ yX11_batch.cls ≠ "java/lang/invoke/VarHandle" ∧ (parseMethodDescriptor yX11_batch.desc).map (fun d => d.parameters.length) = some 1 := by decide +kernel
theorem ds_X11_batchOf : yX11_batchOf.cls ≠ "java/lang/invoke/MethodHandle" ∧ yX11_batchOf.cls ≠ "java/lang/invoke/VarHandle" ∧ (parseMethodDescriptor yX11_batchOf.desc).map (fun d => d.parameters.length) = some 2 := by decide +kernel
theorem ds_X11_bounds : yX11_bounds.cls ≠ "java/lang/invoke/MethodHandle" ∧ yX11_bounds.cls ≠ "java/lang/invoke/VarHandle" ∧ (parseMethodDescriptor yX11_bounds.desc).map (fun d => d.parameters.length) = some 3 := by decide +kernel
theorem ds_X11_boxHas : yX11_boxHas.cls ≠ "java/lang/invoke/MethodHandle" ∧ yX11_boxHas.cls ≠ "java/lang/invoke/VarHandle" ∧ (parseMethodDescriptor yX11_boxHas.desc).map (fun d => d.parameters.length) = some 2 := by decide +kernel
theorem ds_X11_boxOf : yX11_boxOf.cls ≠ "java/lang/invoke/MethodHandle" ∧ yX11_boxOf.cls ≠ "java/lang/invoke/VarHandle" ∧ (parseMethodDescriptor yX11_boxOf.desc).map (fun d => d.parameters.length) = some 2 := by decide +kernel
theorem ds_X11_choose : yX11_choose.cls ≠ "java/lang/invoke/MethodHandle" ∧ yX11_choose.cls ≠ "java/lang/invoke/VarHandle" ∧ (parseMethodDescriptor yX11_choose.desc).map (fun d => d.parameters.length) = some 1 := by decide +kernel
theorem ds_X11_cook : yX11_cook.cls ≠ "java/lang/invoke/MethodHandle" ∧ yX11_cook.cls ≠ "java/lang/invoke/VarHandle" ∧ (parseMethodDescriptor yX11_cook.desc).map (fun d => d.parameters.length) = some 2 := by decide +kernel
theorem ds_X11_cut : yX11_cut.cls ≠ "java/lang/invoke/MethodHandle" ∧ yX11_cut.cls ≠ "java/lang/invoke/VarHandle" ∧ (parseMethodDescriptor yX11_cut.desc).map (fun d => d.parameters.length) = some 3 := by decide +kernel
theorem ds_X11_degree : yX11_degree.cls ≠ "java/lang/invoke/MethodHandle" ∧ yX11_degree.cls ≠ "java/lang/invoke/VarHandle" ∧ (parseMethodDescriptor yX11_degree.desc).map (fun d => d.parameters.length) = some 2 := by decide +kernel
theorem ds_X11_dip : yX11_dip.cls ≠ "java/lang/invoke/MethodHandle" ∧ yX11_dip.cls ≠ "java/lang/invoke/VarHandle" ∧ (parseMethodDescriptor yX11_dip.desc).map (fun d => d.parameters.length) = some 3 := by decide +kernel
theorem ds_X11_full : yX11_full.cls ≠ "java/lang/invoke/MethodHandle" ∧ yX11_full.cls ≠ "java/lang/invoke/VarHandle" ∧ (parseMethodDescriptor yX11_full.desc).map (fun d => d.parameters.length) = some 2 := by decide +kernel
theorem ds_X11_gather : yX11_gather.cls ≠ "java/lang/invoke/MethodHandle" ∧ yX11_gather.cls ≠ "java/lang/invoke/VarHandle" ∧ (parseMethodDescriptor yX11_gather.desc).map (fun d => d.parameters.length) = some 0 := by decide +kernel
theorem ds_X11_grain : yX11_grain.cls ≠ "java/lang/invoke/MethodHandle" ∧ yX11_grain.cls ≠ "java/lang/invoke/VarHandle" ∧ (parseMethodDescriptor yX11_grain.desc).map (fun d => d.parameters.length) = some 2 := by decide +kernel
theorem ds_X11_hasLot : yX11_hasLot.cls ≠ "java/lang/invoke/MethodHandle" ∧ yX11_hasLot.cls ≠ "java/lang/invoke/VarHandle" ∧ (parseMethodDescriptor yX11_hasLot.desc).map (fun d => d.parameters.length) = some 2 := by decide +kernel
theorem ds_X11_hasSome : yX11_hasSome.cls ≠ "java/lang/invoke/MethodHandle" ∧ yX11_hasSome.cls ≠ "java/lang/invoke/VarHandle" ∧ (parseMethodDescriptor yX11_hasSome.desc).map (fun d => d.parameters.length) = some 3 := by decide +kernel
theorem ds_X11_heat : yX11_heat.cls ≠ "java/lang/invoke/MethodHandle" ∧ yX11_heat.cls ≠ "java/lang/invoke/VarHandle" ∧ (parseMethodDescriptor yX11_heat.desc).map (fun d => d.parameters.length) = some 2 := by decide +kernel
theorem ds_X11_init : yX11_init.cls ≠ "java/lang/invoke/MethodHandle" ∧ yX11_init.cls ≠ "java/lang/invoke/VarHandle" ∧ (parseMethodDescriptor yX11_init.desc).map (fun d => d.parameters.length) = some 0 := by decide +kernel
theorem ds_X11_isBatch : yX11_isBatch.cls ≠ "java/lang/invoke/MethodHandle" ∧ yX11_isBatch.cls ≠ "java/lang/invoke/VarHandle" ∧ (parseMethodDescriptor yX11_isBatch.desc).map (fun d => d.parameters.length) = some 1 := by decide +kernel
theorem ds_X11_isFit : yX11_isFit.cls ≠ "java/lang/invoke/MethodHandle" ∧ yX11_isFit.cls ≠ "java/lang/invoke/VarHandle" ∧ (parseMethodDescriptor yX11_isFit.desc).map (fun d => d.parameters.length) = some 1 := by decide +kernel
theorem ds_X11_isGood : yX11_isGood.cls ≠ "java/lang/invoke/MethodHandle" ∧ yX11_isGood.cls ≠ "java/lang/invoke/VarHandle" ∧ (parseMethodDescriptor yX11_isGood.desc).map (fun d => d.parameters.length) = some 1 := by decide +kernel
theorem ds_X11_isIn : yX11_isIn.cls ≠ "java/lang/invoke/MethodHandle" ∧ yX11_isIn.cls ≠ "java/lang/invoke/VarHandle" ∧ (parseMethodDescriptor yX11_isIn.desc).map (fun d => d.parameters.length) = some 3 := by decide +kernel
theorem ds_X11_isInBox : yX11_isInBox.cls ≠ "java/lang/invoke/MethodHandle" ∧ yX11_isInBox.cls ≠ "java/lang/invoke/VarHandle" ∧ (parseMethodDescriptor yX11_isInBox.desc).map (fun d => d.parameters.length) = some 2 := by decide +kernel
theorem ds_X11_isNut : yX11_isNut.cls ≠ "java/lang/invoke/MethodHandle" ∧ yX11_isNut.cls ≠ "java/lang/invoke/VarHandle" ∧ (parseMethodDescriptor yX11_isNut.desc).map (fun d => d.parameters.length) = some 1 := by decide +kernel
theorem ds_X11_isOut : yX11_isOut.cls ≠ "java/lang/invoke/MethodHandle" ∧ yX11_isOut.cls ≠ "java/lang/invoke/VarHandle" ∧ (parseMethodDescriptor yX11_isOut.desc).map (fun d => d.parameters.length) = some 1 := by decide +kernel
theorem ds_X11_isRead : yX11_isRead.cls ≠ "java/lang/invoke/MethodHandle" ∧ yX11_isRead.cls ≠ "java/lang/invoke/VarHandle" ∧ (parseMethodDescriptor yX11_isRead.desc).map (fun d => d.parameters.length) = some 2 := by decide +kernel
theorem ds_X11_leastSum : yX11_leastSum.cls ≠ "java/lang/invoke/MethodHandle" ∧ yX11_leastSum.cls ≠ "java/lang/invoke/VarHandle" ∧ (parseMethodDescriptor yX11_leastSum.desc).map (fun d => d.parameters.length) = some 2 := by decide +kernel
theorem ds_X11_leave : yX11_leave.cls ≠ "java/lang/invoke/MethodHandle" ∧ yX11_leave.cls ≠ "java/lang/invoke/VarHandle" ∧ (parseMethodDescriptor yX11_leave.desc).map (fun d => d.parameters.length) = some 1 := by decide +kernel
theorem ds_X11_left : yX11_left.cls ≠ "java/lang/invoke/MethodHandle" ∧ yX11_left.cls ≠ "java/lang/invoke/VarHandle" ∧ (parseMethodDescriptor yX11_left.desc).map (fun d => d.parameters.length) = some 1 := by decide +kernel
theorem ds_X11_list : yX11_list.cls ≠ "java/lang/invoke/MethodHandle" ∧ yX11_list.cls ≠ "java/lang/invoke/VarHandle" ∧ (parseMethodDescriptor yX11_list.desc).map (fun d => d.parameters.length) = some 1 := by decide +kernel
theorem ds_X11_lossOf : yX11_lossOf.cls ≠ "java/lang/invoke/MethodHandle" ∧ yX11_lossOf.cls ≠ "java/lang/invoke/VarHandle" ∧ (parseMethodDescriptor yX11_lossOf.desc).map (fun d => d.parameters.length) = some 2 := by decide +kernel
theorem ds_X11_lot : yX11_lot.cls ≠ "java/lang/invoke/MethodHandle" ∧ yX11_lot.cls ≠ "java/lang/invoke/VarHandle" ∧ (parseMethodDescriptor yX11_lot.desc).map (fun d => d.parameters.length) = some 2 := by decide +kernel
theorem ds_X11_lotInBox : yX11_lotInBox.cls ≠ "java/lang/invoke/MethodHandle" ∧ yX11_lotInBox.cls ≠ "java/lang/invoke/VarHandle" ∧ (parseMethodDescriptor yX11_lotInBox.desc).map (fun d => d.parameters.length) = some 2 := by decide +kernel
theorem ds_X11_mayCome : yX11_mayCome.cls ≠ "java/lang/invoke/MethodHandle" ∧ yX11_mayCome.cls ≠ "java/lang/invoke/VarHandle" ∧ (parseMethodDescriptor yX11_mayCome.desc).map (fun d => d.parameters.length) = some 3 := by decide +kernel
theorem ds_X11_minutes : yX11_minutes.cls ≠ "java/lang/invoke/MethodHandle" ∧ yX11_minutes.cls ≠ "java/lang/invoke/VarHandle" ∧ (parseMethodDescriptor yX11_minutes.desc).map (fun d => d.parameters.length) = some 2 := by decide +kernel
theorem ds_X11_most : yX11_most.cls ≠ "java/lang/invoke/MethodHandle" ∧ yX11_most.cls ≠ "java/lang/invoke/VarHandle" ∧ (parseMethodDescriptor yX11_most.desc).map (fun d => d.parameters.length) = some 2 := by decide +kernel
theorem ds_X11_order : yX11_order.cls ≠ "java/lang/invoke/MethodHandle" ∧ yX11_order.cls ≠ "java/lang/invoke/VarHandle" ∧ (parseMethodDescriptor yX11_order.desc).map (fun d => d.parameters.length) = some 2 := by decide +kernel
theorem ds_X11_pack : yX11_pack.cls ≠ "java/lang/invoke/MethodHandle" ∧ yX11_pack.cls ≠ "java/lang/invoke/VarHandle" ∧ (parseMethodDescriptor yX11_pack.desc).map (fun d => d.parameters.length) = some 3 := by decide +kernel
theorem ds_X11_pieceHas : yX11_pieceHas.cls ≠ "java/lang/invoke/MethodHandle" ∧ yX11_pieceHas.cls ≠ "java/lang/invoke/VarHandle" ∧ (parseMethodDescriptor yX11_pieceHas.desc).map (fun d => d.parameters.length) = some 2 := by decide +kernel
theorem ds_X11_pieceInBox : yX11_pieceInBox.cls ≠ "java/lang/invoke/MethodHandle" ∧ yX11_pieceInBox.cls ≠ "java/lang/invoke/VarHandle" ∧ (parseMethodDescriptor yX11_pieceInBox.desc).map (fun d => d.parameters.length) = some 2 := by decide +kernel
theorem ds_X11_pieceOf : yX11_pieceOf.cls ≠ "java/lang/invoke/MethodHandle" ∧ yX11_pieceOf.cls ≠ "java/lang/invoke/VarHandle" ∧ (parseMethodDescriptor yX11_pieceOf.desc).map (fun d => d.parameters.length) = some 2 := by decide +kernel
theorem ds_X11_place : yX11_place.cls ≠ "java/lang/invoke/MethodHandle" ∧ yX11_place.cls ≠ "java/lang/invoke/VarHandle" ∧ (parseMethodDescriptor yX11_place.desc).map (fun d => d.parameters.length) = some 3 := by decide +kernel
theorem ds_X11_put : yX11_put.cls ≠ "java/lang/invoke/MethodHandle" ∧ yX11_put.cls ≠ "java/lang/invoke/VarHandle" ∧ (parseMethodDescriptor yX11_put.desc).map (fun d => d.parameters.length) = some 3 := by decide +kernel
theorem ds_X11_queue : yX11_queue.cls ≠ "java/lang/invoke/MethodHandle" ∧ yX11_queue.cls ≠ "java/lang/invoke/VarHandle" ∧ (parseMethodDescriptor yX11_queue.desc).map (fun d => d.parameters.length) = some 1 := by decide +kernel
theorem ds_X11_reaches8500 : yX11_reaches8500.cls ≠ "java/lang/invoke/MethodHandle" ∧ yX11_reaches8500.cls ≠ "java/lang/invoke/VarHandle" ∧ (parseMethodDescriptor yX11_reaches8500.desc).map (fun d => d.parameters.length) = some 0 := by decide +kernel
theorem ds_X11_recall : yX11_recall.cls ≠ "java/lang/invoke/MethodHandle" ∧ yX11_recall.cls ≠ "java/lang/invoke/VarHandle" ∧ (parseMethodDescriptor yX11_recall.desc).map (fun d => d.parameters.length) = some 3 := by decide +kernel
theorem ds_X11_reckon : yX11_reckon.cls ≠ "java/lang/invoke/MethodHandle" ∧ yX11_reckon.cls ≠ "java/lang/invoke/VarHandle" ∧ (parseMethodDescriptor yX11_reckon.desc).map (fun d => d.parameters.length) = some 1 := by decide +kernel
theorem ds_X11_restOf : yX11_restOf.cls ≠ "java/lang/invoke/MethodHandle" ∧ yX11_restOf.cls ≠ "java/lang/invoke/VarHandle" ∧ (parseMethodDescriptor yX11_restOf.desc).map (fun d => d.parameters.length) = some 2 := by decide +kernel
theorem ds_X11_row : yX11_row.cls ≠ "java/lang/invoke/MethodHandle" ∧ yX11_row.cls ≠ "java/lang/invoke/VarHandle" ∧ (parseMethodDescriptor yX11_row.desc).map (fun d => d.parameters.length) = some 3 := by decide +kernel
theorem ds_X11_sort : yX11_sort.cls ≠ "java/lang/invoke/MethodHandle" ∧ yX11_sort.cls ≠ "java/lang/invoke/VarHandle" ∧ (parseMethodDescriptor yX11_sort.desc).map (fun d => d.parameters.length) = some 1 := by decide +kernel
theorem ds_X11_stir : yX11_stir.cls ≠ "java/lang/invoke/MethodHandle" ∧ yX11_stir.cls ≠ "java/lang/invoke/VarHandle" ∧ (parseMethodDescriptor yX11_stir.desc).map (fun d => d.parameters.length) = some 3 := by decide +kernel
theorem ds_X11_table : yX11_table.cls ≠ "java/lang/invoke/MethodHandle" ∧ yX11_table.cls ≠ "java/lang/invoke/VarHandle" ∧ (parseMethodDescriptor yX11_table.desc).map (fun d => d.parameters.length) = some 2 := by decide +kernel
theorem ds_X11_take : yX11_take.cls ≠ "java/lang/invoke/MethodHandle" ∧ yX11_take.cls ≠ "java/lang/invoke/VarHandle" ∧ (parseMethodDescriptor yX11_take.desc).map (fun d => d.parameters.length) = some 1 := by decide +kernel
theorem ds_X11_temper : yX11_temper.cls ≠ "java/lang/invoke/MethodHandle" ∧ yX11_temper.cls ≠ "java/lang/invoke/VarHandle" ∧ (parseMethodDescriptor yX11_temper.desc).map (fun d => d.parameters.length) = some 6 := by decide +kernel
theorem ds_X11_tick : yX11_tick.cls ≠ "java/lang/invoke/MethodHandle" ∧ yX11_tick.cls ≠ "java/lang/invoke/VarHandle" ∧ (parseMethodDescriptor yX11_tick.desc).map (fun d => d.parameters.length) = some 3 := by decide +kernel
theorem ds_X11_vouch : yX11_vouch.cls ≠ "java/lang/invoke/MethodHandle" ∧ yX11_vouch.cls ≠ "java/lang/invoke/VarHandle" ∧ (parseMethodDescriptor yX11_vouch.desc).map (fun d => d.parameters.length) = some 1 := by decide +kernel
theorem ds_X11_wash : yX11_wash.cls ≠ "java/lang/invoke/MethodHandle" ∧ yX11_wash.cls ≠ "java/lang/invoke/VarHandle" ∧ (parseMethodDescriptor yX11_wash.desc).map (fun d => d.parameters.length) = some 3 := by decide +kernel
theorem ds_X11_why : yX11_why.cls ≠ "java/lang/invoke/MethodHandle" ∧ yX11_why.cls ≠ "java/lang/invoke/VarHandle" ∧ (parseMethodDescriptor yX11_why.desc).map (fun d => d.parameters.length) = some 1 := by decide +kernel
theorem ds_X11_would : yX11_would.cls ≠ "java/lang/invoke/MethodHandle" ∧ yX11_would.cls ≠ "java/lang/invoke/VarHandle" ∧ (parseMethodDescriptor yX11_would.desc).map (fun d => d.parameters.length) = some 4 := by decide +kernel
theorem ds_X1_add : yX1_add.cls ≠ "java/lang/invoke/MethodHandle" ∧ yX1_add.cls ≠ "java/lang/invoke/VarHandle" ∧ (parseMethodDescriptor yX1_add.desc).map (fun d => d.parameters.length) = some 2 := by decide +kernel
theorem ds_X1_init : yX1_init.cls ≠ "java/lang/invoke/MethodHandle" ∧ yX1_init.cls ≠ "java/lang/invoke/VarHandle" ∧ (parseMethodDescriptor yX1_init.desc).map (fun d => d.parameters.length) = some 3 := by decide +kernel
theorem ds_X1_lotAt : yX1_lotAt.cls ≠ "java/lang/invoke/MethodHandle" ∧ yX1_lotAt.cls ≠ "java/lang/invoke/VarHandle" ∧ (parseMethodDescriptor yX1_lotAt.desc).map (fun d => d.parameters.length) = some 1 := by decide +kernel
theorem ds_X1_tell : yX1_tell.cls ≠ "java/lang/invoke/MethodHandle" ∧ yX1_tell.cls ≠ "java/lang/invoke/VarHandle" ∧ (parseMethodDescriptor yX1_tell.desc).map (fun d => d.parameters.length) = some 1 := by decide +kernel
theorem ds_X2_add : yX2_add.cls ≠ "java/lang/invoke/MethodHandle" ∧ yX2_add.cls ≠ "java/lang/invoke/VarHandle" ∧ (parseMethodDescriptor yX2_add.desc).map (fun d => d.parameters.length) = some 2 := by decide +kernel
theorem ds_X2_addPiece : yX2_addPiece.cls ≠ "java/lang/invoke/MethodHandle" ∧ yX2_addPiece.cls ≠ "java/lang/invoke/VarHandle" ∧ (parseMethodDescriptor yX2_addPiece.desc).map (fun d => d.parameters.length) = some 2 := by decide +kernel
theorem ds_X2_canWeigh : yX2_canWeigh.cls ≠ "java/lang/invoke/MethodHandle" ∧ yX2_canWeigh.cls ≠ "java/lang/invoke/VarHandle" ∧ (parseMethodDescriptor yX2_canWeigh.desc).map (fun d => d.parameters.length) = some 2 := by decide +kernel
theorem ds_X2_choose : yX2_choose.cls ≠ "java/lang/invoke/MethodHandle" ∧ yX2_choose.cls ≠ "java/lang/invoke/VarHandle" ∧ (parseMethodDescriptor yX2_choose.desc).map (fun d => d.parameters.length) = some 2 := by decide +kernel
theorem ds_X2_countChosen : yX2_countChosen.cls ≠ "java/lang/invoke/MethodHandle" ∧ yX2_countChosen.cls ≠ "java/lang/invoke/VarHandle" ∧ (parseMethodDescriptor yX2_countChosen.desc).map (fun d => d.parameters.length) = some 0 := by decide +kernel
theorem ds_X2_init : yX2_init.cls ≠ "java/lang/invoke/MethodHandle" ∧ yX2_init.cls ≠ "java/lang/invoke/VarHandle" ∧ (parseMethodDescriptor yX2_init.desc).map (fun d => d.parameters.length) = some 0 := by decide +kernel
theorem ds_X2_markFirst : yX2_markFirst.cls ≠ "java/lang/invoke/MethodHandle" ∧ yX2_markFirst.cls ≠ "java/lang/invoke/VarHandle" ∧ (parseMethodDescriptor yX2_markFirst.desc).map (fun d => d.parameters.length) = some 1 := by decide +kernel
theorem ds_X2_sumUp : yX2_sumUp.cls ≠ "java/lang/invoke/MethodHandle" ∧ yX2_sumUp.cls ≠ "java/lang/invoke/VarHandle" ∧ (parseMethodDescriptor yX2_sumUp.desc).map (fun d => d.parameters.length) = some 1 := by decide +kernel
theorem ds_X2_total : yX2_total.cls ≠ "java/lang/invoke/MethodHandle" ∧ yX2_total.cls ≠ "java/lang/invoke/VarHandle" ∧ (parseMethodDescriptor yX2_total.desc).map (fun d => d.parameters.length) = some 0 := by decide +kernel
theorem ds_X3_add : yX3_add.cls ≠ "java/lang/invoke/MethodHandle" ∧ yX3_add.cls ≠ "java/lang/invoke/VarHandle" ∧ (parseMethodDescriptor yX3_add.desc).map (fun d => d.parameters.length) = some 2 := by decide +kernel
theorem ds_X3_countKinds : yX3_countKinds.cls ≠ "java/lang/invoke/MethodHandle" ∧ yX3_countKinds.cls ≠ "java/lang/invoke/VarHandle" ∧ (parseMethodDescriptor yX3_countKinds.desc).map (fun d => d.parameters.length) = some 0 := by decide +kernel
theorem ds_X3_countOn : yX3_countOn.cls ≠ "java/lang/invoke/MethodHandle" ∧ yX3_countOn.cls ≠ "java/lang/invoke/VarHandle" ∧ (parseMethodDescriptor yX3_countOn.desc).map (fun d => d.parameters.length) = some 0 := by decide +kernel
theorem ds_X3_empty : yX3_empty.cls ≠ "java/lang/invoke/MethodHandle" ∧ yX3_empty.cls ≠ "java/lang/invoke/VarHandle" ∧ (parseMethodDescriptor yX3_empty.desc).map (fun d => d.parameters.length) = some 0 := by decide +kernel
theorem ds_X3_findLeast : yX3_findLeast.cls ≠ "java/lang/invoke/MethodHandle" ∧ yX3_findLeast.cls ≠ "java/lang/invoke/VarHandle" ∧ (parseMethodDescriptor yX3_findLeast.desc).map (fun d => d.parameters.length) = some 2 := by decide +kernel
theorem ds_X3_findLeastOf : yX3_findLeastOf.cls ≠ "java/lang/invoke/MethodHandle" ∧ yX3_findLeastOf.cls ≠ "java/lang/invoke/VarHandle" ∧ (parseMethodDescriptor yX3_findLeastOf.desc).map (fun d => d.parameters.length) = some 2 := by decide +kernel
theorem ds_X3_findNext : yX3_findNext.cls ≠ "java/lang/invoke/MethodHandle" ∧ yX3_findNext.cls ≠ "java/lang/invoke/VarHandle" ∧ (parseMethodDescriptor yX3_findNext.desc).map (fun d => d.parameters.length) = some 3 := by decide +kernel
theorem ds_X3_findOrder : yX3_findOrder.cls ≠ "java/lang/invoke/MethodHandle" ∧ yX3_findOrder.cls ≠ "java/lang/invoke/VarHandle" ∧ (parseMethodDescriptor yX3_findOrder.desc).map (fun d => d.parameters.length) = some 1 := by decide +kernel
theorem ds_X3_followLeast : yX3_followLeast.cls ≠ "java/lang/invoke/MethodHandle" ∧ yX3_followLeast.cls ≠ "java/lang/invoke/VarHandle" ∧ (parseMethodDescriptor yX3_followLeast.desc).map (fun d => d.parameters.length) = some 2 := by decide +kernel
theorem ds_X3_init : yX3_init.cls ≠ "java/lang/invoke/MethodHandle" ∧ yX3_init.cls ≠ "java/lang/invoke/VarHandle" ∧ (parseMethodDescriptor yX3_init.desc).map (fun d => d.parameters.length) = some 0 := by decide +kernel
theorem ds_X3_leastOnce : yX3_leastOnce.cls ≠ "java/lang/invoke/MethodHandle" ∧ yX3_leastOnce.cls ≠ "java/lang/invoke/VarHandle" ∧ (parseMethodDescriptor yX3_leastOnce.desc).map (fun d => d.parameters.length) = some 2 := by decide +kernel
theorem ds_X3_mayCome : yX3_mayCome.cls ≠ "java/lang/invoke/MethodHandle" ∧ yX3_mayCome.cls ≠ "java/lang/invoke/VarHandle" ∧ (parseMethodDescriptor yX3_mayCome.desc).map (fun d => d.parameters.length) = some 2 := by decide +kernel
theorem ds_X3_onlyNutsWait : yX3_onlyNutsWait.cls ≠ "java/lang/invoke/MethodHandle" ∧ yX3_onlyNutsWait.cls ≠ "java/lang/invoke/VarHandle" ∧ (parseMethodDescriptor yX3_onlyNutsWait.desc).map (fun d => d.parameters.length) = some 0 := by decide +kernel
theorem ds_X3_setWashing : yX3_setWashing.cls ≠ "java/lang/invoke/MethodHandle" ∧ yX3_setWashing.cls ≠ "java/lang/invoke/VarHandle" ∧ (parseMethodDescriptor yX3_setWashing.desc).map (fun d => d.parameters.length) = some 3 := by decide +kernel
theorem ds_X4_init : yX4_init.cls ≠ "java/lang/invoke/MethodHandle" ∧ yX4_init.cls ≠ "java/lang/invoke/VarHandle" ∧ (parseMethodDescriptor yX4_init.desc).map (fun d => d.parameters.length) = some 2 := by decide +kernel
theorem ds_X5_fillBox : yX5_fillBox.cls ≠ "java/lang/invoke/MethodHandle" ∧ yX5_fillBox.cls ≠ "java/lang/invoke/VarHandle" ∧ (parseMethodDescriptor yX5_fillBox.desc).map (fun d => d.parameters.length) = some 5 := by decide +kernel
theorem ds_X5_forget : yX5_forget.cls ≠ "java/lang/invoke/MethodHandle" ∧ yX5_forget.cls ≠ "java/lang/invoke/VarHandle" ∧ (parseMethodDescriptor yX5_forget.desc).map (fun d => d.parameters.length) = some 0 := by decide +kernel
theorem ds_X5_init : yX5_init.cls ≠ "java/lang/invoke/MethodHandle" ∧ yX5_init.cls ≠ "java/lang/invoke/VarHandle" ∧ (parseMethodDescriptor yX5_init.desc).map (fun d => d.parameters.length) = some 0 := by decide +kernel
theorem ds_X5_insert : yX5_insert.cls ≠ "java/lang/invoke/MethodHandle" ∧ yX5_insert.cls ≠ "java/lang/invoke/VarHandle" ∧ (parseMethodDescriptor yX5_insert.desc).map (fun d => d.parameters.length) = some 1 := by decide +kernel
theorem ds_X5_isFree : yX5_isFree.cls ≠ "java/lang/invoke/MethodHandle" ∧ yX5_isFree.cls ≠ "java/lang/invoke/VarHandle" ∧ (parseMethodDescriptor yX5_isFree.desc).map (fun d => d.parameters.length) = some 2 := by decide +kernel
theorem ds_X5_mostBoxes : yX5_mostBoxes.cls ≠ "java/lang/invoke/MethodHandle" ∧ yX5_mostBoxes.cls ≠ "java/lang/invoke/VarHandle" ∧ (parseMethodDescriptor yX5_mostBoxes.desc).map (fun d => d.parameters.length) = some 3 := by decide +kernel
theorem ds_X5_mostOf : yX5_mostOf.cls ≠ "java/lang/invoke/MethodHandle" ∧ yX5_mostOf.cls ≠ "java/lang/invoke/VarHandle" ∧ (parseMethodDescriptor yX5_mostOf.desc).map (fun d => d.parameters.length) = some 2 := by decide +kernel
theorem ds_X6_init : yX6_init.cls ≠ "java/lang/invoke/MethodHandle" ∧ yX6_init.cls ≠ "java/lang/invoke/VarHandle" ∧ (parseMethodDescriptor yX6_init.desc).map (fun d => d.parameters.length) = some 3 := by decide +kernel
theorem ds_X6_isFit : yX6_isFit.cls ≠ "java/lang/invoke/MethodHandle" ∧ yX6_isFit.cls ≠ "java/lang/invoke/VarHandle" ∧ (parseMethodDescriptor yX6_isFit.desc).map (fun d => d.parameters.length) = some 0 := by decide +kernel
theorem ds_X6_sort : yX6_sort.cls ≠ "java/lang/invoke/MethodHandle" ∧ yX6_sort.cls ≠ "java/lang/invoke/VarHandle" ∧ (parseMethodDescriptor yX6_sort.desc).map (fun d => d.parameters.length) = some 0 := by decide +kernel
theorem ds_X6_tell : yX6_tell.cls ≠ "java/lang/invoke/MethodHandle" ∧ yX6_tell.cls ≠ "java/lang/invoke/VarHandle" ∧ (parseMethodDescriptor yX6_tell.desc).map (fun d => d.parameters.length) = some 1 := by decide +kernel
theorem ds_X7_degreeAt : yX7_degreeAt.cls ≠ "java/lang/invoke/MethodHandle" ∧ yX7_degreeAt.cls ≠ "java/lang/invoke/VarHandle" ∧ (parseMethodDescriptor yX7_degreeAt.desc).map (fun d => d.parameters.length) = some 1 := by decide +kernel
theorem ds_X7_hasDegree : yX7_hasDegree.cls ≠ "java/lang/invoke/MethodHandle" ∧ yX7_hasDegree.cls ≠ "java/lang/invoke/VarHandle" ∧ (parseMethodDescriptor yX7_hasDegree.desc).map (fun d => d.parameters.length) = some 1 := by decide +kernel
theorem ds_X7_hasStirring : yX7_hasStirring.cls ≠ "java/lang/invoke/MethodHandle" ∧ yX7_hasStirring.cls ≠ "java/lang/invoke/VarHandle" ∧ (parseMethodDescriptor yX7_hasStirring.desc).map (fun d => d.parameters.length) = some 1 := by decide +kernel
theorem ds_X7_init : yX7_init.cls ≠ "java/lang/invoke/MethodHandle" ∧ yX7_init.cls ≠ "java/lang/invoke/VarHandle" ∧ (parseMethodDescriptor yX7_init.desc).map (fun d => d.parameters.length) = some 0 := by decide +kernel
theorem ds_X7_isNumber : yX7_isNumber.cls ≠ "java/lang/invoke/MethodHandle" ∧ yX7_isNumber.cls ≠ "java/lang/invoke/VarHandle" ∧ (parseMethodDescriptor yX7_isNumber.desc).map (fun d => d.parameters.length) = some 1 := by decide +kernel
theorem ds_X7_renewDegrees : yX7_renewDegrees.cls ≠ "java/lang/invoke/MethodHandle" ∧ yX7_renewDegrees.cls ≠ "java/lang/invoke/VarHandle" ∧ (parseMethodDescriptor yX7_renewDegrees.desc).map (fun d => d.parameters.length) = some 1 := by decide +kernel
theorem ds_X7_renewStirring : yX7_renewStirring.cls ≠ "java/lang/invoke/MethodHandle" ∧ yX7_renewStirring.cls ≠ "java/lang/invoke/VarHandle" ∧ (parseMethodDescriptor yX7_renewStirring.desc).map (fun d => d.parameters.length) = some 1 := by decide +kernel
theorem ds_X7_tenfold : yX7_tenfold.cls ≠ "java/lang/invoke/MethodHandle" ∧ yX7_tenfold.cls ≠ "java/lang/invoke/VarHandle" ∧ (parseMethodDescriptor yX7_tenfold.desc).map (fun d => d.parameters.length) = some 1 := by decide +kernel
theorem ds_X7_wasStirred : yX7_wasStirred.cls ≠ "java/lang/invoke/MethodHandle" ∧ yX7_wasStirred.cls ≠ "java/lang/invoke/VarHandle" ∧ (parseMethodDescriptor yX7_wasStirred.desc).map (fun d => d.parameters.length) = some 1 := by decide +kernel
theorem ds_X8_addLoss : yX8_addLoss.cls ≠ "java/lang/invoke/MethodHandle" ∧ yX8_addLoss.cls ≠ "java/lang/invoke/VarHandle" ∧ (parseMethodDescriptor yX8_addLoss.desc).map (fun d => d.parameters.length) = some 2 := by decide +kernel
theorem ds_X8_init : yX8_init.cls ≠ "java/lang/invoke/MethodHandle" ∧ yX8_init.cls ≠ "java/lang/invoke/VarHandle" ∧ (parseMethodDescriptor yX8_init.desc).map (fun d => d.parameters.length) = some 0 := by decide +kernel
theorem ds_X8_isGrain : yX8_isGrain.cls ≠ "java/lang/invoke/MethodHandle" ∧ yX8_isGrain.cls ≠ "java/lang/invoke/VarHandle" ∧ (parseMethodDescriptor yX8_isGrain.desc).map (fun d => d.parameters.length) = some 1 := by decide +kernel
theorem ds_X8_lossAt : yX8_lossAt.cls ≠ "java/lang/invoke/MethodHandle" ∧ yX8_lossAt.cls ≠ "java/lang/invoke/VarHandle" ∧ (parseMethodDescriptor yX8_lossAt.desc).map (fun d => d.parameters.length) = some 1 := by decide +kernel
theorem ds_X9_change : yX9_change.cls ≠ "java/lang/invoke/MethodHandle" ∧ yX9_change.cls ≠ "java/lang/invoke/VarHandle" ∧ (parseMethodDescriptor yX9_change.desc).map (fun d => d.parameters.length) = some 6 := by decide +kernel
theorem ds_X9_counts : yX9_counts.cls ≠ "java/lang/invoke/MethodHandle" ∧ yX9_counts.cls ≠ "java/lang/invoke/VarHandle" ∧ (parseMethodDescriptor yX9_counts.desc).map (fun d => d.parameters.length) = some 2 := by decide +kernel
theorem ds_X9_heatOneTick : yX9_heatOneTick.cls ≠ "java/lang/invoke/MethodHandle" ∧ yX9_heatOneTick.cls ≠ "java/lang/invoke/VarHandle" ∧ (parseMethodDescriptor yX9_heatOneTick.desc).map (fun d => d.parameters.length) = some 2 := by decide +kernel
theorem ds_X9_init : yX9_init.cls ≠ "java/lang/invoke/MethodHandle" ∧ yX9_init.cls ≠ "java/lang/invoke/VarHandle" ∧ (parseMethodDescriptor yX9_init.desc).map (fun d => d.parameters.length) = some 0 := by decide +kernel
theorem ds_X9_isSpoilt : yX9_isSpoilt.cls ≠ "java/lang/invoke/MethodHandle" ∧ yX9_isSpoilt.cls ≠ "java/lang/invoke/VarHandle" ∧ (parseMethodDescriptor yX9_isSpoilt.desc).map (fun d => d.parameters.length) = some 2 := by decide +kernel
