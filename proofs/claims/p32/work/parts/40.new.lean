/-! ===== new objects whole; the law's loop ===== -/
theorem mv_i {l : Launch} {y : MethodName} {ws : List Cond} {rm : Room} {mc ms : Nat} {D : va_G} {Pc : Array Value → State → Prop} {A free : Nat → Prop} {S : Type} {post : S → Prop} {W1 : S → va_W} (hM : Met l y ws rm Pc (va_Qv post (fun u t => va_P D vwCl (W1 u) t.heap ∧ va_D A (W1 u)) A) mc ms free) (K : va_W → Prop) (hk : ∀ u, post u → K (W1 u)) :
    Met l y ws rm Pc (va_Qv K (fun w' t => va_P D vwCl w' t.heap ∧ va_D A w') A) mc ms free := Met.cq hM (fun _ _ h => h) (fun a s o t h q => by
  obtain ⟨⟨u, ho, hp, hB⟩, hF⟩ := q
  exact ⟨⟨W1 u, ho, hk u hp, hB⟩, hF⟩) (fun _ h => h)
theorem fr_l {A0 : Nat → Prop} {H0 H : Heap} {locs : List Loc} {wK wM : va_W} (hD : va_D A0 (wK ++ wM)) (hS : va_S A0 H0 H locs) (hA : ∀ q : Nat, H0.size ≤ q → A0 q) : ∀ q, va_A wK H.size q → A0 q := by
  rintro q (⟨k, e, h⟩ | h)
  · exact (d_left hD).2 k _ h
  · exact hA q (Nat.le_trans hS.1 h)
theorem ra_prim {args : Array Value} {s : State} {ty : FieldType} (h : (Cond.arrayClass ty).before args s = true) (hn : ∀ C, ty ≠ .object C) : ∃ cA, ArrOfT s cA ty ∧ va_RA s cA ty := by
  obtain ⟨c, k, comp, h1, h2, h3⟩ := Cond.arrayClass_spec h
  refine ⟨c, fun N z => ⟨(fun k h => by cases h), k, h2, comp, h3⟩, ?_⟩
  cases ty with
  | object C => exact absurd rfl (hn C)
  | _ => exact h1
theorem ra_obj {s : State} {C : String} (h : va_AO C s) : ∃ cA, ArrOfT s cA (.object C) ∧ va_RA s cA (.object C) := by
  obtain ⟨comp, c, k, h1, h2, h3, h4, h5⟩ := Cond.arrayOver_spec h
  exact ⟨c, fun N z => ⟨(fun k h => by cases h), k, h3, comp, h4⟩, k, comp, h3, h4, h1, h5⟩

set_option maxHeartbeats 4000000 in
set_option maxRecDepth 100000 in
theorem K_new (l : Launch) (dC : Nat → ClassId) (dI : Nat → Nat → Nat) (ca : Nat → ClassId) (sz x : Nat) : Met l yX10_init (Cond.code yX10_init cX10_init 1 none :: gT) ({ frames := 3, cells := 27, slots := 1477, locals := 103 }) (va_Pc [.ref x] (pr (dC, dI) sz [(x, .inr (10, [.null, .int 0, .null, .int 0, .null, .int 0, .null, .int 0, .null, .null, .null, .null, .null, .null, .null]))] (aT ca))) (va_Qv (fun (w' : va_W) => kOK ca x 0 0 0 0 (fun _ => 0) (fun _ => 0) (fun _ => 0) (fun _ => 0) (fun _ => 0) (fun _ => 0) 0 (fun _ => 0) (fun _ => 0) 0 (-1) (fun _ => 0) (flg (fun _ => 0) 900 6) 0 (fun _ => (fun _ => 0, fun _ => 0, fun _ => 0)) (fun _ => 0) (fun _ => 0) w') (fun w' t => va_P (dC, dI) vwCl w' t.heap ∧ va_D (va_A [(x, .inr (10, [.null, .int 0, .null, .int 0, .null, .int 0, .null, .int 0, .null, .null, .null, .null, .null, .null, .null]))] sz) w') (va_A [(x, .inr (10, [.null, .int 0, .null, .int 0, .null, .int 0, .null, .int 0, .null, .null, .null, .null, .null, .null, .null]))] sz)) 27 1477 (va_A [(x, .inr (10, [.null, .int 0, .null, .int 0, .null, .int 0, .null, .int 0, .null, .null, .null, .null, .null, .null, .null]))] sz) := by
  refine mv_i (n_Kitchen l dC dI ca sz x ) _ (fun u_ hp => ?_)
  obtain ⟨a, f0, f1, f5, f6, g0, g1, g2, g4, g8, g9, g10, g11, s0, s1, s2, pwa⟩ := u_
  intro C_ f_
  have h9 := f_ a (fun _ => 0) (fun _ => (0, 0)) (fun _ _ => 0) (fun _ => (fun _ => 0, 0, fun _ => 0, fun _ => 0)) (fun _ => 0) (fun _ => (fun _ => 0, 0)) 0 (fun _ _ => 0) (fun _ => (fun _ => 0, 0, 0, fun _ => 0)) (flg (fun _ => 0) (-1) 144) (fun _ => 0) f0 f1 f5 f6 450 270 310 320 290 2 g0 g1 g2 g4 g8 g9 g10 g11 0 0 0 none (fun _ => 0) (fun _ => 0) (fun _ => 0) (fun _ => 0) (fun _ => 0) (fun _ => 0) s0 s1 s2 0 0 none (fun _ => 0) (fun _ => 0) (fun _ => 0) (fun _ => 0) pwa 0 0 0 none 0 (fun _ => 0) (fun _ => 0) (⟨by omega, by omega, by omega, by omega, (fun j hj => absurd hj (Nat.not_lt_zero j)), (fun j hj => absurd hj (Nat.not_lt_zero j)), (fun j hj => absurd hj (Nat.not_lt_zero j))⟩) (chI_0 _ _) (⟨by omega, (fun j hj => absurd hj (Nat.not_lt_zero j))⟩) (by omega) (by omega) (⟨fun _ => rfl, fun h9 => absurd h9 (by decide)⟩) (fun j hj => absurd hj (Nat.not_lt_zero j)) (fun j hj => absurd hj (Nat.not_lt_zero j)) (fun j _ => rfl) (fun j hj => absurd hj (Nat.not_lt_zero j)) (fun j => ⟨0, Nat.zero_le _, rfl⟩) (fun h9 => absurd rfl h9)
  simp only [rA_0] at h9
  exact h9

theorem fl_ot (j : Nat) : ot (flg (fun _ => 0) (-1) 144 j) := by
  unfold flg
  split
  · exact Or.inl rfl
  · exact Or.inr ⟨0, by omega, rfl⟩
set_option maxHeartbeats 4000000 in
set_option maxRecDepth 100000 in
theorem M_new (l : Launch) (dC : Nat → ClassId) (dI : Nat → Nat → Nat) (ca : Nat → ClassId) (sz y : Nat) : Met l yX11_init (Cond.code yX11_init cX11_init 2 none :: gT) ({ frames := 1, cells := 45, slots := 403740, locals := 60 }) (va_Pc [.ref y] (pr (dC, dI) sz [(y, .inr (11, [.int 0, .int 0, .int 0, .int 0, .int 0, .int 0, .null, .null, .null, .null, .null, .null, .null, .null, .null, .null, .null, .null, .null, .null, .null, .null, .null, .null, .null, .null, .null, .null, .null, .int 0, .int 0, .null, .null, .null, .null, .null, .null, .null, .null, .null, .null, .null, .null, .null, .null, .null, .null, .null, .int 0, .int 0, .null, .null, .int 0, .null, .null, .null]))] (aT ca))) (va_Qv (fun (w' : va_W) => mOK ca y 0 0 0 (fun _ => 0) (fun _ => 0) (fun _ => 0) (fun _ => 0) (fun _ => 0) (fun _ => 0) 0 (fun _ => 0) (fun _ => 0) 0 (-1) (fun _ => 0) (flg (fun _ => 0) 900 6) 0 (fun _ => (fun _ => 0, fun _ => 0, fun _ => 0)) (fun _ => 0) (fun _ => 0) w') (fun w' t => va_P (dC, dI) vwCl w' t.heap ∧ va_D (va_A [(y, .inr (11, [.int 0, .int 0, .int 0, .int 0, .int 0, .int 0, .null, .null, .null, .null, .null, .null, .null, .null, .null, .null, .null, .null, .null, .null, .null, .null, .null, .null, .null, .null, .null, .null, .null, .int 0, .int 0, .null, .null, .null, .null, .null, .null, .null, .null, .null, .null, .null, .null, .null, .null, .null, .null, .null, .int 0, .int 0, .null, .null, .int 0, .null, .null, .null]))] sz) w') (va_A [(y, .inr (11, [.int 0, .int 0, .int 0, .int 0, .int 0, .int 0, .null, .null, .null, .null, .null, .null, .null, .null, .null, .null, .null, .null, .null, .null, .null, .null, .null, .null, .null, .null, .null, .null, .null, .int 0, .int 0, .null, .null, .null, .null, .null, .null, .null, .null, .null, .null, .null, .null, .null, .null, .null, .null, .null, .int 0, .int 0, .null, .null, .int 0, .null, .null, .null]))] sz)) 45 403740 (va_A [(y, .inr (11, [.int 0, .int 0, .int 0, .int 0, .int 0, .int 0, .null, .null, .null, .null, .null, .null, .null, .null, .null, .null, .null, .null, .null, .null, .null, .null, .null, .null, .null, .null, .null, .null, .null, .int 0, .int 0, .null, .null, .null, .null, .null, .null, .null, .null, .null, .null, .null, .null, .null, .null, .null, .null, .null, .int 0, .int 0, .null, .null, .int 0, .null, .null, .null]))] sz) := by
  refine mv_i (n_Model l dC dI ca sz y ) _ (fun b2 hp => ?_)
  exact fun C_ f_ => f_ b2 0 0 0 0 (fun _ => 0) (fun _ => 0) (fun _ => 0) (fun _ => 0) (fun _ => 0) (fun _ => 0) (fun _ => 0) (fun _ => 0) (fun _ => 0) (fun _ => 0) (fun _ => 0) (fun _ => 0) (fun _ => 0) (fun _ => 0) (fun _ => 0) (fun _ => 0) (fun _ => 0) (upd (upd (upd (upd (upd (upd (fun _ => 0) 0 450) 1 270) 2 310) 3 320) 4 290) 5 2) (fun _ => 0) (fun _ => 0) (fun _ => 0) (fun _ => 0) (fun _ => 0) (fun _ => 0) (fun _ => 0) (flg (fun _ => 0) (-1) 144) (fun _ => 0) (fun _ => 0) (fun _ => 0) (fun _ => 0) (fun _ => 0) (fun _ => 0) (fun _ => 0) (fun _ => 0) (fun _ => 0) (⟨by omega, by omega, by omega, by omega, by omega, by omega, by omega, by omega, by omega⟩) (fun j => ⟨0, by omega, rfl⟩) (fun j => Or.inr ⟨0, by omega, rfl⟩) (fun j => Or.inr ⟨0, by omega, rfl⟩) (fun j => ⟨0, by omega, rfl⟩) (fun j => ⟨0, by omega, rfl⟩) (fun j => ⟨0, by omega, rfl⟩) (fun j => Or.inr ⟨0, by omega, rfl⟩) (fun j => fl_ot j) (fun j => ⟨0, by omega, rfl⟩) (fun j => ⟨0, by omega, rfl⟩) (fun j => ⟨⟨0, by omega, rfl⟩, fun _ => ⟨0, by omega, rfl⟩⟩) (fun j h9 => absurd h9 (by decide)) (fun j _ => by show ¬ (0 : Int32) = 1; decide) (fun q _ => rfl) (fun q _ => rfl) (fun j hj => absurd hj (Nat.not_lt_zero j)) (fun q _ => ⟨rfl, rfl, rfl, fun k _ => ⟨rfl, rfl⟩⟩) (tS_0 _) (fun j => ⟨0, Nat.zero_le _, rfl⟩) (fun j hj => absurd hj (Nat.not_lt_zero j))


/-! THE CLAIM OUT OF ONE WALK OF THE LAW'S BODY. Your part is whole_start (and what it stands on); all else here is the same for every law, but numbers. -/
def R_law : String := "SugarKitchenLaw"
def lw_P (b : Addr) (xs : List Int32) (args : Array Value) (s : State) : Prop := args = #[.ref b] ∧ s.IntsAt b xs ∧ xs.length ≤ 3584 ∧ (Jvm.Cond.and given_1 narrow_1).before args s = true
/-- what a walk over the start with the record d0 says of its end, said of the start itself -/
theorem lw_closed {s t : State} {o : Outcome} {d0 : Drawn} {L : List Loc} {k n : Nat} (hd0 : s.drawn.sameBut d0 lw_cs) (hv : ∃ v, o = .returned v) (hW : (s.setDrawn d0).WarmedH t.vm) (hs : (s.setDrawn d0).sameButNew ({ t with vm := s.vm } : State) L k n) : State.butDraws s t lw_cs (fun t1 => Framed s o t1 L k n) := by
  have h2 : t.drawn = d0 := congrArg State.drawn hs.1
  refine ⟨⟨hv, hW, State.sameButNew.setDrawn hs s.drawn⟩, ?_, by decide⟩
  rw [h2]
  exact hd0
def lw_Q (_ : Array Value) (s : State) (o : Outcome) (t : State) : Prop := o = .returned (some (.int 1)) ∧ State.butDraws s t lw_cs (fun t1 => Framed s o t1 [] 600000 7302250)
def lw_Z (below : List Frame) (a : Array Value) (s : State) : State → Prop := fun t => ∃ o, t.status = .running ∧ Ended t below o ∧ lw_Q a s o t
/-- the law's own end, with 1 on the stack, nothing written that was there before, its room as the claim has it; d0: the record of draws at this point (at the entry s.drawn: begin with 'refine W.base ?_' and 'have hd0 := Drawn.sameBut.refl s.drawn lw_cs') -/
theorem lw_ret {p : Program} {l : Launch} {e : Env} {s : State} {m : MethodId} {below : List Frame} {meth : Method} {c : Code} {b : Nat} {d0 : Drawn} (hd0 : s.drawn.sameBut d0 lw_cs) (hx : p.tables.exec = Jvm.exec) (hb : c.code = code) (hr : meth.sig.returnType = ret) (hlocks : meth.locks = false) {pc : Nat} {H : Heap} {ls : Array Slot} (hdg : decode code pc = .ok (.ireturn, 1)) : W p l e room_1 (s.setDrawn d0) m #[Value.ref b] below meth c H [] 600000 7302250 (lw_Z below #[Value.ref b] s) (F0 m pc ls [.int 1]) := by
  intro T hT X
  obtain ⟨fs, hret, hrun, hended, hW, hframe⟩ := X.leave (v := some (.int 1)) (hlocks := hlocks) (fun h => by rw [hr] at h; cases h)
  have hmeth' : T.vm.method? m = some meth := X.method'
  refine ⟨T.setFrames fs, ?_, .returned (some (.int 1)), hrun, hended, rfl, lw_closed hd0 ⟨_, rfl⟩ hW hframe⟩
  jvm_step X.here [X.here.top, hx, hb, hdg, hmeth', hr, ret, narrow_b1]
  (try refine ⟨rfl, ?_⟩); (try refine ⟨rfl, ?_⟩)
  first | (intro acts; rw [hret _ acts rfl rfl rfl]) | rw [hret _ _ rfl rfl rfl]
  exact Steps.refl _
/-- what holds at the law's entry: the machine, the code, the tables' words (any of lw_tbl by 'hts w (by decide +kernel)'), the script of L ints xs at the cell b, what the Statement gives of the start (any of its parts by flat_of_before) -/
def lw_At (p : Program) (s : State) (m : MethodId) (meth : Method) (c : Code) (b L : Nat) (xs : Nat → Int32) : Prop :=
  p.tables.exec = Jvm.exec ∧ c.code = code ∧ meth.sig.returnType = ret ∧ c.maxLocals = 4 ∧ s.vm.findClass R_law = some m.cls ∧ (∀ w ∈ lw_tbl, w.before #[Value.ref b] s = true) ∧ va_X b L xs s s.heap ∧ b < s.heap.size ∧ meth.locks = false ∧ (Jvm.Cond.and given_1 narrow_1).before #[Value.ref b] s = true

/-- what holds all along the law -/
def lwF (p : Program) (s : State) (d0 : Drawn) (m : MethodId) (c : Code) (b L : Nat) (xs : Nat → Int32) (dC : Nat → ClassId) (dI : Nat → Nat → Nat) (ca : Nat → ClassId) : Prop := p.tables.exec = Jvm.exec ∧ c.code = code ∧ c.maxLocals = 4 ∧ (s.setDrawn d0).vm.findClass R_law = some m.cls ∧ (∀ w ∈ gT, w.before #[Value.ref b] (s.setDrawn d0) = true) ∧ ext (s.setDrawn d0) ∧ va_K (dC, dI) vwCl (aT ca) (s.setDrawn d0) ∧ va_X b L xs (s.setDrawn d0) s.heap ∧ b < s.heap.size
/-- between two calls: both objects, alike in what is counted -/
def lI (dC : Nat → ClassId) (dI : Nat → Nat → Nat) (ca : Nat → ClassId) (H0 : Heap) (x y b n g : Nat) (H : Heap) (locs : List Loc) (ls : Array Slot) : Prop := ∃ (nl : Nat) (nb : Nat) (rn : Nat) (fd : Nat → Int32) (Lf : Nat → Int32) (Cf : Nat → Int32) (Mf : Nat → Int32) (Hf : Nat → Int32) (Sf : Nat → Int32) (qm : Nat) (qd : Nat → Int32) (lt : Nat → Int32) (gl : Int32) (gh : Int32) (lw6 : Nat → Int32) (hi6 : Nat → Int32) (np : Nat) (Xf : Nat → BX) (ws : Nat → Int32) (kd : Nat → Int32) (wK wM : va_W), kOK ca x g nl nb rn fd Lf Cf Mf Hf Sf qm qd lt gl gh lw6 hi6 np Xf ws kd wK ∧ mOK ca y nl nb rn fd Lf Cf Mf Hf Sf qm qd lt gl gh lw6 hi6 np Xf ws kd wM ∧ va_P (dC, dI) vwCl (@HAppend.hAppend va_W va_W va_W _ wK wM) H ∧ va_D (fun q : Nat => H0.size ≤ q) (@HAppend.hAppend va_W va_W va_W _ wK wM) ∧ va_S (fun q : Nat => H0.size ≤ q) H0 H locs ∧ lv_has ls 4 [(3, .int (nI (7 * n))), (2, .ref y), (1, .ref x), (0, .ref b)]
