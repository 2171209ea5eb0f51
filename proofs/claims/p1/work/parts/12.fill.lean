set_option maxHeartbeats 4000000 in
set_option maxRecDepth 100000 in
/-- Arrays.fill: every place is v -/
theorem c_fill (l : Launch) (dC : Nat → ClassId) (dI : Nat → Nat → Nat) (sz : Nat) (h : Nat) (y : ClassId) (n : Nat) (f : Nat → Int32) (v : Int32) (hn : n < 2 ^ 31) : Met l yJ7_fill_53178 (Cond.code yJ7_fill_53178 cJ7_fill_53178 4 none :: gT) ({ frames := 1, cells := 0, slots := 0, locals := 60 }) (va_Pc [.ref h, .int v] (pr (dC, dI) sz [(h, .inl (y, n, .inl f))] [(y, .int)])) (va_Qv (fun _ : Unit => True) (fun _ t => va_P (dC, dI) vwCl [(h, .inl (y, n, .inl (fun _ => v)))] t.heap ∧ va_K (dC, dI) vwCl [] t ∧ va_D (va_A [(h, .inl (y, n, .inl f))] sz) [(h, .inl (y, n, .inl (fun _ => v)))]) (va_A [(h, .inl (y, n, .inl f))] sz)) 0 0 (va_A [(h, .inl (y, n, .inl f))] sz) := by
  refine Met.ofW (cc := cJ7_fill_53178) (maxL := 4) (ret := none) (by decide) rfl ?_
  intro p e s m args below meth c s₁ B hml hv
  obtain ⟨rfl, hsz, hP, hK, hD0, hE⟩ := hv
  have hx := B.exec
  have hb := B.bytes
  have hr := B.returns
  have hts : ∀ w ∈ gT, w.before _ s = true := fun w h => atoms_spec (ws := Cond.code yJ7_fill_53178 cJ7_fill_53178 4 none :: gT) B.pre w (List.mem_cons_of_mem _ h)
  have hown : s.vm.findClass RJ7 = some m.cls := findClass_of_methodNamed B.named
  have hlocks := B.notSynchronized
  subst hsz
  have hD := hD0.self (sz := s.heap.size)
  generalize hAe : va_A [(h, .inl (y, n, .inl f))] s.heap.size = A at hD ⊢
  have hA : ∀ q : Nat, s.heap.size ≤ q → A q := fun q h => by rw [← hAe]; exact Or.inr h
  have hS : va_S A s.heap s.heap [] := va_S.rf
  have hl := lv_entry ([.ref h, .int v]) (n := 4) (Nat.le_of_ble_eq_true rfl)
  rw [lg_entry_eq]
  generalize (lg_sl ([.ref h, .int v]) ++ List.replicate (4 - (lg_sl ([.ref h, .int v])).length) Slot.unset).toArray = ls at hl ⊢
  have hl : lv_has ls 4 [(0, .ref h), (1, .int v)] := hl
  refine lv_iconst (v := 0) hx hb dJ7_fill_53178_0 (by decide) ?_
  refine lv_istore_n (lv' := [(2, .int 0), (0, .ref h), (1, .int v)]) hx hb dJ7_fill_53178_1 rfl hl (by decide) rfl (fun ls hl => ?_)
  refine lv_aload_n hx hb dJ7_fill_53178_2 rfl (lv_at hl 1 rfl) ?_
  refine va_alen (v := (nI n)) hx hb hK hP 0 0 rfl rfl rfl dJ7_fill_53178_3 ?_
  refine lv_istore_n (lv' := [(3, .int (nI n)), (2, .int 0), (0, .ref h), (1, .int v)]) hx hb dJ7_fill_53178_4 rfl hl (by decide) rfl (fun ls hl => ?_)
  refine wl_loop (fun (i : Nat) H locs ls => i ≤ n ∧ va_P (dC, dI) vwCl [(h, .inl (y, n, .inl (flg f v i)))] H ∧ va_D A [(h, .inl (y, n, .inl (flg f v i)))] ∧ va_S A s.heap H locs ∧ lv_has ls 4 [(0, .ref h), (1, .int v), (2, .int (nI i)), (3, .int (nI n))]) (fun i => n - i) (fun i H locs ls hI ih => ?_) 0 ⟨Nat.zero_le _, by rw [flg_0]; exact hP, by rw [flg_0]; exact hD, hS, lv_sub hl [2, 3, 1, 0] rfl⟩
  obtain ⟨hi, hP, hD, hS, hl⟩ := hI
  refine lv_iload_n hx hb dJ7_fill_53178_5 rfl (lv_at hl 2 rfl) ?_
  refine lv_iload_n hx hb dJ7_fill_53178_6 rfl (lv_at hl 3 rfl) ?_
  refine lv_icmp_ge (tgt := 20) hx hb dJ7_fill_53178_7 (by decide) (fun c_1 => ?_) (fun c_1 => ?_)
  · have hie := nI_end rfl hn hi c_1
    subst hie
    have hD := hD.set (e := .inl (y, i, .inl (fun _ => v))) (show ([(h, .inl (y, i, .inl (flg f v i)))] : va_W)[0]? = some (h, .inl (y, i, .inl (flg f v i))) from rfl)
    have hP := hP.re 0 (fun _ => v) rfl (flg_all f v i)
    have hP9 := hP.sub (ws' := [(h, .inl (y, i, .inl (fun _ => v)))]) [0] rfl
    have hD9 := hD.sub (ws' := [(h, .inl (y, i, .inl (fun _ => v)))]) [0] (by decide) rfl
    have hK9 := hK.sub (tys' := []) [] rfl
    exact W.vret hx hb hr (fun t ht hW => ⟨⟨(), rfl, trivial, by rw [ht]; exact hP9, va_K.moved hW.alike hK9, hD9⟩, hS.F ht⟩) hS.2.2 dJ7_fill_53178_20
  · have hlt := nI_on rfl hn hi c_1
    refine lv_aload_n hx hb dJ7_fill_53178_10 rfl (lv_at hl 0 rfl) ?_
    refine lv_iload_n hx hb dJ7_fill_53178_11 rfl (lv_at hl 2 rfl) ?_
    refine lv_iload_n hx hb dJ7_fill_53178_12 rfl (lv_at hl 1 rfl) ?_
    refine va_iast hx hb hK hP hD hS 0 0 rfl rfl (vp_in_nI hlt hn) dJ7_fill_53178_13 (fun H locs hP hD hS => ?_)
    have hP : va_P (dC, dI) vwCl [(h, .inl (y, n, .inl (upd (flg f v i) ((nI i) : Int32).toNatClampNeg v)))] H := hP
    have hD : va_D A [(h, .inl (y, n, .inl (upd (flg f v i) ((nI i) : Int32).toNatClampNeg v)))] := hD
    refine lv_iinc (v := (nI (i + 1))) (lv' := [(2, .int (nI (i + 1))), (0, .ref h), (1, .int v), (3, .int (nI n))]) hx hb dJ7_fill_53178_14 hl (k := 2) rfl (by exact nI_1 _) (by decide) rfl (fun ls hl => ?_)
    refine lv_goto (tgt := 5) hx hb dJ7_fill_53178_17 (by decide) ?_
    have hfs := flg_s f v (i := i) (by omega)
    exact ih (i + 1) _ _ _ (by omega) ⟨hlt, by rw [← hfs]; exact hP, by rw [← hfs]; exact hD, hS, lv_sub hl [1, 2, 0, 3] rfl⟩
