set_option maxHeartbeats 4000000 in
set_option maxRecDepth 100000 in
theorem m_list (l : Launch) (dC : Nat → ClassId) (dI : Nat → Nat → Nat) (sz : Nat) (x : Nat) (a : Nat → Nat) (cy : Nat → ClassId) (v1 : Int32) : Met l yX11_list (Cond.code yX11_list cX11_list 4 none :: gT) ({ frames := 1, cells := 0, slots := 0, locals := 60 }) (va_Pc [.ref x, .int v1] (pr (dC, dI) sz [(x, .inr (11, (mO a))), ((a 43), .inl ((cy 43), 144, .inl (fun _ => (-1))))] [((cy 43), .int)])) (va_Qv (fun _ : Unit => True) (fun _ t => va_P (dC, dI) vwCl [(x, .inr (11, (mO a))), ((a 43), .inl ((cy 43), 144, .inl (fun _ => (-1))))] t.heap ∧ va_K (dC, dI) vwCl [] t ∧ va_D (va_A [(x, .inr (11, (mO a))), ((a 43), .inl ((cy 43), 144, .inl (fun _ => (-1))))] sz) [(x, .inr (11, (mO a))), ((a 43), .inl ((cy 43), 144, .inl (fun _ => (-1))))]) (va_A [(x, .inr (11, (mO a))), ((a 43), .inl ((cy 43), 144, .inl (fun _ => (-1))))] sz)) 0 0 (va_A [(x, .inr (11, (mO a))), ((a 43), .inl ((cy 43), 144, .inl (fun _ => (-1))))] sz) := by
  refine Met.ofW (cc := cX11_list) (maxL := 4) (ret := none) (by decide) rfl ?_
  intro p e s m args below meth c s₁ B hml hv
  obtain ⟨rfl, hsz, hP, hK, hD0, hE⟩ := hv
  have hx := B.exec
  have hb := B.bytes
  have hr := B.returns
  have hts : ∀ w ∈ gT, w.before _ s = true := fun w h => atoms_spec (ws := Cond.code yX11_list cX11_list 4 none :: gT) B.pre w (List.mem_cons_of_mem _ h)
  have hown : s.vm.findClass RX11 = some m.cls := findClass_of_methodNamed B.named
  have hlocks := B.notSynchronized
  subst hsz
  have hD := hD0.self (sz := s.heap.size)
  generalize hAe : va_A [(x, .inr (11, (mO a))), ((a 43), .inl ((cy 43), 144, .inl (fun _ => (-1))))] s.heap.size = A at hD ⊢
  have hA : ∀ q : Nat, s.heap.size ≤ q → A q := fun q h => by rw [← hAe]; exact Or.inr h
  have hS : va_S A s.heap s.heap [] := va_S.rf
  have hl := lv_entry ([.ref x, .int v1]) (n := 4) (Nat.le_of_ble_eq_true rfl)
  rw [lg_entry_eq]
  generalize (lg_sl ([.ref x, .int v1]) ++ List.replicate (4 - (lg_sl ([.ref x, .int v1])).length) Slot.unset).toArray = ls at hl ⊢
  have hl : lv_has ls 4 [(0, .ref x), (1, .int v1)] := hl
  refine lv_aload_n hx hb dX11_list_0 rfl (lv_at hl 0 rfl) ?_
  refine lv_iconst (v := 0) hx hb dX11_list_1 (by decide) ?_
  refine va_put (D := (dC, dI)) (ci := 11) (v := .int 0) (ty := .int) (C := RX11) (T := TX11) (N := 56) hx hb hts inX11 tyX11 tyX11_ok nmX11 hown hK hP hD hS 0 rfl rfl 49 (by decide) (hts _ mw_929) (fun _ h9 => h9) rfl (by decide +kernel) rfl rfl (Nat.le_of_ble_eq_true rfl) dX11_list_2 (fun H locs hP hD hS => ?_)
  have hP : va_P (dC, dI) vwCl [(x, .inr (11, ((mO a).set 49 (.int 0)))), ((a 43), .inl ((cy 43), 144, .inl (fun _ => (-1))))] H := hP
  have hD : va_D A [(x, .inr (11, ((mO a).set 49 (.int 0)))), ((a 43), .inl ((cy 43), 144, .inl (fun _ => (-1))))] := hD
  refine lv_iconst (v := 0) hx hb dX11_list_5 (by decide) ?_
  refine lv_istore_n (lv' := [(2, .int 0), (0, .ref x), (1, .int v1)]) hx hb dX11_list_6 rfl hl (by decide) rfl (fun ls hl => ?_)
  refine wl_loop (fun (i : Nat) H locs ls => i ≤ 144 ∧ va_P (dC, dI) vwCl [(x, .inr (11, ((mO a).set 49 (.int 0)))), ((a 43), .inl ((cy 43), 144, .inl (fun _ => (-1))))] H ∧ va_D A [(x, .inr (11, ((mO a).set 49 (.int 0)))), ((a 43), .inl ((cy 43), 144, .inl (fun _ => (-1))))] ∧ va_S A s.heap H locs ∧ lv_has ls 4 [(0, .ref x), (1, .int v1), (2, .int (nI i))]) (fun i => 144 - i) (fun i H locs ls hI ih => ?_) 0 ⟨Nat.zero_le _, hP, hD, hS, lv_sub hl [1, 2, 0] rfl⟩
  obtain ⟨hi, hP, hD, hS, hl⟩ := hI
  refine lv_iload_n hx hb dX11_list_7 rfl (lv_at hl 2 rfl) ?_
  refine lv_sipush (v := 144) hx hb dX11_list_8 (by decide) ?_
  refine lv_icmp_ge (tgt := 84) hx hb dX11_list_11 (by decide) (fun c_1 => ?_) (fun c_1 => ?_)
  · have hie := nI_end (x := 144) (N := 144) (by decide) (by decide) hi c_1
    refine lv_aload_n hx hb dX11_list_84 rfl (lv_at hl 0 rfl) ?_
    refine lv_aload_n hx hb dX11_list_85 rfl (lv_at hl 0 rfl) ?_
    refine va_get (D := (dC, dI)) (ci := 11) (v := .int 0) (C := RX11) (T := TX11) (N := 56) hx hb hts inX11 hown hK hP 0 rfl rfl 49 (by decide) (hts _ mw_929) (fun _ h9 => h9) rfl dX11_list_86 ?_
    refine lv_bipush (v := 40) hx hb dX11_list_89 (by decide) ?_
    refine lv_icmp_le (tgt := 99) hx hb dX11_list_91 (by decide) (fun c_ => ?_) (fun c_ => absurd c_ (by decide))
    refine lv_aload_n hx hb dX11_list_99 rfl (lv_at hl 0 rfl) ?_
    refine va_get (D := (dC, dI)) (ci := 11) (v := .int 0) (C := RX11) (T := TX11) (N := 56) hx hb hts inX11 hown hK hP 0 rfl rfl 49 (by decide) (hts _ mw_929) (fun _ h9 => h9) rfl dX11_list_100 ?_
    refine va_put (D := (dC, dI)) (ci := 11) (v := .int 0) (ty := .int) (C := RX11) (T := TX11) (N := 56) hx hb hts inX11 tyX11 tyX11_ok nmX11 hown hK hP hD hS 0 rfl rfl 48 (by decide) (hts _ mw_928) (fun _ h9 => h9) rfl (by decide +kernel) rfl rfl (Nat.le_of_ble_eq_true rfl) dX11_list_103 (fun H locs hP hD hS => ?_)
    have hP : va_P (dC, dI) vwCl [(x, .inr (11, (((mO a).set 49 (.int 0)).set 48 (.int 0)))), ((a 43), .inl ((cy 43), 144, .inl (fun _ => (-1))))] H := hP
    have hD : va_D A [(x, .inr (11, (((mO a).set 49 (.int 0)).set 48 (.int 0)))), ((a 43), .inl ((cy 43), 144, .inl (fun _ => (-1))))] := hD
    have hP9 := hP.sub (ws' := [(x, .inr (11, (mO a))), ((a 43), .inl ((cy 43), 144, .inl (fun _ => (-1))))]) [0, 1] rfl
    have hD9 := hD.sub (ws' := [(x, .inr (11, (mO a))), ((a 43), .inl ((cy 43), 144, .inl (fun _ => (-1))))]) [0, 1] (by decide) rfl
    have hK9 := hK.sub (tys' := []) [] rfl
    exact W.vret hx hb hr (fun t ht hW => ⟨⟨(), rfl, trivial, by rw [ht]; exact hP9, va_K.moved hW.alike hK9, hD9⟩, hS.F ht⟩) hS.2.2 dX11_list_106
  · have hlt := nI_on (x := 144) (N := 144) (by decide) (by decide) hi c_1
    refine lv_aload_n hx hb dX11_list_14 rfl (lv_at hl 0 rfl) ?_
    refine va_get (D := (dC, dI)) (ci := 11) (v := .ref (a 43)) (C := RX11) (T := TX11) (N := 56) hx hb hts inX11 hown hK hP 0 rfl rfl 43 (by decide) (hts _ mw_923) (fun _ h9 => h9) rfl dX11_list_15 ?_
    refine lv_iload_n hx hb dX11_list_18 rfl (lv_at hl 2 rfl) ?_
    refine va_iald hx hb hK hP 1 0 rfl rfl (vp_in_nI hlt (by decide)) dX11_list_19 ?_
    refine lv_topi (fun y_ e_ => ?_)
    obtain rfl : y_ = (-1) := e_
    refine lv_istore_n (lv' := [(3, .int (-1)), (0, .ref x), (1, .int v1), (2, .int (nI i))]) hx hb dX11_list_20 rfl hl (by decide) rfl (fun ls hl => ?_)
    refine lv_iload_n hx hb dX11_list_21 rfl (lv_at hl 0 rfl) ?_
    refine lv_if_lt (tgt := 78) hx hb dX11_list_22 (by decide) (fun c_ => ?_) (fun c_ => absurd c_ (by decide))
    refine lv_iinc (v := (nI (i + 1))) (lv' := [(2, .int (nI (i + 1))), (3, .int (-1)), (0, .ref x), (1, .int v1)]) hx hb dX11_list_78 hl (k := 3) rfl (by exact nI_1 _) (by decide) rfl (fun ls hl => ?_)
    refine lv_goto (tgt := 7) hx hb dX11_list_81 (by decide) ?_
    exact ih (i + 1) _ _ _ (by omega) ⟨hlt, hP, hD, hS, lv_sub hl [2, 3, 0] rfl⟩

set_option maxHeartbeats 4000000 in
set_option maxRecDepth 100000 in
theorem m_gather (l : Launch) (dC : Nat → ClassId) (dI : Nat → Nat → Nat) (sz : Nat) (x : Nat) (a : Nat → Nat) (cy : Nat → ClassId) : Met l yX11_gather (Cond.code yX11_gather cX11_gather 2 none :: gT) ({ frames := 1, cells := 0, slots := 0, locals := 60 }) (va_Pc [.ref x] (pr (dC, dI) sz [(x, .inr (11, (mO a)))] [])) (va_Qv (fun _ : Unit => True) (fun _ t => va_P (dC, dI) vwCl [(x, .inr (11, (mO a)))] t.heap ∧ va_K (dC, dI) vwCl [] t ∧ va_D (va_A [(x, .inr (11, (mO a)))] sz) [(x, .inr (11, (mO a)))]) (va_A [(x, .inr (11, (mO a)))] sz)) 0 0 (va_A [(x, .inr (11, (mO a)))] sz) := by
  refine Met.ofW (cc := cX11_gather) (maxL := 2) (ret := none) (by decide) rfl ?_
  intro p e s m args below meth c s₁ B hml hv
  obtain ⟨rfl, hsz, hP, hK, hD0, hE⟩ := hv
  have hx := B.exec
  have hb := B.bytes
  have hr := B.returns
  have hts : ∀ w ∈ gT, w.before _ s = true := fun w h => atoms_spec (ws := Cond.code yX11_gather cX11_gather 2 none :: gT) B.pre w (List.mem_cons_of_mem _ h)
  have hown : s.vm.findClass RX11 = some m.cls := findClass_of_methodNamed B.named
  have hlocks := B.notSynchronized
  subst hsz
  have hD := hD0.self (sz := s.heap.size)
  generalize hAe : va_A [(x, .inr (11, (mO a)))] s.heap.size = A at hD ⊢
  have hA : ∀ q : Nat, s.heap.size ≤ q → A q := fun q h => by rw [← hAe]; exact Or.inr h
  have hS : va_S A s.heap s.heap [] := va_S.rf
  have hl := lv_entry ([.ref x]) (n := 2) (Nat.le_of_ble_eq_true rfl)
  rw [lg_entry_eq]
  generalize (lg_sl ([.ref x]) ++ List.replicate (2 - (lg_sl ([.ref x])).length) Slot.unset).toArray = ls at hl ⊢
  have hl : lv_has ls 2 [(0, .ref x)] := hl
  refine lv_aload_n hx hb dX11_gather_0 rfl (lv_at hl 0 rfl) ?_
  refine lv_iconst (v := 0) hx hb dX11_gather_1 (by decide) ?_
  refine va_put (D := (dC, dI)) (ci := 11) (v := .int 0) (ty := .int) (C := RX11) (T := TX11) (N := 56) hx hb hts inX11 tyX11 tyX11_ok nmX11 hown hK hP hD hS 0 rfl rfl 52 (by decide) (hts _ mw_932) (fun _ h9 => h9) rfl (by decide +kernel) rfl rfl (Nat.le_of_ble_eq_true rfl) dX11_gather_2 (fun H locs hP hD hS => ?_)
  have hP : va_P (dC, dI) vwCl [(x, .inr (11, ((mO a).set 52 (.int 0))))] H := hP
  have hD : va_D A [(x, .inr (11, ((mO a).set 52 (.int 0))))] := hD
  refine lv_iconst (v := 0) hx hb dX11_gather_5 (by decide) ?_
  refine lv_istore_n (lv' := [(1, .int 0), (0, .ref x)]) hx hb dX11_gather_6 rfl hl (by decide) rfl (fun ls hl => ?_)
  refine lv_iload_n hx hb dX11_gather_7 rfl (lv_at hl 0 rfl) ?_
  refine lv_aload_n hx hb dX11_gather_8 rfl (lv_at hl 1 rfl) ?_
  refine va_get (D := (dC, dI)) (ci := 11) (v := .int 0) (C := RX11) (T := TX11) (N := 56) hx hb hts inX11 hown hK hP 0 rfl rfl 49 (by decide) (hts _ mw_929) (fun _ h9 => h9) rfl dX11_gather_9 ?_
  refine lv_icmp_ge (tgt := 62) hx hb dX11_gather_12 (by decide) (fun c_ => ?_) (fun c_ => absurd c_ (by decide))
  refine W.widen (k := 0) (n := 0) (Nat.le_of_ble_eq_true rfl) (Nat.le_of_ble_eq_true rfl) ?_
  have hP9 := hP.sub (ws' := [(x, .inr (11, (mO a)))]) [0] rfl
  have hD9 := hD.sub (ws' := [(x, .inr (11, (mO a)))]) [0] (by decide) rfl
  have hK9 := hK.sub (tys' := []) [] rfl
  exact W.vret hx hb hr (fun t ht hW => ⟨⟨(), rfl, trivial, by rw [ht]; exact hP9, va_K.moved hW.alike hK9, hD9⟩, hS.F ht⟩) hS.2.2 dX11_gather_62

set_option maxHeartbeats 4000000 in
set_option maxRecDepth 100000 in
theorem m_reaches (l : Launch) (dC : Nat → ClassId) (dI : Nat → Nat → Nat) (x : Nat) (a : Nat → Nat) (cy : Nat → ClassId) : Met l yX11_reaches8500 (Cond.code yX11_reaches8500 cX11_reaches8500 3 (some .boolean) :: gT) ({ frames := 1, cells := 0, slots := 0, locals := 60 }) (va_Pc [.ref x] (pu (dC, dI) [(x, .inr (11, (mO a)))] [])) (vp_Si (fun r => r = 0)) 0 0 (fun _ => False) := by
  refine Met.ofW (cc := cX11_reaches8500) (maxL := 3) (ret := (some .boolean)) (by decide) rfl ?_
  intro p e s m args below meth c s₁ B hml hv
  obtain ⟨rfl, hP, hK, hE⟩ := hv
  have hx := B.exec
  have hb := B.bytes
  have hr := B.returns
  have hts : ∀ w ∈ gT, w.before _ s = true := fun w h => atoms_spec (ws := Cond.code yX11_reaches8500 cX11_reaches8500 3 (some .boolean) :: gT) B.pre w (List.mem_cons_of_mem _ h)
  have hown : s.vm.findClass RX11 = some m.cls := findClass_of_methodNamed B.named
  have hlocks := B.notSynchronized
  have hl := lv_entry ([.ref x]) (n := 3) (Nat.le_of_ble_eq_true rfl)
  rw [lg_entry_eq]
  generalize (lg_sl ([.ref x]) ++ List.replicate (3 - (lg_sl ([.ref x])).length) Slot.unset).toArray = ls at hl ⊢
  have hl : lv_has ls 3 [(0, .ref x)] := hl
  refine lv_iconst (v := 0) hx hb dX11_reaches8500_0 (by decide) ?_
  refine lv_istore_n (lv' := [(1, .int 0), (0, .ref x)]) hx hb dX11_reaches8500_1 rfl hl (by decide) rfl (fun ls hl => ?_)
  refine lv_iload_n hx hb dX11_reaches8500_2 rfl (lv_at hl 0 rfl) ?_
  refine lv_aload_n hx hb dX11_reaches8500_3 rfl (lv_at hl 1 rfl) ?_
  refine va_get (D := (dC, dI)) (ci := 11) (v := .int 0) (C := RX11) (T := TX11) (N := 56) hx hb hts inX11 hown hK hP 0 rfl rfl 52 (by decide) (hts _ mw_932) (fun _ h9 => h9) rfl dX11_reaches8500_4 ?_
  refine lv_icmp_ge (tgt := 67) hx hb dX11_reaches8500_7 (by decide) (fun c_ => ?_) (fun c_ => absurd c_ (by decide))
  refine lv_iconst (v := 0) hx hb dX11_reaches8500_67 (by decide) ?_
  exact W.zret (v := 0) (ty := .boolean) hx hb hr rfl (fun t ht hW => ⟨0, rfl, (by first | rfl | (simp []; done)), ht⟩) (fun q h => absurd h List.not_mem_nil) dX11_reaches8500_68

set_option maxHeartbeats 4000000 in
set_option maxRecDepth 100000 in
theorem m_leastSumN (l : Launch) (dC : Nat → ClassId) (dI : Nat → Nat → Nat) (sz : Nat) (x : Nat) (a : Nat → Nat) (cy : Nat → ClassId) (f o : Nat) (hf1 : 1 ≤ f) (hf2 : f ≤ 8000) : Met l yX11_leastSum (Cond.code yX11_leastSum cX11_leastSum 8 (some .int) :: gT) ({ frames := 2, cells := 0, slots := 0, locals := 82 }) (va_Pc [.ref x, .int (nI f), .int (nI o)] (pr (dC, dI) sz [(x, .inr (11, (mO a))), ((a 50), .inl ((cy 50), 348500, .inl (fun _ => 0)))] [((cy 50), .boolean)])) (va_Qi (fun (r : Int32) (_ : Unit) => r = -1) (fun _ _ => True) (va_A [(x, .inr (11, (mO a))), ((a 50), .inl ((cy 50), 348500, .inl (fun _ => 0)))] sz)) 0 0 (va_A [(x, .inr (11, (mO a))), ((a 50), .inl ((cy 50), 348500, .inl (fun _ => 0)))] sz) := by
  refine Met.ofW (cc := cX11_leastSum) (maxL := 8) (ret := (some .int)) (by decide) rfl ?_
  intro p e s m args below meth c s₁ B hml hv
  obtain ⟨rfl, hsz, hP, hK, hD0, hE⟩ := hv
  have hx := B.exec
  have hb := B.bytes
  have hr := B.returns
  have hts : ∀ w ∈ gT, w.before _ s = true := fun w h => atoms_spec (ws := Cond.code yX11_leastSum cX11_leastSum 8 (some .int) :: gT) B.pre w (List.mem_cons_of_mem _ h)
  have hown : s.vm.findClass RX11 = some m.cls := findClass_of_methodNamed B.named
  have hlocks := B.notSynchronized
  subst hsz
  have hD := hD0.self (sz := s.heap.size)
  generalize hAe : va_A [(x, .inr (11, (mO a))), ((a 50), .inl ((cy 50), 348500, .inl (fun _ => 0)))] s.heap.size = A at hD ⊢
  have hA : ∀ q : Nat, s.heap.size ≤ q → A q := fun q h => by rw [← hAe]; exact Or.inr h
  have hS : va_S A s.heap s.heap [] := va_S.rf
  have hl := lv_entry ([.ref x, .int (nI f), .int (nI o)]) (n := 8) (Nat.le_of_ble_eq_true rfl)
  rw [lg_entry_eq]
  generalize (lg_sl ([.ref x, .int (nI f), .int (nI o)]) ++ List.replicate (8 - (lg_sl ([.ref x, .int (nI f), .int (nI o)])).length) Slot.unset).toArray = ls at hl ⊢
  have hl : lv_has ls 8 [(0, .ref x), (1, .int (nI f)), (2, .int (nI o))] := hl
  refine lv_iload_n hx hb dX11_leastSum_0 rfl (lv_at hl 1 rfl) ?_
  refine lv_iload_n hx hb dX11_leastSum_1 rfl (lv_at hl 2 rfl) ?_
  refine lv_iadd hx hb dX11_leastSum_2 ?_
  refine lv_topi (fun y_ e_ => ?_)
  obtain rfl : y_ = (nI (f + o)) := e_.trans (nI_add _ _)
  refine lv_istore_n (lv' := [(3, .int (nI (f + o))), (0, .ref x), (1, .int (nI f)), (2, .int (nI o))]) hx hb dX11_leastSum_3 rfl hl (by decide) rfl (fun ls hl => ?_)
  refine lv_aload_n hx hb dX11_leastSum_4 rfl (lv_at hl 1 rfl) ?_
  refine va_get (D := (dC, dI)) (ci := 11) (v := .int 0) (C := RX11) (T := TX11) (N := 56) hx hb hts inX11 hown hK hP 0 rfl rfl 52 (by decide) (hts _ mw_932) (fun _ h9 => h9) rfl dX11_leastSum_5 ?_
  refine lv_istore (lv' := [(4, .int 0), (3, .int (nI (f + o))), (0, .ref x), (1, .int (nI f)), (2, .int (nI o))]) hx hb dX11_leastSum_8 hl (by decide) rfl (fun ls hl => ?_)
  refine lv_iload hx hb dX11_leastSum_10 (lv_at hl 0 rfl) ?_
  refine lv_if_lt (tgt := 163) hx hb dX11_leastSum_12 (by decide) (fun c_ => absurd c_ (by decide)) (fun c_ => ?_)
  refine lv_iload hx hb dX11_leastSum_15 (lv_at hl 0 rfl) ?_
  refine lv_aload_n hx hb dX11_leastSum_17 rfl (lv_at hl 2 rfl) ?_
  refine va_get (D := (dC, dI)) (ci := 11) (v := .int 0) (C := RX11) (T := TX11) (N := 56) hx hb hts inX11 hown hK hP 0 rfl rfl 52 (by decide) (hts _ mw_932) (fun _ h9 => h9) rfl dX11_leastSum_18 ?_
  refine lv_icmp_ge (tgt := 44) hx hb dX11_leastSum_21 (by decide) (fun c_ => ?_) (fun c_ => absurd c_ (by decide))
  refine lv_iconst (v := 0) hx hb dX11_leastSum_44 (by decide) ?_
  refine lv_istore (lv' := [(5, .int 0), (4, .int 0), (3, .int (nI (f + o))), (0, .ref x), (1, .int (nI f)), (2, .int (nI o))]) hx hb dX11_leastSum_45 hl (by decide) rfl (fun ls hl => ?_)
  refine lv_iconst (v := 0) hx hb dX11_leastSum_47 (by decide) ?_
  refine lv_istore (lv' := [(6, .int 0), (5, .int 0), (4, .int 0), (3, .int (nI (f + o))), (0, .ref x), (1, .int (nI f)), (2, .int (nI o))]) hx hb dX11_leastSum_48 hl (by decide) rfl (fun ls hl => ?_)
  refine wl_loop (fun (i : Nat) H locs ls => i ≤ 8500 ∧ va_P (dC, dI) vwCl [(x, .inr (11, (mO a))), ((a 50), .inl ((cy 50), 348500, .inl (rz i)))] H ∧ va_D A [(x, .inr (11, (mO a))), ((a 50), .inl ((cy 50), 348500, .inl (rz i)))] ∧ va_S A s.heap H locs ∧ lv_has ls 8 [(0, .ref x), (1, .int (nI f)), (2, .int (nI o)), (3, .int (nI (f + o))), (4, .int 0), (5, .int 0), (6, .int (nI i))]) (fun i => 8500 - i) (fun i H locs ls hI ih => ?_) 0 ⟨Nat.zero_le _, by rw [rz_0]; exact hP, by rw [rz_0]; exact hD, hS, lv_sub hl [4, 5, 6, 3, 2, 1, 0] rfl⟩
  obtain ⟨hi, hP, hD, hS, hl⟩ := hI
  refine lv_iload hx hb dX11_leastSum_50 (lv_at hl 6 rfl) ?_
  refine lv_sipush (v := 8500) hx hb dX11_leastSum_52 (by decide) ?_
  refine lv_icmp_ge (tgt := 157) hx hb dX11_leastSum_55 (by decide) (fun c_1 => ?_) (fun c_1 => ?_)
  · have hie := nI_end (x := 8500) (N := 8500) (by decide) (by decide) hi c_1
    subst hie
    refine lv_iinc (v := (-1)) (lv' := [(4, .int (-1)), (0, .ref x), (1, .int (nI f)), (2, .int (nI o)), (3, .int (nI (f + o))), (5, .int 0), (6, .int (nI 8500))]) hx hb dX11_leastSum_157 hl (k := 4) rfl (by decide) (by decide) rfl (fun ls hl => ?_)
    refine lv_goto (tgt := 10) hx hb dX11_leastSum_160 (by decide) ?_
    refine lv_iload hx hb dX11_leastSum_10 (lv_at hl 0 rfl) ?_
    refine lv_if_lt (tgt := 163) hx hb dX11_leastSum_12 (by decide) (fun c_ => ?_) (fun c_ => absurd c_ (by decide))
    refine lv_iload_n hx hb dX11_leastSum_163 rfl (lv_at hl 2 rfl) ?_
    refine lv_istore (lv' := [(4, .int (nI f)), (0, .ref x), (1, .int (nI f)), (2, .int (nI o)), (3, .int (nI (f + o))), (5, .int 0), (6, .int (nI 8500))]) hx hb dX11_leastSum_164 hl (by decide) rfl (fun ls hl => ?_)
    refine wl_loop (fun (i : Nat) H locs ls => (1 ≤ i ∧ i ≤ 8500) ∧ va_P (dC, dI) vwCl [(x, .inr (11, (mO a))), ((a 50), .inl ((cy 50), 348500, .inl (rz 8500)))] H ∧ va_D A [(x, .inr (11, (mO a))), ((a 50), .inl ((cy 50), 348500, .inl (rz 8500)))] ∧ va_S A s.heap H locs ∧ lv_has ls 8 [(0, .ref x), (1, .int (nI f)), (2, .int (nI o)), (3, .int (nI (f + o))), (4, .int (nI i))]) (fun i => 8500 - i) (fun i H locs ls hI ih => ?_) f ⟨⟨hf1, by omega⟩, hP, hD, hS, lv_sub hl [1, 2, 3, 4, 0] rfl⟩
    obtain ⟨hi, hP, hD, hS, hl⟩ := hI
    refine lv_iload hx hb dX11_leastSum_166 (lv_at hl 4 rfl) ?_
    refine lv_iload_n hx hb dX11_leastSum_168 rfl (lv_at hl 3 rfl) ?_
    refine lv_icmp_gt (tgt := 199) hx hb dX11_leastSum_169 (by decide) (fun c_2 => ?_) (fun c_2 => ?_)
    · refine lv_iload_n hx hb dX11_leastSum_199 rfl (lv_at hl 3 rfl) ?_
      refine lv_sipush (v := 8500) hx hb dX11_leastSum_200 (by decide) ?_
      refine lv_icmp_lt (tgt := 221) hx hb dX11_leastSum_203 (by decide) (fun c_3 => ?_) (fun c_3 => ?_)
      · refine lv_iconst (v := (-1)) hx hb dX11_leastSum_221 (by decide) ?_
        exact W.iret (v := (-1)) hx hb hr (fun t ht hW => ⟨⟨(-1), (), rfl, (by first | rfl | (simp [c_1, c_2, c_3]; done)), trivial⟩, hS.F ht⟩) hS.2.2 dX11_leastSum_222
      · refine lv_aload_n hx hb dX11_leastSum_206 rfl (lv_at hl 0 rfl) ?_
        have hPc := hP.sub (ws' := [(x, .inr (11, (mO a)))]) [0] rfl
        have hKc := hK.sub (tys' := []) [] rfl
        refine pc_i (va_runV (As := []) (rest := []) ⟨hx, hb, hml, hown, hts⟩ (m_reaches l dC dI x a cy ) (⟨callB_of 0 hts (gd mw_1207) rfl rfl rfl (hts _ mw_8) (hts _ mw_1204) ds_X11_reaches8500 ⟨Nat.le_of_ble_eq_true rfl, Nat.le_of_ble_eq_true rfl⟩, (hts _ mw_1206), (hts _ mp_51)⟩) (pu_V hPc hKc hE (va_recv hKc hPc (ci := 11) (q0 := 0) rfl rfl)) rfl rfl hl.1 rfl (lv_room (Nat.le_of_ble_eq_true rfl)) dX11_leastSum_207 ⟨Nat.le_of_ble_eq_true rfl, Nat.le_of_ble_eq_true rfl⟩) (fun r_ hw_ => ?_)
        obtain rfl : r_ = 0 := hw_
        refine lv_if_eq (tgt := 219) hx hb dX11_leastSum_210 (by decide) (fun c_ => ?_) (fun c_ => absurd c_ (by decide))
        refine lv_iconst (v := (-1)) hx hb dX11_leastSum_219 (by decide) ?_
        exact W.iret (v := (-1)) hx hb hr (fun t ht hW => ⟨⟨(-1), (), rfl, (by first | rfl | (simp [c_1, c_2, c_3]; done)), trivial⟩, hS.F ht⟩) hS.2.2 dX11_leastSum_220
    · refine lv_iload hx hb dX11_leastSum_172 (lv_at hl 4 rfl) ?_
      refine lv_sipush (v := 8500) hx hb dX11_leastSum_174 (by decide) ?_
      refine lv_icmp_ge (tgt := 199) hx hb dX11_leastSum_177 (by decide) (fun c_5 => ?_) (fun c_5 => ?_)
      · refine lv_iload_n hx hb dX11_leastSum_199 rfl (lv_at hl 3 rfl) ?_
        refine lv_sipush (v := 8500) hx hb dX11_leastSum_200 (by decide) ?_
        refine lv_icmp_lt (tgt := 221) hx hb dX11_leastSum_203 (by decide) (fun c_6 => ?_) (fun c_6 => ?_)
        · refine lv_iconst (v := (-1)) hx hb dX11_leastSum_221 (by decide) ?_
          exact W.iret (v := (-1)) hx hb hr (fun t ht hW => ⟨⟨(-1), (), rfl, (by first | rfl | (simp [c_1, c_2, c_5, c_6]; done)), trivial⟩, hS.F ht⟩) hS.2.2 dX11_leastSum_222
        · refine lv_aload_n hx hb dX11_leastSum_206 rfl (lv_at hl 0 rfl) ?_
          have hPc := hP.sub (ws' := [(x, .inr (11, (mO a)))]) [0] rfl
          have hKc := hK.sub (tys' := []) [] rfl
          refine pc_i (va_runV (As := []) (rest := []) ⟨hx, hb, hml, hown, hts⟩ (m_reaches l dC dI x a cy ) (⟨callB_of 0 hts (gd mw_1207) rfl rfl rfl (hts _ mw_8) (hts _ mw_1204) ds_X11_reaches8500 ⟨Nat.le_of_ble_eq_true rfl, Nat.le_of_ble_eq_true rfl⟩, (hts _ mw_1206), (hts _ mp_51)⟩) (pu_V hPc hKc hE (va_recv hKc hPc (ci := 11) (q0 := 0) rfl rfl)) rfl rfl hl.1 rfl (lv_room (Nat.le_of_ble_eq_true rfl)) dX11_leastSum_207 ⟨Nat.le_of_ble_eq_true rfl, Nat.le_of_ble_eq_true rfl⟩) (fun r_ hw_ => ?_)
          obtain rfl : r_ = 0 := hw_
          refine lv_if_eq (tgt := 219) hx hb dX11_leastSum_210 (by decide) (fun c_ => ?_) (fun c_ => absurd c_ (by decide))
          refine lv_iconst (v := (-1)) hx hb dX11_leastSum_219 (by decide) ?_
          exact W.iret (v := (-1)) hx hb hr (fun t ht hW => ⟨⟨(-1), (), rfl, (by first | rfl | (simp [c_1, c_2, c_5, c_6]; done)), trivial⟩, hS.F ht⟩) hS.2.2 dX11_leastSum_220
      · have hlt := nI_on (x := 8500) (N := 8500) (by decide) (by decide) hi.2 c_5
        refine lv_aload_n hx hb dX11_leastSum_180 rfl (lv_at hl 0 rfl) ?_
        refine va_get (D := (dC, dI)) (ci := 11) (v := .ref (a 50)) (C := RX11) (T := TX11) (N := 56) hx hb hts inX11 hown hK hP 0 rfl rfl 50 (by decide) (hts _ mw_930) (fun _ h9 => h9) rfl dX11_leastSum_181 ?_
        refine lv_iload hx hb dX11_leastSum_184 (lv_at hl 4 rfl) ?_
        refine va_zald hx hb hK hP 1 0 rfl rfl (vp_in_nI (show i < 348500 by omega) (by decide)) dX11_leastSum_186 ?_
        refine lv_topi (fun y_ e_ => ?_)
        obtain rfl : y_ = 0 := e_.trans (rz_z (by omega) (by omega))
        refine lv_if_eq (tgt := 193) hx hb dX11_leastSum_187 (by decide) (fun c_ => ?_) (fun c_ => absurd c_ (by decide))
        refine lv_iinc (v := (nI (i + 1))) (lv' := [(4, .int (nI (i + 1))), (0, .ref x), (1, .int (nI f)), (2, .int (nI o)), (3, .int (nI (f + o)))]) hx hb dX11_leastSum_193 hl (k := 4) rfl (by exact nI_1 _) (by decide) rfl (fun ls hl => ?_)
        refine lv_goto (tgt := 166) hx hb dX11_leastSum_196 (by decide) ?_
        exact ih (i + 1) _ _ _ (by omega) ⟨by omega, hP, hD, hS, lv_sub hl [1, 2, 3, 4, 0] rfl⟩
  · have hlt := nI_on (x := 8500) (N := 8500) (by decide) (by decide) hi c_1
    refine lv_iload hx hb dX11_leastSum_58 (lv_at hl 4 rfl) ?_
    refine lv_aload_n hx hb dX11_leastSum_60 rfl (lv_at hl 0 rfl) ?_
    refine va_get (D := (dC, dI)) (ci := 11) (v := .int 0) (C := RX11) (T := TX11) (N := 56) hx hb hts inX11 hown hK hP 0 rfl rfl 52 (by decide) (hts _ mw_932) (fun _ h9 => h9) rfl dX11_leastSum_61 ?_
    refine lv_icmp_ne (tgt := 80) hx hb dX11_leastSum_64 (by decide) (fun c_ => absurd c_ (by decide)) (fun c_ => ?_)
    refine lv_iload hx hb dX11_leastSum_67 (lv_at hl 6 rfl) ?_
    refine lv_if_ne (tgt := 76) hx hb dX11_leastSum_69 (by decide) (fun c_8 => ?_) (fun c_8 => ?_)
    · refine lv_iconst (v := 0) hx hb dX11_leastSum_76 (by decide) ?_
      refine lv_goto (tgt := 133) hx hb dX11_leastSum_77 (by decide) ?_
      refine lv_istore (lv' := [(7, .int 0), (0, .ref x), (1, .int (nI f)), (2, .int (nI o)), (3, .int (nI (f + o))), (4, .int 0), (5, .int 0), (6, .int (nI i))]) hx hb dX11_leastSum_133 hl (by decide) rfl (fun ls hl => ?_)
      refine lv_aload_n hx hb dX11_leastSum_135 rfl (lv_at hl 1 rfl) ?_
      refine va_get (D := (dC, dI)) (ci := 11) (v := .ref (a 50)) (C := RX11) (T := TX11) (N := 56) hx hb hts inX11 hown hK hP 0 rfl rfl 50 (by decide) (hts _ mw_930) (fun _ h9 => h9) rfl dX11_leastSum_136 ?_
      refine lv_sipush (v := 8500) hx hb dX11_leastSum_139 (by decide) ?_
      refine lv_iload hx hb dX11_leastSum_142 (lv_at hl 5 rfl) ?_
      refine lv_imul hx hb dX11_leastSum_144 ?_
      refine lv_topi (fun y_ e_ => ?_)
      obtain rfl : y_ = 0 := e_.trans (by decide)
      refine lv_iload hx hb dX11_leastSum_145 (lv_at hl 7 rfl) ?_
      refine lv_iadd hx hb dX11_leastSum_147 ?_
      refine lv_topi (fun y_ e_ => ?_)
      obtain rfl : y_ = (nI i) := e_.trans (Int32.zero_add _)
      refine lv_iload hx hb dX11_leastSum_148 (lv_at hl 0 rfl) ?_
      refine va_zast hx hb hK hP hD hS 1 0 rfl rfl (vp_in_nI (show i < 348500 by omega) (by decide)) dX11_leastSum_150 (fun H locs hP hD hS => ?_)
      have hP : va_P (dC, dI) vwCl [(x, .inr (11, (mO a))), ((a 50), .inl ((cy 50), 348500, .inl (upd (rz i) ((nI i) : Int32).toNatClampNeg (vp_nar .boolean 0))))] H := hP
      have hD : va_D A [(x, .inr (11, (mO a))), ((a 50), .inl ((cy 50), 348500, .inl (upd (rz i) ((nI i) : Int32).toNatClampNeg (vp_nar .boolean 0))))] := hD
      refine lv_iinc (v := (nI (i + 1))) (lv' := [(6, .int (nI (i + 1))), (7, .int 0), (0, .ref x), (1, .int (nI f)), (2, .int (nI o)), (3, .int (nI (f + o))), (4, .int 0), (5, .int 0)]) hx hb dX11_leastSum_151 hl (k := 7) rfl (by exact nI_1 _) (by decide) rfl (fun ls hl => ?_)
      refine lv_goto (tgt := 50) hx hb dX11_leastSum_154 (by decide) ?_
      have hfs := rz_n (i := i) (by omega) c_8
      exact ih (i + 1) _ _ _ (by omega) ⟨hlt, by rw [← hfs]; exact hP, by rw [← hfs]; exact hD, hS, lv_sub hl [2, 3, 4, 5, 6, 7, 0] rfl⟩
    · refine lv_iconst (v := 1) hx hb dX11_leastSum_72 (by decide) ?_
      refine lv_goto (tgt := 133) hx hb dX11_leastSum_73 (by decide) ?_
      refine lv_istore (lv' := [(7, .int 1), (0, .ref x), (1, .int (nI f)), (2, .int (nI o)), (3, .int (nI (f + o))), (4, .int 0), (5, .int 0), (6, .int (nI i))]) hx hb dX11_leastSum_133 hl (by decide) rfl (fun ls hl => ?_)
      refine lv_aload_n hx hb dX11_leastSum_135 rfl (lv_at hl 1 rfl) ?_
      refine va_get (D := (dC, dI)) (ci := 11) (v := .ref (a 50)) (C := RX11) (T := TX11) (N := 56) hx hb hts inX11 hown hK hP 0 rfl rfl 50 (by decide) (hts _ mw_930) (fun _ h9 => h9) rfl dX11_leastSum_136 ?_
      refine lv_sipush (v := 8500) hx hb dX11_leastSum_139 (by decide) ?_
      refine lv_iload hx hb dX11_leastSum_142 (lv_at hl 5 rfl) ?_
      refine lv_imul hx hb dX11_leastSum_144 ?_
      refine lv_topi (fun y_ e_ => ?_)
      obtain rfl : y_ = 0 := e_.trans (by decide)
      refine lv_iload hx hb dX11_leastSum_145 (lv_at hl 7 rfl) ?_
      refine lv_iadd hx hb dX11_leastSum_147 ?_
      refine lv_topi (fun y_ e_ => ?_)
      obtain rfl : y_ = (nI i) := e_.trans (Int32.zero_add _)
      refine lv_iload hx hb dX11_leastSum_148 (lv_at hl 0 rfl) ?_
      refine va_zast hx hb hK hP hD hS 1 0 rfl rfl (vp_in_nI (show i < 348500 by omega) (by decide)) dX11_leastSum_150 (fun H locs hP hD hS => ?_)
      have hP : va_P (dC, dI) vwCl [(x, .inr (11, (mO a))), ((a 50), .inl ((cy 50), 348500, .inl (upd (rz i) ((nI i) : Int32).toNatClampNeg (vp_nar .boolean 1))))] H := hP
      have hD : va_D A [(x, .inr (11, (mO a))), ((a 50), .inl ((cy 50), 348500, .inl (upd (rz i) ((nI i) : Int32).toNatClampNeg (vp_nar .boolean 1))))] := hD
      refine lv_iinc (v := (nI (i + 1))) (lv' := [(6, .int (nI (i + 1))), (7, .int 1), (0, .ref x), (1, .int (nI f)), (2, .int (nI o)), (3, .int (nI (f + o))), (4, .int 0), (5, .int 0)]) hx hb dX11_leastSum_151 hl (k := 7) rfl (by exact nI_1 _) (by decide) rfl (fun ls hl => ?_)
      refine lv_goto (tgt := 50) hx hb dX11_leastSum_154 (by decide) ?_
      have hfs := rz_y (i := i) (by omega) c_8
      exact ih (i + 1) _ _ _ (by omega) ⟨hlt, by rw [← hfs]; exact hP, by rw [← hfs]; exact hD, hS, lv_sub hl [2, 3, 4, 5, 6, 7, 0] rfl⟩

theorem m_leastSum (l : Launch) (dC : Nat → ClassId) (dI : Nat → Nat → Nat) (sz : Nat) (x : Nat) (a : Nat → Nat) (cy : Nat → ClassId) (v1 v2 : Int32) (h1 : ¬ wi v1 1 8000 = 0) (h2 : ¬ wi v2 0 500 = 0) : Met l yX11_leastSum (Cond.code yX11_leastSum cX11_leastSum 8 (some .int) :: gT) ({ frames := 2, cells := 0, slots := 0, locals := 82 }) (va_Pc [.ref x, .int v1, .int v2] (pr (dC, dI) sz [(x, .inr (11, (mO a))), ((a 50), .inl ((cy 50), 348500, .inl (fun _ => 0)))] [((cy 50), .boolean)])) (va_Qi (fun (r : Int32) (_ : Unit) => r = -1) (fun _ _ => True) (va_A [(x, .inr (11, (mO a))), ((a 50), .inl ((cy 50), 348500, .inl (fun _ => 0)))] sz)) 0 0 (va_A [(x, .inr (11, (mO a))), ((a 50), .inl ((cy 50), 348500, .inl (fun _ => 0)))] sz) := by
  obtain ⟨f, rfl, hf1, hf2⟩ := wi_nat h1 (by decide)
  obtain ⟨o, rfl, ho1, ho2⟩ := wi_nat h2 (by decide)
  have e1 : (1 : Int32).toInt = 1 := by decide
  have e2 : (8000 : Int32).toInt = 8000 := by decide
  exact m_leastSumN l dC dI sz x a cy f o (by omega) (by omega)

set_option maxHeartbeats 4000000 in
set_option maxRecDepth 100000 in
theorem m_full (l : Launch) (dC : Nat → ClassId) (dI : Nat → Nat → Nat) (sz : Nat) (x : Nat) (a : Nat → Nat) (cy : Nat → ClassId) (v1 v2 : Int32) (h1 : ¬ wi v1 1 8000 = 0) (h2 : ¬ wi v2 0 500 = 0) : Met l yX11_full (Cond.code yX11_full cX11_full 7 (some .int) :: gT) ({ frames := 3, cells := 0, slots := 0, locals := 109 }) (va_Pc [.ref x, .int v1, .int v2] (pr (dC, dI) sz [(x, .inr (11, (mO a))), ((a 50), .inl ((cy 50), 348500, .inl (fun _ => 0)))] [((cy 50), .boolean)])) (va_Qi (fun (r : Int32) (_ : Unit) => r = 0) (fun _ _ => True) (va_A [(x, .inr (11, (mO a))), ((a 50), .inl ((cy 50), 348500, .inl (fun _ => 0)))] sz)) 0 0 (va_A [(x, .inr (11, (mO a))), ((a 50), .inl ((cy 50), 348500, .inl (fun _ => 0)))] sz) := by
  refine Met.ofW (cc := cX11_full) (maxL := 7) (ret := (some .int)) (by decide) rfl ?_
  intro p e s m args below meth c s₁ B hml hv
  obtain ⟨rfl, hsz, hP, hK, hD0, hE⟩ := hv
  have hx := B.exec
  have hb := B.bytes
  have hr := B.returns
  have hts : ∀ w ∈ gT, w.before _ s = true := fun w h => atoms_spec (ws := Cond.code yX11_full cX11_full 7 (some .int) :: gT) B.pre w (List.mem_cons_of_mem _ h)
  have hown : s.vm.findClass RX11 = some m.cls := findClass_of_methodNamed B.named
  have hlocks := B.notSynchronized
  subst hsz
  have hD := hD0.self (sz := s.heap.size)
  generalize hAe : va_A [(x, .inr (11, (mO a))), ((a 50), .inl ((cy 50), 348500, .inl (fun _ => 0)))] s.heap.size = A at hD ⊢
  have hA : ∀ q : Nat, s.heap.size ≤ q → A q := fun q h => by rw [← hAe]; exact Or.inr h
  have hS : va_S A s.heap s.heap [] := va_S.rf
  have hl := lv_entry ([.ref x, .int v1, .int v2]) (n := 7) (Nat.le_of_ble_eq_true rfl)
  rw [lg_entry_eq]
  generalize (lg_sl ([.ref x, .int v1, .int v2]) ++ List.replicate (7 - (lg_sl ([.ref x, .int v1, .int v2])).length) Slot.unset).toArray = ls at hl ⊢
  have hl : lv_has ls 7 [(0, .ref x), (1, .int v1), (2, .int v2)] := hl
  refine lv_iconst (v := 0) hx hb dX11_full_0 (by decide) ?_
  refine lv_istore_n (lv' := [(3, .int 0), (0, .ref x), (1, .int v1), (2, .int v2)]) hx hb dX11_full_1 rfl hl (by decide) rfl (fun ls hl => ?_)
  refine lv_iconst (v := 1) hx hb dX11_full_2 (by decide) ?_
  refine lv_istore (lv' := [(4, .int 1), (3, .int 0), (0, .ref x), (1, .int v1), (2, .int v2)]) hx hb dX11_full_3 hl (by decide) rfl (fun ls hl => ?_)
  refine lv_iload hx hb dX11_full_5 (lv_at hl 0 rfl) ?_
  refine lv_if_eq (tgt := 101) hx hb dX11_full_7 (by decide) (fun c_ => absurd c_ (by decide)) (fun c_ => ?_)
  refine lv_aload_n hx hb dX11_full_10 rfl (lv_at hl 2 rfl) ?_
  have hPc := hP.sub (ws' := [(x, .inr (11, (mO a)))]) [0] rfl
  have hKc := hK.sub (tys' := []) [] rfl
  have hDc := hD.sub (ws' := [(x, .inr (11, (mO a)))]) [0] (by decide) rfl
  have hFc := va_free (wc := [(x, .inr (11, (mO a)))]) hD hS hA [0] rfl
  refine va_callv (va_runV (As := []) (rest := []) ⟨hx, hb, hml, hown, hts⟩ (m_gather l dC dI s.heap.size x a cy ) (⟨callB_of 0 hts (gd mw_1199) rfl rfl rfl (hts _ mw_8) (hts _ mw_1196) ds_X11_gather ⟨Nat.le_of_ble_eq_true rfl, Nat.le_of_ble_eq_true rfl⟩, (hts _ mw_1198), (hts _ mp_49)⟩) (pr_V hPc hKc hDc hE (va_recv hKc hPc (ci := 11) (q0 := 0) rfl rfl)) rfl rfl hl.1 rfl (lv_room (Nat.le_of_ble_eq_true rfl)) dX11_full_11 ⟨Nat.le_of_ble_eq_true rfl, Nat.le_of_ble_eq_true rfl⟩) hS (fun q _ h => hFc q h) hFc (fun u_ t_ H1 locs ht hvm hw_ hB hz1 hk1 hS => ?_)
  obtain ⟨hP1, hK1, hD1⟩ := hB
  rw [ht] at hP1
  have hK1 := va_K.moved hvm.symm hK1
  obtain ⟨hP, hD⟩ := va_join (wr := [((a 50), .inl ((cy 50), 348500, .inl (fun _ => 0)))]) (w1 := [(x, .inr (11, (mO a)))]) hP hD [0] [1] rfl rfl (by decide) (by decide) hk1 hFc hP1 hD1
  generalize H1 = H at hP hS ⊢
  have hP : va_P (dC, dI) vwCl [((a 50), .inl ((cy 50), 348500, .inl (fun _ => 0))), (x, .inr (11, (mO a)))] H := hP
  have hD : va_D A [((a 50), .inl ((cy 50), 348500, .inl (fun _ => 0))), (x, .inr (11, (mO a)))] := hD
  refine lv_aload_n hx hb dX11_full_14 rfl (lv_at hl 2 rfl) ?_
  refine lv_iload_n hx hb dX11_full_15 rfl (lv_at hl 3 rfl) ?_
  refine lv_iload_n hx hb dX11_full_16 rfl (lv_at hl 4 rfl) ?_
  have hPc := hP.sub (ws' := [(x, .inr (11, (mO a))), ((a 50), .inl ((cy 50), 348500, .inl (fun _ => 0)))]) [1, 0] rfl
  have hKc := hK.sub (tys' := [((cy 50), .boolean)]) [0] rfl
  have hDc := hD.sub (ws' := [(x, .inr (11, (mO a))), ((a 50), .inl ((cy 50), 348500, .inl (fun _ => 0)))]) [1, 0] (by decide) rfl
  have hFc := va_free (wc := [(x, .inr (11, (mO a))), ((a 50), .inl ((cy 50), 348500, .inl (fun _ => 0)))]) hD hS hA [1, 0] rfl
  refine va_calli (va_runV (As := [.int v1, .int v2]) (rest := []) ⟨hx, hb, hml, hown, hts⟩ (m_leastSum l dC dI H.size x a cy v1 v2 h1 h2) (⟨callB_of 2 hts (gd mw_1203) rfl rfl rfl (hts _ mw_8) (hts _ mw_1200) ds_X11_leastSum ⟨Nat.le_of_ble_eq_true rfl, Nat.le_of_ble_eq_true rfl⟩, (hts _ mw_1202), (hts _ mp_50)⟩) (pr_V hPc hKc hDc hE (va_recv hKc hPc (ci := 11) (q0 := 0) rfl rfl)) rfl rfl hl.1 rfl (lv_room (Nat.le_of_ble_eq_true rfl)) dX11_full_17 ⟨Nat.le_of_ble_eq_true rfl, Nat.le_of_ble_eq_true rfl⟩) hS (fun q _ h => hFc q h) hFc (fun r_ u_ t_ H1 locs ht hvm hw_ hB hz1 hk1 hS => ?_)
  obtain rfl : r_ = (-1) := hw_
  have hP1 : va_P (dC, dI) vwCl [] H1 := fun k q h => by simp at h
  have hD1 : va_D (va_A [(x, .inr (11, (mO a))), ((a 50), .inl ((cy 50), 348500, .inl (fun _ => 0)))] H.size) [] := ⟨fun i j p q h => by simp at h, fun k q h => by simp at h⟩
  obtain ⟨hP, hD⟩ := va_join (wr := []) (w1 := []) hP hD [1, 0] [] rfl rfl (by decide) (by decide) hk1 hFc hP1 hD1
  generalize H1 = H at hP hS ⊢
  have hP : va_P (dC, dI) vwCl [] H := hP
  have hD : va_D A [] := hD
  refine lv_istore (lv' := [(5, .int (-1)), (4, .int 1), (3, .int 0), (0, .ref x), (1, .int v1), (2, .int v2)]) hx hb dX11_full_20 hl (by decide) rfl (fun ls hl => ?_)
  refine lv_iload hx hb dX11_full_22 (lv_at hl 0 rfl) ?_
  refine lv_if_lt (tgt := 31) hx hb dX11_full_24 (by decide) (fun c_ => ?_) (fun c_ => absurd c_ (by decide))
  refine lv_iconst (v := 0) hx hb dX11_full_31 (by decide) ?_
  refine lv_istore (lv' := [(4, .int 0), (5, .int (-1)), (3, .int 0), (0, .ref x), (1, .int v1), (2, .int v2)]) hx hb dX11_full_32 hl (by decide) rfl (fun ls hl => ?_)
  refine lv_iload hx hb dX11_full_34 (lv_at hl 0 rfl) ?_
  refine lv_if_ne (tgt := 42) hx hb dX11_full_36 (by decide) (fun c_ => absurd c_ (by decide)) (fun c_ => ?_)
  refine lv_goto (tgt := 5) hx hb dX11_full_39 (by decide) ?_
  refine lv_iload hx hb dX11_full_5 (lv_at hl 0 rfl) ?_
  refine lv_if_eq (tgt := 101) hx hb dX11_full_7 (by decide) (fun c_ => ?_) (fun c_ => absurd c_ (by decide))
  refine lv_iload_n hx hb dX11_full_101 rfl (lv_at hl 2 rfl) ?_
  refine W.widen (k := 0) (n := 0) (Nat.le_of_ble_eq_true rfl) (Nat.le_of_ble_eq_true rfl) ?_
  exact W.iret (v := 0) hx hb hr (fun t ht hW => ⟨⟨0, (), rfl, (by first | rfl | (simp []; done)), trivial⟩, hS.F ht⟩) hS.2.2 dX11_full_102

set_option maxHeartbeats 4000000 in
set_option maxRecDepth 100000 in
theorem m_most (l : Launch) (dC : Nat → ClassId) (dI : Nat → Nat → Nat) (sz : Nat) (x : Nat) (a : Nat → Nat) (cy : Nat → ClassId) (v1 v2 : Int32) : Met l yX11_most (Cond.code yX11_most cX11_most 9 (some .int) :: gT) ({ frames := 1, cells := 0, slots := 0, locals := 60 }) (va_Pc [.ref x, .int v1, .int v2] (pr (dC, dI) sz [(x, .inr (11, (mO a))), ((a 53), .inl ((cy 53), 16384, .inl (fun _ => 0))), ((a 54), .inl ((cy 54), 16384, .inl (fun _ => 0)))] [((cy 53), .int), ((cy 54), .byte)])) (va_Qi (fun (r : Int32) (_ : Unit) => r = 0) (fun _ _ => True) (va_A [(x, .inr (11, (mO a))), ((a 53), .inl ((cy 53), 16384, .inl (fun _ => 0))), ((a 54), .inl ((cy 54), 16384, .inl (fun _ => 0)))] sz)) 0 0 (va_A [(x, .inr (11, (mO a))), ((a 53), .inl ((cy 53), 16384, .inl (fun _ => 0))), ((a 54), .inl ((cy 54), 16384, .inl (fun _ => 0)))] sz) := by
  refine Met.ofW (cc := cX11_most) (maxL := 9) (ret := (some .int)) (by decide) rfl ?_
  intro p e s m args below meth c s₁ B hml hv
  obtain ⟨rfl, hsz, hP, hK, hD0, hE⟩ := hv
  have hx := B.exec
  have hb := B.bytes
  have hr := B.returns
  have hts : ∀ w ∈ gT, w.before _ s = true := fun w h => atoms_spec (ws := Cond.code yX11_most cX11_most 9 (some .int) :: gT) B.pre w (List.mem_cons_of_mem _ h)
  have hown : s.vm.findClass RX11 = some m.cls := findClass_of_methodNamed B.named
  have hlocks := B.notSynchronized
  subst hsz
  have hD := hD0.self (sz := s.heap.size)
  generalize hAe : va_A [(x, .inr (11, (mO a))), ((a 53), .inl ((cy 53), 16384, .inl (fun _ => 0))), ((a 54), .inl ((cy 54), 16384, .inl (fun _ => 0)))] s.heap.size = A at hD ⊢
  have hA : ∀ q : Nat, s.heap.size ≤ q → A q := fun q h => by rw [← hAe]; exact Or.inr h
  have hS : va_S A s.heap s.heap [] := va_S.rf
  have hl := lv_entry ([.ref x, .int v1, .int v2]) (n := 9) (Nat.le_of_ble_eq_true rfl)
  rw [lg_entry_eq]
  generalize (lg_sl ([.ref x, .int v1, .int v2]) ++ List.replicate (9 - (lg_sl ([.ref x, .int v1, .int v2])).length) Slot.unset).toArray = ls at hl ⊢
  have hl : lv_has ls 9 [(0, .ref x), (1, .int v1), (2, .int v2)] := hl
  refine lv_aload_n hx hb dX11_most_0 rfl (lv_at hl 0 rfl) ?_
  refine va_get (D := (dC, dI)) (ci := 11) (v := .int 0) (C := RX11) (T := TX11) (N := 56) hx hb hts inX11 hown hK hP 0 rfl rfl 48 (by decide) (hts _ mw_928) (fun _ h9 => h9) rfl dX11_most_1 ?_
  refine lv_bipush (v := 14) hx hb dX11_most_4 (by decide) ?_
  refine lv_icmp_ge (tgt := 16) hx hb dX11_most_6 (by decide) (fun c_ => absurd c_ (by decide)) (fun c_ => ?_)
  refine lv_aload_n hx hb dX11_most_9 rfl (lv_at hl 0 rfl) ?_
  refine va_get (D := (dC, dI)) (ci := 11) (v := .int 0) (C := RX11) (T := TX11) (N := 56) hx hb hts inX11 hown hK hP 0 rfl rfl 48 (by decide) (hts _ mw_928) (fun _ h9 => h9) rfl dX11_most_10 ?_
  refine lv_goto (tgt := 18) hx hb dX11_most_13 (by decide) ?_
  refine lv_istore_n (lv' := [(3, .int 0), (0, .ref x), (1, .int v1), (2, .int v2)]) hx hb dX11_most_18 rfl hl (by decide) rfl (fun ls hl => ?_)
  refine lv_iconst (v := 0) hx hb dX11_most_19 (by decide) ?_
  refine lv_istore (lv' := [(4, .int 0), (3, .int 0), (0, .ref x), (1, .int v1), (2, .int v2)]) hx hb dX11_most_20 hl (by decide) rfl (fun ls hl => ?_)
  refine lv_iload hx hb dX11_most_22 (lv_at hl 0 rfl) ?_
  refine lv_iconst (v := 1) hx hb dX11_most_24 (by decide) ?_
  refine lv_iload_n hx hb dX11_most_25 rfl (lv_at hl 1 rfl) ?_
  refine lv_ishl hx hb dX11_most_26 ?_
  refine lv_topi (fun y_ e_ => ?_)
  obtain rfl : y_ = 1 := e_.trans (by decide)
  refine lv_icmp_ge (tgt := 244) hx hb dX11_most_27 (by decide) (fun c_ => absurd c_ (by decide)) (fun c_ => ?_)
  refine lv_iconst (v := 0) hx hb dX11_most_30 (by decide) ?_
  refine lv_istore (lv' := [(5, .int 0), (4, .int 0), (3, .int 0), (0, .ref x), (1, .int v1), (2, .int v2)]) hx hb dX11_most_31 hl (by decide) rfl (fun ls hl => ?_)
  refine lv_iload hx hb dX11_most_33 (lv_at hl 1 rfl) ?_
  refine lv_if_le (tgt := 54) hx hb dX11_most_35 (by decide) (fun c_ => ?_) (fun c_ => absurd c_ (by decide))
  refine lv_aload_n hx hb dX11_most_54 rfl (lv_at hl 3 rfl) ?_
  refine va_get (D := (dC, dI)) (ci := 11) (v := .ref (a 53)) (C := RX11) (T := TX11) (N := 56) hx hb hts inX11 hown hK hP 0 rfl rfl 53 (by decide) (hts _ mw_933) (fun _ h9 => h9) rfl dX11_most_55 ?_
  refine lv_iload hx hb dX11_most_58 (lv_at hl 1 rfl) ?_
  refine lv_iload hx hb dX11_most_60 (lv_at hl 1 rfl) ?_
  refine lv_if_ne (tgt := 69) hx hb dX11_most_62 (by decide) (fun c_ => absurd c_ (by decide)) (fun c_ => ?_)
  refine lv_iconst (v := 0) hx hb dX11_most_65 (by decide) ?_
  refine lv_goto (tgt := 94) hx hb dX11_most_66 (by decide) ?_
  refine va_iast hx hb hK hP hD hS 1 0 rfl rfl (by unfold vp_in; decide) dX11_most_94 (fun H locs hP hD hS => ?_)
  have hP : va_P (dC, dI) vwCl [(x, .inr (11, (mO a))), ((a 53), .inl ((cy 53), 16384, .inl (upd (fun _ => 0) (0 : Int32).toNatClampNeg 0))), ((a 54), .inl ((cy 54), 16384, .inl (fun _ => 0)))] H := hP
  have hD : va_D A [(x, .inr (11, (mO a))), ((a 53), .inl ((cy 53), 16384, .inl (upd (fun _ => 0) (0 : Int32).toNatClampNeg 0))), ((a 54), .inl ((cy 54), 16384, .inl (fun _ => 0)))] := hD
  refine lv_aload_n hx hb dX11_most_95 rfl (lv_at hl 3 rfl) ?_
  refine va_get (D := (dC, dI)) (ci := 11) (v := .ref (a 54)) (C := RX11) (T := TX11) (N := 56) hx hb hts inX11 hown hK hP 0 rfl rfl 54 (by decide) (hts _ mw_934) (fun _ h9 => h9) rfl dX11_most_96 ?_
  refine lv_iload hx hb dX11_most_99 (lv_at hl 1 rfl) ?_
  refine lv_iload hx hb dX11_most_101 (lv_at hl 1 rfl) ?_
  refine lv_if_ne (tgt := 110) hx hb dX11_most_103 (by decide) (fun c_ => absurd c_ (by decide)) (fun c_ => ?_)
  refine lv_iconst (v := 0) hx hb dX11_most_106 (by decide) ?_
  refine lv_goto (tgt := 122) hx hb dX11_most_107 (by decide) ?_
  refine va_bast hx hb hK hP hD hS 2 1 rfl rfl (by unfold vp_in; decide) dX11_most_122 (fun H locs hP hD hS => ?_)
  have hP : va_P (dC, dI) vwCl [(x, .inr (11, (mO a))), ((a 53), .inl ((cy 53), 16384, .inl (upd (fun _ => 0) (0 : Int32).toNatClampNeg 0))), ((a 54), .inl ((cy 54), 16384, .inl (upd (fun _ => 0) (0 : Int32).toNatClampNeg (vp_nar .byte 0))))] H := hP
  have hD : va_D A [(x, .inr (11, (mO a))), ((a 53), .inl ((cy 53), 16384, .inl (upd (fun _ => 0) (0 : Int32).toNatClampNeg 0))), ((a 54), .inl ((cy 54), 16384, .inl (upd (fun _ => 0) (0 : Int32).toNatClampNeg (vp_nar .byte 0))))] := hD
  refine lv_iload hx hb dX11_most_123 (lv_at hl 1 rfl) ?_
  refine lv_if_ne (tgt := 131) hx hb dX11_most_125 (by decide) (fun c_ => absurd c_ (by decide)) (fun c_ => ?_)
  refine lv_goto (tgt := 238) hx hb dX11_most_128 (by decide) ?_
  refine lv_iinc (v := 1) (lv' := [(4, .int 1), (5, .int 0), (3, .int 0), (0, .ref x), (1, .int v1), (2, .int v2)]) hx hb dX11_most_238 hl (k := 1) rfl (by decide) (by decide) rfl (fun ls hl => ?_)
  refine lv_goto (tgt := 22) hx hb dX11_most_241 (by decide) ?_
  refine lv_iload hx hb dX11_most_22 (lv_at hl 0 rfl) ?_
  refine lv_iconst (v := 1) hx hb dX11_most_24 (by decide) ?_
  refine lv_iload_n hx hb dX11_most_25 rfl (lv_at hl 2 rfl) ?_
  refine lv_ishl hx hb dX11_most_26 ?_
  refine lv_topi (fun y_ e_ => ?_)
  obtain rfl : y_ = 1 := e_.trans (by decide)
  refine lv_icmp_ge (tgt := 244) hx hb dX11_most_27 (by decide) (fun c_ => ?_) (fun c_ => absurd c_ (by decide))
  refine lv_aload_n hx hb dX11_most_244 rfl (lv_at hl 3 rfl) ?_
  refine va_get (D := (dC, dI)) (ci := 11) (v := .ref (a 54)) (C := RX11) (T := TX11) (N := 56) hx hb hts inX11 hown hK hP 0 rfl rfl 54 (by decide) (hts _ mw_934) (fun _ h9 => h9) rfl dX11_most_245 ?_
  refine lv_iconst (v := 1) hx hb dX11_most_248 (by decide) ?_
  refine lv_iload_n hx hb dX11_most_249 rfl (lv_at hl 2 rfl) ?_
  refine lv_ishl hx hb dX11_most_250 ?_
  refine lv_topi (fun y_ e_ => ?_)
  obtain rfl : y_ = 1 := e_.trans (by decide)
  refine lv_iconst (v := 1) hx hb dX11_most_251 (by decide) ?_
  refine lv_isub hx hb dX11_most_252 ?_
  refine lv_topi (fun y_ e_ => ?_)
  obtain rfl : y_ = 0 := e_.trans (by decide)
  refine va_bald hx hb hK hP 2 1 rfl rfl (by unfold vp_in; decide) dX11_most_253 ?_
  refine W.widen (k := 0) (n := 0) (Nat.le_of_ble_eq_true rfl) (Nat.le_of_ble_eq_true rfl) ?_
  exact W.iret (v := ((upd (fun _ => 0) (0 : Int32).toNatClampNeg (vp_nar .byte 0)) (0 : Int32).toNatClampNeg)) hx hb hr (fun t ht hW => ⟨⟨((upd (fun _ => 0) (0 : Int32).toNatClampNeg (vp_nar .byte 0)) (0 : Int32).toNatClampNeg), (), rfl, (by first | rfl | (simp []; done)), trivial⟩, hS.F ht⟩) hS.2.2 dX11_most_254

set_option maxHeartbeats 4000000 in
set_option maxRecDepth 100000 in
theorem m_pack (l : Launch) (dC : Nat → ClassId) (dI : Nat → Nat → Nat) (sz : Nat) (x : Nat) (a : Nat → Nat) (cy : Nat → ClassId) (v1 v2 v3 : Int32) : Met l yX11_pack (Cond.code yX11_pack cX11_pack 7 (some .int) :: gT) ({ frames := 3, cells := 0, slots := 0, locals := 109 }) (va_Pc [.ref x, .int v1, .int v2, .int v3] (pr (dC, dI) sz [(x, .inr (11, (mO a))), ((a 43), .inl ((cy 43), 144, .inl (fun _ => (-1)))), ((a 50), .inl ((cy 50), 348500, .inl (fun _ => 0)))] [((cy 43), .int), ((cy 50), .boolean)])) (va_Qi (fun (r : Int32) (_ : Unit) => r = -1) (fun _ _ => True) (va_A [(x, .inr (11, (mO a))), ((a 43), .inl ((cy 43), 144, .inl (fun _ => (-1)))), ((a 50), .inl ((cy 50), 348500, .inl (fun _ => 0)))] sz)) 0 0 (va_A [(x, .inr (11, (mO a))), ((a 43), .inl ((cy 43), 144, .inl (fun _ => (-1)))), ((a 50), .inl ((cy 50), 348500, .inl (fun _ => 0)))] sz) := by
  refine Met.ofW (cc := cX11_pack) (maxL := 7) (ret := (some .int)) (by decide) rfl ?_
  intro p e s m args below meth c s₁ B hml hv
  obtain ⟨rfl, hsz, hP, hK, hD0, hE⟩ := hv
  have hx := B.exec
  have hb := B.bytes
  have hr := B.returns
  have hts : ∀ w ∈ gT, w.before _ s = true := fun w h => atoms_spec (ws := Cond.code yX11_pack cX11_pack 7 (some .int) :: gT) B.pre w (List.mem_cons_of_mem _ h)
  have hown : s.vm.findClass RX11 = some m.cls := findClass_of_methodNamed B.named
  have hlocks := B.notSynchronized
  subst hsz
  have hD := hD0.self (sz := s.heap.size)
  generalize hAe : va_A [(x, .inr (11, (mO a))), ((a 43), .inl ((cy 43), 144, .inl (fun _ => (-1)))), ((a 50), .inl ((cy 50), 348500, .inl (fun _ => 0)))] s.heap.size = A at hD ⊢
  have hA : ∀ q : Nat, s.heap.size ≤ q → A q := fun q h => by rw [← hAe]; exact Or.inr h
  have hS : va_S A s.heap s.heap [] := va_S.rf
  have hl := lv_entry ([.ref x, .int v1, .int v2, .int v3]) (n := 7) (Nat.le_of_ble_eq_true rfl)
  rw [lg_entry_eq]
  generalize (lg_sl ([.ref x, .int v1, .int v2, .int v3]) ++ List.replicate (7 - (lg_sl ([.ref x, .int v1, .int v2, .int v3])).length) Slot.unset).toArray = ls at hl ⊢
  have hl : lv_has ls 7 [(0, .ref x), (1, .int v1), (2, .int v2), (3, .int v3)] := hl
  refine lv_iload_n hx hb dX11_pack_0 rfl (lv_at hl 1 rfl) ?_
  refine lv_iload_n hx hb dX11_pack_1 rfl (lv_at hl 2 rfl) ?_
  refine lv_iload_n hx hb dX11_pack_2 rfl (lv_at hl 3 rfl) ?_
  have hPc := hP.sub (ws' := []) [] rfl
  have hKc := hK.sub (tys' := []) [] rfl
  refine pc_i (va_runS (As := [.int v1, .int v2, .int v3]) (rest := []) ⟨hx, hb, hml, hown, hts⟩ (c_areNumbers l dC dI v1 v2 v3) (⟨callB_of 3 hts (gd mw_1191) rfl rfl rfl (hts _ mw_8) (hts _ mw_1189) ds_X11_areNumbers ⟨Nat.le_of_ble_eq_true rfl, Nat.le_of_ble_eq_true rfl⟩, (hts _ mw_1190)⟩) (pu_S hPc hKc hE) rfl rfl hl.1 rfl (lv_room (Nat.le_of_ble_eq_true rfl)) dX11_pack_3 ⟨Nat.le_of_ble_eq_true rfl, Nat.le_of_ble_eq_true rfl⟩) (fun r_ hw_ => ?_)
  obtain rfl : r_ = (cb v1 v2 v3) := hw_
  refine lv_if_eq (tgt := 19) hx hb dX11_pack_6 (by decide) (fun c_2 => ?_) (fun c_2 => ?_)
  · refine lv_iconst (v := (-1)) hx hb dX11_pack_19 (by decide) ?_
    refine W.widen (k := 0) (n := 0) (Nat.le_of_ble_eq_true rfl) (Nat.le_of_ble_eq_true rfl) ?_
    exact W.iret (v := (-1)) hx hb hr (fun t ht hW => ⟨⟨(-1), (), rfl, (by first | rfl | (simp [c_2]; done)), trivial⟩, hS.F ht⟩) hS.2.2 dX11_pack_20
  · refine lv_aload_n hx hb dX11_pack_9 rfl (lv_at hl 0 rfl) ?_
    refine va_get (D := (dC, dI)) (ci := 11) (v := .int 0) (C := RX11) (T := TX11) (N := 56) hx hb hts inX11 hown hK hP 0 rfl rfl 3 (by decide) (hts _ mw_883) (fun _ h9 => h9) rfl dX11_pack_10 ?_
    refine lv_sipush (v := 200) hx hb dX11_pack_13 (by decide) ?_
    refine lv_icmp_ne (tgt := 21) hx hb dX11_pack_16 (by decide) (fun c_ => ?_) (fun c_ => absurd c_ (by decide))
    refine lv_aload_n hx hb dX11_pack_21 rfl (lv_at hl 0 rfl) ?_
    refine lv_iload_n hx hb dX11_pack_22 rfl (lv_at hl 1 rfl) ?_
    have hPc := hP.sub (ws' := [(x, .inr (11, (mO a))), ((a 43), .inl ((cy 43), 144, .inl (fun _ => (-1))))]) [0, 1] rfl
    have hKc := hK.sub (tys' := [((cy 43), .int)]) [0] rfl
    have hDc := hD.sub (ws' := [(x, .inr (11, (mO a))), ((a 43), .inl ((cy 43), 144, .inl (fun _ => (-1))))]) [0, 1] (by decide) rfl
    have hFc := va_free (wc := [(x, .inr (11, (mO a))), ((a 43), .inl ((cy 43), 144, .inl (fun _ => (-1))))]) hD hS hA [0, 1] rfl
    refine va_callv (va_runV (As := [.int v1]) (rest := []) ⟨hx, hb, hml, hown, hts⟩ (m_list l dC dI s.heap.size x a cy v1) (⟨callB_of 1 hts (gd mw_1195) rfl rfl rfl (hts _ mw_8) (hts _ mw_1192) ds_X11_list ⟨Nat.le_of_ble_eq_true rfl, Nat.le_of_ble_eq_true rfl⟩, (hts _ mw_1194), (hts _ mp_48)⟩) (pr_V hPc hKc hDc hE (va_recv hKc hPc (ci := 11) (q0 := 0) rfl rfl)) rfl rfl hl.1 rfl (lv_room (Nat.le_of_ble_eq_true rfl)) dX11_pack_23 ⟨Nat.le_of_ble_eq_true rfl, Nat.le_of_ble_eq_true rfl⟩) hS (fun q _ h => hFc q h) hFc (fun u_ t_ H1 locs ht hvm hw_ hB hz1 hk1 hS => ?_)
    obtain ⟨hP1, hK1, hD1⟩ := hB
    rw [ht] at hP1
    have hK1 := va_K.moved hvm.symm hK1
    obtain ⟨hP, hD⟩ := va_join (wr := [((a 50), .inl ((cy 50), 348500, .inl (fun _ => 0)))]) (w1 := [(x, .inr (11, (mO a))), ((a 43), .inl ((cy 43), 144, .inl (fun _ => (-1))))]) hP hD [0, 1] [2] rfl rfl (by decide) (by decide) hk1 hFc hP1 hD1
    generalize H1 = H at hP hS ⊢
    have hP : va_P (dC, dI) vwCl [((a 50), .inl ((cy 50), 348500, .inl (fun _ => 0))), (x, .inr (11, (mO a))), ((a 43), .inl ((cy 43), 144, .inl (fun _ => (-1))))] H := hP
    have hD : va_D A [((a 50), .inl ((cy 50), 348500, .inl (fun _ => 0))), (x, .inr (11, (mO a))), ((a 43), .inl ((cy 43), 144, .inl (fun _ => (-1))))] := hD
    refine lv_aload_n hx hb dX11_pack_26 rfl (lv_at hl 0 rfl) ?_
    have hPc := hP.sub (ws' := [(x, .inr (11, (mO a)))]) [1] rfl
    have hKc := hK.sub (tys' := []) [] rfl
    have hDc := hD.sub (ws' := [(x, .inr (11, (mO a)))]) [1] (by decide) rfl
    have hFc := va_free (wc := [(x, .inr (11, (mO a)))]) hD hS hA [1] rfl
    refine va_callv (va_runV (As := []) (rest := []) ⟨hx, hb, hml, hown, hts⟩ (m_gather l dC dI H.size x a cy ) (⟨callB_of 0 hts (gd mw_1199) rfl rfl rfl (hts _ mw_8) (hts _ mw_1196) ds_X11_gather ⟨Nat.le_of_ble_eq_true rfl, Nat.le_of_ble_eq_true rfl⟩, (hts _ mw_1198), (hts _ mp_49)⟩) (pr_V hPc hKc hDc hE (va_recv hKc hPc (ci := 11) (q0 := 0) rfl rfl)) rfl rfl hl.1 rfl (lv_room (Nat.le_of_ble_eq_true rfl)) dX11_pack_27 ⟨Nat.le_of_ble_eq_true rfl, Nat.le_of_ble_eq_true rfl⟩) hS (fun q _ h => hFc q h) hFc (fun u_ t_ H1 locs ht hvm hw_ hB hz1 hk1 hS => ?_)
    obtain ⟨hP1, hK1, hD1⟩ := hB
    rw [ht] at hP1
    have hK1 := va_K.moved hvm.symm hK1
    obtain ⟨hP, hD⟩ := va_join (wr := [((a 50), .inl ((cy 50), 348500, .inl (fun _ => 0))), ((a 43), .inl ((cy 43), 144, .inl (fun _ => (-1))))]) (w1 := [(x, .inr (11, (mO a)))]) hP hD [1] [0, 2] rfl rfl (by decide) (by decide) hk1 hFc hP1 hD1
    generalize H1 = H at hP hS ⊢
    have hP : va_P (dC, dI) vwCl [((a 50), .inl ((cy 50), 348500, .inl (fun _ => 0))), ((a 43), .inl ((cy 43), 144, .inl (fun _ => (-1)))), (x, .inr (11, (mO a)))] H := hP
    have hD : va_D A [((a 50), .inl ((cy 50), 348500, .inl (fun _ => 0))), ((a 43), .inl ((cy 43), 144, .inl (fun _ => (-1)))), (x, .inr (11, (mO a)))] := hD
    refine lv_aload_n hx hb dX11_pack_30 rfl (lv_at hl 0 rfl) ?_
    refine lv_iload_n hx hb dX11_pack_31 rfl (lv_at hl 2 rfl) ?_
    refine lv_iload_n hx hb dX11_pack_32 rfl (lv_at hl 3 rfl) ?_
    have hPc := hP.sub (ws' := [(x, .inr (11, (mO a))), ((a 50), .inl ((cy 50), 348500, .inl (fun _ => 0)))]) [2, 0] rfl
    have hKc := hK.sub (tys' := [((cy 50), .boolean)]) [1] rfl
    have hDc := hD.sub (ws' := [(x, .inr (11, (mO a))), ((a 50), .inl ((cy 50), 348500, .inl (fun _ => 0)))]) [2, 0] (by decide) rfl
    have hFc := va_free (wc := [(x, .inr (11, (mO a))), ((a 50), .inl ((cy 50), 348500, .inl (fun _ => 0)))]) hD hS hA [2, 0] rfl
    refine va_calli (va_runV (As := [.int v2, .int v3]) (rest := []) ⟨hx, hb, hml, hown, hts⟩ (m_leastSum l dC dI H.size x a cy v2 v3 (cb_w c_2).1 (cb_w c_2).2) (⟨callB_of 2 hts (gd mw_1203) rfl rfl rfl (hts _ mw_8) (hts _ mw_1200) ds_X11_leastSum ⟨Nat.le_of_ble_eq_true rfl, Nat.le_of_ble_eq_true rfl⟩, (hts _ mw_1202), (hts _ mp_50)⟩) (pr_V hPc hKc hDc hE (va_recv hKc hPc (ci := 11) (q0 := 0) rfl rfl)) rfl rfl hl.1 rfl (lv_room (Nat.le_of_ble_eq_true rfl)) dX11_pack_33 ⟨Nat.le_of_ble_eq_true rfl, Nat.le_of_ble_eq_true rfl⟩) hS (fun q _ h => hFc q h) hFc (fun r_ u_ t_ H1 locs ht hvm hw_ hB hz1 hk1 hS => ?_)
    obtain rfl : r_ = (-1) := hw_
    have hP1 : va_P (dC, dI) vwCl [] H1 := fun k q h => by simp at h
    have hD1 : va_D (va_A [(x, .inr (11, (mO a))), ((a 50), .inl ((cy 50), 348500, .inl (fun _ => 0)))] H.size) [] := ⟨fun i j p q h => by simp at h, fun k q h => by simp at h⟩
    obtain ⟨hP, hD⟩ := va_join (wr := [((a 43), .inl ((cy 43), 144, .inl (fun _ => (-1))))]) (w1 := []) hP hD [2, 0] [1] rfl rfl (by decide) (by decide) hk1 hFc hP1 hD1
    generalize H1 = H at hP hS ⊢
    have hP : va_P (dC, dI) vwCl [((a 43), .inl ((cy 43), 144, .inl (fun _ => (-1))))] H := hP
    have hD : va_D A [((a 43), .inl ((cy 43), 144, .inl (fun _ => (-1))))] := hD
    refine lv_istore (lv' := [(4, .int (-1)), (0, .ref x), (1, .int v1), (2, .int v2), (3, .int v3)]) hx hb dX11_pack_36 hl (by decide) rfl (fun ls hl => ?_)
    refine lv_iload hx hb dX11_pack_38 (lv_at hl 0 rfl) ?_
    refine lv_if_ge (tgt := 45) hx hb dX11_pack_40 (by decide) (fun c_ => absurd c_ (by decide)) (fun c_ => ?_)
    refine lv_iconst (v := (-1)) hx hb dX11_pack_43 (by decide) ?_
    refine W.widen (k := 0) (n := 0) (Nat.le_of_ble_eq_true rfl) (Nat.le_of_ble_eq_true rfl) ?_
    exact W.iret (v := (-1)) hx hb hr (fun t ht hW => ⟨⟨(-1), (), rfl, (by first | rfl | (simp [c_2]; done)), trivial⟩, hS.F ht⟩) hS.2.2 dX11_pack_44

set_option maxHeartbeats 4000000 in
set_option maxRecDepth 100000 in
theorem m_would (l : Launch) (dC : Nat → ClassId) (dI : Nat → Nat → Nat) (sz : Nat) (x : Nat) (a : Nat → Nat) (cy : Nat → ClassId) (v1 v2 v3 v4 : Int32) : Met l yX11_would (Cond.code yX11_would cX11_would 6 (some .int) :: gT) ({ frames := 4, cells := 0, slots := 0, locals := 135 }) (va_Pc [.ref x, .int v1, .int v2, .int v3, .int v4] (pr (dC, dI) sz [(x, .inr (11, (mO a))), ((a 43), .inl ((cy 43), 144, .inl (fun _ => (-1)))), ((a 50), .inl ((cy 50), 348500, .inl (fun _ => 0))), ((a 53), .inl ((cy 53), 16384, .inl (fun _ => 0))), ((a 54), .inl ((cy 54), 16384, .inl (fun _ => 0)))] [((cy 43), .int), ((cy 50), .boolean), ((cy 53), .int), ((cy 54), .byte)])) (va_Qi (fun (r : Int32) (_ : Unit) => r = sp_would v1 v2 v3 v4) (fun _ _ => True) (va_A [(x, .inr (11, (mO a))), ((a 43), .inl ((cy 43), 144, .inl (fun _ => (-1)))), ((a 50), .inl ((cy 50), 348500, .inl (fun _ => 0))), ((a 53), .inl ((cy 53), 16384, .inl (fun _ => 0))), ((a 54), .inl ((cy 54), 16384, .inl (fun _ => 0)))] sz)) 0 0 (va_A [(x, .inr (11, (mO a))), ((a 43), .inl ((cy 43), 144, .inl (fun _ => (-1)))), ((a 50), .inl ((cy 50), 348500, .inl (fun _ => 0))), ((a 53), .inl ((cy 53), 16384, .inl (fun _ => 0))), ((a 54), .inl ((cy 54), 16384, .inl (fun _ => 0)))] sz) := by
  refine Met.ofW (cc := cX11_would) (maxL := 6) (ret := (some .int)) (by decide) rfl ?_
  intro p e s m args below meth c s₁ B hml hv
  obtain ⟨rfl, hsz, hP, hK, hD0, hE⟩ := hv
  have hx := B.exec
  have hb := B.bytes
  have hr := B.returns
  have hts : ∀ w ∈ gT, w.before _ s = true := fun w h => atoms_spec (ws := Cond.code yX11_would cX11_would 6 (some .int) :: gT) B.pre w (List.mem_cons_of_mem _ h)
  have hown : s.vm.findClass RX11 = some m.cls := findClass_of_methodNamed B.named
  have hlocks := B.notSynchronized
  subst hsz
  have hD := hD0.self (sz := s.heap.size)
  generalize hAe : va_A [(x, .inr (11, (mO a))), ((a 43), .inl ((cy 43), 144, .inl (fun _ => (-1)))), ((a 50), .inl ((cy 50), 348500, .inl (fun _ => 0))), ((a 53), .inl ((cy 53), 16384, .inl (fun _ => 0))), ((a 54), .inl ((cy 54), 16384, .inl (fun _ => 0)))] s.heap.size = A at hD ⊢
  have hA : ∀ q : Nat, s.heap.size ≤ q → A q := fun q h => by rw [← hAe]; exact Or.inr h
  have hS : va_S A s.heap s.heap [] := va_S.rf
  have hl := lv_entry ([.ref x, .int v1, .int v2, .int v3, .int v4]) (n := 6) (Nat.le_of_ble_eq_true rfl)
  rw [lg_entry_eq]
  generalize (lg_sl ([.ref x, .int v1, .int v2, .int v3, .int v4]) ++ List.replicate (6 - (lg_sl ([.ref x, .int v1, .int v2, .int v3, .int v4])).length) Slot.unset).toArray = ls at hl ⊢
  have hl : lv_has ls 6 [(0, .ref x), (1, .int v1), (2, .int v2), (3, .int v3), (4, .int v4)] := hl
  refine lv_iload_n hx hb dX11_would_0 rfl (lv_at hl 1 rfl) ?_
  refine lv_iload_n hx hb dX11_would_1 rfl (lv_at hl 2 rfl) ?_
  refine lv_iload_n hx hb dX11_would_2 rfl (lv_at hl 3 rfl) ?_
  have hPc := hP.sub (ws' := []) [] rfl
  have hKc := hK.sub (tys' := []) [] rfl
  refine pc_i (va_runS (As := [.int v1, .int v2, .int v3]) (rest := []) ⟨hx, hb, hml, hown, hts⟩ (c_areNumbers l dC dI v1 v2 v3) (⟨callB_of 3 hts (gd mw_1191) rfl rfl rfl (hts _ mw_8) (hts _ mw_1189) ds_X11_areNumbers ⟨Nat.le_of_ble_eq_true rfl, Nat.le_of_ble_eq_true rfl⟩, (hts _ mw_1190)⟩) (pu_S hPc hKc hE) rfl rfl hl.1 rfl (lv_room (Nat.le_of_ble_eq_true rfl)) dX11_would_3 ⟨Nat.le_of_ble_eq_true rfl, Nat.le_of_ble_eq_true rfl⟩) (fun r_ hw_ => ?_)
  obtain rfl : r_ = (cb v1 v2 v3) := hw_
  refine lv_if_ne (tgt := 11) hx hb dX11_would_6 (by decide) (fun c_2 => ?_) (fun c_2 => ?_)
  · refine lv_aload_n hx hb dX11_would_11 rfl (lv_at hl 0 rfl) ?_
    refine lv_iload_n hx hb dX11_would_12 rfl (lv_at hl 1 rfl) ?_
    have hPc := hP.sub (ws' := [(x, .inr (11, (mO a))), ((a 43), .inl ((cy 43), 144, .inl (fun _ => (-1))))]) [0, 1] rfl
    have hKc := hK.sub (tys' := [((cy 43), .int)]) [0] rfl
    have hDc := hD.sub (ws' := [(x, .inr (11, (mO a))), ((a 43), .inl ((cy 43), 144, .inl (fun _ => (-1))))]) [0, 1] (by decide) rfl
    have hFc := va_free (wc := [(x, .inr (11, (mO a))), ((a 43), .inl ((cy 43), 144, .inl (fun _ => (-1))))]) hD hS hA [0, 1] rfl
    refine va_callv (va_runV (As := [.int v1]) (rest := []) ⟨hx, hb, hml, hown, hts⟩ (m_list l dC dI s.heap.size x a cy v1) (⟨callB_of 1 hts (gd mw_1195) rfl rfl rfl (hts _ mw_8) (hts _ mw_1192) ds_X11_list ⟨Nat.le_of_ble_eq_true rfl, Nat.le_of_ble_eq_true rfl⟩, (hts _ mw_1194), (hts _ mp_48)⟩) (pr_V hPc hKc hDc hE (va_recv hKc hPc (ci := 11) (q0 := 0) rfl rfl)) rfl rfl hl.1 rfl (lv_room (Nat.le_of_ble_eq_true rfl)) dX11_would_13 ⟨Nat.le_of_ble_eq_true rfl, Nat.le_of_ble_eq_true rfl⟩) hS (fun q _ h => hFc q h) hFc (fun u_ t_ H1 locs ht hvm hw_ hB hz1 hk1 hS => ?_)
    obtain ⟨hP1, hK1, hD1⟩ := hB
    rw [ht] at hP1
    have hK1 := va_K.moved hvm.symm hK1
    obtain ⟨hP, hD⟩ := va_join (wr := [((a 50), .inl ((cy 50), 348500, .inl (fun _ => 0))), ((a 53), .inl ((cy 53), 16384, .inl (fun _ => 0))), ((a 54), .inl ((cy 54), 16384, .inl (fun _ => 0)))]) (w1 := [(x, .inr (11, (mO a))), ((a 43), .inl ((cy 43), 144, .inl (fun _ => (-1))))]) hP hD [0, 1] [2, 3, 4] rfl rfl (by decide) (by decide) hk1 hFc hP1 hD1
    generalize H1 = H at hP hS ⊢
    have hP : va_P (dC, dI) vwCl [((a 50), .inl ((cy 50), 348500, .inl (fun _ => 0))), ((a 53), .inl ((cy 53), 16384, .inl (fun _ => 0))), ((a 54), .inl ((cy 54), 16384, .inl (fun _ => 0))), (x, .inr (11, (mO a))), ((a 43), .inl ((cy 43), 144, .inl (fun _ => (-1))))] H := hP
    have hD : va_D A [((a 50), .inl ((cy 50), 348500, .inl (fun _ => 0))), ((a 53), .inl ((cy 53), 16384, .inl (fun _ => 0))), ((a 54), .inl ((cy 54), 16384, .inl (fun _ => 0))), (x, .inr (11, (mO a))), ((a 43), .inl ((cy 43), 144, .inl (fun _ => (-1))))] := hD
    refine lv_iload hx hb dX11_would_16 (lv_at hl 4 rfl) ?_
    refine lv_iconst (v := 4) hx hb dX11_would_18 (by decide) ?_
    refine lv_icmp_ne (tgt := 27) hx hb dX11_would_19 (by decide) (fun c_4 => ?_) (fun c_4 => ?_)
    · refine lv_iload hx hb dX11_would_27 (lv_at hl 4 rfl) ?_
      refine lv_iconst (v := 3) hx hb dX11_would_29 (by decide) ?_
      refine lv_icmp_ne (tgt := 40) hx hb dX11_would_30 (by decide) (fun c_5 => ?_) (fun c_5 => ?_)
      · refine lv_iload hx hb dX11_would_40 (lv_at hl 4 rfl) ?_
        refine lv_iconst (v := 2) hx hb dX11_would_42 (by decide) ?_
        refine lv_icmp_ne (tgt := 53) hx hb dX11_would_43 (by decide) (fun c_6 => ?_) (fun c_6 => ?_)
        · refine lv_iload hx hb dX11_would_53 (lv_at hl 4 rfl) ?_
          refine lv_if_eq (tgt := 66) hx hb dX11_would_55 (by decide) (fun c_7 => ?_) (fun c_7 => ?_)
          · refine lv_aload_n hx hb dX11_would_66 rfl (lv_at hl 0 rfl) ?_
            have hPc := hP.sub (ws' := [(x, .inr (11, (mO a)))]) [3] rfl
            have hKc := hK.sub (tys' := []) [] rfl
            have hDc := hD.sub (ws' := [(x, .inr (11, (mO a)))]) [3] (by decide) rfl
            have hFc := va_free (wc := [(x, .inr (11, (mO a)))]) hD hS hA [3] rfl
            refine va_callv (va_runV (As := []) (rest := []) ⟨hx, hb, hml, hown, hts⟩ (m_gather l dC dI H.size x a cy ) (⟨callB_of 0 hts (gd mw_1199) rfl rfl rfl (hts _ mw_8) (hts _ mw_1196) ds_X11_gather ⟨Nat.le_of_ble_eq_true rfl, Nat.le_of_ble_eq_true rfl⟩, (hts _ mw_1198), (hts _ mp_49)⟩) (pr_V hPc hKc hDc hE (va_recv hKc hPc (ci := 11) (q0 := 0) rfl rfl)) rfl rfl hl.1 rfl (lv_room (Nat.le_of_ble_eq_true rfl)) dX11_would_67 ⟨Nat.le_of_ble_eq_true rfl, Nat.le_of_ble_eq_true rfl⟩) hS (fun q _ h => hFc q h) hFc (fun u_ t_ H1 locs ht hvm hw_ hB hz1 hk1 hS => ?_)
            obtain ⟨hP1, hK1, hD1⟩ := hB
            rw [ht] at hP1
            have hK1 := va_K.moved hvm.symm hK1
            obtain ⟨hP, hD⟩ := va_join (wr := [((a 50), .inl ((cy 50), 348500, .inl (fun _ => 0))), ((a 53), .inl ((cy 53), 16384, .inl (fun _ => 0))), ((a 54), .inl ((cy 54), 16384, .inl (fun _ => 0))), ((a 43), .inl ((cy 43), 144, .inl (fun _ => (-1))))]) (w1 := [(x, .inr (11, (mO a)))]) hP hD [3] [0, 1, 2, 4] rfl rfl (by decide) (by decide) hk1 hFc hP1 hD1
            generalize H1 = H at hP hS ⊢
            have hP : va_P (dC, dI) vwCl [((a 50), .inl ((cy 50), 348500, .inl (fun _ => 0))), ((a 53), .inl ((cy 53), 16384, .inl (fun _ => 0))), ((a 54), .inl ((cy 54), 16384, .inl (fun _ => 0))), ((a 43), .inl ((cy 43), 144, .inl (fun _ => (-1)))), (x, .inr (11, (mO a)))] H := hP
            have hD : va_D A [((a 50), .inl ((cy 50), 348500, .inl (fun _ => 0))), ((a 53), .inl ((cy 53), 16384, .inl (fun _ => 0))), ((a 54), .inl ((cy 54), 16384, .inl (fun _ => 0))), ((a 43), .inl ((cy 43), 144, .inl (fun _ => (-1)))), (x, .inr (11, (mO a)))] := hD
            refine lv_aload_n hx hb dX11_would_70 rfl (lv_at hl 0 rfl) ?_
            refine lv_iload_n hx hb dX11_would_71 rfl (lv_at hl 2 rfl) ?_
            refine lv_iload_n hx hb dX11_would_72 rfl (lv_at hl 3 rfl) ?_
            have hPc := hP.sub (ws' := [(x, .inr (11, (mO a))), ((a 50), .inl ((cy 50), 348500, .inl (fun _ => 0)))]) [4, 0] rfl
            have hKc := hK.sub (tys' := [((cy 50), .boolean)]) [1] rfl
            have hDc := hD.sub (ws' := [(x, .inr (11, (mO a))), ((a 50), .inl ((cy 50), 348500, .inl (fun _ => 0)))]) [4, 0] (by decide) rfl
            have hFc := va_free (wc := [(x, .inr (11, (mO a))), ((a 50), .inl ((cy 50), 348500, .inl (fun _ => 0)))]) hD hS hA [4, 0] rfl
            refine va_calli (va_runV (As := [.int v2, .int v3]) (rest := []) ⟨hx, hb, hml, hown, hts⟩ (m_leastSum l dC dI H.size x a cy v2 v3 (cb_w c_2).1 (cb_w c_2).2) (⟨callB_of 2 hts (gd mw_1203) rfl rfl rfl (hts _ mw_8) (hts _ mw_1200) ds_X11_leastSum ⟨Nat.le_of_ble_eq_true rfl, Nat.le_of_ble_eq_true rfl⟩, (hts _ mw_1202), (hts _ mp_50)⟩) (pr_V hPc hKc hDc hE (va_recv hKc hPc (ci := 11) (q0 := 0) rfl rfl)) rfl rfl hl.1 rfl (lv_room (Nat.le_of_ble_eq_true rfl)) dX11_would_73 ⟨Nat.le_of_ble_eq_true rfl, Nat.le_of_ble_eq_true rfl⟩) hS (fun q _ h => hFc q h) hFc (fun r_ u_ t_ H1 locs ht hvm hw_ hB hz1 hk1 hS => ?_)
            obtain rfl : r_ = (-1) := hw_
            have hP1 : va_P (dC, dI) vwCl [] H1 := fun k q h => by simp at h
            have hD1 : va_D (va_A [(x, .inr (11, (mO a))), ((a 50), .inl ((cy 50), 348500, .inl (fun _ => 0)))] H.size) [] := ⟨fun i j p q h => by simp at h, fun k q h => by simp at h⟩
            obtain ⟨hP, hD⟩ := va_join (wr := [((a 53), .inl ((cy 53), 16384, .inl (fun _ => 0))), ((a 54), .inl ((cy 54), 16384, .inl (fun _ => 0))), ((a 43), .inl ((cy 43), 144, .inl (fun _ => (-1))))]) (w1 := []) hP hD [4, 0] [1, 2, 3] rfl rfl (by decide) (by decide) hk1 hFc hP1 hD1
            generalize H1 = H at hP hS ⊢
            have hP : va_P (dC, dI) vwCl [((a 53), .inl ((cy 53), 16384, .inl (fun _ => 0))), ((a 54), .inl ((cy 54), 16384, .inl (fun _ => 0))), ((a 43), .inl ((cy 43), 144, .inl (fun _ => (-1))))] H := hP
            have hD : va_D A [((a 53), .inl ((cy 53), 16384, .inl (fun _ => 0))), ((a 54), .inl ((cy 54), 16384, .inl (fun _ => 0))), ((a 43), .inl ((cy 43), 144, .inl (fun _ => (-1))))] := hD
            refine lv_istore (lv' := [(5, .int (-1)), (0, .ref x), (1, .int v1), (2, .int v2), (3, .int v3), (4, .int v4)]) hx hb dX11_would_76 hl (by decide) rfl (fun ls hl => ?_)
            refine lv_iload hx hb dX11_would_78 (lv_at hl 0 rfl) ?_
            refine lv_if_ge (tgt := 85) hx hb dX11_would_80 (by decide) (fun c_ => absurd c_ (by decide)) (fun c_ => ?_)
            refine lv_iconst (v := (-1)) hx hb dX11_would_83 (by decide) ?_
            refine W.widen (k := 0) (n := 0) (Nat.le_of_ble_eq_true rfl) (Nat.le_of_ble_eq_true rfl) ?_
            exact W.iret (v := (-1)) hx hb hr (fun t ht hW => ⟨⟨(-1), (), rfl, (by first | rfl | (simp [sp_would, c_2, c_4, c_5, c_6, c_7]; done)), trivial⟩, hS.F ht⟩) hS.2.2 dX11_would_84
          · refine lv_iload hx hb dX11_would_58 (lv_at hl 4 rfl) ?_
            refine lv_iconst (v := 1) hx hb dX11_would_60 (by decide) ?_
            refine lv_icmp_eq (tgt := 66) hx hb dX11_would_61 (by decide) (fun c_10 => ?_) (fun c_10 => ?_)
            · refine lv_aload_n hx hb dX11_would_66 rfl (lv_at hl 0 rfl) ?_
              have hPc := hP.sub (ws' := [(x, .inr (11, (mO a)))]) [3] rfl
              have hKc := hK.sub (tys' := []) [] rfl
              have hDc := hD.sub (ws' := [(x, .inr (11, (mO a)))]) [3] (by decide) rfl
              have hFc := va_free (wc := [(x, .inr (11, (mO a)))]) hD hS hA [3] rfl
              refine va_callv (va_runV (As := []) (rest := []) ⟨hx, hb, hml, hown, hts⟩ (m_gather l dC dI H.size x a cy ) (⟨callB_of 0 hts (gd mw_1199) rfl rfl rfl (hts _ mw_8) (hts _ mw_1196) ds_X11_gather ⟨Nat.le_of_ble_eq_true rfl, Nat.le_of_ble_eq_true rfl⟩, (hts _ mw_1198), (hts _ mp_49)⟩) (pr_V hPc hKc hDc hE (va_recv hKc hPc (ci := 11) (q0 := 0) rfl rfl)) rfl rfl hl.1 rfl (lv_room (Nat.le_of_ble_eq_true rfl)) dX11_would_67 ⟨Nat.le_of_ble_eq_true rfl, Nat.le_of_ble_eq_true rfl⟩) hS (fun q _ h => hFc q h) hFc (fun u_ t_ H1 locs ht hvm hw_ hB hz1 hk1 hS => ?_)
              obtain ⟨hP1, hK1, hD1⟩ := hB
              rw [ht] at hP1
              have hK1 := va_K.moved hvm.symm hK1
              obtain ⟨hP, hD⟩ := va_join (wr := [((a 50), .inl ((cy 50), 348500, .inl (fun _ => 0))), ((a 53), .inl ((cy 53), 16384, .inl (fun _ => 0))), ((a 54), .inl ((cy 54), 16384, .inl (fun _ => 0))), ((a 43), .inl ((cy 43), 144, .inl (fun _ => (-1))))]) (w1 := [(x, .inr (11, (mO a)))]) hP hD [3] [0, 1, 2, 4] rfl rfl (by decide) (by decide) hk1 hFc hP1 hD1
              generalize H1 = H at hP hS ⊢
              have hP : va_P (dC, dI) vwCl [((a 50), .inl ((cy 50), 348500, .inl (fun _ => 0))), ((a 53), .inl ((cy 53), 16384, .inl (fun _ => 0))), ((a 54), .inl ((cy 54), 16384, .inl (fun _ => 0))), ((a 43), .inl ((cy 43), 144, .inl (fun _ => (-1)))), (x, .inr (11, (mO a)))] H := hP
              have hD : va_D A [((a 50), .inl ((cy 50), 348500, .inl (fun _ => 0))), ((a 53), .inl ((cy 53), 16384, .inl (fun _ => 0))), ((a 54), .inl ((cy 54), 16384, .inl (fun _ => 0))), ((a 43), .inl ((cy 43), 144, .inl (fun _ => (-1)))), (x, .inr (11, (mO a)))] := hD
              refine lv_aload_n hx hb dX11_would_70 rfl (lv_at hl 0 rfl) ?_
              refine lv_iload_n hx hb dX11_would_71 rfl (lv_at hl 2 rfl) ?_
              refine lv_iload_n hx hb dX11_would_72 rfl (lv_at hl 3 rfl) ?_
              have hPc := hP.sub (ws' := [(x, .inr (11, (mO a))), ((a 50), .inl ((cy 50), 348500, .inl (fun _ => 0)))]) [4, 0] rfl
              have hKc := hK.sub (tys' := [((cy 50), .boolean)]) [1] rfl
              have hDc := hD.sub (ws' := [(x, .inr (11, (mO a))), ((a 50), .inl ((cy 50), 348500, .inl (fun _ => 0)))]) [4, 0] (by decide) rfl
              have hFc := va_free (wc := [(x, .inr (11, (mO a))), ((a 50), .inl ((cy 50), 348500, .inl (fun _ => 0)))]) hD hS hA [4, 0] rfl
              refine va_calli (va_runV (As := [.int v2, .int v3]) (rest := []) ⟨hx, hb, hml, hown, hts⟩ (m_leastSum l dC dI H.size x a cy v2 v3 (cb_w c_2).1 (cb_w c_2).2) (⟨callB_of 2 hts (gd mw_1203) rfl rfl rfl (hts _ mw_8) (hts _ mw_1200) ds_X11_leastSum ⟨Nat.le_of_ble_eq_true rfl, Nat.le_of_ble_eq_true rfl⟩, (hts _ mw_1202), (hts _ mp_50)⟩) (pr_V hPc hKc hDc hE (va_recv hKc hPc (ci := 11) (q0 := 0) rfl rfl)) rfl rfl hl.1 rfl (lv_room (Nat.le_of_ble_eq_true rfl)) dX11_would_73 ⟨Nat.le_of_ble_eq_true rfl, Nat.le_of_ble_eq_true rfl⟩) hS (fun q _ h => hFc q h) hFc (fun r_ u_ t_ H1 locs ht hvm hw_ hB hz1 hk1 hS => ?_)
              obtain rfl : r_ = (-1) := hw_
              have hP1 : va_P (dC, dI) vwCl [] H1 := fun k q h => by simp at h
              have hD1 : va_D (va_A [(x, .inr (11, (mO a))), ((a 50), .inl ((cy 50), 348500, .inl (fun _ => 0)))] H.size) [] := ⟨fun i j p q h => by simp at h, fun k q h => by simp at h⟩
              obtain ⟨hP, hD⟩ := va_join (wr := [((a 53), .inl ((cy 53), 16384, .inl (fun _ => 0))), ((a 54), .inl ((cy 54), 16384, .inl (fun _ => 0))), ((a 43), .inl ((cy 43), 144, .inl (fun _ => (-1))))]) (w1 := []) hP hD [4, 0] [1, 2, 3] rfl rfl (by decide) (by decide) hk1 hFc hP1 hD1
              generalize H1 = H at hP hS ⊢
              have hP : va_P (dC, dI) vwCl [((a 53), .inl ((cy 53), 16384, .inl (fun _ => 0))), ((a 54), .inl ((cy 54), 16384, .inl (fun _ => 0))), ((a 43), .inl ((cy 43), 144, .inl (fun _ => (-1))))] H := hP
              have hD : va_D A [((a 53), .inl ((cy 53), 16384, .inl (fun _ => 0))), ((a 54), .inl ((cy 54), 16384, .inl (fun _ => 0))), ((a 43), .inl ((cy 43), 144, .inl (fun _ => (-1))))] := hD
              refine lv_istore (lv' := [(5, .int (-1)), (0, .ref x), (1, .int v1), (2, .int v2), (3, .int v3), (4, .int v4)]) hx hb dX11_would_76 hl (by decide) rfl (fun ls hl => ?_)
              refine lv_iload hx hb dX11_would_78 (lv_at hl 0 rfl) ?_
              refine lv_if_ge (tgt := 85) hx hb dX11_would_80 (by decide) (fun c_ => absurd c_ (by decide)) (fun c_ => ?_)
              refine lv_iconst (v := (-1)) hx hb dX11_would_83 (by decide) ?_
              refine W.widen (k := 0) (n := 0) (Nat.le_of_ble_eq_true rfl) (Nat.le_of_ble_eq_true rfl) ?_
              exact W.iret (v := (-1)) hx hb hr (fun t ht hW => ⟨⟨(-1), (), rfl, (by first | rfl | (simp [sp_would, c_2, c_4, c_5, c_6, c_7, c_10]; done)), trivial⟩, hS.F ht⟩) hS.2.2 dX11_would_84
            · refine lv_iconst (v := (-1)) hx hb dX11_would_64 (by decide) ?_
              refine W.widen (k := 0) (n := 0) (Nat.le_of_ble_eq_true rfl) (Nat.le_of_ble_eq_true rfl) ?_
              exact W.iret (v := (-1)) hx hb hr (fun t ht hW => ⟨⟨(-1), (), rfl, (by first | rfl | (simp [sp_would, c_2, c_4, c_5, c_6, c_7, c_10]; done)), trivial⟩, hS.F ht⟩) hS.2.2 dX11_would_65
        · refine lv_aload_n hx hb dX11_would_46 rfl (lv_at hl 0 rfl) ?_
          refine lv_iload_n hx hb dX11_would_47 rfl (lv_at hl 2 rfl) ?_
          refine lv_iload_n hx hb dX11_would_48 rfl (lv_at hl 3 rfl) ?_
          have hPc := hP.sub (ws' := [(x, .inr (11, (mO a))), ((a 50), .inl ((cy 50), 348500, .inl (fun _ => 0)))]) [3, 0] rfl
          have hKc := hK.sub (tys' := [((cy 50), .boolean)]) [1] rfl
          have hDc := hD.sub (ws' := [(x, .inr (11, (mO a))), ((a 50), .inl ((cy 50), 348500, .inl (fun _ => 0)))]) [3, 0] (by decide) rfl
          have hFc := va_free (wc := [(x, .inr (11, (mO a))), ((a 50), .inl ((cy 50), 348500, .inl (fun _ => 0)))]) hD hS hA [3, 0] rfl
          refine va_calli (va_runV (As := [.int v2, .int v3]) (rest := []) ⟨hx, hb, hml, hown, hts⟩ (m_full l dC dI H.size x a cy v2 v3 (cb_w c_2).1 (cb_w c_2).2) (⟨callB_of 2 hts (gd mw_1223) rfl rfl rfl (hts _ mw_8) (hts _ mw_1220) ds_X11_full ⟨Nat.le_of_ble_eq_true rfl, Nat.le_of_ble_eq_true rfl⟩, (hts _ mw_1222), (hts _ mp_54)⟩) (pr_V hPc hKc hDc hE (va_recv hKc hPc (ci := 11) (q0 := 0) rfl rfl)) rfl rfl hl.1 rfl (lv_room (Nat.le_of_ble_eq_true rfl)) dX11_would_49 ⟨Nat.le_of_ble_eq_true rfl, Nat.le_of_ble_eq_true rfl⟩) hS (fun q _ h => hFc q h) hFc (fun r_ u_ t_ H1 locs ht hvm hw_ hB hz1 hk1 hS => ?_)
          obtain rfl : r_ = 0 := hw_
          have hP1 : va_P (dC, dI) vwCl [] H1 := fun k q h => by simp at h
          have hD1 : va_D (va_A [(x, .inr (11, (mO a))), ((a 50), .inl ((cy 50), 348500, .inl (fun _ => 0)))] H.size) [] := ⟨fun i j p q h => by simp at h, fun k q h => by simp at h⟩
          obtain ⟨hP, hD⟩ := va_join (wr := [((a 53), .inl ((cy 53), 16384, .inl (fun _ => 0))), ((a 54), .inl ((cy 54), 16384, .inl (fun _ => 0))), ((a 43), .inl ((cy 43), 144, .inl (fun _ => (-1))))]) (w1 := []) hP hD [3, 0] [1, 2, 4] rfl rfl (by decide) (by decide) hk1 hFc hP1 hD1
          generalize H1 = H at hP hS ⊢
          have hP : va_P (dC, dI) vwCl [((a 53), .inl ((cy 53), 16384, .inl (fun _ => 0))), ((a 54), .inl ((cy 54), 16384, .inl (fun _ => 0))), ((a 43), .inl ((cy 43), 144, .inl (fun _ => (-1))))] H := hP
          have hD : va_D A [((a 53), .inl ((cy 53), 16384, .inl (fun _ => 0))), ((a 54), .inl ((cy 54), 16384, .inl (fun _ => 0))), ((a 43), .inl ((cy 43), 144, .inl (fun _ => (-1))))] := hD
          refine W.widen (k := 0) (n := 0) (Nat.le_of_ble_eq_true rfl) (Nat.le_of_ble_eq_true rfl) ?_
          exact W.iret (v := 0) hx hb hr (fun t ht hW => ⟨⟨0, (), rfl, (by first | rfl | (simp [sp_would, c_2, c_4, c_5, c_6]; done)), trivial⟩, hS.F ht⟩) hS.2.2 dX11_would_52
      · refine lv_aload_n hx hb dX11_would_33 rfl (lv_at hl 0 rfl) ?_
        refine lv_iload_n hx hb dX11_would_34 rfl (lv_at hl 2 rfl) ?_
        refine lv_iload_n hx hb dX11_would_35 rfl (lv_at hl 3 rfl) ?_
        have hPc := hP.sub (ws' := [(x, .inr (11, (mO a))), ((a 53), .inl ((cy 53), 16384, .inl (fun _ => 0))), ((a 54), .inl ((cy 54), 16384, .inl (fun _ => 0)))]) [3, 1, 2] rfl
        have hKc := hK.sub (tys' := [((cy 53), .int), ((cy 54), .byte)]) [2, 3] rfl
        have hDc := hD.sub (ws' := [(x, .inr (11, (mO a))), ((a 53), .inl ((cy 53), 16384, .inl (fun _ => 0))), ((a 54), .inl ((cy 54), 16384, .inl (fun _ => 0)))]) [3, 1, 2] (by decide) rfl
        have hFc := va_free (wc := [(x, .inr (11, (mO a))), ((a 53), .inl ((cy 53), 16384, .inl (fun _ => 0))), ((a 54), .inl ((cy 54), 16384, .inl (fun _ => 0)))]) hD hS hA [3, 1, 2] rfl
        refine va_calli (va_runV (As := [.int v2, .int v3]) (rest := []) ⟨hx, hb, hml, hown, hts⟩ (m_most l dC dI H.size x a cy v2 v3) (⟨callB_of 2 hts (gd mw_1219) rfl rfl rfl (hts _ mw_8) (hts _ mw_1216) ds_X11_most ⟨Nat.le_of_ble_eq_true rfl, Nat.le_of_ble_eq_true rfl⟩, (hts _ mw_1218), (hts _ mp_53)⟩) (pr_V hPc hKc hDc hE (va_recv hKc hPc (ci := 11) (q0 := 0) rfl rfl)) rfl rfl hl.1 rfl (lv_room (Nat.le_of_ble_eq_true rfl)) dX11_would_36 ⟨Nat.le_of_ble_eq_true rfl, Nat.le_of_ble_eq_true rfl⟩) hS (fun q _ h => hFc q h) hFc (fun r_ u_ t_ H1 locs ht hvm hw_ hB hz1 hk1 hS => ?_)
        obtain rfl : r_ = 0 := hw_
        have hP1 : va_P (dC, dI) vwCl [] H1 := fun k q h => by simp at h
        have hD1 : va_D (va_A [(x, .inr (11, (mO a))), ((a 53), .inl ((cy 53), 16384, .inl (fun _ => 0))), ((a 54), .inl ((cy 54), 16384, .inl (fun _ => 0)))] H.size) [] := ⟨fun i j p q h => by simp at h, fun k q h => by simp at h⟩
        obtain ⟨hP, hD⟩ := va_join (wr := [((a 50), .inl ((cy 50), 348500, .inl (fun _ => 0))), ((a 43), .inl ((cy 43), 144, .inl (fun _ => (-1))))]) (w1 := []) hP hD [3, 1, 2] [0, 4] rfl rfl (by decide) (by decide) hk1 hFc hP1 hD1
        generalize H1 = H at hP hS ⊢
        have hP : va_P (dC, dI) vwCl [((a 50), .inl ((cy 50), 348500, .inl (fun _ => 0))), ((a 43), .inl ((cy 43), 144, .inl (fun _ => (-1))))] H := hP
        have hD : va_D A [((a 50), .inl ((cy 50), 348500, .inl (fun _ => 0))), ((a 43), .inl ((cy 43), 144, .inl (fun _ => (-1))))] := hD
        refine W.widen (k := 0) (n := 0) (Nat.le_of_ble_eq_true rfl) (Nat.le_of_ble_eq_true rfl) ?_
        exact W.iret (v := 0) hx hb hr (fun t ht hW => ⟨⟨0, (), rfl, (by first | rfl | (simp [sp_would, c_2, c_4, c_5]; done)), trivial⟩, hS.F ht⟩) hS.2.2 dX11_would_39
    · refine lv_aload_n hx hb dX11_would_22 rfl (lv_at hl 0 rfl) ?_
      refine va_get (D := (dC, dI)) (ci := 11) (v := .int 0) (C := RX11) (T := TX11) (N := 56) hx hb hts inX11 hown hK hP 3 rfl rfl 48 (by decide) (hts _ mw_928) (fun _ h9 => h9) rfl dX11_would_23 ?_
      refine W.widen (k := 0) (n := 0) (Nat.le_of_ble_eq_true rfl) (Nat.le_of_ble_eq_true rfl) ?_
      exact W.iret (v := 0) hx hb hr (fun t ht hW => ⟨⟨0, (), rfl, (by first | rfl | (simp [sp_would, c_2, c_4]; done)), trivial⟩, hS.F ht⟩) hS.2.2 dX11_would_26
  · refine lv_iconst (v := (-1)) hx hb dX11_would_9 (by decide) ?_
    refine W.widen (k := 0) (n := 0) (Nat.le_of_ble_eq_true rfl) (Nat.le_of_ble_eq_true rfl) ?_
    exact W.iret (v := (-1)) hx hb hr (fun t ht hW => ⟨⟨(-1), (), rfl, (by first | rfl | (simp [sp_would, c_2]; done)), trivial⟩, hS.F ht⟩) hS.2.2 dX11_would_10
