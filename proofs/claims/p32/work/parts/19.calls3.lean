set_option maxHeartbeats 4000000 in
set_option maxRecDepth 100000 in
theorem k_dip (l : Launch) (dC : Nat → ClassId) (dI : Nat → Nat → Nat) (ca : Nat → ClassId) (sz : Nat) (x : Nat) (a : Nat → Nat) (nl : Nat) (la : Nat → Nat) (lo : Nat → Int32 × Int32) (nb : Nat) (ba : Nat → Nat → Nat) (bt : Nat → BatG) (np : Nat) (pa : Nat → Nat) (pc : Nat → PieG) (nx : Nat) (xa : Nat → Nat → Nat) (bx : Nat → BoxG) (f0 : Nat) (f1 : Nat) (f5 : Nat) (f6 : Nat) (rn : Nat) (gl : Int32) (gh : Int32) (lw6 : Nat → Int32) (hi6 : Nat → Int32) (v1 : Int32) (v2 : Int32) (v3 : Int32) (hQ : kI nl lo nb bt np pc nx bx) : Met l yX10_dip (Cond.code yX10_dip cX10_dip 6 (some .int) :: gT) ({ frames := 4, cells := 0, slots := 0, locals := 125 }) (va_Pc [.ref x, .int v1, .int v2, .int v3] (pr (dC, dI) sz (@HAppend.hAppend va_W va_W va_W _ [(x, .inr (10, [.ref (a 0), .int (nI nl), .ref (a 2), .int (nI nb), .ref (a 4), .int (nI np), .ref (a 6), .int (nI nx), .ref (a 8), .ref (a 9), .ref (a 10), .ref (a 11), .ref (a 12), .ref (a 13), .ref (a 14)])), ((a 2), .inl (ca 6, 40, .inr (.inr (.inr (.inr (rA nb (bA0 ba))))))), ((a 4), .inl (ca 7, 600, .inr (.inr (.inr (.inr (rA np pa)))))), ((a 10), .inr (8, [.ref f0, .ref f1, .int (nI rn), .int gl, .int gh, .ref f5, .ref f6])), (f5, .inl (ca 0, 6, .inl lw6)), (f6, .inl (ca 0, 6, .inl hi6))] (pool ca (List.range nl) la lo (List.range nb) ba bt (List.range np) pa pc (List.range nx) xa bx)) (aT ca))) (va_Qi (fun (r : Int32) (u_ : (Nat → BatG) × (Nat → PieG)) => eqK nb bt u_.1 ∧ eqX nb bt u_.1 ∧ kI nl lo nb u_.1 np u_.2 nx bx) (fun (u_ : (Nat → BatG) × (Nat → PieG)) t => va_P (dC, dI) vwCl (@HAppend.hAppend va_W va_W va_W _ [(x, .inr (10, [.ref (a 0), .int (nI nl), .ref (a 2), .int (nI nb), .ref (a 4), .int (nI np), .ref (a 6), .int (nI nx), .ref (a 8), .ref (a 9), .ref (a 10), .ref (a 11), .ref (a 12), .ref (a 13), .ref (a 14)])), ((a 2), .inl (ca 6, 40, .inr (.inr (.inr (.inr (rA nb (bA0 ba))))))), ((a 4), .inl (ca 7, 600, .inr (.inr (.inr (.inr (rA np pa)))))), ((a 10), .inr (8, [.ref f0, .ref f1, .int (nI rn), .int gl, .int gh, .ref f5, .ref f6])), (f5, .inl (ca 0, 6, .inl lw6)), (f6, .inl (ca 0, 6, .inl hi6))] (pool ca (List.range nl) la lo (List.range nb) ba u_.1 (List.range np) pa u_.2 (List.range nx) xa bx)) t.heap ∧ va_D (va_A (@HAppend.hAppend va_W va_W va_W _ [(x, .inr (10, [.ref (a 0), .int (nI nl), .ref (a 2), .int (nI nb), .ref (a 4), .int (nI np), .ref (a 6), .int (nI nx), .ref (a 8), .ref (a 9), .ref (a 10), .ref (a 11), .ref (a 12), .ref (a 13), .ref (a 14)])), ((a 2), .inl (ca 6, 40, .inr (.inr (.inr (.inr (rA nb (bA0 ba))))))), ((a 4), .inl (ca 7, 600, .inr (.inr (.inr (.inr (rA np pa)))))), ((a 10), .inr (8, [.ref f0, .ref f1, .int (nI rn), .int gl, .int gh, .ref f5, .ref f6])), (f5, .inl (ca 0, 6, .inl lw6)), (f6, .inl (ca 0, 6, .inl hi6))] (pool ca (List.range nl) la lo (List.range nb) ba bt (List.range np) pa pc (List.range nx) xa bx)) sz) (@HAppend.hAppend va_W va_W va_W _ [(x, .inr (10, [.ref (a 0), .int (nI nl), .ref (a 2), .int (nI nb), .ref (a 4), .int (nI np), .ref (a 6), .int (nI nx), .ref (a 8), .ref (a 9), .ref (a 10), .ref (a 11), .ref (a 12), .ref (a 13), .ref (a 14)])), ((a 2), .inl (ca 6, 40, .inr (.inr (.inr (.inr (rA nb (bA0 ba))))))), ((a 4), .inl (ca 7, 600, .inr (.inr (.inr (.inr (rA np pa)))))), ((a 10), .inr (8, [.ref f0, .ref f1, .int (nI rn), .int gl, .int gh, .ref f5, .ref f6])), (f5, .inl (ca 0, 6, .inl lw6)), (f6, .inl (ca 0, 6, .inl hi6))] (pool ca (List.range nl) la lo (List.range nb) ba u_.1 (List.range np) pa u_.2 (List.range nx) xa bx))) (va_A (@HAppend.hAppend va_W va_W va_W _ [(x, .inr (10, [.ref (a 0), .int (nI nl), .ref (a 2), .int (nI nb), .ref (a 4), .int (nI np), .ref (a 6), .int (nI nx), .ref (a 8), .ref (a 9), .ref (a 10), .ref (a 11), .ref (a 12), .ref (a 13), .ref (a 14)])), ((a 2), .inl (ca 6, 40, .inr (.inr (.inr (.inr (rA nb (bA0 ba))))))), ((a 4), .inl (ca 7, 600, .inr (.inr (.inr (.inr (rA np pa)))))), ((a 10), .inr (8, [.ref f0, .ref f1, .int (nI rn), .int gl, .int gh, .ref f5, .ref f6])), (f5, .inl (ca 0, 6, .inl lw6)), (f6, .inl (ca 0, 6, .inl hi6))] (pool ca (List.range nl) la lo (List.range nb) ba bt (List.range np) pa pc (List.range nx) xa bx)) sz)) 0 0 (va_A (@HAppend.hAppend va_W va_W va_W _ [(x, .inr (10, [.ref (a 0), .int (nI nl), .ref (a 2), .int (nI nb), .ref (a 4), .int (nI np), .ref (a 6), .int (nI nx), .ref (a 8), .ref (a 9), .ref (a 10), .ref (a 11), .ref (a 12), .ref (a 13), .ref (a 14)])), ((a 2), .inl (ca 6, 40, .inr (.inr (.inr (.inr (rA nb (bA0 ba))))))), ((a 4), .inl (ca 7, 600, .inr (.inr (.inr (.inr (rA np pa)))))), ((a 10), .inr (8, [.ref f0, .ref f1, .int (nI rn), .int gl, .int gh, .ref f5, .ref f6])), (f5, .inl (ca 0, 6, .inl lw6)), (f6, .inl (ca 0, 6, .inl hi6))] (pool ca (List.range nl) la lo (List.range nb) ba bt (List.range np) pa pc (List.range nx) xa bx)) sz) := by
  refine Met.ofW (cc := cX10_dip) (maxL := 6) (ret := (some .int)) (by decide) rfl ?_
  intro p e s m args below meth c s₁ B hml hv
  obtain ⟨rfl, hsz, hP, hK, hD0, hE⟩ := hv
  have hx := B.exec
  have hb := B.bytes
  have hr := B.returns
  have hts : ∀ w ∈ gT, w.before _ s = true := fun w h => atoms_spec (ws := Cond.code yX10_dip cX10_dip 6 (some .int) :: gT) B.pre w (List.mem_cons_of_mem _ h)
  have hown : s.vm.findClass RX10 = some m.cls := findClass_of_methodNamed B.named
  have hlocks := B.notSynchronized
  subst hsz
  have hD := hD0.self (sz := s.heap.size)
  generalize hAe : va_A (@HAppend.hAppend va_W va_W va_W _ [(x, .inr (10, [.ref (a 0), .int (nI nl), .ref (a 2), .int (nI nb), .ref (a 4), .int (nI np), .ref (a 6), .int (nI nx), .ref (a 8), .ref (a 9), .ref (a 10), .ref (a 11), .ref (a 12), .ref (a 13), .ref (a 14)])), ((a 2), .inl (ca 6, 40, .inr (.inr (.inr (.inr (rA nb (bA0 ba))))))), ((a 4), .inl (ca 7, 600, .inr (.inr (.inr (.inr (rA np pa)))))), ((a 10), .inr (8, [.ref f0, .ref f1, .int (nI rn), .int gl, .int gh, .ref f5, .ref f6])), (f5, .inl (ca 0, 6, .inl lw6)), (f6, .inl (ca 0, 6, .inl hi6))] (pool ca (List.range nl) la lo (List.range nb) ba bt (List.range np) pa pc (List.range nx) xa bx)) s.heap.size = A at hD ⊢
  have hA : ∀ q : Nat, s.heap.size ≤ q → A q := fun q h => by rw [← hAe]; exact Or.inr h
  have hS : va_S A s.heap s.heap [] := va_S.rf
  have hl := lv_entry ([.ref x, .int v1, .int v2, .int v3]) (n := 6) (Nat.le_of_ble_eq_true rfl)
  rw [lg_entry_eq]
  generalize (lg_sl ([.ref x, .int v1, .int v2, .int v3]) ++ List.replicate (6 - (lg_sl ([.ref x, .int v1, .int v2, .int v3])).length) Slot.unset).toArray = ls at hl ⊢
  have hl : lv_has ls 6 [(0, .ref x), (1, .int v1), (2, .int v2), (3, .int v3)] := hl
  obtain ⟨hq1, hq2, hq3, hq4, hq5, hq6, hq7⟩ := id hQ
  refine lv_aload_n hx hb dX10_dip_0 rfl (lv_at hl 0 rfl) ?_
  refine lv_iload_n hx hb dX10_dip_1 rfl (lv_at hl 1 rfl) ?_
  have hPc := hP.part (X := [(x, .inr (10, [.ref (a 0), .int (nI nl), .ref (a 2), .int (nI nb), .ref (a 4), .int (nI np), .ref (a 6), .int (nI nx), .ref (a 8), .ref (a 9), .ref (a 10), .ref (a 11), .ref (a 12), .ref (a 13), .ref (a 14)])), ((a 2), .inl (ca 6, 40, .inr (.inr (.inr (.inr (rA nb (bA0 ba))))))), ((a 4), .inl (ca 7, 600, .inr (.inr (.inr (.inr (rA np pa)))))), ((a 10), .inr (8, [.ref f0, .ref f1, .int (nI rn), .int gl, .int gh, .ref f5, .ref f6])), (f5, .inl (ca 0, 6, .inl lw6)), (f6, .inl (ca 0, 6, .inl hi6))]) (cx := [(x, .inr (10, [.ref (a 0), .int (nI nl), .ref (a 2), .int (nI nb), .ref (a 4), .int (nI np), .ref (a 6), .int (nI nx), .ref (a 8), .ref (a 9), .ref (a 10), .ref (a 11), .ref (a 12), .ref (a 13), .ref (a 14)])), ((a 4), .inl (ca 7, 600, .inr (.inr (.inr (.inr (rA np pa))))))]) [0, 2] rfl
  refine pc_q (va_runV (As := [.int v1]) (rest := []) ⟨hx, hb, hml, hown, hts⟩ (k_findUnboxed l dC dI ca x a nl la lo nb ba bt np pa pc nx xa bx v1 (by first | assumption | omega | exact ⟨_, by omega, rfl⟩)) (⟨callB_of 1 hts (gd mw_592) rfl rfl rfl (hts _ mw_1) (hts _ mw_589) ds_X10_findUnboxed ⟨Nat.le_of_ble_eq_true rfl, Nat.le_of_ble_eq_true rfl⟩, (hts _ mw_591), (hts _ mp_9)⟩) (pu_V hPc hK hE (va_recv hK hPc (ci := 10) (q0 := 0) rfl rfl)) rfl rfl hl.1 rfl (lv_room (Nat.le_of_ble_eq_true rfl)) dX10_dip_2 ⟨Nat.le_of_ble_eq_true rfl, Nat.le_of_ble_eq_true rfl⟩) (fun rv_1 hw_ => ?_)
  have hw_1 := hw_
  refine lq_astore (lv' := [(4, va_rf rv_1), (0, .ref x), (1, .int v1), (2, .int v2), (3, .int v3)]) hx hb dX10_dip_5 hl (by decide) rfl (fun ls hl => ?_)
  refine lv_aload_n hx hb dX10_dip_7 rfl (lv_at hl 1 rfl) ?_
  refine lv_iload_n hx hb dX10_dip_8 rfl (lv_at hl 3 rfl) ?_
  have hPc := hP.part (X := [(x, .inr (10, [.ref (a 0), .int (nI nl), .ref (a 2), .int (nI nb), .ref (a 4), .int (nI np), .ref (a 6), .int (nI nx), .ref (a 8), .ref (a 9), .ref (a 10), .ref (a 11), .ref (a 12), .ref (a 13), .ref (a 14)])), ((a 2), .inl (ca 6, 40, .inr (.inr (.inr (.inr (rA nb (bA0 ba))))))), ((a 4), .inl (ca 7, 600, .inr (.inr (.inr (.inr (rA np pa)))))), ((a 10), .inr (8, [.ref f0, .ref f1, .int (nI rn), .int gl, .int gh, .ref f5, .ref f6])), (f5, .inl (ca 0, 6, .inl lw6)), (f6, .inl (ca 0, 6, .inl hi6))]) (cx := [(x, .inr (10, [.ref (a 0), .int (nI nl), .ref (a 2), .int (nI nb), .ref (a 4), .int (nI np), .ref (a 6), .int (nI nx), .ref (a 8), .ref (a 9), .ref (a 10), .ref (a 11), .ref (a 12), .ref (a 13), .ref (a 14)])), ((a 2), .inl (ca 6, 40, .inr (.inr (.inr (.inr (rA nb (bA0 ba))))))), ((a 10), .inr (8, [.ref f0, .ref f1, .int (nI rn), .int gl, .int gh, .ref f5, .ref f6])), (f5, .inl (ca 0, 6, .inl lw6)), (f6, .inl (ca 0, 6, .inl hi6))]) [0, 1, 3, 4, 5] rfl
  refine pc_q (va_runV (As := [.int v2]) (rest := []) ⟨hx, hb, hml, hown, hts⟩ (k_findGood l dC dI ca x a nl la lo nb ba bt np pa pc nx xa bx f0 f1 f5 f6 rn gl gh lw6 hi6 v2 (by first | assumption | omega | exact ⟨_, by omega, rfl⟩)) (⟨callB_of 1 hts (gd mw_543) rfl rfl rfl (hts _ mw_1) (hts _ mw_540) ds_X10_findGood ⟨Nat.le_of_ble_eq_true rfl, Nat.le_of_ble_eq_true rfl⟩, (hts _ mw_542), (hts _ mp_8)⟩) (pu_V hPc hK hE (va_recv hK hPc (ci := 10) (q0 := 0) rfl rfl)) rfl rfl hl.1 rfl (lv_room (Nat.le_of_ble_eq_true rfl)) dX10_dip_9 ⟨Nat.le_of_ble_eq_true rfl, Nat.le_of_ble_eq_true rfl⟩) (fun rv_2 hw_ => ?_)
  have hw_2 := hw_
  refine lq_astore (lv' := [(5, va_rf rv_2), (4, va_rf rv_1), (0, .ref x), (1, .int v1), (2, .int v2), (3, .int v3)]) hx hb dX10_dip_12 hl (by decide) (by simp [List.filter, rf_cat]) (fun ls hl => ?_)
  refine lq_aload hx hb dX10_dip_14 (lv_at hl 1 rfl) ?_
  cases rv_1 with
  | none =>
    have hl : lv_has ls 6 [(5, va_rf rv_2), (4, .null), (0, .ref x), (1, .int v1), (2, .int v2), (3, .int v3)] := hl
    refine W.eq (g2 := F0 m 16 ls [.null]) rfl ?_
    refine lv_ifnullN (tgt := 42) hx hb dX10_dip_16 (by decide) ?_
    refine lv_iconst (v := (-1)) hx hb dX10_dip_42 (by decide) ?_
    refine W.widen (k := 0) (n := 0) (Nat.le_of_ble_eq_true rfl) (Nat.le_of_ble_eq_true rfl) ?_
    have hP9 : va_P (dC, dI) vwCl (@HAppend.hAppend va_W va_W va_W _ [(x, .inr (10, [.ref (a 0), .int (nI nl), .ref (a 2), .int (nI nb), .ref (a 4), .int (nI np), .ref (a 6), .int (nI nx), .ref (a 8), .ref (a 9), .ref (a 10), .ref (a 11), .ref (a 12), .ref (a 13), .ref (a 14)])), ((a 2), .inl (ca 6, 40, .inr (.inr (.inr (.inr (rA nb (bA0 ba))))))), ((a 4), .inl (ca 7, 600, .inr (.inr (.inr (.inr (rA np pa)))))), ((a 10), .inr (8, [.ref f0, .ref f1, .int (nI rn), .int gl, .int gh, .ref f5, .ref f6])), (f5, .inl (ca 0, 6, .inl lw6)), (f6, .inl (ca 0, 6, .inl hi6))] (pool ca (List.range nl) la lo (List.range nb) ba bt (List.range np) pa pc (List.range nx) xa bx)) s.heap := va_P.part (X := [(x, .inr (10, [.ref (a 0), .int (nI nl), .ref (a 2), .int (nI nb), .ref (a 4), .int (nI np), .ref (a 6), .int (nI nx), .ref (a 8), .ref (a 9), .ref (a 10), .ref (a 11), .ref (a 12), .ref (a 13), .ref (a 14)])), ((a 2), .inl (ca 6, 40, .inr (.inr (.inr (.inr (rA nb (bA0 ba))))))), ((a 4), .inl (ca 7, 600, .inr (.inr (.inr (.inr (rA np pa)))))), ((a 10), .inr (8, [.ref f0, .ref f1, .int (nI rn), .int gl, .int gh, .ref f5, .ref f6])), (f5, .inl (ca 0, 6, .inl lw6)), (f6, .inl (ca 0, 6, .inl hi6))]) hP [0, 1, 2, 3, 4, 5] rfl
    have hD9 : va_D A (@HAppend.hAppend va_W va_W va_W _ [(x, .inr (10, [.ref (a 0), .int (nI nl), .ref (a 2), .int (nI nb), .ref (a 4), .int (nI np), .ref (a 6), .int (nI nx), .ref (a 8), .ref (a 9), .ref (a 10), .ref (a 11), .ref (a 12), .ref (a 13), .ref (a 14)])), ((a 2), .inl (ca 6, 40, .inr (.inr (.inr (.inr (rA nb (bA0 ba))))))), ((a 4), .inl (ca 7, 600, .inr (.inr (.inr (.inr (rA np pa)))))), ((a 10), .inr (8, [.ref f0, .ref f1, .int (nI rn), .int gl, .int gh, .ref f5, .ref f6])), (f5, .inl (ca 0, 6, .inl lw6)), (f6, .inl (ca 0, 6, .inl hi6))] (pool ca (List.range nl) la lo (List.range nb) ba bt (List.range np) pa pc (List.range nx) xa bx)) := va_D.part (X := [(x, .inr (10, [.ref (a 0), .int (nI nl), .ref (a 2), .int (nI nb), .ref (a 4), .int (nI np), .ref (a 6), .int (nI nx), .ref (a 8), .ref (a 9), .ref (a 10), .ref (a 11), .ref (a 12), .ref (a 13), .ref (a 14)])), ((a 2), .inl (ca 6, 40, .inr (.inr (.inr (.inr (rA nb (bA0 ba))))))), ((a 4), .inl (ca 7, 600, .inr (.inr (.inr (.inr (rA np pa)))))), ((a 10), .inr (8, [.ref f0, .ref f1, .int (nI rn), .int gl, .int gh, .ref f5, .ref f6])), (f5, .inl (ca 0, 6, .inl lw6)), (f6, .inl (ca 0, 6, .inl hi6))]) hD [0, 1, 2, 3, 4, 5] (by decide) rfl
    exact W.iret (v := (-1)) hx hb hr (fun t ht hW => ⟨⟨(-1), (bt, pc), rfl, ⟨eqK_rf _ _, eqX_rf _ _, hQ⟩, by rw [ht]; dsimp only; exact hP9, by dsimp only; exact hD9⟩, hS.F ht⟩) hS.2.2 dX10_dip_43
  | some b3 =>
    have hl : lv_has ls 6 [(5, va_rf rv_2), (4, .ref b3), (0, .ref x), (1, .int v1), (2, .int v2), (3, .int v3)] := hl
    refine W.eq (g2 := F0 m 16 ls [.ref b3]) rfl ?_
    refine lv_ifnull hx hb dX10_dip_16 ?_
    obtain ⟨j4, hj4, ev4, e9, ho4⟩ := fng_some (by omega) hw_1
    have e9 : b3 = (pa j4) := e9
    subst e9
    have hl : lv_has ls 6 [(5, va_rf rv_2), (4, .ref (pa j4)), (0, .ref x), (1, .int v1), (2, .int v2), (3, .int v3)] := hl
    have hPr5 := pie_P hP (rg_in hj4)
    refine lq_aload hx hb dX10_dip_19 (lv_at hl 0 rfl) ?_
    cases rv_2 with
    | none =>
      have hl : lv_has ls 6 [(5, .null), (4, .ref (pa j4)), (0, .ref x), (1, .int v1), (2, .int v2), (3, .int v3)] := hl
      refine W.eq (g2 := F0 m 21 ls [.null]) rfl ?_
      refine lv_ifnullN (tgt := 42) hx hb dX10_dip_21 (by decide) ?_
      refine lv_iconst (v := (-1)) hx hb dX10_dip_42 (by decide) ?_
      refine W.widen (k := 0) (n := 0) (Nat.le_of_ble_eq_true rfl) (Nat.le_of_ble_eq_true rfl) ?_
      have hP9 : va_P (dC, dI) vwCl (@HAppend.hAppend va_W va_W va_W _ [(x, .inr (10, [.ref (a 0), .int (nI nl), .ref (a 2), .int (nI nb), .ref (a 4), .int (nI np), .ref (a 6), .int (nI nx), .ref (a 8), .ref (a 9), .ref (a 10), .ref (a 11), .ref (a 12), .ref (a 13), .ref (a 14)])), ((a 2), .inl (ca 6, 40, .inr (.inr (.inr (.inr (rA nb (bA0 ba))))))), ((a 4), .inl (ca 7, 600, .inr (.inr (.inr (.inr (rA np pa)))))), ((a 10), .inr (8, [.ref f0, .ref f1, .int (nI rn), .int gl, .int gh, .ref f5, .ref f6])), (f5, .inl (ca 0, 6, .inl lw6)), (f6, .inl (ca 0, 6, .inl hi6))] (pool ca (List.range nl) la lo (List.range nb) ba bt (List.range np) pa pc (List.range nx) xa bx)) s.heap := va_P.part (X := [(x, .inr (10, [.ref (a 0), .int (nI nl), .ref (a 2), .int (nI nb), .ref (a 4), .int (nI np), .ref (a 6), .int (nI nx), .ref (a 8), .ref (a 9), .ref (a 10), .ref (a 11), .ref (a 12), .ref (a 13), .ref (a 14)])), ((a 2), .inl (ca 6, 40, .inr (.inr (.inr (.inr (rA nb (bA0 ba))))))), ((a 4), .inl (ca 7, 600, .inr (.inr (.inr (.inr (rA np pa)))))), ((a 10), .inr (8, [.ref f0, .ref f1, .int (nI rn), .int gl, .int gh, .ref f5, .ref f6])), (f5, .inl (ca 0, 6, .inl lw6)), (f6, .inl (ca 0, 6, .inl hi6))]) hP [0, 1, 2, 3, 4, 5] rfl
      have hD9 : va_D A (@HAppend.hAppend va_W va_W va_W _ [(x, .inr (10, [.ref (a 0), .int (nI nl), .ref (a 2), .int (nI nb), .ref (a 4), .int (nI np), .ref (a 6), .int (nI nx), .ref (a 8), .ref (a 9), .ref (a 10), .ref (a 11), .ref (a 12), .ref (a 13), .ref (a 14)])), ((a 2), .inl (ca 6, 40, .inr (.inr (.inr (.inr (rA nb (bA0 ba))))))), ((a 4), .inl (ca 7, 600, .inr (.inr (.inr (.inr (rA np pa)))))), ((a 10), .inr (8, [.ref f0, .ref f1, .int (nI rn), .int gl, .int gh, .ref f5, .ref f6])), (f5, .inl (ca 0, 6, .inl lw6)), (f6, .inl (ca 0, 6, .inl hi6))] (pool ca (List.range nl) la lo (List.range nb) ba bt (List.range np) pa pc (List.range nx) xa bx)) := va_D.part (X := [(x, .inr (10, [.ref (a 0), .int (nI nl), .ref (a 2), .int (nI nb), .ref (a 4), .int (nI np), .ref (a 6), .int (nI nx), .ref (a 8), .ref (a 9), .ref (a 10), .ref (a 11), .ref (a 12), .ref (a 13), .ref (a 14)])), ((a 2), .inl (ca 6, 40, .inr (.inr (.inr (.inr (rA nb (bA0 ba))))))), ((a 4), .inl (ca 7, 600, .inr (.inr (.inr (.inr (rA np pa)))))), ((a 10), .inr (8, [.ref f0, .ref f1, .int (nI rn), .int gl, .int gh, .ref f5, .ref f6])), (f5, .inl (ca 0, 6, .inl lw6)), (f6, .inl (ca 0, 6, .inl hi6))]) hD [0, 1, 2, 3, 4, 5] (by decide) rfl
      exact W.iret (v := (-1)) hx hb hr (fun t ht hW => ⟨⟨(-1), (bt, pc), rfl, ⟨eqK_rf _ _, eqX_rf _ _, hQ⟩, by rw [ht]; dsimp only; exact hP9, by dsimp only; exact hD9⟩, hS.F ht⟩) hS.2.2 dX10_dip_43
    | some b6 =>
      have hl : lv_has ls 6 [(5, .ref b6), (4, .ref (pa j4)), (0, .ref x), (1, .int v1), (2, .int v2), (3, .int v3)] := hl
      refine W.eq (g2 := F0 m 21 ls [.ref b6]) rfl ?_
      refine lv_ifnull hx hb dX10_dip_21 ?_
      obtain ⟨j7, hj7, ev7, e9, ho7⟩ := fng_some (by omega) hw_2
      have e9 : b6 = (ba j7 0) := e9
      subst e9
      have hl : lv_has ls 6 [(5, .ref (ba j7 0)), (4, .ref (pa j4)), (0, .ref x), (1, .int v1), (2, .int v2), (3, .int v3)] := hl
      have hPr8 := bat_P hP (rg_in hj7)
      refine lv_aload hx hb dX10_dip_24 (lv_at hl 1 rfl) ?_
      refine va_get (D := (dC, dI)) (ci := 6) (v := .int ((pc j4).1 4)) (C := RX6) (T := TX6) (N := 9) hx hb hts inX6 hown hK hPr5 0 rfl rfl 4 (by decide) (hts _ mw_557) (fun _ h9 => h9) rfl dX10_dip_26 ?_
      refine lv_iconst (v := (-1)) hx hb dX10_dip_29 (by decide) ?_
      refine lv_icmp_ne (tgt := 42) hx hb dX10_dip_30 (by decide) (fun c_9 => ?_) (fun c_9 => ?_)
      · refine lv_iconst (v := (-1)) hx hb dX10_dip_42 (by decide) ?_
        refine W.widen (k := 0) (n := 0) (Nat.le_of_ble_eq_true rfl) (Nat.le_of_ble_eq_true rfl) ?_
        have hP9 : va_P (dC, dI) vwCl (@HAppend.hAppend va_W va_W va_W _ [(x, .inr (10, [.ref (a 0), .int (nI nl), .ref (a 2), .int (nI nb), .ref (a 4), .int (nI np), .ref (a 6), .int (nI nx), .ref (a 8), .ref (a 9), .ref (a 10), .ref (a 11), .ref (a 12), .ref (a 13), .ref (a 14)])), ((a 2), .inl (ca 6, 40, .inr (.inr (.inr (.inr (rA nb (bA0 ba))))))), ((a 4), .inl (ca 7, 600, .inr (.inr (.inr (.inr (rA np pa)))))), ((a 10), .inr (8, [.ref f0, .ref f1, .int (nI rn), .int gl, .int gh, .ref f5, .ref f6])), (f5, .inl (ca 0, 6, .inl lw6)), (f6, .inl (ca 0, 6, .inl hi6))] (pool ca (List.range nl) la lo (List.range nb) ba bt (List.range np) pa pc (List.range nx) xa bx)) s.heap := va_P.part (X := [(x, .inr (10, [.ref (a 0), .int (nI nl), .ref (a 2), .int (nI nb), .ref (a 4), .int (nI np), .ref (a 6), .int (nI nx), .ref (a 8), .ref (a 9), .ref (a 10), .ref (a 11), .ref (a 12), .ref (a 13), .ref (a 14)])), ((a 2), .inl (ca 6, 40, .inr (.inr (.inr (.inr (rA nb (bA0 ba))))))), ((a 4), .inl (ca 7, 600, .inr (.inr (.inr (.inr (rA np pa)))))), ((a 10), .inr (8, [.ref f0, .ref f1, .int (nI rn), .int gl, .int gh, .ref f5, .ref f6])), (f5, .inl (ca 0, 6, .inl lw6)), (f6, .inl (ca 0, 6, .inl hi6))]) hP [0, 1, 2, 3, 4, 5] rfl
        have hD9 : va_D A (@HAppend.hAppend va_W va_W va_W _ [(x, .inr (10, [.ref (a 0), .int (nI nl), .ref (a 2), .int (nI nb), .ref (a 4), .int (nI np), .ref (a 6), .int (nI nx), .ref (a 8), .ref (a 9), .ref (a 10), .ref (a 11), .ref (a 12), .ref (a 13), .ref (a 14)])), ((a 2), .inl (ca 6, 40, .inr (.inr (.inr (.inr (rA nb (bA0 ba))))))), ((a 4), .inl (ca 7, 600, .inr (.inr (.inr (.inr (rA np pa)))))), ((a 10), .inr (8, [.ref f0, .ref f1, .int (nI rn), .int gl, .int gh, .ref f5, .ref f6])), (f5, .inl (ca 0, 6, .inl lw6)), (f6, .inl (ca 0, 6, .inl hi6))] (pool ca (List.range nl) la lo (List.range nb) ba bt (List.range np) pa pc (List.range nx) xa bx)) := va_D.part (X := [(x, .inr (10, [.ref (a 0), .int (nI nl), .ref (a 2), .int (nI nb), .ref (a 4), .int (nI np), .ref (a 6), .int (nI nx), .ref (a 8), .ref (a 9), .ref (a 10), .ref (a 11), .ref (a 12), .ref (a 13), .ref (a 14)])), ((a 2), .inl (ca 6, 40, .inr (.inr (.inr (.inr (rA nb (bA0 ba))))))), ((a 4), .inl (ca 7, 600, .inr (.inr (.inr (.inr (rA np pa)))))), ((a 10), .inr (8, [.ref f0, .ref f1, .int (nI rn), .int gl, .int gh, .ref f5, .ref f6])), (f5, .inl (ca 0, 6, .inl lw6)), (f6, .inl (ca 0, 6, .inl hi6))]) hD [0, 1, 2, 3, 4, 5] (by decide) rfl
        exact W.iret (v := (-1)) hx hb hr (fun t ht hW => ⟨⟨(-1), (bt, pc), rfl, ⟨eqK_rf _ _, eqX_rf _ _, hQ⟩, by rw [ht]; dsimp only; exact hP9, by dsimp only; exact hD9⟩, hS.F ht⟩) hS.2.2 dX10_dip_43
      · refine lv_aload hx hb dX10_dip_33 (lv_at hl 0 rfl) ?_
        refine va_get (D := (dC, dI)) (ci := 0) (v := .int ((bt j7).1 0)) (C := RX0) (T := TX0) (N := 16) hx hb hts inX0 hown hK hPr8 0 rfl rfl 0 (by decide) (hts _ mw_306) (fun _ h9 => h9) rfl dX10_dip_35 ?_
        refine lv_iconst (v := 5) hx hb dX10_dip_38 (by decide) ?_
        refine lv_icmp_eq (tgt := 44) hx hb dX10_dip_39 (by decide) (fun c_10 => ?_) (fun c_10 => ?_)
        · refine lv_iload_n hx hb dX10_dip_44 rfl (lv_at hl 5 rfl) ?_
          refine lv_iconst (v := 1) hx hb dX10_dip_45 (by decide) ?_
          refine lv_sipush (v := 1000) hx hb dX10_dip_46 (by decide) ?_
          have hPc := hP.sub (ws' := []) [] rfl
          refine pc_i (va_runS (As := [.int v3, .int 1, .int 1000]) (rest := []) ⟨hx, hb, hml, hown, hts⟩ (c_within l dC dI ca v3 1 1000 ) (⟨callB_of 3 hts (gd mw_254) rfl rfl rfl (hts _ mw_1) (hts _ mw_252) ds_X10_within ⟨Nat.le_of_ble_eq_true rfl, Nat.le_of_ble_eq_true rfl⟩, (hts _ mw_253)⟩) (pu_S hPc hK hE) rfl rfl hl.1 rfl (lv_room (Nat.le_of_ble_eq_true rfl)) dX10_dip_49 ⟨Nat.le_of_ble_eq_true rfl, Nat.le_of_ble_eq_true rfl⟩) (fun rv_11 hw_ => ?_)
          obtain rfl : rv_11 = (wi v3 1 1000) := hw_
          refine lv_if_eq (tgt := 64) hx hb dX10_dip_52 (by decide) (fun c_12 => ?_) (fun c_12 => ?_)
          · refine lv_iconst (v := (-1)) hx hb dX10_dip_64 (by decide) ?_
            refine W.widen (k := 0) (n := 0) (Nat.le_of_ble_eq_true rfl) (Nat.le_of_ble_eq_true rfl) ?_
            have hP9 : va_P (dC, dI) vwCl (@HAppend.hAppend va_W va_W va_W _ [(x, .inr (10, [.ref (a 0), .int (nI nl), .ref (a 2), .int (nI nb), .ref (a 4), .int (nI np), .ref (a 6), .int (nI nx), .ref (a 8), .ref (a 9), .ref (a 10), .ref (a 11), .ref (a 12), .ref (a 13), .ref (a 14)])), ((a 2), .inl (ca 6, 40, .inr (.inr (.inr (.inr (rA nb (bA0 ba))))))), ((a 4), .inl (ca 7, 600, .inr (.inr (.inr (.inr (rA np pa)))))), ((a 10), .inr (8, [.ref f0, .ref f1, .int (nI rn), .int gl, .int gh, .ref f5, .ref f6])), (f5, .inl (ca 0, 6, .inl lw6)), (f6, .inl (ca 0, 6, .inl hi6))] (pool ca (List.range nl) la lo (List.range nb) ba bt (List.range np) pa pc (List.range nx) xa bx)) s.heap := va_P.part (X := [(x, .inr (10, [.ref (a 0), .int (nI nl), .ref (a 2), .int (nI nb), .ref (a 4), .int (nI np), .ref (a 6), .int (nI nx), .ref (a 8), .ref (a 9), .ref (a 10), .ref (a 11), .ref (a 12), .ref (a 13), .ref (a 14)])), ((a 2), .inl (ca 6, 40, .inr (.inr (.inr (.inr (rA nb (bA0 ba))))))), ((a 4), .inl (ca 7, 600, .inr (.inr (.inr (.inr (rA np pa)))))), ((a 10), .inr (8, [.ref f0, .ref f1, .int (nI rn), .int gl, .int gh, .ref f5, .ref f6])), (f5, .inl (ca 0, 6, .inl lw6)), (f6, .inl (ca 0, 6, .inl hi6))]) hP [0, 1, 2, 3, 4, 5] rfl
            have hD9 : va_D A (@HAppend.hAppend va_W va_W va_W _ [(x, .inr (10, [.ref (a 0), .int (nI nl), .ref (a 2), .int (nI nb), .ref (a 4), .int (nI np), .ref (a 6), .int (nI nx), .ref (a 8), .ref (a 9), .ref (a 10), .ref (a 11), .ref (a 12), .ref (a 13), .ref (a 14)])), ((a 2), .inl (ca 6, 40, .inr (.inr (.inr (.inr (rA nb (bA0 ba))))))), ((a 4), .inl (ca 7, 600, .inr (.inr (.inr (.inr (rA np pa)))))), ((a 10), .inr (8, [.ref f0, .ref f1, .int (nI rn), .int gl, .int gh, .ref f5, .ref f6])), (f5, .inl (ca 0, 6, .inl lw6)), (f6, .inl (ca 0, 6, .inl hi6))] (pool ca (List.range nl) la lo (List.range nb) ba bt (List.range np) pa pc (List.range nx) xa bx)) := va_D.part (X := [(x, .inr (10, [.ref (a 0), .int (nI nl), .ref (a 2), .int (nI nb), .ref (a 4), .int (nI np), .ref (a 6), .int (nI nx), .ref (a 8), .ref (a 9), .ref (a 10), .ref (a 11), .ref (a 12), .ref (a 13), .ref (a 14)])), ((a 2), .inl (ca 6, 40, .inr (.inr (.inr (.inr (rA nb (bA0 ba))))))), ((a 4), .inl (ca 7, 600, .inr (.inr (.inr (.inr (rA np pa)))))), ((a 10), .inr (8, [.ref f0, .ref f1, .int (nI rn), .int gl, .int gh, .ref f5, .ref f6])), (f5, .inl (ca 0, 6, .inl lw6)), (f6, .inl (ca 0, 6, .inl hi6))]) hD [0, 1, 2, 3, 4, 5] (by decide) rfl
            exact W.iret (v := (-1)) hx hb hr (fun t ht hW => ⟨⟨(-1), (bt, pc), rfl, ⟨eqK_rf _ _, eqX_rf _ _, hQ⟩, by rw [ht]; dsimp only; exact hP9, by dsimp only; exact hD9⟩, hS.F ht⟩) hS.2.2 dX10_dip_65
          · refine lv_aload hx hb dX10_dip_55 (lv_at hl 0 rfl) ?_
            refine va_get (D := (dC, dI)) (ci := 0) (v := .int ((bt j7).1 2)) (C := RX0) (T := TX0) (N := 16) hx hb hts inX0 hown hK hPr8 0 rfl rfl 2 (by decide) (hts _ mw_310) (fun _ h9 => h9) rfl dX10_dip_57 ?_
            refine lv_iload_n hx hb dX10_dip_60 rfl (lv_at hl 5 rfl) ?_
            refine lv_icmp_ge (tgt := 66) hx hb dX10_dip_61 (by decide) (fun c_13 => ?_) (fun c_13 => ?_)
            · have hP := va_fo (X := [(x, .inr (10, [.ref (a 0), .int (nI nl), .ref (a 2), .int (nI nb), .ref (a 4), .int (nI np), .ref (a 6), .int (nI nx), .ref (a 8), .ref (a 9), .ref (a 10), .ref (a 11), .ref (a 12), .ref (a 13), .ref (a 14)])), ((a 2), .inl (ca 6, 40, .inr (.inr (.inr (.inr (rA nb (bA0 ba))))))), ((a 4), .inl (ca 7, 600, .inr (.inr (.inr (.inr (rA np pa)))))), ((a 10), .inr (8, [.ref f0, .ref f1, .int (nI rn), .int gl, .int gh, .ref f5, .ref f6])), (f5, .inl (ca 0, 6, .inl lw6)), (f6, .inl (ca 0, 6, .inl hi6))]) (pie_fo (rg_in hj4)) hP
              have hD := va_fo_D (X := [(x, .inr (10, [.ref (a 0), .int (nI nl), .ref (a 2), .int (nI nb), .ref (a 4), .int (nI np), .ref (a 6), .int (nI nx), .ref (a 8), .ref (a 9), .ref (a 10), .ref (a 11), .ref (a 12), .ref (a 13), .ref (a 14)])), ((a 2), .inl (ca 6, 40, .inr (.inr (.inr (.inr (rA nb (bA0 ba))))))), ((a 4), .inl (ca 7, 600, .inr (.inr (.inr (.inr (rA np pa)))))), ((a 10), .inr (8, [.ref f0, .ref f1, .int (nI rn), .int gl, .int gh, .ref f5, .ref f6])), (f5, .inl (ca 0, 6, .inl lw6)), (f6, .inl (ca 0, 6, .inl hi6))]) (pie_fo (rg_in hj4)) hD
              obtain ⟨hP, hD⟩ := va_bo (@HAppend.hAppend va_W va_W va_W _ [(x, .inr (10, [.ref (a 0), .int (nI nl), .ref (a 2), .int (nI nb), .ref (a 4), .int (nI np), .ref (a 6), .int (nI nx), .ref (a 8), .ref (a 9), .ref (a 10), .ref (a 11), .ref (a 12), .ref (a 13), .ref (a 14)])), ((a 2), .inl (ca 6, 40, .inr (.inr (.inr (.inr (rA nb (bA0 ba))))))), ((a 4), .inl (ca 7, 600, .inr (.inr (.inr (.inr (rA np pa)))))), ((a 10), .inr (8, [.ref f0, .ref f1, .int (nI rn), .int gl, .int gh, .ref f5, .ref f6])), (f5, .inl (ca 0, 6, .inl lw6)), (f6, .inl (ca 0, 6, .inl hi6)), ((pa j4), .inr (6, [.int ((pc j4).1 0), .int ((pc j4).1 1), .int ((pc j4).1 2), .long ((pc j4).2), .int ((pc j4).1 4), .int ((pc j4).1 5), .int ((pc j4).1 6), .int ((pc j4).1 7), .int ((pc j4).1 8)]))] (pool ca (List.range nl) la lo (List.range nb) ba bt ((List.range np).erase j4) pa pc (List.range nx) xa bx)) hP hD
              have hP := va_fo (X := [(x, .inr (10, [.ref (a 0), .int (nI nl), .ref (a 2), .int (nI nb), .ref (a 4), .int (nI np), .ref (a 6), .int (nI nx), .ref (a 8), .ref (a 9), .ref (a 10), .ref (a 11), .ref (a 12), .ref (a 13), .ref (a 14)])), ((a 2), .inl (ca 6, 40, .inr (.inr (.inr (.inr (rA nb (bA0 ba))))))), ((a 4), .inl (ca 7, 600, .inr (.inr (.inr (.inr (rA np pa)))))), ((a 10), .inr (8, [.ref f0, .ref f1, .int (nI rn), .int gl, .int gh, .ref f5, .ref f6])), (f5, .inl (ca 0, 6, .inl lw6)), (f6, .inl (ca 0, 6, .inl hi6)), ((pa j4), .inr (6, [.int ((pc j4).1 0), .int ((pc j4).1 1), .int ((pc j4).1 2), .long ((pc j4).2), .int ((pc j4).1 4), .int ((pc j4).1 5), .int ((pc j4).1 6), .int ((pc j4).1 7), .int ((pc j4).1 8)]))]) (bat_fo (rg_in hj7)) hP
              have hD := va_fo_D (X := [(x, .inr (10, [.ref (a 0), .int (nI nl), .ref (a 2), .int (nI nb), .ref (a 4), .int (nI np), .ref (a 6), .int (nI nx), .ref (a 8), .ref (a 9), .ref (a 10), .ref (a 11), .ref (a 12), .ref (a 13), .ref (a 14)])), ((a 2), .inl (ca 6, 40, .inr (.inr (.inr (.inr (rA nb (bA0 ba))))))), ((a 4), .inl (ca 7, 600, .inr (.inr (.inr (.inr (rA np pa)))))), ((a 10), .inr (8, [.ref f0, .ref f1, .int (nI rn), .int gl, .int gh, .ref f5, .ref f6])), (f5, .inl (ca 0, 6, .inl lw6)), (f6, .inl (ca 0, 6, .inl hi6)), ((pa j4), .inr (6, [.int ((pc j4).1 0), .int ((pc j4).1 1), .int ((pc j4).1 2), .long ((pc j4).2), .int ((pc j4).1 4), .int ((pc j4).1 5), .int ((pc j4).1 6), .int ((pc j4).1 7), .int ((pc j4).1 8)]))]) (bat_fo (rg_in hj7)) hD
              obtain ⟨hP, hD⟩ := va_bo (@HAppend.hAppend va_W va_W va_W _ [(x, .inr (10, [.ref (a 0), .int (nI nl), .ref (a 2), .int (nI nb), .ref (a 4), .int (nI np), .ref (a 6), .int (nI nx), .ref (a 8), .ref (a 9), .ref (a 10), .ref (a 11), .ref (a 12), .ref (a 13), .ref (a 14)])), ((a 2), .inl (ca 6, 40, .inr (.inr (.inr (.inr (rA nb (bA0 ba))))))), ((a 4), .inl (ca 7, 600, .inr (.inr (.inr (.inr (rA np pa)))))), ((a 10), .inr (8, [.ref f0, .ref f1, .int (nI rn), .int gl, .int gh, .ref f5, .ref f6])), (f5, .inl (ca 0, 6, .inl lw6)), (f6, .inl (ca 0, 6, .inl hi6)), ((pa j4), .inr (6, [.int ((pc j4).1 0), .int ((pc j4).1 1), .int ((pc j4).1 2), .long ((pc j4).2), .int ((pc j4).1 4), .int ((pc j4).1 5), .int ((pc j4).1 6), .int ((pc j4).1 7), .int ((pc j4).1 8)])), ((ba j7 0), .inr (0, [.int ((bt j7).1 0), .ref (ba j7 1), .int ((bt j7).1 2), .int ((bt j7).1 3), .long ((bt j7).2.1), .int ((bt j7).1 5), .int ((bt j7).1 6), .int ((bt j7).1 7), .int ((bt j7).1 8), .int ((bt j7).1 9), .int ((bt j7).1 10), .int ((bt j7).1 11), .int ((bt j7).1 12), .int ((bt j7).1 13), .int ((bt j7).1 14), .int ((bt j7).1 15)])), ((ba j7 1), .inr (7, [.ref (ba j7 2), .ref (ba j7 3), .int ((bt j7).1 16), .int ((bt j7).1 17)])), ((ba j7 2), .inl (ca 0, 60, .inl ((bt j7).2.2.1))), ((ba j7 3), .inl (ca 1, 60, .inl ((bt j7).2.2.2)))] (pool ca (List.range nl) la lo ((List.range nb).erase j7) ba bt ((List.range np).erase j4) pa pc (List.range nx) xa bx)) hP hD
              refine lv_aload hx hb dX10_dip_66 (lv_at hl 0 rfl) ?_
              refine lv_dup hx hb dX10_dip_68 rfl ?_
              refine va_get (D := (dC, dI)) (ci := 0) (v := .int ((bt j7).1 2)) (C := RX0) (T := TX0) (N := 16) hx hb hts inX0 hown hK hP 7 rfl rfl 2 (by decide) (hts _ mw_310) (fun _ h9 => h9) rfl dX10_dip_69 ?_
              refine lv_iload_n hx hb dX10_dip_72 rfl (lv_at hl 5 rfl) ?_
              refine lv_isub hx hb dX10_dip_73 ?_
              refine va_put (D := (dC, dI)) (ci := 0) (v := .int (((bt j7).1 2) - v3)) (ty := .int) (C := RX0) (T := TX0) (N := 16) hx hb hts inX0 tyX0 tyX0_ok nmX0 hown hK hP hD hS 7 rfl rfl 2 (by decide) (hts _ mw_310) (fun _ h9 => h9) rfl (by decide +kernel) rfl rfl (Nat.le_of_ble_eq_true rfl) dX10_dip_74 (fun H locs hP hD hS => ?_)
              obtain ⟨hP, hD⟩ := va_bo (@HAppend.hAppend va_W va_W va_W _ [(x, .inr (10, [.ref (a 0), .int (nI nl), .ref (a 2), .int (nI nb), .ref (a 4), .int (nI np), .ref (a 6), .int (nI nx), .ref (a 8), .ref (a 9), .ref (a 10), .ref (a 11), .ref (a 12), .ref (a 13), .ref (a 14)])), ((a 2), .inl (ca 6, 40, .inr (.inr (.inr (.inr (rA nb (bA0 ba))))))), ((a 4), .inl (ca 7, 600, .inr (.inr (.inr (.inr (rA np pa)))))), ((a 10), .inr (8, [.ref f0, .ref f1, .int (nI rn), .int gl, .int gh, .ref f5, .ref f6])), (f5, .inl (ca 0, 6, .inl lw6)), (f6, .inl (ca 0, 6, .inl hi6)), ((pa j4), .inr (6, [.int ((pc j4).1 0), .int ((pc j4).1 1), .int ((pc j4).1 2), .long ((pc j4).2), .int ((pc j4).1 4), .int ((pc j4).1 5), .int ((pc j4).1 6), .int ((pc j4).1 7), .int ((pc j4).1 8)])), ((ba j7 0), .inr (0, [.int ((bt j7).1 0), .ref (ba j7 1), .int (((bt j7).1 2) - v3), .int ((bt j7).1 3), .long ((bt j7).2.1), .int ((bt j7).1 5), .int ((bt j7).1 6), .int ((bt j7).1 7), .int ((bt j7).1 8), .int ((bt j7).1 9), .int ((bt j7).1 10), .int ((bt j7).1 11), .int ((bt j7).1 12), .int ((bt j7).1 13), .int ((bt j7).1 14), .int ((bt j7).1 15)])), ((ba j7 1), .inr (7, [.ref (ba j7 2), .ref (ba j7 3), .int ((bt j7).1 16), .int ((bt j7).1 17)])), ((ba j7 2), .inl (ca 0, 60, .inl ((bt j7).2.2.1))), ((ba j7 3), .inl (ca 1, 60, .inl ((bt j7).2.2.2)))] (pool ca (List.range nl) la lo ((List.range nb).erase j7) ba bt ((List.range np).erase j4) pa pc (List.range nx) xa bx)) hP hD
              refine lv_aload hx hb dX10_dip_77 (lv_at hl 0 rfl) ?_
              refine lv_dup hx hb dX10_dip_79 rfl ?_
              refine va_get (D := (dC, dI)) (ci := 0) (v := .int ((bt j7).1 15)) (C := RX0) (T := TX0) (N := 16) hx hb hts inX0 hown hK hP 7 rfl rfl 15 (by decide) (hts _ mw_333) (fun _ h9 => h9) rfl dX10_dip_80 ?_
              refine lv_iload_n hx hb dX10_dip_83 rfl (lv_at hl 5 rfl) ?_
              refine lv_iadd hx hb dX10_dip_84 ?_
              refine va_put (D := (dC, dI)) (ci := 0) (v := .int (((bt j7).1 15) + v3)) (ty := .int) (C := RX0) (T := TX0) (N := 16) hx hb hts inX0 tyX0 tyX0_ok nmX0 hown hK hP hD hS 7 rfl rfl 15 (by decide) (hts _ mw_333) (fun _ h9 => h9) rfl (by decide +kernel) rfl rfl (Nat.le_of_ble_eq_true rfl) dX10_dip_85 (fun H locs hP hD hS => ?_)
              obtain ⟨hP, hD⟩ := va_bo (@HAppend.hAppend va_W va_W va_W _ [(x, .inr (10, [.ref (a 0), .int (nI nl), .ref (a 2), .int (nI nb), .ref (a 4), .int (nI np), .ref (a 6), .int (nI nx), .ref (a 8), .ref (a 9), .ref (a 10), .ref (a 11), .ref (a 12), .ref (a 13), .ref (a 14)])), ((a 2), .inl (ca 6, 40, .inr (.inr (.inr (.inr (rA nb (bA0 ba))))))), ((a 4), .inl (ca 7, 600, .inr (.inr (.inr (.inr (rA np pa)))))), ((a 10), .inr (8, [.ref f0, .ref f1, .int (nI rn), .int gl, .int gh, .ref f5, .ref f6])), (f5, .inl (ca 0, 6, .inl lw6)), (f6, .inl (ca 0, 6, .inl hi6)), ((pa j4), .inr (6, [.int ((pc j4).1 0), .int ((pc j4).1 1), .int ((pc j4).1 2), .long ((pc j4).2), .int ((pc j4).1 4), .int ((pc j4).1 5), .int ((pc j4).1 6), .int ((pc j4).1 7), .int ((pc j4).1 8)])), ((ba j7 0), .inr (0, [.int ((bt j7).1 0), .ref (ba j7 1), .int (((bt j7).1 2) - v3), .int ((bt j7).1 3), .long ((bt j7).2.1), .int ((bt j7).1 5), .int ((bt j7).1 6), .int ((bt j7).1 7), .int ((bt j7).1 8), .int ((bt j7).1 9), .int ((bt j7).1 10), .int ((bt j7).1 11), .int ((bt j7).1 12), .int ((bt j7).1 13), .int ((bt j7).1 14), .int (((bt j7).1 15) + v3)])), ((ba j7 1), .inr (7, [.ref (ba j7 2), .ref (ba j7 3), .int ((bt j7).1 16), .int ((bt j7).1 17)])), ((ba j7 2), .inl (ca 0, 60, .inl ((bt j7).2.2.1))), ((ba j7 3), .inl (ca 1, 60, .inl ((bt j7).2.2.2)))] (pool ca (List.range nl) la lo ((List.range nb).erase j7) ba bt ((List.range np).erase j4) pa pc (List.range nx) xa bx)) hP hD
              refine lv_aload hx hb dX10_dip_88 (lv_at hl 1 rfl) ?_
              refine lv_dup hx hb dX10_dip_90 rfl ?_
              refine va_get (D := (dC, dI)) (ci := 6) (v := .int ((pc j4).1 2)) (C := RX6) (T := TX6) (N := 9) hx hb hts inX6 hown hK hP 6 rfl rfl 2 (by decide) (hts _ mw_553) (fun _ h9 => h9) rfl dX10_dip_91 ?_
              refine lv_iload_n hx hb dX10_dip_94 rfl (lv_at hl 5 rfl) ?_
              refine lv_iadd hx hb dX10_dip_95 ?_
              refine va_put (D := (dC, dI)) (ci := 6) (v := .int (((pc j4).1 2) + v3)) (ty := .int) (C := RX6) (T := TX6) (N := 9) hx hb hts inX6 tyX6 tyX6_ok nmX6 hown hK hP hD hS 6 rfl rfl 2 (by decide) (hts _ mw_553) (fun _ h9 => h9) rfl (by decide +kernel) rfl rfl (Nat.le_of_ble_eq_true rfl) dX10_dip_96 (fun H locs hP hD hS => ?_)
              obtain ⟨hP, hD⟩ := va_bo (@HAppend.hAppend va_W va_W va_W _ [(x, .inr (10, [.ref (a 0), .int (nI nl), .ref (a 2), .int (nI nb), .ref (a 4), .int (nI np), .ref (a 6), .int (nI nx), .ref (a 8), .ref (a 9), .ref (a 10), .ref (a 11), .ref (a 12), .ref (a 13), .ref (a 14)])), ((a 2), .inl (ca 6, 40, .inr (.inr (.inr (.inr (rA nb (bA0 ba))))))), ((a 4), .inl (ca 7, 600, .inr (.inr (.inr (.inr (rA np pa)))))), ((a 10), .inr (8, [.ref f0, .ref f1, .int (nI rn), .int gl, .int gh, .ref f5, .ref f6])), (f5, .inl (ca 0, 6, .inl lw6)), (f6, .inl (ca 0, 6, .inl hi6)), ((pa j4), .inr (6, [.int ((pc j4).1 0), .int ((pc j4).1 1), .int (((pc j4).1 2) + v3), .long ((pc j4).2), .int ((pc j4).1 4), .int ((pc j4).1 5), .int ((pc j4).1 6), .int ((pc j4).1 7), .int ((pc j4).1 8)])), ((ba j7 0), .inr (0, [.int ((bt j7).1 0), .ref (ba j7 1), .int (((bt j7).1 2) - v3), .int ((bt j7).1 3), .long ((bt j7).2.1), .int ((bt j7).1 5), .int ((bt j7).1 6), .int ((bt j7).1 7), .int ((bt j7).1 8), .int ((bt j7).1 9), .int ((bt j7).1 10), .int ((bt j7).1 11), .int ((bt j7).1 12), .int ((bt j7).1 13), .int ((bt j7).1 14), .int (((bt j7).1 15) + v3)])), ((ba j7 1), .inr (7, [.ref (ba j7 2), .ref (ba j7 3), .int ((bt j7).1 16), .int ((bt j7).1 17)])), ((ba j7 2), .inl (ca 0, 60, .inl ((bt j7).2.2.1))), ((ba j7 3), .inl (ca 1, 60, .inl ((bt j7).2.2.2)))] (pool ca (List.range nl) la lo ((List.range nb).erase j7) ba bt ((List.range np).erase j4) pa pc (List.range nx) xa bx)) hP hD
              refine lv_aload hx hb dX10_dip_99 (lv_at hl 1 rfl) ?_
              refine lv_iload_n hx hb dX10_dip_101 rfl (lv_at hl 4 rfl) ?_
              refine va_put (D := (dC, dI)) (ci := 6) (v := .int v2) (ty := .int) (C := RX6) (T := TX6) (N := 9) hx hb hts inX6 tyX6 tyX6_ok nmX6 hown hK hP hD hS 6 rfl rfl 4 (by decide) (hts _ mw_557) (fun _ h9 => h9) rfl (by decide +kernel) rfl rfl (Nat.le_of_ble_eq_true rfl) dX10_dip_102 (fun H locs hP hD hS => ?_)
              obtain ⟨hP, hD⟩ := va_bo (@HAppend.hAppend va_W va_W va_W _ [(x, .inr (10, [.ref (a 0), .int (nI nl), .ref (a 2), .int (nI nb), .ref (a 4), .int (nI np), .ref (a 6), .int (nI nx), .ref (a 8), .ref (a 9), .ref (a 10), .ref (a 11), .ref (a 12), .ref (a 13), .ref (a 14)])), ((a 2), .inl (ca 6, 40, .inr (.inr (.inr (.inr (rA nb (bA0 ba))))))), ((a 4), .inl (ca 7, 600, .inr (.inr (.inr (.inr (rA np pa)))))), ((a 10), .inr (8, [.ref f0, .ref f1, .int (nI rn), .int gl, .int gh, .ref f5, .ref f6])), (f5, .inl (ca 0, 6, .inl lw6)), (f6, .inl (ca 0, 6, .inl hi6)), ((pa j4), .inr (6, [.int ((pc j4).1 0), .int ((pc j4).1 1), .int (((pc j4).1 2) + v3), .long ((pc j4).2), .int v2, .int ((pc j4).1 5), .int ((pc j4).1 6), .int ((pc j4).1 7), .int ((pc j4).1 8)])), ((ba j7 0), .inr (0, [.int ((bt j7).1 0), .ref (ba j7 1), .int (((bt j7).1 2) - v3), .int ((bt j7).1 3), .long ((bt j7).2.1), .int ((bt j7).1 5), .int ((bt j7).1 6), .int ((bt j7).1 7), .int ((bt j7).1 8), .int ((bt j7).1 9), .int ((bt j7).1 10), .int ((bt j7).1 11), .int ((bt j7).1 12), .int ((bt j7).1 13), .int ((bt j7).1 14), .int (((bt j7).1 15) + v3)])), ((ba j7 1), .inr (7, [.ref (ba j7 2), .ref (ba j7 3), .int ((bt j7).1 16), .int ((bt j7).1 17)])), ((ba j7 2), .inl (ca 0, 60, .inl ((bt j7).2.2.1))), ((ba j7 3), .inl (ca 1, 60, .inl ((bt j7).2.2.2)))] (pool ca (List.range nl) la lo ((List.range nb).erase j7) ba bt ((List.range np).erase j4) pa pc (List.range nx) xa bx)) hP hD
              refine lv_aload hx hb dX10_dip_105 (lv_at hl 1 rfl) ?_
              refine lv_dup hx hb dX10_dip_107 rfl ?_
              refine va_get (D := (dC, dI)) (ci := 6) (v := .long ((pc j4).2)) (C := RX6) (T := TX6) (N := 9) hx hb hts inX6 hown hK hP 6 rfl rfl 3 (by decide) (hts _ mw_555) (fun _ h9 => h9) rfl dX10_dip_108 ?_
              refine lv_aload hx hb dX10_dip_111 (lv_at hl 0 rfl) ?_
              refine va_get (D := (dC, dI)) (ci := 0) (v := .long ((bt j7).2.1)) (C := RX0) (T := TX0) (N := 16) hx hb hts inX0 hown hK hP 7 rfl rfl 4 (by decide) (hts _ mw_314) (fun _ h9 => h9) rfl dX10_dip_113 ?_
              refine lv_lor hx hb dX10_dip_116 ?_
              refine va_put (D := (dC, dI)) (ci := 6) (v := .long ((pc j4).2 ||| (bt j7).2.1)) (ty := .long) (C := RX6) (T := TX6) (N := 9) hx hb hts inX6 tyX6 tyX6_ok nmX6 hown hK hP hD hS 6 rfl rfl 3 (by decide) (hts _ mw_555) (fun _ h9 => h9) rfl (by decide +kernel) rfl rfl (Nat.le_of_ble_eq_true rfl) dX10_dip_117 (fun H locs hP hD hS => ?_)
              obtain ⟨hP, hD⟩ := va_bo (@HAppend.hAppend va_W va_W va_W _ [(x, .inr (10, [.ref (a 0), .int (nI nl), .ref (a 2), .int (nI nb), .ref (a 4), .int (nI np), .ref (a 6), .int (nI nx), .ref (a 8), .ref (a 9), .ref (a 10), .ref (a 11), .ref (a 12), .ref (a 13), .ref (a 14)])), ((a 2), .inl (ca 6, 40, .inr (.inr (.inr (.inr (rA nb (bA0 ba))))))), ((a 4), .inl (ca 7, 600, .inr (.inr (.inr (.inr (rA np pa)))))), ((a 10), .inr (8, [.ref f0, .ref f1, .int (nI rn), .int gl, .int gh, .ref f5, .ref f6])), (f5, .inl (ca 0, 6, .inl lw6)), (f6, .inl (ca 0, 6, .inl hi6)), ((pa j4), .inr (6, [.int ((pc j4).1 0), .int ((pc j4).1 1), .int (((pc j4).1 2) + v3), .long ((pc j4).2 ||| (bt j7).2.1), .int v2, .int ((pc j4).1 5), .int ((pc j4).1 6), .int ((pc j4).1 7), .int ((pc j4).1 8)])), ((ba j7 0), .inr (0, [.int ((bt j7).1 0), .ref (ba j7 1), .int (((bt j7).1 2) - v3), .int ((bt j7).1 3), .long ((bt j7).2.1), .int ((bt j7).1 5), .int ((bt j7).1 6), .int ((bt j7).1 7), .int ((bt j7).1 8), .int ((bt j7).1 9), .int ((bt j7).1 10), .int ((bt j7).1 11), .int ((bt j7).1 12), .int ((bt j7).1 13), .int ((bt j7).1 14), .int (((bt j7).1 15) + v3)])), ((ba j7 1), .inr (7, [.ref (ba j7 2), .ref (ba j7 3), .int ((bt j7).1 16), .int ((bt j7).1 17)])), ((ba j7 2), .inl (ca 0, 60, .inl ((bt j7).2.2.1))), ((ba j7 3), .inl (ca 1, 60, .inl ((bt j7).2.2.2)))] (pool ca (List.range nl) la lo ((List.range nb).erase j7) ba bt ((List.range np).erase j4) pa pc (List.range nx) xa bx)) hP hD
              refine lv_aload hx hb dX10_dip_120 (lv_at hl 1 rfl) ?_
              refine lv_aload hx hb dX10_dip_122 (lv_at hl 0 rfl) ?_
              refine va_get (D := (dC, dI)) (ci := 0) (v := .int ((bt j7).1 12)) (C := RX0) (T := TX0) (N := 16) hx hb hts inX0 hown hK hP 7 rfl rfl 12 (by decide) (hts _ mw_326) (fun _ h9 => h9) rfl dX10_dip_124 ?_
              refine lv_iconst (v := 3) hx hb dX10_dip_127 (by decide) ?_
              refine lv_icmp_ne (tgt := 135) hx hb dX10_dip_128 (by decide) (fun c_14 => ?_) (fun c_14 => ?_)
              · refine lv_iconst (v := 0) hx hb dX10_dip_135 (by decide) ?_
                refine va_put (D := (dC, dI)) (ci := 6) (v := .int 0) (ty := .boolean) (C := RX6) (T := TX6) (N := 9) hx hb hts inX6 tyX6 tyX6_ok nmX6 hown hK hP hD hS 6 rfl rfl 5 (by decide) (hts _ mw_559) (fun _ h9 => h9) rfl (by decide +kernel) rfl rfl (Nat.le_of_ble_eq_true rfl) dX10_dip_136 (fun H locs hP hD hS => ?_)
                obtain ⟨hP, hD⟩ := va_bo (@HAppend.hAppend va_W va_W va_W _ [(x, .inr (10, [.ref (a 0), .int (nI nl), .ref (a 2), .int (nI nb), .ref (a 4), .int (nI np), .ref (a 6), .int (nI nx), .ref (a 8), .ref (a 9), .ref (a 10), .ref (a 11), .ref (a 12), .ref (a 13), .ref (a 14)])), ((a 2), .inl (ca 6, 40, .inr (.inr (.inr (.inr (rA nb (bA0 ba))))))), ((a 4), .inl (ca 7, 600, .inr (.inr (.inr (.inr (rA np pa)))))), ((a 10), .inr (8, [.ref f0, .ref f1, .int (nI rn), .int gl, .int gh, .ref f5, .ref f6])), (f5, .inl (ca 0, 6, .inl lw6)), (f6, .inl (ca 0, 6, .inl hi6)), ((pa j4), .inr (6, [.int ((pc j4).1 0), .int ((pc j4).1 1), .int (((pc j4).1 2) + v3), .long ((pc j4).2 ||| (bt j7).2.1), .int v2, .int 0, .int ((pc j4).1 6), .int ((pc j4).1 7), .int ((pc j4).1 8)])), ((ba j7 0), .inr (0, [.int ((bt j7).1 0), .ref (ba j7 1), .int (((bt j7).1 2) - v3), .int ((bt j7).1 3), .long ((bt j7).2.1), .int ((bt j7).1 5), .int ((bt j7).1 6), .int ((bt j7).1 7), .int ((bt j7).1 8), .int ((bt j7).1 9), .int ((bt j7).1 10), .int ((bt j7).1 11), .int ((bt j7).1 12), .int ((bt j7).1 13), .int ((bt j7).1 14), .int (((bt j7).1 15) + v3)])), ((ba j7 1), .inr (7, [.ref (ba j7 2), .ref (ba j7 3), .int ((bt j7).1 16), .int ((bt j7).1 17)])), ((ba j7 2), .inl (ca 0, 60, .inl ((bt j7).2.2.1))), ((ba j7 3), .inl (ca 1, 60, .inl ((bt j7).2.2.2)))] (pool ca (List.range nl) la lo ((List.range nb).erase j7) ba bt ((List.range np).erase j4) pa pc (List.range nx) xa bx)) hP hD
                refine lv_aload hx hb dX10_dip_139 (lv_at hl 1 rfl) ?_
                refine va_get (D := (dC, dI)) (ci := 6) (v := .int 0) (C := RX6) (T := TX6) (N := 9) hx hb hts inX6 hown hK hP 6 rfl rfl 5 (by decide) (hts _ mw_559) (fun _ h9 => h9) rfl dX10_dip_141 ?_
                refine lv_if_eq (tgt := 151) hx hb dX10_dip_144 (by decide) (fun c_ => ?_) (fun c_ => absurd c_ (by decide))
                refine lv_iconst (v := 0) hx hb dX10_dip_151 (by decide) ?_
                have hP := va_fb (X := [(x, .inr (10, [.ref (a 0), .int (nI nl), .ref (a 2), .int (nI nb), .ref (a 4), .int (nI np), .ref (a 6), .int (nI nx), .ref (a 8), .ref (a 9), .ref (a 10), .ref (a 11), .ref (a 12), .ref (a 13), .ref (a 14)])), ((a 2), .inl (ca 6, 40, .inr (.inr (.inr (.inr (rA nb (bA0 ba))))))), ((a 4), .inl (ca 7, 600, .inr (.inr (.inr (.inr (rA np pa)))))), ((a 10), .inr (8, [.ref f0, .ref f1, .int (nI rn), .int gl, .int gh, .ref f5, .ref f6])), (f5, .inl (ca 0, 6, .inl lw6)), (f6, .inl (ca 0, 6, .inl hi6)), ((pa j4), .inr (6, [.int ((pc j4).1 0), .int ((pc j4).1 1), .int (((pc j4).1 2) + v3), .long ((pc j4).2 ||| (bt j7).2.1), .int v2, .int 0, .int ((pc j4).1 6), .int ((pc j4).1 7), .int ((pc j4).1 8)]))]) (bat_fb (c := ((upd (upd (bt j7).1 2 (((bt j7).1 2) - v3)) 15 (((bt j7).1 15) + v3)), (bt j7).2.1, (bt j7).2.2.1, (bt j7).2.2.2)) (rg_nd hj7)) hP
                have hD := va_fb_D (X := [(x, .inr (10, [.ref (a 0), .int (nI nl), .ref (a 2), .int (nI nb), .ref (a 4), .int (nI np), .ref (a 6), .int (nI nx), .ref (a 8), .ref (a 9), .ref (a 10), .ref (a 11), .ref (a 12), .ref (a 13), .ref (a 14)])), ((a 2), .inl (ca 6, 40, .inr (.inr (.inr (.inr (rA nb (bA0 ba))))))), ((a 4), .inl (ca 7, 600, .inr (.inr (.inr (.inr (rA np pa)))))), ((a 10), .inr (8, [.ref f0, .ref f1, .int (nI rn), .int gl, .int gh, .ref f5, .ref f6])), (f5, .inl (ca 0, 6, .inl lw6)), (f6, .inl (ca 0, 6, .inl hi6)), ((pa j4), .inr (6, [.int ((pc j4).1 0), .int ((pc j4).1 1), .int (((pc j4).1 2) + v3), .long ((pc j4).2 ||| (bt j7).2.1), .int v2, .int 0, .int ((pc j4).1 6), .int ((pc j4).1 7), .int ((pc j4).1 8)]))]) (bat_fb (c := ((upd (upd (bt j7).1 2 (((bt j7).1 2) - v3)) 15 (((bt j7).1 15) + v3)), (bt j7).2.1, (bt j7).2.2.1, (bt j7).2.2.2)) (rg_nd hj7)) hD
                obtain ⟨hP, hD⟩ := va_bo (@HAppend.hAppend va_W va_W va_W _ [(x, .inr (10, [.ref (a 0), .int (nI nl), .ref (a 2), .int (nI nb), .ref (a 4), .int (nI np), .ref (a 6), .int (nI nx), .ref (a 8), .ref (a 9), .ref (a 10), .ref (a 11), .ref (a 12), .ref (a 13), .ref (a 14)])), ((a 2), .inl (ca 6, 40, .inr (.inr (.inr (.inr (rA nb (bA0 ba))))))), ((a 4), .inl (ca 7, 600, .inr (.inr (.inr (.inr (rA np pa)))))), ((a 10), .inr (8, [.ref f0, .ref f1, .int (nI rn), .int gl, .int gh, .ref f5, .ref f6])), (f5, .inl (ca 0, 6, .inl lw6)), (f6, .inl (ca 0, 6, .inl hi6)), ((pa j4), .inr (6, [.int ((pc j4).1 0), .int ((pc j4).1 1), .int (((pc j4).1 2) + v3), .long ((pc j4).2 ||| (bt j7).2.1), .int v2, .int 0, .int ((pc j4).1 6), .int ((pc j4).1 7), .int ((pc j4).1 8)]))] (pool ca (List.range nl) la lo (List.range nb) ba (va_up bt j7 ((upd (upd (bt j7).1 2 (((bt j7).1 2) - v3)) 15 (((bt j7).1 15) + v3)), (bt j7).2.1, (bt j7).2.2.1, (bt j7).2.2.2)) ((List.range np).erase j4) pa pc (List.range nx) xa bx)) hP hD
                have hP := va_fb (X := [(x, .inr (10, [.ref (a 0), .int (nI nl), .ref (a 2), .int (nI nb), .ref (a 4), .int (nI np), .ref (a 6), .int (nI nx), .ref (a 8), .ref (a 9), .ref (a 10), .ref (a 11), .ref (a 12), .ref (a 13), .ref (a 14)])), ((a 2), .inl (ca 6, 40, .inr (.inr (.inr (.inr (rA nb (bA0 ba))))))), ((a 4), .inl (ca 7, 600, .inr (.inr (.inr (.inr (rA np pa)))))), ((a 10), .inr (8, [.ref f0, .ref f1, .int (nI rn), .int gl, .int gh, .ref f5, .ref f6])), (f5, .inl (ca 0, 6, .inl lw6)), (f6, .inl (ca 0, 6, .inl hi6))]) (pie_fb (c := ((upd (upd (upd (pc j4).1 2 (((pc j4).1 2) + v3)) 4 v2) 5 0), ((pc j4).2 ||| (bt j7).2.1))) (rg_nd hj4)) hP
                have hD := va_fb_D (X := [(x, .inr (10, [.ref (a 0), .int (nI nl), .ref (a 2), .int (nI nb), .ref (a 4), .int (nI np), .ref (a 6), .int (nI nx), .ref (a 8), .ref (a 9), .ref (a 10), .ref (a 11), .ref (a 12), .ref (a 13), .ref (a 14)])), ((a 2), .inl (ca 6, 40, .inr (.inr (.inr (.inr (rA nb (bA0 ba))))))), ((a 4), .inl (ca 7, 600, .inr (.inr (.inr (.inr (rA np pa)))))), ((a 10), .inr (8, [.ref f0, .ref f1, .int (nI rn), .int gl, .int gh, .ref f5, .ref f6])), (f5, .inl (ca 0, 6, .inl lw6)), (f6, .inl (ca 0, 6, .inl hi6))]) (pie_fb (c := ((upd (upd (upd (pc j4).1 2 (((pc j4).1 2) + v3)) 4 v2) 5 0), ((pc j4).2 ||| (bt j7).2.1))) (rg_nd hj4)) hD
                obtain ⟨hP, hD⟩ := va_bo (@HAppend.hAppend va_W va_W va_W _ [(x, .inr (10, [.ref (a 0), .int (nI nl), .ref (a 2), .int (nI nb), .ref (a 4), .int (nI np), .ref (a 6), .int (nI nx), .ref (a 8), .ref (a 9), .ref (a 10), .ref (a 11), .ref (a 12), .ref (a 13), .ref (a 14)])), ((a 2), .inl (ca 6, 40, .inr (.inr (.inr (.inr (rA nb (bA0 ba))))))), ((a 4), .inl (ca 7, 600, .inr (.inr (.inr (.inr (rA np pa)))))), ((a 10), .inr (8, [.ref f0, .ref f1, .int (nI rn), .int gl, .int gh, .ref f5, .ref f6])), (f5, .inl (ca 0, 6, .inl lw6)), (f6, .inl (ca 0, 6, .inl hi6))] (pool ca (List.range nl) la lo (List.range nb) ba (va_up bt j7 ((upd (upd (bt j7).1 2 (((bt j7).1 2) - v3)) 15 (((bt j7).1 15) + v3)), (bt j7).2.1, (bt j7).2.2.1, (bt j7).2.2.2)) (List.range np) pa (va_up pc j4 ((upd (upd (upd (pc j4).1 2 (((pc j4).1 2) + v3)) 4 v2) 5 0), ((pc j4).2 ||| (bt j7).2.1))) (List.range nx) xa bx)) hP hD
                refine W.widen (k := 0) (n := 0) (Nat.le_of_ble_eq_true rfl) (Nat.le_of_ble_eq_true rfl) ?_
                have hP9 : va_P (dC, dI) vwCl (@HAppend.hAppend va_W va_W va_W _ [(x, .inr (10, [.ref (a 0), .int (nI nl), .ref (a 2), .int (nI nb), .ref (a 4), .int (nI np), .ref (a 6), .int (nI nx), .ref (a 8), .ref (a 9), .ref (a 10), .ref (a 11), .ref (a 12), .ref (a 13), .ref (a 14)])), ((a 2), .inl (ca 6, 40, .inr (.inr (.inr (.inr (rA nb (bA0 ba))))))), ((a 4), .inl (ca 7, 600, .inr (.inr (.inr (.inr (rA np pa)))))), ((a 10), .inr (8, [.ref f0, .ref f1, .int (nI rn), .int gl, .int gh, .ref f5, .ref f6])), (f5, .inl (ca 0, 6, .inl lw6)), (f6, .inl (ca 0, 6, .inl hi6))] (pool ca (List.range nl) la lo (List.range nb) ba (va_up bt j7 ((upd (upd (bt j7).1 2 (((bt j7).1 2) - v3)) 15 (((bt j7).1 15) + v3)), (bt j7).2.1, (bt j7).2.2.1, (bt j7).2.2.2)) (List.range np) pa (va_up pc j4 ((upd (upd (upd (pc j4).1 2 (((pc j4).1 2) + v3)) 4 v2) 5 0), ((pc j4).2 ||| (bt j7).2.1))) (List.range nx) xa bx)) H := va_P.part (X := [(x, .inr (10, [.ref (a 0), .int (nI nl), .ref (a 2), .int (nI nb), .ref (a 4), .int (nI np), .ref (a 6), .int (nI nx), .ref (a 8), .ref (a 9), .ref (a 10), .ref (a 11), .ref (a 12), .ref (a 13), .ref (a 14)])), ((a 2), .inl (ca 6, 40, .inr (.inr (.inr (.inr (rA nb (bA0 ba))))))), ((a 4), .inl (ca 7, 600, .inr (.inr (.inr (.inr (rA np pa)))))), ((a 10), .inr (8, [.ref f0, .ref f1, .int (nI rn), .int gl, .int gh, .ref f5, .ref f6])), (f5, .inl (ca 0, 6, .inl lw6)), (f6, .inl (ca 0, 6, .inl hi6))]) hP [0, 1, 2, 3, 4, 5] rfl
                have hD9 : va_D A (@HAppend.hAppend va_W va_W va_W _ [(x, .inr (10, [.ref (a 0), .int (nI nl), .ref (a 2), .int (nI nb), .ref (a 4), .int (nI np), .ref (a 6), .int (nI nx), .ref (a 8), .ref (a 9), .ref (a 10), .ref (a 11), .ref (a 12), .ref (a 13), .ref (a 14)])), ((a 2), .inl (ca 6, 40, .inr (.inr (.inr (.inr (rA nb (bA0 ba))))))), ((a 4), .inl (ca 7, 600, .inr (.inr (.inr (.inr (rA np pa)))))), ((a 10), .inr (8, [.ref f0, .ref f1, .int (nI rn), .int gl, .int gh, .ref f5, .ref f6])), (f5, .inl (ca 0, 6, .inl lw6)), (f6, .inl (ca 0, 6, .inl hi6))] (pool ca (List.range nl) la lo (List.range nb) ba (va_up bt j7 ((upd (upd (bt j7).1 2 (((bt j7).1 2) - v3)) 15 (((bt j7).1 15) + v3)), (bt j7).2.1, (bt j7).2.2.1, (bt j7).2.2.2)) (List.range np) pa (va_up pc j4 ((upd (upd (upd (pc j4).1 2 (((pc j4).1 2) + v3)) 4 v2) 5 0), ((pc j4).2 ||| (bt j7).2.1))) (List.range nx) xa bx)) := va_D.part (X := [(x, .inr (10, [.ref (a 0), .int (nI nl), .ref (a 2), .int (nI nb), .ref (a 4), .int (nI np), .ref (a 6), .int (nI nx), .ref (a 8), .ref (a 9), .ref (a 10), .ref (a 11), .ref (a 12), .ref (a 13), .ref (a 14)])), ((a 2), .inl (ca 6, 40, .inr (.inr (.inr (.inr (rA nb (bA0 ba))))))), ((a 4), .inl (ca 7, 600, .inr (.inr (.inr (.inr (rA np pa)))))), ((a 10), .inr (8, [.ref f0, .ref f1, .int (nI rn), .int gl, .int gh, .ref f5, .ref f6])), (f5, .inl (ca 0, 6, .inl lw6)), (f6, .inl (ca 0, 6, .inl hi6))]) hD [0, 1, 2, 3, 4, 5] (by decide) rfl
                exact W.iret (v := 0) hx hb hr (fun t ht hW => ⟨⟨0, ((va_up bt j7 ((upd (upd (bt j7).1 2 (((bt j7).1 2) - v3)) 15 (((bt j7).1 15) + v3)), (bt j7).2.1, (bt j7).2.2.1, (bt j7).2.2.2)), (va_up pc j4 ((upd (upd (upd (pc j4).1 2 (((pc j4).1 2) + v3)) 4 v2) 5 0), ((pc j4).2 ||| (bt j7).2.1)))), rfl, ⟨eqK_up (okG_c ho7) rfl, eqX_up (bt := bt) (j := j7) ⟨rfl, rfl, rfl, rfl, rfl, rfl⟩ (fun _ h9 => absurd c_10 h9), ⟨hq1, hq2, hq3, hq4, (up_all hq5 (hq5 j7 hj7)), (up_all hq6 ⟨cnt_le (cnt_add ((hq6 j4 hj4).2 c_9) (wi_cn (N := 1000) c_12 (by decide) (by decide))) (by decide), fun h9 => absurd (ev7.symm.trans h9) (nI_nm1 (by omega))⟩), hq7⟩⟩, by rw [ht]; dsimp only; exact hP9, by dsimp only; exact hD9⟩, hS.F ht⟩) hS.2.2 dX10_dip_152
              · refine lv_iconst (v := 1) hx hb dX10_dip_131 (by decide) ?_
                refine lv_goto (tgt := 136) hx hb dX10_dip_132 (by decide) ?_
                refine va_put (D := (dC, dI)) (ci := 6) (v := .int 1) (ty := .boolean) (C := RX6) (T := TX6) (N := 9) hx hb hts inX6 tyX6 tyX6_ok nmX6 hown hK hP hD hS 6 rfl rfl 5 (by decide) (hts _ mw_559) (fun _ h9 => h9) rfl (by decide +kernel) rfl rfl (Nat.le_of_ble_eq_true rfl) dX10_dip_136 (fun H locs hP hD hS => ?_)
                obtain ⟨hP, hD⟩ := va_bo (@HAppend.hAppend va_W va_W va_W _ [(x, .inr (10, [.ref (a 0), .int (nI nl), .ref (a 2), .int (nI nb), .ref (a 4), .int (nI np), .ref (a 6), .int (nI nx), .ref (a 8), .ref (a 9), .ref (a 10), .ref (a 11), .ref (a 12), .ref (a 13), .ref (a 14)])), ((a 2), .inl (ca 6, 40, .inr (.inr (.inr (.inr (rA nb (bA0 ba))))))), ((a 4), .inl (ca 7, 600, .inr (.inr (.inr (.inr (rA np pa)))))), ((a 10), .inr (8, [.ref f0, .ref f1, .int (nI rn), .int gl, .int gh, .ref f5, .ref f6])), (f5, .inl (ca 0, 6, .inl lw6)), (f6, .inl (ca 0, 6, .inl hi6)), ((pa j4), .inr (6, [.int ((pc j4).1 0), .int ((pc j4).1 1), .int (((pc j4).1 2) + v3), .long ((pc j4).2 ||| (bt j7).2.1), .int v2, .int 1, .int ((pc j4).1 6), .int ((pc j4).1 7), .int ((pc j4).1 8)])), ((ba j7 0), .inr (0, [.int ((bt j7).1 0), .ref (ba j7 1), .int (((bt j7).1 2) - v3), .int ((bt j7).1 3), .long ((bt j7).2.1), .int ((bt j7).1 5), .int ((bt j7).1 6), .int ((bt j7).1 7), .int ((bt j7).1 8), .int ((bt j7).1 9), .int ((bt j7).1 10), .int ((bt j7).1 11), .int ((bt j7).1 12), .int ((bt j7).1 13), .int ((bt j7).1 14), .int (((bt j7).1 15) + v3)])), ((ba j7 1), .inr (7, [.ref (ba j7 2), .ref (ba j7 3), .int ((bt j7).1 16), .int ((bt j7).1 17)])), ((ba j7 2), .inl (ca 0, 60, .inl ((bt j7).2.2.1))), ((ba j7 3), .inl (ca 1, 60, .inl ((bt j7).2.2.2)))] (pool ca (List.range nl) la lo ((List.range nb).erase j7) ba bt ((List.range np).erase j4) pa pc (List.range nx) xa bx)) hP hD
                refine lv_aload hx hb dX10_dip_139 (lv_at hl 1 rfl) ?_
                refine va_get (D := (dC, dI)) (ci := 6) (v := .int 1) (C := RX6) (T := TX6) (N := 9) hx hb hts inX6 hown hK hP 6 rfl rfl 5 (by decide) (hts _ mw_559) (fun _ h9 => h9) rfl dX10_dip_141 ?_
                refine lv_if_eq (tgt := 151) hx hb dX10_dip_144 (by decide) (fun c_ => absurd c_ (by decide)) (fun c_ => ?_)
                refine lv_iconst (v := 1) hx hb dX10_dip_147 (by decide) ?_
                refine lv_goto (tgt := 152) hx hb dX10_dip_148 (by decide) ?_
                have hP := va_fb (X := [(x, .inr (10, [.ref (a 0), .int (nI nl), .ref (a 2), .int (nI nb), .ref (a 4), .int (nI np), .ref (a 6), .int (nI nx), .ref (a 8), .ref (a 9), .ref (a 10), .ref (a 11), .ref (a 12), .ref (a 13), .ref (a 14)])), ((a 2), .inl (ca 6, 40, .inr (.inr (.inr (.inr (rA nb (bA0 ba))))))), ((a 4), .inl (ca 7, 600, .inr (.inr (.inr (.inr (rA np pa)))))), ((a 10), .inr (8, [.ref f0, .ref f1, .int (nI rn), .int gl, .int gh, .ref f5, .ref f6])), (f5, .inl (ca 0, 6, .inl lw6)), (f6, .inl (ca 0, 6, .inl hi6)), ((pa j4), .inr (6, [.int ((pc j4).1 0), .int ((pc j4).1 1), .int (((pc j4).1 2) + v3), .long ((pc j4).2 ||| (bt j7).2.1), .int v2, .int 1, .int ((pc j4).1 6), .int ((pc j4).1 7), .int ((pc j4).1 8)]))]) (bat_fb (c := ((upd (upd (bt j7).1 2 (((bt j7).1 2) - v3)) 15 (((bt j7).1 15) + v3)), (bt j7).2.1, (bt j7).2.2.1, (bt j7).2.2.2)) (rg_nd hj7)) hP
                have hD := va_fb_D (X := [(x, .inr (10, [.ref (a 0), .int (nI nl), .ref (a 2), .int (nI nb), .ref (a 4), .int (nI np), .ref (a 6), .int (nI nx), .ref (a 8), .ref (a 9), .ref (a 10), .ref (a 11), .ref (a 12), .ref (a 13), .ref (a 14)])), ((a 2), .inl (ca 6, 40, .inr (.inr (.inr (.inr (rA nb (bA0 ba))))))), ((a 4), .inl (ca 7, 600, .inr (.inr (.inr (.inr (rA np pa)))))), ((a 10), .inr (8, [.ref f0, .ref f1, .int (nI rn), .int gl, .int gh, .ref f5, .ref f6])), (f5, .inl (ca 0, 6, .inl lw6)), (f6, .inl (ca 0, 6, .inl hi6)), ((pa j4), .inr (6, [.int ((pc j4).1 0), .int ((pc j4).1 1), .int (((pc j4).1 2) + v3), .long ((pc j4).2 ||| (bt j7).2.1), .int v2, .int 1, .int ((pc j4).1 6), .int ((pc j4).1 7), .int ((pc j4).1 8)]))]) (bat_fb (c := ((upd (upd (bt j7).1 2 (((bt j7).1 2) - v3)) 15 (((bt j7).1 15) + v3)), (bt j7).2.1, (bt j7).2.2.1, (bt j7).2.2.2)) (rg_nd hj7)) hD
                obtain ⟨hP, hD⟩ := va_bo (@HAppend.hAppend va_W va_W va_W _ [(x, .inr (10, [.ref (a 0), .int (nI nl), .ref (a 2), .int (nI nb), .ref (a 4), .int (nI np), .ref (a 6), .int (nI nx), .ref (a 8), .ref (a 9), .ref (a 10), .ref (a 11), .ref (a 12), .ref (a 13), .ref (a 14)])), ((a 2), .inl (ca 6, 40, .inr (.inr (.inr (.inr (rA nb (bA0 ba))))))), ((a 4), .inl (ca 7, 600, .inr (.inr (.inr (.inr (rA np pa)))))), ((a 10), .inr (8, [.ref f0, .ref f1, .int (nI rn), .int gl, .int gh, .ref f5, .ref f6])), (f5, .inl (ca 0, 6, .inl lw6)), (f6, .inl (ca 0, 6, .inl hi6)), ((pa j4), .inr (6, [.int ((pc j4).1 0), .int ((pc j4).1 1), .int (((pc j4).1 2) + v3), .long ((pc j4).2 ||| (bt j7).2.1), .int v2, .int 1, .int ((pc j4).1 6), .int ((pc j4).1 7), .int ((pc j4).1 8)]))] (pool ca (List.range nl) la lo (List.range nb) ba (va_up bt j7 ((upd (upd (bt j7).1 2 (((bt j7).1 2) - v3)) 15 (((bt j7).1 15) + v3)), (bt j7).2.1, (bt j7).2.2.1, (bt j7).2.2.2)) ((List.range np).erase j4) pa pc (List.range nx) xa bx)) hP hD
                have hP := va_fb (X := [(x, .inr (10, [.ref (a 0), .int (nI nl), .ref (a 2), .int (nI nb), .ref (a 4), .int (nI np), .ref (a 6), .int (nI nx), .ref (a 8), .ref (a 9), .ref (a 10), .ref (a 11), .ref (a 12), .ref (a 13), .ref (a 14)])), ((a 2), .inl (ca 6, 40, .inr (.inr (.inr (.inr (rA nb (bA0 ba))))))), ((a 4), .inl (ca 7, 600, .inr (.inr (.inr (.inr (rA np pa)))))), ((a 10), .inr (8, [.ref f0, .ref f1, .int (nI rn), .int gl, .int gh, .ref f5, .ref f6])), (f5, .inl (ca 0, 6, .inl lw6)), (f6, .inl (ca 0, 6, .inl hi6))]) (pie_fb (c := ((upd (upd (upd (pc j4).1 2 (((pc j4).1 2) + v3)) 4 v2) 5 1), ((pc j4).2 ||| (bt j7).2.1))) (rg_nd hj4)) hP
                have hD := va_fb_D (X := [(x, .inr (10, [.ref (a 0), .int (nI nl), .ref (a 2), .int (nI nb), .ref (a 4), .int (nI np), .ref (a 6), .int (nI nx), .ref (a 8), .ref (a 9), .ref (a 10), .ref (a 11), .ref (a 12), .ref (a 13), .ref (a 14)])), ((a 2), .inl (ca 6, 40, .inr (.inr (.inr (.inr (rA nb (bA0 ba))))))), ((a 4), .inl (ca 7, 600, .inr (.inr (.inr (.inr (rA np pa)))))), ((a 10), .inr (8, [.ref f0, .ref f1, .int (nI rn), .int gl, .int gh, .ref f5, .ref f6])), (f5, .inl (ca 0, 6, .inl lw6)), (f6, .inl (ca 0, 6, .inl hi6))]) (pie_fb (c := ((upd (upd (upd (pc j4).1 2 (((pc j4).1 2) + v3)) 4 v2) 5 1), ((pc j4).2 ||| (bt j7).2.1))) (rg_nd hj4)) hD
                obtain ⟨hP, hD⟩ := va_bo (@HAppend.hAppend va_W va_W va_W _ [(x, .inr (10, [.ref (a 0), .int (nI nl), .ref (a 2), .int (nI nb), .ref (a 4), .int (nI np), .ref (a 6), .int (nI nx), .ref (a 8), .ref (a 9), .ref (a 10), .ref (a 11), .ref (a 12), .ref (a 13), .ref (a 14)])), ((a 2), .inl (ca 6, 40, .inr (.inr (.inr (.inr (rA nb (bA0 ba))))))), ((a 4), .inl (ca 7, 600, .inr (.inr (.inr (.inr (rA np pa)))))), ((a 10), .inr (8, [.ref f0, .ref f1, .int (nI rn), .int gl, .int gh, .ref f5, .ref f6])), (f5, .inl (ca 0, 6, .inl lw6)), (f6, .inl (ca 0, 6, .inl hi6))] (pool ca (List.range nl) la lo (List.range nb) ba (va_up bt j7 ((upd (upd (bt j7).1 2 (((bt j7).1 2) - v3)) 15 (((bt j7).1 15) + v3)), (bt j7).2.1, (bt j7).2.2.1, (bt j7).2.2.2)) (List.range np) pa (va_up pc j4 ((upd (upd (upd (pc j4).1 2 (((pc j4).1 2) + v3)) 4 v2) 5 1), ((pc j4).2 ||| (bt j7).2.1))) (List.range nx) xa bx)) hP hD
                refine W.widen (k := 0) (n := 0) (Nat.le_of_ble_eq_true rfl) (Nat.le_of_ble_eq_true rfl) ?_
                have hP9 : va_P (dC, dI) vwCl (@HAppend.hAppend va_W va_W va_W _ [(x, .inr (10, [.ref (a 0), .int (nI nl), .ref (a 2), .int (nI nb), .ref (a 4), .int (nI np), .ref (a 6), .int (nI nx), .ref (a 8), .ref (a 9), .ref (a 10), .ref (a 11), .ref (a 12), .ref (a 13), .ref (a 14)])), ((a 2), .inl (ca 6, 40, .inr (.inr (.inr (.inr (rA nb (bA0 ba))))))), ((a 4), .inl (ca 7, 600, .inr (.inr (.inr (.inr (rA np pa)))))), ((a 10), .inr (8, [.ref f0, .ref f1, .int (nI rn), .int gl, .int gh, .ref f5, .ref f6])), (f5, .inl (ca 0, 6, .inl lw6)), (f6, .inl (ca 0, 6, .inl hi6))] (pool ca (List.range nl) la lo (List.range nb) ba (va_up bt j7 ((upd (upd (bt j7).1 2 (((bt j7).1 2) - v3)) 15 (((bt j7).1 15) + v3)), (bt j7).2.1, (bt j7).2.2.1, (bt j7).2.2.2)) (List.range np) pa (va_up pc j4 ((upd (upd (upd (pc j4).1 2 (((pc j4).1 2) + v3)) 4 v2) 5 1), ((pc j4).2 ||| (bt j7).2.1))) (List.range nx) xa bx)) H := va_P.part (X := [(x, .inr (10, [.ref (a 0), .int (nI nl), .ref (a 2), .int (nI nb), .ref (a 4), .int (nI np), .ref (a 6), .int (nI nx), .ref (a 8), .ref (a 9), .ref (a 10), .ref (a 11), .ref (a 12), .ref (a 13), .ref (a 14)])), ((a 2), .inl (ca 6, 40, .inr (.inr (.inr (.inr (rA nb (bA0 ba))))))), ((a 4), .inl (ca 7, 600, .inr (.inr (.inr (.inr (rA np pa)))))), ((a 10), .inr (8, [.ref f0, .ref f1, .int (nI rn), .int gl, .int gh, .ref f5, .ref f6])), (f5, .inl (ca 0, 6, .inl lw6)), (f6, .inl (ca 0, 6, .inl hi6))]) hP [0, 1, 2, 3, 4, 5] rfl
                have hD9 : va_D A (@HAppend.hAppend va_W va_W va_W _ [(x, .inr (10, [.ref (a 0), .int (nI nl), .ref (a 2), .int (nI nb), .ref (a 4), .int (nI np), .ref (a 6), .int (nI nx), .ref (a 8), .ref (a 9), .ref (a 10), .ref (a 11), .ref (a 12), .ref (a 13), .ref (a 14)])), ((a 2), .inl (ca 6, 40, .inr (.inr (.inr (.inr (rA nb (bA0 ba))))))), ((a 4), .inl (ca 7, 600, .inr (.inr (.inr (.inr (rA np pa)))))), ((a 10), .inr (8, [.ref f0, .ref f1, .int (nI rn), .int gl, .int gh, .ref f5, .ref f6])), (f5, .inl (ca 0, 6, .inl lw6)), (f6, .inl (ca 0, 6, .inl hi6))] (pool ca (List.range nl) la lo (List.range nb) ba (va_up bt j7 ((upd (upd (bt j7).1 2 (((bt j7).1 2) - v3)) 15 (((bt j7).1 15) + v3)), (bt j7).2.1, (bt j7).2.2.1, (bt j7).2.2.2)) (List.range np) pa (va_up pc j4 ((upd (upd (upd (pc j4).1 2 (((pc j4).1 2) + v3)) 4 v2) 5 1), ((pc j4).2 ||| (bt j7).2.1))) (List.range nx) xa bx)) := va_D.part (X := [(x, .inr (10, [.ref (a 0), .int (nI nl), .ref (a 2), .int (nI nb), .ref (a 4), .int (nI np), .ref (a 6), .int (nI nx), .ref (a 8), .ref (a 9), .ref (a 10), .ref (a 11), .ref (a 12), .ref (a 13), .ref (a 14)])), ((a 2), .inl (ca 6, 40, .inr (.inr (.inr (.inr (rA nb (bA0 ba))))))), ((a 4), .inl (ca 7, 600, .inr (.inr (.inr (.inr (rA np pa)))))), ((a 10), .inr (8, [.ref f0, .ref f1, .int (nI rn), .int gl, .int gh, .ref f5, .ref f6])), (f5, .inl (ca 0, 6, .inl lw6)), (f6, .inl (ca 0, 6, .inl hi6))]) hD [0, 1, 2, 3, 4, 5] (by decide) rfl
                exact W.iret (v := 1) hx hb hr (fun t ht hW => ⟨⟨1, ((va_up bt j7 ((upd (upd (bt j7).1 2 (((bt j7).1 2) - v3)) 15 (((bt j7).1 15) + v3)), (bt j7).2.1, (bt j7).2.2.1, (bt j7).2.2.2)), (va_up pc j4 ((upd (upd (upd (pc j4).1 2 (((pc j4).1 2) + v3)) 4 v2) 5 1), ((pc j4).2 ||| (bt j7).2.1)))), rfl, ⟨eqK_up (okG_c ho7) rfl, eqX_up (bt := bt) (j := j7) ⟨rfl, rfl, rfl, rfl, rfl, rfl⟩ (fun _ h9 => absurd c_10 h9), ⟨hq1, hq2, hq3, hq4, (up_all hq5 (hq5 j7 hj7)), (up_all hq6 ⟨cnt_le (cnt_add ((hq6 j4 hj4).2 c_9) (wi_cn (N := 1000) c_12 (by decide) (by decide))) (by decide), fun h9 => absurd (ev7.symm.trans h9) (nI_nm1 (by omega))⟩), hq7⟩⟩, by rw [ht]; dsimp only; exact hP9, by dsimp only; exact hD9⟩, hS.F ht⟩) hS.2.2 dX10_dip_152
            · refine lv_iconst (v := (-1)) hx hb dX10_dip_64 (by decide) ?_
              refine W.widen (k := 0) (n := 0) (Nat.le_of_ble_eq_true rfl) (Nat.le_of_ble_eq_true rfl) ?_
              have hP9 : va_P (dC, dI) vwCl (@HAppend.hAppend va_W va_W va_W _ [(x, .inr (10, [.ref (a 0), .int (nI nl), .ref (a 2), .int (nI nb), .ref (a 4), .int (nI np), .ref (a 6), .int (nI nx), .ref (a 8), .ref (a 9), .ref (a 10), .ref (a 11), .ref (a 12), .ref (a 13), .ref (a 14)])), ((a 2), .inl (ca 6, 40, .inr (.inr (.inr (.inr (rA nb (bA0 ba))))))), ((a 4), .inl (ca 7, 600, .inr (.inr (.inr (.inr (rA np pa)))))), ((a 10), .inr (8, [.ref f0, .ref f1, .int (nI rn), .int gl, .int gh, .ref f5, .ref f6])), (f5, .inl (ca 0, 6, .inl lw6)), (f6, .inl (ca 0, 6, .inl hi6))] (pool ca (List.range nl) la lo (List.range nb) ba bt (List.range np) pa pc (List.range nx) xa bx)) s.heap := va_P.part (X := [(x, .inr (10, [.ref (a 0), .int (nI nl), .ref (a 2), .int (nI nb), .ref (a 4), .int (nI np), .ref (a 6), .int (nI nx), .ref (a 8), .ref (a 9), .ref (a 10), .ref (a 11), .ref (a 12), .ref (a 13), .ref (a 14)])), ((a 2), .inl (ca 6, 40, .inr (.inr (.inr (.inr (rA nb (bA0 ba))))))), ((a 4), .inl (ca 7, 600, .inr (.inr (.inr (.inr (rA np pa)))))), ((a 10), .inr (8, [.ref f0, .ref f1, .int (nI rn), .int gl, .int gh, .ref f5, .ref f6])), (f5, .inl (ca 0, 6, .inl lw6)), (f6, .inl (ca 0, 6, .inl hi6))]) hP [0, 1, 2, 3, 4, 5] rfl
              have hD9 : va_D A (@HAppend.hAppend va_W va_W va_W _ [(x, .inr (10, [.ref (a 0), .int (nI nl), .ref (a 2), .int (nI nb), .ref (a 4), .int (nI np), .ref (a 6), .int (nI nx), .ref (a 8), .ref (a 9), .ref (a 10), .ref (a 11), .ref (a 12), .ref (a 13), .ref (a 14)])), ((a 2), .inl (ca 6, 40, .inr (.inr (.inr (.inr (rA nb (bA0 ba))))))), ((a 4), .inl (ca 7, 600, .inr (.inr (.inr (.inr (rA np pa)))))), ((a 10), .inr (8, [.ref f0, .ref f1, .int (nI rn), .int gl, .int gh, .ref f5, .ref f6])), (f5, .inl (ca 0, 6, .inl lw6)), (f6, .inl (ca 0, 6, .inl hi6))] (pool ca (List.range nl) la lo (List.range nb) ba bt (List.range np) pa pc (List.range nx) xa bx)) := va_D.part (X := [(x, .inr (10, [.ref (a 0), .int (nI nl), .ref (a 2), .int (nI nb), .ref (a 4), .int (nI np), .ref (a 6), .int (nI nx), .ref (a 8), .ref (a 9), .ref (a 10), .ref (a 11), .ref (a 12), .ref (a 13), .ref (a 14)])), ((a 2), .inl (ca 6, 40, .inr (.inr (.inr (.inr (rA nb (bA0 ba))))))), ((a 4), .inl (ca 7, 600, .inr (.inr (.inr (.inr (rA np pa)))))), ((a 10), .inr (8, [.ref f0, .ref f1, .int (nI rn), .int gl, .int gh, .ref f5, .ref f6])), (f5, .inl (ca 0, 6, .inl lw6)), (f6, .inl (ca 0, 6, .inl hi6))]) hD [0, 1, 2, 3, 4, 5] (by decide) rfl
              exact W.iret (v := (-1)) hx hb hr (fun t ht hW => ⟨⟨(-1), (bt, pc), rfl, ⟨eqK_rf _ _, eqX_rf _ _, hQ⟩, by rw [ht]; dsimp only; exact hP9, by dsimp only; exact hD9⟩, hS.F ht⟩) hS.2.2 dX10_dip_65
        · refine lv_iconst (v := (-1)) hx hb dX10_dip_42 (by decide) ?_
          refine W.widen (k := 0) (n := 0) (Nat.le_of_ble_eq_true rfl) (Nat.le_of_ble_eq_true rfl) ?_
          have hP9 : va_P (dC, dI) vwCl (@HAppend.hAppend va_W va_W va_W _ [(x, .inr (10, [.ref (a 0), .int (nI nl), .ref (a 2), .int (nI nb), .ref (a 4), .int (nI np), .ref (a 6), .int (nI nx), .ref (a 8), .ref (a 9), .ref (a 10), .ref (a 11), .ref (a 12), .ref (a 13), .ref (a 14)])), ((a 2), .inl (ca 6, 40, .inr (.inr (.inr (.inr (rA nb (bA0 ba))))))), ((a 4), .inl (ca 7, 600, .inr (.inr (.inr (.inr (rA np pa)))))), ((a 10), .inr (8, [.ref f0, .ref f1, .int (nI rn), .int gl, .int gh, .ref f5, .ref f6])), (f5, .inl (ca 0, 6, .inl lw6)), (f6, .inl (ca 0, 6, .inl hi6))] (pool ca (List.range nl) la lo (List.range nb) ba bt (List.range np) pa pc (List.range nx) xa bx)) s.heap := va_P.part (X := [(x, .inr (10, [.ref (a 0), .int (nI nl), .ref (a 2), .int (nI nb), .ref (a 4), .int (nI np), .ref (a 6), .int (nI nx), .ref (a 8), .ref (a 9), .ref (a 10), .ref (a 11), .ref (a 12), .ref (a 13), .ref (a 14)])), ((a 2), .inl (ca 6, 40, .inr (.inr (.inr (.inr (rA nb (bA0 ba))))))), ((a 4), .inl (ca 7, 600, .inr (.inr (.inr (.inr (rA np pa)))))), ((a 10), .inr (8, [.ref f0, .ref f1, .int (nI rn), .int gl, .int gh, .ref f5, .ref f6])), (f5, .inl (ca 0, 6, .inl lw6)), (f6, .inl (ca 0, 6, .inl hi6))]) hP [0, 1, 2, 3, 4, 5] rfl
          have hD9 : va_D A (@HAppend.hAppend va_W va_W va_W _ [(x, .inr (10, [.ref (a 0), .int (nI nl), .ref (a 2), .int (nI nb), .ref (a 4), .int (nI np), .ref (a 6), .int (nI nx), .ref (a 8), .ref (a 9), .ref (a 10), .ref (a 11), .ref (a 12), .ref (a 13), .ref (a 14)])), ((a 2), .inl (ca 6, 40, .inr (.inr (.inr (.inr (rA nb (bA0 ba))))))), ((a 4), .inl (ca 7, 600, .inr (.inr (.inr (.inr (rA np pa)))))), ((a 10), .inr (8, [.ref f0, .ref f1, .int (nI rn), .int gl, .int gh, .ref f5, .ref f6])), (f5, .inl (ca 0, 6, .inl lw6)), (f6, .inl (ca 0, 6, .inl hi6))] (pool ca (List.range nl) la lo (List.range nb) ba bt (List.range np) pa pc (List.range nx) xa bx)) := va_D.part (X := [(x, .inr (10, [.ref (a 0), .int (nI nl), .ref (a 2), .int (nI nb), .ref (a 4), .int (nI np), .ref (a 6), .int (nI nx), .ref (a 8), .ref (a 9), .ref (a 10), .ref (a 11), .ref (a 12), .ref (a 13), .ref (a 14)])), ((a 2), .inl (ca 6, 40, .inr (.inr (.inr (.inr (rA nb (bA0 ba))))))), ((a 4), .inl (ca 7, 600, .inr (.inr (.inr (.inr (rA np pa)))))), ((a 10), .inr (8, [.ref f0, .ref f1, .int (nI rn), .int gl, .int gh, .ref f5, .ref f6])), (f5, .inl (ca 0, 6, .inl lw6)), (f6, .inl (ca 0, 6, .inl hi6))]) hD [0, 1, 2, 3, 4, 5] (by decide) rfl
          exact W.iret (v := (-1)) hx hb hr (fun t ht hW => ⟨⟨(-1), (bt, pc), rfl, ⟨eqK_rf _ _, eqX_rf _ _, hQ⟩, by rw [ht]; dsimp only; exact hP9, by dsimp only; exact hD9⟩, hS.F ht⟩) hS.2.2 dX10_dip_43

set_option maxHeartbeats 4000000 in
set_option maxRecDepth 100000 in
theorem k_lotsIn (l : Launch) (dC : Nat → ClassId) (dI : Nat → Nat → Nat) (ca : Nat → ClassId) (x : Nat) (a : Nat → Nat) (nl : Nat) (la : Nat → Nat) (lo : Nat → Int32 × Int32) (nb : Nat) (ba : Nat → Nat → Nat) (bt : Nat → BatG) (np : Nat) (pa : Nat → Nat) (pc : Nat → PieG) (nx : Nat) (xa : Nat → Nat → Nat) (bx : Nat → BoxG) (v1 : Int32) (v2 : Int32) (hQ : kI nl lo nb bt np pc nx bx) : Met l yX10_lotsIn (Cond.code yX10_lotsIn cX10_lotsIn 4 (some .long) :: gT) ({ frames := 3, cells := 0, slots := 0, locals := 103 }) (va_Pc [.ref x, .int v1, .int v2] (pu (dC, dI) (@HAppend.hAppend va_W va_W va_W _ [(x, .inr (10, [.ref (a 0), .int (nI nl), .ref (a 2), .int (nI nb), .ref (a 4), .int (nI np), .ref (a 6), .int (nI nx), .ref (a 8), .ref (a 9), .ref (a 10), .ref (a 11), .ref (a 12), .ref (a 13), .ref (a 14)])), ((a 2), .inl (ca 6, 40, .inr (.inr (.inr (.inr (rA nb (bA0 ba))))))), ((a 4), .inl (ca 7, 600, .inr (.inr (.inr (.inr (rA np pa)))))), ((a 6), .inl (ca 8, 200, .inr (.inr (.inr (.inr (rA nx (bA0 xa)))))))] (pool ca (List.range nl) la lo (List.range nb) ba bt (List.range np) pa pc (List.range nx) xa bx)) (aT ca))) (vp_Sl (fun r => True)) 0 0 (fun _ => False) := by
  refine Met.ofW (cc := cX10_lotsIn) (maxL := 4) (ret := (some .long)) (by decide) rfl ?_
  intro p e s m args below meth c s₁ B hml hv
  obtain ⟨rfl, hP, hK, hE⟩ := hv
  have hx := B.exec
  have hb := B.bytes
  have hr := B.returns
  have hts : ∀ w ∈ gT, w.before _ s = true := fun w h => atoms_spec (ws := Cond.code yX10_lotsIn cX10_lotsIn 4 (some .long) :: gT) B.pre w (List.mem_cons_of_mem _ h)
  have hown : s.vm.findClass RX10 = some m.cls := findClass_of_methodNamed B.named
  have hlocks := B.notSynchronized
  have hl := lv_entry ([.ref x, .int v1, .int v2]) (n := 4) (Nat.le_of_ble_eq_true rfl)
  rw [lg_entry_eq]
  generalize (lg_sl ([.ref x, .int v1, .int v2]) ++ List.replicate (4 - (lg_sl ([.ref x, .int v1, .int v2])).length) Slot.unset).toArray = ls at hl ⊢
  have hl : lv_has ls 4 [(0, .ref x), (1, .int v1), (2, .int v2)] := hl
  obtain ⟨hq1, hq2, hq3, hq4, hq5, hq6, hq7⟩ := id hQ
  refine lv_iload_n hx hb dX10_lotsIn_0 rfl (lv_at hl 1 rfl) ?_
  refine lv_if_ne (tgt := 23) hx hb dX10_lotsIn_1 (by decide) (fun c_1 => ?_) (fun c_1 => ?_)
  · refine lv_iload_n hx hb dX10_lotsIn_23 rfl (lv_at hl 1 rfl) ?_
    refine lv_iconst (v := 1) hx hb dX10_lotsIn_24 (by decide) ?_
    refine lv_icmp_ne (tgt := 47) hx hb dX10_lotsIn_25 (by decide) (fun c_2 => ?_) (fun c_2 => ?_)
    · refine lv_aload_n hx hb dX10_lotsIn_47 rfl (lv_at hl 0 rfl) ?_
      refine lv_iload_n hx hb dX10_lotsIn_48 rfl (lv_at hl 2 rfl) ?_
      have hPc := hP.sub (ws' := [(x, .inr (10, [.ref (a 0), .int (nI nl), .ref (a 2), .int (nI nb), .ref (a 4), .int (nI np), .ref (a 6), .int (nI nx), .ref (a 8), .ref (a 9), .ref (a 10), .ref (a 11), .ref (a 12), .ref (a 13), .ref (a 14)])), ((a 6), .inl (ca 8, 200, .inr (.inr (.inr (.inr (rA nx (bA0 xa)))))))]) [0, 3] rfl
      refine pc_q (va_runV (As := [.int v2]) (rest := []) ⟨hx, hb, hml, hown, hts⟩ (k_findBox l dC dI ca x a nl nb np nx xa v2 (by first | assumption | omega | exact ⟨_, by omega, rfl⟩)) (⟨callB_of 1 hts (gd mw_769) rfl rfl rfl (hts _ mw_1) (hts _ mw_766) ds_X10_findBox ⟨Nat.le_of_ble_eq_true rfl, Nat.le_of_ble_eq_true rfl⟩, (hts _ mw_768), (hts _ mp_26)⟩) (pu_V hPc hK hE (va_recv hK hPc (ci := 10) (q0 := 0) rfl rfl)) rfl rfl hl.1 rfl (lv_room (Nat.le_of_ble_eq_true rfl)) dX10_lotsIn_49 ⟨Nat.le_of_ble_eq_true rfl, Nat.le_of_ble_eq_true rfl⟩) (fun rv_3 hw_ => ?_)
      have hw_3 := hw_
      refine lq_astore_n (lv' := [(3, va_rf rv_3), (0, .ref x), (1, .int v1), (2, .int v2)]) hx hb dX10_lotsIn_52 rfl hl (by decide) rfl (fun ls hl => ?_)
      refine lq_aload_n hx hb dX10_lotsIn_53 rfl (lv_at hl 0 rfl) ?_
      cases rv_3 with
      | none =>
        have hl : lv_has ls 4 [(3, .null), (0, .ref x), (1, .int v1), (2, .int v2)] := hl
        refine W.eq (g2 := F0 m 54 ls [.null]) rfl ?_
        refine lv_ifnonnullN hx hb dX10_lotsIn_54 ?_
        refine lv_lconst (v := 0) hx hb dX10_lotsIn_57 (by decide) ?_
        refine lv_goto (tgt := 65) hx hb dX10_lotsIn_58 (by decide) ?_
        exact W.lret (v := 0) hx hb hr (fun t ht hW => ⟨0, rfl, trivial, ht⟩) (fun q h => absurd h List.not_mem_nil) dX10_lotsIn_65
      | some b4 =>
        have hl : lv_has ls 4 [(3, .ref b4), (0, .ref x), (1, .int v1), (2, .int v2)] := hl
        refine W.eq (g2 := F0 m 54 ls [.ref b4]) rfl ?_
        refine lv_ifnonnull (tgt := 61) hx hb dX10_lotsIn_54 (by decide) ?_
        obtain ⟨j5, hj5, ev5, e9⟩ := fnd_some (by omega) hw_3
        have e9 : b4 = (xa j5 0) := e9
        subst e9
        have hl : lv_has ls 4 [(3, .ref (xa j5 0)), (0, .ref x), (1, .int v1), (2, .int v2)] := hl
        have hPr6 := box_P hP (rg_in hj5)
        refine lv_aload_n hx hb dX10_lotsIn_61 rfl (lv_at hl 0 rfl) ?_
        refine va_get (D := (dC, dI)) (ci := 1) (v := .long ((bx j5).2.1)) (C := RX1) (T := TX1) (N := 6) hx hb hts inX1 hown hK hPr6 0 rfl rfl 4 (by decide) (hts _ mw_697) (fun _ h9 => h9) rfl dX10_lotsIn_62 ?_
        exact W.lret (v := (bx j5).2.1) hx hb hr (fun t ht hW => ⟨(bx j5).2.1, rfl, trivial, ht⟩) (fun q h => absurd h List.not_mem_nil) dX10_lotsIn_65
    · refine lv_aload_n hx hb dX10_lotsIn_28 rfl (lv_at hl 0 rfl) ?_
      refine lv_iload_n hx hb dX10_lotsIn_29 rfl (lv_at hl 2 rfl) ?_
      have hPc := hP.sub (ws' := [(x, .inr (10, [.ref (a 0), .int (nI nl), .ref (a 2), .int (nI nb), .ref (a 4), .int (nI np), .ref (a 6), .int (nI nx), .ref (a 8), .ref (a 9), .ref (a 10), .ref (a 11), .ref (a 12), .ref (a 13), .ref (a 14)])), ((a 4), .inl (ca 7, 600, .inr (.inr (.inr (.inr (rA np pa))))))]) [0, 2] rfl
      refine pc_q (va_runV (As := [.int v2]) (rest := []) ⟨hx, hb, hml, hown, hts⟩ (k_findPiece l dC dI ca x a nl nb np nx pa v2 (by first | assumption | omega | exact ⟨_, by omega, rfl⟩)) (⟨callB_of 1 hts (gd mw_596) rfl rfl rfl (hts _ mw_1) (hts _ mw_593) ds_X10_findPiece ⟨Nat.le_of_ble_eq_true rfl, Nat.le_of_ble_eq_true rfl⟩, (hts _ mw_595), (hts _ mp_10)⟩) (pu_V hPc hK hE (va_recv hK hPc (ci := 10) (q0 := 0) rfl rfl)) rfl rfl hl.1 rfl (lv_room (Nat.le_of_ble_eq_true rfl)) dX10_lotsIn_30 ⟨Nat.le_of_ble_eq_true rfl, Nat.le_of_ble_eq_true rfl⟩) (fun rv_7 hw_ => ?_)
      have hw_7 := hw_
      refine lq_astore_n (lv' := [(3, va_rf rv_7), (0, .ref x), (1, .int v1), (2, .int v2)]) hx hb dX10_lotsIn_33 rfl hl (by decide) rfl (fun ls hl => ?_)
      refine lq_aload_n hx hb dX10_lotsIn_34 rfl (lv_at hl 0 rfl) ?_
      cases rv_7 with
      | none =>
        have hl : lv_has ls 4 [(3, .null), (0, .ref x), (1, .int v1), (2, .int v2)] := hl
        refine W.eq (g2 := F0 m 35 ls [.null]) rfl ?_
        refine lv_ifnonnullN hx hb dX10_lotsIn_35 ?_
        refine lv_lconst (v := 0) hx hb dX10_lotsIn_38 (by decide) ?_
        refine lv_goto (tgt := 46) hx hb dX10_lotsIn_39 (by decide) ?_
        exact W.lret (v := 0) hx hb hr (fun t ht hW => ⟨0, rfl, trivial, ht⟩) (fun q h => absurd h List.not_mem_nil) dX10_lotsIn_46
      | some b8 =>
        have hl : lv_has ls 4 [(3, .ref b8), (0, .ref x), (1, .int v1), (2, .int v2)] := hl
        refine W.eq (g2 := F0 m 35 ls [.ref b8]) rfl ?_
        refine lv_ifnonnull (tgt := 42) hx hb dX10_lotsIn_35 (by decide) ?_
        obtain ⟨j9, hj9, ev9, e9⟩ := fnd_some (by omega) hw_7
        have e9 : b8 = (pa j9) := e9
        subst e9
        have hl : lv_has ls 4 [(3, .ref (pa j9)), (0, .ref x), (1, .int v1), (2, .int v2)] := hl
        have hPr10 := pie_P hP (rg_in hj9)
        refine lv_aload_n hx hb dX10_lotsIn_42 rfl (lv_at hl 0 rfl) ?_
        refine va_get (D := (dC, dI)) (ci := 6) (v := .long ((pc j9).2)) (C := RX6) (T := TX6) (N := 9) hx hb hts inX6 hown hK hPr10 0 rfl rfl 3 (by decide) (hts _ mw_555) (fun _ h9 => h9) rfl dX10_lotsIn_43 ?_
        exact W.lret (v := (pc j9).2) hx hb hr (fun t ht hW => ⟨(pc j9).2, rfl, trivial, ht⟩) (fun q h => absurd h List.not_mem_nil) dX10_lotsIn_46
  · refine lv_aload_n hx hb dX10_lotsIn_4 rfl (lv_at hl 0 rfl) ?_
    refine lv_iload_n hx hb dX10_lotsIn_5 rfl (lv_at hl 2 rfl) ?_
    have hPc := hP.sub (ws' := [(x, .inr (10, [.ref (a 0), .int (nI nl), .ref (a 2), .int (nI nb), .ref (a 4), .int (nI np), .ref (a 6), .int (nI nx), .ref (a 8), .ref (a 9), .ref (a 10), .ref (a 11), .ref (a 12), .ref (a 13), .ref (a 14)])), ((a 2), .inl (ca 6, 40, .inr (.inr (.inr (.inr (rA nb (bA0 ba)))))))]) [0, 1] rfl
    refine pc_q (va_runV (As := [.int v2]) (rest := []) ⟨hx, hb, hml, hown, hts⟩ (k_findBatch l dC dI ca x a nl nb np nx ba v2 (by first | assumption | omega | exact ⟨_, by omega, rfl⟩)) (⟨callB_of 1 hts (gd mw_378) rfl rfl rfl (hts _ mw_1) (hts _ mw_375) ds_X10_findBatch ⟨Nat.le_of_ble_eq_true rfl, Nat.le_of_ble_eq_true rfl⟩, (hts _ mw_377), (hts _ mp_1)⟩) (pu_V hPc hK hE (va_recv hK hPc (ci := 10) (q0 := 0) rfl rfl)) rfl rfl hl.1 rfl (lv_room (Nat.le_of_ble_eq_true rfl)) dX10_lotsIn_6 ⟨Nat.le_of_ble_eq_true rfl, Nat.le_of_ble_eq_true rfl⟩) (fun rv_11 hw_ => ?_)
    have hw_11 := hw_
    refine lq_astore_n (lv' := [(3, va_rf rv_11), (0, .ref x), (1, .int v1), (2, .int v2)]) hx hb dX10_lotsIn_9 rfl hl (by decide) rfl (fun ls hl => ?_)
    refine lq_aload_n hx hb dX10_lotsIn_10 rfl (lv_at hl 0 rfl) ?_
    cases rv_11 with
    | none =>
      have hl : lv_has ls 4 [(3, .null), (0, .ref x), (1, .int v1), (2, .int v2)] := hl
      refine W.eq (g2 := F0 m 11 ls [.null]) rfl ?_
      refine lv_ifnonnullN hx hb dX10_lotsIn_11 ?_
      refine lv_lconst (v := 0) hx hb dX10_lotsIn_14 (by decide) ?_
      refine lv_goto (tgt := 22) hx hb dX10_lotsIn_15 (by decide) ?_
      exact W.lret (v := 0) hx hb hr (fun t ht hW => ⟨0, rfl, trivial, ht⟩) (fun q h => absurd h List.not_mem_nil) dX10_lotsIn_22
    | some b12 =>
      have hl : lv_has ls 4 [(3, .ref b12), (0, .ref x), (1, .int v1), (2, .int v2)] := hl
      refine W.eq (g2 := F0 m 11 ls [.ref b12]) rfl ?_
      refine lv_ifnonnull (tgt := 18) hx hb dX10_lotsIn_11 (by decide) ?_
      obtain ⟨j13, hj13, ev13, e9⟩ := fnd_some (by omega) hw_11
      have e9 : b12 = (ba j13 0) := e9
      subst e9
      have hl : lv_has ls 4 [(3, .ref (ba j13 0)), (0, .ref x), (1, .int v1), (2, .int v2)] := hl
      have hPr14 := bat_P hP (rg_in hj13)
      refine lv_aload_n hx hb dX10_lotsIn_18 rfl (lv_at hl 0 rfl) ?_
      refine va_get (D := (dC, dI)) (ci := 0) (v := .long ((bt j13).2.1)) (C := RX0) (T := TX0) (N := 16) hx hb hts inX0 hown hK hPr14 0 rfl rfl 4 (by decide) (hts _ mw_314) (fun _ h9 => h9) rfl dX10_lotsIn_19 ?_
      exact W.lret (v := (bt j13).2.1) hx hb hr (fun t ht hW => ⟨(bt j13).2.1, rfl, trivial, ht⟩) (fun q h => absurd h List.not_mem_nil) dX10_lotsIn_22

set_option maxHeartbeats 4000000 in
set_option maxRecDepth 100000 in
theorem k_recall (l : Launch) (dC : Nat → ClassId) (dI : Nat → Nat → Nat) (ca : Nat → ClassId) (x : Nat) (a : Nat → Nat) (nl : Nat) (la : Nat → Nat) (lo : Nat → Int32 × Int32) (nb : Nat) (ba : Nat → Nat → Nat) (bt : Nat → BatG) (np : Nat) (pa : Nat → Nat) (pc : Nat → PieG) (nx : Nat) (xa : Nat → Nat → Nat) (bx : Nat → BoxG) (v1 : Int32) (v2 : Int32) (v3 : Int32) (hQ : kI nl lo nb bt np pc nx bx) : Met l yX10_recall (Cond.code yX10_recall cX10_recall 7 (some .int) :: gT) ({ frames := 4, cells := 0, slots := 0, locals := 126 }) (va_Pc [.ref x, .int v1, .int v2, .int v3] (pu (dC, dI) (@HAppend.hAppend va_W va_W va_W _ [(x, .inr (10, [.ref (a 0), .int (nI nl), .ref (a 2), .int (nI nb), .ref (a 4), .int (nI np), .ref (a 6), .int (nI nx), .ref (a 8), .ref (a 9), .ref (a 10), .ref (a 11), .ref (a 12), .ref (a 13), .ref (a 14)])), ((a 0), .inl (ca 5, 40, .inr (.inr (.inr (.inr (rA nl la)))))), ((a 2), .inl (ca 6, 40, .inr (.inr (.inr (.inr (rA nb (bA0 ba))))))), ((a 4), .inl (ca 7, 600, .inr (.inr (.inr (.inr (rA np pa)))))), ((a 6), .inl (ca 8, 200, .inr (.inr (.inr (.inr (rA nx (bA0 xa)))))))] (pool ca (List.range nl) la lo (List.range nb) ba bt (List.range np) pa pc (List.range nx) xa bx)) (aT ca))) (vp_Si (fun r => True)) 0 0 (fun _ => False) := by
  refine Met.ofW (cc := cX10_recall) (maxL := 7) (ret := (some .int)) (by decide) rfl ?_
  intro p e s m args below meth c s₁ B hml hv
  obtain ⟨rfl, hP, hK, hE⟩ := hv
  have hx := B.exec
  have hb := B.bytes
  have hr := B.returns
  have hts : ∀ w ∈ gT, w.before _ s = true := fun w h => atoms_spec (ws := Cond.code yX10_recall cX10_recall 7 (some .int) :: gT) B.pre w (List.mem_cons_of_mem _ h)
  have hown : s.vm.findClass RX10 = some m.cls := findClass_of_methodNamed B.named
  have hlocks := B.notSynchronized
  have hl := lv_entry ([.ref x, .int v1, .int v2, .int v3]) (n := 7) (Nat.le_of_ble_eq_true rfl)
  rw [lg_entry_eq]
  generalize (lg_sl ([.ref x, .int v1, .int v2, .int v3]) ++ List.replicate (7 - (lg_sl ([.ref x, .int v1, .int v2, .int v3])).length) Slot.unset).toArray = ls at hl ⊢
  have hl : lv_has ls 7 [(0, .ref x), (1, .int v1), (2, .int v2), (3, .int v3)] := hl
  obtain ⟨hq1, hq2, hq3, hq4, hq5, hq6, hq7⟩ := id hQ
  refine lv_aload_n hx hb dX10_recall_0 rfl (lv_at hl 0 rfl) ?_
  refine lv_iload_n hx hb dX10_recall_1 rfl (lv_at hl 1 rfl) ?_
  have hPc := hP.sub (ws' := [(x, .inr (10, [.ref (a 0), .int (nI nl), .ref (a 2), .int (nI nb), .ref (a 4), .int (nI np), .ref (a 6), .int (nI nx), .ref (a 8), .ref (a 9), .ref (a 10), .ref (a 11), .ref (a 12), .ref (a 13), .ref (a 14)])), ((a 0), .inl (ca 5, 40, .inr (.inr (.inr (.inr (rA nl la))))))]) [0, 1] rfl
  refine pc_q (va_runV (As := [.int v1]) (rest := []) ⟨hx, hb, hml, hown, hts⟩ (k_findLot l dC dI ca x a nl nb np nx la v1 (by first | assumption | omega | exact ⟨_, by omega, rfl⟩)) (⟨callB_of 1 hts (gd mw_382) rfl rfl rfl (hts _ mw_1) (hts _ mw_379) ds_X10_findLot ⟨Nat.le_of_ble_eq_true rfl, Nat.le_of_ble_eq_true rfl⟩, (hts _ mw_381), (hts _ mp_2)⟩) (pu_V hPc hK hE (va_recv hK hPc (ci := 10) (q0 := 0) rfl rfl)) rfl rfl hl.1 rfl (lv_room (Nat.le_of_ble_eq_true rfl)) dX10_recall_2 ⟨Nat.le_of_ble_eq_true rfl, Nat.le_of_ble_eq_true rfl⟩) (fun rv_1 hw_ => ?_)
  have hw_1 := hw_
  cases rv_1 with
  | none =>
    have hl : lv_has ls 7 [(0, .ref x), (1, .int v1), (2, .int v2), (3, .int v3)] := hl
    refine W.eq (g2 := F0 m 5 ls [.null]) rfl ?_
    refine lv_ifnullN (tgt := 17) hx hb dX10_recall_5 (by decide) ?_
    refine lv_iconst (v := (-1)) hx hb dX10_recall_17 (by decide) ?_
    exact W.iret (v := (-1)) hx hb hr (fun t ht hW => ⟨(-1), rfl, trivial, ht⟩) (fun q h => absurd h List.not_mem_nil) dX10_recall_18
  | some b2 =>
    have hl : lv_has ls 7 [(0, .ref x), (1, .int v1), (2, .int v2), (3, .int v3)] := hl
    refine W.eq (g2 := F0 m 5 ls [.ref b2]) rfl ?_
    refine lv_ifnull hx hb dX10_recall_5 ?_
    obtain ⟨j3, hj3, ev3, e9⟩ := fnd_some (by omega) hw_1
    have e9 : b2 = (la j3) := e9
    subst e9
    have hl : lv_has ls 7 [(0, .ref x), (1, .int v1), (2, .int v2), (3, .int v3)] := hl
    have hPr4 := lot_P hP (rg_in hj3)
    refine lv_iload_n hx hb dX10_recall_8 rfl (lv_at hl 2 rfl) ?_
    refine lv_iconst (v := 0) hx hb dX10_recall_9 (by decide) ?_
    refine lv_iconst (v := 2) hx hb dX10_recall_10 (by decide) ?_
    have hPc := hP.sub (ws' := []) [] rfl
    refine pc_i (va_runS (As := [.int v2, .int 0, .int 2]) (rest := []) ⟨hx, hb, hml, hown, hts⟩ (c_within l dC dI ca v2 0 2 ) (⟨callB_of 3 hts (gd mw_254) rfl rfl rfl (hts _ mw_1) (hts _ mw_252) ds_X10_within ⟨Nat.le_of_ble_eq_true rfl, Nat.le_of_ble_eq_true rfl⟩, (hts _ mw_253)⟩) (pu_S hPc hK hE) rfl rfl hl.1 rfl (lv_room (Nat.le_of_ble_eq_true rfl)) dX10_recall_11 ⟨Nat.le_of_ble_eq_true rfl, Nat.le_of_ble_eq_true rfl⟩) (fun rv_5 hw_ => ?_)
    obtain rfl : rv_5 = (wi v2 0 2) := hw_
    refine lv_if_ne (tgt := 19) hx hb dX10_recall_14 (by decide) (fun c_6 => ?_) (fun c_6 => ?_)
    · refine lv_iload_n hx hb dX10_recall_19 rfl (lv_at hl 2 rfl) ?_
      refine lv_if_ne (tgt := 30) hx hb dX10_recall_20 (by decide) (fun c_7 => ?_) (fun c_7 => ?_)
      · refine lv_iload_n hx hb dX10_recall_30 rfl (lv_at hl 2 rfl) ?_
        refine lv_iconst (v := 1) hx hb dX10_recall_31 (by decide) ?_
        refine lv_icmp_ne (tgt := 42) hx hb dX10_recall_32 (by decide) (fun c_8 => ?_) (fun c_8 => ?_)
        · refine lv_aload_n hx hb dX10_recall_42 rfl (lv_at hl 0 rfl) ?_
          refine va_get (D := (dC, dI)) (ci := 10) (v := .int (nI nx)) (C := RX10) (T := TX10) (N := 15) hx hb hts inX10 hown hK hP 0 rfl rfl 7 (by decide) (hts _ mw_208) (fun _ h9 => h9) rfl dX10_recall_43 ?_
          refine lv_istore (lv' := [(4, .int (nI nx)), (0, .ref x), (1, .int v1), (2, .int v2), (3, .int v3)]) hx hb dX10_recall_46 hl (by decide) rfl (fun ls hl => ?_)
          refine lv_iconst (v := 0) hx hb dX10_recall_48 (by decide) ?_
          refine lv_istore (lv' := [(5, .int 0), (4, .int (nI nx)), (0, .ref x), (1, .int v1), (2, .int v2), (3, .int v3)]) hx hb dX10_recall_49 hl (by decide) rfl (fun ls hl => ?_)
          refine lv_iconst (v := 0) hx hb dX10_recall_51 (by decide) ?_
          refine lv_istore (lv' := [(6, .int 0), (5, .int 0), (4, .int (nI nx)), (0, .ref x), (1, .int v1), (2, .int v2), (3, .int v3)]) hx hb dX10_recall_52 hl (by decide) rfl (fun ls hl => ?_)
          refine wl_loop (fun (z_ : Nat × Int32) H locs ls => (z_.1 ≤ 600) ∧ H = s.heap ∧ locs = [] ∧ lv_has ls 7 [(6, .int (nI z_.1)), (5, .int z_.2), (4, .int (nI nx)), (0, .ref x), (1, .int v1), (2, .int v2), (3, .int v3)]) (fun (z_ : Nat × Int32) => 600 - z_.1) (fun z_ H locs ls hI ih => ?_) (0, 0) ⟨(Nat.zero_le _), rfl, rfl, lv_sub hl [0, 1, 2, 3, 4, 5, 6] rfl⟩
          obtain ⟨i, sn⟩ := z_
          dsimp only at hI ih
          obtain ⟨hi, rfl, rfl, hl⟩ := hI
          refine lv_iload hx hb dX10_recall_54 (lv_at hl 0 rfl) ?_
          refine lv_iload hx hb dX10_recall_56 (lv_at hl 2 rfl) ?_
          refine lv_icmp_ge (tgt := 95) hx hb dX10_recall_58 (by decide) (fun c_9 => ?_) (fun c_9 => ?_)
          · have nc_9 : nx ≤ i := (nI_leI (a := nx) (b := i) (by omega) (by omega)).mp c_9
            refine lv_iconst (v := (-1)) hx hb dX10_recall_95 (by decide) ?_
            exact W.iret (v := (-1)) hx hb hr (fun t ht hW => ⟨(-1), rfl, trivial, ht⟩) (fun q h => absurd h List.not_mem_nil) dX10_recall_96
          · have nc_9 : ¬ (nx ≤ i) := fun h9 => c_9 ((nI_leI (a := nx) (b := i) (by omega) (by omega)).mpr h9)
            refine lv_aload_n hx hb dX10_recall_61 rfl (lv_at hl 3 rfl) ?_
            refine lv_iload_n hx hb dX10_recall_62 rfl (lv_at hl 5 rfl) ?_
            refine lv_iload hx hb dX10_recall_63 (lv_at hl 0 rfl) ?_
            have hPc := hP.part (X := [(x, .inr (10, [.ref (a 0), .int (nI nl), .ref (a 2), .int (nI nb), .ref (a 4), .int (nI np), .ref (a 6), .int (nI nx), .ref (a 8), .ref (a 9), .ref (a 10), .ref (a 11), .ref (a 12), .ref (a 13), .ref (a 14)])), ((a 0), .inl (ca 5, 40, .inr (.inr (.inr (.inr (rA nl la)))))), ((a 2), .inl (ca 6, 40, .inr (.inr (.inr (.inr (rA nb (bA0 ba))))))), ((a 4), .inl (ca 7, 600, .inr (.inr (.inr (.inr (rA np pa)))))), ((a 6), .inl (ca 8, 200, .inr (.inr (.inr (.inr (rA nx (bA0 xa)))))))]) (cx := [(x, .inr (10, [.ref (a 0), .int (nI nl), .ref (a 2), .int (nI nb), .ref (a 4), .int (nI np), .ref (a 6), .int (nI nx), .ref (a 8), .ref (a 9), .ref (a 10), .ref (a 11), .ref (a 12), .ref (a 13), .ref (a 14)])), ((a 2), .inl (ca 6, 40, .inr (.inr (.inr (.inr (rA nb (bA0 ba))))))), ((a 4), .inl (ca 7, 600, .inr (.inr (.inr (.inr (rA np pa)))))), ((a 6), .inl (ca 8, 200, .inr (.inr (.inr (.inr (rA nx (bA0 xa)))))))]) [0, 2, 3, 4] rfl
            refine pc_l (va_runV (As := [.int v2, .int (nI i)]) (rest := []) ⟨hx, hb, hml, hown, hts⟩ (k_lotsIn l dC dI ca x a nl la lo nb ba bt np pa pc nx xa bx v2 (nI i) (by first | assumption | omega | exact ⟨_, by omega, rfl⟩)) (⟨callB_of 2 hts (gd mw_860) rfl rfl rfl (hts _ mw_1) (hts _ mw_857) ds_X10_lotsIn ⟨Nat.le_of_ble_eq_true rfl, Nat.le_of_ble_eq_true rfl⟩, (hts _ mw_859), (hts _ mp_37)⟩) (pu_V hPc hK hE (va_recv hK hPc (ci := 10) (q0 := 0) rfl rfl)) rfl rfl hl.1 rfl (lv_room (Nat.le_of_ble_eq_true rfl)) dX10_recall_65 ⟨Nat.le_of_ble_eq_true rfl, Nat.le_of_ble_eq_true rfl⟩) (fun rv_10 hw_ => ?_)
            have hw_10 := hw_
            refine lv_iload_n hx hb dX10_recall_68 rfl (lv_at hl 4 rfl) ?_
            refine lv_lshr (v := ((rv_10 : Int64) >>> ((v1 : Int32).toInt64 &&& 63))) hx hb dX10_recall_69 rfl ?_
            refine lv_lconst (v := 1) hx hb dX10_recall_70 (by decide) ?_
            refine lv_land hx hb dX10_recall_71 ?_
            refine lv_lconst (v := 0) hx hb dX10_recall_72 (by decide) ?_
            refine W.lcmp hx hb dX10_recall_73 ?_
            refine lv_if_eq (tgt := 89) hx hb dX10_recall_74 (by decide) (fun c_11 => ?_) (fun c_11 => ?_)
            · refine lv_iinc (v := (nI (i + 1))) (lv' := [(6, .int (nI (i + 1))), (5, .int sn), (4, .int (nI nx)), (0, .ref x), (1, .int v1), (2, .int v2), (3, .int v3)]) hx hb dX10_recall_89 hl (k := 0) rfl (nI_add (i) 1) (by decide) rfl (fun ls hl => ?_)
              refine lv_goto (tgt := 54) hx hb dX10_recall_92 (by decide) ?_
              exact ih (i + 1, sn) _ _ _ (by omega) ⟨(by omega), rfl, rfl, lv_sub hl [0, 1, 2, 3, 4, 5, 6] rfl⟩
            · refine lv_iload hx hb dX10_recall_77 (lv_at hl 1 rfl) ?_
              refine lv_iload_n hx hb dX10_recall_79 rfl (lv_at hl 6 rfl) ?_
              refine lv_icmp_ne (tgt := 86) hx hb dX10_recall_80 (by decide) (fun c_12 => ?_) (fun c_12 => ?_)
              · refine lv_iinc (v := (sn + 1)) (lv' := [(5, .int (sn + 1)), (6, .int (nI i)), (4, .int (nI nx)), (0, .ref x), (1, .int v1), (2, .int v2), (3, .int v3)]) hx hb dX10_recall_86 hl (k := 1) rfl rfl (by decide) rfl (fun ls hl => ?_)
                refine lv_iinc (v := (nI (i + 1))) (lv' := [(6, .int (nI (i + 1))), (5, .int (sn + 1)), (4, .int (nI nx)), (0, .ref x), (1, .int v1), (2, .int v2), (3, .int v3)]) hx hb dX10_recall_89 hl (k := 1) rfl (nI_add (i) 1) (by decide) rfl (fun ls hl => ?_)
                refine lv_goto (tgt := 54) hx hb dX10_recall_92 (by decide) ?_
                exact ih (i + 1, (sn + 1)) _ _ _ (by omega) ⟨(by omega), rfl, rfl, lv_sub hl [0, 1, 2, 3, 4, 5, 6] rfl⟩
              · refine lv_iload hx hb dX10_recall_83 (lv_at hl 0 rfl) ?_
                exact W.iret (v := (nI i)) hx hb hr (fun t ht hW => ⟨(nI i), rfl, trivial, ht⟩) (fun q h => absurd h List.not_mem_nil) dX10_recall_85
        · refine lv_aload_n hx hb dX10_recall_35 rfl (lv_at hl 0 rfl) ?_
          refine va_get (D := (dC, dI)) (ci := 10) (v := .int (nI np)) (C := RX10) (T := TX10) (N := 15) hx hb hts inX10 hown hK hP 0 rfl rfl 5 (by decide) (hts _ mw_206) (fun _ h9 => h9) rfl dX10_recall_36 ?_
          refine lv_goto (tgt := 46) hx hb dX10_recall_39 (by decide) ?_
          refine lv_istore (lv' := [(4, .int (nI np)), (0, .ref x), (1, .int v1), (2, .int v2), (3, .int v3)]) hx hb dX10_recall_46 hl (by decide) rfl (fun ls hl => ?_)
          refine lv_iconst (v := 0) hx hb dX10_recall_48 (by decide) ?_
          refine lv_istore (lv' := [(5, .int 0), (4, .int (nI np)), (0, .ref x), (1, .int v1), (2, .int v2), (3, .int v3)]) hx hb dX10_recall_49 hl (by decide) rfl (fun ls hl => ?_)
          refine lv_iconst (v := 0) hx hb dX10_recall_51 (by decide) ?_
          refine lv_istore (lv' := [(6, .int 0), (5, .int 0), (4, .int (nI np)), (0, .ref x), (1, .int v1), (2, .int v2), (3, .int v3)]) hx hb dX10_recall_52 hl (by decide) rfl (fun ls hl => ?_)
          refine wl_loop (fun (z_ : Nat × Int32) H locs ls => (z_.1 ≤ 600) ∧ H = s.heap ∧ locs = [] ∧ lv_has ls 7 [(6, .int (nI z_.1)), (5, .int z_.2), (4, .int (nI np)), (0, .ref x), (1, .int v1), (2, .int v2), (3, .int v3)]) (fun (z_ : Nat × Int32) => 600 - z_.1) (fun z_ H locs ls hI ih => ?_) (0, 0) ⟨(Nat.zero_le _), rfl, rfl, lv_sub hl [0, 1, 2, 3, 4, 5, 6] rfl⟩
          obtain ⟨i, sn⟩ := z_
          dsimp only at hI ih
          obtain ⟨hi, rfl, rfl, hl⟩ := hI
          refine lv_iload hx hb dX10_recall_54 (lv_at hl 0 rfl) ?_
          refine lv_iload hx hb dX10_recall_56 (lv_at hl 2 rfl) ?_
          refine lv_icmp_ge (tgt := 95) hx hb dX10_recall_58 (by decide) (fun c_13 => ?_) (fun c_13 => ?_)
          · have nc_13 : np ≤ i := (nI_leI (a := np) (b := i) (by omega) (by omega)).mp c_13
            refine lv_iconst (v := (-1)) hx hb dX10_recall_95 (by decide) ?_
            exact W.iret (v := (-1)) hx hb hr (fun t ht hW => ⟨(-1), rfl, trivial, ht⟩) (fun q h => absurd h List.not_mem_nil) dX10_recall_96
          · have nc_13 : ¬ (np ≤ i) := fun h9 => c_13 ((nI_leI (a := np) (b := i) (by omega) (by omega)).mpr h9)
            refine lv_aload_n hx hb dX10_recall_61 rfl (lv_at hl 3 rfl) ?_
            refine lv_iload_n hx hb dX10_recall_62 rfl (lv_at hl 5 rfl) ?_
            refine lv_iload hx hb dX10_recall_63 (lv_at hl 0 rfl) ?_
            have hPc := hP.part (X := [(x, .inr (10, [.ref (a 0), .int (nI nl), .ref (a 2), .int (nI nb), .ref (a 4), .int (nI np), .ref (a 6), .int (nI nx), .ref (a 8), .ref (a 9), .ref (a 10), .ref (a 11), .ref (a 12), .ref (a 13), .ref (a 14)])), ((a 0), .inl (ca 5, 40, .inr (.inr (.inr (.inr (rA nl la)))))), ((a 2), .inl (ca 6, 40, .inr (.inr (.inr (.inr (rA nb (bA0 ba))))))), ((a 4), .inl (ca 7, 600, .inr (.inr (.inr (.inr (rA np pa)))))), ((a 6), .inl (ca 8, 200, .inr (.inr (.inr (.inr (rA nx (bA0 xa)))))))]) (cx := [(x, .inr (10, [.ref (a 0), .int (nI nl), .ref (a 2), .int (nI nb), .ref (a 4), .int (nI np), .ref (a 6), .int (nI nx), .ref (a 8), .ref (a 9), .ref (a 10), .ref (a 11), .ref (a 12), .ref (a 13), .ref (a 14)])), ((a 2), .inl (ca 6, 40, .inr (.inr (.inr (.inr (rA nb (bA0 ba))))))), ((a 4), .inl (ca 7, 600, .inr (.inr (.inr (.inr (rA np pa)))))), ((a 6), .inl (ca 8, 200, .inr (.inr (.inr (.inr (rA nx (bA0 xa)))))))]) [0, 2, 3, 4] rfl
            refine pc_l (va_runV (As := [.int v2, .int (nI i)]) (rest := []) ⟨hx, hb, hml, hown, hts⟩ (k_lotsIn l dC dI ca x a nl la lo nb ba bt np pa pc nx xa bx v2 (nI i) (by first | assumption | omega | exact ⟨_, by omega, rfl⟩)) (⟨callB_of 2 hts (gd mw_860) rfl rfl rfl (hts _ mw_1) (hts _ mw_857) ds_X10_lotsIn ⟨Nat.le_of_ble_eq_true rfl, Nat.le_of_ble_eq_true rfl⟩, (hts _ mw_859), (hts _ mp_37)⟩) (pu_V hPc hK hE (va_recv hK hPc (ci := 10) (q0 := 0) rfl rfl)) rfl rfl hl.1 rfl (lv_room (Nat.le_of_ble_eq_true rfl)) dX10_recall_65 ⟨Nat.le_of_ble_eq_true rfl, Nat.le_of_ble_eq_true rfl⟩) (fun rv_14 hw_ => ?_)
            have hw_14 := hw_
            refine lv_iload_n hx hb dX10_recall_68 rfl (lv_at hl 4 rfl) ?_
            refine lv_lshr (v := ((rv_14 : Int64) >>> ((v1 : Int32).toInt64 &&& 63))) hx hb dX10_recall_69 rfl ?_
            refine lv_lconst (v := 1) hx hb dX10_recall_70 (by decide) ?_
            refine lv_land hx hb dX10_recall_71 ?_
            refine lv_lconst (v := 0) hx hb dX10_recall_72 (by decide) ?_
            refine W.lcmp hx hb dX10_recall_73 ?_
            refine lv_if_eq (tgt := 89) hx hb dX10_recall_74 (by decide) (fun c_15 => ?_) (fun c_15 => ?_)
            · refine lv_iinc (v := (nI (i + 1))) (lv' := [(6, .int (nI (i + 1))), (5, .int sn), (4, .int (nI np)), (0, .ref x), (1, .int v1), (2, .int v2), (3, .int v3)]) hx hb dX10_recall_89 hl (k := 0) rfl (nI_add (i) 1) (by decide) rfl (fun ls hl => ?_)
              refine lv_goto (tgt := 54) hx hb dX10_recall_92 (by decide) ?_
              exact ih (i + 1, sn) _ _ _ (by omega) ⟨(by omega), rfl, rfl, lv_sub hl [0, 1, 2, 3, 4, 5, 6] rfl⟩
            · refine lv_iload hx hb dX10_recall_77 (lv_at hl 1 rfl) ?_
              refine lv_iload_n hx hb dX10_recall_79 rfl (lv_at hl 6 rfl) ?_
              refine lv_icmp_ne (tgt := 86) hx hb dX10_recall_80 (by decide) (fun c_16 => ?_) (fun c_16 => ?_)
              · refine lv_iinc (v := (sn + 1)) (lv' := [(5, .int (sn + 1)), (6, .int (nI i)), (4, .int (nI np)), (0, .ref x), (1, .int v1), (2, .int v2), (3, .int v3)]) hx hb dX10_recall_86 hl (k := 1) rfl rfl (by decide) rfl (fun ls hl => ?_)
                refine lv_iinc (v := (nI (i + 1))) (lv' := [(6, .int (nI (i + 1))), (5, .int (sn + 1)), (4, .int (nI np)), (0, .ref x), (1, .int v1), (2, .int v2), (3, .int v3)]) hx hb dX10_recall_89 hl (k := 1) rfl (nI_add (i) 1) (by decide) rfl (fun ls hl => ?_)
                refine lv_goto (tgt := 54) hx hb dX10_recall_92 (by decide) ?_
                exact ih (i + 1, (sn + 1)) _ _ _ (by omega) ⟨(by omega), rfl, rfl, lv_sub hl [0, 1, 2, 3, 4, 5, 6] rfl⟩
              · refine lv_iload hx hb dX10_recall_83 (lv_at hl 0 rfl) ?_
                exact W.iret (v := (nI i)) hx hb hr (fun t ht hW => ⟨(nI i), rfl, trivial, ht⟩) (fun q h => absurd h List.not_mem_nil) dX10_recall_85
      · refine lv_aload_n hx hb dX10_recall_23 rfl (lv_at hl 0 rfl) ?_
        refine va_get (D := (dC, dI)) (ci := 10) (v := .int (nI nb)) (C := RX10) (T := TX10) (N := 15) hx hb hts inX10 hown hK hP 0 rfl rfl 3 (by decide) (hts _ mw_204) (fun _ h9 => h9) rfl dX10_recall_24 ?_
        refine lv_goto (tgt := 46) hx hb dX10_recall_27 (by decide) ?_
        refine lv_istore (lv' := [(4, .int (nI nb)), (0, .ref x), (1, .int v1), (2, .int v2), (3, .int v3)]) hx hb dX10_recall_46 hl (by decide) rfl (fun ls hl => ?_)
        refine lv_iconst (v := 0) hx hb dX10_recall_48 (by decide) ?_
        refine lv_istore (lv' := [(5, .int 0), (4, .int (nI nb)), (0, .ref x), (1, .int v1), (2, .int v2), (3, .int v3)]) hx hb dX10_recall_49 hl (by decide) rfl (fun ls hl => ?_)
        refine lv_iconst (v := 0) hx hb dX10_recall_51 (by decide) ?_
        refine lv_istore (lv' := [(6, .int 0), (5, .int 0), (4, .int (nI nb)), (0, .ref x), (1, .int v1), (2, .int v2), (3, .int v3)]) hx hb dX10_recall_52 hl (by decide) rfl (fun ls hl => ?_)
        refine wl_loop (fun (z_ : Nat × Int32) H locs ls => (z_.1 ≤ 600) ∧ H = s.heap ∧ locs = [] ∧ lv_has ls 7 [(6, .int (nI z_.1)), (5, .int z_.2), (4, .int (nI nb)), (0, .ref x), (1, .int v1), (2, .int v2), (3, .int v3)]) (fun (z_ : Nat × Int32) => 600 - z_.1) (fun z_ H locs ls hI ih => ?_) (0, 0) ⟨(Nat.zero_le _), rfl, rfl, lv_sub hl [0, 1, 2, 3, 4, 5, 6] rfl⟩
        obtain ⟨i, sn⟩ := z_
        dsimp only at hI ih
        obtain ⟨hi, rfl, rfl, hl⟩ := hI
        refine lv_iload hx hb dX10_recall_54 (lv_at hl 0 rfl) ?_
        refine lv_iload hx hb dX10_recall_56 (lv_at hl 2 rfl) ?_
        refine lv_icmp_ge (tgt := 95) hx hb dX10_recall_58 (by decide) (fun c_17 => ?_) (fun c_17 => ?_)
        · have nc_17 : nb ≤ i := (nI_leI (a := nb) (b := i) (by omega) (by omega)).mp c_17
          refine lv_iconst (v := (-1)) hx hb dX10_recall_95 (by decide) ?_
          exact W.iret (v := (-1)) hx hb hr (fun t ht hW => ⟨(-1), rfl, trivial, ht⟩) (fun q h => absurd h List.not_mem_nil) dX10_recall_96
        · have nc_17 : ¬ (nb ≤ i) := fun h9 => c_17 ((nI_leI (a := nb) (b := i) (by omega) (by omega)).mpr h9)
          refine lv_aload_n hx hb dX10_recall_61 rfl (lv_at hl 3 rfl) ?_
          refine lv_iload_n hx hb dX10_recall_62 rfl (lv_at hl 5 rfl) ?_
          refine lv_iload hx hb dX10_recall_63 (lv_at hl 0 rfl) ?_
          have hPc := hP.part (X := [(x, .inr (10, [.ref (a 0), .int (nI nl), .ref (a 2), .int (nI nb), .ref (a 4), .int (nI np), .ref (a 6), .int (nI nx), .ref (a 8), .ref (a 9), .ref (a 10), .ref (a 11), .ref (a 12), .ref (a 13), .ref (a 14)])), ((a 0), .inl (ca 5, 40, .inr (.inr (.inr (.inr (rA nl la)))))), ((a 2), .inl (ca 6, 40, .inr (.inr (.inr (.inr (rA nb (bA0 ba))))))), ((a 4), .inl (ca 7, 600, .inr (.inr (.inr (.inr (rA np pa)))))), ((a 6), .inl (ca 8, 200, .inr (.inr (.inr (.inr (rA nx (bA0 xa)))))))]) (cx := [(x, .inr (10, [.ref (a 0), .int (nI nl), .ref (a 2), .int (nI nb), .ref (a 4), .int (nI np), .ref (a 6), .int (nI nx), .ref (a 8), .ref (a 9), .ref (a 10), .ref (a 11), .ref (a 12), .ref (a 13), .ref (a 14)])), ((a 2), .inl (ca 6, 40, .inr (.inr (.inr (.inr (rA nb (bA0 ba))))))), ((a 4), .inl (ca 7, 600, .inr (.inr (.inr (.inr (rA np pa)))))), ((a 6), .inl (ca 8, 200, .inr (.inr (.inr (.inr (rA nx (bA0 xa)))))))]) [0, 2, 3, 4] rfl
          refine pc_l (va_runV (As := [.int v2, .int (nI i)]) (rest := []) ⟨hx, hb, hml, hown, hts⟩ (k_lotsIn l dC dI ca x a nl la lo nb ba bt np pa pc nx xa bx v2 (nI i) (by first | assumption | omega | exact ⟨_, by omega, rfl⟩)) (⟨callB_of 2 hts (gd mw_860) rfl rfl rfl (hts _ mw_1) (hts _ mw_857) ds_X10_lotsIn ⟨Nat.le_of_ble_eq_true rfl, Nat.le_of_ble_eq_true rfl⟩, (hts _ mw_859), (hts _ mp_37)⟩) (pu_V hPc hK hE (va_recv hK hPc (ci := 10) (q0 := 0) rfl rfl)) rfl rfl hl.1 rfl (lv_room (Nat.le_of_ble_eq_true rfl)) dX10_recall_65 ⟨Nat.le_of_ble_eq_true rfl, Nat.le_of_ble_eq_true rfl⟩) (fun rv_18 hw_ => ?_)
          have hw_18 := hw_
          refine lv_iload_n hx hb dX10_recall_68 rfl (lv_at hl 4 rfl) ?_
          refine lv_lshr (v := ((rv_18 : Int64) >>> ((v1 : Int32).toInt64 &&& 63))) hx hb dX10_recall_69 rfl ?_
          refine lv_lconst (v := 1) hx hb dX10_recall_70 (by decide) ?_
          refine lv_land hx hb dX10_recall_71 ?_
          refine lv_lconst (v := 0) hx hb dX10_recall_72 (by decide) ?_
          refine W.lcmp hx hb dX10_recall_73 ?_
          refine lv_if_eq (tgt := 89) hx hb dX10_recall_74 (by decide) (fun c_19 => ?_) (fun c_19 => ?_)
          · refine lv_iinc (v := (nI (i + 1))) (lv' := [(6, .int (nI (i + 1))), (5, .int sn), (4, .int (nI nb)), (0, .ref x), (1, .int v1), (2, .int v2), (3, .int v3)]) hx hb dX10_recall_89 hl (k := 0) rfl (nI_add (i) 1) (by decide) rfl (fun ls hl => ?_)
            refine lv_goto (tgt := 54) hx hb dX10_recall_92 (by decide) ?_
            exact ih (i + 1, sn) _ _ _ (by omega) ⟨(by omega), rfl, rfl, lv_sub hl [0, 1, 2, 3, 4, 5, 6] rfl⟩
          · refine lv_iload hx hb dX10_recall_77 (lv_at hl 1 rfl) ?_
            refine lv_iload_n hx hb dX10_recall_79 rfl (lv_at hl 6 rfl) ?_
            refine lv_icmp_ne (tgt := 86) hx hb dX10_recall_80 (by decide) (fun c_20 => ?_) (fun c_20 => ?_)
            · refine lv_iinc (v := (sn + 1)) (lv' := [(5, .int (sn + 1)), (6, .int (nI i)), (4, .int (nI nb)), (0, .ref x), (1, .int v1), (2, .int v2), (3, .int v3)]) hx hb dX10_recall_86 hl (k := 1) rfl rfl (by decide) rfl (fun ls hl => ?_)
              refine lv_iinc (v := (nI (i + 1))) (lv' := [(6, .int (nI (i + 1))), (5, .int (sn + 1)), (4, .int (nI nb)), (0, .ref x), (1, .int v1), (2, .int v2), (3, .int v3)]) hx hb dX10_recall_89 hl (k := 1) rfl (nI_add (i) 1) (by decide) rfl (fun ls hl => ?_)
              refine lv_goto (tgt := 54) hx hb dX10_recall_92 (by decide) ?_
              exact ih (i + 1, (sn + 1)) _ _ _ (by omega) ⟨(by omega), rfl, rfl, lv_sub hl [0, 1, 2, 3, 4, 5, 6] rfl⟩
            · refine lv_iload hx hb dX10_recall_83 (lv_at hl 0 rfl) ?_
              exact W.iret (v := (nI i)) hx hb hr (fun t ht hW => ⟨(nI i), rfl, trivial, ht⟩) (fun q h => absurd h List.not_mem_nil) dX10_recall_85
    · refine lv_iconst (v := (-1)) hx hb dX10_recall_17 (by decide) ?_
      exact W.iret (v := (-1)) hx hb hr (fun t ht hW => ⟨(-1), rfl, trivial, ht⟩) (fun q h => absurd h List.not_mem_nil) dX10_recall_18

set_option maxHeartbeats 4000000 in
set_option maxRecDepth 100000 in
theorem k_countFit (l : Launch) (dC : Nat → ClassId) (dI : Nat → Nat → Nat) (ca : Nat → ClassId) (x : Nat) (a : Nat → Nat) (nl : Nat) (la : Nat → Nat) (lo : Nat → Int32 × Int32) (nb : Nat) (ba : Nat → Nat → Nat) (bt : Nat → BatG) (np : Nat) (pa : Nat → Nat) (pc : Nat → PieG) (nx : Nat) (xa : Nat → Nat → Nat) (bx : Nat → BoxG) (tr : Nat → Int32) (hQ : kI nl lo nb bt np pc nx bx) : Met l yX10_countFit (Cond.code yX10_countFit cX10_countFit 4 (some .int) :: gT) ({ frames := 3, cells := 0, slots := 0, locals := 103 }) (va_Pc [.ref x] (pu (dC, dI) (@HAppend.hAppend va_W va_W va_W _ [(x, .inr (10, [.ref (a 0), .int (nI nl), .ref (a 2), .int (nI nb), .ref (a 4), .int (nI np), .ref (a 6), .int (nI nx), .ref (a 8), .ref (a 9), .ref (a 10), .ref (a 11), .ref (a 12), .ref (a 13), .ref (a 14)])), ((a 4), .inl (ca 7, 600, .inr (.inr (.inr (.inr (rA np pa)))))), ((a 8), .inl (ca 0, 144, .inl tr))] (pool ca (List.range nl) la lo (List.range nb) ba bt (List.range np) pa pc (List.range nx) xa bx)) (aT ca))) (vp_Si (fun r => True)) 0 0 (fun _ => False) := by
  refine Met.ofW (cc := cX10_countFit) (maxL := 4) (ret := (some .int)) (by decide) rfl ?_
  intro p e s m args below meth c s₁ B hml hv
  obtain ⟨rfl, hP, hK, hE⟩ := hv
  have hx := B.exec
  have hb := B.bytes
  have hr := B.returns
  have hts : ∀ w ∈ gT, w.before _ s = true := fun w h => atoms_spec (ws := Cond.code yX10_countFit cX10_countFit 4 (some .int) :: gT) B.pre w (List.mem_cons_of_mem _ h)
  have hown : s.vm.findClass RX10 = some m.cls := findClass_of_methodNamed B.named
  have hlocks := B.notSynchronized
  have hl := lv_entry ([.ref x]) (n := 4) (Nat.le_of_ble_eq_true rfl)
  rw [lg_entry_eq]
  generalize (lg_sl ([.ref x]) ++ List.replicate (4 - (lg_sl ([.ref x])).length) Slot.unset).toArray = ls at hl ⊢
  have hl : lv_has ls 4 [(0, .ref x)] := hl
  obtain ⟨hq1, hq2, hq3, hq4, hq5, hq6, hq7⟩ := id hQ
  refine lv_iconst (v := 0) hx hb dX10_countFit_0 (by decide) ?_
  refine lv_istore_n (lv' := [(1, .int 0), (0, .ref x)]) hx hb dX10_countFit_1 rfl hl (by decide) rfl (fun ls hl => ?_)
  refine lv_iconst (v := 0) hx hb dX10_countFit_2 (by decide) ?_
  refine lv_istore_n (lv' := [(2, .int 0), (1, .int 0), (0, .ref x)]) hx hb dX10_countFit_3 rfl hl (by decide) rfl (fun ls hl => ?_)
  refine wl_loop (fun (z_ : Nat × Int32) H locs ls => (z_.1 ≤ 144) ∧ H = s.heap ∧ locs = [] ∧ lv_has ls 4 [(2, .int (nI z_.1)), (1, .int z_.2), (0, .ref x)]) (fun (z_ : Nat × Int32) => 144 - z_.1) (fun z_ H locs ls hI ih => ?_) (0, 0) ⟨(Nat.zero_le _), rfl, rfl, lv_sub hl [0, 1, 2] rfl⟩
  obtain ⟨i, sn⟩ := z_
  dsimp only at hI ih
  obtain ⟨hi, rfl, rfl, hl⟩ := hI
  refine lv_iload_n hx hb dX10_countFit_4 rfl (lv_at hl 0 rfl) ?_
  refine lv_aload_n hx hb dX10_countFit_5 rfl (lv_at hl 2 rfl) ?_
  refine va_get (D := (dC, dI)) (ci := 10) (v := .ref (a 8)) (C := RX10) (T := TX10) (N := 15) hx hb hts inX10 hown hK hP 0 rfl rfl 8 (by decide) (hts _ mw_209) (fun _ h9 => h9) rfl dX10_countFit_6 ?_
  refine va_alen (v := 144) hx hb hK hP 2 0 rfl rfl rfl dX10_countFit_9 ?_
  refine lv_icmp_ge (tgt := 44) hx hb dX10_countFit_10 (by decide) (fun c_1 => ?_) (fun c_1 => ?_)
  · have nc_1 : 144 ≤ i := (nI_leI (a := 144) (b := i) (by omega) (by omega)).mp c_1
    refine lv_iload_n hx hb dX10_countFit_44 rfl (lv_at hl 1 rfl) ?_
    exact W.iret (v := sn) hx hb hr (fun t ht hW => ⟨sn, rfl, trivial, ht⟩) (fun q h => absurd h List.not_mem_nil) dX10_countFit_45
  · have nc_1 : ¬ (144 ≤ i) := fun h9 => c_1 ((nI_leI (a := 144) (b := i) (by omega) (by omega)).mpr h9)
    refine lv_aload_n hx hb dX10_countFit_13 rfl (lv_at hl 2 rfl) ?_
    refine lv_aload_n hx hb dX10_countFit_14 rfl (lv_at hl 2 rfl) ?_
    refine va_get (D := (dC, dI)) (ci := 10) (v := .ref (a 8)) (C := RX10) (T := TX10) (N := 15) hx hb hts inX10 hown hK hP 0 rfl rfl 8 (by decide) (hts _ mw_209) (fun _ h9 => h9) rfl dX10_countFit_15 ?_
    refine lv_iload_n hx hb dX10_countFit_18 rfl (lv_at hl 0 rfl) ?_
    refine va_iald hx hb hK hP 2 0 rfl rfl (vp_in_nI (show i < 144 by omega) (by first | decide | omega)) dX10_countFit_19 ?_
    refine lv_topi (fun y_ e_ => ?_)
    obtain rfl : y_ = (tr i) := e_.trans (congrArg tr (show ((nI i) : Int32).toNatClampNeg = i from nI_clamp (by omega)))
    have hPc := hP.sub (ws' := [(x, .inr (10, [.ref (a 0), .int (nI nl), .ref (a 2), .int (nI nb), .ref (a 4), .int (nI np), .ref (a 6), .int (nI nx), .ref (a 8), .ref (a 9), .ref (a 10), .ref (a 11), .ref (a 12), .ref (a 13), .ref (a 14)])), ((a 4), .inl (ca 7, 600, .inr (.inr (.inr (.inr (rA np pa))))))]) [0, 1] rfl
    refine pc_q (va_runV (As := [.int (tr i)]) (rest := []) ⟨hx, hb, hml, hown, hts⟩ (k_findPiece l dC dI ca x a nl nb np nx pa (tr i) (by first | assumption | omega | exact ⟨_, by omega, rfl⟩)) (⟨callB_of 1 hts (gd mw_596) rfl rfl rfl (hts _ mw_1) (hts _ mw_593) ds_X10_findPiece ⟨Nat.le_of_ble_eq_true rfl, Nat.le_of_ble_eq_true rfl⟩, (hts _ mw_595), (hts _ mp_10)⟩) (pu_V hPc hK hE (va_recv hK hPc (ci := 10) (q0 := 0) rfl rfl)) rfl rfl hl.1 rfl (lv_room (Nat.le_of_ble_eq_true rfl)) dX10_countFit_20 ⟨Nat.le_of_ble_eq_true rfl, Nat.le_of_ble_eq_true rfl⟩) (fun rv_2 hw_ => ?_)
    have hw_2 := hw_
    refine lq_astore_n (lv' := [(3, va_rf rv_2), (2, .int (nI i)), (1, .int sn), (0, .ref x)]) hx hb dX10_countFit_23 rfl hl (by decide) rfl (fun ls hl => ?_)
    refine lq_aload_n hx hb dX10_countFit_24 rfl (lv_at hl 0 rfl) ?_
    cases rv_2 with
    | none =>
      have hl : lv_has ls 4 [(3, .null), (2, .int (nI i)), (1, .int sn), (0, .ref x)] := hl
      refine W.eq (g2 := F0 m 25 ls [.null]) rfl ?_
      refine lv_ifnullN (tgt := 38) hx hb dX10_countFit_25 (by decide) ?_
      refine lv_iinc (v := (nI (i + 1))) (lv' := [(2, .int (nI (i + 1))), (3, .null), (1, .int sn), (0, .ref x)]) hx hb dX10_countFit_38 hl (k := 1) rfl (nI_add (i) 1) (by decide) rfl (fun ls hl => ?_)
      refine lv_goto (tgt := 4) hx hb dX10_countFit_41 (by decide) ?_
      exact ih (i + 1, sn) _ _ _ (by omega) ⟨(by omega), rfl, rfl, lv_sub hl [0, 2, 3] rfl⟩
    | some b3 =>
      have hl : lv_has ls 4 [(3, .ref b3), (2, .int (nI i)), (1, .int sn), (0, .ref x)] := hl
      refine W.eq (g2 := F0 m 25 ls [.ref b3]) rfl ?_
      refine lv_ifnull hx hb dX10_countFit_25 ?_
      obtain ⟨j4, hj4, ev4, e9⟩ := fnd_some (by omega) hw_2
      have e9 : b3 = (pa j4) := e9
      subst e9
      have hl : lv_has ls 4 [(3, .ref (pa j4)), (2, .int (nI i)), (1, .int sn), (0, .ref x)] := hl
      have hPr5 := pie_P hP (rg_in hj4)
      refine lv_aload_n hx hb dX10_countFit_28 rfl (lv_at hl 0 rfl) ?_
      have hPc : va_P (dC, dI) vwCl [((pa j4), .inr (6, [.int ((pc j4).1 0), .int ((pc j4).1 1), .int ((pc j4).1 2), .long ((pc j4).2), .int ((pc j4).1 4), .int ((pc j4).1 5), .int ((pc j4).1 6), .int ((pc j4).1 7), .int ((pc j4).1 8)]))] s.heap := (va_P.sub (ws' := [((pa j4), .inr (6, [.int ((pc j4).1 0), .int ((pc j4).1 1), .int ((pc j4).1 2), .long ((pc j4).2), .int ((pc j4).1 4), .int ((pc j4).1 5), .int ((pc j4).1 6), .int ((pc j4).1 7), .int ((pc j4).1 8)]))]) hPr5 [0] rfl)
      refine pc_i (va_runV (As := []) (rest := []) ⟨hx, hb, hml, hown, hts⟩ (p_isFit l dC dI ca (pa j4) ((pc j4).1 0) ((pc j4).1 1) ((pc j4).1 2) ((pc j4).2) ((pc j4).1 4) ((pc j4).1 5) ((pc j4).1 6) ((pc j4).1 7) ((pc j4).1 8) ) (⟨callB_of 0 hts (gd mw_631) rfl rfl rfl (hts _ mw_14) (hts _ mw_647) ds_X6_isFit ⟨Nat.le_of_ble_eq_true rfl, Nat.le_of_ble_eq_true rfl⟩, (hts _ mw_629), (hts _ mw_630)⟩) (pu_V hPc hK hE (va_recv hK hPc (ci := 6) (q0 := 0) rfl rfl)) rfl rfl hl.1 rfl (lv_room (Nat.le_of_ble_eq_true rfl)) dX10_countFit_29 ⟨Nat.le_of_ble_eq_true rfl, Nat.le_of_ble_eq_true rfl⟩) (fun rv_6 hw_ => ?_)
      obtain rfl : rv_6 = (ift ((pc j4).1 4) ((pc j4).1 5) ((pc j4).1 6) ((pc j4).1 7)) := hw_
      refine lv_if_eq (tgt := 38) hx hb dX10_countFit_32 (by decide) (fun c_7 => ?_) (fun c_7 => ?_)
      · refine lv_iinc (v := (nI (i + 1))) (lv' := [(2, .int (nI (i + 1))), (3, .ref (pa j4)), (1, .int sn), (0, .ref x)]) hx hb dX10_countFit_38 hl (k := 1) rfl (nI_add (i) 1) (by decide) rfl (fun ls hl => ?_)
        refine lv_goto (tgt := 4) hx hb dX10_countFit_41 (by decide) ?_
        exact ih (i + 1, sn) _ _ _ (by omega) ⟨(by omega), rfl, rfl, lv_sub hl [0, 2, 3] rfl⟩
      · refine lv_iinc (v := (sn + 1)) (lv' := [(1, .int (sn + 1)), (3, .ref (pa j4)), (2, .int (nI i)), (0, .ref x)]) hx hb dX10_countFit_35 hl (k := 2) rfl rfl (by decide) rfl (fun ls hl => ?_)
        refine lv_iinc (v := (nI (i + 1))) (lv' := [(2, .int (nI (i + 1))), (1, .int (sn + 1)), (3, .ref (pa j4)), (0, .ref x)]) hx hb dX10_countFit_38 hl (k := 2) rfl (nI_add (i) 1) (by decide) rfl (fun ls hl => ?_)
        refine lv_goto (tgt := 4) hx hb dX10_countFit_41 (by decide) ?_
        exact ih (i + 1, (sn + 1)) _ _ _ (by omega) ⟨(by omega), rfl, rfl, lv_sub hl [0, 1, 3] rfl⟩

set_option maxHeartbeats 4000000 in
set_option maxRecDepth 100000 in
theorem k_warningsOf (l : Launch) (dC : Nat → ClassId) (dI : Nat → Nat → Nat) (ca : Nat → ClassId) (x : Nat) (a : Nat → Nat) (nl : Nat) (la : Nat → Nat) (lo : Nat → Int32 × Int32) (nb : Nat) (ba : Nat → Nat → Nat) (bt : Nat → BatG) (np : Nat) (pa : Nat → Nat) (pc : Nat → PieG) (nx : Nat) (xa : Nat → Nat → Nat) (bx : Nat → BoxG) (v1 : Int64) (hQ : kI nl lo nb bt np pc nx bx) : Met l yX10_warningsOf (Cond.code yX10_warningsOf cX10_warningsOf 6 (some .int) :: gT) ({ frames := 3, cells := 0, slots := 0, locals := 103 }) (va_Pc [.ref x, .long v1] (pu (dC, dI) (@HAppend.hAppend va_W va_W va_W _ [(x, .inr (10, [.ref (a 0), .int (nI nl), .ref (a 2), .int (nI nb), .ref (a 4), .int (nI np), .ref (a 6), .int (nI nx), .ref (a 8), .ref (a 9), .ref (a 10), .ref (a 11), .ref (a 12), .ref (a 13), .ref (a 14)])), ((a 0), .inl (ca 5, 40, .inr (.inr (.inr (.inr (rA nl la))))))] (pool ca (List.range nl) la lo (List.range nb) ba bt (List.range np) pa pc (List.range nx) xa bx)) (aT ca))) (vp_Si (fun r => True)) 0 0 (fun _ => False) := by
  refine Met.ofW (cc := cX10_warningsOf) (maxL := 6) (ret := (some .int)) (by decide) rfl ?_
  intro p e s m args below meth c s₁ B hml hv
  obtain ⟨rfl, hP, hK, hE⟩ := hv
  have hx := B.exec
  have hb := B.bytes
  have hr := B.returns
  have hts : ∀ w ∈ gT, w.before _ s = true := fun w h => atoms_spec (ws := Cond.code yX10_warningsOf cX10_warningsOf 6 (some .int) :: gT) B.pre w (List.mem_cons_of_mem _ h)
  have hown : s.vm.findClass RX10 = some m.cls := findClass_of_methodNamed B.named
  have hlocks := B.notSynchronized
  have hl := lv_entry ([.ref x, .long v1]) (n := 6) (Nat.le_of_ble_eq_true rfl)
  rw [lg_entry_eq]
  generalize (lg_sl ([.ref x, .long v1]) ++ List.replicate (6 - (lg_sl ([.ref x, .long v1])).length) Slot.unset).toArray = ls at hl ⊢
  have hl : lv_has ls 6 [(0, .ref x), (1, .long v1)] := hl
  obtain ⟨hq1, hq2, hq3, hq4, hq5, hq6, hq7⟩ := id hQ
  refine lv_iconst (v := 0) hx hb dX10_warningsOf_0 (by decide) ?_
  refine lv_istore_n (lv' := [(3, .int 0), (0, .ref x), (1, .long v1)]) hx hb dX10_warningsOf_1 rfl hl (by decide) rfl (fun ls hl => ?_)
  refine lv_iconst (v := 0) hx hb dX10_warningsOf_2 (by decide) ?_
  refine lv_istore (lv' := [(4, .int 0), (3, .int 0), (0, .ref x), (1, .long v1)]) hx hb dX10_warningsOf_3 hl (by decide) rfl (fun ls hl => ?_)
  refine wl_loop (fun (z_ : Nat × Int32) H locs ls => (z_.1 ≤ nl) ∧ H = s.heap ∧ locs = [] ∧ lv_has ls 6 [(4, .int (nI z_.1)), (3, .int z_.2), (0, .ref x), (1, .long v1)]) (fun (z_ : Nat × Int32) => nl - z_.1) (fun z_ H locs ls hI ih => ?_) (0, 0) ⟨(Nat.zero_le _), rfl, rfl, lv_sub hl [0, 1, 2, 3] rfl⟩
  obtain ⟨i, sn⟩ := z_
  dsimp only at hI ih
  obtain ⟨hi, rfl, rfl, hl⟩ := hI
  refine lv_iload hx hb dX10_warningsOf_5 (lv_at hl 0 rfl) ?_
  refine lv_aload_n hx hb dX10_warningsOf_7 rfl (lv_at hl 2 rfl) ?_
  refine va_get (D := (dC, dI)) (ci := 10) (v := .int (nI nl)) (C := RX10) (T := TX10) (N := 15) hx hb hts inX10 hown hK hP 0 rfl rfl 1 (by decide) (hts _ mw_202) (fun _ h9 => h9) rfl dX10_warningsOf_8 ?_
  refine lv_icmp_ge (tgt := 52) hx hb dX10_warningsOf_11 (by decide) (fun c_1 => ?_) (fun c_1 => ?_)
  · have nc_1 : nl ≤ i := (nI_leI (a := nl) (b := i) (by omega) (by omega)).mp c_1
    refine lv_iload_n hx hb dX10_warningsOf_52 rfl (lv_at hl 1 rfl) ?_
    exact W.iret (v := sn) hx hb hr (fun t ht hW => ⟨sn, rfl, trivial, ht⟩) (fun q h => absurd h List.not_mem_nil) dX10_warningsOf_53
  · have nc_1 : ¬ (nl ≤ i) := fun h9 => c_1 ((nI_leI (a := nl) (b := i) (by omega) (by omega)).mpr h9)
    refine lv_aload_n hx hb dX10_warningsOf_14 rfl (lv_at hl 2 rfl) ?_
    refine lv_iload hx hb dX10_warningsOf_15 (lv_at hl 0 rfl) ?_
    have hPc := hP.sub (ws' := [(x, .inr (10, [.ref (a 0), .int (nI nl), .ref (a 2), .int (nI nb), .ref (a 4), .int (nI np), .ref (a 6), .int (nI nx), .ref (a 8), .ref (a 9), .ref (a 10), .ref (a 11), .ref (a 12), .ref (a 13), .ref (a 14)])), ((a 0), .inl (ca 5, 40, .inr (.inr (.inr (.inr (rA nl la))))))]) [0, 1] rfl
    refine pc_q (va_runV (As := [.int (nI i)]) (rest := []) ⟨hx, hb, hml, hown, hts⟩ (k_findLot l dC dI ca x a nl nb np nx la (nI i) (by first | assumption | omega | exact ⟨_, by omega, rfl⟩)) (⟨callB_of 1 hts (gd mw_382) rfl rfl rfl (hts _ mw_1) (hts _ mw_379) ds_X10_findLot ⟨Nat.le_of_ble_eq_true rfl, Nat.le_of_ble_eq_true rfl⟩, (hts _ mw_381), (hts _ mp_2)⟩) (pu_V hPc hK hE (va_recv hK hPc (ci := 10) (q0 := 0) rfl rfl)) rfl rfl hl.1 rfl (lv_room (Nat.le_of_ble_eq_true rfl)) dX10_warningsOf_17 ⟨Nat.le_of_ble_eq_true rfl, Nat.le_of_ble_eq_true rfl⟩) (fun rv_2 hw_ => ?_)
    have hw_2 := hw_
    refine lq_astore (lv' := [(5, va_rf rv_2), (4, .int (nI i)), (3, .int sn), (0, .ref x), (1, .long v1)]) hx hb dX10_warningsOf_20 hl (by decide) rfl (fun ls hl => ?_)
    refine lq_aload hx hb dX10_warningsOf_22 (lv_at hl 0 rfl) ?_
    cases rv_2 with
    | none =>
      have hl : lv_has ls 6 [(5, .null), (4, .int (nI i)), (3, .int sn), (0, .ref x), (1, .long v1)] := hl
      refine W.eq (g2 := F0 m 24 ls [.null]) rfl ?_
      refine lv_ifnullN (tgt := 46) hx hb dX10_warningsOf_24 (by decide) ?_
      refine lv_iinc (v := (nI (i + 1))) (lv' := [(4, .int (nI (i + 1))), (5, .null), (3, .int sn), (0, .ref x), (1, .long v1)]) hx hb dX10_warningsOf_46 hl (k := 1) rfl (nI_add (i) 1) (by decide) rfl (fun ls hl => ?_)
      refine lv_goto (tgt := 5) hx hb dX10_warningsOf_49 (by decide) ?_
      exact ih (i + 1, sn) _ _ _ (by omega) ⟨(by omega), rfl, rfl, lv_sub hl [0, 2, 3, 4] rfl⟩
    | some b3 =>
      have hl : lv_has ls 6 [(5, .ref b3), (4, .int (nI i)), (3, .int sn), (0, .ref x), (1, .long v1)] := hl
      refine W.eq (g2 := F0 m 24 ls [.ref b3]) rfl ?_
      refine lv_ifnull hx hb dX10_warningsOf_24 ?_
      obtain ⟨j4, hj4, ev4, e9⟩ := fnd_some (by omega) hw_2
      have e9 : b3 = (la j4) := e9
      subst e9
      have hl : lv_has ls 6 [(5, .ref (la j4)), (4, .int (nI i)), (3, .int sn), (0, .ref x), (1, .long v1)] := hl
      have hPr5 := lot_P hP (rg_in hj4)
      refine lv_lload_n hx hb dX10_warningsOf_27 rfl (lv_at hl 4 rfl) ?_
      refine lv_iload hx hb dX10_warningsOf_28 (lv_at hl 1 rfl) ?_
      refine lv_lshr (v := ((v1 : Int64) >>> (((nI i) : Int32).toInt64 &&& 63))) hx hb dX10_warningsOf_30 rfl ?_
      refine lv_lconst (v := 1) hx hb dX10_warningsOf_31 (by decide) ?_
      refine lv_land hx hb dX10_warningsOf_32 ?_
      refine lv_lconst (v := 0) hx hb dX10_warningsOf_33 (by decide) ?_
      refine W.lcmp hx hb dX10_warningsOf_34 ?_
      refine lv_if_eq (tgt := 46) hx hb dX10_warningsOf_35 (by decide) (fun c_6 => ?_) (fun c_6 => ?_)
      · refine lv_iinc (v := (nI (i + 1))) (lv' := [(4, .int (nI (i + 1))), (5, .ref (la j4)), (3, .int sn), (0, .ref x), (1, .long v1)]) hx hb dX10_warningsOf_46 hl (k := 1) rfl (nI_add (i) 1) (by decide) rfl (fun ls hl => ?_)
        refine lv_goto (tgt := 5) hx hb dX10_warningsOf_49 (by decide) ?_
        exact ih (i + 1, sn) _ _ _ (by omega) ⟨(by omega), rfl, rfl, lv_sub hl [0, 2, 3, 4] rfl⟩
      · refine lv_iload_n hx hb dX10_warningsOf_38 rfl (lv_at hl 2 rfl) ?_
        refine lv_aload hx hb dX10_warningsOf_39 (lv_at hl 0 rfl) ?_
        refine va_get (D := (dC, dI)) (ci := 4) (v := .int ((lo j4).2)) (C := RX4) (T := TX4) (N := 2) hx hb hts inX4 hown hK hPr5 0 rfl rfl 1 (by decide) (hts _ mw_263) (fun _ h9 => h9) rfl dX10_warningsOf_41 ?_
        refine lv_ior hx hb dX10_warningsOf_44 ?_
        refine lv_istore_n (lv' := [(3, .int (sn ||| (lo j4).2)), (5, .ref (la j4)), (4, .int (nI i)), (0, .ref x), (1, .long v1)]) hx hb dX10_warningsOf_45 rfl hl (by decide) rfl (fun ls hl => ?_)
        refine lv_iinc (v := (nI (i + 1))) (lv' := [(4, .int (nI (i + 1))), (3, .int (sn ||| (lo j4).2)), (5, .ref (la j4)), (0, .ref x), (1, .long v1)]) hx hb dX10_warningsOf_46 hl (k := 2) rfl (nI_add (i) 1) (by decide) rfl (fun ls hl => ?_)
        refine lv_goto (tgt := 5) hx hb dX10_warningsOf_49 (by decide) ?_
        exact ih (i + 1, (sn ||| (lo j4).2)) _ _ _ (by omega) ⟨(by omega), rfl, rfl, lv_sub hl [0, 1, 3, 4] rfl⟩

/-- the queue: how many, their kinds -/
def qI (qm : Nat) (kd : Nat → Int32) : Prop := qm ≤ 10 ∧ ∀ i, i < qm → cnt (kd i) 5
theorem qI_add {qm : Nat} {kd : Nat → Int32} {v : Int32} (h : qI qm kd) (hm : qm < 10) (hv : cnt v 5) : qI (qm + 1) (upd kd qm v) := ⟨by omega, fun i hi => by
  by_cases e : i = qm
  · subst e; rw [pk_us]; exact hv
  · rw [pk_un e]; exact h.2 i (by omega)⟩

set_option maxHeartbeats 4000000 in
set_option maxRecDepth 100000 in
theorem e_setWashing (l : Launch) (dC : Nat → ClassId) (dI : Nat → Nat → Nat) (ca : Nat → ClassId) (sz : Nat) (h : Nat) (g0 : Nat) (g1 : Nat) (g2 : Nat) (g4 : Nat) (g8 : Nat) (g9 : Nat) (g10 : Nat) (g11 : Nat) (qm : Nat) (om : Int32) (kn : Int32) (kl : Int32) (lst : Option Nat) (ws : Nat → Int32) (v1 : Int32) (v2 : Int32) (v3 : Int32) (h1 : ¬ wi v1 0 5 = 0) (h2 : ¬ wi v2 0 5 = 0) : Met l yX3_setWashing (Cond.code yX3_setWashing cX3_setWashing 4 none :: gT) ({ frames := 1, cells := 0, slots := 0, locals := 60 }) (va_Pc [.ref h, .int v1, .int v2, .int v3] (pr (dC, dI) sz [(h, .inr (3, [.ref g0, .ref g1, .ref g2, .int (nI qm), .ref g4, .int om, .int kn, .int kl, .ref g8, .ref g9, .ref g10, .ref g11, va_rf lst])), (g0, .inl (ca 0, 36, .inl ws))] (aT ca))) (va_Qv (fun (u_ : (Nat → Int32)) => u_ = upd ws (v1 * 6 + v2 : Int32).toNatClampNeg v3) (fun (u_ : (Nat → Int32)) t => va_P (dC, dI) vwCl [(h, .inr (3, [.ref g0, .ref g1, .ref g2, .int (nI qm), .ref g4, .int om, .int 0, .int kl, .ref g8, .ref g9, .ref g10, .ref g11, va_rf lst])), (g0, .inl (ca 0, 36, .inl u_))] t.heap ∧ va_D (va_A [(h, .inr (3, [.ref g0, .ref g1, .ref g2, .int (nI qm), .ref g4, .int om, .int kn, .int kl, .ref g8, .ref g9, .ref g10, .ref g11, va_rf lst])), (g0, .inl (ca 0, 36, .inl ws))] sz) [(h, .inr (3, [.ref g0, .ref g1, .ref g2, .int (nI qm), .ref g4, .int om, .int 0, .int kl, .ref g8, .ref g9, .ref g10, .ref g11, va_rf lst])), (g0, .inl (ca 0, 36, .inl u_))]) (va_A [(h, .inr (3, [.ref g0, .ref g1, .ref g2, .int (nI qm), .ref g4, .int om, .int kn, .int kl, .ref g8, .ref g9, .ref g10, .ref g11, va_rf lst])), (g0, .inl (ca 0, 36, .inl ws))] sz)) 0 0 (va_A [(h, .inr (3, [.ref g0, .ref g1, .ref g2, .int (nI qm), .ref g4, .int om, .int kn, .int kl, .ref g8, .ref g9, .ref g10, .ref g11, va_rf lst])), (g0, .inl (ca 0, 36, .inl ws))] sz) := by
  refine Met.ofW (cc := cX3_setWashing) (maxL := 4) (ret := none) (by decide) rfl ?_
  intro p e s m args below meth c s₁ B hml hv
  obtain ⟨rfl, hsz, hP, hK, hD0, hE⟩ := hv
  have hx := B.exec
  have hb := B.bytes
  have hr := B.returns
  have hts : ∀ w ∈ gT, w.before _ s = true := fun w h => atoms_spec (ws := Cond.code yX3_setWashing cX3_setWashing 4 none :: gT) B.pre w (List.mem_cons_of_mem _ h)
  have hown : s.vm.findClass RX3 = some m.cls := findClass_of_methodNamed B.named
  have hlocks := B.notSynchronized
  subst hsz
  have hD := hD0.self (sz := s.heap.size)
  generalize hAe : va_A [(h, .inr (3, [.ref g0, .ref g1, .ref g2, .int (nI qm), .ref g4, .int om, .int kn, .int kl, .ref g8, .ref g9, .ref g10, .ref g11, va_rf lst])), (g0, .inl (ca 0, 36, .inl ws))] s.heap.size = A at hD ⊢
  have hA : ∀ q : Nat, s.heap.size ≤ q → A q := fun q h => by rw [← hAe]; exact Or.inr h
  have hS : va_S A s.heap s.heap [] := va_S.rf
  have hl := lv_entry ([.ref h, .int v1, .int v2, .int v3]) (n := 4) (Nat.le_of_ble_eq_true rfl)
  rw [lg_entry_eq]
  generalize (lg_sl ([.ref h, .int v1, .int v2, .int v3]) ++ List.replicate (4 - (lg_sl ([.ref h, .int v1, .int v2, .int v3])).length) Slot.unset).toArray = ls at hl ⊢
  have hl : lv_has ls 4 [(0, .ref h), (1, .int v1), (2, .int v2), (3, .int v3)] := hl
  refine lv_aload_n hx hb dX3_setWashing_0 rfl (lv_at hl 0 rfl) ?_
  refine va_get (D := (dC, dI)) (ci := 3) (v := .ref g0) (C := RX3) (T := TX3) (N := 13) hx hb hts inX3 hown hK hP 0 rfl rfl 0 (by decide) (hts _ mw_104) (fun _ h9 => h9) rfl dX3_setWashing_1 ?_
  refine lv_iload_n hx hb dX3_setWashing_4 rfl (lv_at hl 1 rfl) ?_
  refine lv_bipush (v := 6) hx hb dX3_setWashing_5 (by decide) ?_
  refine lv_imul hx hb dX3_setWashing_7 ?_
  refine lv_iload_n hx hb dX3_setWashing_8 rfl (lv_at hl 2 rfl) ?_
  refine lv_iadd hx hb dX3_setWashing_9 ?_
  refine lv_iload_n hx hb dX3_setWashing_10 rfl (lv_at hl 3 rfl) ?_
  refine va_iast hx hb hK hP hD hS 1 0 rfl rfl (gr_in (A := 6) (B := 6) (wi_vp h1 (by decide)) (wi_vp h2 (by decide)) (by decide) (w := 6) (by decide) (by decide) (by decide)).1 dX3_setWashing_11 (fun H locs hP hD hS => ?_)
  obtain ⟨hP, hD⟩ := va_bo [(h, .inr (3, [.ref g0, .ref g1, .ref g2, .int (nI qm), .ref g4, .int om, .int kn, .int kl, .ref g8, .ref g9, .ref g10, .ref g11, va_rf lst])), (g0, .inl (ca 0, 36, .inl (upd ws (((v1 * 6) + v2) : Int32).toNatClampNeg v3)))] hP hD
  refine lv_aload_n hx hb dX3_setWashing_12 rfl (lv_at hl 0 rfl) ?_
  refine lv_iconst (v := 0) hx hb dX3_setWashing_13 (by decide) ?_
  refine va_put (D := (dC, dI)) (ci := 3) (v := .int 0) (ty := .boolean) (C := RX3) (T := TX3) (N := 13) hx hb hts inX3 tyX3 tyX3_ok nmX3 hown hK hP hD hS 0 rfl rfl 6 (by decide) (hts _ mw_113) (fun _ h9 => h9) rfl (by decide +kernel) rfl rfl (Nat.le_of_ble_eq_true rfl) dX3_setWashing_14 (fun H locs hP hD hS => ?_)
  obtain ⟨hP, hD⟩ := va_bo [(h, .inr (3, [.ref g0, .ref g1, .ref g2, .int (nI qm), .ref g4, .int om, .int 0, .int kl, .ref g8, .ref g9, .ref g10, .ref g11, va_rf lst])), (g0, .inl (ca 0, 36, .inl (upd ws (((v1 * 6) + v2) : Int32).toNatClampNeg v3)))] hP hD
  refine W.widen (k := 0) (n := 0) (Nat.le_of_ble_eq_true rfl) (Nat.le_of_ble_eq_true rfl) ?_
  have hP9 : va_P (dC, dI) vwCl [(h, .inr (3, [.ref g0, .ref g1, .ref g2, .int (nI qm), .ref g4, .int om, .int 0, .int kl, .ref g8, .ref g9, .ref g10, .ref g11, va_rf lst])), (g0, .inl (ca 0, 36, .inl (upd ws (((v1 * 6) + v2) : Int32).toNatClampNeg v3)))] H := va_P.sub hP [0, 1] rfl
  have hD9 : va_D A [(h, .inr (3, [.ref g0, .ref g1, .ref g2, .int (nI qm), .ref g4, .int om, .int 0, .int kl, .ref g8, .ref g9, .ref g10, .ref g11, va_rf lst])), (g0, .inl (ca 0, 36, .inl (upd ws (((v1 * 6) + v2) : Int32).toNatClampNeg v3)))] := va_D.sub hD [0, 1] (by decide) rfl
  exact W.vret hx hb hr (fun t ht hW => ⟨⟨(upd ws (((v1 * 6) + v2) : Int32).toNatClampNeg v3), rfl, rfl, by rw [ht]; exact hP9, hD9⟩, hS.F ht⟩) hS.2.2 dX3_setWashing_17

set_option maxHeartbeats 4000000 in
set_option maxRecDepth 100000 in
theorem e_empty (l : Launch) (dC : Nat → ClassId) (dI : Nat → Nat → Nat) (ca : Nat → ClassId) (sz : Nat) (h : Nat) (g0 : Nat) (g1 : Nat) (g2 : Nat) (g4 : Nat) (g8 : Nat) (g9 : Nat) (g10 : Nat) (g11 : Nat) (qm : Nat) (om : Int32) (kn : Int32) (kl : Int32) (lst : Option Nat) : Met l yX3_empty (Cond.code yX3_empty cX3_empty 1 none :: gT) ({ frames := 1, cells := 0, slots := 0, locals := 60 }) (va_Pc [.ref h] (pr (dC, dI) sz [(h, .inr (3, [.ref g0, .ref g1, .ref g2, .int (nI qm), .ref g4, .int om, .int kn, .int kl, .ref g8, .ref g9, .ref g10, .ref g11, va_rf lst]))] (aT ca))) (va_Qv (fun (u_ : Unit) => True) (fun (u_ : Unit) t => va_P (dC, dI) vwCl [(h, .inr (3, [.ref g0, .ref g1, .ref g2, .int (nI 0), .ref g4, .int om, .int 0, .int kl, .ref g8, .ref g9, .ref g10, .ref g11, va_rf lst]))] t.heap ∧ va_D (va_A [(h, .inr (3, [.ref g0, .ref g1, .ref g2, .int (nI qm), .ref g4, .int om, .int kn, .int kl, .ref g8, .ref g9, .ref g10, .ref g11, va_rf lst]))] sz) [(h, .inr (3, [.ref g0, .ref g1, .ref g2, .int (nI 0), .ref g4, .int om, .int 0, .int kl, .ref g8, .ref g9, .ref g10, .ref g11, va_rf lst]))]) (va_A [(h, .inr (3, [.ref g0, .ref g1, .ref g2, .int (nI qm), .ref g4, .int om, .int kn, .int kl, .ref g8, .ref g9, .ref g10, .ref g11, va_rf lst]))] sz)) 0 0 (va_A [(h, .inr (3, [.ref g0, .ref g1, .ref g2, .int (nI qm), .ref g4, .int om, .int kn, .int kl, .ref g8, .ref g9, .ref g10, .ref g11, va_rf lst]))] sz) := by
  refine Met.ofW (cc := cX3_empty) (maxL := 1) (ret := none) (by decide) rfl ?_
  intro p e s m args below meth c s₁ B hml hv
  obtain ⟨rfl, hsz, hP, hK, hD0, hE⟩ := hv
  have hx := B.exec
  have hb := B.bytes
  have hr := B.returns
  have hts : ∀ w ∈ gT, w.before _ s = true := fun w h => atoms_spec (ws := Cond.code yX3_empty cX3_empty 1 none :: gT) B.pre w (List.mem_cons_of_mem _ h)
  have hown : s.vm.findClass RX3 = some m.cls := findClass_of_methodNamed B.named
  have hlocks := B.notSynchronized
  subst hsz
  have hD := hD0.self (sz := s.heap.size)
  generalize hAe : va_A [(h, .inr (3, [.ref g0, .ref g1, .ref g2, .int (nI qm), .ref g4, .int om, .int kn, .int kl, .ref g8, .ref g9, .ref g10, .ref g11, va_rf lst]))] s.heap.size = A at hD ⊢
  have hA : ∀ q : Nat, s.heap.size ≤ q → A q := fun q h => by rw [← hAe]; exact Or.inr h
  have hS : va_S A s.heap s.heap [] := va_S.rf
  have hl := lv_entry ([.ref h]) (n := 1) (Nat.le_of_ble_eq_true rfl)
  rw [lg_entry_eq]
  generalize (lg_sl ([.ref h]) ++ List.replicate (1 - (lg_sl ([.ref h])).length) Slot.unset).toArray = ls at hl ⊢
  have hl : lv_has ls 1 [(0, .ref h)] := hl
  refine lv_aload_n hx hb dX3_empty_0 rfl (lv_at hl 0 rfl) ?_
  refine lv_iconst (v := 0) hx hb dX3_empty_1 (by decide) ?_
  refine va_put (D := (dC, dI)) (ci := 3) (v := .int 0) (ty := .int) (C := RX3) (T := TX3) (N := 13) hx hb hts inX3 tyX3 tyX3_ok nmX3 hown hK hP hD hS 0 rfl rfl 3 (by decide) (hts _ mw_107) (fun _ h9 => h9) rfl (by decide +kernel) rfl rfl (Nat.le_of_ble_eq_true rfl) dX3_empty_2 (fun H locs hP hD hS => ?_)
  obtain ⟨hP, hD⟩ := va_bo [(h, .inr (3, [.ref g0, .ref g1, .ref g2, .int 0, .ref g4, .int om, .int kn, .int kl, .ref g8, .ref g9, .ref g10, .ref g11, va_rf lst]))] hP hD
  refine lv_aload_n hx hb dX3_empty_5 rfl (lv_at hl 0 rfl) ?_
  refine lv_iconst (v := 0) hx hb dX3_empty_6 (by decide) ?_
  refine va_put (D := (dC, dI)) (ci := 3) (v := .int 0) (ty := .boolean) (C := RX3) (T := TX3) (N := 13) hx hb hts inX3 tyX3 tyX3_ok nmX3 hown hK hP hD hS 0 rfl rfl 6 (by decide) (hts _ mw_113) (fun _ h9 => h9) rfl (by decide +kernel) rfl rfl (Nat.le_of_ble_eq_true rfl) dX3_empty_7 (fun H locs hP hD hS => ?_)
  obtain ⟨hP, hD⟩ := va_bo [(h, .inr (3, [.ref g0, .ref g1, .ref g2, .int 0, .ref g4, .int om, .int 0, .int kl, .ref g8, .ref g9, .ref g10, .ref g11, va_rf lst]))] hP hD
  refine W.widen (k := 0) (n := 0) (Nat.le_of_ble_eq_true rfl) (Nat.le_of_ble_eq_true rfl) ?_
  have hP9 : va_P (dC, dI) vwCl [(h, .inr (3, [.ref g0, .ref g1, .ref g2, .int (nI 0), .ref g4, .int om, .int 0, .int kl, .ref g8, .ref g9, .ref g10, .ref g11, va_rf lst]))] H := va_P.sub hP [0] rfl
  have hD9 : va_D A [(h, .inr (3, [.ref g0, .ref g1, .ref g2, .int (nI 0), .ref g4, .int om, .int 0, .int kl, .ref g8, .ref g9, .ref g10, .ref g11, va_rf lst]))] := va_D.sub hD [0] (by decide) rfl
  exact W.vret hx hb hr (fun t ht hW => ⟨⟨(), rfl, trivial, by rw [ht]; exact hP9, hD9⟩, hS.F ht⟩) hS.2.2 dX3_empty_10

set_option maxHeartbeats 4000000 in
set_option maxRecDepth 100000 in
theorem e_add (l : Launch) (dC : Nat → ClassId) (dI : Nat → Nat → Nat) (ca : Nat → ClassId) (sz : Nat) (h : Nat) (g0 : Nat) (g1 : Nat) (g2 : Nat) (g4 : Nat) (g8 : Nat) (g9 : Nat) (g10 : Nat) (g11 : Nat) (qm : Nat) (om : Int32) (kn : Int32) (kl : Int32) (lst : Option Nat) (qd : Nat → Int32) (kd : Nat → Int32) (v1 : Int32) (v2 : Int32) (hq : qI qm kd) (hv2 : cnt v2 5) : Met l yX3_add (Cond.code yX3_add cX3_add 4 (some .int) :: gT) ({ frames := 1, cells := 0, slots := 0, locals := 60 }) (va_Pc [.ref h, .int v1, .int v2] (pr (dC, dI) sz [(h, .inr (3, [.ref g0, .ref g1, .ref g2, .int (nI qm), .ref g4, .int om, .int kn, .int kl, .ref g8, .ref g9, .ref g10, .ref g11, va_rf lst])), (g1, .inl (ca 0, 10, .inl qd)), (g2, .inl (ca 0, 10, .inl kd))] (aT ca))) (va_Qi (fun (r : Int32) (u_ : Nat × Int32 × (Nat → Int32) × (Nat → Int32)) => r = adQ qm qd v1 ∧ u_.1 = qN r qm ∧ u_.2.2.1 = qF r qm qd v1 ∧ qI u_.1 u_.2.2.2 ∧ u_.2.2.2 = qF r qm kd v2 ∧ (¬ u_.2.1 = 0 → u_.2.1 = kn ∧ u_.1 = qm ∧ u_.2.2.1 = qd ∧ u_.2.2.2 = kd)) (fun (u_ : Nat × Int32 × (Nat → Int32) × (Nat → Int32)) t => va_P (dC, dI) vwCl [(h, .inr (3, [.ref g0, .ref g1, .ref g2, .int (nI u_.1), .ref g4, .int om, .int u_.2.1, .int kl, .ref g8, .ref g9, .ref g10, .ref g11, va_rf lst])), (g1, .inl (ca 0, 10, .inl u_.2.2.1)), (g2, .inl (ca 0, 10, .inl u_.2.2.2))] t.heap ∧ va_D (va_A [(h, .inr (3, [.ref g0, .ref g1, .ref g2, .int (nI qm), .ref g4, .int om, .int kn, .int kl, .ref g8, .ref g9, .ref g10, .ref g11, va_rf lst])), (g1, .inl (ca 0, 10, .inl qd)), (g2, .inl (ca 0, 10, .inl kd))] sz) [(h, .inr (3, [.ref g0, .ref g1, .ref g2, .int (nI u_.1), .ref g4, .int om, .int u_.2.1, .int kl, .ref g8, .ref g9, .ref g10, .ref g11, va_rf lst])), (g1, .inl (ca 0, 10, .inl u_.2.2.1)), (g2, .inl (ca 0, 10, .inl u_.2.2.2))]) (va_A [(h, .inr (3, [.ref g0, .ref g1, .ref g2, .int (nI qm), .ref g4, .int om, .int kn, .int kl, .ref g8, .ref g9, .ref g10, .ref g11, va_rf lst])), (g1, .inl (ca 0, 10, .inl qd)), (g2, .inl (ca 0, 10, .inl kd))] sz)) 0 0 (va_A [(h, .inr (3, [.ref g0, .ref g1, .ref g2, .int (nI qm), .ref g4, .int om, .int kn, .int kl, .ref g8, .ref g9, .ref g10, .ref g11, va_rf lst])), (g1, .inl (ca 0, 10, .inl qd)), (g2, .inl (ca 0, 10, .inl kd))] sz) := by
  refine Met.ofW (cc := cX3_add) (maxL := 4) (ret := (some .int)) (by decide) rfl ?_
  intro p e s m args below meth c s₁ B hml hv
  obtain ⟨rfl, hsz, hP, hK, hD0, hE⟩ := hv
  have hx := B.exec
  have hb := B.bytes
  have hr := B.returns
  have hts : ∀ w ∈ gT, w.before _ s = true := fun w h => atoms_spec (ws := Cond.code yX3_add cX3_add 4 (some .int) :: gT) B.pre w (List.mem_cons_of_mem _ h)
  have hown : s.vm.findClass RX3 = some m.cls := findClass_of_methodNamed B.named
  have hlocks := B.notSynchronized
  subst hsz
  have hD := hD0.self (sz := s.heap.size)
  generalize hAe : va_A [(h, .inr (3, [.ref g0, .ref g1, .ref g2, .int (nI qm), .ref g4, .int om, .int kn, .int kl, .ref g8, .ref g9, .ref g10, .ref g11, va_rf lst])), (g1, .inl (ca 0, 10, .inl qd)), (g2, .inl (ca 0, 10, .inl kd))] s.heap.size = A at hD ⊢
  have hA : ∀ q : Nat, s.heap.size ≤ q → A q := fun q h => by rw [← hAe]; exact Or.inr h
  have hS : va_S A s.heap s.heap [] := va_S.rf
  have hl := lv_entry ([.ref h, .int v1, .int v2]) (n := 4) (Nat.le_of_ble_eq_true rfl)
  rw [lg_entry_eq]
  generalize (lg_sl ([.ref h, .int v1, .int v2]) ++ List.replicate (4 - (lg_sl ([.ref h, .int v1, .int v2])).length) Slot.unset).toArray = ls at hl ⊢
  have hl : lv_has ls 4 [(0, .ref h), (1, .int v1), (2, .int v2)] := hl
  have hq0 := hq.1
  refine lv_iconst (v := 0) hx hb dX3_add_0 (by decide) ?_
  refine lv_istore_n (lv' := [(3, .int 0), (0, .ref h), (1, .int v1), (2, .int v2)]) hx hb dX3_add_1 rfl hl (by decide) rfl (fun ls hl => ?_)
  refine wl_loop (fun (z_ : Nat) H locs ls => (z_ ≤ qm ∧ inQ qd v1 z_ = false) ∧ va_P (dC, dI) vwCl [(h, .inr (3, [.ref g0, .ref g1, .ref g2, .int (nI qm), .ref g4, .int om, .int kn, .int kl, .ref g8, .ref g9, .ref g10, .ref g11, va_rf lst])), (g1, .inl (ca 0, 10, .inl qd)), (g2, .inl (ca 0, 10, .inl kd))] H ∧ va_D A [(h, .inr (3, [.ref g0, .ref g1, .ref g2, .int (nI qm), .ref g4, .int om, .int kn, .int kl, .ref g8, .ref g9, .ref g10, .ref g11, va_rf lst])), (g1, .inl (ca 0, 10, .inl qd)), (g2, .inl (ca 0, 10, .inl kd))] ∧ va_S A s.heap H locs ∧ lv_has ls 4 [(3, .int (nI z_)), (0, .ref h), (1, .int v1), (2, .int v2)]) (fun (z_ : Nat) => qm - z_) (fun z_ H locs ls hI ih => ?_) 0 ⟨⟨Nat.zero_le _, rfl⟩, hP, hD, hS, lv_sub hl [0, 1, 2, 3] rfl⟩
  revert hI ih; revert z_; intro i hI ih
  obtain ⟨⟨hi, hin_⟩, hP, hD, hS, hl⟩ := hI
  refine lv_iload_n hx hb dX3_add_2 rfl (lv_at hl 0 rfl) ?_
  refine lv_aload_n hx hb dX3_add_3 rfl (lv_at hl 1 rfl) ?_
  refine va_get (D := (dC, dI)) (ci := 3) (v := .int (nI qm)) (C := RX3) (T := TX3) (N := 13) hx hb hts inX3 hown hK hP 0 rfl rfl 3 (by decide) (hts _ mw_107) (fun _ h9 => h9) rfl dX3_add_4 ?_
  refine lv_icmp_ge (tgt := 28) hx hb dX3_add_7 (by decide) (fun c_1 => ?_) (fun c_1 => ?_)
  · have nc_1 : qm ≤ i := (nI_leI (a := qm) (b := i) (by omega) (by omega)).mp c_1
    refine lv_aload_n hx hb dX3_add_28 rfl (lv_at hl 1 rfl) ?_
    refine va_get (D := (dC, dI)) (ci := 3) (v := .int (nI qm)) (C := RX3) (T := TX3) (N := 13) hx hb hts inX3 hown hK hP 0 rfl rfl 3 (by decide) (hts _ mw_107) (fun _ h9 => h9) rfl dX3_add_29 ?_
    refine lv_bipush (v := 10) hx hb dX3_add_32 (by decide) ?_
    refine lv_icmp_lt (tgt := 39) hx hb dX3_add_34 (by decide) (fun c_2 => ?_) (fun c_2 => ?_)
    · have nc_2 : qm < 10 := (nI_ltI (a := qm) (b := 10) (by omega) (by omega)).mp c_2
      refine lv_aload_n hx hb dX3_add_39 rfl (lv_at hl 1 rfl) ?_
      refine va_get (D := (dC, dI)) (ci := 3) (v := .ref g1) (C := RX3) (T := TX3) (N := 13) hx hb hts inX3 hown hK hP 0 rfl rfl 1 (by decide) (hts _ mw_105) (fun _ h9 => h9) rfl dX3_add_40 ?_
      refine lv_aload_n hx hb dX3_add_43 rfl (lv_at hl 1 rfl) ?_
      refine va_get (D := (dC, dI)) (ci := 3) (v := .int (nI qm)) (C := RX3) (T := TX3) (N := 13) hx hb hts inX3 hown hK hP 0 rfl rfl 3 (by decide) (hts _ mw_107) (fun _ h9 => h9) rfl dX3_add_44 ?_
      refine lv_iload_n hx hb dX3_add_47 rfl (lv_at hl 2 rfl) ?_
      refine va_iast hx hb hK hP hD hS 1 0 rfl rfl (vp_in_nI (show qm < 10 by omega) (by first | decide | omega)) dX3_add_48 (fun H locs hP hD hS => ?_)
      rw [(show ((nI qm) : Int32).toNatClampNeg = qm from nI_clamp (by omega))] at hP hD
      obtain ⟨hP, hD⟩ := va_bo [(h, .inr (3, [.ref g0, .ref g1, .ref g2, .int (nI qm), .ref g4, .int om, .int kn, .int kl, .ref g8, .ref g9, .ref g10, .ref g11, va_rf lst])), (g1, .inl (ca 0, 10, .inl (upd qd qm v1))), (g2, .inl (ca 0, 10, .inl kd))] hP hD
      refine lv_aload_n hx hb dX3_add_49 rfl (lv_at hl 1 rfl) ?_
      refine va_get (D := (dC, dI)) (ci := 3) (v := .ref g2) (C := RX3) (T := TX3) (N := 13) hx hb hts inX3 hown hK hP 0 rfl rfl 2 (by decide) (hts _ mw_106) (fun _ h9 => h9) rfl dX3_add_50 ?_
      refine lv_aload_n hx hb dX3_add_53 rfl (lv_at hl 1 rfl) ?_
      refine va_get (D := (dC, dI)) (ci := 3) (v := .int (nI qm)) (C := RX3) (T := TX3) (N := 13) hx hb hts inX3 hown hK hP 0 rfl rfl 3 (by decide) (hts _ mw_107) (fun _ h9 => h9) rfl dX3_add_54 ?_
      refine lv_iload_n hx hb dX3_add_57 rfl (lv_at hl 3 rfl) ?_
      refine va_iast hx hb hK hP hD hS 2 0 rfl rfl (vp_in_nI (show qm < 10 by omega) (by first | decide | omega)) dX3_add_58 (fun H locs hP hD hS => ?_)
      rw [(show ((nI qm) : Int32).toNatClampNeg = qm from nI_clamp (by omega))] at hP hD
      obtain ⟨hP, hD⟩ := va_bo [(h, .inr (3, [.ref g0, .ref g1, .ref g2, .int (nI qm), .ref g4, .int om, .int kn, .int kl, .ref g8, .ref g9, .ref g10, .ref g11, va_rf lst])), (g1, .inl (ca 0, 10, .inl (upd qd qm v1))), (g2, .inl (ca 0, 10, .inl (upd kd qm v2)))] hP hD
      refine lv_aload_n hx hb dX3_add_59 rfl (lv_at hl 1 rfl) ?_
      refine lv_dup hx hb dX3_add_60 rfl ?_
      refine va_get (D := (dC, dI)) (ci := 3) (v := .int (nI qm)) (C := RX3) (T := TX3) (N := 13) hx hb hts inX3 hown hK hP 0 rfl rfl 3 (by decide) (hts _ mw_107) (fun _ h9 => h9) rfl dX3_add_61 ?_
      refine lv_iconst (v := 1) hx hb dX3_add_64 (by decide) ?_
      refine lv_iadd hx hb dX3_add_65 ?_
      refine lv_topi (fun y_ e_ => ?_)
      obtain rfl : y_ = (nI (qm + 1)) := e_.trans (nI_add (qm) (1))
      refine va_put (D := (dC, dI)) (ci := 3) (v := .int (nI (qm + 1))) (ty := .int) (C := RX3) (T := TX3) (N := 13) hx hb hts inX3 tyX3 tyX3_ok nmX3 hown hK hP hD hS 0 rfl rfl 3 (by decide) (hts _ mw_107) (fun _ h9 => h9) rfl (by decide +kernel) rfl rfl (Nat.le_of_ble_eq_true rfl) dX3_add_66 (fun H locs hP hD hS => ?_)
      obtain ⟨hP, hD⟩ := va_bo [(h, .inr (3, [.ref g0, .ref g1, .ref g2, .int (nI (qm + 1)), .ref g4, .int om, .int kn, .int kl, .ref g8, .ref g9, .ref g10, .ref g11, va_rf lst])), (g1, .inl (ca 0, 10, .inl (upd qd qm v1))), (g2, .inl (ca 0, 10, .inl (upd kd qm v2)))] hP hD
      refine lv_aload_n hx hb dX3_add_69 rfl (lv_at hl 1 rfl) ?_
      refine lv_iconst (v := 0) hx hb dX3_add_70 (by decide) ?_
      refine va_put (D := (dC, dI)) (ci := 3) (v := .int 0) (ty := .boolean) (C := RX3) (T := TX3) (N := 13) hx hb hts inX3 tyX3 tyX3_ok nmX3 hown hK hP hD hS 0 rfl rfl 6 (by decide) (hts _ mw_113) (fun _ h9 => h9) rfl (by decide +kernel) rfl rfl (Nat.le_of_ble_eq_true rfl) dX3_add_71 (fun H locs hP hD hS => ?_)
      obtain ⟨hP, hD⟩ := va_bo [(h, .inr (3, [.ref g0, .ref g1, .ref g2, .int (nI (qm + 1)), .ref g4, .int om, .int 0, .int kl, .ref g8, .ref g9, .ref g10, .ref g11, va_rf lst])), (g1, .inl (ca 0, 10, .inl (upd qd qm v1))), (g2, .inl (ca 0, 10, .inl (upd kd qm v2)))] hP hD
      refine lv_aload_n hx hb dX3_add_74 rfl (lv_at hl 1 rfl) ?_
      refine va_get (D := (dC, dI)) (ci := 3) (v := .int (nI (qm + 1))) (C := RX3) (T := TX3) (N := 13) hx hb hts inX3 hown hK hP 0 rfl rfl 3 (by decide) (hts _ mw_107) (fun _ h9 => h9) rfl dX3_add_75 ?_
      refine W.widen (k := 0) (n := 0) (Nat.le_of_ble_eq_true rfl) (Nat.le_of_ble_eq_true rfl) ?_
      have hP9 : va_P (dC, dI) vwCl [(h, .inr (3, [.ref g0, .ref g1, .ref g2, .int (nI (qm + 1)), .ref g4, .int om, .int 0, .int kl, .ref g8, .ref g9, .ref g10, .ref g11, va_rf lst])), (g1, .inl (ca 0, 10, .inl (upd qd qm v1))), (g2, .inl (ca 0, 10, .inl (upd kd qm v2)))] H := va_P.sub hP [0, 1, 2] rfl
      have hD9 : va_D A [(h, .inr (3, [.ref g0, .ref g1, .ref g2, .int (nI (qm + 1)), .ref g4, .int om, .int 0, .int kl, .ref g8, .ref g9, .ref g10, .ref g11, va_rf lst])), (g1, .inl (ca 0, 10, .inl (upd qd qm v1))), (g2, .inl (ca 0, 10, .inl (upd kd qm v2)))] := va_D.sub hD [0, 1, 2] (by decide) rfl
      exact W.iret (v := (nI (qm + 1))) hx hb hr (fun t ht hW => ⟨⟨(nI (qm + 1)), (qm + 1, 0, (upd qd qm v1), (upd kd qm v2)), rfl, ⟨adQ_y (show i = qm by omega) hin_ (by omega), qN_y (by omega), qF_y (by omega), qI_add hq (by omega) hv2, qF_y (by omega), fun h9 => absurd rfl h9⟩, by rw [ht]; dsimp only; exact hP9, by dsimp only; exact hD9⟩, hS.F ht⟩) hS.2.2 dX3_add_78
    · have nc_2 : ¬ (qm < 10) := fun h9 => c_2 ((nI_ltI (a := qm) (b := 10) (by omega) (by omega)).mpr h9)
      refine lv_iconst (v := (-1)) hx hb dX3_add_37 (by decide) ?_
      refine W.widen (k := 0) (n := 0) (Nat.le_of_ble_eq_true rfl) (Nat.le_of_ble_eq_true rfl) ?_
      have hP9 : va_P (dC, dI) vwCl [(h, .inr (3, [.ref g0, .ref g1, .ref g2, .int (nI qm), .ref g4, .int om, .int kn, .int kl, .ref g8, .ref g9, .ref g10, .ref g11, va_rf lst])), (g1, .inl (ca 0, 10, .inl qd)), (g2, .inl (ca 0, 10, .inl kd))] H := va_P.sub hP [0, 1, 2] rfl
      have hD9 : va_D A [(h, .inr (3, [.ref g0, .ref g1, .ref g2, .int (nI qm), .ref g4, .int om, .int kn, .int kl, .ref g8, .ref g9, .ref g10, .ref g11, va_rf lst])), (g1, .inl (ca 0, 10, .inl qd)), (g2, .inl (ca 0, 10, .inl kd))] := va_D.sub hD [0, 1, 2] (by decide) rfl
      exact W.iret (v := (-1)) hx hb hr (fun t ht hW => ⟨⟨(-1), (qm, kn, qd, kd), rfl, ⟨adQ_f (show 10 ≤ qm by omega), rfl, rfl, hq, rfl, fun _ => ⟨rfl, rfl, rfl, rfl⟩⟩, by rw [ht]; dsimp only; exact hP9, by dsimp only; exact hD9⟩, hS.F ht⟩) hS.2.2 dX3_add_38
  · have nc_1 : ¬ (qm ≤ i) := fun h9 => c_1 ((nI_leI (a := qm) (b := i) (by omega) (by omega)).mpr h9)
    refine lv_aload_n hx hb dX3_add_10 rfl (lv_at hl 1 rfl) ?_
    refine va_get (D := (dC, dI)) (ci := 3) (v := .ref g1) (C := RX3) (T := TX3) (N := 13) hx hb hts inX3 hown hK hP 0 rfl rfl 1 (by decide) (hts _ mw_105) (fun _ h9 => h9) rfl dX3_add_11 ?_
    refine lv_iload_n hx hb dX3_add_14 rfl (lv_at hl 0 rfl) ?_
    refine va_iald hx hb hK hP 1 0 rfl rfl (vp_in_nI (show i < 10 by omega) (by first | decide | omega)) dX3_add_15 ?_
    refine lv_topi (fun y_ e_ => ?_)
    obtain rfl : y_ = (qd i) := e_.trans (congrArg qd (show ((nI i) : Int32).toNatClampNeg = i from nI_clamp (by omega)))
    refine lv_iload_n hx hb dX3_add_16 rfl (lv_at hl 2 rfl) ?_
    refine lv_icmp_ne (tgt := 22) hx hb dX3_add_17 (by decide) (fun c_3 => ?_) (fun c_3 => ?_)
    · refine lv_iinc (v := (nI (i + 1))) (lv' := [(3, .int (nI (i + 1))), (0, .ref h), (1, .int v1), (2, .int v2)]) hx hb dX3_add_22 hl (k := 0) rfl (nI_add (i) 1) (by decide) rfl (fun ls hl => ?_)
      refine lv_goto (tgt := 2) hx hb dX3_add_25 (by decide) ?_
      exact ih (i + 1) _ _ _ (by omega) ⟨⟨by omega, inQ_n hin_ c_3⟩, hP, hD, hS, lv_sub hl [0, 1, 2, 3] rfl⟩
    · refine lv_iconst (v := (-1)) hx hb dX3_add_20 (by decide) ?_
      refine W.widen (k := 0) (n := 0) (Nat.le_of_ble_eq_true rfl) (Nat.le_of_ble_eq_true rfl) ?_
      have hP9 : va_P (dC, dI) vwCl [(h, .inr (3, [.ref g0, .ref g1, .ref g2, .int (nI qm), .ref g4, .int om, .int kn, .int kl, .ref g8, .ref g9, .ref g10, .ref g11, va_rf lst])), (g1, .inl (ca 0, 10, .inl qd)), (g2, .inl (ca 0, 10, .inl kd))] H := va_P.sub hP [0, 1, 2] rfl
      have hD9 : va_D A [(h, .inr (3, [.ref g0, .ref g1, .ref g2, .int (nI qm), .ref g4, .int om, .int kn, .int kl, .ref g8, .ref g9, .ref g10, .ref g11, va_rf lst])), (g1, .inl (ca 0, 10, .inl qd)), (g2, .inl (ca 0, 10, .inl kd))] := va_D.sub hD [0, 1, 2] (by decide) rfl
      exact W.iret (v := (-1)) hx hb hr (fun t ht hW => ⟨⟨(-1), (qm, kn, qd, kd), rfl, ⟨adQ_d (show i < qm by omega) c_3, rfl, rfl, hq, rfl, fun _ => ⟨rfl, rfl, rfl, rfl⟩⟩, by rw [ht]; dsimp only; exact hP9, by dsimp only; exact hD9⟩, hS.F ht⟩) hS.2.2 dX3_add_21

def spW (v1 v2 v3 : Int32) : Int32 := if wi v1 0 5 = 0 then 0 else if wi v2 0 5 = 0 then 0 else if wi v3 0 600 = 0 then 0 else 1
def wsF (r v1 v2 v3 : Int32) (ws : Nat → Int32) : Nat → Int32 := if r = 0 then ws else upd ws (v1 * 6 + v2 : Int32).toNatClampNeg v3
theorem spW_c {v1 v2 v3 : Int32} (h : ¬ spW v1 v2 v3 = 0) : cnt v3 600 := by
  unfold spW at h
  by_cases h1 : wi v1 0 5 = 0
  · rw [if_pos h1] at h; exact absurd rfl h
  · by_cases h2 : wi v2 0 5 = 0
    · rw [if_neg h1, if_pos h2] at h; exact absurd rfl h
    · by_cases h3 : wi v3 0 600 = 0
      · rw [if_neg h1, if_neg h2, if_pos h3] at h; exact absurd rfl h
      · obtain ⟨n, e, h4, h5⟩ := wi_nat h3 (by decide)
        exact ⟨n, by have e6 : (600 : Int32).toInt = 600 := by decide
                     omega, e⟩
theorem wsF_c {r v1 v2 v3 : Int32} {ws ws2 : Nat → Int32} (hr : r = spW v1 v2 v3) (h : ∀ j, cnt (ws j) 600) (e : ws2 = wsF r v1 v2 v3 ws) : ∀ j, cnt (ws2 j) 600 := fun j => by
  rw [e]
  unfold wsF
  by_cases h1 : r = 0
  · rw [if_pos h1]; exact h j
  · rw [if_neg h1]
    by_cases h2 : j = (v1 * 6 + v2 : Int32).toNatClampNeg
    · rw [h2, pk_us]; exact spW_c (hr ▸ h1)
    · rw [pk_un h2]; exact h j

set_option maxHeartbeats 4000000 in
set_option maxRecDepth 100000 in
theorem k_wash (l : Launch) (dC : Nat → ClassId) (dI : Nat → Nat → Nat) (ca : Nat → ClassId) (sz : Nat) (x : Nat) (a : Nat → Nat) (nl : Nat) (nb : Nat) (np : Nat) (nx : Nat) (g0 : Nat) (g1 : Nat) (g2 : Nat) (g4 : Nat) (g8 : Nat) (g9 : Nat) (g10 : Nat) (g11 : Nat) (qm : Nat) (om : Int32) (kn : Int32) (kl : Int32) (lst : Option Nat) (ws : Nat → Int32) (v1 : Int32) (v2 : Int32) (v3 : Int32) : Met l yX10_wash (Cond.code yX10_wash cX10_wash 4 (some .boolean) :: gT) ({ frames := 3, cells := 0, slots := 0, locals := 102 }) (va_Pc [.ref x, .int v1, .int v2, .int v3] (pr (dC, dI) sz [(x, .inr (10, [.ref (a 0), .int (nI nl), .ref (a 2), .int (nI nb), .ref (a 4), .int (nI np), .ref (a 6), .int (nI nx), .ref (a 8), .ref (a 9), .ref (a 10), .ref (a 11), .ref (a 12), .ref (a 13), .ref (a 14)])), ((a 12), .inr (3, [.ref g0, .ref g1, .ref g2, .int (nI qm), .ref g4, .int om, .int kn, .int kl, .ref g8, .ref g9, .ref g10, .ref g11, va_rf lst])), (g0, .inl (ca 0, 36, .inl ws))] (aT ca))) (va_Qi (fun (r : Int32) (u_ : Int32 × (Nat → Int32)) => r = spW v1 v2 v3 ∧ u_.2 = wsF r v1 v2 v3 ws ∧ (¬ u_.1 = 0 → u_.1 = kn ∧ u_.2 = ws)) (fun (u_ : Int32 × (Nat → Int32)) t => va_P (dC, dI) vwCl [(x, .inr (10, [.ref (a 0), .int (nI nl), .ref (a 2), .int (nI nb), .ref (a 4), .int (nI np), .ref (a 6), .int (nI nx), .ref (a 8), .ref (a 9), .ref (a 10), .ref (a 11), .ref (a 12), .ref (a 13), .ref (a 14)])), ((a 12), .inr (3, [.ref g0, .ref g1, .ref g2, .int (nI qm), .ref g4, .int om, .int u_.1, .int kl, .ref g8, .ref g9, .ref g10, .ref g11, va_rf lst])), (g0, .inl (ca 0, 36, .inl u_.2))] t.heap ∧ va_D (va_A [(x, .inr (10, [.ref (a 0), .int (nI nl), .ref (a 2), .int (nI nb), .ref (a 4), .int (nI np), .ref (a 6), .int (nI nx), .ref (a 8), .ref (a 9), .ref (a 10), .ref (a 11), .ref (a 12), .ref (a 13), .ref (a 14)])), ((a 12), .inr (3, [.ref g0, .ref g1, .ref g2, .int (nI qm), .ref g4, .int om, .int kn, .int kl, .ref g8, .ref g9, .ref g10, .ref g11, va_rf lst])), (g0, .inl (ca 0, 36, .inl ws))] sz) [(x, .inr (10, [.ref (a 0), .int (nI nl), .ref (a 2), .int (nI nb), .ref (a 4), .int (nI np), .ref (a 6), .int (nI nx), .ref (a 8), .ref (a 9), .ref (a 10), .ref (a 11), .ref (a 12), .ref (a 13), .ref (a 14)])), ((a 12), .inr (3, [.ref g0, .ref g1, .ref g2, .int (nI qm), .ref g4, .int om, .int u_.1, .int kl, .ref g8, .ref g9, .ref g10, .ref g11, va_rf lst])), (g0, .inl (ca 0, 36, .inl u_.2))]) (va_A [(x, .inr (10, [.ref (a 0), .int (nI nl), .ref (a 2), .int (nI nb), .ref (a 4), .int (nI np), .ref (a 6), .int (nI nx), .ref (a 8), .ref (a 9), .ref (a 10), .ref (a 11), .ref (a 12), .ref (a 13), .ref (a 14)])), ((a 12), .inr (3, [.ref g0, .ref g1, .ref g2, .int (nI qm), .ref g4, .int om, .int kn, .int kl, .ref g8, .ref g9, .ref g10, .ref g11, va_rf lst])), (g0, .inl (ca 0, 36, .inl ws))] sz)) 0 0 (va_A [(x, .inr (10, [.ref (a 0), .int (nI nl), .ref (a 2), .int (nI nb), .ref (a 4), .int (nI np), .ref (a 6), .int (nI nx), .ref (a 8), .ref (a 9), .ref (a 10), .ref (a 11), .ref (a 12), .ref (a 13), .ref (a 14)])), ((a 12), .inr (3, [.ref g0, .ref g1, .ref g2, .int (nI qm), .ref g4, .int om, .int kn, .int kl, .ref g8, .ref g9, .ref g10, .ref g11, va_rf lst])), (g0, .inl (ca 0, 36, .inl ws))] sz) := by
  refine Met.ofW (cc := cX10_wash) (maxL := 4) (ret := (some .boolean)) (by decide) rfl ?_
  intro p e s m args below meth c s₁ B hml hv
  obtain ⟨rfl, hsz, hP, hK, hD0, hE⟩ := hv
  have hx := B.exec
  have hb := B.bytes
  have hr := B.returns
  have hts : ∀ w ∈ gT, w.before _ s = true := fun w h => atoms_spec (ws := Cond.code yX10_wash cX10_wash 4 (some .boolean) :: gT) B.pre w (List.mem_cons_of_mem _ h)
  have hown : s.vm.findClass RX10 = some m.cls := findClass_of_methodNamed B.named
  have hlocks := B.notSynchronized
  subst hsz
  have hD := hD0.self (sz := s.heap.size)
  generalize hAe : va_A [(x, .inr (10, [.ref (a 0), .int (nI nl), .ref (a 2), .int (nI nb), .ref (a 4), .int (nI np), .ref (a 6), .int (nI nx), .ref (a 8), .ref (a 9), .ref (a 10), .ref (a 11), .ref (a 12), .ref (a 13), .ref (a 14)])), ((a 12), .inr (3, [.ref g0, .ref g1, .ref g2, .int (nI qm), .ref g4, .int om, .int kn, .int kl, .ref g8, .ref g9, .ref g10, .ref g11, va_rf lst])), (g0, .inl (ca 0, 36, .inl ws))] s.heap.size = A at hD ⊢
  have hA : ∀ q : Nat, s.heap.size ≤ q → A q := fun q h => by rw [← hAe]; exact Or.inr h
  have hS : va_S A s.heap s.heap [] := va_S.rf
  have hl := lv_entry ([.ref x, .int v1, .int v2, .int v3]) (n := 4) (Nat.le_of_ble_eq_true rfl)
  rw [lg_entry_eq]
  generalize (lg_sl ([.ref x, .int v1, .int v2, .int v3]) ++ List.replicate (4 - (lg_sl ([.ref x, .int v1, .int v2, .int v3])).length) Slot.unset).toArray = ls at hl ⊢
  have hl : lv_has ls 4 [(0, .ref x), (1, .int v1), (2, .int v2), (3, .int v3)] := hl
  refine lv_iload_n hx hb dX10_wash_0 rfl (lv_at hl 1 rfl) ?_
  have hPc := hP.sub (ws' := []) [] rfl
  refine pc_i (va_runS (As := [.int v1]) (rest := []) ⟨hx, hb, hml, hown, hts⟩ (c_isKind l dC dI ca v1 ) (⟨callB_of 1 hts (gd mw_275) rfl rfl rfl (hts _ mw_1) (hts _ mw_273) ds_X10_isKind ⟨Nat.le_of_ble_eq_true rfl, Nat.le_of_ble_eq_true rfl⟩, (hts _ mw_274)⟩) (pu_S hPc hK hE) rfl rfl hl.1 rfl (lv_room (Nat.le_of_ble_eq_true rfl)) dX10_wash_1 ⟨Nat.le_of_ble_eq_true rfl, Nat.le_of_ble_eq_true rfl⟩) (fun rv_1 hw_ => ?_)
  obtain rfl : rv_1 = (wi v1 0 5) := hw_
  refine lv_if_eq (tgt := 25) hx hb dX10_wash_4 (by decide) (fun c_2 => ?_) (fun c_2 => ?_)
  · refine lv_iconst (v := 0) hx hb dX10_wash_25 (by decide) ?_
    refine W.widen (k := 0) (n := 0) (Nat.le_of_ble_eq_true rfl) (Nat.le_of_ble_eq_true rfl) ?_
    have hP9 : va_P (dC, dI) vwCl [(x, .inr (10, [.ref (a 0), .int (nI nl), .ref (a 2), .int (nI nb), .ref (a 4), .int (nI np), .ref (a 6), .int (nI nx), .ref (a 8), .ref (a 9), .ref (a 10), .ref (a 11), .ref (a 12), .ref (a 13), .ref (a 14)])), ((a 12), .inr (3, [.ref g0, .ref g1, .ref g2, .int (nI qm), .ref g4, .int om, .int kn, .int kl, .ref g8, .ref g9, .ref g10, .ref g11, va_rf lst])), (g0, .inl (ca 0, 36, .inl ws))] s.heap := va_P.sub hP [0, 1, 2] rfl
    have hD9 : va_D A [(x, .inr (10, [.ref (a 0), .int (nI nl), .ref (a 2), .int (nI nb), .ref (a 4), .int (nI np), .ref (a 6), .int (nI nx), .ref (a 8), .ref (a 9), .ref (a 10), .ref (a 11), .ref (a 12), .ref (a 13), .ref (a 14)])), ((a 12), .inr (3, [.ref g0, .ref g1, .ref g2, .int (nI qm), .ref g4, .int om, .int kn, .int kl, .ref g8, .ref g9, .ref g10, .ref g11, va_rf lst])), (g0, .inl (ca 0, 36, .inl ws))] := va_D.sub hD [0, 1, 2] (by decide) rfl
    exact W.zret (v := 0) (ty := .boolean) hx hb hr rfl (fun t ht hW => ⟨⟨0, (kn, ws), rfl, ⟨by unfold spW; simp [c_2], rfl, fun _ => ⟨rfl, rfl⟩⟩, by rw [ht]; dsimp only; exact hP9, by dsimp only; exact hD9⟩, hS.F ht⟩) hS.2.2 dX10_wash_26
  · refine lv_iload_n hx hb dX10_wash_7 rfl (lv_at hl 2 rfl) ?_
    have hPc := hP.sub (ws' := []) [] rfl
    refine pc_i (va_runS (As := [.int v2]) (rest := []) ⟨hx, hb, hml, hown, hts⟩ (c_isKind l dC dI ca v2 ) (⟨callB_of 1 hts (gd mw_275) rfl rfl rfl (hts _ mw_1) (hts _ mw_273) ds_X10_isKind ⟨Nat.le_of_ble_eq_true rfl, Nat.le_of_ble_eq_true rfl⟩, (hts _ mw_274)⟩) (pu_S hPc hK hE) rfl rfl hl.1 rfl (lv_room (Nat.le_of_ble_eq_true rfl)) dX10_wash_8 ⟨Nat.le_of_ble_eq_true rfl, Nat.le_of_ble_eq_true rfl⟩) (fun rv_3 hw_ => ?_)
    obtain rfl : rv_3 = (wi v2 0 5) := hw_
    refine lv_if_eq (tgt := 25) hx hb dX10_wash_11 (by decide) (fun c_4 => ?_) (fun c_4 => ?_)
    · refine lv_iconst (v := 0) hx hb dX10_wash_25 (by decide) ?_
      refine W.widen (k := 0) (n := 0) (Nat.le_of_ble_eq_true rfl) (Nat.le_of_ble_eq_true rfl) ?_
      have hP9 : va_P (dC, dI) vwCl [(x, .inr (10, [.ref (a 0), .int (nI nl), .ref (a 2), .int (nI nb), .ref (a 4), .int (nI np), .ref (a 6), .int (nI nx), .ref (a 8), .ref (a 9), .ref (a 10), .ref (a 11), .ref (a 12), .ref (a 13), .ref (a 14)])), ((a 12), .inr (3, [.ref g0, .ref g1, .ref g2, .int (nI qm), .ref g4, .int om, .int kn, .int kl, .ref g8, .ref g9, .ref g10, .ref g11, va_rf lst])), (g0, .inl (ca 0, 36, .inl ws))] s.heap := va_P.sub hP [0, 1, 2] rfl
      have hD9 : va_D A [(x, .inr (10, [.ref (a 0), .int (nI nl), .ref (a 2), .int (nI nb), .ref (a 4), .int (nI np), .ref (a 6), .int (nI nx), .ref (a 8), .ref (a 9), .ref (a 10), .ref (a 11), .ref (a 12), .ref (a 13), .ref (a 14)])), ((a 12), .inr (3, [.ref g0, .ref g1, .ref g2, .int (nI qm), .ref g4, .int om, .int kn, .int kl, .ref g8, .ref g9, .ref g10, .ref g11, va_rf lst])), (g0, .inl (ca 0, 36, .inl ws))] := va_D.sub hD [0, 1, 2] (by decide) rfl
      exact W.zret (v := 0) (ty := .boolean) hx hb hr rfl (fun t ht hW => ⟨⟨0, (kn, ws), rfl, ⟨by unfold spW; simp [c_2, c_4], rfl, fun _ => ⟨rfl, rfl⟩⟩, by rw [ht]; dsimp only; exact hP9, by dsimp only; exact hD9⟩, hS.F ht⟩) hS.2.2 dX10_wash_26
    · refine lv_iload_n hx hb dX10_wash_14 rfl (lv_at hl 3 rfl) ?_
      refine lv_iconst (v := 0) hx hb dX10_wash_15 (by decide) ?_
      refine lv_sipush (v := 600) hx hb dX10_wash_16 (by decide) ?_
      have hPc := hP.sub (ws' := []) [] rfl
      refine pc_i (va_runS (As := [.int v3, .int 0, .int 600]) (rest := []) ⟨hx, hb, hml, hown, hts⟩ (c_within l dC dI ca v3 0 600 ) (⟨callB_of 3 hts (gd mw_254) rfl rfl rfl (hts _ mw_1) (hts _ mw_252) ds_X10_within ⟨Nat.le_of_ble_eq_true rfl, Nat.le_of_ble_eq_true rfl⟩, (hts _ mw_253)⟩) (pu_S hPc hK hE) rfl rfl hl.1 rfl (lv_room (Nat.le_of_ble_eq_true rfl)) dX10_wash_19 ⟨Nat.le_of_ble_eq_true rfl, Nat.le_of_ble_eq_true rfl⟩) (fun rv_5 hw_ => ?_)
      obtain rfl : rv_5 = (wi v3 0 600) := hw_
      refine lv_if_ne (tgt := 27) hx hb dX10_wash_22 (by decide) (fun c_6 => ?_) (fun c_6 => ?_)
      · refine lv_aload_n hx hb dX10_wash_27 rfl (lv_at hl 0 rfl) ?_
        refine va_get (D := (dC, dI)) (ci := 10) (v := .ref (a 12)) (C := RX10) (T := TX10) (N := 15) hx hb hts inX10 hown hK hP 0 rfl rfl 12 (by decide) (hts _ mw_213) (fun _ h9 => h9) rfl dX10_wash_28 ?_
        refine lv_iload_n hx hb dX10_wash_31 rfl (lv_at hl 1 rfl) ?_
        refine lv_iload_n hx hb dX10_wash_32 rfl (lv_at hl 2 rfl) ?_
        refine lv_iload_n hx hb dX10_wash_33 rfl (lv_at hl 3 rfl) ?_
        have hPc := hP.sub (ws' := [((a 12), .inr (3, [.ref g0, .ref g1, .ref g2, .int (nI qm), .ref g4, .int om, .int kn, .int kl, .ref g8, .ref g9, .ref g10, .ref g11, va_rf lst])), (g0, .inl (ca 0, 36, .inl ws))]) [1, 2] rfl
        have hDc := hD.sub (ws' := [((a 12), .inr (3, [.ref g0, .ref g1, .ref g2, .int (nI qm), .ref g4, .int om, .int kn, .int kl, .ref g8, .ref g9, .ref g10, .ref g11, va_rf lst])), (g0, .inl (ca 0, 36, .inl ws))]) [1, 2] (by decide) rfl
        have hFc := va_free (wc := [((a 12), .inr (3, [.ref g0, .ref g1, .ref g2, .int (nI qm), .ref g4, .int om, .int kn, .int kl, .ref g8, .ref g9, .ref g10, .ref g11, va_rf lst])), (g0, .inl (ca 0, 36, .inl ws))]) hD hS hA [1, 2] rfl
        refine va_callv (va_runV (As := [.int v1, .int v2, .int v3]) (rest := []) ⟨hx, hb, hml, hown, hts⟩ (e_setWashing l dC dI ca s.heap.size (a 12) g0 g1 g2 g4 g8 g9 g10 g11 qm om kn kl lst ws v1 v2 v3 c_2 c_4) (⟨callB_of 3 hts (gd mw_792) rfl rfl rfl (hts _ mw_5) (hts _ mw_789) ds_X3_setWashing ⟨Nat.le_of_ble_eq_true rfl, Nat.le_of_ble_eq_true rfl⟩, (hts _ mw_790), (hts _ mw_791)⟩) (pr_V hPc hK hDc hE (va_recv hK hPc (ci := 3) (q0 := 0) rfl rfl)) rfl rfl hl.1 rfl (lv_room (Nat.le_of_ble_eq_true rfl)) dX10_wash_34 ⟨Nat.le_of_ble_eq_true rfl, Nat.le_of_ble_eq_true rfl⟩) hS (fun q _ h => hFc q h) hFc (fun ws2_7 t_ H1 locs ht hvm hw_ hB hz1 hk1 hS => ?_)
        have hw_7 := hw_
        obtain ⟨hP1, hD1⟩ := hB
        rw [ht] at hP1
        obtain ⟨hP, hD⟩ := va_join (wr := [(x, .inr (10, [.ref (a 0), .int (nI nl), .ref (a 2), .int (nI nb), .ref (a 4), .int (nI np), .ref (a 6), .int (nI nx), .ref (a 8), .ref (a 9), .ref (a 10), .ref (a 11), .ref (a 12), .ref (a 13), .ref (a 14)]))]) (w1 := [((a 12), .inr (3, [.ref g0, .ref g1, .ref g2, .int (nI qm), .ref g4, .int om, .int 0, .int kl, .ref g8, .ref g9, .ref g10, .ref g11, va_rf lst])), (g0, .inl (ca 0, 36, .inl ws2_7))]) hP hD [1, 2] [0] rfl rfl (by decide) (by decide) hk1 hFc hP1 hD1
        generalize H1 = H at hP hS ⊢
        obtain ⟨hP, hD⟩ := va_bo [(x, .inr (10, [.ref (a 0), .int (nI nl), .ref (a 2), .int (nI nb), .ref (a 4), .int (nI np), .ref (a 6), .int (nI nx), .ref (a 8), .ref (a 9), .ref (a 10), .ref (a 11), .ref (a 12), .ref (a 13), .ref (a 14)])), ((a 12), .inr (3, [.ref g0, .ref g1, .ref g2, .int (nI qm), .ref g4, .int om, .int 0, .int kl, .ref g8, .ref g9, .ref g10, .ref g11, va_rf lst])), (g0, .inl (ca 0, 36, .inl ws2_7))] hP hD
        refine lv_iconst (v := 1) hx hb dX10_wash_37 (by decide) ?_
        refine W.widen (k := 0) (n := 0) (Nat.le_of_ble_eq_true rfl) (Nat.le_of_ble_eq_true rfl) ?_
        have hP9 : va_P (dC, dI) vwCl [(x, .inr (10, [.ref (a 0), .int (nI nl), .ref (a 2), .int (nI nb), .ref (a 4), .int (nI np), .ref (a 6), .int (nI nx), .ref (a 8), .ref (a 9), .ref (a 10), .ref (a 11), .ref (a 12), .ref (a 13), .ref (a 14)])), ((a 12), .inr (3, [.ref g0, .ref g1, .ref g2, .int (nI qm), .ref g4, .int om, .int 0, .int kl, .ref g8, .ref g9, .ref g10, .ref g11, va_rf lst])), (g0, .inl (ca 0, 36, .inl ws2_7))] H := va_P.sub hP [0, 1, 2] rfl
        have hD9 : va_D A [(x, .inr (10, [.ref (a 0), .int (nI nl), .ref (a 2), .int (nI nb), .ref (a 4), .int (nI np), .ref (a 6), .int (nI nx), .ref (a 8), .ref (a 9), .ref (a 10), .ref (a 11), .ref (a 12), .ref (a 13), .ref (a 14)])), ((a 12), .inr (3, [.ref g0, .ref g1, .ref g2, .int (nI qm), .ref g4, .int om, .int 0, .int kl, .ref g8, .ref g9, .ref g10, .ref g11, va_rf lst])), (g0, .inl (ca 0, 36, .inl ws2_7))] := va_D.sub hD [0, 1, 2] (by decide) rfl
        exact W.zret (v := 1) (ty := .boolean) hx hb hr rfl (fun t ht hW => ⟨⟨1, (0, ws2_7), rfl, ⟨by unfold spW; simp [c_2, c_4, c_6], hw_7, fun h9 => absurd rfl h9⟩, by rw [ht]; dsimp only; exact hP9, by dsimp only; exact hD9⟩, hS.F ht⟩) hS.2.2 dX10_wash_38
      · refine lv_iconst (v := 0) hx hb dX10_wash_25 (by decide) ?_
        refine W.widen (k := 0) (n := 0) (Nat.le_of_ble_eq_true rfl) (Nat.le_of_ble_eq_true rfl) ?_
        have hP9 : va_P (dC, dI) vwCl [(x, .inr (10, [.ref (a 0), .int (nI nl), .ref (a 2), .int (nI nb), .ref (a 4), .int (nI np), .ref (a 6), .int (nI nx), .ref (a 8), .ref (a 9), .ref (a 10), .ref (a 11), .ref (a 12), .ref (a 13), .ref (a 14)])), ((a 12), .inr (3, [.ref g0, .ref g1, .ref g2, .int (nI qm), .ref g4, .int om, .int kn, .int kl, .ref g8, .ref g9, .ref g10, .ref g11, va_rf lst])), (g0, .inl (ca 0, 36, .inl ws))] s.heap := va_P.sub hP [0, 1, 2] rfl
        have hD9 : va_D A [(x, .inr (10, [.ref (a 0), .int (nI nl), .ref (a 2), .int (nI nb), .ref (a 4), .int (nI np), .ref (a 6), .int (nI nx), .ref (a 8), .ref (a 9), .ref (a 10), .ref (a 11), .ref (a 12), .ref (a 13), .ref (a 14)])), ((a 12), .inr (3, [.ref g0, .ref g1, .ref g2, .int (nI qm), .ref g4, .int om, .int kn, .int kl, .ref g8, .ref g9, .ref g10, .ref g11, va_rf lst])), (g0, .inl (ca 0, 36, .inl ws))] := va_D.sub hD [0, 1, 2] (by decide) rfl
        exact W.zret (v := 0) (ty := .boolean) hx hb hr rfl (fun t ht hW => ⟨⟨0, (kn, ws), rfl, ⟨by unfold spW; simp [c_2, c_4, c_6], rfl, fun _ => ⟨rfl, rfl⟩⟩, by rw [ht]; dsimp only; exact hP9, by dsimp only; exact hD9⟩, hS.F ht⟩) hS.2.2 dX10_wash_26

theorem qu_k {P1 P2 P3 P4 P6 : Prop} {r v1 : Int32} {qm j : Nat} {kd kd2 : Nat → Int32} {bt : Nat → BatG} (hj : j < 2 ^ 31) (e : v1 = nI j) (h : P1 ∧ P2 ∧ P3 ∧ P4 ∧ kd2 = qF r qm kd ((bt j).1 0) ∧ P6) : P1 ∧ P2 ∧ P3 ∧ P4 ∧ kd2 = qF r qm kd ((bt v1.toNatClampNeg).1 0) ∧ P6 := by
  rw [e, nI_clamp hj]
  exact h

set_option maxHeartbeats 4000000 in
set_option maxRecDepth 100000 in
theorem k_queue (l : Launch) (dC : Nat → ClassId) (dI : Nat → Nat → Nat) (ca : Nat → ClassId) (sz : Nat) (x : Nat) (a : Nat → Nat) (nl : Nat) (la : Nat → Nat) (lo : Nat → Int32 × Int32) (nb : Nat) (ba : Nat → Nat → Nat) (bt : Nat → BatG) (np : Nat) (pa : Nat → Nat) (pc : Nat → PieG) (nx : Nat) (xa : Nat → Nat → Nat) (bx : Nat → BoxG) (g0 : Nat) (g1 : Nat) (g2 : Nat) (g4 : Nat) (g8 : Nat) (g9 : Nat) (g10 : Nat) (g11 : Nat) (qm : Nat) (om : Int32) (kn : Int32) (kl : Int32) (lst : Option Nat) (qd : Nat → Int32) (kd : Nat → Int32) (v1 : Int32) (hQ : kI nl lo nb bt np pc nx bx) (hq : qI qm kd) : Met l yX10_queue (Cond.code yX10_queue cX10_queue 3 (some .int) :: gT) ({ frames := 3, cells := 0, slots := 0, locals := 103 }) (va_Pc [.ref x, .int v1] (pr (dC, dI) sz (@HAppend.hAppend va_W va_W va_W _ [(x, .inr (10, [.ref (a 0), .int (nI nl), .ref (a 2), .int (nI nb), .ref (a 4), .int (nI np), .ref (a 6), .int (nI nx), .ref (a 8), .ref (a 9), .ref (a 10), .ref (a 11), .ref (a 12), .ref (a 13), .ref (a 14)])), ((a 2), .inl (ca 6, 40, .inr (.inr (.inr (.inr (rA nb (bA0 ba))))))), ((a 12), .inr (3, [.ref g0, .ref g1, .ref g2, .int (nI qm), .ref g4, .int om, .int kn, .int kl, .ref g8, .ref g9, .ref g10, .ref g11, va_rf lst])), (g1, .inl (ca 0, 10, .inl qd)), (g2, .inl (ca 0, 10, .inl kd))] (pool ca (List.range nl) la lo (List.range nb) ba bt (List.range np) pa pc (List.range nx) xa bx)) (aT ca))) (va_Qi (fun (r : Int32) (u_ : Nat × Int32 × (Nat → Int32) × (Nat → Int32)) => r = spQ nb qm qd v1 ∧ u_.1 = qN r qm ∧ u_.2.2.1 = qF r qm qd v1 ∧ qI u_.1 u_.2.2.2 ∧ u_.2.2.2 = qF r qm kd ((bt v1.toNatClampNeg).1 0) ∧ (¬ u_.2.1 = 0 → u_.2.1 = kn ∧ u_.1 = qm ∧ u_.2.2.1 = qd ∧ u_.2.2.2 = kd)) (fun (u_ : Nat × Int32 × (Nat → Int32) × (Nat → Int32)) t => va_P (dC, dI) vwCl (@HAppend.hAppend va_W va_W va_W _ [(x, .inr (10, [.ref (a 0), .int (nI nl), .ref (a 2), .int (nI nb), .ref (a 4), .int (nI np), .ref (a 6), .int (nI nx), .ref (a 8), .ref (a 9), .ref (a 10), .ref (a 11), .ref (a 12), .ref (a 13), .ref (a 14)])), ((a 2), .inl (ca 6, 40, .inr (.inr (.inr (.inr (rA nb (bA0 ba))))))), ((a 12), .inr (3, [.ref g0, .ref g1, .ref g2, .int (nI u_.1), .ref g4, .int om, .int u_.2.1, .int kl, .ref g8, .ref g9, .ref g10, .ref g11, va_rf lst])), (g1, .inl (ca 0, 10, .inl u_.2.2.1)), (g2, .inl (ca 0, 10, .inl u_.2.2.2))] (pool ca (List.range nl) la lo (List.range nb) ba bt (List.range np) pa pc (List.range nx) xa bx)) t.heap ∧ va_D (va_A (@HAppend.hAppend va_W va_W va_W _ [(x, .inr (10, [.ref (a 0), .int (nI nl), .ref (a 2), .int (nI nb), .ref (a 4), .int (nI np), .ref (a 6), .int (nI nx), .ref (a 8), .ref (a 9), .ref (a 10), .ref (a 11), .ref (a 12), .ref (a 13), .ref (a 14)])), ((a 2), .inl (ca 6, 40, .inr (.inr (.inr (.inr (rA nb (bA0 ba))))))), ((a 12), .inr (3, [.ref g0, .ref g1, .ref g2, .int (nI qm), .ref g4, .int om, .int kn, .int kl, .ref g8, .ref g9, .ref g10, .ref g11, va_rf lst])), (g1, .inl (ca 0, 10, .inl qd)), (g2, .inl (ca 0, 10, .inl kd))] (pool ca (List.range nl) la lo (List.range nb) ba bt (List.range np) pa pc (List.range nx) xa bx)) sz) (@HAppend.hAppend va_W va_W va_W _ [(x, .inr (10, [.ref (a 0), .int (nI nl), .ref (a 2), .int (nI nb), .ref (a 4), .int (nI np), .ref (a 6), .int (nI nx), .ref (a 8), .ref (a 9), .ref (a 10), .ref (a 11), .ref (a 12), .ref (a 13), .ref (a 14)])), ((a 2), .inl (ca 6, 40, .inr (.inr (.inr (.inr (rA nb (bA0 ba))))))), ((a 12), .inr (3, [.ref g0, .ref g1, .ref g2, .int (nI u_.1), .ref g4, .int om, .int u_.2.1, .int kl, .ref g8, .ref g9, .ref g10, .ref g11, va_rf lst])), (g1, .inl (ca 0, 10, .inl u_.2.2.1)), (g2, .inl (ca 0, 10, .inl u_.2.2.2))] (pool ca (List.range nl) la lo (List.range nb) ba bt (List.range np) pa pc (List.range nx) xa bx))) (va_A (@HAppend.hAppend va_W va_W va_W _ [(x, .inr (10, [.ref (a 0), .int (nI nl), .ref (a 2), .int (nI nb), .ref (a 4), .int (nI np), .ref (a 6), .int (nI nx), .ref (a 8), .ref (a 9), .ref (a 10), .ref (a 11), .ref (a 12), .ref (a 13), .ref (a 14)])), ((a 2), .inl (ca 6, 40, .inr (.inr (.inr (.inr (rA nb (bA0 ba))))))), ((a 12), .inr (3, [.ref g0, .ref g1, .ref g2, .int (nI qm), .ref g4, .int om, .int kn, .int kl, .ref g8, .ref g9, .ref g10, .ref g11, va_rf lst])), (g1, .inl (ca 0, 10, .inl qd)), (g2, .inl (ca 0, 10, .inl kd))] (pool ca (List.range nl) la lo (List.range nb) ba bt (List.range np) pa pc (List.range nx) xa bx)) sz)) 0 0 (va_A (@HAppend.hAppend va_W va_W va_W _ [(x, .inr (10, [.ref (a 0), .int (nI nl), .ref (a 2), .int (nI nb), .ref (a 4), .int (nI np), .ref (a 6), .int (nI nx), .ref (a 8), .ref (a 9), .ref (a 10), .ref (a 11), .ref (a 12), .ref (a 13), .ref (a 14)])), ((a 2), .inl (ca 6, 40, .inr (.inr (.inr (.inr (rA nb (bA0 ba))))))), ((a 12), .inr (3, [.ref g0, .ref g1, .ref g2, .int (nI qm), .ref g4, .int om, .int kn, .int kl, .ref g8, .ref g9, .ref g10, .ref g11, va_rf lst])), (g1, .inl (ca 0, 10, .inl qd)), (g2, .inl (ca 0, 10, .inl kd))] (pool ca (List.range nl) la lo (List.range nb) ba bt (List.range np) pa pc (List.range nx) xa bx)) sz) := by
  refine Met.ofW (cc := cX10_queue) (maxL := 3) (ret := (some .int)) (by decide) rfl ?_
  intro p e s m args below meth c s₁ B hml hv
  obtain ⟨rfl, hsz, hP, hK, hD0, hE⟩ := hv
  have hx := B.exec
  have hb := B.bytes
  have hr := B.returns
  have hts : ∀ w ∈ gT, w.before _ s = true := fun w h => atoms_spec (ws := Cond.code yX10_queue cX10_queue 3 (some .int) :: gT) B.pre w (List.mem_cons_of_mem _ h)
  have hown : s.vm.findClass RX10 = some m.cls := findClass_of_methodNamed B.named
  have hlocks := B.notSynchronized
  subst hsz
  have hD := hD0.self (sz := s.heap.size)
  generalize hAe : va_A (@HAppend.hAppend va_W va_W va_W _ [(x, .inr (10, [.ref (a 0), .int (nI nl), .ref (a 2), .int (nI nb), .ref (a 4), .int (nI np), .ref (a 6), .int (nI nx), .ref (a 8), .ref (a 9), .ref (a 10), .ref (a 11), .ref (a 12), .ref (a 13), .ref (a 14)])), ((a 2), .inl (ca 6, 40, .inr (.inr (.inr (.inr (rA nb (bA0 ba))))))), ((a 12), .inr (3, [.ref g0, .ref g1, .ref g2, .int (nI qm), .ref g4, .int om, .int kn, .int kl, .ref g8, .ref g9, .ref g10, .ref g11, va_rf lst])), (g1, .inl (ca 0, 10, .inl qd)), (g2, .inl (ca 0, 10, .inl kd))] (pool ca (List.range nl) la lo (List.range nb) ba bt (List.range np) pa pc (List.range nx) xa bx)) s.heap.size = A at hD ⊢
  have hA : ∀ q : Nat, s.heap.size ≤ q → A q := fun q h => by rw [← hAe]; exact Or.inr h
  have hS : va_S A s.heap s.heap [] := va_S.rf
  have hl := lv_entry ([.ref x, .int v1]) (n := 3) (Nat.le_of_ble_eq_true rfl)
  rw [lg_entry_eq]
  generalize (lg_sl ([.ref x, .int v1]) ++ List.replicate (3 - (lg_sl ([.ref x, .int v1])).length) Slot.unset).toArray = ls at hl ⊢
  have hl : lv_has ls 3 [(0, .ref x), (1, .int v1)] := hl
  obtain ⟨hq1, hq2, hq3, hq4, hq5, hq6, hq7⟩ := id hQ
  refine lv_iload_n hx hb dX10_queue_0 rfl (lv_at hl 1 rfl) ?_
  refine lv_iconst (v := (-1)) hx hb dX10_queue_1 (by decide) ?_
  refine lv_icmp_ne (tgt := 14) hx hb dX10_queue_2 (by decide) (fun c_1 => ?_) (fun c_1 => ?_)
  · refine lv_aload_n hx hb dX10_queue_14 rfl (lv_at hl 0 rfl) ?_
    refine lv_iload_n hx hb dX10_queue_15 rfl (lv_at hl 1 rfl) ?_
    have hPc := hP.sub (ws' := [(x, .inr (10, [.ref (a 0), .int (nI nl), .ref (a 2), .int (nI nb), .ref (a 4), .int (nI np), .ref (a 6), .int (nI nx), .ref (a 8), .ref (a 9), .ref (a 10), .ref (a 11), .ref (a 12), .ref (a 13), .ref (a 14)])), ((a 2), .inl (ca 6, 40, .inr (.inr (.inr (.inr (rA nb (bA0 ba)))))))]) [0, 1] rfl
    refine pc_q (va_runV (As := [.int v1]) (rest := []) ⟨hx, hb, hml, hown, hts⟩ (k_findBatch l dC dI ca x a nl nb np nx ba v1 (by first | assumption | omega | exact ⟨_, by omega, rfl⟩)) (⟨callB_of 1 hts (gd mw_378) rfl rfl rfl (hts _ mw_1) (hts _ mw_375) ds_X10_findBatch ⟨Nat.le_of_ble_eq_true rfl, Nat.le_of_ble_eq_true rfl⟩, (hts _ mw_377), (hts _ mp_1)⟩) (pu_V hPc hK hE (va_recv hK hPc (ci := 10) (q0 := 0) rfl rfl)) rfl rfl hl.1 rfl (lv_room (Nat.le_of_ble_eq_true rfl)) dX10_queue_16 ⟨Nat.le_of_ble_eq_true rfl, Nat.le_of_ble_eq_true rfl⟩) (fun rv_2 hw_ => ?_)
    have hw_2 := hw_
    refine lq_astore_n (lv' := [(2, va_rf rv_2), (0, .ref x), (1, .int v1)]) hx hb dX10_queue_19 rfl hl (by decide) rfl (fun ls hl => ?_)
    refine lq_aload_n hx hb dX10_queue_20 rfl (lv_at hl 0 rfl) ?_
    cases rv_2 with
    | none =>
      have hl : lv_has ls 3 [(2, .null), (0, .ref x), (1, .int v1)] := hl
      refine W.eq (g2 := F0 m 21 ls [.null]) rfl ?_
      refine lv_ifnonnullN hx hb dX10_queue_21 ?_
      refine lv_iconst (v := (-1)) hx hb dX10_queue_24 (by decide) ?_
      refine lv_goto (tgt := 40) hx hb dX10_queue_25 (by decide) ?_
      refine W.widen (k := 0) (n := 0) (Nat.le_of_ble_eq_true rfl) (Nat.le_of_ble_eq_true rfl) ?_
      have hP9 : va_P (dC, dI) vwCl (@HAppend.hAppend va_W va_W va_W _ [(x, .inr (10, [.ref (a 0), .int (nI nl), .ref (a 2), .int (nI nb), .ref (a 4), .int (nI np), .ref (a 6), .int (nI nx), .ref (a 8), .ref (a 9), .ref (a 10), .ref (a 11), .ref (a 12), .ref (a 13), .ref (a 14)])), ((a 2), .inl (ca 6, 40, .inr (.inr (.inr (.inr (rA nb (bA0 ba))))))), ((a 12), .inr (3, [.ref g0, .ref g1, .ref g2, .int (nI qm), .ref g4, .int om, .int kn, .int kl, .ref g8, .ref g9, .ref g10, .ref g11, va_rf lst])), (g1, .inl (ca 0, 10, .inl qd)), (g2, .inl (ca 0, 10, .inl kd))] (pool ca (List.range nl) la lo (List.range nb) ba bt (List.range np) pa pc (List.range nx) xa bx)) s.heap := va_P.part (X := [(x, .inr (10, [.ref (a 0), .int (nI nl), .ref (a 2), .int (nI nb), .ref (a 4), .int (nI np), .ref (a 6), .int (nI nx), .ref (a 8), .ref (a 9), .ref (a 10), .ref (a 11), .ref (a 12), .ref (a 13), .ref (a 14)])), ((a 2), .inl (ca 6, 40, .inr (.inr (.inr (.inr (rA nb (bA0 ba))))))), ((a 12), .inr (3, [.ref g0, .ref g1, .ref g2, .int (nI qm), .ref g4, .int om, .int kn, .int kl, .ref g8, .ref g9, .ref g10, .ref g11, va_rf lst])), (g1, .inl (ca 0, 10, .inl qd)), (g2, .inl (ca 0, 10, .inl kd))]) hP [0, 1, 2, 3, 4] rfl
      have hD9 : va_D A (@HAppend.hAppend va_W va_W va_W _ [(x, .inr (10, [.ref (a 0), .int (nI nl), .ref (a 2), .int (nI nb), .ref (a 4), .int (nI np), .ref (a 6), .int (nI nx), .ref (a 8), .ref (a 9), .ref (a 10), .ref (a 11), .ref (a 12), .ref (a 13), .ref (a 14)])), ((a 2), .inl (ca 6, 40, .inr (.inr (.inr (.inr (rA nb (bA0 ba))))))), ((a 12), .inr (3, [.ref g0, .ref g1, .ref g2, .int (nI qm), .ref g4, .int om, .int kn, .int kl, .ref g8, .ref g9, .ref g10, .ref g11, va_rf lst])), (g1, .inl (ca 0, 10, .inl qd)), (g2, .inl (ca 0, 10, .inl kd))] (pool ca (List.range nl) la lo (List.range nb) ba bt (List.range np) pa pc (List.range nx) xa bx)) := va_D.part (X := [(x, .inr (10, [.ref (a 0), .int (nI nl), .ref (a 2), .int (nI nb), .ref (a 4), .int (nI np), .ref (a 6), .int (nI nx), .ref (a 8), .ref (a 9), .ref (a 10), .ref (a 11), .ref (a 12), .ref (a 13), .ref (a 14)])), ((a 2), .inl (ca 6, 40, .inr (.inr (.inr (.inr (rA nb (bA0 ba))))))), ((a 12), .inr (3, [.ref g0, .ref g1, .ref g2, .int (nI qm), .ref g4, .int om, .int kn, .int kl, .ref g8, .ref g9, .ref g10, .ref g11, va_rf lst])), (g1, .inl (ca 0, 10, .inl qd)), (g2, .inl (ca 0, 10, .inl kd))]) hD [0, 1, 2, 3, 4] (by decide) rfl
      exact W.iret (v := (-1)) hx hb hr (fun t ht hW => ⟨⟨(-1), (qm, kn, qd, kd), rfl, ⟨spQ_n c_1 (fnd_none hw_2), rfl, rfl, hq, rfl, fun _ => ⟨rfl, rfl, rfl, rfl⟩⟩, by rw [ht]; dsimp only; exact hP9, by dsimp only; exact hD9⟩, hS.F ht⟩) hS.2.2 dX10_queue_40
    | some b3 =>
      have hl : lv_has ls 3 [(2, .ref b3), (0, .ref x), (1, .int v1)] := hl
      refine W.eq (g2 := F0 m 21 ls [.ref b3]) rfl ?_
      refine lv_ifnonnull (tgt := 28) hx hb dX10_queue_21 (by decide) ?_
      obtain ⟨j4, hj4, ev4, e9⟩ := fnd_some (by omega) hw_2
      have e9 : b3 = (ba j4 0) := e9
      subst e9
      have hl : lv_has ls 3 [(2, .ref (ba j4 0)), (0, .ref x), (1, .int v1)] := hl
      have hPr5 := bat_P hP (rg_in hj4)
      refine lv_aload_n hx hb dX10_queue_28 rfl (lv_at hl 1 rfl) ?_
      refine va_get (D := (dC, dI)) (ci := 10) (v := .ref (a 12)) (C := RX10) (T := TX10) (N := 15) hx hb hts inX10 hown hK hP 0 rfl rfl 12 (by decide) (hts _ mw_213) (fun _ h9 => h9) rfl dX10_queue_29 ?_
      refine lv_iload_n hx hb dX10_queue_32 rfl (lv_at hl 2 rfl) ?_
      refine lv_aload_n hx hb dX10_queue_33 rfl (lv_at hl 0 rfl) ?_
      refine va_get (D := (dC, dI)) (ci := 0) (v := .int ((bt j4).1 0)) (C := RX0) (T := TX0) (N := 16) hx hb hts inX0 hown hK hPr5 0 rfl rfl 0 (by decide) (hts _ mw_306) (fun _ h9 => h9) rfl dX10_queue_34 ?_
      have hPc := hP.sub (ws' := [((a 12), .inr (3, [.ref g0, .ref g1, .ref g2, .int (nI qm), .ref g4, .int om, .int kn, .int kl, .ref g8, .ref g9, .ref g10, .ref g11, va_rf lst])), (g1, .inl (ca 0, 10, .inl qd)), (g2, .inl (ca 0, 10, .inl kd))]) [2, 3, 4] rfl
      have hDc := hD.sub (ws' := [((a 12), .inr (3, [.ref g0, .ref g1, .ref g2, .int (nI qm), .ref g4, .int om, .int kn, .int kl, .ref g8, .ref g9, .ref g10, .ref g11, va_rf lst])), (g1, .inl (ca 0, 10, .inl qd)), (g2, .inl (ca 0, 10, .inl kd))]) [2, 3, 4] (by decide) rfl
      have hFc := va_free (wc := [((a 12), .inr (3, [.ref g0, .ref g1, .ref g2, .int (nI qm), .ref g4, .int om, .int kn, .int kl, .ref g8, .ref g9, .ref g10, .ref g11, va_rf lst])), (g1, .inl (ca 0, 10, .inl qd)), (g2, .inl (ca 0, 10, .inl kd))]) hD hS hA [2, 3, 4] rfl
      refine va_calli (va_runV (As := [.int v1, .int ((bt j4).1 0)]) (rest := []) ⟨hx, hb, hml, hown, hts⟩ (e_add l dC dI ca s.heap.size (a 12) g0 g1 g2 g4 g8 g9 g10 g11 qm om kn kl lst qd kd v1 ((bt j4).1 0) (by first | assumption | omega | exact ⟨_, by omega, rfl⟩) (hq5 j4 hj4).1) (⟨callB_of 2 hts (gd mw_804) rfl rfl rfl (hts _ mw_5) (hts _ mw_801) ds_X3_add ⟨Nat.le_of_ble_eq_true rfl, Nat.le_of_ble_eq_true rfl⟩, (hts _ mw_802), (hts _ mw_803)⟩) (pr_V hPc hK hDc hE (va_recv hK hPc (ci := 3) (q0 := 0) rfl rfl)) rfl rfl hl.1 rfl (lv_room (Nat.le_of_ble_eq_true rfl)) dX10_queue_37 ⟨Nat.le_of_ble_eq_true rfl, Nat.le_of_ble_eq_true rfl⟩) hS (fun q _ h => hFc q h) hFc (fun rv_6 u_ t_ H1 locs ht hvm hw_ hB hz1 hk1 hS => ?_)
      obtain ⟨qm2_6, kn2_6, qd2_6, kd2_6⟩ := u_
      have hw_6 := hw_
      obtain ⟨hP1, hD1⟩ := hB
      rw [ht] at hP1
      obtain ⟨hP, hD⟩ := va_joinQ (X := [(x, .inr (10, [.ref (a 0), .int (nI nl), .ref (a 2), .int (nI nb), .ref (a 4), .int (nI np), .ref (a 6), .int (nI nx), .ref (a 8), .ref (a 9), .ref (a 10), .ref (a 11), .ref (a 12), .ref (a 13), .ref (a 14)])), ((a 2), .inl (ca 6, 40, .inr (.inr (.inr (.inr (rA nb (bA0 ba))))))), ((a 12), .inr (3, [.ref g0, .ref g1, .ref g2, .int (nI qm), .ref g4, .int om, .int kn, .int kl, .ref g8, .ref g9, .ref g10, .ref g11, va_rf lst])), (g1, .inl (ca 0, 10, .inl qd)), (g2, .inl (ca 0, 10, .inl kd))]) (cx := [((a 12), .inr (3, [.ref g0, .ref g1, .ref g2, .int (nI qm), .ref g4, .int om, .int kn, .int kl, .ref g8, .ref g9, .ref g10, .ref g11, va_rf lst])), (g1, .inl (ca 0, 10, .inl qd)), (g2, .inl (ca 0, 10, .inl kd))]) (wr := [(x, .inr (10, [.ref (a 0), .int (nI nl), .ref (a 2), .int (nI nb), .ref (a 4), .int (nI np), .ref (a 6), .int (nI nx), .ref (a 8), .ref (a 9), .ref (a 10), .ref (a 11), .ref (a 12), .ref (a 13), .ref (a 14)])), ((a 2), .inl (ca 6, 40, .inr (.inr (.inr (.inr (rA nb (bA0 ba)))))))]) (w1 := [((a 12), .inr (3, [.ref g0, .ref g1, .ref g2, .int (nI qm2_6), .ref g4, .int om, .int kn2_6, .int kl, .ref g8, .ref g9, .ref g10, .ref g11, va_rf lst])), (g1, .inl (ca 0, 10, .inl qd2_6)), (g2, .inl (ca 0, 10, .inl kd2_6))]) hP hD [2, 3, 4] [0, 1] rfl rfl (by decide) (by decide) hk1 hFc hP1 hD1
      generalize H1 = H at hP hS ⊢
      obtain ⟨hP, hD⟩ := va_bo (@HAppend.hAppend va_W va_W va_W _ [(x, .inr (10, [.ref (a 0), .int (nI nl), .ref (a 2), .int (nI nb), .ref (a 4), .int (nI np), .ref (a 6), .int (nI nx), .ref (a 8), .ref (a 9), .ref (a 10), .ref (a 11), .ref (a 12), .ref (a 13), .ref (a 14)])), ((a 2), .inl (ca 6, 40, .inr (.inr (.inr (.inr (rA nb (bA0 ba))))))), ((a 12), .inr (3, [.ref g0, .ref g1, .ref g2, .int (nI qm2_6), .ref g4, .int om, .int kn2_6, .int kl, .ref g8, .ref g9, .ref g10, .ref g11, va_rf lst])), (g1, .inl (ca 0, 10, .inl qd2_6)), (g2, .inl (ca 0, 10, .inl kd2_6))] (pool ca (List.range nl) la lo (List.range nb) ba bt (List.range np) pa pc (List.range nx) xa bx)) hP hD
      refine W.widen (k := 0) (n := 0) (Nat.le_of_ble_eq_true rfl) (Nat.le_of_ble_eq_true rfl) ?_
      have hP9 : va_P (dC, dI) vwCl (@HAppend.hAppend va_W va_W va_W _ [(x, .inr (10, [.ref (a 0), .int (nI nl), .ref (a 2), .int (nI nb), .ref (a 4), .int (nI np), .ref (a 6), .int (nI nx), .ref (a 8), .ref (a 9), .ref (a 10), .ref (a 11), .ref (a 12), .ref (a 13), .ref (a 14)])), ((a 2), .inl (ca 6, 40, .inr (.inr (.inr (.inr (rA nb (bA0 ba))))))), ((a 12), .inr (3, [.ref g0, .ref g1, .ref g2, .int (nI qm2_6), .ref g4, .int om, .int kn2_6, .int kl, .ref g8, .ref g9, .ref g10, .ref g11, va_rf lst])), (g1, .inl (ca 0, 10, .inl qd2_6)), (g2, .inl (ca 0, 10, .inl kd2_6))] (pool ca (List.range nl) la lo (List.range nb) ba bt (List.range np) pa pc (List.range nx) xa bx)) H := va_P.part (X := [(x, .inr (10, [.ref (a 0), .int (nI nl), .ref (a 2), .int (nI nb), .ref (a 4), .int (nI np), .ref (a 6), .int (nI nx), .ref (a 8), .ref (a 9), .ref (a 10), .ref (a 11), .ref (a 12), .ref (a 13), .ref (a 14)])), ((a 2), .inl (ca 6, 40, .inr (.inr (.inr (.inr (rA nb (bA0 ba))))))), ((a 12), .inr (3, [.ref g0, .ref g1, .ref g2, .int (nI qm2_6), .ref g4, .int om, .int kn2_6, .int kl, .ref g8, .ref g9, .ref g10, .ref g11, va_rf lst])), (g1, .inl (ca 0, 10, .inl qd2_6)), (g2, .inl (ca 0, 10, .inl kd2_6))]) hP [0, 1, 2, 3, 4] rfl
      have hD9 : va_D A (@HAppend.hAppend va_W va_W va_W _ [(x, .inr (10, [.ref (a 0), .int (nI nl), .ref (a 2), .int (nI nb), .ref (a 4), .int (nI np), .ref (a 6), .int (nI nx), .ref (a 8), .ref (a 9), .ref (a 10), .ref (a 11), .ref (a 12), .ref (a 13), .ref (a 14)])), ((a 2), .inl (ca 6, 40, .inr (.inr (.inr (.inr (rA nb (bA0 ba))))))), ((a 12), .inr (3, [.ref g0, .ref g1, .ref g2, .int (nI qm2_6), .ref g4, .int om, .int kn2_6, .int kl, .ref g8, .ref g9, .ref g10, .ref g11, va_rf lst])), (g1, .inl (ca 0, 10, .inl qd2_6)), (g2, .inl (ca 0, 10, .inl kd2_6))] (pool ca (List.range nl) la lo (List.range nb) ba bt (List.range np) pa pc (List.range nx) xa bx)) := va_D.part (X := [(x, .inr (10, [.ref (a 0), .int (nI nl), .ref (a 2), .int (nI nb), .ref (a 4), .int (nI np), .ref (a 6), .int (nI nx), .ref (a 8), .ref (a 9), .ref (a 10), .ref (a 11), .ref (a 12), .ref (a 13), .ref (a 14)])), ((a 2), .inl (ca 6, 40, .inr (.inr (.inr (.inr (rA nb (bA0 ba))))))), ((a 12), .inr (3, [.ref g0, .ref g1, .ref g2, .int (nI qm2_6), .ref g4, .int om, .int kn2_6, .int kl, .ref g8, .ref g9, .ref g10, .ref g11, va_rf lst])), (g1, .inl (ca 0, 10, .inl qd2_6)), (g2, .inl (ca 0, 10, .inl kd2_6))]) hD [0, 1, 2, 3, 4] (by decide) rfl
      exact W.iret (v := rv_6) hx hb hr (fun t ht hW => ⟨⟨rv_6, (qm2_6, kn2_6, qd2_6, kd2_6), rfl, (qu_k (show j4 < 2 ^ 31 by omega) ev4 (spQ_y (by omega) c_1 hj4 ev4 hw_6)), by rw [ht]; dsimp only; exact hP9, by dsimp only; exact hD9⟩, hS.F ht⟩) hS.2.2 dX10_queue_40
  · refine lv_aload_n hx hb dX10_queue_5 rfl (lv_at hl 0 rfl) ?_
    refine va_get (D := (dC, dI)) (ci := 10) (v := .ref (a 12)) (C := RX10) (T := TX10) (N := 15) hx hb hts inX10 hown hK hP 0 rfl rfl 12 (by decide) (hts _ mw_213) (fun _ h9 => h9) rfl dX10_queue_6 ?_
    have hPc := hP.sub (ws' := [((a 12), .inr (3, [.ref g0, .ref g1, .ref g2, .int (nI qm), .ref g4, .int om, .int kn, .int kl, .ref g8, .ref g9, .ref g10, .ref g11, va_rf lst]))]) [2] rfl
    have hDc := hD.sub (ws' := [((a 12), .inr (3, [.ref g0, .ref g1, .ref g2, .int (nI qm), .ref g4, .int om, .int kn, .int kl, .ref g8, .ref g9, .ref g10, .ref g11, va_rf lst]))]) [2] (by decide) rfl
    have hFc := va_free (wc := [((a 12), .inr (3, [.ref g0, .ref g1, .ref g2, .int (nI qm), .ref g4, .int om, .int kn, .int kl, .ref g8, .ref g9, .ref g10, .ref g11, va_rf lst]))]) hD hS hA [2] rfl
    refine va_callv (va_runV (As := []) (rest := []) ⟨hx, hb, hml, hown, hts⟩ (e_empty l dC dI ca s.heap.size (a 12) g0 g1 g2 g4 g8 g9 g10 g11 qm om kn kl lst ) (⟨callB_of 0 hts (gd mw_800) rfl rfl rfl (hts _ mw_5) (hts _ mw_797) ds_X3_empty ⟨Nat.le_of_ble_eq_true rfl, Nat.le_of_ble_eq_true rfl⟩, (hts _ mw_798), (hts _ mw_799)⟩) (pr_V hPc hK hDc hE (va_recv hK hPc (ci := 3) (q0 := 0) rfl rfl)) rfl rfl hl.1 rfl (lv_room (Nat.le_of_ble_eq_true rfl)) dX10_queue_9 ⟨Nat.le_of_ble_eq_true rfl, Nat.le_of_ble_eq_true rfl⟩) hS (fun q _ h => hFc q h) hFc (fun u_ t_ H1 locs ht hvm hw_ hB hz1 hk1 hS => ?_)
    obtain ⟨hP1, hD1⟩ := hB
    rw [ht] at hP1
    obtain ⟨hP, hD⟩ := va_joinQ (X := [(x, .inr (10, [.ref (a 0), .int (nI nl), .ref (a 2), .int (nI nb), .ref (a 4), .int (nI np), .ref (a 6), .int (nI nx), .ref (a 8), .ref (a 9), .ref (a 10), .ref (a 11), .ref (a 12), .ref (a 13), .ref (a 14)])), ((a 2), .inl (ca 6, 40, .inr (.inr (.inr (.inr (rA nb (bA0 ba))))))), ((a 12), .inr (3, [.ref g0, .ref g1, .ref g2, .int (nI qm), .ref g4, .int om, .int kn, .int kl, .ref g8, .ref g9, .ref g10, .ref g11, va_rf lst])), (g1, .inl (ca 0, 10, .inl qd)), (g2, .inl (ca 0, 10, .inl kd))]) (cx := [((a 12), .inr (3, [.ref g0, .ref g1, .ref g2, .int (nI qm), .ref g4, .int om, .int kn, .int kl, .ref g8, .ref g9, .ref g10, .ref g11, va_rf lst]))]) (wr := [(x, .inr (10, [.ref (a 0), .int (nI nl), .ref (a 2), .int (nI nb), .ref (a 4), .int (nI np), .ref (a 6), .int (nI nx), .ref (a 8), .ref (a 9), .ref (a 10), .ref (a 11), .ref (a 12), .ref (a 13), .ref (a 14)])), ((a 2), .inl (ca 6, 40, .inr (.inr (.inr (.inr (rA nb (bA0 ba))))))), (g1, .inl (ca 0, 10, .inl qd)), (g2, .inl (ca 0, 10, .inl kd))]) (w1 := [((a 12), .inr (3, [.ref g0, .ref g1, .ref g2, .int (nI 0), .ref g4, .int om, .int 0, .int kl, .ref g8, .ref g9, .ref g10, .ref g11, va_rf lst]))]) hP hD [2] [0, 1, 3, 4] rfl rfl (by decide) (by decide) hk1 hFc hP1 hD1
    generalize H1 = H at hP hS ⊢
    obtain ⟨hP, hD⟩ := va_bo (@HAppend.hAppend va_W va_W va_W _ [(x, .inr (10, [.ref (a 0), .int (nI nl), .ref (a 2), .int (nI nb), .ref (a 4), .int (nI np), .ref (a 6), .int (nI nx), .ref (a 8), .ref (a 9), .ref (a 10), .ref (a 11), .ref (a 12), .ref (a 13), .ref (a 14)])), ((a 2), .inl (ca 6, 40, .inr (.inr (.inr (.inr (rA nb (bA0 ba))))))), (g1, .inl (ca 0, 10, .inl qd)), (g2, .inl (ca 0, 10, .inl kd)), ((a 12), .inr (3, [.ref g0, .ref g1, .ref g2, .int (nI 0), .ref g4, .int om, .int 0, .int kl, .ref g8, .ref g9, .ref g10, .ref g11, va_rf lst]))] (pool ca (List.range nl) la lo (List.range nb) ba bt (List.range np) pa pc (List.range nx) xa bx)) hP hD
    refine lv_iconst (v := 0) hx hb dX10_queue_12 (by decide) ?_
    refine W.widen (k := 0) (n := 0) (Nat.le_of_ble_eq_true rfl) (Nat.le_of_ble_eq_true rfl) ?_
    have hP9 : va_P (dC, dI) vwCl (@HAppend.hAppend va_W va_W va_W _ [(x, .inr (10, [.ref (a 0), .int (nI nl), .ref (a 2), .int (nI nb), .ref (a 4), .int (nI np), .ref (a 6), .int (nI nx), .ref (a 8), .ref (a 9), .ref (a 10), .ref (a 11), .ref (a 12), .ref (a 13), .ref (a 14)])), ((a 2), .inl (ca 6, 40, .inr (.inr (.inr (.inr (rA nb (bA0 ba))))))), ((a 12), .inr (3, [.ref g0, .ref g1, .ref g2, .int (nI 0), .ref g4, .int om, .int 0, .int kl, .ref g8, .ref g9, .ref g10, .ref g11, va_rf lst])), (g1, .inl (ca 0, 10, .inl qd)), (g2, .inl (ca 0, 10, .inl kd))] (pool ca (List.range nl) la lo (List.range nb) ba bt (List.range np) pa pc (List.range nx) xa bx)) H := va_P.part (X := [(x, .inr (10, [.ref (a 0), .int (nI nl), .ref (a 2), .int (nI nb), .ref (a 4), .int (nI np), .ref (a 6), .int (nI nx), .ref (a 8), .ref (a 9), .ref (a 10), .ref (a 11), .ref (a 12), .ref (a 13), .ref (a 14)])), ((a 2), .inl (ca 6, 40, .inr (.inr (.inr (.inr (rA nb (bA0 ba))))))), (g1, .inl (ca 0, 10, .inl qd)), (g2, .inl (ca 0, 10, .inl kd)), ((a 12), .inr (3, [.ref g0, .ref g1, .ref g2, .int (nI 0), .ref g4, .int om, .int 0, .int kl, .ref g8, .ref g9, .ref g10, .ref g11, va_rf lst]))]) hP [0, 1, 4, 2, 3] rfl
    have hD9 : va_D A (@HAppend.hAppend va_W va_W va_W _ [(x, .inr (10, [.ref (a 0), .int (nI nl), .ref (a 2), .int (nI nb), .ref (a 4), .int (nI np), .ref (a 6), .int (nI nx), .ref (a 8), .ref (a 9), .ref (a 10), .ref (a 11), .ref (a 12), .ref (a 13), .ref (a 14)])), ((a 2), .inl (ca 6, 40, .inr (.inr (.inr (.inr (rA nb (bA0 ba))))))), ((a 12), .inr (3, [.ref g0, .ref g1, .ref g2, .int (nI 0), .ref g4, .int om, .int 0, .int kl, .ref g8, .ref g9, .ref g10, .ref g11, va_rf lst])), (g1, .inl (ca 0, 10, .inl qd)), (g2, .inl (ca 0, 10, .inl kd))] (pool ca (List.range nl) la lo (List.range nb) ba bt (List.range np) pa pc (List.range nx) xa bx)) := va_D.part (X := [(x, .inr (10, [.ref (a 0), .int (nI nl), .ref (a 2), .int (nI nb), .ref (a 4), .int (nI np), .ref (a 6), .int (nI nx), .ref (a 8), .ref (a 9), .ref (a 10), .ref (a 11), .ref (a 12), .ref (a 13), .ref (a 14)])), ((a 2), .inl (ca 6, 40, .inr (.inr (.inr (.inr (rA nb (bA0 ba))))))), (g1, .inl (ca 0, 10, .inl qd)), (g2, .inl (ca 0, 10, .inl kd)), ((a 12), .inr (3, [.ref g0, .ref g1, .ref g2, .int (nI 0), .ref g4, .int om, .int 0, .int kl, .ref g8, .ref g9, .ref g10, .ref g11, va_rf lst]))]) hD [0, 1, 4, 2, 3] (by decide) rfl
    exact W.iret (v := 0) hx hb hr (fun t ht hW => ⟨⟨0, (0, 0, qd, kd), rfl, ⟨spQ_0 c_1, rfl, rfl, ⟨by omega, fun i hi => absurd hi (by omega)⟩, rfl, fun h9 => absurd rfl h9⟩, by rw [ht]; dsimp only; exact hP9, by dsimp only; exact hD9⟩, hS.F ht⟩) hS.2.2 dX10_queue_13

set_option maxHeartbeats 4000000 in
set_option maxRecDepth 100000 in
theorem k_about (l : Launch) (dC : Nat → ClassId) (dI : Nat → Nat → Nat) (ca : Nat → ClassId) (x : Nat) (a : Nat → Nat) (nl : Nat) (la : Nat → Nat) (lo : Nat → Int32 × Int32) (nb : Nat) (ba : Nat → Nat → Nat) (bt : Nat → BatG) (np : Nat) (pa : Nat → Nat) (pc : Nat → PieG) (nx : Nat) (xa : Nat → Nat → Nat) (bx : Nat → BoxG) (tr : Nat → Int32) (f0 : Nat) (f1 : Nat) (f5 : Nat) (f6 : Nat) (rn : Nat) (gl : Int32) (gh : Int32) (g0 : Nat) (g1 : Nat) (g2 : Nat) (g4 : Nat) (g8 : Nat) (g9 : Nat) (g10 : Nat) (g11 : Nat) (qm : Nat) (om : Int32) (kn : Int32) (kl : Int32) (lst : Option Nat) (v1 : Int32) (hQ : kI nl lo nb bt np pc nx bx) : Met l yX10_about (Cond.code yX10_about cX10_about 2 (some .int) :: gT) ({ frames := 4, cells := 0, slots := 0, locals := 126 }) (va_Pc [.ref x, .int v1] (pu (dC, dI) (@HAppend.hAppend va_W va_W va_W _ [(x, .inr (10, [.ref (a 0), .int (nI nl), .ref (a 2), .int (nI nb), .ref (a 4), .int (nI np), .ref (a 6), .int (nI nx), .ref (a 8), .ref (a 9), .ref (a 10), .ref (a 11), .ref (a 12), .ref (a 13), .ref (a 14)])), ((a 4), .inl (ca 7, 600, .inr (.inr (.inr (.inr (rA np pa)))))), ((a 8), .inl (ca 0, 144, .inl tr)), ((a 10), .inr (8, [.ref f0, .ref f1, .int (nI rn), .int gl, .int gh, .ref f5, .ref f6])), ((a 12), .inr (3, [.ref g0, .ref g1, .ref g2, .int (nI qm), .ref g4, .int om, .int kn, .int kl, .ref g8, .ref g9, .ref g10, .ref g11, va_rf lst]))] (pool ca (List.range nl) la lo (List.range nb) ba bt (List.range np) pa pc (List.range nx) xa bx)) (aT ca))) (vp_Si (fun r => True)) 0 0 (fun _ => False) := by
  refine Met.ofW (cc := cX10_about) (maxL := 2) (ret := (some .int)) (by decide) rfl ?_
  intro p e s m args below meth c s₁ B hml hv
  obtain ⟨rfl, hP, hK, hE⟩ := hv
  have hx := B.exec
  have hb := B.bytes
  have hr := B.returns
  have hts : ∀ w ∈ gT, w.before _ s = true := fun w h => atoms_spec (ws := Cond.code yX10_about cX10_about 2 (some .int) :: gT) B.pre w (List.mem_cons_of_mem _ h)
  have hown : s.vm.findClass RX10 = some m.cls := findClass_of_methodNamed B.named
  have hlocks := B.notSynchronized
  have hl := lv_entry ([.ref x, .int v1]) (n := 2) (Nat.le_of_ble_eq_true rfl)
  rw [lg_entry_eq]
  generalize (lg_sl ([.ref x, .int v1]) ++ List.replicate (2 - (lg_sl ([.ref x, .int v1])).length) Slot.unset).toArray = ls at hl ⊢
  have hl : lv_has ls 2 [(0, .ref x), (1, .int v1)] := hl
  obtain ⟨hq1, hq2, hq3, hq4, hq5, hq6, hq7⟩ := id hQ
  refine lv_iload_n hx hb dX10_about_0 rfl (lv_at hl 1 rfl) ?_
  by_cases c_1 : v1 = 0
  · refine lv_topi (fun y_ e_ => ?_)
    obtain rfl : y_ = 0 := e_.trans c_1
    refine lv_tableIn (tgt := 44) hx hb dX10_about_1 (by decide) (by decide) rfl (by decide) ?_
    refine lv_aload_n hx hb dX10_about_44 rfl (lv_at hl 0 rfl) ?_
    refine va_get (D := (dC, dI)) (ci := 10) (v := .int (nI nl)) (C := RX10) (T := TX10) (N := 15) hx hb hts inX10 hown hK hP 0 rfl rfl 1 (by decide) (hts _ mw_202) (fun _ h9 => h9) rfl dX10_about_45 ?_
    exact W.iret (v := (nI nl)) hx hb hr (fun t ht hW => ⟨(nI nl), rfl, trivial, ht⟩) (fun q h => absurd h List.not_mem_nil) dX10_about_48
  by_cases c_2 : v1 = 1
  · refine lv_topi (fun y_ e_ => ?_)
    obtain rfl : y_ = 1 := e_.trans c_2
    refine lv_tableIn (tgt := 49) hx hb dX10_about_1 (by decide) (by decide) rfl (by decide) ?_
    refine lv_aload_n hx hb dX10_about_49 rfl (lv_at hl 0 rfl) ?_
    refine va_get (D := (dC, dI)) (ci := 10) (v := .int (nI nb)) (C := RX10) (T := TX10) (N := 15) hx hb hts inX10 hown hK hP 0 rfl rfl 3 (by decide) (hts _ mw_204) (fun _ h9 => h9) rfl dX10_about_50 ?_
    exact W.iret (v := (nI nb)) hx hb hr (fun t ht hW => ⟨(nI nb), rfl, trivial, ht⟩) (fun q h => absurd h List.not_mem_nil) dX10_about_53
  by_cases c_3 : v1 = 2
  · refine lv_topi (fun y_ e_ => ?_)
    obtain rfl : y_ = 2 := e_.trans c_3
    refine lv_tableIn (tgt := 54) hx hb dX10_about_1 (by decide) (by decide) rfl (by decide) ?_
    refine lv_aload_n hx hb dX10_about_54 rfl (lv_at hl 0 rfl) ?_
    refine va_get (D := (dC, dI)) (ci := 10) (v := .int (nI np)) (C := RX10) (T := TX10) (N := 15) hx hb hts inX10 hown hK hP 0 rfl rfl 5 (by decide) (hts _ mw_206) (fun _ h9 => h9) rfl dX10_about_55 ?_
    exact W.iret (v := (nI np)) hx hb hr (fun t ht hW => ⟨(nI np), rfl, trivial, ht⟩) (fun q h => absurd h List.not_mem_nil) dX10_about_58
  by_cases c_4 : v1 = 3
  · refine lv_topi (fun y_ e_ => ?_)
    obtain rfl : y_ = 3 := e_.trans c_4
    refine lv_tableIn (tgt := 59) hx hb dX10_about_1 (by decide) (by decide) rfl (by decide) ?_
    refine lv_aload_n hx hb dX10_about_59 rfl (lv_at hl 0 rfl) ?_
    refine va_get (D := (dC, dI)) (ci := 10) (v := .int (nI nx)) (C := RX10) (T := TX10) (N := 15) hx hb hts inX10 hown hK hP 0 rfl rfl 7 (by decide) (hts _ mw_208) (fun _ h9 => h9) rfl dX10_about_60 ?_
    exact W.iret (v := (nI nx)) hx hb hr (fun t ht hW => ⟨(nI nx), rfl, trivial, ht⟩) (fun q h => absurd h List.not_mem_nil) dX10_about_63
  by_cases c_5 : v1 = 4
  · refine lv_topi (fun y_ e_ => ?_)
    obtain rfl : y_ = 4 := e_.trans c_5
    refine lv_tableIn (tgt := 64) hx hb dX10_about_1 (by decide) (by decide) rfl (by decide) ?_
    refine lv_aload_n hx hb dX10_about_64 rfl (lv_at hl 0 rfl) ?_
    refine va_get (D := (dC, dI)) (ci := 10) (v := .ref (a 10)) (C := RX10) (T := TX10) (N := 15) hx hb hts inX10 hown hK hP 0 rfl rfl 10 (by decide) (hts _ mw_211) (fun _ h9 => h9) rfl dX10_about_65 ?_
    refine va_get (D := (dC, dI)) (ci := 8) (v := .int (nI rn)) (C := RX8) (T := TX8) (N := 7) hx hb hts inX8 hown hK hP 3 rfl rfl 2 (by decide) (hts _ mw_46) (fun _ h9 => h9) rfl dX10_about_68 ?_
    exact W.iret (v := (nI rn)) hx hb hr (fun t ht hW => ⟨(nI rn), rfl, trivial, ht⟩) (fun q h => absurd h List.not_mem_nil) dX10_about_71
  by_cases c_6 : v1 = 5
  · refine lv_topi (fun y_ e_ => ?_)
    obtain rfl : y_ = 5 := e_.trans c_6
    refine lv_tableIn (tgt := 72) hx hb dX10_about_1 (by decide) (by decide) rfl (by decide) ?_
    refine lv_aload_n hx hb dX10_about_72 rfl (lv_at hl 0 rfl) ?_
    refine va_get (D := (dC, dI)) (ci := 10) (v := .ref (a 12)) (C := RX10) (T := TX10) (N := 15) hx hb hts inX10 hown hK hP 0 rfl rfl 12 (by decide) (hts _ mw_213) (fun _ h9 => h9) rfl dX10_about_73 ?_
    refine va_get (D := (dC, dI)) (ci := 3) (v := .int (nI qm)) (C := RX3) (T := TX3) (N := 13) hx hb hts inX3 hown hK hP 4 rfl rfl 3 (by decide) (hts _ mw_108) (fun _ h9 => h9) rfl dX10_about_76 ?_
    exact W.iret (v := (nI qm)) hx hb hr (fun t ht hW => ⟨(nI qm), rfl, trivial, ht⟩) (fun q h => absurd h List.not_mem_nil) dX10_about_79
  by_cases c_7 : v1 = 6
  · refine lv_topi (fun y_ e_ => ?_)
    obtain rfl : y_ = 6 := e_.trans c_7
    refine lv_tableIn (tgt := 80) hx hb dX10_about_1 (by decide) (by decide) rfl (by decide) ?_
    refine lv_aload_n hx hb dX10_about_80 rfl (lv_at hl 0 rfl) ?_
    have hPc := hP.part (X := [(x, .inr (10, [.ref (a 0), .int (nI nl), .ref (a 2), .int (nI nb), .ref (a 4), .int (nI np), .ref (a 6), .int (nI nx), .ref (a 8), .ref (a 9), .ref (a 10), .ref (a 11), .ref (a 12), .ref (a 13), .ref (a 14)])), ((a 4), .inl (ca 7, 600, .inr (.inr (.inr (.inr (rA np pa)))))), ((a 8), .inl (ca 0, 144, .inl tr)), ((a 10), .inr (8, [.ref f0, .ref f1, .int (nI rn), .int gl, .int gh, .ref f5, .ref f6])), ((a 12), .inr (3, [.ref g0, .ref g1, .ref g2, .int (nI qm), .ref g4, .int om, .int kn, .int kl, .ref g8, .ref g9, .ref g10, .ref g11, va_rf lst]))]) (cx := [(x, .inr (10, [.ref (a 0), .int (nI nl), .ref (a 2), .int (nI nb), .ref (a 4), .int (nI np), .ref (a 6), .int (nI nx), .ref (a 8), .ref (a 9), .ref (a 10), .ref (a 11), .ref (a 12), .ref (a 13), .ref (a 14)])), ((a 4), .inl (ca 7, 600, .inr (.inr (.inr (.inr (rA np pa)))))), ((a 8), .inl (ca 0, 144, .inl tr))]) [0, 1, 2] rfl
    refine pc_i (va_runV (As := []) (rest := []) ⟨hx, hb, hml, hown, hts⟩ (k_countFit l dC dI ca x a nl la lo nb ba bt np pa pc nx xa bx tr (by first | assumption | omega | exact ⟨_, by omega, rfl⟩)) (⟨callB_of 0 hts (gd mw_868) rfl rfl rfl (hts _ mw_1) (hts _ mw_865) ds_X10_countFit ⟨Nat.le_of_ble_eq_true rfl, Nat.le_of_ble_eq_true rfl⟩, (hts _ mw_867), (hts _ mp_38)⟩) (pu_V hPc hK hE (va_recv hK hPc (ci := 10) (q0 := 0) rfl rfl)) rfl rfl hl.1 rfl (lv_room (Nat.le_of_ble_eq_true rfl)) dX10_about_81 ⟨Nat.le_of_ble_eq_true rfl, Nat.le_of_ble_eq_true rfl⟩) (fun rv_8 hw_ => ?_)
    have hw_8 := hw_
    exact W.iret (v := rv_8) hx hb hr (fun t ht hW => ⟨rv_8, rfl, trivial, ht⟩) (fun q h => absurd h List.not_mem_nil) dX10_about_84
  refine lv_tableOut (tgt := 85) hx hb dX10_about_1 (by have n0 := lv_neT c_1 (show (0 : Int32).toInt = 0 by decide); have n1 := lv_neT c_2 (show (1 : Int32).toInt = 1 by decide); have n2 := lv_neT c_3 (show (2 : Int32).toInt = 2 by decide); have n3 := lv_neT c_4 (show (3 : Int32).toInt = 3 by decide); have n4 := lv_neT c_5 (show (4 : Int32).toInt = 4 by decide); have n5 := lv_neT c_6 (show (5 : Int32).toInt = 5 by decide); have n6 := lv_neT c_7 (show (6 : Int32).toInt = 6 by decide); omega) (by decide) ?_
  refine lv_iconst (v := (-1)) hx hb dX10_about_85 (by decide) ?_
  exact W.iret (v := (-1)) hx hb hr (fun t ht hW => ⟨(-1), rfl, trivial, ht⟩) (fun q h => absurd h List.not_mem_nil) dX10_about_86
