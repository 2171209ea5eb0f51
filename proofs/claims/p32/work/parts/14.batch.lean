set_option maxHeartbeats 4000000 in
set_option maxRecDepth 100000 in
theorem b_findTop (l : Launch) (dC : Nat → ClassId) (dI : Nat → Nat → Nat) (ca : Nat → ClassId) (h : Nat) (b0 : Int32) (b2 : Int32) (b3 : Int32) (b4 : Int64) (b5 : Int32) (b6 : Int32) (b7 : Int32) (b8 : Int32) (b9 : Int32) (b10 : Int32) (b11 : Int32) (b12 : Int32) (b13 : Int32) (b14 : Int32) (b15 : Int32) (ro : Nat) (ra : Nat) (rs : Nat) (dv : Int32) (sv : Int32) (FB : Nat → Int32) (en : Nat) (hd : cnt dv 60) (hen : en ≤ 60) : Met l yX0_findTop (Cond.code yX0_findTop cX0_findTop 6 (some .int) :: gT) ({ frames := 4, cells := 0, slots := 0, locals := 124 }) (va_Pc [.ref h, .int (nI en)] (pu (dC, dI) [(h, .inr (0, [.int b0, .ref ro, .int b2, .int b3, .long b4, .int b5, .int b6, .int b7, .int b8, .int b9, .int b10, .int b11, .int b12, .int b13, .int b14, .int b15])), (ro, .inr (7, [.ref ra, .ref rs, .int dv, .int sv])), (ra, .inl (ca 0, 60, .inl FB))] (aT ca))) (vp_Si (fun r => r = ftG (nuF dv FB) (dgF dv FB) en 0 (-1) 0)) 0 0 (fun _ => False) := by
  refine Met.ofW (cc := cX0_findTop) (maxL := 6) (ret := (some .int)) (by decide) rfl ?_
  intro p e s m args below meth c s₁ B hml hv
  obtain ⟨rfl, hP, hK, hE⟩ := hv
  have hx := B.exec
  have hb := B.bytes
  have hr := B.returns
  have hts : ∀ w ∈ gT, w.before _ s = true := fun w h => atoms_spec (ws := Cond.code yX0_findTop cX0_findTop 6 (some .int) :: gT) B.pre w (List.mem_cons_of_mem _ h)
  have hown : s.vm.findClass RX0 = some m.cls := findClass_of_methodNamed B.named
  have hlocks := B.notSynchronized
  have hl := lv_entry ([.ref h, .int (nI en)]) (n := 6) (Nat.le_of_ble_eq_true rfl)
  rw [lg_entry_eq]
  generalize (lg_sl ([.ref h, .int (nI en)]) ++ List.replicate (6 - (lg_sl ([.ref h, .int (nI en)])).length) Slot.unset).toArray = ls at hl ⊢
  have hl : lv_has ls 6 [(0, .ref h), (1, .int (nI en))] := hl
  refine lv_iconst (v := (-1)) hx hb dX0_findTop_0 (by decide) ?_
  refine lv_istore_n (lv' := [(2, .int (-1)), (0, .ref h), (1, .int (nI en))]) hx hb dX0_findTop_1 rfl hl (by decide) rfl (fun ls hl => ?_)
  refine lv_iconst (v := 0) hx hb dX0_findTop_2 (by decide) ?_
  refine lv_istore_n (lv' := [(3, .int 0), (2, .int (-1)), (0, .ref h), (1, .int (nI en))]) hx hb dX0_findTop_3 rfl hl (by decide) rfl (fun ls hl => ?_)
  refine lv_iconst (v := 0) hx hb dX0_findTop_4 (by decide) ?_
  refine lv_istore (lv' := [(4, .int 0), (3, .int 0), (2, .int (-1)), (0, .ref h), (1, .int (nI en))]) hx hb dX0_findTop_5 hl (by decide) rfl (fun ls hl => ?_)
  refine wl_loop (fun (z_ : Nat × Int32 × Int32) H locs ls => (z_.1 ≤ en ∧ ftG (nuF dv FB) (dgF dv FB) (en - z_.1) z_.1 z_.2.1 z_.2.2 = ftG (nuF dv FB) (dgF dv FB) en 0 (-1) 0) ∧ H = s.heap ∧ locs = [] ∧ lv_has ls 6 [(4, .int (nI z_.1)), (3, .int z_.2.2), (2, .int z_.2.1), (0, .ref h), (1, .int (nI en))]) (fun (z_ : Nat × Int32 × Int32) => en - z_.1) (fun z_ H locs ls hI ih => ?_) (0, (-1), 0) ⟨⟨Nat.zero_le _, rfl⟩, rfl, rfl, lv_sub hl [0, 1, 2, 3, 4] rfl⟩
  obtain ⟨i, tv, gv⟩ := z_
  dsimp only at hI ih
  obtain ⟨⟨hi, hg⟩, rfl, rfl, hl⟩ := hI
  refine lv_iload hx hb dX0_findTop_7 (lv_at hl 0 rfl) ?_
  refine lv_iload_n hx hb dX0_findTop_9 rfl (lv_at hl 4 rfl) ?_
  refine lv_icmp_ge (tgt := 59) hx hb dX0_findTop_10 (by decide) (fun c_1 => ?_) (fun c_1 => ?_)
  · have nc_1 : en ≤ i := (nI_leI (a := en) (b := i) (by omega) (by omega)).mp c_1
    refine lv_iload_n hx hb dX0_findTop_59 rfl (lv_at hl 2 rfl) ?_
    exact W.iret (v := tv) hx hb hr (fun t ht hW => ⟨tv, rfl, (by rw [← hg, show en - i = 0 by omega]; rfl), ht⟩) (fun q h => absurd h List.not_mem_nil) dX0_findTop_60
  · have nc_1 : ¬ (en ≤ i) := fun h9 => c_1 ((nI_leI (a := en) (b := i) (by omega) (by omega)).mpr h9)
    refine lv_aload_n hx hb dX0_findTop_13 rfl (lv_at hl 3 rfl) ?_
    refine va_get (D := (dC, dI)) (ci := 0) (v := .ref ro) (C := RX0) (T := TX0) (N := 16) hx hb hts inX0 hown hK hP 0 rfl rfl 1 (by decide) (hts _ mw_307) (fun _ h9 => h9) rfl dX0_findTop_14 ?_
    refine lv_iload hx hb dX0_findTop_17 (lv_at hl 0 rfl) ?_
    have hPc := hP.sub (ws' := [(ro, .inr (7, [.ref ra, .ref rs, .int dv, .int sv])), (ra, .inl (ca 0, 60, .inl FB))]) [1, 2] rfl
    refine pc_i (va_runV (As := [.int (nI i)]) (rest := []) ⟨hx, hb, hml, hown, hts⟩ (r_isNumber l dC dI ca ro ra rs dv sv FB (nI i) (by first | assumption | omega | exact ⟨_, by omega, rfl⟩)) (⟨callB_of 1 hts (gd mw_451) rfl rfl rfl (hts _ mw_11) (hts _ mw_448) ds_X7_isNumber ⟨Nat.le_of_ble_eq_true rfl, Nat.le_of_ble_eq_true rfl⟩, (hts _ mw_449), (hts _ mw_450)⟩) (pu_V hPc hK hE (va_recv hK hPc (ci := 7) (q0 := 0) rfl rfl)) rfl rfl hl.1 rfl (lv_room (Nat.le_of_ble_eq_true rfl)) dX0_findTop_19 ⟨Nat.le_of_ble_eq_true rfl, Nat.le_of_ble_eq_true rfl⟩) (fun rv_2 hw_ => ?_)
    obtain rfl : rv_2 = (isN dv FB (nI i)) := hw_
    refine lv_if_eq (tgt := 53) hx hb dX0_findTop_22 (by decide) (fun c_3 => ?_) (fun c_3 => ?_)
    · refine lv_iinc (v := (nI (i + 1))) (lv' := [(4, .int (nI (i + 1))), (3, .int gv), (2, .int tv), (0, .ref h), (1, .int (nI en))]) hx hb dX0_findTop_53 hl (k := 0) rfl (nI_add (i) 1) (by decide) rfl (fun ls hl => ?_)
      refine lv_goto (tgt := 7) hx hb dX0_findTop_56 (by decide) ?_
      exact ih (i + 1, tv, gv) _ _ _ (by omega) ⟨⟨by first | omega | (dsimp only; omega), by rw [← hg, ftG_0 (show nuF dv FB i = 0 from c_3) (by first | omega | (dsimp only; omega)), Nat.sub_sub] <;> rfl⟩, rfl, rfl, lv_sub hl [0, 1, 2, 3, 4] rfl⟩
    · refine lv_aload_n hx hb dX0_findTop_25 rfl (lv_at hl 3 rfl) ?_
      refine va_get (D := (dC, dI)) (ci := 0) (v := .ref ro) (C := RX0) (T := TX0) (N := 16) hx hb hts inX0 hown hK hP 0 rfl rfl 1 (by decide) (hts _ mw_307) (fun _ h9 => h9) rfl dX0_findTop_26 ?_
      refine lv_iload hx hb dX0_findTop_29 (lv_at hl 0 rfl) ?_
      have hPc := hP.sub (ws' := [(ro, .inr (7, [.ref ra, .ref rs, .int dv, .int sv])), (ra, .inl (ca 0, 60, .inl FB))]) [1, 2] rfl
      refine pc_i (va_runV (As := [.int (nI i)]) (rest := []) ⟨hx, hb, hml, hown, hts⟩ (r_degreeAt l dC dI ca ro ra rs dv sv FB (nI i) (by first | assumption | omega | exact ⟨_, by omega, rfl⟩)) (⟨callB_of 1 hts (gd mw_458) rfl rfl rfl (hts _ mw_11) (hts _ mw_455) ds_X7_degreeAt ⟨Nat.le_of_ble_eq_true rfl, Nat.le_of_ble_eq_true rfl⟩, (hts _ mw_456), (hts _ mw_457)⟩) (pu_V hPc hK hE (va_recv hK hPc (ci := 7) (q0 := 0) rfl rfl)) rfl rfl hl.1 rfl (lv_room (Nat.le_of_ble_eq_true rfl)) dX0_findTop_31 ⟨Nat.le_of_ble_eq_true rfl, Nat.le_of_ble_eq_true rfl⟩) (fun rv_4 hw_ => ?_)
      obtain rfl : rv_4 = (dgA dv FB (nI i)) := hw_
      refine lv_istore (lv' := [(5, .int (dgA dv FB (nI i))), (4, .int (nI i)), (3, .int gv), (2, .int tv), (0, .ref h), (1, .int (nI en))]) hx hb dX0_findTop_34 hl (by decide) rfl (fun ls hl => ?_)
      refine lv_iload_n hx hb dX0_findTop_36 rfl (lv_at hl 3 rfl) ?_
      refine lv_iconst (v := (-1)) hx hb dX0_findTop_37 (by decide) ?_
      refine lv_icmp_eq (tgt := 47) hx hb dX0_findTop_38 (by decide) (fun c_5 => ?_) (fun c_5 => ?_)
      · refine lv_iload hx hb dX0_findTop_47 (lv_at hl 1 rfl) ?_
        refine lv_istore_n (lv' := [(2, .int (nI i)), (5, .int (dgA dv FB (nI i))), (4, .int (nI i)), (3, .int gv), (0, .ref h), (1, .int (nI en))]) hx hb dX0_findTop_49 rfl hl (by decide) rfl (fun ls hl => ?_)
        refine lv_iload hx hb dX0_findTop_50 (lv_at hl 1 rfl) ?_
        refine lv_istore_n (lv' := [(3, .int (dgA dv FB (nI i))), (2, .int (nI i)), (5, .int (dgA dv FB (nI i))), (4, .int (nI i)), (0, .ref h), (1, .int (nI en))]) hx hb dX0_findTop_52 rfl hl (by decide) rfl (fun ls hl => ?_)
        refine lv_iinc (v := (nI (i + 1))) (lv' := [(4, .int (nI (i + 1))), (3, .int (dgA dv FB (nI i))), (2, .int (nI i)), (5, .int (dgA dv FB (nI i))), (0, .ref h), (1, .int (nI en))]) hx hb dX0_findTop_53 hl (k := 3) rfl (nI_add (i) 1) (by decide) rfl (fun ls hl => ?_)
        refine lv_goto (tgt := 7) hx hb dX0_findTop_56 (by decide) ?_
        exact ih (i + 1, (nI i), (dgA dv FB (nI i))) _ _ _ (by omega) ⟨⟨by first | omega | (dsimp only; omega), by rw [← hg, ftG_1 (show ¬ nuF dv FB i = 0 from c_3) (Or.inl c_5) (by first | omega | (dsimp only; omega)), Nat.sub_sub] <;> rfl⟩, rfl, rfl, lv_sub hl [0, 1, 2, 4, 5] rfl⟩
      · refine lv_iload hx hb dX0_findTop_41 (lv_at hl 0 rfl) ?_
        refine lv_iload_n hx hb dX0_findTop_43 rfl (lv_at hl 2 rfl) ?_
        refine lv_icmp_le (tgt := 53) hx hb dX0_findTop_44 (by decide) (fun c_6 => ?_) (fun c_6 => ?_)
        · refine lv_iinc (v := (nI (i + 1))) (lv' := [(4, .int (nI (i + 1))), (5, .int (dgA dv FB (nI i))), (3, .int gv), (2, .int tv), (0, .ref h), (1, .int (nI en))]) hx hb dX0_findTop_53 hl (k := 1) rfl (nI_add (i) 1) (by decide) rfl (fun ls hl => ?_)
          refine lv_goto (tgt := 7) hx hb dX0_findTop_56 (by decide) ?_
          exact ih (i + 1, tv, gv) _ _ _ (by omega) ⟨⟨by first | omega | (dsimp only; omega), by rw [← hg, ftG_2 (show ¬ nuF dv FB i = 0 from c_3) c_5 (show dgF dv FB i ≤ gv from c_6) (by first | omega | (dsimp only; omega)), Nat.sub_sub] <;> rfl⟩, rfl, rfl, lv_sub hl [0, 2, 3, 4, 5] rfl⟩
        · refine lv_iload hx hb dX0_findTop_47 (lv_at hl 1 rfl) ?_
          refine lv_istore_n (lv' := [(2, .int (nI i)), (5, .int (dgA dv FB (nI i))), (4, .int (nI i)), (3, .int gv), (0, .ref h), (1, .int (nI en))]) hx hb dX0_findTop_49 rfl hl (by decide) rfl (fun ls hl => ?_)
          refine lv_iload hx hb dX0_findTop_50 (lv_at hl 1 rfl) ?_
          refine lv_istore_n (lv' := [(3, .int (dgA dv FB (nI i))), (2, .int (nI i)), (5, .int (dgA dv FB (nI i))), (4, .int (nI i)), (0, .ref h), (1, .int (nI en))]) hx hb dX0_findTop_52 rfl hl (by decide) rfl (fun ls hl => ?_)
          refine lv_iinc (v := (nI (i + 1))) (lv' := [(4, .int (nI (i + 1))), (3, .int (dgA dv FB (nI i))), (2, .int (nI i)), (5, .int (dgA dv FB (nI i))), (0, .ref h), (1, .int (nI en))]) hx hb dX0_findTop_53 hl (k := 3) rfl (nI_add (i) 1) (by decide) rfl (fun ls hl => ?_)
          refine lv_goto (tgt := 7) hx hb dX0_findTop_56 (by decide) ?_
          exact ih (i + 1, (nI i), (dgA dv FB (nI i))) _ _ _ (by omega) ⟨⟨by first | omega | (dsimp only; omega), by rw [← hg, ftG_1 (show ¬ nuF dv FB i = 0 from c_3) (Or.inr (show ¬ dgF dv FB i ≤ gv from c_6)) (by first | omega | (dsimp only; omega)), Nat.sub_sub] <;> rfl⟩, rfl, rfl, lv_sub hl [0, 1, 2, 4, 5] rfl⟩

set_option maxHeartbeats 4000000 in
set_option maxRecDepth 100000 in
theorem b_findGrained (l : Launch) (dC : Nat → ClassId) (dI : Nat → Nat → Nat) (ca : Nat → ClassId) (h : Nat) (b0 : Int32) (b2 : Int32) (b3 : Int32) (b4 : Int64) (b5 : Int32) (b6 : Int32) (b7 : Int32) (b8 : Int32) (b9 : Int32) (b10 : Int32) (b11 : Int32) (b12 : Int32) (b13 : Int32) (b14 : Int32) (b15 : Int32) (ro : Nat) (ra : Nat) (rs : Nat) (dv : Int32) (sv : Int32) (FB : Nat → Int32) (SB : Nat → Int32) (hu : Nat) (f0 : Nat) (f1 : Nat) (f5 : Nat) (f6 : Nat) (rn : Nat) (gl : Int32) (gh : Int32) (fr : Nat) (en : Nat) (hd : cnt dv 60) (hs : cnt sv 60) (hen : en ≤ 60) (hfr : fr ≤ 61) : Met l yX0_findGrained (Cond.code yX0_findGrained cX0_findGrained 5 (some .int) :: gT) ({ frames := 4, cells := 0, slots := 0, locals := 124 }) (va_Pc [.ref h, .int (nI fr), .int (nI en), .ref hu] (pu (dC, dI) [(h, .inr (0, [.int b0, .ref ro, .int b2, .int b3, .long b4, .int b5, .int b6, .int b7, .int b8, .int b9, .int b10, .int b11, .int b12, .int b13, .int b14, .int b15])), (ro, .inr (7, [.ref ra, .ref rs, .int dv, .int sv])), (ra, .inl (ca 0, 60, .inl FB)), (rs, .inl (ca 1, 60, .inl SB)), (hu, .inr (8, [.ref f0, .ref f1, .int (nI rn), .int gl, .int gh, .ref f5, .ref f6]))] (aT ca))) (vp_Si (fun r => r = fgG (yesF dv FB sv SB gl gh) (en - fr) fr)) 0 0 (fun _ => False) := by
  refine Met.ofW (cc := cX0_findGrained) (maxL := 5) (ret := (some .int)) (by decide) rfl ?_
  intro p e s m args below meth c s₁ B hml hv
  obtain ⟨rfl, hP, hK, hE⟩ := hv
  have hx := B.exec
  have hb := B.bytes
  have hr := B.returns
  have hts : ∀ w ∈ gT, w.before _ s = true := fun w h => atoms_spec (ws := Cond.code yX0_findGrained cX0_findGrained 5 (some .int) :: gT) B.pre w (List.mem_cons_of_mem _ h)
  have hown : s.vm.findClass RX0 = some m.cls := findClass_of_methodNamed B.named
  have hlocks := B.notSynchronized
  have hl := lv_entry ([.ref h, .int (nI fr), .int (nI en), .ref hu]) (n := 5) (Nat.le_of_ble_eq_true rfl)
  rw [lg_entry_eq]
  generalize (lg_sl ([.ref h, .int (nI fr), .int (nI en), .ref hu]) ++ List.replicate (5 - (lg_sl ([.ref h, .int (nI fr), .int (nI en), .ref hu])).length) Slot.unset).toArray = ls at hl ⊢
  have hl : lv_has ls 5 [(0, .ref h), (1, .int (nI fr)), (2, .int (nI en)), (3, .ref hu)] := hl
  refine lv_iload_n hx hb dX0_findGrained_0 rfl (lv_at hl 1 rfl) ?_
  refine lv_istore (lv' := [(4, .int (nI fr)), (0, .ref h), (1, .int (nI fr)), (2, .int (nI en)), (3, .ref hu)]) hx hb dX0_findGrained_1 hl (by decide) rfl (fun ls hl => ?_)
  refine wl_loop (fun (z_ : Nat) H locs ls => (fr ≤ z_ ∧ z_ ≤ 61 ∧ fgG (yesF dv FB sv SB gl gh) (en - z_) z_ = fgG (yesF dv FB sv SB gl gh) (en - fr) fr) ∧ H = s.heap ∧ locs = [] ∧ lv_has ls 5 [(4, .int (nI z_)), (0, .ref h), (1, .int (nI fr)), (2, .int (nI en)), (3, .ref hu)]) (fun (z_ : Nat) => en - z_) (fun z_ H locs ls hI ih => ?_) fr ⟨⟨Nat.le_refl _, hfr, rfl⟩, rfl, rfl, lv_sub hl [0, 1, 2, 3, 4] rfl⟩
  revert hI ih; revert z_; intro i hI ih
  obtain ⟨⟨hi, hi2, hg⟩, rfl, rfl, hl⟩ := hI
  refine lv_iload hx hb dX0_findGrained_3 (lv_at hl 0 rfl) ?_
  refine lv_iload_n hx hb dX0_findGrained_5 rfl (lv_at hl 3 rfl) ?_
  refine lv_icmp_ge (tgt := 58) hx hb dX0_findGrained_6 (by decide) (fun c_1 => ?_) (fun c_1 => ?_)
  · have nc_1 : en ≤ i := (nI_leI (a := en) (b := i) (by omega) (by omega)).mp c_1
    refine lv_iconst (v := (-1)) hx hb dX0_findGrained_58 (by decide) ?_
    exact W.iret (v := (-1)) hx hb hr (fun t ht hW => ⟨(-1), rfl, (by rw [← hg, show en - i = 0 by omega]; rfl), ht⟩) (fun q h => absurd h List.not_mem_nil) dX0_findGrained_59
  · have nc_1 : ¬ (en ≤ i) := fun h9 => c_1 ((nI_leI (a := en) (b := i) (by omega) (by omega)).mpr h9)
    refine lv_aload_n hx hb dX0_findGrained_9 rfl (lv_at hl 1 rfl) ?_
    refine va_get (D := (dC, dI)) (ci := 0) (v := .ref ro) (C := RX0) (T := TX0) (N := 16) hx hb hts inX0 hown hK hP 0 rfl rfl 1 (by decide) (hts _ mw_307) (fun _ h9 => h9) rfl dX0_findGrained_10 ?_
    refine lv_iload hx hb dX0_findGrained_13 (lv_at hl 0 rfl) ?_
    have hPc := hP.sub (ws' := [(ro, .inr (7, [.ref ra, .ref rs, .int dv, .int sv])), (rs, .inl (ca 1, 60, .inl SB))]) [1, 3] rfl
    refine pc_i (va_runV (As := [.int (nI i)]) (rest := []) ⟨hx, hb, hml, hown, hts⟩ (r_wasStirred l dC dI ca ro ra rs dv sv SB (nI i) (by first | assumption | omega | exact ⟨_, by omega, rfl⟩)) (⟨callB_of 1 hts (gd mw_478) rfl rfl rfl (hts _ mw_11) (hts _ mw_475) ds_X7_wasStirred ⟨Nat.le_of_ble_eq_true rfl, Nat.le_of_ble_eq_true rfl⟩, (hts _ mw_476), (hts _ mw_477)⟩) (pu_V hPc hK hE (va_recv hK hPc (ci := 7) (q0 := 0) rfl rfl)) rfl rfl hl.1 rfl (lv_room (Nat.le_of_ble_eq_true rfl)) dX0_findGrained_15 ⟨Nat.le_of_ble_eq_true rfl, Nat.le_of_ble_eq_true rfl⟩) (fun rv_2 hw_ => ?_)
    obtain rfl : rv_2 = (stA sv SB (nI i)) := hw_
    refine lv_if_eq (tgt := 52) hx hb dX0_findGrained_18 (by decide) (fun c_3 => ?_) (fun c_3 => ?_)
    · refine lv_iinc (v := (nI (i + 1))) (lv' := [(4, .int (nI (i + 1))), (0, .ref h), (1, .int (nI fr)), (2, .int (nI en)), (3, .ref hu)]) hx hb dX0_findGrained_52 hl (k := 0) rfl (nI_add (i) 1) (by decide) rfl (fun ls hl => ?_)
      refine lv_goto (tgt := 3) hx hb dX0_findGrained_55 (by decide) ?_
      exact ih (i + 1) _ _ _ (by omega) ⟨⟨by omega, by omega, by have h8 := fgG_n (yes := yesF dv FB sv SB gl gh) (k := en - i) (i := i) (by unfold yesF; simp [c_3]) (by omega); rw [Nat.sub_sub] at h8; exact h8.symm.trans hg⟩, rfl, rfl, lv_sub hl [0, 1, 2, 3, 4] rfl⟩
    · refine lv_aload_n hx hb dX0_findGrained_21 rfl (lv_at hl 1 rfl) ?_
      refine va_get (D := (dC, dI)) (ci := 0) (v := .ref ro) (C := RX0) (T := TX0) (N := 16) hx hb hts inX0 hown hK hP 0 rfl rfl 1 (by decide) (hts _ mw_307) (fun _ h9 => h9) rfl dX0_findGrained_22 ?_
      refine lv_iload hx hb dX0_findGrained_25 (lv_at hl 0 rfl) ?_
      have hPc := hP.sub (ws' := [(ro, .inr (7, [.ref ra, .ref rs, .int dv, .int sv])), (ra, .inl (ca 0, 60, .inl FB))]) [1, 2] rfl
      refine pc_i (va_runV (As := [.int (nI i)]) (rest := []) ⟨hx, hb, hml, hown, hts⟩ (r_isNumber l dC dI ca ro ra rs dv sv FB (nI i) (by first | assumption | omega | exact ⟨_, by omega, rfl⟩)) (⟨callB_of 1 hts (gd mw_451) rfl rfl rfl (hts _ mw_11) (hts _ mw_448) ds_X7_isNumber ⟨Nat.le_of_ble_eq_true rfl, Nat.le_of_ble_eq_true rfl⟩, (hts _ mw_449), (hts _ mw_450)⟩) (pu_V hPc hK hE (va_recv hK hPc (ci := 7) (q0 := 0) rfl rfl)) rfl rfl hl.1 rfl (lv_room (Nat.le_of_ble_eq_true rfl)) dX0_findGrained_27 ⟨Nat.le_of_ble_eq_true rfl, Nat.le_of_ble_eq_true rfl⟩) (fun rv_4 hw_ => ?_)
      obtain rfl : rv_4 = (isN dv FB (nI i)) := hw_
      refine lv_if_eq (tgt := 52) hx hb dX0_findGrained_30 (by decide) (fun c_5 => ?_) (fun c_5 => ?_)
      · refine lv_iinc (v := (nI (i + 1))) (lv' := [(4, .int (nI (i + 1))), (0, .ref h), (1, .int (nI fr)), (2, .int (nI en)), (3, .ref hu)]) hx hb dX0_findGrained_52 hl (k := 0) rfl (nI_add (i) 1) (by decide) rfl (fun ls hl => ?_)
        refine lv_goto (tgt := 3) hx hb dX0_findGrained_55 (by decide) ?_
        exact ih (i + 1) _ _ _ (by omega) ⟨⟨by omega, by omega, by have h8 := fgG_n (yes := yesF dv FB sv SB gl gh) (k := en - i) (i := i) (by unfold yesF; simp [c_3, c_5]) (by omega); rw [Nat.sub_sub] at h8; exact h8.symm.trans hg⟩, rfl, rfl, lv_sub hl [0, 1, 2, 3, 4] rfl⟩
      · refine lv_aload_n hx hb dX0_findGrained_33 rfl (lv_at hl 4 rfl) ?_
        refine lv_aload_n hx hb dX0_findGrained_34 rfl (lv_at hl 1 rfl) ?_
        refine va_get (D := (dC, dI)) (ci := 0) (v := .ref ro) (C := RX0) (T := TX0) (N := 16) hx hb hts inX0 hown hK hP 0 rfl rfl 1 (by decide) (hts _ mw_307) (fun _ h9 => h9) rfl dX0_findGrained_35 ?_
        refine lv_iload hx hb dX0_findGrained_38 (lv_at hl 0 rfl) ?_
        have hPc := hP.sub (ws' := [(ro, .inr (7, [.ref ra, .ref rs, .int dv, .int sv])), (ra, .inl (ca 0, 60, .inl FB))]) [1, 2] rfl
        refine pc_i (va_runV (As := [.int (nI i)]) (rest := [.ref hu]) ⟨hx, hb, hml, hown, hts⟩ (r_degreeAt l dC dI ca ro ra rs dv sv FB (nI i) (by first | assumption | omega | exact ⟨_, by omega, rfl⟩)) (⟨callB_of 1 hts (gd mw_458) rfl rfl rfl (hts _ mw_11) (hts _ mw_455) ds_X7_degreeAt ⟨Nat.le_of_ble_eq_true rfl, Nat.le_of_ble_eq_true rfl⟩, (hts _ mw_456), (hts _ mw_457)⟩) (pu_V hPc hK hE (va_recv hK hPc (ci := 7) (q0 := 0) rfl rfl)) rfl rfl hl.1 rfl (lv_room (Nat.le_of_ble_eq_true rfl)) dX0_findGrained_40 ⟨Nat.le_of_ble_eq_true rfl, Nat.le_of_ble_eq_true rfl⟩) (fun rv_6 hw_ => ?_)
        obtain rfl : rv_6 = (dgA dv FB (nI i)) := hw_
        have hPc := hP.sub (ws' := [(hu, .inr (8, [.ref f0, .ref f1, .int (nI rn), .int gl, .int gh, .ref f5, .ref f6]))]) [4] rfl
        refine pc_i (va_runV (As := [.int (dgA dv FB (nI i))]) (rest := []) ⟨hx, hb, hml, hown, hts⟩ (u_isGrain l dC dI ca hu f0 f1 f5 f6 rn gl gh (dgA dv FB (nI i)) ) (⟨callB_of 1 hts (gd mw_483) rfl rfl rfl (hts _ mw_2) (hts _ mw_480) ds_X8_isGrain ⟨Nat.le_of_ble_eq_true rfl, Nat.le_of_ble_eq_true rfl⟩, (hts _ mw_481), (hts _ mw_482)⟩) (pu_V hPc hK hE (va_recv hK hPc (ci := 8) (q0 := 0) rfl rfl)) rfl rfl hl.1 rfl (lv_room (Nat.le_of_ble_eq_true rfl)) dX0_findGrained_43 ⟨Nat.le_of_ble_eq_true rfl, Nat.le_of_ble_eq_true rfl⟩) (fun rv_7 hw_ => ?_)
        obtain rfl : rv_7 = (wi (dgA dv FB (nI i)) gl gh) := hw_
        refine lv_if_eq (tgt := 52) hx hb dX0_findGrained_46 (by decide) (fun c_8 => ?_) (fun c_8 => ?_)
        · refine lv_iinc (v := (nI (i + 1))) (lv' := [(4, .int (nI (i + 1))), (0, .ref h), (1, .int (nI fr)), (2, .int (nI en)), (3, .ref hu)]) hx hb dX0_findGrained_52 hl (k := 0) rfl (nI_add (i) 1) (by decide) rfl (fun ls hl => ?_)
          refine lv_goto (tgt := 3) hx hb dX0_findGrained_55 (by decide) ?_
          exact ih (i + 1) _ _ _ (by omega) ⟨⟨by omega, by omega, by have h8 := fgG_n (yes := yesF dv FB sv SB gl gh) (k := en - i) (i := i) (by unfold yesF; simp [c_3, c_5, c_8]) (by omega); rw [Nat.sub_sub] at h8; exact h8.symm.trans hg⟩, rfl, rfl, lv_sub hl [0, 1, 2, 3, 4] rfl⟩
        · refine lv_iload hx hb dX0_findGrained_49 (lv_at hl 0 rfl) ?_
          exact W.iret (v := (nI i)) hx hb hr (fun t ht hW => ⟨(nI i), rfl, (by rw [← hg, fgG_y (by unfold yesF; simp [c_3, c_5, c_8]) (by omega)]), ht⟩) (fun q h => absurd h List.not_mem_nil) dX0_findGrained_51

/-- why a batch isn't good -/
def flt (b0 b5 b6 b8 b10 b11 : Int32) (lw6 hi6 : Nat → Int32) : Int32 := if b5 = 0 then 1 else if ¬ b6 = 0 then 0 else if ¬ b10 = -1 then 2 else if b8 < lw6 b0.toNatClampNeg then 3 else if hi6 b0.toNatClampNeg < b8 then 4 else if b11 = -1 ∧ (b0 = 1 ∨ ¬ isC b0 = 0) then 5 else if ¬ b11 = -1 ∧ b0 = 2 then 6 else 0
def ckM (tk : Nat) (dn : Nat) : Nat := min tk dn

set_option maxHeartbeats 4000000 in
set_option maxRecDepth 100000 in
theorem b_fault (l : Launch) (dC : Nat → ClassId) (dI : Nat → Nat → Nat) (ca : Nat → ClassId) (h : Nat) (b0 : Int32) (b2 : Int32) (b3 : Int32) (b4 : Int64) (b5 : Int32) (b6 : Int32) (b7 : Int32) (b8 : Int32) (b9 : Int32) (b10 : Int32) (b11 : Int32) (b12 : Int32) (b13 : Int32) (b14 : Int32) (b15 : Int32) (ro : Nat) (hu : Nat) (f0 : Nat) (f1 : Nat) (f5 : Nat) (f6 : Nat) (rn : Nat) (gl : Int32) (gh : Int32) (lw6 : Nat → Int32) (hi6 : Nat → Int32) (hk : cnt b0 5) : Met l yX0_fault (Cond.code yX0_fault cX0_fault 3 (some .int) :: gT) ({ frames := 2, cells := 0, slots := 0, locals := 80 }) (va_Pc [.ref h, .ref hu] (pu (dC, dI) [(h, .inr (0, [.int b0, .ref ro, .int b2, .int b3, .long b4, .int b5, .int b6, .int b7, .int b8, .int b9, .int b10, .int b11, .int b12, .int b13, .int b14, .int b15])), (hu, .inr (8, [.ref f0, .ref f1, .int (nI rn), .int gl, .int gh, .ref f5, .ref f6])), (f5, .inl (ca 0, 6, .inl lw6)), (f6, .inl (ca 0, 6, .inl hi6))] (aT ca))) (vp_Si (fun r => r = flt b0 b5 b6 b8 b10 b11 lw6 hi6)) 0 0 (fun _ => False) := by
  refine Met.ofW (cc := cX0_fault) (maxL := 3) (ret := (some .int)) (by decide) rfl ?_
  intro p e s m args below meth c s₁ B hml hv
  obtain ⟨rfl, hP, hK, hE⟩ := hv
  have hx := B.exec
  have hb := B.bytes
  have hr := B.returns
  have hts : ∀ w ∈ gT, w.before _ s = true := fun w h => atoms_spec (ws := Cond.code yX0_fault cX0_fault 3 (some .int) :: gT) B.pre w (List.mem_cons_of_mem _ h)
  have hown : s.vm.findClass RX0 = some m.cls := findClass_of_methodNamed B.named
  have hlocks := B.notSynchronized
  have hl := lv_entry ([.ref h, .ref hu]) (n := 3) (Nat.le_of_ble_eq_true rfl)
  rw [lg_entry_eq]
  generalize (lg_sl ([.ref h, .ref hu]) ++ List.replicate (3 - (lg_sl ([.ref h, .ref hu])).length) Slot.unset).toArray = ls at hl ⊢
  have hl : lv_has ls 3 [(0, .ref h), (1, .ref hu)] := hl
  refine lv_aload_n hx hb dX0_fault_0 rfl (lv_at hl 0 rfl) ?_
  refine va_get (D := (dC, dI)) (ci := 0) (v := .int b5) (C := RX0) (T := TX0) (N := 16) hx hb hts inX0 hown hK hP 0 rfl rfl 5 (by decide) (hts _ mw_315) (fun _ h9 => h9) rfl dX0_fault_1 ?_
  refine lv_if_ne (tgt := 9) hx hb dX0_fault_4 (by decide) (fun c_1 => ?_) (fun c_1 => ?_)
  · refine lv_aload_n hx hb dX0_fault_9 rfl (lv_at hl 0 rfl) ?_
    refine va_get (D := (dC, dI)) (ci := 0) (v := .int b6) (C := RX0) (T := TX0) (N := 16) hx hb hts inX0 hown hK hP 0 rfl rfl 6 (by decide) (hts _ mw_317) (fun _ h9 => h9) rfl dX0_fault_10 ?_
    refine lv_if_eq (tgt := 18) hx hb dX0_fault_13 (by decide) (fun c_2 => ?_) (fun c_2 => ?_)
    · refine lv_aload_n hx hb dX0_fault_18 rfl (lv_at hl 0 rfl) ?_
      refine va_get (D := (dC, dI)) (ci := 0) (v := .int b10) (C := RX0) (T := TX0) (N := 16) hx hb hts inX0 hown hK hP 0 rfl rfl 10 (by decide) (hts _ mw_322) (fun _ h9 => h9) rfl dX0_fault_19 ?_
      refine lv_iconst (v := (-1)) hx hb dX0_fault_22 (by decide) ?_
      refine lv_icmp_eq (tgt := 28) hx hb dX0_fault_23 (by decide) (fun c_3 => ?_) (fun c_3 => ?_)
      · refine lv_aload_n hx hb dX0_fault_28 rfl (lv_at hl 0 rfl) ?_
        refine va_get (D := (dC, dI)) (ci := 0) (v := .int b8) (C := RX0) (T := TX0) (N := 16) hx hb hts inX0 hown hK hP 0 rfl rfl 8 (by decide) (hts _ mw_320) (fun _ h9 => h9) rfl dX0_fault_29 ?_
        refine lv_aload_n hx hb dX0_fault_32 rfl (lv_at hl 1 rfl) ?_
        refine va_get (D := (dC, dI)) (ci := 8) (v := .ref f5) (C := RX8) (T := TX8) (N := 7) hx hb hts inX8 hown hK hP 1 rfl rfl 5 (by decide) (hts _ mw_52) (fun _ h9 => h9) rfl dX0_fault_33 ?_
        refine lv_aload_n hx hb dX0_fault_36 rfl (lv_at hl 0 rfl) ?_
        refine va_get (D := (dC, dI)) (ci := 0) (v := .int b0) (C := RX0) (T := TX0) (N := 16) hx hb hts inX0 hown hK hP 0 rfl rfl 0 (by decide) (hts _ mw_305) (fun _ h9 => h9) rfl dX0_fault_37 ?_
        refine va_iald hx hb hK hP 2 0 rfl rfl (cnt_vp hk (by decide) (by decide)) dX0_fault_40 ?_
        refine lv_icmp_ge (tgt := 46) hx hb dX0_fault_41 (by decide) (fun c_4 => ?_) (fun c_4 => ?_)
        · have c_4 := Int32.not_lt.mpr c_4
          refine lv_aload_n hx hb dX0_fault_46 rfl (lv_at hl 0 rfl) ?_
          refine va_get (D := (dC, dI)) (ci := 0) (v := .int b8) (C := RX0) (T := TX0) (N := 16) hx hb hts inX0 hown hK hP 0 rfl rfl 8 (by decide) (hts _ mw_320) (fun _ h9 => h9) rfl dX0_fault_47 ?_
          refine lv_aload_n hx hb dX0_fault_50 rfl (lv_at hl 1 rfl) ?_
          refine va_get (D := (dC, dI)) (ci := 8) (v := .ref f6) (C := RX8) (T := TX8) (N := 7) hx hb hts inX8 hown hK hP 1 rfl rfl 6 (by decide) (hts _ mw_55) (fun _ h9 => h9) rfl dX0_fault_51 ?_
          refine lv_aload_n hx hb dX0_fault_54 rfl (lv_at hl 0 rfl) ?_
          refine va_get (D := (dC, dI)) (ci := 0) (v := .int b0) (C := RX0) (T := TX0) (N := 16) hx hb hts inX0 hown hK hP 0 rfl rfl 0 (by decide) (hts _ mw_305) (fun _ h9 => h9) rfl dX0_fault_55 ?_
          refine va_iald hx hb hK hP 3 0 rfl rfl (cnt_vp hk (by decide) (by decide)) dX0_fault_58 ?_
          refine lv_icmp_le (tgt := 64) hx hb dX0_fault_59 (by decide) (fun c_5 => ?_) (fun c_5 => ?_)
          · have c_5 := Int32.not_lt.mpr c_5
            refine lv_aload_n hx hb dX0_fault_64 rfl (lv_at hl 0 rfl) ?_
            refine va_get (D := (dC, dI)) (ci := 0) (v := .int b11) (C := RX0) (T := TX0) (N := 16) hx hb hts inX0 hown hK hP 0 rfl rfl 11 (by decide) (hts _ mw_323) (fun _ h9 => h9) rfl dX0_fault_65 ?_
            refine lv_iconst (v := (-1)) hx hb dX0_fault_68 (by decide) ?_
            refine lv_icmp_eq (tgt := 76) hx hb dX0_fault_69 (by decide) (fun c_6 => ?_) (fun c_6 => ?_)
            · refine lv_iconst (v := 0) hx hb dX0_fault_76 (by decide) ?_
              refine lv_istore_n (lv' := [(2, .int 0), (0, .ref h), (1, .ref hu)]) hx hb dX0_fault_77 rfl hl (by decide) rfl (fun ls hl => ?_)
              refine lv_iload_n hx hb dX0_fault_78 rfl (lv_at hl 0 rfl) ?_
              refine lv_if_ne (tgt := 102) hx hb dX0_fault_79 (by decide) (fun c_ => absurd c_ (by decide)) (fun c_ => ?_)
              refine lv_aload_n hx hb dX0_fault_82 rfl (lv_at hl 1 rfl) ?_
              refine va_get (D := (dC, dI)) (ci := 0) (v := .int b0) (C := RX0) (T := TX0) (N := 16) hx hb hts inX0 hown hK hP 0 rfl rfl 0 (by decide) (hts _ mw_305) (fun _ h9 => h9) rfl dX0_fault_83 ?_
              refine lv_iconst (v := 1) hx hb dX0_fault_86 (by decide) ?_
              refine lv_icmp_eq (tgt := 100) hx hb dX0_fault_87 (by decide) (fun c_7 => ?_) (fun c_7 => ?_)
              · refine lv_iconst (v := 5) hx hb dX0_fault_100 (by decide) ?_
                exact W.iret (v := 5) hx hb hr (fun t ht hW => ⟨5, rfl, (by unfold flt; first | (simp [c_1, c_2, c_3, c_4, c_5, c_6, c_7]; done) | (simp [c_1, c_2, c_3, c_4, c_5, c_6]; simp [c_7]; done)), ht⟩) (fun q h => absurd h List.not_mem_nil) dX0_fault_101
              · refine lv_aload_n hx hb dX0_fault_90 rfl (lv_at hl 1 rfl) ?_
                refine va_get (D := (dC, dI)) (ci := 0) (v := .int b0) (C := RX0) (T := TX0) (N := 16) hx hb hts inX0 hown hK hP 0 rfl rfl 0 (by decide) (hts _ mw_305) (fun _ h9 => h9) rfl dX0_fault_91 ?_
                have hPc := hP.sub (ws' := []) [] rfl
                refine pc_i (va_runSN (As := [.int b0]) (rest := []) ⟨hx, hb, hml, hown, hts⟩ (c_isCut l dC dI ca b0 ) (⟨va_cnB 1 hts (gd mw_499) rfl rfl rfl hE.2.2.2.2.1 (hts _ mw_1) ds_X10_isCut ⟨Nat.le_of_ble_eq_true rfl, Nat.le_of_ble_eq_true rfl⟩, (hts _ mw_498), trivial⟩) (pu_S hPc hK hE) rfl rfl hl.1 rfl (lv_room (Nat.le_of_ble_eq_true rfl)) dX0_fault_94 ⟨Nat.le_of_ble_eq_true rfl, Nat.le_of_ble_eq_true rfl⟩) (fun rv_8 hw_ => ?_)
                obtain rfl : rv_8 = (isC b0) := hw_
                refine lv_if_eq (tgt := 102) hx hb dX0_fault_97 (by decide) (fun c_9 => ?_) (fun c_9 => ?_)
                · refine lv_iload_n hx hb dX0_fault_102 rfl (lv_at hl 0 rfl) ?_
                  refine lv_if_eq (tgt := 119) hx hb dX0_fault_103 (by decide) (fun c_ => ?_) (fun c_ => absurd c_ (by decide))
                  refine lv_iconst (v := 0) hx hb dX0_fault_119 (by decide) ?_
                  exact W.iret (v := 0) hx hb hr (fun t ht hW => ⟨0, rfl, (by unfold flt; first | (simp [c_1, c_2, c_3, c_4, c_5, c_6, c_7, c_9]; done) | (simp [c_1, c_2, c_3, c_4, c_5, c_6, c_7]; simp [c_9]; done)), ht⟩) (fun q h => absurd h List.not_mem_nil) dX0_fault_120
                · refine lv_iconst (v := 5) hx hb dX0_fault_100 (by decide) ?_
                  exact W.iret (v := 5) hx hb hr (fun t ht hW => ⟨5, rfl, (by unfold flt; first | (simp [c_1, c_2, c_3, c_4, c_5, c_6, c_7, c_9]; done) | (simp [c_1, c_2, c_3, c_4, c_5, c_6, c_7]; simp [c_9]; done)), ht⟩) (fun q h => absurd h List.not_mem_nil) dX0_fault_101
            · refine lv_iconst (v := 1) hx hb dX0_fault_72 (by decide) ?_
              refine lv_goto (tgt := 77) hx hb dX0_fault_73 (by decide) ?_
              refine lv_istore_n (lv' := [(2, .int 1), (0, .ref h), (1, .ref hu)]) hx hb dX0_fault_77 rfl hl (by decide) rfl (fun ls hl => ?_)
              refine lv_iload_n hx hb dX0_fault_78 rfl (lv_at hl 0 rfl) ?_
              refine lv_if_ne (tgt := 102) hx hb dX0_fault_79 (by decide) (fun c_ => ?_) (fun c_ => absurd c_ (by decide))
              refine lv_iload_n hx hb dX0_fault_102 rfl (lv_at hl 0 rfl) ?_
              refine lv_if_eq (tgt := 119) hx hb dX0_fault_103 (by decide) (fun c_ => absurd c_ (by decide)) (fun c_ => ?_)
              refine lv_aload_n hx hb dX0_fault_106 rfl (lv_at hl 1 rfl) ?_
              refine va_get (D := (dC, dI)) (ci := 0) (v := .int b0) (C := RX0) (T := TX0) (N := 16) hx hb hts inX0 hown hK hP 0 rfl rfl 0 (by decide) (hts _ mw_305) (fun _ h9 => h9) rfl dX0_fault_107 ?_
              refine lv_iconst (v := 2) hx hb dX0_fault_110 (by decide) ?_
              refine lv_icmp_ne (tgt := 119) hx hb dX0_fault_111 (by decide) (fun c_10 => ?_) (fun c_10 => ?_)
              · refine lv_iconst (v := 0) hx hb dX0_fault_119 (by decide) ?_
                exact W.iret (v := 0) hx hb hr (fun t ht hW => ⟨0, rfl, (by unfold flt; first | (simp [c_1, c_2, c_3, c_4, c_5, c_6, c_10]; done) | (simp [c_1, c_2, c_3, c_4, c_5, c_6]; simp [c_10]; done)), ht⟩) (fun q h => absurd h List.not_mem_nil) dX0_fault_120
              · refine lv_bipush (v := 6) hx hb dX0_fault_114 (by decide) ?_
                refine lv_goto (tgt := 120) hx hb dX0_fault_116 (by decide) ?_
                exact W.iret (v := 6) hx hb hr (fun t ht hW => ⟨6, rfl, (by unfold flt; first | (simp [c_1, c_2, c_3, c_4, c_5, c_6, c_10]; done) | (simp [c_1, c_2, c_3, c_4, c_5, c_6]; simp [c_10]; done)), ht⟩) (fun q h => absurd h List.not_mem_nil) dX0_fault_120
          · have c_5 := Int32.not_le.mp c_5
            refine lv_iconst (v := 4) hx hb dX0_fault_62 (by decide) ?_
            exact W.iret (v := 4) hx hb hr (fun t ht hW => ⟨4, rfl, (by unfold flt; first | (simp [c_1, c_2, c_3, c_4, c_5]; done) | (simp [c_1, c_2, c_3, c_4]; simp [c_5]; done)), ht⟩) (fun q h => absurd h List.not_mem_nil) dX0_fault_63
        · have c_4 := Int32.not_le.mp c_4
          refine lv_iconst (v := 3) hx hb dX0_fault_44 (by decide) ?_
          exact W.iret (v := 3) hx hb hr (fun t ht hW => ⟨3, rfl, (by unfold flt; first | (simp [c_1, c_2, c_3, c_4]; done) | (simp [c_1, c_2, c_3]; simp [c_4]; done)), ht⟩) (fun q h => absurd h List.not_mem_nil) dX0_fault_45
      · refine lv_iconst (v := 2) hx hb dX0_fault_26 (by decide) ?_
        exact W.iret (v := 2) hx hb hr (fun t ht hW => ⟨2, rfl, (by unfold flt; first | (simp [c_1, c_2, c_3]; done) | (simp [c_1, c_2]; simp [c_3]; done)), ht⟩) (fun q h => absurd h List.not_mem_nil) dX0_fault_27
    · refine lv_iconst (v := 0) hx hb dX0_fault_16 (by decide) ?_
      exact W.iret (v := 0) hx hb hr (fun t ht hW => ⟨0, rfl, (by unfold flt; first | (simp [c_1, c_2]; done) | (simp [c_1]; simp [c_2]; done)), ht⟩) (fun q h => absurd h List.not_mem_nil) dX0_fault_17
  · refine lv_iconst (v := 1) hx hb dX0_fault_7 (by decide) ?_
    exact W.iret (v := 1) hx hb hr (fun t ht hW => ⟨1, rfl, (by unfold flt; first | (simp [c_1]; done) | (simp []; simp [c_1]; done)), ht⟩) (fun q h => absurd h List.not_mem_nil) dX0_fault_8

def btl (b0 b2 b3 b6 b7 b8 b9 b10 b11 b12 b13 b14 b15 v : Int32) : Int32 := if v = 0 then b0 else if v = 1 then b2 else if v = 2 then b3 else if v = 3 then b7 else if v = 4 then b8 else if v = 5 then b9 else if v = 6 then (if b11 = -1 then 0 else 1) else if v = 7 then (if b10 = -1 then b11 else b10) else if v = 8 then (if b6 = 0 then 0 else 1) else if v = 9 then b12 else if v = 10 then b13 else if v = 11 then b14 else if v = 12 then b15 else -1

set_option maxHeartbeats 4000000 in
set_option maxRecDepth 100000 in
theorem b_tell (l : Launch) (dC : Nat → ClassId) (dI : Nat → Nat → Nat) (ca : Nat → ClassId) (h : Nat) (b0 : Int32) (b2 : Int32) (b3 : Int32) (b4 : Int64) (b5 : Int32) (b6 : Int32) (b7 : Int32) (b8 : Int32) (b9 : Int32) (b10 : Int32) (b11 : Int32) (b12 : Int32) (b13 : Int32) (b14 : Int32) (b15 : Int32) (ro : Nat) (v1 : Int32) : Met l yX0_tell (Cond.code yX0_tell cX0_tell 2 (some .int) :: gT) ({ frames := 1, cells := 0, slots := 0, locals := 60 }) (va_Pc [.ref h, .int v1] (pu (dC, dI) [(h, .inr (0, [.int b0, .ref ro, .int b2, .int b3, .long b4, .int b5, .int b6, .int b7, .int b8, .int b9, .int b10, .int b11, .int b12, .int b13, .int b14, .int b15]))] (aT ca))) (vp_Si (fun r => r = btl b0 b2 b3 b6 b7 b8 b9 b10 b11 b12 b13 b14 b15 v1)) 0 0 (fun _ => False) := by
  refine Met.ofW (cc := cX0_tell) (maxL := 2) (ret := (some .int)) (by decide) rfl ?_
  intro p e s m args below meth c s₁ B hml hv
  obtain ⟨rfl, hP, hK, hE⟩ := hv
  have hx := B.exec
  have hb := B.bytes
  have hr := B.returns
  have hts : ∀ w ∈ gT, w.before _ s = true := fun w h => atoms_spec (ws := Cond.code yX0_tell cX0_tell 2 (some .int) :: gT) B.pre w (List.mem_cons_of_mem _ h)
  have hown : s.vm.findClass RX0 = some m.cls := findClass_of_methodNamed B.named
  have hlocks := B.notSynchronized
  have hl := lv_entry ([.ref h, .int v1]) (n := 2) (Nat.le_of_ble_eq_true rfl)
  rw [lg_entry_eq]
  generalize (lg_sl ([.ref h, .int v1]) ++ List.replicate (2 - (lg_sl ([.ref h, .int v1])).length) Slot.unset).toArray = ls at hl ⊢
  have hl : lv_has ls 2 [(0, .ref h), (1, .int v1)] := hl
  refine lv_iload_n hx hb dX0_tell_0 rfl (lv_at hl 1 rfl) ?_
  by_cases c_1 : v1 = 0
  · refine lv_topi (fun y_ e_ => ?_)
    obtain rfl : y_ = 0 := e_.trans c_1
    refine lv_tableIn (tgt := 68) hx hb dX0_tell_1 (by decide) (by decide) rfl (by decide) ?_
    refine lv_aload_n hx hb dX0_tell_68 rfl (lv_at hl 0 rfl) ?_
    refine va_get (D := (dC, dI)) (ci := 0) (v := .int b0) (C := RX0) (T := TX0) (N := 16) hx hb hts inX0 hown hK hP 0 rfl rfl 0 (by decide) (hts _ mw_305) (fun _ h9 => h9) rfl dX0_tell_69 ?_
    exact W.iret (v := b0) hx hb hr (fun t ht hW => ⟨b0, rfl, (by unfold btl; simp [c_1]), ht⟩) (fun q h => absurd h List.not_mem_nil) dX0_tell_72
  by_cases c_2 : v1 = 1
  · refine lv_topi (fun y_ e_ => ?_)
    obtain rfl : y_ = 1 := e_.trans c_2
    refine lv_tableIn (tgt := 73) hx hb dX0_tell_1 (by decide) (by decide) rfl (by decide) ?_
    refine lv_aload_n hx hb dX0_tell_73 rfl (lv_at hl 0 rfl) ?_
    refine va_get (D := (dC, dI)) (ci := 0) (v := .int b2) (C := RX0) (T := TX0) (N := 16) hx hb hts inX0 hown hK hP 0 rfl rfl 2 (by decide) (hts _ mw_309) (fun _ h9 => h9) rfl dX0_tell_74 ?_
    exact W.iret (v := b2) hx hb hr (fun t ht hW => ⟨b2, rfl, (by unfold btl; simp [c_1, c_2]), ht⟩) (fun q h => absurd h List.not_mem_nil) dX0_tell_77
  by_cases c_3 : v1 = 2
  · refine lv_topi (fun y_ e_ => ?_)
    obtain rfl : y_ = 2 := e_.trans c_3
    refine lv_tableIn (tgt := 78) hx hb dX0_tell_1 (by decide) (by decide) rfl (by decide) ?_
    refine lv_aload_n hx hb dX0_tell_78 rfl (lv_at hl 0 rfl) ?_
    refine va_get (D := (dC, dI)) (ci := 0) (v := .int b3) (C := RX0) (T := TX0) (N := 16) hx hb hts inX0 hown hK hP 0 rfl rfl 3 (by decide) (hts _ mw_312) (fun _ h9 => h9) rfl dX0_tell_79 ?_
    exact W.iret (v := b3) hx hb hr (fun t ht hW => ⟨b3, rfl, (by unfold btl; simp [c_1, c_2, c_3]), ht⟩) (fun q h => absurd h List.not_mem_nil) dX0_tell_82
  by_cases c_4 : v1 = 3
  · refine lv_topi (fun y_ e_ => ?_)
    obtain rfl : y_ = 3 := e_.trans c_4
    refine lv_tableIn (tgt := 83) hx hb dX0_tell_1 (by decide) (by decide) rfl (by decide) ?_
    refine lv_aload_n hx hb dX0_tell_83 rfl (lv_at hl 0 rfl) ?_
    refine va_get (D := (dC, dI)) (ci := 0) (v := .int b7) (C := RX0) (T := TX0) (N := 16) hx hb hts inX0 hown hK hP 0 rfl rfl 7 (by decide) (hts _ mw_319) (fun _ h9 => h9) rfl dX0_tell_84 ?_
    exact W.iret (v := b7) hx hb hr (fun t ht hW => ⟨b7, rfl, (by unfold btl; simp [c_1, c_2, c_3, c_4]), ht⟩) (fun q h => absurd h List.not_mem_nil) dX0_tell_87
  by_cases c_5 : v1 = 4
  · refine lv_topi (fun y_ e_ => ?_)
    obtain rfl : y_ = 4 := e_.trans c_5
    refine lv_tableIn (tgt := 88) hx hb dX0_tell_1 (by decide) (by decide) rfl (by decide) ?_
    refine lv_aload_n hx hb dX0_tell_88 rfl (lv_at hl 0 rfl) ?_
    refine va_get (D := (dC, dI)) (ci := 0) (v := .int b8) (C := RX0) (T := TX0) (N := 16) hx hb hts inX0 hown hK hP 0 rfl rfl 8 (by decide) (hts _ mw_320) (fun _ h9 => h9) rfl dX0_tell_89 ?_
    exact W.iret (v := b8) hx hb hr (fun t ht hW => ⟨b8, rfl, (by unfold btl; simp [c_1, c_2, c_3, c_4, c_5]), ht⟩) (fun q h => absurd h List.not_mem_nil) dX0_tell_92
  by_cases c_6 : v1 = 5
  · refine lv_topi (fun y_ e_ => ?_)
    obtain rfl : y_ = 5 := e_.trans c_6
    refine lv_tableIn (tgt := 93) hx hb dX0_tell_1 (by decide) (by decide) rfl (by decide) ?_
    refine lv_aload_n hx hb dX0_tell_93 rfl (lv_at hl 0 rfl) ?_
    refine va_get (D := (dC, dI)) (ci := 0) (v := .int b9) (C := RX0) (T := TX0) (N := 16) hx hb hts inX0 hown hK hP 0 rfl rfl 9 (by decide) (hts _ mw_321) (fun _ h9 => h9) rfl dX0_tell_94 ?_
    exact W.iret (v := b9) hx hb hr (fun t ht hW => ⟨b9, rfl, (by unfold btl; simp [c_1, c_2, c_3, c_4, c_5, c_6]), ht⟩) (fun q h => absurd h List.not_mem_nil) dX0_tell_97
  by_cases c_7 : v1 = 6
  · refine lv_topi (fun y_ e_ => ?_)
    obtain rfl : y_ = 6 := e_.trans c_7
    refine lv_tableIn (tgt := 98) hx hb dX0_tell_1 (by decide) (by decide) rfl (by decide) ?_
    refine lv_aload_n hx hb dX0_tell_98 rfl (lv_at hl 0 rfl) ?_
    refine va_get (D := (dC, dI)) (ci := 0) (v := .int b11) (C := RX0) (T := TX0) (N := 16) hx hb hts inX0 hown hK hP 0 rfl rfl 11 (by decide) (hts _ mw_323) (fun _ h9 => h9) rfl dX0_tell_99 ?_
    refine lv_iconst (v := (-1)) hx hb dX0_tell_102 (by decide) ?_
    refine lv_icmp_eq (tgt := 110) hx hb dX0_tell_103 (by decide) (fun c_8 => ?_) (fun c_8 => ?_)
    · refine lv_iconst (v := 0) hx hb dX0_tell_110 (by decide) ?_
      exact W.iret (v := 0) hx hb hr (fun t ht hW => ⟨0, rfl, (by unfold btl; simp [c_1, c_2, c_3, c_4, c_5, c_6, c_7, c_8]), ht⟩) (fun q h => absurd h List.not_mem_nil) dX0_tell_111
    · refine lv_iconst (v := 1) hx hb dX0_tell_106 (by decide) ?_
      refine lv_goto (tgt := 111) hx hb dX0_tell_107 (by decide) ?_
      exact W.iret (v := 1) hx hb hr (fun t ht hW => ⟨1, rfl, (by unfold btl; simp [c_1, c_2, c_3, c_4, c_5, c_6, c_7, c_8]), ht⟩) (fun q h => absurd h List.not_mem_nil) dX0_tell_111
  by_cases c_9 : v1 = 7
  · refine lv_topi (fun y_ e_ => ?_)
    obtain rfl : y_ = 7 := e_.trans c_9
    refine lv_tableIn (tgt := 112) hx hb dX0_tell_1 (by decide) (by decide) rfl (by decide) ?_
    refine lv_aload_n hx hb dX0_tell_112 rfl (lv_at hl 0 rfl) ?_
    refine va_get (D := (dC, dI)) (ci := 0) (v := .int b10) (C := RX0) (T := TX0) (N := 16) hx hb hts inX0 hown hK hP 0 rfl rfl 10 (by decide) (hts _ mw_322) (fun _ h9 => h9) rfl dX0_tell_113 ?_
    refine lv_iconst (v := (-1)) hx hb dX0_tell_116 (by decide) ?_
    refine lv_icmp_eq (tgt := 127) hx hb dX0_tell_117 (by decide) (fun c_10 => ?_) (fun c_10 => ?_)
    · refine lv_aload_n hx hb dX0_tell_127 rfl (lv_at hl 0 rfl) ?_
      refine va_get (D := (dC, dI)) (ci := 0) (v := .int b11) (C := RX0) (T := TX0) (N := 16) hx hb hts inX0 hown hK hP 0 rfl rfl 11 (by decide) (hts _ mw_323) (fun _ h9 => h9) rfl dX0_tell_128 ?_
      exact W.iret (v := b11) hx hb hr (fun t ht hW => ⟨b11, rfl, (by unfold btl; simp [c_1, c_2, c_3, c_4, c_5, c_6, c_7, c_9, c_10]), ht⟩) (fun q h => absurd h List.not_mem_nil) dX0_tell_131
    · refine lv_aload_n hx hb dX0_tell_120 rfl (lv_at hl 0 rfl) ?_
      refine va_get (D := (dC, dI)) (ci := 0) (v := .int b10) (C := RX0) (T := TX0) (N := 16) hx hb hts inX0 hown hK hP 0 rfl rfl 10 (by decide) (hts _ mw_322) (fun _ h9 => h9) rfl dX0_tell_121 ?_
      refine lv_goto (tgt := 131) hx hb dX0_tell_124 (by decide) ?_
      exact W.iret (v := b10) hx hb hr (fun t ht hW => ⟨b10, rfl, (by unfold btl; simp [c_1, c_2, c_3, c_4, c_5, c_6, c_7, c_9, c_10]), ht⟩) (fun q h => absurd h List.not_mem_nil) dX0_tell_131
  by_cases c_11 : v1 = 8
  · refine lv_topi (fun y_ e_ => ?_)
    obtain rfl : y_ = 8 := e_.trans c_11
    refine lv_tableIn (tgt := 132) hx hb dX0_tell_1 (by decide) (by decide) rfl (by decide) ?_
    refine lv_aload_n hx hb dX0_tell_132 rfl (lv_at hl 0 rfl) ?_
    refine va_get (D := (dC, dI)) (ci := 0) (v := .int b6) (C := RX0) (T := TX0) (N := 16) hx hb hts inX0 hown hK hP 0 rfl rfl 6 (by decide) (hts _ mw_317) (fun _ h9 => h9) rfl dX0_tell_133 ?_
    refine lv_if_eq (tgt := 143) hx hb dX0_tell_136 (by decide) (fun c_12 => ?_) (fun c_12 => ?_)
    · refine lv_iconst (v := 0) hx hb dX0_tell_143 (by decide) ?_
      exact W.iret (v := 0) hx hb hr (fun t ht hW => ⟨0, rfl, (by unfold btl; simp [c_1, c_2, c_3, c_4, c_5, c_6, c_7, c_9, c_11, c_12]), ht⟩) (fun q h => absurd h List.not_mem_nil) dX0_tell_144
    · refine lv_iconst (v := 1) hx hb dX0_tell_139 (by decide) ?_
      refine lv_goto (tgt := 144) hx hb dX0_tell_140 (by decide) ?_
      exact W.iret (v := 1) hx hb hr (fun t ht hW => ⟨1, rfl, (by unfold btl; simp [c_1, c_2, c_3, c_4, c_5, c_6, c_7, c_9, c_11, c_12]), ht⟩) (fun q h => absurd h List.not_mem_nil) dX0_tell_144
  by_cases c_13 : v1 = 9
  · refine lv_topi (fun y_ e_ => ?_)
    obtain rfl : y_ = 9 := e_.trans c_13
    refine lv_tableIn (tgt := 145) hx hb dX0_tell_1 (by decide) (by decide) rfl (by decide) ?_
    refine lv_aload_n hx hb dX0_tell_145 rfl (lv_at hl 0 rfl) ?_
    refine va_get (D := (dC, dI)) (ci := 0) (v := .int b12) (C := RX0) (T := TX0) (N := 16) hx hb hts inX0 hown hK hP 0 rfl rfl 12 (by decide) (hts _ mw_325) (fun _ h9 => h9) rfl dX0_tell_146 ?_
    exact W.iret (v := b12) hx hb hr (fun t ht hW => ⟨b12, rfl, (by unfold btl; simp [c_1, c_2, c_3, c_4, c_5, c_6, c_7, c_9, c_11, c_13]), ht⟩) (fun q h => absurd h List.not_mem_nil) dX0_tell_149
  by_cases c_14 : v1 = 10
  · refine lv_topi (fun y_ e_ => ?_)
    obtain rfl : y_ = 10 := e_.trans c_14
    refine lv_tableIn (tgt := 150) hx hb dX0_tell_1 (by decide) (by decide) rfl (by decide) ?_
    refine lv_aload_n hx hb dX0_tell_150 rfl (lv_at hl 0 rfl) ?_
    refine va_get (D := (dC, dI)) (ci := 0) (v := .int b13) (C := RX0) (T := TX0) (N := 16) hx hb hts inX0 hown hK hP 0 rfl rfl 13 (by decide) (hts _ mw_328) (fun _ h9 => h9) rfl dX0_tell_151 ?_
    exact W.iret (v := b13) hx hb hr (fun t ht hW => ⟨b13, rfl, (by unfold btl; simp [c_1, c_2, c_3, c_4, c_5, c_6, c_7, c_9, c_11, c_13, c_14]), ht⟩) (fun q h => absurd h List.not_mem_nil) dX0_tell_154
  by_cases c_15 : v1 = 11
  · refine lv_topi (fun y_ e_ => ?_)
    obtain rfl : y_ = 11 := e_.trans c_15
    refine lv_tableIn (tgt := 155) hx hb dX0_tell_1 (by decide) (by decide) rfl (by decide) ?_
    refine lv_aload_n hx hb dX0_tell_155 rfl (lv_at hl 0 rfl) ?_
    refine va_get (D := (dC, dI)) (ci := 0) (v := .int b14) (C := RX0) (T := TX0) (N := 16) hx hb hts inX0 hown hK hP 0 rfl rfl 14 (by decide) (hts _ mw_330) (fun _ h9 => h9) rfl dX0_tell_156 ?_
    exact W.iret (v := b14) hx hb hr (fun t ht hW => ⟨b14, rfl, (by unfold btl; simp [c_1, c_2, c_3, c_4, c_5, c_6, c_7, c_9, c_11, c_13, c_14, c_15]), ht⟩) (fun q h => absurd h List.not_mem_nil) dX0_tell_159
  by_cases c_16 : v1 = 12
  · refine lv_topi (fun y_ e_ => ?_)
    obtain rfl : y_ = 12 := e_.trans c_16
    refine lv_tableIn (tgt := 160) hx hb dX0_tell_1 (by decide) (by decide) rfl (by decide) ?_
    refine lv_aload_n hx hb dX0_tell_160 rfl (lv_at hl 0 rfl) ?_
    refine va_get (D := (dC, dI)) (ci := 0) (v := .int b15) (C := RX0) (T := TX0) (N := 16) hx hb hts inX0 hown hK hP 0 rfl rfl 15 (by decide) (hts _ mw_332) (fun _ h9 => h9) rfl dX0_tell_161 ?_
    exact W.iret (v := b15) hx hb hr (fun t ht hW => ⟨b15, rfl, (by unfold btl; simp [c_1, c_2, c_3, c_4, c_5, c_6, c_7, c_9, c_11, c_13, c_14, c_15, c_16]), ht⟩) (fun q h => absurd h List.not_mem_nil) dX0_tell_164
  refine lv_tableOut (tgt := 165) hx hb dX0_tell_1 (by have n0 := lv_neT c_1 (show (0 : Int32).toInt = 0 by decide); have n1 := lv_neT c_2 (show (1 : Int32).toInt = 1 by decide); have n2 := lv_neT c_3 (show (2 : Int32).toInt = 2 by decide); have n3 := lv_neT c_4 (show (3 : Int32).toInt = 3 by decide); have n4 := lv_neT c_5 (show (4 : Int32).toInt = 4 by decide); have n5 := lv_neT c_6 (show (5 : Int32).toInt = 5 by decide); have n6 := lv_neT c_7 (show (6 : Int32).toInt = 6 by decide); have n7 := lv_neT c_9 (show (7 : Int32).toInt = 7 by decide); have n8 := lv_neT c_11 (show (8 : Int32).toInt = 8 by decide); have n9 := lv_neT c_13 (show (9 : Int32).toInt = 9 by decide); have n10 := lv_neT c_14 (show (10 : Int32).toInt = 10 by decide); have n11 := lv_neT c_15 (show (11 : Int32).toInt = 11 by decide); have n12 := lv_neT c_16 (show (12 : Int32).toInt = 12 by decide); omega) (by decide) ?_
  refine lv_iconst (v := (-1)) hx hb dX0_tell_165 (by decide) ?_
  exact W.iret (v := (-1)) hx hb hr (fun t ht hW => ⟨(-1), rfl, (by unfold btl; simp [c_1, c_2, c_3, c_4, c_5, c_6, c_7, c_9, c_11, c_13, c_14, c_15, c_16]), ht⟩) (fun q h => absurd h List.not_mem_nil) dX0_tell_166

def ckT (dv : Int32) (FB : Nat → Int32) (en : Nat) : Int32 := ftG (nuF dv FB) (dgF dv FB) en 0 (-1) 0
def ckl (mass loss : Int32) : Int32 := (mass.toInt64 * loss.toInt64 / 1000).toInt32
/-- what cooking over tk ticks makes of a batch of dn degrees: missingAt, top, loss, grainedAt -/
def ckOk (tk dn : Nat) (FB : Nat → Int32) (sv : Int32) (SB : Nat → Int32) (gl gh : Int32) (fd lt : Nat → Int32) (ls : Nat) (b8 b9 b10 b11 m10 t9 l8 g11 : Int32) : Prop :=
  (m10 = if dn < tk then nI dn else b10) ∧ (if ckT (nI dn) FB (min tk dn) = -1 then t9 = b9 ∧ l8 = b8 ∧ g11 = b11 else
    t9 = dgA (nI dn) FB (ckT (nI dn) FB (min tk dn)) ∧ l8 = lsG fd lt t9 ls 0 0 ∧ g11 = fgG (yesF (nI dn) FB sv SB gl gh) (min tk dn - ((ckT (nI dn) FB (min tk dn)).toNatClampNeg + 1)) ((ckT (nI dn) FB (min tk dn)).toNatClampNeg + 1))

theorem ckOk_no {tk dn : Nat} {FB : Nat → Int32} {sv : Int32} {SB : Nat → Int32} {gl gh : Int32} {fd lt : Nat → Int32} {ls : Nat} {b8 b9 b10 b11 m10 : Int32} (hT : ckT (nI dn) FB (min tk dn) = -1) (hm : m10 = if dn < tk then nI dn else b10) : ckOk tk dn FB sv SB gl gh fd lt ls b8 b9 b10 b11 m10 b9 b8 b11 := ⟨hm, by rw [if_pos hT]; exact ⟨rfl, rfl, rfl⟩⟩
theorem nI_nm1 {q : Nat} (h : q < 2 ^ 31) : ¬ nI q = -1 := fun e => by
  have h1 := nI_toInt h
  rw [e] at h1
  have e1 : (-1 : Int32).toInt = -1 := by decide
  omega
theorem ckOk_yes {tk dn : Nat} {FB : Nat → Int32} {sv : Int32} {SB : Nat → Int32} {gl gh : Int32} {fd lt : Nat → Int32} {ls : Nat} {b8 b9 b10 b11 m10 : Int32} {q : Nat} (hq : q < 2 ^ 31) (hT : ckT (nI dn) FB (min tk dn) = nI q) (hm : m10 = if dn < tk then nI dn else b10) : ckOk tk dn FB sv SB gl gh fd lt ls b8 b9 b10 b11 m10 (dgA (nI dn) FB (nI q)) (lsG fd lt (dgA (nI dn) FB (nI q)) ls 0 0) (fgG (yesF (nI dn) FB sv SB gl gh) (min tk dn - (q + 1)) (q + 1)) := ⟨hm, by rw [hT, if_neg (nI_nm1 hq), nI_clamp hq]; exact ⟨rfl, rfl, rfl⟩⟩
theorem ckT_in {dv : Int32} {FB : Nat → Int32} {en : Nat} (h : ¬ ckT dv FB en = -1) : ∃ q, q < en ∧ ckT dv FB en = nI q := by
  rcases ftG_in (nu := nuF dv FB) (dg := dgF dv FB) en 0 (-1) 0 (Or.inl rfl) with h1 | ⟨q, hq, h1⟩
  · exact absurd h1 h
  · exact ⟨q, by omega, h1⟩

set_option maxHeartbeats 4000000 in
set_option maxRecDepth 100000 in
theorem b_cookOver (l : Launch) (dC : Nat → ClassId) (dI : Nat → Nat → Nat) (ca : Nat → ClassId) (sz : Nat) (h : Nat) (b0 : Int32) (b2 : Int32) (b3 : Int32) (b4 : Int64) (b5 : Int32) (b6 : Int32) (b7 : Int32) (b8 : Int32) (b9 : Int32) (b10 : Int32) (b11 : Int32) (b12 : Int32) (b13 : Int32) (b14 : Int32) (b15 : Int32) (ro : Nat) (ra : Nat) (rs : Nat) (sv : Int32) (FB : Nat → Int32) (SB : Nat → Int32) (dn : Nat) (hu : Nat) (f0 : Nat) (f1 : Nat) (f5 : Nat) (f6 : Nat) (rn : Nat) (gl : Int32) (gh : Int32) (fd : Nat → Int32) (lt : Nat → Int32) (tk : Nat) (hdn : dn ≤ 60) (hs : cnt sv 60) (htk : tk ≤ 60) (hls : rn ≤ 16) : Met l yX0_cookOver (Cond.code yX0_cookOver cX0_cookOver 5 none :: gT) ({ frames := 5, cells := 0, slots := 0, locals := 149 }) (va_Pc [.ref h, .int (nI tk), .ref hu] (pr (dC, dI) sz [(h, .inr (0, [.int b0, .ref ro, .int b2, .int b3, .long b4, .int b5, .int b6, .int b7, .int b8, .int b9, .int b10, .int b11, .int b12, .int b13, .int b14, .int b15])), (ro, .inr (7, [.ref ra, .ref rs, .int (nI dn), .int sv])), (ra, .inl (ca 0, 60, .inl FB)), (rs, .inl (ca 1, 60, .inl SB)), (hu, .inr (8, [.ref f0, .ref f1, .int (nI rn), .int gl, .int gh, .ref f5, .ref f6])), (f0, .inl (ca 0, 16, .inl fd)), (f1, .inl (ca 0, 16, .inl lt))] (aT ca))) (va_Qv (fun (u_ : Int32 × Int32 × Int32 × Int32) => ckOk tk dn FB sv SB gl gh fd lt rn b8 b9 b10 b11 u_.1 u_.2.1 u_.2.2.1 u_.2.2.2) (fun (u_ : Int32 × Int32 × Int32 × Int32) t => va_P (dC, dI) vwCl [(h, .inr (0, [.int b0, .ref ro, .int (b2 - ckl b2 u_.2.2.1), .int b3, .long b4, .int 1, .int b6, .int (ckl b2 u_.2.2.1), .int u_.2.2.1, .int u_.2.1, .int u_.1, .int u_.2.2.2, .int b12, .int b13, .int b14, .int b15])), (ro, .inr (7, [.ref ra, .ref rs, .int (nI dn), .int sv])), (ra, .inl (ca 0, 60, .inl FB)), (rs, .inl (ca 1, 60, .inl SB)), (hu, .inr (8, [.ref f0, .ref f1, .int (nI rn), .int gl, .int gh, .ref f5, .ref f6])), (f0, .inl (ca 0, 16, .inl fd)), (f1, .inl (ca 0, 16, .inl lt))] t.heap ∧ va_D (va_A [(h, .inr (0, [.int b0, .ref ro, .int b2, .int b3, .long b4, .int b5, .int b6, .int b7, .int b8, .int b9, .int b10, .int b11, .int b12, .int b13, .int b14, .int b15])), (ro, .inr (7, [.ref ra, .ref rs, .int (nI dn), .int sv])), (ra, .inl (ca 0, 60, .inl FB)), (rs, .inl (ca 1, 60, .inl SB)), (hu, .inr (8, [.ref f0, .ref f1, .int (nI rn), .int gl, .int gh, .ref f5, .ref f6])), (f0, .inl (ca 0, 16, .inl fd)), (f1, .inl (ca 0, 16, .inl lt))] sz) [(h, .inr (0, [.int b0, .ref ro, .int (b2 - ckl b2 u_.2.2.1), .int b3, .long b4, .int 1, .int b6, .int (ckl b2 u_.2.2.1), .int u_.2.2.1, .int u_.2.1, .int u_.1, .int u_.2.2.2, .int b12, .int b13, .int b14, .int b15])), (ro, .inr (7, [.ref ra, .ref rs, .int (nI dn), .int sv])), (ra, .inl (ca 0, 60, .inl FB)), (rs, .inl (ca 1, 60, .inl SB)), (hu, .inr (8, [.ref f0, .ref f1, .int (nI rn), .int gl, .int gh, .ref f5, .ref f6])), (f0, .inl (ca 0, 16, .inl fd)), (f1, .inl (ca 0, 16, .inl lt))]) (va_A [(h, .inr (0, [.int b0, .ref ro, .int b2, .int b3, .long b4, .int b5, .int b6, .int b7, .int b8, .int b9, .int b10, .int b11, .int b12, .int b13, .int b14, .int b15])), (ro, .inr (7, [.ref ra, .ref rs, .int (nI dn), .int sv])), (ra, .inl (ca 0, 60, .inl FB)), (rs, .inl (ca 1, 60, .inl SB)), (hu, .inr (8, [.ref f0, .ref f1, .int (nI rn), .int gl, .int gh, .ref f5, .ref f6])), (f0, .inl (ca 0, 16, .inl fd)), (f1, .inl (ca 0, 16, .inl lt))] sz)) 0 0 (va_A [(h, .inr (0, [.int b0, .ref ro, .int b2, .int b3, .long b4, .int b5, .int b6, .int b7, .int b8, .int b9, .int b10, .int b11, .int b12, .int b13, .int b14, .int b15])), (ro, .inr (7, [.ref ra, .ref rs, .int (nI dn), .int sv])), (ra, .inl (ca 0, 60, .inl FB)), (rs, .inl (ca 1, 60, .inl SB)), (hu, .inr (8, [.ref f0, .ref f1, .int (nI rn), .int gl, .int gh, .ref f5, .ref f6])), (f0, .inl (ca 0, 16, .inl fd)), (f1, .inl (ca 0, 16, .inl lt))] sz) := by
  refine Met.ofW (cc := cX0_cookOver) (maxL := 5) (ret := none) (by decide) rfl ?_
  intro p e s m args below meth c s₁ B hml hv
  obtain ⟨rfl, hsz, hP, hK, hD0, hE⟩ := hv
  have hx := B.exec
  have hb := B.bytes
  have hr := B.returns
  have hts : ∀ w ∈ gT, w.before _ s = true := fun w h => atoms_spec (ws := Cond.code yX0_cookOver cX0_cookOver 5 none :: gT) B.pre w (List.mem_cons_of_mem _ h)
  have hown : s.vm.findClass RX0 = some m.cls := findClass_of_methodNamed B.named
  have hlocks := B.notSynchronized
  subst hsz
  have hD := hD0.self (sz := s.heap.size)
  generalize hAe : va_A [(h, .inr (0, [.int b0, .ref ro, .int b2, .int b3, .long b4, .int b5, .int b6, .int b7, .int b8, .int b9, .int b10, .int b11, .int b12, .int b13, .int b14, .int b15])), (ro, .inr (7, [.ref ra, .ref rs, .int (nI dn), .int sv])), (ra, .inl (ca 0, 60, .inl FB)), (rs, .inl (ca 1, 60, .inl SB)), (hu, .inr (8, [.ref f0, .ref f1, .int (nI rn), .int gl, .int gh, .ref f5, .ref f6])), (f0, .inl (ca 0, 16, .inl fd)), (f1, .inl (ca 0, 16, .inl lt))] s.heap.size = A at hD ⊢
  have hA : ∀ q : Nat, s.heap.size ≤ q → A q := fun q h => by rw [← hAe]; exact Or.inr h
  have hS : va_S A s.heap s.heap [] := va_S.rf
  have hl := lv_entry ([.ref h, .int (nI tk), .ref hu]) (n := 5) (Nat.le_of_ble_eq_true rfl)
  rw [lg_entry_eq]
  generalize (lg_sl ([.ref h, .int (nI tk), .ref hu]) ++ List.replicate (5 - (lg_sl ([.ref h, .int (nI tk), .ref hu])).length) Slot.unset).toArray = ls at hl ⊢
  have hl : lv_has ls 5 [(0, .ref h), (1, .int (nI tk)), (2, .ref hu)] := hl
  refine lv_aload_n hx hb dX0_cookOver_0 rfl (lv_at hl 0 rfl) ?_
  refine lv_iconst (v := 1) hx hb dX0_cookOver_1 (by decide) ?_
  refine va_put (D := (dC, dI)) (ci := 0) (v := .int 1) (ty := .boolean) (C := RX0) (T := TX0) (N := 16) hx hb hts inX0 tyX0 tyX0_ok nmX0 hown hK hP hD hS 0 rfl rfl 5 (by decide) (hts _ mw_315) (fun _ h9 => h9) rfl (by decide +kernel) rfl rfl (Nat.le_of_ble_eq_true rfl) dX0_cookOver_2 (fun H locs hP hD hS => ?_)
  obtain ⟨hP, hD⟩ := va_bo [(h, .inr (0, [.int b0, .ref ro, .int b2, .int b3, .long b4, .int 1, .int b6, .int b7, .int b8, .int b9, .int b10, .int b11, .int b12, .int b13, .int b14, .int b15])), (ro, .inr (7, [.ref ra, .ref rs, .int (nI dn), .int sv])), (ra, .inl (ca 0, 60, .inl FB)), (rs, .inl (ca 1, 60, .inl SB)), (hu, .inr (8, [.ref f0, .ref f1, .int (nI rn), .int gl, .int gh, .ref f5, .ref f6])), (f0, .inl (ca 0, 16, .inl fd)), (f1, .inl (ca 0, 16, .inl lt))] hP hD
  refine lv_iload_n hx hb dX0_cookOver_5 rfl (lv_at hl 1 rfl) ?_
  refine lv_aload_n hx hb dX0_cookOver_6 rfl (lv_at hl 0 rfl) ?_
  refine va_get (D := (dC, dI)) (ci := 0) (v := .ref ro) (C := RX0) (T := TX0) (N := 16) hx hb hts inX0 hown hK hP 0 rfl rfl 1 (by decide) (hts _ mw_307) (fun _ h9 => h9) rfl dX0_cookOver_7 ?_
  refine va_get (D := (dC, dI)) (ci := 7) (v := .int (nI dn)) (C := RX7) (T := TX7) (N := 4) hx hb hts inX7 hown hK hP 1 rfl rfl 2 (by decide) (hts _ mw_292) (fun _ h9 => h9) rfl dX0_cookOver_10 ?_
  refine va_mmin hx hb (by rw [hml]; exact hl.1.symm) hown (hts _ mw_441) (hts _ mw_442) (hts _ mw_12) (hts _ mmin_code) (Nat.le_of_ble_eq_true rfl) (Nat.le_of_ble_eq_true rfl) (Nat.le_of_ble_eq_true rfl) (Nat.le_of_ble_eq_true rfl) dX0_cookOver_13 ?_
  refine lv_topi (fun y_ e_ => ?_)
  obtain rfl : y_ = (nI (min tk dn)) := e_.trans (nI_min (by omega) (by omega))
  refine lv_istore_n (lv' := [(3, .int (nI (min tk dn))), (0, .ref h), (1, .int (nI tk)), (2, .ref hu)]) hx hb dX0_cookOver_16 rfl hl (by decide) rfl (fun ls hl => ?_)
  refine lv_iload_n hx hb dX0_cookOver_17 rfl (lv_at hl 0 rfl) ?_
  refine lv_iload_n hx hb dX0_cookOver_18 rfl (lv_at hl 2 rfl) ?_
  refine lv_icmp_ge (tgt := 27) hx hb dX0_cookOver_19 (by decide) (fun c_1 => ?_) (fun c_1 => ?_)
  · have nc_1 : tk ≤ min tk dn := (nI_leI (a := tk) (b := min tk dn) (by omega) (by omega)).mp c_1
    refine lv_aload_n hx hb dX0_cookOver_27 rfl (lv_at hl 1 rfl) ?_
    refine lv_iload_n hx hb dX0_cookOver_28 rfl (lv_at hl 0 rfl) ?_
    have hPc := hP.sub (ws' := [(h, .inr (0, [.int b0, .ref ro, .int b2, .int b3, .long b4, .int 1, .int b6, .int b7, .int b8, .int b9, .int b10, .int b11, .int b12, .int b13, .int b14, .int b15])), (ro, .inr (7, [.ref ra, .ref rs, .int (nI dn), .int sv])), (ra, .inl (ca 0, 60, .inl FB))]) [0, 1, 2] rfl
    refine pc_i (va_runV (As := [.int (nI (min tk dn))]) (rest := []) ⟨hx, hb, hml, hown, hts⟩ (b_findTop l dC dI ca h b0 b2 b3 b4 1 b6 b7 b8 b9 b10 b11 b12 b13 b14 b15 ro ra rs (nI dn) sv FB (min tk dn) (by first | assumption | omega | exact ⟨_, by omega, rfl⟩) (by first | assumption | omega | exact ⟨_, by omega, rfl⟩)) (⟨callB_of 1 hts (gd mw_447) rfl rfl rfl (hts _ mw_10) (hts _ mw_444) ds_X0_findTop ⟨Nat.le_of_ble_eq_true rfl, Nat.le_of_ble_eq_true rfl⟩, (hts _ mw_446), (hts _ mp_3)⟩) (pu_V hPc hK hE (va_recv hK hPc (ci := 0) (q0 := 0) rfl rfl)) rfl rfl hl.1 rfl (lv_room (Nat.le_of_ble_eq_true rfl)) dX0_cookOver_29 ⟨Nat.le_of_ble_eq_true rfl, Nat.le_of_ble_eq_true rfl⟩) (fun rv_2 hw_ => ?_)
    obtain rfl : rv_2 = (ftG (nuF (nI dn) FB) (dgF (nI dn) FB) (min tk dn) 0 (-1) 0) := hw_
    refine lv_istore (lv' := [(4, .int (ftG (nuF (nI dn) FB) (dgF (nI dn) FB) (min tk dn) 0 (-1) 0)), (3, .int (nI (min tk dn))), (0, .ref h), (1, .int (nI tk)), (2, .ref hu)]) hx hb dX0_cookOver_32 hl (by decide) rfl (fun ls hl => ?_)
    refine lv_iload hx hb dX0_cookOver_34 (lv_at hl 0 rfl) ?_
    refine lv_iconst (v := (-1)) hx hb dX0_cookOver_36 (by decide) ?_
    refine lv_icmp_eq (tgt := 79) hx hb dX0_cookOver_37 (by decide) (fun c_3 => ?_) (fun c_3 => ?_)
    · refine lv_aload_n hx hb dX0_cookOver_79 rfl (lv_at hl 2 rfl) ?_
      refine lv_aload_n hx hb dX0_cookOver_80 rfl (lv_at hl 2 rfl) ?_
      refine va_get (D := (dC, dI)) (ci := 0) (v := .int b2) (C := RX0) (T := TX0) (N := 16) hx hb hts inX0 hown hK hP 0 rfl rfl 2 (by decide) (hts _ mw_309) (fun _ h9 => h9) rfl dX0_cookOver_81 ?_
      refine lv_i2l (v := (b2 : Int32).toInt64) hx hb dX0_cookOver_84 rfl ?_
      refine lv_aload_n hx hb dX0_cookOver_85 rfl (lv_at hl 2 rfl) ?_
      refine va_get (D := (dC, dI)) (ci := 0) (v := .int b8) (C := RX0) (T := TX0) (N := 16) hx hb hts inX0 hown hK hP 0 rfl rfl 8 (by decide) (hts _ mw_320) (fun _ h9 => h9) rfl dX0_cookOver_86 ?_
      refine lv_i2l (v := (b8 : Int32).toInt64) hx hb dX0_cookOver_89 rfl ?_
      refine lv_lmul hx hb dX0_cookOver_90 ?_
      refine lv_ldc2 (v := 1000) hx hb hown (hts _ mw_484) dX0_cookOver_91 ?_
      refine lv_ldiv hx hb dX0_cookOver_94 (by decide) ?_
      refine lv_l2i (v := ((((b2 : Int32).toInt64 * (b8 : Int32).toInt64) / 1000) : Int64).toInt32) hx hb dX0_cookOver_95 rfl ?_
      refine va_put (D := (dC, dI)) (ci := 0) (v := .int (((((b2 : Int32).toInt64 * (b8 : Int32).toInt64) / 1000) : Int64).toInt32)) (ty := .int) (C := RX0) (T := TX0) (N := 16) hx hb hts inX0 tyX0 tyX0_ok nmX0 hown hK hP hD hS 0 rfl rfl 7 (by decide) (hts _ mw_319) (fun _ h9 => h9) rfl (by decide +kernel) rfl rfl (Nat.le_of_ble_eq_true rfl) dX0_cookOver_96 (fun H locs hP hD hS => ?_)
      obtain ⟨hP, hD⟩ := va_bo [(h, .inr (0, [.int b0, .ref ro, .int b2, .int b3, .long b4, .int 1, .int b6, .int (((((b2 : Int32).toInt64 * (b8 : Int32).toInt64) / 1000) : Int64).toInt32), .int b8, .int b9, .int b10, .int b11, .int b12, .int b13, .int b14, .int b15])), (ro, .inr (7, [.ref ra, .ref rs, .int (nI dn), .int sv])), (ra, .inl (ca 0, 60, .inl FB)), (rs, .inl (ca 1, 60, .inl SB)), (hu, .inr (8, [.ref f0, .ref f1, .int (nI rn), .int gl, .int gh, .ref f5, .ref f6])), (f0, .inl (ca 0, 16, .inl fd)), (f1, .inl (ca 0, 16, .inl lt))] hP hD
      refine lv_aload_n hx hb dX0_cookOver_99 rfl (lv_at hl 2 rfl) ?_
      refine lv_dup hx hb dX0_cookOver_100 rfl ?_
      refine va_get (D := (dC, dI)) (ci := 0) (v := .int b2) (C := RX0) (T := TX0) (N := 16) hx hb hts inX0 hown hK hP 0 rfl rfl 2 (by decide) (hts _ mw_309) (fun _ h9 => h9) rfl dX0_cookOver_101 ?_
      refine lv_aload_n hx hb dX0_cookOver_104 rfl (lv_at hl 2 rfl) ?_
      refine va_get (D := (dC, dI)) (ci := 0) (v := .int (((((b2 : Int32).toInt64 * (b8 : Int32).toInt64) / 1000) : Int64).toInt32)) (C := RX0) (T := TX0) (N := 16) hx hb hts inX0 hown hK hP 0 rfl rfl 7 (by decide) (hts _ mw_319) (fun _ h9 => h9) rfl dX0_cookOver_105 ?_
      refine lv_isub hx hb dX0_cookOver_108 ?_
      refine va_put (D := (dC, dI)) (ci := 0) (v := .int (b2 - ((((b2 : Int32).toInt64 * (b8 : Int32).toInt64) / 1000) : Int64).toInt32)) (ty := .int) (C := RX0) (T := TX0) (N := 16) hx hb hts inX0 tyX0 tyX0_ok nmX0 hown hK hP hD hS 0 rfl rfl 2 (by decide) (hts _ mw_309) (fun _ h9 => h9) rfl (by decide +kernel) rfl rfl (Nat.le_of_ble_eq_true rfl) dX0_cookOver_109 (fun H locs hP hD hS => ?_)
      obtain ⟨hP, hD⟩ := va_bo [(h, .inr (0, [.int b0, .ref ro, .int (b2 - ((((b2 : Int32).toInt64 * (b8 : Int32).toInt64) / 1000) : Int64).toInt32), .int b3, .long b4, .int 1, .int b6, .int (((((b2 : Int32).toInt64 * (b8 : Int32).toInt64) / 1000) : Int64).toInt32), .int b8, .int b9, .int b10, .int b11, .int b12, .int b13, .int b14, .int b15])), (ro, .inr (7, [.ref ra, .ref rs, .int (nI dn), .int sv])), (ra, .inl (ca 0, 60, .inl FB)), (rs, .inl (ca 1, 60, .inl SB)), (hu, .inr (8, [.ref f0, .ref f1, .int (nI rn), .int gl, .int gh, .ref f5, .ref f6])), (f0, .inl (ca 0, 16, .inl fd)), (f1, .inl (ca 0, 16, .inl lt))] hP hD
      refine W.widen (k := 0) (n := 0) (Nat.le_of_ble_eq_true rfl) (Nat.le_of_ble_eq_true rfl) ?_
      have hP9 : va_P (dC, dI) vwCl [(h, .inr (0, [.int b0, .ref ro, .int (b2 - ckl b2 b8), .int b3, .long b4, .int 1, .int b6, .int (ckl b2 b8), .int b8, .int b9, .int b10, .int b11, .int b12, .int b13, .int b14, .int b15])), (ro, .inr (7, [.ref ra, .ref rs, .int (nI dn), .int sv])), (ra, .inl (ca 0, 60, .inl FB)), (rs, .inl (ca 1, 60, .inl SB)), (hu, .inr (8, [.ref f0, .ref f1, .int (nI rn), .int gl, .int gh, .ref f5, .ref f6])), (f0, .inl (ca 0, 16, .inl fd)), (f1, .inl (ca 0, 16, .inl lt))] H := va_P.sub hP [0, 1, 2, 3, 4, 5, 6] rfl
      have hD9 : va_D A [(h, .inr (0, [.int b0, .ref ro, .int (b2 - ckl b2 b8), .int b3, .long b4, .int 1, .int b6, .int (ckl b2 b8), .int b8, .int b9, .int b10, .int b11, .int b12, .int b13, .int b14, .int b15])), (ro, .inr (7, [.ref ra, .ref rs, .int (nI dn), .int sv])), (ra, .inl (ca 0, 60, .inl FB)), (rs, .inl (ca 1, 60, .inl SB)), (hu, .inr (8, [.ref f0, .ref f1, .int (nI rn), .int gl, .int gh, .ref f5, .ref f6])), (f0, .inl (ca 0, 16, .inl fd)), (f1, .inl (ca 0, 16, .inl lt))] := va_D.sub hD [0, 1, 2, 3, 4, 5, 6] (by decide) rfl
      exact W.vret hx hb hr (fun t ht hW => ⟨⟨(b10, b9, b8, b11), rfl, (ckOk_no c_3 (by first | rw [if_pos (by omega), Nat.min_eq_right (by omega)] | rw [if_neg (by omega)])), by rw [ht]; dsimp only; exact hP9, by dsimp only; exact hD9⟩, hS.F ht⟩) hS.2.2 dX0_cookOver_112
    · obtain ⟨q, hq, eq⟩ := ckT_in (show ¬ ckT (nI dn) FB (min tk dn) = -1 from c_3)
      have eq2 : ftG (nuF (nI dn) FB) (dgF (nI dn) FB) (min tk dn) 0 (-1) 0 = nI q := eq
      rw [eq2] at hl
      refine lv_aload_n hx hb dX0_cookOver_40 rfl (lv_at hl 2 rfl) ?_
      refine lv_aload_n hx hb dX0_cookOver_41 rfl (lv_at hl 2 rfl) ?_
      refine va_get (D := (dC, dI)) (ci := 0) (v := .ref ro) (C := RX0) (T := TX0) (N := 16) hx hb hts inX0 hown hK hP 0 rfl rfl 1 (by decide) (hts _ mw_307) (fun _ h9 => h9) rfl dX0_cookOver_42 ?_
      refine lv_iload hx hb dX0_cookOver_45 (lv_at hl 0 rfl) ?_
      have hPc := hP.sub (ws' := [(ro, .inr (7, [.ref ra, .ref rs, .int (nI dn), .int sv])), (ra, .inl (ca 0, 60, .inl FB))]) [1, 2] rfl
      refine pc_i (va_runV (As := [.int (nI q)]) (rest := [.ref h]) ⟨hx, hb, hml, hown, hts⟩ (r_degreeAt l dC dI ca ro ra rs (nI dn) sv FB (nI q) (by first | assumption | omega | exact ⟨_, by omega, rfl⟩)) (⟨callB_of 1 hts (gd mw_458) rfl rfl rfl (hts _ mw_11) (hts _ mw_455) ds_X7_degreeAt ⟨Nat.le_of_ble_eq_true rfl, Nat.le_of_ble_eq_true rfl⟩, (hts _ mw_456), (hts _ mw_457)⟩) (pu_V hPc hK hE (va_recv hK hPc (ci := 7) (q0 := 0) rfl rfl)) rfl rfl hl.1 rfl (lv_room (Nat.le_of_ble_eq_true rfl)) dX0_cookOver_47 ⟨Nat.le_of_ble_eq_true rfl, Nat.le_of_ble_eq_true rfl⟩) (fun rv_4 hw_ => ?_)
      obtain rfl : rv_4 = (dgA (nI dn) FB (nI q)) := hw_
      refine va_put (D := (dC, dI)) (ci := 0) (v := .int (dgA (nI dn) FB (nI q))) (ty := .int) (C := RX0) (T := TX0) (N := 16) hx hb hts inX0 tyX0 tyX0_ok nmX0 hown hK hP hD hS 0 rfl rfl 9 (by decide) (hts _ mw_321) (fun _ h9 => h9) rfl (by decide +kernel) rfl rfl (Nat.le_of_ble_eq_true rfl) dX0_cookOver_50 (fun H locs hP hD hS => ?_)
      obtain ⟨hP, hD⟩ := va_bo [(h, .inr (0, [.int b0, .ref ro, .int b2, .int b3, .long b4, .int 1, .int b6, .int b7, .int b8, .int (dgA (nI dn) FB (nI q)), .int b10, .int b11, .int b12, .int b13, .int b14, .int b15])), (ro, .inr (7, [.ref ra, .ref rs, .int (nI dn), .int sv])), (ra, .inl (ca 0, 60, .inl FB)), (rs, .inl (ca 1, 60, .inl SB)), (hu, .inr (8, [.ref f0, .ref f1, .int (nI rn), .int gl, .int gh, .ref f5, .ref f6])), (f0, .inl (ca 0, 16, .inl fd)), (f1, .inl (ca 0, 16, .inl lt))] hP hD
      refine lv_aload_n hx hb dX0_cookOver_53 rfl (lv_at hl 2 rfl) ?_
      refine lv_aload_n hx hb dX0_cookOver_54 rfl (lv_at hl 4 rfl) ?_
      refine lv_aload_n hx hb dX0_cookOver_55 rfl (lv_at hl 2 rfl) ?_
      refine va_get (D := (dC, dI)) (ci := 0) (v := .int (dgA (nI dn) FB (nI q))) (C := RX0) (T := TX0) (N := 16) hx hb hts inX0 hown hK hP 0 rfl rfl 9 (by decide) (hts _ mw_321) (fun _ h9 => h9) rfl dX0_cookOver_56 ?_
      have hPc := hP.sub (ws' := [(hu, .inr (8, [.ref f0, .ref f1, .int (nI rn), .int gl, .int gh, .ref f5, .ref f6])), (f0, .inl (ca 0, 16, .inl fd)), (f1, .inl (ca 0, 16, .inl lt))]) [4, 5, 6] rfl
      refine pc_i (va_runV (As := [.int (dgA (nI dn) FB (nI q))]) (rest := [.ref h]) ⟨hx, hb, hml, hown, hts⟩ (u_lossAt l dC dI ca hu f0 f1 f5 f6 rn gl gh fd lt (dgA (nI dn) FB (nI q)) (by first | assumption | omega | exact ⟨_, by omega, rfl⟩)) (⟨callB_of 1 hts (gd mw_470) rfl rfl rfl (hts _ mw_2) (hts _ mw_467) ds_X8_lossAt ⟨Nat.le_of_ble_eq_true rfl, Nat.le_of_ble_eq_true rfl⟩, (hts _ mw_468), (hts _ mw_469)⟩) (pu_V hPc hK hE (va_recv hK hPc (ci := 8) (q0 := 0) rfl rfl)) rfl rfl hl.1 rfl (lv_room (Nat.le_of_ble_eq_true rfl)) dX0_cookOver_59 ⟨Nat.le_of_ble_eq_true rfl, Nat.le_of_ble_eq_true rfl⟩) (fun rv_5 hw_ => ?_)
      obtain rfl : rv_5 = (lsG fd lt (dgA (nI dn) FB (nI q)) rn 0 0) := hw_
      refine va_put (D := (dC, dI)) (ci := 0) (v := .int (lsG fd lt (dgA (nI dn) FB (nI q)) rn 0 0)) (ty := .int) (C := RX0) (T := TX0) (N := 16) hx hb hts inX0 tyX0 tyX0_ok nmX0 hown hK hP hD hS 0 rfl rfl 8 (by decide) (hts _ mw_320) (fun _ h9 => h9) rfl (by decide +kernel) rfl rfl (Nat.le_of_ble_eq_true rfl) dX0_cookOver_62 (fun H locs hP hD hS => ?_)
      obtain ⟨hP, hD⟩ := va_bo [(h, .inr (0, [.int b0, .ref ro, .int b2, .int b3, .long b4, .int 1, .int b6, .int b7, .int (lsG fd lt (dgA (nI dn) FB (nI q)) rn 0 0), .int (dgA (nI dn) FB (nI q)), .int b10, .int b11, .int b12, .int b13, .int b14, .int b15])), (ro, .inr (7, [.ref ra, .ref rs, .int (nI dn), .int sv])), (ra, .inl (ca 0, 60, .inl FB)), (rs, .inl (ca 1, 60, .inl SB)), (hu, .inr (8, [.ref f0, .ref f1, .int (nI rn), .int gl, .int gh, .ref f5, .ref f6])), (f0, .inl (ca 0, 16, .inl fd)), (f1, .inl (ca 0, 16, .inl lt))] hP hD
      refine lv_aload_n hx hb dX0_cookOver_65 rfl (lv_at hl 2 rfl) ?_
      refine lv_aload_n hx hb dX0_cookOver_66 rfl (lv_at hl 2 rfl) ?_
      refine lv_iload hx hb dX0_cookOver_67 (lv_at hl 0 rfl) ?_
      refine lv_iconst (v := 1) hx hb dX0_cookOver_69 (by decide) ?_
      refine lv_iadd hx hb dX0_cookOver_70 ?_
      refine lv_topi (fun y_ e_ => ?_)
      obtain rfl : y_ = (nI (q + 1)) := e_.trans (nI_add (q) (1))
      refine lv_iload_n hx hb dX0_cookOver_71 rfl (lv_at hl 1 rfl) ?_
      refine lv_aload_n hx hb dX0_cookOver_72 rfl (lv_at hl 4 rfl) ?_
      have hPc := hP.sub (ws' := [(h, .inr (0, [.int b0, .ref ro, .int b2, .int b3, .long b4, .int 1, .int b6, .int b7, .int (lsG fd lt (dgA (nI dn) FB (nI q)) rn 0 0), .int (dgA (nI dn) FB (nI q)), .int b10, .int b11, .int b12, .int b13, .int b14, .int b15])), (ro, .inr (7, [.ref ra, .ref rs, .int (nI dn), .int sv])), (ra, .inl (ca 0, 60, .inl FB)), (rs, .inl (ca 1, 60, .inl SB)), (hu, .inr (8, [.ref f0, .ref f1, .int (nI rn), .int gl, .int gh, .ref f5, .ref f6]))]) [0, 1, 2, 3, 4] rfl
      refine pc_i (va_runV (As := [.int (nI (q + 1)), .int (nI (min tk dn)), .ref hu]) (rest := [.ref h]) ⟨hx, hb, hml, hown, hts⟩ (b_findGrained l dC dI ca h b0 b2 b3 b4 1 b6 b7 (lsG fd lt (dgA (nI dn) FB (nI q)) rn 0 0) (dgA (nI dn) FB (nI q)) b10 b11 b12 b13 b14 b15 ro ra rs (nI dn) sv FB SB hu f0 f1 f5 f6 rn gl gh (q + 1) (min tk dn) (by first | assumption | omega | exact ⟨_, by omega, rfl⟩) (by first | assumption | omega | exact ⟨_, by omega, rfl⟩) (by first | assumption | omega | exact ⟨_, by omega, rfl⟩) (by first | assumption | omega | exact ⟨_, by omega, rfl⟩)) (⟨callB_of 3 hts (gd mw_474) rfl rfl rfl (hts _ mw_10) (hts _ mw_471) ds_X0_findGrained ⟨Nat.le_of_ble_eq_true rfl, Nat.le_of_ble_eq_true rfl⟩, (hts _ mw_473), (hts _ mp_4)⟩) (pu_V hPc hK hE (va_recv hK hPc (ci := 0) (q0 := 0) rfl rfl)) rfl rfl hl.1 rfl (lv_room (Nat.le_of_ble_eq_true rfl)) dX0_cookOver_73 ⟨Nat.le_of_ble_eq_true rfl, Nat.le_of_ble_eq_true rfl⟩) (fun rv_6 hw_ => ?_)
      obtain rfl : rv_6 = (fgG (yesF (nI dn) FB sv SB gl gh) ((min tk dn) - (q + 1)) (q + 1)) := hw_
      refine va_put (D := (dC, dI)) (ci := 0) (v := .int (fgG (yesF (nI dn) FB sv SB gl gh) ((min tk dn) - (q + 1)) (q + 1))) (ty := .int) (C := RX0) (T := TX0) (N := 16) hx hb hts inX0 tyX0 tyX0_ok nmX0 hown hK hP hD hS 0 rfl rfl 11 (by decide) (hts _ mw_323) (fun _ h9 => h9) rfl (by decide +kernel) rfl rfl (Nat.le_of_ble_eq_true rfl) dX0_cookOver_76 (fun H locs hP hD hS => ?_)
      obtain ⟨hP, hD⟩ := va_bo [(h, .inr (0, [.int b0, .ref ro, .int b2, .int b3, .long b4, .int 1, .int b6, .int b7, .int (lsG fd lt (dgA (nI dn) FB (nI q)) rn 0 0), .int (dgA (nI dn) FB (nI q)), .int b10, .int (fgG (yesF (nI dn) FB sv SB gl gh) ((min tk dn) - (q + 1)) (q + 1)), .int b12, .int b13, .int b14, .int b15])), (ro, .inr (7, [.ref ra, .ref rs, .int (nI dn), .int sv])), (ra, .inl (ca 0, 60, .inl FB)), (rs, .inl (ca 1, 60, .inl SB)), (hu, .inr (8, [.ref f0, .ref f1, .int (nI rn), .int gl, .int gh, .ref f5, .ref f6])), (f0, .inl (ca 0, 16, .inl fd)), (f1, .inl (ca 0, 16, .inl lt))] hP hD
      refine lv_aload_n hx hb dX0_cookOver_79 rfl (lv_at hl 2 rfl) ?_
      refine lv_aload_n hx hb dX0_cookOver_80 rfl (lv_at hl 2 rfl) ?_
      refine va_get (D := (dC, dI)) (ci := 0) (v := .int b2) (C := RX0) (T := TX0) (N := 16) hx hb hts inX0 hown hK hP 0 rfl rfl 2 (by decide) (hts _ mw_309) (fun _ h9 => h9) rfl dX0_cookOver_81 ?_
      refine lv_i2l (v := (b2 : Int32).toInt64) hx hb dX0_cookOver_84 rfl ?_
      refine lv_aload_n hx hb dX0_cookOver_85 rfl (lv_at hl 2 rfl) ?_
      refine va_get (D := (dC, dI)) (ci := 0) (v := .int (lsG fd lt (dgA (nI dn) FB (nI q)) rn 0 0)) (C := RX0) (T := TX0) (N := 16) hx hb hts inX0 hown hK hP 0 rfl rfl 8 (by decide) (hts _ mw_320) (fun _ h9 => h9) rfl dX0_cookOver_86 ?_
      refine lv_i2l (v := ((lsG fd lt (dgA (nI dn) FB (nI q)) rn 0 0) : Int32).toInt64) hx hb dX0_cookOver_89 rfl ?_
      refine lv_lmul hx hb dX0_cookOver_90 ?_
      refine lv_ldc2 (v := 1000) hx hb hown (hts _ mw_484) dX0_cookOver_91 ?_
      refine lv_ldiv hx hb dX0_cookOver_94 (by decide) ?_
      refine lv_l2i (v := ((((b2 : Int32).toInt64 * ((lsG fd lt (dgA (nI dn) FB (nI q)) rn 0 0) : Int32).toInt64) / 1000) : Int64).toInt32) hx hb dX0_cookOver_95 rfl ?_
      refine va_put (D := (dC, dI)) (ci := 0) (v := .int (((((b2 : Int32).toInt64 * ((lsG fd lt (dgA (nI dn) FB (nI q)) rn 0 0) : Int32).toInt64) / 1000) : Int64).toInt32)) (ty := .int) (C := RX0) (T := TX0) (N := 16) hx hb hts inX0 tyX0 tyX0_ok nmX0 hown hK hP hD hS 0 rfl rfl 7 (by decide) (hts _ mw_319) (fun _ h9 => h9) rfl (by decide +kernel) rfl rfl (Nat.le_of_ble_eq_true rfl) dX0_cookOver_96 (fun H locs hP hD hS => ?_)
      obtain ⟨hP, hD⟩ := va_bo [(h, .inr (0, [.int b0, .ref ro, .int b2, .int b3, .long b4, .int 1, .int b6, .int (((((b2 : Int32).toInt64 * ((lsG fd lt (dgA (nI dn) FB (nI q)) rn 0 0) : Int32).toInt64) / 1000) : Int64).toInt32), .int (lsG fd lt (dgA (nI dn) FB (nI q)) rn 0 0), .int (dgA (nI dn) FB (nI q)), .int b10, .int (fgG (yesF (nI dn) FB sv SB gl gh) ((min tk dn) - (q + 1)) (q + 1)), .int b12, .int b13, .int b14, .int b15])), (ro, .inr (7, [.ref ra, .ref rs, .int (nI dn), .int sv])), (ra, .inl (ca 0, 60, .inl FB)), (rs, .inl (ca 1, 60, .inl SB)), (hu, .inr (8, [.ref f0, .ref f1, .int (nI rn), .int gl, .int gh, .ref f5, .ref f6])), (f0, .inl (ca 0, 16, .inl fd)), (f1, .inl (ca 0, 16, .inl lt))] hP hD
      refine lv_aload_n hx hb dX0_cookOver_99 rfl (lv_at hl 2 rfl) ?_
      refine lv_dup hx hb dX0_cookOver_100 rfl ?_
      refine va_get (D := (dC, dI)) (ci := 0) (v := .int b2) (C := RX0) (T := TX0) (N := 16) hx hb hts inX0 hown hK hP 0 rfl rfl 2 (by decide) (hts _ mw_309) (fun _ h9 => h9) rfl dX0_cookOver_101 ?_
      refine lv_aload_n hx hb dX0_cookOver_104 rfl (lv_at hl 2 rfl) ?_
      refine va_get (D := (dC, dI)) (ci := 0) (v := .int (((((b2 : Int32).toInt64 * ((lsG fd lt (dgA (nI dn) FB (nI q)) rn 0 0) : Int32).toInt64) / 1000) : Int64).toInt32)) (C := RX0) (T := TX0) (N := 16) hx hb hts inX0 hown hK hP 0 rfl rfl 7 (by decide) (hts _ mw_319) (fun _ h9 => h9) rfl dX0_cookOver_105 ?_
      refine lv_isub hx hb dX0_cookOver_108 ?_
      refine va_put (D := (dC, dI)) (ci := 0) (v := .int (b2 - ((((b2 : Int32).toInt64 * ((lsG fd lt (dgA (nI dn) FB (nI q)) rn 0 0) : Int32).toInt64) / 1000) : Int64).toInt32)) (ty := .int) (C := RX0) (T := TX0) (N := 16) hx hb hts inX0 tyX0 tyX0_ok nmX0 hown hK hP hD hS 0 rfl rfl 2 (by decide) (hts _ mw_309) (fun _ h9 => h9) rfl (by decide +kernel) rfl rfl (Nat.le_of_ble_eq_true rfl) dX0_cookOver_109 (fun H locs hP hD hS => ?_)
      obtain ⟨hP, hD⟩ := va_bo [(h, .inr (0, [.int b0, .ref ro, .int (b2 - ((((b2 : Int32).toInt64 * ((lsG fd lt (dgA (nI dn) FB (nI q)) rn 0 0) : Int32).toInt64) / 1000) : Int64).toInt32), .int b3, .long b4, .int 1, .int b6, .int (((((b2 : Int32).toInt64 * ((lsG fd lt (dgA (nI dn) FB (nI q)) rn 0 0) : Int32).toInt64) / 1000) : Int64).toInt32), .int (lsG fd lt (dgA (nI dn) FB (nI q)) rn 0 0), .int (dgA (nI dn) FB (nI q)), .int b10, .int (fgG (yesF (nI dn) FB sv SB gl gh) ((min tk dn) - (q + 1)) (q + 1)), .int b12, .int b13, .int b14, .int b15])), (ro, .inr (7, [.ref ra, .ref rs, .int (nI dn), .int sv])), (ra, .inl (ca 0, 60, .inl FB)), (rs, .inl (ca 1, 60, .inl SB)), (hu, .inr (8, [.ref f0, .ref f1, .int (nI rn), .int gl, .int gh, .ref f5, .ref f6])), (f0, .inl (ca 0, 16, .inl fd)), (f1, .inl (ca 0, 16, .inl lt))] hP hD
      refine W.widen (k := 0) (n := 0) (Nat.le_of_ble_eq_true rfl) (Nat.le_of_ble_eq_true rfl) ?_
      have hP9 : va_P (dC, dI) vwCl [(h, .inr (0, [.int b0, .ref ro, .int (b2 - ckl b2 (lsG fd lt (dgA (nI dn) FB (nI q)) rn 0 0)), .int b3, .long b4, .int 1, .int b6, .int (ckl b2 (lsG fd lt (dgA (nI dn) FB (nI q)) rn 0 0)), .int (lsG fd lt (dgA (nI dn) FB (nI q)) rn 0 0), .int (dgA (nI dn) FB (nI q)), .int b10, .int (fgG (yesF (nI dn) FB sv SB gl gh) ((min tk dn) - (q + 1)) (q + 1)), .int b12, .int b13, .int b14, .int b15])), (ro, .inr (7, [.ref ra, .ref rs, .int (nI dn), .int sv])), (ra, .inl (ca 0, 60, .inl FB)), (rs, .inl (ca 1, 60, .inl SB)), (hu, .inr (8, [.ref f0, .ref f1, .int (nI rn), .int gl, .int gh, .ref f5, .ref f6])), (f0, .inl (ca 0, 16, .inl fd)), (f1, .inl (ca 0, 16, .inl lt))] H := va_P.sub hP [0, 1, 2, 3, 4, 5, 6] rfl
      have hD9 : va_D A [(h, .inr (0, [.int b0, .ref ro, .int (b2 - ckl b2 (lsG fd lt (dgA (nI dn) FB (nI q)) rn 0 0)), .int b3, .long b4, .int 1, .int b6, .int (ckl b2 (lsG fd lt (dgA (nI dn) FB (nI q)) rn 0 0)), .int (lsG fd lt (dgA (nI dn) FB (nI q)) rn 0 0), .int (dgA (nI dn) FB (nI q)), .int b10, .int (fgG (yesF (nI dn) FB sv SB gl gh) ((min tk dn) - (q + 1)) (q + 1)), .int b12, .int b13, .int b14, .int b15])), (ro, .inr (7, [.ref ra, .ref rs, .int (nI dn), .int sv])), (ra, .inl (ca 0, 60, .inl FB)), (rs, .inl (ca 1, 60, .inl SB)), (hu, .inr (8, [.ref f0, .ref f1, .int (nI rn), .int gl, .int gh, .ref f5, .ref f6])), (f0, .inl (ca 0, 16, .inl fd)), (f1, .inl (ca 0, 16, .inl lt))] := va_D.sub hD [0, 1, 2, 3, 4, 5, 6] (by decide) rfl
      exact W.vret hx hb hr (fun t ht hW => ⟨⟨(b10, (dgA (nI dn) FB (nI q)), (lsG fd lt (dgA (nI dn) FB (nI q)) rn 0 0), (fgG (yesF (nI dn) FB sv SB gl gh) ((min tk dn) - (q + 1)) (q + 1))), rfl, (ckOk_yes (by omega) eq (by first | rw [if_pos (by omega), Nat.min_eq_right (by omega)] | rw [if_neg (by omega)])), by rw [ht]; dsimp only; exact hP9, by dsimp only; exact hD9⟩, hS.F ht⟩) hS.2.2 dX0_cookOver_112
  · have nc_1 : ¬ (tk ≤ min tk dn) := fun h9 => c_1 ((nI_leI (a := tk) (b := min tk dn) (by omega) (by omega)).mpr h9)
    refine lv_aload_n hx hb dX0_cookOver_22 rfl (lv_at hl 1 rfl) ?_
    refine lv_iload_n hx hb dX0_cookOver_23 rfl (lv_at hl 0 rfl) ?_
    refine va_put (D := (dC, dI)) (ci := 0) (v := .int (nI (min tk dn))) (ty := .int) (C := RX0) (T := TX0) (N := 16) hx hb hts inX0 tyX0 tyX0_ok nmX0 hown hK hP hD hS 0 rfl rfl 10 (by decide) (hts _ mw_322) (fun _ h9 => h9) rfl (by decide +kernel) rfl rfl (Nat.le_of_ble_eq_true rfl) dX0_cookOver_24 (fun H locs hP hD hS => ?_)
    obtain ⟨hP, hD⟩ := va_bo [(h, .inr (0, [.int b0, .ref ro, .int b2, .int b3, .long b4, .int 1, .int b6, .int b7, .int b8, .int b9, .int (nI (min tk dn)), .int b11, .int b12, .int b13, .int b14, .int b15])), (ro, .inr (7, [.ref ra, .ref rs, .int (nI dn), .int sv])), (ra, .inl (ca 0, 60, .inl FB)), (rs, .inl (ca 1, 60, .inl SB)), (hu, .inr (8, [.ref f0, .ref f1, .int (nI rn), .int gl, .int gh, .ref f5, .ref f6])), (f0, .inl (ca 0, 16, .inl fd)), (f1, .inl (ca 0, 16, .inl lt))] hP hD
    refine lv_aload_n hx hb dX0_cookOver_27 rfl (lv_at hl 1 rfl) ?_
    refine lv_iload_n hx hb dX0_cookOver_28 rfl (lv_at hl 0 rfl) ?_
    have hPc := hP.sub (ws' := [(h, .inr (0, [.int b0, .ref ro, .int b2, .int b3, .long b4, .int 1, .int b6, .int b7, .int b8, .int b9, .int (nI (min tk dn)), .int b11, .int b12, .int b13, .int b14, .int b15])), (ro, .inr (7, [.ref ra, .ref rs, .int (nI dn), .int sv])), (ra, .inl (ca 0, 60, .inl FB))]) [0, 1, 2] rfl
    refine pc_i (va_runV (As := [.int (nI (min tk dn))]) (rest := []) ⟨hx, hb, hml, hown, hts⟩ (b_findTop l dC dI ca h b0 b2 b3 b4 1 b6 b7 b8 b9 (nI (min tk dn)) b11 b12 b13 b14 b15 ro ra rs (nI dn) sv FB (min tk dn) (by first | assumption | omega | exact ⟨_, by omega, rfl⟩) (by first | assumption | omega | exact ⟨_, by omega, rfl⟩)) (⟨callB_of 1 hts (gd mw_447) rfl rfl rfl (hts _ mw_10) (hts _ mw_444) ds_X0_findTop ⟨Nat.le_of_ble_eq_true rfl, Nat.le_of_ble_eq_true rfl⟩, (hts _ mw_446), (hts _ mp_3)⟩) (pu_V hPc hK hE (va_recv hK hPc (ci := 0) (q0 := 0) rfl rfl)) rfl rfl hl.1 rfl (lv_room (Nat.le_of_ble_eq_true rfl)) dX0_cookOver_29 ⟨Nat.le_of_ble_eq_true rfl, Nat.le_of_ble_eq_true rfl⟩) (fun rv_7 hw_ => ?_)
    obtain rfl : rv_7 = (ftG (nuF (nI dn) FB) (dgF (nI dn) FB) (min tk dn) 0 (-1) 0) := hw_
    refine lv_istore (lv' := [(4, .int (ftG (nuF (nI dn) FB) (dgF (nI dn) FB) (min tk dn) 0 (-1) 0)), (3, .int (nI (min tk dn))), (0, .ref h), (1, .int (nI tk)), (2, .ref hu)]) hx hb dX0_cookOver_32 hl (by decide) rfl (fun ls hl => ?_)
    refine lv_iload hx hb dX0_cookOver_34 (lv_at hl 0 rfl) ?_
    refine lv_iconst (v := (-1)) hx hb dX0_cookOver_36 (by decide) ?_
    refine lv_icmp_eq (tgt := 79) hx hb dX0_cookOver_37 (by decide) (fun c_8 => ?_) (fun c_8 => ?_)
    · refine lv_aload_n hx hb dX0_cookOver_79 rfl (lv_at hl 2 rfl) ?_
      refine lv_aload_n hx hb dX0_cookOver_80 rfl (lv_at hl 2 rfl) ?_
      refine va_get (D := (dC, dI)) (ci := 0) (v := .int b2) (C := RX0) (T := TX0) (N := 16) hx hb hts inX0 hown hK hP 0 rfl rfl 2 (by decide) (hts _ mw_309) (fun _ h9 => h9) rfl dX0_cookOver_81 ?_
      refine lv_i2l (v := (b2 : Int32).toInt64) hx hb dX0_cookOver_84 rfl ?_
      refine lv_aload_n hx hb dX0_cookOver_85 rfl (lv_at hl 2 rfl) ?_
      refine va_get (D := (dC, dI)) (ci := 0) (v := .int b8) (C := RX0) (T := TX0) (N := 16) hx hb hts inX0 hown hK hP 0 rfl rfl 8 (by decide) (hts _ mw_320) (fun _ h9 => h9) rfl dX0_cookOver_86 ?_
      refine lv_i2l (v := (b8 : Int32).toInt64) hx hb dX0_cookOver_89 rfl ?_
      refine lv_lmul hx hb dX0_cookOver_90 ?_
      refine lv_ldc2 (v := 1000) hx hb hown (hts _ mw_484) dX0_cookOver_91 ?_
      refine lv_ldiv hx hb dX0_cookOver_94 (by decide) ?_
      refine lv_l2i (v := ((((b2 : Int32).toInt64 * (b8 : Int32).toInt64) / 1000) : Int64).toInt32) hx hb dX0_cookOver_95 rfl ?_
      refine va_put (D := (dC, dI)) (ci := 0) (v := .int (((((b2 : Int32).toInt64 * (b8 : Int32).toInt64) / 1000) : Int64).toInt32)) (ty := .int) (C := RX0) (T := TX0) (N := 16) hx hb hts inX0 tyX0 tyX0_ok nmX0 hown hK hP hD hS 0 rfl rfl 7 (by decide) (hts _ mw_319) (fun _ h9 => h9) rfl (by decide +kernel) rfl rfl (Nat.le_of_ble_eq_true rfl) dX0_cookOver_96 (fun H locs hP hD hS => ?_)
      obtain ⟨hP, hD⟩ := va_bo [(h, .inr (0, [.int b0, .ref ro, .int b2, .int b3, .long b4, .int 1, .int b6, .int (((((b2 : Int32).toInt64 * (b8 : Int32).toInt64) / 1000) : Int64).toInt32), .int b8, .int b9, .int (nI (min tk dn)), .int b11, .int b12, .int b13, .int b14, .int b15])), (ro, .inr (7, [.ref ra, .ref rs, .int (nI dn), .int sv])), (ra, .inl (ca 0, 60, .inl FB)), (rs, .inl (ca 1, 60, .inl SB)), (hu, .inr (8, [.ref f0, .ref f1, .int (nI rn), .int gl, .int gh, .ref f5, .ref f6])), (f0, .inl (ca 0, 16, .inl fd)), (f1, .inl (ca 0, 16, .inl lt))] hP hD
      refine lv_aload_n hx hb dX0_cookOver_99 rfl (lv_at hl 2 rfl) ?_
      refine lv_dup hx hb dX0_cookOver_100 rfl ?_
      refine va_get (D := (dC, dI)) (ci := 0) (v := .int b2) (C := RX0) (T := TX0) (N := 16) hx hb hts inX0 hown hK hP 0 rfl rfl 2 (by decide) (hts _ mw_309) (fun _ h9 => h9) rfl dX0_cookOver_101 ?_
      refine lv_aload_n hx hb dX0_cookOver_104 rfl (lv_at hl 2 rfl) ?_
      refine va_get (D := (dC, dI)) (ci := 0) (v := .int (((((b2 : Int32).toInt64 * (b8 : Int32).toInt64) / 1000) : Int64).toInt32)) (C := RX0) (T := TX0) (N := 16) hx hb hts inX0 hown hK hP 0 rfl rfl 7 (by decide) (hts _ mw_319) (fun _ h9 => h9) rfl dX0_cookOver_105 ?_
      refine lv_isub hx hb dX0_cookOver_108 ?_
      refine va_put (D := (dC, dI)) (ci := 0) (v := .int (b2 - ((((b2 : Int32).toInt64 * (b8 : Int32).toInt64) / 1000) : Int64).toInt32)) (ty := .int) (C := RX0) (T := TX0) (N := 16) hx hb hts inX0 tyX0 tyX0_ok nmX0 hown hK hP hD hS 0 rfl rfl 2 (by decide) (hts _ mw_309) (fun _ h9 => h9) rfl (by decide +kernel) rfl rfl (Nat.le_of_ble_eq_true rfl) dX0_cookOver_109 (fun H locs hP hD hS => ?_)
      obtain ⟨hP, hD⟩ := va_bo [(h, .inr (0, [.int b0, .ref ro, .int (b2 - ((((b2 : Int32).toInt64 * (b8 : Int32).toInt64) / 1000) : Int64).toInt32), .int b3, .long b4, .int 1, .int b6, .int (((((b2 : Int32).toInt64 * (b8 : Int32).toInt64) / 1000) : Int64).toInt32), .int b8, .int b9, .int (nI (min tk dn)), .int b11, .int b12, .int b13, .int b14, .int b15])), (ro, .inr (7, [.ref ra, .ref rs, .int (nI dn), .int sv])), (ra, .inl (ca 0, 60, .inl FB)), (rs, .inl (ca 1, 60, .inl SB)), (hu, .inr (8, [.ref f0, .ref f1, .int (nI rn), .int gl, .int gh, .ref f5, .ref f6])), (f0, .inl (ca 0, 16, .inl fd)), (f1, .inl (ca 0, 16, .inl lt))] hP hD
      refine W.widen (k := 0) (n := 0) (Nat.le_of_ble_eq_true rfl) (Nat.le_of_ble_eq_true rfl) ?_
      have hP9 : va_P (dC, dI) vwCl [(h, .inr (0, [.int b0, .ref ro, .int (b2 - ckl b2 b8), .int b3, .long b4, .int 1, .int b6, .int (ckl b2 b8), .int b8, .int b9, .int (nI (min tk dn)), .int b11, .int b12, .int b13, .int b14, .int b15])), (ro, .inr (7, [.ref ra, .ref rs, .int (nI dn), .int sv])), (ra, .inl (ca 0, 60, .inl FB)), (rs, .inl (ca 1, 60, .inl SB)), (hu, .inr (8, [.ref f0, .ref f1, .int (nI rn), .int gl, .int gh, .ref f5, .ref f6])), (f0, .inl (ca 0, 16, .inl fd)), (f1, .inl (ca 0, 16, .inl lt))] H := va_P.sub hP [0, 1, 2, 3, 4, 5, 6] rfl
      have hD9 : va_D A [(h, .inr (0, [.int b0, .ref ro, .int (b2 - ckl b2 b8), .int b3, .long b4, .int 1, .int b6, .int (ckl b2 b8), .int b8, .int b9, .int (nI (min tk dn)), .int b11, .int b12, .int b13, .int b14, .int b15])), (ro, .inr (7, [.ref ra, .ref rs, .int (nI dn), .int sv])), (ra, .inl (ca 0, 60, .inl FB)), (rs, .inl (ca 1, 60, .inl SB)), (hu, .inr (8, [.ref f0, .ref f1, .int (nI rn), .int gl, .int gh, .ref f5, .ref f6])), (f0, .inl (ca 0, 16, .inl fd)), (f1, .inl (ca 0, 16, .inl lt))] := va_D.sub hD [0, 1, 2, 3, 4, 5, 6] (by decide) rfl
      exact W.vret hx hb hr (fun t ht hW => ⟨⟨((nI (min tk dn)), b9, b8, b11), rfl, (ckOk_no c_8 (by first | rw [if_pos (by omega), Nat.min_eq_right (by omega)] | rw [if_neg (by omega)])), by rw [ht]; dsimp only; exact hP9, by dsimp only; exact hD9⟩, hS.F ht⟩) hS.2.2 dX0_cookOver_112
    · obtain ⟨q, hq, eq⟩ := ckT_in (show ¬ ckT (nI dn) FB (min tk dn) = -1 from c_8)
      have eq2 : ftG (nuF (nI dn) FB) (dgF (nI dn) FB) (min tk dn) 0 (-1) 0 = nI q := eq
      rw [eq2] at hl
      refine lv_aload_n hx hb dX0_cookOver_40 rfl (lv_at hl 2 rfl) ?_
      refine lv_aload_n hx hb dX0_cookOver_41 rfl (lv_at hl 2 rfl) ?_
      refine va_get (D := (dC, dI)) (ci := 0) (v := .ref ro) (C := RX0) (T := TX0) (N := 16) hx hb hts inX0 hown hK hP 0 rfl rfl 1 (by decide) (hts _ mw_307) (fun _ h9 => h9) rfl dX0_cookOver_42 ?_
      refine lv_iload hx hb dX0_cookOver_45 (lv_at hl 0 rfl) ?_
      have hPc := hP.sub (ws' := [(ro, .inr (7, [.ref ra, .ref rs, .int (nI dn), .int sv])), (ra, .inl (ca 0, 60, .inl FB))]) [1, 2] rfl
      refine pc_i (va_runV (As := [.int (nI q)]) (rest := [.ref h]) ⟨hx, hb, hml, hown, hts⟩ (r_degreeAt l dC dI ca ro ra rs (nI dn) sv FB (nI q) (by first | assumption | omega | exact ⟨_, by omega, rfl⟩)) (⟨callB_of 1 hts (gd mw_458) rfl rfl rfl (hts _ mw_11) (hts _ mw_455) ds_X7_degreeAt ⟨Nat.le_of_ble_eq_true rfl, Nat.le_of_ble_eq_true rfl⟩, (hts _ mw_456), (hts _ mw_457)⟩) (pu_V hPc hK hE (va_recv hK hPc (ci := 7) (q0 := 0) rfl rfl)) rfl rfl hl.1 rfl (lv_room (Nat.le_of_ble_eq_true rfl)) dX0_cookOver_47 ⟨Nat.le_of_ble_eq_true rfl, Nat.le_of_ble_eq_true rfl⟩) (fun rv_9 hw_ => ?_)
      obtain rfl : rv_9 = (dgA (nI dn) FB (nI q)) := hw_
      refine va_put (D := (dC, dI)) (ci := 0) (v := .int (dgA (nI dn) FB (nI q))) (ty := .int) (C := RX0) (T := TX0) (N := 16) hx hb hts inX0 tyX0 tyX0_ok nmX0 hown hK hP hD hS 0 rfl rfl 9 (by decide) (hts _ mw_321) (fun _ h9 => h9) rfl (by decide +kernel) rfl rfl (Nat.le_of_ble_eq_true rfl) dX0_cookOver_50 (fun H locs hP hD hS => ?_)
      obtain ⟨hP, hD⟩ := va_bo [(h, .inr (0, [.int b0, .ref ro, .int b2, .int b3, .long b4, .int 1, .int b6, .int b7, .int b8, .int (dgA (nI dn) FB (nI q)), .int (nI (min tk dn)), .int b11, .int b12, .int b13, .int b14, .int b15])), (ro, .inr (7, [.ref ra, .ref rs, .int (nI dn), .int sv])), (ra, .inl (ca 0, 60, .inl FB)), (rs, .inl (ca 1, 60, .inl SB)), (hu, .inr (8, [.ref f0, .ref f1, .int (nI rn), .int gl, .int gh, .ref f5, .ref f6])), (f0, .inl (ca 0, 16, .inl fd)), (f1, .inl (ca 0, 16, .inl lt))] hP hD
      refine lv_aload_n hx hb dX0_cookOver_53 rfl (lv_at hl 2 rfl) ?_
      refine lv_aload_n hx hb dX0_cookOver_54 rfl (lv_at hl 4 rfl) ?_
      refine lv_aload_n hx hb dX0_cookOver_55 rfl (lv_at hl 2 rfl) ?_
      refine va_get (D := (dC, dI)) (ci := 0) (v := .int (dgA (nI dn) FB (nI q))) (C := RX0) (T := TX0) (N := 16) hx hb hts inX0 hown hK hP 0 rfl rfl 9 (by decide) (hts _ mw_321) (fun _ h9 => h9) rfl dX0_cookOver_56 ?_
      have hPc := hP.sub (ws' := [(hu, .inr (8, [.ref f0, .ref f1, .int (nI rn), .int gl, .int gh, .ref f5, .ref f6])), (f0, .inl (ca 0, 16, .inl fd)), (f1, .inl (ca 0, 16, .inl lt))]) [4, 5, 6] rfl
      refine pc_i (va_runV (As := [.int (dgA (nI dn) FB (nI q))]) (rest := [.ref h]) ⟨hx, hb, hml, hown, hts⟩ (u_lossAt l dC dI ca hu f0 f1 f5 f6 rn gl gh fd lt (dgA (nI dn) FB (nI q)) (by first | assumption | omega | exact ⟨_, by omega, rfl⟩)) (⟨callB_of 1 hts (gd mw_470) rfl rfl rfl (hts _ mw_2) (hts _ mw_467) ds_X8_lossAt ⟨Nat.le_of_ble_eq_true rfl, Nat.le_of_ble_eq_true rfl⟩, (hts _ mw_468), (hts _ mw_469)⟩) (pu_V hPc hK hE (va_recv hK hPc (ci := 8) (q0 := 0) rfl rfl)) rfl rfl hl.1 rfl (lv_room (Nat.le_of_ble_eq_true rfl)) dX0_cookOver_59 ⟨Nat.le_of_ble_eq_true rfl, Nat.le_of_ble_eq_true rfl⟩) (fun rv_10 hw_ => ?_)
      obtain rfl : rv_10 = (lsG fd lt (dgA (nI dn) FB (nI q)) rn 0 0) := hw_
      refine va_put (D := (dC, dI)) (ci := 0) (v := .int (lsG fd lt (dgA (nI dn) FB (nI q)) rn 0 0)) (ty := .int) (C := RX0) (T := TX0) (N := 16) hx hb hts inX0 tyX0 tyX0_ok nmX0 hown hK hP hD hS 0 rfl rfl 8 (by decide) (hts _ mw_320) (fun _ h9 => h9) rfl (by decide +kernel) rfl rfl (Nat.le_of_ble_eq_true rfl) dX0_cookOver_62 (fun H locs hP hD hS => ?_)
      obtain ⟨hP, hD⟩ := va_bo [(h, .inr (0, [.int b0, .ref ro, .int b2, .int b3, .long b4, .int 1, .int b6, .int b7, .int (lsG fd lt (dgA (nI dn) FB (nI q)) rn 0 0), .int (dgA (nI dn) FB (nI q)), .int (nI (min tk dn)), .int b11, .int b12, .int b13, .int b14, .int b15])), (ro, .inr (7, [.ref ra, .ref rs, .int (nI dn), .int sv])), (ra, .inl (ca 0, 60, .inl FB)), (rs, .inl (ca 1, 60, .inl SB)), (hu, .inr (8, [.ref f0, .ref f1, .int (nI rn), .int gl, .int gh, .ref f5, .ref f6])), (f0, .inl (ca 0, 16, .inl fd)), (f1, .inl (ca 0, 16, .inl lt))] hP hD
      refine lv_aload_n hx hb dX0_cookOver_65 rfl (lv_at hl 2 rfl) ?_
      refine lv_aload_n hx hb dX0_cookOver_66 rfl (lv_at hl 2 rfl) ?_
      refine lv_iload hx hb dX0_cookOver_67 (lv_at hl 0 rfl) ?_
      refine lv_iconst (v := 1) hx hb dX0_cookOver_69 (by decide) ?_
      refine lv_iadd hx hb dX0_cookOver_70 ?_
      refine lv_topi (fun y_ e_ => ?_)
      obtain rfl : y_ = (nI (q + 1)) := e_.trans (nI_add (q) (1))
      refine lv_iload_n hx hb dX0_cookOver_71 rfl (lv_at hl 1 rfl) ?_
      refine lv_aload_n hx hb dX0_cookOver_72 rfl (lv_at hl 4 rfl) ?_
      have hPc := hP.sub (ws' := [(h, .inr (0, [.int b0, .ref ro, .int b2, .int b3, .long b4, .int 1, .int b6, .int b7, .int (lsG fd lt (dgA (nI dn) FB (nI q)) rn 0 0), .int (dgA (nI dn) FB (nI q)), .int (nI (min tk dn)), .int b11, .int b12, .int b13, .int b14, .int b15])), (ro, .inr (7, [.ref ra, .ref rs, .int (nI dn), .int sv])), (ra, .inl (ca 0, 60, .inl FB)), (rs, .inl (ca 1, 60, .inl SB)), (hu, .inr (8, [.ref f0, .ref f1, .int (nI rn), .int gl, .int gh, .ref f5, .ref f6]))]) [0, 1, 2, 3, 4] rfl
      refine pc_i (va_runV (As := [.int (nI (q + 1)), .int (nI (min tk dn)), .ref hu]) (rest := [.ref h]) ⟨hx, hb, hml, hown, hts⟩ (b_findGrained l dC dI ca h b0 b2 b3 b4 1 b6 b7 (lsG fd lt (dgA (nI dn) FB (nI q)) rn 0 0) (dgA (nI dn) FB (nI q)) (nI (min tk dn)) b11 b12 b13 b14 b15 ro ra rs (nI dn) sv FB SB hu f0 f1 f5 f6 rn gl gh (q + 1) (min tk dn) (by first | assumption | omega | exact ⟨_, by omega, rfl⟩) (by first | assumption | omega | exact ⟨_, by omega, rfl⟩) (by first | assumption | omega | exact ⟨_, by omega, rfl⟩) (by first | assumption | omega | exact ⟨_, by omega, rfl⟩)) (⟨callB_of 3 hts (gd mw_474) rfl rfl rfl (hts _ mw_10) (hts _ mw_471) ds_X0_findGrained ⟨Nat.le_of_ble_eq_true rfl, Nat.le_of_ble_eq_true rfl⟩, (hts _ mw_473), (hts _ mp_4)⟩) (pu_V hPc hK hE (va_recv hK hPc (ci := 0) (q0 := 0) rfl rfl)) rfl rfl hl.1 rfl (lv_room (Nat.le_of_ble_eq_true rfl)) dX0_cookOver_73 ⟨Nat.le_of_ble_eq_true rfl, Nat.le_of_ble_eq_true rfl⟩) (fun rv_11 hw_ => ?_)
      obtain rfl : rv_11 = (fgG (yesF (nI dn) FB sv SB gl gh) ((min tk dn) - (q + 1)) (q + 1)) := hw_
      refine va_put (D := (dC, dI)) (ci := 0) (v := .int (fgG (yesF (nI dn) FB sv SB gl gh) ((min tk dn) - (q + 1)) (q + 1))) (ty := .int) (C := RX0) (T := TX0) (N := 16) hx hb hts inX0 tyX0 tyX0_ok nmX0 hown hK hP hD hS 0 rfl rfl 11 (by decide) (hts _ mw_323) (fun _ h9 => h9) rfl (by decide +kernel) rfl rfl (Nat.le_of_ble_eq_true rfl) dX0_cookOver_76 (fun H locs hP hD hS => ?_)
      obtain ⟨hP, hD⟩ := va_bo [(h, .inr (0, [.int b0, .ref ro, .int b2, .int b3, .long b4, .int 1, .int b6, .int b7, .int (lsG fd lt (dgA (nI dn) FB (nI q)) rn 0 0), .int (dgA (nI dn) FB (nI q)), .int (nI (min tk dn)), .int (fgG (yesF (nI dn) FB sv SB gl gh) ((min tk dn) - (q + 1)) (q + 1)), .int b12, .int b13, .int b14, .int b15])), (ro, .inr (7, [.ref ra, .ref rs, .int (nI dn), .int sv])), (ra, .inl (ca 0, 60, .inl FB)), (rs, .inl (ca 1, 60, .inl SB)), (hu, .inr (8, [.ref f0, .ref f1, .int (nI rn), .int gl, .int gh, .ref f5, .ref f6])), (f0, .inl (ca 0, 16, .inl fd)), (f1, .inl (ca 0, 16, .inl lt))] hP hD
      refine lv_aload_n hx hb dX0_cookOver_79 rfl (lv_at hl 2 rfl) ?_
      refine lv_aload_n hx hb dX0_cookOver_80 rfl (lv_at hl 2 rfl) ?_
      refine va_get (D := (dC, dI)) (ci := 0) (v := .int b2) (C := RX0) (T := TX0) (N := 16) hx hb hts inX0 hown hK hP 0 rfl rfl 2 (by decide) (hts _ mw_309) (fun _ h9 => h9) rfl dX0_cookOver_81 ?_
      refine lv_i2l (v := (b2 : Int32).toInt64) hx hb dX0_cookOver_84 rfl ?_
      refine lv_aload_n hx hb dX0_cookOver_85 rfl (lv_at hl 2 rfl) ?_
      refine va_get (D := (dC, dI)) (ci := 0) (v := .int (lsG fd lt (dgA (nI dn) FB (nI q)) rn 0 0)) (C := RX0) (T := TX0) (N := 16) hx hb hts inX0 hown hK hP 0 rfl rfl 8 (by decide) (hts _ mw_320) (fun _ h9 => h9) rfl dX0_cookOver_86 ?_
      refine lv_i2l (v := ((lsG fd lt (dgA (nI dn) FB (nI q)) rn 0 0) : Int32).toInt64) hx hb dX0_cookOver_89 rfl ?_
      refine lv_lmul hx hb dX0_cookOver_90 ?_
      refine lv_ldc2 (v := 1000) hx hb hown (hts _ mw_484) dX0_cookOver_91 ?_
      refine lv_ldiv hx hb dX0_cookOver_94 (by decide) ?_
      refine lv_l2i (v := ((((b2 : Int32).toInt64 * ((lsG fd lt (dgA (nI dn) FB (nI q)) rn 0 0) : Int32).toInt64) / 1000) : Int64).toInt32) hx hb dX0_cookOver_95 rfl ?_
      refine va_put (D := (dC, dI)) (ci := 0) (v := .int (((((b2 : Int32).toInt64 * ((lsG fd lt (dgA (nI dn) FB (nI q)) rn 0 0) : Int32).toInt64) / 1000) : Int64).toInt32)) (ty := .int) (C := RX0) (T := TX0) (N := 16) hx hb hts inX0 tyX0 tyX0_ok nmX0 hown hK hP hD hS 0 rfl rfl 7 (by decide) (hts _ mw_319) (fun _ h9 => h9) rfl (by decide +kernel) rfl rfl (Nat.le_of_ble_eq_true rfl) dX0_cookOver_96 (fun H locs hP hD hS => ?_)
      obtain ⟨hP, hD⟩ := va_bo [(h, .inr (0, [.int b0, .ref ro, .int b2, .int b3, .long b4, .int 1, .int b6, .int (((((b2 : Int32).toInt64 * ((lsG fd lt (dgA (nI dn) FB (nI q)) rn 0 0) : Int32).toInt64) / 1000) : Int64).toInt32), .int (lsG fd lt (dgA (nI dn) FB (nI q)) rn 0 0), .int (dgA (nI dn) FB (nI q)), .int (nI (min tk dn)), .int (fgG (yesF (nI dn) FB sv SB gl gh) ((min tk dn) - (q + 1)) (q + 1)), .int b12, .int b13, .int b14, .int b15])), (ro, .inr (7, [.ref ra, .ref rs, .int (nI dn), .int sv])), (ra, .inl (ca 0, 60, .inl FB)), (rs, .inl (ca 1, 60, .inl SB)), (hu, .inr (8, [.ref f0, .ref f1, .int (nI rn), .int gl, .int gh, .ref f5, .ref f6])), (f0, .inl (ca 0, 16, .inl fd)), (f1, .inl (ca 0, 16, .inl lt))] hP hD
      refine lv_aload_n hx hb dX0_cookOver_99 rfl (lv_at hl 2 rfl) ?_
      refine lv_dup hx hb dX0_cookOver_100 rfl ?_
      refine va_get (D := (dC, dI)) (ci := 0) (v := .int b2) (C := RX0) (T := TX0) (N := 16) hx hb hts inX0 hown hK hP 0 rfl rfl 2 (by decide) (hts _ mw_309) (fun _ h9 => h9) rfl dX0_cookOver_101 ?_
      refine lv_aload_n hx hb dX0_cookOver_104 rfl (lv_at hl 2 rfl) ?_
      refine va_get (D := (dC, dI)) (ci := 0) (v := .int (((((b2 : Int32).toInt64 * ((lsG fd lt (dgA (nI dn) FB (nI q)) rn 0 0) : Int32).toInt64) / 1000) : Int64).toInt32)) (C := RX0) (T := TX0) (N := 16) hx hb hts inX0 hown hK hP 0 rfl rfl 7 (by decide) (hts _ mw_319) (fun _ h9 => h9) rfl dX0_cookOver_105 ?_
      refine lv_isub hx hb dX0_cookOver_108 ?_
      refine va_put (D := (dC, dI)) (ci := 0) (v := .int (b2 - ((((b2 : Int32).toInt64 * ((lsG fd lt (dgA (nI dn) FB (nI q)) rn 0 0) : Int32).toInt64) / 1000) : Int64).toInt32)) (ty := .int) (C := RX0) (T := TX0) (N := 16) hx hb hts inX0 tyX0 tyX0_ok nmX0 hown hK hP hD hS 0 rfl rfl 2 (by decide) (hts _ mw_309) (fun _ h9 => h9) rfl (by decide +kernel) rfl rfl (Nat.le_of_ble_eq_true rfl) dX0_cookOver_109 (fun H locs hP hD hS => ?_)
      obtain ⟨hP, hD⟩ := va_bo [(h, .inr (0, [.int b0, .ref ro, .int (b2 - ((((b2 : Int32).toInt64 * ((lsG fd lt (dgA (nI dn) FB (nI q)) rn 0 0) : Int32).toInt64) / 1000) : Int64).toInt32), .int b3, .long b4, .int 1, .int b6, .int (((((b2 : Int32).toInt64 * ((lsG fd lt (dgA (nI dn) FB (nI q)) rn 0 0) : Int32).toInt64) / 1000) : Int64).toInt32), .int (lsG fd lt (dgA (nI dn) FB (nI q)) rn 0 0), .int (dgA (nI dn) FB (nI q)), .int (nI (min tk dn)), .int (fgG (yesF (nI dn) FB sv SB gl gh) ((min tk dn) - (q + 1)) (q + 1)), .int b12, .int b13, .int b14, .int b15])), (ro, .inr (7, [.ref ra, .ref rs, .int (nI dn), .int sv])), (ra, .inl (ca 0, 60, .inl FB)), (rs, .inl (ca 1, 60, .inl SB)), (hu, .inr (8, [.ref f0, .ref f1, .int (nI rn), .int gl, .int gh, .ref f5, .ref f6])), (f0, .inl (ca 0, 16, .inl fd)), (f1, .inl (ca 0, 16, .inl lt))] hP hD
      refine W.widen (k := 0) (n := 0) (Nat.le_of_ble_eq_true rfl) (Nat.le_of_ble_eq_true rfl) ?_
      have hP9 : va_P (dC, dI) vwCl [(h, .inr (0, [.int b0, .ref ro, .int (b2 - ckl b2 (lsG fd lt (dgA (nI dn) FB (nI q)) rn 0 0)), .int b3, .long b4, .int 1, .int b6, .int (ckl b2 (lsG fd lt (dgA (nI dn) FB (nI q)) rn 0 0)), .int (lsG fd lt (dgA (nI dn) FB (nI q)) rn 0 0), .int (dgA (nI dn) FB (nI q)), .int (nI (min tk dn)), .int (fgG (yesF (nI dn) FB sv SB gl gh) ((min tk dn) - (q + 1)) (q + 1)), .int b12, .int b13, .int b14, .int b15])), (ro, .inr (7, [.ref ra, .ref rs, .int (nI dn), .int sv])), (ra, .inl (ca 0, 60, .inl FB)), (rs, .inl (ca 1, 60, .inl SB)), (hu, .inr (8, [.ref f0, .ref f1, .int (nI rn), .int gl, .int gh, .ref f5, .ref f6])), (f0, .inl (ca 0, 16, .inl fd)), (f1, .inl (ca 0, 16, .inl lt))] H := va_P.sub hP [0, 1, 2, 3, 4, 5, 6] rfl
      have hD9 : va_D A [(h, .inr (0, [.int b0, .ref ro, .int (b2 - ckl b2 (lsG fd lt (dgA (nI dn) FB (nI q)) rn 0 0)), .int b3, .long b4, .int 1, .int b6, .int (ckl b2 (lsG fd lt (dgA (nI dn) FB (nI q)) rn 0 0)), .int (lsG fd lt (dgA (nI dn) FB (nI q)) rn 0 0), .int (dgA (nI dn) FB (nI q)), .int (nI (min tk dn)), .int (fgG (yesF (nI dn) FB sv SB gl gh) ((min tk dn) - (q + 1)) (q + 1)), .int b12, .int b13, .int b14, .int b15])), (ro, .inr (7, [.ref ra, .ref rs, .int (nI dn), .int sv])), (ra, .inl (ca 0, 60, .inl FB)), (rs, .inl (ca 1, 60, .inl SB)), (hu, .inr (8, [.ref f0, .ref f1, .int (nI rn), .int gl, .int gh, .ref f5, .ref f6])), (f0, .inl (ca 0, 16, .inl fd)), (f1, .inl (ca 0, 16, .inl lt))] := va_D.sub hD [0, 1, 2, 3, 4, 5, 6] (by decide) rfl
      exact W.vret hx hb hr (fun t ht hW => ⟨⟨((nI (min tk dn)), (dgA (nI dn) FB (nI q)), (lsG fd lt (dgA (nI dn) FB (nI q)) rn 0 0), (fgG (yesF (nI dn) FB sv SB gl gh) ((min tk dn) - (q + 1)) (q + 1))), rfl, (ckOk_yes (by omega) eq (by first | rw [if_pos (by omega), Nat.min_eq_right (by omega)] | rw [if_neg (by omega)])), by rw [ht]; dsimp only; exact hP9, by dsimp only; exact hD9⟩, hS.F ht⟩) hS.2.2 dX0_cookOver_112
