set_option maxHeartbeats 4000000 in
set_option maxRecDepth 100000 in
theorem c_X8_init (l : Launch) (dC : Nat → ClassId) (dI : Nat → Nat → Nat) (sz : Nat) (h0 : Nat) : Met l yX8_init (Cond.code yX8_init cX8_init 1 none :: gT) ({ frames := 2, cells := 4, slots := 44, locals := 83 }) (va_Pc [.ref h0] (pr (dC, dI) sz [(h0, .inr (8, [.null, .null, .int 0, .int 0, .int 0, .null, .null]))] [])) (va_Qv (fun _ : Unit => True) (fun _ t => ∃ (q1 q2 q3 q4 : Nat) (y1 y2 y3 y4 : ClassId), va_P (dC, dI) vwCl [(h0, .inr (8, [.ref q1, .ref q2, .int 0, .int 0, .int (-1), .ref q3, .ref q4])), (q1, .inl (y1, 16, .inl (fun _ => 0))), (q2, .inl (y2, 16, .inl (fun _ => 0))), (q3, .inl (y3, 6, .inl (fun _ => 0))), (q4, .inl (y4, 6, .inl (fun _ => 900)))] t.heap ∧ va_K (dC, dI) vwCl [(y1, .int), (y2, .int), (y3, .int), (y4, .int)] t ∧ va_D (va_A [(h0, .inr (8, [.null, .null, .int 0, .int 0, .int 0, .null, .null]))] sz) [(h0, .inr (8, [.ref q1, .ref q2, .int 0, .int 0, .int (-1), .ref q3, .ref q4])), (q1, .inl (y1, 16, .inl (fun _ => 0))), (q2, .inl (y2, 16, .inl (fun _ => 0))), (q3, .inl (y3, 6, .inl (fun _ => 0))), (q4, .inl (y4, 6, .inl (fun _ => 900)))]) (va_A [(h0, .inr (8, [.null, .null, .int 0, .int 0, .int 0, .null, .null]))] sz)) 4 44 (va_A [(h0, .inr (8, [.null, .null, .int 0, .int 0, .int 0, .null, .null]))] sz) := by
  refine Met.ofW (cc := cX8_init) (maxL := 1) (ret := none) (by decide) rfl ?_
  intro p e s m args below meth c s₁ B hml hv
  obtain ⟨rfl, hsz, hP, hK, hD0, hE⟩ := hv
  have hx := B.exec
  have hb := B.bytes
  have hr := B.returns
  have hts : ∀ w ∈ gT, w.before _ s = true := fun w h => atoms_spec (ws := Cond.code yX8_init cX8_init 1 none :: gT) B.pre w (List.mem_cons_of_mem _ h)
  have hown : s.vm.findClass RX8 = some m.cls := findClass_of_methodNamed B.named
  have hlocks := B.notSynchronized
  have hin : meth.name = "<init>" := (name_of_methodNamed B.named B.method).1
  subst hsz
  have hD := hD0.self (sz := s.heap.size)
  generalize hAe : va_A [(h0, .inr (8, [.null, .null, .int 0, .int 0, .int 0, .null, .null]))] s.heap.size = A at hD ⊢
  have hA : ∀ q : Nat, s.heap.size ≤ q → A q := fun q h => by rw [← hAe]; exact Or.inr h
  have hS : va_S A s.heap s.heap [] := va_S.rf
  have hl := lv_entry ([.ref h0]) (n := 1) (Nat.le_of_ble_eq_true rfl)
  rw [lg_entry_eq]
  generalize (lg_sl ([.ref h0]) ++ List.replicate (1 - (lg_sl ([.ref h0])).length) Slot.unset).toArray = ls at hl ⊢
  have hl : lv_has ls 1 [(0, .ref h0)] := hl
  refine lv_aload_n hx hb dX8_init_0 rfl (lv_at hl 0 rfl) ?_
  refine W.objInit hx hb hown (hts _ mw_39) (hts _ mw_24) (hts _ mw_25) rfl (by rw [hml]; exact hl.1) rfl dX8_init_1 (Nat.le_of_ble_eq_true rfl) (Nat.le_of_ble_eq_true rfl) ?_
  refine W.eq (g2 := F0 m 4 ls []) rfl ?_
  refine lv_aload_n hx hb dX8_init_4 rfl (lv_at hl 0 rfl) ?_
  refine lv_bipush (v := 16) hx hb dX8_init_5 (by decide) ?_
  refine va_newa (atype := .int) (ty := .int) (a0 := (16, .inl (fun _ => 0))) hx hb (hts _ mw_72) rfl hK hP hD hS hA (fun _ => rfl) (by decide) (by decide +kernel) (by decide) (Nat.le_of_ble_eq_true rfl) (Nat.le_of_ble_eq_true rfl) dX8_init_7 (fun q1 y1 H hK hP hD hS => ?_)
  refine W.widen (k := 1) (n := 16) (Nat.le_of_ble_eq_true rfl) (Nat.le_of_ble_eq_true rfl) ?_
  have hP : va_P (dC, dI) vwCl [(h0, .inr (8, [.null, .null, .int 0, .int 0, .int 0, .null, .null])), (q1, .inl (y1, 16, .inl (fun _ => 0)))] H := hP
  have hD : va_D A [(h0, .inr (8, [.null, .null, .int 0, .int 0, .int 0, .null, .null])), (q1, .inl (y1, 16, .inl (fun _ => 0)))] := hD
  have hK : va_K (dC, dI) vwCl [(y1, .int)] s := hK
  refine va_putF (D := (dC, dI)) (ci := 8) (v := .ref q1) (ty := .array .int) (C := RX8) (T := TX8) (N := 7) hx hb hts inX8 tyX8 tyX8_ok nmX8 hown hK hP hD hS 0 rfl rfl 0 (by decide) (hts _ mw_43) (fun _ h9 => h9) rfl hin rfl (by decide +kernel) rfl rfl (Nat.le_of_ble_eq_true rfl) dX8_init_9 (fun H locs hP hD hS => ?_)
  have hP : va_P (dC, dI) vwCl [(h0, .inr (8, [.ref q1, .null, .int 0, .int 0, .int 0, .null, .null])), (q1, .inl (y1, 16, .inl (fun _ => 0)))] H := hP
  have hD : va_D A [(h0, .inr (8, [.ref q1, .null, .int 0, .int 0, .int 0, .null, .null])), (q1, .inl (y1, 16, .inl (fun _ => 0)))] := hD
  refine lv_aload_n hx hb dX8_init_12 rfl (lv_at hl 0 rfl) ?_
  refine lv_bipush (v := 16) hx hb dX8_init_13 (by decide) ?_
  refine va_newa (atype := .int) (ty := .int) (a0 := (16, .inl (fun _ => 0))) hx hb (hts _ mw_72) rfl hK hP hD hS hA (fun _ => rfl) (by decide) (by decide +kernel) (by decide) (Nat.le_of_ble_eq_true rfl) (Nat.le_of_ble_eq_true rfl) dX8_init_15 (fun q2 y2 H hK hP hD hS => ?_)
  refine W.widen (k := 2) (n := 32) (Nat.le_of_ble_eq_true rfl) (Nat.le_of_ble_eq_true rfl) ?_
  have hP : va_P (dC, dI) vwCl [(h0, .inr (8, [.ref q1, .null, .int 0, .int 0, .int 0, .null, .null])), (q1, .inl (y1, 16, .inl (fun _ => 0))), (q2, .inl (y2, 16, .inl (fun _ => 0)))] H := hP
  have hD : va_D A [(h0, .inr (8, [.ref q1, .null, .int 0, .int 0, .int 0, .null, .null])), (q1, .inl (y1, 16, .inl (fun _ => 0))), (q2, .inl (y2, 16, .inl (fun _ => 0)))] := hD
  have hK : va_K (dC, dI) vwCl [(y1, .int), (y2, .int)] s := hK
  refine va_putF (D := (dC, dI)) (ci := 8) (v := .ref q2) (ty := .array .int) (C := RX8) (T := TX8) (N := 7) hx hb hts inX8 tyX8 tyX8_ok nmX8 hown hK hP hD hS 0 rfl rfl 1 (by decide) (hts _ mw_44) (fun _ h9 => h9) rfl hin rfl (by decide +kernel) rfl rfl (Nat.le_of_ble_eq_true rfl) dX8_init_17 (fun H locs hP hD hS => ?_)
  have hP : va_P (dC, dI) vwCl [(h0, .inr (8, [.ref q1, .ref q2, .int 0, .int 0, .int 0, .null, .null])), (q1, .inl (y1, 16, .inl (fun _ => 0))), (q2, .inl (y2, 16, .inl (fun _ => 0)))] H := hP
  have hD : va_D A [(h0, .inr (8, [.ref q1, .ref q2, .int 0, .int 0, .int 0, .null, .null])), (q1, .inl (y1, 16, .inl (fun _ => 0))), (q2, .inl (y2, 16, .inl (fun _ => 0)))] := hD
  refine lv_aload_n hx hb dX8_init_20 rfl (lv_at hl 0 rfl) ?_
  refine lv_iconst (v := 0) hx hb dX8_init_21 (by decide) ?_
  refine va_put (D := (dC, dI)) (ci := 8) (v := .int 0) (ty := .int) (C := RX8) (T := TX8) (N := 7) hx hb hts inX8 tyX8 tyX8_ok nmX8 hown hK hP hD hS 0 rfl rfl 3 (by decide) (hts _ mw_47) (fun _ h9 => h9) rfl (by decide +kernel) rfl rfl (Nat.le_of_ble_eq_true rfl) dX8_init_22 (fun H locs hP hD hS => ?_)
  have hP : va_P (dC, dI) vwCl [(h0, .inr (8, [.ref q1, .ref q2, .int 0, .int 0, .int 0, .null, .null])), (q1, .inl (y1, 16, .inl (fun _ => 0))), (q2, .inl (y2, 16, .inl (fun _ => 0)))] H := hP
  have hD : va_D A [(h0, .inr (8, [.ref q1, .ref q2, .int 0, .int 0, .int 0, .null, .null])), (q1, .inl (y1, 16, .inl (fun _ => 0))), (q2, .inl (y2, 16, .inl (fun _ => 0)))] := hD
  refine lv_aload_n hx hb dX8_init_25 rfl (lv_at hl 0 rfl) ?_
  refine lv_iconst (v := (-1)) hx hb dX8_init_26 (by decide) ?_
  refine va_put (D := (dC, dI)) (ci := 8) (v := .int (-1)) (ty := .int) (C := RX8) (T := TX8) (N := 7) hx hb hts inX8 tyX8 tyX8_ok nmX8 hown hK hP hD hS 0 rfl rfl 4 (by decide) (hts _ mw_49) (fun _ h9 => h9) rfl (by decide +kernel) rfl rfl (Nat.le_of_ble_eq_true rfl) dX8_init_27 (fun H locs hP hD hS => ?_)
  have hP : va_P (dC, dI) vwCl [(h0, .inr (8, [.ref q1, .ref q2, .int 0, .int 0, .int (-1), .null, .null])), (q1, .inl (y1, 16, .inl (fun _ => 0))), (q2, .inl (y2, 16, .inl (fun _ => 0)))] H := hP
  have hD : va_D A [(h0, .inr (8, [.ref q1, .ref q2, .int 0, .int 0, .int (-1), .null, .null])), (q1, .inl (y1, 16, .inl (fun _ => 0))), (q2, .inl (y2, 16, .inl (fun _ => 0)))] := hD
  refine lv_aload_n hx hb dX8_init_30 rfl (lv_at hl 0 rfl) ?_
  refine lv_bipush (v := 6) hx hb dX8_init_31 (by decide) ?_
  refine va_newa (atype := .int) (ty := .int) (a0 := (6, .inl (fun _ => 0))) hx hb (hts _ mw_72) rfl hK hP hD hS hA (fun _ => rfl) (by decide) (by decide +kernel) (by decide) (Nat.le_of_ble_eq_true rfl) (Nat.le_of_ble_eq_true rfl) dX8_init_33 (fun q3 y3 H hK hP hD hS => ?_)
  refine W.widen (k := 3) (n := 38) (Nat.le_of_ble_eq_true rfl) (Nat.le_of_ble_eq_true rfl) ?_
  have hP : va_P (dC, dI) vwCl [(h0, .inr (8, [.ref q1, .ref q2, .int 0, .int 0, .int (-1), .null, .null])), (q1, .inl (y1, 16, .inl (fun _ => 0))), (q2, .inl (y2, 16, .inl (fun _ => 0))), (q3, .inl (y3, 6, .inl (fun _ => 0)))] H := hP
  have hD : va_D A [(h0, .inr (8, [.ref q1, .ref q2, .int 0, .int 0, .int (-1), .null, .null])), (q1, .inl (y1, 16, .inl (fun _ => 0))), (q2, .inl (y2, 16, .inl (fun _ => 0))), (q3, .inl (y3, 6, .inl (fun _ => 0)))] := hD
  have hK : va_K (dC, dI) vwCl [(y1, .int), (y2, .int), (y3, .int)] s := hK
  refine va_putF (D := (dC, dI)) (ci := 8) (v := .ref q3) (ty := .array .int) (C := RX8) (T := TX8) (N := 7) hx hb hts inX8 tyX8 tyX8_ok nmX8 hown hK hP hD hS 0 rfl rfl 5 (by decide) (hts _ mw_51) (fun _ h9 => h9) rfl hin rfl (by decide +kernel) rfl rfl (Nat.le_of_ble_eq_true rfl) dX8_init_35 (fun H locs hP hD hS => ?_)
  have hP : va_P (dC, dI) vwCl [(h0, .inr (8, [.ref q1, .ref q2, .int 0, .int 0, .int (-1), .ref q3, .null])), (q1, .inl (y1, 16, .inl (fun _ => 0))), (q2, .inl (y2, 16, .inl (fun _ => 0))), (q3, .inl (y3, 6, .inl (fun _ => 0)))] H := hP
  have hD : va_D A [(h0, .inr (8, [.ref q1, .ref q2, .int 0, .int 0, .int (-1), .ref q3, .null])), (q1, .inl (y1, 16, .inl (fun _ => 0))), (q2, .inl (y2, 16, .inl (fun _ => 0))), (q3, .inl (y3, 6, .inl (fun _ => 0)))] := hD
  refine lv_aload_n hx hb dX8_init_38 rfl (lv_at hl 0 rfl) ?_
  refine lv_bipush (v := 6) hx hb dX8_init_39 (by decide) ?_
  refine va_newa (atype := .int) (ty := .int) (a0 := (6, .inl (fun _ => 0))) hx hb (hts _ mw_72) rfl hK hP hD hS hA (fun _ => rfl) (by decide) (by decide +kernel) (by decide) (Nat.le_of_ble_eq_true rfl) (Nat.le_of_ble_eq_true rfl) dX8_init_41 (fun q4 y4 H hK hP hD hS => ?_)
  refine W.widen (k := 4) (n := 44) (Nat.le_of_ble_eq_true rfl) (Nat.le_of_ble_eq_true rfl) ?_
  have hP : va_P (dC, dI) vwCl [(h0, .inr (8, [.ref q1, .ref q2, .int 0, .int 0, .int (-1), .ref q3, .null])), (q1, .inl (y1, 16, .inl (fun _ => 0))), (q2, .inl (y2, 16, .inl (fun _ => 0))), (q3, .inl (y3, 6, .inl (fun _ => 0))), (q4, .inl (y4, 6, .inl (fun _ => 0)))] H := hP
  have hD : va_D A [(h0, .inr (8, [.ref q1, .ref q2, .int 0, .int 0, .int (-1), .ref q3, .null])), (q1, .inl (y1, 16, .inl (fun _ => 0))), (q2, .inl (y2, 16, .inl (fun _ => 0))), (q3, .inl (y3, 6, .inl (fun _ => 0))), (q4, .inl (y4, 6, .inl (fun _ => 0)))] := hD
  have hK : va_K (dC, dI) vwCl [(y1, .int), (y2, .int), (y3, .int), (y4, .int)] s := hK
  refine va_putF (D := (dC, dI)) (ci := 8) (v := .ref q4) (ty := .array .int) (C := RX8) (T := TX8) (N := 7) hx hb hts inX8 tyX8 tyX8_ok nmX8 hown hK hP hD hS 0 rfl rfl 6 (by decide) (hts _ mw_54) (fun _ h9 => h9) rfl hin rfl (by decide +kernel) rfl rfl (Nat.le_of_ble_eq_true rfl) dX8_init_43 (fun H locs hP hD hS => ?_)
  have hP : va_P (dC, dI) vwCl [(h0, .inr (8, [.ref q1, .ref q2, .int 0, .int 0, .int (-1), .ref q3, .ref q4])), (q1, .inl (y1, 16, .inl (fun _ => 0))), (q2, .inl (y2, 16, .inl (fun _ => 0))), (q3, .inl (y3, 6, .inl (fun _ => 0))), (q4, .inl (y4, 6, .inl (fun _ => 0)))] H := hP
  have hD : va_D A [(h0, .inr (8, [.ref q1, .ref q2, .int 0, .int 0, .int (-1), .ref q3, .ref q4])), (q1, .inl (y1, 16, .inl (fun _ => 0))), (q2, .inl (y2, 16, .inl (fun _ => 0))), (q3, .inl (y3, 6, .inl (fun _ => 0))), (q4, .inl (y4, 6, .inl (fun _ => 0)))] := hD
  refine lv_aload_n hx hb dX8_init_46 rfl (lv_at hl 0 rfl) ?_
  refine va_get (D := (dC, dI)) (ci := 8) (v := .ref q4) (C := RX8) (T := TX8) (N := 7) hx hb hts inX8 hown hK hP 0 rfl rfl 6 (by decide) (hts _ mw_54) (fun _ h9 => h9) rfl dX8_init_47 ?_
  refine lv_sipush (v := 900) hx hb dX8_init_50 (by decide) ?_
  have hPc := hP.sub (ws' := [(q4, .inl (y4, 6, .inl (fun _ => 0)))]) [4] rfl
  have hKc := hK.sub (tys' := [(y4, .int)]) [3] rfl
  have hDc := hD.sub (ws' := [(q4, .inl (y4, 6, .inl (fun _ => 0)))]) [4] (by decide) rfl
  have hFc := va_free (wc := [(q4, .inl (y4, 6, .inl (fun _ => 0)))]) hD hS hA [4] rfl
  refine va_callv (va_runS (As := [.ref q4, .int 900]) (rest := []) ⟨hx, hb, hml, hown, hts⟩ (c_fill l dC dI H.size q4 y4 6 (fun _ => 0) 900 (by decide)) (⟨callB_of 2 hts (gd mw_42) rfl rfl rfl (hts _ mw_3) (hts _ mw_40) ds_J7_fill_53178 ⟨Nat.le_of_ble_eq_true rfl, Nat.le_of_ble_eq_true rfl⟩, (hts _ mw_41)⟩) (pr_S hPc hKc hDc hE) rfl rfl hl.1 rfl (lv_room (Nat.le_of_ble_eq_true rfl)) dX8_init_53 ⟨Nat.le_of_ble_eq_true rfl, Nat.le_of_ble_eq_true rfl⟩) hS (fun q _ h => hFc q h) hFc (fun u_ t_ H1 locs ht hvm hw_ hB hz1 hk1 hS => ?_)
  obtain ⟨hP1, hK1, hD1⟩ := hB
  rw [ht] at hP1
  have hK1 := va_K.moved hvm.symm hK1
  obtain ⟨hP, hD⟩ := va_join (wr := [(h0, .inr (8, [.ref q1, .ref q2, .int 0, .int 0, .int (-1), .ref q3, .ref q4])), (q1, .inl (y1, 16, .inl (fun _ => 0))), (q2, .inl (y2, 16, .inl (fun _ => 0))), (q3, .inl (y3, 6, .inl (fun _ => 0)))]) (w1 := [(q4, .inl (y4, 6, .inl (fun _ => 900)))]) hP hD [4] [0, 1, 2, 3] rfl rfl (by decide) (by decide) hk1 hFc hP1 hD1
  generalize H1 = H at hP hS ⊢
  have hP : va_P (dC, dI) vwCl [(h0, .inr (8, [.ref q1, .ref q2, .int 0, .int 0, .int (-1), .ref q3, .ref q4])), (q1, .inl (y1, 16, .inl (fun _ => 0))), (q2, .inl (y2, 16, .inl (fun _ => 0))), (q3, .inl (y3, 6, .inl (fun _ => 0))), (q4, .inl (y4, 6, .inl (fun _ => 900)))] H := hP
  have hD : va_D A [(h0, .inr (8, [.ref q1, .ref q2, .int 0, .int 0, .int (-1), .ref q3, .ref q4])), (q1, .inl (y1, 16, .inl (fun _ => 0))), (q2, .inl (y2, 16, .inl (fun _ => 0))), (q3, .inl (y3, 6, .inl (fun _ => 0))), (q4, .inl (y4, 6, .inl (fun _ => 900)))] := hD
  refine W.widen (k := 4) (n := 44) (Nat.le_of_ble_eq_true rfl) (Nat.le_of_ble_eq_true rfl) ?_
  have hP9 := hP.sub (ws' := [(h0, .inr (8, [.ref q1, .ref q2, .int 0, .int 0, .int (-1), .ref q3, .ref q4])), (q1, .inl (y1, 16, .inl (fun _ => 0))), (q2, .inl (y2, 16, .inl (fun _ => 0))), (q3, .inl (y3, 6, .inl (fun _ => 0))), (q4, .inl (y4, 6, .inl (fun _ => 900)))]) [0, 1, 2, 3, 4] rfl
  have hD9 := hD.sub (ws' := [(h0, .inr (8, [.ref q1, .ref q2, .int 0, .int 0, .int (-1), .ref q3, .ref q4])), (q1, .inl (y1, 16, .inl (fun _ => 0))), (q2, .inl (y2, 16, .inl (fun _ => 0))), (q3, .inl (y3, 6, .inl (fun _ => 0))), (q4, .inl (y4, 6, .inl (fun _ => 900)))]) [0, 1, 2, 3, 4] (by decide) rfl
  have hK9 := hK.sub (tys' := [(y1, .int), (y2, .int), (y3, .int), (y4, .int)]) [0, 1, 2, 3] rfl
  exact W.vret hx hb hr (fun t ht hW => ⟨⟨(), rfl, trivial, q1, q2, q3, q4, y1, y2, y3, y4, by rw [ht]; exact hP9, va_K.moved hW.alike hK9, hD9⟩, hS.F ht⟩) hS.2.2 dX8_init_56

set_option maxHeartbeats 4000000 in
set_option maxRecDepth 100000 in
theorem c_X9_init (l : Launch) (dC : Nat → ClassId) (dI : Nat → Nat → Nat) (sz : Nat) (h0 : Nat) : Met l yX9_init (Cond.code yX9_init cX9_init 1 none :: gT) ({ frames := 1, cells := 0, slots := 0, locals := 60 }) (va_Pc [.ref h0] (pr (dC, dI) sz [(h0, .inr (9, [.int 0, .int 0, .int 0, .int 0, .int 0, .int 0]))] [])) (va_Qv (fun _ : Unit => True) (fun _ t => va_P (dC, dI) vwCl [(h0, .inr (9, [.int 450, .int 270, .int 310, .int 320, .int 290, .int 2]))] t.heap ∧ va_K (dC, dI) vwCl [] t ∧ va_D (va_A [(h0, .inr (9, [.int 0, .int 0, .int 0, .int 0, .int 0, .int 0]))] sz) [(h0, .inr (9, [.int 450, .int 270, .int 310, .int 320, .int 290, .int 2]))]) (va_A [(h0, .inr (9, [.int 0, .int 0, .int 0, .int 0, .int 0, .int 0]))] sz)) 0 0 (va_A [(h0, .inr (9, [.int 0, .int 0, .int 0, .int 0, .int 0, .int 0]))] sz) := by
  refine Met.ofW (cc := cX9_init) (maxL := 1) (ret := none) (by decide) rfl ?_
  intro p e s m args below meth c s₁ B hml hv
  obtain ⟨rfl, hsz, hP, hK, hD0, hE⟩ := hv
  have hx := B.exec
  have hb := B.bytes
  have hr := B.returns
  have hts : ∀ w ∈ gT, w.before _ s = true := fun w h => atoms_spec (ws := Cond.code yX9_init cX9_init 1 none :: gT) B.pre w (List.mem_cons_of_mem _ h)
  have hown : s.vm.findClass RX9 = some m.cls := findClass_of_methodNamed B.named
  have hlocks := B.notSynchronized
  have hin : meth.name = "<init>" := (name_of_methodNamed B.named B.method).1
  subst hsz
  have hD := hD0.self (sz := s.heap.size)
  generalize hAe : va_A [(h0, .inr (9, [.int 0, .int 0, .int 0, .int 0, .int 0, .int 0]))] s.heap.size = A at hD ⊢
  have hA : ∀ q : Nat, s.heap.size ≤ q → A q := fun q h => by rw [← hAe]; exact Or.inr h
  have hS : va_S A s.heap s.heap [] := va_S.rf
  have hl := lv_entry ([.ref h0]) (n := 1) (Nat.le_of_ble_eq_true rfl)
  rw [lg_entry_eq]
  generalize (lg_sl ([.ref h0]) ++ List.replicate (1 - (lg_sl ([.ref h0])).length) Slot.unset).toArray = ls at hl ⊢
  have hl : lv_has ls 1 [(0, .ref h0)] := hl
  refine lv_aload_n hx hb dX9_init_0 rfl (lv_at hl 0 rfl) ?_
  refine W.objInit hx hb hown (hts _ mw_78) (hts _ mw_24) (hts _ mw_25) rfl (by rw [hml]; exact hl.1) rfl dX9_init_1 (Nat.le_of_ble_eq_true rfl) (Nat.le_of_ble_eq_true rfl) ?_
  refine W.eq (g2 := F0 m 4 ls []) rfl ?_
  refine lv_aload_n hx hb dX9_init_4 rfl (lv_at hl 0 rfl) ?_
  refine lv_sipush (v := 450) hx hb dX9_init_5 (by decide) ?_
  refine va_put (D := (dC, dI)) (ci := 9) (v := .int 450) (ty := .int) (C := RX9) (T := TX9) (N := 6) hx hb hts inX9 tyX9 tyX9_ok nmX9 hown hK hP hD hS 0 rfl rfl 0 (by decide) (hts _ mw_79) (fun _ h9 => h9) rfl (by decide +kernel) rfl rfl (Nat.le_of_ble_eq_true rfl) dX9_init_8 (fun H locs hP hD hS => ?_)
  have hP : va_P (dC, dI) vwCl [(h0, .inr (9, [.int 450, .int 0, .int 0, .int 0, .int 0, .int 0]))] H := hP
  have hD : va_D A [(h0, .inr (9, [.int 450, .int 0, .int 0, .int 0, .int 0, .int 0]))] := hD
  refine lv_aload_n hx hb dX9_init_11 rfl (lv_at hl 0 rfl) ?_
  refine lv_sipush (v := 270) hx hb dX9_init_12 (by decide) ?_
  refine va_put (D := (dC, dI)) (ci := 9) (v := .int 270) (ty := .int) (C := RX9) (T := TX9) (N := 6) hx hb hts inX9 tyX9 tyX9_ok nmX9 hown hK hP hD hS 0 rfl rfl 1 (by decide) (hts _ mw_80) (fun _ h9 => h9) rfl (by decide +kernel) rfl rfl (Nat.le_of_ble_eq_true rfl) dX9_init_15 (fun H locs hP hD hS => ?_)
  have hP : va_P (dC, dI) vwCl [(h0, .inr (9, [.int 450, .int 270, .int 0, .int 0, .int 0, .int 0]))] H := hP
  have hD : va_D A [(h0, .inr (9, [.int 450, .int 270, .int 0, .int 0, .int 0, .int 0]))] := hD
  refine lv_aload_n hx hb dX9_init_18 rfl (lv_at hl 0 rfl) ?_
  refine lv_sipush (v := 310) hx hb dX9_init_19 (by decide) ?_
  refine va_put (D := (dC, dI)) (ci := 9) (v := .int 310) (ty := .int) (C := RX9) (T := TX9) (N := 6) hx hb hts inX9 tyX9 tyX9_ok nmX9 hown hK hP hD hS 0 rfl rfl 2 (by decide) (hts _ mw_81) (fun _ h9 => h9) rfl (by decide +kernel) rfl rfl (Nat.le_of_ble_eq_true rfl) dX9_init_22 (fun H locs hP hD hS => ?_)
  have hP : va_P (dC, dI) vwCl [(h0, .inr (9, [.int 450, .int 270, .int 310, .int 0, .int 0, .int 0]))] H := hP
  have hD : va_D A [(h0, .inr (9, [.int 450, .int 270, .int 310, .int 0, .int 0, .int 0]))] := hD
  refine lv_aload_n hx hb dX9_init_25 rfl (lv_at hl 0 rfl) ?_
  refine lv_sipush (v := 320) hx hb dX9_init_26 (by decide) ?_
  refine va_put (D := (dC, dI)) (ci := 9) (v := .int 320) (ty := .int) (C := RX9) (T := TX9) (N := 6) hx hb hts inX9 tyX9 tyX9_ok nmX9 hown hK hP hD hS 0 rfl rfl 3 (by decide) (hts _ mw_82) (fun _ h9 => h9) rfl (by decide +kernel) rfl rfl (Nat.le_of_ble_eq_true rfl) dX9_init_29 (fun H locs hP hD hS => ?_)
  have hP : va_P (dC, dI) vwCl [(h0, .inr (9, [.int 450, .int 270, .int 310, .int 320, .int 0, .int 0]))] H := hP
  have hD : va_D A [(h0, .inr (9, [.int 450, .int 270, .int 310, .int 320, .int 0, .int 0]))] := hD
  refine lv_aload_n hx hb dX9_init_32 rfl (lv_at hl 0 rfl) ?_
  refine lv_sipush (v := 290) hx hb dX9_init_33 (by decide) ?_
  refine va_put (D := (dC, dI)) (ci := 9) (v := .int 290) (ty := .int) (C := RX9) (T := TX9) (N := 6) hx hb hts inX9 tyX9 tyX9_ok nmX9 hown hK hP hD hS 0 rfl rfl 4 (by decide) (hts _ mw_83) (fun _ h9 => h9) rfl (by decide +kernel) rfl rfl (Nat.le_of_ble_eq_true rfl) dX9_init_36 (fun H locs hP hD hS => ?_)
  have hP : va_P (dC, dI) vwCl [(h0, .inr (9, [.int 450, .int 270, .int 310, .int 320, .int 290, .int 0]))] H := hP
  have hD : va_D A [(h0, .inr (9, [.int 450, .int 270, .int 310, .int 320, .int 290, .int 0]))] := hD
  refine lv_aload_n hx hb dX9_init_39 rfl (lv_at hl 0 rfl) ?_
  refine lv_iconst (v := 2) hx hb dX9_init_40 (by decide) ?_
  refine va_put (D := (dC, dI)) (ci := 9) (v := .int 2) (ty := .int) (C := RX9) (T := TX9) (N := 6) hx hb hts inX9 tyX9 tyX9_ok nmX9 hown hK hP hD hS 0 rfl rfl 5 (by decide) (hts _ mw_84) (fun _ h9 => h9) rfl (by decide +kernel) rfl rfl (Nat.le_of_ble_eq_true rfl) dX9_init_41 (fun H locs hP hD hS => ?_)
  have hP : va_P (dC, dI) vwCl [(h0, .inr (9, [.int 450, .int 270, .int 310, .int 320, .int 290, .int 2]))] H := hP
  have hD : va_D A [(h0, .inr (9, [.int 450, .int 270, .int 310, .int 320, .int 290, .int 2]))] := hD
  refine W.widen (k := 0) (n := 0) (Nat.le_of_ble_eq_true rfl) (Nat.le_of_ble_eq_true rfl) ?_
  have hP9 := hP.sub (ws' := [(h0, .inr (9, [.int 450, .int 270, .int 310, .int 320, .int 290, .int 2]))]) [0] rfl
  have hD9 := hD.sub (ws' := [(h0, .inr (9, [.int 450, .int 270, .int 310, .int 320, .int 290, .int 2]))]) [0] (by decide) rfl
  have hK9 := hK.sub (tys' := []) [] rfl
  exact W.vret hx hb hr (fun t ht hW => ⟨⟨(), rfl, trivial, by rw [ht]; exact hP9, va_K.moved hW.alike hK9, hD9⟩, hS.F ht⟩) hS.2.2 dX9_init_44

set_option maxHeartbeats 4000000 in
set_option maxRecDepth 100000 in
theorem c_X3_init (l : Launch) (dC : Nat → ClassId) (dI : Nat → Nat → Nat) (sz : Nat) (h0 : Nat) : Met l yX3_init (Cond.code yX3_init cX3_init 1 none :: gT) ({ frames := 1, cells := 8, slots := 94, locals := 60 }) (va_Pc [.ref h0] (pr (dC, dI) sz [(h0, .inr (3, [.null, .null, .null, .int 0, .null, .int 0, .int 0, .int 0, .null, .null, .null, .null, .null]))] [])) (va_Qv (fun _ : Unit => True) (fun _ t => ∃ (q1 q2 q3 q4 q5 q6 q7 q8 : Nat) (y1 y2 y3 y4 y5 y6 y7 y8 : ClassId), va_P (dC, dI) vwCl [(h0, .inr (3, [.ref q1, .ref q2, .ref q3, .int 0, .ref q4, .int 0, .int 0, .int 0, .ref q5, .ref q6, .ref q7, .ref q8, .null])), (q1, .inl (y1, 36, .inl (fun _ => 0))), (q2, .inl (y2, 10, .inl (fun _ => 0))), (q3, .inl (y3, 10, .inl (fun _ => 0))), (q4, .inl (y4, 10, .inl (fun _ => 0))), (q5, .inl (y5, 10, .inl (fun _ => 0))), (q6, .inl (y6, 6, .inl (fun _ => 0))), (q7, .inl (y7, 6, .inl (fun _ => 0))), (q8, .inl (y8, 6, .inl (fun _ => 0)))] t.heap ∧ va_K (dC, dI) vwCl [(y1, .int), (y2, .int), (y3, .int), (y4, .int), (y5, .boolean), (y6, .int), (y7, .int), (y8, .int)] t ∧ va_D (va_A [(h0, .inr (3, [.null, .null, .null, .int 0, .null, .int 0, .int 0, .int 0, .null, .null, .null, .null, .null]))] sz) [(h0, .inr (3, [.ref q1, .ref q2, .ref q3, .int 0, .ref q4, .int 0, .int 0, .int 0, .ref q5, .ref q6, .ref q7, .ref q8, .null])), (q1, .inl (y1, 36, .inl (fun _ => 0))), (q2, .inl (y2, 10, .inl (fun _ => 0))), (q3, .inl (y3, 10, .inl (fun _ => 0))), (q4, .inl (y4, 10, .inl (fun _ => 0))), (q5, .inl (y5, 10, .inl (fun _ => 0))), (q6, .inl (y6, 6, .inl (fun _ => 0))), (q7, .inl (y7, 6, .inl (fun _ => 0))), (q8, .inl (y8, 6, .inl (fun _ => 0)))]) (va_A [(h0, .inr (3, [.null, .null, .null, .int 0, .null, .int 0, .int 0, .int 0, .null, .null, .null, .null, .null]))] sz)) 8 94 (va_A [(h0, .inr (3, [.null, .null, .null, .int 0, .null, .int 0, .int 0, .int 0, .null, .null, .null, .null, .null]))] sz) := by
  refine Met.ofW (cc := cX3_init) (maxL := 1) (ret := none) (by decide) rfl ?_
  intro p e s m args below meth c s₁ B hml hv
  obtain ⟨rfl, hsz, hP, hK, hD0, hE⟩ := hv
  have hx := B.exec
  have hb := B.bytes
  have hr := B.returns
  have hts : ∀ w ∈ gT, w.before _ s = true := fun w h => atoms_spec (ws := Cond.code yX3_init cX3_init 1 none :: gT) B.pre w (List.mem_cons_of_mem _ h)
  have hown : s.vm.findClass RX3 = some m.cls := findClass_of_methodNamed B.named
  have hlocks := B.notSynchronized
  have hin : meth.name = "<init>" := (name_of_methodNamed B.named B.method).1
  subst hsz
  have hD := hD0.self (sz := s.heap.size)
  generalize hAe : va_A [(h0, .inr (3, [.null, .null, .null, .int 0, .null, .int 0, .int 0, .int 0, .null, .null, .null, .null, .null]))] s.heap.size = A at hD ⊢
  have hA : ∀ q : Nat, s.heap.size ≤ q → A q := fun q h => by rw [← hAe]; exact Or.inr h
  have hS : va_S A s.heap s.heap [] := va_S.rf
  have hl := lv_entry ([.ref h0]) (n := 1) (Nat.le_of_ble_eq_true rfl)
  rw [lg_entry_eq]
  generalize (lg_sl ([.ref h0]) ++ List.replicate (1 - (lg_sl ([.ref h0])).length) Slot.unset).toArray = ls at hl ⊢
  have hl : lv_has ls 1 [(0, .ref h0)] := hl
  refine lv_aload_n hx hb dX3_init_0 rfl (lv_at hl 0 rfl) ?_
  refine W.objInit hx hb hown (hts _ mw_103) (hts _ mw_24) (hts _ mw_25) rfl (by rw [hml]; exact hl.1) rfl dX3_init_1 (Nat.le_of_ble_eq_true rfl) (Nat.le_of_ble_eq_true rfl) ?_
  refine W.eq (g2 := F0 m 4 ls []) rfl ?_
  refine lv_aload_n hx hb dX3_init_4 rfl (lv_at hl 0 rfl) ?_
  refine lv_bipush (v := 36) hx hb dX3_init_5 (by decide) ?_
  refine va_newa (atype := .int) (ty := .int) (a0 := (36, .inl (fun _ => 0))) hx hb (hts _ mw_72) rfl hK hP hD hS hA (fun _ => rfl) (by decide) (by decide +kernel) (by decide) (Nat.le_of_ble_eq_true rfl) (Nat.le_of_ble_eq_true rfl) dX3_init_7 (fun q1 y1 H hK hP hD hS => ?_)
  refine W.widen (k := 1) (n := 36) (Nat.le_of_ble_eq_true rfl) (Nat.le_of_ble_eq_true rfl) ?_
  have hP : va_P (dC, dI) vwCl [(h0, .inr (3, [.null, .null, .null, .int 0, .null, .int 0, .int 0, .int 0, .null, .null, .null, .null, .null])), (q1, .inl (y1, 36, .inl (fun _ => 0)))] H := hP
  have hD : va_D A [(h0, .inr (3, [.null, .null, .null, .int 0, .null, .int 0, .int 0, .int 0, .null, .null, .null, .null, .null])), (q1, .inl (y1, 36, .inl (fun _ => 0)))] := hD
  have hK : va_K (dC, dI) vwCl [(y1, .int)] s := hK
  refine va_putF (D := (dC, dI)) (ci := 3) (v := .ref q1) (ty := .array .int) (C := RX3) (T := TX3) (N := 13) hx hb hts inX3 tyX3 tyX3_ok nmX3 hown hK hP hD hS 0 rfl rfl 0 (by decide) (hts _ mw_104) (fun _ h9 => h9) rfl hin rfl (by decide +kernel) rfl rfl (Nat.le_of_ble_eq_true rfl) dX3_init_9 (fun H locs hP hD hS => ?_)
  have hP : va_P (dC, dI) vwCl [(h0, .inr (3, [.ref q1, .null, .null, .int 0, .null, .int 0, .int 0, .int 0, .null, .null, .null, .null, .null])), (q1, .inl (y1, 36, .inl (fun _ => 0)))] H := hP
  have hD : va_D A [(h0, .inr (3, [.ref q1, .null, .null, .int 0, .null, .int 0, .int 0, .int 0, .null, .null, .null, .null, .null])), (q1, .inl (y1, 36, .inl (fun _ => 0)))] := hD
  refine lv_aload_n hx hb dX3_init_12 rfl (lv_at hl 0 rfl) ?_
  refine lv_bipush (v := 10) hx hb dX3_init_13 (by decide) ?_
  refine va_newa (atype := .int) (ty := .int) (a0 := (10, .inl (fun _ => 0))) hx hb (hts _ mw_72) rfl hK hP hD hS hA (fun _ => rfl) (by decide) (by decide +kernel) (by decide) (Nat.le_of_ble_eq_true rfl) (Nat.le_of_ble_eq_true rfl) dX3_init_15 (fun q2 y2 H hK hP hD hS => ?_)
  refine W.widen (k := 2) (n := 46) (Nat.le_of_ble_eq_true rfl) (Nat.le_of_ble_eq_true rfl) ?_
  have hP : va_P (dC, dI) vwCl [(h0, .inr (3, [.ref q1, .null, .null, .int 0, .null, .int 0, .int 0, .int 0, .null, .null, .null, .null, .null])), (q1, .inl (y1, 36, .inl (fun _ => 0))), (q2, .inl (y2, 10, .inl (fun _ => 0)))] H := hP
  have hD : va_D A [(h0, .inr (3, [.ref q1, .null, .null, .int 0, .null, .int 0, .int 0, .int 0, .null, .null, .null, .null, .null])), (q1, .inl (y1, 36, .inl (fun _ => 0))), (q2, .inl (y2, 10, .inl (fun _ => 0)))] := hD
  have hK : va_K (dC, dI) vwCl [(y1, .int), (y2, .int)] s := hK
  refine va_putF (D := (dC, dI)) (ci := 3) (v := .ref q2) (ty := .array .int) (C := RX3) (T := TX3) (N := 13) hx hb hts inX3 tyX3 tyX3_ok nmX3 hown hK hP hD hS 0 rfl rfl 1 (by decide) (hts _ mw_105) (fun _ h9 => h9) rfl hin rfl (by decide +kernel) rfl rfl (Nat.le_of_ble_eq_true rfl) dX3_init_17 (fun H locs hP hD hS => ?_)
  have hP : va_P (dC, dI) vwCl [(h0, .inr (3, [.ref q1, .ref q2, .null, .int 0, .null, .int 0, .int 0, .int 0, .null, .null, .null, .null, .null])), (q1, .inl (y1, 36, .inl (fun _ => 0))), (q2, .inl (y2, 10, .inl (fun _ => 0)))] H := hP
  have hD : va_D A [(h0, .inr (3, [.ref q1, .ref q2, .null, .int 0, .null, .int 0, .int 0, .int 0, .null, .null, .null, .null, .null])), (q1, .inl (y1, 36, .inl (fun _ => 0))), (q2, .inl (y2, 10, .inl (fun _ => 0)))] := hD
  refine lv_aload_n hx hb dX3_init_20 rfl (lv_at hl 0 rfl) ?_
  refine lv_bipush (v := 10) hx hb dX3_init_21 (by decide) ?_
  refine va_newa (atype := .int) (ty := .int) (a0 := (10, .inl (fun _ => 0))) hx hb (hts _ mw_72) rfl hK hP hD hS hA (fun _ => rfl) (by decide) (by decide +kernel) (by decide) (Nat.le_of_ble_eq_true rfl) (Nat.le_of_ble_eq_true rfl) dX3_init_23 (fun q3 y3 H hK hP hD hS => ?_)
  refine W.widen (k := 3) (n := 56) (Nat.le_of_ble_eq_true rfl) (Nat.le_of_ble_eq_true rfl) ?_
  have hP : va_P (dC, dI) vwCl [(h0, .inr (3, [.ref q1, .ref q2, .null, .int 0, .null, .int 0, .int 0, .int 0, .null, .null, .null, .null, .null])), (q1, .inl (y1, 36, .inl (fun _ => 0))), (q2, .inl (y2, 10, .inl (fun _ => 0))), (q3, .inl (y3, 10, .inl (fun _ => 0)))] H := hP
  have hD : va_D A [(h0, .inr (3, [.ref q1, .ref q2, .null, .int 0, .null, .int 0, .int 0, .int 0, .null, .null, .null, .null, .null])), (q1, .inl (y1, 36, .inl (fun _ => 0))), (q2, .inl (y2, 10, .inl (fun _ => 0))), (q3, .inl (y3, 10, .inl (fun _ => 0)))] := hD
  have hK : va_K (dC, dI) vwCl [(y1, .int), (y2, .int), (y3, .int)] s := hK
  refine va_putF (D := (dC, dI)) (ci := 3) (v := .ref q3) (ty := .array .int) (C := RX3) (T := TX3) (N := 13) hx hb hts inX3 tyX3 tyX3_ok nmX3 hown hK hP hD hS 0 rfl rfl 2 (by decide) (hts _ mw_106) (fun _ h9 => h9) rfl hin rfl (by decide +kernel) rfl rfl (Nat.le_of_ble_eq_true rfl) dX3_init_25 (fun H locs hP hD hS => ?_)
  have hP : va_P (dC, dI) vwCl [(h0, .inr (3, [.ref q1, .ref q2, .ref q3, .int 0, .null, .int 0, .int 0, .int 0, .null, .null, .null, .null, .null])), (q1, .inl (y1, 36, .inl (fun _ => 0))), (q2, .inl (y2, 10, .inl (fun _ => 0))), (q3, .inl (y3, 10, .inl (fun _ => 0)))] H := hP
  have hD : va_D A [(h0, .inr (3, [.ref q1, .ref q2, .ref q3, .int 0, .null, .int 0, .int 0, .int 0, .null, .null, .null, .null, .null])), (q1, .inl (y1, 36, .inl (fun _ => 0))), (q2, .inl (y2, 10, .inl (fun _ => 0))), (q3, .inl (y3, 10, .inl (fun _ => 0)))] := hD
  refine lv_aload_n hx hb dX3_init_28 rfl (lv_at hl 0 rfl) ?_
  refine lv_bipush (v := 10) hx hb dX3_init_29 (by decide) ?_
  refine va_newa (atype := .int) (ty := .int) (a0 := (10, .inl (fun _ => 0))) hx hb (hts _ mw_72) rfl hK hP hD hS hA (fun _ => rfl) (by decide) (by decide +kernel) (by decide) (Nat.le_of_ble_eq_true rfl) (Nat.le_of_ble_eq_true rfl) dX3_init_31 (fun q4 y4 H hK hP hD hS => ?_)
  refine W.widen (k := 4) (n := 66) (Nat.le_of_ble_eq_true rfl) (Nat.le_of_ble_eq_true rfl) ?_
  have hP : va_P (dC, dI) vwCl [(h0, .inr (3, [.ref q1, .ref q2, .ref q3, .int 0, .null, .int 0, .int 0, .int 0, .null, .null, .null, .null, .null])), (q1, .inl (y1, 36, .inl (fun _ => 0))), (q2, .inl (y2, 10, .inl (fun _ => 0))), (q3, .inl (y3, 10, .inl (fun _ => 0))), (q4, .inl (y4, 10, .inl (fun _ => 0)))] H := hP
  have hD : va_D A [(h0, .inr (3, [.ref q1, .ref q2, .ref q3, .int 0, .null, .int 0, .int 0, .int 0, .null, .null, .null, .null, .null])), (q1, .inl (y1, 36, .inl (fun _ => 0))), (q2, .inl (y2, 10, .inl (fun _ => 0))), (q3, .inl (y3, 10, .inl (fun _ => 0))), (q4, .inl (y4, 10, .inl (fun _ => 0)))] := hD
  have hK : va_K (dC, dI) vwCl [(y1, .int), (y2, .int), (y3, .int), (y4, .int)] s := hK
  refine va_putF (D := (dC, dI)) (ci := 3) (v := .ref q4) (ty := .array .int) (C := RX3) (T := TX3) (N := 13) hx hb hts inX3 tyX3 tyX3_ok nmX3 hown hK hP hD hS 0 rfl rfl 4 (by decide) (hts _ mw_109) (fun _ h9 => h9) rfl hin rfl (by decide +kernel) rfl rfl (Nat.le_of_ble_eq_true rfl) dX3_init_33 (fun H locs hP hD hS => ?_)
  have hP : va_P (dC, dI) vwCl [(h0, .inr (3, [.ref q1, .ref q2, .ref q3, .int 0, .ref q4, .int 0, .int 0, .int 0, .null, .null, .null, .null, .null])), (q1, .inl (y1, 36, .inl (fun _ => 0))), (q2, .inl (y2, 10, .inl (fun _ => 0))), (q3, .inl (y3, 10, .inl (fun _ => 0))), (q4, .inl (y4, 10, .inl (fun _ => 0)))] H := hP
  have hD : va_D A [(h0, .inr (3, [.ref q1, .ref q2, .ref q3, .int 0, .ref q4, .int 0, .int 0, .int 0, .null, .null, .null, .null, .null])), (q1, .inl (y1, 36, .inl (fun _ => 0))), (q2, .inl (y2, 10, .inl (fun _ => 0))), (q3, .inl (y3, 10, .inl (fun _ => 0))), (q4, .inl (y4, 10, .inl (fun _ => 0)))] := hD
  refine lv_aload_n hx hb dX3_init_36 rfl (lv_at hl 0 rfl) ?_
  refine lv_bipush (v := 10) hx hb dX3_init_37 (by decide) ?_
  refine va_newa (atype := .boolean) (ty := .boolean) (a0 := (10, .inl (fun _ => 0))) hx hb (hts _ mw_147) rfl hK hP hD hS hA (fun _ => rfl) (by decide) (by decide +kernel) (by decide) (Nat.le_of_ble_eq_true rfl) (Nat.le_of_ble_eq_true rfl) dX3_init_39 (fun q5 y5 H hK hP hD hS => ?_)
  refine W.widen (k := 5) (n := 76) (Nat.le_of_ble_eq_true rfl) (Nat.le_of_ble_eq_true rfl) ?_
  have hP : va_P (dC, dI) vwCl [(h0, .inr (3, [.ref q1, .ref q2, .ref q3, .int 0, .ref q4, .int 0, .int 0, .int 0, .null, .null, .null, .null, .null])), (q1, .inl (y1, 36, .inl (fun _ => 0))), (q2, .inl (y2, 10, .inl (fun _ => 0))), (q3, .inl (y3, 10, .inl (fun _ => 0))), (q4, .inl (y4, 10, .inl (fun _ => 0))), (q5, .inl (y5, 10, .inl (fun _ => 0)))] H := hP
  have hD : va_D A [(h0, .inr (3, [.ref q1, .ref q2, .ref q3, .int 0, .ref q4, .int 0, .int 0, .int 0, .null, .null, .null, .null, .null])), (q1, .inl (y1, 36, .inl (fun _ => 0))), (q2, .inl (y2, 10, .inl (fun _ => 0))), (q3, .inl (y3, 10, .inl (fun _ => 0))), (q4, .inl (y4, 10, .inl (fun _ => 0))), (q5, .inl (y5, 10, .inl (fun _ => 0)))] := hD
  have hK : va_K (dC, dI) vwCl [(y1, .int), (y2, .int), (y3, .int), (y4, .int), (y5, .boolean)] s := hK
  refine va_putF (D := (dC, dI)) (ci := 3) (v := .ref q5) (ty := .array .boolean) (C := RX3) (T := TX3) (N := 13) hx hb hts inX3 tyX3 tyX3_ok nmX3 hown hK hP hD hS 0 rfl rfl 8 (by decide) (hts _ mw_115) (fun _ h9 => h9) rfl hin rfl (by decide +kernel) rfl rfl (Nat.le_of_ble_eq_true rfl) dX3_init_41 (fun H locs hP hD hS => ?_)
  have hP : va_P (dC, dI) vwCl [(h0, .inr (3, [.ref q1, .ref q2, .ref q3, .int 0, .ref q4, .int 0, .int 0, .int 0, .ref q5, .null, .null, .null, .null])), (q1, .inl (y1, 36, .inl (fun _ => 0))), (q2, .inl (y2, 10, .inl (fun _ => 0))), (q3, .inl (y3, 10, .inl (fun _ => 0))), (q4, .inl (y4, 10, .inl (fun _ => 0))), (q5, .inl (y5, 10, .inl (fun _ => 0)))] H := hP
  have hD : va_D A [(h0, .inr (3, [.ref q1, .ref q2, .ref q3, .int 0, .ref q4, .int 0, .int 0, .int 0, .ref q5, .null, .null, .null, .null])), (q1, .inl (y1, 36, .inl (fun _ => 0))), (q2, .inl (y2, 10, .inl (fun _ => 0))), (q3, .inl (y3, 10, .inl (fun _ => 0))), (q4, .inl (y4, 10, .inl (fun _ => 0))), (q5, .inl (y5, 10, .inl (fun _ => 0)))] := hD
  refine lv_aload_n hx hb dX3_init_44 rfl (lv_at hl 0 rfl) ?_
  refine lv_bipush (v := 6) hx hb dX3_init_45 (by decide) ?_
  refine va_newa (atype := .int) (ty := .int) (a0 := (6, .inl (fun _ => 0))) hx hb (hts _ mw_72) rfl hK hP hD hS hA (fun _ => rfl) (by decide) (by decide +kernel) (by decide) (Nat.le_of_ble_eq_true rfl) (Nat.le_of_ble_eq_true rfl) dX3_init_47 (fun q6 y6 H hK hP hD hS => ?_)
  refine W.widen (k := 6) (n := 82) (Nat.le_of_ble_eq_true rfl) (Nat.le_of_ble_eq_true rfl) ?_
  have hP : va_P (dC, dI) vwCl [(h0, .inr (3, [.ref q1, .ref q2, .ref q3, .int 0, .ref q4, .int 0, .int 0, .int 0, .ref q5, .null, .null, .null, .null])), (q1, .inl (y1, 36, .inl (fun _ => 0))), (q2, .inl (y2, 10, .inl (fun _ => 0))), (q3, .inl (y3, 10, .inl (fun _ => 0))), (q4, .inl (y4, 10, .inl (fun _ => 0))), (q5, .inl (y5, 10, .inl (fun _ => 0))), (q6, .inl (y6, 6, .inl (fun _ => 0)))] H := hP
  have hD : va_D A [(h0, .inr (3, [.ref q1, .ref q2, .ref q3, .int 0, .ref q4, .int 0, .int 0, .int 0, .ref q5, .null, .null, .null, .null])), (q1, .inl (y1, 36, .inl (fun _ => 0))), (q2, .inl (y2, 10, .inl (fun _ => 0))), (q3, .inl (y3, 10, .inl (fun _ => 0))), (q4, .inl (y4, 10, .inl (fun _ => 0))), (q5, .inl (y5, 10, .inl (fun _ => 0))), (q6, .inl (y6, 6, .inl (fun _ => 0)))] := hD
  have hK : va_K (dC, dI) vwCl [(y1, .int), (y2, .int), (y3, .int), (y4, .int), (y5, .boolean), (y6, .int)] s := hK
  refine va_putF (D := (dC, dI)) (ci := 3) (v := .ref q6) (ty := .array .int) (C := RX3) (T := TX3) (N := 13) hx hb hts inX3 tyX3 tyX3_ok nmX3 hown hK hP hD hS 0 rfl rfl 9 (by decide) (hts _ mw_116) (fun _ h9 => h9) rfl hin rfl (by decide +kernel) rfl rfl (Nat.le_of_ble_eq_true rfl) dX3_init_49 (fun H locs hP hD hS => ?_)
  have hP : va_P (dC, dI) vwCl [(h0, .inr (3, [.ref q1, .ref q2, .ref q3, .int 0, .ref q4, .int 0, .int 0, .int 0, .ref q5, .ref q6, .null, .null, .null])), (q1, .inl (y1, 36, .inl (fun _ => 0))), (q2, .inl (y2, 10, .inl (fun _ => 0))), (q3, .inl (y3, 10, .inl (fun _ => 0))), (q4, .inl (y4, 10, .inl (fun _ => 0))), (q5, .inl (y5, 10, .inl (fun _ => 0))), (q6, .inl (y6, 6, .inl (fun _ => 0)))] H := hP
  have hD : va_D A [(h0, .inr (3, [.ref q1, .ref q2, .ref q3, .int 0, .ref q4, .int 0, .int 0, .int 0, .ref q5, .ref q6, .null, .null, .null])), (q1, .inl (y1, 36, .inl (fun _ => 0))), (q2, .inl (y2, 10, .inl (fun _ => 0))), (q3, .inl (y3, 10, .inl (fun _ => 0))), (q4, .inl (y4, 10, .inl (fun _ => 0))), (q5, .inl (y5, 10, .inl (fun _ => 0))), (q6, .inl (y6, 6, .inl (fun _ => 0)))] := hD
  refine lv_aload_n hx hb dX3_init_52 rfl (lv_at hl 0 rfl) ?_
  refine lv_bipush (v := 6) hx hb dX3_init_53 (by decide) ?_
  refine va_newa (atype := .int) (ty := .int) (a0 := (6, .inl (fun _ => 0))) hx hb (hts _ mw_72) rfl hK hP hD hS hA (fun _ => rfl) (by decide) (by decide +kernel) (by decide) (Nat.le_of_ble_eq_true rfl) (Nat.le_of_ble_eq_true rfl) dX3_init_55 (fun q7 y7 H hK hP hD hS => ?_)
  refine W.widen (k := 7) (n := 88) (Nat.le_of_ble_eq_true rfl) (Nat.le_of_ble_eq_true rfl) ?_
  have hP : va_P (dC, dI) vwCl [(h0, .inr (3, [.ref q1, .ref q2, .ref q3, .int 0, .ref q4, .int 0, .int 0, .int 0, .ref q5, .ref q6, .null, .null, .null])), (q1, .inl (y1, 36, .inl (fun _ => 0))), (q2, .inl (y2, 10, .inl (fun _ => 0))), (q3, .inl (y3, 10, .inl (fun _ => 0))), (q4, .inl (y4, 10, .inl (fun _ => 0))), (q5, .inl (y5, 10, .inl (fun _ => 0))), (q6, .inl (y6, 6, .inl (fun _ => 0))), (q7, .inl (y7, 6, .inl (fun _ => 0)))] H := hP
  have hD : va_D A [(h0, .inr (3, [.ref q1, .ref q2, .ref q3, .int 0, .ref q4, .int 0, .int 0, .int 0, .ref q5, .ref q6, .null, .null, .null])), (q1, .inl (y1, 36, .inl (fun _ => 0))), (q2, .inl (y2, 10, .inl (fun _ => 0))), (q3, .inl (y3, 10, .inl (fun _ => 0))), (q4, .inl (y4, 10, .inl (fun _ => 0))), (q5, .inl (y5, 10, .inl (fun _ => 0))), (q6, .inl (y6, 6, .inl (fun _ => 0))), (q7, .inl (y7, 6, .inl (fun _ => 0)))] := hD
  have hK : va_K (dC, dI) vwCl [(y1, .int), (y2, .int), (y3, .int), (y4, .int), (y5, .boolean), (y6, .int), (y7, .int)] s := hK
  refine va_putF (D := (dC, dI)) (ci := 3) (v := .ref q7) (ty := .array .int) (C := RX3) (T := TX3) (N := 13) hx hb hts inX3 tyX3 tyX3_ok nmX3 hown hK hP hD hS 0 rfl rfl 10 (by decide) (hts _ mw_117) (fun _ h9 => h9) rfl hin rfl (by decide +kernel) rfl rfl (Nat.le_of_ble_eq_true rfl) dX3_init_57 (fun H locs hP hD hS => ?_)
  have hP : va_P (dC, dI) vwCl [(h0, .inr (3, [.ref q1, .ref q2, .ref q3, .int 0, .ref q4, .int 0, .int 0, .int 0, .ref q5, .ref q6, .ref q7, .null, .null])), (q1, .inl (y1, 36, .inl (fun _ => 0))), (q2, .inl (y2, 10, .inl (fun _ => 0))), (q3, .inl (y3, 10, .inl (fun _ => 0))), (q4, .inl (y4, 10, .inl (fun _ => 0))), (q5, .inl (y5, 10, .inl (fun _ => 0))), (q6, .inl (y6, 6, .inl (fun _ => 0))), (q7, .inl (y7, 6, .inl (fun _ => 0)))] H := hP
  have hD : va_D A [(h0, .inr (3, [.ref q1, .ref q2, .ref q3, .int 0, .ref q4, .int 0, .int 0, .int 0, .ref q5, .ref q6, .ref q7, .null, .null])), (q1, .inl (y1, 36, .inl (fun _ => 0))), (q2, .inl (y2, 10, .inl (fun _ => 0))), (q3, .inl (y3, 10, .inl (fun _ => 0))), (q4, .inl (y4, 10, .inl (fun _ => 0))), (q5, .inl (y5, 10, .inl (fun _ => 0))), (q6, .inl (y6, 6, .inl (fun _ => 0))), (q7, .inl (y7, 6, .inl (fun _ => 0)))] := hD
  refine lv_aload_n hx hb dX3_init_60 rfl (lv_at hl 0 rfl) ?_
  refine lv_bipush (v := 6) hx hb dX3_init_61 (by decide) ?_
  refine va_newa (atype := .int) (ty := .int) (a0 := (6, .inl (fun _ => 0))) hx hb (hts _ mw_72) rfl hK hP hD hS hA (fun _ => rfl) (by decide) (by decide +kernel) (by decide) (Nat.le_of_ble_eq_true rfl) (Nat.le_of_ble_eq_true rfl) dX3_init_63 (fun q8 y8 H hK hP hD hS => ?_)
  refine W.widen (k := 8) (n := 94) (Nat.le_of_ble_eq_true rfl) (Nat.le_of_ble_eq_true rfl) ?_
  have hP : va_P (dC, dI) vwCl [(h0, .inr (3, [.ref q1, .ref q2, .ref q3, .int 0, .ref q4, .int 0, .int 0, .int 0, .ref q5, .ref q6, .ref q7, .null, .null])), (q1, .inl (y1, 36, .inl (fun _ => 0))), (q2, .inl (y2, 10, .inl (fun _ => 0))), (q3, .inl (y3, 10, .inl (fun _ => 0))), (q4, .inl (y4, 10, .inl (fun _ => 0))), (q5, .inl (y5, 10, .inl (fun _ => 0))), (q6, .inl (y6, 6, .inl (fun _ => 0))), (q7, .inl (y7, 6, .inl (fun _ => 0))), (q8, .inl (y8, 6, .inl (fun _ => 0)))] H := hP
  have hD : va_D A [(h0, .inr (3, [.ref q1, .ref q2, .ref q3, .int 0, .ref q4, .int 0, .int 0, .int 0, .ref q5, .ref q6, .ref q7, .null, .null])), (q1, .inl (y1, 36, .inl (fun _ => 0))), (q2, .inl (y2, 10, .inl (fun _ => 0))), (q3, .inl (y3, 10, .inl (fun _ => 0))), (q4, .inl (y4, 10, .inl (fun _ => 0))), (q5, .inl (y5, 10, .inl (fun _ => 0))), (q6, .inl (y6, 6, .inl (fun _ => 0))), (q7, .inl (y7, 6, .inl (fun _ => 0))), (q8, .inl (y8, 6, .inl (fun _ => 0)))] := hD
  have hK : va_K (dC, dI) vwCl [(y1, .int), (y2, .int), (y3, .int), (y4, .int), (y5, .boolean), (y6, .int), (y7, .int), (y8, .int)] s := hK
  refine va_putF (D := (dC, dI)) (ci := 3) (v := .ref q8) (ty := .array .int) (C := RX3) (T := TX3) (N := 13) hx hb hts inX3 tyX3 tyX3_ok nmX3 hown hK hP hD hS 0 rfl rfl 11 (by decide) (hts _ mw_118) (fun _ h9 => h9) rfl hin rfl (by decide +kernel) rfl rfl (Nat.le_of_ble_eq_true rfl) dX3_init_65 (fun H locs hP hD hS => ?_)
  have hP : va_P (dC, dI) vwCl [(h0, .inr (3, [.ref q1, .ref q2, .ref q3, .int 0, .ref q4, .int 0, .int 0, .int 0, .ref q5, .ref q6, .ref q7, .ref q8, .null])), (q1, .inl (y1, 36, .inl (fun _ => 0))), (q2, .inl (y2, 10, .inl (fun _ => 0))), (q3, .inl (y3, 10, .inl (fun _ => 0))), (q4, .inl (y4, 10, .inl (fun _ => 0))), (q5, .inl (y5, 10, .inl (fun _ => 0))), (q6, .inl (y6, 6, .inl (fun _ => 0))), (q7, .inl (y7, 6, .inl (fun _ => 0))), (q8, .inl (y8, 6, .inl (fun _ => 0)))] H := hP
  have hD : va_D A [(h0, .inr (3, [.ref q1, .ref q2, .ref q3, .int 0, .ref q4, .int 0, .int 0, .int 0, .ref q5, .ref q6, .ref q7, .ref q8, .null])), (q1, .inl (y1, 36, .inl (fun _ => 0))), (q2, .inl (y2, 10, .inl (fun _ => 0))), (q3, .inl (y3, 10, .inl (fun _ => 0))), (q4, .inl (y4, 10, .inl (fun _ => 0))), (q5, .inl (y5, 10, .inl (fun _ => 0))), (q6, .inl (y6, 6, .inl (fun _ => 0))), (q7, .inl (y7, 6, .inl (fun _ => 0))), (q8, .inl (y8, 6, .inl (fun _ => 0)))] := hD
  refine W.widen (k := 8) (n := 94) (Nat.le_of_ble_eq_true rfl) (Nat.le_of_ble_eq_true rfl) ?_
  have hP9 := hP.sub (ws' := [(h0, .inr (3, [.ref q1, .ref q2, .ref q3, .int 0, .ref q4, .int 0, .int 0, .int 0, .ref q5, .ref q6, .ref q7, .ref q8, .null])), (q1, .inl (y1, 36, .inl (fun _ => 0))), (q2, .inl (y2, 10, .inl (fun _ => 0))), (q3, .inl (y3, 10, .inl (fun _ => 0))), (q4, .inl (y4, 10, .inl (fun _ => 0))), (q5, .inl (y5, 10, .inl (fun _ => 0))), (q6, .inl (y6, 6, .inl (fun _ => 0))), (q7, .inl (y7, 6, .inl (fun _ => 0))), (q8, .inl (y8, 6, .inl (fun _ => 0)))]) [0, 1, 2, 3, 4, 5, 6, 7, 8] rfl
  have hD9 := hD.sub (ws' := [(h0, .inr (3, [.ref q1, .ref q2, .ref q3, .int 0, .ref q4, .int 0, .int 0, .int 0, .ref q5, .ref q6, .ref q7, .ref q8, .null])), (q1, .inl (y1, 36, .inl (fun _ => 0))), (q2, .inl (y2, 10, .inl (fun _ => 0))), (q3, .inl (y3, 10, .inl (fun _ => 0))), (q4, .inl (y4, 10, .inl (fun _ => 0))), (q5, .inl (y5, 10, .inl (fun _ => 0))), (q6, .inl (y6, 6, .inl (fun _ => 0))), (q7, .inl (y7, 6, .inl (fun _ => 0))), (q8, .inl (y8, 6, .inl (fun _ => 0)))]) [0, 1, 2, 3, 4, 5, 6, 7, 8] (by decide) rfl
  have hK9 := hK.sub (tys' := [(y1, .int), (y2, .int), (y3, .int), (y4, .int), (y5, .boolean), (y6, .int), (y7, .int), (y8, .int)]) [0, 1, 2, 3, 4, 5, 6, 7] rfl
  exact W.vret hx hb hr (fun t ht hW => ⟨⟨(), rfl, trivial, q1, q2, q3, q4, q5, q6, q7, q8, y1, y2, y3, y4, y5, y6, y7, y8, by rw [ht]; exact hP9, va_K.moved hW.alike hK9, hD9⟩, hS.F ht⟩) hS.2.2 dX3_init_68

set_option maxHeartbeats 4000000 in
set_option maxRecDepth 100000 in
theorem c_X2_init (l : Launch) (dC : Nat → ClassId) (dI : Nat → Nat → Nat) (sz : Nat) (h0 : Nat) : Met l yX2_init (Cond.code yX2_init cX2_init 1 none :: gT) ({ frames := 1, cells := 3, slots := 120, locals := 60 }) (va_Pc [.ref h0] (pr (dC, dI) sz [(h0, .inr (2, [.null, .null, .null, .int 0, .null, .int 0]))] [])) (va_Qv (fun _ : Unit => True) (fun _ t => ∃ (q1 q2 q3 : Nat) (y1 y2 y3 : ClassId), va_P (dC, dI) vwCl [(h0, .inr (2, [.ref q1, .ref q2, .ref q3, .int 0, .null, .int 0])), (q1, .inl (y1, 40, .inl (fun _ => 0))), (q2, .inl (y2, 40, .inl (fun _ => 0))), (q3, .inl (y3, 40, .inl (fun _ => 0)))] t.heap ∧ va_K (dC, dI) vwCl [(y1, .int), (y2, .int), (y3, .boolean)] t ∧ va_D (va_A [(h0, .inr (2, [.null, .null, .null, .int 0, .null, .int 0]))] sz) [(h0, .inr (2, [.ref q1, .ref q2, .ref q3, .int 0, .null, .int 0])), (q1, .inl (y1, 40, .inl (fun _ => 0))), (q2, .inl (y2, 40, .inl (fun _ => 0))), (q3, .inl (y3, 40, .inl (fun _ => 0)))]) (va_A [(h0, .inr (2, [.null, .null, .null, .int 0, .null, .int 0]))] sz)) 3 120 (va_A [(h0, .inr (2, [.null, .null, .null, .int 0, .null, .int 0]))] sz) := by
  refine Met.ofW (cc := cX2_init) (maxL := 1) (ret := none) (by decide) rfl ?_
  intro p e s m args below meth c s₁ B hml hv
  obtain ⟨rfl, hsz, hP, hK, hD0, hE⟩ := hv
  have hx := B.exec
  have hb := B.bytes
  have hr := B.returns
  have hts : ∀ w ∈ gT, w.before _ s = true := fun w h => atoms_spec (ws := Cond.code yX2_init cX2_init 1 none :: gT) B.pre w (List.mem_cons_of_mem _ h)
  have hown : s.vm.findClass RX2 = some m.cls := findClass_of_methodNamed B.named
  have hlocks := B.notSynchronized
  have hin : meth.name = "<init>" := (name_of_methodNamed B.named B.method).1
  subst hsz
  have hD := hD0.self (sz := s.heap.size)
  generalize hAe : va_A [(h0, .inr (2, [.null, .null, .null, .int 0, .null, .int 0]))] s.heap.size = A at hD ⊢
  have hA : ∀ q : Nat, s.heap.size ≤ q → A q := fun q h => by rw [← hAe]; exact Or.inr h
  have hS : va_S A s.heap s.heap [] := va_S.rf
  have hl := lv_entry ([.ref h0]) (n := 1) (Nat.le_of_ble_eq_true rfl)
  rw [lg_entry_eq]
  generalize (lg_sl ([.ref h0]) ++ List.replicate (1 - (lg_sl ([.ref h0])).length) Slot.unset).toArray = ls at hl ⊢
  have hl : lv_has ls 1 [(0, .ref h0)] := hl
  refine lv_aload_n hx hb dX2_init_0 rfl (lv_at hl 0 rfl) ?_
  refine W.objInit hx hb hown (hts _ mw_153) (hts _ mw_24) (hts _ mw_25) rfl (by rw [hml]; exact hl.1) rfl dX2_init_1 (Nat.le_of_ble_eq_true rfl) (Nat.le_of_ble_eq_true rfl) ?_
  refine W.eq (g2 := F0 m 4 ls []) rfl ?_
  refine lv_aload_n hx hb dX2_init_4 rfl (lv_at hl 0 rfl) ?_
  refine lv_bipush (v := 40) hx hb dX2_init_5 (by decide) ?_
  refine va_newa (atype := .int) (ty := .int) (a0 := (40, .inl (fun _ => 0))) hx hb (hts _ mw_72) rfl hK hP hD hS hA (fun _ => rfl) (by decide) (by decide +kernel) (by decide) (Nat.le_of_ble_eq_true rfl) (Nat.le_of_ble_eq_true rfl) dX2_init_7 (fun q1 y1 H hK hP hD hS => ?_)
  refine W.widen (k := 1) (n := 40) (Nat.le_of_ble_eq_true rfl) (Nat.le_of_ble_eq_true rfl) ?_
  have hP : va_P (dC, dI) vwCl [(h0, .inr (2, [.null, .null, .null, .int 0, .null, .int 0])), (q1, .inl (y1, 40, .inl (fun _ => 0)))] H := hP
  have hD : va_D A [(h0, .inr (2, [.null, .null, .null, .int 0, .null, .int 0])), (q1, .inl (y1, 40, .inl (fun _ => 0)))] := hD
  have hK : va_K (dC, dI) vwCl [(y1, .int)] s := hK
  refine va_putF (D := (dC, dI)) (ci := 2) (v := .ref q1) (ty := .array .int) (C := RX2) (T := TX2) (N := 6) hx hb hts inX2 tyX2 tyX2_ok nmX2 hown hK hP hD hS 0 rfl rfl 0 (by decide) (hts _ mw_154) (fun _ h9 => h9) rfl hin rfl (by decide +kernel) rfl rfl (Nat.le_of_ble_eq_true rfl) dX2_init_9 (fun H locs hP hD hS => ?_)
  have hP : va_P (dC, dI) vwCl [(h0, .inr (2, [.ref q1, .null, .null, .int 0, .null, .int 0])), (q1, .inl (y1, 40, .inl (fun _ => 0)))] H := hP
  have hD : va_D A [(h0, .inr (2, [.ref q1, .null, .null, .int 0, .null, .int 0])), (q1, .inl (y1, 40, .inl (fun _ => 0)))] := hD
  refine lv_aload_n hx hb dX2_init_12 rfl (lv_at hl 0 rfl) ?_
  refine lv_bipush (v := 40) hx hb dX2_init_13 (by decide) ?_
  refine va_newa (atype := .int) (ty := .int) (a0 := (40, .inl (fun _ => 0))) hx hb (hts _ mw_72) rfl hK hP hD hS hA (fun _ => rfl) (by decide) (by decide +kernel) (by decide) (Nat.le_of_ble_eq_true rfl) (Nat.le_of_ble_eq_true rfl) dX2_init_15 (fun q2 y2 H hK hP hD hS => ?_)
  refine W.widen (k := 2) (n := 80) (Nat.le_of_ble_eq_true rfl) (Nat.le_of_ble_eq_true rfl) ?_
  have hP : va_P (dC, dI) vwCl [(h0, .inr (2, [.ref q1, .null, .null, .int 0, .null, .int 0])), (q1, .inl (y1, 40, .inl (fun _ => 0))), (q2, .inl (y2, 40, .inl (fun _ => 0)))] H := hP
  have hD : va_D A [(h0, .inr (2, [.ref q1, .null, .null, .int 0, .null, .int 0])), (q1, .inl (y1, 40, .inl (fun _ => 0))), (q2, .inl (y2, 40, .inl (fun _ => 0)))] := hD
  have hK : va_K (dC, dI) vwCl [(y1, .int), (y2, .int)] s := hK
  refine va_putF (D := (dC, dI)) (ci := 2) (v := .ref q2) (ty := .array .int) (C := RX2) (T := TX2) (N := 6) hx hb hts inX2 tyX2 tyX2_ok nmX2 hown hK hP hD hS 0 rfl rfl 1 (by decide) (hts _ mw_156) (fun _ h9 => h9) rfl hin rfl (by decide +kernel) rfl rfl (Nat.le_of_ble_eq_true rfl) dX2_init_17 (fun H locs hP hD hS => ?_)
  have hP : va_P (dC, dI) vwCl [(h0, .inr (2, [.ref q1, .ref q2, .null, .int 0, .null, .int 0])), (q1, .inl (y1, 40, .inl (fun _ => 0))), (q2, .inl (y2, 40, .inl (fun _ => 0)))] H := hP
  have hD : va_D A [(h0, .inr (2, [.ref q1, .ref q2, .null, .int 0, .null, .int 0])), (q1, .inl (y1, 40, .inl (fun _ => 0))), (q2, .inl (y2, 40, .inl (fun _ => 0)))] := hD
  refine lv_aload_n hx hb dX2_init_20 rfl (lv_at hl 0 rfl) ?_
  refine lv_bipush (v := 40) hx hb dX2_init_21 (by decide) ?_
  refine va_newa (atype := .boolean) (ty := .boolean) (a0 := (40, .inl (fun _ => 0))) hx hb (hts _ mw_147) rfl hK hP hD hS hA (fun _ => rfl) (by decide) (by decide +kernel) (by decide) (Nat.le_of_ble_eq_true rfl) (Nat.le_of_ble_eq_true rfl) dX2_init_23 (fun q3 y3 H hK hP hD hS => ?_)
  refine W.widen (k := 3) (n := 120) (Nat.le_of_ble_eq_true rfl) (Nat.le_of_ble_eq_true rfl) ?_
  have hP : va_P (dC, dI) vwCl [(h0, .inr (2, [.ref q1, .ref q2, .null, .int 0, .null, .int 0])), (q1, .inl (y1, 40, .inl (fun _ => 0))), (q2, .inl (y2, 40, .inl (fun _ => 0))), (q3, .inl (y3, 40, .inl (fun _ => 0)))] H := hP
  have hD : va_D A [(h0, .inr (2, [.ref q1, .ref q2, .null, .int 0, .null, .int 0])), (q1, .inl (y1, 40, .inl (fun _ => 0))), (q2, .inl (y2, 40, .inl (fun _ => 0))), (q3, .inl (y3, 40, .inl (fun _ => 0)))] := hD
  have hK : va_K (dC, dI) vwCl [(y1, .int), (y2, .int), (y3, .boolean)] s := hK
  refine va_putF (D := (dC, dI)) (ci := 2) (v := .ref q3) (ty := .array .boolean) (C := RX2) (T := TX2) (N := 6) hx hb hts inX2 tyX2 tyX2_ok nmX2 hown hK hP hD hS 0 rfl rfl 2 (by decide) (hts _ mw_158) (fun _ h9 => h9) rfl hin rfl (by decide +kernel) rfl rfl (Nat.le_of_ble_eq_true rfl) dX2_init_25 (fun H locs hP hD hS => ?_)
  have hP : va_P (dC, dI) vwCl [(h0, .inr (2, [.ref q1, .ref q2, .ref q3, .int 0, .null, .int 0])), (q1, .inl (y1, 40, .inl (fun _ => 0))), (q2, .inl (y2, 40, .inl (fun _ => 0))), (q3, .inl (y3, 40, .inl (fun _ => 0)))] H := hP
  have hD : va_D A [(h0, .inr (2, [.ref q1, .ref q2, .ref q3, .int 0, .null, .int 0])), (q1, .inl (y1, 40, .inl (fun _ => 0))), (q2, .inl (y2, 40, .inl (fun _ => 0))), (q3, .inl (y3, 40, .inl (fun _ => 0)))] := hD
  refine W.widen (k := 3) (n := 120) (Nat.le_of_ble_eq_true rfl) (Nat.le_of_ble_eq_true rfl) ?_
  have hP9 := hP.sub (ws' := [(h0, .inr (2, [.ref q1, .ref q2, .ref q3, .int 0, .null, .int 0])), (q1, .inl (y1, 40, .inl (fun _ => 0))), (q2, .inl (y2, 40, .inl (fun _ => 0))), (q3, .inl (y3, 40, .inl (fun _ => 0)))]) [0, 1, 2, 3] rfl
  have hD9 := hD.sub (ws' := [(h0, .inr (2, [.ref q1, .ref q2, .ref q3, .int 0, .null, .int 0])), (q1, .inl (y1, 40, .inl (fun _ => 0))), (q2, .inl (y2, 40, .inl (fun _ => 0))), (q3, .inl (y3, 40, .inl (fun _ => 0)))]) [0, 1, 2, 3] (by decide) rfl
  have hK9 := hK.sub (tys' := [(y1, .int), (y2, .int), (y3, .boolean)]) [0, 1, 2] rfl
  exact W.vret hx hb hr (fun t ht hW => ⟨⟨(), rfl, trivial, q1, q2, q3, y1, y2, y3, by rw [ht]; exact hP9, va_K.moved hW.alike hK9, hD9⟩, hS.F ht⟩) hS.2.2 dX2_init_28

set_option maxHeartbeats 4000000 in
set_option maxRecDepth 100000 in
theorem c_X5_init (l : Launch) (dC : Nat → ClassId) (dI : Nat → Nat → Nat) (sz : Nat) (h0 : Nat) : Met l yX5_init (Cond.code yX5_init cX5_init 1 none :: gT) ({ frames := 1, cells := 1, slots := 14, locals := 60 }) (va_Pc [.ref h0] (pr (dC, dI) sz [(h0, .inr (5, [.null, .int 0, .int 0, .int 0, .null]))] [])) (va_Qv (fun _ : Unit => True) (fun _ t => ∃ (q1 : Nat) (y1 : ClassId), va_P (dC, dI) vwCl [(h0, .inr (5, [.ref q1, .int 0, .int 0, .int 0, .null])), (q1, .inl (y1, 14, .inl (fun _ => 0)))] t.heap ∧ va_K (dC, dI) vwCl [(y1, .int)] t ∧ va_D (va_A [(h0, .inr (5, [.null, .int 0, .int 0, .int 0, .null]))] sz) [(h0, .inr (5, [.ref q1, .int 0, .int 0, .int 0, .null])), (q1, .inl (y1, 14, .inl (fun _ => 0)))]) (va_A [(h0, .inr (5, [.null, .int 0, .int 0, .int 0, .null]))] sz)) 1 14 (va_A [(h0, .inr (5, [.null, .int 0, .int 0, .int 0, .null]))] sz) := by
  refine Met.ofW (cc := cX5_init) (maxL := 1) (ret := none) (by decide) rfl ?_
  intro p e s m args below meth c s₁ B hml hv
  obtain ⟨rfl, hsz, hP, hK, hD0, hE⟩ := hv
  have hx := B.exec
  have hb := B.bytes
  have hr := B.returns
  have hts : ∀ w ∈ gT, w.before _ s = true := fun w h => atoms_spec (ws := Cond.code yX5_init cX5_init 1 none :: gT) B.pre w (List.mem_cons_of_mem _ h)
  have hown : s.vm.findClass RX5 = some m.cls := findClass_of_methodNamed B.named
  have hlocks := B.notSynchronized
  have hin : meth.name = "<init>" := (name_of_methodNamed B.named B.method).1
  subst hsz
  have hD := hD0.self (sz := s.heap.size)
  generalize hAe : va_A [(h0, .inr (5, [.null, .int 0, .int 0, .int 0, .null]))] s.heap.size = A at hD ⊢
  have hA : ∀ q : Nat, s.heap.size ≤ q → A q := fun q h => by rw [← hAe]; exact Or.inr h
  have hS : va_S A s.heap s.heap [] := va_S.rf
  have hl := lv_entry ([.ref h0]) (n := 1) (Nat.le_of_ble_eq_true rfl)
  rw [lg_entry_eq]
  generalize (lg_sl ([.ref h0]) ++ List.replicate (1 - (lg_sl ([.ref h0])).length) Slot.unset).toArray = ls at hl ⊢
  have hl : lv_has ls 1 [(0, .ref h0)] := hl
  refine lv_aload_n hx hb dX5_init_0 rfl (lv_at hl 0 rfl) ?_
  refine W.objInit hx hb hown (hts _ mw_183) (hts _ mw_24) (hts _ mw_25) rfl (by rw [hml]; exact hl.1) rfl dX5_init_1 (Nat.le_of_ble_eq_true rfl) (Nat.le_of_ble_eq_true rfl) ?_
  refine W.eq (g2 := F0 m 4 ls []) rfl ?_
  refine lv_aload_n hx hb dX5_init_4 rfl (lv_at hl 0 rfl) ?_
  refine lv_bipush (v := 14) hx hb dX5_init_5 (by decide) ?_
  refine va_newa (atype := .int) (ty := .int) (a0 := (14, .inl (fun _ => 0))) hx hb (hts _ mw_72) rfl hK hP hD hS hA (fun _ => rfl) (by decide) (by decide +kernel) (by decide) (Nat.le_of_ble_eq_true rfl) (Nat.le_of_ble_eq_true rfl) dX5_init_7 (fun q1 y1 H hK hP hD hS => ?_)
  refine W.widen (k := 1) (n := 14) (Nat.le_of_ble_eq_true rfl) (Nat.le_of_ble_eq_true rfl) ?_
  have hP : va_P (dC, dI) vwCl [(h0, .inr (5, [.null, .int 0, .int 0, .int 0, .null])), (q1, .inl (y1, 14, .inl (fun _ => 0)))] H := hP
  have hD : va_D A [(h0, .inr (5, [.null, .int 0, .int 0, .int 0, .null])), (q1, .inl (y1, 14, .inl (fun _ => 0)))] := hD
  have hK : va_K (dC, dI) vwCl [(y1, .int)] s := hK
  refine va_putF (D := (dC, dI)) (ci := 5) (v := .ref q1) (ty := .array .int) (C := RX5) (T := TX5) (N := 5) hx hb hts inX5 tyX5 tyX5_ok nmX5 hown hK hP hD hS 0 rfl rfl 0 (by decide) (hts _ mw_184) (fun _ h9 => h9) rfl hin rfl (by decide +kernel) rfl rfl (Nat.le_of_ble_eq_true rfl) dX5_init_9 (fun H locs hP hD hS => ?_)
  have hP : va_P (dC, dI) vwCl [(h0, .inr (5, [.ref q1, .int 0, .int 0, .int 0, .null])), (q1, .inl (y1, 14, .inl (fun _ => 0)))] H := hP
  have hD : va_D A [(h0, .inr (5, [.ref q1, .int 0, .int 0, .int 0, .null])), (q1, .inl (y1, 14, .inl (fun _ => 0)))] := hD
  refine W.widen (k := 1) (n := 14) (Nat.le_of_ble_eq_true rfl) (Nat.le_of_ble_eq_true rfl) ?_
  have hP9 := hP.sub (ws' := [(h0, .inr (5, [.ref q1, .int 0, .int 0, .int 0, .null])), (q1, .inl (y1, 14, .inl (fun _ => 0)))]) [0, 1] rfl
  have hD9 := hD.sub (ws' := [(h0, .inr (5, [.ref q1, .int 0, .int 0, .int 0, .null])), (q1, .inl (y1, 14, .inl (fun _ => 0)))]) [0, 1] (by decide) rfl
  have hK9 := hK.sub (tys' := [(y1, .int)]) [0] rfl
  exact W.vret hx hb hr (fun t ht hW => ⟨⟨(), rfl, trivial, q1, y1, by rw [ht]; exact hP9, va_K.moved hW.alike hK9, hD9⟩, hS.F ht⟩) hS.2.2 dX5_init_12

set_option maxHeartbeats 4000000 in
set_option maxRecDepth 100000 in
theorem c_X7_init (l : Launch) (dC : Nat → ClassId) (dI : Nat → Nat → Nat) (sz : Nat) (h0 : Nat) : Met l yX7_init (Cond.code yX7_init cX7_init 1 none :: gT) ({ frames := 1, cells := 2, slots := 120, locals := 60 }) (va_Pc [.ref h0] (pr (dC, dI) sz [(h0, .inr (7, [.null, .null, .int 0, .int 0]))] [])) (va_Qv (fun _ : Unit => True) (fun _ t => ∃ (q1 q2 : Nat) (y1 y2 : ClassId), va_P (dC, dI) vwCl [(h0, .inr (7, [.ref q1, .ref q2, .int 0, .int 0])), (q1, .inl (y1, 60, .inl (fun _ => 0))), (q2, .inl (y2, 60, .inl (fun _ => 0)))] t.heap ∧ va_K (dC, dI) vwCl [(y1, .int), (y2, .boolean)] t ∧ va_D (va_A [(h0, .inr (7, [.null, .null, .int 0, .int 0]))] sz) [(h0, .inr (7, [.ref q1, .ref q2, .int 0, .int 0])), (q1, .inl (y1, 60, .inl (fun _ => 0))), (q2, .inl (y2, 60, .inl (fun _ => 0)))]) (va_A [(h0, .inr (7, [.null, .null, .int 0, .int 0]))] sz)) 2 120 (va_A [(h0, .inr (7, [.null, .null, .int 0, .int 0]))] sz) := by
  refine Met.ofW (cc := cX7_init) (maxL := 1) (ret := none) (by decide) rfl ?_
  intro p e s m args below meth c s₁ B hml hv
  obtain ⟨rfl, hsz, hP, hK, hD0, hE⟩ := hv
  have hx := B.exec
  have hb := B.bytes
  have hr := B.returns
  have hts : ∀ w ∈ gT, w.before _ s = true := fun w h => atoms_spec (ws := Cond.code yX7_init cX7_init 1 none :: gT) B.pre w (List.mem_cons_of_mem _ h)
  have hown : s.vm.findClass RX7 = some m.cls := findClass_of_methodNamed B.named
  have hlocks := B.notSynchronized
  have hin : meth.name = "<init>" := (name_of_methodNamed B.named B.method).1
  subst hsz
  have hD := hD0.self (sz := s.heap.size)
  generalize hAe : va_A [(h0, .inr (7, [.null, .null, .int 0, .int 0]))] s.heap.size = A at hD ⊢
  have hA : ∀ q : Nat, s.heap.size ≤ q → A q := fun q h => by rw [← hAe]; exact Or.inr h
  have hS : va_S A s.heap s.heap [] := va_S.rf
  have hl := lv_entry ([.ref h0]) (n := 1) (Nat.le_of_ble_eq_true rfl)
  rw [lg_entry_eq]
  generalize (lg_sl ([.ref h0]) ++ List.replicate (1 - (lg_sl ([.ref h0])).length) Slot.unset).toArray = ls at hl ⊢
  have hl : lv_has ls 1 [(0, .ref h0)] := hl
  refine lv_aload_n hx hb dX7_init_0 rfl (lv_at hl 0 rfl) ?_
  refine W.objInit hx hb hown (hts _ mw_286) (hts _ mw_24) (hts _ mw_25) rfl (by rw [hml]; exact hl.1) rfl dX7_init_1 (Nat.le_of_ble_eq_true rfl) (Nat.le_of_ble_eq_true rfl) ?_
  refine W.eq (g2 := F0 m 4 ls []) rfl ?_
  refine lv_aload_n hx hb dX7_init_4 rfl (lv_at hl 0 rfl) ?_
  refine lv_bipush (v := 60) hx hb dX7_init_5 (by decide) ?_
  refine va_newa (atype := .int) (ty := .int) (a0 := (60, .inl (fun _ => 0))) hx hb (hts _ mw_72) rfl hK hP hD hS hA (fun _ => rfl) (by decide) (by decide +kernel) (by decide) (Nat.le_of_ble_eq_true rfl) (Nat.le_of_ble_eq_true rfl) dX7_init_7 (fun q1 y1 H hK hP hD hS => ?_)
  refine W.widen (k := 1) (n := 60) (Nat.le_of_ble_eq_true rfl) (Nat.le_of_ble_eq_true rfl) ?_
  have hP : va_P (dC, dI) vwCl [(h0, .inr (7, [.null, .null, .int 0, .int 0])), (q1, .inl (y1, 60, .inl (fun _ => 0)))] H := hP
  have hD : va_D A [(h0, .inr (7, [.null, .null, .int 0, .int 0])), (q1, .inl (y1, 60, .inl (fun _ => 0)))] := hD
  have hK : va_K (dC, dI) vwCl [(y1, .int)] s := hK
  refine va_putF (D := (dC, dI)) (ci := 7) (v := .ref q1) (ty := .array .int) (C := RX7) (T := TX7) (N := 4) hx hb hts inX7 tyX7 tyX7_ok nmX7 hown hK hP hD hS 0 rfl rfl 0 (by decide) (hts _ mw_287) (fun _ h9 => h9) rfl hin rfl (by decide +kernel) rfl rfl (Nat.le_of_ble_eq_true rfl) dX7_init_9 (fun H locs hP hD hS => ?_)
  have hP : va_P (dC, dI) vwCl [(h0, .inr (7, [.ref q1, .null, .int 0, .int 0])), (q1, .inl (y1, 60, .inl (fun _ => 0)))] H := hP
  have hD : va_D A [(h0, .inr (7, [.ref q1, .null, .int 0, .int 0])), (q1, .inl (y1, 60, .inl (fun _ => 0)))] := hD
  refine lv_aload_n hx hb dX7_init_12 rfl (lv_at hl 0 rfl) ?_
  refine lv_bipush (v := 60) hx hb dX7_init_13 (by decide) ?_
  refine va_newa (atype := .boolean) (ty := .boolean) (a0 := (60, .inl (fun _ => 0))) hx hb (hts _ mw_147) rfl hK hP hD hS hA (fun _ => rfl) (by decide) (by decide +kernel) (by decide) (Nat.le_of_ble_eq_true rfl) (Nat.le_of_ble_eq_true rfl) dX7_init_15 (fun q2 y2 H hK hP hD hS => ?_)
  refine W.widen (k := 2) (n := 120) (Nat.le_of_ble_eq_true rfl) (Nat.le_of_ble_eq_true rfl) ?_
  have hP : va_P (dC, dI) vwCl [(h0, .inr (7, [.ref q1, .null, .int 0, .int 0])), (q1, .inl (y1, 60, .inl (fun _ => 0))), (q2, .inl (y2, 60, .inl (fun _ => 0)))] H := hP
  have hD : va_D A [(h0, .inr (7, [.ref q1, .null, .int 0, .int 0])), (q1, .inl (y1, 60, .inl (fun _ => 0))), (q2, .inl (y2, 60, .inl (fun _ => 0)))] := hD
  have hK : va_K (dC, dI) vwCl [(y1, .int), (y2, .boolean)] s := hK
  refine va_putF (D := (dC, dI)) (ci := 7) (v := .ref q2) (ty := .array .boolean) (C := RX7) (T := TX7) (N := 4) hx hb hts inX7 tyX7 tyX7_ok nmX7 hown hK hP hD hS 0 rfl rfl 1 (by decide) (hts _ mw_289) (fun _ h9 => h9) rfl hin rfl (by decide +kernel) rfl rfl (Nat.le_of_ble_eq_true rfl) dX7_init_17 (fun H locs hP hD hS => ?_)
  have hP : va_P (dC, dI) vwCl [(h0, .inr (7, [.ref q1, .ref q2, .int 0, .int 0])), (q1, .inl (y1, 60, .inl (fun _ => 0))), (q2, .inl (y2, 60, .inl (fun _ => 0)))] H := hP
  have hD : va_D A [(h0, .inr (7, [.ref q1, .ref q2, .int 0, .int 0])), (q1, .inl (y1, 60, .inl (fun _ => 0))), (q2, .inl (y2, 60, .inl (fun _ => 0)))] := hD
  refine W.widen (k := 2) (n := 120) (Nat.le_of_ble_eq_true rfl) (Nat.le_of_ble_eq_true rfl) ?_
  have hP9 := hP.sub (ws' := [(h0, .inr (7, [.ref q1, .ref q2, .int 0, .int 0])), (q1, .inl (y1, 60, .inl (fun _ => 0))), (q2, .inl (y2, 60, .inl (fun _ => 0)))]) [0, 1, 2] rfl
  have hD9 := hD.sub (ws' := [(h0, .inr (7, [.ref q1, .ref q2, .int 0, .int 0])), (q1, .inl (y1, 60, .inl (fun _ => 0))), (q2, .inl (y2, 60, .inl (fun _ => 0)))]) [0, 1, 2] (by decide) rfl
  have hK9 := hK.sub (tys' := [(y1, .int), (y2, .boolean)]) [0, 1] rfl
  exact W.vret hx hb hr (fun t ht hW => ⟨⟨(), rfl, trivial, q1, q2, y1, y2, by rw [ht]; exact hP9, va_K.moved hW.alike hK9, hD9⟩, hS.F ht⟩) hS.2.2 dX7_init_20

set_option maxHeartbeats 4000000 in
set_option maxRecDepth 100000 in
theorem c_X4_init (l : Launch) (dC : Nat → ClassId) (dI : Nat → Nat → Nat) (sz : Nat) (h0 : Nat) (v1 v2 : Int32) : Met l yX4_init (Cond.code yX4_init cX4_init 3 none :: gT) ({ frames := 1, cells := 0, slots := 0, locals := 60 }) (va_Pc [.ref h0, .int v1, .int v2] (pr (dC, dI) sz [(h0, .inr (4, [.int 0, .int 0]))] [])) (va_Qv (fun _ : Unit => True) (fun _ t => va_P (dC, dI) vwCl [(h0, .inr (4, [.int v1, .int v2]))] t.heap ∧ va_K (dC, dI) vwCl [] t ∧ va_D (va_A [(h0, .inr (4, [.int 0, .int 0]))] sz) [(h0, .inr (4, [.int v1, .int v2]))]) (va_A [(h0, .inr (4, [.int 0, .int 0]))] sz)) 0 0 (va_A [(h0, .inr (4, [.int 0, .int 0]))] sz) := by
  refine Met.ofW (cc := cX4_init) (maxL := 3) (ret := none) (by decide) rfl ?_
  intro p e s m args below meth c s₁ B hml hv
  obtain ⟨rfl, hsz, hP, hK, hD0, hE⟩ := hv
  have hx := B.exec
  have hb := B.bytes
  have hr := B.returns
  have hts : ∀ w ∈ gT, w.before _ s = true := fun w h => atoms_spec (ws := Cond.code yX4_init cX4_init 3 none :: gT) B.pre w (List.mem_cons_of_mem _ h)
  have hown : s.vm.findClass RX4 = some m.cls := findClass_of_methodNamed B.named
  have hlocks := B.notSynchronized
  have hin : meth.name = "<init>" := (name_of_methodNamed B.named B.method).1
  subst hsz
  have hD := hD0.self (sz := s.heap.size)
  generalize hAe : va_A [(h0, .inr (4, [.int 0, .int 0]))] s.heap.size = A at hD ⊢
  have hA : ∀ q : Nat, s.heap.size ≤ q → A q := fun q h => by rw [← hAe]; exact Or.inr h
  have hS : va_S A s.heap s.heap [] := va_S.rf
  have hl := lv_entry ([.ref h0, .int v1, .int v2]) (n := 3) (Nat.le_of_ble_eq_true rfl)
  rw [lg_entry_eq]
  generalize (lg_sl ([.ref h0, .int v1, .int v2]) ++ List.replicate (3 - (lg_sl ([.ref h0, .int v1, .int v2])).length) Slot.unset).toArray = ls at hl ⊢
  have hl : lv_has ls 3 [(0, .ref h0), (1, .int v1), (2, .int v2)] := hl
  refine lv_aload_n hx hb dX4_init_0 rfl (lv_at hl 0 rfl) ?_
  refine W.objInit hx hb hown (hts _ mw_259) (hts _ mw_24) (hts _ mw_25) rfl (by rw [hml]; exact hl.1) rfl dX4_init_1 (Nat.le_of_ble_eq_true rfl) (Nat.le_of_ble_eq_true rfl) ?_
  refine W.eq (g2 := F0 m 4 ls []) rfl ?_
  refine lv_aload_n hx hb dX4_init_4 rfl (lv_at hl 0 rfl) ?_
  refine lv_iload_n hx hb dX4_init_5 rfl (lv_at hl 1 rfl) ?_
  refine va_put (D := (dC, dI)) (ci := 4) (v := .int v1) (ty := .int) (C := RX4) (T := TX4) (N := 2) hx hb hts inX4 tyX4 tyX4_ok nmX4 hown hK hP hD hS 0 rfl rfl 0 (by decide) (hts _ mw_260) (fun _ h9 => h9) rfl (by decide +kernel) rfl rfl (Nat.le_of_ble_eq_true rfl) dX4_init_6 (fun H locs hP hD hS => ?_)
  have hP : va_P (dC, dI) vwCl [(h0, .inr (4, [.int v1, .int 0]))] H := hP
  have hD : va_D A [(h0, .inr (4, [.int v1, .int 0]))] := hD
  refine lv_aload_n hx hb dX4_init_9 rfl (lv_at hl 0 rfl) ?_
  refine lv_iload_n hx hb dX4_init_10 rfl (lv_at hl 2 rfl) ?_
  refine va_putF (D := (dC, dI)) (ci := 4) (v := .int v2) (ty := .int) (C := RX4) (T := TX4) (N := 2) hx hb hts inX4 tyX4 tyX4_ok nmX4 hown hK hP hD hS 0 rfl rfl 1 (by decide) (hts _ mw_262) (fun _ h9 => h9) rfl hin rfl (by decide +kernel) rfl rfl (Nat.le_of_ble_eq_true rfl) dX4_init_11 (fun H locs hP hD hS => ?_)
  have hP : va_P (dC, dI) vwCl [(h0, .inr (4, [.int v1, .int v2]))] H := hP
  have hD : va_D A [(h0, .inr (4, [.int v1, .int v2]))] := hD
  refine W.widen (k := 0) (n := 0) (Nat.le_of_ble_eq_true rfl) (Nat.le_of_ble_eq_true rfl) ?_
  have hP9 := hP.sub (ws' := [(h0, .inr (4, [.int v1, .int v2]))]) [0] rfl
  have hD9 := hD.sub (ws' := [(h0, .inr (4, [.int v1, .int v2]))]) [0] (by decide) rfl
  have hK9 := hK.sub (tys' := []) [] rfl
  exact W.vret hx hb hr (fun t ht hW => ⟨⟨(), rfl, trivial, by rw [ht]; exact hP9, va_K.moved hW.alike hK9, hD9⟩, hS.F ht⟩) hS.2.2 dX4_init_14

set_option maxHeartbeats 4000000 in
set_option maxRecDepth 100000 in
theorem c_X0_init (l : Launch) (dC : Nat → ClassId) (dI : Nat → Nat → Nat) (sz : Nat) (h0 : Nat) (v1 : Int32) : Met l yX0_init (Cond.code yX0_init cX0_init 2 none :: gT) ({ frames := 2, cells := 3, slots := 124, locals := 80 }) (va_Pc [.ref h0, .int v1] (pr (dC, dI) sz [(h0, .inr (0, [.int 0, .null, .int 0, .int 0, .long 0, .int 0, .int 0, .int 0, .int 0, .int 0, .int 0, .int 0, .int 0, .int 0, .int 0, .int 0]))] [])) (va_Qv (fun _ : Unit => True) (fun _ t => ∃ (q1 q1_2 q2_2 : Nat) (y1_2 y2_2 : ClassId), va_P (dC, dI) vwCl [(h0, .inr (0, [.int v1, .ref q1, .int 0, .int 0, .long 0, .int 0, .int 0, .int 0, .int 0, .int (-1000001), .int (-1), .int (-1), .int 0, .int 0, .int 0, .int 0])), (q1, .inr (7, [.ref q1_2, .ref q2_2, .int 0, .int 0])), (q1_2, .inl (y1_2, 60, .inl (fun _ => 0))), (q2_2, .inl (y2_2, 60, .inl (fun _ => 0)))] t.heap ∧ va_K (dC, dI) vwCl [(y1_2, .int), (y2_2, .boolean)] t ∧ va_D (va_A [(h0, .inr (0, [.int 0, .null, .int 0, .int 0, .long 0, .int 0, .int 0, .int 0, .int 0, .int 0, .int 0, .int 0, .int 0, .int 0, .int 0, .int 0]))] sz) [(h0, .inr (0, [.int v1, .ref q1, .int 0, .int 0, .long 0, .int 0, .int 0, .int 0, .int 0, .int (-1000001), .int (-1), .int (-1), .int 0, .int 0, .int 0, .int 0])), (q1, .inr (7, [.ref q1_2, .ref q2_2, .int 0, .int 0])), (q1_2, .inl (y1_2, 60, .inl (fun _ => 0))), (q2_2, .inl (y2_2, 60, .inl (fun _ => 0)))]) (va_A [(h0, .inr (0, [.int 0, .null, .int 0, .int 0, .long 0, .int 0, .int 0, .int 0, .int 0, .int 0, .int 0, .int 0, .int 0, .int 0, .int 0, .int 0]))] sz)) 3 124 (va_A [(h0, .inr (0, [.int 0, .null, .int 0, .int 0, .long 0, .int 0, .int 0, .int 0, .int 0, .int 0, .int 0, .int 0, .int 0, .int 0, .int 0, .int 0]))] sz) := by
  refine Met.ofW (cc := cX0_init) (maxL := 2) (ret := none) (by decide) rfl ?_
  intro p e s m args below meth c s₁ B hml hv
  obtain ⟨rfl, hsz, hP, hK, hD0, hE⟩ := hv
  have hx := B.exec
  have hb := B.bytes
  have hr := B.returns
  have hts : ∀ w ∈ gT, w.before _ s = true := fun w h => atoms_spec (ws := Cond.code yX0_init cX0_init 2 none :: gT) B.pre w (List.mem_cons_of_mem _ h)
  have hown : s.vm.findClass RX0 = some m.cls := findClass_of_methodNamed B.named
  have hlocks := B.notSynchronized
  have hin : meth.name = "<init>" := (name_of_methodNamed B.named B.method).1
  subst hsz
  have hD := hD0.self (sz := s.heap.size)
  generalize hAe : va_A [(h0, .inr (0, [.int 0, .null, .int 0, .int 0, .long 0, .int 0, .int 0, .int 0, .int 0, .int 0, .int 0, .int 0, .int 0, .int 0, .int 0, .int 0]))] s.heap.size = A at hD ⊢
  have hA : ∀ q : Nat, s.heap.size ≤ q → A q := fun q h => by rw [← hAe]; exact Or.inr h
  have hS : va_S A s.heap s.heap [] := va_S.rf
  have hl := lv_entry ([.ref h0, .int v1]) (n := 2) (Nat.le_of_ble_eq_true rfl)
  rw [lg_entry_eq]
  generalize (lg_sl ([.ref h0, .int v1]) ++ List.replicate (2 - (lg_sl ([.ref h0, .int v1])).length) Slot.unset).toArray = ls at hl ⊢
  have hl : lv_has ls 2 [(0, .ref h0), (1, .int v1)] := hl
  refine lv_aload_n hx hb dX0_init_0 rfl (lv_at hl 0 rfl) ?_
  refine W.objInit hx hb hown (hts _ mw_280) (hts _ mw_24) (hts _ mw_25) rfl (by rw [hml]; exact hl.1) rfl dX0_init_1 (Nat.le_of_ble_eq_true rfl) (Nat.le_of_ble_eq_true rfl) ?_
  refine W.eq (g2 := F0 m 4 ls []) rfl ?_
  refine lv_aload_n hx hb dX0_init_4 rfl (lv_at hl 0 rfl) ?_
  refine va_new (ci := 7) (fs := [.null, .null, .int 0, .int 0]) (C := RX7) (T := TX7) (N := 4) hx hb hts inX7 tyX7 tyX7_ok hown (hts _ mw_281) (hts _ mw_282) (hts _ mw_11) hK hP hD hS hA rfl dfX7 (Nat.le_of_ble_eq_true rfl) (Nat.le_of_ble_eq_true rfl) dX0_init_5 (fun q1 H hP hD hS => ?_)
  refine W.widen (k := 1) (n := 4) (Nat.le_of_ble_eq_true rfl) (Nat.le_of_ble_eq_true rfl) ?_
  have hP : va_P (dC, dI) vwCl [(h0, .inr (0, [.int 0, .null, .int 0, .int 0, .long 0, .int 0, .int 0, .int 0, .int 0, .int 0, .int 0, .int 0, .int 0, .int 0, .int 0, .int 0])), (q1, .inr (7, [.null, .null, .int 0, .int 0]))] H := hP
  have hD : va_D A [(h0, .inr (0, [.int 0, .null, .int 0, .int 0, .long 0, .int 0, .int 0, .int 0, .int 0, .int 0, .int 0, .int 0, .int 0, .int 0, .int 0, .int 0])), (q1, .inr (7, [.null, .null, .int 0, .int 0]))] := hD
  refine lv_dup hx hb dX0_init_8 rfl ?_
  have hPc := hP.sub (ws' := [(q1, .inr (7, [.null, .null, .int 0, .int 0]))]) [1] rfl
  have hKc := hK.sub (tys' := []) [] rfl
  have hDc := hD.sub (ws' := [(q1, .inr (7, [.null, .null, .int 0, .int 0]))]) [1] (by decide) rfl
  have hFc := va_free (wc := [(q1, .inr (7, [.null, .null, .int 0, .int 0]))]) hD hS hA [1] rfl
  refine va_callv (va_runI (As := []) (rest := [.ref q1, .ref h0]) ⟨hx, hb, hml, hown, hts⟩ (c_X7_init l dC dI H.size q1) (⟨callB_of 0 hts (gd mw_285) rfl rfl rfl (hts _ mw_11) (hts _ mw_283) ds_X7_init ⟨Nat.le_of_ble_eq_true rfl, Nat.le_of_ble_eq_true rfl⟩, rfl, (hts _ mw_284)⟩) (pr_S hPc hKc hDc hE) rfl rfl hl.1 rfl (lv_room (Nat.le_of_ble_eq_true rfl)) dX0_init_9 ⟨Nat.le_of_ble_eq_true rfl, Nat.le_of_ble_eq_true rfl⟩) hS (fun q _ h => hFc q h) hFc (fun u_ t_ H1 locs ht hvm hw_ hB hz1 hk1 hS => ?_)
  obtain ⟨q1_2, q2_2, y1_2, y2_2, hP1, hK1, hD1⟩ := hB
  rw [ht] at hP1
  have hK1 := va_K.moved hvm.symm hK1
  obtain ⟨hP, hD⟩ := va_join (wr := [(h0, .inr (0, [.int 0, .null, .int 0, .int 0, .long 0, .int 0, .int 0, .int 0, .int 0, .int 0, .int 0, .int 0, .int 0, .int 0, .int 0, .int 0]))]) (w1 := [(q1, .inr (7, [.ref q1_2, .ref q2_2, .int 0, .int 0])), (q1_2, .inl (y1_2, 60, .inl (fun _ => 0))), (q2_2, .inl (y2_2, 60, .inl (fun _ => 0)))]) hP hD [1] [0] rfl rfl (by decide) (by decide) hk1 hFc hP1 hD1
  have hK := hK.app hK1
  generalize H1 = H at hP hS ⊢
  have hP : va_P (dC, dI) vwCl [(h0, .inr (0, [.int 0, .null, .int 0, .int 0, .long 0, .int 0, .int 0, .int 0, .int 0, .int 0, .int 0, .int 0, .int 0, .int 0, .int 0, .int 0])), (q1, .inr (7, [.ref q1_2, .ref q2_2, .int 0, .int 0])), (q1_2, .inl (y1_2, 60, .inl (fun _ => 0))), (q2_2, .inl (y2_2, 60, .inl (fun _ => 0)))] H := hP
  have hD : va_D A [(h0, .inr (0, [.int 0, .null, .int 0, .int 0, .long 0, .int 0, .int 0, .int 0, .int 0, .int 0, .int 0, .int 0, .int 0, .int 0, .int 0, .int 0])), (q1, .inr (7, [.ref q1_2, .ref q2_2, .int 0, .int 0])), (q1_2, .inl (y1_2, 60, .inl (fun _ => 0))), (q2_2, .inl (y2_2, 60, .inl (fun _ => 0)))] := hD
  have hK : va_K (dC, dI) vwCl [(y1_2, .int), (y2_2, .boolean)] s := hK
  refine W.widen (k := 3) (n := 124) (Nat.le_of_ble_eq_true rfl) (Nat.le_of_ble_eq_true rfl) ?_
  refine va_putF (D := (dC, dI)) (ci := 0) (v := .ref q1) (ty := .object "SugarKitchen$Rows") (C := RX0) (T := TX0) (N := 16) hx hb hts inX0 tyX0 tyX0_ok nmX0 hown hK hP hD hS 0 rfl rfl 1 (by decide) (hts _ mw_307) (fun _ h9 => h9) rfl hin rfl (by decide +kernel) rfl rfl (Nat.le_of_ble_eq_true rfl) dX0_init_12 (fun H locs hP hD hS => ?_)
  have hP : va_P (dC, dI) vwCl [(h0, .inr (0, [.int 0, .ref q1, .int 0, .int 0, .long 0, .int 0, .int 0, .int 0, .int 0, .int 0, .int 0, .int 0, .int 0, .int 0, .int 0, .int 0])), (q1, .inr (7, [.ref q1_2, .ref q2_2, .int 0, .int 0])), (q1_2, .inl (y1_2, 60, .inl (fun _ => 0))), (q2_2, .inl (y2_2, 60, .inl (fun _ => 0)))] H := hP
  have hD : va_D A [(h0, .inr (0, [.int 0, .ref q1, .int 0, .int 0, .long 0, .int 0, .int 0, .int 0, .int 0, .int 0, .int 0, .int 0, .int 0, .int 0, .int 0, .int 0])), (q1, .inr (7, [.ref q1_2, .ref q2_2, .int 0, .int 0])), (q1_2, .inl (y1_2, 60, .inl (fun _ => 0))), (q2_2, .inl (y2_2, 60, .inl (fun _ => 0)))] := hD
  refine lv_aload_n hx hb dX0_init_15 rfl (lv_at hl 0 rfl) ?_
  refine lv_ldc (v := (-1000001)) hx hb hown (hts _ mw_303) dX0_init_16 ?_
  refine va_put (D := (dC, dI)) (ci := 0) (v := .int (-1000001)) (ty := .int) (C := RX0) (T := TX0) (N := 16) hx hb hts inX0 tyX0 tyX0_ok nmX0 hown hK hP hD hS 0 rfl rfl 9 (by decide) (hts _ mw_321) (fun _ h9 => h9) rfl (by decide +kernel) rfl rfl (Nat.le_of_ble_eq_true rfl) dX0_init_18 (fun H locs hP hD hS => ?_)
  have hP : va_P (dC, dI) vwCl [(h0, .inr (0, [.int 0, .ref q1, .int 0, .int 0, .long 0, .int 0, .int 0, .int 0, .int 0, .int (-1000001), .int 0, .int 0, .int 0, .int 0, .int 0, .int 0])), (q1, .inr (7, [.ref q1_2, .ref q2_2, .int 0, .int 0])), (q1_2, .inl (y1_2, 60, .inl (fun _ => 0))), (q2_2, .inl (y2_2, 60, .inl (fun _ => 0)))] H := hP
  have hD : va_D A [(h0, .inr (0, [.int 0, .ref q1, .int 0, .int 0, .long 0, .int 0, .int 0, .int 0, .int 0, .int (-1000001), .int 0, .int 0, .int 0, .int 0, .int 0, .int 0])), (q1, .inr (7, [.ref q1_2, .ref q2_2, .int 0, .int 0])), (q1_2, .inl (y1_2, 60, .inl (fun _ => 0))), (q2_2, .inl (y2_2, 60, .inl (fun _ => 0)))] := hD
  refine lv_aload_n hx hb dX0_init_21 rfl (lv_at hl 0 rfl) ?_
  refine lv_iconst (v := (-1)) hx hb dX0_init_22 (by decide) ?_
  refine va_put (D := (dC, dI)) (ci := 0) (v := .int (-1)) (ty := .int) (C := RX0) (T := TX0) (N := 16) hx hb hts inX0 tyX0 tyX0_ok nmX0 hown hK hP hD hS 0 rfl rfl 10 (by decide) (hts _ mw_322) (fun _ h9 => h9) rfl (by decide +kernel) rfl rfl (Nat.le_of_ble_eq_true rfl) dX0_init_23 (fun H locs hP hD hS => ?_)
  have hP : va_P (dC, dI) vwCl [(h0, .inr (0, [.int 0, .ref q1, .int 0, .int 0, .long 0, .int 0, .int 0, .int 0, .int 0, .int (-1000001), .int (-1), .int 0, .int 0, .int 0, .int 0, .int 0])), (q1, .inr (7, [.ref q1_2, .ref q2_2, .int 0, .int 0])), (q1_2, .inl (y1_2, 60, .inl (fun _ => 0))), (q2_2, .inl (y2_2, 60, .inl (fun _ => 0)))] H := hP
  have hD : va_D A [(h0, .inr (0, [.int 0, .ref q1, .int 0, .int 0, .long 0, .int 0, .int 0, .int 0, .int 0, .int (-1000001), .int (-1), .int 0, .int 0, .int 0, .int 0, .int 0])), (q1, .inr (7, [.ref q1_2, .ref q2_2, .int 0, .int 0])), (q1_2, .inl (y1_2, 60, .inl (fun _ => 0))), (q2_2, .inl (y2_2, 60, .inl (fun _ => 0)))] := hD
  refine lv_aload_n hx hb dX0_init_26 rfl (lv_at hl 0 rfl) ?_
  refine lv_iconst (v := (-1)) hx hb dX0_init_27 (by decide) ?_
  refine va_put (D := (dC, dI)) (ci := 0) (v := .int (-1)) (ty := .int) (C := RX0) (T := TX0) (N := 16) hx hb hts inX0 tyX0 tyX0_ok nmX0 hown hK hP hD hS 0 rfl rfl 11 (by decide) (hts _ mw_323) (fun _ h9 => h9) rfl (by decide +kernel) rfl rfl (Nat.le_of_ble_eq_true rfl) dX0_init_28 (fun H locs hP hD hS => ?_)
  have hP : va_P (dC, dI) vwCl [(h0, .inr (0, [.int 0, .ref q1, .int 0, .int 0, .long 0, .int 0, .int 0, .int 0, .int 0, .int (-1000001), .int (-1), .int (-1), .int 0, .int 0, .int 0, .int 0])), (q1, .inr (7, [.ref q1_2, .ref q2_2, .int 0, .int 0])), (q1_2, .inl (y1_2, 60, .inl (fun _ => 0))), (q2_2, .inl (y2_2, 60, .inl (fun _ => 0)))] H := hP
  have hD : va_D A [(h0, .inr (0, [.int 0, .ref q1, .int 0, .int 0, .long 0, .int 0, .int 0, .int 0, .int 0, .int (-1000001), .int (-1), .int (-1), .int 0, .int 0, .int 0, .int 0])), (q1, .inr (7, [.ref q1_2, .ref q2_2, .int 0, .int 0])), (q1_2, .inl (y1_2, 60, .inl (fun _ => 0))), (q2_2, .inl (y2_2, 60, .inl (fun _ => 0)))] := hD
  refine lv_aload_n hx hb dX0_init_31 rfl (lv_at hl 0 rfl) ?_
  refine lv_iload_n hx hb dX0_init_32 rfl (lv_at hl 1 rfl) ?_
  refine va_putF (D := (dC, dI)) (ci := 0) (v := .int v1) (ty := .int) (C := RX0) (T := TX0) (N := 16) hx hb hts inX0 tyX0 tyX0_ok nmX0 hown hK hP hD hS 0 rfl rfl 0 (by decide) (hts _ mw_305) (fun _ h9 => h9) rfl hin rfl (by decide +kernel) rfl rfl (Nat.le_of_ble_eq_true rfl) dX0_init_33 (fun H locs hP hD hS => ?_)
  have hP : va_P (dC, dI) vwCl [(h0, .inr (0, [.int v1, .ref q1, .int 0, .int 0, .long 0, .int 0, .int 0, .int 0, .int 0, .int (-1000001), .int (-1), .int (-1), .int 0, .int 0, .int 0, .int 0])), (q1, .inr (7, [.ref q1_2, .ref q2_2, .int 0, .int 0])), (q1_2, .inl (y1_2, 60, .inl (fun _ => 0))), (q2_2, .inl (y2_2, 60, .inl (fun _ => 0)))] H := hP
  have hD : va_D A [(h0, .inr (0, [.int v1, .ref q1, .int 0, .int 0, .long 0, .int 0, .int 0, .int 0, .int 0, .int (-1000001), .int (-1), .int (-1), .int 0, .int 0, .int 0, .int 0])), (q1, .inr (7, [.ref q1_2, .ref q2_2, .int 0, .int 0])), (q1_2, .inl (y1_2, 60, .inl (fun _ => 0))), (q2_2, .inl (y2_2, 60, .inl (fun _ => 0)))] := hD
  refine W.widen (k := 3) (n := 124) (Nat.le_of_ble_eq_true rfl) (Nat.le_of_ble_eq_true rfl) ?_
  have hP9 := hP.sub (ws' := [(h0, .inr (0, [.int v1, .ref q1, .int 0, .int 0, .long 0, .int 0, .int 0, .int 0, .int 0, .int (-1000001), .int (-1), .int (-1), .int 0, .int 0, .int 0, .int 0])), (q1, .inr (7, [.ref q1_2, .ref q2_2, .int 0, .int 0])), (q1_2, .inl (y1_2, 60, .inl (fun _ => 0))), (q2_2, .inl (y2_2, 60, .inl (fun _ => 0)))]) [0, 1, 2, 3] rfl
  have hD9 := hD.sub (ws' := [(h0, .inr (0, [.int v1, .ref q1, .int 0, .int 0, .long 0, .int 0, .int 0, .int 0, .int 0, .int (-1000001), .int (-1), .int (-1), .int 0, .int 0, .int 0, .int 0])), (q1, .inr (7, [.ref q1_2, .ref q2_2, .int 0, .int 0])), (q1_2, .inl (y1_2, 60, .inl (fun _ => 0))), (q2_2, .inl (y2_2, 60, .inl (fun _ => 0)))]) [0, 1, 2, 3] (by decide) rfl
  have hK9 := hK.sub (tys' := [(y1_2, .int), (y2_2, .boolean)]) [0, 1] rfl
  exact W.vret hx hb hr (fun t ht hW => ⟨⟨(), rfl, trivial, q1, q1_2, q2_2, y1_2, y2_2, by rw [ht]; exact hP9, va_K.moved hW.alike hK9, hD9⟩, hS.F ht⟩) hS.2.2 dX0_init_36
