theorem bx_ix {w3 v : Int32} {bl : Nat} (h : cnt w3 bl ∧ bl ≤ 40) (h1 : ¬ wi v 100 199 = 0) (h2 : ¬ w3 ≤ v - 100) : vp_in (v - 100) bl := by
  obtain ⟨⟨m, hm, rfl⟩, hb⟩ := h
  obtain ⟨j, rfl, hj, hj2⟩ := wi_nat h1 (by decide)
  have e1 : (100 : Int32).toInt = 100 := by decide
  have e2 : (199 : Int32).toInt = 199 := by decide
  have e3 : nI j - 100 = nI (j - 100) := pk_sub (b := 100) (by omega)
  rw [e3] at h2 ⊢
  have h3 : ¬ m ≤ j - 100 := fun h9 => h2 ((nI_leI (by omega) (by omega)).mpr h9)
  exact vp_in_nI (by omega) (by omega)

set_option maxHeartbeats 4000000 in
set_option maxRecDepth 100000 in
theorem t_isSpoilt (l : Launch) (dC : Nat → ClassId) (dI : Nat → Nat → Nat) (ca : Nat → ClassId) (h : Nat) (t0 : Int32) (t1 : Int32) (t2 : Int32) (t3 : Int32) (t4 : Int32) (t5 : Int32) (v1 : Int32) (v2 : Int32) : Met l yX9_isSpoilt (Cond.code yX9_isSpoilt cX9_isSpoilt 4 (some .boolean) :: gT) ({ frames := 1, cells := 0, slots := 0, locals := 60 }) (va_Pc [.ref h, .int v1, .int v2] (pu (dC, dI) [(h, .inr (9, [.int t0, .int t1, .int t2, .int t3, .int t4, .int t5]))] (aT ca))) (vp_Si (fun r => r = 0 ∨ r = 1)) 0 0 (fun _ => False) := by
  refine Met.ofW (cc := cX9_isSpoilt) (maxL := 4) (ret := (some .boolean)) (by decide) rfl ?_
  intro p e s m args below meth c s₁ B hml hv
  obtain ⟨rfl, hP, hK, hE⟩ := hv
  have hx := B.exec
  have hb := B.bytes
  have hr := B.returns
  have hts : ∀ w ∈ gT, w.before _ s = true := fun w h => atoms_spec (ws := Cond.code yX9_isSpoilt cX9_isSpoilt 4 (some .boolean) :: gT) B.pre w (List.mem_cons_of_mem _ h)
  have hown : s.vm.findClass RX9 = some m.cls := findClass_of_methodNamed B.named
  have hlocks := B.notSynchronized
  have hl := lv_entry ([.ref h, .int v1, .int v2]) (n := 4) (Nat.le_of_ble_eq_true rfl)
  rw [lg_entry_eq]
  generalize (lg_sl ([.ref h, .int v1, .int v2]) ++ List.replicate (4 - (lg_sl ([.ref h, .int v1, .int v2])).length) Slot.unset).toArray = ls at hl ⊢
  have hl : lv_has ls 4 [(0, .ref h), (1, .int v1), (2, .int v2)] := hl
  refine lv_iload_n hx hb dX9_isSpoilt_0 rfl (lv_at hl 1 rfl) ?_
  refine lv_iconst (v := 2) hx hb dX9_isSpoilt_1 (by decide) ?_
  refine lv_icmp_lt (tgt := 17) hx hb dX9_isSpoilt_2 (by decide) (fun c_1 => ?_) (fun c_1 => ?_)
  · refine lv_iconst (v := 0) hx hb dX9_isSpoilt_17 (by decide) ?_
    refine lv_istore_n (lv' := [(3, .int 0), (0, .ref h), (1, .int v1), (2, .int v2)]) hx hb dX9_isSpoilt_18 rfl hl (by decide) rfl (fun ls hl => ?_)
    refine lv_iload_n hx hb dX9_isSpoilt_19 rfl (lv_at hl 0 rfl) ?_
    refine lv_if_ne (tgt := 36) hx hb dX9_isSpoilt_20 (by decide) (fun c_ => absurd c_ (by decide)) (fun c_ => ?_)
    refine lv_iload_n hx hb dX9_isSpoilt_23 rfl (lv_at hl 2 rfl) ?_
    refine lv_iconst (v := 3) hx hb dX9_isSpoilt_24 (by decide) ?_
    refine lv_icmp_ne (tgt := 40) hx hb dX9_isSpoilt_25 (by decide) (fun c_2 => ?_) (fun c_2 => ?_)
    · refine lv_iconst (v := 0) hx hb dX9_isSpoilt_40 (by decide) ?_
      exact W.zret (v := 0) (ty := .boolean) hx hb hr rfl (fun t ht hW => ⟨0, rfl, (Or.inl rfl), ht⟩) (fun q h => absurd h List.not_mem_nil) dX9_isSpoilt_41
    · refine lv_iload_n hx hb dX9_isSpoilt_28 rfl (lv_at hl 3 rfl) ?_
      refine lv_aload_n hx hb dX9_isSpoilt_29 rfl (lv_at hl 1 rfl) ?_
      refine va_get (D := (dC, dI)) (ci := 9) (v := .int t4) (C := RX9) (T := TX9) (N := 6) hx hb hts inX9 hown hK hP 0 rfl rfl 4 (by decide) (hts _ mw_83) (fun _ h9 => h9) rfl dX9_isSpoilt_30 ?_
      refine lv_icmp_ge (tgt := 40) hx hb dX9_isSpoilt_33 (by decide) (fun c_3 => ?_) (fun c_3 => ?_)
      · refine lv_iconst (v := 0) hx hb dX9_isSpoilt_40 (by decide) ?_
        exact W.zret (v := 0) (ty := .boolean) hx hb hr rfl (fun t ht hW => ⟨0, rfl, (Or.inl rfl), ht⟩) (fun q h => absurd h List.not_mem_nil) dX9_isSpoilt_41
      · refine lv_iconst (v := 1) hx hb dX9_isSpoilt_36 (by decide) ?_
        refine lv_goto (tgt := 41) hx hb dX9_isSpoilt_37 (by decide) ?_
        exact W.zret (v := 1) (ty := .boolean) hx hb hr rfl (fun t ht hW => ⟨1, rfl, (Or.inr rfl), ht⟩) (fun q h => absurd h List.not_mem_nil) dX9_isSpoilt_41
  · refine lv_iload_n hx hb dX9_isSpoilt_5 rfl (lv_at hl 2 rfl) ?_
    refine lv_aload_n hx hb dX9_isSpoilt_6 rfl (lv_at hl 0 rfl) ?_
    refine va_get (D := (dC, dI)) (ci := 9) (v := .int t3) (C := RX9) (T := TX9) (N := 6) hx hb hts inX9 hown hK hP 0 rfl rfl 3 (by decide) (hts _ mw_82) (fun _ h9 => h9) rfl dX9_isSpoilt_7 ?_
    refine lv_icmp_le (tgt := 17) hx hb dX9_isSpoilt_10 (by decide) (fun c_4 => ?_) (fun c_4 => ?_)
    · refine lv_iconst (v := 0) hx hb dX9_isSpoilt_17 (by decide) ?_
      refine lv_istore_n (lv' := [(3, .int 0), (0, .ref h), (1, .int v1), (2, .int v2)]) hx hb dX9_isSpoilt_18 rfl hl (by decide) rfl (fun ls hl => ?_)
      refine lv_iload_n hx hb dX9_isSpoilt_19 rfl (lv_at hl 0 rfl) ?_
      refine lv_if_ne (tgt := 36) hx hb dX9_isSpoilt_20 (by decide) (fun c_ => absurd c_ (by decide)) (fun c_ => ?_)
      refine lv_iload_n hx hb dX9_isSpoilt_23 rfl (lv_at hl 2 rfl) ?_
      refine lv_iconst (v := 3) hx hb dX9_isSpoilt_24 (by decide) ?_
      refine lv_icmp_ne (tgt := 40) hx hb dX9_isSpoilt_25 (by decide) (fun c_5 => ?_) (fun c_5 => ?_)
      · refine lv_iconst (v := 0) hx hb dX9_isSpoilt_40 (by decide) ?_
        exact W.zret (v := 0) (ty := .boolean) hx hb hr rfl (fun t ht hW => ⟨0, rfl, (Or.inl rfl), ht⟩) (fun q h => absurd h List.not_mem_nil) dX9_isSpoilt_41
      · refine lv_iload_n hx hb dX9_isSpoilt_28 rfl (lv_at hl 3 rfl) ?_
        refine lv_aload_n hx hb dX9_isSpoilt_29 rfl (lv_at hl 1 rfl) ?_
        refine va_get (D := (dC, dI)) (ci := 9) (v := .int t4) (C := RX9) (T := TX9) (N := 6) hx hb hts inX9 hown hK hP 0 rfl rfl 4 (by decide) (hts _ mw_83) (fun _ h9 => h9) rfl dX9_isSpoilt_30 ?_
        refine lv_icmp_ge (tgt := 40) hx hb dX9_isSpoilt_33 (by decide) (fun c_6 => ?_) (fun c_6 => ?_)
        · refine lv_iconst (v := 0) hx hb dX9_isSpoilt_40 (by decide) ?_
          exact W.zret (v := 0) (ty := .boolean) hx hb hr rfl (fun t ht hW => ⟨0, rfl, (Or.inl rfl), ht⟩) (fun q h => absurd h List.not_mem_nil) dX9_isSpoilt_41
        · refine lv_iconst (v := 1) hx hb dX9_isSpoilt_36 (by decide) ?_
          refine lv_goto (tgt := 41) hx hb dX9_isSpoilt_37 (by decide) ?_
          exact W.zret (v := 1) (ty := .boolean) hx hb hr rfl (fun t ht hW => ⟨1, rfl, (Or.inr rfl), ht⟩) (fun q h => absurd h List.not_mem_nil) dX9_isSpoilt_41
    · refine lv_iconst (v := 1) hx hb dX9_isSpoilt_13 (by decide) ?_
      refine lv_goto (tgt := 18) hx hb dX9_isSpoilt_14 (by decide) ?_
      refine lv_istore_n (lv' := [(3, .int 1), (0, .ref h), (1, .int v1), (2, .int v2)]) hx hb dX9_isSpoilt_18 rfl hl (by decide) rfl (fun ls hl => ?_)
      refine lv_iload_n hx hb dX9_isSpoilt_19 rfl (lv_at hl 0 rfl) ?_
      refine lv_if_ne (tgt := 36) hx hb dX9_isSpoilt_20 (by decide) (fun c_ => ?_) (fun c_ => absurd c_ (by decide))
      refine lv_iconst (v := 1) hx hb dX9_isSpoilt_36 (by decide) ?_
      refine lv_goto (tgt := 41) hx hb dX9_isSpoilt_37 (by decide) ?_
      exact W.zret (v := 1) (ty := .boolean) hx hb hr rfl (fun t ht hW => ⟨1, rfl, (Or.inr rfl), ht⟩) (fun q h => absurd h List.not_mem_nil) dX9_isSpoilt_41

set_option maxHeartbeats 4000000 in
set_option maxRecDepth 100000 in
theorem t_counts (l : Launch) (dC : Nat → ClassId) (dI : Nat → Nat → Nat) (ca : Nat → ClassId) (h : Nat) (t0 : Int32) (t1 : Int32) (t2 : Int32) (t3 : Int32) (t4 : Int32) (t5 : Int32) (v1 : Int32) (v2 : Int32) : Met l yX9_counts (Cond.code yX9_counts cX9_counts 3 (some .boolean) :: gT) ({ frames := 1, cells := 0, slots := 0, locals := 60 }) (va_Pc [.ref h, .int v1, .int v2] (pu (dC, dI) [(h, .inr (9, [.int t0, .int t1, .int t2, .int t3, .int t4, .int t5]))] (aT ca))) (vp_Si (fun r => r = 0 ∨ r = 1)) 0 0 (fun _ => False) := by
  refine Met.ofW (cc := cX9_counts) (maxL := 3) (ret := (some .boolean)) (by decide) rfl ?_
  intro p e s m args below meth c s₁ B hml hv
  obtain ⟨rfl, hP, hK, hE⟩ := hv
  have hx := B.exec
  have hb := B.bytes
  have hr := B.returns
  have hts : ∀ w ∈ gT, w.before _ s = true := fun w h => atoms_spec (ws := Cond.code yX9_counts cX9_counts 3 (some .boolean) :: gT) B.pre w (List.mem_cons_of_mem _ h)
  have hown : s.vm.findClass RX9 = some m.cls := findClass_of_methodNamed B.named
  have hlocks := B.notSynchronized
  have hl := lv_entry ([.ref h, .int v1, .int v2]) (n := 3) (Nat.le_of_ble_eq_true rfl)
  rw [lg_entry_eq]
  generalize (lg_sl ([.ref h, .int v1, .int v2]) ++ List.replicate (3 - (lg_sl ([.ref h, .int v1, .int v2])).length) Slot.unset).toArray = ls at hl ⊢
  have hl : lv_has ls 3 [(0, .ref h), (1, .int v1), (2, .int v2)] := hl
  refine lv_iload_n hx hb dX9_counts_0 rfl (lv_at hl 1 rfl) ?_
  refine lv_if_ne (tgt := 18) hx hb dX9_counts_1 (by decide) (fun c_1 => ?_) (fun c_1 => ?_)
  · refine lv_iload_n hx hb dX9_counts_18 rfl (lv_at hl 1 rfl) ?_
    refine lv_iconst (v := 1) hx hb dX9_counts_19 (by decide) ?_
    refine lv_icmp_ne (tgt := 39) hx hb dX9_counts_20 (by decide) (fun c_2 => ?_) (fun c_2 => ?_)
    · refine lv_iload_n hx hb dX9_counts_39 rfl (lv_at hl 2 rfl) ?_
      refine lv_aload_n hx hb dX9_counts_40 rfl (lv_at hl 0 rfl) ?_
      refine va_get (D := (dC, dI)) (ci := 9) (v := .int t2) (C := RX9) (T := TX9) (N := 6) hx hb hts inX9 hown hK hP 0 rfl rfl 2 (by decide) (hts _ mw_81) (fun _ h9 => h9) rfl dX9_counts_41 ?_
      refine lv_icmp_lt (tgt := 51) hx hb dX9_counts_44 (by decide) (fun c_3 => ?_) (fun c_3 => ?_)
      · refine lv_iconst (v := 0) hx hb dX9_counts_51 (by decide) ?_
        exact W.zret (v := 0) (ty := .boolean) hx hb hr rfl (fun t ht hW => ⟨0, rfl, (Or.inl rfl), ht⟩) (fun q h => absurd h List.not_mem_nil) dX9_counts_52
      · refine lv_iconst (v := 1) hx hb dX9_counts_47 (by decide) ?_
        refine lv_goto (tgt := 52) hx hb dX9_counts_48 (by decide) ?_
        exact W.zret (v := 1) (ty := .boolean) hx hb hr rfl (fun t ht hW => ⟨1, rfl, (Or.inr rfl), ht⟩) (fun q h => absurd h List.not_mem_nil) dX9_counts_52
    · refine lv_iload_n hx hb dX9_counts_23 rfl (lv_at hl 2 rfl) ?_
      refine lv_aload_n hx hb dX9_counts_24 rfl (lv_at hl 0 rfl) ?_
      refine va_get (D := (dC, dI)) (ci := 9) (v := .int t1) (C := RX9) (T := TX9) (N := 6) hx hb hts inX9 hown hK hP 0 rfl rfl 1 (by decide) (hts _ mw_80) (fun _ h9 => h9) rfl dX9_counts_25 ?_
      refine lv_icmp_gt (tgt := 35) hx hb dX9_counts_28 (by decide) (fun c_4 => ?_) (fun c_4 => ?_)
      · refine lv_iconst (v := 0) hx hb dX9_counts_35 (by decide) ?_
        refine lv_goto (tgt := 52) hx hb dX9_counts_36 (by decide) ?_
        exact W.zret (v := 0) (ty := .boolean) hx hb hr rfl (fun t ht hW => ⟨0, rfl, (Or.inl rfl), ht⟩) (fun q h => absurd h List.not_mem_nil) dX9_counts_52
      · refine lv_iconst (v := 1) hx hb dX9_counts_31 (by decide) ?_
        refine lv_goto (tgt := 52) hx hb dX9_counts_32 (by decide) ?_
        exact W.zret (v := 1) (ty := .boolean) hx hb hr rfl (fun t ht hW => ⟨1, rfl, (Or.inr rfl), ht⟩) (fun q h => absurd h List.not_mem_nil) dX9_counts_52
  · refine lv_iload_n hx hb dX9_counts_4 rfl (lv_at hl 2 rfl) ?_
    refine lv_aload_n hx hb dX9_counts_5 rfl (lv_at hl 0 rfl) ?_
    refine va_get (D := (dC, dI)) (ci := 9) (v := .int t0) (C := RX9) (T := TX9) (N := 6) hx hb hts inX9 hown hK hP 0 rfl rfl 0 (by decide) (hts _ mw_79) (fun _ h9 => h9) rfl dX9_counts_6 ?_
    refine lv_icmp_lt (tgt := 16) hx hb dX9_counts_9 (by decide) (fun c_5 => ?_) (fun c_5 => ?_)
    · refine lv_iconst (v := 0) hx hb dX9_counts_16 (by decide) ?_
      exact W.zret (v := 0) (ty := .boolean) hx hb hr rfl (fun t ht hW => ⟨0, rfl, (Or.inl rfl), ht⟩) (fun q h => absurd h List.not_mem_nil) dX9_counts_17
    · refine lv_iconst (v := 1) hx hb dX9_counts_12 (by decide) ?_
      refine lv_goto (tgt := 17) hx hb dX9_counts_13 (by decide) ?_
      exact W.zret (v := 1) (ty := .boolean) hx hb hr rfl (fun t ht hW => ⟨1, rfl, (Or.inr rfl), ht⟩) (fun q h => absurd h List.not_mem_nil) dX9_counts_17

set_option maxHeartbeats 4000000 in
set_option maxRecDepth 100000 in
theorem t_change (l : Launch) (dC : Nat → ClassId) (dI : Nat → Nat → Nat) (ca : Nat → ClassId) (sz : Nat) (h : Nat) (t0 : Int32) (t1 : Int32) (t2 : Int32) (t3 : Int32) (t4 : Int32) (t5 : Int32) (v1 : Int32) (v2 : Int32) (v3 : Int32) (v4 : Int32) (v5 : Int32) (v6 : Int32) : Met l yX9_change (Cond.code yX9_change cX9_change 8 (some .boolean) :: gT) ({ frames := 1, cells := 0, slots := 0, locals := 60 }) (va_Pc [.ref h, .int v1, .int v2, .int v3, .int v4, .int v5, .int v6] (pr (dC, dI) sz [(h, .inr (9, [.int t0, .int t1, .int t2, .int t3, .int t4, .int t5]))] (aT ca))) (va_Qi (fun (r : Int32) (u_ : Int32 × Int32 × Int32 × Int32 × Int32 × Int32) => r = 0 ∨ r = 1) (fun (u_ : Int32 × Int32 × Int32 × Int32 × Int32 × Int32) t => va_P (dC, dI) vwCl [(h, .inr (9, [.int u_.1, .int u_.2.1, .int u_.2.2.1, .int u_.2.2.2.1, .int u_.2.2.2.2.1, .int u_.2.2.2.2.2]))] t.heap ∧ va_D (va_A [(h, .inr (9, [.int t0, .int t1, .int t2, .int t3, .int t4, .int t5]))] sz) [(h, .inr (9, [.int u_.1, .int u_.2.1, .int u_.2.2.1, .int u_.2.2.2.1, .int u_.2.2.2.2.1, .int u_.2.2.2.2.2]))]) (va_A [(h, .inr (9, [.int t0, .int t1, .int t2, .int t3, .int t4, .int t5]))] sz)) 0 0 (va_A [(h, .inr (9, [.int t0, .int t1, .int t2, .int t3, .int t4, .int t5]))] sz) := by
  refine Met.ofW (cc := cX9_change) (maxL := 8) (ret := (some .boolean)) (by decide) rfl ?_
  intro p e s m args below meth c s₁ B hml hv
  obtain ⟨rfl, hsz, hP, hK, hD0, hE⟩ := hv
  have hx := B.exec
  have hb := B.bytes
  have hr := B.returns
  have hts : ∀ w ∈ gT, w.before _ s = true := fun w h => atoms_spec (ws := Cond.code yX9_change cX9_change 8 (some .boolean) :: gT) B.pre w (List.mem_cons_of_mem _ h)
  have hown : s.vm.findClass RX9 = some m.cls := findClass_of_methodNamed B.named
  have hlocks := B.notSynchronized
  subst hsz
  have hD := hD0.self (sz := s.heap.size)
  generalize hAe : va_A [(h, .inr (9, [.int t0, .int t1, .int t2, .int t3, .int t4, .int t5]))] s.heap.size = A at hD ⊢
  have hA : ∀ q : Nat, s.heap.size ≤ q → A q := fun q h => by rw [← hAe]; exact Or.inr h
  have hS : va_S A s.heap s.heap [] := va_S.rf
  have hl := lv_entry ([.ref h, .int v1, .int v2, .int v3, .int v4, .int v5, .int v6]) (n := 8) (Nat.le_of_ble_eq_true rfl)
  rw [lg_entry_eq]
  generalize (lg_sl ([.ref h, .int v1, .int v2, .int v3, .int v4, .int v5, .int v6]) ++ List.replicate (8 - (lg_sl ([.ref h, .int v1, .int v2, .int v3, .int v4, .int v5, .int v6])).length) Slot.unset).toArray = ls at hl ⊢
  have hl : lv_has ls 8 [(0, .ref h), (1, .int v1), (2, .int v2), (3, .int v3), (4, .int v4), (5, .int v5), (6, .int v6)] := hl
  refine lv_iload_n hx hb dX9_change_0 rfl (lv_at hl 1 rfl) ?_
  refine lv_aload_n hx hb dX9_change_1 rfl (lv_at hl 0 rfl) ?_
  refine va_get (D := (dC, dI)) (ci := 9) (v := .int t0) (C := RX9) (T := TX9) (N := 6) hx hb hts inX9 hown hK hP 0 rfl rfl 0 (by decide) (hts _ mw_79) (fun _ h9 => h9) rfl dX9_change_2 ?_
  refine lv_icmp_ne (tgt := 46) hx hb dX9_change_5 (by decide) (fun c_1 => ?_) (fun c_1 => ?_)
  · refine lv_iconst (v := 0) hx hb dX9_change_46 (by decide) ?_
    refine lv_istore (lv' := [(7, .int 0), (0, .ref h), (1, .int v1), (2, .int v2), (3, .int v3), (4, .int v4), (5, .int v5), (6, .int v6)]) hx hb dX9_change_47 hl (by decide) rfl (fun ls hl => ?_)
    refine lv_iload hx hb dX9_change_49 (lv_at hl 0 rfl) ?_
    refine lv_if_eq (tgt := 65) hx hb dX9_change_51 (by decide) (fun c_ => ?_) (fun c_ => absurd c_ (by decide))
    refine lv_aload_n hx hb dX9_change_65 rfl (lv_at hl 1 rfl) ?_
    refine lv_iload_n hx hb dX9_change_66 rfl (lv_at hl 2 rfl) ?_
    refine va_put (D := (dC, dI)) (ci := 9) (v := .int v1) (ty := .int) (C := RX9) (T := TX9) (N := 6) hx hb hts inX9 tyX9 tyX9_ok nmX9 hown hK hP hD hS 0 rfl rfl 0 (by decide) (hts _ mw_79) (fun _ h9 => h9) rfl (by decide +kernel) rfl rfl (Nat.le_of_ble_eq_true rfl) dX9_change_67 (fun H locs hP hD hS => ?_)
    obtain ⟨hP, hD⟩ := va_bo [(h, .inr (9, [.int v1, .int t1, .int t2, .int t3, .int t4, .int t5]))] hP hD
    refine lv_aload_n hx hb dX9_change_70 rfl (lv_at hl 1 rfl) ?_
    refine lv_iload_n hx hb dX9_change_71 rfl (lv_at hl 3 rfl) ?_
    refine va_put (D := (dC, dI)) (ci := 9) (v := .int v2) (ty := .int) (C := RX9) (T := TX9) (N := 6) hx hb hts inX9 tyX9 tyX9_ok nmX9 hown hK hP hD hS 0 rfl rfl 1 (by decide) (hts _ mw_80) (fun _ h9 => h9) rfl (by decide +kernel) rfl rfl (Nat.le_of_ble_eq_true rfl) dX9_change_72 (fun H locs hP hD hS => ?_)
    obtain ⟨hP, hD⟩ := va_bo [(h, .inr (9, [.int v1, .int v2, .int t2, .int t3, .int t4, .int t5]))] hP hD
    refine lv_aload_n hx hb dX9_change_75 rfl (lv_at hl 1 rfl) ?_
    refine lv_iload_n hx hb dX9_change_76 rfl (lv_at hl 4 rfl) ?_
    refine va_put (D := (dC, dI)) (ci := 9) (v := .int v3) (ty := .int) (C := RX9) (T := TX9) (N := 6) hx hb hts inX9 tyX9 tyX9_ok nmX9 hown hK hP hD hS 0 rfl rfl 2 (by decide) (hts _ mw_81) (fun _ h9 => h9) rfl (by decide +kernel) rfl rfl (Nat.le_of_ble_eq_true rfl) dX9_change_77 (fun H locs hP hD hS => ?_)
    obtain ⟨hP, hD⟩ := va_bo [(h, .inr (9, [.int v1, .int v2, .int v3, .int t3, .int t4, .int t5]))] hP hD
    refine lv_aload_n hx hb dX9_change_80 rfl (lv_at hl 1 rfl) ?_
    refine lv_iload hx hb dX9_change_81 (lv_at hl 5 rfl) ?_
    refine va_put (D := (dC, dI)) (ci := 9) (v := .int v4) (ty := .int) (C := RX9) (T := TX9) (N := 6) hx hb hts inX9 tyX9 tyX9_ok nmX9 hown hK hP hD hS 0 rfl rfl 3 (by decide) (hts _ mw_82) (fun _ h9 => h9) rfl (by decide +kernel) rfl rfl (Nat.le_of_ble_eq_true rfl) dX9_change_83 (fun H locs hP hD hS => ?_)
    obtain ⟨hP, hD⟩ := va_bo [(h, .inr (9, [.int v1, .int v2, .int v3, .int v4, .int t4, .int t5]))] hP hD
    refine lv_aload_n hx hb dX9_change_86 rfl (lv_at hl 1 rfl) ?_
    refine lv_iload hx hb dX9_change_87 (lv_at hl 6 rfl) ?_
    refine va_put (D := (dC, dI)) (ci := 9) (v := .int v5) (ty := .int) (C := RX9) (T := TX9) (N := 6) hx hb hts inX9 tyX9 tyX9_ok nmX9 hown hK hP hD hS 0 rfl rfl 4 (by decide) (hts _ mw_83) (fun _ h9 => h9) rfl (by decide +kernel) rfl rfl (Nat.le_of_ble_eq_true rfl) dX9_change_89 (fun H locs hP hD hS => ?_)
    obtain ⟨hP, hD⟩ := va_bo [(h, .inr (9, [.int v1, .int v2, .int v3, .int v4, .int v5, .int t5]))] hP hD
    refine lv_aload_n hx hb dX9_change_92 rfl (lv_at hl 1 rfl) ?_
    refine lv_iload hx hb dX9_change_93 (lv_at hl 7 rfl) ?_
    refine va_put (D := (dC, dI)) (ci := 9) (v := .int v6) (ty := .int) (C := RX9) (T := TX9) (N := 6) hx hb hts inX9 tyX9 tyX9_ok nmX9 hown hK hP hD hS 0 rfl rfl 5 (by decide) (hts _ mw_84) (fun _ h9 => h9) rfl (by decide +kernel) rfl rfl (Nat.le_of_ble_eq_true rfl) dX9_change_95 (fun H locs hP hD hS => ?_)
    obtain ⟨hP, hD⟩ := va_bo [(h, .inr (9, [.int v1, .int v2, .int v3, .int v4, .int v5, .int v6]))] hP hD
    refine lv_iconst (v := 1) hx hb dX9_change_98 (by decide) ?_
    refine W.widen (k := 0) (n := 0) (Nat.le_of_ble_eq_true rfl) (Nat.le_of_ble_eq_true rfl) ?_
    have hP9 : va_P (dC, dI) vwCl [(h, .inr (9, [.int v1, .int v2, .int v3, .int v4, .int v5, .int v6]))] H := va_P.sub hP [0] rfl
    have hD9 : va_D A [(h, .inr (9, [.int v1, .int v2, .int v3, .int v4, .int v5, .int v6]))] := va_D.sub hD [0] (by decide) rfl
    exact W.zret (v := 1) (ty := .boolean) hx hb hr rfl (fun t ht hW => ⟨⟨1, (v1, v2, v3, v4, v5, v6), rfl, (Or.inr rfl), by rw [ht]; dsimp only; exact hP9, by dsimp only; exact hD9⟩, hS.F ht⟩) hS.2.2 dX9_change_99
  · refine lv_iload_n hx hb dX9_change_8 rfl (lv_at hl 2 rfl) ?_
    refine lv_aload_n hx hb dX9_change_9 rfl (lv_at hl 0 rfl) ?_
    refine va_get (D := (dC, dI)) (ci := 9) (v := .int t1) (C := RX9) (T := TX9) (N := 6) hx hb hts inX9 hown hK hP 0 rfl rfl 1 (by decide) (hts _ mw_80) (fun _ h9 => h9) rfl dX9_change_10 ?_
    refine lv_icmp_ne (tgt := 46) hx hb dX9_change_13 (by decide) (fun c_2 => ?_) (fun c_2 => ?_)
    · refine lv_iconst (v := 0) hx hb dX9_change_46 (by decide) ?_
      refine lv_istore (lv' := [(7, .int 0), (0, .ref h), (1, .int v1), (2, .int v2), (3, .int v3), (4, .int v4), (5, .int v5), (6, .int v6)]) hx hb dX9_change_47 hl (by decide) rfl (fun ls hl => ?_)
      refine lv_iload hx hb dX9_change_49 (lv_at hl 0 rfl) ?_
      refine lv_if_eq (tgt := 65) hx hb dX9_change_51 (by decide) (fun c_ => ?_) (fun c_ => absurd c_ (by decide))
      refine lv_aload_n hx hb dX9_change_65 rfl (lv_at hl 1 rfl) ?_
      refine lv_iload_n hx hb dX9_change_66 rfl (lv_at hl 2 rfl) ?_
      refine va_put (D := (dC, dI)) (ci := 9) (v := .int v1) (ty := .int) (C := RX9) (T := TX9) (N := 6) hx hb hts inX9 tyX9 tyX9_ok nmX9 hown hK hP hD hS 0 rfl rfl 0 (by decide) (hts _ mw_79) (fun _ h9 => h9) rfl (by decide +kernel) rfl rfl (Nat.le_of_ble_eq_true rfl) dX9_change_67 (fun H locs hP hD hS => ?_)
      obtain ⟨hP, hD⟩ := va_bo [(h, .inr (9, [.int v1, .int t1, .int t2, .int t3, .int t4, .int t5]))] hP hD
      refine lv_aload_n hx hb dX9_change_70 rfl (lv_at hl 1 rfl) ?_
      refine lv_iload_n hx hb dX9_change_71 rfl (lv_at hl 3 rfl) ?_
      refine va_put (D := (dC, dI)) (ci := 9) (v := .int v2) (ty := .int) (C := RX9) (T := TX9) (N := 6) hx hb hts inX9 tyX9 tyX9_ok nmX9 hown hK hP hD hS 0 rfl rfl 1 (by decide) (hts _ mw_80) (fun _ h9 => h9) rfl (by decide +kernel) rfl rfl (Nat.le_of_ble_eq_true rfl) dX9_change_72 (fun H locs hP hD hS => ?_)
      obtain ⟨hP, hD⟩ := va_bo [(h, .inr (9, [.int v1, .int v2, .int t2, .int t3, .int t4, .int t5]))] hP hD
      refine lv_aload_n hx hb dX9_change_75 rfl (lv_at hl 1 rfl) ?_
      refine lv_iload_n hx hb dX9_change_76 rfl (lv_at hl 4 rfl) ?_
      refine va_put (D := (dC, dI)) (ci := 9) (v := .int v3) (ty := .int) (C := RX9) (T := TX9) (N := 6) hx hb hts inX9 tyX9 tyX9_ok nmX9 hown hK hP hD hS 0 rfl rfl 2 (by decide) (hts _ mw_81) (fun _ h9 => h9) rfl (by decide +kernel) rfl rfl (Nat.le_of_ble_eq_true rfl) dX9_change_77 (fun H locs hP hD hS => ?_)
      obtain ⟨hP, hD⟩ := va_bo [(h, .inr (9, [.int v1, .int v2, .int v3, .int t3, .int t4, .int t5]))] hP hD
      refine lv_aload_n hx hb dX9_change_80 rfl (lv_at hl 1 rfl) ?_
      refine lv_iload hx hb dX9_change_81 (lv_at hl 5 rfl) ?_
      refine va_put (D := (dC, dI)) (ci := 9) (v := .int v4) (ty := .int) (C := RX9) (T := TX9) (N := 6) hx hb hts inX9 tyX9 tyX9_ok nmX9 hown hK hP hD hS 0 rfl rfl 3 (by decide) (hts _ mw_82) (fun _ h9 => h9) rfl (by decide +kernel) rfl rfl (Nat.le_of_ble_eq_true rfl) dX9_change_83 (fun H locs hP hD hS => ?_)
      obtain ⟨hP, hD⟩ := va_bo [(h, .inr (9, [.int v1, .int v2, .int v3, .int v4, .int t4, .int t5]))] hP hD
      refine lv_aload_n hx hb dX9_change_86 rfl (lv_at hl 1 rfl) ?_
      refine lv_iload hx hb dX9_change_87 (lv_at hl 6 rfl) ?_
      refine va_put (D := (dC, dI)) (ci := 9) (v := .int v5) (ty := .int) (C := RX9) (T := TX9) (N := 6) hx hb hts inX9 tyX9 tyX9_ok nmX9 hown hK hP hD hS 0 rfl rfl 4 (by decide) (hts _ mw_83) (fun _ h9 => h9) rfl (by decide +kernel) rfl rfl (Nat.le_of_ble_eq_true rfl) dX9_change_89 (fun H locs hP hD hS => ?_)
      obtain ⟨hP, hD⟩ := va_bo [(h, .inr (9, [.int v1, .int v2, .int v3, .int v4, .int v5, .int t5]))] hP hD
      refine lv_aload_n hx hb dX9_change_92 rfl (lv_at hl 1 rfl) ?_
      refine lv_iload hx hb dX9_change_93 (lv_at hl 7 rfl) ?_
      refine va_put (D := (dC, dI)) (ci := 9) (v := .int v6) (ty := .int) (C := RX9) (T := TX9) (N := 6) hx hb hts inX9 tyX9 tyX9_ok nmX9 hown hK hP hD hS 0 rfl rfl 5 (by decide) (hts _ mw_84) (fun _ h9 => h9) rfl (by decide +kernel) rfl rfl (Nat.le_of_ble_eq_true rfl) dX9_change_95 (fun H locs hP hD hS => ?_)
      obtain ⟨hP, hD⟩ := va_bo [(h, .inr (9, [.int v1, .int v2, .int v3, .int v4, .int v5, .int v6]))] hP hD
      refine lv_iconst (v := 1) hx hb dX9_change_98 (by decide) ?_
      refine W.widen (k := 0) (n := 0) (Nat.le_of_ble_eq_true rfl) (Nat.le_of_ble_eq_true rfl) ?_
      have hP9 : va_P (dC, dI) vwCl [(h, .inr (9, [.int v1, .int v2, .int v3, .int v4, .int v5, .int v6]))] H := va_P.sub hP [0] rfl
      have hD9 : va_D A [(h, .inr (9, [.int v1, .int v2, .int v3, .int v4, .int v5, .int v6]))] := va_D.sub hD [0] (by decide) rfl
      exact W.zret (v := 1) (ty := .boolean) hx hb hr rfl (fun t ht hW => ⟨⟨1, (v1, v2, v3, v4, v5, v6), rfl, (Or.inr rfl), by rw [ht]; dsimp only; exact hP9, by dsimp only; exact hD9⟩, hS.F ht⟩) hS.2.2 dX9_change_99
    · refine lv_iload_n hx hb dX9_change_16 rfl (lv_at hl 3 rfl) ?_
      refine lv_aload_n hx hb dX9_change_17 rfl (lv_at hl 0 rfl) ?_
      refine va_get (D := (dC, dI)) (ci := 9) (v := .int t2) (C := RX9) (T := TX9) (N := 6) hx hb hts inX9 hown hK hP 0 rfl rfl 2 (by decide) (hts _ mw_81) (fun _ h9 => h9) rfl dX9_change_18 ?_
      refine lv_icmp_ne (tgt := 46) hx hb dX9_change_21 (by decide) (fun c_3 => ?_) (fun c_3 => ?_)
      · refine lv_iconst (v := 0) hx hb dX9_change_46 (by decide) ?_
        refine lv_istore (lv' := [(7, .int 0), (0, .ref h), (1, .int v1), (2, .int v2), (3, .int v3), (4, .int v4), (5, .int v5), (6, .int v6)]) hx hb dX9_change_47 hl (by decide) rfl (fun ls hl => ?_)
        refine lv_iload hx hb dX9_change_49 (lv_at hl 0 rfl) ?_
        refine lv_if_eq (tgt := 65) hx hb dX9_change_51 (by decide) (fun c_ => ?_) (fun c_ => absurd c_ (by decide))
        refine lv_aload_n hx hb dX9_change_65 rfl (lv_at hl 1 rfl) ?_
        refine lv_iload_n hx hb dX9_change_66 rfl (lv_at hl 2 rfl) ?_
        refine va_put (D := (dC, dI)) (ci := 9) (v := .int v1) (ty := .int) (C := RX9) (T := TX9) (N := 6) hx hb hts inX9 tyX9 tyX9_ok nmX9 hown hK hP hD hS 0 rfl rfl 0 (by decide) (hts _ mw_79) (fun _ h9 => h9) rfl (by decide +kernel) rfl rfl (Nat.le_of_ble_eq_true rfl) dX9_change_67 (fun H locs hP hD hS => ?_)
        obtain ⟨hP, hD⟩ := va_bo [(h, .inr (9, [.int v1, .int t1, .int t2, .int t3, .int t4, .int t5]))] hP hD
        refine lv_aload_n hx hb dX9_change_70 rfl (lv_at hl 1 rfl) ?_
        refine lv_iload_n hx hb dX9_change_71 rfl (lv_at hl 3 rfl) ?_
        refine va_put (D := (dC, dI)) (ci := 9) (v := .int v2) (ty := .int) (C := RX9) (T := TX9) (N := 6) hx hb hts inX9 tyX9 tyX9_ok nmX9 hown hK hP hD hS 0 rfl rfl 1 (by decide) (hts _ mw_80) (fun _ h9 => h9) rfl (by decide +kernel) rfl rfl (Nat.le_of_ble_eq_true rfl) dX9_change_72 (fun H locs hP hD hS => ?_)
        obtain ⟨hP, hD⟩ := va_bo [(h, .inr (9, [.int v1, .int v2, .int t2, .int t3, .int t4, .int t5]))] hP hD
        refine lv_aload_n hx hb dX9_change_75 rfl (lv_at hl 1 rfl) ?_
        refine lv_iload_n hx hb dX9_change_76 rfl (lv_at hl 4 rfl) ?_
        refine va_put (D := (dC, dI)) (ci := 9) (v := .int v3) (ty := .int) (C := RX9) (T := TX9) (N := 6) hx hb hts inX9 tyX9 tyX9_ok nmX9 hown hK hP hD hS 0 rfl rfl 2 (by decide) (hts _ mw_81) (fun _ h9 => h9) rfl (by decide +kernel) rfl rfl (Nat.le_of_ble_eq_true rfl) dX9_change_77 (fun H locs hP hD hS => ?_)
        obtain ⟨hP, hD⟩ := va_bo [(h, .inr (9, [.int v1, .int v2, .int v3, .int t3, .int t4, .int t5]))] hP hD
        refine lv_aload_n hx hb dX9_change_80 rfl (lv_at hl 1 rfl) ?_
        refine lv_iload hx hb dX9_change_81 (lv_at hl 5 rfl) ?_
        refine va_put (D := (dC, dI)) (ci := 9) (v := .int v4) (ty := .int) (C := RX9) (T := TX9) (N := 6) hx hb hts inX9 tyX9 tyX9_ok nmX9 hown hK hP hD hS 0 rfl rfl 3 (by decide) (hts _ mw_82) (fun _ h9 => h9) rfl (by decide +kernel) rfl rfl (Nat.le_of_ble_eq_true rfl) dX9_change_83 (fun H locs hP hD hS => ?_)
        obtain ⟨hP, hD⟩ := va_bo [(h, .inr (9, [.int v1, .int v2, .int v3, .int v4, .int t4, .int t5]))] hP hD
        refine lv_aload_n hx hb dX9_change_86 rfl (lv_at hl 1 rfl) ?_
        refine lv_iload hx hb dX9_change_87 (lv_at hl 6 rfl) ?_
        refine va_put (D := (dC, dI)) (ci := 9) (v := .int v5) (ty := .int) (C := RX9) (T := TX9) (N := 6) hx hb hts inX9 tyX9 tyX9_ok nmX9 hown hK hP hD hS 0 rfl rfl 4 (by decide) (hts _ mw_83) (fun _ h9 => h9) rfl (by decide +kernel) rfl rfl (Nat.le_of_ble_eq_true rfl) dX9_change_89 (fun H locs hP hD hS => ?_)
        obtain ⟨hP, hD⟩ := va_bo [(h, .inr (9, [.int v1, .int v2, .int v3, .int v4, .int v5, .int t5]))] hP hD
        refine lv_aload_n hx hb dX9_change_92 rfl (lv_at hl 1 rfl) ?_
        refine lv_iload hx hb dX9_change_93 (lv_at hl 7 rfl) ?_
        refine va_put (D := (dC, dI)) (ci := 9) (v := .int v6) (ty := .int) (C := RX9) (T := TX9) (N := 6) hx hb hts inX9 tyX9 tyX9_ok nmX9 hown hK hP hD hS 0 rfl rfl 5 (by decide) (hts _ mw_84) (fun _ h9 => h9) rfl (by decide +kernel) rfl rfl (Nat.le_of_ble_eq_true rfl) dX9_change_95 (fun H locs hP hD hS => ?_)
        obtain ⟨hP, hD⟩ := va_bo [(h, .inr (9, [.int v1, .int v2, .int v3, .int v4, .int v5, .int v6]))] hP hD
        refine lv_iconst (v := 1) hx hb dX9_change_98 (by decide) ?_
        refine W.widen (k := 0) (n := 0) (Nat.le_of_ble_eq_true rfl) (Nat.le_of_ble_eq_true rfl) ?_
        have hP9 : va_P (dC, dI) vwCl [(h, .inr (9, [.int v1, .int v2, .int v3, .int v4, .int v5, .int v6]))] H := va_P.sub hP [0] rfl
        have hD9 : va_D A [(h, .inr (9, [.int v1, .int v2, .int v3, .int v4, .int v5, .int v6]))] := va_D.sub hD [0] (by decide) rfl
        exact W.zret (v := 1) (ty := .boolean) hx hb hr rfl (fun t ht hW => ⟨⟨1, (v1, v2, v3, v4, v5, v6), rfl, (Or.inr rfl), by rw [ht]; dsimp only; exact hP9, by dsimp only; exact hD9⟩, hS.F ht⟩) hS.2.2 dX9_change_99
      · refine lv_iload hx hb dX9_change_24 (lv_at hl 4 rfl) ?_
        refine lv_aload_n hx hb dX9_change_26 rfl (lv_at hl 0 rfl) ?_
        refine va_get (D := (dC, dI)) (ci := 9) (v := .int t3) (C := RX9) (T := TX9) (N := 6) hx hb hts inX9 hown hK hP 0 rfl rfl 3 (by decide) (hts _ mw_82) (fun _ h9 => h9) rfl dX9_change_27 ?_
        refine lv_icmp_ne (tgt := 46) hx hb dX9_change_30 (by decide) (fun c_4 => ?_) (fun c_4 => ?_)
        · refine lv_iconst (v := 0) hx hb dX9_change_46 (by decide) ?_
          refine lv_istore (lv' := [(7, .int 0), (0, .ref h), (1, .int v1), (2, .int v2), (3, .int v3), (4, .int v4), (5, .int v5), (6, .int v6)]) hx hb dX9_change_47 hl (by decide) rfl (fun ls hl => ?_)
          refine lv_iload hx hb dX9_change_49 (lv_at hl 0 rfl) ?_
          refine lv_if_eq (tgt := 65) hx hb dX9_change_51 (by decide) (fun c_ => ?_) (fun c_ => absurd c_ (by decide))
          refine lv_aload_n hx hb dX9_change_65 rfl (lv_at hl 1 rfl) ?_
          refine lv_iload_n hx hb dX9_change_66 rfl (lv_at hl 2 rfl) ?_
          refine va_put (D := (dC, dI)) (ci := 9) (v := .int v1) (ty := .int) (C := RX9) (T := TX9) (N := 6) hx hb hts inX9 tyX9 tyX9_ok nmX9 hown hK hP hD hS 0 rfl rfl 0 (by decide) (hts _ mw_79) (fun _ h9 => h9) rfl (by decide +kernel) rfl rfl (Nat.le_of_ble_eq_true rfl) dX9_change_67 (fun H locs hP hD hS => ?_)
          obtain ⟨hP, hD⟩ := va_bo [(h, .inr (9, [.int v1, .int t1, .int t2, .int t3, .int t4, .int t5]))] hP hD
          refine lv_aload_n hx hb dX9_change_70 rfl (lv_at hl 1 rfl) ?_
          refine lv_iload_n hx hb dX9_change_71 rfl (lv_at hl 3 rfl) ?_
          refine va_put (D := (dC, dI)) (ci := 9) (v := .int v2) (ty := .int) (C := RX9) (T := TX9) (N := 6) hx hb hts inX9 tyX9 tyX9_ok nmX9 hown hK hP hD hS 0 rfl rfl 1 (by decide) (hts _ mw_80) (fun _ h9 => h9) rfl (by decide +kernel) rfl rfl (Nat.le_of_ble_eq_true rfl) dX9_change_72 (fun H locs hP hD hS => ?_)
          obtain ⟨hP, hD⟩ := va_bo [(h, .inr (9, [.int v1, .int v2, .int t2, .int t3, .int t4, .int t5]))] hP hD
          refine lv_aload_n hx hb dX9_change_75 rfl (lv_at hl 1 rfl) ?_
          refine lv_iload_n hx hb dX9_change_76 rfl (lv_at hl 4 rfl) ?_
          refine va_put (D := (dC, dI)) (ci := 9) (v := .int v3) (ty := .int) (C := RX9) (T := TX9) (N := 6) hx hb hts inX9 tyX9 tyX9_ok nmX9 hown hK hP hD hS 0 rfl rfl 2 (by decide) (hts _ mw_81) (fun _ h9 => h9) rfl (by decide +kernel) rfl rfl (Nat.le_of_ble_eq_true rfl) dX9_change_77 (fun H locs hP hD hS => ?_)
          obtain ⟨hP, hD⟩ := va_bo [(h, .inr (9, [.int v1, .int v2, .int v3, .int t3, .int t4, .int t5]))] hP hD
          refine lv_aload_n hx hb dX9_change_80 rfl (lv_at hl 1 rfl) ?_
          refine lv_iload hx hb dX9_change_81 (lv_at hl 5 rfl) ?_
          refine va_put (D := (dC, dI)) (ci := 9) (v := .int v4) (ty := .int) (C := RX9) (T := TX9) (N := 6) hx hb hts inX9 tyX9 tyX9_ok nmX9 hown hK hP hD hS 0 rfl rfl 3 (by decide) (hts _ mw_82) (fun _ h9 => h9) rfl (by decide +kernel) rfl rfl (Nat.le_of_ble_eq_true rfl) dX9_change_83 (fun H locs hP hD hS => ?_)
          obtain ⟨hP, hD⟩ := va_bo [(h, .inr (9, [.int v1, .int v2, .int v3, .int v4, .int t4, .int t5]))] hP hD
          refine lv_aload_n hx hb dX9_change_86 rfl (lv_at hl 1 rfl) ?_
          refine lv_iload hx hb dX9_change_87 (lv_at hl 6 rfl) ?_
          refine va_put (D := (dC, dI)) (ci := 9) (v := .int v5) (ty := .int) (C := RX9) (T := TX9) (N := 6) hx hb hts inX9 tyX9 tyX9_ok nmX9 hown hK hP hD hS 0 rfl rfl 4 (by decide) (hts _ mw_83) (fun _ h9 => h9) rfl (by decide +kernel) rfl rfl (Nat.le_of_ble_eq_true rfl) dX9_change_89 (fun H locs hP hD hS => ?_)
          obtain ⟨hP, hD⟩ := va_bo [(h, .inr (9, [.int v1, .int v2, .int v3, .int v4, .int v5, .int t5]))] hP hD
          refine lv_aload_n hx hb dX9_change_92 rfl (lv_at hl 1 rfl) ?_
          refine lv_iload hx hb dX9_change_93 (lv_at hl 7 rfl) ?_
          refine va_put (D := (dC, dI)) (ci := 9) (v := .int v6) (ty := .int) (C := RX9) (T := TX9) (N := 6) hx hb hts inX9 tyX9 tyX9_ok nmX9 hown hK hP hD hS 0 rfl rfl 5 (by decide) (hts _ mw_84) (fun _ h9 => h9) rfl (by decide +kernel) rfl rfl (Nat.le_of_ble_eq_true rfl) dX9_change_95 (fun H locs hP hD hS => ?_)
          obtain ⟨hP, hD⟩ := va_bo [(h, .inr (9, [.int v1, .int v2, .int v3, .int v4, .int v5, .int v6]))] hP hD
          refine lv_iconst (v := 1) hx hb dX9_change_98 (by decide) ?_
          refine W.widen (k := 0) (n := 0) (Nat.le_of_ble_eq_true rfl) (Nat.le_of_ble_eq_true rfl) ?_
          have hP9 : va_P (dC, dI) vwCl [(h, .inr (9, [.int v1, .int v2, .int v3, .int v4, .int v5, .int v6]))] H := va_P.sub hP [0] rfl
          have hD9 : va_D A [(h, .inr (9, [.int v1, .int v2, .int v3, .int v4, .int v5, .int v6]))] := va_D.sub hD [0] (by decide) rfl
          exact W.zret (v := 1) (ty := .boolean) hx hb hr rfl (fun t ht hW => ⟨⟨1, (v1, v2, v3, v4, v5, v6), rfl, (Or.inr rfl), by rw [ht]; dsimp only; exact hP9, by dsimp only; exact hD9⟩, hS.F ht⟩) hS.2.2 dX9_change_99
        · refine lv_iload hx hb dX9_change_33 (lv_at hl 5 rfl) ?_
          refine lv_aload_n hx hb dX9_change_35 rfl (lv_at hl 0 rfl) ?_
          refine va_get (D := (dC, dI)) (ci := 9) (v := .int t4) (C := RX9) (T := TX9) (N := 6) hx hb hts inX9 hown hK hP 0 rfl rfl 4 (by decide) (hts _ mw_83) (fun _ h9 => h9) rfl dX9_change_36 ?_
          refine lv_icmp_ne (tgt := 46) hx hb dX9_change_39 (by decide) (fun c_5 => ?_) (fun c_5 => ?_)
          · refine lv_iconst (v := 0) hx hb dX9_change_46 (by decide) ?_
            refine lv_istore (lv' := [(7, .int 0), (0, .ref h), (1, .int v1), (2, .int v2), (3, .int v3), (4, .int v4), (5, .int v5), (6, .int v6)]) hx hb dX9_change_47 hl (by decide) rfl (fun ls hl => ?_)
            refine lv_iload hx hb dX9_change_49 (lv_at hl 0 rfl) ?_
            refine lv_if_eq (tgt := 65) hx hb dX9_change_51 (by decide) (fun c_ => ?_) (fun c_ => absurd c_ (by decide))
            refine lv_aload_n hx hb dX9_change_65 rfl (lv_at hl 1 rfl) ?_
            refine lv_iload_n hx hb dX9_change_66 rfl (lv_at hl 2 rfl) ?_
            refine va_put (D := (dC, dI)) (ci := 9) (v := .int v1) (ty := .int) (C := RX9) (T := TX9) (N := 6) hx hb hts inX9 tyX9 tyX9_ok nmX9 hown hK hP hD hS 0 rfl rfl 0 (by decide) (hts _ mw_79) (fun _ h9 => h9) rfl (by decide +kernel) rfl rfl (Nat.le_of_ble_eq_true rfl) dX9_change_67 (fun H locs hP hD hS => ?_)
            obtain ⟨hP, hD⟩ := va_bo [(h, .inr (9, [.int v1, .int t1, .int t2, .int t3, .int t4, .int t5]))] hP hD
            refine lv_aload_n hx hb dX9_change_70 rfl (lv_at hl 1 rfl) ?_
            refine lv_iload_n hx hb dX9_change_71 rfl (lv_at hl 3 rfl) ?_
            refine va_put (D := (dC, dI)) (ci := 9) (v := .int v2) (ty := .int) (C := RX9) (T := TX9) (N := 6) hx hb hts inX9 tyX9 tyX9_ok nmX9 hown hK hP hD hS 0 rfl rfl 1 (by decide) (hts _ mw_80) (fun _ h9 => h9) rfl (by decide +kernel) rfl rfl (Nat.le_of_ble_eq_true rfl) dX9_change_72 (fun H locs hP hD hS => ?_)
            obtain ⟨hP, hD⟩ := va_bo [(h, .inr (9, [.int v1, .int v2, .int t2, .int t3, .int t4, .int t5]))] hP hD
            refine lv_aload_n hx hb dX9_change_75 rfl (lv_at hl 1 rfl) ?_
            refine lv_iload_n hx hb dX9_change_76 rfl (lv_at hl 4 rfl) ?_
            refine va_put (D := (dC, dI)) (ci := 9) (v := .int v3) (ty := .int) (C := RX9) (T := TX9) (N := 6) hx hb hts inX9 tyX9 tyX9_ok nmX9 hown hK hP hD hS 0 rfl rfl 2 (by decide) (hts _ mw_81) (fun _ h9 => h9) rfl (by decide +kernel) rfl rfl (Nat.le_of_ble_eq_true rfl) dX9_change_77 (fun H locs hP hD hS => ?_)
            obtain ⟨hP, hD⟩ := va_bo [(h, .inr (9, [.int v1, .int v2, .int v3, .int t3, .int t4, .int t5]))] hP hD
            refine lv_aload_n hx hb dX9_change_80 rfl (lv_at hl 1 rfl) ?_
            refine lv_iload hx hb dX9_change_81 (lv_at hl 5 rfl) ?_
            refine va_put (D := (dC, dI)) (ci := 9) (v := .int v4) (ty := .int) (C := RX9) (T := TX9) (N := 6) hx hb hts inX9 tyX9 tyX9_ok nmX9 hown hK hP hD hS 0 rfl rfl 3 (by decide) (hts _ mw_82) (fun _ h9 => h9) rfl (by decide +kernel) rfl rfl (Nat.le_of_ble_eq_true rfl) dX9_change_83 (fun H locs hP hD hS => ?_)
            obtain ⟨hP, hD⟩ := va_bo [(h, .inr (9, [.int v1, .int v2, .int v3, .int v4, .int t4, .int t5]))] hP hD
            refine lv_aload_n hx hb dX9_change_86 rfl (lv_at hl 1 rfl) ?_
            refine lv_iload hx hb dX9_change_87 (lv_at hl 6 rfl) ?_
            refine va_put (D := (dC, dI)) (ci := 9) (v := .int v5) (ty := .int) (C := RX9) (T := TX9) (N := 6) hx hb hts inX9 tyX9 tyX9_ok nmX9 hown hK hP hD hS 0 rfl rfl 4 (by decide) (hts _ mw_83) (fun _ h9 => h9) rfl (by decide +kernel) rfl rfl (Nat.le_of_ble_eq_true rfl) dX9_change_89 (fun H locs hP hD hS => ?_)
            obtain ⟨hP, hD⟩ := va_bo [(h, .inr (9, [.int v1, .int v2, .int v3, .int v4, .int v5, .int t5]))] hP hD
            refine lv_aload_n hx hb dX9_change_92 rfl (lv_at hl 1 rfl) ?_
            refine lv_iload hx hb dX9_change_93 (lv_at hl 7 rfl) ?_
            refine va_put (D := (dC, dI)) (ci := 9) (v := .int v6) (ty := .int) (C := RX9) (T := TX9) (N := 6) hx hb hts inX9 tyX9 tyX9_ok nmX9 hown hK hP hD hS 0 rfl rfl 5 (by decide) (hts _ mw_84) (fun _ h9 => h9) rfl (by decide +kernel) rfl rfl (Nat.le_of_ble_eq_true rfl) dX9_change_95 (fun H locs hP hD hS => ?_)
            obtain ⟨hP, hD⟩ := va_bo [(h, .inr (9, [.int v1, .int v2, .int v3, .int v4, .int v5, .int v6]))] hP hD
            refine lv_iconst (v := 1) hx hb dX9_change_98 (by decide) ?_
            refine W.widen (k := 0) (n := 0) (Nat.le_of_ble_eq_true rfl) (Nat.le_of_ble_eq_true rfl) ?_
            have hP9 : va_P (dC, dI) vwCl [(h, .inr (9, [.int v1, .int v2, .int v3, .int v4, .int v5, .int v6]))] H := va_P.sub hP [0] rfl
            have hD9 : va_D A [(h, .inr (9, [.int v1, .int v2, .int v3, .int v4, .int v5, .int v6]))] := va_D.sub hD [0] (by decide) rfl
            exact W.zret (v := 1) (ty := .boolean) hx hb hr rfl (fun t ht hW => ⟨⟨1, (v1, v2, v3, v4, v5, v6), rfl, (Or.inr rfl), by rw [ht]; dsimp only; exact hP9, by dsimp only; exact hD9⟩, hS.F ht⟩) hS.2.2 dX9_change_99
          · refine lv_iconst (v := 1) hx hb dX9_change_42 (by decide) ?_
            refine lv_goto (tgt := 47) hx hb dX9_change_43 (by decide) ?_
            refine lv_istore (lv' := [(7, .int 1), (0, .ref h), (1, .int v1), (2, .int v2), (3, .int v3), (4, .int v4), (5, .int v5), (6, .int v6)]) hx hb dX9_change_47 hl (by decide) rfl (fun ls hl => ?_)
            refine lv_iload hx hb dX9_change_49 (lv_at hl 0 rfl) ?_
            refine lv_if_eq (tgt := 65) hx hb dX9_change_51 (by decide) (fun c_ => absurd c_ (by decide)) (fun c_ => ?_)
            refine lv_iload hx hb dX9_change_54 (lv_at hl 7 rfl) ?_
            refine lv_aload_n hx hb dX9_change_56 rfl (lv_at hl 1 rfl) ?_
            refine va_get (D := (dC, dI)) (ci := 9) (v := .int t5) (C := RX9) (T := TX9) (N := 6) hx hb hts inX9 hown hK hP 0 rfl rfl 5 (by decide) (hts _ mw_84) (fun _ h9 => h9) rfl dX9_change_57 ?_
            refine lv_icmp_ne (tgt := 65) hx hb dX9_change_60 (by decide) (fun c_6 => ?_) (fun c_6 => ?_)
            · refine lv_aload_n hx hb dX9_change_65 rfl (lv_at hl 1 rfl) ?_
              refine lv_iload_n hx hb dX9_change_66 rfl (lv_at hl 2 rfl) ?_
              refine va_put (D := (dC, dI)) (ci := 9) (v := .int v1) (ty := .int) (C := RX9) (T := TX9) (N := 6) hx hb hts inX9 tyX9 tyX9_ok nmX9 hown hK hP hD hS 0 rfl rfl 0 (by decide) (hts _ mw_79) (fun _ h9 => h9) rfl (by decide +kernel) rfl rfl (Nat.le_of_ble_eq_true rfl) dX9_change_67 (fun H locs hP hD hS => ?_)
              obtain ⟨hP, hD⟩ := va_bo [(h, .inr (9, [.int v1, .int t1, .int t2, .int t3, .int t4, .int t5]))] hP hD
              refine lv_aload_n hx hb dX9_change_70 rfl (lv_at hl 1 rfl) ?_
              refine lv_iload_n hx hb dX9_change_71 rfl (lv_at hl 3 rfl) ?_
              refine va_put (D := (dC, dI)) (ci := 9) (v := .int v2) (ty := .int) (C := RX9) (T := TX9) (N := 6) hx hb hts inX9 tyX9 tyX9_ok nmX9 hown hK hP hD hS 0 rfl rfl 1 (by decide) (hts _ mw_80) (fun _ h9 => h9) rfl (by decide +kernel) rfl rfl (Nat.le_of_ble_eq_true rfl) dX9_change_72 (fun H locs hP hD hS => ?_)
              obtain ⟨hP, hD⟩ := va_bo [(h, .inr (9, [.int v1, .int v2, .int t2, .int t3, .int t4, .int t5]))] hP hD
              refine lv_aload_n hx hb dX9_change_75 rfl (lv_at hl 1 rfl) ?_
              refine lv_iload_n hx hb dX9_change_76 rfl (lv_at hl 4 rfl) ?_
              refine va_put (D := (dC, dI)) (ci := 9) (v := .int v3) (ty := .int) (C := RX9) (T := TX9) (N := 6) hx hb hts inX9 tyX9 tyX9_ok nmX9 hown hK hP hD hS 0 rfl rfl 2 (by decide) (hts _ mw_81) (fun _ h9 => h9) rfl (by decide +kernel) rfl rfl (Nat.le_of_ble_eq_true rfl) dX9_change_77 (fun H locs hP hD hS => ?_)
              obtain ⟨hP, hD⟩ := va_bo [(h, .inr (9, [.int v1, .int v2, .int v3, .int t3, .int t4, .int t5]))] hP hD
              refine lv_aload_n hx hb dX9_change_80 rfl (lv_at hl 1 rfl) ?_
              refine lv_iload hx hb dX9_change_81 (lv_at hl 5 rfl) ?_
              refine va_put (D := (dC, dI)) (ci := 9) (v := .int v4) (ty := .int) (C := RX9) (T := TX9) (N := 6) hx hb hts inX9 tyX9 tyX9_ok nmX9 hown hK hP hD hS 0 rfl rfl 3 (by decide) (hts _ mw_82) (fun _ h9 => h9) rfl (by decide +kernel) rfl rfl (Nat.le_of_ble_eq_true rfl) dX9_change_83 (fun H locs hP hD hS => ?_)
              obtain ⟨hP, hD⟩ := va_bo [(h, .inr (9, [.int v1, .int v2, .int v3, .int v4, .int t4, .int t5]))] hP hD
              refine lv_aload_n hx hb dX9_change_86 rfl (lv_at hl 1 rfl) ?_
              refine lv_iload hx hb dX9_change_87 (lv_at hl 6 rfl) ?_
              refine va_put (D := (dC, dI)) (ci := 9) (v := .int v5) (ty := .int) (C := RX9) (T := TX9) (N := 6) hx hb hts inX9 tyX9 tyX9_ok nmX9 hown hK hP hD hS 0 rfl rfl 4 (by decide) (hts _ mw_83) (fun _ h9 => h9) rfl (by decide +kernel) rfl rfl (Nat.le_of_ble_eq_true rfl) dX9_change_89 (fun H locs hP hD hS => ?_)
              obtain ⟨hP, hD⟩ := va_bo [(h, .inr (9, [.int v1, .int v2, .int v3, .int v4, .int v5, .int t5]))] hP hD
              refine lv_aload_n hx hb dX9_change_92 rfl (lv_at hl 1 rfl) ?_
              refine lv_iload hx hb dX9_change_93 (lv_at hl 7 rfl) ?_
              refine va_put (D := (dC, dI)) (ci := 9) (v := .int v6) (ty := .int) (C := RX9) (T := TX9) (N := 6) hx hb hts inX9 tyX9 tyX9_ok nmX9 hown hK hP hD hS 0 rfl rfl 5 (by decide) (hts _ mw_84) (fun _ h9 => h9) rfl (by decide +kernel) rfl rfl (Nat.le_of_ble_eq_true rfl) dX9_change_95 (fun H locs hP hD hS => ?_)
              obtain ⟨hP, hD⟩ := va_bo [(h, .inr (9, [.int v1, .int v2, .int v3, .int v4, .int v5, .int v6]))] hP hD
              refine lv_iconst (v := 1) hx hb dX9_change_98 (by decide) ?_
              refine W.widen (k := 0) (n := 0) (Nat.le_of_ble_eq_true rfl) (Nat.le_of_ble_eq_true rfl) ?_
              have hP9 : va_P (dC, dI) vwCl [(h, .inr (9, [.int v1, .int v2, .int v3, .int v4, .int v5, .int v6]))] H := va_P.sub hP [0] rfl
              have hD9 : va_D A [(h, .inr (9, [.int v1, .int v2, .int v3, .int v4, .int v5, .int v6]))] := va_D.sub hD [0] (by decide) rfl
              exact W.zret (v := 1) (ty := .boolean) hx hb hr rfl (fun t ht hW => ⟨⟨1, (v1, v2, v3, v4, v5, v6), rfl, (Or.inr rfl), by rw [ht]; dsimp only; exact hP9, by dsimp only; exact hD9⟩, hS.F ht⟩) hS.2.2 dX9_change_99
            · refine lv_iconst (v := 0) hx hb dX9_change_63 (by decide) ?_
              refine W.widen (k := 0) (n := 0) (Nat.le_of_ble_eq_true rfl) (Nat.le_of_ble_eq_true rfl) ?_
              have hP9 : va_P (dC, dI) vwCl [(h, .inr (9, [.int t0, .int t1, .int t2, .int t3, .int t4, .int t5]))] s.heap := va_P.sub hP [0] rfl
              have hD9 : va_D A [(h, .inr (9, [.int t0, .int t1, .int t2, .int t3, .int t4, .int t5]))] := va_D.sub hD [0] (by decide) rfl
              exact W.zret (v := 0) (ty := .boolean) hx hb hr rfl (fun t ht hW => ⟨⟨0, (t0, t1, t2, t3, t4, t5), rfl, (Or.inl rfl), by rw [ht]; dsimp only; exact hP9, by dsimp only; exact hD9⟩, hS.F ht⟩) hS.2.2 dX9_change_64

set_option maxHeartbeats 4000000 in
set_option maxRecDepth 100000 in
theorem t_heat (l : Launch) (dC : Nat → ClassId) (dI : Nat → Nat → Nat) (ca : Nat → ClassId) (sz : Nat) (h : Nat) (t0 : Int32) (t1 : Int32) (t2 : Int32) (t3 : Int32) (t4 : Int32) (t5 : Int32) (g : Nat) (ro : Nat) (b0 : Int32) (b2 : Int32) (b3 : Int32) (b4 : Int64) (b5 : Int32) (b6 : Int32) (b7 : Int32) (b8 : Int32) (b9 : Int32) (b10 : Int32) (b11 : Int32) (b12 : Int32) (b13 : Int32) (b14 : Int32) (b15 : Int32) (v1 : Int32) : Met l yX9_heatOneTick (Cond.code yX9_heatOneTick cX9_heatOneTick 3 none :: gT) ({ frames := 2, cells := 0, slots := 0, locals := 83 }) (va_Pc [.ref h, .ref g, .int v1] (pr (dC, dI) sz [(h, .inr (9, [.int t0, .int t1, .int t2, .int t3, .int t4, .int t5])), (g, .inr (0, [.int b0, .ref ro, .int b2, .int b3, .long b4, .int b5, .int b6, .int b7, .int b8, .int b9, .int b10, .int b11, .int b12, .int b13, .int b14, .int b15]))] (aT ca))) (va_Qv (fun (u_ : Int32 × Int32) => True) (fun (u_ : Int32 × Int32) t => va_P (dC, dI) vwCl [(h, .inr (9, [.int t0, .int t1, .int t2, .int t3, .int t4, .int t5])), (g, .inr (0, [.int b0, .ref ro, .int b2, .int b3, .long b4, .int b5, .int b6, .int b7, .int b8, .int b9, .int b10, .int b11, .int u_.1, .int u_.2, .int b14, .int b15]))] t.heap ∧ va_D (va_A [(h, .inr (9, [.int t0, .int t1, .int t2, .int t3, .int t4, .int t5])), (g, .inr (0, [.int b0, .ref ro, .int b2, .int b3, .long b4, .int b5, .int b6, .int b7, .int b8, .int b9, .int b10, .int b11, .int b12, .int b13, .int b14, .int b15]))] sz) [(h, .inr (9, [.int t0, .int t1, .int t2, .int t3, .int t4, .int t5])), (g, .inr (0, [.int b0, .ref ro, .int b2, .int b3, .long b4, .int b5, .int b6, .int b7, .int b8, .int b9, .int b10, .int b11, .int u_.1, .int u_.2, .int b14, .int b15]))]) (va_A [(h, .inr (9, [.int t0, .int t1, .int t2, .int t3, .int t4, .int t5])), (g, .inr (0, [.int b0, .ref ro, .int b2, .int b3, .long b4, .int b5, .int b6, .int b7, .int b8, .int b9, .int b10, .int b11, .int b12, .int b13, .int b14, .int b15]))] sz)) 0 0 (va_A [(h, .inr (9, [.int t0, .int t1, .int t2, .int t3, .int t4, .int t5])), (g, .inr (0, [.int b0, .ref ro, .int b2, .int b3, .long b4, .int b5, .int b6, .int b7, .int b8, .int b9, .int b10, .int b11, .int b12, .int b13, .int b14, .int b15]))] sz) := by
  refine Met.ofW (cc := cX9_heatOneTick) (maxL := 3) (ret := none) (by decide) rfl ?_
  intro p e s m args below meth c s₁ B hml hv
  obtain ⟨rfl, hsz, hP, hK, hD0, hE⟩ := hv
  have hx := B.exec
  have hb := B.bytes
  have hr := B.returns
  have hts : ∀ w ∈ gT, w.before _ s = true := fun w h => atoms_spec (ws := Cond.code yX9_heatOneTick cX9_heatOneTick 3 none :: gT) B.pre w (List.mem_cons_of_mem _ h)
  have hown : s.vm.findClass RX9 = some m.cls := findClass_of_methodNamed B.named
  have hlocks := B.notSynchronized
  subst hsz
  have hD := hD0.self (sz := s.heap.size)
  generalize hAe : va_A [(h, .inr (9, [.int t0, .int t1, .int t2, .int t3, .int t4, .int t5])), (g, .inr (0, [.int b0, .ref ro, .int b2, .int b3, .long b4, .int b5, .int b6, .int b7, .int b8, .int b9, .int b10, .int b11, .int b12, .int b13, .int b14, .int b15]))] s.heap.size = A at hD ⊢
  have hA : ∀ q : Nat, s.heap.size ≤ q → A q := fun q h => by rw [← hAe]; exact Or.inr h
  have hS : va_S A s.heap s.heap [] := va_S.rf
  have hl := lv_entry ([.ref h, .ref g, .int v1]) (n := 3) (Nat.le_of_ble_eq_true rfl)
  rw [lg_entry_eq]
  generalize (lg_sl ([.ref h, .ref g, .int v1]) ++ List.replicate (3 - (lg_sl ([.ref h, .ref g, .int v1])).length) Slot.unset).toArray = ls at hl ⊢
  have hl : lv_has ls 3 [(0, .ref h), (1, .ref g), (2, .int v1)] := hl
  refine lv_aload_n hx hb dX9_heatOneTick_0 rfl (lv_at hl 0 rfl) ?_
  refine lv_aload_n hx hb dX9_heatOneTick_1 rfl (lv_at hl 1 rfl) ?_
  refine va_get (D := (dC, dI)) (ci := 0) (v := .int b12) (C := RX0) (T := TX0) (N := 16) hx hb hts inX0 hown hK hP 1 rfl rfl 12 (by decide) (hts _ mw_324) (fun _ h9 => h9) rfl dX9_heatOneTick_2 ?_
  refine lv_iload_n hx hb dX9_heatOneTick_5 rfl (lv_at hl 2 rfl) ?_
  have hPc := hP.sub (ws' := [(h, .inr (9, [.int t0, .int t1, .int t2, .int t3, .int t4, .int t5]))]) [0] rfl
  refine pc_i (va_runV (As := [.int b12, .int v1]) (rest := []) ⟨hx, hb, hml, hown, hts⟩ (t_isSpoilt l dC dI ca h t0 t1 t2 t3 t4 t5 b12 v1 ) (⟨callB_of 2 hts (gd mw_531) rfl rfl rfl (hts _ mw_4) (hts _ mw_528) ds_X9_isSpoilt ⟨Nat.le_of_ble_eq_true rfl, Nat.le_of_ble_eq_true rfl⟩, (hts _ mw_530), (hts _ mp_6)⟩) (pu_V hPc hK hE (va_recv hK hPc (ci := 9) (q0 := 0) rfl rfl)) rfl rfl hl.1 rfl (lv_room (Nat.le_of_ble_eq_true rfl)) dX9_heatOneTick_6 ⟨Nat.le_of_ble_eq_true rfl, Nat.le_of_ble_eq_true rfl⟩) (fun rv_1 hw_ => ?_)
  have hw_1 := hw_
  refine wl_cut (pc2 := 22) (σ := Int32 × Int32) (stk2 := fun (z_ : Int32 × Int32) => []) (fun (z_ : Int32 × Int32) H locs ls => (True) ∧ va_P (dC, dI) vwCl [(h, .inr (9, [.int t0, .int t1, .int t2, .int t3, .int t4, .int t5])), (g, .inr (0, [.int b0, .ref ro, .int b2, .int b3, .long b4, .int b5, .int b6, .int b7, .int b8, .int b9, .int b10, .int b11, .int z_.1, .int z_.2, .int b14, .int b15]))] H ∧ va_D A [(h, .inr (9, [.int t0, .int t1, .int t2, .int t3, .int t4, .int t5])), (g, .inr (0, [.int b0, .ref ro, .int b2, .int b3, .long b4, .int b5, .int b6, .int b7, .int b8, .int b9, .int b10, .int b11, .int z_.1, .int z_.2, .int b14, .int b15]))] ∧ va_S A s.heap H locs ∧ lv_has ls 3 [(0, .ref h), (1, .ref g), (2, .int v1)]) (fun z_ H locs ls hI => ?_) (fun J2 => ?_)
  · obtain ⟨y12, y13⟩ := z_
    dsimp only at hI
    obtain ⟨-, hP, hD, hS, hl⟩ := hI
    refine lv_aload_n hx hb dX9_heatOneTick_22 rfl (lv_at hl 1 rfl) ?_
    refine va_get (D := (dC, dI)) (ci := 0) (v := .int y12) (C := RX0) (T := TX0) (N := 16) hx hb hts inX0 hown hK hP 1 rfl rfl 12 (by decide) (hts _ mw_324) (fun _ h9 => h9) rfl dX9_heatOneTick_23 ?_
    refine lv_iconst (v := 3) hx hb dX9_heatOneTick_26 (by decide) ?_
    refine lv_icmp_ne (tgt := 31) hx hb dX9_heatOneTick_27 (by decide) (fun c_3 => ?_) (fun c_3 => ?_)
    · refine lv_aload_n hx hb dX9_heatOneTick_31 rfl (lv_at hl 1 rfl) ?_
      refine lv_aload_n hx hb dX9_heatOneTick_32 rfl (lv_at hl 0 rfl) ?_
      refine lv_aload_n hx hb dX9_heatOneTick_33 rfl (lv_at hl 1 rfl) ?_
      refine va_get (D := (dC, dI)) (ci := 0) (v := .int y12) (C := RX0) (T := TX0) (N := 16) hx hb hts inX0 hown hK hP 1 rfl rfl 12 (by decide) (hts _ mw_324) (fun _ h9 => h9) rfl dX9_heatOneTick_34 ?_
      refine lv_iload_n hx hb dX9_heatOneTick_37 rfl (lv_at hl 2 rfl) ?_
      have hPc := hP.sub (ws' := [(h, .inr (9, [.int t0, .int t1, .int t2, .int t3, .int t4, .int t5]))]) [0] rfl
      refine pc_i (va_runV (As := [.int y12, .int v1]) (rest := [.ref g]) ⟨hx, hb, hml, hown, hts⟩ (t_counts l dC dI ca h t0 t1 t2 t3 t4 t5 y12 v1 ) (⟨callB_of 2 hts (gd mw_535) rfl rfl rfl (hts _ mw_4) (hts _ mw_532) ds_X9_counts ⟨Nat.le_of_ble_eq_true rfl, Nat.le_of_ble_eq_true rfl⟩, (hts _ mw_534), (hts _ mp_7)⟩) (pu_V hPc hK hE (va_recv hK hPc (ci := 9) (q0 := 0) rfl rfl)) rfl rfl hl.1 rfl (lv_room (Nat.le_of_ble_eq_true rfl)) dX9_heatOneTick_38 ⟨Nat.le_of_ble_eq_true rfl, Nat.le_of_ble_eq_true rfl⟩) (fun rv_4 hw_ => ?_)
      have hw_4 := hw_
      refine wl_cut (pc2 := 54) (σ := Int32) (stk2 := fun (z_ : Int32) => [.int z_, .ref g]) (fun (z_ : Int32) H locs ls => (True) ∧ va_P (dC, dI) vwCl [(h, .inr (9, [.int t0, .int t1, .int t2, .int t3, .int t4, .int t5])), (g, .inr (0, [.int b0, .ref ro, .int b2, .int b3, .long b4, .int b5, .int b6, .int b7, .int b8, .int b9, .int b10, .int b11, .int y12, .int y13, .int b14, .int b15]))] H ∧ va_D A [(h, .inr (9, [.int t0, .int t1, .int t2, .int t3, .int t4, .int t5])), (g, .inr (0, [.int b0, .ref ro, .int b2, .int b3, .long b4, .int b5, .int b6, .int b7, .int b8, .int b9, .int b10, .int b11, .int y12, .int y13, .int b14, .int b15]))] ∧ va_S A s.heap H locs ∧ lv_has ls 3 [(0, .ref h), (1, .ref g), (2, .int v1)]) (fun z_ H locs ls hI => ?_) (fun J5 => ?_)
      · revert hI; revert z_; intro z13 hI
        obtain ⟨-, hP, hD, hS, hl⟩ := hI
        refine va_put (D := (dC, dI)) (ci := 0) (v := .int z13) (ty := .int) (C := RX0) (T := TX0) (N := 16) hx hb hts inX0 tyX0 tyX0_ok nmX0 hown hK hP hD hS 1 rfl rfl 13 (by decide) (hts _ mw_327) (fun _ h9 => h9) rfl (by decide +kernel) rfl rfl (Nat.le_of_ble_eq_true rfl) dX9_heatOneTick_54 (fun H locs hP hD hS => ?_)
        obtain ⟨hP, hD⟩ := va_bo [(h, .inr (9, [.int t0, .int t1, .int t2, .int t3, .int t4, .int t5])), (g, .inr (0, [.int b0, .ref ro, .int b2, .int b3, .long b4, .int b5, .int b6, .int b7, .int b8, .int b9, .int b10, .int b11, .int y12, .int z13, .int b14, .int b15]))] hP hD
        refine lv_aload_n hx hb dX9_heatOneTick_57 rfl (lv_at hl 1 rfl) ?_
        refine va_get (D := (dC, dI)) (ci := 0) (v := .int z13) (C := RX0) (T := TX0) (N := 16) hx hb hts inX0 hown hK hP 1 rfl rfl 13 (by decide) (hts _ mw_327) (fun _ h9 => h9) rfl dX9_heatOneTick_58 ?_
        refine lv_aload_n hx hb dX9_heatOneTick_61 rfl (lv_at hl 0 rfl) ?_
        refine va_get (D := (dC, dI)) (ci := 9) (v := .int t5) (C := RX9) (T := TX9) (N := 6) hx hb hts inX9 hown hK hP 0 rfl rfl 5 (by decide) (hts _ mw_84) (fun _ h9 => h9) rfl dX9_heatOneTick_62 ?_
        refine lv_icmp_lt (tgt := 83) hx hb dX9_heatOneTick_65 (by decide) (fun c_6 => ?_) (fun c_6 => ?_)
        · refine W.widen (k := 0) (n := 0) (Nat.le_of_ble_eq_true rfl) (Nat.le_of_ble_eq_true rfl) ?_
          have hP9 : va_P (dC, dI) vwCl [(h, .inr (9, [.int t0, .int t1, .int t2, .int t3, .int t4, .int t5])), (g, .inr (0, [.int b0, .ref ro, .int b2, .int b3, .long b4, .int b5, .int b6, .int b7, .int b8, .int b9, .int b10, .int b11, .int y12, .int z13, .int b14, .int b15]))] H := va_P.sub hP [0, 1] rfl
          have hD9 : va_D A [(h, .inr (9, [.int t0, .int t1, .int t2, .int t3, .int t4, .int t5])), (g, .inr (0, [.int b0, .ref ro, .int b2, .int b3, .long b4, .int b5, .int b6, .int b7, .int b8, .int b9, .int b10, .int b11, .int y12, .int z13, .int b14, .int b15]))] := va_D.sub hD [0, 1] (by decide) rfl
          exact W.vret hx hb hr (fun t ht hW => ⟨⟨(y12, z13), rfl, trivial, by rw [ht]; dsimp only; exact hP9, by dsimp only; exact hD9⟩, hS.F ht⟩) hS.2.2 dX9_heatOneTick_83
        · refine lv_aload_n hx hb dX9_heatOneTick_68 rfl (lv_at hl 1 rfl) ?_
          refine lv_dup hx hb dX9_heatOneTick_69 rfl ?_
          refine va_get (D := (dC, dI)) (ci := 0) (v := .int y12) (C := RX0) (T := TX0) (N := 16) hx hb hts inX0 hown hK hP 1 rfl rfl 12 (by decide) (hts _ mw_324) (fun _ h9 => h9) rfl dX9_heatOneTick_70 ?_
          refine lv_iconst (v := 1) hx hb dX9_heatOneTick_73 (by decide) ?_
          refine lv_iadd hx hb dX9_heatOneTick_74 ?_
          refine va_put (D := (dC, dI)) (ci := 0) (v := .int (y12 + 1)) (ty := .int) (C := RX0) (T := TX0) (N := 16) hx hb hts inX0 tyX0 tyX0_ok nmX0 hown hK hP hD hS 1 rfl rfl 12 (by decide) (hts _ mw_324) (fun _ h9 => h9) rfl (by decide +kernel) rfl rfl (Nat.le_of_ble_eq_true rfl) dX9_heatOneTick_75 (fun H locs hP hD hS => ?_)
          obtain ⟨hP, hD⟩ := va_bo [(h, .inr (9, [.int t0, .int t1, .int t2, .int t3, .int t4, .int t5])), (g, .inr (0, [.int b0, .ref ro, .int b2, .int b3, .long b4, .int b5, .int b6, .int b7, .int b8, .int b9, .int b10, .int b11, .int (y12 + 1), .int z13, .int b14, .int b15]))] hP hD
          refine lv_aload_n hx hb dX9_heatOneTick_78 rfl (lv_at hl 1 rfl) ?_
          refine lv_iconst (v := 0) hx hb dX9_heatOneTick_79 (by decide) ?_
          refine va_put (D := (dC, dI)) (ci := 0) (v := .int 0) (ty := .int) (C := RX0) (T := TX0) (N := 16) hx hb hts inX0 tyX0 tyX0_ok nmX0 hown hK hP hD hS 1 rfl rfl 13 (by decide) (hts _ mw_327) (fun _ h9 => h9) rfl (by decide +kernel) rfl rfl (Nat.le_of_ble_eq_true rfl) dX9_heatOneTick_80 (fun H locs hP hD hS => ?_)
          obtain ⟨hP, hD⟩ := va_bo [(h, .inr (9, [.int t0, .int t1, .int t2, .int t3, .int t4, .int t5])), (g, .inr (0, [.int b0, .ref ro, .int b2, .int b3, .long b4, .int b5, .int b6, .int b7, .int b8, .int b9, .int b10, .int b11, .int (y12 + 1), .int 0, .int b14, .int b15]))] hP hD
          refine W.widen (k := 0) (n := 0) (Nat.le_of_ble_eq_true rfl) (Nat.le_of_ble_eq_true rfl) ?_
          have hP9 : va_P (dC, dI) vwCl [(h, .inr (9, [.int t0, .int t1, .int t2, .int t3, .int t4, .int t5])), (g, .inr (0, [.int b0, .ref ro, .int b2, .int b3, .long b4, .int b5, .int b6, .int b7, .int b8, .int b9, .int b10, .int b11, .int (y12 + 1), .int 0, .int b14, .int b15]))] H := va_P.sub hP [0, 1] rfl
          have hD9 : va_D A [(h, .inr (9, [.int t0, .int t1, .int t2, .int t3, .int t4, .int t5])), (g, .inr (0, [.int b0, .ref ro, .int b2, .int b3, .long b4, .int b5, .int b6, .int b7, .int b8, .int b9, .int b10, .int b11, .int (y12 + 1), .int 0, .int b14, .int b15]))] := va_D.sub hD [0, 1] (by decide) rfl
          exact W.vret hx hb hr (fun t ht hW => ⟨⟨((y12 + 1), 0), rfl, trivial, by rw [ht]; dsimp only; exact hP9, by dsimp only; exact hD9⟩, hS.F ht⟩) hS.2.2 dX9_heatOneTick_83
      · refine lv_if_eq (tgt := 53) hx hb dX9_heatOneTick_41 (by decide) (fun c_7 => ?_) (fun c_7 => ?_)
        · refine lv_iconst (v := 0) hx hb dX9_heatOneTick_53 (by decide) ?_
          exact J5 0 _ _ _ ⟨trivial, hP, hD, hS, lv_sub hl [0, 1, 2] rfl⟩
        · refine lv_aload_n hx hb dX9_heatOneTick_44 rfl (lv_at hl 1 rfl) ?_
          refine va_get (D := (dC, dI)) (ci := 0) (v := .int y13) (C := RX0) (T := TX0) (N := 16) hx hb hts inX0 hown hK hP 1 rfl rfl 13 (by decide) (hts _ mw_327) (fun _ h9 => h9) rfl dX9_heatOneTick_45 ?_
          refine lv_iconst (v := 1) hx hb dX9_heatOneTick_48 (by decide) ?_
          refine lv_iadd hx hb dX9_heatOneTick_49 ?_
          refine lv_goto (tgt := 54) hx hb dX9_heatOneTick_50 (by decide) ?_
          exact J5 (y13 + 1) _ _ _ ⟨trivial, hP, hD, hS, lv_sub hl [0, 1, 2] rfl⟩
    · refine W.widen (k := 0) (n := 0) (Nat.le_of_ble_eq_true rfl) (Nat.le_of_ble_eq_true rfl) ?_
      have hP9 : va_P (dC, dI) vwCl [(h, .inr (9, [.int t0, .int t1, .int t2, .int t3, .int t4, .int t5])), (g, .inr (0, [.int b0, .ref ro, .int b2, .int b3, .long b4, .int b5, .int b6, .int b7, .int b8, .int b9, .int b10, .int b11, .int y12, .int y13, .int b14, .int b15]))] H := va_P.sub hP [0, 1] rfl
      have hD9 : va_D A [(h, .inr (9, [.int t0, .int t1, .int t2, .int t3, .int t4, .int t5])), (g, .inr (0, [.int b0, .ref ro, .int b2, .int b3, .long b4, .int b5, .int b6, .int b7, .int b8, .int b9, .int b10, .int b11, .int y12, .int y13, .int b14, .int b15]))] := va_D.sub hD [0, 1] (by decide) rfl
      exact W.vret hx hb hr (fun t ht hW => ⟨⟨(y12, y13), rfl, trivial, by rw [ht]; dsimp only; exact hP9, by dsimp only; exact hD9⟩, hS.F ht⟩) hS.2.2 dX9_heatOneTick_30
  · refine lv_if_eq (tgt := 22) hx hb dX9_heatOneTick_9 (by decide) (fun c_8 => ?_) (fun c_8 => ?_)
    · exact J2 (b12, b13) _ _ _ ⟨trivial, hP, hD, hS, lv_sub hl [0, 1, 2] rfl⟩
    · refine lv_aload_n hx hb dX9_heatOneTick_12 rfl (lv_at hl 1 rfl) ?_
      refine lv_iconst (v := 0) hx hb dX9_heatOneTick_13 (by decide) ?_
      refine va_put (D := (dC, dI)) (ci := 0) (v := .int 0) (ty := .int) (C := RX0) (T := TX0) (N := 16) hx hb hts inX0 tyX0 tyX0_ok nmX0 hown hK hP hD hS 1 rfl rfl 12 (by decide) (hts _ mw_324) (fun _ h9 => h9) rfl (by decide +kernel) rfl rfl (Nat.le_of_ble_eq_true rfl) dX9_heatOneTick_14 (fun H locs hP hD hS => ?_)
      obtain ⟨hP, hD⟩ := va_bo [(h, .inr (9, [.int t0, .int t1, .int t2, .int t3, .int t4, .int t5])), (g, .inr (0, [.int b0, .ref ro, .int b2, .int b3, .long b4, .int b5, .int b6, .int b7, .int b8, .int b9, .int b10, .int b11, .int 0, .int b13, .int b14, .int b15]))] hP hD
      refine lv_aload_n hx hb dX9_heatOneTick_17 rfl (lv_at hl 1 rfl) ?_
      refine lv_iconst (v := 0) hx hb dX9_heatOneTick_18 (by decide) ?_
      refine va_put (D := (dC, dI)) (ci := 0) (v := .int 0) (ty := .int) (C := RX0) (T := TX0) (N := 16) hx hb hts inX0 tyX0 tyX0_ok nmX0 hown hK hP hD hS 1 rfl rfl 13 (by decide) (hts _ mw_327) (fun _ h9 => h9) rfl (by decide +kernel) rfl rfl (Nat.le_of_ble_eq_true rfl) dX9_heatOneTick_19 (fun H locs hP hD hS => ?_)
      obtain ⟨hP, hD⟩ := va_bo [(h, .inr (9, [.int t0, .int t1, .int t2, .int t3, .int t4, .int t5])), (g, .inr (0, [.int b0, .ref ro, .int b2, .int b3, .long b4, .int b5, .int b6, .int b7, .int b8, .int b9, .int b10, .int b11, .int 0, .int 0, .int b14, .int b15]))] hP hD
      exact J2 (0, 0) _ _ _ ⟨trivial, hP, hD, hS, lv_sub hl [0, 1, 2] rfl⟩

def srt (p1 p4 : Int32) : Int32 := (if p1 = 0 then 0 else 1) + (if p4 = -1 then 0 else 2)
def ift (p4 p5 p6 p7 : Int32) : Int32 := if p7 = 1 ∧ (p4 = -1 ∨ ¬ p5 = 0 ∨ ¬ p6 = 0) then 1 else 0
theorem ift_z (p4 p5 p6 p7 : Int32) : ift p4 p5 p6 p7 = 0 ∨ ift p4 p5 p6 p7 = 1 := by
  unfold ift
  split
  · exact Or.inr rfl
  · exact Or.inl rfl

set_option maxHeartbeats 4000000 in
set_option maxRecDepth 100000 in
theorem p_sort (l : Launch) (dC : Nat → ClassId) (dI : Nat → Nat → Nat) (ca : Nat → ClassId) (h : Nat) (p0 : Int32) (p1 : Int32) (p2 : Int32) (p3 : Int64) (p4 : Int32) (p5 : Int32) (p6 : Int32) (p7 : Int32) (p8 : Int32) : Met l yX6_sort (Cond.code yX6_sort cX6_sort 1 (some .int) :: gT) ({ frames := 1, cells := 0, slots := 0, locals := 60 }) (va_Pc [.ref h] (pu (dC, dI) [(h, .inr (6, [.int p0, .int p1, .int p2, .long p3, .int p4, .int p5, .int p6, .int p7, .int p8]))] (aT ca))) (vp_Si (fun r => r = srt p1 p4)) 0 0 (fun _ => False) := by
  refine Met.ofW (cc := cX6_sort) (maxL := 1) (ret := (some .int)) (by decide) rfl ?_
  intro p e s m args below meth c s₁ B hml hv
  obtain ⟨rfl, hP, hK, hE⟩ := hv
  have hx := B.exec
  have hb := B.bytes
  have hr := B.returns
  have hts : ∀ w ∈ gT, w.before _ s = true := fun w h => atoms_spec (ws := Cond.code yX6_sort cX6_sort 1 (some .int) :: gT) B.pre w (List.mem_cons_of_mem _ h)
  have hown : s.vm.findClass RX6 = some m.cls := findClass_of_methodNamed B.named
  have hlocks := B.notSynchronized
  have hl := lv_entry ([.ref h]) (n := 1) (Nat.le_of_ble_eq_true rfl)
  rw [lg_entry_eq]
  generalize (lg_sl ([.ref h]) ++ List.replicate (1 - (lg_sl ([.ref h])).length) Slot.unset).toArray = ls at hl ⊢
  have hl : lv_has ls 1 [(0, .ref h)] := hl
  refine lv_aload_n hx hb dX6_sort_0 rfl (lv_at hl 0 rfl) ?_
  refine va_get (D := (dC, dI)) (ci := 6) (v := .int p1) (C := RX6) (T := TX6) (N := 9) hx hb hts inX6 hown hK hP 0 rfl rfl 1 (by decide) (hts _ mw_551) (fun _ h9 => h9) rfl dX6_sort_1 ?_
  refine lv_if_eq (tgt := 11) hx hb dX6_sort_4 (by decide) (fun c_1 => ?_) (fun c_1 => ?_)
  · refine lv_iconst (v := 0) hx hb dX6_sort_11 (by decide) ?_
    refine lv_aload_n hx hb dX6_sort_12 rfl (lv_at hl 0 rfl) ?_
    refine va_get (D := (dC, dI)) (ci := 6) (v := .int p4) (C := RX6) (T := TX6) (N := 9) hx hb hts inX6 hown hK hP 0 rfl rfl 4 (by decide) (hts _ mw_556) (fun _ h9 => h9) rfl dX6_sort_13 ?_
    refine lv_iconst (v := (-1)) hx hb dX6_sort_16 (by decide) ?_
    refine lv_icmp_eq (tgt := 24) hx hb dX6_sort_17 (by decide) (fun c_2 => ?_) (fun c_2 => ?_)
    · refine lv_iconst (v := 0) hx hb dX6_sort_24 (by decide) ?_
      refine lv_iadd hx hb dX6_sort_25 ?_
      refine lv_topi (fun y_ e_ => ?_)
      obtain rfl : y_ = 0 := e_.trans (by decide)
      exact W.iret (v := 0) hx hb hr (fun t ht hW => ⟨0, rfl, (by unfold srt; simp [c_1, c_2]), ht⟩) (fun q h => absurd h List.not_mem_nil) dX6_sort_26
    · refine lv_iconst (v := 2) hx hb dX6_sort_20 (by decide) ?_
      refine lv_goto (tgt := 25) hx hb dX6_sort_21 (by decide) ?_
      refine lv_iadd hx hb dX6_sort_25 ?_
      refine lv_topi (fun y_ e_ => ?_)
      obtain rfl : y_ = 2 := e_.trans (by decide)
      exact W.iret (v := 2) hx hb hr (fun t ht hW => ⟨2, rfl, (by unfold srt; simp [c_1, c_2]), ht⟩) (fun q h => absurd h List.not_mem_nil) dX6_sort_26
  · refine lv_iconst (v := 1) hx hb dX6_sort_7 (by decide) ?_
    refine lv_goto (tgt := 12) hx hb dX6_sort_8 (by decide) ?_
    refine lv_aload_n hx hb dX6_sort_12 rfl (lv_at hl 0 rfl) ?_
    refine va_get (D := (dC, dI)) (ci := 6) (v := .int p4) (C := RX6) (T := TX6) (N := 9) hx hb hts inX6 hown hK hP 0 rfl rfl 4 (by decide) (hts _ mw_556) (fun _ h9 => h9) rfl dX6_sort_13 ?_
    refine lv_iconst (v := (-1)) hx hb dX6_sort_16 (by decide) ?_
    refine lv_icmp_eq (tgt := 24) hx hb dX6_sort_17 (by decide) (fun c_3 => ?_) (fun c_3 => ?_)
    · refine lv_iconst (v := 0) hx hb dX6_sort_24 (by decide) ?_
      refine lv_iadd hx hb dX6_sort_25 ?_
      refine lv_topi (fun y_ e_ => ?_)
      obtain rfl : y_ = 1 := e_.trans (by decide)
      exact W.iret (v := 1) hx hb hr (fun t ht hW => ⟨1, rfl, (by unfold srt; simp [c_1, c_3]), ht⟩) (fun q h => absurd h List.not_mem_nil) dX6_sort_26
    · refine lv_iconst (v := 2) hx hb dX6_sort_20 (by decide) ?_
      refine lv_goto (tgt := 25) hx hb dX6_sort_21 (by decide) ?_
      refine lv_iadd hx hb dX6_sort_25 ?_
      refine lv_topi (fun y_ e_ => ?_)
      obtain rfl : y_ = 3 := e_.trans (by decide)
      exact W.iret (v := 3) hx hb hr (fun t ht hW => ⟨3, rfl, (by unfold srt; simp [c_1, c_3]), ht⟩) (fun q h => absurd h List.not_mem_nil) dX6_sort_26

set_option maxHeartbeats 4000000 in
set_option maxRecDepth 100000 in
theorem p_isFit (l : Launch) (dC : Nat → ClassId) (dI : Nat → Nat → Nat) (ca : Nat → ClassId) (h : Nat) (p0 : Int32) (p1 : Int32) (p2 : Int32) (p3 : Int64) (p4 : Int32) (p5 : Int32) (p6 : Int32) (p7 : Int32) (p8 : Int32) : Met l yX6_isFit (Cond.code yX6_isFit cX6_isFit 1 (some .boolean) :: gT) ({ frames := 1, cells := 0, slots := 0, locals := 60 }) (va_Pc [.ref h] (pu (dC, dI) [(h, .inr (6, [.int p0, .int p1, .int p2, .long p3, .int p4, .int p5, .int p6, .int p7, .int p8]))] (aT ca))) (vp_Si (fun r => r = ift p4 p5 p6 p7)) 0 0 (fun _ => False) := by
  refine Met.ofW (cc := cX6_isFit) (maxL := 1) (ret := (some .boolean)) (by decide) rfl ?_
  intro p e s m args below meth c s₁ B hml hv
  obtain ⟨rfl, hP, hK, hE⟩ := hv
  have hx := B.exec
  have hb := B.bytes
  have hr := B.returns
  have hts : ∀ w ∈ gT, w.before _ s = true := fun w h => atoms_spec (ws := Cond.code yX6_isFit cX6_isFit 1 (some .boolean) :: gT) B.pre w (List.mem_cons_of_mem _ h)
  have hown : s.vm.findClass RX6 = some m.cls := findClass_of_methodNamed B.named
  have hlocks := B.notSynchronized
  have hl := lv_entry ([.ref h]) (n := 1) (Nat.le_of_ble_eq_true rfl)
  rw [lg_entry_eq]
  generalize (lg_sl ([.ref h]) ++ List.replicate (1 - (lg_sl ([.ref h])).length) Slot.unset).toArray = ls at hl ⊢
  have hl : lv_has ls 1 [(0, .ref h)] := hl
  refine lv_aload_n hx hb dX6_isFit_0 rfl (lv_at hl 0 rfl) ?_
  refine va_get (D := (dC, dI)) (ci := 6) (v := .int p7) (C := RX6) (T := TX6) (N := 9) hx hb hts inX6 hown hK hP 0 rfl rfl 7 (by decide) (hts _ mw_562) (fun _ h9 => h9) rfl dX6_isFit_1 ?_
  refine lv_iconst (v := 1) hx hb dX6_isFit_4 (by decide) ?_
  refine lv_icmp_ne (tgt := 34) hx hb dX6_isFit_5 (by decide) (fun c_1 => ?_) (fun c_1 => ?_)
  · refine lv_iconst (v := 0) hx hb dX6_isFit_34 (by decide) ?_
    exact W.zret (v := 0) (ty := .boolean) hx hb hr rfl (fun t ht hW => ⟨0, rfl, (by unfold ift; simp [c_1]), ht⟩) (fun q h => absurd h List.not_mem_nil) dX6_isFit_35
  · refine lv_aload_n hx hb dX6_isFit_8 rfl (lv_at hl 0 rfl) ?_
    refine va_get (D := (dC, dI)) (ci := 6) (v := .int p4) (C := RX6) (T := TX6) (N := 9) hx hb hts inX6 hown hK hP 0 rfl rfl 4 (by decide) (hts _ mw_556) (fun _ h9 => h9) rfl dX6_isFit_9 ?_
    refine lv_iconst (v := (-1)) hx hb dX6_isFit_12 (by decide) ?_
    refine lv_icmp_eq (tgt := 30) hx hb dX6_isFit_13 (by decide) (fun c_2 => ?_) (fun c_2 => ?_)
    · refine lv_iconst (v := 1) hx hb dX6_isFit_30 (by decide) ?_
      refine lv_goto (tgt := 35) hx hb dX6_isFit_31 (by decide) ?_
      exact W.zret (v := 1) (ty := .boolean) hx hb hr rfl (fun t ht hW => ⟨1, rfl, (by unfold ift; simp [c_1, c_2]), ht⟩) (fun q h => absurd h List.not_mem_nil) dX6_isFit_35
    · refine lv_aload_n hx hb dX6_isFit_16 rfl (lv_at hl 0 rfl) ?_
      refine va_get (D := (dC, dI)) (ci := 6) (v := .int p5) (C := RX6) (T := TX6) (N := 9) hx hb hts inX6 hown hK hP 0 rfl rfl 5 (by decide) (hts _ mw_558) (fun _ h9 => h9) rfl dX6_isFit_17 ?_
      refine lv_if_ne (tgt := 30) hx hb dX6_isFit_20 (by decide) (fun c_3 => ?_) (fun c_3 => ?_)
      · refine lv_iconst (v := 1) hx hb dX6_isFit_30 (by decide) ?_
        refine lv_goto (tgt := 35) hx hb dX6_isFit_31 (by decide) ?_
        exact W.zret (v := 1) (ty := .boolean) hx hb hr rfl (fun t ht hW => ⟨1, rfl, (by unfold ift; simp [c_1, c_2, c_3]), ht⟩) (fun q h => absurd h List.not_mem_nil) dX6_isFit_35
      · refine lv_aload_n hx hb dX6_isFit_23 rfl (lv_at hl 0 rfl) ?_
        refine va_get (D := (dC, dI)) (ci := 6) (v := .int p6) (C := RX6) (T := TX6) (N := 9) hx hb hts inX6 hown hK hP 0 rfl rfl 6 (by decide) (hts _ mw_560) (fun _ h9 => h9) rfl dX6_isFit_24 ?_
        refine lv_if_eq (tgt := 34) hx hb dX6_isFit_27 (by decide) (fun c_4 => ?_) (fun c_4 => ?_)
        · refine lv_iconst (v := 0) hx hb dX6_isFit_34 (by decide) ?_
          exact W.zret (v := 0) (ty := .boolean) hx hb hr rfl (fun t ht hW => ⟨0, rfl, (by unfold ift; simp [c_1, c_2, c_3, c_4]), ht⟩) (fun q h => absurd h List.not_mem_nil) dX6_isFit_35
        · refine lv_iconst (v := 1) hx hb dX6_isFit_30 (by decide) ?_
          refine lv_goto (tgt := 35) hx hb dX6_isFit_31 (by decide) ?_
          exact W.zret (v := 1) (ty := .boolean) hx hb hr rfl (fun t ht hW => ⟨1, rfl, (by unfold ift; simp [c_1, c_2, c_3, c_4]), ht⟩) (fun q h => absurd h List.not_mem_nil) dX6_isFit_35

set_option maxHeartbeats 4000000 in
set_option maxRecDepth 100000 in
theorem p_tell (l : Launch) (dC : Nat → ClassId) (dI : Nat → Nat → Nat) (ca : Nat → ClassId) (h : Nat) (p0 : Int32) (p1 : Int32) (p2 : Int32) (p3 : Int64) (p4 : Int32) (p5 : Int32) (p6 : Int32) (p7 : Int32) (p8 : Int32) (v1 : Int32) : Met l yX6_tell (Cond.code yX6_tell cX6_tell 2 (some .int) :: gT) ({ frames := 2, cells := 0, slots := 0, locals := 80 }) (va_Pc [.ref h, .int v1] (pu (dC, dI) [(h, .inr (6, [.int p0, .int p1, .int p2, .long p3, .int p4, .int p5, .int p6, .int p7, .int p8]))] (aT ca))) (vp_Si (fun r => True)) 0 0 (fun _ => False) := by
  refine Met.ofW (cc := cX6_tell) (maxL := 2) (ret := (some .int)) (by decide) rfl ?_
  intro p e s m args below meth c s₁ B hml hv
  obtain ⟨rfl, hP, hK, hE⟩ := hv
  have hx := B.exec
  have hb := B.bytes
  have hr := B.returns
  have hts : ∀ w ∈ gT, w.before _ s = true := fun w h => atoms_spec (ws := Cond.code yX6_tell cX6_tell 2 (some .int) :: gT) B.pre w (List.mem_cons_of_mem _ h)
  have hown : s.vm.findClass RX6 = some m.cls := findClass_of_methodNamed B.named
  have hlocks := B.notSynchronized
  have hl := lv_entry ([.ref h, .int v1]) (n := 2) (Nat.le_of_ble_eq_true rfl)
  rw [lg_entry_eq]
  generalize (lg_sl ([.ref h, .int v1]) ++ List.replicate (2 - (lg_sl ([.ref h, .int v1])).length) Slot.unset).toArray = ls at hl ⊢
  have hl : lv_has ls 2 [(0, .ref h), (1, .int v1)] := hl
  refine lv_iload_n hx hb dX6_tell_0 rfl (lv_at hl 1 rfl) ?_
  by_cases c_1 : v1 = 0
  · refine lv_topi (fun y_ e_ => ?_)
    obtain rfl : y_ = 0 := e_.trans c_1
    refine lv_tableIn (tgt := 52) hx hb dX6_tell_1 (by decide) (by decide) rfl (by decide) ?_
    refine lv_aload_n hx hb dX6_tell_52 rfl (lv_at hl 0 rfl) ?_
    refine va_get (D := (dC, dI)) (ci := 6) (v := .int p0) (C := RX6) (T := TX6) (N := 9) hx hb hts inX6 hown hK hP 0 rfl rfl 0 (by decide) (hts _ mw_550) (fun _ h9 => h9) rfl dX6_tell_53 ?_
    exact W.iret (v := p0) hx hb hr (fun t ht hW => ⟨p0, rfl, trivial, ht⟩) (fun q h => absurd h List.not_mem_nil) dX6_tell_56
  by_cases c_2 : v1 = 1
  · refine lv_topi (fun y_ e_ => ?_)
    obtain rfl : y_ = 1 := e_.trans c_2
    refine lv_tableIn (tgt := 57) hx hb dX6_tell_1 (by decide) (by decide) rfl (by decide) ?_
    refine lv_aload_n hx hb dX6_tell_57 rfl (lv_at hl 0 rfl) ?_
    refine va_get (D := (dC, dI)) (ci := 6) (v := .int p2) (C := RX6) (T := TX6) (N := 9) hx hb hts inX6 hown hK hP 0 rfl rfl 2 (by decide) (hts _ mw_552) (fun _ h9 => h9) rfl dX6_tell_58 ?_
    exact W.iret (v := p2) hx hb hr (fun t ht hW => ⟨p2, rfl, trivial, ht⟩) (fun q h => absurd h List.not_mem_nil) dX6_tell_61
  by_cases c_3 : v1 = 2
  · refine lv_topi (fun y_ e_ => ?_)
    obtain rfl : y_ = 2 := e_.trans c_3
    refine lv_tableIn (tgt := 62) hx hb dX6_tell_1 (by decide) (by decide) rfl (by decide) ?_
    refine lv_aload_n hx hb dX6_tell_62 rfl (lv_at hl 0 rfl) ?_
    refine va_get (D := (dC, dI)) (ci := 6) (v := .int p4) (C := RX6) (T := TX6) (N := 9) hx hb hts inX6 hown hK hP 0 rfl rfl 4 (by decide) (hts _ mw_556) (fun _ h9 => h9) rfl dX6_tell_63 ?_
    exact W.iret (v := p4) hx hb hr (fun t ht hW => ⟨p4, rfl, trivial, ht⟩) (fun q h => absurd h List.not_mem_nil) dX6_tell_66
  by_cases c_4 : v1 = 3
  · refine lv_topi (fun y_ e_ => ?_)
    obtain rfl : y_ = 3 := e_.trans c_4
    refine lv_tableIn (tgt := 67) hx hb dX6_tell_1 (by decide) (by decide) rfl (by decide) ?_
    refine lv_aload_n hx hb dX6_tell_67 rfl (lv_at hl 0 rfl) ?_
    refine va_get (D := (dC, dI)) (ci := 6) (v := .int p4) (C := RX6) (T := TX6) (N := 9) hx hb hts inX6 hown hK hP 0 rfl rfl 4 (by decide) (hts _ mw_556) (fun _ h9 => h9) rfl dX6_tell_68 ?_
    refine lv_iconst (v := (-1)) hx hb dX6_tell_71 (by decide) ?_
    refine lv_icmp_ne (tgt := 79) hx hb dX6_tell_72 (by decide) (fun c_5 => ?_) (fun c_5 => ?_)
    · refine lv_aload_n hx hb dX6_tell_79 rfl (lv_at hl 0 rfl) ?_
      refine va_get (D := (dC, dI)) (ci := 6) (v := .int p5) (C := RX6) (T := TX6) (N := 9) hx hb hts inX6 hown hK hP 0 rfl rfl 5 (by decide) (hts _ mw_558) (fun _ h9 => h9) rfl dX6_tell_80 ?_
      refine lv_if_eq (tgt := 90) hx hb dX6_tell_83 (by decide) (fun c_6 => ?_) (fun c_6 => ?_)
      · refine lv_iconst (v := 0) hx hb dX6_tell_90 (by decide) ?_
        exact W.iret (v := 0) hx hb hr (fun t ht hW => ⟨0, rfl, trivial, ht⟩) (fun q h => absurd h List.not_mem_nil) dX6_tell_91
      · refine lv_iconst (v := 1) hx hb dX6_tell_86 (by decide) ?_
        refine lv_goto (tgt := 91) hx hb dX6_tell_87 (by decide) ?_
        exact W.iret (v := 1) hx hb hr (fun t ht hW => ⟨1, rfl, trivial, ht⟩) (fun q h => absurd h List.not_mem_nil) dX6_tell_91
    · refine lv_iconst (v := (-1)) hx hb dX6_tell_75 (by decide) ?_
      refine lv_goto (tgt := 91) hx hb dX6_tell_76 (by decide) ?_
      exact W.iret (v := (-1)) hx hb hr (fun t ht hW => ⟨(-1), rfl, trivial, ht⟩) (fun q h => absurd h List.not_mem_nil) dX6_tell_91
  by_cases c_7 : v1 = 4
  · refine lv_topi (fun y_ e_ => ?_)
    obtain rfl : y_ = 4 := e_.trans c_7
    refine lv_tableIn (tgt := 92) hx hb dX6_tell_1 (by decide) (by decide) rfl (by decide) ?_
    refine lv_aload_n hx hb dX6_tell_92 rfl (lv_at hl 0 rfl) ?_
    refine va_get (D := (dC, dI)) (ci := 6) (v := .int p6) (C := RX6) (T := TX6) (N := 9) hx hb hts inX6 hown hK hP 0 rfl rfl 6 (by decide) (hts _ mw_560) (fun _ h9 => h9) rfl dX6_tell_93 ?_
    refine lv_if_eq (tgt := 103) hx hb dX6_tell_96 (by decide) (fun c_8 => ?_) (fun c_8 => ?_)
    · refine lv_iconst (v := 0) hx hb dX6_tell_103 (by decide) ?_
      exact W.iret (v := 0) hx hb hr (fun t ht hW => ⟨0, rfl, trivial, ht⟩) (fun q h => absurd h List.not_mem_nil) dX6_tell_104
    · refine lv_iconst (v := 1) hx hb dX6_tell_99 (by decide) ?_
      refine lv_goto (tgt := 104) hx hb dX6_tell_100 (by decide) ?_
      exact W.iret (v := 1) hx hb hr (fun t ht hW => ⟨1, rfl, trivial, ht⟩) (fun q h => absurd h List.not_mem_nil) dX6_tell_104
  by_cases c_9 : v1 = 5
  · refine lv_topi (fun y_ e_ => ?_)
    obtain rfl : y_ = 5 := e_.trans c_9
    refine lv_tableIn (tgt := 105) hx hb dX6_tell_1 (by decide) (by decide) rfl (by decide) ?_
    refine lv_aload_n hx hb dX6_tell_105 rfl (lv_at hl 0 rfl) ?_
    refine va_get (D := (dC, dI)) (ci := 6) (v := .int p7) (C := RX6) (T := TX6) (N := 9) hx hb hts inX6 hown hK hP 0 rfl rfl 7 (by decide) (hts _ mw_562) (fun _ h9 => h9) rfl dX6_tell_106 ?_
    exact W.iret (v := p7) hx hb hr (fun t ht hW => ⟨p7, rfl, trivial, ht⟩) (fun q h => absurd h List.not_mem_nil) dX6_tell_109
  by_cases c_10 : v1 = 6
  · refine lv_topi (fun y_ e_ => ?_)
    obtain rfl : y_ = 6 := e_.trans c_10
    refine lv_tableIn (tgt := 110) hx hb dX6_tell_1 (by decide) (by decide) rfl (by decide) ?_
    refine lv_aload_n hx hb dX6_tell_110 rfl (lv_at hl 0 rfl) ?_
    refine va_get (D := (dC, dI)) (ci := 6) (v := .int p8) (C := RX6) (T := TX6) (N := 9) hx hb hts inX6 hown hK hP 0 rfl rfl 8 (by decide) (hts _ mw_564) (fun _ h9 => h9) rfl dX6_tell_111 ?_
    exact W.iret (v := p8) hx hb hr (fun t ht hW => ⟨p8, rfl, trivial, ht⟩) (fun q h => absurd h List.not_mem_nil) dX6_tell_114
  by_cases c_11 : v1 = 7
  · refine lv_topi (fun y_ e_ => ?_)
    obtain rfl : y_ = 7 := e_.trans c_11
    refine lv_tableIn (tgt := 115) hx hb dX6_tell_1 (by decide) (by decide) rfl (by decide) ?_
    refine lv_aload_n hx hb dX6_tell_115 rfl (lv_at hl 0 rfl) ?_
    have hPc := hP.sub (ws' := [(h, .inr (6, [.int p0, .int p1, .int p2, .long p3, .int p4, .int p5, .int p6, .int p7, .int p8]))]) [0] rfl
    refine pc_i (va_runV (As := []) (rest := []) ⟨hx, hb, hml, hown, hts⟩ (p_sort l dC dI ca h p0 p1 p2 p3 p4 p5 p6 p7 p8 ) (⟨callB_of 0 hts (gd mw_627) rfl rfl rfl (hts _ mw_14) (hts _ mw_624) ds_X6_sort ⟨Nat.le_of_ble_eq_true rfl, Nat.le_of_ble_eq_true rfl⟩, (hts _ mw_625), (hts _ mw_626)⟩) (pu_V hPc hK hE (va_recv hK hPc (ci := 6) (q0 := 0) rfl rfl)) rfl rfl hl.1 rfl (lv_room (Nat.le_of_ble_eq_true rfl)) dX6_tell_116 ⟨Nat.le_of_ble_eq_true rfl, Nat.le_of_ble_eq_true rfl⟩) (fun rv_12 hw_ => ?_)
    obtain rfl : rv_12 = (srt p1 p4) := hw_
    exact W.iret (v := (srt p1 p4)) hx hb hr (fun t ht hW => ⟨(srt p1 p4), rfl, trivial, ht⟩) (fun q h => absurd h List.not_mem_nil) dX6_tell_119
  by_cases c_13 : v1 = 8
  · refine lv_topi (fun y_ e_ => ?_)
    obtain rfl : y_ = 8 := e_.trans c_13
    refine lv_tableIn (tgt := 120) hx hb dX6_tell_1 (by decide) (by decide) rfl (by decide) ?_
    refine lv_aload_n hx hb dX6_tell_120 rfl (lv_at hl 0 rfl) ?_
    have hPc := hP.sub (ws' := [(h, .inr (6, [.int p0, .int p1, .int p2, .long p3, .int p4, .int p5, .int p6, .int p7, .int p8]))]) [0] rfl
    refine pc_i (va_runV (As := []) (rest := []) ⟨hx, hb, hml, hown, hts⟩ (p_isFit l dC dI ca h p0 p1 p2 p3 p4 p5 p6 p7 p8 ) (⟨callB_of 0 hts (gd mw_631) rfl rfl rfl (hts _ mw_14) (hts _ mw_628) ds_X6_isFit ⟨Nat.le_of_ble_eq_true rfl, Nat.le_of_ble_eq_true rfl⟩, (hts _ mw_629), (hts _ mw_630)⟩) (pu_V hPc hK hE (va_recv hK hPc (ci := 6) (q0 := 0) rfl rfl)) rfl rfl hl.1 rfl (lv_room (Nat.le_of_ble_eq_true rfl)) dX6_tell_121 ⟨Nat.le_of_ble_eq_true rfl, Nat.le_of_ble_eq_true rfl⟩) (fun rv_14 hw_ => ?_)
    obtain rfl : rv_14 = (ift p4 p5 p6 p7) := hw_
    refine lv_if_eq (tgt := 131) hx hb dX6_tell_124 (by decide) (fun c_15 => ?_) (fun c_15 => ?_)
    · refine lv_iconst (v := 0) hx hb dX6_tell_131 (by decide) ?_
      exact W.iret (v := 0) hx hb hr (fun t ht hW => ⟨0, rfl, trivial, ht⟩) (fun q h => absurd h List.not_mem_nil) dX6_tell_132
    · refine lv_iconst (v := 1) hx hb dX6_tell_127 (by decide) ?_
      refine lv_goto (tgt := 132) hx hb dX6_tell_128 (by decide) ?_
      exact W.iret (v := 1) hx hb hr (fun t ht hW => ⟨1, rfl, trivial, ht⟩) (fun q h => absurd h List.not_mem_nil) dX6_tell_132
  refine lv_tableOut (tgt := 133) hx hb dX6_tell_1 (by have n0 := lv_neT c_1 (show (0 : Int32).toInt = 0 by decide); have n1 := lv_neT c_2 (show (1 : Int32).toInt = 1 by decide); have n2 := lv_neT c_3 (show (2 : Int32).toInt = 2 by decide); have n3 := lv_neT c_4 (show (3 : Int32).toInt = 3 by decide); have n4 := lv_neT c_7 (show (4 : Int32).toInt = 4 by decide); have n5 := lv_neT c_9 (show (5 : Int32).toInt = 5 by decide); have n6 := lv_neT c_10 (show (6 : Int32).toInt = 6 by decide); have n7 := lv_neT c_11 (show (7 : Int32).toInt = 7 by decide); have n8 := lv_neT c_13 (show (8 : Int32).toInt = 8 by decide); omega) (by decide) ?_
  refine lv_iconst (v := (-1)) hx hb dX6_tell_133 (by decide) ?_
  exact W.iret (v := (-1)) hx hb hr (fun t ht hW => ⟨(-1), rfl, trivial, ht⟩) (fun q h => absurd h List.not_mem_nil) dX6_tell_134

set_option maxHeartbeats 4000000 in
set_option maxRecDepth 100000 in
theorem x_lotAt (l : Launch) (dC : Nat → ClassId) (dI : Nat → Nat → Nat) (ca : Nat → ClassId) (h : Nat) (nu : Nat) (w0 : Int32) (w1 : Int32) (w3 : Int32) (w4 : Int64) (w5 : Int32) (v1 : Int32) : Met l yX1_lotAt (Cond.code yX1_lotAt cX1_lotAt 4 (some .int) :: gT) ({ frames := 1, cells := 0, slots := 0, locals := 60 }) (va_Pc [.ref h, .int v1] (pu (dC, dI) [(h, .inr (1, [.int w0, .int w1, .ref nu, .int w3, .long w4, .int w5]))] (aT ca))) (vp_Si (fun r => True)) 0 0 (fun _ => False) := by
  refine Met.ofW (cc := cX1_lotAt) (maxL := 4) (ret := (some .int)) (by decide) rfl ?_
  intro p e s m args below meth c s₁ B hml hv
  obtain ⟨rfl, hP, hK, hE⟩ := hv
  have hx := B.exec
  have hb := B.bytes
  have hr := B.returns
  have hts : ∀ w ∈ gT, w.before _ s = true := fun w h => atoms_spec (ws := Cond.code yX1_lotAt cX1_lotAt 4 (some .int) :: gT) B.pre w (List.mem_cons_of_mem _ h)
  have hown : s.vm.findClass RX1 = some m.cls := findClass_of_methodNamed B.named
  have hlocks := B.notSynchronized
  have hl := lv_entry ([.ref h, .int v1]) (n := 4) (Nat.le_of_ble_eq_true rfl)
  rw [lg_entry_eq]
  generalize (lg_sl ([.ref h, .int v1]) ++ List.replicate (4 - (lg_sl ([.ref h, .int v1])).length) Slot.unset).toArray = ls at hl ⊢
  have hl : lv_has ls 4 [(0, .ref h), (1, .int v1)] := hl
  refine lv_iconst (v := 0) hx hb dX1_lotAt_0 (by decide) ?_
  refine lv_istore_n (lv' := [(2, .int 0), (0, .ref h), (1, .int v1)]) hx hb dX1_lotAt_1 rfl hl (by decide) rfl (fun ls hl => ?_)
  refine lv_iconst (v := 0) hx hb dX1_lotAt_2 (by decide) ?_
  refine lv_istore_n (lv' := [(3, .int 0), (2, .int 0), (0, .ref h), (1, .int v1)]) hx hb dX1_lotAt_3 rfl hl (by decide) rfl (fun ls hl => ?_)
  refine wl_loop (fun (z_ : Nat × Int32) H locs ls => (z_.1 ≤ 40) ∧ H = s.heap ∧ locs = [] ∧ lv_has ls 4 [(3, .int (nI z_.1)), (2, .int z_.2), (0, .ref h), (1, .int v1)]) (fun (z_ : Nat × Int32) => 40 - z_.1) (fun z_ H locs ls hI ih => ?_) (0, 0) ⟨(Nat.zero_le _), rfl, rfl, lv_sub hl [0, 1, 2, 3] rfl⟩
  obtain ⟨i, sn⟩ := z_
  dsimp only at hI ih
  obtain ⟨hi, rfl, rfl, hl⟩ := hI
  refine lv_iload_n hx hb dX1_lotAt_4 rfl (lv_at hl 0 rfl) ?_
  refine lv_bipush (v := 40) hx hb dX1_lotAt_5 (by decide) ?_
  refine lv_icmp_ge (tgt := 39) hx hb dX1_lotAt_7 (by decide) (fun c_1 => ?_) (fun c_1 => ?_)
  · have nc_1 : 40 ≤ i := (nI_leI (a := 40) (b := i) (by omega) (by omega)).mp c_1
    refine lv_iconst (v := (-1)) hx hb dX1_lotAt_39 (by decide) ?_
    exact W.iret (v := (-1)) hx hb hr (fun t ht hW => ⟨(-1), rfl, trivial, ht⟩) (fun q h => absurd h List.not_mem_nil) dX1_lotAt_40
  · have nc_1 : ¬ (40 ≤ i) := fun h9 => c_1 ((nI_leI (a := 40) (b := i) (by omega) (by omega)).mpr h9)
    refine lv_aload_n hx hb dX1_lotAt_10 rfl (lv_at hl 2 rfl) ?_
    refine va_get (D := (dC, dI)) (ci := 1) (v := .long w4) (C := RX1) (T := TX1) (N := 6) hx hb hts inX1 hown hK hP 0 rfl rfl 4 (by decide) (hts _ mw_696) (fun _ h9 => h9) rfl dX1_lotAt_11 ?_
    refine lv_iload_n hx hb dX1_lotAt_14 rfl (lv_at hl 0 rfl) ?_
    refine lv_lshr (v := ((w4 : Int64) >>> (((nI i) : Int32).toInt64 &&& 63))) hx hb dX1_lotAt_15 rfl ?_
    refine lv_lconst (v := 1) hx hb dX1_lotAt_16 (by decide) ?_
    refine lv_land hx hb dX1_lotAt_17 ?_
    refine lv_lconst (v := 0) hx hb dX1_lotAt_18 (by decide) ?_
    refine W.lcmp hx hb dX1_lotAt_19 ?_
    refine lv_if_eq (tgt := 33) hx hb dX1_lotAt_20 (by decide) (fun c_2 => ?_) (fun c_2 => ?_)
    · refine lv_iinc (v := (nI (i + 1))) (lv' := [(3, .int (nI (i + 1))), (2, .int sn), (0, .ref h), (1, .int v1)]) hx hb dX1_lotAt_33 hl (k := 0) rfl (nI_add (i) 1) (by decide) rfl (fun ls hl => ?_)
      refine lv_goto (tgt := 4) hx hb dX1_lotAt_36 (by decide) ?_
      exact ih (i + 1, sn) _ _ _ (by omega) ⟨(by omega), rfl, rfl, lv_sub hl [0, 1, 2, 3] rfl⟩
    · refine lv_iload_n hx hb dX1_lotAt_23 rfl (lv_at hl 1 rfl) ?_
      refine lv_iload_n hx hb dX1_lotAt_24 rfl (lv_at hl 3 rfl) ?_
      refine lv_icmp_ne (tgt := 30) hx hb dX1_lotAt_25 (by decide) (fun c_3 => ?_) (fun c_3 => ?_)
      · refine lv_iinc (v := (sn + 1)) (lv' := [(2, .int (sn + 1)), (3, .int (nI i)), (0, .ref h), (1, .int v1)]) hx hb dX1_lotAt_30 hl (k := 1) rfl rfl (by decide) rfl (fun ls hl => ?_)
        refine lv_iinc (v := (nI (i + 1))) (lv' := [(3, .int (nI (i + 1))), (2, .int (sn + 1)), (0, .ref h), (1, .int v1)]) hx hb dX1_lotAt_33 hl (k := 1) rfl (nI_add (i) 1) (by decide) rfl (fun ls hl => ?_)
        refine lv_goto (tgt := 4) hx hb dX1_lotAt_36 (by decide) ?_
        exact ih (i + 1, (sn + 1)) _ _ _ (by omega) ⟨(by omega), rfl, rfl, lv_sub hl [0, 1, 2, 3] rfl⟩
      · refine lv_iload_n hx hb dX1_lotAt_28 rfl (lv_at hl 0 rfl) ?_
        exact W.iret (v := (nI i)) hx hb hr (fun t ht hW => ⟨(nI i), rfl, trivial, ht⟩) (fun q h => absurd h List.not_mem_nil) dX1_lotAt_29

set_option maxHeartbeats 4000000 in
set_option maxRecDepth 100000 in
theorem c_bitCount (l : Launch) (dC : Nat → ClassId) (dI : Nat → Nat → Nat) (ca : Nat → ClassId) (v1 : Int64) : Met l yJ13_bitCount_95d88 (Cond.code yJ13_bitCount_95d88 cJ13_bitCount_95d88 2 (some .int) :: gT) ({ frames := 1, cells := 0, slots := 0, locals := 60 }) (va_Pc [.long v1] (pu (dC, dI) [] (aT ca))) (vp_Si (fun r => True)) 0 0 (fun _ => False) := by
  refine Met.ofW (cc := cJ13_bitCount_95d88) (maxL := 2) (ret := (some .int)) (by decide) rfl ?_
  intro p e s m args below meth c s₁ B hml hv
  obtain ⟨rfl, hP, hK, hE⟩ := hv
  have hx := B.exec
  have hb := B.bytes
  have hr := B.returns
  have hts : ∀ w ∈ gT, w.before _ s = true := fun w h => atoms_spec (ws := Cond.code yJ13_bitCount_95d88 cJ13_bitCount_95d88 2 (some .int) :: gT) B.pre w (List.mem_cons_of_mem _ h)
  have hown : s.vm.findClass RJ13 = some m.cls := findClass_of_methodNamed B.named
  have hlocks := B.notSynchronized
  have hl := lv_entry ([.long v1]) (n := 2) (Nat.le_of_ble_eq_true rfl)
  rw [lg_entry_eq]
  generalize (lg_sl ([.long v1]) ++ List.replicate (2 - (lg_sl ([.long v1])).length) Slot.unset).toArray = ls at hl ⊢
  have hl : lv_has ls 2 [(0, .long v1)] := hl
  refine lv_lload_n hx hb dJ13_bitCount_95d88_0 rfl (lv_at hl 0 rfl) ?_
  refine lv_lload_n hx hb dJ13_bitCount_95d88_1 rfl (lv_at hl 0 rfl) ?_
  refine lv_iconst (v := 1) hx hb dJ13_bitCount_95d88_2 (by decide) ?_
  refine lv_lushr (v := ((v1 : Int64).toUInt64 >>> ((1 : Int32).toInt64.toUInt64 &&& Int64.toUInt64 63)).toInt64) hx hb dJ13_bitCount_95d88_3 rfl ?_
  refine lv_ldc2 (v := 6148914691236517205) hx hb hown (hts _ mw_782) dJ13_bitCount_95d88_4 ?_
  refine lv_land hx hb dJ13_bitCount_95d88_7 ?_
  refine lv_lsub hx hb dJ13_bitCount_95d88_8 ?_
  refine lv_lstore_n (lv' := [(0, .long (v1 - (((v1 : Int64).toUInt64 >>> ((1 : Int32).toInt64.toUInt64 &&& Int64.toUInt64 63)).toInt64 &&& 6148914691236517205)))]) hx hb dJ13_bitCount_95d88_9 rfl hl (by decide) rfl (fun ls hl => ?_)
  refine lv_lload_n hx hb dJ13_bitCount_95d88_10 rfl (lv_at hl 0 rfl) ?_
  refine lv_ldc2 (v := 3689348814741910323) hx hb hown (hts _ mw_783) dJ13_bitCount_95d88_11 ?_
  refine lv_land hx hb dJ13_bitCount_95d88_14 ?_
  refine lv_lload_n hx hb dJ13_bitCount_95d88_15 rfl (lv_at hl 0 rfl) ?_
  refine lv_iconst (v := 2) hx hb dJ13_bitCount_95d88_16 (by decide) ?_
  refine lv_lushr (v := (((v1 - (((v1 : Int64).toUInt64 >>> ((1 : Int32).toInt64.toUInt64 &&& Int64.toUInt64 63)).toInt64 &&& 6148914691236517205)) : Int64).toUInt64 >>> ((2 : Int32).toInt64.toUInt64 &&& Int64.toUInt64 63)).toInt64) hx hb dJ13_bitCount_95d88_17 rfl ?_
  refine lv_ldc2 (v := 3689348814741910323) hx hb hown (hts _ mw_783) dJ13_bitCount_95d88_18 ?_
  refine lv_land hx hb dJ13_bitCount_95d88_21 ?_
  refine lv_ladd hx hb dJ13_bitCount_95d88_22 ?_
  refine lv_lstore_n (lv' := [(0, .long (((v1 - (((v1 : Int64).toUInt64 >>> ((1 : Int32).toInt64.toUInt64 &&& Int64.toUInt64 63)).toInt64 &&& 6148914691236517205)) &&& 3689348814741910323) + ((((v1 - (((v1 : Int64).toUInt64 >>> ((1 : Int32).toInt64.toUInt64 &&& Int64.toUInt64 63)).toInt64 &&& 6148914691236517205)) : Int64).toUInt64 >>> ((2 : Int32).toInt64.toUInt64 &&& Int64.toUInt64 63)).toInt64 &&& 3689348814741910323)))]) hx hb dJ13_bitCount_95d88_23 rfl hl (by decide) rfl (fun ls hl => ?_)
  refine lv_lload_n hx hb dJ13_bitCount_95d88_24 rfl (lv_at hl 0 rfl) ?_
  refine lv_lload_n hx hb dJ13_bitCount_95d88_25 rfl (lv_at hl 0 rfl) ?_
  refine lv_iconst (v := 4) hx hb dJ13_bitCount_95d88_26 (by decide) ?_
  refine lv_lushr (v := (((((v1 - (((v1 : Int64).toUInt64 >>> ((1 : Int32).toInt64.toUInt64 &&& Int64.toUInt64 63)).toInt64 &&& 6148914691236517205)) &&& 3689348814741910323) + ((((v1 - (((v1 : Int64).toUInt64 >>> ((1 : Int32).toInt64.toUInt64 &&& Int64.toUInt64 63)).toInt64 &&& 6148914691236517205)) : Int64).toUInt64 >>> ((2 : Int32).toInt64.toUInt64 &&& Int64.toUInt64 63)).toInt64 &&& 3689348814741910323)) : Int64).toUInt64 >>> ((4 : Int32).toInt64.toUInt64 &&& Int64.toUInt64 63)).toInt64) hx hb dJ13_bitCount_95d88_27 rfl ?_
  refine lv_ladd hx hb dJ13_bitCount_95d88_28 ?_
  refine lv_ldc2 (v := 1085102592571150095) hx hb hown (hts _ mw_784) dJ13_bitCount_95d88_29 ?_
  refine lv_land hx hb dJ13_bitCount_95d88_32 ?_
  refine lv_lstore_n (lv' := [(0, .long (((((v1 - (((v1 : Int64).toUInt64 >>> ((1 : Int32).toInt64.toUInt64 &&& Int64.toUInt64 63)).toInt64 &&& 6148914691236517205)) &&& 3689348814741910323) + ((((v1 - (((v1 : Int64).toUInt64 >>> ((1 : Int32).toInt64.toUInt64 &&& Int64.toUInt64 63)).toInt64 &&& 6148914691236517205)) : Int64).toUInt64 >>> ((2 : Int32).toInt64.toUInt64 &&& Int64.toUInt64 63)).toInt64 &&& 3689348814741910323)) + (((((v1 - (((v1 : Int64).toUInt64 >>> ((1 : Int32).toInt64.toUInt64 &&& Int64.toUInt64 63)).toInt64 &&& 6148914691236517205)) &&& 3689348814741910323) + ((((v1 - (((v1 : Int64).toUInt64 >>> ((1 : Int32).toInt64.toUInt64 &&& Int64.toUInt64 63)).toInt64 &&& 6148914691236517205)) : Int64).toUInt64 >>> ((2 : Int32).toInt64.toUInt64 &&& Int64.toUInt64 63)).toInt64 &&& 3689348814741910323)) : Int64).toUInt64 >>> ((4 : Int32).toInt64.toUInt64 &&& Int64.toUInt64 63)).toInt64) &&& 1085102592571150095))]) hx hb dJ13_bitCount_95d88_33 rfl hl (by decide) rfl (fun ls hl => ?_)
  refine lv_lload_n hx hb dJ13_bitCount_95d88_34 rfl (lv_at hl 0 rfl) ?_
  refine lv_lload_n hx hb dJ13_bitCount_95d88_35 rfl (lv_at hl 0 rfl) ?_
  refine lv_bipush (v := 8) hx hb dJ13_bitCount_95d88_36 (by decide) ?_
  refine lv_lushr (v := (((((((v1 - (((v1 : Int64).toUInt64 >>> ((1 : Int32).toInt64.toUInt64 &&& Int64.toUInt64 63)).toInt64 &&& 6148914691236517205)) &&& 3689348814741910323) + ((((v1 - (((v1 : Int64).toUInt64 >>> ((1 : Int32).toInt64.toUInt64 &&& Int64.toUInt64 63)).toInt64 &&& 6148914691236517205)) : Int64).toUInt64 >>> ((2 : Int32).toInt64.toUInt64 &&& Int64.toUInt64 63)).toInt64 &&& 3689348814741910323)) + (((((v1 - (((v1 : Int64).toUInt64 >>> ((1 : Int32).toInt64.toUInt64 &&& Int64.toUInt64 63)).toInt64 &&& 6148914691236517205)) &&& 3689348814741910323) + ((((v1 - (((v1 : Int64).toUInt64 >>> ((1 : Int32).toInt64.toUInt64 &&& Int64.toUInt64 63)).toInt64 &&& 6148914691236517205)) : Int64).toUInt64 >>> ((2 : Int32).toInt64.toUInt64 &&& Int64.toUInt64 63)).toInt64 &&& 3689348814741910323)) : Int64).toUInt64 >>> ((4 : Int32).toInt64.toUInt64 &&& Int64.toUInt64 63)).toInt64) &&& 1085102592571150095) : Int64).toUInt64 >>> ((8 : Int32).toInt64.toUInt64 &&& Int64.toUInt64 63)).toInt64) hx hb dJ13_bitCount_95d88_38 rfl ?_
  refine lv_ladd hx hb dJ13_bitCount_95d88_39 ?_
  refine lv_lstore_n (lv' := [(0, .long ((((((v1 - (((v1 : Int64).toUInt64 >>> ((1 : Int32).toInt64.toUInt64 &&& Int64.toUInt64 63)).toInt64 &&& 6148914691236517205)) &&& 3689348814741910323) + ((((v1 - (((v1 : Int64).toUInt64 >>> ((1 : Int32).toInt64.toUInt64 &&& Int64.toUInt64 63)).toInt64 &&& 6148914691236517205)) : Int64).toUInt64 >>> ((2 : Int32).toInt64.toUInt64 &&& Int64.toUInt64 63)).toInt64 &&& 3689348814741910323)) + (((((v1 - (((v1 : Int64).toUInt64 >>> ((1 : Int32).toInt64.toUInt64 &&& Int64.toUInt64 63)).toInt64 &&& 6148914691236517205)) &&& 3689348814741910323) + ((((v1 - (((v1 : Int64).toUInt64 >>> ((1 : Int32).toInt64.toUInt64 &&& Int64.toUInt64 63)).toInt64 &&& 6148914691236517205)) : Int64).toUInt64 >>> ((2 : Int32).toInt64.toUInt64 &&& Int64.toUInt64 63)).toInt64 &&& 3689348814741910323)) : Int64).toUInt64 >>> ((4 : Int32).toInt64.toUInt64 &&& Int64.toUInt64 63)).toInt64) &&& 1085102592571150095) + (((((((v1 - (((v1 : Int64).toUInt64 >>> ((1 : Int32).toInt64.toUInt64 &&& Int64.toUInt64 63)).toInt64 &&& 6148914691236517205)) &&& 3689348814741910323) + ((((v1 - (((v1 : Int64).toUInt64 >>> ((1 : Int32).toInt64.toUInt64 &&& Int64.toUInt64 63)).toInt64 &&& 6148914691236517205)) : Int64).toUInt64 >>> ((2 : Int32).toInt64.toUInt64 &&& Int64.toUInt64 63)).toInt64 &&& 3689348814741910323)) + (((((v1 - (((v1 : Int64).toUInt64 >>> ((1 : Int32).toInt64.toUInt64 &&& Int64.toUInt64 63)).toInt64 &&& 6148914691236517205)) &&& 3689348814741910323) + ((((v1 - (((v1 : Int64).toUInt64 >>> ((1 : Int32).toInt64.toUInt64 &&& Int64.toUInt64 63)).toInt64 &&& 6148914691236517205)) : Int64).toUInt64 >>> ((2 : Int32).toInt64.toUInt64 &&& Int64.toUInt64 63)).toInt64 &&& 3689348814741910323)) : Int64).toUInt64 >>> ((4 : Int32).toInt64.toUInt64 &&& Int64.toUInt64 63)).toInt64) &&& 1085102592571150095) : Int64).toUInt64 >>> ((8 : Int32).toInt64.toUInt64 &&& Int64.toUInt64 63)).toInt64))]) hx hb dJ13_bitCount_95d88_40 rfl hl (by decide) rfl (fun ls hl => ?_)
  refine lv_lload_n hx hb dJ13_bitCount_95d88_41 rfl (lv_at hl 0 rfl) ?_
  refine lv_lload_n hx hb dJ13_bitCount_95d88_42 rfl (lv_at hl 0 rfl) ?_
  refine lv_bipush (v := 16) hx hb dJ13_bitCount_95d88_43 (by decide) ?_
  refine lv_lushr (v := ((((((((v1 - (((v1 : Int64).toUInt64 >>> ((1 : Int32).toInt64.toUInt64 &&& Int64.toUInt64 63)).toInt64 &&& 6148914691236517205)) &&& 3689348814741910323) + ((((v1 - (((v1 : Int64).toUInt64 >>> ((1 : Int32).toInt64.toUInt64 &&& Int64.toUInt64 63)).toInt64 &&& 6148914691236517205)) : Int64).toUInt64 >>> ((2 : Int32).toInt64.toUInt64 &&& Int64.toUInt64 63)).toInt64 &&& 3689348814741910323)) + (((((v1 - (((v1 : Int64).toUInt64 >>> ((1 : Int32).toInt64.toUInt64 &&& Int64.toUInt64 63)).toInt64 &&& 6148914691236517205)) &&& 3689348814741910323) + ((((v1 - (((v1 : Int64).toUInt64 >>> ((1 : Int32).toInt64.toUInt64 &&& Int64.toUInt64 63)).toInt64 &&& 6148914691236517205)) : Int64).toUInt64 >>> ((2 : Int32).toInt64.toUInt64 &&& Int64.toUInt64 63)).toInt64 &&& 3689348814741910323)) : Int64).toUInt64 >>> ((4 : Int32).toInt64.toUInt64 &&& Int64.toUInt64 63)).toInt64) &&& 1085102592571150095) + (((((((v1 - (((v1 : Int64).toUInt64 >>> ((1 : Int32).toInt64.toUInt64 &&& Int64.toUInt64 63)).toInt64 &&& 6148914691236517205)) &&& 3689348814741910323) + ((((v1 - (((v1 : Int64).toUInt64 >>> ((1 : Int32).toInt64.toUInt64 &&& Int64.toUInt64 63)).toInt64 &&& 6148914691236517205)) : Int64).toUInt64 >>> ((2 : Int32).toInt64.toUInt64 &&& Int64.toUInt64 63)).toInt64 &&& 3689348814741910323)) + (((((v1 - (((v1 : Int64).toUInt64 >>> ((1 : Int32).toInt64.toUInt64 &&& Int64.toUInt64 63)).toInt64 &&& 6148914691236517205)) &&& 3689348814741910323) + ((((v1 - (((v1 : Int64).toUInt64 >>> ((1 : Int32).toInt64.toUInt64 &&& Int64.toUInt64 63)).toInt64 &&& 6148914691236517205)) : Int64).toUInt64 >>> ((2 : Int32).toInt64.toUInt64 &&& Int64.toUInt64 63)).toInt64 &&& 3689348814741910323)) : Int64).toUInt64 >>> ((4 : Int32).toInt64.toUInt64 &&& Int64.toUInt64 63)).toInt64) &&& 1085102592571150095) : Int64).toUInt64 >>> ((8 : Int32).toInt64.toUInt64 &&& Int64.toUInt64 63)).toInt64) : Int64).toUInt64 >>> ((16 : Int32).toInt64.toUInt64 &&& Int64.toUInt64 63)).toInt64) hx hb dJ13_bitCount_95d88_45 rfl ?_
  refine lv_ladd hx hb dJ13_bitCount_95d88_46 ?_
  refine lv_lstore_n (lv' := [(0, .long (((((((v1 - (((v1 : Int64).toUInt64 >>> ((1 : Int32).toInt64.toUInt64 &&& Int64.toUInt64 63)).toInt64 &&& 6148914691236517205)) &&& 3689348814741910323) + ((((v1 - (((v1 : Int64).toUInt64 >>> ((1 : Int32).toInt64.toUInt64 &&& Int64.toUInt64 63)).toInt64 &&& 6148914691236517205)) : Int64).toUInt64 >>> ((2 : Int32).toInt64.toUInt64 &&& Int64.toUInt64 63)).toInt64 &&& 3689348814741910323)) + (((((v1 - (((v1 : Int64).toUInt64 >>> ((1 : Int32).toInt64.toUInt64 &&& Int64.toUInt64 63)).toInt64 &&& 6148914691236517205)) &&& 3689348814741910323) + ((((v1 - (((v1 : Int64).toUInt64 >>> ((1 : Int32).toInt64.toUInt64 &&& Int64.toUInt64 63)).toInt64 &&& 6148914691236517205)) : Int64).toUInt64 >>> ((2 : Int32).toInt64.toUInt64 &&& Int64.toUInt64 63)).toInt64 &&& 3689348814741910323)) : Int64).toUInt64 >>> ((4 : Int32).toInt64.toUInt64 &&& Int64.toUInt64 63)).toInt64) &&& 1085102592571150095) + (((((((v1 - (((v1 : Int64).toUInt64 >>> ((1 : Int32).toInt64.toUInt64 &&& Int64.toUInt64 63)).toInt64 &&& 6148914691236517205)) &&& 3689348814741910323) + ((((v1 - (((v1 : Int64).toUInt64 >>> ((1 : Int32).toInt64.toUInt64 &&& Int64.toUInt64 63)).toInt64 &&& 6148914691236517205)) : Int64).toUInt64 >>> ((2 : Int32).toInt64.toUInt64 &&& Int64.toUInt64 63)).toInt64 &&& 3689348814741910323)) + (((((v1 - (((v1 : Int64).toUInt64 >>> ((1 : Int32).toInt64.toUInt64 &&& Int64.toUInt64 63)).toInt64 &&& 6148914691236517205)) &&& 3689348814741910323) + ((((v1 - (((v1 : Int64).toUInt64 >>> ((1 : Int32).toInt64.toUInt64 &&& Int64.toUInt64 63)).toInt64 &&& 6148914691236517205)) : Int64).toUInt64 >>> ((2 : Int32).toInt64.toUInt64 &&& Int64.toUInt64 63)).toInt64 &&& 3689348814741910323)) : Int64).toUInt64 >>> ((4 : Int32).toInt64.toUInt64 &&& Int64.toUInt64 63)).toInt64) &&& 1085102592571150095) : Int64).toUInt64 >>> ((8 : Int32).toInt64.toUInt64 &&& Int64.toUInt64 63)).toInt64) + ((((((((v1 - (((v1 : Int64).toUInt64 >>> ((1 : Int32).toInt64.toUInt64 &&& Int64.toUInt64 63)).toInt64 &&& 6148914691236517205)) &&& 3689348814741910323) + ((((v1 - (((v1 : Int64).toUInt64 >>> ((1 : Int32).toInt64.toUInt64 &&& Int64.toUInt64 63)).toInt64 &&& 6148914691236517205)) : Int64).toUInt64 >>> ((2 : Int32).toInt64.toUInt64 &&& Int64.toUInt64 63)).toInt64 &&& 3689348814741910323)) + (((((v1 - (((v1 : Int64).toUInt64 >>> ((1 : Int32).toInt64.toUInt64 &&& Int64.toUInt64 63)).toInt64 &&& 6148914691236517205)) &&& 3689348814741910323) + ((((v1 - (((v1 : Int64).toUInt64 >>> ((1 : Int32).toInt64.toUInt64 &&& Int64.toUInt64 63)).toInt64 &&& 6148914691236517205)) : Int64).toUInt64 >>> ((2 : Int32).toInt64.toUInt64 &&& Int64.toUInt64 63)).toInt64 &&& 3689348814741910323)) : Int64).toUInt64 >>> ((4 : Int32).toInt64.toUInt64 &&& Int64.toUInt64 63)).toInt64) &&& 1085102592571150095) + (((((((v1 - (((v1 : Int64).toUInt64 >>> ((1 : Int32).toInt64.toUInt64 &&& Int64.toUInt64 63)).toInt64 &&& 6148914691236517205)) &&& 3689348814741910323) + ((((v1 - (((v1 : Int64).toUInt64 >>> ((1 : Int32).toInt64.toUInt64 &&& Int64.toUInt64 63)).toInt64 &&& 6148914691236517205)) : Int64).toUInt64 >>> ((2 : Int32).toInt64.toUInt64 &&& Int64.toUInt64 63)).toInt64 &&& 3689348814741910323)) + (((((v1 - (((v1 : Int64).toUInt64 >>> ((1 : Int32).toInt64.toUInt64 &&& Int64.toUInt64 63)).toInt64 &&& 6148914691236517205)) &&& 3689348814741910323) + ((((v1 - (((v1 : Int64).toUInt64 >>> ((1 : Int32).toInt64.toUInt64 &&& Int64.toUInt64 63)).toInt64 &&& 6148914691236517205)) : Int64).toUInt64 >>> ((2 : Int32).toInt64.toUInt64 &&& Int64.toUInt64 63)).toInt64 &&& 3689348814741910323)) : Int64).toUInt64 >>> ((4 : Int32).toInt64.toUInt64 &&& Int64.toUInt64 63)).toInt64) &&& 1085102592571150095) : Int64).toUInt64 >>> ((8 : Int32).toInt64.toUInt64 &&& Int64.toUInt64 63)).toInt64) : Int64).toUInt64 >>> ((16 : Int32).toInt64.toUInt64 &&& Int64.toUInt64 63)).toInt64))]) hx hb dJ13_bitCount_95d88_47 rfl hl (by decide) rfl (fun ls hl => ?_)
  refine lv_lload_n hx hb dJ13_bitCount_95d88_48 rfl (lv_at hl 0 rfl) ?_
  refine lv_lload_n hx hb dJ13_bitCount_95d88_49 rfl (lv_at hl 0 rfl) ?_
  refine lv_bipush (v := 32) hx hb dJ13_bitCount_95d88_50 (by decide) ?_
  refine lv_lushr (v := (((((((((v1 - (((v1 : Int64).toUInt64 >>> ((1 : Int32).toInt64.toUInt64 &&& Int64.toUInt64 63)).toInt64 &&& 6148914691236517205)) &&& 3689348814741910323) + ((((v1 - (((v1 : Int64).toUInt64 >>> ((1 : Int32).toInt64.toUInt64 &&& Int64.toUInt64 63)).toInt64 &&& 6148914691236517205)) : Int64).toUInt64 >>> ((2 : Int32).toInt64.toUInt64 &&& Int64.toUInt64 63)).toInt64 &&& 3689348814741910323)) + (((((v1 - (((v1 : Int64).toUInt64 >>> ((1 : Int32).toInt64.toUInt64 &&& Int64.toUInt64 63)).toInt64 &&& 6148914691236517205)) &&& 3689348814741910323) + ((((v1 - (((v1 : Int64).toUInt64 >>> ((1 : Int32).toInt64.toUInt64 &&& Int64.toUInt64 63)).toInt64 &&& 6148914691236517205)) : Int64).toUInt64 >>> ((2 : Int32).toInt64.toUInt64 &&& Int64.toUInt64 63)).toInt64 &&& 3689348814741910323)) : Int64).toUInt64 >>> ((4 : Int32).toInt64.toUInt64 &&& Int64.toUInt64 63)).toInt64) &&& 1085102592571150095) + (((((((v1 - (((v1 : Int64).toUInt64 >>> ((1 : Int32).toInt64.toUInt64 &&& Int64.toUInt64 63)).toInt64 &&& 6148914691236517205)) &&& 3689348814741910323) + ((((v1 - (((v1 : Int64).toUInt64 >>> ((1 : Int32).toInt64.toUInt64 &&& Int64.toUInt64 63)).toInt64 &&& 6148914691236517205)) : Int64).toUInt64 >>> ((2 : Int32).toInt64.toUInt64 &&& Int64.toUInt64 63)).toInt64 &&& 3689348814741910323)) + (((((v1 - (((v1 : Int64).toUInt64 >>> ((1 : Int32).toInt64.toUInt64 &&& Int64.toUInt64 63)).toInt64 &&& 6148914691236517205)) &&& 3689348814741910323) + ((((v1 - (((v1 : Int64).toUInt64 >>> ((1 : Int32).toInt64.toUInt64 &&& Int64.toUInt64 63)).toInt64 &&& 6148914691236517205)) : Int64).toUInt64 >>> ((2 : Int32).toInt64.toUInt64 &&& Int64.toUInt64 63)).toInt64 &&& 3689348814741910323)) : Int64).toUInt64 >>> ((4 : Int32).toInt64.toUInt64 &&& Int64.toUInt64 63)).toInt64) &&& 1085102592571150095) : Int64).toUInt64 >>> ((8 : Int32).toInt64.toUInt64 &&& Int64.toUInt64 63)).toInt64) + ((((((((v1 - (((v1 : Int64).toUInt64 >>> ((1 : Int32).toInt64.toUInt64 &&& Int64.toUInt64 63)).toInt64 &&& 6148914691236517205)) &&& 3689348814741910323) + ((((v1 - (((v1 : Int64).toUInt64 >>> ((1 : Int32).toInt64.toUInt64 &&& Int64.toUInt64 63)).toInt64 &&& 6148914691236517205)) : Int64).toUInt64 >>> ((2 : Int32).toInt64.toUInt64 &&& Int64.toUInt64 63)).toInt64 &&& 3689348814741910323)) + (((((v1 - (((v1 : Int64).toUInt64 >>> ((1 : Int32).toInt64.toUInt64 &&& Int64.toUInt64 63)).toInt64 &&& 6148914691236517205)) &&& 3689348814741910323) + ((((v1 - (((v1 : Int64).toUInt64 >>> ((1 : Int32).toInt64.toUInt64 &&& Int64.toUInt64 63)).toInt64 &&& 6148914691236517205)) : Int64).toUInt64 >>> ((2 : Int32).toInt64.toUInt64 &&& Int64.toUInt64 63)).toInt64 &&& 3689348814741910323)) : Int64).toUInt64 >>> ((4 : Int32).toInt64.toUInt64 &&& Int64.toUInt64 63)).toInt64) &&& 1085102592571150095) + (((((((v1 - (((v1 : Int64).toUInt64 >>> ((1 : Int32).toInt64.toUInt64 &&& Int64.toUInt64 63)).toInt64 &&& 6148914691236517205)) &&& 3689348814741910323) + ((((v1 - (((v1 : Int64).toUInt64 >>> ((1 : Int32).toInt64.toUInt64 &&& Int64.toUInt64 63)).toInt64 &&& 6148914691236517205)) : Int64).toUInt64 >>> ((2 : Int32).toInt64.toUInt64 &&& Int64.toUInt64 63)).toInt64 &&& 3689348814741910323)) + (((((v1 - (((v1 : Int64).toUInt64 >>> ((1 : Int32).toInt64.toUInt64 &&& Int64.toUInt64 63)).toInt64 &&& 6148914691236517205)) &&& 3689348814741910323) + ((((v1 - (((v1 : Int64).toUInt64 >>> ((1 : Int32).toInt64.toUInt64 &&& Int64.toUInt64 63)).toInt64 &&& 6148914691236517205)) : Int64).toUInt64 >>> ((2 : Int32).toInt64.toUInt64 &&& Int64.toUInt64 63)).toInt64 &&& 3689348814741910323)) : Int64).toUInt64 >>> ((4 : Int32).toInt64.toUInt64 &&& Int64.toUInt64 63)).toInt64) &&& 1085102592571150095) : Int64).toUInt64 >>> ((8 : Int32).toInt64.toUInt64 &&& Int64.toUInt64 63)).toInt64) : Int64).toUInt64 >>> ((16 : Int32).toInt64.toUInt64 &&& Int64.toUInt64 63)).toInt64) : Int64).toUInt64 >>> ((32 : Int32).toInt64.toUInt64 &&& Int64.toUInt64 63)).toInt64) hx hb dJ13_bitCount_95d88_52 rfl ?_
  refine lv_ladd hx hb dJ13_bitCount_95d88_53 ?_
  refine lv_lstore_n (lv' := [(0, .long ((((((((v1 - (((v1 : Int64).toUInt64 >>> ((1 : Int32).toInt64.toUInt64 &&& Int64.toUInt64 63)).toInt64 &&& 6148914691236517205)) &&& 3689348814741910323) + ((((v1 - (((v1 : Int64).toUInt64 >>> ((1 : Int32).toInt64.toUInt64 &&& Int64.toUInt64 63)).toInt64 &&& 6148914691236517205)) : Int64).toUInt64 >>> ((2 : Int32).toInt64.toUInt64 &&& Int64.toUInt64 63)).toInt64 &&& 3689348814741910323)) + (((((v1 - (((v1 : Int64).toUInt64 >>> ((1 : Int32).toInt64.toUInt64 &&& Int64.toUInt64 63)).toInt64 &&& 6148914691236517205)) &&& 3689348814741910323) + ((((v1 - (((v1 : Int64).toUInt64 >>> ((1 : Int32).toInt64.toUInt64 &&& Int64.toUInt64 63)).toInt64 &&& 6148914691236517205)) : Int64).toUInt64 >>> ((2 : Int32).toInt64.toUInt64 &&& Int64.toUInt64 63)).toInt64 &&& 3689348814741910323)) : Int64).toUInt64 >>> ((4 : Int32).toInt64.toUInt64 &&& Int64.toUInt64 63)).toInt64) &&& 1085102592571150095) + (((((((v1 - (((v1 : Int64).toUInt64 >>> ((1 : Int32).toInt64.toUInt64 &&& Int64.toUInt64 63)).toInt64 &&& 6148914691236517205)) &&& 3689348814741910323) + ((((v1 - (((v1 : Int64).toUInt64 >>> ((1 : Int32).toInt64.toUInt64 &&& Int64.toUInt64 63)).toInt64 &&& 6148914691236517205)) : Int64).toUInt64 >>> ((2 : Int32).toInt64.toUInt64 &&& Int64.toUInt64 63)).toInt64 &&& 3689348814741910323)) + (((((v1 - (((v1 : Int64).toUInt64 >>> ((1 : Int32).toInt64.toUInt64 &&& Int64.toUInt64 63)).toInt64 &&& 6148914691236517205)) &&& 3689348814741910323) + ((((v1 - (((v1 : Int64).toUInt64 >>> ((1 : Int32).toInt64.toUInt64 &&& Int64.toUInt64 63)).toInt64 &&& 6148914691236517205)) : Int64).toUInt64 >>> ((2 : Int32).toInt64.toUInt64 &&& Int64.toUInt64 63)).toInt64 &&& 3689348814741910323)) : Int64).toUInt64 >>> ((4 : Int32).toInt64.toUInt64 &&& Int64.toUInt64 63)).toInt64) &&& 1085102592571150095) : Int64).toUInt64 >>> ((8 : Int32).toInt64.toUInt64 &&& Int64.toUInt64 63)).toInt64) + ((((((((v1 - (((v1 : Int64).toUInt64 >>> ((1 : Int32).toInt64.toUInt64 &&& Int64.toUInt64 63)).toInt64 &&& 6148914691236517205)) &&& 3689348814741910323) + ((((v1 - (((v1 : Int64).toUInt64 >>> ((1 : Int32).toInt64.toUInt64 &&& Int64.toUInt64 63)).toInt64 &&& 6148914691236517205)) : Int64).toUInt64 >>> ((2 : Int32).toInt64.toUInt64 &&& Int64.toUInt64 63)).toInt64 &&& 3689348814741910323)) + (((((v1 - (((v1 : Int64).toUInt64 >>> ((1 : Int32).toInt64.toUInt64 &&& Int64.toUInt64 63)).toInt64 &&& 6148914691236517205)) &&& 3689348814741910323) + ((((v1 - (((v1 : Int64).toUInt64 >>> ((1 : Int32).toInt64.toUInt64 &&& Int64.toUInt64 63)).toInt64 &&& 6148914691236517205)) : Int64).toUInt64 >>> ((2 : Int32).toInt64.toUInt64 &&& Int64.toUInt64 63)).toInt64 &&& 3689348814741910323)) : Int64).toUInt64 >>> ((4 : Int32).toInt64.toUInt64 &&& Int64.toUInt64 63)).toInt64) &&& 1085102592571150095) + (((((((v1 - (((v1 : Int64).toUInt64 >>> ((1 : Int32).toInt64.toUInt64 &&& Int64.toUInt64 63)).toInt64 &&& 6148914691236517205)) &&& 3689348814741910323) + ((((v1 - (((v1 : Int64).toUInt64 >>> ((1 : Int32).toInt64.toUInt64 &&& Int64.toUInt64 63)).toInt64 &&& 6148914691236517205)) : Int64).toUInt64 >>> ((2 : Int32).toInt64.toUInt64 &&& Int64.toUInt64 63)).toInt64 &&& 3689348814741910323)) + (((((v1 - (((v1 : Int64).toUInt64 >>> ((1 : Int32).toInt64.toUInt64 &&& Int64.toUInt64 63)).toInt64 &&& 6148914691236517205)) &&& 3689348814741910323) + ((((v1 - (((v1 : Int64).toUInt64 >>> ((1 : Int32).toInt64.toUInt64 &&& Int64.toUInt64 63)).toInt64 &&& 6148914691236517205)) : Int64).toUInt64 >>> ((2 : Int32).toInt64.toUInt64 &&& Int64.toUInt64 63)).toInt64 &&& 3689348814741910323)) : Int64).toUInt64 >>> ((4 : Int32).toInt64.toUInt64 &&& Int64.toUInt64 63)).toInt64) &&& 1085102592571150095) : Int64).toUInt64 >>> ((8 : Int32).toInt64.toUInt64 &&& Int64.toUInt64 63)).toInt64) : Int64).toUInt64 >>> ((16 : Int32).toInt64.toUInt64 &&& Int64.toUInt64 63)).toInt64) + (((((((((v1 - (((v1 : Int64).toUInt64 >>> ((1 : Int32).toInt64.toUInt64 &&& Int64.toUInt64 63)).toInt64 &&& 6148914691236517205)) &&& 3689348814741910323) + ((((v1 - (((v1 : Int64).toUInt64 >>> ((1 : Int32).toInt64.toUInt64 &&& Int64.toUInt64 63)).toInt64 &&& 6148914691236517205)) : Int64).toUInt64 >>> ((2 : Int32).toInt64.toUInt64 &&& Int64.toUInt64 63)).toInt64 &&& 3689348814741910323)) + (((((v1 - (((v1 : Int64).toUInt64 >>> ((1 : Int32).toInt64.toUInt64 &&& Int64.toUInt64 63)).toInt64 &&& 6148914691236517205)) &&& 3689348814741910323) + ((((v1 - (((v1 : Int64).toUInt64 >>> ((1 : Int32).toInt64.toUInt64 &&& Int64.toUInt64 63)).toInt64 &&& 6148914691236517205)) : Int64).toUInt64 >>> ((2 : Int32).toInt64.toUInt64 &&& Int64.toUInt64 63)).toInt64 &&& 3689348814741910323)) : Int64).toUInt64 >>> ((4 : Int32).toInt64.toUInt64 &&& Int64.toUInt64 63)).toInt64) &&& 1085102592571150095) + (((((((v1 - (((v1 : Int64).toUInt64 >>> ((1 : Int32).toInt64.toUInt64 &&& Int64.toUInt64 63)).toInt64 &&& 6148914691236517205)) &&& 3689348814741910323) + ((((v1 - (((v1 : Int64).toUInt64 >>> ((1 : Int32).toInt64.toUInt64 &&& Int64.toUInt64 63)).toInt64 &&& 6148914691236517205)) : Int64).toUInt64 >>> ((2 : Int32).toInt64.toUInt64 &&& Int64.toUInt64 63)).toInt64 &&& 3689348814741910323)) + (((((v1 - (((v1 : Int64).toUInt64 >>> ((1 : Int32).toInt64.toUInt64 &&& Int64.toUInt64 63)).toInt64 &&& 6148914691236517205)) &&& 3689348814741910323) + ((((v1 - (((v1 : Int64).toUInt64 >>> ((1 : Int32).toInt64.toUInt64 &&& Int64.toUInt64 63)).toInt64 &&& 6148914691236517205)) : Int64).toUInt64 >>> ((2 : Int32).toInt64.toUInt64 &&& Int64.toUInt64 63)).toInt64 &&& 3689348814741910323)) : Int64).toUInt64 >>> ((4 : Int32).toInt64.toUInt64 &&& Int64.toUInt64 63)).toInt64) &&& 1085102592571150095) : Int64).toUInt64 >>> ((8 : Int32).toInt64.toUInt64 &&& Int64.toUInt64 63)).toInt64) + ((((((((v1 - (((v1 : Int64).toUInt64 >>> ((1 : Int32).toInt64.toUInt64 &&& Int64.toUInt64 63)).toInt64 &&& 6148914691236517205)) &&& 3689348814741910323) + ((((v1 - (((v1 : Int64).toUInt64 >>> ((1 : Int32).toInt64.toUInt64 &&& Int64.toUInt64 63)).toInt64 &&& 6148914691236517205)) : Int64).toUInt64 >>> ((2 : Int32).toInt64.toUInt64 &&& Int64.toUInt64 63)).toInt64 &&& 3689348814741910323)) + (((((v1 - (((v1 : Int64).toUInt64 >>> ((1 : Int32).toInt64.toUInt64 &&& Int64.toUInt64 63)).toInt64 &&& 6148914691236517205)) &&& 3689348814741910323) + ((((v1 - (((v1 : Int64).toUInt64 >>> ((1 : Int32).toInt64.toUInt64 &&& Int64.toUInt64 63)).toInt64 &&& 6148914691236517205)) : Int64).toUInt64 >>> ((2 : Int32).toInt64.toUInt64 &&& Int64.toUInt64 63)).toInt64 &&& 3689348814741910323)) : Int64).toUInt64 >>> ((4 : Int32).toInt64.toUInt64 &&& Int64.toUInt64 63)).toInt64) &&& 1085102592571150095) + (((((((v1 - (((v1 : Int64).toUInt64 >>> ((1 : Int32).toInt64.toUInt64 &&& Int64.toUInt64 63)).toInt64 &&& 6148914691236517205)) &&& 3689348814741910323) + ((((v1 - (((v1 : Int64).toUInt64 >>> ((1 : Int32).toInt64.toUInt64 &&& Int64.toUInt64 63)).toInt64 &&& 6148914691236517205)) : Int64).toUInt64 >>> ((2 : Int32).toInt64.toUInt64 &&& Int64.toUInt64 63)).toInt64 &&& 3689348814741910323)) + (((((v1 - (((v1 : Int64).toUInt64 >>> ((1 : Int32).toInt64.toUInt64 &&& Int64.toUInt64 63)).toInt64 &&& 6148914691236517205)) &&& 3689348814741910323) + ((((v1 - (((v1 : Int64).toUInt64 >>> ((1 : Int32).toInt64.toUInt64 &&& Int64.toUInt64 63)).toInt64 &&& 6148914691236517205)) : Int64).toUInt64 >>> ((2 : Int32).toInt64.toUInt64 &&& Int64.toUInt64 63)).toInt64 &&& 3689348814741910323)) : Int64).toUInt64 >>> ((4 : Int32).toInt64.toUInt64 &&& Int64.toUInt64 63)).toInt64) &&& 1085102592571150095) : Int64).toUInt64 >>> ((8 : Int32).toInt64.toUInt64 &&& Int64.toUInt64 63)).toInt64) : Int64).toUInt64 >>> ((16 : Int32).toInt64.toUInt64 &&& Int64.toUInt64 63)).toInt64) : Int64).toUInt64 >>> ((32 : Int32).toInt64.toUInt64 &&& Int64.toUInt64 63)).toInt64))]) hx hb dJ13_bitCount_95d88_54 rfl hl (by decide) rfl (fun ls hl => ?_)
  refine lv_lload_n hx hb dJ13_bitCount_95d88_55 rfl (lv_at hl 0 rfl) ?_
  refine lv_l2i (v := (((((((((v1 - (((v1 : Int64).toUInt64 >>> ((1 : Int32).toInt64.toUInt64 &&& Int64.toUInt64 63)).toInt64 &&& 6148914691236517205)) &&& 3689348814741910323) + ((((v1 - (((v1 : Int64).toUInt64 >>> ((1 : Int32).toInt64.toUInt64 &&& Int64.toUInt64 63)).toInt64 &&& 6148914691236517205)) : Int64).toUInt64 >>> ((2 : Int32).toInt64.toUInt64 &&& Int64.toUInt64 63)).toInt64 &&& 3689348814741910323)) + (((((v1 - (((v1 : Int64).toUInt64 >>> ((1 : Int32).toInt64.toUInt64 &&& Int64.toUInt64 63)).toInt64 &&& 6148914691236517205)) &&& 3689348814741910323) + ((((v1 - (((v1 : Int64).toUInt64 >>> ((1 : Int32).toInt64.toUInt64 &&& Int64.toUInt64 63)).toInt64 &&& 6148914691236517205)) : Int64).toUInt64 >>> ((2 : Int32).toInt64.toUInt64 &&& Int64.toUInt64 63)).toInt64 &&& 3689348814741910323)) : Int64).toUInt64 >>> ((4 : Int32).toInt64.toUInt64 &&& Int64.toUInt64 63)).toInt64) &&& 1085102592571150095) + (((((((v1 - (((v1 : Int64).toUInt64 >>> ((1 : Int32).toInt64.toUInt64 &&& Int64.toUInt64 63)).toInt64 &&& 6148914691236517205)) &&& 3689348814741910323) + ((((v1 - (((v1 : Int64).toUInt64 >>> ((1 : Int32).toInt64.toUInt64 &&& Int64.toUInt64 63)).toInt64 &&& 6148914691236517205)) : Int64).toUInt64 >>> ((2 : Int32).toInt64.toUInt64 &&& Int64.toUInt64 63)).toInt64 &&& 3689348814741910323)) + (((((v1 - (((v1 : Int64).toUInt64 >>> ((1 : Int32).toInt64.toUInt64 &&& Int64.toUInt64 63)).toInt64 &&& 6148914691236517205)) &&& 3689348814741910323) + ((((v1 - (((v1 : Int64).toUInt64 >>> ((1 : Int32).toInt64.toUInt64 &&& Int64.toUInt64 63)).toInt64 &&& 6148914691236517205)) : Int64).toUInt64 >>> ((2 : Int32).toInt64.toUInt64 &&& Int64.toUInt64 63)).toInt64 &&& 3689348814741910323)) : Int64).toUInt64 >>> ((4 : Int32).toInt64.toUInt64 &&& Int64.toUInt64 63)).toInt64) &&& 1085102592571150095) : Int64).toUInt64 >>> ((8 : Int32).toInt64.toUInt64 &&& Int64.toUInt64 63)).toInt64) + ((((((((v1 - (((v1 : Int64).toUInt64 >>> ((1 : Int32).toInt64.toUInt64 &&& Int64.toUInt64 63)).toInt64 &&& 6148914691236517205)) &&& 3689348814741910323) + ((((v1 - (((v1 : Int64).toUInt64 >>> ((1 : Int32).toInt64.toUInt64 &&& Int64.toUInt64 63)).toInt64 &&& 6148914691236517205)) : Int64).toUInt64 >>> ((2 : Int32).toInt64.toUInt64 &&& Int64.toUInt64 63)).toInt64 &&& 3689348814741910323)) + (((((v1 - (((v1 : Int64).toUInt64 >>> ((1 : Int32).toInt64.toUInt64 &&& Int64.toUInt64 63)).toInt64 &&& 6148914691236517205)) &&& 3689348814741910323) + ((((v1 - (((v1 : Int64).toUInt64 >>> ((1 : Int32).toInt64.toUInt64 &&& Int64.toUInt64 63)).toInt64 &&& 6148914691236517205)) : Int64).toUInt64 >>> ((2 : Int32).toInt64.toUInt64 &&& Int64.toUInt64 63)).toInt64 &&& 3689348814741910323)) : Int64).toUInt64 >>> ((4 : Int32).toInt64.toUInt64 &&& Int64.toUInt64 63)).toInt64) &&& 1085102592571150095) + (((((((v1 - (((v1 : Int64).toUInt64 >>> ((1 : Int32).toInt64.toUInt64 &&& Int64.toUInt64 63)).toInt64 &&& 6148914691236517205)) &&& 3689348814741910323) + ((((v1 - (((v1 : Int64).toUInt64 >>> ((1 : Int32).toInt64.toUInt64 &&& Int64.toUInt64 63)).toInt64 &&& 6148914691236517205)) : Int64).toUInt64 >>> ((2 : Int32).toInt64.toUInt64 &&& Int64.toUInt64 63)).toInt64 &&& 3689348814741910323)) + (((((v1 - (((v1 : Int64).toUInt64 >>> ((1 : Int32).toInt64.toUInt64 &&& Int64.toUInt64 63)).toInt64 &&& 6148914691236517205)) &&& 3689348814741910323) + ((((v1 - (((v1 : Int64).toUInt64 >>> ((1 : Int32).toInt64.toUInt64 &&& Int64.toUInt64 63)).toInt64 &&& 6148914691236517205)) : Int64).toUInt64 >>> ((2 : Int32).toInt64.toUInt64 &&& Int64.toUInt64 63)).toInt64 &&& 3689348814741910323)) : Int64).toUInt64 >>> ((4 : Int32).toInt64.toUInt64 &&& Int64.toUInt64 63)).toInt64) &&& 1085102592571150095) : Int64).toUInt64 >>> ((8 : Int32).toInt64.toUInt64 &&& Int64.toUInt64 63)).toInt64) : Int64).toUInt64 >>> ((16 : Int32).toInt64.toUInt64 &&& Int64.toUInt64 63)).toInt64) + (((((((((v1 - (((v1 : Int64).toUInt64 >>> ((1 : Int32).toInt64.toUInt64 &&& Int64.toUInt64 63)).toInt64 &&& 6148914691236517205)) &&& 3689348814741910323) + ((((v1 - (((v1 : Int64).toUInt64 >>> ((1 : Int32).toInt64.toUInt64 &&& Int64.toUInt64 63)).toInt64 &&& 6148914691236517205)) : Int64).toUInt64 >>> ((2 : Int32).toInt64.toUInt64 &&& Int64.toUInt64 63)).toInt64 &&& 3689348814741910323)) + (((((v1 - (((v1 : Int64).toUInt64 >>> ((1 : Int32).toInt64.toUInt64 &&& Int64.toUInt64 63)).toInt64 &&& 6148914691236517205)) &&& 3689348814741910323) + ((((v1 - (((v1 : Int64).toUInt64 >>> ((1 : Int32).toInt64.toUInt64 &&& Int64.toUInt64 63)).toInt64 &&& 6148914691236517205)) : Int64).toUInt64 >>> ((2 : Int32).toInt64.toUInt64 &&& Int64.toUInt64 63)).toInt64 &&& 3689348814741910323)) : Int64).toUInt64 >>> ((4 : Int32).toInt64.toUInt64 &&& Int64.toUInt64 63)).toInt64) &&& 1085102592571150095) + (((((((v1 - (((v1 : Int64).toUInt64 >>> ((1 : Int32).toInt64.toUInt64 &&& Int64.toUInt64 63)).toInt64 &&& 6148914691236517205)) &&& 3689348814741910323) + ((((v1 - (((v1 : Int64).toUInt64 >>> ((1 : Int32).toInt64.toUInt64 &&& Int64.toUInt64 63)).toInt64 &&& 6148914691236517205)) : Int64).toUInt64 >>> ((2 : Int32).toInt64.toUInt64 &&& Int64.toUInt64 63)).toInt64 &&& 3689348814741910323)) + (((((v1 - (((v1 : Int64).toUInt64 >>> ((1 : Int32).toInt64.toUInt64 &&& Int64.toUInt64 63)).toInt64 &&& 6148914691236517205)) &&& 3689348814741910323) + ((((v1 - (((v1 : Int64).toUInt64 >>> ((1 : Int32).toInt64.toUInt64 &&& Int64.toUInt64 63)).toInt64 &&& 6148914691236517205)) : Int64).toUInt64 >>> ((2 : Int32).toInt64.toUInt64 &&& Int64.toUInt64 63)).toInt64 &&& 3689348814741910323)) : Int64).toUInt64 >>> ((4 : Int32).toInt64.toUInt64 &&& Int64.toUInt64 63)).toInt64) &&& 1085102592571150095) : Int64).toUInt64 >>> ((8 : Int32).toInt64.toUInt64 &&& Int64.toUInt64 63)).toInt64) + ((((((((v1 - (((v1 : Int64).toUInt64 >>> ((1 : Int32).toInt64.toUInt64 &&& Int64.toUInt64 63)).toInt64 &&& 6148914691236517205)) &&& 3689348814741910323) + ((((v1 - (((v1 : Int64).toUInt64 >>> ((1 : Int32).toInt64.toUInt64 &&& Int64.toUInt64 63)).toInt64 &&& 6148914691236517205)) : Int64).toUInt64 >>> ((2 : Int32).toInt64.toUInt64 &&& Int64.toUInt64 63)).toInt64 &&& 3689348814741910323)) + (((((v1 - (((v1 : Int64).toUInt64 >>> ((1 : Int32).toInt64.toUInt64 &&& Int64.toUInt64 63)).toInt64 &&& 6148914691236517205)) &&& 3689348814741910323) + ((((v1 - (((v1 : Int64).toUInt64 >>> ((1 : Int32).toInt64.toUInt64 &&& Int64.toUInt64 63)).toInt64 &&& 6148914691236517205)) : Int64).toUInt64 >>> ((2 : Int32).toInt64.toUInt64 &&& Int64.toUInt64 63)).toInt64 &&& 3689348814741910323)) : Int64).toUInt64 >>> ((4 : Int32).toInt64.toUInt64 &&& Int64.toUInt64 63)).toInt64) &&& 1085102592571150095) + (((((((v1 - (((v1 : Int64).toUInt64 >>> ((1 : Int32).toInt64.toUInt64 &&& Int64.toUInt64 63)).toInt64 &&& 6148914691236517205)) &&& 3689348814741910323) + ((((v1 - (((v1 : Int64).toUInt64 >>> ((1 : Int32).toInt64.toUInt64 &&& Int64.toUInt64 63)).toInt64 &&& 6148914691236517205)) : Int64).toUInt64 >>> ((2 : Int32).toInt64.toUInt64 &&& Int64.toUInt64 63)).toInt64 &&& 3689348814741910323)) + (((((v1 - (((v1 : Int64).toUInt64 >>> ((1 : Int32).toInt64.toUInt64 &&& Int64.toUInt64 63)).toInt64 &&& 6148914691236517205)) &&& 3689348814741910323) + ((((v1 - (((v1 : Int64).toUInt64 >>> ((1 : Int32).toInt64.toUInt64 &&& Int64.toUInt64 63)).toInt64 &&& 6148914691236517205)) : Int64).toUInt64 >>> ((2 : Int32).toInt64.toUInt64 &&& Int64.toUInt64 63)).toInt64 &&& 3689348814741910323)) : Int64).toUInt64 >>> ((4 : Int32).toInt64.toUInt64 &&& Int64.toUInt64 63)).toInt64) &&& 1085102592571150095) : Int64).toUInt64 >>> ((8 : Int32).toInt64.toUInt64 &&& Int64.toUInt64 63)).toInt64) : Int64).toUInt64 >>> ((16 : Int32).toInt64.toUInt64 &&& Int64.toUInt64 63)).toInt64) : Int64).toUInt64 >>> ((32 : Int32).toInt64.toUInt64 &&& Int64.toUInt64 63)).toInt64) : Int64).toInt32) hx hb dJ13_bitCount_95d88_56 rfl ?_
  refine lv_bipush (v := 127) hx hb dJ13_bitCount_95d88_57 (by decide) ?_
  refine lv_iand hx hb dJ13_bitCount_95d88_59 ?_
  exact W.iret (v := ((((((((((v1 - (((v1 : Int64).toUInt64 >>> ((1 : Int32).toInt64.toUInt64 &&& Int64.toUInt64 63)).toInt64 &&& 6148914691236517205)) &&& 3689348814741910323) + ((((v1 - (((v1 : Int64).toUInt64 >>> ((1 : Int32).toInt64.toUInt64 &&& Int64.toUInt64 63)).toInt64 &&& 6148914691236517205)) : Int64).toUInt64 >>> ((2 : Int32).toInt64.toUInt64 &&& Int64.toUInt64 63)).toInt64 &&& 3689348814741910323)) + (((((v1 - (((v1 : Int64).toUInt64 >>> ((1 : Int32).toInt64.toUInt64 &&& Int64.toUInt64 63)).toInt64 &&& 6148914691236517205)) &&& 3689348814741910323) + ((((v1 - (((v1 : Int64).toUInt64 >>> ((1 : Int32).toInt64.toUInt64 &&& Int64.toUInt64 63)).toInt64 &&& 6148914691236517205)) : Int64).toUInt64 >>> ((2 : Int32).toInt64.toUInt64 &&& Int64.toUInt64 63)).toInt64 &&& 3689348814741910323)) : Int64).toUInt64 >>> ((4 : Int32).toInt64.toUInt64 &&& Int64.toUInt64 63)).toInt64) &&& 1085102592571150095) + (((((((v1 - (((v1 : Int64).toUInt64 >>> ((1 : Int32).toInt64.toUInt64 &&& Int64.toUInt64 63)).toInt64 &&& 6148914691236517205)) &&& 3689348814741910323) + ((((v1 - (((v1 : Int64).toUInt64 >>> ((1 : Int32).toInt64.toUInt64 &&& Int64.toUInt64 63)).toInt64 &&& 6148914691236517205)) : Int64).toUInt64 >>> ((2 : Int32).toInt64.toUInt64 &&& Int64.toUInt64 63)).toInt64 &&& 3689348814741910323)) + (((((v1 - (((v1 : Int64).toUInt64 >>> ((1 : Int32).toInt64.toUInt64 &&& Int64.toUInt64 63)).toInt64 &&& 6148914691236517205)) &&& 3689348814741910323) + ((((v1 - (((v1 : Int64).toUInt64 >>> ((1 : Int32).toInt64.toUInt64 &&& Int64.toUInt64 63)).toInt64 &&& 6148914691236517205)) : Int64).toUInt64 >>> ((2 : Int32).toInt64.toUInt64 &&& Int64.toUInt64 63)).toInt64 &&& 3689348814741910323)) : Int64).toUInt64 >>> ((4 : Int32).toInt64.toUInt64 &&& Int64.toUInt64 63)).toInt64) &&& 1085102592571150095) : Int64).toUInt64 >>> ((8 : Int32).toInt64.toUInt64 &&& Int64.toUInt64 63)).toInt64) + ((((((((v1 - (((v1 : Int64).toUInt64 >>> ((1 : Int32).toInt64.toUInt64 &&& Int64.toUInt64 63)).toInt64 &&& 6148914691236517205)) &&& 3689348814741910323) + ((((v1 - (((v1 : Int64).toUInt64 >>> ((1 : Int32).toInt64.toUInt64 &&& Int64.toUInt64 63)).toInt64 &&& 6148914691236517205)) : Int64).toUInt64 >>> ((2 : Int32).toInt64.toUInt64 &&& Int64.toUInt64 63)).toInt64 &&& 3689348814741910323)) + (((((v1 - (((v1 : Int64).toUInt64 >>> ((1 : Int32).toInt64.toUInt64 &&& Int64.toUInt64 63)).toInt64 &&& 6148914691236517205)) &&& 3689348814741910323) + ((((v1 - (((v1 : Int64).toUInt64 >>> ((1 : Int32).toInt64.toUInt64 &&& Int64.toUInt64 63)).toInt64 &&& 6148914691236517205)) : Int64).toUInt64 >>> ((2 : Int32).toInt64.toUInt64 &&& Int64.toUInt64 63)).toInt64 &&& 3689348814741910323)) : Int64).toUInt64 >>> ((4 : Int32).toInt64.toUInt64 &&& Int64.toUInt64 63)).toInt64) &&& 1085102592571150095) + (((((((v1 - (((v1 : Int64).toUInt64 >>> ((1 : Int32).toInt64.toUInt64 &&& Int64.toUInt64 63)).toInt64 &&& 6148914691236517205)) &&& 3689348814741910323) + ((((v1 - (((v1 : Int64).toUInt64 >>> ((1 : Int32).toInt64.toUInt64 &&& Int64.toUInt64 63)).toInt64 &&& 6148914691236517205)) : Int64).toUInt64 >>> ((2 : Int32).toInt64.toUInt64 &&& Int64.toUInt64 63)).toInt64 &&& 3689348814741910323)) + (((((v1 - (((v1 : Int64).toUInt64 >>> ((1 : Int32).toInt64.toUInt64 &&& Int64.toUInt64 63)).toInt64 &&& 6148914691236517205)) &&& 3689348814741910323) + ((((v1 - (((v1 : Int64).toUInt64 >>> ((1 : Int32).toInt64.toUInt64 &&& Int64.toUInt64 63)).toInt64 &&& 6148914691236517205)) : Int64).toUInt64 >>> ((2 : Int32).toInt64.toUInt64 &&& Int64.toUInt64 63)).toInt64 &&& 3689348814741910323)) : Int64).toUInt64 >>> ((4 : Int32).toInt64.toUInt64 &&& Int64.toUInt64 63)).toInt64) &&& 1085102592571150095) : Int64).toUInt64 >>> ((8 : Int32).toInt64.toUInt64 &&& Int64.toUInt64 63)).toInt64) : Int64).toUInt64 >>> ((16 : Int32).toInt64.toUInt64 &&& Int64.toUInt64 63)).toInt64) + (((((((((v1 - (((v1 : Int64).toUInt64 >>> ((1 : Int32).toInt64.toUInt64 &&& Int64.toUInt64 63)).toInt64 &&& 6148914691236517205)) &&& 3689348814741910323) + ((((v1 - (((v1 : Int64).toUInt64 >>> ((1 : Int32).toInt64.toUInt64 &&& Int64.toUInt64 63)).toInt64 &&& 6148914691236517205)) : Int64).toUInt64 >>> ((2 : Int32).toInt64.toUInt64 &&& Int64.toUInt64 63)).toInt64 &&& 3689348814741910323)) + (((((v1 - (((v1 : Int64).toUInt64 >>> ((1 : Int32).toInt64.toUInt64 &&& Int64.toUInt64 63)).toInt64 &&& 6148914691236517205)) &&& 3689348814741910323) + ((((v1 - (((v1 : Int64).toUInt64 >>> ((1 : Int32).toInt64.toUInt64 &&& Int64.toUInt64 63)).toInt64 &&& 6148914691236517205)) : Int64).toUInt64 >>> ((2 : Int32).toInt64.toUInt64 &&& Int64.toUInt64 63)).toInt64 &&& 3689348814741910323)) : Int64).toUInt64 >>> ((4 : Int32).toInt64.toUInt64 &&& Int64.toUInt64 63)).toInt64) &&& 1085102592571150095) + (((((((v1 - (((v1 : Int64).toUInt64 >>> ((1 : Int32).toInt64.toUInt64 &&& Int64.toUInt64 63)).toInt64 &&& 6148914691236517205)) &&& 3689348814741910323) + ((((v1 - (((v1 : Int64).toUInt64 >>> ((1 : Int32).toInt64.toUInt64 &&& Int64.toUInt64 63)).toInt64 &&& 6148914691236517205)) : Int64).toUInt64 >>> ((2 : Int32).toInt64.toUInt64 &&& Int64.toUInt64 63)).toInt64 &&& 3689348814741910323)) + (((((v1 - (((v1 : Int64).toUInt64 >>> ((1 : Int32).toInt64.toUInt64 &&& Int64.toUInt64 63)).toInt64 &&& 6148914691236517205)) &&& 3689348814741910323) + ((((v1 - (((v1 : Int64).toUInt64 >>> ((1 : Int32).toInt64.toUInt64 &&& Int64.toUInt64 63)).toInt64 &&& 6148914691236517205)) : Int64).toUInt64 >>> ((2 : Int32).toInt64.toUInt64 &&& Int64.toUInt64 63)).toInt64 &&& 3689348814741910323)) : Int64).toUInt64 >>> ((4 : Int32).toInt64.toUInt64 &&& Int64.toUInt64 63)).toInt64) &&& 1085102592571150095) : Int64).toUInt64 >>> ((8 : Int32).toInt64.toUInt64 &&& Int64.toUInt64 63)).toInt64) + ((((((((v1 - (((v1 : Int64).toUInt64 >>> ((1 : Int32).toInt64.toUInt64 &&& Int64.toUInt64 63)).toInt64 &&& 6148914691236517205)) &&& 3689348814741910323) + ((((v1 - (((v1 : Int64).toUInt64 >>> ((1 : Int32).toInt64.toUInt64 &&& Int64.toUInt64 63)).toInt64 &&& 6148914691236517205)) : Int64).toUInt64 >>> ((2 : Int32).toInt64.toUInt64 &&& Int64.toUInt64 63)).toInt64 &&& 3689348814741910323)) + (((((v1 - (((v1 : Int64).toUInt64 >>> ((1 : Int32).toInt64.toUInt64 &&& Int64.toUInt64 63)).toInt64 &&& 6148914691236517205)) &&& 3689348814741910323) + ((((v1 - (((v1 : Int64).toUInt64 >>> ((1 : Int32).toInt64.toUInt64 &&& Int64.toUInt64 63)).toInt64 &&& 6148914691236517205)) : Int64).toUInt64 >>> ((2 : Int32).toInt64.toUInt64 &&& Int64.toUInt64 63)).toInt64 &&& 3689348814741910323)) : Int64).toUInt64 >>> ((4 : Int32).toInt64.toUInt64 &&& Int64.toUInt64 63)).toInt64) &&& 1085102592571150095) + (((((((v1 - (((v1 : Int64).toUInt64 >>> ((1 : Int32).toInt64.toUInt64 &&& Int64.toUInt64 63)).toInt64 &&& 6148914691236517205)) &&& 3689348814741910323) + ((((v1 - (((v1 : Int64).toUInt64 >>> ((1 : Int32).toInt64.toUInt64 &&& Int64.toUInt64 63)).toInt64 &&& 6148914691236517205)) : Int64).toUInt64 >>> ((2 : Int32).toInt64.toUInt64 &&& Int64.toUInt64 63)).toInt64 &&& 3689348814741910323)) + (((((v1 - (((v1 : Int64).toUInt64 >>> ((1 : Int32).toInt64.toUInt64 &&& Int64.toUInt64 63)).toInt64 &&& 6148914691236517205)) &&& 3689348814741910323) + ((((v1 - (((v1 : Int64).toUInt64 >>> ((1 : Int32).toInt64.toUInt64 &&& Int64.toUInt64 63)).toInt64 &&& 6148914691236517205)) : Int64).toUInt64 >>> ((2 : Int32).toInt64.toUInt64 &&& Int64.toUInt64 63)).toInt64 &&& 3689348814741910323)) : Int64).toUInt64 >>> ((4 : Int32).toInt64.toUInt64 &&& Int64.toUInt64 63)).toInt64) &&& 1085102592571150095) : Int64).toUInt64 >>> ((8 : Int32).toInt64.toUInt64 &&& Int64.toUInt64 63)).toInt64) : Int64).toUInt64 >>> ((16 : Int32).toInt64.toUInt64 &&& Int64.toUInt64 63)).toInt64) : Int64).toUInt64 >>> ((32 : Int32).toInt64.toUInt64 &&& Int64.toUInt64 63)).toInt64) : Int64).toInt32 &&& 127)) hx hb hr (fun t ht hW => ⟨((((((((((v1 - (((v1 : Int64).toUInt64 >>> ((1 : Int32).toInt64.toUInt64 &&& Int64.toUInt64 63)).toInt64 &&& 6148914691236517205)) &&& 3689348814741910323) + ((((v1 - (((v1 : Int64).toUInt64 >>> ((1 : Int32).toInt64.toUInt64 &&& Int64.toUInt64 63)).toInt64 &&& 6148914691236517205)) : Int64).toUInt64 >>> ((2 : Int32).toInt64.toUInt64 &&& Int64.toUInt64 63)).toInt64 &&& 3689348814741910323)) + (((((v1 - (((v1 : Int64).toUInt64 >>> ((1 : Int32).toInt64.toUInt64 &&& Int64.toUInt64 63)).toInt64 &&& 6148914691236517205)) &&& 3689348814741910323) + ((((v1 - (((v1 : Int64).toUInt64 >>> ((1 : Int32).toInt64.toUInt64 &&& Int64.toUInt64 63)).toInt64 &&& 6148914691236517205)) : Int64).toUInt64 >>> ((2 : Int32).toInt64.toUInt64 &&& Int64.toUInt64 63)).toInt64 &&& 3689348814741910323)) : Int64).toUInt64 >>> ((4 : Int32).toInt64.toUInt64 &&& Int64.toUInt64 63)).toInt64) &&& 1085102592571150095) + (((((((v1 - (((v1 : Int64).toUInt64 >>> ((1 : Int32).toInt64.toUInt64 &&& Int64.toUInt64 63)).toInt64 &&& 6148914691236517205)) &&& 3689348814741910323) + ((((v1 - (((v1 : Int64).toUInt64 >>> ((1 : Int32).toInt64.toUInt64 &&& Int64.toUInt64 63)).toInt64 &&& 6148914691236517205)) : Int64).toUInt64 >>> ((2 : Int32).toInt64.toUInt64 &&& Int64.toUInt64 63)).toInt64 &&& 3689348814741910323)) + (((((v1 - (((v1 : Int64).toUInt64 >>> ((1 : Int32).toInt64.toUInt64 &&& Int64.toUInt64 63)).toInt64 &&& 6148914691236517205)) &&& 3689348814741910323) + ((((v1 - (((v1 : Int64).toUInt64 >>> ((1 : Int32).toInt64.toUInt64 &&& Int64.toUInt64 63)).toInt64 &&& 6148914691236517205)) : Int64).toUInt64 >>> ((2 : Int32).toInt64.toUInt64 &&& Int64.toUInt64 63)).toInt64 &&& 3689348814741910323)) : Int64).toUInt64 >>> ((4 : Int32).toInt64.toUInt64 &&& Int64.toUInt64 63)).toInt64) &&& 1085102592571150095) : Int64).toUInt64 >>> ((8 : Int32).toInt64.toUInt64 &&& Int64.toUInt64 63)).toInt64) + ((((((((v1 - (((v1 : Int64).toUInt64 >>> ((1 : Int32).toInt64.toUInt64 &&& Int64.toUInt64 63)).toInt64 &&& 6148914691236517205)) &&& 3689348814741910323) + ((((v1 - (((v1 : Int64).toUInt64 >>> ((1 : Int32).toInt64.toUInt64 &&& Int64.toUInt64 63)).toInt64 &&& 6148914691236517205)) : Int64).toUInt64 >>> ((2 : Int32).toInt64.toUInt64 &&& Int64.toUInt64 63)).toInt64 &&& 3689348814741910323)) + (((((v1 - (((v1 : Int64).toUInt64 >>> ((1 : Int32).toInt64.toUInt64 &&& Int64.toUInt64 63)).toInt64 &&& 6148914691236517205)) &&& 3689348814741910323) + ((((v1 - (((v1 : Int64).toUInt64 >>> ((1 : Int32).toInt64.toUInt64 &&& Int64.toUInt64 63)).toInt64 &&& 6148914691236517205)) : Int64).toUInt64 >>> ((2 : Int32).toInt64.toUInt64 &&& Int64.toUInt64 63)).toInt64 &&& 3689348814741910323)) : Int64).toUInt64 >>> ((4 : Int32).toInt64.toUInt64 &&& Int64.toUInt64 63)).toInt64) &&& 1085102592571150095) + (((((((v1 - (((v1 : Int64).toUInt64 >>> ((1 : Int32).toInt64.toUInt64 &&& Int64.toUInt64 63)).toInt64 &&& 6148914691236517205)) &&& 3689348814741910323) + ((((v1 - (((v1 : Int64).toUInt64 >>> ((1 : Int32).toInt64.toUInt64 &&& Int64.toUInt64 63)).toInt64 &&& 6148914691236517205)) : Int64).toUInt64 >>> ((2 : Int32).toInt64.toUInt64 &&& Int64.toUInt64 63)).toInt64 &&& 3689348814741910323)) + (((((v1 - (((v1 : Int64).toUInt64 >>> ((1 : Int32).toInt64.toUInt64 &&& Int64.toUInt64 63)).toInt64 &&& 6148914691236517205)) &&& 3689348814741910323) + ((((v1 - (((v1 : Int64).toUInt64 >>> ((1 : Int32).toInt64.toUInt64 &&& Int64.toUInt64 63)).toInt64 &&& 6148914691236517205)) : Int64).toUInt64 >>> ((2 : Int32).toInt64.toUInt64 &&& Int64.toUInt64 63)).toInt64 &&& 3689348814741910323)) : Int64).toUInt64 >>> ((4 : Int32).toInt64.toUInt64 &&& Int64.toUInt64 63)).toInt64) &&& 1085102592571150095) : Int64).toUInt64 >>> ((8 : Int32).toInt64.toUInt64 &&& Int64.toUInt64 63)).toInt64) : Int64).toUInt64 >>> ((16 : Int32).toInt64.toUInt64 &&& Int64.toUInt64 63)).toInt64) + (((((((((v1 - (((v1 : Int64).toUInt64 >>> ((1 : Int32).toInt64.toUInt64 &&& Int64.toUInt64 63)).toInt64 &&& 6148914691236517205)) &&& 3689348814741910323) + ((((v1 - (((v1 : Int64).toUInt64 >>> ((1 : Int32).toInt64.toUInt64 &&& Int64.toUInt64 63)).toInt64 &&& 6148914691236517205)) : Int64).toUInt64 >>> ((2 : Int32).toInt64.toUInt64 &&& Int64.toUInt64 63)).toInt64 &&& 3689348814741910323)) + (((((v1 - (((v1 : Int64).toUInt64 >>> ((1 : Int32).toInt64.toUInt64 &&& Int64.toUInt64 63)).toInt64 &&& 6148914691236517205)) &&& 3689348814741910323) + ((((v1 - (((v1 : Int64).toUInt64 >>> ((1 : Int32).toInt64.toUInt64 &&& Int64.toUInt64 63)).toInt64 &&& 6148914691236517205)) : Int64).toUInt64 >>> ((2 : Int32).toInt64.toUInt64 &&& Int64.toUInt64 63)).toInt64 &&& 3689348814741910323)) : Int64).toUInt64 >>> ((4 : Int32).toInt64.toUInt64 &&& Int64.toUInt64 63)).toInt64) &&& 1085102592571150095) + (((((((v1 - (((v1 : Int64).toUInt64 >>> ((1 : Int32).toInt64.toUInt64 &&& Int64.toUInt64 63)).toInt64 &&& 6148914691236517205)) &&& 3689348814741910323) + ((((v1 - (((v1 : Int64).toUInt64 >>> ((1 : Int32).toInt64.toUInt64 &&& Int64.toUInt64 63)).toInt64 &&& 6148914691236517205)) : Int64).toUInt64 >>> ((2 : Int32).toInt64.toUInt64 &&& Int64.toUInt64 63)).toInt64 &&& 3689348814741910323)) + (((((v1 - (((v1 : Int64).toUInt64 >>> ((1 : Int32).toInt64.toUInt64 &&& Int64.toUInt64 63)).toInt64 &&& 6148914691236517205)) &&& 3689348814741910323) + ((((v1 - (((v1 : Int64).toUInt64 >>> ((1 : Int32).toInt64.toUInt64 &&& Int64.toUInt64 63)).toInt64 &&& 6148914691236517205)) : Int64).toUInt64 >>> ((2 : Int32).toInt64.toUInt64 &&& Int64.toUInt64 63)).toInt64 &&& 3689348814741910323)) : Int64).toUInt64 >>> ((4 : Int32).toInt64.toUInt64 &&& Int64.toUInt64 63)).toInt64) &&& 1085102592571150095) : Int64).toUInt64 >>> ((8 : Int32).toInt64.toUInt64 &&& Int64.toUInt64 63)).toInt64) + ((((((((v1 - (((v1 : Int64).toUInt64 >>> ((1 : Int32).toInt64.toUInt64 &&& Int64.toUInt64 63)).toInt64 &&& 6148914691236517205)) &&& 3689348814741910323) + ((((v1 - (((v1 : Int64).toUInt64 >>> ((1 : Int32).toInt64.toUInt64 &&& Int64.toUInt64 63)).toInt64 &&& 6148914691236517205)) : Int64).toUInt64 >>> ((2 : Int32).toInt64.toUInt64 &&& Int64.toUInt64 63)).toInt64 &&& 3689348814741910323)) + (((((v1 - (((v1 : Int64).toUInt64 >>> ((1 : Int32).toInt64.toUInt64 &&& Int64.toUInt64 63)).toInt64 &&& 6148914691236517205)) &&& 3689348814741910323) + ((((v1 - (((v1 : Int64).toUInt64 >>> ((1 : Int32).toInt64.toUInt64 &&& Int64.toUInt64 63)).toInt64 &&& 6148914691236517205)) : Int64).toUInt64 >>> ((2 : Int32).toInt64.toUInt64 &&& Int64.toUInt64 63)).toInt64 &&& 3689348814741910323)) : Int64).toUInt64 >>> ((4 : Int32).toInt64.toUInt64 &&& Int64.toUInt64 63)).toInt64) &&& 1085102592571150095) + (((((((v1 - (((v1 : Int64).toUInt64 >>> ((1 : Int32).toInt64.toUInt64 &&& Int64.toUInt64 63)).toInt64 &&& 6148914691236517205)) &&& 3689348814741910323) + ((((v1 - (((v1 : Int64).toUInt64 >>> ((1 : Int32).toInt64.toUInt64 &&& Int64.toUInt64 63)).toInt64 &&& 6148914691236517205)) : Int64).toUInt64 >>> ((2 : Int32).toInt64.toUInt64 &&& Int64.toUInt64 63)).toInt64 &&& 3689348814741910323)) + (((((v1 - (((v1 : Int64).toUInt64 >>> ((1 : Int32).toInt64.toUInt64 &&& Int64.toUInt64 63)).toInt64 &&& 6148914691236517205)) &&& 3689348814741910323) + ((((v1 - (((v1 : Int64).toUInt64 >>> ((1 : Int32).toInt64.toUInt64 &&& Int64.toUInt64 63)).toInt64 &&& 6148914691236517205)) : Int64).toUInt64 >>> ((2 : Int32).toInt64.toUInt64 &&& Int64.toUInt64 63)).toInt64 &&& 3689348814741910323)) : Int64).toUInt64 >>> ((4 : Int32).toInt64.toUInt64 &&& Int64.toUInt64 63)).toInt64) &&& 1085102592571150095) : Int64).toUInt64 >>> ((8 : Int32).toInt64.toUInt64 &&& Int64.toUInt64 63)).toInt64) : Int64).toUInt64 >>> ((16 : Int32).toInt64.toUInt64 &&& Int64.toUInt64 63)).toInt64) : Int64).toUInt64 >>> ((32 : Int32).toInt64.toUInt64 &&& Int64.toUInt64 63)).toInt64) : Int64).toInt32 &&& 127), rfl, trivial, ht⟩) (fun q h => absurd h List.not_mem_nil) dJ13_bitCount_95d88_60

set_option maxHeartbeats 4000000 in
set_option maxRecDepth 100000 in
theorem x_tell (l : Launch) (dC : Nat → ClassId) (dI : Nat → Nat → Nat) (ca : Nat → ClassId) (h : Nat) (nu : Nat) (w0 : Int32) (w1 : Int32) (w3 : Int32) (w4 : Int64) (w5 : Int32) (bl : Nat) (NB : Nat → Int32) (v1 : Int32) (hx1 : cnt w3 bl ∧ bl ≤ 40) : Met l yX1_tell (Cond.code yX1_tell cX1_tell 2 (some .int) :: gT) ({ frames := 2, cells := 0, slots := 0, locals := 83 }) (va_Pc [.ref h, .int v1] (pu (dC, dI) [(h, .inr (1, [.int w0, .int w1, .ref nu, .int w3, .long w4, .int w5])), (nu, .inl (ca 0, bl, .inl NB))] (aT ca))) (vp_Si (fun r => True)) 0 0 (fun _ => False) := by
  refine Met.ofW (cc := cX1_tell) (maxL := 2) (ret := (some .int)) (by decide) rfl ?_
  intro p e s m args below meth c s₁ B hml hv
  obtain ⟨rfl, hP, hK, hE⟩ := hv
  have hx := B.exec
  have hb := B.bytes
  have hr := B.returns
  have hts : ∀ w ∈ gT, w.before _ s = true := fun w h => atoms_spec (ws := Cond.code yX1_tell cX1_tell 2 (some .int) :: gT) B.pre w (List.mem_cons_of_mem _ h)
  have hown : s.vm.findClass RX1 = some m.cls := findClass_of_methodNamed B.named
  have hlocks := B.notSynchronized
  have hl := lv_entry ([.ref h, .int v1]) (n := 2) (Nat.le_of_ble_eq_true rfl)
  rw [lg_entry_eq]
  generalize (lg_sl ([.ref h, .int v1]) ++ List.replicate (2 - (lg_sl ([.ref h, .int v1])).length) Slot.unset).toArray = ls at hl ⊢
  have hl : lv_has ls 2 [(0, .ref h), (1, .int v1)] := hl
  refine lv_iload_n hx hb dX1_tell_0 rfl (lv_at hl 1 rfl) ?_
  refine lv_bipush (v := 100) hx hb dX1_tell_1 (by decide) ?_
  refine lv_sipush (v := 199) hx hb dX1_tell_3 (by decide) ?_
  have hPc := hP.sub (ws' := []) [] rfl
  refine pc_i (va_runSN (As := [.int v1, .int 100, .int 199]) (rest := []) ⟨hx, hb, hml, hown, hts⟩ (c_within l dC dI ca v1 100 199 ) (⟨va_cnB 3 hts (gd mw_254) rfl rfl rfl hE.2.2.2.2.2.1 (hts _ mw_1) ds_X10_within ⟨Nat.le_of_ble_eq_true rfl, Nat.le_of_ble_eq_true rfl⟩, (hts _ mw_253), trivial⟩) (pu_S hPc hK hE) rfl rfl hl.1 rfl (lv_room (Nat.le_of_ble_eq_true rfl)) dX1_tell_6 ⟨Nat.le_of_ble_eq_true rfl, Nat.le_of_ble_eq_true rfl⟩) (fun rv_1 hw_ => ?_)
  obtain rfl : rv_1 = (wi v1 100 199) := hw_
  refine lv_if_eq (tgt := 37) hx hb dX1_tell_9 (by decide) (fun c_2 => ?_) (fun c_2 => ?_)
  · refine lv_iload_n hx hb dX1_tell_37 rfl (lv_at hl 1 rfl) ?_
    refine lv_sipush (v := 200) hx hb dX1_tell_38 (by decide) ?_
    refine lv_icmp_lt (tgt := 54) hx hb dX1_tell_41 (by decide) (fun c_3 => ?_) (fun c_3 => ?_)
    · refine lv_iload_n hx hb dX1_tell_54 rfl (lv_at hl 1 rfl) ?_
      by_cases c_4 : v1 = 0
      · refine lv_topi (fun y_ e_ => ?_)
        obtain rfl : y_ = 0 := e_.trans c_4
        refine lv_tableIn (tgt := 88) hx hb dX1_tell_55 (by decide) (by decide) rfl (by decide) ?_
        refine lv_aload_n hx hb dX1_tell_88 rfl (lv_at hl 0 rfl) ?_
        refine va_get (D := (dC, dI)) (ci := 1) (v := .int w3) (C := RX1) (T := TX1) (N := 6) hx hb hts inX1 hown hK hP 0 rfl rfl 3 (by decide) (hts _ mw_695) (fun _ h9 => h9) rfl dX1_tell_89 ?_
        exact W.iret (v := w3) hx hb hr (fun t ht hW => ⟨w3, rfl, trivial, ht⟩) (fun q h => absurd h List.not_mem_nil) dX1_tell_92
      by_cases c_5 : v1 = 1
      · refine lv_topi (fun y_ e_ => ?_)
        obtain rfl : y_ = 1 := e_.trans c_5
        refine lv_tableIn (tgt := 93) hx hb dX1_tell_55 (by decide) (by decide) rfl (by decide) ?_
        refine lv_aload_n hx hb dX1_tell_93 rfl (lv_at hl 0 rfl) ?_
        refine va_get (D := (dC, dI)) (ci := 1) (v := .int w1) (C := RX1) (T := TX1) (N := 6) hx hb hts inX1 hown hK hP 0 rfl rfl 1 (by decide) (hts _ mw_693) (fun _ h9 => h9) rfl dX1_tell_94 ?_
        exact W.iret (v := w1) hx hb hr (fun t ht hW => ⟨w1, rfl, trivial, ht⟩) (fun q h => absurd h List.not_mem_nil) dX1_tell_97
      by_cases c_6 : v1 = 2
      · refine lv_topi (fun y_ e_ => ?_)
        obtain rfl : y_ = 2 := e_.trans c_6
        refine lv_tableIn (tgt := 98) hx hb dX1_tell_55 (by decide) (by decide) rfl (by decide) ?_
        refine lv_aload_n hx hb dX1_tell_98 rfl (lv_at hl 0 rfl) ?_
        refine va_get (D := (dC, dI)) (ci := 1) (v := .int w0) (C := RX1) (T := TX1) (N := 6) hx hb hts inX1 hown hK hP 0 rfl rfl 0 (by decide) (hts _ mw_692) (fun _ h9 => h9) rfl dX1_tell_99 ?_
        exact W.iret (v := w0) hx hb hr (fun t ht hW => ⟨w0, rfl, trivial, ht⟩) (fun q h => absurd h List.not_mem_nil) dX1_tell_102
      by_cases c_7 : v1 = 3
      · refine lv_topi (fun y_ e_ => ?_)
        obtain rfl : y_ = 3 := e_.trans c_7
        refine lv_tableIn (tgt := 103) hx hb dX1_tell_55 (by decide) (by decide) rfl (by decide) ?_
        refine lv_aload_n hx hb dX1_tell_103 rfl (lv_at hl 0 rfl) ?_
        refine va_get (D := (dC, dI)) (ci := 1) (v := .int w5) (C := RX1) (T := TX1) (N := 6) hx hb hts inX1 hown hK hP 0 rfl rfl 5 (by decide) (hts _ mw_698) (fun _ h9 => h9) rfl dX1_tell_104 ?_
        exact W.iret (v := w5) hx hb hr (fun t ht hW => ⟨w5, rfl, trivial, ht⟩) (fun q h => absurd h List.not_mem_nil) dX1_tell_107
      by_cases c_8 : v1 = 4
      · refine lv_topi (fun y_ e_ => ?_)
        obtain rfl : y_ = 4 := e_.trans c_8
        refine lv_tableIn (tgt := 108) hx hb dX1_tell_55 (by decide) (by decide) rfl (by decide) ?_
        refine lv_aload_n hx hb dX1_tell_108 rfl (lv_at hl 0 rfl) ?_
        refine va_get (D := (dC, dI)) (ci := 1) (v := .long w4) (C := RX1) (T := TX1) (N := 6) hx hb hts inX1 hown hK hP 0 rfl rfl 4 (by decide) (hts _ mw_696) (fun _ h9 => h9) rfl dX1_tell_109 ?_
        have hPc := hP.sub (ws' := []) [] rfl
        refine pc_i (va_runS (As := [.long w4]) (rest := []) ⟨hx, hb, hml, hown, hts⟩ (c_bitCount l dC dI ca w4 ) (⟨callB_of 1 hts (gd mw_781) rfl rfl rfl (hts _ mw_17) (hts _ mw_779) ds_J13_bitCount_95d88 ⟨Nat.le_of_ble_eq_true rfl, Nat.le_of_ble_eq_true rfl⟩, (hts _ mw_780)⟩) (pu_S hPc hK hE) rfl rfl hl.1 rfl (lv_room (Nat.le_of_ble_eq_true rfl)) dX1_tell_112 ⟨Nat.le_of_ble_eq_true rfl, Nat.le_of_ble_eq_true rfl⟩) (fun rv_9 hw_ => ?_)
        have hw_9 := hw_
        exact W.iret (v := rv_9) hx hb hr (fun t ht hW => ⟨rv_9, rfl, trivial, ht⟩) (fun q h => absurd h List.not_mem_nil) dX1_tell_115
      refine lv_tableOut (tgt := 116) hx hb dX1_tell_55 (by have n0 := lv_neT c_4 (show (0 : Int32).toInt = 0 by decide); have n1 := lv_neT c_5 (show (1 : Int32).toInt = 1 by decide); have n2 := lv_neT c_6 (show (2 : Int32).toInt = 2 by decide); have n3 := lv_neT c_7 (show (3 : Int32).toInt = 3 by decide); have n4 := lv_neT c_8 (show (4 : Int32).toInt = 4 by decide); omega) (by decide) ?_
      refine lv_iconst (v := (-1)) hx hb dX1_tell_116 (by decide) ?_
      exact W.iret (v := (-1)) hx hb hr (fun t ht hW => ⟨(-1), rfl, trivial, ht⟩) (fun q h => absurd h List.not_mem_nil) dX1_tell_117
    · refine lv_aload_n hx hb dX1_tell_44 rfl (lv_at hl 0 rfl) ?_
      refine lv_iload_n hx hb dX1_tell_45 rfl (lv_at hl 1 rfl) ?_
      refine lv_sipush (v := 200) hx hb dX1_tell_46 (by decide) ?_
      refine lv_isub hx hb dX1_tell_49 ?_
      have hPc := hP.sub (ws' := [(h, .inr (1, [.int w0, .int w1, .ref nu, .int w3, .long w4, .int w5]))]) [0] rfl
      refine pc_i (va_runV (As := [.int (v1 - 200)]) (rest := []) ⟨hx, hb, hml, hown, hts⟩ (x_lotAt l dC dI ca h nu w0 w1 w3 w4 w5 (v1 - 200) ) (⟨callB_of 1 hts (gd mw_778) rfl rfl rfl (hts _ mw_16) (hts _ mw_775) ds_X1_lotAt ⟨Nat.le_of_ble_eq_true rfl, Nat.le_of_ble_eq_true rfl⟩, (hts _ mw_777), (hts _ mp_27)⟩) (pu_V hPc hK hE (va_recv hK hPc (ci := 1) (q0 := 0) rfl rfl)) rfl rfl hl.1 rfl (lv_room (Nat.le_of_ble_eq_true rfl)) dX1_tell_50 ⟨Nat.le_of_ble_eq_true rfl, Nat.le_of_ble_eq_true rfl⟩) (fun rv_10 hw_ => ?_)
      have hw_10 := hw_
      exact W.iret (v := rv_10) hx hb hr (fun t ht hW => ⟨rv_10, rfl, trivial, ht⟩) (fun q h => absurd h List.not_mem_nil) dX1_tell_53
  · refine lv_iload_n hx hb dX1_tell_12 rfl (lv_at hl 1 rfl) ?_
    refine lv_bipush (v := 100) hx hb dX1_tell_13 (by decide) ?_
    refine lv_isub hx hb dX1_tell_15 ?_
    refine lv_aload_n hx hb dX1_tell_16 rfl (lv_at hl 0 rfl) ?_
    refine va_get (D := (dC, dI)) (ci := 1) (v := .int w3) (C := RX1) (T := TX1) (N := 6) hx hb hts inX1 hown hK hP 0 rfl rfl 3 (by decide) (hts _ mw_695) (fun _ h9 => h9) rfl dX1_tell_17 ?_
    refine lv_icmp_ge (tgt := 35) hx hb dX1_tell_20 (by decide) (fun c_11 => ?_) (fun c_11 => ?_)
    · refine lv_iconst (v := (-1)) hx hb dX1_tell_35 (by decide) ?_
      exact W.iret (v := (-1)) hx hb hr (fun t ht hW => ⟨(-1), rfl, trivial, ht⟩) (fun q h => absurd h List.not_mem_nil) dX1_tell_36
    · refine lv_aload_n hx hb dX1_tell_23 rfl (lv_at hl 0 rfl) ?_
      refine va_get (D := (dC, dI)) (ci := 1) (v := .ref nu) (C := RX1) (T := TX1) (N := 6) hx hb hts inX1 hown hK hP 0 rfl rfl 2 (by decide) (hts _ mw_694) (fun _ h9 => h9) rfl dX1_tell_24 ?_
      refine lv_iload_n hx hb dX1_tell_27 rfl (lv_at hl 1 rfl) ?_
      refine lv_bipush (v := 100) hx hb dX1_tell_28 (by decide) ?_
      refine lv_isub hx hb dX1_tell_30 ?_
      refine va_iald hx hb hK hP 1 0 rfl rfl (bx_ix hx1 c_2 c_11) dX1_tell_31 ?_
      refine lv_goto (tgt := 36) hx hb dX1_tell_32 (by decide) ?_
      exact W.iret (v := (NB ((v1 - 100) : Int32).toNatClampNeg)) hx hb hr (fun t ht hW => ⟨(NB ((v1 - 100) : Int32).toNatClampNeg), rfl, trivial, ht⟩) (fun q h => absurd h List.not_mem_nil) dX1_tell_36

set_option maxHeartbeats 4000000 in
set_option maxRecDepth 100000 in
theorem x_add (l : Launch) (dC : Nat → ClassId) (dI : Nat → Nat → Nat) (ca : Nat → ClassId) (sz : Nat) (h : Nat) (nu : Nat) (w0 : Int32) (w1 : Int32) (w4 : Int64) (w5 : Int32) (bl : Nat) (NB : Nat → Int32) (mn : Nat) (v1 : Int32) (v2 : Int64) (hmn : mn ≤ bl) (hbl : bl ≤ 40) : Met l yX1_add (Cond.code yX1_add cX1_add 5 none :: gT) ({ frames := 1, cells := 0, slots := 0, locals := 60 }) (va_Pc [.ref h, .int v1, .long v2] (pr (dC, dI) sz [(h, .inr (1, [.int w0, .int w1, .ref nu, .int (nI mn), .long w4, .int w5])), (nu, .inl (ca 0, bl, .inl NB))] (aT ca))) (va_Qv (fun (u_ : Nat × Int64 × (Nat → Int32)) => u_.1 ≤ bl) (fun (u_ : Nat × Int64 × (Nat → Int32)) t => va_P (dC, dI) vwCl [(h, .inr (1, [.int w0, .int w1, .ref nu, .int (nI u_.1), .long u_.2.1, .int w5])), (nu, .inl (ca 0, bl, .inl u_.2.2))] t.heap ∧ va_D (va_A [(h, .inr (1, [.int w0, .int w1, .ref nu, .int (nI mn), .long w4, .int w5])), (nu, .inl (ca 0, bl, .inl NB))] sz) [(h, .inr (1, [.int w0, .int w1, .ref nu, .int (nI u_.1), .long u_.2.1, .int w5])), (nu, .inl (ca 0, bl, .inl u_.2.2))]) (va_A [(h, .inr (1, [.int w0, .int w1, .ref nu, .int (nI mn), .long w4, .int w5])), (nu, .inl (ca 0, bl, .inl NB))] sz)) 0 0 (va_A [(h, .inr (1, [.int w0, .int w1, .ref nu, .int (nI mn), .long w4, .int w5])), (nu, .inl (ca 0, bl, .inl NB))] sz) := by
  refine Met.ofW (cc := cX1_add) (maxL := 5) (ret := none) (by decide) rfl ?_
  intro p e s m args below meth c s₁ B hml hv
  obtain ⟨rfl, hsz, hP, hK, hD0, hE⟩ := hv
  have hx := B.exec
  have hb := B.bytes
  have hr := B.returns
  have hts : ∀ w ∈ gT, w.before _ s = true := fun w h => atoms_spec (ws := Cond.code yX1_add cX1_add 5 none :: gT) B.pre w (List.mem_cons_of_mem _ h)
  have hown : s.vm.findClass RX1 = some m.cls := findClass_of_methodNamed B.named
  have hlocks := B.notSynchronized
  subst hsz
  have hD := hD0.self (sz := s.heap.size)
  generalize hAe : va_A [(h, .inr (1, [.int w0, .int w1, .ref nu, .int (nI mn), .long w4, .int w5])), (nu, .inl (ca 0, bl, .inl NB))] s.heap.size = A at hD ⊢
  have hA : ∀ q : Nat, s.heap.size ≤ q → A q := fun q h => by rw [← hAe]; exact Or.inr h
  have hS : va_S A s.heap s.heap [] := va_S.rf
  have hl := lv_entry ([.ref h, .int v1, .long v2]) (n := 5) (Nat.le_of_ble_eq_true rfl)
  rw [lg_entry_eq]
  generalize (lg_sl ([.ref h, .int v1, .long v2]) ++ List.replicate (5 - (lg_sl ([.ref h, .int v1, .long v2])).length) Slot.unset).toArray = ls at hl ⊢
  have hl : lv_has ls 5 [(0, .ref h), (1, .int v1), (2, .long v2)] := hl
  refine lv_aload_n hx hb dX1_add_0 rfl (lv_at hl 0 rfl) ?_
  refine va_get (D := (dC, dI)) (ci := 1) (v := .int (nI mn)) (C := RX1) (T := TX1) (N := 6) hx hb hts inX1 hown hK hP 0 rfl rfl 3 (by decide) (hts _ mw_695) (fun _ h9 => h9) rfl dX1_add_1 ?_
  refine lv_aload_n hx hb dX1_add_4 rfl (lv_at hl 0 rfl) ?_
  refine va_get (D := (dC, dI)) (ci := 1) (v := .ref nu) (C := RX1) (T := TX1) (N := 6) hx hb hts inX1 hown hK hP 0 rfl rfl 2 (by decide) (hts _ mw_694) (fun _ h9 => h9) rfl dX1_add_5 ?_
  refine va_alen (v := (nI bl)) hx hb hK hP 1 0 rfl rfl rfl dX1_add_8 ?_
  refine lv_icmp_lt (tgt := 13) hx hb dX1_add_9 (by decide) (fun c_1 => ?_) (fun c_1 => ?_)
  · have nc_1 : mn < bl := (nI_ltI (a := mn) (b := bl) (by omega) (by omega)).mp c_1
    refine lv_aload_n hx hb dX1_add_13 rfl (lv_at hl 0 rfl) ?_
    refine va_get (D := (dC, dI)) (ci := 1) (v := .int (nI mn)) (C := RX1) (T := TX1) (N := 6) hx hb hts inX1 hown hK hP 0 rfl rfl 3 (by decide) (hts _ mw_695) (fun _ h9 => h9) rfl dX1_add_14 ?_
    refine lv_istore (lv' := [(4, .int (nI mn)), (0, .ref h), (1, .int v1), (2, .long v2)]) hx hb dX1_add_17 hl (by decide) rfl (fun ls hl => ?_)
    refine wl_loop (fun (z_ : Nat × (Nat → Int32)) H locs ls => (z_.1 ≤ mn) ∧ va_P (dC, dI) vwCl [(h, .inr (1, [.int w0, .int w1, .ref nu, .int (nI mn), .long w4, .int w5])), (nu, .inl (ca 0, bl, .inl z_.2))] H ∧ va_D A [(h, .inr (1, [.int w0, .int w1, .ref nu, .int (nI mn), .long w4, .int w5])), (nu, .inl (ca 0, bl, .inl z_.2))] ∧ va_S A s.heap H locs ∧ lv_has ls 5 [(4, .int (nI z_.1)), (0, .ref h), (1, .int v1), (2, .long v2)]) (fun (z_ : Nat × (Nat → Int32)) => z_.1) (fun z_ H locs ls hI ih => ?_) (mn, NB) ⟨(Nat.le_refl _), hP, hD, hS, lv_sub hl [0, 1, 2, 3] rfl⟩
    obtain ⟨i, N1⟩ := z_
    dsimp only at hI ih
    obtain ⟨hi, hP, hD, hS, hl⟩ := hI
    refine lv_iload hx hb dX1_add_19 (lv_at hl 0 rfl) ?_
    refine lv_if_le (tgt := 59) hx hb dX1_add_21 (by decide) (fun c_2 => ?_) (fun c_2 => ?_)
    · have nc_2 : i ≤ 0 := (nI_leI (a := i) (b := 0) (by omega) (by omega)).mp c_2
      refine lv_aload_n hx hb dX1_add_59 rfl (lv_at hl 1 rfl) ?_
      refine va_get (D := (dC, dI)) (ci := 1) (v := .ref nu) (C := RX1) (T := TX1) (N := 6) hx hb hts inX1 hown hK hP 0 rfl rfl 2 (by decide) (hts _ mw_694) (fun _ h9 => h9) rfl dX1_add_60 ?_
      refine lv_iload hx hb dX1_add_63 (lv_at hl 0 rfl) ?_
      refine lv_iload_n hx hb dX1_add_65 rfl (lv_at hl 2 rfl) ?_
      refine va_iast hx hb hK hP hD hS 1 0 rfl rfl (vp_in_nI (show i < bl by omega) (by first | decide | omega)) dX1_add_66 (fun H locs hP hD hS => ?_)
      rw [(show ((nI i) : Int32).toNatClampNeg = i from nI_clamp (by omega))] at hP hD
      obtain ⟨hP, hD⟩ := va_bo [(h, .inr (1, [.int w0, .int w1, .ref nu, .int (nI mn), .long w4, .int w5])), (nu, .inl (ca 0, bl, .inl (upd N1 i v1)))] hP hD
      refine lv_aload_n hx hb dX1_add_67 rfl (lv_at hl 1 rfl) ?_
      refine lv_dup hx hb dX1_add_68 rfl ?_
      refine va_get (D := (dC, dI)) (ci := 1) (v := .int (nI mn)) (C := RX1) (T := TX1) (N := 6) hx hb hts inX1 hown hK hP 0 rfl rfl 3 (by decide) (hts _ mw_695) (fun _ h9 => h9) rfl dX1_add_69 ?_
      refine lv_iconst (v := 1) hx hb dX1_add_72 (by decide) ?_
      refine lv_iadd hx hb dX1_add_73 ?_
      refine lv_topi (fun y_ e_ => ?_)
      obtain rfl : y_ = (nI (mn + 1)) := e_.trans (nI_add (mn) (1))
      refine va_put (D := (dC, dI)) (ci := 1) (v := .int (nI (mn + 1))) (ty := .int) (C := RX1) (T := TX1) (N := 6) hx hb hts inX1 tyX1 tyX1_ok nmX1 hown hK hP hD hS 0 rfl rfl 3 (by decide) (hts _ mw_695) (fun _ h9 => h9) rfl (by decide +kernel) rfl rfl (Nat.le_of_ble_eq_true rfl) dX1_add_74 (fun H locs hP hD hS => ?_)
      obtain ⟨hP, hD⟩ := va_bo [(h, .inr (1, [.int w0, .int w1, .ref nu, .int (nI (mn + 1)), .long w4, .int w5])), (nu, .inl (ca 0, bl, .inl (upd N1 i v1)))] hP hD
      refine lv_aload_n hx hb dX1_add_77 rfl (lv_at hl 1 rfl) ?_
      refine lv_dup hx hb dX1_add_78 rfl ?_
      refine va_get (D := (dC, dI)) (ci := 1) (v := .long w4) (C := RX1) (T := TX1) (N := 6) hx hb hts inX1 hown hK hP 0 rfl rfl 4 (by decide) (hts _ mw_696) (fun _ h9 => h9) rfl dX1_add_79 ?_
      refine lv_lload_n hx hb dX1_add_82 rfl (lv_at hl 3 rfl) ?_
      refine lv_lor hx hb dX1_add_83 ?_
      refine va_put (D := (dC, dI)) (ci := 1) (v := .long (w4 ||| v2)) (ty := .long) (C := RX1) (T := TX1) (N := 6) hx hb hts inX1 tyX1 tyX1_ok nmX1 hown hK hP hD hS 0 rfl rfl 4 (by decide) (hts _ mw_696) (fun _ h9 => h9) rfl (by decide +kernel) rfl rfl (Nat.le_of_ble_eq_true rfl) dX1_add_84 (fun H locs hP hD hS => ?_)
      obtain ⟨hP, hD⟩ := va_bo [(h, .inr (1, [.int w0, .int w1, .ref nu, .int (nI (mn + 1)), .long (w4 ||| v2), .int w5])), (nu, .inl (ca 0, bl, .inl (upd N1 i v1)))] hP hD
      refine W.widen (k := 0) (n := 0) (Nat.le_of_ble_eq_true rfl) (Nat.le_of_ble_eq_true rfl) ?_
      have hP9 : va_P (dC, dI) vwCl [(h, .inr (1, [.int w0, .int w1, .ref nu, .int (nI (mn + 1)), .long (w4 ||| v2), .int w5])), (nu, .inl (ca 0, bl, .inl (upd N1 i v1)))] H := va_P.sub hP [0, 1] rfl
      have hD9 : va_D A [(h, .inr (1, [.int w0, .int w1, .ref nu, .int (nI (mn + 1)), .long (w4 ||| v2), .int w5])), (nu, .inl (ca 0, bl, .inl (upd N1 i v1)))] := va_D.sub hD [0, 1] (by decide) rfl
      exact W.vret hx hb hr (fun t ht hW => ⟨⟨(mn + 1, (w4 ||| v2), (upd N1 i v1)), rfl, (by omega), by rw [ht]; dsimp only; exact hP9, by dsimp only; exact hD9⟩, hS.F ht⟩) hS.2.2 dX1_add_87
    · have nc_2 : ¬ (i ≤ 0) := fun h9 => c_2 ((nI_leI (a := i) (b := 0) (by omega) (by omega)).mpr h9)
      refine lv_aload_n hx hb dX1_add_24 rfl (lv_at hl 1 rfl) ?_
      refine va_get (D := (dC, dI)) (ci := 1) (v := .ref nu) (C := RX1) (T := TX1) (N := 6) hx hb hts inX1 hown hK hP 0 rfl rfl 2 (by decide) (hts _ mw_694) (fun _ h9 => h9) rfl dX1_add_25 ?_
      refine lv_iload hx hb dX1_add_28 (lv_at hl 0 rfl) ?_
      refine lv_iconst (v := 1) hx hb dX1_add_30 (by decide) ?_
      refine lv_isub hx hb dX1_add_31 ?_
      refine lv_topi (fun y_ e_ => ?_)
      obtain rfl : y_ = (nI (i - 1)) := e_.trans (pk_sub (show 1 ≤ i by omega))
      refine va_iald hx hb hK hP 1 0 rfl rfl (vp_in_nI (show i - 1 < bl by omega) (by first | decide | omega)) dX1_add_32 ?_
      refine lv_topi (fun y_ e_ => ?_)
      obtain rfl : y_ = (N1 (i - 1)) := e_.trans (congrArg N1 (show ((nI (i - 1)) : Int32).toNatClampNeg = i - 1 from nI_clamp (by omega)))
      refine lv_iload_n hx hb dX1_add_33 rfl (lv_at hl 2 rfl) ?_
      refine lv_icmp_le (tgt := 59) hx hb dX1_add_34 (by decide) (fun c_3 => ?_) (fun c_3 => ?_)
      · refine lv_aload_n hx hb dX1_add_59 rfl (lv_at hl 1 rfl) ?_
        refine va_get (D := (dC, dI)) (ci := 1) (v := .ref nu) (C := RX1) (T := TX1) (N := 6) hx hb hts inX1 hown hK hP 0 rfl rfl 2 (by decide) (hts _ mw_694) (fun _ h9 => h9) rfl dX1_add_60 ?_
        refine lv_iload hx hb dX1_add_63 (lv_at hl 0 rfl) ?_
        refine lv_iload_n hx hb dX1_add_65 rfl (lv_at hl 2 rfl) ?_
        refine va_iast hx hb hK hP hD hS 1 0 rfl rfl (vp_in_nI (show i < bl by omega) (by first | decide | omega)) dX1_add_66 (fun H locs hP hD hS => ?_)
        rw [(show ((nI i) : Int32).toNatClampNeg = i from nI_clamp (by omega))] at hP hD
        obtain ⟨hP, hD⟩ := va_bo [(h, .inr (1, [.int w0, .int w1, .ref nu, .int (nI mn), .long w4, .int w5])), (nu, .inl (ca 0, bl, .inl (upd N1 i v1)))] hP hD
        refine lv_aload_n hx hb dX1_add_67 rfl (lv_at hl 1 rfl) ?_
        refine lv_dup hx hb dX1_add_68 rfl ?_
        refine va_get (D := (dC, dI)) (ci := 1) (v := .int (nI mn)) (C := RX1) (T := TX1) (N := 6) hx hb hts inX1 hown hK hP 0 rfl rfl 3 (by decide) (hts _ mw_695) (fun _ h9 => h9) rfl dX1_add_69 ?_
        refine lv_iconst (v := 1) hx hb dX1_add_72 (by decide) ?_
        refine lv_iadd hx hb dX1_add_73 ?_
        refine lv_topi (fun y_ e_ => ?_)
        obtain rfl : y_ = (nI (mn + 1)) := e_.trans (nI_add (mn) (1))
        refine va_put (D := (dC, dI)) (ci := 1) (v := .int (nI (mn + 1))) (ty := .int) (C := RX1) (T := TX1) (N := 6) hx hb hts inX1 tyX1 tyX1_ok nmX1 hown hK hP hD hS 0 rfl rfl 3 (by decide) (hts _ mw_695) (fun _ h9 => h9) rfl (by decide +kernel) rfl rfl (Nat.le_of_ble_eq_true rfl) dX1_add_74 (fun H locs hP hD hS => ?_)
        obtain ⟨hP, hD⟩ := va_bo [(h, .inr (1, [.int w0, .int w1, .ref nu, .int (nI (mn + 1)), .long w4, .int w5])), (nu, .inl (ca 0, bl, .inl (upd N1 i v1)))] hP hD
        refine lv_aload_n hx hb dX1_add_77 rfl (lv_at hl 1 rfl) ?_
        refine lv_dup hx hb dX1_add_78 rfl ?_
        refine va_get (D := (dC, dI)) (ci := 1) (v := .long w4) (C := RX1) (T := TX1) (N := 6) hx hb hts inX1 hown hK hP 0 rfl rfl 4 (by decide) (hts _ mw_696) (fun _ h9 => h9) rfl dX1_add_79 ?_
        refine lv_lload_n hx hb dX1_add_82 rfl (lv_at hl 3 rfl) ?_
        refine lv_lor hx hb dX1_add_83 ?_
        refine va_put (D := (dC, dI)) (ci := 1) (v := .long (w4 ||| v2)) (ty := .long) (C := RX1) (T := TX1) (N := 6) hx hb hts inX1 tyX1 tyX1_ok nmX1 hown hK hP hD hS 0 rfl rfl 4 (by decide) (hts _ mw_696) (fun _ h9 => h9) rfl (by decide +kernel) rfl rfl (Nat.le_of_ble_eq_true rfl) dX1_add_84 (fun H locs hP hD hS => ?_)
        obtain ⟨hP, hD⟩ := va_bo [(h, .inr (1, [.int w0, .int w1, .ref nu, .int (nI (mn + 1)), .long (w4 ||| v2), .int w5])), (nu, .inl (ca 0, bl, .inl (upd N1 i v1)))] hP hD
        refine W.widen (k := 0) (n := 0) (Nat.le_of_ble_eq_true rfl) (Nat.le_of_ble_eq_true rfl) ?_
        have hP9 : va_P (dC, dI) vwCl [(h, .inr (1, [.int w0, .int w1, .ref nu, .int (nI (mn + 1)), .long (w4 ||| v2), .int w5])), (nu, .inl (ca 0, bl, .inl (upd N1 i v1)))] H := va_P.sub hP [0, 1] rfl
        have hD9 : va_D A [(h, .inr (1, [.int w0, .int w1, .ref nu, .int (nI (mn + 1)), .long (w4 ||| v2), .int w5])), (nu, .inl (ca 0, bl, .inl (upd N1 i v1)))] := va_D.sub hD [0, 1] (by decide) rfl
        exact W.vret hx hb hr (fun t ht hW => ⟨⟨(mn + 1, (w4 ||| v2), (upd N1 i v1)), rfl, (by omega), by rw [ht]; dsimp only; exact hP9, by dsimp only; exact hD9⟩, hS.F ht⟩) hS.2.2 dX1_add_87
      · refine lv_aload_n hx hb dX1_add_37 rfl (lv_at hl 1 rfl) ?_
        refine va_get (D := (dC, dI)) (ci := 1) (v := .ref nu) (C := RX1) (T := TX1) (N := 6) hx hb hts inX1 hown hK hP 0 rfl rfl 2 (by decide) (hts _ mw_694) (fun _ h9 => h9) rfl dX1_add_38 ?_
        refine lv_iload hx hb dX1_add_41 (lv_at hl 0 rfl) ?_
        refine lv_aload_n hx hb dX1_add_43 rfl (lv_at hl 1 rfl) ?_
        refine va_get (D := (dC, dI)) (ci := 1) (v := .ref nu) (C := RX1) (T := TX1) (N := 6) hx hb hts inX1 hown hK hP 0 rfl rfl 2 (by decide) (hts _ mw_694) (fun _ h9 => h9) rfl dX1_add_44 ?_
        refine lv_iload hx hb dX1_add_47 (lv_at hl 0 rfl) ?_
        refine lv_iconst (v := 1) hx hb dX1_add_49 (by decide) ?_
        refine lv_isub hx hb dX1_add_50 ?_
        refine lv_topi (fun y_ e_ => ?_)
        obtain rfl : y_ = (nI (i - 1)) := e_.trans (pk_sub (show 1 ≤ i by omega))
        refine va_iald hx hb hK hP 1 0 rfl rfl (vp_in_nI (show i - 1 < bl by omega) (by first | decide | omega)) dX1_add_51 ?_
        refine lv_topi (fun y_ e_ => ?_)
        obtain rfl : y_ = (N1 (i - 1)) := e_.trans (congrArg N1 (show ((nI (i - 1)) : Int32).toNatClampNeg = i - 1 from nI_clamp (by omega)))
        refine va_iast hx hb hK hP hD hS 1 0 rfl rfl (vp_in_nI (show i < bl by omega) (by first | decide | omega)) dX1_add_52 (fun H locs hP hD hS => ?_)
        rw [(show ((nI i) : Int32).toNatClampNeg = i from nI_clamp (by omega))] at hP hD
        obtain ⟨hP, hD⟩ := va_bo [(h, .inr (1, [.int w0, .int w1, .ref nu, .int (nI mn), .long w4, .int w5])), (nu, .inl (ca 0, bl, .inl (upd N1 i (N1 (i - 1)))))] hP hD
        refine lv_iinc (v := (nI (i - 1))) (lv' := [(4, .int (nI (i - 1))), (0, .ref h), (1, .int v1), (2, .long v2)]) hx hb dX1_add_53 hl (k := 0) rfl (nI_dec (by omega)) (by decide) rfl (fun ls hl => ?_)
        refine lv_goto (tgt := 19) hx hb dX1_add_56 (by decide) ?_
        exact ih (i - 1, (upd N1 i (N1 (i - 1)))) _ _ _ (by omega) ⟨(by omega), hP, hD, hS, lv_sub hl [0, 1, 2, 3] rfl⟩
  · have nc_1 : ¬ (mn < bl) := fun h9 => c_1 ((nI_ltI (a := mn) (b := bl) (by omega) (by omega)).mpr h9)
    refine W.widen (k := 0) (n := 0) (Nat.le_of_ble_eq_true rfl) (Nat.le_of_ble_eq_true rfl) ?_
    have hP9 : va_P (dC, dI) vwCl [(h, .inr (1, [.int w0, .int w1, .ref nu, .int (nI mn), .long w4, .int w5])), (nu, .inl (ca 0, bl, .inl NB))] s.heap := va_P.sub hP [0, 1] rfl
    have hD9 : va_D A [(h, .inr (1, [.int w0, .int w1, .ref nu, .int (nI mn), .long w4, .int w5])), (nu, .inl (ca 0, bl, .inl NB))] := va_D.sub hD [0, 1] (by decide) rfl
    exact W.vret hx hb hr (fun t ht hW => ⟨⟨(mn, w4, NB), rfl, (by omega), by rw [ht]; dsimp only; exact hP9, by dsimp only; exact hD9⟩, hS.F ht⟩) hS.2.2 dX1_add_12
