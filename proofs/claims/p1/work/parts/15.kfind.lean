set_option maxHeartbeats 4000000 in
set_option maxRecDepth 100000 in
theorem k_findLot (l : Launch) (dC : Nat → ClassId) (dI : Nat → Nat → Nat) (x : Nat) (a : Nat → Nat) (cy : Nat → ClassId) (v1 : Int32) : Met l yX10_findLot (Cond.code yX10_findLot cX10_findLot 2 (some (.object "SugarKitchen$Lot")) :: gT) ({ frames := 2, cells := 0, slots := 0, locals := 82 }) (va_Pc [.ref x, .int v1] (pu (dC, dI) [(x, .inr (10, (kO a)))] [])) (va_Sq (fun r => r = none)) 0 0 (fun _ => False) := by
  refine Met.ofW (cc := cX10_findLot) (maxL := 2) (ret := (some (.object "SugarKitchen$Lot"))) (by decide) rfl ?_
  intro p e s m args below meth c s₁ B hml hv
  obtain ⟨rfl, hP, hK, hE⟩ := hv
  have hx := B.exec
  have hb := B.bytes
  have hr := B.returns
  have hts : ∀ w ∈ gT, w.before _ s = true := fun w h => atoms_spec (ws := Cond.code yX10_findLot cX10_findLot 2 (some (.object "SugarKitchen$Lot")) :: gT) B.pre w (List.mem_cons_of_mem _ h)
  have hown : s.vm.findClass RX10 = some m.cls := findClass_of_methodNamed B.named
  have hlocks := B.notSynchronized
  have hl := lv_entry ([.ref x, .int v1]) (n := 2) (Nat.le_of_ble_eq_true rfl)
  rw [lg_entry_eq]
  generalize (lg_sl ([.ref x, .int v1]) ++ List.replicate (2 - (lg_sl ([.ref x, .int v1])).length) Slot.unset).toArray = ls at hl ⊢
  have hl : lv_has ls 2 [(0, .ref x), (1, .int v1)] := hl
  refine lv_iload_n hx hb dX10_findLot_0 rfl (lv_at hl 1 rfl) ?_
  refine lv_iconst (v := 0) hx hb dX10_findLot_1 (by decide) ?_
  refine lv_aload_n hx hb dX10_findLot_2 rfl (lv_at hl 0 rfl) ?_
  refine va_get (D := (dC, dI)) (ci := 10) (v := .int 0) (C := RX10) (T := TX10) (N := 15) hx hb hts inX10 hown hK hP 0 rfl rfl 1 (by decide) (hts _ mw_202) (fun _ h9 => h9) rfl dX10_findLot_3 ?_
  refine lv_iconst (v := 1) hx hb dX10_findLot_6 (by decide) ?_
  refine lv_isub hx hb dX10_findLot_7 ?_
  refine lv_topi (fun y_ e_ => ?_)
  obtain rfl : y_ = (-1) := e_.trans (by decide)
  have hPc := hP.sub (ws' := []) [] rfl
  have hKc := hK.sub (tys' := []) [] rfl
  refine pc_i (va_runS (As := [.int v1, .int 0, .int (-1)]) (rest := []) ⟨hx, hb, hml, hown, hts⟩ (c_within l dC dI v1 0 (-1)) (⟨callB_of 3 hts (gd mw_254) rfl rfl rfl (hts _ mw_1) (hts _ mw_252) ds_X10_within ⟨Nat.le_of_ble_eq_true rfl, Nat.le_of_ble_eq_true rfl⟩, (hts _ mw_253)⟩) (pu_S hPc hKc hE) rfl rfl hl.1 rfl (lv_room (Nat.le_of_ble_eq_true rfl)) dX10_findLot_8 ⟨Nat.le_of_ble_eq_true rfl, Nat.le_of_ble_eq_true rfl⟩) (fun r_ hw_ => ?_)
  obtain rfl : r_ = 0 := hw_.trans (wi_e _)
  refine lv_if_eq (tgt := 23) hx hb dX10_findLot_11 (by decide) (fun c_ => ?_) (fun c_ => absurd c_ (by decide))
  refine lv_null hx hb dX10_findLot_23 ?_
  exact W.aret (v := .null) hx hb hr (Or.inl ⟨_, rfl⟩) (Or.inl rfl) (fun t ht hW => ⟨none, rfl, rfl, ht⟩) (fun q h => absurd h List.not_mem_nil) dX10_findLot_24

set_option maxHeartbeats 4000000 in
set_option maxRecDepth 100000 in
theorem k_findBatch (l : Launch) (dC : Nat → ClassId) (dI : Nat → Nat → Nat) (x : Nat) (a : Nat → Nat) (cy : Nat → ClassId) (v1 : Int32) : Met l yX10_findBatch (Cond.code yX10_findBatch cX10_findBatch 2 (some (.object "SugarKitchen$Batch")) :: gT) ({ frames := 2, cells := 0, slots := 0, locals := 82 }) (va_Pc [.ref x, .int v1] (pu (dC, dI) [(x, .inr (10, (kO a)))] [])) (va_Sq (fun r => r = none)) 0 0 (fun _ => False) := by
  refine Met.ofW (cc := cX10_findBatch) (maxL := 2) (ret := (some (.object "SugarKitchen$Batch"))) (by decide) rfl ?_
  intro p e s m args below meth c s₁ B hml hv
  obtain ⟨rfl, hP, hK, hE⟩ := hv
  have hx := B.exec
  have hb := B.bytes
  have hr := B.returns
  have hts : ∀ w ∈ gT, w.before _ s = true := fun w h => atoms_spec (ws := Cond.code yX10_findBatch cX10_findBatch 2 (some (.object "SugarKitchen$Batch")) :: gT) B.pre w (List.mem_cons_of_mem _ h)
  have hown : s.vm.findClass RX10 = some m.cls := findClass_of_methodNamed B.named
  have hlocks := B.notSynchronized
  have hl := lv_entry ([.ref x, .int v1]) (n := 2) (Nat.le_of_ble_eq_true rfl)
  rw [lg_entry_eq]
  generalize (lg_sl ([.ref x, .int v1]) ++ List.replicate (2 - (lg_sl ([.ref x, .int v1])).length) Slot.unset).toArray = ls at hl ⊢
  have hl : lv_has ls 2 [(0, .ref x), (1, .int v1)] := hl
  refine lv_iload_n hx hb dX10_findBatch_0 rfl (lv_at hl 1 rfl) ?_
  refine lv_iconst (v := 0) hx hb dX10_findBatch_1 (by decide) ?_
  refine lv_aload_n hx hb dX10_findBatch_2 rfl (lv_at hl 0 rfl) ?_
  refine va_get (D := (dC, dI)) (ci := 10) (v := .int 0) (C := RX10) (T := TX10) (N := 15) hx hb hts inX10 hown hK hP 0 rfl rfl 3 (by decide) (hts _ mw_204) (fun _ h9 => h9) rfl dX10_findBatch_3 ?_
  refine lv_iconst (v := 1) hx hb dX10_findBatch_6 (by decide) ?_
  refine lv_isub hx hb dX10_findBatch_7 ?_
  refine lv_topi (fun y_ e_ => ?_)
  obtain rfl : y_ = (-1) := e_.trans (by decide)
  have hPc := hP.sub (ws' := []) [] rfl
  have hKc := hK.sub (tys' := []) [] rfl
  refine pc_i (va_runS (As := [.int v1, .int 0, .int (-1)]) (rest := []) ⟨hx, hb, hml, hown, hts⟩ (c_within l dC dI v1 0 (-1)) (⟨callB_of 3 hts (gd mw_254) rfl rfl rfl (hts _ mw_1) (hts _ mw_252) ds_X10_within ⟨Nat.le_of_ble_eq_true rfl, Nat.le_of_ble_eq_true rfl⟩, (hts _ mw_253)⟩) (pu_S hPc hKc hE) rfl rfl hl.1 rfl (lv_room (Nat.le_of_ble_eq_true rfl)) dX10_findBatch_8 ⟨Nat.le_of_ble_eq_true rfl, Nat.le_of_ble_eq_true rfl⟩) (fun r_ hw_ => ?_)
  obtain rfl : r_ = 0 := hw_.trans (wi_e _)
  refine lv_if_eq (tgt := 23) hx hb dX10_findBatch_11 (by decide) (fun c_ => ?_) (fun c_ => absurd c_ (by decide))
  refine lv_null hx hb dX10_findBatch_23 ?_
  exact W.aret (v := .null) hx hb hr (Or.inl ⟨_, rfl⟩) (Or.inl rfl) (fun t ht hW => ⟨none, rfl, rfl, ht⟩) (fun q h => absurd h List.not_mem_nil) dX10_findBatch_24

set_option maxHeartbeats 4000000 in
set_option maxRecDepth 100000 in
theorem k_findPiece (l : Launch) (dC : Nat → ClassId) (dI : Nat → Nat → Nat) (x : Nat) (a : Nat → Nat) (cy : Nat → ClassId) (v1 : Int32) : Met l yX10_findPiece (Cond.code yX10_findPiece cX10_findPiece 2 (some (.object "SugarKitchen$Piece")) :: gT) ({ frames := 2, cells := 0, slots := 0, locals := 82 }) (va_Pc [.ref x, .int v1] (pu (dC, dI) [(x, .inr (10, (kO a)))] [])) (va_Sq (fun r => r = none)) 0 0 (fun _ => False) := by
  refine Met.ofW (cc := cX10_findPiece) (maxL := 2) (ret := (some (.object "SugarKitchen$Piece"))) (by decide) rfl ?_
  intro p e s m args below meth c s₁ B hml hv
  obtain ⟨rfl, hP, hK, hE⟩ := hv
  have hx := B.exec
  have hb := B.bytes
  have hr := B.returns
  have hts : ∀ w ∈ gT, w.before _ s = true := fun w h => atoms_spec (ws := Cond.code yX10_findPiece cX10_findPiece 2 (some (.object "SugarKitchen$Piece")) :: gT) B.pre w (List.mem_cons_of_mem _ h)
  have hown : s.vm.findClass RX10 = some m.cls := findClass_of_methodNamed B.named
  have hlocks := B.notSynchronized
  have hl := lv_entry ([.ref x, .int v1]) (n := 2) (Nat.le_of_ble_eq_true rfl)
  rw [lg_entry_eq]
  generalize (lg_sl ([.ref x, .int v1]) ++ List.replicate (2 - (lg_sl ([.ref x, .int v1])).length) Slot.unset).toArray = ls at hl ⊢
  have hl : lv_has ls 2 [(0, .ref x), (1, .int v1)] := hl
  refine lv_iload_n hx hb dX10_findPiece_0 rfl (lv_at hl 1 rfl) ?_
  refine lv_iconst (v := 0) hx hb dX10_findPiece_1 (by decide) ?_
  refine lv_aload_n hx hb dX10_findPiece_2 rfl (lv_at hl 0 rfl) ?_
  refine va_get (D := (dC, dI)) (ci := 10) (v := .int 0) (C := RX10) (T := TX10) (N := 15) hx hb hts inX10 hown hK hP 0 rfl rfl 5 (by decide) (hts _ mw_206) (fun _ h9 => h9) rfl dX10_findPiece_3 ?_
  refine lv_iconst (v := 1) hx hb dX10_findPiece_6 (by decide) ?_
  refine lv_isub hx hb dX10_findPiece_7 ?_
  refine lv_topi (fun y_ e_ => ?_)
  obtain rfl : y_ = (-1) := e_.trans (by decide)
  have hPc := hP.sub (ws' := []) [] rfl
  have hKc := hK.sub (tys' := []) [] rfl
  refine pc_i (va_runS (As := [.int v1, .int 0, .int (-1)]) (rest := []) ⟨hx, hb, hml, hown, hts⟩ (c_within l dC dI v1 0 (-1)) (⟨callB_of 3 hts (gd mw_254) rfl rfl rfl (hts _ mw_1) (hts _ mw_252) ds_X10_within ⟨Nat.le_of_ble_eq_true rfl, Nat.le_of_ble_eq_true rfl⟩, (hts _ mw_253)⟩) (pu_S hPc hKc hE) rfl rfl hl.1 rfl (lv_room (Nat.le_of_ble_eq_true rfl)) dX10_findPiece_8 ⟨Nat.le_of_ble_eq_true rfl, Nat.le_of_ble_eq_true rfl⟩) (fun r_ hw_ => ?_)
  obtain rfl : r_ = 0 := hw_.trans (wi_e _)
  refine lv_if_eq (tgt := 23) hx hb dX10_findPiece_11 (by decide) (fun c_ => ?_) (fun c_ => absurd c_ (by decide))
  refine lv_null hx hb dX10_findPiece_23 ?_
  exact W.aret (v := .null) hx hb hr (Or.inl ⟨_, rfl⟩) (Or.inl rfl) (fun t ht hW => ⟨none, rfl, rfl, ht⟩) (fun q h => absurd h List.not_mem_nil) dX10_findPiece_24

set_option maxHeartbeats 4000000 in
set_option maxRecDepth 100000 in
theorem k_findBox (l : Launch) (dC : Nat → ClassId) (dI : Nat → Nat → Nat) (x : Nat) (a : Nat → Nat) (cy : Nat → ClassId) (v1 : Int32) : Met l yX10_findBox (Cond.code yX10_findBox cX10_findBox 2 (some (.object "SugarKitchen$Box")) :: gT) ({ frames := 2, cells := 0, slots := 0, locals := 82 }) (va_Pc [.ref x, .int v1] (pu (dC, dI) [(x, .inr (10, (kO a)))] [])) (va_Sq (fun r => r = none)) 0 0 (fun _ => False) := by
  refine Met.ofW (cc := cX10_findBox) (maxL := 2) (ret := (some (.object "SugarKitchen$Box"))) (by decide) rfl ?_
  intro p e s m args below meth c s₁ B hml hv
  obtain ⟨rfl, hP, hK, hE⟩ := hv
  have hx := B.exec
  have hb := B.bytes
  have hr := B.returns
  have hts : ∀ w ∈ gT, w.before _ s = true := fun w h => atoms_spec (ws := Cond.code yX10_findBox cX10_findBox 2 (some (.object "SugarKitchen$Box")) :: gT) B.pre w (List.mem_cons_of_mem _ h)
  have hown : s.vm.findClass RX10 = some m.cls := findClass_of_methodNamed B.named
  have hlocks := B.notSynchronized
  have hl := lv_entry ([.ref x, .int v1]) (n := 2) (Nat.le_of_ble_eq_true rfl)
  rw [lg_entry_eq]
  generalize (lg_sl ([.ref x, .int v1]) ++ List.replicate (2 - (lg_sl ([.ref x, .int v1])).length) Slot.unset).toArray = ls at hl ⊢
  have hl : lv_has ls 2 [(0, .ref x), (1, .int v1)] := hl
  refine lv_iload_n hx hb dX10_findBox_0 rfl (lv_at hl 1 rfl) ?_
  refine lv_iconst (v := 0) hx hb dX10_findBox_1 (by decide) ?_
  refine lv_aload_n hx hb dX10_findBox_2 rfl (lv_at hl 0 rfl) ?_
  refine va_get (D := (dC, dI)) (ci := 10) (v := .int 0) (C := RX10) (T := TX10) (N := 15) hx hb hts inX10 hown hK hP 0 rfl rfl 7 (by decide) (hts _ mw_208) (fun _ h9 => h9) rfl dX10_findBox_3 ?_
  refine lv_iconst (v := 1) hx hb dX10_findBox_6 (by decide) ?_
  refine lv_isub hx hb dX10_findBox_7 ?_
  refine lv_topi (fun y_ e_ => ?_)
  obtain rfl : y_ = (-1) := e_.trans (by decide)
  have hPc := hP.sub (ws' := []) [] rfl
  have hKc := hK.sub (tys' := []) [] rfl
  refine pc_i (va_runS (As := [.int v1, .int 0, .int (-1)]) (rest := []) ⟨hx, hb, hml, hown, hts⟩ (c_within l dC dI v1 0 (-1)) (⟨callB_of 3 hts (gd mw_254) rfl rfl rfl (hts _ mw_1) (hts _ mw_252) ds_X10_within ⟨Nat.le_of_ble_eq_true rfl, Nat.le_of_ble_eq_true rfl⟩, (hts _ mw_253)⟩) (pu_S hPc hKc hE) rfl rfl hl.1 rfl (lv_room (Nat.le_of_ble_eq_true rfl)) dX10_findBox_8 ⟨Nat.le_of_ble_eq_true rfl, Nat.le_of_ble_eq_true rfl⟩) (fun r_ hw_ => ?_)
  obtain rfl : r_ = 0 := hw_.trans (wi_e _)
  refine lv_if_eq (tgt := 23) hx hb dX10_findBox_11 (by decide) (fun c_ => ?_) (fun c_ => absurd c_ (by decide))
  refine lv_null hx hb dX10_findBox_23 ?_
  exact W.aret (v := .null) hx hb hr (Or.inl ⟨_, rfl⟩) (Or.inl rfl) (fun t ht hW => ⟨none, rfl, rfl, ht⟩) (fun q h => absurd h List.not_mem_nil) dX10_findBox_24

set_option maxHeartbeats 4000000 in
set_option maxRecDepth 100000 in
theorem k_findRaw (l : Launch) (dC : Nat → ClassId) (dI : Nat → Nat → Nat) (x : Nat) (a : Nat → Nat) (cy : Nat → ClassId) (v1 : Int32) : Met l yX10_findRaw (Cond.code yX10_findRaw cX10_findRaw 3 (some (.object "SugarKitchen$Batch")) :: gT) ({ frames := 3, cells := 0, slots := 0, locals := 103 }) (va_Pc [.ref x, .int v1] (pu (dC, dI) [(x, .inr (10, (kO a)))] [])) (va_Sq (fun r => r = none)) 0 0 (fun _ => False) := by
  refine Met.ofW (cc := cX10_findRaw) (maxL := 3) (ret := (some (.object "SugarKitchen$Batch"))) (by decide) rfl ?_
  intro p e s m args below meth c s₁ B hml hv
  obtain ⟨rfl, hP, hK, hE⟩ := hv
  have hx := B.exec
  have hb := B.bytes
  have hr := B.returns
  have hts : ∀ w ∈ gT, w.before _ s = true := fun w h => atoms_spec (ws := Cond.code yX10_findRaw cX10_findRaw 3 (some (.object "SugarKitchen$Batch")) :: gT) B.pre w (List.mem_cons_of_mem _ h)
  have hown : s.vm.findClass RX10 = some m.cls := findClass_of_methodNamed B.named
  have hlocks := B.notSynchronized
  have hl := lv_entry ([.ref x, .int v1]) (n := 3) (Nat.le_of_ble_eq_true rfl)
  rw [lg_entry_eq]
  generalize (lg_sl ([.ref x, .int v1]) ++ List.replicate (3 - (lg_sl ([.ref x, .int v1])).length) Slot.unset).toArray = ls at hl ⊢
  have hl : lv_has ls 3 [(0, .ref x), (1, .int v1)] := hl
  refine lv_aload_n hx hb dX10_findRaw_0 rfl (lv_at hl 0 rfl) ?_
  refine lv_iload_n hx hb dX10_findRaw_1 rfl (lv_at hl 1 rfl) ?_
  have hPc := hP.sub (ws' := [(x, .inr (10, (kO a)))]) [0] rfl
  have hKc := hK.sub (tys' := []) [] rfl
  refine pc_q (va_runV (As := [.int v1]) (rest := []) ⟨hx, hb, hml, hown, hts⟩ (k_findBatch l dC dI x a cy v1) (⟨callB_of 1 hts (gd mw_378) rfl rfl rfl (hts _ mw_1) (hts _ mw_375) ds_X10_findBatch ⟨Nat.le_of_ble_eq_true rfl, Nat.le_of_ble_eq_true rfl⟩, (hts _ mw_377), (hts _ mp_1)⟩) (pu_V hPc hKc hE (va_recv hKc hPc (ci := 10) (q0 := 0) rfl rfl)) rfl rfl hl.1 rfl (lv_room (Nat.le_of_ble_eq_true rfl)) dX10_findRaw_2 ⟨Nat.le_of_ble_eq_true rfl, Nat.le_of_ble_eq_true rfl⟩) (fun r_ hw_ => ?_)
  obtain rfl : r_ = none := hw_
  refine W.eq (g2 := F0 m 5 ls [.null]) rfl ?_
  refine lv_astore_nN (lv' := [(2, .null), (0, .ref x), (1, .int v1)]) hx hb dX10_findRaw_5 rfl hl (by decide) rfl (fun ls hl => ?_)
  refine lv_aload_nN hx hb dX10_findRaw_6 rfl (lv_at hl 0 rfl) ?_
  refine lv_ifnullN (tgt := 17) hx hb dX10_findRaw_7 (by decide) ?_
  refine lv_null hx hb dX10_findRaw_17 ?_
  refine lv_goto (tgt := 22) hx hb dX10_findRaw_18 (by decide) ?_
  exact W.aret (v := .null) hx hb hr (Or.inl ⟨_, rfl⟩) (Or.inl rfl) (fun t ht hW => ⟨none, rfl, rfl, ht⟩) (fun q h => absurd h List.not_mem_nil) dX10_findRaw_22

set_option maxHeartbeats 4000000 in
set_option maxRecDepth 100000 in
theorem k_findGood (l : Launch) (dC : Nat → ClassId) (dI : Nat → Nat → Nat) (x : Nat) (a : Nat → Nat) (cy : Nat → ClassId) (v1 : Int32) : Met l yX10_findGood (Cond.code yX10_findGood cX10_findGood 3 (some (.object "SugarKitchen$Batch")) :: gT) ({ frames := 3, cells := 0, slots := 0, locals := 103 }) (va_Pc [.ref x, .int v1] (pu (dC, dI) [(x, .inr (10, (kO a)))] [])) (va_Sq (fun r => r = none)) 0 0 (fun _ => False) := by
  refine Met.ofW (cc := cX10_findGood) (maxL := 3) (ret := (some (.object "SugarKitchen$Batch"))) (by decide) rfl ?_
  intro p e s m args below meth c s₁ B hml hv
  obtain ⟨rfl, hP, hK, hE⟩ := hv
  have hx := B.exec
  have hb := B.bytes
  have hr := B.returns
  have hts : ∀ w ∈ gT, w.before _ s = true := fun w h => atoms_spec (ws := Cond.code yX10_findGood cX10_findGood 3 (some (.object "SugarKitchen$Batch")) :: gT) B.pre w (List.mem_cons_of_mem _ h)
  have hown : s.vm.findClass RX10 = some m.cls := findClass_of_methodNamed B.named
  have hlocks := B.notSynchronized
  have hl := lv_entry ([.ref x, .int v1]) (n := 3) (Nat.le_of_ble_eq_true rfl)
  rw [lg_entry_eq]
  generalize (lg_sl ([.ref x, .int v1]) ++ List.replicate (3 - (lg_sl ([.ref x, .int v1])).length) Slot.unset).toArray = ls at hl ⊢
  have hl : lv_has ls 3 [(0, .ref x), (1, .int v1)] := hl
  refine lv_aload_n hx hb dX10_findGood_0 rfl (lv_at hl 0 rfl) ?_
  refine lv_iload_n hx hb dX10_findGood_1 rfl (lv_at hl 1 rfl) ?_
  have hPc := hP.sub (ws' := [(x, .inr (10, (kO a)))]) [0] rfl
  have hKc := hK.sub (tys' := []) [] rfl
  refine pc_q (va_runV (As := [.int v1]) (rest := []) ⟨hx, hb, hml, hown, hts⟩ (k_findBatch l dC dI x a cy v1) (⟨callB_of 1 hts (gd mw_378) rfl rfl rfl (hts _ mw_1) (hts _ mw_375) ds_X10_findBatch ⟨Nat.le_of_ble_eq_true rfl, Nat.le_of_ble_eq_true rfl⟩, (hts _ mw_377), (hts _ mp_1)⟩) (pu_V hPc hKc hE (va_recv hKc hPc (ci := 10) (q0 := 0) rfl rfl)) rfl rfl hl.1 rfl (lv_room (Nat.le_of_ble_eq_true rfl)) dX10_findGood_2 ⟨Nat.le_of_ble_eq_true rfl, Nat.le_of_ble_eq_true rfl⟩) (fun r_ hw_ => ?_)
  obtain rfl : r_ = none := hw_
  refine W.eq (g2 := F0 m 5 ls [.null]) rfl ?_
  refine lv_astore_nN (lv' := [(2, .null), (0, .ref x), (1, .int v1)]) hx hb dX10_findGood_5 rfl hl (by decide) rfl (fun ls hl => ?_)
  refine lv_aload_nN hx hb dX10_findGood_6 rfl (lv_at hl 0 rfl) ?_
  refine lv_ifnullN (tgt := 21) hx hb dX10_findGood_7 (by decide) ?_
  refine lv_null hx hb dX10_findGood_21 ?_
  refine lv_goto (tgt := 26) hx hb dX10_findGood_22 (by decide) ?_
  exact W.aret (v := .null) hx hb hr (Or.inl ⟨_, rfl⟩) (Or.inl rfl) (fun t ht hW => ⟨none, rfl, rfl, ht⟩) (fun q h => absurd h List.not_mem_nil) dX10_findGood_26

set_option maxHeartbeats 4000000 in
set_option maxRecDepth 100000 in
theorem k_findUnboxed (l : Launch) (dC : Nat → ClassId) (dI : Nat → Nat → Nat) (x : Nat) (a : Nat → Nat) (cy : Nat → ClassId) (v1 : Int32) : Met l yX10_findUnboxed (Cond.code yX10_findUnboxed cX10_findUnboxed 3 (some (.object "SugarKitchen$Piece")) :: gT) ({ frames := 3, cells := 0, slots := 0, locals := 103 }) (va_Pc [.ref x, .int v1] (pu (dC, dI) [(x, .inr (10, (kO a)))] [])) (va_Sq (fun r => r = none)) 0 0 (fun _ => False) := by
  refine Met.ofW (cc := cX10_findUnboxed) (maxL := 3) (ret := (some (.object "SugarKitchen$Piece"))) (by decide) rfl ?_
  intro p e s m args below meth c s₁ B hml hv
  obtain ⟨rfl, hP, hK, hE⟩ := hv
  have hx := B.exec
  have hb := B.bytes
  have hr := B.returns
  have hts : ∀ w ∈ gT, w.before _ s = true := fun w h => atoms_spec (ws := Cond.code yX10_findUnboxed cX10_findUnboxed 3 (some (.object "SugarKitchen$Piece")) :: gT) B.pre w (List.mem_cons_of_mem _ h)
  have hown : s.vm.findClass RX10 = some m.cls := findClass_of_methodNamed B.named
  have hlocks := B.notSynchronized
  have hl := lv_entry ([.ref x, .int v1]) (n := 3) (Nat.le_of_ble_eq_true rfl)
  rw [lg_entry_eq]
  generalize (lg_sl ([.ref x, .int v1]) ++ List.replicate (3 - (lg_sl ([.ref x, .int v1])).length) Slot.unset).toArray = ls at hl ⊢
  have hl : lv_has ls 3 [(0, .ref x), (1, .int v1)] := hl
  refine lv_aload_n hx hb dX10_findUnboxed_0 rfl (lv_at hl 0 rfl) ?_
  refine lv_iload_n hx hb dX10_findUnboxed_1 rfl (lv_at hl 1 rfl) ?_
  have hPc := hP.sub (ws' := [(x, .inr (10, (kO a)))]) [0] rfl
  have hKc := hK.sub (tys' := []) [] rfl
  refine pc_q (va_runV (As := [.int v1]) (rest := []) ⟨hx, hb, hml, hown, hts⟩ (k_findPiece l dC dI x a cy v1) (⟨callB_of 1 hts (gd mw_596) rfl rfl rfl (hts _ mw_1) (hts _ mw_593) ds_X10_findPiece ⟨Nat.le_of_ble_eq_true rfl, Nat.le_of_ble_eq_true rfl⟩, (hts _ mw_595), (hts _ mp_10)⟩) (pu_V hPc hKc hE (va_recv hKc hPc (ci := 10) (q0 := 0) rfl rfl)) rfl rfl hl.1 rfl (lv_room (Nat.le_of_ble_eq_true rfl)) dX10_findUnboxed_2 ⟨Nat.le_of_ble_eq_true rfl, Nat.le_of_ble_eq_true rfl⟩) (fun r_ hw_ => ?_)
  obtain rfl : r_ = none := hw_
  refine W.eq (g2 := F0 m 5 ls [.null]) rfl ?_
  refine lv_astore_nN (lv' := [(2, .null), (0, .ref x), (1, .int v1)]) hx hb dX10_findUnboxed_5 rfl hl (by decide) rfl (fun ls hl => ?_)
  refine lv_aload_nN hx hb dX10_findUnboxed_6 rfl (lv_at hl 0 rfl) ?_
  refine lv_ifnullN (tgt := 18) hx hb dX10_findUnboxed_7 (by decide) ?_
  refine lv_null hx hb dX10_findUnboxed_18 ?_
  refine lv_goto (tgt := 23) hx hb dX10_findUnboxed_19 (by decide) ?_
  exact W.aret (v := .null) hx hb hr (Or.inl ⟨_, rfl⟩) (Or.inl rfl) (fun t ht hW => ⟨none, rfl, rfl, ht⟩) (fun q h => absurd h List.not_mem_nil) dX10_findUnboxed_23

set_option maxHeartbeats 4000000 in
set_option maxRecDepth 100000 in
theorem k_restart (l : Launch) (dC : Nat → ClassId) (dI : Nat → Nat → Nat) (x : Nat) (a : Nat → Nat) (cy : Nat → ClassId) : Met l yX10_restartCoats (Cond.code yX10_restartCoats cX10_restartCoats 3 none :: gT) ({ frames := 1, cells := 0, slots := 0, locals := 60 }) (va_Pc [.ref x] (pu (dC, dI) [(x, .inr (10, (kO a)))] [])) (va_Sv (fun _ => True)) 0 0 (fun _ => False) := by
  refine Met.ofW (cc := cX10_restartCoats) (maxL := 3) (ret := none) (by decide) rfl ?_
  intro p e s m args below meth c s₁ B hml hv
  obtain ⟨rfl, hP, hK, hE⟩ := hv
  have hx := B.exec
  have hb := B.bytes
  have hr := B.returns
  have hts : ∀ w ∈ gT, w.before _ s = true := fun w h => atoms_spec (ws := Cond.code yX10_restartCoats cX10_restartCoats 3 none :: gT) B.pre w (List.mem_cons_of_mem _ h)
  have hown : s.vm.findClass RX10 = some m.cls := findClass_of_methodNamed B.named
  have hlocks := B.notSynchronized
  have hl := lv_entry ([.ref x]) (n := 3) (Nat.le_of_ble_eq_true rfl)
  rw [lg_entry_eq]
  generalize (lg_sl ([.ref x]) ++ List.replicate (3 - (lg_sl ([.ref x])).length) Slot.unset).toArray = ls at hl ⊢
  have hl : lv_has ls 3 [(0, .ref x)] := hl
  refine lv_iconst (v := 0) hx hb dX10_restartCoats_0 (by decide) ?_
  refine lv_istore_n (lv' := [(1, .int 0), (0, .ref x)]) hx hb dX10_restartCoats_1 rfl hl (by decide) rfl (fun ls hl => ?_)
  refine lv_iload_n hx hb dX10_restartCoats_2 rfl (lv_at hl 0 rfl) ?_
  refine lv_aload_n hx hb dX10_restartCoats_3 rfl (lv_at hl 1 rfl) ?_
  refine va_get (D := (dC, dI)) (ci := 10) (v := .int 0) (C := RX10) (T := TX10) (N := 15) hx hb hts inX10 hown hK hP 0 rfl rfl 3 (by decide) (hts _ mw_204) (fun _ h9 => h9) rfl dX10_restartCoats_4 ?_
  refine lv_icmp_ge (tgt := 36) hx hb dX10_restartCoats_7 (by decide) (fun c_ => ?_) (fun c_ => absurd c_ (by decide))
  exact W.vret hx hb hr (fun t ht hW => ⟨rfl, trivial, ht⟩) (fun q h => absurd h List.not_mem_nil) dX10_restartCoats_36
