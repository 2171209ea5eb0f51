set_option maxHeartbeats 4000000 in
set_option maxRecDepth 100000 in
theorem c_within (l : Launch) (dC : Nat → ClassId) (dI : Nat → Nat → Nat) (v lo hi : Int32) : Met l yX10_within (Cond.code yX10_within cX10_within 3 (some .boolean) :: gT) ({ frames := 1, cells := 0, slots := 0, locals := 60 }) (va_Pc [.int v, .int lo, .int hi] (pu (dC, dI) [] [])) (vp_Si (fun r => r = wi v lo hi)) 0 0 (fun _ => False) := by
  refine Met.ofW (cc := cX10_within) (maxL := 3) (ret := (some .boolean)) (by decide) rfl ?_
  intro p e s m args below meth c s₁ B hml hv
  obtain ⟨rfl, hP, hK, hE⟩ := hv
  have hx := B.exec
  have hb := B.bytes
  have hr := B.returns
  have hts : ∀ w ∈ gT, w.before _ s = true := fun w h => atoms_spec (ws := Cond.code yX10_within cX10_within 3 (some .boolean) :: gT) B.pre w (List.mem_cons_of_mem _ h)
  have hown : s.vm.findClass RX10 = some m.cls := findClass_of_methodNamed B.named
  have hlocks := B.notSynchronized
  have hl := lv_entry ([.int v, .int lo, .int hi]) (n := 3) (Nat.le_of_ble_eq_true rfl)
  rw [lg_entry_eq]
  generalize (lg_sl ([.int v, .int lo, .int hi]) ++ List.replicate (3 - (lg_sl ([.int v, .int lo, .int hi])).length) Slot.unset).toArray = ls at hl ⊢
  have hl : lv_has ls 3 [(0, .int v), (1, .int lo), (2, .int hi)] := hl
  refine lv_iload_n hx hb dX10_within_0 rfl (lv_at hl 0 rfl) ?_
  refine lv_iload_n hx hb dX10_within_1 rfl (lv_at hl 1 rfl) ?_
  refine lv_icmp_lt (tgt := 14) hx hb dX10_within_2 (by decide) (fun c_1 => ?_) (fun c_1 => ?_)
  · refine lv_iconst (v := 0) hx hb dX10_within_14 (by decide) ?_
    exact W.zret (v := 0) (ty := .boolean) hx hb hr rfl (fun t ht hW => ⟨0, rfl, (by first | rfl | (simp [wi, c_1]; done)), ht⟩) (fun q h => absurd h List.not_mem_nil) dX10_within_15
  · refine lv_iload_n hx hb dX10_within_5 rfl (lv_at hl 0 rfl) ?_
    refine lv_iload_n hx hb dX10_within_6 rfl (lv_at hl 2 rfl) ?_
    refine lv_icmp_gt (tgt := 14) hx hb dX10_within_7 (by decide) (fun c_2 => ?_) (fun c_2 => ?_)
    · refine lv_iconst (v := 0) hx hb dX10_within_14 (by decide) ?_
      exact W.zret (v := 0) (ty := .boolean) hx hb hr rfl (fun t ht hW => ⟨0, rfl, (by first | rfl | (simp [wi, c_1, c_2]; done)), ht⟩) (fun q h => absurd h List.not_mem_nil) dX10_within_15
    · refine lv_iconst (v := 1) hx hb dX10_within_10 (by decide) ?_
      refine lv_goto (tgt := 15) hx hb dX10_within_11 (by decide) ?_
      exact W.zret (v := 1) (ty := .boolean) hx hb hr rfl (fun t ht hW => ⟨1, rfl, (by first | rfl | (simp [wi, c_1, c_2]; done)), ht⟩) (fun q h => absurd h List.not_mem_nil) dX10_within_15

set_option maxHeartbeats 4000000 in
set_option maxRecDepth 100000 in
theorem c_isIn (l : Launch) (dC : Nat → ClassId) (dI : Nat → Nat → Nat) (v lo hi : Int32) : Met l yX11_isIn (Cond.code yX11_isIn cX11_isIn 3 (some .boolean) :: gT) ({ frames := 1, cells := 0, slots := 0, locals := 60 }) (va_Pc [.int v, .int lo, .int hi] (pu (dC, dI) [] [])) (vp_Si (fun r => r = wi v lo hi)) 0 0 (fun _ => False) := by
  refine Met.ofW (cc := cX11_isIn) (maxL := 3) (ret := (some .boolean)) (by decide) rfl ?_
  intro p e s m args below meth c s₁ B hml hv
  obtain ⟨rfl, hP, hK, hE⟩ := hv
  have hx := B.exec
  have hb := B.bytes
  have hr := B.returns
  have hts : ∀ w ∈ gT, w.before _ s = true := fun w h => atoms_spec (ws := Cond.code yX11_isIn cX11_isIn 3 (some .boolean) :: gT) B.pre w (List.mem_cons_of_mem _ h)
  have hown : s.vm.findClass RX11 = some m.cls := findClass_of_methodNamed B.named
  have hlocks := B.notSynchronized
  have hl := lv_entry ([.int v, .int lo, .int hi]) (n := 3) (Nat.le_of_ble_eq_true rfl)
  rw [lg_entry_eq]
  generalize (lg_sl ([.int v, .int lo, .int hi]) ++ List.replicate (3 - (lg_sl ([.int v, .int lo, .int hi])).length) Slot.unset).toArray = ls at hl ⊢
  have hl : lv_has ls 3 [(0, .int v), (1, .int lo), (2, .int hi)] := hl
  refine lv_iload_n hx hb dX11_isIn_0 rfl (lv_at hl 0 rfl) ?_
  refine lv_iload_n hx hb dX11_isIn_1 rfl (lv_at hl 1 rfl) ?_
  refine lv_icmp_lt (tgt := 14) hx hb dX11_isIn_2 (by decide) (fun c_1 => ?_) (fun c_1 => ?_)
  · refine lv_iconst (v := 0) hx hb dX11_isIn_14 (by decide) ?_
    exact W.zret (v := 0) (ty := .boolean) hx hb hr rfl (fun t ht hW => ⟨0, rfl, (by first | rfl | (simp [wi, c_1]; done)), ht⟩) (fun q h => absurd h List.not_mem_nil) dX11_isIn_15
  · refine lv_iload_n hx hb dX11_isIn_5 rfl (lv_at hl 0 rfl) ?_
    refine lv_iload_n hx hb dX11_isIn_6 rfl (lv_at hl 2 rfl) ?_
    refine lv_icmp_gt (tgt := 14) hx hb dX11_isIn_7 (by decide) (fun c_2 => ?_) (fun c_2 => ?_)
    · refine lv_iconst (v := 0) hx hb dX11_isIn_14 (by decide) ?_
      exact W.zret (v := 0) (ty := .boolean) hx hb hr rfl (fun t ht hW => ⟨0, rfl, (by first | rfl | (simp [wi, c_1, c_2]; done)), ht⟩) (fun q h => absurd h List.not_mem_nil) dX11_isIn_15
    · refine lv_iconst (v := 1) hx hb dX11_isIn_10 (by decide) ?_
      refine lv_goto (tgt := 15) hx hb dX11_isIn_11 (by decide) ?_
      exact W.zret (v := 1) (ty := .boolean) hx hb hr rfl (fun t ht hW => ⟨1, rfl, (by first | rfl | (simp [wi, c_1, c_2]; done)), ht⟩) (fun q h => absurd h List.not_mem_nil) dX11_isIn_15

set_option maxHeartbeats 4000000 in
set_option maxRecDepth 100000 in
theorem c_isKind (l : Launch) (dC : Nat → ClassId) (dI : Nat → Nat → Nat) (v : Int32) : Met l yX10_isKind (Cond.code yX10_isKind cX10_isKind 1 (some .boolean) :: gT) ({ frames := 2, cells := 0, slots := 0, locals := 82 }) (va_Pc [.int v] (pu (dC, dI) [] [])) (vp_Si (fun r => r = wi v 0 5)) 0 0 (fun _ => False) := by
  refine Met.ofW (cc := cX10_isKind) (maxL := 1) (ret := (some .boolean)) (by decide) rfl ?_
  intro p e s m args below meth c s₁ B hml hv
  obtain ⟨rfl, hP, hK, hE⟩ := hv
  have hx := B.exec
  have hb := B.bytes
  have hr := B.returns
  have hts : ∀ w ∈ gT, w.before _ s = true := fun w h => atoms_spec (ws := Cond.code yX10_isKind cX10_isKind 1 (some .boolean) :: gT) B.pre w (List.mem_cons_of_mem _ h)
  have hown : s.vm.findClass RX10 = some m.cls := findClass_of_methodNamed B.named
  have hlocks := B.notSynchronized
  have hl := lv_entry ([.int v]) (n := 1) (Nat.le_of_ble_eq_true rfl)
  rw [lg_entry_eq]
  generalize (lg_sl ([.int v]) ++ List.replicate (1 - (lg_sl ([.int v])).length) Slot.unset).toArray = ls at hl ⊢
  have hl : lv_has ls 1 [(0, .int v)] := hl
  refine lv_iload_n hx hb dX10_isKind_0 rfl (lv_at hl 0 rfl) ?_
  refine lv_iconst (v := 0) hx hb dX10_isKind_1 (by decide) ?_
  refine lv_iconst (v := 5) hx hb dX10_isKind_2 (by decide) ?_
  have hPc := hP.sub (ws' := []) [] rfl
  have hKc := hK.sub (tys' := []) [] rfl
  refine pc_i (va_runS (As := [.int v, .int 0, .int 5]) (rest := []) ⟨hx, hb, hml, hown, hts⟩ (c_within l dC dI v 0 5) (⟨callB_of 3 hts (gd mw_254) rfl rfl rfl (hts _ mw_1) (hts _ mw_252) ds_X10_within ⟨Nat.le_of_ble_eq_true rfl, Nat.le_of_ble_eq_true rfl⟩, (hts _ mw_253)⟩) (pu_S hPc hKc hE) rfl rfl hl.1 rfl (lv_room (Nat.le_of_ble_eq_true rfl)) dX10_isKind_3 ⟨Nat.le_of_ble_eq_true rfl, Nat.le_of_ble_eq_true rfl⟩) (fun r_ hw_ => ?_)
  obtain rfl : r_ = (wi v 0 5) := hw_
  exact W.zret (v := (wi v 0 5)) (ty := .boolean) hx hb hr (wi_n _ _ _) (fun t ht hW => ⟨(wi v 0 5), rfl, (by first | rfl | (simp []; done)), ht⟩) (fun q h => absurd h List.not_mem_nil) dX10_isKind_6

/-- whether the numbers of pack and would may be so -/
def cb (s w o : Int32) : Int32 := if wi s 1 15 = 0 then 0 else if wi w 1 8000 = 0 then 0 else if wi o 0 500 = 0 then 0 else 1
/-- a place of a tray, or none -/
def so (t p : Int32) : Int32 := if wi t 0 5 = 0 then -1 else if wi p 0 23 = 0 then -1 else t * 24 + p

set_option maxHeartbeats 4000000 in
set_option maxRecDepth 100000 in
theorem c_canBeAsked (l : Launch) (dC : Nat → ClassId) (dI : Nat → Nat → Nat) (v1 v2 v3 : Int32) : Met l yX10_canBeAsked (Cond.code yX10_canBeAsked cX10_canBeAsked 3 (some .boolean) :: gT) ({ frames := 2, cells := 0, slots := 0, locals := 82 }) (va_Pc [.int v1, .int v2, .int v3] (pu (dC, dI) [] [])) (vp_Si (fun r => r = cb v1 v2 v3)) 0 0 (fun _ => False) := by
  refine Met.ofW (cc := cX10_canBeAsked) (maxL := 3) (ret := (some .boolean)) (by decide) rfl ?_
  intro p e s m args below meth c s₁ B hml hv
  obtain ⟨rfl, hP, hK, hE⟩ := hv
  have hx := B.exec
  have hb := B.bytes
  have hr := B.returns
  have hts : ∀ w ∈ gT, w.before _ s = true := fun w h => atoms_spec (ws := Cond.code yX10_canBeAsked cX10_canBeAsked 3 (some .boolean) :: gT) B.pre w (List.mem_cons_of_mem _ h)
  have hown : s.vm.findClass RX10 = some m.cls := findClass_of_methodNamed B.named
  have hlocks := B.notSynchronized
  have hl := lv_entry ([.int v1, .int v2, .int v3]) (n := 3) (Nat.le_of_ble_eq_true rfl)
  rw [lg_entry_eq]
  generalize (lg_sl ([.int v1, .int v2, .int v3]) ++ List.replicate (3 - (lg_sl ([.int v1, .int v2, .int v3])).length) Slot.unset).toArray = ls at hl ⊢
  have hl : lv_has ls 3 [(0, .int v1), (1, .int v2), (2, .int v3)] := hl
  refine lv_iload_n hx hb dX10_canBeAsked_0 rfl (lv_at hl 0 rfl) ?_
  refine lv_iconst (v := 1) hx hb dX10_canBeAsked_1 (by decide) ?_
  refine lv_bipush (v := 15) hx hb dX10_canBeAsked_2 (by decide) ?_
  have hPc := hP.sub (ws' := []) [] rfl
  have hKc := hK.sub (tys' := []) [] rfl
  refine pc_i (va_runS (As := [.int v1, .int 1, .int 15]) (rest := []) ⟨hx, hb, hml, hown, hts⟩ (c_within l dC dI v1 1 15) (⟨callB_of 3 hts (gd mw_254) rfl rfl rfl (hts _ mw_1) (hts _ mw_252) ds_X10_within ⟨Nat.le_of_ble_eq_true rfl, Nat.le_of_ble_eq_true rfl⟩, (hts _ mw_253)⟩) (pu_S hPc hKc hE) rfl rfl hl.1 rfl (lv_room (Nat.le_of_ble_eq_true rfl)) dX10_canBeAsked_4 ⟨Nat.le_of_ble_eq_true rfl, Nat.le_of_ble_eq_true rfl⟩) (fun r_ hw_ => ?_)
  obtain rfl : r_ = (wi v1 1 15) := hw_
  refine lv_if_eq (tgt := 36) hx hb dX10_canBeAsked_7 (by decide) (fun c_2 => ?_) (fun c_2 => ?_)
  · refine lv_iconst (v := 0) hx hb dX10_canBeAsked_36 (by decide) ?_
    exact W.zret (v := 0) (ty := .boolean) hx hb hr rfl (fun t ht hW => ⟨0, rfl, (by first | rfl | (simp [cb, c_2]; done)), ht⟩) (fun q h => absurd h List.not_mem_nil) dX10_canBeAsked_37
  · refine lv_iload_n hx hb dX10_canBeAsked_10 rfl (lv_at hl 1 rfl) ?_
    refine lv_iconst (v := 1) hx hb dX10_canBeAsked_11 (by decide) ?_
    refine lv_sipush (v := 8000) hx hb dX10_canBeAsked_12 (by decide) ?_
    have hPc := hP.sub (ws' := []) [] rfl
    have hKc := hK.sub (tys' := []) [] rfl
    refine pc_i (va_runS (As := [.int v2, .int 1, .int 8000]) (rest := []) ⟨hx, hb, hml, hown, hts⟩ (c_within l dC dI v2 1 8000) (⟨callB_of 3 hts (gd mw_254) rfl rfl rfl (hts _ mw_1) (hts _ mw_252) ds_X10_within ⟨Nat.le_of_ble_eq_true rfl, Nat.le_of_ble_eq_true rfl⟩, (hts _ mw_253)⟩) (pu_S hPc hKc hE) rfl rfl hl.1 rfl (lv_room (Nat.le_of_ble_eq_true rfl)) dX10_canBeAsked_15 ⟨Nat.le_of_ble_eq_true rfl, Nat.le_of_ble_eq_true rfl⟩) (fun r_ hw_ => ?_)
    obtain rfl : r_ = (wi v2 1 8000) := hw_
    refine lv_if_eq (tgt := 36) hx hb dX10_canBeAsked_18 (by decide) (fun c_4 => ?_) (fun c_4 => ?_)
    · refine lv_iconst (v := 0) hx hb dX10_canBeAsked_36 (by decide) ?_
      exact W.zret (v := 0) (ty := .boolean) hx hb hr rfl (fun t ht hW => ⟨0, rfl, (by first | rfl | (simp [cb, c_2, c_4]; done)), ht⟩) (fun q h => absurd h List.not_mem_nil) dX10_canBeAsked_37
    · refine lv_iload_n hx hb dX10_canBeAsked_21 rfl (lv_at hl 2 rfl) ?_
      refine lv_iconst (v := 0) hx hb dX10_canBeAsked_22 (by decide) ?_
      refine lv_sipush (v := 500) hx hb dX10_canBeAsked_23 (by decide) ?_
      have hPc := hP.sub (ws' := []) [] rfl
      have hKc := hK.sub (tys' := []) [] rfl
      refine pc_i (va_runS (As := [.int v3, .int 0, .int 500]) (rest := []) ⟨hx, hb, hml, hown, hts⟩ (c_within l dC dI v3 0 500) (⟨callB_of 3 hts (gd mw_254) rfl rfl rfl (hts _ mw_1) (hts _ mw_252) ds_X10_within ⟨Nat.le_of_ble_eq_true rfl, Nat.le_of_ble_eq_true rfl⟩, (hts _ mw_253)⟩) (pu_S hPc hKc hE) rfl rfl hl.1 rfl (lv_room (Nat.le_of_ble_eq_true rfl)) dX10_canBeAsked_26 ⟨Nat.le_of_ble_eq_true rfl, Nat.le_of_ble_eq_true rfl⟩) (fun r_ hw_ => ?_)
      obtain rfl : r_ = (wi v3 0 500) := hw_
      refine lv_if_eq (tgt := 36) hx hb dX10_canBeAsked_29 (by decide) (fun c_6 => ?_) (fun c_6 => ?_)
      · refine lv_iconst (v := 0) hx hb dX10_canBeAsked_36 (by decide) ?_
        exact W.zret (v := 0) (ty := .boolean) hx hb hr rfl (fun t ht hW => ⟨0, rfl, (by first | rfl | (simp [cb, c_2, c_4, c_6]; done)), ht⟩) (fun q h => absurd h List.not_mem_nil) dX10_canBeAsked_37
      · refine lv_iconst (v := 1) hx hb dX10_canBeAsked_32 (by decide) ?_
        refine lv_goto (tgt := 37) hx hb dX10_canBeAsked_33 (by decide) ?_
        exact W.zret (v := 1) (ty := .boolean) hx hb hr rfl (fun t ht hW => ⟨1, rfl, (by first | rfl | (simp [cb, c_2, c_4, c_6]; done)), ht⟩) (fun q h => absurd h List.not_mem_nil) dX10_canBeAsked_37

set_option maxHeartbeats 4000000 in
set_option maxRecDepth 100000 in
theorem c_areNumbers (l : Launch) (dC : Nat → ClassId) (dI : Nat → Nat → Nat) (v1 v2 v3 : Int32) : Met l yX11_areNumbers (Cond.code yX11_areNumbers cX11_areNumbers 3 (some .boolean) :: gT) ({ frames := 2, cells := 0, slots := 0, locals := 82 }) (va_Pc [.int v1, .int v2, .int v3] (pu (dC, dI) [] [])) (vp_Si (fun r => r = cb v1 v2 v3)) 0 0 (fun _ => False) := by
  refine Met.ofW (cc := cX11_areNumbers) (maxL := 3) (ret := (some .boolean)) (by decide) rfl ?_
  intro p e s m args below meth c s₁ B hml hv
  obtain ⟨rfl, hP, hK, hE⟩ := hv
  have hx := B.exec
  have hb := B.bytes
  have hr := B.returns
  have hts : ∀ w ∈ gT, w.before _ s = true := fun w h => atoms_spec (ws := Cond.code yX11_areNumbers cX11_areNumbers 3 (some .boolean) :: gT) B.pre w (List.mem_cons_of_mem _ h)
  have hown : s.vm.findClass RX11 = some m.cls := findClass_of_methodNamed B.named
  have hlocks := B.notSynchronized
  have hl := lv_entry ([.int v1, .int v2, .int v3]) (n := 3) (Nat.le_of_ble_eq_true rfl)
  rw [lg_entry_eq]
  generalize (lg_sl ([.int v1, .int v2, .int v3]) ++ List.replicate (3 - (lg_sl ([.int v1, .int v2, .int v3])).length) Slot.unset).toArray = ls at hl ⊢
  have hl : lv_has ls 3 [(0, .int v1), (1, .int v2), (2, .int v3)] := hl
  refine lv_iload_n hx hb dX11_areNumbers_0 rfl (lv_at hl 0 rfl) ?_
  refine lv_iconst (v := 1) hx hb dX11_areNumbers_1 (by decide) ?_
  refine lv_bipush (v := 15) hx hb dX11_areNumbers_2 (by decide) ?_
  have hPc := hP.sub (ws' := []) [] rfl
  have hKc := hK.sub (tys' := []) [] rfl
  refine pc_i (va_runS (As := [.int v1, .int 1, .int 15]) (rest := []) ⟨hx, hb, hml, hown, hts⟩ (c_isIn l dC dI v1 1 15) (⟨callB_of 3 hts (gd mw_1057) rfl rfl rfl (hts _ mw_8) (hts _ mw_1055) ds_X11_isIn ⟨Nat.le_of_ble_eq_true rfl, Nat.le_of_ble_eq_true rfl⟩, (hts _ mw_1056)⟩) (pu_S hPc hKc hE) rfl rfl hl.1 rfl (lv_room (Nat.le_of_ble_eq_true rfl)) dX11_areNumbers_4 ⟨Nat.le_of_ble_eq_true rfl, Nat.le_of_ble_eq_true rfl⟩) (fun r_ hw_ => ?_)
  obtain rfl : r_ = (wi v1 1 15) := hw_
  refine lv_if_eq (tgt := 36) hx hb dX11_areNumbers_7 (by decide) (fun c_2 => ?_) (fun c_2 => ?_)
  · refine lv_iconst (v := 0) hx hb dX11_areNumbers_36 (by decide) ?_
    exact W.zret (v := 0) (ty := .boolean) hx hb hr rfl (fun t ht hW => ⟨0, rfl, (by first | rfl | (simp [cb, c_2]; done)), ht⟩) (fun q h => absurd h List.not_mem_nil) dX11_areNumbers_37
  · refine lv_iload_n hx hb dX11_areNumbers_10 rfl (lv_at hl 1 rfl) ?_
    refine lv_iconst (v := 1) hx hb dX11_areNumbers_11 (by decide) ?_
    refine lv_sipush (v := 8000) hx hb dX11_areNumbers_12 (by decide) ?_
    have hPc := hP.sub (ws' := []) [] rfl
    have hKc := hK.sub (tys' := []) [] rfl
    refine pc_i (va_runS (As := [.int v2, .int 1, .int 8000]) (rest := []) ⟨hx, hb, hml, hown, hts⟩ (c_isIn l dC dI v2 1 8000) (⟨callB_of 3 hts (gd mw_1057) rfl rfl rfl (hts _ mw_8) (hts _ mw_1055) ds_X11_isIn ⟨Nat.le_of_ble_eq_true rfl, Nat.le_of_ble_eq_true rfl⟩, (hts _ mw_1056)⟩) (pu_S hPc hKc hE) rfl rfl hl.1 rfl (lv_room (Nat.le_of_ble_eq_true rfl)) dX11_areNumbers_15 ⟨Nat.le_of_ble_eq_true rfl, Nat.le_of_ble_eq_true rfl⟩) (fun r_ hw_ => ?_)
    obtain rfl : r_ = (wi v2 1 8000) := hw_
    refine lv_if_eq (tgt := 36) hx hb dX11_areNumbers_18 (by decide) (fun c_4 => ?_) (fun c_4 => ?_)
    · refine lv_iconst (v := 0) hx hb dX11_areNumbers_36 (by decide) ?_
      exact W.zret (v := 0) (ty := .boolean) hx hb hr rfl (fun t ht hW => ⟨0, rfl, (by first | rfl | (simp [cb, c_2, c_4]; done)), ht⟩) (fun q h => absurd h List.not_mem_nil) dX11_areNumbers_37
    · refine lv_iload_n hx hb dX11_areNumbers_21 rfl (lv_at hl 2 rfl) ?_
      refine lv_iconst (v := 0) hx hb dX11_areNumbers_22 (by decide) ?_
      refine lv_sipush (v := 500) hx hb dX11_areNumbers_23 (by decide) ?_
      have hPc := hP.sub (ws' := []) [] rfl
      have hKc := hK.sub (tys' := []) [] rfl
      refine pc_i (va_runS (As := [.int v3, .int 0, .int 500]) (rest := []) ⟨hx, hb, hml, hown, hts⟩ (c_isIn l dC dI v3 0 500) (⟨callB_of 3 hts (gd mw_1057) rfl rfl rfl (hts _ mw_8) (hts _ mw_1055) ds_X11_isIn ⟨Nat.le_of_ble_eq_true rfl, Nat.le_of_ble_eq_true rfl⟩, (hts _ mw_1056)⟩) (pu_S hPc hKc hE) rfl rfl hl.1 rfl (lv_room (Nat.le_of_ble_eq_true rfl)) dX11_areNumbers_26 ⟨Nat.le_of_ble_eq_true rfl, Nat.le_of_ble_eq_true rfl⟩) (fun r_ hw_ => ?_)
      obtain rfl : r_ = (wi v3 0 500) := hw_
      refine lv_if_eq (tgt := 36) hx hb dX11_areNumbers_29 (by decide) (fun c_6 => ?_) (fun c_6 => ?_)
      · refine lv_iconst (v := 0) hx hb dX11_areNumbers_36 (by decide) ?_
        exact W.zret (v := 0) (ty := .boolean) hx hb hr rfl (fun t ht hW => ⟨0, rfl, (by first | rfl | (simp [cb, c_2, c_4, c_6]; done)), ht⟩) (fun q h => absurd h List.not_mem_nil) dX11_areNumbers_37
      · refine lv_iconst (v := 1) hx hb dX11_areNumbers_32 (by decide) ?_
        refine lv_goto (tgt := 37) hx hb dX11_areNumbers_33 (by decide) ?_
        exact W.zret (v := 1) (ty := .boolean) hx hb hr rfl (fun t ht hW => ⟨1, rfl, (by first | rfl | (simp [cb, c_2, c_4, c_6]; done)), ht⟩) (fun q h => absurd h List.not_mem_nil) dX11_areNumbers_37

set_option maxHeartbeats 4000000 in
set_option maxRecDepth 100000 in
theorem c_spotOf (l : Launch) (dC : Nat → ClassId) (dI : Nat → Nat → Nat) (v1 v2 : Int32) : Met l yX10_spotOf (Cond.code yX10_spotOf cX10_spotOf 3 (some .int) :: gT) ({ frames := 2, cells := 0, slots := 0, locals := 82 }) (va_Pc [.int v1, .int v2] (pu (dC, dI) [] [])) (vp_Si (fun r => r = so v1 v2)) 0 0 (fun _ => False) := by
  refine Met.ofW (cc := cX10_spotOf) (maxL := 3) (ret := (some .int)) (by decide) rfl ?_
  intro p e s m args below meth c s₁ B hml hv
  obtain ⟨rfl, hP, hK, hE⟩ := hv
  have hx := B.exec
  have hb := B.bytes
  have hr := B.returns
  have hts : ∀ w ∈ gT, w.before _ s = true := fun w h => atoms_spec (ws := Cond.code yX10_spotOf cX10_spotOf 3 (some .int) :: gT) B.pre w (List.mem_cons_of_mem _ h)
  have hown : s.vm.findClass RX10 = some m.cls := findClass_of_methodNamed B.named
  have hlocks := B.notSynchronized
  have hl := lv_entry ([.int v1, .int v2]) (n := 3) (Nat.le_of_ble_eq_true rfl)
  rw [lg_entry_eq]
  generalize (lg_sl ([.int v1, .int v2]) ++ List.replicate (3 - (lg_sl ([.int v1, .int v2])).length) Slot.unset).toArray = ls at hl ⊢
  have hl : lv_has ls 3 [(0, .int v1), (1, .int v2)] := hl
  refine lv_iload_n hx hb dX10_spotOf_0 rfl (lv_at hl 0 rfl) ?_
  refine lv_iconst (v := 0) hx hb dX10_spotOf_1 (by decide) ?_
  refine lv_iconst (v := 5) hx hb dX10_spotOf_2 (by decide) ?_
  have hPc := hP.sub (ws' := []) [] rfl
  have hKc := hK.sub (tys' := []) [] rfl
  refine pc_i (va_runS (As := [.int v1, .int 0, .int 5]) (rest := []) ⟨hx, hb, hml, hown, hts⟩ (c_within l dC dI v1 0 5) (⟨callB_of 3 hts (gd mw_254) rfl rfl rfl (hts _ mw_1) (hts _ mw_252) ds_X10_within ⟨Nat.le_of_ble_eq_true rfl, Nat.le_of_ble_eq_true rfl⟩, (hts _ mw_253)⟩) (pu_S hPc hKc hE) rfl rfl hl.1 rfl (lv_room (Nat.le_of_ble_eq_true rfl)) dX10_spotOf_3 ⟨Nat.le_of_ble_eq_true rfl, Nat.le_of_ble_eq_true rfl⟩) (fun r_ hw_ => ?_)
  obtain rfl : r_ = (wi v1 0 5) := hw_
  refine lv_if_eq (tgt := 23) hx hb dX10_spotOf_6 (by decide) (fun c_2 => ?_) (fun c_2 => ?_)
  · refine lv_iconst (v := 0) hx hb dX10_spotOf_23 (by decide) ?_
    refine lv_istore_n (lv' := [(2, .int 0), (0, .int v1), (1, .int v2)]) hx hb dX10_spotOf_24 rfl hl (by decide) rfl (fun ls hl => ?_)
    refine lv_iload_n hx hb dX10_spotOf_25 rfl (lv_at hl 0 rfl) ?_
    refine lv_if_eq (tgt := 38) hx hb dX10_spotOf_26 (by decide) (fun c_ => ?_) (fun c_ => absurd c_ (by decide))
    refine lv_iconst (v := (-1)) hx hb dX10_spotOf_38 (by decide) ?_
    exact W.iret (v := (-1)) hx hb hr (fun t ht hW => ⟨(-1), rfl, (by first | rfl | (simp [so, c_2]; done)), ht⟩) (fun q h => absurd h List.not_mem_nil) dX10_spotOf_39
  · refine lv_iload_n hx hb dX10_spotOf_9 rfl (lv_at hl 1 rfl) ?_
    refine lv_iconst (v := 0) hx hb dX10_spotOf_10 (by decide) ?_
    refine lv_bipush (v := 23) hx hb dX10_spotOf_11 (by decide) ?_
    have hPc := hP.sub (ws' := []) [] rfl
    have hKc := hK.sub (tys' := []) [] rfl
    refine pc_i (va_runS (As := [.int v2, .int 0, .int 23]) (rest := []) ⟨hx, hb, hml, hown, hts⟩ (c_within l dC dI v2 0 23) (⟨callB_of 3 hts (gd mw_254) rfl rfl rfl (hts _ mw_1) (hts _ mw_252) ds_X10_within ⟨Nat.le_of_ble_eq_true rfl, Nat.le_of_ble_eq_true rfl⟩, (hts _ mw_253)⟩) (pu_S hPc hKc hE) rfl rfl hl.1 rfl (lv_room (Nat.le_of_ble_eq_true rfl)) dX10_spotOf_13 ⟨Nat.le_of_ble_eq_true rfl, Nat.le_of_ble_eq_true rfl⟩) (fun r_ hw_ => ?_)
    obtain rfl : r_ = (wi v2 0 23) := hw_
    refine lv_if_eq (tgt := 23) hx hb dX10_spotOf_16 (by decide) (fun c_4 => ?_) (fun c_4 => ?_)
    · refine lv_iconst (v := 0) hx hb dX10_spotOf_23 (by decide) ?_
      refine lv_istore_n (lv' := [(2, .int 0), (0, .int v1), (1, .int v2)]) hx hb dX10_spotOf_24 rfl hl (by decide) rfl (fun ls hl => ?_)
      refine lv_iload_n hx hb dX10_spotOf_25 rfl (lv_at hl 0 rfl) ?_
      refine lv_if_eq (tgt := 38) hx hb dX10_spotOf_26 (by decide) (fun c_ => ?_) (fun c_ => absurd c_ (by decide))
      refine lv_iconst (v := (-1)) hx hb dX10_spotOf_38 (by decide) ?_
      exact W.iret (v := (-1)) hx hb hr (fun t ht hW => ⟨(-1), rfl, (by first | rfl | (simp [so, c_2, c_4]; done)), ht⟩) (fun q h => absurd h List.not_mem_nil) dX10_spotOf_39
    · refine lv_iconst (v := 1) hx hb dX10_spotOf_19 (by decide) ?_
      refine lv_goto (tgt := 24) hx hb dX10_spotOf_20 (by decide) ?_
      refine lv_istore_n (lv' := [(2, .int 1), (0, .int v1), (1, .int v2)]) hx hb dX10_spotOf_24 rfl hl (by decide) rfl (fun ls hl => ?_)
      refine lv_iload_n hx hb dX10_spotOf_25 rfl (lv_at hl 0 rfl) ?_
      refine lv_if_eq (tgt := 38) hx hb dX10_spotOf_26 (by decide) (fun c_ => absurd c_ (by decide)) (fun c_ => ?_)
      refine lv_iload_n hx hb dX10_spotOf_29 rfl (lv_at hl 1 rfl) ?_
      refine lv_bipush (v := 24) hx hb dX10_spotOf_30 (by decide) ?_
      refine lv_imul hx hb dX10_spotOf_32 ?_
      refine lv_iload_n hx hb dX10_spotOf_33 rfl (lv_at hl 2 rfl) ?_
      refine lv_iadd hx hb dX10_spotOf_34 ?_
      refine lv_goto (tgt := 39) hx hb dX10_spotOf_35 (by decide) ?_
      exact W.iret (v := ((v1 * 24) + v2)) hx hb hr (fun t ht hW => ⟨((v1 * 24) + v2), rfl, (by first | rfl | (simp [so, c_2, c_4]; done)), ht⟩) (fun q h => absurd h List.not_mem_nil) dX10_spotOf_39
