/-! ===== what a kitchen's objects keep ===== -/
def bA0 (ba : Nat → Nat → Nat) : Nat → Nat := fun j => ba j 0
def bF (bt : Nat → BatG) (k : Nat) : Nat → Int32 := fun j => (bt j).1 k
/-- a batch: its KIND, its rows' lengths -/
def bI (g : BatG) : Prop := cnt (g.1 0) 5 ∧ cnt (g.1 16) 60 ∧ cnt (g.1 17) 60
/-- a piece: its weight -/
def pI (g : PieG) : Prop := cnt (g.1 2) 3000 ∧ (g.1 4 = -1 → cnt (g.1 2) 2000)
/-- a box: how many pieces -/
def xI (g : BoxG) : Prop := cnt (g.1 3) g.2.2.1 ∧ g.2.2.1 ≤ 40
def kI (nl : Nat) (lo : Nat → Int32 × Int32) (nb : Nat) (bt : Nat → BatG) (np : Nat) (pc : Nat → PieG) (nx : Nat) (bx : Nat → BoxG) : Prop := nl ≤ 40 ∧ nb ≤ 40 ∧ np ≤ 600 ∧ nx ≤ 200 ∧ (∀ j, j < nb → bI (bt j)) ∧ (∀ j, j < np → pI (pc j)) ∧ (∀ j, j < nx → xI (bx j))
/-- a batch that is not cooked -/
def fnr (n : Nat) (f : Nat → Nat) (ck : Nat → Int32) (v : Int32) : Option Nat := if wi v 0 (nI n - 1) = 0 then none else if ck v.toNatClampNeg = 0 then some (f v.toNatClampNeg) else none
theorem fnr_some {n : Nat} {f : Nat → Nat} {ck : Nat → Int32} {v : Int32} {b : Nat} (hn : n < 2 ^ 31) (h : some b = fnr n f ck v) : ∃ j, j < n ∧ v = nI j ∧ b = f j ∧ ck j = 0 := by
  unfold fnr at h
  split at h
  · cases h
  · rename_i h1
    obtain ⟨j, hj, rfl⟩ := wi_cnt hn h1
    rw [nI_clamp (by omega)] at h
    split at h
    · rename_i h2
      exact ⟨j, hj, rfl, Option.some.inj h, h2⟩
    · cases h
theorem fnr_of {n : Nat} {f : Nat → Nat} {ck : Nat → Int32} {v : Int32} {j : Nat} (hn : n < 2 ^ 31) (hj : j < n) (hv : v = nI j) : fnr n f ck v = if ck j = 0 then some (f j) else none := by
  subst hv
  unfold fnr
  rw [wi_nI hn hj, if_neg (by decide), nI_clamp (by omega)]
theorem fnd_none {n : Nat} {f : Nat → Nat} {v : Int32} (h : none = fnd n f v) : wi v 0 (nI n - 1) = 0 := by
  unfold fnd at h
  split at h
  · assumption
  · cases h
theorem fnr_no {n : Nat} {f g : Nat → Nat} {ck : Nat → Int32} {v : Int32} (h : none = fnd n g v) : none = fnr n f ck v := by
  unfold fnr
  rw [if_pos (fnd_none h)]
theorem fnd_rA {n : Nat} {f : Nat → Nat} {v : Int32} (hn : n < 2 ^ 31) (h : ¬ wi v 0 (nI n - 1) = 0) : rA n f v.toNatClampNeg = fnd n f v := by
  unfold fnd
  rw [if_neg h]
  obtain ⟨j, hj, rfl⟩ := wi_cnt hn h
  rw [nI_clamp (by omega), rA_in hj]
theorem wi_vpn {n N : Nat} {v : Int32} (hn : n ≤ N) (hN : N < 2 ^ 31) (h : ¬ wi v 0 (nI n - 1) = 0) : vp_in v N := by
  obtain ⟨j, hj, rfl⟩ := wi_cnt (by omega) h
  exact vp_in_nI (by omega) hN
theorem wi_vp {v hi : Int32} {n : Nat} (h : ¬ wi v 0 hi = 0) (hn : hi.toInt + 1 = n) : vp_in v n := by
  have h1 := wi_in h
  have e0 : (0 : Int32).toInt = 0 := by decide
  exact vp_in_iff.mpr (by omega)
def cb (s w o : Int32) : Int32 := if wi s 1 15 = 0 then 0 else if wi w 1 8000 = 0 then 0 else if wi o 0 500 = 0 then 0 else 1
def so (t p : Int32) : Int32 := if wi t 0 5 = 0 then -1 else if wi p 0 23 = 0 then -1 else t * 24 + p
def isC (k : Int32) : Int32 := if k = 3 then 1 else if k = 4 then 1 else 0
theorem wi_nat {v lo hi : Int32} (h : ¬ wi v lo hi = 0) (h0 : 0 ≤ lo.toInt) : ∃ j : Nat, v = nI j ∧ lo.toInt ≤ j ∧ (j : Int) ≤ hi.toInt := by
  obtain ⟨h1, h2⟩ := wi_in h
  have e0 : (0 : Int32).toInt = 0 := by decide
  obtain ⟨j, hj, rfl⟩ := nI_of (x := v) (by rw [Int32.lt_iff_toInt_lt]; omega)
  rw [nI_toInt hj] at h1 h2
  exact ⟨j, rfl, h1, h2⟩

set_option maxHeartbeats 4000000 in
set_option maxRecDepth 100000 in
theorem c_within (l : Launch) (dC : Nat → ClassId) (dI : Nat → Nat → Nat) (ca : Nat → ClassId) (v : Int32) (lo_ : Int32) (hi_ : Int32) : Met l yX10_within (Cond.code yX10_within cX10_within 3 (some .boolean) :: gT) ({ frames := 1, cells := 0, slots := 0, locals := 60 }) (va_Pc [.int v, .int lo_, .int hi_] (pu (dC, dI) [] (aT ca))) (vp_Si (fun r => r = wi v lo_ hi_)) 0 0 (fun _ => False) := by
  refine Met.ofW (cc := cX10_within) (maxL := 3) (ret := (some .boolean)) (by decide) rfl ?_
  intro p e s m args below meth c s₁ B hml hv
  obtain ⟨rfl, hP, hK, hE⟩ := hv
  have hx := B.exec
  have hb := B.bytes
  have hr := B.returns
  have hts : ∀ w ∈ gT, w.before _ s = true := fun w h => atoms_spec (ws := Cond.code yX10_within cX10_within 3 (some .boolean) :: gT) B.pre w (List.mem_cons_of_mem _ h)
  have hown : s.vm.findClass RX10 = some m.cls := findClass_of_methodNamed B.named
  have hlocks := B.notSynchronized
  have hl := lv_entry ([.int v, .int lo_, .int hi_]) (n := 3) (Nat.le_of_ble_eq_true rfl)
  rw [lg_entry_eq]
  generalize (lg_sl ([.int v, .int lo_, .int hi_]) ++ List.replicate (3 - (lg_sl ([.int v, .int lo_, .int hi_])).length) Slot.unset).toArray = ls at hl ⊢
  have hl : lv_has ls 3 [(0, .int v), (1, .int lo_), (2, .int hi_)] := hl
  refine lv_iload_n hx hb dX10_within_0 rfl (lv_at hl 0 rfl) ?_
  refine lv_iload_n hx hb dX10_within_1 rfl (lv_at hl 1 rfl) ?_
  refine lv_icmp_lt (tgt := 14) hx hb dX10_within_2 (by decide) (fun c_1 => ?_) (fun c_1 => ?_)
  · refine lv_iconst (v := 0) hx hb dX10_within_14 (by decide) ?_
    exact W.zret (v := 0) (ty := .boolean) hx hb hr rfl (fun t ht hW => ⟨0, rfl, (by first | rfl | (simp [wi, c_1]; done)), ht⟩) (fun q h => absurd h List.not_mem_nil) dX10_within_15
  · refine lv_iload_n hx hb dX10_within_5 rfl (lv_at hl 0 rfl) ?_
    refine lv_iload_n hx hb dX10_within_6 rfl (lv_at hl 2 rfl) ?_
    refine lv_icmp_gt (tgt := 14) hx hb dX10_within_7 (by decide) (fun c_2 => ?_) (fun c_2 => ?_)
    · refine lv_iconst (v := 0) hx hb dX10_within_14 (by decide) ?_
      exact W.zret (v := 0) (ty := .boolean) hx hb hr rfl (fun t ht hW => ⟨0, rfl, (by first | rfl | (simp [wi, c_1, c_2]; done)), ht⟩) (fun q h => absurd h List.not_mem_nil) dX10_within_15
    · refine lv_iconst (v := 1) hx hb dX10_within_10 (by decide) ?_
      refine lv_goto (tgt := 15) hx hb dX10_within_11 (by decide) ?_
      exact W.zret (v := 1) (ty := .boolean) hx hb hr rfl (fun t ht hW => ⟨1, rfl, (by first | rfl | (simp [wi, c_1, c_2]; done)), ht⟩) (fun q h => absurd h List.not_mem_nil) dX10_within_15

set_option maxHeartbeats 4000000 in
set_option maxRecDepth 100000 in
theorem c_isIn (l : Launch) (dC : Nat → ClassId) (dI : Nat → Nat → Nat) (ca : Nat → ClassId) (v : Int32) (lo_ : Int32) (hi_ : Int32) : Met l yX11_isIn (Cond.code yX11_isIn cX11_isIn 3 (some .boolean) :: gT) ({ frames := 1, cells := 0, slots := 0, locals := 60 }) (va_Pc [.int v, .int lo_, .int hi_] (pu (dC, dI) [] (aT ca))) (vp_Si (fun r => r = wi v lo_ hi_)) 0 0 (fun _ => False) := by
  refine Met.ofW (cc := cX11_isIn) (maxL := 3) (ret := (some .boolean)) (by decide) rfl ?_
  intro p e s m args below meth c s₁ B hml hv
  obtain ⟨rfl, hP, hK, hE⟩ := hv
  have hx := B.exec
  have hb := B.bytes
  have hr := B.returns
  have hts : ∀ w ∈ gT, w.before _ s = true := fun w h => atoms_spec (ws := Cond.code yX11_isIn cX11_isIn 3 (some .boolean) :: gT) B.pre w (List.mem_cons_of_mem _ h)
  have hown : s.vm.findClass RX11 = some m.cls := findClass_of_methodNamed B.named
  have hlocks := B.notSynchronized
  have hl := lv_entry ([.int v, .int lo_, .int hi_]) (n := 3) (Nat.le_of_ble_eq_true rfl)
  rw [lg_entry_eq]
  generalize (lg_sl ([.int v, .int lo_, .int hi_]) ++ List.replicate (3 - (lg_sl ([.int v, .int lo_, .int hi_])).length) Slot.unset).toArray = ls at hl ⊢
  have hl : lv_has ls 3 [(0, .int v), (1, .int lo_), (2, .int hi_)] := hl
  refine lv_iload_n hx hb dX11_isIn_0 rfl (lv_at hl 0 rfl) ?_
  refine lv_iload_n hx hb dX11_isIn_1 rfl (lv_at hl 1 rfl) ?_
  refine lv_icmp_lt (tgt := 14) hx hb dX11_isIn_2 (by decide) (fun c_1 => ?_) (fun c_1 => ?_)
  · refine lv_iconst (v := 0) hx hb dX11_isIn_14 (by decide) ?_
    exact W.zret (v := 0) (ty := .boolean) hx hb hr rfl (fun t ht hW => ⟨0, rfl, (by first | rfl | (simp [wi, c_1]; done)), ht⟩) (fun q h => absurd h List.not_mem_nil) dX11_isIn_15
  · refine lv_iload_n hx hb dX11_isIn_5 rfl (lv_at hl 0 rfl) ?_
    refine lv_iload_n hx hb dX11_isIn_6 rfl (lv_at hl 2 rfl) ?_
    refine lv_icmp_gt (tgt := 14) hx hb dX11_isIn_7 (by decide) (fun c_2 => ?_) (fun c_2 => ?_)
    · refine lv_iconst (v := 0) hx hb dX11_isIn_14 (by decide) ?_
      exact W.zret (v := 0) (ty := .boolean) hx hb hr rfl (fun t ht hW => ⟨0, rfl, (by first | rfl | (simp [wi, c_1, c_2]; done)), ht⟩) (fun q h => absurd h List.not_mem_nil) dX11_isIn_15
    · refine lv_iconst (v := 1) hx hb dX11_isIn_10 (by decide) ?_
      refine lv_goto (tgt := 15) hx hb dX11_isIn_11 (by decide) ?_
      exact W.zret (v := 1) (ty := .boolean) hx hb hr rfl (fun t ht hW => ⟨1, rfl, (by first | rfl | (simp [wi, c_1, c_2]; done)), ht⟩) (fun q h => absurd h List.not_mem_nil) dX11_isIn_15

set_option maxHeartbeats 4000000 in
set_option maxRecDepth 100000 in
theorem c_isKind (l : Launch) (dC : Nat → ClassId) (dI : Nat → Nat → Nat) (ca : Nat → ClassId) (v : Int32) : Met l yX10_isKind (Cond.code yX10_isKind cX10_isKind 1 (some .boolean) :: gT) ({ frames := 2, cells := 0, slots := 0, locals := 82 }) (va_Pc [.int v] (pu (dC, dI) [] (aT ca))) (vp_Si (fun r => r = wi v 0 5)) 0 0 (fun _ => False) := by
  refine Met.ofW (cc := cX10_isKind) (maxL := 1) (ret := (some .boolean)) (by decide) rfl ?_
  intro p e s m args below meth c s₁ B hml hv
  obtain ⟨rfl, hP, hK, hE⟩ := hv
  have hx := B.exec
  have hb := B.bytes
  have hr := B.returns
  have hts : ∀ w ∈ gT, w.before _ s = true := fun w h => atoms_spec (ws := Cond.code yX10_isKind cX10_isKind 1 (some .boolean) :: gT) B.pre w (List.mem_cons_of_mem _ h)
  have hown : s.vm.findClass RX10 = some m.cls := findClass_of_methodNamed B.named
  have hlocks := B.notSynchronized
  have hl := lv_entry ([.int v]) (n := 1) (Nat.le_of_ble_eq_true rfl)
  rw [lg_entry_eq]
  generalize (lg_sl ([.int v]) ++ List.replicate (1 - (lg_sl ([.int v])).length) Slot.unset).toArray = ls at hl ⊢
  have hl : lv_has ls 1 [(0, .int v)] := hl
  refine lv_iload_n hx hb dX10_isKind_0 rfl (lv_at hl 0 rfl) ?_
  refine lv_iconst (v := 0) hx hb dX10_isKind_1 (by decide) ?_
  refine lv_iconst (v := 5) hx hb dX10_isKind_2 (by decide) ?_
  have hPc := hP.sub (ws' := []) [] rfl
  refine pc_i (va_runS (As := [.int v, .int 0, .int 5]) (rest := []) ⟨hx, hb, hml, hown, hts⟩ (c_within l dC dI ca v 0 5 ) (⟨callB_of 3 hts (gd mw_254) rfl rfl rfl (hts _ mw_1) (hts _ mw_252) ds_X10_within ⟨Nat.le_of_ble_eq_true rfl, Nat.le_of_ble_eq_true rfl⟩, (hts _ mw_253)⟩) (pu_S hPc hK hE) rfl rfl hl.1 rfl (lv_room (Nat.le_of_ble_eq_true rfl)) dX10_isKind_3 ⟨Nat.le_of_ble_eq_true rfl, Nat.le_of_ble_eq_true rfl⟩) (fun rv_1 hw_ => ?_)
  obtain rfl : rv_1 = (wi v 0 5) := hw_
  exact W.zret (v := (wi v 0 5)) (ty := .boolean) hx hb hr (zb_n (by first | exact wi_z _ _ _ | assumption | exact Or.inl rfl | exact Or.inr rfl)) (fun t ht hW => ⟨(wi v 0 5), rfl, (by first | rfl | (simp []; done)), ht⟩) (fun q h => absurd h List.not_mem_nil) dX10_isKind_6

set_option maxHeartbeats 4000000 in
set_option maxRecDepth 100000 in
theorem c_isCut (l : Launch) (dC : Nat → ClassId) (dI : Nat → Nat → Nat) (ca : Nat → ClassId) (v : Int32) : Met l yX10_isCut (Cond.code yX10_isCut cX10_isCut 1 (some .boolean) :: gT) ({ frames := 1, cells := 0, slots := 0, locals := 60 }) (va_Pc [.int v] (pu (dC, dI) [] (aT ca))) (vp_Si (fun r => r = isC v)) 0 0 (fun _ => False) := by
  refine Met.ofW (cc := cX10_isCut) (maxL := 1) (ret := (some .boolean)) (by decide) rfl ?_
  intro p e s m args below meth c s₁ B hml hv
  obtain ⟨rfl, hP, hK, hE⟩ := hv
  have hx := B.exec
  have hb := B.bytes
  have hr := B.returns
  have hts : ∀ w ∈ gT, w.before _ s = true := fun w h => atoms_spec (ws := Cond.code yX10_isCut cX10_isCut 1 (some .boolean) :: gT) B.pre w (List.mem_cons_of_mem _ h)
  have hown : s.vm.findClass RX10 = some m.cls := findClass_of_methodNamed B.named
  have hlocks := B.notSynchronized
  have hl := lv_entry ([.int v]) (n := 1) (Nat.le_of_ble_eq_true rfl)
  rw [lg_entry_eq]
  generalize (lg_sl ([.int v]) ++ List.replicate (1 - (lg_sl ([.int v])).length) Slot.unset).toArray = ls at hl ⊢
  have hl : lv_has ls 1 [(0, .int v)] := hl
  refine lv_iload_n hx hb dX10_isCut_0 rfl (lv_at hl 0 rfl) ?_
  refine lv_iconst (v := 3) hx hb dX10_isCut_1 (by decide) ?_
  refine lv_icmp_eq (tgt := 10) hx hb dX10_isCut_2 (by decide) (fun c_1 => ?_) (fun c_1 => ?_)
  · refine lv_iconst (v := 1) hx hb dX10_isCut_10 (by decide) ?_
    refine lv_goto (tgt := 15) hx hb dX10_isCut_11 (by decide) ?_
    exact W.zret (v := 1) (ty := .boolean) hx hb hr rfl (fun t ht hW => ⟨1, rfl, (by first | rfl | (simp [isC, c_1]; done)), ht⟩) (fun q h => absurd h List.not_mem_nil) dX10_isCut_15
  · refine lv_iload_n hx hb dX10_isCut_5 rfl (lv_at hl 0 rfl) ?_
    refine lv_iconst (v := 4) hx hb dX10_isCut_6 (by decide) ?_
    refine lv_icmp_ne (tgt := 14) hx hb dX10_isCut_7 (by decide) (fun c_2 => ?_) (fun c_2 => ?_)
    · refine lv_iconst (v := 0) hx hb dX10_isCut_14 (by decide) ?_
      exact W.zret (v := 0) (ty := .boolean) hx hb hr rfl (fun t ht hW => ⟨0, rfl, (by first | rfl | (simp [isC, c_1, c_2]; done)), ht⟩) (fun q h => absurd h List.not_mem_nil) dX10_isCut_15
    · refine lv_iconst (v := 1) hx hb dX10_isCut_10 (by decide) ?_
      refine lv_goto (tgt := 15) hx hb dX10_isCut_11 (by decide) ?_
      exact W.zret (v := 1) (ty := .boolean) hx hb hr rfl (fun t ht hW => ⟨1, rfl, (by first | rfl | (simp [isC, c_1, c_2]; done)), ht⟩) (fun q h => absurd h List.not_mem_nil) dX10_isCut_15

set_option maxHeartbeats 4000000 in
set_option maxRecDepth 100000 in
theorem c_canBeAsked (l : Launch) (dC : Nat → ClassId) (dI : Nat → Nat → Nat) (ca : Nat → ClassId) (v1 : Int32) (v2 : Int32) (v3 : Int32) : Met l yX10_canBeAsked (Cond.code yX10_canBeAsked cX10_canBeAsked 3 (some .boolean) :: gT) ({ frames := 2, cells := 0, slots := 0, locals := 82 }) (va_Pc [.int v1, .int v2, .int v3] (pu (dC, dI) [] (aT ca))) (vp_Si (fun r => r = cb v1 v2 v3)) 0 0 (fun _ => False) := by
  refine Met.ofW (cc := cX10_canBeAsked) (maxL := 3) (ret := (some .boolean)) (by decide) rfl ?_
  intro p e s m args below meth c s₁ B hml hv
  obtain ⟨rfl, hP, hK, hE⟩ := hv
  have hx := B.exec
  have hb := B.bytes
  have hr := B.returns
  have hts : ∀ w ∈ gT, w.before _ s = true := fun w h => atoms_spec (ws := Cond.code yX10_canBeAsked cX10_canBeAsked 3 (some .boolean) :: gT) B.pre w (List.mem_cons_of_mem _ h)
  have hown : s.vm.findClass RX10 = some m.cls := findClass_of_methodNamed B.named
  have hlocks := B.notSynchronized
  have hl := lv_entry ([.int v1, .int v2, .int v3]) (n := 3) (Nat.le_of_ble_eq_true rfl)
  rw [lg_entry_eq]
  generalize (lg_sl ([.int v1, .int v2, .int v3]) ++ List.replicate (3 - (lg_sl ([.int v1, .int v2, .int v3])).length) Slot.unset).toArray = ls at hl ⊢
  have hl : lv_has ls 3 [(0, .int v1), (1, .int v2), (2, .int v3)] := hl
  refine lv_iload_n hx hb dX10_canBeAsked_0 rfl (lv_at hl 0 rfl) ?_
  refine lv_iconst (v := 1) hx hb dX10_canBeAsked_1 (by decide) ?_
  refine lv_bipush (v := 15) hx hb dX10_canBeAsked_2 (by decide) ?_
  have hPc := hP.sub (ws' := []) [] rfl
  refine pc_i (va_runS (As := [.int v1, .int 1, .int 15]) (rest := []) ⟨hx, hb, hml, hown, hts⟩ (c_within l dC dI ca v1 1 15 ) (⟨callB_of 3 hts (gd mw_254) rfl rfl rfl (hts _ mw_1) (hts _ mw_252) ds_X10_within ⟨Nat.le_of_ble_eq_true rfl, Nat.le_of_ble_eq_true rfl⟩, (hts _ mw_253)⟩) (pu_S hPc hK hE) rfl rfl hl.1 rfl (lv_room (Nat.le_of_ble_eq_true rfl)) dX10_canBeAsked_4 ⟨Nat.le_of_ble_eq_true rfl, Nat.le_of_ble_eq_true rfl⟩) (fun rv_1 hw_ => ?_)
  obtain rfl : rv_1 = (wi v1 1 15) := hw_
  refine lv_if_eq (tgt := 36) hx hb dX10_canBeAsked_7 (by decide) (fun c_2 => ?_) (fun c_2 => ?_)
  · refine lv_iconst (v := 0) hx hb dX10_canBeAsked_36 (by decide) ?_
    exact W.zret (v := 0) (ty := .boolean) hx hb hr rfl (fun t ht hW => ⟨0, rfl, (by first | rfl | (simp [cb, c_2]; done)), ht⟩) (fun q h => absurd h List.not_mem_nil) dX10_canBeAsked_37
  · refine lv_iload_n hx hb dX10_canBeAsked_10 rfl (lv_at hl 1 rfl) ?_
    refine lv_iconst (v := 1) hx hb dX10_canBeAsked_11 (by decide) ?_
    refine lv_sipush (v := 8000) hx hb dX10_canBeAsked_12 (by decide) ?_
    have hPc := hP.sub (ws' := []) [] rfl
    refine pc_i (va_runS (As := [.int v2, .int 1, .int 8000]) (rest := []) ⟨hx, hb, hml, hown, hts⟩ (c_within l dC dI ca v2 1 8000 ) (⟨callB_of 3 hts (gd mw_254) rfl rfl rfl (hts _ mw_1) (hts _ mw_252) ds_X10_within ⟨Nat.le_of_ble_eq_true rfl, Nat.le_of_ble_eq_true rfl⟩, (hts _ mw_253)⟩) (pu_S hPc hK hE) rfl rfl hl.1 rfl (lv_room (Nat.le_of_ble_eq_true rfl)) dX10_canBeAsked_15 ⟨Nat.le_of_ble_eq_true rfl, Nat.le_of_ble_eq_true rfl⟩) (fun rv_3 hw_ => ?_)
    obtain rfl : rv_3 = (wi v2 1 8000) := hw_
    refine lv_if_eq (tgt := 36) hx hb dX10_canBeAsked_18 (by decide) (fun c_4 => ?_) (fun c_4 => ?_)
    · refine lv_iconst (v := 0) hx hb dX10_canBeAsked_36 (by decide) ?_
      exact W.zret (v := 0) (ty := .boolean) hx hb hr rfl (fun t ht hW => ⟨0, rfl, (by first | rfl | (simp [cb, c_2, c_4]; done)), ht⟩) (fun q h => absurd h List.not_mem_nil) dX10_canBeAsked_37
    · refine lv_iload_n hx hb dX10_canBeAsked_21 rfl (lv_at hl 2 rfl) ?_
      refine lv_iconst (v := 0) hx hb dX10_canBeAsked_22 (by decide) ?_
      refine lv_sipush (v := 500) hx hb dX10_canBeAsked_23 (by decide) ?_
      have hPc := hP.sub (ws' := []) [] rfl
      refine pc_i (va_runS (As := [.int v3, .int 0, .int 500]) (rest := []) ⟨hx, hb, hml, hown, hts⟩ (c_within l dC dI ca v3 0 500 ) (⟨callB_of 3 hts (gd mw_254) rfl rfl rfl (hts _ mw_1) (hts _ mw_252) ds_X10_within ⟨Nat.le_of_ble_eq_true rfl, Nat.le_of_ble_eq_true rfl⟩, (hts _ mw_253)⟩) (pu_S hPc hK hE) rfl rfl hl.1 rfl (lv_room (Nat.le_of_ble_eq_true rfl)) dX10_canBeAsked_26 ⟨Nat.le_of_ble_eq_true rfl, Nat.le_of_ble_eq_true rfl⟩) (fun rv_5 hw_ => ?_)
      obtain rfl : rv_5 = (wi v3 0 500) := hw_
      refine lv_if_eq (tgt := 36) hx hb dX10_canBeAsked_29 (by decide) (fun c_6 => ?_) (fun c_6 => ?_)
      · refine lv_iconst (v := 0) hx hb dX10_canBeAsked_36 (by decide) ?_
        exact W.zret (v := 0) (ty := .boolean) hx hb hr rfl (fun t ht hW => ⟨0, rfl, (by first | rfl | (simp [cb, c_2, c_4, c_6]; done)), ht⟩) (fun q h => absurd h List.not_mem_nil) dX10_canBeAsked_37
      · refine lv_iconst (v := 1) hx hb dX10_canBeAsked_32 (by decide) ?_
        refine lv_goto (tgt := 37) hx hb dX10_canBeAsked_33 (by decide) ?_
        exact W.zret (v := 1) (ty := .boolean) hx hb hr rfl (fun t ht hW => ⟨1, rfl, (by first | rfl | (simp [cb, c_2, c_4, c_6]; done)), ht⟩) (fun q h => absurd h List.not_mem_nil) dX10_canBeAsked_37

set_option maxHeartbeats 4000000 in
set_option maxRecDepth 100000 in
theorem c_areNumbers (l : Launch) (dC : Nat → ClassId) (dI : Nat → Nat → Nat) (ca : Nat → ClassId) (v1 : Int32) (v2 : Int32) (v3 : Int32) : Met l yX11_areNumbers (Cond.code yX11_areNumbers cX11_areNumbers 3 (some .boolean) :: gT) ({ frames := 2, cells := 0, slots := 0, locals := 82 }) (va_Pc [.int v1, .int v2, .int v3] (pu (dC, dI) [] (aT ca))) (vp_Si (fun r => r = cb v1 v2 v3)) 0 0 (fun _ => False) := by
  refine Met.ofW (cc := cX11_areNumbers) (maxL := 3) (ret := (some .boolean)) (by decide) rfl ?_
  intro p e s m args below meth c s₁ B hml hv
  obtain ⟨rfl, hP, hK, hE⟩ := hv
  have hx := B.exec
  have hb := B.bytes
  have hr := B.returns
  have hts : ∀ w ∈ gT, w.before _ s = true := fun w h => atoms_spec (ws := Cond.code yX11_areNumbers cX11_areNumbers 3 (some .boolean) :: gT) B.pre w (List.mem_cons_of_mem _ h)
  have hown : s.vm.findClass RX11 = some m.cls := findClass_of_methodNamed B.named
  have hlocks := B.notSynchronized
  have hl := lv_entry ([.int v1, .int v2, .int v3]) (n := 3) (Nat.le_of_ble_eq_true rfl)
  rw [lg_entry_eq]
  generalize (lg_sl ([.int v1, .int v2, .int v3]) ++ List.replicate (3 - (lg_sl ([.int v1, .int v2, .int v3])).length) Slot.unset).toArray = ls at hl ⊢
  have hl : lv_has ls 3 [(0, .int v1), (1, .int v2), (2, .int v3)] := hl
  refine lv_iload_n hx hb dX11_areNumbers_0 rfl (lv_at hl 0 rfl) ?_
  refine lv_iconst (v := 1) hx hb dX11_areNumbers_1 (by decide) ?_
  refine lv_bipush (v := 15) hx hb dX11_areNumbers_2 (by decide) ?_
  have hPc := hP.sub (ws' := []) [] rfl
  refine pc_i (va_runS (As := [.int v1, .int 1, .int 15]) (rest := []) ⟨hx, hb, hml, hown, hts⟩ (c_isIn l dC dI ca v1 1 15 ) (⟨callB_of 3 hts (gd mw_1057) rfl rfl rfl (hts _ mw_8) (hts _ mw_1055) ds_X11_isIn ⟨Nat.le_of_ble_eq_true rfl, Nat.le_of_ble_eq_true rfl⟩, (hts _ mw_1056)⟩) (pu_S hPc hK hE) rfl rfl hl.1 rfl (lv_room (Nat.le_of_ble_eq_true rfl)) dX11_areNumbers_4 ⟨Nat.le_of_ble_eq_true rfl, Nat.le_of_ble_eq_true rfl⟩) (fun rv_1 hw_ => ?_)
  obtain rfl : rv_1 = (wi v1 1 15) := hw_
  refine lv_if_eq (tgt := 36) hx hb dX11_areNumbers_7 (by decide) (fun c_2 => ?_) (fun c_2 => ?_)
  · refine lv_iconst (v := 0) hx hb dX11_areNumbers_36 (by decide) ?_
    exact W.zret (v := 0) (ty := .boolean) hx hb hr rfl (fun t ht hW => ⟨0, rfl, (by first | rfl | (simp [cb, c_2]; done)), ht⟩) (fun q h => absurd h List.not_mem_nil) dX11_areNumbers_37
  · refine lv_iload_n hx hb dX11_areNumbers_10 rfl (lv_at hl 1 rfl) ?_
    refine lv_iconst (v := 1) hx hb dX11_areNumbers_11 (by decide) ?_
    refine lv_sipush (v := 8000) hx hb dX11_areNumbers_12 (by decide) ?_
    have hPc := hP.sub (ws' := []) [] rfl
    refine pc_i (va_runS (As := [.int v2, .int 1, .int 8000]) (rest := []) ⟨hx, hb, hml, hown, hts⟩ (c_isIn l dC dI ca v2 1 8000 ) (⟨callB_of 3 hts (gd mw_1057) rfl rfl rfl (hts _ mw_8) (hts _ mw_1055) ds_X11_isIn ⟨Nat.le_of_ble_eq_true rfl, Nat.le_of_ble_eq_true rfl⟩, (hts _ mw_1056)⟩) (pu_S hPc hK hE) rfl rfl hl.1 rfl (lv_room (Nat.le_of_ble_eq_true rfl)) dX11_areNumbers_15 ⟨Nat.le_of_ble_eq_true rfl, Nat.le_of_ble_eq_true rfl⟩) (fun rv_3 hw_ => ?_)
    obtain rfl : rv_3 = (wi v2 1 8000) := hw_
    refine lv_if_eq (tgt := 36) hx hb dX11_areNumbers_18 (by decide) (fun c_4 => ?_) (fun c_4 => ?_)
    · refine lv_iconst (v := 0) hx hb dX11_areNumbers_36 (by decide) ?_
      exact W.zret (v := 0) (ty := .boolean) hx hb hr rfl (fun t ht hW => ⟨0, rfl, (by first | rfl | (simp [cb, c_2, c_4]; done)), ht⟩) (fun q h => absurd h List.not_mem_nil) dX11_areNumbers_37
    · refine lv_iload_n hx hb dX11_areNumbers_21 rfl (lv_at hl 2 rfl) ?_
      refine lv_iconst (v := 0) hx hb dX11_areNumbers_22 (by decide) ?_
      refine lv_sipush (v := 500) hx hb dX11_areNumbers_23 (by decide) ?_
      have hPc := hP.sub (ws' := []) [] rfl
      refine pc_i (va_runS (As := [.int v3, .int 0, .int 500]) (rest := []) ⟨hx, hb, hml, hown, hts⟩ (c_isIn l dC dI ca v3 0 500 ) (⟨callB_of 3 hts (gd mw_1057) rfl rfl rfl (hts _ mw_8) (hts _ mw_1055) ds_X11_isIn ⟨Nat.le_of_ble_eq_true rfl, Nat.le_of_ble_eq_true rfl⟩, (hts _ mw_1056)⟩) (pu_S hPc hK hE) rfl rfl hl.1 rfl (lv_room (Nat.le_of_ble_eq_true rfl)) dX11_areNumbers_26 ⟨Nat.le_of_ble_eq_true rfl, Nat.le_of_ble_eq_true rfl⟩) (fun rv_5 hw_ => ?_)
      obtain rfl : rv_5 = (wi v3 0 500) := hw_
      refine lv_if_eq (tgt := 36) hx hb dX11_areNumbers_29 (by decide) (fun c_6 => ?_) (fun c_6 => ?_)
      · refine lv_iconst (v := 0) hx hb dX11_areNumbers_36 (by decide) ?_
        exact W.zret (v := 0) (ty := .boolean) hx hb hr rfl (fun t ht hW => ⟨0, rfl, (by first | rfl | (simp [cb, c_2, c_4, c_6]; done)), ht⟩) (fun q h => absurd h List.not_mem_nil) dX11_areNumbers_37
      · refine lv_iconst (v := 1) hx hb dX11_areNumbers_32 (by decide) ?_
        refine lv_goto (tgt := 37) hx hb dX11_areNumbers_33 (by decide) ?_
        exact W.zret (v := 1) (ty := .boolean) hx hb hr rfl (fun t ht hW => ⟨1, rfl, (by first | rfl | (simp [cb, c_2, c_4, c_6]; done)), ht⟩) (fun q h => absurd h List.not_mem_nil) dX11_areNumbers_37

set_option maxHeartbeats 4000000 in
set_option maxRecDepth 100000 in
theorem c_spotOf (l : Launch) (dC : Nat → ClassId) (dI : Nat → Nat → Nat) (ca : Nat → ClassId) (v1 : Int32) (v2 : Int32) : Met l yX10_spotOf (Cond.code yX10_spotOf cX10_spotOf 3 (some .int) :: gT) ({ frames := 2, cells := 0, slots := 0, locals := 82 }) (va_Pc [.int v1, .int v2] (pu (dC, dI) [] (aT ca))) (vp_Si (fun r => r = so v1 v2)) 0 0 (fun _ => False) := by
  refine Met.ofW (cc := cX10_spotOf) (maxL := 3) (ret := (some .int)) (by decide) rfl ?_
  intro p e s m args below meth c s₁ B hml hv
  obtain ⟨rfl, hP, hK, hE⟩ := hv
  have hx := B.exec
  have hb := B.bytes
  have hr := B.returns
  have hts : ∀ w ∈ gT, w.before _ s = true := fun w h => atoms_spec (ws := Cond.code yX10_spotOf cX10_spotOf 3 (some .int) :: gT) B.pre w (List.mem_cons_of_mem _ h)
  have hown : s.vm.findClass RX10 = some m.cls := findClass_of_methodNamed B.named
  have hlocks := B.notSynchronized
  have hl := lv_entry ([.int v1, .int v2]) (n := 3) (Nat.le_of_ble_eq_true rfl)
  rw [lg_entry_eq]
  generalize (lg_sl ([.int v1, .int v2]) ++ List.replicate (3 - (lg_sl ([.int v1, .int v2])).length) Slot.unset).toArray = ls at hl ⊢
  have hl : lv_has ls 3 [(0, .int v1), (1, .int v2)] := hl
  refine lv_iload_n hx hb dX10_spotOf_0 rfl (lv_at hl 0 rfl) ?_
  refine lv_iconst (v := 0) hx hb dX10_spotOf_1 (by decide) ?_
  refine lv_iconst (v := 5) hx hb dX10_spotOf_2 (by decide) ?_
  have hPc := hP.sub (ws' := []) [] rfl
  refine pc_i (va_runS (As := [.int v1, .int 0, .int 5]) (rest := []) ⟨hx, hb, hml, hown, hts⟩ (c_within l dC dI ca v1 0 5 ) (⟨callB_of 3 hts (gd mw_254) rfl rfl rfl (hts _ mw_1) (hts _ mw_252) ds_X10_within ⟨Nat.le_of_ble_eq_true rfl, Nat.le_of_ble_eq_true rfl⟩, (hts _ mw_253)⟩) (pu_S hPc hK hE) rfl rfl hl.1 rfl (lv_room (Nat.le_of_ble_eq_true rfl)) dX10_spotOf_3 ⟨Nat.le_of_ble_eq_true rfl, Nat.le_of_ble_eq_true rfl⟩) (fun rv_1 hw_ => ?_)
  obtain rfl : rv_1 = (wi v1 0 5) := hw_
  refine lv_if_eq (tgt := 23) hx hb dX10_spotOf_6 (by decide) (fun c_2 => ?_) (fun c_2 => ?_)
  · refine lv_iconst (v := 0) hx hb dX10_spotOf_23 (by decide) ?_
    refine lv_istore_n (lv' := [(2, .int 0), (0, .int v1), (1, .int v2)]) hx hb dX10_spotOf_24 rfl hl (by decide) rfl (fun ls hl => ?_)
    refine lv_iload_n hx hb dX10_spotOf_25 rfl (lv_at hl 0 rfl) ?_
    refine lv_if_eq (tgt := 38) hx hb dX10_spotOf_26 (by decide) (fun c_ => ?_) (fun c_ => absurd c_ (by decide))
    refine lv_iconst (v := (-1)) hx hb dX10_spotOf_38 (by decide) ?_
    exact W.iret (v := (-1)) hx hb hr (fun t ht hW => ⟨(-1), rfl, (by first | rfl | (simp [so, c_2]; done)), ht⟩) (fun q h => absurd h List.not_mem_nil) dX10_spotOf_39
  · refine lv_iload_n hx hb dX10_spotOf_9 rfl (lv_at hl 1 rfl) ?_
    refine lv_iconst (v := 0) hx hb dX10_spotOf_10 (by decide) ?_
    refine lv_bipush (v := 23) hx hb dX10_spotOf_11 (by decide) ?_
    have hPc := hP.sub (ws' := []) [] rfl
    refine pc_i (va_runS (As := [.int v2, .int 0, .int 23]) (rest := []) ⟨hx, hb, hml, hown, hts⟩ (c_within l dC dI ca v2 0 23 ) (⟨callB_of 3 hts (gd mw_254) rfl rfl rfl (hts _ mw_1) (hts _ mw_252) ds_X10_within ⟨Nat.le_of_ble_eq_true rfl, Nat.le_of_ble_eq_true rfl⟩, (hts _ mw_253)⟩) (pu_S hPc hK hE) rfl rfl hl.1 rfl (lv_room (Nat.le_of_ble_eq_true rfl)) dX10_spotOf_13 ⟨Nat.le_of_ble_eq_true rfl, Nat.le_of_ble_eq_true rfl⟩) (fun rv_3 hw_ => ?_)
    obtain rfl : rv_3 = (wi v2 0 23) := hw_
    refine lv_if_eq (tgt := 23) hx hb dX10_spotOf_16 (by decide) (fun c_4 => ?_) (fun c_4 => ?_)
    · refine lv_iconst (v := 0) hx hb dX10_spotOf_23 (by decide) ?_
      refine lv_istore_n (lv' := [(2, .int 0), (0, .int v1), (1, .int v2)]) hx hb dX10_spotOf_24 rfl hl (by decide) rfl (fun ls hl => ?_)
      refine lv_iload_n hx hb dX10_spotOf_25 rfl (lv_at hl 0 rfl) ?_
      refine lv_if_eq (tgt := 38) hx hb dX10_spotOf_26 (by decide) (fun c_ => ?_) (fun c_ => absurd c_ (by decide))
      refine lv_iconst (v := (-1)) hx hb dX10_spotOf_38 (by decide) ?_
      exact W.iret (v := (-1)) hx hb hr (fun t ht hW => ⟨(-1), rfl, (by first | rfl | (simp [so, c_2, c_4]; done)), ht⟩) (fun q h => absurd h List.not_mem_nil) dX10_spotOf_39
    · refine lv_iconst (v := 1) hx hb dX10_spotOf_19 (by decide) ?_
      refine lv_goto (tgt := 24) hx hb dX10_spotOf_20 (by decide) ?_
      refine lv_istore_n (lv' := [(2, .int 1), (0, .int v1), (1, .int v2)]) hx hb dX10_spotOf_24 rfl hl (by decide) rfl (fun ls hl => ?_)
      refine lv_iload_n hx hb dX10_spotOf_25 rfl (lv_at hl 0 rfl) ?_
      refine lv_if_eq (tgt := 38) hx hb dX10_spotOf_26 (by decide) (fun c_ => absurd c_ (by decide)) (fun c_ => ?_)
      refine lv_iload_n hx hb dX10_spotOf_29 rfl (lv_at hl 1 rfl) ?_
      refine lv_bipush (v := 24) hx hb dX10_spotOf_30 (by decide) ?_
      refine lv_imul hx hb dX10_spotOf_32 ?_
      refine lv_iload_n hx hb dX10_spotOf_33 rfl (lv_at hl 2 rfl) ?_
      refine lv_iadd hx hb dX10_spotOf_34 ?_
      refine lv_goto (tgt := 39) hx hb dX10_spotOf_35 (by decide) ?_
      exact W.iret (v := ((v1 * 24) + v2)) hx hb hr (fun t ht hW => ⟨((v1 * 24) + v2), rfl, (by first | rfl | (simp [so, c_2, c_4]; done)), ht⟩) (fun q h => absurd h List.not_mem_nil) dX10_spotOf_39

set_option maxHeartbeats 4000000 in
set_option maxRecDepth 100000 in
theorem k_findLot (l : Launch) (dC : Nat → ClassId) (dI : Nat → Nat → Nat) (ca : Nat → ClassId) (x : Nat) (a : Nat → Nat) (nl : Nat) (nb : Nat) (np : Nat) (nx : Nat) (la : Nat → Nat) (v1 : Int32) (hn : nl ≤ 40) : Met l yX10_findLot (Cond.code yX10_findLot cX10_findLot 2 (some (.object "SugarKitchen$Lot")) :: gT) ({ frames := 2, cells := 0, slots := 0, locals := 82 }) (va_Pc [.ref x, .int v1] (pu (dC, dI) [(x, .inr (10, [.ref (a 0), .int (nI nl), .ref (a 2), .int (nI nb), .ref (a 4), .int (nI np), .ref (a 6), .int (nI nx), .ref (a 8), .ref (a 9), .ref (a 10), .ref (a 11), .ref (a 12), .ref (a 13), .ref (a 14)])), ((a 0), .inl (ca 5, 40, .inr (.inr (.inr (.inr (rA nl la))))))] (aT ca))) (va_Sq (fun r => r = fnd nl la v1)) 0 0 (fun _ => False) := by
  refine Met.ofW (cc := cX10_findLot) (maxL := 2) (ret := (some (.object "SugarKitchen$Lot"))) (by decide) rfl ?_
  intro p e s m args below meth c s₁ B hml hv
  obtain ⟨rfl, hP, hK, hE⟩ := hv
  have hx := B.exec
  have hb := B.bytes
  have hr := B.returns
  have hts : ∀ w ∈ gT, w.before _ s = true := fun w h => atoms_spec (ws := Cond.code yX10_findLot cX10_findLot 2 (some (.object "SugarKitchen$Lot")) :: gT) B.pre w (List.mem_cons_of_mem _ h)
  have hown : s.vm.findClass RX10 = some m.cls := findClass_of_methodNamed B.named
  have hlocks := B.notSynchronized
  have hl := lv_entry ([.ref x, .int v1]) (n := 2) (Nat.le_of_ble_eq_true rfl)
  rw [lg_entry_eq]
  generalize (lg_sl ([.ref x, .int v1]) ++ List.replicate (2 - (lg_sl ([.ref x, .int v1])).length) Slot.unset).toArray = ls at hl ⊢
  have hl : lv_has ls 2 [(0, .ref x), (1, .int v1)] := hl
  refine lv_iload_n hx hb dX10_findLot_0 rfl (lv_at hl 1 rfl) ?_
  refine lv_iconst (v := 0) hx hb dX10_findLot_1 (by decide) ?_
  refine lv_aload_n hx hb dX10_findLot_2 rfl (lv_at hl 0 rfl) ?_
  refine va_get (D := (dC, dI)) (ci := 10) (v := .int (nI nl)) (C := RX10) (T := TX10) (N := 15) hx hb hts inX10 hown hK hP 0 rfl rfl 1 (by decide) (hts _ mw_202) (fun _ h9 => h9) rfl dX10_findLot_3 ?_
  refine lv_iconst (v := 1) hx hb dX10_findLot_6 (by decide) ?_
  refine lv_isub hx hb dX10_findLot_7 ?_
  have hPc := hP.sub (ws' := []) [] rfl
  refine pc_i (va_runS (As := [.int v1, .int 0, .int ((nI nl) - 1)]) (rest := []) ⟨hx, hb, hml, hown, hts⟩ (c_within l dC dI ca v1 0 ((nI nl) - 1) ) (⟨callB_of 3 hts (gd mw_254) rfl rfl rfl (hts _ mw_1) (hts _ mw_252) ds_X10_within ⟨Nat.le_of_ble_eq_true rfl, Nat.le_of_ble_eq_true rfl⟩, (hts _ mw_253)⟩) (pu_S hPc hK hE) rfl rfl hl.1 rfl (lv_room (Nat.le_of_ble_eq_true rfl)) dX10_findLot_8 ⟨Nat.le_of_ble_eq_true rfl, Nat.le_of_ble_eq_true rfl⟩) (fun rv_1 hw_ => ?_)
  obtain rfl : rv_1 = (wi v1 0 ((nI nl) - 1)) := hw_
  refine lv_if_eq (tgt := 23) hx hb dX10_findLot_11 (by decide) (fun c_2 => ?_) (fun c_2 => ?_)
  · refine lv_null hx hb dX10_findLot_23 ?_
    exact W.aret (v := .null) hx hb hr (Or.inl ⟨_, rfl⟩) (Or.inl rfl) (fun t ht hW => ⟨none, rfl, (by unfold fnd; rw [if_pos c_2]), ht⟩) (fun q h => absurd h List.not_mem_nil) dX10_findLot_24
  · refine lv_aload_n hx hb dX10_findLot_14 rfl (lv_at hl 0 rfl) ?_
    refine va_get (D := (dC, dI)) (ci := 10) (v := .ref (a 0)) (C := RX10) (T := TX10) (N := 15) hx hb hts inX10 hown hK hP 0 rfl rfl 0 (by decide) (hts _ mw_201) (fun _ h9 => h9) rfl dX10_findLot_15 ?_
    refine lv_iload_n hx hb dX10_findLot_18 rfl (lv_at hl 1 rfl) ?_
    refine va_aldq hx hb hK hP 1 5 rfl rfl (wi_vpn (by omega) (by decide) c_2) dX10_findLot_19 ?_
    refine lv_goto (tgt := 24) hx hb dX10_findLot_20 (by decide) ?_
    exact W.aret (v := va_rf ((rA nl la) (v1 : Int32).toNatClampNeg)) hx hb hr (Or.inl ⟨_, rfl⟩) (va_rf_or ((rA nl la) (v1 : Int32).toNatClampNeg)) (fun t ht hW => ⟨((rA nl la) (v1 : Int32).toNatClampNeg), rfl, (fnd_rA (by omega) c_2), ht⟩) (fun q h => absurd h List.not_mem_nil) dX10_findLot_24

set_option maxHeartbeats 4000000 in
set_option maxRecDepth 100000 in
theorem k_findBatch (l : Launch) (dC : Nat → ClassId) (dI : Nat → Nat → Nat) (ca : Nat → ClassId) (x : Nat) (a : Nat → Nat) (nl : Nat) (nb : Nat) (np : Nat) (nx : Nat) (ba : Nat → Nat → Nat) (v1 : Int32) (hn : nb ≤ 40) : Met l yX10_findBatch (Cond.code yX10_findBatch cX10_findBatch 2 (some (.object "SugarKitchen$Batch")) :: gT) ({ frames := 2, cells := 0, slots := 0, locals := 82 }) (va_Pc [.ref x, .int v1] (pu (dC, dI) [(x, .inr (10, [.ref (a 0), .int (nI nl), .ref (a 2), .int (nI nb), .ref (a 4), .int (nI np), .ref (a 6), .int (nI nx), .ref (a 8), .ref (a 9), .ref (a 10), .ref (a 11), .ref (a 12), .ref (a 13), .ref (a 14)])), ((a 2), .inl (ca 6, 40, .inr (.inr (.inr (.inr (rA nb (bA0 ba)))))))] (aT ca))) (va_Sq (fun r => r = fnd nb (bA0 ba) v1)) 0 0 (fun _ => False) := by
  refine Met.ofW (cc := cX10_findBatch) (maxL := 2) (ret := (some (.object "SugarKitchen$Batch"))) (by decide) rfl ?_
  intro p e s m args below meth c s₁ B hml hv
  obtain ⟨rfl, hP, hK, hE⟩ := hv
  have hx := B.exec
  have hb := B.bytes
  have hr := B.returns
  have hts : ∀ w ∈ gT, w.before _ s = true := fun w h => atoms_spec (ws := Cond.code yX10_findBatch cX10_findBatch 2 (some (.object "SugarKitchen$Batch")) :: gT) B.pre w (List.mem_cons_of_mem _ h)
  have hown : s.vm.findClass RX10 = some m.cls := findClass_of_methodNamed B.named
  have hlocks := B.notSynchronized
  have hl := lv_entry ([.ref x, .int v1]) (n := 2) (Nat.le_of_ble_eq_true rfl)
  rw [lg_entry_eq]
  generalize (lg_sl ([.ref x, .int v1]) ++ List.replicate (2 - (lg_sl ([.ref x, .int v1])).length) Slot.unset).toArray = ls at hl ⊢
  have hl : lv_has ls 2 [(0, .ref x), (1, .int v1)] := hl
  refine lv_iload_n hx hb dX10_findBatch_0 rfl (lv_at hl 1 rfl) ?_
  refine lv_iconst (v := 0) hx hb dX10_findBatch_1 (by decide) ?_
  refine lv_aload_n hx hb dX10_findBatch_2 rfl (lv_at hl 0 rfl) ?_
  refine va_get (D := (dC, dI)) (ci := 10) (v := .int (nI nb)) (C := RX10) (T := TX10) (N := 15) hx hb hts inX10 hown hK hP 0 rfl rfl 3 (by decide) (hts _ mw_204) (fun _ h9 => h9) rfl dX10_findBatch_3 ?_
  refine lv_iconst (v := 1) hx hb dX10_findBatch_6 (by decide) ?_
  refine lv_isub hx hb dX10_findBatch_7 ?_
  have hPc := hP.sub (ws' := []) [] rfl
  refine pc_i (va_runS (As := [.int v1, .int 0, .int ((nI nb) - 1)]) (rest := []) ⟨hx, hb, hml, hown, hts⟩ (c_within l dC dI ca v1 0 ((nI nb) - 1) ) (⟨callB_of 3 hts (gd mw_254) rfl rfl rfl (hts _ mw_1) (hts _ mw_252) ds_X10_within ⟨Nat.le_of_ble_eq_true rfl, Nat.le_of_ble_eq_true rfl⟩, (hts _ mw_253)⟩) (pu_S hPc hK hE) rfl rfl hl.1 rfl (lv_room (Nat.le_of_ble_eq_true rfl)) dX10_findBatch_8 ⟨Nat.le_of_ble_eq_true rfl, Nat.le_of_ble_eq_true rfl⟩) (fun rv_1 hw_ => ?_)
  obtain rfl : rv_1 = (wi v1 0 ((nI nb) - 1)) := hw_
  refine lv_if_eq (tgt := 23) hx hb dX10_findBatch_11 (by decide) (fun c_2 => ?_) (fun c_2 => ?_)
  · refine lv_null hx hb dX10_findBatch_23 ?_
    exact W.aret (v := .null) hx hb hr (Or.inl ⟨_, rfl⟩) (Or.inl rfl) (fun t ht hW => ⟨none, rfl, (by unfold fnd; rw [if_pos c_2]), ht⟩) (fun q h => absurd h List.not_mem_nil) dX10_findBatch_24
  · refine lv_aload_n hx hb dX10_findBatch_14 rfl (lv_at hl 0 rfl) ?_
    refine va_get (D := (dC, dI)) (ci := 10) (v := .ref (a 2)) (C := RX10) (T := TX10) (N := 15) hx hb hts inX10 hown hK hP 0 rfl rfl 2 (by decide) (hts _ mw_203) (fun _ h9 => h9) rfl dX10_findBatch_15 ?_
    refine lv_iload_n hx hb dX10_findBatch_18 rfl (lv_at hl 1 rfl) ?_
    refine va_aldq hx hb hK hP 1 6 rfl rfl (wi_vpn (by omega) (by decide) c_2) dX10_findBatch_19 ?_
    refine lv_goto (tgt := 24) hx hb dX10_findBatch_20 (by decide) ?_
    exact W.aret (v := va_rf ((rA nb (bA0 ba)) (v1 : Int32).toNatClampNeg)) hx hb hr (Or.inl ⟨_, rfl⟩) (va_rf_or ((rA nb (bA0 ba)) (v1 : Int32).toNatClampNeg)) (fun t ht hW => ⟨((rA nb (bA0 ba)) (v1 : Int32).toNatClampNeg), rfl, (fnd_rA (by omega) c_2), ht⟩) (fun q h => absurd h List.not_mem_nil) dX10_findBatch_24

set_option maxHeartbeats 4000000 in
set_option maxRecDepth 100000 in
theorem k_findPiece (l : Launch) (dC : Nat → ClassId) (dI : Nat → Nat → Nat) (ca : Nat → ClassId) (x : Nat) (a : Nat → Nat) (nl : Nat) (nb : Nat) (np : Nat) (nx : Nat) (pa : Nat → Nat) (v1 : Int32) (hn : np ≤ 600) : Met l yX10_findPiece (Cond.code yX10_findPiece cX10_findPiece 2 (some (.object "SugarKitchen$Piece")) :: gT) ({ frames := 2, cells := 0, slots := 0, locals := 82 }) (va_Pc [.ref x, .int v1] (pu (dC, dI) [(x, .inr (10, [.ref (a 0), .int (nI nl), .ref (a 2), .int (nI nb), .ref (a 4), .int (nI np), .ref (a 6), .int (nI nx), .ref (a 8), .ref (a 9), .ref (a 10), .ref (a 11), .ref (a 12), .ref (a 13), .ref (a 14)])), ((a 4), .inl (ca 7, 600, .inr (.inr (.inr (.inr (rA np pa))))))] (aT ca))) (va_Sq (fun r => r = fnd np pa v1)) 0 0 (fun _ => False) := by
  refine Met.ofW (cc := cX10_findPiece) (maxL := 2) (ret := (some (.object "SugarKitchen$Piece"))) (by decide) rfl ?_
  intro p e s m args below meth c s₁ B hml hv
  obtain ⟨rfl, hP, hK, hE⟩ := hv
  have hx := B.exec
  have hb := B.bytes
  have hr := B.returns
  have hts : ∀ w ∈ gT, w.before _ s = true := fun w h => atoms_spec (ws := Cond.code yX10_findPiece cX10_findPiece 2 (some (.object "SugarKitchen$Piece")) :: gT) B.pre w (List.mem_cons_of_mem _ h)
  have hown : s.vm.findClass RX10 = some m.cls := findClass_of_methodNamed B.named
  have hlocks := B.notSynchronized
  have hl := lv_entry ([.ref x, .int v1]) (n := 2) (Nat.le_of_ble_eq_true rfl)
  rw [lg_entry_eq]
  generalize (lg_sl ([.ref x, .int v1]) ++ List.replicate (2 - (lg_sl ([.ref x, .int v1])).length) Slot.unset).toArray = ls at hl ⊢
  have hl : lv_has ls 2 [(0, .ref x), (1, .int v1)] := hl
  refine lv_iload_n hx hb dX10_findPiece_0 rfl (lv_at hl 1 rfl) ?_
  refine lv_iconst (v := 0) hx hb dX10_findPiece_1 (by decide) ?_
  refine lv_aload_n hx hb dX10_findPiece_2 rfl (lv_at hl 0 rfl) ?_
  refine va_get (D := (dC, dI)) (ci := 10) (v := .int (nI np)) (C := RX10) (T := TX10) (N := 15) hx hb hts inX10 hown hK hP 0 rfl rfl 5 (by decide) (hts _ mw_206) (fun _ h9 => h9) rfl dX10_findPiece_3 ?_
  refine lv_iconst (v := 1) hx hb dX10_findPiece_6 (by decide) ?_
  refine lv_isub hx hb dX10_findPiece_7 ?_
  have hPc := hP.sub (ws' := []) [] rfl
  refine pc_i (va_runS (As := [.int v1, .int 0, .int ((nI np) - 1)]) (rest := []) ⟨hx, hb, hml, hown, hts⟩ (c_within l dC dI ca v1 0 ((nI np) - 1) ) (⟨callB_of 3 hts (gd mw_254) rfl rfl rfl (hts _ mw_1) (hts _ mw_252) ds_X10_within ⟨Nat.le_of_ble_eq_true rfl, Nat.le_of_ble_eq_true rfl⟩, (hts _ mw_253)⟩) (pu_S hPc hK hE) rfl rfl hl.1 rfl (lv_room (Nat.le_of_ble_eq_true rfl)) dX10_findPiece_8 ⟨Nat.le_of_ble_eq_true rfl, Nat.le_of_ble_eq_true rfl⟩) (fun rv_1 hw_ => ?_)
  obtain rfl : rv_1 = (wi v1 0 ((nI np) - 1)) := hw_
  refine lv_if_eq (tgt := 23) hx hb dX10_findPiece_11 (by decide) (fun c_2 => ?_) (fun c_2 => ?_)
  · refine lv_null hx hb dX10_findPiece_23 ?_
    exact W.aret (v := .null) hx hb hr (Or.inl ⟨_, rfl⟩) (Or.inl rfl) (fun t ht hW => ⟨none, rfl, (by unfold fnd; rw [if_pos c_2]), ht⟩) (fun q h => absurd h List.not_mem_nil) dX10_findPiece_24
  · refine lv_aload_n hx hb dX10_findPiece_14 rfl (lv_at hl 0 rfl) ?_
    refine va_get (D := (dC, dI)) (ci := 10) (v := .ref (a 4)) (C := RX10) (T := TX10) (N := 15) hx hb hts inX10 hown hK hP 0 rfl rfl 4 (by decide) (hts _ mw_205) (fun _ h9 => h9) rfl dX10_findPiece_15 ?_
    refine lv_iload_n hx hb dX10_findPiece_18 rfl (lv_at hl 1 rfl) ?_
    refine va_aldq hx hb hK hP 1 7 rfl rfl (wi_vpn (by omega) (by decide) c_2) dX10_findPiece_19 ?_
    refine lv_goto (tgt := 24) hx hb dX10_findPiece_20 (by decide) ?_
    exact W.aret (v := va_rf ((rA np pa) (v1 : Int32).toNatClampNeg)) hx hb hr (Or.inl ⟨_, rfl⟩) (va_rf_or ((rA np pa) (v1 : Int32).toNatClampNeg)) (fun t ht hW => ⟨((rA np pa) (v1 : Int32).toNatClampNeg), rfl, (fnd_rA (by omega) c_2), ht⟩) (fun q h => absurd h List.not_mem_nil) dX10_findPiece_24

set_option maxHeartbeats 4000000 in
set_option maxRecDepth 100000 in
theorem k_findBox (l : Launch) (dC : Nat → ClassId) (dI : Nat → Nat → Nat) (ca : Nat → ClassId) (x : Nat) (a : Nat → Nat) (nl : Nat) (nb : Nat) (np : Nat) (nx : Nat) (xa : Nat → Nat → Nat) (v1 : Int32) (hn : nx ≤ 200) : Met l yX10_findBox (Cond.code yX10_findBox cX10_findBox 2 (some (.object "SugarKitchen$Box")) :: gT) ({ frames := 2, cells := 0, slots := 0, locals := 82 }) (va_Pc [.ref x, .int v1] (pu (dC, dI) [(x, .inr (10, [.ref (a 0), .int (nI nl), .ref (a 2), .int (nI nb), .ref (a 4), .int (nI np), .ref (a 6), .int (nI nx), .ref (a 8), .ref (a 9), .ref (a 10), .ref (a 11), .ref (a 12), .ref (a 13), .ref (a 14)])), ((a 6), .inl (ca 8, 200, .inr (.inr (.inr (.inr (rA nx (bA0 xa)))))))] (aT ca))) (va_Sq (fun r => r = fnd nx (bA0 xa) v1)) 0 0 (fun _ => False) := by
  refine Met.ofW (cc := cX10_findBox) (maxL := 2) (ret := (some (.object "SugarKitchen$Box"))) (by decide) rfl ?_
  intro p e s m args below meth c s₁ B hml hv
  obtain ⟨rfl, hP, hK, hE⟩ := hv
  have hx := B.exec
  have hb := B.bytes
  have hr := B.returns
  have hts : ∀ w ∈ gT, w.before _ s = true := fun w h => atoms_spec (ws := Cond.code yX10_findBox cX10_findBox 2 (some (.object "SugarKitchen$Box")) :: gT) B.pre w (List.mem_cons_of_mem _ h)
  have hown : s.vm.findClass RX10 = some m.cls := findClass_of_methodNamed B.named
  have hlocks := B.notSynchronized
  have hl := lv_entry ([.ref x, .int v1]) (n := 2) (Nat.le_of_ble_eq_true rfl)
  rw [lg_entry_eq]
  generalize (lg_sl ([.ref x, .int v1]) ++ List.replicate (2 - (lg_sl ([.ref x, .int v1])).length) Slot.unset).toArray = ls at hl ⊢
  have hl : lv_has ls 2 [(0, .ref x), (1, .int v1)] := hl
  refine lv_iload_n hx hb dX10_findBox_0 rfl (lv_at hl 1 rfl) ?_
  refine lv_iconst (v := 0) hx hb dX10_findBox_1 (by decide) ?_
  refine lv_aload_n hx hb dX10_findBox_2 rfl (lv_at hl 0 rfl) ?_
  refine va_get (D := (dC, dI)) (ci := 10) (v := .int (nI nx)) (C := RX10) (T := TX10) (N := 15) hx hb hts inX10 hown hK hP 0 rfl rfl 7 (by decide) (hts _ mw_208) (fun _ h9 => h9) rfl dX10_findBox_3 ?_
  refine lv_iconst (v := 1) hx hb dX10_findBox_6 (by decide) ?_
  refine lv_isub hx hb dX10_findBox_7 ?_
  have hPc := hP.sub (ws' := []) [] rfl
  refine pc_i (va_runS (As := [.int v1, .int 0, .int ((nI nx) - 1)]) (rest := []) ⟨hx, hb, hml, hown, hts⟩ (c_within l dC dI ca v1 0 ((nI nx) - 1) ) (⟨callB_of 3 hts (gd mw_254) rfl rfl rfl (hts _ mw_1) (hts _ mw_252) ds_X10_within ⟨Nat.le_of_ble_eq_true rfl, Nat.le_of_ble_eq_true rfl⟩, (hts _ mw_253)⟩) (pu_S hPc hK hE) rfl rfl hl.1 rfl (lv_room (Nat.le_of_ble_eq_true rfl)) dX10_findBox_8 ⟨Nat.le_of_ble_eq_true rfl, Nat.le_of_ble_eq_true rfl⟩) (fun rv_1 hw_ => ?_)
  obtain rfl : rv_1 = (wi v1 0 ((nI nx) - 1)) := hw_
  refine lv_if_eq (tgt := 23) hx hb dX10_findBox_11 (by decide) (fun c_2 => ?_) (fun c_2 => ?_)
  · refine lv_null hx hb dX10_findBox_23 ?_
    exact W.aret (v := .null) hx hb hr (Or.inl ⟨_, rfl⟩) (Or.inl rfl) (fun t ht hW => ⟨none, rfl, (by unfold fnd; rw [if_pos c_2]), ht⟩) (fun q h => absurd h List.not_mem_nil) dX10_findBox_24
  · refine lv_aload_n hx hb dX10_findBox_14 rfl (lv_at hl 0 rfl) ?_
    refine va_get (D := (dC, dI)) (ci := 10) (v := .ref (a 6)) (C := RX10) (T := TX10) (N := 15) hx hb hts inX10 hown hK hP 0 rfl rfl 6 (by decide) (hts _ mw_207) (fun _ h9 => h9) rfl dX10_findBox_15 ?_
    refine lv_iload_n hx hb dX10_findBox_18 rfl (lv_at hl 1 rfl) ?_
    refine va_aldq hx hb hK hP 1 8 rfl rfl (wi_vpn (by omega) (by decide) c_2) dX10_findBox_19 ?_
    refine lv_goto (tgt := 24) hx hb dX10_findBox_20 (by decide) ?_
    exact W.aret (v := va_rf ((rA nx (bA0 xa)) (v1 : Int32).toNatClampNeg)) hx hb hr (Or.inl ⟨_, rfl⟩) (va_rf_or ((rA nx (bA0 xa)) (v1 : Int32).toNatClampNeg)) (fun t ht hW => ⟨((rA nx (bA0 xa)) (v1 : Int32).toNatClampNeg), rfl, (fnd_rA (by omega) c_2), ht⟩) (fun q h => absurd h List.not_mem_nil) dX10_findBox_24
