/-! ===== sets as bits ===== -/
theorem tb_and (a b : Nat) : nI a &&& nI b = nI (a &&& b) := by
  apply Int32.toBitVec_inj.1
  show BitVec.ofNat 32 a &&& BitVec.ofNat 32 b = BitVec.ofNat 32 (a &&& b)
  apply BitVec.eq_of_getLsbD_eq
  intro i hi
  simp [hi]
/-- how many of the first n bits -/
def tb_ct (p : Nat → Bool) : Nat → Nat
  | 0 => 0
  | n + 1 => tb_ct p n + (if p n then 1 else 0)
theorem tb_cg {p q : Nat → Bool} : ∀ {n : Nat}, (∀ k, k < n → p k = q k) → tb_ct p n = tb_ct q n
  | 0, _ => rfl
  | n + 1, h => by
    show tb_ct p n + _ = tb_ct q n + _
    rw [tb_cg (fun k hk => h k (by omega)), h n (by omega)]
theorem tb_off {p q : Nat → Bool} {i : Nat} (hp : p i = true) (hq : q i = false) : ∀ {n : Nat}, i < n → (∀ k, k < n → k ≠ i → q k = p k) → tb_ct q n + 1 = tb_ct p n
  | 0, h, _ => absurd h (by omega)
  | n + 1, h, hk => by
    show tb_ct q n + _ + 1 = tb_ct p n + _
    by_cases e : i = n
    · subst e
      rw [hp, hq, tb_cg (p := q) (q := p) (fun k h2 => hk k (by omega) (by omega))]
      simp
    · have := tb_off hp hq (n := n) (by omega) (fun k h2 => hk k (by omega))
      rw [hk n (by omega) (fun h9 => e h9.symm)]
      omega
def pcn (fe : Nat) : Nat := tb_ct (fun k => fe.testBit k) 14
theorem tb_le (p : Nat → Bool) : ∀ n, tb_ct p n ≤ n
  | 0 => Nat.le_refl _
  | n + 1 => by
    have := tb_le p n
    show tb_ct p n + _ ≤ n + 1
    split <;> omega
theorem pcn_le (fe : Nat) : pcn fe ≤ 14 := tb_le _ 14
/-- without the bit i -/
abbrev clr (fe i : Nat) : Nat := fe &&& (4294967295 - 2 ^ i)
theorem tb_mask : ∀ i : Fin 14, ∀ k : Fin 14, (4294967295 - 2 ^ i.val).testBit k.val = decide (¬ k.val = i.val) := by decide +kernel
theorem tb_shl : ∀ i : Fin 15, (1 : Int32) <<< (nI i.val &&& 31) = nI (2 ^ i.val) := by decide +kernel
theorem tb_xm : ∀ i : Fin 14, nI (2 ^ i.val) ^^^ (-1) = nI (4294967295 - 2 ^ i.val) := by decide +kernel
theorem tb_sh {i : Nat} (h : i < 15) : (1 : Int32) <<< (nI i &&& 31) = nI (2 ^ i) := tb_shl ⟨i, h⟩
theorem tb_x {i : Nat} (h : i < 14) : nI (2 ^ i) ^^^ (-1) = nI (4294967295 - 2 ^ i) := tb_xm ⟨i, h⟩
theorem clr_bit {fe i k : Nat} (hi : i < 14) (hk : k < 14) : (clr fe i).testBit k = (fe.testBit k && decide (¬ k = i)) := by
  rw [Nat.testBit_and, tb_mask ⟨i, hi⟩ ⟨k, hk⟩]
theorem clr_le (fe i : Nat) : clr fe i ≤ fe := Nat.and_le_left
theorem clr_pc {fe i : Nat} (hi : i < 14) (h : fe.testBit i = true) : pcn (clr fe i) + 1 = pcn fe :=
  tb_off h (by rw [clr_bit hi hi]; simp) hi (fun k hk hne => by rw [clr_bit hi hk]; simp [hne])
theorem clr_pc0 {fe i : Nat} (hi : i < 14) : pcn (clr fe i) ≤ pcn fe := by
  cases h : fe.testBit i with
  | true => have := clr_pc hi h; omega
  | false =>
    refine Nat.le_of_eq (tb_cg fun k hk => ?_)
    rw [clr_bit hi hk]
    by_cases e : k = i
    · subst e; rw [h]; rfl
    · simp [e]
def fre (v1 v2 : Int32) : Int32 := if ((v1 >>> (v2 &&& 31)) &&& 1) = 0 then 0 else 1
theorem fre_z (v1 v2 : Int32) : fre v1 v2 = 0 ∨ fre v1 v2 = 1 := by
  unfold fre
  split
  · exact Or.inl rfl
  · exact Or.inr rfl
theorem fre_bit {fe i : Nat} (hf : fe < 2 ^ 31) (hi : i < 31) (h : ¬ fre (nI fe) (nI i) = 0) : fe.testBit i = true := by
  have hs : (nI fe) >>> (nI i &&& 31) = nI (fe / 2 ^ i) := pk_shrN hf (nI i &&& 31) i (by
    have e1 : nI i &&& 31 = nI i := by
      have := tb_and i 31
      rw [show (31 : Int32) = nI 31 from rfl, this, show i &&& 31 = i from by
        have := Nat.and_two_pow_sub_one_eq_mod i 5
        rw [show (2 ^ 5 - 1 : Nat) = 31 from rfl] at this
        rw [this]; omega]
    rw [e1]
    have hr : ∀ q : Fin 31, ((nI q.val).toBitVec.smod 32).toNat = q.val := by decide +kernel
    exact hr ⟨i, hi⟩)
  unfold fre at h
  rw [hs] at h
  have h1 : ¬ (nI (fe / 2 ^ i) &&& 1) = 0 := fun e => h (by rw [if_pos e])
  rw [show (1 : Int32) = nI 1 from rfl, tb_and, Nat.and_one_is_mod] at h1
  rw [Nat.testBit_eq_decide_div_mod_eq]
  rcases Nat.mod_two_eq_zero_or_one (fe / 2 ^ i) with e | e
  · rw [e] at h1; exact absurd rfl h1
  · simp [e]

set_option maxHeartbeats 4000000 in
set_option maxRecDepth 100000 in
theorem q_isFree (l : Launch) (dC : Nat → ClassId) (dI : Nat → Nat → Nat) (ca : Nat → ClassId) (h : Nat) (v1 : Int32) (v2 : Int32) : Met l yX5_isFree (Cond.code yX5_isFree cX5_isFree 3 (some .boolean) :: gT) ({ frames := 1, cells := 0, slots := 0, locals := 60 }) (va_Pc [.ref h, .int v1, .int v2] (pu (dC, dI) [] (aT ca))) (vp_Si (fun r => r = fre v1 v2)) 0 0 (fun _ => False) := by
  refine Met.ofW (cc := cX5_isFree) (maxL := 3) (ret := (some .boolean)) (by decide) rfl ?_
  intro p e s m args below meth c s₁ B hml hv
  obtain ⟨rfl, hP, hK, hE⟩ := hv
  have hx := B.exec
  have hb := B.bytes
  have hr := B.returns
  have hts : ∀ w ∈ gT, w.before _ s = true := fun w h => atoms_spec (ws := Cond.code yX5_isFree cX5_isFree 3 (some .boolean) :: gT) B.pre w (List.mem_cons_of_mem _ h)
  have hown : s.vm.findClass RX5 = some m.cls := findClass_of_methodNamed B.named
  have hlocks := B.notSynchronized
  have hl := lv_entry ([.ref h, .int v1, .int v2]) (n := 3) (Nat.le_of_ble_eq_true rfl)
  rw [lg_entry_eq]
  generalize (lg_sl ([.ref h, .int v1, .int v2]) ++ List.replicate (3 - (lg_sl ([.ref h, .int v1, .int v2])).length) Slot.unset).toArray = ls at hl ⊢
  have hl : lv_has ls 3 [(0, .ref h), (1, .int v1), (2, .int v2)] := hl
  refine lv_iload_n hx hb dX5_isFree_0 rfl (lv_at hl 1 rfl) ?_
  refine lv_iload_n hx hb dX5_isFree_1 rfl (lv_at hl 2 rfl) ?_
  refine lv_ishr hx hb dX5_isFree_2 ?_
  refine lv_iconst (v := 1) hx hb dX5_isFree_3 (by decide) ?_
  refine lv_iand hx hb dX5_isFree_4 ?_
  refine lv_if_eq (tgt := 12) hx hb dX5_isFree_5 (by decide) (fun c_1 => ?_) (fun c_1 => ?_)
  · refine lv_iconst (v := 0) hx hb dX5_isFree_12 (by decide) ?_
    exact W.zret (v := 0) (ty := .boolean) hx hb hr rfl (fun t ht hW => ⟨0, rfl, (by unfold fre; simp [c_1]), ht⟩) (fun q h => absurd h List.not_mem_nil) dX5_isFree_13
  · refine lv_iconst (v := 1) hx hb dX5_isFree_8 (by decide) ?_
    refine lv_goto (tgt := 13) hx hb dX5_isFree_9 (by decide) ?_
    exact W.zret (v := 1) (ty := .boolean) hx hb hr rfl (fun t ht hW => ⟨1, rfl, (by unfold fre; simp [c_1]), ht⟩) (fun q h => absurd h List.not_mem_nil) dX5_isFree_13

theorem fre_nobit {fe i : Nat} (hf : fe < 2 ^ 31) (hi : i < 31) (h : fre (nI fe) (nI i) = 0) : fe.testBit i = false := by
  cases hb : fe.testBit i with
  | false => rfl
  | true =>
    exfalso
    have hs : (nI fe) >>> (nI i &&& 31) = nI (fe / 2 ^ i) := pk_shrN hf (nI i &&& 31) i (by
      have e1 : nI i &&& 31 = nI i := by
        have := tb_and i 31
        rw [show (31 : Int32) = nI 31 from rfl, this, show i &&& 31 = i from by
          have := Nat.and_two_pow_sub_one_eq_mod i 5
          rw [show (2 ^ 5 - 1 : Nat) = 31 from rfl] at this
          rw [this]; omega]
      rw [e1]
      have hr : ∀ q : Fin 31, ((nI q.val).toBitVec.smod 32).toNat = q.val := by decide +kernel
      exact hr ⟨i, hi⟩)
    unfold fre at h
    rw [hs, show (1 : Int32) = nI 1 from rfl, tb_and, Nat.and_one_is_mod] at h
    rw [Nat.testBit_eq_decide_div_mod_eq] at hb
    have h1 : fe / 2 ^ i % 2 = 1 := by simpa using hb
    rw [h1] at h
    exact absurd h (by decide)

def MetM (l : Launch) (dC : Nat → ClassId) (dI : Nat → Nat → Nat) (ca : Nat → ClassId) (d : Nat) : Prop := ∀ (sz : Nat) (h : Nat) (pwa : Nat) (pm : Nat) (lw : Int32) (hg : Int32) (kq : Nat) (kl : Nat) (pw : Nat → Int32) (KN : Nat → Int32) (fe : Nat) (v2 : Int32) (hpm : pm ≤ 14) (hkl : 2 ^ pm ≤ kl) (hkx : kl ≤ 16384) (hfe : fe < 2 ^ pm) (hpc : pcn fe ≤ d), Met l yX5_mostOf (Cond.code yX5_mostOf cX5_mostOf 10 (some .int) :: gT) ({ frames := (2 * d + 2), cells := 0, slots := 0, locals := (101 + 59 * d) }) (va_Pc [.ref h, .int (nI fe), .int v2] (pr (dC, dI) sz [(h, .inr (5, [.ref pwa, .int (nI pm), .int lw, .int hg, .ref kq])), (pwa, .inl (ca 0, 14, .inl pw)), (kq, .inl (ca 2, kl, .inl KN))] (aT ca))) (va_Qi (fun (r : Int32) (u_ : (Nat → Int32)) => True) (fun (u_ : (Nat → Int32)) t => va_P (dC, dI) vwCl [(h, .inr (5, [.ref pwa, .int (nI pm), .int lw, .int hg, .ref kq])), (pwa, .inl (ca 0, 14, .inl pw)), (kq, .inl (ca 2, kl, .inl u_))] t.heap ∧ va_D (va_A [(h, .inr (5, [.ref pwa, .int (nI pm), .int lw, .int hg, .ref kq])), (pwa, .inl (ca 0, 14, .inl pw)), (kq, .inl (ca 2, kl, .inl KN))] sz) [(h, .inr (5, [.ref pwa, .int (nI pm), .int lw, .int hg, .ref kq])), (pwa, .inl (ca 0, 14, .inl pw)), (kq, .inl (ca 2, kl, .inl u_))]) (va_A [(h, .inr (5, [.ref pwa, .int (nI pm), .int lw, .int hg, .ref kq])), (pwa, .inl (ca 0, 14, .inl pw)), (kq, .inl (ca 2, kl, .inl KN))] sz)) 0 0 (va_A [(h, .inr (5, [.ref pwa, .int (nI pm), .int lw, .int hg, .ref kq])), (pwa, .inl (ca 0, 14, .inl pw)), (kq, .inl (ca 2, kl, .inl KN))] sz)

def MetF (l : Launch) (dC : Nat → ClassId) (dI : Nat → Nat → Nat) (ca : Nat → ClassId) (d : Nat) : Prop := ∀ (sz : Nat) (h : Nat) (pwa : Nat) (pm : Nat) (lw : Int32) (hg : Int32) (kq : Nat) (kl : Nat) (pw : Nat → Int32) (KN : Nat → Int32) (fe : Nat) (v2 : Int32) (fr : Nat) (v4 : Int32) (v5 : Int32) (hpm : pm ≤ 14) (hkl : 2 ^ pm ≤ kl) (hkx : kl ≤ 16384) (hfe : fe < 2 ^ pm) (hpc : pcn fe ≤ d) (hfr : fr ≤ pm), Met l yX5_fillBox (Cond.code yX5_fillBox cX5_fillBox 11 (some .int) :: gT) ({ frames := (2 * d + 3), cells := 0, slots := 0, locals := (130 + 59 * d) }) (va_Pc [.ref h, .int (nI fe), .int v2, .int (nI fr), .int v4, .int v5] (pr (dC, dI) sz [(h, .inr (5, [.ref pwa, .int (nI pm), .int lw, .int hg, .ref kq])), (pwa, .inl (ca 0, 14, .inl pw)), (kq, .inl (ca 2, kl, .inl KN))] (aT ca))) (va_Qi (fun (r : Int32) (u_ : (Nat → Int32)) => True) (fun (u_ : (Nat → Int32)) t => va_P (dC, dI) vwCl [(h, .inr (5, [.ref pwa, .int (nI pm), .int lw, .int hg, .ref kq])), (pwa, .inl (ca 0, 14, .inl pw)), (kq, .inl (ca 2, kl, .inl u_))] t.heap ∧ va_D (va_A [(h, .inr (5, [.ref pwa, .int (nI pm), .int lw, .int hg, .ref kq])), (pwa, .inl (ca 0, 14, .inl pw)), (kq, .inl (ca 2, kl, .inl KN))] sz) [(h, .inr (5, [.ref pwa, .int (nI pm), .int lw, .int hg, .ref kq])), (pwa, .inl (ca 0, 14, .inl pw)), (kq, .inl (ca 2, kl, .inl u_))]) (va_A [(h, .inr (5, [.ref pwa, .int (nI pm), .int lw, .int hg, .ref kq])), (pwa, .inl (ca 0, 14, .inl pw)), (kq, .inl (ca 2, kl, .inl KN))] sz)) 0 0 (va_A [(h, .inr (5, [.ref pwa, .int (nI pm), .int lw, .int hg, .ref kq])), (pwa, .inl (ca 0, 14, .inl pw)), (kq, .inl (ca 2, kl, .inl KN))] sz)

set_option maxHeartbeats 4000000 in
set_option maxRecDepth 100000 in
theorem q_most (l : Launch) (dC : Nat → ClassId) (dI : Nat → Nat → Nat) (ca : Nat → ClassId) (d : Nat) (ihR : ∀ k, k < d → MetM l dC dI ca k ∧ MetF l dC dI ca k) (sz : Nat) (h : Nat) (pwa : Nat) (pm : Nat) (lw : Int32) (hg : Int32) (kq : Nat) (kl : Nat) (pw : Nat → Int32) (KN : Nat → Int32) (fe : Nat) (v2 : Int32) (hpm : pm ≤ 14) (hkl : 2 ^ pm ≤ kl) (hkx : kl ≤ 16384) (hfe : fe < 2 ^ pm) (hpc : pcn fe ≤ d) : Met l yX5_mostOf (Cond.code yX5_mostOf cX5_mostOf 10 (some .int) :: gT) ({ frames := (2 * d + 2), cells := 0, slots := 0, locals := (101 + 59 * d) }) (va_Pc [.ref h, .int (nI fe), .int v2] (pr (dC, dI) sz [(h, .inr (5, [.ref pwa, .int (nI pm), .int lw, .int hg, .ref kq])), (pwa, .inl (ca 0, 14, .inl pw)), (kq, .inl (ca 2, kl, .inl KN))] (aT ca))) (va_Qi (fun (r : Int32) (u_ : (Nat → Int32)) => True) (fun (u_ : (Nat → Int32)) t => va_P (dC, dI) vwCl [(h, .inr (5, [.ref pwa, .int (nI pm), .int lw, .int hg, .ref kq])), (pwa, .inl (ca 0, 14, .inl pw)), (kq, .inl (ca 2, kl, .inl u_))] t.heap ∧ va_D (va_A [(h, .inr (5, [.ref pwa, .int (nI pm), .int lw, .int hg, .ref kq])), (pwa, .inl (ca 0, 14, .inl pw)), (kq, .inl (ca 2, kl, .inl KN))] sz) [(h, .inr (5, [.ref pwa, .int (nI pm), .int lw, .int hg, .ref kq])), (pwa, .inl (ca 0, 14, .inl pw)), (kq, .inl (ca 2, kl, .inl u_))]) (va_A [(h, .inr (5, [.ref pwa, .int (nI pm), .int lw, .int hg, .ref kq])), (pwa, .inl (ca 0, 14, .inl pw)), (kq, .inl (ca 2, kl, .inl KN))] sz)) 0 0 (va_A [(h, .inr (5, [.ref pwa, .int (nI pm), .int lw, .int hg, .ref kq])), (pwa, .inl (ca 0, 14, .inl pw)), (kq, .inl (ca 2, kl, .inl KN))] sz) := by
  refine Met.ofW (cc := cX5_mostOf) (maxL := 10) (ret := (some .int)) (by decide) rfl ?_
  intro p e s m args below meth c s₁ B hml hv
  obtain ⟨rfl, hsz, hP, hK, hD0, hE⟩ := hv
  have hx := B.exec
  have hb := B.bytes
  have hr := B.returns
  have hts : ∀ w ∈ gT, w.before _ s = true := fun w h => atoms_spec (ws := Cond.code yX5_mostOf cX5_mostOf 10 (some .int) :: gT) B.pre w (List.mem_cons_of_mem _ h)
  have hown : s.vm.findClass RX5 = some m.cls := findClass_of_methodNamed B.named
  have hlocks := B.notSynchronized
  subst hsz
  have hD := hD0.self (sz := s.heap.size)
  generalize hAe : va_A [(h, .inr (5, [.ref pwa, .int (nI pm), .int lw, .int hg, .ref kq])), (pwa, .inl (ca 0, 14, .inl pw)), (kq, .inl (ca 2, kl, .inl KN))] s.heap.size = A at hD ⊢
  have hA : ∀ q : Nat, s.heap.size ≤ q → A q := fun q h => by rw [← hAe]; exact Or.inr h
  have hS : va_S A s.heap s.heap [] := va_S.rf
  have hl := lv_entry ([.ref h, .int (nI fe), .int v2]) (n := 10) (Nat.le_of_ble_eq_true rfl)
  rw [lg_entry_eq]
  generalize (lg_sl ([.ref h, .int (nI fe), .int v2]) ++ List.replicate (10 - (lg_sl ([.ref h, .int (nI fe), .int v2])).length) Slot.unset).toArray = ls at hl ⊢
  have hl : lv_has ls 10 [(0, .ref h), (1, .int (nI fe)), (2, .int v2)] := hl
  have hp2 := Nat.pow_le_pow_right (show 0 < 2 by decide) hpm
  refine lv_iload_n hx hb dX5_mostOf_0 rfl (lv_at hl 2 rfl) ?_
  refine lv_aload_n hx hb dX5_mostOf_1 rfl (lv_at hl 0 rfl) ?_
  refine va_get (D := (dC, dI)) (ci := 5) (v := .int lw) (C := RX5) (T := TX5) (N := 5) hx hb hts inX5 hown hK hP 0 rfl rfl 2 (by decide) (hts _ mw_186) (fun _ h9 => h9) rfl dX5_mostOf_2 ?_
  refine lv_icmp_ge (tgt := 10) hx hb dX5_mostOf_5 (by decide) (fun c_1 => ?_) (fun c_1 => ?_)
  · refine lv_aload_n hx hb dX5_mostOf_10 rfl (lv_at hl 0 rfl) ?_
    refine va_get (D := (dC, dI)) (ci := 5) (v := .ref kq) (C := RX5) (T := TX5) (N := 5) hx hb hts inX5 hown hK hP 0 rfl rfl 4 (by decide) (hts _ mw_188) (fun _ h9 => h9) rfl dX5_mostOf_11 ?_
    refine lv_iload_n hx hb dX5_mostOf_14 rfl (lv_at hl 1 rfl) ?_
    refine va_bald hx hb hK hP 2 2 rfl rfl (vp_in_nI (show fe < kl by omega) (by omega)) dX5_mostOf_15 ?_
    refine lv_topi (fun y_ e_ => ?_)
    obtain rfl : y_ = (KN fe) := e_.trans (congrArg KN (show ((nI fe) : Int32).toNatClampNeg = fe from nI_clamp (by omega)))
    refine lv_iconst (v := (-1)) hx hb dX5_mostOf_16 (by decide) ?_
    refine lv_icmp_eq (tgt := 27) hx hb dX5_mostOf_17 (by decide) (fun c_2 => ?_) (fun c_2 => ?_)
    · refine lv_iconst (v := 0) hx hb dX5_mostOf_27 (by decide) ?_
      refine lv_istore_n (lv' := [(3, .int 0), (0, .ref h), (1, .int (nI fe)), (2, .int v2)]) hx hb dX5_mostOf_28 rfl hl (by decide) rfl (fun ls hl => ?_)
      refine wl_loop (fun (z_ : Nat) H locs ls => (z_ ≤ pm) ∧ va_P (dC, dI) vwCl [(h, .inr (5, [.ref pwa, .int (nI pm), .int lw, .int hg, .ref kq])), (pwa, .inl (ca 0, 14, .inl pw)), (kq, .inl (ca 2, kl, .inl KN))] H ∧ va_D A [(h, .inr (5, [.ref pwa, .int (nI pm), .int lw, .int hg, .ref kq])), (pwa, .inl (ca 0, 14, .inl pw)), (kq, .inl (ca 2, kl, .inl KN))] ∧ va_S A s.heap H locs ∧ lv_has ls 10 [(3, .int (nI z_)), (0, .ref h), (1, .int (nI fe)), (2, .int v2)]) (fun (z_ : Nat) => pm - z_) (fun z_ H locs ls hI ih => ?_) 0 ⟨(Nat.zero_le _), hP, hD, hS, lv_sub hl [0, 1, 2, 3] rfl⟩
      revert hI ih; revert z_; intro ld hI ih
      obtain ⟨hld, hP, hD, hS, hl⟩ := hI
      refine lv_iload_n hx hb dX5_mostOf_29 rfl (lv_at hl 0 rfl) ?_
      refine lv_aload_n hx hb dX5_mostOf_30 rfl (lv_at hl 1 rfl) ?_
      refine va_get (D := (dC, dI)) (ci := 5) (v := .int (nI pm)) (C := RX5) (T := TX5) (N := 5) hx hb hts inX5 hown hK hP 0 rfl rfl 1 (by decide) (hts _ mw_185) (fun _ h9 => h9) rfl dX5_mostOf_31 ?_
      refine lv_icmp_ge (tgt := 52) hx hb dX5_mostOf_34 (by decide) (fun c_3 => ?_) (fun c_3 => ?_)
      · have nc_3 : pm ≤ ld := (nI_leI (a := pm) (b := ld) (by omega) (by omega)).mp c_3
        refine lv_iload_n hx hb dX5_mostOf_52 rfl (lv_at hl 0 rfl) ?_
        refine lv_aload_n hx hb dX5_mostOf_53 rfl (lv_at hl 1 rfl) ?_
        refine va_get (D := (dC, dI)) (ci := 5) (v := .int (nI pm)) (C := RX5) (T := TX5) (N := 5) hx hb hts inX5 hown hK hP 0 rfl rfl 1 (by decide) (hts _ mw_185) (fun _ h9 => h9) rfl dX5_mostOf_54 ?_
        refine lv_icmp_lt (tgt := 62) hx hb dX5_mostOf_57 (by decide) (fun c_ => absurd ((nI_ltI (a := ld) (b := pm) (by omega) (by omega)).mp c_) (by omega)) (fun c_ => ?_)
        refine lv_iconst (v := 0) hx hb dX5_mostOf_60 (by decide) ?_
        refine W.widen (k := 0) (n := 0) (Nat.le_of_ble_eq_true rfl) (Nat.le_of_ble_eq_true rfl) ?_
        have hP9 : va_P (dC, dI) vwCl [(h, .inr (5, [.ref pwa, .int (nI pm), .int lw, .int hg, .ref kq])), (pwa, .inl (ca 0, 14, .inl pw)), (kq, .inl (ca 2, kl, .inl KN))] H := va_P.sub hP [0, 1, 2] rfl
        have hD9 : va_D A [(h, .inr (5, [.ref pwa, .int (nI pm), .int lw, .int hg, .ref kq])), (pwa, .inl (ca 0, 14, .inl pw)), (kq, .inl (ca 2, kl, .inl KN))] := va_D.sub hD [0, 1, 2] (by decide) rfl
        exact W.iret (v := 0) hx hb hr (fun t ht hW => ⟨⟨0, KN, rfl, trivial, by rw [ht]; exact hP9, hD9⟩, hS.F ht⟩) hS.2.2 dX5_mostOf_61
      · have nc_3 : ¬ (pm ≤ ld) := fun h9 => c_3 ((nI_leI (a := pm) (b := ld) (by omega) (by omega)).mpr h9)
        refine lv_aload_n hx hb dX5_mostOf_37 rfl (lv_at hl 1 rfl) ?_
        refine lv_iload_n hx hb dX5_mostOf_38 rfl (lv_at hl 2 rfl) ?_
        refine lv_iload_n hx hb dX5_mostOf_39 rfl (lv_at hl 0 rfl) ?_
        have hPc := hP.sub (ws' := []) [] rfl
        refine pc_i (va_runV (As := [.int (nI fe), .int (nI ld)]) (rest := []) ⟨hx, hb, hml, hown, hts⟩ (q_isFree l dC dI ca h (nI fe) (nI ld) ) (⟨callB_of 2 hts (gd mw_755) rfl rfl rfl (hts _ mw_7) (hts _ mw_752) ds_X5_isFree ⟨by show 1 + 1 ≤ (2 * d + 2); omega, by show 8 + (3 + 11) + 60 ≤ (101 + 59 * d); omega⟩, (hts _ mw_754), (hts _ mp_24)⟩) (pu_V hPc hK hE (va_recv hK hP (ci := 5) (q0 := 0) rfl rfl)) rfl rfl hl.1 rfl (lv_room (Nat.le_of_ble_eq_true rfl)) dX5_mostOf_40 ⟨Nat.le_of_ble_eq_true rfl, Nat.le_of_ble_eq_true rfl⟩) (fun rv_4 hw_ => ?_)
        obtain rfl : rv_4 = (fre (nI fe) (nI ld)) := hw_
        refine lv_if_ne (tgt := 52) hx hb dX5_mostOf_43 (by decide) (fun c_5 => ?_) (fun c_5 => ?_)
        · refine lv_iload_n hx hb dX5_mostOf_52 rfl (lv_at hl 0 rfl) ?_
          refine lv_aload_n hx hb dX5_mostOf_53 rfl (lv_at hl 1 rfl) ?_
          refine va_get (D := (dC, dI)) (ci := 5) (v := .int (nI pm)) (C := RX5) (T := TX5) (N := 5) hx hb hts inX5 hown hK hP 0 rfl rfl 1 (by decide) (hts _ mw_185) (fun _ h9 => h9) rfl dX5_mostOf_54 ?_
          refine lv_icmp_lt (tgt := 62) hx hb dX5_mostOf_57 (by decide) (fun c_6 => ?_) (fun c_6 => ?_)
          · have nc_6 : ld < pm := (nI_ltI (a := ld) (b := pm) (by omega) (by omega)).mp c_6
            have hbit : fe.testBit ld = true := fre_bit (by have := Nat.pow_le_pow_right (show 0 < 2 by decide) hpm; omega) (by omega) c_5
            have hcp := clr_pc (fe := fe) (i := ld) (by omega) hbit
            have hcl := clr_le fe ld
            refine lv_aload_n hx hb dX5_mostOf_62 rfl (lv_at hl 1 rfl) ?_
            refine va_get (D := (dC, dI)) (ci := 5) (v := .ref pwa) (C := RX5) (T := TX5) (N := 5) hx hb hts inX5 hown hK hP 0 rfl rfl 0 (by decide) (hts _ mw_184) (fun _ h9 => h9) rfl dX5_mostOf_63 ?_
            refine lv_iload_n hx hb dX5_mostOf_66 rfl (lv_at hl 0 rfl) ?_
            refine va_iald hx hb hK hP 1 0 rfl rfl (vp_in_nI (show ld < 14 by omega) (by first | decide | omega)) dX5_mostOf_67 ?_
            refine lv_topi (fun y_ e_ => ?_)
            obtain rfl : y_ = (pw ld) := e_.trans (congrArg pw (show ((nI ld) : Int32).toNatClampNeg = ld from nI_clamp (by omega)))
            refine lv_istore (lv' := [(4, .int (pw ld)), (3, .int (nI ld)), (0, .ref h), (1, .int (nI fe)), (2, .int v2)]) hx hb dX5_mostOf_68 hl (by decide) rfl (fun ls hl => ?_)
            refine lv_iload_n hx hb dX5_mostOf_70 rfl (lv_at hl 4 rfl) ?_
            refine lv_iload hx hb dX5_mostOf_71 (lv_at hl 0 rfl) ?_
            refine lv_isub hx hb dX5_mostOf_73 ?_
            refine lv_istore (lv' := [(5, .int (v2 - (pw ld))), (4, .int (pw ld)), (3, .int (nI ld)), (0, .ref h), (1, .int (nI fe)), (2, .int v2)]) hx hb dX5_mostOf_74 hl (by decide) rfl (fun ls hl => ?_)
            refine lv_aload_n hx hb dX5_mostOf_76 rfl (lv_at hl 3 rfl) ?_
            refine lv_iload_n hx hb dX5_mostOf_77 rfl (lv_at hl 4 rfl) ?_
            refine lv_iconst (v := 1) hx hb dX5_mostOf_78 (by decide) ?_
            refine lv_iload_n hx hb dX5_mostOf_79 rfl (lv_at hl 2 rfl) ?_
            refine lv_ishl hx hb dX5_mostOf_80 ?_
            refine lv_topi (fun y_ e_ => ?_)
            obtain rfl : y_ = (nI (2 ^ ld)) := e_.trans (tb_sh (by omega))
            refine lv_iconst (v := (-1)) hx hb dX5_mostOf_81 (by decide) ?_
            refine lv_ixor hx hb dX5_mostOf_82 ?_
            refine lv_topi (fun y_ e_ => ?_)
            obtain rfl : y_ = (nI (4294967295 - 2 ^ ld)) := e_.trans (tb_x (by omega))
            refine lv_iand hx hb dX5_mostOf_83 ?_
            refine lv_topi (fun y_ e_ => ?_)
            obtain rfl : y_ = (nI (clr fe ld)) := e_.trans (tb_and _ _)
            refine lv_iload hx hb dX5_mostOf_84 (lv_at hl 0 rfl) ?_
            refine lv_iload_n hx hb dX5_mostOf_86 rfl (lv_at hl 2 rfl) ?_
            refine lv_iconst (v := 1) hx hb dX5_mostOf_87 (by decide) ?_
            refine lv_iadd hx hb dX5_mostOf_88 ?_
            refine lv_topi (fun y_ e_ => ?_)
            obtain rfl : y_ = (nI (ld + 1)) := e_.trans (nI_add (ld) (1))
            refine lv_iload hx hb dX5_mostOf_89 (lv_at hl 0 rfl) ?_
            refine lv_iload hx hb dX5_mostOf_91 (lv_at hl 1 rfl) ?_
            have hPc := hP.sub (ws' := [(h, .inr (5, [.ref pwa, .int (nI pm), .int lw, .int hg, .ref kq])), (pwa, .inl (ca 0, 14, .inl pw)), (kq, .inl (ca 2, kl, .inl KN))]) [0, 1, 2] rfl
            have hDc := hD.sub (ws' := [(h, .inr (5, [.ref pwa, .int (nI pm), .int lw, .int hg, .ref kq])), (pwa, .inl (ca 0, 14, .inl pw)), (kq, .inl (ca 2, kl, .inl KN))]) [0, 1, 2] (by decide) rfl
            have hFc := va_free (wc := [(h, .inr (5, [.ref pwa, .int (nI pm), .int lw, .int hg, .ref kq])), (pwa, .inl (ca 0, 14, .inl pw)), (kq, .inl (ca 2, kl, .inl KN))]) hD hS hA [0, 1, 2] rfl
            refine va_calli (va_runV (As := [.int (nI (clr fe ld)), .int (v2 - (pw ld)), .int (nI (ld + 1)), .int (v2 - (pw ld)), .int (pw ld)]) (rest := []) ⟨hx, hb, hml, hown, hts⟩ ((ihR (d - 1) (by omega)).2 H.size h pwa pm lw hg kq kl pw KN (clr fe ld) (v2 - (pw ld)) (ld + 1) (v2 - (pw ld)) (pw ld) hpm hkl hkx (Nat.lt_of_le_of_lt (clr_le _ _) hfe) (by omega) (by omega)) (⟨callB_of 5 hts (gd mw_759) rfl rfl rfl (hts _ mw_7) (hts _ mw_756) ds_X5_fillBox ⟨by show (2 * (d - 1) + 3) + 1 ≤ (2 * d + 2); omega, by show 8 + (11 + 11) + (130 + 59 * (d - 1)) ≤ (101 + 59 * d); omega⟩, (hts _ mw_758), (hts _ mp_25)⟩) (pr_V hPc hK hDc hE (va_recv hK hPc (ci := 5) (q0 := 0) rfl rfl)) rfl rfl hl.1 rfl (lv_room (Nat.le_of_ble_eq_true rfl)) dX5_mostOf_93 ⟨Nat.le_of_ble_eq_true rfl, Nat.le_of_ble_eq_true rfl⟩) hS (fun q _ h => hFc q h) hFc (fun rv_7 KN2_7 t_ H1 locs ht hvm hw_ hB hz1 hk1 hS => ?_)
            have hw_7 := hw_
            obtain ⟨hP1, hD1⟩ := hB
            rw [ht] at hP1
            obtain ⟨hP, hD⟩ := va_join (wr := []) (w1 := [(h, .inr (5, [.ref pwa, .int (nI pm), .int lw, .int hg, .ref kq])), (pwa, .inl (ca 0, 14, .inl pw)), (kq, .inl (ca 2, kl, .inl KN2_7))]) hP hD [0, 1, 2] [] rfl rfl (by decide) (by decide) hk1 hFc hP1 hD1
            generalize H1 = H at hP hS ⊢
            obtain ⟨hP, hD⟩ := va_bo [(h, .inr (5, [.ref pwa, .int (nI pm), .int lw, .int hg, .ref kq])), (pwa, .inl (ca 0, 14, .inl pw)), (kq, .inl (ca 2, kl, .inl KN2_7))] hP hD
            refine lv_istore (lv' := [(6, .int rv_7), (5, .int (v2 - (pw ld))), (4, .int (pw ld)), (3, .int (nI ld)), (0, .ref h), (1, .int (nI fe)), (2, .int v2)]) hx hb dX5_mostOf_96 hl (by decide) rfl (fun ls hl => ?_)
            refine lv_iload hx hb dX5_mostOf_98 (lv_at hl 0 rfl) ?_
            refine lv_iconst (v := 1) hx hb dX5_mostOf_100 (by decide) ?_
            refine lv_iadd hx hb dX5_mostOf_101 ?_
            refine lv_aload_n hx hb dX5_mostOf_102 rfl (lv_at hl 4 rfl) ?_
            refine va_get (D := (dC, dI)) (ci := 5) (v := .int lw) (C := RX5) (T := TX5) (N := 5) hx hb hts inX5 hown hK hP 0 rfl rfl 2 (by decide) (hts _ mw_186) (fun _ h9 => h9) rfl dX5_mostOf_103 ?_
            refine lv_imul hx hb dX5_mostOf_106 ?_
            refine lv_iload_n hx hb dX5_mostOf_107 rfl (lv_at hl 6 rfl) ?_
            refine wl_cut (pc2 := 191) (σ := Int32 × (Nat → Int32)) (stk2 := fun (z_ : Int32 × (Nat → Int32)) => []) (fun (z_ : Int32 × (Nat → Int32)) H locs ls => (True) ∧ va_P (dC, dI) vwCl [(h, .inr (5, [.ref pwa, .int (nI pm), .int lw, .int hg, .ref kq])), (pwa, .inl (ca 0, 14, .inl pw)), (kq, .inl (ca 2, kl, .inl z_.2))] H ∧ va_D A [(h, .inr (5, [.ref pwa, .int (nI pm), .int lw, .int hg, .ref kq])), (pwa, .inl (ca 0, 14, .inl pw)), (kq, .inl (ca 2, kl, .inl z_.2))] ∧ va_S A s.heap H locs ∧ lv_has ls 10 [(6, .int z_.1), (5, .int (v2 - (pw ld))), (4, .int (pw ld)), (3, .int (nI ld)), (0, .ref h), (1, .int (nI fe)), (2, .int v2)]) (fun z_ H locs ls hI => ?_) (fun J8 => ?_)
            · obtain ⟨bs, K1⟩ := z_
              dsimp only at hI
              obtain ⟨-, hP, hD, hS, hl⟩ := hI
              refine lv_aload_n hx hb dX5_mostOf_191 rfl (lv_at hl 4 rfl) ?_
              refine va_get (D := (dC, dI)) (ci := 5) (v := .ref kq) (C := RX5) (T := TX5) (N := 5) hx hb hts inX5 hown hK hP 0 rfl rfl 4 (by decide) (hts _ mw_188) (fun _ h9 => h9) rfl dX5_mostOf_192 ?_
              refine lv_iload_n hx hb dX5_mostOf_195 rfl (lv_at hl 5 rfl) ?_
              refine lv_iload hx hb dX5_mostOf_196 (lv_at hl 0 rfl) ?_
              refine lv_i2b (v := (bs : Int32).toInt8.toInt32) hx hb dX5_mostOf_198 rfl ?_
              refine va_bast hx hb hK hP hD hS 2 2 rfl rfl (vp_in_nI (show fe < kl by omega) (by omega)) dX5_mostOf_199 (fun H locs hP hD hS => ?_)
              rw [(show ((nI fe) : Int32).toNatClampNeg = fe from nI_clamp (by omega))] at hP hD
              obtain ⟨hP, hD⟩ := va_bo [(h, .inr (5, [.ref pwa, .int (nI pm), .int lw, .int hg, .ref kq])), (pwa, .inl (ca 0, 14, .inl pw)), (kq, .inl (ca 2, kl, .inl (upd K1 fe (vp_nar .byte (bs : Int32).toInt8.toInt32))))] hP hD
              refine lv_iload hx hb dX5_mostOf_200 (lv_at hl 0 rfl) ?_
              refine W.widen (k := 0) (n := 0) (Nat.le_of_ble_eq_true rfl) (Nat.le_of_ble_eq_true rfl) ?_
              have hP9 : va_P (dC, dI) vwCl [(h, .inr (5, [.ref pwa, .int (nI pm), .int lw, .int hg, .ref kq])), (pwa, .inl (ca 0, 14, .inl pw)), (kq, .inl (ca 2, kl, .inl (upd K1 fe (vp_nar .byte (bs : Int32).toInt8.toInt32))))] H := va_P.sub hP [0, 1, 2] rfl
              have hD9 : va_D A [(h, .inr (5, [.ref pwa, .int (nI pm), .int lw, .int hg, .ref kq])), (pwa, .inl (ca 0, 14, .inl pw)), (kq, .inl (ca 2, kl, .inl (upd K1 fe (vp_nar .byte (bs : Int32).toInt8.toInt32))))] := va_D.sub hD [0, 1, 2] (by decide) rfl
              exact W.iret (v := bs) hx hb hr (fun t ht hW => ⟨⟨bs, (upd K1 fe (vp_nar .byte (bs : Int32).toInt8.toInt32)), rfl, trivial, by rw [ht]; exact hP9, hD9⟩, hS.F ht⟩) hS.2.2 dX5_mostOf_202
            · refine lv_icmp_gt (tgt := 191) hx hb dX5_mostOf_108 (by decide) (fun c_9 => ?_) (fun c_9 => ?_)
              · exact J8 (rv_7, KN2_7) _ _ _ ⟨trivial, hP, hD, hS, lv_sub hl [0, 1, 2, 3, 4, 5, 6] rfl⟩
              · refine lv_iload_n hx hb dX5_mostOf_111 rfl (lv_at hl 5 rfl) ?_
                refine lv_istore (lv' := [(7, .int (nI fe)), (6, .int rv_7), (5, .int (v2 - (pw ld))), (4, .int (pw ld)), (3, .int (nI ld)), (0, .ref h), (1, .int (nI fe)), (2, .int v2)]) hx hb dX5_mostOf_112 hl (by decide) rfl (fun ls hl => ?_)
                refine lv_iload_n hx hb dX5_mostOf_114 rfl (lv_at hl 7 rfl) ?_
                refine lv_istore (lv' := [(8, .int v2), (7, .int (nI fe)), (6, .int rv_7), (5, .int (v2 - (pw ld))), (4, .int (pw ld)), (3, .int (nI ld)), (0, .ref h), (1, .int (nI fe)), (2, .int v2)]) hx hb dX5_mostOf_115 hl (by decide) rfl (fun ls hl => ?_)
                refine lv_iload_n hx hb dX5_mostOf_117 rfl (lv_at hl 5 rfl) ?_
                refine lv_istore (lv' := [(9, .int (nI ld)), (8, .int v2), (7, .int (nI fe)), (6, .int rv_7), (5, .int (v2 - (pw ld))), (4, .int (pw ld)), (3, .int (nI ld)), (0, .ref h), (1, .int (nI fe)), (2, .int v2)]) hx hb dX5_mostOf_118 hl (by decide) rfl (fun ls hl => ?_)
                refine wl_loop (fun (z_ : Nat × Int32 × Nat) H locs ls => (z_.2.2 ≤ pm ∧ ((z_.2.2 = ld ∧ z_.1 = fe) ∨ (ld < z_.2.2 ∧ pcn z_.1 + 1 ≤ pcn fe ∧ z_.1 < 2 ^ pm))) ∧ va_P (dC, dI) vwCl [(h, .inr (5, [.ref pwa, .int (nI pm), .int lw, .int hg, .ref kq])), (pwa, .inl (ca 0, 14, .inl pw)), (kq, .inl (ca 2, kl, .inl KN2_7))] H ∧ va_D A [(h, .inr (5, [.ref pwa, .int (nI pm), .int lw, .int hg, .ref kq])), (pwa, .inl (ca 0, 14, .inl pw)), (kq, .inl (ca 2, kl, .inl KN2_7))] ∧ va_S A s.heap H locs ∧ lv_has ls 10 [(9, .int (nI z_.2.2)), (8, .int z_.2.1), (7, .int (nI z_.1)), (6, .int rv_7), (5, .int (v2 - (pw ld))), (4, .int (pw ld)), (3, .int (nI ld)), (0, .ref h), (1, .int (nI fe)), (2, .int v2)]) (fun (z_ : Nat × Int32 × Nat) => pm - z_.2.2) (fun z_ H locs ls hI ih120 => ?_) (fe, v2, ld) ⟨⟨by omega, Or.inl ⟨rfl, rfl⟩⟩, hP, hD, hS, lv_sub hl [0, 1, 2, 3, 4, 5, 6, 7, 8, 9] rfl⟩
                obtain ⟨ot, s8, i9⟩ := z_
                dsimp only at hI ih120
                obtain ⟨⟨hi9, hv⟩, hP, hD, hS, hl⟩ := hI
                refine lv_iload hx hb dX5_mostOf_120 (lv_at hl 0 rfl) ?_
                refine lv_aload_n hx hb dX5_mostOf_122 rfl (lv_at hl 7 rfl) ?_
                refine va_get (D := (dC, dI)) (ci := 5) (v := .int (nI pm)) (C := RX5) (T := TX5) (N := 5) hx hb hts inX5 hown hK hP 0 rfl rfl 1 (by decide) (hts _ mw_185) (fun _ h9 => h9) rfl dX5_mostOf_123 ?_
                refine lv_icmp_ge (tgt := 176) hx hb dX5_mostOf_126 (by decide) (fun c_10 => ?_) (fun c_10 => ?_)
                · have nc_10 : pm ≤ i9 := (nI_leI (a := pm) (b := i9) (by omega) (by omega)).mp c_10
                  refine lv_iload hx hb dX5_mostOf_176 (lv_at hl 3 rfl) ?_
                  refine lv_aload_n hx hb dX5_mostOf_178 rfl (lv_at hl 7 rfl) ?_
                  refine lv_iload hx hb dX5_mostOf_179 (lv_at hl 2 rfl) ?_
                  refine lv_iload hx hb dX5_mostOf_181 (lv_at hl 1 rfl) ?_
                  have hPc := hP.sub (ws' := [(h, .inr (5, [.ref pwa, .int (nI pm), .int lw, .int hg, .ref kq])), (pwa, .inl (ca 0, 14, .inl pw)), (kq, .inl (ca 2, kl, .inl KN2_7))]) [0, 1, 2] rfl
                  have hDc := hD.sub (ws' := [(h, .inr (5, [.ref pwa, .int (nI pm), .int lw, .int hg, .ref kq])), (pwa, .inl (ca 0, 14, .inl pw)), (kq, .inl (ca 2, kl, .inl KN2_7))]) [0, 1, 2] (by decide) rfl
                  have hFc := va_free (wc := [(h, .inr (5, [.ref pwa, .int (nI pm), .int lw, .int hg, .ref kq])), (pwa, .inl (ca 0, 14, .inl pw)), (kq, .inl (ca 2, kl, .inl KN2_7))]) hD hS hA [0, 1, 2] rfl
                  refine va_calli (va_runV (As := [.int (nI ot), .int s8]) (rest := [.int rv_7]) ⟨hx, hb, hml, hown, hts⟩ ((ihR (d - 1) (by omega)).1 H.size h pwa pm lw hg kq kl pw KN2_7 ot s8 hpm hkl hkx (by rcases hv with ⟨h1, h2⟩ | ⟨h1, h2, h3⟩; rw [h2]; exact hfe; exact h3) (by rcases hv with ⟨h1, h2⟩ | ⟨h1, h2, h3⟩ <;> omega)) (⟨callB_of 2 hts (gd mw_751) rfl rfl rfl (hts _ mw_7) (hts _ mw_748) ds_X5_mostOf ⟨by show (2 * (d - 1) + 2) + 1 ≤ (2 * d + 2); omega, by show 8 + (10 + 11) + (101 + 59 * (d - 1)) ≤ (101 + 59 * d); omega⟩, (hts _ mw_750), (hts _ mp_23)⟩) (pr_V hPc hK hDc hE (va_recv hK hPc (ci := 5) (q0 := 0) rfl rfl)) rfl rfl hl.1 rfl (lv_room (Nat.le_of_ble_eq_true rfl)) dX5_mostOf_183 ⟨Nat.le_of_ble_eq_true rfl, Nat.le_of_ble_eq_true rfl⟩) hS (fun q _ h => hFc q h) hFc (fun rv_11 KN2_11 t_ H1 locs ht hvm hw_ hB hz1 hk1 hS => ?_)
                  have hw_11 := hw_
                  obtain ⟨hP1, hD1⟩ := hB
                  rw [ht] at hP1
                  obtain ⟨hP, hD⟩ := va_join (wr := []) (w1 := [(h, .inr (5, [.ref pwa, .int (nI pm), .int lw, .int hg, .ref kq])), (pwa, .inl (ca 0, 14, .inl pw)), (kq, .inl (ca 2, kl, .inl KN2_11))]) hP hD [0, 1, 2] [] rfl rfl (by decide) (by decide) hk1 hFc hP1 hD1
                  generalize H1 = H at hP hS ⊢
                  obtain ⟨hP, hD⟩ := va_bo [(h, .inr (5, [.ref pwa, .int (nI pm), .int lw, .int hg, .ref kq])), (pwa, .inl (ca 0, 14, .inl pw)), (kq, .inl (ca 2, kl, .inl KN2_11))] hP hD
                  refine va_mmax hx hb (by rw [hml]; exact hl.1.symm) hown (hts _ mw_760) (hts _ mw_388) (hts _ mw_12) (hts _ mmax_code) (by show 1 ≤ (2 * d + 2); omega) (by show _ + 13 ≤ (101 + 59 * d); simp [Value.category]; omega) (Nat.le_of_ble_eq_true rfl) (Nat.le_of_ble_eq_true rfl) dX5_mostOf_186 ?_
                  refine lv_topi (fun y_ e_ => ?_)
                  obtain rfl : y_ = (maI rv_7 rv_11) := e_.trans rfl
                  refine lv_istore (lv' := [(6, .int (maI rv_7 rv_11)), (9, .int (nI i9)), (8, .int s8), (7, .int (nI ot)), (5, .int (v2 - (pw ld))), (4, .int (pw ld)), (3, .int (nI ld)), (0, .ref h), (1, .int (nI fe)), (2, .int v2)]) hx hb dX5_mostOf_189 hl (by decide) rfl (fun ls hl => ?_)
                  exact J8 ((maI rv_7 rv_11), KN2_11) _ _ _ ⟨trivial, hP, hD, hS, lv_sub hl [0, 4, 5, 6, 7, 8, 9] rfl⟩
                · have nc_10 : ¬ pm ≤ i9 := fun h9 => c_10 ((nI_leI (by omega) (by omega)).mpr h9)
                  refine lv_aload_n hx hb dX5_mostOf_129 rfl (lv_at hl 7 rfl) ?_
                  refine va_get (D := (dC, dI)) (ci := 5) (v := .ref pwa) (C := RX5) (T := TX5) (N := 5) hx hb hts inX5 hown hK hP 0 rfl rfl 0 (by decide) (hts _ mw_184) (fun _ h9 => h9) rfl dX5_mostOf_130 ?_
                  refine lv_iload hx hb dX5_mostOf_133 (lv_at hl 0 rfl) ?_
                  refine va_iald hx hb hK hP 1 0 rfl rfl (vp_in_nI (show i9 < 14 by omega) (by first | decide | omega)) dX5_mostOf_135 ?_
                  refine lv_topi (fun y_ e_ => ?_)
                  obtain rfl : y_ = (pw i9) := e_.trans (congrArg pw (show ((nI i9) : Int32).toNatClampNeg = i9 from nI_clamp (by omega)))
                  refine lv_iload hx hb dX5_mostOf_136 (lv_at hl 5 rfl) ?_
                  refine lv_icmp_ne (tgt := 176) hx hb dX5_mostOf_138 (by decide) (fun c_12 => ?_) (fun c_12 => ?_)
                  · refine lv_iload hx hb dX5_mostOf_176 (lv_at hl 3 rfl) ?_
                    refine lv_aload_n hx hb dX5_mostOf_178 rfl (lv_at hl 7 rfl) ?_
                    refine lv_iload hx hb dX5_mostOf_179 (lv_at hl 2 rfl) ?_
                    refine lv_iload hx hb dX5_mostOf_181 (lv_at hl 1 rfl) ?_
                    have hPc := hP.sub (ws' := [(h, .inr (5, [.ref pwa, .int (nI pm), .int lw, .int hg, .ref kq])), (pwa, .inl (ca 0, 14, .inl pw)), (kq, .inl (ca 2, kl, .inl KN2_7))]) [0, 1, 2] rfl
                    have hDc := hD.sub (ws' := [(h, .inr (5, [.ref pwa, .int (nI pm), .int lw, .int hg, .ref kq])), (pwa, .inl (ca 0, 14, .inl pw)), (kq, .inl (ca 2, kl, .inl KN2_7))]) [0, 1, 2] (by decide) rfl
                    have hFc := va_free (wc := [(h, .inr (5, [.ref pwa, .int (nI pm), .int lw, .int hg, .ref kq])), (pwa, .inl (ca 0, 14, .inl pw)), (kq, .inl (ca 2, kl, .inl KN2_7))]) hD hS hA [0, 1, 2] rfl
                    refine va_calli (va_runV (As := [.int (nI ot), .int s8]) (rest := [.int rv_7]) ⟨hx, hb, hml, hown, hts⟩ ((ihR (d - 1) (by omega)).1 H.size h pwa pm lw hg kq kl pw KN2_7 ot s8 hpm hkl hkx (by rcases hv with ⟨h1, h2⟩ | ⟨h1, h2, h3⟩; rw [h2]; exact hfe; exact h3) (by rcases hv with ⟨h1, h2⟩ | ⟨h1, h2, h3⟩; exact absurd (by rw [h1]) c_12; omega)) (⟨callB_of 2 hts (gd mw_751) rfl rfl rfl (hts _ mw_7) (hts _ mw_748) ds_X5_mostOf ⟨by show (2 * (d - 1) + 2) + 1 ≤ (2 * d + 2); omega, by show 8 + (10 + 11) + (101 + 59 * (d - 1)) ≤ (101 + 59 * d); omega⟩, (hts _ mw_750), (hts _ mp_23)⟩) (pr_V hPc hK hDc hE (va_recv hK hPc (ci := 5) (q0 := 0) rfl rfl)) rfl rfl hl.1 rfl (lv_room (Nat.le_of_ble_eq_true rfl)) dX5_mostOf_183 ⟨Nat.le_of_ble_eq_true rfl, Nat.le_of_ble_eq_true rfl⟩) hS (fun q _ h => hFc q h) hFc (fun rv_13 KN2_13 t_ H1 locs ht hvm hw_ hB hz1 hk1 hS => ?_)
                    have hw_13 := hw_
                    obtain ⟨hP1, hD1⟩ := hB
                    rw [ht] at hP1
                    obtain ⟨hP, hD⟩ := va_join (wr := []) (w1 := [(h, .inr (5, [.ref pwa, .int (nI pm), .int lw, .int hg, .ref kq])), (pwa, .inl (ca 0, 14, .inl pw)), (kq, .inl (ca 2, kl, .inl KN2_13))]) hP hD [0, 1, 2] [] rfl rfl (by decide) (by decide) hk1 hFc hP1 hD1
                    generalize H1 = H at hP hS ⊢
                    obtain ⟨hP, hD⟩ := va_bo [(h, .inr (5, [.ref pwa, .int (nI pm), .int lw, .int hg, .ref kq])), (pwa, .inl (ca 0, 14, .inl pw)), (kq, .inl (ca 2, kl, .inl KN2_13))] hP hD
                    refine va_mmax hx hb (by rw [hml]; exact hl.1.symm) hown (hts _ mw_760) (hts _ mw_388) (hts _ mw_12) (hts _ mmax_code) (by show 1 ≤ (2 * d + 2); omega) (by show _ + 13 ≤ (101 + 59 * d); simp [Value.category]; omega) (Nat.le_of_ble_eq_true rfl) (Nat.le_of_ble_eq_true rfl) dX5_mostOf_186 ?_
                    refine lv_topi (fun y_ e_ => ?_)
                    obtain rfl : y_ = (maI rv_7 rv_13) := e_.trans rfl
                    refine lv_istore (lv' := [(6, .int (maI rv_7 rv_13)), (9, .int (nI i9)), (8, .int s8), (7, .int (nI ot)), (5, .int (v2 - (pw ld))), (4, .int (pw ld)), (3, .int (nI ld)), (0, .ref h), (1, .int (nI fe)), (2, .int v2)]) hx hb dX5_mostOf_189 hl (by decide) rfl (fun ls hl => ?_)
                    exact J8 ((maI rv_7 rv_13), KN2_13) _ _ _ ⟨trivial, hP, hD, hS, lv_sub hl [0, 4, 5, 6, 7, 8, 9] rfl⟩
                  · refine lv_aload_n hx hb dX5_mostOf_141 rfl (lv_at hl 7 rfl) ?_
                    refine lv_iload hx hb dX5_mostOf_142 (lv_at hl 2 rfl) ?_
                    refine lv_iload hx hb dX5_mostOf_144 (lv_at hl 0 rfl) ?_
                    have hPc := hP.sub (ws' := []) [] rfl
                    refine pc_i (va_runV (As := [.int (nI ot), .int (nI i9)]) (rest := []) ⟨hx, hb, hml, hown, hts⟩ (q_isFree l dC dI ca h (nI ot) (nI i9) ) (⟨callB_of 2 hts (gd mw_755) rfl rfl rfl (hts _ mw_7) (hts _ mw_752) ds_X5_isFree ⟨by show 1 + 1 ≤ (2 * d + 2); omega, by show 8 + (3 + 11) + 60 ≤ (101 + 59 * d); omega⟩, (hts _ mw_754), (hts _ mp_24)⟩) (pu_V hPc hK hE (va_recv hK hP (ci := 5) (q0 := 0) rfl rfl)) rfl rfl hl.1 rfl (lv_room (Nat.le_of_ble_eq_true rfl)) dX5_mostOf_146 ⟨Nat.le_of_ble_eq_true rfl, Nat.le_of_ble_eq_true rfl⟩) (fun rv_14 hw_ => ?_)
                    obtain rfl : rv_14 = (fre (nI ot) (nI i9)) := hw_
                    refine lv_if_eq (tgt := 170) hx hb dX5_mostOf_149 (by decide) (fun c_15 => ?_) (fun c_15 => ?_)
                    · have hb9 : ot.testBit i9 = false := fre_nobit (by have h6 : ot < 2 ^ pm := (by rcases hv with ⟨h1, h2⟩ | ⟨h1, h2, h3⟩; rw [h2]; exact hfe; exact h3); have := Nat.pow_le_pow_right (show 0 < 2 by decide) hpm; omega) (by omega) c_15
                      refine lv_iinc (v := (nI (i9 + 1))) (lv' := [(9, .int (nI (i9 + 1))), (8, .int s8), (7, .int (nI ot)), (6, .int rv_7), (5, .int (v2 - (pw ld))), (4, .int (pw ld)), (3, .int (nI ld)), (0, .ref h), (1, .int (nI fe)), (2, .int v2)]) hx hb dX5_mostOf_170 hl (k := 0) rfl (nI_add (i9) 1) (by decide) rfl (fun ls hl => ?_)
                      refine lv_goto (tgt := 120) hx hb dX5_mostOf_173 (by decide) ?_
                      exact ih120 (ot, s8, i9 + 1) _ _ _ (by (first | omega | (dsimp only; omega))) ⟨⟨by first | omega | (dsimp only; omega), by rcases hv with ⟨h1, h2⟩ | ⟨h1, h2, h3⟩; exact absurd (by rw [h1, h2]; exact hbit) (Bool.eq_false_iff.mp hb9); exact Or.inr ⟨by first | omega | (dsimp only; omega), h2, h3⟩⟩, hP, hD, hS, lv_sub hl [0, 1, 2, 3, 4, 5, 6, 7, 8, 9] rfl⟩
                    · have hb9 : ot.testBit i9 = true := fre_bit (by have h6 : ot < 2 ^ pm := (by rcases hv with ⟨h1, h2⟩ | ⟨h1, h2, h3⟩; rw [h2]; exact hfe; exact h3); have := Nat.pow_le_pow_right (show 0 < 2 by decide) hpm; omega) (by omega) c_15
                      refine lv_iload hx hb dX5_mostOf_152 (lv_at hl 2 rfl) ?_
                      refine lv_iconst (v := 1) hx hb dX5_mostOf_154 (by decide) ?_
                      refine lv_iload hx hb dX5_mostOf_155 (lv_at hl 0 rfl) ?_
                      refine lv_ishl hx hb dX5_mostOf_157 ?_
                      refine lv_topi (fun y_ e_ => ?_)
                      obtain rfl : y_ = (nI (2 ^ i9)) := e_.trans (tb_sh (by omega))
                      refine lv_iconst (v := (-1)) hx hb dX5_mostOf_158 (by decide) ?_
                      refine lv_ixor hx hb dX5_mostOf_159 ?_
                      refine lv_topi (fun y_ e_ => ?_)
                      obtain rfl : y_ = (nI (4294967295 - 2 ^ i9)) := e_.trans (tb_x (by omega))
                      refine lv_iand hx hb dX5_mostOf_160 ?_
                      refine lv_topi (fun y_ e_ => ?_)
                      obtain rfl : y_ = (nI (clr ot i9)) := e_.trans (tb_and _ _)
                      refine lv_istore (lv' := [(7, .int (nI (clr ot i9))), (9, .int (nI i9)), (8, .int s8), (6, .int rv_7), (5, .int (v2 - (pw ld))), (4, .int (pw ld)), (3, .int (nI ld)), (0, .ref h), (1, .int (nI fe)), (2, .int v2)]) hx hb dX5_mostOf_161 hl (by decide) rfl (fun ls hl => ?_)
                      refine lv_iload hx hb dX5_mostOf_163 (lv_at hl 2 rfl) ?_
                      refine lv_iload hx hb dX5_mostOf_165 (lv_at hl 5 rfl) ?_
                      refine lv_isub hx hb dX5_mostOf_167 ?_
                      refine lv_istore (lv' := [(8, .int (s8 - (pw ld))), (7, .int (nI (clr ot i9))), (9, .int (nI i9)), (6, .int rv_7), (5, .int (v2 - (pw ld))), (4, .int (pw ld)), (3, .int (nI ld)), (0, .ref h), (1, .int (nI fe)), (2, .int v2)]) hx hb dX5_mostOf_168 hl (by decide) rfl (fun ls hl => ?_)
                      refine lv_iinc (v := (nI (i9 + 1))) (lv' := [(9, .int (nI (i9 + 1))), (8, .int (s8 - (pw ld))), (7, .int (nI (clr ot i9))), (6, .int rv_7), (5, .int (v2 - (pw ld))), (4, .int (pw ld)), (3, .int (nI ld)), (0, .ref h), (1, .int (nI fe)), (2, .int v2)]) hx hb dX5_mostOf_170 hl (k := 2) rfl (nI_add (i9) 1) (by decide) rfl (fun ls hl => ?_)
                      refine lv_goto (tgt := 120) hx hb dX5_mostOf_173 (by decide) ?_
                      exact ih120 (clr ot i9, (s8 - (pw ld)), i9 + 1) _ _ _ (by (first | omega | (dsimp only; omega))) ⟨⟨by first | omega | (dsimp only; omega), Or.inr ⟨by first | omega | (dsimp only; omega), by have h7 := clr_pc (fe := ot) (i := i9) (by first | omega | (dsimp only; omega)) hb9; dsimp only; rcases hv with ⟨h1, h2⟩ | ⟨h1, h2, h3⟩; rw [h2] at h7 ⊢; omega; omega, Nat.lt_of_le_of_lt (clr_le _ _) (by rcases hv with ⟨h1, h2⟩ | ⟨h1, h2, h3⟩; rw [h2]; exact hfe; exact h3)⟩⟩, hP, hD, hS, lv_sub hl [0, 1, 2, 3, 4, 5, 6, 7, 8, 9] rfl⟩
          · have nc_6 : ¬ (ld < pm) := fun h9 => c_6 ((nI_ltI (a := ld) (b := pm) (by omega) (by omega)).mpr h9)
            refine lv_iconst (v := 0) hx hb dX5_mostOf_60 (by decide) ?_
            refine W.widen (k := 0) (n := 0) (Nat.le_of_ble_eq_true rfl) (Nat.le_of_ble_eq_true rfl) ?_
            have hP9 : va_P (dC, dI) vwCl [(h, .inr (5, [.ref pwa, .int (nI pm), .int lw, .int hg, .ref kq])), (pwa, .inl (ca 0, 14, .inl pw)), (kq, .inl (ca 2, kl, .inl KN))] H := va_P.sub hP [0, 1, 2] rfl
            have hD9 : va_D A [(h, .inr (5, [.ref pwa, .int (nI pm), .int lw, .int hg, .ref kq])), (pwa, .inl (ca 0, 14, .inl pw)), (kq, .inl (ca 2, kl, .inl KN))] := va_D.sub hD [0, 1, 2] (by decide) rfl
            exact W.iret (v := 0) hx hb hr (fun t ht hW => ⟨⟨0, KN, rfl, trivial, by rw [ht]; exact hP9, hD9⟩, hS.F ht⟩) hS.2.2 dX5_mostOf_61
        · refine lv_iinc (v := (nI (ld + 1))) (lv' := [(3, .int (nI (ld + 1))), (0, .ref h), (1, .int (nI fe)), (2, .int v2)]) hx hb dX5_mostOf_46 hl (k := 0) rfl (nI_add (ld) 1) (by decide) rfl (fun ls hl => ?_)
          refine lv_goto (tgt := 29) hx hb dX5_mostOf_49 (by decide) ?_
          exact ih (ld + 1) _ _ _ (by omega) ⟨(by omega), hP, hD, hS, lv_sub hl [0, 1, 2, 3] rfl⟩
    · refine lv_aload_n hx hb dX5_mostOf_20 rfl (lv_at hl 0 rfl) ?_
      refine va_get (D := (dC, dI)) (ci := 5) (v := .ref kq) (C := RX5) (T := TX5) (N := 5) hx hb hts inX5 hown hK hP 0 rfl rfl 4 (by decide) (hts _ mw_188) (fun _ h9 => h9) rfl dX5_mostOf_21 ?_
      refine lv_iload_n hx hb dX5_mostOf_24 rfl (lv_at hl 1 rfl) ?_
      refine va_bald hx hb hK hP 2 2 rfl rfl (vp_in_nI (show fe < kl by omega) (by omega)) dX5_mostOf_25 ?_
      refine lv_topi (fun y_ e_ => ?_)
      obtain rfl : y_ = (KN fe) := e_.trans (congrArg KN (show ((nI fe) : Int32).toNatClampNeg = fe from nI_clamp (by omega)))
      refine W.widen (k := 0) (n := 0) (Nat.le_of_ble_eq_true rfl) (Nat.le_of_ble_eq_true rfl) ?_
      have hP9 : va_P (dC, dI) vwCl [(h, .inr (5, [.ref pwa, .int (nI pm), .int lw, .int hg, .ref kq])), (pwa, .inl (ca 0, 14, .inl pw)), (kq, .inl (ca 2, kl, .inl KN))] s.heap := va_P.sub hP [0, 1, 2] rfl
      have hD9 : va_D A [(h, .inr (5, [.ref pwa, .int (nI pm), .int lw, .int hg, .ref kq])), (pwa, .inl (ca 0, 14, .inl pw)), (kq, .inl (ca 2, kl, .inl KN))] := va_D.sub hD [0, 1, 2] (by decide) rfl
      exact W.iret (v := (KN fe)) hx hb hr (fun t ht hW => ⟨⟨(KN fe), KN, rfl, trivial, by rw [ht]; exact hP9, hD9⟩, hS.F ht⟩) hS.2.2 dX5_mostOf_26
  · refine lv_iconst (v := 0) hx hb dX5_mostOf_8 (by decide) ?_
    refine W.widen (k := 0) (n := 0) (Nat.le_of_ble_eq_true rfl) (Nat.le_of_ble_eq_true rfl) ?_
    have hP9 : va_P (dC, dI) vwCl [(h, .inr (5, [.ref pwa, .int (nI pm), .int lw, .int hg, .ref kq])), (pwa, .inl (ca 0, 14, .inl pw)), (kq, .inl (ca 2, kl, .inl KN))] s.heap := va_P.sub hP [0, 1, 2] rfl
    have hD9 : va_D A [(h, .inr (5, [.ref pwa, .int (nI pm), .int lw, .int hg, .ref kq])), (pwa, .inl (ca 0, 14, .inl pw)), (kq, .inl (ca 2, kl, .inl KN))] := va_D.sub hD [0, 1, 2] (by decide) rfl
    exact W.iret (v := 0) hx hb hr (fun t ht hW => ⟨⟨0, KN, rfl, trivial, by rw [ht]; exact hP9, hD9⟩, hS.F ht⟩) hS.2.2 dX5_mostOf_9

set_option maxHeartbeats 4000000 in
set_option maxRecDepth 100000 in
theorem q_fill (l : Launch) (dC : Nat → ClassId) (dI : Nat → Nat → Nat) (ca : Nat → ClassId) (d : Nat) (hM : MetM l dC dI ca d) (ihR : ∀ k, k < d → MetM l dC dI ca k ∧ MetF l dC dI ca k) (sz : Nat) (h : Nat) (pwa : Nat) (pm : Nat) (lw : Int32) (hg : Int32) (kq : Nat) (kl : Nat) (pw : Nat → Int32) (KN : Nat → Int32) (fe : Nat) (v2 : Int32) (fr : Nat) (v4 : Int32) (v5 : Int32) (hpm : pm ≤ 14) (hkl : 2 ^ pm ≤ kl) (hkx : kl ≤ 16384) (hfe : fe < 2 ^ pm) (hpc : pcn fe ≤ d) (hfr : fr ≤ pm) : Met l yX5_fillBox (Cond.code yX5_fillBox cX5_fillBox 11 (some .int) :: gT) ({ frames := (2 * d + 3), cells := 0, slots := 0, locals := (130 + 59 * d) }) (va_Pc [.ref h, .int (nI fe), .int v2, .int (nI fr), .int v4, .int v5] (pr (dC, dI) sz [(h, .inr (5, [.ref pwa, .int (nI pm), .int lw, .int hg, .ref kq])), (pwa, .inl (ca 0, 14, .inl pw)), (kq, .inl (ca 2, kl, .inl KN))] (aT ca))) (va_Qi (fun (r : Int32) (u_ : (Nat → Int32)) => True) (fun (u_ : (Nat → Int32)) t => va_P (dC, dI) vwCl [(h, .inr (5, [.ref pwa, .int (nI pm), .int lw, .int hg, .ref kq])), (pwa, .inl (ca 0, 14, .inl pw)), (kq, .inl (ca 2, kl, .inl u_))] t.heap ∧ va_D (va_A [(h, .inr (5, [.ref pwa, .int (nI pm), .int lw, .int hg, .ref kq])), (pwa, .inl (ca 0, 14, .inl pw)), (kq, .inl (ca 2, kl, .inl KN))] sz) [(h, .inr (5, [.ref pwa, .int (nI pm), .int lw, .int hg, .ref kq])), (pwa, .inl (ca 0, 14, .inl pw)), (kq, .inl (ca 2, kl, .inl u_))]) (va_A [(h, .inr (5, [.ref pwa, .int (nI pm), .int lw, .int hg, .ref kq])), (pwa, .inl (ca 0, 14, .inl pw)), (kq, .inl (ca 2, kl, .inl KN))] sz)) 0 0 (va_A [(h, .inr (5, [.ref pwa, .int (nI pm), .int lw, .int hg, .ref kq])), (pwa, .inl (ca 0, 14, .inl pw)), (kq, .inl (ca 2, kl, .inl KN))] sz) := by
  refine Met.ofW (cc := cX5_fillBox) (maxL := 11) (ret := (some .int)) (by decide) rfl ?_
  intro p e s m args below meth c s₁ B hml hv
  obtain ⟨rfl, hsz, hP, hK, hD0, hE⟩ := hv
  have hx := B.exec
  have hb := B.bytes
  have hr := B.returns
  have hts : ∀ w ∈ gT, w.before _ s = true := fun w h => atoms_spec (ws := Cond.code yX5_fillBox cX5_fillBox 11 (some .int) :: gT) B.pre w (List.mem_cons_of_mem _ h)
  have hown : s.vm.findClass RX5 = some m.cls := findClass_of_methodNamed B.named
  have hlocks := B.notSynchronized
  subst hsz
  have hD := hD0.self (sz := s.heap.size)
  generalize hAe : va_A [(h, .inr (5, [.ref pwa, .int (nI pm), .int lw, .int hg, .ref kq])), (pwa, .inl (ca 0, 14, .inl pw)), (kq, .inl (ca 2, kl, .inl KN))] s.heap.size = A at hD ⊢
  have hA : ∀ q : Nat, s.heap.size ≤ q → A q := fun q h => by rw [← hAe]; exact Or.inr h
  have hS : va_S A s.heap s.heap [] := va_S.rf
  have hl := lv_entry ([.ref h, .int (nI fe), .int v2, .int (nI fr), .int v4, .int v5]) (n := 11) (Nat.le_of_ble_eq_true rfl)
  rw [lg_entry_eq]
  generalize (lg_sl ([.ref h, .int (nI fe), .int v2, .int (nI fr), .int v4, .int v5]) ++ List.replicate (11 - (lg_sl ([.ref h, .int (nI fe), .int v2, .int (nI fr), .int v4, .int v5])).length) Slot.unset).toArray = ls at hl ⊢
  have hl : lv_has ls 11 [(0, .ref h), (1, .int (nI fe)), (2, .int v2), (3, .int (nI fr)), (4, .int v4), (5, .int v5)] := hl
  have hp2 := Nat.pow_le_pow_right (show 0 < 2 by decide) hpm
  refine lv_iload hx hb dX5_fillBox_0 (lv_at hl 5 rfl) ?_
  refine lv_aload_n hx hb dX5_fillBox_2 rfl (lv_at hl 0 rfl) ?_
  refine va_get (D := (dC, dI)) (ci := 5) (v := .int lw) (C := RX5) (T := TX5) (N := 5) hx hb hts inX5 hown hK hP 0 rfl rfl 2 (by decide) (hts _ mw_186) (fun _ h9 => h9) rfl dX5_fillBox_3 ?_
  refine lv_icmp_lt (tgt := 31) hx hb dX5_fillBox_6 (by decide) (fun c_1 => ?_) (fun c_1 => ?_)
  · refine lv_iconst (v := 0) hx hb dX5_fillBox_31 (by decide) ?_
    refine lv_istore (lv' := [(6, .int 0), (0, .ref h), (1, .int (nI fe)), (2, .int v2), (3, .int (nI fr)), (4, .int v4), (5, .int v5)]) hx hb dX5_fillBox_32 hl (by decide) rfl (fun ls hl => ?_)
    refine lv_iload_n hx hb dX5_fillBox_34 rfl (lv_at hl 4 rfl) ?_
    refine lv_istore (lv' := [(7, .int (nI fr)), (6, .int 0), (0, .ref h), (1, .int (nI fe)), (2, .int v2), (3, .int (nI fr)), (4, .int v4), (5, .int v5)]) hx hb dX5_fillBox_35 hl (by decide) rfl (fun ls hl => ?_)
    refine lv_iload hx hb dX5_fillBox_37 (lv_at hl 6 rfl) ?_
    refine lv_istore (lv' := [(8, .int v4), (7, .int (nI fr)), (6, .int 0), (0, .ref h), (1, .int (nI fe)), (2, .int v2), (3, .int (nI fr)), (4, .int v4), (5, .int v5)]) hx hb dX5_fillBox_39 hl (by decide) rfl (fun ls hl => ?_)
    refine wl_loop (fun (z_ : Int32 × Nat × Int32 × (Nat → Int32)) H locs ls => (z_.2.1 ≤ pm) ∧ va_P (dC, dI) vwCl [(h, .inr (5, [.ref pwa, .int (nI pm), .int lw, .int hg, .ref kq])), (pwa, .inl (ca 0, 14, .inl pw)), (kq, .inl (ca 2, kl, .inl z_.2.2.2))] H ∧ va_D A [(h, .inr (5, [.ref pwa, .int (nI pm), .int lw, .int hg, .ref kq])), (pwa, .inl (ca 0, 14, .inl pw)), (kq, .inl (ca 2, kl, .inl z_.2.2.2))] ∧ va_S A s.heap H locs ∧ lv_has ls 11 [(8, .int z_.2.2.1), (7, .int (nI z_.2.1)), (6, .int z_.1), (0, .ref h), (1, .int (nI fe)), (2, .int v2), (3, .int (nI fr)), (4, .int v4), (5, .int v5)]) (fun (z_ : Int32 × Nat × Int32 × (Nat → Int32)) => pm - z_.2.1) (fun z_ H locs ls hI ih => ?_) (0, fr, v4, KN) ⟨hfr, hP, hD, hS, lv_sub hl [0, 1, 2, 3, 4, 5, 6, 7, 8] rfl⟩
    obtain ⟨bs, i, rs8, K1⟩ := z_
    dsimp only at hI ih
    obtain ⟨hi, hP, hD, hS, hl⟩ := hI
    refine lv_iload hx hb dX5_fillBox_41 (lv_at hl 1 rfl) ?_
    refine lv_aload_n hx hb dX5_fillBox_43 rfl (lv_at hl 3 rfl) ?_
    refine va_get (D := (dC, dI)) (ci := 5) (v := .int (nI pm)) (C := RX5) (T := TX5) (N := 5) hx hb hts inX5 hown hK hP 0 rfl rfl 1 (by decide) (hts _ mw_185) (fun _ h9 => h9) rfl dX5_fillBox_44 ?_
    refine lv_icmp_ge (tgt := 217) hx hb dX5_fillBox_47 (by decide) (fun c_2 => ?_) (fun c_2 => ?_)
    · have nc_2 : pm ≤ i := (nI_leI (a := pm) (b := i) (by omega) (by omega)).mp c_2
      refine lv_iload hx hb dX5_fillBox_217 (lv_at hl 2 rfl) ?_
      refine W.widen (k := 0) (n := 0) (Nat.le_of_ble_eq_true rfl) (Nat.le_of_ble_eq_true rfl) ?_
      have hP9 : va_P (dC, dI) vwCl [(h, .inr (5, [.ref pwa, .int (nI pm), .int lw, .int hg, .ref kq])), (pwa, .inl (ca 0, 14, .inl pw)), (kq, .inl (ca 2, kl, .inl K1))] H := va_P.sub hP [0, 1, 2] rfl
      have hD9 : va_D A [(h, .inr (5, [.ref pwa, .int (nI pm), .int lw, .int hg, .ref kq])), (pwa, .inl (ca 0, 14, .inl pw)), (kq, .inl (ca 2, kl, .inl K1))] := va_D.sub hD [0, 1, 2] (by decide) rfl
      exact W.iret (v := bs) hx hb hr (fun t ht hW => ⟨⟨bs, K1, rfl, trivial, by rw [ht]; exact hP9, hD9⟩, hS.F ht⟩) hS.2.2 dX5_fillBox_219
    · have nc_2 : ¬ (pm ≤ i) := fun h9 => c_2 ((nI_leI (a := pm) (b := i) (by omega) (by omega)).mpr h9)
      refine lv_iload hx hb dX5_fillBox_50 (lv_at hl 8 rfl) ?_
      refine lv_iload hx hb dX5_fillBox_52 (lv_at hl 0 rfl) ?_
      refine lv_iadd hx hb dX5_fillBox_54 ?_
      refine lv_aload_n hx hb dX5_fillBox_55 rfl (lv_at hl 3 rfl) ?_
      refine va_get (D := (dC, dI)) (ci := 5) (v := .int lw) (C := RX5) (T := TX5) (N := 5) hx hb hts inX5 hown hK hP 0 rfl rfl 2 (by decide) (hts _ mw_186) (fun _ h9 => h9) rfl dX5_fillBox_56 ?_
      refine lv_icmp_lt (tgt := 217) hx hb dX5_fillBox_59 (by decide) (fun c_3 => ?_) (fun c_3 => ?_)
      · refine lv_iload hx hb dX5_fillBox_217 (lv_at hl 2 rfl) ?_
        refine W.widen (k := 0) (n := 0) (Nat.le_of_ble_eq_true rfl) (Nat.le_of_ble_eq_true rfl) ?_
        have hP9 : va_P (dC, dI) vwCl [(h, .inr (5, [.ref pwa, .int (nI pm), .int lw, .int hg, .ref kq])), (pwa, .inl (ca 0, 14, .inl pw)), (kq, .inl (ca 2, kl, .inl K1))] H := va_P.sub hP [0, 1, 2] rfl
        have hD9 : va_D A [(h, .inr (5, [.ref pwa, .int (nI pm), .int lw, .int hg, .ref kq])), (pwa, .inl (ca 0, 14, .inl pw)), (kq, .inl (ca 2, kl, .inl K1))] := va_D.sub hD [0, 1, 2] (by decide) rfl
        exact W.iret (v := bs) hx hb hr (fun t ht hW => ⟨⟨bs, K1, rfl, trivial, by rw [ht]; exact hP9, hD9⟩, hS.F ht⟩) hS.2.2 dX5_fillBox_219
      · refine lv_iload hx hb dX5_fillBox_62 (lv_at hl 2 rfl) ?_
        refine lv_iconst (v := 1) hx hb dX5_fillBox_64 (by decide) ?_
        refine lv_iadd hx hb dX5_fillBox_65 ?_
        refine lv_aload_n hx hb dX5_fillBox_66 rfl (lv_at hl 3 rfl) ?_
        refine va_get (D := (dC, dI)) (ci := 5) (v := .int lw) (C := RX5) (T := TX5) (N := 5) hx hb hts inX5 hown hK hP 0 rfl rfl 2 (by decide) (hts _ mw_186) (fun _ h9 => h9) rfl dX5_fillBox_67 ?_
        refine lv_imul hx hb dX5_fillBox_70 ?_
        refine lv_iload hx hb dX5_fillBox_71 (lv_at hl 8 rfl) ?_
        refine lv_iload_n hx hb dX5_fillBox_73 rfl (lv_at hl 5 rfl) ?_
        refine lv_iadd hx hb dX5_fillBox_74 ?_
        refine lv_icmp_gt (tgt := 217) hx hb dX5_fillBox_75 (by decide) (fun c_4 => ?_) (fun c_4 => ?_)
        · refine lv_iload hx hb dX5_fillBox_217 (lv_at hl 2 rfl) ?_
          refine W.widen (k := 0) (n := 0) (Nat.le_of_ble_eq_true rfl) (Nat.le_of_ble_eq_true rfl) ?_
          have hP9 : va_P (dC, dI) vwCl [(h, .inr (5, [.ref pwa, .int (nI pm), .int lw, .int hg, .ref kq])), (pwa, .inl (ca 0, 14, .inl pw)), (kq, .inl (ca 2, kl, .inl K1))] H := va_P.sub hP [0, 1, 2] rfl
          have hD9 : va_D A [(h, .inr (5, [.ref pwa, .int (nI pm), .int lw, .int hg, .ref kq])), (pwa, .inl (ca 0, 14, .inl pw)), (kq, .inl (ca 2, kl, .inl K1))] := va_D.sub hD [0, 1, 2] (by decide) rfl
          exact W.iret (v := bs) hx hb hr (fun t ht hW => ⟨⟨bs, K1, rfl, trivial, by rw [ht]; exact hP9, hD9⟩, hS.F ht⟩) hS.2.2 dX5_fillBox_219
        · refine lv_aload_n hx hb dX5_fillBox_78 rfl (lv_at hl 3 rfl) ?_
          refine va_get (D := (dC, dI)) (ci := 5) (v := .ref pwa) (C := RX5) (T := TX5) (N := 5) hx hb hts inX5 hown hK hP 0 rfl rfl 0 (by decide) (hts _ mw_184) (fun _ h9 => h9) rfl dX5_fillBox_79 ?_
          refine lv_iload hx hb dX5_fillBox_82 (lv_at hl 1 rfl) ?_
          refine va_iald hx hb hK hP 1 0 rfl rfl (vp_in_nI (show i < 14 by omega) (by first | decide | omega)) dX5_fillBox_84 ?_
          refine lv_topi (fun y_ e_ => ?_)
          obtain rfl : y_ = (pw i) := e_.trans (congrArg pw (show ((nI i) : Int32).toNatClampNeg = i from nI_clamp (by omega)))
          refine lv_istore (lv' := [(9, .int (pw i)), (8, .int rs8), (7, .int (nI i)), (6, .int bs), (0, .ref h), (1, .int (nI fe)), (2, .int v2), (3, .int (nI fr)), (4, .int v4), (5, .int v5)]) hx hb dX5_fillBox_85 hl (by decide) rfl (fun ls hl => ?_)
          refine lv_aload_n hx hb dX5_fillBox_87 rfl (lv_at hl 4 rfl) ?_
          refine lv_iload_n hx hb dX5_fillBox_88 rfl (lv_at hl 5 rfl) ?_
          refine lv_iload hx hb dX5_fillBox_89 (lv_at hl 2 rfl) ?_
          have hPc := hP.sub (ws' := []) [] rfl
          refine pc_i (va_runV (As := [.int (nI fe), .int (nI i)]) (rest := []) ⟨hx, hb, hml, hown, hts⟩ (q_isFree l dC dI ca h (nI fe) (nI i) ) (⟨callB_of 2 hts (gd mw_755) rfl rfl rfl (hts _ mw_7) (hts _ mw_752) ds_X5_isFree ⟨by show 1 + 1 ≤ (2 * d + 3); omega, by show 8 + (3 + 11) + 60 ≤ (130 + 59 * d); omega⟩, (hts _ mw_754), (hts _ mp_24)⟩) (pu_V hPc hK hE (va_recv hK hP (ci := 5) (q0 := 0) rfl rfl)) rfl rfl hl.1 rfl (lv_room (Nat.le_of_ble_eq_true rfl)) dX5_fillBox_91 ⟨Nat.le_of_ble_eq_true rfl, Nat.le_of_ble_eq_true rfl⟩) (fun rv_5 hw_ => ?_)
          obtain rfl : rv_5 = (fre (nI fe) (nI i)) := hw_
          refine wl_cut (pc2 := 150) (σ := Int32 × (Nat → Int32)) (stk2 := fun (z_ : Int32 × (Nat → Int32)) => []) (fun (z_ : Int32 × (Nat → Int32)) H locs ls => (True) ∧ va_P (dC, dI) vwCl [(h, .inr (5, [.ref pwa, .int (nI pm), .int lw, .int hg, .ref kq])), (pwa, .inl (ca 0, 14, .inl pw)), (kq, .inl (ca 2, kl, .inl z_.2))] H ∧ va_D A [(h, .inr (5, [.ref pwa, .int (nI pm), .int lw, .int hg, .ref kq])), (pwa, .inl (ca 0, 14, .inl pw)), (kq, .inl (ca 2, kl, .inl z_.2))] ∧ va_S A s.heap H locs ∧ lv_has ls 11 [(9, .int (pw i)), (8, .int rs8), (7, .int (nI i)), (6, .int z_.1), (0, .ref h), (1, .int (nI fe)), (2, .int v2), (3, .int (nI fr)), (4, .int v4), (5, .int v5)]) (fun z_ H locs ls hI => ?_) (fun J6 => ?_)
          · obtain ⟨b6, K2⟩ := z_
            dsimp only at hI
            obtain ⟨-, hP, hD, hS, hl⟩ := hI
            refine lv_aload_n hx hb dX5_fillBox_150 rfl (lv_at hl 4 rfl) ?_
            refine lv_iload_n hx hb dX5_fillBox_151 rfl (lv_at hl 5 rfl) ?_
            refine lv_iload hx hb dX5_fillBox_152 (lv_at hl 2 rfl) ?_
            have hPc := hP.sub (ws' := []) [] rfl
            refine pc_i (va_runV (As := [.int (nI fe), .int (nI i)]) (rest := []) ⟨hx, hb, hml, hown, hts⟩ (q_isFree l dC dI ca h (nI fe) (nI i) ) (⟨callB_of 2 hts (gd mw_755) rfl rfl rfl (hts _ mw_7) (hts _ mw_752) ds_X5_isFree ⟨by show 1 + 1 ≤ (2 * d + 3); omega, by show 8 + (3 + 11) + 60 ≤ (130 + 59 * d); omega⟩, (hts _ mw_754), (hts _ mp_24)⟩) (pu_V hPc hK hE (va_recv hK hP (ci := 5) (q0 := 0) rfl rfl)) rfl rfl hl.1 rfl (lv_room (Nat.le_of_ble_eq_true rfl)) dX5_fillBox_154 ⟨Nat.le_of_ble_eq_true rfl, Nat.le_of_ble_eq_true rfl⟩) (fun rv_7 hw_ => ?_)
            obtain rfl : rv_7 = (fre (nI fe) (nI i)) := hw_
            refine lv_istore (lv' := [(10, .int (fre (nI fe) (nI i))), (9, .int (pw i)), (8, .int rs8), (7, .int (nI i)), (6, .int b6), (0, .ref h), (1, .int (nI fe)), (2, .int v2), (3, .int (nI fr)), (4, .int v4), (5, .int v5)]) hx hb dX5_fillBox_157 hl (by decide) rfl (fun ls hl => ?_)
            refine wl_loop (fun (z_ : Nat × Int32) H locs ls => (i ≤ z_.1 ∧ z_.1 ≤ pm) ∧ va_P (dC, dI) vwCl [(h, .inr (5, [.ref pwa, .int (nI pm), .int lw, .int hg, .ref kq])), (pwa, .inl (ca 0, 14, .inl pw)), (kq, .inl (ca 2, kl, .inl K2))] H ∧ va_D A [(h, .inr (5, [.ref pwa, .int (nI pm), .int lw, .int hg, .ref kq])), (pwa, .inl (ca 0, 14, .inl pw)), (kq, .inl (ca 2, kl, .inl K2))] ∧ va_S A s.heap H locs ∧ lv_has ls 11 [(10, .int (fre (nI fe) (nI i))), (9, .int (pw i)), (8, .int z_.2), (7, .int (nI z_.1)), (6, .int b6), (0, .ref h), (1, .int (nI fe)), (2, .int v2), (3, .int (nI fr)), (4, .int v4), (5, .int v5)]) (fun (z_ : Nat × Int32) => pm - z_.1) (fun z_ H locs ls hI ih159 => ?_) (i, rs8) ⟨⟨Nat.le_refl _, hi⟩, hP, hD, hS, lv_sub hl [0, 1, 2, 3, 4, 5, 6, 7, 8, 9, 10] rfl⟩
            obtain ⟨i2, r9⟩ := z_
            dsimp only at hI ih159
            obtain ⟨⟨hi2, hi3⟩, hP, hD, hS, hl⟩ := hI
            refine lv_iload hx hb dX5_fillBox_159 (lv_at hl 3 rfl) ?_
            refine lv_aload_n hx hb dX5_fillBox_161 rfl (lv_at hl 5 rfl) ?_
            refine va_get (D := (dC, dI)) (ci := 5) (v := .int (nI pm)) (C := RX5) (T := TX5) (N := 5) hx hb hts inX5 hown hK hP 0 rfl rfl 1 (by decide) (hts _ mw_185) (fun _ h9 => h9) rfl dX5_fillBox_162 ?_
            refine lv_icmp_ge (tgt := 214) hx hb dX5_fillBox_165 (by decide) (fun c_8 => ?_) (fun c_8 => ?_)
            · have nc_8 : pm ≤ i2 := (nI_leI (a := pm) (b := i2) (by omega) (by omega)).mp c_8
              refine lv_goto (tgt := 41) hx hb dX5_fillBox_214 (by decide) ?_
              exact ih (b6, i2, r9, K2) _ _ _ (by (first | omega | (dsimp only; omega))) ⟨(by first | omega | (dsimp only; omega)), hP, hD, hS, lv_sub hl [2, 3, 4, 5, 6, 7, 8, 9, 10] rfl⟩
            · have nc_8 : ¬ pm ≤ i2 := fun h9 => c_8 ((nI_leI (by omega) (by omega)).mpr h9)
              refine lv_aload_n hx hb dX5_fillBox_168 rfl (lv_at hl 5 rfl) ?_
              refine va_get (D := (dC, dI)) (ci := 5) (v := .ref pwa) (C := RX5) (T := TX5) (N := 5) hx hb hts inX5 hown hK hP 0 rfl rfl 0 (by decide) (hts _ mw_184) (fun _ h9 => h9) rfl dX5_fillBox_169 ?_
              refine lv_iload hx hb dX5_fillBox_172 (lv_at hl 3 rfl) ?_
              refine va_iald hx hb hK hP 1 0 rfl rfl (vp_in_nI (show i2 < 14 by omega) (by first | decide | omega)) dX5_fillBox_174 ?_
              refine lv_topi (fun y_ e_ => ?_)
              obtain rfl : y_ = (pw i2) := e_.trans (congrArg pw (show ((nI i2) : Int32).toNatClampNeg = i2 from nI_clamp (by omega)))
              refine lv_iload hx hb dX5_fillBox_175 (lv_at hl 1 rfl) ?_
              refine lv_icmp_ne (tgt := 214) hx hb dX5_fillBox_177 (by decide) (fun c_9 => ?_) (fun c_9 => ?_)
              · refine lv_goto (tgt := 41) hx hb dX5_fillBox_214 (by decide) ?_
                exact ih (b6, i2, r9, K2) _ _ _ (by have : i2 ≠ i := (fun h9 => c_9 (by rw [h9])); (first | omega | (dsimp only; omega))) ⟨(by first | omega | (dsimp only; omega)), hP, hD, hS, lv_sub hl [2, 3, 4, 5, 6, 7, 8, 9, 10] rfl⟩
              · refine lv_aload_n hx hb dX5_fillBox_180 rfl (lv_at hl 5 rfl) ?_
                refine lv_iload_n hx hb dX5_fillBox_181 rfl (lv_at hl 6 rfl) ?_
                refine lv_iload hx hb dX5_fillBox_182 (lv_at hl 3 rfl) ?_
                have hPc := hP.sub (ws' := []) [] rfl
                refine pc_i (va_runV (As := [.int (nI fe), .int (nI i2)]) (rest := []) ⟨hx, hb, hml, hown, hts⟩ (q_isFree l dC dI ca h (nI fe) (nI i2) ) (⟨callB_of 2 hts (gd mw_755) rfl rfl rfl (hts _ mw_7) (hts _ mw_752) ds_X5_isFree ⟨by show 1 + 1 ≤ (2 * d + 3); omega, by show 8 + (3 + 11) + 60 ≤ (130 + 59 * d); omega⟩, (hts _ mw_754), (hts _ mp_24)⟩) (pu_V hPc hK hE (va_recv hK hP (ci := 5) (q0 := 0) rfl rfl)) rfl rfl hl.1 rfl (lv_room (Nat.le_of_ble_eq_true rfl)) dX5_fillBox_184 ⟨Nat.le_of_ble_eq_true rfl, Nat.le_of_ble_eq_true rfl⟩) (fun rv_10 hw_ => ?_)
                obtain rfl : rv_10 = (fre (nI fe) (nI i2)) := hw_
                refine lv_iload hx hb dX5_fillBox_187 (lv_at hl 0 rfl) ?_
                refine lv_icmp_ne (tgt := 214) hx hb dX5_fillBox_189 (by decide) (fun c_11 => ?_) (fun c_11 => ?_)
                · refine lv_goto (tgt := 41) hx hb dX5_fillBox_214 (by decide) ?_
                  exact ih (b6, i2, r9, K2) _ _ _ (by have : i2 ≠ i := (fun h9 => c_11 (by rw [h9])); (first | omega | (dsimp only; omega))) ⟨(by first | omega | (dsimp only; omega)), hP, hD, hS, lv_sub hl [2, 3, 4, 5, 6, 7, 8, 9, 10] rfl⟩
                · refine lv_iload hx hb dX5_fillBox_192 (lv_at hl 2 rfl) ?_
                  refine lv_iload hx hb dX5_fillBox_194 (lv_at hl 0 rfl) ?_
                  refine lv_if_eq (tgt := 204) hx hb dX5_fillBox_196 (by decide) (fun c_12 => ?_) (fun c_12 => ?_)
                  · refine lv_iconst (v := 0) hx hb dX5_fillBox_204 (by decide) ?_
                    refine lv_isub hx hb dX5_fillBox_205 ?_
                    refine lv_istore (lv' := [(8, .int (r9 - 0)), (10, .int (fre (nI fe) (nI i))), (9, .int (pw i)), (7, .int (nI i2)), (6, .int b6), (0, .ref h), (1, .int (nI fe)), (2, .int v2), (3, .int (nI fr)), (4, .int v4), (5, .int v5)]) hx hb dX5_fillBox_206 hl (by decide) rfl (fun ls hl => ?_)
                    refine lv_iinc (v := (nI (i2 + 1))) (lv' := [(7, .int (nI (i2 + 1))), (8, .int (r9 - 0)), (10, .int (fre (nI fe) (nI i))), (9, .int (pw i)), (6, .int b6), (0, .ref h), (1, .int (nI fe)), (2, .int v2), (3, .int (nI fr)), (4, .int v4), (5, .int v5)]) hx hb dX5_fillBox_208 hl (k := 3) rfl (nI_add (i2) 1) (by decide) rfl (fun ls hl => ?_)
                    refine lv_goto (tgt := 159) hx hb dX5_fillBox_211 (by decide) ?_
                    exact ih159 (i2 + 1, (r9 - 0)) _ _ _ (by omega) ⟨(by omega), hP, hD, hS, lv_sub hl [2, 3, 1, 0, 4, 5, 6, 7, 8, 9, 10] rfl⟩
                  · refine lv_iload hx hb dX5_fillBox_199 (lv_at hl 1 rfl) ?_
                    refine lv_goto (tgt := 205) hx hb dX5_fillBox_201 (by decide) ?_
                    refine lv_isub hx hb dX5_fillBox_205 ?_
                    refine lv_istore (lv' := [(8, .int (r9 - (pw i))), (10, .int (fre (nI fe) (nI i))), (9, .int (pw i)), (7, .int (nI i2)), (6, .int b6), (0, .ref h), (1, .int (nI fe)), (2, .int v2), (3, .int (nI fr)), (4, .int v4), (5, .int v5)]) hx hb dX5_fillBox_206 hl (by decide) rfl (fun ls hl => ?_)
                    refine lv_iinc (v := (nI (i2 + 1))) (lv' := [(7, .int (nI (i2 + 1))), (8, .int (r9 - (pw i))), (10, .int (fre (nI fe) (nI i))), (9, .int (pw i)), (6, .int b6), (0, .ref h), (1, .int (nI fe)), (2, .int v2), (3, .int (nI fr)), (4, .int v4), (5, .int v5)]) hx hb dX5_fillBox_208 hl (k := 3) rfl (nI_add (i2) 1) (by decide) rfl (fun ls hl => ?_)
                    refine lv_goto (tgt := 159) hx hb dX5_fillBox_211 (by decide) ?_
                    exact ih159 (i2 + 1, (r9 - (pw i))) _ _ _ (by omega) ⟨(by omega), hP, hD, hS, lv_sub hl [2, 3, 1, 0, 4, 5, 6, 7, 8, 9, 10] rfl⟩
          · refine lv_if_eq (tgt := 150) hx hb dX5_fillBox_94 (by decide) (fun c_13 => ?_) (fun c_13 => ?_)
            · exact J6 (bs, K1) _ _ _ ⟨trivial, hP, hD, hS, lv_sub hl [0, 1, 2, 3, 4, 5, 6, 7, 8, 9] rfl⟩
            · have hbit : fe.testBit i = true := fre_bit (by omega) (by omega) c_13
              have hcp := clr_pc (fe := fe) (i := i) (by omega) hbit
              refine lv_iload hx hb dX5_fillBox_97 (lv_at hl 9 rfl) ?_
              refine lv_iload hx hb dX5_fillBox_99 (lv_at hl 0 rfl) ?_
              refine lv_iadd hx hb dX5_fillBox_101 ?_
              refine lv_aload_n hx hb dX5_fillBox_102 rfl (lv_at hl 4 rfl) ?_
              refine va_get (D := (dC, dI)) (ci := 5) (v := .int hg) (C := RX5) (T := TX5) (N := 5) hx hb hts inX5 hown hK hP 0 rfl rfl 3 (by decide) (hts _ mw_187) (fun _ h9 => h9) rfl dX5_fillBox_103 ?_
              refine lv_icmp_gt (tgt := 150) hx hb dX5_fillBox_106 (by decide) (fun c_14 => ?_) (fun c_14 => ?_)
              · exact J6 (bs, K1) _ _ _ ⟨trivial, hP, hD, hS, lv_sub hl [0, 1, 2, 3, 4, 5, 6, 7, 8, 9] rfl⟩
              · refine lv_aload_n hx hb dX5_fillBox_109 rfl (lv_at hl 4 rfl) ?_
                refine lv_iload_n hx hb dX5_fillBox_110 rfl (lv_at hl 5 rfl) ?_
                refine lv_iconst (v := 1) hx hb dX5_fillBox_111 (by decide) ?_
                refine lv_iload hx hb dX5_fillBox_112 (lv_at hl 2 rfl) ?_
                refine lv_ishl hx hb dX5_fillBox_114 ?_
                refine lv_topi (fun y_ e_ => ?_)
                obtain rfl : y_ = (nI (2 ^ i)) := e_.trans (tb_sh (by omega))
                refine lv_iconst (v := (-1)) hx hb dX5_fillBox_115 (by decide) ?_
                refine lv_ixor hx hb dX5_fillBox_116 ?_
                refine lv_topi (fun y_ e_ => ?_)
                obtain rfl : y_ = (nI (4294967295 - 2 ^ i)) := e_.trans (tb_x (by omega))
                refine lv_iand hx hb dX5_fillBox_117 ?_
                refine lv_topi (fun y_ e_ => ?_)
                obtain rfl : y_ = (nI (clr fe i)) := e_.trans (tb_and _ _)
                refine lv_iload_n hx hb dX5_fillBox_118 rfl (lv_at hl 6 rfl) ?_
                refine lv_iload hx hb dX5_fillBox_119 (lv_at hl 0 rfl) ?_
                refine lv_isub hx hb dX5_fillBox_121 ?_
                refine lv_iload hx hb dX5_fillBox_122 (lv_at hl 2 rfl) ?_
                refine lv_iconst (v := 1) hx hb dX5_fillBox_124 (by decide) ?_
                refine lv_iadd hx hb dX5_fillBox_125 ?_
                refine lv_topi (fun y_ e_ => ?_)
                obtain rfl : y_ = (nI (i + 1)) := e_.trans (nI_add (i) (1))
                refine lv_iload hx hb dX5_fillBox_126 (lv_at hl 1 rfl) ?_
                refine lv_iload hx hb dX5_fillBox_128 (lv_at hl 0 rfl) ?_
                refine lv_isub hx hb dX5_fillBox_130 ?_
                refine lv_iload hx hb dX5_fillBox_131 (lv_at hl 9 rfl) ?_
                refine lv_iload hx hb dX5_fillBox_133 (lv_at hl 0 rfl) ?_
                refine lv_iadd hx hb dX5_fillBox_135 ?_
                have hPc := hP.sub (ws' := [(h, .inr (5, [.ref pwa, .int (nI pm), .int lw, .int hg, .ref kq])), (pwa, .inl (ca 0, 14, .inl pw)), (kq, .inl (ca 2, kl, .inl K1))]) [0, 1, 2] rfl
                have hDc := hD.sub (ws' := [(h, .inr (5, [.ref pwa, .int (nI pm), .int lw, .int hg, .ref kq])), (pwa, .inl (ca 0, 14, .inl pw)), (kq, .inl (ca 2, kl, .inl K1))]) [0, 1, 2] (by decide) rfl
                have hFc := va_free (wc := [(h, .inr (5, [.ref pwa, .int (nI pm), .int lw, .int hg, .ref kq])), (pwa, .inl (ca 0, 14, .inl pw)), (kq, .inl (ca 2, kl, .inl K1))]) hD hS hA [0, 1, 2] rfl
                refine va_calli (va_runV (As := [.int (nI (clr fe i)), .int (v2 - (pw i)), .int (nI (i + 1)), .int (rs8 - (pw i)), .int (v5 + (pw i))]) (rest := []) ⟨hx, hb, hml, hown, hts⟩ ((ihR (d - 1) (by omega)).2 H.size h pwa pm lw hg kq kl pw K1 (clr fe i) (v2 - (pw i)) (i + 1) (rs8 - (pw i)) (v5 + (pw i)) hpm hkl hkx (Nat.lt_of_le_of_lt (clr_le _ _) hfe) (by omega) (by omega)) (⟨callB_of 5 hts (gd mw_759) rfl rfl rfl (hts _ mw_7) (hts _ mw_756) ds_X5_fillBox ⟨by show (2 * (d - 1) + 3) + 1 ≤ (2 * d + 3); omega, by show 8 + (11 + 11) + (130 + 59 * (d - 1)) ≤ (130 + 59 * d); omega⟩, (hts _ mw_758), (hts _ mp_25)⟩) (pr_V hPc hK hDc hE (va_recv hK hPc (ci := 5) (q0 := 0) rfl rfl)) rfl rfl hl.1 rfl (lv_room (Nat.le_of_ble_eq_true rfl)) dX5_fillBox_136 ⟨Nat.le_of_ble_eq_true rfl, Nat.le_of_ble_eq_true rfl⟩) hS (fun q _ h => hFc q h) hFc (fun rv_15 KN2_15 t_ H1 locs ht hvm hw_ hB hz1 hk1 hS => ?_)
                have hw_15 := hw_
                obtain ⟨hP1, hD1⟩ := hB
                rw [ht] at hP1
                obtain ⟨hP, hD⟩ := va_join (wr := []) (w1 := [(h, .inr (5, [.ref pwa, .int (nI pm), .int lw, .int hg, .ref kq])), (pwa, .inl (ca 0, 14, .inl pw)), (kq, .inl (ca 2, kl, .inl KN2_15))]) hP hD [0, 1, 2] [] rfl rfl (by decide) (by decide) hk1 hFc hP1 hD1
                generalize H1 = H at hP hS ⊢
                obtain ⟨hP, hD⟩ := va_bo [(h, .inr (5, [.ref pwa, .int (nI pm), .int lw, .int hg, .ref kq])), (pwa, .inl (ca 0, 14, .inl pw)), (kq, .inl (ca 2, kl, .inl KN2_15))] hP hD
                refine lv_istore (lv' := [(10, .int rv_15), (9, .int (pw i)), (8, .int rs8), (7, .int (nI i)), (6, .int bs), (0, .ref h), (1, .int (nI fe)), (2, .int v2), (3, .int (nI fr)), (4, .int v4), (5, .int v5)]) hx hb dX5_fillBox_139 hl (by decide) rfl (fun ls hl => ?_)
                refine lv_iload hx hb dX5_fillBox_141 (lv_at hl 4 rfl) ?_
                refine lv_iload hx hb dX5_fillBox_143 (lv_at hl 0 rfl) ?_
                refine va_mmax hx hb (by rw [hml]; exact hl.1.symm) hown (hts _ mw_760) (hts _ mw_388) (hts _ mw_12) (hts _ mmax_code) (by show 1 ≤ (2 * d + 3); omega) (by show _ + 13 ≤ (130 + 59 * d); simp [Value.category]; omega) (Nat.le_of_ble_eq_true rfl) (Nat.le_of_ble_eq_true rfl) dX5_fillBox_145 ?_
                refine lv_topi (fun y_ e_ => ?_)
                obtain rfl : y_ = (maI bs rv_15) := e_.trans rfl
                refine lv_istore (lv' := [(6, .int (maI bs rv_15)), (10, .int rv_15), (9, .int (pw i)), (8, .int rs8), (7, .int (nI i)), (0, .ref h), (1, .int (nI fe)), (2, .int v2), (3, .int (nI fr)), (4, .int v4), (5, .int v5)]) hx hb dX5_fillBox_148 hl (by decide) rfl (fun ls hl => ?_)
                exact J6 ((maI bs rv_15), KN2_15) _ _ _ ⟨trivial, hP, hD, hS, lv_sub hl [2, 3, 4, 0, 5, 6, 7, 8, 9, 10] rfl⟩
  · refine lv_iload hx hb dX5_fillBox_9 (lv_at hl 5 rfl) ?_
    refine lv_aload_n hx hb dX5_fillBox_11 rfl (lv_at hl 0 rfl) ?_
    refine va_get (D := (dC, dI)) (ci := 5) (v := .int hg) (C := RX5) (T := TX5) (N := 5) hx hb hts inX5 hown hK hP 0 rfl rfl 3 (by decide) (hts _ mw_187) (fun _ h9 => h9) rfl dX5_fillBox_12 ?_
    refine lv_icmp_gt (tgt := 29) hx hb dX5_fillBox_15 (by decide) (fun c_16 => ?_) (fun c_16 => ?_)
    · refine lv_iconst (v := 0) hx hb dX5_fillBox_29 (by decide) ?_
      refine W.widen (k := 0) (n := 0) (Nat.le_of_ble_eq_true rfl) (Nat.le_of_ble_eq_true rfl) ?_
      have hP9 : va_P (dC, dI) vwCl [(h, .inr (5, [.ref pwa, .int (nI pm), .int lw, .int hg, .ref kq])), (pwa, .inl (ca 0, 14, .inl pw)), (kq, .inl (ca 2, kl, .inl KN))] s.heap := va_P.sub hP [0, 1, 2] rfl
      have hD9 : va_D A [(h, .inr (5, [.ref pwa, .int (nI pm), .int lw, .int hg, .ref kq])), (pwa, .inl (ca 0, 14, .inl pw)), (kq, .inl (ca 2, kl, .inl KN))] := va_D.sub hD [0, 1, 2] (by decide) rfl
      exact W.iret (v := 0) hx hb hr (fun t ht hW => ⟨⟨0, KN, rfl, trivial, by rw [ht]; exact hP9, hD9⟩, hS.F ht⟩) hS.2.2 dX5_fillBox_30
    · refine lv_iconst (v := 1) hx hb dX5_fillBox_18 (by decide) ?_
      refine lv_aload_n hx hb dX5_fillBox_19 rfl (lv_at hl 0 rfl) ?_
      refine lv_iload_n hx hb dX5_fillBox_20 rfl (lv_at hl 1 rfl) ?_
      refine lv_iload_n hx hb dX5_fillBox_21 rfl (lv_at hl 2 rfl) ?_
      have hPc := hP.sub (ws' := [(h, .inr (5, [.ref pwa, .int (nI pm), .int lw, .int hg, .ref kq])), (pwa, .inl (ca 0, 14, .inl pw)), (kq, .inl (ca 2, kl, .inl KN))]) [0, 1, 2] rfl
      have hDc := hD.sub (ws' := [(h, .inr (5, [.ref pwa, .int (nI pm), .int lw, .int hg, .ref kq])), (pwa, .inl (ca 0, 14, .inl pw)), (kq, .inl (ca 2, kl, .inl KN))]) [0, 1, 2] (by decide) rfl
      have hFc := va_free (wc := [(h, .inr (5, [.ref pwa, .int (nI pm), .int lw, .int hg, .ref kq])), (pwa, .inl (ca 0, 14, .inl pw)), (kq, .inl (ca 2, kl, .inl KN))]) hD hS hA [0, 1, 2] rfl
      refine va_calli (va_runV (As := [.int (nI fe), .int v2]) (rest := [.int 1]) ⟨hx, hb, hml, hown, hts⟩ (hM s.heap.size h pwa pm lw hg kq kl pw KN fe v2 hpm hkl hkx hfe hpc) (⟨callB_of 2 hts (gd mw_751) rfl rfl rfl (hts _ mw_7) (hts _ mw_748) ds_X5_mostOf ⟨by show (2 * d + 2) + 1 ≤ (2 * d + 3); omega, by show 8 + (10 + 11) + (101 + 59 * d) ≤ (130 + 59 * d); omega⟩, (hts _ mw_750), (hts _ mp_23)⟩) (pr_V hPc hK hDc hE (va_recv hK hPc (ci := 5) (q0 := 0) rfl rfl)) rfl rfl hl.1 rfl (lv_room (Nat.le_of_ble_eq_true rfl)) dX5_fillBox_22 ⟨Nat.le_of_ble_eq_true rfl, Nat.le_of_ble_eq_true rfl⟩) hS (fun q _ h => hFc q h) hFc (fun rv_17 KN2_17 t_ H1 locs ht hvm hw_ hB hz1 hk1 hS => ?_)
      have hw_17 := hw_
      obtain ⟨hP1, hD1⟩ := hB
      rw [ht] at hP1
      obtain ⟨hP, hD⟩ := va_join (wr := []) (w1 := [(h, .inr (5, [.ref pwa, .int (nI pm), .int lw, .int hg, .ref kq])), (pwa, .inl (ca 0, 14, .inl pw)), (kq, .inl (ca 2, kl, .inl KN2_17))]) hP hD [0, 1, 2] [] rfl rfl (by decide) (by decide) hk1 hFc hP1 hD1
      generalize H1 = H at hP hS ⊢
      obtain ⟨hP, hD⟩ := va_bo [(h, .inr (5, [.ref pwa, .int (nI pm), .int lw, .int hg, .ref kq])), (pwa, .inl (ca 0, 14, .inl pw)), (kq, .inl (ca 2, kl, .inl KN2_17))] hP hD
      refine lv_iadd hx hb dX5_fillBox_25 ?_
      refine lv_goto (tgt := 30) hx hb dX5_fillBox_26 (by decide) ?_
      refine W.widen (k := 0) (n := 0) (Nat.le_of_ble_eq_true rfl) (Nat.le_of_ble_eq_true rfl) ?_
      have hP9 : va_P (dC, dI) vwCl [(h, .inr (5, [.ref pwa, .int (nI pm), .int lw, .int hg, .ref kq])), (pwa, .inl (ca 0, 14, .inl pw)), (kq, .inl (ca 2, kl, .inl KN2_17))] H := va_P.sub hP [0, 1, 2] rfl
      have hD9 : va_D A [(h, .inr (5, [.ref pwa, .int (nI pm), .int lw, .int hg, .ref kq])), (pwa, .inl (ca 0, 14, .inl pw)), (kq, .inl (ca 2, kl, .inl KN2_17))] := va_D.sub hD [0, 1, 2] (by decide) rfl
      exact W.iret (v := (1 + rv_17)) hx hb hr (fun t ht hW => ⟨⟨(1 + rv_17), KN2_17, rfl, trivial, by rw [ht]; exact hP9, hD9⟩, hS.F ht⟩) hS.2.2 dX5_fillBox_30

theorem q_all (l : Launch) (dC : Nat → ClassId) (dI : Nat → Nat → Nat) (ca : Nat → ClassId) (d : Nat) : MetM l dC dI ca d ∧ MetF l dC dI ca d := by
  induction d using Nat.strongRecOn with
  | ind d ih =>
    have hM : MetM l dC dI ca d := fun sz h pwa pm lw hg kq kl pw KN fe v2 hpm hkl hkx hfe hpc => q_most l dC dI ca d ih sz h pwa pm lw hg kq kl pw KN fe v2 hpm hkl hkx hfe hpc
    exact ⟨hM, fun sz h pwa pm lw hg kq kl pw KN fe v2 fr v4 v5 hpm hkl hkx hfe hpc hfr => q_fill l dC dI ca d hM ih sz h pwa pm lw hg kq kl pw KN fe v2 fr v4 v5 hpm hkl hkx hfe hpc hfr⟩
