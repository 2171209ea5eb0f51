def ntI (K Q : Nat → Int32) (k : Nat) : Int32 := if K (Q k).toNatClampNeg = 4 then 1 else 0
theorem ntI_z (K Q : Nat → Int32) (k : Nat) : ntI K Q k = 0 ∨ ntI K Q k = 1 := by
  unfold ntI
  split
  · exact Or.inr rfl
  · exact Or.inl rfl
/-- why one may not come -/
def blk (K Q : Nat → Int32) (n st k : Nat) : Prop := st.testBit k = true ∨ (¬ ntI K Q k = 0 ∧ ∃ j, j < n ∧ ntI K Q j = 0 ∧ st.testBit j = false)
theorem tb_ex (p : Nat → Bool) : ∀ n, tb_ct p n < n → ∃ k, k < n ∧ p k = false
  | 0, h => absurd h (by omega)
  | n + 1, h => by
    cases hp : p n with
    | false => exact ⟨n, by omega, hp⟩
    | true =>
      have h1 : tb_ct p n + (if p n then 1 else 0) < n + 1 := h
      rw [hp, if_pos rfl] at h1
      obtain ⟨k, hk, h2⟩ := tb_ex p n (by omega)
      exact ⟨k, by omega, h2⟩
/-- while some are wanting, one may come -/
theorem blk_no {K Q : Nat → Int32} {n st : Nat} (hc : tb_ct (fun k => st.testBit k) n < n) (h : ∀ k, k < n → blk K Q n st k) : False := by
  obtain ⟨k, hk, h1⟩ := tb_ex _ n hc
  rcases h k hk with h2 | ⟨_, j, hj, h3, h4⟩
  · rw [h1] at h2; cases h2
  · rcases h j hj with h5 | ⟨h5, _⟩
    · rw [h4] at h5; cases h5
    · exact h5 h3
theorem or_bit {st b k : Nat} (hne : ¬ k = b) : (st ||| 2 ^ b).testBit k = st.testBit k := by
  rw [Nat.testBit_or, Nat.testBit_two_pow_of_ne (fun h => hne h.symm), Bool.or_false]
theorem or_ct {st b n : Nat} (hb : b < n) (h : st.testBit b = false) : tb_ct (fun k => (st ||| 2 ^ b).testBit k) n = tb_ct (fun k => st.testBit k) n + 1 :=
  (tb_off (p := fun k => (st ||| 2 ^ b).testBit k) (q := fun k => st.testBit k) (i := b) (by show (st ||| 2 ^ b).testBit b = true; rw [Nat.testBit_or, Nat.testBit_two_pow_self, Bool.or_true]) h hb (fun k _ hne => (or_bit hne).symm)).symm
theorem ct_0 (n : Nat) : tb_ct (fun k => (0 : Nat).testBit k) n = 0 := by
  induction n with
  | zero => rfl
  | succ n ih => show tb_ct _ n + _ = 0; rw [ih]; simp
theorem or_10 {st k : Nat} (hs : st < 1024) (hk : k < 10) : st ||| 2 ^ k < 1024 := Nat.or_lt_two_pow (n := 10) hs (Nat.pow_lt_pow_right (by decide) hk)
theorem p10 {n : Nat} (h : n ≤ 10) : 2 ^ n ≤ 1024 := Nat.pow_le_pow_right (n := 2) (by decide) h
theorem lt31 {n : Nat} (h : n < 1024) : n < 2 ^ 31 := by omega

set_option maxHeartbeats 4000000 in
set_option maxRecDepth 100000 in
theorem m_isNut (l : Launch) (dC : Nat → ClassId) (dI : Nat → Nat → Nat) (ca : Nat → ClassId) (y : Nat) (b2 : Nat → Nat) (ml : Nat) (mb : Nat) (mp : Nat) (mx : Nat) (mr : Nat) (mq : Nat) (gl : Int32) (gh : Int32) (mch : Nat) (mli : Nat) (mno : Nat) (A8 : Nat → Int32) (A35 : Nat → Int32) (k : Nat) (hM : mI ml mb mp mx mr mq mch mli mno) (hk : k < 10) (h_queue : ∀ j, cnt (A35 j) 39) : Met l yX11_isNut (Cond.code yX11_isNut cX11_isNut 2 (some .boolean) :: gT) ({ frames := 1, cells := 0, slots := 0, locals := 60 }) (va_Pc [.ref y, .int (nI k)] (pu (dC, dI) [(y, .inr (11, [.int (nI ml), .int (nI mb), .int (nI mp), .int (nI mx), .int (nI mr), .int (nI mq), .ref (b2 6), .ref (b2 7), .ref (b2 8), .ref (b2 9), .ref (b2 10), .ref (b2 11), .ref (b2 12), .ref (b2 13), .ref (b2 14), .ref (b2 15), .ref (b2 16), .ref (b2 17), .ref (b2 18), .ref (b2 19), .ref (b2 20), .ref (b2 21), .ref (b2 22), .ref (b2 23), .ref (b2 24), .ref (b2 25), .ref (b2 26), .ref (b2 27), .ref (b2 28), .int gl, .int gh, .ref (b2 31), .ref (b2 32), .ref (b2 33), .ref (b2 34), .ref (b2 35), .ref (b2 36), .ref (b2 37), .ref (b2 38), .ref (b2 39), .ref (b2 40), .ref (b2 41), .ref (b2 42), .ref (b2 43), .ref (b2 44), .ref (b2 45), .ref (b2 46), .ref (b2 47), .int (nI mch), .int (nI mli), .ref (b2 50), .ref (b2 51), .int (nI mno), .ref (b2 53), .ref (b2 54), .ref (b2 55)])), ((b2 8), .inl (ca 0, 40, .inl A8)), ((b2 35), .inl (ca 0, 10, .inl A35))] (aT ca))) (vp_Si (fun r => r = ntI A8 A35 k)) 0 0 (fun _ => False) := by
  refine Met.ofW (cc := cX11_isNut) (maxL := 2) (ret := (some .boolean)) (by decide) rfl ?_
  intro p e s m args below meth c s₁ B hml hv
  obtain ⟨rfl, hP, hK, hE⟩ := hv
  have hx := B.exec
  have hb := B.bytes
  have hr := B.returns
  have hts : ∀ w ∈ gT, w.before _ s = true := fun w h => atoms_spec (ws := Cond.code yX11_isNut cX11_isNut 2 (some .boolean) :: gT) B.pre w (List.mem_cons_of_mem _ h)
  have hown : s.vm.findClass RX11 = some m.cls := findClass_of_methodNamed B.named
  have hlocks := B.notSynchronized
  have hl := lv_entry ([.ref y, .int (nI k)]) (n := 2) (Nat.le_of_ble_eq_true rfl)
  rw [lg_entry_eq]
  generalize (lg_sl ([.ref y, .int (nI k)]) ++ List.replicate (2 - (lg_sl ([.ref y, .int (nI k)])).length) Slot.unset).toArray = ls at hl ⊢
  have hl : lv_has ls 2 [(0, .ref y), (1, .int (nI k))] := hl
  obtain ⟨hm1, hm2, hm3, hm4, hm5, hm6, hm7, hm8, hm9⟩ := id hM
  refine lv_aload_n hx hb dX11_isNut_0 rfl (lv_at hl 0 rfl) ?_
  refine va_get (D := (dC, dI)) (ci := 11) (v := .ref (b2 8)) (C := RX11) (T := TX11) (N := 56) hx hb hts inX11 hown hK hP 0 rfl rfl 8 (by decide) (hts _ mw_888) (fun _ h9 => h9) rfl dX11_isNut_1 ?_
  refine lv_aload_n hx hb dX11_isNut_4 rfl (lv_at hl 0 rfl) ?_
  refine va_get (D := (dC, dI)) (ci := 11) (v := .ref (b2 35)) (C := RX11) (T := TX11) (N := 56) hx hb hts inX11 hown hK hP 0 rfl rfl 35 (by decide) (hts _ mw_915) (fun _ h9 => h9) rfl dX11_isNut_5 ?_
  refine lv_iload_n hx hb dX11_isNut_8 rfl (lv_at hl 1 rfl) ?_
  refine va_iald hx hb hK hP 2 0 rfl rfl (vp_in_nI (show k < 10 by omega) (by first | decide | omega)) dX11_isNut_9 ?_
  refine lv_topi (fun y_ e_ => ?_)
  obtain rfl : y_ = (A35 k) := e_.trans (congrArg A35 (show ((nI k) : Int32).toNatClampNeg = k from nI_clamp (by omega)))
  refine va_iald hx hb hK hP 1 0 rfl rfl (cnt_vp (h_queue k) (by decide) (by decide)) dX11_isNut_10 ?_
  refine lv_iconst (v := 4) hx hb dX11_isNut_11 (by decide) ?_
  refine lv_icmp_ne (tgt := 19) hx hb dX11_isNut_12 (by decide) (fun c_1 => ?_) (fun c_1 => ?_)
  · refine lv_iconst (v := 0) hx hb dX11_isNut_19 (by decide) ?_
    exact W.zret (v := 0) (ty := .boolean) hx hb hr rfl (fun t ht hW => ⟨0, rfl, (by unfold ntI; simp [c_1]), ht⟩) (fun q h => absurd h List.not_mem_nil) dX11_isNut_20
  · refine lv_iconst (v := 1) hx hb dX11_isNut_15 (by decide) ?_
    refine lv_goto (tgt := 20) hx hb dX11_isNut_16 (by decide) ?_
    exact W.zret (v := 1) (ty := .boolean) hx hb hr rfl (fun t ht hW => ⟨1, rfl, (by unfold ntI; simp [c_1]), ht⟩) (fun q h => absurd h List.not_mem_nil) dX11_isNut_20

set_option maxHeartbeats 4000000 in
set_option maxRecDepth 100000 in
theorem m_mayCome (l : Launch) (dC : Nat → ClassId) (dI : Nat → Nat → Nat) (ca : Nat → ClassId) (y : Nat) (b2 : Nat → Nat) (ml : Nat) (mb : Nat) (mp : Nat) (mx : Nat) (mr : Nat) (mq : Nat) (gl : Int32) (gh : Int32) (mch : Nat) (mli : Nat) (mno : Nat) (A8 : Nat → Int32) (A35 : Nat → Int32) (st_ : Nat) (k : Nat) (v3 : Int32) (hM : mI ml mb mp mx mr mq mch mli mno) (hst : st_ < 1024) (hk : k < 10) (h_queue : ∀ j, cnt (A35 j) 39) : Met l yX11_mayCome (Cond.code yX11_mayCome cX11_mayCome 5 (some .boolean) :: gT) ({ frames := 2, cells := 0, slots := 0, locals := 81 }) (va_Pc [.ref y, .int (nI st_), .int (nI k), .int v3] (pu (dC, dI) [(y, .inr (11, [.int (nI ml), .int (nI mb), .int (nI mp), .int (nI mx), .int (nI mr), .int (nI mq), .ref (b2 6), .ref (b2 7), .ref (b2 8), .ref (b2 9), .ref (b2 10), .ref (b2 11), .ref (b2 12), .ref (b2 13), .ref (b2 14), .ref (b2 15), .ref (b2 16), .ref (b2 17), .ref (b2 18), .ref (b2 19), .ref (b2 20), .ref (b2 21), .ref (b2 22), .ref (b2 23), .ref (b2 24), .ref (b2 25), .ref (b2 26), .ref (b2 27), .ref (b2 28), .int gl, .int gh, .ref (b2 31), .ref (b2 32), .ref (b2 33), .ref (b2 34), .ref (b2 35), .ref (b2 36), .ref (b2 37), .ref (b2 38), .ref (b2 39), .ref (b2 40), .ref (b2 41), .ref (b2 42), .ref (b2 43), .ref (b2 44), .ref (b2 45), .ref (b2 46), .ref (b2 47), .int (nI mch), .int (nI mli), .ref (b2 50), .ref (b2 51), .int (nI mno), .ref (b2 53), .ref (b2 54), .ref (b2 55)])), ((b2 8), .inl (ca 0, 40, .inl A8)), ((b2 35), .inl (ca 0, 10, .inl A35))] (aT ca))) (vp_Si (fun r => (r = 0 ∨ r = 1) ∧ (r = 0 → blk A8 A35 mq st_ k) ∧ (r = 1 → st_.testBit k = false))) 0 0 (fun _ => False) := by
  refine Met.ofW (cc := cX11_mayCome) (maxL := 5) (ret := (some .boolean)) (by decide) rfl ?_
  intro p e s m args below meth c s₁ B hml hv
  obtain ⟨rfl, hP, hK, hE⟩ := hv
  have hx := B.exec
  have hb := B.bytes
  have hr := B.returns
  have hts : ∀ w ∈ gT, w.before _ s = true := fun w h => atoms_spec (ws := Cond.code yX11_mayCome cX11_mayCome 5 (some .boolean) :: gT) B.pre w (List.mem_cons_of_mem _ h)
  have hown : s.vm.findClass RX11 = some m.cls := findClass_of_methodNamed B.named
  have hlocks := B.notSynchronized
  have hl := lv_entry ([.ref y, .int (nI st_), .int (nI k), .int v3]) (n := 5) (Nat.le_of_ble_eq_true rfl)
  rw [lg_entry_eq]
  generalize (lg_sl ([.ref y, .int (nI st_), .int (nI k), .int v3]) ++ List.replicate (5 - (lg_sl ([.ref y, .int (nI st_), .int (nI k), .int v3])).length) Slot.unset).toArray = ls at hl ⊢
  have hl : lv_has ls 5 [(0, .ref y), (1, .int (nI st_)), (2, .int (nI k)), (3, .int v3)] := hl
  obtain ⟨hm1, hm2, hm3, hm4, hm5, hm6, hm7, hm8, hm9⟩ := id hM
  refine lv_iload_n hx hb dX11_mayCome_0 rfl (lv_at hl 1 rfl) ?_
  refine lv_iload_n hx hb dX11_mayCome_1 rfl (lv_at hl 2 rfl) ?_
  refine lv_ishr hx hb dX11_mayCome_2 ?_
  refine lv_iconst (v := 1) hx hb dX11_mayCome_3 (by decide) ?_
  refine lv_iand hx hb dX11_mayCome_4 ?_
  refine lv_topi (fun y_ e_ => ?_)
  obtain rfl : y_ = (bt1 st_ k) := e_.trans (bt1_eq (by omega) (by omega))
  refine lv_iconst (v := 1) hx hb dX11_mayCome_5 (by decide) ?_
  refine lv_icmp_ne (tgt := 11) hx hb dX11_mayCome_6 (by decide) (fun c_1 => ?_) (fun c_1 => ?_)
  · refine lv_iconst (v := 0) hx hb dX11_mayCome_11 (by decide) ?_
    refine lv_istore (lv' := [(4, .int 0), (0, .ref y), (1, .int (nI st_)), (2, .int (nI k)), (3, .int v3)]) hx hb dX11_mayCome_12 hl (by decide) rfl (fun ls hl => ?_)
    refine wl_loop (fun (z_ : Nat) H locs ls => (z_ ≤ mq) ∧ H = s.heap ∧ locs = [] ∧ lv_has ls 5 [(4, .int (nI z_)), (0, .ref y), (1, .int (nI st_)), (2, .int (nI k)), (3, .int v3)]) (fun (z_ : Nat) => mq - z_) (fun z_ H locs ls hI ih => ?_) 0 ⟨(Nat.zero_le _), rfl, rfl, lv_sub hl [0, 1, 2, 3, 4] rfl⟩
    revert hI ih; revert z_; intro j hI ih
    obtain ⟨hj, rfl, rfl, hl⟩ := hI
    refine lv_iload hx hb dX11_mayCome_14 (lv_at hl 0 rfl) ?_
    refine lv_aload_n hx hb dX11_mayCome_16 rfl (lv_at hl 1 rfl) ?_
    refine va_get (D := (dC, dI)) (ci := 11) (v := .int (nI mq)) (C := RX11) (T := TX11) (N := 56) hx hb hts inX11 hown hK hP 0 rfl rfl 5 (by decide) (hts _ mw_885) (fun _ h9 => h9) rfl dX11_mayCome_17 ?_
    refine lv_icmp_ge (tgt := 61) hx hb dX11_mayCome_20 (by decide) (fun c_2 => ?_) (fun c_2 => ?_)
    · have nc_2 : mq ≤ j := (nI_leI (a := mq) (b := j) (by omega) (by omega)).mp c_2
      refine lv_iconst (v := 1) hx hb dX11_mayCome_61 (by decide) ?_
      exact W.zret (v := 1) (ty := .boolean) hx hb hr rfl (fun t ht hW => ⟨1, rfl, ⟨Or.inr rfl, fun h9 => absurd h9 (by decide), fun _ => bt1_n1 c_1⟩, ht⟩) (fun q h => absurd h List.not_mem_nil) dX11_mayCome_62
    · have nc_2 : ¬ (mq ≤ j) := fun h9 => c_2 ((nI_leI (a := mq) (b := j) (by omega) (by omega)).mpr h9)
      refine lv_iload_n hx hb dX11_mayCome_23 rfl (lv_at hl 4 rfl) ?_
      refine lv_if_eq (tgt := 61) hx hb dX11_mayCome_24 (by decide) (fun c_3 => ?_) (fun c_3 => ?_)
      · refine lv_iconst (v := 1) hx hb dX11_mayCome_61 (by decide) ?_
        exact W.zret (v := 1) (ty := .boolean) hx hb hr rfl (fun t ht hW => ⟨1, rfl, ⟨Or.inr rfl, fun h9 => absurd h9 (by decide), fun _ => bt1_n1 c_1⟩, ht⟩) (fun q h => absurd h List.not_mem_nil) dX11_mayCome_62
      · refine lv_aload_n hx hb dX11_mayCome_27 rfl (lv_at hl 1 rfl) ?_
        refine lv_iload_n hx hb dX11_mayCome_28 rfl (lv_at hl 3 rfl) ?_
        have hPc := hP.sub (ws' := [(y, .inr (11, [.int (nI ml), .int (nI mb), .int (nI mp), .int (nI mx), .int (nI mr), .int (nI mq), .ref (b2 6), .ref (b2 7), .ref (b2 8), .ref (b2 9), .ref (b2 10), .ref (b2 11), .ref (b2 12), .ref (b2 13), .ref (b2 14), .ref (b2 15), .ref (b2 16), .ref (b2 17), .ref (b2 18), .ref (b2 19), .ref (b2 20), .ref (b2 21), .ref (b2 22), .ref (b2 23), .ref (b2 24), .ref (b2 25), .ref (b2 26), .ref (b2 27), .ref (b2 28), .int gl, .int gh, .ref (b2 31), .ref (b2 32), .ref (b2 33), .ref (b2 34), .ref (b2 35), .ref (b2 36), .ref (b2 37), .ref (b2 38), .ref (b2 39), .ref (b2 40), .ref (b2 41), .ref (b2 42), .ref (b2 43), .ref (b2 44), .ref (b2 45), .ref (b2 46), .ref (b2 47), .int (nI mch), .int (nI mli), .ref (b2 50), .ref (b2 51), .int (nI mno), .ref (b2 53), .ref (b2 54), .ref (b2 55)])), ((b2 8), .inl (ca 0, 40, .inl A8)), ((b2 35), .inl (ca 0, 10, .inl A35))]) [0, 1, 2] rfl
        refine pc_i (va_runV (As := [.int (nI k)]) (rest := []) ⟨hx, hb, hml, hown, hts⟩ (m_isNut l dC dI ca y b2 ml mb mp mx mr mq gl gh mch mli mno A8 A35 k (by first | assumption | omega | exact ⟨_, by omega, rfl⟩) (by first | assumption | omega | exact ⟨_, by omega, rfl⟩) (by first | assumption | omega | exact ⟨_, by omega, rfl⟩)) (⟨callB_of 1 hts (gd mw_1276) rfl rfl rfl (hts _ mw_8) (hts _ mw_1273) ds_X11_isNut ⟨Nat.le_of_ble_eq_true rfl, Nat.le_of_ble_eq_true rfl⟩, (hts _ mw_1275), (hts _ mp_63)⟩) (pu_V hPc hK hE (va_recv hK hPc (ci := 11) (q0 := 0) rfl rfl)) rfl rfl hl.1 rfl (lv_room (Nat.le_of_ble_eq_true rfl)) dX11_mayCome_29 ⟨Nat.le_of_ble_eq_true rfl, Nat.le_of_ble_eq_true rfl⟩) (fun rv_4 hw_ => ?_)
        obtain rfl : rv_4 = (ntI A8 A35 k) := hw_
        refine lv_if_eq (tgt := 61) hx hb dX11_mayCome_32 (by decide) (fun c_5 => ?_) (fun c_5 => ?_)
        · refine lv_iconst (v := 1) hx hb dX11_mayCome_61 (by decide) ?_
          exact W.zret (v := 1) (ty := .boolean) hx hb hr rfl (fun t ht hW => ⟨1, rfl, ⟨Or.inr rfl, fun h9 => absurd h9 (by decide), fun _ => bt1_n1 c_1⟩, ht⟩) (fun q h => absurd h List.not_mem_nil) dX11_mayCome_62
        · refine lv_aload_n hx hb dX11_mayCome_35 rfl (lv_at hl 1 rfl) ?_
          refine lv_iload hx hb dX11_mayCome_36 (lv_at hl 0 rfl) ?_
          have hPc := hP.sub (ws' := [(y, .inr (11, [.int (nI ml), .int (nI mb), .int (nI mp), .int (nI mx), .int (nI mr), .int (nI mq), .ref (b2 6), .ref (b2 7), .ref (b2 8), .ref (b2 9), .ref (b2 10), .ref (b2 11), .ref (b2 12), .ref (b2 13), .ref (b2 14), .ref (b2 15), .ref (b2 16), .ref (b2 17), .ref (b2 18), .ref (b2 19), .ref (b2 20), .ref (b2 21), .ref (b2 22), .ref (b2 23), .ref (b2 24), .ref (b2 25), .ref (b2 26), .ref (b2 27), .ref (b2 28), .int gl, .int gh, .ref (b2 31), .ref (b2 32), .ref (b2 33), .ref (b2 34), .ref (b2 35), .ref (b2 36), .ref (b2 37), .ref (b2 38), .ref (b2 39), .ref (b2 40), .ref (b2 41), .ref (b2 42), .ref (b2 43), .ref (b2 44), .ref (b2 45), .ref (b2 46), .ref (b2 47), .int (nI mch), .int (nI mli), .ref (b2 50), .ref (b2 51), .int (nI mno), .ref (b2 53), .ref (b2 54), .ref (b2 55)])), ((b2 8), .inl (ca 0, 40, .inl A8)), ((b2 35), .inl (ca 0, 10, .inl A35))]) [0, 1, 2] rfl
          refine pc_i (va_runV (As := [.int (nI j)]) (rest := []) ⟨hx, hb, hml, hown, hts⟩ (m_isNut l dC dI ca y b2 ml mb mp mx mr mq gl gh mch mli mno A8 A35 j (by first | assumption | omega | exact ⟨_, by omega, rfl⟩) (by first | assumption | omega | exact ⟨_, by omega, rfl⟩) (by first | assumption | omega | exact ⟨_, by omega, rfl⟩)) (⟨callB_of 1 hts (gd mw_1276) rfl rfl rfl (hts _ mw_8) (hts _ mw_1273) ds_X11_isNut ⟨Nat.le_of_ble_eq_true rfl, Nat.le_of_ble_eq_true rfl⟩, (hts _ mw_1275), (hts _ mp_63)⟩) (pu_V hPc hK hE (va_recv hK hPc (ci := 11) (q0 := 0) rfl rfl)) rfl rfl hl.1 rfl (lv_room (Nat.le_of_ble_eq_true rfl)) dX11_mayCome_38 ⟨Nat.le_of_ble_eq_true rfl, Nat.le_of_ble_eq_true rfl⟩) (fun rv_6 hw_ => ?_)
          obtain rfl : rv_6 = (ntI A8 A35 j) := hw_
          refine lv_if_ne (tgt := 55) hx hb dX11_mayCome_41 (by decide) (fun c_7 => ?_) (fun c_7 => ?_)
          · refine lv_iinc (v := (nI (j + 1))) (lv' := [(4, .int (nI (j + 1))), (0, .ref y), (1, .int (nI st_)), (2, .int (nI k)), (3, .int v3)]) hx hb dX11_mayCome_55 hl (k := 0) rfl (nI_add (j) 1) (by decide) rfl (fun ls hl => ?_)
            refine lv_goto (tgt := 14) hx hb dX11_mayCome_58 (by decide) ?_
            exact ih (j + 1) _ _ _ (by omega) ⟨(by omega), rfl, rfl, lv_sub hl [0, 1, 2, 3, 4] rfl⟩
          · refine lv_iload_n hx hb dX11_mayCome_44 rfl (lv_at hl 2 rfl) ?_
            refine lv_iload hx hb dX11_mayCome_45 (lv_at hl 0 rfl) ?_
            refine lv_ishr hx hb dX11_mayCome_47 ?_
            refine lv_iconst (v := 1) hx hb dX11_mayCome_48 (by decide) ?_
            refine lv_iand hx hb dX11_mayCome_49 ?_
            refine lv_topi (fun y_ e_ => ?_)
            obtain rfl : y_ = (bt1 st_ j) := e_.trans (bt1_eq (by omega) (by omega))
            refine lv_if_ne (tgt := 55) hx hb dX11_mayCome_50 (by decide) (fun c_8 => ?_) (fun c_8 => ?_)
            · refine lv_iinc (v := (nI (j + 1))) (lv' := [(4, .int (nI (j + 1))), (0, .ref y), (1, .int (nI st_)), (2, .int (nI k)), (3, .int v3)]) hx hb dX11_mayCome_55 hl (k := 0) rfl (nI_add (j) 1) (by decide) rfl (fun ls hl => ?_)
              refine lv_goto (tgt := 14) hx hb dX11_mayCome_58 (by decide) ?_
              exact ih (j + 1) _ _ _ (by omega) ⟨(by omega), rfl, rfl, lv_sub hl [0, 1, 2, 3, 4] rfl⟩
            · refine lv_iconst (v := 0) hx hb dX11_mayCome_53 (by decide) ?_
              exact W.zret (v := 0) (ty := .boolean) hx hb hr rfl (fun t ht hW => ⟨0, rfl, ⟨Or.inl rfl, fun _ => Or.inr ⟨c_5, j, by omega, c_7, bt1_0 c_8⟩, fun h9 => absurd h9 (by decide)⟩, ht⟩) (fun q h => absurd h List.not_mem_nil) dX11_mayCome_54
  · refine lv_iconst (v := 0) hx hb dX11_mayCome_9 (by decide) ?_
    exact W.zret (v := 0) (ty := .boolean) hx hb hr rfl (fun t ht hW => ⟨0, rfl, ⟨Or.inl rfl, fun _ => Or.inl (bt1_1 c_1), fun h9 => absurd h9 (by decide)⟩, ht⟩) (fun q h => absurd h List.not_mem_nil) dX11_mayCome_10

set_option maxHeartbeats 4000000 in
set_option maxRecDepth 100000 in
theorem m_minutes (l : Launch) (dC : Nat → ClassId) (dI : Nat → Nat → Nat) (ca : Nat → ClassId) (y : Nat) (b2 : Nat → Nat) (ml : Nat) (mb : Nat) (mp : Nat) (mx : Nat) (mr : Nat) (mq : Nat) (gl : Int32) (gh : Int32) (mch : Nat) (mli : Nat) (mno : Nat) (A8 : Nat → Int32) (A35 : Nat → Int32) (A34 : Nat → Int32) (v1 : Int32) (k : Nat) (hM : mI ml mb mp mx mr mq mch mli mno) (hv1 : v1 = -1 ∨ cnt v1 9) (hk : k < 10) (h_kind : ∀ j, cnt (A8 j) 5) (h_queue : ∀ j, cnt (A35 j) 39) : Met l yX11_minutes (Cond.code yX11_minutes cX11_minutes 3 (some .int) :: gT) ({ frames := 1, cells := 0, slots := 0, locals := 60 }) (va_Pc [.ref y, .int v1, .int (nI k)] (pu (dC, dI) [(y, .inr (11, [.int (nI ml), .int (nI mb), .int (nI mp), .int (nI mx), .int (nI mr), .int (nI mq), .ref (b2 6), .ref (b2 7), .ref (b2 8), .ref (b2 9), .ref (b2 10), .ref (b2 11), .ref (b2 12), .ref (b2 13), .ref (b2 14), .ref (b2 15), .ref (b2 16), .ref (b2 17), .ref (b2 18), .ref (b2 19), .ref (b2 20), .ref (b2 21), .ref (b2 22), .ref (b2 23), .ref (b2 24), .ref (b2 25), .ref (b2 26), .ref (b2 27), .ref (b2 28), .int gl, .int gh, .ref (b2 31), .ref (b2 32), .ref (b2 33), .ref (b2 34), .ref (b2 35), .ref (b2 36), .ref (b2 37), .ref (b2 38), .ref (b2 39), .ref (b2 40), .ref (b2 41), .ref (b2 42), .ref (b2 43), .ref (b2 44), .ref (b2 45), .ref (b2 46), .ref (b2 47), .int (nI mch), .int (nI mli), .ref (b2 50), .ref (b2 51), .int (nI mno), .ref (b2 53), .ref (b2 54), .ref (b2 55)])), ((b2 8), .inl (ca 0, 40, .inl A8)), ((b2 35), .inl (ca 0, 10, .inl A35)), ((b2 34), .inl (ca 0, 36, .inl A34))] (aT ca))) (vp_Si (fun r => True)) 0 0 (fun _ => False) := by
  refine Met.ofW (cc := cX11_minutes) (maxL := 3) (ret := (some .int)) (by decide) rfl ?_
  intro p e s m args below meth c s₁ B hml hv
  obtain ⟨rfl, hP, hK, hE⟩ := hv
  have hx := B.exec
  have hb := B.bytes
  have hr := B.returns
  have hts : ∀ w ∈ gT, w.before _ s = true := fun w h => atoms_spec (ws := Cond.code yX11_minutes cX11_minutes 3 (some .int) :: gT) B.pre w (List.mem_cons_of_mem _ h)
  have hown : s.vm.findClass RX11 = some m.cls := findClass_of_methodNamed B.named
  have hlocks := B.notSynchronized
  have hl := lv_entry ([.ref y, .int v1, .int (nI k)]) (n := 3) (Nat.le_of_ble_eq_true rfl)
  rw [lg_entry_eq]
  generalize (lg_sl ([.ref y, .int v1, .int (nI k)]) ++ List.replicate (3 - (lg_sl ([.ref y, .int v1, .int (nI k)])).length) Slot.unset).toArray = ls at hl ⊢
  have hl : lv_has ls 3 [(0, .ref y), (1, .int v1), (2, .int (nI k))] := hl
  obtain ⟨hm1, hm2, hm3, hm4, hm5, hm6, hm7, hm8, hm9⟩ := id hM
  refine lv_iload_n hx hb dX11_minutes_0 rfl (lv_at hl 1 rfl) ?_
  refine lv_if_ge (tgt := 8) hx hb dX11_minutes_1 (by decide) (fun c_1 => ?_) (fun c_1 => ?_)
  · obtain ⟨a9, ha9, ea9⟩ := hv1.resolve_left (fun e9 => absurd (e9 ▸ c_1) (by decide))
    subst ea9
    refine lv_aload_n hx hb dX11_minutes_8 rfl (lv_at hl 0 rfl) ?_
    refine va_get (D := (dC, dI)) (ci := 11) (v := .ref (b2 34)) (C := RX11) (T := TX11) (N := 56) hx hb hts inX11 hown hK hP 0 rfl rfl 34 (by decide) (hts _ mw_914) (fun _ h9 => h9) rfl dX11_minutes_9 ?_
    refine lv_bipush (v := 6) hx hb dX11_minutes_12 (by decide) ?_
    refine lv_aload_n hx hb dX11_minutes_14 rfl (lv_at hl 0 rfl) ?_
    refine va_get (D := (dC, dI)) (ci := 11) (v := .ref (b2 8)) (C := RX11) (T := TX11) (N := 56) hx hb hts inX11 hown hK hP 0 rfl rfl 8 (by decide) (hts _ mw_888) (fun _ h9 => h9) rfl dX11_minutes_15 ?_
    refine lv_aload_n hx hb dX11_minutes_18 rfl (lv_at hl 0 rfl) ?_
    refine va_get (D := (dC, dI)) (ci := 11) (v := .ref (b2 35)) (C := RX11) (T := TX11) (N := 56) hx hb hts inX11 hown hK hP 0 rfl rfl 35 (by decide) (hts _ mw_915) (fun _ h9 => h9) rfl dX11_minutes_19 ?_
    refine lv_iload_n hx hb dX11_minutes_22 rfl (lv_at hl 1 rfl) ?_
    refine va_iald hx hb hK hP 2 0 rfl rfl (vp_in_nI (show a9 < 10 by omega) (by first | decide | omega)) dX11_minutes_23 ?_
    refine lv_topi (fun y_ e_ => ?_)
    obtain rfl : y_ = (A35 a9) := e_.trans (congrArg A35 (show ((nI a9) : Int32).toNatClampNeg = a9 from nI_clamp (by omega)))
    refine va_iald hx hb hK hP 1 0 rfl rfl (cnt_vp (h_queue a9) (by decide) (by decide)) dX11_minutes_24 ?_
    refine lv_imul hx hb dX11_minutes_25 ?_
    refine lv_aload_n hx hb dX11_minutes_26 rfl (lv_at hl 0 rfl) ?_
    refine va_get (D := (dC, dI)) (ci := 11) (v := .ref (b2 8)) (C := RX11) (T := TX11) (N := 56) hx hb hts inX11 hown hK hP 0 rfl rfl 8 (by decide) (hts _ mw_888) (fun _ h9 => h9) rfl dX11_minutes_27 ?_
    refine lv_aload_n hx hb dX11_minutes_30 rfl (lv_at hl 0 rfl) ?_
    refine va_get (D := (dC, dI)) (ci := 11) (v := .ref (b2 35)) (C := RX11) (T := TX11) (N := 56) hx hb hts inX11 hown hK hP 0 rfl rfl 35 (by decide) (hts _ mw_915) (fun _ h9 => h9) rfl dX11_minutes_31 ?_
    refine lv_iload_n hx hb dX11_minutes_34 rfl (lv_at hl 2 rfl) ?_
    refine va_iald hx hb hK hP 2 0 rfl rfl (vp_in_nI (show k < 10 by omega) (by first | decide | omega)) dX11_minutes_35 ?_
    refine lv_topi (fun y_ e_ => ?_)
    obtain rfl : y_ = (A35 k) := e_.trans (congrArg A35 (show ((nI k) : Int32).toNatClampNeg = k from nI_clamp (by omega)))
    refine va_iald hx hb hK hP 1 0 rfl rfl (cnt_vp (h_queue k) (by decide) (by decide)) dX11_minutes_36 ?_
    refine lv_iadd hx hb dX11_minutes_37 ?_
    refine va_iald hx hb hK hP 3 0 rfl rfl (gr_in (A := 6) (B := 6) (cnt_vp (h_kind _) (by decide) (by decide)) (cnt_vp (h_kind _) (by decide) (by decide)) (by decide) (w := 6) (by decide) (by decide) (by decide)).2 dX11_minutes_38 ?_
    exact W.iret (v := (A34 (((6 * (A8 ((A35 a9) : Int32).toNatClampNeg)) + (A8 ((A35 k) : Int32).toNatClampNeg)) : Int32).toNatClampNeg)) hx hb hr (fun t ht hW => ⟨(A34 (((6 * (A8 ((A35 a9) : Int32).toNatClampNeg)) + (A8 ((A35 k) : Int32).toNatClampNeg)) : Int32).toNatClampNeg), rfl, trivial, ht⟩) (fun q h => absurd h List.not_mem_nil) dX11_minutes_39
  · refine lv_iconst (v := 0) hx hb dX11_minutes_4 (by decide) ?_
    refine lv_goto (tgt := 39) hx hb dX11_minutes_5 (by decide) ?_
    exact W.iret (v := 0) hx hb hr (fun t ht hW => ⟨0, rfl, trivial, ht⟩) (fun q h => absurd h List.not_mem_nil) dX11_minutes_39

set_option maxHeartbeats 4000000 in
set_option maxRecDepth 100000 in
theorem m_restOf (l : Launch) (dC : Nat → ClassId) (dI : Nat → Nat → Nat) (ca : Nat → ClassId) (y : Nat) (b2 : Nat → Nat) (ml : Nat) (mb : Nat) (mp : Nat) (mx : Nat) (mr : Nat) (mq : Nat) (gl : Int32) (gh : Int32) (mch : Nat) (mli : Nat) (mno : Nat) (A55 : Nat → Int32) (st_ : Nat) (k : Nat) (hM : mI ml mb mp mx mr mq mch mli mno) (hst : st_ < 1024) (hk : k < 10) : Met l yX11_restOf (Cond.code yX11_restOf cX11_restOf 3 (some .int) :: gT) ({ frames := 1, cells := 0, slots := 0, locals := 60 }) (va_Pc [.ref y, .int (nI st_), .int (nI k)] (pu (dC, dI) [(y, .inr (11, [.int (nI ml), .int (nI mb), .int (nI mp), .int (nI mx), .int (nI mr), .int (nI mq), .ref (b2 6), .ref (b2 7), .ref (b2 8), .ref (b2 9), .ref (b2 10), .ref (b2 11), .ref (b2 12), .ref (b2 13), .ref (b2 14), .ref (b2 15), .ref (b2 16), .ref (b2 17), .ref (b2 18), .ref (b2 19), .ref (b2 20), .ref (b2 21), .ref (b2 22), .ref (b2 23), .ref (b2 24), .ref (b2 25), .ref (b2 26), .ref (b2 27), .ref (b2 28), .int gl, .int gh, .ref (b2 31), .ref (b2 32), .ref (b2 33), .ref (b2 34), .ref (b2 35), .ref (b2 36), .ref (b2 37), .ref (b2 38), .ref (b2 39), .ref (b2 40), .ref (b2 41), .ref (b2 42), .ref (b2 43), .ref (b2 44), .ref (b2 45), .ref (b2 46), .ref (b2 47), .int (nI mch), .int (nI mli), .ref (b2 50), .ref (b2 51), .int (nI mno), .ref (b2 53), .ref (b2 54), .ref (b2 55)])), ((b2 55), .inl (ca 0, 10240, .inl A55))] (aT ca))) (vp_Si (fun r => True)) 0 0 (fun _ => False) := by
  refine Met.ofW (cc := cX11_restOf) (maxL := 3) (ret := (some .int)) (by decide) rfl ?_
  intro p e s m args below meth c s₁ B hml hv
  obtain ⟨rfl, hP, hK, hE⟩ := hv
  have hx := B.exec
  have hb := B.bytes
  have hr := B.returns
  have hts : ∀ w ∈ gT, w.before _ s = true := fun w h => atoms_spec (ws := Cond.code yX11_restOf cX11_restOf 3 (some .int) :: gT) B.pre w (List.mem_cons_of_mem _ h)
  have hown : s.vm.findClass RX11 = some m.cls := findClass_of_methodNamed B.named
  have hlocks := B.notSynchronized
  have hl := lv_entry ([.ref y, .int (nI st_), .int (nI k)]) (n := 3) (Nat.le_of_ble_eq_true rfl)
  rw [lg_entry_eq]
  generalize (lg_sl ([.ref y, .int (nI st_), .int (nI k)]) ++ List.replicate (3 - (lg_sl ([.ref y, .int (nI st_), .int (nI k)])).length) Slot.unset).toArray = ls at hl ⊢
  have hl : lv_has ls 3 [(0, .ref y), (1, .int (nI st_)), (2, .int (nI k))] := hl
  obtain ⟨hm1, hm2, hm3, hm4, hm5, hm6, hm7, hm8, hm9⟩ := id hM
  refine lv_aload_n hx hb dX11_restOf_0 rfl (lv_at hl 0 rfl) ?_
  refine va_get (D := (dC, dI)) (ci := 11) (v := .ref (b2 55)) (C := RX11) (T := TX11) (N := 56) hx hb hts inX11 hown hK hP 0 rfl rfl 55 (by decide) (hts _ mw_935) (fun _ h9 => h9) rfl dX11_restOf_1 ?_
  refine lv_bipush (v := 10) hx hb dX11_restOf_4 (by decide) ?_
  refine lv_iload_n hx hb dX11_restOf_6 rfl (lv_at hl 1 rfl) ?_
  refine lv_imul hx hb dX11_restOf_7 ?_
  refine lv_topi (fun y_ e_ => ?_)
  obtain rfl : y_ = (nI (10 * st_)) := e_.trans (pk_mul (10) (st_))
  refine lv_iload_n hx hb dX11_restOf_8 rfl (lv_at hl 2 rfl) ?_
  refine lv_iadd hx hb dX11_restOf_9 ?_
  refine lv_topi (fun y_ e_ => ?_)
  obtain rfl : y_ = (nI (10 * st_ + k)) := e_.trans (nI_add (10 * st_) (k))
  refine va_iald hx hb hK hP 1 0 rfl rfl (vp_in_nI (show 10 * st_ + k < 10240 by omega) (by first | decide | omega)) dX11_restOf_10 ?_
  refine lv_topi (fun y_ e_ => ?_)
  obtain rfl : y_ = (A55 (10 * st_ + k)) := e_.trans (congrArg A55 (show ((nI (10 * st_ + k)) : Int32).toNatClampNeg = 10 * st_ + k from nI_clamp (by omega)))
  exact W.iret (v := (A55 (10 * st_ + k))) hx hb hr (fun t ht hW => ⟨(A55 (10 * st_ + k)), rfl, trivial, ht⟩) (fun q h => absurd h List.not_mem_nil) dX11_restOf_11

set_option maxHeartbeats 4000000 in
set_option maxRecDepth 100000 in
theorem m_reckon (l : Launch) (dC : Nat → ClassId) (dI : Nat → Nat → Nat) (ca : Nat → ClassId) (sz : Nat) (y : Nat) (b2 : Nat → Nat) (ml : Nat) (mb : Nat) (mp : Nat) (mx : Nat) (mr : Nat) (mq : Nat) (gl : Int32) (gh : Int32) (mch : Nat) (mli : Nat) (mno : Nat) (A8 : Nat → Int32) (A35 : Nat → Int32) (A34 : Nat → Int32) (A55 : Nat → Int32) (v1 : Int32) (hM : mI ml mb mp mx mr mq mch mli mno) (h_kind : ∀ j, cnt (A8 j) 5) (h_queue : ∀ j, cnt (A35 j) 39) : Met l yX11_reckon (Cond.code yX11_reckon cX11_reckon 8 none :: gT) ({ frames := 3, cells := 0, slots := 0, locals := 105 }) (va_Pc [.ref y, .int v1] (pr (dC, dI) sz [(y, .inr (11, [.int (nI ml), .int (nI mb), .int (nI mp), .int (nI mx), .int (nI mr), .int (nI mq), .ref (b2 6), .ref (b2 7), .ref (b2 8), .ref (b2 9), .ref (b2 10), .ref (b2 11), .ref (b2 12), .ref (b2 13), .ref (b2 14), .ref (b2 15), .ref (b2 16), .ref (b2 17), .ref (b2 18), .ref (b2 19), .ref (b2 20), .ref (b2 21), .ref (b2 22), .ref (b2 23), .ref (b2 24), .ref (b2 25), .ref (b2 26), .ref (b2 27), .ref (b2 28), .int gl, .int gh, .ref (b2 31), .ref (b2 32), .ref (b2 33), .ref (b2 34), .ref (b2 35), .ref (b2 36), .ref (b2 37), .ref (b2 38), .ref (b2 39), .ref (b2 40), .ref (b2 41), .ref (b2 42), .ref (b2 43), .ref (b2 44), .ref (b2 45), .ref (b2 46), .ref (b2 47), .int (nI mch), .int (nI mli), .ref (b2 50), .ref (b2 51), .int (nI mno), .ref (b2 53), .ref (b2 54), .ref (b2 55)])), ((b2 8), .inl (ca 0, 40, .inl A8)), ((b2 35), .inl (ca 0, 10, .inl A35)), ((b2 34), .inl (ca 0, 36, .inl A34)), ((b2 55), .inl (ca 0, 10240, .inl A55))] (aT ca))) (va_Qv (fun (u_ : (Nat → Int32)) => True) (fun (u_ : (Nat → Int32)) t => va_P (dC, dI) vwCl [(y, .inr (11, [.int (nI ml), .int (nI mb), .int (nI mp), .int (nI mx), .int (nI mr), .int (nI mq), .ref (b2 6), .ref (b2 7), .ref (b2 8), .ref (b2 9), .ref (b2 10), .ref (b2 11), .ref (b2 12), .ref (b2 13), .ref (b2 14), .ref (b2 15), .ref (b2 16), .ref (b2 17), .ref (b2 18), .ref (b2 19), .ref (b2 20), .ref (b2 21), .ref (b2 22), .ref (b2 23), .ref (b2 24), .ref (b2 25), .ref (b2 26), .ref (b2 27), .ref (b2 28), .int gl, .int gh, .ref (b2 31), .ref (b2 32), .ref (b2 33), .ref (b2 34), .ref (b2 35), .ref (b2 36), .ref (b2 37), .ref (b2 38), .ref (b2 39), .ref (b2 40), .ref (b2 41), .ref (b2 42), .ref (b2 43), .ref (b2 44), .ref (b2 45), .ref (b2 46), .ref (b2 47), .int (nI mch), .int (nI mli), .ref (b2 50), .ref (b2 51), .int (nI mno), .ref (b2 53), .ref (b2 54), .ref (b2 55)])), ((b2 8), .inl (ca 0, 40, .inl A8)), ((b2 35), .inl (ca 0, 10, .inl A35)), ((b2 34), .inl (ca 0, 36, .inl A34)), ((b2 55), .inl (ca 0, 10240, .inl u_))] t.heap ∧ va_D (va_A [(y, .inr (11, [.int (nI ml), .int (nI mb), .int (nI mp), .int (nI mx), .int (nI mr), .int (nI mq), .ref (b2 6), .ref (b2 7), .ref (b2 8), .ref (b2 9), .ref (b2 10), .ref (b2 11), .ref (b2 12), .ref (b2 13), .ref (b2 14), .ref (b2 15), .ref (b2 16), .ref (b2 17), .ref (b2 18), .ref (b2 19), .ref (b2 20), .ref (b2 21), .ref (b2 22), .ref (b2 23), .ref (b2 24), .ref (b2 25), .ref (b2 26), .ref (b2 27), .ref (b2 28), .int gl, .int gh, .ref (b2 31), .ref (b2 32), .ref (b2 33), .ref (b2 34), .ref (b2 35), .ref (b2 36), .ref (b2 37), .ref (b2 38), .ref (b2 39), .ref (b2 40), .ref (b2 41), .ref (b2 42), .ref (b2 43), .ref (b2 44), .ref (b2 45), .ref (b2 46), .ref (b2 47), .int (nI mch), .int (nI mli), .ref (b2 50), .ref (b2 51), .int (nI mno), .ref (b2 53), .ref (b2 54), .ref (b2 55)])), ((b2 8), .inl (ca 0, 40, .inl A8)), ((b2 35), .inl (ca 0, 10, .inl A35)), ((b2 34), .inl (ca 0, 36, .inl A34)), ((b2 55), .inl (ca 0, 10240, .inl A55))] sz) [(y, .inr (11, [.int (nI ml), .int (nI mb), .int (nI mp), .int (nI mx), .int (nI mr), .int (nI mq), .ref (b2 6), .ref (b2 7), .ref (b2 8), .ref (b2 9), .ref (b2 10), .ref (b2 11), .ref (b2 12), .ref (b2 13), .ref (b2 14), .ref (b2 15), .ref (b2 16), .ref (b2 17), .ref (b2 18), .ref (b2 19), .ref (b2 20), .ref (b2 21), .ref (b2 22), .ref (b2 23), .ref (b2 24), .ref (b2 25), .ref (b2 26), .ref (b2 27), .ref (b2 28), .int gl, .int gh, .ref (b2 31), .ref (b2 32), .ref (b2 33), .ref (b2 34), .ref (b2 35), .ref (b2 36), .ref (b2 37), .ref (b2 38), .ref (b2 39), .ref (b2 40), .ref (b2 41), .ref (b2 42), .ref (b2 43), .ref (b2 44), .ref (b2 45), .ref (b2 46), .ref (b2 47), .int (nI mch), .int (nI mli), .ref (b2 50), .ref (b2 51), .int (nI mno), .ref (b2 53), .ref (b2 54), .ref (b2 55)])), ((b2 8), .inl (ca 0, 40, .inl A8)), ((b2 35), .inl (ca 0, 10, .inl A35)), ((b2 34), .inl (ca 0, 36, .inl A34)), ((b2 55), .inl (ca 0, 10240, .inl u_))]) (va_A [(y, .inr (11, [.int (nI ml), .int (nI mb), .int (nI mp), .int (nI mx), .int (nI mr), .int (nI mq), .ref (b2 6), .ref (b2 7), .ref (b2 8), .ref (b2 9), .ref (b2 10), .ref (b2 11), .ref (b2 12), .ref (b2 13), .ref (b2 14), .ref (b2 15), .ref (b2 16), .ref (b2 17), .ref (b2 18), .ref (b2 19), .ref (b2 20), .ref (b2 21), .ref (b2 22), .ref (b2 23), .ref (b2 24), .ref (b2 25), .ref (b2 26), .ref (b2 27), .ref (b2 28), .int gl, .int gh, .ref (b2 31), .ref (b2 32), .ref (b2 33), .ref (b2 34), .ref (b2 35), .ref (b2 36), .ref (b2 37), .ref (b2 38), .ref (b2 39), .ref (b2 40), .ref (b2 41), .ref (b2 42), .ref (b2 43), .ref (b2 44), .ref (b2 45), .ref (b2 46), .ref (b2 47), .int (nI mch), .int (nI mli), .ref (b2 50), .ref (b2 51), .int (nI mno), .ref (b2 53), .ref (b2 54), .ref (b2 55)])), ((b2 8), .inl (ca 0, 40, .inl A8)), ((b2 35), .inl (ca 0, 10, .inl A35)), ((b2 34), .inl (ca 0, 36, .inl A34)), ((b2 55), .inl (ca 0, 10240, .inl A55))] sz)) 0 0 (va_A [(y, .inr (11, [.int (nI ml), .int (nI mb), .int (nI mp), .int (nI mx), .int (nI mr), .int (nI mq), .ref (b2 6), .ref (b2 7), .ref (b2 8), .ref (b2 9), .ref (b2 10), .ref (b2 11), .ref (b2 12), .ref (b2 13), .ref (b2 14), .ref (b2 15), .ref (b2 16), .ref (b2 17), .ref (b2 18), .ref (b2 19), .ref (b2 20), .ref (b2 21), .ref (b2 22), .ref (b2 23), .ref (b2 24), .ref (b2 25), .ref (b2 26), .ref (b2 27), .ref (b2 28), .int gl, .int gh, .ref (b2 31), .ref (b2 32), .ref (b2 33), .ref (b2 34), .ref (b2 35), .ref (b2 36), .ref (b2 37), .ref (b2 38), .ref (b2 39), .ref (b2 40), .ref (b2 41), .ref (b2 42), .ref (b2 43), .ref (b2 44), .ref (b2 45), .ref (b2 46), .ref (b2 47), .int (nI mch), .int (nI mli), .ref (b2 50), .ref (b2 51), .int (nI mno), .ref (b2 53), .ref (b2 54), .ref (b2 55)])), ((b2 8), .inl (ca 0, 40, .inl A8)), ((b2 35), .inl (ca 0, 10, .inl A35)), ((b2 34), .inl (ca 0, 36, .inl A34)), ((b2 55), .inl (ca 0, 10240, .inl A55))] sz) := by
  refine Met.ofW (cc := cX11_reckon) (maxL := 8) (ret := none) (by decide) rfl ?_
  intro p e s m args below meth c s₁ B hml hv
  obtain ⟨rfl, hsz, hP, hK, hD0, hE⟩ := hv
  have hx := B.exec
  have hb := B.bytes
  have hr := B.returns
  have hts : ∀ w ∈ gT, w.before _ s = true := fun w h => atoms_spec (ws := Cond.code yX11_reckon cX11_reckon 8 none :: gT) B.pre w (List.mem_cons_of_mem _ h)
  have hown : s.vm.findClass RX11 = some m.cls := findClass_of_methodNamed B.named
  have hlocks := B.notSynchronized
  subst hsz
  have hD := hD0.self (sz := s.heap.size)
  generalize hAe : va_A [(y, .inr (11, [.int (nI ml), .int (nI mb), .int (nI mp), .int (nI mx), .int (nI mr), .int (nI mq), .ref (b2 6), .ref (b2 7), .ref (b2 8), .ref (b2 9), .ref (b2 10), .ref (b2 11), .ref (b2 12), .ref (b2 13), .ref (b2 14), .ref (b2 15), .ref (b2 16), .ref (b2 17), .ref (b2 18), .ref (b2 19), .ref (b2 20), .ref (b2 21), .ref (b2 22), .ref (b2 23), .ref (b2 24), .ref (b2 25), .ref (b2 26), .ref (b2 27), .ref (b2 28), .int gl, .int gh, .ref (b2 31), .ref (b2 32), .ref (b2 33), .ref (b2 34), .ref (b2 35), .ref (b2 36), .ref (b2 37), .ref (b2 38), .ref (b2 39), .ref (b2 40), .ref (b2 41), .ref (b2 42), .ref (b2 43), .ref (b2 44), .ref (b2 45), .ref (b2 46), .ref (b2 47), .int (nI mch), .int (nI mli), .ref (b2 50), .ref (b2 51), .int (nI mno), .ref (b2 53), .ref (b2 54), .ref (b2 55)])), ((b2 8), .inl (ca 0, 40, .inl A8)), ((b2 35), .inl (ca 0, 10, .inl A35)), ((b2 34), .inl (ca 0, 36, .inl A34)), ((b2 55), .inl (ca 0, 10240, .inl A55))] s.heap.size = A at hD ⊢
  have hA : ∀ q : Nat, s.heap.size ≤ q → A q := fun q h => by rw [← hAe]; exact Or.inr h
  have hS : va_S A s.heap s.heap [] := va_S.rf
  have hl := lv_entry ([.ref y, .int v1]) (n := 8) (Nat.le_of_ble_eq_true rfl)
  rw [lg_entry_eq]
  generalize (lg_sl ([.ref y, .int v1]) ++ List.replicate (8 - (lg_sl ([.ref y, .int v1])).length) Slot.unset).toArray = ls at hl ⊢
  have hl : lv_has ls 8 [(0, .ref y), (1, .int v1)] := hl
  obtain ⟨hm1, hm2, hm3, hm4, hm5, hm6, hm7, hm8, hm9⟩ := id hM
  have hp2 := p10 hm6
  have hp0 := Nat.two_pow_pos mq
  refine lv_iconst (v := 1) hx hb dX11_reckon_0 (by decide) ?_
  refine lv_aload_n hx hb dX11_reckon_1 rfl (lv_at hl 0 rfl) ?_
  refine va_get (D := (dC, dI)) (ci := 11) (v := .int (nI mq)) (C := RX11) (T := TX11) (N := 56) hx hb hts inX11 hown hK hP 0 rfl rfl 5 (by decide) (hts _ mw_885) (fun _ h9 => h9) rfl dX11_reckon_2 ?_
  refine lv_ishl hx hb dX11_reckon_5 ?_
  refine lv_topi (fun y_ e_ => ?_)
  obtain rfl : y_ = (nI (2 ^ mq)) := e_.trans (tb_sh (by omega))
  refine lv_iconst (v := 1) hx hb dX11_reckon_6 (by decide) ?_
  refine lv_isub hx hb dX11_reckon_7 ?_
  refine lv_topi (fun y_ e_ => ?_)
  obtain rfl : y_ = (nI ((2 ^ mq) - 1)) := e_.trans (pk_sub (show 1 ≤ 2 ^ mq by omega))
  refine lv_istore_n (lv' := [(2, .int (nI ((2 ^ mq) - 1))), (0, .ref y), (1, .int v1)]) hx hb dX11_reckon_8 rfl hl (by decide) rfl (fun ls hl => ?_)
  refine lv_iload_n hx hb dX11_reckon_9 rfl (lv_at hl 0 rfl) ?_
  refine lv_istore_n (lv' := [(3, .int (nI ((2 ^ mq) - 1))), (2, .int (nI ((2 ^ mq) - 1))), (0, .ref y), (1, .int v1)]) hx hb dX11_reckon_10 rfl hl (by decide) rfl (fun ls hl => ?_)
  refine wl_loop (fun (z_ : Nat × (Nat → Int32)) H locs ls => (z_.1 < 1024) ∧ va_P (dC, dI) vwCl [(y, .inr (11, [.int (nI ml), .int (nI mb), .int (nI mp), .int (nI mx), .int (nI mr), .int (nI mq), .ref (b2 6), .ref (b2 7), .ref (b2 8), .ref (b2 9), .ref (b2 10), .ref (b2 11), .ref (b2 12), .ref (b2 13), .ref (b2 14), .ref (b2 15), .ref (b2 16), .ref (b2 17), .ref (b2 18), .ref (b2 19), .ref (b2 20), .ref (b2 21), .ref (b2 22), .ref (b2 23), .ref (b2 24), .ref (b2 25), .ref (b2 26), .ref (b2 27), .ref (b2 28), .int gl, .int gh, .ref (b2 31), .ref (b2 32), .ref (b2 33), .ref (b2 34), .ref (b2 35), .ref (b2 36), .ref (b2 37), .ref (b2 38), .ref (b2 39), .ref (b2 40), .ref (b2 41), .ref (b2 42), .ref (b2 43), .ref (b2 44), .ref (b2 45), .ref (b2 46), .ref (b2 47), .int (nI mch), .int (nI mli), .ref (b2 50), .ref (b2 51), .int (nI mno), .ref (b2 53), .ref (b2 54), .ref (b2 55)])), ((b2 8), .inl (ca 0, 40, .inl A8)), ((b2 35), .inl (ca 0, 10, .inl A35)), ((b2 34), .inl (ca 0, 36, .inl A34)), ((b2 55), .inl (ca 0, 10240, .inl z_.2))] H ∧ va_D A [(y, .inr (11, [.int (nI ml), .int (nI mb), .int (nI mp), .int (nI mx), .int (nI mr), .int (nI mq), .ref (b2 6), .ref (b2 7), .ref (b2 8), .ref (b2 9), .ref (b2 10), .ref (b2 11), .ref (b2 12), .ref (b2 13), .ref (b2 14), .ref (b2 15), .ref (b2 16), .ref (b2 17), .ref (b2 18), .ref (b2 19), .ref (b2 20), .ref (b2 21), .ref (b2 22), .ref (b2 23), .ref (b2 24), .ref (b2 25), .ref (b2 26), .ref (b2 27), .ref (b2 28), .int gl, .int gh, .ref (b2 31), .ref (b2 32), .ref (b2 33), .ref (b2 34), .ref (b2 35), .ref (b2 36), .ref (b2 37), .ref (b2 38), .ref (b2 39), .ref (b2 40), .ref (b2 41), .ref (b2 42), .ref (b2 43), .ref (b2 44), .ref (b2 45), .ref (b2 46), .ref (b2 47), .int (nI mch), .int (nI mli), .ref (b2 50), .ref (b2 51), .int (nI mno), .ref (b2 53), .ref (b2 54), .ref (b2 55)])), ((b2 8), .inl (ca 0, 40, .inl A8)), ((b2 35), .inl (ca 0, 10, .inl A35)), ((b2 34), .inl (ca 0, 36, .inl A34)), ((b2 55), .inl (ca 0, 10240, .inl z_.2))] ∧ va_S A s.heap H locs ∧ lv_has ls 8 [(3, .int (nI z_.1)), (2, .int (nI ((2 ^ mq) - 1))), (0, .ref y), (1, .int v1)]) (fun (z_ : Nat × (Nat → Int32)) => z_.1) (fun z_ H locs ls hI ih => ?_) ((2 ^ mq) - 1, A55) ⟨(by omega), hP, hD, hS, lv_sub hl [0, 1, 2, 3] rfl⟩
  obtain ⟨sx, R1_⟩ := z_
  dsimp only at hI ih
  obtain ⟨hsx, hP, hD, hS, hl⟩ := hI
  refine lv_iload_n hx hb dX11_reckon_11 rfl (lv_at hl 0 rfl) ?_
  refine lv_if_le (tgt := 138) hx hb dX11_reckon_12 (by decide) (fun c_1 => ?_) (fun c_1 => ?_)
  · have nc_1 : sx ≤ 0 := (nI_leI (a := sx) (b := 0) (by omega) (by omega)).mp c_1
    refine W.widen (k := 0) (n := 0) (Nat.le_of_ble_eq_true rfl) (Nat.le_of_ble_eq_true rfl) ?_
    have hP9 : va_P (dC, dI) vwCl [(y, .inr (11, [.int (nI ml), .int (nI mb), .int (nI mp), .int (nI mx), .int (nI mr), .int (nI mq), .ref (b2 6), .ref (b2 7), .ref (b2 8), .ref (b2 9), .ref (b2 10), .ref (b2 11), .ref (b2 12), .ref (b2 13), .ref (b2 14), .ref (b2 15), .ref (b2 16), .ref (b2 17), .ref (b2 18), .ref (b2 19), .ref (b2 20), .ref (b2 21), .ref (b2 22), .ref (b2 23), .ref (b2 24), .ref (b2 25), .ref (b2 26), .ref (b2 27), .ref (b2 28), .int gl, .int gh, .ref (b2 31), .ref (b2 32), .ref (b2 33), .ref (b2 34), .ref (b2 35), .ref (b2 36), .ref (b2 37), .ref (b2 38), .ref (b2 39), .ref (b2 40), .ref (b2 41), .ref (b2 42), .ref (b2 43), .ref (b2 44), .ref (b2 45), .ref (b2 46), .ref (b2 47), .int (nI mch), .int (nI mli), .ref (b2 50), .ref (b2 51), .int (nI mno), .ref (b2 53), .ref (b2 54), .ref (b2 55)])), ((b2 8), .inl (ca 0, 40, .inl A8)), ((b2 35), .inl (ca 0, 10, .inl A35)), ((b2 34), .inl (ca 0, 36, .inl A34)), ((b2 55), .inl (ca 0, 10240, .inl R1_))] H := va_P.sub hP [0, 1, 2, 3, 4] rfl
    have hD9 : va_D A [(y, .inr (11, [.int (nI ml), .int (nI mb), .int (nI mp), .int (nI mx), .int (nI mr), .int (nI mq), .ref (b2 6), .ref (b2 7), .ref (b2 8), .ref (b2 9), .ref (b2 10), .ref (b2 11), .ref (b2 12), .ref (b2 13), .ref (b2 14), .ref (b2 15), .ref (b2 16), .ref (b2 17), .ref (b2 18), .ref (b2 19), .ref (b2 20), .ref (b2 21), .ref (b2 22), .ref (b2 23), .ref (b2 24), .ref (b2 25), .ref (b2 26), .ref (b2 27), .ref (b2 28), .int gl, .int gh, .ref (b2 31), .ref (b2 32), .ref (b2 33), .ref (b2 34), .ref (b2 35), .ref (b2 36), .ref (b2 37), .ref (b2 38), .ref (b2 39), .ref (b2 40), .ref (b2 41), .ref (b2 42), .ref (b2 43), .ref (b2 44), .ref (b2 45), .ref (b2 46), .ref (b2 47), .int (nI mch), .int (nI mli), .ref (b2 50), .ref (b2 51), .int (nI mno), .ref (b2 53), .ref (b2 54), .ref (b2 55)])), ((b2 8), .inl (ca 0, 40, .inl A8)), ((b2 35), .inl (ca 0, 10, .inl A35)), ((b2 34), .inl (ca 0, 36, .inl A34)), ((b2 55), .inl (ca 0, 10240, .inl R1_))] := va_D.sub hD [0, 1, 2, 3, 4] (by decide) rfl
    exact W.vret hx hb hr (fun t ht hW => ⟨⟨R1_, rfl, trivial, by rw [ht]; exact hP9, hD9⟩, hS.F ht⟩) hS.2.2 dX11_reckon_138
  · have nc_1 : ¬ (sx ≤ 0) := fun h9 => c_1 ((nI_leI (a := sx) (b := 0) (by omega) (by omega)).mpr h9)
    refine lv_iconst (v := 0) hx hb dX11_reckon_15 (by decide) ?_
    refine lv_istore (lv' := [(4, .int 0), (3, .int (nI sx)), (2, .int (nI ((2 ^ mq) - 1))), (0, .ref y), (1, .int v1)]) hx hb dX11_reckon_16 hl (by decide) rfl (fun ls hl => ?_)
    refine wl_loop (fun (z_ : Nat × (Nat → Int32)) H locs ls => (z_.1 ≤ mq) ∧ va_P (dC, dI) vwCl [(y, .inr (11, [.int (nI ml), .int (nI mb), .int (nI mp), .int (nI mx), .int (nI mr), .int (nI mq), .ref (b2 6), .ref (b2 7), .ref (b2 8), .ref (b2 9), .ref (b2 10), .ref (b2 11), .ref (b2 12), .ref (b2 13), .ref (b2 14), .ref (b2 15), .ref (b2 16), .ref (b2 17), .ref (b2 18), .ref (b2 19), .ref (b2 20), .ref (b2 21), .ref (b2 22), .ref (b2 23), .ref (b2 24), .ref (b2 25), .ref (b2 26), .ref (b2 27), .ref (b2 28), .int gl, .int gh, .ref (b2 31), .ref (b2 32), .ref (b2 33), .ref (b2 34), .ref (b2 35), .ref (b2 36), .ref (b2 37), .ref (b2 38), .ref (b2 39), .ref (b2 40), .ref (b2 41), .ref (b2 42), .ref (b2 43), .ref (b2 44), .ref (b2 45), .ref (b2 46), .ref (b2 47), .int (nI mch), .int (nI mli), .ref (b2 50), .ref (b2 51), .int (nI mno), .ref (b2 53), .ref (b2 54), .ref (b2 55)])), ((b2 8), .inl (ca 0, 40, .inl A8)), ((b2 35), .inl (ca 0, 10, .inl A35)), ((b2 34), .inl (ca 0, 36, .inl A34)), ((b2 55), .inl (ca 0, 10240, .inl z_.2))] H ∧ va_D A [(y, .inr (11, [.int (nI ml), .int (nI mb), .int (nI mp), .int (nI mx), .int (nI mr), .int (nI mq), .ref (b2 6), .ref (b2 7), .ref (b2 8), .ref (b2 9), .ref (b2 10), .ref (b2 11), .ref (b2 12), .ref (b2 13), .ref (b2 14), .ref (b2 15), .ref (b2 16), .ref (b2 17), .ref (b2 18), .ref (b2 19), .ref (b2 20), .ref (b2 21), .ref (b2 22), .ref (b2 23), .ref (b2 24), .ref (b2 25), .ref (b2 26), .ref (b2 27), .ref (b2 28), .int gl, .int gh, .ref (b2 31), .ref (b2 32), .ref (b2 33), .ref (b2 34), .ref (b2 35), .ref (b2 36), .ref (b2 37), .ref (b2 38), .ref (b2 39), .ref (b2 40), .ref (b2 41), .ref (b2 42), .ref (b2 43), .ref (b2 44), .ref (b2 45), .ref (b2 46), .ref (b2 47), .int (nI mch), .int (nI mli), .ref (b2 50), .ref (b2 51), .int (nI mno), .ref (b2 53), .ref (b2 54), .ref (b2 55)])), ((b2 8), .inl (ca 0, 40, .inl A8)), ((b2 35), .inl (ca 0, 10, .inl A35)), ((b2 34), .inl (ca 0, 36, .inl A34)), ((b2 55), .inl (ca 0, 10240, .inl z_.2))] ∧ va_S A s.heap H locs ∧ lv_has ls 8 [(4, .int (nI z_.1)), (3, .int (nI sx)), (2, .int (nI ((2 ^ mq) - 1))), (0, .ref y), (1, .int v1)]) (fun (z_ : Nat × (Nat → Int32)) => mq - z_.1) (fun z_ H locs ls hI ih18 => ?_) (0, R1_) ⟨(Nat.zero_le _), hP, hD, hS, lv_sub hl [0, 1, 2, 3, 4] rfl⟩
    obtain ⟨la, R2_⟩ := z_
    dsimp only at hI ih18
    obtain ⟨hla, hP, hD, hS, hl⟩ := hI
    refine lv_iload hx hb dX11_reckon_18 (lv_at hl 0 rfl) ?_
    refine lv_aload_n hx hb dX11_reckon_20 rfl (lv_at hl 3 rfl) ?_
    refine va_get (D := (dC, dI)) (ci := 11) (v := .int (nI mq)) (C := RX11) (T := TX11) (N := 56) hx hb hts inX11 hown hK hP 0 rfl rfl 5 (by decide) (hts _ mw_885) (fun _ h9 => h9) rfl dX11_reckon_21 ?_
    refine lv_icmp_ge (tgt := 132) hx hb dX11_reckon_24 (by decide) (fun c_2 => ?_) (fun c_2 => ?_)
    · have nc_2 : mq ≤ la := (nI_leI (a := mq) (b := la) (by omega) (by omega)).mp c_2
      refine lv_iinc (v := (nI (sx - 1))) (lv' := [(3, .int (nI (sx - 1))), (4, .int (nI la)), (2, .int (nI ((2 ^ mq) - 1))), (0, .ref y), (1, .int v1)]) hx hb dX11_reckon_132 hl (k := 1) rfl (nI_dec (by omega)) (by decide) rfl (fun ls hl => ?_)
      refine lv_goto (tgt := 11) hx hb dX11_reckon_135 (by decide) ?_
      exact ih (sx - 1, R2_) _ _ _ (by omega) ⟨(by omega), hP, hD, hS, lv_sub hl [0, 2, 3, 4] rfl⟩
    · have nc_2 : ¬ (mq ≤ la) := fun h9 => c_2 ((nI_leI (a := mq) (b := la) (by omega) (by omega)).mpr h9)
      refine lv_iload_n hx hb dX11_reckon_27 rfl (lv_at hl 1 rfl) ?_
      refine lv_iload_n hx hb dX11_reckon_28 rfl (lv_at hl 2 rfl) ?_
      refine lv_icmp_ne (tgt := 36) hx hb dX11_reckon_29 (by decide) (fun c_3 => ?_) (fun c_3 => ?_)
      · have nc_3 : ¬ (sx = (2 ^ mq) - 1) := fun h9 => c_3 ((nI_eq (a := sx) (b := (2 ^ mq) - 1) (by omega) (by omega)).mpr h9)
        refine lv_ldcw (v := 100000000) hx hb hown (hts _ mw_1268) dX11_reckon_36 ?_
        refine lv_istore (lv' := [(5, .int 100000000), (4, .int (nI la)), (3, .int (nI sx)), (2, .int (nI ((2 ^ mq) - 1))), (0, .ref y), (1, .int v1)]) hx hb dX11_reckon_39 hl (by decide) rfl (fun ls hl => ?_)
        refine lv_iconst (v := 0) hx hb dX11_reckon_41 (by decide) ?_
        refine lv_istore (lv' := [(6, .int 0), (5, .int 100000000), (4, .int (nI la)), (3, .int (nI sx)), (2, .int (nI ((2 ^ mq) - 1))), (0, .ref y), (1, .int v1)]) hx hb dX11_reckon_42 hl (by decide) rfl (fun ls hl => ?_)
        refine wl_loop (fun (z_ : Nat × Int32) H locs ls => (z_.1 ≤ mq) ∧ va_P (dC, dI) vwCl [(y, .inr (11, [.int (nI ml), .int (nI mb), .int (nI mp), .int (nI mx), .int (nI mr), .int (nI mq), .ref (b2 6), .ref (b2 7), .ref (b2 8), .ref (b2 9), .ref (b2 10), .ref (b2 11), .ref (b2 12), .ref (b2 13), .ref (b2 14), .ref (b2 15), .ref (b2 16), .ref (b2 17), .ref (b2 18), .ref (b2 19), .ref (b2 20), .ref (b2 21), .ref (b2 22), .ref (b2 23), .ref (b2 24), .ref (b2 25), .ref (b2 26), .ref (b2 27), .ref (b2 28), .int gl, .int gh, .ref (b2 31), .ref (b2 32), .ref (b2 33), .ref (b2 34), .ref (b2 35), .ref (b2 36), .ref (b2 37), .ref (b2 38), .ref (b2 39), .ref (b2 40), .ref (b2 41), .ref (b2 42), .ref (b2 43), .ref (b2 44), .ref (b2 45), .ref (b2 46), .ref (b2 47), .int (nI mch), .int (nI mli), .ref (b2 50), .ref (b2 51), .int (nI mno), .ref (b2 53), .ref (b2 54), .ref (b2 55)])), ((b2 8), .inl (ca 0, 40, .inl A8)), ((b2 35), .inl (ca 0, 10, .inl A35)), ((b2 34), .inl (ca 0, 36, .inl A34)), ((b2 55), .inl (ca 0, 10240, .inl R2_))] H ∧ va_D A [(y, .inr (11, [.int (nI ml), .int (nI mb), .int (nI mp), .int (nI mx), .int (nI mr), .int (nI mq), .ref (b2 6), .ref (b2 7), .ref (b2 8), .ref (b2 9), .ref (b2 10), .ref (b2 11), .ref (b2 12), .ref (b2 13), .ref (b2 14), .ref (b2 15), .ref (b2 16), .ref (b2 17), .ref (b2 18), .ref (b2 19), .ref (b2 20), .ref (b2 21), .ref (b2 22), .ref (b2 23), .ref (b2 24), .ref (b2 25), .ref (b2 26), .ref (b2 27), .ref (b2 28), .int gl, .int gh, .ref (b2 31), .ref (b2 32), .ref (b2 33), .ref (b2 34), .ref (b2 35), .ref (b2 36), .ref (b2 37), .ref (b2 38), .ref (b2 39), .ref (b2 40), .ref (b2 41), .ref (b2 42), .ref (b2 43), .ref (b2 44), .ref (b2 45), .ref (b2 46), .ref (b2 47), .int (nI mch), .int (nI mli), .ref (b2 50), .ref (b2 51), .int (nI mno), .ref (b2 53), .ref (b2 54), .ref (b2 55)])), ((b2 8), .inl (ca 0, 40, .inl A8)), ((b2 35), .inl (ca 0, 10, .inl A35)), ((b2 34), .inl (ca 0, 36, .inl A34)), ((b2 55), .inl (ca 0, 10240, .inl R2_))] ∧ va_S A s.heap H locs ∧ lv_has ls 8 [(6, .int (nI z_.1)), (5, .int z_.2), (4, .int (nI la)), (3, .int (nI sx)), (2, .int (nI ((2 ^ mq) - 1))), (0, .ref y), (1, .int v1)]) (fun (z_ : Nat × Int32) => mq - z_.1) (fun z_ H locs ls hI ih44 => ?_) (0, 100000000) ⟨(Nat.zero_le _), hP, hD, hS, lv_sub hl [0, 1, 2, 3, 4, 5, 6] rfl⟩
        obtain ⟨kx, be⟩ := z_
        dsimp only at hI ih44
        obtain ⟨hkx, hP, hD, hS, hl⟩ := hI
        refine lv_iload hx hb dX11_reckon_44 (lv_at hl 0 rfl) ?_
        refine lv_aload_n hx hb dX11_reckon_46 rfl (lv_at hl 5 rfl) ?_
        refine va_get (D := (dC, dI)) (ci := 11) (v := .int (nI mq)) (C := RX11) (T := TX11) (N := 56) hx hb hts inX11 hown hK hP 0 rfl rfl 5 (by decide) (hts _ mw_885) (fun _ h9 => h9) rfl dX11_reckon_47 ?_
        refine lv_icmp_ge (tgt := 112) hx hb dX11_reckon_50 (by decide) (fun c_4 => ?_) (fun c_4 => ?_)
        · have nc_4 : mq ≤ kx := (nI_leI (a := mq) (b := kx) (by omega) (by omega)).mp c_4
          refine lv_aload_n hx hb dX11_reckon_112 rfl (lv_at hl 5 rfl) ?_
          refine va_get (D := (dC, dI)) (ci := 11) (v := .ref (b2 55)) (C := RX11) (T := TX11) (N := 56) hx hb hts inX11 hown hK hP 0 rfl rfl 55 (by decide) (hts _ mw_935) (fun _ h9 => h9) rfl dX11_reckon_113 ?_
          refine lv_bipush (v := 10) hx hb dX11_reckon_116 (by decide) ?_
          refine lv_iload_n hx hb dX11_reckon_118 rfl (lv_at hl 3 rfl) ?_
          refine lv_imul hx hb dX11_reckon_119 ?_
          refine lv_topi (fun y_ e_ => ?_)
          obtain rfl : y_ = (nI (10 * sx)) := e_.trans (pk_mul (10) (sx))
          refine lv_iload hx hb dX11_reckon_120 (lv_at hl 2 rfl) ?_
          refine lv_iadd hx hb dX11_reckon_122 ?_
          refine lv_topi (fun y_ e_ => ?_)
          obtain rfl : y_ = (nI (10 * sx + la)) := e_.trans (nI_add (10 * sx) (la))
          refine lv_iload hx hb dX11_reckon_123 (lv_at hl 1 rfl) ?_
          refine va_iast hx hb hK hP hD hS 4 0 rfl rfl (vp_in_nI (show 10 * sx + la < 10240 by omega) (by first | decide | omega)) dX11_reckon_125 (fun H locs hP hD hS => ?_)
          rw [(show ((nI (10 * sx + la)) : Int32).toNatClampNeg = 10 * sx + la from nI_clamp (by omega))] at hP hD
          have hP : va_P (dC, dI) vwCl [(y, .inr (11, [.int (nI ml), .int (nI mb), .int (nI mp), .int (nI mx), .int (nI mr), .int (nI mq), .ref (b2 6), .ref (b2 7), .ref (b2 8), .ref (b2 9), .ref (b2 10), .ref (b2 11), .ref (b2 12), .ref (b2 13), .ref (b2 14), .ref (b2 15), .ref (b2 16), .ref (b2 17), .ref (b2 18), .ref (b2 19), .ref (b2 20), .ref (b2 21), .ref (b2 22), .ref (b2 23), .ref (b2 24), .ref (b2 25), .ref (b2 26), .ref (b2 27), .ref (b2 28), .int gl, .int gh, .ref (b2 31), .ref (b2 32), .ref (b2 33), .ref (b2 34), .ref (b2 35), .ref (b2 36), .ref (b2 37), .ref (b2 38), .ref (b2 39), .ref (b2 40), .ref (b2 41), .ref (b2 42), .ref (b2 43), .ref (b2 44), .ref (b2 45), .ref (b2 46), .ref (b2 47), .int (nI mch), .int (nI mli), .ref (b2 50), .ref (b2 51), .int (nI mno), .ref (b2 53), .ref (b2 54), .ref (b2 55)])), ((b2 8), .inl (ca 0, 40, .inl A8)), ((b2 35), .inl (ca 0, 10, .inl A35)), ((b2 34), .inl (ca 0, 36, .inl A34)), ((b2 55), .inl (ca 0, 10240, .inl (upd R2_ (10 * sx + la) be)))] H := hP
          have hD : va_D A [(y, .inr (11, [.int (nI ml), .int (nI mb), .int (nI mp), .int (nI mx), .int (nI mr), .int (nI mq), .ref (b2 6), .ref (b2 7), .ref (b2 8), .ref (b2 9), .ref (b2 10), .ref (b2 11), .ref (b2 12), .ref (b2 13), .ref (b2 14), .ref (b2 15), .ref (b2 16), .ref (b2 17), .ref (b2 18), .ref (b2 19), .ref (b2 20), .ref (b2 21), .ref (b2 22), .ref (b2 23), .ref (b2 24), .ref (b2 25), .ref (b2 26), .ref (b2 27), .ref (b2 28), .int gl, .int gh, .ref (b2 31), .ref (b2 32), .ref (b2 33), .ref (b2 34), .ref (b2 35), .ref (b2 36), .ref (b2 37), .ref (b2 38), .ref (b2 39), .ref (b2 40), .ref (b2 41), .ref (b2 42), .ref (b2 43), .ref (b2 44), .ref (b2 45), .ref (b2 46), .ref (b2 47), .int (nI mch), .int (nI mli), .ref (b2 50), .ref (b2 51), .int (nI mno), .ref (b2 53), .ref (b2 54), .ref (b2 55)])), ((b2 8), .inl (ca 0, 40, .inl A8)), ((b2 35), .inl (ca 0, 10, .inl A35)), ((b2 34), .inl (ca 0, 36, .inl A34)), ((b2 55), .inl (ca 0, 10240, .inl (upd R2_ (10 * sx + la) be)))] := hD
          refine lv_iinc (v := (nI (la + 1))) (lv' := [(4, .int (nI (la + 1))), (6, .int (nI kx)), (5, .int be), (3, .int (nI sx)), (2, .int (nI ((2 ^ mq) - 1))), (0, .ref y), (1, .int v1)]) hx hb dX11_reckon_126 hl (k := 2) rfl (nI_add (la) 1) (by decide) rfl (fun ls hl => ?_)
          refine lv_goto (tgt := 18) hx hb dX11_reckon_129 (by decide) ?_
          exact ih18 (la + 1, (upd R2_ (10 * sx + la) be)) _ _ _ (by omega) ⟨(by omega), hP, hD, hS, lv_sub hl [0, 3, 4, 5, 6] rfl⟩
        · have nc_4 : ¬ (mq ≤ kx) := fun h9 => c_4 ((nI_leI (a := mq) (b := kx) (by omega) (by omega)).mpr h9)
          refine lv_iload_n hx hb dX11_reckon_53 rfl (lv_at hl 3 rfl) ?_
          refine lv_iload_n hx hb dX11_reckon_54 rfl (lv_at hl 4 rfl) ?_
          refine lv_icmp_eq (tgt := 112) hx hb dX11_reckon_55 (by decide) (fun c_5 => ?_) (fun c_5 => ?_)
          · have nc_5 : sx = (2 ^ mq) - 1 := (nI_eq (a := sx) (b := (2 ^ mq) - 1) (by omega) (by omega)).mp c_5
            refine lv_aload_n hx hb dX11_reckon_112 rfl (lv_at hl 5 rfl) ?_
            refine va_get (D := (dC, dI)) (ci := 11) (v := .ref (b2 55)) (C := RX11) (T := TX11) (N := 56) hx hb hts inX11 hown hK hP 0 rfl rfl 55 (by decide) (hts _ mw_935) (fun _ h9 => h9) rfl dX11_reckon_113 ?_
            refine lv_bipush (v := 10) hx hb dX11_reckon_116 (by decide) ?_
            refine lv_iload_n hx hb dX11_reckon_118 rfl (lv_at hl 3 rfl) ?_
            refine lv_imul hx hb dX11_reckon_119 ?_
            refine lv_topi (fun y_ e_ => ?_)
            obtain rfl : y_ = (nI (10 * sx)) := e_.trans (pk_mul (10) (sx))
            refine lv_iload hx hb dX11_reckon_120 (lv_at hl 2 rfl) ?_
            refine lv_iadd hx hb dX11_reckon_122 ?_
            refine lv_topi (fun y_ e_ => ?_)
            obtain rfl : y_ = (nI (10 * sx + la)) := e_.trans (nI_add (10 * sx) (la))
            refine lv_iload hx hb dX11_reckon_123 (lv_at hl 1 rfl) ?_
            refine va_iast hx hb hK hP hD hS 4 0 rfl rfl (vp_in_nI (show 10 * sx + la < 10240 by omega) (by first | decide | omega)) dX11_reckon_125 (fun H locs hP hD hS => ?_)
            rw [(show ((nI (10 * sx + la)) : Int32).toNatClampNeg = 10 * sx + la from nI_clamp (by omega))] at hP hD
            have hP : va_P (dC, dI) vwCl [(y, .inr (11, [.int (nI ml), .int (nI mb), .int (nI mp), .int (nI mx), .int (nI mr), .int (nI mq), .ref (b2 6), .ref (b2 7), .ref (b2 8), .ref (b2 9), .ref (b2 10), .ref (b2 11), .ref (b2 12), .ref (b2 13), .ref (b2 14), .ref (b2 15), .ref (b2 16), .ref (b2 17), .ref (b2 18), .ref (b2 19), .ref (b2 20), .ref (b2 21), .ref (b2 22), .ref (b2 23), .ref (b2 24), .ref (b2 25), .ref (b2 26), .ref (b2 27), .ref (b2 28), .int gl, .int gh, .ref (b2 31), .ref (b2 32), .ref (b2 33), .ref (b2 34), .ref (b2 35), .ref (b2 36), .ref (b2 37), .ref (b2 38), .ref (b2 39), .ref (b2 40), .ref (b2 41), .ref (b2 42), .ref (b2 43), .ref (b2 44), .ref (b2 45), .ref (b2 46), .ref (b2 47), .int (nI mch), .int (nI mli), .ref (b2 50), .ref (b2 51), .int (nI mno), .ref (b2 53), .ref (b2 54), .ref (b2 55)])), ((b2 8), .inl (ca 0, 40, .inl A8)), ((b2 35), .inl (ca 0, 10, .inl A35)), ((b2 34), .inl (ca 0, 36, .inl A34)), ((b2 55), .inl (ca 0, 10240, .inl (upd R2_ (10 * sx + la) be)))] H := hP
            have hD : va_D A [(y, .inr (11, [.int (nI ml), .int (nI mb), .int (nI mp), .int (nI mx), .int (nI mr), .int (nI mq), .ref (b2 6), .ref (b2 7), .ref (b2 8), .ref (b2 9), .ref (b2 10), .ref (b2 11), .ref (b2 12), .ref (b2 13), .ref (b2 14), .ref (b2 15), .ref (b2 16), .ref (b2 17), .ref (b2 18), .ref (b2 19), .ref (b2 20), .ref (b2 21), .ref (b2 22), .ref (b2 23), .ref (b2 24), .ref (b2 25), .ref (b2 26), .ref (b2 27), .ref (b2 28), .int gl, .int gh, .ref (b2 31), .ref (b2 32), .ref (b2 33), .ref (b2 34), .ref (b2 35), .ref (b2 36), .ref (b2 37), .ref (b2 38), .ref (b2 39), .ref (b2 40), .ref (b2 41), .ref (b2 42), .ref (b2 43), .ref (b2 44), .ref (b2 45), .ref (b2 46), .ref (b2 47), .int (nI mch), .int (nI mli), .ref (b2 50), .ref (b2 51), .int (nI mno), .ref (b2 53), .ref (b2 54), .ref (b2 55)])), ((b2 8), .inl (ca 0, 40, .inl A8)), ((b2 35), .inl (ca 0, 10, .inl A35)), ((b2 34), .inl (ca 0, 36, .inl A34)), ((b2 55), .inl (ca 0, 10240, .inl (upd R2_ (10 * sx + la) be)))] := hD
            refine lv_iinc (v := (nI (la + 1))) (lv' := [(4, .int (nI (la + 1))), (6, .int (nI kx)), (5, .int be), (3, .int (nI sx)), (2, .int (nI ((2 ^ mq) - 1))), (0, .ref y), (1, .int v1)]) hx hb dX11_reckon_126 hl (k := 2) rfl (nI_add (la) 1) (by decide) rfl (fun ls hl => ?_)
            refine lv_goto (tgt := 18) hx hb dX11_reckon_129 (by decide) ?_
            exact ih18 (la + 1, (upd R2_ (10 * sx + la) be)) _ _ _ (by omega) ⟨(by omega), hP, hD, hS, lv_sub hl [0, 3, 4, 5, 6] rfl⟩
          · have nc_5 : ¬ (sx = (2 ^ mq) - 1) := fun h9 => c_5 ((nI_eq (a := sx) (b := (2 ^ mq) - 1) (by omega) (by omega)).mpr h9)
            refine lv_aload_n hx hb dX11_reckon_58 rfl (lv_at hl 5 rfl) ?_
            refine lv_iload_n hx hb dX11_reckon_59 rfl (lv_at hl 3 rfl) ?_
            refine lv_iload hx hb dX11_reckon_60 (lv_at hl 0 rfl) ?_
            refine lv_iload_n hx hb dX11_reckon_62 rfl (lv_at hl 6 rfl) ?_
            have hPc := hP.sub (ws' := [(y, .inr (11, [.int (nI ml), .int (nI mb), .int (nI mp), .int (nI mx), .int (nI mr), .int (nI mq), .ref (b2 6), .ref (b2 7), .ref (b2 8), .ref (b2 9), .ref (b2 10), .ref (b2 11), .ref (b2 12), .ref (b2 13), .ref (b2 14), .ref (b2 15), .ref (b2 16), .ref (b2 17), .ref (b2 18), .ref (b2 19), .ref (b2 20), .ref (b2 21), .ref (b2 22), .ref (b2 23), .ref (b2 24), .ref (b2 25), .ref (b2 26), .ref (b2 27), .ref (b2 28), .int gl, .int gh, .ref (b2 31), .ref (b2 32), .ref (b2 33), .ref (b2 34), .ref (b2 35), .ref (b2 36), .ref (b2 37), .ref (b2 38), .ref (b2 39), .ref (b2 40), .ref (b2 41), .ref (b2 42), .ref (b2 43), .ref (b2 44), .ref (b2 45), .ref (b2 46), .ref (b2 47), .int (nI mch), .int (nI mli), .ref (b2 50), .ref (b2 51), .int (nI mno), .ref (b2 53), .ref (b2 54), .ref (b2 55)])), ((b2 8), .inl (ca 0, 40, .inl A8)), ((b2 35), .inl (ca 0, 10, .inl A35))]) [0, 1, 2] rfl
            refine pc_i (va_runV (As := [.int (nI sx), .int (nI kx), .int v1]) (rest := []) ⟨hx, hb, hml, hown, hts⟩ (m_mayCome l dC dI ca y b2 ml mb mp mx mr mq gl gh mch mli mno A8 A35 sx kx v1 (by first | assumption | omega | exact ⟨_, by omega, rfl⟩) (by first | assumption | omega | exact ⟨_, by omega, rfl⟩) (by first | assumption | omega | exact ⟨_, by omega, rfl⟩) (by first | assumption | omega | exact ⟨_, by omega, rfl⟩)) (⟨callB_of 3 hts (gd mw_1272) rfl rfl rfl (hts _ mw_8) (hts _ mw_1269) ds_X11_mayCome ⟨Nat.le_of_ble_eq_true rfl, Nat.le_of_ble_eq_true rfl⟩, (hts _ mw_1271), (hts _ mp_62)⟩) (pu_V hPc hK hE (va_recv hK hPc (ci := 11) (q0 := 0) rfl rfl)) rfl rfl hl.1 rfl (lv_room (Nat.le_of_ble_eq_true rfl)) dX11_reckon_63 ⟨Nat.le_of_ble_eq_true rfl, Nat.le_of_ble_eq_true rfl⟩) (fun rv_6 hw_ => ?_)
            have hw_6 := hw_
            refine lv_if_ne (tgt := 72) hx hb dX11_reckon_66 (by decide) (fun c_7 => ?_) (fun c_7 => ?_)
            · refine lv_aload_n hx hb dX11_reckon_72 rfl (lv_at hl 5 rfl) ?_
              refine lv_iload hx hb dX11_reckon_73 (lv_at hl 2 rfl) ?_
              refine lv_iload hx hb dX11_reckon_75 (lv_at hl 0 rfl) ?_
              have hPc := hP.sub (ws' := [(y, .inr (11, [.int (nI ml), .int (nI mb), .int (nI mp), .int (nI mx), .int (nI mr), .int (nI mq), .ref (b2 6), .ref (b2 7), .ref (b2 8), .ref (b2 9), .ref (b2 10), .ref (b2 11), .ref (b2 12), .ref (b2 13), .ref (b2 14), .ref (b2 15), .ref (b2 16), .ref (b2 17), .ref (b2 18), .ref (b2 19), .ref (b2 20), .ref (b2 21), .ref (b2 22), .ref (b2 23), .ref (b2 24), .ref (b2 25), .ref (b2 26), .ref (b2 27), .ref (b2 28), .int gl, .int gh, .ref (b2 31), .ref (b2 32), .ref (b2 33), .ref (b2 34), .ref (b2 35), .ref (b2 36), .ref (b2 37), .ref (b2 38), .ref (b2 39), .ref (b2 40), .ref (b2 41), .ref (b2 42), .ref (b2 43), .ref (b2 44), .ref (b2 45), .ref (b2 46), .ref (b2 47), .int (nI mch), .int (nI mli), .ref (b2 50), .ref (b2 51), .int (nI mno), .ref (b2 53), .ref (b2 54), .ref (b2 55)])), ((b2 8), .inl (ca 0, 40, .inl A8)), ((b2 35), .inl (ca 0, 10, .inl A35)), ((b2 34), .inl (ca 0, 36, .inl A34))]) [0, 1, 2, 3] rfl
              refine pc_i (va_runV (As := [.int (nI la), .int (nI kx)]) (rest := []) ⟨hx, hb, hml, hown, hts⟩ (m_minutes l dC dI ca y b2 ml mb mp mx mr mq gl gh mch mli mno A8 A35 A34 (nI la) kx (by first | assumption | omega | exact ⟨_, by omega, rfl⟩) (Or.inr ⟨la, by omega, rfl⟩) (by first | assumption | omega | exact ⟨_, by omega, rfl⟩) (by first | assumption | omega | exact ⟨_, by omega, rfl⟩) (by first | assumption | omega | exact ⟨_, by omega, rfl⟩)) (⟨callB_of 2 hts (gd mw_1280) rfl rfl rfl (hts _ mw_8) (hts _ mw_1277) ds_X11_minutes ⟨Nat.le_of_ble_eq_true rfl, Nat.le_of_ble_eq_true rfl⟩, (hts _ mw_1279), (hts _ mp_64)⟩) (pu_V hPc hK hE (va_recv hK hPc (ci := 11) (q0 := 0) rfl rfl)) rfl rfl hl.1 rfl (lv_room (Nat.le_of_ble_eq_true rfl)) dX11_reckon_77 ⟨Nat.le_of_ble_eq_true rfl, Nat.le_of_ble_eq_true rfl⟩) (fun rv_8 hw_ => ?_)
              have hw_8 := hw_
              refine lv_aload_n hx hb dX11_reckon_80 rfl (lv_at hl 5 rfl) ?_
              refine lv_iload_n hx hb dX11_reckon_81 rfl (lv_at hl 3 rfl) ?_
              refine lv_iconst (v := 1) hx hb dX11_reckon_82 (by decide) ?_
              refine lv_iload hx hb dX11_reckon_83 (lv_at hl 0 rfl) ?_
              refine lv_ishl hx hb dX11_reckon_85 ?_
              refine lv_topi (fun y_ e_ => ?_)
              obtain rfl : y_ = (nI (2 ^ kx)) := e_.trans (tb_sh (by omega))
              refine lv_ior hx hb dX11_reckon_86 ?_
              refine lv_topi (fun y_ e_ => ?_)
              obtain rfl : y_ = (nI (sx ||| (2 ^ kx))) := e_.trans (tb_or _ _)
              refine lv_iload hx hb dX11_reckon_87 (lv_at hl 0 rfl) ?_
              have hPc := hP.sub (ws' := [(y, .inr (11, [.int (nI ml), .int (nI mb), .int (nI mp), .int (nI mx), .int (nI mr), .int (nI mq), .ref (b2 6), .ref (b2 7), .ref (b2 8), .ref (b2 9), .ref (b2 10), .ref (b2 11), .ref (b2 12), .ref (b2 13), .ref (b2 14), .ref (b2 15), .ref (b2 16), .ref (b2 17), .ref (b2 18), .ref (b2 19), .ref (b2 20), .ref (b2 21), .ref (b2 22), .ref (b2 23), .ref (b2 24), .ref (b2 25), .ref (b2 26), .ref (b2 27), .ref (b2 28), .int gl, .int gh, .ref (b2 31), .ref (b2 32), .ref (b2 33), .ref (b2 34), .ref (b2 35), .ref (b2 36), .ref (b2 37), .ref (b2 38), .ref (b2 39), .ref (b2 40), .ref (b2 41), .ref (b2 42), .ref (b2 43), .ref (b2 44), .ref (b2 45), .ref (b2 46), .ref (b2 47), .int (nI mch), .int (nI mli), .ref (b2 50), .ref (b2 51), .int (nI mno), .ref (b2 53), .ref (b2 54), .ref (b2 55)])), ((b2 55), .inl (ca 0, 10240, .inl R2_))]) [0, 4] rfl
              refine pc_i (va_runV (As := [.int (nI (sx ||| (2 ^ kx))), .int (nI kx)]) (rest := [.int rv_8]) ⟨hx, hb, hml, hown, hts⟩ (m_restOf l dC dI ca y b2 ml mb mp mx mr mq gl gh mch mli mno R2_ (sx ||| (2 ^ kx)) kx (by first | assumption | omega | exact ⟨_, by omega, rfl⟩) (or_10 (by omega) (by omega)) (by first | assumption | omega | exact ⟨_, by omega, rfl⟩)) (⟨callB_of 2 hts (gd mw_1284) rfl rfl rfl (hts _ mw_8) (hts _ mw_1281) ds_X11_restOf ⟨Nat.le_of_ble_eq_true rfl, Nat.le_of_ble_eq_true rfl⟩, (hts _ mw_1283), (hts _ mp_65)⟩) (pu_V hPc hK hE (va_recv hK hPc (ci := 11) (q0 := 0) rfl rfl)) rfl rfl hl.1 rfl (lv_room (Nat.le_of_ble_eq_true rfl)) dX11_reckon_89 ⟨Nat.le_of_ble_eq_true rfl, Nat.le_of_ble_eq_true rfl⟩) (fun rv_9 hw_ => ?_)
              have hw_9 := hw_
              refine lv_iadd hx hb dX11_reckon_92 ?_
              refine lv_istore (lv' := [(7, .int (rv_8 + rv_9)), (6, .int (nI kx)), (5, .int be), (4, .int (nI la)), (3, .int (nI sx)), (2, .int (nI ((2 ^ mq) - 1))), (0, .ref y), (1, .int v1)]) hx hb dX11_reckon_93 hl (by decide) rfl (fun ls hl => ?_)
              refine lv_iload hx hb dX11_reckon_95 (lv_at hl 0 rfl) ?_
              refine lv_iload hx hb dX11_reckon_97 (lv_at hl 2 rfl) ?_
              refine lv_icmp_ge (tgt := 106) hx hb dX11_reckon_99 (by decide) (fun c_10 => ?_) (fun c_10 => ?_)
              · refine lv_iinc (v := (nI (kx + 1))) (lv' := [(6, .int (nI (kx + 1))), (7, .int (rv_8 + rv_9)), (5, .int be), (4, .int (nI la)), (3, .int (nI sx)), (2, .int (nI ((2 ^ mq) - 1))), (0, .ref y), (1, .int v1)]) hx hb dX11_reckon_106 hl (k := 1) rfl (nI_add (kx) 1) (by decide) rfl (fun ls hl => ?_)
                refine lv_goto (tgt := 44) hx hb dX11_reckon_109 (by decide) ?_
                exact ih44 (kx + 1, be) _ _ _ (by omega) ⟨(by omega), hP, hD, hS, lv_sub hl [0, 2, 3, 4, 5, 6, 7] rfl⟩
              · refine lv_iload hx hb dX11_reckon_102 (lv_at hl 0 rfl) ?_
                refine lv_istore (lv' := [(5, .int (rv_8 + rv_9)), (7, .int (rv_8 + rv_9)), (6, .int (nI kx)), (4, .int (nI la)), (3, .int (nI sx)), (2, .int (nI ((2 ^ mq) - 1))), (0, .ref y), (1, .int v1)]) hx hb dX11_reckon_104 hl (by decide) rfl (fun ls hl => ?_)
                refine lv_iinc (v := (nI (kx + 1))) (lv' := [(6, .int (nI (kx + 1))), (5, .int (rv_8 + rv_9)), (7, .int (rv_8 + rv_9)), (4, .int (nI la)), (3, .int (nI sx)), (2, .int (nI ((2 ^ mq) - 1))), (0, .ref y), (1, .int v1)]) hx hb dX11_reckon_106 hl (k := 2) rfl (nI_add (kx) 1) (by decide) rfl (fun ls hl => ?_)
                refine lv_goto (tgt := 44) hx hb dX11_reckon_109 (by decide) ?_
                exact ih44 (kx + 1, (rv_8 + rv_9)) _ _ _ (by omega) ⟨(by omega), hP, hD, hS, lv_sub hl [0, 1, 3, 4, 5, 6, 7] rfl⟩
            · refine lv_goto (tgt := 106) hx hb dX11_reckon_69 (by decide) ?_
              refine lv_iinc (v := (nI (kx + 1))) (lv' := [(6, .int (nI (kx + 1))), (5, .int be), (4, .int (nI la)), (3, .int (nI sx)), (2, .int (nI ((2 ^ mq) - 1))), (0, .ref y), (1, .int v1)]) hx hb dX11_reckon_106 hl (k := 0) rfl (nI_add (kx) 1) (by decide) rfl (fun ls hl => ?_)
              refine lv_goto (tgt := 44) hx hb dX11_reckon_109 (by decide) ?_
              exact ih44 (kx + 1, be) _ _ _ (by omega) ⟨(by omega), hP, hD, hS, lv_sub hl [0, 1, 2, 3, 4, 5, 6] rfl⟩
      · have nc_3 : sx = (2 ^ mq) - 1 := (nI_eq (a := sx) (b := (2 ^ mq) - 1) (by omega) (by omega)).mp c_3
        refine lv_iconst (v := 0) hx hb dX11_reckon_32 (by decide) ?_
        refine lv_goto (tgt := 39) hx hb dX11_reckon_33 (by decide) ?_
        refine lv_istore (lv' := [(5, .int 0), (4, .int (nI la)), (3, .int (nI sx)), (2, .int (nI ((2 ^ mq) - 1))), (0, .ref y), (1, .int v1)]) hx hb dX11_reckon_39 hl (by decide) rfl (fun ls hl => ?_)
        refine lv_iconst (v := 0) hx hb dX11_reckon_41 (by decide) ?_
        refine lv_istore (lv' := [(6, .int 0), (5, .int 0), (4, .int (nI la)), (3, .int (nI sx)), (2, .int (nI ((2 ^ mq) - 1))), (0, .ref y), (1, .int v1)]) hx hb dX11_reckon_42 hl (by decide) rfl (fun ls hl => ?_)
        refine wl_loop (fun (z_ : Nat × Int32) H locs ls => (z_.1 ≤ mq) ∧ va_P (dC, dI) vwCl [(y, .inr (11, [.int (nI ml), .int (nI mb), .int (nI mp), .int (nI mx), .int (nI mr), .int (nI mq), .ref (b2 6), .ref (b2 7), .ref (b2 8), .ref (b2 9), .ref (b2 10), .ref (b2 11), .ref (b2 12), .ref (b2 13), .ref (b2 14), .ref (b2 15), .ref (b2 16), .ref (b2 17), .ref (b2 18), .ref (b2 19), .ref (b2 20), .ref (b2 21), .ref (b2 22), .ref (b2 23), .ref (b2 24), .ref (b2 25), .ref (b2 26), .ref (b2 27), .ref (b2 28), .int gl, .int gh, .ref (b2 31), .ref (b2 32), .ref (b2 33), .ref (b2 34), .ref (b2 35), .ref (b2 36), .ref (b2 37), .ref (b2 38), .ref (b2 39), .ref (b2 40), .ref (b2 41), .ref (b2 42), .ref (b2 43), .ref (b2 44), .ref (b2 45), .ref (b2 46), .ref (b2 47), .int (nI mch), .int (nI mli), .ref (b2 50), .ref (b2 51), .int (nI mno), .ref (b2 53), .ref (b2 54), .ref (b2 55)])), ((b2 8), .inl (ca 0, 40, .inl A8)), ((b2 35), .inl (ca 0, 10, .inl A35)), ((b2 34), .inl (ca 0, 36, .inl A34)), ((b2 55), .inl (ca 0, 10240, .inl R2_))] H ∧ va_D A [(y, .inr (11, [.int (nI ml), .int (nI mb), .int (nI mp), .int (nI mx), .int (nI mr), .int (nI mq), .ref (b2 6), .ref (b2 7), .ref (b2 8), .ref (b2 9), .ref (b2 10), .ref (b2 11), .ref (b2 12), .ref (b2 13), .ref (b2 14), .ref (b2 15), .ref (b2 16), .ref (b2 17), .ref (b2 18), .ref (b2 19), .ref (b2 20), .ref (b2 21), .ref (b2 22), .ref (b2 23), .ref (b2 24), .ref (b2 25), .ref (b2 26), .ref (b2 27), .ref (b2 28), .int gl, .int gh, .ref (b2 31), .ref (b2 32), .ref (b2 33), .ref (b2 34), .ref (b2 35), .ref (b2 36), .ref (b2 37), .ref (b2 38), .ref (b2 39), .ref (b2 40), .ref (b2 41), .ref (b2 42), .ref (b2 43), .ref (b2 44), .ref (b2 45), .ref (b2 46), .ref (b2 47), .int (nI mch), .int (nI mli), .ref (b2 50), .ref (b2 51), .int (nI mno), .ref (b2 53), .ref (b2 54), .ref (b2 55)])), ((b2 8), .inl (ca 0, 40, .inl A8)), ((b2 35), .inl (ca 0, 10, .inl A35)), ((b2 34), .inl (ca 0, 36, .inl A34)), ((b2 55), .inl (ca 0, 10240, .inl R2_))] ∧ va_S A s.heap H locs ∧ lv_has ls 8 [(6, .int (nI z_.1)), (5, .int z_.2), (4, .int (nI la)), (3, .int (nI sx)), (2, .int (nI ((2 ^ mq) - 1))), (0, .ref y), (1, .int v1)]) (fun (z_ : Nat × Int32) => mq - z_.1) (fun z_ H locs ls hI ih44 => ?_) (0, 0) ⟨(Nat.zero_le _), hP, hD, hS, lv_sub hl [0, 1, 2, 3, 4, 5, 6] rfl⟩
        obtain ⟨kx, be⟩ := z_
        dsimp only at hI ih44
        obtain ⟨hkx, hP, hD, hS, hl⟩ := hI
        refine lv_iload hx hb dX11_reckon_44 (lv_at hl 0 rfl) ?_
        refine lv_aload_n hx hb dX11_reckon_46 rfl (lv_at hl 5 rfl) ?_
        refine va_get (D := (dC, dI)) (ci := 11) (v := .int (nI mq)) (C := RX11) (T := TX11) (N := 56) hx hb hts inX11 hown hK hP 0 rfl rfl 5 (by decide) (hts _ mw_885) (fun _ h9 => h9) rfl dX11_reckon_47 ?_
        refine lv_icmp_ge (tgt := 112) hx hb dX11_reckon_50 (by decide) (fun c_11 => ?_) (fun c_11 => ?_)
        · have nc_11 : mq ≤ kx := (nI_leI (a := mq) (b := kx) (by omega) (by omega)).mp c_11
          refine lv_aload_n hx hb dX11_reckon_112 rfl (lv_at hl 5 rfl) ?_
          refine va_get (D := (dC, dI)) (ci := 11) (v := .ref (b2 55)) (C := RX11) (T := TX11) (N := 56) hx hb hts inX11 hown hK hP 0 rfl rfl 55 (by decide) (hts _ mw_935) (fun _ h9 => h9) rfl dX11_reckon_113 ?_
          refine lv_bipush (v := 10) hx hb dX11_reckon_116 (by decide) ?_
          refine lv_iload_n hx hb dX11_reckon_118 rfl (lv_at hl 3 rfl) ?_
          refine lv_imul hx hb dX11_reckon_119 ?_
          refine lv_topi (fun y_ e_ => ?_)
          obtain rfl : y_ = (nI (10 * sx)) := e_.trans (pk_mul (10) (sx))
          refine lv_iload hx hb dX11_reckon_120 (lv_at hl 2 rfl) ?_
          refine lv_iadd hx hb dX11_reckon_122 ?_
          refine lv_topi (fun y_ e_ => ?_)
          obtain rfl : y_ = (nI (10 * sx + la)) := e_.trans (nI_add (10 * sx) (la))
          refine lv_iload hx hb dX11_reckon_123 (lv_at hl 1 rfl) ?_
          refine va_iast hx hb hK hP hD hS 4 0 rfl rfl (vp_in_nI (show 10 * sx + la < 10240 by omega) (by first | decide | omega)) dX11_reckon_125 (fun H locs hP hD hS => ?_)
          rw [(show ((nI (10 * sx + la)) : Int32).toNatClampNeg = 10 * sx + la from nI_clamp (by omega))] at hP hD
          have hP : va_P (dC, dI) vwCl [(y, .inr (11, [.int (nI ml), .int (nI mb), .int (nI mp), .int (nI mx), .int (nI mr), .int (nI mq), .ref (b2 6), .ref (b2 7), .ref (b2 8), .ref (b2 9), .ref (b2 10), .ref (b2 11), .ref (b2 12), .ref (b2 13), .ref (b2 14), .ref (b2 15), .ref (b2 16), .ref (b2 17), .ref (b2 18), .ref (b2 19), .ref (b2 20), .ref (b2 21), .ref (b2 22), .ref (b2 23), .ref (b2 24), .ref (b2 25), .ref (b2 26), .ref (b2 27), .ref (b2 28), .int gl, .int gh, .ref (b2 31), .ref (b2 32), .ref (b2 33), .ref (b2 34), .ref (b2 35), .ref (b2 36), .ref (b2 37), .ref (b2 38), .ref (b2 39), .ref (b2 40), .ref (b2 41), .ref (b2 42), .ref (b2 43), .ref (b2 44), .ref (b2 45), .ref (b2 46), .ref (b2 47), .int (nI mch), .int (nI mli), .ref (b2 50), .ref (b2 51), .int (nI mno), .ref (b2 53), .ref (b2 54), .ref (b2 55)])), ((b2 8), .inl (ca 0, 40, .inl A8)), ((b2 35), .inl (ca 0, 10, .inl A35)), ((b2 34), .inl (ca 0, 36, .inl A34)), ((b2 55), .inl (ca 0, 10240, .inl (upd R2_ (10 * sx + la) be)))] H := hP
          have hD : va_D A [(y, .inr (11, [.int (nI ml), .int (nI mb), .int (nI mp), .int (nI mx), .int (nI mr), .int (nI mq), .ref (b2 6), .ref (b2 7), .ref (b2 8), .ref (b2 9), .ref (b2 10), .ref (b2 11), .ref (b2 12), .ref (b2 13), .ref (b2 14), .ref (b2 15), .ref (b2 16), .ref (b2 17), .ref (b2 18), .ref (b2 19), .ref (b2 20), .ref (b2 21), .ref (b2 22), .ref (b2 23), .ref (b2 24), .ref (b2 25), .ref (b2 26), .ref (b2 27), .ref (b2 28), .int gl, .int gh, .ref (b2 31), .ref (b2 32), .ref (b2 33), .ref (b2 34), .ref (b2 35), .ref (b2 36), .ref (b2 37), .ref (b2 38), .ref (b2 39), .ref (b2 40), .ref (b2 41), .ref (b2 42), .ref (b2 43), .ref (b2 44), .ref (b2 45), .ref (b2 46), .ref (b2 47), .int (nI mch), .int (nI mli), .ref (b2 50), .ref (b2 51), .int (nI mno), .ref (b2 53), .ref (b2 54), .ref (b2 55)])), ((b2 8), .inl (ca 0, 40, .inl A8)), ((b2 35), .inl (ca 0, 10, .inl A35)), ((b2 34), .inl (ca 0, 36, .inl A34)), ((b2 55), .inl (ca 0, 10240, .inl (upd R2_ (10 * sx + la) be)))] := hD
          refine lv_iinc (v := (nI (la + 1))) (lv' := [(4, .int (nI (la + 1))), (6, .int (nI kx)), (5, .int be), (3, .int (nI sx)), (2, .int (nI ((2 ^ mq) - 1))), (0, .ref y), (1, .int v1)]) hx hb dX11_reckon_126 hl (k := 2) rfl (nI_add (la) 1) (by decide) rfl (fun ls hl => ?_)
          refine lv_goto (tgt := 18) hx hb dX11_reckon_129 (by decide) ?_
          exact ih18 (la + 1, (upd R2_ (10 * sx + la) be)) _ _ _ (by omega) ⟨(by omega), hP, hD, hS, lv_sub hl [0, 3, 4, 5, 6] rfl⟩
        · have nc_11 : ¬ (mq ≤ kx) := fun h9 => c_11 ((nI_leI (a := mq) (b := kx) (by omega) (by omega)).mpr h9)
          refine lv_iload_n hx hb dX11_reckon_53 rfl (lv_at hl 3 rfl) ?_
          refine lv_iload_n hx hb dX11_reckon_54 rfl (lv_at hl 4 rfl) ?_
          refine lv_icmp_eq (tgt := 112) hx hb dX11_reckon_55 (by decide) (fun c_12 => ?_) (fun c_12 => ?_)
          · have nc_12 : sx = (2 ^ mq) - 1 := (nI_eq (a := sx) (b := (2 ^ mq) - 1) (by omega) (by omega)).mp c_12
            refine lv_aload_n hx hb dX11_reckon_112 rfl (lv_at hl 5 rfl) ?_
            refine va_get (D := (dC, dI)) (ci := 11) (v := .ref (b2 55)) (C := RX11) (T := TX11) (N := 56) hx hb hts inX11 hown hK hP 0 rfl rfl 55 (by decide) (hts _ mw_935) (fun _ h9 => h9) rfl dX11_reckon_113 ?_
            refine lv_bipush (v := 10) hx hb dX11_reckon_116 (by decide) ?_
            refine lv_iload_n hx hb dX11_reckon_118 rfl (lv_at hl 3 rfl) ?_
            refine lv_imul hx hb dX11_reckon_119 ?_
            refine lv_topi (fun y_ e_ => ?_)
            obtain rfl : y_ = (nI (10 * sx)) := e_.trans (pk_mul (10) (sx))
            refine lv_iload hx hb dX11_reckon_120 (lv_at hl 2 rfl) ?_
            refine lv_iadd hx hb dX11_reckon_122 ?_
            refine lv_topi (fun y_ e_ => ?_)
            obtain rfl : y_ = (nI (10 * sx + la)) := e_.trans (nI_add (10 * sx) (la))
            refine lv_iload hx hb dX11_reckon_123 (lv_at hl 1 rfl) ?_
            refine va_iast hx hb hK hP hD hS 4 0 rfl rfl (vp_in_nI (show 10 * sx + la < 10240 by omega) (by first | decide | omega)) dX11_reckon_125 (fun H locs hP hD hS => ?_)
            rw [(show ((nI (10 * sx + la)) : Int32).toNatClampNeg = 10 * sx + la from nI_clamp (by omega))] at hP hD
            have hP : va_P (dC, dI) vwCl [(y, .inr (11, [.int (nI ml), .int (nI mb), .int (nI mp), .int (nI mx), .int (nI mr), .int (nI mq), .ref (b2 6), .ref (b2 7), .ref (b2 8), .ref (b2 9), .ref (b2 10), .ref (b2 11), .ref (b2 12), .ref (b2 13), .ref (b2 14), .ref (b2 15), .ref (b2 16), .ref (b2 17), .ref (b2 18), .ref (b2 19), .ref (b2 20), .ref (b2 21), .ref (b2 22), .ref (b2 23), .ref (b2 24), .ref (b2 25), .ref (b2 26), .ref (b2 27), .ref (b2 28), .int gl, .int gh, .ref (b2 31), .ref (b2 32), .ref (b2 33), .ref (b2 34), .ref (b2 35), .ref (b2 36), .ref (b2 37), .ref (b2 38), .ref (b2 39), .ref (b2 40), .ref (b2 41), .ref (b2 42), .ref (b2 43), .ref (b2 44), .ref (b2 45), .ref (b2 46), .ref (b2 47), .int (nI mch), .int (nI mli), .ref (b2 50), .ref (b2 51), .int (nI mno), .ref (b2 53), .ref (b2 54), .ref (b2 55)])), ((b2 8), .inl (ca 0, 40, .inl A8)), ((b2 35), .inl (ca 0, 10, .inl A35)), ((b2 34), .inl (ca 0, 36, .inl A34)), ((b2 55), .inl (ca 0, 10240, .inl (upd R2_ (10 * sx + la) be)))] H := hP
            have hD : va_D A [(y, .inr (11, [.int (nI ml), .int (nI mb), .int (nI mp), .int (nI mx), .int (nI mr), .int (nI mq), .ref (b2 6), .ref (b2 7), .ref (b2 8), .ref (b2 9), .ref (b2 10), .ref (b2 11), .ref (b2 12), .ref (b2 13), .ref (b2 14), .ref (b2 15), .ref (b2 16), .ref (b2 17), .ref (b2 18), .ref (b2 19), .ref (b2 20), .ref (b2 21), .ref (b2 22), .ref (b2 23), .ref (b2 24), .ref (b2 25), .ref (b2 26), .ref (b2 27), .ref (b2 28), .int gl, .int gh, .ref (b2 31), .ref (b2 32), .ref (b2 33), .ref (b2 34), .ref (b2 35), .ref (b2 36), .ref (b2 37), .ref (b2 38), .ref (b2 39), .ref (b2 40), .ref (b2 41), .ref (b2 42), .ref (b2 43), .ref (b2 44), .ref (b2 45), .ref (b2 46), .ref (b2 47), .int (nI mch), .int (nI mli), .ref (b2 50), .ref (b2 51), .int (nI mno), .ref (b2 53), .ref (b2 54), .ref (b2 55)])), ((b2 8), .inl (ca 0, 40, .inl A8)), ((b2 35), .inl (ca 0, 10, .inl A35)), ((b2 34), .inl (ca 0, 36, .inl A34)), ((b2 55), .inl (ca 0, 10240, .inl (upd R2_ (10 * sx + la) be)))] := hD
            refine lv_iinc (v := (nI (la + 1))) (lv' := [(4, .int (nI (la + 1))), (6, .int (nI kx)), (5, .int be), (3, .int (nI sx)), (2, .int (nI ((2 ^ mq) - 1))), (0, .ref y), (1, .int v1)]) hx hb dX11_reckon_126 hl (k := 2) rfl (nI_add (la) 1) (by decide) rfl (fun ls hl => ?_)
            refine lv_goto (tgt := 18) hx hb dX11_reckon_129 (by decide) ?_
            exact ih18 (la + 1, (upd R2_ (10 * sx + la) be)) _ _ _ (by omega) ⟨(by omega), hP, hD, hS, lv_sub hl [0, 3, 4, 5, 6] rfl⟩
          · have nc_12 : ¬ (sx = (2 ^ mq) - 1) := fun h9 => c_12 ((nI_eq (a := sx) (b := (2 ^ mq) - 1) (by omega) (by omega)).mpr h9)
            refine lv_aload_n hx hb dX11_reckon_58 rfl (lv_at hl 5 rfl) ?_
            refine lv_iload_n hx hb dX11_reckon_59 rfl (lv_at hl 3 rfl) ?_
            refine lv_iload hx hb dX11_reckon_60 (lv_at hl 0 rfl) ?_
            refine lv_iload_n hx hb dX11_reckon_62 rfl (lv_at hl 6 rfl) ?_
            have hPc := hP.sub (ws' := [(y, .inr (11, [.int (nI ml), .int (nI mb), .int (nI mp), .int (nI mx), .int (nI mr), .int (nI mq), .ref (b2 6), .ref (b2 7), .ref (b2 8), .ref (b2 9), .ref (b2 10), .ref (b2 11), .ref (b2 12), .ref (b2 13), .ref (b2 14), .ref (b2 15), .ref (b2 16), .ref (b2 17), .ref (b2 18), .ref (b2 19), .ref (b2 20), .ref (b2 21), .ref (b2 22), .ref (b2 23), .ref (b2 24), .ref (b2 25), .ref (b2 26), .ref (b2 27), .ref (b2 28), .int gl, .int gh, .ref (b2 31), .ref (b2 32), .ref (b2 33), .ref (b2 34), .ref (b2 35), .ref (b2 36), .ref (b2 37), .ref (b2 38), .ref (b2 39), .ref (b2 40), .ref (b2 41), .ref (b2 42), .ref (b2 43), .ref (b2 44), .ref (b2 45), .ref (b2 46), .ref (b2 47), .int (nI mch), .int (nI mli), .ref (b2 50), .ref (b2 51), .int (nI mno), .ref (b2 53), .ref (b2 54), .ref (b2 55)])), ((b2 8), .inl (ca 0, 40, .inl A8)), ((b2 35), .inl (ca 0, 10, .inl A35))]) [0, 1, 2] rfl
            refine pc_i (va_runV (As := [.int (nI sx), .int (nI kx), .int v1]) (rest := []) ⟨hx, hb, hml, hown, hts⟩ (m_mayCome l dC dI ca y b2 ml mb mp mx mr mq gl gh mch mli mno A8 A35 sx kx v1 (by first | assumption | omega | exact ⟨_, by omega, rfl⟩) (by first | assumption | omega | exact ⟨_, by omega, rfl⟩) (by first | assumption | omega | exact ⟨_, by omega, rfl⟩) (by first | assumption | omega | exact ⟨_, by omega, rfl⟩)) (⟨callB_of 3 hts (gd mw_1272) rfl rfl rfl (hts _ mw_8) (hts _ mw_1269) ds_X11_mayCome ⟨Nat.le_of_ble_eq_true rfl, Nat.le_of_ble_eq_true rfl⟩, (hts _ mw_1271), (hts _ mp_62)⟩) (pu_V hPc hK hE (va_recv hK hPc (ci := 11) (q0 := 0) rfl rfl)) rfl rfl hl.1 rfl (lv_room (Nat.le_of_ble_eq_true rfl)) dX11_reckon_63 ⟨Nat.le_of_ble_eq_true rfl, Nat.le_of_ble_eq_true rfl⟩) (fun rv_13 hw_ => ?_)
            have hw_13 := hw_
            refine lv_if_ne (tgt := 72) hx hb dX11_reckon_66 (by decide) (fun c_14 => ?_) (fun c_14 => ?_)
            · refine lv_aload_n hx hb dX11_reckon_72 rfl (lv_at hl 5 rfl) ?_
              refine lv_iload hx hb dX11_reckon_73 (lv_at hl 2 rfl) ?_
              refine lv_iload hx hb dX11_reckon_75 (lv_at hl 0 rfl) ?_
              have hPc := hP.sub (ws' := [(y, .inr (11, [.int (nI ml), .int (nI mb), .int (nI mp), .int (nI mx), .int (nI mr), .int (nI mq), .ref (b2 6), .ref (b2 7), .ref (b2 8), .ref (b2 9), .ref (b2 10), .ref (b2 11), .ref (b2 12), .ref (b2 13), .ref (b2 14), .ref (b2 15), .ref (b2 16), .ref (b2 17), .ref (b2 18), .ref (b2 19), .ref (b2 20), .ref (b2 21), .ref (b2 22), .ref (b2 23), .ref (b2 24), .ref (b2 25), .ref (b2 26), .ref (b2 27), .ref (b2 28), .int gl, .int gh, .ref (b2 31), .ref (b2 32), .ref (b2 33), .ref (b2 34), .ref (b2 35), .ref (b2 36), .ref (b2 37), .ref (b2 38), .ref (b2 39), .ref (b2 40), .ref (b2 41), .ref (b2 42), .ref (b2 43), .ref (b2 44), .ref (b2 45), .ref (b2 46), .ref (b2 47), .int (nI mch), .int (nI mli), .ref (b2 50), .ref (b2 51), .int (nI mno), .ref (b2 53), .ref (b2 54), .ref (b2 55)])), ((b2 8), .inl (ca 0, 40, .inl A8)), ((b2 35), .inl (ca 0, 10, .inl A35)), ((b2 34), .inl (ca 0, 36, .inl A34))]) [0, 1, 2, 3] rfl
              refine pc_i (va_runV (As := [.int (nI la), .int (nI kx)]) (rest := []) ⟨hx, hb, hml, hown, hts⟩ (m_minutes l dC dI ca y b2 ml mb mp mx mr mq gl gh mch mli mno A8 A35 A34 (nI la) kx (by first | assumption | omega | exact ⟨_, by omega, rfl⟩) (Or.inr ⟨la, by omega, rfl⟩) (by first | assumption | omega | exact ⟨_, by omega, rfl⟩) (by first | assumption | omega | exact ⟨_, by omega, rfl⟩) (by first | assumption | omega | exact ⟨_, by omega, rfl⟩)) (⟨callB_of 2 hts (gd mw_1280) rfl rfl rfl (hts _ mw_8) (hts _ mw_1277) ds_X11_minutes ⟨Nat.le_of_ble_eq_true rfl, Nat.le_of_ble_eq_true rfl⟩, (hts _ mw_1279), (hts _ mp_64)⟩) (pu_V hPc hK hE (va_recv hK hPc (ci := 11) (q0 := 0) rfl rfl)) rfl rfl hl.1 rfl (lv_room (Nat.le_of_ble_eq_true rfl)) dX11_reckon_77 ⟨Nat.le_of_ble_eq_true rfl, Nat.le_of_ble_eq_true rfl⟩) (fun rv_15 hw_ => ?_)
              have hw_15 := hw_
              refine lv_aload_n hx hb dX11_reckon_80 rfl (lv_at hl 5 rfl) ?_
              refine lv_iload_n hx hb dX11_reckon_81 rfl (lv_at hl 3 rfl) ?_
              refine lv_iconst (v := 1) hx hb dX11_reckon_82 (by decide) ?_
              refine lv_iload hx hb dX11_reckon_83 (lv_at hl 0 rfl) ?_
              refine lv_ishl hx hb dX11_reckon_85 ?_
              refine lv_topi (fun y_ e_ => ?_)
              obtain rfl : y_ = (nI (2 ^ kx)) := e_.trans (tb_sh (by omega))
              refine lv_ior hx hb dX11_reckon_86 ?_
              refine lv_topi (fun y_ e_ => ?_)
              obtain rfl : y_ = (nI (sx ||| (2 ^ kx))) := e_.trans (tb_or _ _)
              refine lv_iload hx hb dX11_reckon_87 (lv_at hl 0 rfl) ?_
              have hPc := hP.sub (ws' := [(y, .inr (11, [.int (nI ml), .int (nI mb), .int (nI mp), .int (nI mx), .int (nI mr), .int (nI mq), .ref (b2 6), .ref (b2 7), .ref (b2 8), .ref (b2 9), .ref (b2 10), .ref (b2 11), .ref (b2 12), .ref (b2 13), .ref (b2 14), .ref (b2 15), .ref (b2 16), .ref (b2 17), .ref (b2 18), .ref (b2 19), .ref (b2 20), .ref (b2 21), .ref (b2 22), .ref (b2 23), .ref (b2 24), .ref (b2 25), .ref (b2 26), .ref (b2 27), .ref (b2 28), .int gl, .int gh, .ref (b2 31), .ref (b2 32), .ref (b2 33), .ref (b2 34), .ref (b2 35), .ref (b2 36), .ref (b2 37), .ref (b2 38), .ref (b2 39), .ref (b2 40), .ref (b2 41), .ref (b2 42), .ref (b2 43), .ref (b2 44), .ref (b2 45), .ref (b2 46), .ref (b2 47), .int (nI mch), .int (nI mli), .ref (b2 50), .ref (b2 51), .int (nI mno), .ref (b2 53), .ref (b2 54), .ref (b2 55)])), ((b2 55), .inl (ca 0, 10240, .inl R2_))]) [0, 4] rfl
              refine pc_i (va_runV (As := [.int (nI (sx ||| (2 ^ kx))), .int (nI kx)]) (rest := [.int rv_15]) ⟨hx, hb, hml, hown, hts⟩ (m_restOf l dC dI ca y b2 ml mb mp mx mr mq gl gh mch mli mno R2_ (sx ||| (2 ^ kx)) kx (by first | assumption | omega | exact ⟨_, by omega, rfl⟩) (or_10 (by omega) (by omega)) (by first | assumption | omega | exact ⟨_, by omega, rfl⟩)) (⟨callB_of 2 hts (gd mw_1284) rfl rfl rfl (hts _ mw_8) (hts _ mw_1281) ds_X11_restOf ⟨Nat.le_of_ble_eq_true rfl, Nat.le_of_ble_eq_true rfl⟩, (hts _ mw_1283), (hts _ mp_65)⟩) (pu_V hPc hK hE (va_recv hK hPc (ci := 11) (q0 := 0) rfl rfl)) rfl rfl hl.1 rfl (lv_room (Nat.le_of_ble_eq_true rfl)) dX11_reckon_89 ⟨Nat.le_of_ble_eq_true rfl, Nat.le_of_ble_eq_true rfl⟩) (fun rv_16 hw_ => ?_)
              have hw_16 := hw_
              refine lv_iadd hx hb dX11_reckon_92 ?_
              refine lv_istore (lv' := [(7, .int (rv_15 + rv_16)), (6, .int (nI kx)), (5, .int be), (4, .int (nI la)), (3, .int (nI sx)), (2, .int (nI ((2 ^ mq) - 1))), (0, .ref y), (1, .int v1)]) hx hb dX11_reckon_93 hl (by decide) rfl (fun ls hl => ?_)
              refine lv_iload hx hb dX11_reckon_95 (lv_at hl 0 rfl) ?_
              refine lv_iload hx hb dX11_reckon_97 (lv_at hl 2 rfl) ?_
              refine lv_icmp_ge (tgt := 106) hx hb dX11_reckon_99 (by decide) (fun c_17 => ?_) (fun c_17 => ?_)
              · refine lv_iinc (v := (nI (kx + 1))) (lv' := [(6, .int (nI (kx + 1))), (7, .int (rv_15 + rv_16)), (5, .int be), (4, .int (nI la)), (3, .int (nI sx)), (2, .int (nI ((2 ^ mq) - 1))), (0, .ref y), (1, .int v1)]) hx hb dX11_reckon_106 hl (k := 1) rfl (nI_add (kx) 1) (by decide) rfl (fun ls hl => ?_)
                refine lv_goto (tgt := 44) hx hb dX11_reckon_109 (by decide) ?_
                exact ih44 (kx + 1, be) _ _ _ (by omega) ⟨(by omega), hP, hD, hS, lv_sub hl [0, 2, 3, 4, 5, 6, 7] rfl⟩
              · refine lv_iload hx hb dX11_reckon_102 (lv_at hl 0 rfl) ?_
                refine lv_istore (lv' := [(5, .int (rv_15 + rv_16)), (7, .int (rv_15 + rv_16)), (6, .int (nI kx)), (4, .int (nI la)), (3, .int (nI sx)), (2, .int (nI ((2 ^ mq) - 1))), (0, .ref y), (1, .int v1)]) hx hb dX11_reckon_104 hl (by decide) rfl (fun ls hl => ?_)
                refine lv_iinc (v := (nI (kx + 1))) (lv' := [(6, .int (nI (kx + 1))), (5, .int (rv_15 + rv_16)), (7, .int (rv_15 + rv_16)), (4, .int (nI la)), (3, .int (nI sx)), (2, .int (nI ((2 ^ mq) - 1))), (0, .ref y), (1, .int v1)]) hx hb dX11_reckon_106 hl (k := 2) rfl (nI_add (kx) 1) (by decide) rfl (fun ls hl => ?_)
                refine lv_goto (tgt := 44) hx hb dX11_reckon_109 (by decide) ?_
                exact ih44 (kx + 1, (rv_15 + rv_16)) _ _ _ (by omega) ⟨(by omega), hP, hD, hS, lv_sub hl [0, 1, 3, 4, 5, 6, 7] rfl⟩
            · refine lv_goto (tgt := 106) hx hb dX11_reckon_69 (by decide) ?_
              refine lv_iinc (v := (nI (kx + 1))) (lv' := [(6, .int (nI (kx + 1))), (5, .int be), (4, .int (nI la)), (3, .int (nI sx)), (2, .int (nI ((2 ^ mq) - 1))), (0, .ref y), (1, .int v1)]) hx hb dX11_reckon_106 hl (k := 0) rfl (nI_add (kx) 1) (by decide) rfl (fun ls hl => ?_)
              refine lv_goto (tgt := 44) hx hb dX11_reckon_109 (by decide) ?_
              exact ih44 (kx + 1, be) _ _ _ (by omega) ⟨(by omega), hP, hD, hS, lv_sub hl [0, 1, 2, 3, 4, 5, 6] rfl⟩

set_option maxHeartbeats 4000000 in
set_option maxRecDepth 100000 in
theorem m_order (l : Launch) (dC : Nat → ClassId) (dI : Nat → Nat → Nat) (ca : Nat → ClassId) (sz : Nat) (y : Nat) (b2 : Nat → Nat) (ml : Nat) (mb : Nat) (mp : Nat) (mx : Nat) (mr : Nat) (mq : Nat) (gl : Int32) (gh : Int32) (mch : Nat) (mli : Nat) (mno : Nat) (A8 : Nat → Int32) (A35 : Nat → Int32) (A34 : Nat → Int32) (A55 : Nat → Int32) (v1 : Int32) (v2 : Int32) (hM : mI ml mb mp mx mr mq mch mli mno) (h_kind : ∀ j, cnt (A8 j) 5) (h_queue : ∀ j, cnt (A35 j) 39) : Met l yX11_order (Cond.code yX11_order cX11_order 11 (some .int) :: gT) ({ frames := 4, cells := 0, slots := 0, locals := 132 }) (va_Pc [.ref y, .int v1, .int v2] (pr (dC, dI) sz [(y, .inr (11, [.int (nI ml), .int (nI mb), .int (nI mp), .int (nI mx), .int (nI mr), .int (nI mq), .ref (b2 6), .ref (b2 7), .ref (b2 8), .ref (b2 9), .ref (b2 10), .ref (b2 11), .ref (b2 12), .ref (b2 13), .ref (b2 14), .ref (b2 15), .ref (b2 16), .ref (b2 17), .ref (b2 18), .ref (b2 19), .ref (b2 20), .ref (b2 21), .ref (b2 22), .ref (b2 23), .ref (b2 24), .ref (b2 25), .ref (b2 26), .ref (b2 27), .ref (b2 28), .int gl, .int gh, .ref (b2 31), .ref (b2 32), .ref (b2 33), .ref (b2 34), .ref (b2 35), .ref (b2 36), .ref (b2 37), .ref (b2 38), .ref (b2 39), .ref (b2 40), .ref (b2 41), .ref (b2 42), .ref (b2 43), .ref (b2 44), .ref (b2 45), .ref (b2 46), .ref (b2 47), .int (nI mch), .int (nI mli), .ref (b2 50), .ref (b2 51), .int (nI mno), .ref (b2 53), .ref (b2 54), .ref (b2 55)])), ((b2 8), .inl (ca 0, 40, .inl A8)), ((b2 35), .inl (ca 0, 10, .inl A35)), ((b2 34), .inl (ca 0, 36, .inl A34)), ((b2 55), .inl (ca 0, 10240, .inl A55))] (aT ca))) (va_Qi (fun (r : Int32) (u_ : (Nat → Int32)) => True) (fun (u_ : (Nat → Int32)) t => va_P (dC, dI) vwCl [(y, .inr (11, [.int (nI ml), .int (nI mb), .int (nI mp), .int (nI mx), .int (nI mr), .int (nI mq), .ref (b2 6), .ref (b2 7), .ref (b2 8), .ref (b2 9), .ref (b2 10), .ref (b2 11), .ref (b2 12), .ref (b2 13), .ref (b2 14), .ref (b2 15), .ref (b2 16), .ref (b2 17), .ref (b2 18), .ref (b2 19), .ref (b2 20), .ref (b2 21), .ref (b2 22), .ref (b2 23), .ref (b2 24), .ref (b2 25), .ref (b2 26), .ref (b2 27), .ref (b2 28), .int gl, .int gh, .ref (b2 31), .ref (b2 32), .ref (b2 33), .ref (b2 34), .ref (b2 35), .ref (b2 36), .ref (b2 37), .ref (b2 38), .ref (b2 39), .ref (b2 40), .ref (b2 41), .ref (b2 42), .ref (b2 43), .ref (b2 44), .ref (b2 45), .ref (b2 46), .ref (b2 47), .int (nI mch), .int (nI mli), .ref (b2 50), .ref (b2 51), .int (nI mno), .ref (b2 53), .ref (b2 54), .ref (b2 55)])), ((b2 8), .inl (ca 0, 40, .inl A8)), ((b2 35), .inl (ca 0, 10, .inl A35)), ((b2 34), .inl (ca 0, 36, .inl A34)), ((b2 55), .inl (ca 0, 10240, .inl u_))] t.heap ∧ va_D (va_A [(y, .inr (11, [.int (nI ml), .int (nI mb), .int (nI mp), .int (nI mx), .int (nI mr), .int (nI mq), .ref (b2 6), .ref (b2 7), .ref (b2 8), .ref (b2 9), .ref (b2 10), .ref (b2 11), .ref (b2 12), .ref (b2 13), .ref (b2 14), .ref (b2 15), .ref (b2 16), .ref (b2 17), .ref (b2 18), .ref (b2 19), .ref (b2 20), .ref (b2 21), .ref (b2 22), .ref (b2 23), .ref (b2 24), .ref (b2 25), .ref (b2 26), .ref (b2 27), .ref (b2 28), .int gl, .int gh, .ref (b2 31), .ref (b2 32), .ref (b2 33), .ref (b2 34), .ref (b2 35), .ref (b2 36), .ref (b2 37), .ref (b2 38), .ref (b2 39), .ref (b2 40), .ref (b2 41), .ref (b2 42), .ref (b2 43), .ref (b2 44), .ref (b2 45), .ref (b2 46), .ref (b2 47), .int (nI mch), .int (nI mli), .ref (b2 50), .ref (b2 51), .int (nI mno), .ref (b2 53), .ref (b2 54), .ref (b2 55)])), ((b2 8), .inl (ca 0, 40, .inl A8)), ((b2 35), .inl (ca 0, 10, .inl A35)), ((b2 34), .inl (ca 0, 36, .inl A34)), ((b2 55), .inl (ca 0, 10240, .inl A55))] sz) [(y, .inr (11, [.int (nI ml), .int (nI mb), .int (nI mp), .int (nI mx), .int (nI mr), .int (nI mq), .ref (b2 6), .ref (b2 7), .ref (b2 8), .ref (b2 9), .ref (b2 10), .ref (b2 11), .ref (b2 12), .ref (b2 13), .ref (b2 14), .ref (b2 15), .ref (b2 16), .ref (b2 17), .ref (b2 18), .ref (b2 19), .ref (b2 20), .ref (b2 21), .ref (b2 22), .ref (b2 23), .ref (b2 24), .ref (b2 25), .ref (b2 26), .ref (b2 27), .ref (b2 28), .int gl, .int gh, .ref (b2 31), .ref (b2 32), .ref (b2 33), .ref (b2 34), .ref (b2 35), .ref (b2 36), .ref (b2 37), .ref (b2 38), .ref (b2 39), .ref (b2 40), .ref (b2 41), .ref (b2 42), .ref (b2 43), .ref (b2 44), .ref (b2 45), .ref (b2 46), .ref (b2 47), .int (nI mch), .int (nI mli), .ref (b2 50), .ref (b2 51), .int (nI mno), .ref (b2 53), .ref (b2 54), .ref (b2 55)])), ((b2 8), .inl (ca 0, 40, .inl A8)), ((b2 35), .inl (ca 0, 10, .inl A35)), ((b2 34), .inl (ca 0, 36, .inl A34)), ((b2 55), .inl (ca 0, 10240, .inl u_))]) (va_A [(y, .inr (11, [.int (nI ml), .int (nI mb), .int (nI mp), .int (nI mx), .int (nI mr), .int (nI mq), .ref (b2 6), .ref (b2 7), .ref (b2 8), .ref (b2 9), .ref (b2 10), .ref (b2 11), .ref (b2 12), .ref (b2 13), .ref (b2 14), .ref (b2 15), .ref (b2 16), .ref (b2 17), .ref (b2 18), .ref (b2 19), .ref (b2 20), .ref (b2 21), .ref (b2 22), .ref (b2 23), .ref (b2 24), .ref (b2 25), .ref (b2 26), .ref (b2 27), .ref (b2 28), .int gl, .int gh, .ref (b2 31), .ref (b2 32), .ref (b2 33), .ref (b2 34), .ref (b2 35), .ref (b2 36), .ref (b2 37), .ref (b2 38), .ref (b2 39), .ref (b2 40), .ref (b2 41), .ref (b2 42), .ref (b2 43), .ref (b2 44), .ref (b2 45), .ref (b2 46), .ref (b2 47), .int (nI mch), .int (nI mli), .ref (b2 50), .ref (b2 51), .int (nI mno), .ref (b2 53), .ref (b2 54), .ref (b2 55)])), ((b2 8), .inl (ca 0, 40, .inl A8)), ((b2 35), .inl (ca 0, 10, .inl A35)), ((b2 34), .inl (ca 0, 36, .inl A34)), ((b2 55), .inl (ca 0, 10240, .inl A55))] sz)) 0 0 (va_A [(y, .inr (11, [.int (nI ml), .int (nI mb), .int (nI mp), .int (nI mx), .int (nI mr), .int (nI mq), .ref (b2 6), .ref (b2 7), .ref (b2 8), .ref (b2 9), .ref (b2 10), .ref (b2 11), .ref (b2 12), .ref (b2 13), .ref (b2 14), .ref (b2 15), .ref (b2 16), .ref (b2 17), .ref (b2 18), .ref (b2 19), .ref (b2 20), .ref (b2 21), .ref (b2 22), .ref (b2 23), .ref (b2 24), .ref (b2 25), .ref (b2 26), .ref (b2 27), .ref (b2 28), .int gl, .int gh, .ref (b2 31), .ref (b2 32), .ref (b2 33), .ref (b2 34), .ref (b2 35), .ref (b2 36), .ref (b2 37), .ref (b2 38), .ref (b2 39), .ref (b2 40), .ref (b2 41), .ref (b2 42), .ref (b2 43), .ref (b2 44), .ref (b2 45), .ref (b2 46), .ref (b2 47), .int (nI mch), .int (nI mli), .ref (b2 50), .ref (b2 51), .int (nI mno), .ref (b2 53), .ref (b2 54), .ref (b2 55)])), ((b2 8), .inl (ca 0, 40, .inl A8)), ((b2 35), .inl (ca 0, 10, .inl A35)), ((b2 34), .inl (ca 0, 36, .inl A34)), ((b2 55), .inl (ca 0, 10240, .inl A55))] sz) := by
  refine Met.ofW (cc := cX11_order) (maxL := 11) (ret := (some .int)) (by decide) rfl ?_
  intro p e s m args below meth c s₁ B hml hv
  obtain ⟨rfl, hsz, hP, hK, hD0, hE⟩ := hv
  have hx := B.exec
  have hb := B.bytes
  have hr := B.returns
  have hts : ∀ w ∈ gT, w.before _ s = true := fun w h => atoms_spec (ws := Cond.code yX11_order cX11_order 11 (some .int) :: gT) B.pre w (List.mem_cons_of_mem _ h)
  have hown : s.vm.findClass RX11 = some m.cls := findClass_of_methodNamed B.named
  have hlocks := B.notSynchronized
  subst hsz
  have hD := hD0.self (sz := s.heap.size)
  generalize hAe : va_A [(y, .inr (11, [.int (nI ml), .int (nI mb), .int (nI mp), .int (nI mx), .int (nI mr), .int (nI mq), .ref (b2 6), .ref (b2 7), .ref (b2 8), .ref (b2 9), .ref (b2 10), .ref (b2 11), .ref (b2 12), .ref (b2 13), .ref (b2 14), .ref (b2 15), .ref (b2 16), .ref (b2 17), .ref (b2 18), .ref (b2 19), .ref (b2 20), .ref (b2 21), .ref (b2 22), .ref (b2 23), .ref (b2 24), .ref (b2 25), .ref (b2 26), .ref (b2 27), .ref (b2 28), .int gl, .int gh, .ref (b2 31), .ref (b2 32), .ref (b2 33), .ref (b2 34), .ref (b2 35), .ref (b2 36), .ref (b2 37), .ref (b2 38), .ref (b2 39), .ref (b2 40), .ref (b2 41), .ref (b2 42), .ref (b2 43), .ref (b2 44), .ref (b2 45), .ref (b2 46), .ref (b2 47), .int (nI mch), .int (nI mli), .ref (b2 50), .ref (b2 51), .int (nI mno), .ref (b2 53), .ref (b2 54), .ref (b2 55)])), ((b2 8), .inl (ca 0, 40, .inl A8)), ((b2 35), .inl (ca 0, 10, .inl A35)), ((b2 34), .inl (ca 0, 36, .inl A34)), ((b2 55), .inl (ca 0, 10240, .inl A55))] s.heap.size = A at hD ⊢
  have hA : ∀ q : Nat, s.heap.size ≤ q → A q := fun q h => by rw [← hAe]; exact Or.inr h
  have hS : va_S A s.heap s.heap [] := va_S.rf
  have hl := lv_entry ([.ref y, .int v1, .int v2]) (n := 11) (Nat.le_of_ble_eq_true rfl)
  rw [lg_entry_eq]
  generalize (lg_sl ([.ref y, .int v1, .int v2]) ++ List.replicate (11 - (lg_sl ([.ref y, .int v1, .int v2])).length) Slot.unset).toArray = ls at hl ⊢
  have hl : lv_has ls 11 [(0, .ref y), (1, .int v1), (2, .int v2)] := hl
  obtain ⟨hm1, hm2, hm3, hm4, hm5, hm6, hm7, hm8, hm9⟩ := id hM
  refine lv_iload_n hx hb dX11_order_0 rfl (lv_at hl 2 rfl) ?_
  refine lv_iconst (v := (-1)) hx hb dX11_order_1 (by decide) ?_
  refine lv_aload_n hx hb dX11_order_2 rfl (lv_at hl 0 rfl) ?_
  refine va_get (D := (dC, dI)) (ci := 11) (v := .int (nI mq)) (C := RX11) (T := TX11) (N := 56) hx hb hts inX11 hown hK hP 0 rfl rfl 5 (by decide) (hts _ mw_885) (fun _ h9 => h9) rfl dX11_order_3 ?_
  refine lv_iconst (v := 1) hx hb dX11_order_6 (by decide) ?_
  refine lv_isub hx hb dX11_order_7 ?_
  have hPc := hP.sub (ws' := []) [] rfl
  refine pc_i (va_runS (As := [.int v2, .int (-1), .int ((nI mq) - 1)]) (rest := []) ⟨hx, hb, hml, hown, hts⟩ (c_isIn l dC dI ca v2 (-1) ((nI mq) - 1) ) (⟨callB_of 3 hts (gd mw_1057) rfl rfl rfl (hts _ mw_8) (hts _ mw_1055) ds_X11_isIn ⟨Nat.le_of_ble_eq_true rfl, Nat.le_of_ble_eq_true rfl⟩, (hts _ mw_1056)⟩) (pu_S hPc hK hE) rfl rfl hl.1 rfl (lv_room (Nat.le_of_ble_eq_true rfl)) dX11_order_8 ⟨Nat.le_of_ble_eq_true rfl, Nat.le_of_ble_eq_true rfl⟩) (fun rv_1 hw_ => ?_)
  obtain rfl : rv_1 = (wi v2 (-1) ((nI mq) - 1)) := hw_
  refine lv_if_ne (tgt := 16) hx hb dX11_order_11 (by decide) (fun c_2 => ?_) (fun c_2 => ?_)
  · refine lv_aload_n hx hb dX11_order_16 rfl (lv_at hl 0 rfl) ?_
    refine lv_iload_n hx hb dX11_order_17 rfl (lv_at hl 1 rfl) ?_
    have hPc := hP.sub (ws' := [(y, .inr (11, [.int (nI ml), .int (nI mb), .int (nI mp), .int (nI mx), .int (nI mr), .int (nI mq), .ref (b2 6), .ref (b2 7), .ref (b2 8), .ref (b2 9), .ref (b2 10), .ref (b2 11), .ref (b2 12), .ref (b2 13), .ref (b2 14), .ref (b2 15), .ref (b2 16), .ref (b2 17), .ref (b2 18), .ref (b2 19), .ref (b2 20), .ref (b2 21), .ref (b2 22), .ref (b2 23), .ref (b2 24), .ref (b2 25), .ref (b2 26), .ref (b2 27), .ref (b2 28), .int gl, .int gh, .ref (b2 31), .ref (b2 32), .ref (b2 33), .ref (b2 34), .ref (b2 35), .ref (b2 36), .ref (b2 37), .ref (b2 38), .ref (b2 39), .ref (b2 40), .ref (b2 41), .ref (b2 42), .ref (b2 43), .ref (b2 44), .ref (b2 45), .ref (b2 46), .ref (b2 47), .int (nI mch), .int (nI mli), .ref (b2 50), .ref (b2 51), .int (nI mno), .ref (b2 53), .ref (b2 54), .ref (b2 55)])), ((b2 8), .inl (ca 0, 40, .inl A8)), ((b2 35), .inl (ca 0, 10, .inl A35)), ((b2 34), .inl (ca 0, 36, .inl A34)), ((b2 55), .inl (ca 0, 10240, .inl A55))]) [0, 1, 2, 3, 4] rfl
    have hDc := hD.sub (ws' := [(y, .inr (11, [.int (nI ml), .int (nI mb), .int (nI mp), .int (nI mx), .int (nI mr), .int (nI mq), .ref (b2 6), .ref (b2 7), .ref (b2 8), .ref (b2 9), .ref (b2 10), .ref (b2 11), .ref (b2 12), .ref (b2 13), .ref (b2 14), .ref (b2 15), .ref (b2 16), .ref (b2 17), .ref (b2 18), .ref (b2 19), .ref (b2 20), .ref (b2 21), .ref (b2 22), .ref (b2 23), .ref (b2 24), .ref (b2 25), .ref (b2 26), .ref (b2 27), .ref (b2 28), .int gl, .int gh, .ref (b2 31), .ref (b2 32), .ref (b2 33), .ref (b2 34), .ref (b2 35), .ref (b2 36), .ref (b2 37), .ref (b2 38), .ref (b2 39), .ref (b2 40), .ref (b2 41), .ref (b2 42), .ref (b2 43), .ref (b2 44), .ref (b2 45), .ref (b2 46), .ref (b2 47), .int (nI mch), .int (nI mli), .ref (b2 50), .ref (b2 51), .int (nI mno), .ref (b2 53), .ref (b2 54), .ref (b2 55)])), ((b2 8), .inl (ca 0, 40, .inl A8)), ((b2 35), .inl (ca 0, 10, .inl A35)), ((b2 34), .inl (ca 0, 36, .inl A34)), ((b2 55), .inl (ca 0, 10240, .inl A55))]) [0, 1, 2, 3, 4] (by decide) rfl
    have hFc := va_free (wc := [(y, .inr (11, [.int (nI ml), .int (nI mb), .int (nI mp), .int (nI mx), .int (nI mr), .int (nI mq), .ref (b2 6), .ref (b2 7), .ref (b2 8), .ref (b2 9), .ref (b2 10), .ref (b2 11), .ref (b2 12), .ref (b2 13), .ref (b2 14), .ref (b2 15), .ref (b2 16), .ref (b2 17), .ref (b2 18), .ref (b2 19), .ref (b2 20), .ref (b2 21), .ref (b2 22), .ref (b2 23), .ref (b2 24), .ref (b2 25), .ref (b2 26), .ref (b2 27), .ref (b2 28), .int gl, .int gh, .ref (b2 31), .ref (b2 32), .ref (b2 33), .ref (b2 34), .ref (b2 35), .ref (b2 36), .ref (b2 37), .ref (b2 38), .ref (b2 39), .ref (b2 40), .ref (b2 41), .ref (b2 42), .ref (b2 43), .ref (b2 44), .ref (b2 45), .ref (b2 46), .ref (b2 47), .int (nI mch), .int (nI mli), .ref (b2 50), .ref (b2 51), .int (nI mno), .ref (b2 53), .ref (b2 54), .ref (b2 55)])), ((b2 8), .inl (ca 0, 40, .inl A8)), ((b2 35), .inl (ca 0, 10, .inl A35)), ((b2 34), .inl (ca 0, 36, .inl A34)), ((b2 55), .inl (ca 0, 10240, .inl A55))]) hD hS hA [0, 1, 2, 3, 4] rfl
    refine va_callv (va_runV (As := [.int v1]) (rest := []) ⟨hx, hb, hml, hown, hts⟩ (m_reckon l dC dI ca s.heap.size y b2 ml mb mp mx mr mq gl gh mch mli mno A8 A35 A34 A55 v1 (by first | assumption | omega | exact ⟨_, by omega, rfl⟩) (by first | assumption | omega | exact ⟨_, by omega, rfl⟩) (by first | assumption | omega | exact ⟨_, by omega, rfl⟩)) (⟨callB_of 1 hts (gd mw_1267) rfl rfl rfl (hts _ mw_8) (hts _ mw_1264) ds_X11_reckon ⟨Nat.le_of_ble_eq_true rfl, Nat.le_of_ble_eq_true rfl⟩, (hts _ mw_1266), (hts _ mp_61)⟩) (pr_V hPc hK hDc hE (va_recv hK hPc (ci := 11) (q0 := 0) rfl rfl)) rfl rfl hl.1 rfl (lv_room (Nat.le_of_ble_eq_true rfl)) dX11_order_18 ⟨Nat.le_of_ble_eq_true rfl, Nat.le_of_ble_eq_true rfl⟩) hS (fun q _ h => hFc q h) hFc (fun B55_3 t_ H1 locs ht hvm hw_ hB hz1 hk1 hS => ?_)
    obtain ⟨hP1, hD1⟩ := hB
    rw [ht] at hP1
    obtain ⟨hP, hD⟩ := va_join (wr := []) (w1 := [(y, .inr (11, [.int (nI ml), .int (nI mb), .int (nI mp), .int (nI mx), .int (nI mr), .int (nI mq), .ref (b2 6), .ref (b2 7), .ref (b2 8), .ref (b2 9), .ref (b2 10), .ref (b2 11), .ref (b2 12), .ref (b2 13), .ref (b2 14), .ref (b2 15), .ref (b2 16), .ref (b2 17), .ref (b2 18), .ref (b2 19), .ref (b2 20), .ref (b2 21), .ref (b2 22), .ref (b2 23), .ref (b2 24), .ref (b2 25), .ref (b2 26), .ref (b2 27), .ref (b2 28), .int gl, .int gh, .ref (b2 31), .ref (b2 32), .ref (b2 33), .ref (b2 34), .ref (b2 35), .ref (b2 36), .ref (b2 37), .ref (b2 38), .ref (b2 39), .ref (b2 40), .ref (b2 41), .ref (b2 42), .ref (b2 43), .ref (b2 44), .ref (b2 45), .ref (b2 46), .ref (b2 47), .int (nI mch), .int (nI mli), .ref (b2 50), .ref (b2 51), .int (nI mno), .ref (b2 53), .ref (b2 54), .ref (b2 55)])), ((b2 8), .inl (ca 0, 40, .inl A8)), ((b2 35), .inl (ca 0, 10, .inl A35)), ((b2 34), .inl (ca 0, 36, .inl A34)), ((b2 55), .inl (ca 0, 10240, .inl B55_3))]) hP hD [0, 1, 2, 3, 4] [] rfl rfl (by decide) (by decide) hk1 hFc hP1 hD1
    generalize H1 = H at hP hS ⊢
    have hP : va_P (dC, dI) vwCl [(y, .inr (11, [.int (nI ml), .int (nI mb), .int (nI mp), .int (nI mx), .int (nI mr), .int (nI mq), .ref (b2 6), .ref (b2 7), .ref (b2 8), .ref (b2 9), .ref (b2 10), .ref (b2 11), .ref (b2 12), .ref (b2 13), .ref (b2 14), .ref (b2 15), .ref (b2 16), .ref (b2 17), .ref (b2 18), .ref (b2 19), .ref (b2 20), .ref (b2 21), .ref (b2 22), .ref (b2 23), .ref (b2 24), .ref (b2 25), .ref (b2 26), .ref (b2 27), .ref (b2 28), .int gl, .int gh, .ref (b2 31), .ref (b2 32), .ref (b2 33), .ref (b2 34), .ref (b2 35), .ref (b2 36), .ref (b2 37), .ref (b2 38), .ref (b2 39), .ref (b2 40), .ref (b2 41), .ref (b2 42), .ref (b2 43), .ref (b2 44), .ref (b2 45), .ref (b2 46), .ref (b2 47), .int (nI mch), .int (nI mli), .ref (b2 50), .ref (b2 51), .int (nI mno), .ref (b2 53), .ref (b2 54), .ref (b2 55)])), ((b2 8), .inl (ca 0, 40, .inl A8)), ((b2 35), .inl (ca 0, 10, .inl A35)), ((b2 34), .inl (ca 0, 36, .inl A34)), ((b2 55), .inl (ca 0, 10240, .inl B55_3))] H := hP
    have hD : va_D A [(y, .inr (11, [.int (nI ml), .int (nI mb), .int (nI mp), .int (nI mx), .int (nI mr), .int (nI mq), .ref (b2 6), .ref (b2 7), .ref (b2 8), .ref (b2 9), .ref (b2 10), .ref (b2 11), .ref (b2 12), .ref (b2 13), .ref (b2 14), .ref (b2 15), .ref (b2 16), .ref (b2 17), .ref (b2 18), .ref (b2 19), .ref (b2 20), .ref (b2 21), .ref (b2 22), .ref (b2 23), .ref (b2 24), .ref (b2 25), .ref (b2 26), .ref (b2 27), .ref (b2 28), .int gl, .int gh, .ref (b2 31), .ref (b2 32), .ref (b2 33), .ref (b2 34), .ref (b2 35), .ref (b2 36), .ref (b2 37), .ref (b2 38), .ref (b2 39), .ref (b2 40), .ref (b2 41), .ref (b2 42), .ref (b2 43), .ref (b2 44), .ref (b2 45), .ref (b2 46), .ref (b2 47), .int (nI mch), .int (nI mli), .ref (b2 50), .ref (b2 51), .int (nI mno), .ref (b2 53), .ref (b2 54), .ref (b2 55)])), ((b2 8), .inl (ca 0, 40, .inl A8)), ((b2 35), .inl (ca 0, 10, .inl A35)), ((b2 34), .inl (ca 0, 36, .inl A34)), ((b2 55), .inl (ca 0, 10240, .inl B55_3))] := hD
    refine lv_iconst (v := 0) hx hb dX11_order_21 (by decide) ?_
    refine lv_istore_n (lv' := [(3, .int 0), (0, .ref y), (1, .int v1), (2, .int v2)]) hx hb dX11_order_22 rfl hl (by decide) rfl (fun ls hl => ?_)
    refine lv_iconst (v := (-1)) hx hb dX11_order_23 (by decide) ?_
    refine lv_istore (lv' := [(4, .int (-1)), (3, .int 0), (0, .ref y), (1, .int v1), (2, .int v2)]) hx hb dX11_order_24 hl (by decide) rfl (fun ls hl => ?_)
    refine lv_iconst (v := 0) hx hb dX11_order_26 (by decide) ?_
    refine lv_istore (lv' := [(5, .int 0), (4, .int (-1)), (3, .int 0), (0, .ref y), (1, .int v1), (2, .int v2)]) hx hb dX11_order_27 hl (by decide) rfl (fun ls hl => ?_)
    refine lv_iconst (v := 0) hx hb dX11_order_29 (by decide) ?_
    refine lv_istore (lv' := [(6, .int 0), (5, .int 0), (4, .int (-1)), (3, .int 0), (0, .ref y), (1, .int v1), (2, .int v2)]) hx hb dX11_order_30 hl (by decide) rfl (fun ls hl => ?_)
    refine wl_loop (fun (z_ : Nat × Nat × Int32 × Int32) H locs ls => (z_.1 ≤ mq ∧ z_.2.1 < 1024 ∧ (z_.2.2.1 = -1 ∨ cnt z_.2.2.1 9) ∧ tb_ct (fun k => z_.2.1.testBit k) mq = z_.1) ∧ va_P (dC, dI) vwCl [(y, .inr (11, [.int (nI ml), .int (nI mb), .int (nI mp), .int (nI mx), .int (nI mr), .int (nI mq), .ref (b2 6), .ref (b2 7), .ref (b2 8), .ref (b2 9), .ref (b2 10), .ref (b2 11), .ref (b2 12), .ref (b2 13), .ref (b2 14), .ref (b2 15), .ref (b2 16), .ref (b2 17), .ref (b2 18), .ref (b2 19), .ref (b2 20), .ref (b2 21), .ref (b2 22), .ref (b2 23), .ref (b2 24), .ref (b2 25), .ref (b2 26), .ref (b2 27), .ref (b2 28), .int gl, .int gh, .ref (b2 31), .ref (b2 32), .ref (b2 33), .ref (b2 34), .ref (b2 35), .ref (b2 36), .ref (b2 37), .ref (b2 38), .ref (b2 39), .ref (b2 40), .ref (b2 41), .ref (b2 42), .ref (b2 43), .ref (b2 44), .ref (b2 45), .ref (b2 46), .ref (b2 47), .int (nI mch), .int (nI mli), .ref (b2 50), .ref (b2 51), .int (nI mno), .ref (b2 53), .ref (b2 54), .ref (b2 55)])), ((b2 8), .inl (ca 0, 40, .inl A8)), ((b2 35), .inl (ca 0, 10, .inl A35)), ((b2 34), .inl (ca 0, 36, .inl A34)), ((b2 55), .inl (ca 0, 10240, .inl B55_3))] H ∧ va_D A [(y, .inr (11, [.int (nI ml), .int (nI mb), .int (nI mp), .int (nI mx), .int (nI mr), .int (nI mq), .ref (b2 6), .ref (b2 7), .ref (b2 8), .ref (b2 9), .ref (b2 10), .ref (b2 11), .ref (b2 12), .ref (b2 13), .ref (b2 14), .ref (b2 15), .ref (b2 16), .ref (b2 17), .ref (b2 18), .ref (b2 19), .ref (b2 20), .ref (b2 21), .ref (b2 22), .ref (b2 23), .ref (b2 24), .ref (b2 25), .ref (b2 26), .ref (b2 27), .ref (b2 28), .int gl, .int gh, .ref (b2 31), .ref (b2 32), .ref (b2 33), .ref (b2 34), .ref (b2 35), .ref (b2 36), .ref (b2 37), .ref (b2 38), .ref (b2 39), .ref (b2 40), .ref (b2 41), .ref (b2 42), .ref (b2 43), .ref (b2 44), .ref (b2 45), .ref (b2 46), .ref (b2 47), .int (nI mch), .int (nI mli), .ref (b2 50), .ref (b2 51), .int (nI mno), .ref (b2 53), .ref (b2 54), .ref (b2 55)])), ((b2 8), .inl (ca 0, 40, .inl A8)), ((b2 35), .inl (ca 0, 10, .inl A35)), ((b2 34), .inl (ca 0, 36, .inl A34)), ((b2 55), .inl (ca 0, 10240, .inl B55_3))] ∧ va_S A s.heap H locs ∧ lv_has ls 11 [(6, .int (nI z_.1)), (5, .int z_.2.2.2), (4, .int z_.2.2.1), (3, .int (nI z_.2.1)), (0, .ref y), (1, .int v1), (2, .int v2)]) (fun (z_ : Nat × Nat × Int32 × Int32) => mq - z_.1) (fun z_ H locs ls hI ih => ?_) (0, 0, (-1), 0) ⟨⟨Nat.zero_le _, by decide, Or.inl rfl, ct_0 _⟩, hP, hD, hS, lv_sub hl [0, 1, 2, 3, 4, 5, 6] rfl⟩
    obtain ⟨n, sx, lb, s5⟩ := z_
    dsimp only at hI ih
    obtain ⟨⟨hn, hsx, hlb, hct⟩, hP, hD, hS, hl⟩ := hI
    refine lv_iload hx hb dX11_order_32 (lv_at hl 0 rfl) ?_
    refine lv_aload_n hx hb dX11_order_34 rfl (lv_at hl 4 rfl) ?_
    refine va_get (D := (dC, dI)) (ci := 11) (v := .int (nI mq)) (C := RX11) (T := TX11) (N := 56) hx hb hts inX11 hown hK hP 0 rfl rfl 5 (by decide) (hts _ mw_885) (fun _ h9 => h9) rfl dX11_order_35 ?_
    refine lv_icmp_ge (tgt := 169) hx hb dX11_order_38 (by decide) (fun c_4 => ?_) (fun c_4 => ?_)
    · have nc_4 : mq ≤ n := (nI_leI (a := mq) (b := n) (by omega) (by omega)).mp c_4
      refine lv_iload hx hb dX11_order_169 (lv_at hl 1 rfl) ?_
      refine W.widen (k := 0) (n := 0) (Nat.le_of_ble_eq_true rfl) (Nat.le_of_ble_eq_true rfl) ?_
      have hP9 : va_P (dC, dI) vwCl [(y, .inr (11, [.int (nI ml), .int (nI mb), .int (nI mp), .int (nI mx), .int (nI mr), .int (nI mq), .ref (b2 6), .ref (b2 7), .ref (b2 8), .ref (b2 9), .ref (b2 10), .ref (b2 11), .ref (b2 12), .ref (b2 13), .ref (b2 14), .ref (b2 15), .ref (b2 16), .ref (b2 17), .ref (b2 18), .ref (b2 19), .ref (b2 20), .ref (b2 21), .ref (b2 22), .ref (b2 23), .ref (b2 24), .ref (b2 25), .ref (b2 26), .ref (b2 27), .ref (b2 28), .int gl, .int gh, .ref (b2 31), .ref (b2 32), .ref (b2 33), .ref (b2 34), .ref (b2 35), .ref (b2 36), .ref (b2 37), .ref (b2 38), .ref (b2 39), .ref (b2 40), .ref (b2 41), .ref (b2 42), .ref (b2 43), .ref (b2 44), .ref (b2 45), .ref (b2 46), .ref (b2 47), .int (nI mch), .int (nI mli), .ref (b2 50), .ref (b2 51), .int (nI mno), .ref (b2 53), .ref (b2 54), .ref (b2 55)])), ((b2 8), .inl (ca 0, 40, .inl A8)), ((b2 35), .inl (ca 0, 10, .inl A35)), ((b2 34), .inl (ca 0, 36, .inl A34)), ((b2 55), .inl (ca 0, 10240, .inl B55_3))] H := va_P.sub hP [0, 1, 2, 3, 4] rfl
      have hD9 : va_D A [(y, .inr (11, [.int (nI ml), .int (nI mb), .int (nI mp), .int (nI mx), .int (nI mr), .int (nI mq), .ref (b2 6), .ref (b2 7), .ref (b2 8), .ref (b2 9), .ref (b2 10), .ref (b2 11), .ref (b2 12), .ref (b2 13), .ref (b2 14), .ref (b2 15), .ref (b2 16), .ref (b2 17), .ref (b2 18), .ref (b2 19), .ref (b2 20), .ref (b2 21), .ref (b2 22), .ref (b2 23), .ref (b2 24), .ref (b2 25), .ref (b2 26), .ref (b2 27), .ref (b2 28), .int gl, .int gh, .ref (b2 31), .ref (b2 32), .ref (b2 33), .ref (b2 34), .ref (b2 35), .ref (b2 36), .ref (b2 37), .ref (b2 38), .ref (b2 39), .ref (b2 40), .ref (b2 41), .ref (b2 42), .ref (b2 43), .ref (b2 44), .ref (b2 45), .ref (b2 46), .ref (b2 47), .int (nI mch), .int (nI mli), .ref (b2 50), .ref (b2 51), .int (nI mno), .ref (b2 53), .ref (b2 54), .ref (b2 55)])), ((b2 8), .inl (ca 0, 40, .inl A8)), ((b2 35), .inl (ca 0, 10, .inl A35)), ((b2 34), .inl (ca 0, 36, .inl A34)), ((b2 55), .inl (ca 0, 10240, .inl B55_3))] := va_D.sub hD [0, 1, 2, 3, 4] (by decide) rfl
      exact W.iret (v := s5) hx hb hr (fun t ht hW => ⟨⟨s5, B55_3, rfl, trivial, by rw [ht]; exact hP9, hD9⟩, hS.F ht⟩) hS.2.2 dX11_order_171
    · have nc_4 : ¬ (mq ≤ n) := fun h9 => c_4 ((nI_leI (a := mq) (b := n) (by omega) (by omega)).mpr h9)
      refine lv_iconst (v := (-1)) hx hb dX11_order_41 (by decide) ?_
      refine lv_istore (lv' := [(7, .int (-1)), (6, .int (nI n)), (5, .int s5), (4, .int lb), (3, .int (nI sx)), (0, .ref y), (1, .int v1), (2, .int v2)]) hx hb dX11_order_42 hl (by decide) rfl (fun ls hl => ?_)
      refine lv_iconst (v := 0) hx hb dX11_order_44 (by decide) ?_
      refine lv_istore (lv' := [(8, .int 0), (7, .int (-1)), (6, .int (nI n)), (5, .int s5), (4, .int lb), (3, .int (nI sx)), (0, .ref y), (1, .int v1), (2, .int v2)]) hx hb dX11_order_45 hl (by decide) rfl (fun ls hl => ?_)
      refine lv_iconst (v := 0) hx hb dX11_order_47 (by decide) ?_
      refine lv_istore (lv' := [(9, .int 0), (8, .int 0), (7, .int (-1)), (6, .int (nI n)), (5, .int s5), (4, .int lb), (3, .int (nI sx)), (0, .ref y), (1, .int v1), (2, .int v2)]) hx hb dX11_order_48 hl (by decide) rfl (fun ls hl => ?_)
      refine wl_loop (fun (z_ : Nat × Int32 × Int32) H locs ls => (z_.1 ≤ mq ∧ ((z_.2.1 = -1 ∧ ∀ q, q < z_.1 → blk A8 A35 mq sx q) ∨ ∃ q : Nat, q < mq ∧ z_.2.1 = nI q ∧ sx.testBit q = false)) ∧ va_P (dC, dI) vwCl [(y, .inr (11, [.int (nI ml), .int (nI mb), .int (nI mp), .int (nI mx), .int (nI mr), .int (nI mq), .ref (b2 6), .ref (b2 7), .ref (b2 8), .ref (b2 9), .ref (b2 10), .ref (b2 11), .ref (b2 12), .ref (b2 13), .ref (b2 14), .ref (b2 15), .ref (b2 16), .ref (b2 17), .ref (b2 18), .ref (b2 19), .ref (b2 20), .ref (b2 21), .ref (b2 22), .ref (b2 23), .ref (b2 24), .ref (b2 25), .ref (b2 26), .ref (b2 27), .ref (b2 28), .int gl, .int gh, .ref (b2 31), .ref (b2 32), .ref (b2 33), .ref (b2 34), .ref (b2 35), .ref (b2 36), .ref (b2 37), .ref (b2 38), .ref (b2 39), .ref (b2 40), .ref (b2 41), .ref (b2 42), .ref (b2 43), .ref (b2 44), .ref (b2 45), .ref (b2 46), .ref (b2 47), .int (nI mch), .int (nI mli), .ref (b2 50), .ref (b2 51), .int (nI mno), .ref (b2 53), .ref (b2 54), .ref (b2 55)])), ((b2 8), .inl (ca 0, 40, .inl A8)), ((b2 35), .inl (ca 0, 10, .inl A35)), ((b2 34), .inl (ca 0, 36, .inl A34)), ((b2 55), .inl (ca 0, 10240, .inl B55_3))] H ∧ va_D A [(y, .inr (11, [.int (nI ml), .int (nI mb), .int (nI mp), .int (nI mx), .int (nI mr), .int (nI mq), .ref (b2 6), .ref (b2 7), .ref (b2 8), .ref (b2 9), .ref (b2 10), .ref (b2 11), .ref (b2 12), .ref (b2 13), .ref (b2 14), .ref (b2 15), .ref (b2 16), .ref (b2 17), .ref (b2 18), .ref (b2 19), .ref (b2 20), .ref (b2 21), .ref (b2 22), .ref (b2 23), .ref (b2 24), .ref (b2 25), .ref (b2 26), .ref (b2 27), .ref (b2 28), .int gl, .int gh, .ref (b2 31), .ref (b2 32), .ref (b2 33), .ref (b2 34), .ref (b2 35), .ref (b2 36), .ref (b2 37), .ref (b2 38), .ref (b2 39), .ref (b2 40), .ref (b2 41), .ref (b2 42), .ref (b2 43), .ref (b2 44), .ref (b2 45), .ref (b2 46), .ref (b2 47), .int (nI mch), .int (nI mli), .ref (b2 50), .ref (b2 51), .int (nI mno), .ref (b2 53), .ref (b2 54), .ref (b2 55)])), ((b2 8), .inl (ca 0, 40, .inl A8)), ((b2 35), .inl (ca 0, 10, .inl A35)), ((b2 34), .inl (ca 0, 36, .inl A34)), ((b2 55), .inl (ca 0, 10240, .inl B55_3))] ∧ va_S A s.heap H locs ∧ lv_has ls 11 [(9, .int (nI z_.1)), (8, .int z_.2.2), (7, .int z_.2.1), (6, .int (nI n)), (5, .int s5), (4, .int lb), (3, .int (nI sx)), (0, .ref y), (1, .int v1), (2, .int v2)]) (fun (z_ : Nat × Int32 × Int32) => mq - z_.1) (fun z_ H locs ls hI ih50 => ?_) (0, (-1), 0) ⟨⟨Nat.zero_le _, Or.inl ⟨rfl, fun q hq => absurd hq (Nat.not_lt_zero q)⟩⟩, hP, hD, hS, lv_sub hl [0, 1, 2, 3, 4, 5, 6, 7, 8, 9] rfl⟩
      obtain ⟨kx, be, le_⟩ := z_
      dsimp only at hI ih50
      obtain ⟨⟨hkx, hbe⟩, hP, hD, hS, hl⟩ := hI
      refine lv_iload hx hb dX11_order_50 (lv_at hl 0 rfl) ?_
      refine lv_aload_n hx hb dX11_order_52 rfl (lv_at hl 7 rfl) ?_
      refine va_get (D := (dC, dI)) (ci := 11) (v := .int (nI mq)) (C := RX11) (T := TX11) (N := 56) hx hb hts inX11 hown hK hP 0 rfl rfl 5 (by decide) (hts _ mw_885) (fun _ h9 => h9) rfl dX11_order_53 ?_
      refine lv_icmp_ge (tgt := 125) hx hb dX11_order_56 (by decide) (fun c_5 => ?_) (fun c_5 => ?_)
      · have nc_5 : mq ≤ kx := (nI_leI (a := mq) (b := kx) (by omega) (by omega)).mp c_5
        obtain ⟨bq, hbq, ebq, hbb⟩ : ∃ q : Nat, q < mq ∧ be = nI q ∧ sx.testBit q = false := hbe.resolve_left (fun h8 => blk_no (by rw [hct]; omega) (fun q hq => h8.2 q (by omega)))
        subst ebq
        refine lv_iload hx hb dX11_order_125 (lv_at hl 4 rfl) ?_
        refine lv_aload_n hx hb dX11_order_127 rfl (lv_at hl 7 rfl) ?_
        refine lv_iload hx hb dX11_order_128 (lv_at hl 5 rfl) ?_
        refine lv_iload hx hb dX11_order_130 (lv_at hl 2 rfl) ?_
        have hPc := hP.sub (ws' := [(y, .inr (11, [.int (nI ml), .int (nI mb), .int (nI mp), .int (nI mx), .int (nI mr), .int (nI mq), .ref (b2 6), .ref (b2 7), .ref (b2 8), .ref (b2 9), .ref (b2 10), .ref (b2 11), .ref (b2 12), .ref (b2 13), .ref (b2 14), .ref (b2 15), .ref (b2 16), .ref (b2 17), .ref (b2 18), .ref (b2 19), .ref (b2 20), .ref (b2 21), .ref (b2 22), .ref (b2 23), .ref (b2 24), .ref (b2 25), .ref (b2 26), .ref (b2 27), .ref (b2 28), .int gl, .int gh, .ref (b2 31), .ref (b2 32), .ref (b2 33), .ref (b2 34), .ref (b2 35), .ref (b2 36), .ref (b2 37), .ref (b2 38), .ref (b2 39), .ref (b2 40), .ref (b2 41), .ref (b2 42), .ref (b2 43), .ref (b2 44), .ref (b2 45), .ref (b2 46), .ref (b2 47), .int (nI mch), .int (nI mli), .ref (b2 50), .ref (b2 51), .int (nI mno), .ref (b2 53), .ref (b2 54), .ref (b2 55)])), ((b2 8), .inl (ca 0, 40, .inl A8)), ((b2 35), .inl (ca 0, 10, .inl A35)), ((b2 34), .inl (ca 0, 36, .inl A34))]) [0, 1, 2, 3] rfl
        refine pc_i (va_runV (As := [.int lb, .int (nI bq)]) (rest := [.int s5]) ⟨hx, hb, hml, hown, hts⟩ (m_minutes l dC dI ca y b2 ml mb mp mx mr mq gl gh mch mli mno A8 A35 A34 lb bq (by first | assumption | omega | exact ⟨_, by omega, rfl⟩) hlb (by omega) (by first | assumption | omega | exact ⟨_, by omega, rfl⟩) (by first | assumption | omega | exact ⟨_, by omega, rfl⟩)) (⟨callB_of 2 hts (gd mw_1280) rfl rfl rfl (hts _ mw_8) (hts _ mw_1277) ds_X11_minutes ⟨Nat.le_of_ble_eq_true rfl, Nat.le_of_ble_eq_true rfl⟩, (hts _ mw_1279), (hts _ mp_64)⟩) (pu_V hPc hK hE (va_recv hK hPc (ci := 11) (q0 := 0) rfl rfl)) rfl rfl hl.1 rfl (lv_room (Nat.le_of_ble_eq_true rfl)) dX11_order_132 ⟨Nat.le_of_ble_eq_true rfl, Nat.le_of_ble_eq_true rfl⟩) (fun rv_6 hw_ => ?_)
        have hw_6 := hw_
        refine lv_iadd hx hb dX11_order_135 ?_
        refine lv_istore (lv' := [(5, .int (s5 + rv_6)), (9, .int (nI kx)), (8, .int le_), (7, .int (nI bq)), (6, .int (nI n)), (4, .int lb), (3, .int (nI sx)), (0, .ref y), (1, .int v1), (2, .int v2)]) hx hb dX11_order_136 hl (by decide) rfl (fun ls hl => ?_)
        refine lv_iload_n hx hb dX11_order_138 rfl (lv_at hl 6 rfl) ?_
        refine lv_iconst (v := 1) hx hb dX11_order_139 (by decide) ?_
        refine lv_iload hx hb dX11_order_140 (lv_at hl 3 rfl) ?_
        refine lv_ishl hx hb dX11_order_142 ?_
        refine lv_topi (fun y_ e_ => ?_)
        obtain rfl : y_ = (nI (2 ^ bq)) := e_.trans (tb_sh (by omega))
        refine lv_ior hx hb dX11_order_143 ?_
        refine lv_topi (fun y_ e_ => ?_)
        obtain rfl : y_ = (nI (sx ||| (2 ^ bq))) := e_.trans (tb_or _ _)
        refine lv_istore_n (lv' := [(3, .int (nI (sx ||| (2 ^ bq)))), (5, .int (s5 + rv_6)), (9, .int (nI kx)), (8, .int le_), (7, .int (nI bq)), (6, .int (nI n)), (4, .int lb), (0, .ref y), (1, .int v1), (2, .int v2)]) hx hb dX11_order_144 rfl hl (by decide) rfl (fun ls hl => ?_)
        refine lv_iload hx hb dX11_order_145 (lv_at hl 4 rfl) ?_
        refine lv_istore (lv' := [(4, .int (nI bq)), (3, .int (nI (sx ||| (2 ^ bq)))), (5, .int (s5 + rv_6)), (9, .int (nI kx)), (8, .int le_), (7, .int (nI bq)), (6, .int (nI n)), (0, .ref y), (1, .int v1), (2, .int v2)]) hx hb dX11_order_147 hl (by decide) rfl (fun ls hl => ?_)
        refine lv_iload hx hb dX11_order_149 (lv_at hl 6 rfl) ?_
        refine lv_iload_n hx hb dX11_order_151 rfl (lv_at hl 9 rfl) ?_
        refine lv_icmp_ne (tgt := 163) hx hb dX11_order_152 (by decide) (fun c_7 => ?_) (fun c_7 => ?_)
        · refine lv_iinc (v := (nI (n + 1))) (lv' := [(6, .int (nI (n + 1))), (4, .int (nI bq)), (3, .int (nI (sx ||| (2 ^ bq)))), (5, .int (s5 + rv_6)), (9, .int (nI kx)), (8, .int le_), (7, .int (nI bq)), (0, .ref y), (1, .int v1), (2, .int v2)]) hx hb dX11_order_163 hl (k := 6) rfl (nI_add (n) 1) (by decide) rfl (fun ls hl => ?_)
          refine lv_goto (tgt := 32) hx hb dX11_order_166 (by decide) ?_
          exact ih (n + 1, sx ||| (2 ^ bq), (nI bq), (s5 + rv_6)) _ _ _ (by omega) ⟨⟨by first | omega | (dsimp only; omega), or_10 hsx (by first | omega | (dsimp only; omega)), Or.inr ⟨bq, by first | omega | (dsimp only; omega), rfl⟩, by rw [or_ct hbq hbb, hct]⟩, hP, hD, hS, lv_sub hl [0, 3, 1, 2, 7, 8, 9] rfl⟩
        · refine lv_aload_n hx hb dX11_order_155 rfl (lv_at hl 7 rfl) ?_
          refine va_get (D := (dC, dI)) (ci := 11) (v := .ref (b2 35)) (C := RX11) (T := TX11) (N := 56) hx hb hts inX11 hown hK hP 0 rfl rfl 35 (by decide) (hts _ mw_915) (fun _ h9 => h9) rfl dX11_order_156 ?_
          refine lv_iload hx hb dX11_order_159 (lv_at hl 5 rfl) ?_
          refine va_iald hx hb hK hP 2 0 rfl rfl (vp_in_nI (show bq < 10 by omega) (by first | decide | omega)) dX11_order_161 ?_
          refine lv_topi (fun y_ e_ => ?_)
          obtain rfl : y_ = (A35 bq) := e_.trans (congrArg A35 (show ((nI bq) : Int32).toNatClampNeg = bq from nI_clamp (by omega)))
          refine W.widen (k := 0) (n := 0) (Nat.le_of_ble_eq_true rfl) (Nat.le_of_ble_eq_true rfl) ?_
          have hP9 : va_P (dC, dI) vwCl [(y, .inr (11, [.int (nI ml), .int (nI mb), .int (nI mp), .int (nI mx), .int (nI mr), .int (nI mq), .ref (b2 6), .ref (b2 7), .ref (b2 8), .ref (b2 9), .ref (b2 10), .ref (b2 11), .ref (b2 12), .ref (b2 13), .ref (b2 14), .ref (b2 15), .ref (b2 16), .ref (b2 17), .ref (b2 18), .ref (b2 19), .ref (b2 20), .ref (b2 21), .ref (b2 22), .ref (b2 23), .ref (b2 24), .ref (b2 25), .ref (b2 26), .ref (b2 27), .ref (b2 28), .int gl, .int gh, .ref (b2 31), .ref (b2 32), .ref (b2 33), .ref (b2 34), .ref (b2 35), .ref (b2 36), .ref (b2 37), .ref (b2 38), .ref (b2 39), .ref (b2 40), .ref (b2 41), .ref (b2 42), .ref (b2 43), .ref (b2 44), .ref (b2 45), .ref (b2 46), .ref (b2 47), .int (nI mch), .int (nI mli), .ref (b2 50), .ref (b2 51), .int (nI mno), .ref (b2 53), .ref (b2 54), .ref (b2 55)])), ((b2 8), .inl (ca 0, 40, .inl A8)), ((b2 35), .inl (ca 0, 10, .inl A35)), ((b2 34), .inl (ca 0, 36, .inl A34)), ((b2 55), .inl (ca 0, 10240, .inl B55_3))] H := va_P.sub hP [0, 1, 2, 3, 4] rfl
          have hD9 : va_D A [(y, .inr (11, [.int (nI ml), .int (nI mb), .int (nI mp), .int (nI mx), .int (nI mr), .int (nI mq), .ref (b2 6), .ref (b2 7), .ref (b2 8), .ref (b2 9), .ref (b2 10), .ref (b2 11), .ref (b2 12), .ref (b2 13), .ref (b2 14), .ref (b2 15), .ref (b2 16), .ref (b2 17), .ref (b2 18), .ref (b2 19), .ref (b2 20), .ref (b2 21), .ref (b2 22), .ref (b2 23), .ref (b2 24), .ref (b2 25), .ref (b2 26), .ref (b2 27), .ref (b2 28), .int gl, .int gh, .ref (b2 31), .ref (b2 32), .ref (b2 33), .ref (b2 34), .ref (b2 35), .ref (b2 36), .ref (b2 37), .ref (b2 38), .ref (b2 39), .ref (b2 40), .ref (b2 41), .ref (b2 42), .ref (b2 43), .ref (b2 44), .ref (b2 45), .ref (b2 46), .ref (b2 47), .int (nI mch), .int (nI mli), .ref (b2 50), .ref (b2 51), .int (nI mno), .ref (b2 53), .ref (b2 54), .ref (b2 55)])), ((b2 8), .inl (ca 0, 40, .inl A8)), ((b2 35), .inl (ca 0, 10, .inl A35)), ((b2 34), .inl (ca 0, 36, .inl A34)), ((b2 55), .inl (ca 0, 10240, .inl B55_3))] := va_D.sub hD [0, 1, 2, 3, 4] (by decide) rfl
          exact W.iret (v := (A35 bq)) hx hb hr (fun t ht hW => ⟨⟨(A35 bq), B55_3, rfl, trivial, by rw [ht]; exact hP9, hD9⟩, hS.F ht⟩) hS.2.2 dX11_order_162
      · have nc_5 : ¬ (mq ≤ kx) := fun h9 => c_5 ((nI_leI (a := mq) (b := kx) (by omega) (by omega)).mpr h9)
        refine lv_aload_n hx hb dX11_order_59 rfl (lv_at hl 7 rfl) ?_
        refine lv_iload_n hx hb dX11_order_60 rfl (lv_at hl 6 rfl) ?_
        refine lv_iload hx hb dX11_order_61 (lv_at hl 0 rfl) ?_
        refine lv_iload_n hx hb dX11_order_63 rfl (lv_at hl 8 rfl) ?_
        have hPc := hP.sub (ws' := [(y, .inr (11, [.int (nI ml), .int (nI mb), .int (nI mp), .int (nI mx), .int (nI mr), .int (nI mq), .ref (b2 6), .ref (b2 7), .ref (b2 8), .ref (b2 9), .ref (b2 10), .ref (b2 11), .ref (b2 12), .ref (b2 13), .ref (b2 14), .ref (b2 15), .ref (b2 16), .ref (b2 17), .ref (b2 18), .ref (b2 19), .ref (b2 20), .ref (b2 21), .ref (b2 22), .ref (b2 23), .ref (b2 24), .ref (b2 25), .ref (b2 26), .ref (b2 27), .ref (b2 28), .int gl, .int gh, .ref (b2 31), .ref (b2 32), .ref (b2 33), .ref (b2 34), .ref (b2 35), .ref (b2 36), .ref (b2 37), .ref (b2 38), .ref (b2 39), .ref (b2 40), .ref (b2 41), .ref (b2 42), .ref (b2 43), .ref (b2 44), .ref (b2 45), .ref (b2 46), .ref (b2 47), .int (nI mch), .int (nI mli), .ref (b2 50), .ref (b2 51), .int (nI mno), .ref (b2 53), .ref (b2 54), .ref (b2 55)])), ((b2 8), .inl (ca 0, 40, .inl A8)), ((b2 35), .inl (ca 0, 10, .inl A35))]) [0, 1, 2] rfl
        refine pc_i (va_runV (As := [.int (nI sx), .int (nI kx), .int v1]) (rest := []) ⟨hx, hb, hml, hown, hts⟩ (m_mayCome l dC dI ca y b2 ml mb mp mx mr mq gl gh mch mli mno A8 A35 sx kx v1 (by first | assumption | omega | exact ⟨_, by omega, rfl⟩) (by first | assumption | omega | exact ⟨_, by omega, rfl⟩) (by first | assumption | omega | exact ⟨_, by omega, rfl⟩) (by first | assumption | omega | exact ⟨_, by omega, rfl⟩)) (⟨callB_of 3 hts (gd mw_1272) rfl rfl rfl (hts _ mw_8) (hts _ mw_1269) ds_X11_mayCome ⟨Nat.le_of_ble_eq_true rfl, Nat.le_of_ble_eq_true rfl⟩, (hts _ mw_1271), (hts _ mp_62)⟩) (pu_V hPc hK hE (va_recv hK hPc (ci := 11) (q0 := 0) rfl rfl)) rfl rfl hl.1 rfl (lv_room (Nat.le_of_ble_eq_true rfl)) dX11_order_64 ⟨Nat.le_of_ble_eq_true rfl, Nat.le_of_ble_eq_true rfl⟩) (fun rv_8 hw_ => ?_)
        have hw_8 := hw_
        refine lv_if_ne (tgt := 73) hx hb dX11_order_67 (by decide) (fun c_9 => ?_) (fun c_9 => ?_)
        · refine lv_aload_n hx hb dX11_order_73 rfl (lv_at hl 7 rfl) ?_
          refine lv_iload hx hb dX11_order_74 (lv_at hl 5 rfl) ?_
          refine lv_iload hx hb dX11_order_76 (lv_at hl 0 rfl) ?_
          have hPc := hP.sub (ws' := [(y, .inr (11, [.int (nI ml), .int (nI mb), .int (nI mp), .int (nI mx), .int (nI mr), .int (nI mq), .ref (b2 6), .ref (b2 7), .ref (b2 8), .ref (b2 9), .ref (b2 10), .ref (b2 11), .ref (b2 12), .ref (b2 13), .ref (b2 14), .ref (b2 15), .ref (b2 16), .ref (b2 17), .ref (b2 18), .ref (b2 19), .ref (b2 20), .ref (b2 21), .ref (b2 22), .ref (b2 23), .ref (b2 24), .ref (b2 25), .ref (b2 26), .ref (b2 27), .ref (b2 28), .int gl, .int gh, .ref (b2 31), .ref (b2 32), .ref (b2 33), .ref (b2 34), .ref (b2 35), .ref (b2 36), .ref (b2 37), .ref (b2 38), .ref (b2 39), .ref (b2 40), .ref (b2 41), .ref (b2 42), .ref (b2 43), .ref (b2 44), .ref (b2 45), .ref (b2 46), .ref (b2 47), .int (nI mch), .int (nI mli), .ref (b2 50), .ref (b2 51), .int (nI mno), .ref (b2 53), .ref (b2 54), .ref (b2 55)])), ((b2 8), .inl (ca 0, 40, .inl A8)), ((b2 35), .inl (ca 0, 10, .inl A35)), ((b2 34), .inl (ca 0, 36, .inl A34))]) [0, 1, 2, 3] rfl
          refine pc_i (va_runV (As := [.int lb, .int (nI kx)]) (rest := []) ⟨hx, hb, hml, hown, hts⟩ (m_minutes l dC dI ca y b2 ml mb mp mx mr mq gl gh mch mli mno A8 A35 A34 lb kx (by first | assumption | omega | exact ⟨_, by omega, rfl⟩) hlb (by omega) (by first | assumption | omega | exact ⟨_, by omega, rfl⟩) (by first | assumption | omega | exact ⟨_, by omega, rfl⟩)) (⟨callB_of 2 hts (gd mw_1280) rfl rfl rfl (hts _ mw_8) (hts _ mw_1277) ds_X11_minutes ⟨Nat.le_of_ble_eq_true rfl, Nat.le_of_ble_eq_true rfl⟩, (hts _ mw_1279), (hts _ mp_64)⟩) (pu_V hPc hK hE (va_recv hK hPc (ci := 11) (q0 := 0) rfl rfl)) rfl rfl hl.1 rfl (lv_room (Nat.le_of_ble_eq_true rfl)) dX11_order_78 ⟨Nat.le_of_ble_eq_true rfl, Nat.le_of_ble_eq_true rfl⟩) (fun rv_10 hw_ => ?_)
          have hw_10 := hw_
          refine lv_aload_n hx hb dX11_order_81 rfl (lv_at hl 7 rfl) ?_
          refine lv_iload_n hx hb dX11_order_82 rfl (lv_at hl 6 rfl) ?_
          refine lv_iconst (v := 1) hx hb dX11_order_83 (by decide) ?_
          refine lv_iload hx hb dX11_order_84 (lv_at hl 0 rfl) ?_
          refine lv_ishl hx hb dX11_order_86 ?_
          refine lv_topi (fun y_ e_ => ?_)
          obtain rfl : y_ = (nI (2 ^ kx)) := e_.trans (tb_sh (by omega))
          refine lv_ior hx hb dX11_order_87 ?_
          refine lv_topi (fun y_ e_ => ?_)
          obtain rfl : y_ = (nI (sx ||| (2 ^ kx))) := e_.trans (tb_or _ _)
          refine lv_iload hx hb dX11_order_88 (lv_at hl 0 rfl) ?_
          have hPc := hP.sub (ws' := [(y, .inr (11, [.int (nI ml), .int (nI mb), .int (nI mp), .int (nI mx), .int (nI mr), .int (nI mq), .ref (b2 6), .ref (b2 7), .ref (b2 8), .ref (b2 9), .ref (b2 10), .ref (b2 11), .ref (b2 12), .ref (b2 13), .ref (b2 14), .ref (b2 15), .ref (b2 16), .ref (b2 17), .ref (b2 18), .ref (b2 19), .ref (b2 20), .ref (b2 21), .ref (b2 22), .ref (b2 23), .ref (b2 24), .ref (b2 25), .ref (b2 26), .ref (b2 27), .ref (b2 28), .int gl, .int gh, .ref (b2 31), .ref (b2 32), .ref (b2 33), .ref (b2 34), .ref (b2 35), .ref (b2 36), .ref (b2 37), .ref (b2 38), .ref (b2 39), .ref (b2 40), .ref (b2 41), .ref (b2 42), .ref (b2 43), .ref (b2 44), .ref (b2 45), .ref (b2 46), .ref (b2 47), .int (nI mch), .int (nI mli), .ref (b2 50), .ref (b2 51), .int (nI mno), .ref (b2 53), .ref (b2 54), .ref (b2 55)])), ((b2 55), .inl (ca 0, 10240, .inl B55_3))]) [0, 4] rfl
          refine pc_i (va_runV (As := [.int (nI (sx ||| (2 ^ kx))), .int (nI kx)]) (rest := [.int rv_10]) ⟨hx, hb, hml, hown, hts⟩ (m_restOf l dC dI ca y b2 ml mb mp mx mr mq gl gh mch mli mno B55_3 (sx ||| (2 ^ kx)) kx (by first | assumption | omega | exact ⟨_, by omega, rfl⟩) (or_10 (by omega) (by omega)) (by first | assumption | omega | exact ⟨_, by omega, rfl⟩)) (⟨callB_of 2 hts (gd mw_1284) rfl rfl rfl (hts _ mw_8) (hts _ mw_1281) ds_X11_restOf ⟨Nat.le_of_ble_eq_true rfl, Nat.le_of_ble_eq_true rfl⟩, (hts _ mw_1283), (hts _ mp_65)⟩) (pu_V hPc hK hE (va_recv hK hPc (ci := 11) (q0 := 0) rfl rfl)) rfl rfl hl.1 rfl (lv_room (Nat.le_of_ble_eq_true rfl)) dX11_order_90 ⟨Nat.le_of_ble_eq_true rfl, Nat.le_of_ble_eq_true rfl⟩) (fun rv_11 hw_ => ?_)
          have hw_11 := hw_
          refine lv_iadd hx hb dX11_order_93 ?_
          refine lv_istore (lv' := [(10, .int (rv_10 + rv_11)), (9, .int (nI kx)), (8, .int le_), (7, .int be), (6, .int (nI n)), (5, .int s5), (4, .int lb), (3, .int (nI sx)), (0, .ref y), (1, .int v1), (2, .int v2)]) hx hb dX11_order_94 hl (by decide) rfl (fun ls hl => ?_)
          refine lv_iload hx hb dX11_order_96 (lv_at hl 3 rfl) ?_
          refine lv_if_lt (tgt := 111) hx hb dX11_order_98 (by decide) (fun c_12 => ?_) (fun c_12 => ?_)
          · refine lv_iload hx hb dX11_order_111 (lv_at hl 1 rfl) ?_
            refine lv_istore (lv' := [(7, .int (nI kx)), (10, .int (rv_10 + rv_11)), (9, .int (nI kx)), (8, .int le_), (6, .int (nI n)), (5, .int s5), (4, .int lb), (3, .int (nI sx)), (0, .ref y), (1, .int v1), (2, .int v2)]) hx hb dX11_order_113 hl (by decide) rfl (fun ls hl => ?_)
            refine lv_iload hx hb dX11_order_115 (lv_at hl 1 rfl) ?_
            refine lv_istore (lv' := [(8, .int (rv_10 + rv_11)), (7, .int (nI kx)), (10, .int (rv_10 + rv_11)), (9, .int (nI kx)), (6, .int (nI n)), (5, .int s5), (4, .int lb), (3, .int (nI sx)), (0, .ref y), (1, .int v1), (2, .int v2)]) hx hb dX11_order_117 hl (by decide) rfl (fun ls hl => ?_)
            refine lv_iinc (v := (nI (kx + 1))) (lv' := [(9, .int (nI (kx + 1))), (8, .int (rv_10 + rv_11)), (7, .int (nI kx)), (10, .int (rv_10 + rv_11)), (6, .int (nI n)), (5, .int s5), (4, .int lb), (3, .int (nI sx)), (0, .ref y), (1, .int v1), (2, .int v2)]) hx hb dX11_order_119 hl (k := 3) rfl (nI_add (kx) 1) (by decide) rfl (fun ls hl => ?_)
            refine lv_goto (tgt := 50) hx hb dX11_order_122 (by decide) ?_
            exact ih50 (kx + 1, (nI kx), (rv_10 + rv_11)) _ _ _ (by omega) ⟨⟨by first | omega | (dsimp only; omega), Or.inr ⟨kx, by first | omega | (dsimp only; omega), rfl, hw_8.2.2 (hw_8.1.resolve_left c_9)⟩⟩, hP, hD, hS, lv_sub hl [0, 1, 2, 4, 5, 6, 7, 8, 9, 10] rfl⟩
          · refine lv_iload hx hb dX11_order_101 (lv_at hl 0 rfl) ?_
            refine lv_iload hx hb dX11_order_103 (lv_at hl 2 rfl) ?_
            refine lv_icmp_lt (tgt := 111) hx hb dX11_order_105 (by decide) (fun c_13 => ?_) (fun c_13 => ?_)
            · refine lv_iload hx hb dX11_order_111 (lv_at hl 1 rfl) ?_
              refine lv_istore (lv' := [(7, .int (nI kx)), (10, .int (rv_10 + rv_11)), (9, .int (nI kx)), (8, .int le_), (6, .int (nI n)), (5, .int s5), (4, .int lb), (3, .int (nI sx)), (0, .ref y), (1, .int v1), (2, .int v2)]) hx hb dX11_order_113 hl (by decide) rfl (fun ls hl => ?_)
              refine lv_iload hx hb dX11_order_115 (lv_at hl 1 rfl) ?_
              refine lv_istore (lv' := [(8, .int (rv_10 + rv_11)), (7, .int (nI kx)), (10, .int (rv_10 + rv_11)), (9, .int (nI kx)), (6, .int (nI n)), (5, .int s5), (4, .int lb), (3, .int (nI sx)), (0, .ref y), (1, .int v1), (2, .int v2)]) hx hb dX11_order_117 hl (by decide) rfl (fun ls hl => ?_)
              refine lv_iinc (v := (nI (kx + 1))) (lv' := [(9, .int (nI (kx + 1))), (8, .int (rv_10 + rv_11)), (7, .int (nI kx)), (10, .int (rv_10 + rv_11)), (6, .int (nI n)), (5, .int s5), (4, .int lb), (3, .int (nI sx)), (0, .ref y), (1, .int v1), (2, .int v2)]) hx hb dX11_order_119 hl (k := 3) rfl (nI_add (kx) 1) (by decide) rfl (fun ls hl => ?_)
              refine lv_goto (tgt := 50) hx hb dX11_order_122 (by decide) ?_
              exact ih50 (kx + 1, (nI kx), (rv_10 + rv_11)) _ _ _ (by omega) ⟨⟨by first | omega | (dsimp only; omega), Or.inr ⟨kx, by first | omega | (dsimp only; omega), rfl, hw_8.2.2 (hw_8.1.resolve_left c_9)⟩⟩, hP, hD, hS, lv_sub hl [0, 1, 2, 4, 5, 6, 7, 8, 9, 10] rfl⟩
            · refine lv_goto (tgt := 119) hx hb dX11_order_108 (by decide) ?_
              refine lv_iinc (v := (nI (kx + 1))) (lv' := [(9, .int (nI (kx + 1))), (10, .int (rv_10 + rv_11)), (8, .int le_), (7, .int be), (6, .int (nI n)), (5, .int s5), (4, .int lb), (3, .int (nI sx)), (0, .ref y), (1, .int v1), (2, .int v2)]) hx hb dX11_order_119 hl (k := 1) rfl (nI_add (kx) 1) (by decide) rfl (fun ls hl => ?_)
              refine lv_goto (tgt := 50) hx hb dX11_order_122 (by decide) ?_
              exact ih50 (kx + 1, be, le_) _ _ _ (by omega) ⟨⟨by first | omega | (dsimp only; omega), Or.inr (hbe.resolve_left (fun h8 => c_12 (by rw [h8.1]; decide)))⟩, hP, hD, hS, lv_sub hl [0, 2, 3, 4, 5, 6, 7, 8, 9, 10] rfl⟩
        · refine lv_goto (tgt := 119) hx hb dX11_order_70 (by decide) ?_
          refine lv_iinc (v := (nI (kx + 1))) (lv' := [(9, .int (nI (kx + 1))), (8, .int le_), (7, .int be), (6, .int (nI n)), (5, .int s5), (4, .int lb), (3, .int (nI sx)), (0, .ref y), (1, .int v1), (2, .int v2)]) hx hb dX11_order_119 hl (k := 0) rfl (nI_add (kx) 1) (by decide) rfl (fun ls hl => ?_)
          refine lv_goto (tgt := 50) hx hb dX11_order_122 (by decide) ?_
          exact ih50 (kx + 1, be, le_) _ _ _ (by omega) ⟨⟨by first | omega | (dsimp only; omega), hbe.imp (fun h8 => ⟨h8.1, fun q hq => by by_cases e9 : q = kx; exact e9 ▸ (hw_8.2.1 c_9); exact h8.2 q (by first | omega | (dsimp only; omega))⟩) id⟩, hP, hD, hS, lv_sub hl [0, 1, 2, 3, 4, 5, 6, 7, 8, 9] rfl⟩
  · refine lv_iconst (v := (-1)) hx hb dX11_order_14 (by decide) ?_
    refine W.widen (k := 0) (n := 0) (Nat.le_of_ble_eq_true rfl) (Nat.le_of_ble_eq_true rfl) ?_
    have hP9 : va_P (dC, dI) vwCl [(y, .inr (11, [.int (nI ml), .int (nI mb), .int (nI mp), .int (nI mx), .int (nI mr), .int (nI mq), .ref (b2 6), .ref (b2 7), .ref (b2 8), .ref (b2 9), .ref (b2 10), .ref (b2 11), .ref (b2 12), .ref (b2 13), .ref (b2 14), .ref (b2 15), .ref (b2 16), .ref (b2 17), .ref (b2 18), .ref (b2 19), .ref (b2 20), .ref (b2 21), .ref (b2 22), .ref (b2 23), .ref (b2 24), .ref (b2 25), .ref (b2 26), .ref (b2 27), .ref (b2 28), .int gl, .int gh, .ref (b2 31), .ref (b2 32), .ref (b2 33), .ref (b2 34), .ref (b2 35), .ref (b2 36), .ref (b2 37), .ref (b2 38), .ref (b2 39), .ref (b2 40), .ref (b2 41), .ref (b2 42), .ref (b2 43), .ref (b2 44), .ref (b2 45), .ref (b2 46), .ref (b2 47), .int (nI mch), .int (nI mli), .ref (b2 50), .ref (b2 51), .int (nI mno), .ref (b2 53), .ref (b2 54), .ref (b2 55)])), ((b2 8), .inl (ca 0, 40, .inl A8)), ((b2 35), .inl (ca 0, 10, .inl A35)), ((b2 34), .inl (ca 0, 36, .inl A34)), ((b2 55), .inl (ca 0, 10240, .inl A55))] s.heap := va_P.sub hP [0, 1, 2, 3, 4] rfl
    have hD9 : va_D A [(y, .inr (11, [.int (nI ml), .int (nI mb), .int (nI mp), .int (nI mx), .int (nI mr), .int (nI mq), .ref (b2 6), .ref (b2 7), .ref (b2 8), .ref (b2 9), .ref (b2 10), .ref (b2 11), .ref (b2 12), .ref (b2 13), .ref (b2 14), .ref (b2 15), .ref (b2 16), .ref (b2 17), .ref (b2 18), .ref (b2 19), .ref (b2 20), .ref (b2 21), .ref (b2 22), .ref (b2 23), .ref (b2 24), .ref (b2 25), .ref (b2 26), .ref (b2 27), .ref (b2 28), .int gl, .int gh, .ref (b2 31), .ref (b2 32), .ref (b2 33), .ref (b2 34), .ref (b2 35), .ref (b2 36), .ref (b2 37), .ref (b2 38), .ref (b2 39), .ref (b2 40), .ref (b2 41), .ref (b2 42), .ref (b2 43), .ref (b2 44), .ref (b2 45), .ref (b2 46), .ref (b2 47), .int (nI mch), .int (nI mli), .ref (b2 50), .ref (b2 51), .int (nI mno), .ref (b2 53), .ref (b2 54), .ref (b2 55)])), ((b2 8), .inl (ca 0, 40, .inl A8)), ((b2 35), .inl (ca 0, 10, .inl A35)), ((b2 34), .inl (ca 0, 36, .inl A34)), ((b2 55), .inl (ca 0, 10240, .inl A55))] := va_D.sub hD [0, 1, 2, 3, 4] (by decide) rfl
    exact W.iret (v := (-1)) hx hb hr (fun t ht hW => ⟨⟨(-1), A55, rfl, trivial, by rw [ht]; exact hP9, hD9⟩, hS.F ht⟩) hS.2.2 dX11_order_15
