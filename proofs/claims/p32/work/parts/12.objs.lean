theorem mmin_code : Cond.code Lib.Math.min.name Lib.Math.min.code 2 (some .int) ∈ gT := gI 443 (by decide +kernel) rfl
theorem mmax_code : Cond.code Lib.Math.max.name Lib.Math.max.code 2 (some .int) ∈ gT := gI 389 (by decide +kernel) rfl
def flg (f : Nat → Int32) (v : Int32) (i : Nat) : Nat → Int32 := fun j => if j < i then v else f j
theorem flg_0 (f : Nat → Int32) (v : Int32) : flg f v 0 = f := funext fun j => by simp [flg]
theorem flg_s (f : Nat → Int32) (v : Int32) {i : Nat} : upd (flg f v i) i v = flg f v (i + 1) := by
  funext j
  unfold upd flg
  by_cases h1 : j = i
  · subst h1; simp
  · by_cases h2 : j < i
    · simp [h1, h2, Nat.lt_succ_of_lt h2]
    · have h3 : ¬ j < i + 1 := by omega
      simp [h1, h2, h3]
theorem cell_i2 {cA : ClassId} {n : Nat} {f g : Nat → Int32} (h : ∀ j, j < n → f j = g j) : vp_cell cA (n, .inl f) = vp_cell cA (n, .inl g) := by
  show arrV cA n (fun j => .int (f j)) = arrV cA n (fun j => .int (g j))
  unfold arrV
  congr 1
  exact congrArg Array.ofFn (funext fun j => congrArg Value.int (h j.val j.isLt))

set_option maxHeartbeats 4000000 in
set_option maxRecDepth 100000 in
theorem c_fill (l : Launch) (dC : Nat → ClassId) (dI : Nat → Nat → Nat) (ca : Nat → ClassId) (sz : Nat) (h : Nat) (n : Nat) (f : Nat → Int32) (v1 : Int32) (hn : n < 2 ^ 31) : Met l yJ7_fill_53178 (Cond.code yJ7_fill_53178 cJ7_fill_53178 4 none :: gT) ({ frames := 1, cells := 0, slots := 0, locals := 60 }) (va_Pc [.ref h, .int v1] (pr (dC, dI) sz [(h, .inl (ca 0, n, .inl f))] (aT ca))) (va_Qv (fun (u_ : Unit) => True) (fun (u_ : Unit) t => va_P (dC, dI) vwCl [(h, .inl (ca 0, n, .inl (flg f v1 n)))] t.heap ∧ va_D (va_A [(h, .inl (ca 0, n, .inl f))] sz) [(h, .inl (ca 0, n, .inl (flg f v1 n)))]) (va_A [(h, .inl (ca 0, n, .inl f))] sz)) 0 0 (va_A [(h, .inl (ca 0, n, .inl f))] sz) := by
  refine Met.ofW (cc := cJ7_fill_53178) (maxL := 4) (ret := none) (by decide) rfl ?_
  intro p e s m args below meth c s₁ B hml hv
  obtain ⟨rfl, hsz, hP, hK, hD0, hE⟩ := hv
  have hx := B.exec
  have hb := B.bytes
  have hr := B.returns
  have hts : ∀ w ∈ gT, w.before _ s = true := fun w h => atoms_spec (ws := Cond.code yJ7_fill_53178 cJ7_fill_53178 4 none :: gT) B.pre w (List.mem_cons_of_mem _ h)
  have hown : s.vm.findClass RJ7 = some m.cls := findClass_of_methodNamed B.named
  have hlocks := B.notSynchronized
  subst hsz
  have hD := hD0.self (sz := s.heap.size)
  generalize hAe : va_A [(h, .inl (ca 0, n, .inl f))] s.heap.size = A at hD ⊢
  have hA : ∀ q : Nat, s.heap.size ≤ q → A q := fun q h => by rw [← hAe]; exact Or.inr h
  have hS : va_S A s.heap s.heap [] := va_S.rf
  have hl := lv_entry ([.ref h, .int v1]) (n := 4) (Nat.le_of_ble_eq_true rfl)
  rw [lg_entry_eq]
  generalize (lg_sl ([.ref h, .int v1]) ++ List.replicate (4 - (lg_sl ([.ref h, .int v1])).length) Slot.unset).toArray = ls at hl ⊢
  have hl : lv_has ls 4 [(0, .ref h), (1, .int v1)] := hl
  refine lv_iconst (v := 0) hx hb dJ7_fill_53178_0 (by decide) ?_
  refine lv_istore_n (lv' := [(2, .int 0), (0, .ref h), (1, .int v1)]) hx hb dJ7_fill_53178_1 rfl hl (by decide) rfl (fun ls hl => ?_)
  refine lv_aload_n hx hb dJ7_fill_53178_2 rfl (lv_at hl 1 rfl) ?_
  refine va_alen (v := (nI n)) hx hb hK hP 0 0 rfl rfl rfl dJ7_fill_53178_3 ?_
  refine lv_istore_n (lv' := [(3, .int (nI n)), (2, .int 0), (0, .ref h), (1, .int v1)]) hx hb dJ7_fill_53178_4 rfl hl (by decide) rfl (fun ls hl => ?_)
  refine wl_loop (fun (z_ : Nat) H locs ls => (z_ ≤ n) ∧ va_P (dC, dI) vwCl [(h, .inl (ca 0, n, .inl (flg f v1 z_)))] H ∧ va_D A [(h, .inl (ca 0, n, .inl (flg f v1 z_)))] ∧ va_S A s.heap H locs ∧ lv_has ls 4 [(3, .int (nI n)), (2, .int (nI z_)), (0, .ref h), (1, .int v1)]) (fun (z_ : Nat) => n - z_) (fun z_ H locs ls hI ih => ?_) 0 ⟨(Nat.zero_le _), (by rw [flg_0]; exact hP), (by rw [flg_0]; exact hD), hS, lv_sub hl [0, 1, 2, 3] rfl⟩
  revert hI ih; revert z_; intro i hI ih
  obtain ⟨hi, hP, hD, hS, hl⟩ := hI
  refine lv_iload_n hx hb dJ7_fill_53178_5 rfl (lv_at hl 1 rfl) ?_
  refine lv_iload_n hx hb dJ7_fill_53178_6 rfl (lv_at hl 0 rfl) ?_
  refine lv_icmp_ge (tgt := 20) hx hb dJ7_fill_53178_7 (by decide) (fun c_1 => ?_) (fun c_1 => ?_)
  · have nc_1 : n ≤ i := (nI_leI (a := n) (b := i) (by omega) (by omega)).mp c_1
    have hie : i = n := (by omega)
    rw [hie] at hP hD
    obtain ⟨hP, hD⟩ := va_bo [(h, .inl (ca 0, n, .inl (flg f v1 n)))] hP hD
    refine W.widen (k := 0) (n := 0) (Nat.le_of_ble_eq_true rfl) (Nat.le_of_ble_eq_true rfl) ?_
    have hP9 : va_P (dC, dI) vwCl [(h, .inl (ca 0, n, .inl (flg f v1 n)))] H := va_P.sub hP [0] rfl
    have hD9 : va_D A [(h, .inl (ca 0, n, .inl (flg f v1 n)))] := va_D.sub hD [0] (by decide) rfl
    exact W.vret hx hb hr (fun t ht hW => ⟨⟨(), rfl, trivial, by rw [ht]; exact hP9, hD9⟩, hS.F ht⟩) hS.2.2 dJ7_fill_53178_20
  · have nc_1 : ¬ (n ≤ i) := fun h9 => c_1 ((nI_leI (a := n) (b := i) (by omega) (by omega)).mpr h9)
    refine lv_aload_n hx hb dJ7_fill_53178_10 rfl (lv_at hl 2 rfl) ?_
    refine lv_iload_n hx hb dJ7_fill_53178_11 rfl (lv_at hl 1 rfl) ?_
    refine lv_iload_n hx hb dJ7_fill_53178_12 rfl (lv_at hl 3 rfl) ?_
    refine va_iast hx hb hK hP hD hS 0 0 rfl rfl (vp_in_nI (show i < n by omega) (by first | decide | omega)) dJ7_fill_53178_13 (fun H locs hP hD hS => ?_)
    rw [(show ((nI i) : Int32).toNatClampNeg = i from nI_clamp (by omega))] at hP hD
    obtain ⟨hP, hD⟩ := va_bo [(h, .inl (ca 0, n, .inl (upd (flg f v1 i) i v1)))] hP hD
    refine lv_iinc (v := (nI (i + 1))) (lv' := [(2, .int (nI (i + 1))), (3, .int (nI n)), (0, .ref h), (1, .int v1)]) hx hb dJ7_fill_53178_14 hl (k := 1) rfl (nI_add (i) 1) (by decide) rfl (fun ls hl => ?_)
    refine lv_goto (tgt := 5) hx hb dJ7_fill_53178_17 (by decide) ?_
    have hfs := flg_s f v1 (i := i)
    rw [hfs] at hP hD
    exact ih (i + 1) _ _ _ (by omega) ⟨(by omega), hP, hD, hS, lv_sub hl [1, 0, 2, 3] rfl⟩


theorem cnt_vp {v : Int32} {N M : Nat} (h : cnt v N) (hN : N < M) (hM : M < 2 ^ 31) : vp_in v M := by
  obtain ⟨n, hn, rfl⟩ := h
  exact vp_in_nI (by omega) hM
theorem wi_vc {dv v : Int32} {N : Nat} (h : cnt dv N) (hN : N < 2 ^ 31) (hw : ¬ wi v 0 (dv - 1) = 0) : vp_in v N := by
  obtain ⟨n, hn, rfl⟩ := h
  exact wi_vpn hn hN hw
theorem nI_dec {n : Nat} (h : 0 < n) : nI n + (-1) = nI (n - 1) := by
  obtain ⟨k, rfl⟩ : ∃ k, n = k + 1 := ⟨n - 1, by omega⟩
  rw [pk_m1, Nat.add_sub_cancel]
def isN (dv : Int32) (FB : Nat → Int32) (v : Int32) : Int32 := if wi v 0 (dv - 1) = 0 then 0 else if 2139095040 < (FB v.toNatClampNeg &&& 2147483647) then 0 else 1
def dgA (dv : Int32) (FB : Nat → Int32) (v : Int32) : Int32 := if wi v 0 (dv - 1) = 0 then 0 else tf (FB v.toNatClampNeg)
def stA (sv : Int32) (SB : Nat → Int32) (v : Int32) : Int32 := if wi v 0 (sv - 1) = 0 then 0 else if SB v.toNatClampNeg = 0 then 0 else 1
theorem isN_z (dv : Int32) (FB : Nat → Int32) (v : Int32) : isN dv FB v = 0 ∨ isN dv FB v = 1 := by
  unfold isN
  split
  · exact Or.inl rfl
  · split
    · exact Or.inl rfl
    · exact Or.inr rfl
/-- where the greatest degree stands first: fuel, tick, where, how much -/
def ftG (nu dg : Nat → Int32) : Nat → Nat → Int32 → Int32 → Int32
  | 0, _, t, _ => t
  | k + 1, i, t, h => if nu i = 0 then ftG nu dg k (i + 1) t h else if t = -1 then ftG nu dg k (i + 1) (nI i) (dg i) else if dg i ≤ h then ftG nu dg k (i + 1) t h else ftG nu dg k (i + 1) (nI i) (dg i)
/-- the first tick that grains -/
def fgG (yes : Nat → Bool) : Nat → Nat → Int32
  | 0, _ => -1
  | k + 1, i => if yes i then nI i else fgG yes k (i + 1)
/-- the loss by the table: fuel, row, loss so far -/
def lsG (fd lt : Nat → Int32) (top : Int32) : Nat → Nat → Int32 → Int32
  | 0, _, c => c
  | k + 1, i, c => if fd i ≤ top then lsG fd lt top k (i + 1) (lt i) else c
def nuF (dv : Int32) (FB : Nat → Int32) : Nat → Int32 := fun i => isN dv FB (nI i)
def dgF (dv : Int32) (FB : Nat → Int32) : Nat → Int32 := fun i => dgA dv FB (nI i)
def yesF (dv : Int32) (FB : Nat → Int32) (sv : Int32) (SB : Nat → Int32) (gl gh : Int32) : Nat → Bool := fun i => decide (¬ stA sv SB (nI i) = 0 ∧ ¬ isN dv FB (nI i) = 0 ∧ ¬ wi (dgA dv FB (nI i)) gl gh = 0)
theorem ftG_0 {nu dg : Nat → Int32} {k i : Nat} {t h : Int32} (h1 : nu i = 0) (hk : 0 < k) : ftG nu dg k i t h = ftG nu dg (k - 1) (i + 1) t h := by
  obtain ⟨k, rfl⟩ : ∃ q, k = q + 1 := ⟨k - 1, by omega⟩
  rw [ftG, if_pos h1, Nat.add_sub_cancel]
theorem ftG_1 {nu dg : Nat → Int32} {k i : Nat} {t h : Int32} (h1 : ¬ nu i = 0) (h2 : t = -1 ∨ ¬ dg i ≤ h) (hk : 0 < k) : ftG nu dg k i t h = ftG nu dg (k - 1) (i + 1) (nI i) (dg i) := by
  obtain ⟨k, rfl⟩ : ∃ q, k = q + 1 := ⟨k - 1, by omega⟩
  rw [ftG, if_neg h1, Nat.add_sub_cancel]
  by_cases h3 : t = -1
  · rw [if_pos h3]
  · rw [if_neg h3, if_neg (h2.resolve_left h3)]
theorem ftG_2 {nu dg : Nat → Int32} {k i : Nat} {t h : Int32} (h1 : ¬ nu i = 0) (h2 : ¬ t = -1) (h3 : dg i ≤ h) (hk : 0 < k) : ftG nu dg k i t h = ftG nu dg (k - 1) (i + 1) t h := by
  obtain ⟨k, rfl⟩ : ∃ q, k = q + 1 := ⟨k - 1, by omega⟩
  rw [ftG, if_neg h1, if_neg h2, if_pos h3, Nat.add_sub_cancel]
theorem fgG_n {yes : Nat → Bool} {k i : Nat} (h1 : yes i = false) (hk : 0 < k) : fgG yes k i = fgG yes (k - 1) (i + 1) := by
  obtain ⟨k, rfl⟩ : ∃ q, k = q + 1 := ⟨k - 1, by omega⟩
  rw [fgG, h1]
  simp
theorem fgG_y {yes : Nat → Bool} {k i : Nat} (h1 : yes i = true) (hk : 0 < k) : fgG yes k i = nI i := by
  obtain ⟨k, rfl⟩ : ∃ q, k = q + 1 := ⟨k - 1, by omega⟩
  rw [fgG, h1]
  simp
theorem lsG_y {fd lt : Nat → Int32} {top c : Int32} {k i : Nat} (h1 : fd i ≤ top) (hk : 0 < k) : lsG fd lt top k i c = lsG fd lt top (k - 1) (i + 1) (lt i) := by
  obtain ⟨k, rfl⟩ : ∃ q, k = q + 1 := ⟨k - 1, by omega⟩
  rw [lsG, if_pos h1, Nat.add_sub_cancel]
theorem lsG_n {fd lt : Nat → Int32} {top c : Int32} {k i : Nat} (h1 : ¬ fd i ≤ top) (hk : 0 < k) : lsG fd lt top k i c = c := by
  obtain ⟨k, rfl⟩ : ∃ q, k = q + 1 := ⟨k - 1, by omega⟩
  rw [lsG, if_neg h1]
theorem ftG_in {nu dg : Nat → Int32} : ∀ (k i : Nat) (t h : Int32), (t = -1 ∨ ∃ q, q < i ∧ t = nI q) → ftG nu dg k i t h = -1 ∨ ∃ q, q < i + k ∧ ftG nu dg k i t h = nI q
  | 0, i, t, h, ht => by rcases ht with h1 | ⟨q, hq, h1⟩; exact Or.inl h1; exact Or.inr ⟨q, hq, h1⟩
  | k + 1, i, t, h, ht => by
    have up : ∀ (t' h' : Int32), (t' = -1 ∨ ∃ q, q < i + 1 ∧ t' = nI q) → ftG nu dg k (i + 1) t' h' = -1 ∨ ∃ q, q < i + (k + 1) ∧ ftG nu dg k (i + 1) t' h' = nI q := fun t' h' h1 => by
      have := ftG_in (nu := nu) (dg := dg) k (i + 1) t' h' h1
      rw [show i + 1 + k = i + (k + 1) by omega] at this
      exact this
    have h0 : t = -1 ∨ ∃ q, q < i + 1 ∧ t = nI q := ht.imp id (fun ⟨q, a, b⟩ => ⟨q, by omega, b⟩)
    have h1 : nI i = -1 ∨ ∃ q, q < i + 1 ∧ nI i = nI q := Or.inr ⟨i, by omega, rfl⟩
    rw [ftG]
    split
    · exact up _ _ h0
    · split
      · exact up _ _ h1
      · split
        · exact up _ _ h0
        · exact up _ _ h1

set_option maxHeartbeats 4000000 in
set_option maxRecDepth 100000 in
theorem c_Rows (l : Launch) (dC : Nat → ClassId) (dI : Nat → Nat → Nat) (ca : Nat → ClassId) (sz : Nat) (h : Nat) : Met l yX7_init (Cond.code yX7_init cX7_init 1 none :: gT) ({ frames := 1, cells := 2, slots := 120, locals := 60 }) (va_Pc [.ref h] (pr (dC, dI) sz [(h, .inr (7, [.null, .null, .int 0, .int 0]))] (aT ca))) (va_Qv (fun (u_ : Nat × Nat) => True) (fun (u_ : Nat × Nat) t => va_P (dC, dI) vwCl [(h, .inr (7, [.ref u_.1, .ref u_.2, .int 0, .int 0])), (u_.1, .inl (ca 0, 60, .inl (fun _ => 0))), (u_.2, .inl (ca 1, 60, .inl (fun _ => 0)))] t.heap ∧ va_D (va_A [(h, .inr (7, [.null, .null, .int 0, .int 0]))] sz) [(h, .inr (7, [.ref u_.1, .ref u_.2, .int 0, .int 0])), (u_.1, .inl (ca 0, 60, .inl (fun _ => 0))), (u_.2, .inl (ca 1, 60, .inl (fun _ => 0)))]) (va_A [(h, .inr (7, [.null, .null, .int 0, .int 0]))] sz)) 2 120 (va_A [(h, .inr (7, [.null, .null, .int 0, .int 0]))] sz) := by
  refine Met.ofW (cc := cX7_init) (maxL := 1) (ret := none) (by decide) rfl ?_
  intro p e s m args below meth c s₁ B hml hv
  obtain ⟨rfl, hsz, hP, hK, hD0, hE⟩ := hv
  have hx := B.exec
  have hb := B.bytes
  have hr := B.returns
  have hts : ∀ w ∈ gT, w.before _ s = true := fun w h => atoms_spec (ws := Cond.code yX7_init cX7_init 1 none :: gT) B.pre w (List.mem_cons_of_mem _ h)
  have hown : s.vm.findClass RX7 = some m.cls := findClass_of_methodNamed B.named
  have hlocks := B.notSynchronized
  have hin : meth.name = "<init>" := (name_of_methodNamed B.named B.method).1
  subst hsz
  have hD := hD0.self (sz := s.heap.size)
  generalize hAe : va_A [(h, .inr (7, [.null, .null, .int 0, .int 0]))] s.heap.size = A at hD ⊢
  have hA : ∀ q : Nat, s.heap.size ≤ q → A q := fun q h => by rw [← hAe]; exact Or.inr h
  have hS : va_S A s.heap s.heap [] := va_S.rf
  have hl := lv_entry ([.ref h]) (n := 1) (Nat.le_of_ble_eq_true rfl)
  rw [lg_entry_eq]
  generalize (lg_sl ([.ref h]) ++ List.replicate (1 - (lg_sl ([.ref h])).length) Slot.unset).toArray = ls at hl ⊢
  have hl : lv_has ls 1 [(0, .ref h)] := hl
  refine lv_aload_n hx hb dX7_init_0 rfl (lv_at hl 0 rfl) ?_
  refine W.objInit hx hb hown (hts _ mw_286) (hts _ mw_24) (hts _ mw_25) rfl (by rw [hml]; exact hl.1) rfl dX7_init_1 (Nat.le_of_ble_eq_true rfl) (Nat.le_of_ble_eq_true rfl) ?_
  refine W.eq (g2 := F0 m 4 ls []) rfl ?_
  refine lv_aload_n hx hb dX7_init_4 rfl (lv_at hl 0 rfl) ?_
  refine lv_bipush (v := 60) hx hb dX7_init_5 (by decide) ?_
  refine va_newa (atype := .int) (ty := .int) (a0 := (60, .inl (fun _ => 0))) hx hb (hts _ mw_72) rfl hK hP hD hS hA (fun _ => rfl) (by decide) (by decide +kernel) (by decide) (Nat.le_of_ble_eq_true rfl) (Nat.le_of_ble_eq_true rfl) dX7_init_7 (fun q1 y1 H hK9 hP hD hS => ?_)
  obtain rfl : y1 = ca 0 := ca_eq hK9 (tys := aT ca) 0 rfl
  refine W.widen (k := 1) (n := 60) (Nat.le_of_ble_eq_true rfl) (Nat.le_of_ble_eq_true rfl) ?_
  obtain ⟨hP, hD⟩ := va_bo [(h, .inr (7, [.null, .null, .int 0, .int 0])), (q1, .inl (ca 0, 60, .inl (fun _ => 0)))] hP hD
  refine va_putF (D := (dC, dI)) (ci := 7) (v := .ref q1) (ty := .array .int) (C := RX7) (T := TX7) (N := 4) hx hb hts inX7 tyX7 tyX7_ok nmX7 hown hK hP hD hS 0 rfl rfl 0 (by decide) (hts _ mw_287) (fun _ h9 => h9) rfl hin rfl (by decide +kernel) rfl rfl (Nat.le_of_ble_eq_true rfl) dX7_init_9 (fun H locs hP hD hS => ?_)
  obtain ⟨hP, hD⟩ := va_bo [(h, .inr (7, [.ref q1, .null, .int 0, .int 0])), (q1, .inl (ca 0, 60, .inl (fun _ => 0)))] hP hD
  refine lv_aload_n hx hb dX7_init_12 rfl (lv_at hl 0 rfl) ?_
  refine lv_bipush (v := 60) hx hb dX7_init_13 (by decide) ?_
  refine va_newa (atype := .boolean) (ty := .boolean) (a0 := (60, .inl (fun _ => 0))) hx hb (hts _ mw_147) rfl hK hP hD hS hA (fun _ => rfl) (by decide) (by decide +kernel) (by decide) (Nat.le_of_ble_eq_true rfl) (Nat.le_of_ble_eq_true rfl) dX7_init_15 (fun q2 y2 H hK9 hP hD hS => ?_)
  obtain rfl : y2 = ca 1 := ca_eq hK9 (tys := aT ca) 1 rfl
  refine W.widen (k := 2) (n := 120) (Nat.le_of_ble_eq_true rfl) (Nat.le_of_ble_eq_true rfl) ?_
  obtain ⟨hP, hD⟩ := va_bo [(h, .inr (7, [.ref q1, .null, .int 0, .int 0])), (q1, .inl (ca 0, 60, .inl (fun _ => 0))), (q2, .inl (ca 1, 60, .inl (fun _ => 0)))] hP hD
  refine va_putF (D := (dC, dI)) (ci := 7) (v := .ref q2) (ty := .array .boolean) (C := RX7) (T := TX7) (N := 4) hx hb hts inX7 tyX7 tyX7_ok nmX7 hown hK hP hD hS 0 rfl rfl 1 (by decide) (hts _ mw_289) (fun _ h9 => h9) rfl hin rfl (by decide +kernel) rfl rfl (Nat.le_of_ble_eq_true rfl) dX7_init_17 (fun H locs hP hD hS => ?_)
  obtain ⟨hP, hD⟩ := va_bo [(h, .inr (7, [.ref q1, .ref q2, .int 0, .int 0])), (q1, .inl (ca 0, 60, .inl (fun _ => 0))), (q2, .inl (ca 1, 60, .inl (fun _ => 0)))] hP hD
  refine W.widen (k := 2) (n := 120) (Nat.le_of_ble_eq_true rfl) (Nat.le_of_ble_eq_true rfl) ?_
  have hP9 : va_P (dC, dI) vwCl [(h, .inr (7, [.ref q1, .ref q2, .int 0, .int 0])), (q1, .inl (ca 0, 60, .inl (fun _ => 0))), (q2, .inl (ca 1, 60, .inl (fun _ => 0)))] H := va_P.sub hP [0, 1, 2] rfl
  have hD9 : va_D A [(h, .inr (7, [.ref q1, .ref q2, .int 0, .int 0])), (q1, .inl (ca 0, 60, .inl (fun _ => 0))), (q2, .inl (ca 1, 60, .inl (fun _ => 0)))] := va_D.sub hD [0, 1, 2] (by decide) rfl
  exact W.vret hx hb hr (fun t ht hW => ⟨⟨(q1, q2), rfl, trivial, by rw [ht]; dsimp only; exact hP9, by dsimp only; exact hD9⟩, hS.F ht⟩) hS.2.2 dX7_init_20

set_option maxHeartbeats 4000000 in
set_option maxRecDepth 100000 in
theorem r_renewDegrees (l : Launch) (dC : Nat → ClassId) (dI : Nat → Nat → Nat) (ca : Nat → ClassId) (sz : Nat) (ro : Nat) (ra : Nat) (rs : Nat) (dv : Int32) (sv : Int32) (FB : Nat → Int32) (SB : Nat → Int32) (v1 : Int32) : Met l yX7_renewDegrees (Cond.code yX7_renewDegrees cX7_renewDegrees 2 none :: gT) ({ frames := 2, cells := 0, slots := 0, locals := 83 }) (va_Pc [.ref ro, .int v1] (pr (dC, dI) sz [(ro, .inr (7, [.ref ra, .ref rs, .int dv, .int sv])), (ra, .inl (ca 0, 60, .inl FB)), (rs, .inl (ca 1, 60, .inl SB))] (aT ca))) (va_Qv (fun (u_ : Unit) => True) (fun (u_ : Unit) t => va_P (dC, dI) vwCl [(ro, .inr (7, [.ref ra, .ref rs, .int v1, .int sv])), (ra, .inl (ca 0, 60, .inl (flg FB 0 60))), (rs, .inl (ca 1, 60, .inl SB))] t.heap ∧ va_D (va_A [(ro, .inr (7, [.ref ra, .ref rs, .int dv, .int sv])), (ra, .inl (ca 0, 60, .inl FB)), (rs, .inl (ca 1, 60, .inl SB))] sz) [(ro, .inr (7, [.ref ra, .ref rs, .int v1, .int sv])), (ra, .inl (ca 0, 60, .inl (flg FB 0 60))), (rs, .inl (ca 1, 60, .inl SB))]) (va_A [(ro, .inr (7, [.ref ra, .ref rs, .int dv, .int sv])), (ra, .inl (ca 0, 60, .inl FB)), (rs, .inl (ca 1, 60, .inl SB))] sz)) 0 0 (va_A [(ro, .inr (7, [.ref ra, .ref rs, .int dv, .int sv])), (ra, .inl (ca 0, 60, .inl FB)), (rs, .inl (ca 1, 60, .inl SB))] sz) := by
  refine Met.ofW (cc := cX7_renewDegrees) (maxL := 2) (ret := none) (by decide) rfl ?_
  intro p e s m args below meth c s₁ B hml hv
  obtain ⟨rfl, hsz, hP, hK, hD0, hE⟩ := hv
  have hx := B.exec
  have hb := B.bytes
  have hr := B.returns
  have hts : ∀ w ∈ gT, w.before _ s = true := fun w h => atoms_spec (ws := Cond.code yX7_renewDegrees cX7_renewDegrees 2 none :: gT) B.pre w (List.mem_cons_of_mem _ h)
  have hown : s.vm.findClass RX7 = some m.cls := findClass_of_methodNamed B.named
  have hlocks := B.notSynchronized
  subst hsz
  have hD := hD0.self (sz := s.heap.size)
  generalize hAe : va_A [(ro, .inr (7, [.ref ra, .ref rs, .int dv, .int sv])), (ra, .inl (ca 0, 60, .inl FB)), (rs, .inl (ca 1, 60, .inl SB))] s.heap.size = A at hD ⊢
  have hA : ∀ q : Nat, s.heap.size ≤ q → A q := fun q h => by rw [← hAe]; exact Or.inr h
  have hS : va_S A s.heap s.heap [] := va_S.rf
  have hl := lv_entry ([.ref ro, .int v1]) (n := 2) (Nat.le_of_ble_eq_true rfl)
  rw [lg_entry_eq]
  generalize (lg_sl ([.ref ro, .int v1]) ++ List.replicate (2 - (lg_sl ([.ref ro, .int v1])).length) Slot.unset).toArray = ls at hl ⊢
  have hl : lv_has ls 2 [(0, .ref ro), (1, .int v1)] := hl
  refine lv_aload_n hx hb dX7_renewDegrees_0 rfl (lv_at hl 0 rfl) ?_
  refine lv_iload_n hx hb dX7_renewDegrees_1 rfl (lv_at hl 1 rfl) ?_
  refine va_put (D := (dC, dI)) (ci := 7) (v := .int v1) (ty := .int) (C := RX7) (T := TX7) (N := 4) hx hb hts inX7 tyX7 tyX7_ok nmX7 hown hK hP hD hS 0 rfl rfl 2 (by decide) (hts _ mw_291) (fun _ h9 => h9) rfl (by decide +kernel) rfl rfl (Nat.le_of_ble_eq_true rfl) dX7_renewDegrees_2 (fun H locs hP hD hS => ?_)
  obtain ⟨hP, hD⟩ := va_bo [(ro, .inr (7, [.ref ra, .ref rs, .int v1, .int sv])), (ra, .inl (ca 0, 60, .inl FB)), (rs, .inl (ca 1, 60, .inl SB))] hP hD
  refine lv_aload_n hx hb dX7_renewDegrees_5 rfl (lv_at hl 0 rfl) ?_
  refine va_get (D := (dC, dI)) (ci := 7) (v := .ref ra) (C := RX7) (T := TX7) (N := 4) hx hb hts inX7 hown hK hP 0 rfl rfl 0 (by decide) (hts _ mw_287) (fun _ h9 => h9) rfl dX7_renewDegrees_6 ?_
  refine lv_iconst (v := 0) hx hb dX7_renewDegrees_9 (by decide) ?_
  have hPc := hP.sub (ws' := [(ra, .inl (ca 0, 60, .inl FB))]) [1] rfl
  have hDc := hD.sub (ws' := [(ra, .inl (ca 0, 60, .inl FB))]) [1] (by decide) rfl
  have hFc := va_free (wc := [(ra, .inl (ca 0, 60, .inl FB))]) hD hS hA [1] rfl
  refine va_callv (va_runS (As := [.ref ra, .int 0]) (rest := []) ⟨hx, hb, hml, hown, hts⟩ (c_fill l dC dI ca H.size ra 60 FB 0 (by first | decide | omega)) (⟨callB_of 2 hts (gd mw_42) rfl rfl rfl (hts _ mw_3) (hts _ mw_394) ds_J7_fill_53178 ⟨Nat.le_of_ble_eq_true rfl, Nat.le_of_ble_eq_true rfl⟩, (hts _ mw_41)⟩) (pr_S hPc hK hDc hE) rfl rfl hl.1 rfl (lv_room (Nat.le_of_ble_eq_true rfl)) dX7_renewDegrees_10 ⟨Nat.le_of_ble_eq_true rfl, Nat.le_of_ble_eq_true rfl⟩) hS (fun q _ h => hFc q h) hFc (fun u_ t_ H1 locs ht hvm hw_ hB hz1 hk1 hS => ?_)
  obtain ⟨hP1, hD1⟩ := hB
  rw [ht] at hP1
  obtain ⟨hP, hD⟩ := va_join (wr := [(ro, .inr (7, [.ref ra, .ref rs, .int v1, .int sv])), (rs, .inl (ca 1, 60, .inl SB))]) (w1 := [(ra, .inl (ca 0, 60, .inl (flg FB 0 60)))]) hP hD [1] [0, 2] rfl rfl (by decide) (by decide) hk1 hFc hP1 hD1
  generalize H1 = H at hP hS ⊢
  obtain ⟨hP, hD⟩ := va_bo [(ro, .inr (7, [.ref ra, .ref rs, .int v1, .int sv])), (rs, .inl (ca 1, 60, .inl SB)), (ra, .inl (ca 0, 60, .inl (flg FB 0 60)))] hP hD
  refine W.widen (k := 0) (n := 0) (Nat.le_of_ble_eq_true rfl) (Nat.le_of_ble_eq_true rfl) ?_
  have hP9 : va_P (dC, dI) vwCl [(ro, .inr (7, [.ref ra, .ref rs, .int v1, .int sv])), (ra, .inl (ca 0, 60, .inl (flg FB 0 60))), (rs, .inl (ca 1, 60, .inl SB))] H := va_P.sub hP [0, 2, 1] rfl
  have hD9 : va_D A [(ro, .inr (7, [.ref ra, .ref rs, .int v1, .int sv])), (ra, .inl (ca 0, 60, .inl (flg FB 0 60))), (rs, .inl (ca 1, 60, .inl SB))] := va_D.sub hD [0, 2, 1] (by decide) rfl
  exact W.vret hx hb hr (fun t ht hW => ⟨⟨(), rfl, trivial, by rw [ht]; exact hP9, hD9⟩, hS.F ht⟩) hS.2.2 dX7_renewDegrees_13

set_option maxHeartbeats 4000000 in
set_option maxRecDepth 100000 in
theorem r_renewStirring (l : Launch) (dC : Nat → ClassId) (dI : Nat → Nat → Nat) (ca : Nat → ClassId) (sz : Nat) (ro : Nat) (ra : Nat) (rs : Nat) (dv : Int32) (sv : Int32) (FB : Nat → Int32) (SB : Nat → Int32) (v1 : Int32) : Met l yX7_renewStirring (Cond.code yX7_renewStirring cX7_renewStirring 3 none :: gT) ({ frames := 1, cells := 0, slots := 0, locals := 60 }) (va_Pc [.ref ro, .int v1] (pr (dC, dI) sz [(ro, .inr (7, [.ref ra, .ref rs, .int dv, .int sv])), (ra, .inl (ca 0, 60, .inl FB)), (rs, .inl (ca 1, 60, .inl SB))] (aT ca))) (va_Qv (fun (u_ : Unit) => True) (fun (u_ : Unit) t => va_P (dC, dI) vwCl [(ro, .inr (7, [.ref ra, .ref rs, .int dv, .int v1])), (ra, .inl (ca 0, 60, .inl FB)), (rs, .inl (ca 1, 60, .inl (flg SB 0 60)))] t.heap ∧ va_D (va_A [(ro, .inr (7, [.ref ra, .ref rs, .int dv, .int sv])), (ra, .inl (ca 0, 60, .inl FB)), (rs, .inl (ca 1, 60, .inl SB))] sz) [(ro, .inr (7, [.ref ra, .ref rs, .int dv, .int v1])), (ra, .inl (ca 0, 60, .inl FB)), (rs, .inl (ca 1, 60, .inl (flg SB 0 60)))]) (va_A [(ro, .inr (7, [.ref ra, .ref rs, .int dv, .int sv])), (ra, .inl (ca 0, 60, .inl FB)), (rs, .inl (ca 1, 60, .inl SB))] sz)) 0 0 (va_A [(ro, .inr (7, [.ref ra, .ref rs, .int dv, .int sv])), (ra, .inl (ca 0, 60, .inl FB)), (rs, .inl (ca 1, 60, .inl SB))] sz) := by
  refine Met.ofW (cc := cX7_renewStirring) (maxL := 3) (ret := none) (by decide) rfl ?_
  intro p e s m args below meth c s₁ B hml hv
  obtain ⟨rfl, hsz, hP, hK, hD0, hE⟩ := hv
  have hx := B.exec
  have hb := B.bytes
  have hr := B.returns
  have hts : ∀ w ∈ gT, w.before _ s = true := fun w h => atoms_spec (ws := Cond.code yX7_renewStirring cX7_renewStirring 3 none :: gT) B.pre w (List.mem_cons_of_mem _ h)
  have hown : s.vm.findClass RX7 = some m.cls := findClass_of_methodNamed B.named
  have hlocks := B.notSynchronized
  subst hsz
  have hD := hD0.self (sz := s.heap.size)
  generalize hAe : va_A [(ro, .inr (7, [.ref ra, .ref rs, .int dv, .int sv])), (ra, .inl (ca 0, 60, .inl FB)), (rs, .inl (ca 1, 60, .inl SB))] s.heap.size = A at hD ⊢
  have hA : ∀ q : Nat, s.heap.size ≤ q → A q := fun q h => by rw [← hAe]; exact Or.inr h
  have hS : va_S A s.heap s.heap [] := va_S.rf
  have hl := lv_entry ([.ref ro, .int v1]) (n := 3) (Nat.le_of_ble_eq_true rfl)
  rw [lg_entry_eq]
  generalize (lg_sl ([.ref ro, .int v1]) ++ List.replicate (3 - (lg_sl ([.ref ro, .int v1])).length) Slot.unset).toArray = ls at hl ⊢
  have hl : lv_has ls 3 [(0, .ref ro), (1, .int v1)] := hl
  refine lv_aload_n hx hb dX7_renewStirring_0 rfl (lv_at hl 0 rfl) ?_
  refine lv_iload_n hx hb dX7_renewStirring_1 rfl (lv_at hl 1 rfl) ?_
  refine va_put (D := (dC, dI)) (ci := 7) (v := .int v1) (ty := .int) (C := RX7) (T := TX7) (N := 4) hx hb hts inX7 tyX7 tyX7_ok nmX7 hown hK hP hD hS 0 rfl rfl 3 (by decide) (hts _ mw_293) (fun _ h9 => h9) rfl (by decide +kernel) rfl rfl (Nat.le_of_ble_eq_true rfl) dX7_renewStirring_2 (fun H locs hP hD hS => ?_)
  obtain ⟨hP, hD⟩ := va_bo [(ro, .inr (7, [.ref ra, .ref rs, .int dv, .int v1])), (ra, .inl (ca 0, 60, .inl FB)), (rs, .inl (ca 1, 60, .inl SB))] hP hD
  refine lv_iconst (v := 0) hx hb dX7_renewStirring_5 (by decide) ?_
  refine lv_istore_n (lv' := [(2, .int 0), (0, .ref ro), (1, .int v1)]) hx hb dX7_renewStirring_6 rfl hl (by decide) rfl (fun ls hl => ?_)
  refine wl_loop (fun (z_ : Nat) H locs ls => (z_ ≤ 60) ∧ va_P (dC, dI) vwCl [(ro, .inr (7, [.ref ra, .ref rs, .int dv, .int v1])), (ra, .inl (ca 0, 60, .inl FB)), (rs, .inl (ca 1, 60, .inl (flg SB 0 z_)))] H ∧ va_D A [(ro, .inr (7, [.ref ra, .ref rs, .int dv, .int v1])), (ra, .inl (ca 0, 60, .inl FB)), (rs, .inl (ca 1, 60, .inl (flg SB 0 z_)))] ∧ va_S A s.heap H locs ∧ lv_has ls 3 [(2, .int (nI z_)), (0, .ref ro), (1, .int v1)]) (fun (z_ : Nat) => 60 - z_) (fun z_ H locs ls hI ih => ?_) 0 ⟨(Nat.zero_le _), (by rw [flg_0]; exact hP), (by rw [flg_0]; exact hD), hS, lv_sub hl [0, 1, 2] rfl⟩
  revert hI ih; revert z_; intro i hI ih
  obtain ⟨hi, hP, hD, hS, hl⟩ := hI
  refine lv_iload_n hx hb dX7_renewStirring_7 rfl (lv_at hl 0 rfl) ?_
  refine lv_aload_n hx hb dX7_renewStirring_8 rfl (lv_at hl 1 rfl) ?_
  refine va_get (D := (dC, dI)) (ci := 7) (v := .ref rs) (C := RX7) (T := TX7) (N := 4) hx hb hts inX7 hown hK hP 0 rfl rfl 1 (by decide) (hts _ mw_289) (fun _ h9 => h9) rfl dX7_renewStirring_9 ?_
  refine va_alen (v := 60) hx hb hK hP 2 1 rfl rfl rfl dX7_renewStirring_12 ?_
  refine lv_icmp_ge (tgt := 29) hx hb dX7_renewStirring_13 (by decide) (fun c_1 => ?_) (fun c_1 => ?_)
  · have nc_1 : 60 ≤ i := (nI_leI (a := 60) (b := i) (by omega) (by omega)).mp c_1
    have hie : i = 60 := (by omega)
    rw [hie] at hP hD
    obtain ⟨hP, hD⟩ := va_bo [(ro, .inr (7, [.ref ra, .ref rs, .int dv, .int v1])), (ra, .inl (ca 0, 60, .inl FB)), (rs, .inl (ca 1, 60, .inl (flg SB 0 60)))] hP hD
    refine W.widen (k := 0) (n := 0) (Nat.le_of_ble_eq_true rfl) (Nat.le_of_ble_eq_true rfl) ?_
    have hP9 : va_P (dC, dI) vwCl [(ro, .inr (7, [.ref ra, .ref rs, .int dv, .int v1])), (ra, .inl (ca 0, 60, .inl FB)), (rs, .inl (ca 1, 60, .inl (flg SB 0 60)))] H := va_P.sub hP [0, 1, 2] rfl
    have hD9 : va_D A [(ro, .inr (7, [.ref ra, .ref rs, .int dv, .int v1])), (ra, .inl (ca 0, 60, .inl FB)), (rs, .inl (ca 1, 60, .inl (flg SB 0 60)))] := va_D.sub hD [0, 1, 2] (by decide) rfl
    exact W.vret hx hb hr (fun t ht hW => ⟨⟨(), rfl, trivial, by rw [ht]; exact hP9, hD9⟩, hS.F ht⟩) hS.2.2 dX7_renewStirring_29
  · have nc_1 : ¬ (60 ≤ i) := fun h9 => c_1 ((nI_leI (a := 60) (b := i) (by omega) (by omega)).mpr h9)
    refine lv_aload_n hx hb dX7_renewStirring_16 rfl (lv_at hl 1 rfl) ?_
    refine va_get (D := (dC, dI)) (ci := 7) (v := .ref rs) (C := RX7) (T := TX7) (N := 4) hx hb hts inX7 hown hK hP 0 rfl rfl 1 (by decide) (hts _ mw_289) (fun _ h9 => h9) rfl dX7_renewStirring_17 ?_
    refine lv_iload_n hx hb dX7_renewStirring_20 rfl (lv_at hl 0 rfl) ?_
    refine lv_iconst (v := 0) hx hb dX7_renewStirring_21 (by decide) ?_
    refine va_zast hx hb hK hP hD hS 2 1 rfl rfl (vp_in_nI (show i < 60 by omega) (by first | decide | omega)) dX7_renewStirring_22 (fun H locs hP hD hS => ?_)
    rw [(show ((nI i) : Int32).toNatClampNeg = i from nI_clamp (by omega))] at hP hD
    obtain ⟨hP, hD⟩ := va_bo [(ro, .inr (7, [.ref ra, .ref rs, .int dv, .int v1])), (ra, .inl (ca 0, 60, .inl FB)), (rs, .inl (ca 1, 60, .inl (upd (flg SB 0 i) i 0)))] hP hD
    refine lv_iinc (v := (nI (i + 1))) (lv' := [(2, .int (nI (i + 1))), (0, .ref ro), (1, .int v1)]) hx hb dX7_renewStirring_23 hl (k := 0) rfl (nI_add (i) 1) (by decide) rfl (fun ls hl => ?_)
    refine lv_goto (tgt := 7) hx hb dX7_renewStirring_26 (by decide) ?_
    have hfs := flg_s SB 0 (i := i)
    rw [hfs] at hP hD
    exact ih (i + 1) _ _ _ (by omega) ⟨(by omega), hP, hD, hS, lv_sub hl [0, 1, 2] rfl⟩

set_option maxHeartbeats 4000000 in
set_option maxRecDepth 100000 in
theorem r_hasDegree (l : Launch) (dC : Nat → ClassId) (dI : Nat → Nat → Nat) (ca : Nat → ClassId) (ro : Nat) (ra : Nat) (rs : Nat) (dv : Int32) (sv : Int32) (v1 : Int32) : Met l yX7_hasDegree (Cond.code yX7_hasDegree cX7_hasDegree 2 (some .boolean) :: gT) ({ frames := 2, cells := 0, slots := 0, locals := 82 }) (va_Pc [.ref ro, .int v1] (pu (dC, dI) [(ro, .inr (7, [.ref ra, .ref rs, .int dv, .int sv]))] (aT ca))) (vp_Si (fun r => r = wi v1 0 (dv - 1))) 0 0 (fun _ => False) := by
  refine Met.ofW (cc := cX7_hasDegree) (maxL := 2) (ret := (some .boolean)) (by decide) rfl ?_
  intro p e s m args below meth c s₁ B hml hv
  obtain ⟨rfl, hP, hK, hE⟩ := hv
  have hx := B.exec
  have hb := B.bytes
  have hr := B.returns
  have hts : ∀ w ∈ gT, w.before _ s = true := fun w h => atoms_spec (ws := Cond.code yX7_hasDegree cX7_hasDegree 2 (some .boolean) :: gT) B.pre w (List.mem_cons_of_mem _ h)
  have hown : s.vm.findClass RX7 = some m.cls := findClass_of_methodNamed B.named
  have hlocks := B.notSynchronized
  have hl := lv_entry ([.ref ro, .int v1]) (n := 2) (Nat.le_of_ble_eq_true rfl)
  rw [lg_entry_eq]
  generalize (lg_sl ([.ref ro, .int v1]) ++ List.replicate (2 - (lg_sl ([.ref ro, .int v1])).length) Slot.unset).toArray = ls at hl ⊢
  have hl : lv_has ls 2 [(0, .ref ro), (1, .int v1)] := hl
  refine lv_iload_n hx hb dX7_hasDegree_0 rfl (lv_at hl 1 rfl) ?_
  refine lv_iconst (v := 0) hx hb dX7_hasDegree_1 (by decide) ?_
  refine lv_aload_n hx hb dX7_hasDegree_2 rfl (lv_at hl 0 rfl) ?_
  refine va_get (D := (dC, dI)) (ci := 7) (v := .int dv) (C := RX7) (T := TX7) (N := 4) hx hb hts inX7 hown hK hP 0 rfl rfl 2 (by decide) (hts _ mw_291) (fun _ h9 => h9) rfl dX7_hasDegree_3 ?_
  refine lv_iconst (v := 1) hx hb dX7_hasDegree_6 (by decide) ?_
  refine lv_isub hx hb dX7_hasDegree_7 ?_
  have hPc := hP.sub (ws' := []) [] rfl
  refine pc_i (va_runSN (As := [.int v1, .int 0, .int (dv - 1)]) (rest := []) ⟨hx, hb, hml, hown, hts⟩ (c_within l dC dI ca v1 0 (dv - 1) ) (⟨va_cnB 3 hts (gd mw_254) rfl rfl rfl hE.2.2.2.2.2.2.1 (hts _ mw_1) ds_X10_within ⟨Nat.le_of_ble_eq_true rfl, Nat.le_of_ble_eq_true rfl⟩, (hts _ mw_253), trivial⟩) (pu_S hPc hK hE) rfl rfl hl.1 rfl (lv_room (Nat.le_of_ble_eq_true rfl)) dX7_hasDegree_8 ⟨Nat.le_of_ble_eq_true rfl, Nat.le_of_ble_eq_true rfl⟩) (fun rv_1 hw_ => ?_)
  obtain rfl : rv_1 = (wi v1 0 (dv - 1)) := hw_
  exact W.zret (v := (wi v1 0 (dv - 1))) (ty := .boolean) hx hb hr (zb_n (by first | exact wi_z _ _ _ | assumption | exact Or.inl rfl | exact Or.inr rfl)) (fun t ht hW => ⟨(wi v1 0 (dv - 1)), rfl, (by first | rfl | (simp []; done)), ht⟩) (fun q h => absurd h List.not_mem_nil) dX7_hasDegree_11

set_option maxHeartbeats 4000000 in
set_option maxRecDepth 100000 in
theorem r_hasStirring (l : Launch) (dC : Nat → ClassId) (dI : Nat → Nat → Nat) (ca : Nat → ClassId) (ro : Nat) (ra : Nat) (rs : Nat) (dv : Int32) (sv : Int32) (v1 : Int32) : Met l yX7_hasStirring (Cond.code yX7_hasStirring cX7_hasStirring 2 (some .boolean) :: gT) ({ frames := 2, cells := 0, slots := 0, locals := 82 }) (va_Pc [.ref ro, .int v1] (pu (dC, dI) [(ro, .inr (7, [.ref ra, .ref rs, .int dv, .int sv]))] (aT ca))) (vp_Si (fun r => r = wi v1 0 (sv - 1))) 0 0 (fun _ => False) := by
  refine Met.ofW (cc := cX7_hasStirring) (maxL := 2) (ret := (some .boolean)) (by decide) rfl ?_
  intro p e s m args below meth c s₁ B hml hv
  obtain ⟨rfl, hP, hK, hE⟩ := hv
  have hx := B.exec
  have hb := B.bytes
  have hr := B.returns
  have hts : ∀ w ∈ gT, w.before _ s = true := fun w h => atoms_spec (ws := Cond.code yX7_hasStirring cX7_hasStirring 2 (some .boolean) :: gT) B.pre w (List.mem_cons_of_mem _ h)
  have hown : s.vm.findClass RX7 = some m.cls := findClass_of_methodNamed B.named
  have hlocks := B.notSynchronized
  have hl := lv_entry ([.ref ro, .int v1]) (n := 2) (Nat.le_of_ble_eq_true rfl)
  rw [lg_entry_eq]
  generalize (lg_sl ([.ref ro, .int v1]) ++ List.replicate (2 - (lg_sl ([.ref ro, .int v1])).length) Slot.unset).toArray = ls at hl ⊢
  have hl : lv_has ls 2 [(0, .ref ro), (1, .int v1)] := hl
  refine lv_iload_n hx hb dX7_hasStirring_0 rfl (lv_at hl 1 rfl) ?_
  refine lv_iconst (v := 0) hx hb dX7_hasStirring_1 (by decide) ?_
  refine lv_aload_n hx hb dX7_hasStirring_2 rfl (lv_at hl 0 rfl) ?_
  refine va_get (D := (dC, dI)) (ci := 7) (v := .int sv) (C := RX7) (T := TX7) (N := 4) hx hb hts inX7 hown hK hP 0 rfl rfl 3 (by decide) (hts _ mw_293) (fun _ h9 => h9) rfl dX7_hasStirring_3 ?_
  refine lv_iconst (v := 1) hx hb dX7_hasStirring_6 (by decide) ?_
  refine lv_isub hx hb dX7_hasStirring_7 ?_
  have hPc := hP.sub (ws' := []) [] rfl
  refine pc_i (va_runSN (As := [.int v1, .int 0, .int (sv - 1)]) (rest := []) ⟨hx, hb, hml, hown, hts⟩ (c_within l dC dI ca v1 0 (sv - 1) ) (⟨va_cnB 3 hts (gd mw_254) rfl rfl rfl hE.2.2.2.2.2.2.1 (hts _ mw_1) ds_X10_within ⟨Nat.le_of_ble_eq_true rfl, Nat.le_of_ble_eq_true rfl⟩, (hts _ mw_253), trivial⟩) (pu_S hPc hK hE) rfl rfl hl.1 rfl (lv_room (Nat.le_of_ble_eq_true rfl)) dX7_hasStirring_8 ⟨Nat.le_of_ble_eq_true rfl, Nat.le_of_ble_eq_true rfl⟩) (fun rv_1 hw_ => ?_)
  obtain rfl : rv_1 = (wi v1 0 (sv - 1)) := hw_
  exact W.zret (v := (wi v1 0 (sv - 1))) (ty := .boolean) hx hb hr (zb_n (by first | exact wi_z _ _ _ | assumption | exact Or.inl rfl | exact Or.inr rfl)) (fun t ht hW => ⟨(wi v1 0 (sv - 1)), rfl, (by first | rfl | (simp []; done)), ht⟩) (fun q h => absurd h List.not_mem_nil) dX7_hasStirring_11

set_option maxHeartbeats 4000000 in
set_option maxRecDepth 100000 in
theorem r_wasStirred (l : Launch) (dC : Nat → ClassId) (dI : Nat → Nat → Nat) (ca : Nat → ClassId) (ro : Nat) (ra : Nat) (rs : Nat) (dv : Int32) (sv : Int32) (SB : Nat → Int32) (v1 : Int32) (hs : cnt sv 60) : Met l yX7_wasStirred (Cond.code yX7_wasStirred cX7_wasStirred 2 (some .boolean) :: gT) ({ frames := 3, cells := 0, slots := 0, locals := 103 }) (va_Pc [.ref ro, .int v1] (pu (dC, dI) [(ro, .inr (7, [.ref ra, .ref rs, .int dv, .int sv])), (rs, .inl (ca 1, 60, .inl SB))] (aT ca))) (vp_Si (fun r => r = stA sv SB v1)) 0 0 (fun _ => False) := by
  refine Met.ofW (cc := cX7_wasStirred) (maxL := 2) (ret := (some .boolean)) (by decide) rfl ?_
  intro p e s m args below meth c s₁ B hml hv
  obtain ⟨rfl, hP, hK, hE⟩ := hv
  have hx := B.exec
  have hb := B.bytes
  have hr := B.returns
  have hts : ∀ w ∈ gT, w.before _ s = true := fun w h => atoms_spec (ws := Cond.code yX7_wasStirred cX7_wasStirred 2 (some .boolean) :: gT) B.pre w (List.mem_cons_of_mem _ h)
  have hown : s.vm.findClass RX7 = some m.cls := findClass_of_methodNamed B.named
  have hlocks := B.notSynchronized
  have hl := lv_entry ([.ref ro, .int v1]) (n := 2) (Nat.le_of_ble_eq_true rfl)
  rw [lg_entry_eq]
  generalize (lg_sl ([.ref ro, .int v1]) ++ List.replicate (2 - (lg_sl ([.ref ro, .int v1])).length) Slot.unset).toArray = ls at hl ⊢
  have hl : lv_has ls 2 [(0, .ref ro), (1, .int v1)] := hl
  refine lv_aload_n hx hb dX7_wasStirred_0 rfl (lv_at hl 0 rfl) ?_
  refine lv_iload_n hx hb dX7_wasStirred_1 rfl (lv_at hl 1 rfl) ?_
  have hPc := hP.sub (ws' := [(ro, .inr (7, [.ref ra, .ref rs, .int dv, .int sv]))]) [0] rfl
  refine pc_i (va_runV (As := [.int v1]) (rest := []) ⟨hx, hb, hml, hown, hts⟩ (r_hasStirring l dC dI ca ro ra rs dv sv v1 ) (⟨callB_of 1 hts (gd mw_415) rfl rfl rfl (hts _ mw_11) (hts _ mw_479) ds_X7_hasStirring ⟨Nat.le_of_ble_eq_true rfl, Nat.le_of_ble_eq_true rfl⟩, (hts _ mw_413), (hts _ mw_414)⟩) (pu_V hPc hK hE (va_recv hK hPc (ci := 7) (q0 := 0) rfl rfl)) rfl rfl hl.1 rfl (lv_room (Nat.le_of_ble_eq_true rfl)) dX7_wasStirred_2 ⟨Nat.le_of_ble_eq_true rfl, Nat.le_of_ble_eq_true rfl⟩) (fun rv_1 hw_ => ?_)
  obtain rfl : rv_1 = (wi v1 0 (sv - 1)) := hw_
  refine lv_if_eq (tgt := 21) hx hb dX7_wasStirred_5 (by decide) (fun c_2 => ?_) (fun c_2 => ?_)
  · refine lv_iconst (v := 0) hx hb dX7_wasStirred_21 (by decide) ?_
    exact W.zret (v := 0) (ty := .boolean) hx hb hr rfl (fun t ht hW => ⟨0, rfl, (by first | rfl | (simp [stA, c_2]; done)), ht⟩) (fun q h => absurd h List.not_mem_nil) dX7_wasStirred_22
  · refine lv_aload_n hx hb dX7_wasStirred_8 rfl (lv_at hl 0 rfl) ?_
    refine va_get (D := (dC, dI)) (ci := 7) (v := .ref rs) (C := RX7) (T := TX7) (N := 4) hx hb hts inX7 hown hK hP 0 rfl rfl 1 (by decide) (hts _ mw_289) (fun _ h9 => h9) rfl dX7_wasStirred_9 ?_
    refine lv_iload_n hx hb dX7_wasStirred_12 rfl (lv_at hl 1 rfl) ?_
    refine va_zald hx hb hK hP 1 1 rfl rfl (wi_vc hs (by decide) c_2) dX7_wasStirred_13 ?_
    refine lv_if_eq (tgt := 21) hx hb dX7_wasStirred_14 (by decide) (fun c_3 => ?_) (fun c_3 => ?_)
    · refine lv_iconst (v := 0) hx hb dX7_wasStirred_21 (by decide) ?_
      exact W.zret (v := 0) (ty := .boolean) hx hb hr rfl (fun t ht hW => ⟨0, rfl, (by first | rfl | (simp [stA, c_2, c_3]; done)), ht⟩) (fun q h => absurd h List.not_mem_nil) dX7_wasStirred_22
    · refine lv_iconst (v := 1) hx hb dX7_wasStirred_17 (by decide) ?_
      refine lv_goto (tgt := 22) hx hb dX7_wasStirred_18 (by decide) ?_
      exact W.zret (v := 1) (ty := .boolean) hx hb hr rfl (fun t ht hW => ⟨1, rfl, (by first | rfl | (simp [stA, c_2, c_3]; done)), ht⟩) (fun q h => absurd h List.not_mem_nil) dX7_wasStirred_22

set_option maxHeartbeats 4000000 in
set_option maxRecDepth 100000 in
theorem r_isNumber (l : Launch) (dC : Nat → ClassId) (dI : Nat → Nat → Nat) (ca : Nat → ClassId) (ro : Nat) (ra : Nat) (rs : Nat) (dv : Int32) (sv : Int32) (FB : Nat → Int32) (v1 : Int32) (hd : cnt dv 60) : Met l yX7_isNumber (Cond.code yX7_isNumber cX7_isNumber 2 (some .boolean) :: gT) ({ frames := 3, cells := 0, slots := 0, locals := 103 }) (va_Pc [.ref ro, .int v1] (pu (dC, dI) [(ro, .inr (7, [.ref ra, .ref rs, .int dv, .int sv])), (ra, .inl (ca 0, 60, .inl FB))] (aT ca))) (vp_Si (fun r => r = isN dv FB v1)) 0 0 (fun _ => False) := by
  refine Met.ofW (cc := cX7_isNumber) (maxL := 2) (ret := (some .boolean)) (by decide) rfl ?_
  intro p e s m args below meth c s₁ B hml hv
  obtain ⟨rfl, hP, hK, hE⟩ := hv
  have hx := B.exec
  have hb := B.bytes
  have hr := B.returns
  have hts : ∀ w ∈ gT, w.before _ s = true := fun w h => atoms_spec (ws := Cond.code yX7_isNumber cX7_isNumber 2 (some .boolean) :: gT) B.pre w (List.mem_cons_of_mem _ h)
  have hown : s.vm.findClass RX7 = some m.cls := findClass_of_methodNamed B.named
  have hlocks := B.notSynchronized
  have hl := lv_entry ([.ref ro, .int v1]) (n := 2) (Nat.le_of_ble_eq_true rfl)
  rw [lg_entry_eq]
  generalize (lg_sl ([.ref ro, .int v1]) ++ List.replicate (2 - (lg_sl ([.ref ro, .int v1])).length) Slot.unset).toArray = ls at hl ⊢
  have hl : lv_has ls 2 [(0, .ref ro), (1, .int v1)] := hl
  refine lv_aload_n hx hb dX7_isNumber_0 rfl (lv_at hl 0 rfl) ?_
  refine lv_iload_n hx hb dX7_isNumber_1 rfl (lv_at hl 1 rfl) ?_
  have hPc := hP.sub (ws' := [(ro, .inr (7, [.ref ra, .ref rs, .int dv, .int sv]))]) [0] rfl
  refine pc_i (va_runV (As := [.int v1]) (rest := []) ⟨hx, hb, hml, hown, hts⟩ (r_hasDegree l dC dI ca ro ra rs dv sv v1 ) (⟨callB_of 1 hts (gd mw_406) rfl rfl rfl (hts _ mw_11) (hts _ mw_452) ds_X7_hasDegree ⟨Nat.le_of_ble_eq_true rfl, Nat.le_of_ble_eq_true rfl⟩, (hts _ mw_404), (hts _ mw_405)⟩) (pu_V hPc hK hE (va_recv hK hPc (ci := 7) (q0 := 0) rfl rfl)) rfl rfl hl.1 rfl (lv_room (Nat.le_of_ble_eq_true rfl)) dX7_isNumber_2 ⟨Nat.le_of_ble_eq_true rfl, Nat.le_of_ble_eq_true rfl⟩) (fun rv_1 hw_ => ?_)
  obtain rfl : rv_1 = (wi v1 0 (dv - 1)) := hw_
  refine lv_if_eq (tgt := 26) hx hb dX7_isNumber_5 (by decide) (fun c_2 => ?_) (fun c_2 => ?_)
  · refine lv_iconst (v := 0) hx hb dX7_isNumber_26 (by decide) ?_
    exact W.zret (v := 0) (ty := .boolean) hx hb hr rfl (fun t ht hW => ⟨0, rfl, (by first | rfl | (simp [isN, c_2]; done)), ht⟩) (fun q h => absurd h List.not_mem_nil) dX7_isNumber_27
  · refine lv_aload_n hx hb dX7_isNumber_8 rfl (lv_at hl 0 rfl) ?_
    refine va_get (D := (dC, dI)) (ci := 7) (v := .ref ra) (C := RX7) (T := TX7) (N := 4) hx hb hts inX7 hown hK hP 0 rfl rfl 0 (by decide) (hts _ mw_287) (fun _ h9 => h9) rfl dX7_isNumber_9 ?_
    refine lv_iload_n hx hb dX7_isNumber_12 rfl (lv_at hl 1 rfl) ?_
    refine va_iald hx hb hK hP 1 0 rfl rfl (wi_vc hd (by decide) c_2) dX7_isNumber_13 ?_
    refine lv_ldc (v := 2147483647) hx hb hown (hts _ mw_453) dX7_isNumber_14 ?_
    refine lv_iand hx hb dX7_isNumber_16 ?_
    refine lv_ldc (v := 2139095040) hx hb hown (hts _ mw_454) dX7_isNumber_17 ?_
    refine lv_icmp_gt (tgt := 26) hx hb dX7_isNumber_19 (by decide) (fun c_3 => ?_) (fun c_3 => ?_)
    · refine lv_iconst (v := 0) hx hb dX7_isNumber_26 (by decide) ?_
      exact W.zret (v := 0) (ty := .boolean) hx hb hr rfl (fun t ht hW => ⟨0, rfl, (by first | rfl | (simp [isN, c_2, c_3]; done)), ht⟩) (fun q h => absurd h List.not_mem_nil) dX7_isNumber_27
    · refine lv_iconst (v := 1) hx hb dX7_isNumber_22 (by decide) ?_
      refine lv_goto (tgt := 27) hx hb dX7_isNumber_23 (by decide) ?_
      exact W.zret (v := 1) (ty := .boolean) hx hb hr rfl (fun t ht hW => ⟨1, rfl, (by first | rfl | (simp [isN, c_2, c_3]; done)), ht⟩) (fun q h => absurd h List.not_mem_nil) dX7_isNumber_27

set_option maxHeartbeats 4000000 in
set_option maxRecDepth 100000 in
theorem r_tenfold (l : Launch) (dC : Nat → ClassId) (dI : Nat → Nat → Nat) (ca : Nat → ClassId) (v1 : Int32) : Met l yX7_tenfold (Cond.code yX7_tenfold cX7_tenfold 4 (some .int) :: gT) ({ frames := 1, cells := 0, slots := 0, locals := 60 }) (va_Pc [.int v1] (pu (dC, dI) [] (aT ca))) (vp_Si (fun r => r = tf v1)) 0 0 (fun _ => False) := by
  refine Met.ofW (cc := cX7_tenfold) (maxL := 4) (ret := (some .int)) (by decide) rfl ?_
  intro p e s m args below meth c s₁ B hml hv
  obtain ⟨rfl, hP, hK, hE⟩ := hv
  have hx := B.exec
  have hb := B.bytes
  have hr := B.returns
  have hts : ∀ w ∈ gT, w.before _ s = true := fun w h => atoms_spec (ws := Cond.code yX7_tenfold cX7_tenfold 4 (some .int) :: gT) B.pre w (List.mem_cons_of_mem _ h)
  have hown : s.vm.findClass RX7 = some m.cls := findClass_of_methodNamed B.named
  have hlocks := B.notSynchronized
  have hl := lv_entry ([.int v1]) (n := 4) (Nat.le_of_ble_eq_true rfl)
  rw [lg_entry_eq]
  generalize (lg_sl ([.int v1]) ++ List.replicate (4 - (lg_sl ([.int v1])).length) Slot.unset).toArray = ls at hl ⊢
  have hl : lv_has ls 4 [(0, .int v1)] := hl
  refine lv_iload_n hx hb dX7_tenfold_0 rfl (lv_at hl 0 rfl) ?_
  refine lv_bipush (v := 23) hx hb dX7_tenfold_1 (by decide) ?_
  refine lv_ishr hx hb dX7_tenfold_3 ?_
  refine lv_sipush (v := 255) hx hb dX7_tenfold_4 (by decide) ?_
  refine lv_iand hx hb dX7_tenfold_7 ?_
  refine lv_sipush (v := 150) hx hb dX7_tenfold_8 (by decide) ?_
  refine lv_isub hx hb dX7_tenfold_11 ?_
  refine lv_topi (fun y_ e_ => ?_)
  obtain rfl : y_ = (tfP v1) := e_
  refine lv_istore_n (lv' := [(1, .int (tfP v1)), (0, .int v1)]) hx hb dX7_tenfold_12 rfl hl (by decide) rfl (fun ls hl => ?_)
  refine lv_iload_n hx hb dX7_tenfold_13 rfl (lv_at hl 1 rfl) ?_
  refine lv_ldc (v := 8388607) hx hb hown (hts _ mw_462) dX7_tenfold_14 ?_
  refine lv_iand hx hb dX7_tenfold_16 ?_
  refine lv_ldc (v := 8388608) hx hb hown (hts _ mw_463) dX7_tenfold_17 ?_
  refine lv_ior hx hb dX7_tenfold_19 ?_
  refine lv_topi (fun y_ e_ => ?_)
  obtain rfl : y_ = (tfD v1) := e_
  refine lv_istore_n (lv' := [(2, .int (tfD v1)), (1, .int (tfP v1)), (0, .int v1)]) hx hb dX7_tenfold_20 rfl hl (by decide) rfl (fun ls hl => ?_)
  refine lv_iload_n hx hb dX7_tenfold_21 rfl (lv_at hl 1 rfl) ?_
  refine lv_bipush (v := (-30)) hx hb dX7_tenfold_22 (by decide) ?_
  refine lv_icmp_ge (tgt := 29) hx hb dX7_tenfold_24 (by decide) (fun c_1 => ?_) (fun c_1 => ?_)
  · have c_1 := Int32.not_lt.mpr c_1
    refine lv_iload_n hx hb dX7_tenfold_29 rfl (lv_at hl 1 rfl) ?_
    refine lv_bipush (v := 7) hx hb dX7_tenfold_30 (by decide) ?_
    refine lv_icmp_le (tgt := 47) hx hb dX7_tenfold_32 (by decide) (fun c_2 => ?_) (fun c_2 => ?_)
    · have c_2 := Int32.not_lt.mpr c_2
      refine lv_iload_n hx hb dX7_tenfold_47 rfl (lv_at hl 1 rfl) ?_
      refine lv_if_lt (tgt := 58) hx hb dX7_tenfold_48 (by decide) (fun c_3 => ?_) (fun c_3 => ?_)
      · refine lv_iload_n hx hb dX7_tenfold_58 rfl (lv_at hl 0 rfl) ?_
        refine lv_i2f hx hb dX7_tenfold_59 ?_
        refine lv_iconst (v := 1) hx hb dX7_tenfold_60 (by decide) ?_
        refine lv_iload_n hx hb dX7_tenfold_61 rfl (lv_at hl 1 rfl) ?_
        refine lv_ineg hx hb dX7_tenfold_62 ?_
        refine lv_ishl hx hb dX7_tenfold_63 ?_
        refine lv_i2f hx hb dX7_tenfold_64 ?_
        refine lv_fdiv hx hb dX7_tenfold_65 (nn_div c_1 c_3) ?_
        refine lv_fstore_n (lv' := [(3, .float (FP.fdiv (FP.i2f (tfD v1)) (FP.i2f (1 <<< ((-(tfP v1)) &&& 31))))), (2, .int (tfD v1)), (1, .int (tfP v1)), (0, .int v1)]) hx hb dX7_tenfold_66 rfl hl (by decide) rfl (fun ls hl => ?_)
        refine lv_iload_n hx hb dX7_tenfold_67 rfl (lv_at hl 3 rfl) ?_
        refine lv_if_ge (tgt := 76) hx hb dX7_tenfold_68 (by decide) (fun c_4 => ?_) (fun c_4 => ?_)
        · refine lv_ldcf (v := 1092616192) hx hb hown (hts _ mw_466) dX7_tenfold_76 ?_
          refine lv_fload_n hx hb dX7_tenfold_78 rfl (lv_at hl 0 rfl) ?_
          have hsz : (FP.fdiv (FP.i2f (tfD v1)) (FP.i2f (1 <<< ((-(tfP v1)) &&& 31)))) = tfS v1 := by unfold tfS; rw [if_pos c_3]
          rw [hsz]
          refine lv_fmul hx hb dX7_tenfold_79 (nn_mul c_1 c_2 _ (by decide)) ?_
          refine lv_f2i hx hb dX7_tenfold_80 ?_
          exact W.iret (v := (FP.f2i (FP.fmul 1092616192 (tfS v1)))) hx hb hr (fun t ht hW => ⟨(FP.f2i (FP.fmul 1092616192 (tfS v1))), rfl, (by unfold tf; simp [c_1, c_2, c_3, c_4]), ht⟩) (fun q h => absurd h List.not_mem_nil) dX7_tenfold_81
        · refine lv_ldcf (v := 3240099840) hx hb hown (hts _ mw_465) dX7_tenfold_71 ?_
          refine lv_goto (tgt := 78) hx hb dX7_tenfold_73 (by decide) ?_
          refine lv_fload_n hx hb dX7_tenfold_78 rfl (lv_at hl 0 rfl) ?_
          have hsz : (FP.fdiv (FP.i2f (tfD v1)) (FP.i2f (1 <<< ((-(tfP v1)) &&& 31)))) = tfS v1 := by unfold tfS; rw [if_pos c_3]
          rw [hsz]
          refine lv_fmul hx hb dX7_tenfold_79 (nn_mul c_1 c_2 _ (by decide)) ?_
          refine lv_f2i hx hb dX7_tenfold_80 ?_
          exact W.iret (v := (FP.f2i (FP.fmul 3240099840 (tfS v1)))) hx hb hr (fun t ht hW => ⟨(FP.f2i (FP.fmul 3240099840 (tfS v1))), rfl, (by unfold tf; simp [c_1, c_2, c_3, c_4]), ht⟩) (fun q h => absurd h List.not_mem_nil) dX7_tenfold_81
      · refine lv_iload_n hx hb dX7_tenfold_51 rfl (lv_at hl 0 rfl) ?_
        refine lv_iload_n hx hb dX7_tenfold_52 rfl (lv_at hl 1 rfl) ?_
        refine lv_ishl hx hb dX7_tenfold_53 ?_
        refine lv_i2f hx hb dX7_tenfold_54 ?_
        refine lv_goto (tgt := 66) hx hb dX7_tenfold_55 (by decide) ?_
        refine lv_fstore_n (lv' := [(3, .float (FP.i2f ((tfD v1) <<< ((tfP v1) &&& 31)))), (2, .int (tfD v1)), (1, .int (tfP v1)), (0, .int v1)]) hx hb dX7_tenfold_66 rfl hl (by decide) rfl (fun ls hl => ?_)
        refine lv_iload_n hx hb dX7_tenfold_67 rfl (lv_at hl 3 rfl) ?_
        refine lv_if_ge (tgt := 76) hx hb dX7_tenfold_68 (by decide) (fun c_5 => ?_) (fun c_5 => ?_)
        · refine lv_ldcf (v := 1092616192) hx hb hown (hts _ mw_466) dX7_tenfold_76 ?_
          refine lv_fload_n hx hb dX7_tenfold_78 rfl (lv_at hl 0 rfl) ?_
          have hsz : (FP.i2f ((tfD v1) <<< ((tfP v1) &&& 31))) = tfS v1 := by unfold tfS; rw [if_neg c_3]
          rw [hsz]
          refine lv_fmul hx hb dX7_tenfold_79 (nn_mul c_1 c_2 _ (by decide)) ?_
          refine lv_f2i hx hb dX7_tenfold_80 ?_
          exact W.iret (v := (FP.f2i (FP.fmul 1092616192 (tfS v1)))) hx hb hr (fun t ht hW => ⟨(FP.f2i (FP.fmul 1092616192 (tfS v1))), rfl, (by unfold tf; simp [c_1, c_2, c_3, c_5]), ht⟩) (fun q h => absurd h List.not_mem_nil) dX7_tenfold_81
        · refine lv_ldcf (v := 3240099840) hx hb hown (hts _ mw_465) dX7_tenfold_71 ?_
          refine lv_goto (tgt := 78) hx hb dX7_tenfold_73 (by decide) ?_
          refine lv_fload_n hx hb dX7_tenfold_78 rfl (lv_at hl 0 rfl) ?_
          have hsz : (FP.i2f ((tfD v1) <<< ((tfP v1) &&& 31))) = tfS v1 := by unfold tfS; rw [if_neg c_3]
          rw [hsz]
          refine lv_fmul hx hb dX7_tenfold_79 (nn_mul c_1 c_2 _ (by decide)) ?_
          refine lv_f2i hx hb dX7_tenfold_80 ?_
          exact W.iret (v := (FP.f2i (FP.fmul 3240099840 (tfS v1)))) hx hb hr (fun t ht hW => ⟨(FP.f2i (FP.fmul 3240099840 (tfS v1))), rfl, (by unfold tf; simp [c_1, c_2, c_3, c_5]), ht⟩) (fun q h => absurd h List.not_mem_nil) dX7_tenfold_81
    · have c_2 := Int32.not_le.mp c_2
      refine lv_iload_n hx hb dX7_tenfold_35 rfl (lv_at hl 2 rfl) ?_
      refine lv_if_ge (tgt := 44) hx hb dX7_tenfold_36 (by decide) (fun c_6 => ?_) (fun c_6 => ?_)
      · refine lv_ldc (v := 2147483647) hx hb hown (hts _ mw_453) dX7_tenfold_44 ?_
        exact W.iret (v := 2147483647) hx hb hr (fun t ht hW => ⟨2147483647, rfl, (by unfold tf; simp [c_1, c_2, c_6]), ht⟩) (fun q h => absurd h List.not_mem_nil) dX7_tenfold_46
      · refine lv_ldc (v := (-2147483648)) hx hb hown (hts _ mw_464) dX7_tenfold_39 ?_
        refine lv_goto (tgt := 46) hx hb dX7_tenfold_41 (by decide) ?_
        exact W.iret (v := (-2147483648)) hx hb hr (fun t ht hW => ⟨(-2147483648), rfl, (by unfold tf; simp [c_1, c_2, c_6]), ht⟩) (fun q h => absurd h List.not_mem_nil) dX7_tenfold_46
  · have c_1 := Int32.not_le.mp c_1
    refine lv_iconst (v := 0) hx hb dX7_tenfold_27 (by decide) ?_
    exact W.iret (v := 0) hx hb hr (fun t ht hW => ⟨0, rfl, (by unfold tf; simp [c_1]), ht⟩) (fun q h => absurd h List.not_mem_nil) dX7_tenfold_28

set_option maxHeartbeats 4000000 in
set_option maxRecDepth 100000 in
theorem r_degreeAt (l : Launch) (dC : Nat → ClassId) (dI : Nat → Nat → Nat) (ca : Nat → ClassId) (ro : Nat) (ra : Nat) (rs : Nat) (dv : Int32) (sv : Int32) (FB : Nat → Int32) (v1 : Int32) (hd : cnt dv 60) : Met l yX7_degreeAt (Cond.code yX7_degreeAt cX7_degreeAt 2 (some .int) :: gT) ({ frames := 3, cells := 0, slots := 0, locals := 103 }) (va_Pc [.ref ro, .int v1] (pu (dC, dI) [(ro, .inr (7, [.ref ra, .ref rs, .int dv, .int sv])), (ra, .inl (ca 0, 60, .inl FB))] (aT ca))) (vp_Si (fun r => r = dgA dv FB v1)) 0 0 (fun _ => False) := by
  refine Met.ofW (cc := cX7_degreeAt) (maxL := 2) (ret := (some .int)) (by decide) rfl ?_
  intro p e s m args below meth c s₁ B hml hv
  obtain ⟨rfl, hP, hK, hE⟩ := hv
  have hx := B.exec
  have hb := B.bytes
  have hr := B.returns
  have hts : ∀ w ∈ gT, w.before _ s = true := fun w h => atoms_spec (ws := Cond.code yX7_degreeAt cX7_degreeAt 2 (some .int) :: gT) B.pre w (List.mem_cons_of_mem _ h)
  have hown : s.vm.findClass RX7 = some m.cls := findClass_of_methodNamed B.named
  have hlocks := B.notSynchronized
  have hl := lv_entry ([.ref ro, .int v1]) (n := 2) (Nat.le_of_ble_eq_true rfl)
  rw [lg_entry_eq]
  generalize (lg_sl ([.ref ro, .int v1]) ++ List.replicate (2 - (lg_sl ([.ref ro, .int v1])).length) Slot.unset).toArray = ls at hl ⊢
  have hl : lv_has ls 2 [(0, .ref ro), (1, .int v1)] := hl
  refine lv_aload_n hx hb dX7_degreeAt_0 rfl (lv_at hl 0 rfl) ?_
  refine lv_iload_n hx hb dX7_degreeAt_1 rfl (lv_at hl 1 rfl) ?_
  have hPc := hP.sub (ws' := [(ro, .inr (7, [.ref ra, .ref rs, .int dv, .int sv]))]) [0] rfl
  refine pc_i (va_runV (As := [.int v1]) (rest := []) ⟨hx, hb, hml, hown, hts⟩ (r_hasDegree l dC dI ca ro ra rs dv sv v1 ) (⟨callB_of 1 hts (gd mw_406) rfl rfl rfl (hts _ mw_11) (hts _ mw_452) ds_X7_hasDegree ⟨Nat.le_of_ble_eq_true rfl, Nat.le_of_ble_eq_true rfl⟩, (hts _ mw_404), (hts _ mw_405)⟩) (pu_V hPc hK hE (va_recv hK hPc (ci := 7) (q0 := 0) rfl rfl)) rfl rfl hl.1 rfl (lv_room (Nat.le_of_ble_eq_true rfl)) dX7_degreeAt_2 ⟨Nat.le_of_ble_eq_true rfl, Nat.le_of_ble_eq_true rfl⟩) (fun rv_1 hw_ => ?_)
  obtain rfl : rv_1 = (wi v1 0 (dv - 1)) := hw_
  refine lv_if_eq (tgt := 20) hx hb dX7_degreeAt_5 (by decide) (fun c_2 => ?_) (fun c_2 => ?_)
  · refine lv_iconst (v := 0) hx hb dX7_degreeAt_20 (by decide) ?_
    exact W.iret (v := 0) hx hb hr (fun t ht hW => ⟨0, rfl, (by first | rfl | (simp [dgA, c_2]; done)), ht⟩) (fun q h => absurd h List.not_mem_nil) dX7_degreeAt_21
  · refine lv_aload_n hx hb dX7_degreeAt_8 rfl (lv_at hl 0 rfl) ?_
    refine va_get (D := (dC, dI)) (ci := 7) (v := .ref ra) (C := RX7) (T := TX7) (N := 4) hx hb hts inX7 hown hK hP 0 rfl rfl 0 (by decide) (hts _ mw_287) (fun _ h9 => h9) rfl dX7_degreeAt_9 ?_
    refine lv_iload_n hx hb dX7_degreeAt_12 rfl (lv_at hl 1 rfl) ?_
    refine va_iald hx hb hK hP 1 0 rfl rfl (wi_vc hd (by decide) c_2) dX7_degreeAt_13 ?_
    have hPc := hP.sub (ws' := []) [] rfl
    refine pc_i (va_runS (As := [.int (FB (v1 : Int32).toNatClampNeg)]) (rest := []) ⟨hx, hb, hml, hown, hts⟩ (r_tenfold l dC dI ca (FB (v1 : Int32).toNatClampNeg) ) (⟨callB_of 1 hts (gd mw_461) rfl rfl rfl (hts _ mw_11) (hts _ mw_459) ds_X7_tenfold ⟨Nat.le_of_ble_eq_true rfl, Nat.le_of_ble_eq_true rfl⟩, (hts _ mw_460)⟩) (pu_S hPc hK hE) rfl rfl hl.1 rfl (lv_room (Nat.le_of_ble_eq_true rfl)) dX7_degreeAt_14 ⟨Nat.le_of_ble_eq_true rfl, Nat.le_of_ble_eq_true rfl⟩) (fun rv_3 hw_ => ?_)
    obtain rfl : rv_3 = (tf (FB (v1 : Int32).toNatClampNeg)) := hw_
    refine lv_goto (tgt := 21) hx hb dX7_degreeAt_17 (by decide) ?_
    exact W.iret (v := (tf (FB (v1 : Int32).toNatClampNeg))) hx hb hr (fun t ht hW => ⟨(tf (FB (v1 : Int32).toNatClampNeg)), rfl, (by first | rfl | (simp [dgA, c_2]; done)), ht⟩) (fun q h => absurd h List.not_mem_nil) dX7_degreeAt_21

set_option maxHeartbeats 4000000 in
set_option maxRecDepth 100000 in
theorem c_Lot (l : Launch) (dC : Nat → ClassId) (dI : Nat → Nat → Nat) (ca : Nat → ClassId) (sz : Nat) (h : Nat) (v1 : Int32) (v2 : Int32) : Met l yX4_init (Cond.code yX4_init cX4_init 3 none :: gT) ({ frames := 1, cells := 0, slots := 0, locals := 60 }) (va_Pc [.ref h, .int v1, .int v2] (pr (dC, dI) sz [(h, .inr (4, [.int 0, .int 0]))] (aT ca))) (va_Qv (fun (u_ : Unit) => True) (fun (u_ : Unit) t => va_P (dC, dI) vwCl [(h, .inr (4, [.int v1, .int v2]))] t.heap ∧ va_D (va_A [(h, .inr (4, [.int 0, .int 0]))] sz) [(h, .inr (4, [.int v1, .int v2]))]) (va_A [(h, .inr (4, [.int 0, .int 0]))] sz)) 0 0 (va_A [(h, .inr (4, [.int 0, .int 0]))] sz) := by
  refine Met.ofW (cc := cX4_init) (maxL := 3) (ret := none) (by decide) rfl ?_
  intro p e s m args below meth c s₁ B hml hv
  obtain ⟨rfl, hsz, hP, hK, hD0, hE⟩ := hv
  have hx := B.exec
  have hb := B.bytes
  have hr := B.returns
  have hts : ∀ w ∈ gT, w.before _ s = true := fun w h => atoms_spec (ws := Cond.code yX4_init cX4_init 3 none :: gT) B.pre w (List.mem_cons_of_mem _ h)
  have hown : s.vm.findClass RX4 = some m.cls := findClass_of_methodNamed B.named
  have hlocks := B.notSynchronized
  have hin : meth.name = "<init>" := (name_of_methodNamed B.named B.method).1
  subst hsz
  have hD := hD0.self (sz := s.heap.size)
  generalize hAe : va_A [(h, .inr (4, [.int 0, .int 0]))] s.heap.size = A at hD ⊢
  have hA : ∀ q : Nat, s.heap.size ≤ q → A q := fun q h => by rw [← hAe]; exact Or.inr h
  have hS : va_S A s.heap s.heap [] := va_S.rf
  have hl := lv_entry ([.ref h, .int v1, .int v2]) (n := 3) (Nat.le_of_ble_eq_true rfl)
  rw [lg_entry_eq]
  generalize (lg_sl ([.ref h, .int v1, .int v2]) ++ List.replicate (3 - (lg_sl ([.ref h, .int v1, .int v2])).length) Slot.unset).toArray = ls at hl ⊢
  have hl : lv_has ls 3 [(0, .ref h), (1, .int v1), (2, .int v2)] := hl
  refine lv_aload_n hx hb dX4_init_0 rfl (lv_at hl 0 rfl) ?_
  refine W.objInit hx hb hown (hts _ mw_259) (hts _ mw_24) (hts _ mw_25) rfl (by rw [hml]; exact hl.1) rfl dX4_init_1 (Nat.le_of_ble_eq_true rfl) (Nat.le_of_ble_eq_true rfl) ?_
  refine W.eq (g2 := F0 m 4 ls []) rfl ?_
  refine lv_aload_n hx hb dX4_init_4 rfl (lv_at hl 0 rfl) ?_
  refine lv_iload_n hx hb dX4_init_5 rfl (lv_at hl 1 rfl) ?_
  refine va_put (D := (dC, dI)) (ci := 4) (v := .int v1) (ty := .int) (C := RX4) (T := TX4) (N := 2) hx hb hts inX4 tyX4 tyX4_ok nmX4 hown hK hP hD hS 0 rfl rfl 0 (by decide) (hts _ mw_260) (fun _ h9 => h9) rfl (by decide +kernel) rfl rfl (Nat.le_of_ble_eq_true rfl) dX4_init_6 (fun H locs hP hD hS => ?_)
  obtain ⟨hP, hD⟩ := va_bo [(h, .inr (4, [.int v1, .int 0]))] hP hD
  refine lv_aload_n hx hb dX4_init_9 rfl (lv_at hl 0 rfl) ?_
  refine lv_iload_n hx hb dX4_init_10 rfl (lv_at hl 2 rfl) ?_
  refine va_putF (D := (dC, dI)) (ci := 4) (v := .int v2) (ty := .int) (C := RX4) (T := TX4) (N := 2) hx hb hts inX4 tyX4 tyX4_ok nmX4 hown hK hP hD hS 0 rfl rfl 1 (by decide) (hts _ mw_262) (fun _ h9 => h9) rfl hin rfl (by decide +kernel) rfl rfl (Nat.le_of_ble_eq_true rfl) dX4_init_11 (fun H locs hP hD hS => ?_)
  obtain ⟨hP, hD⟩ := va_bo [(h, .inr (4, [.int v1, .int v2]))] hP hD
  refine W.widen (k := 0) (n := 0) (Nat.le_of_ble_eq_true rfl) (Nat.le_of_ble_eq_true rfl) ?_
  have hP9 : va_P (dC, dI) vwCl [(h, .inr (4, [.int v1, .int v2]))] H := va_P.sub hP [0] rfl
  have hD9 : va_D A [(h, .inr (4, [.int v1, .int v2]))] := va_D.sub hD [0] (by decide) rfl
  exact W.vret hx hb hr (fun t ht hW => ⟨⟨(), rfl, trivial, by rw [ht]; exact hP9, hD9⟩, hS.F ht⟩) hS.2.2 dX4_init_14

set_option maxHeartbeats 4000000 in
set_option maxRecDepth 100000 in
theorem c_Batch (l : Launch) (dC : Nat → ClassId) (dI : Nat → Nat → Nat) (ca : Nat → ClassId) (sz : Nat) (h : Nat) (v1 : Int32) : Met l yX0_init (Cond.code yX0_init cX0_init 2 none :: gT) ({ frames := 2, cells := 3, slots := 124, locals := 80 }) (va_Pc [.ref h, .int v1] (pr (dC, dI) sz [(h, .inr (0, [.int 0, .null, .int 0, .int 0, .long 0, .int 0, .int 0, .int 0, .int 0, .int 0, .int 0, .int 0, .int 0, .int 0, .int 0, .int 0]))] (aT ca))) (va_Qv (fun (u_ : Nat × Nat × Nat) => True) (fun (u_ : Nat × Nat × Nat) t => va_P (dC, dI) vwCl [(h, .inr (0, [.int v1, .ref u_.1, .int 0, .int 0, .long 0, .int 0, .int 0, .int 0, .int 0, .int (-1000001), .int (-1), .int (-1), .int 0, .int 0, .int 0, .int 0])), (u_.1, .inr (7, [.ref u_.2.1, .ref u_.2.2, .int 0, .int 0])), (u_.2.1, .inl (ca 0, 60, .inl (fun _ => 0))), (u_.2.2, .inl (ca 1, 60, .inl (fun _ => 0)))] t.heap ∧ va_D (va_A [(h, .inr (0, [.int 0, .null, .int 0, .int 0, .long 0, .int 0, .int 0, .int 0, .int 0, .int 0, .int 0, .int 0, .int 0, .int 0, .int 0, .int 0]))] sz) [(h, .inr (0, [.int v1, .ref u_.1, .int 0, .int 0, .long 0, .int 0, .int 0, .int 0, .int 0, .int (-1000001), .int (-1), .int (-1), .int 0, .int 0, .int 0, .int 0])), (u_.1, .inr (7, [.ref u_.2.1, .ref u_.2.2, .int 0, .int 0])), (u_.2.1, .inl (ca 0, 60, .inl (fun _ => 0))), (u_.2.2, .inl (ca 1, 60, .inl (fun _ => 0)))]) (va_A [(h, .inr (0, [.int 0, .null, .int 0, .int 0, .long 0, .int 0, .int 0, .int 0, .int 0, .int 0, .int 0, .int 0, .int 0, .int 0, .int 0, .int 0]))] sz)) 3 124 (va_A [(h, .inr (0, [.int 0, .null, .int 0, .int 0, .long 0, .int 0, .int 0, .int 0, .int 0, .int 0, .int 0, .int 0, .int 0, .int 0, .int 0, .int 0]))] sz) := by
  refine Met.ofW (cc := cX0_init) (maxL := 2) (ret := none) (by decide) rfl ?_
  intro p e s m args below meth c s₁ B hml hv
  obtain ⟨rfl, hsz, hP, hK, hD0, hE⟩ := hv
  have hx := B.exec
  have hb := B.bytes
  have hr := B.returns
  have hts : ∀ w ∈ gT, w.before _ s = true := fun w h => atoms_spec (ws := Cond.code yX0_init cX0_init 2 none :: gT) B.pre w (List.mem_cons_of_mem _ h)
  have hown : s.vm.findClass RX0 = some m.cls := findClass_of_methodNamed B.named
  have hlocks := B.notSynchronized
  have hin : meth.name = "<init>" := (name_of_methodNamed B.named B.method).1
  subst hsz
  have hD := hD0.self (sz := s.heap.size)
  generalize hAe : va_A [(h, .inr (0, [.int 0, .null, .int 0, .int 0, .long 0, .int 0, .int 0, .int 0, .int 0, .int 0, .int 0, .int 0, .int 0, .int 0, .int 0, .int 0]))] s.heap.size = A at hD ⊢
  have hA : ∀ q : Nat, s.heap.size ≤ q → A q := fun q h => by rw [← hAe]; exact Or.inr h
  have hS : va_S A s.heap s.heap [] := va_S.rf
  have hl := lv_entry ([.ref h, .int v1]) (n := 2) (Nat.le_of_ble_eq_true rfl)
  rw [lg_entry_eq]
  generalize (lg_sl ([.ref h, .int v1]) ++ List.replicate (2 - (lg_sl ([.ref h, .int v1])).length) Slot.unset).toArray = ls at hl ⊢
  have hl : lv_has ls 2 [(0, .ref h), (1, .int v1)] := hl
  refine lv_aload_n hx hb dX0_init_0 rfl (lv_at hl 0 rfl) ?_
  refine W.objInit hx hb hown (hts _ mw_280) (hts _ mw_24) (hts _ mw_25) rfl (by rw [hml]; exact hl.1) rfl dX0_init_1 (Nat.le_of_ble_eq_true rfl) (Nat.le_of_ble_eq_true rfl) ?_
  refine W.eq (g2 := F0 m 4 ls []) rfl ?_
  refine lv_aload_n hx hb dX0_init_4 rfl (lv_at hl 0 rfl) ?_
  refine va_new (ci := 7) (fs := [.null, .null, .int 0, .int 0]) (C := RX7) (T := TX7) (N := 4) hx hb hts inX7 tyX7 tyX7_ok hown (hts _ mw_281) (hts _ mw_282) (hts _ mw_11) hK hP hD hS hA rfl dfX7 (Nat.le_of_ble_eq_true rfl) (Nat.le_of_ble_eq_true rfl) dX0_init_5 (fun q1 H hP hD hS => ?_)
  refine W.widen (k := 1) (n := 4) (Nat.le_of_ble_eq_true rfl) (Nat.le_of_ble_eq_true rfl) ?_
  obtain ⟨hP, hD⟩ := va_bo [(h, .inr (0, [.int 0, .null, .int 0, .int 0, .long 0, .int 0, .int 0, .int 0, .int 0, .int 0, .int 0, .int 0, .int 0, .int 0, .int 0, .int 0])), (q1, .inr (7, [.null, .null, .int 0, .int 0]))] hP hD
  refine lv_dup hx hb dX0_init_8 rfl ?_
  have hPc := hP.sub (ws' := [(q1, .inr (7, [.null, .null, .int 0, .int 0]))]) [1] rfl
  have hDc := hD.sub (ws' := [(q1, .inr (7, [.null, .null, .int 0, .int 0]))]) [1] (by decide) rfl
  have hFc := va_free (wc := [(q1, .inr (7, [.null, .null, .int 0, .int 0]))]) hD hS hA [1] rfl
  refine va_callv (va_runI (As := []) (rest := [.ref q1, .ref h]) ⟨hx, hb, hml, hown, hts⟩ (c_Rows l dC dI ca H.size q1 ) (⟨callB_of 0 hts (gd mw_285) rfl rfl rfl (hts _ mw_11) (hts _ mw_283) ds_X7_init ⟨Nat.le_of_ble_eq_true rfl, Nat.le_of_ble_eq_true rfl⟩, rfl, (hts _ mw_284)⟩) (pr_S hPc hK hDc hE) rfl rfl hl.1 rfl (lv_room (Nat.le_of_ble_eq_true rfl)) dX0_init_9 ⟨Nat.le_of_ble_eq_true rfl, Nat.le_of_ble_eq_true rfl⟩) hS (fun q _ h => hFc q h) hFc (fun u_ t_ H1 locs ht hvm hw_ hB hz1 hk1 hS => ?_)
  obtain ⟨q1_2, q2_2⟩ := u_
  obtain ⟨hP1, hD1⟩ := hB
  rw [ht] at hP1
  obtain ⟨hP, hD⟩ := va_join (wr := [(h, .inr (0, [.int 0, .null, .int 0, .int 0, .long 0, .int 0, .int 0, .int 0, .int 0, .int 0, .int 0, .int 0, .int 0, .int 0, .int 0, .int 0]))]) (w1 := [(q1, .inr (7, [.ref q1_2, .ref q2_2, .int 0, .int 0])), (q1_2, .inl (ca 0, 60, .inl (fun _ => 0))), (q2_2, .inl (ca 1, 60, .inl (fun _ => 0)))]) hP hD [1] [0] rfl rfl (by decide) (by decide) hk1 hFc hP1 hD1
  generalize H1 = H at hP hS ⊢
  obtain ⟨hP, hD⟩ := va_bo [(h, .inr (0, [.int 0, .null, .int 0, .int 0, .long 0, .int 0, .int 0, .int 0, .int 0, .int 0, .int 0, .int 0, .int 0, .int 0, .int 0, .int 0])), (q1, .inr (7, [.ref q1_2, .ref q2_2, .int 0, .int 0])), (q1_2, .inl (ca 0, 60, .inl (fun _ => 0))), (q2_2, .inl (ca 1, 60, .inl (fun _ => 0)))] hP hD
  refine W.widen (k := 3) (n := 124) (Nat.le_of_ble_eq_true rfl) (Nat.le_of_ble_eq_true rfl) ?_
  refine va_putF (D := (dC, dI)) (ci := 0) (v := .ref q1) (ty := .object "SugarKitchen$Rows") (C := RX0) (T := TX0) (N := 16) hx hb hts inX0 tyX0 tyX0_ok nmX0 hown hK hP hD hS 0 rfl rfl 1 (by decide) (hts _ mw_307) (fun _ h9 => h9) rfl hin rfl (by decide +kernel) rfl rfl (Nat.le_of_ble_eq_true rfl) dX0_init_12 (fun H locs hP hD hS => ?_)
  obtain ⟨hP, hD⟩ := va_bo [(h, .inr (0, [.int 0, .ref q1, .int 0, .int 0, .long 0, .int 0, .int 0, .int 0, .int 0, .int 0, .int 0, .int 0, .int 0, .int 0, .int 0, .int 0])), (q1, .inr (7, [.ref q1_2, .ref q2_2, .int 0, .int 0])), (q1_2, .inl (ca 0, 60, .inl (fun _ => 0))), (q2_2, .inl (ca 1, 60, .inl (fun _ => 0)))] hP hD
  refine lv_aload_n hx hb dX0_init_15 rfl (lv_at hl 0 rfl) ?_
  refine lv_ldc (v := (-1000001)) hx hb hown (hts _ mw_303) dX0_init_16 ?_
  refine va_put (D := (dC, dI)) (ci := 0) (v := .int (-1000001)) (ty := .int) (C := RX0) (T := TX0) (N := 16) hx hb hts inX0 tyX0 tyX0_ok nmX0 hown hK hP hD hS 0 rfl rfl 9 (by decide) (hts _ mw_321) (fun _ h9 => h9) rfl (by decide +kernel) rfl rfl (Nat.le_of_ble_eq_true rfl) dX0_init_18 (fun H locs hP hD hS => ?_)
  obtain ⟨hP, hD⟩ := va_bo [(h, .inr (0, [.int 0, .ref q1, .int 0, .int 0, .long 0, .int 0, .int 0, .int 0, .int 0, .int (-1000001), .int 0, .int 0, .int 0, .int 0, .int 0, .int 0])), (q1, .inr (7, [.ref q1_2, .ref q2_2, .int 0, .int 0])), (q1_2, .inl (ca 0, 60, .inl (fun _ => 0))), (q2_2, .inl (ca 1, 60, .inl (fun _ => 0)))] hP hD
  refine lv_aload_n hx hb dX0_init_21 rfl (lv_at hl 0 rfl) ?_
  refine lv_iconst (v := (-1)) hx hb dX0_init_22 (by decide) ?_
  refine va_put (D := (dC, dI)) (ci := 0) (v := .int (-1)) (ty := .int) (C := RX0) (T := TX0) (N := 16) hx hb hts inX0 tyX0 tyX0_ok nmX0 hown hK hP hD hS 0 rfl rfl 10 (by decide) (hts _ mw_322) (fun _ h9 => h9) rfl (by decide +kernel) rfl rfl (Nat.le_of_ble_eq_true rfl) dX0_init_23 (fun H locs hP hD hS => ?_)
  obtain ⟨hP, hD⟩ := va_bo [(h, .inr (0, [.int 0, .ref q1, .int 0, .int 0, .long 0, .int 0, .int 0, .int 0, .int 0, .int (-1000001), .int (-1), .int 0, .int 0, .int 0, .int 0, .int 0])), (q1, .inr (7, [.ref q1_2, .ref q2_2, .int 0, .int 0])), (q1_2, .inl (ca 0, 60, .inl (fun _ => 0))), (q2_2, .inl (ca 1, 60, .inl (fun _ => 0)))] hP hD
  refine lv_aload_n hx hb dX0_init_26 rfl (lv_at hl 0 rfl) ?_
  refine lv_iconst (v := (-1)) hx hb dX0_init_27 (by decide) ?_
  refine va_put (D := (dC, dI)) (ci := 0) (v := .int (-1)) (ty := .int) (C := RX0) (T := TX0) (N := 16) hx hb hts inX0 tyX0 tyX0_ok nmX0 hown hK hP hD hS 0 rfl rfl 11 (by decide) (hts _ mw_323) (fun _ h9 => h9) rfl (by decide +kernel) rfl rfl (Nat.le_of_ble_eq_true rfl) dX0_init_28 (fun H locs hP hD hS => ?_)
  obtain ⟨hP, hD⟩ := va_bo [(h, .inr (0, [.int 0, .ref q1, .int 0, .int 0, .long 0, .int 0, .int 0, .int 0, .int 0, .int (-1000001), .int (-1), .int (-1), .int 0, .int 0, .int 0, .int 0])), (q1, .inr (7, [.ref q1_2, .ref q2_2, .int 0, .int 0])), (q1_2, .inl (ca 0, 60, .inl (fun _ => 0))), (q2_2, .inl (ca 1, 60, .inl (fun _ => 0)))] hP hD
  refine lv_aload_n hx hb dX0_init_31 rfl (lv_at hl 0 rfl) ?_
  refine lv_iload_n hx hb dX0_init_32 rfl (lv_at hl 1 rfl) ?_
  refine va_putF (D := (dC, dI)) (ci := 0) (v := .int v1) (ty := .int) (C := RX0) (T := TX0) (N := 16) hx hb hts inX0 tyX0 tyX0_ok nmX0 hown hK hP hD hS 0 rfl rfl 0 (by decide) (hts _ mw_305) (fun _ h9 => h9) rfl hin rfl (by decide +kernel) rfl rfl (Nat.le_of_ble_eq_true rfl) dX0_init_33 (fun H locs hP hD hS => ?_)
  obtain ⟨hP, hD⟩ := va_bo [(h, .inr (0, [.int v1, .ref q1, .int 0, .int 0, .long 0, .int 0, .int 0, .int 0, .int 0, .int (-1000001), .int (-1), .int (-1), .int 0, .int 0, .int 0, .int 0])), (q1, .inr (7, [.ref q1_2, .ref q2_2, .int 0, .int 0])), (q1_2, .inl (ca 0, 60, .inl (fun _ => 0))), (q2_2, .inl (ca 1, 60, .inl (fun _ => 0)))] hP hD
  refine W.widen (k := 3) (n := 124) (Nat.le_of_ble_eq_true rfl) (Nat.le_of_ble_eq_true rfl) ?_
  have hP9 : va_P (dC, dI) vwCl [(h, .inr (0, [.int v1, .ref q1, .int 0, .int 0, .long 0, .int 0, .int 0, .int 0, .int 0, .int (-1000001), .int (-1), .int (-1), .int 0, .int 0, .int 0, .int 0])), (q1, .inr (7, [.ref q1_2, .ref q2_2, .int 0, .int 0])), (q1_2, .inl (ca 0, 60, .inl (fun _ => 0))), (q2_2, .inl (ca 1, 60, .inl (fun _ => 0)))] H := va_P.sub hP [0, 1, 2, 3] rfl
  have hD9 : va_D A [(h, .inr (0, [.int v1, .ref q1, .int 0, .int 0, .long 0, .int 0, .int 0, .int 0, .int 0, .int (-1000001), .int (-1), .int (-1), .int 0, .int 0, .int 0, .int 0])), (q1, .inr (7, [.ref q1_2, .ref q2_2, .int 0, .int 0])), (q1_2, .inl (ca 0, 60, .inl (fun _ => 0))), (q2_2, .inl (ca 1, 60, .inl (fun _ => 0)))] := va_D.sub hD [0, 1, 2, 3] (by decide) rfl
  exact W.vret hx hb hr (fun t ht hW => ⟨⟨(q1, q1_2, q2_2), rfl, trivial, by rw [ht]; dsimp only; exact hP9, by dsimp only; exact hD9⟩, hS.F ht⟩) hS.2.2 dX0_init_36

set_option maxHeartbeats 4000000 in
set_option maxRecDepth 100000 in
theorem c_Piece (l : Launch) (dC : Nat → ClassId) (dI : Nat → Nat → Nat) (ca : Nat → ClassId) (sz : Nat) (h : Nat) (g : Nat) (ro : Nat) (b0 : Int32) (b2 : Int32) (b3 : Int32) (b4 : Int64) (b5 : Int32) (b6 : Int32) (b7 : Int32) (b8 : Int32) (b9 : Int32) (b10 : Int32) (b11 : Int32) (b12 : Int32) (b13 : Int32) (b14 : Int32) (b15 : Int32) (v1 : Int32) (v2 : Int32) : Met l yX6_init (Cond.code yX6_init cX6_init 4 none :: gT) ({ frames := 1, cells := 0, slots := 0, locals := 60 }) (va_Pc [.ref h, .int v1, .ref g, .int v2] (pr (dC, dI) sz [(h, .inr (6, [.int 0, .int 0, .int 0, .long 0, .int 0, .int 0, .int 0, .int 0, .int 0])), (g, .inr (0, [.int b0, .ref ro, .int b2, .int b3, .long b4, .int b5, .int b6, .int b7, .int b8, .int b9, .int b10, .int b11, .int b12, .int b13, .int b14, .int b15]))] (aT ca))) (va_Qv (fun (u_ : Int32) => u_ = 0 ∨ u_ = 1) (fun (u_ : Int32) t => va_P (dC, dI) vwCl [(h, .inr (6, [.int v1, .int u_, .int v2, .long b4, .int (-1), .int 0, .int 0, .int 0, .int (-1)])), (g, .inr (0, [.int b0, .ref ro, .int b2, .int b3, .long b4, .int b5, .int b6, .int b7, .int b8, .int b9, .int b10, .int b11, .int b12, .int b13, .int b14, .int b15]))] t.heap ∧ va_D (va_A [(h, .inr (6, [.int 0, .int 0, .int 0, .long 0, .int 0, .int 0, .int 0, .int 0, .int 0])), (g, .inr (0, [.int b0, .ref ro, .int b2, .int b3, .long b4, .int b5, .int b6, .int b7, .int b8, .int b9, .int b10, .int b11, .int b12, .int b13, .int b14, .int b15]))] sz) [(h, .inr (6, [.int v1, .int u_, .int v2, .long b4, .int (-1), .int 0, .int 0, .int 0, .int (-1)])), (g, .inr (0, [.int b0, .ref ro, .int b2, .int b3, .long b4, .int b5, .int b6, .int b7, .int b8, .int b9, .int b10, .int b11, .int b12, .int b13, .int b14, .int b15]))]) (va_A [(h, .inr (6, [.int 0, .int 0, .int 0, .long 0, .int 0, .int 0, .int 0, .int 0, .int 0])), (g, .inr (0, [.int b0, .ref ro, .int b2, .int b3, .long b4, .int b5, .int b6, .int b7, .int b8, .int b9, .int b10, .int b11, .int b12, .int b13, .int b14, .int b15]))] sz)) 0 0 (va_A [(h, .inr (6, [.int 0, .int 0, .int 0, .long 0, .int 0, .int 0, .int 0, .int 0, .int 0])), (g, .inr (0, [.int b0, .ref ro, .int b2, .int b3, .long b4, .int b5, .int b6, .int b7, .int b8, .int b9, .int b10, .int b11, .int b12, .int b13, .int b14, .int b15]))] sz) := by
  refine Met.ofW (cc := cX6_init) (maxL := 4) (ret := none) (by decide) rfl ?_
  intro p e s m args below meth c s₁ B hml hv
  obtain ⟨rfl, hsz, hP, hK, hD0, hE⟩ := hv
  have hx := B.exec
  have hb := B.bytes
  have hr := B.returns
  have hts : ∀ w ∈ gT, w.before _ s = true := fun w h => atoms_spec (ws := Cond.code yX6_init cX6_init 4 none :: gT) B.pre w (List.mem_cons_of_mem _ h)
  have hown : s.vm.findClass RX6 = some m.cls := findClass_of_methodNamed B.named
  have hlocks := B.notSynchronized
  have hin : meth.name = "<init>" := (name_of_methodNamed B.named B.method).1
  subst hsz
  have hD := hD0.self (sz := s.heap.size)
  generalize hAe : va_A [(h, .inr (6, [.int 0, .int 0, .int 0, .long 0, .int 0, .int 0, .int 0, .int 0, .int 0])), (g, .inr (0, [.int b0, .ref ro, .int b2, .int b3, .long b4, .int b5, .int b6, .int b7, .int b8, .int b9, .int b10, .int b11, .int b12, .int b13, .int b14, .int b15]))] s.heap.size = A at hD ⊢
  have hA : ∀ q : Nat, s.heap.size ≤ q → A q := fun q h => by rw [← hAe]; exact Or.inr h
  have hS : va_S A s.heap s.heap [] := va_S.rf
  have hl := lv_entry ([.ref h, .int v1, .ref g, .int v2]) (n := 4) (Nat.le_of_ble_eq_true rfl)
  rw [lg_entry_eq]
  generalize (lg_sl ([.ref h, .int v1, .ref g, .int v2]) ++ List.replicate (4 - (lg_sl ([.ref h, .int v1, .ref g, .int v2])).length) Slot.unset).toArray = ls at hl ⊢
  have hl : lv_has ls 4 [(0, .ref h), (1, .int v1), (2, .ref g), (3, .int v2)] := hl
  refine lv_aload_n hx hb dX6_init_0 rfl (lv_at hl 0 rfl) ?_
  refine W.objInit hx hb hown (hts _ mw_549) (hts _ mw_24) (hts _ mw_25) rfl (by rw [hml]; exact hl.1) rfl dX6_init_1 (Nat.le_of_ble_eq_true rfl) (Nat.le_of_ble_eq_true rfl) ?_
  refine W.eq (g2 := F0 m 4 ls []) rfl ?_
  refine lv_aload_n hx hb dX6_init_4 rfl (lv_at hl 0 rfl) ?_
  refine lv_iconst (v := (-1)) hx hb dX6_init_5 (by decide) ?_
  refine va_put (D := (dC, dI)) (ci := 6) (v := .int (-1)) (ty := .int) (C := RX6) (T := TX6) (N := 9) hx hb hts inX6 tyX6 tyX6_ok nmX6 hown hK hP hD hS 0 rfl rfl 4 (by decide) (hts _ mw_556) (fun _ h9 => h9) rfl (by decide +kernel) rfl rfl (Nat.le_of_ble_eq_true rfl) dX6_init_6 (fun H locs hP hD hS => ?_)
  obtain ⟨hP, hD⟩ := va_bo [(h, .inr (6, [.int 0, .int 0, .int 0, .long 0, .int (-1), .int 0, .int 0, .int 0, .int 0])), (g, .inr (0, [.int b0, .ref ro, .int b2, .int b3, .long b4, .int b5, .int b6, .int b7, .int b8, .int b9, .int b10, .int b11, .int b12, .int b13, .int b14, .int b15]))] hP hD
  refine lv_aload_n hx hb dX6_init_9 rfl (lv_at hl 0 rfl) ?_
  refine lv_iconst (v := 0) hx hb dX6_init_10 (by decide) ?_
  refine va_put (D := (dC, dI)) (ci := 6) (v := .int 0) (ty := .int) (C := RX6) (T := TX6) (N := 9) hx hb hts inX6 tyX6 tyX6_ok nmX6 hown hK hP hD hS 0 rfl rfl 7 (by decide) (hts _ mw_562) (fun _ h9 => h9) rfl (by decide +kernel) rfl rfl (Nat.le_of_ble_eq_true rfl) dX6_init_11 (fun H locs hP hD hS => ?_)
  obtain ⟨hP, hD⟩ := va_bo [(h, .inr (6, [.int 0, .int 0, .int 0, .long 0, .int (-1), .int 0, .int 0, .int 0, .int 0])), (g, .inr (0, [.int b0, .ref ro, .int b2, .int b3, .long b4, .int b5, .int b6, .int b7, .int b8, .int b9, .int b10, .int b11, .int b12, .int b13, .int b14, .int b15]))] hP hD
  refine lv_aload_n hx hb dX6_init_14 rfl (lv_at hl 0 rfl) ?_
  refine lv_iconst (v := (-1)) hx hb dX6_init_15 (by decide) ?_
  refine va_put (D := (dC, dI)) (ci := 6) (v := .int (-1)) (ty := .int) (C := RX6) (T := TX6) (N := 9) hx hb hts inX6 tyX6 tyX6_ok nmX6 hown hK hP hD hS 0 rfl rfl 8 (by decide) (hts _ mw_564) (fun _ h9 => h9) rfl (by decide +kernel) rfl rfl (Nat.le_of_ble_eq_true rfl) dX6_init_16 (fun H locs hP hD hS => ?_)
  obtain ⟨hP, hD⟩ := va_bo [(h, .inr (6, [.int 0, .int 0, .int 0, .long 0, .int (-1), .int 0, .int 0, .int 0, .int (-1)])), (g, .inr (0, [.int b0, .ref ro, .int b2, .int b3, .long b4, .int b5, .int b6, .int b7, .int b8, .int b9, .int b10, .int b11, .int b12, .int b13, .int b14, .int b15]))] hP hD
  refine lv_aload_n hx hb dX6_init_19 rfl (lv_at hl 0 rfl) ?_
  refine lv_iload_n hx hb dX6_init_20 rfl (lv_at hl 1 rfl) ?_
  refine va_putF (D := (dC, dI)) (ci := 6) (v := .int v1) (ty := .int) (C := RX6) (T := TX6) (N := 9) hx hb hts inX6 tyX6 tyX6_ok nmX6 hown hK hP hD hS 0 rfl rfl 0 (by decide) (hts _ mw_550) (fun _ h9 => h9) rfl hin rfl (by decide +kernel) rfl rfl (Nat.le_of_ble_eq_true rfl) dX6_init_21 (fun H locs hP hD hS => ?_)
  obtain ⟨hP, hD⟩ := va_bo [(h, .inr (6, [.int v1, .int 0, .int 0, .long 0, .int (-1), .int 0, .int 0, .int 0, .int (-1)])), (g, .inr (0, [.int b0, .ref ro, .int b2, .int b3, .long b4, .int b5, .int b6, .int b7, .int b8, .int b9, .int b10, .int b11, .int b12, .int b13, .int b14, .int b15]))] hP hD
  refine lv_aload_n hx hb dX6_init_24 rfl (lv_at hl 0 rfl) ?_
  refine lv_aload_n hx hb dX6_init_25 rfl (lv_at hl 2 rfl) ?_
  refine va_get (D := (dC, dI)) (ci := 0) (v := .int b0) (C := RX0) (T := TX0) (N := 16) hx hb hts inX0 hown hK hP 1 rfl rfl 0 (by decide) (hts _ mw_304) (fun _ h9 => h9) rfl dX6_init_26 ?_
  refine lv_iconst (v := 4) hx hb dX6_init_29 (by decide) ?_
  refine lv_icmp_ne (tgt := 37) hx hb dX6_init_30 (by decide) (fun c_1 => ?_) (fun c_1 => ?_)
  · refine lv_iconst (v := 0) hx hb dX6_init_37 (by decide) ?_
    refine va_putF (D := (dC, dI)) (ci := 6) (v := .int 0) (ty := .boolean) (C := RX6) (T := TX6) (N := 9) hx hb hts inX6 tyX6 tyX6_ok nmX6 hown hK hP hD hS 0 rfl rfl 1 (by decide) (hts _ mw_551) (fun _ h9 => h9) rfl hin rfl (by decide +kernel) rfl rfl (Nat.le_of_ble_eq_true rfl) dX6_init_38 (fun H locs hP hD hS => ?_)
    obtain ⟨hP, hD⟩ := va_bo [(h, .inr (6, [.int v1, .int 0, .int 0, .long 0, .int (-1), .int 0, .int 0, .int 0, .int (-1)])), (g, .inr (0, [.int b0, .ref ro, .int b2, .int b3, .long b4, .int b5, .int b6, .int b7, .int b8, .int b9, .int b10, .int b11, .int b12, .int b13, .int b14, .int b15]))] hP hD
    refine lv_aload_n hx hb dX6_init_41 rfl (lv_at hl 0 rfl) ?_
    refine lv_iload_n hx hb dX6_init_42 rfl (lv_at hl 3 rfl) ?_
    refine va_put (D := (dC, dI)) (ci := 6) (v := .int v2) (ty := .int) (C := RX6) (T := TX6) (N := 9) hx hb hts inX6 tyX6 tyX6_ok nmX6 hown hK hP hD hS 0 rfl rfl 2 (by decide) (hts _ mw_552) (fun _ h9 => h9) rfl (by decide +kernel) rfl rfl (Nat.le_of_ble_eq_true rfl) dX6_init_43 (fun H locs hP hD hS => ?_)
    obtain ⟨hP, hD⟩ := va_bo [(h, .inr (6, [.int v1, .int 0, .int v2, .long 0, .int (-1), .int 0, .int 0, .int 0, .int (-1)])), (g, .inr (0, [.int b0, .ref ro, .int b2, .int b3, .long b4, .int b5, .int b6, .int b7, .int b8, .int b9, .int b10, .int b11, .int b12, .int b13, .int b14, .int b15]))] hP hD
    refine lv_aload_n hx hb dX6_init_46 rfl (lv_at hl 0 rfl) ?_
    refine lv_aload_n hx hb dX6_init_47 rfl (lv_at hl 2 rfl) ?_
    refine va_get (D := (dC, dI)) (ci := 0) (v := .long b4) (C := RX0) (T := TX0) (N := 16) hx hb hts inX0 hown hK hP 1 rfl rfl 4 (by decide) (hts _ mw_313) (fun _ h9 => h9) rfl dX6_init_48 ?_
    refine va_put (D := (dC, dI)) (ci := 6) (v := .long b4) (ty := .long) (C := RX6) (T := TX6) (N := 9) hx hb hts inX6 tyX6 tyX6_ok nmX6 hown hK hP hD hS 0 rfl rfl 3 (by decide) (hts _ mw_554) (fun _ h9 => h9) rfl (by decide +kernel) rfl rfl (Nat.le_of_ble_eq_true rfl) dX6_init_51 (fun H locs hP hD hS => ?_)
    obtain ⟨hP, hD⟩ := va_bo [(h, .inr (6, [.int v1, .int 0, .int v2, .long b4, .int (-1), .int 0, .int 0, .int 0, .int (-1)])), (g, .inr (0, [.int b0, .ref ro, .int b2, .int b3, .long b4, .int b5, .int b6, .int b7, .int b8, .int b9, .int b10, .int b11, .int b12, .int b13, .int b14, .int b15]))] hP hD
    refine W.widen (k := 0) (n := 0) (Nat.le_of_ble_eq_true rfl) (Nat.le_of_ble_eq_true rfl) ?_
    have hP9 : va_P (dC, dI) vwCl [(h, .inr (6, [.int v1, .int 0, .int v2, .long b4, .int (-1), .int 0, .int 0, .int 0, .int (-1)])), (g, .inr (0, [.int b0, .ref ro, .int b2, .int b3, .long b4, .int b5, .int b6, .int b7, .int b8, .int b9, .int b10, .int b11, .int b12, .int b13, .int b14, .int b15]))] H := va_P.sub hP [0, 1] rfl
    have hD9 : va_D A [(h, .inr (6, [.int v1, .int 0, .int v2, .long b4, .int (-1), .int 0, .int 0, .int 0, .int (-1)])), (g, .inr (0, [.int b0, .ref ro, .int b2, .int b3, .long b4, .int b5, .int b6, .int b7, .int b8, .int b9, .int b10, .int b11, .int b12, .int b13, .int b14, .int b15]))] := va_D.sub hD [0, 1] (by decide) rfl
    exact W.vret hx hb hr (fun t ht hW => ⟨⟨0, rfl, (Or.inl rfl), by rw [ht]; exact hP9, hD9⟩, hS.F ht⟩) hS.2.2 dX6_init_54
  · refine lv_iconst (v := 1) hx hb dX6_init_33 (by decide) ?_
    refine lv_goto (tgt := 38) hx hb dX6_init_34 (by decide) ?_
    refine va_putF (D := (dC, dI)) (ci := 6) (v := .int 1) (ty := .boolean) (C := RX6) (T := TX6) (N := 9) hx hb hts inX6 tyX6 tyX6_ok nmX6 hown hK hP hD hS 0 rfl rfl 1 (by decide) (hts _ mw_551) (fun _ h9 => h9) rfl hin rfl (by decide +kernel) rfl rfl (Nat.le_of_ble_eq_true rfl) dX6_init_38 (fun H locs hP hD hS => ?_)
    obtain ⟨hP, hD⟩ := va_bo [(h, .inr (6, [.int v1, .int 1, .int 0, .long 0, .int (-1), .int 0, .int 0, .int 0, .int (-1)])), (g, .inr (0, [.int b0, .ref ro, .int b2, .int b3, .long b4, .int b5, .int b6, .int b7, .int b8, .int b9, .int b10, .int b11, .int b12, .int b13, .int b14, .int b15]))] hP hD
    refine lv_aload_n hx hb dX6_init_41 rfl (lv_at hl 0 rfl) ?_
    refine lv_iload_n hx hb dX6_init_42 rfl (lv_at hl 3 rfl) ?_
    refine va_put (D := (dC, dI)) (ci := 6) (v := .int v2) (ty := .int) (C := RX6) (T := TX6) (N := 9) hx hb hts inX6 tyX6 tyX6_ok nmX6 hown hK hP hD hS 0 rfl rfl 2 (by decide) (hts _ mw_552) (fun _ h9 => h9) rfl (by decide +kernel) rfl rfl (Nat.le_of_ble_eq_true rfl) dX6_init_43 (fun H locs hP hD hS => ?_)
    obtain ⟨hP, hD⟩ := va_bo [(h, .inr (6, [.int v1, .int 1, .int v2, .long 0, .int (-1), .int 0, .int 0, .int 0, .int (-1)])), (g, .inr (0, [.int b0, .ref ro, .int b2, .int b3, .long b4, .int b5, .int b6, .int b7, .int b8, .int b9, .int b10, .int b11, .int b12, .int b13, .int b14, .int b15]))] hP hD
    refine lv_aload_n hx hb dX6_init_46 rfl (lv_at hl 0 rfl) ?_
    refine lv_aload_n hx hb dX6_init_47 rfl (lv_at hl 2 rfl) ?_
    refine va_get (D := (dC, dI)) (ci := 0) (v := .long b4) (C := RX0) (T := TX0) (N := 16) hx hb hts inX0 hown hK hP 1 rfl rfl 4 (by decide) (hts _ mw_313) (fun _ h9 => h9) rfl dX6_init_48 ?_
    refine va_put (D := (dC, dI)) (ci := 6) (v := .long b4) (ty := .long) (C := RX6) (T := TX6) (N := 9) hx hb hts inX6 tyX6 tyX6_ok nmX6 hown hK hP hD hS 0 rfl rfl 3 (by decide) (hts _ mw_554) (fun _ h9 => h9) rfl (by decide +kernel) rfl rfl (Nat.le_of_ble_eq_true rfl) dX6_init_51 (fun H locs hP hD hS => ?_)
    obtain ⟨hP, hD⟩ := va_bo [(h, .inr (6, [.int v1, .int 1, .int v2, .long b4, .int (-1), .int 0, .int 0, .int 0, .int (-1)])), (g, .inr (0, [.int b0, .ref ro, .int b2, .int b3, .long b4, .int b5, .int b6, .int b7, .int b8, .int b9, .int b10, .int b11, .int b12, .int b13, .int b14, .int b15]))] hP hD
    refine W.widen (k := 0) (n := 0) (Nat.le_of_ble_eq_true rfl) (Nat.le_of_ble_eq_true rfl) ?_
    have hP9 : va_P (dC, dI) vwCl [(h, .inr (6, [.int v1, .int 1, .int v2, .long b4, .int (-1), .int 0, .int 0, .int 0, .int (-1)])), (g, .inr (0, [.int b0, .ref ro, .int b2, .int b3, .long b4, .int b5, .int b6, .int b7, .int b8, .int b9, .int b10, .int b11, .int b12, .int b13, .int b14, .int b15]))] H := va_P.sub hP [0, 1] rfl
    have hD9 : va_D A [(h, .inr (6, [.int v1, .int 1, .int v2, .long b4, .int (-1), .int 0, .int 0, .int 0, .int (-1)])), (g, .inr (0, [.int b0, .ref ro, .int b2, .int b3, .long b4, .int b5, .int b6, .int b7, .int b8, .int b9, .int b10, .int b11, .int b12, .int b13, .int b14, .int b15]))] := va_D.sub hD [0, 1] (by decide) rfl
    exact W.vret hx hb hr (fun t ht hW => ⟨⟨1, rfl, (Or.inr rfl), by rw [ht]; exact hP9, hD9⟩, hS.F ht⟩) hS.2.2 dX6_init_54

set_option maxHeartbeats 4000000 in
set_option maxRecDepth 100000 in
theorem c_Box (l : Launch) (dC : Nat → ClassId) (dI : Nat → Nat → Nat) (ca : Nat → ClassId) (sz : Nat) (h : Nat) (k : Nat) (v1 : Int32) (v2 : Int32) (hk : k ≤ 40) : Met l yX1_init (Cond.code yX1_init cX1_init 4 none :: gT) ({ frames := 2, cells := 1, slots := 40, locals := 60 }) (va_Pc [.ref h, .int v1, .int v2, .int (nI k)] (pr (dC, dI) sz [(h, .inr (1, [.int 0, .int 0, .null, .int 0, .long 0, .int 0]))] (aT ca))) (va_Qv (fun (u_ : Nat) => True) (fun (u_ : Nat) t => va_P (dC, dI) vwCl [(h, .inr (1, [.int v1, .int v2, .ref u_, .int 0, .long 0, .int 0])), (u_, .inl (ca 0, k, .inl (fun _ => 0)))] t.heap ∧ va_D (va_A [(h, .inr (1, [.int 0, .int 0, .null, .int 0, .long 0, .int 0]))] sz) [(h, .inr (1, [.int v1, .int v2, .ref u_, .int 0, .long 0, .int 0])), (u_, .inl (ca 0, k, .inl (fun _ => 0)))]) (va_A [(h, .inr (1, [.int 0, .int 0, .null, .int 0, .long 0, .int 0]))] sz)) 1 40 (va_A [(h, .inr (1, [.int 0, .int 0, .null, .int 0, .long 0, .int 0]))] sz) := by
  refine Met.ofW (cc := cX1_init) (maxL := 4) (ret := none) (by decide) rfl ?_
  intro p e s m args below meth c s₁ B hml hv
  obtain ⟨rfl, hsz, hP, hK, hD0, hE⟩ := hv
  have hx := B.exec
  have hb := B.bytes
  have hr := B.returns
  have hts : ∀ w ∈ gT, w.before _ s = true := fun w h => atoms_spec (ws := Cond.code yX1_init cX1_init 4 none :: gT) B.pre w (List.mem_cons_of_mem _ h)
  have hown : s.vm.findClass RX1 = some m.cls := findClass_of_methodNamed B.named
  have hlocks := B.notSynchronized
  have hin : meth.name = "<init>" := (name_of_methodNamed B.named B.method).1
  subst hsz
  have hD := hD0.self (sz := s.heap.size)
  generalize hAe : va_A [(h, .inr (1, [.int 0, .int 0, .null, .int 0, .long 0, .int 0]))] s.heap.size = A at hD ⊢
  have hA : ∀ q : Nat, s.heap.size ≤ q → A q := fun q h => by rw [← hAe]; exact Or.inr h
  have hS : va_S A s.heap s.heap [] := va_S.rf
  have hl := lv_entry ([.ref h, .int v1, .int v2, .int (nI k)]) (n := 4) (Nat.le_of_ble_eq_true rfl)
  rw [lg_entry_eq]
  generalize (lg_sl ([.ref h, .int v1, .int v2, .int (nI k)]) ++ List.replicate (4 - (lg_sl ([.ref h, .int v1, .int v2, .int (nI k)])).length) Slot.unset).toArray = ls at hl ⊢
  have hl : lv_has ls 4 [(0, .ref h), (1, .int v1), (2, .int v2), (3, .int (nI k))] := hl
  refine lv_aload_n hx hb dX1_init_0 rfl (lv_at hl 0 rfl) ?_
  refine W.objInit hx hb hown (hts _ mw_690) (hts _ mw_24) (hts _ mw_25) rfl (by rw [hml]; exact hl.1) rfl dX1_init_1 (Nat.le_of_ble_eq_true rfl) (Nat.le_of_ble_eq_true rfl) ?_
  refine W.eq (g2 := F0 m 4 ls []) rfl ?_
  refine lv_aload_n hx hb dX1_init_4 rfl (lv_at hl 0 rfl) ?_
  refine lv_iload_n hx hb dX1_init_5 rfl (lv_at hl 1 rfl) ?_
  refine va_putF (D := (dC, dI)) (ci := 1) (v := .int v1) (ty := .int) (C := RX1) (T := TX1) (N := 6) hx hb hts inX1 tyX1 tyX1_ok nmX1 hown hK hP hD hS 0 rfl rfl 0 (by decide) (hts _ mw_692) (fun _ h9 => h9) rfl hin rfl (by decide +kernel) rfl rfl (Nat.le_of_ble_eq_true rfl) dX1_init_6 (fun H locs hP hD hS => ?_)
  obtain ⟨hP, hD⟩ := va_bo [(h, .inr (1, [.int v1, .int 0, .null, .int 0, .long 0, .int 0]))] hP hD
  refine lv_aload_n hx hb dX1_init_9 rfl (lv_at hl 0 rfl) ?_
  refine lv_iload_n hx hb dX1_init_10 rfl (lv_at hl 2 rfl) ?_
  refine va_putF (D := (dC, dI)) (ci := 1) (v := .int v2) (ty := .int) (C := RX1) (T := TX1) (N := 6) hx hb hts inX1 tyX1 tyX1_ok nmX1 hown hK hP hD hS 0 rfl rfl 1 (by decide) (hts _ mw_693) (fun _ h9 => h9) rfl hin rfl (by decide +kernel) rfl rfl (Nat.le_of_ble_eq_true rfl) dX1_init_11 (fun H locs hP hD hS => ?_)
  obtain ⟨hP, hD⟩ := va_bo [(h, .inr (1, [.int v1, .int v2, .null, .int 0, .long 0, .int 0]))] hP hD
  refine lv_aload_n hx hb dX1_init_14 rfl (lv_at hl 0 rfl) ?_
  refine lv_iload_n hx hb dX1_init_15 rfl (lv_at hl 3 rfl) ?_
  refine lv_iconst (v := 0) hx hb dX1_init_16 (by decide) ?_
  refine va_mmax hx hb (by rw [hml]; exact hl.1.symm) hown (hts _ mw_691) (hts _ mw_388) (hts _ mw_12) (hts _ mmax_code) (Nat.le_of_ble_eq_true rfl) (Nat.le_of_ble_eq_true rfl) (Nat.le_of_ble_eq_true rfl) (Nat.le_of_ble_eq_true rfl) dX1_init_17 ?_
  refine lv_topi (fun y_ e_ => ?_)
  obtain rfl : y_ = (nI k) := e_.trans (if_neg (nI_pos (by omega)))
  refine va_newa (atype := .int) (ty := .int) (a0 := (k, .inl (fun _ => 0))) hx hb (hts _ mw_72) rfl hK hP hD hS hA (fun _ => rfl) (nI_pos (by omega)) (nI_clamp (by omega)) (by show k * 4 ≤ 536870912; omega) (by show (0 + 1) ≤ 1; omega) (by show (0 + k) ≤ 40; omega) dX1_init_20 (fun q1 y1 H hK9 hP hD hS => ?_)
  obtain rfl : y1 = ca 0 := ca_eq hK9 (tys := aT ca) 0 rfl
  obtain ⟨hP, hD⟩ := va_bo [(h, .inr (1, [.int v1, .int v2, .null, .int 0, .long 0, .int 0])), (q1, .inl (ca 0, k, .inl (fun _ => 0)))] hP hD
  refine va_putF (D := (dC, dI)) (ci := 1) (v := .ref q1) (ty := .array .int) (C := RX1) (T := TX1) (N := 6) hx hb hts inX1 tyX1 tyX1_ok nmX1 hown hK hP hD hS 0 rfl rfl 2 (by decide) (hts _ mw_694) (fun _ h9 => h9) rfl hin rfl (by decide +kernel) rfl rfl (Nat.le_of_ble_eq_true rfl) dX1_init_22 (fun H locs hP hD hS => ?_)
  obtain ⟨hP, hD⟩ := va_bo [(h, .inr (1, [.int v1, .int v2, .ref q1, .int 0, .long 0, .int 0])), (q1, .inl (ca 0, k, .inl (fun _ => 0)))] hP hD
  refine W.widen (k := 1) (n := 40) (by omega) (by omega) ?_
  have hP9 : va_P (dC, dI) vwCl [(h, .inr (1, [.int v1, .int v2, .ref q1, .int 0, .long 0, .int 0])), (q1, .inl (ca 0, k, .inl (fun _ => 0)))] H := va_P.sub hP [0, 1] rfl
  have hD9 : va_D A [(h, .inr (1, [.int v1, .int v2, .ref q1, .int 0, .long 0, .int 0])), (q1, .inl (ca 0, k, .inl (fun _ => 0)))] := va_D.sub hD [0, 1] (by decide) rfl
  exact W.vret hx hb hr (fun t ht hW => ⟨⟨q1, rfl, trivial, by rw [ht]; exact hP9, hD9⟩, hS.F ht⟩) hS.2.2 dX1_init_25
