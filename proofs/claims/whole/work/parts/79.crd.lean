/-! GROUND: the class reads -/
def gn_c0 (t : Int → Int) (n p : Int) : Int := if p < n then t p else 0
/-- the reader stands at p of the text t -/
def gn_Rd (t : Int → Int) (n p : Int) (M : gm_M) : Prop := gm_Lay M ∧ gm_gF M 401 81 = n ∧ gm_gF M 402 81 = p ∧ (0 ≤ n ∧ n ≤ 100) ∧ (0 ≤ p ∧ p ≤ n) ∧ ∀ i, 0 ≤ i → i < n → gm_gA M 82 i = t i ∧ 0 ≤ t i ∧ t i ≤ 127
theorem gn_Rd.sF {t : Int → Int} {n p q : Int} {M : gm_M} (h : gn_Rd t n p M) (hq : 0 ≤ q ∧ q ≤ n) : gn_Rd t n q (gm_sF M 402 81 q) := ⟨h.1.sF _ _ _ (by decide), h.2.1, rfl, h.2.2.2.1, hq, h.2.2.2.2.2⟩
theorem gn_M_ext {M N : gm_M} (h0 : M.1 = N.1) (h1 : ∀ (f : Nat) (o : Int), gm_gF M f o = gm_gF N f o) (h2 : ∀ a i : Int, gm_gA M a i = gm_gA N a i) : M = N := Prod.ext h0 (Prod.ext (funext fun f => funext fun o => h1 f o) (funext fun a => funext fun i => h2 a i))
theorem gn_sF_sF (M : gm_M) (f : Nat) (o v w : Int) : gm_sF (gm_sF M f o v) f o w = gm_sF M f o w := gn_M_ext rfl (fun f' o' => by
  rw [gm_gF_sF, gm_gF_sF, gm_gF_sF]
  split <;> rfl) (fun _ _ => rfl)
theorem gn_sF_id (M : gm_M) (f : Nat) (o : Int) {v : Int} (h : gm_gF M f o = v) : gm_sF M f o v = M := gn_M_ext rfl (fun f' o' => by
  rw [gm_gF_sF]
  split
  · next z => rw [z.1, z.2, h]
  · rfl) (fun _ _ => rfl)
theorem gn_c0_b {t : Int → Int} {n p : Int} {M : gm_M} (h : gn_Rd t n p M) (q : Int) (hq : 0 ≤ q) : 0 ≤ gn_c0 t n q ∧ gn_c0 t n q ≤ 127 := by
  unfold gn_c0
  by_cases c : q < n
  · rw [if_pos c]; exact (h.2.2.2.2.2 q hq c).2
  · rw [if_neg c]; decide
theorem r_X4_nextSign {D : Nat} (hD : 1 ≤ D) {t : Int → Int} {n p : Int} {M : gm_M} (h : gn_Rd t n p M) : gm_go D 35 [.inr (.inr 81)] M = some (some (.inl (gn_c0 t n p)), M) := by
  obtain ⟨d, rfl⟩ : ∃ g, D = g + 1 := ⟨D - 1, by omega⟩
  obtain ⟨hL, e1, e2, hn, hp, ht⟩ := h
  rw [eX4_nextSign _ _ _ (Nat.le_of_ble_eq_true rfl)]
  have z81 := gm_z81 hL
  have z82 := gm_z82 hL
  have y82 := gm_y82 M
  have l4 := gm_l400 hL
  have ha3 := gm_alen_k 22 (by decide)
  have c0 : ¬ p < 0 := by omega
  unfold gn_c0
  by_cases c : p < n
  · rw [if_pos c]
    have c1 : p < 100 := by omega
    have hin := gm_inI (M := M) y82 (i := p) hp.1 c1 (by decide)
    obtain ⟨v1, v2, v3⟩ := ht p hp.1 c
    have v4 : t p < 65536 := by omega
    simp (config := { maxSteps := 2000000 }) (disch := first | omega | assumption | (simp only [gm_isO_sF, gm_isO_sA, gm_isO_cp]; assumption)) only [gm_push, gm_iload, gm_lload, gm_aload, gm_istore, gm_astore, gm_iinc, gm_op2, gm_quo, gm_op1, gm_lop2, gm_lshl, gm_i2l, gm_l2i, gm_lcmp, gm_dup, gm_pop1, gm_dup2, gm_goto, gm_ifeq, gm_ifne, gm_iflt, gm_ifge, gm_ifgt, gm_ifle, gm_ceq, gm_cne, gm_clt, gm_cge, gm_cgt, gm_cle, gm_ifnull, gm_ifnonnull, gm_swk, gm_switch, gm_getI, gm_getR, gm_putI, gm_putZ, gm_putR, gm_new, gm_newarr, gm_iald, gm_cald, gm_zald, gm_lald, gm_aald, gm_iast, gm_cast, gm_zast, gm_last, gm_aast, gm_acp, gm_oinit, gm_back, gm_scall, gm_vcall, gm_iret, gm_zret, gm_cret, gm_lret, gm_aret, gm_vret, gm_slen, gm_schar, gm_sidx, gm_lget, gm_lset, gm_nl, gm_ent, gm_wd, gm_pop, gm_pad, gm_xl_c, gm_alen_u, gm_1_sF, gm_1_sA, gm_1_cp, gm_len_sF, gm_len_sA, gm_len_cp, Bool.or_true, Bool.true_or, gm_max_u, gm_min_u, gm_isO_sF, gm_isO_sA, gm_isO_cp, gm_gF_sF, gm_gF_sA, gm_gA_sF, gm_gA_sA, gm_gF_cp, gm_gA_cp, gm_add, gm_sub, gm_mul, gm_neg, ↓reduceIte, Nat.reduceAdd, Nat.reduceLeDiff, true_and, and_true, and_self, true_or, or_true, false_and, and_false, false_or, or_false, eq_self, Nat.reduceEqDiff, Int.reduceEq, Int.reduceLT, Int.reduceLE, Int.reduceNeg, Int.reduceAdd, Int.reduceSub, Int.reduceMul, Int.reduceDiv, Int.reduceMod, reduceCtorEq, if_true, if_false, gm_w_id, xX4_nextSign_0, xX4_nextSign_1, xX4_nextSign_2, z81, z82, y82, l4, ha3, e1, e2, c0, c, c1, hin, v1, v2, v4]
  · rw [if_neg c]
    simp (config := { maxSteps := 2000000 }) (disch := first | omega | assumption | (simp only [gm_isO_sF, gm_isO_sA, gm_isO_cp]; assumption)) only [gm_push, gm_iload, gm_lload, gm_aload, gm_istore, gm_astore, gm_iinc, gm_op2, gm_quo, gm_op1, gm_lop2, gm_lshl, gm_i2l, gm_l2i, gm_lcmp, gm_dup, gm_pop1, gm_dup2, gm_goto, gm_ifeq, gm_ifne, gm_iflt, gm_ifge, gm_ifgt, gm_ifle, gm_ceq, gm_cne, gm_clt, gm_cge, gm_cgt, gm_cle, gm_ifnull, gm_ifnonnull, gm_swk, gm_switch, gm_getI, gm_getR, gm_putI, gm_putZ, gm_putR, gm_new, gm_newarr, gm_iald, gm_cald, gm_zald, gm_lald, gm_aald, gm_iast, gm_cast, gm_zast, gm_last, gm_aast, gm_acp, gm_oinit, gm_back, gm_scall, gm_vcall, gm_iret, gm_zret, gm_cret, gm_lret, gm_aret, gm_vret, gm_slen, gm_schar, gm_sidx, gm_lget, gm_lset, gm_nl, gm_ent, gm_wd, gm_pop, gm_pad, gm_xl_c, gm_alen_u, gm_1_sF, gm_1_sA, gm_1_cp, gm_len_sF, gm_len_sA, gm_len_cp, Bool.or_true, Bool.true_or, gm_max_u, gm_min_u, gm_isO_sF, gm_isO_sA, gm_isO_cp, gm_gF_sF, gm_gF_sA, gm_gA_sF, gm_gA_sA, gm_gF_cp, gm_gA_cp, gm_add, gm_sub, gm_mul, gm_neg, ↓reduceIte, Nat.reduceAdd, Nat.reduceLeDiff, true_and, and_true, and_self, true_or, or_true, false_and, and_false, false_or, or_false, eq_self, Nat.reduceEqDiff, Int.reduceEq, Int.reduceLT, Int.reduceLE, Int.reduceNeg, Int.reduceAdd, Int.reduceSub, Int.reduceMul, Int.reduceDiv, Int.reduceMod, reduceCtorEq, if_true, if_false, gm_w_id, xX4_nextSign_0, xX4_nextSign_1, xX4_nextSign_2, z81, z82, y82, l4, ha3, e1, e2, c0, c]
theorem r_X4_readSign {D : Nat} (hD : 1 ≤ D) {t : Int → Int} {n p : Int} {M : gm_M} (h : gn_Rd t n p M) {s : Int} (hs : 0 ≤ s ∧ s < 128) : gm_go D 34 [.inr (.inr 81), .inl s] M = if gn_ch t n p = s then some (some (.inl 1), gm_sF M 402 81 (p + 1)) else some (some (.inl 0), M) := by
  obtain ⟨d, rfl⟩ : ∃ g, D = g + 1 := ⟨D - 1, by omega⟩
  obtain ⟨hL, e1, e2, hn, hp, ht⟩ := h
  rw [eX4_readSign _ _ _ (Nat.le_of_ble_eq_true rfl)]
  have z81 := gm_z81 hL
  have z82 := gm_z82 hL
  have y82 := gm_y82 M
  have l4 := gm_l400 hL
  have ha3 := gm_alen_k 22 (by decide)
  unfold gn_ch
  by_cases c : p < n
  · rw [if_pos c]
    have c1 : p < 100 := by omega
    have hin := gm_inI (M := M) y82 (i := p) hp.1 c1 (by decide)
    obtain ⟨v1, v2, v3⟩ := ht p hp.1 c
    by_cases c2 : t p = s
    · rw [if_pos c2]
      simp (config := { maxSteps := 2000000 }) (disch := first | omega | assumption | (simp only [gm_isO_sF, gm_isO_sA, gm_isO_cp]; assumption)) only [gm_push, gm_iload, gm_lload, gm_aload, gm_istore, gm_astore, gm_iinc, gm_op2, gm_quo, gm_op1, gm_lop2, gm_lshl, gm_i2l, gm_l2i, gm_lcmp, gm_dup, gm_pop1, gm_dup2, gm_goto, gm_ifeq, gm_ifne, gm_iflt, gm_ifge, gm_ifgt, gm_ifle, gm_ceq, gm_cne, gm_clt, gm_cge, gm_cgt, gm_cle, gm_ifnull, gm_ifnonnull, gm_swk, gm_switch, gm_getI, gm_getR, gm_putI, gm_putZ, gm_putR, gm_new, gm_newarr, gm_iald, gm_cald, gm_zald, gm_lald, gm_aald, gm_iast, gm_cast, gm_zast, gm_last, gm_aast, gm_acp, gm_oinit, gm_back, gm_scall, gm_vcall, gm_iret, gm_zret, gm_cret, gm_lret, gm_aret, gm_vret, gm_slen, gm_schar, gm_sidx, gm_lget, gm_lset, gm_nl, gm_ent, gm_wd, gm_pop, gm_pad, gm_xl_c, gm_alen_u, gm_1_sF, gm_1_sA, gm_1_cp, gm_len_sF, gm_len_sA, gm_len_cp, Bool.or_true, Bool.true_or, gm_max_u, gm_min_u, gm_isO_sF, gm_isO_sA, gm_isO_cp, gm_gF_sF, gm_gF_sA, gm_gA_sF, gm_gA_sA, gm_gF_cp, gm_gA_cp, gm_add, gm_sub, gm_mul, gm_neg, ↓reduceIte, Nat.reduceAdd, Nat.reduceLeDiff, true_and, and_true, and_self, true_or, or_true, false_and, and_false, false_or, or_false, eq_self, Nat.reduceEqDiff, Int.reduceEq, Int.reduceLT, Int.reduceLE, Int.reduceNeg, Int.reduceAdd, Int.reduceSub, Int.reduceMul, Int.reduceDiv, Int.reduceMod, reduceCtorEq, if_true, if_false, gm_w_id, xX4_readSign_0, xX4_readSign_1, xX4_readSign_2, z81, z82, y82, l4, ha3, e1, e2, c, c1, hin, v1, c2]
    · rw [if_neg c2]
      simp (config := { maxSteps := 2000000 }) (disch := first | omega | assumption | (simp only [gm_isO_sF, gm_isO_sA, gm_isO_cp]; assumption)) only [gm_push, gm_iload, gm_lload, gm_aload, gm_istore, gm_astore, gm_iinc, gm_op2, gm_quo, gm_op1, gm_lop2, gm_lshl, gm_i2l, gm_l2i, gm_lcmp, gm_dup, gm_pop1, gm_dup2, gm_goto, gm_ifeq, gm_ifne, gm_iflt, gm_ifge, gm_ifgt, gm_ifle, gm_ceq, gm_cne, gm_clt, gm_cge, gm_cgt, gm_cle, gm_ifnull, gm_ifnonnull, gm_swk, gm_switch, gm_getI, gm_getR, gm_putI, gm_putZ, gm_putR, gm_new, gm_newarr, gm_iald, gm_cald, gm_zald, gm_lald, gm_aald, gm_iast, gm_cast, gm_zast, gm_last, gm_aast, gm_acp, gm_oinit, gm_back, gm_scall, gm_vcall, gm_iret, gm_zret, gm_cret, gm_lret, gm_aret, gm_vret, gm_slen, gm_schar, gm_sidx, gm_lget, gm_lset, gm_nl, gm_ent, gm_wd, gm_pop, gm_pad, gm_xl_c, gm_alen_u, gm_1_sF, gm_1_sA, gm_1_cp, gm_len_sF, gm_len_sA, gm_len_cp, Bool.or_true, Bool.true_or, gm_max_u, gm_min_u, gm_isO_sF, gm_isO_sA, gm_isO_cp, gm_gF_sF, gm_gF_sA, gm_gA_sF, gm_gA_sA, gm_gF_cp, gm_gA_cp, gm_add, gm_sub, gm_mul, gm_neg, ↓reduceIte, Nat.reduceAdd, Nat.reduceLeDiff, true_and, and_true, and_self, true_or, or_true, false_and, and_false, false_or, or_false, eq_self, Nat.reduceEqDiff, Int.reduceEq, Int.reduceLT, Int.reduceLE, Int.reduceNeg, Int.reduceAdd, Int.reduceSub, Int.reduceMul, Int.reduceDiv, Int.reduceMod, reduceCtorEq, if_true, if_false, gm_w_id, xX4_readSign_0, xX4_readSign_1, xX4_readSign_2, z81, z82, y82, l4, ha3, e1, e2, c, c1, hin, v1, c2]
  · rw [if_neg c, if_neg (by omega)]
    simp (config := { maxSteps := 2000000 }) (disch := first | omega | assumption | (simp only [gm_isO_sF, gm_isO_sA, gm_isO_cp]; assumption)) only [gm_push, gm_iload, gm_lload, gm_aload, gm_istore, gm_astore, gm_iinc, gm_op2, gm_quo, gm_op1, gm_lop2, gm_lshl, gm_i2l, gm_l2i, gm_lcmp, gm_dup, gm_pop1, gm_dup2, gm_goto, gm_ifeq, gm_ifne, gm_iflt, gm_ifge, gm_ifgt, gm_ifle, gm_ceq, gm_cne, gm_clt, gm_cge, gm_cgt, gm_cle, gm_ifnull, gm_ifnonnull, gm_swk, gm_switch, gm_getI, gm_getR, gm_putI, gm_putZ, gm_putR, gm_new, gm_newarr, gm_iald, gm_cald, gm_zald, gm_lald, gm_aald, gm_iast, gm_cast, gm_zast, gm_last, gm_aast, gm_acp, gm_oinit, gm_back, gm_scall, gm_vcall, gm_iret, gm_zret, gm_cret, gm_lret, gm_aret, gm_vret, gm_slen, gm_schar, gm_sidx, gm_lget, gm_lset, gm_nl, gm_ent, gm_wd, gm_pop, gm_pad, gm_xl_c, gm_alen_u, gm_1_sF, gm_1_sA, gm_1_cp, gm_len_sF, gm_len_sA, gm_len_cp, Bool.or_true, Bool.true_or, gm_max_u, gm_min_u, gm_isO_sF, gm_isO_sA, gm_isO_cp, gm_gF_sF, gm_gF_sA, gm_gA_sF, gm_gA_sA, gm_gF_cp, gm_gA_cp, gm_add, gm_sub, gm_mul, gm_neg, ↓reduceIte, Nat.reduceAdd, Nat.reduceLeDiff, true_and, and_true, and_self, true_or, or_true, false_and, and_false, false_or, or_false, eq_self, Nat.reduceEqDiff, Int.reduceEq, Int.reduceLT, Int.reduceLE, Int.reduceNeg, Int.reduceAdd, Int.reduceSub, Int.reduceMul, Int.reduceDiv, Int.reduceMod, reduceCtorEq, if_true, if_false, gm_w_id, xX4_readSign_0, xX4_readSign_1, xX4_readSign_2, z81, z82, y82, l4, ha3, e1, e2, c]
theorem r_X4_readNumber {D : Nat} (hD : 2 ≤ D) {t : Int → Int} {n p : Int} {M : gm_M} (h : gn_Rd t n p M) : gm_go D 32 [.inr (.inr 81)] M = some (some (.inl (gn_nm t n p).1), gm_sF M 402 81 (gn_nm t n p).2) := by
  obtain ⟨d, rfl⟩ : ∃ g, D = g + 2 := ⟨D - 2, by omega⟩
  obtain ⟨hL, e1, e2, hn, hp, ht⟩ := id h
  have f1 := r_X4_nextSign (D := d + 1) (by omega) h
  have b1 := gn_c0_b h p hp.1
  have z81 := gm_z81 hL
  rw [eX4_readNumber _ _ _ (Nat.le_of_ble_eq_true rfl)]
  have hc : ∀ q, (48 ≤ gn_ch t n q ∧ gn_ch t n q ≤ 57) ↔ (48 ≤ gn_c0 t n q ∧ gn_c0 t n q ≤ 57) := fun q => by
    unfold gn_ch gn_c0
    by_cases c : q < n
    · rw [if_pos c, if_pos c]
    · rw [if_neg c, if_neg c]; omega
  have hv : ∀ q, 48 ≤ gn_ch t n q → gn_ch t n q = gn_c0 t n q := fun q z => by
    unfold gn_ch gn_c0 at *
    by_cases c : q < n
    · rw [if_pos c, if_pos c]
    · rw [if_neg c] at z; omega
  have m0 : ∀ x : Int, 0 ≤ x → x < 1000 → gm_mx 0 x = x := fun x x1 x2 => by rw [gm_mx_id ⟨by decide, by decide⟩ ⟨by omega, by omega⟩]; omega
  have m1 : gm_mx 0 (-1) = 0 := rfl
  unfold gn_nm
  by_cases c1 : 48 ≤ gn_ch t n p ∧ gn_ch t n p ≤ 57
  · rw [if_pos c1]
    have p1 := gn_ch_lt (t := t) (n := n) (p := p) (by omega)
    have h2 := h.sF (q := p + 1) (by omega)
    have f2 := r_X4_nextSign (D := d + 1) (by omega) h2
    have b2 := gn_c0_b h (p + 1) (by omega)
    have v1 := hv p c1.1
    rw [v1] at c1 ⊢
    have u1 : ¬ gn_c0 t n p < 48 := by omega
    have u2 : ¬ 57 < gn_c0 t n p := by omega
    by_cases c2 : 48 ≤ gn_ch t n (p + 1) ∧ gn_ch t n (p + 1) ≤ 57
    · rw [if_pos c2]
      have v2 := hv (p + 1) c2.1
      rw [v2] at c2 ⊢
      have u3 : ¬ gn_c0 t n (p + 1) < 48 := by omega
      have u4 : ¬ 57 < gn_c0 t n (p + 1) := by omega
      generalize gn_c0 t n p = x at *
      generalize gn_c0 t n (p + 1) = y at *
      have m2 := m0 (x - 48) (by omega) (by omega)
      have r2 : p + 1 + 1 = p + 2 := by omega
      simp (config := { maxSteps := 2000000 }) (disch := first | omega | assumption | (simp only [gm_isO_sF, gm_isO_sA, gm_isO_cp]; assumption)) only [gm_push, gm_iload, gm_lload, gm_aload, gm_istore, gm_astore, gm_iinc, gm_op2, gm_quo, gm_op1, gm_lop2, gm_lshl, gm_i2l, gm_l2i, gm_lcmp, gm_dup, gm_pop1, gm_dup2, gm_goto, gm_ifeq, gm_ifne, gm_iflt, gm_ifge, gm_ifgt, gm_ifle, gm_ceq, gm_cne, gm_clt, gm_cge, gm_cgt, gm_cle, gm_ifnull, gm_ifnonnull, gm_swk, gm_switch, gm_getI, gm_getR, gm_putI, gm_putZ, gm_putR, gm_new, gm_newarr, gm_iald, gm_cald, gm_zald, gm_lald, gm_aald, gm_iast, gm_cast, gm_zast, gm_last, gm_aast, gm_acp, gm_oinit, gm_back, gm_scall, gm_vcall, gm_iret, gm_zret, gm_cret, gm_lret, gm_aret, gm_vret, gm_slen, gm_schar, gm_sidx, gm_lget, gm_lset, gm_nl, gm_ent, gm_wd, gm_pop, gm_pad, gm_xl_c, gm_alen_u, gm_1_sF, gm_1_sA, gm_1_cp, gm_len_sF, gm_len_sA, gm_len_cp, Bool.or_true, Bool.true_or, gm_max_u, gm_min_u, gm_isO_sF, gm_isO_sA, gm_isO_cp, gm_gF_sF, gm_gF_sA, gm_gA_sF, gm_gA_sA, gm_gF_cp, gm_gA_cp, gm_add, gm_sub, gm_mul, gm_neg, ↓reduceIte, Nat.reduceAdd, Nat.reduceLeDiff, true_and, and_true, and_self, true_or, or_true, false_and, and_false, false_or, or_false, eq_self, Nat.reduceEqDiff, Int.reduceEq, Int.reduceLT, Int.reduceLE, Int.reduceNeg, Int.reduceAdd, Int.reduceSub, Int.reduceMul, Int.reduceDiv, Int.reduceMod, reduceCtorEq, if_true, if_false, gm_w_id, xX4_readNumber_0, xX4_readNumber_1, xX4_readNumber_2, z81, e2, f1, f2, u1, u2, u3, u4, m1, m2, gn_sF_sF, Int.zero_add, r2]
    · rw [if_neg c2]
      have c3 : gn_c0 t n (p + 1) < 48 ∨ 57 < gn_c0 t n (p + 1) := by have := (not_congr (hc (p + 1))).mp c2; omega
      generalize gn_c0 t n p = x at *
      generalize gn_c0 t n (p + 1) = y at *
      rcases c3 with c3 | c3
      · simp (config := { maxSteps := 2000000 }) (disch := first | omega | assumption | (simp only [gm_isO_sF, gm_isO_sA, gm_isO_cp]; assumption)) only [gm_push, gm_iload, gm_lload, gm_aload, gm_istore, gm_astore, gm_iinc, gm_op2, gm_quo, gm_op1, gm_lop2, gm_lshl, gm_i2l, gm_l2i, gm_lcmp, gm_dup, gm_pop1, gm_dup2, gm_goto, gm_ifeq, gm_ifne, gm_iflt, gm_ifge, gm_ifgt, gm_ifle, gm_ceq, gm_cne, gm_clt, gm_cge, gm_cgt, gm_cle, gm_ifnull, gm_ifnonnull, gm_swk, gm_switch, gm_getI, gm_getR, gm_putI, gm_putZ, gm_putR, gm_new, gm_newarr, gm_iald, gm_cald, gm_zald, gm_lald, gm_aald, gm_iast, gm_cast, gm_zast, gm_last, gm_aast, gm_acp, gm_oinit, gm_back, gm_scall, gm_vcall, gm_iret, gm_zret, gm_cret, gm_lret, gm_aret, gm_vret, gm_slen, gm_schar, gm_sidx, gm_lget, gm_lset, gm_nl, gm_ent, gm_wd, gm_pop, gm_pad, gm_xl_c, gm_alen_u, gm_1_sF, gm_1_sA, gm_1_cp, gm_len_sF, gm_len_sA, gm_len_cp, Bool.or_true, Bool.true_or, gm_max_u, gm_min_u, gm_isO_sF, gm_isO_sA, gm_isO_cp, gm_gF_sF, gm_gF_sA, gm_gA_sF, gm_gA_sA, gm_gF_cp, gm_gA_cp, gm_add, gm_sub, gm_mul, gm_neg, ↓reduceIte, Nat.reduceAdd, Nat.reduceLeDiff, true_and, and_true, and_self, true_or, or_true, false_and, and_false, false_or, or_false, eq_self, Nat.reduceEqDiff, Int.reduceEq, Int.reduceLT, Int.reduceLE, Int.reduceNeg, Int.reduceAdd, Int.reduceSub, Int.reduceMul, Int.reduceDiv, Int.reduceMod, reduceCtorEq, if_true, if_false, gm_w_id, xX4_readNumber_0, xX4_readNumber_1, xX4_readNumber_2, z81, e2, f1, f2, u1, u2, c3, m1, gn_sF_sF, Int.zero_add]
      · have c4 : ¬ y < 48 := by omega
        simp (config := { maxSteps := 2000000 }) (disch := first | omega | assumption | (simp only [gm_isO_sF, gm_isO_sA, gm_isO_cp]; assumption)) only [gm_push, gm_iload, gm_lload, gm_aload, gm_istore, gm_astore, gm_iinc, gm_op2, gm_quo, gm_op1, gm_lop2, gm_lshl, gm_i2l, gm_l2i, gm_lcmp, gm_dup, gm_pop1, gm_dup2, gm_goto, gm_ifeq, gm_ifne, gm_iflt, gm_ifge, gm_ifgt, gm_ifle, gm_ceq, gm_cne, gm_clt, gm_cge, gm_cgt, gm_cle, gm_ifnull, gm_ifnonnull, gm_swk, gm_switch, gm_getI, gm_getR, gm_putI, gm_putZ, gm_putR, gm_new, gm_newarr, gm_iald, gm_cald, gm_zald, gm_lald, gm_aald, gm_iast, gm_cast, gm_zast, gm_last, gm_aast, gm_acp, gm_oinit, gm_back, gm_scall, gm_vcall, gm_iret, gm_zret, gm_cret, gm_lret, gm_aret, gm_vret, gm_slen, gm_schar, gm_sidx, gm_lget, gm_lset, gm_nl, gm_ent, gm_wd, gm_pop, gm_pad, gm_xl_c, gm_alen_u, gm_1_sF, gm_1_sA, gm_1_cp, gm_len_sF, gm_len_sA, gm_len_cp, Bool.or_true, Bool.true_or, gm_max_u, gm_min_u, gm_isO_sF, gm_isO_sA, gm_isO_cp, gm_gF_sF, gm_gF_sA, gm_gA_sF, gm_gA_sA, gm_gF_cp, gm_gA_cp, gm_add, gm_sub, gm_mul, gm_neg, ↓reduceIte, Nat.reduceAdd, Nat.reduceLeDiff, true_and, and_true, and_self, true_or, or_true, false_and, and_false, false_or, or_false, eq_self, Nat.reduceEqDiff, Int.reduceEq, Int.reduceLT, Int.reduceLE, Int.reduceNeg, Int.reduceAdd, Int.reduceSub, Int.reduceMul, Int.reduceDiv, Int.reduceMod, reduceCtorEq, if_true, if_false, gm_w_id, xX4_readNumber_0, xX4_readNumber_1, xX4_readNumber_2, z81, e2, f1, f2, u1, u2, c3, c4, m1, gn_sF_sF, Int.zero_add]
  · rw [if_neg c1, gn_sF_id M 402 81 e2]
    have c3 : gn_c0 t n p < 48 ∨ 57 < gn_c0 t n p := by have := (not_congr (hc p)).mp c1; omega
    generalize gn_c0 t n p = x at *
    rcases c3 with c3 | c3
    · simp (config := { maxSteps := 2000000 }) (disch := first | omega | assumption | (simp only [gm_isO_sF, gm_isO_sA, gm_isO_cp]; assumption)) only [gm_push, gm_iload, gm_lload, gm_aload, gm_istore, gm_astore, gm_iinc, gm_op2, gm_quo, gm_op1, gm_lop2, gm_lshl, gm_i2l, gm_l2i, gm_lcmp, gm_dup, gm_pop1, gm_dup2, gm_goto, gm_ifeq, gm_ifne, gm_iflt, gm_ifge, gm_ifgt, gm_ifle, gm_ceq, gm_cne, gm_clt, gm_cge, gm_cgt, gm_cle, gm_ifnull, gm_ifnonnull, gm_swk, gm_switch, gm_getI, gm_getR, gm_putI, gm_putZ, gm_putR, gm_new, gm_newarr, gm_iald, gm_cald, gm_zald, gm_lald, gm_aald, gm_iast, gm_cast, gm_zast, gm_last, gm_aast, gm_acp, gm_oinit, gm_back, gm_scall, gm_vcall, gm_iret, gm_zret, gm_cret, gm_lret, gm_aret, gm_vret, gm_slen, gm_schar, gm_sidx, gm_lget, gm_lset, gm_nl, gm_ent, gm_wd, gm_pop, gm_pad, gm_xl_c, gm_alen_u, gm_1_sF, gm_1_sA, gm_1_cp, gm_len_sF, gm_len_sA, gm_len_cp, Bool.or_true, Bool.true_or, gm_max_u, gm_min_u, gm_isO_sF, gm_isO_sA, gm_isO_cp, gm_gF_sF, gm_gF_sA, gm_gA_sF, gm_gA_sA, gm_gF_cp, gm_gA_cp, gm_add, gm_sub, gm_mul, gm_neg, ↓reduceIte, Nat.reduceAdd, Nat.reduceLeDiff, true_and, and_true, and_self, true_or, or_true, false_and, and_false, false_or, or_false, eq_self, Nat.reduceEqDiff, Int.reduceEq, Int.reduceLT, Int.reduceLE, Int.reduceNeg, Int.reduceAdd, Int.reduceSub, Int.reduceMul, Int.reduceDiv, Int.reduceMod, reduceCtorEq, if_true, if_false, gm_w_id, xX4_readNumber_0, xX4_readNumber_1, xX4_readNumber_2, z81, e2, f1, c3]
    · have c4 : ¬ x < 48 := by omega
      simp (config := { maxSteps := 2000000 }) (disch := first | omega | assumption | (simp only [gm_isO_sF, gm_isO_sA, gm_isO_cp]; assumption)) only [gm_push, gm_iload, gm_lload, gm_aload, gm_istore, gm_astore, gm_iinc, gm_op2, gm_quo, gm_op1, gm_lop2, gm_lshl, gm_i2l, gm_l2i, gm_lcmp, gm_dup, gm_pop1, gm_dup2, gm_goto, gm_ifeq, gm_ifne, gm_iflt, gm_ifge, gm_ifgt, gm_ifle, gm_ceq, gm_cne, gm_clt, gm_cge, gm_cgt, gm_cle, gm_ifnull, gm_ifnonnull, gm_swk, gm_switch, gm_getI, gm_getR, gm_putI, gm_putZ, gm_putR, gm_new, gm_newarr, gm_iald, gm_cald, gm_zald, gm_lald, gm_aald, gm_iast, gm_cast, gm_zast, gm_last, gm_aast, gm_acp, gm_oinit, gm_back, gm_scall, gm_vcall, gm_iret, gm_zret, gm_cret, gm_lret, gm_aret, gm_vret, gm_slen, gm_schar, gm_sidx, gm_lget, gm_lset, gm_nl, gm_ent, gm_wd, gm_pop, gm_pad, gm_xl_c, gm_alen_u, gm_1_sF, gm_1_sA, gm_1_cp, gm_len_sF, gm_len_sA, gm_len_cp, Bool.or_true, Bool.true_or, gm_max_u, gm_min_u, gm_isO_sF, gm_isO_sA, gm_isO_cp, gm_gF_sF, gm_gF_sA, gm_gA_sF, gm_gA_sA, gm_gF_cp, gm_gA_cp, gm_add, gm_sub, gm_mul, gm_neg, ↓reduceIte, Nat.reduceAdd, Nat.reduceLeDiff, true_and, and_true, and_self, true_or, or_true, false_and, and_false, false_or, or_false, eq_self, Nat.reduceEqDiff, Int.reduceEq, Int.reduceLT, Int.reduceLE, Int.reduceNeg, Int.reduceAdd, Int.reduceSub, Int.reduceMul, Int.reduceDiv, Int.reduceMod, reduceCtorEq, if_true, if_false, gm_w_id, xX4_readNumber_0, xX4_readNumber_1, xX4_readNumber_2, z81, e2, f1, c3, c4]
/-! steps -/
/-- the reader at p, the clauses c with such steps -/
def gn_K (c : Int) (M : gm_M) (p : Int) (S : List (Int × Int)) : gm_M := (M.1, fun f o => if f = 402 ∧ o = 81 then p else if f = 2 ∧ o = c then (S.length : Int) else M.2.1 f o, fun a i => if a = c + 1 ∧ 0 ≤ i ∧ i < (S.length : Int) then (S.getD i.toNat (0, 0)).1 else if a = c + 2 ∧ 0 ≤ i ∧ i < (S.length : Int) then (S.getD i.toNat (0, 0)).2 else M.2.2 a i)
theorem gn_K_F (c : Int) (M : gm_M) (p : Int) (S : List (Int × Int)) (f : Nat) (o : Int) : gm_gF (gn_K c M p S) f o = if f = 402 ∧ o = 81 then p else if f = 2 ∧ o = c then (S.length : Int) else gm_gF M f o := rfl
theorem gn_K_A (c : Int) (M : gm_M) (p : Int) (S : List (Int × Int)) (a i : Int) : gm_gA (gn_K c M p S) a i = if a = c + 1 ∧ 0 ≤ i ∧ i < (S.length : Int) then (S.getD i.toNat (0, 0)).1 else if a = c + 2 ∧ 0 ≤ i ∧ i < (S.length : Int) then (S.getD i.toNat (0, 0)).2 else gm_gA M a i := rfl
theorem gn_K_O (c : Int) (M : gm_M) (p : Int) (S : List (Int × Int)) (k : Nat) (q : Int) : gm_isO k (gn_K c M p S) q = gm_isO k M q := rfl
theorem gn_K_Lay {c : Int} {M : gm_M} {p : Int} {S : List (Int × Int)} (h : gm_Lay M) (hc : 94 ≤ c ∧ c ≤ 135) : gm_Lay (gn_K c M p S) := ⟨h.1, fun q hq => by
  have h1 := gm_lay_rf q hq
  rw [gn_K_F, if_neg (by rintro ⟨z, -⟩; rw [z] at h1; exact absurd h1 (by decide)), if_neg (by rintro ⟨z, -⟩; rw [z] at h1; exact absurd h1 (by decide))]
  exact h.2.1 q hq, fun q hq => by
  have h1 := gm_lay_ra q hq
  simp only [List.mem_cons, List.not_mem_nil, or_false] at h1
  rw [gn_K_A, if_neg (by omega), if_neg (by omega)]
  exact h.2.2 q hq⟩
theorem gn_K_p (c : Int) (M : gm_M) (p q : Int) (S : List (Int × Int)) : gm_sF (gn_K c M p S) 402 81 q = gn_K c M q S := gn_M_ext rfl (fun f o => by
  rw [gm_gF_sF, gn_K_F, gn_K_F]
  by_cases z : f = 402 ∧ o = 81
  · rw [if_pos z, if_pos z]
  · rw [if_neg z, if_neg z, if_neg z]) (fun a i => rfl)
theorem gn_K_s (c : Int) (M : gm_M) (p x y : Int) (S : List (Int × Int)) : gm_sF (gm_sA (gm_sA (gn_K c M p S) (c + 1) (S.length : Int) x) (c + 2) (S.length : Int) y) 2 c ((S.length : Int) + 1) = gn_K c M p (S ++ [(x, y)]) := by
  have hl : (((S ++ [(x, y)]).length : Nat) : Int) = (S.length : Int) + 1 := by simp
  refine gn_M_ext rfl (fun f o => ?_) (fun a i => ?_)
  · rw [gm_gF_sF, gm_gF_sA, gm_gF_sA, gn_K_F, gn_K_F, hl]
    by_cases z : f = 2 ∧ o = c
    · rw [if_pos z, if_neg (by omega), if_pos z]
    · rw [if_neg z, if_neg z, if_neg z]
  · rw [gm_gA_sF, gm_gA_sA, gm_gA_sA, gn_K_A, gn_K_A, hl]
    by_cases z : a = c + 2 ∧ i = (S.length : Int)
    · rw [if_pos z, if_neg (by omega), if_pos (by omega), z.2]
      simp
    · rw [if_neg z]
      by_cases z2 : a = c + 1 ∧ i = (S.length : Int)
      · rw [if_pos z2, if_pos (by omega), z2.2]
        simp
      · rw [if_neg z2]
        by_cases z3 : a = c + 1 ∧ 0 ≤ i ∧ i < (S.length : Int)
        · have : i.toNat < S.length := by omega
          rw [if_pos z3, if_pos (by omega)]
          simp [List.getD, List.getElem?_append_left this]
        · rw [if_neg z3, if_neg (show ¬ (a = c + 1 ∧ 0 ≤ i ∧ i < (S.length : Int) + 1) by omega)]
          by_cases z4 : a = c + 2 ∧ 0 ≤ i ∧ i < (S.length : Int)
          · have : i.toNat < S.length := by omega
            rw [if_pos z4, if_pos (by omega)]
            simp [List.getD, List.getElem?_append_left this]
          · rw [if_neg z4, if_neg (by omega)]
theorem gn_K_l (c : Int) (M : gm_M) (p x y z : Int) (A B : List (Int × Int)) : gm_sA (gn_K c M p (A ++ (x, y) :: B)) (c + 2) (A.length : Int) z = gn_K c M p (A ++ (x, z) :: B) := by
  have hl : (((A ++ (x, z) :: B).length : Nat) : Int) = ((A ++ (x, y) :: B).length : Int) := by simp
  have hl2 : ((A ++ (x, y) :: B).length : Int) = (A.length : Int) + (B.length : Int) + 1 := by simp; omega
  have hg : ∀ i : Nat, i ≠ A.length → (A ++ (x, z) :: B).getD i (0, 0) = (A ++ (x, y) :: B).getD i (0, 0) := fun i hi => by
    by_cases c1 : i < A.length
    · simp [List.getD, List.getElem?_append_left c1]
    · have c2 : A.length ≤ i := by omega
      obtain ⟨j, rfl⟩ : ∃ j, i = A.length + (j + 1) := ⟨i - A.length - 1, by omega⟩
      simp [List.getD, List.getElem?_append_right c2]
  have h1 : ∀ w : Int, (A ++ (x, w) :: B).getD A.length (0, 0) = (x, w) := fun w => by simp [List.getD]
  refine gn_M_ext rfl (fun f o => ?_) (fun a i => ?_)
  · rw [gm_gF_sA, gn_K_F, gn_K_F, hl]
  · rw [gm_gA_sA, gn_K_A, gn_K_A, hl, hl2]
    by_cases z0 : a = c + 2 ∧ i = (A.length : Int)
    · rw [if_pos z0, if_neg (by omega), if_pos (by omega), show i.toNat = A.length by omega, h1]
    · rw [if_neg z0]
      by_cases z1 : a = c + 1 ∧ 0 ≤ i ∧ i < (A.length : Int) + (B.length : Int) + 1
      · rw [if_pos z1, if_pos z1]
        by_cases z2 : i.toNat = A.length
        · rw [z2, h1, h1]
        · rw [hg _ z2]
      · rw [if_neg z1, if_neg z1]
        by_cases z2 : a = c + 2 ∧ 0 ≤ i ∧ i < (A.length : Int) + (B.length : Int) + 1
        · rw [if_pos z2, if_pos z2, hg _ (by omega)]
        · rw [if_neg z2, if_neg z2]
theorem gn_Rd.K {t : Int → Int} {n p q c : Int} {M : gm_M} {S : List (Int × Int)} (h : gn_Rd t n p M) (hc : 94 ≤ c ∧ c ≤ 135) (hq : 0 ≤ q ∧ q ≤ n) : gn_Rd t n q (gn_K c M q S) := ⟨gn_K_Lay h.1 hc, by rw [gn_K_F, if_neg (by decide), if_neg (by omega)]; exact h.2.1, by rw [gn_K_F, if_pos ⟨rfl, rfl⟩], h.2.2.2.1, hq, fun i i1 i2 => by rw [gn_K_A, if_neg (by omega), if_neg (by omega)]; exact h.2.2.2.2.2 i i1 i2⟩
