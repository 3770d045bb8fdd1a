/-! THE CLASS: looked, leaks -/
/-- what is seen and booked -/
def gn_CB (M : gm_M) : Prop := (0 ≤ gm_gF M 707 2 ∧ gm_gF M 707 2 ≤ 8) ∧ (0 ≤ gm_gF M 709 2 ∧ gm_gF M 709 2 ≤ 12) ∧
  (∀ k, 0 ≤ k → k < gm_gF M 707 2 → (0 ≤ gm_gA M 4 k ∧ gm_gA M 4 k < gm_many M) ∧ (0 ≤ gm_gA M 5 k ∧ gm_gA M 5 k ≤ 30) ∧ 0 ≤ gm_gA M 6 k ∧ gm_gA M 6 k ≤ 199) ∧
  ∀ k, 0 ≤ k → k < gm_gF M 709 2 → 0 ≤ gm_gA M 7 k ∧ gm_gA M 7 k < gm_many M
/-- whether it is amiss on the last of the days -/
def gn_lam (M : gm_M) (n : Int) : Nat → Int → Int × Int → Int → Int
  | 0, _, _, a => a
  | k + 1, x, q, _ => gn_lam M n k (x + 1) (gm_stD M n (gm_roo M n) (gm_lk M n) (gm_day M + x) 0 q) (gm_am0 M (gm_stD M n (gm_roo M n) (gm_lk M n) (gm_day M + x) 0 q).1)
theorem gn_lam01 (M : gm_M) (n : Int) : ∀ (k : Nat) (x : Int) (q : Int × Int) (a : Int), a = 0 ∨ a = 1 → gn_lam M n k x q a = 0 ∨ gn_lam M n k x q a = 1
  | 0, _, _, _, h => h
  | k + 1, x, q, _, _ => gn_lam01 M n k (x + 1) _ _ (gm_am0_01 _ _)
theorem r_X8_looked_in (d : Nat) (M : gm_M) (hI : gm_CI M) (n i : Int) (h1 : 0 ≤ n) (h2 : n < gm_many M) (hi : 0 ≤ i ∧ i ≤ 12) : ∀ (k f : Nat) (x a : Int) (q : Int × Int) (M1 : gm_M), gm_Ec M M1 → gm_As M n 74 (gm_roo M n) (gm_lk M n) q M1 → x = i + 1 - k → 0 ≤ x →
    ∃ M2, gm_Ec M M2 ∧ gm_ex (gm_go (d + 5)) qX8_looked (f + (k + 1)) 3 [some (.inr (.inr 1)), some (.inr (.inr (gm_gr M))), some (.inl i), some (.inr (.inr (8 + 3 * n))), some (.inl a), some (.inl x)] [] M1 =
      gm_ex (gm_go (d + 5)) qX8_looked f 4 [some (.inr (.inr 1)), some (.inr (.inr (gm_gr M))), some (.inl i), some (.inr (.inr (8 + 3 * n))), some (.inl (gn_lam M n k x q a)), some (.inl (i + 1))] [] M2 := by
  have hm := hI.2.1
  have hd := hI.2.2.1
  intro k
  induction k with
  | zero =>
    intro f x a q M1 he hA hx h0
    refine ⟨M1, he, ?_⟩
    have hx' : x = i + 1 := by omega
    subst hx'
    have h9 : i < i + 1 := by omega
    rw [xX8_looked_3]
    simp (config := { maxSteps := 2000000 }) (disch := first | omega | assumption | (simp only [gm_isO_sF, gm_isO_sA, gm_isO_cp]; assumption)) only [gm_push, gm_iload, gm_lload, gm_aload, gm_istore, gm_astore, gm_iinc, gm_op2, gm_quo, gm_op1, gm_lop2, gm_lshl, gm_i2l, gm_l2i, gm_lcmp, gm_dup, gm_pop1, gm_dup2, gm_goto, gm_ifeq, gm_ifne, gm_iflt, gm_ifge, gm_ifgt, gm_ifle, gm_ceq, gm_cne, gm_clt, gm_cge, gm_cgt, gm_cle, gm_ifnull, gm_ifnonnull, gm_swk, gm_switch, gm_getI, gm_getR, gm_putI, gm_putZ, gm_putR, gm_new, gm_newarr, gm_iald, gm_cald, gm_zald, gm_lald, gm_aald, gm_iast, gm_cast, gm_zast, gm_last, gm_aast, gm_acp, gm_oinit, gm_back, gm_scall, gm_vcall, gm_iret, gm_zret, gm_cret, gm_lret, gm_aret, gm_vret, gm_slen, gm_schar, gm_sidx, gm_lget, gm_lset, gm_nl, gm_ent, gm_wd, gm_pop, gm_pad, gm_xl_c, gm_alen_u, gm_1_sF, gm_1_sA, gm_1_cp, gm_len_sF, gm_len_sA, gm_len_cp, Bool.or_true, Bool.true_or, gm_max_u, gm_min_u, gm_isO_sF, gm_isO_sA, gm_isO_cp, gm_gF_sF, gm_gF_sA, gm_gA_sF, gm_gA_sA, gm_gF_cp, gm_gA_cp, gm_add, gm_sub, gm_mul, gm_neg, ↓reduceIte, Nat.reduceAdd, Nat.reduceLeDiff, true_and, and_true, and_self, true_or, or_true, false_and, and_false, false_or, or_false, eq_self, Nat.reduceEqDiff, Int.reduceEq, Int.reduceLT, Int.reduceLE, Int.reduceNeg, Int.reduceAdd, Int.reduceSub, Int.reduceMul, Int.reduceDiv, Int.reduceMod, reduceCtorEq, if_true, if_false, gm_w_id, gn_lam, h9]
  | succ k ih =>
    intro f x a q M1 he hA hx h0
    obtain ⟨c1, c2, c3, c4, c5, c6, c7, c8, c9, c10, c11, c12, c13⟩ := gm_cx hI he
    have h9 : ¬ i < x := by omega
    obtain ⟨e1, he1, hA1⟩ := gm_pass_As hI he d h1 h2 (Or.inl rfl) hA (day := gm_day M + x) (dust := 0) (by omega) (by decide)
    simp only [Int.reduceAdd] at e1 he1 hA1
    generalize hQ : gm_stD M n (gm_roo M n) (gm_lk M n) (gm_day M + x) 0 q = Q at *
    obtain ⟨M3, he3, e3⟩ := ih f (x + 1) (gm_am0 M Q.1) Q _ he1 hA1 (by omega) (by omega)
    refine ⟨M3, he3, ?_⟩
    rw [show f + (k + 1 + 1) = (f + (k + 1)) + 1 by omega, xX8_looked_3]
    simp (config := { maxSteps := 2000000 }) (disch := first | omega | assumption | (simp only [gm_isO_sF, gm_isO_sA, gm_isO_cp]; assumption)) only [gm_push, gm_iload, gm_lload, gm_aload, gm_istore, gm_astore, gm_iinc, gm_op2, gm_quo, gm_op1, gm_lop2, gm_lshl, gm_i2l, gm_l2i, gm_lcmp, gm_dup, gm_pop1, gm_dup2, gm_goto, gm_ifeq, gm_ifne, gm_iflt, gm_ifge, gm_ifgt, gm_ifle, gm_ceq, gm_cne, gm_clt, gm_cge, gm_cgt, gm_cle, gm_ifnull, gm_ifnonnull, gm_swk, gm_switch, gm_getI, gm_getR, gm_putI, gm_putZ, gm_putR, gm_new, gm_newarr, gm_iald, gm_cald, gm_zald, gm_lald, gm_aald, gm_iast, gm_cast, gm_zast, gm_last, gm_aast, gm_acp, gm_oinit, gm_back, gm_scall, gm_vcall, gm_iret, gm_zret, gm_cret, gm_lret, gm_aret, gm_vret, gm_slen, gm_schar, gm_sidx, gm_lget, gm_lset, gm_nl, gm_ent, gm_wd, gm_pop, gm_pad, gm_xl_c, gm_alen_u, gm_1_sF, gm_1_sA, gm_1_cp, gm_len_sF, gm_len_sA, gm_len_cp, Bool.or_true, Bool.true_or, gm_max_u, gm_min_u, gm_isO_sF, gm_isO_sA, gm_isO_cp, gm_gF_sF, gm_gF_sA, gm_gA_sF, gm_gA_sA, gm_gF_cp, gm_gA_cp, gm_add, gm_sub, gm_mul, gm_neg, ↓reduceIte, Nat.reduceAdd, Nat.reduceLeDiff, true_and, and_true, and_self, true_or, or_true, false_and, and_false, false_or, or_false, eq_self, Nat.reduceEqDiff, Int.reduceEq, Int.reduceLT, Int.reduceLE, Int.reduceNeg, Int.reduceAdd, Int.reduceSub, Int.reduceMul, Int.reduceDiv, Int.reduceMod, reduceCtorEq, if_true, if_false, gm_w_id, c1, c2, c3, c5, c7, c8, h9, e1]
    rw [e3]
    simp only [gn_lam, hQ]
def gn_lkd (M : gm_M) : Nat → Int → Int
  | 0, _ => -5
  | k + 1, i => if gn_lam M (gm_gA M 7 i) (i + 1).toNat 0 (gm_qq M (8 + 3 * gm_gA M 7 i)) 0 = 0 then i else gn_lkd M k (i + 1)
theorem r_X8_looked_loop (d : Nat) (M : gm_M) (hI : gm_CI M) (hC : gn_CB M) : ∀ (k f : Nat) (i : Int) (l3 l4 l5 : Option gm_V) (M1 : gm_M), gm_Ec M M1 → 20 * (k + 2) ≤ f → i = gm_gF M 709 2 - k → 0 ≤ i →
    ∃ M2, gm_Ec M M2 ∧ gm_ex (gm_go (d + 5)) qX8_looked f 1 [some (.inr (.inr 1)), some (.inr (.inr (gm_gr M))), some (.inl i), l3, l4, l5] [] M1 = some (some (.inl (gn_lkd M k i)), M2) := by
  have hm := hI.2.1
  have hd := hI.2.2.1
  obtain ⟨-, hb1, -, hb2⟩ := hC
  intro k
  induction k with
  | zero =>
    intro f i l3 l4 l5 M1 he hf hi h0
    obtain ⟨f, rfl⟩ : ∃ g, f = g + 3 := ⟨f - 3, by omega⟩
    obtain ⟨c1, c2, c3, c4, c5, c6, c7, c8, c9, c10, c11, c12, c13⟩ := gm_cx hI he
    refine ⟨M1, he, ?_⟩
    have f1 : gm_gF M1 709 2 = gm_gF M 709 2 := he.2.1 709 2 (by omega)
    have hi' : ¬ i < gm_gF M 709 2 := by omega
    rw [xX8_looked_1]
    simp (config := { maxSteps := 2000000 }) (disch := first | omega | assumption | (simp only [gm_isO_sF, gm_isO_sA, gm_isO_cp]; assumption)) only [gm_push, gm_iload, gm_lload, gm_aload, gm_istore, gm_astore, gm_iinc, gm_op2, gm_quo, gm_op1, gm_lop2, gm_lshl, gm_i2l, gm_l2i, gm_lcmp, gm_dup, gm_pop1, gm_dup2, gm_goto, gm_ifeq, gm_ifne, gm_iflt, gm_ifge, gm_ifgt, gm_ifle, gm_ceq, gm_cne, gm_clt, gm_cge, gm_cgt, gm_cle, gm_ifnull, gm_ifnonnull, gm_swk, gm_switch, gm_getI, gm_getR, gm_putI, gm_putZ, gm_putR, gm_new, gm_newarr, gm_iald, gm_cald, gm_zald, gm_lald, gm_aald, gm_iast, gm_cast, gm_zast, gm_last, gm_aast, gm_acp, gm_oinit, gm_back, gm_scall, gm_vcall, gm_iret, gm_zret, gm_cret, gm_lret, gm_aret, gm_vret, gm_slen, gm_schar, gm_sidx, gm_lget, gm_lset, gm_nl, gm_ent, gm_wd, gm_pop, gm_pad, gm_xl_c, gm_alen_u, gm_1_sF, gm_1_sA, gm_1_cp, gm_len_sF, gm_len_sA, gm_len_cp, Bool.or_true, Bool.true_or, gm_max_u, gm_min_u, gm_isO_sF, gm_isO_sA, gm_isO_cp, gm_gF_sF, gm_gF_sA, gm_gA_sF, gm_gA_sA, gm_gF_cp, gm_gA_cp, gm_add, gm_sub, gm_mul, gm_neg, ↓reduceIte, Nat.reduceAdd, Nat.reduceLeDiff, true_and, and_true, and_self, true_or, or_true, false_and, and_false, false_or, or_false, eq_self, Nat.reduceEqDiff, Int.reduceEq, Int.reduceLT, Int.reduceLE, Int.reduceNeg, Int.reduceAdd, Int.reduceSub, Int.reduceMul, Int.reduceDiv, Int.reduceMod, reduceCtorEq, if_true, if_false, gm_w_id, xX8_looked_0, xX8_looked_2, xX8_looked_4, xX8_looked_5, xX8_looked_6, gn_lkd, c1, c2, c7, f1, hi']
  | succ k ih =>
    intro f i l3 l4 l5 M1 he hf hi h0
    obtain ⟨f, rfl⟩ : ∃ g, f = g + 20 := ⟨f - 20, by omega⟩
    obtain ⟨c1, c2, c3, c4, c5, c6, c7, c8, c9, c10, c11, c12, c13⟩ := gm_cx hI he
    have f1 : gm_gF M1 709 2 = gm_gF M 709 2 := he.2.1 709 2 (by omega)
    have hi' : i < gm_gF M 709 2 := by omega
    have l8 : gm_gF M1 708 2 = 7 := gm_l708 he.1 c2
    have k8 : gm_isO 20 M1 7 = true := gm_k708 he.1 c2
    have n8 : gm_len M1 7 = 12 := gm_n708 he.1 c2
    have i12 : i < 12 := by omega
    have hin := gm_inI (M := M1) (a := 7) (i := i) n8 h0 (by omega) (by decide)
    have f2 : gm_gA M1 7 i = gm_gA M 7 i := he.2.2 7 i (by omega)
    have hbk := hb2 i h0 hi'
    have h8 := c11 (d + 4) (gm_gA M 7 i) ⟨by omega, by omega⟩
    unfold gm_ho at h8
    rw [if_pos hbk] at h8
    have e4 : ∀ a', (a' = 0 ∨ a' = 1) → (a' = 0 → gn_lkd M (k + 1) i = i) → (a' = 1 → gn_lkd M (k + 1) i = gn_lkd M k (i + 1)) → True := fun _ _ _ _ => trivial
    have hlk : gn_lkd M (k + 1) i = if gn_lam M (gm_gA M 7 i) (i + 1).toNat 0 (gm_qq M (8 + 3 * gm_gA M 7 i)) 0 = 0 then i else gn_lkd M k (i + 1) := rfl
    rw [hlk]
    generalize gm_gA M 7 i = n at *
    have hpos : ¬ (8 + 3 * n ≤ 0) := by omega
    have c14 := c13 n hbk.1 hbk.2
    have hb := he.bec 74 (8 + 3 * n) (Or.inl rfl)
    have hA := gm_bec_As hI he (o := 74) hbk.1 hbk.2
    have hbc := c12 (d + 3) n 74 hbk.1 hbk.2 (Or.inl rfl)
    obtain ⟨M3, he3, e3⟩ := r_X8_looked_in d M hI n i hbk.1 hbk.2 ⟨h0, by omega⟩ (i + 1).toNat (f + 17 - (i + 1).toNat) 0 0 _ _ hb hA (by omega) (by omega)
    rw [show f + 17 - (i + 1).toNat + ((i + 1).toNat + 1) = f + 18 by omega, show f + 17 - (i + 1).toNat = (f + 15 - (i + 1).toNat) + 1 + 1 by omega] at e3
    rcases gn_lam01 M n (i + 1).toNat 0 (gm_qq M (8 + 3 * n)) 0 (Or.inl rfl) with hv | hv
    · rw [hv] at e3 ⊢
      refine ⟨M3, he3, ?_⟩
      rw [xX8_looked_1]
      simp (config := { maxSteps := 2000000 }) (disch := first | omega | assumption | (simp only [gm_isO_sF, gm_isO_sA, gm_isO_cp]; assumption)) only [gm_push, gm_iload, gm_lload, gm_aload, gm_istore, gm_astore, gm_iinc, gm_op2, gm_quo, gm_op1, gm_lop2, gm_lshl, gm_i2l, gm_l2i, gm_lcmp, gm_dup, gm_pop1, gm_dup2, gm_goto, gm_ifeq, gm_ifne, gm_iflt, gm_ifge, gm_ifgt, gm_ifle, gm_ceq, gm_cne, gm_clt, gm_cge, gm_cgt, gm_cle, gm_ifnull, gm_ifnonnull, gm_swk, gm_switch, gm_getI, gm_getR, gm_putI, gm_putZ, gm_putR, gm_new, gm_newarr, gm_iald, gm_cald, gm_zald, gm_lald, gm_aald, gm_iast, gm_cast, gm_zast, gm_last, gm_aast, gm_acp, gm_oinit, gm_back, gm_scall, gm_vcall, gm_iret, gm_zret, gm_cret, gm_lret, gm_aret, gm_vret, gm_slen, gm_schar, gm_sidx, gm_lget, gm_lset, gm_nl, gm_ent, gm_wd, gm_pop, gm_pad, gm_xl_c, gm_alen_u, gm_1_sF, gm_1_sA, gm_1_cp, gm_len_sF, gm_len_sA, gm_len_cp, Bool.or_true, Bool.true_or, gm_max_u, gm_min_u, gm_isO_sF, gm_isO_sA, gm_isO_cp, gm_gF_sF, gm_gF_sA, gm_gA_sF, gm_gA_sA, gm_gF_cp, gm_gA_cp, gm_add, gm_sub, gm_mul, gm_neg, ↓reduceIte, Nat.reduceAdd, Nat.reduceLeDiff, true_and, and_true, and_self, true_or, or_true, false_and, and_false, false_or, or_false, eq_self, Nat.reduceEqDiff, Int.reduceEq, Int.reduceLT, Int.reduceLE, Int.reduceNeg, Int.reduceAdd, Int.reduceSub, Int.reduceMul, Int.reduceDiv, Int.reduceMod, reduceCtorEq, if_true, if_false, gm_w_id, xX8_looked_0, xX8_looked_2, xX8_looked_4, xX8_looked_5, xX8_looked_6, c1, c2, c3, c5, c7, f1, hi', l8, k8, n8, i12, hin, f2, h8, hpos, c14, hbc, e3]
    · rw [hv] at e3 ⊢
      obtain ⟨M4, he4, e4⟩ := ih (f + 15 - (i + 1).toNat) (i + 1) (some (.inr (.inr (8 + 3 * n)))) (some (.inl 1)) (some (.inl (i + 1))) M3 he3 (by omega) (by omega) (by omega)
      refine ⟨M4, he4, ?_⟩
      rw [xX8_looked_1]
      simp (config := { maxSteps := 2000000 }) (disch := first | omega | assumption | (simp only [gm_isO_sF, gm_isO_sA, gm_isO_cp]; assumption)) only [gm_push, gm_iload, gm_lload, gm_aload, gm_istore, gm_astore, gm_iinc, gm_op2, gm_quo, gm_op1, gm_lop2, gm_lshl, gm_i2l, gm_l2i, gm_lcmp, gm_dup, gm_pop1, gm_dup2, gm_goto, gm_ifeq, gm_ifne, gm_iflt, gm_ifge, gm_ifgt, gm_ifle, gm_ceq, gm_cne, gm_clt, gm_cge, gm_cgt, gm_cle, gm_ifnull, gm_ifnonnull, gm_swk, gm_switch, gm_getI, gm_getR, gm_putI, gm_putZ, gm_putR, gm_new, gm_newarr, gm_iald, gm_cald, gm_zald, gm_lald, gm_aald, gm_iast, gm_cast, gm_zast, gm_last, gm_aast, gm_acp, gm_oinit, gm_back, gm_scall, gm_vcall, gm_iret, gm_zret, gm_cret, gm_lret, gm_aret, gm_vret, gm_slen, gm_schar, gm_sidx, gm_lget, gm_lset, gm_nl, gm_ent, gm_wd, gm_pop, gm_pad, gm_xl_c, gm_alen_u, gm_1_sF, gm_1_sA, gm_1_cp, gm_len_sF, gm_len_sA, gm_len_cp, Bool.or_true, Bool.true_or, gm_max_u, gm_min_u, gm_isO_sF, gm_isO_sA, gm_isO_cp, gm_gF_sF, gm_gF_sA, gm_gA_sF, gm_gA_sA, gm_gF_cp, gm_gA_cp, gm_add, gm_sub, gm_mul, gm_neg, ↓reduceIte, Nat.reduceAdd, Nat.reduceLeDiff, true_and, and_true, and_self, true_or, or_true, false_and, and_false, false_or, or_false, eq_self, Nat.reduceEqDiff, Int.reduceEq, Int.reduceLT, Int.reduceLE, Int.reduceNeg, Int.reduceAdd, Int.reduceSub, Int.reduceMul, Int.reduceDiv, Int.reduceMod, reduceCtorEq, if_true, if_false, gm_w_id, xX8_looked_0, xX8_looked_2, xX8_looked_4, xX8_looked_5, xX8_looked_6, c1, c2, c3, c5, c7, f1, hi', l8, k8, n8, i12, hin, f2, h8, hpos, c14, hbc, e3, e4]
theorem r_X8_looked (d : Nat) (M : gm_M) (hI : gm_CI M) (hC : gn_CB M) : ∃ M1, gm_Ec M M1 ∧ gm_go (d + 6) 78 [.inr (.inr 1)] M = some (some (.inl (gn_lkd M (gm_gF M 709 2).toNat 0)), M1) := by
  have he := gm_Ec.rf hI.1
  obtain ⟨c1, c2, c3, c4, c5, c6, c7, c8, c9, c10, c11, c12, c13⟩ := gm_cx hI he
  have hg := c10 (d + 4)
  have hC2 := hC.2.1
  rw [eX8_looked _ _ _ (Nat.le_of_ble_eq_true rfl)]
  obtain ⟨M2, he2, e⟩ := r_X8_looked_loop d M hI hC (gm_gF M 709 2).toNat 99999 0 none none none M he (by omega) (by omega) (by omega)
  refine ⟨M2, he2, ?_⟩
  simp (config := { maxSteps := 2000000 }) (disch := first | omega | assumption | (simp only [gm_isO_sF, gm_isO_sA, gm_isO_cp]; assumption)) only [gm_push, gm_iload, gm_lload, gm_aload, gm_istore, gm_astore, gm_iinc, gm_op2, gm_quo, gm_op1, gm_lop2, gm_lshl, gm_i2l, gm_l2i, gm_lcmp, gm_dup, gm_pop1, gm_dup2, gm_goto, gm_ifeq, gm_ifne, gm_iflt, gm_ifge, gm_ifgt, gm_ifle, gm_ceq, gm_cne, gm_clt, gm_cge, gm_cgt, gm_cle, gm_ifnull, gm_ifnonnull, gm_swk, gm_switch, gm_getI, gm_getR, gm_putI, gm_putZ, gm_putR, gm_new, gm_newarr, gm_iald, gm_cald, gm_zald, gm_lald, gm_aald, gm_iast, gm_cast, gm_zast, gm_last, gm_aast, gm_acp, gm_oinit, gm_back, gm_scall, gm_vcall, gm_iret, gm_zret, gm_cret, gm_lret, gm_aret, gm_vret, gm_slen, gm_schar, gm_sidx, gm_lget, gm_lset, gm_nl, gm_ent, gm_wd, gm_pop, gm_pad, gm_xl_c, gm_alen_u, gm_1_sF, gm_1_sA, gm_1_cp, gm_len_sF, gm_len_sA, gm_len_cp, Bool.or_true, Bool.true_or, gm_max_u, gm_min_u, gm_isO_sF, gm_isO_sA, gm_isO_cp, gm_gF_sF, gm_gF_sA, gm_gA_sF, gm_gA_sA, gm_gF_cp, gm_gA_cp, gm_add, gm_sub, gm_mul, gm_neg, ↓reduceIte, Nat.reduceAdd, Nat.reduceLeDiff, true_and, and_true, and_self, true_or, or_true, false_and, and_false, false_or, or_false, eq_self, Nat.reduceEqDiff, Int.reduceEq, Int.reduceLT, Int.reduceLE, Int.reduceNeg, Int.reduceAdd, Int.reduceSub, Int.reduceMul, Int.reduceDiv, Int.reduceMod, reduceCtorEq, if_true, if_false, gm_w_id, xX8_looked_0, xX8_looked_2, xX8_looked_4, xX8_looked_5, xX8_looked_6, c1, hg, e]
/-- the last day for which something was seen -/
theorem r_X7_lastSeenDay_loop (d : Nat) (M M1 : gm_M) (hI : gm_CI M) (hC : gn_CB M) (he : gm_Ec M M1) (n : Int) (hn : gm_i n) : ∀ (k f : Nat) (i L : Int), 3 * (k + 2) ≤ f → i = gm_gF M 707 2 - k → 0 ≤ i → (-1 ≤ L ∧ L ≤ 30) → (∀ j, 0 ≤ j → j < i → gm_gA M 4 j = n → gm_gA M 5 j ≤ L) →
    ∃ L', (-1 ≤ L' ∧ L' ≤ 30) ∧ (∀ j, 0 ≤ j → j < gm_gF M 707 2 → gm_gA M 4 j = n → gm_gA M 5 j ≤ L') ∧ gm_ex (gm_go d) qX7_lastSeenDay f 1 [some (.inr (.inr 2)), some (.inl n), some (.inl L), some (.inl i)] [] M1 = some (some (.inl L'), M1) := by
  obtain ⟨c1, c2, c3, c4, c5, c6, c7, c8, c9, c10, c11, c12, c13⟩ := gm_cx hI he
  have hm := hI.2.1
  obtain ⟨hs1, -, hs2, -⟩ := hC
  have f1 : gm_gF M1 707 2 = gm_gF M 707 2 := he.2.1 707 2 (by omega)
  have l4 : gm_gF M1 704 2 = 4 := gm_l704 he.1 c2
  have k4 : gm_isO 20 M1 4 = true := gm_k704 he.1 c2
  have n4 : gm_len M1 4 = 8 := gm_n704 he.1 c2
  have l5 : gm_gF M1 705 2 = 5 := gm_l705 he.1 c2
  have k5 : gm_isO 20 M1 5 = true := gm_k705 he.1 c2
  have n5 : gm_len M1 5 = 8 := gm_n705 he.1 c2
  intro k
  induction k with
  | zero =>
    intro f i L hf hi h0 hL hj
    obtain ⟨f, rfl⟩ : ∃ g, f = g + 3 := ⟨f - 3, by omega⟩
    have hi' : ¬ i < gm_gF M 707 2 := by omega
    refine ⟨L, hL, fun j j1 j2 => hj j j1 (by omega), ?_⟩
    rw [xX7_lastSeenDay_1]
    simp (config := { maxSteps := 2000000 }) (disch := first | omega | assumption | (simp only [gm_isO_sF, gm_isO_sA, gm_isO_cp]; assumption)) only [gm_push, gm_iload, gm_lload, gm_aload, gm_istore, gm_astore, gm_iinc, gm_op2, gm_quo, gm_op1, gm_lop2, gm_lshl, gm_i2l, gm_l2i, gm_lcmp, gm_dup, gm_pop1, gm_dup2, gm_goto, gm_ifeq, gm_ifne, gm_iflt, gm_ifge, gm_ifgt, gm_ifle, gm_ceq, gm_cne, gm_clt, gm_cge, gm_cgt, gm_cle, gm_ifnull, gm_ifnonnull, gm_swk, gm_switch, gm_getI, gm_getR, gm_putI, gm_putZ, gm_putR, gm_new, gm_newarr, gm_iald, gm_cald, gm_zald, gm_lald, gm_aald, gm_iast, gm_cast, gm_zast, gm_last, gm_aast, gm_acp, gm_oinit, gm_back, gm_scall, gm_vcall, gm_iret, gm_zret, gm_cret, gm_lret, gm_aret, gm_vret, gm_slen, gm_schar, gm_sidx, gm_lget, gm_lset, gm_nl, gm_ent, gm_wd, gm_pop, gm_pad, gm_xl_c, gm_alen_u, gm_1_sF, gm_1_sA, gm_1_cp, gm_len_sF, gm_len_sA, gm_len_cp, Bool.or_true, Bool.true_or, gm_max_u, gm_min_u, gm_isO_sF, gm_isO_sA, gm_isO_cp, gm_gF_sF, gm_gF_sA, gm_gA_sF, gm_gA_sA, gm_gF_cp, gm_gA_cp, gm_add, gm_sub, gm_mul, gm_neg, ↓reduceIte, Nat.reduceAdd, Nat.reduceLeDiff, true_and, and_true, and_self, true_or, or_true, false_and, and_false, false_or, or_false, eq_self, Nat.reduceEqDiff, Int.reduceEq, Int.reduceLT, Int.reduceLE, Int.reduceNeg, Int.reduceAdd, Int.reduceSub, Int.reduceMul, Int.reduceDiv, Int.reduceMod, reduceCtorEq, if_true, if_false, gm_w_id, xX7_lastSeenDay_0, xX7_lastSeenDay_2, xX7_lastSeenDay_3, c2, f1, hi']
  | succ k ih =>
    intro f i L hf hi h0 hL hj
    obtain ⟨f, rfl⟩ : ∃ g, f = g + 3 := ⟨f - 3, by omega⟩
    have hi' : i < gm_gF M 707 2 := by omega
    have i8 : i < 8 := by omega
    have hin4 := gm_inI (M := M1) (a := 4) (i := i) n4 h0 (by omega) (by decide)
    have hin5 := gm_inI (M := M1) (a := 5) (i := i) n5 h0 (by omega) (by decide)
    have a4 : gm_gA M1 4 i = gm_gA M 4 i := he.2.2 4 i (by omega)
    have a5 : gm_gA M1 5 i = gm_gA M 5 i := he.2.2 5 i (by omega)
    obtain ⟨b1, b2, b3⟩ := hs2 i h0 hi'
    by_cases hz : gm_gA M 4 i = n
    · have e1 : gm_mx L (gm_gA M 5 i) = max L (gm_gA M 5 i) := gm_mx_id ⟨by omega, by omega⟩ ⟨by omega, by omega⟩
      obtain ⟨L', q1, q2, e⟩ := ih (f + 1) (i + 1) (max L (gm_gA M 5 i)) (by omega) (by omega) (by omega) (by omega) (fun j j1 j2 j3 => by
        by_cases hji : j = i
        · subst hji; omega
        · have := hj j j1 (by omega) j3; omega)
      refine ⟨L', q1, q2, ?_⟩
      rw [xX7_lastSeenDay_1]
      simp (config := { maxSteps := 2000000 }) (disch := first | omega | assumption | (simp only [gm_isO_sF, gm_isO_sA, gm_isO_cp]; assumption)) only [gm_push, gm_iload, gm_lload, gm_aload, gm_istore, gm_astore, gm_iinc, gm_op2, gm_quo, gm_op1, gm_lop2, gm_lshl, gm_i2l, gm_l2i, gm_lcmp, gm_dup, gm_pop1, gm_dup2, gm_goto, gm_ifeq, gm_ifne, gm_iflt, gm_ifge, gm_ifgt, gm_ifle, gm_ceq, gm_cne, gm_clt, gm_cge, gm_cgt, gm_cle, gm_ifnull, gm_ifnonnull, gm_swk, gm_switch, gm_getI, gm_getR, gm_putI, gm_putZ, gm_putR, gm_new, gm_newarr, gm_iald, gm_cald, gm_zald, gm_lald, gm_aald, gm_iast, gm_cast, gm_zast, gm_last, gm_aast, gm_acp, gm_oinit, gm_back, gm_scall, gm_vcall, gm_iret, gm_zret, gm_cret, gm_lret, gm_aret, gm_vret, gm_slen, gm_schar, gm_sidx, gm_lget, gm_lset, gm_nl, gm_ent, gm_wd, gm_pop, gm_pad, gm_xl_c, gm_alen_u, gm_1_sF, gm_1_sA, gm_1_cp, gm_len_sF, gm_len_sA, gm_len_cp, Bool.or_true, Bool.true_or, gm_max_u, gm_min_u, gm_isO_sF, gm_isO_sA, gm_isO_cp, gm_gF_sF, gm_gF_sA, gm_gA_sF, gm_gA_sA, gm_gF_cp, gm_gA_cp, gm_add, gm_sub, gm_mul, gm_neg, ↓reduceIte, Nat.reduceAdd, Nat.reduceLeDiff, true_and, and_true, and_self, true_or, or_true, false_and, and_false, false_or, or_false, eq_self, Nat.reduceEqDiff, Int.reduceEq, Int.reduceLT, Int.reduceLE, Int.reduceNeg, Int.reduceAdd, Int.reduceSub, Int.reduceMul, Int.reduceDiv, Int.reduceMod, reduceCtorEq, if_true, if_false, gm_w_id, xX7_lastSeenDay_0, xX7_lastSeenDay_2, xX7_lastSeenDay_3, c2, f1, hi', i8, l4, k4, n4, l5, k5, n5, hin4, hin5, a4, a5, hz, e1]
      exact e
    · obtain ⟨L', q1, q2, e⟩ := ih (f + 1) (i + 1) L (by omega) (by omega) (by omega) hL (fun j j1 j2 j3 => by
        by_cases hji : j = i
        · subst hji; exact absurd j3 hz
        · exact hj j j1 (by omega) j3)
      refine ⟨L', q1, q2, ?_⟩
      rw [xX7_lastSeenDay_1]
      simp (config := { maxSteps := 2000000 }) (disch := first | omega | assumption | (simp only [gm_isO_sF, gm_isO_sA, gm_isO_cp]; assumption)) only [gm_push, gm_iload, gm_lload, gm_aload, gm_istore, gm_astore, gm_iinc, gm_op2, gm_quo, gm_op1, gm_lop2, gm_lshl, gm_i2l, gm_l2i, gm_lcmp, gm_dup, gm_pop1, gm_dup2, gm_goto, gm_ifeq, gm_ifne, gm_iflt, gm_ifge, gm_ifgt, gm_ifle, gm_ceq, gm_cne, gm_clt, gm_cge, gm_cgt, gm_cle, gm_ifnull, gm_ifnonnull, gm_swk, gm_switch, gm_getI, gm_getR, gm_putI, gm_putZ, gm_putR, gm_new, gm_newarr, gm_iald, gm_cald, gm_zald, gm_lald, gm_aald, gm_iast, gm_cast, gm_zast, gm_last, gm_aast, gm_acp, gm_oinit, gm_back, gm_scall, gm_vcall, gm_iret, gm_zret, gm_cret, gm_lret, gm_aret, gm_vret, gm_slen, gm_schar, gm_sidx, gm_lget, gm_lset, gm_nl, gm_ent, gm_wd, gm_pop, gm_pad, gm_xl_c, gm_alen_u, gm_1_sF, gm_1_sA, gm_1_cp, gm_len_sF, gm_len_sA, gm_len_cp, Bool.or_true, Bool.true_or, gm_max_u, gm_min_u, gm_isO_sF, gm_isO_sA, gm_isO_cp, gm_gF_sF, gm_gF_sA, gm_gA_sF, gm_gA_sA, gm_gF_cp, gm_gA_cp, gm_add, gm_sub, gm_mul, gm_neg, ↓reduceIte, Nat.reduceAdd, Nat.reduceLeDiff, true_and, and_true, and_self, true_or, or_true, false_and, and_false, false_or, or_false, eq_self, Nat.reduceEqDiff, Int.reduceEq, Int.reduceLT, Int.reduceLE, Int.reduceNeg, Int.reduceAdd, Int.reduceSub, Int.reduceMul, Int.reduceDiv, Int.reduceMod, reduceCtorEq, if_true, if_false, gm_w_id, xX7_lastSeenDay_0, xX7_lastSeenDay_2, xX7_lastSeenDay_3, c2, f1, hi', i8, l4, k4, n4, l5, k5, n5, hin4, hin5, a4, a5, hz]
      exact e
theorem r_X7_lastSeenDay (d : Nat) (M M1 : gm_M) (hI : gm_CI M) (hC : gn_CB M) (he : gm_Ec M M1) (n : Int) (hn : gm_i n) :
    ∃ L', (-1 ≤ L' ∧ L' ≤ 30) ∧ (∀ j, 0 ≤ j → j < gm_gF M 707 2 → gm_gA M 4 j = n → gm_gA M 5 j ≤ L') ∧ gm_go (d + 1) 51 [.inr (.inr 2), .inl n] M1 = some (some (.inl L'), M1) := by
  have hC1 := hC.1
  obtain ⟨L', q1, q2, e⟩ := r_X7_lastSeenDay_loop d M M1 hI hC he n hn (gm_gF M 707 2).toNat 99999 0 (-1) (by omega) (by omega) (by omega) (by decide) (fun j j1 j2 => by omega)
  refine ⟨L', q1, q2, ?_⟩
  rw [eX7_lastSeenDay _ _ _ (Nat.le_of_ble_eq_true rfl)]
  simp (config := { maxSteps := 2000000 }) (disch := first | omega | assumption | (simp only [gm_isO_sF, gm_isO_sA, gm_isO_cp]; assumption)) only [gm_push, gm_iload, gm_lload, gm_aload, gm_istore, gm_astore, gm_iinc, gm_op2, gm_quo, gm_op1, gm_lop2, gm_lshl, gm_i2l, gm_l2i, gm_lcmp, gm_dup, gm_pop1, gm_dup2, gm_goto, gm_ifeq, gm_ifne, gm_iflt, gm_ifge, gm_ifgt, gm_ifle, gm_ceq, gm_cne, gm_clt, gm_cge, gm_cgt, gm_cle, gm_ifnull, gm_ifnonnull, gm_swk, gm_switch, gm_getI, gm_getR, gm_putI, gm_putZ, gm_putR, gm_new, gm_newarr, gm_iald, gm_cald, gm_zald, gm_lald, gm_aald, gm_iast, gm_cast, gm_zast, gm_last, gm_aast, gm_acp, gm_oinit, gm_back, gm_scall, gm_vcall, gm_iret, gm_zret, gm_cret, gm_lret, gm_aret, gm_vret, gm_slen, gm_schar, gm_sidx, gm_lget, gm_lset, gm_nl, gm_ent, gm_wd, gm_pop, gm_pad, gm_xl_c, gm_alen_u, gm_1_sF, gm_1_sA, gm_1_cp, gm_len_sF, gm_len_sA, gm_len_cp, Bool.or_true, Bool.true_or, gm_max_u, gm_min_u, gm_isO_sF, gm_isO_sA, gm_isO_cp, gm_gF_sF, gm_gF_sA, gm_gA_sF, gm_gA_sA, gm_gF_cp, gm_gA_cp, gm_add, gm_sub, gm_mul, gm_neg, ↓reduceIte, Nat.reduceAdd, Nat.reduceLeDiff, true_and, and_true, and_self, true_or, or_true, false_and, and_false, false_or, or_false, eq_self, Nat.reduceEqDiff, Int.reduceEq, Int.reduceLT, Int.reduceLE, Int.reduceNeg, Int.reduceAdd, Int.reduceSub, Int.reduceMul, Int.reduceDiv, Int.reduceMod, reduceCtorEq, if_true, if_false, gm_w_id, xX7_lastSeenDay_0, xX7_lastSeenDay_2, xX7_lastSeenDay_3, e]
/-- nothing else was seen of the house for that day -/
def gn_wss (M : gm_M) (n dy h i : Int) : Prop := ∀ j, i ≤ j → j < gm_gF M 707 2 → gm_gA M 4 j = n → gm_gA M 5 j = dy → gm_gA M 6 j = h
noncomputable def gn_b (p : Prop) : Int := @ite _ p (Classical.propDecidable p) 1 0
theorem gn_b1 {p : Prop} (h : p) : gn_b p = 1 := @if_pos p (Classical.propDecidable p) h Int 1 0
theorem gn_b0 {p : Prop} (h : ¬ p) : gn_b p = 0 := @if_neg p (Classical.propDecidable p) h Int 1 0
theorem gn_b_if {p q : Prop} (h : p ↔ q) : gn_b p = gn_b q := by rw [propext h]
theorem r_X7_wasSeenSo_loop (d : Nat) (M M1 : gm_M) (hI : gm_CI M) (hC : gn_CB M) (he : gm_Ec M M1) (n dy h : Int) (hn : gm_i n) (hdy : gm_i dy) (hh : gm_i h) : ∀ (k f : Nat) (i : Int), 3 * (k + 2) ≤ f → i = gm_gF M 707 2 - k → 0 ≤ i →
    gm_ex (gm_go d) qX7_wasSeenSo f 1 [some (.inr (.inr 2)), some (.inl n), some (.inl dy), some (.inl h), some (.inl i)] [] M1 = some (some (.inl (gn_b (gn_wss M n dy h i))), M1) := by
  obtain ⟨c1, c2, c3, c4, c5, c6, c7, c8, c9, c10, c11, c12, c13⟩ := gm_cx hI he
  have hm := hI.2.1
  obtain ⟨hs1, -, hs2, -⟩ := hC
  have f1 : gm_gF M1 707 2 = gm_gF M 707 2 := he.2.1 707 2 (by omega)
  have l4 : gm_gF M1 704 2 = 4 := gm_l704 he.1 c2
  have k4 : gm_isO 20 M1 4 = true := gm_k704 he.1 c2
  have n4 : gm_len M1 4 = 8 := gm_n704 he.1 c2
  have l5 : gm_gF M1 705 2 = 5 := gm_l705 he.1 c2
  have k5 : gm_isO 20 M1 5 = true := gm_k705 he.1 c2
  have n5 : gm_len M1 5 = 8 := gm_n705 he.1 c2
  have l6 : gm_gF M1 706 2 = 6 := gm_l706 he.1 c2
  have k6 : gm_isO 20 M1 6 = true := gm_k706 he.1 c2
  have n6 : gm_len M1 6 = 8 := gm_n706 he.1 c2
  intro k
  induction k with
  | zero =>
    intro f i hf hi h0
    obtain ⟨f, rfl⟩ : ∃ g, f = g + 3 := ⟨f - 3, by omega⟩
    have hi' : ¬ i < gm_gF M 707 2 := by omega
    rw [xX7_wasSeenSo_1, gn_b1 (p := gn_wss M n dy h i) (fun j j1 j2 => by omega)]
    simp (config := { maxSteps := 2000000 }) (disch := first | omega | assumption | (simp only [gm_isO_sF, gm_isO_sA, gm_isO_cp]; assumption)) only [gm_push, gm_iload, gm_lload, gm_aload, gm_istore, gm_astore, gm_iinc, gm_op2, gm_quo, gm_op1, gm_lop2, gm_lshl, gm_i2l, gm_l2i, gm_lcmp, gm_dup, gm_pop1, gm_dup2, gm_goto, gm_ifeq, gm_ifne, gm_iflt, gm_ifge, gm_ifgt, gm_ifle, gm_ceq, gm_cne, gm_clt, gm_cge, gm_cgt, gm_cle, gm_ifnull, gm_ifnonnull, gm_swk, gm_switch, gm_getI, gm_getR, gm_putI, gm_putZ, gm_putR, gm_new, gm_newarr, gm_iald, gm_cald, gm_zald, gm_lald, gm_aald, gm_iast, gm_cast, gm_zast, gm_last, gm_aast, gm_acp, gm_oinit, gm_back, gm_scall, gm_vcall, gm_iret, gm_zret, gm_cret, gm_lret, gm_aret, gm_vret, gm_slen, gm_schar, gm_sidx, gm_lget, gm_lset, gm_nl, gm_ent, gm_wd, gm_pop, gm_pad, gm_xl_c, gm_alen_u, gm_1_sF, gm_1_sA, gm_1_cp, gm_len_sF, gm_len_sA, gm_len_cp, Bool.or_true, Bool.true_or, gm_max_u, gm_min_u, gm_isO_sF, gm_isO_sA, gm_isO_cp, gm_gF_sF, gm_gF_sA, gm_gA_sF, gm_gA_sA, gm_gF_cp, gm_gA_cp, gm_add, gm_sub, gm_mul, gm_neg, ↓reduceIte, Nat.reduceAdd, Nat.reduceLeDiff, true_and, and_true, and_self, true_or, or_true, false_and, and_false, false_or, or_false, eq_self, Nat.reduceEqDiff, Int.reduceEq, Int.reduceLT, Int.reduceLE, Int.reduceNeg, Int.reduceAdd, Int.reduceSub, Int.reduceMul, Int.reduceDiv, Int.reduceMod, reduceCtorEq, if_true, if_false, gm_w_id, xX7_wasSeenSo_0, xX7_wasSeenSo_2, xX7_wasSeenSo_3, c2, f1, hi']
  | succ k ih =>
    intro f i hf hi h0
    obtain ⟨f, rfl⟩ : ∃ g, f = g + 3 := ⟨f - 3, by omega⟩
    have hi' : i < gm_gF M 707 2 := by omega
    have i8 : i < 8 := by omega
    have hin4 := gm_inI (M := M1) (a := 4) (i := i) n4 h0 (by omega) (by decide)
    have hin5 := gm_inI (M := M1) (a := 5) (i := i) n5 h0 (by omega) (by decide)
    have hin6 := gm_inI (M := M1) (a := 6) (i := i) n6 h0 (by omega) (by decide)
    have a4 : gm_gA M1 4 i = gm_gA M 4 i := he.2.2 4 i (by omega)
    have a5 : gm_gA M1 5 i = gm_gA M 5 i := he.2.2 5 i (by omega)
    have a6 : gm_gA M1 6 i = gm_gA M 6 i := he.2.2 6 i (by omega)
    obtain ⟨b1, b2, b3⟩ := hs2 i h0 hi'
    have e := ih (f + 1) (i + 1) (by omega) (by omega) (by omega)
    by_cases z1 : gm_gA M 4 i = n
    · by_cases z2 : gm_gA M 5 i = dy
      · by_cases z3 : gm_gA M 6 i = h
        · rw [gn_b_if (q := gn_wss M n dy h (i + 1)) ⟨fun z j j1 j2 => z j (by omega) j2, fun z j j1 j2 j3 j4 => by
            by_cases hji : j = i
            · subst hji; exact z3
            · exact z j (by omega) j2 j3 j4⟩]
          rw [xX7_wasSeenSo_1]
          simp (config := { maxSteps := 2000000 }) (disch := first | omega | assumption | (simp only [gm_isO_sF, gm_isO_sA, gm_isO_cp]; assumption)) only [gm_push, gm_iload, gm_lload, gm_aload, gm_istore, gm_astore, gm_iinc, gm_op2, gm_quo, gm_op1, gm_lop2, gm_lshl, gm_i2l, gm_l2i, gm_lcmp, gm_dup, gm_pop1, gm_dup2, gm_goto, gm_ifeq, gm_ifne, gm_iflt, gm_ifge, gm_ifgt, gm_ifle, gm_ceq, gm_cne, gm_clt, gm_cge, gm_cgt, gm_cle, gm_ifnull, gm_ifnonnull, gm_swk, gm_switch, gm_getI, gm_getR, gm_putI, gm_putZ, gm_putR, gm_new, gm_newarr, gm_iald, gm_cald, gm_zald, gm_lald, gm_aald, gm_iast, gm_cast, gm_zast, gm_last, gm_aast, gm_acp, gm_oinit, gm_back, gm_scall, gm_vcall, gm_iret, gm_zret, gm_cret, gm_lret, gm_aret, gm_vret, gm_slen, gm_schar, gm_sidx, gm_lget, gm_lset, gm_nl, gm_ent, gm_wd, gm_pop, gm_pad, gm_xl_c, gm_alen_u, gm_1_sF, gm_1_sA, gm_1_cp, gm_len_sF, gm_len_sA, gm_len_cp, Bool.or_true, Bool.true_or, gm_max_u, gm_min_u, gm_isO_sF, gm_isO_sA, gm_isO_cp, gm_gF_sF, gm_gF_sA, gm_gA_sF, gm_gA_sA, gm_gF_cp, gm_gA_cp, gm_add, gm_sub, gm_mul, gm_neg, ↓reduceIte, Nat.reduceAdd, Nat.reduceLeDiff, true_and, and_true, and_self, true_or, or_true, false_and, and_false, false_or, or_false, eq_self, Nat.reduceEqDiff, Int.reduceEq, Int.reduceLT, Int.reduceLE, Int.reduceNeg, Int.reduceAdd, Int.reduceSub, Int.reduceMul, Int.reduceDiv, Int.reduceMod, reduceCtorEq, if_true, if_false, gm_w_id, xX7_wasSeenSo_0, xX7_wasSeenSo_2, xX7_wasSeenSo_3, c2, f1, hi', i8, l4, k4, n4, l5, k5, n5, l6, k6, n6, hin4, hin5, hin6, a4, a5, a6, z1, z2, z3]
          exact e
        · rw [gn_b0 (fun z => z3 (z i (by omega) hi' z1 z2))]
          rw [xX7_wasSeenSo_1]
          simp (config := { maxSteps := 2000000 }) (disch := first | omega | assumption | (simp only [gm_isO_sF, gm_isO_sA, gm_isO_cp]; assumption)) only [gm_push, gm_iload, gm_lload, gm_aload, gm_istore, gm_astore, gm_iinc, gm_op2, gm_quo, gm_op1, gm_lop2, gm_lshl, gm_i2l, gm_l2i, gm_lcmp, gm_dup, gm_pop1, gm_dup2, gm_goto, gm_ifeq, gm_ifne, gm_iflt, gm_ifge, gm_ifgt, gm_ifle, gm_ceq, gm_cne, gm_clt, gm_cge, gm_cgt, gm_cle, gm_ifnull, gm_ifnonnull, gm_swk, gm_switch, gm_getI, gm_getR, gm_putI, gm_putZ, gm_putR, gm_new, gm_newarr, gm_iald, gm_cald, gm_zald, gm_lald, gm_aald, gm_iast, gm_cast, gm_zast, gm_last, gm_aast, gm_acp, gm_oinit, gm_back, gm_scall, gm_vcall, gm_iret, gm_zret, gm_cret, gm_lret, gm_aret, gm_vret, gm_slen, gm_schar, gm_sidx, gm_lget, gm_lset, gm_nl, gm_ent, gm_wd, gm_pop, gm_pad, gm_xl_c, gm_alen_u, gm_1_sF, gm_1_sA, gm_1_cp, gm_len_sF, gm_len_sA, gm_len_cp, Bool.or_true, Bool.true_or, gm_max_u, gm_min_u, gm_isO_sF, gm_isO_sA, gm_isO_cp, gm_gF_sF, gm_gF_sA, gm_gA_sF, gm_gA_sA, gm_gF_cp, gm_gA_cp, gm_add, gm_sub, gm_mul, gm_neg, ↓reduceIte, Nat.reduceAdd, Nat.reduceLeDiff, true_and, and_true, and_self, true_or, or_true, false_and, and_false, false_or, or_false, eq_self, Nat.reduceEqDiff, Int.reduceEq, Int.reduceLT, Int.reduceLE, Int.reduceNeg, Int.reduceAdd, Int.reduceSub, Int.reduceMul, Int.reduceDiv, Int.reduceMod, reduceCtorEq, if_true, if_false, gm_w_id, xX7_wasSeenSo_0, xX7_wasSeenSo_2, xX7_wasSeenSo_3, c2, f1, hi', i8, l4, k4, n4, l5, k5, n5, l6, k6, n6, hin4, hin5, hin6, a4, a5, a6, z1, z2, z3]
      · rw [gn_b_if (q := gn_wss M n dy h (i + 1)) ⟨fun z j j1 j2 => z j (by omega) j2, fun z j j1 j2 j3 j4 => by
            by_cases hji : j = i
            · subst hji; exact absurd j4 z2
            · exact z j (by omega) j2 j3 j4⟩]
        rw [xX7_wasSeenSo_1]
        simp (config := { maxSteps := 2000000 }) (disch := first | omega | assumption | (simp only [gm_isO_sF, gm_isO_sA, gm_isO_cp]; assumption)) only [gm_push, gm_iload, gm_lload, gm_aload, gm_istore, gm_astore, gm_iinc, gm_op2, gm_quo, gm_op1, gm_lop2, gm_lshl, gm_i2l, gm_l2i, gm_lcmp, gm_dup, gm_pop1, gm_dup2, gm_goto, gm_ifeq, gm_ifne, gm_iflt, gm_ifge, gm_ifgt, gm_ifle, gm_ceq, gm_cne, gm_clt, gm_cge, gm_cgt, gm_cle, gm_ifnull, gm_ifnonnull, gm_swk, gm_switch, gm_getI, gm_getR, gm_putI, gm_putZ, gm_putR, gm_new, gm_newarr, gm_iald, gm_cald, gm_zald, gm_lald, gm_aald, gm_iast, gm_cast, gm_zast, gm_last, gm_aast, gm_acp, gm_oinit, gm_back, gm_scall, gm_vcall, gm_iret, gm_zret, gm_cret, gm_lret, gm_aret, gm_vret, gm_slen, gm_schar, gm_sidx, gm_lget, gm_lset, gm_nl, gm_ent, gm_wd, gm_pop, gm_pad, gm_xl_c, gm_alen_u, gm_1_sF, gm_1_sA, gm_1_cp, gm_len_sF, gm_len_sA, gm_len_cp, Bool.or_true, Bool.true_or, gm_max_u, gm_min_u, gm_isO_sF, gm_isO_sA, gm_isO_cp, gm_gF_sF, gm_gF_sA, gm_gA_sF, gm_gA_sA, gm_gF_cp, gm_gA_cp, gm_add, gm_sub, gm_mul, gm_neg, ↓reduceIte, Nat.reduceAdd, Nat.reduceLeDiff, true_and, and_true, and_self, true_or, or_true, false_and, and_false, false_or, or_false, eq_self, Nat.reduceEqDiff, Int.reduceEq, Int.reduceLT, Int.reduceLE, Int.reduceNeg, Int.reduceAdd, Int.reduceSub, Int.reduceMul, Int.reduceDiv, Int.reduceMod, reduceCtorEq, if_true, if_false, gm_w_id, xX7_wasSeenSo_0, xX7_wasSeenSo_2, xX7_wasSeenSo_3, c2, f1, hi', i8, l4, k4, n4, l5, k5, n5, l6, k6, n6, hin4, hin5, hin6, a4, a5, a6, z1, z2]
        exact e
    · rw [gn_b_if (q := gn_wss M n dy h (i + 1)) ⟨fun z j j1 j2 => z j (by omega) j2, fun z j j1 j2 j3 j4 => by
            by_cases hji : j = i
            · subst hji; exact absurd j3 z1
            · exact z j (by omega) j2 j3 j4⟩]
      rw [xX7_wasSeenSo_1]
      simp (config := { maxSteps := 2000000 }) (disch := first | omega | assumption | (simp only [gm_isO_sF, gm_isO_sA, gm_isO_cp]; assumption)) only [gm_push, gm_iload, gm_lload, gm_aload, gm_istore, gm_astore, gm_iinc, gm_op2, gm_quo, gm_op1, gm_lop2, gm_lshl, gm_i2l, gm_l2i, gm_lcmp, gm_dup, gm_pop1, gm_dup2, gm_goto, gm_ifeq, gm_ifne, gm_iflt, gm_ifge, gm_ifgt, gm_ifle, gm_ceq, gm_cne, gm_clt, gm_cge, gm_cgt, gm_cle, gm_ifnull, gm_ifnonnull, gm_swk, gm_switch, gm_getI, gm_getR, gm_putI, gm_putZ, gm_putR, gm_new, gm_newarr, gm_iald, gm_cald, gm_zald, gm_lald, gm_aald, gm_iast, gm_cast, gm_zast, gm_last, gm_aast, gm_acp, gm_oinit, gm_back, gm_scall, gm_vcall, gm_iret, gm_zret, gm_cret, gm_lret, gm_aret, gm_vret, gm_slen, gm_schar, gm_sidx, gm_lget, gm_lset, gm_nl, gm_ent, gm_wd, gm_pop, gm_pad, gm_xl_c, gm_alen_u, gm_1_sF, gm_1_sA, gm_1_cp, gm_len_sF, gm_len_sA, gm_len_cp, Bool.or_true, Bool.true_or, gm_max_u, gm_min_u, gm_isO_sF, gm_isO_sA, gm_isO_cp, gm_gF_sF, gm_gF_sA, gm_gA_sF, gm_gA_sA, gm_gF_cp, gm_gA_cp, gm_add, gm_sub, gm_mul, gm_neg, ↓reduceIte, Nat.reduceAdd, Nat.reduceLeDiff, true_and, and_true, and_self, true_or, or_true, false_and, and_false, false_or, or_false, eq_self, Nat.reduceEqDiff, Int.reduceEq, Int.reduceLT, Int.reduceLE, Int.reduceNeg, Int.reduceAdd, Int.reduceSub, Int.reduceMul, Int.reduceDiv, Int.reduceMod, reduceCtorEq, if_true, if_false, gm_w_id, xX7_wasSeenSo_0, xX7_wasSeenSo_2, xX7_wasSeenSo_3, c2, f1, hi', i8, l4, k4, n4, l5, k5, n5, l6, k6, n6, hin4, hin5, hin6, a4, a5, a6, z1]
      exact e
theorem r_X7_wasSeenSo (d : Nat) (M M1 : gm_M) (hI : gm_CI M) (hC : gn_CB M) (he : gm_Ec M M1) (n dy h : Int) (hn : gm_i n) (hdy : gm_i dy) (hh : gm_i h) :
    gm_go (d + 1) 52 [.inr (.inr 2), .inl n, .inl dy, .inl h] M1 = some (some (.inl (gn_b (gn_wss M n dy h 0))), M1) := by
  have hC1 := hC.1
  have e := r_X7_wasSeenSo_loop d M M1 hI hC he n dy h hn hdy hh (gm_gF M 707 2).toNat 99999 0 (by omega) (by omega) (by omega)
  rw [eX7_wasSeenSo _ _ _ (Nat.le_of_ble_eq_true rfl)]
  simp (config := { maxSteps := 2000000 }) (disch := first | omega | assumption | (simp only [gm_isO_sF, gm_isO_sA, gm_isO_cp]; assumption)) only [gm_push, gm_iload, gm_lload, gm_aload, gm_istore, gm_astore, gm_iinc, gm_op2, gm_quo, gm_op1, gm_lop2, gm_lshl, gm_i2l, gm_l2i, gm_lcmp, gm_dup, gm_pop1, gm_dup2, gm_goto, gm_ifeq, gm_ifne, gm_iflt, gm_ifge, gm_ifgt, gm_ifle, gm_ceq, gm_cne, gm_clt, gm_cge, gm_cgt, gm_cle, gm_ifnull, gm_ifnonnull, gm_swk, gm_switch, gm_getI, gm_getR, gm_putI, gm_putZ, gm_putR, gm_new, gm_newarr, gm_iald, gm_cald, gm_zald, gm_lald, gm_aald, gm_iast, gm_cast, gm_zast, gm_last, gm_aast, gm_acp, gm_oinit, gm_back, gm_scall, gm_vcall, gm_iret, gm_zret, gm_cret, gm_lret, gm_aret, gm_vret, gm_slen, gm_schar, gm_sidx, gm_lget, gm_lset, gm_nl, gm_ent, gm_wd, gm_pop, gm_pad, gm_xl_c, gm_alen_u, gm_1_sF, gm_1_sA, gm_1_cp, gm_len_sF, gm_len_sA, gm_len_cp, Bool.or_true, Bool.true_or, gm_max_u, gm_min_u, gm_isO_sF, gm_isO_sA, gm_isO_cp, gm_gF_sF, gm_gF_sA, gm_gA_sF, gm_gA_sA, gm_gF_cp, gm_gA_cp, gm_add, gm_sub, gm_mul, gm_neg, ↓reduceIte, Nat.reduceAdd, Nat.reduceLeDiff, true_and, and_true, and_self, true_or, or_true, false_and, and_false, false_or, or_false, eq_self, Nat.reduceEqDiff, Int.reduceEq, Int.reduceLT, Int.reduceLE, Int.reduceNeg, Int.reduceAdd, Int.reduceSub, Int.reduceMul, Int.reduceDiv, Int.reduceMod, reduceCtorEq, if_true, if_false, gm_w_id, xX7_wasSeenSo_0, xX7_wasSeenSo_2, xX7_wasSeenSo_3, e]
/-- the house behind so many days -/
def gn_itr (M : gm_M) (n room leak : Int) (q : Int × Int) : Nat → Int × Int
  | 0 => q
  | j + 1 => gm_stD M n room leak (gm_day M + j) 0 (gn_itr M n room leak q j)
