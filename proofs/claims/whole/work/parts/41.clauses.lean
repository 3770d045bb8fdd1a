/-! THE CLASS: clauses -/
/-- a test of a clause -/
def gm_fact (M : gm_M) (h moon held : Int) (f : Int) : Int :=
  if f = 0 then gm_gF M 200 h else if f = 1 then gm_gF M 201 h else if f = 2 then gm_gF M 202 h else if f = 3 then moon else if f = 4 then gm_gF M 203 h / 10 else held / 10
def gm_cmp (s x y : Int) : Int := if s = 0 then (if x < y then 1 else 0) else if s = 1 then (if x = y then 1 else 0) else (if y < x then 1 else 0)
theorem r_X0_passes (d : Nat) (t num h moon held : Int) (M : gm_M) (hh : gm_isO 2 M h = true) (b1 : 0 ≤ t ∧ t < 18) (b2 : 0 ≤ num ∧ num ≤ 100) (b3 : gm_i (gm_gF M 200 h)) (b4 : gm_i (gm_gF M 201 h)) (b5 : gm_i (gm_gF M 202 h)) (b6 : gm_i moon) (b7 : 0 ≤ gm_gF M 203 h ∧ gm_gF M 203 h < 1000) (b8 : 0 ≤ held ∧ held < 100000) :
    gm_go (d + 1) 6 [.inl t, .inl num, .inr (.inr h), .inl moon, .inl held] M = some (some (.inl (gm_cmp (t % 3) (gm_fact M h moon held (t / 3)) num)), M) := by
  rw [eX0_passes _ _ _ (Nat.le_of_ble_eq_true rfl)]
  rcases (by omega : t = 0 ∨ t = 1 ∨ t = 2 ∨ t = 3 ∨ t = 4 ∨ t = 5 ∨ t = 6 ∨ t = 7 ∨ t = 8 ∨ t = 9 ∨ t = 10 ∨ t = 11 ∨ t = 12 ∨ t = 13 ∨ t = 14 ∨ t = 15 ∨ t = 16 ∨ t = 17) with rfl | rfl | rfl | rfl | rfl | rfl | rfl | rfl | rfl | rfl | rfl | rfl | rfl | rfl | rfl | rfl | rfl | rfl
  all_goals
    simp (config := { maxSteps := 2000000 }) (disch := first | omega | assumption | (simp only [gm_isO_sF, gm_isO_sA]; assumption)) only [gm_push, gm_iload, gm_lload, gm_aload, gm_istore, gm_astore, gm_iinc, gm_op2, gm_quo, gm_op1, gm_lop2, gm_lshl, gm_i2l, gm_l2i, gm_lcmp, gm_dup, gm_pop1, gm_dup2, gm_goto, gm_ifeq, gm_ifne, gm_iflt, gm_ifge, gm_ifgt, gm_ifle, gm_ceq, gm_cne, gm_clt, gm_cge, gm_cgt, gm_cle, gm_ifnull, gm_ifnonnull, gm_swk, gm_switch, gm_getI, gm_getR, gm_putI, gm_putZ, gm_putR, gm_new, gm_newarr, gm_iald, gm_cald, gm_zald, gm_lald, gm_aald, gm_iast, gm_cast, gm_zast, gm_last, gm_aast, gm_acp, gm_oinit, gm_back, gm_scall, gm_vcall, gm_iret, gm_zret, gm_cret, gm_lret, gm_aret, gm_vret, gm_slen, gm_schar, gm_sidx, gm_lget, gm_lset, gm_nl, gm_ent, gm_wd, gm_pop, gm_pad, gm_xl_c, gm_alen_u, Bool.or_true, Bool.true_or, gm_max_u, gm_min_u, gm_isO_sF, gm_isO_sA, gm_isO_cp, gm_gF_sF, gm_gF_sA, gm_gA_sF, gm_gA_sA, gm_gF_cp, gm_gA_cp, gm_add, gm_sub, gm_mul, gm_neg, ↓reduceIte, Nat.reduceAdd, Nat.reduceLeDiff, true_and, and_true, and_self, true_or, or_true, false_and, and_false, false_or, or_false, eq_self, Nat.reduceEqDiff, Int.reduceEq, Int.reduceLT, Int.reduceLE, Int.reduceNeg, Int.reduceAdd, Int.reduceSub, Int.reduceMul, Int.reduceDiv, Int.reduceMod, reduceCtorEq, if_true, if_false, gm_w_id, xX0_passes_0, xX0_passes_1, xX0_passes_2, xX0_passes_3, xX0_passes_4, xX0_passes_5, xX0_passes_6, xX0_passes_7, xX0_passes_8, xX0_passes_9, xX0_passes_10, xX0_passes_11, xX0_passes_12, xX0_passes_13, xX0_passes_14, xX0_passes_15, xX0_passes_16, hh, gm_div_id, gm_rem_id, gm_fact, gm_cmp]
    first | done | ((repeat' split) <;> rfl)
/-- the rest of a run over the steps: n steps more at most -/
def gm_run1 (steps nums fact : Int → Int) (size : Int) : Nat → Int → Int → Int → Int
  | 0, sum, _, _ => sum
  | n + 1, sum, so, i => if size ≤ i then sum
    else if steps i < 18 then gm_run1 steps nums fact size n sum (gm_cmp (steps i % 3) (fact (steps i / 3)) (nums i)) (i + 1)
    else if steps i = 18 then gm_run1 steps nums fact size n sum (if so = 0 then 1 else 0) (i + 1)
    else if steps i = 21 then gm_run1 steps nums fact size n (sum + if so = 0 then 0 else nums i) so (i + 1)
    else if so = (if steps i = 19 then 1 else 0) then gm_run1 steps nums fact size n sum so (nums i)
    else gm_run1 steps nums fact size n sum so (i + 1)
/-- a row of steps that can be run -/
def gm_cwf (M : gm_M) (c : Int) : Prop := 0 ≤ gm_gF M 2 c ∧ gm_gF M 2 c ≤ 100 ∧ (gm_gF M 3 c = 0 ∨ gm_gF M 3 c = 1) ∧ ∀ i, 0 ≤ i → i < gm_gF M 2 c → (0 ≤ gm_gA M (c + 1) i ∧ gm_gA M (c + 1) i ≤ 21) ∧ 0 ≤ gm_gA M (c + 2) i ∧ gm_gA M (c + 2) i ≤ 100
/-- what a house must be for the tests -/
def gm_hwf (M : gm_M) (h : Int) : Prop := gm_i (gm_gF M 200 h) ∧ gm_i (gm_gF M 201 h) ∧ gm_i (gm_gF M 202 h) ∧ 0 ≤ gm_gF M 203 h ∧ gm_gF M 203 h < 1000
theorem gm_cmp01 (s x y : Int) : gm_cmp s x y = 0 ∨ gm_cmp s x y = 1 := by
  unfold gm_cmp
  (repeat' split) <;> simp
set_option maxHeartbeats 4000000 in
theorem r_X0_loop (d : Nat) (c h moon held : Int) (M : gm_M) (hL : gm_Lay M) (hc : gm_isO 0 M c = true) (hh : gm_isO 2 M h = true) (hcw : gm_cwf M c) (hhw : gm_hwf M h) (b6 : gm_i moon) (b8 : 0 ≤ held ∧ held < 100000) :
    ∀ (n f : Nat) (sum so i ran : Int) (l8 l9 : Option gm_V), 14 * (n + 1) ≤ f → ran = 100 - n → n ≤ 100 → -100000 + 100 * n ≤ sum → sum ≤ 100000 - 100 * n → so = 0 ∨ so = 1 → 0 ≤ i → i ≤ 101 →
    gm_ex (gm_go (d + 1)) qX0_total f 2 [some (.inr (.inr c)), some (.inr (.inr h)), some (.inl moon), some (.inl held), some (.inl sum), some (.inl so), some (.inl i), some (.inl ran), l8, l9] [] M = some (some (.inl (gm_run1 (gm_gA M (c + 1)) (gm_gA M (c + 2)) (gm_fact M h moon held) (gm_gF M 2 c) n sum so i)), M) := by
  have e0 := gm_l0 hL hc
  have e1 := gm_l1 hL hc
  have k0 := gm_k0 hL hc
  have k1 := gm_k1 hL hc
  have n0 := gm_n0 hL hc
  have n1 := gm_n1 hL hc
  obtain ⟨w1, w2, w3, w4⟩ := hcw
  obtain ⟨v1, v2, v3, v4⟩ := hhw
  intro n
  induction n with
  | zero =>
    intro f sum so i ran l8 l9 hf hr hn hs1 hs2 hso hi1 hi2
    obtain ⟨f, rfl⟩ : ∃ g, f = g + 2 := ⟨f - 2, by omega⟩
    have hr' : ran = 100 := by omega
    subst hr'
    rw [xX0_total_2]
    simp (config := { maxSteps := 2000000 }) (disch := first | omega | assumption | (simp only [gm_isO_sF, gm_isO_sA]; assumption)) only [gm_push, gm_iload, gm_lload, gm_aload, gm_istore, gm_astore, gm_iinc, gm_op2, gm_quo, gm_op1, gm_lop2, gm_lshl, gm_i2l, gm_l2i, gm_lcmp, gm_dup, gm_pop1, gm_dup2, gm_goto, gm_ifeq, gm_ifne, gm_iflt, gm_ifge, gm_ifgt, gm_ifle, gm_ceq, gm_cne, gm_clt, gm_cge, gm_cgt, gm_cle, gm_ifnull, gm_ifnonnull, gm_swk, gm_switch, gm_getI, gm_getR, gm_putI, gm_putZ, gm_putR, gm_new, gm_newarr, gm_iald, gm_cald, gm_zald, gm_lald, gm_aald, gm_iast, gm_cast, gm_zast, gm_last, gm_aast, gm_acp, gm_oinit, gm_back, gm_scall, gm_vcall, gm_iret, gm_zret, gm_cret, gm_lret, gm_aret, gm_vret, gm_slen, gm_schar, gm_sidx, gm_lget, gm_lset, gm_nl, gm_ent, gm_wd, gm_pop, gm_pad, gm_xl_c, gm_alen_u, Bool.or_true, Bool.true_or, gm_max_u, gm_min_u, gm_isO_sF, gm_isO_sA, gm_isO_cp, gm_gF_sF, gm_gF_sA, gm_gA_sF, gm_gA_sA, gm_gF_cp, gm_gA_cp, gm_add, gm_sub, gm_mul, gm_neg, ↓reduceIte, Nat.reduceAdd, Nat.reduceLeDiff, true_and, and_true, and_self, true_or, or_true, false_and, and_false, false_or, or_false, eq_self, Nat.reduceEqDiff, Int.reduceEq, Int.reduceLT, Int.reduceLE, Int.reduceNeg, Int.reduceAdd, Int.reduceSub, Int.reduceMul, Int.reduceDiv, Int.reduceMod, reduceCtorEq, if_true, if_false, gm_w_id, xX0_total_0, xX0_total_1, xX0_total_3, xX0_total_4, xX0_total_5, xX0_total_6, xX0_total_7, xX0_total_8, xX0_total_9, xX0_total_10, xX0_total_11, xX0_total_12, xX0_total_13, hc, e0, k0, n0]
    rfl
  | succ n ih =>
    intro f sum so i ran l8 l9 hf hr hn hs1 hs2 hso hi1 hi2
    obtain ⟨f, rfl⟩ : ∃ g, f = g + 10 := ⟨f - 10, by omega⟩
    rw [xX0_total_2]
    have c1 : ran < 100 := by omega
    have c2 : ¬ i < 0 := by omega
    by_cases c3 : i < gm_gF M 2 c
    · have i0 := gm_inI n0 hi1 (by omega : i < 100) (by decide)
      have i1 := gm_inI n1 hi1 (by omega : i < 100) (by decide)
      obtain ⟨⟨s1, s2⟩, s3, s4⟩ := w4 i hi1 c3
      generalize hst : gm_gA M (c + 1) i = stp at *
      generalize hnu : gm_gA M (c + 2) i = nu at *
      have c3' : ¬ gm_gF M 2 c ≤ i := by omega
      by_cases c4 : stp < 18
      · have hp := r_X0_passes d stp nu h moon held M hh ⟨s1, c4⟩ ⟨s3, s4⟩ v1 v2 v3 b6 v4 b8
        simp (config := { maxSteps := 2000000 }) (disch := first | omega | assumption | (simp only [gm_isO_sF, gm_isO_sA]; assumption)) only [gm_push, gm_iload, gm_lload, gm_aload, gm_istore, gm_astore, gm_iinc, gm_op2, gm_quo, gm_op1, gm_lop2, gm_lshl, gm_i2l, gm_l2i, gm_lcmp, gm_dup, gm_pop1, gm_dup2, gm_goto, gm_ifeq, gm_ifne, gm_iflt, gm_ifge, gm_ifgt, gm_ifle, gm_ceq, gm_cne, gm_clt, gm_cge, gm_cgt, gm_cle, gm_ifnull, gm_ifnonnull, gm_swk, gm_switch, gm_getI, gm_getR, gm_putI, gm_putZ, gm_putR, gm_new, gm_newarr, gm_iald, gm_cald, gm_zald, gm_lald, gm_aald, gm_iast, gm_cast, gm_zast, gm_last, gm_aast, gm_acp, gm_oinit, gm_back, gm_scall, gm_vcall, gm_iret, gm_zret, gm_cret, gm_lret, gm_aret, gm_vret, gm_slen, gm_schar, gm_sidx, gm_lget, gm_lset, gm_nl, gm_ent, gm_wd, gm_pop, gm_pad, gm_xl_c, gm_alen_u, Bool.or_true, Bool.true_or, gm_max_u, gm_min_u, gm_isO_sF, gm_isO_sA, gm_isO_cp, gm_gF_sF, gm_gF_sA, gm_gA_sF, gm_gA_sA, gm_gF_cp, gm_gA_cp, gm_add, gm_sub, gm_mul, gm_neg, ↓reduceIte, Nat.reduceAdd, Nat.reduceLeDiff, true_and, and_true, and_self, true_or, or_true, false_and, and_false, false_or, or_false, eq_self, Nat.reduceEqDiff, Int.reduceEq, Int.reduceLT, Int.reduceLE, Int.reduceNeg, Int.reduceAdd, Int.reduceSub, Int.reduceMul, Int.reduceDiv, Int.reduceMod, reduceCtorEq, if_true, if_false, gm_w_id, xX0_total_0, xX0_total_1, xX0_total_3, xX0_total_4, xX0_total_5, xX0_total_6, xX0_total_7, xX0_total_8, xX0_total_9, xX0_total_10, xX0_total_11, xX0_total_12, xX0_total_13, hc, hh, e0, k0, n0, e1, k1, n1, i0, i1, hst, hnu, c1, c2, c3, c4, hp]
        rw [ih _ _ _ _ _ _ _ (by omega) (by omega) (by omega) (by omega) (by omega) (gm_cmp01 _ _ _) (by omega) (by omega)]
        simp only [gm_run1, if_neg c3', hst, hnu, if_pos c4]
      · by_cases c5 : stp = 18
        · subst c5
          rcases hso with rfl | rfl
          · simp (config := { maxSteps := 2000000 }) (disch := first | omega | assumption | (simp only [gm_isO_sF, gm_isO_sA]; assumption)) only [gm_push, gm_iload, gm_lload, gm_aload, gm_istore, gm_astore, gm_iinc, gm_op2, gm_quo, gm_op1, gm_lop2, gm_lshl, gm_i2l, gm_l2i, gm_lcmp, gm_dup, gm_pop1, gm_dup2, gm_goto, gm_ifeq, gm_ifne, gm_iflt, gm_ifge, gm_ifgt, gm_ifle, gm_ceq, gm_cne, gm_clt, gm_cge, gm_cgt, gm_cle, gm_ifnull, gm_ifnonnull, gm_swk, gm_switch, gm_getI, gm_getR, gm_putI, gm_putZ, gm_putR, gm_new, gm_newarr, gm_iald, gm_cald, gm_zald, gm_lald, gm_aald, gm_iast, gm_cast, gm_zast, gm_last, gm_aast, gm_acp, gm_oinit, gm_back, gm_scall, gm_vcall, gm_iret, gm_zret, gm_cret, gm_lret, gm_aret, gm_vret, gm_slen, gm_schar, gm_sidx, gm_lget, gm_lset, gm_nl, gm_ent, gm_wd, gm_pop, gm_pad, gm_xl_c, gm_alen_u, Bool.or_true, Bool.true_or, gm_max_u, gm_min_u, gm_isO_sF, gm_isO_sA, gm_isO_cp, gm_gF_sF, gm_gF_sA, gm_gA_sF, gm_gA_sA, gm_gF_cp, gm_gA_cp, gm_add, gm_sub, gm_mul, gm_neg, ↓reduceIte, Nat.reduceAdd, Nat.reduceLeDiff, true_and, and_true, and_self, true_or, or_true, false_and, and_false, false_or, or_false, eq_self, Nat.reduceEqDiff, Int.reduceEq, Int.reduceLT, Int.reduceLE, Int.reduceNeg, Int.reduceAdd, Int.reduceSub, Int.reduceMul, Int.reduceDiv, Int.reduceMod, reduceCtorEq, if_true, if_false, gm_w_id, xX0_total_0, xX0_total_1, xX0_total_3, xX0_total_4, xX0_total_5, xX0_total_6, xX0_total_7, xX0_total_8, xX0_total_9, xX0_total_10, xX0_total_11, xX0_total_12, xX0_total_13, hc, hh, e0, k0, n0, e1, k1, n1, i0, i1, hst, hnu, c1, c2, c3]
            rw [ih _ _ _ _ _ _ _ (by omega) (by omega) (by omega) (by omega) (by omega) (Or.inr rfl) (by omega) (by omega)]
            simp only [gm_run1, if_neg c3', hst, hnu, if_neg c4, if_true]
          · simp (config := { maxSteps := 2000000 }) (disch := first | omega | assumption | (simp only [gm_isO_sF, gm_isO_sA]; assumption)) only [gm_push, gm_iload, gm_lload, gm_aload, gm_istore, gm_astore, gm_iinc, gm_op2, gm_quo, gm_op1, gm_lop2, gm_lshl, gm_i2l, gm_l2i, gm_lcmp, gm_dup, gm_pop1, gm_dup2, gm_goto, gm_ifeq, gm_ifne, gm_iflt, gm_ifge, gm_ifgt, gm_ifle, gm_ceq, gm_cne, gm_clt, gm_cge, gm_cgt, gm_cle, gm_ifnull, gm_ifnonnull, gm_swk, gm_switch, gm_getI, gm_getR, gm_putI, gm_putZ, gm_putR, gm_new, gm_newarr, gm_iald, gm_cald, gm_zald, gm_lald, gm_aald, gm_iast, gm_cast, gm_zast, gm_last, gm_aast, gm_acp, gm_oinit, gm_back, gm_scall, gm_vcall, gm_iret, gm_zret, gm_cret, gm_lret, gm_aret, gm_vret, gm_slen, gm_schar, gm_sidx, gm_lget, gm_lset, gm_nl, gm_ent, gm_wd, gm_pop, gm_pad, gm_xl_c, gm_alen_u, Bool.or_true, Bool.true_or, gm_max_u, gm_min_u, gm_isO_sF, gm_isO_sA, gm_isO_cp, gm_gF_sF, gm_gF_sA, gm_gA_sF, gm_gA_sA, gm_gF_cp, gm_gA_cp, gm_add, gm_sub, gm_mul, gm_neg, ↓reduceIte, Nat.reduceAdd, Nat.reduceLeDiff, true_and, and_true, and_self, true_or, or_true, false_and, and_false, false_or, or_false, eq_self, Nat.reduceEqDiff, Int.reduceEq, Int.reduceLT, Int.reduceLE, Int.reduceNeg, Int.reduceAdd, Int.reduceSub, Int.reduceMul, Int.reduceDiv, Int.reduceMod, reduceCtorEq, if_true, if_false, gm_w_id, xX0_total_0, xX0_total_1, xX0_total_3, xX0_total_4, xX0_total_5, xX0_total_6, xX0_total_7, xX0_total_8, xX0_total_9, xX0_total_10, xX0_total_11, xX0_total_12, xX0_total_13, hc, hh, e0, k0, n0, e1, k1, n1, i0, i1, hst, hnu, c1, c2, c3]
            rw [ih _ _ _ _ _ _ _ (by omega) (by omega) (by omega) (by omega) (by omega) (Or.inl rfl) (by omega) (by omega)]
            simp only [gm_run1, if_neg c3', hst, hnu, if_neg c4, if_true]
            rfl
        · by_cases c6 : stp = 21
          · subst c6
            rcases hso with rfl | rfl
            · simp (config := { maxSteps := 2000000 }) (disch := first | omega | assumption | (simp only [gm_isO_sF, gm_isO_sA]; assumption)) only [gm_push, gm_iload, gm_lload, gm_aload, gm_istore, gm_astore, gm_iinc, gm_op2, gm_quo, gm_op1, gm_lop2, gm_lshl, gm_i2l, gm_l2i, gm_lcmp, gm_dup, gm_pop1, gm_dup2, gm_goto, gm_ifeq, gm_ifne, gm_iflt, gm_ifge, gm_ifgt, gm_ifle, gm_ceq, gm_cne, gm_clt, gm_cge, gm_cgt, gm_cle, gm_ifnull, gm_ifnonnull, gm_swk, gm_switch, gm_getI, gm_getR, gm_putI, gm_putZ, gm_putR, gm_new, gm_newarr, gm_iald, gm_cald, gm_zald, gm_lald, gm_aald, gm_iast, gm_cast, gm_zast, gm_last, gm_aast, gm_acp, gm_oinit, gm_back, gm_scall, gm_vcall, gm_iret, gm_zret, gm_cret, gm_lret, gm_aret, gm_vret, gm_slen, gm_schar, gm_sidx, gm_lget, gm_lset, gm_nl, gm_ent, gm_wd, gm_pop, gm_pad, gm_xl_c, gm_alen_u, Bool.or_true, Bool.true_or, gm_max_u, gm_min_u, gm_isO_sF, gm_isO_sA, gm_isO_cp, gm_gF_sF, gm_gF_sA, gm_gA_sF, gm_gA_sA, gm_gF_cp, gm_gA_cp, gm_add, gm_sub, gm_mul, gm_neg, ↓reduceIte, Nat.reduceAdd, Nat.reduceLeDiff, true_and, and_true, and_self, true_or, or_true, false_and, and_false, false_or, or_false, eq_self, Nat.reduceEqDiff, Int.reduceEq, Int.reduceLT, Int.reduceLE, Int.reduceNeg, Int.reduceAdd, Int.reduceSub, Int.reduceMul, Int.reduceDiv, Int.reduceMod, reduceCtorEq, if_true, if_false, gm_w_id, xX0_total_0, xX0_total_1, xX0_total_3, xX0_total_4, xX0_total_5, xX0_total_6, xX0_total_7, xX0_total_8, xX0_total_9, xX0_total_10, xX0_total_11, xX0_total_12, xX0_total_13, hc, hh, e0, k0, n0, e1, k1, n1, i0, i1, hst, hnu, c1, c2, c3]
              rw [ih _ _ _ _ _ _ _ (by omega) (by omega) (by omega) (by omega) (by omega) (Or.inl rfl) (by omega) (by omega)]
              simp only [gm_run1, if_neg c3', hst, hnu, if_neg c4, if_neg c5, if_true]
            · simp (config := { maxSteps := 2000000 }) (disch := first | omega | assumption | (simp only [gm_isO_sF, gm_isO_sA]; assumption)) only [gm_push, gm_iload, gm_lload, gm_aload, gm_istore, gm_astore, gm_iinc, gm_op2, gm_quo, gm_op1, gm_lop2, gm_lshl, gm_i2l, gm_l2i, gm_lcmp, gm_dup, gm_pop1, gm_dup2, gm_goto, gm_ifeq, gm_ifne, gm_iflt, gm_ifge, gm_ifgt, gm_ifle, gm_ceq, gm_cne, gm_clt, gm_cge, gm_cgt, gm_cle, gm_ifnull, gm_ifnonnull, gm_swk, gm_switch, gm_getI, gm_getR, gm_putI, gm_putZ, gm_putR, gm_new, gm_newarr, gm_iald, gm_cald, gm_zald, gm_lald, gm_aald, gm_iast, gm_cast, gm_zast, gm_last, gm_aast, gm_acp, gm_oinit, gm_back, gm_scall, gm_vcall, gm_iret, gm_zret, gm_cret, gm_lret, gm_aret, gm_vret, gm_slen, gm_schar, gm_sidx, gm_lget, gm_lset, gm_nl, gm_ent, gm_wd, gm_pop, gm_pad, gm_xl_c, gm_alen_u, Bool.or_true, Bool.true_or, gm_max_u, gm_min_u, gm_isO_sF, gm_isO_sA, gm_isO_cp, gm_gF_sF, gm_gF_sA, gm_gA_sF, gm_gA_sA, gm_gF_cp, gm_gA_cp, gm_add, gm_sub, gm_mul, gm_neg, ↓reduceIte, Nat.reduceAdd, Nat.reduceLeDiff, true_and, and_true, and_self, true_or, or_true, false_and, and_false, false_or, or_false, eq_self, Nat.reduceEqDiff, Int.reduceEq, Int.reduceLT, Int.reduceLE, Int.reduceNeg, Int.reduceAdd, Int.reduceSub, Int.reduceMul, Int.reduceDiv, Int.reduceMod, reduceCtorEq, if_true, if_false, gm_w_id, xX0_total_0, xX0_total_1, xX0_total_3, xX0_total_4, xX0_total_5, xX0_total_6, xX0_total_7, xX0_total_8, xX0_total_9, xX0_total_10, xX0_total_11, xX0_total_12, xX0_total_13, hc, hh, e0, k0, n0, e1, k1, n1, i0, i1, hst, hnu, c1, c2, c3]
              rw [ih _ _ _ _ _ _ _ (by omega) (by omega) (by omega) (by omega) (by omega) (Or.inr rfl) (by omega) (by omega)]
              simp only [gm_run1, if_neg c3', hst, hnu, if_neg c4, if_neg c5, if_true]
              rfl
          · rcases (by omega : stp = 19 ∨ stp = 20) with rfl | rfl
            · rcases hso with rfl | rfl
              · simp (config := { maxSteps := 2000000 }) (disch := first | omega | assumption | (simp only [gm_isO_sF, gm_isO_sA]; assumption)) only [gm_push, gm_iload, gm_lload, gm_aload, gm_istore, gm_astore, gm_iinc, gm_op2, gm_quo, gm_op1, gm_lop2, gm_lshl, gm_i2l, gm_l2i, gm_lcmp, gm_dup, gm_pop1, gm_dup2, gm_goto, gm_ifeq, gm_ifne, gm_iflt, gm_ifge, gm_ifgt, gm_ifle, gm_ceq, gm_cne, gm_clt, gm_cge, gm_cgt, gm_cle, gm_ifnull, gm_ifnonnull, gm_swk, gm_switch, gm_getI, gm_getR, gm_putI, gm_putZ, gm_putR, gm_new, gm_newarr, gm_iald, gm_cald, gm_zald, gm_lald, gm_aald, gm_iast, gm_cast, gm_zast, gm_last, gm_aast, gm_acp, gm_oinit, gm_back, gm_scall, gm_vcall, gm_iret, gm_zret, gm_cret, gm_lret, gm_aret, gm_vret, gm_slen, gm_schar, gm_sidx, gm_lget, gm_lset, gm_nl, gm_ent, gm_wd, gm_pop, gm_pad, gm_xl_c, gm_alen_u, Bool.or_true, Bool.true_or, gm_max_u, gm_min_u, gm_isO_sF, gm_isO_sA, gm_isO_cp, gm_gF_sF, gm_gF_sA, gm_gA_sF, gm_gA_sA, gm_gF_cp, gm_gA_cp, gm_add, gm_sub, gm_mul, gm_neg, ↓reduceIte, Nat.reduceAdd, Nat.reduceLeDiff, true_and, and_true, and_self, true_or, or_true, false_and, and_false, false_or, or_false, eq_self, Nat.reduceEqDiff, Int.reduceEq, Int.reduceLT, Int.reduceLE, Int.reduceNeg, Int.reduceAdd, Int.reduceSub, Int.reduceMul, Int.reduceDiv, Int.reduceMod, reduceCtorEq, if_true, if_false, gm_w_id, xX0_total_0, xX0_total_1, xX0_total_3, xX0_total_4, xX0_total_5, xX0_total_6, xX0_total_7, xX0_total_8, xX0_total_9, xX0_total_10, xX0_total_11, xX0_total_12, xX0_total_13, hc, hh, e0, k0, n0, e1, k1, n1, i0, i1, hst, hnu, c1, c2, c3]
                rw [ih _ _ _ _ _ _ _ (by omega) (by omega) (by omega) (by omega) (by omega) (Or.inl rfl) (by omega) (by omega)]
                simp only [gm_run1, if_neg c3', hst, hnu, if_neg c4, if_neg c5, if_neg c6]
                rfl
              · simp (config := { maxSteps := 2000000 }) (disch := first | omega | assumption | (simp only [gm_isO_sF, gm_isO_sA]; assumption)) only [gm_push, gm_iload, gm_lload, gm_aload, gm_istore, gm_astore, gm_iinc, gm_op2, gm_quo, gm_op1, gm_lop2, gm_lshl, gm_i2l, gm_l2i, gm_lcmp, gm_dup, gm_pop1, gm_dup2, gm_goto, gm_ifeq, gm_ifne, gm_iflt, gm_ifge, gm_ifgt, gm_ifle, gm_ceq, gm_cne, gm_clt, gm_cge, gm_cgt, gm_cle, gm_ifnull, gm_ifnonnull, gm_swk, gm_switch, gm_getI, gm_getR, gm_putI, gm_putZ, gm_putR, gm_new, gm_newarr, gm_iald, gm_cald, gm_zald, gm_lald, gm_aald, gm_iast, gm_cast, gm_zast, gm_last, gm_aast, gm_acp, gm_oinit, gm_back, gm_scall, gm_vcall, gm_iret, gm_zret, gm_cret, gm_lret, gm_aret, gm_vret, gm_slen, gm_schar, gm_sidx, gm_lget, gm_lset, gm_nl, gm_ent, gm_wd, gm_pop, gm_pad, gm_xl_c, gm_alen_u, Bool.or_true, Bool.true_or, gm_max_u, gm_min_u, gm_isO_sF, gm_isO_sA, gm_isO_cp, gm_gF_sF, gm_gF_sA, gm_gA_sF, gm_gA_sA, gm_gF_cp, gm_gA_cp, gm_add, gm_sub, gm_mul, gm_neg, ↓reduceIte, Nat.reduceAdd, Nat.reduceLeDiff, true_and, and_true, and_self, true_or, or_true, false_and, and_false, false_or, or_false, eq_self, Nat.reduceEqDiff, Int.reduceEq, Int.reduceLT, Int.reduceLE, Int.reduceNeg, Int.reduceAdd, Int.reduceSub, Int.reduceMul, Int.reduceDiv, Int.reduceMod, reduceCtorEq, if_true, if_false, gm_w_id, xX0_total_0, xX0_total_1, xX0_total_3, xX0_total_4, xX0_total_5, xX0_total_6, xX0_total_7, xX0_total_8, xX0_total_9, xX0_total_10, xX0_total_11, xX0_total_12, xX0_total_13, hc, hh, e0, k0, n0, e1, k1, n1, i0, i1, hst, hnu, c1, c2, c3]
                rw [ih _ _ _ _ _ _ _ (by omega) (by omega) (by omega) (by omega) (by omega) (Or.inr rfl) (by omega) (by omega)]
                simp only [gm_run1, if_neg c3', hst, hnu, if_neg c4, if_neg c5, if_neg c6]
                rfl
            · rcases hso with rfl | rfl
              · simp (config := { maxSteps := 2000000 }) (disch := first | omega | assumption | (simp only [gm_isO_sF, gm_isO_sA]; assumption)) only [gm_push, gm_iload, gm_lload, gm_aload, gm_istore, gm_astore, gm_iinc, gm_op2, gm_quo, gm_op1, gm_lop2, gm_lshl, gm_i2l, gm_l2i, gm_lcmp, gm_dup, gm_pop1, gm_dup2, gm_goto, gm_ifeq, gm_ifne, gm_iflt, gm_ifge, gm_ifgt, gm_ifle, gm_ceq, gm_cne, gm_clt, gm_cge, gm_cgt, gm_cle, gm_ifnull, gm_ifnonnull, gm_swk, gm_switch, gm_getI, gm_getR, gm_putI, gm_putZ, gm_putR, gm_new, gm_newarr, gm_iald, gm_cald, gm_zald, gm_lald, gm_aald, gm_iast, gm_cast, gm_zast, gm_last, gm_aast, gm_acp, gm_oinit, gm_back, gm_scall, gm_vcall, gm_iret, gm_zret, gm_cret, gm_lret, gm_aret, gm_vret, gm_slen, gm_schar, gm_sidx, gm_lget, gm_lset, gm_nl, gm_ent, gm_wd, gm_pop, gm_pad, gm_xl_c, gm_alen_u, Bool.or_true, Bool.true_or, gm_max_u, gm_min_u, gm_isO_sF, gm_isO_sA, gm_isO_cp, gm_gF_sF, gm_gF_sA, gm_gA_sF, gm_gA_sA, gm_gF_cp, gm_gA_cp, gm_add, gm_sub, gm_mul, gm_neg, ↓reduceIte, Nat.reduceAdd, Nat.reduceLeDiff, true_and, and_true, and_self, true_or, or_true, false_and, and_false, false_or, or_false, eq_self, Nat.reduceEqDiff, Int.reduceEq, Int.reduceLT, Int.reduceLE, Int.reduceNeg, Int.reduceAdd, Int.reduceSub, Int.reduceMul, Int.reduceDiv, Int.reduceMod, reduceCtorEq, if_true, if_false, gm_w_id, xX0_total_0, xX0_total_1, xX0_total_3, xX0_total_4, xX0_total_5, xX0_total_6, xX0_total_7, xX0_total_8, xX0_total_9, xX0_total_10, xX0_total_11, xX0_total_12, xX0_total_13, hc, hh, e0, k0, n0, e1, k1, n1, i0, i1, hst, hnu, c1, c2, c3]
                rw [ih _ _ _ _ _ _ _ (by omega) (by omega) (by omega) (by omega) (by omega) (Or.inl rfl) (by omega) (by omega)]
                simp only [gm_run1, if_neg c3', hst, hnu, if_neg c4, if_neg c5, if_neg c6]
                rfl
              · simp (config := { maxSteps := 2000000 }) (disch := first | omega | assumption | (simp only [gm_isO_sF, gm_isO_sA]; assumption)) only [gm_push, gm_iload, gm_lload, gm_aload, gm_istore, gm_astore, gm_iinc, gm_op2, gm_quo, gm_op1, gm_lop2, gm_lshl, gm_i2l, gm_l2i, gm_lcmp, gm_dup, gm_pop1, gm_dup2, gm_goto, gm_ifeq, gm_ifne, gm_iflt, gm_ifge, gm_ifgt, gm_ifle, gm_ceq, gm_cne, gm_clt, gm_cge, gm_cgt, gm_cle, gm_ifnull, gm_ifnonnull, gm_swk, gm_switch, gm_getI, gm_getR, gm_putI, gm_putZ, gm_putR, gm_new, gm_newarr, gm_iald, gm_cald, gm_zald, gm_lald, gm_aald, gm_iast, gm_cast, gm_zast, gm_last, gm_aast, gm_acp, gm_oinit, gm_back, gm_scall, gm_vcall, gm_iret, gm_zret, gm_cret, gm_lret, gm_aret, gm_vret, gm_slen, gm_schar, gm_sidx, gm_lget, gm_lset, gm_nl, gm_ent, gm_wd, gm_pop, gm_pad, gm_xl_c, gm_alen_u, Bool.or_true, Bool.true_or, gm_max_u, gm_min_u, gm_isO_sF, gm_isO_sA, gm_isO_cp, gm_gF_sF, gm_gF_sA, gm_gA_sF, gm_gA_sA, gm_gF_cp, gm_gA_cp, gm_add, gm_sub, gm_mul, gm_neg, ↓reduceIte, Nat.reduceAdd, Nat.reduceLeDiff, true_and, and_true, and_self, true_or, or_true, false_and, and_false, false_or, or_false, eq_self, Nat.reduceEqDiff, Int.reduceEq, Int.reduceLT, Int.reduceLE, Int.reduceNeg, Int.reduceAdd, Int.reduceSub, Int.reduceMul, Int.reduceDiv, Int.reduceMod, reduceCtorEq, if_true, if_false, gm_w_id, xX0_total_0, xX0_total_1, xX0_total_3, xX0_total_4, xX0_total_5, xX0_total_6, xX0_total_7, xX0_total_8, xX0_total_9, xX0_total_10, xX0_total_11, xX0_total_12, xX0_total_13, hc, hh, e0, k0, n0, e1, k1, n1, i0, i1, hst, hnu, c1, c2, c3]
                rw [ih _ _ _ _ _ _ _ (by omega) (by omega) (by omega) (by omega) (by omega) (Or.inr rfl) (by omega) (by omega)]
                simp only [gm_run1, if_neg c3', hst, hnu, if_neg c4, if_neg c5, if_neg c6]
                rfl
    · have c3' : gm_gF M 2 c ≤ i := by omega
      simp (config := { maxSteps := 2000000 }) (disch := first | omega | assumption | (simp only [gm_isO_sF, gm_isO_sA]; assumption)) only [gm_push, gm_iload, gm_lload, gm_aload, gm_istore, gm_astore, gm_iinc, gm_op2, gm_quo, gm_op1, gm_lop2, gm_lshl, gm_i2l, gm_l2i, gm_lcmp, gm_dup, gm_pop1, gm_dup2, gm_goto, gm_ifeq, gm_ifne, gm_iflt, gm_ifge, gm_ifgt, gm_ifle, gm_ceq, gm_cne, gm_clt, gm_cge, gm_cgt, gm_cle, gm_ifnull, gm_ifnonnull, gm_swk, gm_switch, gm_getI, gm_getR, gm_putI, gm_putZ, gm_putR, gm_new, gm_newarr, gm_iald, gm_cald, gm_zald, gm_lald, gm_aald, gm_iast, gm_cast, gm_zast, gm_last, gm_aast, gm_acp, gm_oinit, gm_back, gm_scall, gm_vcall, gm_iret, gm_zret, gm_cret, gm_lret, gm_aret, gm_vret, gm_slen, gm_schar, gm_sidx, gm_lget, gm_lset, gm_nl, gm_ent, gm_wd, gm_pop, gm_pad, gm_xl_c, gm_alen_u, Bool.or_true, Bool.true_or, gm_max_u, gm_min_u, gm_isO_sF, gm_isO_sA, gm_isO_cp, gm_gF_sF, gm_gF_sA, gm_gA_sF, gm_gA_sA, gm_gF_cp, gm_gA_cp, gm_add, gm_sub, gm_mul, gm_neg, ↓reduceIte, Nat.reduceAdd, Nat.reduceLeDiff, true_and, and_true, and_self, true_or, or_true, false_and, and_false, false_or, or_false, eq_self, Nat.reduceEqDiff, Int.reduceEq, Int.reduceLT, Int.reduceLE, Int.reduceNeg, Int.reduceAdd, Int.reduceSub, Int.reduceMul, Int.reduceDiv, Int.reduceMod, reduceCtorEq, if_true, if_false, gm_w_id, xX0_total_0, xX0_total_1, xX0_total_3, xX0_total_4, xX0_total_5, xX0_total_6, xX0_total_7, xX0_total_8, xX0_total_9, xX0_total_10, xX0_total_11, xX0_total_12, xX0_total_13, hc, hh, e0, k0, n0, e1, k1, n1, c1, c2, c3]
      simp only [gm_run1, if_pos c3']
def gm_tot (M : gm_M) (c h moon held : Int) : Int := if gm_gF M 3 c = 0 then 10 else gm_run1 (gm_gA M (c + 1)) (gm_gA M (c + 2)) (gm_fact M h moon held) (gm_gF M 2 c) 100 0 0 0
theorem r_X0_total (d : Nat) (c h moon held : Int) (M : gm_M) (hL : gm_Lay M) (hc : gm_isO 0 M c = true) (hh : gm_isO 2 M h = true) (hcw : gm_cwf M c) (hhw : gm_hwf M h) (b6 : gm_i moon) (b8 : 0 ≤ held ∧ held < 100000) :
    gm_go (d + 2) 5 [.inr (.inr c), .inr (.inr h), .inl moon, .inl held] M = some (some (.inl (gm_tot M c h moon held)), M) := by
  rw [eX0_total _ _ _ (Nat.le_of_ble_eq_true rfl)]
  have hw := hcw.2.2.1
  by_cases h3 : gm_gF M 3 c = 0
  · simp (config := { maxSteps := 2000000 }) (disch := first | omega | assumption | (simp only [gm_isO_sF, gm_isO_sA]; assumption)) only [gm_push, gm_iload, gm_lload, gm_aload, gm_istore, gm_astore, gm_iinc, gm_op2, gm_quo, gm_op1, gm_lop2, gm_lshl, gm_i2l, gm_l2i, gm_lcmp, gm_dup, gm_pop1, gm_dup2, gm_goto, gm_ifeq, gm_ifne, gm_iflt, gm_ifge, gm_ifgt, gm_ifle, gm_ceq, gm_cne, gm_clt, gm_cge, gm_cgt, gm_cle, gm_ifnull, gm_ifnonnull, gm_swk, gm_switch, gm_getI, gm_getR, gm_putI, gm_putZ, gm_putR, gm_new, gm_newarr, gm_iald, gm_cald, gm_zald, gm_lald, gm_aald, gm_iast, gm_cast, gm_zast, gm_last, gm_aast, gm_acp, gm_oinit, gm_back, gm_scall, gm_vcall, gm_iret, gm_zret, gm_cret, gm_lret, gm_aret, gm_vret, gm_slen, gm_schar, gm_sidx, gm_lget, gm_lset, gm_nl, gm_ent, gm_wd, gm_pop, gm_pad, gm_xl_c, gm_alen_u, Bool.or_true, Bool.true_or, gm_max_u, gm_min_u, gm_isO_sF, gm_isO_sA, gm_isO_cp, gm_gF_sF, gm_gF_sA, gm_gA_sF, gm_gA_sA, gm_gF_cp, gm_gA_cp, gm_add, gm_sub, gm_mul, gm_neg, ↓reduceIte, Nat.reduceAdd, Nat.reduceLeDiff, true_and, and_true, and_self, true_or, or_true, false_and, and_false, false_or, or_false, eq_self, Nat.reduceEqDiff, Int.reduceEq, Int.reduceLT, Int.reduceLE, Int.reduceNeg, Int.reduceAdd, Int.reduceSub, Int.reduceMul, Int.reduceDiv, Int.reduceMod, reduceCtorEq, if_true, if_false, gm_w_id, xX0_total_0, xX0_total_1, xX0_total_3, xX0_total_4, xX0_total_5, xX0_total_6, xX0_total_7, xX0_total_8, xX0_total_9, xX0_total_10, xX0_total_11, xX0_total_12, xX0_total_13, hc, h3, gm_tot]
  · have h4 : gm_gF M 3 c = 1 := by omega
    simp (config := { maxSteps := 2000000 }) (disch := first | omega | assumption | (simp only [gm_isO_sF, gm_isO_sA]; assumption)) only [gm_push, gm_iload, gm_lload, gm_aload, gm_istore, gm_astore, gm_iinc, gm_op2, gm_quo, gm_op1, gm_lop2, gm_lshl, gm_i2l, gm_l2i, gm_lcmp, gm_dup, gm_pop1, gm_dup2, gm_goto, gm_ifeq, gm_ifne, gm_iflt, gm_ifge, gm_ifgt, gm_ifle, gm_ceq, gm_cne, gm_clt, gm_cge, gm_cgt, gm_cle, gm_ifnull, gm_ifnonnull, gm_swk, gm_switch, gm_getI, gm_getR, gm_putI, gm_putZ, gm_putR, gm_new, gm_newarr, gm_iald, gm_cald, gm_zald, gm_lald, gm_aald, gm_iast, gm_cast, gm_zast, gm_last, gm_aast, gm_acp, gm_oinit, gm_back, gm_scall, gm_vcall, gm_iret, gm_zret, gm_cret, gm_lret, gm_aret, gm_vret, gm_slen, gm_schar, gm_sidx, gm_lget, gm_lset, gm_nl, gm_ent, gm_wd, gm_pop, gm_pad, gm_xl_c, gm_alen_u, Bool.or_true, Bool.true_or, gm_max_u, gm_min_u, gm_isO_sF, gm_isO_sA, gm_isO_cp, gm_gF_sF, gm_gF_sA, gm_gA_sF, gm_gA_sA, gm_gF_cp, gm_gA_cp, gm_add, gm_sub, gm_mul, gm_neg, ↓reduceIte, Nat.reduceAdd, Nat.reduceLeDiff, true_and, and_true, and_self, true_or, or_true, false_and, and_false, false_or, or_false, eq_self, Nat.reduceEqDiff, Int.reduceEq, Int.reduceLT, Int.reduceLE, Int.reduceNeg, Int.reduceAdd, Int.reduceSub, Int.reduceMul, Int.reduceDiv, Int.reduceMod, reduceCtorEq, if_true, if_false, gm_w_id, xX0_total_0, xX0_total_1, xX0_total_3, xX0_total_4, xX0_total_5, xX0_total_6, xX0_total_7, xX0_total_8, xX0_total_9, xX0_total_10, xX0_total_11, xX0_total_12, xX0_total_13, hc, h4, gm_tot]
    rw [r_X0_loop d c h moon held M hL hc hh hcw hhw b6 b8 100 _ 0 0 0 0 _ _ (by omega) (by decide) (by omega) (by decide) (by decide) (Or.inl rfl) (by omega) (by omega)]
/-- the sum stays small -/
theorem gm_run1_b (steps nums fact : Int → Int) (size : Int) (hn : ∀ i, 0 ≤ i → i < size → 0 ≤ nums i ∧ nums i ≤ 100) : ∀ (n : Nat) (sum so i : Int), 0 ≤ i → sum ≤ gm_run1 steps nums fact size n sum so i ∧ gm_run1 steps nums fact size n sum so i ≤ sum + 100 * n
  | 0, sum, so, i, _ => by simp [gm_run1]
  | n + 1, sum, so, i, hi => by
    simp only [gm_run1]
    by_cases h0 : size ≤ i
    · rw [if_pos h0]; omega
    · rw [if_neg h0]
      have hb := hn i hi (by omega)
      by_cases h1 : steps i < 18
      · rw [if_pos h1]
        have := gm_run1_b steps nums fact size hn n sum (gm_cmp (steps i % 3) (fact (steps i / 3)) (nums i)) (i + 1) (by omega)
        omega
      · rw [if_neg h1]
        by_cases h2 : steps i = 18
        · rw [if_pos h2]
          have := gm_run1_b steps nums fact size hn n sum (if so = 0 then 1 else 0) (i + 1) (by omega)
          omega
        · rw [if_neg h2]
          by_cases h3 : steps i = 21
          · rw [if_pos h3]
            have h5 : 0 ≤ (if so = 0 then 0 else nums i) ∧ (if so = 0 then 0 else nums i) ≤ 100 := by split <;> omega
            generalize (if so = 0 then 0 else nums i) = ad at h5 ⊢
            have := gm_run1_b steps nums fact size hn n (sum + ad) so (i + 1) (by omega)
            omega
          · rw [if_neg h3]
            by_cases h4 : so = (if steps i = 19 then 1 else 0)
            · rw [if_pos h4]
              have := gm_run1_b steps nums fact size hn n sum so (nums i) hb.1
              omega
            · rw [if_neg h4]
              have := gm_run1_b steps nums fact size hn n sum so (i + 1) (by omega)
              omega
theorem gm_tot_b {M : gm_M} {c : Int} (hcw : gm_cwf M c) (h moon held : Int) : 0 ≤ gm_tot M c h moon held ∧ gm_tot M c h moon held ≤ 10000 := by
  unfold gm_tot
  split
  · omega
  · have := gm_run1_b (gm_gA M (c + 1)) (gm_gA M (c + 2)) (gm_fact M h moon held) (gm_gF M 2 c) (fun i h1 h2 => (hcw.2.2.2 i h1 h2).2) 100 0 0 0 (by omega)
    omega
