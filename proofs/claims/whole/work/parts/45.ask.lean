/-! THE CLASS: what is asked -/
def gm_many (M : gm_M) : Int := gm_gF M 701 2
def gm_day (M : gm_M) : Int := gm_gF M 702 2
/-- the ground that holds -/
def gm_gr (M : gm_M) : Int := if 0 ≤ gm_gF M 703 2 ∧ gm_gF M 703 2 < gm_gF M 810 1 then 94 + 7 * gm_gF M 703 2 else 83
/-- the class as it may be between calls -/
def gm_CI (M : gm_M) : Prop := gm_Lay M ∧ (0 ≤ gm_many M ∧ gm_many M ≤ 6) ∧ (0 ≤ gm_day M ∧ gm_day M ≤ 9999) ∧ (-1 ≤ gm_gF M 703 2 ∧ gm_gF M 703 2 ≤ 6) ∧ (0 ≤ gm_gF M 810 1 ∧ gm_gF M 810 1 ≤ 6) ∧
  (∀ h, 0 ≤ h → h < gm_many M → gm_owf M (8 + 3 * h) ∧ gm_gF M 200 (8 + 3 * h) = h) ∧ gm_gwf M (gm_gr M)
theorem gm_gr_b {M : gm_M} (h : gm_CI M) : 80 < gm_gr M ∧ gm_isO 1 M (gm_gr M) = true := by
  obtain ⟨hL, -, -, h3, h4, -⟩ := h
  unfold gm_gr
  split
  · next h => exact ⟨by omega, (gm_a90 hL h.1 (by omega)).2⟩
  · exact ⟨by decide, gm_z83 hL⟩
def gm_ho (M : gm_M) (n : Int) : Int := if 0 ≤ n ∧ n < gm_many M then 8 + 3 * n else 0
theorem r_X8_houseAt (d : Nat) (n : Int) (M : gm_M) (hL : gm_Lay M) (hm : 0 ≤ gm_many M ∧ gm_many M ≤ 6) (hn : gm_i n) : gm_go (d + 1) 92 [.inr (.inr 1), .inl n] M = some (some (.inr (.inr (gm_ho M n))), M) := by
  rw [eX8_houseAt _ _ _ (Nat.le_of_ble_eq_true rfl)]
  unfold gm_many at hm
  unfold gm_ho gm_many
  have z1 := gm_z1 hL
  have z2 := gm_z2 hL
  have l8 := gm_l800 hL
  have l7 : gm_gF M 700 2 = 3 := gm_l700 hL z2
  have z3 := gm_z3 hL
  have y3 := gm_y3 M
  by_cases h1 : n < 0
  · simp (config := { maxSteps := 2000000 }) (disch := first | omega | assumption | (simp only [gm_isO_sF, gm_isO_sA, gm_isO_cp]; assumption)) only [gm_push, gm_iload, gm_lload, gm_aload, gm_istore, gm_astore, gm_iinc, gm_op2, gm_quo, gm_op1, gm_lop2, gm_lshl, gm_i2l, gm_l2i, gm_lcmp, gm_dup, gm_pop1, gm_dup2, gm_goto, gm_ifeq, gm_ifne, gm_iflt, gm_ifge, gm_ifgt, gm_ifle, gm_ceq, gm_cne, gm_clt, gm_cge, gm_cgt, gm_cle, gm_ifnull, gm_ifnonnull, gm_swk, gm_switch, gm_getI, gm_getR, gm_putI, gm_putZ, gm_putR, gm_new, gm_newarr, gm_iald, gm_cald, gm_zald, gm_lald, gm_aald, gm_iast, gm_cast, gm_zast, gm_last, gm_aast, gm_acp, gm_oinit, gm_back, gm_scall, gm_vcall, gm_iret, gm_zret, gm_cret, gm_lret, gm_aret, gm_vret, gm_slen, gm_schar, gm_sidx, gm_lget, gm_lset, gm_nl, gm_ent, gm_wd, gm_pop, gm_pad, gm_xl_c, gm_alen_u, gm_1_sF, gm_1_sA, gm_1_cp, gm_len_sF, gm_len_sA, gm_len_cp, Bool.or_true, Bool.true_or, gm_max_u, gm_min_u, gm_isO_sF, gm_isO_sA, gm_isO_cp, gm_gF_sF, gm_gF_sA, gm_gA_sF, gm_gA_sA, gm_gF_cp, gm_gA_cp, gm_add, gm_sub, gm_mul, gm_neg, ↓reduceIte, Nat.reduceAdd, Nat.reduceLeDiff, true_and, and_true, and_self, true_or, or_true, false_and, and_false, false_or, or_false, eq_self, Nat.reduceEqDiff, Int.reduceEq, Int.reduceLT, Int.reduceLE, Int.reduceNeg, Int.reduceAdd, Int.reduceSub, Int.reduceMul, Int.reduceDiv, Int.reduceMod, reduceCtorEq, if_true, if_false, gm_w_id, xX8_houseAt_0, xX8_houseAt_1, xX8_houseAt_2, z1, z2, z3, y3, l8, l7, h1]
    rw [if_neg (by omega)]
  · by_cases h2 : n < gm_gF M 701 2
    · have ha := gm_a3 hL (i := n) (by omega) (by omega)
      have hin := gm_inI (M := M) (a := 3) (i := n) y3 (by omega) (by omega) (by decide)
      have h3 : n < 6 := by omega
      have ha3 := gm_alen_k 24 (by decide) (gm_go d)
      simp (config := { maxSteps := 2000000 }) (disch := first | omega | assumption | (simp only [gm_isO_sF, gm_isO_sA, gm_isO_cp]; assumption)) only [gm_push, gm_iload, gm_lload, gm_aload, gm_istore, gm_astore, gm_iinc, gm_op2, gm_quo, gm_op1, gm_lop2, gm_lshl, gm_i2l, gm_l2i, gm_lcmp, gm_dup, gm_pop1, gm_dup2, gm_goto, gm_ifeq, gm_ifne, gm_iflt, gm_ifge, gm_ifgt, gm_ifle, gm_ceq, gm_cne, gm_clt, gm_cge, gm_cgt, gm_cle, gm_ifnull, gm_ifnonnull, gm_swk, gm_switch, gm_getI, gm_getR, gm_putI, gm_putZ, gm_putR, gm_new, gm_newarr, gm_iald, gm_cald, gm_zald, gm_lald, gm_aald, gm_iast, gm_cast, gm_zast, gm_last, gm_aast, gm_acp, gm_oinit, gm_back, gm_scall, gm_vcall, gm_iret, gm_zret, gm_cret, gm_lret, gm_aret, gm_vret, gm_slen, gm_schar, gm_sidx, gm_lget, gm_lset, gm_nl, gm_ent, gm_wd, gm_pop, gm_pad, gm_xl_c, gm_alen_u, gm_1_sF, gm_1_sA, gm_1_cp, gm_len_sF, gm_len_sA, gm_len_cp, Bool.or_true, Bool.true_or, gm_max_u, gm_min_u, gm_isO_sF, gm_isO_sA, gm_isO_cp, gm_gF_sF, gm_gF_sA, gm_gA_sF, gm_gA_sA, gm_gF_cp, gm_gA_cp, gm_add, gm_sub, gm_mul, gm_neg, ↓reduceIte, Nat.reduceAdd, Nat.reduceLeDiff, true_and, and_true, and_self, true_or, or_true, false_and, and_false, false_or, or_false, eq_self, Nat.reduceEqDiff, Int.reduceEq, Int.reduceLT, Int.reduceLE, Int.reduceNeg, Int.reduceAdd, Int.reduceSub, Int.reduceMul, Int.reduceDiv, Int.reduceMod, reduceCtorEq, if_true, if_false, gm_w_id, xX8_houseAt_0, xX8_houseAt_1, xX8_houseAt_2, z1, z2, z3, y3, l8, l7, h1, h2, h3, ha, hin, ha3]
      rw [if_pos (by omega)]
    · simp (config := { maxSteps := 2000000 }) (disch := first | omega | assumption | (simp only [gm_isO_sF, gm_isO_sA, gm_isO_cp]; assumption)) only [gm_push, gm_iload, gm_lload, gm_aload, gm_istore, gm_astore, gm_iinc, gm_op2, gm_quo, gm_op1, gm_lop2, gm_lshl, gm_i2l, gm_l2i, gm_lcmp, gm_dup, gm_pop1, gm_dup2, gm_goto, gm_ifeq, gm_ifne, gm_iflt, gm_ifge, gm_ifgt, gm_ifle, gm_ceq, gm_cne, gm_clt, gm_cge, gm_cgt, gm_cle, gm_ifnull, gm_ifnonnull, gm_swk, gm_switch, gm_getI, gm_getR, gm_putI, gm_putZ, gm_putR, gm_new, gm_newarr, gm_iald, gm_cald, gm_zald, gm_lald, gm_aald, gm_iast, gm_cast, gm_zast, gm_last, gm_aast, gm_acp, gm_oinit, gm_back, gm_scall, gm_vcall, gm_iret, gm_zret, gm_cret, gm_lret, gm_aret, gm_vret, gm_slen, gm_schar, gm_sidx, gm_lget, gm_lset, gm_nl, gm_ent, gm_wd, gm_pop, gm_pad, gm_xl_c, gm_alen_u, gm_1_sF, gm_1_sA, gm_1_cp, gm_len_sF, gm_len_sA, gm_len_cp, Bool.or_true, Bool.true_or, gm_max_u, gm_min_u, gm_isO_sF, gm_isO_sA, gm_isO_cp, gm_gF_sF, gm_gF_sA, gm_gA_sF, gm_gA_sA, gm_gF_cp, gm_gA_cp, gm_add, gm_sub, gm_mul, gm_neg, ↓reduceIte, Nat.reduceAdd, Nat.reduceLeDiff, true_and, and_true, and_self, true_or, or_true, false_and, and_false, false_or, or_false, eq_self, Nat.reduceEqDiff, Int.reduceEq, Int.reduceLT, Int.reduceLE, Int.reduceNeg, Int.reduceAdd, Int.reduceSub, Int.reduceMul, Int.reduceDiv, Int.reduceMod, reduceCtorEq, if_true, if_false, gm_w_id, xX8_houseAt_0, xX8_houseAt_1, xX8_houseAt_2, z1, z2, z3, y3, l8, l7, h1, h2]
theorem r_X8_groundNow (d : Nat) (M : gm_M) (hL : gm_Lay M) (hm : -1 ≤ gm_gF M 703 2 ∧ gm_gF M 703 2 ≤ 6) (hg : 0 ≤ gm_gF M 810 1 ∧ gm_gF M 810 1 ≤ 6) : gm_go (d + 1) 94 [.inr (.inr 1)] M = some (some (.inr (.inr (gm_gr M))), M) := by
  rw [eX8_groundNow _ _ _ (Nat.le_of_ble_eq_true rfl)]
  unfold gm_gr
  have z1 := gm_z1 hL
  have z2 := gm_z2 hL
  have l8 := gm_l800 hL
  have l9 := gm_l809 hL
  have l0 := gm_l808 hL
  have z90 := gm_z90 hL
  have y90 := gm_y90 M
  by_cases h1 : gm_gF M 703 2 < 0
  · simp (config := { maxSteps := 2000000 }) (disch := first | omega | assumption | (simp only [gm_isO_sF, gm_isO_sA, gm_isO_cp]; assumption)) only [gm_push, gm_iload, gm_lload, gm_aload, gm_istore, gm_astore, gm_iinc, gm_op2, gm_quo, gm_op1, gm_lop2, gm_lshl, gm_i2l, gm_l2i, gm_lcmp, gm_dup, gm_pop1, gm_dup2, gm_goto, gm_ifeq, gm_ifne, gm_iflt, gm_ifge, gm_ifgt, gm_ifle, gm_ceq, gm_cne, gm_clt, gm_cge, gm_cgt, gm_cle, gm_ifnull, gm_ifnonnull, gm_swk, gm_switch, gm_getI, gm_getR, gm_putI, gm_putZ, gm_putR, gm_new, gm_newarr, gm_iald, gm_cald, gm_zald, gm_lald, gm_aald, gm_iast, gm_cast, gm_zast, gm_last, gm_aast, gm_acp, gm_oinit, gm_back, gm_scall, gm_vcall, gm_iret, gm_zret, gm_cret, gm_lret, gm_aret, gm_vret, gm_slen, gm_schar, gm_sidx, gm_lget, gm_lset, gm_nl, gm_ent, gm_wd, gm_pop, gm_pad, gm_xl_c, gm_alen_u, gm_1_sF, gm_1_sA, gm_1_cp, gm_len_sF, gm_len_sA, gm_len_cp, Bool.or_true, Bool.true_or, gm_max_u, gm_min_u, gm_isO_sF, gm_isO_sA, gm_isO_cp, gm_gF_sF, gm_gF_sA, gm_gA_sF, gm_gA_sA, gm_gF_cp, gm_gA_cp, gm_add, gm_sub, gm_mul, gm_neg, ↓reduceIte, Nat.reduceAdd, Nat.reduceLeDiff, true_and, and_true, and_self, true_or, or_true, false_and, and_false, false_or, or_false, eq_self, Nat.reduceEqDiff, Int.reduceEq, Int.reduceLT, Int.reduceLE, Int.reduceNeg, Int.reduceAdd, Int.reduceSub, Int.reduceMul, Int.reduceDiv, Int.reduceMod, reduceCtorEq, if_true, if_false, gm_w_id, xX8_groundNow_0, xX8_groundNow_1, xX8_groundNow_2, z1, z2, z90, y90, l8, l9, l0, h1]
    rw [if_neg (by omega)]
  · by_cases h2 : gm_gF M 703 2 < gm_gF M 810 1
    · have ha := gm_a90 hL (i := gm_gF M 703 2) (by omega) (by omega)
      have hin := gm_inI (M := M) (a := 90) (i := gm_gF M 703 2) y90 (by omega) (by omega) (by decide)
      have h3 : gm_gF M 703 2 < 6 := by omega
      have ha3 := gm_alen_k 25 (by decide) (gm_go d)
      simp (config := { maxSteps := 2000000 }) (disch := first | omega | assumption | (simp only [gm_isO_sF, gm_isO_sA, gm_isO_cp]; assumption)) only [gm_push, gm_iload, gm_lload, gm_aload, gm_istore, gm_astore, gm_iinc, gm_op2, gm_quo, gm_op1, gm_lop2, gm_lshl, gm_i2l, gm_l2i, gm_lcmp, gm_dup, gm_pop1, gm_dup2, gm_goto, gm_ifeq, gm_ifne, gm_iflt, gm_ifge, gm_ifgt, gm_ifle, gm_ceq, gm_cne, gm_clt, gm_cge, gm_cgt, gm_cle, gm_ifnull, gm_ifnonnull, gm_swk, gm_switch, gm_getI, gm_getR, gm_putI, gm_putZ, gm_putR, gm_new, gm_newarr, gm_iald, gm_cald, gm_zald, gm_lald, gm_aald, gm_iast, gm_cast, gm_zast, gm_last, gm_aast, gm_acp, gm_oinit, gm_back, gm_scall, gm_vcall, gm_iret, gm_zret, gm_cret, gm_lret, gm_aret, gm_vret, gm_slen, gm_schar, gm_sidx, gm_lget, gm_lset, gm_nl, gm_ent, gm_wd, gm_pop, gm_pad, gm_xl_c, gm_alen_u, gm_1_sF, gm_1_sA, gm_1_cp, gm_len_sF, gm_len_sA, gm_len_cp, Bool.or_true, Bool.true_or, gm_max_u, gm_min_u, gm_isO_sF, gm_isO_sA, gm_isO_cp, gm_gF_sF, gm_gF_sA, gm_gA_sF, gm_gA_sA, gm_gF_cp, gm_gA_cp, gm_add, gm_sub, gm_mul, gm_neg, ↓reduceIte, Nat.reduceAdd, Nat.reduceLeDiff, true_and, and_true, and_self, true_or, or_true, false_and, and_false, false_or, or_false, eq_self, Nat.reduceEqDiff, Int.reduceEq, Int.reduceLT, Int.reduceLE, Int.reduceNeg, Int.reduceAdd, Int.reduceSub, Int.reduceMul, Int.reduceDiv, Int.reduceMod, reduceCtorEq, if_true, if_false, gm_w_id, xX8_groundNow_0, xX8_groundNow_1, xX8_groundNow_2, z1, z2, z90, y90, l8, l9, l0, h1, h2, h3, ha, hin, ha3]
      rw [if_pos (by omega)]
    · simp (config := { maxSteps := 2000000 }) (disch := first | omega | assumption | (simp only [gm_isO_sF, gm_isO_sA, gm_isO_cp]; assumption)) only [gm_push, gm_iload, gm_lload, gm_aload, gm_istore, gm_astore, gm_iinc, gm_op2, gm_quo, gm_op1, gm_lop2, gm_lshl, gm_i2l, gm_l2i, gm_lcmp, gm_dup, gm_pop1, gm_dup2, gm_goto, gm_ifeq, gm_ifne, gm_iflt, gm_ifge, gm_ifgt, gm_ifle, gm_ceq, gm_cne, gm_clt, gm_cge, gm_cgt, gm_cle, gm_ifnull, gm_ifnonnull, gm_swk, gm_switch, gm_getI, gm_getR, gm_putI, gm_putZ, gm_putR, gm_new, gm_newarr, gm_iald, gm_cald, gm_zald, gm_lald, gm_aald, gm_iast, gm_cast, gm_zast, gm_last, gm_aast, gm_acp, gm_oinit, gm_back, gm_scall, gm_vcall, gm_iret, gm_zret, gm_cret, gm_lret, gm_aret, gm_vret, gm_slen, gm_schar, gm_sidx, gm_lget, gm_lset, gm_nl, gm_ent, gm_wd, gm_pop, gm_pad, gm_xl_c, gm_alen_u, gm_1_sF, gm_1_sA, gm_1_cp, gm_len_sF, gm_len_sA, gm_len_cp, Bool.or_true, Bool.true_or, gm_max_u, gm_min_u, gm_isO_sF, gm_isO_sA, gm_isO_cp, gm_gF_sF, gm_gF_sA, gm_gA_sF, gm_gA_sA, gm_gF_cp, gm_gA_cp, gm_add, gm_sub, gm_mul, gm_neg, ↓reduceIte, Nat.reduceAdd, Nat.reduceLeDiff, true_and, and_true, and_self, true_or, or_true, false_and, and_false, false_or, or_false, eq_self, Nat.reduceEqDiff, Int.reduceEq, Int.reduceLT, Int.reduceLE, Int.reduceNeg, Int.reduceAdd, Int.reduceSub, Int.reduceMul, Int.reduceDiv, Int.reduceMod, reduceCtorEq, if_true, if_false, gm_w_id, xX8_groundNow_0, xX8_groundNow_1, xX8_groundNow_2, z1, z2, z90, y90, l8, l9, l0, h1, h2]
theorem gm_CI.ho {M : gm_M} (h : gm_CI M) {n : Int} (h1 : 0 ≤ n) (h2 : n < gm_many M) : gm_isO 2 M (8 + 3 * n) = true ∧ gm_owf M (8 + 3 * n) := by
  have hm := h.2.1
  exact ⟨(gm_a3 h.1 h1 (by omega)).2, (h.2.2.2.2.2.1 n h1 h2).1⟩
/-- the house that is tried on, made of the house q, with what holds then -/
theorem gm_try {M M1 : gm_M} (hI : gm_CI M) (he : gm_Ec M M1) {n o : Int} (h1 : 0 ≤ n) (h2 : n < gm_many M) (ho : o = 74 ∨ o = 77) :
    gm_Lay (gm_bec M1 o (8 + 3 * n)) ∧ gm_isO 2 (gm_bec M1 o (8 + 3 * n)) o = true ∧ gm_isO 1 (gm_bec M1 o (8 + 3 * n)) (gm_gr M) = true ∧ gm_gwf (gm_bec M1 o (8 + 3 * n)) (gm_gr M) ∧ gm_owf (gm_bec M1 o (8 + 3 * n)) o ∧ gm_Ec M (gm_bec M1 o (8 + 3 * n)) := by
  have hm := hI.2.1
  have hb := he.bec o (8 + 3 * n) ho
  have hw := he.owf (o := 8 + 3 * n) (by omega) (hI.ho h1 h2).2
  have hg := gm_gr_b hI
  refine ⟨hb.1, ?_, ?_, hb.gwf hg.1 hI.2.2.2.2.2.2, gm_bec_owf hw, hb⟩
  · rcases ho with rfl | rfl
    · exact gm_z74 hb.1
    · exact gm_z77 hb.1
  · have h8 := (gm_isO_iff hI.1).mp hg.2
    exact (gm_isO_iff hb.1).mpr h8
def gm_am0 (M : gm_M) : Int → Int := gm_am (gm_gF M 103 (gm_gr M)) (gm_gF M 102 (gm_gr M))
theorem gm_am0_e {M M1 : gm_M} (hI : gm_CI M) (he : gm_Ec M M1) : gm_am (gm_gF M1 103 (gm_gr M)) (gm_gF M1 102 (gm_gr M)) = gm_am0 M := by
  have hg := gm_gr_b hI
  unfold gm_am0
  rw [he.2.1 103 _ (by omega), he.2.1 102 _ (by omega)]
/-- what FIRST is -/
def gm_first (M : gm_M) (n : Int) : Int := gm_fst (fun k q => gm_SC M (gm_gr M) (8 + 3 * n) (gm_day M + k - 1) 0 q) (gm_am0 M) 56 1 (gm_qq M (8 + 3 * n))
theorem gm_first_try {M M1 : gm_M} (hI : gm_CI M) (he : gm_Ec M M1) (d : Nat) {n o : Int} (h1 : 0 ≤ n) (h2 : n < gm_many M) (ho : o = 74 ∨ o = 77) :
    ∃ M2, gm_Ec M M2 ∧ gm_go (d + 6) 18 [.inr (.inr o), .inr (.inr (gm_gr M)), .inl (gm_day M)] (gm_bec M1 o (8 + 3 * n)) = some (some (.inl (gm_first M n)), M2) := by
  have hm := hI.2.1
  have hd := hI.2.2.1
  have hg := gm_gr_b hI
  obtain ⟨t1, t2, t3, t4, t5, t6⟩ := gm_try hI he h1 h2 ho
  obtain ⟨q', hq', e⟩ := r_X2_firstAmiss d o (gm_gr M) (gm_day M) _ t1 t2 t3 t4 t5 (by omega)
  refine ⟨_, t6.hs o (o + 1) q'.1 q'.2 (by omega) (by omega), ?_⟩
  rw [e, gm_am0_e hI t6, gm_qq_bec he (by omega)]
  unfold gm_first
  simp only [gm_dp_SC, gm_SC_bec he ho (show 0 < 8 + 3 * n ∧ 8 + 3 * n < 48 by omega) hg.1]
theorem r_X8_first (d : Nat) (n : Int) (M : gm_M) (hI : gm_CI M) (hn : gm_i n) :
    ∃ M1, gm_Ec M M1 ∧ gm_go (d + 7) 63 [.inr (.inr 1), .inl n] M = some (some (.inl (if 0 ≤ n ∧ n < gm_many M then gm_first M n else -1)), M1) := by
  have hL := hI.1
  have hm := hI.2.1
  have z1 := gm_z1 hL
  have h8 := r_X8_houseAt (d + 5) n M hL hm hn
  rw [eX8_first _ _ _ (Nat.le_of_ble_eq_true rfl)]
  by_cases h : 0 ≤ n ∧ n < gm_many M
  · obtain ⟨M2, he2, e⟩ := gm_first_try hI (gm_Ec.rf hL) d h.1 h.2 (Or.inl rfl : (74 : Int) = 74 ∨ (74 : Int) = 77)
    refine ⟨M2, he2, ?_⟩
    have ho := (hI.ho h.1 h.2).1
    have hb := (gm_Ec.rf hL).bec 74 (8 + 3 * n) (Or.inl rfl)
    have z74 := gm_z74 hL
    have hbc := r_X2_become (d + 4) 74 (8 + 3 * n) M hL z74 ho (by omega)
    have hgn := r_X8_groundNow (d + 5) (gm_bec M 74 (8 + 3 * n)) hb.1 (by rw [hb.2.1 703 2 (by omega)]; exact hI.2.2.2.1) (by rw [hb.2.1 810 1 (by omega)]; exact hI.2.2.2.2.1)
    have egr : gm_gr (gm_bec M 74 (8 + 3 * n)) = gm_gr M := by
      unfold gm_gr
      rw [hb.2.1 703 2 (by omega), hb.2.1 810 1 (by omega)]
    rw [egr] at hgn
    have b1 := gm_l804 hb.1
    have b2 := gm_l800 hb.1
    have b3 : gm_gF (gm_bec M 74 (8 + 3 * n)) 702 2 = gm_day M := hb.2.1 702 2 (by omega)
    have zb1 := gm_z1 hb.1
    have zb2 := gm_z2 hb.1
    have zb74 := gm_z74 hb.1
    have l804 := gm_l804 hL
    unfold gm_ho at h8
    rw [if_pos h] at h8
    have hpos : ¬ (8 + 3 * n ≤ 0) := by omega
    simp (config := { maxSteps := 2000000 }) (disch := first | omega | assumption | (simp only [gm_isO_sF, gm_isO_sA, gm_isO_cp]; assumption)) only [gm_push, gm_iload, gm_lload, gm_aload, gm_istore, gm_astore, gm_iinc, gm_op2, gm_quo, gm_op1, gm_lop2, gm_lshl, gm_i2l, gm_l2i, gm_lcmp, gm_dup, gm_pop1, gm_dup2, gm_goto, gm_ifeq, gm_ifne, gm_iflt, gm_ifge, gm_ifgt, gm_ifle, gm_ceq, gm_cne, gm_clt, gm_cge, gm_cgt, gm_cle, gm_ifnull, gm_ifnonnull, gm_swk, gm_switch, gm_getI, gm_getR, gm_putI, gm_putZ, gm_putR, gm_new, gm_newarr, gm_iald, gm_cald, gm_zald, gm_lald, gm_aald, gm_iast, gm_cast, gm_zast, gm_last, gm_aast, gm_acp, gm_oinit, gm_back, gm_scall, gm_vcall, gm_iret, gm_zret, gm_cret, gm_lret, gm_aret, gm_vret, gm_slen, gm_schar, gm_sidx, gm_lget, gm_lset, gm_nl, gm_ent, gm_wd, gm_pop, gm_pad, gm_xl_c, gm_alen_u, gm_1_sF, gm_1_sA, gm_1_cp, gm_len_sF, gm_len_sA, gm_len_cp, Bool.or_true, Bool.true_or, gm_max_u, gm_min_u, gm_isO_sF, gm_isO_sA, gm_isO_cp, gm_gF_sF, gm_gF_sA, gm_gA_sF, gm_gA_sA, gm_gF_cp, gm_gA_cp, gm_add, gm_sub, gm_mul, gm_neg, ↓reduceIte, Nat.reduceAdd, Nat.reduceLeDiff, true_and, and_true, and_self, true_or, or_true, false_and, and_false, false_or, or_false, eq_self, Nat.reduceEqDiff, Int.reduceEq, Int.reduceLT, Int.reduceLE, Int.reduceNeg, Int.reduceAdd, Int.reduceSub, Int.reduceMul, Int.reduceDiv, Int.reduceMod, reduceCtorEq, if_true, if_false, gm_w_id, xX8_first_0, xX8_first_1, z1, h8, hpos, ho, z74, hbc, hgn, b1, b2, b3, zb1, zb2, zb74, l804, e, h]
  · refine ⟨M, gm_Ec.rf hL, ?_⟩
    unfold gm_ho at h8
    rw [if_neg h] at h8
    simp (config := { maxSteps := 2000000 }) (disch := first | omega | assumption | (simp only [gm_isO_sF, gm_isO_sA, gm_isO_cp]; assumption)) only [gm_push, gm_iload, gm_lload, gm_aload, gm_istore, gm_astore, gm_iinc, gm_op2, gm_quo, gm_op1, gm_lop2, gm_lshl, gm_i2l, gm_l2i, gm_lcmp, gm_dup, gm_pop1, gm_dup2, gm_goto, gm_ifeq, gm_ifne, gm_iflt, gm_ifge, gm_ifgt, gm_ifle, gm_ceq, gm_cne, gm_clt, gm_cge, gm_cgt, gm_cle, gm_ifnull, gm_ifnonnull, gm_swk, gm_switch, gm_getI, gm_getR, gm_putI, gm_putZ, gm_putR, gm_new, gm_newarr, gm_iald, gm_cald, gm_zald, gm_lald, gm_aald, gm_iast, gm_cast, gm_zast, gm_last, gm_aast, gm_acp, gm_oinit, gm_back, gm_scall, gm_vcall, gm_iret, gm_zret, gm_cret, gm_lret, gm_aret, gm_vret, gm_slen, gm_schar, gm_sidx, gm_lget, gm_lset, gm_nl, gm_ent, gm_wd, gm_pop, gm_pad, gm_xl_c, gm_alen_u, gm_1_sF, gm_1_sA, gm_1_cp, gm_len_sF, gm_len_sA, gm_len_cp, Bool.or_true, Bool.true_or, gm_max_u, gm_min_u, gm_isO_sF, gm_isO_sA, gm_isO_cp, gm_gF_sF, gm_gF_sA, gm_gA_sF, gm_gA_sA, gm_gF_cp, gm_gA_cp, gm_add, gm_sub, gm_mul, gm_neg, ↓reduceIte, Nat.reduceAdd, Nat.reduceLeDiff, true_and, and_true, and_self, true_or, or_true, false_and, and_false, false_or, or_false, eq_self, Nat.reduceEqDiff, Int.reduceEq, Int.reduceLT, Int.reduceLE, Int.reduceNeg, Int.reduceAdd, Int.reduceSub, Int.reduceMul, Int.reduceDiv, Int.reduceMod, reduceCtorEq, if_true, if_false, gm_w_id, xX8_first_0, xX8_first_1, z1, h8, h]
