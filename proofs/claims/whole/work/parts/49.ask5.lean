/-! THE CLASS: dry, cap -/
def gm_dryf (step : Int → Int × Int → Int × Int) : Nat → Int → Int × Int → Int
  | 0, _, _ => -5
  | n + 1, k, q => if (step k q).2 = 0 then k else gm_dryf step n (k + 1) (step k q)
/-- one day of the house that is tried on -/
theorem gm_passT {M M1 : gm_M} (hI : gm_CI M) (he : gm_Ec M M1) (d : Nat) {n o day dust : Int} (h1 : 0 ≤ n) (h2 : n < gm_many M) (ho : o = 74 ∨ o = 77) (b6 : 0 ≤ day ∧ day < 100000) (b9 : 0 ≤ dust ∧ dust ≤ 1000) {q : Int × Int} (hq : gm_pok q) {r : Int × Int} (hr : gm_SC M (gm_gr M) (8 + 3 * n) day dust q = r) :
    gm_go (d + 5) 17 [.inr (.inr o), .inr (.inr (gm_gr M)), .inl day, .inl dust] (gm_hs (gm_bec M1 o (8 + 3 * n)) o (o + 1) q.1 q.2) = some (some (.inl (gm_am0 M r.1)), gm_hs (gm_bec M1 o (8 + 3 * n)) o (o + 1) r.1 r.2) := by
  have hm := hI.2.1
  have hg := gm_gr_b hI
  obtain ⟨t1, t2, t3, t4, t5, t6⟩ := gm_try hI he h1 h2 ho
  have e := r_X2_passP d o (gm_gr M) day dust (gm_bec M1 o (8 + 3 * n)) t1 t2 t3 t4 t5 (by omega) b9 hq
  rw [gm_dp_SC, gm_SC_bec he ho (show 0 < 8 + 3 * n ∧ 8 + 3 * n < 48 by omega) hg.1, hr, gm_am0_e hI t6] at e
  exact e
theorem r_X8_dry_loop (d : Nat) (M : gm_M) (hI : gm_CI M) (n : Int) (h1 : 0 ≤ n) (h2 : n < gm_many M) : ∀ (j f : Nat) (k : Int) (q : Int × Int), gm_pok q → 3 * (j + 2) ≤ f → k = 61 - j → j ≤ 60 →
    ∃ M2, gm_Ec M M2 ∧ gm_ex (gm_go (d + 5)) qX8_dry f 2 [some (.inr (.inr 1)), some (.inl n), some (.inr (.inr (8 + 3 * n))), some (.inr (.inr (gm_gr M))), some (.inl k)] [] (gm_hs (gm_bec M 74 (8 + 3 * n)) 74 75 q.1 q.2) = some (some (.inl (gm_dryf (gm_st M n 0) j k q)), M2) := by
  have hm := hI.2.1
  have hd := hI.2.2.1
  have he := gm_Ec.rf hI.1
  intro j
  induction j with
  | zero =>
    intro f k q hq hf hk hj
    obtain ⟨f, rfl⟩ : ∃ g, f = g + 3 := ⟨f - 3, by omega⟩
    refine ⟨_, (he.bec 74 (8 + 3 * n) (Or.inl rfl)).hs 74 75 q.1 q.2 (by omega) (by omega), ?_⟩
    have hk' : k = 61 := by omega
    subst hk'
    rw [xX8_dry_2]
    simp (config := { maxSteps := 2000000 }) (disch := first | omega | assumption | (simp only [gm_isO_sF, gm_isO_sA, gm_isO_cp]; assumption)) only [gm_push, gm_iload, gm_lload, gm_aload, gm_istore, gm_astore, gm_iinc, gm_op2, gm_quo, gm_op1, gm_lop2, gm_lshl, gm_i2l, gm_l2i, gm_lcmp, gm_dup, gm_pop1, gm_dup2, gm_goto, gm_ifeq, gm_ifne, gm_iflt, gm_ifge, gm_ifgt, gm_ifle, gm_ceq, gm_cne, gm_clt, gm_cge, gm_cgt, gm_cle, gm_ifnull, gm_ifnonnull, gm_swk, gm_switch, gm_getI, gm_getR, gm_putI, gm_putZ, gm_putR, gm_new, gm_newarr, gm_iald, gm_cald, gm_zald, gm_lald, gm_aald, gm_iast, gm_cast, gm_zast, gm_last, gm_aast, gm_acp, gm_oinit, gm_back, gm_scall, gm_vcall, gm_iret, gm_zret, gm_cret, gm_lret, gm_aret, gm_vret, gm_slen, gm_schar, gm_sidx, gm_lget, gm_lset, gm_nl, gm_ent, gm_wd, gm_pop, gm_pad, gm_xl_c, gm_alen_u, gm_1_sF, gm_1_sA, gm_1_cp, gm_len_sF, gm_len_sA, gm_len_cp, Bool.or_true, Bool.true_or, gm_max_u, gm_min_u, gm_isO_sF, gm_isO_sA, gm_isO_cp, gm_gF_sF, gm_gF_sA, gm_gA_sF, gm_gA_sA, gm_gF_cp, gm_gA_cp, gm_add, gm_sub, gm_mul, gm_neg, ↓reduceIte, Nat.reduceAdd, Nat.reduceLeDiff, true_and, and_true, and_self, true_or, or_true, false_and, and_false, false_or, or_false, eq_self, Nat.reduceEqDiff, Int.reduceEq, Int.reduceLT, Int.reduceLE, Int.reduceNeg, Int.reduceAdd, Int.reduceSub, Int.reduceMul, Int.reduceDiv, Int.reduceMod, reduceCtorEq, if_true, if_false, gm_w_id, xX8_dry_0, xX8_dry_1, xX8_dry_3, xX8_dry_4, gm_dryf]
  | succ j ih =>
    intro f k q hq hf hk hj
    obtain ⟨f, rfl⟩ : ∃ g, f = g + 3 := ⟨f - 3, by omega⟩
    have hb := (he.bec 74 (8 + 3 * n) (Or.inl rfl)).hs 74 75 q.1 q.2 (by omega) (by omega)
    obtain ⟨b1, b2, b3, b4, b5, b6, b7, b8, b9, b10, b11, b12, b13⟩ := gm_cx hI hb
    have h9 : ¬ 60 < k := by omega
    have hok := gm_st_ok hI h1 h2 0 k q hq
    have e := gm_passT hI he d h1 h2 (Or.inl rfl : (74 : Int) = 74 ∨ (74 : Int) = 77) (day := gm_day M + k - 1) (dust := 0) (by omega) (by decide) hq rfl
    have hst : gm_SC M (gm_gr M) (8 + 3 * n) (gm_day M + k - 1) 0 q = gm_st M n 0 k q := by unfold gm_st; rw [gm_dus0]
    rw [hst] at e
    have e' : gm_go (d + 5) 17 [.inr (.inr 74), .inr (.inr (gm_gr M)), .inl (gm_day M + k - 1), .inl 0] (gm_hs (gm_bec M 74 (8 + 3 * n)) 74 75 q.1 q.2) = some (some (.inl (gm_am0 M (gm_st M n 0 k q).1)), gm_hs (gm_bec M 74 (8 + 3 * n)) 74 75 (gm_st M n 0 k q).1 (gm_st M n 0 k q).2) := e
    have he2 := (he.bec 74 (8 + 3 * n) (Or.inl rfl)).hs 74 75 (gm_st M n 0 k q).1 (gm_st M n 0 k q).2 (by omega) (by omega)
    obtain ⟨p1, p2, p3, p4, p5, p6, p7, p8, p9, p10, p11, p12, p13⟩ := gm_cx hI he2
    have f2 : gm_gF (gm_hs (gm_bec M 74 (8 + 3 * n)) 74 75 (gm_st M n 0 k q).1 (gm_st M n 0 k q).2) 500 75 = (gm_st M n 0 k q).2 := rfl
    have f3 : gm_gF (gm_hs (gm_bec M 74 (8 + 3 * n)) 74 75 (gm_st M n 0 k q).1 (gm_st M n 0 k q).2) 205 74 = 75 := gm_l205 he2.1 p3
    have f4 : gm_isO 5 (gm_hs (gm_bec M 74 (8 + 3 * n)) 74 75 (gm_st M n 0 k q).1 (gm_st M n 0 k q).2) 75 = true := gm_k205 he2.1 p3
    have hb2 := hok.2
    by_cases hz : (gm_st M n 0 k q).2 = 0
    · refine ⟨_, he2, ?_⟩
      rw [xX8_dry_2]
      have hz' : gm_w (gm_st M n 0 k q).2 = 0 := by rw [hz]; rfl
      simp (config := { maxSteps := 2000000 }) (disch := first | omega | assumption | (simp only [gm_isO_sF, gm_isO_sA, gm_isO_cp]; assumption)) only [gm_push, gm_iload, gm_lload, gm_aload, gm_istore, gm_astore, gm_iinc, gm_op2, gm_quo, gm_op1, gm_lop2, gm_lshl, gm_i2l, gm_l2i, gm_lcmp, gm_dup, gm_pop1, gm_dup2, gm_goto, gm_ifeq, gm_ifne, gm_iflt, gm_ifge, gm_ifgt, gm_ifle, gm_ceq, gm_cne, gm_clt, gm_cge, gm_cgt, gm_cle, gm_ifnull, gm_ifnonnull, gm_swk, gm_switch, gm_getI, gm_getR, gm_putI, gm_putZ, gm_putR, gm_new, gm_newarr, gm_iald, gm_cald, gm_zald, gm_lald, gm_aald, gm_iast, gm_cast, gm_zast, gm_last, gm_aast, gm_acp, gm_oinit, gm_back, gm_scall, gm_vcall, gm_iret, gm_zret, gm_cret, gm_lret, gm_aret, gm_vret, gm_slen, gm_schar, gm_sidx, gm_lget, gm_lset, gm_nl, gm_ent, gm_wd, gm_pop, gm_pad, gm_xl_c, gm_alen_u, gm_1_sF, gm_1_sA, gm_1_cp, gm_len_sF, gm_len_sA, gm_len_cp, Bool.or_true, Bool.true_or, gm_max_u, gm_min_u, gm_isO_sF, gm_isO_sA, gm_isO_cp, gm_gF_sF, gm_gF_sA, gm_gA_sF, gm_gA_sA, gm_gF_cp, gm_gA_cp, gm_add, gm_sub, gm_mul, gm_neg, ↓reduceIte, Nat.reduceAdd, Nat.reduceLeDiff, true_and, and_true, and_self, true_or, or_true, false_and, and_false, false_or, or_false, eq_self, Nat.reduceEqDiff, Int.reduceEq, Int.reduceLT, Int.reduceLE, Int.reduceNeg, Int.reduceAdd, Int.reduceSub, Int.reduceMul, Int.reduceDiv, Int.reduceMod, reduceCtorEq, if_true, if_false, gm_w_id, xX8_dry_0, xX8_dry_1, xX8_dry_3, xX8_dry_4, b1, b2, b3, b5, b7, b8, h9, e', p1, p3, p5, f2, f3, f4, hz']
      simp only [gm_dryf, if_pos hz]
    · obtain ⟨M3, he3, e3⟩ := ih (f + 1) (k + 1) (gm_st M n 0 k q) hok (by omega) (by omega) (by omega)
      refine ⟨M3, he3, ?_⟩
      rw [xX8_dry_2]
      simp (config := { maxSteps := 2000000 }) (disch := first | omega | assumption | (simp only [gm_isO_sF, gm_isO_sA, gm_isO_cp]; assumption)) only [gm_push, gm_iload, gm_lload, gm_aload, gm_istore, gm_astore, gm_iinc, gm_op2, gm_quo, gm_op1, gm_lop2, gm_lshl, gm_i2l, gm_l2i, gm_lcmp, gm_dup, gm_pop1, gm_dup2, gm_goto, gm_ifeq, gm_ifne, gm_iflt, gm_ifge, gm_ifgt, gm_ifle, gm_ceq, gm_cne, gm_clt, gm_cge, gm_cgt, gm_cle, gm_ifnull, gm_ifnonnull, gm_swk, gm_switch, gm_getI, gm_getR, gm_putI, gm_putZ, gm_putR, gm_new, gm_newarr, gm_iald, gm_cald, gm_zald, gm_lald, gm_aald, gm_iast, gm_cast, gm_zast, gm_last, gm_aast, gm_acp, gm_oinit, gm_back, gm_scall, gm_vcall, gm_iret, gm_zret, gm_cret, gm_lret, gm_aret, gm_vret, gm_slen, gm_schar, gm_sidx, gm_lget, gm_lset, gm_nl, gm_ent, gm_wd, gm_pop, gm_pad, gm_xl_c, gm_alen_u, gm_1_sF, gm_1_sA, gm_1_cp, gm_len_sF, gm_len_sA, gm_len_cp, Bool.or_true, Bool.true_or, gm_max_u, gm_min_u, gm_isO_sF, gm_isO_sA, gm_isO_cp, gm_gF_sF, gm_gF_sA, gm_gA_sF, gm_gA_sA, gm_gF_cp, gm_gA_cp, gm_add, gm_sub, gm_mul, gm_neg, ↓reduceIte, Nat.reduceAdd, Nat.reduceLeDiff, true_and, and_true, and_self, true_or, or_true, false_and, and_false, false_or, or_false, eq_self, Nat.reduceEqDiff, Int.reduceEq, Int.reduceLT, Int.reduceLE, Int.reduceNeg, Int.reduceAdd, Int.reduceSub, Int.reduceMul, Int.reduceDiv, Int.reduceMod, reduceCtorEq, if_true, if_false, gm_w_id, xX8_dry_0, xX8_dry_1, xX8_dry_3, xX8_dry_4, b1, b2, b3, b5, b7, b8, h9, e', p1, p3, p5, f2, f3, f4, hz]
      rw [gm_dryf, if_neg hz]
      exact e3
theorem r_X8_dry (d : Nat) (n : Int) (M : gm_M) (hI : gm_CI M) (hn : gm_i n) : ∃ M1, gm_Ec M M1 ∧ gm_go (d + 6) 74 [.inr (.inr 1), .inl n] M = some (some (.inl (
    if 0 ≤ n ∧ n < gm_many M then gm_dryf (gm_st M n 0) 60 1 (gm_qq M (8 + 3 * n)) else -1)), M1) := by
  have hm := hI.2.1
  have he := gm_Ec.rf hI.1
  obtain ⟨c1, c2, c3, c4, c5, c6, c7, c8, c9, c10, c11, c12, c13⟩ := gm_cx hI he
  have h8 := c11 (d + 4) n hn
  have hg := c10 (d + 4)
  rw [eX8_dry _ _ _ (Nat.le_of_ble_eq_true rfl)]
  unfold gm_ho at h8
  by_cases h : 0 ≤ n ∧ n < gm_many M
  · rw [if_pos h] at h8
    have hpos : ¬ (8 + 3 * n ≤ 0) := by omega
    have hbc := c12 (d + 3) n 74 h.1 h.2 (Or.inl rfl)
    have c14 := c13 n h.1 h.2
    obtain ⟨M2, he2, e⟩ := r_X8_dry_loop d M hI n h.1 h.2 60 99998 1 (gm_qq M (8 + 3 * n)) (gm_qq_ok (hI.ho h.1 h.2).2) (by omega) (by omega) (by omega)
    refine ⟨M2, he2, ?_⟩
    rw [if_pos h]
    have e9 : gm_hs (gm_bec M 74 (8 + 3 * n)) 74 75 (gm_qq M (8 + 3 * n)).1 (gm_qq M (8 + 3 * n)).2 = gm_bec M 74 (8 + 3 * n) := gm_bec_hs he h.1 (by omega)
    rw [e9] at e
    simp (config := { maxSteps := 2000000 }) (disch := first | omega | assumption | (simp only [gm_isO_sF, gm_isO_sA, gm_isO_cp]; assumption)) only [gm_push, gm_iload, gm_lload, gm_aload, gm_istore, gm_astore, gm_iinc, gm_op2, gm_quo, gm_op1, gm_lop2, gm_lshl, gm_i2l, gm_l2i, gm_lcmp, gm_dup, gm_pop1, gm_dup2, gm_goto, gm_ifeq, gm_ifne, gm_iflt, gm_ifge, gm_ifgt, gm_ifle, gm_ceq, gm_cne, gm_clt, gm_cge, gm_cgt, gm_cle, gm_ifnull, gm_ifnonnull, gm_swk, gm_switch, gm_getI, gm_getR, gm_putI, gm_putZ, gm_putR, gm_new, gm_newarr, gm_iald, gm_cald, gm_zald, gm_lald, gm_aald, gm_iast, gm_cast, gm_zast, gm_last, gm_aast, gm_acp, gm_oinit, gm_back, gm_scall, gm_vcall, gm_iret, gm_zret, gm_cret, gm_lret, gm_aret, gm_vret, gm_slen, gm_schar, gm_sidx, gm_lget, gm_lset, gm_nl, gm_ent, gm_wd, gm_pop, gm_pad, gm_xl_c, gm_alen_u, gm_1_sF, gm_1_sA, gm_1_cp, gm_len_sF, gm_len_sA, gm_len_cp, Bool.or_true, Bool.true_or, gm_max_u, gm_min_u, gm_isO_sF, gm_isO_sA, gm_isO_cp, gm_gF_sF, gm_gF_sA, gm_gA_sF, gm_gA_sA, gm_gF_cp, gm_gA_cp, gm_add, gm_sub, gm_mul, gm_neg, ↓reduceIte, Nat.reduceAdd, Nat.reduceLeDiff, true_and, and_true, and_self, true_or, or_true, false_and, and_false, false_or, or_false, eq_self, Nat.reduceEqDiff, Int.reduceEq, Int.reduceLT, Int.reduceLE, Int.reduceNeg, Int.reduceAdd, Int.reduceSub, Int.reduceMul, Int.reduceDiv, Int.reduceMod, reduceCtorEq, if_true, if_false, gm_w_id, xX8_dry_0, xX8_dry_1, xX8_dry_3, xX8_dry_4, c1, c3, c5, c14, h8, hpos, hg, hbc, e]
  · refine ⟨M, he, ?_⟩
    rw [if_neg h] at h8
    rw [if_neg h]
    simp (config := { maxSteps := 2000000 }) (disch := first | omega | assumption | (simp only [gm_isO_sF, gm_isO_sA, gm_isO_cp]; assumption)) only [gm_push, gm_iload, gm_lload, gm_aload, gm_istore, gm_astore, gm_iinc, gm_op2, gm_quo, gm_op1, gm_lop2, gm_lshl, gm_i2l, gm_l2i, gm_lcmp, gm_dup, gm_pop1, gm_dup2, gm_goto, gm_ifeq, gm_ifne, gm_iflt, gm_ifge, gm_ifgt, gm_ifle, gm_ceq, gm_cne, gm_clt, gm_cge, gm_cgt, gm_cle, gm_ifnull, gm_ifnonnull, gm_swk, gm_switch, gm_getI, gm_getR, gm_putI, gm_putZ, gm_putR, gm_new, gm_newarr, gm_iald, gm_cald, gm_zald, gm_lald, gm_aald, gm_iast, gm_cast, gm_zast, gm_last, gm_aast, gm_acp, gm_oinit, gm_back, gm_scall, gm_vcall, gm_iret, gm_zret, gm_cret, gm_lret, gm_aret, gm_vret, gm_slen, gm_schar, gm_sidx, gm_lget, gm_lset, gm_nl, gm_ent, gm_wd, gm_pop, gm_pad, gm_xl_c, gm_alen_u, gm_1_sF, gm_1_sA, gm_1_cp, gm_len_sF, gm_len_sA, gm_len_cp, Bool.or_true, Bool.true_or, gm_max_u, gm_min_u, gm_isO_sF, gm_isO_sA, gm_isO_cp, gm_gF_sF, gm_gF_sA, gm_gA_sF, gm_gA_sA, gm_gF_cp, gm_gA_cp, gm_add, gm_sub, gm_mul, gm_neg, ↓reduceIte, Nat.reduceAdd, Nat.reduceLeDiff, true_and, and_true, and_self, true_or, or_true, false_and, and_false, false_or, or_false, eq_self, Nat.reduceEqDiff, Int.reduceEq, Int.reduceLT, Int.reduceLE, Int.reduceNeg, Int.reduceAdd, Int.reduceSub, Int.reduceMul, Int.reduceDiv, Int.reduceMod, reduceCtorEq, if_true, if_false, gm_w_id, xX8_dry_0, xX8_dry_1, xX8_dry_3, xX8_dry_4, c1, h8]
