/-! THE CLASS: on, heat, turn, full, dry -/
def gm_bst (c : Int → Int) (step : Int) : Nat → Int → Int × Int → Int × Int
  | 0, _, b => b
  | k + 1, x, b => gm_bst c step k (x + step) (if c x < b.2 then (x, c x) else b)
/-- the house that is tried on, from its own heat and content -/
theorem gm_bec_hs {M M1 : gm_M} (he : gm_Ec M M1) {n o : Int} (h1 : 0 ≤ n) (h2 : n ≤ 6) : gm_hs (gm_bec M1 o (8 + 3 * n)) o (o + 1) (gm_qq M (8 + 3 * n)).1 (gm_qq M (8 + 3 * n)).2 = gm_bec M1 o (8 + 3 * n) := by
  have := gm_qq_bec he (o := o) (q := 8 + 3 * n) (by omega)
  rw [← this]
  exact gm_hs_id _ _ _
theorem gm_bec_w {M M1 : gm_M} (he : gm_Ec M M1) {n o : Int} (h1 : 0 ≤ n) (h2 : n ≤ 6) (w : Int) : gm_sF (gm_bec M1 o (8 + 3 * n)) 203 o w = gm_hs (gm_bec M1 o (8 + 3 * n)) o (o + 1) w (gm_qq M (8 + 3 * n)).2 := by
  have := gm_qq_bec he (o := o) (q := 8 + 3 * n) (by omega)
  rw [gm_hs_2 _ o (o + 1)]
  congr 1
  exact congrArg Prod.snd this
theorem gm_bec_h {M M1 : gm_M} (he : gm_Ec M M1) {n o : Int} (h1 : 0 ≤ n) (h2 : n ≤ 6) (h : Int) : gm_sF (gm_bec M1 o (8 + 3 * n)) 500 (o + 1) h = gm_hs (gm_bec M1 o (8 + 3 * n)) o (o + 1) (gm_qq M (8 + 3 * n)).1 h := by
  have := congrArg Prod.fst (gm_qq_bec he (o := o) (q := 8 + 3 * n) (by omega))
  unfold gm_hs
  rw [← this]
  rw [gm_sF_id (gm_bec M1 o (8 + 3 * n)) 203 o (v := (gm_qq (gm_bec M1 o (8 + 3 * n)) o).1) rfl]
def gm_cT (M : gm_M) (n t : Int) (q : Int × Int) : Int := (gm_cnt (gm_st M n t) (gm_am0 M) 56 1 q).1
theorem gm_cT_b (M : gm_M) (n t : Int) (q : Int × Int) : 0 ≤ gm_cT M n t q ∧ gm_cT M n t q ≤ 56 := gm_cnt_b _ _ _ _ _
theorem r_X8_heat_loop (d : Nat) (M : gm_M) (hI : gm_CI M) (n what : Int) (h1 : 0 ≤ n) (h2 : n < gm_many M) (hw : what = 0 ∨ what = 1) : ∀ (k f : Nat) (x : Int) (b : Int × Int) (l8 : Option gm_V) (M1 : gm_M), gm_Ec M M1 → 4 * (k + 2) ≤ f → x = 200 - 10 * k → k ≤ 20 → (0 ≤ b.1 ∧ b.1 ≤ 200) → (0 ≤ b.2 ∧ b.2 ≤ 57) →
    ∃ M2, gm_Ec M M2 ∧ gm_ex (gm_go (d + 6)) qX8_heat f 3 [some (.inr (.inr 1)), some (.inl n), some (.inl what), some (.inr (.inr (8 + 3 * n))), some (.inr (.inr (gm_gr M))), some (.inl b.1), some (.inl b.2), some (.inl x), l8] [] M1 = some (some (.inl (if what = 0 then (gm_bst (fun e => gm_cT M n 0 (e, (gm_qq M (8 + 3 * n)).2)) 10 k x b).1 else (gm_bst (fun e => gm_cT M n 0 (e, (gm_qq M (8 + 3 * n)).2)) 10 k x b).2)), M2) := by
  have hm := hI.2.1
  have hqq := gm_qq_ok (hI.ho h1 h2).2
  intro k
  induction k with
  | zero =>
    intro f x b l8 M1 he hf hx hk hb1 hb2
    obtain ⟨f, rfl⟩ : ∃ g, f = g + 5 := ⟨f - 5, by omega⟩
    refine ⟨M1, he, ?_⟩
    rw [xX8_heat_3]
    have hx' : x = 200 := by omega
    subst hx'
    rcases hw with rfl | rfl
    · simp (config := { maxSteps := 2000000 }) (disch := first | omega | assumption | (simp only [gm_isO_sF, gm_isO_sA, gm_isO_cp]; assumption)) only [gm_push, gm_iload, gm_lload, gm_aload, gm_istore, gm_astore, gm_iinc, gm_op2, gm_quo, gm_op1, gm_lop2, gm_lshl, gm_i2l, gm_l2i, gm_lcmp, gm_dup, gm_pop1, gm_dup2, gm_goto, gm_ifeq, gm_ifne, gm_iflt, gm_ifge, gm_ifgt, gm_ifle, gm_ceq, gm_cne, gm_clt, gm_cge, gm_cgt, gm_cle, gm_ifnull, gm_ifnonnull, gm_swk, gm_switch, gm_getI, gm_getR, gm_putI, gm_putZ, gm_putR, gm_new, gm_newarr, gm_iald, gm_cald, gm_zald, gm_lald, gm_aald, gm_iast, gm_cast, gm_zast, gm_last, gm_aast, gm_acp, gm_oinit, gm_back, gm_scall, gm_vcall, gm_iret, gm_zret, gm_cret, gm_lret, gm_aret, gm_vret, gm_slen, gm_schar, gm_sidx, gm_lget, gm_lset, gm_nl, gm_ent, gm_wd, gm_pop, gm_pad, gm_xl_c, gm_alen_u, gm_1_sF, gm_1_sA, gm_1_cp, gm_len_sF, gm_len_sA, gm_len_cp, Bool.or_true, Bool.true_or, gm_max_u, gm_min_u, gm_isO_sF, gm_isO_sA, gm_isO_cp, gm_gF_sF, gm_gF_sA, gm_gA_sF, gm_gA_sA, gm_gF_cp, gm_gA_cp, gm_add, gm_sub, gm_mul, gm_neg, ↓reduceIte, Nat.reduceAdd, Nat.reduceLeDiff, true_and, and_true, and_self, true_or, or_true, false_and, and_false, false_or, or_false, eq_self, Nat.reduceEqDiff, Int.reduceEq, Int.reduceLT, Int.reduceLE, Int.reduceNeg, Int.reduceAdd, Int.reduceSub, Int.reduceMul, Int.reduceDiv, Int.reduceMod, reduceCtorEq, if_true, if_false, gm_w_id, xX8_heat_0, xX8_heat_1, xX8_heat_2, xX8_heat_4, xX8_heat_5, xX8_heat_6, xX8_heat_7, gm_bst]
    · simp (config := { maxSteps := 2000000 }) (disch := first | omega | assumption | (simp only [gm_isO_sF, gm_isO_sA, gm_isO_cp]; assumption)) only [gm_push, gm_iload, gm_lload, gm_aload, gm_istore, gm_astore, gm_iinc, gm_op2, gm_quo, gm_op1, gm_lop2, gm_lshl, gm_i2l, gm_l2i, gm_lcmp, gm_dup, gm_pop1, gm_dup2, gm_goto, gm_ifeq, gm_ifne, gm_iflt, gm_ifge, gm_ifgt, gm_ifle, gm_ceq, gm_cne, gm_clt, gm_cge, gm_cgt, gm_cle, gm_ifnull, gm_ifnonnull, gm_swk, gm_switch, gm_getI, gm_getR, gm_putI, gm_putZ, gm_putR, gm_new, gm_newarr, gm_iald, gm_cald, gm_zald, gm_lald, gm_aald, gm_iast, gm_cast, gm_zast, gm_last, gm_aast, gm_acp, gm_oinit, gm_back, gm_scall, gm_vcall, gm_iret, gm_zret, gm_cret, gm_lret, gm_aret, gm_vret, gm_slen, gm_schar, gm_sidx, gm_lget, gm_lset, gm_nl, gm_ent, gm_wd, gm_pop, gm_pad, gm_xl_c, gm_alen_u, gm_1_sF, gm_1_sA, gm_1_cp, gm_len_sF, gm_len_sA, gm_len_cp, Bool.or_true, Bool.true_or, gm_max_u, gm_min_u, gm_isO_sF, gm_isO_sA, gm_isO_cp, gm_gF_sF, gm_gF_sA, gm_gA_sF, gm_gA_sA, gm_gF_cp, gm_gA_cp, gm_add, gm_sub, gm_mul, gm_neg, ↓reduceIte, Nat.reduceAdd, Nat.reduceLeDiff, true_and, and_true, and_self, true_or, or_true, false_and, and_false, false_or, or_false, eq_self, Nat.reduceEqDiff, Int.reduceEq, Int.reduceLT, Int.reduceLE, Int.reduceNeg, Int.reduceAdd, Int.reduceSub, Int.reduceMul, Int.reduceDiv, Int.reduceMod, reduceCtorEq, if_true, if_false, gm_w_id, xX8_heat_0, xX8_heat_1, xX8_heat_2, xX8_heat_4, xX8_heat_5, xX8_heat_6, xX8_heat_7, gm_bst]
  | succ k ih =>
    intro f x b l8 M1 he hf hx hk hb1 hb2
    obtain ⟨f, rfl⟩ : ∃ g, f = g + 4 := ⟨f - 4, by omega⟩
    obtain ⟨c1, c2, c3, c4, c5, c6, c7, c8, c9, c10, c11, c12, c13⟩ := gm_cx hI he
    have hb := he.bec 74 (8 + 3 * n) (Or.inl rfl)
    obtain ⟨b1, b2, b3, b4, b5, b6, b7, b8, b9, b10, b11, b12, b13⟩ := gm_cx hI hb
    have hbc := c12 (d + 4) n 74 h1 h2 (Or.inl rfl)
    have hpk : gm_pok (x, (gm_qq M (8 + 3 * n)).2) := ⟨⟨by omega, by omega⟩, hqq.2⟩
    have e := gm_cntT hI he d h1 h2 (Or.inl rfl : (74 : Int) = 74 ∨ (74 : Int) = 77) (days := 56) (turned := 0) (by decide) (by decide) hpk rfl
    rw [← gm_bec_w he h1 (by omega)] at e
    have e' := e
    have hc : (gm_cnt (gm_st M n 0) (gm_am0 M) (Int.toNat 56) 1 (x, (gm_qq M (8 + 3 * n)).2)).1 = gm_cT M n 0 (x, (gm_qq M (8 + 3 * n)).2) := rfl
    rw [hc] at e
    have hcb := gm_cT_b M n 0 (x, (gm_qq M (8 + 3 * n)).2)
    have he2 := hb.hs 74 75 (gm_cnt (gm_st M n 0) (gm_am0 M) (Int.toNat 56) 1 (x, (gm_qq M (8 + 3 * n)).2)).2.1 (gm_cnt (gm_st M n 0) (gm_am0 M) (Int.toNat 56) 1 (x, (gm_qq M (8 + 3 * n)).2)).2.2 (by omega) (by omega)
    have hx9 : ¬ 190 < x := by omega
    by_cases hlt : gm_cT M n 0 (x, (gm_qq M (8 + 3 * n)).2) < b.2
    · obtain ⟨M3, he3, e3⟩ := ih (f + 2) (x + 10) (x, gm_cT M n 0 (x, (gm_qq M (8 + 3 * n)).2)) (some (.inl (gm_cT M n 0 (x, (gm_qq M (8 + 3 * n)).2)))) _ he2 (by omega) (by omega) (by omega) ⟨by omega, by omega⟩ ⟨by omega, by omega⟩
      refine ⟨M3, he3, ?_⟩
      rw [xX8_heat_3]
      simp (config := { maxSteps := 2000000 }) (disch := first | omega | assumption | (simp only [gm_isO_sF, gm_isO_sA, gm_isO_cp]; assumption)) only [gm_push, gm_iload, gm_lload, gm_aload, gm_istore, gm_astore, gm_iinc, gm_op2, gm_quo, gm_op1, gm_lop2, gm_lshl, gm_i2l, gm_l2i, gm_lcmp, gm_dup, gm_pop1, gm_dup2, gm_goto, gm_ifeq, gm_ifne, gm_iflt, gm_ifge, gm_ifgt, gm_ifle, gm_ceq, gm_cne, gm_clt, gm_cge, gm_cgt, gm_cle, gm_ifnull, gm_ifnonnull, gm_swk, gm_switch, gm_getI, gm_getR, gm_putI, gm_putZ, gm_putR, gm_new, gm_newarr, gm_iald, gm_cald, gm_zald, gm_lald, gm_aald, gm_iast, gm_cast, gm_zast, gm_last, gm_aast, gm_acp, gm_oinit, gm_back, gm_scall, gm_vcall, gm_iret, gm_zret, gm_cret, gm_lret, gm_aret, gm_vret, gm_slen, gm_schar, gm_sidx, gm_lget, gm_lset, gm_nl, gm_ent, gm_wd, gm_pop, gm_pad, gm_xl_c, gm_alen_u, gm_1_sF, gm_1_sA, gm_1_cp, gm_len_sF, gm_len_sA, gm_len_cp, Bool.or_true, Bool.true_or, gm_max_u, gm_min_u, gm_isO_sF, gm_isO_sA, gm_isO_cp, gm_gF_sF, gm_gF_sA, gm_gA_sF, gm_gA_sA, gm_gF_cp, gm_gA_cp, gm_add, gm_sub, gm_mul, gm_neg, ↓reduceIte, Nat.reduceAdd, Nat.reduceLeDiff, true_and, and_true, and_self, true_or, or_true, false_and, and_false, false_or, or_false, eq_self, Nat.reduceEqDiff, Int.reduceEq, Int.reduceLT, Int.reduceLE, Int.reduceNeg, Int.reduceAdd, Int.reduceSub, Int.reduceMul, Int.reduceDiv, Int.reduceMod, reduceCtorEq, if_true, if_false, gm_w_id, xX8_heat_0, xX8_heat_1, xX8_heat_2, xX8_heat_4, xX8_heat_5, xX8_heat_6, xX8_heat_7, c1, c2, c3, c5, c7, hbc, b1, b2, b3, b5, b7, b8, hx9, e, hlt]
      rw [gm_bst, if_pos hlt]
      exact e3
    · obtain ⟨M3, he3, e3⟩ := ih (f + 2) (x + 10) b (some (.inl (gm_cT M n 0 (x, (gm_qq M (8 + 3 * n)).2)))) _ he2 (by omega) (by omega) (by omega) hb1 hb2
      refine ⟨M3, he3, ?_⟩
      rw [xX8_heat_3]
      simp (config := { maxSteps := 2000000 }) (disch := first | omega | assumption | (simp only [gm_isO_sF, gm_isO_sA, gm_isO_cp]; assumption)) only [gm_push, gm_iload, gm_lload, gm_aload, gm_istore, gm_astore, gm_iinc, gm_op2, gm_quo, gm_op1, gm_lop2, gm_lshl, gm_i2l, gm_l2i, gm_lcmp, gm_dup, gm_pop1, gm_dup2, gm_goto, gm_ifeq, gm_ifne, gm_iflt, gm_ifge, gm_ifgt, gm_ifle, gm_ceq, gm_cne, gm_clt, gm_cge, gm_cgt, gm_cle, gm_ifnull, gm_ifnonnull, gm_swk, gm_switch, gm_getI, gm_getR, gm_putI, gm_putZ, gm_putR, gm_new, gm_newarr, gm_iald, gm_cald, gm_zald, gm_lald, gm_aald, gm_iast, gm_cast, gm_zast, gm_last, gm_aast, gm_acp, gm_oinit, gm_back, gm_scall, gm_vcall, gm_iret, gm_zret, gm_cret, gm_lret, gm_aret, gm_vret, gm_slen, gm_schar, gm_sidx, gm_lget, gm_lset, gm_nl, gm_ent, gm_wd, gm_pop, gm_pad, gm_xl_c, gm_alen_u, gm_1_sF, gm_1_sA, gm_1_cp, gm_len_sF, gm_len_sA, gm_len_cp, Bool.or_true, Bool.true_or, gm_max_u, gm_min_u, gm_isO_sF, gm_isO_sA, gm_isO_cp, gm_gF_sF, gm_gF_sA, gm_gA_sF, gm_gA_sA, gm_gF_cp, gm_gA_cp, gm_add, gm_sub, gm_mul, gm_neg, ↓reduceIte, Nat.reduceAdd, Nat.reduceLeDiff, true_and, and_true, and_self, true_or, or_true, false_and, and_false, false_or, or_false, eq_self, Nat.reduceEqDiff, Int.reduceEq, Int.reduceLT, Int.reduceLE, Int.reduceNeg, Int.reduceAdd, Int.reduceSub, Int.reduceMul, Int.reduceDiv, Int.reduceMod, reduceCtorEq, if_true, if_false, gm_w_id, xX8_heat_0, xX8_heat_1, xX8_heat_2, xX8_heat_4, xX8_heat_5, xX8_heat_6, xX8_heat_7, c1, c2, c3, c5, c7, hbc, b1, b2, b3, b5, b7, b8, hx9, e, hlt]
      rw [gm_bst, if_neg hlt]
      exact e3
theorem r_X8_heat (d : Nat) (n what : Int) (M : gm_M) (hI : gm_CI M) (hn : gm_i n) (hw : gm_i what) : ∃ M1, gm_Ec M M1 ∧ gm_go (d + 7) 67 [.inr (.inr 1), .inl n, .inl what] M = some (some (.inl (
    if 0 ≤ n ∧ n < gm_many M ∧ 0 ≤ what ∧ what ≤ 1 then (if what = 0 then (gm_bst (fun e => gm_cT M n 0 (e, (gm_qq M (8 + 3 * n)).2)) 10 20 0 (0, 57)).1 else (gm_bst (fun e => gm_cT M n 0 (e, (gm_qq M (8 + 3 * n)).2)) 10 20 0 (0, 57)).2) else -1)), M1) := by
  have he := gm_Ec.rf hI.1
  obtain ⟨c1, c2, c3, c4, c5, c6, c7, c8, c9, c10, c11, c12, c13⟩ := gm_cx hI he
  have h8 := c11 (d + 5) n hn
  have hwi := r_X8_within (d + 5) what 1 M
  rw [gm_wi hw, gm_w_id (x := 1) (by decide) (by decide)] at hwi
  rw [eX8_heat _ _ _ (Nat.le_of_ble_eq_true rfl), xX8_heat_0]
  unfold gm_ho at h8
  by_cases h : 0 ≤ n ∧ n < gm_many M
  · rw [if_pos h] at h8
    have hpos : ¬ (8 + 3 * n ≤ 0) := by omega
    by_cases hw2 : 0 ≤ what ∧ what ≤ 1
    · rw [if_neg (by omega), if_neg (by omega)] at hwi
      obtain ⟨M2, he2, e⟩ := r_X8_heat_loop d M hI n what h.1 h.2 (by omega) 20 99998 0 (0, 57) none M he (by omega) (by omega) (by omega) (by decide) (by decide)
      refine ⟨M2, he2, ?_⟩
      rw [if_pos ⟨h.1, h.2, hw2⟩]
      simp (config := { maxSteps := 2000000 }) (disch := first | omega | assumption | (simp only [gm_isO_sF, gm_isO_sA, gm_isO_cp]; assumption)) only [gm_push, gm_iload, gm_lload, gm_aload, gm_istore, gm_astore, gm_iinc, gm_op2, gm_quo, gm_op1, gm_lop2, gm_lshl, gm_i2l, gm_l2i, gm_lcmp, gm_dup, gm_pop1, gm_dup2, gm_goto, gm_ifeq, gm_ifne, gm_iflt, gm_ifge, gm_ifgt, gm_ifle, gm_ceq, gm_cne, gm_clt, gm_cge, gm_cgt, gm_cle, gm_ifnull, gm_ifnonnull, gm_swk, gm_switch, gm_getI, gm_getR, gm_putI, gm_putZ, gm_putR, gm_new, gm_newarr, gm_iald, gm_cald, gm_zald, gm_lald, gm_aald, gm_iast, gm_cast, gm_zast, gm_last, gm_aast, gm_acp, gm_oinit, gm_back, gm_scall, gm_vcall, gm_iret, gm_zret, gm_cret, gm_lret, gm_aret, gm_vret, gm_slen, gm_schar, gm_sidx, gm_lget, gm_lset, gm_nl, gm_ent, gm_wd, gm_pop, gm_pad, gm_xl_c, gm_alen_u, gm_1_sF, gm_1_sA, gm_1_cp, gm_len_sF, gm_len_sA, gm_len_cp, Bool.or_true, Bool.true_or, gm_max_u, gm_min_u, gm_isO_sF, gm_isO_sA, gm_isO_cp, gm_gF_sF, gm_gF_sA, gm_gA_sF, gm_gA_sA, gm_gF_cp, gm_gA_cp, gm_add, gm_sub, gm_mul, gm_neg, ↓reduceIte, Nat.reduceAdd, Nat.reduceLeDiff, true_and, and_true, and_self, true_or, or_true, false_and, and_false, false_or, or_false, eq_self, Nat.reduceEqDiff, Int.reduceEq, Int.reduceLT, Int.reduceLE, Int.reduceNeg, Int.reduceAdd, Int.reduceSub, Int.reduceMul, Int.reduceDiv, Int.reduceMod, reduceCtorEq, if_true, if_false, gm_w_id, xX8_heat_0, xX8_heat_1, xX8_heat_2, xX8_heat_4, xX8_heat_5, xX8_heat_6, xX8_heat_7, c1, h8, hpos, hwi, c10, e]
    · refine ⟨M, he, ?_⟩
      rw [if_neg (fun z => hw2 z.2.2)]
      have hwi' : gm_go (d + 6) 90 [.inl what, .inl 1] M = some (some (.inl 0), M) := by
        rw [hwi]
        by_cases q : what < 0
        · rw [if_pos q]
        · rw [if_neg q, if_pos (by omega)]
      simp (config := { maxSteps := 2000000 }) (disch := first | omega | assumption | (simp only [gm_isO_sF, gm_isO_sA, gm_isO_cp]; assumption)) only [gm_push, gm_iload, gm_lload, gm_aload, gm_istore, gm_astore, gm_iinc, gm_op2, gm_quo, gm_op1, gm_lop2, gm_lshl, gm_i2l, gm_l2i, gm_lcmp, gm_dup, gm_pop1, gm_dup2, gm_goto, gm_ifeq, gm_ifne, gm_iflt, gm_ifge, gm_ifgt, gm_ifle, gm_ceq, gm_cne, gm_clt, gm_cge, gm_cgt, gm_cle, gm_ifnull, gm_ifnonnull, gm_swk, gm_switch, gm_getI, gm_getR, gm_putI, gm_putZ, gm_putR, gm_new, gm_newarr, gm_iald, gm_cald, gm_zald, gm_lald, gm_aald, gm_iast, gm_cast, gm_zast, gm_last, gm_aast, gm_acp, gm_oinit, gm_back, gm_scall, gm_vcall, gm_iret, gm_zret, gm_cret, gm_lret, gm_aret, gm_vret, gm_slen, gm_schar, gm_sidx, gm_lget, gm_lset, gm_nl, gm_ent, gm_wd, gm_pop, gm_pad, gm_xl_c, gm_alen_u, gm_1_sF, gm_1_sA, gm_1_cp, gm_len_sF, gm_len_sA, gm_len_cp, Bool.or_true, Bool.true_or, gm_max_u, gm_min_u, gm_isO_sF, gm_isO_sA, gm_isO_cp, gm_gF_sF, gm_gF_sA, gm_gA_sF, gm_gA_sA, gm_gF_cp, gm_gA_cp, gm_add, gm_sub, gm_mul, gm_neg, ↓reduceIte, Nat.reduceAdd, Nat.reduceLeDiff, true_and, and_true, and_self, true_or, or_true, false_and, and_false, false_or, or_false, eq_self, Nat.reduceEqDiff, Int.reduceEq, Int.reduceLT, Int.reduceLE, Int.reduceNeg, Int.reduceAdd, Int.reduceSub, Int.reduceMul, Int.reduceDiv, Int.reduceMod, reduceCtorEq, if_true, if_false, gm_w_id, xX8_heat_0, xX8_heat_1, xX8_heat_2, xX8_heat_4, xX8_heat_5, xX8_heat_6, xX8_heat_7, c1, h8, hpos, hwi', c10]
  · refine ⟨M, he, ?_⟩
    rw [if_neg h] at h8
    rw [if_neg (fun z => h ⟨z.1, z.2.1⟩)]
    simp (config := { maxSteps := 2000000 }) (disch := first | omega | assumption | (simp only [gm_isO_sF, gm_isO_sA, gm_isO_cp]; assumption)) only [gm_push, gm_iload, gm_lload, gm_aload, gm_istore, gm_astore, gm_iinc, gm_op2, gm_quo, gm_op1, gm_lop2, gm_lshl, gm_i2l, gm_l2i, gm_lcmp, gm_dup, gm_pop1, gm_dup2, gm_goto, gm_ifeq, gm_ifne, gm_iflt, gm_ifge, gm_ifgt, gm_ifle, gm_ceq, gm_cne, gm_clt, gm_cge, gm_cgt, gm_cle, gm_ifnull, gm_ifnonnull, gm_swk, gm_switch, gm_getI, gm_getR, gm_putI, gm_putZ, gm_putR, gm_new, gm_newarr, gm_iald, gm_cald, gm_zald, gm_lald, gm_aald, gm_iast, gm_cast, gm_zast, gm_last, gm_aast, gm_acp, gm_oinit, gm_back, gm_scall, gm_vcall, gm_iret, gm_zret, gm_cret, gm_lret, gm_aret, gm_vret, gm_slen, gm_schar, gm_sidx, gm_lget, gm_lset, gm_nl, gm_ent, gm_wd, gm_pop, gm_pad, gm_xl_c, gm_alen_u, gm_1_sF, gm_1_sA, gm_1_cp, gm_len_sF, gm_len_sA, gm_len_cp, Bool.or_true, Bool.true_or, gm_max_u, gm_min_u, gm_isO_sF, gm_isO_sA, gm_isO_cp, gm_gF_sF, gm_gF_sA, gm_gA_sF, gm_gA_sA, gm_gF_cp, gm_gA_cp, gm_add, gm_sub, gm_mul, gm_neg, ↓reduceIte, Nat.reduceAdd, Nat.reduceLeDiff, true_and, and_true, and_self, true_or, or_true, false_and, and_false, false_or, or_false, eq_self, Nat.reduceEqDiff, Int.reduceEq, Int.reduceLT, Int.reduceLE, Int.reduceNeg, Int.reduceAdd, Int.reduceSub, Int.reduceMul, Int.reduceDiv, Int.reduceMod, reduceCtorEq, if_true, if_false, gm_w_id, xX8_heat_0, xX8_heat_1, xX8_heat_2, xX8_heat_4, xX8_heat_5, xX8_heat_6, xX8_heat_7, c1, h8]

theorem r_X8_turn_loop (d : Nat) (M : gm_M) (hI : gm_CI M) (n what : Int) (h1 : 0 ≤ n) (h2 : n < gm_many M) (hw : what = 0 ∨ what = 1) : ∀ (k f : Nat) (x : Int) (b : Int × Int) (l8 : Option gm_V) (M1 : gm_M), gm_Ec M M1 → 4 * (k + 2) ≤ f → x = 29 - k → k ≤ 28 → (0 ≤ b.1 ∧ b.1 ≤ 200) → (0 ≤ b.2 ∧ b.2 ≤ 57) →
    ∃ M2, gm_Ec M M2 ∧ gm_ex (gm_go (d + 6)) qX8_turn f 3 [some (.inr (.inr 1)), some (.inl n), some (.inl what), some (.inr (.inr (8 + 3 * n))), some (.inr (.inr (gm_gr M))), some (.inl b.1), some (.inl b.2), some (.inl x), l8] [] M1 = some (some (.inl (if what = 0 then (gm_bst (fun t => gm_cT M n t (gm_qq M (8 + 3 * n))) 1 k x b).1 else (gm_bst (fun t => gm_cT M n t (gm_qq M (8 + 3 * n))) 1 k x b).2)), M2) := by
  have hm := hI.2.1
  have hqq := gm_qq_ok (hI.ho h1 h2).2
  intro k
  induction k with
  | zero =>
    intro f x b l8 M1 he hf hx hk hb1 hb2
    obtain ⟨f, rfl⟩ : ∃ g, f = g + 5 := ⟨f - 5, by omega⟩
    refine ⟨M1, he, ?_⟩
    rw [xX8_turn_3]
    have hx' : x = 29 := by omega
    subst hx'
    rcases hw with rfl | rfl
    · simp (config := { maxSteps := 2000000 }) (disch := first | omega | assumption | (simp only [gm_isO_sF, gm_isO_sA, gm_isO_cp]; assumption)) only [gm_push, gm_iload, gm_lload, gm_aload, gm_istore, gm_astore, gm_iinc, gm_op2, gm_quo, gm_op1, gm_lop2, gm_lshl, gm_i2l, gm_l2i, gm_lcmp, gm_dup, gm_pop1, gm_dup2, gm_goto, gm_ifeq, gm_ifne, gm_iflt, gm_ifge, gm_ifgt, gm_ifle, gm_ceq, gm_cne, gm_clt, gm_cge, gm_cgt, gm_cle, gm_ifnull, gm_ifnonnull, gm_swk, gm_switch, gm_getI, gm_getR, gm_putI, gm_putZ, gm_putR, gm_new, gm_newarr, gm_iald, gm_cald, gm_zald, gm_lald, gm_aald, gm_iast, gm_cast, gm_zast, gm_last, gm_aast, gm_acp, gm_oinit, gm_back, gm_scall, gm_vcall, gm_iret, gm_zret, gm_cret, gm_lret, gm_aret, gm_vret, gm_slen, gm_schar, gm_sidx, gm_lget, gm_lset, gm_nl, gm_ent, gm_wd, gm_pop, gm_pad, gm_xl_c, gm_alen_u, gm_1_sF, gm_1_sA, gm_1_cp, gm_len_sF, gm_len_sA, gm_len_cp, Bool.or_true, Bool.true_or, gm_max_u, gm_min_u, gm_isO_sF, gm_isO_sA, gm_isO_cp, gm_gF_sF, gm_gF_sA, gm_gA_sF, gm_gA_sA, gm_gF_cp, gm_gA_cp, gm_add, gm_sub, gm_mul, gm_neg, ↓reduceIte, Nat.reduceAdd, Nat.reduceLeDiff, true_and, and_true, and_self, true_or, or_true, false_and, and_false, false_or, or_false, eq_self, Nat.reduceEqDiff, Int.reduceEq, Int.reduceLT, Int.reduceLE, Int.reduceNeg, Int.reduceAdd, Int.reduceSub, Int.reduceMul, Int.reduceDiv, Int.reduceMod, reduceCtorEq, if_true, if_false, gm_w_id, xX8_turn_0, xX8_turn_1, xX8_turn_2, xX8_turn_4, xX8_turn_5, xX8_turn_6, xX8_turn_7, gm_bst]
    · simp (config := { maxSteps := 2000000 }) (disch := first | omega | assumption | (simp only [gm_isO_sF, gm_isO_sA, gm_isO_cp]; assumption)) only [gm_push, gm_iload, gm_lload, gm_aload, gm_istore, gm_astore, gm_iinc, gm_op2, gm_quo, gm_op1, gm_lop2, gm_lshl, gm_i2l, gm_l2i, gm_lcmp, gm_dup, gm_pop1, gm_dup2, gm_goto, gm_ifeq, gm_ifne, gm_iflt, gm_ifge, gm_ifgt, gm_ifle, gm_ceq, gm_cne, gm_clt, gm_cge, gm_cgt, gm_cle, gm_ifnull, gm_ifnonnull, gm_swk, gm_switch, gm_getI, gm_getR, gm_putI, gm_putZ, gm_putR, gm_new, gm_newarr, gm_iald, gm_cald, gm_zald, gm_lald, gm_aald, gm_iast, gm_cast, gm_zast, gm_last, gm_aast, gm_acp, gm_oinit, gm_back, gm_scall, gm_vcall, gm_iret, gm_zret, gm_cret, gm_lret, gm_aret, gm_vret, gm_slen, gm_schar, gm_sidx, gm_lget, gm_lset, gm_nl, gm_ent, gm_wd, gm_pop, gm_pad, gm_xl_c, gm_alen_u, gm_1_sF, gm_1_sA, gm_1_cp, gm_len_sF, gm_len_sA, gm_len_cp, Bool.or_true, Bool.true_or, gm_max_u, gm_min_u, gm_isO_sF, gm_isO_sA, gm_isO_cp, gm_gF_sF, gm_gF_sA, gm_gA_sF, gm_gA_sA, gm_gF_cp, gm_gA_cp, gm_add, gm_sub, gm_mul, gm_neg, ↓reduceIte, Nat.reduceAdd, Nat.reduceLeDiff, true_and, and_true, and_self, true_or, or_true, false_and, and_false, false_or, or_false, eq_self, Nat.reduceEqDiff, Int.reduceEq, Int.reduceLT, Int.reduceLE, Int.reduceNeg, Int.reduceAdd, Int.reduceSub, Int.reduceMul, Int.reduceDiv, Int.reduceMod, reduceCtorEq, if_true, if_false, gm_w_id, xX8_turn_0, xX8_turn_1, xX8_turn_2, xX8_turn_4, xX8_turn_5, xX8_turn_6, xX8_turn_7, gm_bst]
  | succ k ih =>
    intro f x b l8 M1 he hf hx hk hb1 hb2
    obtain ⟨f, rfl⟩ : ∃ g, f = g + 4 := ⟨f - 4, by omega⟩
    obtain ⟨c1, c2, c3, c4, c5, c6, c7, c8, c9, c10, c11, c12, c13⟩ := gm_cx hI he
    have hb := he.bec 74 (8 + 3 * n) (Or.inl rfl)
    obtain ⟨b1, b2, b3, b4, b5, b6, b7, b8, b9, b10, b11, b12, b13⟩ := gm_cx hI hb
    have hbc := c12 (d + 4) n 74 h1 h2 (Or.inl rfl)
    have hpk := hqq
    have e := gm_cntT hI he d h1 h2 (Or.inl rfl : (74 : Int) = 74 ∨ (74 : Int) = 77) (days := 56) (turned := x) (by decide) (by omega) hpk rfl
    rw [gm_bec_hs he h1 (by omega)] at e
    have e' := e
    have hc : (gm_cnt (gm_st M n x) (gm_am0 M) (Int.toNat 56) 1 (gm_qq M (8 + 3 * n))).1 = gm_cT M n x (gm_qq M (8 + 3 * n)) := rfl
    rw [hc] at e
    have hcb := gm_cT_b M n x (gm_qq M (8 + 3 * n))
    have he2 := hb.hs 74 75 (gm_cnt (gm_st M n x) (gm_am0 M) (Int.toNat 56) 1 (gm_qq M (8 + 3 * n))).2.1 (gm_cnt (gm_st M n x) (gm_am0 M) (Int.toNat 56) 1 (gm_qq M (8 + 3 * n))).2.2 (by omega) (by omega)
    have hx9 : ¬ 28 < x := by omega
    by_cases hlt : gm_cT M n x (gm_qq M (8 + 3 * n)) < b.2
    · obtain ⟨M3, he3, e3⟩ := ih (f + 2) (x + 1) (x, gm_cT M n x (gm_qq M (8 + 3 * n))) (some (.inl (gm_cT M n x (gm_qq M (8 + 3 * n))))) _ he2 (by omega) (by omega) (by omega) ⟨by omega, by omega⟩ ⟨by omega, by omega⟩
      refine ⟨M3, he3, ?_⟩
      rw [xX8_turn_3]
      simp (config := { maxSteps := 2000000 }) (disch := first | omega | assumption | (simp only [gm_isO_sF, gm_isO_sA, gm_isO_cp]; assumption)) only [gm_push, gm_iload, gm_lload, gm_aload, gm_istore, gm_astore, gm_iinc, gm_op2, gm_quo, gm_op1, gm_lop2, gm_lshl, gm_i2l, gm_l2i, gm_lcmp, gm_dup, gm_pop1, gm_dup2, gm_goto, gm_ifeq, gm_ifne, gm_iflt, gm_ifge, gm_ifgt, gm_ifle, gm_ceq, gm_cne, gm_clt, gm_cge, gm_cgt, gm_cle, gm_ifnull, gm_ifnonnull, gm_swk, gm_switch, gm_getI, gm_getR, gm_putI, gm_putZ, gm_putR, gm_new, gm_newarr, gm_iald, gm_cald, gm_zald, gm_lald, gm_aald, gm_iast, gm_cast, gm_zast, gm_last, gm_aast, gm_acp, gm_oinit, gm_back, gm_scall, gm_vcall, gm_iret, gm_zret, gm_cret, gm_lret, gm_aret, gm_vret, gm_slen, gm_schar, gm_sidx, gm_lget, gm_lset, gm_nl, gm_ent, gm_wd, gm_pop, gm_pad, gm_xl_c, gm_alen_u, gm_1_sF, gm_1_sA, gm_1_cp, gm_len_sF, gm_len_sA, gm_len_cp, Bool.or_true, Bool.true_or, gm_max_u, gm_min_u, gm_isO_sF, gm_isO_sA, gm_isO_cp, gm_gF_sF, gm_gF_sA, gm_gA_sF, gm_gA_sA, gm_gF_cp, gm_gA_cp, gm_add, gm_sub, gm_mul, gm_neg, ↓reduceIte, Nat.reduceAdd, Nat.reduceLeDiff, true_and, and_true, and_self, true_or, or_true, false_and, and_false, false_or, or_false, eq_self, Nat.reduceEqDiff, Int.reduceEq, Int.reduceLT, Int.reduceLE, Int.reduceNeg, Int.reduceAdd, Int.reduceSub, Int.reduceMul, Int.reduceDiv, Int.reduceMod, reduceCtorEq, if_true, if_false, gm_w_id, xX8_turn_0, xX8_turn_1, xX8_turn_2, xX8_turn_4, xX8_turn_5, xX8_turn_6, xX8_turn_7, c1, c2, c3, c5, c7, hbc, b1, b2, b3, b5, b7, b8, hx9, e, hlt]
      rw [gm_bst, if_pos hlt]
      exact e3
    · obtain ⟨M3, he3, e3⟩ := ih (f + 2) (x + 1) b (some (.inl (gm_cT M n x (gm_qq M (8 + 3 * n))))) _ he2 (by omega) (by omega) (by omega) hb1 hb2
      refine ⟨M3, he3, ?_⟩
      rw [xX8_turn_3]
      simp (config := { maxSteps := 2000000 }) (disch := first | omega | assumption | (simp only [gm_isO_sF, gm_isO_sA, gm_isO_cp]; assumption)) only [gm_push, gm_iload, gm_lload, gm_aload, gm_istore, gm_astore, gm_iinc, gm_op2, gm_quo, gm_op1, gm_lop2, gm_lshl, gm_i2l, gm_l2i, gm_lcmp, gm_dup, gm_pop1, gm_dup2, gm_goto, gm_ifeq, gm_ifne, gm_iflt, gm_ifge, gm_ifgt, gm_ifle, gm_ceq, gm_cne, gm_clt, gm_cge, gm_cgt, gm_cle, gm_ifnull, gm_ifnonnull, gm_swk, gm_switch, gm_getI, gm_getR, gm_putI, gm_putZ, gm_putR, gm_new, gm_newarr, gm_iald, gm_cald, gm_zald, gm_lald, gm_aald, gm_iast, gm_cast, gm_zast, gm_last, gm_aast, gm_acp, gm_oinit, gm_back, gm_scall, gm_vcall, gm_iret, gm_zret, gm_cret, gm_lret, gm_aret, gm_vret, gm_slen, gm_schar, gm_sidx, gm_lget, gm_lset, gm_nl, gm_ent, gm_wd, gm_pop, gm_pad, gm_xl_c, gm_alen_u, gm_1_sF, gm_1_sA, gm_1_cp, gm_len_sF, gm_len_sA, gm_len_cp, Bool.or_true, Bool.true_or, gm_max_u, gm_min_u, gm_isO_sF, gm_isO_sA, gm_isO_cp, gm_gF_sF, gm_gF_sA, gm_gA_sF, gm_gA_sA, gm_gF_cp, gm_gA_cp, gm_add, gm_sub, gm_mul, gm_neg, ↓reduceIte, Nat.reduceAdd, Nat.reduceLeDiff, true_and, and_true, and_self, true_or, or_true, false_and, and_false, false_or, or_false, eq_self, Nat.reduceEqDiff, Int.reduceEq, Int.reduceLT, Int.reduceLE, Int.reduceNeg, Int.reduceAdd, Int.reduceSub, Int.reduceMul, Int.reduceDiv, Int.reduceMod, reduceCtorEq, if_true, if_false, gm_w_id, xX8_turn_0, xX8_turn_1, xX8_turn_2, xX8_turn_4, xX8_turn_5, xX8_turn_6, xX8_turn_7, c1, c2, c3, c5, c7, hbc, b1, b2, b3, b5, b7, b8, hx9, e, hlt]
      rw [gm_bst, if_neg hlt]
      exact e3
theorem r_X8_turn (d : Nat) (n what : Int) (M : gm_M) (hI : gm_CI M) (hn : gm_i n) (hw : gm_i what) : ∃ M1, gm_Ec M M1 ∧ gm_go (d + 7) 70 [.inr (.inr 1), .inl n, .inl what] M = some (some (.inl (
    if 0 ≤ n ∧ n < gm_many M ∧ 0 ≤ what ∧ what ≤ 1 then (if what = 0 then (gm_bst (fun t => gm_cT M n t (gm_qq M (8 + 3 * n))) 1 28 1 (1, 57)).1 else (gm_bst (fun t => gm_cT M n t (gm_qq M (8 + 3 * n))) 1 28 1 (1, 57)).2) else -1)), M1) := by
  have he := gm_Ec.rf hI.1
  obtain ⟨c1, c2, c3, c4, c5, c6, c7, c8, c9, c10, c11, c12, c13⟩ := gm_cx hI he
  have h8 := c11 (d + 5) n hn
  have hwi := r_X8_within (d + 5) what 1 M
  rw [gm_wi hw, gm_w_id (x := 1) (by decide) (by decide)] at hwi
  rw [eX8_turn _ _ _ (Nat.le_of_ble_eq_true rfl), xX8_turn_0]
  unfold gm_ho at h8
  by_cases h : 0 ≤ n ∧ n < gm_many M
  · rw [if_pos h] at h8
    have hpos : ¬ (8 + 3 * n ≤ 0) := by omega
    by_cases hw2 : 0 ≤ what ∧ what ≤ 1
    · rw [if_neg (by omega), if_neg (by omega)] at hwi
      obtain ⟨M2, he2, e⟩ := r_X8_turn_loop d M hI n what h.1 h.2 (by omega) 28 99998 1 (1, 57) none M he (by omega) (by omega) (by omega) (by decide) (by decide)
      refine ⟨M2, he2, ?_⟩
      rw [if_pos ⟨h.1, h.2, hw2⟩]
      simp (config := { maxSteps := 2000000 }) (disch := first | omega | assumption | (simp only [gm_isO_sF, gm_isO_sA, gm_isO_cp]; assumption)) only [gm_push, gm_iload, gm_lload, gm_aload, gm_istore, gm_astore, gm_iinc, gm_op2, gm_quo, gm_op1, gm_lop2, gm_lshl, gm_i2l, gm_l2i, gm_lcmp, gm_dup, gm_pop1, gm_dup2, gm_goto, gm_ifeq, gm_ifne, gm_iflt, gm_ifge, gm_ifgt, gm_ifle, gm_ceq, gm_cne, gm_clt, gm_cge, gm_cgt, gm_cle, gm_ifnull, gm_ifnonnull, gm_swk, gm_switch, gm_getI, gm_getR, gm_putI, gm_putZ, gm_putR, gm_new, gm_newarr, gm_iald, gm_cald, gm_zald, gm_lald, gm_aald, gm_iast, gm_cast, gm_zast, gm_last, gm_aast, gm_acp, gm_oinit, gm_back, gm_scall, gm_vcall, gm_iret, gm_zret, gm_cret, gm_lret, gm_aret, gm_vret, gm_slen, gm_schar, gm_sidx, gm_lget, gm_lset, gm_nl, gm_ent, gm_wd, gm_pop, gm_pad, gm_xl_c, gm_alen_u, gm_1_sF, gm_1_sA, gm_1_cp, gm_len_sF, gm_len_sA, gm_len_cp, Bool.or_true, Bool.true_or, gm_max_u, gm_min_u, gm_isO_sF, gm_isO_sA, gm_isO_cp, gm_gF_sF, gm_gF_sA, gm_gA_sF, gm_gA_sA, gm_gF_cp, gm_gA_cp, gm_add, gm_sub, gm_mul, gm_neg, ↓reduceIte, Nat.reduceAdd, Nat.reduceLeDiff, true_and, and_true, and_self, true_or, or_true, false_and, and_false, false_or, or_false, eq_self, Nat.reduceEqDiff, Int.reduceEq, Int.reduceLT, Int.reduceLE, Int.reduceNeg, Int.reduceAdd, Int.reduceSub, Int.reduceMul, Int.reduceDiv, Int.reduceMod, reduceCtorEq, if_true, if_false, gm_w_id, xX8_turn_0, xX8_turn_1, xX8_turn_2, xX8_turn_4, xX8_turn_5, xX8_turn_6, xX8_turn_7, c1, h8, hpos, hwi, c10, e]
    · refine ⟨M, he, ?_⟩
      rw [if_neg (fun z => hw2 z.2.2)]
      have hwi' : gm_go (d + 6) 90 [.inl what, .inl 1] M = some (some (.inl 0), M) := by
        rw [hwi]
        by_cases q : what < 0
        · rw [if_pos q]
        · rw [if_neg q, if_pos (by omega)]
      simp (config := { maxSteps := 2000000 }) (disch := first | omega | assumption | (simp only [gm_isO_sF, gm_isO_sA, gm_isO_cp]; assumption)) only [gm_push, gm_iload, gm_lload, gm_aload, gm_istore, gm_astore, gm_iinc, gm_op2, gm_quo, gm_op1, gm_lop2, gm_lshl, gm_i2l, gm_l2i, gm_lcmp, gm_dup, gm_pop1, gm_dup2, gm_goto, gm_ifeq, gm_ifne, gm_iflt, gm_ifge, gm_ifgt, gm_ifle, gm_ceq, gm_cne, gm_clt, gm_cge, gm_cgt, gm_cle, gm_ifnull, gm_ifnonnull, gm_swk, gm_switch, gm_getI, gm_getR, gm_putI, gm_putZ, gm_putR, gm_new, gm_newarr, gm_iald, gm_cald, gm_zald, gm_lald, gm_aald, gm_iast, gm_cast, gm_zast, gm_last, gm_aast, gm_acp, gm_oinit, gm_back, gm_scall, gm_vcall, gm_iret, gm_zret, gm_cret, gm_lret, gm_aret, gm_vret, gm_slen, gm_schar, gm_sidx, gm_lget, gm_lset, gm_nl, gm_ent, gm_wd, gm_pop, gm_pad, gm_xl_c, gm_alen_u, gm_1_sF, gm_1_sA, gm_1_cp, gm_len_sF, gm_len_sA, gm_len_cp, Bool.or_true, Bool.true_or, gm_max_u, gm_min_u, gm_isO_sF, gm_isO_sA, gm_isO_cp, gm_gF_sF, gm_gF_sA, gm_gA_sF, gm_gA_sA, gm_gF_cp, gm_gA_cp, gm_add, gm_sub, gm_mul, gm_neg, ↓reduceIte, Nat.reduceAdd, Nat.reduceLeDiff, true_and, and_true, and_self, true_or, or_true, false_and, and_false, false_or, or_false, eq_self, Nat.reduceEqDiff, Int.reduceEq, Int.reduceLT, Int.reduceLE, Int.reduceNeg, Int.reduceAdd, Int.reduceSub, Int.reduceMul, Int.reduceDiv, Int.reduceMod, reduceCtorEq, if_true, if_false, gm_w_id, xX8_turn_0, xX8_turn_1, xX8_turn_2, xX8_turn_4, xX8_turn_5, xX8_turn_6, xX8_turn_7, c1, h8, hpos, hwi', c10]
  · refine ⟨M, he, ?_⟩
    rw [if_neg h] at h8
    rw [if_neg (fun z => h ⟨z.1, z.2.1⟩)]
    simp (config := { maxSteps := 2000000 }) (disch := first | omega | assumption | (simp only [gm_isO_sF, gm_isO_sA, gm_isO_cp]; assumption)) only [gm_push, gm_iload, gm_lload, gm_aload, gm_istore, gm_astore, gm_iinc, gm_op2, gm_quo, gm_op1, gm_lop2, gm_lshl, gm_i2l, gm_l2i, gm_lcmp, gm_dup, gm_pop1, gm_dup2, gm_goto, gm_ifeq, gm_ifne, gm_iflt, gm_ifge, gm_ifgt, gm_ifle, gm_ceq, gm_cne, gm_clt, gm_cge, gm_cgt, gm_cle, gm_ifnull, gm_ifnonnull, gm_swk, gm_switch, gm_getI, gm_getR, gm_putI, gm_putZ, gm_putR, gm_new, gm_newarr, gm_iald, gm_cald, gm_zald, gm_lald, gm_aald, gm_iast, gm_cast, gm_zast, gm_last, gm_aast, gm_acp, gm_oinit, gm_back, gm_scall, gm_vcall, gm_iret, gm_zret, gm_cret, gm_lret, gm_aret, gm_vret, gm_slen, gm_schar, gm_sidx, gm_lget, gm_lset, gm_nl, gm_ent, gm_wd, gm_pop, gm_pad, gm_xl_c, gm_alen_u, gm_1_sF, gm_1_sA, gm_1_cp, gm_len_sF, gm_len_sA, gm_len_cp, Bool.or_true, Bool.true_or, gm_max_u, gm_min_u, gm_isO_sF, gm_isO_sA, gm_isO_cp, gm_gF_sF, gm_gF_sA, gm_gA_sF, gm_gA_sA, gm_gF_cp, gm_gA_cp, gm_add, gm_sub, gm_mul, gm_neg, ↓reduceIte, Nat.reduceAdd, Nat.reduceLeDiff, true_and, and_true, and_self, true_or, or_true, false_and, and_false, false_or, or_false, eq_self, Nat.reduceEqDiff, Int.reduceEq, Int.reduceLT, Int.reduceLE, Int.reduceNeg, Int.reduceAdd, Int.reduceSub, Int.reduceMul, Int.reduceDiv, Int.reduceMod, reduceCtorEq, if_true, if_false, gm_w_id, xX8_turn_0, xX8_turn_1, xX8_turn_2, xX8_turn_4, xX8_turn_5, xX8_turn_6, xX8_turn_7, c1, h8]
