/-! THE CLASS: on, full, dry -/
theorem r_within {d : Nat} {x most : Int} (hx : gm_i x) (hm : gm_i most) (M : gm_M) : gm_go (d + 1) 90 [.inl x, .inl most] M = some (some (.inl (if 0 ≤ x ∧ x ≤ most then 1 else 0)), M) := by
  rw [r_X8_within, gm_wi hx, gm_wi hm]
  by_cases h1 : x < 0
  · rw [if_pos h1, if_neg (by omega)]
  · by_cases h2 : most < x
    · rw [if_neg h1, if_pos h2, if_neg (by omega)]
    · rw [if_neg h1, if_neg h2, if_pos (by omega)]
theorem r_X8_on (d : Nat) (n k what : Int) (M : gm_M) (hI : gm_CI M) (hn : gm_i n) (hk : gm_i k) (hw : gm_i what) {r : Int × (Int × Int)} (hr : gm_cnt (gm_st M n 0) (gm_am0 M) k.toNat 1 (gm_qq M (8 + 3 * n)) = r) : ∃ M1, gm_Ec M M1 ∧ gm_go (d + 7) 62 [.inr (.inr 1), .inl n, .inl k, .inl what] M = some (some (.inl (
    if 0 ≤ n ∧ n < gm_many M ∧ 0 ≤ what ∧ what ≤ 2 then (if 0 ≤ k ∧ k ≤ 60 then (if what = 0 then r.2.1 else if what = 1 then r.2.2 else r.1) else -2) else -1)), M1) := by
  have hm := hI.2.1
  have he := gm_Ec.rf hI.1
  obtain ⟨c1, c2, c3, c4, c5, c6, c7, c8, c9, c10, c11, c12, c13⟩ := gm_cx hI he
  have h8 := c11 (d + 5) n hn
  have hwi := r_within (d := d + 5) hw (most := 2) ⟨by decide, by decide⟩ M
  have hki := r_within (d := d + 5) hk (most := 60) ⟨by decide, by decide⟩ M
  rw [eX8_on _ _ _ (Nat.le_of_ble_eq_true rfl)]
  unfold gm_ho at h8
  by_cases h : 0 ≤ n ∧ n < gm_many M
  · rw [if_pos h] at h8
    have hpos : ¬ (8 + 3 * n ≤ 0) := by omega
    by_cases hw2 : 0 ≤ what ∧ what ≤ 2
    · rw [if_pos hw2] at hwi
      rw [if_pos ⟨h.1, h.2, hw2⟩]
      by_cases hk2 : 0 ≤ k ∧ k ≤ 60
      · rw [if_pos hk2] at hki
        rw [if_pos hk2]
        have hb := he.bec 74 (8 + 3 * n) (Or.inl rfl)
        obtain ⟨b1, b2, b3, b4, b5, b6, b7, b8, b9, b10, b11, b12, b13⟩ := gm_cx hI hb
        have hbc := c12 (d + 4) n 74 h.1 h.2 (Or.inl rfl)
        have e := gm_cntT hI he d h.1 h.2 (Or.inl rfl : (74 : Int) = 74 ∨ (74 : Int) = 77) (days := k) (turned := 0) (by omega) (by decide) (gm_qq_ok (hI.ho h.1 h.2).2) hr
        rw [gm_bec_hs he h.1 (by omega)] at e
        have hb10 := b10 (d + 5)
        have he2 := hb.hs 74 75 r.2.1 r.2.2 (by omega) (by omega)
        refine ⟨_, he2, ?_⟩
        obtain ⟨p1, p2, p3, p4, p5, p6, p7, p8, p9, p10, p11, p12, p13⟩ := gm_cx hI he2
        have f1 : gm_gF (gm_hs (gm_bec M 74 (8 + 3 * n)) 74 75 r.2.1 r.2.2) 203 74 = r.2.1 := rfl
        have f2 : gm_gF (gm_hs (gm_bec M 74 (8 + 3 * n)) 74 75 r.2.1 r.2.2) 500 75 = r.2.2 := rfl
        have f3 : gm_gF (gm_hs (gm_bec M 74 (8 + 3 * n)) 74 75 r.2.1 r.2.2) 205 74 = 75 := gm_l205 he2.1 p3
        have f4 : gm_isO 5 (gm_hs (gm_bec M 74 (8 + 3 * n)) 74 75 r.2.1 r.2.2) 75 = true := gm_k205 he2.1 p3
        have e' : gm_go (d + 6) 19 [.inr (.inr 74), .inr (.inr (gm_gr M)), .inl (gm_day M), .inl k, .inl 0] (gm_bec M 74 (8 + 3 * n)) = some (some (.inl r.1), gm_hs (gm_bec M 74 (8 + 3 * n)) 74 75 r.2.1 r.2.2) := e
        rcases (by omega : what = 0 ∨ what = 1 ∨ what = 2) with rfl | rfl | rfl
        all_goals
          simp (config := { maxSteps := 2000000 }) (disch := first | omega | assumption | (simp only [gm_isO_sF, gm_isO_sA, gm_isO_cp]; assumption)) only [gm_push, gm_iload, gm_lload, gm_aload, gm_istore, gm_astore, gm_iinc, gm_op2, gm_quo, gm_op1, gm_lop2, gm_lshl, gm_i2l, gm_l2i, gm_lcmp, gm_dup, gm_pop1, gm_dup2, gm_goto, gm_ifeq, gm_ifne, gm_iflt, gm_ifge, gm_ifgt, gm_ifle, gm_ceq, gm_cne, gm_clt, gm_cge, gm_cgt, gm_cle, gm_ifnull, gm_ifnonnull, gm_swk, gm_switch, gm_getI, gm_getR, gm_putI, gm_putZ, gm_putR, gm_new, gm_newarr, gm_iald, gm_cald, gm_zald, gm_lald, gm_aald, gm_iast, gm_cast, gm_zast, gm_last, gm_aast, gm_acp, gm_oinit, gm_back, gm_scall, gm_vcall, gm_iret, gm_zret, gm_cret, gm_lret, gm_aret, gm_vret, gm_slen, gm_schar, gm_sidx, gm_lget, gm_lset, gm_nl, gm_ent, gm_wd, gm_pop, gm_pad, gm_xl_c, gm_alen_u, gm_1_sF, gm_1_sA, gm_1_cp, gm_len_sF, gm_len_sA, gm_len_cp, Bool.or_true, Bool.true_or, gm_max_u, gm_min_u, gm_isO_sF, gm_isO_sA, gm_isO_cp, gm_gF_sF, gm_gF_sA, gm_gA_sF, gm_gA_sA, gm_gF_cp, gm_gA_cp, gm_add, gm_sub, gm_mul, gm_neg, ↓reduceIte, Nat.reduceAdd, Nat.reduceLeDiff, true_and, and_true, and_self, true_or, or_true, false_and, and_false, false_or, or_false, eq_self, Nat.reduceEqDiff, Int.reduceEq, Int.reduceLT, Int.reduceLE, Int.reduceNeg, Int.reduceAdd, Int.reduceSub, Int.reduceMul, Int.reduceDiv, Int.reduceMod, reduceCtorEq, if_true, if_false, gm_w_id, xX8_on_0, xX8_on_1, xX8_on_2, xX8_on_3, xX8_on_4, xX8_on_5, xX8_on_6, c1, c3, c5, h8, hpos, hwi, hki, hbc, hb10, b1, b2, b3, b5, b7, b8, e', p1, p3, p5, f1, f2, f3, f4]
      · refine ⟨M, he, ?_⟩
        rw [if_neg hk2] at hki
        rw [if_neg hk2]
        simp (config := { maxSteps := 2000000 }) (disch := first | omega | assumption | (simp only [gm_isO_sF, gm_isO_sA, gm_isO_cp]; assumption)) only [gm_push, gm_iload, gm_lload, gm_aload, gm_istore, gm_astore, gm_iinc, gm_op2, gm_quo, gm_op1, gm_lop2, gm_lshl, gm_i2l, gm_l2i, gm_lcmp, gm_dup, gm_pop1, gm_dup2, gm_goto, gm_ifeq, gm_ifne, gm_iflt, gm_ifge, gm_ifgt, gm_ifle, gm_ceq, gm_cne, gm_clt, gm_cge, gm_cgt, gm_cle, gm_ifnull, gm_ifnonnull, gm_swk, gm_switch, gm_getI, gm_getR, gm_putI, gm_putZ, gm_putR, gm_new, gm_newarr, gm_iald, gm_cald, gm_zald, gm_lald, gm_aald, gm_iast, gm_cast, gm_zast, gm_last, gm_aast, gm_acp, gm_oinit, gm_back, gm_scall, gm_vcall, gm_iret, gm_zret, gm_cret, gm_lret, gm_aret, gm_vret, gm_slen, gm_schar, gm_sidx, gm_lget, gm_lset, gm_nl, gm_ent, gm_wd, gm_pop, gm_pad, gm_xl_c, gm_alen_u, gm_1_sF, gm_1_sA, gm_1_cp, gm_len_sF, gm_len_sA, gm_len_cp, Bool.or_true, Bool.true_or, gm_max_u, gm_min_u, gm_isO_sF, gm_isO_sA, gm_isO_cp, gm_gF_sF, gm_gF_sA, gm_gA_sF, gm_gA_sA, gm_gF_cp, gm_gA_cp, gm_add, gm_sub, gm_mul, gm_neg, ↓reduceIte, Nat.reduceAdd, Nat.reduceLeDiff, true_and, and_true, and_self, true_or, or_true, false_and, and_false, false_or, or_false, eq_self, Nat.reduceEqDiff, Int.reduceEq, Int.reduceLT, Int.reduceLE, Int.reduceNeg, Int.reduceAdd, Int.reduceSub, Int.reduceMul, Int.reduceDiv, Int.reduceMod, reduceCtorEq, if_true, if_false, gm_w_id, xX8_on_0, xX8_on_1, xX8_on_2, xX8_on_3, xX8_on_4, xX8_on_5, xX8_on_6, c1, h8, hpos, hwi, hki]
    · refine ⟨M, he, ?_⟩
      rw [if_neg hw2] at hwi
      rw [if_neg (fun z => hw2 z.2.2)]
      simp (config := { maxSteps := 2000000 }) (disch := first | omega | assumption | (simp only [gm_isO_sF, gm_isO_sA, gm_isO_cp]; assumption)) only [gm_push, gm_iload, gm_lload, gm_aload, gm_istore, gm_astore, gm_iinc, gm_op2, gm_quo, gm_op1, gm_lop2, gm_lshl, gm_i2l, gm_l2i, gm_lcmp, gm_dup, gm_pop1, gm_dup2, gm_goto, gm_ifeq, gm_ifne, gm_iflt, gm_ifge, gm_ifgt, gm_ifle, gm_ceq, gm_cne, gm_clt, gm_cge, gm_cgt, gm_cle, gm_ifnull, gm_ifnonnull, gm_swk, gm_switch, gm_getI, gm_getR, gm_putI, gm_putZ, gm_putR, gm_new, gm_newarr, gm_iald, gm_cald, gm_zald, gm_lald, gm_aald, gm_iast, gm_cast, gm_zast, gm_last, gm_aast, gm_acp, gm_oinit, gm_back, gm_scall, gm_vcall, gm_iret, gm_zret, gm_cret, gm_lret, gm_aret, gm_vret, gm_slen, gm_schar, gm_sidx, gm_lget, gm_lset, gm_nl, gm_ent, gm_wd, gm_pop, gm_pad, gm_xl_c, gm_alen_u, gm_1_sF, gm_1_sA, gm_1_cp, gm_len_sF, gm_len_sA, gm_len_cp, Bool.or_true, Bool.true_or, gm_max_u, gm_min_u, gm_isO_sF, gm_isO_sA, gm_isO_cp, gm_gF_sF, gm_gF_sA, gm_gA_sF, gm_gA_sA, gm_gF_cp, gm_gA_cp, gm_add, gm_sub, gm_mul, gm_neg, ↓reduceIte, Nat.reduceAdd, Nat.reduceLeDiff, true_and, and_true, and_self, true_or, or_true, false_and, and_false, false_or, or_false, eq_self, Nat.reduceEqDiff, Int.reduceEq, Int.reduceLT, Int.reduceLE, Int.reduceNeg, Int.reduceAdd, Int.reduceSub, Int.reduceMul, Int.reduceDiv, Int.reduceMod, reduceCtorEq, if_true, if_false, gm_w_id, xX8_on_0, xX8_on_1, xX8_on_2, xX8_on_3, xX8_on_4, xX8_on_5, xX8_on_6, c1, h8, hpos, hwi]
  · refine ⟨M, he, ?_⟩
    rw [if_neg h] at h8
    rw [if_neg (fun z => h ⟨z.1, z.2.1⟩)]
    simp (config := { maxSteps := 2000000 }) (disch := first | omega | assumption | (simp only [gm_isO_sF, gm_isO_sA, gm_isO_cp]; assumption)) only [gm_push, gm_iload, gm_lload, gm_aload, gm_istore, gm_astore, gm_iinc, gm_op2, gm_quo, gm_op1, gm_lop2, gm_lshl, gm_i2l, gm_l2i, gm_lcmp, gm_dup, gm_pop1, gm_dup2, gm_goto, gm_ifeq, gm_ifne, gm_iflt, gm_ifge, gm_ifgt, gm_ifle, gm_ceq, gm_cne, gm_clt, gm_cge, gm_cgt, gm_cle, gm_ifnull, gm_ifnonnull, gm_swk, gm_switch, gm_getI, gm_getR, gm_putI, gm_putZ, gm_putR, gm_new, gm_newarr, gm_iald, gm_cald, gm_zald, gm_lald, gm_aald, gm_iast, gm_cast, gm_zast, gm_last, gm_aast, gm_acp, gm_oinit, gm_back, gm_scall, gm_vcall, gm_iret, gm_zret, gm_cret, gm_lret, gm_aret, gm_vret, gm_slen, gm_schar, gm_sidx, gm_lget, gm_lset, gm_nl, gm_ent, gm_wd, gm_pop, gm_pad, gm_xl_c, gm_alen_u, gm_1_sF, gm_1_sA, gm_1_cp, gm_len_sF, gm_len_sA, gm_len_cp, Bool.or_true, Bool.true_or, gm_max_u, gm_min_u, gm_isO_sF, gm_isO_sA, gm_isO_cp, gm_gF_sF, gm_gF_sA, gm_gA_sF, gm_gA_sA, gm_gF_cp, gm_gA_cp, gm_add, gm_sub, gm_mul, gm_neg, ↓reduceIte, Nat.reduceAdd, Nat.reduceLeDiff, true_and, and_true, and_self, true_or, or_true, false_and, and_false, false_or, or_false, eq_self, Nat.reduceEqDiff, Int.reduceEq, Int.reduceLT, Int.reduceLE, Int.reduceNeg, Int.reduceAdd, Int.reduceSub, Int.reduceMul, Int.reduceDiv, Int.reduceMod, reduceCtorEq, if_true, if_false, gm_w_id, xX8_on_0, xX8_on_1, xX8_on_2, xX8_on_3, xX8_on_4, xX8_on_5, xX8_on_6, c1, h8]
/-- the first number from x on by which none is amiss -/
def gm_lst (c : Int → Int) : Nat → Int → Int
  | 0, _ => -5
  | k + 1, x => if c x = -5 then x else gm_lst c k (x + 1)
def gm_f56 (M : gm_M) (n : Int) (q : Int × Int) : Int := gm_fst (gm_st M n 0) (gm_am0 M) 56 1 q
theorem gm_f56_b (M : gm_M) (n : Int) (q : Int × Int) : -5 ≤ gm_f56 M n q ∧ gm_f56 M n q ≤ 57 := gm_fst_b _ _ 56 1 q (by decide)
theorem r_X8_full_loop (d : Nat) (M : gm_M) (hI : gm_CI M) (n : Int) (h1 : 0 ≤ n) (h2 : n < gm_many M) : ∀ (k f : Nat) (x : Int) (M1 : gm_M), gm_Ec M M1 → 3 * (k + 2) ≤ f → x = gm_gF M 501 (8 + 3 * n + 1) + 1 - k → 0 ≤ x →
    ∃ M2, gm_Ec M M2 ∧ gm_ex (gm_go (d + 6)) qX8_full f 2 [some (.inr (.inr 1)), some (.inl n), some (.inr (.inr (8 + 3 * n))), some (.inr (.inr (gm_gr M))), some (.inl x)] [] M1 = some (some (.inl (gm_lst (fun x => gm_f56 M n ((gm_qq M (8 + 3 * n)).1, x)) k x)), M2) := by
  have hm := hI.2.1
  have hqq := gm_qq_ok (hI.ho h1 h2).2
  have hrm := (hI.ho h1 h2).2.2.2.2.2.2.1
  intro k
  induction k with
  | zero =>
    intro f x M1 he hf hx h0
    obtain ⟨f, rfl⟩ : ∃ g, f = g + 3 := ⟨f - 3, by omega⟩
    obtain ⟨c1, c2, c3, c4, c5, c6, c7, c8, c9, c10, c11, c12, c13⟩ := gm_cx hI he
    have c14 := c13 n h1 h2
    have l2 := gm_l205 he.1 c14
    have k2 := gm_k205 he.1 c14
    have r2 := he.2.1 501 (8 + 3 * n + 1) (by omega)
    refine ⟨M1, he, ?_⟩
    have h9 : gm_gF M 501 (8 + 3 * n + 1) < x := by omega
    rw [xX8_full_2]
    simp (config := { maxSteps := 2000000 }) (disch := first | omega | assumption | (simp only [gm_isO_sF, gm_isO_sA, gm_isO_cp]; assumption)) only [gm_push, gm_iload, gm_lload, gm_aload, gm_istore, gm_astore, gm_iinc, gm_op2, gm_quo, gm_op1, gm_lop2, gm_lshl, gm_i2l, gm_l2i, gm_lcmp, gm_dup, gm_pop1, gm_dup2, gm_goto, gm_ifeq, gm_ifne, gm_iflt, gm_ifge, gm_ifgt, gm_ifle, gm_ceq, gm_cne, gm_clt, gm_cge, gm_cgt, gm_cle, gm_ifnull, gm_ifnonnull, gm_swk, gm_switch, gm_getI, gm_getR, gm_putI, gm_putZ, gm_putR, gm_new, gm_newarr, gm_iald, gm_cald, gm_zald, gm_lald, gm_aald, gm_iast, gm_cast, gm_zast, gm_last, gm_aast, gm_acp, gm_oinit, gm_back, gm_scall, gm_vcall, gm_iret, gm_zret, gm_cret, gm_lret, gm_aret, gm_vret, gm_slen, gm_schar, gm_sidx, gm_lget, gm_lset, gm_nl, gm_ent, gm_wd, gm_pop, gm_pad, gm_xl_c, gm_alen_u, gm_1_sF, gm_1_sA, gm_1_cp, gm_len_sF, gm_len_sA, gm_len_cp, Bool.or_true, Bool.true_or, gm_max_u, gm_min_u, gm_isO_sF, gm_isO_sA, gm_isO_cp, gm_gF_sF, gm_gF_sA, gm_gA_sF, gm_gA_sA, gm_gF_cp, gm_gA_cp, gm_add, gm_sub, gm_mul, gm_neg, ↓reduceIte, Nat.reduceAdd, Nat.reduceLeDiff, true_and, and_true, and_self, true_or, or_true, false_and, and_false, false_or, or_false, eq_self, Nat.reduceEqDiff, Int.reduceEq, Int.reduceLT, Int.reduceLE, Int.reduceNeg, Int.reduceAdd, Int.reduceSub, Int.reduceMul, Int.reduceDiv, Int.reduceMod, reduceCtorEq, if_true, if_false, gm_w_id, xX8_full_0, xX8_full_1, xX8_full_3, xX8_full_4, c14, l2, k2, r2, h9, gm_lst]
  | succ k ih =>
    intro f x M1 he hf hx h0
    obtain ⟨f, rfl⟩ : ∃ g, f = g + 4 := ⟨f - 4, by omega⟩
    obtain ⟨c1, c2, c3, c4, c5, c6, c7, c8, c9, c10, c11, c12, c13⟩ := gm_cx hI he
    have c14 := c13 n h1 h2
    have l2 := gm_l205 he.1 c14
    have k2 := gm_k205 he.1 c14
    have r2 := he.2.1 501 (8 + 3 * n + 1) (by omega)
    have h9 : ¬ gm_gF M 501 (8 + 3 * n + 1) < x := by omega
    have hb := he.bec 74 (8 + 3 * n) (Or.inl rfl)
    obtain ⟨b1, b2, b3, b4, b5, b6, b7, b8, b9, b10, b11, b12, b13⟩ := gm_cx hI hb
    have hbc := c12 (d + 4) n 74 h1 h2 (Or.inl rfl)
    have f3 : gm_gF (gm_bec M1 74 (8 + 3 * n)) 205 74 = 75 := gm_l205 hb.1 b3
    have f4 : gm_isO 5 (gm_bec M1 74 (8 + 3 * n)) 75 = true := gm_k205 hb.1 b3
    obtain ⟨M2, he2, e⟩ := gm_fstT hI he d h1 h2 (Or.inl rfl : (74 : Int) = 74 ∨ (74 : Int) = 77) (q := ((gm_qq M (8 + 3 * n)).1, x)) ⟨hqq.1, ⟨h0, by omega⟩⟩
    rw [← gm_bec_h he h1 (by omega)] at e
    have e' : gm_go (d + 6) 18 [.inr (.inr 74), .inr (.inr (gm_gr M)), .inl (gm_day M)] (gm_sF (gm_bec M1 74 (8 + 3 * n)) 500 75 x) = some (some (.inl (gm_f56 M n ((gm_qq M (8 + 3 * n)).1, x))), M2) := e
    have fb := gm_f56_b M n ((gm_qq M (8 + 3 * n)).1, x)
    by_cases hz : gm_f56 M n ((gm_qq M (8 + 3 * n)).1, x) = -5
    · refine ⟨M2, he2, ?_⟩
      rw [xX8_full_2]
      rw [hz] at e'
      simp (config := { maxSteps := 2000000 }) (disch := first | omega | assumption | (simp only [gm_isO_sF, gm_isO_sA, gm_isO_cp]; assumption)) only [gm_push, gm_iload, gm_lload, gm_aload, gm_istore, gm_astore, gm_iinc, gm_op2, gm_quo, gm_op1, gm_lop2, gm_lshl, gm_i2l, gm_l2i, gm_lcmp, gm_dup, gm_pop1, gm_dup2, gm_goto, gm_ifeq, gm_ifne, gm_iflt, gm_ifge, gm_ifgt, gm_ifle, gm_ceq, gm_cne, gm_clt, gm_cge, gm_cgt, gm_cle, gm_ifnull, gm_ifnonnull, gm_swk, gm_switch, gm_getI, gm_getR, gm_putI, gm_putZ, gm_putR, gm_new, gm_newarr, gm_iald, gm_cald, gm_zald, gm_lald, gm_aald, gm_iast, gm_cast, gm_zast, gm_last, gm_aast, gm_acp, gm_oinit, gm_back, gm_scall, gm_vcall, gm_iret, gm_zret, gm_cret, gm_lret, gm_aret, gm_vret, gm_slen, gm_schar, gm_sidx, gm_lget, gm_lset, gm_nl, gm_ent, gm_wd, gm_pop, gm_pad, gm_xl_c, gm_alen_u, gm_1_sF, gm_1_sA, gm_1_cp, gm_len_sF, gm_len_sA, gm_len_cp, Bool.or_true, Bool.true_or, gm_max_u, gm_min_u, gm_isO_sF, gm_isO_sA, gm_isO_cp, gm_gF_sF, gm_gF_sA, gm_gA_sF, gm_gA_sA, gm_gF_cp, gm_gA_cp, gm_add, gm_sub, gm_mul, gm_neg, ↓reduceIte, Nat.reduceAdd, Nat.reduceLeDiff, true_and, and_true, and_self, true_or, or_true, false_and, and_false, false_or, or_false, eq_self, Nat.reduceEqDiff, Int.reduceEq, Int.reduceLT, Int.reduceLE, Int.reduceNeg, Int.reduceAdd, Int.reduceSub, Int.reduceMul, Int.reduceDiv, Int.reduceMod, reduceCtorEq, if_true, if_false, gm_w_id, xX8_full_0, xX8_full_1, xX8_full_3, xX8_full_4, c1, c3, c5, c14, l2, k2, r2, h9, hbc, b1, b2, b3, b5, b7, b8, f3, f4, e']
      rw [gm_lst, if_pos hz]
    · obtain ⟨M3, he3, e3⟩ := ih (f + 2) (x + 1) M2 he2 (by omega) (by omega) (by omega)
      refine ⟨M3, he3, ?_⟩
      rw [xX8_full_2]
      simp (config := { maxSteps := 2000000 }) (disch := first | omega | assumption | (simp only [gm_isO_sF, gm_isO_sA, gm_isO_cp]; assumption)) only [gm_push, gm_iload, gm_lload, gm_aload, gm_istore, gm_astore, gm_iinc, gm_op2, gm_quo, gm_op1, gm_lop2, gm_lshl, gm_i2l, gm_l2i, gm_lcmp, gm_dup, gm_pop1, gm_dup2, gm_goto, gm_ifeq, gm_ifne, gm_iflt, gm_ifge, gm_ifgt, gm_ifle, gm_ceq, gm_cne, gm_clt, gm_cge, gm_cgt, gm_cle, gm_ifnull, gm_ifnonnull, gm_swk, gm_switch, gm_getI, gm_getR, gm_putI, gm_putZ, gm_putR, gm_new, gm_newarr, gm_iald, gm_cald, gm_zald, gm_lald, gm_aald, gm_iast, gm_cast, gm_zast, gm_last, gm_aast, gm_acp, gm_oinit, gm_back, gm_scall, gm_vcall, gm_iret, gm_zret, gm_cret, gm_lret, gm_aret, gm_vret, gm_slen, gm_schar, gm_sidx, gm_lget, gm_lset, gm_nl, gm_ent, gm_wd, gm_pop, gm_pad, gm_xl_c, gm_alen_u, gm_1_sF, gm_1_sA, gm_1_cp, gm_len_sF, gm_len_sA, gm_len_cp, Bool.or_true, Bool.true_or, gm_max_u, gm_min_u, gm_isO_sF, gm_isO_sA, gm_isO_cp, gm_gF_sF, gm_gF_sA, gm_gA_sF, gm_gA_sA, gm_gF_cp, gm_gA_cp, gm_add, gm_sub, gm_mul, gm_neg, ↓reduceIte, Nat.reduceAdd, Nat.reduceLeDiff, true_and, and_true, and_self, true_or, or_true, false_and, and_false, false_or, or_false, eq_self, Nat.reduceEqDiff, Int.reduceEq, Int.reduceLT, Int.reduceLE, Int.reduceNeg, Int.reduceAdd, Int.reduceSub, Int.reduceMul, Int.reduceDiv, Int.reduceMod, reduceCtorEq, if_true, if_false, gm_w_id, xX8_full_0, xX8_full_1, xX8_full_3, xX8_full_4, c1, c3, c5, c14, l2, k2, r2, h9, hbc, b1, b2, b3, b5, b7, b8, f3, f4, e', hz]
      rw [gm_lst, if_neg hz]
      exact e3
theorem r_X8_full (d : Nat) (n : Int) (M : gm_M) (hI : gm_CI M) (hn : gm_i n) : ∃ M1, gm_Ec M M1 ∧ gm_go (d + 7) 66 [.inr (.inr 1), .inl n] M = some (some (.inl (
    if 0 ≤ n ∧ n < gm_many M then gm_lst (fun x => gm_f56 M n ((gm_qq M (8 + 3 * n)).1, x)) (gm_gF M 501 (8 + 3 * n + 1) + 1).toNat 0 else -1)), M1) := by
  have he := gm_Ec.rf hI.1
  obtain ⟨c1, c2, c3, c4, c5, c6, c7, c8, c9, c10, c11, c12, c13⟩ := gm_cx hI he
  have h8 := c11 (d + 5) n hn
  have hg := c10 (d + 5)
  rw [eX8_full _ _ _ (Nat.le_of_ble_eq_true rfl)]
  unfold gm_ho at h8
  by_cases h : 0 ≤ n ∧ n < gm_many M
  · rw [if_pos h] at h8
    have hrm := (hI.ho h.1 h.2).2.2.2.2.2.2.1
    have hpos : ¬ (8 + 3 * n ≤ 0) := by omega
    obtain ⟨M2, he2, e⟩ := r_X8_full_loop d M hI n h.1 h.2 (gm_gF M 501 (8 + 3 * n + 1) + 1).toNat 99998 0 M he (by omega) (by omega) (by omega)
    refine ⟨M2, he2, ?_⟩
    rw [if_pos h]
    simp (config := { maxSteps := 2000000 }) (disch := first | omega | assumption | (simp only [gm_isO_sF, gm_isO_sA, gm_isO_cp]; assumption)) only [gm_push, gm_iload, gm_lload, gm_aload, gm_istore, gm_astore, gm_iinc, gm_op2, gm_quo, gm_op1, gm_lop2, gm_lshl, gm_i2l, gm_l2i, gm_lcmp, gm_dup, gm_pop1, gm_dup2, gm_goto, gm_ifeq, gm_ifne, gm_iflt, gm_ifge, gm_ifgt, gm_ifle, gm_ceq, gm_cne, gm_clt, gm_cge, gm_cgt, gm_cle, gm_ifnull, gm_ifnonnull, gm_swk, gm_switch, gm_getI, gm_getR, gm_putI, gm_putZ, gm_putR, gm_new, gm_newarr, gm_iald, gm_cald, gm_zald, gm_lald, gm_aald, gm_iast, gm_cast, gm_zast, gm_last, gm_aast, gm_acp, gm_oinit, gm_back, gm_scall, gm_vcall, gm_iret, gm_zret, gm_cret, gm_lret, gm_aret, gm_vret, gm_slen, gm_schar, gm_sidx, gm_lget, gm_lset, gm_nl, gm_ent, gm_wd, gm_pop, gm_pad, gm_xl_c, gm_alen_u, gm_1_sF, gm_1_sA, gm_1_cp, gm_len_sF, gm_len_sA, gm_len_cp, Bool.or_true, Bool.true_or, gm_max_u, gm_min_u, gm_isO_sF, gm_isO_sA, gm_isO_cp, gm_gF_sF, gm_gF_sA, gm_gA_sF, gm_gA_sA, gm_gF_cp, gm_gA_cp, gm_add, gm_sub, gm_mul, gm_neg, ↓reduceIte, Nat.reduceAdd, Nat.reduceLeDiff, true_and, and_true, and_self, true_or, or_true, false_and, and_false, false_or, or_false, eq_self, Nat.reduceEqDiff, Int.reduceEq, Int.reduceLT, Int.reduceLE, Int.reduceNeg, Int.reduceAdd, Int.reduceSub, Int.reduceMul, Int.reduceDiv, Int.reduceMod, reduceCtorEq, if_true, if_false, gm_w_id, xX8_full_0, xX8_full_1, xX8_full_3, xX8_full_4, c1, h8, hpos, hg, e]
  · refine ⟨M, he, ?_⟩
    rw [if_neg h] at h8
    rw [if_neg h]
    simp (config := { maxSteps := 2000000 }) (disch := first | omega | assumption | (simp only [gm_isO_sF, gm_isO_sA, gm_isO_cp]; assumption)) only [gm_push, gm_iload, gm_lload, gm_aload, gm_istore, gm_astore, gm_iinc, gm_op2, gm_quo, gm_op1, gm_lop2, gm_lshl, gm_i2l, gm_l2i, gm_lcmp, gm_dup, gm_pop1, gm_dup2, gm_goto, gm_ifeq, gm_ifne, gm_iflt, gm_ifge, gm_ifgt, gm_ifle, gm_ceq, gm_cne, gm_clt, gm_cge, gm_cgt, gm_cle, gm_ifnull, gm_ifnonnull, gm_swk, gm_switch, gm_getI, gm_getR, gm_putI, gm_putZ, gm_putR, gm_new, gm_newarr, gm_iald, gm_cald, gm_zald, gm_lald, gm_aald, gm_iast, gm_cast, gm_zast, gm_last, gm_aast, gm_acp, gm_oinit, gm_back, gm_scall, gm_vcall, gm_iret, gm_zret, gm_cret, gm_lret, gm_aret, gm_vret, gm_slen, gm_schar, gm_sidx, gm_lget, gm_lset, gm_nl, gm_ent, gm_wd, gm_pop, gm_pad, gm_xl_c, gm_alen_u, gm_1_sF, gm_1_sA, gm_1_cp, gm_len_sF, gm_len_sA, gm_len_cp, Bool.or_true, Bool.true_or, gm_max_u, gm_min_u, gm_isO_sF, gm_isO_sA, gm_isO_cp, gm_gF_sF, gm_gF_sA, gm_gA_sF, gm_gA_sA, gm_gF_cp, gm_gA_cp, gm_add, gm_sub, gm_mul, gm_neg, ↓reduceIte, Nat.reduceAdd, Nat.reduceLeDiff, true_and, and_true, and_self, true_or, or_true, false_and, and_false, false_or, or_false, eq_self, Nat.reduceEqDiff, Int.reduceEq, Int.reduceLT, Int.reduceLE, Int.reduceNeg, Int.reduceAdd, Int.reduceSub, Int.reduceMul, Int.reduceDiv, Int.reduceMod, reduceCtorEq, if_true, if_false, gm_w_id, xX8_full_0, xX8_full_1, xX8_full_3, xX8_full_4, c1, h8]
