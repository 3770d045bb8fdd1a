/-! THE CLASS: gives, alike, lowest, odds -/
def gm_hp (n : Int) : Prop := 0 ≤ n
theorem r_X8_gives (d : Nat) (a b n : Int) (M : gm_M) (hI : gm_CI M) (ha : gm_i a) (hb : gm_i b) (hn : gm_i n) (hrm : ∀ h, 0 ≤ h → h < gm_many M → (gm_qq M (8 + 3 * h)).2 ≤ gm_roo M h) :
    ∃ M1, gm_Ec M M1 ∧ gm_go (d + 8) 69 [.inr (.inr 1), .inl a, .inl b, .inl n] M = some (some (.inl (
    if (0 ≤ a ∧ a < gm_many M) ∧ 0 ≤ b ∧ b < gm_many M then (if a = b ∨ ¬ (0 ≤ n ∧ n ≤ 99) then -1002 else gm_both M a b 0 - gm_both M a b (min n (min (gm_qq M (8 + 3 * a)).2 (gm_roo M b - (gm_qq M (8 + 3 * b)).2)))) else -1001)), M1) := by
  have he := gm_Ec.rf hI.1
  obtain ⟨c1, c2, c3, c4, c5, c6, c7, c8, c9, c10, c11, c12, c13⟩ := gm_cx hI he
  have h8 := c11 (d + 6) a ha
  have h9 := c11 (d + 6) b hb
  have hm := hI.2.1
  have hwi := r_within (d := d + 6) hn (most := 99) ⟨by decide, by decide⟩ M
  rw [eX8_gives _ _ _ (Nat.le_of_ble_eq_true rfl)]
  unfold gm_ho at h8 h9
  by_cases h : 0 ≤ a ∧ a < gm_many M
  · rw [if_pos h] at h8
    have hpa : ¬ (8 + 3 * a ≤ 0) := by omega
    by_cases h' : 0 ≤ b ∧ b < gm_many M
    · rw [if_pos h'] at h9
      rw [if_pos ⟨h, h'⟩]
      have hpb : ¬ (8 + 3 * b ≤ 0) := by omega
      by_cases hab : a = b
      · rw [if_pos (Or.inl hab)]
        refine ⟨M, he, ?_⟩
        subst hab
        simp (config := { maxSteps := 2000000 }) (disch := first | omega | assumption | (simp only [gm_isO_sF, gm_isO_sA, gm_isO_cp]; assumption)) only [gm_push, gm_iload, gm_lload, gm_aload, gm_istore, gm_astore, gm_iinc, gm_op2, gm_quo, gm_op1, gm_lop2, gm_lshl, gm_i2l, gm_l2i, gm_lcmp, gm_dup, gm_pop1, gm_dup2, gm_goto, gm_ifeq, gm_ifne, gm_iflt, gm_ifge, gm_ifgt, gm_ifle, gm_ceq, gm_cne, gm_clt, gm_cge, gm_cgt, gm_cle, gm_ifnull, gm_ifnonnull, gm_swk, gm_switch, gm_getI, gm_getR, gm_putI, gm_putZ, gm_putR, gm_new, gm_newarr, gm_iald, gm_cald, gm_zald, gm_lald, gm_aald, gm_iast, gm_cast, gm_zast, gm_last, gm_aast, gm_acp, gm_oinit, gm_back, gm_scall, gm_vcall, gm_iret, gm_zret, gm_cret, gm_lret, gm_aret, gm_vret, gm_slen, gm_schar, gm_sidx, gm_lget, gm_lset, gm_nl, gm_ent, gm_wd, gm_pop, gm_pad, gm_xl_c, gm_alen_u, gm_1_sF, gm_1_sA, gm_1_cp, gm_len_sF, gm_len_sA, gm_len_cp, Bool.or_true, Bool.true_or, gm_max_u, gm_min_u, gm_isO_sF, gm_isO_sA, gm_isO_cp, gm_gF_sF, gm_gF_sA, gm_gA_sF, gm_gA_sA, gm_gF_cp, gm_gA_cp, gm_add, gm_sub, gm_mul, gm_neg, ↓reduceIte, Nat.reduceAdd, Nat.reduceLeDiff, true_and, and_true, and_self, true_or, or_true, false_and, and_false, false_or, or_false, eq_self, Nat.reduceEqDiff, Int.reduceEq, Int.reduceLT, Int.reduceLE, Int.reduceNeg, Int.reduceAdd, Int.reduceSub, Int.reduceMul, Int.reduceDiv, Int.reduceMod, reduceCtorEq, if_true, if_false, gm_w_id, xX8_gives_0, xX8_gives_1, xX8_gives_2, xX8_gives_3, xX8_gives_4, c1, h8, hpa]
      · by_cases hw : 0 ≤ n ∧ n ≤ 99
        · rw [if_neg (by omega)]
          rw [if_pos hw] at hwi
          have qa := gm_qq_ok (hI.ho h.1 h.2).2
          have qb := gm_qq_ok (hI.ho h'.1 h'.2).2
          have rb := (hI.ho h'.1 h'.2).2.2.2.2.2.2.1
          have hq1 := hrm b h'.1 h'.2
          obtain ⟨M1, he1, e1⟩ := r_X8_both d M M hI he a b 0 h.1 h.2 h'.1 h'.2 (by omega) (by have := qa.2; omega) (by have := qb.2; omega)
          have hgift : 0 ≤ min n (min (gm_qq M (8 + 3 * a)).2 (gm_roo M b - (gm_qq M (8 + 3 * b)).2)) := by have := qa.2; omega
          have rb' : 0 ≤ gm_roo M b ∧ gm_roo M b ≤ 5000 := rb
          obtain ⟨M2, he2, e2⟩ := r_X8_both d M M1 hI he1 a b (min n (min (gm_qq M (8 + 3 * a)).2 (gm_roo M b - (gm_qq M (8 + 3 * b)).2))) h.1 h.2 h'.1 h'.2 (by have := qa.2; omega) (by have := qa.2; omega) (by have := qb.2; omega)
          obtain ⟨p1, p2, p3, p4, p5, p6, p7, p8, p9, p10, p11, p12, p13⟩ := gm_cx hI he1
          have ga := p13 a h.1 h.2
          have gb := p13 b h'.1 h'.2
          have la := gm_l205 he1.1 ga
          have ka := gm_k205 he1.1 ga
          have lb := gm_l205 he1.1 gb
          have kb := gm_k205 he1.1 gb
          have f1 : gm_gF M1 500 (8 + 3 * a + 1) = (gm_qq M (8 + 3 * a)).2 := he1.2.1 500 _ (by omega)
          have f2 : gm_gF M1 500 (8 + 3 * b + 1) = (gm_qq M (8 + 3 * b)).2 := he1.2.1 500 _ (by omega)
          have f3 : gm_gF M1 501 (8 + 3 * b + 1) = gm_roo M b := he1.2.1 501 _ (by omega)
          have m1 : gm_mn (gm_qq M (8 + 3 * a)).2 (gm_roo M b - (gm_qq M (8 + 3 * b)).2) = min (gm_qq M (8 + 3 * a)).2 (gm_roo M b - (gm_qq M (8 + 3 * b)).2) := gm_mn_id ⟨by have := qa.2; omega, by have := qa.2; omega⟩ ⟨by have := qb.2; omega, by have := qb.2; omega⟩
          have m2 : gm_mn n (min (gm_qq M (8 + 3 * a)).2 (gm_roo M b - (gm_qq M (8 + 3 * b)).2)) = min n (min (gm_qq M (8 + 3 * a)).2 (gm_roo M b - (gm_qq M (8 + 3 * b)).2)) := gm_mn_id hn ⟨by have := qa.2; omega, by have := qa.2; omega⟩
          refine ⟨M2, he2, ?_⟩
          simp (config := { maxSteps := 2000000 }) (disch := first | omega | assumption | (simp only [gm_isO_sF, gm_isO_sA, gm_isO_cp]; assumption)) only [gm_push, gm_iload, gm_lload, gm_aload, gm_istore, gm_astore, gm_iinc, gm_op2, gm_quo, gm_op1, gm_lop2, gm_lshl, gm_i2l, gm_l2i, gm_lcmp, gm_dup, gm_pop1, gm_dup2, gm_goto, gm_ifeq, gm_ifne, gm_iflt, gm_ifge, gm_ifgt, gm_ifle, gm_ceq, gm_cne, gm_clt, gm_cge, gm_cgt, gm_cle, gm_ifnull, gm_ifnonnull, gm_swk, gm_switch, gm_getI, gm_getR, gm_putI, gm_putZ, gm_putR, gm_new, gm_newarr, gm_iald, gm_cald, gm_zald, gm_lald, gm_aald, gm_iast, gm_cast, gm_zast, gm_last, gm_aast, gm_acp, gm_oinit, gm_back, gm_scall, gm_vcall, gm_iret, gm_zret, gm_cret, gm_lret, gm_aret, gm_vret, gm_slen, gm_schar, gm_sidx, gm_lget, gm_lset, gm_nl, gm_ent, gm_wd, gm_pop, gm_pad, gm_xl_c, gm_alen_u, gm_1_sF, gm_1_sA, gm_1_cp, gm_len_sF, gm_len_sA, gm_len_cp, Bool.or_true, Bool.true_or, gm_max_u, gm_min_u, gm_isO_sF, gm_isO_sA, gm_isO_cp, gm_gF_sF, gm_gF_sA, gm_gA_sF, gm_gA_sA, gm_gF_cp, gm_gA_cp, gm_add, gm_sub, gm_mul, gm_neg, ↓reduceIte, Nat.reduceAdd, Nat.reduceLeDiff, true_and, and_true, and_self, true_or, or_true, false_and, and_false, false_or, or_false, eq_self, Nat.reduceEqDiff, Int.reduceEq, Int.reduceLT, Int.reduceLE, Int.reduceNeg, Int.reduceAdd, Int.reduceSub, Int.reduceMul, Int.reduceDiv, Int.reduceMod, reduceCtorEq, if_true, if_false, gm_w_id, xX8_gives_0, xX8_gives_1, xX8_gives_2, xX8_gives_3, xX8_gives_4, c1, h8, h9, hpa, hpb, hab, hwi, e1, ga, gb, la, ka, lb, kb, f1, f2, f3, m1, m2, p1, e2]
        · rw [if_pos (Or.inr hw)]
          rw [if_neg hw] at hwi
          refine ⟨M, he, ?_⟩
          simp (config := { maxSteps := 2000000 }) (disch := first | omega | assumption | (simp only [gm_isO_sF, gm_isO_sA, gm_isO_cp]; assumption)) only [gm_push, gm_iload, gm_lload, gm_aload, gm_istore, gm_astore, gm_iinc, gm_op2, gm_quo, gm_op1, gm_lop2, gm_lshl, gm_i2l, gm_l2i, gm_lcmp, gm_dup, gm_pop1, gm_dup2, gm_goto, gm_ifeq, gm_ifne, gm_iflt, gm_ifge, gm_ifgt, gm_ifle, gm_ceq, gm_cne, gm_clt, gm_cge, gm_cgt, gm_cle, gm_ifnull, gm_ifnonnull, gm_swk, gm_switch, gm_getI, gm_getR, gm_putI, gm_putZ, gm_putR, gm_new, gm_newarr, gm_iald, gm_cald, gm_zald, gm_lald, gm_aald, gm_iast, gm_cast, gm_zast, gm_last, gm_aast, gm_acp, gm_oinit, gm_back, gm_scall, gm_vcall, gm_iret, gm_zret, gm_cret, gm_lret, gm_aret, gm_vret, gm_slen, gm_schar, gm_sidx, gm_lget, gm_lset, gm_nl, gm_ent, gm_wd, gm_pop, gm_pad, gm_xl_c, gm_alen_u, gm_1_sF, gm_1_sA, gm_1_cp, gm_len_sF, gm_len_sA, gm_len_cp, Bool.or_true, Bool.true_or, gm_max_u, gm_min_u, gm_isO_sF, gm_isO_sA, gm_isO_cp, gm_gF_sF, gm_gF_sA, gm_gA_sF, gm_gA_sA, gm_gF_cp, gm_gA_cp, gm_add, gm_sub, gm_mul, gm_neg, ↓reduceIte, Nat.reduceAdd, Nat.reduceLeDiff, true_and, and_true, and_self, true_or, or_true, false_and, and_false, false_or, or_false, eq_self, Nat.reduceEqDiff, Int.reduceEq, Int.reduceLT, Int.reduceLE, Int.reduceNeg, Int.reduceAdd, Int.reduceSub, Int.reduceMul, Int.reduceDiv, Int.reduceMod, reduceCtorEq, if_true, if_false, gm_w_id, xX8_gives_0, xX8_gives_1, xX8_gives_2, xX8_gives_3, xX8_gives_4, c1, h8, h9, hpa, hpb, hab, hwi]
    · rw [if_neg h'] at h9
      rw [if_neg (fun z => h' z.2)]
      refine ⟨M, he, ?_⟩
      simp (config := { maxSteps := 2000000 }) (disch := first | omega | assumption | (simp only [gm_isO_sF, gm_isO_sA, gm_isO_cp]; assumption)) only [gm_push, gm_iload, gm_lload, gm_aload, gm_istore, gm_astore, gm_iinc, gm_op2, gm_quo, gm_op1, gm_lop2, gm_lshl, gm_i2l, gm_l2i, gm_lcmp, gm_dup, gm_pop1, gm_dup2, gm_goto, gm_ifeq, gm_ifne, gm_iflt, gm_ifge, gm_ifgt, gm_ifle, gm_ceq, gm_cne, gm_clt, gm_cge, gm_cgt, gm_cle, gm_ifnull, gm_ifnonnull, gm_swk, gm_switch, gm_getI, gm_getR, gm_putI, gm_putZ, gm_putR, gm_new, gm_newarr, gm_iald, gm_cald, gm_zald, gm_lald, gm_aald, gm_iast, gm_cast, gm_zast, gm_last, gm_aast, gm_acp, gm_oinit, gm_back, gm_scall, gm_vcall, gm_iret, gm_zret, gm_cret, gm_lret, gm_aret, gm_vret, gm_slen, gm_schar, gm_sidx, gm_lget, gm_lset, gm_nl, gm_ent, gm_wd, gm_pop, gm_pad, gm_xl_c, gm_alen_u, gm_1_sF, gm_1_sA, gm_1_cp, gm_len_sF, gm_len_sA, gm_len_cp, Bool.or_true, Bool.true_or, gm_max_u, gm_min_u, gm_isO_sF, gm_isO_sA, gm_isO_cp, gm_gF_sF, gm_gF_sA, gm_gA_sF, gm_gA_sA, gm_gF_cp, gm_gA_cp, gm_add, gm_sub, gm_mul, gm_neg, ↓reduceIte, Nat.reduceAdd, Nat.reduceLeDiff, true_and, and_true, and_self, true_or, or_true, false_and, and_false, false_or, or_false, eq_self, Nat.reduceEqDiff, Int.reduceEq, Int.reduceLT, Int.reduceLE, Int.reduceNeg, Int.reduceAdd, Int.reduceSub, Int.reduceMul, Int.reduceDiv, Int.reduceMod, reduceCtorEq, if_true, if_false, gm_w_id, xX8_gives_0, xX8_gives_1, xX8_gives_2, xX8_gives_3, xX8_gives_4, c1, h8, h9, hpa]
  · refine ⟨M, he, ?_⟩
    rw [if_neg h] at h8
    rw [if_neg (fun z => h z.1)]
    simp (config := { maxSteps := 2000000 }) (disch := first | omega | assumption | (simp only [gm_isO_sF, gm_isO_sA, gm_isO_cp]; assumption)) only [gm_push, gm_iload, gm_lload, gm_aload, gm_istore, gm_astore, gm_iinc, gm_op2, gm_quo, gm_op1, gm_lop2, gm_lshl, gm_i2l, gm_l2i, gm_lcmp, gm_dup, gm_pop1, gm_dup2, gm_goto, gm_ifeq, gm_ifne, gm_iflt, gm_ifge, gm_ifgt, gm_ifle, gm_ceq, gm_cne, gm_clt, gm_cge, gm_cgt, gm_cle, gm_ifnull, gm_ifnonnull, gm_swk, gm_switch, gm_getI, gm_getR, gm_putI, gm_putZ, gm_putR, gm_new, gm_newarr, gm_iald, gm_cald, gm_zald, gm_lald, gm_aald, gm_iast, gm_cast, gm_zast, gm_last, gm_aast, gm_acp, gm_oinit, gm_back, gm_scall, gm_vcall, gm_iret, gm_zret, gm_cret, gm_lret, gm_aret, gm_vret, gm_slen, gm_schar, gm_sidx, gm_lget, gm_lset, gm_nl, gm_ent, gm_wd, gm_pop, gm_pad, gm_xl_c, gm_alen_u, gm_1_sF, gm_1_sA, gm_1_cp, gm_len_sF, gm_len_sA, gm_len_cp, Bool.or_true, Bool.true_or, gm_max_u, gm_min_u, gm_isO_sF, gm_isO_sA, gm_isO_cp, gm_gF_sF, gm_gF_sA, gm_gA_sF, gm_gA_sA, gm_gF_cp, gm_gA_cp, gm_add, gm_sub, gm_mul, gm_neg, ↓reduceIte, Nat.reduceAdd, Nat.reduceLeDiff, true_and, and_true, and_self, true_or, or_true, false_and, and_false, false_or, or_false, eq_self, Nat.reduceEqDiff, Int.reduceEq, Int.reduceLT, Int.reduceLE, Int.reduceNeg, Int.reduceAdd, Int.reduceSub, Int.reduceMul, Int.reduceDiv, Int.reduceMod, reduceCtorEq, if_true, if_false, gm_w_id, xX8_gives_0, xX8_gives_1, xX8_gives_2, xX8_gives_3, xX8_gives_4, c1, h8, h9]
/-- how many days alike -/
def gm_alk (M : gm_M) (a b : Int) : Nat → Int → Int × Int → Int × Int → Int
  | 0, _, _, _ => 0
  | k + 1, x, q, r => (if gm_am0 M (gm_stD M a (gm_roo M a) (gm_lk M a) (gm_day M + x) 0 q).1 = gm_am0 M (gm_stD M b (gm_roo M b) (gm_lk M b) (gm_day M + x) 0 r).1 then 1 else 0) + gm_alk M a b k (x + 1) (gm_stD M a (gm_roo M a) (gm_lk M a) (gm_day M + x) 0 q) (gm_stD M b (gm_roo M b) (gm_lk M b) (gm_day M + x) 0 r)
theorem gm_am0_01 (M : gm_M) (w : Int) : gm_am0 M w = 0 ∨ gm_am0 M w = 1 := gm_am01 _ _ _
theorem r_X8_alike_loop (d : Nat) (M : gm_M) (hI : gm_CI M) (a b : Int) (a1 : 0 ≤ a) (a2 : a < gm_many M) (b1 : 0 ≤ b) (b2 : b < gm_many M) : ∀ (k f : Nat) (x s : Int) (q r : Int × Int) (M1 : gm_M), gm_Ec M M1 → gm_As M a 74 (gm_roo M a) (gm_lk M a) q M1 → gm_As M b 77 (gm_roo M b) (gm_lk M b) r M1 → 3 * (k + 2) ≤ f → x = 28 - k → 0 ≤ x → 0 ≤ s → s ≤ x →
    ∃ M2, gm_Ec M M2 ∧ gm_ex (gm_go (d + 5)) qX8_alike f 4 [some (.inr (.inr 1)), some (.inl a), some (.inl b), some (.inr (.inr (8 + 3 * a))), some (.inr (.inr (8 + 3 * b))), some (.inr (.inr (gm_gr M))), some (.inl s), some (.inl x)] [] M1 = some (some (.inl (s + gm_alk M a b k x q r)), M2) := by
  have hm := hI.2.1
  have hd := hI.2.2.1
  intro k
  induction k with
  | zero =>
    intro f x s q r M1 he hA hB hf hx h0 hs1 hs2
    obtain ⟨f, rfl⟩ : ∃ g, f = g + 3 := ⟨f - 3, by omega⟩
    refine ⟨M1, he, ?_⟩
    have hx' : x = 28 := by omega
    subst hx'
    rw [xX8_alike_4]
    simp (config := { maxSteps := 2000000 }) (disch := first | omega | assumption | (simp only [gm_isO_sF, gm_isO_sA, gm_isO_cp]; assumption)) only [gm_push, gm_iload, gm_lload, gm_aload, gm_istore, gm_astore, gm_iinc, gm_op2, gm_quo, gm_op1, gm_lop2, gm_lshl, gm_i2l, gm_l2i, gm_lcmp, gm_dup, gm_pop1, gm_dup2, gm_goto, gm_ifeq, gm_ifne, gm_iflt, gm_ifge, gm_ifgt, gm_ifle, gm_ceq, gm_cne, gm_clt, gm_cge, gm_cgt, gm_cle, gm_ifnull, gm_ifnonnull, gm_swk, gm_switch, gm_getI, gm_getR, gm_putI, gm_putZ, gm_putR, gm_new, gm_newarr, gm_iald, gm_cald, gm_zald, gm_lald, gm_aald, gm_iast, gm_cast, gm_zast, gm_last, gm_aast, gm_acp, gm_oinit, gm_back, gm_scall, gm_vcall, gm_iret, gm_zret, gm_cret, gm_lret, gm_aret, gm_vret, gm_slen, gm_schar, gm_sidx, gm_lget, gm_lset, gm_nl, gm_ent, gm_wd, gm_pop, gm_pad, gm_xl_c, gm_alen_u, gm_1_sF, gm_1_sA, gm_1_cp, gm_len_sF, gm_len_sA, gm_len_cp, Bool.or_true, Bool.true_or, gm_max_u, gm_min_u, gm_isO_sF, gm_isO_sA, gm_isO_cp, gm_gF_sF, gm_gF_sA, gm_gA_sF, gm_gA_sA, gm_gF_cp, gm_gA_cp, gm_add, gm_sub, gm_mul, gm_neg, ↓reduceIte, Nat.reduceAdd, Nat.reduceLeDiff, true_and, and_true, and_self, true_or, or_true, false_and, and_false, false_or, or_false, eq_self, Nat.reduceEqDiff, Int.reduceEq, Int.reduceLT, Int.reduceLE, Int.reduceNeg, Int.reduceAdd, Int.reduceSub, Int.reduceMul, Int.reduceDiv, Int.reduceMod, reduceCtorEq, if_true, if_false, gm_w_id, xX8_alike_0, xX8_alike_1, xX8_alike_2, xX8_alike_3, xX8_alike_5, xX8_alike_6, gm_alk, Int.add_zero]
  | succ k ih =>
    intro f x s q r M1 he hA hB hf hx h0 hs1 hs2
    obtain ⟨f, rfl⟩ : ∃ g, f = g + 3 := ⟨f - 3, by omega⟩
    obtain ⟨c1, c2, c3, c4, c5, c6, c7, c8, c9, c10, c11, c12, c13⟩ := gm_cx hI he
    obtain ⟨e1, he1, hA1⟩ := gm_pass_As hI he d a1 a2 (Or.inl rfl) hA (day := gm_day M + x) (dust := 0) (by omega) (by decide)
    have hB1 := hB.hs' (o' := 74) (gm_stD M a (gm_roo M a) (gm_lk M a) (gm_day M + x) 0 q).1 (gm_stD M a (gm_roo M a) (gm_lk M a) (gm_day M + x) 0 q).2 (by decide)
    obtain ⟨e2, he2, hB2⟩ := gm_pass_As hI he1 d b1 b2 (Or.inr rfl) hB1 (day := gm_day M + x) (dust := 0) (by omega) (by decide)
    have hA2 := hA1.hs' (o' := 77) (gm_stD M b (gm_roo M b) (gm_lk M b) (gm_day M + x) 0 r).1 (gm_stD M b (gm_roo M b) (gm_lk M b) (gm_day M + x) 0 r).2 (by decide)
    simp only [Int.reduceAdd] at e1 e2 he1 he2 hA2 hB2
    generalize hQ : gm_stD M a (gm_roo M a) (gm_lk M a) (gm_day M + x) 0 q = Q at *
    generalize hR : gm_stD M b (gm_roo M b) (gm_lk M b) (gm_day M + x) 0 r = R at *
    obtain ⟨p1, p2, p3, p4, p5, p6, p7, p8, p9, p10, p11, p12, p13⟩ := gm_cx hI he1
    have hh : x < 28 := by omega
    by_cases hz : gm_am0 M Q.1 = gm_am0 M R.1
    · obtain ⟨M3, he3, e3⟩ := ih (f + 1) (x + 1) (s + 1) Q R _ he2 hA2 hB2 (by omega) (by omega) (by omega) (by omega) (by omega)
      refine ⟨M3, he3, ?_⟩
      rw [xX8_alike_4]
      rcases gm_am0_01 M R.1 with hv | hv
      all_goals
        rw [hv] at hz e2
        rw [hz] at e1
        simp (config := { maxSteps := 2000000 }) (disch := first | omega | assumption | (simp only [gm_isO_sF, gm_isO_sA, gm_isO_cp]; assumption)) only [gm_push, gm_iload, gm_lload, gm_aload, gm_istore, gm_astore, gm_iinc, gm_op2, gm_quo, gm_op1, gm_lop2, gm_lshl, gm_i2l, gm_l2i, gm_lcmp, gm_dup, gm_pop1, gm_dup2, gm_goto, gm_ifeq, gm_ifne, gm_iflt, gm_ifge, gm_ifgt, gm_ifle, gm_ceq, gm_cne, gm_clt, gm_cge, gm_cgt, gm_cle, gm_ifnull, gm_ifnonnull, gm_swk, gm_switch, gm_getI, gm_getR, gm_putI, gm_putZ, gm_putR, gm_new, gm_newarr, gm_iald, gm_cald, gm_zald, gm_lald, gm_aald, gm_iast, gm_cast, gm_zast, gm_last, gm_aast, gm_acp, gm_oinit, gm_back, gm_scall, gm_vcall, gm_iret, gm_zret, gm_cret, gm_lret, gm_aret, gm_vret, gm_slen, gm_schar, gm_sidx, gm_lget, gm_lset, gm_nl, gm_ent, gm_wd, gm_pop, gm_pad, gm_xl_c, gm_alen_u, gm_1_sF, gm_1_sA, gm_1_cp, gm_len_sF, gm_len_sA, gm_len_cp, Bool.or_true, Bool.true_or, gm_max_u, gm_min_u, gm_isO_sF, gm_isO_sA, gm_isO_cp, gm_gF_sF, gm_gF_sA, gm_gA_sF, gm_gA_sA, gm_gF_cp, gm_gA_cp, gm_add, gm_sub, gm_mul, gm_neg, ↓reduceIte, Nat.reduceAdd, Nat.reduceLeDiff, true_and, and_true, and_self, true_or, or_true, false_and, and_false, false_or, or_false, eq_self, Nat.reduceEqDiff, Int.reduceEq, Int.reduceLT, Int.reduceLE, Int.reduceNeg, Int.reduceAdd, Int.reduceSub, Int.reduceMul, Int.reduceDiv, Int.reduceMod, reduceCtorEq, if_true, if_false, gm_w_id, xX8_alike_0, xX8_alike_1, xX8_alike_2, xX8_alike_3, xX8_alike_5, xX8_alike_6, c1, c2, c3, c4, c5, c6, c7, c8, hh, e1, p1, p2, p3, p4, p5, p6, p7, p8, e2]
        rw [e3]
        simp only [gm_alk, hQ, hR, hz, hv, if_true, Int.add_assoc]
    · obtain ⟨M3, he3, e3⟩ := ih (f + 1) (x + 1) s Q R _ he2 hA2 hB2 (by omega) (by omega) (by omega) (by omega) (by omega)
      refine ⟨M3, he3, ?_⟩
      rw [xX8_alike_4]
      rcases gm_am0_01 M R.1 with hv | hv
      · rcases gm_am0_01 M Q.1 with hv' | hv'
        · exact absurd (hv'.trans hv.symm) hz
        · rw [hv] at hz e2
          rw [hv'] at e1
          simp (config := { maxSteps := 2000000 }) (disch := first | omega | assumption | (simp only [gm_isO_sF, gm_isO_sA, gm_isO_cp]; assumption)) only [gm_push, gm_iload, gm_lload, gm_aload, gm_istore, gm_astore, gm_iinc, gm_op2, gm_quo, gm_op1, gm_lop2, gm_lshl, gm_i2l, gm_l2i, gm_lcmp, gm_dup, gm_pop1, gm_dup2, gm_goto, gm_ifeq, gm_ifne, gm_iflt, gm_ifge, gm_ifgt, gm_ifle, gm_ceq, gm_cne, gm_clt, gm_cge, gm_cgt, gm_cle, gm_ifnull, gm_ifnonnull, gm_swk, gm_switch, gm_getI, gm_getR, gm_putI, gm_putZ, gm_putR, gm_new, gm_newarr, gm_iald, gm_cald, gm_zald, gm_lald, gm_aald, gm_iast, gm_cast, gm_zast, gm_last, gm_aast, gm_acp, gm_oinit, gm_back, gm_scall, gm_vcall, gm_iret, gm_zret, gm_cret, gm_lret, gm_aret, gm_vret, gm_slen, gm_schar, gm_sidx, gm_lget, gm_lset, gm_nl, gm_ent, gm_wd, gm_pop, gm_pad, gm_xl_c, gm_alen_u, gm_1_sF, gm_1_sA, gm_1_cp, gm_len_sF, gm_len_sA, gm_len_cp, Bool.or_true, Bool.true_or, gm_max_u, gm_min_u, gm_isO_sF, gm_isO_sA, gm_isO_cp, gm_gF_sF, gm_gF_sA, gm_gA_sF, gm_gA_sA, gm_gF_cp, gm_gA_cp, gm_add, gm_sub, gm_mul, gm_neg, ↓reduceIte, Nat.reduceAdd, Nat.reduceLeDiff, true_and, and_true, and_self, true_or, or_true, false_and, and_false, false_or, or_false, eq_self, Nat.reduceEqDiff, Int.reduceEq, Int.reduceLT, Int.reduceLE, Int.reduceNeg, Int.reduceAdd, Int.reduceSub, Int.reduceMul, Int.reduceDiv, Int.reduceMod, reduceCtorEq, if_true, if_false, gm_w_id, xX8_alike_0, xX8_alike_1, xX8_alike_2, xX8_alike_3, xX8_alike_5, xX8_alike_6, c1, c2, c3, c4, c5, c6, c7, c8, hh, e1, p1, p2, p3, p4, p5, p6, p7, p8, e2]
          rw [e3]
          simp only [gm_alk, hQ, hR, hv', hv]
          rw [if_neg (by decide), Int.zero_add]
      · rcases gm_am0_01 M Q.1 with hv' | hv'
        · rw [hv] at hz e2
          rw [hv'] at e1
          simp (config := { maxSteps := 2000000 }) (disch := first | omega | assumption | (simp only [gm_isO_sF, gm_isO_sA, gm_isO_cp]; assumption)) only [gm_push, gm_iload, gm_lload, gm_aload, gm_istore, gm_astore, gm_iinc, gm_op2, gm_quo, gm_op1, gm_lop2, gm_lshl, gm_i2l, gm_l2i, gm_lcmp, gm_dup, gm_pop1, gm_dup2, gm_goto, gm_ifeq, gm_ifne, gm_iflt, gm_ifge, gm_ifgt, gm_ifle, gm_ceq, gm_cne, gm_clt, gm_cge, gm_cgt, gm_cle, gm_ifnull, gm_ifnonnull, gm_swk, gm_switch, gm_getI, gm_getR, gm_putI, gm_putZ, gm_putR, gm_new, gm_newarr, gm_iald, gm_cald, gm_zald, gm_lald, gm_aald, gm_iast, gm_cast, gm_zast, gm_last, gm_aast, gm_acp, gm_oinit, gm_back, gm_scall, gm_vcall, gm_iret, gm_zret, gm_cret, gm_lret, gm_aret, gm_vret, gm_slen, gm_schar, gm_sidx, gm_lget, gm_lset, gm_nl, gm_ent, gm_wd, gm_pop, gm_pad, gm_xl_c, gm_alen_u, gm_1_sF, gm_1_sA, gm_1_cp, gm_len_sF, gm_len_sA, gm_len_cp, Bool.or_true, Bool.true_or, gm_max_u, gm_min_u, gm_isO_sF, gm_isO_sA, gm_isO_cp, gm_gF_sF, gm_gF_sA, gm_gA_sF, gm_gA_sA, gm_gF_cp, gm_gA_cp, gm_add, gm_sub, gm_mul, gm_neg, ↓reduceIte, Nat.reduceAdd, Nat.reduceLeDiff, true_and, and_true, and_self, true_or, or_true, false_and, and_false, false_or, or_false, eq_self, Nat.reduceEqDiff, Int.reduceEq, Int.reduceLT, Int.reduceLE, Int.reduceNeg, Int.reduceAdd, Int.reduceSub, Int.reduceMul, Int.reduceDiv, Int.reduceMod, reduceCtorEq, if_true, if_false, gm_w_id, xX8_alike_0, xX8_alike_1, xX8_alike_2, xX8_alike_3, xX8_alike_5, xX8_alike_6, c1, c2, c3, c4, c5, c6, c7, c8, hh, e1, p1, p2, p3, p4, p5, p6, p7, p8, e2]
          rw [e3]
          simp only [gm_alk, hQ, hR, hv', hv]
          rw [if_neg (by decide), Int.zero_add]
        · exact absurd (hv'.trans hv.symm) hz
theorem r_X8_alike (d : Nat) (a b : Int) (M : gm_M) (hI : gm_CI M) (ha : gm_i a) (hb : gm_i b) :
    ∃ M1, gm_Ec M M1 ∧ gm_go (d + 6) 71 [.inr (.inr 1), .inl a, .inl b] M = some (some (.inl (
    if (0 ≤ a ∧ a < gm_many M) ∧ 0 ≤ b ∧ b < gm_many M then (if a = b then -2 else gm_alk M a b 28 0 (gm_qq M (8 + 3 * a)) (gm_qq M (8 + 3 * b))) else -1)), M1) := by
  have he := gm_Ec.rf hI.1
  obtain ⟨c1, c2, c3, c4, c5, c6, c7, c8, c9, c10, c11, c12, c13⟩ := gm_cx hI he
  have h8 := c11 (d + 4) a ha
  have h9 := c11 (d + 4) b hb
  have hg := c10 (d + 4)
  have hm := hI.2.1
  rw [eX8_alike _ _ _ (Nat.le_of_ble_eq_true rfl)]
  unfold gm_ho at h8 h9
  by_cases h : 0 ≤ a ∧ a < gm_many M
  · rw [if_pos h] at h8
    have hpa : ¬ (8 + 3 * a ≤ 0) := by omega
    by_cases h' : 0 ≤ b ∧ b < gm_many M
    · rw [if_pos h'] at h9
      rw [if_pos ⟨h, h'⟩]
      have hpb : ¬ (8 + 3 * b ≤ 0) := by omega
      by_cases hab : a = b
      · rw [if_pos hab]
        refine ⟨M, he, ?_⟩
        subst hab
        simp (config := { maxSteps := 2000000 }) (disch := first | omega | assumption | (simp only [gm_isO_sF, gm_isO_sA, gm_isO_cp]; assumption)) only [gm_push, gm_iload, gm_lload, gm_aload, gm_istore, gm_astore, gm_iinc, gm_op2, gm_quo, gm_op1, gm_lop2, gm_lshl, gm_i2l, gm_l2i, gm_lcmp, gm_dup, gm_pop1, gm_dup2, gm_goto, gm_ifeq, gm_ifne, gm_iflt, gm_ifge, gm_ifgt, gm_ifle, gm_ceq, gm_cne, gm_clt, gm_cge, gm_cgt, gm_cle, gm_ifnull, gm_ifnonnull, gm_swk, gm_switch, gm_getI, gm_getR, gm_putI, gm_putZ, gm_putR, gm_new, gm_newarr, gm_iald, gm_cald, gm_zald, gm_lald, gm_aald, gm_iast, gm_cast, gm_zast, gm_last, gm_aast, gm_acp, gm_oinit, gm_back, gm_scall, gm_vcall, gm_iret, gm_zret, gm_cret, gm_lret, gm_aret, gm_vret, gm_slen, gm_schar, gm_sidx, gm_lget, gm_lset, gm_nl, gm_ent, gm_wd, gm_pop, gm_pad, gm_xl_c, gm_alen_u, gm_1_sF, gm_1_sA, gm_1_cp, gm_len_sF, gm_len_sA, gm_len_cp, Bool.or_true, Bool.true_or, gm_max_u, gm_min_u, gm_isO_sF, gm_isO_sA, gm_isO_cp, gm_gF_sF, gm_gF_sA, gm_gA_sF, gm_gA_sA, gm_gF_cp, gm_gA_cp, gm_add, gm_sub, gm_mul, gm_neg, ↓reduceIte, Nat.reduceAdd, Nat.reduceLeDiff, true_and, and_true, and_self, true_or, or_true, false_and, and_false, false_or, or_false, eq_self, Nat.reduceEqDiff, Int.reduceEq, Int.reduceLT, Int.reduceLE, Int.reduceNeg, Int.reduceAdd, Int.reduceSub, Int.reduceMul, Int.reduceDiv, Int.reduceMod, reduceCtorEq, if_true, if_false, gm_w_id, xX8_alike_0, xX8_alike_1, xX8_alike_2, xX8_alike_3, xX8_alike_5, xX8_alike_6, c1, h8, hpa]
      · rw [if_neg hab]
        have hbc := c12 (d + 3) a 74 h.1 h.2 (Or.inl rfl)
        have hA := gm_bec_As hI he (o := 74) h.1 h.2
        have hB := he.bec 74 (8 + 3 * a) (Or.inl rfl)
        obtain ⟨p1, p2, p3, p4, p5, p6, p7, p8, p9, p10, p11, p12, p13⟩ := gm_cx hI hB
        have hbc2 := p12 (d + 3) b 77 h'.1 h'.2 (Or.inr rfl)
        have hA2 := gm_bec_As hI hB (o := 77) h'.1 h'.2
        have hB2 := hB.bec 77 (8 + 3 * b) (Or.inr rfl)
        have hA3 := hA.bec' (o' := 77) (p := 8 + 3 * b) (by omega)
        have ga := c13 a h.1 h.2
        have gb := p13 b h'.1 h'.2
        obtain ⟨M2, he2, e⟩ := r_X8_alike_loop d M hI a b h.1 h.2 h'.1 h'.2 28 99997 0 0 _ _ _ hB2 hA3 hA2 (by omega) (by omega) (by omega) (by omega) (by omega)
        refine ⟨M2, he2, ?_⟩
        rw [Int.zero_add] at e
        simp (config := { maxSteps := 2000000 }) (disch := first | omega | assumption | (simp only [gm_isO_sF, gm_isO_sA, gm_isO_cp]; assumption)) only [gm_push, gm_iload, gm_lload, gm_aload, gm_istore, gm_astore, gm_iinc, gm_op2, gm_quo, gm_op1, gm_lop2, gm_lshl, gm_i2l, gm_l2i, gm_lcmp, gm_dup, gm_pop1, gm_dup2, gm_goto, gm_ifeq, gm_ifne, gm_iflt, gm_ifge, gm_ifgt, gm_ifle, gm_ceq, gm_cne, gm_clt, gm_cge, gm_cgt, gm_cle, gm_ifnull, gm_ifnonnull, gm_swk, gm_switch, gm_getI, gm_getR, gm_putI, gm_putZ, gm_putR, gm_new, gm_newarr, gm_iald, gm_cald, gm_zald, gm_lald, gm_aald, gm_iast, gm_cast, gm_zast, gm_last, gm_aast, gm_acp, gm_oinit, gm_back, gm_scall, gm_vcall, gm_iret, gm_zret, gm_cret, gm_lret, gm_aret, gm_vret, gm_slen, gm_schar, gm_sidx, gm_lget, gm_lset, gm_nl, gm_ent, gm_wd, gm_pop, gm_pad, gm_xl_c, gm_alen_u, gm_1_sF, gm_1_sA, gm_1_cp, gm_len_sF, gm_len_sA, gm_len_cp, Bool.or_true, Bool.true_or, gm_max_u, gm_min_u, gm_isO_sF, gm_isO_sA, gm_isO_cp, gm_gF_sF, gm_gF_sA, gm_gA_sF, gm_gA_sA, gm_gF_cp, gm_gA_cp, gm_add, gm_sub, gm_mul, gm_neg, ↓reduceIte, Nat.reduceAdd, Nat.reduceLeDiff, true_and, and_true, and_self, true_or, or_true, false_and, and_false, false_or, or_false, eq_self, Nat.reduceEqDiff, Int.reduceEq, Int.reduceLT, Int.reduceLE, Int.reduceNeg, Int.reduceAdd, Int.reduceSub, Int.reduceMul, Int.reduceDiv, Int.reduceMod, reduceCtorEq, if_true, if_false, gm_w_id, xX8_alike_0, xX8_alike_1, xX8_alike_2, xX8_alike_3, xX8_alike_5, xX8_alike_6, c1, c3, c4, c5, c6, h8, h9, hpa, hpb, hab, hg, hbc, ga, gb, p1, p4, p5, p6, hbc2, e]
    · rw [if_neg h'] at h9
      rw [if_neg (fun z => h' z.2)]
      refine ⟨M, he, ?_⟩
      simp (config := { maxSteps := 2000000 }) (disch := first | omega | assumption | (simp only [gm_isO_sF, gm_isO_sA, gm_isO_cp]; assumption)) only [gm_push, gm_iload, gm_lload, gm_aload, gm_istore, gm_astore, gm_iinc, gm_op2, gm_quo, gm_op1, gm_lop2, gm_lshl, gm_i2l, gm_l2i, gm_lcmp, gm_dup, gm_pop1, gm_dup2, gm_goto, gm_ifeq, gm_ifne, gm_iflt, gm_ifge, gm_ifgt, gm_ifle, gm_ceq, gm_cne, gm_clt, gm_cge, gm_cgt, gm_cle, gm_ifnull, gm_ifnonnull, gm_swk, gm_switch, gm_getI, gm_getR, gm_putI, gm_putZ, gm_putR, gm_new, gm_newarr, gm_iald, gm_cald, gm_zald, gm_lald, gm_aald, gm_iast, gm_cast, gm_zast, gm_last, gm_aast, gm_acp, gm_oinit, gm_back, gm_scall, gm_vcall, gm_iret, gm_zret, gm_cret, gm_lret, gm_aret, gm_vret, gm_slen, gm_schar, gm_sidx, gm_lget, gm_lset, gm_nl, gm_ent, gm_wd, gm_pop, gm_pad, gm_xl_c, gm_alen_u, gm_1_sF, gm_1_sA, gm_1_cp, gm_len_sF, gm_len_sA, gm_len_cp, Bool.or_true, Bool.true_or, gm_max_u, gm_min_u, gm_isO_sF, gm_isO_sA, gm_isO_cp, gm_gF_sF, gm_gF_sA, gm_gA_sF, gm_gA_sA, gm_gF_cp, gm_gA_cp, gm_add, gm_sub, gm_mul, gm_neg, ↓reduceIte, Nat.reduceAdd, Nat.reduceLeDiff, true_and, and_true, and_self, true_or, or_true, false_and, and_false, false_or, or_false, eq_self, Nat.reduceEqDiff, Int.reduceEq, Int.reduceLT, Int.reduceLE, Int.reduceNeg, Int.reduceAdd, Int.reduceSub, Int.reduceMul, Int.reduceDiv, Int.reduceMod, reduceCtorEq, if_true, if_false, gm_w_id, xX8_alike_0, xX8_alike_1, xX8_alike_2, xX8_alike_3, xX8_alike_5, xX8_alike_6, c1, h8, h9, hpa]
  · refine ⟨M, he, ?_⟩
    rw [if_neg h] at h8
    rw [if_neg (fun z => h z.1)]
    simp (config := { maxSteps := 2000000 }) (disch := first | omega | assumption | (simp only [gm_isO_sF, gm_isO_sA, gm_isO_cp]; assumption)) only [gm_push, gm_iload, gm_lload, gm_aload, gm_istore, gm_astore, gm_iinc, gm_op2, gm_quo, gm_op1, gm_lop2, gm_lshl, gm_i2l, gm_l2i, gm_lcmp, gm_dup, gm_pop1, gm_dup2, gm_goto, gm_ifeq, gm_ifne, gm_iflt, gm_ifge, gm_ifgt, gm_ifle, gm_ceq, gm_cne, gm_clt, gm_cge, gm_cgt, gm_cle, gm_ifnull, gm_ifnonnull, gm_swk, gm_switch, gm_getI, gm_getR, gm_putI, gm_putZ, gm_putR, gm_new, gm_newarr, gm_iald, gm_cald, gm_zald, gm_lald, gm_aald, gm_iast, gm_cast, gm_zast, gm_last, gm_aast, gm_acp, gm_oinit, gm_back, gm_scall, gm_vcall, gm_iret, gm_zret, gm_cret, gm_lret, gm_aret, gm_vret, gm_slen, gm_schar, gm_sidx, gm_lget, gm_lset, gm_nl, gm_ent, gm_wd, gm_pop, gm_pad, gm_xl_c, gm_alen_u, gm_1_sF, gm_1_sA, gm_1_cp, gm_len_sF, gm_len_sA, gm_len_cp, Bool.or_true, Bool.true_or, gm_max_u, gm_min_u, gm_isO_sF, gm_isO_sA, gm_isO_cp, gm_gF_sF, gm_gF_sA, gm_gA_sF, gm_gA_sA, gm_gF_cp, gm_gA_cp, gm_add, gm_sub, gm_mul, gm_neg, ↓reduceIte, Nat.reduceAdd, Nat.reduceLeDiff, true_and, and_true, and_self, true_or, or_true, false_and, and_false, false_or, or_false, eq_self, Nat.reduceEqDiff, Int.reduceEq, Int.reduceLT, Int.reduceLE, Int.reduceNeg, Int.reduceAdd, Int.reduceSub, Int.reduceMul, Int.reduceDiv, Int.reduceMod, reduceCtorEq, if_true, if_false, gm_w_id, xX8_alike_0, xX8_alike_1, xX8_alike_2, xX8_alike_3, xX8_alike_5, xX8_alike_6, c1, h8, h9]
/-- steps toward the greatest that both share -/
def gm_gs : Nat → Int → Int → Int × Int
  | 0, a, b => (a, b)
  | k + 1, a, b => if b = 0 then (a, b) else gm_gs k b (a % b)
theorem gm_gs_z : ∀ (k : Nat) (a b : Int), 0 ≤ a → 0 ≤ b → b < 2 ^ k → (gm_gs (2 * k) a b).2 = 0
  | 0, a, b, _, h1, h2 => by
    have : b = 0 := by simp at h2; omega
    subst this; rfl
  | k + 1, a, b, h0, h1, h2 => by
    have e : 2 * (k + 1) = 2 * k + 1 + 1 := by omega
    rw [e, gm_gs]
    by_cases hb : b = 0
    · rw [if_pos hb]; exact hb
    · rw [if_neg hb, gm_gs]
      have m1 := Int.emod_nonneg a hb
      have m2 := Int.emod_lt_of_pos a (show 0 < b by omega)
      by_cases hc : a % b = 0
      · rw [if_pos hc]; exact hc
      · rw [if_neg hc]
        have m3 := Int.emod_nonneg b hc
        have m4 := Int.emod_lt_of_pos b (show 0 < a % b by omega)
        refine gm_gs_z k _ _ m1 m3 ?_
        have m5 : b % (a % b) ≤ b - a % b := by
          have := Int.emod_add_mul_ediv b (a % b)
          have h5 : 1 ≤ b / (a % b) := by
            have := Int.le_ediv_of_mul_le (show 0 < a % b by omega) (show 1 * (a % b) ≤ b by omega)
            exact this
          have h6 : a % b ≤ (a % b) * (b / (a % b)) := by
            have := Int.mul_le_mul_of_nonneg_left h5 m1
            rwa [Int.mul_one] at this
          omega
        have h7 : (2 : Int) ^ (k + 1) = 2 * 2 ^ k := by rw [Int.pow_succ]; omega
        omega
theorem gm_gs_p : ∀ (k : Nat) (a b : Int), 0 ≤ a → 0 ≤ b → 0 < a ∨ 0 < b → (gm_gs k a b).2 = 0 → 0 < (gm_gs k a b).1 ∧ (gm_gs k a b).1 ≤ max a b
  | 0, a, b, h1, h2, h3, h4 => by
    simp only [gm_gs] at h4 ⊢
    omega
  | k + 1, a, b, h1, h2, h3, h4 => by
    simp only [gm_gs] at h4 ⊢
    by_cases hb : b = 0
    · rw [if_pos hb]; simp only; omega
    · rw [if_neg hb] at h4 ⊢
      have m1 := Int.emod_nonneg a hb
      have m2 := Int.emod_lt_of_pos a (show 0 < b by omega)
      have := gm_gs_p k b (a % b) h2 m1 (Or.inl (by omega)) h4
      omega
/-- in lowest terms -/
def gm_lwt (a b part : Int) : Int := if part = 0 then a / (gm_gs 64 a b).1 else b / (gm_gs 64 a b).1
theorem r_X8_lowest_loop (d : Nat) (A B part : Int) (M : gm_M) (hA : 0 ≤ A ∧ A < 1000000) (hB : 0 < B ∧ B < 1000000) (hp : part = 0 ∨ part = 1) : ∀ (k f : Nat) (a b x : Int) (l6 : Option gm_V), k + 4 ≤ f → x = 64 - k → 0 ≤ x → (0 ≤ a ∧ a < 1000000) → (0 ≤ b ∧ b < 1000000) → (0 < a ∨ 0 < b) → (gm_gs k a b).2 = 0 →
    gm_ex (gm_go d) qX8_lowest f 1 [some (.inl A), some (.inl B), some (.inl part), some (.inl a), some (.inl b), some (.inl x), l6] [] M = some (some (.inl (if part = 0 then A / (gm_gs k a b).1 else B / (gm_gs k a b).1)), M) := by
  intro k
  induction k with
  | zero =>
    intro f a b x l6 hf hx h0 ha hb hab hg
    obtain ⟨f, rfl⟩ : ∃ g, f = g + 4 := ⟨f - 4, by omega⟩
    have hx' : x = 64 := by omega
    subst hx'
    simp only [gm_gs] at hg ⊢
    subst hg
    have e1 : gm_mx 1 a = a := by rw [gm_mx_id ⟨by decide, by decide⟩ ⟨by omega, by omega⟩]; omega
    have e2 : gm_div A a = A / a := gm_div_id ⟨by omega, by omega⟩ ⟨by omega, by omega⟩
    have e3 : gm_div B a = B / a := gm_div_id ⟨by omega, by omega⟩ ⟨by omega, by omega⟩
    have e4 : ¬ a = 0 := by omega
    rw [xX8_lowest_1]
    rcases hp with rfl | rfl
    all_goals simp (config := { maxSteps := 2000000 }) (disch := first | omega | assumption | (simp only [gm_isO_sF, gm_isO_sA, gm_isO_cp]; assumption)) only [gm_push, gm_iload, gm_lload, gm_aload, gm_istore, gm_astore, gm_iinc, gm_op2, gm_quo, gm_op1, gm_lop2, gm_lshl, gm_i2l, gm_l2i, gm_lcmp, gm_dup, gm_pop1, gm_dup2, gm_goto, gm_ifeq, gm_ifne, gm_iflt, gm_ifge, gm_ifgt, gm_ifle, gm_ceq, gm_cne, gm_clt, gm_cge, gm_cgt, gm_cle, gm_ifnull, gm_ifnonnull, gm_swk, gm_switch, gm_getI, gm_getR, gm_putI, gm_putZ, gm_putR, gm_new, gm_newarr, gm_iald, gm_cald, gm_zald, gm_lald, gm_aald, gm_iast, gm_cast, gm_zast, gm_last, gm_aast, gm_acp, gm_oinit, gm_back, gm_scall, gm_vcall, gm_iret, gm_zret, gm_cret, gm_lret, gm_aret, gm_vret, gm_slen, gm_schar, gm_sidx, gm_lget, gm_lset, gm_nl, gm_ent, gm_wd, gm_pop, gm_pad, gm_xl_c, gm_alen_u, gm_1_sF, gm_1_sA, gm_1_cp, gm_len_sF, gm_len_sA, gm_len_cp, Bool.or_true, Bool.true_or, gm_max_u, gm_min_u, gm_isO_sF, gm_isO_sA, gm_isO_cp, gm_gF_sF, gm_gF_sA, gm_gA_sF, gm_gA_sA, gm_gF_cp, gm_gA_cp, gm_add, gm_sub, gm_mul, gm_neg, ↓reduceIte, Nat.reduceAdd, Nat.reduceLeDiff, true_and, and_true, and_self, true_or, or_true, false_and, and_false, false_or, or_false, eq_self, Nat.reduceEqDiff, Int.reduceEq, Int.reduceLT, Int.reduceLE, Int.reduceNeg, Int.reduceAdd, Int.reduceSub, Int.reduceMul, Int.reduceDiv, Int.reduceMod, reduceCtorEq, if_true, if_false, gm_w_id, xX8_lowest_0, xX8_lowest_2, xX8_lowest_3, xX8_lowest_4, e1, e2, e3, e4]
  | succ k ih =>
    intro f a b x l6 hf hx h0 ha hb hab hg
    obtain ⟨f, rfl⟩ : ∃ g, f = g + 4 := ⟨f - 4, by omega⟩
    have hx' : x < 64 := by omega
    rw [xX8_lowest_1]
    by_cases hz : b = 0
    · subst hz
      have e5 : gm_gs (k + 1) a 0 = (a, 0) := rfl
      rw [e5]
      have e1 : gm_mx 1 a = a := by rw [gm_mx_id ⟨by decide, by decide⟩ ⟨by omega, by omega⟩]; omega
      have e2 : gm_div A a = A / a := gm_div_id ⟨by omega, by omega⟩ ⟨by omega, by omega⟩
      have e3 : gm_div B a = B / a := gm_div_id ⟨by omega, by omega⟩ ⟨by omega, by omega⟩
      have e4 : ¬ a = 0 := by omega
      rcases hp with rfl | rfl
      all_goals simp (config := { maxSteps := 2000000 }) (disch := first | omega | assumption | (simp only [gm_isO_sF, gm_isO_sA, gm_isO_cp]; assumption)) only [gm_push, gm_iload, gm_lload, gm_aload, gm_istore, gm_astore, gm_iinc, gm_op2, gm_quo, gm_op1, gm_lop2, gm_lshl, gm_i2l, gm_l2i, gm_lcmp, gm_dup, gm_pop1, gm_dup2, gm_goto, gm_ifeq, gm_ifne, gm_iflt, gm_ifge, gm_ifgt, gm_ifle, gm_ceq, gm_cne, gm_clt, gm_cge, gm_cgt, gm_cle, gm_ifnull, gm_ifnonnull, gm_swk, gm_switch, gm_getI, gm_getR, gm_putI, gm_putZ, gm_putR, gm_new, gm_newarr, gm_iald, gm_cald, gm_zald, gm_lald, gm_aald, gm_iast, gm_cast, gm_zast, gm_last, gm_aast, gm_acp, gm_oinit, gm_back, gm_scall, gm_vcall, gm_iret, gm_zret, gm_cret, gm_lret, gm_aret, gm_vret, gm_slen, gm_schar, gm_sidx, gm_lget, gm_lset, gm_nl, gm_ent, gm_wd, gm_pop, gm_pad, gm_xl_c, gm_alen_u, gm_1_sF, gm_1_sA, gm_1_cp, gm_len_sF, gm_len_sA, gm_len_cp, Bool.or_true, Bool.true_or, gm_max_u, gm_min_u, gm_isO_sF, gm_isO_sA, gm_isO_cp, gm_gF_sF, gm_gF_sA, gm_gA_sF, gm_gA_sA, gm_gF_cp, gm_gA_cp, gm_add, gm_sub, gm_mul, gm_neg, ↓reduceIte, Nat.reduceAdd, Nat.reduceLeDiff, true_and, and_true, and_self, true_or, or_true, false_and, and_false, false_or, or_false, eq_self, Nat.reduceEqDiff, Int.reduceEq, Int.reduceLT, Int.reduceLE, Int.reduceNeg, Int.reduceAdd, Int.reduceSub, Int.reduceMul, Int.reduceDiv, Int.reduceMod, reduceCtorEq, if_true, if_false, gm_w_id, xX8_lowest_0, xX8_lowest_2, xX8_lowest_3, xX8_lowest_4, hx', e1, e2, e3, e4]
    · have er : gm_rem a b = a % b := gm_rem_id ⟨by omega, by omega⟩ ⟨by omega, by omega⟩
      have m1 := Int.emod_nonneg a hz
      have m2 := Int.emod_lt_of_pos a (show 0 < b by omega)
      have e5 : gm_gs (k + 1) a b = gm_gs k b (a % b) := by rw [gm_gs, if_neg hz]
      rw [e5] at hg ⊢
      have e := ih (f + 3) b (a % b) (x + 1) (some (.inl (a % b))) (by omega) (by omega) (by omega) hb ⟨by omega, by omega⟩ (Or.inl (by omega)) hg
      simp (config := { maxSteps := 2000000 }) (disch := first | omega | assumption | (simp only [gm_isO_sF, gm_isO_sA, gm_isO_cp]; assumption)) only [gm_push, gm_iload, gm_lload, gm_aload, gm_istore, gm_astore, gm_iinc, gm_op2, gm_quo, gm_op1, gm_lop2, gm_lshl, gm_i2l, gm_l2i, gm_lcmp, gm_dup, gm_pop1, gm_dup2, gm_goto, gm_ifeq, gm_ifne, gm_iflt, gm_ifge, gm_ifgt, gm_ifle, gm_ceq, gm_cne, gm_clt, gm_cge, gm_cgt, gm_cle, gm_ifnull, gm_ifnonnull, gm_swk, gm_switch, gm_getI, gm_getR, gm_putI, gm_putZ, gm_putR, gm_new, gm_newarr, gm_iald, gm_cald, gm_zald, gm_lald, gm_aald, gm_iast, gm_cast, gm_zast, gm_last, gm_aast, gm_acp, gm_oinit, gm_back, gm_scall, gm_vcall, gm_iret, gm_zret, gm_cret, gm_lret, gm_aret, gm_vret, gm_slen, gm_schar, gm_sidx, gm_lget, gm_lset, gm_nl, gm_ent, gm_wd, gm_pop, gm_pad, gm_xl_c, gm_alen_u, gm_1_sF, gm_1_sA, gm_1_cp, gm_len_sF, gm_len_sA, gm_len_cp, Bool.or_true, Bool.true_or, gm_max_u, gm_min_u, gm_isO_sF, gm_isO_sA, gm_isO_cp, gm_gF_sF, gm_gF_sA, gm_gA_sF, gm_gA_sA, gm_gF_cp, gm_gA_cp, gm_add, gm_sub, gm_mul, gm_neg, ↓reduceIte, Nat.reduceAdd, Nat.reduceLeDiff, true_and, and_true, and_self, true_or, or_true, false_and, and_false, false_or, or_false, eq_self, Nat.reduceEqDiff, Int.reduceEq, Int.reduceLT, Int.reduceLE, Int.reduceNeg, Int.reduceAdd, Int.reduceSub, Int.reduceMul, Int.reduceDiv, Int.reduceMod, reduceCtorEq, if_true, if_false, gm_w_id, xX8_lowest_0, xX8_lowest_2, xX8_lowest_3, xX8_lowest_4, hx', hz, er]
      exact e
theorem r_X8_lowest (d : Nat) (A B part : Int) (M : gm_M) (hA : 0 ≤ A ∧ A < 1000000) (hB : 0 < B ∧ B < 1000000) (hp : part = 0 ∨ part = 1) : gm_go (d + 1) 98 [.inl A, .inl B, .inl part] M = some (some (.inl (gm_lwt A B part)), M) := by
  have e := r_X8_lowest_loop d A B part M hA hB hp 64 99999 A B 0 none (by omega) (by omega) (by omega) hA ⟨by omega, by omega⟩ (by omega) (gm_gs_z 32 A B hA.1 (by omega) (by omega))
  rw [eX8_lowest _ _ _ (Nat.le_of_ble_eq_true rfl), xX8_lowest_0]
  simp (config := { maxSteps := 2000000 }) (disch := first | omega | assumption | (simp only [gm_isO_sF, gm_isO_sA, gm_isO_cp]; assumption)) only [gm_push, gm_iload, gm_lload, gm_aload, gm_istore, gm_astore, gm_iinc, gm_op2, gm_quo, gm_op1, gm_lop2, gm_lshl, gm_i2l, gm_l2i, gm_lcmp, gm_dup, gm_pop1, gm_dup2, gm_goto, gm_ifeq, gm_ifne, gm_iflt, gm_ifge, gm_ifgt, gm_ifle, gm_ceq, gm_cne, gm_clt, gm_cge, gm_cgt, gm_cle, gm_ifnull, gm_ifnonnull, gm_swk, gm_switch, gm_getI, gm_getR, gm_putI, gm_putZ, gm_putR, gm_new, gm_newarr, gm_iald, gm_cald, gm_zald, gm_lald, gm_aald, gm_iast, gm_cast, gm_zast, gm_last, gm_aast, gm_acp, gm_oinit, gm_back, gm_scall, gm_vcall, gm_iret, gm_zret, gm_cret, gm_lret, gm_aret, gm_vret, gm_slen, gm_schar, gm_sidx, gm_lget, gm_lset, gm_nl, gm_ent, gm_wd, gm_pop, gm_pad, gm_xl_c, gm_alen_u, gm_1_sF, gm_1_sA, gm_1_cp, gm_len_sF, gm_len_sA, gm_len_cp, Bool.or_true, Bool.true_or, gm_max_u, gm_min_u, gm_isO_sF, gm_isO_sA, gm_isO_cp, gm_gF_sF, gm_gF_sA, gm_gA_sF, gm_gA_sA, gm_gF_cp, gm_gA_cp, gm_add, gm_sub, gm_mul, gm_neg, ↓reduceIte, Nat.reduceAdd, Nat.reduceLeDiff, true_and, and_true, and_self, true_or, or_true, false_and, and_false, false_or, or_false, eq_self, Nat.reduceEqDiff, Int.reduceEq, Int.reduceLT, Int.reduceLE, Int.reduceNeg, Int.reduceAdd, Int.reduceSub, Int.reduceMul, Int.reduceDiv, Int.reduceMod, reduceCtorEq, if_true, if_false, gm_w_id, e]
  rfl
