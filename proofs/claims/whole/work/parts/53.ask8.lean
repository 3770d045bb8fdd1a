/-! THE CLASS: odds, mean, looked -/
theorem gm_lwt_b {A B part : Int} (hA : 0 ≤ A ∧ A < 1000000) (hB : 0 < B ∧ B < 1000000) : 0 ≤ gm_lwt A B part ∧ gm_lwt A B part < 1000000 := by
  have hz := gm_gs_z 32 A B hA.1 (by omega) (by omega)
  have hp := gm_gs_p 64 A B hA.1 (by omega) (by omega) hz
  unfold gm_lwt
  have h1 := Int.ediv_le_self (a := A) (gm_gs 64 A B).1 hA.1
  have h2 := Int.ediv_le_self (a := B) (gm_gs 64 A B).1 (by omega)
  have h3 := Int.ediv_nonneg hA.1 (show 0 ≤ (gm_gs 64 A B).1 by omega)
  have h4 := Int.ediv_nonneg (show 0 ≤ B by omega) (show 0 ≤ (gm_gs 64 A B).1 by omega)
  split <;> omega
def gm_odd (M : gm_M) (n : Int) : Nat → Int → Int
  | 0, _ => 0
  | k + 1, x => (if gm_am0 M (gm_stD M n (gm_roo M n) (gm_lk M n) (gm_day M) x (gm_qq M (8 + 3 * n))).1 = 0 then 0 else 1) + gm_odd M n k (x + 1)
theorem gm_odd_b (M : gm_M) (n : Int) : ∀ (k : Nat) (x : Int), 0 ≤ gm_odd M n k x ∧ gm_odd M n k x ≤ k
  | 0, _ => by simp [gm_odd]
  | k + 1, x => by
    have := gm_odd_b M n k (x + 1)
    simp only [gm_odd]
    split <;> omega
def gm_NO : gm_V := .inr (.inl (-9223372036854775808))
theorem r_X8_odds_loop (d : Nat) (M : gm_M) (hI : gm_CI M) (n part : Int) (h1 : 0 ≤ n) (h2 : n < gm_many M) (hp : part = 0 ∨ part = 1) : ∀ (k f : Nat) (x s : Int) (M1 : gm_M), gm_Ec M M1 → 3 * (k + 2) ≤ f → x = 10 - k → 0 ≤ x → 0 ≤ s → s ≤ x →
    ∃ M2, gm_Ec M M2 ∧ gm_ex (gm_go (d + 5)) qX8_odds f 3 [some (.inr (.inr 1)), some (.inl n), some (.inl part), some (.inr (.inr (8 + 3 * n))), some (.inr (.inr (gm_gr M))), some (.inl s), some (.inl x)] [] M1 = some (some (.inr (.inl (gm_lwt (s + gm_odd M n k x) 10 part))), M2) := by
  have hm := hI.2.1
  have hd := hI.2.2.1
  intro k
  induction k with
  | zero =>
    intro f x s M1 he hf hx h0 hs1 hs2
    obtain ⟨f, rfl⟩ : ∃ g, f = g + 3 := ⟨f - 3, by omega⟩
    refine ⟨M1, he, ?_⟩
    have hx' : x = 10 := by omega
    subst hx'
    have e := r_X8_lowest (d + 4) s 10 part M1 ⟨by omega, by omega⟩ (by decide) hp
    have b := gm_lwt_b (A := s) (B := 10) (part := part) ⟨by omega, by omega⟩ (by decide)
    rw [xX8_odds_3]
    simp (config := { maxSteps := 2000000 }) (disch := first | omega | assumption | (simp only [gm_isO_sF, gm_isO_sA, gm_isO_cp]; assumption)) only [gm_push, gm_iload, gm_lload, gm_aload, gm_istore, gm_astore, gm_iinc, gm_op2, gm_quo, gm_op1, gm_lop2, gm_lshl, gm_i2l, gm_l2i, gm_lcmp, gm_dup, gm_pop1, gm_dup2, gm_goto, gm_ifeq, gm_ifne, gm_iflt, gm_ifge, gm_ifgt, gm_ifle, gm_ceq, gm_cne, gm_clt, gm_cge, gm_cgt, gm_cle, gm_ifnull, gm_ifnonnull, gm_swk, gm_switch, gm_getI, gm_getR, gm_putI, gm_putZ, gm_putR, gm_new, gm_newarr, gm_iald, gm_cald, gm_zald, gm_lald, gm_aald, gm_iast, gm_cast, gm_zast, gm_last, gm_aast, gm_acp, gm_oinit, gm_back, gm_scall, gm_vcall, gm_iret, gm_zret, gm_cret, gm_lret, gm_aret, gm_vret, gm_slen, gm_schar, gm_sidx, gm_lget, gm_lset, gm_nl, gm_ent, gm_wd, gm_pop, gm_pad, gm_xl_c, gm_alen_u, gm_1_sF, gm_1_sA, gm_1_cp, gm_len_sF, gm_len_sA, gm_len_cp, Bool.or_true, Bool.true_or, gm_max_u, gm_min_u, gm_isO_sF, gm_isO_sA, gm_isO_cp, gm_gF_sF, gm_gF_sA, gm_gA_sF, gm_gA_sA, gm_gF_cp, gm_gA_cp, gm_add, gm_sub, gm_mul, gm_neg, ↓reduceIte, Nat.reduceAdd, Nat.reduceLeDiff, true_and, and_true, and_self, true_or, or_true, false_and, and_false, false_or, or_false, eq_self, Nat.reduceEqDiff, Int.reduceEq, Int.reduceLT, Int.reduceLE, Int.reduceNeg, Int.reduceAdd, Int.reduceSub, Int.reduceMul, Int.reduceDiv, Int.reduceMod, reduceCtorEq, if_true, if_false, gm_w_id, xX8_odds_0, xX8_odds_1, xX8_odds_2, xX8_odds_4, xX8_odds_5, gm_odd, Int.add_zero, e]
  | succ k ih =>
    intro f x s M1 he hf hx h0 hs1 hs2
    obtain ⟨f, rfl⟩ : ∃ g, f = g + 3 := ⟨f - 3, by omega⟩
    obtain ⟨c1, c2, c3, c4, c5, c6, c7, c8, c9, c10, c11, c12, c13⟩ := gm_cx hI he
    have c14 := c13 n h1 h2
    have h9 : ¬ 9 < x := by omega
    have hb := he.bec 74 (8 + 3 * n) (Or.inl rfl)
    obtain ⟨b1, b2, b3, b4, b5, b6, b7, b8, b9, b10, b11, b12, b13⟩ := gm_cx hI hb
    have hA := gm_bec_As hI he (o := 74) h1 h2
    have hbc := c12 (d + 3) n 74 h1 h2 (Or.inl rfl)
    obtain ⟨e1, he1, hA1⟩ := gm_pass_As hI hb d h1 h2 (Or.inl rfl) hA (day := gm_day M) (dust := x) (by omega) (by omega)
    simp only [Int.reduceAdd] at e1 he1
    generalize hQ : gm_stD M n (gm_roo M n) (gm_lk M n) (gm_day M) x (gm_qq M (8 + 3 * n)) = Q at *
    have hX : ∀ s', s' = s + (if gm_am0 M Q.1 = 0 then 0 else 1) → s + gm_odd M n (k + 1) x = s' + gm_odd M n k (x + 1) := fun s' hs => by
      simp only [gm_odd, hQ]; rw [hs, Int.add_assoc]
    rcases gm_am0_01 M Q.1 with hv | hv
    · obtain ⟨M3, he3, e3⟩ := ih (f + 1) (x + 1) s _ he1 (by omega) (by omega) (by omega) (by omega) (by omega)
      refine ⟨M3, he3, ?_⟩
      rw [hv] at e1
      rw [xX8_odds_3]
      simp (config := { maxSteps := 2000000 }) (disch := first | omega | assumption | (simp only [gm_isO_sF, gm_isO_sA, gm_isO_cp]; assumption)) only [gm_push, gm_iload, gm_lload, gm_aload, gm_istore, gm_astore, gm_iinc, gm_op2, gm_quo, gm_op1, gm_lop2, gm_lshl, gm_i2l, gm_l2i, gm_lcmp, gm_dup, gm_pop1, gm_dup2, gm_goto, gm_ifeq, gm_ifne, gm_iflt, gm_ifge, gm_ifgt, gm_ifle, gm_ceq, gm_cne, gm_clt, gm_cge, gm_cgt, gm_cle, gm_ifnull, gm_ifnonnull, gm_swk, gm_switch, gm_getI, gm_getR, gm_putI, gm_putZ, gm_putR, gm_new, gm_newarr, gm_iald, gm_cald, gm_zald, gm_lald, gm_aald, gm_iast, gm_cast, gm_zast, gm_last, gm_aast, gm_acp, gm_oinit, gm_back, gm_scall, gm_vcall, gm_iret, gm_zret, gm_cret, gm_lret, gm_aret, gm_vret, gm_slen, gm_schar, gm_sidx, gm_lget, gm_lset, gm_nl, gm_ent, gm_wd, gm_pop, gm_pad, gm_xl_c, gm_alen_u, gm_1_sF, gm_1_sA, gm_1_cp, gm_len_sF, gm_len_sA, gm_len_cp, Bool.or_true, Bool.true_or, gm_max_u, gm_min_u, gm_isO_sF, gm_isO_sA, gm_isO_cp, gm_gF_sF, gm_gF_sA, gm_gA_sF, gm_gA_sA, gm_gF_cp, gm_gA_cp, gm_add, gm_sub, gm_mul, gm_neg, ↓reduceIte, Nat.reduceAdd, Nat.reduceLeDiff, true_and, and_true, and_self, true_or, or_true, false_and, and_false, false_or, or_false, eq_self, Nat.reduceEqDiff, Int.reduceEq, Int.reduceLT, Int.reduceLE, Int.reduceNeg, Int.reduceAdd, Int.reduceSub, Int.reduceMul, Int.reduceDiv, Int.reduceMod, reduceCtorEq, if_true, if_false, gm_w_id, xX8_odds_0, xX8_odds_1, xX8_odds_2, xX8_odds_4, xX8_odds_5, c1, c2, c3, c5, c7, c8, c14, h9, hbc, b1, b2, b3, b5, b7, b8, e1]
      rw [hX s (by rw [if_pos hv]; omega)]
      exact e3
    · obtain ⟨M3, he3, e3⟩ := ih (f + 1) (x + 1) (s + 1) _ he1 (by omega) (by omega) (by omega) (by omega) (by omega)
      refine ⟨M3, he3, ?_⟩
      rw [hv] at e1
      rw [xX8_odds_3]
      simp (config := { maxSteps := 2000000 }) (disch := first | omega | assumption | (simp only [gm_isO_sF, gm_isO_sA, gm_isO_cp]; assumption)) only [gm_push, gm_iload, gm_lload, gm_aload, gm_istore, gm_astore, gm_iinc, gm_op2, gm_quo, gm_op1, gm_lop2, gm_lshl, gm_i2l, gm_l2i, gm_lcmp, gm_dup, gm_pop1, gm_dup2, gm_goto, gm_ifeq, gm_ifne, gm_iflt, gm_ifge, gm_ifgt, gm_ifle, gm_ceq, gm_cne, gm_clt, gm_cge, gm_cgt, gm_cle, gm_ifnull, gm_ifnonnull, gm_swk, gm_switch, gm_getI, gm_getR, gm_putI, gm_putZ, gm_putR, gm_new, gm_newarr, gm_iald, gm_cald, gm_zald, gm_lald, gm_aald, gm_iast, gm_cast, gm_zast, gm_last, gm_aast, gm_acp, gm_oinit, gm_back, gm_scall, gm_vcall, gm_iret, gm_zret, gm_cret, gm_lret, gm_aret, gm_vret, gm_slen, gm_schar, gm_sidx, gm_lget, gm_lset, gm_nl, gm_ent, gm_wd, gm_pop, gm_pad, gm_xl_c, gm_alen_u, gm_1_sF, gm_1_sA, gm_1_cp, gm_len_sF, gm_len_sA, gm_len_cp, Bool.or_true, Bool.true_or, gm_max_u, gm_min_u, gm_isO_sF, gm_isO_sA, gm_isO_cp, gm_gF_sF, gm_gF_sA, gm_gA_sF, gm_gA_sA, gm_gF_cp, gm_gA_cp, gm_add, gm_sub, gm_mul, gm_neg, ↓reduceIte, Nat.reduceAdd, Nat.reduceLeDiff, true_and, and_true, and_self, true_or, or_true, false_and, and_false, false_or, or_false, eq_self, Nat.reduceEqDiff, Int.reduceEq, Int.reduceLT, Int.reduceLE, Int.reduceNeg, Int.reduceAdd, Int.reduceSub, Int.reduceMul, Int.reduceDiv, Int.reduceMod, reduceCtorEq, if_true, if_false, gm_w_id, xX8_odds_0, xX8_odds_1, xX8_odds_2, xX8_odds_4, xX8_odds_5, c1, c2, c3, c5, c7, c8, c14, h9, hbc, b1, b2, b3, b5, b7, b8, e1]
      rw [hX (s + 1) (by rw [if_neg (by omega)])]
      exact e3
theorem r_X8_odds (d : Nat) (n part : Int) (M : gm_M) (hI : gm_CI M) (hn : gm_i n) (hw : gm_i part) : ∃ M1, gm_Ec M M1 ∧ gm_go (d + 6) 75 [.inr (.inr 1), .inl n, .inl part] M = some (some (
    if 0 ≤ n ∧ n < gm_many M ∧ 0 ≤ part ∧ part ≤ 1 then .inr (.inl (gm_lwt (gm_odd M n 10 0) 10 part)) else gm_NO), M1) := by
  have he := gm_Ec.rf hI.1
  obtain ⟨c1, c2, c3, c4, c5, c6, c7, c8, c9, c10, c11, c12, c13⟩ := gm_cx hI he
  have h8 := c11 (d + 4) n hn
  have hg := c10 (d + 4)
  have hwi := r_within (d := d + 4) hw (most := 1) ⟨by decide, by decide⟩ M
  rw [eX8_odds _ _ _ (Nat.le_of_ble_eq_true rfl)]
  unfold gm_ho at h8
  by_cases h : 0 ≤ n ∧ n < gm_many M
  · rw [if_pos h] at h8
    have hpos : ¬ (8 + 3 * n ≤ 0) := by omega
    by_cases hw2 : 0 ≤ part ∧ part ≤ 1
    · rw [if_pos hw2] at hwi
      rw [if_pos ⟨h.1, h.2, hw2⟩]
      obtain ⟨M2, he2, e⟩ := r_X8_odds_loop d M hI n part h.1 h.2 (by omega) 10 99998 0 0 M he (by omega) (by omega) (by omega) (by omega) (by omega)
      refine ⟨M2, he2, ?_⟩
      rw [Int.zero_add] at e
      simp (config := { maxSteps := 2000000 }) (disch := first | omega | assumption | (simp only [gm_isO_sF, gm_isO_sA, gm_isO_cp]; assumption)) only [gm_push, gm_iload, gm_lload, gm_aload, gm_istore, gm_astore, gm_iinc, gm_op2, gm_quo, gm_op1, gm_lop2, gm_lshl, gm_i2l, gm_l2i, gm_lcmp, gm_dup, gm_pop1, gm_dup2, gm_goto, gm_ifeq, gm_ifne, gm_iflt, gm_ifge, gm_ifgt, gm_ifle, gm_ceq, gm_cne, gm_clt, gm_cge, gm_cgt, gm_cle, gm_ifnull, gm_ifnonnull, gm_swk, gm_switch, gm_getI, gm_getR, gm_putI, gm_putZ, gm_putR, gm_new, gm_newarr, gm_iald, gm_cald, gm_zald, gm_lald, gm_aald, gm_iast, gm_cast, gm_zast, gm_last, gm_aast, gm_acp, gm_oinit, gm_back, gm_scall, gm_vcall, gm_iret, gm_zret, gm_cret, gm_lret, gm_aret, gm_vret, gm_slen, gm_schar, gm_sidx, gm_lget, gm_lset, gm_nl, gm_ent, gm_wd, gm_pop, gm_pad, gm_xl_c, gm_alen_u, gm_1_sF, gm_1_sA, gm_1_cp, gm_len_sF, gm_len_sA, gm_len_cp, Bool.or_true, Bool.true_or, gm_max_u, gm_min_u, gm_isO_sF, gm_isO_sA, gm_isO_cp, gm_gF_sF, gm_gF_sA, gm_gA_sF, gm_gA_sA, gm_gF_cp, gm_gA_cp, gm_add, gm_sub, gm_mul, gm_neg, ↓reduceIte, Nat.reduceAdd, Nat.reduceLeDiff, true_and, and_true, and_self, true_or, or_true, false_and, and_false, false_or, or_false, eq_self, Nat.reduceEqDiff, Int.reduceEq, Int.reduceLT, Int.reduceLE, Int.reduceNeg, Int.reduceAdd, Int.reduceSub, Int.reduceMul, Int.reduceDiv, Int.reduceMod, reduceCtorEq, if_true, if_false, gm_w_id, xX8_odds_0, xX8_odds_1, xX8_odds_2, xX8_odds_4, xX8_odds_5, c1, h8, hpos, hwi, hg, e]
    · rw [if_neg hw2] at hwi
      rw [if_neg (fun z => hw2 z.2.2)]
      refine ⟨M, he, ?_⟩
      simp (config := { maxSteps := 2000000 }) (disch := first | omega | assumption | (simp only [gm_isO_sF, gm_isO_sA, gm_isO_cp]; assumption)) only [gm_push, gm_iload, gm_lload, gm_aload, gm_istore, gm_astore, gm_iinc, gm_op2, gm_quo, gm_op1, gm_lop2, gm_lshl, gm_i2l, gm_l2i, gm_lcmp, gm_dup, gm_pop1, gm_dup2, gm_goto, gm_ifeq, gm_ifne, gm_iflt, gm_ifge, gm_ifgt, gm_ifle, gm_ceq, gm_cne, gm_clt, gm_cge, gm_cgt, gm_cle, gm_ifnull, gm_ifnonnull, gm_swk, gm_switch, gm_getI, gm_getR, gm_putI, gm_putZ, gm_putR, gm_new, gm_newarr, gm_iald, gm_cald, gm_zald, gm_lald, gm_aald, gm_iast, gm_cast, gm_zast, gm_last, gm_aast, gm_acp, gm_oinit, gm_back, gm_scall, gm_vcall, gm_iret, gm_zret, gm_cret, gm_lret, gm_aret, gm_vret, gm_slen, gm_schar, gm_sidx, gm_lget, gm_lset, gm_nl, gm_ent, gm_wd, gm_pop, gm_pad, gm_xl_c, gm_alen_u, gm_1_sF, gm_1_sA, gm_1_cp, gm_len_sF, gm_len_sA, gm_len_cp, Bool.or_true, Bool.true_or, gm_max_u, gm_min_u, gm_isO_sF, gm_isO_sA, gm_isO_cp, gm_gF_sF, gm_gF_sA, gm_gA_sF, gm_gA_sA, gm_gF_cp, gm_gA_cp, gm_add, gm_sub, gm_mul, gm_neg, ↓reduceIte, Nat.reduceAdd, Nat.reduceLeDiff, true_and, and_true, and_self, true_or, or_true, false_and, and_false, false_or, or_false, eq_self, Nat.reduceEqDiff, Int.reduceEq, Int.reduceLT, Int.reduceLE, Int.reduceNeg, Int.reduceAdd, Int.reduceSub, Int.reduceMul, Int.reduceDiv, Int.reduceMod, reduceCtorEq, if_true, if_false, gm_w_id, xX8_odds_0, xX8_odds_1, xX8_odds_2, xX8_odds_4, xX8_odds_5, c1, h8, hpos, hwi]
      rfl
  · refine ⟨M, he, ?_⟩
    rw [if_neg h] at h8
    rw [if_neg (fun z => h ⟨z.1, z.2.1⟩)]
    simp (config := { maxSteps := 2000000 }) (disch := first | omega | assumption | (simp only [gm_isO_sF, gm_isO_sA, gm_isO_cp]; assumption)) only [gm_push, gm_iload, gm_lload, gm_aload, gm_istore, gm_astore, gm_iinc, gm_op2, gm_quo, gm_op1, gm_lop2, gm_lshl, gm_i2l, gm_l2i, gm_lcmp, gm_dup, gm_pop1, gm_dup2, gm_goto, gm_ifeq, gm_ifne, gm_iflt, gm_ifge, gm_ifgt, gm_ifle, gm_ceq, gm_cne, gm_clt, gm_cge, gm_cgt, gm_cle, gm_ifnull, gm_ifnonnull, gm_swk, gm_switch, gm_getI, gm_getR, gm_putI, gm_putZ, gm_putR, gm_new, gm_newarr, gm_iald, gm_cald, gm_zald, gm_lald, gm_aald, gm_iast, gm_cast, gm_zast, gm_last, gm_aast, gm_acp, gm_oinit, gm_back, gm_scall, gm_vcall, gm_iret, gm_zret, gm_cret, gm_lret, gm_aret, gm_vret, gm_slen, gm_schar, gm_sidx, gm_lget, gm_lset, gm_nl, gm_ent, gm_wd, gm_pop, gm_pad, gm_xl_c, gm_alen_u, gm_1_sF, gm_1_sA, gm_1_cp, gm_len_sF, gm_len_sA, gm_len_cp, Bool.or_true, Bool.true_or, gm_max_u, gm_min_u, gm_isO_sF, gm_isO_sA, gm_isO_cp, gm_gF_sF, gm_gF_sA, gm_gA_sF, gm_gA_sA, gm_gF_cp, gm_gA_cp, gm_add, gm_sub, gm_mul, gm_neg, ↓reduceIte, Nat.reduceAdd, Nat.reduceLeDiff, true_and, and_true, and_self, true_or, or_true, false_and, and_false, false_or, or_false, eq_self, Nat.reduceEqDiff, Int.reduceEq, Int.reduceLT, Int.reduceLE, Int.reduceNeg, Int.reduceAdd, Int.reduceSub, Int.reduceMul, Int.reduceDiv, Int.reduceMod, reduceCtorEq, if_true, if_false, gm_w_id, xX8_odds_0, xX8_odds_1, xX8_odds_2, xX8_odds_4, xX8_odds_5, c1, h8]
    rfl
/-- heat of a house over the days, together -/
def gn_ws (M : gm_M) (n : Int) : Nat → Int → Int × Int → Int
  | 0, _, _ => 0
  | k + 1, x, q => (gm_stD M n (gm_roo M n) (gm_lk M n) (gm_day M + x) 0 q).1 + gn_ws M n k (x + 1) (gm_stD M n (gm_roo M n) (gm_lk M n) (gm_day M + x) 0 q)
theorem gn_ws_b {M : gm_M} (hI : gm_CI M) {n : Int} (h1 : 0 ≤ n) (h2 : n < gm_many M) : ∀ (k : Nat) (x : Int) (q : Int × Int), gm_pok q → 0 ≤ gn_ws M n k x q ∧ gn_ws M n k x q ≤ 199 * k
  | 0, _, _, _ => by simp [gn_ws]
  | k + 1, x, q, hq => by
    have hw := (hI.ho h1 h2).2
    have h3 := gm_stD_ok hI (dust := 0) (day := gm_day M + x) h1 h2 hw.2.2.2.2.2.1 hw.2.2.2.2.2.2.1 hq
    have h4 : gm_pok (gm_stD M n (gm_roo M n) (gm_lk M n) (gm_day M + x) 0 q) := h3
    have := gn_ws_b hI h1 h2 k (x + 1) _ h4
    have h5 := h4.1
    simp only [gn_ws]
    omega
theorem r_X8_mean_in (d : Nat) (M : gm_M) (hI : gm_CI M) (n days part : Int) (h1 : 0 ≤ n) (h2 : n < gm_many M) (hd2 : 1 ≤ days ∧ days ≤ 60) : ∀ (k f : Nat) (x s : Int) (q : Int × Int) (M1 : gm_M), gm_Ec M M1 → gm_As M n 74 (gm_roo M n) (gm_lk M n) q M1 → x = days - k → 0 ≤ x → 0 ≤ s → s + 199 * k ≤ 100000 →
    ∃ M2, gm_Ec M M2 ∧ gm_ex (gm_go (d + 5)) qX8_mean (f + (k + 1)) 4 [some (.inr (.inr 1)), some (.inl days), some (.inl part), some (.inr (.inr (gm_gr M))), some (.inl s), some (.inl n), some (.inl x)] [] M1 =
      gm_ex (gm_go (d + 5)) qX8_mean f 5 [some (.inr (.inr 1)), some (.inl days), some (.inl part), some (.inr (.inr (gm_gr M))), some (.inl (s + gn_ws M n k x q)), some (.inl n), some (.inl days)] [] M2 := by
  have hm := hI.2.1
  have hd := hI.2.2.1
  intro k
  induction k with
  | zero =>
    intro f x s q M1 he hA hx h0 hs1 hs2
    refine ⟨M1, he, ?_⟩
    have hx' : x = days := by omega
    subst hx'
    rw [xX8_mean_4]
    simp (config := { maxSteps := 2000000 }) (disch := first | omega | assumption | (simp only [gm_isO_sF, gm_isO_sA, gm_isO_cp]; assumption)) only [gm_push, gm_iload, gm_lload, gm_aload, gm_istore, gm_astore, gm_iinc, gm_op2, gm_quo, gm_op1, gm_lop2, gm_lshl, gm_i2l, gm_l2i, gm_lcmp, gm_dup, gm_pop1, gm_dup2, gm_goto, gm_ifeq, gm_ifne, gm_iflt, gm_ifge, gm_ifgt, gm_ifle, gm_ceq, gm_cne, gm_clt, gm_cge, gm_cgt, gm_cle, gm_ifnull, gm_ifnonnull, gm_swk, gm_switch, gm_getI, gm_getR, gm_putI, gm_putZ, gm_putR, gm_new, gm_newarr, gm_iald, gm_cald, gm_zald, gm_lald, gm_aald, gm_iast, gm_cast, gm_zast, gm_last, gm_aast, gm_acp, gm_oinit, gm_back, gm_scall, gm_vcall, gm_iret, gm_zret, gm_cret, gm_lret, gm_aret, gm_vret, gm_slen, gm_schar, gm_sidx, gm_lget, gm_lset, gm_nl, gm_ent, gm_wd, gm_pop, gm_pad, gm_xl_c, gm_alen_u, gm_1_sF, gm_1_sA, gm_1_cp, gm_len_sF, gm_len_sA, gm_len_cp, Bool.or_true, Bool.true_or, gm_max_u, gm_min_u, gm_isO_sF, gm_isO_sA, gm_isO_cp, gm_gF_sF, gm_gF_sA, gm_gA_sF, gm_gA_sA, gm_gF_cp, gm_gA_cp, gm_add, gm_sub, gm_mul, gm_neg, ↓reduceIte, Nat.reduceAdd, Nat.reduceLeDiff, true_and, and_true, and_self, true_or, or_true, false_and, and_false, false_or, or_false, eq_self, Nat.reduceEqDiff, Int.reduceEq, Int.reduceLT, Int.reduceLE, Int.reduceNeg, Int.reduceAdd, Int.reduceSub, Int.reduceMul, Int.reduceDiv, Int.reduceMod, reduceCtorEq, if_true, if_false, gm_w_id, gn_ws, Int.add_zero, Int.lt_irrefl]
  | succ k ih =>
    intro f x s q M1 he hA hx h0 hs1 hs2
    obtain ⟨c1, c2, c3, c4, c5, c6, c7, c8, c9, c10, c11, c12, c13⟩ := gm_cx hI he
    have h9 : x < days := by omega
    obtain ⟨e1, he1, hA1⟩ := gm_pass_As hI he d h1 h2 (Or.inl rfl) hA (day := gm_day M + x) (dust := 0) (by omega) (by decide)
    simp only [Int.reduceAdd] at e1 he1 hA1
    generalize hQ : gm_stD M n (gm_roo M n) (gm_lk M n) (gm_day M + x) 0 q = Q at *
    obtain ⟨p1, p2, p3, p4, p5, p6, p7, p8, p9, p10, p11, p12, p13⟩ := gm_cx hI he1
    have hq1 := hA1.2.2.2.2.2.2.1.1
    obtain ⟨M3, he3, e3⟩ := ih f (x + 1) (s + Q.1) Q _ he1 hA1 (by omega) (by omega) (by omega) (by omega)
    refine ⟨M3, he3, ?_⟩
    have f1 : gm_gF (gm_hs M1 74 75 Q.1 Q.2) 203 74 = Q.1 := rfl
    rw [show f + (k + 1 + 1) = (f + (k + 1)) + 1 by omega, xX8_mean_4]
    simp (config := { maxSteps := 2000000 }) (disch := first | omega | assumption | (simp only [gm_isO_sF, gm_isO_sA, gm_isO_cp]; assumption)) only [gm_push, gm_iload, gm_lload, gm_aload, gm_istore, gm_astore, gm_iinc, gm_op2, gm_quo, gm_op1, gm_lop2, gm_lshl, gm_i2l, gm_l2i, gm_lcmp, gm_dup, gm_pop1, gm_dup2, gm_goto, gm_ifeq, gm_ifne, gm_iflt, gm_ifge, gm_ifgt, gm_ifle, gm_ceq, gm_cne, gm_clt, gm_cge, gm_cgt, gm_cle, gm_ifnull, gm_ifnonnull, gm_swk, gm_switch, gm_getI, gm_getR, gm_putI, gm_putZ, gm_putR, gm_new, gm_newarr, gm_iald, gm_cald, gm_zald, gm_lald, gm_aald, gm_iast, gm_cast, gm_zast, gm_last, gm_aast, gm_acp, gm_oinit, gm_back, gm_scall, gm_vcall, gm_iret, gm_zret, gm_cret, gm_lret, gm_aret, gm_vret, gm_slen, gm_schar, gm_sidx, gm_lget, gm_lset, gm_nl, gm_ent, gm_wd, gm_pop, gm_pad, gm_xl_c, gm_alen_u, gm_1_sF, gm_1_sA, gm_1_cp, gm_len_sF, gm_len_sA, gm_len_cp, Bool.or_true, Bool.true_or, gm_max_u, gm_min_u, gm_isO_sF, gm_isO_sA, gm_isO_cp, gm_gF_sF, gm_gF_sA, gm_gA_sF, gm_gA_sA, gm_gF_cp, gm_gA_cp, gm_add, gm_sub, gm_mul, gm_neg, ↓reduceIte, Nat.reduceAdd, Nat.reduceLeDiff, true_and, and_true, and_self, true_or, or_true, false_and, and_false, false_or, or_false, eq_self, Nat.reduceEqDiff, Int.reduceEq, Int.reduceLT, Int.reduceLE, Int.reduceNeg, Int.reduceAdd, Int.reduceSub, Int.reduceMul, Int.reduceDiv, Int.reduceMod, reduceCtorEq, if_true, if_false, gm_w_id, c1, c2, c3, c5, c7, c8, h9, e1, p1, p3, p5, f1]
    rw [e3]
    simp only [gn_ws, hQ, Int.add_assoc]
def gm_mns (M : gm_M) (days : Nat) : Nat → Int → Int
  | 0, _ => 0
  | k + 1, i => gn_ws M i days 0 (gm_qq M (8 + 3 * i)) + gm_mns M days k (i + 1)
theorem gm_mns_b {M : gm_M} (hI : gm_CI M) (days : Nat) : ∀ (k : Nat) (i : Int), 0 ≤ i → i + k ≤ gm_many M → 0 ≤ gm_mns M days k i ∧ gm_mns M days k i ≤ 199 * days * k
  | 0, _, _, _ => by simp [gm_mns]
  | k + 1, i, h1, h2 => by
    have h3 := gm_mns_b hI days k (i + 1) (by omega) (by omega)
    have h4 := gn_ws_b hI h1 (by omega) days 0 _ (gm_qq_ok (hI.ho h1 (by omega)).2)
    simp only [gm_mns]
    have h5 : (199 : Int) * days * ((k + 1 : Nat) : Int) = 199 * days * k + 199 * days := by
      rw [Int.natCast_add, Int.mul_add]; simp
    rw [h5]
    omega
theorem r_X8_mean_loop (d : Nat) (M : gm_M) (hI : gm_CI M) (days part : Int) (hmp : 0 < gm_many M) (hd2 : 1 ≤ days ∧ days ≤ 60) (hp : part = 0 ∨ part = 1) : ∀ (k f : Nat) (i s : Int) (l6 : Option gm_V) (M1 : gm_M), gm_Ec M M1 → 100 * (k + 2) ≤ f → i = gm_many M - k → 0 ≤ i → 0 ≤ s → s ≤ 199 * 60 * i →
    ∃ M2, gm_Ec M M2 ∧ gm_ex (gm_go (d + 5)) qX8_mean f 3 [some (.inr (.inr 1)), some (.inl days), some (.inl part), some (.inr (.inr (gm_gr M))), some (.inl s), some (.inl i), l6] [] M1 = some (some (.inr (.inl (gm_lwt (s + gm_mns M days.toNat k i) (days * gm_many M) part))), M2) := by
  have hm := hI.2.1
  have hd := hI.2.2.1
  have hB : 0 < days * gm_many M ∧ days * gm_many M < 1000000 := by
    have := Int.mul_pos (show 0 < days by omega) hmp
    have h6 : days * gm_many M ≤ 60 * 6 := Int.mul_le_mul hd2.2 hm.2 (by omega) (by omega)
    omega
  intro k
  induction k with
  | zero =>
    intro f i s l6 M1 he hf hi h0 hs1 hs2
    obtain ⟨f, rfl⟩ : ∃ g, f = g + 3 := ⟨f - 3, by omega⟩
    obtain ⟨c1, c2, c3, c4, c5, c6, c7, c8, c9, c10, c11, c12, c13⟩ := gm_cx hI he
    refine ⟨M1, he, ?_⟩
    have hi' : ¬ i < gm_many M := by omega
    have e := r_X8_lowest (d + 4) s (days * gm_many M) part M1 ⟨by omega, by omega⟩ hB hp
    have b := gm_lwt_b (A := s) (B := days * gm_many M) (part := part) ⟨by omega, by omega⟩ hB
    rw [xX8_mean_3]
    simp (config := { maxSteps := 2000000 }) (disch := first | omega | assumption | (simp only [gm_isO_sF, gm_isO_sA, gm_isO_cp]; assumption)) only [gm_push, gm_iload, gm_lload, gm_aload, gm_istore, gm_astore, gm_iinc, gm_op2, gm_quo, gm_op1, gm_lop2, gm_lshl, gm_i2l, gm_l2i, gm_lcmp, gm_dup, gm_pop1, gm_dup2, gm_goto, gm_ifeq, gm_ifne, gm_iflt, gm_ifge, gm_ifgt, gm_ifle, gm_ceq, gm_cne, gm_clt, gm_cge, gm_cgt, gm_cle, gm_ifnull, gm_ifnonnull, gm_swk, gm_switch, gm_getI, gm_getR, gm_putI, gm_putZ, gm_putR, gm_new, gm_newarr, gm_iald, gm_cald, gm_zald, gm_lald, gm_aald, gm_iast, gm_cast, gm_zast, gm_last, gm_aast, gm_acp, gm_oinit, gm_back, gm_scall, gm_vcall, gm_iret, gm_zret, gm_cret, gm_lret, gm_aret, gm_vret, gm_slen, gm_schar, gm_sidx, gm_lget, gm_lset, gm_nl, gm_ent, gm_wd, gm_pop, gm_pad, gm_xl_c, gm_alen_u, gm_1_sF, gm_1_sA, gm_1_cp, gm_len_sF, gm_len_sA, gm_len_cp, Bool.or_true, Bool.true_or, gm_max_u, gm_min_u, gm_isO_sF, gm_isO_sA, gm_isO_cp, gm_gF_sF, gm_gF_sA, gm_gA_sF, gm_gA_sA, gm_gF_cp, gm_gA_cp, gm_add, gm_sub, gm_mul, gm_neg, ↓reduceIte, Nat.reduceAdd, Nat.reduceLeDiff, true_and, and_true, and_self, true_or, or_true, false_and, and_false, false_or, or_false, eq_self, Nat.reduceEqDiff, Int.reduceEq, Int.reduceLT, Int.reduceLE, Int.reduceNeg, Int.reduceAdd, Int.reduceSub, Int.reduceMul, Int.reduceDiv, Int.reduceMod, reduceCtorEq, if_true, if_false, gm_w_id, xX8_mean_0, xX8_mean_1, xX8_mean_2, xX8_mean_4, xX8_mean_5, xX8_mean_6, gm_mns, Int.add_zero, c1, c2, c7, c9, hi', e]
  | succ k ih =>
    intro f i s l6 M1 he hf hi h0 hs1 hs2
    obtain ⟨f, rfl⟩ : ∃ g, f = g + 100 := ⟨f - 100, by omega⟩
    obtain ⟨c1, c2, c3, c4, c5, c6, c7, c8, c9, c10, c11, c12, c13⟩ := gm_cx hI he
    have h9 : i < gm_many M := by omega
    have h36 : i < 6 := by omega
    have c14 := c13 i h0 h9
    have l7 : gm_gF M1 700 2 = 3 := gm_l700 he.1 c2
    have z3 := gm_z3 he.1
    have y3 := gm_y3 M1
    have ha := gm_a3 he.1 (i := i) h0 (by omega)
    have hin := gm_inI (M := M1) (a := 3) (i := i) y3 h0 (by omega) (by decide)
    have ha3 := gm_alen_k 24 (by decide) (gm_go (d + 5))
    have hb := he.bec 74 (8 + 3 * i) (Or.inl rfl)
    have hA := gm_bec_As hI he (o := 74) h0 h9
    have hbc := c12 (d + 3) i 74 h0 h9 (Or.inl rfl)
    have wb := gn_ws_b hI h0 h9 days.toNat 0 _ (gm_qq_ok (hI.ho h0 h9).2)
    have h60 : (199 : Int) * (days.toNat : Int) ≤ 199 * 60 := by omega
    obtain ⟨M3, he3, e3⟩ := r_X8_mean_in d M hI i days part h0 h9 hd2 days.toNat (f + 98 - days.toNat) 0 s _ _ hb hA (by omega) (by omega) hs1 (by omega)
    obtain ⟨M4, he4, e4⟩ := ih (f + 97 - days.toNat) (i + 1) (s + gn_ws M i days.toNat 0 (gm_qq M (8 + 3 * i))) (some (.inl days)) M3 he3 (by omega) (by omega) (by omega) (by omega) (by omega)
    refine ⟨M4, he4, ?_⟩
    rw [show f + 98 - days.toNat + (days.toNat + 1) = f + 99 by omega] at e3
    rw [show f + 98 - days.toNat = (f + 97 - days.toNat) + 1 by omega] at e3
    rw [xX8_mean_3]
    simp (config := { maxSteps := 2000000 }) (disch := first | omega | assumption | (simp only [gm_isO_sF, gm_isO_sA, gm_isO_cp]; assumption)) only [gm_push, gm_iload, gm_lload, gm_aload, gm_istore, gm_astore, gm_iinc, gm_op2, gm_quo, gm_op1, gm_lop2, gm_lshl, gm_i2l, gm_l2i, gm_lcmp, gm_dup, gm_pop1, gm_dup2, gm_goto, gm_ifeq, gm_ifne, gm_iflt, gm_ifge, gm_ifgt, gm_ifle, gm_ceq, gm_cne, gm_clt, gm_cge, gm_cgt, gm_cle, gm_ifnull, gm_ifnonnull, gm_swk, gm_switch, gm_getI, gm_getR, gm_putI, gm_putZ, gm_putR, gm_new, gm_newarr, gm_iald, gm_cald, gm_zald, gm_lald, gm_aald, gm_iast, gm_cast, gm_zast, gm_last, gm_aast, gm_acp, gm_oinit, gm_back, gm_scall, gm_vcall, gm_iret, gm_zret, gm_cret, gm_lret, gm_aret, gm_vret, gm_slen, gm_schar, gm_sidx, gm_lget, gm_lset, gm_nl, gm_ent, gm_wd, gm_pop, gm_pad, gm_xl_c, gm_alen_u, gm_1_sF, gm_1_sA, gm_1_cp, gm_len_sF, gm_len_sA, gm_len_cp, Bool.or_true, Bool.true_or, gm_max_u, gm_min_u, gm_isO_sF, gm_isO_sA, gm_isO_cp, gm_gF_sF, gm_gF_sA, gm_gA_sF, gm_gA_sA, gm_gF_cp, gm_gA_cp, gm_add, gm_sub, gm_mul, gm_neg, ↓reduceIte, Nat.reduceAdd, Nat.reduceLeDiff, true_and, and_true, and_self, true_or, or_true, false_and, and_false, false_or, or_false, eq_self, Nat.reduceEqDiff, Int.reduceEq, Int.reduceLT, Int.reduceLE, Int.reduceNeg, Int.reduceAdd, Int.reduceSub, Int.reduceMul, Int.reduceDiv, Int.reduceMod, reduceCtorEq, if_true, if_false, gm_w_id, xX8_mean_5, c1, c2, c3, c5, c7, c9, c14, h9, h36, l7, z3, y3, ha, hin, ha3, hbc, e3]
    rw [e4]
    simp only [gm_mns, Int.add_assoc]
theorem r_X8_mean (d : Nat) (n part : Int) (M : gm_M) (hI : gm_CI M) (hn : gm_i n) (hw : gm_i part) : ∃ M1, gm_Ec M M1 ∧ gm_go (d + 6) 76 [.inr (.inr 1), .inl n, .inl part] M = some (some (
    if (1 ≤ n ∧ n ≤ 60) ∧ (0 ≤ part ∧ part ≤ 1) ∧ 0 < gm_many M then .inr (.inl (gm_lwt (gm_mns M n.toNat (gm_many M).toNat 0) (n * gm_many M) part)) else gm_NO), M1) := by
  have he := gm_Ec.rf hI.1
  obtain ⟨c1, c2, c3, c4, c5, c6, c7, c8, c9, c10, c11, c12, c13⟩ := gm_cx hI he
  have hg := c10 (d + 4)
  have hm := hI.2.1
  have hwi := r_within (d := d + 4) hw (most := 1) ⟨by decide, by decide⟩ M
  rw [eX8_mean _ _ _ (Nat.le_of_ble_eq_true rfl)]
  by_cases h1 : n < 1
  · refine ⟨M, he, ?_⟩
    rw [if_neg (fun z => by omega)]
    simp (config := { maxSteps := 2000000 }) (disch := first | omega | assumption | (simp only [gm_isO_sF, gm_isO_sA, gm_isO_cp]; assumption)) only [gm_push, gm_iload, gm_lload, gm_aload, gm_istore, gm_astore, gm_iinc, gm_op2, gm_quo, gm_op1, gm_lop2, gm_lshl, gm_i2l, gm_l2i, gm_lcmp, gm_dup, gm_pop1, gm_dup2, gm_goto, gm_ifeq, gm_ifne, gm_iflt, gm_ifge, gm_ifgt, gm_ifle, gm_ceq, gm_cne, gm_clt, gm_cge, gm_cgt, gm_cle, gm_ifnull, gm_ifnonnull, gm_swk, gm_switch, gm_getI, gm_getR, gm_putI, gm_putZ, gm_putR, gm_new, gm_newarr, gm_iald, gm_cald, gm_zald, gm_lald, gm_aald, gm_iast, gm_cast, gm_zast, gm_last, gm_aast, gm_acp, gm_oinit, gm_back, gm_scall, gm_vcall, gm_iret, gm_zret, gm_cret, gm_lret, gm_aret, gm_vret, gm_slen, gm_schar, gm_sidx, gm_lget, gm_lset, gm_nl, gm_ent, gm_wd, gm_pop, gm_pad, gm_xl_c, gm_alen_u, gm_1_sF, gm_1_sA, gm_1_cp, gm_len_sF, gm_len_sA, gm_len_cp, Bool.or_true, Bool.true_or, gm_max_u, gm_min_u, gm_isO_sF, gm_isO_sA, gm_isO_cp, gm_gF_sF, gm_gF_sA, gm_gA_sF, gm_gA_sA, gm_gF_cp, gm_gA_cp, gm_add, gm_sub, gm_mul, gm_neg, ↓reduceIte, Nat.reduceAdd, Nat.reduceLeDiff, true_and, and_true, and_self, true_or, or_true, false_and, and_false, false_or, or_false, eq_self, Nat.reduceEqDiff, Int.reduceEq, Int.reduceLT, Int.reduceLE, Int.reduceNeg, Int.reduceAdd, Int.reduceSub, Int.reduceMul, Int.reduceDiv, Int.reduceMod, reduceCtorEq, if_true, if_false, gm_w_id, xX8_mean_0, xX8_mean_1, xX8_mean_2, xX8_mean_5, xX8_mean_6, h1]
    rfl
  · by_cases h2 : 60 < n
    · refine ⟨M, he, ?_⟩
      rw [if_neg (fun z => by omega)]
      simp (config := { maxSteps := 2000000 }) (disch := first | omega | assumption | (simp only [gm_isO_sF, gm_isO_sA, gm_isO_cp]; assumption)) only [gm_push, gm_iload, gm_lload, gm_aload, gm_istore, gm_astore, gm_iinc, gm_op2, gm_quo, gm_op1, gm_lop2, gm_lshl, gm_i2l, gm_l2i, gm_lcmp, gm_dup, gm_pop1, gm_dup2, gm_goto, gm_ifeq, gm_ifne, gm_iflt, gm_ifge, gm_ifgt, gm_ifle, gm_ceq, gm_cne, gm_clt, gm_cge, gm_cgt, gm_cle, gm_ifnull, gm_ifnonnull, gm_swk, gm_switch, gm_getI, gm_getR, gm_putI, gm_putZ, gm_putR, gm_new, gm_newarr, gm_iald, gm_cald, gm_zald, gm_lald, gm_aald, gm_iast, gm_cast, gm_zast, gm_last, gm_aast, gm_acp, gm_oinit, gm_back, gm_scall, gm_vcall, gm_iret, gm_zret, gm_cret, gm_lret, gm_aret, gm_vret, gm_slen, gm_schar, gm_sidx, gm_lget, gm_lset, gm_nl, gm_ent, gm_wd, gm_pop, gm_pad, gm_xl_c, gm_alen_u, gm_1_sF, gm_1_sA, gm_1_cp, gm_len_sF, gm_len_sA, gm_len_cp, Bool.or_true, Bool.true_or, gm_max_u, gm_min_u, gm_isO_sF, gm_isO_sA, gm_isO_cp, gm_gF_sF, gm_gF_sA, gm_gA_sF, gm_gA_sA, gm_gF_cp, gm_gA_cp, gm_add, gm_sub, gm_mul, gm_neg, ↓reduceIte, Nat.reduceAdd, Nat.reduceLeDiff, true_and, and_true, and_self, true_or, or_true, false_and, and_false, false_or, or_false, eq_self, Nat.reduceEqDiff, Int.reduceEq, Int.reduceLT, Int.reduceLE, Int.reduceNeg, Int.reduceAdd, Int.reduceSub, Int.reduceMul, Int.reduceDiv, Int.reduceMod, reduceCtorEq, if_true, if_false, gm_w_id, xX8_mean_0, xX8_mean_1, xX8_mean_2, xX8_mean_5, xX8_mean_6, h1, h2]
      rfl
    · by_cases hw2 : 0 ≤ part ∧ part ≤ 1
      · rw [if_pos hw2] at hwi
        by_cases h3 : gm_many M = 0
        · refine ⟨M, he, ?_⟩
          rw [if_neg (fun z => by omega)]
          rw [h3] at c9
          simp (config := { maxSteps := 2000000 }) (disch := first | omega | assumption | (simp only [gm_isO_sF, gm_isO_sA, gm_isO_cp]; assumption)) only [gm_push, gm_iload, gm_lload, gm_aload, gm_istore, gm_astore, gm_iinc, gm_op2, gm_quo, gm_op1, gm_lop2, gm_lshl, gm_i2l, gm_l2i, gm_lcmp, gm_dup, gm_pop1, gm_dup2, gm_goto, gm_ifeq, gm_ifne, gm_iflt, gm_ifge, gm_ifgt, gm_ifle, gm_ceq, gm_cne, gm_clt, gm_cge, gm_cgt, gm_cle, gm_ifnull, gm_ifnonnull, gm_swk, gm_switch, gm_getI, gm_getR, gm_putI, gm_putZ, gm_putR, gm_new, gm_newarr, gm_iald, gm_cald, gm_zald, gm_lald, gm_aald, gm_iast, gm_cast, gm_zast, gm_last, gm_aast, gm_acp, gm_oinit, gm_back, gm_scall, gm_vcall, gm_iret, gm_zret, gm_cret, gm_lret, gm_aret, gm_vret, gm_slen, gm_schar, gm_sidx, gm_lget, gm_lset, gm_nl, gm_ent, gm_wd, gm_pop, gm_pad, gm_xl_c, gm_alen_u, gm_1_sF, gm_1_sA, gm_1_cp, gm_len_sF, gm_len_sA, gm_len_cp, Bool.or_true, Bool.true_or, gm_max_u, gm_min_u, gm_isO_sF, gm_isO_sA, gm_isO_cp, gm_gF_sF, gm_gF_sA, gm_gA_sF, gm_gA_sA, gm_gF_cp, gm_gA_cp, gm_add, gm_sub, gm_mul, gm_neg, ↓reduceIte, Nat.reduceAdd, Nat.reduceLeDiff, true_and, and_true, and_self, true_or, or_true, false_and, and_false, false_or, or_false, eq_self, Nat.reduceEqDiff, Int.reduceEq, Int.reduceLT, Int.reduceLE, Int.reduceNeg, Int.reduceAdd, Int.reduceSub, Int.reduceMul, Int.reduceDiv, Int.reduceMod, reduceCtorEq, if_true, if_false, gm_w_id, xX8_mean_0, xX8_mean_1, xX8_mean_2, xX8_mean_5, xX8_mean_6, h1, h2, c1, c2, c7, c9, hwi]
          rfl
        · obtain ⟨M2, he2, e⟩ := r_X8_mean_loop d M hI n part (by omega) ⟨by omega, by omega⟩ (by omega) (gm_many M).toNat 99998 0 0 none M he (by omega) (by omega) (by omega) (by omega) (by omega)
          rw [if_pos ⟨⟨by omega, by omega⟩, hw2, by omega⟩]
          refine ⟨M2, he2, ?_⟩
          rw [Int.zero_add] at e
          simp (config := { maxSteps := 2000000 }) (disch := first | omega | assumption | (simp only [gm_isO_sF, gm_isO_sA, gm_isO_cp]; assumption)) only [gm_push, gm_iload, gm_lload, gm_aload, gm_istore, gm_astore, gm_iinc, gm_op2, gm_quo, gm_op1, gm_lop2, gm_lshl, gm_i2l, gm_l2i, gm_lcmp, gm_dup, gm_pop1, gm_dup2, gm_goto, gm_ifeq, gm_ifne, gm_iflt, gm_ifge, gm_ifgt, gm_ifle, gm_ceq, gm_cne, gm_clt, gm_cge, gm_cgt, gm_cle, gm_ifnull, gm_ifnonnull, gm_swk, gm_switch, gm_getI, gm_getR, gm_putI, gm_putZ, gm_putR, gm_new, gm_newarr, gm_iald, gm_cald, gm_zald, gm_lald, gm_aald, gm_iast, gm_cast, gm_zast, gm_last, gm_aast, gm_acp, gm_oinit, gm_back, gm_scall, gm_vcall, gm_iret, gm_zret, gm_cret, gm_lret, gm_aret, gm_vret, gm_slen, gm_schar, gm_sidx, gm_lget, gm_lset, gm_nl, gm_ent, gm_wd, gm_pop, gm_pad, gm_xl_c, gm_alen_u, gm_1_sF, gm_1_sA, gm_1_cp, gm_len_sF, gm_len_sA, gm_len_cp, Bool.or_true, Bool.true_or, gm_max_u, gm_min_u, gm_isO_sF, gm_isO_sA, gm_isO_cp, gm_gF_sF, gm_gF_sA, gm_gA_sF, gm_gA_sA, gm_gF_cp, gm_gA_cp, gm_add, gm_sub, gm_mul, gm_neg, ↓reduceIte, Nat.reduceAdd, Nat.reduceLeDiff, true_and, and_true, and_self, true_or, or_true, false_and, and_false, false_or, or_false, eq_self, Nat.reduceEqDiff, Int.reduceEq, Int.reduceLT, Int.reduceLE, Int.reduceNeg, Int.reduceAdd, Int.reduceSub, Int.reduceMul, Int.reduceDiv, Int.reduceMod, reduceCtorEq, if_true, if_false, gm_w_id, xX8_mean_0, xX8_mean_1, xX8_mean_2, xX8_mean_5, xX8_mean_6, h1, h2, h3, c1, c2, c7, c9, hwi, hg, e]
      · rw [if_neg hw2] at hwi
        refine ⟨M, he, ?_⟩
        rw [if_neg (fun z => hw2 z.2.1)]
        simp (config := { maxSteps := 2000000 }) (disch := first | omega | assumption | (simp only [gm_isO_sF, gm_isO_sA, gm_isO_cp]; assumption)) only [gm_push, gm_iload, gm_lload, gm_aload, gm_istore, gm_astore, gm_iinc, gm_op2, gm_quo, gm_op1, gm_lop2, gm_lshl, gm_i2l, gm_l2i, gm_lcmp, gm_dup, gm_pop1, gm_dup2, gm_goto, gm_ifeq, gm_ifne, gm_iflt, gm_ifge, gm_ifgt, gm_ifle, gm_ceq, gm_cne, gm_clt, gm_cge, gm_cgt, gm_cle, gm_ifnull, gm_ifnonnull, gm_swk, gm_switch, gm_getI, gm_getR, gm_putI, gm_putZ, gm_putR, gm_new, gm_newarr, gm_iald, gm_cald, gm_zald, gm_lald, gm_aald, gm_iast, gm_cast, gm_zast, gm_last, gm_aast, gm_acp, gm_oinit, gm_back, gm_scall, gm_vcall, gm_iret, gm_zret, gm_cret, gm_lret, gm_aret, gm_vret, gm_slen, gm_schar, gm_sidx, gm_lget, gm_lset, gm_nl, gm_ent, gm_wd, gm_pop, gm_pad, gm_xl_c, gm_alen_u, gm_1_sF, gm_1_sA, gm_1_cp, gm_len_sF, gm_len_sA, gm_len_cp, Bool.or_true, Bool.true_or, gm_max_u, gm_min_u, gm_isO_sF, gm_isO_sA, gm_isO_cp, gm_gF_sF, gm_gF_sA, gm_gA_sF, gm_gA_sA, gm_gF_cp, gm_gA_cp, gm_add, gm_sub, gm_mul, gm_neg, ↓reduceIte, Nat.reduceAdd, Nat.reduceLeDiff, true_and, and_true, and_self, true_or, or_true, false_and, and_false, false_or, or_false, eq_self, Nat.reduceEqDiff, Int.reduceEq, Int.reduceLT, Int.reduceLE, Int.reduceNeg, Int.reduceAdd, Int.reduceSub, Int.reduceMul, Int.reduceDiv, Int.reduceMod, reduceCtorEq, if_true, if_false, gm_w_id, xX8_mean_0, xX8_mean_1, xX8_mean_2, xX8_mean_5, xX8_mean_6, h1, h2, c1, hwi]
        rfl
