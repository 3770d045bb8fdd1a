/-! THE LAW: its loop, its run -/
theorem gn_all_c {xs : Int → Int} {Ln : Int} (hP : gn_PvH) (hxs : ∀ i, gm_i (xs i)) (hLn : Ln ≤ 3072) : ∀ j : Nat, j < 36 → gn_cas xs Ln j := fun j hj => by
  rcases (by omega : j = 0 ∨ j = 1 ∨ j = 2 ∨ j = 3 ∨ j = 4 ∨ j = 5 ∨ j = 6 ∨ j = 7 ∨ j = 8 ∨ j = 9 ∨ j = 10 ∨ j = 11 ∨ j = 12 ∨ j = 13 ∨ j = 14 ∨ j = 15 ∨ j = 16 ∨ j = 17 ∨ j = 18 ∨ j = 19 ∨ j = 20 ∨ j = 21 ∨ j = 22 ∨ j = 23 ∨ j = 24 ∨ j = 25 ∨ j = 26 ∨ j = 27 ∨ j = 28 ∨ j = 29 ∨ j = 30 ∨ j = 31 ∨ j = 32 ∨ j = 33 ∨ j = 34 ∨ j = 35) with rfl | rfl | rfl | rfl | rfl | rfl | rfl | rfl | rfl | rfl | rfl | rfl | rfl | rfl | rfl | rfl | rfl | rfl | rfl | rfl | rfl | rfl | rfl | rfl | rfl | rfl | rfl | rfl | rfl | rfl | rfl | rfl | rfl | rfl | rfl | rfl
  · exact lc_house hP hxs hLn
  · exact lc_of hP hxs hLn
  · exact lc_set hP hxs hLn
  · exact lc_row hP hxs hLn
  · exact lc_feed hP hxs hLn
  · exact lc_ground hP hxs hLn
  · exact lc_told hP hxs hLn
  · exact lc_day hP hxs hLn
  · exact lc_on hP hxs hLn
  · exact lc_first hP hxs hLn
  · exact lc_never hP hxs hLn
  · exact lc_cap hP hxs hLn
  · exact lc_full hP hxs hLn
  · exact lc_heat hP hxs hLn
  · exact lc_big hP hxs hLn
  · exact lc_gives hP hxs hLn
  · exact lc_turn hP hxs hLn
  · exact lc_alike hP hxs hLn
  · exact lc_see hP hxs hLn
  · exact lc_leaks hP hxs hLn
  · exact lc_dry hP hxs hLn
  · exact lc_odds hP hxs hLn
  · exact lc_mean hP hxs hLn
  · exact lc_book hP hxs hLn
  · exact lc_looked hP hxs hLn
  · exact lc_judge hP hxs hLn
  · exact lc_image hP hxs hLn
  · exact lc_undo hP hxs hLn
  · exact lc_act hP hxs hLn
  · exact lc_trace hP hxs hLn
  · exact lc_taken hP hxs hLn
  · exact lc_count hP hxs hLn
  · exact lc_tape hP hxs hLn
  · exact lc_item hP hxs hLn
  · exact lc_read hP hxs hLn
  · exact lc_shift hP hxs hLn
theorem gn_alenT (C : gm_O) (J : Nat → gm_K) (N : gm_K) (L : gm_Ls) (st : List gm_V) (M : gm_M) : gm_alen C J N L (.inr (.inr 1002) :: st) M = N L (.inl (gm_len M 1002) :: st) M := by
  simp only [gm_alen]
  exact if_pos (Or.inl rfl)
theorem law_loop {xs : Int → Int} {Ln : Int} (hP : gn_PvH) (hxs : ∀ i, gm_i (xs i)) (hLn : 0 ≤ Ln ∧ Ln ≤ 3072) (d : Nat) : ∀ (k : Nat) (i : Int) (M : gm_M) (F : Nat), gn_Inv M → gm_pu xs Ln M → 0 ≤ i → i ≤ Ln → Ln - i ≤ 6 * (k : Int) → 3 * k + 5 ≤ F → ∃ M', gm_ex (gm_go (d + 40)) qL_law F 1 (gn_ll i) [] M = some (some (.inl 1), M') ∧ gn_Inv M' := by
  intro k
  induction k with
  | zero =>
    intro i M F hI hp h0 h1 hk hF
    obtain ⟨F, rfl⟩ : ∃ g, F = g + 2 := ⟨F - 2, by omega⟩
    have hT : gm_isT 1002 = true := rfl
    have hl : gm_len M 1002 = Ln := hp.2.2.2
    refine ⟨M, ?_, hI⟩
    have c1 : Ln - 6 < i := by omega
    unfold gn_ll
    rw [xL_law_1]
    simp (config := { maxSteps := 2000000 }) (disch := first | omega | assumption | (simp only [gm_isO_sF, gm_isO_sA, gm_isO_cp]; assumption)) only [gm_push, gm_iload, gm_lload, gm_aload, gm_istore, gm_astore, gm_iinc, gm_op2, gm_quo, gm_op1, gm_lop2, gm_lshl, gm_i2l, gm_l2i, gm_lcmp, gm_dup, gm_pop1, gm_dup2, gm_goto, gm_ifeq, gm_ifne, gm_iflt, gm_ifge, gm_ifgt, gm_ifle, gm_ceq, gm_cne, gm_clt, gm_cge, gm_cgt, gm_cle, gm_ifnull, gm_ifnonnull, gm_swk, gm_switch, gm_getI, gm_getR, gm_putI, gm_putZ, gm_putR, gm_new, gm_newarr, gm_iald, gm_cald, gm_zald, gm_lald, gm_aald, gm_iast, gm_cast, gm_zast, gm_last, gm_aast, gm_acp, gm_oinit, gm_back, gm_scall, gm_vcall, gm_iret, gm_zret, gm_cret, gm_lret, gm_aret, gm_vret, gm_slen, gm_schar, gm_sidx, gm_lget, gm_lset, gm_nl, gm_ent, gm_wd, gm_pop, gm_pad, gm_xl_c, gm_alen_u, gm_1_sF, gm_1_sA, gm_1_cp, gm_len_sF, gm_len_sA, gm_len_cp, Bool.or_true, Bool.true_or, gm_max_u, gm_min_u, gm_isO_sF, gm_isO_sA, gm_isO_cp, gm_gF_sF, gm_gF_sA, gm_gA_sF, gm_gA_sA, gm_gF_cp, gm_gA_cp, gm_add, gm_sub, gm_mul, gm_neg, ↓reduceIte, Nat.reduceAdd, Nat.reduceLeDiff, true_and, and_true, and_self, true_or, or_true, false_and, and_false, false_or, or_false, eq_self, Nat.reduceEqDiff, Int.reduceEq, Int.reduceLT, Int.reduceLE, Int.reduceNeg, Int.reduceAdd, Int.reduceSub, Int.reduceMul, Int.reduceDiv, Int.reduceMod, reduceCtorEq, if_true, if_false, gm_w_id, gn_alenT, xL_law_39, hT, hl, c1]
  | succ k ih =>
    intro i M F hI hp h0 h1 hk hF
    obtain ⟨F, rfl⟩ : ∃ g, F = g + 3 := ⟨F - 3, by omega⟩
    have hT : gm_isT 1002 = true := rfl
    have hl : gm_len M 1002 = Ln := hp.2.2.2
    by_cases c1 : Ln - 6 < i
    · refine ⟨M, ?_, hI⟩
      unfold gn_ll
      rw [xL_law_1]
      simp (config := { maxSteps := 2000000 }) (disch := first | omega | assumption | (simp only [gm_isO_sF, gm_isO_sA, gm_isO_cp]; assumption)) only [gm_push, gm_iload, gm_lload, gm_aload, gm_istore, gm_astore, gm_iinc, gm_op2, gm_quo, gm_op1, gm_lop2, gm_lshl, gm_i2l, gm_l2i, gm_lcmp, gm_dup, gm_pop1, gm_dup2, gm_goto, gm_ifeq, gm_ifne, gm_iflt, gm_ifge, gm_ifgt, gm_ifle, gm_ceq, gm_cne, gm_clt, gm_cge, gm_cgt, gm_cle, gm_ifnull, gm_ifnonnull, gm_swk, gm_switch, gm_getI, gm_getR, gm_putI, gm_putZ, gm_putR, gm_new, gm_newarr, gm_iald, gm_cald, gm_zald, gm_lald, gm_aald, gm_iast, gm_cast, gm_zast, gm_last, gm_aast, gm_acp, gm_oinit, gm_back, gm_scall, gm_vcall, gm_iret, gm_zret, gm_cret, gm_lret, gm_aret, gm_vret, gm_slen, gm_schar, gm_sidx, gm_lget, gm_lset, gm_nl, gm_ent, gm_wd, gm_pop, gm_pad, gm_xl_c, gm_alen_u, gm_1_sF, gm_1_sA, gm_1_cp, gm_len_sF, gm_len_sA, gm_len_cp, Bool.or_true, Bool.true_or, gm_max_u, gm_min_u, gm_isO_sF, gm_isO_sA, gm_isO_cp, gm_gF_sF, gm_gF_sA, gm_gA_sF, gm_gA_sA, gm_gF_cp, gm_gA_cp, gm_add, gm_sub, gm_mul, gm_neg, ↓reduceIte, Nat.reduceAdd, Nat.reduceLeDiff, true_and, and_true, and_self, true_or, or_true, false_and, and_false, false_or, or_false, eq_self, Nat.reduceEqDiff, Int.reduceEq, Int.reduceLT, Int.reduceLE, Int.reduceNeg, Int.reduceAdd, Int.reduceSub, Int.reduceMul, Int.reduceDiv, Int.reduceMod, reduceCtorEq, if_true, if_false, gm_w_id, gn_alenT, xL_law_39, hT, hl, c1]
    · obtain ⟨a0, b0⟩ := gn_rd hp hLn.2 (j := i) h0 (by omega)
      obtain ⟨s, hs⟩ : ∃ s, gm_w (gm_and (xs i) 63) = s := ⟨_, rfl⟩
      by_cases c2 : 0 ≤ s ∧ s < 36
      · obtain ⟨j, rfl⟩ : ∃ j : Nat, s = j := ⟨s.toNat, by omega⟩
        have hj : j < 36 := by omega
        obtain ⟨M2, e, hI2, hp2⟩ := gn_all_c hP hxs hLn.2 j hj d i M hI hp h0 (by omega)
        obtain ⟨M', e', hI'⟩ := ih (i + 6) M2 F hI2 hp2 (by omega) (by omega) (by omega) (by omega)
        refine ⟨M', ?_, hI'⟩
        rw [← e', ← e F]
        have st : gm_ex (gm_go (d + 40)) qL_law (F + 3) 1 (gn_ll i) [] M = gm_swk (gm_ex (gm_go (d + 40)) qL_law (F + 2)) 38 (j : Int) [(0, 2), (1, 3), (2, 4), (3, 5), (4, 6), (5, 7), (6, 8), (7, 9), (8, 10), (9, 11), (10, 12), (11, 13), (12, 14), (13, 15), (14, 16), (15, 17), (16, 18), (17, 19), (18, 20), (19, 21), (20, 22), (21, 23), (22, 24), (23, 25), (24, 26), (25, 27), (26, 28), (27, 29), (28, 30), (29, 31), (30, 32), (31, 33), (32, 34), (33, 35), (34, 36), (35, 37)] (gn_ll i) [] M := by
          unfold gn_ll
          rw [xL_law_1]
          simp (config := { maxSteps := 2000000 }) (disch := omega) only [gm_xl, gm_iload, gm_aload, gm_alen, gm_push, gm_op2, gm_cgt, gm_iald, gm_lget, gm_sub, gm_switch, gm_w_id, hT, hl, c1, a0, b0, hs, true_or, Bool.true_or, if_true, if_false, and_self, ↓reduceIte, gm_xl_c]
        rw [st]
        rcases (by omega : j = 0 ∨ j = 1 ∨ j = 2 ∨ j = 3 ∨ j = 4 ∨ j = 5 ∨ j = 6 ∨ j = 7 ∨ j = 8 ∨ j = 9 ∨ j = 10 ∨ j = 11 ∨ j = 12 ∨ j = 13 ∨ j = 14 ∨ j = 15 ∨ j = 16 ∨ j = 17 ∨ j = 18 ∨ j = 19 ∨ j = 20 ∨ j = 21 ∨ j = 22 ∨ j = 23 ∨ j = 24 ∨ j = 25 ∨ j = 26 ∨ j = 27 ∨ j = 28 ∨ j = 29 ∨ j = 30 ∨ j = 31 ∨ j = 32 ∨ j = 33 ∨ j = 34 ∨ j = 35) with rfl | rfl | rfl | rfl | rfl | rfl | rfl | rfl | rfl | rfl | rfl | rfl | rfl | rfl | rfl | rfl | rfl | rfl | rfl | rfl | rfl | rfl | rfl | rfl | rfl | rfl | rfl | rfl | rfl | rfl | rfl | rfl | rfl | rfl | rfl | rfl <;> rfl
      · obtain ⟨M', e', hI'⟩ := ih (i + 6) M (F + 1) hI hp (by omega) (by omega) (by omega) (by omega)
        refine ⟨M', ?_, hI'⟩
        have n1 : ∀ y : Int, 0 ≤ y → y ≤ 35 → (s = y) = False := fun y y1 y2 => eq_false (by omega)
        rw [← e']
        unfold gn_ll
        rw [xL_law_1]
        simp (config := { maxSteps := 2000000 }) (disch := first | omega | assumption | (simp only [gm_isO_sF, gm_isO_sA, gm_isO_cp]; assumption)) only [gm_push, gm_iload, gm_lload, gm_aload, gm_istore, gm_astore, gm_iinc, gm_op2, gm_quo, gm_op1, gm_lop2, gm_lshl, gm_i2l, gm_l2i, gm_lcmp, gm_dup, gm_pop1, gm_dup2, gm_goto, gm_ifeq, gm_ifne, gm_iflt, gm_ifge, gm_ifgt, gm_ifle, gm_ceq, gm_cne, gm_clt, gm_cge, gm_cgt, gm_cle, gm_ifnull, gm_ifnonnull, gm_swk, gm_switch, gm_getI, gm_getR, gm_putI, gm_putZ, gm_putR, gm_new, gm_newarr, gm_iald, gm_cald, gm_zald, gm_lald, gm_aald, gm_iast, gm_cast, gm_zast, gm_last, gm_aast, gm_acp, gm_oinit, gm_back, gm_scall, gm_vcall, gm_iret, gm_zret, gm_cret, gm_lret, gm_aret, gm_vret, gm_slen, gm_schar, gm_sidx, gm_lget, gm_lset, gm_nl, gm_ent, gm_wd, gm_pop, gm_pad, gm_xl_c, gm_alen_u, gm_1_sF, gm_1_sA, gm_1_cp, gm_len_sF, gm_len_sA, gm_len_cp, Bool.or_true, Bool.true_or, gm_max_u, gm_min_u, gm_isO_sF, gm_isO_sA, gm_isO_cp, gm_gF_sF, gm_gF_sA, gm_gA_sF, gm_gA_sA, gm_gF_cp, gm_gA_cp, gm_add, gm_sub, gm_mul, gm_neg, ↓reduceIte, Nat.reduceAdd, Nat.reduceLeDiff, true_and, and_true, and_self, true_or, or_true, false_and, and_false, false_or, or_false, eq_self, Nat.reduceEqDiff, Int.reduceEq, Int.reduceLT, Int.reduceLE, Int.reduceNeg, Int.reduceAdd, Int.reduceSub, Int.reduceMul, Int.reduceDiv, Int.reduceMod, reduceCtorEq, if_true, if_false, gm_w_id, Bool.true_or, gn_alenT, xL_law_38, hT, hl, c1, a0, b0, hs, n1 0 (by decide) (by decide), n1 1 (by decide) (by decide), n1 2 (by decide) (by decide), n1 3 (by decide) (by decide), n1 4 (by decide) (by decide), n1 5 (by decide) (by decide), n1 6 (by decide) (by decide), n1 7 (by decide) (by decide), n1 8 (by decide) (by decide), n1 9 (by decide) (by decide), n1 10 (by decide) (by decide), n1 11 (by decide) (by decide), n1 12 (by decide) (by decide), n1 13 (by decide) (by decide), n1 14 (by decide) (by decide), n1 15 (by decide) (by decide), n1 16 (by decide) (by decide), n1 17 (by decide) (by decide), n1 18 (by decide) (by decide), n1 19 (by decide) (by decide), n1 20 (by decide) (by decide), n1 21 (by decide) (by decide), n1 22 (by decide) (by decide), n1 23 (by decide) (by decide), n1 24 (by decide) (by decide), n1 25 (by decide) (by decide), n1 26 (by decide) (by decide), n1 27 (by decide) (by decide), n1 28 (by decide) (by decide), n1 29 (by decide) (by decide), n1 30 (by decide) (by decide), n1 31 (by decide) (by decide), n1 32 (by decide) (by decide), n1 33 (by decide) (by decide), n1 34 (by decide) (by decide), n1 35 (by decide) (by decide)]
theorem gn_o8_n : gn_alc gn_o8 = 146 := by decide +kernel
theorem gn_ops_c (q : Nat × Int × Int × Int) (l : List (Nat × Int × Int × Int)) (M : gm_M) : gn_ops (q :: l) M = gn_ops l (gn_op1 M q) := rfl
theorem gn_op1_0 (M : gm_M) : gn_op1 M (0, 0, 0, 0) = gm_al M := rfl
/-- the memory at the law's start -/
def gn_M0 (xs : Int → Int) (Ln : Int) : gm_M := (0, fun f o => if f = 9999 ∧ o = 0 then Ln else 0, fun a i => if a = 1000 then gm_abv i else if a = 1001 then gm_bod i else if a = 1002 then xs i else 0)
theorem gn_M0_pu (xs : Int → Int) (Ln : Int) : gm_pu xs Ln (gn_M0 xs Ln) := ⟨fun i => rfl, fun i => rfl, fun i => rfl, rfl⟩
theorem law_ex {xs : Int → Int} {Ln : Int} (hP : gn_PvH) (hxs : ∀ i, gm_i (xs i)) (hLn : 0 ≤ Ln ∧ Ln ≤ 3072) : ∃ M', gm_ex (gm_go 60) qL_law 100000 0 (gm_pad 4 (gm_ent [.inr (.inr 1002)])) [] (gn_M0 xs Ln) = some (some (.inl 1), M') ∧ M'.1 = 188 := by
  obtain ⟨M1, hM1⟩ : ∃ M1, M1 = gn_ops gn_o8 (gm_al (gn_M0 xs Ln)) := ⟨_, rfl⟩
  obtain ⟨M2, hM2⟩ : ∃ M2, M2 = gn_ops gn_o9 (gm_al M1) := ⟨_, rfl⟩
  have m1 : M1.1 = 147 := by rw [hM1, gn_ops_1, gn_o8_n]; rfl
  have e1 : gm_go 60 53 [.inr (.inr 1)] (gm_al (gn_M0 xs Ln)) = some (none, M1) := by
    rw [hM1]
    exact i_X8_init 55 (gm_al (gn_M0 xs Ln)).2.1 (gm_al (gn_M0 xs Ln)).2.2
  have h2 : gm_al M1 = (148, (gm_al M1).2.1, (gm_al M1).2.2) := Prod.ext (by show M1.1 + 1 = 148; rw [m1]) rfl
  have e2 : gm_go 60 99 [.inr (.inr 148)] (gm_al M1) = some (none, M2) := by
    rw [hM2, h2]
    exact i_X9_init 58 _ _
  have eM : M2 = gn_ops gn_oL (gn_M0 xs Ln) := by
    rw [hM2, hM1]
    unfold gn_oL
    rw [gn_ops_c, gn_op1_0, gn_ops_app, gn_ops_c, gn_op1_0]
  obtain ⟨s1, s2, s3⟩ := gn_start (M := gn_M0 xs Ln) rfl
  rw [← eM] at s1 s2 s3
  have hp2 : gm_pu xs Ln M2 := gn_pu.e (fun a i z => s3 a i (by omega)) (s2 9999 0 (by omega)) (gn_M0_pu xs Ln)
  obtain ⟨M', e3, hI'⟩ := law_loop hP hxs hLn 20 600 0 M2 99999 s1 hp2 (by decide) hLn.1 (by omega) (by decide)
  refine ⟨M', ?_, hI'.L.1⟩
  rw [← e3]
  have n1 : (gn_M0 xs Ln).1 < gm_NX ∧ (gm_sh ((gn_M0 xs Ln).1 + 1)).1 = 8 := ⟨by show (0 : Nat) < gm_NX; decide, by show (gm_sh 1).1 = 8; decide⟩
  have n2 : M1.1 < gm_NX ∧ (gm_sh (M1.1 + 1)).1 = 9 := by rw [m1]; decide
  have c1 : (((gn_M0 xs Ln).1 + 1 : Nat) : Int) = 1 := rfl
  have c2 : ((M1.1 + 1 : Nat) : Int) = 148 := by rw [m1]; rfl
  have o1 : gm_isO 8 (gm_al (gn_M0 xs Ln)) 1 = true := by rfl
  have o2 : gm_isO 9 (gm_al M1) 148 = true := by rw [h2]; rfl
  unfold gn_ll
  rw [xL_law_0]
  simp (config := { maxSteps := 2000000 }) (disch := first | omega | assumption | (simp only [gm_isO_sF, gm_isO_sA, gm_isO_cp]; assumption)) only [gm_push, gm_iload, gm_lload, gm_aload, gm_istore, gm_astore, gm_iinc, gm_op2, gm_quo, gm_op1, gm_lop2, gm_lshl, gm_i2l, gm_l2i, gm_lcmp, gm_dup, gm_pop1, gm_dup2, gm_goto, gm_ifeq, gm_ifne, gm_iflt, gm_ifge, gm_ifgt, gm_ifle, gm_ceq, gm_cne, gm_clt, gm_cge, gm_cgt, gm_cle, gm_ifnull, gm_ifnonnull, gm_swk, gm_switch, gm_getI, gm_getR, gm_putI, gm_putZ, gm_putR, gm_new, gm_newarr, gm_iald, gm_cald, gm_zald, gm_lald, gm_aald, gm_iast, gm_cast, gm_zast, gm_last, gm_aast, gm_acp, gm_oinit, gm_back, gm_scall, gm_vcall, gm_iret, gm_zret, gm_cret, gm_lret, gm_aret, gm_vret, gm_slen, gm_schar, gm_sidx, gm_lget, gm_lset, gm_nl, gm_ent, gm_wd, gm_pop, gm_pad, gm_xl_c, gm_alen_u, gm_1_sF, gm_1_sA, gm_1_cp, gm_len_sF, gm_len_sA, gm_len_cp, Bool.or_true, Bool.true_or, gm_max_u, gm_min_u, gm_isO_sF, gm_isO_sA, gm_isO_cp, gm_gF_sF, gm_gF_sA, gm_gA_sF, gm_gA_sA, gm_gF_cp, gm_gA_cp, gm_add, gm_sub, gm_mul, gm_neg, ↓reduceIte, Nat.reduceAdd, Nat.reduceLeDiff, true_and, and_true, and_self, true_or, or_true, false_and, and_false, false_or, or_false, eq_self, Nat.reduceEqDiff, Int.reduceEq, Int.reduceLT, Int.reduceLE, Int.reduceNeg, Int.reduceAdd, Int.reduceSub, Int.reduceMul, Int.reduceDiv, Int.reduceMod, reduceCtorEq, if_true, if_false, n1, n2, c1, c2, o1, o2, e1, e2]
theorem gn_pv (D : va_G) (sz : Nat) (ad : Nat → Nat) (cA : Nat → ClassId) (xs : Int → Int) (Ln : Int) (l : Launch) : gn_PvH := fun d mid as M r M' hM h => by
  have k := gm_rn_pv (fun mid h => gm_fa_at 187 0 (gm_tall D sz ad cA xs Ln l) mid (Nat.zero_le _) (by rw [Nat.zero_add]; exact h)) d mid as M r M' hM h
  exact ⟨(gm_go_snd (D := D) (sz := sz) (ad := ad) (cA := cA) (xs := xs) (Ln := Ln) (l := l) d).1 _ _ _ _ _ h, fun a i z => k.2.1 a i z, k.2.2⟩
