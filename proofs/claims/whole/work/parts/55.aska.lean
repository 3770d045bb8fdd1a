/-! THE CLASS: leaks -/
theorem gn_itr_ok {M : gm_M} (hI : gm_CI M) {n room leak : Int} (h1 : 0 ≤ n) (h2 : n < gm_many M) (hr : 0 ≤ room ∧ room ≤ 5000) (hl : 0 ≤ leak ∧ leak ≤ 100) {q : Int × Int} (hq : gm_pok q) : ∀ j, gm_pok (gn_itr M n room leak q j)
  | 0 => hq
  | j + 1 => gm_stD_ok hI h1 h2 hr hl (gn_itr_ok hI h1 h2 hr hl hq j)
/-- as was seen, from this day on -/
def gn_ias (M : gm_M) (n room leak : Int) (q : Int × Int) (L x : Int) : Prop := ∀ j, x ≤ j → j ≤ L → gn_wss M n j (gn_itr M n room leak q j.toNat).2 0
theorem gn_num {M : gm_M} (hI : gm_CI M) {n : Int} (h1 : 0 ≤ n) (h2 : n < gm_many M) : gm_gF M 200 (8 + 3 * n) = n := (hI.2.2.2.2.2.1 n h1 h2).2
theorem r_X8_isAsSeen_loop (d : Nat) (M : gm_M) (hI : gm_CI M) (hC : gn_CB M) (n room leak L : Int) (q : Int × Int) (h1 : 0 ≤ n) (h2 : n < gm_many M) (hL : -1 ≤ L ∧ L ≤ 30) (hr : 0 ≤ room ∧ room ≤ 5000) (hl : 0 ≤ leak ∧ leak ≤ 100) (hq : gm_pok q) : ∀ (k f : Nat) (x : Int) (M1 : gm_M), gm_Ec M M1 → gm_As M n 74 room leak (gn_itr M n room leak q (x.toNat - 1)) M1 → 4 * (k + 2) ≤ f → x = L + 1 - k → 0 ≤ x →
    ∃ M2, gm_Ec M M2 ∧ gm_ex (gm_go (d + 5)) qX8_isAsSeen f 1 [some (.inr (.inr 1)), some (.inr (.inr 74)), some (.inr (.inr (gm_gr M))), some (.inl L), some (.inl x)] [] M1 = some (some (.inl (gn_b (gn_ias M n room leak q L x))), M2) := by
  have hm := hI.2.1
  have hd := hI.2.2.1
  intro k
  induction k with
  | zero =>
    intro f x M1 he hA hf hx h0
    obtain ⟨f, rfl⟩ : ∃ g, f = g + 3 := ⟨f - 3, by omega⟩
    refine ⟨M1, he, ?_⟩
    have hx' : L < x := by omega
    rw [gn_b1 (p := gn_ias M n room leak q L x) (fun j j1 j2 => by omega), xX8_isAsSeen_1]
    simp (config := { maxSteps := 2000000 }) (disch := first | omega | assumption | (simp only [gm_isO_sF, gm_isO_sA, gm_isO_cp]; assumption)) only [gm_push, gm_iload, gm_lload, gm_aload, gm_istore, gm_astore, gm_iinc, gm_op2, gm_quo, gm_op1, gm_lop2, gm_lshl, gm_i2l, gm_l2i, gm_lcmp, gm_dup, gm_pop1, gm_dup2, gm_goto, gm_ifeq, gm_ifne, gm_iflt, gm_ifge, gm_ifgt, gm_ifle, gm_ceq, gm_cne, gm_clt, gm_cge, gm_cgt, gm_cle, gm_ifnull, gm_ifnonnull, gm_swk, gm_switch, gm_getI, gm_getR, gm_putI, gm_putZ, gm_putR, gm_new, gm_newarr, gm_iald, gm_cald, gm_zald, gm_lald, gm_aald, gm_iast, gm_cast, gm_zast, gm_last, gm_aast, gm_acp, gm_oinit, gm_back, gm_scall, gm_vcall, gm_iret, gm_zret, gm_cret, gm_lret, gm_aret, gm_vret, gm_slen, gm_schar, gm_sidx, gm_lget, gm_lset, gm_nl, gm_ent, gm_wd, gm_pop, gm_pad, gm_xl_c, gm_alen_u, gm_1_sF, gm_1_sA, gm_1_cp, gm_len_sF, gm_len_sA, gm_len_cp, Bool.or_true, Bool.true_or, gm_max_u, gm_min_u, gm_isO_sF, gm_isO_sA, gm_isO_cp, gm_gF_sF, gm_gF_sA, gm_gA_sF, gm_gA_sA, gm_gF_cp, gm_gA_cp, gm_add, gm_sub, gm_mul, gm_neg, ↓reduceIte, Nat.reduceAdd, Nat.reduceLeDiff, true_and, and_true, and_self, true_or, or_true, false_and, and_false, false_or, or_false, eq_self, Nat.reduceEqDiff, Int.reduceEq, Int.reduceLT, Int.reduceLE, Int.reduceNeg, Int.reduceAdd, Int.reduceSub, Int.reduceMul, Int.reduceDiv, Int.reduceMod, reduceCtorEq, if_true, if_false, gm_w_id, xX8_isAsSeen_0, xX8_isAsSeen_2, xX8_isAsSeen_3, xX8_isAsSeen_4, hx']
  | succ k ih =>
    intro f x M1 he hA hf hx h0
    obtain ⟨f, rfl⟩ : ∃ g, f = g + 4 := ⟨f - 4, by omega⟩
    obtain ⟨c1, c2, c3, c4, c5, c6, c7, c8, c9, c10, c11, c12, c13⟩ := gm_cx hI he
    have hx' : ¬ L < x := by omega
    -- behind the day, if there is one
    have key : ∀ (g : Nat) (M2 : gm_M), g = f + 2 → gm_Ec M M2 → gm_As M n 74 room leak (gn_itr M n room leak q x.toNat) M2 →
        ∃ M3, gm_Ec M M3 ∧ gm_ex (gm_go (d + 5)) qX8_isAsSeen (g + 1) 2 [some (.inr (.inr 1)), some (.inr (.inr 74)), some (.inr (.inr (gm_gr M))), some (.inl L), some (.inl x)] [] M2 = some (some (.inl (gn_b (gn_ias M n room leak q L x))), M3) := by
      intro g M2 hg he2 hA2
      obtain ⟨p1, p2, p3, p4, p5, p6, p7, p8, p9, p10, p11, p12, p13⟩ := gm_cx hI he2
      have hok := gn_itr_ok hI h1 h2 hr hl hq x.toNat
      have f1 : gm_gF M2 200 74 = n := by rw [hA2.1.1, gn_num hI h1 h2]
      have f2 : gm_gF M2 500 75 = (gn_itr M n room leak q x.toNat).2 := hA2.2.2.1
      have l1 : gm_gF M2 205 74 = 75 := gm_l205 he2.1 p3
      have k1 : gm_isO 5 M2 75 = true := gm_k205 he2.1 p3
      have hw := r_X7_wasSeenSo (d + 4) M M2 hI hC he2 n x (gn_itr M n room leak q x.toNat).2 ⟨by omega, by omega⟩ ⟨by omega, by omega⟩ ⟨by have := hok.2; omega, by have := hok.2; omega⟩
      obtain ⟨M3, he3, e3⟩ := ih (g - 1) (x + 1) M2 he2 (by rw [show (x + 1).toNat - 1 = x.toNat by omega]; exact hA2) (by omega) (by omega) (by omega)
      subst hg
      rw [show f + 2 - 1 = f + 1 by omega] at e3
      by_cases hz : gn_wss M n x (gn_itr M n room leak q x.toNat).2 0
      · refine ⟨M3, he3, ?_⟩
        rw [gn_b1 hz] at hw
        rw [gn_b_if (q := gn_ias M n room leak q L (x + 1)) ⟨fun z j j1 j2 => z j (by omega) j2, fun z j j1 j2 => by
          by_cases hjx : j = x
          · subst hjx; exact hz
          · exact z j (by omega) j2⟩]
        rw [xX8_isAsSeen_2]
        simp (config := { maxSteps := 2000000 }) (disch := first | omega | assumption | (simp only [gm_isO_sF, gm_isO_sA, gm_isO_cp]; assumption)) only [gm_push, gm_iload, gm_lload, gm_aload, gm_istore, gm_astore, gm_iinc, gm_op2, gm_quo, gm_op1, gm_lop2, gm_lshl, gm_i2l, gm_l2i, gm_lcmp, gm_dup, gm_pop1, gm_dup2, gm_goto, gm_ifeq, gm_ifne, gm_iflt, gm_ifge, gm_ifgt, gm_ifle, gm_ceq, gm_cne, gm_clt, gm_cge, gm_cgt, gm_cle, gm_ifnull, gm_ifnonnull, gm_swk, gm_switch, gm_getI, gm_getR, gm_putI, gm_putZ, gm_putR, gm_new, gm_newarr, gm_iald, gm_cald, gm_zald, gm_lald, gm_aald, gm_iast, gm_cast, gm_zast, gm_last, gm_aast, gm_acp, gm_oinit, gm_back, gm_scall, gm_vcall, gm_iret, gm_zret, gm_cret, gm_lret, gm_aret, gm_vret, gm_slen, gm_schar, gm_sidx, gm_lget, gm_lset, gm_nl, gm_ent, gm_wd, gm_pop, gm_pad, gm_xl_c, gm_alen_u, gm_1_sF, gm_1_sA, gm_1_cp, gm_len_sF, gm_len_sA, gm_len_cp, Bool.or_true, Bool.true_or, gm_max_u, gm_min_u, gm_isO_sF, gm_isO_sA, gm_isO_cp, gm_gF_sF, gm_gF_sA, gm_gA_sF, gm_gA_sA, gm_gF_cp, gm_gA_cp, gm_add, gm_sub, gm_mul, gm_neg, ↓reduceIte, Nat.reduceAdd, Nat.reduceLeDiff, true_and, and_true, and_self, true_or, or_true, false_and, and_false, false_or, or_false, eq_self, Nat.reduceEqDiff, Int.reduceEq, Int.reduceLT, Int.reduceLE, Int.reduceNeg, Int.reduceAdd, Int.reduceSub, Int.reduceMul, Int.reduceDiv, Int.reduceMod, reduceCtorEq, if_true, if_false, gm_w_id, xX8_isAsSeen_3, p1, p2, p3, p7, f1, f2, l1, k1, hw, e3]
      · refine ⟨M2, he2, ?_⟩
        rw [gn_b0 hz] at hw
        rw [gn_b0 (p := gn_ias M n room leak q L x) (fun z => hz (z x (by omega) (by omega)))]
        rw [xX8_isAsSeen_2]
        simp (config := { maxSteps := 2000000 }) (disch := first | omega | assumption | (simp only [gm_isO_sF, gm_isO_sA, gm_isO_cp]; assumption)) only [gm_push, gm_iload, gm_lload, gm_aload, gm_istore, gm_astore, gm_iinc, gm_op2, gm_quo, gm_op1, gm_lop2, gm_lshl, gm_i2l, gm_l2i, gm_lcmp, gm_dup, gm_pop1, gm_dup2, gm_goto, gm_ifeq, gm_ifne, gm_iflt, gm_ifge, gm_ifgt, gm_ifle, gm_ceq, gm_cne, gm_clt, gm_cge, gm_cgt, gm_cle, gm_ifnull, gm_ifnonnull, gm_swk, gm_switch, gm_getI, gm_getR, gm_putI, gm_putZ, gm_putR, gm_new, gm_newarr, gm_iald, gm_cald, gm_zald, gm_lald, gm_aald, gm_iast, gm_cast, gm_zast, gm_last, gm_aast, gm_acp, gm_oinit, gm_back, gm_scall, gm_vcall, gm_iret, gm_zret, gm_cret, gm_lret, gm_aret, gm_vret, gm_slen, gm_schar, gm_sidx, gm_lget, gm_lset, gm_nl, gm_ent, gm_wd, gm_pop, gm_pad, gm_xl_c, gm_alen_u, gm_1_sF, gm_1_sA, gm_1_cp, gm_len_sF, gm_len_sA, gm_len_cp, Bool.or_true, Bool.true_or, gm_max_u, gm_min_u, gm_isO_sF, gm_isO_sA, gm_isO_cp, gm_gF_sF, gm_gF_sA, gm_gA_sF, gm_gA_sA, gm_gF_cp, gm_gA_cp, gm_add, gm_sub, gm_mul, gm_neg, ↓reduceIte, Nat.reduceAdd, Nat.reduceLeDiff, true_and, and_true, and_self, true_or, or_true, false_and, and_false, false_or, or_false, eq_self, Nat.reduceEqDiff, Int.reduceEq, Int.reduceLT, Int.reduceLE, Int.reduceNeg, Int.reduceAdd, Int.reduceSub, Int.reduceMul, Int.reduceDiv, Int.reduceMod, reduceCtorEq, if_true, if_false, gm_w_id, xX8_isAsSeen_3, p1, p2, p3, p7, f1, f2, l1, k1, hw]
    by_cases hx0 : x = 0
    · subst hx0
      obtain ⟨M3, he3, e3⟩ := key (f + 2) M1 rfl he hA
      refine ⟨M3, he3, ?_⟩
      rw [xX8_isAsSeen_1]
      simp (config := { maxSteps := 2000000 }) (disch := first | omega | assumption | (simp only [gm_isO_sF, gm_isO_sA, gm_isO_cp]; assumption)) only [gm_push, gm_iload, gm_lload, gm_aload, gm_istore, gm_astore, gm_iinc, gm_op2, gm_quo, gm_op1, gm_lop2, gm_lshl, gm_i2l, gm_l2i, gm_lcmp, gm_dup, gm_pop1, gm_dup2, gm_goto, gm_ifeq, gm_ifne, gm_iflt, gm_ifge, gm_ifgt, gm_ifle, gm_ceq, gm_cne, gm_clt, gm_cge, gm_cgt, gm_cle, gm_ifnull, gm_ifnonnull, gm_swk, gm_switch, gm_getI, gm_getR, gm_putI, gm_putZ, gm_putR, gm_new, gm_newarr, gm_iald, gm_cald, gm_zald, gm_lald, gm_aald, gm_iast, gm_cast, gm_zast, gm_last, gm_aast, gm_acp, gm_oinit, gm_back, gm_scall, gm_vcall, gm_iret, gm_zret, gm_cret, gm_lret, gm_aret, gm_vret, gm_slen, gm_schar, gm_sidx, gm_lget, gm_lset, gm_nl, gm_ent, gm_wd, gm_pop, gm_pad, gm_xl_c, gm_alen_u, gm_1_sF, gm_1_sA, gm_1_cp, gm_len_sF, gm_len_sA, gm_len_cp, Bool.or_true, Bool.true_or, gm_max_u, gm_min_u, gm_isO_sF, gm_isO_sA, gm_isO_cp, gm_gF_sF, gm_gF_sA, gm_gA_sF, gm_gA_sA, gm_gF_cp, gm_gA_cp, gm_add, gm_sub, gm_mul, gm_neg, ↓reduceIte, Nat.reduceAdd, Nat.reduceLeDiff, true_and, and_true, and_self, true_or, or_true, false_and, and_false, false_or, or_false, eq_self, Nat.reduceEqDiff, Int.reduceEq, Int.reduceLT, Int.reduceLE, Int.reduceNeg, Int.reduceAdd, Int.reduceSub, Int.reduceMul, Int.reduceDiv, Int.reduceMod, reduceCtorEq, if_true, if_false, gm_w_id, hx']
      exact e3
    · obtain ⟨e1, he1, hA1⟩ := gm_pass_As hI he d h1 h2 (Or.inl rfl) hA (day := gm_day M + x - 1) (dust := 0) (by omega) (by decide)
      simp only [Int.reduceAdd] at e1 he1 hA1
      have hit : gm_stD M n room leak (gm_day M + x - 1) 0 (gn_itr M n room leak q (x.toNat - 1)) = gn_itr M n room leak q x.toNat := by
        rw [show gn_itr M n room leak q x.toNat = gn_itr M n room leak q ((x.toNat - 1) + 1) by rw [show x.toNat - 1 + 1 = x.toNat by omega]]
        rw [gn_itr, show gm_day M + ((x.toNat - 1 : Nat) : Int) = gm_day M + x - 1 by omega]
      rw [hit] at e1 he1 hA1
      obtain ⟨M3, he3, e3⟩ := key (f + 2) _ rfl he1 hA1
      have hxp : 0 < x := by omega
      refine ⟨M3, he3, ?_⟩
      rw [xX8_isAsSeen_1]
      simp (config := { maxSteps := 2000000 }) (disch := first | omega | assumption | (simp only [gm_isO_sF, gm_isO_sA, gm_isO_cp]; assumption)) only [gm_push, gm_iload, gm_lload, gm_aload, gm_istore, gm_astore, gm_iinc, gm_op2, gm_quo, gm_op1, gm_lop2, gm_lshl, gm_i2l, gm_l2i, gm_lcmp, gm_dup, gm_pop1, gm_dup2, gm_goto, gm_ifeq, gm_ifne, gm_iflt, gm_ifge, gm_ifgt, gm_ifle, gm_ceq, gm_cne, gm_clt, gm_cge, gm_cgt, gm_cle, gm_ifnull, gm_ifnonnull, gm_swk, gm_switch, gm_getI, gm_getR, gm_putI, gm_putZ, gm_putR, gm_new, gm_newarr, gm_iald, gm_cald, gm_zald, gm_lald, gm_aald, gm_iast, gm_cast, gm_zast, gm_last, gm_aast, gm_acp, gm_oinit, gm_back, gm_scall, gm_vcall, gm_iret, gm_zret, gm_cret, gm_lret, gm_aret, gm_vret, gm_slen, gm_schar, gm_sidx, gm_lget, gm_lset, gm_nl, gm_ent, gm_wd, gm_pop, gm_pad, gm_xl_c, gm_alen_u, gm_1_sF, gm_1_sA, gm_1_cp, gm_len_sF, gm_len_sA, gm_len_cp, Bool.or_true, Bool.true_or, gm_max_u, gm_min_u, gm_isO_sF, gm_isO_sA, gm_isO_cp, gm_gF_sF, gm_gF_sA, gm_gA_sF, gm_gA_sA, gm_gF_cp, gm_gA_cp, gm_add, gm_sub, gm_mul, gm_neg, ↓reduceIte, Nat.reduceAdd, Nat.reduceLeDiff, true_and, and_true, and_self, true_or, or_true, false_and, and_false, false_or, or_false, eq_self, Nat.reduceEqDiff, Int.reduceEq, Int.reduceLT, Int.reduceLE, Int.reduceNeg, Int.reduceAdd, Int.reduceSub, Int.reduceMul, Int.reduceDiv, Int.reduceMod, reduceCtorEq, if_true, if_false, gm_w_id, hx', hxp, c1, c2, c3, c7, c8, e1]
      exact e3
/-- LEAKS: for one leak -/
def gn_lsn (M : gm_M) (n leak : Int) : Prop := ∀ j, 0 ≤ j → j < gm_gF M 707 2 → gm_gA M 4 j = n → (gn_itr M n (gm_roo M n) leak (gm_qq M (8 + 3 * n)) (gm_gA M 5 j).toNat).2 = gm_gA M 6 j
theorem r_X8_isAsSeen (d : Nat) (M M1 : gm_M) (hI : gm_CI M) (hC : gn_CB M) (n leak : Int) (h1 : 0 ≤ n) (h2 : n < gm_many M) (he : gm_Ec M M1) (hA : gm_As M n 74 (gm_roo M n) leak (gm_qq M (8 + 3 * n)) M1) :
    ∃ M2, gm_Ec M M2 ∧ gm_go (d + 6) 96 [.inr (.inr 1), .inr (.inr 74)] M1 = some (some (.inl (gn_b (gn_lsn M n leak))), M2) := by
  have hm := hI.2.1
  obtain ⟨c1, c2, c3, c4, c5, c6, c7, c8, c9, c10, c11, c12, c13⟩ := gm_cx hI he
  have hg := c10 (d + 4)
  have f1 : gm_gF M1 200 74 = n := by rw [hA.1.1, gn_num hI h1 h2]
  obtain ⟨L, q1, q2, e⟩ := r_X7_lastSeenDay (d + 4) M M1 hI hC he n ⟨by omega, by omega⟩
  obtain ⟨M2, he2, e2⟩ := r_X8_isAsSeen_loop d M hI hC n (gm_roo M n) leak L (gm_qq M (8 + 3 * n)) h1 h2 q1 hA.2.2.2.2.2.2.2.1 hA.2.2.2.2.2.2.2.2 hA.2.2.2.2.2.2.1 (L + 1).toNat 99999 0 M1 he hA (by omega) (by omega) (by omega)
  refine ⟨M2, he2, ?_⟩
  rw [gn_b_if (q := gn_ias M n (gm_roo M n) leak (gm_qq M (8 + 3 * n)) L 0)]
  · rw [eX8_isAsSeen _ _ _ (Nat.le_of_ble_eq_true rfl), xX8_isAsSeen_0]
    simp (config := { maxSteps := 2000000 }) (disch := first | omega | assumption | (simp only [gm_isO_sF, gm_isO_sA, gm_isO_cp]; assumption)) only [gm_push, gm_iload, gm_lload, gm_aload, gm_istore, gm_astore, gm_iinc, gm_op2, gm_quo, gm_op1, gm_lop2, gm_lshl, gm_i2l, gm_l2i, gm_lcmp, gm_dup, gm_pop1, gm_dup2, gm_goto, gm_ifeq, gm_ifne, gm_iflt, gm_ifge, gm_ifgt, gm_ifle, gm_ceq, gm_cne, gm_clt, gm_cge, gm_cgt, gm_cle, gm_ifnull, gm_ifnonnull, gm_swk, gm_switch, gm_getI, gm_getR, gm_putI, gm_putZ, gm_putR, gm_new, gm_newarr, gm_iald, gm_cald, gm_zald, gm_lald, gm_aald, gm_iast, gm_cast, gm_zast, gm_last, gm_aast, gm_acp, gm_oinit, gm_back, gm_scall, gm_vcall, gm_iret, gm_zret, gm_cret, gm_lret, gm_aret, gm_vret, gm_slen, gm_schar, gm_sidx, gm_lget, gm_lset, gm_nl, gm_ent, gm_wd, gm_pop, gm_pad, gm_xl_c, gm_alen_u, gm_1_sF, gm_1_sA, gm_1_cp, gm_len_sF, gm_len_sA, gm_len_cp, Bool.or_true, Bool.true_or, gm_max_u, gm_min_u, gm_isO_sF, gm_isO_sA, gm_isO_cp, gm_gF_sF, gm_gF_sA, gm_gA_sF, gm_gA_sA, gm_gF_cp, gm_gA_cp, gm_add, gm_sub, gm_mul, gm_neg, ↓reduceIte, Nat.reduceAdd, Nat.reduceLeDiff, true_and, and_true, and_self, true_or, or_true, false_and, and_false, false_or, or_false, eq_self, Nat.reduceEqDiff, Int.reduceEq, Int.reduceLT, Int.reduceLE, Int.reduceNeg, Int.reduceAdd, Int.reduceSub, Int.reduceMul, Int.reduceDiv, Int.reduceMod, reduceCtorEq, if_true, if_false, gm_w_id, c1, c2, c3, c7, hg, f1, e, e2]
  · constructor
    · intro z j j1 j2 i i1 i2 i3 i4
      have := z i i1 i2 i3
      rw [i4] at this
      exact this.symm
    · intro z j j1 j2 j3
      have h5 := (hC.2.2.1 j j1 j2).2.1
      exact (z (gm_gA M 5 j) (by omega) (q2 j j1 j2 j3) j j1 j2 j3 rfl).symm
noncomputable def gn_lks (M : gm_M) (n : Int) : Nat → Int → Int → Int
  | 0, _, s => s
  | k + 1, x, s => gn_lks M n k (x + 1) (if gn_b (gn_lsn M n x) = 0 then s else gm_or s (gm_shl 1 x))
theorem r_X8_leaks_loop (d : Nat) (M : gm_M) (hI : gm_CI M) (hC : gn_CB M) (n : Int) (h1 : 0 ≤ n) (h2 : n < gm_many M) : ∀ (k f : Nat) (x s : Int) (M1 : gm_M), gm_Ec M M1 → 3 * (k + 2) ≤ f → x = 10 - k → 0 ≤ x →
    ∃ M2, gm_Ec M M2 ∧ gm_ex (gm_go (d + 6)) qX8_leaks f 2 [some (.inr (.inr 1)), some (.inl n), some (.inr (.inr (8 + 3 * n))), some (.inl s), some (.inl x)] [] M1 = some (some (.inl (gn_lks M n k x s)), M2) := by
  have hm := hI.2.1
  have hd := hI.2.2.1
  intro k
  induction k with
  | zero =>
    intro f x s M1 he hf hx h0
    obtain ⟨f, rfl⟩ : ∃ g, f = g + 3 := ⟨f - 3, by omega⟩
    refine ⟨M1, he, ?_⟩
    have hx' : x = 10 := by omega
    subst hx'
    rw [xX8_leaks_2]
    simp (config := { maxSteps := 2000000 }) (disch := first | omega | assumption | (simp only [gm_isO_sF, gm_isO_sA, gm_isO_cp]; assumption)) only [gm_push, gm_iload, gm_lload, gm_aload, gm_istore, gm_astore, gm_iinc, gm_op2, gm_quo, gm_op1, gm_lop2, gm_lshl, gm_i2l, gm_l2i, gm_lcmp, gm_dup, gm_pop1, gm_dup2, gm_goto, gm_ifeq, gm_ifne, gm_iflt, gm_ifge, gm_ifgt, gm_ifle, gm_ceq, gm_cne, gm_clt, gm_cge, gm_cgt, gm_cle, gm_ifnull, gm_ifnonnull, gm_swk, gm_switch, gm_getI, gm_getR, gm_putI, gm_putZ, gm_putR, gm_new, gm_newarr, gm_iald, gm_cald, gm_zald, gm_lald, gm_aald, gm_iast, gm_cast, gm_zast, gm_last, gm_aast, gm_acp, gm_oinit, gm_back, gm_scall, gm_vcall, gm_iret, gm_zret, gm_cret, gm_lret, gm_aret, gm_vret, gm_slen, gm_schar, gm_sidx, gm_lget, gm_lset, gm_nl, gm_ent, gm_wd, gm_pop, gm_pad, gm_xl_c, gm_alen_u, gm_1_sF, gm_1_sA, gm_1_cp, gm_len_sF, gm_len_sA, gm_len_cp, Bool.or_true, Bool.true_or, gm_max_u, gm_min_u, gm_isO_sF, gm_isO_sA, gm_isO_cp, gm_gF_sF, gm_gF_sA, gm_gA_sF, gm_gA_sA, gm_gF_cp, gm_gA_cp, gm_add, gm_sub, gm_mul, gm_neg, ↓reduceIte, Nat.reduceAdd, Nat.reduceLeDiff, true_and, and_true, and_self, true_or, or_true, false_and, and_false, false_or, or_false, eq_self, Nat.reduceEqDiff, Int.reduceEq, Int.reduceLT, Int.reduceLE, Int.reduceNeg, Int.reduceAdd, Int.reduceSub, Int.reduceMul, Int.reduceDiv, Int.reduceMod, reduceCtorEq, if_true, if_false, gm_w_id, xX8_leaks_0, xX8_leaks_1, xX8_leaks_3, xX8_leaks_4, gn_lks]
  | succ k ih =>
    intro f x s M1 he hf hx h0
    obtain ⟨f, rfl⟩ : ∃ g, f = g + 3 := ⟨f - 3, by omega⟩
    obtain ⟨c1, c2, c3, c4, c5, c6, c7, c8, c9, c10, c11, c12, c13⟩ := gm_cx hI he
    have c14 := c13 n h1 h2
    have h9 : ¬ 9 < x := by omega
    have hb := he.bec 74 (8 + 3 * n) (Or.inl rfl)
    obtain ⟨b1, b2, b3, b4, b5, b6, b7, b8, b9, b10, b11, b12, b13⟩ := gm_cx hI hb
    have hA := gm_bec_As hI he (o := 74) h1 h2
    have hbc := c12 (d + 4) n 74 h1 h2 (Or.inl rfl)
    have l1 : gm_gF (gm_bec M1 74 (8 + 3 * n)) 205 74 = 75 := gm_l205 hb.1 b3
    have k1 : gm_isO 5 (gm_bec M1 74 (8 + 3 * n)) 75 = true := gm_k205 hb.1 b3
    have hA2 := hA.lk (h' := x) (by omega)
    have hb2 := hb.sF 502 75 x (by decide) (by decide)
    obtain ⟨M2, he2, e⟩ := r_X8_isAsSeen d M _ hI hC n x h1 h2 hb2 hA2
    obtain ⟨p1, p2, p3, p4, p5, p6, p7, p8, p9, p10, p11, p12, p13⟩ := gm_cx hI hb2
    have hv : gn_b (gn_lsn M n x) = 0 ∨ gn_b (gn_lsn M n x) = 1 := by
      by_cases hz : gn_lsn M n x
      · exact Or.inr (gn_b1 hz)
      · exact Or.inl (gn_b0 hz)
    rcases hv with hv | hv
    · obtain ⟨M3, he3, e3⟩ := ih (f + 1) (x + 1) s M2 he2 (by omega) (by omega) (by omega)
      refine ⟨M3, he3, ?_⟩
      rw [hv] at e
      rw [xX8_leaks_2]
      simp (config := { maxSteps := 2000000 }) (disch := first | omega | assumption | (simp only [gm_isO_sF, gm_isO_sA, gm_isO_cp]; assumption)) only [gm_push, gm_iload, gm_lload, gm_aload, gm_istore, gm_astore, gm_iinc, gm_op2, gm_quo, gm_op1, gm_lop2, gm_lshl, gm_i2l, gm_l2i, gm_lcmp, gm_dup, gm_pop1, gm_dup2, gm_goto, gm_ifeq, gm_ifne, gm_iflt, gm_ifge, gm_ifgt, gm_ifle, gm_ceq, gm_cne, gm_clt, gm_cge, gm_cgt, gm_cle, gm_ifnull, gm_ifnonnull, gm_swk, gm_switch, gm_getI, gm_getR, gm_putI, gm_putZ, gm_putR, gm_new, gm_newarr, gm_iald, gm_cald, gm_zald, gm_lald, gm_aald, gm_iast, gm_cast, gm_zast, gm_last, gm_aast, gm_acp, gm_oinit, gm_back, gm_scall, gm_vcall, gm_iret, gm_zret, gm_cret, gm_lret, gm_aret, gm_vret, gm_slen, gm_schar, gm_sidx, gm_lget, gm_lset, gm_nl, gm_ent, gm_wd, gm_pop, gm_pad, gm_xl_c, gm_alen_u, gm_1_sF, gm_1_sA, gm_1_cp, gm_len_sF, gm_len_sA, gm_len_cp, Bool.or_true, Bool.true_or, gm_max_u, gm_min_u, gm_isO_sF, gm_isO_sA, gm_isO_cp, gm_gF_sF, gm_gF_sA, gm_gA_sF, gm_gA_sA, gm_gF_cp, gm_gA_cp, gm_add, gm_sub, gm_mul, gm_neg, ↓reduceIte, Nat.reduceAdd, Nat.reduceLeDiff, true_and, and_true, and_self, true_or, or_true, false_and, and_false, false_or, or_false, eq_self, Nat.reduceEqDiff, Int.reduceEq, Int.reduceLT, Int.reduceLE, Int.reduceNeg, Int.reduceAdd, Int.reduceSub, Int.reduceMul, Int.reduceDiv, Int.reduceMod, reduceCtorEq, if_true, if_false, gm_w_id, xX8_leaks_0, xX8_leaks_1, xX8_leaks_3, xX8_leaks_4, c1, c2, c3, c5, c14, h9, hbc, b1, b3, b5, l1, k1, p1, p3, p5, e]
      rw [e3]
      simp only [gn_lks, hv, if_true]
    · obtain ⟨M3, he3, e3⟩ := ih (f + 1) (x + 1) (gm_or s (gm_shl 1 x)) M2 he2 (by omega) (by omega) (by omega)
      refine ⟨M3, he3, ?_⟩
      rw [hv] at e
      rw [xX8_leaks_2]
      simp (config := { maxSteps := 2000000 }) (disch := first | omega | assumption | (simp only [gm_isO_sF, gm_isO_sA, gm_isO_cp]; assumption)) only [gm_push, gm_iload, gm_lload, gm_aload, gm_istore, gm_astore, gm_iinc, gm_op2, gm_quo, gm_op1, gm_lop2, gm_lshl, gm_i2l, gm_l2i, gm_lcmp, gm_dup, gm_pop1, gm_dup2, gm_goto, gm_ifeq, gm_ifne, gm_iflt, gm_ifge, gm_ifgt, gm_ifle, gm_ceq, gm_cne, gm_clt, gm_cge, gm_cgt, gm_cle, gm_ifnull, gm_ifnonnull, gm_swk, gm_switch, gm_getI, gm_getR, gm_putI, gm_putZ, gm_putR, gm_new, gm_newarr, gm_iald, gm_cald, gm_zald, gm_lald, gm_aald, gm_iast, gm_cast, gm_zast, gm_last, gm_aast, gm_acp, gm_oinit, gm_back, gm_scall, gm_vcall, gm_iret, gm_zret, gm_cret, gm_lret, gm_aret, gm_vret, gm_slen, gm_schar, gm_sidx, gm_lget, gm_lset, gm_nl, gm_ent, gm_wd, gm_pop, gm_pad, gm_xl_c, gm_alen_u, gm_1_sF, gm_1_sA, gm_1_cp, gm_len_sF, gm_len_sA, gm_len_cp, Bool.or_true, Bool.true_or, gm_max_u, gm_min_u, gm_isO_sF, gm_isO_sA, gm_isO_cp, gm_gF_sF, gm_gF_sA, gm_gA_sF, gm_gA_sA, gm_gF_cp, gm_gA_cp, gm_add, gm_sub, gm_mul, gm_neg, ↓reduceIte, Nat.reduceAdd, Nat.reduceLeDiff, true_and, and_true, and_self, true_or, or_true, false_and, and_false, false_or, or_false, eq_self, Nat.reduceEqDiff, Int.reduceEq, Int.reduceLT, Int.reduceLE, Int.reduceNeg, Int.reduceAdd, Int.reduceSub, Int.reduceMul, Int.reduceDiv, Int.reduceMod, reduceCtorEq, if_true, if_false, gm_w_id, xX8_leaks_0, xX8_leaks_1, xX8_leaks_3, xX8_leaks_4, c1, c2, c3, c5, c14, h9, hbc, b1, b3, b5, l1, k1, p1, p3, p5, e]
      rw [e3]
      simp only [gn_lks, hv]
      rw [if_neg (by decide)]
theorem r_X8_leaks (d : Nat) (n : Int) (M : gm_M) (hI : gm_CI M) (hC : gn_CB M) (hn : gm_i n) : ∃ M1, gm_Ec M M1 ∧ gm_go (d + 7) 73 [.inr (.inr 1), .inl n] M = some (some (.inl (
    if 0 ≤ n ∧ n < gm_many M then gn_lks M n 10 0 0 else -1)), M1) := by
  have he := gm_Ec.rf hI.1
  obtain ⟨c1, c2, c3, c4, c5, c6, c7, c8, c9, c10, c11, c12, c13⟩ := gm_cx hI he
  have h8 := c11 (d + 5) n hn
  rw [eX8_leaks _ _ _ (Nat.le_of_ble_eq_true rfl)]
  unfold gm_ho at h8
  by_cases h : 0 ≤ n ∧ n < gm_many M
  · rw [if_pos h] at h8
    have hpos : ¬ (8 + 3 * n ≤ 0) := by omega
    obtain ⟨M2, he2, e⟩ := r_X8_leaks_loop d M hI hC n h.1 h.2 10 99998 0 0 M he (by omega) (by omega) (by omega)
    refine ⟨M2, he2, ?_⟩
    rw [if_pos h]
    simp (config := { maxSteps := 2000000 }) (disch := first | omega | assumption | (simp only [gm_isO_sF, gm_isO_sA, gm_isO_cp]; assumption)) only [gm_push, gm_iload, gm_lload, gm_aload, gm_istore, gm_astore, gm_iinc, gm_op2, gm_quo, gm_op1, gm_lop2, gm_lshl, gm_i2l, gm_l2i, gm_lcmp, gm_dup, gm_pop1, gm_dup2, gm_goto, gm_ifeq, gm_ifne, gm_iflt, gm_ifge, gm_ifgt, gm_ifle, gm_ceq, gm_cne, gm_clt, gm_cge, gm_cgt, gm_cle, gm_ifnull, gm_ifnonnull, gm_swk, gm_switch, gm_getI, gm_getR, gm_putI, gm_putZ, gm_putR, gm_new, gm_newarr, gm_iald, gm_cald, gm_zald, gm_lald, gm_aald, gm_iast, gm_cast, gm_zast, gm_last, gm_aast, gm_acp, gm_oinit, gm_back, gm_scall, gm_vcall, gm_iret, gm_zret, gm_cret, gm_lret, gm_aret, gm_vret, gm_slen, gm_schar, gm_sidx, gm_lget, gm_lset, gm_nl, gm_ent, gm_wd, gm_pop, gm_pad, gm_xl_c, gm_alen_u, gm_1_sF, gm_1_sA, gm_1_cp, gm_len_sF, gm_len_sA, gm_len_cp, Bool.or_true, Bool.true_or, gm_max_u, gm_min_u, gm_isO_sF, gm_isO_sA, gm_isO_cp, gm_gF_sF, gm_gF_sA, gm_gA_sF, gm_gA_sA, gm_gF_cp, gm_gA_cp, gm_add, gm_sub, gm_mul, gm_neg, ↓reduceIte, Nat.reduceAdd, Nat.reduceLeDiff, true_and, and_true, and_self, true_or, or_true, false_and, and_false, false_or, or_false, eq_self, Nat.reduceEqDiff, Int.reduceEq, Int.reduceLT, Int.reduceLE, Int.reduceNeg, Int.reduceAdd, Int.reduceSub, Int.reduceMul, Int.reduceDiv, Int.reduceMod, reduceCtorEq, if_true, if_false, gm_w_id, xX8_leaks_0, xX8_leaks_1, xX8_leaks_3, xX8_leaks_4, c1, h8, hpos, e]
  · refine ⟨M, he, ?_⟩
    rw [if_neg h] at h8
    rw [if_neg h]
    simp (config := { maxSteps := 2000000 }) (disch := first | omega | assumption | (simp only [gm_isO_sF, gm_isO_sA, gm_isO_cp]; assumption)) only [gm_push, gm_iload, gm_lload, gm_aload, gm_istore, gm_astore, gm_iinc, gm_op2, gm_quo, gm_op1, gm_lop2, gm_lshl, gm_i2l, gm_l2i, gm_lcmp, gm_dup, gm_pop1, gm_dup2, gm_goto, gm_ifeq, gm_ifne, gm_iflt, gm_ifge, gm_ifgt, gm_ifle, gm_ceq, gm_cne, gm_clt, gm_cge, gm_cgt, gm_cle, gm_ifnull, gm_ifnonnull, gm_swk, gm_switch, gm_getI, gm_getR, gm_putI, gm_putZ, gm_putR, gm_new, gm_newarr, gm_iald, gm_cald, gm_zald, gm_lald, gm_aald, gm_iast, gm_cast, gm_zast, gm_last, gm_aast, gm_acp, gm_oinit, gm_back, gm_scall, gm_vcall, gm_iret, gm_zret, gm_cret, gm_lret, gm_aret, gm_vret, gm_slen, gm_schar, gm_sidx, gm_lget, gm_lset, gm_nl, gm_ent, gm_wd, gm_pop, gm_pad, gm_xl_c, gm_alen_u, gm_1_sF, gm_1_sA, gm_1_cp, gm_len_sF, gm_len_sA, gm_len_cp, Bool.or_true, Bool.true_or, gm_max_u, gm_min_u, gm_isO_sF, gm_isO_sA, gm_isO_cp, gm_gF_sF, gm_gF_sA, gm_gA_sF, gm_gA_sA, gm_gF_cp, gm_gA_cp, gm_add, gm_sub, gm_mul, gm_neg, ↓reduceIte, Nat.reduceAdd, Nat.reduceLeDiff, true_and, and_true, and_self, true_or, or_true, false_and, and_false, false_or, or_false, eq_self, Nat.reduceEqDiff, Int.reduceEq, Int.reduceLT, Int.reduceLE, Int.reduceNeg, Int.reduceAdd, Int.reduceSub, Int.reduceMul, Int.reduceDiv, Int.reduceMod, reduceCtorEq, if_true, if_false, gm_w_id, xX8_leaks_0, xX8_leaks_1, xX8_leaks_3, xX8_leaks_4, c1, h8]
