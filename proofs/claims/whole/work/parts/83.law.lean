/-! THE LAW: its cases -/
/-- rows that nobody writes stay, no cell goes -/
def gn_kp (M M' : gm_M) : Prop := M.1 ≤ M'.1 ∧ (∀ a i : Int, 1000 ≤ a → gm_gA M' a i = gm_gA M a i) ∧ gm_gF M' 9999 0 = gm_gF M 9999 0
def gn_PvH : Prop := ∀ (d mid : Nat) (as : List gm_V) (M : gm_M) (r : Option gm_V) (M' : gm_M), M.1 ≤ 188 → gm_go d mid as M = some (r, M') → gn_kp M M'
theorem gn_kp.pu {xs : Int → Int} {Ln : Int} {M M' : gm_M} (h : gn_kp M M') (hp : gm_pu xs Ln M) : gm_pu xs Ln M' := gn_pu.e h.2.1 h.2.2 hp
/-- reading the script -/
theorem gn_rd {xs : Int → Int} {Ln : Int} {M : gm_M} (hp : gm_pu xs Ln M) (hLn : Ln ≤ 3072) {j : Int} (h1 : 0 ≤ j) (h2 : j < Ln) : gm_in M 1002 j = true ∧ gm_gA M 1002 j = xs j := by
  refine ⟨?_, hp.2.2.1 j⟩
  have e : gm_len M 1002 = Ln := hp.2.2.2
  unfold gm_in
  rw [e, gm_w_id (by omega) (by omega)]
  simp only [Bool.and_eq_true, decide_eq_true_eq]
  omega
theorem gn_xO {M M' : gm_M} (h : gn_kp M M') {ci : Nat} {o : Int} (ho : gm_isO ci M o = true) : gm_isO ci M' o = true := by
  simp only [gm_isO, Bool.and_eq_true, decide_eq_true_eq, beq_iff_eq] at ho ⊢
  have := h.1
  omega
def gn_ll (i : Int) : gm_Ls := [some (.inr (.inr 1002)), some (.inr (.inr 1)), some (.inr (.inr 148)), some (.inl i)]
def gn_cas (xs : Int → Int) (Ln : Int) (j : Nat) : Prop := ∀ (d : Nat) (i : Int) (M : gm_M), gn_Inv M → gm_pu xs Ln M → 0 ≤ i → i + 6 ≤ Ln → ∃ M2, (∀ F : Nat, gm_ex (gm_go (d + 40)) qL_law (F + 2) (j + 2) (gn_ll i) [] M = gm_ex (gm_go (d + 40)) qL_law F 1 (gn_ll (i + 6)) [] M2) ∧ gn_Inv M2 ∧ gm_pu xs Ln M2
theorem lc_house {xs : Int → Int} {Ln : Int} (hP : gn_PvH) (hxs : ∀ i, gm_i (xs i)) (hLn : Ln ≤ 3072) : gn_cas xs Ln 0 := fun d i M hI hp h0 h6 => by
  obtain ⟨x, M1, M2, e1, e2, hI2, hp2⟩ := s_house (xs (i + 1)) (xs (i + 2)) (xs (i + 3)) (xs (i + 4)) (hxs _) (hxs _) (hxs _) (hxs _) M (d + 20) xs Ln hI hp
  have e1' : gm_go (d + 40) 54 [.inr (.inr 1), .inl (xs (i + 1)), .inl (xs (i + 2)), .inl (xs (i + 3)), .inl (xs (i + 4))] M = some (some (.inl x), M1) := e1
  have e2' : gm_go (d + 40) 102 [.inr (.inr 148), .inl (xs (i + 1)), .inl (xs (i + 2)), .inl (xs (i + 3)), .inl (xs (i + 4))] M1 = some (some (.inl x), M2) := e2
  have kp := hP _ _ _ _ _ _ (Nat.le_of_eq hI.L.1) e1'
  have hp1 := kp.pu hp
  have z1 := gm_z1 hI.L
  have z148 := gn_xO kp (gm_z148 hI.L)
  have hT : gm_isT 1002 = true := rfl
  obtain ⟨a1, b1⟩ := gn_rd hp hLn (j := i + 1) (by omega) (by omega)
  obtain ⟨c1, d1⟩ := gn_rd hp1 hLn (j := i + 1) (by omega) (by omega)
  obtain ⟨a2, b2⟩ := gn_rd hp hLn (j := i + 2) (by omega) (by omega)
  obtain ⟨c2, d2⟩ := gn_rd hp1 hLn (j := i + 2) (by omega) (by omega)
  obtain ⟨a3, b3⟩ := gn_rd hp hLn (j := i + 3) (by omega) (by omega)
  obtain ⟨c3, d3⟩ := gn_rd hp1 hLn (j := i + 3) (by omega) (by omega)
  obtain ⟨a4, b4⟩ := gn_rd hp hLn (j := i + 4) (by omega) (by omega)
  obtain ⟨c4, d4⟩ := gn_rd hp1 hLn (j := i + 4) (by omega) (by omega)
  refine ⟨M2, fun F => ?_, hI2, hp2⟩
  unfold gn_ll
  rw [show 0 + 2 = 2 from rfl, xL_law_2]
  simp (config := { maxSteps := 2000000 }) (disch := first | omega | assumption | (simp only [gm_isO_sF, gm_isO_sA, gm_isO_cp]; assumption)) only [gm_push, gm_iload, gm_lload, gm_aload, gm_istore, gm_astore, gm_iinc, gm_op2, gm_quo, gm_op1, gm_lop2, gm_lshl, gm_i2l, gm_l2i, gm_lcmp, gm_dup, gm_pop1, gm_dup2, gm_goto, gm_ifeq, gm_ifne, gm_iflt, gm_ifge, gm_ifgt, gm_ifle, gm_ceq, gm_cne, gm_clt, gm_cge, gm_cgt, gm_cle, gm_ifnull, gm_ifnonnull, gm_swk, gm_switch, gm_getI, gm_getR, gm_putI, gm_putZ, gm_putR, gm_new, gm_newarr, gm_iald, gm_cald, gm_zald, gm_lald, gm_aald, gm_iast, gm_cast, gm_zast, gm_last, gm_aast, gm_acp, gm_oinit, gm_back, gm_scall, gm_vcall, gm_iret, gm_zret, gm_cret, gm_lret, gm_aret, gm_vret, gm_slen, gm_schar, gm_sidx, gm_lget, gm_lset, gm_nl, gm_ent, gm_wd, gm_pop, gm_pad, gm_xl_c, gm_alen_u, gm_1_sF, gm_1_sA, gm_1_cp, gm_len_sF, gm_len_sA, gm_len_cp, Bool.or_true, Bool.true_or, gm_max_u, gm_min_u, gm_isO_sF, gm_isO_sA, gm_isO_cp, gm_gF_sF, gm_gF_sA, gm_gA_sF, gm_gA_sA, gm_gF_cp, gm_gA_cp, gm_add, gm_sub, gm_mul, gm_neg, ↓reduceIte, Nat.reduceAdd, Nat.reduceLeDiff, true_and, and_true, and_self, true_or, or_true, false_and, and_false, false_or, or_false, eq_self, Nat.reduceEqDiff, Int.reduceEq, Int.reduceLT, Int.reduceLE, Int.reduceNeg, Int.reduceAdd, Int.reduceSub, Int.reduceMul, Int.reduceDiv, Int.reduceMod, reduceCtorEq, if_true, if_false, gm_w_id, Bool.true_or, xL_law_38, z1, z148, hT, a1, b1, c1, d1, a2, b2, c2, d2, a3, b3, c3, d3, a4, b4, c4, d4, e1', e2', Int.lt_irrefl]
theorem lc_of {xs : Int → Int} {Ln : Int} (hP : gn_PvH) (hxs : ∀ i, gm_i (xs i)) (hLn : Ln ≤ 3072) : gn_cas xs Ln 1 := fun d i M hI hp h0 h6 => by
  obtain ⟨x, M1, M2, e1, e2, hI2, hp2⟩ := s_of (xs (i + 1)) (xs (i + 2)) (hxs _) (hxs _) M (d + 20) xs Ln hI hp
  have e1' : gm_go (d + 40) 55 [.inr (.inr 1), .inl (xs (i + 1)), .inl (xs (i + 2))] M = some (some (.inl x), M1) := e1
  have e2' : gm_go (d + 40) 137 [.inr (.inr 148), .inl (xs (i + 1)), .inl (xs (i + 2))] M1 = some (some (.inl x), M2) := e2
  have kp := hP _ _ _ _ _ _ (Nat.le_of_eq hI.L.1) e1'
  have hp1 := kp.pu hp
  have z1 := gm_z1 hI.L
  have z148 := gn_xO kp (gm_z148 hI.L)
  have hT : gm_isT 1002 = true := rfl
  obtain ⟨a1, b1⟩ := gn_rd hp hLn (j := i + 1) (by omega) (by omega)
  obtain ⟨c1, d1⟩ := gn_rd hp1 hLn (j := i + 1) (by omega) (by omega)
  obtain ⟨a2, b2⟩ := gn_rd hp hLn (j := i + 2) (by omega) (by omega)
  obtain ⟨c2, d2⟩ := gn_rd hp1 hLn (j := i + 2) (by omega) (by omega)
  refine ⟨M2, fun F => ?_, hI2, hp2⟩
  unfold gn_ll
  rw [show 1 + 2 = 3 from rfl, xL_law_3]
  simp (config := { maxSteps := 2000000 }) (disch := first | omega | assumption | (simp only [gm_isO_sF, gm_isO_sA, gm_isO_cp]; assumption)) only [gm_push, gm_iload, gm_lload, gm_aload, gm_istore, gm_astore, gm_iinc, gm_op2, gm_quo, gm_op1, gm_lop2, gm_lshl, gm_i2l, gm_l2i, gm_lcmp, gm_dup, gm_pop1, gm_dup2, gm_goto, gm_ifeq, gm_ifne, gm_iflt, gm_ifge, gm_ifgt, gm_ifle, gm_ceq, gm_cne, gm_clt, gm_cge, gm_cgt, gm_cle, gm_ifnull, gm_ifnonnull, gm_swk, gm_switch, gm_getI, gm_getR, gm_putI, gm_putZ, gm_putR, gm_new, gm_newarr, gm_iald, gm_cald, gm_zald, gm_lald, gm_aald, gm_iast, gm_cast, gm_zast, gm_last, gm_aast, gm_acp, gm_oinit, gm_back, gm_scall, gm_vcall, gm_iret, gm_zret, gm_cret, gm_lret, gm_aret, gm_vret, gm_slen, gm_schar, gm_sidx, gm_lget, gm_lset, gm_nl, gm_ent, gm_wd, gm_pop, gm_pad, gm_xl_c, gm_alen_u, gm_1_sF, gm_1_sA, gm_1_cp, gm_len_sF, gm_len_sA, gm_len_cp, Bool.or_true, Bool.true_or, gm_max_u, gm_min_u, gm_isO_sF, gm_isO_sA, gm_isO_cp, gm_gF_sF, gm_gF_sA, gm_gA_sF, gm_gA_sA, gm_gF_cp, gm_gA_cp, gm_add, gm_sub, gm_mul, gm_neg, ↓reduceIte, Nat.reduceAdd, Nat.reduceLeDiff, true_and, and_true, and_self, true_or, or_true, false_and, and_false, false_or, or_false, eq_self, Nat.reduceEqDiff, Int.reduceEq, Int.reduceLT, Int.reduceLE, Int.reduceNeg, Int.reduceAdd, Int.reduceSub, Int.reduceMul, Int.reduceDiv, Int.reduceMod, reduceCtorEq, if_true, if_false, gm_w_id, Bool.true_or, xL_law_38, z1, z148, hT, a1, b1, c1, d1, a2, b2, c2, d2, e1', e2', Int.lt_irrefl]
theorem lc_set {xs : Int → Int} {Ln : Int} (hP : gn_PvH) (hxs : ∀ i, gm_i (xs i)) (hLn : Ln ≤ 3072) : gn_cas xs Ln 2 := fun d i M hI hp h0 h6 => by
  obtain ⟨x, M1, M2, e1, e2, hI2, hp2⟩ := s_set (xs (i + 1)) (xs (i + 2)) (xs (i + 3)) (hxs _) (hxs _) (hxs _) M (d + 20) xs Ln hI hp
  have e1' : gm_go (d + 40) 56 [.inr (.inr 1), .inl (xs (i + 1)), .inl (xs (i + 2)), .inl (xs (i + 3))] M = some (some (.inl x), M1) := e1
  have e2' : gm_go (d + 40) 104 [.inr (.inr 148), .inl (xs (i + 1)), .inl (xs (i + 2)), .inl (xs (i + 3))] M1 = some (some (.inl x), M2) := e2
  have kp := hP _ _ _ _ _ _ (Nat.le_of_eq hI.L.1) e1'
  have hp1 := kp.pu hp
  have z1 := gm_z1 hI.L
  have z148 := gn_xO kp (gm_z148 hI.L)
  have hT : gm_isT 1002 = true := rfl
  obtain ⟨a1, b1⟩ := gn_rd hp hLn (j := i + 1) (by omega) (by omega)
  obtain ⟨c1, d1⟩ := gn_rd hp1 hLn (j := i + 1) (by omega) (by omega)
  obtain ⟨a2, b2⟩ := gn_rd hp hLn (j := i + 2) (by omega) (by omega)
  obtain ⟨c2, d2⟩ := gn_rd hp1 hLn (j := i + 2) (by omega) (by omega)
  obtain ⟨a3, b3⟩ := gn_rd hp hLn (j := i + 3) (by omega) (by omega)
  obtain ⟨c3, d3⟩ := gn_rd hp1 hLn (j := i + 3) (by omega) (by omega)
  refine ⟨M2, fun F => ?_, hI2, hp2⟩
  unfold gn_ll
  rw [show 2 + 2 = 4 from rfl, xL_law_4]
  simp (config := { maxSteps := 2000000 }) (disch := first | omega | assumption | (simp only [gm_isO_sF, gm_isO_sA, gm_isO_cp]; assumption)) only [gm_push, gm_iload, gm_lload, gm_aload, gm_istore, gm_astore, gm_iinc, gm_op2, gm_quo, gm_op1, gm_lop2, gm_lshl, gm_i2l, gm_l2i, gm_lcmp, gm_dup, gm_pop1, gm_dup2, gm_goto, gm_ifeq, gm_ifne, gm_iflt, gm_ifge, gm_ifgt, gm_ifle, gm_ceq, gm_cne, gm_clt, gm_cge, gm_cgt, gm_cle, gm_ifnull, gm_ifnonnull, gm_swk, gm_switch, gm_getI, gm_getR, gm_putI, gm_putZ, gm_putR, gm_new, gm_newarr, gm_iald, gm_cald, gm_zald, gm_lald, gm_aald, gm_iast, gm_cast, gm_zast, gm_last, gm_aast, gm_acp, gm_oinit, gm_back, gm_scall, gm_vcall, gm_iret, gm_zret, gm_cret, gm_lret, gm_aret, gm_vret, gm_slen, gm_schar, gm_sidx, gm_lget, gm_lset, gm_nl, gm_ent, gm_wd, gm_pop, gm_pad, gm_xl_c, gm_alen_u, gm_1_sF, gm_1_sA, gm_1_cp, gm_len_sF, gm_len_sA, gm_len_cp, Bool.or_true, Bool.true_or, gm_max_u, gm_min_u, gm_isO_sF, gm_isO_sA, gm_isO_cp, gm_gF_sF, gm_gF_sA, gm_gA_sF, gm_gA_sA, gm_gF_cp, gm_gA_cp, gm_add, gm_sub, gm_mul, gm_neg, ↓reduceIte, Nat.reduceAdd, Nat.reduceLeDiff, true_and, and_true, and_self, true_or, or_true, false_and, and_false, false_or, or_false, eq_self, Nat.reduceEqDiff, Int.reduceEq, Int.reduceLT, Int.reduceLE, Int.reduceNeg, Int.reduceAdd, Int.reduceSub, Int.reduceMul, Int.reduceDiv, Int.reduceMod, reduceCtorEq, if_true, if_false, gm_w_id, Bool.true_or, xL_law_38, z1, z148, hT, a1, b1, c1, d1, a2, b2, c2, d2, a3, b3, c3, d3, e1', e2', Int.lt_irrefl]
theorem lc_row {xs : Int → Int} {Ln : Int} (hP : gn_PvH) (hxs : ∀ i, gm_i (xs i)) (hLn : Ln ≤ 3072) : gn_cas xs Ln 3 := fun d i M hI hp h0 h6 => by
  obtain ⟨x, M1, M2, e1, e2, hI2, hp2⟩ := s_row (xs (i + 1)) (xs (i + 2)) (xs (i + 3)) (hxs _) (hxs _) (hxs _) M (d + 20) xs Ln hI hp
  have e1' : gm_go (d + 40) 57 [.inr (.inr 1), .inl (xs (i + 1)), .inl (xs (i + 2)), .inl (xs (i + 3))] M = some (some (.inl x), M1) := e1
  have e2' : gm_go (d + 40) 105 [.inr (.inr 148), .inl (xs (i + 1)), .inl (xs (i + 2)), .inl (xs (i + 3))] M1 = some (some (.inl x), M2) := e2
  have kp := hP _ _ _ _ _ _ (Nat.le_of_eq hI.L.1) e1'
  have hp1 := kp.pu hp
  have z1 := gm_z1 hI.L
  have z148 := gn_xO kp (gm_z148 hI.L)
  have hT : gm_isT 1002 = true := rfl
  obtain ⟨a1, b1⟩ := gn_rd hp hLn (j := i + 1) (by omega) (by omega)
  obtain ⟨c1, d1⟩ := gn_rd hp1 hLn (j := i + 1) (by omega) (by omega)
  obtain ⟨a2, b2⟩ := gn_rd hp hLn (j := i + 2) (by omega) (by omega)
  obtain ⟨c2, d2⟩ := gn_rd hp1 hLn (j := i + 2) (by omega) (by omega)
  obtain ⟨a3, b3⟩ := gn_rd hp hLn (j := i + 3) (by omega) (by omega)
  obtain ⟨c3, d3⟩ := gn_rd hp1 hLn (j := i + 3) (by omega) (by omega)
  refine ⟨M2, fun F => ?_, hI2, hp2⟩
  unfold gn_ll
  rw [show 3 + 2 = 5 from rfl, xL_law_5]
  simp (config := { maxSteps := 2000000 }) (disch := first | omega | assumption | (simp only [gm_isO_sF, gm_isO_sA, gm_isO_cp]; assumption)) only [gm_push, gm_iload, gm_lload, gm_aload, gm_istore, gm_astore, gm_iinc, gm_op2, gm_quo, gm_op1, gm_lop2, gm_lshl, gm_i2l, gm_l2i, gm_lcmp, gm_dup, gm_pop1, gm_dup2, gm_goto, gm_ifeq, gm_ifne, gm_iflt, gm_ifge, gm_ifgt, gm_ifle, gm_ceq, gm_cne, gm_clt, gm_cge, gm_cgt, gm_cle, gm_ifnull, gm_ifnonnull, gm_swk, gm_switch, gm_getI, gm_getR, gm_putI, gm_putZ, gm_putR, gm_new, gm_newarr, gm_iald, gm_cald, gm_zald, gm_lald, gm_aald, gm_iast, gm_cast, gm_zast, gm_last, gm_aast, gm_acp, gm_oinit, gm_back, gm_scall, gm_vcall, gm_iret, gm_zret, gm_cret, gm_lret, gm_aret, gm_vret, gm_slen, gm_schar, gm_sidx, gm_lget, gm_lset, gm_nl, gm_ent, gm_wd, gm_pop, gm_pad, gm_xl_c, gm_alen_u, gm_1_sF, gm_1_sA, gm_1_cp, gm_len_sF, gm_len_sA, gm_len_cp, Bool.or_true, Bool.true_or, gm_max_u, gm_min_u, gm_isO_sF, gm_isO_sA, gm_isO_cp, gm_gF_sF, gm_gF_sA, gm_gA_sF, gm_gA_sA, gm_gF_cp, gm_gA_cp, gm_add, gm_sub, gm_mul, gm_neg, ↓reduceIte, Nat.reduceAdd, Nat.reduceLeDiff, true_and, and_true, and_self, true_or, or_true, false_and, and_false, false_or, or_false, eq_self, Nat.reduceEqDiff, Int.reduceEq, Int.reduceLT, Int.reduceLE, Int.reduceNeg, Int.reduceAdd, Int.reduceSub, Int.reduceMul, Int.reduceDiv, Int.reduceMod, reduceCtorEq, if_true, if_false, gm_w_id, Bool.true_or, xL_law_38, z1, z148, hT, a1, b1, c1, d1, a2, b2, c2, d2, a3, b3, c3, d3, e1', e2', Int.lt_irrefl]
theorem lc_feed {xs : Int → Int} {Ln : Int} (hP : gn_PvH) (hxs : ∀ i, gm_i (xs i)) (hLn : Ln ≤ 3072) : gn_cas xs Ln 4 := fun d i M hI hp h0 h6 => by
  obtain ⟨x, M1, M2, e1, e2, hI2, hp2⟩ := s_feed (xs (i + 1)) (hxs _) M (d + 20) xs Ln hI hp
  have e1' : gm_go (d + 40) 58 [.inr (.inr 1), .inl (xs (i + 1))] M = some (some (.inl x), M1) := e1
  have e2' : gm_go (d + 40) 106 [.inr (.inr 148), .inl (xs (i + 1))] M1 = some (some (.inl x), M2) := e2
  have kp := hP _ _ _ _ _ _ (Nat.le_of_eq hI.L.1) e1'
  have hp1 := kp.pu hp
  have z1 := gm_z1 hI.L
  have z148 := gn_xO kp (gm_z148 hI.L)
  have hT : gm_isT 1002 = true := rfl
  obtain ⟨a1, b1⟩ := gn_rd hp hLn (j := i + 1) (by omega) (by omega)
  obtain ⟨c1, d1⟩ := gn_rd hp1 hLn (j := i + 1) (by omega) (by omega)
  refine ⟨M2, fun F => ?_, hI2, hp2⟩
  unfold gn_ll
  rw [show 4 + 2 = 6 from rfl, xL_law_6]
  simp (config := { maxSteps := 2000000 }) (disch := first | omega | assumption | (simp only [gm_isO_sF, gm_isO_sA, gm_isO_cp]; assumption)) only [gm_push, gm_iload, gm_lload, gm_aload, gm_istore, gm_astore, gm_iinc, gm_op2, gm_quo, gm_op1, gm_lop2, gm_lshl, gm_i2l, gm_l2i, gm_lcmp, gm_dup, gm_pop1, gm_dup2, gm_goto, gm_ifeq, gm_ifne, gm_iflt, gm_ifge, gm_ifgt, gm_ifle, gm_ceq, gm_cne, gm_clt, gm_cge, gm_cgt, gm_cle, gm_ifnull, gm_ifnonnull, gm_swk, gm_switch, gm_getI, gm_getR, gm_putI, gm_putZ, gm_putR, gm_new, gm_newarr, gm_iald, gm_cald, gm_zald, gm_lald, gm_aald, gm_iast, gm_cast, gm_zast, gm_last, gm_aast, gm_acp, gm_oinit, gm_back, gm_scall, gm_vcall, gm_iret, gm_zret, gm_cret, gm_lret, gm_aret, gm_vret, gm_slen, gm_schar, gm_sidx, gm_lget, gm_lset, gm_nl, gm_ent, gm_wd, gm_pop, gm_pad, gm_xl_c, gm_alen_u, gm_1_sF, gm_1_sA, gm_1_cp, gm_len_sF, gm_len_sA, gm_len_cp, Bool.or_true, Bool.true_or, gm_max_u, gm_min_u, gm_isO_sF, gm_isO_sA, gm_isO_cp, gm_gF_sF, gm_gF_sA, gm_gA_sF, gm_gA_sA, gm_gF_cp, gm_gA_cp, gm_add, gm_sub, gm_mul, gm_neg, ↓reduceIte, Nat.reduceAdd, Nat.reduceLeDiff, true_and, and_true, and_self, true_or, or_true, false_and, and_false, false_or, or_false, eq_self, Nat.reduceEqDiff, Int.reduceEq, Int.reduceLT, Int.reduceLE, Int.reduceNeg, Int.reduceAdd, Int.reduceSub, Int.reduceMul, Int.reduceDiv, Int.reduceMod, reduceCtorEq, if_true, if_false, gm_w_id, Bool.true_or, xL_law_38, z1, z148, hT, a1, b1, c1, d1, e1', e2', Int.lt_irrefl]
theorem lc_ground {xs : Int → Int} {Ln : Int} (hP : gn_PvH) (hxs : ∀ i, gm_i (xs i)) (hLn : Ln ≤ 3072) : gn_cas xs Ln 5 := fun d i M hI hp h0 h6 => by
  obtain ⟨x, M1, M2, e1, e2, hI2, hp2⟩ := s_ground M d xs Ln hI hp
  have e1' : gm_go (d + 40) 59 [.inr (.inr 1)] M = some (some (.inl x), M1) := e1
  have e2' : gm_go (d + 40) 121 [.inr (.inr 148)] M1 = some (some (.inl x), M2) := e2
  have kp := hP _ _ _ _ _ _ (Nat.le_of_eq hI.L.1) e1'
  have hp1 := kp.pu hp
  have z1 := gm_z1 hI.L
  have z148 := gn_xO kp (gm_z148 hI.L)
  have hT : gm_isT 1002 = true := rfl
  refine ⟨M2, fun F => ?_, hI2, hp2⟩
  unfold gn_ll
  rw [show 5 + 2 = 7 from rfl, xL_law_7]
  simp (config := { maxSteps := 2000000 }) (disch := first | omega | assumption | (simp only [gm_isO_sF, gm_isO_sA, gm_isO_cp]; assumption)) only [gm_push, gm_iload, gm_lload, gm_aload, gm_istore, gm_astore, gm_iinc, gm_op2, gm_quo, gm_op1, gm_lop2, gm_lshl, gm_i2l, gm_l2i, gm_lcmp, gm_dup, gm_pop1, gm_dup2, gm_goto, gm_ifeq, gm_ifne, gm_iflt, gm_ifge, gm_ifgt, gm_ifle, gm_ceq, gm_cne, gm_clt, gm_cge, gm_cgt, gm_cle, gm_ifnull, gm_ifnonnull, gm_swk, gm_switch, gm_getI, gm_getR, gm_putI, gm_putZ, gm_putR, gm_new, gm_newarr, gm_iald, gm_cald, gm_zald, gm_lald, gm_aald, gm_iast, gm_cast, gm_zast, gm_last, gm_aast, gm_acp, gm_oinit, gm_back, gm_scall, gm_vcall, gm_iret, gm_zret, gm_cret, gm_lret, gm_aret, gm_vret, gm_slen, gm_schar, gm_sidx, gm_lget, gm_lset, gm_nl, gm_ent, gm_wd, gm_pop, gm_pad, gm_xl_c, gm_alen_u, gm_1_sF, gm_1_sA, gm_1_cp, gm_len_sF, gm_len_sA, gm_len_cp, Bool.or_true, Bool.true_or, gm_max_u, gm_min_u, gm_isO_sF, gm_isO_sA, gm_isO_cp, gm_gF_sF, gm_gF_sA, gm_gA_sF, gm_gA_sA, gm_gF_cp, gm_gA_cp, gm_add, gm_sub, gm_mul, gm_neg, ↓reduceIte, Nat.reduceAdd, Nat.reduceLeDiff, true_and, and_true, and_self, true_or, or_true, false_and, and_false, false_or, or_false, eq_self, Nat.reduceEqDiff, Int.reduceEq, Int.reduceLT, Int.reduceLE, Int.reduceNeg, Int.reduceAdd, Int.reduceSub, Int.reduceMul, Int.reduceDiv, Int.reduceMod, reduceCtorEq, if_true, if_false, gm_w_id, Bool.true_or, xL_law_38, z1, z148, hT, e1', e2', Int.lt_irrefl]
theorem lc_told {xs : Int → Int} {Ln : Int} (hP : gn_PvH) (hxs : ∀ i, gm_i (xs i)) (hLn : Ln ≤ 3072) : gn_cas xs Ln 6 := fun d i M hI hp h0 h6 => by
  obtain ⟨x, M1, M2, e1, e2, hI2, hp2⟩ := s_told (xs (i + 1)) (hxs _) M (d + 20) xs Ln hI hp
  have e1' : gm_go (d + 40) 60 [.inr (.inr 1), .inl (xs (i + 1))] M = some (some (.inl x), M1) := e1
  have e2' : gm_go (d + 40) 138 [.inr (.inr 148), .inl (xs (i + 1))] M1 = some (some (.inl x), M2) := e2
  have kp := hP _ _ _ _ _ _ (Nat.le_of_eq hI.L.1) e1'
  have hp1 := kp.pu hp
  have z1 := gm_z1 hI.L
  have z148 := gn_xO kp (gm_z148 hI.L)
  have hT : gm_isT 1002 = true := rfl
  obtain ⟨a1, b1⟩ := gn_rd hp hLn (j := i + 1) (by omega) (by omega)
  obtain ⟨c1, d1⟩ := gn_rd hp1 hLn (j := i + 1) (by omega) (by omega)
  refine ⟨M2, fun F => ?_, hI2, hp2⟩
  unfold gn_ll
  rw [show 6 + 2 = 8 from rfl, xL_law_8]
  simp (config := { maxSteps := 2000000 }) (disch := first | omega | assumption | (simp only [gm_isO_sF, gm_isO_sA, gm_isO_cp]; assumption)) only [gm_push, gm_iload, gm_lload, gm_aload, gm_istore, gm_astore, gm_iinc, gm_op2, gm_quo, gm_op1, gm_lop2, gm_lshl, gm_i2l, gm_l2i, gm_lcmp, gm_dup, gm_pop1, gm_dup2, gm_goto, gm_ifeq, gm_ifne, gm_iflt, gm_ifge, gm_ifgt, gm_ifle, gm_ceq, gm_cne, gm_clt, gm_cge, gm_cgt, gm_cle, gm_ifnull, gm_ifnonnull, gm_swk, gm_switch, gm_getI, gm_getR, gm_putI, gm_putZ, gm_putR, gm_new, gm_newarr, gm_iald, gm_cald, gm_zald, gm_lald, gm_aald, gm_iast, gm_cast, gm_zast, gm_last, gm_aast, gm_acp, gm_oinit, gm_back, gm_scall, gm_vcall, gm_iret, gm_zret, gm_cret, gm_lret, gm_aret, gm_vret, gm_slen, gm_schar, gm_sidx, gm_lget, gm_lset, gm_nl, gm_ent, gm_wd, gm_pop, gm_pad, gm_xl_c, gm_alen_u, gm_1_sF, gm_1_sA, gm_1_cp, gm_len_sF, gm_len_sA, gm_len_cp, Bool.or_true, Bool.true_or, gm_max_u, gm_min_u, gm_isO_sF, gm_isO_sA, gm_isO_cp, gm_gF_sF, gm_gF_sA, gm_gA_sF, gm_gA_sA, gm_gF_cp, gm_gA_cp, gm_add, gm_sub, gm_mul, gm_neg, ↓reduceIte, Nat.reduceAdd, Nat.reduceLeDiff, true_and, and_true, and_self, true_or, or_true, false_and, and_false, false_or, or_false, eq_self, Nat.reduceEqDiff, Int.reduceEq, Int.reduceLT, Int.reduceLE, Int.reduceNeg, Int.reduceAdd, Int.reduceSub, Int.reduceMul, Int.reduceDiv, Int.reduceMod, reduceCtorEq, if_true, if_false, gm_w_id, Bool.true_or, xL_law_38, z1, z148, hT, a1, b1, c1, d1, e1', e2', Int.lt_irrefl]
theorem lc_day {xs : Int → Int} {Ln : Int} (hP : gn_PvH) (hxs : ∀ i, gm_i (xs i)) (hLn : Ln ≤ 3072) : gn_cas xs Ln 7 := fun d i M hI hp h0 h6 => by
  obtain ⟨x, M1, M2, e1, e2, hI2, hp2⟩ := s_day  M (d + 20) xs Ln hI hp
  have e1' : gm_go (d + 40) 61 [.inr (.inr 1)] M = some (some (.inl x), M1) := e1
  have e2' : gm_go (d + 40) 140 [.inr (.inr 148)] M1 = some (some (.inl x), M2) := e2
  have kp := hP _ _ _ _ _ _ (Nat.le_of_eq hI.L.1) e1'
  have hp1 := kp.pu hp
  have z1 := gm_z1 hI.L
  have z148 := gn_xO kp (gm_z148 hI.L)
  have hT : gm_isT 1002 = true := rfl
  refine ⟨M2, fun F => ?_, hI2, hp2⟩
  unfold gn_ll
  rw [show 7 + 2 = 9 from rfl, xL_law_9]
  simp (config := { maxSteps := 2000000 }) (disch := first | omega | assumption | (simp only [gm_isO_sF, gm_isO_sA, gm_isO_cp]; assumption)) only [gm_push, gm_iload, gm_lload, gm_aload, gm_istore, gm_astore, gm_iinc, gm_op2, gm_quo, gm_op1, gm_lop2, gm_lshl, gm_i2l, gm_l2i, gm_lcmp, gm_dup, gm_pop1, gm_dup2, gm_goto, gm_ifeq, gm_ifne, gm_iflt, gm_ifge, gm_ifgt, gm_ifle, gm_ceq, gm_cne, gm_clt, gm_cge, gm_cgt, gm_cle, gm_ifnull, gm_ifnonnull, gm_swk, gm_switch, gm_getI, gm_getR, gm_putI, gm_putZ, gm_putR, gm_new, gm_newarr, gm_iald, gm_cald, gm_zald, gm_lald, gm_aald, gm_iast, gm_cast, gm_zast, gm_last, gm_aast, gm_acp, gm_oinit, gm_back, gm_scall, gm_vcall, gm_iret, gm_zret, gm_cret, gm_lret, gm_aret, gm_vret, gm_slen, gm_schar, gm_sidx, gm_lget, gm_lset, gm_nl, gm_ent, gm_wd, gm_pop, gm_pad, gm_xl_c, gm_alen_u, gm_1_sF, gm_1_sA, gm_1_cp, gm_len_sF, gm_len_sA, gm_len_cp, Bool.or_true, Bool.true_or, gm_max_u, gm_min_u, gm_isO_sF, gm_isO_sA, gm_isO_cp, gm_gF_sF, gm_gF_sA, gm_gA_sF, gm_gA_sA, gm_gF_cp, gm_gA_cp, gm_add, gm_sub, gm_mul, gm_neg, ↓reduceIte, Nat.reduceAdd, Nat.reduceLeDiff, true_and, and_true, and_self, true_or, or_true, false_and, and_false, false_or, or_false, eq_self, Nat.reduceEqDiff, Int.reduceEq, Int.reduceLT, Int.reduceLE, Int.reduceNeg, Int.reduceAdd, Int.reduceSub, Int.reduceMul, Int.reduceDiv, Int.reduceMod, reduceCtorEq, if_true, if_false, gm_w_id, Bool.true_or, xL_law_38, z1, z148, hT, e1', e2', Int.lt_irrefl]
theorem lc_on {xs : Int → Int} {Ln : Int} (hP : gn_PvH) (hxs : ∀ i, gm_i (xs i)) (hLn : Ln ≤ 3072) : gn_cas xs Ln 8 := fun d i M hI hp h0 h6 => by
  obtain ⟨x, M1, M2, e1, e2, hI2, hp2⟩ := s_on (xs (i + 1)) (xs (i + 2)) (xs (i + 3)) (hxs _) (hxs _) (hxs _) M (d + 20) xs Ln hI hp
  have e1' : gm_go (d + 40) 62 [.inr (.inr 1), .inl (xs (i + 1)), .inl (xs (i + 2)), .inl (xs (i + 3))] M = some (some (.inl x), M1) := e1
  have e2' : gm_go (d + 40) 145 [.inr (.inr 148), .inl (xs (i + 1)), .inl (xs (i + 2)), .inl (xs (i + 3))] M1 = some (some (.inl x), M2) := e2
  have kp := hP _ _ _ _ _ _ (Nat.le_of_eq hI.L.1) e1'
  have hp1 := kp.pu hp
  have z1 := gm_z1 hI.L
  have z148 := gn_xO kp (gm_z148 hI.L)
  have hT : gm_isT 1002 = true := rfl
  obtain ⟨a1, b1⟩ := gn_rd hp hLn (j := i + 1) (by omega) (by omega)
  obtain ⟨c1, d1⟩ := gn_rd hp1 hLn (j := i + 1) (by omega) (by omega)
  obtain ⟨a2, b2⟩ := gn_rd hp hLn (j := i + 2) (by omega) (by omega)
  obtain ⟨c2, d2⟩ := gn_rd hp1 hLn (j := i + 2) (by omega) (by omega)
  obtain ⟨a3, b3⟩ := gn_rd hp hLn (j := i + 3) (by omega) (by omega)
  obtain ⟨c3, d3⟩ := gn_rd hp1 hLn (j := i + 3) (by omega) (by omega)
  refine ⟨M2, fun F => ?_, hI2, hp2⟩
  unfold gn_ll
  rw [show 8 + 2 = 10 from rfl, xL_law_10]
  simp (config := { maxSteps := 2000000 }) (disch := first | omega | assumption | (simp only [gm_isO_sF, gm_isO_sA, gm_isO_cp]; assumption)) only [gm_push, gm_iload, gm_lload, gm_aload, gm_istore, gm_astore, gm_iinc, gm_op2, gm_quo, gm_op1, gm_lop2, gm_lshl, gm_i2l, gm_l2i, gm_lcmp, gm_dup, gm_pop1, gm_dup2, gm_goto, gm_ifeq, gm_ifne, gm_iflt, gm_ifge, gm_ifgt, gm_ifle, gm_ceq, gm_cne, gm_clt, gm_cge, gm_cgt, gm_cle, gm_ifnull, gm_ifnonnull, gm_swk, gm_switch, gm_getI, gm_getR, gm_putI, gm_putZ, gm_putR, gm_new, gm_newarr, gm_iald, gm_cald, gm_zald, gm_lald, gm_aald, gm_iast, gm_cast, gm_zast, gm_last, gm_aast, gm_acp, gm_oinit, gm_back, gm_scall, gm_vcall, gm_iret, gm_zret, gm_cret, gm_lret, gm_aret, gm_vret, gm_slen, gm_schar, gm_sidx, gm_lget, gm_lset, gm_nl, gm_ent, gm_wd, gm_pop, gm_pad, gm_xl_c, gm_alen_u, gm_1_sF, gm_1_sA, gm_1_cp, gm_len_sF, gm_len_sA, gm_len_cp, Bool.or_true, Bool.true_or, gm_max_u, gm_min_u, gm_isO_sF, gm_isO_sA, gm_isO_cp, gm_gF_sF, gm_gF_sA, gm_gA_sF, gm_gA_sA, gm_gF_cp, gm_gA_cp, gm_add, gm_sub, gm_mul, gm_neg, ↓reduceIte, Nat.reduceAdd, Nat.reduceLeDiff, true_and, and_true, and_self, true_or, or_true, false_and, and_false, false_or, or_false, eq_self, Nat.reduceEqDiff, Int.reduceEq, Int.reduceLT, Int.reduceLE, Int.reduceNeg, Int.reduceAdd, Int.reduceSub, Int.reduceMul, Int.reduceDiv, Int.reduceMod, reduceCtorEq, if_true, if_false, gm_w_id, Bool.true_or, xL_law_38, z1, z148, hT, a1, b1, c1, d1, a2, b2, c2, d2, a3, b3, c3, d3, e1', e2', Int.lt_irrefl]
theorem lc_first {xs : Int → Int} {Ln : Int} (hP : gn_PvH) (hxs : ∀ i, gm_i (xs i)) (hLn : Ln ≤ 3072) : gn_cas xs Ln 9 := fun d i M hI hp h0 h6 => by
  obtain ⟨x, M1, M2, e1, e2, hI2, hp2⟩ := s_first (xs (i + 1)) (hxs _) M (d + 20) xs Ln hI hp
  have e1' : gm_go (d + 40) 63 [.inr (.inr 1), .inl (xs (i + 1))] M = some (some (.inl x), M1) := e1
  have e2' : gm_go (d + 40) 146 [.inr (.inr 148), .inl (xs (i + 1))] M1 = some (some (.inl x), M2) := e2
  have kp := hP _ _ _ _ _ _ (Nat.le_of_eq hI.L.1) e1'
  have hp1 := kp.pu hp
  have z1 := gm_z1 hI.L
  have z148 := gn_xO kp (gm_z148 hI.L)
  have hT : gm_isT 1002 = true := rfl
  obtain ⟨a1, b1⟩ := gn_rd hp hLn (j := i + 1) (by omega) (by omega)
  obtain ⟨c1, d1⟩ := gn_rd hp1 hLn (j := i + 1) (by omega) (by omega)
  refine ⟨M2, fun F => ?_, hI2, hp2⟩
  unfold gn_ll
  rw [show 9 + 2 = 11 from rfl, xL_law_11]
  simp (config := { maxSteps := 2000000 }) (disch := first | omega | assumption | (simp only [gm_isO_sF, gm_isO_sA, gm_isO_cp]; assumption)) only [gm_push, gm_iload, gm_lload, gm_aload, gm_istore, gm_astore, gm_iinc, gm_op2, gm_quo, gm_op1, gm_lop2, gm_lshl, gm_i2l, gm_l2i, gm_lcmp, gm_dup, gm_pop1, gm_dup2, gm_goto, gm_ifeq, gm_ifne, gm_iflt, gm_ifge, gm_ifgt, gm_ifle, gm_ceq, gm_cne, gm_clt, gm_cge, gm_cgt, gm_cle, gm_ifnull, gm_ifnonnull, gm_swk, gm_switch, gm_getI, gm_getR, gm_putI, gm_putZ, gm_putR, gm_new, gm_newarr, gm_iald, gm_cald, gm_zald, gm_lald, gm_aald, gm_iast, gm_cast, gm_zast, gm_last, gm_aast, gm_acp, gm_oinit, gm_back, gm_scall, gm_vcall, gm_iret, gm_zret, gm_cret, gm_lret, gm_aret, gm_vret, gm_slen, gm_schar, gm_sidx, gm_lget, gm_lset, gm_nl, gm_ent, gm_wd, gm_pop, gm_pad, gm_xl_c, gm_alen_u, gm_1_sF, gm_1_sA, gm_1_cp, gm_len_sF, gm_len_sA, gm_len_cp, Bool.or_true, Bool.true_or, gm_max_u, gm_min_u, gm_isO_sF, gm_isO_sA, gm_isO_cp, gm_gF_sF, gm_gF_sA, gm_gA_sF, gm_gA_sA, gm_gF_cp, gm_gA_cp, gm_add, gm_sub, gm_mul, gm_neg, ↓reduceIte, Nat.reduceAdd, Nat.reduceLeDiff, true_and, and_true, and_self, true_or, or_true, false_and, and_false, false_or, or_false, eq_self, Nat.reduceEqDiff, Int.reduceEq, Int.reduceLT, Int.reduceLE, Int.reduceNeg, Int.reduceAdd, Int.reduceSub, Int.reduceMul, Int.reduceDiv, Int.reduceMod, reduceCtorEq, if_true, if_false, gm_w_id, Bool.true_or, xL_law_38, z1, z148, hT, a1, b1, c1, d1, e1', e2', Int.lt_irrefl]
theorem lc_never {xs : Int → Int} {Ln : Int} (hP : gn_PvH) (hxs : ∀ i, gm_i (xs i)) (hLn : Ln ≤ 3072) : gn_cas xs Ln 10 := fun d i M hI hp h0 h6 => by
  obtain ⟨x, M1, M2, e1, e2, hI2, hp2⟩ := s_never  M (d + 20) xs Ln hI hp
  have e1' : gm_go (d + 40) 64 [.inr (.inr 1)] M = some (some (.inl x), M1) := e1
  have e2' : gm_go (d + 40) 147 [.inr (.inr 148)] M1 = some (some (.inl x), M2) := e2
  have kp := hP _ _ _ _ _ _ (Nat.le_of_eq hI.L.1) e1'
  have hp1 := kp.pu hp
  have z1 := gm_z1 hI.L
  have z148 := gn_xO kp (gm_z148 hI.L)
  have hT : gm_isT 1002 = true := rfl
  refine ⟨M2, fun F => ?_, hI2, hp2⟩
  unfold gn_ll
  rw [show 10 + 2 = 12 from rfl, xL_law_12]
  simp (config := { maxSteps := 2000000 }) (disch := first | omega | assumption | (simp only [gm_isO_sF, gm_isO_sA, gm_isO_cp]; assumption)) only [gm_push, gm_iload, gm_lload, gm_aload, gm_istore, gm_astore, gm_iinc, gm_op2, gm_quo, gm_op1, gm_lop2, gm_lshl, gm_i2l, gm_l2i, gm_lcmp, gm_dup, gm_pop1, gm_dup2, gm_goto, gm_ifeq, gm_ifne, gm_iflt, gm_ifge, gm_ifgt, gm_ifle, gm_ceq, gm_cne, gm_clt, gm_cge, gm_cgt, gm_cle, gm_ifnull, gm_ifnonnull, gm_swk, gm_switch, gm_getI, gm_getR, gm_putI, gm_putZ, gm_putR, gm_new, gm_newarr, gm_iald, gm_cald, gm_zald, gm_lald, gm_aald, gm_iast, gm_cast, gm_zast, gm_last, gm_aast, gm_acp, gm_oinit, gm_back, gm_scall, gm_vcall, gm_iret, gm_zret, gm_cret, gm_lret, gm_aret, gm_vret, gm_slen, gm_schar, gm_sidx, gm_lget, gm_lset, gm_nl, gm_ent, gm_wd, gm_pop, gm_pad, gm_xl_c, gm_alen_u, gm_1_sF, gm_1_sA, gm_1_cp, gm_len_sF, gm_len_sA, gm_len_cp, Bool.or_true, Bool.true_or, gm_max_u, gm_min_u, gm_isO_sF, gm_isO_sA, gm_isO_cp, gm_gF_sF, gm_gF_sA, gm_gA_sF, gm_gA_sA, gm_gF_cp, gm_gA_cp, gm_add, gm_sub, gm_mul, gm_neg, ↓reduceIte, Nat.reduceAdd, Nat.reduceLeDiff, true_and, and_true, and_self, true_or, or_true, false_and, and_false, false_or, or_false, eq_self, Nat.reduceEqDiff, Int.reduceEq, Int.reduceLT, Int.reduceLE, Int.reduceNeg, Int.reduceAdd, Int.reduceSub, Int.reduceMul, Int.reduceDiv, Int.reduceMod, reduceCtorEq, if_true, if_false, gm_w_id, Bool.true_or, xL_law_38, z1, z148, hT, e1', e2', Int.lt_irrefl]
theorem lc_cap {xs : Int → Int} {Ln : Int} (hP : gn_PvH) (hxs : ∀ i, gm_i (xs i)) (hLn : Ln ≤ 3072) : gn_cas xs Ln 11 := fun d i M hI hp h0 h6 => by
  obtain ⟨x, M1, M2, e1, e2, hI2, hp2⟩ := s_cap (xs (i + 1)) (hxs _) M (d + 20) xs Ln hI hp
  have e1' : gm_go (d + 40) 65 [.inr (.inr 1), .inl (xs (i + 1))] M = some (some (.inl x), M1) := e1
  have e2' : gm_go (d + 40) 148 [.inr (.inr 148), .inl (xs (i + 1))] M1 = some (some (.inl x), M2) := e2
  have kp := hP _ _ _ _ _ _ (Nat.le_of_eq hI.L.1) e1'
  have hp1 := kp.pu hp
  have z1 := gm_z1 hI.L
  have z148 := gn_xO kp (gm_z148 hI.L)
  have hT : gm_isT 1002 = true := rfl
  obtain ⟨a1, b1⟩ := gn_rd hp hLn (j := i + 1) (by omega) (by omega)
  obtain ⟨c1, d1⟩ := gn_rd hp1 hLn (j := i + 1) (by omega) (by omega)
  refine ⟨M2, fun F => ?_, hI2, hp2⟩
  unfold gn_ll
  rw [show 11 + 2 = 13 from rfl, xL_law_13]
  simp (config := { maxSteps := 2000000 }) (disch := first | omega | assumption | (simp only [gm_isO_sF, gm_isO_sA, gm_isO_cp]; assumption)) only [gm_push, gm_iload, gm_lload, gm_aload, gm_istore, gm_astore, gm_iinc, gm_op2, gm_quo, gm_op1, gm_lop2, gm_lshl, gm_i2l, gm_l2i, gm_lcmp, gm_dup, gm_pop1, gm_dup2, gm_goto, gm_ifeq, gm_ifne, gm_iflt, gm_ifge, gm_ifgt, gm_ifle, gm_ceq, gm_cne, gm_clt, gm_cge, gm_cgt, gm_cle, gm_ifnull, gm_ifnonnull, gm_swk, gm_switch, gm_getI, gm_getR, gm_putI, gm_putZ, gm_putR, gm_new, gm_newarr, gm_iald, gm_cald, gm_zald, gm_lald, gm_aald, gm_iast, gm_cast, gm_zast, gm_last, gm_aast, gm_acp, gm_oinit, gm_back, gm_scall, gm_vcall, gm_iret, gm_zret, gm_cret, gm_lret, gm_aret, gm_vret, gm_slen, gm_schar, gm_sidx, gm_lget, gm_lset, gm_nl, gm_ent, gm_wd, gm_pop, gm_pad, gm_xl_c, gm_alen_u, gm_1_sF, gm_1_sA, gm_1_cp, gm_len_sF, gm_len_sA, gm_len_cp, Bool.or_true, Bool.true_or, gm_max_u, gm_min_u, gm_isO_sF, gm_isO_sA, gm_isO_cp, gm_gF_sF, gm_gF_sA, gm_gA_sF, gm_gA_sA, gm_gF_cp, gm_gA_cp, gm_add, gm_sub, gm_mul, gm_neg, ↓reduceIte, Nat.reduceAdd, Nat.reduceLeDiff, true_and, and_true, and_self, true_or, or_true, false_and, and_false, false_or, or_false, eq_self, Nat.reduceEqDiff, Int.reduceEq, Int.reduceLT, Int.reduceLE, Int.reduceNeg, Int.reduceAdd, Int.reduceSub, Int.reduceMul, Int.reduceDiv, Int.reduceMod, reduceCtorEq, if_true, if_false, gm_w_id, Bool.true_or, xL_law_38, z1, z148, hT, a1, b1, c1, d1, e1', e2', Int.lt_irrefl]
