/-! THE LAW: its cases, the rest -/
theorem lc_looked {xs : Int → Int} {Ln : Int} (hP : gn_PvH) (hxs : ∀ i, gm_i (xs i)) (hLn : Ln ≤ 3072) : gn_cas xs Ln 24 := fun d i M hI hp h0 h6 => by
  obtain ⟨x, M1, M2, e1, e2, hI2, hp2⟩ := s_looked  M (d + 20) xs Ln hI hp
  have e1' : gm_go (d + 40) 78 [.inr (.inr 1)] M = some (some (.inl x), M1) := e1
  have e2' : gm_go (d + 40) 165 [.inr (.inr 148)] M1 = some (some (.inl x), M2) := e2
  have kp := hP _ _ _ _ _ _ (Nat.le_of_eq hI.L.1) e1'
  have hp1 := kp.pu hp
  have z1 := gm_z1 hI.L
  have z148 := gn_xO kp (gm_z148 hI.L)
  have hT : gm_isT 1002 = true := rfl
  refine ⟨M2, fun F => ?_, hI2, hp2⟩
  unfold gn_ll
  rw [show 24 + 2 = 26 from rfl, xL_law_26]
  simp (config := { maxSteps := 2000000 }) (disch := first | omega | assumption | (simp only [gm_isO_sF, gm_isO_sA, gm_isO_cp]; assumption)) only [gm_push, gm_iload, gm_lload, gm_aload, gm_istore, gm_astore, gm_iinc, gm_op2, gm_quo, gm_op1, gm_lop2, gm_lshl, gm_i2l, gm_l2i, gm_lcmp, gm_dup, gm_pop1, gm_dup2, gm_goto, gm_ifeq, gm_ifne, gm_iflt, gm_ifge, gm_ifgt, gm_ifle, gm_ceq, gm_cne, gm_clt, gm_cge, gm_cgt, gm_cle, gm_ifnull, gm_ifnonnull, gm_swk, gm_switch, gm_getI, gm_getR, gm_putI, gm_putZ, gm_putR, gm_new, gm_newarr, gm_iald, gm_cald, gm_zald, gm_lald, gm_aald, gm_iast, gm_cast, gm_zast, gm_last, gm_aast, gm_acp, gm_oinit, gm_back, gm_scall, gm_vcall, gm_iret, gm_zret, gm_cret, gm_lret, gm_aret, gm_vret, gm_slen, gm_schar, gm_sidx, gm_lget, gm_lset, gm_nl, gm_ent, gm_wd, gm_pop, gm_pad, gm_xl_c, gm_alen_u, gm_1_sF, gm_1_sA, gm_1_cp, gm_len_sF, gm_len_sA, gm_len_cp, Bool.or_true, Bool.true_or, gm_max_u, gm_min_u, gm_isO_sF, gm_isO_sA, gm_isO_cp, gm_gF_sF, gm_gF_sA, gm_gA_sF, gm_gA_sA, gm_gF_cp, gm_gA_cp, gm_add, gm_sub, gm_mul, gm_neg, ↓reduceIte, Nat.reduceAdd, Nat.reduceLeDiff, true_and, and_true, and_self, true_or, or_true, false_and, and_false, false_or, or_false, eq_self, Nat.reduceEqDiff, Int.reduceEq, Int.reduceLT, Int.reduceLE, Int.reduceNeg, Int.reduceAdd, Int.reduceSub, Int.reduceMul, Int.reduceDiv, Int.reduceMod, reduceCtorEq, if_true, if_false, gm_w_id, Bool.true_or, xL_law_38, z1, z148, hT, e1', e2', Int.lt_irrefl]
theorem lc_judge {xs : Int → Int} {Ln : Int} (hP : gn_PvH) (hxs : ∀ i, gm_i (xs i)) (hLn : Ln ≤ 3072) : gn_cas xs Ln 25 := fun d i M hI hp h0 h6 => by
  obtain ⟨x, M1, M2, e1, e2, hI2, hp2⟩ := s_judge (xs (i + 1)) (xs (i + 2)) (hxs _) (hxs _) M (d + 20) xs Ln hI hp
  have e1' : gm_go (d + 40) 79 [.inr (.inr 1), .inl (xs (i + 1)), .inl (xs (i + 2))] M = some (some (.inl x), M1) := e1
  have e2' : gm_go (d + 40) 166 [.inr (.inr 148), .inl (xs (i + 1)), .inl (xs (i + 2))] M1 = some (some (.inl x), M2) := e2
  have kp := hP _ _ _ _ _ _ (Nat.le_of_eq hI.L.1) e1'
  have hp1 := kp.pu hp
  have z1 := gm_z1 hI.L
  have z148 := gn_xO kp (gm_z148 hI.L)
  have hT : gm_isT 1002 = true := rfl
  obtain ⟨a1, b1⟩ := gn_rd hp hLn (j := i + 1) (by omega) (by omega)
  obtain ⟨c1, d1⟩ := gn_rd hp1 hLn (j := i + 1) (by omega) (by omega)
  obtain ⟨a2, b2⟩ := gn_rd hp hLn (j := i + 2) (by omega) (by omega)
  obtain ⟨c2, d2⟩ := gn_rd hp1 hLn (j := i + 2) (by omega) (by omega)
  refine ⟨M2, fun F => ?_, hI2, hp2⟩
  unfold gn_ll
  rw [show 25 + 2 = 27 from rfl, xL_law_27]
  simp (config := { maxSteps := 2000000 }) (disch := first | omega | assumption | (simp only [gm_isO_sF, gm_isO_sA, gm_isO_cp]; assumption)) only [gm_push, gm_iload, gm_lload, gm_aload, gm_istore, gm_astore, gm_iinc, gm_op2, gm_quo, gm_op1, gm_lop2, gm_lshl, gm_i2l, gm_l2i, gm_lcmp, gm_dup, gm_pop1, gm_dup2, gm_goto, gm_ifeq, gm_ifne, gm_iflt, gm_ifge, gm_ifgt, gm_ifle, gm_ceq, gm_cne, gm_clt, gm_cge, gm_cgt, gm_cle, gm_ifnull, gm_ifnonnull, gm_swk, gm_switch, gm_getI, gm_getR, gm_putI, gm_putZ, gm_putR, gm_new, gm_newarr, gm_iald, gm_cald, gm_zald, gm_lald, gm_aald, gm_iast, gm_cast, gm_zast, gm_last, gm_aast, gm_acp, gm_oinit, gm_back, gm_scall, gm_vcall, gm_iret, gm_zret, gm_cret, gm_lret, gm_aret, gm_vret, gm_slen, gm_schar, gm_sidx, gm_lget, gm_lset, gm_nl, gm_ent, gm_wd, gm_pop, gm_pad, gm_xl_c, gm_alen_u, gm_1_sF, gm_1_sA, gm_1_cp, gm_len_sF, gm_len_sA, gm_len_cp, Bool.or_true, Bool.true_or, gm_max_u, gm_min_u, gm_isO_sF, gm_isO_sA, gm_isO_cp, gm_gF_sF, gm_gF_sA, gm_gA_sF, gm_gA_sA, gm_gF_cp, gm_gA_cp, gm_add, gm_sub, gm_mul, gm_neg, ↓reduceIte, Nat.reduceAdd, Nat.reduceLeDiff, true_and, and_true, and_self, true_or, or_true, false_and, and_false, false_or, or_false, eq_self, Nat.reduceEqDiff, Int.reduceEq, Int.reduceLT, Int.reduceLE, Int.reduceNeg, Int.reduceAdd, Int.reduceSub, Int.reduceMul, Int.reduceDiv, Int.reduceMod, reduceCtorEq, if_true, if_false, gm_w_id, Bool.true_or, xL_law_38, z1, z148, hT, a1, b1, c1, d1, a2, b2, c2, d2, e1', e2', Int.lt_irrefl]
theorem lc_image {xs : Int → Int} {Ln : Int} (hP : gn_PvH) (hxs : ∀ i, gm_i (xs i)) (hLn : Ln ≤ 3072) : gn_cas xs Ln 26 := fun d i M hI hp h0 h6 => by
  obtain ⟨x, M1, M2, e1, e2, hI2, hp2⟩ := s_image  M (d + 20) xs Ln hI hp
  have e1' : gm_go (d + 40) 80 [.inr (.inr 1)] M = some (some (.inl x), M1) := e1
  have e2' : gm_go (d + 40) 167 [.inr (.inr 148)] M1 = some (some (.inl x), M2) := e2
  have kp := hP _ _ _ _ _ _ (Nat.le_of_eq hI.L.1) e1'
  have hp1 := kp.pu hp
  have z1 := gm_z1 hI.L
  have z148 := gn_xO kp (gm_z148 hI.L)
  have hT : gm_isT 1002 = true := rfl
  refine ⟨M2, fun F => ?_, hI2, hp2⟩
  unfold gn_ll
  rw [show 26 + 2 = 28 from rfl, xL_law_28]
  simp (config := { maxSteps := 2000000 }) (disch := first | omega | assumption | (simp only [gm_isO_sF, gm_isO_sA, gm_isO_cp]; assumption)) only [gm_push, gm_iload, gm_lload, gm_aload, gm_istore, gm_astore, gm_iinc, gm_op2, gm_quo, gm_op1, gm_lop2, gm_lshl, gm_i2l, gm_l2i, gm_lcmp, gm_dup, gm_pop1, gm_dup2, gm_goto, gm_ifeq, gm_ifne, gm_iflt, gm_ifge, gm_ifgt, gm_ifle, gm_ceq, gm_cne, gm_clt, gm_cge, gm_cgt, gm_cle, gm_ifnull, gm_ifnonnull, gm_swk, gm_switch, gm_getI, gm_getR, gm_putI, gm_putZ, gm_putR, gm_new, gm_newarr, gm_iald, gm_cald, gm_zald, gm_lald, gm_aald, gm_iast, gm_cast, gm_zast, gm_last, gm_aast, gm_acp, gm_oinit, gm_back, gm_scall, gm_vcall, gm_iret, gm_zret, gm_cret, gm_lret, gm_aret, gm_vret, gm_slen, gm_schar, gm_sidx, gm_lget, gm_lset, gm_nl, gm_ent, gm_wd, gm_pop, gm_pad, gm_xl_c, gm_alen_u, gm_1_sF, gm_1_sA, gm_1_cp, gm_len_sF, gm_len_sA, gm_len_cp, Bool.or_true, Bool.true_or, gm_max_u, gm_min_u, gm_isO_sF, gm_isO_sA, gm_isO_cp, gm_gF_sF, gm_gF_sA, gm_gA_sF, gm_gA_sA, gm_gF_cp, gm_gA_cp, gm_add, gm_sub, gm_mul, gm_neg, ↓reduceIte, Nat.reduceAdd, Nat.reduceLeDiff, true_and, and_true, and_self, true_or, or_true, false_and, and_false, false_or, or_false, eq_self, Nat.reduceEqDiff, Int.reduceEq, Int.reduceLT, Int.reduceLE, Int.reduceNeg, Int.reduceAdd, Int.reduceSub, Int.reduceMul, Int.reduceDiv, Int.reduceMod, reduceCtorEq, if_true, if_false, gm_w_id, Bool.true_or, xL_law_38, z1, z148, hT, e1', e2', Int.lt_irrefl]
theorem lc_undo {xs : Int → Int} {Ln : Int} (hP : gn_PvH) (hxs : ∀ i, gm_i (xs i)) (hLn : Ln ≤ 3072) : gn_cas xs Ln 27 := fun d i M hI hp h0 h6 => by
  obtain ⟨x, M1, M2, e1, e2, hI2, hp2⟩ := s_undo  M (d + 20) xs Ln hI hp
  have e1' : gm_go (d + 40) 81 [.inr (.inr 1)] M = some (some (.inl x), M1) := e1
  have e2' : gm_go (d + 40) 168 [.inr (.inr 148)] M1 = some (some (.inl x), M2) := e2
  have kp := hP _ _ _ _ _ _ (Nat.le_of_eq hI.L.1) e1'
  have hp1 := kp.pu hp
  have z1 := gm_z1 hI.L
  have z148 := gn_xO kp (gm_z148 hI.L)
  have hT : gm_isT 1002 = true := rfl
  refine ⟨M2, fun F => ?_, hI2, hp2⟩
  unfold gn_ll
  rw [show 27 + 2 = 29 from rfl, xL_law_29]
  simp (config := { maxSteps := 2000000 }) (disch := first | omega | assumption | (simp only [gm_isO_sF, gm_isO_sA, gm_isO_cp]; assumption)) only [gm_push, gm_iload, gm_lload, gm_aload, gm_istore, gm_astore, gm_iinc, gm_op2, gm_quo, gm_op1, gm_lop2, gm_lshl, gm_i2l, gm_l2i, gm_lcmp, gm_dup, gm_pop1, gm_dup2, gm_goto, gm_ifeq, gm_ifne, gm_iflt, gm_ifge, gm_ifgt, gm_ifle, gm_ceq, gm_cne, gm_clt, gm_cge, gm_cgt, gm_cle, gm_ifnull, gm_ifnonnull, gm_swk, gm_switch, gm_getI, gm_getR, gm_putI, gm_putZ, gm_putR, gm_new, gm_newarr, gm_iald, gm_cald, gm_zald, gm_lald, gm_aald, gm_iast, gm_cast, gm_zast, gm_last, gm_aast, gm_acp, gm_oinit, gm_back, gm_scall, gm_vcall, gm_iret, gm_zret, gm_cret, gm_lret, gm_aret, gm_vret, gm_slen, gm_schar, gm_sidx, gm_lget, gm_lset, gm_nl, gm_ent, gm_wd, gm_pop, gm_pad, gm_xl_c, gm_alen_u, gm_1_sF, gm_1_sA, gm_1_cp, gm_len_sF, gm_len_sA, gm_len_cp, Bool.or_true, Bool.true_or, gm_max_u, gm_min_u, gm_isO_sF, gm_isO_sA, gm_isO_cp, gm_gF_sF, gm_gF_sA, gm_gA_sF, gm_gA_sA, gm_gF_cp, gm_gA_cp, gm_add, gm_sub, gm_mul, gm_neg, ↓reduceIte, Nat.reduceAdd, Nat.reduceLeDiff, true_and, and_true, and_self, true_or, or_true, false_and, and_false, false_or, or_false, eq_self, Nat.reduceEqDiff, Int.reduceEq, Int.reduceLT, Int.reduceLE, Int.reduceNeg, Int.reduceAdd, Int.reduceSub, Int.reduceMul, Int.reduceDiv, Int.reduceMod, reduceCtorEq, if_true, if_false, gm_w_id, Bool.true_or, xL_law_38, z1, z148, hT, e1', e2', Int.lt_irrefl]
theorem lc_act {xs : Int → Int} {Ln : Int} (hP : gn_PvH) (hxs : ∀ i, gm_i (xs i)) (hLn : Ln ≤ 3072) : gn_cas xs Ln 28 := fun d i M hI hp h0 h6 => by
  obtain ⟨x, M1, M2, e1, e2, hI2, hp2⟩ := s_act (xs (i + 1)) (xs (i + 2)) (xs (i + 3)) (hxs _) (hxs _) (hxs _) M (d + 20) xs Ln hI hp
  have e1' : gm_go (d + 40) 82 [.inr (.inr 1), .inl (xs (i + 1)), .inl (xs (i + 2)), .inl (xs (i + 3))] M = some (some (.inl x), M1) := e1
  have e2' : gm_go (d + 40) 177 [.inr (.inr 148), .inl (xs (i + 1)), .inl (xs (i + 2)), .inl (xs (i + 3))] M1 = some (some (.inl x), M2) := e2
  have kp := hP _ _ _ _ _ _ (Nat.le_of_eq hI.L.1) e1'
  have hp1 := kp.pu hp
  have z1 := gm_z1 hI.L
  have z148 := gn_xO kp (gm_z148 hI.L)
  have hT : gm_isT 1002 = true := rfl
  obtain ⟨a1, b1⟩ := gn_rd hp hLn (j := i + 1) (by omega) (by omega)
  obtain ⟨c1, d1⟩ := gn_rd hp1 hLn (j := i + 1) (by omega) (by omega)
  obtain ⟨a2, b2⟩ := gn_rd hp hLn (j := i + 2) (by omega) (by omega)
  obtain ⟨c2, d2⟩ := gn_rd hp1 hLn (j := i + 2) (by omega) (by omega)
  obtain ⟨a3, b3⟩ := gn_rd hp hLn (j := i + 3) (by omega) (by omega)
  obtain ⟨c3, d3⟩ := gn_rd hp1 hLn (j := i + 3) (by omega) (by omega)
  refine ⟨M2, fun F => ?_, hI2, hp2⟩
  unfold gn_ll
  rw [show 28 + 2 = 30 from rfl, xL_law_30]
  simp (config := { maxSteps := 2000000 }) (disch := first | omega | assumption | (simp only [gm_isO_sF, gm_isO_sA, gm_isO_cp]; assumption)) only [gm_push, gm_iload, gm_lload, gm_aload, gm_istore, gm_astore, gm_iinc, gm_op2, gm_quo, gm_op1, gm_lop2, gm_lshl, gm_i2l, gm_l2i, gm_lcmp, gm_dup, gm_pop1, gm_dup2, gm_goto, gm_ifeq, gm_ifne, gm_iflt, gm_ifge, gm_ifgt, gm_ifle, gm_ceq, gm_cne, gm_clt, gm_cge, gm_cgt, gm_cle, gm_ifnull, gm_ifnonnull, gm_swk, gm_switch, gm_getI, gm_getR, gm_putI, gm_putZ, gm_putR, gm_new, gm_newarr, gm_iald, gm_cald, gm_zald, gm_lald, gm_aald, gm_iast, gm_cast, gm_zast, gm_last, gm_aast, gm_acp, gm_oinit, gm_back, gm_scall, gm_vcall, gm_iret, gm_zret, gm_cret, gm_lret, gm_aret, gm_vret, gm_slen, gm_schar, gm_sidx, gm_lget, gm_lset, gm_nl, gm_ent, gm_wd, gm_pop, gm_pad, gm_xl_c, gm_alen_u, gm_1_sF, gm_1_sA, gm_1_cp, gm_len_sF, gm_len_sA, gm_len_cp, Bool.or_true, Bool.true_or, gm_max_u, gm_min_u, gm_isO_sF, gm_isO_sA, gm_isO_cp, gm_gF_sF, gm_gF_sA, gm_gA_sF, gm_gA_sA, gm_gF_cp, gm_gA_cp, gm_add, gm_sub, gm_mul, gm_neg, ↓reduceIte, Nat.reduceAdd, Nat.reduceLeDiff, true_and, and_true, and_self, true_or, or_true, false_and, and_false, false_or, or_false, eq_self, Nat.reduceEqDiff, Int.reduceEq, Int.reduceLT, Int.reduceLE, Int.reduceNeg, Int.reduceAdd, Int.reduceSub, Int.reduceMul, Int.reduceDiv, Int.reduceMod, reduceCtorEq, if_true, if_false, gm_w_id, Bool.true_or, xL_law_38, z1, z148, hT, a1, b1, c1, d1, a2, b2, c2, d2, a3, b3, c3, d3, e1', e2', Int.lt_irrefl]
theorem lc_trace {xs : Int → Int} {Ln : Int} (hP : gn_PvH) (hxs : ∀ i, gm_i (xs i)) (hLn : Ln ≤ 3072) : gn_cas xs Ln 29 := fun d i M hI hp h0 h6 => by
  obtain ⟨x, M1, M2, e1, e2, hI2, hp2⟩ := s_trace (xs (i + 1)) (hxs _) M (d + 20) xs Ln hI hp
  have e1' : gm_go (d + 40) 83 [.inr (.inr 1), .inl (xs (i + 1))] M = some (some (.inl x), M1) := e1
  have e2' : gm_go (d + 40) 178 [.inr (.inr 148), .inl (xs (i + 1))] M1 = some (some (.inl x), M2) := e2
  have kp := hP _ _ _ _ _ _ (Nat.le_of_eq hI.L.1) e1'
  have hp1 := kp.pu hp
  have z1 := gm_z1 hI.L
  have z148 := gn_xO kp (gm_z148 hI.L)
  have hT : gm_isT 1002 = true := rfl
  obtain ⟨a1, b1⟩ := gn_rd hp hLn (j := i + 1) (by omega) (by omega)
  obtain ⟨c1, d1⟩ := gn_rd hp1 hLn (j := i + 1) (by omega) (by omega)
  refine ⟨M2, fun F => ?_, hI2, hp2⟩
  unfold gn_ll
  rw [show 29 + 2 = 31 from rfl, xL_law_31]
  simp (config := { maxSteps := 2000000 }) (disch := first | omega | assumption | (simp only [gm_isO_sF, gm_isO_sA, gm_isO_cp]; assumption)) only [gm_push, gm_iload, gm_lload, gm_aload, gm_istore, gm_astore, gm_iinc, gm_op2, gm_quo, gm_op1, gm_lop2, gm_lshl, gm_i2l, gm_l2i, gm_lcmp, gm_dup, gm_pop1, gm_dup2, gm_goto, gm_ifeq, gm_ifne, gm_iflt, gm_ifge, gm_ifgt, gm_ifle, gm_ceq, gm_cne, gm_clt, gm_cge, gm_cgt, gm_cle, gm_ifnull, gm_ifnonnull, gm_swk, gm_switch, gm_getI, gm_getR, gm_putI, gm_putZ, gm_putR, gm_new, gm_newarr, gm_iald, gm_cald, gm_zald, gm_lald, gm_aald, gm_iast, gm_cast, gm_zast, gm_last, gm_aast, gm_acp, gm_oinit, gm_back, gm_scall, gm_vcall, gm_iret, gm_zret, gm_cret, gm_lret, gm_aret, gm_vret, gm_slen, gm_schar, gm_sidx, gm_lget, gm_lset, gm_nl, gm_ent, gm_wd, gm_pop, gm_pad, gm_xl_c, gm_alen_u, gm_1_sF, gm_1_sA, gm_1_cp, gm_len_sF, gm_len_sA, gm_len_cp, Bool.or_true, Bool.true_or, gm_max_u, gm_min_u, gm_isO_sF, gm_isO_sA, gm_isO_cp, gm_gF_sF, gm_gF_sA, gm_gA_sF, gm_gA_sA, gm_gF_cp, gm_gA_cp, gm_add, gm_sub, gm_mul, gm_neg, ↓reduceIte, Nat.reduceAdd, Nat.reduceLeDiff, true_and, and_true, and_self, true_or, or_true, false_and, and_false, false_or, or_false, eq_self, Nat.reduceEqDiff, Int.reduceEq, Int.reduceLT, Int.reduceLE, Int.reduceNeg, Int.reduceAdd, Int.reduceSub, Int.reduceMul, Int.reduceDiv, Int.reduceMod, reduceCtorEq, if_true, if_false, gm_w_id, Bool.true_or, xL_law_38, z1, z148, hT, a1, b1, c1, d1, e1', e2', Int.lt_irrefl]
theorem lc_taken {xs : Int → Int} {Ln : Int} (hP : gn_PvH) (hxs : ∀ i, gm_i (xs i)) (hLn : Ln ≤ 3072) : gn_cas xs Ln 30 := fun d i M hI hp h0 h6 => by
  obtain ⟨x, M1, M2, e1, e2, hI2, hp2⟩ := s_taken (xs (i + 1)) (xs (i + 2)) (hxs _) (hxs _) M (d + 20) xs Ln hI hp
  have e1' : gm_go (d + 40) 84 [.inr (.inr 1), .inl (xs (i + 1)), .inl (xs (i + 2))] M = some (some (.inl x), M1) := e1
  have e2' : gm_go (d + 40) 179 [.inr (.inr 148), .inl (xs (i + 1)), .inl (xs (i + 2))] M1 = some (some (.inl x), M2) := e2
  have kp := hP _ _ _ _ _ _ (Nat.le_of_eq hI.L.1) e1'
  have hp1 := kp.pu hp
  have z1 := gm_z1 hI.L
  have z148 := gn_xO kp (gm_z148 hI.L)
  have hT : gm_isT 1002 = true := rfl
  obtain ⟨a1, b1⟩ := gn_rd hp hLn (j := i + 1) (by omega) (by omega)
  obtain ⟨c1, d1⟩ := gn_rd hp1 hLn (j := i + 1) (by omega) (by omega)
  obtain ⟨a2, b2⟩ := gn_rd hp hLn (j := i + 2) (by omega) (by omega)
  obtain ⟨c2, d2⟩ := gn_rd hp1 hLn (j := i + 2) (by omega) (by omega)
  refine ⟨M2, fun F => ?_, hI2, hp2⟩
  unfold gn_ll
  rw [show 30 + 2 = 32 from rfl, xL_law_32]
  simp (config := { maxSteps := 2000000 }) (disch := first | omega | assumption | (simp only [gm_isO_sF, gm_isO_sA, gm_isO_cp]; assumption)) only [gm_push, gm_iload, gm_lload, gm_aload, gm_istore, gm_astore, gm_iinc, gm_op2, gm_quo, gm_op1, gm_lop2, gm_lshl, gm_i2l, gm_l2i, gm_lcmp, gm_dup, gm_pop1, gm_dup2, gm_goto, gm_ifeq, gm_ifne, gm_iflt, gm_ifge, gm_ifgt, gm_ifle, gm_ceq, gm_cne, gm_clt, gm_cge, gm_cgt, gm_cle, gm_ifnull, gm_ifnonnull, gm_swk, gm_switch, gm_getI, gm_getR, gm_putI, gm_putZ, gm_putR, gm_new, gm_newarr, gm_iald, gm_cald, gm_zald, gm_lald, gm_aald, gm_iast, gm_cast, gm_zast, gm_last, gm_aast, gm_acp, gm_oinit, gm_back, gm_scall, gm_vcall, gm_iret, gm_zret, gm_cret, gm_lret, gm_aret, gm_vret, gm_slen, gm_schar, gm_sidx, gm_lget, gm_lset, gm_nl, gm_ent, gm_wd, gm_pop, gm_pad, gm_xl_c, gm_alen_u, gm_1_sF, gm_1_sA, gm_1_cp, gm_len_sF, gm_len_sA, gm_len_cp, Bool.or_true, Bool.true_or, gm_max_u, gm_min_u, gm_isO_sF, gm_isO_sA, gm_isO_cp, gm_gF_sF, gm_gF_sA, gm_gA_sF, gm_gA_sA, gm_gF_cp, gm_gA_cp, gm_add, gm_sub, gm_mul, gm_neg, ↓reduceIte, Nat.reduceAdd, Nat.reduceLeDiff, true_and, and_true, and_self, true_or, or_true, false_and, and_false, false_or, or_false, eq_self, Nat.reduceEqDiff, Int.reduceEq, Int.reduceLT, Int.reduceLE, Int.reduceNeg, Int.reduceAdd, Int.reduceSub, Int.reduceMul, Int.reduceDiv, Int.reduceMod, reduceCtorEq, if_true, if_false, gm_w_id, Bool.true_or, xL_law_38, z1, z148, hT, a1, b1, c1, d1, a2, b2, c2, d2, e1', e2', Int.lt_irrefl]
theorem lc_count {xs : Int → Int} {Ln : Int} (hP : gn_PvH) (hxs : ∀ i, gm_i (xs i)) (hLn : Ln ≤ 3072) : gn_cas xs Ln 31 := fun d i M hI hp h0 h6 => by
  obtain ⟨x, M1, M2, e1, e2, hI2, hp2⟩ := s_count (xs (i + 1)) (hxs _) M (d + 20) xs Ln hI hp
  have e1' : gm_go (d + 40) 85 [.inr (.inr 1), .inl (xs (i + 1))] M = some (some (.inl x), M1) := e1
  have e2' : gm_go (d + 40) 180 [.inr (.inr 148), .inl (xs (i + 1))] M1 = some (some (.inl x), M2) := e2
  have kp := hP _ _ _ _ _ _ (Nat.le_of_eq hI.L.1) e1'
  have hp1 := kp.pu hp
  have z1 := gm_z1 hI.L
  have z148 := gn_xO kp (gm_z148 hI.L)
  have hT : gm_isT 1002 = true := rfl
  obtain ⟨a1, b1⟩ := gn_rd hp hLn (j := i + 1) (by omega) (by omega)
  obtain ⟨c1, d1⟩ := gn_rd hp1 hLn (j := i + 1) (by omega) (by omega)
  refine ⟨M2, fun F => ?_, hI2, hp2⟩
  unfold gn_ll
  rw [show 31 + 2 = 33 from rfl, xL_law_33]
  simp (config := { maxSteps := 2000000 }) (disch := first | omega | assumption | (simp only [gm_isO_sF, gm_isO_sA, gm_isO_cp]; assumption)) only [gm_push, gm_iload, gm_lload, gm_aload, gm_istore, gm_astore, gm_iinc, gm_op2, gm_quo, gm_op1, gm_lop2, gm_lshl, gm_i2l, gm_l2i, gm_lcmp, gm_dup, gm_pop1, gm_dup2, gm_goto, gm_ifeq, gm_ifne, gm_iflt, gm_ifge, gm_ifgt, gm_ifle, gm_ceq, gm_cne, gm_clt, gm_cge, gm_cgt, gm_cle, gm_ifnull, gm_ifnonnull, gm_swk, gm_switch, gm_getI, gm_getR, gm_putI, gm_putZ, gm_putR, gm_new, gm_newarr, gm_iald, gm_cald, gm_zald, gm_lald, gm_aald, gm_iast, gm_cast, gm_zast, gm_last, gm_aast, gm_acp, gm_oinit, gm_back, gm_scall, gm_vcall, gm_iret, gm_zret, gm_cret, gm_lret, gm_aret, gm_vret, gm_slen, gm_schar, gm_sidx, gm_lget, gm_lset, gm_nl, gm_ent, gm_wd, gm_pop, gm_pad, gm_xl_c, gm_alen_u, gm_1_sF, gm_1_sA, gm_1_cp, gm_len_sF, gm_len_sA, gm_len_cp, Bool.or_true, Bool.true_or, gm_max_u, gm_min_u, gm_isO_sF, gm_isO_sA, gm_isO_cp, gm_gF_sF, gm_gF_sA, gm_gA_sF, gm_gA_sA, gm_gF_cp, gm_gA_cp, gm_add, gm_sub, gm_mul, gm_neg, ↓reduceIte, Nat.reduceAdd, Nat.reduceLeDiff, true_and, and_true, and_self, true_or, or_true, false_and, and_false, false_or, or_false, eq_self, Nat.reduceEqDiff, Int.reduceEq, Int.reduceLT, Int.reduceLE, Int.reduceNeg, Int.reduceAdd, Int.reduceSub, Int.reduceMul, Int.reduceDiv, Int.reduceMod, reduceCtorEq, if_true, if_false, gm_w_id, Bool.true_or, xL_law_38, z1, z148, hT, a1, b1, c1, d1, e1', e2', Int.lt_irrefl]
theorem lc_tape {xs : Int → Int} {Ln : Int} (hP : gn_PvH) (hxs : ∀ i, gm_i (xs i)) (hLn : Ln ≤ 3072) : gn_cas xs Ln 32 := fun d i M hI hp h0 h6 => by
  obtain ⟨x, M1, M2, e1, e2, hI2, hp2⟩ := s_tape (xs (i + 1)) (xs (i + 2)) (xs (i + 3)) (hxs _) (hxs _) (hxs _) M (d + 20) xs Ln hI hp
  have e1' : gm_go (d + 40) 86 [.inr (.inr 1), .inl (xs (i + 1)), .inl (xs (i + 2)), .inl (xs (i + 3))] M = some (some (.inl x), M1) := e1
  have e2' : gm_go (d + 40) 182 [.inr (.inr 148), .inl (xs (i + 1)), .inl (xs (i + 2)), .inl (xs (i + 3))] M1 = some (some (.inl x), M2) := e2
  have kp := hP _ _ _ _ _ _ (Nat.le_of_eq hI.L.1) e1'
  have hp1 := kp.pu hp
  have z1 := gm_z1 hI.L
  have z148 := gn_xO kp (gm_z148 hI.L)
  have hT : gm_isT 1002 = true := rfl
  obtain ⟨a1, b1⟩ := gn_rd hp hLn (j := i + 1) (by omega) (by omega)
  obtain ⟨c1, d1⟩ := gn_rd hp1 hLn (j := i + 1) (by omega) (by omega)
  obtain ⟨a2, b2⟩ := gn_rd hp hLn (j := i + 2) (by omega) (by omega)
  obtain ⟨c2, d2⟩ := gn_rd hp1 hLn (j := i + 2) (by omega) (by omega)
  obtain ⟨a3, b3⟩ := gn_rd hp hLn (j := i + 3) (by omega) (by omega)
  obtain ⟨c3, d3⟩ := gn_rd hp1 hLn (j := i + 3) (by omega) (by omega)
  refine ⟨M2, fun F => ?_, hI2, hp2⟩
  unfold gn_ll
  rw [show 32 + 2 = 34 from rfl, xL_law_34]
  simp (config := { maxSteps := 2000000 }) (disch := first | omega | assumption | (simp only [gm_isO_sF, gm_isO_sA, gm_isO_cp]; assumption)) only [gm_push, gm_iload, gm_lload, gm_aload, gm_istore, gm_astore, gm_iinc, gm_op2, gm_quo, gm_op1, gm_lop2, gm_lshl, gm_i2l, gm_l2i, gm_lcmp, gm_dup, gm_pop1, gm_dup2, gm_goto, gm_ifeq, gm_ifne, gm_iflt, gm_ifge, gm_ifgt, gm_ifle, gm_ceq, gm_cne, gm_clt, gm_cge, gm_cgt, gm_cle, gm_ifnull, gm_ifnonnull, gm_swk, gm_switch, gm_getI, gm_getR, gm_putI, gm_putZ, gm_putR, gm_new, gm_newarr, gm_iald, gm_cald, gm_zald, gm_lald, gm_aald, gm_iast, gm_cast, gm_zast, gm_last, gm_aast, gm_acp, gm_oinit, gm_back, gm_scall, gm_vcall, gm_iret, gm_zret, gm_cret, gm_lret, gm_aret, gm_vret, gm_slen, gm_schar, gm_sidx, gm_lget, gm_lset, gm_nl, gm_ent, gm_wd, gm_pop, gm_pad, gm_xl_c, gm_alen_u, gm_1_sF, gm_1_sA, gm_1_cp, gm_len_sF, gm_len_sA, gm_len_cp, Bool.or_true, Bool.true_or, gm_max_u, gm_min_u, gm_isO_sF, gm_isO_sA, gm_isO_cp, gm_gF_sF, gm_gF_sA, gm_gA_sF, gm_gA_sA, gm_gF_cp, gm_gA_cp, gm_add, gm_sub, gm_mul, gm_neg, ↓reduceIte, Nat.reduceAdd, Nat.reduceLeDiff, true_and, and_true, and_self, true_or, or_true, false_and, and_false, false_or, or_false, eq_self, Nat.reduceEqDiff, Int.reduceEq, Int.reduceLT, Int.reduceLE, Int.reduceNeg, Int.reduceAdd, Int.reduceSub, Int.reduceMul, Int.reduceDiv, Int.reduceMod, reduceCtorEq, if_true, if_false, gm_w_id, Bool.true_or, xL_law_38, z1, z148, hT, a1, b1, c1, d1, a2, b2, c2, d2, a3, b3, c3, d3, e1', e2', Int.lt_irrefl]
theorem lc_item {xs : Int → Int} {Ln : Int} (hP : gn_PvH) (hxs : ∀ i, gm_i (xs i)) (hLn : Ln ≤ 3072) : gn_cas xs Ln 33 := fun d i M hI hp h0 h6 => by
  obtain ⟨x, M1, M2, e1, e2, hI2, hp2⟩ := s_item (xs (i + 1)) (xs (i + 2)) (gm_lor ((Int64.ofInt (gm_w (xs (i + 3))) <<< ((Int32.ofInt 32).toInt64 &&& 63)).toInt) (gm_land (gm_w (xs (i + 4))) 4294967295)) (hxs _) (hxs _) M (d + 20) xs Ln hI hp
  have e1' : gm_go (d + 40) 87 [.inr (.inr 1), .inl (xs (i + 1)), .inl (xs (i + 2)), .inr (.inl (gm_lor ((Int64.ofInt (gm_w (xs (i + 3))) <<< ((Int32.ofInt 32).toInt64 &&& 63)).toInt) (gm_land (gm_w (xs (i + 4))) 4294967295)))] M = some (some (.inl x), M1) := e1
  have e2' : gm_go (d + 40) 184 [.inr (.inr 148), .inl (xs (i + 1)), .inl (xs (i + 2)), .inr (.inl (gm_lor ((Int64.ofInt (gm_w (xs (i + 3))) <<< ((Int32.ofInt 32).toInt64 &&& 63)).toInt) (gm_land (gm_w (xs (i + 4))) 4294967295)))] M1 = some (some (.inl x), M2) := e2
  have kp := hP _ _ _ _ _ _ (Nat.le_of_eq hI.L.1) e1'
  have hp1 := kp.pu hp
  have z1 := gm_z1 hI.L
  have z148 := gn_xO kp (gm_z148 hI.L)
  have hT : gm_isT 1002 = true := rfl
  obtain ⟨a1, b1⟩ := gn_rd hp hLn (j := i + 1) (by omega) (by omega)
  obtain ⟨c1, d1⟩ := gn_rd hp1 hLn (j := i + 1) (by omega) (by omega)
  obtain ⟨a2, b2⟩ := gn_rd hp hLn (j := i + 2) (by omega) (by omega)
  obtain ⟨c2, d2⟩ := gn_rd hp1 hLn (j := i + 2) (by omega) (by omega)
  obtain ⟨a3, b3⟩ := gn_rd hp hLn (j := i + 3) (by omega) (by omega)
  obtain ⟨c3, d3⟩ := gn_rd hp1 hLn (j := i + 3) (by omega) (by omega)
  obtain ⟨a4, b4⟩ := gn_rd hp hLn (j := i + 4) (by omega) (by omega)
  obtain ⟨c4, d4⟩ := gn_rd hp1 hLn (j := i + 4) (by omega) (by omega)
  refine ⟨M2, fun F => ?_, hI2, hp2⟩
  unfold gn_ll
  rw [show 33 + 2 = 35 from rfl, xL_law_35]
  simp (config := { maxSteps := 2000000 }) (disch := first | omega | assumption | (simp only [gm_isO_sF, gm_isO_sA, gm_isO_cp]; assumption)) only [gm_push, gm_iload, gm_lload, gm_aload, gm_istore, gm_astore, gm_iinc, gm_op2, gm_quo, gm_op1, gm_lop2, gm_lshl, gm_i2l, gm_l2i, gm_lcmp, gm_dup, gm_pop1, gm_dup2, gm_goto, gm_ifeq, gm_ifne, gm_iflt, gm_ifge, gm_ifgt, gm_ifle, gm_ceq, gm_cne, gm_clt, gm_cge, gm_cgt, gm_cle, gm_ifnull, gm_ifnonnull, gm_swk, gm_switch, gm_getI, gm_getR, gm_putI, gm_putZ, gm_putR, gm_new, gm_newarr, gm_iald, gm_cald, gm_zald, gm_lald, gm_aald, gm_iast, gm_cast, gm_zast, gm_last, gm_aast, gm_acp, gm_oinit, gm_back, gm_scall, gm_vcall, gm_iret, gm_zret, gm_cret, gm_lret, gm_aret, gm_vret, gm_slen, gm_schar, gm_sidx, gm_lget, gm_lset, gm_nl, gm_ent, gm_wd, gm_pop, gm_pad, gm_xl_c, gm_alen_u, gm_1_sF, gm_1_sA, gm_1_cp, gm_len_sF, gm_len_sA, gm_len_cp, Bool.or_true, Bool.true_or, gm_max_u, gm_min_u, gm_isO_sF, gm_isO_sA, gm_isO_cp, gm_gF_sF, gm_gF_sA, gm_gA_sF, gm_gA_sA, gm_gF_cp, gm_gA_cp, gm_add, gm_sub, gm_mul, gm_neg, ↓reduceIte, Nat.reduceAdd, Nat.reduceLeDiff, true_and, and_true, and_self, true_or, or_true, false_and, and_false, false_or, or_false, eq_self, Nat.reduceEqDiff, Int.reduceEq, Int.reduceLT, Int.reduceLE, Int.reduceNeg, Int.reduceAdd, Int.reduceSub, Int.reduceMul, Int.reduceDiv, Int.reduceMod, reduceCtorEq, if_true, if_false, gm_w_id, Bool.true_or, xL_law_38, z1, z148, hT, a1, b1, c1, d1, a2, b2, c2, d2, a3, b3, c3, d3, a4, b4, c4, d4, e1', e2', Int.lt_irrefl]
theorem lc_read {xs : Int → Int} {Ln : Int} (hP : gn_PvH) (hxs : ∀ i, gm_i (xs i)) (hLn : Ln ≤ 3072) : gn_cas xs Ln 34 := fun d i M hI hp h0 h6 => by
  obtain ⟨x, M1, M2, e1, e2, hI2, hp2⟩ := s_read (xs (i + 1)) (xs (i + 2)) (hxs _) (hxs _) M (d + 20) xs Ln hI hp
  have e1' : gm_go (d + 40) 88 [.inr (.inr 1), .inl (xs (i + 1)), .inl (xs (i + 2))] M = some (some (.inr (.inl x)), M1) := e1
  have e2' : gm_go (d + 40) 185 [.inr (.inr 148), .inl (xs (i + 1)), .inl (xs (i + 2))] M1 = some (some (.inr (.inl x)), M2) := e2
  have kp := hP _ _ _ _ _ _ (Nat.le_of_eq hI.L.1) e1'
  have hp1 := kp.pu hp
  have z1 := gm_z1 hI.L
  have z148 := gn_xO kp (gm_z148 hI.L)
  have hT : gm_isT 1002 = true := rfl
  obtain ⟨a1, b1⟩ := gn_rd hp hLn (j := i + 1) (by omega) (by omega)
  obtain ⟨c1, d1⟩ := gn_rd hp1 hLn (j := i + 1) (by omega) (by omega)
  obtain ⟨a2, b2⟩ := gn_rd hp hLn (j := i + 2) (by omega) (by omega)
  obtain ⟨c2, d2⟩ := gn_rd hp1 hLn (j := i + 2) (by omega) (by omega)
  refine ⟨M2, fun F => ?_, hI2, hp2⟩
  unfold gn_ll
  rw [show 34 + 2 = 36 from rfl, xL_law_36]
  simp (config := { maxSteps := 2000000 }) (disch := first | omega | assumption | (simp only [gm_isO_sF, gm_isO_sA, gm_isO_cp]; assumption)) only [gm_push, gm_iload, gm_lload, gm_aload, gm_istore, gm_astore, gm_iinc, gm_op2, gm_quo, gm_op1, gm_lop2, gm_lshl, gm_i2l, gm_l2i, gm_lcmp, gm_dup, gm_pop1, gm_dup2, gm_goto, gm_ifeq, gm_ifne, gm_iflt, gm_ifge, gm_ifgt, gm_ifle, gm_ceq, gm_cne, gm_clt, gm_cge, gm_cgt, gm_cle, gm_ifnull, gm_ifnonnull, gm_swk, gm_switch, gm_getI, gm_getR, gm_putI, gm_putZ, gm_putR, gm_new, gm_newarr, gm_iald, gm_cald, gm_zald, gm_lald, gm_aald, gm_iast, gm_cast, gm_zast, gm_last, gm_aast, gm_acp, gm_oinit, gm_back, gm_scall, gm_vcall, gm_iret, gm_zret, gm_cret, gm_lret, gm_aret, gm_vret, gm_slen, gm_schar, gm_sidx, gm_lget, gm_lset, gm_nl, gm_ent, gm_wd, gm_pop, gm_pad, gm_xl_c, gm_alen_u, gm_1_sF, gm_1_sA, gm_1_cp, gm_len_sF, gm_len_sA, gm_len_cp, Bool.or_true, Bool.true_or, gm_max_u, gm_min_u, gm_isO_sF, gm_isO_sA, gm_isO_cp, gm_gF_sF, gm_gF_sA, gm_gA_sF, gm_gA_sA, gm_gF_cp, gm_gA_cp, gm_add, gm_sub, gm_mul, gm_neg, ↓reduceIte, Nat.reduceAdd, Nat.reduceLeDiff, true_and, and_true, and_self, true_or, or_true, false_and, and_false, false_or, or_false, eq_self, Nat.reduceEqDiff, Int.reduceEq, Int.reduceLT, Int.reduceLE, Int.reduceNeg, Int.reduceAdd, Int.reduceSub, Int.reduceMul, Int.reduceDiv, Int.reduceMod, reduceCtorEq, if_true, if_false, gm_w_id, Bool.true_or, xL_law_38, z1, z148, hT, a1, b1, c1, d1, a2, b2, c2, d2, e1', e2', Int.lt_irrefl]
theorem lc_shift {xs : Int → Int} {Ln : Int} (hP : gn_PvH) (hxs : ∀ i, gm_i (xs i)) (hLn : Ln ≤ 3072) : gn_cas xs Ln 35 := fun d i M hI hp h0 h6 => by
  obtain ⟨x, M1, M2, e1, e2, hI2, hp2⟩ := s_shift (xs (i + 1)) (xs (i + 2)) (xs (i + 3)) (xs (i + 4)) (xs (i + 5)) (hxs _) (hxs _) (hxs _) (hxs _) (hxs _) M (d + 20) xs Ln hI hp
  have e1' : gm_go (d + 40) 89 [.inr (.inr 1), .inl (xs (i + 1)), .inl (xs (i + 2)), .inl (xs (i + 3)), .inl (xs (i + 4)), .inl (xs (i + 5))] M = some (some (.inl x), M1) := e1
  have e2' : gm_go (d + 40) 186 [.inr (.inr 148), .inl (xs (i + 1)), .inl (xs (i + 2)), .inl (xs (i + 3)), .inl (xs (i + 4)), .inl (xs (i + 5))] M1 = some (some (.inl x), M2) := e2
  have kp := hP _ _ _ _ _ _ (Nat.le_of_eq hI.L.1) e1'
  have hp1 := kp.pu hp
  have z1 := gm_z1 hI.L
  have z148 := gn_xO kp (gm_z148 hI.L)
  have hT : gm_isT 1002 = true := rfl
  obtain ⟨a1, b1⟩ := gn_rd hp hLn (j := i + 1) (by omega) (by omega)
  obtain ⟨c1, d1⟩ := gn_rd hp1 hLn (j := i + 1) (by omega) (by omega)
  obtain ⟨a2, b2⟩ := gn_rd hp hLn (j := i + 2) (by omega) (by omega)
  obtain ⟨c2, d2⟩ := gn_rd hp1 hLn (j := i + 2) (by omega) (by omega)
  obtain ⟨a3, b3⟩ := gn_rd hp hLn (j := i + 3) (by omega) (by omega)
  obtain ⟨c3, d3⟩ := gn_rd hp1 hLn (j := i + 3) (by omega) (by omega)
  obtain ⟨a4, b4⟩ := gn_rd hp hLn (j := i + 4) (by omega) (by omega)
  obtain ⟨c4, d4⟩ := gn_rd hp1 hLn (j := i + 4) (by omega) (by omega)
  obtain ⟨a5, b5⟩ := gn_rd hp hLn (j := i + 5) (by omega) (by omega)
  obtain ⟨c5, d5⟩ := gn_rd hp1 hLn (j := i + 5) (by omega) (by omega)
  refine ⟨M2, fun F => ?_, hI2, hp2⟩
  unfold gn_ll
  rw [show 35 + 2 = 37 from rfl, xL_law_37]
  simp (config := { maxSteps := 2000000 }) (disch := first | omega | assumption | (simp only [gm_isO_sF, gm_isO_sA, gm_isO_cp]; assumption)) only [gm_push, gm_iload, gm_lload, gm_aload, gm_istore, gm_astore, gm_iinc, gm_op2, gm_quo, gm_op1, gm_lop2, gm_lshl, gm_i2l, gm_l2i, gm_lcmp, gm_dup, gm_pop1, gm_dup2, gm_goto, gm_ifeq, gm_ifne, gm_iflt, gm_ifge, gm_ifgt, gm_ifle, gm_ceq, gm_cne, gm_clt, gm_cge, gm_cgt, gm_cle, gm_ifnull, gm_ifnonnull, gm_swk, gm_switch, gm_getI, gm_getR, gm_putI, gm_putZ, gm_putR, gm_new, gm_newarr, gm_iald, gm_cald, gm_zald, gm_lald, gm_aald, gm_iast, gm_cast, gm_zast, gm_last, gm_aast, gm_acp, gm_oinit, gm_back, gm_scall, gm_vcall, gm_iret, gm_zret, gm_cret, gm_lret, gm_aret, gm_vret, gm_slen, gm_schar, gm_sidx, gm_lget, gm_lset, gm_nl, gm_ent, gm_wd, gm_pop, gm_pad, gm_xl_c, gm_alen_u, gm_1_sF, gm_1_sA, gm_1_cp, gm_len_sF, gm_len_sA, gm_len_cp, Bool.or_true, Bool.true_or, gm_max_u, gm_min_u, gm_isO_sF, gm_isO_sA, gm_isO_cp, gm_gF_sF, gm_gF_sA, gm_gA_sF, gm_gA_sA, gm_gF_cp, gm_gA_cp, gm_add, gm_sub, gm_mul, gm_neg, ↓reduceIte, Nat.reduceAdd, Nat.reduceLeDiff, true_and, and_true, and_self, true_or, or_true, false_and, and_false, false_or, or_false, eq_self, Nat.reduceEqDiff, Int.reduceEq, Int.reduceLT, Int.reduceLE, Int.reduceNeg, Int.reduceAdd, Int.reduceSub, Int.reduceMul, Int.reduceDiv, Int.reduceMod, reduceCtorEq, if_true, if_false, gm_w_id, Bool.true_or, xL_law_38, z1, z148, hT, a1, b1, c1, d1, a2, b2, c2, d2, a3, b3, c3, d3, a4, b4, c4, d4, a5, b5, c5, d5, e1', e2', Int.lt_irrefl]
