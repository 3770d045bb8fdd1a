/-! THE LAW: its cases, further -/
theorem lc_full {xs : Int → Int} {Ln : Int} (hP : gn_PvH) (hxs : ∀ i, gm_i (xs i)) (hLn : Ln ≤ 3072) : gn_cas xs Ln 12 := fun d i M hI hp h0 h6 => by
  obtain ⟨x, M1, M2, e1, e2, hI2, hp2⟩ := s_full (xs (i + 1)) (hxs _) M (d + 20) xs Ln hI hp
  have e1' : gm_go (d + 40) 66 [.inr (.inr 1), .inl (xs (i + 1))] M = some (some (.inl x), M1) := e1
  have e2' : gm_go (d + 40) 149 [.inr (.inr 148), .inl (xs (i + 1))] M1 = some (some (.inl x), M2) := e2
  have kp := hP _ _ _ _ _ _ (Nat.le_of_eq hI.L.1) e1'
  have hp1 := kp.pu hp
  have z1 := gm_z1 hI.L
  have z148 := gn_xO kp (gm_z148 hI.L)
  have hT : gm_isT 1002 = true := rfl
  obtain ⟨a1, b1⟩ := gn_rd hp hLn (j := i + 1) (by omega) (by omega)
  obtain ⟨c1, d1⟩ := gn_rd hp1 hLn (j := i + 1) (by omega) (by omega)
  refine ⟨M2, fun F => ?_, hI2, hp2⟩
  unfold gn_ll
  rw [show 12 + 2 = 14 from rfl, xL_law_14]
  simp (config := { maxSteps := 2000000 }) (disch := first | omega | assumption | (simp only [gm_isO_sF, gm_isO_sA, gm_isO_cp]; assumption)) only [gm_push, gm_iload, gm_lload, gm_aload, gm_istore, gm_astore, gm_iinc, gm_op2, gm_quo, gm_op1, gm_lop2, gm_lshl, gm_i2l, gm_l2i, gm_lcmp, gm_dup, gm_pop1, gm_dup2, gm_goto, gm_ifeq, gm_ifne, gm_iflt, gm_ifge, gm_ifgt, gm_ifle, gm_ceq, gm_cne, gm_clt, gm_cge, gm_cgt, gm_cle, gm_ifnull, gm_ifnonnull, gm_swk, gm_switch, gm_getI, gm_getR, gm_putI, gm_putZ, gm_putR, gm_new, gm_newarr, gm_iald, gm_cald, gm_zald, gm_lald, gm_aald, gm_iast, gm_cast, gm_zast, gm_last, gm_aast, gm_acp, gm_oinit, gm_back, gm_scall, gm_vcall, gm_iret, gm_zret, gm_cret, gm_lret, gm_aret, gm_vret, gm_slen, gm_schar, gm_sidx, gm_lget, gm_lset, gm_nl, gm_ent, gm_wd, gm_pop, gm_pad, gm_xl_c, gm_alen_u, gm_1_sF, gm_1_sA, gm_1_cp, gm_len_sF, gm_len_sA, gm_len_cp, Bool.or_true, Bool.true_or, gm_max_u, gm_min_u, gm_isO_sF, gm_isO_sA, gm_isO_cp, gm_gF_sF, gm_gF_sA, gm_gA_sF, gm_gA_sA, gm_gF_cp, gm_gA_cp, gm_add, gm_sub, gm_mul, gm_neg, ↓reduceIte, Nat.reduceAdd, Nat.reduceLeDiff, true_and, and_true, and_self, true_or, or_true, false_and, and_false, false_or, or_false, eq_self, Nat.reduceEqDiff, Int.reduceEq, Int.reduceLT, Int.reduceLE, Int.reduceNeg, Int.reduceAdd, Int.reduceSub, Int.reduceMul, Int.reduceDiv, Int.reduceMod, reduceCtorEq, if_true, if_false, gm_w_id, Bool.true_or, xL_law_38, z1, z148, hT, a1, b1, c1, d1, e1', e2', Int.lt_irrefl]
theorem lc_heat {xs : Int → Int} {Ln : Int} (hP : gn_PvH) (hxs : ∀ i, gm_i (xs i)) (hLn : Ln ≤ 3072) : gn_cas xs Ln 13 := fun d i M hI hp h0 h6 => by
  obtain ⟨x, M1, M2, e1, e2, hI2, hp2⟩ := s_heat (xs (i + 1)) (xs (i + 2)) (hxs _) (hxs _) M (d + 20) xs Ln hI hp
  have e1' : gm_go (d + 40) 67 [.inr (.inr 1), .inl (xs (i + 1)), .inl (xs (i + 2))] M = some (some (.inl x), M1) := e1
  have e2' : gm_go (d + 40) 150 [.inr (.inr 148), .inl (xs (i + 1)), .inl (xs (i + 2))] M1 = some (some (.inl x), M2) := e2
  have kp := hP _ _ _ _ _ _ (Nat.le_of_eq hI.L.1) e1'
  have hp1 := kp.pu hp
  have z1 := gm_z1 hI.L
  have z148 := gn_xO kp (gm_z148 hI.L)
  have hT : gm_isT 1002 = true := rfl
  obtain ⟨a1, b1⟩ := gn_rd hp hLn (j := i + 1) (by omega) (by omega)
  obtain ⟨c1, d1⟩ := gn_rd hp1 hLn (j := i + 1) (by omega) (by omega)
  obtain ⟨a2, b2⟩ := gn_rd hp hLn (j := i + 2) (by omega) (by omega)
  obtain ⟨c2, d2⟩ := gn_rd hp1 hLn (j := i + 2) (by omega) (by omega)
  refine ⟨M2, fun F => ?_, hI2, hp2⟩
  unfold gn_ll
  rw [show 13 + 2 = 15 from rfl, xL_law_15]
  simp (config := { maxSteps := 2000000 }) (disch := first | omega | assumption | (simp only [gm_isO_sF, gm_isO_sA, gm_isO_cp]; assumption)) only [gm_push, gm_iload, gm_lload, gm_aload, gm_istore, gm_astore, gm_iinc, gm_op2, gm_quo, gm_op1, gm_lop2, gm_lshl, gm_i2l, gm_l2i, gm_lcmp, gm_dup, gm_pop1, gm_dup2, gm_goto, gm_ifeq, gm_ifne, gm_iflt, gm_ifge, gm_ifgt, gm_ifle, gm_ceq, gm_cne, gm_clt, gm_cge, gm_cgt, gm_cle, gm_ifnull, gm_ifnonnull, gm_swk, gm_switch, gm_getI, gm_getR, gm_putI, gm_putZ, gm_putR, gm_new, gm_newarr, gm_iald, gm_cald, gm_zald, gm_lald, gm_aald, gm_iast, gm_cast, gm_zast, gm_last, gm_aast, gm_acp, gm_oinit, gm_back, gm_scall, gm_vcall, gm_iret, gm_zret, gm_cret, gm_lret, gm_aret, gm_vret, gm_slen, gm_schar, gm_sidx, gm_lget, gm_lset, gm_nl, gm_ent, gm_wd, gm_pop, gm_pad, gm_xl_c, gm_alen_u, gm_1_sF, gm_1_sA, gm_1_cp, gm_len_sF, gm_len_sA, gm_len_cp, Bool.or_true, Bool.true_or, gm_max_u, gm_min_u, gm_isO_sF, gm_isO_sA, gm_isO_cp, gm_gF_sF, gm_gF_sA, gm_gA_sF, gm_gA_sA, gm_gF_cp, gm_gA_cp, gm_add, gm_sub, gm_mul, gm_neg, ↓reduceIte, Nat.reduceAdd, Nat.reduceLeDiff, true_and, and_true, and_self, true_or, or_true, false_and, and_false, false_or, or_false, eq_self, Nat.reduceEqDiff, Int.reduceEq, Int.reduceLT, Int.reduceLE, Int.reduceNeg, Int.reduceAdd, Int.reduceSub, Int.reduceMul, Int.reduceDiv, Int.reduceMod, reduceCtorEq, if_true, if_false, gm_w_id, Bool.true_or, xL_law_38, z1, z148, hT, a1, b1, c1, d1, a2, b2, c2, d2, e1', e2', Int.lt_irrefl]
theorem lc_big {xs : Int → Int} {Ln : Int} (hP : gn_PvH) (hxs : ∀ i, gm_i (xs i)) (hLn : Ln ≤ 3072) : gn_cas xs Ln 14 := fun d i M hI hp h0 h6 => by
  obtain ⟨x, M1, M2, e1, e2, hI2, hp2⟩ := s_big (xs (i + 1)) (hxs _) M (d + 20) xs Ln hI hp
  have e1' : gm_go (d + 40) 68 [.inr (.inr 1), .inl (xs (i + 1))] M = some (some (.inl x), M1) := e1
  have e2' : gm_go (d + 40) 152 [.inr (.inr 148), .inl (xs (i + 1))] M1 = some (some (.inl x), M2) := e2
  have kp := hP _ _ _ _ _ _ (Nat.le_of_eq hI.L.1) e1'
  have hp1 := kp.pu hp
  have z1 := gm_z1 hI.L
  have z148 := gn_xO kp (gm_z148 hI.L)
  have hT : gm_isT 1002 = true := rfl
  obtain ⟨a1, b1⟩ := gn_rd hp hLn (j := i + 1) (by omega) (by omega)
  obtain ⟨c1, d1⟩ := gn_rd hp1 hLn (j := i + 1) (by omega) (by omega)
  refine ⟨M2, fun F => ?_, hI2, hp2⟩
  unfold gn_ll
  rw [show 14 + 2 = 16 from rfl, xL_law_16]
  simp (config := { maxSteps := 2000000 }) (disch := first | omega | assumption | (simp only [gm_isO_sF, gm_isO_sA, gm_isO_cp]; assumption)) only [gm_push, gm_iload, gm_lload, gm_aload, gm_istore, gm_astore, gm_iinc, gm_op2, gm_quo, gm_op1, gm_lop2, gm_lshl, gm_i2l, gm_l2i, gm_lcmp, gm_dup, gm_pop1, gm_dup2, gm_goto, gm_ifeq, gm_ifne, gm_iflt, gm_ifge, gm_ifgt, gm_ifle, gm_ceq, gm_cne, gm_clt, gm_cge, gm_cgt, gm_cle, gm_ifnull, gm_ifnonnull, gm_swk, gm_switch, gm_getI, gm_getR, gm_putI, gm_putZ, gm_putR, gm_new, gm_newarr, gm_iald, gm_cald, gm_zald, gm_lald, gm_aald, gm_iast, gm_cast, gm_zast, gm_last, gm_aast, gm_acp, gm_oinit, gm_back, gm_scall, gm_vcall, gm_iret, gm_zret, gm_cret, gm_lret, gm_aret, gm_vret, gm_slen, gm_schar, gm_sidx, gm_lget, gm_lset, gm_nl, gm_ent, gm_wd, gm_pop, gm_pad, gm_xl_c, gm_alen_u, gm_1_sF, gm_1_sA, gm_1_cp, gm_len_sF, gm_len_sA, gm_len_cp, Bool.or_true, Bool.true_or, gm_max_u, gm_min_u, gm_isO_sF, gm_isO_sA, gm_isO_cp, gm_gF_sF, gm_gF_sA, gm_gA_sF, gm_gA_sA, gm_gF_cp, gm_gA_cp, gm_add, gm_sub, gm_mul, gm_neg, ↓reduceIte, Nat.reduceAdd, Nat.reduceLeDiff, true_and, and_true, and_self, true_or, or_true, false_and, and_false, false_or, or_false, eq_self, Nat.reduceEqDiff, Int.reduceEq, Int.reduceLT, Int.reduceLE, Int.reduceNeg, Int.reduceAdd, Int.reduceSub, Int.reduceMul, Int.reduceDiv, Int.reduceMod, reduceCtorEq, if_true, if_false, gm_w_id, Bool.true_or, xL_law_38, z1, z148, hT, a1, b1, c1, d1, e1', e2', Int.lt_irrefl]
theorem lc_gives {xs : Int → Int} {Ln : Int} (hP : gn_PvH) (hxs : ∀ i, gm_i (xs i)) (hLn : Ln ≤ 3072) : gn_cas xs Ln 15 := fun d i M hI hp h0 h6 => by
  obtain ⟨x, M1, M2, e1, e2, hI2, hp2⟩ := s_gives (xs (i + 1)) (xs (i + 2)) (xs (i + 3)) (hxs _) (hxs _) (hxs _) M (d + 20) xs Ln hI hp
  have e1' : gm_go (d + 40) 69 [.inr (.inr 1), .inl (xs (i + 1)), .inl (xs (i + 2)), .inl (xs (i + 3))] M = some (some (.inl x), M1) := e1
  have e2' : gm_go (d + 40) 153 [.inr (.inr 148), .inl (xs (i + 1)), .inl (xs (i + 2)), .inl (xs (i + 3))] M1 = some (some (.inl x), M2) := e2
  have kp := hP _ _ _ _ _ _ (Nat.le_of_eq hI.L.1) e1'
  have hp1 := kp.pu hp
  have z1 := gm_z1 hI.L
  have z148 := gn_xO kp (gm_z148 hI.L)
  have hT : gm_isT 1002 = true := rfl
  obtain ⟨a1, b1⟩ := gn_rd hp hLn (j := i + 1) (by omega) (by omega)
  obtain ⟨c1, d1⟩ := gn_rd hp1 hLn (j := i + 1) (by omega) (by omega)
  obtain ⟨a2, b2⟩ := gn_rd hp hLn (j := i + 2) (by omega) (by omega)
  obtain ⟨c2, d2⟩ := gn_rd hp1 hLn (j := i + 2) (by omega) (by omega)
  obtain ⟨a3, b3⟩ := gn_rd hp hLn (j := i + 3) (by omega) (by omega)
  obtain ⟨c3, d3⟩ := gn_rd hp1 hLn (j := i + 3) (by omega) (by omega)
  refine ⟨M2, fun F => ?_, hI2, hp2⟩
  unfold gn_ll
  rw [show 15 + 2 = 17 from rfl, xL_law_17]
  simp (config := { maxSteps := 2000000 }) (disch := first | omega | assumption | (simp only [gm_isO_sF, gm_isO_sA, gm_isO_cp]; assumption)) only [gm_push, gm_iload, gm_lload, gm_aload, gm_istore, gm_astore, gm_iinc, gm_op2, gm_quo, gm_op1, gm_lop2, gm_lshl, gm_i2l, gm_l2i, gm_lcmp, gm_dup, gm_pop1, gm_dup2, gm_goto, gm_ifeq, gm_ifne, gm_iflt, gm_ifge, gm_ifgt, gm_ifle, gm_ceq, gm_cne, gm_clt, gm_cge, gm_cgt, gm_cle, gm_ifnull, gm_ifnonnull, gm_swk, gm_switch, gm_getI, gm_getR, gm_putI, gm_putZ, gm_putR, gm_new, gm_newarr, gm_iald, gm_cald, gm_zald, gm_lald, gm_aald, gm_iast, gm_cast, gm_zast, gm_last, gm_aast, gm_acp, gm_oinit, gm_back, gm_scall, gm_vcall, gm_iret, gm_zret, gm_cret, gm_lret, gm_aret, gm_vret, gm_slen, gm_schar, gm_sidx, gm_lget, gm_lset, gm_nl, gm_ent, gm_wd, gm_pop, gm_pad, gm_xl_c, gm_alen_u, gm_1_sF, gm_1_sA, gm_1_cp, gm_len_sF, gm_len_sA, gm_len_cp, Bool.or_true, Bool.true_or, gm_max_u, gm_min_u, gm_isO_sF, gm_isO_sA, gm_isO_cp, gm_gF_sF, gm_gF_sA, gm_gA_sF, gm_gA_sA, gm_gF_cp, gm_gA_cp, gm_add, gm_sub, gm_mul, gm_neg, ↓reduceIte, Nat.reduceAdd, Nat.reduceLeDiff, true_and, and_true, and_self, true_or, or_true, false_and, and_false, false_or, or_false, eq_self, Nat.reduceEqDiff, Int.reduceEq, Int.reduceLT, Int.reduceLE, Int.reduceNeg, Int.reduceAdd, Int.reduceSub, Int.reduceMul, Int.reduceDiv, Int.reduceMod, reduceCtorEq, if_true, if_false, gm_w_id, Bool.true_or, xL_law_38, z1, z148, hT, a1, b1, c1, d1, a2, b2, c2, d2, a3, b3, c3, d3, e1', e2', Int.lt_irrefl]
theorem lc_turn {xs : Int → Int} {Ln : Int} (hP : gn_PvH) (hxs : ∀ i, gm_i (xs i)) (hLn : Ln ≤ 3072) : gn_cas xs Ln 16 := fun d i M hI hp h0 h6 => by
  obtain ⟨x, M1, M2, e1, e2, hI2, hp2⟩ := s_turn (xs (i + 1)) (xs (i + 2)) (hxs _) (hxs _) M (d + 20) xs Ln hI hp
  have e1' : gm_go (d + 40) 70 [.inr (.inr 1), .inl (xs (i + 1)), .inl (xs (i + 2))] M = some (some (.inl x), M1) := e1
  have e2' : gm_go (d + 40) 154 [.inr (.inr 148), .inl (xs (i + 1)), .inl (xs (i + 2))] M1 = some (some (.inl x), M2) := e2
  have kp := hP _ _ _ _ _ _ (Nat.le_of_eq hI.L.1) e1'
  have hp1 := kp.pu hp
  have z1 := gm_z1 hI.L
  have z148 := gn_xO kp (gm_z148 hI.L)
  have hT : gm_isT 1002 = true := rfl
  obtain ⟨a1, b1⟩ := gn_rd hp hLn (j := i + 1) (by omega) (by omega)
  obtain ⟨c1, d1⟩ := gn_rd hp1 hLn (j := i + 1) (by omega) (by omega)
  obtain ⟨a2, b2⟩ := gn_rd hp hLn (j := i + 2) (by omega) (by omega)
  obtain ⟨c2, d2⟩ := gn_rd hp1 hLn (j := i + 2) (by omega) (by omega)
  refine ⟨M2, fun F => ?_, hI2, hp2⟩
  unfold gn_ll
  rw [show 16 + 2 = 18 from rfl, xL_law_18]
  simp (config := { maxSteps := 2000000 }) (disch := first | omega | assumption | (simp only [gm_isO_sF, gm_isO_sA, gm_isO_cp]; assumption)) only [gm_push, gm_iload, gm_lload, gm_aload, gm_istore, gm_astore, gm_iinc, gm_op2, gm_quo, gm_op1, gm_lop2, gm_lshl, gm_i2l, gm_l2i, gm_lcmp, gm_dup, gm_pop1, gm_dup2, gm_goto, gm_ifeq, gm_ifne, gm_iflt, gm_ifge, gm_ifgt, gm_ifle, gm_ceq, gm_cne, gm_clt, gm_cge, gm_cgt, gm_cle, gm_ifnull, gm_ifnonnull, gm_swk, gm_switch, gm_getI, gm_getR, gm_putI, gm_putZ, gm_putR, gm_new, gm_newarr, gm_iald, gm_cald, gm_zald, gm_lald, gm_aald, gm_iast, gm_cast, gm_zast, gm_last, gm_aast, gm_acp, gm_oinit, gm_back, gm_scall, gm_vcall, gm_iret, gm_zret, gm_cret, gm_lret, gm_aret, gm_vret, gm_slen, gm_schar, gm_sidx, gm_lget, gm_lset, gm_nl, gm_ent, gm_wd, gm_pop, gm_pad, gm_xl_c, gm_alen_u, gm_1_sF, gm_1_sA, gm_1_cp, gm_len_sF, gm_len_sA, gm_len_cp, Bool.or_true, Bool.true_or, gm_max_u, gm_min_u, gm_isO_sF, gm_isO_sA, gm_isO_cp, gm_gF_sF, gm_gF_sA, gm_gA_sF, gm_gA_sA, gm_gF_cp, gm_gA_cp, gm_add, gm_sub, gm_mul, gm_neg, ↓reduceIte, Nat.reduceAdd, Nat.reduceLeDiff, true_and, and_true, and_self, true_or, or_true, false_and, and_false, false_or, or_false, eq_self, Nat.reduceEqDiff, Int.reduceEq, Int.reduceLT, Int.reduceLE, Int.reduceNeg, Int.reduceAdd, Int.reduceSub, Int.reduceMul, Int.reduceDiv, Int.reduceMod, reduceCtorEq, if_true, if_false, gm_w_id, Bool.true_or, xL_law_38, z1, z148, hT, a1, b1, c1, d1, a2, b2, c2, d2, e1', e2', Int.lt_irrefl]
theorem lc_alike {xs : Int → Int} {Ln : Int} (hP : gn_PvH) (hxs : ∀ i, gm_i (xs i)) (hLn : Ln ≤ 3072) : gn_cas xs Ln 17 := fun d i M hI hp h0 h6 => by
  obtain ⟨x, M1, M2, e1, e2, hI2, hp2⟩ := s_alike (xs (i + 1)) (xs (i + 2)) (hxs _) (hxs _) M (d + 20) xs Ln hI hp
  have e1' : gm_go (d + 40) 71 [.inr (.inr 1), .inl (xs (i + 1)), .inl (xs (i + 2))] M = some (some (.inl x), M1) := e1
  have e2' : gm_go (d + 40) 155 [.inr (.inr 148), .inl (xs (i + 1)), .inl (xs (i + 2))] M1 = some (some (.inl x), M2) := e2
  have kp := hP _ _ _ _ _ _ (Nat.le_of_eq hI.L.1) e1'
  have hp1 := kp.pu hp
  have z1 := gm_z1 hI.L
  have z148 := gn_xO kp (gm_z148 hI.L)
  have hT : gm_isT 1002 = true := rfl
  obtain ⟨a1, b1⟩ := gn_rd hp hLn (j := i + 1) (by omega) (by omega)
  obtain ⟨c1, d1⟩ := gn_rd hp1 hLn (j := i + 1) (by omega) (by omega)
  obtain ⟨a2, b2⟩ := gn_rd hp hLn (j := i + 2) (by omega) (by omega)
  obtain ⟨c2, d2⟩ := gn_rd hp1 hLn (j := i + 2) (by omega) (by omega)
  refine ⟨M2, fun F => ?_, hI2, hp2⟩
  unfold gn_ll
  rw [show 17 + 2 = 19 from rfl, xL_law_19]
  simp (config := { maxSteps := 2000000 }) (disch := first | omega | assumption | (simp only [gm_isO_sF, gm_isO_sA, gm_isO_cp]; assumption)) only [gm_push, gm_iload, gm_lload, gm_aload, gm_istore, gm_astore, gm_iinc, gm_op2, gm_quo, gm_op1, gm_lop2, gm_lshl, gm_i2l, gm_l2i, gm_lcmp, gm_dup, gm_pop1, gm_dup2, gm_goto, gm_ifeq, gm_ifne, gm_iflt, gm_ifge, gm_ifgt, gm_ifle, gm_ceq, gm_cne, gm_clt, gm_cge, gm_cgt, gm_cle, gm_ifnull, gm_ifnonnull, gm_swk, gm_switch, gm_getI, gm_getR, gm_putI, gm_putZ, gm_putR, gm_new, gm_newarr, gm_iald, gm_cald, gm_zald, gm_lald, gm_aald, gm_iast, gm_cast, gm_zast, gm_last, gm_aast, gm_acp, gm_oinit, gm_back, gm_scall, gm_vcall, gm_iret, gm_zret, gm_cret, gm_lret, gm_aret, gm_vret, gm_slen, gm_schar, gm_sidx, gm_lget, gm_lset, gm_nl, gm_ent, gm_wd, gm_pop, gm_pad, gm_xl_c, gm_alen_u, gm_1_sF, gm_1_sA, gm_1_cp, gm_len_sF, gm_len_sA, gm_len_cp, Bool.or_true, Bool.true_or, gm_max_u, gm_min_u, gm_isO_sF, gm_isO_sA, gm_isO_cp, gm_gF_sF, gm_gF_sA, gm_gA_sF, gm_gA_sA, gm_gF_cp, gm_gA_cp, gm_add, gm_sub, gm_mul, gm_neg, ↓reduceIte, Nat.reduceAdd, Nat.reduceLeDiff, true_and, and_true, and_self, true_or, or_true, false_and, and_false, false_or, or_false, eq_self, Nat.reduceEqDiff, Int.reduceEq, Int.reduceLT, Int.reduceLE, Int.reduceNeg, Int.reduceAdd, Int.reduceSub, Int.reduceMul, Int.reduceDiv, Int.reduceMod, reduceCtorEq, if_true, if_false, gm_w_id, Bool.true_or, xL_law_38, z1, z148, hT, a1, b1, c1, d1, a2, b2, c2, d2, e1', e2', Int.lt_irrefl]
theorem lc_see {xs : Int → Int} {Ln : Int} (hP : gn_PvH) (hxs : ∀ i, gm_i (xs i)) (hLn : Ln ≤ 3072) : gn_cas xs Ln 18 := fun d i M hI hp h0 h6 => by
  obtain ⟨x, M1, M2, e1, e2, hI2, hp2⟩ := s_see (xs (i + 1)) (xs (i + 2)) (xs (i + 3)) (hxs _) (hxs _) (hxs _) M (d + 20) xs Ln hI hp
  have e1' : gm_go (d + 40) 72 [.inr (.inr 1), .inl (xs (i + 1)), .inl (xs (i + 2)), .inl (xs (i + 3))] M = some (some (.inl x), M1) := e1
  have e2' : gm_go (d + 40) 156 [.inr (.inr 148), .inl (xs (i + 1)), .inl (xs (i + 2)), .inl (xs (i + 3))] M1 = some (some (.inl x), M2) := e2
  have kp := hP _ _ _ _ _ _ (Nat.le_of_eq hI.L.1) e1'
  have hp1 := kp.pu hp
  have z1 := gm_z1 hI.L
  have z148 := gn_xO kp (gm_z148 hI.L)
  have hT : gm_isT 1002 = true := rfl
  obtain ⟨a1, b1⟩ := gn_rd hp hLn (j := i + 1) (by omega) (by omega)
  obtain ⟨c1, d1⟩ := gn_rd hp1 hLn (j := i + 1) (by omega) (by omega)
  obtain ⟨a2, b2⟩ := gn_rd hp hLn (j := i + 2) (by omega) (by omega)
  obtain ⟨c2, d2⟩ := gn_rd hp1 hLn (j := i + 2) (by omega) (by omega)
  obtain ⟨a3, b3⟩ := gn_rd hp hLn (j := i + 3) (by omega) (by omega)
  obtain ⟨c3, d3⟩ := gn_rd hp1 hLn (j := i + 3) (by omega) (by omega)
  refine ⟨M2, fun F => ?_, hI2, hp2⟩
  unfold gn_ll
  rw [show 18 + 2 = 20 from rfl, xL_law_20]
  simp (config := { maxSteps := 2000000 }) (disch := first | omega | assumption | (simp only [gm_isO_sF, gm_isO_sA, gm_isO_cp]; assumption)) only [gm_push, gm_iload, gm_lload, gm_aload, gm_istore, gm_astore, gm_iinc, gm_op2, gm_quo, gm_op1, gm_lop2, gm_lshl, gm_i2l, gm_l2i, gm_lcmp, gm_dup, gm_pop1, gm_dup2, gm_goto, gm_ifeq, gm_ifne, gm_iflt, gm_ifge, gm_ifgt, gm_ifle, gm_ceq, gm_cne, gm_clt, gm_cge, gm_cgt, gm_cle, gm_ifnull, gm_ifnonnull, gm_swk, gm_switch, gm_getI, gm_getR, gm_putI, gm_putZ, gm_putR, gm_new, gm_newarr, gm_iald, gm_cald, gm_zald, gm_lald, gm_aald, gm_iast, gm_cast, gm_zast, gm_last, gm_aast, gm_acp, gm_oinit, gm_back, gm_scall, gm_vcall, gm_iret, gm_zret, gm_cret, gm_lret, gm_aret, gm_vret, gm_slen, gm_schar, gm_sidx, gm_lget, gm_lset, gm_nl, gm_ent, gm_wd, gm_pop, gm_pad, gm_xl_c, gm_alen_u, gm_1_sF, gm_1_sA, gm_1_cp, gm_len_sF, gm_len_sA, gm_len_cp, Bool.or_true, Bool.true_or, gm_max_u, gm_min_u, gm_isO_sF, gm_isO_sA, gm_isO_cp, gm_gF_sF, gm_gF_sA, gm_gA_sF, gm_gA_sA, gm_gF_cp, gm_gA_cp, gm_add, gm_sub, gm_mul, gm_neg, ↓reduceIte, Nat.reduceAdd, Nat.reduceLeDiff, true_and, and_true, and_self, true_or, or_true, false_and, and_false, false_or, or_false, eq_self, Nat.reduceEqDiff, Int.reduceEq, Int.reduceLT, Int.reduceLE, Int.reduceNeg, Int.reduceAdd, Int.reduceSub, Int.reduceMul, Int.reduceDiv, Int.reduceMod, reduceCtorEq, if_true, if_false, gm_w_id, Bool.true_or, xL_law_38, z1, z148, hT, a1, b1, c1, d1, a2, b2, c2, d2, a3, b3, c3, d3, e1', e2', Int.lt_irrefl]
theorem lc_leaks {xs : Int → Int} {Ln : Int} (hP : gn_PvH) (hxs : ∀ i, gm_i (xs i)) (hLn : Ln ≤ 3072) : gn_cas xs Ln 19 := fun d i M hI hp h0 h6 => by
  obtain ⟨x, M1, M2, e1, e2, hI2, hp2⟩ := s_leaks (xs (i + 1)) (hxs _) M (d + 20) xs Ln hI hp
  have e1' : gm_go (d + 40) 73 [.inr (.inr 1), .inl (xs (i + 1))] M = some (some (.inl x), M1) := e1
  have e2' : gm_go (d + 40) 158 [.inr (.inr 148), .inl (xs (i + 1))] M1 = some (some (.inl x), M2) := e2
  have kp := hP _ _ _ _ _ _ (Nat.le_of_eq hI.L.1) e1'
  have hp1 := kp.pu hp
  have z1 := gm_z1 hI.L
  have z148 := gn_xO kp (gm_z148 hI.L)
  have hT : gm_isT 1002 = true := rfl
  obtain ⟨a1, b1⟩ := gn_rd hp hLn (j := i + 1) (by omega) (by omega)
  obtain ⟨c1, d1⟩ := gn_rd hp1 hLn (j := i + 1) (by omega) (by omega)
  refine ⟨M2, fun F => ?_, hI2, hp2⟩
  unfold gn_ll
  rw [show 19 + 2 = 21 from rfl, xL_law_21]
  simp (config := { maxSteps := 2000000 }) (disch := first | omega | assumption | (simp only [gm_isO_sF, gm_isO_sA, gm_isO_cp]; assumption)) only [gm_push, gm_iload, gm_lload, gm_aload, gm_istore, gm_astore, gm_iinc, gm_op2, gm_quo, gm_op1, gm_lop2, gm_lshl, gm_i2l, gm_l2i, gm_lcmp, gm_dup, gm_pop1, gm_dup2, gm_goto, gm_ifeq, gm_ifne, gm_iflt, gm_ifge, gm_ifgt, gm_ifle, gm_ceq, gm_cne, gm_clt, gm_cge, gm_cgt, gm_cle, gm_ifnull, gm_ifnonnull, gm_swk, gm_switch, gm_getI, gm_getR, gm_putI, gm_putZ, gm_putR, gm_new, gm_newarr, gm_iald, gm_cald, gm_zald, gm_lald, gm_aald, gm_iast, gm_cast, gm_zast, gm_last, gm_aast, gm_acp, gm_oinit, gm_back, gm_scall, gm_vcall, gm_iret, gm_zret, gm_cret, gm_lret, gm_aret, gm_vret, gm_slen, gm_schar, gm_sidx, gm_lget, gm_lset, gm_nl, gm_ent, gm_wd, gm_pop, gm_pad, gm_xl_c, gm_alen_u, gm_1_sF, gm_1_sA, gm_1_cp, gm_len_sF, gm_len_sA, gm_len_cp, Bool.or_true, Bool.true_or, gm_max_u, gm_min_u, gm_isO_sF, gm_isO_sA, gm_isO_cp, gm_gF_sF, gm_gF_sA, gm_gA_sF, gm_gA_sA, gm_gF_cp, gm_gA_cp, gm_add, gm_sub, gm_mul, gm_neg, ↓reduceIte, Nat.reduceAdd, Nat.reduceLeDiff, true_and, and_true, and_self, true_or, or_true, false_and, and_false, false_or, or_false, eq_self, Nat.reduceEqDiff, Int.reduceEq, Int.reduceLT, Int.reduceLE, Int.reduceNeg, Int.reduceAdd, Int.reduceSub, Int.reduceMul, Int.reduceDiv, Int.reduceMod, reduceCtorEq, if_true, if_false, gm_w_id, Bool.true_or, xL_law_38, z1, z148, hT, a1, b1, c1, d1, e1', e2', Int.lt_irrefl]
theorem lc_dry {xs : Int → Int} {Ln : Int} (hP : gn_PvH) (hxs : ∀ i, gm_i (xs i)) (hLn : Ln ≤ 3072) : gn_cas xs Ln 20 := fun d i M hI hp h0 h6 => by
  obtain ⟨x, M1, M2, e1, e2, hI2, hp2⟩ := s_dry (xs (i + 1)) (hxs _) M (d + 20) xs Ln hI hp
  have e1' : gm_go (d + 40) 74 [.inr (.inr 1), .inl (xs (i + 1))] M = some (some (.inl x), M1) := e1
  have e2' : gm_go (d + 40) 159 [.inr (.inr 148), .inl (xs (i + 1))] M1 = some (some (.inl x), M2) := e2
  have kp := hP _ _ _ _ _ _ (Nat.le_of_eq hI.L.1) e1'
  have hp1 := kp.pu hp
  have z1 := gm_z1 hI.L
  have z148 := gn_xO kp (gm_z148 hI.L)
  have hT : gm_isT 1002 = true := rfl
  obtain ⟨a1, b1⟩ := gn_rd hp hLn (j := i + 1) (by omega) (by omega)
  obtain ⟨c1, d1⟩ := gn_rd hp1 hLn (j := i + 1) (by omega) (by omega)
  refine ⟨M2, fun F => ?_, hI2, hp2⟩
  unfold gn_ll
  rw [show 20 + 2 = 22 from rfl, xL_law_22]
  simp (config := { maxSteps := 2000000 }) (disch := first | omega | assumption | (simp only [gm_isO_sF, gm_isO_sA, gm_isO_cp]; assumption)) only [gm_push, gm_iload, gm_lload, gm_aload, gm_istore, gm_astore, gm_iinc, gm_op2, gm_quo, gm_op1, gm_lop2, gm_lshl, gm_i2l, gm_l2i, gm_lcmp, gm_dup, gm_pop1, gm_dup2, gm_goto, gm_ifeq, gm_ifne, gm_iflt, gm_ifge, gm_ifgt, gm_ifle, gm_ceq, gm_cne, gm_clt, gm_cge, gm_cgt, gm_cle, gm_ifnull, gm_ifnonnull, gm_swk, gm_switch, gm_getI, gm_getR, gm_putI, gm_putZ, gm_putR, gm_new, gm_newarr, gm_iald, gm_cald, gm_zald, gm_lald, gm_aald, gm_iast, gm_cast, gm_zast, gm_last, gm_aast, gm_acp, gm_oinit, gm_back, gm_scall, gm_vcall, gm_iret, gm_zret, gm_cret, gm_lret, gm_aret, gm_vret, gm_slen, gm_schar, gm_sidx, gm_lget, gm_lset, gm_nl, gm_ent, gm_wd, gm_pop, gm_pad, gm_xl_c, gm_alen_u, gm_1_sF, gm_1_sA, gm_1_cp, gm_len_sF, gm_len_sA, gm_len_cp, Bool.or_true, Bool.true_or, gm_max_u, gm_min_u, gm_isO_sF, gm_isO_sA, gm_isO_cp, gm_gF_sF, gm_gF_sA, gm_gA_sF, gm_gA_sA, gm_gF_cp, gm_gA_cp, gm_add, gm_sub, gm_mul, gm_neg, ↓reduceIte, Nat.reduceAdd, Nat.reduceLeDiff, true_and, and_true, and_self, true_or, or_true, false_and, and_false, false_or, or_false, eq_self, Nat.reduceEqDiff, Int.reduceEq, Int.reduceLT, Int.reduceLE, Int.reduceNeg, Int.reduceAdd, Int.reduceSub, Int.reduceMul, Int.reduceDiv, Int.reduceMod, reduceCtorEq, if_true, if_false, gm_w_id, Bool.true_or, xL_law_38, z1, z148, hT, a1, b1, c1, d1, e1', e2', Int.lt_irrefl]
theorem lc_odds {xs : Int → Int} {Ln : Int} (hP : gn_PvH) (hxs : ∀ i, gm_i (xs i)) (hLn : Ln ≤ 3072) : gn_cas xs Ln 21 := fun d i M hI hp h0 h6 => by
  obtain ⟨x, M1, M2, e1, e2, hI2, hp2⟩ := s_odds (xs (i + 1)) (xs (i + 2)) (hxs _) (hxs _) M (d + 20) xs Ln hI hp
  have e1' : gm_go (d + 40) 75 [.inr (.inr 1), .inl (xs (i + 1)), .inl (xs (i + 2))] M = some (some (.inr (.inl x)), M1) := e1
  have e2' : gm_go (d + 40) 162 [.inr (.inr 148), .inl (xs (i + 1)), .inl (xs (i + 2))] M1 = some (some (.inr (.inl x)), M2) := e2
  have kp := hP _ _ _ _ _ _ (Nat.le_of_eq hI.L.1) e1'
  have hp1 := kp.pu hp
  have z1 := gm_z1 hI.L
  have z148 := gn_xO kp (gm_z148 hI.L)
  have hT : gm_isT 1002 = true := rfl
  obtain ⟨a1, b1⟩ := gn_rd hp hLn (j := i + 1) (by omega) (by omega)
  obtain ⟨c1, d1⟩ := gn_rd hp1 hLn (j := i + 1) (by omega) (by omega)
  obtain ⟨a2, b2⟩ := gn_rd hp hLn (j := i + 2) (by omega) (by omega)
  obtain ⟨c2, d2⟩ := gn_rd hp1 hLn (j := i + 2) (by omega) (by omega)
  refine ⟨M2, fun F => ?_, hI2, hp2⟩
  unfold gn_ll
  rw [show 21 + 2 = 23 from rfl, xL_law_23]
  simp (config := { maxSteps := 2000000 }) (disch := first | omega | assumption | (simp only [gm_isO_sF, gm_isO_sA, gm_isO_cp]; assumption)) only [gm_push, gm_iload, gm_lload, gm_aload, gm_istore, gm_astore, gm_iinc, gm_op2, gm_quo, gm_op1, gm_lop2, gm_lshl, gm_i2l, gm_l2i, gm_lcmp, gm_dup, gm_pop1, gm_dup2, gm_goto, gm_ifeq, gm_ifne, gm_iflt, gm_ifge, gm_ifgt, gm_ifle, gm_ceq, gm_cne, gm_clt, gm_cge, gm_cgt, gm_cle, gm_ifnull, gm_ifnonnull, gm_swk, gm_switch, gm_getI, gm_getR, gm_putI, gm_putZ, gm_putR, gm_new, gm_newarr, gm_iald, gm_cald, gm_zald, gm_lald, gm_aald, gm_iast, gm_cast, gm_zast, gm_last, gm_aast, gm_acp, gm_oinit, gm_back, gm_scall, gm_vcall, gm_iret, gm_zret, gm_cret, gm_lret, gm_aret, gm_vret, gm_slen, gm_schar, gm_sidx, gm_lget, gm_lset, gm_nl, gm_ent, gm_wd, gm_pop, gm_pad, gm_xl_c, gm_alen_u, gm_1_sF, gm_1_sA, gm_1_cp, gm_len_sF, gm_len_sA, gm_len_cp, Bool.or_true, Bool.true_or, gm_max_u, gm_min_u, gm_isO_sF, gm_isO_sA, gm_isO_cp, gm_gF_sF, gm_gF_sA, gm_gA_sF, gm_gA_sA, gm_gF_cp, gm_gA_cp, gm_add, gm_sub, gm_mul, gm_neg, ↓reduceIte, Nat.reduceAdd, Nat.reduceLeDiff, true_and, and_true, and_self, true_or, or_true, false_and, and_false, false_or, or_false, eq_self, Nat.reduceEqDiff, Int.reduceEq, Int.reduceLT, Int.reduceLE, Int.reduceNeg, Int.reduceAdd, Int.reduceSub, Int.reduceMul, Int.reduceDiv, Int.reduceMod, reduceCtorEq, if_true, if_false, gm_w_id, Bool.true_or, xL_law_38, z1, z148, hT, a1, b1, c1, d1, a2, b2, c2, d2, e1', e2', Int.lt_irrefl]
theorem lc_mean {xs : Int → Int} {Ln : Int} (hP : gn_PvH) (hxs : ∀ i, gm_i (xs i)) (hLn : Ln ≤ 3072) : gn_cas xs Ln 22 := fun d i M hI hp h0 h6 => by
  obtain ⟨x, M1, M2, e1, e2, hI2, hp2⟩ := s_mean (xs (i + 1)) (xs (i + 2)) (hxs _) (hxs _) M (d + 20) xs Ln hI hp
  have e1' : gm_go (d + 40) 76 [.inr (.inr 1), .inl (xs (i + 1)), .inl (xs (i + 2))] M = some (some (.inr (.inl x)), M1) := e1
  have e2' : gm_go (d + 40) 163 [.inr (.inr 148), .inl (xs (i + 1)), .inl (xs (i + 2))] M1 = some (some (.inr (.inl x)), M2) := e2
  have kp := hP _ _ _ _ _ _ (Nat.le_of_eq hI.L.1) e1'
  have hp1 := kp.pu hp
  have z1 := gm_z1 hI.L
  have z148 := gn_xO kp (gm_z148 hI.L)
  have hT : gm_isT 1002 = true := rfl
  obtain ⟨a1, b1⟩ := gn_rd hp hLn (j := i + 1) (by omega) (by omega)
  obtain ⟨c1, d1⟩ := gn_rd hp1 hLn (j := i + 1) (by omega) (by omega)
  obtain ⟨a2, b2⟩ := gn_rd hp hLn (j := i + 2) (by omega) (by omega)
  obtain ⟨c2, d2⟩ := gn_rd hp1 hLn (j := i + 2) (by omega) (by omega)
  refine ⟨M2, fun F => ?_, hI2, hp2⟩
  unfold gn_ll
  rw [show 22 + 2 = 24 from rfl, xL_law_24]
  simp (config := { maxSteps := 2000000 }) (disch := first | omega | assumption | (simp only [gm_isO_sF, gm_isO_sA, gm_isO_cp]; assumption)) only [gm_push, gm_iload, gm_lload, gm_aload, gm_istore, gm_astore, gm_iinc, gm_op2, gm_quo, gm_op1, gm_lop2, gm_lshl, gm_i2l, gm_l2i, gm_lcmp, gm_dup, gm_pop1, gm_dup2, gm_goto, gm_ifeq, gm_ifne, gm_iflt, gm_ifge, gm_ifgt, gm_ifle, gm_ceq, gm_cne, gm_clt, gm_cge, gm_cgt, gm_cle, gm_ifnull, gm_ifnonnull, gm_swk, gm_switch, gm_getI, gm_getR, gm_putI, gm_putZ, gm_putR, gm_new, gm_newarr, gm_iald, gm_cald, gm_zald, gm_lald, gm_aald, gm_iast, gm_cast, gm_zast, gm_last, gm_aast, gm_acp, gm_oinit, gm_back, gm_scall, gm_vcall, gm_iret, gm_zret, gm_cret, gm_lret, gm_aret, gm_vret, gm_slen, gm_schar, gm_sidx, gm_lget, gm_lset, gm_nl, gm_ent, gm_wd, gm_pop, gm_pad, gm_xl_c, gm_alen_u, gm_1_sF, gm_1_sA, gm_1_cp, gm_len_sF, gm_len_sA, gm_len_cp, Bool.or_true, Bool.true_or, gm_max_u, gm_min_u, gm_isO_sF, gm_isO_sA, gm_isO_cp, gm_gF_sF, gm_gF_sA, gm_gA_sF, gm_gA_sA, gm_gF_cp, gm_gA_cp, gm_add, gm_sub, gm_mul, gm_neg, ↓reduceIte, Nat.reduceAdd, Nat.reduceLeDiff, true_and, and_true, and_self, true_or, or_true, false_and, and_false, false_or, or_false, eq_self, Nat.reduceEqDiff, Int.reduceEq, Int.reduceLT, Int.reduceLE, Int.reduceNeg, Int.reduceAdd, Int.reduceSub, Int.reduceMul, Int.reduceDiv, Int.reduceMod, reduceCtorEq, if_true, if_false, gm_w_id, Bool.true_or, xL_law_38, z1, z148, hT, a1, b1, c1, d1, a2, b2, c2, d2, e1', e2', Int.lt_irrefl]
theorem lc_book {xs : Int → Int} {Ln : Int} (hP : gn_PvH) (hxs : ∀ i, gm_i (xs i)) (hLn : Ln ≤ 3072) : gn_cas xs Ln 23 := fun d i M hI hp h0 h6 => by
  obtain ⟨x, M1, M2, e1, e2, hI2, hp2⟩ := s_book (xs (i + 1)) (hxs _) M (d + 20) xs Ln hI hp
  have e1' : gm_go (d + 40) 77 [.inr (.inr 1), .inl (xs (i + 1))] M = some (some (.inl x), M1) := e1
  have e2' : gm_go (d + 40) 164 [.inr (.inr 148), .inl (xs (i + 1))] M1 = some (some (.inl x), M2) := e2
  have kp := hP _ _ _ _ _ _ (Nat.le_of_eq hI.L.1) e1'
  have hp1 := kp.pu hp
  have z1 := gm_z1 hI.L
  have z148 := gn_xO kp (gm_z148 hI.L)
  have hT : gm_isT 1002 = true := rfl
  obtain ⟨a1, b1⟩ := gn_rd hp hLn (j := i + 1) (by omega) (by omega)
  obtain ⟨c1, d1⟩ := gn_rd hp1 hLn (j := i + 1) (by omega) (by omega)
  refine ⟨M2, fun F => ?_, hI2, hp2⟩
  unfold gn_ll
  rw [show 23 + 2 = 25 from rfl, xL_law_25]
  simp (config := { maxSteps := 2000000 }) (disch := first | omega | assumption | (simp only [gm_isO_sF, gm_isO_sA, gm_isO_cp]; assumption)) only [gm_push, gm_iload, gm_lload, gm_aload, gm_istore, gm_astore, gm_iinc, gm_op2, gm_quo, gm_op1, gm_lop2, gm_lshl, gm_i2l, gm_l2i, gm_lcmp, gm_dup, gm_pop1, gm_dup2, gm_goto, gm_ifeq, gm_ifne, gm_iflt, gm_ifge, gm_ifgt, gm_ifle, gm_ceq, gm_cne, gm_clt, gm_cge, gm_cgt, gm_cle, gm_ifnull, gm_ifnonnull, gm_swk, gm_switch, gm_getI, gm_getR, gm_putI, gm_putZ, gm_putR, gm_new, gm_newarr, gm_iald, gm_cald, gm_zald, gm_lald, gm_aald, gm_iast, gm_cast, gm_zast, gm_last, gm_aast, gm_acp, gm_oinit, gm_back, gm_scall, gm_vcall, gm_iret, gm_zret, gm_cret, gm_lret, gm_aret, gm_vret, gm_slen, gm_schar, gm_sidx, gm_lget, gm_lset, gm_nl, gm_ent, gm_wd, gm_pop, gm_pad, gm_xl_c, gm_alen_u, gm_1_sF, gm_1_sA, gm_1_cp, gm_len_sF, gm_len_sA, gm_len_cp, Bool.or_true, Bool.true_or, gm_max_u, gm_min_u, gm_isO_sF, gm_isO_sA, gm_isO_cp, gm_gF_sF, gm_gF_sA, gm_gA_sF, gm_gA_sA, gm_gF_cp, gm_gA_cp, gm_add, gm_sub, gm_mul, gm_neg, ↓reduceIte, Nat.reduceAdd, Nat.reduceLeDiff, true_and, and_true, and_self, true_or, or_true, false_and, and_false, false_or, or_false, eq_self, Nat.reduceEqDiff, Int.reduceEq, Int.reduceLT, Int.reduceLE, Int.reduceNeg, Int.reduceAdd, Int.reduceSub, Int.reduceMul, Int.reduceDiv, Int.reduceMod, reduceCtorEq, if_true, if_false, gm_w_id, Bool.true_or, xL_law_38, z1, z148, hT, a1, b1, c1, d1, e1', e2', Int.lt_irrefl]
