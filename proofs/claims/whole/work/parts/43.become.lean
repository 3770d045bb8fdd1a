/-! THE CLASS: a house becomes another; where houses and the ground are -/
/-- the house o becomes the house q -/
def gm_bec (M : gm_M) (o q : Int) : gm_M :=
  gm_cp (gm_sF (gm_sF (gm_sF (gm_sF (gm_sF (gm_sF (gm_sF (gm_sF M 200 o (gm_gF M 200 q)) 201 o (gm_gF M 201 q)) 202 o (gm_gF M 202 q)) 203 o (gm_gF M 203 q)) 204 o (gm_gF M 204 q)) 500 (o + 1) (gm_gF M 500 (q + 1))) 501 (o + 1) (gm_gF M 501 (q + 1))) 502 (o + 1) (gm_gF M 502 (q + 1))) (q + 2) 0 (o + 2) 0 4
theorem gm_NXv : gm_NX = 188 := rfl
theorem r_X5_become (d : Nat) (o q : Int) (M : gm_M) (ho : gm_isO 5 M o = true) (hq : gm_isO 5 M q = true) (hne : ¬ o = q) : gm_go (d + 1) 37 [.inr (.inr o), .inr (.inr q)] M = some (none, gm_sF (gm_sF (gm_sF M 500 o (gm_gF M 500 q)) 501 o (gm_gF M 501 q)) 502 o (gm_gF M 502 q)) := by
  rw [eX5_become _ _ _ (Nat.le_of_ble_eq_true rfl)]
  simp (config := { maxSteps := 2000000 }) (disch := first | omega | assumption | (simp only [gm_isO_sF, gm_isO_sA, gm_isO_cp]; assumption)) only [gm_push, gm_iload, gm_lload, gm_aload, gm_istore, gm_astore, gm_iinc, gm_op2, gm_quo, gm_op1, gm_lop2, gm_lshl, gm_i2l, gm_l2i, gm_lcmp, gm_dup, gm_pop1, gm_dup2, gm_goto, gm_ifeq, gm_ifne, gm_iflt, gm_ifge, gm_ifgt, gm_ifle, gm_ceq, gm_cne, gm_clt, gm_cge, gm_cgt, gm_cle, gm_ifnull, gm_ifnonnull, gm_swk, gm_switch, gm_getI, gm_getR, gm_putI, gm_putZ, gm_putR, gm_new, gm_newarr, gm_iald, gm_cald, gm_zald, gm_lald, gm_aald, gm_iast, gm_cast, gm_zast, gm_last, gm_aast, gm_acp, gm_oinit, gm_back, gm_scall, gm_vcall, gm_iret, gm_zret, gm_cret, gm_lret, gm_aret, gm_vret, gm_slen, gm_schar, gm_sidx, gm_lget, gm_lset, gm_nl, gm_ent, gm_wd, gm_pop, gm_pad, gm_xl_c, gm_alen_u, gm_1_sF, gm_1_sA, gm_1_cp, gm_len_sF, gm_len_sA, gm_len_cp, Bool.or_true, Bool.true_or, gm_max_u, gm_min_u, gm_isO_sF, gm_isO_sA, gm_isO_cp, gm_gF_sF, gm_gF_sA, gm_gA_sF, gm_gA_sA, gm_gF_cp, gm_gA_cp, gm_add, gm_sub, gm_mul, gm_neg, ↓reduceIte, Nat.reduceAdd, Nat.reduceLeDiff, true_and, and_true, and_self, true_or, or_true, false_and, and_false, false_or, or_false, eq_self, Nat.reduceEqDiff, Int.reduceEq, Int.reduceLT, Int.reduceLE, Int.reduceNeg, Int.reduceAdd, Int.reduceSub, Int.reduceMul, Int.reduceDiv, Int.reduceMod, reduceCtorEq, if_true, if_false, gm_w_id, xX5_become_0, ho, hq]
theorem r_X2_become (d : Nat) (o q : Int) (M : gm_M) (hL : gm_Lay M) (ho : gm_isO 2 M o = true) (hq : gm_isO 2 M q = true) (hne : ¬ o = q) : gm_go (d + 2) 13 [.inr (.inr o), .inr (.inr q)] M = some (none, gm_bec M o q) := by
  rw [eX2_become _ _ _ (Nat.le_of_ble_eq_true rfl)]
  have l1 := gm_l205 hL ho
  have l2 := gm_l205 hL hq
  have k1 := gm_k205 hL ho
  have k2 := gm_k205 hL hq
  have l3 := gm_l206 hL ho
  have l4 := gm_l206 hL hq
  have k3 := gm_k206 hL ho
  have k4 := gm_k206 hL hq
  have n3 := gm_n206 hL ho
  have n4 := gm_n206 hL hq
  have hN : M.1 = gm_NX := hL.1
  have hne' : ¬ q = o := fun z => hne z.symm
  have hs := fun (M' : gm_M) (h1 : gm_isO 5 M' (o + 1) = true) (h2 : gm_isO 5 M' (q + 1) = true) => r_X5_become d (o + 1) (q + 1) M' h1 h2 (by omega)
  simp (config := { maxSteps := 2000000 }) (disch := first | omega | assumption | (simp only [gm_isO_sF, gm_isO_sA, gm_isO_cp]; assumption)) only [gm_push, gm_iload, gm_lload, gm_aload, gm_istore, gm_astore, gm_iinc, gm_op2, gm_quo, gm_op1, gm_lop2, gm_lshl, gm_i2l, gm_l2i, gm_lcmp, gm_dup, gm_pop1, gm_dup2, gm_goto, gm_ifeq, gm_ifne, gm_iflt, gm_ifge, gm_ifgt, gm_ifle, gm_ceq, gm_cne, gm_clt, gm_cge, gm_cgt, gm_cle, gm_ifnull, gm_ifnonnull, gm_swk, gm_switch, gm_getI, gm_getR, gm_putI, gm_putZ, gm_putR, gm_new, gm_newarr, gm_iald, gm_cald, gm_zald, gm_lald, gm_aald, gm_iast, gm_cast, gm_zast, gm_last, gm_aast, gm_acp, gm_oinit, gm_back, gm_scall, gm_vcall, gm_iret, gm_zret, gm_cret, gm_lret, gm_aret, gm_vret, gm_slen, gm_schar, gm_sidx, gm_lget, gm_lset, gm_nl, gm_ent, gm_wd, gm_pop, gm_pad, gm_xl_c, gm_alen_u, gm_1_sF, gm_1_sA, gm_1_cp, gm_len_sF, gm_len_sA, gm_len_cp, Bool.or_true, Bool.true_or, gm_max_u, gm_min_u, gm_isO_sF, gm_isO_sA, gm_isO_cp, gm_gF_sF, gm_gF_sA, gm_gA_sF, gm_gA_sA, gm_gF_cp, gm_gA_cp, gm_add, gm_sub, gm_mul, gm_neg, ↓reduceIte, Nat.reduceAdd, Nat.reduceLeDiff, true_and, and_true, and_self, true_or, or_true, false_and, and_false, false_or, or_false, eq_self, Nat.reduceEqDiff, Int.reduceEq, Int.reduceLT, Int.reduceLE, Int.reduceNeg, Int.reduceAdd, Int.reduceSub, Int.reduceMul, Int.reduceDiv, Int.reduceMod, reduceCtorEq, if_true, if_false, gm_w_id, xX2_become_0, ho, hq, l1, l2, k1, k2, l3, l4, k3, k4, n3, n4, hN, hne, hne', hs]
  rfl
