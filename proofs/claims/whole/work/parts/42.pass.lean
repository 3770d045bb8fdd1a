/-! THE CLASS: sun, cold, gain, a day of a house -/
def gm_sunC (M : gm_M) (g h moon held : Int) : Int := if moon < 14 then gm_tot M (g + 1) h moon held else 0
def gm_coldC (M : gm_M) (g h moon held : Int) : Int := if moon < 14 then 0 else gm_tot M (g + 4) h moon held
/-- a ground that can be read -/
def gm_gwf (M : gm_M) (g : Int) : Prop := gm_cwf M (g + 1) ∧ gm_cwf M (g + 4) ∧ (0 ≤ gm_gF M 102 g ∧ gm_gF M 102 g ≤ 99) ∧ 0 ≤ gm_gF M 103 g ∧ gm_gF M 103 g ≤ 99
theorem r_X1_sunOver (d : Nat) (g h moon held : Int) (M : gm_M) (hL : gm_Lay M) (hg : gm_isO 1 M g = true) (hh : gm_isO 2 M h = true) (hgw : gm_gwf M g) (hhw : gm_hwf M h) (b6 : gm_i moon) (b8 : 0 ≤ held ∧ held < 100000) :
    gm_go (d + 3) 9 [.inr (.inr g), .inr (.inr h), .inl moon, .inl held] M = some (some (.inl (gm_sunC M g h moon held)), M) := by
  rw [eX1_sunOver _ _ _ (Nat.le_of_ble_eq_true rfl)]
  have k1 := gm_k100 hL hg
  have e1 := gm_l100 hL hg
  have ht := r_X0_total d (g + 1) h moon held M hL k1 hh hgw.1 hhw b6 b8
  have hl := r_X8_isLight (d + 1) moon M b6
  by_cases hm : moon < 14
  · simp (config := { maxSteps := 2000000 }) (disch := first | omega | assumption | (simp only [gm_isO_sF, gm_isO_sA, gm_isO_cp]; assumption)) only [gm_push, gm_iload, gm_lload, gm_aload, gm_istore, gm_astore, gm_iinc, gm_op2, gm_quo, gm_op1, gm_lop2, gm_lshl, gm_i2l, gm_l2i, gm_lcmp, gm_dup, gm_pop1, gm_dup2, gm_goto, gm_ifeq, gm_ifne, gm_iflt, gm_ifge, gm_ifgt, gm_ifle, gm_ceq, gm_cne, gm_clt, gm_cge, gm_cgt, gm_cle, gm_ifnull, gm_ifnonnull, gm_swk, gm_switch, gm_getI, gm_getR, gm_putI, gm_putZ, gm_putR, gm_new, gm_newarr, gm_iald, gm_cald, gm_zald, gm_lald, gm_aald, gm_iast, gm_cast, gm_zast, gm_last, gm_aast, gm_acp, gm_oinit, gm_back, gm_scall, gm_vcall, gm_iret, gm_zret, gm_cret, gm_lret, gm_aret, gm_vret, gm_slen, gm_schar, gm_sidx, gm_lget, gm_lset, gm_nl, gm_ent, gm_wd, gm_pop, gm_pad, gm_xl_c, gm_alen_u, gm_1_sF, gm_1_sA, gm_1_cp, gm_len_sF, gm_len_sA, gm_len_cp, Bool.or_true, Bool.true_or, gm_max_u, gm_min_u, gm_isO_sF, gm_isO_sA, gm_isO_cp, gm_gF_sF, gm_gF_sA, gm_gA_sF, gm_gA_sA, gm_gF_cp, gm_gA_cp, gm_add, gm_sub, gm_mul, gm_neg, ↓reduceIte, Nat.reduceAdd, Nat.reduceLeDiff, true_and, and_true, and_self, true_or, or_true, false_and, and_false, false_or, or_false, eq_self, Nat.reduceEqDiff, Int.reduceEq, Int.reduceLT, Int.reduceLE, Int.reduceNeg, Int.reduceAdd, Int.reduceSub, Int.reduceMul, Int.reduceDiv, Int.reduceMod, reduceCtorEq, if_true, if_false, gm_w_id, xX1_sunOver_0, xX1_sunOver_1, xX1_sunOver_2, hg, hh, k1, e1, ht, hl, hm, gm_sunC]
  · simp (config := { maxSteps := 2000000 }) (disch := first | omega | assumption | (simp only [gm_isO_sF, gm_isO_sA, gm_isO_cp]; assumption)) only [gm_push, gm_iload, gm_lload, gm_aload, gm_istore, gm_astore, gm_iinc, gm_op2, gm_quo, gm_op1, gm_lop2, gm_lshl, gm_i2l, gm_l2i, gm_lcmp, gm_dup, gm_pop1, gm_dup2, gm_goto, gm_ifeq, gm_ifne, gm_iflt, gm_ifge, gm_ifgt, gm_ifle, gm_ceq, gm_cne, gm_clt, gm_cge, gm_cgt, gm_cle, gm_ifnull, gm_ifnonnull, gm_swk, gm_switch, gm_getI, gm_getR, gm_putI, gm_putZ, gm_putR, gm_new, gm_newarr, gm_iald, gm_cald, gm_zald, gm_lald, gm_aald, gm_iast, gm_cast, gm_zast, gm_last, gm_aast, gm_acp, gm_oinit, gm_back, gm_scall, gm_vcall, gm_iret, gm_zret, gm_cret, gm_lret, gm_aret, gm_vret, gm_slen, gm_schar, gm_sidx, gm_lget, gm_lset, gm_nl, gm_ent, gm_wd, gm_pop, gm_pad, gm_xl_c, gm_alen_u, gm_1_sF, gm_1_sA, gm_1_cp, gm_len_sF, gm_len_sA, gm_len_cp, Bool.or_true, Bool.true_or, gm_max_u, gm_min_u, gm_isO_sF, gm_isO_sA, gm_isO_cp, gm_gF_sF, gm_gF_sA, gm_gA_sF, gm_gA_sA, gm_gF_cp, gm_gA_cp, gm_add, gm_sub, gm_mul, gm_neg, ↓reduceIte, Nat.reduceAdd, Nat.reduceLeDiff, true_and, and_true, and_self, true_or, or_true, false_and, and_false, false_or, or_false, eq_self, Nat.reduceEqDiff, Int.reduceEq, Int.reduceLT, Int.reduceLE, Int.reduceNeg, Int.reduceAdd, Int.reduceSub, Int.reduceMul, Int.reduceDiv, Int.reduceMod, reduceCtorEq, if_true, if_false, gm_w_id, xX1_sunOver_0, xX1_sunOver_1, xX1_sunOver_2, hg, hh, k1, e1, ht, hl, hm, gm_sunC]
theorem r_X1_coldOver (d : Nat) (g h moon held : Int) (M : gm_M) (hL : gm_Lay M) (hg : gm_isO 1 M g = true) (hh : gm_isO 2 M h = true) (hgw : gm_gwf M g) (hhw : gm_hwf M h) (b6 : gm_i moon) (b8 : 0 ≤ held ∧ held < 100000) :
    gm_go (d + 3) 10 [.inr (.inr g), .inr (.inr h), .inl moon, .inl held] M = some (some (.inl (gm_coldC M g h moon held)), M) := by
  rw [eX1_coldOver _ _ _ (Nat.le_of_ble_eq_true rfl)]
  have k1 := gm_k101 hL hg
  have e1 := gm_l101 hL hg
  have ht := r_X0_total d (g + 4) h moon held M hL k1 hh hgw.2.1 hhw b6 b8
  have hl := r_X8_isLight (d + 1) moon M b6
  by_cases hm : moon < 14
  · simp (config := { maxSteps := 2000000 }) (disch := first | omega | assumption | (simp only [gm_isO_sF, gm_isO_sA, gm_isO_cp]; assumption)) only [gm_push, gm_iload, gm_lload, gm_aload, gm_istore, gm_astore, gm_iinc, gm_op2, gm_quo, gm_op1, gm_lop2, gm_lshl, gm_i2l, gm_l2i, gm_lcmp, gm_dup, gm_pop1, gm_dup2, gm_goto, gm_ifeq, gm_ifne, gm_iflt, gm_ifge, gm_ifgt, gm_ifle, gm_ceq, gm_cne, gm_clt, gm_cge, gm_cgt, gm_cle, gm_ifnull, gm_ifnonnull, gm_swk, gm_switch, gm_getI, gm_getR, gm_putI, gm_putZ, gm_putR, gm_new, gm_newarr, gm_iald, gm_cald, gm_zald, gm_lald, gm_aald, gm_iast, gm_cast, gm_zast, gm_last, gm_aast, gm_acp, gm_oinit, gm_back, gm_scall, gm_vcall, gm_iret, gm_zret, gm_cret, gm_lret, gm_aret, gm_vret, gm_slen, gm_schar, gm_sidx, gm_lget, gm_lset, gm_nl, gm_ent, gm_wd, gm_pop, gm_pad, gm_xl_c, gm_alen_u, gm_1_sF, gm_1_sA, gm_1_cp, gm_len_sF, gm_len_sA, gm_len_cp, Bool.or_true, Bool.true_or, gm_max_u, gm_min_u, gm_isO_sF, gm_isO_sA, gm_isO_cp, gm_gF_sF, gm_gF_sA, gm_gA_sF, gm_gA_sA, gm_gF_cp, gm_gA_cp, gm_add, gm_sub, gm_mul, gm_neg, ↓reduceIte, Nat.reduceAdd, Nat.reduceLeDiff, true_and, and_true, and_self, true_or, or_true, false_and, and_false, false_or, or_false, eq_self, Nat.reduceEqDiff, Int.reduceEq, Int.reduceLT, Int.reduceLE, Int.reduceNeg, Int.reduceAdd, Int.reduceSub, Int.reduceMul, Int.reduceDiv, Int.reduceMod, reduceCtorEq, if_true, if_false, gm_w_id, xX1_coldOver_0, xX1_coldOver_1, xX1_coldOver_2, hg, hh, k1, e1, ht, hl, hm, gm_coldC]
  · simp (config := { maxSteps := 2000000 }) (disch := first | omega | assumption | (simp only [gm_isO_sF, gm_isO_sA, gm_isO_cp]; assumption)) only [gm_push, gm_iload, gm_lload, gm_aload, gm_istore, gm_astore, gm_iinc, gm_op2, gm_quo, gm_op1, gm_lop2, gm_lshl, gm_i2l, gm_l2i, gm_lcmp, gm_dup, gm_pop1, gm_dup2, gm_goto, gm_ifeq, gm_ifne, gm_iflt, gm_ifge, gm_ifgt, gm_ifle, gm_ceq, gm_cne, gm_clt, gm_cge, gm_cgt, gm_cle, gm_ifnull, gm_ifnonnull, gm_swk, gm_switch, gm_getI, gm_getR, gm_putI, gm_putZ, gm_putR, gm_new, gm_newarr, gm_iald, gm_cald, gm_zald, gm_lald, gm_aald, gm_iast, gm_cast, gm_zast, gm_last, gm_aast, gm_acp, gm_oinit, gm_back, gm_scall, gm_vcall, gm_iret, gm_zret, gm_cret, gm_lret, gm_aret, gm_vret, gm_slen, gm_schar, gm_sidx, gm_lget, gm_lset, gm_nl, gm_ent, gm_wd, gm_pop, gm_pad, gm_xl_c, gm_alen_u, gm_1_sF, gm_1_sA, gm_1_cp, gm_len_sF, gm_len_sA, gm_len_cp, Bool.or_true, Bool.true_or, gm_max_u, gm_min_u, gm_isO_sF, gm_isO_sA, gm_isO_cp, gm_gF_sF, gm_gF_sA, gm_gA_sF, gm_gA_sA, gm_gF_cp, gm_gA_cp, gm_add, gm_sub, gm_mul, gm_neg, ↓reduceIte, Nat.reduceAdd, Nat.reduceLeDiff, true_and, and_true, and_self, true_or, or_true, false_and, and_false, false_or, or_false, eq_self, Nat.reduceEqDiff, Int.reduceEq, Int.reduceLT, Int.reduceLE, Int.reduceNeg, Int.reduceAdd, Int.reduceSub, Int.reduceMul, Int.reduceDiv, Int.reduceMod, reduceCtorEq, if_true, if_false, gm_w_id, xX1_coldOver_0, xX1_coldOver_1, xX1_coldOver_2, hg, hh, k1, e1, ht, hl, hm, gm_coldC]
theorem gm_sunC_b {M : gm_M} {g : Int} (hgw : gm_gwf M g) (h moon held : Int) : 0 ≤ gm_sunC M g h moon held ∧ gm_sunC M g h moon held ≤ 10000 := by
  unfold gm_sunC
  split
  · exact gm_tot_b hgw.1 _ _ _
  · omega
theorem gm_coldC_b {M : gm_M} {g : Int} (hgw : gm_gwf M g) (h moon held : Int) : 0 ≤ gm_coldC M g h moon held ∧ gm_coldC M g h moon held ≤ 10000 := by
  unfold gm_coldC
  split
  · omega
  · exact gm_tot_b hgw.2.1 _ _ _
theorem gm_and3 {m : Int} (h1 : 0 ≤ m) (h2 : m < 28) : gm_and m 3 = m % 4 := by
  have key : ∀ k : Nat, k < 28 → gm_and (k : Int) 3 = (k : Int) % 4 := by decide +kernel
  have := key m.toNat (by omega)
  rwa [show ((m.toNat : Nat) : Int) = m by omega] at this
theorem gm_div2 {x : Int} (h1 : -2147483648 ≤ x) (h2 : x < 2147483648) : gm_div x 2 = if 0 ≤ x then x / 2 else -((-x) / 2) := by
  unfold gm_div
  have e1 : (Int32.ofInt x).toInt = x := Int32.toInt_ofInt_of_le (by omega) (by omega)
  have e2 : (Int32.ofInt 2).toInt = 2 := by decide
  rw [Int32.toInt_div_of_ne_right _ _ (by decide), e1, e2]
  split
  · next h => exact Int.tdiv_eq_ediv_of_nonneg h
  · next h =>
    have h3 : x = -(-x) := by omega
    rw [h3, Int.neg_tdiv, Int.tdiv_eq_ediv_of_nonneg (by omega)]
    simp
/-- a house that can pass a day -/
def gm_owf (M : gm_M) (o : Int) : Prop := (0 ≤ gm_gF M 200 o ∧ gm_gF M 200 o ≤ 5) ∧ (0 ≤ gm_gF M 201 o ∧ gm_gF M 201 o ≤ 6) ∧ (0 ≤ gm_gF M 202 o ∧ gm_gF M 202 o ≤ 9) ∧ (0 ≤ gm_gF M 203 o ∧ gm_gF M 203 o ≤ 199) ∧
  (0 ≤ gm_gF M 500 (o + 1) ∧ gm_gF M 500 (o + 1) ≤ 5000) ∧ (0 ≤ gm_gF M 501 (o + 1) ∧ gm_gF M 501 (o + 1) ≤ 5000) ∧ (0 ≤ gm_gF M 502 (o + 1) ∧ gm_gF M 502 (o + 1) ≤ 100) ∧ ∀ i, 0 ≤ i → i < 4 → 0 ≤ gm_gA M (o + 2) i ∧ gm_gA M (o + 2) i ≤ 9
theorem gm_owf.h {M : gm_M} {o : Int} (h : gm_owf M o) : gm_hwf M o := by
  obtain ⟨h1, h2, h3, h4, -⟩ := h
  refine ⟨⟨by omega, by omega⟩, ⟨by omega, by omega⟩, ⟨by omega, by omega⟩, by omega, by omega⟩
def gm_gnC (M : gm_M) (g o moon held dust : Int) : Int :=
  gm_gain (gm_gF M 201 o) (gm_gF M 202 o) (gm_gA M (o + 2) (moon % 4)) (max 0 (gm_sunC M g o moon held - dust)) (gm_coldC M g o moon held)
theorem gm_gain_b {kind v row sun cold : Int} (h1 : 0 ≤ sun ∧ sun ≤ 10000) (h2 : 0 ≤ cold ∧ cold ≤ 10000) (h3 : 0 ≤ v ∧ v ≤ 9) (h4 : 0 ≤ row ∧ row ≤ 9) : -50000 ≤ gm_gain kind v row sun cold ∧ gm_gain kind v row sun cold ≤ 50000 := by
  unfold gm_gain
  rw [gm_div2 (x := sun) (by omega) (by omega), gm_div2 (x := sun - cold) (by omega) (by omega)]
  (repeat' split) <;> omega
theorem r_X2_gainOn (d : Nat) (o g moon held dust : Int) (M : gm_M) (hL : gm_Lay M) (ho : gm_isO 2 M o = true) (hg : gm_isO 1 M g = true) (hgw : gm_gwf M g) (how : gm_owf M o) (b6 : 0 ≤ moon ∧ moon < 28) (b8 : 0 ≤ held ∧ held < 100000) (b9 : 0 ≤ dust ∧ dust ≤ 1000) :
    gm_go (d + 4) 15 [.inr (.inr o), .inr (.inr g), .inl moon, .inl held, .inl dust] M = some (some (.inl (gm_gnC M g o moon held dust)), M) := by
  rw [eX2_gainOn _ _ _ (Nat.le_of_ble_eq_true rfl)]
  have hs := r_X1_sunOver d g o moon held M hL hg ho hgw how.h ⟨by omega, by omega⟩ b8
  have hc := r_X1_coldOver d g o moon held M hL hg ho hgw how.h ⟨by omega, by omega⟩ b8
  have sb := gm_sunC_b hgw o moon held
  have cb := gm_coldC_b hgw o moon held
  unfold gm_gnC
  generalize gm_sunC M g o moon held = sun at *
  generalize gm_coldC M g o moon held = cold at *
  have e1 : gm_mx 0 (sun - dust) = max 0 (sun - dust) := gm_mx_id ⟨by decide, by decide⟩ ⟨by omega, by omega⟩
  generalize hsn : max 0 (sun - dust) = sn at *
  have l206 := gm_l206 hL ho
  have k206 := gm_k206 hL ho
  have n206 := gm_n206 hL ho
  obtain ⟨-, hk, hv, -, -, -, -, hrow⟩ := how
  have hin := gm_inI n206 (i := moon % 4) (by omega) (by omega) (by decide)
  have e2 := gm_and3 b6.1 b6.2
  have hr := hrow (moon % 4) (by omega) (by omega)
  rcases (by omega : gm_gF M 201 o = 0 ∨ gm_gF M 201 o = 1 ∨ gm_gF M 201 o = 2 ∨ gm_gF M 201 o = 3 ∨ gm_gF M 201 o = 4 ∨ gm_gF M 201 o = 5 ∨ gm_gF M 201 o = 6) with q | q | q | q | q | q | q
  all_goals
    simp (config := { maxSteps := 2000000 }) (disch := first | omega | assumption | (simp only [gm_isO_sF, gm_isO_sA, gm_isO_cp]; assumption)) only [gm_push, gm_iload, gm_lload, gm_aload, gm_istore, gm_astore, gm_iinc, gm_op2, gm_quo, gm_op1, gm_lop2, gm_lshl, gm_i2l, gm_l2i, gm_lcmp, gm_dup, gm_pop1, gm_dup2, gm_goto, gm_ifeq, gm_ifne, gm_iflt, gm_ifge, gm_ifgt, gm_ifle, gm_ceq, gm_cne, gm_clt, gm_cge, gm_cgt, gm_cle, gm_ifnull, gm_ifnonnull, gm_swk, gm_switch, gm_getI, gm_getR, gm_putI, gm_putZ, gm_putR, gm_new, gm_newarr, gm_iald, gm_cald, gm_zald, gm_lald, gm_aald, gm_iast, gm_cast, gm_zast, gm_last, gm_aast, gm_acp, gm_oinit, gm_back, gm_scall, gm_vcall, gm_iret, gm_zret, gm_cret, gm_lret, gm_aret, gm_vret, gm_slen, gm_schar, gm_sidx, gm_lget, gm_lset, gm_nl, gm_ent, gm_wd, gm_pop, gm_pad, gm_xl_c, gm_alen_u, gm_1_sF, gm_1_sA, gm_1_cp, gm_len_sF, gm_len_sA, gm_len_cp, Bool.or_true, Bool.true_or, gm_max_u, gm_min_u, gm_isO_sF, gm_isO_sA, gm_isO_cp, gm_gF_sF, gm_gF_sA, gm_gA_sF, gm_gA_sA, gm_gF_cp, gm_gA_cp, gm_add, gm_sub, gm_mul, gm_neg, ↓reduceIte, Nat.reduceAdd, Nat.reduceLeDiff, true_and, and_true, and_self, true_or, or_true, false_and, and_false, false_or, or_false, eq_self, Nat.reduceEqDiff, Int.reduceEq, Int.reduceLT, Int.reduceLE, Int.reduceNeg, Int.reduceAdd, Int.reduceSub, Int.reduceMul, Int.reduceDiv, Int.reduceMod, reduceCtorEq, if_true, if_false, gm_w_id, xX2_gainOn_0, xX2_gainOn_1, xX2_gainOn_2, xX2_gainOn_3, xX2_gainOn_4, xX2_gainOn_5, xX2_gainOn_6, ho, hg, hs, hc, e1, q, l206, k206, n206, hin, e2, gm_gain]
/-- heat and content behind a day -/
def gm_dst (M : gm_M) (g o day dust : Int) : Int × Int :=
  gm_stl (gm_gF M 103 g) (gm_gF M 102 g) (gm_gF M 501 (o + 1)) (max 0 (min 199 (gm_gF M 203 o + gm_gnC M g o (day % 28) (gm_gF M 500 (o + 1)) dust))) (max 0 (gm_gF M 500 (o + 1) - gm_gF M 502 (o + 1)))
theorem gm_hs_3 (M : gm_M) (o st a w h : Int) : gm_hs (gm_sF M 500 st a) o st w h = gm_hs M o st w h := by
  unfold gm_hs
  rw [gm_sF_cm M 500 203 _ _ _ _ (by decide), gm_sF_sF]
theorem gm_gwf.gnb {M : gm_M} {g o : Int} (hgw : gm_gwf M g) (how : gm_owf M o) (moon held dust : Int) (hd : 0 ≤ dust) : -50000 ≤ gm_gnC M g o moon held dust ∧ gm_gnC M g o moon held dust ≤ 50000 := by
  obtain ⟨-, hk, hv, -, -, -, -, hrow⟩ := how
  have s1 := gm_sunC_b hgw o moon held
  have s2 := gm_coldC_b hgw o moon held
  exact gm_gain_b (by omega) (by omega) hv (hrow _ (by omega) (by omega))
theorem r_X2_pass (d : Nat) (o g day dust : Int) (M : gm_M) (hL : gm_Lay M) (ho : gm_isO 2 M o = true) (hg : gm_isO 1 M g = true) (hgw : gm_gwf M g) (how : gm_owf M o) (b6 : 0 ≤ day ∧ day < 1000000) (b9 : 0 ≤ dust ∧ dust ≤ 1000)
    {W Hn : Int} (hst : gm_dst M g o day dust = (W, Hn)) :
    gm_go (d + 5) 17 [.inr (.inr o), .inr (.inr g), .inl day, .inl dust] M = some (some (.inl (gm_am (gm_gF M 103 g) (gm_gF M 102 g) W)), gm_hs M o (o + 1) W Hn) := by
  rw [eX2_pass _ _ _ (Nat.le_of_ble_eq_true rfl)]
  have l205 := gm_l205 hL ho
  have k205 := gm_k205 hL ho
  have e1 : gm_rem day 28 = day % 28 := gm_rem_id ⟨by omega, by omega⟩ (by decide)
  obtain ⟨h1, h2, h3, h4, h5, h6, h7, h8⟩ := id how
  have hgn := r_X2_gainOn d o g (day % 28) (gm_gF M 500 (o + 1)) dust M hL ho hg hgw how (by omega) (by omega) b9
  have gb := hgw.gnb how (day % 28) (gm_gF M 500 (o + 1)) dust b9.1
  unfold gm_dst at hst
  generalize gm_gnC M g o (day % 28) (gm_gF M 500 (o + 1)) dust = gn at *
  have hsp := r_X5_seep (d + 3) (o + 1) M k205 ⟨by omega, by omega⟩
  generalize hnh : max 0 (gm_gF M 500 (o + 1) - gm_gF M 502 (o + 1)) = nh at *
  have hse := r_X2_settle (d + 2) o g gn (o + 1) (gm_sF M 500 (o + 1) nh) ho hg k205 (by simp only [gm_gF_sF, Nat.reduceEqDiff, false_and, ↓reduceIte]; omega) gb (by simp only [gm_gF_sF, Nat.reduceEqDiff, false_and, ↓reduceIte]; exact hgw.2.2.2) (by simp only [gm_gF_sF, Nat.reduceEqDiff, false_and, ↓reduceIte]; exact hgw.2.2.1) (by simp only [gm_gF_sF, and_self, ↓reduceIte]; omega) (by simp only [gm_gF_sF, Nat.reduceEqDiff, false_and, ↓reduceIte]; omega) (W := W) (Hn := Hn) (by simp only [gm_gF_sF, Nat.reduceEqDiff, false_and, and_self, ↓reduceIte]; exact hst)
  simp only [gm_gF_sF, Nat.reduceEqDiff, false_and, ↓reduceIte, gm_hs_3] at hse
  have am01 : gm_am (gm_gF M 103 g) (gm_gF M 102 g) W = 0 ∨ gm_am (gm_gF M 103 g) (gm_gF M 102 g) W = 1 := by unfold gm_am; (repeat' split) <;> simp
  simp (config := { maxSteps := 2000000 }) (disch := first | omega | assumption | (simp only [gm_isO_sF, gm_isO_sA, gm_isO_cp]; assumption)) only [gm_push, gm_iload, gm_lload, gm_aload, gm_istore, gm_astore, gm_iinc, gm_op2, gm_quo, gm_op1, gm_lop2, gm_lshl, gm_i2l, gm_l2i, gm_lcmp, gm_dup, gm_pop1, gm_dup2, gm_goto, gm_ifeq, gm_ifne, gm_iflt, gm_ifge, gm_ifgt, gm_ifle, gm_ceq, gm_cne, gm_clt, gm_cge, gm_cgt, gm_cle, gm_ifnull, gm_ifnonnull, gm_swk, gm_switch, gm_getI, gm_getR, gm_putI, gm_putZ, gm_putR, gm_new, gm_newarr, gm_iald, gm_cald, gm_zald, gm_lald, gm_aald, gm_iast, gm_cast, gm_zast, gm_last, gm_aast, gm_acp, gm_oinit, gm_back, gm_scall, gm_vcall, gm_iret, gm_zret, gm_cret, gm_lret, gm_aret, gm_vret, gm_slen, gm_schar, gm_sidx, gm_lget, gm_lset, gm_nl, gm_ent, gm_wd, gm_pop, gm_pad, gm_xl_c, gm_alen_u, gm_1_sF, gm_1_sA, gm_1_cp, gm_len_sF, gm_len_sA, gm_len_cp, Bool.or_true, Bool.true_or, gm_max_u, gm_min_u, gm_isO_sF, gm_isO_sA, gm_isO_cp, gm_gF_sF, gm_gF_sA, gm_gA_sF, gm_gA_sA, gm_gF_cp, gm_gA_cp, gm_add, gm_sub, gm_mul, gm_neg, ↓reduceIte, Nat.reduceAdd, Nat.reduceLeDiff, true_and, and_true, and_self, true_or, or_true, false_and, and_false, false_or, or_false, eq_self, Nat.reduceEqDiff, Int.reduceEq, Int.reduceLT, Int.reduceLE, Int.reduceNeg, Int.reduceAdd, Int.reduceSub, Int.reduceMul, Int.reduceDiv, Int.reduceMod, reduceCtorEq, if_true, if_false, gm_w_id, xX2_pass_0, ho, hg, l205, k205, e1, hgn, hsp, hse, am01]
/-- what a house with its store at w, h keeps -/
theorem gm_hs_F (M : gm_M) (o st w h : Int) (f : Nat) (q : Int) : gm_gF (gm_hs M o st w h) f q = if f = 500 ∧ q = st then h else if f = 203 ∧ q = o then w else gm_gF M f q := rfl
theorem gm_hs_A (M : gm_M) (o st w h : Int) (a i : Int) : gm_gA (gm_hs M o st w h) a i = gm_gA M a i := rfl
theorem gm_hs_O (M : gm_M) (o st w h : Int) (ci : Nat) (q : Int) : gm_isO ci (gm_hs M o st w h) q = gm_isO ci M q := rfl
theorem gm_hs_L {M : gm_M} (hL : gm_Lay M) (o st w h : Int) : gm_Lay (gm_hs M o st w h) := (hL.sF 203 o w (by decide)).sF 500 st h (by decide)
theorem gm_hs_g {M : gm_M} {g : Int} (hg : gm_gwf M g) (o st w h : Int) : gm_gwf (gm_hs M o st w h) g := hg
theorem gm_hs_o {M : gm_M} {o : Int} (ho : gm_owf M o) {w h : Int} (hw : 0 ≤ w ∧ w ≤ 199) (hh : 0 ≤ h ∧ h ≤ 5000) : gm_owf (gm_hs M o (o + 1) w h) o := by
  obtain ⟨h1, h2, h3, h4, h5, h6, h7, h8⟩ := ho
  refine ⟨h1, h2, h3, ?_, ?_, h6, h7, h8⟩
  · rw [gm_hs_F, if_neg (by simp), if_pos ⟨rfl, rfl⟩]; exact hw
  · rw [gm_hs_F, if_pos ⟨rfl, rfl⟩]; exact hh
theorem gm_hs_hs (M : gm_M) (o st a b w h : Int) : gm_hs (gm_hs M o st a b) o st w h = gm_hs M o st w h := by
  unfold gm_hs
  rw [gm_sF_cm (gm_sF M 203 o a) 500 203 _ _ _ _ (by decide), gm_sF_sF, gm_sF_sF]
theorem gm_hs_id (M : gm_M) (o st : Int) : gm_hs M o st (gm_gF M 203 o) (gm_gF M 500 st) = M := by
  unfold gm_hs
  rw [gm_sF_id M 203 o rfl, gm_sF_id M 500 st rfl]
theorem gm_stl_b {high low room w h : Int} (hw : 0 ≤ w ∧ w ≤ 199) (hh : 0 ≤ h ∧ h ≤ 5000) (hr : 0 ≤ room ∧ room ≤ 5000) (h1 : 0 ≤ high) (h2 : low ≤ 99) : (0 ≤ (gm_stl high low room w h).1 ∧ (gm_stl high low room w h).1 ≤ 199) ∧ 0 ≤ (gm_stl high low room w h).2 ∧ (gm_stl high low room w h).2 ≤ 5000 := by
  unfold gm_stl
  (repeat' split) <;> simp only <;> omega
/-- a day, on heat and content alone -/
def gm_dp (M : gm_M) (g o day dust : Int) (q : Int × Int) : Int × Int := gm_dst (gm_hs M o (o + 1) q.1 q.2) g o day dust
def gm_pok (q : Int × Int) : Prop := (0 ≤ q.1 ∧ q.1 ≤ 199) ∧ 0 ≤ q.2 ∧ q.2 ≤ 5000
theorem gm_dst_ok {M : gm_M} {g o : Int} (hgw : gm_gwf M g) (how : gm_owf M o) (day dust : Int) : gm_pok (gm_dst M g o day dust) := by
  obtain ⟨h1, h2, h3, h4, h5, h6, h7, h8⟩ := how
  obtain ⟨-, -, g1, g2⟩ := hgw
  exact gm_stl_b (by omega) (by omega) h6 g2.1 g1.2
theorem gm_dp_ok {M : gm_M} {g o : Int} (hgw : gm_gwf M g) (how : gm_owf M o) (day dust : Int) {q : Int × Int} (hq : gm_pok q) : gm_pok (gm_dp M g o day dust q) := gm_dst_ok (gm_hs_g hgw o (o + 1) q.1 q.2) (gm_hs_o how hq.1 hq.2) day dust
/-- pass, from any heat and content -/
theorem r_X2_passP (d : Nat) (o g day dust : Int) (M : gm_M) (hL : gm_Lay M) (ho : gm_isO 2 M o = true) (hg : gm_isO 1 M g = true) (hgw : gm_gwf M g) (how : gm_owf M o) (b6 : 0 ≤ day ∧ day < 1000000) (b9 : 0 ≤ dust ∧ dust ≤ 1000) {q : Int × Int} (hq : gm_pok q) :
    gm_go (d + 5) 17 [.inr (.inr o), .inr (.inr g), .inl day, .inl dust] (gm_hs M o (o + 1) q.1 q.2) = some (some (.inl (gm_am (gm_gF M 103 g) (gm_gF M 102 g) (gm_dp M g o day dust q).1)), gm_hs M o (o + 1) (gm_dp M g o day dust q).1 (gm_dp M g o day dust q).2) := by
  have := r_X2_pass d o g day dust (gm_hs M o (o + 1) q.1 q.2) (gm_hs_L hL _ _ _ _) ho hg (gm_hs_g hgw _ _ _ _) (gm_hs_o how hq.1 hq.2) b6 b9 (W := (gm_dp M g o day dust q).1) (Hn := (gm_dp M g o day dust q).2) rfl
  rw [this, gm_hs_hs]
  rfl
/-- the first day amiss -/
def gm_fst (step : Int → Int × Int → Int × Int) (am : Int → Int) : Nat → Int → Int × Int → Int
  | 0, _, _ => -5
  | n + 1, k, q => if am (step k q).1 = 0 then gm_fst step am n (k + 1) (step k q) else k
/-- how many days amiss, and what is then -/
def gm_cnt (step : Int → Int × Int → Int × Int) (am : Int → Int) : Nat → Int → Int × Int → Int × (Int × Int)
  | 0, _, q => (0, q)
  | n + 1, k, q => ((if am (step k q).1 = 0 then 0 else 1) + (gm_cnt step am n (k + 1) (step k q)).1, (gm_cnt step am n (k + 1) (step k q)).2)
theorem gm_cnt_b (step : Int → Int × Int → Int × Int) (am : Int → Int) : ∀ (n : Nat) (k : Int) (q : Int × Int), 0 ≤ (gm_cnt step am n k q).1 ∧ (gm_cnt step am n k q).1 ≤ n
  | 0, _, _ => by simp [gm_cnt]
  | n + 1, k, q => by
    have := gm_cnt_b step am n (k + 1) (step k q)
    simp only [gm_cnt]
    split <;> omega
theorem gm_cnt_ok {step : Int → Int × Int → Int × Int} {am : Int → Int} (hs : ∀ k q, gm_pok q → gm_pok (step k q)) : ∀ (n : Nat) (k : Int) (q : Int × Int), gm_pok q → gm_pok (gm_cnt step am n k q).2
  | 0, _, _, h => h
  | n + 1, k, q, h => gm_cnt_ok hs n (k + 1) _ (hs k q h)
theorem gm_am01 (high low w : Int) : gm_am high low w = 0 ∨ gm_am high low w = 1 := by
  unfold gm_am
  (repeat' split) <;> simp
theorem r_X2_first_loop (d : Nat) (o g day : Int) (M : gm_M) (hL : gm_Lay M) (ho : gm_isO 2 M o = true) (hg : gm_isO 1 M g = true) (hgw : gm_gwf M g) (how : gm_owf M o) (b6 : 0 ≤ day ∧ day < 100000) :
    ∀ (n f : Nat) (k : Int) (q : Int × Int), 3 * (n + 1) ≤ f → k = 57 - n → n ≤ 56 → gm_pok q →
    ∃ q', gm_pok q' ∧ gm_ex (gm_go (d + 5)) qX2_firstAmiss f 1 [some (.inr (.inr o)), some (.inr (.inr g)), some (.inl day), some (.inl k)] [] (gm_hs M o (o + 1) q.1 q.2) = some (some (.inl (gm_fst (fun k q => gm_dp M g o (day + k - 1) 0 q) (gm_am (gm_gF M 103 g) (gm_gF M 102 g)) n k q)), gm_hs M o (o + 1) q'.1 q'.2) := by
  intro n
  induction n with
  | zero =>
    intro f k q hf hk hn hq
    obtain ⟨f, rfl⟩ : ∃ g, f = g + 2 := ⟨f - 2, by omega⟩
    have hk' : k = 57 := by omega
    subst hk'
    refine ⟨q, hq, ?_⟩
    rw [xX2_firstAmiss_1]
    simp (config := { maxSteps := 2000000 }) (disch := first | omega | assumption | (simp only [gm_isO_sF, gm_isO_sA, gm_isO_cp]; assumption)) only [gm_push, gm_iload, gm_lload, gm_aload, gm_istore, gm_astore, gm_iinc, gm_op2, gm_quo, gm_op1, gm_lop2, gm_lshl, gm_i2l, gm_l2i, gm_lcmp, gm_dup, gm_pop1, gm_dup2, gm_goto, gm_ifeq, gm_ifne, gm_iflt, gm_ifge, gm_ifgt, gm_ifle, gm_ceq, gm_cne, gm_clt, gm_cge, gm_cgt, gm_cle, gm_ifnull, gm_ifnonnull, gm_swk, gm_switch, gm_getI, gm_getR, gm_putI, gm_putZ, gm_putR, gm_new, gm_newarr, gm_iald, gm_cald, gm_zald, gm_lald, gm_aald, gm_iast, gm_cast, gm_zast, gm_last, gm_aast, gm_acp, gm_oinit, gm_back, gm_scall, gm_vcall, gm_iret, gm_zret, gm_cret, gm_lret, gm_aret, gm_vret, gm_slen, gm_schar, gm_sidx, gm_lget, gm_lset, gm_nl, gm_ent, gm_wd, gm_pop, gm_pad, gm_xl_c, gm_alen_u, gm_1_sF, gm_1_sA, gm_1_cp, gm_len_sF, gm_len_sA, gm_len_cp, Bool.or_true, Bool.true_or, gm_max_u, gm_min_u, gm_isO_sF, gm_isO_sA, gm_isO_cp, gm_gF_sF, gm_gF_sA, gm_gA_sF, gm_gA_sA, gm_gF_cp, gm_gA_cp, gm_add, gm_sub, gm_mul, gm_neg, ↓reduceIte, Nat.reduceAdd, Nat.reduceLeDiff, true_and, and_true, and_self, true_or, or_true, false_and, and_false, false_or, or_false, eq_self, Nat.reduceEqDiff, Int.reduceEq, Int.reduceLT, Int.reduceLE, Int.reduceNeg, Int.reduceAdd, Int.reduceSub, Int.reduceMul, Int.reduceDiv, Int.reduceMod, reduceCtorEq, if_true, if_false, gm_w_id, xX2_firstAmiss_0, xX2_firstAmiss_2, xX2_firstAmiss_3, gm_fst]
  | succ n ih =>
    intro f k q hf hk hn hq
    obtain ⟨f, rfl⟩ : ∃ g, f = g + 3 := ⟨f - 3, by omega⟩
    have c1 : ¬ 56 < k := by omega
    have hp := r_X2_passP d o g (day + k - 1) 0 M hL ho hg hgw how (by omega) (by decide) hq
    have hq2 := gm_dp_ok hgw how (day + k - 1) 0 hq
    rcases gm_am01 (gm_gF M 103 g) (gm_gF M 102 g) (gm_dp M g o (day + k - 1) 0 q).1 with ha | ha
    · obtain ⟨q', hq', e⟩ := ih (f + 1) (k + 1) _ (by omega) (by omega) (by omega) hq2
      refine ⟨q', hq', ?_⟩
      rw [xX2_firstAmiss_1]
      rw [ha] at hp
      simp (config := { maxSteps := 2000000 }) (disch := first | omega | assumption | (simp only [gm_isO_sF, gm_isO_sA, gm_isO_cp]; assumption)) only [gm_push, gm_iload, gm_lload, gm_aload, gm_istore, gm_astore, gm_iinc, gm_op2, gm_quo, gm_op1, gm_lop2, gm_lshl, gm_i2l, gm_l2i, gm_lcmp, gm_dup, gm_pop1, gm_dup2, gm_goto, gm_ifeq, gm_ifne, gm_iflt, gm_ifge, gm_ifgt, gm_ifle, gm_ceq, gm_cne, gm_clt, gm_cge, gm_cgt, gm_cle, gm_ifnull, gm_ifnonnull, gm_swk, gm_switch, gm_getI, gm_getR, gm_putI, gm_putZ, gm_putR, gm_new, gm_newarr, gm_iald, gm_cald, gm_zald, gm_lald, gm_aald, gm_iast, gm_cast, gm_zast, gm_last, gm_aast, gm_acp, gm_oinit, gm_back, gm_scall, gm_vcall, gm_iret, gm_zret, gm_cret, gm_lret, gm_aret, gm_vret, gm_slen, gm_schar, gm_sidx, gm_lget, gm_lset, gm_nl, gm_ent, gm_wd, gm_pop, gm_pad, gm_xl_c, gm_alen_u, gm_1_sF, gm_1_sA, gm_1_cp, gm_len_sF, gm_len_sA, gm_len_cp, Bool.or_true, Bool.true_or, gm_max_u, gm_min_u, gm_isO_sF, gm_isO_sA, gm_isO_cp, gm_gF_sF, gm_gF_sA, gm_gA_sF, gm_gA_sA, gm_gF_cp, gm_gA_cp, gm_add, gm_sub, gm_mul, gm_neg, ↓reduceIte, Nat.reduceAdd, Nat.reduceLeDiff, true_and, and_true, and_self, true_or, or_true, false_and, and_false, false_or, or_false, eq_self, Nat.reduceEqDiff, Int.reduceEq, Int.reduceLT, Int.reduceLE, Int.reduceNeg, Int.reduceAdd, Int.reduceSub, Int.reduceMul, Int.reduceDiv, Int.reduceMod, reduceCtorEq, if_true, if_false, gm_w_id, xX2_firstAmiss_0, xX2_firstAmiss_2, xX2_firstAmiss_3, gm_hs_O, ho, c1, hp]
      rw [e, gm_fst, if_pos ha]
    · refine ⟨_, hq2, ?_⟩
      rw [xX2_firstAmiss_1]
      rw [ha] at hp
      simp (config := { maxSteps := 2000000 }) (disch := first | omega | assumption | (simp only [gm_isO_sF, gm_isO_sA, gm_isO_cp]; assumption)) only [gm_push, gm_iload, gm_lload, gm_aload, gm_istore, gm_astore, gm_iinc, gm_op2, gm_quo, gm_op1, gm_lop2, gm_lshl, gm_i2l, gm_l2i, gm_lcmp, gm_dup, gm_pop1, gm_dup2, gm_goto, gm_ifeq, gm_ifne, gm_iflt, gm_ifge, gm_ifgt, gm_ifle, gm_ceq, gm_cne, gm_clt, gm_cge, gm_cgt, gm_cle, gm_ifnull, gm_ifnonnull, gm_swk, gm_switch, gm_getI, gm_getR, gm_putI, gm_putZ, gm_putR, gm_new, gm_newarr, gm_iald, gm_cald, gm_zald, gm_lald, gm_aald, gm_iast, gm_cast, gm_zast, gm_last, gm_aast, gm_acp, gm_oinit, gm_back, gm_scall, gm_vcall, gm_iret, gm_zret, gm_cret, gm_lret, gm_aret, gm_vret, gm_slen, gm_schar, gm_sidx, gm_lget, gm_lset, gm_nl, gm_ent, gm_wd, gm_pop, gm_pad, gm_xl_c, gm_alen_u, gm_1_sF, gm_1_sA, gm_1_cp, gm_len_sF, gm_len_sA, gm_len_cp, Bool.or_true, Bool.true_or, gm_max_u, gm_min_u, gm_isO_sF, gm_isO_sA, gm_isO_cp, gm_gF_sF, gm_gF_sA, gm_gA_sF, gm_gA_sA, gm_gF_cp, gm_gA_cp, gm_add, gm_sub, gm_mul, gm_neg, ↓reduceIte, Nat.reduceAdd, Nat.reduceLeDiff, true_and, and_true, and_self, true_or, or_true, false_and, and_false, false_or, or_false, eq_self, Nat.reduceEqDiff, Int.reduceEq, Int.reduceLT, Int.reduceLE, Int.reduceNeg, Int.reduceAdd, Int.reduceSub, Int.reduceMul, Int.reduceDiv, Int.reduceMod, reduceCtorEq, if_true, if_false, gm_w_id, xX2_firstAmiss_0, xX2_firstAmiss_2, xX2_firstAmiss_3, gm_hs_O, ho, c1, hp]
      rw [gm_fst, if_neg (by rw [ha]; decide)]
theorem gm_hs_at (M : gm_M) (o : Int) {Q : gm_M → Prop} (h : Q (gm_hs M o (o + 1) (gm_gF M 203 o) (gm_gF M 500 (o + 1)))) : Q M := by rw [gm_hs_id] at h; exact h
def gm_qq (M : gm_M) (o : Int) : Int × Int := (gm_gF M 203 o, gm_gF M 500 (o + 1))
theorem gm_qq_ok {M : gm_M} {o : Int} (how : gm_owf M o) : gm_pok (gm_qq M o) := ⟨how.2.2.2.1, how.2.2.2.2.1⟩
theorem r_X2_firstAmiss (d : Nat) (o g day : Int) (M : gm_M) (hL : gm_Lay M) (ho : gm_isO 2 M o = true) (hg : gm_isO 1 M g = true) (hgw : gm_gwf M g) (how : gm_owf M o) (b6 : 0 ≤ day ∧ day < 100000) :
    ∃ q', gm_pok q' ∧ gm_go (d + 6) 18 [.inr (.inr o), .inr (.inr g), .inl day] M = some (some (.inl (gm_fst (fun k q => gm_dp M g o (day + k - 1) 0 q) (gm_am (gm_gF M 103 g) (gm_gF M 102 g)) 56 1 (gm_qq M o))), gm_hs M o (o + 1) q'.1 q'.2) := by
  obtain ⟨q', hq', e⟩ := r_X2_first_loop d o g day M hL ho hg hgw how b6 56 99999 1 (gm_qq M o) (by omega) (by decide) (by omega) (gm_qq_ok how)
  refine ⟨q', hq', ?_⟩
  rw [eX2_firstAmiss _ _ _ (Nat.le_of_ble_eq_true rfl), xX2_firstAmiss_0]
  rw [show gm_hs M o (o + 1) (gm_qq M o).1 (gm_qq M o).2 = M from gm_hs_id M o (o + 1)] at e
  simp (config := { maxSteps := 2000000 }) (disch := first | omega | assumption | (simp only [gm_isO_sF, gm_isO_sA, gm_isO_cp]; assumption)) only [gm_push, gm_iload, gm_lload, gm_aload, gm_istore, gm_astore, gm_iinc, gm_op2, gm_quo, gm_op1, gm_lop2, gm_lshl, gm_i2l, gm_l2i, gm_lcmp, gm_dup, gm_pop1, gm_dup2, gm_goto, gm_ifeq, gm_ifne, gm_iflt, gm_ifge, gm_ifgt, gm_ifle, gm_ceq, gm_cne, gm_clt, gm_cge, gm_cgt, gm_cle, gm_ifnull, gm_ifnonnull, gm_swk, gm_switch, gm_getI, gm_getR, gm_putI, gm_putZ, gm_putR, gm_new, gm_newarr, gm_iald, gm_cald, gm_zald, gm_lald, gm_aald, gm_iast, gm_cast, gm_zast, gm_last, gm_aast, gm_acp, gm_oinit, gm_back, gm_scall, gm_vcall, gm_iret, gm_zret, gm_cret, gm_lret, gm_aret, gm_vret, gm_slen, gm_schar, gm_sidx, gm_lget, gm_lset, gm_nl, gm_ent, gm_wd, gm_pop, gm_pad, gm_xl_c, gm_alen_u, gm_1_sF, gm_1_sA, gm_1_cp, gm_len_sF, gm_len_sA, gm_len_cp, Bool.or_true, Bool.true_or, gm_max_u, gm_min_u, gm_isO_sF, gm_isO_sA, gm_isO_cp, gm_gF_sF, gm_gF_sA, gm_gA_sF, gm_gA_sA, gm_gF_cp, gm_gA_cp, gm_add, gm_sub, gm_mul, gm_neg, ↓reduceIte, Nat.reduceAdd, Nat.reduceLeDiff, true_and, and_true, and_self, true_or, or_true, false_and, and_false, false_or, or_false, eq_self, Nat.reduceEqDiff, Int.reduceEq, Int.reduceLT, Int.reduceLE, Int.reduceNeg, Int.reduceAdd, Int.reduceSub, Int.reduceMul, Int.reduceDiv, Int.reduceMod, reduceCtorEq, if_true, if_false, gm_w_id, e]
/-- dust for the turned glass -/
def gm_dus (turned k : Int) : Int := if turned = 0 then 0 else if k < turned then 0 else if turned + 4 < k then 0 else 1000
theorem gm_dus_b (t k : Int) : 0 ≤ gm_dus t k ∧ gm_dus t k ≤ 1000 := by
  unfold gm_dus
  (repeat' split) <;> omega
theorem r_X2_amiss_loop (d : Nat) (o g day days turned : Int) (M : gm_M) (hL : gm_Lay M) (ho : gm_isO 2 M o = true) (hg : gm_isO 1 M g = true) (hgw : gm_gwf M g) (how : gm_owf M o) (b6 : 0 ≤ day ∧ day < 100000) (b7 : 0 ≤ days ∧ days ≤ 100) (b8 : 0 ≤ turned ∧ turned ≤ 100) :
    ∀ (n f : Nat) (am k : Int) (q : Int × Int) (l7 : Option gm_V), 6 * (n + 1) ≤ f → k = days + 1 - n → n ≤ 100 → 0 ≤ am → am ≤ 100 - n → 1 ≤ k → gm_pok q →
    gm_ex (gm_go (d + 5)) qX2_amissDays f 1 [some (.inr (.inr o)), some (.inr (.inr g)), some (.inl day), some (.inl days), some (.inl turned), some (.inl am), some (.inl k), l7] [] (gm_hs M o (o + 1) q.1 q.2) =
      some (some (.inl (am + (gm_cnt (fun k q => gm_dp M g o (day + k - 1) (gm_dus turned k) q) (gm_am (gm_gF M 103 g) (gm_gF M 102 g)) n k q).1)), gm_hs M o (o + 1) (gm_cnt (fun k q => gm_dp M g o (day + k - 1) (gm_dus turned k) q) (gm_am (gm_gF M 103 g) (gm_gF M 102 g)) n k q).2.1 (gm_cnt (fun k q => gm_dp M g o (day + k - 1) (gm_dus turned k) q) (gm_am (gm_gF M 103 g) (gm_gF M 102 g)) n k q).2.2) := by
  intro n
  induction n with
  | zero =>
    intro f am k q l7 hf hk hn h1 h2 h3 hq
    obtain ⟨f, rfl⟩ : ∃ g, f = g + 2 := ⟨f - 2, by omega⟩
    have c1 : days < k := by omega
    rw [xX2_amissDays_1]
    simp (config := { maxSteps := 2000000 }) (disch := first | omega | assumption | (simp only [gm_isO_sF, gm_isO_sA, gm_isO_cp]; assumption)) only [gm_push, gm_iload, gm_lload, gm_aload, gm_istore, gm_astore, gm_iinc, gm_op2, gm_quo, gm_op1, gm_lop2, gm_lshl, gm_i2l, gm_l2i, gm_lcmp, gm_dup, gm_pop1, gm_dup2, gm_goto, gm_ifeq, gm_ifne, gm_iflt, gm_ifge, gm_ifgt, gm_ifle, gm_ceq, gm_cne, gm_clt, gm_cge, gm_cgt, gm_cle, gm_ifnull, gm_ifnonnull, gm_swk, gm_switch, gm_getI, gm_getR, gm_putI, gm_putZ, gm_putR, gm_new, gm_newarr, gm_iald, gm_cald, gm_zald, gm_lald, gm_aald, gm_iast, gm_cast, gm_zast, gm_last, gm_aast, gm_acp, gm_oinit, gm_back, gm_scall, gm_vcall, gm_iret, gm_zret, gm_cret, gm_lret, gm_aret, gm_vret, gm_slen, gm_schar, gm_sidx, gm_lget, gm_lset, gm_nl, gm_ent, gm_wd, gm_pop, gm_pad, gm_xl_c, gm_alen_u, gm_1_sF, gm_1_sA, gm_1_cp, gm_len_sF, gm_len_sA, gm_len_cp, Bool.or_true, Bool.true_or, gm_max_u, gm_min_u, gm_isO_sF, gm_isO_sA, gm_isO_cp, gm_gF_sF, gm_gF_sA, gm_gA_sF, gm_gA_sA, gm_gF_cp, gm_gA_cp, gm_add, gm_sub, gm_mul, gm_neg, ↓reduceIte, Nat.reduceAdd, Nat.reduceLeDiff, true_and, and_true, and_self, true_or, or_true, false_and, and_false, false_or, or_false, eq_self, Nat.reduceEqDiff, Int.reduceEq, Int.reduceLT, Int.reduceLE, Int.reduceNeg, Int.reduceAdd, Int.reduceSub, Int.reduceMul, Int.reduceDiv, Int.reduceMod, reduceCtorEq, if_true, if_false, gm_w_id, xX2_amissDays_0, xX2_amissDays_2, xX2_amissDays_3, xX2_amissDays_4, xX2_amissDays_5, xX2_amissDays_6, xX2_amissDays_7, gm_cnt, c1, Int.add_zero]
  | succ n ih =>
    intro f am k q l7 hf hk hn h1 h2 h3 hq
    obtain ⟨f, rfl⟩ : ∃ g, f = g + 6 := ⟨f - 6, by omega⟩
    have c1 : ¬ days < k := by omega
    have hq2 := gm_dp_ok hgw how (day + k - 1) (gm_dus turned k) hq
    have hp := r_X2_passP d o g (day + k - 1) (gm_dus turned k) M hL ho hg hgw how (by omega) (gm_dus_b _ _) hq
    generalize hgen : gm_dp M g o (day + k - 1) (gm_dus turned k) q = q2 at *
    have key : ∀ (f' : Nat) (l7' : Option gm_V), 6 * (n + 1) ≤ f' → ∀ am', (am' = am + (if gm_am (gm_gF M 103 g) (gm_gF M 102 g) q2.1 = 0 then 0 else 1)) →
        gm_ex (gm_go (d + 5)) qX2_amissDays f' 1 [some (.inr (.inr o)), some (.inr (.inr g)), some (.inl day), some (.inl days), some (.inl turned), some (.inl am'), some (.inl (k + 1)), l7'] [] (gm_hs M o (o + 1) q2.1 q2.2) =
      some (some (.inl (am + (gm_cnt (fun k q => gm_dp M g o (day + k - 1) (gm_dus turned k) q) (gm_am (gm_gF M 103 g) (gm_gF M 102 g)) (n + 1) k q).1)), gm_hs M o (o + 1) (gm_cnt (fun k q => gm_dp M g o (day + k - 1) (gm_dus turned k) q) (gm_am (gm_gF M 103 g) (gm_gF M 102 g)) (n + 1) k q).2.1 (gm_cnt (fun k q => gm_dp M g o (day + k - 1) (gm_dus turned k) q) (gm_am (gm_gF M 103 g) (gm_gF M 102 g)) (n + 1) k q).2.2) := by
      intro f' l7' hf' am' ham
      have e := ih f' am' (k + 1) q2 l7' hf' (by omega) (by omega) (by split at ham <;> omega) (by split at ham <;> omega) (by omega) hq2
      rw [e]
      simp only [gm_cnt, hgen]
      rw [ham, Int.add_assoc]
    rcases gm_am01 (gm_gF M 103 g) (gm_gF M 102 g) q2.1 with ha | ha
    all_goals
      rw [ha] at hp
      unfold gm_dus at hp
      rw [xX2_amissDays_1]
      by_cases t1 : turned = 0
      · subst t1
        rw [if_pos rfl] at hp
        simp (config := { maxSteps := 2000000 }) (disch := first | omega | assumption | (simp only [gm_isO_sF, gm_isO_sA, gm_isO_cp]; assumption)) only [gm_push, gm_iload, gm_lload, gm_aload, gm_istore, gm_astore, gm_iinc, gm_op2, gm_quo, gm_op1, gm_lop2, gm_lshl, gm_i2l, gm_l2i, gm_lcmp, gm_dup, gm_pop1, gm_dup2, gm_goto, gm_ifeq, gm_ifne, gm_iflt, gm_ifge, gm_ifgt, gm_ifle, gm_ceq, gm_cne, gm_clt, gm_cge, gm_cgt, gm_cle, gm_ifnull, gm_ifnonnull, gm_swk, gm_switch, gm_getI, gm_getR, gm_putI, gm_putZ, gm_putR, gm_new, gm_newarr, gm_iald, gm_cald, gm_zald, gm_lald, gm_aald, gm_iast, gm_cast, gm_zast, gm_last, gm_aast, gm_acp, gm_oinit, gm_back, gm_scall, gm_vcall, gm_iret, gm_zret, gm_cret, gm_lret, gm_aret, gm_vret, gm_slen, gm_schar, gm_sidx, gm_lget, gm_lset, gm_nl, gm_ent, gm_wd, gm_pop, gm_pad, gm_xl_c, gm_alen_u, gm_1_sF, gm_1_sA, gm_1_cp, gm_len_sF, gm_len_sA, gm_len_cp, Bool.or_true, Bool.true_or, gm_max_u, gm_min_u, gm_isO_sF, gm_isO_sA, gm_isO_cp, gm_gF_sF, gm_gF_sA, gm_gA_sF, gm_gA_sA, gm_gF_cp, gm_gA_cp, gm_add, gm_sub, gm_mul, gm_neg, ↓reduceIte, Nat.reduceAdd, Nat.reduceLeDiff, true_and, and_true, and_self, true_or, or_true, false_and, and_false, false_or, or_false, eq_self, Nat.reduceEqDiff, Int.reduceEq, Int.reduceLT, Int.reduceLE, Int.reduceNeg, Int.reduceAdd, Int.reduceSub, Int.reduceMul, Int.reduceDiv, Int.reduceMod, reduceCtorEq, if_true, if_false, gm_w_id, xX2_amissDays_0, xX2_amissDays_2, xX2_amissDays_3, xX2_amissDays_4, xX2_amissDays_5, xX2_amissDays_6, xX2_amissDays_7, gm_hs_O, ho, c1, hp]
        refine (key _ _ (by omega) _ ?_)
        rw [ha]; simp
      · rw [if_neg t1] at hp
        by_cases t2 : k < turned
        · rw [if_pos t2] at hp
          simp (config := { maxSteps := 2000000 }) (disch := first | omega | assumption | (simp only [gm_isO_sF, gm_isO_sA, gm_isO_cp]; assumption)) only [gm_push, gm_iload, gm_lload, gm_aload, gm_istore, gm_astore, gm_iinc, gm_op2, gm_quo, gm_op1, gm_lop2, gm_lshl, gm_i2l, gm_l2i, gm_lcmp, gm_dup, gm_pop1, gm_dup2, gm_goto, gm_ifeq, gm_ifne, gm_iflt, gm_ifge, gm_ifgt, gm_ifle, gm_ceq, gm_cne, gm_clt, gm_cge, gm_cgt, gm_cle, gm_ifnull, gm_ifnonnull, gm_swk, gm_switch, gm_getI, gm_getR, gm_putI, gm_putZ, gm_putR, gm_new, gm_newarr, gm_iald, gm_cald, gm_zald, gm_lald, gm_aald, gm_iast, gm_cast, gm_zast, gm_last, gm_aast, gm_acp, gm_oinit, gm_back, gm_scall, gm_vcall, gm_iret, gm_zret, gm_cret, gm_lret, gm_aret, gm_vret, gm_slen, gm_schar, gm_sidx, gm_lget, gm_lset, gm_nl, gm_ent, gm_wd, gm_pop, gm_pad, gm_xl_c, gm_alen_u, gm_1_sF, gm_1_sA, gm_1_cp, gm_len_sF, gm_len_sA, gm_len_cp, Bool.or_true, Bool.true_or, gm_max_u, gm_min_u, gm_isO_sF, gm_isO_sA, gm_isO_cp, gm_gF_sF, gm_gF_sA, gm_gA_sF, gm_gA_sA, gm_gF_cp, gm_gA_cp, gm_add, gm_sub, gm_mul, gm_neg, ↓reduceIte, Nat.reduceAdd, Nat.reduceLeDiff, true_and, and_true, and_self, true_or, or_true, false_and, and_false, false_or, or_false, eq_self, Nat.reduceEqDiff, Int.reduceEq, Int.reduceLT, Int.reduceLE, Int.reduceNeg, Int.reduceAdd, Int.reduceSub, Int.reduceMul, Int.reduceDiv, Int.reduceMod, reduceCtorEq, if_true, if_false, gm_w_id, xX2_amissDays_0, xX2_amissDays_2, xX2_amissDays_3, xX2_amissDays_4, xX2_amissDays_5, xX2_amissDays_6, xX2_amissDays_7, gm_hs_O, ho, c1, t1, t2, hp]
          refine (key _ _ (by omega) _ ?_)
          rw [ha]; simp
        · rw [if_neg t2] at hp
          by_cases t3 : turned + 4 < k
          · rw [if_pos t3] at hp
            simp (config := { maxSteps := 2000000 }) (disch := first | omega | assumption | (simp only [gm_isO_sF, gm_isO_sA, gm_isO_cp]; assumption)) only [gm_push, gm_iload, gm_lload, gm_aload, gm_istore, gm_astore, gm_iinc, gm_op2, gm_quo, gm_op1, gm_lop2, gm_lshl, gm_i2l, gm_l2i, gm_lcmp, gm_dup, gm_pop1, gm_dup2, gm_goto, gm_ifeq, gm_ifne, gm_iflt, gm_ifge, gm_ifgt, gm_ifle, gm_ceq, gm_cne, gm_clt, gm_cge, gm_cgt, gm_cle, gm_ifnull, gm_ifnonnull, gm_swk, gm_switch, gm_getI, gm_getR, gm_putI, gm_putZ, gm_putR, gm_new, gm_newarr, gm_iald, gm_cald, gm_zald, gm_lald, gm_aald, gm_iast, gm_cast, gm_zast, gm_last, gm_aast, gm_acp, gm_oinit, gm_back, gm_scall, gm_vcall, gm_iret, gm_zret, gm_cret, gm_lret, gm_aret, gm_vret, gm_slen, gm_schar, gm_sidx, gm_lget, gm_lset, gm_nl, gm_ent, gm_wd, gm_pop, gm_pad, gm_xl_c, gm_alen_u, gm_1_sF, gm_1_sA, gm_1_cp, gm_len_sF, gm_len_sA, gm_len_cp, Bool.or_true, Bool.true_or, gm_max_u, gm_min_u, gm_isO_sF, gm_isO_sA, gm_isO_cp, gm_gF_sF, gm_gF_sA, gm_gA_sF, gm_gA_sA, gm_gF_cp, gm_gA_cp, gm_add, gm_sub, gm_mul, gm_neg, ↓reduceIte, Nat.reduceAdd, Nat.reduceLeDiff, true_and, and_true, and_self, true_or, or_true, false_and, and_false, false_or, or_false, eq_self, Nat.reduceEqDiff, Int.reduceEq, Int.reduceLT, Int.reduceLE, Int.reduceNeg, Int.reduceAdd, Int.reduceSub, Int.reduceMul, Int.reduceDiv, Int.reduceMod, reduceCtorEq, if_true, if_false, gm_w_id, xX2_amissDays_0, xX2_amissDays_2, xX2_amissDays_3, xX2_amissDays_4, xX2_amissDays_5, xX2_amissDays_6, xX2_amissDays_7, gm_hs_O, ho, c1, t1, t2, t3, hp]
            refine (key _ _ (by omega) _ ?_)
            rw [ha]; simp
          · rw [if_neg t3] at hp
            simp (config := { maxSteps := 2000000 }) (disch := first | omega | assumption | (simp only [gm_isO_sF, gm_isO_sA, gm_isO_cp]; assumption)) only [gm_push, gm_iload, gm_lload, gm_aload, gm_istore, gm_astore, gm_iinc, gm_op2, gm_quo, gm_op1, gm_lop2, gm_lshl, gm_i2l, gm_l2i, gm_lcmp, gm_dup, gm_pop1, gm_dup2, gm_goto, gm_ifeq, gm_ifne, gm_iflt, gm_ifge, gm_ifgt, gm_ifle, gm_ceq, gm_cne, gm_clt, gm_cge, gm_cgt, gm_cle, gm_ifnull, gm_ifnonnull, gm_swk, gm_switch, gm_getI, gm_getR, gm_putI, gm_putZ, gm_putR, gm_new, gm_newarr, gm_iald, gm_cald, gm_zald, gm_lald, gm_aald, gm_iast, gm_cast, gm_zast, gm_last, gm_aast, gm_acp, gm_oinit, gm_back, gm_scall, gm_vcall, gm_iret, gm_zret, gm_cret, gm_lret, gm_aret, gm_vret, gm_slen, gm_schar, gm_sidx, gm_lget, gm_lset, gm_nl, gm_ent, gm_wd, gm_pop, gm_pad, gm_xl_c, gm_alen_u, gm_1_sF, gm_1_sA, gm_1_cp, gm_len_sF, gm_len_sA, gm_len_cp, Bool.or_true, Bool.true_or, gm_max_u, gm_min_u, gm_isO_sF, gm_isO_sA, gm_isO_cp, gm_gF_sF, gm_gF_sA, gm_gA_sF, gm_gA_sA, gm_gF_cp, gm_gA_cp, gm_add, gm_sub, gm_mul, gm_neg, ↓reduceIte, Nat.reduceAdd, Nat.reduceLeDiff, true_and, and_true, and_self, true_or, or_true, false_and, and_false, false_or, or_false, eq_self, Nat.reduceEqDiff, Int.reduceEq, Int.reduceLT, Int.reduceLE, Int.reduceNeg, Int.reduceAdd, Int.reduceSub, Int.reduceMul, Int.reduceDiv, Int.reduceMod, reduceCtorEq, if_true, if_false, gm_w_id, xX2_amissDays_0, xX2_amissDays_2, xX2_amissDays_3, xX2_amissDays_4, xX2_amissDays_5, xX2_amissDays_6, xX2_amissDays_7, gm_hs_O, ho, c1, t1, t2, t3, hp]
            refine (key _ _ (by omega) _ ?_)
            rw [ha]; simp
theorem r_X2_amissDays (d : Nat) (o g day days turned : Int) (M : gm_M) (hL : gm_Lay M) (ho : gm_isO 2 M o = true) (hg : gm_isO 1 M g = true) (hgw : gm_gwf M g) (how : gm_owf M o) (b6 : 0 ≤ day ∧ day < 100000) (b7 : 0 ≤ days ∧ days ≤ 100) (b8 : 0 ≤ turned ∧ turned ≤ 100)
    {cq : Int × (Int × Int)} (hcq : gm_cnt (fun k q => gm_dp M g o (day + k - 1) (gm_dus turned k) q) (gm_am (gm_gF M 103 g) (gm_gF M 102 g)) days.toNat 1 (gm_qq M o) = cq) :
    gm_go (d + 6) 19 [.inr (.inr o), .inr (.inr g), .inl day, .inl days, .inl turned] M = some (some (.inl cq.1), gm_hs M o (o + 1) cq.2.1 cq.2.2) := by
  subst hcq
  have e := r_X2_amiss_loop d o g day days turned M hL ho hg hgw how b6 b7 b8 days.toNat 99999 0 1 (gm_qq M o) none (by omega) (by omega) (by omega) (by omega) (by omega) (by omega) (gm_qq_ok how)
  rw [eX2_amissDays _ _ _ (Nat.le_of_ble_eq_true rfl), xX2_amissDays_0]
  rw [show gm_hs M o (o + 1) (gm_qq M o).1 (gm_qq M o).2 = M from gm_hs_id M o (o + 1), Int.zero_add] at e
  simp (config := { maxSteps := 2000000 }) (disch := first | omega | assumption | (simp only [gm_isO_sF, gm_isO_sA, gm_isO_cp]; assumption)) only [gm_push, gm_iload, gm_lload, gm_aload, gm_istore, gm_astore, gm_iinc, gm_op2, gm_quo, gm_op1, gm_lop2, gm_lshl, gm_i2l, gm_l2i, gm_lcmp, gm_dup, gm_pop1, gm_dup2, gm_goto, gm_ifeq, gm_ifne, gm_iflt, gm_ifge, gm_ifgt, gm_ifle, gm_ceq, gm_cne, gm_clt, gm_cge, gm_cgt, gm_cle, gm_ifnull, gm_ifnonnull, gm_swk, gm_switch, gm_getI, gm_getR, gm_putI, gm_putZ, gm_putR, gm_new, gm_newarr, gm_iald, gm_cald, gm_zald, gm_lald, gm_aald, gm_iast, gm_cast, gm_zast, gm_last, gm_aast, gm_acp, gm_oinit, gm_back, gm_scall, gm_vcall, gm_iret, gm_zret, gm_cret, gm_lret, gm_aret, gm_vret, gm_slen, gm_schar, gm_sidx, gm_lget, gm_lset, gm_nl, gm_ent, gm_wd, gm_pop, gm_pad, gm_xl_c, gm_alen_u, gm_1_sF, gm_1_sA, gm_1_cp, gm_len_sF, gm_len_sA, gm_len_cp, Bool.or_true, Bool.true_or, gm_max_u, gm_min_u, gm_isO_sF, gm_isO_sA, gm_isO_cp, gm_gF_sF, gm_gF_sA, gm_gA_sF, gm_gA_sA, gm_gF_cp, gm_gA_cp, gm_add, gm_sub, gm_mul, gm_neg, ↓reduceIte, Nat.reduceAdd, Nat.reduceLeDiff, true_and, and_true, and_self, true_or, or_true, false_and, and_false, false_or, or_false, eq_self, Nat.reduceEqDiff, Int.reduceEq, Int.reduceLT, Int.reduceLE, Int.reduceNeg, Int.reduceAdd, Int.reduceSub, Int.reduceMul, Int.reduceDiv, Int.reduceMod, reduceCtorEq, if_true, if_false, gm_w_id, e]
