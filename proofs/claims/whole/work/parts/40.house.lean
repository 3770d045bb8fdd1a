/-! THE CLASS: stores, houses -/
theorem gm_w_0' : gm_w 0 = 0 := rfl
/-- a number that fits an int -/
abbrev gm_i (x : Int) : Prop := -2147483648 ≤ x ∧ x < 2147483648
theorem gm_wi {x : Int} (h : gm_i x) : gm_w x = x := gm_w_id h.1 h.2
theorem gm_mx_id {x y : Int} (hx : gm_i x) (hy : gm_i y) : gm_mx x y = max x y := by
  unfold gm_mx
  rw [gm_wi hx, gm_wi hy]
  omega
theorem gm_mn_id {x y : Int} (hx : gm_i x) (hy : gm_i y) : gm_mn x y = min x y := by
  unfold gm_mn
  rw [gm_wi hx, gm_wi hy]
  omega
theorem gm_ofw (x : Int) : Int32.ofInt (gm_w x) = Int32.ofInt x := Int32.ofInt_toInt _
theorem gm_div_id {x y : Int} (hx : 0 ≤ x ∧ x < 2147483648) (hy : 0 < y ∧ y < 2147483648) : gm_div x y = x / y := by
  unfold gm_div
  have h1 : (Int32.ofInt x).toInt = x := Int32.toInt_ofInt_of_le (by omega) (by omega)
  have h2 : (Int32.ofInt y).toInt = y := Int32.toInt_ofInt_of_le (by omega) (by omega)
  rw [Int32.toInt_div_of_ne_right _ _ (fun z => by
    have h3 : (Int32.ofInt y).toInt = (-1 : Int32).toInt := by rw [z]
    rw [h2] at h3
    have h4 : ((-1 : Int32)).toInt = -1 := by decide
    omega), h1, h2]
  exact Int.tdiv_eq_ediv_of_nonneg hx.1
theorem gm_rem_id {x y : Int} (hx : 0 ≤ x ∧ x < 2147483648) (hy : 0 < y ∧ y < 2147483648) : gm_rem x y = x % y := by
  have h : gm_rem x y = gm_w (x - gm_div x y * y) := by
    unfold gm_rem gm_w
    rw [show x - gm_div x y * y = gm_sub x (gm_mul (gm_div x y) y) from rfl, gm_o_sub, gm_o_mul, gm_o_div]
  have h5 : x - x / y * y = x % y := by
    have := Int.emod_add_mul_ediv x y
    have h6 : y * (x / y) = x / y * y := Int.mul_comm _ _
    omega
  have h7 := Int.emod_nonneg x (show y ≠ 0 by omega)
  have h8 := Int.emod_lt_of_pos x hy.1
  rw [h, gm_div_id hx hy, h5]
  exact gm_w_id (by omega) (by omega)
theorem r_X8_within (d : Nat) (n most : Int) (M : gm_M) : gm_go (d + 1) 90 [.inl n, .inl most] M = some (some (.inl (if gm_w n < 0 then 0 else if gm_w most < gm_w n then 0 else 1)), M) := by
  rw [eX8_within _ _ _ (Nat.le_of_ble_eq_true rfl)]
  simp only [gm_push, gm_iload, gm_lload, gm_aload, gm_istore, gm_astore, gm_iinc, gm_op2, gm_quo, gm_op1, gm_lop2, gm_lshl, gm_i2l, gm_l2i, gm_lcmp, gm_dup, gm_pop1, gm_dup2, gm_goto, gm_ifeq, gm_ifne, gm_iflt, gm_ifge, gm_ifgt, gm_ifle, gm_ceq, gm_cne, gm_clt, gm_cge, gm_cgt, gm_cle, gm_ifnull, gm_ifnonnull, gm_swk, gm_switch, gm_getI, gm_getR, gm_putI, gm_putZ, gm_putR, gm_new, gm_newarr, gm_iald, gm_cald, gm_zald, gm_lald, gm_aald, gm_iast, gm_cast, gm_zast, gm_last, gm_aast, gm_acp, gm_oinit, gm_back, gm_scall, gm_vcall, gm_iret, gm_zret, gm_cret, gm_lret, gm_aret, gm_vret, gm_slen, gm_schar, gm_sidx, gm_lget, gm_lset, gm_nl, gm_ent, gm_wd, gm_pop, gm_pad, gm_xl_c, gm_alen_u, gm_1_sF, gm_1_sA, gm_1_cp, gm_len_sF, gm_len_sA, gm_len_cp, Bool.or_true, Bool.true_or, gm_max_u, gm_min_u, gm_isO_sF, gm_isO_sA, gm_isO_cp, gm_gF_sF, gm_gF_sA, gm_gA_sF, gm_gA_sA, gm_gF_cp, gm_gA_cp, gm_add, gm_sub, gm_mul, gm_neg, ↓reduceIte, Nat.reduceAdd, Nat.reduceLeDiff, true_and, and_true, and_self, true_or, or_true, false_and, and_false, false_or, or_false, eq_self, Nat.reduceEqDiff, Int.reduceEq, Int.reduceLT, Int.reduceLE, Int.reduceNeg, Int.reduceAdd, Int.reduceSub, Int.reduceMul, Int.reduceDiv, Int.reduceMod, reduceCtorEq, if_true, if_false, xX8_within_0, xX8_within_1, xX8_within_2]
  split
  · rfl
  · split
    · rfl
    · rfl
theorem r_X8_isLight (d : Nat) (m : Int) (M : gm_M) (hm : gm_i m) : gm_go (d + 1) 91 [.inl m] M = some (some (.inl (if m < 14 then 1 else 0)), M) := by
  rw [eX8_isLight _ _ _ (Nat.le_of_ble_eq_true rfl)]
  simp only [gm_push, gm_iload, gm_lload, gm_aload, gm_istore, gm_astore, gm_iinc, gm_op2, gm_quo, gm_op1, gm_lop2, gm_lshl, gm_i2l, gm_l2i, gm_lcmp, gm_dup, gm_pop1, gm_dup2, gm_goto, gm_ifeq, gm_ifne, gm_iflt, gm_ifge, gm_ifgt, gm_ifle, gm_ceq, gm_cne, gm_clt, gm_cge, gm_cgt, gm_cle, gm_ifnull, gm_ifnonnull, gm_swk, gm_switch, gm_getI, gm_getR, gm_putI, gm_putZ, gm_putR, gm_new, gm_newarr, gm_iald, gm_cald, gm_zald, gm_lald, gm_aald, gm_iast, gm_cast, gm_zast, gm_last, gm_aast, gm_acp, gm_oinit, gm_back, gm_scall, gm_vcall, gm_iret, gm_zret, gm_cret, gm_lret, gm_aret, gm_vret, gm_slen, gm_schar, gm_sidx, gm_lget, gm_lset, gm_nl, gm_ent, gm_wd, gm_pop, gm_pad, gm_xl_c, gm_alen_u, gm_1_sF, gm_1_sA, gm_1_cp, gm_len_sF, gm_len_sA, gm_len_cp, Bool.or_true, Bool.true_or, gm_max_u, gm_min_u, gm_isO_sF, gm_isO_sA, gm_isO_cp, gm_gF_sF, gm_gF_sA, gm_gA_sF, gm_gA_sA, gm_gF_cp, gm_gA_cp, gm_add, gm_sub, gm_mul, gm_neg, ↓reduceIte, Nat.reduceAdd, Nat.reduceLeDiff, true_and, and_true, and_self, true_or, or_true, false_and, and_false, false_or, or_false, eq_self, Nat.reduceEqDiff, Int.reduceEq, Int.reduceLT, Int.reduceLE, Int.reduceNeg, Int.reduceAdd, Int.reduceSub, Int.reduceMul, Int.reduceDiv, Int.reduceMod, reduceCtorEq, if_true, if_false, xX8_isLight_0, xX8_isLight_1, xX8_isLight_2, gm_wi hm, gm_w_id (x := 14) (by decide) (by decide)]
  split <;> rfl
theorem r_X5_seep (d : Nat) (o : Int) (M : gm_M) (ho : gm_isO 5 M o = true) (h1 : gm_i (gm_gF M 500 o - gm_gF M 502 o)) : gm_go (d + 1) 38 [.inr (.inr o)] M = some (none, gm_sF M 500 o (max 0 (gm_gF M 500 o - gm_gF M 502 o))) := by
  rw [eX5_seep _ _ _ (Nat.le_of_ble_eq_true rfl)]
  simp only [gm_push, gm_iload, gm_lload, gm_aload, gm_istore, gm_astore, gm_iinc, gm_op2, gm_quo, gm_op1, gm_lop2, gm_lshl, gm_i2l, gm_l2i, gm_lcmp, gm_dup, gm_pop1, gm_dup2, gm_goto, gm_ifeq, gm_ifne, gm_iflt, gm_ifge, gm_ifgt, gm_ifle, gm_ceq, gm_cne, gm_clt, gm_cge, gm_cgt, gm_cle, gm_ifnull, gm_ifnonnull, gm_swk, gm_switch, gm_getI, gm_getR, gm_putI, gm_putZ, gm_putR, gm_new, gm_newarr, gm_iald, gm_cald, gm_zald, gm_lald, gm_aald, gm_iast, gm_cast, gm_zast, gm_last, gm_aast, gm_acp, gm_oinit, gm_back, gm_scall, gm_vcall, gm_iret, gm_zret, gm_cret, gm_lret, gm_aret, gm_vret, gm_slen, gm_schar, gm_sidx, gm_lget, gm_lset, gm_nl, gm_ent, gm_wd, gm_pop, gm_pad, gm_xl_c, gm_alen_u, gm_1_sF, gm_1_sA, gm_1_cp, gm_len_sF, gm_len_sA, gm_len_cp, Bool.or_true, Bool.true_or, gm_max_u, gm_min_u, gm_isO_sF, gm_isO_sA, gm_isO_cp, gm_gF_sF, gm_gF_sA, gm_gA_sF, gm_gA_sA, gm_gF_cp, gm_gA_cp, gm_add, gm_sub, gm_mul, gm_neg, ↓reduceIte, Nat.reduceAdd, Nat.reduceLeDiff, true_and, and_true, and_self, true_or, or_true, false_and, and_false, false_or, or_false, eq_self, Nat.reduceEqDiff, Int.reduceEq, Int.reduceLT, Int.reduceLE, Int.reduceNeg, Int.reduceAdd, Int.reduceSub, Int.reduceMul, Int.reduceDiv, Int.reduceMod, reduceCtorEq, if_true, if_false, xX5_seep_0, ho, gm_mx_id (x := 0) (by decide) h1]
theorem r_X5_takeIn (d : Nat) (o c : Int) (M : gm_M) (ho : gm_isO 5 M o = true) (hc : gm_i c) (h1 : gm_i (gm_gF M 501 o - gm_gF M 500 o)) : gm_go (d + 1) 39 [.inr (.inr o), .inl c] M = some (some (.inl (min c (max 0 (gm_gF M 501 o - gm_gF M 500 o)))), gm_sF M 500 o (gm_gF M 500 o + min c (max 0 (gm_gF M 501 o - gm_gF M 500 o)))) := by
  rw [eX5_takeIn _ _ _ (Nat.le_of_ble_eq_true rfl)]
  have h2 : gm_i (max 0 (gm_gF M 501 o - gm_gF M 500 o)) := by unfold gm_i at *; omega
  simp only [gm_push, gm_iload, gm_lload, gm_aload, gm_istore, gm_astore, gm_iinc, gm_op2, gm_quo, gm_op1, gm_lop2, gm_lshl, gm_i2l, gm_l2i, gm_lcmp, gm_dup, gm_pop1, gm_dup2, gm_goto, gm_ifeq, gm_ifne, gm_iflt, gm_ifge, gm_ifgt, gm_ifle, gm_ceq, gm_cne, gm_clt, gm_cge, gm_cgt, gm_cle, gm_ifnull, gm_ifnonnull, gm_swk, gm_switch, gm_getI, gm_getR, gm_putI, gm_putZ, gm_putR, gm_new, gm_newarr, gm_iald, gm_cald, gm_zald, gm_lald, gm_aald, gm_iast, gm_cast, gm_zast, gm_last, gm_aast, gm_acp, gm_oinit, gm_back, gm_scall, gm_vcall, gm_iret, gm_zret, gm_cret, gm_lret, gm_aret, gm_vret, gm_slen, gm_schar, gm_sidx, gm_lget, gm_lset, gm_nl, gm_ent, gm_wd, gm_pop, gm_pad, gm_xl_c, gm_alen_u, gm_1_sF, gm_1_sA, gm_1_cp, gm_len_sF, gm_len_sA, gm_len_cp, Bool.or_true, Bool.true_or, gm_max_u, gm_min_u, gm_isO_sF, gm_isO_sA, gm_isO_cp, gm_gF_sF, gm_gF_sA, gm_gA_sF, gm_gA_sA, gm_gF_cp, gm_gA_cp, gm_add, gm_sub, gm_mul, gm_neg, ↓reduceIte, Nat.reduceAdd, Nat.reduceLeDiff, true_and, and_true, and_self, true_or, or_true, false_and, and_false, false_or, or_false, eq_self, Nat.reduceEqDiff, Int.reduceEq, Int.reduceLT, Int.reduceLE, Int.reduceNeg, Int.reduceAdd, Int.reduceSub, Int.reduceMul, Int.reduceDiv, Int.reduceMod, reduceCtorEq, if_true, if_false, xX5_takeIn_0, ho, gm_mx_id (x := 0) (by decide) h1, gm_mn_id hc h2]
theorem r_X5_giveOut (d : Nat) (o c : Int) (M : gm_M) (ho : gm_isO 5 M o = true) (hc : gm_i c) (h1 : gm_i (gm_gF M 500 o)) : gm_go (d + 1) 40 [.inr (.inr o), .inl c] M = some (some (.inl (min c (gm_gF M 500 o))), gm_sF M 500 o (gm_gF M 500 o - min c (gm_gF M 500 o))) := by
  rw [eX5_giveOut _ _ _ (Nat.le_of_ble_eq_true rfl)]
  simp only [gm_push, gm_iload, gm_lload, gm_aload, gm_istore, gm_astore, gm_iinc, gm_op2, gm_quo, gm_op1, gm_lop2, gm_lshl, gm_i2l, gm_l2i, gm_lcmp, gm_dup, gm_pop1, gm_dup2, gm_goto, gm_ifeq, gm_ifne, gm_iflt, gm_ifge, gm_ifgt, gm_ifle, gm_ceq, gm_cne, gm_clt, gm_cge, gm_cgt, gm_cle, gm_ifnull, gm_ifnonnull, gm_swk, gm_switch, gm_getI, gm_getR, gm_putI, gm_putZ, gm_putR, gm_new, gm_newarr, gm_iald, gm_cald, gm_zald, gm_lald, gm_aald, gm_iast, gm_cast, gm_zast, gm_last, gm_aast, gm_acp, gm_oinit, gm_back, gm_scall, gm_vcall, gm_iret, gm_zret, gm_cret, gm_lret, gm_aret, gm_vret, gm_slen, gm_schar, gm_sidx, gm_lget, gm_lset, gm_nl, gm_ent, gm_wd, gm_pop, gm_pad, gm_xl_c, gm_alen_u, gm_1_sF, gm_1_sA, gm_1_cp, gm_len_sF, gm_len_sA, gm_len_cp, Bool.or_true, Bool.true_or, gm_max_u, gm_min_u, gm_isO_sF, gm_isO_sA, gm_isO_cp, gm_gF_sF, gm_gF_sA, gm_gA_sF, gm_gA_sA, gm_gF_cp, gm_gA_cp, gm_add, gm_sub, gm_mul, gm_neg, ↓reduceIte, Nat.reduceAdd, Nat.reduceLeDiff, true_and, and_true, and_self, true_or, or_true, false_and, and_false, false_or, or_false, eq_self, Nat.reduceEqDiff, Int.reduceEq, Int.reduceLT, Int.reduceLE, Int.reduceNeg, Int.reduceAdd, Int.reduceSub, Int.reduceMul, Int.reduceDiv, Int.reduceMod, reduceCtorEq, if_true, if_false, xX5_giveOut_0, ho, gm_mn_id hc h1]

/-- GAIN, by what sun and cold are -/
def gm_gain (kind v row sun cold : Int) : Int :=
  if kind = 1 then 2 * sun - cold else if kind = 3 then gm_div sun 2 - cold else if kind = 4 then 2 * sun - cold + v else if kind = 5 then gm_div (sun - cold) 2 else if kind = 6 then gm_div sun 2 - cold + row - 4 else sun - cold
theorem gm_sF_sF (M : gm_M) (f : Nat) (o a b : Int) : gm_sF (gm_sF M f o a) f o b = gm_sF M f o b := by
  unfold gm_sF
  refine congrArg (fun q => (M.1, q, M.2.2)) ?_
  funext f' o'
  simp only
  split
  · rfl
  · rfl
theorem gm_sF_cm (M : gm_M) (f g : Nat) (o q a b : Int) (h : f ≠ g) : gm_sF (gm_sF M f o a) g q b = gm_sF (gm_sF M g q b) f o a := by
  unfold gm_sF
  refine congrArg (fun q => (M.1, q, M.2.2)) ?_
  funext f' o'
  simp only
  by_cases h1 : f' = f
  · have h2 : ¬ f' = g := fun z => h (h1.symm.trans z)
    simp [h2]
  · simp [h1]
theorem gm_sF_id (M : gm_M) (f : Nat) (o : Int) {v : Int} (h : gm_gF M f o = v) : gm_sF M f o v = M := by
  subst h
  unfold gm_sF
  obtain ⟨a, b, c⟩ := M
  refine congrArg (fun q => (a, q, c)) ?_
  funext f' o'
  simp only [gm_gF]
  split
  · next h => rw [h.1, h.2]
  · rfl
/-- a house's warmth and its store's content become -/
def gm_hs (M : gm_M) (o st w h : Int) : gm_M := gm_sF (gm_sF M 203 o w) 500 st h
/-- behind heat and gain: the store takes in or gives out -/
def gm_stl (high low room w h : Int) : Int × Int :=
  if high < w then (w - min (w - high) (max 0 (room - h)), h + min (w - high) (max 0 (room - h)))
  else if w < low then (w + min (low - w) h, h - min (low - w) h)
  else (w, h)
theorem gm_hs_1 (M : gm_M) (o st a h w : Int) : gm_sF (gm_sF (gm_sF M 203 o a) 500 st h) 203 o w = gm_hs M o st w h := by
  rw [gm_sF_cm _ 500 203 _ _ _ _ (by decide), gm_sF_sF]
  rfl
theorem gm_hs_2 (M : gm_M) (o st w : Int) : gm_sF M 203 o w = gm_hs M o st w (gm_gF M 500 st) := by
  unfold gm_hs
  rw [gm_sF_id (gm_sF M 203 o w) 500 st (v := gm_gF M 500 st) rfl]
def gm_am (high low w : Int) : Int := if high < w then 1 else if w < low then 1 else 0
theorem r_X2_settle (d : Nat) (o g x st : Int) (M : gm_M) (ho : gm_isO 2 M o = true) (hg : gm_isO 1 M g = true) (hs : gm_isO 5 M st = true)
    (b1 : 0 ≤ gm_gF M 203 o ∧ gm_gF M 203 o ≤ 199) (b2 : -50000 ≤ x ∧ x ≤ 50000) (b3 : 0 ≤ gm_gF M 103 g ∧ gm_gF M 103 g ≤ 99) (b4 : 0 ≤ gm_gF M 102 g ∧ gm_gF M 102 g ≤ 99) (b5 : 0 ≤ gm_gF M 500 st ∧ gm_gF M 500 st ≤ 5000) (b6 : 0 ≤ gm_gF M 501 st ∧ gm_gF M 501 st ≤ 5000)
    {W Hn : Int} (hW : gm_stl (gm_gF M 103 g) (gm_gF M 102 g) (gm_gF M 501 st) (max 0 (min 199 (gm_gF M 203 o + x))) (gm_gF M 500 st) = (W, Hn)) :
    gm_go (d + 2) 16 [.inr (.inr o), .inr (.inr g), .inl x, .inr (.inr st)] M = some (some (.inl (gm_am (gm_gF M 103 g) (gm_gF M 102 g) W)), gm_hs M o st W Hn) := by
  rw [eX2_settle _ _ _ (Nat.le_of_ble_eq_true rfl)]
  generalize hw1 : max 0 (min 199 (gm_gF M 203 o + x)) = w1 at hW
  have bw : 0 ≤ w1 ∧ w1 ≤ 199 := by omega
  have e1 : gm_mx 0 (gm_mn 199 (gm_gF M 203 o + x)) = w1 := by
    rw [gm_mn_id (by decide) (by unfold gm_i; omega), gm_mx_id (by decide) (by unfold gm_i; omega), hw1]
  unfold gm_stl at hW
  by_cases h1 : gm_gF M 103 g < w1
  · rw [if_pos h1] at hW
    cases hW
    simp (config := { maxSteps := 2000000 }) (disch := first | omega | (simp only [gm_isO_sF, gm_isO_sA, gm_gF_sF, gm_gF_sA, gm_i, Nat.reduceEqDiff, false_and, and_false, ↓reduceIte, *]; first | done | omega)) only [gm_push, gm_iload, gm_lload, gm_aload, gm_istore, gm_astore, gm_iinc, gm_op2, gm_quo, gm_op1, gm_lop2, gm_lshl, gm_i2l, gm_l2i, gm_lcmp, gm_dup, gm_pop1, gm_dup2, gm_goto, gm_ifeq, gm_ifne, gm_iflt, gm_ifge, gm_ifgt, gm_ifle, gm_ceq, gm_cne, gm_clt, gm_cge, gm_cgt, gm_cle, gm_ifnull, gm_ifnonnull, gm_swk, gm_switch, gm_getI, gm_getR, gm_putI, gm_putZ, gm_putR, gm_new, gm_newarr, gm_iald, gm_cald, gm_zald, gm_lald, gm_aald, gm_iast, gm_cast, gm_zast, gm_last, gm_aast, gm_acp, gm_oinit, gm_back, gm_scall, gm_vcall, gm_iret, gm_zret, gm_cret, gm_lret, gm_aret, gm_vret, gm_slen, gm_schar, gm_sidx, gm_lget, gm_lset, gm_nl, gm_ent, gm_wd, gm_pop, gm_pad, gm_xl_c, gm_alen_u, gm_1_sF, gm_1_sA, gm_1_cp, gm_len_sF, gm_len_sA, gm_len_cp, Bool.or_true, Bool.true_or, gm_max_u, gm_min_u, gm_isO_sF, gm_isO_sA, gm_isO_cp, gm_gF_sF, gm_gF_sA, gm_gA_sF, gm_gA_sA, gm_gF_cp, gm_gA_cp, gm_add, gm_sub, gm_mul, gm_neg, ↓reduceIte, Nat.reduceAdd, Nat.reduceLeDiff, true_and, and_true, and_self, true_or, or_true, false_and, and_false, false_or, or_false, eq_self, Nat.reduceEqDiff, Int.reduceEq, Int.reduceLT, Int.reduceLE, Int.reduceNeg, Int.reduceAdd, Int.reduceSub, Int.reduceMul, Int.reduceDiv, Int.reduceMod, reduceCtorEq, if_true, if_false, gm_w_id, xX2_settle_0, xX2_settle_1, xX2_settle_2, xX2_settle_3, xX2_settle_4, xX2_settle_5, ho, hg, hs, e1, r_X5_takeIn, h1]
    simp only [gm_hs_1]
    unfold gm_am
    (repeat' split) <;> rfl
  · rw [if_neg h1] at hW
    by_cases h2 : w1 < gm_gF M 102 g
    · rw [if_pos h2] at hW
      cases hW
      simp (config := { maxSteps := 2000000 }) (disch := first | omega | (simp only [gm_isO_sF, gm_isO_sA, gm_gF_sF, gm_gF_sA, gm_i, Nat.reduceEqDiff, false_and, and_false, ↓reduceIte, *]; first | done | omega)) only [gm_push, gm_iload, gm_lload, gm_aload, gm_istore, gm_astore, gm_iinc, gm_op2, gm_quo, gm_op1, gm_lop2, gm_lshl, gm_i2l, gm_l2i, gm_lcmp, gm_dup, gm_pop1, gm_dup2, gm_goto, gm_ifeq, gm_ifne, gm_iflt, gm_ifge, gm_ifgt, gm_ifle, gm_ceq, gm_cne, gm_clt, gm_cge, gm_cgt, gm_cle, gm_ifnull, gm_ifnonnull, gm_swk, gm_switch, gm_getI, gm_getR, gm_putI, gm_putZ, gm_putR, gm_new, gm_newarr, gm_iald, gm_cald, gm_zald, gm_lald, gm_aald, gm_iast, gm_cast, gm_zast, gm_last, gm_aast, gm_acp, gm_oinit, gm_back, gm_scall, gm_vcall, gm_iret, gm_zret, gm_cret, gm_lret, gm_aret, gm_vret, gm_slen, gm_schar, gm_sidx, gm_lget, gm_lset, gm_nl, gm_ent, gm_wd, gm_pop, gm_pad, gm_xl_c, gm_alen_u, gm_1_sF, gm_1_sA, gm_1_cp, gm_len_sF, gm_len_sA, gm_len_cp, Bool.or_true, Bool.true_or, gm_max_u, gm_min_u, gm_isO_sF, gm_isO_sA, gm_isO_cp, gm_gF_sF, gm_gF_sA, gm_gA_sF, gm_gA_sA, gm_gF_cp, gm_gA_cp, gm_add, gm_sub, gm_mul, gm_neg, ↓reduceIte, Nat.reduceAdd, Nat.reduceLeDiff, true_and, and_true, and_self, true_or, or_true, false_and, and_false, false_or, or_false, eq_self, Nat.reduceEqDiff, Int.reduceEq, Int.reduceLT, Int.reduceLE, Int.reduceNeg, Int.reduceAdd, Int.reduceSub, Int.reduceMul, Int.reduceDiv, Int.reduceMod, reduceCtorEq, if_true, if_false, gm_w_id, xX2_settle_0, xX2_settle_1, xX2_settle_2, xX2_settle_3, xX2_settle_4, xX2_settle_5, ho, hg, hs, e1, r_X5_giveOut, h1, h2]
      simp only [gm_hs_1]
      unfold gm_am
      (repeat' split) <;> rfl
    · rw [if_neg h2] at hW
      cases hW
      simp (config := { maxSteps := 2000000 }) (disch := first | omega | (simp only [gm_isO_sF, gm_isO_sA, gm_gF_sF, gm_gF_sA, gm_i, Nat.reduceEqDiff, false_and, and_false, ↓reduceIte, *]; first | done | omega)) only [gm_push, gm_iload, gm_lload, gm_aload, gm_istore, gm_astore, gm_iinc, gm_op2, gm_quo, gm_op1, gm_lop2, gm_lshl, gm_i2l, gm_l2i, gm_lcmp, gm_dup, gm_pop1, gm_dup2, gm_goto, gm_ifeq, gm_ifne, gm_iflt, gm_ifge, gm_ifgt, gm_ifle, gm_ceq, gm_cne, gm_clt, gm_cge, gm_cgt, gm_cle, gm_ifnull, gm_ifnonnull, gm_swk, gm_switch, gm_getI, gm_getR, gm_putI, gm_putZ, gm_putR, gm_new, gm_newarr, gm_iald, gm_cald, gm_zald, gm_lald, gm_aald, gm_iast, gm_cast, gm_zast, gm_last, gm_aast, gm_acp, gm_oinit, gm_back, gm_scall, gm_vcall, gm_iret, gm_zret, gm_cret, gm_lret, gm_aret, gm_vret, gm_slen, gm_schar, gm_sidx, gm_lget, gm_lset, gm_nl, gm_ent, gm_wd, gm_pop, gm_pad, gm_xl_c, gm_alen_u, gm_1_sF, gm_1_sA, gm_1_cp, gm_len_sF, gm_len_sA, gm_len_cp, Bool.or_true, Bool.true_or, gm_max_u, gm_min_u, gm_isO_sF, gm_isO_sA, gm_isO_cp, gm_gF_sF, gm_gF_sA, gm_gA_sF, gm_gA_sA, gm_gF_cp, gm_gA_cp, gm_add, gm_sub, gm_mul, gm_neg, ↓reduceIte, Nat.reduceAdd, Nat.reduceLeDiff, true_and, and_true, and_self, true_or, or_true, false_and, and_false, false_or, or_false, eq_self, Nat.reduceEqDiff, Int.reduceEq, Int.reduceLT, Int.reduceLE, Int.reduceNeg, Int.reduceAdd, Int.reduceSub, Int.reduceMul, Int.reduceDiv, Int.reduceMod, reduceCtorEq, if_true, if_false, gm_w_id, xX2_settle_0, xX2_settle_1, xX2_settle_2, xX2_settle_3, xX2_settle_4, xX2_settle_5, ho, hg, hs, e1, r_X5_takeIn, h1, h2]
      rw [← gm_hs_2, gm_am, if_neg h1, if_neg h2]
