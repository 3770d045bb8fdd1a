/-! GROUND: the class reads a clause -/
def gn_ok (r : Option gn_X) : Int := match r with
  | some _ => 1
  | none => 0
theorem r_X0_addStep {D : Nat} (hD : 1 ≤ D) {c p x y : Int} {M : gm_M} (hL : gm_Lay M) (hO : gm_isO 0 M c = true) (hc : 94 ≤ c ∧ c ≤ 135) (S : List (Int × Int)) (hS : (S.length : Int) < 100) : gm_go D 2 [.inr (.inr c), .inl x, .inl y] (gn_K c M p S) = some (some (.inl (S.length : Int)), gn_K c M p (S ++ [(x, y)])) := by
  obtain ⟨d, rfl⟩ : ∃ g, D = g + 1 := ⟨D - 1, by omega⟩
  rw [eX0_addStep _ _ _ (Nat.le_of_ble_eq_true rfl)]
  have hLK : gm_Lay (gn_K c M p S) := gn_K_Lay hL hc
  have l0 := gm_l0 hLK hO
  have l1 := gm_l1 hLK hO
  have k0 := gm_k0 hLK hO
  have k1 := gm_k1 hLK hO
  have n0 : ∀ M' : gm_M, gm_len M' (c + 1) = 100 := fun M' => (gn_len_e (by omega)).trans (gm_n0 hL hO)
  have n1 : ∀ M' : gm_M, gm_len M' (c + 2) = 100 := fun M' => (gn_len_e (by omega)).trans (gm_n1 hL hO)
  have f2 : gm_gF (gn_K c M p S) 2 c = (S.length : Int) := by rw [gn_K_F, if_neg (by omega), if_pos ⟨rfl, rfl⟩]
  have f2' : gm_gF (gn_K c M p (S ++ [(x, y)])) 2 c = (S.length : Int) + 1 := by rw [gn_K_F, if_neg (by omega), if_pos ⟨rfl, rfl⟩]; simp
  have i0 : ∀ M' : gm_M, gm_in M' (c + 1) (S.length : Int) = true := fun M' => gm_inI (n0 M') (by omega) hS (by decide)
  have i1 : ∀ M' : gm_M, gm_in M' (c + 2) (S.length : Int) = true := fun M' => gm_inI (n1 M') (by omega) hS (by decide)
  have ha3 := gm_alen_k 20 (by decide)
  simp (config := { maxSteps := 2000000 }) (disch := first | omega | assumption | (simp only [gm_isO_sF, gm_isO_sA, gm_isO_cp]; assumption)) only [gm_push, gm_iload, gm_lload, gm_aload, gm_istore, gm_astore, gm_iinc, gm_op2, gm_quo, gm_op1, gm_lop2, gm_lshl, gm_i2l, gm_l2i, gm_lcmp, gm_dup, gm_pop1, gm_dup2, gm_goto, gm_ifeq, gm_ifne, gm_iflt, gm_ifge, gm_ifgt, gm_ifle, gm_ceq, gm_cne, gm_clt, gm_cge, gm_cgt, gm_cle, gm_ifnull, gm_ifnonnull, gm_swk, gm_switch, gm_getI, gm_getR, gm_putI, gm_putZ, gm_putR, gm_new, gm_newarr, gm_iald, gm_cald, gm_zald, gm_lald, gm_aald, gm_iast, gm_cast, gm_zast, gm_last, gm_aast, gm_acp, gm_oinit, gm_back, gm_scall, gm_vcall, gm_iret, gm_zret, gm_cret, gm_lret, gm_aret, gm_vret, gm_slen, gm_schar, gm_sidx, gm_lget, gm_lset, gm_nl, gm_ent, gm_wd, gm_pop, gm_pad, gm_xl_c, gm_alen_u, gm_1_sF, gm_1_sA, gm_1_cp, gm_len_sF, gm_len_sA, gm_len_cp, Bool.or_true, Bool.true_or, gm_max_u, gm_min_u, gm_isO_sF, gm_isO_sA, gm_isO_cp, gm_gF_sF, gm_gF_sA, gm_gA_sF, gm_gA_sA, gm_gF_cp, gm_gA_cp, gm_add, gm_sub, gm_mul, gm_neg, ↓reduceIte, Nat.reduceAdd, Nat.reduceLeDiff, true_and, and_true, and_self, true_or, or_true, false_and, and_false, false_or, or_false, eq_self, Nat.reduceEqDiff, Int.reduceEq, Int.reduceLT, Int.reduceLE, Int.reduceNeg, Int.reduceAdd, Int.reduceSub, Int.reduceMul, Int.reduceDiv, Int.reduceMod, reduceCtorEq, if_true, if_false, gm_w_id, xX0_addStep_0, xX0_addStep_1, gm_iast, hO, gn_K_O, l0, l1, k0, k1, n0, n1, f2, f2', i0, i1, ha3, hS, gn_K_s, Int.add_sub_cancel]
/-- a jump that waits, landed -/
def gn_ld (j : Int) (S1 S2 : List (Int × Int)) : Prop := j = -1 ∧ S2 = S1 ∨ ∃ A x y B, S1 = A ++ (x, y) :: B ∧ j = (A.length : Int) ∧ S2 = A ++ (x, (S1.length : Int)) :: B
theorem r_X0_landHere {D : Nat} (hD : 1 ≤ D) {c p j : Int} {M : gm_M} (hL : gm_Lay M) (hO : gm_isO 0 M c = true) (hc : 94 ≤ c ∧ c ≤ 135) {S1 S2 : List (Int × Int)} (hS : (S1.length : Int) ≤ 100) (h : gn_ld j S1 S2) : gm_go D 4 [.inr (.inr c), .inl j] (gn_K c M p S1) = some (none, gn_K c M p S2) := by
  obtain ⟨d, rfl⟩ : ∃ g, D = g + 1 := ⟨D - 1, by omega⟩
  rw [eX0_landHere _ _ _ (Nat.le_of_ble_eq_true rfl)]
  rcases h with ⟨rfl, rfl⟩ | ⟨A, x, y, B, h1, rfl, h3⟩
  · simp (config := { maxSteps := 2000000 }) (disch := first | omega | assumption | (simp only [gm_isO_sF, gm_isO_sA, gm_isO_cp]; assumption)) only [gm_push, gm_iload, gm_lload, gm_aload, gm_istore, gm_astore, gm_iinc, gm_op2, gm_quo, gm_op1, gm_lop2, gm_lshl, gm_i2l, gm_l2i, gm_lcmp, gm_dup, gm_pop1, gm_dup2, gm_goto, gm_ifeq, gm_ifne, gm_iflt, gm_ifge, gm_ifgt, gm_ifle, gm_ceq, gm_cne, gm_clt, gm_cge, gm_cgt, gm_cle, gm_ifnull, gm_ifnonnull, gm_swk, gm_switch, gm_getI, gm_getR, gm_putI, gm_putZ, gm_putR, gm_new, gm_newarr, gm_iald, gm_cald, gm_zald, gm_lald, gm_aald, gm_iast, gm_cast, gm_zast, gm_last, gm_aast, gm_acp, gm_oinit, gm_back, gm_scall, gm_vcall, gm_iret, gm_zret, gm_cret, gm_lret, gm_aret, gm_vret, gm_slen, gm_schar, gm_sidx, gm_lget, gm_lset, gm_nl, gm_ent, gm_wd, gm_pop, gm_pad, gm_xl_c, gm_alen_u, gm_1_sF, gm_1_sA, gm_1_cp, gm_len_sF, gm_len_sA, gm_len_cp, Bool.or_true, Bool.true_or, gm_max_u, gm_min_u, gm_isO_sF, gm_isO_sA, gm_isO_cp, gm_gF_sF, gm_gF_sA, gm_gA_sF, gm_gA_sA, gm_gF_cp, gm_gA_cp, gm_add, gm_sub, gm_mul, gm_neg, ↓reduceIte, Nat.reduceAdd, Nat.reduceLeDiff, true_and, and_true, and_self, true_or, or_true, false_and, and_false, false_or, or_false, eq_self, Nat.reduceEqDiff, Int.reduceEq, Int.reduceLT, Int.reduceLE, Int.reduceNeg, Int.reduceAdd, Int.reduceSub, Int.reduceMul, Int.reduceDiv, Int.reduceMod, reduceCtorEq, if_true, if_false, gm_w_id, xX0_landHere_0, xX0_landHere_1]
  · have hl : (S1.length : Int) = (A.length : Int) + (B.length : Int) + 1 := by rw [h1]; simp; omega
    have hLK : gm_Lay (gn_K c M p S1) := gn_K_Lay hL hc
    have l1 := gm_l1 hLK hO
    have k1 := gm_k1 hLK hO
    have n1 : ∀ M' : gm_M, gm_len M' (c + 2) = 100 := fun M' => (gn_len_e (by omega)).trans (gm_n1 hL hO)
    have f2 : gm_gF (gn_K c M p S1) 2 c = (S1.length : Int) := by rw [gn_K_F, if_neg (by omega), if_pos ⟨rfl, rfl⟩]
    have i1 : ∀ M' : gm_M, gm_in M' (c + 2) (A.length : Int) = true := fun M' => gm_inI (n1 M') (by omega) (by omega) (by decide)
    have c0 : ¬ (A.length : Int) < 0 := by omega
    have c1 : (A.length : Int) < (S1.length : Int) := by omega
    have e := gn_K_l c M p x y (S1.length : Int) A B
    rw [← h1, ← h3] at e
    simp (config := { maxSteps := 2000000 }) (disch := first | omega | assumption | (simp only [gm_isO_sF, gm_isO_sA, gm_isO_cp]; assumption)) only [gm_push, gm_iload, gm_lload, gm_aload, gm_istore, gm_astore, gm_iinc, gm_op2, gm_quo, gm_op1, gm_lop2, gm_lshl, gm_i2l, gm_l2i, gm_lcmp, gm_dup, gm_pop1, gm_dup2, gm_goto, gm_ifeq, gm_ifne, gm_iflt, gm_ifge, gm_ifgt, gm_ifle, gm_ceq, gm_cne, gm_clt, gm_cge, gm_cgt, gm_cle, gm_ifnull, gm_ifnonnull, gm_swk, gm_switch, gm_getI, gm_getR, gm_putI, gm_putZ, gm_putR, gm_new, gm_newarr, gm_iald, gm_cald, gm_zald, gm_lald, gm_aald, gm_iast, gm_cast, gm_zast, gm_last, gm_aast, gm_acp, gm_oinit, gm_back, gm_scall, gm_vcall, gm_iret, gm_zret, gm_cret, gm_lret, gm_aret, gm_vret, gm_slen, gm_schar, gm_sidx, gm_lget, gm_lset, gm_nl, gm_ent, gm_wd, gm_pop, gm_pad, gm_xl_c, gm_alen_u, gm_1_sF, gm_1_sA, gm_1_cp, gm_len_sF, gm_len_sA, gm_len_cp, Bool.or_true, Bool.true_or, gm_max_u, gm_min_u, gm_isO_sF, gm_isO_sA, gm_isO_cp, gm_gF_sF, gm_gF_sA, gm_gA_sF, gm_gA_sA, gm_gF_cp, gm_gA_cp, gm_add, gm_sub, gm_mul, gm_neg, ↓reduceIte, Nat.reduceAdd, Nat.reduceLeDiff, true_and, and_true, and_self, true_or, or_true, false_and, and_false, false_or, or_false, eq_self, Nat.reduceEqDiff, Int.reduceEq, Int.reduceLT, Int.reduceLE, Int.reduceNeg, Int.reduceAdd, Int.reduceSub, Int.reduceMul, Int.reduceDiv, Int.reduceMod, reduceCtorEq, if_true, if_false, gm_w_id, xX0_landHere_0, xX0_landHere_1, gm_iast, hO, gn_K_O, l1, k1, f2, i1, c0, c1, e]
theorem gn_le_c0 (t : Int → Int) (n p : Int) : gn_le (gn_c0 t n p) = gn_le (gn_ch t n p) := by
  unfold gn_c0 gn_ch
  by_cases c : p < n
  · rw [if_pos c, if_pos c]
  · rw [if_neg c, if_neg c]; rfl
theorem gn_c0_ch {t : Int → Int} {n p s : Int} (hs : 0 < s) : gn_c0 t n p = s ↔ gn_ch t n p = s := by
  unfold gn_c0 gn_ch
  by_cases c : p < n
  · rw [if_pos c, if_pos c]
  · rw [if_neg c, if_neg c]; omega
theorem gn_sg (c : Int) : gm_ixo c 0 [60, 61, 62] = if 60 ≤ c ∧ c ≤ 62 then c - 60 else -1 := by
  simp only [gm_ixo]
  by_cases c0 : c = 60
  · subst c0; rfl
  · rw [if_neg c0]
    by_cases c1 : c = 61
    · subst c1; rfl
    · rw [if_neg c1]
      by_cases c2 : c = 62
      · subst c2; rfl
      · rw [if_neg c2, if_neg (by omega)]
theorem r_X4_readTest {D : Nat} (hD : 3 ≤ D) {t : Int → Int} {n p0 p c : Int} {M : gm_M} (hR : gn_Rd t n p0 M) (hO : gm_isO 0 M c = true) (hc : 94 ≤ c ∧ c ≤ 135) (hp : 0 ≤ p ∧ p ≤ n) (S : List (Int × Int)) (hS : (S.length : Int) + (n - p) ≤ 100) : ∃ S', gm_go D 31 [.inr (.inr 81), .inr (.inr c)] (gn_K c M p S) = some (some (.inl (gn_ok (gn_ts t n p).1)), gn_K c M (gn_ts t n p).2 S') ∧ (S'.length : Int) ≤ 100 ∧ ∀ e, (gn_ts t n p).1 = some e → S' = S ++ gn_Xc e (S.length : Int) := by
  obtain ⟨d, rfl⟩ : ∃ g, D = g + 3 := ⟨D - 3, by omega⟩
  have hx7 : gm_tx 1007 = [104, 107, 118, 109, 101, 115] := rfl
  have hx8 : gm_tx 1008 = [60, 61, 62] := rfl
  have x7 : gm_isX 1007 = true := rfl
  have x8 : gm_isX 1008 = true := rfl
  have z81 := gm_z81 hR.1
  have hR0 := hR.K (S := S) hc hp
  have f0 := r_X4_nextSign (D := d + 2) (by omega) hR0
  have b0 := gn_c0_b hR p hp.1
  have hle : gm_ixo (gn_c0 t n p) 0 [104, 107, 118, 109, 101, 115] = gn_le (gn_ch t n p) := gn_le_c0 t n p
  have hlb := gn_le_b (gn_ch t n p)
  have pp : ∀ q, gm_gF (gn_K c M q S) 402 81 = q := fun q => by rw [gn_K_F, if_pos ⟨rfl, rfl⟩]
  unfold gn_ts
  by_cases c1 : gn_le (gn_ch t n p) < 0
  · rw [if_pos c1]
    refine ⟨S, ?_, by omega, fun e h => by simp at h⟩
    rw [eX4_readTest _ _ _ (Nat.le_of_ble_eq_true rfl)]
    simp (config := { maxSteps := 2000000 }) (disch := first | omega | assumption | (simp only [gm_isO_sF, gm_isO_sA, gm_isO_cp]; assumption)) only [gm_push, gm_iload, gm_lload, gm_aload, gm_istore, gm_astore, gm_iinc, gm_op2, gm_quo, gm_op1, gm_lop2, gm_lshl, gm_i2l, gm_l2i, gm_lcmp, gm_dup, gm_pop1, gm_dup2, gm_goto, gm_ifeq, gm_ifne, gm_iflt, gm_ifge, gm_ifgt, gm_ifle, gm_ceq, gm_cne, gm_clt, gm_cge, gm_cgt, gm_cle, gm_ifnull, gm_ifnonnull, gm_swk, gm_switch, gm_getI, gm_getR, gm_putI, gm_putZ, gm_putR, gm_new, gm_newarr, gm_iald, gm_cald, gm_zald, gm_lald, gm_aald, gm_iast, gm_cast, gm_zast, gm_last, gm_aast, gm_acp, gm_oinit, gm_back, gm_scall, gm_vcall, gm_iret, gm_zret, gm_cret, gm_lret, gm_aret, gm_vret, gm_slen, gm_schar, gm_sidx, gm_lget, gm_lset, gm_nl, gm_ent, gm_wd, gm_pop, gm_pad, gm_xl_c, gm_alen_u, gm_1_sF, gm_1_sA, gm_1_cp, gm_len_sF, gm_len_sA, gm_len_cp, Bool.or_true, Bool.true_or, gm_max_u, gm_min_u, gm_isO_sF, gm_isO_sA, gm_isO_cp, gm_gF_sF, gm_gF_sA, gm_gA_sF, gm_gA_sA, gm_gF_cp, gm_gA_cp, gm_add, gm_sub, gm_mul, gm_neg, ↓reduceIte, Nat.reduceAdd, Nat.reduceLeDiff, true_and, and_true, and_self, true_or, or_true, false_and, and_false, false_or, or_false, eq_self, Nat.reduceEqDiff, Int.reduceEq, Int.reduceLT, Int.reduceLE, Int.reduceNeg, Int.reduceAdd, Int.reduceSub, Int.reduceMul, Int.reduceDiv, Int.reduceMod, reduceCtorEq, if_true, if_false, gm_w_id, xX4_readTest_0, xX4_readTest_1, xX4_readTest_2, xX4_readTest_3, gm_sidx, gn_K_O, hx7, x7, z81, f0, hle, c1, gn_ok]
  · rw [if_neg c1]
    have p1 := gn_ch_lt (gn_le_0 (show 0 ≤ gn_le (gn_ch t n p) by omega))
    have hR1 := hR.K (q := p + 1) (S := S) hc (by omega)
    have f1 := r_X4_nextSign (D := d + 2) (by omega) hR1
    have b1 := gn_c0_b hR (p + 1) (by omega)
    have hsg := gn_sg (gn_c0 t n (p + 1))
    generalize hll : gn_le (gn_ch t n p) = l at *
    by_cases c2 : 60 ≤ gn_ch t n (p + 1) ∧ gn_ch t n (p + 1) ≤ 62
    · rw [if_neg (fun z => z c2)]
      have p2 := gn_ch_lt (show 0 ≤ gn_ch t n (p + 1) by omega)
      have e1 : gn_c0 t n (p + 1) = gn_ch t n (p + 1) := (gn_c0_ch (by omega)).mpr rfl
      rw [e1] at f1 hsg b1
      rw [if_pos c2] at hsg
      have hR2 := hR.K (q := p + 2) (S := S) hc (by omega)
      have f2 := r_X4_readNumber (D := d + 2) (by omega) hR2
      rw [gn_K_p] at f2
      have bn := gn_nm_b (t := t) (n := n) (p := p + 2) (by omega)
      have r2 : p + 1 + 1 = p + 2 := by omega
      generalize hss : gn_ch t n (p + 1) = s at *
      have c3 : ¬ s - 60 < 0 := by omega
      generalize hnm : gn_nm t n (p + 2) = nm at *
      by_cases c4 : nm.1 < 0
      · rw [if_pos c4]
        have q2 := bn.2.2.2.2 c4
        refine ⟨S, ?_, by omega, fun e h => by simp at h⟩
        rw [eX4_readTest _ _ _ (Nat.le_of_ble_eq_true rfl)]
        simp (config := { maxSteps := 2000000 }) (disch := first | omega | assumption | (simp only [gm_isO_sF, gm_isO_sA, gm_isO_cp]; assumption)) only [gm_push, gm_iload, gm_lload, gm_aload, gm_istore, gm_astore, gm_iinc, gm_op2, gm_quo, gm_op1, gm_lop2, gm_lshl, gm_i2l, gm_l2i, gm_lcmp, gm_dup, gm_pop1, gm_dup2, gm_goto, gm_ifeq, gm_ifne, gm_iflt, gm_ifge, gm_ifgt, gm_ifle, gm_ceq, gm_cne, gm_clt, gm_cge, gm_cgt, gm_cle, gm_ifnull, gm_ifnonnull, gm_swk, gm_switch, gm_getI, gm_getR, gm_putI, gm_putZ, gm_putR, gm_new, gm_newarr, gm_iald, gm_cald, gm_zald, gm_lald, gm_aald, gm_iast, gm_cast, gm_zast, gm_last, gm_aast, gm_acp, gm_oinit, gm_back, gm_scall, gm_vcall, gm_iret, gm_zret, gm_cret, gm_lret, gm_aret, gm_vret, gm_slen, gm_schar, gm_sidx, gm_lget, gm_lset, gm_nl, gm_ent, gm_wd, gm_pop, gm_pad, gm_xl_c, gm_alen_u, gm_1_sF, gm_1_sA, gm_1_cp, gm_len_sF, gm_len_sA, gm_len_cp, Bool.or_true, Bool.true_or, gm_max_u, gm_min_u, gm_isO_sF, gm_isO_sA, gm_isO_cp, gm_gF_sF, gm_gF_sA, gm_gA_sF, gm_gA_sA, gm_gF_cp, gm_gA_cp, gm_add, gm_sub, gm_mul, gm_neg, ↓reduceIte, Nat.reduceAdd, Nat.reduceLeDiff, true_and, and_true, and_self, true_or, or_true, false_and, and_false, false_or, or_false, eq_self, Nat.reduceEqDiff, Int.reduceEq, Int.reduceLT, Int.reduceLE, Int.reduceNeg, Int.reduceAdd, Int.reduceSub, Int.reduceMul, Int.reduceDiv, Int.reduceMod, reduceCtorEq, if_true, if_false, gm_w_id, xX4_readTest_0, xX4_readTest_1, xX4_readTest_2, xX4_readTest_3, gm_sidx, gn_K_O, gn_K_p, pp, hx7, x7, hx8, x8, z81, f0, hle, c1, f1, hsg, c3, r2, f2, c4, q2, gn_ok]
      · rw [if_neg c4]
        have f3 := r_X0_addStep (D := d + 2) (by omega) (p := nm.2) (x := 3 * l + (s - 60)) (y := nm.1) hR.1 hO hc S (by omega)
        have b5 := bn.1
        refine ⟨S ++ [(3 * l + (s - 60), nm.1)], ?_, by simp; omega, fun e h => ?_⟩
        · rw [eX4_readTest _ _ _ (Nat.le_of_ble_eq_true rfl)]
          simp (config := { maxSteps := 2000000 }) (disch := first | omega | assumption | (simp only [gm_isO_sF, gm_isO_sA, gm_isO_cp]; assumption)) only [gm_push, gm_iload, gm_lload, gm_aload, gm_istore, gm_astore, gm_iinc, gm_op2, gm_quo, gm_op1, gm_lop2, gm_lshl, gm_i2l, gm_l2i, gm_lcmp, gm_dup, gm_pop1, gm_dup2, gm_goto, gm_ifeq, gm_ifne, gm_iflt, gm_ifge, gm_ifgt, gm_ifle, gm_ceq, gm_cne, gm_clt, gm_cge, gm_cgt, gm_cle, gm_ifnull, gm_ifnonnull, gm_swk, gm_switch, gm_getI, gm_getR, gm_putI, gm_putZ, gm_putR, gm_new, gm_newarr, gm_iald, gm_cald, gm_zald, gm_lald, gm_aald, gm_iast, gm_cast, gm_zast, gm_last, gm_aast, gm_acp, gm_oinit, gm_back, gm_scall, gm_vcall, gm_iret, gm_zret, gm_cret, gm_lret, gm_aret, gm_vret, gm_slen, gm_schar, gm_sidx, gm_lget, gm_lset, gm_nl, gm_ent, gm_wd, gm_pop, gm_pad, gm_xl_c, gm_alen_u, gm_1_sF, gm_1_sA, gm_1_cp, gm_len_sF, gm_len_sA, gm_len_cp, Bool.or_true, Bool.true_or, gm_max_u, gm_min_u, gm_isO_sF, gm_isO_sA, gm_isO_cp, gm_gF_sF, gm_gF_sA, gm_gA_sF, gm_gA_sA, gm_gF_cp, gm_gA_cp, gm_add, gm_sub, gm_mul, gm_neg, ↓reduceIte, Nat.reduceAdd, Nat.reduceLeDiff, true_and, and_true, and_self, true_or, or_true, false_and, and_false, false_or, or_false, eq_self, Nat.reduceEqDiff, Int.reduceEq, Int.reduceLT, Int.reduceLE, Int.reduceNeg, Int.reduceAdd, Int.reduceSub, Int.reduceMul, Int.reduceDiv, Int.reduceMod, reduceCtorEq, if_true, if_false, gm_w_id, xX4_readTest_0, xX4_readTest_1, xX4_readTest_2, xX4_readTest_3, gm_sidx, gn_K_O, gn_K_p, pp, hx7, x7, hx8, x8, z81, f0, hle, c1, f1, hsg, c3, r2, f2, c4, f3, hO, gn_ok]
        · obtain rfl : gn_Xt l (s - 60) nm.1 = e := by simpa using h
          rfl
    · rw [if_pos c2]
      have e2 : gm_ixo (gn_c0 t n (p + 1)) 0 [60, 61, 62] = -1 := by
        rw [hsg]
        unfold gn_ch at c2
        unfold gn_c0
        by_cases z : p + 1 < n
        · rw [if_pos z] at c2 ⊢; rw [if_neg c2]
        · rw [if_neg z]; rfl
      refine ⟨S, ?_, by omega, fun e h => by simp at h⟩
      rw [eX4_readTest _ _ _ (Nat.le_of_ble_eq_true rfl)]
      simp (config := { maxSteps := 2000000 }) (disch := first | omega | assumption | (simp only [gm_isO_sF, gm_isO_sA, gm_isO_cp]; assumption)) only [gm_push, gm_iload, gm_lload, gm_aload, gm_istore, gm_astore, gm_iinc, gm_op2, gm_quo, gm_op1, gm_lop2, gm_lshl, gm_i2l, gm_l2i, gm_lcmp, gm_dup, gm_pop1, gm_dup2, gm_goto, gm_ifeq, gm_ifne, gm_iflt, gm_ifge, gm_ifgt, gm_ifle, gm_ceq, gm_cne, gm_clt, gm_cge, gm_cgt, gm_cle, gm_ifnull, gm_ifnonnull, gm_swk, gm_switch, gm_getI, gm_getR, gm_putI, gm_putZ, gm_putR, gm_new, gm_newarr, gm_iald, gm_cald, gm_zald, gm_lald, gm_aald, gm_iast, gm_cast, gm_zast, gm_last, gm_aast, gm_acp, gm_oinit, gm_back, gm_scall, gm_vcall, gm_iret, gm_zret, gm_cret, gm_lret, gm_aret, gm_vret, gm_slen, gm_schar, gm_sidx, gm_lget, gm_lset, gm_nl, gm_ent, gm_wd, gm_pop, gm_pad, gm_xl_c, gm_alen_u, gm_1_sF, gm_1_sA, gm_1_cp, gm_len_sF, gm_len_sA, gm_len_cp, Bool.or_true, Bool.true_or, gm_max_u, gm_min_u, gm_isO_sF, gm_isO_sA, gm_isO_cp, gm_gF_sF, gm_gF_sA, gm_gA_sF, gm_gA_sA, gm_gF_cp, gm_gA_cp, gm_add, gm_sub, gm_mul, gm_neg, ↓reduceIte, Nat.reduceAdd, Nat.reduceLeDiff, true_and, and_true, and_self, true_or, or_true, false_and, and_false, false_or, or_false, eq_self, Nat.reduceEqDiff, Int.reduceEq, Int.reduceLT, Int.reduceLE, Int.reduceNeg, Int.reduceAdd, Int.reduceSub, Int.reduceMul, Int.reduceDiv, Int.reduceMod, reduceCtorEq, if_true, if_false, gm_w_id, xX4_readTest_0, xX4_readTest_1, xX4_readTest_2, xX4_readTest_3, gm_sidx, gn_K_O, gn_K_p, pp, hx7, x7, hx8, x8, z81, f0, hle, c1, f1, e2, gn_ok]
/-- what the class does, for a single one -/
def gn_c1s (t : Int → Int) (n c : Int) (M : gm_M) (f : Nat) : Prop := ∀ (dep : Int) (acc : gn_X) (p : Int) (r : Option gn_X) (q : Int) (S : List (Int × Int)) (D : Nat), gn_ps t n f 0 dep acc p = some (r, q) → (0 ≤ p ∧ p ≤ n) → (0 ≤ dep ∧ dep ≤ 4) → (S.length : Int) + (n - p) ≤ 100 → 3 * (4 - dep) + 5 ≤ D → ∃ S', gm_go D 30 [.inr (.inr 81), .inr (.inr c), .inl dep] (gn_K c M p S) = some (some (.inl (gn_ok r)), gn_K c M q S') ∧ (S'.length : Int) ≤ 100 ∧ ∀ e, r = some e → S' = S ++ gn_Xc e (S.length : Int)
def gn_cch (t : Int → Int) (n c : Int) (M : gm_M) (s : Int) (m : Nat) (k : Int) (f : Nat) : Prop := ∀ (dep : Int) (acc : gn_X) (p : Int) (r : Option gn_X) (q : Int) (S : List (Int × Int)) (D : Nat), gn_ps t n f m dep acc p = some (r, q) → (0 ≤ p ∧ p ≤ n) → (0 ≤ dep ∧ dep ≤ 4) → (S.length : Int) + (n - p) ≤ 100 → 3 * (4 - dep) + k ≤ D → ∃ S', gm_go D 29 [.inr (.inr 81), .inr (.inr c), .inl s, .inl dep] (gn_K c M p S) = some (some (.inl (gn_ok r)), gn_K c M q S') ∧ (S'.length : Int) ≤ 100 ∧ ∀ e, r = some e → S' = S ++ gn_Xc e (S.length : Int)
def gn_ctl (t : Int → Int) (n c : Int) (M : gm_M) (s : Int) (m : Nat) (k : Int) (f : Nat) : Prop := ∀ (dep : Int) (acc : gn_X) (p : Int) (r : Option gn_X) (q : Int) (S0 S1 : List (Int × Int)) (j i : Int) (D F : Nat), gn_ps t n f m dep acc p = some (r, q) → (0 ≤ p ∧ p ≤ n) → (0 ≤ dep ∧ dep ≤ 4) → gn_okx acc → gn_ld j S1 (S0 ++ gn_Xc acc (S0.length : Int)) → (S1.length : Int) = (S0.length : Int) + gn_sz acc → (S1.length : Int) + (n - p) ≤ 100 → 3 * (4 - dep) + k ≤ D → 10 * (n - p) + 10 ≤ F → (0 ≤ i ∧ i + 3 ≤ p) → (-1 ≤ j ∧ j ≤ 100) → ∃ S', gm_ex (gm_go D) qX4_readChain F 4 [some (.inr (.inr 81)), some (.inr (.inr c)), some (.inl s), some (.inl dep), some (.inl j), some (.inl i), some (.inl 1)] [] (gn_K c M p S1) = some (some (.inl (gn_ok r)), gn_K c M q S') ∧ (S'.length : Int) ≤ 100 ∧ ∀ e, r = some e → S' = S0 ++ gn_Xc e (S0.length : Int)
theorem gn_ctl_a {t : Int → Int} {n p0 c : Int} {M : gm_M} (hR : gn_Rd t n p0 M) (hO : gm_isO 0 M c = true) (hc : 94 ≤ c ∧ c ≤ 135) {f : Nat} (h1 : gn_c1s t n c M f) (h2 : gn_ctl t n c M 38 2 5 f) : gn_ctl t n c M 38 2 5 (f + 1) := by
  intro dep acc p r q S0 S1 j i D F h hp hd hx hl hS hb hD hF hi hj
  have hz := hx.1
  have e1 := r_X0_landHere (D := D) (by omega) (p := p) hR.1 hO hc (by omega) hl
  have hS2 : ((S0 ++ gn_Xc acc (S0.length : Int)).length : Int) = (S1.length : Int) := by
    rw [hS, List.length_append]
    have := hx.2.1 (S0.length : Int)
    omega
  have hR2 := hR.K (S := S0 ++ gn_Xc acc (S0.length : Int)) hc hp
  have e2 := r_X4_readSign (D := D) (by omega) hR2 (s := 38) (by decide)
  rw [gn_K_p] at e2
  have z81 := gm_z81 hR.1
  unfold gn_ps at h
  by_cases c1 : gn_ch t n p = 38
  · rw [if_pos c1] at h e2
    have p1 := gn_ch_lt (t := t) (n := n) (p := p) (by omega)
    have i1 : i + 1 < 100 := by have := hR.2.2.2.1; omega
    have e3 := r_X0_addStep (D := D) (by omega) (p := p + 1) (x := 20) (y := 0) hR.1 hO hc (S0 ++ gn_Xc acc (S0.length : Int)) (by omega)
    generalize hg : S0 ++ gn_Xc acc (S0.length : Int) = S2 at *
    have hl3 : (((S2 ++ [((20 : Int), (0 : Int))]).length : Nat) : Int) = (S2.length : Int) + 1 := by simp
    have hb2 : 0 ≤ (S2.length : Int) ∧ (S2.length : Int) ≤ 100 := by omega
    rcases hy : gn_ps t n f 0 dep acc (p + 1) with _ | ⟨_ | e, q'⟩
    · rw [hy] at h; simp at h
    · rw [hy] at h
      simp only [Option.some.injEq, Prod.mk.injEq] at h
      obtain ⟨rfl, rfl⟩ := h
      obtain ⟨S', e4, hb4, -⟩ := h1 dep acc (p + 1) none q' (S2 ++ [(20, 0)]) D hy (by omega) hd (by rw [hl3]; omega) (by omega)
      refine ⟨S', ?_, hb4, fun e h => by simp at h⟩
      obtain ⟨F, rfl⟩ : ∃ g, F = g + 8 := ⟨F - 8, by omega⟩
      rw [xX4_readChain_4]
      simp (config := { maxSteps := 2000000 }) (disch := first | omega | assumption | (simp only [gm_isO_sF, gm_isO_sA, gm_isO_cp]; assumption)) only [gm_push, gm_iload, gm_lload, gm_aload, gm_istore, gm_astore, gm_iinc, gm_op2, gm_quo, gm_op1, gm_lop2, gm_lshl, gm_i2l, gm_l2i, gm_lcmp, gm_dup, gm_pop1, gm_dup2, gm_goto, gm_ifeq, gm_ifne, gm_iflt, gm_ifge, gm_ifgt, gm_ifle, gm_ceq, gm_cne, gm_clt, gm_cge, gm_cgt, gm_cle, gm_ifnull, gm_ifnonnull, gm_swk, gm_switch, gm_getI, gm_getR, gm_putI, gm_putZ, gm_putR, gm_new, gm_newarr, gm_iald, gm_cald, gm_zald, gm_lald, gm_aald, gm_iast, gm_cast, gm_zast, gm_last, gm_aast, gm_acp, gm_oinit, gm_back, gm_scall, gm_vcall, gm_iret, gm_zret, gm_cret, gm_lret, gm_aret, gm_vret, gm_slen, gm_schar, gm_sidx, gm_lget, gm_lset, gm_nl, gm_ent, gm_wd, gm_pop, gm_pad, gm_xl_c, gm_alen_u, gm_1_sF, gm_1_sA, gm_1_cp, gm_len_sF, gm_len_sA, gm_len_cp, Bool.or_true, Bool.true_or, gm_max_u, gm_min_u, gm_isO_sF, gm_isO_sA, gm_isO_cp, gm_gF_sF, gm_gF_sA, gm_gA_sF, gm_gA_sA, gm_gF_cp, gm_gA_cp, gm_add, gm_sub, gm_mul, gm_neg, ↓reduceIte, Nat.reduceAdd, Nat.reduceLeDiff, true_and, and_true, and_self, true_or, or_true, false_and, and_false, false_or, or_false, eq_self, Nat.reduceEqDiff, Int.reduceEq, Int.reduceLT, Int.reduceLE, Int.reduceNeg, Int.reduceAdd, Int.reduceSub, Int.reduceMul, Int.reduceDiv, Int.reduceMod, reduceCtorEq, if_true, if_false, gm_w_id, xX4_readChain_0, xX4_readChain_1, xX4_readChain_2, xX4_readChain_3, xX4_readChain_5, xX4_readChain_6, xX4_readChain_7, xX4_readChain_8, gn_K_O, hO, z81, e1, e2, e3, i1, e4, gn_ok]
    · rw [hy] at h
      obtain ⟨a1, a2, a3⟩ := gn_ps_b _ _ _ _ _ _ _ hy (by omega)
      have a4 := (a3 e rfl).1 (by decide)
      obtain ⟨S', e4, hb4, h4⟩ := h1 dep acc (p + 1) (some e) q' (S2 ++ [(20, 0)]) D hy (by omega) hd (by rw [hl3]; omega) (by omega)
      have h5 := h4 e rfl
      have hle := a4.1.2.1 ((S2.length : Int) + 1)
      rw [hl3] at h5
      have hl5 : (S'.length : Int) = (S2.length : Int) + 1 + gn_sz e := by
        rw [h5, List.length_append]
        omega
      have hld : gn_ld (S2.length : Int) S' (S0 ++ gn_Xc (gn_Xa acc e) (S0.length : Int)) := by
        refine Or.inr ⟨S2, 20, 0, gn_Xc e ((S2.length : Int) + 1), by rw [h5, List.append_assoc]; rfl, rfl, ?_⟩
        show S0 ++ (gn_Xc acc (S0.length : Int) ++ (20, (S0.length : Int) + gn_sz acc + 1 + gn_sz e) :: gn_Xc e ((S0.length : Int) + gn_sz acc + 1)) = _
        rw [← List.append_assoc, hg, hl5, show (S0.length : Int) + gn_sz acc = (S2.length : Int) by omega]
      obtain ⟨F, rfl⟩ : ∃ g, F = g + 10 := ⟨F - 10, by omega⟩
      obtain ⟨S'', e6, hb6, h6⟩ := h2 dep (gn_Xa acc e) q' r q S0 S' (S2.length : Int) (i + 1) D (F + 3) h (by omega) hd (gn_okx_a hx a4.1) hld (by rw [hl5]; show _ = _ + (gn_sz acc + gn_sz e + 1); omega) (by rw [hl5]; omega) hD (by omega) (by omega) (by omega)
      refine ⟨S'', ?_, hb6, h6⟩
      rw [← e6, xX4_readChain_4]
      simp (config := { maxSteps := 2000000 }) (disch := first | omega | assumption | (simp only [gm_isO_sF, gm_isO_sA, gm_isO_cp]; assumption)) only [gm_push, gm_iload, gm_lload, gm_aload, gm_istore, gm_astore, gm_iinc, gm_op2, gm_quo, gm_op1, gm_lop2, gm_lshl, gm_i2l, gm_l2i, gm_lcmp, gm_dup, gm_pop1, gm_dup2, gm_goto, gm_ifeq, gm_ifne, gm_iflt, gm_ifge, gm_ifgt, gm_ifle, gm_ceq, gm_cne, gm_clt, gm_cge, gm_cgt, gm_cle, gm_ifnull, gm_ifnonnull, gm_swk, gm_switch, gm_getI, gm_getR, gm_putI, gm_putZ, gm_putR, gm_new, gm_newarr, gm_iald, gm_cald, gm_zald, gm_lald, gm_aald, gm_iast, gm_cast, gm_zast, gm_last, gm_aast, gm_acp, gm_oinit, gm_back, gm_scall, gm_vcall, gm_iret, gm_zret, gm_cret, gm_lret, gm_aret, gm_vret, gm_slen, gm_schar, gm_sidx, gm_lget, gm_lset, gm_nl, gm_ent, gm_wd, gm_pop, gm_pad, gm_xl_c, gm_alen_u, gm_1_sF, gm_1_sA, gm_1_cp, gm_len_sF, gm_len_sA, gm_len_cp, Bool.or_true, Bool.true_or, gm_max_u, gm_min_u, gm_isO_sF, gm_isO_sA, gm_isO_cp, gm_gF_sF, gm_gF_sA, gm_gA_sF, gm_gA_sA, gm_gF_cp, gm_gA_cp, gm_add, gm_sub, gm_mul, gm_neg, ↓reduceIte, Nat.reduceAdd, Nat.reduceLeDiff, true_and, and_true, and_self, true_or, or_true, false_and, and_false, false_or, or_false, eq_self, Nat.reduceEqDiff, Int.reduceEq, Int.reduceLT, Int.reduceLE, Int.reduceNeg, Int.reduceAdd, Int.reduceSub, Int.reduceMul, Int.reduceDiv, Int.reduceMod, reduceCtorEq, if_true, if_false, gm_w_id, xX4_readChain_0, xX4_readChain_1, xX4_readChain_2, xX4_readChain_3, xX4_readChain_5, xX4_readChain_6, xX4_readChain_7, xX4_readChain_8, gn_K_O, hO, z81, e1, e2, e3, i1, e4, gn_ok]
  · rw [if_neg c1] at h e2
    simp only [Option.some.injEq, Prod.mk.injEq] at h
    obtain ⟨rfl, rfl⟩ := h
    refine ⟨S0 ++ gn_Xc acc (S0.length : Int), ?_, by omega, fun e h => by rw [Option.some.inj h]⟩
    obtain ⟨F, rfl⟩ : ∃ g, F = g + 1 := ⟨F - 1, by omega⟩
    rw [xX4_readChain_4]
    simp (config := { maxSteps := 2000000 }) (disch := first | omega | assumption | (simp only [gm_isO_sF, gm_isO_sA, gm_isO_cp]; assumption)) only [gm_push, gm_iload, gm_lload, gm_aload, gm_istore, gm_astore, gm_iinc, gm_op2, gm_quo, gm_op1, gm_lop2, gm_lshl, gm_i2l, gm_l2i, gm_lcmp, gm_dup, gm_pop1, gm_dup2, gm_goto, gm_ifeq, gm_ifne, gm_iflt, gm_ifge, gm_ifgt, gm_ifle, gm_ceq, gm_cne, gm_clt, gm_cge, gm_cgt, gm_cle, gm_ifnull, gm_ifnonnull, gm_swk, gm_switch, gm_getI, gm_getR, gm_putI, gm_putZ, gm_putR, gm_new, gm_newarr, gm_iald, gm_cald, gm_zald, gm_lald, gm_aald, gm_iast, gm_cast, gm_zast, gm_last, gm_aast, gm_acp, gm_oinit, gm_back, gm_scall, gm_vcall, gm_iret, gm_zret, gm_cret, gm_lret, gm_aret, gm_vret, gm_slen, gm_schar, gm_sidx, gm_lget, gm_lset, gm_nl, gm_ent, gm_wd, gm_pop, gm_pad, gm_xl_c, gm_alen_u, gm_1_sF, gm_1_sA, gm_1_cp, gm_len_sF, gm_len_sA, gm_len_cp, Bool.or_true, Bool.true_or, gm_max_u, gm_min_u, gm_isO_sF, gm_isO_sA, gm_isO_cp, gm_gF_sF, gm_gF_sA, gm_gA_sF, gm_gA_sA, gm_gF_cp, gm_gA_cp, gm_add, gm_sub, gm_mul, gm_neg, ↓reduceIte, Nat.reduceAdd, Nat.reduceLeDiff, true_and, and_true, and_self, true_or, or_true, false_and, and_false, false_or, or_false, eq_self, Nat.reduceEqDiff, Int.reduceEq, Int.reduceLT, Int.reduceLE, Int.reduceNeg, Int.reduceAdd, Int.reduceSub, Int.reduceMul, Int.reduceDiv, Int.reduceMod, reduceCtorEq, if_true, if_false, gm_w_id, gn_K_O, hO, z81, e1, e2, gn_ok]
theorem gn_cch_a {t : Int → Int} {n p0 c : Int} {M : gm_M} (hR : gn_Rd t n p0 M) (hO : gm_isO 0 M c = true) (hc : 94 ≤ c ∧ c ≤ 135) {f : Nat} (h1 : gn_c1s t n c M f) (h2 : gn_ctl t n c M 38 2 5 f) : gn_cch t n c M 38 1 (5 + 1) (f + 1) := by
  intro dep acc p r q S D h hp hd hb hD
  obtain ⟨d, rfl⟩ : ∃ g, D = g + 1 := ⟨D - 1, by omega⟩
  have z81 := gm_z81 hR.1
  unfold gn_ps at h
  rcases hy : gn_ps t n f 0 dep acc p with _ | ⟨_ | e, q'⟩
  · rw [hy] at h; simp at h
  · rw [hy] at h
    simp only [Option.some.injEq, Prod.mk.injEq] at h
    obtain ⟨rfl, rfl⟩ := h
    obtain ⟨S', e4, hb4, -⟩ := h1 dep acc p none q' S d hy hp hd hb (by omega)
    refine ⟨S', ?_, hb4, fun e h => by simp at h⟩
    rw [eX4_readChain _ _ _ (Nat.le_of_ble_eq_true rfl)]
    simp (config := { maxSteps := 2000000 }) (disch := first | omega | assumption | (simp only [gm_isO_sF, gm_isO_sA, gm_isO_cp]; assumption)) only [gm_push, gm_iload, gm_lload, gm_aload, gm_istore, gm_astore, gm_iinc, gm_op2, gm_quo, gm_op1, gm_lop2, gm_lshl, gm_i2l, gm_l2i, gm_lcmp, gm_dup, gm_pop1, gm_dup2, gm_goto, gm_ifeq, gm_ifne, gm_iflt, gm_ifge, gm_ifgt, gm_ifle, gm_ceq, gm_cne, gm_clt, gm_cge, gm_cgt, gm_cle, gm_ifnull, gm_ifnonnull, gm_swk, gm_switch, gm_getI, gm_getR, gm_putI, gm_putZ, gm_putR, gm_new, gm_newarr, gm_iald, gm_cald, gm_zald, gm_lald, gm_aald, gm_iast, gm_cast, gm_zast, gm_last, gm_aast, gm_acp, gm_oinit, gm_back, gm_scall, gm_vcall, gm_iret, gm_zret, gm_cret, gm_lret, gm_aret, gm_vret, gm_slen, gm_schar, gm_sidx, gm_lget, gm_lset, gm_nl, gm_ent, gm_wd, gm_pop, gm_pad, gm_xl_c, gm_alen_u, gm_1_sF, gm_1_sA, gm_1_cp, gm_len_sF, gm_len_sA, gm_len_cp, Bool.or_true, Bool.true_or, gm_max_u, gm_min_u, gm_isO_sF, gm_isO_sA, gm_isO_cp, gm_gF_sF, gm_gF_sA, gm_gA_sF, gm_gA_sA, gm_gF_cp, gm_gA_cp, gm_add, gm_sub, gm_mul, gm_neg, ↓reduceIte, Nat.reduceAdd, Nat.reduceLeDiff, true_and, and_true, and_self, true_or, or_true, false_and, and_false, false_or, or_false, eq_self, Nat.reduceEqDiff, Int.reduceEq, Int.reduceLT, Int.reduceLE, Int.reduceNeg, Int.reduceAdd, Int.reduceSub, Int.reduceMul, Int.reduceDiv, Int.reduceMod, reduceCtorEq, if_true, if_false, gm_w_id, xX4_readChain_0, xX4_readChain_1, xX4_readChain_2, xX4_readChain_3, xX4_readChain_5, xX4_readChain_6, xX4_readChain_7, xX4_readChain_8, gn_K_O, hO, z81, e4, gn_ok]
  · rw [hy] at h
    obtain ⟨a1, a2, a3⟩ := gn_ps_b _ _ _ _ _ _ _ hy hp.2
    have a4 := (a3 e rfl).1 (by decide)
    have a5 := a4.1.1
    obtain ⟨S', e4, hb4, h4⟩ := h1 dep acc p (some e) q' S d hy hp hd hb (by omega)
    have h5 := h4 e rfl
    have hle := a4.1.2.1 (S.length : Int)
    have hl5 : (S'.length : Int) = (S.length : Int) + gn_sz e := by
      rw [h5, List.length_append]
      omega
    have hn := hR.2.2.2.1
    obtain ⟨S'', e6, hb6, h6⟩ := h2 dep e q' r q S S' (-1) 0 d 99996 h (by omega) hd a4.1 (Or.inl ⟨rfl, h5.symm⟩) hl5 (by omega) (by omega) (by omega) (by omega) (by decide)
    refine ⟨S'', ?_, hb6, h6⟩
    rw [eX4_readChain _ _ _ (Nat.le_of_ble_eq_true rfl), ← e6]
    simp (config := { maxSteps := 2000000 }) (disch := first | omega | assumption | (simp only [gm_isO_sF, gm_isO_sA, gm_isO_cp]; assumption)) only [gm_push, gm_iload, gm_lload, gm_aload, gm_istore, gm_astore, gm_iinc, gm_op2, gm_quo, gm_op1, gm_lop2, gm_lshl, gm_i2l, gm_l2i, gm_lcmp, gm_dup, gm_pop1, gm_dup2, gm_goto, gm_ifeq, gm_ifne, gm_iflt, gm_ifge, gm_ifgt, gm_ifle, gm_ceq, gm_cne, gm_clt, gm_cge, gm_cgt, gm_cle, gm_ifnull, gm_ifnonnull, gm_swk, gm_switch, gm_getI, gm_getR, gm_putI, gm_putZ, gm_putR, gm_new, gm_newarr, gm_iald, gm_cald, gm_zald, gm_lald, gm_aald, gm_iast, gm_cast, gm_zast, gm_last, gm_aast, gm_acp, gm_oinit, gm_back, gm_scall, gm_vcall, gm_iret, gm_zret, gm_cret, gm_lret, gm_aret, gm_vret, gm_slen, gm_schar, gm_sidx, gm_lget, gm_lset, gm_nl, gm_ent, gm_wd, gm_pop, gm_pad, gm_xl_c, gm_alen_u, gm_1_sF, gm_1_sA, gm_1_cp, gm_len_sF, gm_len_sA, gm_len_cp, Bool.or_true, Bool.true_or, gm_max_u, gm_min_u, gm_isO_sF, gm_isO_sA, gm_isO_cp, gm_gF_sF, gm_gF_sA, gm_gA_sF, gm_gA_sA, gm_gF_cp, gm_gA_cp, gm_add, gm_sub, gm_mul, gm_neg, ↓reduceIte, Nat.reduceAdd, Nat.reduceLeDiff, true_and, and_true, and_self, true_or, or_true, false_and, and_false, false_or, or_false, eq_self, Nat.reduceEqDiff, Int.reduceEq, Int.reduceLT, Int.reduceLE, Int.reduceNeg, Int.reduceAdd, Int.reduceSub, Int.reduceMul, Int.reduceDiv, Int.reduceMod, reduceCtorEq, if_true, if_false, gm_w_id, xX4_readChain_0, xX4_readChain_1, xX4_readChain_2, xX4_readChain_3, xX4_readChain_5, xX4_readChain_6, xX4_readChain_7, xX4_readChain_8, gn_K_O, hO, z81, e4, gn_ok]
theorem gn_ctl_o {t : Int → Int} {n p0 c : Int} {M : gm_M} (hR : gn_Rd t n p0 M) (hO : gm_isO 0 M c = true) (hc : 94 ≤ c ∧ c ≤ 135) {f : Nat} (h1 : gn_cch t n c M 38 1 6 f) (h2 : gn_ctl t n c M 124 4 6 f) : gn_ctl t n c M 124 4 6 (f + 1) := by
  intro dep acc p r q S0 S1 j i D F h hp hd hx hl hS hb hD hF hi hj
  have hz := hx.1
  have e1 := r_X0_landHere (D := D) (by omega) (p := p) hR.1 hO hc (by omega) hl
  have hS2 : ((S0 ++ gn_Xc acc (S0.length : Int)).length : Int) = (S1.length : Int) := by
    rw [hS, List.length_append]
    have := hx.2.1 (S0.length : Int)
    omega
  have hR2 := hR.K (S := S0 ++ gn_Xc acc (S0.length : Int)) hc hp
  have e2 := r_X4_readSign (D := D) (by omega) hR2 (s := 124) (by decide)
  rw [gn_K_p] at e2
  have z81 := gm_z81 hR.1
  unfold gn_ps at h
  by_cases c1 : gn_ch t n p = 124
  · rw [if_pos c1] at h e2
    have p1 := gn_ch_lt (t := t) (n := n) (p := p) (by omega)
    have i1 : i + 1 < 100 := by have := hR.2.2.2.1; omega
    have e3 := r_X0_addStep (D := D) (by omega) (p := p + 1) (x := 19) (y := 0) hR.1 hO hc (S0 ++ gn_Xc acc (S0.length : Int)) (by omega)
    generalize hg : S0 ++ gn_Xc acc (S0.length : Int) = S2 at *
    have hl3 : (((S2 ++ [((19 : Int), (0 : Int))]).length : Nat) : Int) = (S2.length : Int) + 1 := by simp
    have hb2 : 0 ≤ (S2.length : Int) ∧ (S2.length : Int) ≤ 100 := by omega
    rcases hy : gn_ps t n f 1 dep acc (p + 1) with _ | ⟨_ | e, q'⟩
    · rw [hy] at h; simp at h
    · rw [hy] at h
      simp only [Option.some.injEq, Prod.mk.injEq] at h
      obtain ⟨rfl, rfl⟩ := h
      obtain ⟨S', e4, hb4, -⟩ := h1 dep acc (p + 1) none q' (S2 ++ [(19, 0)]) D hy (by omega) hd (by rw [hl3]; omega) (by omega)
      refine ⟨S', ?_, hb4, fun e h => by simp at h⟩
      obtain ⟨F, rfl⟩ : ∃ g, F = g + 8 := ⟨F - 8, by omega⟩
      rw [xX4_readChain_4]
      simp (config := { maxSteps := 2000000 }) (disch := first | omega | assumption | (simp only [gm_isO_sF, gm_isO_sA, gm_isO_cp]; assumption)) only [gm_push, gm_iload, gm_lload, gm_aload, gm_istore, gm_astore, gm_iinc, gm_op2, gm_quo, gm_op1, gm_lop2, gm_lshl, gm_i2l, gm_l2i, gm_lcmp, gm_dup, gm_pop1, gm_dup2, gm_goto, gm_ifeq, gm_ifne, gm_iflt, gm_ifge, gm_ifgt, gm_ifle, gm_ceq, gm_cne, gm_clt, gm_cge, gm_cgt, gm_cle, gm_ifnull, gm_ifnonnull, gm_swk, gm_switch, gm_getI, gm_getR, gm_putI, gm_putZ, gm_putR, gm_new, gm_newarr, gm_iald, gm_cald, gm_zald, gm_lald, gm_aald, gm_iast, gm_cast, gm_zast, gm_last, gm_aast, gm_acp, gm_oinit, gm_back, gm_scall, gm_vcall, gm_iret, gm_zret, gm_cret, gm_lret, gm_aret, gm_vret, gm_slen, gm_schar, gm_sidx, gm_lget, gm_lset, gm_nl, gm_ent, gm_wd, gm_pop, gm_pad, gm_xl_c, gm_alen_u, gm_1_sF, gm_1_sA, gm_1_cp, gm_len_sF, gm_len_sA, gm_len_cp, Bool.or_true, Bool.true_or, gm_max_u, gm_min_u, gm_isO_sF, gm_isO_sA, gm_isO_cp, gm_gF_sF, gm_gF_sA, gm_gA_sF, gm_gA_sA, gm_gF_cp, gm_gA_cp, gm_add, gm_sub, gm_mul, gm_neg, ↓reduceIte, Nat.reduceAdd, Nat.reduceLeDiff, true_and, and_true, and_self, true_or, or_true, false_and, and_false, false_or, or_false, eq_self, Nat.reduceEqDiff, Int.reduceEq, Int.reduceLT, Int.reduceLE, Int.reduceNeg, Int.reduceAdd, Int.reduceSub, Int.reduceMul, Int.reduceDiv, Int.reduceMod, reduceCtorEq, if_true, if_false, gm_w_id, xX4_readChain_0, xX4_readChain_1, xX4_readChain_2, xX4_readChain_3, xX4_readChain_5, xX4_readChain_6, xX4_readChain_7, xX4_readChain_8, gn_K_O, hO, z81, e1, e2, e3, i1, e4, gn_ok]
    · rw [hy] at h
      obtain ⟨a1, a2, a3⟩ := gn_ps_b _ _ _ _ _ _ _ hy (by omega)
      have a4 := (a3 e rfl).1 (by decide)
      obtain ⟨S', e4, hb4, h4⟩ := h1 dep acc (p + 1) (some e) q' (S2 ++ [(19, 0)]) D hy (by omega) hd (by rw [hl3]; omega) (by omega)
      have h5 := h4 e rfl
      have hle := a4.1.2.1 ((S2.length : Int) + 1)
      rw [hl3] at h5
      have hl5 : (S'.length : Int) = (S2.length : Int) + 1 + gn_sz e := by
        rw [h5, List.length_append]
        omega
      have hld : gn_ld (S2.length : Int) S' (S0 ++ gn_Xc (gn_Xo acc e) (S0.length : Int)) := by
        refine Or.inr ⟨S2, 19, 0, gn_Xc e ((S2.length : Int) + 1), by rw [h5, List.append_assoc]; rfl, rfl, ?_⟩
        show S0 ++ (gn_Xc acc (S0.length : Int) ++ (19, (S0.length : Int) + gn_sz acc + 1 + gn_sz e) :: gn_Xc e ((S0.length : Int) + gn_sz acc + 1)) = _
        rw [← List.append_assoc, hg, hl5, show (S0.length : Int) + gn_sz acc = (S2.length : Int) by omega]
      obtain ⟨F, rfl⟩ : ∃ g, F = g + 10 := ⟨F - 10, by omega⟩
      obtain ⟨S'', e6, hb6, h6⟩ := h2 dep (gn_Xo acc e) q' r q S0 S' (S2.length : Int) (i + 1) D (F + 5) h (by omega) hd (gn_okx_o hx a4.1) hld (by rw [hl5]; show _ = _ + (gn_sz acc + gn_sz e + 1); omega) (by rw [hl5]; omega) hD (by omega) (by omega) (by omega)
      refine ⟨S'', ?_, hb6, h6⟩
      rw [← e6, xX4_readChain_4]
      simp (config := { maxSteps := 2000000 }) (disch := first | omega | assumption | (simp only [gm_isO_sF, gm_isO_sA, gm_isO_cp]; assumption)) only [gm_push, gm_iload, gm_lload, gm_aload, gm_istore, gm_astore, gm_iinc, gm_op2, gm_quo, gm_op1, gm_lop2, gm_lshl, gm_i2l, gm_l2i, gm_lcmp, gm_dup, gm_pop1, gm_dup2, gm_goto, gm_ifeq, gm_ifne, gm_iflt, gm_ifge, gm_ifgt, gm_ifle, gm_ceq, gm_cne, gm_clt, gm_cge, gm_cgt, gm_cle, gm_ifnull, gm_ifnonnull, gm_swk, gm_switch, gm_getI, gm_getR, gm_putI, gm_putZ, gm_putR, gm_new, gm_newarr, gm_iald, gm_cald, gm_zald, gm_lald, gm_aald, gm_iast, gm_cast, gm_zast, gm_last, gm_aast, gm_acp, gm_oinit, gm_back, gm_scall, gm_vcall, gm_iret, gm_zret, gm_cret, gm_lret, gm_aret, gm_vret, gm_slen, gm_schar, gm_sidx, gm_lget, gm_lset, gm_nl, gm_ent, gm_wd, gm_pop, gm_pad, gm_xl_c, gm_alen_u, gm_1_sF, gm_1_sA, gm_1_cp, gm_len_sF, gm_len_sA, gm_len_cp, Bool.or_true, Bool.true_or, gm_max_u, gm_min_u, gm_isO_sF, gm_isO_sA, gm_isO_cp, gm_gF_sF, gm_gF_sA, gm_gA_sF, gm_gA_sA, gm_gF_cp, gm_gA_cp, gm_add, gm_sub, gm_mul, gm_neg, ↓reduceIte, Nat.reduceAdd, Nat.reduceLeDiff, true_and, and_true, and_self, true_or, or_true, false_and, and_false, false_or, or_false, eq_self, Nat.reduceEqDiff, Int.reduceEq, Int.reduceLT, Int.reduceLE, Int.reduceNeg, Int.reduceAdd, Int.reduceSub, Int.reduceMul, Int.reduceDiv, Int.reduceMod, reduceCtorEq, if_true, if_false, gm_w_id, xX4_readChain_0, xX4_readChain_1, xX4_readChain_2, xX4_readChain_3, xX4_readChain_5, xX4_readChain_6, xX4_readChain_7, xX4_readChain_8, gn_K_O, hO, z81, e1, e2, e3, i1, e4, gn_ok]
  · rw [if_neg c1] at h e2
    simp only [Option.some.injEq, Prod.mk.injEq] at h
    obtain ⟨rfl, rfl⟩ := h
    refine ⟨S0 ++ gn_Xc acc (S0.length : Int), ?_, by omega, fun e h => by rw [Option.some.inj h]⟩
    obtain ⟨F, rfl⟩ : ∃ g, F = g + 1 := ⟨F - 1, by omega⟩
    rw [xX4_readChain_4]
    simp (config := { maxSteps := 2000000 }) (disch := first | omega | assumption | (simp only [gm_isO_sF, gm_isO_sA, gm_isO_cp]; assumption)) only [gm_push, gm_iload, gm_lload, gm_aload, gm_istore, gm_astore, gm_iinc, gm_op2, gm_quo, gm_op1, gm_lop2, gm_lshl, gm_i2l, gm_l2i, gm_lcmp, gm_dup, gm_pop1, gm_dup2, gm_goto, gm_ifeq, gm_ifne, gm_iflt, gm_ifge, gm_ifgt, gm_ifle, gm_ceq, gm_cne, gm_clt, gm_cge, gm_cgt, gm_cle, gm_ifnull, gm_ifnonnull, gm_swk, gm_switch, gm_getI, gm_getR, gm_putI, gm_putZ, gm_putR, gm_new, gm_newarr, gm_iald, gm_cald, gm_zald, gm_lald, gm_aald, gm_iast, gm_cast, gm_zast, gm_last, gm_aast, gm_acp, gm_oinit, gm_back, gm_scall, gm_vcall, gm_iret, gm_zret, gm_cret, gm_lret, gm_aret, gm_vret, gm_slen, gm_schar, gm_sidx, gm_lget, gm_lset, gm_nl, gm_ent, gm_wd, gm_pop, gm_pad, gm_xl_c, gm_alen_u, gm_1_sF, gm_1_sA, gm_1_cp, gm_len_sF, gm_len_sA, gm_len_cp, Bool.or_true, Bool.true_or, gm_max_u, gm_min_u, gm_isO_sF, gm_isO_sA, gm_isO_cp, gm_gF_sF, gm_gF_sA, gm_gA_sF, gm_gA_sA, gm_gF_cp, gm_gA_cp, gm_add, gm_sub, gm_mul, gm_neg, ↓reduceIte, Nat.reduceAdd, Nat.reduceLeDiff, true_and, and_true, and_self, true_or, or_true, false_and, and_false, false_or, or_false, eq_self, Nat.reduceEqDiff, Int.reduceEq, Int.reduceLT, Int.reduceLE, Int.reduceNeg, Int.reduceAdd, Int.reduceSub, Int.reduceMul, Int.reduceDiv, Int.reduceMod, reduceCtorEq, if_true, if_false, gm_w_id, gn_K_O, hO, z81, e1, e2, gn_ok]
theorem gn_cch_o {t : Int → Int} {n p0 c : Int} {M : gm_M} (hR : gn_Rd t n p0 M) (hO : gm_isO 0 M c = true) (hc : 94 ≤ c ∧ c ≤ 135) {f : Nat} (h1 : gn_cch t n c M 38 1 6 f) (h2 : gn_ctl t n c M 124 4 6 f) : gn_cch t n c M 124 3 (6 + 1) (f + 1) := by
  intro dep acc p r q S D h hp hd hb hD
  obtain ⟨d, rfl⟩ : ∃ g, D = g + 1 := ⟨D - 1, by omega⟩
  have z81 := gm_z81 hR.1
  unfold gn_ps at h
  rcases hy : gn_ps t n f 1 dep acc p with _ | ⟨_ | e, q'⟩
  · rw [hy] at h; simp at h
  · rw [hy] at h
    simp only [Option.some.injEq, Prod.mk.injEq] at h
    obtain ⟨rfl, rfl⟩ := h
    obtain ⟨S', e4, hb4, -⟩ := h1 dep acc p none q' S d hy hp hd hb (by omega)
    refine ⟨S', ?_, hb4, fun e h => by simp at h⟩
    rw [eX4_readChain _ _ _ (Nat.le_of_ble_eq_true rfl)]
    simp (config := { maxSteps := 2000000 }) (disch := first | omega | assumption | (simp only [gm_isO_sF, gm_isO_sA, gm_isO_cp]; assumption)) only [gm_push, gm_iload, gm_lload, gm_aload, gm_istore, gm_astore, gm_iinc, gm_op2, gm_quo, gm_op1, gm_lop2, gm_lshl, gm_i2l, gm_l2i, gm_lcmp, gm_dup, gm_pop1, gm_dup2, gm_goto, gm_ifeq, gm_ifne, gm_iflt, gm_ifge, gm_ifgt, gm_ifle, gm_ceq, gm_cne, gm_clt, gm_cge, gm_cgt, gm_cle, gm_ifnull, gm_ifnonnull, gm_swk, gm_switch, gm_getI, gm_getR, gm_putI, gm_putZ, gm_putR, gm_new, gm_newarr, gm_iald, gm_cald, gm_zald, gm_lald, gm_aald, gm_iast, gm_cast, gm_zast, gm_last, gm_aast, gm_acp, gm_oinit, gm_back, gm_scall, gm_vcall, gm_iret, gm_zret, gm_cret, gm_lret, gm_aret, gm_vret, gm_slen, gm_schar, gm_sidx, gm_lget, gm_lset, gm_nl, gm_ent, gm_wd, gm_pop, gm_pad, gm_xl_c, gm_alen_u, gm_1_sF, gm_1_sA, gm_1_cp, gm_len_sF, gm_len_sA, gm_len_cp, Bool.or_true, Bool.true_or, gm_max_u, gm_min_u, gm_isO_sF, gm_isO_sA, gm_isO_cp, gm_gF_sF, gm_gF_sA, gm_gA_sF, gm_gA_sA, gm_gF_cp, gm_gA_cp, gm_add, gm_sub, gm_mul, gm_neg, ↓reduceIte, Nat.reduceAdd, Nat.reduceLeDiff, true_and, and_true, and_self, true_or, or_true, false_and, and_false, false_or, or_false, eq_self, Nat.reduceEqDiff, Int.reduceEq, Int.reduceLT, Int.reduceLE, Int.reduceNeg, Int.reduceAdd, Int.reduceSub, Int.reduceMul, Int.reduceDiv, Int.reduceMod, reduceCtorEq, if_true, if_false, gm_w_id, xX4_readChain_0, xX4_readChain_1, xX4_readChain_2, xX4_readChain_3, xX4_readChain_5, xX4_readChain_6, xX4_readChain_7, xX4_readChain_8, gn_K_O, hO, z81, e4, gn_ok]
  · rw [hy] at h
    obtain ⟨a1, a2, a3⟩ := gn_ps_b _ _ _ _ _ _ _ hy hp.2
    have a4 := (a3 e rfl).1 (by decide)
    have a5 := a4.1.1
    obtain ⟨S', e4, hb4, h4⟩ := h1 dep acc p (some e) q' S d hy hp hd hb (by omega)
    have h5 := h4 e rfl
    have hle := a4.1.2.1 (S.length : Int)
    have hl5 : (S'.length : Int) = (S.length : Int) + gn_sz e := by
      rw [h5, List.length_append]
      omega
    have hn := hR.2.2.2.1
    obtain ⟨S'', e6, hb6, h6⟩ := h2 dep e q' r q S S' (-1) 0 d 99997 h (by omega) hd a4.1 (Or.inl ⟨rfl, h5.symm⟩) hl5 (by omega) (by omega) (by omega) (by omega) (by decide)
    refine ⟨S'', ?_, hb6, h6⟩
    rw [eX4_readChain _ _ _ (Nat.le_of_ble_eq_true rfl), ← e6]
    simp (config := { maxSteps := 2000000 }) (disch := first | omega | assumption | (simp only [gm_isO_sF, gm_isO_sA, gm_isO_cp]; assumption)) only [gm_push, gm_iload, gm_lload, gm_aload, gm_istore, gm_astore, gm_iinc, gm_op2, gm_quo, gm_op1, gm_lop2, gm_lshl, gm_i2l, gm_l2i, gm_lcmp, gm_dup, gm_pop1, gm_dup2, gm_goto, gm_ifeq, gm_ifne, gm_iflt, gm_ifge, gm_ifgt, gm_ifle, gm_ceq, gm_cne, gm_clt, gm_cge, gm_cgt, gm_cle, gm_ifnull, gm_ifnonnull, gm_swk, gm_switch, gm_getI, gm_getR, gm_putI, gm_putZ, gm_putR, gm_new, gm_newarr, gm_iald, gm_cald, gm_zald, gm_lald, gm_aald, gm_iast, gm_cast, gm_zast, gm_last, gm_aast, gm_acp, gm_oinit, gm_back, gm_scall, gm_vcall, gm_iret, gm_zret, gm_cret, gm_lret, gm_aret, gm_vret, gm_slen, gm_schar, gm_sidx, gm_lget, gm_lset, gm_nl, gm_ent, gm_wd, gm_pop, gm_pad, gm_xl_c, gm_alen_u, gm_1_sF, gm_1_sA, gm_1_cp, gm_len_sF, gm_len_sA, gm_len_cp, Bool.or_true, Bool.true_or, gm_max_u, gm_min_u, gm_isO_sF, gm_isO_sA, gm_isO_cp, gm_gF_sF, gm_gF_sA, gm_gA_sF, gm_gA_sA, gm_gF_cp, gm_gA_cp, gm_add, gm_sub, gm_mul, gm_neg, ↓reduceIte, Nat.reduceAdd, Nat.reduceLeDiff, true_and, and_true, and_self, true_or, or_true, false_and, and_false, false_or, or_false, eq_self, Nat.reduceEqDiff, Int.reduceEq, Int.reduceLT, Int.reduceLE, Int.reduceNeg, Int.reduceAdd, Int.reduceSub, Int.reduceMul, Int.reduceDiv, Int.reduceMod, reduceCtorEq, if_true, if_false, gm_w_id, xX4_readChain_0, xX4_readChain_1, xX4_readChain_2, xX4_readChain_3, xX4_readChain_5, xX4_readChain_6, xX4_readChain_7, xX4_readChain_8, gn_K_O, hO, z81, e4, gn_ok]
theorem gn_c1s_s {t : Int → Int} {n p0 c : Int} {M : gm_M} (hR : gn_Rd t n p0 M) (hO : gm_isO 0 M c = true) (hc : 94 ≤ c ∧ c ≤ 135) {f : Nat} (h1 : gn_c1s t n c M f) (h2 : gn_cch t n c M 124 3 7 f) : gn_c1s t n c M (f + 1) := by
  intro dep acc p r q S D h hp hd hb hD
  obtain ⟨d, rfl⟩ : ∃ g, D = g + 1 := ⟨D - 1, by omega⟩
  have z81 := gm_z81 hR.1
  have hR0 := hR.K (S := S) hc hp
  have f0 := r_X4_nextSign (D := d) (by omega) hR0
  have b0 := gn_c0_b hR p hp.1
  have pp : ∀ q S, gm_gF (gn_K c M q S) 402 81 = q := fun q S => by rw [gn_K_F, if_pos ⟨rfl, rfl⟩]
  unfold gn_ps at h
  by_cases c0 : gn_ch t n p = 33 ∨ gn_ch t n p = 40
  · rw [if_pos c0] at h
    have p1 := gn_ch_lt (t := t) (n := n) (p := p) (by omega)
    have c00 : gn_c0 t n p = gn_ch t n p := (gn_c0_ch (by omega)).mpr rfl
    rw [c00] at f0
    by_cases c1 : 4 ≤ dep
    · rw [if_pos c1] at h
      simp only [Option.some.injEq, Prod.mk.injEq] at h
      obtain ⟨rfl, rfl⟩ := h
      have c1' : ¬ dep < 4 := by omega
      refine ⟨S, ?_, by omega, fun e h => by simp at h⟩
      rw [eX4_readSingle _ _ _ (Nat.le_of_ble_eq_true rfl)]
      rcases c0 with c0 | c0
      · simp (config := { maxSteps := 2000000 }) (disch := first | omega | assumption | (simp only [gm_isO_sF, gm_isO_sA, gm_isO_cp]; assumption)) only [gm_push, gm_iload, gm_lload, gm_aload, gm_istore, gm_astore, gm_iinc, gm_op2, gm_quo, gm_op1, gm_lop2, gm_lshl, gm_i2l, gm_l2i, gm_lcmp, gm_dup, gm_pop1, gm_dup2, gm_goto, gm_ifeq, gm_ifne, gm_iflt, gm_ifge, gm_ifgt, gm_ifle, gm_ceq, gm_cne, gm_clt, gm_cge, gm_cgt, gm_cle, gm_ifnull, gm_ifnonnull, gm_swk, gm_switch, gm_getI, gm_getR, gm_putI, gm_putZ, gm_putR, gm_new, gm_newarr, gm_iald, gm_cald, gm_zald, gm_lald, gm_aald, gm_iast, gm_cast, gm_zast, gm_last, gm_aast, gm_acp, gm_oinit, gm_back, gm_scall, gm_vcall, gm_iret, gm_zret, gm_cret, gm_lret, gm_aret, gm_vret, gm_slen, gm_schar, gm_sidx, gm_lget, gm_lset, gm_nl, gm_ent, gm_wd, gm_pop, gm_pad, gm_xl_c, gm_alen_u, gm_1_sF, gm_1_sA, gm_1_cp, gm_len_sF, gm_len_sA, gm_len_cp, Bool.or_true, Bool.true_or, gm_max_u, gm_min_u, gm_isO_sF, gm_isO_sA, gm_isO_cp, gm_gF_sF, gm_gF_sA, gm_gA_sF, gm_gA_sA, gm_gF_cp, gm_gA_cp, gm_add, gm_sub, gm_mul, gm_neg, ↓reduceIte, Nat.reduceAdd, Nat.reduceLeDiff, true_and, and_true, and_self, true_or, or_true, false_and, and_false, false_or, or_false, eq_self, Nat.reduceEqDiff, Int.reduceEq, Int.reduceLT, Int.reduceLE, Int.reduceNeg, Int.reduceAdd, Int.reduceSub, Int.reduceMul, Int.reduceDiv, Int.reduceMod, reduceCtorEq, if_true, if_false, gm_w_id, xX4_readSingle_0, xX4_readSingle_1, xX4_readSingle_2, xX4_readSingle_3, xX4_readSingle_4, xX4_readSingle_5, xX4_readSingle_6, gn_K_O, z81, f0, c0, c1', gn_ok]
      · simp (config := { maxSteps := 2000000 }) (disch := first | omega | assumption | (simp only [gm_isO_sF, gm_isO_sA, gm_isO_cp]; assumption)) only [gm_push, gm_iload, gm_lload, gm_aload, gm_istore, gm_astore, gm_iinc, gm_op2, gm_quo, gm_op1, gm_lop2, gm_lshl, gm_i2l, gm_l2i, gm_lcmp, gm_dup, gm_pop1, gm_dup2, gm_goto, gm_ifeq, gm_ifne, gm_iflt, gm_ifge, gm_ifgt, gm_ifle, gm_ceq, gm_cne, gm_clt, gm_cge, gm_cgt, gm_cle, gm_ifnull, gm_ifnonnull, gm_swk, gm_switch, gm_getI, gm_getR, gm_putI, gm_putZ, gm_putR, gm_new, gm_newarr, gm_iald, gm_cald, gm_zald, gm_lald, gm_aald, gm_iast, gm_cast, gm_zast, gm_last, gm_aast, gm_acp, gm_oinit, gm_back, gm_scall, gm_vcall, gm_iret, gm_zret, gm_cret, gm_lret, gm_aret, gm_vret, gm_slen, gm_schar, gm_sidx, gm_lget, gm_lset, gm_nl, gm_ent, gm_wd, gm_pop, gm_pad, gm_xl_c, gm_alen_u, gm_1_sF, gm_1_sA, gm_1_cp, gm_len_sF, gm_len_sA, gm_len_cp, Bool.or_true, Bool.true_or, gm_max_u, gm_min_u, gm_isO_sF, gm_isO_sA, gm_isO_cp, gm_gF_sF, gm_gF_sA, gm_gA_sF, gm_gA_sA, gm_gF_cp, gm_gA_cp, gm_add, gm_sub, gm_mul, gm_neg, ↓reduceIte, Nat.reduceAdd, Nat.reduceLeDiff, true_and, and_true, and_self, true_or, or_true, false_and, and_false, false_or, or_false, eq_self, Nat.reduceEqDiff, Int.reduceEq, Int.reduceLT, Int.reduceLE, Int.reduceNeg, Int.reduceAdd, Int.reduceSub, Int.reduceMul, Int.reduceDiv, Int.reduceMod, reduceCtorEq, if_true, if_false, gm_w_id, xX4_readSingle_0, xX4_readSingle_1, xX4_readSingle_2, xX4_readSingle_3, xX4_readSingle_4, xX4_readSingle_5, xX4_readSingle_6, gn_K_O, z81, f0, c0, c1', gn_ok]
    · rw [if_neg c1] at h
      have c1' : dep < 4 := by omega
      by_cases c2 : gn_ch t n p = 40
      · rw [if_pos c2] at h
        rcases hy : gn_ps t n f 3 (dep + 1) acc (p + 1) with _ | ⟨_ | e, q'⟩
        · rw [hy] at h; simp at h
        · rw [hy] at h
          simp only [Option.some.injEq, Prod.mk.injEq] at h
          obtain ⟨rfl, rfl⟩ := h
          obtain ⟨S', e4, hb4, -⟩ := h2 (dep + 1) acc (p + 1) none q' S d hy (by omega) (by omega) (by omega) (by omega)
          refine ⟨S', ?_, hb4, fun e h => by simp at h⟩
          rw [eX4_readSingle _ _ _ (Nat.le_of_ble_eq_true rfl)]
          simp (config := { maxSteps := 2000000 }) (disch := first | omega | assumption | (simp only [gm_isO_sF, gm_isO_sA, gm_isO_cp]; assumption)) only [gm_push, gm_iload, gm_lload, gm_aload, gm_istore, gm_astore, gm_iinc, gm_op2, gm_quo, gm_op1, gm_lop2, gm_lshl, gm_i2l, gm_l2i, gm_lcmp, gm_dup, gm_pop1, gm_dup2, gm_goto, gm_ifeq, gm_ifne, gm_iflt, gm_ifge, gm_ifgt, gm_ifle, gm_ceq, gm_cne, gm_clt, gm_cge, gm_cgt, gm_cle, gm_ifnull, gm_ifnonnull, gm_swk, gm_switch, gm_getI, gm_getR, gm_putI, gm_putZ, gm_putR, gm_new, gm_newarr, gm_iald, gm_cald, gm_zald, gm_lald, gm_aald, gm_iast, gm_cast, gm_zast, gm_last, gm_aast, gm_acp, gm_oinit, gm_back, gm_scall, gm_vcall, gm_iret, gm_zret, gm_cret, gm_lret, gm_aret, gm_vret, gm_slen, gm_schar, gm_sidx, gm_lget, gm_lset, gm_nl, gm_ent, gm_wd, gm_pop, gm_pad, gm_xl_c, gm_alen_u, gm_1_sF, gm_1_sA, gm_1_cp, gm_len_sF, gm_len_sA, gm_len_cp, Bool.or_true, Bool.true_or, gm_max_u, gm_min_u, gm_isO_sF, gm_isO_sA, gm_isO_cp, gm_gF_sF, gm_gF_sA, gm_gA_sF, gm_gA_sA, gm_gF_cp, gm_gA_cp, gm_add, gm_sub, gm_mul, gm_neg, ↓reduceIte, Nat.reduceAdd, Nat.reduceLeDiff, true_and, and_true, and_self, true_or, or_true, false_and, and_false, false_or, or_false, eq_self, Nat.reduceEqDiff, Int.reduceEq, Int.reduceLT, Int.reduceLE, Int.reduceNeg, Int.reduceAdd, Int.reduceSub, Int.reduceMul, Int.reduceDiv, Int.reduceMod, reduceCtorEq, if_true, if_false, gm_w_id, xX4_readSingle_0, xX4_readSingle_1, xX4_readSingle_2, xX4_readSingle_3, xX4_readSingle_4, xX4_readSingle_5, xX4_readSingle_6, gn_K_O, gn_K_p, pp, z81, f0, c2, c1', e4, gn_ok]
        · rw [hy] at h
          obtain ⟨a1, a2, a3⟩ := gn_ps_b _ _ _ _ _ _ _ hy (by omega)
          obtain ⟨S', e4, hb4, h4⟩ := h2 (dep + 1) acc (p + 1) (some e) q' S d hy (by omega) (by omega) (by omega) (by omega)
          have e5 := r_X4_readSign (D := d) (by omega) (hR.K (S := S') hc (show 0 ≤ q' ∧ q' ≤ n by omega)) (s := 41) (by decide)
          rw [gn_K_p] at e5
          by_cases c3 : gn_ch t n q' = 41
          · simp only [if_pos c3, Option.some.injEq, Prod.mk.injEq] at h
            obtain ⟨rfl, rfl⟩ := h
            rw [if_pos c3] at e5
            refine ⟨S', ?_, hb4, fun e' h => h4 e' h⟩
            rw [eX4_readSingle _ _ _ (Nat.le_of_ble_eq_true rfl)]
            simp (config := { maxSteps := 2000000 }) (disch := first | omega | assumption | (simp only [gm_isO_sF, gm_isO_sA, gm_isO_cp]; assumption)) only [gm_push, gm_iload, gm_lload, gm_aload, gm_istore, gm_astore, gm_iinc, gm_op2, gm_quo, gm_op1, gm_lop2, gm_lshl, gm_i2l, gm_l2i, gm_lcmp, gm_dup, gm_pop1, gm_dup2, gm_goto, gm_ifeq, gm_ifne, gm_iflt, gm_ifge, gm_ifgt, gm_ifle, gm_ceq, gm_cne, gm_clt, gm_cge, gm_cgt, gm_cle, gm_ifnull, gm_ifnonnull, gm_swk, gm_switch, gm_getI, gm_getR, gm_putI, gm_putZ, gm_putR, gm_new, gm_newarr, gm_iald, gm_cald, gm_zald, gm_lald, gm_aald, gm_iast, gm_cast, gm_zast, gm_last, gm_aast, gm_acp, gm_oinit, gm_back, gm_scall, gm_vcall, gm_iret, gm_zret, gm_cret, gm_lret, gm_aret, gm_vret, gm_slen, gm_schar, gm_sidx, gm_lget, gm_lset, gm_nl, gm_ent, gm_wd, gm_pop, gm_pad, gm_xl_c, gm_alen_u, gm_1_sF, gm_1_sA, gm_1_cp, gm_len_sF, gm_len_sA, gm_len_cp, Bool.or_true, Bool.true_or, gm_max_u, gm_min_u, gm_isO_sF, gm_isO_sA, gm_isO_cp, gm_gF_sF, gm_gF_sA, gm_gA_sF, gm_gA_sA, gm_gF_cp, gm_gA_cp, gm_add, gm_sub, gm_mul, gm_neg, ↓reduceIte, Nat.reduceAdd, Nat.reduceLeDiff, true_and, and_true, and_self, true_or, or_true, false_and, and_false, false_or, or_false, eq_self, Nat.reduceEqDiff, Int.reduceEq, Int.reduceLT, Int.reduceLE, Int.reduceNeg, Int.reduceAdd, Int.reduceSub, Int.reduceMul, Int.reduceDiv, Int.reduceMod, reduceCtorEq, if_true, if_false, gm_w_id, xX4_readSingle_0, xX4_readSingle_1, xX4_readSingle_2, xX4_readSingle_3, xX4_readSingle_4, xX4_readSingle_5, xX4_readSingle_6, gn_K_O, gn_K_p, pp, z81, f0, c2, c1', e4, e5, gn_ok]
          · simp only [if_neg c3, Option.some.injEq, Prod.mk.injEq] at h
            obtain ⟨rfl, rfl⟩ := h
            rw [if_neg c3] at e5
            refine ⟨S', ?_, hb4, fun e' h => by simp at h⟩
            rw [eX4_readSingle _ _ _ (Nat.le_of_ble_eq_true rfl)]
            simp (config := { maxSteps := 2000000 }) (disch := first | omega | assumption | (simp only [gm_isO_sF, gm_isO_sA, gm_isO_cp]; assumption)) only [gm_push, gm_iload, gm_lload, gm_aload, gm_istore, gm_astore, gm_iinc, gm_op2, gm_quo, gm_op1, gm_lop2, gm_lshl, gm_i2l, gm_l2i, gm_lcmp, gm_dup, gm_pop1, gm_dup2, gm_goto, gm_ifeq, gm_ifne, gm_iflt, gm_ifge, gm_ifgt, gm_ifle, gm_ceq, gm_cne, gm_clt, gm_cge, gm_cgt, gm_cle, gm_ifnull, gm_ifnonnull, gm_swk, gm_switch, gm_getI, gm_getR, gm_putI, gm_putZ, gm_putR, gm_new, gm_newarr, gm_iald, gm_cald, gm_zald, gm_lald, gm_aald, gm_iast, gm_cast, gm_zast, gm_last, gm_aast, gm_acp, gm_oinit, gm_back, gm_scall, gm_vcall, gm_iret, gm_zret, gm_cret, gm_lret, gm_aret, gm_vret, gm_slen, gm_schar, gm_sidx, gm_lget, gm_lset, gm_nl, gm_ent, gm_wd, gm_pop, gm_pad, gm_xl_c, gm_alen_u, gm_1_sF, gm_1_sA, gm_1_cp, gm_len_sF, gm_len_sA, gm_len_cp, Bool.or_true, Bool.true_or, gm_max_u, gm_min_u, gm_isO_sF, gm_isO_sA, gm_isO_cp, gm_gF_sF, gm_gF_sA, gm_gA_sF, gm_gA_sA, gm_gF_cp, gm_gA_cp, gm_add, gm_sub, gm_mul, gm_neg, ↓reduceIte, Nat.reduceAdd, Nat.reduceLeDiff, true_and, and_true, and_self, true_or, or_true, false_and, and_false, false_or, or_false, eq_self, Nat.reduceEqDiff, Int.reduceEq, Int.reduceLT, Int.reduceLE, Int.reduceNeg, Int.reduceAdd, Int.reduceSub, Int.reduceMul, Int.reduceDiv, Int.reduceMod, reduceCtorEq, if_true, if_false, gm_w_id, xX4_readSingle_0, xX4_readSingle_1, xX4_readSingle_2, xX4_readSingle_3, xX4_readSingle_4, xX4_readSingle_5, xX4_readSingle_6, gn_K_O, gn_K_p, pp, z81, f0, c2, c1', e4, e5, gn_ok]
      · rw [if_neg c2] at h
        have c3 : gn_ch t n p = 33 := by omega
        rcases hy : gn_ps t n f 0 (dep + 1) acc (p + 1) with _ | ⟨_ | e, q'⟩
        · rw [hy] at h; simp at h
        · rw [hy] at h
          simp only [Option.some.injEq, Prod.mk.injEq] at h
          obtain ⟨rfl, rfl⟩ := h
          obtain ⟨S', e4, hb4, -⟩ := h1 (dep + 1) acc (p + 1) none q' S d hy (by omega) (by omega) (by omega) (by omega)
          refine ⟨S', ?_, hb4, fun e h => by simp at h⟩
          rw [eX4_readSingle _ _ _ (Nat.le_of_ble_eq_true rfl)]
          simp (config := { maxSteps := 2000000 }) (disch := first | omega | assumption | (simp only [gm_isO_sF, gm_isO_sA, gm_isO_cp]; assumption)) only [gm_push, gm_iload, gm_lload, gm_aload, gm_istore, gm_astore, gm_iinc, gm_op2, gm_quo, gm_op1, gm_lop2, gm_lshl, gm_i2l, gm_l2i, gm_lcmp, gm_dup, gm_pop1, gm_dup2, gm_goto, gm_ifeq, gm_ifne, gm_iflt, gm_ifge, gm_ifgt, gm_ifle, gm_ceq, gm_cne, gm_clt, gm_cge, gm_cgt, gm_cle, gm_ifnull, gm_ifnonnull, gm_swk, gm_switch, gm_getI, gm_getR, gm_putI, gm_putZ, gm_putR, gm_new, gm_newarr, gm_iald, gm_cald, gm_zald, gm_lald, gm_aald, gm_iast, gm_cast, gm_zast, gm_last, gm_aast, gm_acp, gm_oinit, gm_back, gm_scall, gm_vcall, gm_iret, gm_zret, gm_cret, gm_lret, gm_aret, gm_vret, gm_slen, gm_schar, gm_sidx, gm_lget, gm_lset, gm_nl, gm_ent, gm_wd, gm_pop, gm_pad, gm_xl_c, gm_alen_u, gm_1_sF, gm_1_sA, gm_1_cp, gm_len_sF, gm_len_sA, gm_len_cp, Bool.or_true, Bool.true_or, gm_max_u, gm_min_u, gm_isO_sF, gm_isO_sA, gm_isO_cp, gm_gF_sF, gm_gF_sA, gm_gA_sF, gm_gA_sA, gm_gF_cp, gm_gA_cp, gm_add, gm_sub, gm_mul, gm_neg, ↓reduceIte, Nat.reduceAdd, Nat.reduceLeDiff, true_and, and_true, and_self, true_or, or_true, false_and, and_false, false_or, or_false, eq_self, Nat.reduceEqDiff, Int.reduceEq, Int.reduceLT, Int.reduceLE, Int.reduceNeg, Int.reduceAdd, Int.reduceSub, Int.reduceMul, Int.reduceDiv, Int.reduceMod, reduceCtorEq, if_true, if_false, gm_w_id, xX4_readSingle_0, xX4_readSingle_1, xX4_readSingle_2, xX4_readSingle_3, xX4_readSingle_4, xX4_readSingle_5, xX4_readSingle_6, gn_K_O, gn_K_p, pp, z81, f0, c3, c1', e4, gn_ok]
        · rw [hy] at h
          obtain ⟨a1, a2, a3⟩ := gn_ps_b _ _ _ _ _ _ _ hy (by omega)
          have a4 := (a3 e rfl).1 (by decide)
          obtain ⟨S', e4, hb4, h4⟩ := h1 (dep + 1) acc (p + 1) (some e) q' S d hy (by omega) (by omega) (by omega) (by omega)
          have h5 := h4 e rfl
          have hle := a4.1.2.1 (S.length : Int)
          have hl5 : (S'.length : Int) = (S.length : Int) + gn_sz e := by
            rw [h5, List.length_append]
            omega
          simp only [Option.some.injEq, Prod.mk.injEq] at h
          obtain ⟨rfl, rfl⟩ := h
          have e5 := r_X0_addStep (D := d) (by omega) (p := q') (x := 18) (y := 0) hR.1 hO hc S' (by omega)
          have bs : 0 ≤ (S'.length : Int) ∧ (S'.length : Int) ≤ 100 := by omega
          refine ⟨S' ++ [(18, 0)], ?_, by simp; omega, fun e' h => ?_⟩
          · rw [eX4_readSingle _ _ _ (Nat.le_of_ble_eq_true rfl)]
            simp (config := { maxSteps := 2000000 }) (disch := first | omega | assumption | (simp only [gm_isO_sF, gm_isO_sA, gm_isO_cp]; assumption)) only [gm_push, gm_iload, gm_lload, gm_aload, gm_istore, gm_astore, gm_iinc, gm_op2, gm_quo, gm_op1, gm_lop2, gm_lshl, gm_i2l, gm_l2i, gm_lcmp, gm_dup, gm_pop1, gm_dup2, gm_goto, gm_ifeq, gm_ifne, gm_iflt, gm_ifge, gm_ifgt, gm_ifle, gm_ceq, gm_cne, gm_clt, gm_cge, gm_cgt, gm_cle, gm_ifnull, gm_ifnonnull, gm_swk, gm_switch, gm_getI, gm_getR, gm_putI, gm_putZ, gm_putR, gm_new, gm_newarr, gm_iald, gm_cald, gm_zald, gm_lald, gm_aald, gm_iast, gm_cast, gm_zast, gm_last, gm_aast, gm_acp, gm_oinit, gm_back, gm_scall, gm_vcall, gm_iret, gm_zret, gm_cret, gm_lret, gm_aret, gm_vret, gm_slen, gm_schar, gm_sidx, gm_lget, gm_lset, gm_nl, gm_ent, gm_wd, gm_pop, gm_pad, gm_xl_c, gm_alen_u, gm_1_sF, gm_1_sA, gm_1_cp, gm_len_sF, gm_len_sA, gm_len_cp, Bool.or_true, Bool.true_or, gm_max_u, gm_min_u, gm_isO_sF, gm_isO_sA, gm_isO_cp, gm_gF_sF, gm_gF_sA, gm_gA_sF, gm_gA_sA, gm_gF_cp, gm_gA_cp, gm_add, gm_sub, gm_mul, gm_neg, ↓reduceIte, Nat.reduceAdd, Nat.reduceLeDiff, true_and, and_true, and_self, true_or, or_true, false_and, and_false, false_or, or_false, eq_self, Nat.reduceEqDiff, Int.reduceEq, Int.reduceLT, Int.reduceLE, Int.reduceNeg, Int.reduceAdd, Int.reduceSub, Int.reduceMul, Int.reduceDiv, Int.reduceMod, reduceCtorEq, if_true, if_false, gm_w_id, xX4_readSingle_0, xX4_readSingle_1, xX4_readSingle_2, xX4_readSingle_3, xX4_readSingle_4, xX4_readSingle_5, xX4_readSingle_6, gn_K_O, gn_K_p, pp, z81, f0, c3, c1', e4, e5, hO, gn_ok]
          · obtain rfl : gn_Xn e = e' := by simpa using h
            rw [h5, List.append_assoc]
            rfl
  · rw [if_neg c0] at h
    have hts := gn_ts_b (t := t) hp.2
    simp only [Option.some.injEq] at h
    obtain ⟨S', e4, hb4, h4⟩ := r_X4_readTest (D := d) (by omega) hR hO hc hp S hb
    rw [h] at e4 h4
    refine ⟨S', ?_, hb4, h4⟩
    have c33 : ¬ gn_c0 t n p = 33 := fun z => c0 (Or.inl ((gn_c0_ch (by decide)).mp z))
    have c40 : ¬ gn_c0 t n p = 40 := fun z => c0 (Or.inr ((gn_c0_ch (by decide)).mp z))
    generalize gn_c0 t n p = x at *
    have o1 : gn_ok r = 0 ∨ gn_ok r = 1 := by rcases r with _ | e <;> simp [gn_ok]
    generalize gn_ok r = y at *
    rw [eX4_readSingle _ _ _ (Nat.le_of_ble_eq_true rfl)]
    simp (config := { maxSteps := 2000000 }) (disch := first | omega | assumption | (simp only [gm_isO_sF, gm_isO_sA, gm_isO_cp]; assumption)) only [gm_push, gm_iload, gm_lload, gm_aload, gm_istore, gm_astore, gm_iinc, gm_op2, gm_quo, gm_op1, gm_lop2, gm_lshl, gm_i2l, gm_l2i, gm_lcmp, gm_dup, gm_pop1, gm_dup2, gm_goto, gm_ifeq, gm_ifne, gm_iflt, gm_ifge, gm_ifgt, gm_ifle, gm_ceq, gm_cne, gm_clt, gm_cge, gm_cgt, gm_cle, gm_ifnull, gm_ifnonnull, gm_swk, gm_switch, gm_getI, gm_getR, gm_putI, gm_putZ, gm_putR, gm_new, gm_newarr, gm_iald, gm_cald, gm_zald, gm_lald, gm_aald, gm_iast, gm_cast, gm_zast, gm_last, gm_aast, gm_acp, gm_oinit, gm_back, gm_scall, gm_vcall, gm_iret, gm_zret, gm_cret, gm_lret, gm_aret, gm_vret, gm_slen, gm_schar, gm_sidx, gm_lget, gm_lset, gm_nl, gm_ent, gm_wd, gm_pop, gm_pad, gm_xl_c, gm_alen_u, gm_1_sF, gm_1_sA, gm_1_cp, gm_len_sF, gm_len_sA, gm_len_cp, Bool.or_true, Bool.true_or, gm_max_u, gm_min_u, gm_isO_sF, gm_isO_sA, gm_isO_cp, gm_gF_sF, gm_gF_sA, gm_gA_sF, gm_gA_sA, gm_gF_cp, gm_gA_cp, gm_add, gm_sub, gm_mul, gm_neg, ↓reduceIte, Nat.reduceAdd, Nat.reduceLeDiff, true_and, and_true, and_self, true_or, or_true, false_and, and_false, false_or, or_false, eq_self, Nat.reduceEqDiff, Int.reduceEq, Int.reduceLT, Int.reduceLE, Int.reduceNeg, Int.reduceAdd, Int.reduceSub, Int.reduceMul, Int.reduceDiv, Int.reduceMod, reduceCtorEq, if_true, if_false, gm_w_id, xX4_readSingle_0, xX4_readSingle_1, xX4_readSingle_2, xX4_readSingle_3, xX4_readSingle_4, xX4_readSingle_5, xX4_readSingle_6, gn_K_O, z81, f0, c33, c40, e4, o1]
theorem gn_cs {t : Int → Int} {n p0 c : Int} {M : gm_M} (hR : gn_Rd t n p0 M) (hO : gm_isO 0 M c = true) (hc : 94 ≤ c ∧ c ≤ 135) : ∀ f : Nat, gn_c1s t n c M f ∧ gn_cch t n c M 38 1 6 f ∧ gn_ctl t n c M 38 2 5 f ∧ gn_cch t n c M 124 3 7 f ∧ gn_ctl t n c M 124 4 6 f := by
  intro f
  induction f with
  | zero =>
    exact ⟨fun _ _ _ _ _ _ _ h => by simp [gn_ps] at h, fun _ _ _ _ _ _ _ h => by simp [gn_ps] at h, fun _ _ _ _ _ _ _ _ _ _ _ h => by simp [gn_ps] at h, fun _ _ _ _ _ _ _ h => by simp [gn_ps] at h, fun _ _ _ _ _ _ _ _ _ _ _ h => by simp [gn_ps] at h⟩
  | succ f ih =>
    obtain ⟨i1, i2, i3, i4, i5⟩ := ih
    exact ⟨gn_c1s_s hR hO hc i1 i4, gn_cch_a hR hO hc i1 i3, gn_ctl_a hR hO hc i1 i3, gn_cch_o hR hO hc i2 i5, gn_ctl_o hR hO hc i2 i5⟩
