/-! GROUND: the class reads a text whole -/
theorem r_X0_clear {D : Nat} (hD : 1 ≤ D) {c : Int} {M : gm_M} (hO : gm_isO 0 M c = true) : gm_go D 1 [.inr (.inr c)] M = some (none, gm_sF (gm_sF M 2 c 0) 3 c 0) := by
  obtain ⟨d, rfl⟩ : ∃ g, D = g + 1 := ⟨D - 1, by omega⟩
  rw [eX0_clear _ _ _ (Nat.le_of_ble_eq_true rfl)]
  simp (config := { maxSteps := 2000000 }) (disch := first | omega | assumption | (simp only [gm_isO_sF, gm_isO_sA, gm_isO_cp]; assumption)) only [gm_push, gm_iload, gm_lload, gm_aload, gm_istore, gm_astore, gm_iinc, gm_op2, gm_quo, gm_op1, gm_lop2, gm_lshl, gm_i2l, gm_l2i, gm_lcmp, gm_dup, gm_pop1, gm_dup2, gm_goto, gm_ifeq, gm_ifne, gm_iflt, gm_ifge, gm_ifgt, gm_ifle, gm_ceq, gm_cne, gm_clt, gm_cge, gm_cgt, gm_cle, gm_ifnull, gm_ifnonnull, gm_swk, gm_switch, gm_getI, gm_getR, gm_putI, gm_putZ, gm_putR, gm_new, gm_newarr, gm_iald, gm_cald, gm_zald, gm_lald, gm_aald, gm_iast, gm_cast, gm_zast, gm_last, gm_aast, gm_acp, gm_oinit, gm_back, gm_scall, gm_vcall, gm_iret, gm_zret, gm_cret, gm_lret, gm_aret, gm_vret, gm_slen, gm_schar, gm_sidx, gm_lget, gm_lset, gm_nl, gm_ent, gm_wd, gm_pop, gm_pad, gm_xl_c, gm_alen_u, gm_1_sF, gm_1_sA, gm_1_cp, gm_len_sF, gm_len_sA, gm_len_cp, Bool.or_true, Bool.true_or, gm_max_u, gm_min_u, gm_isO_sF, gm_isO_sA, gm_isO_cp, gm_gF_sF, gm_gF_sA, gm_gA_sF, gm_gA_sA, gm_gF_cp, gm_gA_cp, gm_add, gm_sub, gm_mul, gm_neg, ↓reduceIte, Nat.reduceAdd, Nat.reduceLeDiff, true_and, and_true, and_self, true_or, or_true, false_and, and_false, false_or, or_false, eq_self, Nat.reduceEqDiff, Int.reduceEq, Int.reduceLT, Int.reduceLE, Int.reduceNeg, Int.reduceAdd, Int.reduceSub, Int.reduceMul, Int.reduceDiv, Int.reduceMod, reduceCtorEq, if_true, if_false, gm_w_id, xX0_clear_0, hO]
def gn_s0 : gn_St := (([], 0), ([], 0), 20, 80)
def gn_cM (M : gm_M) (g : Int) : gm_M := gm_sF (gm_sF (gm_sF (gm_sF (gm_sF (gm_sF M 2 (g + 1) 0) 3 (g + 1) 0) 2 (g + 4) 0) 3 (g + 4) 0) 102 g 20) 103 g 80
theorem r_X1_clear {D : Nat} (hD : 2 ≤ D) {g : Int} {M : gm_M} (hL : gm_Lay M) (hO : gm_isO 1 M g = true) : gm_go D 8 [.inr (.inr g)] M = some (none, gn_cM M g) := by
  obtain ⟨d, rfl⟩ : ∃ g, D = g + 2 := ⟨D - 2, by omega⟩
  have l100 := gm_l100 hL hO
  have l101 := gm_l101 hL hO
  have k100 := gm_k100 hL hO
  have k101 := gm_k101 hL hO
  have e1 := r_X0_clear (D := d + 1) (by omega) k100
  have e2 := r_X0_clear (D := d + 1) (M := gm_sF (gm_sF M 2 (g + 1) 0) 3 (g + 1) 0) (c := g + 4) (by omega) k101
  rw [eX1_clear _ _ _ (Nat.le_of_ble_eq_true rfl)]
  unfold gn_cM
  simp (config := { maxSteps := 2000000 }) (disch := first | omega | assumption | (simp only [gm_isO_sF, gm_isO_sA, gm_isO_cp]; assumption)) only [gm_push, gm_iload, gm_lload, gm_aload, gm_istore, gm_astore, gm_iinc, gm_op2, gm_quo, gm_op1, gm_lop2, gm_lshl, gm_i2l, gm_l2i, gm_lcmp, gm_dup, gm_pop1, gm_dup2, gm_goto, gm_ifeq, gm_ifne, gm_iflt, gm_ifge, gm_ifgt, gm_ifle, gm_ceq, gm_cne, gm_clt, gm_cge, gm_cgt, gm_cle, gm_ifnull, gm_ifnonnull, gm_swk, gm_switch, gm_getI, gm_getR, gm_putI, gm_putZ, gm_putR, gm_new, gm_newarr, gm_iald, gm_cald, gm_zald, gm_lald, gm_aald, gm_iast, gm_cast, gm_zast, gm_last, gm_aast, gm_acp, gm_oinit, gm_back, gm_scall, gm_vcall, gm_iret, gm_zret, gm_cret, gm_lret, gm_aret, gm_vret, gm_slen, gm_schar, gm_sidx, gm_lget, gm_lset, gm_nl, gm_ent, gm_wd, gm_pop, gm_pad, gm_xl_c, gm_alen_u, gm_1_sF, gm_1_sA, gm_1_cp, gm_len_sF, gm_len_sA, gm_len_cp, Bool.or_true, Bool.true_or, gm_max_u, gm_min_u, gm_isO_sF, gm_isO_sA, gm_isO_cp, gm_gF_sF, gm_gF_sA, gm_gA_sF, gm_gA_sA, gm_gF_cp, gm_gA_cp, gm_add, gm_sub, gm_mul, gm_neg, ↓reduceIte, Nat.reduceAdd, Nat.reduceLeDiff, true_and, and_true, and_self, true_or, or_true, false_and, and_false, false_or, or_false, eq_self, Nat.reduceEqDiff, Int.reduceEq, Int.reduceLT, Int.reduceLE, Int.reduceNeg, Int.reduceAdd, Int.reduceSub, Int.reduceMul, Int.reduceDiv, Int.reduceMod, reduceCtorEq, if_true, if_false, gm_w_id, xX1_clear_0, hO, l100, l101, k100, k101, e1, e2, gn_ok2]
theorem gn_Gr0 {g : Int} {M : gm_M} (hL : gm_Lay M) (hg : 94 ≤ g ∧ g ≤ 129) : gn_Gr g M (gm_sF (gn_cM M g) 402 81 0) 0 gn_s0 := by
  unfold gn_cM
  have hL1 : gm_Lay (gm_sF (gm_sF (gm_sF (gm_sF (gm_sF (gm_sF (gm_sF M 2 (g + 1) 0) 3 (g + 1) 0) 2 (g + 4) 0) 3 (g + 4) 0) 102 g 20) 103 g 80) 402 81 0) := ((((((hL.sF _ _ _ (by decide)).sF _ _ _ (by decide)).sF _ _ _ (by decide)).sF _ _ _ (by decide)).sF _ _ _ (by decide)).sF _ _ _ (by decide)).sF _ _ _ (by decide)
  refine ⟨⟨hL1, rfl, fun f o y1 y2 => ?_, fun a i y => rfl⟩, ⟨?_, ?_, fun i i1 i2 => absurd i2 (by show ¬ i < (([] : List (Int × Int)).length : Int); simp; omega)⟩, ⟨?_, ?_, fun i i1 i2 => absurd i2 (by show ¬ i < (([] : List (Int × Int)).length : Int); simp; omega)⟩, ?_, ?_⟩
  · simp only [gm_gF_sF]
    repeat rw [if_neg (by omega)]
  · (simp (disch := omega) only [gm_gF_sF, gm_gF_sA, gm_gA_sF, gm_gA_sA, if_neg, if_pos]) <;> rfl
  · (simp (disch := omega) only [gm_gF_sF, gm_gF_sA, gm_gA_sF, gm_gA_sA, if_neg, if_pos]) <;> rfl
  · (simp (disch := omega) only [gm_gF_sF, gm_gF_sA, gm_gA_sF, gm_gA_sA, if_neg, if_pos]) <;> rfl
  · (simp (disch := omega) only [gm_gF_sF, gm_gF_sA, gm_gA_sF, gm_gA_sA, if_neg, if_pos]) <;> rfl
  · (simp (disch := omega) only [gm_gF_sF, gm_gF_sA, gm_gA_sF, gm_gA_sA, if_neg, if_pos]) <;> rfl
  · (simp (disch := omega) only [gm_gF_sF, gm_gF_sA, gm_gA_sF, gm_gA_sA, if_neg, if_pos]) <;> rfl
/-- the fault; -1: none -/
def gn_fl (r : Option (List (Int × Int × gn_X)) × Int) : Int := match r.1 with
  | some _ => -1
  | none => r.2
theorem gn_ad_len {s : gn_St} {x : Int × Int × gn_X} (hx : gn_okx x.2.2) (h0 : 0 ≤ x.1) : ((gn_ad s x).1.1.length : Int) + ((gn_ad s x).2.1.1.length : Int) ≤ (s.1.1.length : Int) + (s.2.1.1.length : Int) + (if x.1 ≤ 1 then gn_sz x.2.2 + 1 else 0) := by
  unfold gn_ad
  by_cases c0 : x.1 = 0
  · rw [if_pos c0, if_pos (by omega)]
    have := hx.2.1 (s.1.1.length : Int)
    simp only [List.length_append, List.length_cons, List.length_nil]
    omega
  · rw [if_neg c0]
    by_cases c1 : x.1 = 1
    · rw [if_pos c1, if_pos (by omega)]
      have := hx.2.1 (s.2.1.1.length : Int)
      simp only [List.length_append, List.length_cons, List.length_nil]
      omega
    · rw [if_neg c1, if_neg (show ¬ x.1 ≤ 1 by omega)]
      by_cases c2 : x.1 = 2
      · rw [if_pos c2]; simp only; omega
      · rw [if_neg c2]; simp only; omega
theorem gn_Gr.p {g p q : Int} {M M1 : gm_M} {s : gn_St} (h : gn_Gr g M M1 p s) : gn_Gr g M (gm_sF M1 402 81 q) q s := ⟨h.1.p, h.2.1.p, h.2.2.1.p, by rw [gm_gF_sF, if_neg (by omega)]; exact h.2.2.2.1, by rw [gm_gF_sF, if_neg (by omega)]; exact h.2.2.2.2⟩
theorem gn_cl_sz {t : Int → Int} {n p : Int} {s : gn_St} {x : Int × Int × gn_X} {q : Int} (hn : n ≤ 100) (h0 : 0 ≤ p) (hp : p ≤ n) (hS : (s.1.1.length : Int) + (s.2.1.1.length : Int) + (n - p) ≤ 100) (h : gn_cl t n p = (some x, q)) : (p ≤ q ∧ q ≤ n) ∧ ((gn_ad s x).1.1.length : Int) + ((gn_ad s x).2.1.1.length : Int) + (n - q) ≤ 100 := by
  have hb := gn_cl_b (t := t) hn h0 hp
  rw [h] at hb
  obtain ⟨b1, b2, b3⟩ := hb
  simp only at b1 b2 b3
  obtain ⟨d1, d2, d3, d4, d5⟩ := b3 x rfl
  have hl := gn_ad_len (s := s) d3 d1.1
  by_cases c : x.1 ≤ 1
  · rw [if_pos c] at hl
    have := d5 c
    omega
  · rw [if_neg c] at hl
    omega
theorem r_X4_fill_loop {d : Nat} (hd : 23 ≤ d) {t : Int → Int} {n p0 g : Int} {M : gm_M} (hR : gn_Rd t n p0 M) (hO : gm_isO 1 M g = true) (hg : 94 ≤ g ∧ g ≤ 129) : ∀ (k : Nat) (i p : Int) (F : Nat) (M1 : gm_M) (s : gn_St), i + k = 10 → 0 ≤ i → 3 * k + 10 ≤ F → gn_Gr g M M1 p s → (0 ≤ p ∧ p ≤ n) → (s.1.1.length : Int) + (s.2.1.1.length : Int) + (n - p) ≤ 100 →
    ∃ M2, gm_ex (gm_go d) qX4_fill F 1 [some (.inr (.inr 81)), some (.inr (.inr g)), some (.inl 1), some (.inl i)] [] M1 = some (some (.inl (gn_fl (gn_tll t n k p))), gm_sF M2 401 81 0) ∧ gn_Gf g M M2 (gn_tll t n k p).2 ∧ ∀ l, (gn_tll t n k p).1 = some l → gn_Gr g M M2 (gn_tll t n k p).2 (l.foldl gn_ad s) := by
  have hn := hR.2.2.2.1
  -- the end
  have fin : ∀ (F : Nat) (i p fine : Int) (M1 : gm_M), (fine = 0 ∨ fine = 1) → gn_Gf g M M1 p → (0 ≤ p ∧ p ≤ n) → gm_ex (gm_go d) qX4_fill (F + 3) 2 [some (.inr (.inr 81)), some (.inr (.inr g)), some (.inl fine), some (.inl i)] [] M1 = some (some (.inl (if fine = 1 ∧ p = n then -1 else p)), gm_sF M1 401 81 0) := fun F i p fine M1 hfine hf hp => by
    have hR1 := hf.Rd hg hR hp
    have z81 := gm_z81 hR1.1
    have e1 := hR1.2.1
    have e2 := hR1.2.2.1
    rw [xX4_fill_2]
    rcases hfine with rfl | rfl
    · simp (config := { maxSteps := 2000000 }) (disch := first | omega | assumption | (simp only [gm_isO_sF, gm_isO_sA, gm_isO_cp]; assumption)) only [gm_push, gm_iload, gm_lload, gm_aload, gm_istore, gm_astore, gm_iinc, gm_op2, gm_quo, gm_op1, gm_lop2, gm_lshl, gm_i2l, gm_l2i, gm_lcmp, gm_dup, gm_pop1, gm_dup2, gm_goto, gm_ifeq, gm_ifne, gm_iflt, gm_ifge, gm_ifgt, gm_ifle, gm_ceq, gm_cne, gm_clt, gm_cge, gm_cgt, gm_cle, gm_ifnull, gm_ifnonnull, gm_swk, gm_switch, gm_getI, gm_getR, gm_putI, gm_putZ, gm_putR, gm_new, gm_newarr, gm_iald, gm_cald, gm_zald, gm_lald, gm_aald, gm_iast, gm_cast, gm_zast, gm_last, gm_aast, gm_acp, gm_oinit, gm_back, gm_scall, gm_vcall, gm_iret, gm_zret, gm_cret, gm_lret, gm_aret, gm_vret, gm_slen, gm_schar, gm_sidx, gm_lget, gm_lset, gm_nl, gm_ent, gm_wd, gm_pop, gm_pad, gm_xl_c, gm_alen_u, gm_1_sF, gm_1_sA, gm_1_cp, gm_len_sF, gm_len_sA, gm_len_cp, Bool.or_true, Bool.true_or, gm_max_u, gm_min_u, gm_isO_sF, gm_isO_sA, gm_isO_cp, gm_gF_sF, gm_gF_sA, gm_gA_sF, gm_gA_sA, gm_gF_cp, gm_gA_cp, gm_add, gm_sub, gm_mul, gm_neg, ↓reduceIte, Nat.reduceAdd, Nat.reduceLeDiff, true_and, and_true, and_self, true_or, or_true, false_and, and_false, false_or, or_false, eq_self, Nat.reduceEqDiff, Int.reduceEq, Int.reduceLT, Int.reduceLE, Int.reduceNeg, Int.reduceAdd, Int.reduceSub, Int.reduceMul, Int.reduceDiv, Int.reduceMod, reduceCtorEq, if_true, if_false, gm_w_id, xX4_fill_3, xX4_fill_4, z81, e1, e2, gn_ok2]
    · by_cases c : p = n
      · subst c
        simp (config := { maxSteps := 2000000 }) (disch := first | omega | assumption | (simp only [gm_isO_sF, gm_isO_sA, gm_isO_cp]; assumption)) only [gm_push, gm_iload, gm_lload, gm_aload, gm_istore, gm_astore, gm_iinc, gm_op2, gm_quo, gm_op1, gm_lop2, gm_lshl, gm_i2l, gm_l2i, gm_lcmp, gm_dup, gm_pop1, gm_dup2, gm_goto, gm_ifeq, gm_ifne, gm_iflt, gm_ifge, gm_ifgt, gm_ifle, gm_ceq, gm_cne, gm_clt, gm_cge, gm_cgt, gm_cle, gm_ifnull, gm_ifnonnull, gm_swk, gm_switch, gm_getI, gm_getR, gm_putI, gm_putZ, gm_putR, gm_new, gm_newarr, gm_iald, gm_cald, gm_zald, gm_lald, gm_aald, gm_iast, gm_cast, gm_zast, gm_last, gm_aast, gm_acp, gm_oinit, gm_back, gm_scall, gm_vcall, gm_iret, gm_zret, gm_cret, gm_lret, gm_aret, gm_vret, gm_slen, gm_schar, gm_sidx, gm_lget, gm_lset, gm_nl, gm_ent, gm_wd, gm_pop, gm_pad, gm_xl_c, gm_alen_u, gm_1_sF, gm_1_sA, gm_1_cp, gm_len_sF, gm_len_sA, gm_len_cp, Bool.or_true, Bool.true_or, gm_max_u, gm_min_u, gm_isO_sF, gm_isO_sA, gm_isO_cp, gm_gF_sF, gm_gF_sA, gm_gA_sF, gm_gA_sA, gm_gF_cp, gm_gA_cp, gm_add, gm_sub, gm_mul, gm_neg, ↓reduceIte, Nat.reduceAdd, Nat.reduceLeDiff, true_and, and_true, and_self, true_or, or_true, false_and, and_false, false_or, or_false, eq_self, Nat.reduceEqDiff, Int.reduceEq, Int.reduceLT, Int.reduceLE, Int.reduceNeg, Int.reduceAdd, Int.reduceSub, Int.reduceMul, Int.reduceDiv, Int.reduceMod, reduceCtorEq, if_true, if_false, gm_w_id, xX4_fill_3, xX4_fill_4, z81, e1, e2, gn_ok2]
      · simp (config := { maxSteps := 2000000 }) (disch := first | omega | assumption | (simp only [gm_isO_sF, gm_isO_sA, gm_isO_cp]; assumption)) only [gm_push, gm_iload, gm_lload, gm_aload, gm_istore, gm_astore, gm_iinc, gm_op2, gm_quo, gm_op1, gm_lop2, gm_lshl, gm_i2l, gm_l2i, gm_lcmp, gm_dup, gm_pop1, gm_dup2, gm_goto, gm_ifeq, gm_ifne, gm_iflt, gm_ifge, gm_ifgt, gm_ifle, gm_ceq, gm_cne, gm_clt, gm_cge, gm_cgt, gm_cle, gm_ifnull, gm_ifnonnull, gm_swk, gm_switch, gm_getI, gm_getR, gm_putI, gm_putZ, gm_putR, gm_new, gm_newarr, gm_iald, gm_cald, gm_zald, gm_lald, gm_aald, gm_iast, gm_cast, gm_zast, gm_last, gm_aast, gm_acp, gm_oinit, gm_back, gm_scall, gm_vcall, gm_iret, gm_zret, gm_cret, gm_lret, gm_aret, gm_vret, gm_slen, gm_schar, gm_sidx, gm_lget, gm_lset, gm_nl, gm_ent, gm_wd, gm_pop, gm_pad, gm_xl_c, gm_alen_u, gm_1_sF, gm_1_sA, gm_1_cp, gm_len_sF, gm_len_sA, gm_len_cp, Bool.or_true, Bool.true_or, gm_max_u, gm_min_u, gm_isO_sF, gm_isO_sA, gm_isO_cp, gm_gF_sF, gm_gF_sA, gm_gA_sF, gm_gA_sA, gm_gF_cp, gm_gA_cp, gm_add, gm_sub, gm_mul, gm_neg, ↓reduceIte, Nat.reduceAdd, Nat.reduceLeDiff, true_and, and_true, and_self, true_or, or_true, false_and, and_false, false_or, or_false, eq_self, Nat.reduceEqDiff, Int.reduceEq, Int.reduceLT, Int.reduceLE, Int.reduceNeg, Int.reduceAdd, Int.reduceSub, Int.reduceMul, Int.reduceDiv, Int.reduceMod, reduceCtorEq, if_true, if_false, gm_w_id, xX4_fill_3, xX4_fill_4, z81, e1, e2, c]
  intro k
  induction k with
  | zero =>
    intro i p F M1 s hi h0 hF h hp hS
    obtain ⟨F, rfl⟩ : ∃ g, F = g + 4 := ⟨F - 4, by omega⟩
    have hi : i = 10 := by omega
    subst hi
    have e := fin F 10 p 1 M1 (Or.inr rfl) h.1 hp
    refine ⟨M1, ?_, ?_, fun l hl => ?_⟩
    · have e3 : gn_fl (gn_tll t n 0 p) = if (1 : Int) = 1 ∧ p = n then -1 else p := by
        unfold gn_tll gn_fl
        by_cases c : p = n
        · rw [if_pos c, if_pos ⟨rfl, c⟩]
        · rw [if_neg c, if_neg (fun z => c z.2)]
      rw [e3, ← e, xX4_fill_1]
      simp (config := { maxSteps := 2000000 }) (disch := first | omega | assumption | (simp only [gm_isO_sF, gm_isO_sA, gm_isO_cp]; assumption)) only [gm_push, gm_iload, gm_lload, gm_aload, gm_istore, gm_astore, gm_iinc, gm_op2, gm_quo, gm_op1, gm_lop2, gm_lshl, gm_i2l, gm_l2i, gm_lcmp, gm_dup, gm_pop1, gm_dup2, gm_goto, gm_ifeq, gm_ifne, gm_iflt, gm_ifge, gm_ifgt, gm_ifle, gm_ceq, gm_cne, gm_clt, gm_cge, gm_cgt, gm_cle, gm_ifnull, gm_ifnonnull, gm_swk, gm_switch, gm_getI, gm_getR, gm_putI, gm_putZ, gm_putR, gm_new, gm_newarr, gm_iald, gm_cald, gm_zald, gm_lald, gm_aald, gm_iast, gm_cast, gm_zast, gm_last, gm_aast, gm_acp, gm_oinit, gm_back, gm_scall, gm_vcall, gm_iret, gm_zret, gm_cret, gm_lret, gm_aret, gm_vret, gm_slen, gm_schar, gm_sidx, gm_lget, gm_lset, gm_nl, gm_ent, gm_wd, gm_pop, gm_pad, gm_xl_c, gm_alen_u, gm_1_sF, gm_1_sA, gm_1_cp, gm_len_sF, gm_len_sA, gm_len_cp, Bool.or_true, Bool.true_or, gm_max_u, gm_min_u, gm_isO_sF, gm_isO_sA, gm_isO_cp, gm_gF_sF, gm_gF_sA, gm_gA_sF, gm_gA_sA, gm_gF_cp, gm_gA_cp, gm_add, gm_sub, gm_mul, gm_neg, ↓reduceIte, Nat.reduceAdd, Nat.reduceLeDiff, true_and, and_true, and_self, true_or, or_true, false_and, and_false, false_or, or_false, eq_self, Nat.reduceEqDiff, Int.reduceEq, Int.reduceLT, Int.reduceLE, Int.reduceNeg, Int.reduceAdd, Int.reduceSub, Int.reduceMul, Int.reduceDiv, Int.reduceMod, reduceCtorEq, if_true, if_false, gm_w_id]
    · have e3 : (gn_tll t n 0 p).2 = p := by unfold gn_tll; split <;> rfl
      rw [e3]; exact h.1
    · have e3 : (gn_tll t n 0 p).2 = p := by unfold gn_tll; split <;> rfl
      have e4 : l = [] := by
        unfold gn_tll at hl
        by_cases c : p = n
        · rw [if_pos c] at hl; exact (Option.some.inj hl).symm
        · rw [if_neg c] at hl; simp at hl
      rw [e3, e4]; exact h
  | succ k ih =>
    intro i p F M1 s hi h0 hF h hp hS
    obtain ⟨F, rfl⟩ : ∃ g, F = g + 5 := ⟨F - 5, by omega⟩
    have hi9 : i < 10 := by omega
    have hR1 := h.1.Rd hg hR hp
    have z81 := gm_z81 hR1.1
    have hO1 : gm_isO 1 M1 g = true := (gm_isO_iff hR1.1).mpr ((gm_isO_iff hR.1).mp hO)
    have e1 := r_X4_readSign (D := d) (by omega) hR1 (s := 59) (by decide)
    have e := fin (F + 1) i p 1 M1 (Or.inr rfl) h.1 hp
    by_cases c1 : p = n
    · have c2 : ¬ gn_ch t n p = 59 := by unfold gn_ch; rw [if_neg (by omega)]; decide
      rw [if_neg c2] at e1
      rw [if_pos ⟨rfl, c1⟩] at e
      have et : gn_tll t n (k + 1) p = (some [], p) := by unfold gn_tll; rw [if_pos c1]
      rw [et]
      refine ⟨M1, ?_, h.1, fun l hl => ?_⟩
      · rw [show gn_fl (some [], p) = -1 from rfl, ← e, xX4_fill_1]
        simp (config := { maxSteps := 2000000 }) (disch := first | omega | assumption | (simp only [gm_isO_sF, gm_isO_sA, gm_isO_cp]; assumption)) only [gm_push, gm_iload, gm_lload, gm_aload, gm_istore, gm_astore, gm_iinc, gm_op2, gm_quo, gm_op1, gm_lop2, gm_lshl, gm_i2l, gm_l2i, gm_lcmp, gm_dup, gm_pop1, gm_dup2, gm_goto, gm_ifeq, gm_ifne, gm_iflt, gm_ifge, gm_ifgt, gm_ifle, gm_ceq, gm_cne, gm_clt, gm_cge, gm_cgt, gm_cle, gm_ifnull, gm_ifnonnull, gm_swk, gm_switch, gm_getI, gm_getR, gm_putI, gm_putZ, gm_putR, gm_new, gm_newarr, gm_iald, gm_cald, gm_zald, gm_lald, gm_aald, gm_iast, gm_cast, gm_zast, gm_last, gm_aast, gm_acp, gm_oinit, gm_back, gm_scall, gm_vcall, gm_iret, gm_zret, gm_cret, gm_lret, gm_aret, gm_vret, gm_slen, gm_schar, gm_sidx, gm_lget, gm_lset, gm_nl, gm_ent, gm_wd, gm_pop, gm_pad, gm_xl_c, gm_alen_u, gm_1_sF, gm_1_sA, gm_1_cp, gm_len_sF, gm_len_sA, gm_len_cp, Bool.or_true, Bool.true_or, gm_max_u, gm_min_u, gm_isO_sF, gm_isO_sA, gm_isO_cp, gm_gF_sF, gm_gF_sA, gm_gA_sF, gm_gA_sA, gm_gF_cp, gm_gA_cp, gm_add, gm_sub, gm_mul, gm_neg, ↓reduceIte, Nat.reduceAdd, Nat.reduceLeDiff, true_and, and_true, and_self, true_or, or_true, false_and, and_false, false_or, or_false, eq_self, Nat.reduceEqDiff, Int.reduceEq, Int.reduceLT, Int.reduceLE, Int.reduceNeg, Int.reduceAdd, Int.reduceSub, Int.reduceMul, Int.reduceDiv, Int.reduceMod, reduceCtorEq, if_true, if_false, gm_w_id, z81, hi9, e1]
      · obtain rfl := Option.some.inj hl
        exact h
    · rw [if_neg (fun z => c1 z.2)] at e
      by_cases c2 : gn_ch t n p = 59
      · rw [if_pos c2] at e1
        have p1 := gn_ch_lt (t := t) (n := n) (p := p) (by omega)
        rcases hcl : gn_cl t n (p + 1) with ⟨_ | x, q⟩
        · obtain ⟨M2, e2, g2, -⟩ := r_X4_readClause hR hO hg (D := d) hd (h.p (q := p + 1)) (by omega) (by omega) hcl
          have hb := gn_cl_b (t := t) hn.2 (show 0 ≤ p + 1 by omega) (show p + 1 ≤ n by omega)
          rw [hcl] at hb
          have hb1 : p + 1 ≤ q ∧ q ≤ n := ⟨hb.1, hb.2.1⟩
          have e3 := fin F (i + 1) q 0 M2 (Or.inl rfl) g2 (by omega)
          rw [if_neg (by omega)] at e3
          have et : gn_tll t n (k + 1) p = (none, q) := by unfold gn_tll; rw [if_neg c1, if_neg (fun z => z c2), hcl]
          rw [et]
          refine ⟨M2, ?_, g2, fun l hl => by simp at hl⟩
          rw [show gn_fl ((none : Option (List (Int × Int × gn_X))), q) = q from rfl, ← e3, xX4_fill_1]
          by_cases c3 : i + 1 < 10
          · simp (config := { maxSteps := 2000000 }) (disch := first | omega | assumption | (simp only [gm_isO_sF, gm_isO_sA, gm_isO_cp]; assumption)) only [gm_push, gm_iload, gm_lload, gm_aload, gm_istore, gm_astore, gm_iinc, gm_op2, gm_quo, gm_op1, gm_lop2, gm_lshl, gm_i2l, gm_l2i, gm_lcmp, gm_dup, gm_pop1, gm_dup2, gm_goto, gm_ifeq, gm_ifne, gm_iflt, gm_ifge, gm_ifgt, gm_ifle, gm_ceq, gm_cne, gm_clt, gm_cge, gm_cgt, gm_cle, gm_ifnull, gm_ifnonnull, gm_swk, gm_switch, gm_getI, gm_getR, gm_putI, gm_putZ, gm_putR, gm_new, gm_newarr, gm_iald, gm_cald, gm_zald, gm_lald, gm_aald, gm_iast, gm_cast, gm_zast, gm_last, gm_aast, gm_acp, gm_oinit, gm_back, gm_scall, gm_vcall, gm_iret, gm_zret, gm_cret, gm_lret, gm_aret, gm_vret, gm_slen, gm_schar, gm_sidx, gm_lget, gm_lset, gm_nl, gm_ent, gm_wd, gm_pop, gm_pad, gm_xl_c, gm_alen_u, gm_1_sF, gm_1_sA, gm_1_cp, gm_len_sF, gm_len_sA, gm_len_cp, Bool.or_true, Bool.true_or, gm_max_u, gm_min_u, gm_isO_sF, gm_isO_sA, gm_isO_cp, gm_gF_sF, gm_gF_sA, gm_gA_sF, gm_gA_sA, gm_gF_cp, gm_gA_cp, gm_add, gm_sub, gm_mul, gm_neg, ↓reduceIte, Nat.reduceAdd, Nat.reduceLeDiff, true_and, and_true, and_self, true_or, or_true, false_and, and_false, false_or, or_false, eq_self, Nat.reduceEqDiff, Int.reduceEq, Int.reduceLT, Int.reduceLE, Int.reduceNeg, Int.reduceAdd, Int.reduceSub, Int.reduceMul, Int.reduceDiv, Int.reduceMod, reduceCtorEq, if_true, if_false, gm_w_id, z81, hi9, e1, e2, gn_ok2, hO1, xX4_fill_1, c3]
          · simp (config := { maxSteps := 2000000 }) (disch := first | omega | assumption | (simp only [gm_isO_sF, gm_isO_sA, gm_isO_cp]; assumption)) only [gm_push, gm_iload, gm_lload, gm_aload, gm_istore, gm_astore, gm_iinc, gm_op2, gm_quo, gm_op1, gm_lop2, gm_lshl, gm_i2l, gm_l2i, gm_lcmp, gm_dup, gm_pop1, gm_dup2, gm_goto, gm_ifeq, gm_ifne, gm_iflt, gm_ifge, gm_ifgt, gm_ifle, gm_ceq, gm_cne, gm_clt, gm_cge, gm_cgt, gm_cle, gm_ifnull, gm_ifnonnull, gm_swk, gm_switch, gm_getI, gm_getR, gm_putI, gm_putZ, gm_putR, gm_new, gm_newarr, gm_iald, gm_cald, gm_zald, gm_lald, gm_aald, gm_iast, gm_cast, gm_zast, gm_last, gm_aast, gm_acp, gm_oinit, gm_back, gm_scall, gm_vcall, gm_iret, gm_zret, gm_cret, gm_lret, gm_aret, gm_vret, gm_slen, gm_schar, gm_sidx, gm_lget, gm_lset, gm_nl, gm_ent, gm_wd, gm_pop, gm_pad, gm_xl_c, gm_alen_u, gm_1_sF, gm_1_sA, gm_1_cp, gm_len_sF, gm_len_sA, gm_len_cp, Bool.or_true, Bool.true_or, gm_max_u, gm_min_u, gm_isO_sF, gm_isO_sA, gm_isO_cp, gm_gF_sF, gm_gF_sA, gm_gA_sF, gm_gA_sA, gm_gF_cp, gm_gA_cp, gm_add, gm_sub, gm_mul, gm_neg, ↓reduceIte, Nat.reduceAdd, Nat.reduceLeDiff, true_and, and_true, and_self, true_or, or_true, false_and, and_false, false_or, or_false, eq_self, Nat.reduceEqDiff, Int.reduceEq, Int.reduceLT, Int.reduceLE, Int.reduceNeg, Int.reduceAdd, Int.reduceSub, Int.reduceMul, Int.reduceDiv, Int.reduceMod, reduceCtorEq, if_true, if_false, gm_w_id, z81, hi9, e1, e2, gn_ok2, hO1, xX4_fill_1, c3]
        · obtain ⟨M2, e2, g2, g3⟩ := r_X4_readClause hR hO hg (D := d) hd (h.p (q := p + 1)) (by omega) (by omega) hcl
          obtain ⟨hq, hsz⟩ := gn_cl_sz (s := s) hn.2 (by omega) (by omega) (by omega) hcl
          obtain ⟨M3, e3, g4, g5⟩ := ih (i + 1) q (F + 4) M2 (gn_ad s x) (by omega) (by omega) (by omega) (g3 x rfl) (by omega) hsz
          have e4 : gm_ex (gm_go d) qX4_fill (F + 5) 1 [some (.inr (.inr 81)), some (.inr (.inr g)), some (.inl 1), some (.inl i)] [] M1 = gm_ex (gm_go d) qX4_fill (F + 4) 1 [some (.inr (.inr 81)), some (.inr (.inr g)), some (.inl 1), some (.inl (i + 1))] [] M2 := by
            rw [xX4_fill_1]
            simp (config := { maxSteps := 2000000 }) (disch := first | omega | assumption | (simp only [gm_isO_sF, gm_isO_sA, gm_isO_cp]; assumption)) only [gm_push, gm_iload, gm_lload, gm_aload, gm_istore, gm_astore, gm_iinc, gm_op2, gm_quo, gm_op1, gm_lop2, gm_lshl, gm_i2l, gm_l2i, gm_lcmp, gm_dup, gm_pop1, gm_dup2, gm_goto, gm_ifeq, gm_ifne, gm_iflt, gm_ifge, gm_ifgt, gm_ifle, gm_ceq, gm_cne, gm_clt, gm_cge, gm_cgt, gm_cle, gm_ifnull, gm_ifnonnull, gm_swk, gm_switch, gm_getI, gm_getR, gm_putI, gm_putZ, gm_putR, gm_new, gm_newarr, gm_iald, gm_cald, gm_zald, gm_lald, gm_aald, gm_iast, gm_cast, gm_zast, gm_last, gm_aast, gm_acp, gm_oinit, gm_back, gm_scall, gm_vcall, gm_iret, gm_zret, gm_cret, gm_lret, gm_aret, gm_vret, gm_slen, gm_schar, gm_sidx, gm_lget, gm_lset, gm_nl, gm_ent, gm_wd, gm_pop, gm_pad, gm_xl_c, gm_alen_u, gm_1_sF, gm_1_sA, gm_1_cp, gm_len_sF, gm_len_sA, gm_len_cp, Bool.or_true, Bool.true_or, gm_max_u, gm_min_u, gm_isO_sF, gm_isO_sA, gm_isO_cp, gm_gF_sF, gm_gF_sA, gm_gA_sF, gm_gA_sA, gm_gF_cp, gm_gA_cp, gm_add, gm_sub, gm_mul, gm_neg, ↓reduceIte, Nat.reduceAdd, Nat.reduceLeDiff, true_and, and_true, and_self, true_or, or_true, false_and, and_false, false_or, or_false, eq_self, Nat.reduceEqDiff, Int.reduceEq, Int.reduceLT, Int.reduceLE, Int.reduceNeg, Int.reduceAdd, Int.reduceSub, Int.reduceMul, Int.reduceDiv, Int.reduceMod, reduceCtorEq, if_true, if_false, gm_w_id, z81, hi9, e1, e2, gn_ok2, hO1]
          rw [e4]
          rcases hy : gn_tll t n k q with ⟨_ | l, q2⟩
          · have et : gn_tll t n (k + 1) p = (none, q2) := by unfold gn_tll; rw [if_neg c1, if_neg (fun z => z c2), hcl]; simp only [hy]
            rw [hy] at e3 g4
            rw [et]
            exact ⟨M3, e3, g4, fun l hl => by simp at hl⟩
          · have et : gn_tll t n (k + 1) p = (some (x :: l), q2) := by unfold gn_tll; rw [if_neg c1, if_neg (fun z => z c2), hcl]; simp only [hy]
            rw [hy] at e3 g4 g5
            rw [et]
            refine ⟨M3, e3, g4, fun l' hl => ?_⟩
            obtain rfl := Option.some.inj hl
            exact g5 l rfl
      · rw [if_neg c2] at e1
        have et : gn_tll t n (k + 1) p = (none, p) := by unfold gn_tll; rw [if_neg c1, if_pos c2]
        rw [et]
        refine ⟨M1, ?_, h.1, fun l hl => by simp at hl⟩
        rw [show gn_fl ((none : Option (List (Int × Int × gn_X))), p) = p from rfl, ← e, xX4_fill_1]
        simp (config := { maxSteps := 2000000 }) (disch := first | omega | assumption | (simp only [gm_isO_sF, gm_isO_sA, gm_isO_cp]; assumption)) only [gm_push, gm_iload, gm_lload, gm_aload, gm_istore, gm_astore, gm_iinc, gm_op2, gm_quo, gm_op1, gm_lop2, gm_lshl, gm_i2l, gm_l2i, gm_lcmp, gm_dup, gm_pop1, gm_dup2, gm_goto, gm_ifeq, gm_ifne, gm_iflt, gm_ifge, gm_ifgt, gm_ifle, gm_ceq, gm_cne, gm_clt, gm_cge, gm_cgt, gm_cle, gm_ifnull, gm_ifnonnull, gm_swk, gm_switch, gm_getI, gm_getR, gm_putI, gm_putZ, gm_putR, gm_new, gm_newarr, gm_iald, gm_cald, gm_zald, gm_lald, gm_aald, gm_iast, gm_cast, gm_zast, gm_last, gm_aast, gm_acp, gm_oinit, gm_back, gm_scall, gm_vcall, gm_iret, gm_zret, gm_cret, gm_lret, gm_aret, gm_vret, gm_slen, gm_schar, gm_sidx, gm_lget, gm_lset, gm_nl, gm_ent, gm_wd, gm_pop, gm_pad, gm_xl_c, gm_alen_u, gm_1_sF, gm_1_sA, gm_1_cp, gm_len_sF, gm_len_sA, gm_len_cp, Bool.or_true, Bool.true_or, gm_max_u, gm_min_u, gm_isO_sF, gm_isO_sA, gm_isO_cp, gm_gF_sF, gm_gF_sA, gm_gA_sF, gm_gA_sA, gm_gF_cp, gm_gA_cp, gm_add, gm_sub, gm_mul, gm_neg, ↓reduceIte, Nat.reduceAdd, Nat.reduceLeDiff, true_and, and_true, and_self, true_or, or_true, false_and, and_false, false_or, or_false, eq_self, Nat.reduceEqDiff, Int.reduceEq, Int.reduceLT, Int.reduceLE, Int.reduceNeg, Int.reduceAdd, Int.reduceSub, Int.reduceMul, Int.reduceDiv, Int.reduceMod, reduceCtorEq, if_true, if_false, gm_w_id, z81, hi9, e1]
theorem gn_cM_p (M : gm_M) (g : Int) : gm_sF (gn_cM (gm_sF M 402 81 0) g) 402 81 0 = gm_sF (gn_cM M g) 402 81 0 := gn_M_ext rfl (fun f o => by
  rw [gm_gF_sF, gm_gF_sF]
  by_cases z : f = 402 ∧ o = 81
  · rw [if_pos z, if_pos z]
  · rw [if_neg z, if_neg z]
    unfold gn_cM
    simp only [gm_gF_sF, if_neg z]) (fun a i => rfl)
theorem r_X4_fill {D : Nat} (hD : 24 ≤ D) {t : Int → Int} {n g : Int} {M0 M : gm_M} (hL0 : gm_Lay M0) (hM : M = gm_sF M0 402 81 0) (hR : gn_Rd t n 0 M) (hO0 : gm_isO 1 M0 g = true) (hg : 94 ≤ g ∧ g ≤ 129) : ∃ M2, gm_go D 27 [.inr (.inr 81), .inr (.inr g)] M0 = some (some (.inl (gn_fl (gn_tx t n))), gm_sF M2 401 81 0) ∧ gn_Gf g M M2 (gn_tx t n).2 ∧ ∀ l, (gn_tx t n).1 = some l → gn_Gr g M M2 (gn_tx t n).2 (l.foldl gn_ad gn_s0) := by
  obtain ⟨d, rfl⟩ : ∃ g, D = g + 1 := ⟨D - 1, by omega⟩
  have hn := hR.2.2.2.1
  have z81 := gm_z81 hL0
  have e0 := r_X1_clear (D := d) (by omega) hL0 hO0
  have h0 : gn_Gr g M (gm_sF (gn_cM M0 g) 402 81 0) 0 gn_s0 := by
    have := gn_Gr0 hR.1 hg
    rw [hM, gn_cM_p] at this
    rw [hM]
    exact this
  have z81' : gm_isO 4 (gn_cM M0 g) 81 = true := z81
  have hO' : gm_isO 1 (gn_cM M0 g) g = true := hO0
  have hO : gm_isO 1 M g = true := by rw [hM]; exact hO0
  rcases hcl : gn_cl t n 0 with ⟨_ | x, q⟩
  · obtain ⟨M2, e2, g2, -⟩ := r_X4_readClause hR hO hg (D := d) (by omega) h0 (by omega) (by show (0 : Int) + 0 + (n - 0) ≤ 100; omega) hcl
    have hR2 := g2.Rd hg hR (show 0 ≤ q ∧ q ≤ n by
      have hb := gn_cl_b (t := t) hn.2 (show (0 : Int) ≤ 0 by omega) hn.1
      rw [hcl] at hb
      exact ⟨hb.1, hb.2.1⟩)
    have y1 := hR2.2.2.1
    have y2 := gm_z81 hR2.1
    have et : gn_tx t n = (none, q) := by unfold gn_tx; rw [hcl]
    rw [et]
    refine ⟨M2, ?_, g2, fun l hl => by simp at hl⟩
    rw [eX4_fill _ _ _ (Nat.le_of_ble_eq_true rfl), show gn_fl ((none : Option (List (Int × Int × gn_X))), q) = q from rfl]
    simp (config := { maxSteps := 2000000 }) (disch := first | omega | assumption | (simp only [gm_isO_sF, gm_isO_sA, gm_isO_cp]; assumption)) only [gm_push, gm_iload, gm_lload, gm_aload, gm_istore, gm_astore, gm_iinc, gm_op2, gm_quo, gm_op1, gm_lop2, gm_lshl, gm_i2l, gm_l2i, gm_lcmp, gm_dup, gm_pop1, gm_dup2, gm_goto, gm_ifeq, gm_ifne, gm_iflt, gm_ifge, gm_ifgt, gm_ifle, gm_ceq, gm_cne, gm_clt, gm_cge, gm_cgt, gm_cle, gm_ifnull, gm_ifnonnull, gm_swk, gm_switch, gm_getI, gm_getR, gm_putI, gm_putZ, gm_putR, gm_new, gm_newarr, gm_iald, gm_cald, gm_zald, gm_lald, gm_aald, gm_iast, gm_cast, gm_zast, gm_last, gm_aast, gm_acp, gm_oinit, gm_back, gm_scall, gm_vcall, gm_iret, gm_zret, gm_cret, gm_lret, gm_aret, gm_vret, gm_slen, gm_schar, gm_sidx, gm_lget, gm_lset, gm_nl, gm_ent, gm_wd, gm_pop, gm_pad, gm_xl_c, gm_alen_u, gm_1_sF, gm_1_sA, gm_1_cp, gm_len_sF, gm_len_sA, gm_len_cp, Bool.or_true, Bool.true_or, gm_max_u, gm_min_u, gm_isO_sF, gm_isO_sA, gm_isO_cp, gm_gF_sF, gm_gF_sA, gm_gA_sF, gm_gA_sA, gm_gF_cp, gm_gA_cp, gm_add, gm_sub, gm_mul, gm_neg, ↓reduceIte, Nat.reduceAdd, Nat.reduceLeDiff, true_and, and_true, and_self, true_or, or_true, false_and, and_false, false_or, or_false, eq_self, Nat.reduceEqDiff, Int.reduceEq, Int.reduceLT, Int.reduceLE, Int.reduceNeg, Int.reduceAdd, Int.reduceSub, Int.reduceMul, Int.reduceDiv, Int.reduceMod, reduceCtorEq, if_true, if_false, gm_w_id, xX4_fill_0, xX4_fill_1, xX4_fill_2, xX4_fill_3, xX4_fill_4, z81, z81', hO0, hO', e0, e2, gn_ok2, y1, y2]
  · obtain ⟨M2, e2, g2, g3⟩ := r_X4_readClause hR hO hg (D := d) (by omega) h0 (by omega) (by show (0 : Int) + 0 + (n - 0) ≤ 100; omega) hcl
    obtain ⟨hq, hsz⟩ := gn_cl_sz (s := gn_s0) hn.2 (by omega) (by omega) (by show (0 : Int) + 0 + (n - 0) ≤ 100; omega) hcl
    obtain ⟨M3, e3, g4, g5⟩ := r_X4_fill_loop (d := d) (by omega) hR hO hg 9 1 q 99999 M2 (gn_ad gn_s0 x) (by decide) (by decide) (by decide) (g3 x rfl) (by omega) hsz
    have e4 : gm_go (d + 1) 27 [.inr (.inr 81), .inr (.inr g)] M0 = gm_ex (gm_go d) qX4_fill 99999 1 [some (.inr (.inr 81)), some (.inr (.inr g)), some (.inl 1), some (.inl 1)] [] M2 := by
      rw [eX4_fill _ _ _ (Nat.le_of_ble_eq_true rfl)]
      simp (config := { maxSteps := 2000000 }) (disch := first | omega | assumption | (simp only [gm_isO_sF, gm_isO_sA, gm_isO_cp]; assumption)) only [gm_push, gm_iload, gm_lload, gm_aload, gm_istore, gm_astore, gm_iinc, gm_op2, gm_quo, gm_op1, gm_lop2, gm_lshl, gm_i2l, gm_l2i, gm_lcmp, gm_dup, gm_pop1, gm_dup2, gm_goto, gm_ifeq, gm_ifne, gm_iflt, gm_ifge, gm_ifgt, gm_ifle, gm_ceq, gm_cne, gm_clt, gm_cge, gm_cgt, gm_cle, gm_ifnull, gm_ifnonnull, gm_swk, gm_switch, gm_getI, gm_getR, gm_putI, gm_putZ, gm_putR, gm_new, gm_newarr, gm_iald, gm_cald, gm_zald, gm_lald, gm_aald, gm_iast, gm_cast, gm_zast, gm_last, gm_aast, gm_acp, gm_oinit, gm_back, gm_scall, gm_vcall, gm_iret, gm_zret, gm_cret, gm_lret, gm_aret, gm_vret, gm_slen, gm_schar, gm_sidx, gm_lget, gm_lset, gm_nl, gm_ent, gm_wd, gm_pop, gm_pad, gm_xl_c, gm_alen_u, gm_1_sF, gm_1_sA, gm_1_cp, gm_len_sF, gm_len_sA, gm_len_cp, Bool.or_true, Bool.true_or, gm_max_u, gm_min_u, gm_isO_sF, gm_isO_sA, gm_isO_cp, gm_gF_sF, gm_gF_sA, gm_gA_sF, gm_gA_sA, gm_gF_cp, gm_gA_cp, gm_add, gm_sub, gm_mul, gm_neg, ↓reduceIte, Nat.reduceAdd, Nat.reduceLeDiff, true_and, and_true, and_self, true_or, or_true, false_and, and_false, false_or, or_false, eq_self, Nat.reduceEqDiff, Int.reduceEq, Int.reduceLT, Int.reduceLE, Int.reduceNeg, Int.reduceAdd, Int.reduceSub, Int.reduceMul, Int.reduceDiv, Int.reduceMod, reduceCtorEq, if_true, if_false, gm_w_id, xX4_fill_0, xX4_fill_2, xX4_fill_3, xX4_fill_4, z81, z81', hO0, hO', e0, e2, gn_ok2]
    rw [e4]
    rcases hy : gn_tll t n 9 q with ⟨_ | l, q2⟩
    · have et : gn_tx t n = (none, q2) := by unfold gn_tx; rw [hcl]; simp only [hy]
      rw [hy] at e3 g4
      rw [et]
      exact ⟨M3, e3, g4, fun l hl => by simp at hl⟩
    · have et : gn_tx t n = (some (x :: l), q2) := by unfold gn_tx; rw [hcl]; simp only [hy]
      rw [hy] at e3 g4 g5
      rw [et]
      refine ⟨M3, e3, g4, fun l' hl => ?_⟩
      obtain rfl := Option.some.inj hl
      exact g5 l rfl
