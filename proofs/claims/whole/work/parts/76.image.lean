/-! STEPS: image, undo -/
/-- rows s .. have come into rows d .., up to a place -/
def gn_C (d s n k : Int) (M M1 : gm_M) : Prop := gm_Lay M1 ∧ (∀ (f : Nat) (o : Int), gm_gF M1 f o = gm_gF M f o) ∧ ∀ a j : Int, gm_gA M1 a j = if (d ≤ a ∧ a < d + n) ∧ 0 ≤ j ∧ j < k then gm_gA M (a - d + s) j else gm_gA M a j
theorem gn_C.rf {d s n : Int} {M : gm_M} (hL : gm_Lay M) : gn_C d s n 0 M M := ⟨hL, fun _ _ => rfl, fun x j => by rw [if_neg (by omega)]⟩
theorem gn_C_s173_149 {M M1 : gm_M} {k : Int} (hk : 0 ≤ k) (h : gn_C 173 149 6 k M M1) : gn_C 173 149 6 (k + 1) M (gm_sA (gm_sA (gm_sA (gm_sA (gm_sA (gm_sA M1 173 k (gm_gA M1 149 k)) 174 k (gm_gA M1 150 k)) 175 k (gm_gA M1 151 k)) 176 k (gm_gA M1 152 k)) 177 k (gm_gA M1 153 k)) 178 k (gm_gA M1 154 k)) := ⟨(((((h.1.sA _ _ _ (by decide)).sA _ _ _ (by decide)).sA _ _ _ (by decide)).sA _ _ _ (by decide)).sA _ _ _ (by decide)).sA _ _ _ (by decide), h.2.1, fun a j => by
  have e : ∀ x, 149 ≤ x → x < 155 → gm_gA M1 x k = gm_gA M x k := fun x x1 x2 => by rw [h.2.2, if_neg (by omega)]
  rw [e 149 (by decide) (by decide), e 150 (by decide) (by decide), e 151 (by decide) (by decide), e 152 (by decide) (by decide), e 153 (by decide) (by decide), e 154 (by decide) (by decide)]
  by_cases c : (173 ≤ a ∧ a < 173 + 6) ∧ j = k
  · rw [if_pos (by omega), c.2]
    rcases (by omega : a = 173 ∨ a = 174 ∨ a = 175 ∨ a = 176 ∨ a = 177 ∨ a = 178) with rfl | rfl | rfl | rfl | rfl | rfl
    · rw [gm_gA_sA, if_neg (by omega), gm_gA_sA, if_neg (by omega), gm_gA_sA, if_neg (by omega), gm_gA_sA, if_neg (by omega), gm_gA_sA, if_neg (by omega), gm_gA_sA, if_pos ⟨rfl, rfl⟩]
      rfl
    · rw [gm_gA_sA, if_neg (by omega), gm_gA_sA, if_neg (by omega), gm_gA_sA, if_neg (by omega), gm_gA_sA, if_neg (by omega), gm_gA_sA, if_pos ⟨rfl, rfl⟩]
      rfl
    · rw [gm_gA_sA, if_neg (by omega), gm_gA_sA, if_neg (by omega), gm_gA_sA, if_neg (by omega), gm_gA_sA, if_pos ⟨rfl, rfl⟩]
      rfl
    · rw [gm_gA_sA, if_neg (by omega), gm_gA_sA, if_neg (by omega), gm_gA_sA, if_pos ⟨rfl, rfl⟩]
      rfl
    · rw [gm_gA_sA, if_neg (by omega), gm_gA_sA, if_pos ⟨rfl, rfl⟩]
      rfl
    · rw [gm_gA_sA, if_pos ⟨rfl, rfl⟩]
      rfl
  · rw [gm_gA_sA, if_neg (by omega), gm_gA_sA, if_neg (by omega), gm_gA_sA, if_neg (by omega), gm_gA_sA, if_neg (by omega), gm_gA_sA, if_neg (by omega), gm_gA_sA, if_neg (by omega), h.2.2]
    by_cases c2 : (173 ≤ a ∧ a < 173 + 6) ∧ 0 ≤ j ∧ j < k
    · rw [if_pos c2, if_pos (by omega)]
    · rw [if_neg c2, if_neg (by omega)]⟩
theorem r_X9_image_l1 (D : Nat) (M0 : gm_M) : ∀ (m f : Nat) (k : Int) (M1 : gm_M), gn_C 173 149 6 k M0 M1 → k = 6 - m → 0 ≤ k →
    ∃ M2, gn_C 173 149 6 6 M0 M2 ∧ gm_ex (gm_go D) qX9_image (f + (m + 1)) 1 [some (.inr (.inr 148)), some (.inl k)] [] M1 = gm_ex (gm_go D) qX9_image f 2 [some (.inr (.inr 148)), some (.inl 6)] [] M2 := by
  intro m
  induction m with
  | zero =>
    intro f k M1 hz hk h0
    obtain rfl : k = 6 := by omega
    refine ⟨M1, hz, ?_⟩
    rw [xX9_image_1]
    simp (config := { maxSteps := 2000000 }) (disch := first | omega | assumption | (simp only [gm_isO_sF, gm_isO_sA, gm_isO_cp]; assumption)) only [gm_push, gm_iload, gm_lload, gm_aload, gm_istore, gm_astore, gm_iinc, gm_op2, gm_quo, gm_op1, gm_lop2, gm_lshl, gm_i2l, gm_l2i, gm_lcmp, gm_dup, gm_pop1, gm_dup2, gm_goto, gm_ifeq, gm_ifne, gm_iflt, gm_ifge, gm_ifgt, gm_ifle, gm_ceq, gm_cne, gm_clt, gm_cge, gm_cgt, gm_cle, gm_ifnull, gm_ifnonnull, gm_swk, gm_switch, gm_getI, gm_getR, gm_putI, gm_putZ, gm_putR, gm_new, gm_newarr, gm_iald, gm_cald, gm_zald, gm_lald, gm_aald, gm_iast, gm_cast, gm_zast, gm_last, gm_aast, gm_acp, gm_oinit, gm_back, gm_scall, gm_vcall, gm_iret, gm_zret, gm_cret, gm_lret, gm_aret, gm_vret, gm_slen, gm_schar, gm_sidx, gm_lget, gm_lset, gm_nl, gm_ent, gm_wd, gm_pop, gm_pad, gm_xl_c, gm_alen_u, gm_1_sF, gm_1_sA, gm_1_cp, gm_len_sF, gm_len_sA, gm_len_cp, Bool.or_true, Bool.true_or, gm_max_u, gm_min_u, gm_isO_sF, gm_isO_sA, gm_isO_cp, gm_gF_sF, gm_gF_sA, gm_gA_sF, gm_gA_sA, gm_gF_cp, gm_gA_cp, gm_add, gm_sub, gm_mul, gm_neg, ↓reduceIte, Nat.reduceAdd, Nat.reduceLeDiff, true_and, and_true, and_self, true_or, or_true, false_and, and_false, false_or, or_false, eq_self, Nat.reduceEqDiff, Int.reduceEq, Int.reduceLT, Int.reduceLE, Int.reduceNeg, Int.reduceAdd, Int.reduceSub, Int.reduceMul, Int.reduceDiv, Int.reduceMod, reduceCtorEq, if_true, if_false, gm_w_id, Int.lt_irrefl]
  | succ m ih =>
    intro f k M1 hz hk h0
    have c : k < 6 := by omega
    have hz2 := gn_C_s173_149 h0 hz
    have hL := hz.1
    have z148 := gm_z148 hL
    obtain ⟨M2, hM2, e⟩ := ih f (k + 1) _ hz2 (by omega) (by omega)
    refine ⟨M2, hM2, ?_⟩
    rw [← e, show f + (m + 1 + 1) = f + (m + 1) + 1 by omega, xX9_image_1]
    simp (config := { maxSteps := 2000000 }) (disch := first | omega | assumption | (simp only [gm_isO_sF, gm_isO_sA, gm_isO_cp]; assumption)) only [gm_push, gm_iload, gm_lload, gm_aload, gm_istore, gm_astore, gm_iinc, gm_op2, gm_quo, gm_op1, gm_lop2, gm_lshl, gm_i2l, gm_l2i, gm_lcmp, gm_dup, gm_pop1, gm_dup2, gm_goto, gm_ifeq, gm_ifne, gm_iflt, gm_ifge, gm_ifgt, gm_ifle, gm_ceq, gm_cne, gm_clt, gm_cge, gm_cgt, gm_cle, gm_ifnull, gm_ifnonnull, gm_swk, gm_switch, gm_getI, gm_getR, gm_putI, gm_putZ, gm_putR, gm_new, gm_newarr, gm_iald, gm_cald, gm_zald, gm_lald, gm_aald, gm_iast, gm_cast, gm_zast, gm_last, gm_aast, gm_acp, gm_oinit, gm_back, gm_scall, gm_vcall, gm_iret, gm_zret, gm_cret, gm_lret, gm_aret, gm_vret, gm_slen, gm_schar, gm_sidx, gm_lget, gm_lset, gm_nl, gm_ent, gm_wd, gm_pop, gm_pad, gm_xl_c, gm_alen_u, gm_1_sF, gm_1_sA, gm_1_cp, gm_len_sF, gm_len_sA, gm_len_cp, Bool.or_true, Bool.true_or, gm_max_u, gm_min_u, gm_isO_sF, gm_isO_sA, gm_isO_cp, gm_gF_sF, gm_gF_sA, gm_gA_sF, gm_gA_sA, gm_gF_cp, gm_gA_cp, gm_add, gm_sub, gm_mul, gm_neg, ↓reduceIte, Nat.reduceAdd, Nat.reduceLeDiff, true_and, and_true, and_self, true_or, or_true, false_and, and_false, false_or, or_false, eq_self, Nat.reduceEqDiff, Int.reduceEq, Int.reduceLT, Int.reduceLE, Int.reduceNeg, Int.reduceAdd, Int.reduceSub, Int.reduceMul, Int.reduceDiv, Int.reduceMod, reduceCtorEq, if_true, if_false, gm_w_id, gm_l902, gm_l903, gm_l904, gm_l905, gm_l906, gm_l907, gm_l908, gm_l914, gm_l915, gm_l916, gm_l917, gm_l918, gm_l919, gm_l920, gm_l921, gm_l925, gm_l926, gm_l931, gm_l932, gm_l934, gm_l936, gm_l937, gm_l938, gm_l940, gm_l947, gm_l948, gm_l949, gm_l950, gm_l951, gm_l952, gm_l953, gm_l954, gm_l955, gm_l956, gm_l957, gm_l959, gm_l960, gm_l961, gm_l962, gm_l963, gm_z148, gm_z149, gm_z150, gm_z151, gm_z152, gm_z153, gm_z154, gm_z155, gm_z156, gm_z157, gm_z158, gm_z159, gm_z160, gm_z161, gm_z162, gm_z163, gm_z164, gm_z165, gm_z166, gm_z167, gm_z168, gm_z169, gm_z170, gm_z171, gm_z172, gm_z173, gm_z174, gm_z175, gm_z176, gm_z177, gm_z178, gm_z179, gm_z180, gm_z181, gm_z182, gm_z183, gm_z184, gm_z185, gm_z186, gm_z187, gm_z188, gn_i149, gn_i150, gn_i151, gn_i152, gn_i153, gn_i154, gn_i155, gn_i156, gn_i157, gn_i158, gn_i159, gn_i160, gn_i161, gn_i162, gn_i163, gn_i164, gn_i165, gn_i166, gn_i167, gn_i168, gn_i169, gn_i170, gn_i171, gn_i172, gn_i173, gn_i174, gn_i175, gn_i176, gn_i177, gn_i178, gn_i179, gn_i180, gn_i181, gn_i182, gn_i183, gn_i184, gn_i185, gn_i186, gn_i187, gn_i188, gm_iald, gm_iast, c]
theorem gn_C_s179_155 {M M1 : gm_M} {k : Int} (hk : 0 ≤ k) (h : gn_C 179 155 1 k M M1) : gn_C 179 155 1 (k + 1) M (gm_sA M1 179 k (gm_gA M1 155 k)) := ⟨h.1.sA _ _ _ (by decide), h.2.1, fun a j => by
  have e : ∀ x, 155 ≤ x → x < 156 → gm_gA M1 x k = gm_gA M x k := fun x x1 x2 => by rw [h.2.2, if_neg (by omega)]
  rw [e 155 (by decide) (by decide)]
  by_cases c : (179 ≤ a ∧ a < 179 + 1) ∧ j = k
  · rw [if_pos (by omega), c.2]
    rcases (by omega : a = 179) with rfl
    · rw [gm_gA_sA, if_pos ⟨rfl, rfl⟩]
      rfl
  · rw [gm_gA_sA, if_neg (by omega), h.2.2]
    by_cases c2 : (179 ≤ a ∧ a < 179 + 1) ∧ 0 ≤ j ∧ j < k
    · rw [if_pos c2, if_pos (by omega)]
    · rw [if_neg c2, if_neg (by omega)]⟩
theorem r_X9_image_l3 (D : Nat) (M0 : gm_M) : ∀ (m f : Nat) (k : Int) (M1 : gm_M), gn_C 179 155 1 k M0 M1 → k = 24 - m → 0 ≤ k →
    ∃ M2, gn_C 179 155 1 24 M0 M2 ∧ gm_ex (gm_go D) qX9_image (f + (m + 1)) 3 [some (.inr (.inr 148)), some (.inl k)] [] M1 = gm_ex (gm_go D) qX9_image f 4 [some (.inr (.inr 148)), some (.inl 24)] [] M2 := by
  intro m
  induction m with
  | zero =>
    intro f k M1 hz hk h0
    obtain rfl : k = 24 := by omega
    refine ⟨M1, hz, ?_⟩
    rw [xX9_image_3]
    simp (config := { maxSteps := 2000000 }) (disch := first | omega | assumption | (simp only [gm_isO_sF, gm_isO_sA, gm_isO_cp]; assumption)) only [gm_push, gm_iload, gm_lload, gm_aload, gm_istore, gm_astore, gm_iinc, gm_op2, gm_quo, gm_op1, gm_lop2, gm_lshl, gm_i2l, gm_l2i, gm_lcmp, gm_dup, gm_pop1, gm_dup2, gm_goto, gm_ifeq, gm_ifne, gm_iflt, gm_ifge, gm_ifgt, gm_ifle, gm_ceq, gm_cne, gm_clt, gm_cge, gm_cgt, gm_cle, gm_ifnull, gm_ifnonnull, gm_swk, gm_switch, gm_getI, gm_getR, gm_putI, gm_putZ, gm_putR, gm_new, gm_newarr, gm_iald, gm_cald, gm_zald, gm_lald, gm_aald, gm_iast, gm_cast, gm_zast, gm_last, gm_aast, gm_acp, gm_oinit, gm_back, gm_scall, gm_vcall, gm_iret, gm_zret, gm_cret, gm_lret, gm_aret, gm_vret, gm_slen, gm_schar, gm_sidx, gm_lget, gm_lset, gm_nl, gm_ent, gm_wd, gm_pop, gm_pad, gm_xl_c, gm_alen_u, gm_1_sF, gm_1_sA, gm_1_cp, gm_len_sF, gm_len_sA, gm_len_cp, Bool.or_true, Bool.true_or, gm_max_u, gm_min_u, gm_isO_sF, gm_isO_sA, gm_isO_cp, gm_gF_sF, gm_gF_sA, gm_gA_sF, gm_gA_sA, gm_gF_cp, gm_gA_cp, gm_add, gm_sub, gm_mul, gm_neg, ↓reduceIte, Nat.reduceAdd, Nat.reduceLeDiff, true_and, and_true, and_self, true_or, or_true, false_and, and_false, false_or, or_false, eq_self, Nat.reduceEqDiff, Int.reduceEq, Int.reduceLT, Int.reduceLE, Int.reduceNeg, Int.reduceAdd, Int.reduceSub, Int.reduceMul, Int.reduceDiv, Int.reduceMod, reduceCtorEq, if_true, if_false, gm_w_id, Int.lt_irrefl]
  | succ m ih =>
    intro f k M1 hz hk h0
    have c : k < 24 := by omega
    have hz2 := gn_C_s179_155 h0 hz
    have hL := hz.1
    have z148 := gm_z148 hL
    obtain ⟨M2, hM2, e⟩ := ih f (k + 1) _ hz2 (by omega) (by omega)
    refine ⟨M2, hM2, ?_⟩
    rw [← e, show f + (m + 1 + 1) = f + (m + 1) + 1 by omega, xX9_image_3]
    simp (config := { maxSteps := 2000000 }) (disch := first | omega | assumption | (simp only [gm_isO_sF, gm_isO_sA, gm_isO_cp]; assumption)) only [gm_push, gm_iload, gm_lload, gm_aload, gm_istore, gm_astore, gm_iinc, gm_op2, gm_quo, gm_op1, gm_lop2, gm_lshl, gm_i2l, gm_l2i, gm_lcmp, gm_dup, gm_pop1, gm_dup2, gm_goto, gm_ifeq, gm_ifne, gm_iflt, gm_ifge, gm_ifgt, gm_ifle, gm_ceq, gm_cne, gm_clt, gm_cge, gm_cgt, gm_cle, gm_ifnull, gm_ifnonnull, gm_swk, gm_switch, gm_getI, gm_getR, gm_putI, gm_putZ, gm_putR, gm_new, gm_newarr, gm_iald, gm_cald, gm_zald, gm_lald, gm_aald, gm_iast, gm_cast, gm_zast, gm_last, gm_aast, gm_acp, gm_oinit, gm_back, gm_scall, gm_vcall, gm_iret, gm_zret, gm_cret, gm_lret, gm_aret, gm_vret, gm_slen, gm_schar, gm_sidx, gm_lget, gm_lset, gm_nl, gm_ent, gm_wd, gm_pop, gm_pad, gm_xl_c, gm_alen_u, gm_1_sF, gm_1_sA, gm_1_cp, gm_len_sF, gm_len_sA, gm_len_cp, Bool.or_true, Bool.true_or, gm_max_u, gm_min_u, gm_isO_sF, gm_isO_sA, gm_isO_cp, gm_gF_sF, gm_gF_sA, gm_gA_sF, gm_gA_sA, gm_gF_cp, gm_gA_cp, gm_add, gm_sub, gm_mul, gm_neg, ↓reduceIte, Nat.reduceAdd, Nat.reduceLeDiff, true_and, and_true, and_self, true_or, or_true, false_and, and_false, false_or, or_false, eq_self, Nat.reduceEqDiff, Int.reduceEq, Int.reduceLT, Int.reduceLE, Int.reduceNeg, Int.reduceAdd, Int.reduceSub, Int.reduceMul, Int.reduceDiv, Int.reduceMod, reduceCtorEq, if_true, if_false, gm_w_id, gm_l902, gm_l903, gm_l904, gm_l905, gm_l906, gm_l907, gm_l908, gm_l914, gm_l915, gm_l916, gm_l917, gm_l918, gm_l919, gm_l920, gm_l921, gm_l925, gm_l926, gm_l931, gm_l932, gm_l934, gm_l936, gm_l937, gm_l938, gm_l940, gm_l947, gm_l948, gm_l949, gm_l950, gm_l951, gm_l952, gm_l953, gm_l954, gm_l955, gm_l956, gm_l957, gm_l959, gm_l960, gm_l961, gm_l962, gm_l963, gm_z148, gm_z149, gm_z150, gm_z151, gm_z152, gm_z153, gm_z154, gm_z155, gm_z156, gm_z157, gm_z158, gm_z159, gm_z160, gm_z161, gm_z162, gm_z163, gm_z164, gm_z165, gm_z166, gm_z167, gm_z168, gm_z169, gm_z170, gm_z171, gm_z172, gm_z173, gm_z174, gm_z175, gm_z176, gm_z177, gm_z178, gm_z179, gm_z180, gm_z181, gm_z182, gm_z183, gm_z184, gm_z185, gm_z186, gm_z187, gm_z188, gn_i149, gn_i150, gn_i151, gn_i152, gn_i153, gn_i154, gn_i155, gn_i156, gn_i157, gn_i158, gn_i159, gn_i160, gn_i161, gn_i162, gn_i163, gn_i164, gn_i165, gn_i166, gn_i167, gn_i168, gn_i169, gn_i170, gn_i171, gn_i172, gn_i173, gn_i174, gn_i175, gn_i176, gn_i177, gn_i178, gn_i179, gn_i180, gn_i181, gn_i182, gn_i183, gn_i184, gn_i185, gn_i186, gn_i187, gn_i188, gm_iald, gm_iast, c]
theorem gn_C_s180_169 {M M1 : gm_M} {k : Int} (hk : 0 ≤ k) (h : gn_C 180 169 3 k M M1) : gn_C 180 169 3 (k + 1) M (gm_sA (gm_sA (gm_sA M1 180 k (gm_gA M1 169 k)) 181 k (gm_gA M1 170 k)) 182 k (gm_gA M1 171 k)) := ⟨((h.1.sA _ _ _ (by decide)).sA _ _ _ (by decide)).sA _ _ _ (by decide), h.2.1, fun a j => by
  have e : ∀ x, 169 ≤ x → x < 172 → gm_gA M1 x k = gm_gA M x k := fun x x1 x2 => by rw [h.2.2, if_neg (by omega)]
  rw [e 169 (by decide) (by decide), e 170 (by decide) (by decide), e 171 (by decide) (by decide)]
  by_cases c : (180 ≤ a ∧ a < 180 + 3) ∧ j = k
  · rw [if_pos (by omega), c.2]
    rcases (by omega : a = 180 ∨ a = 181 ∨ a = 182) with rfl | rfl | rfl
    · rw [gm_gA_sA, if_neg (by omega), gm_gA_sA, if_neg (by omega), gm_gA_sA, if_pos ⟨rfl, rfl⟩]
      rfl
    · rw [gm_gA_sA, if_neg (by omega), gm_gA_sA, if_pos ⟨rfl, rfl⟩]
      rfl
    · rw [gm_gA_sA, if_pos ⟨rfl, rfl⟩]
      rfl
  · rw [gm_gA_sA, if_neg (by omega), gm_gA_sA, if_neg (by omega), gm_gA_sA, if_neg (by omega), h.2.2]
    by_cases c2 : (180 ≤ a ∧ a < 180 + 3) ∧ 0 ≤ j ∧ j < k
    · rw [if_pos c2, if_pos (by omega)]
    · rw [if_neg c2, if_neg (by omega)]⟩
theorem r_X9_image_l5 (D : Nat) (M0 : gm_M) : ∀ (m f : Nat) (k : Int) (M1 : gm_M), gn_C 180 169 3 k M0 M1 → k = 8 - m → 0 ≤ k →
    ∃ M2, gn_C 180 169 3 8 M0 M2 ∧ gm_ex (gm_go D) qX9_image (f + (m + 1)) 5 [some (.inr (.inr 148)), some (.inl k)] [] M1 = gm_ex (gm_go D) qX9_image f 6 [some (.inr (.inr 148)), some (.inl 8)] [] M2 := by
  intro m
  induction m with
  | zero =>
    intro f k M1 hz hk h0
    obtain rfl : k = 8 := by omega
    refine ⟨M1, hz, ?_⟩
    rw [xX9_image_5]
    simp (config := { maxSteps := 2000000 }) (disch := first | omega | assumption | (simp only [gm_isO_sF, gm_isO_sA, gm_isO_cp]; assumption)) only [gm_push, gm_iload, gm_lload, gm_aload, gm_istore, gm_astore, gm_iinc, gm_op2, gm_quo, gm_op1, gm_lop2, gm_lshl, gm_i2l, gm_l2i, gm_lcmp, gm_dup, gm_pop1, gm_dup2, gm_goto, gm_ifeq, gm_ifne, gm_iflt, gm_ifge, gm_ifgt, gm_ifle, gm_ceq, gm_cne, gm_clt, gm_cge, gm_cgt, gm_cle, gm_ifnull, gm_ifnonnull, gm_swk, gm_switch, gm_getI, gm_getR, gm_putI, gm_putZ, gm_putR, gm_new, gm_newarr, gm_iald, gm_cald, gm_zald, gm_lald, gm_aald, gm_iast, gm_cast, gm_zast, gm_last, gm_aast, gm_acp, gm_oinit, gm_back, gm_scall, gm_vcall, gm_iret, gm_zret, gm_cret, gm_lret, gm_aret, gm_vret, gm_slen, gm_schar, gm_sidx, gm_lget, gm_lset, gm_nl, gm_ent, gm_wd, gm_pop, gm_pad, gm_xl_c, gm_alen_u, gm_1_sF, gm_1_sA, gm_1_cp, gm_len_sF, gm_len_sA, gm_len_cp, Bool.or_true, Bool.true_or, gm_max_u, gm_min_u, gm_isO_sF, gm_isO_sA, gm_isO_cp, gm_gF_sF, gm_gF_sA, gm_gA_sF, gm_gA_sA, gm_gF_cp, gm_gA_cp, gm_add, gm_sub, gm_mul, gm_neg, ↓reduceIte, Nat.reduceAdd, Nat.reduceLeDiff, true_and, and_true, and_self, true_or, or_true, false_and, and_false, false_or, or_false, eq_self, Nat.reduceEqDiff, Int.reduceEq, Int.reduceLT, Int.reduceLE, Int.reduceNeg, Int.reduceAdd, Int.reduceSub, Int.reduceMul, Int.reduceDiv, Int.reduceMod, reduceCtorEq, if_true, if_false, gm_w_id, Int.lt_irrefl]
  | succ m ih =>
    intro f k M1 hz hk h0
    have c : k < 8 := by omega
    have hz2 := gn_C_s180_169 h0 hz
    have hL := hz.1
    have z148 := gm_z148 hL
    obtain ⟨M2, hM2, e⟩ := ih f (k + 1) _ hz2 (by omega) (by omega)
    refine ⟨M2, hM2, ?_⟩
    rw [← e, show f + (m + 1 + 1) = f + (m + 1) + 1 by omega, xX9_image_5]
    simp (config := { maxSteps := 2000000 }) (disch := first | omega | assumption | (simp only [gm_isO_sF, gm_isO_sA, gm_isO_cp]; assumption)) only [gm_push, gm_iload, gm_lload, gm_aload, gm_istore, gm_astore, gm_iinc, gm_op2, gm_quo, gm_op1, gm_lop2, gm_lshl, gm_i2l, gm_l2i, gm_lcmp, gm_dup, gm_pop1, gm_dup2, gm_goto, gm_ifeq, gm_ifne, gm_iflt, gm_ifge, gm_ifgt, gm_ifle, gm_ceq, gm_cne, gm_clt, gm_cge, gm_cgt, gm_cle, gm_ifnull, gm_ifnonnull, gm_swk, gm_switch, gm_getI, gm_getR, gm_putI, gm_putZ, gm_putR, gm_new, gm_newarr, gm_iald, gm_cald, gm_zald, gm_lald, gm_aald, gm_iast, gm_cast, gm_zast, gm_last, gm_aast, gm_acp, gm_oinit, gm_back, gm_scall, gm_vcall, gm_iret, gm_zret, gm_cret, gm_lret, gm_aret, gm_vret, gm_slen, gm_schar, gm_sidx, gm_lget, gm_lset, gm_nl, gm_ent, gm_wd, gm_pop, gm_pad, gm_xl_c, gm_alen_u, gm_1_sF, gm_1_sA, gm_1_cp, gm_len_sF, gm_len_sA, gm_len_cp, Bool.or_true, Bool.true_or, gm_max_u, gm_min_u, gm_isO_sF, gm_isO_sA, gm_isO_cp, gm_gF_sF, gm_gF_sA, gm_gA_sF, gm_gA_sA, gm_gF_cp, gm_gA_cp, gm_add, gm_sub, gm_mul, gm_neg, ↓reduceIte, Nat.reduceAdd, Nat.reduceLeDiff, true_and, and_true, and_self, true_or, or_true, false_and, and_false, false_or, or_false, eq_self, Nat.reduceEqDiff, Int.reduceEq, Int.reduceLT, Int.reduceLE, Int.reduceNeg, Int.reduceAdd, Int.reduceSub, Int.reduceMul, Int.reduceDiv, Int.reduceMod, reduceCtorEq, if_true, if_false, gm_w_id, gm_l902, gm_l903, gm_l904, gm_l905, gm_l906, gm_l907, gm_l908, gm_l914, gm_l915, gm_l916, gm_l917, gm_l918, gm_l919, gm_l920, gm_l921, gm_l925, gm_l926, gm_l931, gm_l932, gm_l934, gm_l936, gm_l937, gm_l938, gm_l940, gm_l947, gm_l948, gm_l949, gm_l950, gm_l951, gm_l952, gm_l953, gm_l954, gm_l955, gm_l956, gm_l957, gm_l959, gm_l960, gm_l961, gm_l962, gm_l963, gm_z148, gm_z149, gm_z150, gm_z151, gm_z152, gm_z153, gm_z154, gm_z155, gm_z156, gm_z157, gm_z158, gm_z159, gm_z160, gm_z161, gm_z162, gm_z163, gm_z164, gm_z165, gm_z166, gm_z167, gm_z168, gm_z169, gm_z170, gm_z171, gm_z172, gm_z173, gm_z174, gm_z175, gm_z176, gm_z177, gm_z178, gm_z179, gm_z180, gm_z181, gm_z182, gm_z183, gm_z184, gm_z185, gm_z186, gm_z187, gm_z188, gn_i149, gn_i150, gn_i151, gn_i152, gn_i153, gn_i154, gn_i155, gn_i156, gn_i157, gn_i158, gn_i159, gn_i160, gn_i161, gn_i162, gn_i163, gn_i164, gn_i165, gn_i166, gn_i167, gn_i168, gn_i169, gn_i170, gn_i171, gn_i172, gn_i173, gn_i174, gn_i175, gn_i176, gn_i177, gn_i178, gn_i179, gn_i180, gn_i181, gn_i182, gn_i183, gn_i184, gn_i185, gn_i186, gn_i187, gn_i188, gm_iald, gm_iast, c]
theorem gn_C_s183_172 {M M1 : gm_M} {k : Int} (hk : 0 ≤ k) (h : gn_C 183 172 1 k M M1) : gn_C 183 172 1 (k + 1) M (gm_sA M1 183 k (gm_gA M1 172 k)) := ⟨h.1.sA _ _ _ (by decide), h.2.1, fun a j => by
  have e : ∀ x, 172 ≤ x → x < 173 → gm_gA M1 x k = gm_gA M x k := fun x x1 x2 => by rw [h.2.2, if_neg (by omega)]
  rw [e 172 (by decide) (by decide)]
  by_cases c : (183 ≤ a ∧ a < 183 + 1) ∧ j = k
  · rw [if_pos (by omega), c.2]
    rcases (by omega : a = 183) with rfl
    · rw [gm_gA_sA, if_pos ⟨rfl, rfl⟩]
      rfl
  · rw [gm_gA_sA, if_neg (by omega), h.2.2]
    by_cases c2 : (183 ≤ a ∧ a < 183 + 1) ∧ 0 ≤ j ∧ j < k
    · rw [if_pos c2, if_pos (by omega)]
    · rw [if_neg c2, if_neg (by omega)]⟩
theorem r_X9_image_l7 (D : Nat) (M0 : gm_M) : ∀ (m f : Nat) (k : Int) (M1 : gm_M), gn_C 183 172 1 k M0 M1 → k = 12 - m → 0 ≤ k →
    ∃ M2, gn_C 183 172 1 12 M0 M2 ∧ gm_ex (gm_go D) qX9_image (f + (m + 1)) 7 [some (.inr (.inr 148)), some (.inl k)] [] M1 = gm_ex (gm_go D) qX9_image f 8 [some (.inr (.inr 148)), some (.inl 12)] [] M2 := by
  intro m
  induction m with
  | zero =>
    intro f k M1 hz hk h0
    obtain rfl : k = 12 := by omega
    refine ⟨M1, hz, ?_⟩
    rw [xX9_image_7]
    simp (config := { maxSteps := 2000000 }) (disch := first | omega | assumption | (simp only [gm_isO_sF, gm_isO_sA, gm_isO_cp]; assumption)) only [gm_push, gm_iload, gm_lload, gm_aload, gm_istore, gm_astore, gm_iinc, gm_op2, gm_quo, gm_op1, gm_lop2, gm_lshl, gm_i2l, gm_l2i, gm_lcmp, gm_dup, gm_pop1, gm_dup2, gm_goto, gm_ifeq, gm_ifne, gm_iflt, gm_ifge, gm_ifgt, gm_ifle, gm_ceq, gm_cne, gm_clt, gm_cge, gm_cgt, gm_cle, gm_ifnull, gm_ifnonnull, gm_swk, gm_switch, gm_getI, gm_getR, gm_putI, gm_putZ, gm_putR, gm_new, gm_newarr, gm_iald, gm_cald, gm_zald, gm_lald, gm_aald, gm_iast, gm_cast, gm_zast, gm_last, gm_aast, gm_acp, gm_oinit, gm_back, gm_scall, gm_vcall, gm_iret, gm_zret, gm_cret, gm_lret, gm_aret, gm_vret, gm_slen, gm_schar, gm_sidx, gm_lget, gm_lset, gm_nl, gm_ent, gm_wd, gm_pop, gm_pad, gm_xl_c, gm_alen_u, gm_1_sF, gm_1_sA, gm_1_cp, gm_len_sF, gm_len_sA, gm_len_cp, Bool.or_true, Bool.true_or, gm_max_u, gm_min_u, gm_isO_sF, gm_isO_sA, gm_isO_cp, gm_gF_sF, gm_gF_sA, gm_gA_sF, gm_gA_sA, gm_gF_cp, gm_gA_cp, gm_add, gm_sub, gm_mul, gm_neg, ↓reduceIte, Nat.reduceAdd, Nat.reduceLeDiff, true_and, and_true, and_self, true_or, or_true, false_and, and_false, false_or, or_false, eq_self, Nat.reduceEqDiff, Int.reduceEq, Int.reduceLT, Int.reduceLE, Int.reduceNeg, Int.reduceAdd, Int.reduceSub, Int.reduceMul, Int.reduceDiv, Int.reduceMod, reduceCtorEq, if_true, if_false, gm_w_id, Int.lt_irrefl]
  | succ m ih =>
    intro f k M1 hz hk h0
    have c : k < 12 := by omega
    have hz2 := gn_C_s183_172 h0 hz
    have hL := hz.1
    have z148 := gm_z148 hL
    obtain ⟨M2, hM2, e⟩ := ih f (k + 1) _ hz2 (by omega) (by omega)
    refine ⟨M2, hM2, ?_⟩
    rw [← e, show f + (m + 1 + 1) = f + (m + 1) + 1 by omega, xX9_image_7]
    simp (config := { maxSteps := 2000000 }) (disch := first | omega | assumption | (simp only [gm_isO_sF, gm_isO_sA, gm_isO_cp]; assumption)) only [gm_push, gm_iload, gm_lload, gm_aload, gm_istore, gm_astore, gm_iinc, gm_op2, gm_quo, gm_op1, gm_lop2, gm_lshl, gm_i2l, gm_l2i, gm_lcmp, gm_dup, gm_pop1, gm_dup2, gm_goto, gm_ifeq, gm_ifne, gm_iflt, gm_ifge, gm_ifgt, gm_ifle, gm_ceq, gm_cne, gm_clt, gm_cge, gm_cgt, gm_cle, gm_ifnull, gm_ifnonnull, gm_swk, gm_switch, gm_getI, gm_getR, gm_putI, gm_putZ, gm_putR, gm_new, gm_newarr, gm_iald, gm_cald, gm_zald, gm_lald, gm_aald, gm_iast, gm_cast, gm_zast, gm_last, gm_aast, gm_acp, gm_oinit, gm_back, gm_scall, gm_vcall, gm_iret, gm_zret, gm_cret, gm_lret, gm_aret, gm_vret, gm_slen, gm_schar, gm_sidx, gm_lget, gm_lset, gm_nl, gm_ent, gm_wd, gm_pop, gm_pad, gm_xl_c, gm_alen_u, gm_1_sF, gm_1_sA, gm_1_cp, gm_len_sF, gm_len_sA, gm_len_cp, Bool.or_true, Bool.true_or, gm_max_u, gm_min_u, gm_isO_sF, gm_isO_sA, gm_isO_cp, gm_gF_sF, gm_gF_sA, gm_gA_sF, gm_gA_sA, gm_gF_cp, gm_gA_cp, gm_add, gm_sub, gm_mul, gm_neg, ↓reduceIte, Nat.reduceAdd, Nat.reduceLeDiff, true_and, and_true, and_self, true_or, or_true, false_and, and_false, false_or, or_false, eq_self, Nat.reduceEqDiff, Int.reduceEq, Int.reduceLT, Int.reduceLE, Int.reduceNeg, Int.reduceAdd, Int.reduceSub, Int.reduceMul, Int.reduceDiv, Int.reduceMod, reduceCtorEq, if_true, if_false, gm_w_id, gm_l902, gm_l903, gm_l904, gm_l905, gm_l906, gm_l907, gm_l908, gm_l914, gm_l915, gm_l916, gm_l917, gm_l918, gm_l919, gm_l920, gm_l921, gm_l925, gm_l926, gm_l931, gm_l932, gm_l934, gm_l936, gm_l937, gm_l938, gm_l940, gm_l947, gm_l948, gm_l949, gm_l950, gm_l951, gm_l952, gm_l953, gm_l954, gm_l955, gm_l956, gm_l957, gm_l959, gm_l960, gm_l961, gm_l962, gm_l963, gm_z148, gm_z149, gm_z150, gm_z151, gm_z152, gm_z153, gm_z154, gm_z155, gm_z156, gm_z157, gm_z158, gm_z159, gm_z160, gm_z161, gm_z162, gm_z163, gm_z164, gm_z165, gm_z166, gm_z167, gm_z168, gm_z169, gm_z170, gm_z171, gm_z172, gm_z173, gm_z174, gm_z175, gm_z176, gm_z177, gm_z178, gm_z179, gm_z180, gm_z181, gm_z182, gm_z183, gm_z184, gm_z185, gm_z186, gm_z187, gm_z188, gn_i149, gn_i150, gn_i151, gn_i152, gn_i153, gn_i154, gn_i155, gn_i156, gn_i157, gn_i158, gn_i159, gn_i160, gn_i161, gn_i162, gn_i163, gn_i164, gn_i165, gn_i166, gn_i167, gn_i168, gn_i169, gn_i170, gn_i171, gn_i172, gn_i173, gn_i174, gn_i175, gn_i176, gn_i177, gn_i178, gn_i179, gn_i180, gn_i181, gn_i182, gn_i183, gn_i184, gn_i185, gn_i186, gn_i187, gn_i188, gm_iald, gm_iast, c]
theorem gn_C_s149_173 {M M1 : gm_M} {k : Int} (hk : 0 ≤ k) (h : gn_C 149 173 6 k M M1) : gn_C 149 173 6 (k + 1) M (gm_sA (gm_sA (gm_sA (gm_sA (gm_sA (gm_sA M1 149 k (gm_gA M1 173 k)) 150 k (gm_gA M1 174 k)) 151 k (gm_gA M1 175 k)) 152 k (gm_gA M1 176 k)) 153 k (gm_gA M1 177 k)) 154 k (gm_gA M1 178 k)) := ⟨(((((h.1.sA _ _ _ (by decide)).sA _ _ _ (by decide)).sA _ _ _ (by decide)).sA _ _ _ (by decide)).sA _ _ _ (by decide)).sA _ _ _ (by decide), h.2.1, fun a j => by
  have e : ∀ x, 173 ≤ x → x < 179 → gm_gA M1 x k = gm_gA M x k := fun x x1 x2 => by rw [h.2.2, if_neg (by omega)]
  rw [e 173 (by decide) (by decide), e 174 (by decide) (by decide), e 175 (by decide) (by decide), e 176 (by decide) (by decide), e 177 (by decide) (by decide), e 178 (by decide) (by decide)]
  by_cases c : (149 ≤ a ∧ a < 149 + 6) ∧ j = k
  · rw [if_pos (by omega), c.2]
    rcases (by omega : a = 149 ∨ a = 150 ∨ a = 151 ∨ a = 152 ∨ a = 153 ∨ a = 154) with rfl | rfl | rfl | rfl | rfl | rfl
    · rw [gm_gA_sA, if_neg (by omega), gm_gA_sA, if_neg (by omega), gm_gA_sA, if_neg (by omega), gm_gA_sA, if_neg (by omega), gm_gA_sA, if_neg (by omega), gm_gA_sA, if_pos ⟨rfl, rfl⟩]
      rfl
    · rw [gm_gA_sA, if_neg (by omega), gm_gA_sA, if_neg (by omega), gm_gA_sA, if_neg (by omega), gm_gA_sA, if_neg (by omega), gm_gA_sA, if_pos ⟨rfl, rfl⟩]
      rfl
    · rw [gm_gA_sA, if_neg (by omega), gm_gA_sA, if_neg (by omega), gm_gA_sA, if_neg (by omega), gm_gA_sA, if_pos ⟨rfl, rfl⟩]
      rfl
    · rw [gm_gA_sA, if_neg (by omega), gm_gA_sA, if_neg (by omega), gm_gA_sA, if_pos ⟨rfl, rfl⟩]
      rfl
    · rw [gm_gA_sA, if_neg (by omega), gm_gA_sA, if_pos ⟨rfl, rfl⟩]
      rfl
    · rw [gm_gA_sA, if_pos ⟨rfl, rfl⟩]
      rfl
  · rw [gm_gA_sA, if_neg (by omega), gm_gA_sA, if_neg (by omega), gm_gA_sA, if_neg (by omega), gm_gA_sA, if_neg (by omega), gm_gA_sA, if_neg (by omega), gm_gA_sA, if_neg (by omega), h.2.2]
    by_cases c2 : (149 ≤ a ∧ a < 149 + 6) ∧ 0 ≤ j ∧ j < k
    · rw [if_pos c2, if_pos (by omega)]
    · rw [if_neg c2, if_neg (by omega)]⟩
theorem r_X9_undo_l2 (D : Nat) (M0 : gm_M) : ∀ (m f : Nat) (k : Int) (M1 : gm_M), gn_C 149 173 6 k M0 M1 → k = 6 - m → 0 ≤ k →
    ∃ M2, gn_C 149 173 6 6 M0 M2 ∧ gm_ex (gm_go D) qX9_undo (f + (m + 1)) 2 [some (.inr (.inr 148)), some (.inl k)] [] M1 = gm_ex (gm_go D) qX9_undo f 3 [some (.inr (.inr 148)), some (.inl 6)] [] M2 := by
  intro m
  induction m with
  | zero =>
    intro f k M1 hz hk h0
    obtain rfl : k = 6 := by omega
    refine ⟨M1, hz, ?_⟩
    rw [xX9_undo_2]
    simp (config := { maxSteps := 2000000 }) (disch := first | omega | assumption | (simp only [gm_isO_sF, gm_isO_sA, gm_isO_cp]; assumption)) only [gm_push, gm_iload, gm_lload, gm_aload, gm_istore, gm_astore, gm_iinc, gm_op2, gm_quo, gm_op1, gm_lop2, gm_lshl, gm_i2l, gm_l2i, gm_lcmp, gm_dup, gm_pop1, gm_dup2, gm_goto, gm_ifeq, gm_ifne, gm_iflt, gm_ifge, gm_ifgt, gm_ifle, gm_ceq, gm_cne, gm_clt, gm_cge, gm_cgt, gm_cle, gm_ifnull, gm_ifnonnull, gm_swk, gm_switch, gm_getI, gm_getR, gm_putI, gm_putZ, gm_putR, gm_new, gm_newarr, gm_iald, gm_cald, gm_zald, gm_lald, gm_aald, gm_iast, gm_cast, gm_zast, gm_last, gm_aast, gm_acp, gm_oinit, gm_back, gm_scall, gm_vcall, gm_iret, gm_zret, gm_cret, gm_lret, gm_aret, gm_vret, gm_slen, gm_schar, gm_sidx, gm_lget, gm_lset, gm_nl, gm_ent, gm_wd, gm_pop, gm_pad, gm_xl_c, gm_alen_u, gm_1_sF, gm_1_sA, gm_1_cp, gm_len_sF, gm_len_sA, gm_len_cp, Bool.or_true, Bool.true_or, gm_max_u, gm_min_u, gm_isO_sF, gm_isO_sA, gm_isO_cp, gm_gF_sF, gm_gF_sA, gm_gA_sF, gm_gA_sA, gm_gF_cp, gm_gA_cp, gm_add, gm_sub, gm_mul, gm_neg, ↓reduceIte, Nat.reduceAdd, Nat.reduceLeDiff, true_and, and_true, and_self, true_or, or_true, false_and, and_false, false_or, or_false, eq_self, Nat.reduceEqDiff, Int.reduceEq, Int.reduceLT, Int.reduceLE, Int.reduceNeg, Int.reduceAdd, Int.reduceSub, Int.reduceMul, Int.reduceDiv, Int.reduceMod, reduceCtorEq, if_true, if_false, gm_w_id, Int.lt_irrefl]
  | succ m ih =>
    intro f k M1 hz hk h0
    have c : k < 6 := by omega
    have hz2 := gn_C_s149_173 h0 hz
    have hL := hz.1
    have z148 := gm_z148 hL
    obtain ⟨M2, hM2, e⟩ := ih f (k + 1) _ hz2 (by omega) (by omega)
    refine ⟨M2, hM2, ?_⟩
    rw [← e, show f + (m + 1 + 1) = f + (m + 1) + 1 by omega, xX9_undo_2]
    simp (config := { maxSteps := 2000000 }) (disch := first | omega | assumption | (simp only [gm_isO_sF, gm_isO_sA, gm_isO_cp]; assumption)) only [gm_push, gm_iload, gm_lload, gm_aload, gm_istore, gm_astore, gm_iinc, gm_op2, gm_quo, gm_op1, gm_lop2, gm_lshl, gm_i2l, gm_l2i, gm_lcmp, gm_dup, gm_pop1, gm_dup2, gm_goto, gm_ifeq, gm_ifne, gm_iflt, gm_ifge, gm_ifgt, gm_ifle, gm_ceq, gm_cne, gm_clt, gm_cge, gm_cgt, gm_cle, gm_ifnull, gm_ifnonnull, gm_swk, gm_switch, gm_getI, gm_getR, gm_putI, gm_putZ, gm_putR, gm_new, gm_newarr, gm_iald, gm_cald, gm_zald, gm_lald, gm_aald, gm_iast, gm_cast, gm_zast, gm_last, gm_aast, gm_acp, gm_oinit, gm_back, gm_scall, gm_vcall, gm_iret, gm_zret, gm_cret, gm_lret, gm_aret, gm_vret, gm_slen, gm_schar, gm_sidx, gm_lget, gm_lset, gm_nl, gm_ent, gm_wd, gm_pop, gm_pad, gm_xl_c, gm_alen_u, gm_1_sF, gm_1_sA, gm_1_cp, gm_len_sF, gm_len_sA, gm_len_cp, Bool.or_true, Bool.true_or, gm_max_u, gm_min_u, gm_isO_sF, gm_isO_sA, gm_isO_cp, gm_gF_sF, gm_gF_sA, gm_gA_sF, gm_gA_sA, gm_gF_cp, gm_gA_cp, gm_add, gm_sub, gm_mul, gm_neg, ↓reduceIte, Nat.reduceAdd, Nat.reduceLeDiff, true_and, and_true, and_self, true_or, or_true, false_and, and_false, false_or, or_false, eq_self, Nat.reduceEqDiff, Int.reduceEq, Int.reduceLT, Int.reduceLE, Int.reduceNeg, Int.reduceAdd, Int.reduceSub, Int.reduceMul, Int.reduceDiv, Int.reduceMod, reduceCtorEq, if_true, if_false, gm_w_id, gm_l902, gm_l903, gm_l904, gm_l905, gm_l906, gm_l907, gm_l908, gm_l914, gm_l915, gm_l916, gm_l917, gm_l918, gm_l919, gm_l920, gm_l921, gm_l925, gm_l926, gm_l931, gm_l932, gm_l934, gm_l936, gm_l937, gm_l938, gm_l940, gm_l947, gm_l948, gm_l949, gm_l950, gm_l951, gm_l952, gm_l953, gm_l954, gm_l955, gm_l956, gm_l957, gm_l959, gm_l960, gm_l961, gm_l962, gm_l963, gm_z148, gm_z149, gm_z150, gm_z151, gm_z152, gm_z153, gm_z154, gm_z155, gm_z156, gm_z157, gm_z158, gm_z159, gm_z160, gm_z161, gm_z162, gm_z163, gm_z164, gm_z165, gm_z166, gm_z167, gm_z168, gm_z169, gm_z170, gm_z171, gm_z172, gm_z173, gm_z174, gm_z175, gm_z176, gm_z177, gm_z178, gm_z179, gm_z180, gm_z181, gm_z182, gm_z183, gm_z184, gm_z185, gm_z186, gm_z187, gm_z188, gn_i149, gn_i150, gn_i151, gn_i152, gn_i153, gn_i154, gn_i155, gn_i156, gn_i157, gn_i158, gn_i159, gn_i160, gn_i161, gn_i162, gn_i163, gn_i164, gn_i165, gn_i166, gn_i167, gn_i168, gn_i169, gn_i170, gn_i171, gn_i172, gn_i173, gn_i174, gn_i175, gn_i176, gn_i177, gn_i178, gn_i179, gn_i180, gn_i181, gn_i182, gn_i183, gn_i184, gn_i185, gn_i186, gn_i187, gn_i188, gm_iald, gm_iast, c]
theorem gn_C_s155_179 {M M1 : gm_M} {k : Int} (hk : 0 ≤ k) (h : gn_C 155 179 1 k M M1) : gn_C 155 179 1 (k + 1) M (gm_sA M1 155 k (gm_gA M1 179 k)) := ⟨h.1.sA _ _ _ (by decide), h.2.1, fun a j => by
  have e : ∀ x, 179 ≤ x → x < 180 → gm_gA M1 x k = gm_gA M x k := fun x x1 x2 => by rw [h.2.2, if_neg (by omega)]
  rw [e 179 (by decide) (by decide)]
  by_cases c : (155 ≤ a ∧ a < 155 + 1) ∧ j = k
  · rw [if_pos (by omega), c.2]
    rcases (by omega : a = 155) with rfl
    · rw [gm_gA_sA, if_pos ⟨rfl, rfl⟩]
      rfl
  · rw [gm_gA_sA, if_neg (by omega), h.2.2]
    by_cases c2 : (155 ≤ a ∧ a < 155 + 1) ∧ 0 ≤ j ∧ j < k
    · rw [if_pos c2, if_pos (by omega)]
    · rw [if_neg c2, if_neg (by omega)]⟩
theorem r_X9_undo_l4 (D : Nat) (M0 : gm_M) : ∀ (m f : Nat) (k : Int) (M1 : gm_M), gn_C 155 179 1 k M0 M1 → k = 24 - m → 0 ≤ k →
    ∃ M2, gn_C 155 179 1 24 M0 M2 ∧ gm_ex (gm_go D) qX9_undo (f + (m + 1)) 4 [some (.inr (.inr 148)), some (.inl k)] [] M1 = gm_ex (gm_go D) qX9_undo f 5 [some (.inr (.inr 148)), some (.inl 24)] [] M2 := by
  intro m
  induction m with
  | zero =>
    intro f k M1 hz hk h0
    obtain rfl : k = 24 := by omega
    refine ⟨M1, hz, ?_⟩
    rw [xX9_undo_4]
    simp (config := { maxSteps := 2000000 }) (disch := first | omega | assumption | (simp only [gm_isO_sF, gm_isO_sA, gm_isO_cp]; assumption)) only [gm_push, gm_iload, gm_lload, gm_aload, gm_istore, gm_astore, gm_iinc, gm_op2, gm_quo, gm_op1, gm_lop2, gm_lshl, gm_i2l, gm_l2i, gm_lcmp, gm_dup, gm_pop1, gm_dup2, gm_goto, gm_ifeq, gm_ifne, gm_iflt, gm_ifge, gm_ifgt, gm_ifle, gm_ceq, gm_cne, gm_clt, gm_cge, gm_cgt, gm_cle, gm_ifnull, gm_ifnonnull, gm_swk, gm_switch, gm_getI, gm_getR, gm_putI, gm_putZ, gm_putR, gm_new, gm_newarr, gm_iald, gm_cald, gm_zald, gm_lald, gm_aald, gm_iast, gm_cast, gm_zast, gm_last, gm_aast, gm_acp, gm_oinit, gm_back, gm_scall, gm_vcall, gm_iret, gm_zret, gm_cret, gm_lret, gm_aret, gm_vret, gm_slen, gm_schar, gm_sidx, gm_lget, gm_lset, gm_nl, gm_ent, gm_wd, gm_pop, gm_pad, gm_xl_c, gm_alen_u, gm_1_sF, gm_1_sA, gm_1_cp, gm_len_sF, gm_len_sA, gm_len_cp, Bool.or_true, Bool.true_or, gm_max_u, gm_min_u, gm_isO_sF, gm_isO_sA, gm_isO_cp, gm_gF_sF, gm_gF_sA, gm_gA_sF, gm_gA_sA, gm_gF_cp, gm_gA_cp, gm_add, gm_sub, gm_mul, gm_neg, ↓reduceIte, Nat.reduceAdd, Nat.reduceLeDiff, true_and, and_true, and_self, true_or, or_true, false_and, and_false, false_or, or_false, eq_self, Nat.reduceEqDiff, Int.reduceEq, Int.reduceLT, Int.reduceLE, Int.reduceNeg, Int.reduceAdd, Int.reduceSub, Int.reduceMul, Int.reduceDiv, Int.reduceMod, reduceCtorEq, if_true, if_false, gm_w_id, Int.lt_irrefl]
  | succ m ih =>
    intro f k M1 hz hk h0
    have c : k < 24 := by omega
    have hz2 := gn_C_s155_179 h0 hz
    have hL := hz.1
    have z148 := gm_z148 hL
    obtain ⟨M2, hM2, e⟩ := ih f (k + 1) _ hz2 (by omega) (by omega)
    refine ⟨M2, hM2, ?_⟩
    rw [← e, show f + (m + 1 + 1) = f + (m + 1) + 1 by omega, xX9_undo_4]
    simp (config := { maxSteps := 2000000 }) (disch := first | omega | assumption | (simp only [gm_isO_sF, gm_isO_sA, gm_isO_cp]; assumption)) only [gm_push, gm_iload, gm_lload, gm_aload, gm_istore, gm_astore, gm_iinc, gm_op2, gm_quo, gm_op1, gm_lop2, gm_lshl, gm_i2l, gm_l2i, gm_lcmp, gm_dup, gm_pop1, gm_dup2, gm_goto, gm_ifeq, gm_ifne, gm_iflt, gm_ifge, gm_ifgt, gm_ifle, gm_ceq, gm_cne, gm_clt, gm_cge, gm_cgt, gm_cle, gm_ifnull, gm_ifnonnull, gm_swk, gm_switch, gm_getI, gm_getR, gm_putI, gm_putZ, gm_putR, gm_new, gm_newarr, gm_iald, gm_cald, gm_zald, gm_lald, gm_aald, gm_iast, gm_cast, gm_zast, gm_last, gm_aast, gm_acp, gm_oinit, gm_back, gm_scall, gm_vcall, gm_iret, gm_zret, gm_cret, gm_lret, gm_aret, gm_vret, gm_slen, gm_schar, gm_sidx, gm_lget, gm_lset, gm_nl, gm_ent, gm_wd, gm_pop, gm_pad, gm_xl_c, gm_alen_u, gm_1_sF, gm_1_sA, gm_1_cp, gm_len_sF, gm_len_sA, gm_len_cp, Bool.or_true, Bool.true_or, gm_max_u, gm_min_u, gm_isO_sF, gm_isO_sA, gm_isO_cp, gm_gF_sF, gm_gF_sA, gm_gA_sF, gm_gA_sA, gm_gF_cp, gm_gA_cp, gm_add, gm_sub, gm_mul, gm_neg, ↓reduceIte, Nat.reduceAdd, Nat.reduceLeDiff, true_and, and_true, and_self, true_or, or_true, false_and, and_false, false_or, or_false, eq_self, Nat.reduceEqDiff, Int.reduceEq, Int.reduceLT, Int.reduceLE, Int.reduceNeg, Int.reduceAdd, Int.reduceSub, Int.reduceMul, Int.reduceDiv, Int.reduceMod, reduceCtorEq, if_true, if_false, gm_w_id, gm_l902, gm_l903, gm_l904, gm_l905, gm_l906, gm_l907, gm_l908, gm_l914, gm_l915, gm_l916, gm_l917, gm_l918, gm_l919, gm_l920, gm_l921, gm_l925, gm_l926, gm_l931, gm_l932, gm_l934, gm_l936, gm_l937, gm_l938, gm_l940, gm_l947, gm_l948, gm_l949, gm_l950, gm_l951, gm_l952, gm_l953, gm_l954, gm_l955, gm_l956, gm_l957, gm_l959, gm_l960, gm_l961, gm_l962, gm_l963, gm_z148, gm_z149, gm_z150, gm_z151, gm_z152, gm_z153, gm_z154, gm_z155, gm_z156, gm_z157, gm_z158, gm_z159, gm_z160, gm_z161, gm_z162, gm_z163, gm_z164, gm_z165, gm_z166, gm_z167, gm_z168, gm_z169, gm_z170, gm_z171, gm_z172, gm_z173, gm_z174, gm_z175, gm_z176, gm_z177, gm_z178, gm_z179, gm_z180, gm_z181, gm_z182, gm_z183, gm_z184, gm_z185, gm_z186, gm_z187, gm_z188, gn_i149, gn_i150, gn_i151, gn_i152, gn_i153, gn_i154, gn_i155, gn_i156, gn_i157, gn_i158, gn_i159, gn_i160, gn_i161, gn_i162, gn_i163, gn_i164, gn_i165, gn_i166, gn_i167, gn_i168, gn_i169, gn_i170, gn_i171, gn_i172, gn_i173, gn_i174, gn_i175, gn_i176, gn_i177, gn_i178, gn_i179, gn_i180, gn_i181, gn_i182, gn_i183, gn_i184, gn_i185, gn_i186, gn_i187, gn_i188, gm_iald, gm_iast, c]
theorem gn_C_s169_180 {M M1 : gm_M} {k : Int} (hk : 0 ≤ k) (h : gn_C 169 180 3 k M M1) : gn_C 169 180 3 (k + 1) M (gm_sA (gm_sA (gm_sA M1 169 k (gm_gA M1 180 k)) 170 k (gm_gA M1 181 k)) 171 k (gm_gA M1 182 k)) := ⟨((h.1.sA _ _ _ (by decide)).sA _ _ _ (by decide)).sA _ _ _ (by decide), h.2.1, fun a j => by
  have e : ∀ x, 180 ≤ x → x < 183 → gm_gA M1 x k = gm_gA M x k := fun x x1 x2 => by rw [h.2.2, if_neg (by omega)]
  rw [e 180 (by decide) (by decide), e 181 (by decide) (by decide), e 182 (by decide) (by decide)]
  by_cases c : (169 ≤ a ∧ a < 169 + 3) ∧ j = k
  · rw [if_pos (by omega), c.2]
    rcases (by omega : a = 169 ∨ a = 170 ∨ a = 171) with rfl | rfl | rfl
    · rw [gm_gA_sA, if_neg (by omega), gm_gA_sA, if_neg (by omega), gm_gA_sA, if_pos ⟨rfl, rfl⟩]
      rfl
    · rw [gm_gA_sA, if_neg (by omega), gm_gA_sA, if_pos ⟨rfl, rfl⟩]
      rfl
    · rw [gm_gA_sA, if_pos ⟨rfl, rfl⟩]
      rfl
  · rw [gm_gA_sA, if_neg (by omega), gm_gA_sA, if_neg (by omega), gm_gA_sA, if_neg (by omega), h.2.2]
    by_cases c2 : (169 ≤ a ∧ a < 169 + 3) ∧ 0 ≤ j ∧ j < k
    · rw [if_pos c2, if_pos (by omega)]
    · rw [if_neg c2, if_neg (by omega)]⟩
theorem r_X9_undo_l6 (D : Nat) (M0 : gm_M) : ∀ (m f : Nat) (k : Int) (M1 : gm_M), gn_C 169 180 3 k M0 M1 → k = 8 - m → 0 ≤ k →
    ∃ M2, gn_C 169 180 3 8 M0 M2 ∧ gm_ex (gm_go D) qX9_undo (f + (m + 1)) 6 [some (.inr (.inr 148)), some (.inl k)] [] M1 = gm_ex (gm_go D) qX9_undo f 7 [some (.inr (.inr 148)), some (.inl 8)] [] M2 := by
  intro m
  induction m with
  | zero =>
    intro f k M1 hz hk h0
    obtain rfl : k = 8 := by omega
    refine ⟨M1, hz, ?_⟩
    rw [xX9_undo_6]
    simp (config := { maxSteps := 2000000 }) (disch := first | omega | assumption | (simp only [gm_isO_sF, gm_isO_sA, gm_isO_cp]; assumption)) only [gm_push, gm_iload, gm_lload, gm_aload, gm_istore, gm_astore, gm_iinc, gm_op2, gm_quo, gm_op1, gm_lop2, gm_lshl, gm_i2l, gm_l2i, gm_lcmp, gm_dup, gm_pop1, gm_dup2, gm_goto, gm_ifeq, gm_ifne, gm_iflt, gm_ifge, gm_ifgt, gm_ifle, gm_ceq, gm_cne, gm_clt, gm_cge, gm_cgt, gm_cle, gm_ifnull, gm_ifnonnull, gm_swk, gm_switch, gm_getI, gm_getR, gm_putI, gm_putZ, gm_putR, gm_new, gm_newarr, gm_iald, gm_cald, gm_zald, gm_lald, gm_aald, gm_iast, gm_cast, gm_zast, gm_last, gm_aast, gm_acp, gm_oinit, gm_back, gm_scall, gm_vcall, gm_iret, gm_zret, gm_cret, gm_lret, gm_aret, gm_vret, gm_slen, gm_schar, gm_sidx, gm_lget, gm_lset, gm_nl, gm_ent, gm_wd, gm_pop, gm_pad, gm_xl_c, gm_alen_u, gm_1_sF, gm_1_sA, gm_1_cp, gm_len_sF, gm_len_sA, gm_len_cp, Bool.or_true, Bool.true_or, gm_max_u, gm_min_u, gm_isO_sF, gm_isO_sA, gm_isO_cp, gm_gF_sF, gm_gF_sA, gm_gA_sF, gm_gA_sA, gm_gF_cp, gm_gA_cp, gm_add, gm_sub, gm_mul, gm_neg, ↓reduceIte, Nat.reduceAdd, Nat.reduceLeDiff, true_and, and_true, and_self, true_or, or_true, false_and, and_false, false_or, or_false, eq_self, Nat.reduceEqDiff, Int.reduceEq, Int.reduceLT, Int.reduceLE, Int.reduceNeg, Int.reduceAdd, Int.reduceSub, Int.reduceMul, Int.reduceDiv, Int.reduceMod, reduceCtorEq, if_true, if_false, gm_w_id, Int.lt_irrefl]
  | succ m ih =>
    intro f k M1 hz hk h0
    have c : k < 8 := by omega
    have hz2 := gn_C_s169_180 h0 hz
    have hL := hz.1
    have z148 := gm_z148 hL
    obtain ⟨M2, hM2, e⟩ := ih f (k + 1) _ hz2 (by omega) (by omega)
    refine ⟨M2, hM2, ?_⟩
    rw [← e, show f + (m + 1 + 1) = f + (m + 1) + 1 by omega, xX9_undo_6]
    simp (config := { maxSteps := 2000000 }) (disch := first | omega | assumption | (simp only [gm_isO_sF, gm_isO_sA, gm_isO_cp]; assumption)) only [gm_push, gm_iload, gm_lload, gm_aload, gm_istore, gm_astore, gm_iinc, gm_op2, gm_quo, gm_op1, gm_lop2, gm_lshl, gm_i2l, gm_l2i, gm_lcmp, gm_dup, gm_pop1, gm_dup2, gm_goto, gm_ifeq, gm_ifne, gm_iflt, gm_ifge, gm_ifgt, gm_ifle, gm_ceq, gm_cne, gm_clt, gm_cge, gm_cgt, gm_cle, gm_ifnull, gm_ifnonnull, gm_swk, gm_switch, gm_getI, gm_getR, gm_putI, gm_putZ, gm_putR, gm_new, gm_newarr, gm_iald, gm_cald, gm_zald, gm_lald, gm_aald, gm_iast, gm_cast, gm_zast, gm_last, gm_aast, gm_acp, gm_oinit, gm_back, gm_scall, gm_vcall, gm_iret, gm_zret, gm_cret, gm_lret, gm_aret, gm_vret, gm_slen, gm_schar, gm_sidx, gm_lget, gm_lset, gm_nl, gm_ent, gm_wd, gm_pop, gm_pad, gm_xl_c, gm_alen_u, gm_1_sF, gm_1_sA, gm_1_cp, gm_len_sF, gm_len_sA, gm_len_cp, Bool.or_true, Bool.true_or, gm_max_u, gm_min_u, gm_isO_sF, gm_isO_sA, gm_isO_cp, gm_gF_sF, gm_gF_sA, gm_gA_sF, gm_gA_sA, gm_gF_cp, gm_gA_cp, gm_add, gm_sub, gm_mul, gm_neg, ↓reduceIte, Nat.reduceAdd, Nat.reduceLeDiff, true_and, and_true, and_self, true_or, or_true, false_and, and_false, false_or, or_false, eq_self, Nat.reduceEqDiff, Int.reduceEq, Int.reduceLT, Int.reduceLE, Int.reduceNeg, Int.reduceAdd, Int.reduceSub, Int.reduceMul, Int.reduceDiv, Int.reduceMod, reduceCtorEq, if_true, if_false, gm_w_id, gm_l902, gm_l903, gm_l904, gm_l905, gm_l906, gm_l907, gm_l908, gm_l914, gm_l915, gm_l916, gm_l917, gm_l918, gm_l919, gm_l920, gm_l921, gm_l925, gm_l926, gm_l931, gm_l932, gm_l934, gm_l936, gm_l937, gm_l938, gm_l940, gm_l947, gm_l948, gm_l949, gm_l950, gm_l951, gm_l952, gm_l953, gm_l954, gm_l955, gm_l956, gm_l957, gm_l959, gm_l960, gm_l961, gm_l962, gm_l963, gm_z148, gm_z149, gm_z150, gm_z151, gm_z152, gm_z153, gm_z154, gm_z155, gm_z156, gm_z157, gm_z158, gm_z159, gm_z160, gm_z161, gm_z162, gm_z163, gm_z164, gm_z165, gm_z166, gm_z167, gm_z168, gm_z169, gm_z170, gm_z171, gm_z172, gm_z173, gm_z174, gm_z175, gm_z176, gm_z177, gm_z178, gm_z179, gm_z180, gm_z181, gm_z182, gm_z183, gm_z184, gm_z185, gm_z186, gm_z187, gm_z188, gn_i149, gn_i150, gn_i151, gn_i152, gn_i153, gn_i154, gn_i155, gn_i156, gn_i157, gn_i158, gn_i159, gn_i160, gn_i161, gn_i162, gn_i163, gn_i164, gn_i165, gn_i166, gn_i167, gn_i168, gn_i169, gn_i170, gn_i171, gn_i172, gn_i173, gn_i174, gn_i175, gn_i176, gn_i177, gn_i178, gn_i179, gn_i180, gn_i181, gn_i182, gn_i183, gn_i184, gn_i185, gn_i186, gn_i187, gn_i188, gm_iald, gm_iast, c]
theorem gn_C_s172_183 {M M1 : gm_M} {k : Int} (hk : 0 ≤ k) (h : gn_C 172 183 1 k M M1) : gn_C 172 183 1 (k + 1) M (gm_sA M1 172 k (gm_gA M1 183 k)) := ⟨h.1.sA _ _ _ (by decide), h.2.1, fun a j => by
  have e : ∀ x, 183 ≤ x → x < 184 → gm_gA M1 x k = gm_gA M x k := fun x x1 x2 => by rw [h.2.2, if_neg (by omega)]
  rw [e 183 (by decide) (by decide)]
  by_cases c : (172 ≤ a ∧ a < 172 + 1) ∧ j = k
  · rw [if_pos (by omega), c.2]
    rcases (by omega : a = 172) with rfl
    · rw [gm_gA_sA, if_pos ⟨rfl, rfl⟩]
      rfl
  · rw [gm_gA_sA, if_neg (by omega), h.2.2]
    by_cases c2 : (172 ≤ a ∧ a < 172 + 1) ∧ 0 ≤ j ∧ j < k
    · rw [if_pos c2, if_pos (by omega)]
    · rw [if_neg c2, if_neg (by omega)]⟩
theorem r_X9_undo_l8 (D : Nat) (M0 : gm_M) : ∀ (m f : Nat) (k : Int) (M1 : gm_M), gn_C 172 183 1 k M0 M1 → k = 12 - m → 0 ≤ k →
    ∃ M2, gn_C 172 183 1 12 M0 M2 ∧ gm_ex (gm_go D) qX9_undo (f + (m + 1)) 8 [some (.inr (.inr 148)), some (.inl k)] [] M1 = gm_ex (gm_go D) qX9_undo f 9 [some (.inr (.inr 148)), some (.inl 12)] [] M2 := by
  intro m
  induction m with
  | zero =>
    intro f k M1 hz hk h0
    obtain rfl : k = 12 := by omega
    refine ⟨M1, hz, ?_⟩
    rw [xX9_undo_8]
    simp (config := { maxSteps := 2000000 }) (disch := first | omega | assumption | (simp only [gm_isO_sF, gm_isO_sA, gm_isO_cp]; assumption)) only [gm_push, gm_iload, gm_lload, gm_aload, gm_istore, gm_astore, gm_iinc, gm_op2, gm_quo, gm_op1, gm_lop2, gm_lshl, gm_i2l, gm_l2i, gm_lcmp, gm_dup, gm_pop1, gm_dup2, gm_goto, gm_ifeq, gm_ifne, gm_iflt, gm_ifge, gm_ifgt, gm_ifle, gm_ceq, gm_cne, gm_clt, gm_cge, gm_cgt, gm_cle, gm_ifnull, gm_ifnonnull, gm_swk, gm_switch, gm_getI, gm_getR, gm_putI, gm_putZ, gm_putR, gm_new, gm_newarr, gm_iald, gm_cald, gm_zald, gm_lald, gm_aald, gm_iast, gm_cast, gm_zast, gm_last, gm_aast, gm_acp, gm_oinit, gm_back, gm_scall, gm_vcall, gm_iret, gm_zret, gm_cret, gm_lret, gm_aret, gm_vret, gm_slen, gm_schar, gm_sidx, gm_lget, gm_lset, gm_nl, gm_ent, gm_wd, gm_pop, gm_pad, gm_xl_c, gm_alen_u, gm_1_sF, gm_1_sA, gm_1_cp, gm_len_sF, gm_len_sA, gm_len_cp, Bool.or_true, Bool.true_or, gm_max_u, gm_min_u, gm_isO_sF, gm_isO_sA, gm_isO_cp, gm_gF_sF, gm_gF_sA, gm_gA_sF, gm_gA_sA, gm_gF_cp, gm_gA_cp, gm_add, gm_sub, gm_mul, gm_neg, ↓reduceIte, Nat.reduceAdd, Nat.reduceLeDiff, true_and, and_true, and_self, true_or, or_true, false_and, and_false, false_or, or_false, eq_self, Nat.reduceEqDiff, Int.reduceEq, Int.reduceLT, Int.reduceLE, Int.reduceNeg, Int.reduceAdd, Int.reduceSub, Int.reduceMul, Int.reduceDiv, Int.reduceMod, reduceCtorEq, if_true, if_false, gm_w_id, Int.lt_irrefl]
  | succ m ih =>
    intro f k M1 hz hk h0
    have c : k < 12 := by omega
    have hz2 := gn_C_s172_183 h0 hz
    have hL := hz.1
    have z148 := gm_z148 hL
    obtain ⟨M2, hM2, e⟩ := ih f (k + 1) _ hz2 (by omega) (by omega)
    refine ⟨M2, hM2, ?_⟩
    rw [← e, show f + (m + 1 + 1) = f + (m + 1) + 1 by omega, xX9_undo_8]
    simp (config := { maxSteps := 2000000 }) (disch := first | omega | assumption | (simp only [gm_isO_sF, gm_isO_sA, gm_isO_cp]; assumption)) only [gm_push, gm_iload, gm_lload, gm_aload, gm_istore, gm_astore, gm_iinc, gm_op2, gm_quo, gm_op1, gm_lop2, gm_lshl, gm_i2l, gm_l2i, gm_lcmp, gm_dup, gm_pop1, gm_dup2, gm_goto, gm_ifeq, gm_ifne, gm_iflt, gm_ifge, gm_ifgt, gm_ifle, gm_ceq, gm_cne, gm_clt, gm_cge, gm_cgt, gm_cle, gm_ifnull, gm_ifnonnull, gm_swk, gm_switch, gm_getI, gm_getR, gm_putI, gm_putZ, gm_putR, gm_new, gm_newarr, gm_iald, gm_cald, gm_zald, gm_lald, gm_aald, gm_iast, gm_cast, gm_zast, gm_last, gm_aast, gm_acp, gm_oinit, gm_back, gm_scall, gm_vcall, gm_iret, gm_zret, gm_cret, gm_lret, gm_aret, gm_vret, gm_slen, gm_schar, gm_sidx, gm_lget, gm_lset, gm_nl, gm_ent, gm_wd, gm_pop, gm_pad, gm_xl_c, gm_alen_u, gm_1_sF, gm_1_sA, gm_1_cp, gm_len_sF, gm_len_sA, gm_len_cp, Bool.or_true, Bool.true_or, gm_max_u, gm_min_u, gm_isO_sF, gm_isO_sA, gm_isO_cp, gm_gF_sF, gm_gF_sA, gm_gA_sF, gm_gA_sA, gm_gF_cp, gm_gA_cp, gm_add, gm_sub, gm_mul, gm_neg, ↓reduceIte, Nat.reduceAdd, Nat.reduceLeDiff, true_and, and_true, and_self, true_or, or_true, false_and, and_false, false_or, or_false, eq_self, Nat.reduceEqDiff, Int.reduceEq, Int.reduceLT, Int.reduceLE, Int.reduceNeg, Int.reduceAdd, Int.reduceSub, Int.reduceMul, Int.reduceDiv, Int.reduceMod, reduceCtorEq, if_true, if_false, gm_w_id, gm_l902, gm_l903, gm_l904, gm_l905, gm_l906, gm_l907, gm_l908, gm_l914, gm_l915, gm_l916, gm_l917, gm_l918, gm_l919, gm_l920, gm_l921, gm_l925, gm_l926, gm_l931, gm_l932, gm_l934, gm_l936, gm_l937, gm_l938, gm_l940, gm_l947, gm_l948, gm_l949, gm_l950, gm_l951, gm_l952, gm_l953, gm_l954, gm_l955, gm_l956, gm_l957, gm_l959, gm_l960, gm_l961, gm_l962, gm_l963, gm_z148, gm_z149, gm_z150, gm_z151, gm_z152, gm_z153, gm_z154, gm_z155, gm_z156, gm_z157, gm_z158, gm_z159, gm_z160, gm_z161, gm_z162, gm_z163, gm_z164, gm_z165, gm_z166, gm_z167, gm_z168, gm_z169, gm_z170, gm_z171, gm_z172, gm_z173, gm_z174, gm_z175, gm_z176, gm_z177, gm_z178, gm_z179, gm_z180, gm_z181, gm_z182, gm_z183, gm_z184, gm_z185, gm_z186, gm_z187, gm_z188, gn_i149, gn_i150, gn_i151, gn_i152, gn_i153, gn_i154, gn_i155, gn_i156, gn_i157, gn_i158, gn_i159, gn_i160, gn_i161, gn_i162, gn_i163, gn_i164, gn_i165, gn_i166, gn_i167, gn_i168, gn_i169, gn_i170, gn_i171, gn_i172, gn_i173, gn_i174, gn_i175, gn_i176, gn_i177, gn_i178, gn_i179, gn_i180, gn_i181, gn_i182, gn_i183, gn_i184, gn_i185, gn_i186, gn_i187, gn_i188, gm_iald, gm_iast, c]
/-- all rows of the town copied, in the model -/
def gn_CA (M M1 : gm_M) (a s b a' s' b' : Int) : Prop := ∀ x j : Int, gm_gA M1 x j = if (b ≤ x ∧ x < b + 1) ∧ 0 ≤ j ∧ j < 12 then gm_gA M (x - b + b') j else if (s ≤ x ∧ x < s + 3) ∧ 0 ≤ j ∧ j < 8 then gm_gA M (x - s + s') j else if (a + 6 ≤ x ∧ x < a + 6 + 1) ∧ 0 ≤ j ∧ j < 24 then gm_gA M (x - (a + 6) + (a' + 6)) j else if (a ≤ x ∧ x < a + 6) ∧ 0 ≤ j ∧ j < 6 then gm_gA M (x - a + a') j else gm_gA M x j
theorem r_X9_image (D : Nat) {M : gm_M} (hL : gm_Lay M) : ∃ M2, gm_Lay M2 ∧ (∀ (f : Nat) (o : Int), gm_gF M2 f o = gm_gF (gm_sF (gm_sF (gm_sF (gm_sF (gm_sF (gm_sF M 941 148 1) 942 148 (gm_gF M 910 148)) 943 148 (gm_gF M 900 148)) 944 148 (gm_gF M 901 148)) 945 148 (gm_gF M 935 148)) 946 148 (gm_gF M 939 148)) f o) ∧ gn_CA M M2 173 180 183 149 169 172 ∧ gm_go (D + 1) 167 [.inr (.inr 148)] M = some (some (.inl (gm_gF M 900 148)), M2) := by
  have hL0 : gm_Lay (gm_sF (gm_sF (gm_sF (gm_sF (gm_sF (gm_sF M 941 148 1) 942 148 (gm_gF M 910 148)) 943 148 (gm_gF M 900 148)) 944 148 (gm_gF M 901 148)) 945 148 (gm_gF M 935 148)) 946 148 (gm_gF M 939 148)) := (((((hL.sF _ _ _ (by decide)).sF _ _ _ (by decide)).sF _ _ _ (by decide)).sF _ _ _ (by decide)).sF _ _ _ (by decide)).sF _ _ _ (by decide)
  have z148 := gm_z148 hL
  obtain ⟨Ma, ha, ea⟩ := r_X9_image_l1 D (gm_sF (gm_sF (gm_sF (gm_sF (gm_sF (gm_sF M 941 148 1) 942 148 (gm_gF M 910 148)) 943 148 (gm_gF M 900 148)) 944 148 (gm_gF M 901 148)) 945 148 (gm_gF M 935 148)) 946 148 (gm_gF M 939 148)) 6 99992 0 _ (gn_C.rf hL0) rfl (Int.le_refl 0)
  obtain ⟨Mb, hb, eb⟩ := r_X9_image_l3 D Ma 24 99966 0 _ (gn_C.rf ha.1) rfl (Int.le_refl 0)
  obtain ⟨Mc, hc, ec⟩ := r_X9_image_l5 D Mb 8 99956 0 _ (gn_C.rf hb.1) rfl (Int.le_refl 0)
  obtain ⟨Md, hd, ed⟩ := r_X9_image_l7 D Mc 12 99942 0 _ (gn_C.rf hc.1) rfl (Int.le_refl 0)
  simp only [Nat.reduceAdd] at ea eb ec ed
  have hF : ∀ (f : Nat) (o : Int), gm_gF Md f o = gm_gF (gm_sF (gm_sF (gm_sF (gm_sF (gm_sF (gm_sF M 941 148 1) 942 148 (gm_gF M 910 148)) 943 148 (gm_gF M 900 148)) 944 148 (gm_gF M 901 148)) 945 148 (gm_gF M 935 148)) 946 148 (gm_gF M 939 148)) f o := fun f o => (hd.2.1 f o).trans ((hc.2.1 f o).trans ((hb.2.1 f o).trans (ha.2.1 f o)))
  have zd := gm_z148 hd.1
  have f9 : gm_gF Md 900 148 = gm_gF M 900 148 := by
    rw [hF]
    simp only [gm_gF_sF, Nat.reduceEqDiff, false_and, ↓reduceIte]
  refine ⟨Md, hd.1, hF, fun x j => ?_, ?_⟩
  · rw [hd.2.2]
    by_cases c1 : (183 ≤ x ∧ x < 183 + 1) ∧ 0 ≤ j ∧ j < 12
    · rw [if_pos c1, if_pos c1, hc.2.2, if_neg (by omega), hb.2.2, if_neg (by omega), ha.2.2, if_neg (by omega)]
      rfl
    · rw [if_neg c1, if_neg c1, hc.2.2]
      by_cases c2 : (180 ≤ x ∧ x < 180 + 3) ∧ 0 ≤ j ∧ j < 8
      · rw [if_pos c2, if_pos c2, hb.2.2, if_neg (by omega), ha.2.2, if_neg (by omega)]
        rfl
      · rw [if_neg c2, if_neg c2, hb.2.2]
        by_cases c3 : (179 ≤ x ∧ x < 179 + 1) ∧ 0 ≤ j ∧ j < 24
        · rw [if_pos c3, if_pos (by omega), ha.2.2, if_neg (by omega)]
          rfl
        · rw [if_neg c3, if_neg (by omega), ha.2.2]
          rfl
  · rw [eX9_image _ _ _ (Nat.le_of_ble_eq_true rfl)]
    simp (config := { maxSteps := 2000000 }) (disch := first | omega | assumption | (simp only [gm_isO_sF, gm_isO_sA, gm_isO_cp]; assumption)) only [gm_push, gm_iload, gm_lload, gm_aload, gm_istore, gm_astore, gm_iinc, gm_op2, gm_quo, gm_op1, gm_lop2, gm_lshl, gm_i2l, gm_l2i, gm_lcmp, gm_dup, gm_pop1, gm_dup2, gm_goto, gm_ifeq, gm_ifne, gm_iflt, gm_ifge, gm_ifgt, gm_ifle, gm_ceq, gm_cne, gm_clt, gm_cge, gm_cgt, gm_cle, gm_ifnull, gm_ifnonnull, gm_swk, gm_switch, gm_getI, gm_getR, gm_putI, gm_putZ, gm_putR, gm_new, gm_newarr, gm_iald, gm_cald, gm_zald, gm_lald, gm_aald, gm_iast, gm_cast, gm_zast, gm_last, gm_aast, gm_acp, gm_oinit, gm_back, gm_scall, gm_vcall, gm_iret, gm_zret, gm_cret, gm_lret, gm_aret, gm_vret, gm_slen, gm_schar, gm_sidx, gm_lget, gm_lset, gm_nl, gm_ent, gm_wd, gm_pop, gm_pad, gm_xl_c, gm_alen_u, gm_1_sF, gm_1_sA, gm_1_cp, gm_len_sF, gm_len_sA, gm_len_cp, Bool.or_true, Bool.true_or, gm_max_u, gm_min_u, gm_isO_sF, gm_isO_sA, gm_isO_cp, gm_gF_sF, gm_gF_sA, gm_gA_sF, gm_gA_sA, gm_gF_cp, gm_gA_cp, gm_add, gm_sub, gm_mul, gm_neg, ↓reduceIte, Nat.reduceAdd, Nat.reduceLeDiff, true_and, and_true, and_self, true_or, or_true, false_and, and_false, false_or, or_false, eq_self, Nat.reduceEqDiff, Int.reduceEq, Int.reduceLT, Int.reduceLE, Int.reduceNeg, Int.reduceAdd, Int.reduceSub, Int.reduceMul, Int.reduceDiv, Int.reduceMod, reduceCtorEq, if_true, if_false, gm_w_id, xX9_image_0, xX9_image_2, xX9_image_4, xX9_image_6, xX9_image_8, gm_putZ, z148, ea, eb, ec, ed, zd, f9]
theorem r_X9_undo (D : Nat) {M : gm_M} (hL : gm_Lay M) (h41 : gm_gF M 941 148 = 1) : ∃ M2, gm_Lay M2 ∧ (∀ (f : Nat) (o : Int), gm_gF M2 f o = gm_gF (gm_sF (gm_sF (gm_sF (gm_sF (gm_sF M 910 148 (gm_gF M 942 148)) 900 148 (gm_gF M 943 148)) 901 148 (gm_gF M 944 148)) 935 148 (gm_gF M 945 148)) 939 148 (gm_gF M 946 148)) f o) ∧ gn_CA M M2 149 169 172 173 180 183 ∧ gm_go (D + 1) 168 [.inr (.inr 148)] M = some (some (.inl (gm_gF M 943 148)), M2) := by
  have hL0 : gm_Lay (gm_sF (gm_sF (gm_sF (gm_sF (gm_sF M 910 148 (gm_gF M 942 148)) 900 148 (gm_gF M 943 148)) 901 148 (gm_gF M 944 148)) 935 148 (gm_gF M 945 148)) 939 148 (gm_gF M 946 148)) := ((((hL.sF _ _ _ (by decide)).sF _ _ _ (by decide)).sF _ _ _ (by decide)).sF _ _ _ (by decide)).sF _ _ _ (by decide)
  have z148 := gm_z148 hL
  obtain ⟨Ma, ha, ea⟩ := r_X9_undo_l2 D (gm_sF (gm_sF (gm_sF (gm_sF (gm_sF M 910 148 (gm_gF M 942 148)) 900 148 (gm_gF M 943 148)) 901 148 (gm_gF M 944 148)) 935 148 (gm_gF M 945 148)) 939 148 (gm_gF M 946 148)) 6 99991 0 _ (gn_C.rf hL0) rfl (Int.le_refl 0)
  obtain ⟨Mb, hb, eb⟩ := r_X9_undo_l4 D Ma 24 99965 0 _ (gn_C.rf ha.1) rfl (Int.le_refl 0)
  obtain ⟨Mc, hc, ec⟩ := r_X9_undo_l6 D Mb 8 99955 0 _ (gn_C.rf hb.1) rfl (Int.le_refl 0)
  obtain ⟨Md, hd, ed⟩ := r_X9_undo_l8 D Mc 12 99941 0 _ (gn_C.rf hc.1) rfl (Int.le_refl 0)
  simp only [Nat.reduceAdd] at ea eb ec ed
  have hF : ∀ (f : Nat) (o : Int), gm_gF Md f o = gm_gF (gm_sF (gm_sF (gm_sF (gm_sF (gm_sF M 910 148 (gm_gF M 942 148)) 900 148 (gm_gF M 943 148)) 901 148 (gm_gF M 944 148)) 935 148 (gm_gF M 945 148)) 939 148 (gm_gF M 946 148)) f o := fun f o => (hd.2.1 f o).trans ((hc.2.1 f o).trans ((hb.2.1 f o).trans (ha.2.1 f o)))
  have zd := gm_z148 hd.1
  have f9 : gm_gF Md 900 148 = gm_gF M 943 148 := by
    rw [hF]
    simp only [gm_gF_sF, Nat.reduceEqDiff, false_and, and_self, ↓reduceIte]
  refine ⟨Md, hd.1, hF, fun x j => ?_, ?_⟩
  · rw [hd.2.2]
    by_cases c1 : (172 ≤ x ∧ x < 172 + 1) ∧ 0 ≤ j ∧ j < 12
    · rw [if_pos c1, if_pos c1, hc.2.2, if_neg (by omega), hb.2.2, if_neg (by omega), ha.2.2, if_neg (by omega)]
      rfl
    · rw [if_neg c1, if_neg c1, hc.2.2]
      by_cases c2 : (169 ≤ x ∧ x < 169 + 3) ∧ 0 ≤ j ∧ j < 8
      · rw [if_pos c2, if_pos c2, hb.2.2, if_neg (by omega), ha.2.2, if_neg (by omega)]
        rfl
      · rw [if_neg c2, if_neg c2, hb.2.2]
        by_cases c3 : (155 ≤ x ∧ x < 155 + 1) ∧ 0 ≤ j ∧ j < 24
        · rw [if_pos c3, if_pos (by omega), ha.2.2, if_neg (by omega)]
          rfl
        · rw [if_neg c3, if_neg (by omega), ha.2.2]
          rfl
  · rw [eX9_undo _ _ _ (Nat.le_of_ble_eq_true rfl)]
    simp (config := { maxSteps := 2000000 }) (disch := first | omega | assumption | (simp only [gm_isO_sF, gm_isO_sA, gm_isO_cp]; assumption)) only [gm_push, gm_iload, gm_lload, gm_aload, gm_istore, gm_astore, gm_iinc, gm_op2, gm_quo, gm_op1, gm_lop2, gm_lshl, gm_i2l, gm_l2i, gm_lcmp, gm_dup, gm_pop1, gm_dup2, gm_goto, gm_ifeq, gm_ifne, gm_iflt, gm_ifge, gm_ifgt, gm_ifle, gm_ceq, gm_cne, gm_clt, gm_cge, gm_cgt, gm_cle, gm_ifnull, gm_ifnonnull, gm_swk, gm_switch, gm_getI, gm_getR, gm_putI, gm_putZ, gm_putR, gm_new, gm_newarr, gm_iald, gm_cald, gm_zald, gm_lald, gm_aald, gm_iast, gm_cast, gm_zast, gm_last, gm_aast, gm_acp, gm_oinit, gm_back, gm_scall, gm_vcall, gm_iret, gm_zret, gm_cret, gm_lret, gm_aret, gm_vret, gm_slen, gm_schar, gm_sidx, gm_lget, gm_lset, gm_nl, gm_ent, gm_wd, gm_pop, gm_pad, gm_xl_c, gm_alen_u, gm_1_sF, gm_1_sA, gm_1_cp, gm_len_sF, gm_len_sA, gm_len_cp, Bool.or_true, Bool.true_or, gm_max_u, gm_min_u, gm_isO_sF, gm_isO_sA, gm_isO_cp, gm_gF_sF, gm_gF_sA, gm_gA_sF, gm_gA_sA, gm_gF_cp, gm_gA_cp, gm_add, gm_sub, gm_mul, gm_neg, ↓reduceIte, Nat.reduceAdd, Nat.reduceLeDiff, true_and, and_true, and_self, true_or, or_true, false_and, and_false, false_or, or_false, eq_self, Nat.reduceEqDiff, Int.reduceEq, Int.reduceLT, Int.reduceLE, Int.reduceNeg, Int.reduceAdd, Int.reduceSub, Int.reduceMul, Int.reduceDiv, Int.reduceMod, reduceCtorEq, if_true, if_false, gm_w_id, xX9_undo_0, xX9_undo_1, xX9_undo_3, xX9_undo_5, xX9_undo_7, xX9_undo_9, z148, h41, ea, eb, ec, ed, zd, f9]
/-! a town, copied -/
theorem gn_tc.mv {M Mk M2 : gm_M} {t s : Int} (hm : gm_gF M 701 s ≤ 6) (hF : ∀ (f : Nat) (o : Int), t ≤ o → o ≤ t + 23 → gm_gF M2 f o = gm_gF Mk f o) (hA : ∀ a i : Int, t ≤ a → a ≤ t + 23 → gm_gA M2 a i = gm_gA Mk a i) (h : gn_tc M Mk t s) : gn_tc M M2 t s := by
  obtain ⟨h1, h2, h3, h4⟩ := h
  refine ⟨fun k k1 k2 => ?_, ?_, fun i i1 i2 => ?_, fun i i1 i2 => ?_⟩
  · have := h1 k k1 k2
    unfold gn_hc at *
    have g : ∀ (f : Nat), gm_gF M2 f (t + 6 + 3 * k) = gm_gF Mk f (t + 6 + 3 * k) := fun f => hF f _ (by omega) (by omega)
    have g1 : ∀ (f : Nat), gm_gF M2 f (t + 6 + 3 * k + 1) = gm_gF Mk f (t + 6 + 3 * k + 1) := fun f => hF f _ (by omega) (by omega)
    have g2 : ∀ i, gm_gA M2 (t + 6 + 3 * k + 2) i = gm_gA Mk (t + 6 + 3 * k + 2) i := fun i => hA _ i (by omega) (by omega)
    simp only [g, g1, g2]
    exact this
  · have g : ∀ (f : Nat), gm_gF M2 f t = gm_gF Mk f t := fun f => hF f _ (by omega) (by omega)
    simp only [g]
    exact h2
  · rw [hA (t + 2) i (by omega) (by omega), hA (t + 3) i (by omega) (by omega), hA (t + 4) i (by omega) (by omega)]
    exact h3 i i1 i2
  · rw [hA (t + 5) i (by omega) (by omega)]
    exact h4 i i1 i2
theorem gn_TI.tc {M M2 : gm_M} {t s : Int} (h : gn_TI M s) (hc : gn_tc M M2 t s) (hg : gm_gF M2 810 1 = gm_gF M 810 1) : gn_TI M2 t := by
  obtain ⟨a1, a2, a3, a4, a5, a6, a7, a8⟩ := h
  obtain ⟨h1, ⟨c1, c2, c3, c4, c5⟩, h3, h4⟩ := hc
  unfold gn_TI
  rw [c1, c2, c3, c4, c5, hg]
  refine ⟨a1, a2, a3, fun k k1 k2 => ?_, a5, a6, fun k k1 k2 => ?_, fun k k1 k2 => ?_⟩
  · obtain ⟨⟨e1, e2, e3, e4, e5⟩, e6, e7, e8, e9⟩ := h1 k k1 k2
    rw [e1, e2, e3, e4, e5, e6, e7, e8]
    obtain ⟨b1, b2, b3, b4, b5, b6, b7, b8, b9⟩ := a4 k k1 k2
    exact ⟨b1, b2, b3, b4, b5, b6, b7, b8, fun i i1 i2 => by rw [e9 i i1 i2]; exact b9 i i1 i2⟩
  · obtain ⟨e1, e2, e3⟩ := h3 k k1 (by omega)
    rw [e1, e2, e3]
    exact a7 k k1 k2
  · rw [h4 k k1 (by omega)]
    exact a8 k k1 k2
def gn_CB' (M M1 : gm_M) (a s b a' s' b' : Int) : Prop := ∀ x j : Int, 149 ≤ x → gm_gA M1 x j = if (b ≤ x ∧ x < b + 1) ∧ 0 ≤ j ∧ j < 12 then gm_gA M (x - b + b') j else if (s ≤ x ∧ x < s + 3) ∧ 0 ≤ j ∧ j < 8 then gm_gA M (x - s + s') j else if (a + 6 ≤ x ∧ x < a + 6 + 1) ∧ 0 ≤ j ∧ j < 24 then gm_gA M (x - (a + 6) + (a' + 6)) j else if (a ≤ x ∧ x < a + 6) ∧ 0 ≤ j ∧ j < 6 then gm_gA M (x - a + a') j else gm_gA M x j
theorem gn_CA.b {M M1 M2 : gm_M} {a s b a' s' b' : Int} (h : gn_CA M1 M2 a s b a' s' b') (hA : ∀ x j : Int, 149 ≤ x → gm_gA M1 x j = gm_gA M x j) (ha : 149 ≤ a') (hs : 149 ≤ s') (hb : 149 ≤ b') : gn_CB' M M2 a s b a' s' b' := fun x j hx => by
  rw [h x j, hA x j hx]
  by_cases c1 : (b ≤ x ∧ x < b + 1) ∧ 0 ≤ j ∧ j < 12
  · rw [if_pos c1, if_pos c1, hA _ j (by omega)]
  · rw [if_neg c1, if_neg c1]
    by_cases c2 : (s ≤ x ∧ x < s + 3) ∧ 0 ≤ j ∧ j < 8
    · rw [if_pos c2, if_pos c2, hA _ j (by omega)]
    · rw [if_neg c2, if_neg c2]
      by_cases c3 : (a + 6 ≤ x ∧ x < a + 6 + 1) ∧ 0 ≤ j ∧ j < 24
      · rw [if_pos c3, if_pos c3, hA _ j (by omega)]
      · rw [if_neg c3, if_neg c3]
        by_cases c4 : (a ≤ x ∧ x < a + 6) ∧ 0 ≤ j ∧ j < 6
        · rw [if_pos c4, if_pos c4, hA _ j (by omega)]
        · rw [if_neg c4, if_neg c4]
theorem gn_TR.tc {M M2 : gm_M} {t s a σ b a' σ' b' : Int} {fh fd ft fs fb fh' fd' ft' fs' fb' : Nat} (hI : gn_TI M s) (h : gn_TR M s a' σ' b' fh' fd' ft' fs' fb') (hc : gn_tc M M2 t s) (hf : gm_gF M2 fh 148 = gm_gF M fh' 148 ∧ gm_gF M2 fd 148 = gm_gF M fd' 148 ∧ gm_gF M2 ft 148 = gm_gF M ft' 148 ∧ gm_gF M2 fs 148 = gm_gF M fs' 148 ∧ gm_gF M2 fb 148 = gm_gF M fb' 148) (hA : gn_CB' M M2 a σ b a' σ' b') (ha : 149 ≤ a) (hd2 : σ + 2 < b) (hd3 : a + 6 < σ) : gn_TR M2 t a σ b fh fd ft fs fb := by
  obtain ⟨a1, a2, a3, a4, a5, a6, a7, a8⟩ := hI
  obtain ⟨t1, t2, t3, t4⟩ := h
  obtain ⟨h1, ⟨c1, c2, c3, c4, c5⟩, h3, h4⟩ := hc
  unfold gn_TR
  rw [c1, c2, c3, c4, c5, hf.1, hf.2.1, hf.2.2.1, hf.2.2.2.1, hf.2.2.2.2]
  have r6 : ∀ x j, 0 ≤ x → x < 6 → 0 ≤ j → j < 6 → gm_gA M2 (a + x) j = gm_gA M (a' + x) j := fun x j x1 x2 j1 j2 => by
    rw [hA _ _ (by omega), if_neg (by omega), if_neg (by omega), if_neg (by omega), if_pos (by omega), show a + x - a + a' = a' + x by omega]
  refine ⟨t1, fun k k1 k2 => ?_, fun k k1 k2 => ?_, fun k k1 k2 => ?_⟩
  · obtain ⟨⟨e1, e2, e3, e4, e5⟩, e6, e7, e8, e9⟩ := h1 k k1 k2
    have z := r6 0 k (by decide) (by decide) k1 (by omega)
    rw [Int.add_zero, Int.add_zero] at z
    rw [e2, e3, e4, e5, e6, e8, z, r6 1 k (by decide) (by decide) k1 (by omega), r6 2 k (by decide) (by decide) k1 (by omega), r6 3 k (by decide) (by decide) k1 (by omega), r6 4 k (by decide) (by decide) k1 (by omega), r6 5 k (by decide) (by decide) k1 (by omega)]
    obtain ⟨u1, u2, u3, u4, u5, u6, u7⟩ := t2 k k1 k2
    refine ⟨u1, u2, u3, u4, u5, u6, fun i i1 i2 => ?_⟩
    rw [e9 i i1 i2, ← u7 i i1 i2, hA _ _ (by omega), if_neg (by omega), if_neg (by omega), if_pos (by omega), show a + 6 - (a + 6) + (a' + 6) = a' + 6 by omega]
  · obtain ⟨e1, e2, e3⟩ := h3 k k1 (by omega)
    obtain ⟨u1, u2, u3⟩ := t3 k k1 k2
    rw [e1, e2, e3, ← u1, ← u2, ← u3]
    refine ⟨?_, ?_, ?_⟩
    · rw [hA _ _ (by omega), if_neg (by omega), if_pos (by omega), show σ - σ + σ' = σ' by omega]
    · rw [hA _ _ (by omega), if_neg (by omega), if_pos (by omega), show σ + 1 - σ + σ' = σ' + 1 by omega]
    · rw [hA _ _ (by omega), if_neg (by omega), if_pos (by omega), show σ + 2 - σ + σ' = σ' + 2 by omega]
  · rw [h4 k k1 (by omega), ← t4 k k1 k2, hA _ _ (by omega), if_pos (by omega), show b - b + b' = b' by omega]
theorem gn_CA.o {M M1 : gm_M} {a s b a' s' b' x : Int} (h : gn_CA M M1 a s b a' s' b') (hx : ¬ (a ≤ x ∧ x ≤ a + 6 ∨ s ≤ x ∧ x ≤ s + 2 ∨ x = b)) (j : Int) : gm_gA M1 x j = gm_gA M x j := by
  rw [h, if_neg (by omega), if_neg (by omega), if_neg (by omega), if_neg (by omega)]
theorem s_image : gn_Si 80 167 [] := fun M d xs Ln hI hp => by
  have hL := hI.L
  have hm := gn_many_b hI
  have m7 : gm_gF M 701 2 = gm_many M := rfl
  obtain ⟨Mk, hfr, htc, ek⟩ := r_X7_become (d + 16) M hL 26 2 (Or.inr (Or.inl rfl)) (Or.inl rfl) (by decide) hm
  have z1 := gm_z1 hL
  have l80 := gm_l800 hL
  have l81 := gm_l801 hL
  have z1k := gm_z1 hfr.1
  have l80k := gm_l800 hfr.1
  have z2k := gm_z2 hfr.1
  have z26 := gm_z26 hL
  have z2 := gm_z2 hL
  have k7 : gm_gF Mk 701 2 = gm_many M := hfr.2.1 701 2 (by omega)
  have hL1 : gm_Lay (gm_sF Mk 802 1 1) := hfr.1.sF _ _ _ (by decide)
  have hF1 : ∀ (f : Nat) (o : Int), ¬ (26 ≤ o ∧ o ≤ 49) → ¬ (f = 802 ∧ o = 1) → gm_gF (gm_sF Mk 802 1 1) f o = gm_gF M f o := fun f o y y2 => by
    rw [gm_gF_sF, if_neg y2]
    exact hfr.2.1 f o y
  have hF2 : ∀ (f : Nat) (o : Int), (26 ≤ o ∧ o ≤ 49) → gm_gF (gm_sF Mk 802 1 1) f o = gm_gF Mk f o := fun f o y => by rw [gm_gF_sF, if_neg (by omega)]
  have hA1 : ∀ a i : Int, gm_gA (gm_sF Mk 802 1 1) a i = gm_gA Mk a i := fun a i => rfl
  have f802 : gm_gF (gm_sF Mk 802 1 1) 802 1 = 1 := by rw [gm_gF_sF, if_pos ⟨rfl, rfl⟩]
  obtain ⟨M1, hM1⟩ : ∃ M1, gm_sF Mk 802 1 1 = M1 := ⟨_, rfl⟩
  rw [hM1] at hL1 hF1 hF2 hA1 f802
  obtain ⟨M2, hL2, hFm, hAm, em⟩ := r_X9_image (d + 19) hL1
  have t900 : gm_gF M1 900 148 = gm_many M := (hF1 900 148 (by omega) (by omega)).trans hI.2.2.1.1.1
  rw [t900] at em
  have hFo : ∀ (f : Nat) (o : Int), ¬ (o = 148 ∧ 941 ≤ f ∧ f ≤ 946) → gm_gF M2 f o = gm_gF M1 f o := fun f o y => by
    rw [hFm]
    simp only [gm_gF_sF]
    repeat rw [if_neg (by omega)]
  have htc2 : gn_tc M M2 26 2 := htc.mv hm.2 (fun f o y1 y2 => (hFo f o (by omega)).trans (hF2 f o (by omega))) (fun a i y1 y2 => (hAm.o (by omega) i).trans (hA1 a i))
  have hg : gm_gF M2 810 1 = gm_gF M 810 1 := (hFo 810 1 (by omega)).trans (hF1 810 1 (by omega) (by omega))
  have hTI : gn_TI M2 26 := hI.2.1.tc htc2 hg
  have hAk : ∀ a i : Int, ¬ (26 ≤ a ∧ a ≤ 49) → gm_gA M1 a i = gm_gA M a i := fun a i y => (hA1 a i).trans (hfr.2.2 a i y)
  have hAm' : gn_CB' M M2 173 180 183 149 169 172 := hAm.b (fun x j hx => hAk x j (by omega)) (by decide) (by decide) (by decide)
  have e4 : ∀ (f f' : Nat), gm_gF M2 f 148 = gm_gF M1 f' 148 → ¬ f' = 802 → gm_gF M2 f 148 = gm_gF M f' 148 := fun f f' y y2 => y.trans (hF1 f' 148 (by omega) (by omega))
  have hTR : gn_TR M2 26 173 180 183 943 944 942 945 946 := hI.2.2.1.tc (t := 26) hI.2.1 htc2 ⟨e4 943 900 (hFm 943 148) (by decide), e4 944 901 (hFm 944 148) (by decide), e4 942 910 (hFm 942 148) (by decide), e4 945 935 (hFm 945 148) (by decide), e4 946 939 (hFm 946 148) (by decide)⟩ hAm' (by decide) (by decide) (by decide)
  have hFF : ∀ (f : Nat) (o : Int), ¬ (26 ≤ o ∧ o ≤ 49) → ¬ (f = 802 ∧ o = 1) → ¬ (o = 148 ∧ 941 ≤ f ∧ f ≤ 946) → gm_gF M2 f o = gm_gF M f o := fun f o y1 y2 y3 => (hFo f o y3).trans (hF1 f o y1 y2)
  have hAA : ∀ a i : Int, ¬ (26 ≤ a ∧ a ≤ 49) → ¬ (173 ≤ a ∧ a ≤ 183) → gm_gA M2 a i = gm_gA M a i := fun a i y1 y2 => (hAm.o (by omega) i).trans (hAk a i y1)
  refine ⟨gm_many M, M1, M2, ?_, em, ?_, ?_⟩
  · rw [eX8_image _ _ _ (Nat.le_of_ble_eq_true rfl), ← hM1]
    simp (config := { maxSteps := 2000000 }) (disch := first | omega | assumption | (simp only [gm_isO_sF, gm_isO_sA, gm_isO_cp]; assumption)) only [gm_push, gm_iload, gm_lload, gm_aload, gm_istore, gm_astore, gm_iinc, gm_op2, gm_quo, gm_op1, gm_lop2, gm_lshl, gm_i2l, gm_l2i, gm_lcmp, gm_dup, gm_pop1, gm_dup2, gm_goto, gm_ifeq, gm_ifne, gm_iflt, gm_ifge, gm_ifgt, gm_ifle, gm_ceq, gm_cne, gm_clt, gm_cge, gm_cgt, gm_cle, gm_ifnull, gm_ifnonnull, gm_swk, gm_switch, gm_getI, gm_getR, gm_putI, gm_putZ, gm_putR, gm_new, gm_newarr, gm_iald, gm_cald, gm_zald, gm_lald, gm_aald, gm_iast, gm_cast, gm_zast, gm_last, gm_aast, gm_acp, gm_oinit, gm_back, gm_scall, gm_vcall, gm_iret, gm_zret, gm_cret, gm_lret, gm_aret, gm_vret, gm_slen, gm_schar, gm_sidx, gm_lget, gm_lset, gm_nl, gm_ent, gm_wd, gm_pop, gm_pad, gm_xl_c, gm_alen_u, gm_1_sF, gm_1_sA, gm_1_cp, gm_len_sF, gm_len_sA, gm_len_cp, Bool.or_true, Bool.true_or, gm_max_u, gm_min_u, gm_isO_sF, gm_isO_sA, gm_isO_cp, gm_gF_sF, gm_gF_sA, gm_gA_sF, gm_gA_sA, gm_gF_cp, gm_gA_cp, gm_add, gm_sub, gm_mul, gm_neg, ↓reduceIte, Nat.reduceAdd, Nat.reduceLeDiff, true_and, and_true, and_self, true_or, or_true, false_and, and_false, false_or, or_false, eq_self, Nat.reduceEqDiff, Int.reduceEq, Int.reduceLT, Int.reduceLE, Int.reduceNeg, Int.reduceAdd, Int.reduceSub, Int.reduceMul, Int.reduceDiv, Int.reduceMod, reduceCtorEq, if_true, if_false, gm_w_id, xX8_image_0, gm_putZ, z1, z2, z26, l80, l81, ek, z1k, l80k, z2k, k7]
  · have hW : ∀ p, p ≠ 5 → gn_W p M M2 := fun p hp0 => by
      refine ⟨fun f o z => ?_, fun a i z => ?_⟩
      · have : ¬ (26 ≤ o ∧ o ≤ 49) ∧ ¬ (f = 802 ∧ o = 1) ∧ ¬ (o = 148 ∧ 941 ≤ f ∧ f ≤ 946) := by rcases p with _ | _ | _ | _ | _ | _ | p <;> simp only [gn_U] at z <;> omega
        exact hFF f o this.1 this.2.1 this.2.2
      · have : ¬ (26 ≤ a ∧ a ≤ 49) ∧ ¬ (173 ≤ a ∧ a ≤ 183) := by rcases p with _ | _ | _ | _ | _ | _ | p <;> simp only [gn_V] at z <;> omega
        exact hAA a i this.1 this.2
    obtain ⟨g0, g1, g2, g3, g4, g5, g6, g7, g8⟩ := hI
    obtain ⟨x1, x2⟩ := gn_W0 hg (hW 0 (by decide)) ⟨g1, g2⟩
    have f2 : gm_gF M2 802 1 = 1 := (hFo 802 1 (by omega)).trans f802
    have f9 : gm_gF M2 941 148 = 1 := hFm 941 148
    exact ⟨hL2, x1, x2, gn_W1 (hW 1 (by decide)) g3, gn_W2 (hW 2 (by decide)) g4, gn_W3 (hW 3 (by decide)) g5, gn_W4 (hW 4 (by decide)) g6, ⟨f9.trans f2.symm, Or.inr ⟨f2, hTI, hTR⟩⟩, gn_W6 (hW 6 (by decide)) g8⟩
  · exact gn_pu.e (fun a i z => hAA a i (by omega) (by omega)) (hFF 9999 0 (by omega) (by omega) (by omega)) hp
theorem s_undo : gn_Si 81 168 [] := fun M d xs Ln hI hp => by
  have hL := hI.L
  have z1 := gm_z1 hL
  have z148 := gm_z148 hL
  obtain ⟨i1, i2⟩ := hI.2.2.2.2.2.2.2.1
  rcases i2 with i2 | ⟨i2, iT, iR⟩
  · refine ⟨-3, M, M, ?_, ?_, hI, hp⟩
    · rw [eX8_undo _ _ _ (Nat.le_of_ble_eq_true rfl)]
      simp (config := { maxSteps := 2000000 }) (disch := first | omega | assumption | (simp only [gm_isO_sF, gm_isO_sA, gm_isO_cp]; assumption)) only [gm_push, gm_iload, gm_lload, gm_aload, gm_istore, gm_astore, gm_iinc, gm_op2, gm_quo, gm_op1, gm_lop2, gm_lshl, gm_i2l, gm_l2i, gm_lcmp, gm_dup, gm_pop1, gm_dup2, gm_goto, gm_ifeq, gm_ifne, gm_iflt, gm_ifge, gm_ifgt, gm_ifle, gm_ceq, gm_cne, gm_clt, gm_cge, gm_cgt, gm_cle, gm_ifnull, gm_ifnonnull, gm_swk, gm_switch, gm_getI, gm_getR, gm_putI, gm_putZ, gm_putR, gm_new, gm_newarr, gm_iald, gm_cald, gm_zald, gm_lald, gm_aald, gm_iast, gm_cast, gm_zast, gm_last, gm_aast, gm_acp, gm_oinit, gm_back, gm_scall, gm_vcall, gm_iret, gm_zret, gm_cret, gm_lret, gm_aret, gm_vret, gm_slen, gm_schar, gm_sidx, gm_lget, gm_lset, gm_nl, gm_ent, gm_wd, gm_pop, gm_pad, gm_xl_c, gm_alen_u, gm_1_sF, gm_1_sA, gm_1_cp, gm_len_sF, gm_len_sA, gm_len_cp, Bool.or_true, Bool.true_or, gm_max_u, gm_min_u, gm_isO_sF, gm_isO_sA, gm_isO_cp, gm_gF_sF, gm_gF_sA, gm_gA_sF, gm_gA_sA, gm_gF_cp, gm_gA_cp, gm_add, gm_sub, gm_mul, gm_neg, ↓reduceIte, Nat.reduceAdd, Nat.reduceLeDiff, true_and, and_true, and_self, true_or, or_true, false_and, and_false, false_or, or_false, eq_self, Nat.reduceEqDiff, Int.reduceEq, Int.reduceLT, Int.reduceLE, Int.reduceNeg, Int.reduceAdd, Int.reduceSub, Int.reduceMul, Int.reduceDiv, Int.reduceMod, reduceCtorEq, if_true, if_false, gm_w_id, xX8_undo_0, xX8_undo_1, z1, i2]
    · rw [eX9_undo _ _ _ (Nat.le_of_ble_eq_true rfl)]
      simp (config := { maxSteps := 2000000 }) (disch := first | omega | assumption | (simp only [gm_isO_sF, gm_isO_sA, gm_isO_cp]; assumption)) only [gm_push, gm_iload, gm_lload, gm_aload, gm_istore, gm_astore, gm_iinc, gm_op2, gm_quo, gm_op1, gm_lop2, gm_lshl, gm_i2l, gm_l2i, gm_lcmp, gm_dup, gm_pop1, gm_dup2, gm_goto, gm_ifeq, gm_ifne, gm_iflt, gm_ifge, gm_ifgt, gm_ifle, gm_ceq, gm_cne, gm_clt, gm_cge, gm_cgt, gm_cle, gm_ifnull, gm_ifnonnull, gm_swk, gm_switch, gm_getI, gm_getR, gm_putI, gm_putZ, gm_putR, gm_new, gm_newarr, gm_iald, gm_cald, gm_zald, gm_lald, gm_aald, gm_iast, gm_cast, gm_zast, gm_last, gm_aast, gm_acp, gm_oinit, gm_back, gm_scall, gm_vcall, gm_iret, gm_zret, gm_cret, gm_lret, gm_aret, gm_vret, gm_slen, gm_schar, gm_sidx, gm_lget, gm_lset, gm_nl, gm_ent, gm_wd, gm_pop, gm_pad, gm_xl_c, gm_alen_u, gm_1_sF, gm_1_sA, gm_1_cp, gm_len_sF, gm_len_sA, gm_len_cp, Bool.or_true, Bool.true_or, gm_max_u, gm_min_u, gm_isO_sF, gm_isO_sA, gm_isO_cp, gm_gF_sF, gm_gF_sA, gm_gA_sF, gm_gA_sA, gm_gF_cp, gm_gA_cp, gm_add, gm_sub, gm_mul, gm_neg, ↓reduceIte, Nat.reduceAdd, Nat.reduceLeDiff, true_and, and_true, and_self, true_or, or_true, false_and, and_false, false_or, or_false, eq_self, Nat.reduceEqDiff, Int.reduceEq, Int.reduceLT, Int.reduceLE, Int.reduceNeg, Int.reduceAdd, Int.reduceSub, Int.reduceMul, Int.reduceDiv, Int.reduceMod, reduceCtorEq, if_true, if_false, gm_w_id, xX9_undo_0, xX9_undo_1, xX9_undo_3, xX9_undo_5, xX9_undo_7, xX9_undo_9, z148, i1, i2]
  · have hm := iT.1
    obtain ⟨M1, hfr, htc, ek⟩ := r_X7_become (d + 16) M hL 2 26 (Or.inl rfl) (Or.inr (Or.inl rfl)) (by decide) hm
    have l80 := gm_l800 hL
    have l81 := gm_l801 hL
    have hL1 := hfr.1
    have z1k := gm_z1 hL1
    have l80k := gm_l800 hL1
    have z2k := gm_z2 hL1
    have z26 := gm_z26 hL
    have z2 := gm_z2 hL
    have k7 : gm_gF M1 701 2 = gm_gF M 701 26 := htc.2.1.1
    have hF1 : ∀ (f : Nat) (o : Int), ¬ (2 ≤ o ∧ o ≤ 25) → gm_gF M1 f o = gm_gF M f o := hfr.2.1
    have hA1 : ∀ a i : Int, ¬ (2 ≤ a ∧ a ≤ 25) → gm_gA M1 a i = gm_gA M a i := hfr.2.2
    have h41 : gm_gF M1 941 148 = 1 := (hF1 941 148 (by omega)).trans (i1.trans i2)
    obtain ⟨M2, hL2, hFm, hAm, em⟩ := r_X9_undo (d + 19) hL1 h41
    have t943 : gm_gF M1 943 148 = gm_gF M 701 26 := (hF1 943 148 (by omega)).trans iR.1.1
    rw [t943] at em
    have hFo : ∀ (f : Nat) (o : Int), ¬ (o = 148 ∧ (f = 910 ∨ f = 900 ∨ f = 901 ∨ f = 935 ∨ f = 939)) → gm_gF M2 f o = gm_gF M1 f o := fun f o y => by
      rw [hFm]
      simp only [gm_gF_sF]
      repeat rw [if_neg (by omega)]
    have htc2 : gn_tc M M2 2 26 := htc.mv hm.2 (fun f o y1 y2 => hFo f o (by omega)) (fun a i y1 y2 => hAm.o (by omega) i)
    have hg : gm_gF M2 810 1 = gm_gF M 810 1 := (hFo 810 1 (by omega)).trans (hF1 810 1 (by omega))
    have hTI : gn_TI M2 2 := iT.tc htc2 hg
    have hAm' : gn_CB' M M2 149 169 172 173 180 183 := hAm.b (fun x j hx => hA1 x j (by omega)) (by decide) (by decide) (by decide)
    have e4 : ∀ (f f' : Nat), gm_gF M2 f 148 = gm_gF M1 f' 148 → gm_gF M2 f 148 = gm_gF M f' 148 := fun f f' y => y.trans (hF1 f' 148 (by omega))
    have hTR : gn_TR M2 2 149 169 172 900 901 910 935 939 := iR.tc (t := 2) iT htc2 ⟨e4 900 943 (hFm 900 148), e4 901 944 (hFm 901 148), e4 910 942 (hFm 910 148), e4 935 945 (hFm 935 148), e4 939 946 (hFm 939 148)⟩ hAm' (by decide) (by decide) (by decide)
    have hFF : ∀ (f : Nat) (o : Int), ¬ (2 ≤ o ∧ o ≤ 25) → ¬ (o = 148 ∧ (f = 910 ∨ f = 900 ∨ f = 901 ∨ f = 935 ∨ f = 939)) → gm_gF M2 f o = gm_gF M f o := fun f o y1 y3 => (hFo f o y3).trans (hF1 f o y1)
    have hAA : ∀ a i : Int, ¬ (2 ≤ a ∧ a ≤ 25) → ¬ (149 ≤ a ∧ a ≤ 155 ∨ 169 ≤ a ∧ a ≤ 172) → gm_gA M2 a i = gm_gA M a i := fun a i y1 y2 => (hAm.o (by omega) i).trans (hA1 a i y1)
    refine ⟨gm_gF M 701 26, M1, M2, ?_, em, ?_, ?_⟩
    · rw [eX8_undo _ _ _ (Nat.le_of_ble_eq_true rfl)]
      simp (config := { maxSteps := 2000000 }) (disch := first | omega | assumption | (simp only [gm_isO_sF, gm_isO_sA, gm_isO_cp]; assumption)) only [gm_push, gm_iload, gm_lload, gm_aload, gm_istore, gm_astore, gm_iinc, gm_op2, gm_quo, gm_op1, gm_lop2, gm_lshl, gm_i2l, gm_l2i, gm_lcmp, gm_dup, gm_pop1, gm_dup2, gm_goto, gm_ifeq, gm_ifne, gm_iflt, gm_ifge, gm_ifgt, gm_ifle, gm_ceq, gm_cne, gm_clt, gm_cge, gm_cgt, gm_cle, gm_ifnull, gm_ifnonnull, gm_swk, gm_switch, gm_getI, gm_getR, gm_putI, gm_putZ, gm_putR, gm_new, gm_newarr, gm_iald, gm_cald, gm_zald, gm_lald, gm_aald, gm_iast, gm_cast, gm_zast, gm_last, gm_aast, gm_acp, gm_oinit, gm_back, gm_scall, gm_vcall, gm_iret, gm_zret, gm_cret, gm_lret, gm_aret, gm_vret, gm_slen, gm_schar, gm_sidx, gm_lget, gm_lset, gm_nl, gm_ent, gm_wd, gm_pop, gm_pad, gm_xl_c, gm_alen_u, gm_1_sF, gm_1_sA, gm_1_cp, gm_len_sF, gm_len_sA, gm_len_cp, Bool.or_true, Bool.true_or, gm_max_u, gm_min_u, gm_isO_sF, gm_isO_sA, gm_isO_cp, gm_gF_sF, gm_gF_sA, gm_gA_sF, gm_gA_sA, gm_gF_cp, gm_gA_cp, gm_add, gm_sub, gm_mul, gm_neg, ↓reduceIte, Nat.reduceAdd, Nat.reduceLeDiff, true_and, and_true, and_self, true_or, or_true, false_and, and_false, false_or, or_false, eq_self, Nat.reduceEqDiff, Int.reduceEq, Int.reduceLT, Int.reduceLE, Int.reduceNeg, Int.reduceAdd, Int.reduceSub, Int.reduceMul, Int.reduceDiv, Int.reduceMod, reduceCtorEq, if_true, if_false, gm_w_id, xX8_undo_0, xX8_undo_1, z1, z2, z26, l80, l81, i2, ek, z1k, l80k, z2k, k7]
    · have hW : ∀ p, p ≠ 0 → gn_W p M M2 := fun p hp0 => by
        refine ⟨fun f o z => ?_, fun a i z => ?_⟩
        · have : ¬ (2 ≤ o ∧ o ≤ 25) ∧ ¬ (o = 148 ∧ (f = 910 ∨ f = 900 ∨ f = 901 ∨ f = 935 ∨ f = 939)) := by rcases p with _ | _ | _ | _ | _ | _ | p <;> simp only [gn_U] at z <;> omega
          exact hFF f o this.1 this.2
        · have : ¬ (2 ≤ a ∧ a ≤ 25) ∧ ¬ (149 ≤ a ∧ a ≤ 155 ∨ 169 ≤ a ∧ a ≤ 172) := by rcases p with _ | _ | _ | _ | _ | _ | p <;> simp only [gn_V] at z <;> omega
          exact hAA a i this.1 this.2
      exact hI.t hL2 hg (hW 1 (by decide)) (hW 2 (by decide)) (hW 3 (by decide)) (hW 4 (by decide)) (hW 5 (by decide)) (hW 6 (by decide)) ⟨hTI, hTR⟩
    · exact gn_pu.e (fun a i z => hAA a i (by omega) (by omega)) (hFF 9999 0 (by omega) (by omega)) hp
