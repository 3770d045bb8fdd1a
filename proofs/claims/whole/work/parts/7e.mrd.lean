/-! GROUND: the model reads -/
/-- the text, in the model -/
def gn_Tx (t : Int → Int) (n : Int) (M : gm_M) : Prop := gm_Lay M ∧ gm_gF M 911 148 = n ∧ (0 ≤ n ∧ n ≤ 100) ∧ (∀ i, 0 ≤ i → i < n → gm_gA M 156 i = t i ∧ 0 ≤ t i ∧ t i ≤ 127) ∧ ∀ i, 0 ≤ i → i < 14 → gm_gA M 164 i = ([115, 117, 110, 99, 111, 108, 100, 108, 111, 119, 104, 105, 103, 104] : List Int).getD i.toNat 0
/-- what may have changed: the reader's numbers, what waits, signs k .. k2, clauses c .. c2 -/
def gn_Mw (a1 k k2 c c2 : Int) (M0 M : gm_M) : Prop := gm_Lay M ∧ (∀ (f : Nat) (o : Int), ¬ (o = 148 ∧ (f = 912 ∨ f = 913 ∨ f = 922 ∨ f = 923 ∨ f = 924)) → gm_gF M f o = gm_gF M0 f o) ∧ ∀ a i : Int, a ≠ 163 → ¬ (a = 162 ∧ k ≤ i ∧ i < k2) → ¬ ((a1 ≤ a ∧ a ≤ 161) ∧ c ≤ i ∧ i < c2) → gm_gA M a i = gm_gA M0 a i
theorem gn_Mw.rf {a1 k k2 c c2 : Int} {M : gm_M} (h : gm_Lay M) : gn_Mw a1 k k2 c c2 M M := ⟨h, fun _ _ _ => rfl, fun _ _ _ _ _ => rfl⟩
theorem gn_Mw.tr {a1 k k2 c c2 a2 j j2 e e2 : Int} {M0 M1 M2 : gm_M} (h : gn_Mw a1 k k2 c c2 M0 M1) (g : gn_Mw a2 j j2 e e2 M1 M2) (hj : k ≤ j ∧ j2 ≤ k2) (he : (c ≤ e ∧ e2 ≤ c2) ∧ a1 ≤ a2) : gn_Mw a1 k k2 c c2 M0 M2 := ⟨g.1, fun f o y => (g.2.1 f o y).trans (h.2.1 f o y), fun a i y1 y2 y3 => (g.2.2 a i y1 (by omega) (by omega)).trans (h.2.2 a i y1 y2 y3)⟩
theorem gn_Mw.Tx {a1 k k2 c c2 n : Int} {t : Int → Int} {M0 M : gm_M} (g : gn_Mw a1 k k2 c c2 M0 M) (h : gn_Tx t n M0) (ha : 158 ≤ a1) : gn_Tx t n M := ⟨g.1, (g.2.1 911 148 (by decide)).trans h.2.1, h.2.2.1, fun i i1 i2 => by rw [g.2.2 156 i (by decide) (by omega) (by omega)]; exact h.2.2.2.1 i i1 i2, fun i i1 i2 => by rw [g.2.2 164 i (by decide) (by omega) (by omega)]; exact h.2.2.2.2 i i1 i2⟩
theorem gn_Mw.sF {a1 k k2 c c2 v : Int} {M0 M : gm_M} (g : gn_Mw a1 k k2 c c2 M0 M) {f : Nat} (hf : f = 912 ∨ f = 913 ∨ f = 922 ∨ f = 923 ∨ f = 924) : gn_Mw a1 k k2 c c2 M0 (gm_sF M f 148 v) := ⟨g.1.sF _ _ _ (by rcases hf with rfl | rfl | rfl | rfl | rfl <;> decide), fun f' o y => by
  rw [gm_gF_sF, if_neg (by omega)]
  exact g.2.1 f' o y, g.2.2⟩
theorem gn_Mw.s2 {a1 k k2 c c2 i v : Int} {M0 M : gm_M} (g : gn_Mw a1 k k2 c c2 M0 M) (hi : k ≤ i ∧ i < k2) : gn_Mw a1 k k2 c c2 M0 (gm_sA M 162 i v) := ⟨g.1.sA _ _ _ (by decide), g.2.1, fun a j y1 y2 y3 => by
  rw [gm_gA_sA, if_neg (by omega)]
  exact g.2.2 a j y1 y2 y3⟩
theorem gn_Mw.s3 {a1 k k2 c c2 i v : Int} {M0 M : gm_M} (g : gn_Mw a1 k k2 c c2 M0 M) : gn_Mw a1 k k2 c c2 M0 (gm_sA M 163 i v) := ⟨g.1.sA _ _ _ (by decide), g.2.1, fun a j y1 y2 y3 => by
  rw [gm_gA_sA, if_neg (by omega)]
  exact g.2.2 a j y1 y2 y3⟩
theorem gn_Mw.s4 {a1 k k2 c c2 a i v : Int} {M0 M : gm_M} (g : gn_Mw a1 k k2 c c2 M0 M) (ha : 158 ≤ a1 ∧ a1 ≤ a ∧ a ≤ 161) (hi : c ≤ i ∧ i < c2) : gn_Mw a1 k k2 c c2 M0 (gm_sA M a i v) := ⟨g.1.sA _ _ _ (by simp only [List.mem_cons, List.not_mem_nil, or_false]; omega), g.2.1, fun a' j y1 y2 y3 => by
  rw [gm_gA_sA, if_neg (by omega)]
  exact g.2.2 a' j y1 y2 y3⟩
theorem gn_ch_b {t : Int → Int} {n p : Int} {M : gm_M} (h : gn_Tx t n M) (hp : 0 ≤ p) : -1 ≤ gn_ch t n p ∧ gn_ch t n p ≤ 127 := by
  unfold gn_ch
  by_cases c : p < n
  · rw [if_pos c]; have := (h.2.2.2.1 p hp c).2; omega
  · rw [if_neg c]; decide
theorem r_X9_next {D : Nat} (hD : 1 ≤ D) {t : Int → Int} {n p : Int} {M : gm_M} (h : gn_Tx t n M) (e : gm_gF M 912 148 = p) (hp : 0 ≤ p ∧ p ≤ n) : gm_go D 107 [.inr (.inr 148)] M = some (some (.inl (gn_ch t n p)), M) := by
  obtain ⟨d, rfl⟩ : ∃ g, D = g + 1 := ⟨D - 1, by omega⟩
  obtain ⟨hL, e1, hn, ht, -⟩ := h
  have z148 := gm_z148 hL
  have z156 := gm_z156 hL
  have l914 := gm_l914 hL
  rw [eX9_next _ _ _ (Nat.le_of_ble_eq_true rfl)]
  unfold gn_ch
  by_cases c : p < n
  · rw [if_pos c]
    have v1 := (ht p hp.1 c).1
    have hin := gn_i156 M hp.1 (show p < 100 by omega)
    simp (config := { maxSteps := 2000000 }) (disch := first | omega | assumption | (simp only [gm_isO_sF, gm_isO_sA, gm_isO_cp]; assumption)) only [gm_push, gm_iload, gm_lload, gm_aload, gm_istore, gm_astore, gm_iinc, gm_op2, gm_quo, gm_op1, gm_lop2, gm_lshl, gm_i2l, gm_l2i, gm_lcmp, gm_dup, gm_pop1, gm_dup2, gm_goto, gm_ifeq, gm_ifne, gm_iflt, gm_ifge, gm_ifgt, gm_ifle, gm_ceq, gm_cne, gm_clt, gm_cge, gm_cgt, gm_cle, gm_ifnull, gm_ifnonnull, gm_swk, gm_switch, gm_getI, gm_getR, gm_putI, gm_putZ, gm_putR, gm_new, gm_newarr, gm_iald, gm_cald, gm_zald, gm_lald, gm_aald, gm_iast, gm_cast, gm_zast, gm_last, gm_aast, gm_acp, gm_oinit, gm_back, gm_scall, gm_vcall, gm_iret, gm_zret, gm_cret, gm_lret, gm_aret, gm_vret, gm_slen, gm_schar, gm_sidx, gm_lget, gm_lset, gm_nl, gm_ent, gm_wd, gm_pop, gm_pad, gm_xl_c, gm_alen_u, gm_1_sF, gm_1_sA, gm_1_cp, gm_len_sF, gm_len_sA, gm_len_cp, Bool.or_true, Bool.true_or, gm_max_u, gm_min_u, gm_isO_sF, gm_isO_sA, gm_isO_cp, gm_gF_sF, gm_gF_sA, gm_gA_sF, gm_gA_sA, gm_gF_cp, gm_gA_cp, gm_add, gm_sub, gm_mul, gm_neg, ↓reduceIte, Nat.reduceAdd, Nat.reduceLeDiff, true_and, and_true, and_self, true_or, or_true, false_and, and_false, false_or, or_false, eq_self, Nat.reduceEqDiff, Int.reduceEq, Int.reduceLT, Int.reduceLE, Int.reduceNeg, Int.reduceAdd, Int.reduceSub, Int.reduceMul, Int.reduceDiv, Int.reduceMod, reduceCtorEq, if_true, if_false, gm_w_id, xX9_next_0, xX9_next_1, xX9_next_2, z148, z156, l914, e, e1, c, hin, v1]
  · rw [if_neg c]
    simp (config := { maxSteps := 2000000 }) (disch := first | omega | assumption | (simp only [gm_isO_sF, gm_isO_sA, gm_isO_cp]; assumption)) only [gm_push, gm_iload, gm_lload, gm_aload, gm_istore, gm_astore, gm_iinc, gm_op2, gm_quo, gm_op1, gm_lop2, gm_lshl, gm_i2l, gm_l2i, gm_lcmp, gm_dup, gm_pop1, gm_dup2, gm_goto, gm_ifeq, gm_ifne, gm_iflt, gm_ifge, gm_ifgt, gm_ifle, gm_ceq, gm_cne, gm_clt, gm_cge, gm_cgt, gm_cle, gm_ifnull, gm_ifnonnull, gm_swk, gm_switch, gm_getI, gm_getR, gm_putI, gm_putZ, gm_putR, gm_new, gm_newarr, gm_iald, gm_cald, gm_zald, gm_lald, gm_aald, gm_iast, gm_cast, gm_zast, gm_last, gm_aast, gm_acp, gm_oinit, gm_back, gm_scall, gm_vcall, gm_iret, gm_zret, gm_cret, gm_lret, gm_aret, gm_vret, gm_slen, gm_schar, gm_sidx, gm_lget, gm_lset, gm_nl, gm_ent, gm_wd, gm_pop, gm_pad, gm_xl_c, gm_alen_u, gm_1_sF, gm_1_sA, gm_1_cp, gm_len_sF, gm_len_sA, gm_len_cp, Bool.or_true, Bool.true_or, gm_max_u, gm_min_u, gm_isO_sF, gm_isO_sA, gm_isO_cp, gm_gF_sF, gm_gF_sA, gm_gA_sF, gm_gA_sA, gm_gF_cp, gm_gA_cp, gm_add, gm_sub, gm_mul, gm_neg, ↓reduceIte, Nat.reduceAdd, Nat.reduceLeDiff, true_and, and_true, and_self, true_or, or_true, false_and, and_false, false_or, or_false, eq_self, Nat.reduceEqDiff, Int.reduceEq, Int.reduceLT, Int.reduceLE, Int.reduceNeg, Int.reduceAdd, Int.reduceSub, Int.reduceMul, Int.reduceDiv, Int.reduceMod, reduceCtorEq, if_true, if_false, gm_w_id, xX9_next_0, xX9_next_1, xX9_next_2, z148, z156, l914, e, e1, c]
theorem r_X9_takes {D : Nat} (hD : 2 ≤ D) {t : Int → Int} {n p s : Int} {M : gm_M} (h : gn_Tx t n M) (e : gm_gF M 912 148 = p) (hp : 0 ≤ p ∧ p ≤ n) (hs : 0 ≤ s ∧ s < 128) : gm_go D 108 [.inr (.inr 148), .inl s] M = if gn_ch t n p = s then some (some (.inl 1), gm_sF M 912 148 (p + 1)) else some (some (.inl 0), M) := by
  obtain ⟨d, rfl⟩ : ∃ g, D = g + 1 := ⟨D - 1, by omega⟩
  have f := r_X9_next (D := d) (by omega) h e hp
  have b := gn_ch_b h hp.1
  have z148 := gm_z148 h.1
  rw [eX9_takes _ _ _ (Nat.le_of_ble_eq_true rfl)]
  by_cases c : gn_ch t n p = s
  · rw [if_pos c]
    rw [c] at f
    simp (config := { maxSteps := 2000000 }) (disch := first | omega | assumption | (simp only [gm_isO_sF, gm_isO_sA, gm_isO_cp]; assumption)) only [gm_push, gm_iload, gm_lload, gm_aload, gm_istore, gm_astore, gm_iinc, gm_op2, gm_quo, gm_op1, gm_lop2, gm_lshl, gm_i2l, gm_l2i, gm_lcmp, gm_dup, gm_pop1, gm_dup2, gm_goto, gm_ifeq, gm_ifne, gm_iflt, gm_ifge, gm_ifgt, gm_ifle, gm_ceq, gm_cne, gm_clt, gm_cge, gm_cgt, gm_cle, gm_ifnull, gm_ifnonnull, gm_swk, gm_switch, gm_getI, gm_getR, gm_putI, gm_putZ, gm_putR, gm_new, gm_newarr, gm_iald, gm_cald, gm_zald, gm_lald, gm_aald, gm_iast, gm_cast, gm_zast, gm_last, gm_aast, gm_acp, gm_oinit, gm_back, gm_scall, gm_vcall, gm_iret, gm_zret, gm_cret, gm_lret, gm_aret, gm_vret, gm_slen, gm_schar, gm_sidx, gm_lget, gm_lset, gm_nl, gm_ent, gm_wd, gm_pop, gm_pad, gm_xl_c, gm_alen_u, gm_1_sF, gm_1_sA, gm_1_cp, gm_len_sF, gm_len_sA, gm_len_cp, Bool.or_true, Bool.true_or, gm_max_u, gm_min_u, gm_isO_sF, gm_isO_sA, gm_isO_cp, gm_gF_sF, gm_gF_sA, gm_gA_sF, gm_gA_sA, gm_gF_cp, gm_gA_cp, gm_add, gm_sub, gm_mul, gm_neg, ↓reduceIte, Nat.reduceAdd, Nat.reduceLeDiff, true_and, and_true, and_self, true_or, or_true, false_and, and_false, false_or, or_false, eq_self, Nat.reduceEqDiff, Int.reduceEq, Int.reduceLT, Int.reduceLE, Int.reduceNeg, Int.reduceAdd, Int.reduceSub, Int.reduceMul, Int.reduceDiv, Int.reduceMod, reduceCtorEq, if_true, if_false, gm_w_id, xX9_takes_0, xX9_takes_1, z148, e, f]
  · rw [if_neg c]
    generalize gn_ch t n p = x at *
    simp (config := { maxSteps := 2000000 }) (disch := first | omega | assumption | (simp only [gm_isO_sF, gm_isO_sA, gm_isO_cp]; assumption)) only [gm_push, gm_iload, gm_lload, gm_aload, gm_istore, gm_astore, gm_iinc, gm_op2, gm_quo, gm_op1, gm_lop2, gm_lshl, gm_i2l, gm_l2i, gm_lcmp, gm_dup, gm_pop1, gm_dup2, gm_goto, gm_ifeq, gm_ifne, gm_iflt, gm_ifge, gm_ifgt, gm_ifle, gm_ceq, gm_cne, gm_clt, gm_cge, gm_cgt, gm_cle, gm_ifnull, gm_ifnonnull, gm_swk, gm_switch, gm_getI, gm_getR, gm_putI, gm_putZ, gm_putR, gm_new, gm_newarr, gm_iald, gm_cald, gm_zald, gm_lald, gm_aald, gm_iast, gm_cast, gm_zast, gm_last, gm_aast, gm_acp, gm_oinit, gm_back, gm_scall, gm_vcall, gm_iret, gm_zret, gm_cret, gm_lret, gm_aret, gm_vret, gm_slen, gm_schar, gm_sidx, gm_lget, gm_lset, gm_nl, gm_ent, gm_wd, gm_pop, gm_pad, gm_xl_c, gm_alen_u, gm_1_sF, gm_1_sA, gm_1_cp, gm_len_sF, gm_len_sA, gm_len_cp, Bool.or_true, Bool.true_or, gm_max_u, gm_min_u, gm_isO_sF, gm_isO_sA, gm_isO_cp, gm_gF_sF, gm_gF_sA, gm_gA_sF, gm_gA_sA, gm_gF_cp, gm_gA_cp, gm_add, gm_sub, gm_mul, gm_neg, ↓reduceIte, Nat.reduceAdd, Nat.reduceLeDiff, true_and, and_true, and_self, true_or, or_true, false_and, and_false, false_or, or_false, eq_self, Nat.reduceEqDiff, Int.reduceEq, Int.reduceLT, Int.reduceLE, Int.reduceNeg, Int.reduceAdd, Int.reduceSub, Int.reduceMul, Int.reduceDiv, Int.reduceMod, reduceCtorEq, if_true, if_false, gm_w_id, xX9_takes_0, xX9_takes_1, z148, e, f, c]
theorem r_X9_isDigit {D : Nat} (hD : 2 ≤ D) {t : Int → Int} {n p : Int} {M : gm_M} (h : gn_Tx t n M) (e : gm_gF M 912 148 = p) (hp : 0 ≤ p ∧ p ≤ n) : gm_go D 110 [.inr (.inr 148)] M = some (some (.inl (if 48 ≤ gn_ch t n p ∧ gn_ch t n p ≤ 57 then 1 else 0)), M) := by
  obtain ⟨d, rfl⟩ : ∃ g, D = g + 2 := ⟨D - 2, by omega⟩
  have f := r_X9_next (D := d + 1) (by omega) h e hp
  have b := gn_ch_b h hp.1
  have z148 := gm_z148 h.1
  have e2 := r_X9_in d (gn_ch t n p) 48 57 M ⟨by omega, by omega⟩ ⟨by decide, by decide⟩ ⟨by decide, by decide⟩
  have e3 : (if 48 ≤ gn_ch t n p ∧ gn_ch t n p ≤ 57 then (1 : Int) else 0) = 0 ∨ (if 48 ≤ gn_ch t n p ∧ gn_ch t n p ≤ 57 then (1 : Int) else 0) = 1 := by split <;> simp
  rw [eX9_isDigit _ _ _ (Nat.le_of_ble_eq_true rfl)]
  generalize (if 48 ≤ gn_ch t n p ∧ gn_ch t n p ≤ 57 then (1 : Int) else 0) = r at *
  simp (config := { maxSteps := 2000000 }) (disch := first | omega | assumption | (simp only [gm_isO_sF, gm_isO_sA, gm_isO_cp]; assumption)) only [gm_push, gm_iload, gm_lload, gm_aload, gm_istore, gm_astore, gm_iinc, gm_op2, gm_quo, gm_op1, gm_lop2, gm_lshl, gm_i2l, gm_l2i, gm_lcmp, gm_dup, gm_pop1, gm_dup2, gm_goto, gm_ifeq, gm_ifne, gm_iflt, gm_ifge, gm_ifgt, gm_ifle, gm_ceq, gm_cne, gm_clt, gm_cge, gm_cgt, gm_cle, gm_ifnull, gm_ifnonnull, gm_swk, gm_switch, gm_getI, gm_getR, gm_putI, gm_putZ, gm_putR, gm_new, gm_newarr, gm_iald, gm_cald, gm_zald, gm_lald, gm_aald, gm_iast, gm_cast, gm_zast, gm_last, gm_aast, gm_acp, gm_oinit, gm_back, gm_scall, gm_vcall, gm_iret, gm_zret, gm_cret, gm_lret, gm_aret, gm_vret, gm_slen, gm_schar, gm_sidx, gm_lget, gm_lset, gm_nl, gm_ent, gm_wd, gm_pop, gm_pad, gm_xl_c, gm_alen_u, gm_1_sF, gm_1_sA, gm_1_cp, gm_len_sF, gm_len_sA, gm_len_cp, Bool.or_true, Bool.true_or, gm_max_u, gm_min_u, gm_isO_sF, gm_isO_sA, gm_isO_cp, gm_gF_sF, gm_gF_sA, gm_gA_sF, gm_gA_sA, gm_gF_cp, gm_gA_cp, gm_add, gm_sub, gm_mul, gm_neg, ↓reduceIte, Nat.reduceAdd, Nat.reduceLeDiff, true_and, and_true, and_self, true_or, or_true, false_and, and_false, false_or, or_false, eq_self, Nat.reduceEqDiff, Int.reduceEq, Int.reduceLT, Int.reduceLE, Int.reduceNeg, Int.reduceAdd, Int.reduceSub, Int.reduceMul, Int.reduceDiv, Int.reduceMod, reduceCtorEq, if_true, if_false, gm_w_id, xX9_isDigit_0, z148, f, e2, e3]
theorem gn_sF_sw (M : gm_M) (o a b : Int) : gm_sF (gm_sF M 912 o a) 913 o b = gm_sF (gm_sF M 913 o b) 912 o a := gn_M_ext rfl (fun f' o' => by
  rw [gm_gF_sF, gm_gF_sF, gm_gF_sF, gm_gF_sF]
  by_cases z : f' = 913 ∧ o' = o
  · rw [if_pos z, if_neg (by omega), if_pos z]
  · rw [if_neg z, if_neg z]) (fun _ _ => rfl)
theorem r_X9_takesNumber {D : Nat} (hD : 3 ≤ D) {t : Int → Int} {n p : Int} {M : gm_M} (h : gn_Tx t n M) (e : gm_gF M 912 148 = p) (hp : 0 ≤ p ∧ p ≤ n) : gm_go D 111 [.inr (.inr 148)] M = if (gn_nm t n p).1 < 0 then some (some (.inl 0), M) else some (some (.inl 1), gm_sF (gm_sF M 913 148 (gn_nm t n p).1) 912 148 (gn_nm t n p).2) := by
  obtain ⟨d, rfl⟩ : ∃ g, D = g + 1 := ⟨D - 1, by omega⟩
  have z148 := gm_z148 h.1
  have f0 := r_X9_isDigit (D := d) (by omega) h e hp
  have fr : ∀ (M' : gm_M), gn_Mw 161 0 0 0 0 M M' → ∀ q, gm_gF M' 912 148 = q → (0 ≤ q ∧ q ≤ n) → gm_go d 110 [.inr (.inr 148)] M' = some (some (.inl (if 48 ≤ gn_ch t n q ∧ gn_ch t n q ≤ 57 then 1 else 0)), M') ∧ gm_go d 107 [.inr (.inr 148)] M' = some (some (.inl (gn_ch t n q)), M') := fun M' g q e' hq => ⟨r_X9_isDigit (by omega) (g.Tx h (by decide)) e' hq, r_X9_next (by omega) (g.Tx h (by decide)) e' hq⟩
  have g0 : gn_Mw 161 0 0 0 0 M (gm_sF M 913 148 0) := (gn_Mw.rf h.1).sF (by decide)
  have f1 := fr _ g0 p (by rw [gm_gF_sF, if_neg (by decide)]; exact e) hp
  rw [eX9_takesNumber _ _ _ (Nat.le_of_ble_eq_true rfl)]
  unfold gn_nm
  by_cases c1 : 48 ≤ gn_ch t n p ∧ gn_ch t n p ≤ 57
  · rw [if_pos c1] at f0 f1
    simp only [if_pos c1]
    have p1 := gn_ch_lt (t := t) (n := n) (p := p) (by omega)
    generalize hx : gn_ch t n p = x at *
    have e0 : gm_gF M 912 148 = p := e
    have g1 : gn_Mw 161 0 0 0 0 M (gm_sF (gm_sF M 913 148 (x - 48)) 912 148 (p + 1)) := ((gn_Mw.rf h.1).sF (by decide)).sF (by decide)
    have f2 := fr _ g1 (p + 1) rfl (by omega)
    have ee : (0 : Int) + x - 48 = x - 48 := by omega
    by_cases c2 : 48 ≤ gn_ch t n (p + 1) ∧ gn_ch t n (p + 1) ≤ 57
    · rw [if_pos c2] at f2
      simp only [if_pos c2]
      generalize hy : gn_ch t n (p + 1) = y at *
      rw [if_neg (by omega)]
      have r2 : p + 1 + 1 = p + 2 := by omega
      simp (config := { maxSteps := 2000000 }) (disch := first | omega | assumption | (simp only [gm_isO_sF, gm_isO_sA, gm_isO_cp]; assumption)) only [gm_push, gm_iload, gm_lload, gm_aload, gm_istore, gm_astore, gm_iinc, gm_op2, gm_quo, gm_op1, gm_lop2, gm_lshl, gm_i2l, gm_l2i, gm_lcmp, gm_dup, gm_pop1, gm_dup2, gm_goto, gm_ifeq, gm_ifne, gm_iflt, gm_ifge, gm_ifgt, gm_ifle, gm_ceq, gm_cne, gm_clt, gm_cge, gm_cgt, gm_cle, gm_ifnull, gm_ifnonnull, gm_swk, gm_switch, gm_getI, gm_getR, gm_putI, gm_putZ, gm_putR, gm_new, gm_newarr, gm_iald, gm_cald, gm_zald, gm_lald, gm_aald, gm_iast, gm_cast, gm_zast, gm_last, gm_aast, gm_acp, gm_oinit, gm_back, gm_scall, gm_vcall, gm_iret, gm_zret, gm_cret, gm_lret, gm_aret, gm_vret, gm_slen, gm_schar, gm_sidx, gm_lget, gm_lset, gm_nl, gm_ent, gm_wd, gm_pop, gm_pad, gm_xl_c, gm_alen_u, gm_1_sF, gm_1_sA, gm_1_cp, gm_len_sF, gm_len_sA, gm_len_cp, Bool.or_true, Bool.true_or, gm_max_u, gm_min_u, gm_isO_sF, gm_isO_sA, gm_isO_cp, gm_gF_sF, gm_gF_sA, gm_gA_sF, gm_gA_sA, gm_gF_cp, gm_gA_cp, gm_add, gm_sub, gm_mul, gm_neg, ↓reduceIte, Nat.reduceAdd, Nat.reduceLeDiff, true_and, and_true, and_self, true_or, or_true, false_and, and_false, false_or, or_false, eq_self, Nat.reduceEqDiff, Int.reduceEq, Int.reduceLT, Int.reduceLE, Int.reduceNeg, Int.reduceAdd, Int.reduceSub, Int.reduceMul, Int.reduceDiv, Int.reduceMod, reduceCtorEq, if_true, if_false, gm_w_id, xX9_takesNumber_0, xX9_takesNumber_1, xX9_takesNumber_2, xX9_takesNumber_3, z148, e0, f0, f1.1, f1.2, f2.1, f2.2, gn_sF_sF, gn_sF_sw, Int.mul_zero, ee, r2]
    · rw [if_neg c2] at f2
      simp only [if_neg c2]
      rw [if_neg (by omega)]
      simp (config := { maxSteps := 2000000 }) (disch := first | omega | assumption | (simp only [gm_isO_sF, gm_isO_sA, gm_isO_cp]; assumption)) only [gm_push, gm_iload, gm_lload, gm_aload, gm_istore, gm_astore, gm_iinc, gm_op2, gm_quo, gm_op1, gm_lop2, gm_lshl, gm_i2l, gm_l2i, gm_lcmp, gm_dup, gm_pop1, gm_dup2, gm_goto, gm_ifeq, gm_ifne, gm_iflt, gm_ifge, gm_ifgt, gm_ifle, gm_ceq, gm_cne, gm_clt, gm_cge, gm_cgt, gm_cle, gm_ifnull, gm_ifnonnull, gm_swk, gm_switch, gm_getI, gm_getR, gm_putI, gm_putZ, gm_putR, gm_new, gm_newarr, gm_iald, gm_cald, gm_zald, gm_lald, gm_aald, gm_iast, gm_cast, gm_zast, gm_last, gm_aast, gm_acp, gm_oinit, gm_back, gm_scall, gm_vcall, gm_iret, gm_zret, gm_cret, gm_lret, gm_aret, gm_vret, gm_slen, gm_schar, gm_sidx, gm_lget, gm_lset, gm_nl, gm_ent, gm_wd, gm_pop, gm_pad, gm_xl_c, gm_alen_u, gm_1_sF, gm_1_sA, gm_1_cp, gm_len_sF, gm_len_sA, gm_len_cp, Bool.or_true, Bool.true_or, gm_max_u, gm_min_u, gm_isO_sF, gm_isO_sA, gm_isO_cp, gm_gF_sF, gm_gF_sA, gm_gA_sF, gm_gA_sA, gm_gF_cp, gm_gA_cp, gm_add, gm_sub, gm_mul, gm_neg, ↓reduceIte, Nat.reduceAdd, Nat.reduceLeDiff, true_and, and_true, and_self, true_or, or_true, false_and, and_false, false_or, or_false, eq_self, Nat.reduceEqDiff, Int.reduceEq, Int.reduceLT, Int.reduceLE, Int.reduceNeg, Int.reduceAdd, Int.reduceSub, Int.reduceMul, Int.reduceDiv, Int.reduceMod, reduceCtorEq, if_true, if_false, gm_w_id, xX9_takesNumber_0, xX9_takesNumber_1, xX9_takesNumber_2, xX9_takesNumber_3, z148, e0, f0, f1.1, f1.2, f2.1, gn_sF_sF, gn_sF_sw, Int.mul_zero, ee]
  · rw [if_neg c1] at f0
    simp only [if_neg c1]
    rw [if_pos (by decide)]
    simp (config := { maxSteps := 2000000 }) (disch := first | omega | assumption | (simp only [gm_isO_sF, gm_isO_sA, gm_isO_cp]; assumption)) only [gm_push, gm_iload, gm_lload, gm_aload, gm_istore, gm_astore, gm_iinc, gm_op2, gm_quo, gm_op1, gm_lop2, gm_lshl, gm_i2l, gm_l2i, gm_lcmp, gm_dup, gm_pop1, gm_dup2, gm_goto, gm_ifeq, gm_ifne, gm_iflt, gm_ifge, gm_ifgt, gm_ifle, gm_ceq, gm_cne, gm_clt, gm_cge, gm_cgt, gm_cle, gm_ifnull, gm_ifnonnull, gm_swk, gm_switch, gm_getI, gm_getR, gm_putI, gm_putZ, gm_putR, gm_new, gm_newarr, gm_iald, gm_cald, gm_zald, gm_lald, gm_aald, gm_iast, gm_cast, gm_zast, gm_last, gm_aast, gm_acp, gm_oinit, gm_back, gm_scall, gm_vcall, gm_iret, gm_zret, gm_cret, gm_lret, gm_aret, gm_vret, gm_slen, gm_schar, gm_sidx, gm_lget, gm_lset, gm_nl, gm_ent, gm_wd, gm_pop, gm_pad, gm_xl_c, gm_alen_u, gm_1_sF, gm_1_sA, gm_1_cp, gm_len_sF, gm_len_sA, gm_len_cp, Bool.or_true, Bool.true_or, gm_max_u, gm_min_u, gm_isO_sF, gm_isO_sA, gm_isO_cp, gm_gF_sF, gm_gF_sA, gm_gA_sF, gm_gA_sA, gm_gF_cp, gm_gA_cp, gm_add, gm_sub, gm_mul, gm_neg, ↓reduceIte, Nat.reduceAdd, Nat.reduceLeDiff, true_and, and_true, and_self, true_or, or_true, false_and, and_false, false_or, or_false, eq_self, Nat.reduceEqDiff, Int.reduceEq, Int.reduceLT, Int.reduceLE, Int.reduceNeg, Int.reduceAdd, Int.reduceSub, Int.reduceMul, Int.reduceDiv, Int.reduceMod, reduceCtorEq, if_true, if_false, gm_w_id, xX9_takesNumber_0, xX9_takesNumber_1, xX9_takesNumber_2, xX9_takesNumber_3, z148, f0]
theorem r_X9_emits {D : Nat} (hD : 1 ≤ D) {k x : Int} {M : gm_M} (hL : gm_Lay M) (e : gm_gF M 922 148 = k) (hk : 0 ≤ k ∧ k < 600) : gm_go D 112 [.inr (.inr 148), .inl x] M = some (none, gm_sF (gm_sA M 162 k x) 922 148 (k + 1)) := by
  obtain ⟨d, rfl⟩ : ∃ g, D = g + 1 := ⟨D - 1, by omega⟩
  have z148 := gm_z148 hL
  have z162 := gm_z162 hL
  have l920 := gm_l920 hL
  have hin := gn_i162 M hk.1 hk.2
  rw [eX9_emits _ _ _ (Nat.le_of_ble_eq_true rfl)]
  simp (config := { maxSteps := 2000000 }) (disch := first | omega | assumption | (simp only [gm_isO_sF, gm_isO_sA, gm_isO_cp]; assumption)) only [gm_push, gm_iload, gm_lload, gm_aload, gm_istore, gm_astore, gm_iinc, gm_op2, gm_quo, gm_op1, gm_lop2, gm_lshl, gm_i2l, gm_l2i, gm_lcmp, gm_dup, gm_pop1, gm_dup2, gm_goto, gm_ifeq, gm_ifne, gm_iflt, gm_ifge, gm_ifgt, gm_ifle, gm_ceq, gm_cne, gm_clt, gm_cge, gm_cgt, gm_cle, gm_ifnull, gm_ifnonnull, gm_swk, gm_switch, gm_getI, gm_getR, gm_putI, gm_putZ, gm_putR, gm_new, gm_newarr, gm_iald, gm_cald, gm_zald, gm_lald, gm_aald, gm_iast, gm_cast, gm_zast, gm_last, gm_aast, gm_acp, gm_oinit, gm_back, gm_scall, gm_vcall, gm_iret, gm_zret, gm_cret, gm_lret, gm_aret, gm_vret, gm_slen, gm_schar, gm_sidx, gm_lget, gm_lset, gm_nl, gm_ent, gm_wd, gm_pop, gm_pad, gm_xl_c, gm_alen_u, gm_1_sF, gm_1_sA, gm_1_cp, gm_len_sF, gm_len_sA, gm_len_cp, Bool.or_true, Bool.true_or, gm_max_u, gm_min_u, gm_isO_sF, gm_isO_sA, gm_isO_cp, gm_gF_sF, gm_gF_sA, gm_gA_sF, gm_gA_sA, gm_gF_cp, gm_gA_cp, gm_add, gm_sub, gm_mul, gm_neg, ↓reduceIte, Nat.reduceAdd, Nat.reduceLeDiff, true_and, and_true, and_self, true_or, or_true, false_and, and_false, false_or, or_false, eq_self, Nat.reduceEqDiff, Int.reduceEq, Int.reduceLT, Int.reduceLE, Int.reduceNeg, Int.reduceAdd, Int.reduceSub, Int.reduceMul, Int.reduceDiv, Int.reduceMod, reduceCtorEq, if_true, if_false, gm_w_id, xX9_emits_0, z148, z162, l920, e, hin]
/-- what waits: the top first -/
def gn_stk (A : Int → Int) : List Int → Prop
  | [] => True
  | w :: W => A (W.length : Int) = w ∧ (w = 33 ∨ w = 38 ∨ w = 40 ∨ w = 124) ∧ gn_stk A W
theorem gn_stk.e {A B : Int → Int} : ∀ {W : List Int}, (∀ i, 0 ≤ i → i < (W.length : Int) → B i = A i) → gn_stk A W → gn_stk B W
  | [], _, _ => trivial
  | w :: W, h, g => ⟨(h (W.length : Int) (by omega) (by simp only [List.length_cons]; omega)).trans g.1, g.2.1, gn_stk.e (fun i i1 i2 => h i i1 (by simp; omega)) g.2.2⟩
def gn_op : List Int → Int
  | [] => 0
  | w :: W => gn_op W + if w = 33 ∨ w = 40 then 1 else 0
theorem gn_op_b : ∀ W : List Int, 0 ≤ gn_op W ∧ gn_op W ≤ W.length
  | [] => ⟨Int.le_refl 0, by simp [gn_op]⟩
  | w :: W => by
    have := gn_op_b W
    simp only [gn_op, List.length_cons]
    split <;> omega
/-- without the ! ahead -/
def gn_sw : List Int → List Int
  | [] => []
  | w :: W => if w = 33 then gn_sw W else w :: W
def gn_se : List Int → List Int
  | [] => []
  | w :: W => if w = 33 then -33 :: gn_se W else []
theorem gn_sw_len : ∀ W : List Int, (gn_sw W).length + (gn_se W).length = W.length
  | [] => rfl
  | w :: W => by
    unfold gn_sw gn_se
    by_cases c : w = 33
    · rw [if_pos c, if_pos c]; have := gn_sw_len W; simp only [List.length_cons]; omega
    · rw [if_neg c, if_neg c]; simp
/-- the model in midst of a clause: at p, W waits, S told -/
def gn_Mq (a1 k k2 c c2 : Int) (M0 M : gm_M) (p : Int) (W S : List Int) : Prop := gn_Mw a1 k k2 c c2 M0 M ∧ gm_gF M 912 148 = p ∧ gm_gF M 922 148 = k + (S.length : Int) ∧ gm_gF M 923 148 = (W.length : Int) ∧ gm_gF M 924 148 = gn_op W ∧ gn_stk (gm_gA M 163) W ∧ gn_at (gm_gA M 162) k S
theorem gn_at_e {A B : Int → Int} {k : Int} {S : List Int} (h : ∀ i, k ≤ i → i < k + (S.length : Int) → B i = A i) (g : gn_at A k S) : gn_at B k S := fun i hi => (h _ (by omega) (by omega)).trans (g i hi)
theorem gn_at_c {A B : Int → Int} {k x : Int} {S : List Int} (h : ∀ i, k ≤ i → i < k + (S.length : Int) → B i = A i) (hx : B (k + (S.length : Int)) = x) (g : gn_at A k S) : gn_at B k (S ++ [x]) := fun i hi => by
  by_cases c : i < S.length
  · rw [h _ (by omega) (by omega), g i c]
    simp [List.getD, List.getElem?_append_left c]
  · have : i = S.length := by simp at hi; omega
    subst this
    rw [hx]
    simp [List.getD]
/-- a sign more -/
theorem gn_Mq.em {a1 k k2 c c2 p x : Int} {M0 M : gm_M} {W S : List Int} (h : gn_Mq a1 k k2 c c2 M0 M p W S) (hk : k + (S.length : Int) < k2) : gn_Mq a1 k k2 c c2 M0 (gm_sF (gm_sA M 162 (k + (S.length : Int)) x) 922 148 (k + (S.length : Int) + 1)) p W (S ++ [x]) := by
  obtain ⟨h1, h2, h3, h4, h5, h6, h7⟩ := h
  refine ⟨(h1.s2 ⟨by omega, hk⟩).sF (by decide), by rw [gm_gF_sF, if_neg (by decide), gm_gF_sA]; exact h2, by rw [gm_gF_sF, if_pos ⟨rfl, rfl⟩]; simp; omega, by rw [gm_gF_sF, if_neg (by decide), gm_gF_sA]; exact h4, by rw [gm_gF_sF, if_neg (by decide), gm_gF_sA]; exact h5, ?_, ?_⟩
  · refine gn_stk.e (fun i _ _ => ?_) h6
    rw [gm_gA_sF, gm_gA_sA, if_neg (by omega)]
  · refine gn_at_c (fun i i1 i2 => ?_) ?_ h7
    · rw [gm_gA_sF, gm_gA_sA, if_neg (by omega)]
    · rw [gm_gA_sF, gm_gA_sA, if_pos ⟨rfl, rfl⟩]
theorem r_X9_whole_loop {d : Nat} (hd : 1 ≤ d) {a1 k k2 c c2 : Int} {M0 : gm_M} (hk : 0 ≤ k ∧ k2 ≤ 600 ∧ k2 ≤ k + 100) : ∀ (W S : List Int) (p : Int) (M : gm_M) (F : Nat), gn_Mq a1 k k2 c c2 M0 M p W S → k + (S.length : Int) + (W.length : Int) ≤ k2 → W.length + 2 ≤ F → ∃ M', gm_ex (gm_go d) qX9_whole F 0 [some (.inr (.inr 148))] [] M = some (none, M') ∧ gn_Mq a1 k k2 c c2 M0 M' p (gn_sw W) (S ++ gn_se W) := by
  intro W
  induction W with
  | nil =>
    intro S p M F h hb hF
    obtain ⟨F, rfl⟩ : ∃ g, F = g + 2 := ⟨F - 2, by simp at hF; omega⟩
    have z148 := gm_z148 h.1.1
    have h4 : gm_gF M 923 148 = 0 := h.2.2.2.1
    refine ⟨M, ?_, by show gn_Mq a1 k k2 c c2 M0 M p [] (S ++ []); rw [List.append_nil]; exact h⟩
    rw [xX9_whole_0]
    simp (config := { maxSteps := 2000000 }) (disch := first | omega | assumption | (simp only [gm_isO_sF, gm_isO_sA, gm_isO_cp]; assumption)) only [gm_push, gm_iload, gm_lload, gm_aload, gm_istore, gm_astore, gm_iinc, gm_op2, gm_quo, gm_op1, gm_lop2, gm_lshl, gm_i2l, gm_l2i, gm_lcmp, gm_dup, gm_pop1, gm_dup2, gm_goto, gm_ifeq, gm_ifne, gm_iflt, gm_ifge, gm_ifgt, gm_ifle, gm_ceq, gm_cne, gm_clt, gm_cge, gm_cgt, gm_cle, gm_ifnull, gm_ifnonnull, gm_swk, gm_switch, gm_getI, gm_getR, gm_putI, gm_putZ, gm_putR, gm_new, gm_newarr, gm_iald, gm_cald, gm_zald, gm_lald, gm_aald, gm_iast, gm_cast, gm_zast, gm_last, gm_aast, gm_acp, gm_oinit, gm_back, gm_scall, gm_vcall, gm_iret, gm_zret, gm_cret, gm_lret, gm_aret, gm_vret, gm_slen, gm_schar, gm_sidx, gm_lget, gm_lset, gm_nl, gm_ent, gm_wd, gm_pop, gm_pad, gm_xl_c, gm_alen_u, gm_1_sF, gm_1_sA, gm_1_cp, gm_len_sF, gm_len_sA, gm_len_cp, Bool.or_true, Bool.true_or, gm_max_u, gm_min_u, gm_isO_sF, gm_isO_sA, gm_isO_cp, gm_gF_sF, gm_gF_sA, gm_gA_sF, gm_gA_sA, gm_gF_cp, gm_gA_cp, gm_add, gm_sub, gm_mul, gm_neg, ↓reduceIte, Nat.reduceAdd, Nat.reduceLeDiff, true_and, and_true, and_self, true_or, or_true, false_and, and_false, false_or, or_false, eq_self, Nat.reduceEqDiff, Int.reduceEq, Int.reduceLT, Int.reduceLE, Int.reduceNeg, Int.reduceAdd, Int.reduceSub, Int.reduceMul, Int.reduceDiv, Int.reduceMod, reduceCtorEq, if_true, if_false, gm_w_id, xX9_whole_1, z148, h4, Int.lt_irrefl]
  | cons w W ih =>
    intro S p M F h hb hF
    simp only [List.length_cons] at hF hb
    obtain ⟨F, rfl⟩ : ∃ g, F = g + 2 := ⟨F - 2, by omega⟩
    have hL := h.1.1
    have z148 := gm_z148 hL
    have z163 := gm_z163 hL
    have l921 := gm_l921 hL
    obtain ⟨h1, h2, h3, h4, h5, h6, h7⟩ := id h
    simp only [List.length_cons] at h4
    have h4' : gm_gF M 923 148 = (W.length : Int) + 1 := by rw [h4]; omega
    have c0 : 0 < (W.length : Int) + 1 := by omega
    have hin := gn_i163 M (i := (W.length : Int)) (by omega) (by omega)
    have hv : gm_gA M 163 (W.length : Int) = w := h6.1
    have r1 : (W.length : Int) + 1 - 1 = (W.length : Int) := by omega
    by_cases cw : w = 33
    · subst cw
      have e := r_X9_emits (D := d) hd (x := -33) hL h3 (by omega)
      have hm := h.em (x := -33) (by omega)
      have e9 : gn_op (33 :: W) = gn_op W + 1 := rfl
      have ob := gn_op_b W
      rw [e9] at h5
      have hm2 : gn_Mq a1 k k2 c c2 M0 (gm_sF (gm_sF (gm_sF (gm_sA M 162 (k + (S.length : Int)) (-33)) 922 148 (k + (S.length : Int) + 1)) 923 148 (W.length : Int)) 924 148 (gn_op W)) p W (S ++ [-33]) := by
        obtain ⟨g1, g2, g3, g4, g5, g6, g7⟩ := hm
        exact ⟨(g1.sF (by decide)).sF (by decide), by rw [gm_gF_sF, if_neg (by decide), gm_gF_sF, if_neg (by decide)]; exact g2, by rw [gm_gF_sF, if_neg (by decide), gm_gF_sF, if_neg (by decide)]; exact g3, by rw [gm_gF_sF, if_neg (by decide), gm_gF_sF, if_pos ⟨rfl, rfl⟩], by rw [gm_gF_sF, if_pos ⟨rfl, rfl⟩], g6.2.2, g7⟩
      obtain ⟨M', i1, i2⟩ := ih (S ++ [-33]) p _ (F + 1) hm2 (by simp; omega) (by omega)
      refine ⟨M', ?_, ?_⟩
      · rw [← i1, xX9_whole_0]
        have r3 : gn_op W + 1 - 1 = gn_op W := by omega
        simp (config := { maxSteps := 2000000 }) (disch := first | omega | assumption | (simp only [gm_isO_sF, gm_isO_sA, gm_isO_cp]; assumption)) only [gm_push, gm_iload, gm_lload, gm_aload, gm_istore, gm_astore, gm_iinc, gm_op2, gm_quo, gm_op1, gm_lop2, gm_lshl, gm_i2l, gm_l2i, gm_lcmp, gm_dup, gm_pop1, gm_dup2, gm_goto, gm_ifeq, gm_ifne, gm_iflt, gm_ifge, gm_ifgt, gm_ifle, gm_ceq, gm_cne, gm_clt, gm_cge, gm_cgt, gm_cle, gm_ifnull, gm_ifnonnull, gm_swk, gm_switch, gm_getI, gm_getR, gm_putI, gm_putZ, gm_putR, gm_new, gm_newarr, gm_iald, gm_cald, gm_zald, gm_lald, gm_aald, gm_iast, gm_cast, gm_zast, gm_last, gm_aast, gm_acp, gm_oinit, gm_back, gm_scall, gm_vcall, gm_iret, gm_zret, gm_cret, gm_lret, gm_aret, gm_vret, gm_slen, gm_schar, gm_sidx, gm_lget, gm_lset, gm_nl, gm_ent, gm_wd, gm_pop, gm_pad, gm_xl_c, gm_alen_u, gm_1_sF, gm_1_sA, gm_1_cp, gm_len_sF, gm_len_sA, gm_len_cp, Bool.or_true, Bool.true_or, gm_max_u, gm_min_u, gm_isO_sF, gm_isO_sA, gm_isO_cp, gm_gF_sF, gm_gF_sA, gm_gA_sF, gm_gA_sA, gm_gF_cp, gm_gA_cp, gm_add, gm_sub, gm_mul, gm_neg, ↓reduceIte, Nat.reduceAdd, Nat.reduceLeDiff, true_and, and_true, and_self, true_or, or_true, false_and, and_false, false_or, or_false, eq_self, Nat.reduceEqDiff, Int.reduceEq, Int.reduceLT, Int.reduceLE, Int.reduceNeg, Int.reduceAdd, Int.reduceSub, Int.reduceMul, Int.reduceDiv, Int.reduceMod, reduceCtorEq, if_true, if_false, gm_w_id, z148, z163, l921, h4', h5, c0, hin, hv, r1, e, r3]
      · show gn_Mq a1 k k2 c c2 M0 M' p (if (33 : Int) = 33 then gn_sw W else 33 :: W) (S ++ if (33 : Int) = 33 then -33 :: gn_se W else [])
        rw [if_pos rfl, if_pos rfl]
        rw [List.append_assoc] at i2
        exact i2
    · refine ⟨M, ?_, ?_⟩
      · rw [xX9_whole_0]
        rcases h6.2.1 with rfl | rfl | rfl | rfl
        · exact absurd rfl cw
        · simp (config := { maxSteps := 2000000 }) (disch := first | omega | assumption | (simp only [gm_isO_sF, gm_isO_sA, gm_isO_cp]; assumption)) only [gm_push, gm_iload, gm_lload, gm_aload, gm_istore, gm_astore, gm_iinc, gm_op2, gm_quo, gm_op1, gm_lop2, gm_lshl, gm_i2l, gm_l2i, gm_lcmp, gm_dup, gm_pop1, gm_dup2, gm_goto, gm_ifeq, gm_ifne, gm_iflt, gm_ifge, gm_ifgt, gm_ifle, gm_ceq, gm_cne, gm_clt, gm_cge, gm_cgt, gm_cle, gm_ifnull, gm_ifnonnull, gm_swk, gm_switch, gm_getI, gm_getR, gm_putI, gm_putZ, gm_putR, gm_new, gm_newarr, gm_iald, gm_cald, gm_zald, gm_lald, gm_aald, gm_iast, gm_cast, gm_zast, gm_last, gm_aast, gm_acp, gm_oinit, gm_back, gm_scall, gm_vcall, gm_iret, gm_zret, gm_cret, gm_lret, gm_aret, gm_vret, gm_slen, gm_schar, gm_sidx, gm_lget, gm_lset, gm_nl, gm_ent, gm_wd, gm_pop, gm_pad, gm_xl_c, gm_alen_u, gm_1_sF, gm_1_sA, gm_1_cp, gm_len_sF, gm_len_sA, gm_len_cp, Bool.or_true, Bool.true_or, gm_max_u, gm_min_u, gm_isO_sF, gm_isO_sA, gm_isO_cp, gm_gF_sF, gm_gF_sA, gm_gA_sF, gm_gA_sA, gm_gF_cp, gm_gA_cp, gm_add, gm_sub, gm_mul, gm_neg, ↓reduceIte, Nat.reduceAdd, Nat.reduceLeDiff, true_and, and_true, and_self, true_or, or_true, false_and, and_false, false_or, or_false, eq_self, Nat.reduceEqDiff, Int.reduceEq, Int.reduceLT, Int.reduceLE, Int.reduceNeg, Int.reduceAdd, Int.reduceSub, Int.reduceMul, Int.reduceDiv, Int.reduceMod, reduceCtorEq, if_true, if_false, gm_w_id, xX9_whole_1, z148, z163, l921, h4', c0, hin, hv, r1]
        · simp (config := { maxSteps := 2000000 }) (disch := first | omega | assumption | (simp only [gm_isO_sF, gm_isO_sA, gm_isO_cp]; assumption)) only [gm_push, gm_iload, gm_lload, gm_aload, gm_istore, gm_astore, gm_iinc, gm_op2, gm_quo, gm_op1, gm_lop2, gm_lshl, gm_i2l, gm_l2i, gm_lcmp, gm_dup, gm_pop1, gm_dup2, gm_goto, gm_ifeq, gm_ifne, gm_iflt, gm_ifge, gm_ifgt, gm_ifle, gm_ceq, gm_cne, gm_clt, gm_cge, gm_cgt, gm_cle, gm_ifnull, gm_ifnonnull, gm_swk, gm_switch, gm_getI, gm_getR, gm_putI, gm_putZ, gm_putR, gm_new, gm_newarr, gm_iald, gm_cald, gm_zald, gm_lald, gm_aald, gm_iast, gm_cast, gm_zast, gm_last, gm_aast, gm_acp, gm_oinit, gm_back, gm_scall, gm_vcall, gm_iret, gm_zret, gm_cret, gm_lret, gm_aret, gm_vret, gm_slen, gm_schar, gm_sidx, gm_lget, gm_lset, gm_nl, gm_ent, gm_wd, gm_pop, gm_pad, gm_xl_c, gm_alen_u, gm_1_sF, gm_1_sA, gm_1_cp, gm_len_sF, gm_len_sA, gm_len_cp, Bool.or_true, Bool.true_or, gm_max_u, gm_min_u, gm_isO_sF, gm_isO_sA, gm_isO_cp, gm_gF_sF, gm_gF_sA, gm_gA_sF, gm_gA_sA, gm_gF_cp, gm_gA_cp, gm_add, gm_sub, gm_mul, gm_neg, ↓reduceIte, Nat.reduceAdd, Nat.reduceLeDiff, true_and, and_true, and_self, true_or, or_true, false_and, and_false, false_or, or_false, eq_self, Nat.reduceEqDiff, Int.reduceEq, Int.reduceLT, Int.reduceLE, Int.reduceNeg, Int.reduceAdd, Int.reduceSub, Int.reduceMul, Int.reduceDiv, Int.reduceMod, reduceCtorEq, if_true, if_false, gm_w_id, xX9_whole_1, z148, z163, l921, h4', c0, hin, hv, r1]
        · simp (config := { maxSteps := 2000000 }) (disch := first | omega | assumption | (simp only [gm_isO_sF, gm_isO_sA, gm_isO_cp]; assumption)) only [gm_push, gm_iload, gm_lload, gm_aload, gm_istore, gm_astore, gm_iinc, gm_op2, gm_quo, gm_op1, gm_lop2, gm_lshl, gm_i2l, gm_l2i, gm_lcmp, gm_dup, gm_pop1, gm_dup2, gm_goto, gm_ifeq, gm_ifne, gm_iflt, gm_ifge, gm_ifgt, gm_ifle, gm_ceq, gm_cne, gm_clt, gm_cge, gm_cgt, gm_cle, gm_ifnull, gm_ifnonnull, gm_swk, gm_switch, gm_getI, gm_getR, gm_putI, gm_putZ, gm_putR, gm_new, gm_newarr, gm_iald, gm_cald, gm_zald, gm_lald, gm_aald, gm_iast, gm_cast, gm_zast, gm_last, gm_aast, gm_acp, gm_oinit, gm_back, gm_scall, gm_vcall, gm_iret, gm_zret, gm_cret, gm_lret, gm_aret, gm_vret, gm_slen, gm_schar, gm_sidx, gm_lget, gm_lset, gm_nl, gm_ent, gm_wd, gm_pop, gm_pad, gm_xl_c, gm_alen_u, gm_1_sF, gm_1_sA, gm_1_cp, gm_len_sF, gm_len_sA, gm_len_cp, Bool.or_true, Bool.true_or, gm_max_u, gm_min_u, gm_isO_sF, gm_isO_sA, gm_isO_cp, gm_gF_sF, gm_gF_sA, gm_gA_sF, gm_gA_sA, gm_gF_cp, gm_gA_cp, gm_add, gm_sub, gm_mul, gm_neg, ↓reduceIte, Nat.reduceAdd, Nat.reduceLeDiff, true_and, and_true, and_self, true_or, or_true, false_and, and_false, false_or, or_false, eq_self, Nat.reduceEqDiff, Int.reduceEq, Int.reduceLT, Int.reduceLE, Int.reduceNeg, Int.reduceAdd, Int.reduceSub, Int.reduceMul, Int.reduceDiv, Int.reduceMod, reduceCtorEq, if_true, if_false, gm_w_id, xX9_whole_1, z148, z163, l921, h4', c0, hin, hv, r1]
      · show gn_Mq a1 k k2 c c2 M0 M p (if w = 33 then gn_sw W else w :: W) (S ++ if w = 33 then -33 :: gn_se W else [])
        rw [if_neg cw, if_neg cw, List.append_nil]
        exact h
theorem r_X9_whole {D : Nat} (hD : 2 ≤ D) {a1 k k2 c c2 : Int} {M0 : gm_M} (hk : 0 ≤ k ∧ k2 ≤ 600 ∧ k2 ≤ k + 100) {W S : List Int} {p : Int} {M : gm_M} (h : gn_Mq a1 k k2 c c2 M0 M p W S) (hb : k + (S.length : Int) + (W.length : Int) ≤ k2) : ∃ M', gm_go D 113 [.inr (.inr 148)] M = some (none, M') ∧ gn_Mq a1 k k2 c c2 M0 M' p (gn_sw W) (S ++ gn_se W) := by
  obtain ⟨d, rfl⟩ : ∃ g, D = g + 1 := ⟨D - 1, by omega⟩
  obtain ⟨M', e, g⟩ := r_X9_whole_loop (d := d) (by omega) hk W S p M 100000 h hb (by omega)
  refine ⟨M', ?_, g⟩
  rw [eX9_whole _ _ _ (Nat.le_of_ble_eq_true rfl), ← e]
  rfl
/-- & and | on the top, by s -/
def gn_sp (s : Int) : List Int → List Int
  | [] => []
  | w :: W => if w = 38 ∨ w = 124 ∧ s ≠ 38 then gn_sp s W else w :: W
def gn_spe (s : Int) : List Int → List Int
  | [] => []
  | w :: W => if w = 38 ∨ w = 124 ∧ s ≠ 38 then -w :: gn_spe s W else []
theorem gn_sp_len (s : Int) : ∀ W : List Int, (gn_sp s W).length + (gn_spe s W).length = W.length
  | [] => rfl
  | w :: W => by
    unfold gn_sp gn_spe
    by_cases c : w = 38 ∨ w = 124 ∧ s ≠ 38
    · rw [if_pos c, if_pos c]; have := gn_sp_len s W; simp only [List.length_cons]; omega
    · rw [if_neg c, if_neg c]; simp
theorem r_X9_settle_loop {d : Nat} (hd : 1 ≤ d) {a1 k k2 c c2 s : Int} {M0 : gm_M} (hk : 0 ≤ k ∧ k2 ≤ 600 ∧ k2 ≤ k + 100) (hs : s = 38 ∨ s = 124) : ∀ (W S : List Int) (p : Int) (M : gm_M) (F : Nat), gn_Mq a1 k k2 c c2 M0 M p W S → k + (S.length : Int) + (W.length : Int) ≤ k2 → 2 * W.length + 4 ≤ F → ∃ M', gm_ex (gm_go d) qX9_settle F 0 [some (.inr (.inr 148)), some (.inl s)] [] M = some (none, M') ∧ gn_Mq a1 k k2 c c2 M0 M' p (gn_sp s W) (S ++ gn_spe s W) := by
  intro W
  induction W with
  | nil =>
    intro S p M F h hb hF
    obtain ⟨F, rfl⟩ : ∃ g, F = g + 2 := ⟨F - 2, by omega⟩
    have z148 := gm_z148 h.1.1
    have h4 : gm_gF M 923 148 = 0 := h.2.2.2.1
    refine ⟨M, ?_, by show gn_Mq a1 k k2 c c2 M0 M p [] (S ++ []); rw [List.append_nil]; exact h⟩
    rw [xX9_settle_0]
    simp (config := { maxSteps := 2000000 }) (disch := first | omega | assumption | (simp only [gm_isO_sF, gm_isO_sA, gm_isO_cp]; assumption)) only [gm_push, gm_iload, gm_lload, gm_aload, gm_istore, gm_astore, gm_iinc, gm_op2, gm_quo, gm_op1, gm_lop2, gm_lshl, gm_i2l, gm_l2i, gm_lcmp, gm_dup, gm_pop1, gm_dup2, gm_goto, gm_ifeq, gm_ifne, gm_iflt, gm_ifge, gm_ifgt, gm_ifle, gm_ceq, gm_cne, gm_clt, gm_cge, gm_cgt, gm_cle, gm_ifnull, gm_ifnonnull, gm_swk, gm_switch, gm_getI, gm_getR, gm_putI, gm_putZ, gm_putR, gm_new, gm_newarr, gm_iald, gm_cald, gm_zald, gm_lald, gm_aald, gm_iast, gm_cast, gm_zast, gm_last, gm_aast, gm_acp, gm_oinit, gm_back, gm_scall, gm_vcall, gm_iret, gm_zret, gm_cret, gm_lret, gm_aret, gm_vret, gm_slen, gm_schar, gm_sidx, gm_lget, gm_lset, gm_nl, gm_ent, gm_wd, gm_pop, gm_pad, gm_xl_c, gm_alen_u, gm_1_sF, gm_1_sA, gm_1_cp, gm_len_sF, gm_len_sA, gm_len_cp, Bool.or_true, Bool.true_or, gm_max_u, gm_min_u, gm_isO_sF, gm_isO_sA, gm_isO_cp, gm_gF_sF, gm_gF_sA, gm_gA_sF, gm_gA_sA, gm_gF_cp, gm_gA_cp, gm_add, gm_sub, gm_mul, gm_neg, ↓reduceIte, Nat.reduceAdd, Nat.reduceLeDiff, true_and, and_true, and_self, true_or, or_true, false_and, and_false, false_or, or_false, eq_self, Nat.reduceEqDiff, Int.reduceEq, Int.reduceLT, Int.reduceLE, Int.reduceNeg, Int.reduceAdd, Int.reduceSub, Int.reduceMul, Int.reduceDiv, Int.reduceMod, reduceCtorEq, if_true, if_false, gm_w_id, xX9_settle_2, z148, h4, Int.lt_irrefl]
  | cons w W ih =>
    intro S p M F h hb hF
    simp only [List.length_cons] at hF hb
    obtain ⟨F, rfl⟩ : ∃ g, F = g + 3 := ⟨F - 3, by omega⟩
    have hL := h.1.1
    have z148 := gm_z148 hL
    have z163 := gm_z163 hL
    have l921 := gm_l921 hL
    obtain ⟨h1, h2, h3, h4, h5, h6, h7⟩ := id h
    simp only [List.length_cons] at h4
    have h4' : gm_gF M 923 148 = (W.length : Int) + 1 := by rw [h4]; omega
    have c0 : 0 < (W.length : Int) + 1 := by omega
    have hin := gn_i163 M (i := (W.length : Int)) (by omega) (by omega)
    have hin' := gn_i163 (gm_sF M 923 148 (W.length : Int)) (i := (W.length : Int)) (by omega) (by omega)
    have hv : gm_gA M 163 (W.length : Int) = w := h6.1
    have r1 : (W.length : Int) + 1 - 1 = (W.length : Int) := by omega
    by_cases cw : w = 38 ∨ w = 124 ∧ s ≠ 38
    · have hM : gn_Mq a1 k k2 c c2 M0 (gm_sF M 923 148 (W.length : Int)) p W S := ⟨h1.sF (by decide), by rw [gm_gF_sF, if_neg (by decide)]; exact h2, by rw [gm_gF_sF, if_neg (by decide)]; exact h3, by rw [gm_gF_sF, if_pos ⟨rfl, rfl⟩], by
        rw [gm_gF_sF, if_neg (by decide), h5]
        show gn_op W + (if w = 33 ∨ w = 40 then 1 else 0) = _
        rw [if_neg (by omega)]
        omega, h6.2.2, h7⟩
      have e := r_X9_emits (D := d) hd (x := -w) hM.1.1 hM.2.2.1 (by omega)
      have hm := hM.em (x := -w) (by omega)
      obtain ⟨M', i1, i2⟩ := ih (S ++ [-w]) p _ (F + 1) hm (by simp; omega) (by omega)
      refine ⟨M', ?_, ?_⟩
      · rw [← i1, xX9_settle_0]
        rcases cw with rfl | ⟨rfl, c2⟩
        · rcases hs with rfl | rfl
          · simp (config := { maxSteps := 2000000 }) (disch := first | omega | assumption | (simp only [gm_isO_sF, gm_isO_sA, gm_isO_cp]; assumption)) only [gm_push, gm_iload, gm_lload, gm_aload, gm_istore, gm_astore, gm_iinc, gm_op2, gm_quo, gm_op1, gm_lop2, gm_lshl, gm_i2l, gm_l2i, gm_lcmp, gm_dup, gm_pop1, gm_dup2, gm_goto, gm_ifeq, gm_ifne, gm_iflt, gm_ifge, gm_ifgt, gm_ifle, gm_ceq, gm_cne, gm_clt, gm_cge, gm_cgt, gm_cle, gm_ifnull, gm_ifnonnull, gm_swk, gm_switch, gm_getI, gm_getR, gm_putI, gm_putZ, gm_putR, gm_new, gm_newarr, gm_iald, gm_cald, gm_zald, gm_lald, gm_aald, gm_iast, gm_cast, gm_zast, gm_last, gm_aast, gm_acp, gm_oinit, gm_back, gm_scall, gm_vcall, gm_iret, gm_zret, gm_cret, gm_lret, gm_aret, gm_vret, gm_slen, gm_schar, gm_sidx, gm_lget, gm_lset, gm_nl, gm_ent, gm_wd, gm_pop, gm_pad, gm_xl_c, gm_alen_u, gm_1_sF, gm_1_sA, gm_1_cp, gm_len_sF, gm_len_sA, gm_len_cp, Bool.or_true, Bool.true_or, gm_max_u, gm_min_u, gm_isO_sF, gm_isO_sA, gm_isO_cp, gm_gF_sF, gm_gF_sA, gm_gA_sF, gm_gA_sA, gm_gF_cp, gm_gA_cp, gm_add, gm_sub, gm_mul, gm_neg, ↓reduceIte, Nat.reduceAdd, Nat.reduceLeDiff, true_and, and_true, and_self, true_or, or_true, false_and, and_false, false_or, or_false, eq_self, Nat.reduceEqDiff, Int.reduceEq, Int.reduceLT, Int.reduceLE, Int.reduceNeg, Int.reduceAdd, Int.reduceSub, Int.reduceMul, Int.reduceDiv, Int.reduceMod, reduceCtorEq, if_true, if_false, gm_w_id, xX9_settle_1, z148, z163, l921, h4', c0, hin, hin', hv, r1, e]
          · simp (config := { maxSteps := 2000000 }) (disch := first | omega | assumption | (simp only [gm_isO_sF, gm_isO_sA, gm_isO_cp]; assumption)) only [gm_push, gm_iload, gm_lload, gm_aload, gm_istore, gm_astore, gm_iinc, gm_op2, gm_quo, gm_op1, gm_lop2, gm_lshl, gm_i2l, gm_l2i, gm_lcmp, gm_dup, gm_pop1, gm_dup2, gm_goto, gm_ifeq, gm_ifne, gm_iflt, gm_ifge, gm_ifgt, gm_ifle, gm_ceq, gm_cne, gm_clt, gm_cge, gm_cgt, gm_cle, gm_ifnull, gm_ifnonnull, gm_swk, gm_switch, gm_getI, gm_getR, gm_putI, gm_putZ, gm_putR, gm_new, gm_newarr, gm_iald, gm_cald, gm_zald, gm_lald, gm_aald, gm_iast, gm_cast, gm_zast, gm_last, gm_aast, gm_acp, gm_oinit, gm_back, gm_scall, gm_vcall, gm_iret, gm_zret, gm_cret, gm_lret, gm_aret, gm_vret, gm_slen, gm_schar, gm_sidx, gm_lget, gm_lset, gm_nl, gm_ent, gm_wd, gm_pop, gm_pad, gm_xl_c, gm_alen_u, gm_1_sF, gm_1_sA, gm_1_cp, gm_len_sF, gm_len_sA, gm_len_cp, Bool.or_true, Bool.true_or, gm_max_u, gm_min_u, gm_isO_sF, gm_isO_sA, gm_isO_cp, gm_gF_sF, gm_gF_sA, gm_gA_sF, gm_gA_sA, gm_gF_cp, gm_gA_cp, gm_add, gm_sub, gm_mul, gm_neg, ↓reduceIte, Nat.reduceAdd, Nat.reduceLeDiff, true_and, and_true, and_self, true_or, or_true, false_and, and_false, false_or, or_false, eq_self, Nat.reduceEqDiff, Int.reduceEq, Int.reduceLT, Int.reduceLE, Int.reduceNeg, Int.reduceAdd, Int.reduceSub, Int.reduceMul, Int.reduceDiv, Int.reduceMod, reduceCtorEq, if_true, if_false, gm_w_id, xX9_settle_1, z148, z163, l921, h4', c0, hin, hin', hv, r1, e]
        · rcases hs with rfl | rfl
          · exact absurd rfl c2
          · simp (config := { maxSteps := 2000000 }) (disch := first | omega | assumption | (simp only [gm_isO_sF, gm_isO_sA, gm_isO_cp]; assumption)) only [gm_push, gm_iload, gm_lload, gm_aload, gm_istore, gm_astore, gm_iinc, gm_op2, gm_quo, gm_op1, gm_lop2, gm_lshl, gm_i2l, gm_l2i, gm_lcmp, gm_dup, gm_pop1, gm_dup2, gm_goto, gm_ifeq, gm_ifne, gm_iflt, gm_ifge, gm_ifgt, gm_ifle, gm_ceq, gm_cne, gm_clt, gm_cge, gm_cgt, gm_cle, gm_ifnull, gm_ifnonnull, gm_swk, gm_switch, gm_getI, gm_getR, gm_putI, gm_putZ, gm_putR, gm_new, gm_newarr, gm_iald, gm_cald, gm_zald, gm_lald, gm_aald, gm_iast, gm_cast, gm_zast, gm_last, gm_aast, gm_acp, gm_oinit, gm_back, gm_scall, gm_vcall, gm_iret, gm_zret, gm_cret, gm_lret, gm_aret, gm_vret, gm_slen, gm_schar, gm_sidx, gm_lget, gm_lset, gm_nl, gm_ent, gm_wd, gm_pop, gm_pad, gm_xl_c, gm_alen_u, gm_1_sF, gm_1_sA, gm_1_cp, gm_len_sF, gm_len_sA, gm_len_cp, Bool.or_true, Bool.true_or, gm_max_u, gm_min_u, gm_isO_sF, gm_isO_sA, gm_isO_cp, gm_gF_sF, gm_gF_sA, gm_gA_sF, gm_gA_sA, gm_gF_cp, gm_gA_cp, gm_add, gm_sub, gm_mul, gm_neg, ↓reduceIte, Nat.reduceAdd, Nat.reduceLeDiff, true_and, and_true, and_self, true_or, or_true, false_and, and_false, false_or, or_false, eq_self, Nat.reduceEqDiff, Int.reduceEq, Int.reduceLT, Int.reduceLE, Int.reduceNeg, Int.reduceAdd, Int.reduceSub, Int.reduceMul, Int.reduceDiv, Int.reduceMod, reduceCtorEq, if_true, if_false, gm_w_id, xX9_settle_1, z148, z163, l921, h4', c0, hin, hin', hv, r1, e]
      · show gn_Mq a1 k k2 c c2 M0 M' p (if w = 38 ∨ w = 124 ∧ s ≠ 38 then gn_sp s W else w :: W) (S ++ if w = 38 ∨ w = 124 ∧ s ≠ 38 then -w :: gn_spe s W else [])
        rw [if_pos cw, if_pos cw]
        rw [List.append_assoc] at i2
        exact i2
    · refine ⟨M, ?_, ?_⟩
      · rw [xX9_settle_0]
        rcases h6.2.1 with rfl | rfl | rfl | rfl
        · simp (config := { maxSteps := 2000000 }) (disch := first | omega | assumption | (simp only [gm_isO_sF, gm_isO_sA, gm_isO_cp]; assumption)) only [gm_push, gm_iload, gm_lload, gm_aload, gm_istore, gm_astore, gm_iinc, gm_op2, gm_quo, gm_op1, gm_lop2, gm_lshl, gm_i2l, gm_l2i, gm_lcmp, gm_dup, gm_pop1, gm_dup2, gm_goto, gm_ifeq, gm_ifne, gm_iflt, gm_ifge, gm_ifgt, gm_ifle, gm_ceq, gm_cne, gm_clt, gm_cge, gm_cgt, gm_cle, gm_ifnull, gm_ifnonnull, gm_swk, gm_switch, gm_getI, gm_getR, gm_putI, gm_putZ, gm_putR, gm_new, gm_newarr, gm_iald, gm_cald, gm_zald, gm_lald, gm_aald, gm_iast, gm_cast, gm_zast, gm_last, gm_aast, gm_acp, gm_oinit, gm_back, gm_scall, gm_vcall, gm_iret, gm_zret, gm_cret, gm_lret, gm_aret, gm_vret, gm_slen, gm_schar, gm_sidx, gm_lget, gm_lset, gm_nl, gm_ent, gm_wd, gm_pop, gm_pad, gm_xl_c, gm_alen_u, gm_1_sF, gm_1_sA, gm_1_cp, gm_len_sF, gm_len_sA, gm_len_cp, Bool.or_true, Bool.true_or, gm_max_u, gm_min_u, gm_isO_sF, gm_isO_sA, gm_isO_cp, gm_gF_sF, gm_gF_sA, gm_gA_sF, gm_gA_sA, gm_gF_cp, gm_gA_cp, gm_add, gm_sub, gm_mul, gm_neg, ↓reduceIte, Nat.reduceAdd, Nat.reduceLeDiff, true_and, and_true, and_self, true_or, or_true, false_and, and_false, false_or, or_false, eq_self, Nat.reduceEqDiff, Int.reduceEq, Int.reduceLT, Int.reduceLE, Int.reduceNeg, Int.reduceAdd, Int.reduceSub, Int.reduceMul, Int.reduceDiv, Int.reduceMod, reduceCtorEq, if_true, if_false, gm_w_id, xX9_settle_2, z148, z163, l921, h4', c0, hin, hv, r1]
        · exact absurd (Or.inl rfl) cw
        · simp (config := { maxSteps := 2000000 }) (disch := first | omega | assumption | (simp only [gm_isO_sF, gm_isO_sA, gm_isO_cp]; assumption)) only [gm_push, gm_iload, gm_lload, gm_aload, gm_istore, gm_astore, gm_iinc, gm_op2, gm_quo, gm_op1, gm_lop2, gm_lshl, gm_i2l, gm_l2i, gm_lcmp, gm_dup, gm_pop1, gm_dup2, gm_goto, gm_ifeq, gm_ifne, gm_iflt, gm_ifge, gm_ifgt, gm_ifle, gm_ceq, gm_cne, gm_clt, gm_cge, gm_cgt, gm_cle, gm_ifnull, gm_ifnonnull, gm_swk, gm_switch, gm_getI, gm_getR, gm_putI, gm_putZ, gm_putR, gm_new, gm_newarr, gm_iald, gm_cald, gm_zald, gm_lald, gm_aald, gm_iast, gm_cast, gm_zast, gm_last, gm_aast, gm_acp, gm_oinit, gm_back, gm_scall, gm_vcall, gm_iret, gm_zret, gm_cret, gm_lret, gm_aret, gm_vret, gm_slen, gm_schar, gm_sidx, gm_lget, gm_lset, gm_nl, gm_ent, gm_wd, gm_pop, gm_pad, gm_xl_c, gm_alen_u, gm_1_sF, gm_1_sA, gm_1_cp, gm_len_sF, gm_len_sA, gm_len_cp, Bool.or_true, Bool.true_or, gm_max_u, gm_min_u, gm_isO_sF, gm_isO_sA, gm_isO_cp, gm_gF_sF, gm_gF_sA, gm_gA_sF, gm_gA_sA, gm_gF_cp, gm_gA_cp, gm_add, gm_sub, gm_mul, gm_neg, ↓reduceIte, Nat.reduceAdd, Nat.reduceLeDiff, true_and, and_true, and_self, true_or, or_true, false_and, and_false, false_or, or_false, eq_self, Nat.reduceEqDiff, Int.reduceEq, Int.reduceLT, Int.reduceLE, Int.reduceNeg, Int.reduceAdd, Int.reduceSub, Int.reduceMul, Int.reduceDiv, Int.reduceMod, reduceCtorEq, if_true, if_false, gm_w_id, xX9_settle_2, z148, z163, l921, h4', c0, hin, hv, r1]
        · obtain rfl : s = 38 := by omega
          simp (config := { maxSteps := 2000000 }) (disch := first | omega | assumption | (simp only [gm_isO_sF, gm_isO_sA, gm_isO_cp]; assumption)) only [gm_push, gm_iload, gm_lload, gm_aload, gm_istore, gm_astore, gm_iinc, gm_op2, gm_quo, gm_op1, gm_lop2, gm_lshl, gm_i2l, gm_l2i, gm_lcmp, gm_dup, gm_pop1, gm_dup2, gm_goto, gm_ifeq, gm_ifne, gm_iflt, gm_ifge, gm_ifgt, gm_ifle, gm_ceq, gm_cne, gm_clt, gm_cge, gm_cgt, gm_cle, gm_ifnull, gm_ifnonnull, gm_swk, gm_switch, gm_getI, gm_getR, gm_putI, gm_putZ, gm_putR, gm_new, gm_newarr, gm_iald, gm_cald, gm_zald, gm_lald, gm_aald, gm_iast, gm_cast, gm_zast, gm_last, gm_aast, gm_acp, gm_oinit, gm_back, gm_scall, gm_vcall, gm_iret, gm_zret, gm_cret, gm_lret, gm_aret, gm_vret, gm_slen, gm_schar, gm_sidx, gm_lget, gm_lset, gm_nl, gm_ent, gm_wd, gm_pop, gm_pad, gm_xl_c, gm_alen_u, gm_1_sF, gm_1_sA, gm_1_cp, gm_len_sF, gm_len_sA, gm_len_cp, Bool.or_true, Bool.true_or, gm_max_u, gm_min_u, gm_isO_sF, gm_isO_sA, gm_isO_cp, gm_gF_sF, gm_gF_sA, gm_gA_sF, gm_gA_sA, gm_gF_cp, gm_gA_cp, gm_add, gm_sub, gm_mul, gm_neg, ↓reduceIte, Nat.reduceAdd, Nat.reduceLeDiff, true_and, and_true, and_self, true_or, or_true, false_and, and_false, false_or, or_false, eq_self, Nat.reduceEqDiff, Int.reduceEq, Int.reduceLT, Int.reduceLE, Int.reduceNeg, Int.reduceAdd, Int.reduceSub, Int.reduceMul, Int.reduceDiv, Int.reduceMod, reduceCtorEq, if_true, if_false, gm_w_id, xX9_settle_2, z148, z163, l921, h4', c0, hin, hv, r1]
      · show gn_Mq a1 k k2 c c2 M0 M p (if w = 38 ∨ w = 124 ∧ s ≠ 38 then gn_sp s W else w :: W) (S ++ if w = 38 ∨ w = 124 ∧ s ≠ 38 then -w :: gn_spe s W else [])
        rw [if_neg cw, if_neg cw, List.append_nil]
        exact h
theorem r_X9_settle {D : Nat} (hD : 2 ≤ D) {a1 k k2 c c2 s : Int} {M0 : gm_M} (hk : 0 ≤ k ∧ k2 ≤ 600 ∧ k2 ≤ k + 100) (hs : s = 38 ∨ s = 124) {W S : List Int} {p : Int} {M : gm_M} (h : gn_Mq a1 k k2 c c2 M0 M p W S) (hb : k + (S.length : Int) + (W.length : Int) ≤ k2) : ∃ M', gm_go D 114 [.inr (.inr 148), .inl s] M = some (none, M') ∧ gn_Mq a1 k k2 c c2 M0 M' p (gn_sp s W) (S ++ gn_spe s W) := by
  obtain ⟨d, rfl⟩ : ∃ g, D = g + 1 := ⟨D - 1, by omega⟩
  obtain ⟨M', e, g⟩ := r_X9_settle_loop (d := d) (by omega) hk hs W S p M 100000 h hb (by omega)
  refine ⟨M', ?_, g⟩
  rw [eX9_settle _ _ _ (Nat.le_of_ble_eq_true rfl), ← e]
  rfl
theorem r_X9_place {D : Nat} (hD : 1 ≤ D) {x : Int} (M : gm_M) (hx : -1 ≤ x ∧ x ≤ 127) : gm_go D 115 [.inr (.inr 148), .inl x] M = some (some (.inl (gn_le x)), M) := by
  obtain ⟨d, rfl⟩ : ∃ g, D = g + 1 := ⟨D - 1, by omega⟩
  rw [eX9_place _ _ _ (Nat.le_of_ble_eq_true rfl)]
  by_cases c : 101 ≤ x ∧ x ≤ 118
  · rcases (by omega : x = 101 ∨ x = 102 ∨ x = 103 ∨ x = 104 ∨ x = 105 ∨ x = 106 ∨ x = 107 ∨ x = 108 ∨ x = 109 ∨ x = 110 ∨ x = 111 ∨ x = 112 ∨ x = 113 ∨ x = 114 ∨ x = 115 ∨ x = 116 ∨ x = 117 ∨ x = 118) with rfl | rfl | rfl | rfl | rfl | rfl | rfl | rfl | rfl | rfl | rfl | rfl | rfl | rfl | rfl | rfl | rfl | rfl <;> rfl
  · have e : gn_le x = -1 := by
      unfold gn_le
      simp only [gm_ixo]
      rw [if_neg (by omega), if_neg (by omega), if_neg (by omega), if_neg (by omega), if_neg (by omega), if_neg (by omega)]
    have n1 : ∀ y : Int, 101 ≤ y → y ≤ 118 → (x = y) = False := fun y y1 y2 => eq_false (by omega)
    rw [e]
    simp (config := { maxSteps := 2000000 }) (disch := first | omega | assumption | (simp only [gm_isO_sF, gm_isO_sA, gm_isO_cp]; assumption)) only [gm_push, gm_iload, gm_lload, gm_aload, gm_istore, gm_astore, gm_iinc, gm_op2, gm_quo, gm_op1, gm_lop2, gm_lshl, gm_i2l, gm_l2i, gm_lcmp, gm_dup, gm_pop1, gm_dup2, gm_goto, gm_ifeq, gm_ifne, gm_iflt, gm_ifge, gm_ifgt, gm_ifle, gm_ceq, gm_cne, gm_clt, gm_cge, gm_cgt, gm_cle, gm_ifnull, gm_ifnonnull, gm_swk, gm_switch, gm_getI, gm_getR, gm_putI, gm_putZ, gm_putR, gm_new, gm_newarr, gm_iald, gm_cald, gm_zald, gm_lald, gm_aald, gm_iast, gm_cast, gm_zast, gm_last, gm_aast, gm_acp, gm_oinit, gm_back, gm_scall, gm_vcall, gm_iret, gm_zret, gm_cret, gm_lret, gm_aret, gm_vret, gm_slen, gm_schar, gm_sidx, gm_lget, gm_lset, gm_nl, gm_ent, gm_wd, gm_pop, gm_pad, gm_xl_c, gm_alen_u, gm_1_sF, gm_1_sA, gm_1_cp, gm_len_sF, gm_len_sA, gm_len_cp, Bool.or_true, Bool.true_or, gm_max_u, gm_min_u, gm_isO_sF, gm_isO_sA, gm_isO_cp, gm_gF_sF, gm_gF_sA, gm_gA_sF, gm_gA_sA, gm_gF_cp, gm_gA_cp, gm_add, gm_sub, gm_mul, gm_neg, ↓reduceIte, Nat.reduceAdd, Nat.reduceLeDiff, true_and, and_true, and_self, true_or, or_true, false_and, and_false, false_or, or_false, eq_self, Nat.reduceEqDiff, Int.reduceEq, Int.reduceLT, Int.reduceLE, Int.reduceNeg, Int.reduceAdd, Int.reduceSub, Int.reduceMul, Int.reduceDiv, Int.reduceMod, reduceCtorEq, if_true, if_false, gm_w_id, xX9_place_0, xX9_place_1, xX9_place_2, xX9_place_3, xX9_place_4, xX9_place_5, xX9_place_6, xX9_place_7, n1 101 (by decide) (by decide), n1 102 (by decide) (by decide), n1 103 (by decide) (by decide), n1 104 (by decide) (by decide), n1 105 (by decide) (by decide), n1 106 (by decide) (by decide), n1 107 (by decide) (by decide), n1 108 (by decide) (by decide), n1 109 (by decide) (by decide), n1 110 (by decide) (by decide), n1 111 (by decide) (by decide), n1 112 (by decide) (by decide), n1 113 (by decide) (by decide), n1 114 (by decide) (by decide), n1 115 (by decide) (by decide), n1 116 (by decide) (by decide), n1 117 (by decide) (by decide), n1 118 (by decide) (by decide)]
/-- a test; none: where it stops -/
theorem r_X9_takesTest {D : Nat} (hD : 4 ≤ D) {t : Int → Int} {n a1 k k2 c c2 : Int} {M0 : gm_M} (ha1 : 158 ≤ a1) (hT : gn_Tx t n M0) (hk : 0 ≤ k ∧ k2 ≤ 600 ∧ k2 ≤ k + 100) {W S : List Int} {p : Int} {M : gm_M} (h : gn_Mq a1 k k2 c c2 M0 M p W S) (hp : 0 ≤ p ∧ p ≤ n) (hb : k + (S.length : Int) + (W.length : Int) + (n - p) ≤ k2) :
    (∀ e q, gn_ts t n p = (some e, q) → ∃ M', gm_go D 116 [.inr (.inr 148)] M = some (some (.inl 1), M') ∧ gn_Mq a1 k k2 c c2 M0 M' q (gn_sw W) (S ++ gn_Xr e ++ gn_se W)) ∧
    ∀ q, gn_ts t n p = (none, q) → ∃ M', gm_go D 116 [.inr (.inr 148)] M = some (some (.inl 0), M') ∧ gn_Mw a1 k k2 c c2 M0 M' ∧ gm_gF M' 912 148 = q := by
  obtain ⟨d, rfl⟩ : ∃ g, D = g + 1 := ⟨D - 1, by omega⟩
  have hTx := h.1.Tx hT ha1
  have hn := hT.2.2.1
  have z148 := gm_z148 h.1.1
  have e0 := h.2.1
  have f0 := r_X9_next (D := d) (by omega) hTx e0 hp
  have b0 := gn_ch_b hTx hp.1
  have fp := r_X9_place (D := d) (by omega) M b0
  have hlb := gn_le_b (gn_ch t n p)
  unfold gn_ts
  rw [eX9_takesTest _ _ _ (Nat.le_of_ble_eq_true rfl)]
  by_cases c1 : gn_le (gn_ch t n p) < 0
  · rw [if_pos c1]
    refine ⟨fun e q h => by simp at h, fun q hq => ⟨M, ?_, h.1, ?_⟩⟩
    · generalize gn_le (gn_ch t n p) = l at *
      simp (config := { maxSteps := 2000000 }) (disch := first | omega | assumption | (simp only [gm_isO_sF, gm_isO_sA, gm_isO_cp]; assumption)) only [gm_push, gm_iload, gm_lload, gm_aload, gm_istore, gm_astore, gm_iinc, gm_op2, gm_quo, gm_op1, gm_lop2, gm_lshl, gm_i2l, gm_l2i, gm_lcmp, gm_dup, gm_pop1, gm_dup2, gm_goto, gm_ifeq, gm_ifne, gm_iflt, gm_ifge, gm_ifgt, gm_ifle, gm_ceq, gm_cne, gm_clt, gm_cge, gm_cgt, gm_cle, gm_ifnull, gm_ifnonnull, gm_swk, gm_switch, gm_getI, gm_getR, gm_putI, gm_putZ, gm_putR, gm_new, gm_newarr, gm_iald, gm_cald, gm_zald, gm_lald, gm_aald, gm_iast, gm_cast, gm_zast, gm_last, gm_aast, gm_acp, gm_oinit, gm_back, gm_scall, gm_vcall, gm_iret, gm_zret, gm_cret, gm_lret, gm_aret, gm_vret, gm_slen, gm_schar, gm_sidx, gm_lget, gm_lset, gm_nl, gm_ent, gm_wd, gm_pop, gm_pad, gm_xl_c, gm_alen_u, gm_1_sF, gm_1_sA, gm_1_cp, gm_len_sF, gm_len_sA, gm_len_cp, Bool.or_true, Bool.true_or, gm_max_u, gm_min_u, gm_isO_sF, gm_isO_sA, gm_isO_cp, gm_gF_sF, gm_gF_sA, gm_gA_sF, gm_gA_sA, gm_gF_cp, gm_gA_cp, gm_add, gm_sub, gm_mul, gm_neg, ↓reduceIte, Nat.reduceAdd, Nat.reduceLeDiff, true_and, and_true, and_self, true_or, or_true, false_and, and_false, false_or, or_false, eq_self, Nat.reduceEqDiff, Int.reduceEq, Int.reduceLT, Int.reduceLE, Int.reduceNeg, Int.reduceAdd, Int.reduceSub, Int.reduceMul, Int.reduceDiv, Int.reduceMod, reduceCtorEq, if_true, if_false, gm_w_id, xX9_takesTest_0, xX9_takesTest_1, xX9_takesTest_2, xX9_takesTest_3, z148, f0, fp, c1]
    · rw [e0]; exact (Prod.mk.inj hq).2
  · rw [if_neg c1]
    have p1 := gn_ch_lt (gn_le_0 (show 0 ≤ gn_le (gn_ch t n p) by omega))
    generalize gn_le (gn_ch t n p) = l at *
    have g1 : gn_Mw a1 k k2 c c2 M0 (gm_sF M 912 148 (p + 1)) := h.1.sF (by decide)
    have hT1 := g1.Tx hT ha1
    have f1 := r_X9_next (D := d) (by omega) hT1 (p := p + 1) rfl (by omega)
    have b1 := gn_ch_b hT1 (show 0 ≤ p + 1 by omega)
    obtain ⟨d, rfl⟩ : ∃ g, d = g + 1 := ⟨d - 1, by omega⟩
    have fi := r_X9_in d (gn_ch t n (p + 1)) 60 62 (gm_sF M 912 148 (p + 1)) ⟨by omega, by omega⟩ ⟨by decide, by decide⟩ ⟨by decide, by decide⟩
    by_cases y2 : 60 ≤ gn_ch t n (p + 1) ∧ gn_ch t n (p + 1) ≤ 62
    · rw [if_neg (fun z => z y2)]
      rw [if_pos y2] at fi
      have p2 := gn_ch_lt (show 0 ≤ gn_ch t n (p + 1) by omega)
      have r2 : p + 1 + 1 = p + 2 := by omega
      have g2 : gn_Mw a1 k k2 c c2 M0 (gm_sF M 912 148 (p + 2)) := h.1.sF (by decide)
      have f2 := r_X9_takesNumber (D := d + 1) (by omega) (g2.Tx hT ha1) (p := p + 2) rfl (by omega)
      have bn := gn_nm_b (t := t) (n := n) (p := p + 2) (by omega)
      generalize gn_ch t n (p + 1) = s at *
      generalize gn_nm t n (p + 2) = nm at *
      by_cases c3 : nm.1 < 0
      · rw [if_pos c3] at f2
        rw [if_pos c3]
        refine ⟨fun e q h => by simp at h, fun q hq => ⟨gm_sF M 912 148 (p + 2), ?_, g2, ?_⟩⟩
        · simp (config := { maxSteps := 2000000 }) (disch := first | omega | assumption | (simp only [gm_isO_sF, gm_isO_sA, gm_isO_cp]; assumption)) only [gm_push, gm_iload, gm_lload, gm_aload, gm_istore, gm_astore, gm_iinc, gm_op2, gm_quo, gm_op1, gm_lop2, gm_lshl, gm_i2l, gm_l2i, gm_lcmp, gm_dup, gm_pop1, gm_dup2, gm_goto, gm_ifeq, gm_ifne, gm_iflt, gm_ifge, gm_ifgt, gm_ifle, gm_ceq, gm_cne, gm_clt, gm_cge, gm_cgt, gm_cle, gm_ifnull, gm_ifnonnull, gm_swk, gm_switch, gm_getI, gm_getR, gm_putI, gm_putZ, gm_putR, gm_new, gm_newarr, gm_iald, gm_cald, gm_zald, gm_lald, gm_aald, gm_iast, gm_cast, gm_zast, gm_last, gm_aast, gm_acp, gm_oinit, gm_back, gm_scall, gm_vcall, gm_iret, gm_zret, gm_cret, gm_lret, gm_aret, gm_vret, gm_slen, gm_schar, gm_sidx, gm_lget, gm_lset, gm_nl, gm_ent, gm_wd, gm_pop, gm_pad, gm_xl_c, gm_alen_u, gm_1_sF, gm_1_sA, gm_1_cp, gm_len_sF, gm_len_sA, gm_len_cp, Bool.or_true, Bool.true_or, gm_max_u, gm_min_u, gm_isO_sF, gm_isO_sA, gm_isO_cp, gm_gF_sF, gm_gF_sA, gm_gA_sF, gm_gA_sA, gm_gF_cp, gm_gA_cp, gm_add, gm_sub, gm_mul, gm_neg, ↓reduceIte, Nat.reduceAdd, Nat.reduceLeDiff, true_and, and_true, and_self, true_or, or_true, false_and, and_false, false_or, or_false, eq_self, Nat.reduceEqDiff, Int.reduceEq, Int.reduceLT, Int.reduceLE, Int.reduceNeg, Int.reduceAdd, Int.reduceSub, Int.reduceMul, Int.reduceDiv, Int.reduceMod, reduceCtorEq, if_true, if_false, gm_w_id, xX9_takesTest_0, xX9_takesTest_1, xX9_takesTest_2, xX9_takesTest_3, z148, e0, f0, fp, c1, f1, fi, gn_sF_sF, r2, f2]
        · rw [gm_gF_sF, if_pos ⟨rfl, rfl⟩]; exact (Prod.mk.inj hq).2
      · rw [if_neg c3] at f2
        rw [if_neg c3]
        refine ⟨fun e q hq => ?_, fun q hq => by simp at hq⟩
        obtain ⟨he, rfl⟩ := Prod.mk.inj hq
        obtain rfl := Option.some.inj he
        obtain ⟨h1, h2, h3, h4, h5, h6, h7⟩ := h
        have hM : gn_Mq a1 k k2 c c2 M0 (gm_sF (gm_sF (gm_sF M 912 148 (p + 2)) 913 148 nm.1) 912 148 nm.2) nm.2 W S := ⟨((h1.sF (by decide)).sF (by decide)).sF (by decide), by rw [gm_gF_sF, if_pos ⟨rfl, rfl⟩], h3, h4, h5, h6, h7⟩
        have hl : 3 ≤ nm.2 - p := by have := bn.2.2.2.1 (by omega); omega
        have b3 := bn.2.2.1
        have e3 := r_X9_emits (D := d + 1) (by omega) (x := 1000 * l + 100 * (s - 60) + nm.1) hM.1.1 hM.2.2.1 (by omega)
        have hm := hM.em (x := 1000 * l + 100 * (s - 60) + nm.1) (by omega)
        obtain ⟨M', e4, h4'⟩ := r_X9_whole (D := d + 1) (by omega) hk hm (by simp; omega)
        refine ⟨M', ?_, h4'⟩
        have e913 : gm_gF (gm_sF (gm_sF (gm_sF M 912 148 (p + 2)) 913 148 nm.1) 912 148 nm.2) 913 148 = nm.1 := rfl
        simp (config := { maxSteps := 2000000 }) (disch := first | omega | assumption | (simp only [gm_isO_sF, gm_isO_sA, gm_isO_cp]; assumption)) only [gm_push, gm_iload, gm_lload, gm_aload, gm_istore, gm_astore, gm_iinc, gm_op2, gm_quo, gm_op1, gm_lop2, gm_lshl, gm_i2l, gm_l2i, gm_lcmp, gm_dup, gm_pop1, gm_dup2, gm_goto, gm_ifeq, gm_ifne, gm_iflt, gm_ifge, gm_ifgt, gm_ifle, gm_ceq, gm_cne, gm_clt, gm_cge, gm_cgt, gm_cle, gm_ifnull, gm_ifnonnull, gm_swk, gm_switch, gm_getI, gm_getR, gm_putI, gm_putZ, gm_putR, gm_new, gm_newarr, gm_iald, gm_cald, gm_zald, gm_lald, gm_aald, gm_iast, gm_cast, gm_zast, gm_last, gm_aast, gm_acp, gm_oinit, gm_back, gm_scall, gm_vcall, gm_iret, gm_zret, gm_cret, gm_lret, gm_aret, gm_vret, gm_slen, gm_schar, gm_sidx, gm_lget, gm_lset, gm_nl, gm_ent, gm_wd, gm_pop, gm_pad, gm_xl_c, gm_alen_u, gm_1_sF, gm_1_sA, gm_1_cp, gm_len_sF, gm_len_sA, gm_len_cp, Bool.or_true, Bool.true_or, gm_max_u, gm_min_u, gm_isO_sF, gm_isO_sA, gm_isO_cp, gm_gF_sF, gm_gF_sA, gm_gA_sF, gm_gA_sA, gm_gF_cp, gm_gA_cp, gm_add, gm_sub, gm_mul, gm_neg, ↓reduceIte, Nat.reduceAdd, Nat.reduceLeDiff, true_and, and_true, and_self, true_or, or_true, false_and, and_false, false_or, or_false, eq_self, Nat.reduceEqDiff, Int.reduceEq, Int.reduceLT, Int.reduceLE, Int.reduceNeg, Int.reduceAdd, Int.reduceSub, Int.reduceMul, Int.reduceDiv, Int.reduceMod, reduceCtorEq, if_true, if_false, gm_w_id, xX9_takesTest_0, xX9_takesTest_1, xX9_takesTest_2, xX9_takesTest_3, z148, e0, f0, fp, c1, f1, fi, gn_sF_sF, r2, f2, e913, e3, e4]
    · rw [if_pos y2]
      rw [if_neg y2] at fi
      refine ⟨fun e q h => by simp at h, fun q hq => ⟨gm_sF M 912 148 (p + 1), ?_, g1, ?_⟩⟩
      · generalize gn_ch t n (p + 1) = s at *
        simp (config := { maxSteps := 2000000 }) (disch := first | omega | assumption | (simp only [gm_isO_sF, gm_isO_sA, gm_isO_cp]; assumption)) only [gm_push, gm_iload, gm_lload, gm_aload, gm_istore, gm_astore, gm_iinc, gm_op2, gm_quo, gm_op1, gm_lop2, gm_lshl, gm_i2l, gm_l2i, gm_lcmp, gm_dup, gm_pop1, gm_dup2, gm_goto, gm_ifeq, gm_ifne, gm_iflt, gm_ifge, gm_ifgt, gm_ifle, gm_ceq, gm_cne, gm_clt, gm_cge, gm_cgt, gm_cle, gm_ifnull, gm_ifnonnull, gm_swk, gm_switch, gm_getI, gm_getR, gm_putI, gm_putZ, gm_putR, gm_new, gm_newarr, gm_iald, gm_cald, gm_zald, gm_lald, gm_aald, gm_iast, gm_cast, gm_zast, gm_last, gm_aast, gm_acp, gm_oinit, gm_back, gm_scall, gm_vcall, gm_iret, gm_zret, gm_cret, gm_lret, gm_aret, gm_vret, gm_slen, gm_schar, gm_sidx, gm_lget, gm_lset, gm_nl, gm_ent, gm_wd, gm_pop, gm_pad, gm_xl_c, gm_alen_u, gm_1_sF, gm_1_sA, gm_1_cp, gm_len_sF, gm_len_sA, gm_len_cp, Bool.or_true, Bool.true_or, gm_max_u, gm_min_u, gm_isO_sF, gm_isO_sA, gm_isO_cp, gm_gF_sF, gm_gF_sA, gm_gA_sF, gm_gA_sA, gm_gF_cp, gm_gA_cp, gm_add, gm_sub, gm_mul, gm_neg, ↓reduceIte, Nat.reduceAdd, Nat.reduceLeDiff, true_and, and_true, and_self, true_or, or_true, false_and, and_false, false_or, or_false, eq_self, Nat.reduceEqDiff, Int.reduceEq, Int.reduceLT, Int.reduceLE, Int.reduceNeg, Int.reduceAdd, Int.reduceSub, Int.reduceMul, Int.reduceDiv, Int.reduceMod, reduceCtorEq, if_true, if_false, gm_w_id, xX9_takesTest_0, xX9_takesTest_1, xX9_takesTest_2, xX9_takesTest_3, z148, e0, f0, fp, c1, f1, fi]
      · rw [gm_gF_sF, if_pos ⟨rfl, rfl⟩]; exact (Prod.mk.inj hq).2
