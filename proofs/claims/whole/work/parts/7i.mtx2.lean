/-! GROUND: the model reads a text whole -/
/-- clauses of the model from c on, their signs from k on -/
def gn_mcl (M : gm_M) : Int → Int → List (Int × Int × gn_X) → Prop
  | _, _, [] => True
  | c, k, x :: l => gn_mc1 M c k x ∧ gn_mcl M (c + 1) (k + gn_xk x) l
/-- what may have changed: as gn_Mw, and how many clauses f has -/
def gn_Mt (f k k2 c c2 : Int) (M0 M : gm_M) : Prop := gm_Lay M ∧ (∀ (g : Nat) (o : Int), ¬ (o = 148 ∧ (g = 912 ∨ g = 913 ∨ g = 922 ∨ g = 923 ∨ g = 924)) → gm_gF M g o = gm_gF M0 g o) ∧ ∀ a i : Int, a ≠ 163 → ¬ (a = 162 ∧ k ≤ i ∧ i < k2) → ¬ ((158 ≤ a ∧ a ≤ 161) ∧ c ≤ i ∧ i < c2) → ¬ (a = 157 ∧ i = f) → gm_gA M a i = gm_gA M0 a i
theorem gn_Mw.t {f k k2 c c2 : Int} {M0 M : gm_M} (h : gn_Mw 158 k k2 c c2 M0 M) : gn_Mt f k k2 c c2 M0 M := ⟨h.1, h.2.1, fun a i y1 y2 y3 _ => h.2.2 a i y1 y2 y3⟩
theorem gn_Mt.tr {f k k2 c c2 j j2 e e2 : Int} {M0 M1 M2 : gm_M} (h : gn_Mt f k k2 c c2 M0 M1) (g : gn_Mt f j j2 e e2 M1 M2) (hj : k ≤ j ∧ j2 ≤ k2) (he : c ≤ e ∧ e2 ≤ c2) : gn_Mt f k k2 c c2 M0 M2 := ⟨g.1, fun f o y => (g.2.1 f o y).trans (h.2.1 f o y), fun a i y1 y2 y3 y4 => (g.2.2 a i y1 (by omega) (by omega) y4).trans (h.2.2 a i y1 y2 y3 y4)⟩
theorem gn_Mt.Tx {f k k2 c c2 n : Int} {t : Int → Int} {M0 M : gm_M} (g : gn_Mt f k k2 c c2 M0 M) (h : gn_Tx t n M0) : gn_Tx t n M := ⟨g.1, (g.2.1 911 148 (by decide)).trans h.2.1, h.2.2.1, fun i i1 i2 => by rw [g.2.2 156 i (by decide) (by omega) (by omega) (by omega)]; exact h.2.2.2.1 i i1 i2, fun i i1 i2 => by rw [g.2.2 164 i (by decide) (by omega) (by omega) (by omega)]; exact h.2.2.2.2 i i1 i2⟩
theorem gn_Mt.s7 {f k k2 c c2 v : Int} {M0 M : gm_M} (g : gn_Mt f k k2 c c2 M0 M) : gn_Mt f k k2 c c2 M0 (gm_sA M 157 f v) := ⟨g.1.sA _ _ _ (by decide), g.2.1, fun a j y1 y2 y3 y4 => by
  rw [gm_gA_sA, if_neg (by omega)]
  exact g.2.2 a j y1 y2 y3 y4⟩
theorem gn_Mt.sF {f k k2 c c2 v : Int} {M0 M : gm_M} (g : gn_Mt f k k2 c c2 M0 M) {h : Nat} (hf : h = 912 ∨ h = 913 ∨ h = 922 ∨ h = 923 ∨ h = 924) : gn_Mt f k k2 c c2 M0 (gm_sF M h 148 v) := ⟨g.1.sF _ _ _ (by rcases hf with rfl | rfl | rfl | rfl | rfl <;> decide), fun f' o y => by
  rw [gm_gF_sF, if_neg (by omega)]
  exact g.2.1 f' o y, g.2.2⟩
theorem gn_mc1.e {M M1 : gm_M} {c k f k' k2 c' c2 : Int} {x : Int × Int × gn_X} (hx : gn_okx x.2.2) (h : gn_mc1 M c k x) (g : gn_Mt f k' k2 c' c2 M M1) (hc : c < c') (hk : k + gn_xk x ≤ k') : gn_mc1 M1 c k x := by
  obtain ⟨h1, h2, h3⟩ := h
  have hX := hx.2.2.1
  refine ⟨by rw [g.2.2 158 c (by decide) (by omega) (by omega) (by omega)]; exact h1, by rw [g.2.2 159 c (by decide) (by omega) (by omega) (by omega)]; exact h2, fun z => ?_⟩
  obtain ⟨h4, h5, h6⟩ := h3 z
  unfold gn_xk at hk
  rw [if_pos z] at hk
  refine ⟨by rw [g.2.2 160 c (by decide) (by omega) (by omega) (by omega)]; exact h4, by rw [g.2.2 161 c (by decide) (by omega) (by omega) (by omega)]; exact h5, gn_at_e (fun i i1 i2 => ?_) h6⟩
  exact g.2.2 162 i (by decide) (by omega) (by omega) (by omega)
theorem gn_mc1.s7 {M : gm_M} {c k f v : Int} {x : Int × Int × gn_X} (h : gn_mc1 M c k x) : gn_mc1 (gm_sA M 157 f v) c k x := by
  obtain ⟨h1, h2, h3⟩ := h
  refine ⟨by rw [gm_gA_sA, if_neg (by omega)]; exact h1, by rw [gm_gA_sA, if_neg (by omega)]; exact h2, fun z => ?_⟩
  obtain ⟨h4, h5, h6⟩ := h3 z
  exact ⟨by rw [gm_gA_sA, if_neg (by omega)]; exact h4, by rw [gm_gA_sA, if_neg (by omega)]; exact h5, gn_at_e (fun i i1 i2 => by rw [gm_gA_sA, if_neg (by omega)]) h6⟩
theorem r_X9_goesText_loop {d : Nat} (hd : 6 ≤ d) {t : Int → Int} {n f : Int} (hf : 0 ≤ f ∧ f ≤ 5) : ∀ (k : Nat) (j p s : Int) (F : Nat) (M : gm_M), j + 1 + k = 10 → 0 ≤ j → 4 * k + 6 ≤ F → gn_Tx t n M → gm_gF M 912 148 = p → gm_gF M 922 148 = s → (0 ≤ p ∧ p ≤ n) → 100 * f ≤ s → s + (n - p) ≤ 100 * f + 100 →
    ∃ M', gm_ex (gm_go d) qX9_goesText F 2 [some (.inr (.inr 148)), some (.inl f), some (.inl j)] [] M = some (some (.inl (gn_ok2 (gn_tll t n k p).1)), M') ∧ gn_Mt f s (100 * f + 100) (10 * f + j + 1) (10 * f + 10) M M' ∧ gm_gF M' 912 148 = (gn_tll t n k p).2 ∧ ∀ l, (gn_tll t n k p).1 = some l → gm_gA M' 157 f = j + 1 + (l.length : Int) ∧ (l.length : Int) ≤ k ∧ gn_mcl M' (10 * f + j + 1) s l ∧ ∀ x ∈ l, (0 ≤ x.1 ∧ x.1 ≤ 3) ∧ (0 ≤ x.2.1 ∧ x.2.1 ≤ 99) ∧ gn_okx x.2.2 := by
  intro k
  induction k with
  | zero =>
    intro j p s F M hj h0 hF hT e912 e922 hp hs1 hs2
    obtain ⟨F, rfl⟩ : ∃ g, F = g + 4 := ⟨F - 4, by omega⟩
    have hj9 : j = 9 := by omega
    subst hj9
    have z148 := gm_z148 hT.1
    have z157 := gm_z157 hT.1
    have l915 := gm_l915 hT.1
    have hin := gn_i157 M hf.1 (by omega : f < 6)
    have e911 := hT.2.1
    have hn := hT.2.2.1
    have hM : gn_Mt f s (100 * f + 100) (10 * f + 9 + 1) (10 * f + 10) M (gm_sA M 157 f 10) := (gn_Mw.t (gn_Mw.rf hT.1)).s7
    refine ⟨gm_sA M 157 f 10, ?_, hM, ?_, fun l hl => ?_⟩
    · unfold gn_tll
      rw [xX9_goesText_2]
      by_cases c : p = n
      · rw [if_pos c]
        subst c
        simp (config := { maxSteps := 2000000 }) (disch := first | omega | assumption | (simp only [gm_isO_sF, gm_isO_sA, gm_isO_cp]; assumption)) only [gm_push, gm_iload, gm_lload, gm_aload, gm_istore, gm_astore, gm_iinc, gm_op2, gm_quo, gm_op1, gm_lop2, gm_lshl, gm_i2l, gm_l2i, gm_lcmp, gm_dup, gm_pop1, gm_dup2, gm_goto, gm_ifeq, gm_ifne, gm_iflt, gm_ifge, gm_ifgt, gm_ifle, gm_ceq, gm_cne, gm_clt, gm_cge, gm_cgt, gm_cle, gm_ifnull, gm_ifnonnull, gm_swk, gm_switch, gm_getI, gm_getR, gm_putI, gm_putZ, gm_putR, gm_new, gm_newarr, gm_iald, gm_cald, gm_zald, gm_lald, gm_aald, gm_iast, gm_cast, gm_zast, gm_last, gm_aast, gm_acp, gm_oinit, gm_back, gm_scall, gm_vcall, gm_iret, gm_zret, gm_cret, gm_lret, gm_aret, gm_vret, gm_slen, gm_schar, gm_sidx, gm_lget, gm_lset, gm_nl, gm_ent, gm_wd, gm_pop, gm_pad, gm_xl_c, gm_alen_u, gm_1_sF, gm_1_sA, gm_1_cp, gm_len_sF, gm_len_sA, gm_len_cp, Bool.or_true, Bool.true_or, gm_max_u, gm_min_u, gm_isO_sF, gm_isO_sA, gm_isO_cp, gm_gF_sF, gm_gF_sA, gm_gA_sF, gm_gA_sA, gm_gF_cp, gm_gA_cp, gm_add, gm_sub, gm_mul, gm_neg, ↓reduceIte, Nat.reduceAdd, Nat.reduceLeDiff, true_and, and_true, and_self, true_or, or_true, false_and, and_false, false_or, or_false, eq_self, Nat.reduceEqDiff, Int.reduceEq, Int.reduceLT, Int.reduceLE, Int.reduceNeg, Int.reduceAdd, Int.reduceSub, Int.reduceMul, Int.reduceDiv, Int.reduceMod, reduceCtorEq, if_true, if_false, gm_w_id, z148, z157, l915, hin, e911, e912, gn_ok2]
      · rw [if_neg c]
        simp (config := { maxSteps := 2000000 }) (disch := first | omega | assumption | (simp only [gm_isO_sF, gm_isO_sA, gm_isO_cp]; assumption)) only [gm_push, gm_iload, gm_lload, gm_aload, gm_istore, gm_astore, gm_iinc, gm_op2, gm_quo, gm_op1, gm_lop2, gm_lshl, gm_i2l, gm_l2i, gm_lcmp, gm_dup, gm_pop1, gm_dup2, gm_goto, gm_ifeq, gm_ifne, gm_iflt, gm_ifge, gm_ifgt, gm_ifle, gm_ceq, gm_cne, gm_clt, gm_cge, gm_cgt, gm_cle, gm_ifnull, gm_ifnonnull, gm_swk, gm_switch, gm_getI, gm_getR, gm_putI, gm_putZ, gm_putR, gm_new, gm_newarr, gm_iald, gm_cald, gm_zald, gm_lald, gm_aald, gm_iast, gm_cast, gm_zast, gm_last, gm_aast, gm_acp, gm_oinit, gm_back, gm_scall, gm_vcall, gm_iret, gm_zret, gm_cret, gm_lret, gm_aret, gm_vret, gm_slen, gm_schar, gm_sidx, gm_lget, gm_lset, gm_nl, gm_ent, gm_wd, gm_pop, gm_pad, gm_xl_c, gm_alen_u, gm_1_sF, gm_1_sA, gm_1_cp, gm_len_sF, gm_len_sA, gm_len_cp, Bool.or_true, Bool.true_or, gm_max_u, gm_min_u, gm_isO_sF, gm_isO_sA, gm_isO_cp, gm_gF_sF, gm_gF_sA, gm_gA_sF, gm_gA_sA, gm_gF_cp, gm_gA_cp, gm_add, gm_sub, gm_mul, gm_neg, ↓reduceIte, Nat.reduceAdd, Nat.reduceLeDiff, true_and, and_true, and_self, true_or, or_true, false_and, and_false, false_or, or_false, eq_self, Nat.reduceEqDiff, Int.reduceEq, Int.reduceLT, Int.reduceLE, Int.reduceNeg, Int.reduceAdd, Int.reduceSub, Int.reduceMul, Int.reduceDiv, Int.reduceMod, reduceCtorEq, if_true, if_false, gm_w_id, xX9_goesText_3, xX9_goesText_4, z148, z157, l915, hin, e911, e912, c, gn_ok2]
    · have e3 : (gn_tll t n 0 p).2 = p := by unfold gn_tll; split <;> rfl
      rw [e3]; exact e912
    · have e4 : l = [] := by
        unfold gn_tll at hl
        by_cases c : p = n
        · rw [if_pos c] at hl; exact (Option.some.inj hl).symm
        · rw [if_neg c] at hl; simp at hl
      subst e4
      exact ⟨by rw [gm_gA_sA, if_pos ⟨rfl, rfl⟩]; rfl, by simp, trivial, fun x hx => by simp at hx⟩
  | succ k ih =>
    intro j p s F M hj h0 hF hT e912 e922 hp hs1 hs2
    obtain ⟨F, rfl⟩ : ∃ g, F = g + 5 := ⟨F - 5, by omega⟩
    have z148 := gm_z148 hT.1
    have z157 := gm_z157 hT.1
    have l915 := gm_l915 hT.1
    have hin := gn_i157 M hf.1 (by omega : f < 6)
    have e911 := hT.2.1
    have hn := hT.2.2.1
    have j10 : ¬ j + 1 = 10 := by omega
    obtain ⟨M1, eM1⟩ : ∃ M1, M1 = gm_sA M 157 f (j + 1) := ⟨_, rfl⟩
    have hM : gn_Mt f s (100 * f + 100) (10 * f + j + 1) (10 * f + 10) M M1 := by rw [eM1]; exact (gn_Mw.t (gn_Mw.rf hT.1)).s7
    have hT1 := hM.Tx hT
    have u912 : gm_gF M1 912 148 = p := by rw [eM1]; exact e912
    have u922 : gm_gF M1 922 148 = s := by rw [eM1]; exact e922
    have u157 : gm_gA M1 157 f = j + 1 := by rw [eM1, gm_gA_sA, if_pos ⟨rfl, rfl⟩]
    have y148 := gm_z148 hT1.1
    have e911' := hT1.2.1
    by_cases c1 : p = n
    · have et : gn_tll t n (k + 1) p = (some [], p) := by unfold gn_tll; rw [if_pos c1]
      rw [et]
      refine ⟨M1, ?_, hM, u912, fun l hl => ?_⟩
      · rw [xX9_goesText_2]
        subst c1
        simp (config := { maxSteps := 2000000 }) (disch := first | omega | assumption | (simp only [gm_isO_sF, gm_isO_sA, gm_isO_cp]; assumption)) only [gm_push, gm_iload, gm_lload, gm_aload, gm_istore, gm_astore, gm_iinc, gm_op2, gm_quo, gm_op1, gm_lop2, gm_lshl, gm_i2l, gm_l2i, gm_lcmp, gm_dup, gm_pop1, gm_dup2, gm_goto, gm_ifeq, gm_ifne, gm_iflt, gm_ifge, gm_ifgt, gm_ifle, gm_ceq, gm_cne, gm_clt, gm_cge, gm_cgt, gm_cle, gm_ifnull, gm_ifnonnull, gm_swk, gm_switch, gm_getI, gm_getR, gm_putI, gm_putZ, gm_putR, gm_new, gm_newarr, gm_iald, gm_cald, gm_zald, gm_lald, gm_aald, gm_iast, gm_cast, gm_zast, gm_last, gm_aast, gm_acp, gm_oinit, gm_back, gm_scall, gm_vcall, gm_iret, gm_zret, gm_cret, gm_lret, gm_aret, gm_vret, gm_slen, gm_schar, gm_sidx, gm_lget, gm_lset, gm_nl, gm_ent, gm_wd, gm_pop, gm_pad, gm_xl_c, gm_alen_u, gm_1_sF, gm_1_sA, gm_1_cp, gm_len_sF, gm_len_sA, gm_len_cp, Bool.or_true, Bool.true_or, gm_max_u, gm_min_u, gm_isO_sF, gm_isO_sA, gm_isO_cp, gm_gF_sF, gm_gF_sA, gm_gA_sF, gm_gA_sA, gm_gF_cp, gm_gA_cp, gm_add, gm_sub, gm_mul, gm_neg, ↓reduceIte, Nat.reduceAdd, Nat.reduceLeDiff, true_and, and_true, and_self, true_or, or_true, false_and, and_false, false_or, or_false, eq_self, Nat.reduceEqDiff, Int.reduceEq, Int.reduceLT, Int.reduceLE, Int.reduceNeg, Int.reduceAdd, Int.reduceSub, Int.reduceMul, Int.reduceDiv, Int.reduceMod, reduceCtorEq, if_true, if_false, gm_w_id, z148, z157, l915, hin, ← eM1, y148, e911', u912, gn_ok2]
      · obtain rfl := Option.some.inj hl
        exact ⟨by rw [u157]; simp, by simp; omega, trivial, fun x hx => by simp at hx⟩
    · have htk := r_X9_takes (D := d) (by omega) hT1 u912 hp (s := 59) (by decide)
      have e0 : ∀ R, gm_ex (gm_go d) qX9_goesText (F + 4) 3 [some (.inr (.inr 148)), some (.inl f), some (.inl (j + 1))] [] M1 = R → gm_ex (gm_go d) qX9_goesText (F + 5) 2 [some (.inr (.inr 148)), some (.inl f), some (.inl j)] [] M = R := fun R hR => by
        rw [← hR, xX9_goesText_2]
        simp (config := { maxSteps := 2000000 }) (disch := first | omega | assumption | (simp only [gm_isO_sF, gm_isO_sA, gm_isO_cp]; assumption)) only [gm_push, gm_iload, gm_lload, gm_aload, gm_istore, gm_astore, gm_iinc, gm_op2, gm_quo, gm_op1, gm_lop2, gm_lshl, gm_i2l, gm_l2i, gm_lcmp, gm_dup, gm_pop1, gm_dup2, gm_goto, gm_ifeq, gm_ifne, gm_iflt, gm_ifge, gm_ifgt, gm_ifle, gm_ceq, gm_cne, gm_clt, gm_cge, gm_cgt, gm_cle, gm_ifnull, gm_ifnonnull, gm_swk, gm_switch, gm_getI, gm_getR, gm_putI, gm_putZ, gm_putR, gm_new, gm_newarr, gm_iald, gm_cald, gm_zald, gm_lald, gm_aald, gm_iast, gm_cast, gm_zast, gm_last, gm_aast, gm_acp, gm_oinit, gm_back, gm_scall, gm_vcall, gm_iret, gm_zret, gm_cret, gm_lret, gm_aret, gm_vret, gm_slen, gm_schar, gm_sidx, gm_lget, gm_lset, gm_nl, gm_ent, gm_wd, gm_pop, gm_pad, gm_xl_c, gm_alen_u, gm_1_sF, gm_1_sA, gm_1_cp, gm_len_sF, gm_len_sA, gm_len_cp, Bool.or_true, Bool.true_or, gm_max_u, gm_min_u, gm_isO_sF, gm_isO_sA, gm_isO_cp, gm_gF_sF, gm_gF_sA, gm_gA_sF, gm_gA_sA, gm_gF_cp, gm_gA_cp, gm_add, gm_sub, gm_mul, gm_neg, ↓reduceIte, Nat.reduceAdd, Nat.reduceLeDiff, true_and, and_true, and_self, true_or, or_true, false_and, and_false, false_or, or_false, eq_self, Nat.reduceEqDiff, Int.reduceEq, Int.reduceLT, Int.reduceLE, Int.reduceNeg, Int.reduceAdd, Int.reduceSub, Int.reduceMul, Int.reduceDiv, Int.reduceMod, reduceCtorEq, if_true, if_false, gm_w_id, z148, z157, l915, hin, ← eM1, y148, e911', u912, c1]
      by_cases c2 : gn_ch t n p = 59
      · rw [if_pos c2] at htk
        have p1 := gn_ch_lt (t := t) (n := n) (p := p) (by omega)
        have hM2 := hM.sF (h := 912) (v := p + 1) (by decide)
        have hT2 := hM2.Tx hT
        rcases hcl : gn_cl t n (p + 1) with ⟨r, q⟩
        obtain ⟨M3, e3, g3, q3, r3⟩ := r_X9_takesClause (D := d) (by omega) (c := 10 * f + (j + 1)) (by omega) hT2 (p := p + 1) rfl u922 (k2 := 100 * f + 100) (by omega) (by omega) (by omega) hcl
        have hcb := gn_cl_b (t := t) hn.2 (show 0 ≤ p + 1 by omega) (show p + 1 ≤ n by omega)
        rw [hcl] at hcb
        obtain ⟨b1, b2, b3⟩ := hcb
        simp only at b1 b2
        have hM3 := hM2.tr (gn_Mw.t (f := f) g3) ⟨Int.le_refl _, Int.le_refl _⟩ ⟨by omega, by omega⟩
        rcases r with _ | x
        · have et : gn_tll t n (k + 1) p = (none, q) := by unfold gn_tll; rw [if_neg c1, if_neg (fun z => z c2), hcl]
          rw [et]
          refine ⟨M3, e0 _ ?_, hM3, q3, fun l hl => by simp at hl⟩
          rw [xX9_goesText_3]
          simp (config := { maxSteps := 2000000 }) (disch := first | omega | assumption | (simp only [gm_isO_sF, gm_isO_sA, gm_isO_cp]; assumption)) only [gm_push, gm_iload, gm_lload, gm_aload, gm_istore, gm_astore, gm_iinc, gm_op2, gm_quo, gm_op1, gm_lop2, gm_lshl, gm_i2l, gm_l2i, gm_lcmp, gm_dup, gm_pop1, gm_dup2, gm_goto, gm_ifeq, gm_ifne, gm_iflt, gm_ifge, gm_ifgt, gm_ifle, gm_ceq, gm_cne, gm_clt, gm_cge, gm_cgt, gm_cle, gm_ifnull, gm_ifnonnull, gm_swk, gm_switch, gm_getI, gm_getR, gm_putI, gm_putZ, gm_putR, gm_new, gm_newarr, gm_iald, gm_cald, gm_zald, gm_lald, gm_aald, gm_iast, gm_cast, gm_zast, gm_last, gm_aast, gm_acp, gm_oinit, gm_back, gm_scall, gm_vcall, gm_iret, gm_zret, gm_cret, gm_lret, gm_aret, gm_vret, gm_slen, gm_schar, gm_sidx, gm_lget, gm_lset, gm_nl, gm_ent, gm_wd, gm_pop, gm_pad, gm_xl_c, gm_alen_u, gm_1_sF, gm_1_sA, gm_1_cp, gm_len_sF, gm_len_sA, gm_len_cp, Bool.or_true, Bool.true_or, gm_max_u, gm_min_u, gm_isO_sF, gm_isO_sA, gm_isO_cp, gm_gF_sF, gm_gF_sA, gm_gA_sF, gm_gA_sA, gm_gF_cp, gm_gA_cp, gm_add, gm_sub, gm_mul, gm_neg, ↓reduceIte, Nat.reduceAdd, Nat.reduceLeDiff, true_and, and_true, and_self, true_or, or_true, false_and, and_false, false_or, or_false, eq_self, Nat.reduceEqDiff, Int.reduceEq, Int.reduceLT, Int.reduceLE, Int.reduceNeg, Int.reduceAdd, Int.reduceSub, Int.reduceMul, Int.reduceDiv, Int.reduceMod, reduceCtorEq, if_true, if_false, gm_w_id, xX9_goesText_1, y148, j10, htk, e3, gn_ok2]
        · obtain ⟨d1, d2, d3, d4, d5⟩ := b3 x rfl
          obtain ⟨s1, s2⟩ := r3 x rfl
          have hxk : 0 ≤ gn_xk x ∧ gn_xk x + 5 ≤ q - (p + 1) := by
            have := d3.1
            unfold gn_xk
            simp only at d4 d5
            by_cases z : x.1 ≤ 1
            · rw [if_pos z]; have := d5 z; omega
            · rw [if_neg z]; omega
          obtain ⟨M4, e4, g4, q4, r4⟩ := ih (j + 1) q (s + gn_xk x) (F + 2) M3 (by omega) (by omega) (by omega) (hM3.Tx hT) q3 s1 (by omega) (by omega) (by omega)
          have e5 : gm_ex (gm_go d) qX9_goesText (F + 4) 3 [some (.inr (.inr 148)), some (.inl f), some (.inl (j + 1))] [] M1 = gm_ex (gm_go d) qX9_goesText (F + 2) 2 [some (.inr (.inr 148)), some (.inl f), some (.inl (j + 1))] [] M3 := by
            rw [xX9_goesText_3]
            simp (config := { maxSteps := 2000000 }) (disch := first | omega | assumption | (simp only [gm_isO_sF, gm_isO_sA, gm_isO_cp]; assumption)) only [gm_push, gm_iload, gm_lload, gm_aload, gm_istore, gm_astore, gm_iinc, gm_op2, gm_quo, gm_op1, gm_lop2, gm_lshl, gm_i2l, gm_l2i, gm_lcmp, gm_dup, gm_pop1, gm_dup2, gm_goto, gm_ifeq, gm_ifne, gm_iflt, gm_ifge, gm_ifgt, gm_ifle, gm_ceq, gm_cne, gm_clt, gm_cge, gm_cgt, gm_cle, gm_ifnull, gm_ifnonnull, gm_swk, gm_switch, gm_getI, gm_getR, gm_putI, gm_putZ, gm_putR, gm_new, gm_newarr, gm_iald, gm_cald, gm_zald, gm_lald, gm_aald, gm_iast, gm_cast, gm_zast, gm_last, gm_aast, gm_acp, gm_oinit, gm_back, gm_scall, gm_vcall, gm_iret, gm_zret, gm_cret, gm_lret, gm_aret, gm_vret, gm_slen, gm_schar, gm_sidx, gm_lget, gm_lset, gm_nl, gm_ent, gm_wd, gm_pop, gm_pad, gm_xl_c, gm_alen_u, gm_1_sF, gm_1_sA, gm_1_cp, gm_len_sF, gm_len_sA, gm_len_cp, Bool.or_true, Bool.true_or, gm_max_u, gm_min_u, gm_isO_sF, gm_isO_sA, gm_isO_cp, gm_gF_sF, gm_gF_sA, gm_gA_sF, gm_gA_sA, gm_gF_cp, gm_gA_cp, gm_add, gm_sub, gm_mul, gm_neg, ↓reduceIte, Nat.reduceAdd, Nat.reduceLeDiff, true_and, and_true, and_self, true_or, or_true, false_and, and_false, false_or, or_false, eq_self, Nat.reduceEqDiff, Int.reduceEq, Int.reduceLT, Int.reduceLE, Int.reduceNeg, Int.reduceAdd, Int.reduceSub, Int.reduceMul, Int.reduceDiv, Int.reduceMod, reduceCtorEq, if_true, if_false, gm_w_id, xX9_goesText_1, y148, j10, htk, e3, gn_ok2]
          have g5 := hM3.tr g4 ⟨by omega, by omega⟩ ⟨by omega, by omega⟩
          rcases hy : gn_tll t n k q with ⟨_ | l, q2⟩
          · have et : gn_tll t n (k + 1) p = (none, q2) := by unfold gn_tll; rw [if_neg c1, if_neg (fun z => z c2), hcl]; simp only [hy]
            rw [hy] at e4 q4
            rw [et]
            exact ⟨M4, e0 _ (e5.trans e4), g5, q4, fun l hl => by simp at hl⟩
          · have et : gn_tll t n (k + 1) p = (some (x :: l), q2) := by unfold gn_tll; rw [if_neg c1, if_neg (fun z => z c2), hcl]; simp only [hy]
            rw [hy] at e4 q4 r4
            rw [et]
            refine ⟨M4, e0 _ (e5.trans e4), g5, q4, fun l' hl => ?_⟩
            obtain rfl := Option.some.inj hl
            obtain ⟨w1, w2, w3, w4⟩ := r4 l rfl
            refine ⟨by rw [w1]; simp; omega, by simp; omega, ⟨?_, ?_⟩, fun y hy => ?_⟩
            · have s2' := s2.e d3 g4 (by omega) (Int.le_refl _)
              rw [show 10 * f + j + 1 = 10 * f + (j + 1) by omega]
              exact s2'
            · rw [show 10 * f + j + 1 + 1 = 10 * f + (j + 1) + 1 by omega]
              exact w3
            · rcases List.mem_cons.mp hy with rfl | hy
              · exact ⟨d1, d2, d3⟩
              · exact w4 y hy
      · rw [if_neg c2] at htk
        have et : gn_tll t n (k + 1) p = (none, p) := by unfold gn_tll; rw [if_neg c1, if_pos c2]
        rw [et]
        refine ⟨M1, e0 _ ?_, hM, u912, fun l hl => by simp at hl⟩
        rw [xX9_goesText_3]
        simp (config := { maxSteps := 2000000 }) (disch := first | omega | assumption | (simp only [gm_isO_sF, gm_isO_sA, gm_isO_cp]; assumption)) only [gm_push, gm_iload, gm_lload, gm_aload, gm_istore, gm_astore, gm_iinc, gm_op2, gm_quo, gm_op1, gm_lop2, gm_lshl, gm_i2l, gm_l2i, gm_lcmp, gm_dup, gm_pop1, gm_dup2, gm_goto, gm_ifeq, gm_ifne, gm_iflt, gm_ifge, gm_ifgt, gm_ifle, gm_ceq, gm_cne, gm_clt, gm_cge, gm_cgt, gm_cle, gm_ifnull, gm_ifnonnull, gm_swk, gm_switch, gm_getI, gm_getR, gm_putI, gm_putZ, gm_putR, gm_new, gm_newarr, gm_iald, gm_cald, gm_zald, gm_lald, gm_aald, gm_iast, gm_cast, gm_zast, gm_last, gm_aast, gm_acp, gm_oinit, gm_back, gm_scall, gm_vcall, gm_iret, gm_zret, gm_cret, gm_lret, gm_aret, gm_vret, gm_slen, gm_schar, gm_sidx, gm_lget, gm_lset, gm_nl, gm_ent, gm_wd, gm_pop, gm_pad, gm_xl_c, gm_alen_u, gm_1_sF, gm_1_sA, gm_1_cp, gm_len_sF, gm_len_sA, gm_len_cp, Bool.or_true, Bool.true_or, gm_max_u, gm_min_u, gm_isO_sF, gm_isO_sA, gm_isO_cp, gm_gF_sF, gm_gF_sA, gm_gA_sF, gm_gA_sA, gm_gF_cp, gm_gA_cp, gm_add, gm_sub, gm_mul, gm_neg, ↓reduceIte, Nat.reduceAdd, Nat.reduceLeDiff, true_and, and_true, and_self, true_or, or_true, false_and, and_false, false_or, or_false, eq_self, Nat.reduceEqDiff, Int.reduceEq, Int.reduceLT, Int.reduceLE, Int.reduceNeg, Int.reduceAdd, Int.reduceSub, Int.reduceMul, Int.reduceDiv, Int.reduceMod, reduceCtorEq, if_true, if_false, gm_w_id, xX9_goesText_4, y148, j10, htk, gn_ok2]
theorem r_X9_goesText {D : Nat} (hD : 7 ≤ D) {t : Int → Int} {n f : Int} {M : gm_M} (hf : 0 ≤ f ∧ f ≤ 5) (hT : gn_Tx t n M) :
    ∃ M', gm_go D 120 [.inr (.inr 148), .inl f] M = some (some (.inl (gn_ok2 (gn_tx t n).1)), M') ∧ gn_Mt f (100 * f) (100 * f + 100) (10 * f) (10 * f + 10) M M' ∧ gm_gF M' 912 148 = (gn_tx t n).2 ∧ ∀ l, (gn_tx t n).1 = some l → gm_gA M' 157 f = (l.length : Int) ∧ (1 ≤ l.length ∧ l.length ≤ 10) ∧ gn_mcl M' (10 * f) (100 * f) l ∧ ∀ x ∈ l, (0 ≤ x.1 ∧ x.1 ≤ 3) ∧ (0 ≤ x.2.1 ∧ x.2.1 ≤ 99) ∧ gn_okx x.2.2 := by
  obtain ⟨d, rfl⟩ : ∃ g, D = g + 1 := ⟨D - 1, by omega⟩
  have z148 := gm_z148 hT.1
  have hn := hT.2.2.1
  have hM : gn_Mt f (100 * f) (100 * f + 100) (10 * f) (10 * f + 10) M (gm_sF (gm_sF M 912 148 0) 922 148 (100 * f)) := ((gn_Mw.t (gn_Mw.rf hT.1)).sF (by decide)).sF (by decide)
  have hT2 := hM.Tx hT
  rcases hcl : gn_cl t n 0 with ⟨r, q⟩
  obtain ⟨M3, e3, g3, q3, r3⟩ := r_X9_takesClause (D := d) (by omega) (c := 10 * f) (by omega) hT2 (p := 0) rfl (k := 100 * f) rfl (k2 := 100 * f + 100) (by omega) (by omega) (by omega) hcl
  have hcb := gn_cl_b (t := t) hn.2 (Int.le_refl 0) hn.1
  rw [hcl] at hcb
  obtain ⟨b1, b2, b3⟩ := hcb
  simp only at b1 b2
  have hM3 := hM.tr (gn_Mw.t (f := f) g3) ⟨Int.le_refl _, Int.le_refl _⟩ ⟨by omega, by omega⟩
  rcases r with _ | x
  · have et : gn_tx t n = (none, q) := by unfold gn_tx; rw [hcl]
    rw [et]
    refine ⟨M3, ?_, hM3, q3, fun l hl => by simp at hl⟩
    rw [eX9_goesText _ _ _ (Nat.le_of_ble_eq_true rfl)]
    simp (config := { maxSteps := 2000000 }) (disch := first | omega | assumption | (simp only [gm_isO_sF, gm_isO_sA, gm_isO_cp]; assumption)) only [gm_push, gm_iload, gm_lload, gm_aload, gm_istore, gm_astore, gm_iinc, gm_op2, gm_quo, gm_op1, gm_lop2, gm_lshl, gm_i2l, gm_l2i, gm_lcmp, gm_dup, gm_pop1, gm_dup2, gm_goto, gm_ifeq, gm_ifne, gm_iflt, gm_ifge, gm_ifgt, gm_ifle, gm_ceq, gm_cne, gm_clt, gm_cge, gm_cgt, gm_cle, gm_ifnull, gm_ifnonnull, gm_swk, gm_switch, gm_getI, gm_getR, gm_putI, gm_putZ, gm_putR, gm_new, gm_newarr, gm_iald, gm_cald, gm_zald, gm_lald, gm_aald, gm_iast, gm_cast, gm_zast, gm_last, gm_aast, gm_acp, gm_oinit, gm_back, gm_scall, gm_vcall, gm_iret, gm_zret, gm_cret, gm_lret, gm_aret, gm_vret, gm_slen, gm_schar, gm_sidx, gm_lget, gm_lset, gm_nl, gm_ent, gm_wd, gm_pop, gm_pad, gm_xl_c, gm_alen_u, gm_1_sF, gm_1_sA, gm_1_cp, gm_len_sF, gm_len_sA, gm_len_cp, Bool.or_true, Bool.true_or, gm_max_u, gm_min_u, gm_isO_sF, gm_isO_sA, gm_isO_cp, gm_gF_sF, gm_gF_sA, gm_gA_sF, gm_gA_sA, gm_gF_cp, gm_gA_cp, gm_add, gm_sub, gm_mul, gm_neg, ↓reduceIte, Nat.reduceAdd, Nat.reduceLeDiff, true_and, and_true, and_self, true_or, or_true, false_and, and_false, false_or, or_false, eq_self, Nat.reduceEqDiff, Int.reduceEq, Int.reduceLT, Int.reduceLE, Int.reduceNeg, Int.reduceAdd, Int.reduceSub, Int.reduceMul, Int.reduceDiv, Int.reduceMod, reduceCtorEq, if_true, if_false, gm_w_id, xX9_goesText_0, xX9_goesText_1, z148, Int.add_zero, e3, gn_ok2]
  · obtain ⟨d1, d2, d3, d4, d5⟩ := b3 x rfl
    obtain ⟨s1, s2⟩ := r3 x rfl
    have hxk : 0 ≤ gn_xk x ∧ gn_xk x + 5 ≤ q := by
      have := d3.1
      unfold gn_xk
      simp only at d4 d5
      by_cases z : x.1 ≤ 1
      · rw [if_pos z]; have := d5 z; omega
      · rw [if_neg z]; omega
    obtain ⟨M4, e4, g4, q4, r4⟩ := r_X9_goesText_loop (d := d) (by omega) hf 9 0 q (100 * f + gn_xk x) 99998 M3 (by decide) (by decide) (by decide) (hM3.Tx hT) q3 s1 (by omega) (by omega) (by omega)
    have e5 : gm_go (d + 1) 120 [.inr (.inr 148), .inl f] M = gm_ex (gm_go d) qX9_goesText 99998 2 [some (.inr (.inr 148)), some (.inl f), some (.inl 0)] [] M3 := by
      rw [eX9_goesText _ _ _ (Nat.le_of_ble_eq_true rfl)]
      simp (config := { maxSteps := 2000000 }) (disch := first | omega | assumption | (simp only [gm_isO_sF, gm_isO_sA, gm_isO_cp]; assumption)) only [gm_push, gm_iload, gm_lload, gm_aload, gm_istore, gm_astore, gm_iinc, gm_op2, gm_quo, gm_op1, gm_lop2, gm_lshl, gm_i2l, gm_l2i, gm_lcmp, gm_dup, gm_pop1, gm_dup2, gm_goto, gm_ifeq, gm_ifne, gm_iflt, gm_ifge, gm_ifgt, gm_ifle, gm_ceq, gm_cne, gm_clt, gm_cge, gm_cgt, gm_cle, gm_ifnull, gm_ifnonnull, gm_swk, gm_switch, gm_getI, gm_getR, gm_putI, gm_putZ, gm_putR, gm_new, gm_newarr, gm_iald, gm_cald, gm_zald, gm_lald, gm_aald, gm_iast, gm_cast, gm_zast, gm_last, gm_aast, gm_acp, gm_oinit, gm_back, gm_scall, gm_vcall, gm_iret, gm_zret, gm_cret, gm_lret, gm_aret, gm_vret, gm_slen, gm_schar, gm_sidx, gm_lget, gm_lset, gm_nl, gm_ent, gm_wd, gm_pop, gm_pad, gm_xl_c, gm_alen_u, gm_1_sF, gm_1_sA, gm_1_cp, gm_len_sF, gm_len_sA, gm_len_cp, Bool.or_true, Bool.true_or, gm_max_u, gm_min_u, gm_isO_sF, gm_isO_sA, gm_isO_cp, gm_gF_sF, gm_gF_sA, gm_gA_sF, gm_gA_sA, gm_gF_cp, gm_gA_cp, gm_add, gm_sub, gm_mul, gm_neg, ↓reduceIte, Nat.reduceAdd, Nat.reduceLeDiff, true_and, and_true, and_self, true_or, or_true, false_and, and_false, false_or, or_false, eq_self, Nat.reduceEqDiff, Int.reduceEq, Int.reduceLT, Int.reduceLE, Int.reduceNeg, Int.reduceAdd, Int.reduceSub, Int.reduceMul, Int.reduceDiv, Int.reduceMod, reduceCtorEq, if_true, if_false, gm_w_id, xX9_goesText_0, xX9_goesText_1, z148, Int.add_zero, e3, gn_ok2]
    have g5 := hM3.tr g4 ⟨by omega, by omega⟩ ⟨by omega, by omega⟩
    rw [e5]
    rcases hy : gn_tll t n 9 q with ⟨_ | l, q2⟩
    · have et : gn_tx t n = (none, q2) := by unfold gn_tx; rw [hcl]; simp only [hy]
      rw [hy] at e4 q4
      rw [et]
      exact ⟨M4, e4, g5, q4, fun l hl => by simp at hl⟩
    · have et : gn_tx t n = (some (x :: l), q2) := by unfold gn_tx; rw [hcl]; simp only [hy]
      rw [hy] at e4 q4 r4
      rw [et]
      refine ⟨M4, e4, g5, q4, fun l' hl => ?_⟩
      obtain rfl := Option.some.inj hl
      obtain ⟨w1, w2, w3, w4⟩ := r4 l rfl
      refine ⟨by rw [w1]; simp; omega, ⟨by simp, by simp; omega⟩, ⟨?_, ?_⟩, fun y hy => ?_⟩
      · exact s2.e d3 g4 (by omega) (Int.le_refl _)
      · rw [show 10 * f + 1 = 10 * f + 0 + 1 by omega]
        exact w3
      · rcases List.mem_cons.mp hy with rfl | hy
        · exact ⟨d1, d2, d3⟩
        · exact w4 y hy
