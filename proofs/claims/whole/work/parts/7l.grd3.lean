/-! STEP: ground -/
theorem gn_mcl_e {M M1 : gm_M} (h : ∀ a i : Int, gm_gA M1 a i = gm_gA M a i) : ∀ (l : List gn_Cz) (c k : Int), gn_mcl M c k l → gn_mcl M1 c k l
  | [], _, _, _ => trivial
  | x :: l, c, k, ⟨h1, h2⟩ => ⟨by
    have e : gm_gA M1 = gm_gA M := funext fun a => funext fun i => h a i
    unfold gn_mc1 at *
    rw [e]
    exact h1, gn_mcl_e h l _ _ h2⟩
theorem gn_rws.e {M M1 : gm_M} {c a : Int} {S : List (Int × Int)} (hF : ∀ f, gm_gF M1 f c = gm_gF M f c) (hA : ∀ i, gm_gA M1 (c + 1) i = gm_gA M (c + 1) i ∧ gm_gA M1 (c + 2) i = gm_gA M (c + 2) i) (h : gn_rws M c S a) : gn_rws M1 c S a := ⟨(hF 2).trans h.1, (hF 3).trans h.2.1, fun i i1 i2 => by rw [(hA i).1, (hA i).2]; exact h.2.2 i i1 i2⟩
/-- all but ground k and the reader's and the parser's own -/
def gn_GFr (k : Int) (M M2 : gm_M) : Prop := gm_Lay M2 ∧ (∀ (f : Nat) (o : Int), ¬ (o = 81 ∧ (f = 401 ∨ f = 402)) → ¬ (94 + 7 * k ≤ o ∧ o ≤ 94 + 7 * k + 6) → ¬ (o = 148 ∧ (f = 909 ∨ f = 910 ∨ f = 911 ∨ f = 912 ∨ f = 913 ∨ f = 922 ∨ f = 923 ∨ f = 924)) → ¬ (o = 2 ∧ f = 703) → ¬ (o = 1 ∧ f = 810) → gm_gF M2 f o = gm_gF M f o) ∧ ∀ a i : Int, ¬ (94 + 7 * k ≤ a ∧ a ≤ 94 + 7 * k + 6) → a ≠ 163 → ¬ (a = 162 ∧ 100 * k ≤ i ∧ i < 100 * k + 100) → ¬ ((158 ≤ a ∧ a ≤ 161) ∧ 10 * k ≤ i ∧ i < 10 * k + 10) → ¬ (a = 157 ∧ i = k) → gm_gA M2 a i = gm_gA M a i
theorem gn_GFr.gok {k g : Int} {M M2 : gm_M} (h : gn_GFr k M M2) (hk : 0 ≤ k ∧ k ≤ 5) (g1 : 0 ≤ g) (g2 : g < k) (hg : gn_gok M g) : gn_gok M2 g := hg.fr g1 g2 hk.2 (fun f o z => h.2.1 f o (by omega) (by omega) (by omega) (by omega) (by omega)) (fun a i z => h.2.2 a i (by omega) (by omega) (by omega) (by omega) (by omega)) (h.2.2 157 g (by omega) (by decide) (by omega) (by omega) (by omega)) (fun a i z1 z2 z3 => h.2.2 a i (by omega) (by omega) (by omega) (by omega) (by omega)) (fun i z => h.2.2 162 i (by omega) (by decide) (by omega) (by omega) (by omega))
/-- a text that was none -/
theorem gn_Inv.no {k : Int} {M M2 : gm_M} (hI : gn_Inv M) (hk : k = gm_gF M 810 1) (hk6 : 0 ≤ k ∧ k ≤ 5) (h : gn_GFr k M M2) (h0 : gm_gF M2 401 81 = 0) (h1 : gm_gF M2 911 148 = 0) (h2 : gm_gF M2 810 1 = gm_gF M 810 1) (h3 : gm_gF M2 909 148 = gm_gF M 909 148) (h4 : gm_gF M2 910 148 = gm_gF M 910 148) (h5 : gm_gF M2 703 2 = gm_gF M 703 2) : gn_Inv M2 := by
  have F : ∀ (f : Nat) (o : Int), ¬ (o = 81 ∧ (f = 401 ∨ f = 402)) → ¬ (94 + 7 * k ≤ o ∧ o ≤ 94 + 7 * k + 6) → ¬ (o = 148 ∧ (f = 911 ∨ f = 912 ∨ f = 913 ∨ f = 922 ∨ f = 923 ∨ f = 924)) → gm_gF M2 f o = gm_gF M f o := fun f o y1 y2 y3 => by
    by_cases z1 : o = 2 ∧ f = 703
    · rw [z1.1, z1.2]; exact h5
    · by_cases z2 : o = 1 ∧ f = 810
      · rw [z2.1, z2.2]; exact h2
      · by_cases z3 : o = 148 ∧ f = 909
        · rw [z3.1, z3.2]; exact h3
        · by_cases z4 : o = 148 ∧ f = 910
          · rw [z4.1, z4.2]; exact h4
          · exact h.2.1 f o y1 y2 (by omega) z1 z2
  have A := h.2.2
  obtain ⟨g0, g1, g2, g3, g4, g5, g6, g7, g8⟩ := hI
  obtain ⟨x1, x2⟩ := gn_W0 (M1 := M2) h2 ⟨fun f o z => by simp only [gn_U] at z; exact F f o (by omega) (by omega) (by omega), fun a i z => by simp only [gn_V] at z; exact A a i (by omega) (by omega) (by omega) (by omega) (by omega)⟩ ⟨g1, g2⟩
  refine ⟨h.1, x1, x2, ⟨⟨by rw [h3, h2]; exact g3.1.1, by rw [h2]; exact g3.1.2⟩, ?_, fun g z1 z2 => h.gok hk6 z1 (by rw [h2] at z2; omega) (g3.2.2 g z1 (by rw [h2] at z2; exact z2))⟩, ⟨by rw [h0, h1], by rw [h0]; decide, fun i i1 i2 => by rw [h0] at i2; omega⟩, ?_, ?_, ?_, ?_⟩
  · rw [F 2 84 (by omega) (by omega) (by omega), F 3 84 (by omega) (by omega) (by omega), F 2 87 (by omega) (by omega) (by omega), F 3 87 (by omega) (by omega) (by omega), F 102 83 (by omega) (by omega) (by omega), F 103 83 (by omega) (by omega) (by omega)]
    exact g3.2.1
  · exact gn_W3 ⟨fun f o z => by simp only [gn_U] at z; exact F f o (by omega) (by omega) (by omega), fun a i z => by simp only [gn_V] at z; exact A a i (by omega) (by omega) (by omega) (by omega) (by omega)⟩ g5
  · exact gn_W4 ⟨fun f o z => by simp only [gn_U] at z; exact F f o (by omega) (by omega) (by omega), fun a i z => by simp only [gn_V] at z; exact A a i (by omega) (by omega) (by omega) (by omega) (by omega)⟩ g6
  · exact gn_W5 h2 ⟨fun f o z => by simp only [gn_U] at z; exact F f o (by omega) (by omega) (by omega), fun a i z => by simp only [gn_V] at z; exact A a i (by omega) (by omega) (by omega) (by omega) (by omega)⟩ g7
  · exact gn_W6 ⟨fun f o z => by simp only [gn_U] at z; exact F f o (by omega) (by omega) (by omega), fun a i z => by simp only [gn_V] at z; exact A a i (by omega) (by omega) (by omega) (by omega) (by omega)⟩ g8
/-- a ground more -/
theorem gn_Inv.yes {k : Int} {M M2 : gm_M} (hI : gn_Inv M) (hk : k = gm_gF M 810 1) (hk6 : 0 ≤ k ∧ k ≤ 5) (h : gn_GFr k M M2) (h0 : gm_gF M2 401 81 = 0) (h1 : gm_gF M2 911 148 = 0) (h2 : gm_gF M2 810 1 = k + 1) (h3 : gm_gF M2 909 148 = k + 1) (h4 : gm_gF M2 910 148 = k) (h5 : gm_gF M2 703 2 = k) (hgk : gn_gok M2 k) : gn_Inv M2 := by
  have A := h.2.2
  have F := h.2.1
  obtain ⟨N, hN⟩ : ∃ N, N = gm_sF (gm_sF (gm_sF (gm_sF M2 703 2 (gm_gF M 703 2)) 810 1 (gm_gF M 810 1)) 910 148 (gm_gF M 910 148)) 909 148 (gm_gF M 909 148) := ⟨_, rfl⟩
  have FN : ∀ (f : Nat) (o : Int), ¬ (o = 81 ∧ (f = 401 ∨ f = 402)) → ¬ (94 + 7 * k ≤ o ∧ o ≤ 94 + 7 * k + 6) → ¬ (o = 148 ∧ (f = 911 ∨ f = 912 ∨ f = 913 ∨ f = 922 ∨ f = 923 ∨ f = 924)) → gm_gF N f o = gm_gF M f o := fun f o y1 y2 y3 => by
    rw [hN, gm_gF_sF, gm_gF_sF, gm_gF_sF, gm_gF_sF]
    by_cases z3 : f = 909 ∧ o = 148
    · rw [if_pos z3, z3.1, z3.2]
    · rw [if_neg z3]
      by_cases z4 : f = 910 ∧ o = 148
      · rw [if_pos z4, z4.1, z4.2]
      · rw [if_neg z4]
        by_cases z2 : f = 810 ∧ o = 1
        · rw [if_pos z2, z2.1, z2.2]
        · rw [if_neg z2]
          by_cases z1 : f = 703 ∧ o = 2
          · rw [if_pos z1, z1.1, z1.2]
          · rw [if_neg z1]
            exact F f o y1 y2 (by omega) (by omega) (by omega)
  have AN : ∀ a i : Int, gm_gA N a i = gm_gA M2 a i := fun a i => by rw [hN]; rfl
  have n2 : gm_gF N 810 1 = gm_gF M 810 1 := FN 810 1 (by omega) (by omega) (by omega)
  obtain ⟨g0, g1, g2, g3, g4, g5, g6, g7, g8⟩ := hI
  obtain ⟨x1, x2⟩ := gn_W0 (M1 := N) n2 ⟨fun f o z => by simp only [gn_U] at z; exact FN f o (by omega) (by omega) (by omega), fun a i z => by simp only [gn_V] at z; rw [AN]; exact A a i (by omega) (by omega) (by omega) (by omega) (by omega)⟩ ⟨g1, g2⟩
  have x5 := gn_W5 (M1 := N) n2 ⟨fun f o z => by simp only [gn_U] at z; exact FN f o (by omega) (by omega) (by omega), fun a i z => by simp only [gn_V] at z; rw [AN]; exact A a i (by omega) (by omega) (by omega) (by omega) (by omega)⟩ g7
  have u : ∀ (f : Nat) (o : Int), f ≠ 703 → f ≠ 810 → f ≠ 910 → f ≠ 909 → gm_gF N f o = gm_gF M2 f o := fun f o y1 y2 y3 y4 => by
    rw [hN, gm_gF_sF, gm_gF_sF, gm_gF_sF, gm_gF_sF, if_neg (fun z => y4 z.1), if_neg (fun z => y3 z.1), if_neg (fun z => y2 z.1), if_neg (fun z => y1 z.1)]
  have u7 : gm_gF N 703 26 = gm_gF M2 703 26 := by
    rw [hN, gm_gF_sF, gm_gF_sF, gm_gF_sF, gm_gF_sF, if_neg (by omega), if_neg (by omega), if_neg (by omega), if_neg (by omega)]
  refine ⟨h.1, ?_, ?_, ⟨⟨by rw [h3, h2], by rw [h2]; omega⟩, ?_, fun g z1 z2 => ?_⟩, ⟨by rw [h0, h1], by rw [h0]; decide, fun i i1 i2 => by rw [h0] at i2; omega⟩, ?_, ?_, ?_, ?_⟩
  · unfold gn_TI at x1 ⊢
    simp only [u 200 _ (by decide) (by decide) (by decide) (by decide), u 201 _ (by decide) (by decide) (by decide) (by decide), u 202 _ (by decide) (by decide) (by decide) (by decide), u 203 _ (by decide) (by decide) (by decide) (by decide), u 204 _ (by decide) (by decide) (by decide) (by decide), u 500 _ (by decide) (by decide) (by decide) (by decide), u 501 _ (by decide) (by decide) (by decide) (by decide), u 502 _ (by decide) (by decide) (by decide) (by decide), u 701 _ (by decide) (by decide) (by decide) (by decide), u 702 _ (by decide) (by decide) (by decide) (by decide), u 707 _ (by decide) (by decide) (by decide) (by decide), u 709 _ (by decide) (by decide) (by decide) (by decide), AN] at x1
    obtain ⟨a1, a2, a3, a4⟩ := x1
    exact ⟨a1, a2, by rw [h5, h2]; omega, a4⟩
  · unfold gn_TR at x2 ⊢
    simp only [u 201 _ (by decide) (by decide) (by decide) (by decide), u 202 _ (by decide) (by decide) (by decide) (by decide), u 203 _ (by decide) (by decide) (by decide) (by decide), u 204 _ (by decide) (by decide) (by decide) (by decide), u 500 _ (by decide) (by decide) (by decide) (by decide), u 502 _ (by decide) (by decide) (by decide) (by decide), u 701 _ (by decide) (by decide) (by decide) (by decide), u 702 _ (by decide) (by decide) (by decide) (by decide), u 707 _ (by decide) (by decide) (by decide) (by decide), u 709 _ (by decide) (by decide) (by decide) (by decide), u 900 _ (by decide) (by decide) (by decide) (by decide), u 901 _ (by decide) (by decide) (by decide) (by decide), u 935 _ (by decide) (by decide) (by decide) (by decide), u 939 _ (by decide) (by decide) (by decide) (by decide), AN] at x2
    obtain ⟨⟨a1, a2, a3, a4, a5⟩, b⟩ := x2
    exact ⟨⟨a1, a2, by rw [h4, h5], a4, a5⟩, b⟩
  · rw [← u 2 84 (by decide) (by decide) (by decide) (by decide), ← u 3 84 (by decide) (by decide) (by decide) (by decide), ← u 2 87 (by decide) (by decide) (by decide) (by decide), ← u 3 87 (by decide) (by decide) (by decide) (by decide), ← u 102 83 (by decide) (by decide) (by decide) (by decide), ← u 103 83 (by decide) (by decide) (by decide) (by decide), FN 2 84 (by omega) (by omega) (by omega), FN 3 84 (by omega) (by omega) (by omega), FN 2 87 (by omega) (by omega) (by omega), FN 3 87 (by omega) (by omega) (by omega), FN 102 83 (by omega) (by omega) (by omega), FN 103 83 (by omega) (by omega) (by omega)]
    exact g3.2.1
  · rw [h2] at z2
    by_cases y : g = k
    · rw [y]; exact hgk
    · exact h.gok hk6 z1 (by omega) (g3.2.2 g z1 (by omega))
  · exact gn_W3 ⟨fun f o z => by simp only [gn_U] at z; exact F f o (by omega) (by omega) (by omega) (by omega) (by omega), fun a i z => by simp only [gn_V] at z; exact A a i (by omega) (by omega) (by omega) (by omega) (by omega)⟩ g5
  · exact gn_W4 ⟨fun f o z => by simp only [gn_U] at z; exact F f o (by omega) (by omega) (by omega) (by omega) (by omega), fun a i z => by simp only [gn_V] at z; exact A a i (by omega) (by omega) (by omega) (by omega) (by omega)⟩ g6
  · unfold gn_MI gn_TI gn_TR at x5
    unfold gn_MI gn_TI gn_TR
    simp only [u 200 _ (by decide) (by decide) (by decide) (by decide), u 201 _ (by decide) (by decide) (by decide) (by decide), u 202 _ (by decide) (by decide) (by decide) (by decide), u 203 _ (by decide) (by decide) (by decide) (by decide), u 204 _ (by decide) (by decide) (by decide) (by decide), u 500 _ (by decide) (by decide) (by decide) (by decide), u 501 _ (by decide) (by decide) (by decide) (by decide), u 502 _ (by decide) (by decide) (by decide) (by decide), u 701 _ (by decide) (by decide) (by decide) (by decide), u 702 _ (by decide) (by decide) (by decide) (by decide), u 707 _ (by decide) (by decide) (by decide) (by decide), u 709 _ (by decide) (by decide) (by decide) (by decide), u 802 _ (by decide) (by decide) (by decide) (by decide), u 941 _ (by decide) (by decide) (by decide) (by decide), u 942 _ (by decide) (by decide) (by decide) (by decide), u 943 _ (by decide) (by decide) (by decide) (by decide), u 944 _ (by decide) (by decide) (by decide) (by decide), u 945 _ (by decide) (by decide) (by decide) (by decide), u 946 _ (by decide) (by decide) (by decide) (by decide), u7, n2, AN] at x5
    refine ⟨x5.1, ?_⟩
    rcases x5.2 with y | ⟨y1, ⟨a1, a2, a3, a4⟩, y3⟩
    · exact Or.inl y
    · exact Or.inr ⟨y1, ⟨a1, a2, by rw [h2]; omega, a4⟩, y3⟩
  · exact gn_W6 ⟨fun f o z => by simp only [gn_U] at z; exact F f o (by omega) (by omega) (by omega) (by omega) (by omega), fun a i z => by simp only [gn_V] at z; exact A a i (by omega) (by omega) (by omega) (by omega) (by omega)⟩ g8
theorem s_ground (M : gm_M) (d : Nat) (xs : Int → Int) (Ln : Int) (hI : gn_Inv M) (hp : gm_pu xs Ln M) : ∃ x M1 M2, gm_go (d + 40) 59 [.inr (.inr 1)] M = some (some (.inl x), M1) ∧ gm_go (d + 40) 121 [.inr (.inr 148)] M1 = some (some (.inl x), M2) ∧ gn_Inv M2 ∧ gm_pu xs Ln M2 := by
  have hL := hI.L
  have z1 := gm_z1 hL
  have z148 := gm_z148 hL
  have l809 := gm_l809 hL
  have l807 := gm_l807 hL
  have z90 := gm_z90 hL
  have y90 := gm_y90 M
  have z81 := gm_z81 hL
  have ha3 := gm_alen_k 25 (by decide)
  obtain ⟨⟨q1, q2, q3⟩, q4, q5⟩ := hI.2.2.2.1
  obtain ⟨t1, t2, t3⟩ := hI.2.2.2.2.1
  obtain ⟨v1, v2, v3, v4, v5⟩ := hI.2.2.2.2.2.2.2.2
  obtain ⟨k, hk⟩ : ∃ k, gm_gF M 810 1 = k := ⟨_, rfl⟩
  obtain ⟨n, hn⟩ : ∃ n, gm_gF M 401 81 = n := ⟨_, rfl⟩
  rw [hk] at q1 q2 q3
  rw [hn] at t1 t2
  by_cases c6 : k = 6
  · subst c6
    refine ⟨-4, M, M, ?_, ?_, hI, hp⟩
    · rw [eX8_ground _ _ _ (Nat.le_of_ble_eq_true rfl)]
      simp (config := { maxSteps := 2000000 }) (disch := first | omega | assumption | (simp only [gm_isO_sF, gm_isO_sA, gm_isO_cp]; assumption)) only [gm_push, gm_iload, gm_lload, gm_aload, gm_istore, gm_astore, gm_iinc, gm_op2, gm_quo, gm_op1, gm_lop2, gm_lshl, gm_i2l, gm_l2i, gm_lcmp, gm_dup, gm_pop1, gm_dup2, gm_goto, gm_ifeq, gm_ifne, gm_iflt, gm_ifge, gm_ifgt, gm_ifle, gm_ceq, gm_cne, gm_clt, gm_cge, gm_cgt, gm_cle, gm_ifnull, gm_ifnonnull, gm_swk, gm_switch, gm_getI, gm_getR, gm_putI, gm_putZ, gm_putR, gm_new, gm_newarr, gm_iald, gm_cald, gm_zald, gm_lald, gm_aald, gm_iast, gm_cast, gm_zast, gm_last, gm_aast, gm_acp, gm_oinit, gm_back, gm_scall, gm_vcall, gm_iret, gm_zret, gm_cret, gm_lret, gm_aret, gm_vret, gm_slen, gm_schar, gm_sidx, gm_lget, gm_lset, gm_nl, gm_ent, gm_wd, gm_pop, gm_pad, gm_xl_c, gm_alen_u, gm_1_sF, gm_1_sA, gm_1_cp, gm_len_sF, gm_len_sA, gm_len_cp, Bool.or_true, Bool.true_or, gm_max_u, gm_min_u, gm_isO_sF, gm_isO_sA, gm_isO_cp, gm_gF_sF, gm_gF_sA, gm_gA_sF, gm_gA_sA, gm_gF_cp, gm_gA_cp, gm_add, gm_sub, gm_mul, gm_neg, ↓reduceIte, Nat.reduceAdd, Nat.reduceLeDiff, true_and, and_true, and_self, true_or, or_true, false_and, and_false, false_or, or_false, eq_self, Nat.reduceEqDiff, Int.reduceEq, Int.reduceLT, Int.reduceLE, Int.reduceNeg, Int.reduceAdd, Int.reduceSub, Int.reduceMul, Int.reduceDiv, Int.reduceMod, reduceCtorEq, if_true, if_false, gm_w_id, xX8_ground_0, xX8_ground_1, xX8_ground_2, z1, l809, z90, y90, ha3, hk]
    · rw [eX9_ground _ _ _ (Nat.le_of_ble_eq_true rfl)]
      simp (config := { maxSteps := 2000000 }) (disch := first | omega | assumption | (simp only [gm_isO_sF, gm_isO_sA, gm_isO_cp]; assumption)) only [gm_push, gm_iload, gm_lload, gm_aload, gm_istore, gm_astore, gm_iinc, gm_op2, gm_quo, gm_op1, gm_lop2, gm_lshl, gm_i2l, gm_l2i, gm_lcmp, gm_dup, gm_pop1, gm_dup2, gm_goto, gm_ifeq, gm_ifne, gm_iflt, gm_ifge, gm_ifgt, gm_ifle, gm_ceq, gm_cne, gm_clt, gm_cge, gm_cgt, gm_cle, gm_ifnull, gm_ifnonnull, gm_swk, gm_switch, gm_getI, gm_getR, gm_putI, gm_putZ, gm_putR, gm_new, gm_newarr, gm_iald, gm_cald, gm_zald, gm_lald, gm_aald, gm_iast, gm_cast, gm_zast, gm_last, gm_aast, gm_acp, gm_oinit, gm_back, gm_scall, gm_vcall, gm_iret, gm_zret, gm_cret, gm_lret, gm_aret, gm_vret, gm_slen, gm_schar, gm_sidx, gm_lget, gm_lset, gm_nl, gm_ent, gm_wd, gm_pop, gm_pad, gm_xl_c, gm_alen_u, gm_1_sF, gm_1_sA, gm_1_cp, gm_len_sF, gm_len_sA, gm_len_cp, Bool.or_true, Bool.true_or, gm_max_u, gm_min_u, gm_isO_sF, gm_isO_sA, gm_isO_cp, gm_gF_sF, gm_gF_sA, gm_gA_sF, gm_gA_sA, gm_gF_cp, gm_gA_cp, gm_add, gm_sub, gm_mul, gm_neg, ↓reduceIte, Nat.reduceAdd, Nat.reduceLeDiff, true_and, and_true, and_self, true_or, or_true, false_and, and_false, false_or, or_false, eq_self, Nat.reduceEqDiff, Int.reduceEq, Int.reduceLT, Int.reduceLE, Int.reduceNeg, Int.reduceAdd, Int.reduceSub, Int.reduceMul, Int.reduceDiv, Int.reduceMod, reduceCtorEq, if_true, if_false, gm_w_id, xX9_ground_0, xX9_ground_1, xX9_ground_2, z148, q1]
  · have k6 : k < 6 := by omega
    obtain ⟨a90, o90⟩ := gm_a90 hL q2 k6
    have in90 := gm_inI (M := M) y90 (i := k) q2 k6 (by decide)
    have hg : 94 ≤ 94 + 7 * k ∧ 94 + 7 * k ≤ 129 := by omega
    have hR : gn_Rd (gm_gA M 82) n 0 (gm_sF M 402 81 0) := ⟨hL.sF _ _ _ (by decide), hn, rfl, t2, ⟨Int.le_refl 0, t2.1⟩, fun i i1 i2 => ⟨rfl, (t3 i i1 (by rw [hn]; exact i2)).2⟩⟩
    obtain ⟨Mc, e1, g1, g2⟩ := r_X4_fill (D := d + 39) (by omega) hL rfl hR o90 hg
    have fin := fun (M' : gm_M) => r_X9_goesText (D := d + 39) (t := gm_gA M 82) (n := n) (f := k) (M := M') (by omega) (by omega)
    -- between the halves
    have mid : ∀ M1, gm_Lay M1 → gm_gF M1 911 148 = gm_gF Mc 911 148 → (∀ a i, gm_gA M1 a i = gm_gA Mc a i) → gn_Tx (gm_gA M 82) n M1 := fun M1 hL1 hf ha => ⟨hL1, by rw [hf, g1.2.2.1 911 148 (by omega) (by omega)]; exact t1, t2, fun i i1 i2 => by
      have y := t3 i i1 (by rw [hn]; exact i2)
      rw [ha, g1.2.2.2 156 i (by omega)]
      exact ⟨y.1, y.2⟩, fun i i1 i2 => by rw [ha, g1.2.2.2 164 i (by omega)]; exact v5 i i1 i2⟩
    have hLc : gm_Lay (gm_sF Mc 401 81 0) := g1.1.sF _ _ _ (by decide)
    rcases htx : gn_tx (gm_gA M 82) n with ⟨_ | l, q⟩
    · rw [htx] at e1 g1 fin
      have hb : 0 ≤ q ∧ q ≤ n := by
        have := gn_tx_p (t := gm_gA M 82) t2
        rw [htx] at this
        exact this
      have e1' : gm_go (d + 39) 27 [.inr (.inr 81), .inr (.inr (94 + 7 * k))] M = some (some (.inl q), gm_sF Mc 401 81 0) := e1
      have hT1 := mid (gm_sF Mc 401 81 0) hLc (by rw [gm_gF_sF, if_neg (by decide)]) (fun a i => rfl)
      obtain ⟨Mm, e2, h1, h2, -⟩ := fin _ hT1
      have hL2 := h1.1
      have zm := gm_z148 hT1.1
      have zm2 := gm_z148 hL2
      have f909 : gm_gF (gm_sF Mc 401 81 0) 909 148 = k := by rw [gm_gF_sF, if_neg (by decide), g1.2.2.1 909 148 (by omega) (by omega)]; exact q1
      have c6' : ¬ k = 6 := c6
      refine ⟨-10 - q, gm_sF Mc 401 81 0, gm_sF Mm 911 148 0, ?_, ?_, ?_, ?_⟩
      · rw [eX8_ground _ _ _ (Nat.le_of_ble_eq_true rfl)]
        have q0 : ¬ q < 0 := by omega
        simp (config := { maxSteps := 2000000 }) (disch := first | omega | assumption | (simp only [gm_isO_sF, gm_isO_sA, gm_isO_cp]; assumption)) only [gm_push, gm_iload, gm_lload, gm_aload, gm_istore, gm_astore, gm_iinc, gm_op2, gm_quo, gm_op1, gm_lop2, gm_lshl, gm_i2l, gm_l2i, gm_lcmp, gm_dup, gm_pop1, gm_dup2, gm_goto, gm_ifeq, gm_ifne, gm_iflt, gm_ifge, gm_ifgt, gm_ifle, gm_ceq, gm_cne, gm_clt, gm_cge, gm_cgt, gm_cle, gm_ifnull, gm_ifnonnull, gm_swk, gm_switch, gm_getI, gm_getR, gm_putI, gm_putZ, gm_putR, gm_new, gm_newarr, gm_iald, gm_cald, gm_zald, gm_lald, gm_aald, gm_iast, gm_cast, gm_zast, gm_last, gm_aast, gm_acp, gm_oinit, gm_back, gm_scall, gm_vcall, gm_iret, gm_zret, gm_cret, gm_lret, gm_aret, gm_vret, gm_slen, gm_schar, gm_sidx, gm_lget, gm_lset, gm_nl, gm_ent, gm_wd, gm_pop, gm_pad, gm_xl_c, gm_alen_u, gm_1_sF, gm_1_sA, gm_1_cp, gm_len_sF, gm_len_sA, gm_len_cp, Bool.or_true, Bool.true_or, gm_max_u, gm_min_u, gm_isO_sF, gm_isO_sA, gm_isO_cp, gm_gF_sF, gm_gF_sA, gm_gA_sF, gm_gA_sA, gm_gF_cp, gm_gA_cp, gm_add, gm_sub, gm_mul, gm_neg, ↓reduceIte, Nat.reduceAdd, Nat.reduceLeDiff, true_and, and_true, and_self, true_or, or_true, false_and, and_false, false_or, or_false, eq_self, Nat.reduceEqDiff, Int.reduceEq, Int.reduceLT, Int.reduceLE, Int.reduceNeg, Int.reduceAdd, Int.reduceSub, Int.reduceMul, Int.reduceDiv, Int.reduceMod, reduceCtorEq, if_true, if_false, gm_w_id, xX8_ground_0, xX8_ground_1, xX8_ground_2, z1, l809, l807, z81, z90, y90, ha3, hk, k6, in90, a90, e1', q0]
      · rw [eX9_ground _ _ _ (Nat.le_of_ble_eq_true rfl)]
        simp (config := { maxSteps := 2000000 }) (disch := first | omega | assumption | (simp only [gm_isO_sF, gm_isO_sA, gm_isO_cp]; assumption)) only [gm_push, gm_iload, gm_lload, gm_aload, gm_istore, gm_astore, gm_iinc, gm_op2, gm_quo, gm_op1, gm_lop2, gm_lshl, gm_i2l, gm_l2i, gm_lcmp, gm_dup, gm_pop1, gm_dup2, gm_goto, gm_ifeq, gm_ifne, gm_iflt, gm_ifge, gm_ifgt, gm_ifle, gm_ceq, gm_cne, gm_clt, gm_cge, gm_cgt, gm_cle, gm_ifnull, gm_ifnonnull, gm_swk, gm_switch, gm_getI, gm_getR, gm_putI, gm_putZ, gm_putR, gm_new, gm_newarr, gm_iald, gm_cald, gm_zald, gm_lald, gm_aald, gm_iast, gm_cast, gm_zast, gm_last, gm_aast, gm_acp, gm_oinit, gm_back, gm_scall, gm_vcall, gm_iret, gm_zret, gm_cret, gm_lret, gm_aret, gm_vret, gm_slen, gm_schar, gm_sidx, gm_lget, gm_lset, gm_nl, gm_ent, gm_wd, gm_pop, gm_pad, gm_xl_c, gm_alen_u, gm_1_sF, gm_1_sA, gm_1_cp, gm_len_sF, gm_len_sA, gm_len_cp, Bool.or_true, Bool.true_or, gm_max_u, gm_min_u, gm_isO_sF, gm_isO_sA, gm_isO_cp, gm_gF_sF, gm_gF_sA, gm_gA_sF, gm_gA_sA, gm_gF_cp, gm_gA_cp, gm_add, gm_sub, gm_mul, gm_neg, ↓reduceIte, Nat.reduceAdd, Nat.reduceLeDiff, true_and, and_true, and_self, true_or, or_true, false_and, and_false, false_or, or_false, eq_self, Nat.reduceEqDiff, Int.reduceEq, Int.reduceLT, Int.reduceLE, Int.reduceNeg, Int.reduceAdd, Int.reduceSub, Int.reduceMul, Int.reduceDiv, Int.reduceMod, reduceCtorEq, if_true, if_false, gm_w_id, xX9_ground_0, xX9_ground_1, xX9_ground_2, zm, zm2, f909, c6', e2, gn_ok2, h2]
      · have hfr : gn_GFr k M (gm_sF Mm 911 148 0) := ⟨hL2.sF _ _ _ (by decide), fun f o y1 y2 y3 y4 y5 => by
          rw [gm_gF_sF, if_neg (by omega), h1.2.1 f o (by omega), gm_gF_sF, if_neg (by omega), g1.2.2.1 f o (by omega) (by omega), gm_gF_sF, if_neg (by omega)], fun a i y1 y2 y3 y4 y5 => by
          rw [gm_gA_sF, h1.2.2 a i y2 y3 y4 y5, gm_gA_sF, g1.2.2.2 a i y1, gm_gA_sF]⟩
        have sm : ∀ (f : Nat) (o : Int), ¬ (o = 81 ∧ (f = 401 ∨ f = 402)) → ¬ (94 + 7 * k ≤ o ∧ o ≤ 94 + 7 * k + 6) → ¬ (o = 148 ∧ (f = 911 ∨ f = 912 ∨ f = 913 ∨ f = 922 ∨ f = 923 ∨ f = 924)) → gm_gF (gm_sF Mm 911 148 0) f o = gm_gF M f o := fun f o y1 y2 y3 => by
          rw [gm_gF_sF, if_neg (by omega), h1.2.1 f o (by omega), gm_gF_sF, if_neg (by omega), g1.2.2.1 f o (by omega) (by omega), gm_gF_sF, if_neg (by omega)]
        refine hI.no hk.symm (by omega) hfr ?_ ?_ (sm 810 1 (by omega) (by omega) (by omega)) (sm 909 148 (by omega) (by omega) (by omega)) (sm 910 148 (by omega) (by omega) (by omega)) (sm 703 2 (by omega) (by omega) (by omega))
        · rw [gm_gF_sF, if_neg (by decide), h1.2.1 401 81 (by omega), gm_gF_sF, if_pos ⟨rfl, rfl⟩]
        · rw [gm_gF_sF, if_pos ⟨rfl, rfl⟩]
      · refine gn_pu.e (fun a i z => ?_) ?_ hp
        · rw [gm_gA_sF, h1.2.2 a i (by omega) (by omega) (by omega) (by omega), gm_gA_sF, g1.2.2.2 a i (by omega), gm_gA_sF]
        · rw [gm_gF_sF, if_neg (by omega), h1.2.1 9999 0 (by omega), gm_gF_sF, if_neg (by omega), g1.2.2.1 9999 0 (by omega) (by omega), gm_gF_sF, if_neg (by omega)]
    · rw [htx] at e1 g1 g2 fin
      have hxs := gn_tx_xs t2 htx
      have e1' : gm_go (d + 39) 27 [.inr (.inr 81), .inr (.inr (94 + 7 * k))] M = some (some (.inl (-1)), gm_sF Mc 401 81 0) := e1
      obtain ⟨M1, hM1⟩ : ∃ M1, M1 = gm_sF (gm_sF (gm_sF Mc 401 81 0) 703 2 k) 810 1 (k + 1) := ⟨_, rfl⟩
      have hL1 : gm_Lay M1 := by rw [hM1]; exact (hLc.sF _ _ _ (by decide)).sF _ _ _ (by decide)
      have hT1 := mid M1 hL1 (by rw [hM1, gm_gF_sF, if_neg (by decide), gm_gF_sF, if_neg (by decide), gm_gF_sF, if_neg (by decide)]) (fun a i => by rw [hM1]; rfl)
      obtain ⟨Mm, e2, h1, h2, h3⟩ := fin _ hT1
      obtain ⟨w1, w2, w3, w4⟩ := h3 l rfl
      have hL2 := h1.1
      have zm := gm_z148 hT1.1
      have zm2 := gm_z148 hL2
      have zc1 := gm_z1 hLc
      have zc2 := gm_z2 hLc
      have lc8 := gm_l800 hLc
      have c810 : gm_gF (gm_sF Mc 401 81 0) 810 1 = k := by rw [gm_gF_sF, if_neg (by decide), g1.2.2.1 810 1 (by omega) (by omega)]; exact hk
      have f909 : gm_gF M1 909 148 = k := by rw [hM1, gm_gF_sF, if_neg (by decide), gm_gF_sF, if_neg (by decide), gm_gF_sF, if_neg (by decide), g1.2.2.1 909 148 (by omega) (by omega)]; exact q1
      have m909 : gm_gF Mm 909 148 = k := by rw [h1.2.1 909 148 (by omega)]; exact f909
      have c6' : ¬ k = 6 := c6
      refine ⟨k, M1, gm_sF (gm_sF (gm_sF Mm 911 148 0) 910 148 k) 909 148 (k + 1), ?_, ?_, ?_, ?_⟩
      · rw [hM1, eX8_ground _ _ _ (Nat.le_of_ble_eq_true rfl)]
        simp (config := { maxSteps := 2000000 }) (disch := first | omega | assumption | (simp only [gm_isO_sF, gm_isO_sA, gm_isO_cp]; assumption)) only [gm_push, gm_iload, gm_lload, gm_aload, gm_istore, gm_astore, gm_iinc, gm_op2, gm_quo, gm_op1, gm_lop2, gm_lshl, gm_i2l, gm_l2i, gm_lcmp, gm_dup, gm_pop1, gm_dup2, gm_goto, gm_ifeq, gm_ifne, gm_iflt, gm_ifge, gm_ifgt, gm_ifle, gm_ceq, gm_cne, gm_clt, gm_cge, gm_cgt, gm_cle, gm_ifnull, gm_ifnonnull, gm_swk, gm_switch, gm_getI, gm_getR, gm_putI, gm_putZ, gm_putR, gm_new, gm_newarr, gm_iald, gm_cald, gm_zald, gm_lald, gm_aald, gm_iast, gm_cast, gm_zast, gm_last, gm_aast, gm_acp, gm_oinit, gm_back, gm_scall, gm_vcall, gm_iret, gm_zret, gm_cret, gm_lret, gm_aret, gm_vret, gm_slen, gm_schar, gm_sidx, gm_lget, gm_lset, gm_nl, gm_ent, gm_wd, gm_pop, gm_pad, gm_xl_c, gm_alen_u, gm_1_sF, gm_1_sA, gm_1_cp, gm_len_sF, gm_len_sA, gm_len_cp, Bool.or_true, Bool.true_or, gm_max_u, gm_min_u, gm_isO_sF, gm_isO_sA, gm_isO_cp, gm_gF_sF, gm_gF_sA, gm_gA_sF, gm_gA_sA, gm_gF_cp, gm_gA_cp, gm_add, gm_sub, gm_mul, gm_neg, ↓reduceIte, Nat.reduceAdd, Nat.reduceLeDiff, true_and, and_true, and_self, true_or, or_true, false_and, and_false, false_or, or_false, eq_self, Nat.reduceEqDiff, Int.reduceEq, Int.reduceLT, Int.reduceLE, Int.reduceNeg, Int.reduceAdd, Int.reduceSub, Int.reduceMul, Int.reduceDiv, Int.reduceMod, reduceCtorEq, if_true, if_false, gm_w_id, xX8_ground_0, xX8_ground_1, xX8_ground_2, z1, l809, l807, z81, z90, y90, ha3, hk, k6, in90, a90, e1', zc1, zc2, lc8, c810]
      · rw [eX9_ground _ _ _ (Nat.le_of_ble_eq_true rfl)]
        simp (config := { maxSteps := 2000000 }) (disch := first | omega | assumption | (simp only [gm_isO_sF, gm_isO_sA, gm_isO_cp]; assumption)) only [gm_push, gm_iload, gm_lload, gm_aload, gm_istore, gm_astore, gm_iinc, gm_op2, gm_quo, gm_op1, gm_lop2, gm_lshl, gm_i2l, gm_l2i, gm_lcmp, gm_dup, gm_pop1, gm_dup2, gm_goto, gm_ifeq, gm_ifne, gm_iflt, gm_ifge, gm_ifgt, gm_ifle, gm_ceq, gm_cne, gm_clt, gm_cge, gm_cgt, gm_cle, gm_ifnull, gm_ifnonnull, gm_swk, gm_switch, gm_getI, gm_getR, gm_putI, gm_putZ, gm_putR, gm_new, gm_newarr, gm_iald, gm_cald, gm_zald, gm_lald, gm_aald, gm_iast, gm_cast, gm_zast, gm_last, gm_aast, gm_acp, gm_oinit, gm_back, gm_scall, gm_vcall, gm_iret, gm_zret, gm_cret, gm_lret, gm_aret, gm_vret, gm_slen, gm_schar, gm_sidx, gm_lget, gm_lset, gm_nl, gm_ent, gm_wd, gm_pop, gm_pad, gm_xl_c, gm_alen_u, gm_1_sF, gm_1_sA, gm_1_cp, gm_len_sF, gm_len_sA, gm_len_cp, Bool.or_true, Bool.true_or, gm_max_u, gm_min_u, gm_isO_sF, gm_isO_sA, gm_isO_cp, gm_gF_sF, gm_gF_sA, gm_gA_sF, gm_gA_sA, gm_gF_cp, gm_gA_cp, gm_add, gm_sub, gm_mul, gm_neg, ↓reduceIte, Nat.reduceAdd, Nat.reduceLeDiff, true_and, and_true, and_self, true_or, or_true, false_and, and_false, false_or, or_false, eq_self, Nat.reduceEqDiff, Int.reduceEq, Int.reduceLT, Int.reduceLE, Int.reduceNeg, Int.reduceAdd, Int.reduceSub, Int.reduceMul, Int.reduceDiv, Int.reduceMod, reduceCtorEq, if_true, if_false, gm_w_id, xX9_ground_0, xX9_ground_1, xX9_ground_2, zm, zm2, f909, m909, c6', e2, gn_ok2, h2]
      · have fm : ∀ (f : Nat) (o : Int), ¬ (o = 148 ∧ (f = 909 ∨ f = 910 ∨ f = 911 ∨ f = 912 ∨ f = 913 ∨ f = 922 ∨ f = 923 ∨ f = 924)) → ¬ (o = 2 ∧ f = 703) → ¬ (o = 1 ∧ f = 810) → ¬ (o = 81 ∧ f = 401) → gm_gF (gm_sF (gm_sF (gm_sF Mm 911 148 0) 910 148 k) 909 148 (k + 1)) f o = gm_gF Mc f o := fun f o y1 y2 y3 y4 => by
          rw [gm_gF_sF, if_neg (by omega), gm_gF_sF, if_neg (by omega), gm_gF_sF, if_neg (by omega), h1.2.1 f o (by omega), hM1, gm_gF_sF, if_neg (by omega), gm_gF_sF, if_neg (by omega), gm_gF_sF, if_neg (by omega)]
        have am : ∀ a i : Int, a ≠ 163 → ¬ (a = 162 ∧ 100 * k ≤ i ∧ i < 100 * k + 100) → ¬ ((158 ≤ a ∧ a ≤ 161) ∧ 10 * k ≤ i ∧ i < 10 * k + 10) → ¬ (a = 157 ∧ i = k) → gm_gA (gm_sF (gm_sF (gm_sF Mm 911 148 0) 910 148 k) 909 148 (k + 1)) a i = gm_gA Mc a i := fun a i y1 y2 y3 y4 => by
          rw [gm_gA_sF, gm_gA_sF, gm_gA_sF, h1.2.2 a i y1 y2 y3 y4, hM1, gm_gA_sF, gm_gA_sF, gm_gA_sF]
        have hfr : gn_GFr k M (gm_sF (gm_sF (gm_sF Mm 911 148 0) 910 148 k) 909 148 (k + 1)) := ⟨((hL2.sF _ _ _ (by decide)).sF _ _ _ (by decide)).sF _ _ _ (by decide), fun f o y1 y2 y3 y4 y5 => by
          rw [fm f o (by omega) (by omega) (by omega) (by omega), g1.2.2.1 f o (by omega) (by omega), gm_gF_sF, if_neg (by omega)], fun a i y1 y2 y3 y4 y5 => by
          rw [am a i y2 y3 y4 y5, g1.2.2.2 a i y1, gm_gA_sF]⟩
        obtain ⟨r1, r2, r3, r4, r5⟩ := g2 l rfl
        obtain ⟨o1, o2, o3, o4, o5, o6⟩ := gn_fold l gn_s0 w4
        have o1' : (l.foldl gn_ad gn_s0).1.1 = gn_cst 0 0 l := o1
        have o3' : (l.foldl gn_ad gn_s0).2.1.1 = gn_cst 1 0 l := o3
        have o2' : (l.foldl gn_ad gn_s0).1.2 = gn_anl 0 l 0 := o2
        have o4' : (l.foldl gn_ad gn_s0).2.1.2 = gn_anl 1 l 0 := o4
        have o5' : (l.foldl gn_ad gn_s0).2.2.1 = gn_lsl 2 l 20 := o5
        have o6' : (l.foldl gn_ad gn_s0).2.2.2 = gn_lsl 3 l 80 := o6
        rw [o1', o2'] at r2
        rw [o3', o4'] at r3
        rw [o5'] at r4
        rw [o6'] at r5
        refine hI.yes hk.symm (by omega) hfr ?_ ?_ ?_ ?_ ?_ ?_ ?_
        · rw [gm_gF_sF, if_neg (by omega), gm_gF_sF, if_neg (by omega), gm_gF_sF, if_neg (by omega), h1.2.1 401 81 (by omega), hM1, gm_gF_sF, if_neg (by omega), gm_gF_sF, if_neg (by omega), gm_gF_sF, if_pos ⟨rfl, rfl⟩]
        · rw [gm_gF_sF, if_neg (by omega), gm_gF_sF, if_neg (by omega), gm_gF_sF, if_pos ⟨rfl, rfl⟩]
        · rw [gm_gF_sF, if_neg (by omega), gm_gF_sF, if_neg (by omega), gm_gF_sF, if_neg (by omega), h1.2.1 810 1 (by omega), hM1, gm_gF_sF, if_pos ⟨rfl, rfl⟩]
        · rw [gm_gF_sF, if_pos ⟨rfl, rfl⟩]
        · rw [gm_gF_sF, if_neg (by omega), gm_gF_sF, if_pos ⟨rfl, rfl⟩]
        · rw [gm_gF_sF, if_neg (by omega), gm_gF_sF, if_neg (by omega), gm_gF_sF, if_neg (by omega), h1.2.1 703 2 (by omega), hM1, gm_gF_sF, if_neg (by omega), gm_gF_sF, if_pos ⟨rfl, rfl⟩]
        · refine gn_gok_new (by omega) w4 w2 hxs (gn_rws.e (fun f => fm f _ (by omega) (by omega) (by omega) (by omega)) (fun i => ⟨am _ i (by omega) (by omega) (by omega) (by omega), am _ i (by omega) (by omega) (by omega) (by omega)⟩) r2) (gn_rws.e (fun f => fm f _ (by omega) (by omega) (by omega) (by omega)) (fun i => ⟨am _ i (by omega) (by omega) (by omega) (by omega), am _ i (by omega) (by omega) (by omega) (by omega)⟩) r3) ?_ ?_ w1 (gn_mcl_e (M := Mm) (M1 := gm_sF (gm_sF (gm_sF Mm 911 148 0) 910 148 k) 909 148 (k + 1)) (fun a i => rfl) l _ _ w3)
          · rw [fm 102 _ (by omega) (by omega) (by omega) (by omega)]; exact r4
          · rw [fm 103 _ (by omega) (by omega) (by omega) (by omega)]; exact r5
      · refine gn_pu.e (fun a i z => ?_) ?_ hp
        · rw [gm_gA_sF, gm_gA_sF, gm_gA_sF, h1.2.2 a i (by omega) (by omega) (by omega) (by omega), hM1, gm_gA_sF, gm_gA_sF, gm_gA_sF, g1.2.2.2 a i (by omega), gm_gA_sF]
        · rw [gm_gF_sF, if_neg (by omega), gm_gF_sF, if_neg (by omega), gm_gF_sF, if_neg (by omega), h1.2.1 9999 0 (by omega), hM1, gm_gF_sF, if_neg (by omega), gm_gF_sF, if_neg (by omega), gm_gF_sF, if_neg (by omega), g1.2.2.1 9999 0 (by omega) (by omega), gm_gF_sF, if_neg (by omega)]
