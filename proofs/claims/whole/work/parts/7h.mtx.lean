/-! GROUND: the model reads a text -/
def gn_lt : List Int := [115, 117, 110, 99, 111, 108, 100, 108, 111, 119, 104, 105, 103, 104]
theorem r_X9_takesWord_loop {d : Nat} (hd : 2 ≤ d) {t : Int → Int} {n a m : Int} (ha : 0 ≤ a ∧ a ≤ 13) (hm : 0 ≤ m ∧ a + m ≤ 14) : ∀ (L : List Int) (j p : Int) (F : Nat) (M : gm_M), gn_Tx t n M → gm_gF M 912 148 = p → (0 ≤ p ∧ p ≤ n) → 0 ≤ j → j + (L.length : Int) = m → (∀ i : Nat, i < L.length → gn_lt.getD (a + j + i).toNat 0 = L.getD i 0) → (∀ x ∈ L, 0 ≤ x ∧ x < 128) → 3 * L.length + 5 ≤ F →
    gm_ex (gm_go d) qX9_takesWord F 1 [some (.inr (.inr 148)), some (.inl a), some (.inl m), some (.inl j)] [] M = some (some (.inl (gn_rwd t n (L ++ [32]) p).1), gm_sF M 912 148 (gn_rwd t n (L ++ [32]) p).2) := by
  intro L
  induction L with
  | nil =>
    intro j p F M hT e912 hp hj hjm hL hx hF
    obtain ⟨F, rfl⟩ : ∃ g, F = g + 3 := ⟨F - 3, by omega⟩
    have hjm' : j = m := by simpa using hjm
    subst hjm'
    have z148 := gm_z148 hT.1
    have e := r_X9_takes (D := d) hd hT e912 hp (s := 32) (by decide)
    rw [xX9_takesWord_1]
    rw [List.nil_append]
    unfold gn_rwd
    by_cases c : gn_ch t n p = 32
    · rw [if_pos c] at e ⊢
      simp (config := { maxSteps := 2000000 }) (disch := first | omega | assumption | (simp only [gm_isO_sF, gm_isO_sA, gm_isO_cp]; assumption)) only [gm_push, gm_iload, gm_lload, gm_aload, gm_istore, gm_astore, gm_iinc, gm_op2, gm_quo, gm_op1, gm_lop2, gm_lshl, gm_i2l, gm_l2i, gm_lcmp, gm_dup, gm_pop1, gm_dup2, gm_goto, gm_ifeq, gm_ifne, gm_iflt, gm_ifge, gm_ifgt, gm_ifle, gm_ceq, gm_cne, gm_clt, gm_cge, gm_cgt, gm_cle, gm_ifnull, gm_ifnonnull, gm_swk, gm_switch, gm_getI, gm_getR, gm_putI, gm_putZ, gm_putR, gm_new, gm_newarr, gm_iald, gm_cald, gm_zald, gm_lald, gm_aald, gm_iast, gm_cast, gm_zast, gm_last, gm_aast, gm_acp, gm_oinit, gm_back, gm_scall, gm_vcall, gm_iret, gm_zret, gm_cret, gm_lret, gm_aret, gm_vret, gm_slen, gm_schar, gm_sidx, gm_lget, gm_lset, gm_nl, gm_ent, gm_wd, gm_pop, gm_pad, gm_xl_c, gm_alen_u, gm_1_sF, gm_1_sA, gm_1_cp, gm_len_sF, gm_len_sA, gm_len_cp, Bool.or_true, Bool.true_or, gm_max_u, gm_min_u, gm_isO_sF, gm_isO_sA, gm_isO_cp, gm_gF_sF, gm_gF_sA, gm_gA_sF, gm_gA_sA, gm_gF_cp, gm_gA_cp, gm_add, gm_sub, gm_mul, gm_neg, ↓reduceIte, Nat.reduceAdd, Nat.reduceLeDiff, true_and, and_true, and_self, true_or, or_true, false_and, and_false, false_or, or_false, eq_self, Nat.reduceEqDiff, Int.reduceEq, Int.reduceLT, Int.reduceLE, Int.reduceNeg, Int.reduceAdd, Int.reduceSub, Int.reduceMul, Int.reduceDiv, Int.reduceMod, reduceCtorEq, if_true, if_false, gm_w_id, xX9_takesWord_3, z148, Int.lt_irrefl, e, gn_rwd]
    · rw [if_neg c] at e ⊢
      have hi := gn_sF_id M 912 148 e912
      simp (config := { maxSteps := 2000000 }) (disch := first | omega | assumption | (simp only [gm_isO_sF, gm_isO_sA, gm_isO_cp]; assumption)) only [gm_push, gm_iload, gm_lload, gm_aload, gm_istore, gm_astore, gm_iinc, gm_op2, gm_quo, gm_op1, gm_lop2, gm_lshl, gm_i2l, gm_l2i, gm_lcmp, gm_dup, gm_pop1, gm_dup2, gm_goto, gm_ifeq, gm_ifne, gm_iflt, gm_ifge, gm_ifgt, gm_ifle, gm_ceq, gm_cne, gm_clt, gm_cge, gm_cgt, gm_cle, gm_ifnull, gm_ifnonnull, gm_swk, gm_switch, gm_getI, gm_getR, gm_putI, gm_putZ, gm_putR, gm_new, gm_newarr, gm_iald, gm_cald, gm_zald, gm_lald, gm_aald, gm_iast, gm_cast, gm_zast, gm_last, gm_aast, gm_acp, gm_oinit, gm_back, gm_scall, gm_vcall, gm_iret, gm_zret, gm_cret, gm_lret, gm_aret, gm_vret, gm_slen, gm_schar, gm_sidx, gm_lget, gm_lset, gm_nl, gm_ent, gm_wd, gm_pop, gm_pad, gm_xl_c, gm_alen_u, gm_1_sF, gm_1_sA, gm_1_cp, gm_len_sF, gm_len_sA, gm_len_cp, Bool.or_true, Bool.true_or, gm_max_u, gm_min_u, gm_isO_sF, gm_isO_sA, gm_isO_cp, gm_gF_sF, gm_gF_sA, gm_gA_sF, gm_gA_sA, gm_gF_cp, gm_gA_cp, gm_add, gm_sub, gm_mul, gm_neg, ↓reduceIte, Nat.reduceAdd, Nat.reduceLeDiff, true_and, and_true, and_self, true_or, or_true, false_and, and_false, false_or, or_false, eq_self, Nat.reduceEqDiff, Int.reduceEq, Int.reduceLT, Int.reduceLE, Int.reduceNeg, Int.reduceAdd, Int.reduceSub, Int.reduceMul, Int.reduceDiv, Int.reduceMod, reduceCtorEq, if_true, if_false, gm_w_id, xX9_takesWord_3, z148, Int.lt_irrefl, e, hi]
  | cons x L ih =>
    intro j p F M hT e912 hp hj hjm hL hx hF
    simp only [List.length_cons] at hjm hF
    obtain ⟨F, rfl⟩ : ∃ g, F = g + 3 := ⟨F - 3, by omega⟩
    have z148 := gm_z148 hT.1
    have z164 := gm_z164 hT.1
    have l925 := gm_l925 hT.1
    have hin := gn_i164 M (i := a + j) (by omega) (by omega)
    have hv : gm_gA M 164 (a + j) = x := by
      rw [hT.2.2.2.2 (a + j) (by omega) (by omega)]
      have := hL 0 (by simp)
      simpa [gn_lt] using this
    have hxb := hx x (by simp)
    have e := r_X9_takes (D := d) hd hT e912 hp (s := x) hxb
    have cj : j < m := by omega
    rw [List.cons_append]
    rw [xX9_takesWord_1]
    unfold gn_rwd
    by_cases c : gn_ch t n p = x
    · rw [if_pos c] at e ⊢
      have p1 := gn_ch_lt (t := t) (n := n) (p := p) (by omega)
      have g1 : gn_Mw 161 0 0 0 0 M (gm_sF M 912 148 (p + 1)) := (gn_Mw.rf hT.1).sF (by decide)
      have i := ih (j + 1) (p + 1) (F + 1) _ (g1.Tx hT (by decide)) rfl (by omega) (by omega) (by omega) (fun i hi => by
        have := hL (i + 1) (by simpa using hi)
        rw [show a + (j + 1) + (i : Int) = a + j + ((i + 1 : Nat) : Int) by omega, this]
        simp) (fun y hy => hx y (by simp [hy])) (by omega)
      rw [gn_sF_sF] at i
      rw [← i]
      simp (config := { maxSteps := 2000000 }) (disch := first | omega | assumption | (simp only [gm_isO_sF, gm_isO_sA, gm_isO_cp]; assumption)) only [gm_push, gm_iload, gm_lload, gm_aload, gm_istore, gm_astore, gm_iinc, gm_op2, gm_quo, gm_op1, gm_lop2, gm_lshl, gm_i2l, gm_l2i, gm_lcmp, gm_dup, gm_pop1, gm_dup2, gm_goto, gm_ifeq, gm_ifne, gm_iflt, gm_ifge, gm_ifgt, gm_ifle, gm_ceq, gm_cne, gm_clt, gm_cge, gm_cgt, gm_cle, gm_ifnull, gm_ifnonnull, gm_swk, gm_switch, gm_getI, gm_getR, gm_putI, gm_putZ, gm_putR, gm_new, gm_newarr, gm_iald, gm_cald, gm_zald, gm_lald, gm_aald, gm_iast, gm_cast, gm_zast, gm_last, gm_aast, gm_acp, gm_oinit, gm_back, gm_scall, gm_vcall, gm_iret, gm_zret, gm_cret, gm_lret, gm_aret, gm_vret, gm_slen, gm_schar, gm_sidx, gm_lget, gm_lset, gm_nl, gm_ent, gm_wd, gm_pop, gm_pad, gm_xl_c, gm_alen_u, gm_1_sF, gm_1_sA, gm_1_cp, gm_len_sF, gm_len_sA, gm_len_cp, Bool.or_true, Bool.true_or, gm_max_u, gm_min_u, gm_isO_sF, gm_isO_sA, gm_isO_cp, gm_gF_sF, gm_gF_sA, gm_gA_sF, gm_gA_sA, gm_gF_cp, gm_gA_cp, gm_add, gm_sub, gm_mul, gm_neg, ↓reduceIte, Nat.reduceAdd, Nat.reduceLeDiff, true_and, and_true, and_self, true_or, or_true, false_and, and_false, false_or, or_false, eq_self, Nat.reduceEqDiff, Int.reduceEq, Int.reduceLT, Int.reduceLE, Int.reduceNeg, Int.reduceAdd, Int.reduceSub, Int.reduceMul, Int.reduceDiv, Int.reduceMod, reduceCtorEq, if_true, if_false, gm_w_id, xX9_takesWord_2, z148, z164, l925, hin, hv, cj, e]
    · rw [if_neg c] at e ⊢
      have hi := gn_sF_id M 912 148 e912
      simp (config := { maxSteps := 2000000 }) (disch := first | omega | assumption | (simp only [gm_isO_sF, gm_isO_sA, gm_isO_cp]; assumption)) only [gm_push, gm_iload, gm_lload, gm_aload, gm_istore, gm_astore, gm_iinc, gm_op2, gm_quo, gm_op1, gm_lop2, gm_lshl, gm_i2l, gm_l2i, gm_lcmp, gm_dup, gm_pop1, gm_dup2, gm_goto, gm_ifeq, gm_ifne, gm_iflt, gm_ifge, gm_ifgt, gm_ifle, gm_ceq, gm_cne, gm_clt, gm_cge, gm_cgt, gm_cle, gm_ifnull, gm_ifnonnull, gm_swk, gm_switch, gm_getI, gm_getR, gm_putI, gm_putZ, gm_putR, gm_new, gm_newarr, gm_iald, gm_cald, gm_zald, gm_lald, gm_aald, gm_iast, gm_cast, gm_zast, gm_last, gm_aast, gm_acp, gm_oinit, gm_back, gm_scall, gm_vcall, gm_iret, gm_zret, gm_cret, gm_lret, gm_aret, gm_vret, gm_slen, gm_schar, gm_sidx, gm_lget, gm_lset, gm_nl, gm_ent, gm_wd, gm_pop, gm_pad, gm_xl_c, gm_alen_u, gm_1_sF, gm_1_sA, gm_1_cp, gm_len_sF, gm_len_sA, gm_len_cp, Bool.or_true, Bool.true_or, gm_max_u, gm_min_u, gm_isO_sF, gm_isO_sA, gm_isO_cp, gm_gF_sF, gm_gF_sA, gm_gA_sF, gm_gA_sA, gm_gF_cp, gm_gA_cp, gm_add, gm_sub, gm_mul, gm_neg, ↓reduceIte, Nat.reduceAdd, Nat.reduceLeDiff, true_and, and_true, and_self, true_or, or_true, false_and, and_false, false_or, or_false, eq_self, Nat.reduceEqDiff, Int.reduceEq, Int.reduceLT, Int.reduceLE, Int.reduceNeg, Int.reduceAdd, Int.reduceSub, Int.reduceMul, Int.reduceDiv, Int.reduceMod, reduceCtorEq, if_true, if_false, gm_w_id, xX9_takesWord_2, z148, z164, l925, hin, hv, cj, e, hi]
theorem r_X9_takesWord {D : Nat} (hD : 3 ≤ D) {t : Int → Int} {n p w a m : Int} {M : gm_M} (hw : w = 0 ∧ a = 0 ∧ m = 3 ∨ w = 1 ∧ a = 3 ∧ m = 4 ∨ w = 2 ∧ a = 7 ∧ m = 3 ∨ w = 3 ∧ a = 10 ∧ m = 4) (hT : gn_Tx t n M) (e : gm_gF M 912 148 = p) (hp : 0 ≤ p ∧ p ≤ n) : gm_go D 109 [.inr (.inr 148), .inl a, .inl m] M = some (some (.inl (gn_rwd t n (gn_ww w) p).1), gm_sF M 912 148 (gn_rwd t n (gn_ww w) p).2) := by
  obtain ⟨d, rfl⟩ : ∃ g, D = g + 1 := ⟨D - 1, by omega⟩
  have st : gm_go (d + 1) 109 [.inr (.inr 148), .inl a, .inl m] M = gm_ex (gm_go d) qX9_takesWord 99999 1 [some (.inr (.inr 148)), some (.inl a), some (.inl m), some (.inl 0)] [] M := by
    rw [eX9_takesWord _ _ _ (Nat.le_of_ble_eq_true rfl)]
    simp (config := { maxSteps := 2000000 }) (disch := first | omega | assumption | (simp only [gm_isO_sF, gm_isO_sA, gm_isO_cp]; assumption)) only [gm_push, gm_iload, gm_lload, gm_aload, gm_istore, gm_astore, gm_iinc, gm_op2, gm_quo, gm_op1, gm_lop2, gm_lshl, gm_i2l, gm_l2i, gm_lcmp, gm_dup, gm_pop1, gm_dup2, gm_goto, gm_ifeq, gm_ifne, gm_iflt, gm_ifge, gm_ifgt, gm_ifle, gm_ceq, gm_cne, gm_clt, gm_cge, gm_cgt, gm_cle, gm_ifnull, gm_ifnonnull, gm_swk, gm_switch, gm_getI, gm_getR, gm_putI, gm_putZ, gm_putR, gm_new, gm_newarr, gm_iald, gm_cald, gm_zald, gm_lald, gm_aald, gm_iast, gm_cast, gm_zast, gm_last, gm_aast, gm_acp, gm_oinit, gm_back, gm_scall, gm_vcall, gm_iret, gm_zret, gm_cret, gm_lret, gm_aret, gm_vret, gm_slen, gm_schar, gm_sidx, gm_lget, gm_lset, gm_nl, gm_ent, gm_wd, gm_pop, gm_pad, gm_xl_c, gm_alen_u, gm_1_sF, gm_1_sA, gm_1_cp, gm_len_sF, gm_len_sA, gm_len_cp, Bool.or_true, Bool.true_or, gm_max_u, gm_min_u, gm_isO_sF, gm_isO_sA, gm_isO_cp, gm_gF_sF, gm_gF_sA, gm_gA_sF, gm_gA_sA, gm_gF_cp, gm_gA_cp, gm_add, gm_sub, gm_mul, gm_neg, ↓reduceIte, Nat.reduceAdd, Nat.reduceLeDiff, true_and, and_true, and_self, true_or, or_true, false_and, and_false, false_or, or_false, eq_self, Nat.reduceEqDiff, Int.reduceEq, Int.reduceLT, Int.reduceLE, Int.reduceNeg, Int.reduceAdd, Int.reduceSub, Int.reduceMul, Int.reduceDiv, Int.reduceMod, reduceCtorEq, if_true, if_false, gm_w_id, xX9_takesWord_0]
  rw [st]
  rcases hw with ⟨rfl, rfl, rfl⟩ | ⟨rfl, rfl, rfl⟩ | ⟨rfl, rfl, rfl⟩ | ⟨rfl, rfl, rfl⟩
  · exact r_X9_takesWord_loop (d := d) (by omega) (by decide) (by decide) [115, 117, 110] 0 p 99999 M hT e hp (by decide) rfl (by decide) (by decide) (by decide)
  · exact r_X9_takesWord_loop (d := d) (by omega) (by decide) (by decide) [99, 111, 108, 100] 0 p 99999 M hT e hp (by decide) rfl (by decide) (by decide) (by decide)
  · exact r_X9_takesWord_loop (d := d) (by omega) (by decide) (by decide) [108, 111, 119] 0 p 99999 M hT e hp (by decide) rfl (by decide) (by decide) (by decide)
  · exact r_X9_takesWord_loop (d := d) (by omega) (by decide) (by decide) [104, 105, 103, 104] 0 p 99999 M hT e hp (by decide) rfl (by decide) (by decide) (by decide)
theorem r_X9_takesHead {D : Nat} (hD : 4 ≤ D) {t : Int → Int} {n p c : Int} {M : gm_M} (hcc : 0 ≤ c ∧ c < 60) (hT : gn_Tx t n M) (e : gm_gF M 912 148 = p) (hp : 0 ≤ p ∧ p ≤ n) : gm_go D 118 [.inr (.inr 148), .inl c] M = some (some (.inl (gn_rwd t n (gn_ww (gn_wi (gn_ch t n p))) p).1), gm_sF (gm_sA M 158 c (gn_wi (gn_ch t n p))) 912 148 (gn_rwd t n (gn_ww (gn_wi (gn_ch t n p))) p).2) := by
  obtain ⟨d, rfl⟩ : ∃ g, D = g + 1 := ⟨D - 1, by omega⟩
  have z148 := gm_z148 hT.1
  have z158 := gm_z158 hT.1
  have l916 := gm_l916 hT.1
  have f0 := r_X9_next (D := d) (by omega) hT e hp
  have b0 := gn_ch_b hT hp.1
  have hin := gn_i158 M hcc.1 hcc.2
  have g1 : ∀ w, gn_Mw 158 0 0 c (c + 1) M (gm_sA M 158 c w) := fun w => (gn_Mw.rf hT.1).s4 (by decide) (by omega)
  have ew : ∀ w a m, (w = 0 ∧ a = 0 ∧ m = 3 ∨ w = 1 ∧ a = 3 ∧ m = 4 ∨ w = 2 ∧ a = 7 ∧ m = 3 ∨ w = 3 ∧ a = 10 ∧ m = 4) → gm_go d 109 [.inr (.inr 148), .inl a, .inl m] (gm_sA M 158 c w) = some (some (.inl (gn_rwd t n (gn_ww w) p).1), gm_sF (gm_sA M 158 c w) 912 148 (gn_rwd t n (gn_ww w) p).2) := fun w a m hw => r_X9_takesWord (D := d) (by omega) (p := p) hw ((g1 w).Tx hT (by decide)) e hp
  have b1 := (gn_rwd_b (t := t) (n := n) (gn_ww (gn_wi (gn_ch t n p))) p hp.2 (fun c hc => (gn_ww_b _ c hc).1)).2.2
  have b2 : (gn_rwd t n (gn_ww (gn_wi (gn_ch t n p))) p).1 = 0 ∨ (gn_rwd t n (gn_ww (gn_wi (gn_ch t n p))) p).1 = 1 := b1.elim Or.inl (fun z => Or.inr z.1)
  rw [eX9_takesHead _ _ _ (Nat.le_of_ble_eq_true rfl)]
  generalize gn_ch t n p = x at *
  by_cases c1 : x = 115
  · subst c1
    have e1 := ew 0 0 3 (by decide)
    have hw : gn_wi 115 = 0 := rfl
    rw [hw] at b2 ⊢
    generalize gn_rwd t n (gn_ww 0) p = r at *
    simp (config := { maxSteps := 2000000 }) (disch := first | omega | assumption | (simp only [gm_isO_sF, gm_isO_sA, gm_isO_cp]; assumption)) only [gm_push, gm_iload, gm_lload, gm_aload, gm_istore, gm_astore, gm_iinc, gm_op2, gm_quo, gm_op1, gm_lop2, gm_lshl, gm_i2l, gm_l2i, gm_lcmp, gm_dup, gm_pop1, gm_dup2, gm_goto, gm_ifeq, gm_ifne, gm_iflt, gm_ifge, gm_ifgt, gm_ifle, gm_ceq, gm_cne, gm_clt, gm_cge, gm_cgt, gm_cle, gm_ifnull, gm_ifnonnull, gm_swk, gm_switch, gm_getI, gm_getR, gm_putI, gm_putZ, gm_putR, gm_new, gm_newarr, gm_iald, gm_cald, gm_zald, gm_lald, gm_aald, gm_iast, gm_cast, gm_zast, gm_last, gm_aast, gm_acp, gm_oinit, gm_back, gm_scall, gm_vcall, gm_iret, gm_zret, gm_cret, gm_lret, gm_aret, gm_vret, gm_slen, gm_schar, gm_sidx, gm_lget, gm_lset, gm_nl, gm_ent, gm_wd, gm_pop, gm_pad, gm_xl_c, gm_alen_u, gm_1_sF, gm_1_sA, gm_1_cp, gm_len_sF, gm_len_sA, gm_len_cp, Bool.or_true, Bool.true_or, gm_max_u, gm_min_u, gm_isO_sF, gm_isO_sA, gm_isO_cp, gm_gF_sF, gm_gF_sA, gm_gA_sF, gm_gA_sA, gm_gF_cp, gm_gA_cp, gm_add, gm_sub, gm_mul, gm_neg, ↓reduceIte, Nat.reduceAdd, Nat.reduceLeDiff, true_and, and_true, and_self, true_or, or_true, false_and, and_false, false_or, or_false, eq_self, Nat.reduceEqDiff, Int.reduceEq, Int.reduceLT, Int.reduceLE, Int.reduceNeg, Int.reduceAdd, Int.reduceSub, Int.reduceMul, Int.reduceDiv, Int.reduceMod, reduceCtorEq, if_true, if_false, gm_w_id, xX9_takesHead_0, xX9_takesHead_1, xX9_takesHead_2, xX9_takesHead_3, xX9_takesHead_4, z148, z158, l916, f0, hin, e1, b2]
  · by_cases c2 : x = 99
    · subst c2
      have e1 := ew 1 3 4 (by decide)
      have hw : gn_wi 99 = 1 := rfl
      rw [hw] at b2 ⊢
      generalize gn_rwd t n (gn_ww 1) p = r at *
      simp (config := { maxSteps := 2000000 }) (disch := first | omega | assumption | (simp only [gm_isO_sF, gm_isO_sA, gm_isO_cp]; assumption)) only [gm_push, gm_iload, gm_lload, gm_aload, gm_istore, gm_astore, gm_iinc, gm_op2, gm_quo, gm_op1, gm_lop2, gm_lshl, gm_i2l, gm_l2i, gm_lcmp, gm_dup, gm_pop1, gm_dup2, gm_goto, gm_ifeq, gm_ifne, gm_iflt, gm_ifge, gm_ifgt, gm_ifle, gm_ceq, gm_cne, gm_clt, gm_cge, gm_cgt, gm_cle, gm_ifnull, gm_ifnonnull, gm_swk, gm_switch, gm_getI, gm_getR, gm_putI, gm_putZ, gm_putR, gm_new, gm_newarr, gm_iald, gm_cald, gm_zald, gm_lald, gm_aald, gm_iast, gm_cast, gm_zast, gm_last, gm_aast, gm_acp, gm_oinit, gm_back, gm_scall, gm_vcall, gm_iret, gm_zret, gm_cret, gm_lret, gm_aret, gm_vret, gm_slen, gm_schar, gm_sidx, gm_lget, gm_lset, gm_nl, gm_ent, gm_wd, gm_pop, gm_pad, gm_xl_c, gm_alen_u, gm_1_sF, gm_1_sA, gm_1_cp, gm_len_sF, gm_len_sA, gm_len_cp, Bool.or_true, Bool.true_or, gm_max_u, gm_min_u, gm_isO_sF, gm_isO_sA, gm_isO_cp, gm_gF_sF, gm_gF_sA, gm_gA_sF, gm_gA_sA, gm_gF_cp, gm_gA_cp, gm_add, gm_sub, gm_mul, gm_neg, ↓reduceIte, Nat.reduceAdd, Nat.reduceLeDiff, true_and, and_true, and_self, true_or, or_true, false_and, and_false, false_or, or_false, eq_self, Nat.reduceEqDiff, Int.reduceEq, Int.reduceLT, Int.reduceLE, Int.reduceNeg, Int.reduceAdd, Int.reduceSub, Int.reduceMul, Int.reduceDiv, Int.reduceMod, reduceCtorEq, if_true, if_false, gm_w_id, xX9_takesHead_0, xX9_takesHead_1, xX9_takesHead_2, xX9_takesHead_3, xX9_takesHead_4, z148, z158, l916, f0, hin, e1, b2]
    · by_cases c3 : x = 108
      · subst c3
        have e1 := ew 2 7 3 (by decide)
        have hw : gn_wi 108 = 2 := rfl
        rw [hw] at b2 ⊢
        generalize gn_rwd t n (gn_ww 2) p = r at *
        simp (config := { maxSteps := 2000000 }) (disch := first | omega | assumption | (simp only [gm_isO_sF, gm_isO_sA, gm_isO_cp]; assumption)) only [gm_push, gm_iload, gm_lload, gm_aload, gm_istore, gm_astore, gm_iinc, gm_op2, gm_quo, gm_op1, gm_lop2, gm_lshl, gm_i2l, gm_l2i, gm_lcmp, gm_dup, gm_pop1, gm_dup2, gm_goto, gm_ifeq, gm_ifne, gm_iflt, gm_ifge, gm_ifgt, gm_ifle, gm_ceq, gm_cne, gm_clt, gm_cge, gm_cgt, gm_cle, gm_ifnull, gm_ifnonnull, gm_swk, gm_switch, gm_getI, gm_getR, gm_putI, gm_putZ, gm_putR, gm_new, gm_newarr, gm_iald, gm_cald, gm_zald, gm_lald, gm_aald, gm_iast, gm_cast, gm_zast, gm_last, gm_aast, gm_acp, gm_oinit, gm_back, gm_scall, gm_vcall, gm_iret, gm_zret, gm_cret, gm_lret, gm_aret, gm_vret, gm_slen, gm_schar, gm_sidx, gm_lget, gm_lset, gm_nl, gm_ent, gm_wd, gm_pop, gm_pad, gm_xl_c, gm_alen_u, gm_1_sF, gm_1_sA, gm_1_cp, gm_len_sF, gm_len_sA, gm_len_cp, Bool.or_true, Bool.true_or, gm_max_u, gm_min_u, gm_isO_sF, gm_isO_sA, gm_isO_cp, gm_gF_sF, gm_gF_sA, gm_gA_sF, gm_gA_sA, gm_gF_cp, gm_gA_cp, gm_add, gm_sub, gm_mul, gm_neg, ↓reduceIte, Nat.reduceAdd, Nat.reduceLeDiff, true_and, and_true, and_self, true_or, or_true, false_and, and_false, false_or, or_false, eq_self, Nat.reduceEqDiff, Int.reduceEq, Int.reduceLT, Int.reduceLE, Int.reduceNeg, Int.reduceAdd, Int.reduceSub, Int.reduceMul, Int.reduceDiv, Int.reduceMod, reduceCtorEq, if_true, if_false, gm_w_id, xX9_takesHead_0, xX9_takesHead_1, xX9_takesHead_2, xX9_takesHead_3, xX9_takesHead_4, z148, z158, l916, f0, hin, e1, b2]
      · have e1 := ew 3 10 4 (by decide)
        have hw : gn_wi x = 3 := by unfold gn_wi; rw [if_neg c1, if_neg c2, if_neg c3]
        rw [hw] at b2 ⊢
        generalize gn_rwd t n (gn_ww 3) p = r at *
        simp (config := { maxSteps := 2000000 }) (disch := first | omega | assumption | (simp only [gm_isO_sF, gm_isO_sA, gm_isO_cp]; assumption)) only [gm_push, gm_iload, gm_lload, gm_aload, gm_istore, gm_astore, gm_iinc, gm_op2, gm_quo, gm_op1, gm_lop2, gm_lshl, gm_i2l, gm_l2i, gm_lcmp, gm_dup, gm_pop1, gm_dup2, gm_goto, gm_ifeq, gm_ifne, gm_iflt, gm_ifge, gm_ifgt, gm_ifle, gm_ceq, gm_cne, gm_clt, gm_cge, gm_cgt, gm_cle, gm_ifnull, gm_ifnonnull, gm_swk, gm_switch, gm_getI, gm_getR, gm_putI, gm_putZ, gm_putR, gm_new, gm_newarr, gm_iald, gm_cald, gm_zald, gm_lald, gm_aald, gm_iast, gm_cast, gm_zast, gm_last, gm_aast, gm_acp, gm_oinit, gm_back, gm_scall, gm_vcall, gm_iret, gm_zret, gm_cret, gm_lret, gm_aret, gm_vret, gm_slen, gm_schar, gm_sidx, gm_lget, gm_lset, gm_nl, gm_ent, gm_wd, gm_pop, gm_pad, gm_xl_c, gm_alen_u, gm_1_sF, gm_1_sA, gm_1_cp, gm_len_sF, gm_len_sA, gm_len_cp, Bool.or_true, Bool.true_or, gm_max_u, gm_min_u, gm_isO_sF, gm_isO_sA, gm_isO_cp, gm_gF_sF, gm_gF_sA, gm_gA_sF, gm_gA_sA, gm_gF_cp, gm_gA_cp, gm_add, gm_sub, gm_mul, gm_neg, ↓reduceIte, Nat.reduceAdd, Nat.reduceLeDiff, true_and, and_true, and_self, true_or, or_true, false_and, and_false, false_or, or_false, eq_self, Nat.reduceEqDiff, Int.reduceEq, Int.reduceLT, Int.reduceLE, Int.reduceNeg, Int.reduceAdd, Int.reduceSub, Int.reduceMul, Int.reduceDiv, Int.reduceMod, reduceCtorEq, if_true, if_false, gm_w_id, xX9_takesHead_0, xX9_takesHead_1, xX9_takesHead_2, xX9_takesHead_3, xX9_takesHead_4, z148, z158, l916, f0, hin, e1, b2, c1, c2, c3]
def gn_xk (x : Int × Int × gn_X) : Int := if x.1 ≤ 1 then gn_sz x.2.2 else 0
/-- the clause c of the model, its signs from k on -/
def gn_mc1 (M : gm_M) (c k : Int) (x : Int × Int × gn_X) : Prop := gm_gA M 158 c = x.1 ∧ gm_gA M 159 c = x.2.1 ∧ (x.1 ≤ 1 → gm_gA M 160 c = k ∧ gm_gA M 161 c = k + gn_sz x.2.2 ∧ gn_at (gm_gA M 162) k (gn_Xr x.2.2))
theorem r_X9_takesClause {D : Nat} (hD : 6 ≤ D) {t : Int → Int} {n p c k k2 : Int} {M : gm_M} (hcc : 0 ≤ c ∧ c < 60) (hT : gn_Tx t n M) (e912 : gm_gF M 912 148 = p) (e922 : gm_gF M 922 148 = k) (hk : 0 ≤ k ∧ k2 ≤ 600 ∧ k2 ≤ k + 100) (hp : 0 ≤ p ∧ p ≤ n) (hb : k + (n - p) ≤ k2) {r : Option (Int × Int × gn_X)} {q : Int} (h : gn_cl t n p = (r, q)) :
    ∃ M', gm_go D 119 [.inr (.inr 148), .inl c] M = some (some (.inl (gn_ok2 r)), M') ∧ gn_Mw 158 k k2 c (c + 1) M M' ∧ gm_gF M' 912 148 = q ∧ ∀ x, r = some x → gm_gF M' 922 148 = k + gn_xk x ∧ gn_mc1 M' c k x := by
  obtain ⟨d, rfl⟩ : ∃ g, D = g + 1 := ⟨D - 1, by omega⟩
  have hL := hT.1
  have z148 := gm_z148 hL
  have hhead := r_X9_takesHead (D := d) (by omega) hcc hT e912 hp
  have hrw := gn_rwd_b (t := t) (n := n) (gn_ww (gn_wi (gn_ch t n p))) p hp.2 (fun c hc => (gn_ww_b _ c hc).1)
  have hwb := gn_wi_b (gn_ch t n p)
  unfold gn_cl at h
  obtain ⟨a, ha⟩ : ∃ a, gn_rwd t n (gn_ww (gn_wi (gn_ch t n p))) p = a := ⟨_, rfl⟩
  rw [ha] at h hhead hrw
  obtain ⟨w, hw⟩ : ∃ w, gn_wi (gn_ch t n p) = w := ⟨_, rfl⟩
  rw [hw] at h hhead hrw hwb
  have g1 : gn_Mw 158 k k2 c (c + 1) M (gm_sF (gm_sA M 158 c w) 912 148 a.2) := ((gn_Mw.rf hL).s4 (by decide) (by omega)).sF (by decide)
  have hT1 := g1.Tx hT (by decide)
  have hnum := r_X9_takesNumber (D := d) (by omega) hT1 (p := a.2) rfl (by omega)
  have hnb := gn_nm_b (t := t) (n := n) (p := a.2) hrw.2.1
  obtain ⟨b, hb'⟩ : ∃ b, gn_nm t n a.2 = b := ⟨_, rfl⟩
  rw [hb'] at h hnum hnb
  have hb0 := hnb.1
  by_cases c1 : a.1 = 0
  · rw [if_pos c1] at h
    obtain ⟨rfl, rfl⟩ := Prod.mk.inj h
    rw [c1] at hhead
    refine ⟨_, ?_, g1, rfl, fun x h => by simp at h⟩
    rw [eX9_takesClause _ _ _ (Nat.le_of_ble_eq_true rfl)]
    simp (config := { maxSteps := 2000000 }) (disch := first | omega | assumption | (simp only [gm_isO_sF, gm_isO_sA, gm_isO_cp]; assumption)) only [gm_push, gm_iload, gm_lload, gm_aload, gm_istore, gm_astore, gm_iinc, gm_op2, gm_quo, gm_op1, gm_lop2, gm_lshl, gm_i2l, gm_l2i, gm_lcmp, gm_dup, gm_pop1, gm_dup2, gm_goto, gm_ifeq, gm_ifne, gm_iflt, gm_ifge, gm_ifgt, gm_ifle, gm_ceq, gm_cne, gm_clt, gm_cge, gm_cgt, gm_cle, gm_ifnull, gm_ifnonnull, gm_swk, gm_switch, gm_getI, gm_getR, gm_putI, gm_putZ, gm_putR, gm_new, gm_newarr, gm_iald, gm_cald, gm_zald, gm_lald, gm_aald, gm_iast, gm_cast, gm_zast, gm_last, gm_aast, gm_acp, gm_oinit, gm_back, gm_scall, gm_vcall, gm_iret, gm_zret, gm_cret, gm_lret, gm_aret, gm_vret, gm_slen, gm_schar, gm_sidx, gm_lget, gm_lset, gm_nl, gm_ent, gm_wd, gm_pop, gm_pad, gm_xl_c, gm_alen_u, gm_1_sF, gm_1_sA, gm_1_cp, gm_len_sF, gm_len_sA, gm_len_cp, Bool.or_true, Bool.true_or, gm_max_u, gm_min_u, gm_isO_sF, gm_isO_sA, gm_isO_cp, gm_gF_sF, gm_gF_sA, gm_gA_sF, gm_gA_sA, gm_gF_cp, gm_gA_cp, gm_add, gm_sub, gm_mul, gm_neg, ↓reduceIte, Nat.reduceAdd, Nat.reduceLeDiff, true_and, and_true, and_self, true_or, or_true, false_and, and_false, false_or, or_false, eq_self, Nat.reduceEqDiff, Int.reduceEq, Int.reduceLT, Int.reduceLE, Int.reduceNeg, Int.reduceAdd, Int.reduceSub, Int.reduceMul, Int.reduceDiv, Int.reduceMod, reduceCtorEq, if_true, if_false, gm_w_id, xX9_takesClause_0, xX9_takesClause_1, xX9_takesClause_2, xX9_takesClause_3, xX9_takesClause_4, xX9_takesClause_5, z148, hhead, gn_ok2]
  · rw [if_neg c1] at h
    have a1 : a.1 = 1 ∧ a.2 = p + (gn_ww w).length := hrw.2.2.resolve_left c1
    rw [a1.1] at hhead
    by_cases c2 : b.1 < 0
    · rw [if_pos c2] at h hnum
      obtain ⟨rfl, rfl⟩ := Prod.mk.inj h
      refine ⟨_, ?_, g1, rfl, fun x h => by simp at h⟩
      rw [eX9_takesClause _ _ _ (Nat.le_of_ble_eq_true rfl)]
      simp (config := { maxSteps := 2000000 }) (disch := first | omega | assumption | (simp only [gm_isO_sF, gm_isO_sA, gm_isO_cp]; assumption)) only [gm_push, gm_iload, gm_lload, gm_aload, gm_istore, gm_astore, gm_iinc, gm_op2, gm_quo, gm_op1, gm_lop2, gm_lshl, gm_i2l, gm_l2i, gm_lcmp, gm_dup, gm_pop1, gm_dup2, gm_goto, gm_ifeq, gm_ifne, gm_iflt, gm_ifge, gm_ifgt, gm_ifle, gm_ceq, gm_cne, gm_clt, gm_cge, gm_cgt, gm_cle, gm_ifnull, gm_ifnonnull, gm_swk, gm_switch, gm_getI, gm_getR, gm_putI, gm_putZ, gm_putR, gm_new, gm_newarr, gm_iald, gm_cald, gm_zald, gm_lald, gm_aald, gm_iast, gm_cast, gm_zast, gm_last, gm_aast, gm_acp, gm_oinit, gm_back, gm_scall, gm_vcall, gm_iret, gm_zret, gm_cret, gm_lret, gm_aret, gm_vret, gm_slen, gm_schar, gm_sidx, gm_lget, gm_lset, gm_nl, gm_ent, gm_wd, gm_pop, gm_pad, gm_xl_c, gm_alen_u, gm_1_sF, gm_1_sA, gm_1_cp, gm_len_sF, gm_len_sA, gm_len_cp, Bool.or_true, Bool.true_or, gm_max_u, gm_min_u, gm_isO_sF, gm_isO_sA, gm_isO_cp, gm_gF_sF, gm_gF_sA, gm_gA_sF, gm_gA_sA, gm_gF_cp, gm_gA_cp, gm_add, gm_sub, gm_mul, gm_neg, ↓reduceIte, Nat.reduceAdd, Nat.reduceLeDiff, true_and, and_true, and_self, true_or, or_true, false_and, and_false, false_or, or_false, eq_self, Nat.reduceEqDiff, Int.reduceEq, Int.reduceLT, Int.reduceLE, Int.reduceNeg, Int.reduceAdd, Int.reduceSub, Int.reduceMul, Int.reduceDiv, Int.reduceMod, reduceCtorEq, if_true, if_false, gm_w_id, xX9_takesClause_0, xX9_takesClause_1, xX9_takesClause_2, xX9_takesClause_3, xX9_takesClause_4, xX9_takesClause_5, z148, hhead, hnum, gn_ok2]
    · rw [if_neg c2] at h hnum
      rw [gn_sF_sw, gn_sF_sF] at hnum
      have hM2 : ∃ M2, M2 = gm_sA (gm_sF (gm_sF (gm_sA M 158 c w) 913 148 b.1) 912 148 b.2) 159 c b.1 := ⟨_, rfl⟩
      obtain ⟨M2, eM2⟩ := hM2
      have g2 : gn_Mw 158 k k2 c (c + 1) M M2 := by rw [eM2]; exact ((((gn_Mw.rf hL).s4 (by decide) (by omega)).sF (by decide)).sF (by decide)).s4 (by decide) (by omega)
      have hT2 := g2.Tx hT (by decide)
      have z159 := gm_z159 hL
      have z158 := gm_z158 hL
      have l917 := gm_l917 hL
      have l916 := gm_l916 hL
      have hin1 := gn_i159 (gm_sF (gm_sF (gm_sA M 158 c w) 913 148 b.1) 912 148 b.2) hcc.1 hcc.2
      have hin2 := gn_i158 M2 hcc.1 hcc.2
      have u1 : gm_gF M2 912 148 = b.2 := by rw [eM2]; rfl
      have u2 : gm_gF M2 922 148 = k := by rw [eM2]; exact e922
      have u3 : gm_gA M2 158 c = w := by rw [eM2, gm_gA_sA, if_neg (by omega), gm_gA_sF, gm_gA_sF, gm_gA_sA, if_pos ⟨rfl, rfl⟩]
      have u4 : gm_gA M2 159 c = b.1 := by rw [eM2, gm_gA_sA, if_pos ⟨rfl, rfl⟩]
      have y148 := gm_z148 hT2.1
      have y158 := gm_z158 hT2.1
      have m916 := gm_l916 hT2.1
      have v913 : gm_gF (gm_sF (gm_sF (gm_sA M 158 c w) 913 148 b.1) 912 148 b.2) 913 148 = b.1 := rfl
      have start : ∀ R, gm_ex (gm_go d) qX9_takesClause 99999 2 [some (.inr (.inr 148)), some (.inl c)] [] (gm_sF (gm_sF (gm_sA M 158 c w) 913 148 b.1) 912 148 b.2) = R → gm_go (d + 1) 119 [.inr (.inr 148), .inl c] M = R := fun R hR => by
        rw [← hR, eX9_takesClause _ _ _ (Nat.le_of_ble_eq_true rfl)]
        simp (config := { maxSteps := 2000000 }) (disch := first | omega | assumption | (simp only [gm_isO_sF, gm_isO_sA, gm_isO_cp]; assumption)) only [gm_push, gm_iload, gm_lload, gm_aload, gm_istore, gm_astore, gm_iinc, gm_op2, gm_quo, gm_op1, gm_lop2, gm_lshl, gm_i2l, gm_l2i, gm_lcmp, gm_dup, gm_pop1, gm_dup2, gm_goto, gm_ifeq, gm_ifne, gm_iflt, gm_ifge, gm_ifgt, gm_ifle, gm_ceq, gm_cne, gm_clt, gm_cge, gm_cgt, gm_cle, gm_ifnull, gm_ifnonnull, gm_swk, gm_switch, gm_getI, gm_getR, gm_putI, gm_putZ, gm_putR, gm_new, gm_newarr, gm_iald, gm_cald, gm_zald, gm_lald, gm_aald, gm_iast, gm_cast, gm_zast, gm_last, gm_aast, gm_acp, gm_oinit, gm_back, gm_scall, gm_vcall, gm_iret, gm_zret, gm_cret, gm_lret, gm_aret, gm_vret, gm_slen, gm_schar, gm_sidx, gm_lget, gm_lset, gm_nl, gm_ent, gm_wd, gm_pop, gm_pad, gm_xl_c, gm_alen_u, gm_1_sF, gm_1_sA, gm_1_cp, gm_len_sF, gm_len_sA, gm_len_cp, Bool.or_true, Bool.true_or, gm_max_u, gm_min_u, gm_isO_sF, gm_isO_sA, gm_isO_cp, gm_gF_sF, gm_gF_sA, gm_gA_sF, gm_gA_sA, gm_gF_cp, gm_gA_cp, gm_add, gm_sub, gm_mul, gm_neg, ↓reduceIte, Nat.reduceAdd, Nat.reduceLeDiff, true_and, and_true, and_self, true_or, or_true, false_and, and_false, false_or, or_false, eq_self, Nat.reduceEqDiff, Int.reduceEq, Int.reduceLT, Int.reduceLE, Int.reduceNeg, Int.reduceAdd, Int.reduceSub, Int.reduceMul, Int.reduceDiv, Int.reduceMod, reduceCtorEq, if_true, if_false, gm_w_id, xX9_takesClause_0, z148, hhead, hnum]
      by_cases c3 : 1 < w
      · rw [if_pos c3] at h
        obtain ⟨rfl, rfl⟩ := Prod.mk.inj h
        refine ⟨M2, start _ ?_, g2, u1, fun x h => ?_⟩
        · rw [xX9_takesClause_2]
          simp (config := { maxSteps := 2000000 }) (disch := first | omega | assumption | (simp only [gm_isO_sF, gm_isO_sA, gm_isO_cp]; assumption)) only [gm_push, gm_iload, gm_lload, gm_aload, gm_istore, gm_astore, gm_iinc, gm_op2, gm_quo, gm_op1, gm_lop2, gm_lshl, gm_i2l, gm_l2i, gm_lcmp, gm_dup, gm_pop1, gm_dup2, gm_goto, gm_ifeq, gm_ifne, gm_iflt, gm_ifge, gm_ifgt, gm_ifle, gm_ceq, gm_cne, gm_clt, gm_cge, gm_cgt, gm_cle, gm_ifnull, gm_ifnonnull, gm_swk, gm_switch, gm_getI, gm_getR, gm_putI, gm_putZ, gm_putR, gm_new, gm_newarr, gm_iald, gm_cald, gm_zald, gm_lald, gm_aald, gm_iast, gm_cast, gm_zast, gm_last, gm_aast, gm_acp, gm_oinit, gm_back, gm_scall, gm_vcall, gm_iret, gm_zret, gm_cret, gm_lret, gm_aret, gm_vret, gm_slen, gm_schar, gm_sidx, gm_lget, gm_lset, gm_nl, gm_ent, gm_wd, gm_pop, gm_pad, gm_xl_c, gm_alen_u, gm_1_sF, gm_1_sA, gm_1_cp, gm_len_sF, gm_len_sA, gm_len_cp, Bool.or_true, Bool.true_or, gm_max_u, gm_min_u, gm_isO_sF, gm_isO_sA, gm_isO_cp, gm_gF_sF, gm_gF_sA, gm_gA_sF, gm_gA_sA, gm_gF_cp, gm_gA_cp, gm_add, gm_sub, gm_mul, gm_neg, ↓reduceIte, Nat.reduceAdd, Nat.reduceLeDiff, true_and, and_true, and_self, true_or, or_true, false_and, and_false, false_or, or_false, eq_self, Nat.reduceEqDiff, Int.reduceEq, Int.reduceLT, Int.reduceLE, Int.reduceNeg, Int.reduceAdd, Int.reduceSub, Int.reduceMul, Int.reduceDiv, Int.reduceMod, reduceCtorEq, if_true, if_false, gm_w_id, xX9_takesClause_3, xX9_takesClause_5, z148, z159, l917, hin1, ← eM2, y148, y158, m916, hin2, u3, c3, gn_ok2]
        · obtain rfl := Option.some.inj h
          have x0 : gn_xk (w, b.1, gn_Xt 0 0 0) = 0 := by unfold gn_xk; rw [if_neg (by simp only; omega)]
          exact ⟨by rw [u2, x0]; omega, u3, u4, fun z => absurd z (by simp only; omega)⟩
      · rw [if_neg c3] at h
        have htk := r_X9_takes (D := d) (by omega) hT2 u1 (by omega) (s := 32) (by decide)
        by_cases c4 : gn_ch t n b.2 = 32
        · rw [if_neg (fun z => z c4)] at h
          rw [if_pos c4] at htk
          have p1 := gn_ch_lt (t := t) (n := n) (p := b.2) (by omega)
          obtain ⟨⟨r0, q0⟩, hx⟩ := gn_ps_t (t := t) (n := n) 403 3 0 (gn_Xt 0 0 0) (b.2 + 1) (by omega) (by simp only [gn_km]; have := hT.2.2.1; omega)
          have g3 : gn_Mw 158 k k2 c (c + 1) M (gm_sF M2 912 148 (b.2 + 1)) := g2.sF (by decide)
          have hwl := gn_ww_n w
          obtain ⟨M3, e3, g4, q4, r4⟩ := r_X9_takesE (D := d) (by omega) (g3.Tx hT (by decide)) (p := b.2 + 1) rfl (show gm_gF (gm_sF M2 912 148 (b.2 + 1)) 922 148 = k from u2) hk hcc (by omega) (by omega) hx
          have g5 := g3.tr g4 ⟨Int.le_refl _, Int.le_refl _⟩ ⟨⟨Int.le_refl _, Int.le_refl _⟩, by decide⟩
          rw [hx] at h
          have x8 : gm_gA M3 158 c = w := by rw [g4.2.2 158 c (by decide) (by omega) (by omega)]; exact u3
          have x9 : gm_gA M3 159 c = b.1 := by rw [g4.2.2 159 c (by decide) (by omega) (by omega)]; exact u4
          rcases r0 with _ | e
          · simp only at h
            obtain ⟨rfl, rfl⟩ := Prod.mk.inj h
            refine ⟨M3, start _ ?_, g5, q4, fun x h => by simp at h⟩
            rw [xX9_takesClause_2]
            simp (config := { maxSteps := 2000000 }) (disch := first | omega | assumption | (simp only [gm_isO_sF, gm_isO_sA, gm_isO_cp]; assumption)) only [gm_push, gm_iload, gm_lload, gm_aload, gm_istore, gm_astore, gm_iinc, gm_op2, gm_quo, gm_op1, gm_lop2, gm_lshl, gm_i2l, gm_l2i, gm_lcmp, gm_dup, gm_pop1, gm_dup2, gm_goto, gm_ifeq, gm_ifne, gm_iflt, gm_ifge, gm_ifgt, gm_ifle, gm_ceq, gm_cne, gm_clt, gm_cge, gm_cgt, gm_cle, gm_ifnull, gm_ifnonnull, gm_swk, gm_switch, gm_getI, gm_getR, gm_putI, gm_putZ, gm_putR, gm_new, gm_newarr, gm_iald, gm_cald, gm_zald, gm_lald, gm_aald, gm_iast, gm_cast, gm_zast, gm_last, gm_aast, gm_acp, gm_oinit, gm_back, gm_scall, gm_vcall, gm_iret, gm_zret, gm_cret, gm_lret, gm_aret, gm_vret, gm_slen, gm_schar, gm_sidx, gm_lget, gm_lset, gm_nl, gm_ent, gm_wd, gm_pop, gm_pad, gm_xl_c, gm_alen_u, gm_1_sF, gm_1_sA, gm_1_cp, gm_len_sF, gm_len_sA, gm_len_cp, Bool.or_true, Bool.true_or, gm_max_u, gm_min_u, gm_isO_sF, gm_isO_sA, gm_isO_cp, gm_gF_sF, gm_gF_sA, gm_gA_sF, gm_gA_sA, gm_gF_cp, gm_gA_cp, gm_add, gm_sub, gm_mul, gm_neg, ↓reduceIte, Nat.reduceAdd, Nat.reduceLeDiff, true_and, and_true, and_self, true_or, or_true, false_and, and_false, false_or, or_false, eq_self, Nat.reduceEqDiff, Int.reduceEq, Int.reduceLT, Int.reduceLE, Int.reduceNeg, Int.reduceAdd, Int.reduceSub, Int.reduceMul, Int.reduceDiv, Int.reduceMod, reduceCtorEq, if_true, if_false, gm_w_id, xX9_takesClause_4, xX9_takesClause_5, z148, z159, l917, hin1, ← eM2, y148, y158, m916, hin2, u3, c3, htk, e3, gn_ok, gn_ok2]
          · simp only at h
            obtain ⟨rfl, rfl⟩ := Prod.mk.inj h
            refine ⟨M3, start _ ?_, g5, q4, fun x h => ?_⟩
            · rw [xX9_takesClause_2]
              simp (config := { maxSteps := 2000000 }) (disch := first | omega | assumption | (simp only [gm_isO_sF, gm_isO_sA, gm_isO_cp]; assumption)) only [gm_push, gm_iload, gm_lload, gm_aload, gm_istore, gm_astore, gm_iinc, gm_op2, gm_quo, gm_op1, gm_lop2, gm_lshl, gm_i2l, gm_l2i, gm_lcmp, gm_dup, gm_pop1, gm_dup2, gm_goto, gm_ifeq, gm_ifne, gm_iflt, gm_ifge, gm_ifgt, gm_ifle, gm_ceq, gm_cne, gm_clt, gm_cge, gm_cgt, gm_cle, gm_ifnull, gm_ifnonnull, gm_swk, gm_switch, gm_getI, gm_getR, gm_putI, gm_putZ, gm_putR, gm_new, gm_newarr, gm_iald, gm_cald, gm_zald, gm_lald, gm_aald, gm_iast, gm_cast, gm_zast, gm_last, gm_aast, gm_acp, gm_oinit, gm_back, gm_scall, gm_vcall, gm_iret, gm_zret, gm_cret, gm_lret, gm_aret, gm_vret, gm_slen, gm_schar, gm_sidx, gm_lget, gm_lset, gm_nl, gm_ent, gm_wd, gm_pop, gm_pad, gm_xl_c, gm_alen_u, gm_1_sF, gm_1_sA, gm_1_cp, gm_len_sF, gm_len_sA, gm_len_cp, Bool.or_true, Bool.true_or, gm_max_u, gm_min_u, gm_isO_sF, gm_isO_sA, gm_isO_cp, gm_gF_sF, gm_gF_sA, gm_gA_sF, gm_gA_sA, gm_gF_cp, gm_gA_cp, gm_add, gm_sub, gm_mul, gm_neg, ↓reduceIte, Nat.reduceAdd, Nat.reduceLeDiff, true_and, and_true, and_self, true_or, or_true, false_and, and_false, false_or, or_false, eq_self, Nat.reduceEqDiff, Int.reduceEq, Int.reduceLT, Int.reduceLE, Int.reduceNeg, Int.reduceAdd, Int.reduceSub, Int.reduceMul, Int.reduceDiv, Int.reduceMod, reduceCtorEq, if_true, if_false, gm_w_id, xX9_takesClause_3, xX9_takesClause_4, xX9_takesClause_5, z148, z159, l917, hin1, ← eM2, y148, y158, m916, hin2, u3, c3, htk, e3, gn_ok, gn_ok2]
            · obtain rfl := Option.some.inj h
              obtain ⟨s1, s2, s3, s4⟩ := r4 e rfl
              have x0 : gn_xk (w, b.1, e) = gn_sz e := by unfold gn_xk; rw [if_pos (by simp only; omega)]
              exact ⟨by rw [s1, x0], x8, x9, fun _ => ⟨s2, s3, s4⟩⟩
        · rw [if_pos c4] at h
          rw [if_neg c4] at htk
          obtain ⟨rfl, rfl⟩ := Prod.mk.inj h
          refine ⟨M2, start _ ?_, g2, u1, fun x h => by simp at h⟩
          rw [xX9_takesClause_2]
          simp (config := { maxSteps := 2000000 }) (disch := first | omega | assumption | (simp only [gm_isO_sF, gm_isO_sA, gm_isO_cp]; assumption)) only [gm_push, gm_iload, gm_lload, gm_aload, gm_istore, gm_astore, gm_iinc, gm_op2, gm_quo, gm_op1, gm_lop2, gm_lshl, gm_i2l, gm_l2i, gm_lcmp, gm_dup, gm_pop1, gm_dup2, gm_goto, gm_ifeq, gm_ifne, gm_iflt, gm_ifge, gm_ifgt, gm_ifle, gm_ceq, gm_cne, gm_clt, gm_cge, gm_cgt, gm_cle, gm_ifnull, gm_ifnonnull, gm_swk, gm_switch, gm_getI, gm_getR, gm_putI, gm_putZ, gm_putR, gm_new, gm_newarr, gm_iald, gm_cald, gm_zald, gm_lald, gm_aald, gm_iast, gm_cast, gm_zast, gm_last, gm_aast, gm_acp, gm_oinit, gm_back, gm_scall, gm_vcall, gm_iret, gm_zret, gm_cret, gm_lret, gm_aret, gm_vret, gm_slen, gm_schar, gm_sidx, gm_lget, gm_lset, gm_nl, gm_ent, gm_wd, gm_pop, gm_pad, gm_xl_c, gm_alen_u, gm_1_sF, gm_1_sA, gm_1_cp, gm_len_sF, gm_len_sA, gm_len_cp, Bool.or_true, Bool.true_or, gm_max_u, gm_min_u, gm_isO_sF, gm_isO_sA, gm_isO_cp, gm_gF_sF, gm_gF_sA, gm_gA_sF, gm_gA_sA, gm_gF_cp, gm_gA_cp, gm_add, gm_sub, gm_mul, gm_neg, ↓reduceIte, Nat.reduceAdd, Nat.reduceLeDiff, true_and, and_true, and_self, true_or, or_true, false_and, and_false, false_or, or_false, eq_self, Nat.reduceEqDiff, Int.reduceEq, Int.reduceLT, Int.reduceLE, Int.reduceNeg, Int.reduceAdd, Int.reduceSub, Int.reduceMul, Int.reduceDiv, Int.reduceMod, reduceCtorEq, if_true, if_false, gm_w_id, xX9_takesClause_4, xX9_takesClause_5, z148, z159, l917, hin1, ← eM2, y148, y158, m916, hin2, u3, c3, htk, gn_ok2]
