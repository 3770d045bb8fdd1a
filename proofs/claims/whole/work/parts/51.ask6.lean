/-! THE CLASS: cap, gives, alike -/
/-- what a house has room for at such a capacity -/
def gm_rmc (M : gm_M) (n c : Int) : Int := if gm_gF M 201 (8 + 3 * n) = 2 ∨ gm_gF M 201 (8 + 3 * n) = 5 then c + gm_gF M 202 (8 + 3 * n) else c
def gm_hup (M : gm_M) (o c r h : Int) : gm_M := gm_sF (gm_sF (gm_sF M 204 o c) 501 (o + 1) r) 500 (o + 1) (min h r)
theorem r_X2_holdUpTo (d : Nat) (o c r h : Int) (M : gm_M) (hL : gm_Lay M) (ho : gm_isO 2 M o = true) (hk : 0 ≤ gm_gF M 201 o ∧ gm_gF M 201 o ≤ 6) (hv : 0 ≤ gm_gF M 202 o ∧ gm_gF M 202 o ≤ 9) (hc : 0 ≤ c ∧ c ≤ 99) (hr : (if gm_gF M 201 o = 2 ∨ gm_gF M 201 o = 5 then c + gm_gF M 202 o else c) = r) (hh : gm_gF M 500 (o + 1) = h) (hb : 0 ≤ h ∧ h ≤ 5000) :
    gm_go (d + 1) 14 [.inr (.inr o), .inl c] M = some (none, gm_hup M o c r h) := by
  rw [eX2_holdUpTo _ _ _ (Nat.le_of_ble_eq_true rfl)]
  have l2 := gm_l205 hL ho
  have k2 := gm_k205 hL ho
  have hrb : 0 ≤ r ∧ r ≤ 108 := by subst hr; split <;> omega
  have e1 : gm_mn h r = min h r := gm_mn_id ⟨by omega, by omega⟩ ⟨by omega, by omega⟩
  unfold gm_hup
  by_cases q2 : gm_gF M 201 o = 2
  · rw [if_pos (Or.inl q2)] at hr
    simp (config := { maxSteps := 2000000 }) (disch := first | omega | assumption | (simp only [gm_isO_sF, gm_isO_sA, gm_isO_cp]; assumption)) only [gm_push, gm_iload, gm_lload, gm_aload, gm_istore, gm_astore, gm_iinc, gm_op2, gm_quo, gm_op1, gm_lop2, gm_lshl, gm_i2l, gm_l2i, gm_lcmp, gm_dup, gm_pop1, gm_dup2, gm_goto, gm_ifeq, gm_ifne, gm_iflt, gm_ifge, gm_ifgt, gm_ifle, gm_ceq, gm_cne, gm_clt, gm_cge, gm_cgt, gm_cle, gm_ifnull, gm_ifnonnull, gm_swk, gm_switch, gm_getI, gm_getR, gm_putI, gm_putZ, gm_putR, gm_new, gm_newarr, gm_iald, gm_cald, gm_zald, gm_lald, gm_aald, gm_iast, gm_cast, gm_zast, gm_last, gm_aast, gm_acp, gm_oinit, gm_back, gm_scall, gm_vcall, gm_iret, gm_zret, gm_cret, gm_lret, gm_aret, gm_vret, gm_slen, gm_schar, gm_sidx, gm_lget, gm_lset, gm_nl, gm_ent, gm_wd, gm_pop, gm_pad, gm_xl_c, gm_alen_u, gm_1_sF, gm_1_sA, gm_1_cp, gm_len_sF, gm_len_sA, gm_len_cp, Bool.or_true, Bool.true_or, gm_max_u, gm_min_u, gm_isO_sF, gm_isO_sA, gm_isO_cp, gm_gF_sF, gm_gF_sA, gm_gA_sF, gm_gA_sA, gm_gF_cp, gm_gA_cp, gm_add, gm_sub, gm_mul, gm_neg, ↓reduceIte, Nat.reduceAdd, Nat.reduceLeDiff, true_and, and_true, and_self, true_or, or_true, false_and, and_false, false_or, or_false, eq_self, Nat.reduceEqDiff, Int.reduceEq, Int.reduceLT, Int.reduceLE, Int.reduceNeg, Int.reduceAdd, Int.reduceSub, Int.reduceMul, Int.reduceDiv, Int.reduceMod, reduceCtorEq, if_true, if_false, gm_w_id, xX2_holdUpTo_0, xX2_holdUpTo_1, xX2_holdUpTo_2, xX2_holdUpTo_3, ho, l2, k2, q2, hr, hh, e1]
  · by_cases q5 : gm_gF M 201 o = 5
    · rw [if_pos (Or.inr q5)] at hr
      simp (config := { maxSteps := 2000000 }) (disch := first | omega | assumption | (simp only [gm_isO_sF, gm_isO_sA, gm_isO_cp]; assumption)) only [gm_push, gm_iload, gm_lload, gm_aload, gm_istore, gm_astore, gm_iinc, gm_op2, gm_quo, gm_op1, gm_lop2, gm_lshl, gm_i2l, gm_l2i, gm_lcmp, gm_dup, gm_pop1, gm_dup2, gm_goto, gm_ifeq, gm_ifne, gm_iflt, gm_ifge, gm_ifgt, gm_ifle, gm_ceq, gm_cne, gm_clt, gm_cge, gm_cgt, gm_cle, gm_ifnull, gm_ifnonnull, gm_swk, gm_switch, gm_getI, gm_getR, gm_putI, gm_putZ, gm_putR, gm_new, gm_newarr, gm_iald, gm_cald, gm_zald, gm_lald, gm_aald, gm_iast, gm_cast, gm_zast, gm_last, gm_aast, gm_acp, gm_oinit, gm_back, gm_scall, gm_vcall, gm_iret, gm_zret, gm_cret, gm_lret, gm_aret, gm_vret, gm_slen, gm_schar, gm_sidx, gm_lget, gm_lset, gm_nl, gm_ent, gm_wd, gm_pop, gm_pad, gm_xl_c, gm_alen_u, gm_1_sF, gm_1_sA, gm_1_cp, gm_len_sF, gm_len_sA, gm_len_cp, Bool.or_true, Bool.true_or, gm_max_u, gm_min_u, gm_isO_sF, gm_isO_sA, gm_isO_cp, gm_gF_sF, gm_gF_sA, gm_gA_sF, gm_gA_sA, gm_gF_cp, gm_gA_cp, gm_add, gm_sub, gm_mul, gm_neg, ↓reduceIte, Nat.reduceAdd, Nat.reduceLeDiff, true_and, and_true, and_self, true_or, or_true, false_and, and_false, false_or, or_false, eq_self, Nat.reduceEqDiff, Int.reduceEq, Int.reduceLT, Int.reduceLE, Int.reduceNeg, Int.reduceAdd, Int.reduceSub, Int.reduceMul, Int.reduceDiv, Int.reduceMod, reduceCtorEq, if_true, if_false, gm_w_id, xX2_holdUpTo_0, xX2_holdUpTo_1, xX2_holdUpTo_2, xX2_holdUpTo_3, ho, l2, k2, q5, hr, hh, e1]
    · rw [if_neg (by omega)] at hr
      subst hr
      simp (config := { maxSteps := 2000000 }) (disch := first | omega | assumption | (simp only [gm_isO_sF, gm_isO_sA, gm_isO_cp]; assumption)) only [gm_push, gm_iload, gm_lload, gm_aload, gm_istore, gm_astore, gm_iinc, gm_op2, gm_quo, gm_op1, gm_lop2, gm_lshl, gm_i2l, gm_l2i, gm_lcmp, gm_dup, gm_pop1, gm_dup2, gm_goto, gm_ifeq, gm_ifne, gm_iflt, gm_ifge, gm_ifgt, gm_ifle, gm_ceq, gm_cne, gm_clt, gm_cge, gm_cgt, gm_cle, gm_ifnull, gm_ifnonnull, gm_swk, gm_switch, gm_getI, gm_getR, gm_putI, gm_putZ, gm_putR, gm_new, gm_newarr, gm_iald, gm_cald, gm_zald, gm_lald, gm_aald, gm_iast, gm_cast, gm_zast, gm_last, gm_aast, gm_acp, gm_oinit, gm_back, gm_scall, gm_vcall, gm_iret, gm_zret, gm_cret, gm_lret, gm_aret, gm_vret, gm_slen, gm_schar, gm_sidx, gm_lget, gm_lset, gm_nl, gm_ent, gm_wd, gm_pop, gm_pad, gm_xl_c, gm_alen_u, gm_1_sF, gm_1_sA, gm_1_cp, gm_len_sF, gm_len_sA, gm_len_cp, Bool.or_true, Bool.true_or, gm_max_u, gm_min_u, gm_isO_sF, gm_isO_sA, gm_isO_cp, gm_gF_sF, gm_gF_sA, gm_gA_sF, gm_gA_sA, gm_gF_cp, gm_gA_cp, gm_add, gm_sub, gm_mul, gm_neg, ↓reduceIte, Nat.reduceAdd, Nat.reduceLeDiff, true_and, and_true, and_self, true_or, or_true, false_and, and_false, false_or, or_false, eq_self, Nat.reduceEqDiff, Int.reduceEq, Int.reduceLT, Int.reduceLE, Int.reduceNeg, Int.reduceAdd, Int.reduceSub, Int.reduceMul, Int.reduceDiv, Int.reduceMod, reduceCtorEq, if_true, if_false, gm_w_id, xX2_holdUpTo_0, xX2_holdUpTo_1, xX2_holdUpTo_2, xX2_holdUpTo_3, ho, l2, k2, q2, q5, hh, e1]
theorem gm_As.hup {M M1 : gm_M} {n o room leak c r : Int} {q : Int × Int} (h : gm_As M n o room leak q M1) (hr : 0 ≤ r ∧ r ≤ 5000) : gm_As M n o r leak (q.1, min q.2 r) (gm_hup M1 o c r q.2) := by
  obtain ⟨⟨a1, a2, a3⟩, a4, a5, a6, a7, a8, a9, a10, a11⟩ := h
  have := a9.2
  exact ⟨⟨a1, a2, a3⟩, a4, by unfold gm_hup; rw [gm_gF_sF, if_pos ⟨rfl, rfl⟩], by unfold gm_hup; rw [gm_gF_sF, if_neg (by simp), gm_gF_sF, if_pos ⟨rfl, rfl⟩], a7, a8, ⟨a9.1, by omega, by omega⟩, hr, a11⟩
theorem gm_Ec.hup {M M1 : gm_M} (he : gm_Ec M M1) (o c r h : Int) (h1 : 50 ≤ o ∧ o + 1 ≤ 80) : gm_Ec M (gm_hup M1 o c r h) := ((he.sF 204 o c (by decide) (by omega)).sF 501 (o + 1) r (by decide) (by omega)).sF 500 (o + 1) _ (by decide) (by omega)
/-- the first amiss with such a capacity -/
def gm_capf (M : gm_M) (n c : Int) : Int := gm_fst (fun k q => gm_stD M n (gm_rmc M n c) (gm_lk M n) (gm_day M + k - 1) 0 q) (gm_am0 M) 56 1 ((gm_qq M (8 + 3 * n)).1, min (gm_qq M (8 + 3 * n)).2 (gm_rmc M n c))
theorem r_X8_cap_loop (d : Nat) (M : gm_M) (hI : gm_CI M) (n : Int) (h1 : 0 ≤ n) (h2 : n < gm_many M) : ∀ (k f : Nat) (x : Int) (M1 : gm_M), gm_Ec M M1 → 3 * (k + 2) ≤ f → x = 100 - k → 0 ≤ x →
    ∃ M2, gm_Ec M M2 ∧ gm_ex (gm_go (d + 6)) qX8_cap f 2 [some (.inr (.inr 1)), some (.inl n), some (.inr (.inr (8 + 3 * n))), some (.inr (.inr (gm_gr M))), some (.inl x)] [] M1 = some (some (.inl (gm_lst (gm_capf M n) k x)), M2) := by
  have hm := hI.2.1
  have hqq := gm_qq_ok (hI.ho h1 h2).2
  obtain ⟨w1, w2, w3, w4, w5, w6, w7, w8⟩ := (hI.ho h1 h2).2
  have hd := hI.2.2.1
  intro k
  induction k with
  | zero =>
    intro f x M1 he hf hx h0
    obtain ⟨f, rfl⟩ : ∃ g, f = g + 3 := ⟨f - 3, by omega⟩
    refine ⟨M1, he, ?_⟩
    have hx' : x = 100 := by omega
    subst hx'
    rw [xX8_cap_2]
    simp (config := { maxSteps := 2000000 }) (disch := first | omega | assumption | (simp only [gm_isO_sF, gm_isO_sA, gm_isO_cp]; assumption)) only [gm_push, gm_iload, gm_lload, gm_aload, gm_istore, gm_astore, gm_iinc, gm_op2, gm_quo, gm_op1, gm_lop2, gm_lshl, gm_i2l, gm_l2i, gm_lcmp, gm_dup, gm_pop1, gm_dup2, gm_goto, gm_ifeq, gm_ifne, gm_iflt, gm_ifge, gm_ifgt, gm_ifle, gm_ceq, gm_cne, gm_clt, gm_cge, gm_cgt, gm_cle, gm_ifnull, gm_ifnonnull, gm_swk, gm_switch, gm_getI, gm_getR, gm_putI, gm_putZ, gm_putR, gm_new, gm_newarr, gm_iald, gm_cald, gm_zald, gm_lald, gm_aald, gm_iast, gm_cast, gm_zast, gm_last, gm_aast, gm_acp, gm_oinit, gm_back, gm_scall, gm_vcall, gm_iret, gm_zret, gm_cret, gm_lret, gm_aret, gm_vret, gm_slen, gm_schar, gm_sidx, gm_lget, gm_lset, gm_nl, gm_ent, gm_wd, gm_pop, gm_pad, gm_xl_c, gm_alen_u, gm_1_sF, gm_1_sA, gm_1_cp, gm_len_sF, gm_len_sA, gm_len_cp, Bool.or_true, Bool.true_or, gm_max_u, gm_min_u, gm_isO_sF, gm_isO_sA, gm_isO_cp, gm_gF_sF, gm_gF_sA, gm_gA_sF, gm_gA_sA, gm_gF_cp, gm_gA_cp, gm_add, gm_sub, gm_mul, gm_neg, ↓reduceIte, Nat.reduceAdd, Nat.reduceLeDiff, true_and, and_true, and_self, true_or, or_true, false_and, and_false, false_or, or_false, eq_self, Nat.reduceEqDiff, Int.reduceEq, Int.reduceLT, Int.reduceLE, Int.reduceNeg, Int.reduceAdd, Int.reduceSub, Int.reduceMul, Int.reduceDiv, Int.reduceMod, reduceCtorEq, if_true, if_false, gm_w_id, xX8_cap_0, xX8_cap_1, xX8_cap_3, xX8_cap_4, gm_lst]
  | succ k ih =>
    intro f x M1 he hf hx h0
    obtain ⟨f, rfl⟩ : ∃ g, f = g + 4 := ⟨f - 4, by omega⟩
    obtain ⟨c1, c2, c3, c4, c5, c6, c7, c8, c9, c10, c11, c12, c13⟩ := gm_cx hI he
    have c14 := c13 n h1 h2
    have h9 : ¬ 99 < x := by omega
    have hb := he.bec 74 (8 + 3 * n) (Or.inl rfl)
    obtain ⟨b1, b2, b3, b4, b5, b6, b7, b8, b9, b10, b11, b12, b13⟩ := gm_cx hI hb
    have hA := gm_bec_As hI he (o := 74) h1 h2
    have hbc := c12 (d + 4) n 74 h1 h2 (Or.inl rfl)
    have hrb : 0 ≤ gm_rmc M n x ∧ gm_rmc M n x ≤ 5000 := by unfold gm_rmc; split <;> omega
    have hh := r_X2_holdUpTo (d + 5) 74 x (gm_rmc M n x) (gm_qq M (8 + 3 * n)).2 _ hb.1 b3 (by rw [hA.1.2.1]; exact w2) (by rw [hA.1.2.2]; exact w3) (by omega) (by rw [hA.1.2.1, hA.1.2.2]; rfl) hA.2.2.1 hqq.2
    have hA2 := hA.hup (c := x) hrb
    have he2 := hb.hup 74 x (gm_rmc M n x) (gm_qq M (8 + 3 * n)).2 (by decide)
    obtain ⟨M2, he3, e⟩ := gm_fst_As hI he2 d h1 h2 (Or.inl rfl) hA2 (day := gm_day M) (by omega)
    obtain ⟨p1, p2, p3, p4, p5, p6, p7, p8, p9, p10, p11, p12, p13⟩ := gm_cx hI he2
    have e' : gm_go (d + 6) 18 [.inr (.inr 74), .inr (.inr (gm_gr M)), .inl (gm_day M)] (gm_hup (gm_bec M1 74 (8 + 3 * n)) 74 x (gm_rmc M n x) (gm_qq M (8 + 3 * n)).2) = some (some (.inl (gm_capf M n x)), M2) := e
    have fb : -5 ≤ gm_capf M n x ∧ gm_capf M n x ≤ 57 := gm_fst_b _ _ 56 1 _ (by decide)
    by_cases hz : gm_capf M n x = -5
    · refine ⟨M2, he3, ?_⟩
      rw [xX8_cap_2]
      rw [hz] at e'
      simp (config := { maxSteps := 2000000 }) (disch := first | omega | assumption | (simp only [gm_isO_sF, gm_isO_sA, gm_isO_cp]; assumption)) only [gm_push, gm_iload, gm_lload, gm_aload, gm_istore, gm_astore, gm_iinc, gm_op2, gm_quo, gm_op1, gm_lop2, gm_lshl, gm_i2l, gm_l2i, gm_lcmp, gm_dup, gm_pop1, gm_dup2, gm_goto, gm_ifeq, gm_ifne, gm_iflt, gm_ifge, gm_ifgt, gm_ifle, gm_ceq, gm_cne, gm_clt, gm_cge, gm_cgt, gm_cle, gm_ifnull, gm_ifnonnull, gm_swk, gm_switch, gm_getI, gm_getR, gm_putI, gm_putZ, gm_putR, gm_new, gm_newarr, gm_iald, gm_cald, gm_zald, gm_lald, gm_aald, gm_iast, gm_cast, gm_zast, gm_last, gm_aast, gm_acp, gm_oinit, gm_back, gm_scall, gm_vcall, gm_iret, gm_zret, gm_cret, gm_lret, gm_aret, gm_vret, gm_slen, gm_schar, gm_sidx, gm_lget, gm_lset, gm_nl, gm_ent, gm_wd, gm_pop, gm_pad, gm_xl_c, gm_alen_u, gm_1_sF, gm_1_sA, gm_1_cp, gm_len_sF, gm_len_sA, gm_len_cp, Bool.or_true, Bool.true_or, gm_max_u, gm_min_u, gm_isO_sF, gm_isO_sA, gm_isO_cp, gm_gF_sF, gm_gF_sA, gm_gA_sF, gm_gA_sA, gm_gF_cp, gm_gA_cp, gm_add, gm_sub, gm_mul, gm_neg, ↓reduceIte, Nat.reduceAdd, Nat.reduceLeDiff, true_and, and_true, and_self, true_or, or_true, false_and, and_false, false_or, or_false, eq_self, Nat.reduceEqDiff, Int.reduceEq, Int.reduceLT, Int.reduceLE, Int.reduceNeg, Int.reduceAdd, Int.reduceSub, Int.reduceMul, Int.reduceDiv, Int.reduceMod, reduceCtorEq, if_true, if_false, gm_w_id, xX8_cap_0, xX8_cap_1, xX8_cap_3, xX8_cap_4, c1, c3, c5, c14, h9, hbc, b1, b2, b3, b5, b7, b8, hh, p1, p2, p3, p5, p7, p8, e']
      simp only [gm_lst, if_pos hz]
    · obtain ⟨M3, he4, e3⟩ := ih (f + 2) (x + 1) M2 he3 (by omega) (by omega) (by omega)
      refine ⟨M3, he4, ?_⟩
      rw [xX8_cap_2]
      simp (config := { maxSteps := 2000000 }) (disch := first | omega | assumption | (simp only [gm_isO_sF, gm_isO_sA, gm_isO_cp]; assumption)) only [gm_push, gm_iload, gm_lload, gm_aload, gm_istore, gm_astore, gm_iinc, gm_op2, gm_quo, gm_op1, gm_lop2, gm_lshl, gm_i2l, gm_l2i, gm_lcmp, gm_dup, gm_pop1, gm_dup2, gm_goto, gm_ifeq, gm_ifne, gm_iflt, gm_ifge, gm_ifgt, gm_ifle, gm_ceq, gm_cne, gm_clt, gm_cge, gm_cgt, gm_cle, gm_ifnull, gm_ifnonnull, gm_swk, gm_switch, gm_getI, gm_getR, gm_putI, gm_putZ, gm_putR, gm_new, gm_newarr, gm_iald, gm_cald, gm_zald, gm_lald, gm_aald, gm_iast, gm_cast, gm_zast, gm_last, gm_aast, gm_acp, gm_oinit, gm_back, gm_scall, gm_vcall, gm_iret, gm_zret, gm_cret, gm_lret, gm_aret, gm_vret, gm_slen, gm_schar, gm_sidx, gm_lget, gm_lset, gm_nl, gm_ent, gm_wd, gm_pop, gm_pad, gm_xl_c, gm_alen_u, gm_1_sF, gm_1_sA, gm_1_cp, gm_len_sF, gm_len_sA, gm_len_cp, Bool.or_true, Bool.true_or, gm_max_u, gm_min_u, gm_isO_sF, gm_isO_sA, gm_isO_cp, gm_gF_sF, gm_gF_sA, gm_gA_sF, gm_gA_sA, gm_gF_cp, gm_gA_cp, gm_add, gm_sub, gm_mul, gm_neg, ↓reduceIte, Nat.reduceAdd, Nat.reduceLeDiff, true_and, and_true, and_self, true_or, or_true, false_and, and_false, false_or, or_false, eq_self, Nat.reduceEqDiff, Int.reduceEq, Int.reduceLT, Int.reduceLE, Int.reduceNeg, Int.reduceAdd, Int.reduceSub, Int.reduceMul, Int.reduceDiv, Int.reduceMod, reduceCtorEq, if_true, if_false, gm_w_id, xX8_cap_0, xX8_cap_1, xX8_cap_3, xX8_cap_4, c1, c3, c5, c14, h9, hbc, b1, b2, b3, b5, b7, b8, hh, p1, p2, p3, p5, p7, p8, e', hz]
      simp only [gm_lst, if_neg hz]
      exact e3
theorem r_X8_cap (d : Nat) (n : Int) (M : gm_M) (hI : gm_CI M) (hn : gm_i n) : ∃ M1, gm_Ec M M1 ∧ gm_go (d + 7) 65 [.inr (.inr 1), .inl n] M = some (some (.inl (
    if 0 ≤ n ∧ n < gm_many M then gm_lst (gm_capf M n) 100 0 else -1)), M1) := by
  have he := gm_Ec.rf hI.1
  obtain ⟨c1, c2, c3, c4, c5, c6, c7, c8, c9, c10, c11, c12, c13⟩ := gm_cx hI he
  have h8 := c11 (d + 5) n hn
  have hg := c10 (d + 5)
  rw [eX8_cap _ _ _ (Nat.le_of_ble_eq_true rfl)]
  unfold gm_ho at h8
  by_cases h : 0 ≤ n ∧ n < gm_many M
  · rw [if_pos h] at h8
    have hpos : ¬ (8 + 3 * n ≤ 0) := by omega
    obtain ⟨M2, he2, e⟩ := r_X8_cap_loop d M hI n h.1 h.2 100 99998 0 M he (by omega) (by omega) (by omega)
    refine ⟨M2, he2, ?_⟩
    rw [if_pos h]
    simp (config := { maxSteps := 2000000 }) (disch := first | omega | assumption | (simp only [gm_isO_sF, gm_isO_sA, gm_isO_cp]; assumption)) only [gm_push, gm_iload, gm_lload, gm_aload, gm_istore, gm_astore, gm_iinc, gm_op2, gm_quo, gm_op1, gm_lop2, gm_lshl, gm_i2l, gm_l2i, gm_lcmp, gm_dup, gm_pop1, gm_dup2, gm_goto, gm_ifeq, gm_ifne, gm_iflt, gm_ifge, gm_ifgt, gm_ifle, gm_ceq, gm_cne, gm_clt, gm_cge, gm_cgt, gm_cle, gm_ifnull, gm_ifnonnull, gm_swk, gm_switch, gm_getI, gm_getR, gm_putI, gm_putZ, gm_putR, gm_new, gm_newarr, gm_iald, gm_cald, gm_zald, gm_lald, gm_aald, gm_iast, gm_cast, gm_zast, gm_last, gm_aast, gm_acp, gm_oinit, gm_back, gm_scall, gm_vcall, gm_iret, gm_zret, gm_cret, gm_lret, gm_aret, gm_vret, gm_slen, gm_schar, gm_sidx, gm_lget, gm_lset, gm_nl, gm_ent, gm_wd, gm_pop, gm_pad, gm_xl_c, gm_alen_u, gm_1_sF, gm_1_sA, gm_1_cp, gm_len_sF, gm_len_sA, gm_len_cp, Bool.or_true, Bool.true_or, gm_max_u, gm_min_u, gm_isO_sF, gm_isO_sA, gm_isO_cp, gm_gF_sF, gm_gF_sA, gm_gA_sF, gm_gA_sA, gm_gF_cp, gm_gA_cp, gm_add, gm_sub, gm_mul, gm_neg, ↓reduceIte, Nat.reduceAdd, Nat.reduceLeDiff, true_and, and_true, and_self, true_or, or_true, false_and, and_false, false_or, or_false, eq_self, Nat.reduceEqDiff, Int.reduceEq, Int.reduceLT, Int.reduceLE, Int.reduceNeg, Int.reduceAdd, Int.reduceSub, Int.reduceMul, Int.reduceDiv, Int.reduceMod, reduceCtorEq, if_true, if_false, gm_w_id, xX8_cap_0, xX8_cap_1, xX8_cap_3, xX8_cap_4, c1, h8, hpos, hg, e]
  · refine ⟨M, he, ?_⟩
    rw [if_neg h] at h8
    rw [if_neg h]
    simp (config := { maxSteps := 2000000 }) (disch := first | omega | assumption | (simp only [gm_isO_sF, gm_isO_sA, gm_isO_cp]; assumption)) only [gm_push, gm_iload, gm_lload, gm_aload, gm_istore, gm_astore, gm_iinc, gm_op2, gm_quo, gm_op1, gm_lop2, gm_lshl, gm_i2l, gm_l2i, gm_lcmp, gm_dup, gm_pop1, gm_dup2, gm_goto, gm_ifeq, gm_ifne, gm_iflt, gm_ifge, gm_ifgt, gm_ifle, gm_ceq, gm_cne, gm_clt, gm_cge, gm_cgt, gm_cle, gm_ifnull, gm_ifnonnull, gm_swk, gm_switch, gm_getI, gm_getR, gm_putI, gm_putZ, gm_putR, gm_new, gm_newarr, gm_iald, gm_cald, gm_zald, gm_lald, gm_aald, gm_iast, gm_cast, gm_zast, gm_last, gm_aast, gm_acp, gm_oinit, gm_back, gm_scall, gm_vcall, gm_iret, gm_zret, gm_cret, gm_lret, gm_aret, gm_vret, gm_slen, gm_schar, gm_sidx, gm_lget, gm_lset, gm_nl, gm_ent, gm_wd, gm_pop, gm_pad, gm_xl_c, gm_alen_u, gm_1_sF, gm_1_sA, gm_1_cp, gm_len_sF, gm_len_sA, gm_len_cp, Bool.or_true, Bool.true_or, gm_max_u, gm_min_u, gm_isO_sF, gm_isO_sA, gm_isO_cp, gm_gF_sF, gm_gF_sA, gm_gA_sF, gm_gA_sA, gm_gF_cp, gm_gA_cp, gm_add, gm_sub, gm_mul, gm_neg, ↓reduceIte, Nat.reduceAdd, Nat.reduceLeDiff, true_and, and_true, and_self, true_or, or_true, false_and, and_false, false_or, or_false, eq_self, Nat.reduceEqDiff, Int.reduceEq, Int.reduceLT, Int.reduceLE, Int.reduceNeg, Int.reduceAdd, Int.reduceSub, Int.reduceMul, Int.reduceDiv, Int.reduceMod, reduceCtorEq, if_true, if_false, gm_w_id, xX8_cap_0, xX8_cap_1, xX8_cap_3, xX8_cap_4, c1, h8]
/-- both, once so much was given -/
def gm_cD (M : gm_M) (n : Int) (q : Int × Int) : Int := (gm_cnt (fun k q => gm_stD M n (gm_roo M n) (gm_lk M n) (gm_day M + k - 1) (gm_dus 0 k) q) (gm_am0 M) 56 1 q).1
def gm_both (M : gm_M) (a b g : Int) : Int := gm_cD M a ((gm_qq M (8 + 3 * a)).1, (gm_qq M (8 + 3 * a)).2 - g) + gm_cD M b ((gm_qq M (8 + 3 * b)).1, (gm_qq M (8 + 3 * b)).2 + g)
theorem gm_cD_b (M : gm_M) (n : Int) (q : Int × Int) : 0 ≤ gm_cD M n q ∧ gm_cD M n q ≤ 56 := gm_cnt_b _ _ _ _ _
theorem r_X8_both (d : Nat) (M M1 : gm_M) (hI : gm_CI M) (he : gm_Ec M M1) (a b g : Int) (a1 : 0 ≤ a) (a2 : a < gm_many M) (b1 : 0 ≤ b) (b2 : b < gm_many M) (hg1 : -5000 ≤ g ∧ g ≤ 5000) (hga : 0 ≤ (gm_qq M (8 + 3 * a)).2 - g ∧ (gm_qq M (8 + 3 * a)).2 - g ≤ 5000) (hgb : 0 ≤ (gm_qq M (8 + 3 * b)).2 + g ∧ (gm_qq M (8 + 3 * b)).2 + g ≤ 5000) :
    ∃ M2, gm_Ec M M2 ∧ gm_go (d + 7) 95 [.inr (.inr 1), .inr (.inr (8 + 3 * a)), .inr (.inr (8 + 3 * b)), .inl g] M1 = some (some (.inl (gm_both M a b g)), M2) := by
  have hm := hI.2.1
  have hd := hI.2.2.1
  obtain ⟨c1, c2, c3, c4, c5, c6, c7, c8, c9, c10, c11, c12, c13⟩ := gm_cx hI he
  have ga := c13 a a1 a2
  have gb := c13 b b1 b2
  have hgr := c10 (d + 5)
  have hB := he.bec 74 (8 + 3 * a) (Or.inl rfl)
  have hA := gm_bec_As hI he (o := 74) a1 a2
  have hbc := c12 (d + 4) a 74 a1 a2 (Or.inl rfl)
  obtain ⟨p1, p2, p3, p4, p5, p6, p7, p8, p9, p10, p11, p12, p13⟩ := gm_cx hI hB
  have hA2 := hA.holds hga
  have f1 : gm_gF (gm_bec M1 74 (8 + 3 * a)) 500 75 = (gm_qq M (8 + 3 * a)).2 := hA.2.2.1
  have l1 : gm_gF (gm_bec M1 74 (8 + 3 * a)) 205 74 = 75 := gm_l205 hB.1 p3
  have k1 : gm_isO 5 (gm_bec M1 74 (8 + 3 * a)) 75 = true := gm_k205 hB.1 p3
  have hB2 := hB.sF 500 75 ((gm_qq M (8 + 3 * a)).2 - g) (by decide) (by decide)
  obtain ⟨q1, q2, q3, q4, q5, q6, q7, q8, q9, q10, q11, q12, q13⟩ := gm_cx hI hB2
  have hbc2 := q12 (d + 4) b 77 b1 b2 (Or.inr rfl)
  have qb := q13 b b1 b2
  generalize hX : gm_sF (gm_bec M1 74 (8 + 3 * a)) 500 75 ((gm_qq M (8 + 3 * a)).2 - g) = X at *
  have hX' : gm_sF (gm_bec M1 74 (8 + 3 * a)) 500 (74 + 1) ((gm_qq M (8 + 3 * a)).2 - g) = X := hX
  rw [hX'] at hA2
  have hB3 := hB2.bec 77 (8 + 3 * b) (Or.inr rfl)
  have hA3 := gm_bec_As hI hB2 (o := 77) b1 b2
  have hA4 := hA2.bec' (o' := 77) (p := 8 + 3 * b) (by omega)
  obtain ⟨r1, r2, r3, r4, r5, r6, r7, r8, r9, r10, r11, r12, r13⟩ := gm_cx hI hB3
  have f2 : gm_gF (gm_bec X 77 (8 + 3 * b)) 500 78 = (gm_qq M (8 + 3 * b)).2 := hA3.2.2.1
  have l2 : gm_gF (gm_bec X 77 (8 + 3 * b)) 205 77 = 78 := gm_l205 hB3.1 r4
  have k2 : gm_isO 5 (gm_bec X 77 (8 + 3 * b)) 78 = true := gm_k205 hB3.1 r4
  have hA5 := hA3.holds hgb
  have hA6 := hA4.holds' (h' := (gm_qq M (8 + 3 * b)).2 + g) (s := 78) (by decide)
  have hB4 := hB3.sF 500 78 ((gm_qq M (8 + 3 * b)).2 + g) (by decide) (by decide)
  obtain ⟨s1, s2, s3, s4, s5, s6, s7, s8, s9, s10, s11, s12, s13⟩ := gm_cx hI hB4
  generalize hY : gm_sF (gm_bec X 77 (8 + 3 * b)) 500 78 ((gm_qq M (8 + 3 * b)).2 + g) = Y at *
  have hY' : gm_sF (gm_bec X 77 (8 + 3 * b)) 500 (77 + 1) ((gm_qq M (8 + 3 * b)).2 + g) = Y := hY
  rw [hY'] at hA5
  obtain ⟨e1, hB5, -⟩ := gm_cnt_As hI hB4 d a1 a2 (Or.inl rfl) hA6 (day := gm_day M) (days := 56) (turned := 0) (by omega) (by decide) (by decide) rfl
  simp only [Int.reduceAdd] at e1 hB5
  generalize hr1 : (gm_cnt (fun k q => gm_stD M a (gm_roo M a) (gm_lk M a) (gm_day M + k - 1) (gm_dus 0 k) q) (gm_am0 M) (Int.toNat 56) 1 ((gm_qq M (8 + 3 * a)).1, (gm_qq M (8 + 3 * a)).2 - g)) = R1 at *
  have hA7 := hA5.hs' (o' := 74) R1.2.1 R1.2.2 (by decide)
  obtain ⟨e2, hB6, -⟩ := gm_cnt_As hI hB5 d b1 b2 (Or.inr rfl) hA7 (day := gm_day M) (days := 56) (turned := 0) (by omega) (by decide) (by decide) rfl
  simp only [Int.reduceAdd] at e2 hB6
  obtain ⟨t1, t2, t3, t4, t5, t6, t7, t8, t9, t10, t11, t12, t13⟩ := gm_cx hI hB5
  refine ⟨_, hB6, ?_⟩
  rw [eX8_amissOfBoth _ _ _ (Nat.le_of_ble_eq_true rfl)]
  simp (config := { maxSteps := 2000000 }) (disch := first | omega | assumption | (simp only [gm_isO_sF, gm_isO_sA, gm_isO_cp]; assumption)) only [gm_push, gm_iload, gm_lload, gm_aload, gm_istore, gm_astore, gm_iinc, gm_op2, gm_quo, gm_op1, gm_lop2, gm_lshl, gm_i2l, gm_l2i, gm_lcmp, gm_dup, gm_pop1, gm_dup2, gm_goto, gm_ifeq, gm_ifne, gm_iflt, gm_ifge, gm_ifgt, gm_ifle, gm_ceq, gm_cne, gm_clt, gm_cge, gm_cgt, gm_cle, gm_ifnull, gm_ifnonnull, gm_swk, gm_switch, gm_getI, gm_getR, gm_putI, gm_putZ, gm_putR, gm_new, gm_newarr, gm_iald, gm_cald, gm_zald, gm_lald, gm_aald, gm_iast, gm_cast, gm_zast, gm_last, gm_aast, gm_acp, gm_oinit, gm_back, gm_scall, gm_vcall, gm_iret, gm_zret, gm_cret, gm_lret, gm_aret, gm_vret, gm_slen, gm_schar, gm_sidx, gm_lget, gm_lset, gm_nl, gm_ent, gm_wd, gm_pop, gm_pad, gm_xl_c, gm_alen_u, gm_1_sF, gm_1_sA, gm_1_cp, gm_len_sF, gm_len_sA, gm_len_cp, Bool.or_true, Bool.true_or, gm_max_u, gm_min_u, gm_isO_sF, gm_isO_sA, gm_isO_cp, gm_gF_sF, gm_gF_sA, gm_gA_sF, gm_gA_sA, gm_gF_cp, gm_gA_cp, gm_add, gm_sub, gm_mul, gm_neg, ↓reduceIte, Nat.reduceAdd, Nat.reduceLeDiff, true_and, and_true, and_self, true_or, or_true, false_and, and_false, false_or, or_false, eq_self, Nat.reduceEqDiff, Int.reduceEq, Int.reduceLT, Int.reduceLE, Int.reduceNeg, Int.reduceAdd, Int.reduceSub, Int.reduceMul, Int.reduceDiv, Int.reduceMod, reduceCtorEq, if_true, if_false, gm_w_id, xX8_amissOfBoth_0, c1, c3, c4, c5, c6, ga, gb, hgr, hbc, p1, p2, p3, p4, p5, p6, f1, l1, k1, hX, q1, q2, q3, q4, q5, q6, q7, q8, qb, hbc2, r1, r2, r3, r4, r5, r6, f2, l2, k2, hY, s1, s2, s3, s4, s5, s6, s7, s8, e1, t1, t2, t3, t4, t5, t6, t7, t8, e2]
  unfold gm_both gm_cD
  rw [← hr1]
  rfl
