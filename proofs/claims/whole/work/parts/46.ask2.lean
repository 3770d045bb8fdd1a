/-! THE CLASS: what is asked, with loops -/
theorem gm_cx {M M1 : gm_M} (hI : gm_CI M) (he : gm_Ec M M1) : gm_isO 8 M1 1 = true ∧ gm_isO 7 M1 2 = true ∧ gm_isO 2 M1 74 = true ∧ gm_isO 2 M1 77 = true ∧ gm_gF M1 804 1 = 74 ∧ gm_gF M1 805 1 = 77 ∧ gm_gF M1 800 1 = 2 ∧ gm_gF M1 702 2 = gm_day M ∧ gm_gF M1 701 2 = gm_many M ∧
    (∀ d, gm_go (d + 1) 94 [.inr (.inr 1)] M1 = some (some (.inr (.inr (gm_gr M))), M1)) ∧ (∀ d n, gm_i n → gm_go (d + 1) 92 [.inr (.inr 1), .inl n] M1 = some (some (.inr (.inr (gm_ho M n))), M1)) ∧
    (∀ d n o, 0 ≤ n → n < gm_many M → (o = 74 ∨ o = 77) → gm_go (d + 2) 13 [.inr (.inr o), .inr (.inr (8 + 3 * n))] M1 = some (none, gm_bec M1 o (8 + 3 * n))) ∧ (∀ n, 0 ≤ n → n < gm_many M → gm_isO 2 M1 (8 + 3 * n) = true) := by
  have hL := he.1
  have hm := hI.2.1
  have egr : gm_gr M1 = gm_gr M := by
    unfold gm_gr
    rw [he.2.1 703 2 (by omega), he.2.1 810 1 (by omega)]
  have emy : gm_many M1 = gm_many M := he.2.1 701 2 (by omega)
  have eho : ∀ n, gm_ho M1 n = gm_ho M n := fun n => by unfold gm_ho; rw [emy]
  have z74 := gm_z74 hL
  have z77 := gm_z77 hL
  have hho : ∀ n, 0 ≤ n → n < gm_many M → gm_isO 2 M1 (8 + 3 * n) = true := fun n h1 h2 => (gm_a3 hL h1 (by omega)).2
  refine ⟨gm_z1 hL, gm_z2 hL, z74, z77, gm_l804 hL, gm_l805 hL, gm_l800 hL, he.2.1 702 2 (by omega), emy, fun d => ?_, fun d n hn => ?_, fun d n o h1 h2 ho => ?_, hho⟩
  · rw [← egr]
    exact r_X8_groundNow d M1 hL (by rw [he.2.1 703 2 (by omega)]; exact hI.2.2.2.1) (by rw [he.2.1 810 1 (by omega)]; exact hI.2.2.2.2.1)
  · rw [← eho]
    exact r_X8_houseAt d n M1 hL (by rw [emy]; exact hm) hn
  · rcases ho with rfl | rfl
    · exact r_X2_become d 74 (8 + 3 * n) M1 hL z74 (hho n h1 h2) (by omega)
    · exact r_X2_become d 77 (8 + 3 * n) M1 hL z77 (hho n h1 h2) (by omega)
/-- a house's days, by numbers -/
def gm_st (M : gm_M) (n : Int) (turned : Int) : Int → Int × Int → Int × Int := fun k q => gm_SC M (gm_gr M) (8 + 3 * n) (gm_day M + k - 1) (gm_dus turned k) q
theorem gm_st_ok {M : gm_M} (hI : gm_CI M) {n : Int} (h1 : 0 ≤ n) (h2 : n < gm_many M) (turned : Int) : ∀ k q, gm_pok q → gm_pok (gm_st M n turned k q) := fun _ _ hq => gm_SC_ok hI.2.2.2.2.2.2 (hI.ho h1 h2).2 _ _ hq
theorem gm_qq_hs (B : gm_M) (o : Int) (q : Int × Int) : gm_qq (gm_hs B o (o + 1) q.1 q.2) o = q := by
  unfold gm_qq
  rw [gm_hs_F, gm_hs_F, if_neg (by simp), if_pos ⟨rfl, rfl⟩, if_pos ⟨rfl, rfl⟩]
theorem gm_SC_hs (B : gm_M) (g o a b : Int) : gm_SC (gm_hs B o (o + 1) a b) g o = gm_SC B g o := rfl
theorem gm_cntT {M M1 : gm_M} (hI : gm_CI M) (he : gm_Ec M M1) (d : Nat) {n o days turned : Int} (h1 : 0 ≤ n) (h2 : n < gm_many M) (ho : o = 74 ∨ o = 77) (b7 : 0 ≤ days ∧ days ≤ 100) (b8 : 0 ≤ turned ∧ turned ≤ 100) {q : Int × Int} (hq : gm_pok q) {r : Int × (Int × Int)} (hr : gm_cnt (gm_st M n turned) (gm_am0 M) days.toNat 1 q = r) :
    gm_go (d + 6) 19 [.inr (.inr o), .inr (.inr (gm_gr M)), .inl (gm_day M), .inl days, .inl turned] (gm_hs (gm_bec M1 o (8 + 3 * n)) o (o + 1) q.1 q.2) = some (some (.inl r.1), gm_hs (gm_bec M1 o (8 + 3 * n)) o (o + 1) r.2.1 r.2.2) := by
  have hm := hI.2.1
  have hd := hI.2.2.1
  have hg := gm_gr_b hI
  obtain ⟨t1, t2, t3, t4, t5, t6⟩ := gm_try hI he h1 h2 ho
  have e := r_X2_amissDays d o (gm_gr M) (gm_day M) days turned (gm_hs (gm_bec M1 o (8 + 3 * n)) o (o + 1) q.1 q.2) (gm_hs_L t1 _ _ _ _) t2 t3 (gm_hs_g t4 _ _ _ _) (gm_hs_o t5 hq.1 hq.2) (by omega) b7 b8 (cq := r) (by
    rw [gm_qq_hs]
    rw [show gm_am (gm_gF (gm_hs (gm_bec M1 o (8 + 3 * n)) o (o + 1) q.1 q.2) 103 (gm_gr M)) (gm_gF (gm_hs (gm_bec M1 o (8 + 3 * n)) o (o + 1) q.1 q.2) 102 (gm_gr M)) = gm_am0 M from gm_am0_e hI (t6.hs o (o + 1) q.1 q.2 (by omega) (by omega))]
    simp only [gm_dp_SC, gm_SC_hs, gm_SC_bec he ho (show 0 < 8 + 3 * n ∧ 8 + 3 * n < 48 by omega) hg.1]
    exact hr)
  rw [e, gm_hs_hs]
theorem gm_dus0 (k : Int) : gm_dus 0 k = 0 := by unfold gm_dus; rw [if_pos rfl]
theorem gm_fstT {M M1 : gm_M} (hI : gm_CI M) (he : gm_Ec M M1) (d : Nat) {n o : Int} (h1 : 0 ≤ n) (h2 : n < gm_many M) (ho : o = 74 ∨ o = 77) {q : Int × Int} (hq : gm_pok q) :
    ∃ M2, gm_Ec M M2 ∧ gm_go (d + 6) 18 [.inr (.inr o), .inr (.inr (gm_gr M)), .inl (gm_day M)] (gm_hs (gm_bec M1 o (8 + 3 * n)) o (o + 1) q.1 q.2) = some (some (.inl (gm_fst (gm_st M n 0) (gm_am0 M) 56 1 q)), M2) := by
  have hm := hI.2.1
  have hd := hI.2.2.1
  have hg := gm_gr_b hI
  obtain ⟨t1, t2, t3, t4, t5, t6⟩ := gm_try hI he h1 h2 ho
  obtain ⟨q', hq', e⟩ := r_X2_firstAmiss d o (gm_gr M) (gm_day M) (gm_hs (gm_bec M1 o (8 + 3 * n)) o (o + 1) q.1 q.2) (gm_hs_L t1 _ _ _ _) t2 t3 (gm_hs_g t4 _ _ _ _) (gm_hs_o t5 hq.1 hq.2) (by omega)
  refine ⟨_, (t6.hs o (o + 1) q.1 q.2 (by omega) (by omega)).hs o (o + 1) q'.1 q'.2 (by omega) (by omega), ?_⟩
  rw [e, gm_qq_hs]
  rw [show gm_am (gm_gF (gm_hs (gm_bec M1 o (8 + 3 * n)) o (o + 1) q.1 q.2) 103 (gm_gr M)) (gm_gF (gm_hs (gm_bec M1 o (8 + 3 * n)) o (o + 1) q.1 q.2) 102 (gm_gr M)) = gm_am0 M from gm_am0_e hI (t6.hs o (o + 1) q.1 q.2 (by omega) (by omega))]
  unfold gm_st
  simp only [gm_dus0, gm_dp_SC, gm_SC_hs, gm_SC_bec he ho (show 0 < 8 + 3 * n ∧ 8 + 3 * n < 48 by omega) hg.1]
/-- NEVER -/
def gm_nev (M : gm_M) : Nat → Int → Int → Int
  | 0, _, fine => fine
  | k + 1, i, fine => gm_nev M k (i + 1) (if gm_first M i = -5 then gm_or fine (gm_shl 1 i) else fine)
theorem gm_fst_b (step : Int → Int × Int → Int × Int) (am : Int → Int) : ∀ (n : Nat) (k : Int) (q : Int × Int), 0 ≤ k → -5 ≤ gm_fst step am n k q ∧ gm_fst step am n k q ≤ k + n
  | 0, k, q, h => by simp only [gm_fst]; omega
  | n + 1, k, q, h => by
    have := gm_fst_b step am n (k + 1) (step k q) (by omega)
    simp only [gm_fst]
    split <;> omega
theorem r_X8_never_loop (d : Nat) (M : gm_M) (hI : gm_CI M) : ∀ (k f : Nat) (i fine : Int) (M1 : gm_M), gm_Ec M M1 → 3 * (k + 1) ≤ f → i = gm_many M - k → 0 ≤ i →
    ∃ M2, gm_Ec M M2 ∧ gm_ex (gm_go (d + 6)) qX8_never f 1 [some (.inr (.inr 1)), some (.inr (.inr (gm_gr M))), some (.inl fine), some (.inl i)] [] M1 = some (some (.inl (gm_nev M k i fine)), M2) := by
  have hm := hI.2.1
  intro k
  induction k with
  | zero =>
    intro f i fine M1 he hf hi h0
    obtain ⟨f, rfl⟩ : ∃ g, f = g + 2 := ⟨f - 2, by omega⟩
    obtain ⟨c1, c2, c3, c4, c5, c6, c7, c8, c9, c10, c11, c12, c13⟩ := gm_cx hI he
    refine ⟨M1, he, ?_⟩
    have h9 : ¬ i < gm_many M := by omega
    rw [xX8_never_1]
    simp (config := { maxSteps := 2000000 }) (disch := first | omega | assumption | (simp only [gm_isO_sF, gm_isO_sA, gm_isO_cp]; assumption)) only [gm_push, gm_iload, gm_lload, gm_aload, gm_istore, gm_astore, gm_iinc, gm_op2, gm_quo, gm_op1, gm_lop2, gm_lshl, gm_i2l, gm_l2i, gm_lcmp, gm_dup, gm_pop1, gm_dup2, gm_goto, gm_ifeq, gm_ifne, gm_iflt, gm_ifge, gm_ifgt, gm_ifle, gm_ceq, gm_cne, gm_clt, gm_cge, gm_cgt, gm_cle, gm_ifnull, gm_ifnonnull, gm_swk, gm_switch, gm_getI, gm_getR, gm_putI, gm_putZ, gm_putR, gm_new, gm_newarr, gm_iald, gm_cald, gm_zald, gm_lald, gm_aald, gm_iast, gm_cast, gm_zast, gm_last, gm_aast, gm_acp, gm_oinit, gm_back, gm_scall, gm_vcall, gm_iret, gm_zret, gm_cret, gm_lret, gm_aret, gm_vret, gm_slen, gm_schar, gm_sidx, gm_lget, gm_lset, gm_nl, gm_ent, gm_wd, gm_pop, gm_pad, gm_xl_c, gm_alen_u, gm_1_sF, gm_1_sA, gm_1_cp, gm_len_sF, gm_len_sA, gm_len_cp, Bool.or_true, Bool.true_or, gm_max_u, gm_min_u, gm_isO_sF, gm_isO_sA, gm_isO_cp, gm_gF_sF, gm_gF_sA, gm_gA_sF, gm_gA_sA, gm_gF_cp, gm_gA_cp, gm_add, gm_sub, gm_mul, gm_neg, ↓reduceIte, Nat.reduceAdd, Nat.reduceLeDiff, true_and, and_true, and_self, true_or, or_true, false_and, and_false, false_or, or_false, eq_self, Nat.reduceEqDiff, Int.reduceEq, Int.reduceLT, Int.reduceLE, Int.reduceNeg, Int.reduceAdd, Int.reduceSub, Int.reduceMul, Int.reduceDiv, Int.reduceMod, reduceCtorEq, if_true, if_false, gm_w_id, xX8_never_0, xX8_never_2, xX8_never_3, c1, c2, c7, c9, h9, gm_nev]
  | succ k ih =>
    intro f i fine M1 he hf hi h0
    obtain ⟨f, rfl⟩ : ∃ g, f = g + 3 := ⟨f - 3, by omega⟩
    obtain ⟨c1, c2, c3, c4, c5, c6, c7, c8, c9, c10, c11, c12, c13⟩ := gm_cx hI he
    have h9 : i < gm_many M := by omega
    obtain ⟨M2, he2, e⟩ := gm_first_try hI he d h0 h9 (Or.inl rfl : (74 : Int) = 74 ∨ (74 : Int) = 77)
    obtain ⟨b1, b2, b3, b4, b5, b6, b7, b8, b9, b10, b11, b12, b13⟩ := gm_cx hI (he.bec 74 (8 + 3 * i) (Or.inl rfl))
    have l7 : gm_gF M1 700 2 = 3 := gm_l700 he.1 c2
    have z3 := gm_z3 he.1
    have y3 := gm_y3 M1
    have ha := gm_a3 he.1 (i := i) h0 (by omega)
    have hin := gm_inI (M := M1) (a := 3) (i := i) y3 h0 (by omega) (by decide)
    have ha3 := gm_alen_k 24 (by decide) (gm_go (d + 6))
    have hbc := c12 (d + 4) i 74 h0 h9 (Or.inl rfl)
    have fb := gm_fst_b (fun k q => gm_SC M (gm_gr M) (8 + 3 * i) (gm_day M + k - 1) 0 q) (gm_am0 M) 56 1 (gm_qq M (8 + 3 * i)) (by decide)
    have fb' : -5 ≤ gm_first M i ∧ gm_first M i ≤ 57 := fb
    have h36 : i < 6 := by omega
    by_cases hz : gm_first M i = -5
    · obtain ⟨M3, he3, e3⟩ := ih (f + 1) (i + 1) (gm_or fine (gm_shl 1 i)) M2 he2 (by omega) (by omega) (by omega)
      refine ⟨M3, he3, ?_⟩
      rw [xX8_never_1]
      rw [hz] at e
      simp (config := { maxSteps := 2000000 }) (disch := first | omega | assumption | (simp only [gm_isO_sF, gm_isO_sA, gm_isO_cp]; assumption)) only [gm_push, gm_iload, gm_lload, gm_aload, gm_istore, gm_astore, gm_iinc, gm_op2, gm_quo, gm_op1, gm_lop2, gm_lshl, gm_i2l, gm_l2i, gm_lcmp, gm_dup, gm_pop1, gm_dup2, gm_goto, gm_ifeq, gm_ifne, gm_iflt, gm_ifge, gm_ifgt, gm_ifle, gm_ceq, gm_cne, gm_clt, gm_cge, gm_cgt, gm_cle, gm_ifnull, gm_ifnonnull, gm_swk, gm_switch, gm_getI, gm_getR, gm_putI, gm_putZ, gm_putR, gm_new, gm_newarr, gm_iald, gm_cald, gm_zald, gm_lald, gm_aald, gm_iast, gm_cast, gm_zast, gm_last, gm_aast, gm_acp, gm_oinit, gm_back, gm_scall, gm_vcall, gm_iret, gm_zret, gm_cret, gm_lret, gm_aret, gm_vret, gm_slen, gm_schar, gm_sidx, gm_lget, gm_lset, gm_nl, gm_ent, gm_wd, gm_pop, gm_pad, gm_xl_c, gm_alen_u, gm_1_sF, gm_1_sA, gm_1_cp, gm_len_sF, gm_len_sA, gm_len_cp, Bool.or_true, Bool.true_or, gm_max_u, gm_min_u, gm_isO_sF, gm_isO_sA, gm_isO_cp, gm_gF_sF, gm_gF_sA, gm_gA_sF, gm_gA_sA, gm_gF_cp, gm_gA_cp, gm_add, gm_sub, gm_mul, gm_neg, ↓reduceIte, Nat.reduceAdd, Nat.reduceLeDiff, true_and, and_true, and_self, true_or, or_true, false_and, and_false, false_or, or_false, eq_self, Nat.reduceEqDiff, Int.reduceEq, Int.reduceLT, Int.reduceLE, Int.reduceNeg, Int.reduceAdd, Int.reduceSub, Int.reduceMul, Int.reduceDiv, Int.reduceMod, reduceCtorEq, if_true, if_false, gm_w_id, xX8_never_0, xX8_never_2, xX8_never_3, c1, c2, c3, c5, c7, c9, h9, h36, l7, z3, y3, ha, hin, ha3, hbc, b1, b2, b3, b5, b7, b8, e]
      rw [e3, gm_nev, if_pos hz]
    · obtain ⟨M3, he3, e3⟩ := ih (f + 1) (i + 1) fine M2 he2 (by omega) (by omega) (by omega)
      refine ⟨M3, he3, ?_⟩
      rw [xX8_never_1]
      simp (config := { maxSteps := 2000000 }) (disch := first | omega | assumption | (simp only [gm_isO_sF, gm_isO_sA, gm_isO_cp]; assumption)) only [gm_push, gm_iload, gm_lload, gm_aload, gm_istore, gm_astore, gm_iinc, gm_op2, gm_quo, gm_op1, gm_lop2, gm_lshl, gm_i2l, gm_l2i, gm_lcmp, gm_dup, gm_pop1, gm_dup2, gm_goto, gm_ifeq, gm_ifne, gm_iflt, gm_ifge, gm_ifgt, gm_ifle, gm_ceq, gm_cne, gm_clt, gm_cge, gm_cgt, gm_cle, gm_ifnull, gm_ifnonnull, gm_swk, gm_switch, gm_getI, gm_getR, gm_putI, gm_putZ, gm_putR, gm_new, gm_newarr, gm_iald, gm_cald, gm_zald, gm_lald, gm_aald, gm_iast, gm_cast, gm_zast, gm_last, gm_aast, gm_acp, gm_oinit, gm_back, gm_scall, gm_vcall, gm_iret, gm_zret, gm_cret, gm_lret, gm_aret, gm_vret, gm_slen, gm_schar, gm_sidx, gm_lget, gm_lset, gm_nl, gm_ent, gm_wd, gm_pop, gm_pad, gm_xl_c, gm_alen_u, gm_1_sF, gm_1_sA, gm_1_cp, gm_len_sF, gm_len_sA, gm_len_cp, Bool.or_true, Bool.true_or, gm_max_u, gm_min_u, gm_isO_sF, gm_isO_sA, gm_isO_cp, gm_gF_sF, gm_gF_sA, gm_gA_sF, gm_gA_sA, gm_gF_cp, gm_gA_cp, gm_add, gm_sub, gm_mul, gm_neg, ↓reduceIte, Nat.reduceAdd, Nat.reduceLeDiff, true_and, and_true, and_self, true_or, or_true, false_and, and_false, false_or, or_false, eq_self, Nat.reduceEqDiff, Int.reduceEq, Int.reduceLT, Int.reduceLE, Int.reduceNeg, Int.reduceAdd, Int.reduceSub, Int.reduceMul, Int.reduceDiv, Int.reduceMod, reduceCtorEq, if_true, if_false, gm_w_id, xX8_never_0, xX8_never_2, xX8_never_3, c1, c2, c3, c5, c7, c9, h9, h36, l7, z3, y3, ha, hin, ha3, hbc, b1, b2, b3, b5, b7, b8, e, hz]
      rw [e3, gm_nev, if_neg hz]
theorem r_X8_never (d : Nat) (M : gm_M) (hI : gm_CI M) : ∃ M1, gm_Ec M M1 ∧ gm_go (d + 7) 64 [.inr (.inr 1)] M = some (some (.inl (gm_nev M (gm_many M).toNat 0 0)), M1) := by
  have hm := hI.2.1
  have he := gm_Ec.rf hI.1
  obtain ⟨c1, c2, c3, c4, c5, c6, c7, c8, c9, c10, c11, c12, c13⟩ := gm_cx hI he
  obtain ⟨M2, he2, e⟩ := r_X8_never_loop d M hI (gm_many M).toNat 99999 0 0 M he (by omega) (by omega) (by omega)
  refine ⟨M2, he2, ?_⟩
  rw [eX8_never _ _ _ (Nat.le_of_ble_eq_true rfl), xX8_never_0]
  simp (config := { maxSteps := 2000000 }) (disch := first | omega | assumption | (simp only [gm_isO_sF, gm_isO_sA, gm_isO_cp]; assumption)) only [gm_push, gm_iload, gm_lload, gm_aload, gm_istore, gm_astore, gm_iinc, gm_op2, gm_quo, gm_op1, gm_lop2, gm_lshl, gm_i2l, gm_l2i, gm_lcmp, gm_dup, gm_pop1, gm_dup2, gm_goto, gm_ifeq, gm_ifne, gm_iflt, gm_ifge, gm_ifgt, gm_ifle, gm_ceq, gm_cne, gm_clt, gm_cge, gm_cgt, gm_cle, gm_ifnull, gm_ifnonnull, gm_swk, gm_switch, gm_getI, gm_getR, gm_putI, gm_putZ, gm_putR, gm_new, gm_newarr, gm_iald, gm_cald, gm_zald, gm_lald, gm_aald, gm_iast, gm_cast, gm_zast, gm_last, gm_aast, gm_acp, gm_oinit, gm_back, gm_scall, gm_vcall, gm_iret, gm_zret, gm_cret, gm_lret, gm_aret, gm_vret, gm_slen, gm_schar, gm_sidx, gm_lget, gm_lset, gm_nl, gm_ent, gm_wd, gm_pop, gm_pad, gm_xl_c, gm_alen_u, gm_1_sF, gm_1_sA, gm_1_cp, gm_len_sF, gm_len_sA, gm_len_cp, Bool.or_true, Bool.true_or, gm_max_u, gm_min_u, gm_isO_sF, gm_isO_sA, gm_isO_cp, gm_gF_sF, gm_gF_sA, gm_gA_sF, gm_gA_sA, gm_gF_cp, gm_gA_cp, gm_add, gm_sub, gm_mul, gm_neg, ↓reduceIte, Nat.reduceAdd, Nat.reduceLeDiff, true_and, and_true, and_self, true_or, or_true, false_and, and_false, false_or, or_false, eq_self, Nat.reduceEqDiff, Int.reduceEq, Int.reduceLT, Int.reduceLE, Int.reduceNeg, Int.reduceAdd, Int.reduceSub, Int.reduceMul, Int.reduceDiv, Int.reduceMod, reduceCtorEq, if_true, if_false, gm_w_id, c1, c10, e]
