/-! THE MODEL IS ASKED: gives, alike, dry, odds, leaks -/
/-- a house of the model, from what stands in its rows -/
theorem gn_Ms.of {M M3 : gm_M} (hI : gn_Inv M) (hw : gn_Ew M M3) {h : Int} (h1 : 0 ≤ h) (h2 : h < gm_many M) {q : Int × Int} (hq : gm_pok q) (hd : gm_gF M3 901 148 = gm_day M) (hb : gm_gF M3 927 148 = -1) (w1 : gm_gA M3 151 h = q.1) (w2 : gm_gA M3 152 h = q.2) (w3 : gm_gA M3 153 h = gm_gF M 204 (8 + 3 * h)) (w4 : gm_gA M3 154 h = gm_lk M h) (f1 : gm_gF M3 928 148 = 0) (f2 : gm_gF M3 929 148 = -1) (f3 : gm_gF M3 930 148 = -1) :
    gn_Ms M M3 h (gm_day M) q (gm_gF M 204 (8 + 3 * h)) (gm_lk M h) 0 (-1) (-1) := by
  obtain ⟨p1, p2, -⟩ := gn_cap_b hI h1 h2
  have hy := gn_day_b hI
  exact ⟨⟨hw, hd, w1, w2, hb, ⟨by omega, by omega⟩, hq.1, hq.2, Or.inl rfl⟩, ⟨f1, f2, f3, ⟨by decide, by decide⟩, ⟨by decide, by decide⟩, by decide, by decide⟩, ⟨w3, p1⟩, w4, p2⟩
/-- two houses of which one gives heat to the other -/
def gn_E2 (a b : Int) (M1 M2 : gm_M) : Prop := gm_Lay M2 ∧ (∀ (f : Nat) (o : Int), ¬ (o = 148 ∧ f = 933) → gm_gF M2 f o = gm_gF M1 f o) ∧ ∀ x i : Int, ¬ (165 ≤ x ∧ x ≤ 168) → ¬ (x = 152 ∧ (i = a ∨ i = b)) → gm_gA M2 x i = gm_gA M1 x i
theorem gn_E2.S {M M1 M2 : gm_M} (hI : gn_Inv M) (he : gm_Ec M M1) {a b h : Int} (e : gn_E2 a b M1 M2) (h1 : 0 ≤ h) (h2 : h < gm_many M) {s : Int} (hs : gm_gA M2 152 h = s) (hb : 0 ≤ s ∧ s ≤ 5000) : gn_Ms M M2 h (gm_day M) ((gm_qq M (8 + 3 * h)).1, s) (gm_gF M 204 (8 + 3 * h)) (gm_lk M h) 0 (-1) (-1) := by
  obtain ⟨⟨-, a2, a3, a4, a5, -⟩, ⟨b1, b2, b3, -⟩, ⟨c1, -⟩, l1, -⟩ := gn_Ms.ini hI he h1 h2
  obtain ⟨e1, e2, e3⟩ := e
  have p6 := (gn_cap_b hI h1 h2).2.2.2.2.2
  refine gn_Ms.of hI ⟨e1, fun f o z => (e2 f o (by omega)).trans (he.2.1 f o (by omega)), fun x i y z => (e3 x i z (by omega)).trans (he.2.2 x i (by omega))⟩ h1 h2 ⟨p6.1, hb⟩ ?_ ?_ ?_ hs ?_ ?_ ?_ ?_ ?_
  · rw [e2 _ _ (by omega)]; exact a2
  · rw [e2 _ _ (by omega)]; exact a5
  · rw [e3 _ _ (by omega) (by omega)]; exact a3
  · rw [e3 _ _ (by omega) (by omega)]; exact c1
  · rw [e3 _ _ (by omega) (by omega)]; exact l1
  · rw [e2 _ _ (by omega)]; exact b1
  · rw [e2 _ _ (by omega)]; exact b2
  · rw [e2 _ _ (by omega)]; exact b3
theorem gn_E2.m {a b : Int} {M1 M2 M3 : gm_M} (e : gn_E2 a b M1 M2) (e2 : gn_Em M2 M3) : gn_E2 a b M1 M3 := ⟨e2.1, fun f o z => (e2.2.1 f o z).trans (e.2.1 f o z), fun x i y z => (e2.2.2 x i y).trans (e.2.2 x i y z)⟩
theorem gn_E2.sA {a b i v : Int} {M1 M2 : gm_M} (e : gn_E2 a b M1 M2) (hi : i = a ∨ i = b) : gn_E2 a b M1 (gm_sA M2 152 i v) := ⟨e.1.sA _ _ _ (by decide), e.2.1, fun x j y z => by
  rw [gm_gA_sA, if_neg (by omega)]
  exact e.2.2 x j y z⟩
theorem gn_E2.fin {a b : Int} {M1 M2 : gm_M} (e : gn_E2 a b M1 M2) (ha : gm_gA M2 152 a = gm_gA M1 152 a) (hb : gm_gA M2 152 b = gm_gA M1 152 b) : gn_Em M1 M2 := ⟨e.1, e.2.1, fun x i y => by
  by_cases z : x = 152 ∧ (i = a ∨ i = b)
  · obtain ⟨rfl, rfl | rfl⟩ := z
    · exact ha
    · exact hb
  · exact e.2.2 x i y z⟩
theorem gn_amD (d : Nat) {M M2 : gm_M} (hI : gn_Inv M) {h : Int} (h1 : 0 ≤ h) (h2 : h < gm_many M) {q : Int × Int} (hS : gn_Ms M M2 h (gm_day M) q (gm_gF M 204 (8 + 3 * h)) (gm_lk M h) 0 (-1) (-1)) : ∃ M3, gn_Em M2 M3 ∧ gm_go (d + 8) 144 [.inr (.inr 148), .inl h, .inl 56] M2 = some (some (.inl (gm_cD M h q)), M3) := by
  have hd := gn_day_b hI
  obtain ⟨M3, hE, e⟩ := r_X9_amissDays d hI h1 h2 (by omega) (n := 56) (by decide) hS
  rw [show (56 : Int).toNat = 56 from rfl, gn_cnt_T hI h1 h2] at e
  exact ⟨M3, hE, e⟩
theorem r_X9_gives (d : Nat) {M M1 : gm_M} (hI : gn_Inv M) (he : gm_Ec M M1) (a b n : Int) (ha : gm_i a) (hb : gm_i b) (hn : gm_i n) :
    ∃ M2, gn_Em M1 M2 ∧ gm_go (d + 9) 153 [.inr (.inr 148), .inl a, .inl b, .inl n] M1 = some (some (.inl (
    if (0 ≤ a ∧ a < gm_many M) ∧ 0 ≤ b ∧ b < gm_many M then (if a = b ∨ ¬ (0 ≤ n ∧ n ≤ 99) then -1002 else gm_both M a b 0 - gm_both M a b (min n (min (gm_qq M (8 + 3 * a)).2 (gm_roo M b - (gm_qq M (8 + 3 * b)).2)))) else -1001)), M2) := by
  have hL := he.1
  have ea := gn_isH (d + 6) hI he.Ew ha
  have eb := gn_isH (d + 6) hI he.Ew hb
  have e1 := r_X9_in (d + 7) n 0 99 M1 hn ⟨by decide, by decide⟩ ⟨by decide, by decide⟩
  have hm : gm_many M ≤ 6 := hI.2.1.1.2
  rw [eX9_gives _ _ _ (Nat.le_of_ble_eq_true rfl)]
  by_cases h : 0 ≤ a ∧ a < gm_many M
  · rw [if_pos h] at ea
    by_cases h' : 0 ≤ b ∧ b < gm_many M
    · rw [if_pos h'] at eb
      rw [if_pos ⟨h, h'⟩]
      by_cases hab : a = b
      · subst hab
        rw [if_pos (Or.inl rfl)]
        refine ⟨M1, gn_Em.rf hL, ?_⟩
        simp (config := { maxSteps := 2000000 }) (disch := first | omega | assumption | (simp only [gm_isO_sF, gm_isO_sA, gm_isO_cp]; assumption)) only [gm_push, gm_iload, gm_lload, gm_aload, gm_istore, gm_astore, gm_iinc, gm_op2, gm_quo, gm_op1, gm_lop2, gm_lshl, gm_i2l, gm_l2i, gm_lcmp, gm_dup, gm_pop1, gm_dup2, gm_goto, gm_ifeq, gm_ifne, gm_iflt, gm_ifge, gm_ifgt, gm_ifle, gm_ceq, gm_cne, gm_clt, gm_cge, gm_cgt, gm_cle, gm_ifnull, gm_ifnonnull, gm_swk, gm_switch, gm_getI, gm_getR, gm_putI, gm_putZ, gm_putR, gm_new, gm_newarr, gm_iald, gm_cald, gm_zald, gm_lald, gm_aald, gm_iast, gm_cast, gm_zast, gm_last, gm_aast, gm_acp, gm_oinit, gm_back, gm_scall, gm_vcall, gm_iret, gm_zret, gm_cret, gm_lret, gm_aret, gm_vret, gm_slen, gm_schar, gm_sidx, gm_lget, gm_lset, gm_nl, gm_ent, gm_wd, gm_pop, gm_pad, gm_xl_c, gm_alen_u, gm_1_sF, gm_1_sA, gm_1_cp, gm_len_sF, gm_len_sA, gm_len_cp, Bool.or_true, Bool.true_or, gm_max_u, gm_min_u, gm_isO_sF, gm_isO_sA, gm_isO_cp, gm_gF_sF, gm_gF_sA, gm_gA_sF, gm_gA_sA, gm_gF_cp, gm_gA_cp, gm_add, gm_sub, gm_mul, gm_neg, ↓reduceIte, Nat.reduceAdd, Nat.reduceLeDiff, true_and, and_true, and_self, true_or, or_true, false_and, and_false, false_or, or_false, eq_self, Nat.reduceEqDiff, Int.reduceEq, Int.reduceLT, Int.reduceLE, Int.reduceNeg, Int.reduceAdd, Int.reduceSub, Int.reduceMul, Int.reduceDiv, Int.reduceMod, reduceCtorEq, if_true, if_false, gm_w_id, gm_l902, gm_l903, gm_l904, gm_l905, gm_l906, gm_l907, gm_l908, gm_l914, gm_l915, gm_l916, gm_l917, gm_l918, gm_l919, gm_l920, gm_l921, gm_l925, gm_l926, gm_l931, gm_l932, gm_l934, gm_l936, gm_l937, gm_l938, gm_l940, gm_l947, gm_l948, gm_l949, gm_l950, gm_l951, gm_l952, gm_l953, gm_l954, gm_l955, gm_l956, gm_l957, gm_l959, gm_l960, gm_l961, gm_l962, gm_l963, gm_z148, gm_z149, gm_z150, gm_z151, gm_z152, gm_z153, gm_z154, gm_z155, gm_z156, gm_z157, gm_z158, gm_z159, gm_z160, gm_z161, gm_z162, gm_z163, gm_z164, gm_z165, gm_z166, gm_z167, gm_z168, gm_z169, gm_z170, gm_z171, gm_z172, gm_z173, gm_z174, gm_z175, gm_z176, gm_z177, gm_z178, gm_z179, gm_z180, gm_z181, gm_z182, gm_z183, gm_z184, gm_z185, gm_z186, gm_z187, gm_z188, gn_i149, gn_i150, gn_i151, gn_i152, gn_i153, gn_i154, gn_i155, gn_i156, gn_i157, gn_i158, gn_i159, gn_i160, gn_i161, gn_i162, gn_i163, gn_i164, gn_i165, gn_i166, gn_i167, gn_i168, gn_i169, gn_i170, gn_i171, gn_i172, gn_i173, gn_i174, gn_i175, gn_i176, gn_i177, gn_i178, gn_i179, gn_i180, gn_i181, gn_i182, gn_i183, gn_i184, gn_i185, gn_i186, gn_i187, gn_i188, xX9_gives_0, xX9_gives_1, xX9_gives_2, xX9_gives_3, xX9_gives_4, ea]
      · by_cases hn2 : 0 ≤ n ∧ n ≤ 99
        · rw [if_pos hn2] at e1
          rw [if_neg (by omega)]
          obtain ⟨p1, p2, p3, p4, p5, p6⟩ := gn_cap_b hI h.1 h.2
          obtain ⟨q1, q2, q3, q4, q5, q6⟩ := gn_cap_b hI h'.1 h'.2
          have hSa := gn_Ms.ini hI he h.1 h.2
          have hSb := gn_Ms.ini hI he h'.1 h'.2
          have va : gm_gA M1 152 a = (gm_qq M (8 + 3 * a)).2 := hSa.1.2.2.2.1
          have vb : gm_gA M1 152 b = (gm_qq M (8 + 3 * b)).2 := hSb.1.2.2.2.1
          have vcb : gm_gA M1 153 b = gm_gF M 204 (8 + 3 * b) := hSb.2.2.1.1
          obtain ⟨M2, hE2, x2⟩ := gn_amD d hI h.1 h.2 hSa
          obtain ⟨M3, hE3, x3⟩ := gn_amD d hI h'.1 h'.2 (hSb.m hE2)
          have hE13 := hE2.tr hE3
          have va3 : gm_gA M3 152 a = (gm_qq M (8 + 3 * a)).2 := by rw [hE13.2.2 _ _ (by omega)]; exact va
          have vb3 : gm_gA M3 152 b = (gm_qq M (8 + 3 * b)).2 := by rw [hE13.2.2 _ _ (by omega)]; exact vb
          have vc3 : gm_gA M3 153 b = gm_gF M 204 (8 + 3 * b) := by rw [hE13.2.2 _ _ (by omega)]; exact vcb
          obtain ⟨-, k1, k2, k3, k4, -⟩ := gn_kv hI (he.Ew.m hE13) h'.1 h'.2
          have er := r_X9_roomOf (d + 7) hE3.1 h'.1 (by omega) k1 k2 vc3 k3 k4 q1
          rw [show (if gm_gF M 201 (8 + 3 * b) = 2 ∨ gm_gF M 201 (8 + 3 * b) = 5 then gm_gF M 204 (8 + 3 * b) + gm_gF M 202 (8 + 3 * b) else gm_gF M 204 (8 + 3 * b)) = gm_roo M b from q3] at er
          generalize hsa : (gm_qq M (8 + 3 * a)).2 = sa at *
          generalize hsb : (gm_qq M (8 + 3 * b)).2 = sb at *
          have el := r_X9_least (d + 7) sa (gm_roo M b - sb) M3 ⟨by omega, by omega⟩ ⟨by omega, by omega⟩
          have el2 := r_X9_least (d + 7) n (min sa (gm_roo M b - sb)) M3 ⟨by omega, by omega⟩ ⟨by omega, by omega⟩
          have gb : 0 ≤ min n (min sa (gm_roo M b - sb)) ∧ min n (min sa (gm_roo M b - sb)) ≤ 99 ∧ min n (min sa (gm_roo M b - sb)) ≤ sa ∧ sb + min n (min sa (gm_roo M b - sb)) ≤ 108 := by omega
          generalize min n (min sa (gm_roo M b - sb)) = g at *
          have hF : gn_E2 a b M1 M3 := ⟨hE13.1, hE13.2.1, fun x i y _ => hE13.2.2 x i y⟩
          have hF4 := (hF.sA (v := sa - g) (Or.inl rfl)).sA (v := sb + g) (i := b) (Or.inr rfl)
          have va4 : gm_gA (gm_sA (gm_sA M3 152 a (sa - g)) 152 b (sb + g)) 152 a = sa - g := by rw [gm_gA_sA, if_neg (by omega), gm_gA_sA, if_pos ⟨rfl, rfl⟩]
          have vb4 : gm_gA (gm_sA (gm_sA M3 152 a (sa - g)) 152 b (sb + g)) 152 b = sb + g := by rw [gm_gA_sA, if_pos ⟨rfl, rfl⟩]
          have vb5 : gm_gA (gm_sA M3 152 a (sa - g)) 152 b = sb := by rw [gm_gA_sA, if_neg (by omega)]; exact vb3
          have hS4 := hF4.S hI he h.1 h.2 va4 ⟨by omega, by omega⟩
          obtain ⟨M5, hE5, x5⟩ := gn_amD d hI h.1 h.2 hS4
          have hF5 := hF4.m hE5
          have vb6 : gm_gA M5 152 b = sb + g := by rw [hE5.2.2 _ _ (by omega)]; exact vb4
          have hS5 := hF5.S hI he h'.1 h'.2 vb6 ⟨by omega, by omega⟩
          obtain ⟨M6, hE6, x6⟩ := gn_amD d hI h'.1 h'.2 hS5
          have hF6 := hF5.m hE6
          have va7 : gm_gA M6 152 a = sa - g := by rw [hE6.2.2 _ _ (by omega), hE5.2.2 _ _ (by omega)]; exact va4
          have vb7 : gm_gA M6 152 b = sb + g := by rw [hE6.2.2 _ _ (by omega)]; exact vb6
          have hF7 := (hF6.sA (v := sa) (Or.inl rfl)).sA (v := sb) (i := b) (Or.inr rfl)
          have vb8 : gm_gA (gm_sA M6 152 a sa) 152 b = sb + g := by rw [gm_gA_sA, if_neg (by omega)]; exact vb7
          refine ⟨_, hF7.fin ?_ ?_, ?_⟩
          · rw [gm_gA_sA, if_neg (by omega), gm_gA_sA, if_pos ⟨rfl, rfl⟩, va]
          · rw [gm_gA_sA, if_pos ⟨rfl, rfl⟩, vb]
          · unfold gm_both
            have b1 := gm_cD_b M a (gm_qq M (8 + 3 * a))
            have b2 := gm_cD_b M b (gm_qq M (8 + 3 * b))
            have b3 := gm_cD_b M a ((gm_qq M (8 + 3 * a)).1, sa - g)
            have b4 := gm_cD_b M b ((gm_qq M (8 + 3 * b)).1, sb + g)
            rw [hsa, hsb, Int.sub_zero, Int.add_zero, show ((gm_qq M (8 + 3 * a)).1, sa) = gm_qq M (8 + 3 * a) from by rw [← hsa], show ((gm_qq M (8 + 3 * b)).1, sb) = gm_qq M (8 + 3 * b) from by rw [← hsb]]
            generalize gm_cD M a (gm_qq M (8 + 3 * a)) = c1 at *
            generalize gm_cD M b (gm_qq M (8 + 3 * b)) = c2 at *
            generalize gm_cD M a ((gm_qq M (8 + 3 * a)).1, sa - g) = c3 at *
            generalize gm_cD M b ((gm_qq M (8 + 3 * b)).1, sb + g) = c4 at *
            have hL2 := hE2.1
            have hL3 := hE3.1
            have hL5 := hE5.1
            have hL6 := hE6.1
            have i0 := h.1
            have i6 : a < 6 := by omega
            have j0 := h'.1
            have j6 : b < 6 := by omega
            have s1 : sa - g + g = sa := by omega
            have s2 : sb + g - g = sb := by omega
            simp (config := { maxSteps := 2000000 }) (disch := first | omega | assumption | (simp only [gm_isO_sF, gm_isO_sA, gm_isO_cp]; assumption)) only [gm_push, gm_iload, gm_lload, gm_aload, gm_istore, gm_astore, gm_iinc, gm_op2, gm_quo, gm_op1, gm_lop2, gm_lshl, gm_i2l, gm_l2i, gm_lcmp, gm_dup, gm_pop1, gm_dup2, gm_goto, gm_ifeq, gm_ifne, gm_iflt, gm_ifge, gm_ifgt, gm_ifle, gm_ceq, gm_cne, gm_clt, gm_cge, gm_cgt, gm_cle, gm_ifnull, gm_ifnonnull, gm_swk, gm_switch, gm_getI, gm_getR, gm_putI, gm_putZ, gm_putR, gm_new, gm_newarr, gm_iald, gm_cald, gm_zald, gm_lald, gm_aald, gm_iast, gm_cast, gm_zast, gm_last, gm_aast, gm_acp, gm_oinit, gm_back, gm_scall, gm_vcall, gm_iret, gm_zret, gm_cret, gm_lret, gm_aret, gm_vret, gm_slen, gm_schar, gm_sidx, gm_lget, gm_lset, gm_nl, gm_ent, gm_wd, gm_pop, gm_pad, gm_xl_c, gm_alen_u, gm_1_sF, gm_1_sA, gm_1_cp, gm_len_sF, gm_len_sA, gm_len_cp, Bool.or_true, Bool.true_or, gm_max_u, gm_min_u, gm_isO_sF, gm_isO_sA, gm_isO_cp, gm_gF_sF, gm_gF_sA, gm_gA_sF, gm_gA_sA, gm_gF_cp, gm_gA_cp, gm_add, gm_sub, gm_mul, gm_neg, ↓reduceIte, Nat.reduceAdd, Nat.reduceLeDiff, true_and, and_true, and_self, true_or, or_true, false_and, and_false, false_or, or_false, eq_self, Nat.reduceEqDiff, Int.reduceEq, Int.reduceLT, Int.reduceLE, Int.reduceNeg, Int.reduceAdd, Int.reduceSub, Int.reduceMul, Int.reduceDiv, Int.reduceMod, reduceCtorEq, if_true, if_false, gm_w_id, gm_l902, gm_l903, gm_l904, gm_l905, gm_l906, gm_l907, gm_l908, gm_l914, gm_l915, gm_l916, gm_l917, gm_l918, gm_l919, gm_l920, gm_l921, gm_l925, gm_l926, gm_l931, gm_l932, gm_l934, gm_l936, gm_l937, gm_l938, gm_l940, gm_l947, gm_l948, gm_l949, gm_l950, gm_l951, gm_l952, gm_l953, gm_l954, gm_l955, gm_l956, gm_l957, gm_l959, gm_l960, gm_l961, gm_l962, gm_l963, gm_z148, gm_z149, gm_z150, gm_z151, gm_z152, gm_z153, gm_z154, gm_z155, gm_z156, gm_z157, gm_z158, gm_z159, gm_z160, gm_z161, gm_z162, gm_z163, gm_z164, gm_z165, gm_z166, gm_z167, gm_z168, gm_z169, gm_z170, gm_z171, gm_z172, gm_z173, gm_z174, gm_z175, gm_z176, gm_z177, gm_z178, gm_z179, gm_z180, gm_z181, gm_z182, gm_z183, gm_z184, gm_z185, gm_z186, gm_z187, gm_z188, gn_i149, gn_i150, gn_i151, gn_i152, gn_i153, gn_i154, gn_i155, gn_i156, gn_i157, gn_i158, gn_i159, gn_i160, gn_i161, gn_i162, gn_i163, gn_i164, gn_i165, gn_i166, gn_i167, gn_i168, gn_i169, gn_i170, gn_i171, gn_i172, gn_i173, gn_i174, gn_i175, gn_i176, gn_i177, gn_i178, gn_i179, gn_i180, gn_i181, gn_i182, gn_i183, gn_i184, gn_i185, gn_i186, gn_i187, gn_i188, xX9_gives_0, xX9_gives_1, xX9_gives_2, xX9_gives_3, xX9_gives_4, ea, eb, hab, e1, x2, x3, va3, vb3, er, el, el2, vb5, x5, x6, va7, vb8, s1, s2]
        · rw [if_neg hn2] at e1
          rw [if_pos (Or.inr hn2)]
          refine ⟨M1, gn_Em.rf hL, ?_⟩
          simp (config := { maxSteps := 2000000 }) (disch := first | omega | assumption | (simp only [gm_isO_sF, gm_isO_sA, gm_isO_cp]; assumption)) only [gm_push, gm_iload, gm_lload, gm_aload, gm_istore, gm_astore, gm_iinc, gm_op2, gm_quo, gm_op1, gm_lop2, gm_lshl, gm_i2l, gm_l2i, gm_lcmp, gm_dup, gm_pop1, gm_dup2, gm_goto, gm_ifeq, gm_ifne, gm_iflt, gm_ifge, gm_ifgt, gm_ifle, gm_ceq, gm_cne, gm_clt, gm_cge, gm_cgt, gm_cle, gm_ifnull, gm_ifnonnull, gm_swk, gm_switch, gm_getI, gm_getR, gm_putI, gm_putZ, gm_putR, gm_new, gm_newarr, gm_iald, gm_cald, gm_zald, gm_lald, gm_aald, gm_iast, gm_cast, gm_zast, gm_last, gm_aast, gm_acp, gm_oinit, gm_back, gm_scall, gm_vcall, gm_iret, gm_zret, gm_cret, gm_lret, gm_aret, gm_vret, gm_slen, gm_schar, gm_sidx, gm_lget, gm_lset, gm_nl, gm_ent, gm_wd, gm_pop, gm_pad, gm_xl_c, gm_alen_u, gm_1_sF, gm_1_sA, gm_1_cp, gm_len_sF, gm_len_sA, gm_len_cp, Bool.or_true, Bool.true_or, gm_max_u, gm_min_u, gm_isO_sF, gm_isO_sA, gm_isO_cp, gm_gF_sF, gm_gF_sA, gm_gA_sF, gm_gA_sA, gm_gF_cp, gm_gA_cp, gm_add, gm_sub, gm_mul, gm_neg, ↓reduceIte, Nat.reduceAdd, Nat.reduceLeDiff, true_and, and_true, and_self, true_or, or_true, false_and, and_false, false_or, or_false, eq_self, Nat.reduceEqDiff, Int.reduceEq, Int.reduceLT, Int.reduceLE, Int.reduceNeg, Int.reduceAdd, Int.reduceSub, Int.reduceMul, Int.reduceDiv, Int.reduceMod, reduceCtorEq, if_true, if_false, gm_w_id, gm_l902, gm_l903, gm_l904, gm_l905, gm_l906, gm_l907, gm_l908, gm_l914, gm_l915, gm_l916, gm_l917, gm_l918, gm_l919, gm_l920, gm_l921, gm_l925, gm_l926, gm_l931, gm_l932, gm_l934, gm_l936, gm_l937, gm_l938, gm_l940, gm_l947, gm_l948, gm_l949, gm_l950, gm_l951, gm_l952, gm_l953, gm_l954, gm_l955, gm_l956, gm_l957, gm_l959, gm_l960, gm_l961, gm_l962, gm_l963, gm_z148, gm_z149, gm_z150, gm_z151, gm_z152, gm_z153, gm_z154, gm_z155, gm_z156, gm_z157, gm_z158, gm_z159, gm_z160, gm_z161, gm_z162, gm_z163, gm_z164, gm_z165, gm_z166, gm_z167, gm_z168, gm_z169, gm_z170, gm_z171, gm_z172, gm_z173, gm_z174, gm_z175, gm_z176, gm_z177, gm_z178, gm_z179, gm_z180, gm_z181, gm_z182, gm_z183, gm_z184, gm_z185, gm_z186, gm_z187, gm_z188, gn_i149, gn_i150, gn_i151, gn_i152, gn_i153, gn_i154, gn_i155, gn_i156, gn_i157, gn_i158, gn_i159, gn_i160, gn_i161, gn_i162, gn_i163, gn_i164, gn_i165, gn_i166, gn_i167, gn_i168, gn_i169, gn_i170, gn_i171, gn_i172, gn_i173, gn_i174, gn_i175, gn_i176, gn_i177, gn_i178, gn_i179, gn_i180, gn_i181, gn_i182, gn_i183, gn_i184, gn_i185, gn_i186, gn_i187, gn_i188, xX9_gives_0, xX9_gives_1, xX9_gives_2, xX9_gives_3, xX9_gives_4, ea, eb, hab, e1]
    · rw [if_neg h'] at eb
      rw [if_neg (fun z => h' z.2)]
      refine ⟨M1, gn_Em.rf hL, ?_⟩
      simp (config := { maxSteps := 2000000 }) (disch := first | omega | assumption | (simp only [gm_isO_sF, gm_isO_sA, gm_isO_cp]; assumption)) only [gm_push, gm_iload, gm_lload, gm_aload, gm_istore, gm_astore, gm_iinc, gm_op2, gm_quo, gm_op1, gm_lop2, gm_lshl, gm_i2l, gm_l2i, gm_lcmp, gm_dup, gm_pop1, gm_dup2, gm_goto, gm_ifeq, gm_ifne, gm_iflt, gm_ifge, gm_ifgt, gm_ifle, gm_ceq, gm_cne, gm_clt, gm_cge, gm_cgt, gm_cle, gm_ifnull, gm_ifnonnull, gm_swk, gm_switch, gm_getI, gm_getR, gm_putI, gm_putZ, gm_putR, gm_new, gm_newarr, gm_iald, gm_cald, gm_zald, gm_lald, gm_aald, gm_iast, gm_cast, gm_zast, gm_last, gm_aast, gm_acp, gm_oinit, gm_back, gm_scall, gm_vcall, gm_iret, gm_zret, gm_cret, gm_lret, gm_aret, gm_vret, gm_slen, gm_schar, gm_sidx, gm_lget, gm_lset, gm_nl, gm_ent, gm_wd, gm_pop, gm_pad, gm_xl_c, gm_alen_u, gm_1_sF, gm_1_sA, gm_1_cp, gm_len_sF, gm_len_sA, gm_len_cp, Bool.or_true, Bool.true_or, gm_max_u, gm_min_u, gm_isO_sF, gm_isO_sA, gm_isO_cp, gm_gF_sF, gm_gF_sA, gm_gA_sF, gm_gA_sA, gm_gF_cp, gm_gA_cp, gm_add, gm_sub, gm_mul, gm_neg, ↓reduceIte, Nat.reduceAdd, Nat.reduceLeDiff, true_and, and_true, and_self, true_or, or_true, false_and, and_false, false_or, or_false, eq_self, Nat.reduceEqDiff, Int.reduceEq, Int.reduceLT, Int.reduceLE, Int.reduceNeg, Int.reduceAdd, Int.reduceSub, Int.reduceMul, Int.reduceDiv, Int.reduceMod, reduceCtorEq, if_true, if_false, gm_w_id, gm_l902, gm_l903, gm_l904, gm_l905, gm_l906, gm_l907, gm_l908, gm_l914, gm_l915, gm_l916, gm_l917, gm_l918, gm_l919, gm_l920, gm_l921, gm_l925, gm_l926, gm_l931, gm_l932, gm_l934, gm_l936, gm_l937, gm_l938, gm_l940, gm_l947, gm_l948, gm_l949, gm_l950, gm_l951, gm_l952, gm_l953, gm_l954, gm_l955, gm_l956, gm_l957, gm_l959, gm_l960, gm_l961, gm_l962, gm_l963, gm_z148, gm_z149, gm_z150, gm_z151, gm_z152, gm_z153, gm_z154, gm_z155, gm_z156, gm_z157, gm_z158, gm_z159, gm_z160, gm_z161, gm_z162, gm_z163, gm_z164, gm_z165, gm_z166, gm_z167, gm_z168, gm_z169, gm_z170, gm_z171, gm_z172, gm_z173, gm_z174, gm_z175, gm_z176, gm_z177, gm_z178, gm_z179, gm_z180, gm_z181, gm_z182, gm_z183, gm_z184, gm_z185, gm_z186, gm_z187, gm_z188, gn_i149, gn_i150, gn_i151, gn_i152, gn_i153, gn_i154, gn_i155, gn_i156, gn_i157, gn_i158, gn_i159, gn_i160, gn_i161, gn_i162, gn_i163, gn_i164, gn_i165, gn_i166, gn_i167, gn_i168, gn_i169, gn_i170, gn_i171, gn_i172, gn_i173, gn_i174, gn_i175, gn_i176, gn_i177, gn_i178, gn_i179, gn_i180, gn_i181, gn_i182, gn_i183, gn_i184, gn_i185, gn_i186, gn_i187, gn_i188, xX9_gives_0, xX9_gives_1, xX9_gives_2, xX9_gives_3, xX9_gives_4, ea, eb]
  · rw [if_neg h] at ea
    rw [if_neg (fun z => h z.1)]
    refine ⟨M1, gn_Em.rf hL, ?_⟩
    simp (config := { maxSteps := 2000000 }) (disch := first | omega | assumption | (simp only [gm_isO_sF, gm_isO_sA, gm_isO_cp]; assumption)) only [gm_push, gm_iload, gm_lload, gm_aload, gm_istore, gm_astore, gm_iinc, gm_op2, gm_quo, gm_op1, gm_lop2, gm_lshl, gm_i2l, gm_l2i, gm_lcmp, gm_dup, gm_pop1, gm_dup2, gm_goto, gm_ifeq, gm_ifne, gm_iflt, gm_ifge, gm_ifgt, gm_ifle, gm_ceq, gm_cne, gm_clt, gm_cge, gm_cgt, gm_cle, gm_ifnull, gm_ifnonnull, gm_swk, gm_switch, gm_getI, gm_getR, gm_putI, gm_putZ, gm_putR, gm_new, gm_newarr, gm_iald, gm_cald, gm_zald, gm_lald, gm_aald, gm_iast, gm_cast, gm_zast, gm_last, gm_aast, gm_acp, gm_oinit, gm_back, gm_scall, gm_vcall, gm_iret, gm_zret, gm_cret, gm_lret, gm_aret, gm_vret, gm_slen, gm_schar, gm_sidx, gm_lget, gm_lset, gm_nl, gm_ent, gm_wd, gm_pop, gm_pad, gm_xl_c, gm_alen_u, gm_1_sF, gm_1_sA, gm_1_cp, gm_len_sF, gm_len_sA, gm_len_cp, Bool.or_true, Bool.true_or, gm_max_u, gm_min_u, gm_isO_sF, gm_isO_sA, gm_isO_cp, gm_gF_sF, gm_gF_sA, gm_gA_sF, gm_gA_sA, gm_gF_cp, gm_gA_cp, gm_add, gm_sub, gm_mul, gm_neg, ↓reduceIte, Nat.reduceAdd, Nat.reduceLeDiff, true_and, and_true, and_self, true_or, or_true, false_and, and_false, false_or, or_false, eq_self, Nat.reduceEqDiff, Int.reduceEq, Int.reduceLT, Int.reduceLE, Int.reduceNeg, Int.reduceAdd, Int.reduceSub, Int.reduceMul, Int.reduceDiv, Int.reduceMod, reduceCtorEq, if_true, if_false, gm_w_id, gm_l902, gm_l903, gm_l904, gm_l905, gm_l906, gm_l907, gm_l908, gm_l914, gm_l915, gm_l916, gm_l917, gm_l918, gm_l919, gm_l920, gm_l921, gm_l925, gm_l926, gm_l931, gm_l932, gm_l934, gm_l936, gm_l937, gm_l938, gm_l940, gm_l947, gm_l948, gm_l949, gm_l950, gm_l951, gm_l952, gm_l953, gm_l954, gm_l955, gm_l956, gm_l957, gm_l959, gm_l960, gm_l961, gm_l962, gm_l963, gm_z148, gm_z149, gm_z150, gm_z151, gm_z152, gm_z153, gm_z154, gm_z155, gm_z156, gm_z157, gm_z158, gm_z159, gm_z160, gm_z161, gm_z162, gm_z163, gm_z164, gm_z165, gm_z166, gm_z167, gm_z168, gm_z169, gm_z170, gm_z171, gm_z172, gm_z173, gm_z174, gm_z175, gm_z176, gm_z177, gm_z178, gm_z179, gm_z180, gm_z181, gm_z182, gm_z183, gm_z184, gm_z185, gm_z186, gm_z187, gm_z188, gn_i149, gn_i150, gn_i151, gn_i152, gn_i153, gn_i154, gn_i155, gn_i156, gn_i157, gn_i158, gn_i159, gn_i160, gn_i161, gn_i162, gn_i163, gn_i164, gn_i165, gn_i166, gn_i167, gn_i168, gn_i169, gn_i170, gn_i171, gn_i172, gn_i173, gn_i174, gn_i175, gn_i176, gn_i177, gn_i178, gn_i179, gn_i180, gn_i181, gn_i182, gn_i183, gn_i184, gn_i185, gn_i186, gn_i187, gn_i188, xX9_gives_0, xX9_gives_1, xX9_gives_2, xX9_gives_3, xX9_gives_4, ea]
