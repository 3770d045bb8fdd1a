/-! STEPS: feed, house, day -/
/-- only the text has changed -/
theorem gn_Inv.x {M M1 : gm_M} (hI : gn_Inv M) (hL : gm_Lay M1) (hg : gm_gF M1 810 1 = gm_gF M 810 1) (w0 : gn_W 0 M M1) (w1 : gn_W 1 M M1) (w3 : gn_W 3 M M1) (w4 : gn_W 4 M M1) (w5 : gn_W 5 M M1) (w6 : gn_W 6 M M1) (ht : gn_MT M1) : gn_Inv M1 := by
  obtain ⟨h0, h1, h2, h3, h4, h5, h6, h7, h8⟩ := hI
  obtain ⟨x1, x2⟩ := gn_W0 hg w0 ⟨h1, h2⟩
  exact ⟨hL, x1, x2, gn_W1 w1 h3, ht, gn_W3 w3 h5, gn_W4 w4 h6, gn_W5 hg w5 h7, gn_W6 w6 h8⟩
theorem gn_i2c_f : ∀ n : Fin 128, gm_i2c (n.1 : Int) = (n.1 : Int) := by decide +kernel
theorem gn_i2c {s : Int} (h1 : 0 ≤ s) (h2 : s ≤ 127) : gm_i2c s = s := by
  have := gn_i2c_f ⟨s.toNat, by omega⟩
  simp only [show ((s.toNat : Nat) : Int) = s by omega] at this
  exact this
theorem r_X4_takeSign (d : Nat) {M : gm_M} (hL : gm_Lay M) {s : Int} (hs : 0 ≤ s ∧ s ≤ 127) (hb : 0 ≤ gm_gF M 401 81 ∧ gm_gF M 401 81 ≤ 100) : gm_go (d + 1) 26 [.inr (.inr 81), .inl s] M = if gm_gF M 401 81 < 100 then some (some (.inl 1), gm_sF (gm_sA M 82 (gm_gF M 401 81) s) 401 81 (gm_gF M 401 81 + 1)) else some (some (.inl 0), M) := by
  rw [eX4_takeSign _ _ _ (Nat.le_of_ble_eq_true rfl)]
  have z81 := gm_z81 hL
  have z82 := gm_z82 hL
  have y82 := gm_y82 M
  have l4 := gm_l400 hL
  have ha3 := gm_alen_k 22 (by decide) (gm_go d)
  have s0 := hs.1
  have s1 : s < 65536 := by omega
  by_cases c : gm_gF M 401 81 < 100
  · rw [if_pos c]
    have hin := gm_inI (M := M) y82 (i := gm_gF M 401 81) hb.1 c (by decide)
    simp (config := { maxSteps := 2000000 }) (disch := first | omega | assumption | (simp only [gm_isO_sF, gm_isO_sA, gm_isO_cp]; assumption)) only [gm_push, gm_iload, gm_lload, gm_aload, gm_istore, gm_astore, gm_iinc, gm_op2, gm_quo, gm_op1, gm_lop2, gm_lshl, gm_i2l, gm_l2i, gm_lcmp, gm_dup, gm_pop1, gm_dup2, gm_goto, gm_ifeq, gm_ifne, gm_iflt, gm_ifge, gm_ifgt, gm_ifle, gm_ceq, gm_cne, gm_clt, gm_cge, gm_cgt, gm_cle, gm_ifnull, gm_ifnonnull, gm_swk, gm_switch, gm_getI, gm_getR, gm_putI, gm_putZ, gm_putR, gm_new, gm_newarr, gm_iald, gm_cald, gm_zald, gm_lald, gm_aald, gm_iast, gm_cast, gm_zast, gm_last, gm_aast, gm_acp, gm_oinit, gm_back, gm_scall, gm_vcall, gm_iret, gm_zret, gm_cret, gm_lret, gm_aret, gm_vret, gm_slen, gm_schar, gm_sidx, gm_lget, gm_lset, gm_nl, gm_ent, gm_wd, gm_pop, gm_pad, gm_xl_c, gm_alen_u, gm_1_sF, gm_1_sA, gm_1_cp, gm_len_sF, gm_len_sA, gm_len_cp, Bool.or_true, Bool.true_or, gm_max_u, gm_min_u, gm_isO_sF, gm_isO_sA, gm_isO_cp, gm_gF_sF, gm_gF_sA, gm_gA_sF, gm_gA_sA, gm_gF_cp, gm_gA_cp, gm_add, gm_sub, gm_mul, gm_neg, ↓reduceIte, Nat.reduceAdd, Nat.reduceLeDiff, true_and, and_true, and_self, true_or, or_true, false_and, and_false, false_or, or_false, eq_self, Nat.reduceEqDiff, Int.reduceEq, Int.reduceLT, Int.reduceLE, Int.reduceNeg, Int.reduceAdd, Int.reduceSub, Int.reduceMul, Int.reduceDiv, Int.reduceMod, reduceCtorEq, if_true, if_false, gm_w_id, xX4_takeSign_0, xX4_takeSign_1, z81, z82, y82, l4, ha3, c, hin, s0, s1]
  · rw [if_neg c]
    simp (config := { maxSteps := 2000000 }) (disch := first | omega | assumption | (simp only [gm_isO_sF, gm_isO_sA, gm_isO_cp]; assumption)) only [gm_push, gm_iload, gm_lload, gm_aload, gm_istore, gm_astore, gm_iinc, gm_op2, gm_quo, gm_op1, gm_lop2, gm_lshl, gm_i2l, gm_l2i, gm_lcmp, gm_dup, gm_pop1, gm_dup2, gm_goto, gm_ifeq, gm_ifne, gm_iflt, gm_ifge, gm_ifgt, gm_ifle, gm_ceq, gm_cne, gm_clt, gm_cge, gm_cgt, gm_cle, gm_ifnull, gm_ifnonnull, gm_swk, gm_switch, gm_getI, gm_getR, gm_putI, gm_putZ, gm_putR, gm_new, gm_newarr, gm_iald, gm_cald, gm_zald, gm_lald, gm_aald, gm_iast, gm_cast, gm_zast, gm_last, gm_aast, gm_acp, gm_oinit, gm_back, gm_scall, gm_vcall, gm_iret, gm_zret, gm_cret, gm_lret, gm_aret, gm_vret, gm_slen, gm_schar, gm_sidx, gm_lget, gm_lset, gm_nl, gm_ent, gm_wd, gm_pop, gm_pad, gm_xl_c, gm_alen_u, gm_1_sF, gm_1_sA, gm_1_cp, gm_len_sF, gm_len_sA, gm_len_cp, Bool.or_true, Bool.true_or, gm_max_u, gm_min_u, gm_isO_sF, gm_isO_sA, gm_isO_cp, gm_gF_sF, gm_gF_sA, gm_gA_sF, gm_gA_sA, gm_gF_cp, gm_gA_cp, gm_add, gm_sub, gm_mul, gm_neg, ↓reduceIte, Nat.reduceAdd, Nat.reduceLeDiff, true_and, and_true, and_self, true_or, or_true, false_and, and_false, false_or, or_false, eq_self, Nat.reduceEqDiff, Int.reduceEq, Int.reduceLT, Int.reduceLE, Int.reduceNeg, Int.reduceAdd, Int.reduceSub, Int.reduceMul, Int.reduceDiv, Int.reduceMod, reduceCtorEq, if_true, if_false, gm_w_id, xX4_takeSign_0, xX4_takeSign_1, z81, z82, y82, l4, ha3, c]
theorem s_feed (s : Int) (hs : gm_i s) : gn_Si 58 106 [.inl s] := fun M d xs Ln hI hp => by
  have hL := hI.L
  have z1 := gm_z1 hL
  have z148 := gm_z148 hL
  have l7 := gm_l807 hL
  have z81 := gm_z81 hL
  have e1 := gn_within (d + 18) s 127 M hs ⟨by decide, by decide⟩
  have e2 := r_X9_in (d + 18) s 0 127 M hs ⟨by decide, by decide⟩ ⟨by decide, by decide⟩
  obtain ⟨t5, hb, ht⟩ := hI.2.2.2.2.1
  by_cases c1 : 0 ≤ s ∧ s ≤ 127
  · rw [if_pos c1] at e1
    have e3 := r_X4_takeSign (d + 18) hL c1 hb
    have ei := gn_i2c c1.1 c1.2
    by_cases c2 : gm_gF M 401 81 < 100
    · rw [if_pos c2] at e3
      have c2' : ¬ gm_gF M 401 81 = 100 := by omega
      generalize hn : gm_gF M 401 81 = n at *
      have n0 := hb.1
      generalize hM1 : gm_sF (gm_sA M 82 n s) 401 81 (n + 1) = M1 at *
      have hL1 : gm_Lay M1 := by rw [← hM1]; exact (hL.sA _ _ _ (by decide)).sF _ _ _ (by decide)
      have zz := gm_z148 hL1
      have z81' := gm_z81 hL1
      have f1 : gm_gF M1 911 148 = n := by rw [← hM1]; exact t5
      have f2 : gm_gF M1 401 81 = n + 1 := by rw [← hM1]; rfl
      have l7' := gm_l807 hL1
      have z1' := gm_z1 hL1
      have e22 := r_X9_in (d + 18) s 0 127 M1 hs ⟨by decide, by decide⟩ ⟨by decide, by decide⟩
      rw [if_pos c1] at e22
      refine ⟨n + 1, M1, gm_sF (gm_sA M1 156 n s) 911 148 (n + 1), ?_, ?_, ?_, ?_⟩
      · rw [eX8_feed _ _ _ (Nat.le_of_ble_eq_true rfl)]
        simp (config := { maxSteps := 2000000 }) (disch := first | omega | assumption | (simp only [gm_isO_sF, gm_isO_sA, gm_isO_cp]; assumption)) only [gm_push, gm_iload, gm_lload, gm_aload, gm_istore, gm_astore, gm_iinc, gm_op2, gm_quo, gm_op1, gm_lop2, gm_lshl, gm_i2l, gm_l2i, gm_lcmp, gm_dup, gm_pop1, gm_dup2, gm_goto, gm_ifeq, gm_ifne, gm_iflt, gm_ifge, gm_ifgt, gm_ifle, gm_ceq, gm_cne, gm_clt, gm_cge, gm_cgt, gm_cle, gm_ifnull, gm_ifnonnull, gm_swk, gm_switch, gm_getI, gm_getR, gm_putI, gm_putZ, gm_putR, gm_new, gm_newarr, gm_iald, gm_cald, gm_zald, gm_lald, gm_aald, gm_iast, gm_cast, gm_zast, gm_last, gm_aast, gm_acp, gm_oinit, gm_back, gm_scall, gm_vcall, gm_iret, gm_zret, gm_cret, gm_lret, gm_aret, gm_vret, gm_slen, gm_schar, gm_sidx, gm_lget, gm_lset, gm_nl, gm_ent, gm_wd, gm_pop, gm_pad, gm_xl_c, gm_alen_u, gm_1_sF, gm_1_sA, gm_1_cp, gm_len_sF, gm_len_sA, gm_len_cp, Bool.or_true, Bool.true_or, gm_max_u, gm_min_u, gm_isO_sF, gm_isO_sA, gm_isO_cp, gm_gF_sF, gm_gF_sA, gm_gA_sF, gm_gA_sA, gm_gF_cp, gm_gA_cp, gm_add, gm_sub, gm_mul, gm_neg, ↓reduceIte, Nat.reduceAdd, Nat.reduceLeDiff, true_and, and_true, and_self, true_or, or_true, false_and, and_false, false_or, or_false, eq_self, Nat.reduceEqDiff, Int.reduceEq, Int.reduceLT, Int.reduceLE, Int.reduceNeg, Int.reduceAdd, Int.reduceSub, Int.reduceMul, Int.reduceDiv, Int.reduceMod, reduceCtorEq, if_true, if_false, gm_w_id, xX8_feed_0, xX8_feed_1, xX8_feed_2, xX8_feed_3, z1, l7, z81, e1, ei, e3, z1', l7', z81', f2]
      · rw [eX9_feed _ _ _ (Nat.le_of_ble_eq_true rfl)]
        simp (config := { maxSteps := 2000000 }) (disch := first | omega | assumption | (simp only [gm_isO_sF, gm_isO_sA, gm_isO_cp]; assumption)) only [gm_push, gm_iload, gm_lload, gm_aload, gm_istore, gm_astore, gm_iinc, gm_op2, gm_quo, gm_op1, gm_lop2, gm_lshl, gm_i2l, gm_l2i, gm_lcmp, gm_dup, gm_pop1, gm_dup2, gm_goto, gm_ifeq, gm_ifne, gm_iflt, gm_ifge, gm_ifgt, gm_ifle, gm_ceq, gm_cne, gm_clt, gm_cge, gm_cgt, gm_cle, gm_ifnull, gm_ifnonnull, gm_swk, gm_switch, gm_getI, gm_getR, gm_putI, gm_putZ, gm_putR, gm_new, gm_newarr, gm_iald, gm_cald, gm_zald, gm_lald, gm_aald, gm_iast, gm_cast, gm_zast, gm_last, gm_aast, gm_acp, gm_oinit, gm_back, gm_scall, gm_vcall, gm_iret, gm_zret, gm_cret, gm_lret, gm_aret, gm_vret, gm_slen, gm_schar, gm_sidx, gm_lget, gm_lset, gm_nl, gm_ent, gm_wd, gm_pop, gm_pad, gm_xl_c, gm_alen_u, gm_1_sF, gm_1_sA, gm_1_cp, gm_len_sF, gm_len_sA, gm_len_cp, Bool.or_true, Bool.true_or, gm_max_u, gm_min_u, gm_isO_sF, gm_isO_sA, gm_isO_cp, gm_gF_sF, gm_gF_sA, gm_gA_sF, gm_gA_sA, gm_gF_cp, gm_gA_cp, gm_add, gm_sub, gm_mul, gm_neg, ↓reduceIte, Nat.reduceAdd, Nat.reduceLeDiff, true_and, and_true, and_self, true_or, or_true, false_and, and_false, false_or, or_false, eq_self, Nat.reduceEqDiff, Int.reduceEq, Int.reduceLT, Int.reduceLE, Int.reduceNeg, Int.reduceAdd, Int.reduceSub, Int.reduceMul, Int.reduceDiv, Int.reduceMod, reduceCtorEq, if_true, if_false, gm_w_id, gm_l902, gm_l903, gm_l904, gm_l905, gm_l906, gm_l907, gm_l908, gm_l914, gm_l915, gm_l916, gm_l917, gm_l918, gm_l919, gm_l920, gm_l921, gm_l925, gm_l926, gm_l931, gm_l932, gm_l934, gm_l936, gm_l937, gm_l938, gm_l940, gm_l947, gm_l948, gm_l949, gm_l950, gm_l951, gm_l952, gm_l953, gm_l954, gm_l955, gm_l956, gm_l957, gm_l959, gm_l960, gm_l961, gm_l962, gm_l963, gm_z148, gm_z149, gm_z150, gm_z151, gm_z152, gm_z153, gm_z154, gm_z155, gm_z156, gm_z157, gm_z158, gm_z159, gm_z160, gm_z161, gm_z162, gm_z163, gm_z164, gm_z165, gm_z166, gm_z167, gm_z168, gm_z169, gm_z170, gm_z171, gm_z172, gm_z173, gm_z174, gm_z175, gm_z176, gm_z177, gm_z178, gm_z179, gm_z180, gm_z181, gm_z182, gm_z183, gm_z184, gm_z185, gm_z186, gm_z187, gm_z188, gn_i149, gn_i150, gn_i151, gn_i152, gn_i153, gn_i154, gn_i155, gn_i156, gn_i157, gn_i158, gn_i159, gn_i160, gn_i161, gn_i162, gn_i163, gn_i164, gn_i165, gn_i166, gn_i167, gn_i168, gn_i169, gn_i170, gn_i171, gn_i172, gn_i173, gn_i174, gn_i175, gn_i176, gn_i177, gn_i178, gn_i179, gn_i180, gn_i181, gn_i182, gn_i183, gn_i184, gn_i185, gn_i186, gn_i187, gn_i188, xX9_feed_0, xX9_feed_1, xX9_feed_2, e22, f1, c2']
      · subst hM1
        refine hI.x ((hL1.sA _ _ _ (by decide)).sF _ _ _ (by decide)) rfl ⟨fun f o z => by (simp only [gn_U] at z; (try simp only [gm_gF_sF, gm_gF_sA]); (repeat rw [if_neg (by omega)])), fun a i z => by (simp only [gn_V] at z; (try simp only [gm_gA_sF, gm_gA_sA]); (repeat rw [if_neg (by omega)]))⟩ ⟨fun f o z => by (simp only [gn_U] at z; (try simp only [gm_gF_sF, gm_gF_sA]); (repeat rw [if_neg (by omega)])), fun a i z => by (simp only [gn_V] at z; (try simp only [gm_gA_sF, gm_gA_sA]); (repeat rw [if_neg (by omega)]))⟩ ⟨fun f o z => by (simp only [gn_U] at z; (try simp only [gm_gF_sF, gm_gF_sA]); (repeat rw [if_neg (by omega)])), fun a i z => by (simp only [gn_V] at z; (try simp only [gm_gA_sF, gm_gA_sA]); (repeat rw [if_neg (by omega)]))⟩ ⟨fun f o z => by (simp only [gn_U] at z; (try simp only [gm_gF_sF, gm_gF_sA]); (repeat rw [if_neg (by omega)])), fun a i z => by (simp only [gn_V] at z; (try simp only [gm_gA_sF, gm_gA_sA]); (repeat rw [if_neg (by omega)]))⟩ ⟨fun f o z => by (simp only [gn_U] at z; (try simp only [gm_gF_sF, gm_gF_sA]); (repeat rw [if_neg (by omega)])), fun a i z => by (simp only [gn_V] at z; (try simp only [gm_gA_sF, gm_gA_sA]); (repeat rw [if_neg (by omega)]))⟩ ⟨fun f o z => by (simp only [gn_U] at z; (try simp only [gm_gF_sF, gm_gF_sA]); (repeat rw [if_neg (by omega)])), fun a i z => by (simp only [gn_V] at z; (try simp only [gm_gA_sF, gm_gA_sA]); (repeat rw [if_neg (by omega)]))⟩ ⟨rfl, ⟨?_, ?_⟩, fun i i1 i2 => ?_⟩
        · show 0 ≤ n + 1
          omega
        · show n + 1 ≤ 100
          omega
        · have i2' : i < n + 1 := i2
          by_cases y : i = n
          · subst y
            simp (disch := omega) only [gm_gF_sF, gm_gF_sA, gm_gA_sF, gm_gA_sA, if_neg, if_pos]
            simp only [and_self, if_true]
            exact ⟨trivial, c1⟩
          · simp (disch := omega) only [gm_gF_sF, gm_gF_sA, gm_gA_sF, gm_gA_sA, if_neg, if_pos]
            exact ht i i1 (by omega)
      · subst hM1
        exact (gn_pu.e (fun a i z => by ((try simp only [gm_gA_sF, gm_gA_sA]); (repeat rw [if_neg (by omega)]))) (by ((try simp only [gm_gF_sF, gm_gF_sA]); (repeat rw [if_neg (by omega)]))) hp)
    · rw [if_neg c2] at e3
      rw [if_pos c1] at e2
      have c2' : gm_gF M 401 81 = 100 := by omega
      refine ⟨-4, M, M, ?_, ?_, hI, hp⟩
      · rw [eX8_feed _ _ _ (Nat.le_of_ble_eq_true rfl)]
        simp (config := { maxSteps := 2000000 }) (disch := first | omega | assumption | (simp only [gm_isO_sF, gm_isO_sA, gm_isO_cp]; assumption)) only [gm_push, gm_iload, gm_lload, gm_aload, gm_istore, gm_astore, gm_iinc, gm_op2, gm_quo, gm_op1, gm_lop2, gm_lshl, gm_i2l, gm_l2i, gm_lcmp, gm_dup, gm_pop1, gm_dup2, gm_goto, gm_ifeq, gm_ifne, gm_iflt, gm_ifge, gm_ifgt, gm_ifle, gm_ceq, gm_cne, gm_clt, gm_cge, gm_cgt, gm_cle, gm_ifnull, gm_ifnonnull, gm_swk, gm_switch, gm_getI, gm_getR, gm_putI, gm_putZ, gm_putR, gm_new, gm_newarr, gm_iald, gm_cald, gm_zald, gm_lald, gm_aald, gm_iast, gm_cast, gm_zast, gm_last, gm_aast, gm_acp, gm_oinit, gm_back, gm_scall, gm_vcall, gm_iret, gm_zret, gm_cret, gm_lret, gm_aret, gm_vret, gm_slen, gm_schar, gm_sidx, gm_lget, gm_lset, gm_nl, gm_ent, gm_wd, gm_pop, gm_pad, gm_xl_c, gm_alen_u, gm_1_sF, gm_1_sA, gm_1_cp, gm_len_sF, gm_len_sA, gm_len_cp, Bool.or_true, Bool.true_or, gm_max_u, gm_min_u, gm_isO_sF, gm_isO_sA, gm_isO_cp, gm_gF_sF, gm_gF_sA, gm_gA_sF, gm_gA_sA, gm_gF_cp, gm_gA_cp, gm_add, gm_sub, gm_mul, gm_neg, ↓reduceIte, Nat.reduceAdd, Nat.reduceLeDiff, true_and, and_true, and_self, true_or, or_true, false_and, and_false, false_or, or_false, eq_self, Nat.reduceEqDiff, Int.reduceEq, Int.reduceLT, Int.reduceLE, Int.reduceNeg, Int.reduceAdd, Int.reduceSub, Int.reduceMul, Int.reduceDiv, Int.reduceMod, reduceCtorEq, if_true, if_false, gm_w_id, xX8_feed_0, xX8_feed_1, xX8_feed_2, xX8_feed_3, z1, l7, z81, e1, ei, e3]
      · rw [eX9_feed _ _ _ (Nat.le_of_ble_eq_true rfl)]
        simp (config := { maxSteps := 2000000 }) (disch := first | omega | assumption | (simp only [gm_isO_sF, gm_isO_sA, gm_isO_cp]; assumption)) only [gm_push, gm_iload, gm_lload, gm_aload, gm_istore, gm_astore, gm_iinc, gm_op2, gm_quo, gm_op1, gm_lop2, gm_lshl, gm_i2l, gm_l2i, gm_lcmp, gm_dup, gm_pop1, gm_dup2, gm_goto, gm_ifeq, gm_ifne, gm_iflt, gm_ifge, gm_ifgt, gm_ifle, gm_ceq, gm_cne, gm_clt, gm_cge, gm_cgt, gm_cle, gm_ifnull, gm_ifnonnull, gm_swk, gm_switch, gm_getI, gm_getR, gm_putI, gm_putZ, gm_putR, gm_new, gm_newarr, gm_iald, gm_cald, gm_zald, gm_lald, gm_aald, gm_iast, gm_cast, gm_zast, gm_last, gm_aast, gm_acp, gm_oinit, gm_back, gm_scall, gm_vcall, gm_iret, gm_zret, gm_cret, gm_lret, gm_aret, gm_vret, gm_slen, gm_schar, gm_sidx, gm_lget, gm_lset, gm_nl, gm_ent, gm_wd, gm_pop, gm_pad, gm_xl_c, gm_alen_u, gm_1_sF, gm_1_sA, gm_1_cp, gm_len_sF, gm_len_sA, gm_len_cp, Bool.or_true, Bool.true_or, gm_max_u, gm_min_u, gm_isO_sF, gm_isO_sA, gm_isO_cp, gm_gF_sF, gm_gF_sA, gm_gA_sF, gm_gA_sA, gm_gF_cp, gm_gA_cp, gm_add, gm_sub, gm_mul, gm_neg, ↓reduceIte, Nat.reduceAdd, Nat.reduceLeDiff, true_and, and_true, and_self, true_or, or_true, false_and, and_false, false_or, or_false, eq_self, Nat.reduceEqDiff, Int.reduceEq, Int.reduceLT, Int.reduceLE, Int.reduceNeg, Int.reduceAdd, Int.reduceSub, Int.reduceMul, Int.reduceDiv, Int.reduceMod, reduceCtorEq, if_true, if_false, gm_w_id, gm_l902, gm_l903, gm_l904, gm_l905, gm_l906, gm_l907, gm_l908, gm_l914, gm_l915, gm_l916, gm_l917, gm_l918, gm_l919, gm_l920, gm_l921, gm_l925, gm_l926, gm_l931, gm_l932, gm_l934, gm_l936, gm_l937, gm_l938, gm_l940, gm_l947, gm_l948, gm_l949, gm_l950, gm_l951, gm_l952, gm_l953, gm_l954, gm_l955, gm_l956, gm_l957, gm_l959, gm_l960, gm_l961, gm_l962, gm_l963, gm_z148, gm_z149, gm_z150, gm_z151, gm_z152, gm_z153, gm_z154, gm_z155, gm_z156, gm_z157, gm_z158, gm_z159, gm_z160, gm_z161, gm_z162, gm_z163, gm_z164, gm_z165, gm_z166, gm_z167, gm_z168, gm_z169, gm_z170, gm_z171, gm_z172, gm_z173, gm_z174, gm_z175, gm_z176, gm_z177, gm_z178, gm_z179, gm_z180, gm_z181, gm_z182, gm_z183, gm_z184, gm_z185, gm_z186, gm_z187, gm_z188, gn_i149, gn_i150, gn_i151, gn_i152, gn_i153, gn_i154, gn_i155, gn_i156, gn_i157, gn_i158, gn_i159, gn_i160, gn_i161, gn_i162, gn_i163, gn_i164, gn_i165, gn_i166, gn_i167, gn_i168, gn_i169, gn_i170, gn_i171, gn_i172, gn_i173, gn_i174, gn_i175, gn_i176, gn_i177, gn_i178, gn_i179, gn_i180, gn_i181, gn_i182, gn_i183, gn_i184, gn_i185, gn_i186, gn_i187, gn_i188, xX9_feed_0, xX9_feed_1, xX9_feed_2, e2, t5, c2']
  · rw [if_neg c1] at e1 e2
    refine ⟨-2, M, M, ?_, ?_, hI, hp⟩
    · rw [eX8_feed _ _ _ (Nat.le_of_ble_eq_true rfl)]
      simp (config := { maxSteps := 2000000 }) (disch := first | omega | assumption | (simp only [gm_isO_sF, gm_isO_sA, gm_isO_cp]; assumption)) only [gm_push, gm_iload, gm_lload, gm_aload, gm_istore, gm_astore, gm_iinc, gm_op2, gm_quo, gm_op1, gm_lop2, gm_lshl, gm_i2l, gm_l2i, gm_lcmp, gm_dup, gm_pop1, gm_dup2, gm_goto, gm_ifeq, gm_ifne, gm_iflt, gm_ifge, gm_ifgt, gm_ifle, gm_ceq, gm_cne, gm_clt, gm_cge, gm_cgt, gm_cle, gm_ifnull, gm_ifnonnull, gm_swk, gm_switch, gm_getI, gm_getR, gm_putI, gm_putZ, gm_putR, gm_new, gm_newarr, gm_iald, gm_cald, gm_zald, gm_lald, gm_aald, gm_iast, gm_cast, gm_zast, gm_last, gm_aast, gm_acp, gm_oinit, gm_back, gm_scall, gm_vcall, gm_iret, gm_zret, gm_cret, gm_lret, gm_aret, gm_vret, gm_slen, gm_schar, gm_sidx, gm_lget, gm_lset, gm_nl, gm_ent, gm_wd, gm_pop, gm_pad, gm_xl_c, gm_alen_u, gm_1_sF, gm_1_sA, gm_1_cp, gm_len_sF, gm_len_sA, gm_len_cp, Bool.or_true, Bool.true_or, gm_max_u, gm_min_u, gm_isO_sF, gm_isO_sA, gm_isO_cp, gm_gF_sF, gm_gF_sA, gm_gA_sF, gm_gA_sA, gm_gF_cp, gm_gA_cp, gm_add, gm_sub, gm_mul, gm_neg, ↓reduceIte, Nat.reduceAdd, Nat.reduceLeDiff, true_and, and_true, and_self, true_or, or_true, false_and, and_false, false_or, or_false, eq_self, Nat.reduceEqDiff, Int.reduceEq, Int.reduceLT, Int.reduceLE, Int.reduceNeg, Int.reduceAdd, Int.reduceSub, Int.reduceMul, Int.reduceDiv, Int.reduceMod, reduceCtorEq, if_true, if_false, gm_w_id, xX8_feed_0, xX8_feed_1, xX8_feed_2, xX8_feed_3, z1, e1]
    · rw [eX9_feed _ _ _ (Nat.le_of_ble_eq_true rfl)]
      simp (config := { maxSteps := 2000000 }) (disch := first | omega | assumption | (simp only [gm_isO_sF, gm_isO_sA, gm_isO_cp]; assumption)) only [gm_push, gm_iload, gm_lload, gm_aload, gm_istore, gm_astore, gm_iinc, gm_op2, gm_quo, gm_op1, gm_lop2, gm_lshl, gm_i2l, gm_l2i, gm_lcmp, gm_dup, gm_pop1, gm_dup2, gm_goto, gm_ifeq, gm_ifne, gm_iflt, gm_ifge, gm_ifgt, gm_ifle, gm_ceq, gm_cne, gm_clt, gm_cge, gm_cgt, gm_cle, gm_ifnull, gm_ifnonnull, gm_swk, gm_switch, gm_getI, gm_getR, gm_putI, gm_putZ, gm_putR, gm_new, gm_newarr, gm_iald, gm_cald, gm_zald, gm_lald, gm_aald, gm_iast, gm_cast, gm_zast, gm_last, gm_aast, gm_acp, gm_oinit, gm_back, gm_scall, gm_vcall, gm_iret, gm_zret, gm_cret, gm_lret, gm_aret, gm_vret, gm_slen, gm_schar, gm_sidx, gm_lget, gm_lset, gm_nl, gm_ent, gm_wd, gm_pop, gm_pad, gm_xl_c, gm_alen_u, gm_1_sF, gm_1_sA, gm_1_cp, gm_len_sF, gm_len_sA, gm_len_cp, Bool.or_true, Bool.true_or, gm_max_u, gm_min_u, gm_isO_sF, gm_isO_sA, gm_isO_cp, gm_gF_sF, gm_gF_sA, gm_gA_sF, gm_gA_sA, gm_gF_cp, gm_gA_cp, gm_add, gm_sub, gm_mul, gm_neg, ↓reduceIte, Nat.reduceAdd, Nat.reduceLeDiff, true_and, and_true, and_self, true_or, or_true, false_and, and_false, false_or, or_false, eq_self, Nat.reduceEqDiff, Int.reduceEq, Int.reduceLT, Int.reduceLE, Int.reduceNeg, Int.reduceAdd, Int.reduceSub, Int.reduceMul, Int.reduceDiv, Int.reduceMod, reduceCtorEq, if_true, if_false, gm_w_id, gm_l902, gm_l903, gm_l904, gm_l905, gm_l906, gm_l907, gm_l908, gm_l914, gm_l915, gm_l916, gm_l917, gm_l918, gm_l919, gm_l920, gm_l921, gm_l925, gm_l926, gm_l931, gm_l932, gm_l934, gm_l936, gm_l937, gm_l938, gm_l940, gm_l947, gm_l948, gm_l949, gm_l950, gm_l951, gm_l952, gm_l953, gm_l954, gm_l955, gm_l956, gm_l957, gm_l959, gm_l960, gm_l961, gm_l962, gm_l963, gm_z148, gm_z149, gm_z150, gm_z151, gm_z152, gm_z153, gm_z154, gm_z155, gm_z156, gm_z157, gm_z158, gm_z159, gm_z160, gm_z161, gm_z162, gm_z163, gm_z164, gm_z165, gm_z166, gm_z167, gm_z168, gm_z169, gm_z170, gm_z171, gm_z172, gm_z173, gm_z174, gm_z175, gm_z176, gm_z177, gm_z178, gm_z179, gm_z180, gm_z181, gm_z182, gm_z183, gm_z184, gm_z185, gm_z186, gm_z187, gm_z188, gn_i149, gn_i150, gn_i151, gn_i152, gn_i153, gn_i154, gn_i155, gn_i156, gn_i157, gn_i158, gn_i159, gn_i160, gn_i161, gn_i162, gn_i163, gn_i164, gn_i165, gn_i166, gn_i167, gn_i168, gn_i169, gn_i170, gn_i171, gn_i172, gn_i173, gn_i174, gn_i175, gn_i176, gn_i177, gn_i178, gn_i179, gn_i180, gn_i181, gn_i182, gn_i183, gn_i184, gn_i185, gn_i186, gn_i187, gn_i188, xX9_feed_0, xX9_feed_1, xX9_feed_2, e2]
/-! house -/
def gn_bld (M : gm_M) (o n k v w c r : Int) : gm_M := gm_sA (gm_sA (gm_sA (gm_sA (gm_sF (gm_sF (gm_sF (gm_sF (gm_sF (gm_sF (gm_sF (gm_sF (gm_sF M 200 o n) 201 o k) 202 o v) 203 o w) 500 (o + 1) 0) 502 (o + 1) 0) 204 o c) 501 (o + 1) r) 500 (o + 1) 0) (o + 2) 0 4) (o + 2) 1 4) (o + 2) 2 4) (o + 2) 3 4
theorem gn_len_e {M M' : gm_M} {a : Int} (h : a ≠ 1002) : gm_len M' a = gm_len M a := by
  unfold gm_len
  rw [if_neg h, if_neg h]
theorem r_X2_build (d : Nat) {M : gm_M} (hL : gm_Lay M) {o n k v w c r : Int} (ho : gm_isO 2 M o = true) (ob : o < 200) (bk : 0 ≤ k ∧ k ≤ 6) (bv : 0 ≤ v ∧ v ≤ 9) (bc : 0 ≤ c ∧ c ≤ 99) (hr : (if k = 2 ∨ k = 5 then c + v else c) = r) : gm_go (d + 2) 12 [.inr (.inr o), .inl n, .inl k, .inl v, .inl w, .inl c] M = some (none, gn_bld M o n k v w c r) := by
  have l5 := gm_l205 hL ho
  have k5 := gm_k205 hL ho
  have l6 := gm_l206 hL ho
  have k6 := gm_k206 hL ho
  have n6 := gm_n206 hL ho
  have hL1 : gm_Lay (gm_sF (gm_sF (gm_sF (gm_sF (gm_sF (gm_sF M 200 o n) 201 o k) 202 o v) 203 o w) 500 (o + 1) 0) 502 (o + 1) 0) := (((((hL.sF _ _ _ (by decide)).sF _ _ _ (by decide)).sF _ _ _ (by decide)).sF _ _ _ (by decide)).sF _ _ _ (by decide)).sF _ _ _ (by decide)
  have g1 : gm_gF (gm_sF (gm_sF (gm_sF (gm_sF (gm_sF (gm_sF M 200 o n) 201 o k) 202 o v) 203 o w) 500 (o + 1) 0) 502 (o + 1) 0) 201 o = k := by
    simp only [gm_gF_sF, Nat.reduceEqDiff, false_and, true_and, ↓reduceIte]
  have g2 : gm_gF (gm_sF (gm_sF (gm_sF (gm_sF (gm_sF (gm_sF M 200 o n) 201 o k) 202 o v) 203 o w) 500 (o + 1) 0) 502 (o + 1) 0) 202 o = v := by
    simp only [gm_gF_sF, Nat.reduceEqDiff, false_and, true_and, ↓reduceIte]
  have g3 : gm_gF (gm_sF (gm_sF (gm_sF (gm_sF (gm_sF (gm_sF M 200 o n) 201 o k) 202 o v) 203 o w) 500 (o + 1) 0) 502 (o + 1) 0) 500 (o + 1) = 0 := by
    simp only [gm_gF_sF, Nat.reduceEqDiff, false_and, true_and, ↓reduceIte]
  have hh := r_X2_holdUpTo d o c r 0 _ hL1 ho (by rw [g1]; exact bk) (by rw [g2]; exact bv) bc (by rw [g1, g2]; exact hr) g3 (by decide)
  have r0 : min 0 r = 0 := by
    have : 0 ≤ r := by rw [← hr]; split <;> omega
    omega
  unfold gm_hup at hh
  rw [r0] at hh
  have q0 : ∀ M' : gm_M, gm_in M' (o + 2) 0 = true := fun M' => gm_inI ((gn_len_e (by omega)).trans n6) (by decide) (by decide) (by decide)
  have q1 : ∀ M' : gm_M, gm_in M' (o + 2) 1 = true := fun M' => gm_inI ((gn_len_e (by omega)).trans n6) (by decide) (by decide) (by decide)
  have q2 : ∀ M' : gm_M, gm_in M' (o + 2) 2 = true := fun M' => gm_inI ((gn_len_e (by omega)).trans n6) (by decide) (by decide) (by decide)
  have q3 : ∀ M' : gm_M, gm_in M' (o + 2) 3 = true := fun M' => gm_inI ((gn_len_e (by omega)).trans n6) (by decide) (by decide) (by decide)
  have ha3 := gm_alen_k 20 (by decide) (gm_go (d + 1))
  rw [eX2_build _ _ _ (Nat.le_of_ble_eq_true rfl)]
  unfold gn_bld
  simp (config := { maxSteps := 2000000 }) (disch := first | omega | assumption | (simp only [gm_isO_sF, gm_isO_sA, gm_isO_cp]; assumption)) only [gm_push, gm_iload, gm_lload, gm_aload, gm_istore, gm_astore, gm_iinc, gm_op2, gm_quo, gm_op1, gm_lop2, gm_lshl, gm_i2l, gm_l2i, gm_lcmp, gm_dup, gm_pop1, gm_dup2, gm_goto, gm_ifeq, gm_ifne, gm_iflt, gm_ifge, gm_ifgt, gm_ifle, gm_ceq, gm_cne, gm_clt, gm_cge, gm_cgt, gm_cle, gm_ifnull, gm_ifnonnull, gm_swk, gm_switch, gm_getI, gm_getR, gm_putI, gm_putZ, gm_putR, gm_new, gm_newarr, gm_iald, gm_cald, gm_zald, gm_lald, gm_aald, gm_iast, gm_cast, gm_zast, gm_last, gm_aast, gm_acp, gm_oinit, gm_back, gm_scall, gm_vcall, gm_iret, gm_zret, gm_cret, gm_lret, gm_aret, gm_vret, gm_slen, gm_schar, gm_sidx, gm_lget, gm_lset, gm_nl, gm_ent, gm_wd, gm_pop, gm_pad, gm_xl_c, gm_alen_u, gm_1_sF, gm_1_sA, gm_1_cp, gm_len_sF, gm_len_sA, gm_len_cp, Bool.or_true, Bool.true_or, gm_max_u, gm_min_u, gm_isO_sF, gm_isO_sA, gm_isO_cp, gm_gF_sF, gm_gF_sA, gm_gA_sF, gm_gA_sA, gm_gF_cp, gm_gA_cp, gm_add, gm_sub, gm_mul, gm_neg, ↓reduceIte, Nat.reduceAdd, Nat.reduceLeDiff, true_and, and_true, and_self, true_or, or_true, false_and, and_false, false_or, or_false, eq_self, Nat.reduceEqDiff, Int.reduceEq, Int.reduceLT, Int.reduceLE, Int.reduceNeg, Int.reduceAdd, Int.reduceSub, Int.reduceMul, Int.reduceDiv, Int.reduceMod, reduceCtorEq, if_true, if_false, gm_w_id, xX2_build_0, xX2_build_1, xX2_build_2, gm_iast, ho, l5, k5, l6, k6, n6, hh, q0, q1, q2, q3, ha3]
theorem s_house (k v w c : Int) (hk : gm_i k) (hv : gm_i v) (hw : gm_i w) (hc : gm_i c) : gn_Si 54 102 [.inl k, .inl v, .inl w, .inl c] := fun M d xs Ln hI hp => by
  have hL := hI.L
  have hm := gn_many_b hI
  have z1 := gm_z1 hL
  have z2 := gm_z2 hL
  have l8 := gm_l800 hL
  have z148 := gm_z148 hL
  have e1 := gn_within (d + 18) k 6 M hk ⟨by decide, by decide⟩
  have e2 := r_X9_in (d + 18) k 0 6 M hk ⟨by decide, by decide⟩ ⟨by decide, by decide⟩
  have e3 := gn_within (d + 18) v 9 M hv ⟨by decide, by decide⟩
  have e4 := r_X9_in (d + 18) v 0 9 M hv ⟨by decide, by decide⟩ ⟨by decide, by decide⟩
  have e5 := gn_within (d + 18) w 199 M hw ⟨by decide, by decide⟩
  have e6 := r_X9_in (d + 18) w 0 199 M hw ⟨by decide, by decide⟩ ⟨by decide, by decide⟩
  have e7 := gn_within (d + 18) c 99 M hc ⟨by decide, by decide⟩
  have e8 := r_X9_in (d + 18) c 0 99 M hc ⟨by decide, by decide⟩ ⟨by decide, by decide⟩
  have m7 : gm_gF M 701 2 = gm_many M := rfl
  have m9 : gm_gF M 900 148 = gm_many M := hI.2.2.1.1.1
  by_cases ck : 0 ≤ k ∧ k ≤ 6
  · rw [if_pos ck] at e1 e2
    by_cases cv : 0 ≤ v ∧ v ≤ 9
    · rw [if_pos cv] at e3 e4
      by_cases cw : 0 ≤ w ∧ w ≤ 199
      · rw [if_pos cw] at e5 e6
        by_cases cc : 0 ≤ c ∧ c ≤ 99
        · rw [if_pos cc] at e7 e8
          by_cases cm : gm_many M < 6
          · have cm' : ¬ gm_many M = 6 := by omega
            obtain ⟨n0, -⟩ := hm
            obtain ⟨hcI, hsI, hkI⟩ := gn_T2.mp (And.intro hI.2.1 hI.2.2.1)
            have ha := gm_a3 hL (i := gm_many M) n0 cm
            have y3 := gm_y3 M
            have z3 := gm_z3 hL
            have l7 : gm_gF M 700 2 = 3 := gm_l700 hL z2
            have hin := gm_inI (M := M) (a := 3) (i := gm_many M) y3 n0 cm (by decide)
            obtain ⟨r, hr⟩ : ∃ r, (if k = 2 ∨ k = 5 then c + v else c) = r := ⟨_, rfl⟩
            have hb := r_X2_build (d + 17) hL (o := 8 + 3 * gm_many M) (n := gm_many M) (k := k) (v := v) (w := w) (c := c) ha.2 (by omega) ck cv cc hr
            have hr0 : 0 ≤ r := by rw [← hr]; split <;> omega
            generalize hn : gm_many M = n at *
            have hLb : gm_Lay (gn_bld M (8 + 3 * n) n k v w c r) := by
              have h1 : 8 + 3 * n + 2 ∉ ([3, 27, 51, 90, 93] : List Int) := by simp only [List.mem_cons, List.not_mem_nil, or_false]; omega
              exact (((((((((((((hL.sF _ _ _ (by decide)).sF _ _ _ (by decide)).sF _ _ _ (by decide)).sF _ _ _ (by decide)).sF _ _ _ (by decide)).sF _ _ _ (by decide)).sF _ _ _ (by decide)).sF _ _ _ (by decide)).sF _ _ _ (by decide)).sA _ _ _ h1).sA _ _ _ h1).sA _ _ _ h1).sA _ _ _ h1)
            generalize hMb : gn_bld M (8 + 3 * n) n k v w c r = Mb at *
            have hFb : ∀ (f : Nat) (o : Int), gm_gF Mb f o = if f = 500 ∧ o = 8 + 3 * n + 1 then 0 else if f = 501 ∧ o = 8 + 3 * n + 1 then r else if f = 204 ∧ o = 8 + 3 * n then c else if f = 502 ∧ o = 8 + 3 * n + 1 then 0 else if f = 500 ∧ o = 8 + 3 * n + 1 then 0 else if f = 203 ∧ o = 8 + 3 * n then w else if f = 202 ∧ o = 8 + 3 * n then v else if f = 201 ∧ o = 8 + 3 * n then k else if f = 200 ∧ o = 8 + 3 * n then n else gm_gF M f o := fun f o => by
              rw [← hMb]
              rfl
            have hAb : ∀ a i : Int, gm_gA Mb a i = if a = 8 + 3 * n + 2 ∧ i = 3 then 4 else if a = 8 + 3 * n + 2 ∧ i = 2 then 4 else if a = 8 + 3 * n + 2 ∧ i = 1 then 4 else if a = 8 + 3 * n + 2 ∧ i = 0 then 4 else gm_gA M a i := fun a i => by
              rw [← hMb]
              rfl
            have hL1 : gm_Lay (gm_sF Mb 701 2 (n + 1)) := hLb.sF _ _ _ (by decide)
            generalize hM1 : gm_sF Mb 701 2 (n + 1) = M1 at *
            have m9' : gm_gF M1 900 148 = n := by rw [← hM1, gm_gF_sF, if_neg (by omega), hFb]; simp only [Nat.reduceEqDiff, false_and, ↓reduceIte]; exact m9
            have b701 : gm_gF Mb 701 2 = n := by rw [hFb]; simp only [Nat.reduceEqDiff, false_and, ↓reduceIte]; exact hn
            have zz := gm_z148 hL1
            have z2b := gm_z2 hLb
            have z1b := gm_z1 hLb
            have l8b := gm_l800 hLb
            have e2' := r_X9_in (d + 18) k 0 6 M1 hk ⟨by decide, by decide⟩ ⟨by decide, by decide⟩
            rw [if_pos ck] at e2'
            have e4' := r_X9_in (d + 18) v 0 9 M1 hv ⟨by decide, by decide⟩ ⟨by decide, by decide⟩
            rw [if_pos cv] at e4'
            have e6' := r_X9_in (d + 18) w 0 199 M1 hw ⟨by decide, by decide⟩ ⟨by decide, by decide⟩
            rw [if_pos cw] at e6'
            have e8' := r_X9_in (d + 18) c 0 99 M1 hc ⟨by decide, by decide⟩ ⟨by decide, by decide⟩
            rw [if_pos cc] at e8'
            have u0 : 0 ≤ 4 * n + 0 := by omega
            have u1 : 0 ≤ 4 * n + 1 := by omega
            have u2 : 0 ≤ 4 * n + 2 := by omega
            have u3 : 0 ≤ 4 * n + 3 := by omega
            obtain ⟨M2, hM2⟩ : ∃ M2, gm_sF (gm_sA (gm_sA (gm_sA (gm_sA (gm_sA (gm_sA (gm_sA (gm_sA (gm_sA (gm_sA M1 149 n k) 150 n v) 151 n w) 152 n 0) 153 n c) 154 n 0) 155 (4 * n + 0) 4) 155 (4 * n + 1) 4) 155 (4 * n + 2) 4) 155 (4 * n + 3) 4) 900 148 (n + 1) = M2 := ⟨_, rfl⟩
            have hF : ∀ (f : Nat) (o : Int), gm_gF M2 f o = if f = 900 ∧ o = 148 then n + 1 else if f = 701 ∧ o = 2 then n + 1 else gm_gF Mb f o := fun f o => by
              rw [← hM2, ← hM1]
              rfl
            have hA : ∀ a i : Int, gm_gA M2 a i = if a = 155 ∧ i = 4 * n + 3 then 4 else if a = 155 ∧ i = 4 * n + 2 then 4 else if a = 155 ∧ i = 4 * n + 1 then 4 else if a = 155 ∧ i = 4 * n + 0 then 4 else if a = 154 ∧ i = n then 0 else if a = 153 ∧ i = n then c else if a = 152 ∧ i = n then 0 else if a = 151 ∧ i = n then w else if a = 150 ∧ i = n then v else if a = 149 ∧ i = n then k else gm_gA Mb a i := fun a i => by
              rw [← hM2, ← hM1]
              rfl
            have hFo : ∀ (f : Nat) (o : Int), ¬ (8 ≤ o ∧ o ≤ 25) → ¬ (f = 701 ∧ o = 2) → ¬ (f = 900 ∧ o = 148) → gm_gF M2 f o = gm_gF M f o := fun f o y1 y2 y3 => by
              rw [hF, if_neg y3, if_neg y2, hFb]
              repeat rw [if_neg (by omega)]
            have hAo : ∀ a i : Int, ¬ (8 ≤ a ∧ a ≤ 25) → ¬ (149 ≤ a ∧ a ≤ 155) → gm_gA M2 a i = gm_gA M a i := fun a i y1 y2 => by
              rw [hA, hAb]
              repeat rw [if_neg (by omega)]
            have hL2 : gm_Lay M2 := by
              rw [← hM2]
              exact ((((((((((hL1.sA _ _ _ (by decide)).sA _ _ _ (by decide)).sA _ _ _ (by decide)).sA _ _ _ (by decide)).sA _ _ _ (by decide)).sA _ _ _ (by decide)).sA _ _ _ (by decide)).sA _ _ _ (by decide)).sA _ _ _ (by decide)).sA _ _ _ (by decide)).sF _ _ _ (by decide)
            have f701 : gm_gF M2 701 2 = n + 1 := by rw [hF]; simp only [Nat.reduceEqDiff, false_and, and_self, ↓reduceIte]
            have f900 : gm_gF M2 900 148 = n + 1 := by rw [hF]; simp only [and_self, ↓reduceIte]
            have hW : ∀ p, p ≠ 0 → gn_W p M M2 := fun p hp0 => by
              refine ⟨fun f o z => ?_, fun a i z => ?_⟩
              · have : ¬ (8 ≤ o ∧ o ≤ 25) ∧ o ≠ 2 ∧ ¬ (f = 900 ∧ o = 148) := by rcases p with _ | _ | _ | _ | _ | _ | p <;> simp only [gn_U] at z <;> omega
                exact hFo f o this.1 (by omega) this.2.2
              · have : ¬ (8 ≤ a ∧ a ≤ 25) ∧ ¬ (149 ≤ a ∧ a ≤ 155) := by rcases p with _ | _ | _ | _ | _ | _ | p <;> simp only [gn_V] at z <;> omega
                exact hAo a i this.1 this.2
            have m701 : gm_gF M 701 2 = n := hn
            refine ⟨n, M1, M2, ?_, ?_, ?_, ?_⟩
            · rw [eX8_house _ _ _ (Nat.le_of_ble_eq_true rfl), ← hM1]
              simp (config := { maxSteps := 2000000 }) (disch := first | omega | assumption | (simp only [gm_isO_sF, gm_isO_sA, gm_isO_cp]; assumption)) only [gm_push, gm_iload, gm_lload, gm_aload, gm_istore, gm_astore, gm_iinc, gm_op2, gm_quo, gm_op1, gm_lop2, gm_lshl, gm_i2l, gm_l2i, gm_lcmp, gm_dup, gm_pop1, gm_dup2, gm_goto, gm_ifeq, gm_ifne, gm_iflt, gm_ifge, gm_ifgt, gm_ifle, gm_ceq, gm_cne, gm_clt, gm_cge, gm_cgt, gm_cle, gm_ifnull, gm_ifnonnull, gm_swk, gm_switch, gm_getI, gm_getR, gm_putI, gm_putZ, gm_putR, gm_new, gm_newarr, gm_iald, gm_cald, gm_zald, gm_lald, gm_aald, gm_iast, gm_cast, gm_zast, gm_last, gm_aast, gm_acp, gm_oinit, gm_back, gm_scall, gm_vcall, gm_iret, gm_zret, gm_cret, gm_lret, gm_aret, gm_vret, gm_slen, gm_schar, gm_sidx, gm_lget, gm_lset, gm_nl, gm_ent, gm_wd, gm_pop, gm_pad, gm_xl_c, gm_alen_u, gm_1_sF, gm_1_sA, gm_1_cp, gm_len_sF, gm_len_sA, gm_len_cp, Bool.or_true, Bool.true_or, gm_max_u, gm_min_u, gm_isO_sF, gm_isO_sA, gm_isO_cp, gm_gF_sF, gm_gF_sA, gm_gA_sF, gm_gA_sA, gm_gF_cp, gm_gA_cp, gm_add, gm_sub, gm_mul, gm_neg, ↓reduceIte, Nat.reduceAdd, Nat.reduceLeDiff, true_and, and_true, and_self, true_or, or_true, false_and, and_false, false_or, or_false, eq_self, Nat.reduceEqDiff, Int.reduceEq, Int.reduceLT, Int.reduceLE, Int.reduceNeg, Int.reduceAdd, Int.reduceSub, Int.reduceMul, Int.reduceDiv, Int.reduceMod, reduceCtorEq, if_true, if_false, gm_w_id, xX8_house_0, xX8_house_1, xX8_house_2, xX8_house_3, xX8_house_4, e1, e3, e5, e7, z1, z2, z3, l8, l7, y3, hin, ha.1, ha.2, hn, m7, cm, hb, z1b, z2b, l8b, b701]
            · rw [eX9_house _ _ _ (Nat.le_of_ble_eq_true rfl), ← hM2]
              set_option maxRecDepth 20000 in simp (config := { maxSteps := 2000000 }) (disch := first | omega | assumption | (simp only [gm_isO_sF, gm_isO_sA, gm_isO_cp]; assumption)) only [gm_push, gm_iload, gm_lload, gm_aload, gm_istore, gm_astore, gm_iinc, gm_op2, gm_quo, gm_op1, gm_lop2, gm_lshl, gm_i2l, gm_l2i, gm_lcmp, gm_dup, gm_pop1, gm_dup2, gm_goto, gm_ifeq, gm_ifne, gm_iflt, gm_ifge, gm_ifgt, gm_ifle, gm_ceq, gm_cne, gm_clt, gm_cge, gm_cgt, gm_cle, gm_ifnull, gm_ifnonnull, gm_swk, gm_switch, gm_getI, gm_getR, gm_putI, gm_putZ, gm_putR, gm_new, gm_newarr, gm_iald, gm_cald, gm_zald, gm_lald, gm_aald, gm_iast, gm_cast, gm_zast, gm_last, gm_aast, gm_acp, gm_oinit, gm_back, gm_scall, gm_vcall, gm_iret, gm_zret, gm_cret, gm_lret, gm_aret, gm_vret, gm_slen, gm_schar, gm_sidx, gm_lget, gm_lset, gm_nl, gm_ent, gm_wd, gm_pop, gm_pad, gm_xl_c, gm_alen_u, gm_1_sF, gm_1_sA, gm_1_cp, gm_len_sF, gm_len_sA, gm_len_cp, Bool.or_true, Bool.true_or, gm_max_u, gm_min_u, gm_isO_sF, gm_isO_sA, gm_isO_cp, gm_gF_sF, gm_gF_sA, gm_gA_sF, gm_gA_sA, gm_gF_cp, gm_gA_cp, gm_add, gm_sub, gm_mul, gm_neg, ↓reduceIte, Nat.reduceAdd, Nat.reduceLeDiff, true_and, and_true, and_self, true_or, or_true, false_and, and_false, false_or, or_false, eq_self, Nat.reduceEqDiff, Int.reduceEq, Int.reduceLT, Int.reduceLE, Int.reduceNeg, Int.reduceAdd, Int.reduceSub, Int.reduceMul, Int.reduceDiv, Int.reduceMod, reduceCtorEq, if_true, if_false, gm_w_id, gm_l902, gm_l903, gm_l904, gm_l905, gm_l906, gm_l907, gm_l908, gm_l914, gm_l915, gm_l916, gm_l917, gm_l918, gm_l919, gm_l920, gm_l921, gm_l925, gm_l926, gm_l931, gm_l932, gm_l934, gm_l936, gm_l937, gm_l938, gm_l940, gm_l947, gm_l948, gm_l949, gm_l950, gm_l951, gm_l952, gm_l953, gm_l954, gm_l955, gm_l956, gm_l957, gm_l959, gm_l960, gm_l961, gm_l962, gm_l963, gm_z148, gm_z149, gm_z150, gm_z151, gm_z152, gm_z153, gm_z154, gm_z155, gm_z156, gm_z157, gm_z158, gm_z159, gm_z160, gm_z161, gm_z162, gm_z163, gm_z164, gm_z165, gm_z166, gm_z167, gm_z168, gm_z169, gm_z170, gm_z171, gm_z172, gm_z173, gm_z174, gm_z175, gm_z176, gm_z177, gm_z178, gm_z179, gm_z180, gm_z181, gm_z182, gm_z183, gm_z184, gm_z185, gm_z186, gm_z187, gm_z188, gn_i149, gn_i150, gn_i151, gn_i152, gn_i153, gn_i154, gn_i155, gn_i156, gn_i157, gn_i158, gn_i159, gn_i160, gn_i161, gn_i162, gn_i163, gn_i164, gn_i165, gn_i166, gn_i167, gn_i168, gn_i169, gn_i170, gn_i171, gn_i172, gn_i173, gn_i174, gn_i175, gn_i176, gn_i177, gn_i178, gn_i179, gn_i180, gn_i181, gn_i182, gn_i183, gn_i184, gn_i185, gn_i186, gn_i187, gn_i188, xX9_house_0, xX9_house_1, xX9_house_2, xX9_house_3, xX9_house_4, xX9_house_5, xX9_house_6, gm_iast, e2', e4', e6', e8', m9', cm', Int.add_sub_cancel]
            · refine hI.t hL2 (hFo 810 1 (by decide) (by decide) (by decide)) (hW 1 (by decide)) (hW 2 (by decide)) (hW 3 (by decide)) (hW 4 (by decide)) (hW 5 (by decide)) (hW 6 (by decide)) (gn_T2.mpr ⟨?_, ?_, fun j j1 j2 => ?_⟩)
              · unfold gn_cI
                rw [f701, f900, hFo 702 2 (by decide) (by decide) (by decide), hFo 703 2 (by decide) (by decide) (by decide), hFo 810 1 (by decide) (by decide) (by decide), hFo 901 148 (by decide) (by decide) (by decide), hFo 910 148 (by decide) (by decide) (by decide), hFo 935 148 (by decide) (by decide) (by decide), hFo 939 148 (by decide) (by decide) (by decide), hFo 707 2 (by decide) (by decide) (by decide), hFo 709 2 (by decide) (by decide) (by decide)]
                exact ⟨⟨⟨by omega, by omega⟩, hcI.1.2⟩, rfl, hcI.2.2⟩
              · unfold gn_sI
                rw [f701, hFo 707 2 (by decide) (by decide) (by decide), hFo 709 2 (by decide) (by decide) (by decide)]
                refine ⟨hsI.1, hsI.2.1, fun j j1 j2 => ?_, fun j j1 j2 => ?_⟩
                · rw [hAo 4 j (by decide) (by decide), hAo 5 j (by decide) (by decide), hAo 6 j (by decide) (by decide), hAo 169 j (by decide) (by decide), hAo 170 j (by decide) (by decide), hAo 171 j (by decide) (by decide)]
                  have := hsI.2.2.1 j j1 j2
                  exact ⟨⟨⟨this.1.1.1, by have := this.1.1.2; omega⟩, this.1.2⟩, this.2⟩
                · rw [hAo 7 j (by decide) (by decide), hAo 172 j (by decide) (by decide)]
                  have := hsI.2.2.2 j j1 j2
                  exact ⟨⟨this.1.1, by have := this.1.2; omega⟩, this.2⟩
              · rw [f701] at j2
                by_cases y : j = n
                · subst y
                  have h200 : gm_gF M2 200 (8 + 3 * j) = j := by simp only [hF, hFb, Nat.reduceEqDiff, false_and, and_self, ↓reduceIte]
                  have h201 : gm_gF M2 201 (8 + 3 * j) = k := by simp only [hF, hFb, Nat.reduceEqDiff, false_and, and_self, ↓reduceIte]
                  have h202 : gm_gF M2 202 (8 + 3 * j) = v := by simp only [hF, hFb, Nat.reduceEqDiff, false_and, and_self, ↓reduceIte]
                  have h203 : gm_gF M2 203 (8 + 3 * j) = w := by simp only [hF, hFb, Nat.reduceEqDiff, false_and, and_self, ↓reduceIte]
                  have h204 : gm_gF M2 204 (8 + 3 * j) = c := by simp only [hF, hFb, Nat.reduceEqDiff, false_and, and_self, ↓reduceIte]
                  have h500 : gm_gF M2 500 (8 + 3 * j + 1) = 0 := by simp only [hF, hFb, Nat.reduceEqDiff, false_and, and_self, ↓reduceIte]
                  have h501 : gm_gF M2 501 (8 + 3 * j + 1) = r := by simp only [hF, hFb, Nat.reduceEqDiff, false_and, and_self, ↓reduceIte]
                  have h502 : gm_gF M2 502 (8 + 3 * j + 1) = 0 := by simp only [hF, hFb, Nat.reduceEqDiff, false_and, and_self, ↓reduceIte]
                  have hrw : ∀ i, 0 ≤ i → i < 4 → gm_gA M2 (8 + 3 * j + 2) i = 4 := fun i i1 i2 => by
                    rw [hA]
                    repeat rw [if_neg (by omega)]
                    rw [hAb]
                    rcases (by omega : i = 0 ∨ i = 1 ∨ i = 2 ∨ i = 3) with rfl | rfl | rfl | rfl <;> simp only [Int.reduceEq, and_false, and_self, ↓reduceIte]
                  have hr2 : ∀ i, 0 ≤ i → i < 4 → gm_gA M2 155 (4 * j + i) = 4 := fun i i1 i2 => by
                    rw [hA]
                    rcases (by omega : i = 0 ∨ i = 1 ∨ i = 2 ∨ i = 3) with rfl | rfl | rfl | rfl
                    · rw [if_neg (by omega), if_neg (by omega), if_neg (by omega), if_pos ⟨rfl, rfl⟩]
                    · rw [if_neg (by omega), if_neg (by omega), if_pos ⟨rfl, rfl⟩]
                    · rw [if_neg (by omega), if_pos ⟨rfl, rfl⟩]
                    · rw [if_pos ⟨rfl, rfl⟩]
                  unfold gn_hI gn_hR
                  rw [h200, h201, h202, h203, h204, h500, h501, h502]
                  refine ⟨⟨rfl, ck, cv, cw, cc, ⟨Int.le_refl 0, hr0⟩, hr.symm, by decide, fun i i1 i2 => ?_⟩, ?_, ?_, ?_, ?_, ?_, ?_, fun i i1 i2 => ?_⟩
                  · rw [hrw i i1 i2]; decide
                  · rw [hA]; simp only [Int.reduceEq, false_and, and_self, ↓reduceIte]
                  · rw [hA]; simp only [Int.reduceEq, false_and, and_self, ↓reduceIte]
                  · rw [hA]; simp only [Int.reduceEq, false_and, and_self, ↓reduceIte]
                  · rw [hA]; simp only [Int.reduceEq, false_and, and_self, ↓reduceIte]
                  · rw [hA]; simp only [Int.reduceEq, false_and, and_self, ↓reduceIte]
                  · rw [hA]; simp only [Int.reduceEq, false_and, and_self, ↓reduceIte]
                  · rw [hrw i i1 i2, hr2 i i1 i2]
                · have jn : j < n := by omega
                  refine gn_hIR.e (fun f o z => ?_) (fun i => ?_) (fun a z1 z2 => ?_) (fun i i1 i2 => ?_) (hkI j j1 (by rw [m701]; exact jn))
                  · rw [hF, if_neg (by omega), if_neg (by omega), hFb]
                    repeat rw [if_neg (by omega)]
                  · rw [hA, hAb]
                    repeat rw [if_neg (by omega)]
                  · rw [hA, hAb]
                    repeat rw [if_neg (by omega)]
                  · rw [hA, hAb]
                    repeat rw [if_neg (by omega)]
            · exact gn_pu.e (fun a i z => hAo a i (by omega) (by omega)) (hFo 9999 0 (by decide) (by decide) (by decide)) hp
          · have cm' : gm_many M = 6 := by omega
            refine ⟨-4, M, M, ?_, ?_, hI, hp⟩
            · rw [eX8_house _ _ _ (Nat.le_of_ble_eq_true rfl)]
              simp (config := { maxSteps := 2000000 }) (disch := first | omega | assumption | (simp only [gm_isO_sF, gm_isO_sA, gm_isO_cp]; assumption)) only [gm_push, gm_iload, gm_lload, gm_aload, gm_istore, gm_astore, gm_iinc, gm_op2, gm_quo, gm_op1, gm_lop2, gm_lshl, gm_i2l, gm_l2i, gm_lcmp, gm_dup, gm_pop1, gm_dup2, gm_goto, gm_ifeq, gm_ifne, gm_iflt, gm_ifge, gm_ifgt, gm_ifle, gm_ceq, gm_cne, gm_clt, gm_cge, gm_cgt, gm_cle, gm_ifnull, gm_ifnonnull, gm_swk, gm_switch, gm_getI, gm_getR, gm_putI, gm_putZ, gm_putR, gm_new, gm_newarr, gm_iald, gm_cald, gm_zald, gm_lald, gm_aald, gm_iast, gm_cast, gm_zast, gm_last, gm_aast, gm_acp, gm_oinit, gm_back, gm_scall, gm_vcall, gm_iret, gm_zret, gm_cret, gm_lret, gm_aret, gm_vret, gm_slen, gm_schar, gm_sidx, gm_lget, gm_lset, gm_nl, gm_ent, gm_wd, gm_pop, gm_pad, gm_xl_c, gm_alen_u, gm_1_sF, gm_1_sA, gm_1_cp, gm_len_sF, gm_len_sA, gm_len_cp, Bool.or_true, Bool.true_or, gm_max_u, gm_min_u, gm_isO_sF, gm_isO_sA, gm_isO_cp, gm_gF_sF, gm_gF_sA, gm_gA_sF, gm_gA_sA, gm_gF_cp, gm_gA_cp, gm_add, gm_sub, gm_mul, gm_neg, ↓reduceIte, Nat.reduceAdd, Nat.reduceLeDiff, true_and, and_true, and_self, true_or, or_true, false_and, and_false, false_or, or_false, eq_self, Nat.reduceEqDiff, Int.reduceEq, Int.reduceLT, Int.reduceLE, Int.reduceNeg, Int.reduceAdd, Int.reduceSub, Int.reduceMul, Int.reduceDiv, Int.reduceMod, reduceCtorEq, if_true, if_false, gm_w_id, xX8_house_0, xX8_house_1, xX8_house_2, xX8_house_3, xX8_house_4, e1, e3, e5, e7, z1, z2, l8, m7, cm']
            · rw [eX9_house _ _ _ (Nat.le_of_ble_eq_true rfl)]
              simp (config := { maxSteps := 2000000 }) (disch := first | omega | assumption | (simp only [gm_isO_sF, gm_isO_sA, gm_isO_cp]; assumption)) only [gm_push, gm_iload, gm_lload, gm_aload, gm_istore, gm_astore, gm_iinc, gm_op2, gm_quo, gm_op1, gm_lop2, gm_lshl, gm_i2l, gm_l2i, gm_lcmp, gm_dup, gm_pop1, gm_dup2, gm_goto, gm_ifeq, gm_ifne, gm_iflt, gm_ifge, gm_ifgt, gm_ifle, gm_ceq, gm_cne, gm_clt, gm_cge, gm_cgt, gm_cle, gm_ifnull, gm_ifnonnull, gm_swk, gm_switch, gm_getI, gm_getR, gm_putI, gm_putZ, gm_putR, gm_new, gm_newarr, gm_iald, gm_cald, gm_zald, gm_lald, gm_aald, gm_iast, gm_cast, gm_zast, gm_last, gm_aast, gm_acp, gm_oinit, gm_back, gm_scall, gm_vcall, gm_iret, gm_zret, gm_cret, gm_lret, gm_aret, gm_vret, gm_slen, gm_schar, gm_sidx, gm_lget, gm_lset, gm_nl, gm_ent, gm_wd, gm_pop, gm_pad, gm_xl_c, gm_alen_u, gm_1_sF, gm_1_sA, gm_1_cp, gm_len_sF, gm_len_sA, gm_len_cp, Bool.or_true, Bool.true_or, gm_max_u, gm_min_u, gm_isO_sF, gm_isO_sA, gm_isO_cp, gm_gF_sF, gm_gF_sA, gm_gA_sF, gm_gA_sA, gm_gF_cp, gm_gA_cp, gm_add, gm_sub, gm_mul, gm_neg, ↓reduceIte, Nat.reduceAdd, Nat.reduceLeDiff, true_and, and_true, and_self, true_or, or_true, false_and, and_false, false_or, or_false, eq_self, Nat.reduceEqDiff, Int.reduceEq, Int.reduceLT, Int.reduceLE, Int.reduceNeg, Int.reduceAdd, Int.reduceSub, Int.reduceMul, Int.reduceDiv, Int.reduceMod, reduceCtorEq, if_true, if_false, gm_w_id, gm_l902, gm_l903, gm_l904, gm_l905, gm_l906, gm_l907, gm_l908, gm_l914, gm_l915, gm_l916, gm_l917, gm_l918, gm_l919, gm_l920, gm_l921, gm_l925, gm_l926, gm_l931, gm_l932, gm_l934, gm_l936, gm_l937, gm_l938, gm_l940, gm_l947, gm_l948, gm_l949, gm_l950, gm_l951, gm_l952, gm_l953, gm_l954, gm_l955, gm_l956, gm_l957, gm_l959, gm_l960, gm_l961, gm_l962, gm_l963, gm_z148, gm_z149, gm_z150, gm_z151, gm_z152, gm_z153, gm_z154, gm_z155, gm_z156, gm_z157, gm_z158, gm_z159, gm_z160, gm_z161, gm_z162, gm_z163, gm_z164, gm_z165, gm_z166, gm_z167, gm_z168, gm_z169, gm_z170, gm_z171, gm_z172, gm_z173, gm_z174, gm_z175, gm_z176, gm_z177, gm_z178, gm_z179, gm_z180, gm_z181, gm_z182, gm_z183, gm_z184, gm_z185, gm_z186, gm_z187, gm_z188, gn_i149, gn_i150, gn_i151, gn_i152, gn_i153, gn_i154, gn_i155, gn_i156, gn_i157, gn_i158, gn_i159, gn_i160, gn_i161, gn_i162, gn_i163, gn_i164, gn_i165, gn_i166, gn_i167, gn_i168, gn_i169, gn_i170, gn_i171, gn_i172, gn_i173, gn_i174, gn_i175, gn_i176, gn_i177, gn_i178, gn_i179, gn_i180, gn_i181, gn_i182, gn_i183, gn_i184, gn_i185, gn_i186, gn_i187, gn_i188, xX9_house_0, xX9_house_1, xX9_house_2, xX9_house_3, xX9_house_4, xX9_house_5, xX9_house_6, e2, e4, e6, e8, m9, cm']
        · rw [if_neg cc] at e7 e8
          refine ⟨-2, M, M, ?_, ?_, hI, hp⟩
          · rw [eX8_house _ _ _ (Nat.le_of_ble_eq_true rfl)]
            simp (config := { maxSteps := 2000000 }) (disch := first | omega | assumption | (simp only [gm_isO_sF, gm_isO_sA, gm_isO_cp]; assumption)) only [gm_push, gm_iload, gm_lload, gm_aload, gm_istore, gm_astore, gm_iinc, gm_op2, gm_quo, gm_op1, gm_lop2, gm_lshl, gm_i2l, gm_l2i, gm_lcmp, gm_dup, gm_pop1, gm_dup2, gm_goto, gm_ifeq, gm_ifne, gm_iflt, gm_ifge, gm_ifgt, gm_ifle, gm_ceq, gm_cne, gm_clt, gm_cge, gm_cgt, gm_cle, gm_ifnull, gm_ifnonnull, gm_swk, gm_switch, gm_getI, gm_getR, gm_putI, gm_putZ, gm_putR, gm_new, gm_newarr, gm_iald, gm_cald, gm_zald, gm_lald, gm_aald, gm_iast, gm_cast, gm_zast, gm_last, gm_aast, gm_acp, gm_oinit, gm_back, gm_scall, gm_vcall, gm_iret, gm_zret, gm_cret, gm_lret, gm_aret, gm_vret, gm_slen, gm_schar, gm_sidx, gm_lget, gm_lset, gm_nl, gm_ent, gm_wd, gm_pop, gm_pad, gm_xl_c, gm_alen_u, gm_1_sF, gm_1_sA, gm_1_cp, gm_len_sF, gm_len_sA, gm_len_cp, Bool.or_true, Bool.true_or, gm_max_u, gm_min_u, gm_isO_sF, gm_isO_sA, gm_isO_cp, gm_gF_sF, gm_gF_sA, gm_gA_sF, gm_gA_sA, gm_gF_cp, gm_gA_cp, gm_add, gm_sub, gm_mul, gm_neg, ↓reduceIte, Nat.reduceAdd, Nat.reduceLeDiff, true_and, and_true, and_self, true_or, or_true, false_and, and_false, false_or, or_false, eq_self, Nat.reduceEqDiff, Int.reduceEq, Int.reduceLT, Int.reduceLE, Int.reduceNeg, Int.reduceAdd, Int.reduceSub, Int.reduceMul, Int.reduceDiv, Int.reduceMod, reduceCtorEq, if_true, if_false, gm_w_id, xX8_house_0, xX8_house_1, xX8_house_2, xX8_house_3, xX8_house_4, e1, e3, e5, e7]
          · rw [eX9_house _ _ _ (Nat.le_of_ble_eq_true rfl)]
            simp (config := { maxSteps := 2000000 }) (disch := first | omega | assumption | (simp only [gm_isO_sF, gm_isO_sA, gm_isO_cp]; assumption)) only [gm_push, gm_iload, gm_lload, gm_aload, gm_istore, gm_astore, gm_iinc, gm_op2, gm_quo, gm_op1, gm_lop2, gm_lshl, gm_i2l, gm_l2i, gm_lcmp, gm_dup, gm_pop1, gm_dup2, gm_goto, gm_ifeq, gm_ifne, gm_iflt, gm_ifge, gm_ifgt, gm_ifle, gm_ceq, gm_cne, gm_clt, gm_cge, gm_cgt, gm_cle, gm_ifnull, gm_ifnonnull, gm_swk, gm_switch, gm_getI, gm_getR, gm_putI, gm_putZ, gm_putR, gm_new, gm_newarr, gm_iald, gm_cald, gm_zald, gm_lald, gm_aald, gm_iast, gm_cast, gm_zast, gm_last, gm_aast, gm_acp, gm_oinit, gm_back, gm_scall, gm_vcall, gm_iret, gm_zret, gm_cret, gm_lret, gm_aret, gm_vret, gm_slen, gm_schar, gm_sidx, gm_lget, gm_lset, gm_nl, gm_ent, gm_wd, gm_pop, gm_pad, gm_xl_c, gm_alen_u, gm_1_sF, gm_1_sA, gm_1_cp, gm_len_sF, gm_len_sA, gm_len_cp, Bool.or_true, Bool.true_or, gm_max_u, gm_min_u, gm_isO_sF, gm_isO_sA, gm_isO_cp, gm_gF_sF, gm_gF_sA, gm_gA_sF, gm_gA_sA, gm_gF_cp, gm_gA_cp, gm_add, gm_sub, gm_mul, gm_neg, ↓reduceIte, Nat.reduceAdd, Nat.reduceLeDiff, true_and, and_true, and_self, true_or, or_true, false_and, and_false, false_or, or_false, eq_self, Nat.reduceEqDiff, Int.reduceEq, Int.reduceLT, Int.reduceLE, Int.reduceNeg, Int.reduceAdd, Int.reduceSub, Int.reduceMul, Int.reduceDiv, Int.reduceMod, reduceCtorEq, if_true, if_false, gm_w_id, gm_l902, gm_l903, gm_l904, gm_l905, gm_l906, gm_l907, gm_l908, gm_l914, gm_l915, gm_l916, gm_l917, gm_l918, gm_l919, gm_l920, gm_l921, gm_l925, gm_l926, gm_l931, gm_l932, gm_l934, gm_l936, gm_l937, gm_l938, gm_l940, gm_l947, gm_l948, gm_l949, gm_l950, gm_l951, gm_l952, gm_l953, gm_l954, gm_l955, gm_l956, gm_l957, gm_l959, gm_l960, gm_l961, gm_l962, gm_l963, gm_z148, gm_z149, gm_z150, gm_z151, gm_z152, gm_z153, gm_z154, gm_z155, gm_z156, gm_z157, gm_z158, gm_z159, gm_z160, gm_z161, gm_z162, gm_z163, gm_z164, gm_z165, gm_z166, gm_z167, gm_z168, gm_z169, gm_z170, gm_z171, gm_z172, gm_z173, gm_z174, gm_z175, gm_z176, gm_z177, gm_z178, gm_z179, gm_z180, gm_z181, gm_z182, gm_z183, gm_z184, gm_z185, gm_z186, gm_z187, gm_z188, gn_i149, gn_i150, gn_i151, gn_i152, gn_i153, gn_i154, gn_i155, gn_i156, gn_i157, gn_i158, gn_i159, gn_i160, gn_i161, gn_i162, gn_i163, gn_i164, gn_i165, gn_i166, gn_i167, gn_i168, gn_i169, gn_i170, gn_i171, gn_i172, gn_i173, gn_i174, gn_i175, gn_i176, gn_i177, gn_i178, gn_i179, gn_i180, gn_i181, gn_i182, gn_i183, gn_i184, gn_i185, gn_i186, gn_i187, gn_i188, xX9_house_0, xX9_house_1, xX9_house_2, xX9_house_3, xX9_house_4, xX9_house_5, xX9_house_6, e2, e4, e6, e8]
      · rw [if_neg cw] at e5 e6
        refine ⟨-2, M, M, ?_, ?_, hI, hp⟩
        · rw [eX8_house _ _ _ (Nat.le_of_ble_eq_true rfl)]
          simp (config := { maxSteps := 2000000 }) (disch := first | omega | assumption | (simp only [gm_isO_sF, gm_isO_sA, gm_isO_cp]; assumption)) only [gm_push, gm_iload, gm_lload, gm_aload, gm_istore, gm_astore, gm_iinc, gm_op2, gm_quo, gm_op1, gm_lop2, gm_lshl, gm_i2l, gm_l2i, gm_lcmp, gm_dup, gm_pop1, gm_dup2, gm_goto, gm_ifeq, gm_ifne, gm_iflt, gm_ifge, gm_ifgt, gm_ifle, gm_ceq, gm_cne, gm_clt, gm_cge, gm_cgt, gm_cle, gm_ifnull, gm_ifnonnull, gm_swk, gm_switch, gm_getI, gm_getR, gm_putI, gm_putZ, gm_putR, gm_new, gm_newarr, gm_iald, gm_cald, gm_zald, gm_lald, gm_aald, gm_iast, gm_cast, gm_zast, gm_last, gm_aast, gm_acp, gm_oinit, gm_back, gm_scall, gm_vcall, gm_iret, gm_zret, gm_cret, gm_lret, gm_aret, gm_vret, gm_slen, gm_schar, gm_sidx, gm_lget, gm_lset, gm_nl, gm_ent, gm_wd, gm_pop, gm_pad, gm_xl_c, gm_alen_u, gm_1_sF, gm_1_sA, gm_1_cp, gm_len_sF, gm_len_sA, gm_len_cp, Bool.or_true, Bool.true_or, gm_max_u, gm_min_u, gm_isO_sF, gm_isO_sA, gm_isO_cp, gm_gF_sF, gm_gF_sA, gm_gA_sF, gm_gA_sA, gm_gF_cp, gm_gA_cp, gm_add, gm_sub, gm_mul, gm_neg, ↓reduceIte, Nat.reduceAdd, Nat.reduceLeDiff, true_and, and_true, and_self, true_or, or_true, false_and, and_false, false_or, or_false, eq_self, Nat.reduceEqDiff, Int.reduceEq, Int.reduceLT, Int.reduceLE, Int.reduceNeg, Int.reduceAdd, Int.reduceSub, Int.reduceMul, Int.reduceDiv, Int.reduceMod, reduceCtorEq, if_true, if_false, gm_w_id, xX8_house_0, xX8_house_1, xX8_house_2, xX8_house_3, xX8_house_4, e1, e3, e5]
        · rw [eX9_house _ _ _ (Nat.le_of_ble_eq_true rfl)]
          simp (config := { maxSteps := 2000000 }) (disch := first | omega | assumption | (simp only [gm_isO_sF, gm_isO_sA, gm_isO_cp]; assumption)) only [gm_push, gm_iload, gm_lload, gm_aload, gm_istore, gm_astore, gm_iinc, gm_op2, gm_quo, gm_op1, gm_lop2, gm_lshl, gm_i2l, gm_l2i, gm_lcmp, gm_dup, gm_pop1, gm_dup2, gm_goto, gm_ifeq, gm_ifne, gm_iflt, gm_ifge, gm_ifgt, gm_ifle, gm_ceq, gm_cne, gm_clt, gm_cge, gm_cgt, gm_cle, gm_ifnull, gm_ifnonnull, gm_swk, gm_switch, gm_getI, gm_getR, gm_putI, gm_putZ, gm_putR, gm_new, gm_newarr, gm_iald, gm_cald, gm_zald, gm_lald, gm_aald, gm_iast, gm_cast, gm_zast, gm_last, gm_aast, gm_acp, gm_oinit, gm_back, gm_scall, gm_vcall, gm_iret, gm_zret, gm_cret, gm_lret, gm_aret, gm_vret, gm_slen, gm_schar, gm_sidx, gm_lget, gm_lset, gm_nl, gm_ent, gm_wd, gm_pop, gm_pad, gm_xl_c, gm_alen_u, gm_1_sF, gm_1_sA, gm_1_cp, gm_len_sF, gm_len_sA, gm_len_cp, Bool.or_true, Bool.true_or, gm_max_u, gm_min_u, gm_isO_sF, gm_isO_sA, gm_isO_cp, gm_gF_sF, gm_gF_sA, gm_gA_sF, gm_gA_sA, gm_gF_cp, gm_gA_cp, gm_add, gm_sub, gm_mul, gm_neg, ↓reduceIte, Nat.reduceAdd, Nat.reduceLeDiff, true_and, and_true, and_self, true_or, or_true, false_and, and_false, false_or, or_false, eq_self, Nat.reduceEqDiff, Int.reduceEq, Int.reduceLT, Int.reduceLE, Int.reduceNeg, Int.reduceAdd, Int.reduceSub, Int.reduceMul, Int.reduceDiv, Int.reduceMod, reduceCtorEq, if_true, if_false, gm_w_id, gm_l902, gm_l903, gm_l904, gm_l905, gm_l906, gm_l907, gm_l908, gm_l914, gm_l915, gm_l916, gm_l917, gm_l918, gm_l919, gm_l920, gm_l921, gm_l925, gm_l926, gm_l931, gm_l932, gm_l934, gm_l936, gm_l937, gm_l938, gm_l940, gm_l947, gm_l948, gm_l949, gm_l950, gm_l951, gm_l952, gm_l953, gm_l954, gm_l955, gm_l956, gm_l957, gm_l959, gm_l960, gm_l961, gm_l962, gm_l963, gm_z148, gm_z149, gm_z150, gm_z151, gm_z152, gm_z153, gm_z154, gm_z155, gm_z156, gm_z157, gm_z158, gm_z159, gm_z160, gm_z161, gm_z162, gm_z163, gm_z164, gm_z165, gm_z166, gm_z167, gm_z168, gm_z169, gm_z170, gm_z171, gm_z172, gm_z173, gm_z174, gm_z175, gm_z176, gm_z177, gm_z178, gm_z179, gm_z180, gm_z181, gm_z182, gm_z183, gm_z184, gm_z185, gm_z186, gm_z187, gm_z188, gn_i149, gn_i150, gn_i151, gn_i152, gn_i153, gn_i154, gn_i155, gn_i156, gn_i157, gn_i158, gn_i159, gn_i160, gn_i161, gn_i162, gn_i163, gn_i164, gn_i165, gn_i166, gn_i167, gn_i168, gn_i169, gn_i170, gn_i171, gn_i172, gn_i173, gn_i174, gn_i175, gn_i176, gn_i177, gn_i178, gn_i179, gn_i180, gn_i181, gn_i182, gn_i183, gn_i184, gn_i185, gn_i186, gn_i187, gn_i188, xX9_house_0, xX9_house_1, xX9_house_2, xX9_house_3, xX9_house_4, xX9_house_5, xX9_house_6, e2, e4, e6]
    · rw [if_neg cv] at e3 e4
      refine ⟨-2, M, M, ?_, ?_, hI, hp⟩
      · rw [eX8_house _ _ _ (Nat.le_of_ble_eq_true rfl)]
        simp (config := { maxSteps := 2000000 }) (disch := first | omega | assumption | (simp only [gm_isO_sF, gm_isO_sA, gm_isO_cp]; assumption)) only [gm_push, gm_iload, gm_lload, gm_aload, gm_istore, gm_astore, gm_iinc, gm_op2, gm_quo, gm_op1, gm_lop2, gm_lshl, gm_i2l, gm_l2i, gm_lcmp, gm_dup, gm_pop1, gm_dup2, gm_goto, gm_ifeq, gm_ifne, gm_iflt, gm_ifge, gm_ifgt, gm_ifle, gm_ceq, gm_cne, gm_clt, gm_cge, gm_cgt, gm_cle, gm_ifnull, gm_ifnonnull, gm_swk, gm_switch, gm_getI, gm_getR, gm_putI, gm_putZ, gm_putR, gm_new, gm_newarr, gm_iald, gm_cald, gm_zald, gm_lald, gm_aald, gm_iast, gm_cast, gm_zast, gm_last, gm_aast, gm_acp, gm_oinit, gm_back, gm_scall, gm_vcall, gm_iret, gm_zret, gm_cret, gm_lret, gm_aret, gm_vret, gm_slen, gm_schar, gm_sidx, gm_lget, gm_lset, gm_nl, gm_ent, gm_wd, gm_pop, gm_pad, gm_xl_c, gm_alen_u, gm_1_sF, gm_1_sA, gm_1_cp, gm_len_sF, gm_len_sA, gm_len_cp, Bool.or_true, Bool.true_or, gm_max_u, gm_min_u, gm_isO_sF, gm_isO_sA, gm_isO_cp, gm_gF_sF, gm_gF_sA, gm_gA_sF, gm_gA_sA, gm_gF_cp, gm_gA_cp, gm_add, gm_sub, gm_mul, gm_neg, ↓reduceIte, Nat.reduceAdd, Nat.reduceLeDiff, true_and, and_true, and_self, true_or, or_true, false_and, and_false, false_or, or_false, eq_self, Nat.reduceEqDiff, Int.reduceEq, Int.reduceLT, Int.reduceLE, Int.reduceNeg, Int.reduceAdd, Int.reduceSub, Int.reduceMul, Int.reduceDiv, Int.reduceMod, reduceCtorEq, if_true, if_false, gm_w_id, xX8_house_0, xX8_house_1, xX8_house_2, xX8_house_3, xX8_house_4, e1, e3]
      · rw [eX9_house _ _ _ (Nat.le_of_ble_eq_true rfl)]
        simp (config := { maxSteps := 2000000 }) (disch := first | omega | assumption | (simp only [gm_isO_sF, gm_isO_sA, gm_isO_cp]; assumption)) only [gm_push, gm_iload, gm_lload, gm_aload, gm_istore, gm_astore, gm_iinc, gm_op2, gm_quo, gm_op1, gm_lop2, gm_lshl, gm_i2l, gm_l2i, gm_lcmp, gm_dup, gm_pop1, gm_dup2, gm_goto, gm_ifeq, gm_ifne, gm_iflt, gm_ifge, gm_ifgt, gm_ifle, gm_ceq, gm_cne, gm_clt, gm_cge, gm_cgt, gm_cle, gm_ifnull, gm_ifnonnull, gm_swk, gm_switch, gm_getI, gm_getR, gm_putI, gm_putZ, gm_putR, gm_new, gm_newarr, gm_iald, gm_cald, gm_zald, gm_lald, gm_aald, gm_iast, gm_cast, gm_zast, gm_last, gm_aast, gm_acp, gm_oinit, gm_back, gm_scall, gm_vcall, gm_iret, gm_zret, gm_cret, gm_lret, gm_aret, gm_vret, gm_slen, gm_schar, gm_sidx, gm_lget, gm_lset, gm_nl, gm_ent, gm_wd, gm_pop, gm_pad, gm_xl_c, gm_alen_u, gm_1_sF, gm_1_sA, gm_1_cp, gm_len_sF, gm_len_sA, gm_len_cp, Bool.or_true, Bool.true_or, gm_max_u, gm_min_u, gm_isO_sF, gm_isO_sA, gm_isO_cp, gm_gF_sF, gm_gF_sA, gm_gA_sF, gm_gA_sA, gm_gF_cp, gm_gA_cp, gm_add, gm_sub, gm_mul, gm_neg, ↓reduceIte, Nat.reduceAdd, Nat.reduceLeDiff, true_and, and_true, and_self, true_or, or_true, false_and, and_false, false_or, or_false, eq_self, Nat.reduceEqDiff, Int.reduceEq, Int.reduceLT, Int.reduceLE, Int.reduceNeg, Int.reduceAdd, Int.reduceSub, Int.reduceMul, Int.reduceDiv, Int.reduceMod, reduceCtorEq, if_true, if_false, gm_w_id, gm_l902, gm_l903, gm_l904, gm_l905, gm_l906, gm_l907, gm_l908, gm_l914, gm_l915, gm_l916, gm_l917, gm_l918, gm_l919, gm_l920, gm_l921, gm_l925, gm_l926, gm_l931, gm_l932, gm_l934, gm_l936, gm_l937, gm_l938, gm_l940, gm_l947, gm_l948, gm_l949, gm_l950, gm_l951, gm_l952, gm_l953, gm_l954, gm_l955, gm_l956, gm_l957, gm_l959, gm_l960, gm_l961, gm_l962, gm_l963, gm_z148, gm_z149, gm_z150, gm_z151, gm_z152, gm_z153, gm_z154, gm_z155, gm_z156, gm_z157, gm_z158, gm_z159, gm_z160, gm_z161, gm_z162, gm_z163, gm_z164, gm_z165, gm_z166, gm_z167, gm_z168, gm_z169, gm_z170, gm_z171, gm_z172, gm_z173, gm_z174, gm_z175, gm_z176, gm_z177, gm_z178, gm_z179, gm_z180, gm_z181, gm_z182, gm_z183, gm_z184, gm_z185, gm_z186, gm_z187, gm_z188, gn_i149, gn_i150, gn_i151, gn_i152, gn_i153, gn_i154, gn_i155, gn_i156, gn_i157, gn_i158, gn_i159, gn_i160, gn_i161, gn_i162, gn_i163, gn_i164, gn_i165, gn_i166, gn_i167, gn_i168, gn_i169, gn_i170, gn_i171, gn_i172, gn_i173, gn_i174, gn_i175, gn_i176, gn_i177, gn_i178, gn_i179, gn_i180, gn_i181, gn_i182, gn_i183, gn_i184, gn_i185, gn_i186, gn_i187, gn_i188, xX9_house_0, xX9_house_1, xX9_house_2, xX9_house_3, xX9_house_4, xX9_house_5, xX9_house_6, e2, e4]
  · rw [if_neg ck] at e1 e2
    refine ⟨-1, M, M, ?_, ?_, hI, hp⟩
    · rw [eX8_house _ _ _ (Nat.le_of_ble_eq_true rfl)]
      simp (config := { maxSteps := 2000000 }) (disch := first | omega | assumption | (simp only [gm_isO_sF, gm_isO_sA, gm_isO_cp]; assumption)) only [gm_push, gm_iload, gm_lload, gm_aload, gm_istore, gm_astore, gm_iinc, gm_op2, gm_quo, gm_op1, gm_lop2, gm_lshl, gm_i2l, gm_l2i, gm_lcmp, gm_dup, gm_pop1, gm_dup2, gm_goto, gm_ifeq, gm_ifne, gm_iflt, gm_ifge, gm_ifgt, gm_ifle, gm_ceq, gm_cne, gm_clt, gm_cge, gm_cgt, gm_cle, gm_ifnull, gm_ifnonnull, gm_swk, gm_switch, gm_getI, gm_getR, gm_putI, gm_putZ, gm_putR, gm_new, gm_newarr, gm_iald, gm_cald, gm_zald, gm_lald, gm_aald, gm_iast, gm_cast, gm_zast, gm_last, gm_aast, gm_acp, gm_oinit, gm_back, gm_scall, gm_vcall, gm_iret, gm_zret, gm_cret, gm_lret, gm_aret, gm_vret, gm_slen, gm_schar, gm_sidx, gm_lget, gm_lset, gm_nl, gm_ent, gm_wd, gm_pop, gm_pad, gm_xl_c, gm_alen_u, gm_1_sF, gm_1_sA, gm_1_cp, gm_len_sF, gm_len_sA, gm_len_cp, Bool.or_true, Bool.true_or, gm_max_u, gm_min_u, gm_isO_sF, gm_isO_sA, gm_isO_cp, gm_gF_sF, gm_gF_sA, gm_gA_sF, gm_gA_sA, gm_gF_cp, gm_gA_cp, gm_add, gm_sub, gm_mul, gm_neg, ↓reduceIte, Nat.reduceAdd, Nat.reduceLeDiff, true_and, and_true, and_self, true_or, or_true, false_and, and_false, false_or, or_false, eq_self, Nat.reduceEqDiff, Int.reduceEq, Int.reduceLT, Int.reduceLE, Int.reduceNeg, Int.reduceAdd, Int.reduceSub, Int.reduceMul, Int.reduceDiv, Int.reduceMod, reduceCtorEq, if_true, if_false, gm_w_id, xX8_house_0, xX8_house_1, xX8_house_2, xX8_house_3, xX8_house_4, e1]
    · rw [eX9_house _ _ _ (Nat.le_of_ble_eq_true rfl)]
      simp (config := { maxSteps := 2000000 }) (disch := first | omega | assumption | (simp only [gm_isO_sF, gm_isO_sA, gm_isO_cp]; assumption)) only [gm_push, gm_iload, gm_lload, gm_aload, gm_istore, gm_astore, gm_iinc, gm_op2, gm_quo, gm_op1, gm_lop2, gm_lshl, gm_i2l, gm_l2i, gm_lcmp, gm_dup, gm_pop1, gm_dup2, gm_goto, gm_ifeq, gm_ifne, gm_iflt, gm_ifge, gm_ifgt, gm_ifle, gm_ceq, gm_cne, gm_clt, gm_cge, gm_cgt, gm_cle, gm_ifnull, gm_ifnonnull, gm_swk, gm_switch, gm_getI, gm_getR, gm_putI, gm_putZ, gm_putR, gm_new, gm_newarr, gm_iald, gm_cald, gm_zald, gm_lald, gm_aald, gm_iast, gm_cast, gm_zast, gm_last, gm_aast, gm_acp, gm_oinit, gm_back, gm_scall, gm_vcall, gm_iret, gm_zret, gm_cret, gm_lret, gm_aret, gm_vret, gm_slen, gm_schar, gm_sidx, gm_lget, gm_lset, gm_nl, gm_ent, gm_wd, gm_pop, gm_pad, gm_xl_c, gm_alen_u, gm_1_sF, gm_1_sA, gm_1_cp, gm_len_sF, gm_len_sA, gm_len_cp, Bool.or_true, Bool.true_or, gm_max_u, gm_min_u, gm_isO_sF, gm_isO_sA, gm_isO_cp, gm_gF_sF, gm_gF_sA, gm_gA_sF, gm_gA_sA, gm_gF_cp, gm_gA_cp, gm_add, gm_sub, gm_mul, gm_neg, ↓reduceIte, Nat.reduceAdd, Nat.reduceLeDiff, true_and, and_true, and_self, true_or, or_true, false_and, and_false, false_or, or_false, eq_self, Nat.reduceEqDiff, Int.reduceEq, Int.reduceLT, Int.reduceLE, Int.reduceNeg, Int.reduceAdd, Int.reduceSub, Int.reduceMul, Int.reduceDiv, Int.reduceMod, reduceCtorEq, if_true, if_false, gm_w_id, gm_l902, gm_l903, gm_l904, gm_l905, gm_l906, gm_l907, gm_l908, gm_l914, gm_l915, gm_l916, gm_l917, gm_l918, gm_l919, gm_l920, gm_l921, gm_l925, gm_l926, gm_l931, gm_l932, gm_l934, gm_l936, gm_l937, gm_l938, gm_l940, gm_l947, gm_l948, gm_l949, gm_l950, gm_l951, gm_l952, gm_l953, gm_l954, gm_l955, gm_l956, gm_l957, gm_l959, gm_l960, gm_l961, gm_l962, gm_l963, gm_z148, gm_z149, gm_z150, gm_z151, gm_z152, gm_z153, gm_z154, gm_z155, gm_z156, gm_z157, gm_z158, gm_z159, gm_z160, gm_z161, gm_z162, gm_z163, gm_z164, gm_z165, gm_z166, gm_z167, gm_z168, gm_z169, gm_z170, gm_z171, gm_z172, gm_z173, gm_z174, gm_z175, gm_z176, gm_z177, gm_z178, gm_z179, gm_z180, gm_z181, gm_z182, gm_z183, gm_z184, gm_z185, gm_z186, gm_z187, gm_z188, gn_i149, gn_i150, gn_i151, gn_i152, gn_i153, gn_i154, gn_i155, gn_i156, gn_i157, gn_i158, gn_i159, gn_i160, gn_i161, gn_i162, gn_i163, gn_i164, gn_i165, gn_i166, gn_i167, gn_i168, gn_i169, gn_i170, gn_i171, gn_i172, gn_i173, gn_i174, gn_i175, gn_i176, gn_i177, gn_i178, gn_i179, gn_i180, gn_i181, gn_i182, gn_i183, gn_i184, gn_i185, gn_i186, gn_i187, gn_i188, xX9_house_0, xX9_house_1, xX9_house_2, xX9_house_3, xX9_house_4, xX9_house_5, xX9_house_6, e2]
/-! day -/
/-- houses before i have had their day, no more has changed -/
def gn_Dk (M M1 : gm_M) (i : Int) : Prop := gm_Lay M1 ∧ (∀ (f : Nat) (o : Int), ¬ (8 ≤ o ∧ o ≤ 25 ∧ (f = 203 ∧ (o - 8) % 3 = 0 ∨ f = 500 ∧ (o - 9) % 3 = 0)) → gm_gF M1 f o = gm_gF M f o) ∧ (∀ a i : Int, gm_gA M1 a i = gm_gA M a i) ∧ ∀ j, 0 ≤ j → j < gm_many M → gm_qq M1 (8 + 3 * j) = if j < i then gn_sD M j (gm_day M) (gm_qq M (8 + 3 * j)) else gm_qq M (8 + 3 * j)
theorem gn_SC_e {M M1 : gm_M} {g o : Int} (hF : ∀ (f : Nat), f ≠ 203 → gm_gF M1 f o = gm_gF M f o) (hF1 : ∀ (f : Nat), f ≠ 500 → gm_gF M1 f (o + 1) = gm_gF M f (o + 1)) (hg : ∀ (f : Nat) (x : Int), 0 ≤ x → x ≤ 6 → gm_gF M1 f (g + x) = gm_gF M f (g + x)) (hA : ∀ a i : Int, gm_gA M1 a i = gm_gA M a i) : gm_SC M1 g o = gm_SC M g o := by
  have hA' : ∀ a, gm_gA M1 a = gm_gA M a := fun a => funext (hA a)
  have htf : ∀ x, 0 ≤ x → x ≤ 6 → gm_tf M1 (g + x) = gm_tf M (g + x) := fun x x1 x2 => by
    funext num kind v moon warm held
    unfold gm_tf
    rw [hg 2 x x1 x2, hg 3 x x1 x2, hA', hA']
  have g0 : ∀ (f : Nat), gm_gF M1 f g = gm_gF M f g := fun f => by have := hg f 0 (by decide) (by decide); rwa [Int.add_zero] at this
  unfold gm_SC
  rw [hF 200 (by decide), hF 201 (by decide), hF 202 (by decide), hF1 501 (by decide), hF1 502 (by decide), g0, g0, hA', htf 1 (by decide) (by decide), htf 4 (by decide) (by decide)]
theorem gn_sD_ok {M : gm_M} (hI : gn_Inv M) {h : Int} (h1 : 0 ≤ h) (h2 : h < gm_many M) (day : Int) {q : Int × Int} (hq : gm_pok q) (hr : q.2 ≤ gm_roo M h) : gm_pok (gn_sD M h day q) ∧ (gn_sD M h day q).2 ≤ gm_roo M h := by
  obtain ⟨p1, p2, p3, p4, p5, p6⟩ := gn_cap_b hI h1 h2
  refine ⟨gm_stD_ok hI.CI h1 h2 (by omega) (by omega) hq, ?_⟩
  unfold gn_sD
  rw [gm_stD_E]
  unfold gm_stl
  have := hq.2
  split
  · simp only
    omega
  · split
    · simp only
      omega
    · simp only
      omega
theorem gn_dst_SC (M : gm_M) (g o day : Int) : gm_dst M g o day 0 = gm_SC M g o day 0 (gm_qq M o) := rfl
theorem gn_sD_SC (M : gm_M) (h day : Int) (q : Int × Int) : gn_sD M h day q = gm_SC M (gm_gr M) (8 + 3 * h) day 0 q := rfl
theorem r_X8_day_loop (d D : Nat) (hD : D = d + 5) {M : gm_M} (hI : gn_Inv M) : ∀ (n f : Nat) (i s : Int) (M1 : gm_M), gn_Dk M M1 i → i = gm_many M - n → 0 ≤ i → gm_i s → 3 * (n + 1) ≤ f →
    ∃ M2, gn_Dk M M2 (gm_many M) ∧ gm_ex (gm_go D) qX8_day f 2 [some (.inr (.inr 1)), some (.inr (.inr (gm_gr M))), some (.inl s), some (.inl i)] [] M1 = some (some (.inl (gn_dyS M (gm_day M) (fun h => gm_qq M (8 + 3 * h)) n i s)), gm_sF M2 702 2 (gm_day M + 1)) := by
  subst hD
  have hm := gn_many_b hI
  have hCI := hI.CI
  have hd : 0 ≤ gm_day M ∧ gm_day M ≤ 9999 := hI.2.1.2.1
  have hgb := (gm_gr_b hCI).1
  intro n
  induction n with
  | zero =>
    intro f i s M1 hk hi h0 hs hf
    obtain ⟨f, rfl⟩ : ∃ g, f = g + 2 := ⟨f - 2, by omega⟩
    obtain rfl : i = gm_many M := by omega
    have hL1 := hk.1
    have z1 := gm_z1 hL1
    have z2 := gm_z2 hL1
    have l8 := gm_l800 hL1
    have m1 : gm_gF M1 701 2 = gm_many M := hk.2.1 701 2 (by omega)
    have d1 : gm_gF M1 702 2 = gm_day M := hk.2.1 702 2 (by omega)
    refine ⟨M1, hk, ?_⟩
    rw [xX8_day_2]
    simp (config := { maxSteps := 2000000 }) (disch := first | omega | assumption | (simp only [gm_isO_sF, gm_isO_sA, gm_isO_cp]; assumption)) only [gm_push, gm_iload, gm_lload, gm_aload, gm_istore, gm_astore, gm_iinc, gm_op2, gm_quo, gm_op1, gm_lop2, gm_lshl, gm_i2l, gm_l2i, gm_lcmp, gm_dup, gm_pop1, gm_dup2, gm_goto, gm_ifeq, gm_ifne, gm_iflt, gm_ifge, gm_ifgt, gm_ifle, gm_ceq, gm_cne, gm_clt, gm_cge, gm_cgt, gm_cle, gm_ifnull, gm_ifnonnull, gm_swk, gm_switch, gm_getI, gm_getR, gm_putI, gm_putZ, gm_putR, gm_new, gm_newarr, gm_iald, gm_cald, gm_zald, gm_lald, gm_aald, gm_iast, gm_cast, gm_zast, gm_last, gm_aast, gm_acp, gm_oinit, gm_back, gm_scall, gm_vcall, gm_iret, gm_zret, gm_cret, gm_lret, gm_aret, gm_vret, gm_slen, gm_schar, gm_sidx, gm_lget, gm_lset, gm_nl, gm_ent, gm_wd, gm_pop, gm_pad, gm_xl_c, gm_alen_u, gm_1_sF, gm_1_sA, gm_1_cp, gm_len_sF, gm_len_sA, gm_len_cp, Bool.or_true, Bool.true_or, gm_max_u, gm_min_u, gm_isO_sF, gm_isO_sA, gm_isO_cp, gm_gF_sF, gm_gF_sA, gm_gA_sF, gm_gA_sA, gm_gF_cp, gm_gA_cp, gm_add, gm_sub, gm_mul, gm_neg, ↓reduceIte, Nat.reduceAdd, Nat.reduceLeDiff, true_and, and_true, and_self, true_or, or_true, false_and, and_false, false_or, or_false, eq_self, Nat.reduceEqDiff, Int.reduceEq, Int.reduceLT, Int.reduceLE, Int.reduceNeg, Int.reduceAdd, Int.reduceSub, Int.reduceMul, Int.reduceDiv, Int.reduceMod, reduceCtorEq, if_true, if_false, gm_w_id, xX8_day_0, xX8_day_1, xX8_day_3, xX8_day_4, z1, z2, l8, m1, d1, gn_dyS, gn_dyA, Int.lt_irrefl]
  | succ n ih =>
    intro f i s M1 hk hi h0 hs hf
    obtain ⟨f, rfl⟩ : ∃ g, f = g + 3 := ⟨f - 3, by omega⟩
    have c : i < gm_many M := by omega
    have c6 : i < 6 := by omega
    have hL1 := hk.1
    have z1 := gm_z1 hL1
    have z2 := gm_z2 hL1
    have z3 := gm_z3 hL1
    have y3 := gm_y3 M1
    have l8 := gm_l800 hL1
    have l7 : gm_gF M1 700 2 = 3 := gm_l700 hL1 z2
    have m1 : gm_gF M1 701 2 = gm_many M := hk.2.1 701 2 (by omega)
    have d1 : gm_gF M1 702 2 = gm_day M := hk.2.1 702 2 (by omega)
    have ha := gm_a3 hL1 (i := i) h0 c6
    have hin := gm_inI (M := M1) (a := 3) (i := i) y3 h0 c6 (by decide)
    have ha3 := gm_alen_k 24 (by decide) (gm_go (d + 5))
    have hA' : ∀ a, gm_gA M1 a = gm_gA M a := fun a => funext (hk.2.2.1 a)
    have hFg : ∀ (f : Nat) (o : Int), 25 < o → gm_gF M1 f o = gm_gF M f o := fun f o y => hk.2.1 f o (by omega)
    have hg1 : gm_isO 1 M1 (gm_gr M) = true := (gm_isO_iff hL1).mpr ((gm_isO_iff hI.L).mp (gm_gr_b hCI).2)
    have hgw : gm_gwf M1 (gm_gr M) := by
      have := hCI.2.2.2.2.2.2
      unfold gm_gwf gm_cwf at *
      simp only [hA']
      rw [hFg 2 (gm_gr M + 1) (by omega), hFg 3 (gm_gr M + 1) (by omega), hFg 2 (gm_gr M + 4) (by omega), hFg 3 (gm_gr M + 4) (by omega), hFg 102 (gm_gr M) (by omega), hFg 103 (gm_gr M) (by omega)]
      exact this
    have hqi : gm_qq M1 (8 + 3 * i) = gm_qq M (8 + 3 * i) := by rw [hk.2.2.2 i h0 c, if_neg (by omega)]
    have q3 : gm_gF M1 203 (8 + 3 * i) = gm_gF M 203 (8 + 3 * i) := congrArg Prod.fst hqi
    have q5 : gm_gF M1 500 (8 + 3 * i + 1) = gm_gF M 500 (8 + 3 * i + 1) := congrArg Prod.snd hqi
    have hFo : ∀ (f : Nat), f ≠ 203 → gm_gF M1 f (8 + 3 * i) = gm_gF M f (8 + 3 * i) := fun f y => hk.2.1 f _ (by omega)
    have hFs : ∀ (f : Nat), f ≠ 500 → gm_gF M1 f (8 + 3 * i + 1) = gm_gF M f (8 + 3 * i + 1) := fun f y => hk.2.1 f _ (by omega)
    have how : gm_owf M1 (8 + 3 * i) := by
      have := (hCI.ho h0 c).2
      unfold gm_owf at *
      simp only [hA']
      rw [hFo 200 (by decide), hFo 201 (by decide), hFo 202 (by decide), q3, q5, hFs 501 (by decide), hFs 502 (by decide)]
      exact this
    have hsc : gm_dst M1 (gm_gr M) (8 + 3 * i) (gm_day M) 0 = gn_sD M i (gm_day M) (gm_qq M (8 + 3 * i)) := by
      rw [gn_dst_SC, gn_sD_SC, gn_SC_e hFo hFs (fun f x x1 x2 => hFg f _ (by omega)) hk.2.2.1, hqi]
    obtain ⟨W, Hn, hwh⟩ : ∃ W Hn, gn_sD M i (gm_day M) (gm_qq M (8 + 3 * i)) = (W, Hn) := ⟨_, _, rfl⟩
    have ep := r_X2_pass d (8 + 3 * i) (gm_gr M) (gm_day M) 0 M1 hL1 ha.2 hg1 hgw how (by omega) (by decide) (hsc.trans hwh)
    rw [hFg 103 _ (by omega), hFg 102 _ (by omega)] at ep
    have hk2 : gn_Dk M (gm_hs M1 (8 + 3 * i) (8 + 3 * i + 1) W Hn) (i + 1) := by
      refine ⟨(hL1.sF _ _ _ (by decide)).sF _ _ _ (by decide), fun f o y => ?_, hk.2.2.1, fun j j1 j2 => ?_⟩
      · unfold gm_hs
        rw [gm_gF_sF, if_neg (by omega), gm_gF_sF, if_neg (by omega)]
        exact hk.2.1 f o y
      · by_cases y : j = i
        · subst y
          rw [if_pos (by omega), hwh]
          unfold gm_qq gm_hs
          simp only [gm_gF_sF, Nat.reduceEqDiff, false_and, and_self, ↓reduceIte]
        · have e0 : gm_qq (gm_hs M1 (8 + 3 * i) (8 + 3 * i + 1) W Hn) (8 + 3 * j) = gm_qq M1 (8 + 3 * j) := by
            unfold gm_qq gm_hs
            rw [gm_gF_sF, if_neg (by omega), gm_gF_sF, if_neg (by omega), gm_gF_sF, if_neg (by omega), gm_gF_sF, if_neg (by omega)]
          rw [e0, hk.2.2.2 j j1 j2]
          by_cases y2 : j < i
          · rw [if_pos y2, if_pos (by omega)]
          · rw [if_neg y2, if_neg (by omega)]
    have hv : gn_dyS M (gm_day M) (fun h => gm_qq M (8 + 3 * h)) (n + 1) i s = gn_dyS M (gm_day M) (fun h => gm_qq M (8 + 3 * h)) n (i + 1) (gm_or s (if gm_am0 M W = 0 then 0 else gm_shl 1 i)) := by
      show gn_dyA _ n (i + 1) (gm_or s (if gm_am0 M (gn_sD M i (gm_day M) (gm_qq M (8 + 3 * i))).1 = 0 then 0 else gm_shl 1 i)) = _
      rw [hwh]
      rfl
    rw [hv]
    change gm_go (d + 5) _ _ _ = some (some (.inl (gm_am0 M W)), _) at ep
    rcases gn_am01 M W with y | y
    · rw [y] at ep ⊢
      rw [if_pos rfl, gn_or0 hs]
      obtain ⟨M2, hk3, e3⟩ := ih (f + 1) (i + 1) s _ hk2 (by omega) (by omega) hs (by omega)
      refine ⟨M2, hk3, ?_⟩
      rw [← e3, xX8_day_2]
      simp (config := { maxSteps := 2000000 }) (disch := first | omega | assumption | (simp only [gm_isO_sF, gm_isO_sA, gm_isO_cp]; assumption)) only [gm_push, gm_iload, gm_lload, gm_aload, gm_istore, gm_astore, gm_iinc, gm_op2, gm_quo, gm_op1, gm_lop2, gm_lshl, gm_i2l, gm_l2i, gm_lcmp, gm_dup, gm_pop1, gm_dup2, gm_goto, gm_ifeq, gm_ifne, gm_iflt, gm_ifge, gm_ifgt, gm_ifle, gm_ceq, gm_cne, gm_clt, gm_cge, gm_cgt, gm_cle, gm_ifnull, gm_ifnonnull, gm_swk, gm_switch, gm_getI, gm_getR, gm_putI, gm_putZ, gm_putR, gm_new, gm_newarr, gm_iald, gm_cald, gm_zald, gm_lald, gm_aald, gm_iast, gm_cast, gm_zast, gm_last, gm_aast, gm_acp, gm_oinit, gm_back, gm_scall, gm_vcall, gm_iret, gm_zret, gm_cret, gm_lret, gm_aret, gm_vret, gm_slen, gm_schar, gm_sidx, gm_lget, gm_lset, gm_nl, gm_ent, gm_wd, gm_pop, gm_pad, gm_xl_c, gm_alen_u, gm_1_sF, gm_1_sA, gm_1_cp, gm_len_sF, gm_len_sA, gm_len_cp, Bool.or_true, Bool.true_or, gm_max_u, gm_min_u, gm_isO_sF, gm_isO_sA, gm_isO_cp, gm_gF_sF, gm_gF_sA, gm_gA_sF, gm_gA_sA, gm_gF_cp, gm_gA_cp, gm_add, gm_sub, gm_mul, gm_neg, ↓reduceIte, Nat.reduceAdd, Nat.reduceLeDiff, true_and, and_true, and_self, true_or, or_true, false_and, and_false, false_or, or_false, eq_self, Nat.reduceEqDiff, Int.reduceEq, Int.reduceLT, Int.reduceLE, Int.reduceNeg, Int.reduceAdd, Int.reduceSub, Int.reduceMul, Int.reduceDiv, Int.reduceMod, reduceCtorEq, if_true, if_false, gm_w_id, xX8_day_0, xX8_day_1, xX8_day_3, xX8_day_4, z1, z2, z3, y3, l8, l7, m1, d1, c, c6, ha.1, ha.2, ha3, hin, ep]
    · rw [y] at ep ⊢
      rw [if_neg (by decide)]
      obtain ⟨M2, hk3, e3⟩ := ih (f + 1) (i + 1) (gm_or s (gm_shl 1 i)) _ hk2 (by omega) (by omega) (gn_or_i _ _) (by omega)
      refine ⟨M2, hk3, ?_⟩
      rw [← e3, xX8_day_2]
      simp (config := { maxSteps := 2000000 }) (disch := first | omega | assumption | (simp only [gm_isO_sF, gm_isO_sA, gm_isO_cp]; assumption)) only [gm_push, gm_iload, gm_lload, gm_aload, gm_istore, gm_astore, gm_iinc, gm_op2, gm_quo, gm_op1, gm_lop2, gm_lshl, gm_i2l, gm_l2i, gm_lcmp, gm_dup, gm_pop1, gm_dup2, gm_goto, gm_ifeq, gm_ifne, gm_iflt, gm_ifge, gm_ifgt, gm_ifle, gm_ceq, gm_cne, gm_clt, gm_cge, gm_cgt, gm_cle, gm_ifnull, gm_ifnonnull, gm_swk, gm_switch, gm_getI, gm_getR, gm_putI, gm_putZ, gm_putR, gm_new, gm_newarr, gm_iald, gm_cald, gm_zald, gm_lald, gm_aald, gm_iast, gm_cast, gm_zast, gm_last, gm_aast, gm_acp, gm_oinit, gm_back, gm_scall, gm_vcall, gm_iret, gm_zret, gm_cret, gm_lret, gm_aret, gm_vret, gm_slen, gm_schar, gm_sidx, gm_lget, gm_lset, gm_nl, gm_ent, gm_wd, gm_pop, gm_pad, gm_xl_c, gm_alen_u, gm_1_sF, gm_1_sA, gm_1_cp, gm_len_sF, gm_len_sA, gm_len_cp, Bool.or_true, Bool.true_or, gm_max_u, gm_min_u, gm_isO_sF, gm_isO_sA, gm_isO_cp, gm_gF_sF, gm_gF_sA, gm_gA_sF, gm_gA_sA, gm_gF_cp, gm_gA_cp, gm_add, gm_sub, gm_mul, gm_neg, ↓reduceIte, Nat.reduceAdd, Nat.reduceLeDiff, true_and, and_true, and_self, true_or, or_true, false_and, and_false, false_or, or_false, eq_self, Nat.reduceEqDiff, Int.reduceEq, Int.reduceLT, Int.reduceLE, Int.reduceNeg, Int.reduceAdd, Int.reduceSub, Int.reduceMul, Int.reduceDiv, Int.reduceMod, reduceCtorEq, if_true, if_false, gm_w_id, xX8_day_0, xX8_day_1, xX8_day_3, xX8_day_4, z1, z2, z3, y3, l8, l7, m1, d1, c, c6, ha.1, ha.2, ha3, hin, ep]
theorem s_day : gn_Si 61 140 [] := fun M d xs Ln hI hp => by
  have hL := hI.L
  have hm := gn_many_b hI
  have hCI := hI.CI
  have hd : 0 ≤ gm_day M ∧ gm_day M ≤ 9999 := hI.2.1.2.1
  have z1 := gm_z1 hL
  have z2 := gm_z2 hL
  have l8 := gm_l800 hL
  have z148 := gm_z148 hL
  have d7 : gm_gF M 702 2 = gm_day M := rfl
  have t1 : gm_gF M 901 148 = gm_day M := hI.2.2.1.1.2.1
  have m9 : gm_gF M 900 148 = gm_many M := hI.2.2.1.1.1
  by_cases c1 : gm_day M < 9999
  · have c1' : ¬ gm_day M = 9999 := by omega
    have eg := r_X8_groundNow (d + 18) M hL hCI.2.2.2.1 hCI.2.2.2.2.1
    have hk0 : gn_Dk M M 0 := ⟨hL, fun _ _ _ => rfl, fun _ _ => rfl, fun j j1 j2 => by rw [if_neg (by omega)]⟩
    obtain ⟨Mc, hk, ec⟩ := r_X8_day_loop (d + 14) (d + 19) rfl hI (gm_many M).toNat 99998 0 0 M hk0 (by omega) (Int.le_refl 0) ⟨by decide, by decide⟩ (by omega)
    have hL1 : gm_Lay (gm_sF Mc 702 2 (gm_day M + 1)) := hk.1.sF _ _ _ (by decide)
    have hF1 : ∀ (f : Nat) (o : Int), ¬ (8 ≤ o ∧ o ≤ 25 ∧ (f = 203 ∧ (o - 8) % 3 = 0 ∨ f = 500 ∧ (o - 9) % 3 = 0)) → ¬ (f = 702 ∧ o = 2) → gm_gF (gm_sF Mc 702 2 (gm_day M + 1)) f o = gm_gF M f o := fun f o y y2 => by
      rw [gm_gF_sF, if_neg y2]
      exact hk.2.1 f o y
    have hA1 : ∀ a i, gm_gA (gm_sF Mc 702 2 (gm_day M + 1)) a i = gm_gA M a i := hk.2.2.1
    have hq1 : ∀ j, 0 ≤ j → j < gm_many M → gm_qq (gm_sF Mc 702 2 (gm_day M + 1)) (8 + 3 * j) = gn_sD M j (gm_day M) (gm_qq M (8 + 3 * j)) := fun j j1 j2 => by
      have := hk.2.2.2 j j1 j2
      rw [if_pos j2] at this
      rw [← this]
      unfold gm_qq
      rw [gm_gF_sF, if_neg (by omega), gm_gF_sF, if_neg (by omega)]
    have dd : gm_gF (gm_sF Mc 702 2 (gm_day M + 1)) 702 2 = gm_day M + 1 := by rw [gm_gF_sF, if_pos ⟨rfl, rfl⟩]
    generalize gm_sF Mc 702 2 (gm_day M + 1) = M1 at *
    have hew : gn_Ew M M1 := ⟨hL1, fun f o y => hF1 f o (by omega) (by omega), fun a i _ _ => hA1 a i⟩
    have t1' : gm_gF M1 901 148 = gm_day M := (hF1 901 148 (by omega) (by omega)).trans t1
    have m9' : gm_gF M1 900 148 = gm_many M := (hF1 900 148 (by omega) (by omega)).trans m9
    have hal : gn_Al M M1 (gm_day M) (fun h => gm_qq M (8 + 3 * h)) := fun h h1 h2 => by
      obtain ⟨hMh, hdd⟩ := hI.Mh h1 h2
      obtain ⟨r1, r2, r3, r4, r5, r6, r7⟩ := hI.hR h1 h2
      obtain ⟨b1, b2, b3, b4, b5, b6, b7, b8, b9⟩ := hI.hI h1 h2
      have hz := hI.2.2.2.2.2.2.2.2
      refine ⟨⟨hew, t1', (hA1 151 h).trans r3, (hA1 152 h).trans r4, (hF1 927 148 (by omega) (by omega)).trans hz.1, hMh.2.2.2.2.2⟩, ⟨(hF1 928 148 (by omega) (by omega)).trans hdd.1, (hF1 929 148 (by omega) (by omega)).trans hdd.2.1, (hF1 930 148 (by omega) (by omega)).trans hdd.2.2.1, hdd.2.2.2⟩, ⟨(hA1 153 h).trans r5, b5⟩, (hA1 154 h).trans r6, b8⟩
    obtain ⟨M2, hE, hal2, t2, eday⟩ := r_X9_goDay (d + 12) hI (fun h => gm_qq M (8 + 3 * h)) ⟨hd.1, by omega⟩ hL1 m9' t1' hal
    have zz := gm_z148 hL1
    have hFo : ∀ (f : Nat) (o : Int), ¬ (8 ≤ o ∧ o ≤ 25 ∧ (f = 203 ∧ (o - 8) % 3 = 0 ∨ f = 500 ∧ (o - 9) % 3 = 0)) → ¬ (f = 702 ∧ o = 2) → ¬ (o = 148 ∧ f = 901) → gm_gF M2 f o = gm_gF M f o := fun f o y1 y2 y3 => (hE.2.1 f o y3).trans (hF1 f o y1 y2)
    have hAo : ∀ a i : Int, a ≠ 165 → a ≠ 168 → ¬ ((a = 151 ∨ a = 152) ∧ 0 ≤ i ∧ i < 6) → gm_gA M2 a i = gm_gA M a i := fun a i y1 y2 y3 => (hE.2.2 a i y1 y2 y3).trans (hA1 a i)
    refine ⟨gn_dyS M (gm_day M) (fun h => gm_qq M (8 + 3 * h)) (gm_many M).toNat 0 0, M1, M2, ?_, ?_, ?_, ?_⟩
    · rw [eX8_day _ _ _ (Nat.le_of_ble_eq_true rfl)]
      simp (config := { maxSteps := 2000000 }) (disch := first | omega | assumption | (simp only [gm_isO_sF, gm_isO_sA, gm_isO_cp]; assumption)) only [gm_push, gm_iload, gm_lload, gm_aload, gm_istore, gm_astore, gm_iinc, gm_op2, gm_quo, gm_op1, gm_lop2, gm_lshl, gm_i2l, gm_l2i, gm_lcmp, gm_dup, gm_pop1, gm_dup2, gm_goto, gm_ifeq, gm_ifne, gm_iflt, gm_ifge, gm_ifgt, gm_ifle, gm_ceq, gm_cne, gm_clt, gm_cge, gm_cgt, gm_cle, gm_ifnull, gm_ifnonnull, gm_swk, gm_switch, gm_getI, gm_getR, gm_putI, gm_putZ, gm_putR, gm_new, gm_newarr, gm_iald, gm_cald, gm_zald, gm_lald, gm_aald, gm_iast, gm_cast, gm_zast, gm_last, gm_aast, gm_acp, gm_oinit, gm_back, gm_scall, gm_vcall, gm_iret, gm_zret, gm_cret, gm_lret, gm_aret, gm_vret, gm_slen, gm_schar, gm_sidx, gm_lget, gm_lset, gm_nl, gm_ent, gm_wd, gm_pop, gm_pad, gm_xl_c, gm_alen_u, gm_1_sF, gm_1_sA, gm_1_cp, gm_len_sF, gm_len_sA, gm_len_cp, Bool.or_true, Bool.true_or, gm_max_u, gm_min_u, gm_isO_sF, gm_isO_sA, gm_isO_cp, gm_gF_sF, gm_gF_sA, gm_gA_sF, gm_gA_sA, gm_gF_cp, gm_gA_cp, gm_add, gm_sub, gm_mul, gm_neg, ↓reduceIte, Nat.reduceAdd, Nat.reduceLeDiff, true_and, and_true, and_self, true_or, or_true, false_and, and_false, false_or, or_false, eq_self, Nat.reduceEqDiff, Int.reduceEq, Int.reduceLT, Int.reduceLE, Int.reduceNeg, Int.reduceAdd, Int.reduceSub, Int.reduceMul, Int.reduceDiv, Int.reduceMod, reduceCtorEq, if_true, if_false, gm_w_id, xX8_day_0, xX8_day_1, xX8_day_3, xX8_day_4, z1, z2, l8, d7, c1, eg, ec]
    · rw [eX9_day _ _ _ (Nat.le_of_ble_eq_true rfl)]
      simp (config := { maxSteps := 2000000 }) (disch := first | omega | assumption | (simp only [gm_isO_sF, gm_isO_sA, gm_isO_cp]; assumption)) only [gm_push, gm_iload, gm_lload, gm_aload, gm_istore, gm_astore, gm_iinc, gm_op2, gm_quo, gm_op1, gm_lop2, gm_lshl, gm_i2l, gm_l2i, gm_lcmp, gm_dup, gm_pop1, gm_dup2, gm_goto, gm_ifeq, gm_ifne, gm_iflt, gm_ifge, gm_ifgt, gm_ifle, gm_ceq, gm_cne, gm_clt, gm_cge, gm_cgt, gm_cle, gm_ifnull, gm_ifnonnull, gm_swk, gm_switch, gm_getI, gm_getR, gm_putI, gm_putZ, gm_putR, gm_new, gm_newarr, gm_iald, gm_cald, gm_zald, gm_lald, gm_aald, gm_iast, gm_cast, gm_zast, gm_last, gm_aast, gm_acp, gm_oinit, gm_back, gm_scall, gm_vcall, gm_iret, gm_zret, gm_cret, gm_lret, gm_aret, gm_vret, gm_slen, gm_schar, gm_sidx, gm_lget, gm_lset, gm_nl, gm_ent, gm_wd, gm_pop, gm_pad, gm_xl_c, gm_alen_u, gm_1_sF, gm_1_sA, gm_1_cp, gm_len_sF, gm_len_sA, gm_len_cp, Bool.or_true, Bool.true_or, gm_max_u, gm_min_u, gm_isO_sF, gm_isO_sA, gm_isO_cp, gm_gF_sF, gm_gF_sA, gm_gA_sF, gm_gA_sA, gm_gF_cp, gm_gA_cp, gm_add, gm_sub, gm_mul, gm_neg, ↓reduceIte, Nat.reduceAdd, Nat.reduceLeDiff, true_and, and_true, and_self, true_or, or_true, false_and, and_false, false_or, or_false, eq_self, Nat.reduceEqDiff, Int.reduceEq, Int.reduceLT, Int.reduceLE, Int.reduceNeg, Int.reduceAdd, Int.reduceSub, Int.reduceMul, Int.reduceDiv, Int.reduceMod, reduceCtorEq, if_true, if_false, gm_w_id, gm_l902, gm_l903, gm_l904, gm_l905, gm_l906, gm_l907, gm_l908, gm_l914, gm_l915, gm_l916, gm_l917, gm_l918, gm_l919, gm_l920, gm_l921, gm_l925, gm_l926, gm_l931, gm_l932, gm_l934, gm_l936, gm_l937, gm_l938, gm_l940, gm_l947, gm_l948, gm_l949, gm_l950, gm_l951, gm_l952, gm_l953, gm_l954, gm_l955, gm_l956, gm_l957, gm_l959, gm_l960, gm_l961, gm_l962, gm_l963, gm_z148, gm_z149, gm_z150, gm_z151, gm_z152, gm_z153, gm_z154, gm_z155, gm_z156, gm_z157, gm_z158, gm_z159, gm_z160, gm_z161, gm_z162, gm_z163, gm_z164, gm_z165, gm_z166, gm_z167, gm_z168, gm_z169, gm_z170, gm_z171, gm_z172, gm_z173, gm_z174, gm_z175, gm_z176, gm_z177, gm_z178, gm_z179, gm_z180, gm_z181, gm_z182, gm_z183, gm_z184, gm_z185, gm_z186, gm_z187, gm_z188, gn_i149, gn_i150, gn_i151, gn_i152, gn_i153, gn_i154, gn_i155, gn_i156, gn_i157, gn_i158, gn_i159, gn_i160, gn_i161, gn_i162, gn_i163, gn_i164, gn_i165, gn_i166, gn_i167, gn_i168, gn_i169, gn_i170, gn_i171, gn_i172, gn_i173, gn_i174, gn_i175, gn_i176, gn_i177, gn_i178, gn_i179, gn_i180, gn_i181, gn_i182, gn_i183, gn_i184, gn_i185, gn_i186, gn_i187, gn_i188, xX9_day_0, xX9_day_1, xX9_day_2, t1', c1', eday]
    · have hW : ∀ p, p ≠ 0 → gn_W p M M2 := fun p hp0 => by
        refine ⟨fun f o z => ?_, fun a i z => ?_⟩
        · have : ¬ (8 ≤ o ∧ o ≤ 25) ∧ o ≠ 2 ∧ ¬ (o = 148 ∧ f = 901) := by rcases p with _ | _ | _ | _ | _ | _ | p <;> simp only [gn_U] at z <;> omega
          exact hFo f o (by omega) (by omega) this.2.2
        · have : a ≠ 165 ∧ a ≠ 168 ∧ a ≠ 151 ∧ a ≠ 152 := by rcases p with _ | _ | _ | _ | _ | _ | p <;> simp only [gn_V] at z <;> omega
          exact hAo a i this.1 this.2.1 (by omega)
      obtain ⟨hcI, hsI, hkI⟩ := gn_T2.mp (And.intro hI.2.1 hI.2.2.1)
      have f7 : ∀ (f : Nat), f ≠ 702 → gm_gF M2 f 2 = gm_gF M f 2 := fun f y => hFo f 2 (by omega) (by omega) (by omega)
      have f702 : gm_gF M2 702 2 = gm_day M + 1 := (hE.2.1 702 2 (by omega)).trans dd
      refine hI.t hE.1 (hFo 810 1 (by omega) (by omega) (by omega)) (hW 1 (by decide)) (hW 2 (by decide)) (hW 3 (by decide)) (hW 4 (by decide)) (hW 5 (by decide)) (hW 6 (by decide)) (gn_T2.mpr ⟨?_, ?_, fun j j1 j2 => ?_⟩)
      · unfold gn_cI
        rw [f7 701 (by decide), f702, f7 703 (by decide), f7 707 (by decide), f7 709 (by decide), hFo 810 1 (by omega) (by omega) (by omega), hFo 900 148 (by omega) (by omega) (by omega), t2, hFo 910 148 (by omega) (by omega) (by omega), hFo 935 148 (by omega) (by omega) (by omega), hFo 939 148 (by omega) (by omega) (by omega)]
        exact ⟨⟨hcI.1.1, ⟨by omega, by omega⟩, hcI.1.2.2⟩, hcI.2.1, rfl, hcI.2.2.2⟩
      · unfold gn_sI
        rw [f7 701 (by decide), f7 707 (by decide), f7 709 (by decide)]
        refine ⟨hsI.1, hsI.2.1, fun j j1 j2 => ?_, fun j j1 j2 => ?_⟩
        · rw [hAo 4 j (by decide) (by decide) (by omega), hAo 5 j (by decide) (by decide) (by omega), hAo 6 j (by decide) (by decide) (by omega), hAo 169 j (by decide) (by decide) (by omega), hAo 170 j (by decide) (by decide) (by omega), hAo 171 j (by decide) (by decide) (by omega)]
          exact hsI.2.2.1 j j1 j2
        · rw [hAo 7 j (by decide) (by decide) (by omega), hAo 172 j (by decide) (by decide) (by omega)]
          exact hsI.2.2.2 j j1 j2
      · rw [f7 701 (by decide)] at j2
        have j2' : j < gm_many M := j2
        obtain ⟨⟨b1, b2, b3, b4, b5, b6, b7, b8, b9⟩, r1, r2, r3, r4, r5, r6, r7⟩ := hkI j j1 j2
        have hro : gm_gF M 501 (8 + 3 * j + 1) = gm_roo M j := rfl
        have hrb := (gn_cap_b hI j1 j2').2.2.2.1
        obtain ⟨k1, k2⟩ := gn_sD_ok hI j1 j2' (gm_day M) (q := gm_qq M (8 + 3 * j)) ⟨b4, b6.1, by have := b6.2; rw [hro] at this; show gm_gF M 500 (8 + 3 * j + 1) ≤ 5000; omega⟩ b6.2
        have hq := hq1 j j1 j2'
        have q3 : gm_gF M2 203 (8 + 3 * j) = (gn_sD M j (gm_day M) (gm_qq M (8 + 3 * j))).1 := (hE.2.1 203 _ (by omega)).trans (congrArg Prod.fst hq)
        have q5 : gm_gF M2 500 (8 + 3 * j + 1) = (gn_sD M j (gm_day M) (gm_qq M (8 + 3 * j))).2 := (hE.2.1 500 _ (by omega)).trans (congrArg Prod.snd hq)
        have a1 : gm_gA M2 151 j = (gn_sD M j (gm_day M) (gm_qq M (8 + 3 * j))).1 := (hal2 j j1 j2').1.2.2.1
        have a2 : gm_gA M2 152 j = (gn_sD M j (gm_day M) (gm_qq M (8 + 3 * j))).2 := (hal2 j j1 j2').1.2.2.2.1
        have hFh : ∀ (f : Nat), f ≠ 203 → gm_gF M2 f (8 + 3 * j) = gm_gF M f (8 + 3 * j) := fun f y => hFo f _ (by omega) (by omega) (by omega)
        have hFs : ∀ (f : Nat), f ≠ 500 → gm_gF M2 f (8 + 3 * j + 1) = gm_gF M f (8 + 3 * j + 1) := fun f y => hFo f _ (by omega) (by omega) (by omega)
        unfold gn_hI gn_hR
        rw [q3, q5, a1, a2, hFh 200 (by decide), hFh 201 (by decide), hFh 202 (by decide), hFh 204 (by decide), hFs 501 (by decide), hFs 502 (by decide), hAo 149 j (by decide) (by decide) (by omega), hAo 150 j (by decide) (by decide) (by omega), hAo 153 j (by decide) (by decide) (by omega), hAo 154 j (by decide) (by decide) (by omega)]
        refine ⟨⟨b1, b2, b3, k1.1, b5, ⟨k1.2.1, k2⟩, b7, b8, fun i i1 i2 => ?_⟩, r1, r2, rfl, rfl, r5, r6, fun i i1 i2 => ?_⟩
        · rw [hAo _ i (by omega) (by omega) (by omega)]
          exact b9 i i1 i2
        · rw [hAo 155 _ (by decide) (by decide) (by omega), hAo (8 + 3 * j + 2) i (by omega) (by omega) (by omega)]
          exact r7 i i1 i2
    · exact gn_pu.e (fun a i z => hAo a i (by omega) (by omega) (by omega)) (hFo 9999 0 (by omega) (by omega) (by omega)) hp
  · have c1' : gm_day M = 9999 := by omega
    refine ⟨-3, M, M, ?_, ?_, hI, hp⟩
    · rw [eX8_day _ _ _ (Nat.le_of_ble_eq_true rfl)]
      simp (config := { maxSteps := 2000000 }) (disch := first | omega | assumption | (simp only [gm_isO_sF, gm_isO_sA, gm_isO_cp]; assumption)) only [gm_push, gm_iload, gm_lload, gm_aload, gm_istore, gm_astore, gm_iinc, gm_op2, gm_quo, gm_op1, gm_lop2, gm_lshl, gm_i2l, gm_l2i, gm_lcmp, gm_dup, gm_pop1, gm_dup2, gm_goto, gm_ifeq, gm_ifne, gm_iflt, gm_ifge, gm_ifgt, gm_ifle, gm_ceq, gm_cne, gm_clt, gm_cge, gm_cgt, gm_cle, gm_ifnull, gm_ifnonnull, gm_swk, gm_switch, gm_getI, gm_getR, gm_putI, gm_putZ, gm_putR, gm_new, gm_newarr, gm_iald, gm_cald, gm_zald, gm_lald, gm_aald, gm_iast, gm_cast, gm_zast, gm_last, gm_aast, gm_acp, gm_oinit, gm_back, gm_scall, gm_vcall, gm_iret, gm_zret, gm_cret, gm_lret, gm_aret, gm_vret, gm_slen, gm_schar, gm_sidx, gm_lget, gm_lset, gm_nl, gm_ent, gm_wd, gm_pop, gm_pad, gm_xl_c, gm_alen_u, gm_1_sF, gm_1_sA, gm_1_cp, gm_len_sF, gm_len_sA, gm_len_cp, Bool.or_true, Bool.true_or, gm_max_u, gm_min_u, gm_isO_sF, gm_isO_sA, gm_isO_cp, gm_gF_sF, gm_gF_sA, gm_gA_sF, gm_gA_sA, gm_gF_cp, gm_gA_cp, gm_add, gm_sub, gm_mul, gm_neg, ↓reduceIte, Nat.reduceAdd, Nat.reduceLeDiff, true_and, and_true, and_self, true_or, or_true, false_and, and_false, false_or, or_false, eq_self, Nat.reduceEqDiff, Int.reduceEq, Int.reduceLT, Int.reduceLE, Int.reduceNeg, Int.reduceAdd, Int.reduceSub, Int.reduceMul, Int.reduceDiv, Int.reduceMod, reduceCtorEq, if_true, if_false, gm_w_id, xX8_day_0, xX8_day_1, xX8_day_3, xX8_day_4, z1, z2, l8, d7, c1']
    · rw [eX9_day _ _ _ (Nat.le_of_ble_eq_true rfl)]
      simp (config := { maxSteps := 2000000 }) (disch := first | omega | assumption | (simp only [gm_isO_sF, gm_isO_sA, gm_isO_cp]; assumption)) only [gm_push, gm_iload, gm_lload, gm_aload, gm_istore, gm_astore, gm_iinc, gm_op2, gm_quo, gm_op1, gm_lop2, gm_lshl, gm_i2l, gm_l2i, gm_lcmp, gm_dup, gm_pop1, gm_dup2, gm_goto, gm_ifeq, gm_ifne, gm_iflt, gm_ifge, gm_ifgt, gm_ifle, gm_ceq, gm_cne, gm_clt, gm_cge, gm_cgt, gm_cle, gm_ifnull, gm_ifnonnull, gm_swk, gm_switch, gm_getI, gm_getR, gm_putI, gm_putZ, gm_putR, gm_new, gm_newarr, gm_iald, gm_cald, gm_zald, gm_lald, gm_aald, gm_iast, gm_cast, gm_zast, gm_last, gm_aast, gm_acp, gm_oinit, gm_back, gm_scall, gm_vcall, gm_iret, gm_zret, gm_cret, gm_lret, gm_aret, gm_vret, gm_slen, gm_schar, gm_sidx, gm_lget, gm_lset, gm_nl, gm_ent, gm_wd, gm_pop, gm_pad, gm_xl_c, gm_alen_u, gm_1_sF, gm_1_sA, gm_1_cp, gm_len_sF, gm_len_sA, gm_len_cp, Bool.or_true, Bool.true_or, gm_max_u, gm_min_u, gm_isO_sF, gm_isO_sA, gm_isO_cp, gm_gF_sF, gm_gF_sA, gm_gA_sF, gm_gA_sA, gm_gF_cp, gm_gA_cp, gm_add, gm_sub, gm_mul, gm_neg, ↓reduceIte, Nat.reduceAdd, Nat.reduceLeDiff, true_and, and_true, and_self, true_or, or_true, false_and, and_false, false_or, or_false, eq_self, Nat.reduceEqDiff, Int.reduceEq, Int.reduceLT, Int.reduceLE, Int.reduceNeg, Int.reduceAdd, Int.reduceSub, Int.reduceMul, Int.reduceDiv, Int.reduceMod, reduceCtorEq, if_true, if_false, gm_w_id, gm_l902, gm_l903, gm_l904, gm_l905, gm_l906, gm_l907, gm_l908, gm_l914, gm_l915, gm_l916, gm_l917, gm_l918, gm_l919, gm_l920, gm_l921, gm_l925, gm_l926, gm_l931, gm_l932, gm_l934, gm_l936, gm_l937, gm_l938, gm_l940, gm_l947, gm_l948, gm_l949, gm_l950, gm_l951, gm_l952, gm_l953, gm_l954, gm_l955, gm_l956, gm_l957, gm_l959, gm_l960, gm_l961, gm_l962, gm_l963, gm_z148, gm_z149, gm_z150, gm_z151, gm_z152, gm_z153, gm_z154, gm_z155, gm_z156, gm_z157, gm_z158, gm_z159, gm_z160, gm_z161, gm_z162, gm_z163, gm_z164, gm_z165, gm_z166, gm_z167, gm_z168, gm_z169, gm_z170, gm_z171, gm_z172, gm_z173, gm_z174, gm_z175, gm_z176, gm_z177, gm_z178, gm_z179, gm_z180, gm_z181, gm_z182, gm_z183, gm_z184, gm_z185, gm_z186, gm_z187, gm_z188, gn_i149, gn_i150, gn_i151, gn_i152, gn_i153, gn_i154, gn_i155, gn_i156, gn_i157, gn_i158, gn_i159, gn_i160, gn_i161, gn_i162, gn_i163, gn_i164, gn_i165, gn_i166, gn_i167, gn_i168, gn_i169, gn_i170, gn_i171, gn_i172, gn_i173, gn_i174, gn_i175, gn_i176, gn_i177, gn_i178, gn_i179, gn_i180, gn_i181, gn_i182, gn_i183, gn_i184, gn_i185, gn_i186, gn_i187, gn_i188, xX9_day_0, xX9_day_1, xX9_day_2, t1, c1']
