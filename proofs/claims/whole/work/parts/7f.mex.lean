/-! GROUND: the model reads what is between -/
def gn_ml (c w : Int) (X : Option gm_V) : gm_Ls := [some (.inr (.inr 148)), some (.inl c), some (.inl w), X]
/-- where the model comes to -/
def gn_mo (n k k2 c : Int) (M0 : gm_M) (d F : Nat) (w : Int) (X : Option gm_V) (M : gm_M) (r : Option gn_X) (q : Int) (Q : gn_X → gm_M → Prop) : Prop :=
  (∀ e, r = some e → ∃ (F' : Nat) (X' : Option gm_V) (M' : gm_M), 10 * (n - q) + 10 ≤ (F' : Int) ∧ gm_ex (gm_go d) qX9_takesE F 1 (gn_ml c w X) [] M = gm_ex (gm_go d) qX9_takesE F' 1 (gn_ml c 0 X') [] M' ∧ Q e M') ∧
  (r = none → ∃ M', gm_ex (gm_go d) qX9_takesE F 1 (gn_ml c w X) [] M = some (some (.inl 0), M') ∧ gn_Mw 161 k k2 c (c + 1) M0 M' ∧ gm_gF M' 912 148 = q)
theorem gn_mo.pre {n k k2 c w w1 q : Int} {M0 M M1 : gm_M} {d F F1 : Nat} {X X1 : Option gm_V} {r : Option gn_X} {Q : gn_X → gm_M → Prop} (e : gm_ex (gm_go d) qX9_takesE F 1 (gn_ml c w X) [] M = gm_ex (gm_go d) qX9_takesE F1 1 (gn_ml c w1 X1) [] M1) (h : gn_mo n k k2 c M0 d F1 w1 X1 M1 r q Q) : gn_mo n k k2 c M0 d F w X M r q Q := by
  unfold gn_mo at *
  rw [e]
  exact h
theorem gn_sp_app {s : Int} {W : List Int} (hW : gn_sp s W = W ∧ gn_spe s W = []) : ∀ P : List Int, (∀ x ∈ P, x = 38 ∨ x = 124 ∧ s ≠ 38) → gn_sp s (P ++ W) = W ∧ gn_spe s (P ++ W) = P.map (fun x => -x)
  | [], _ => hW
  | x :: P, h => by
    have h1 := h x (by simp)
    have h2 := gn_sp_app hW P (fun y hy => h y (by simp [hy]))
    show (if x = 38 ∨ x = 124 ∧ s ≠ 38 then gn_sp s (P ++ W) else x :: (P ++ W)) = W ∧ (if x = 38 ∨ x = 124 ∧ s ≠ 38 then -x :: gn_spe s (P ++ W) else []) = -x :: P.map (fun x => -x)
    rw [if_pos h1, if_pos h1, h2.1, h2.2]
    exact ⟨rfl, rfl⟩
theorem gn_sp_no {s w : Int} {W : List Int} (h : ¬ (w = 38 ∨ w = 124 ∧ s ≠ 38)) : gn_sp s (w :: W) = w :: W ∧ gn_spe s (w :: W) = [] := by
  unfold gn_sp gn_spe
  rw [if_neg h, if_neg h]
  exact ⟨rfl, rfl⟩
theorem gn_Mq.s4 {a1 k k2 c c2 p a v : Int} {M0 M : gm_M} {W S : List Int} (h : gn_Mq a1 k k2 c c2 M0 M p W S) (ha : 158 ≤ a1 ∧ a1 ≤ a ∧ a ≤ 161) {i : Int} (hi : c ≤ i ∧ i < c2) : gn_Mq a1 k k2 c c2 M0 (gm_sA M a i v) p W S := by
  obtain ⟨h1, h2, h3, h4, h5, h6, h7⟩ := h
  refine ⟨h1.s4 ha hi, h2, h3, h4, h5, gn_stk.e (fun j _ _ => ?_) h6, gn_at_e (fun j _ _ => ?_) h7⟩
  · rw [gm_gA_sA, if_neg (by omega)]
  · rw [gm_gA_sA, if_neg (by omega)]
/-- something waits -/
theorem gn_Mq.push {a1 k k2 c c2 p q s o : Int} {M0 M : gm_M} {W S : List Int} (h : gn_Mq a1 k k2 c c2 M0 M p W S) (hs : s = 33 ∨ s = 38 ∨ s = 40 ∨ s = 124) (ho : o = gn_op (s :: W)) : gn_Mq a1 k k2 c c2 M0 (gm_sF (gm_sF (gm_sA (gm_sF M 924 148 o) 163 (W.length : Int) s) 923 148 ((W.length : Int) + 1)) 912 148 q) q (s :: W) S := by
  obtain ⟨h1, h2, h3, h4, h5, h6, h7⟩ := h
  refine ⟨(((h1.sF (by decide)).s3).sF (by decide)).sF (by decide), by rw [gm_gF_sF, if_pos ⟨rfl, rfl⟩], ?_, ?_, ?_, ⟨?_, hs, gn_stk.e (fun j j1 j2 => ?_) h6⟩, gn_at_e (fun j _ _ => ?_) h7⟩
  · rw [gm_gF_sF, if_neg (by decide), gm_gF_sF, if_neg (by decide), gm_gF_sA, gm_gF_sF, if_neg (by decide)]; exact h3
  · rw [gm_gF_sF, if_neg (by decide), gm_gF_sF, if_pos ⟨rfl, rfl⟩]; simp
  · rw [gm_gF_sF, if_neg (by decide), gm_gF_sF, if_neg (by decide), gm_gF_sA, gm_gF_sF, if_pos ⟨rfl, rfl⟩]; exact ho
  · rw [gm_gA_sF, gm_gA_sF, gm_gA_sA, if_pos ⟨rfl, rfl⟩]
  · rw [gm_gA_sF, gm_gA_sF, gm_gA_sA, if_neg (by omega), gm_gA_sF]
  · rw [gm_gA_sF, gm_gA_sF, gm_gA_sA, if_neg (by omega), gm_gA_sF]
theorem gn_e_op {d : Nat} (hd : 4 ≤ d) {t : Int → Int} {n k k2 c s p : Int} {M0 M : gm_M} (hT : gn_Tx t n M0) (hk : 0 ≤ k ∧ k2 ≤ 600 ∧ k2 ≤ k + 100) (hs : s = 38 ∨ s = 124) {P W S : List Int} (h : gn_Mq 161 k k2 c (c + 1) M0 M p (P ++ W) S) (hp : 0 ≤ p ∧ p ≤ n) (hb : k + (S.length : Int) + ((P ++ W).length : Int) + (n - p) ≤ k2) (hc : gn_ch t n p = s) (hP : gn_sp s (P ++ W) = W ∧ gn_spe s (P ++ W) = P.map (fun x => -x)) :
    ∃ M', (∀ (F : Nat) (X : Option gm_V), gm_ex (gm_go d) qX9_takesE (F + 3) 1 (gn_ml c 0 X) [] M = gm_ex (gm_go d) qX9_takesE F 1 (gn_ml c 1 (some (.inl s))) [] M') ∧ gn_Mq 161 k k2 c (c + 1) M0 M' (p + 1) (s :: W) (S ++ P.map (fun x => -x)) := by
  have f0 := r_X9_next (D := d) (by omega) (h.1.Tx hT (by decide)) h.2.1 hp
  rw [hc] at f0
  have p1 := gn_ch_lt (t := t) (n := n) (p := p) (by omega)
  have z148 := gm_z148 h.1.1
  obtain ⟨M1, e1, g1⟩ := r_X9_settle (D := d) (by omega) hk hs h (by omega)
  rw [hP.1, hP.2] at g1
  have y148 := gm_z148 g1.1.1
  have y163 := gm_z163 g1.1.1
  have l921 := gm_l921 g1.1.1
  have w1 := g1.2.1
  have w4 := g1.2.2.2.1
  have w5 := g1.2.2.2.2.1
  have hWl : (W.length : Int) ≤ 100 := by simp only [List.length_append] at hb; omega
  have hin := gn_i163 M1 (i := (W.length : Int)) (by omega) (by omega)
  have hpu := g1.push (q := p + 1) (s := s) (o := gn_op W) (by omega) (by
    show gn_op W = gn_op W + (if s = 33 ∨ s = 40 then 1 else 0)
    rw [if_neg (by omega)]
    omega)
  rw [gn_sF_id M1 924 148 w5] at hpu
  refine ⟨_, fun F X => ?_, hpu⟩
  unfold gn_ml
  rw [xX9_takesE_1]
  rcases hs with rfl | rfl
  · simp (config := { maxSteps := 2000000 }) (disch := first | omega | assumption | (simp only [gm_isO_sF, gm_isO_sA, gm_isO_cp]; assumption)) only [gm_push, gm_iload, gm_lload, gm_aload, gm_istore, gm_astore, gm_iinc, gm_op2, gm_quo, gm_op1, gm_lop2, gm_lshl, gm_i2l, gm_l2i, gm_lcmp, gm_dup, gm_pop1, gm_dup2, gm_goto, gm_ifeq, gm_ifne, gm_iflt, gm_ifge, gm_ifgt, gm_ifle, gm_ceq, gm_cne, gm_clt, gm_cge, gm_cgt, gm_cle, gm_ifnull, gm_ifnonnull, gm_swk, gm_switch, gm_getI, gm_getR, gm_putI, gm_putZ, gm_putR, gm_new, gm_newarr, gm_iald, gm_cald, gm_zald, gm_lald, gm_aald, gm_iast, gm_cast, gm_zast, gm_last, gm_aast, gm_acp, gm_oinit, gm_back, gm_scall, gm_vcall, gm_iret, gm_zret, gm_cret, gm_lret, gm_aret, gm_vret, gm_slen, gm_schar, gm_sidx, gm_lget, gm_lset, gm_nl, gm_ent, gm_wd, gm_pop, gm_pad, gm_xl_c, gm_alen_u, gm_1_sF, gm_1_sA, gm_1_cp, gm_len_sF, gm_len_sA, gm_len_cp, Bool.or_true, Bool.true_or, gm_max_u, gm_min_u, gm_isO_sF, gm_isO_sA, gm_isO_cp, gm_gF_sF, gm_gF_sA, gm_gA_sF, gm_gA_sA, gm_gF_cp, gm_gA_cp, gm_add, gm_sub, gm_mul, gm_neg, ↓reduceIte, Nat.reduceAdd, Nat.reduceLeDiff, true_and, and_true, and_self, true_or, or_true, false_and, and_false, false_or, or_false, eq_self, Nat.reduceEqDiff, Int.reduceEq, Int.reduceLT, Int.reduceLE, Int.reduceNeg, Int.reduceAdd, Int.reduceSub, Int.reduceMul, Int.reduceDiv, Int.reduceMod, reduceCtorEq, if_true, if_false, gm_w_id, xX9_takesE_0, xX9_takesE_2, xX9_takesE_3, xX9_takesE_4, xX9_takesE_5, xX9_takesE_6, xX9_takesE_7, xX9_takesE_8, xX9_takesE_9, xX9_takesE_10, z148, f0, e1, y148, y163, l921, w1, w4, hin]
  · simp (config := { maxSteps := 2000000 }) (disch := first | omega | assumption | (simp only [gm_isO_sF, gm_isO_sA, gm_isO_cp]; assumption)) only [gm_push, gm_iload, gm_lload, gm_aload, gm_istore, gm_astore, gm_iinc, gm_op2, gm_quo, gm_op1, gm_lop2, gm_lshl, gm_i2l, gm_l2i, gm_lcmp, gm_dup, gm_pop1, gm_dup2, gm_goto, gm_ifeq, gm_ifne, gm_iflt, gm_ifge, gm_ifgt, gm_ifle, gm_ceq, gm_cne, gm_clt, gm_cge, gm_cgt, gm_cle, gm_ifnull, gm_ifnonnull, gm_swk, gm_switch, gm_getI, gm_getR, gm_putI, gm_putZ, gm_putR, gm_new, gm_newarr, gm_iald, gm_cald, gm_zald, gm_lald, gm_aald, gm_iast, gm_cast, gm_zast, gm_last, gm_aast, gm_acp, gm_oinit, gm_back, gm_scall, gm_vcall, gm_iret, gm_zret, gm_cret, gm_lret, gm_aret, gm_vret, gm_slen, gm_schar, gm_sidx, gm_lget, gm_lset, gm_nl, gm_ent, gm_wd, gm_pop, gm_pad, gm_xl_c, gm_alen_u, gm_1_sF, gm_1_sA, gm_1_cp, gm_len_sF, gm_len_sA, gm_len_cp, Bool.or_true, Bool.true_or, gm_max_u, gm_min_u, gm_isO_sF, gm_isO_sA, gm_isO_cp, gm_gF_sF, gm_gF_sA, gm_gA_sF, gm_gA_sA, gm_gF_cp, gm_gA_cp, gm_add, gm_sub, gm_mul, gm_neg, ↓reduceIte, Nat.reduceAdd, Nat.reduceLeDiff, true_and, and_true, and_self, true_or, or_true, false_and, and_false, false_or, or_false, eq_self, Nat.reduceEqDiff, Int.reduceEq, Int.reduceLT, Int.reduceLE, Int.reduceNeg, Int.reduceAdd, Int.reduceSub, Int.reduceMul, Int.reduceDiv, Int.reduceMod, reduceCtorEq, if_true, if_false, gm_w_id, xX9_takesE_0, xX9_takesE_2, xX9_takesE_3, xX9_takesE_4, xX9_takesE_5, xX9_takesE_6, xX9_takesE_7, xX9_takesE_8, xX9_takesE_9, xX9_takesE_10, z148, f0, e1, y148, y163, l921, w1, w4, hin]
theorem gn_e_open {d : Nat} (hd : 4 ≤ d) {t : Int → Int} {n k k2 c s p : Int} {M0 M : gm_M} (hT : gn_Tx t n M0) (hk : 0 ≤ k ∧ k2 ≤ 600 ∧ k2 ≤ k + 100) (hs : s = 33 ∨ s = 40) {W S : List Int} (h : gn_Mq 161 k k2 c (c + 1) M0 M p W S) (hp : 0 ≤ p ∧ p ≤ n) (hb : k + (S.length : Int) + (W.length : Int) + (n - p) ≤ k2) (hc : gn_ch t n p = s) :
    (gn_op W < 4 → ∃ M', (∀ (F : Nat) (X : Option gm_V), gm_ex (gm_go d) qX9_takesE (F + 3) 1 (gn_ml c 1 X) [] M = gm_ex (gm_go d) qX9_takesE F 1 (gn_ml c 1 (some (.inl s))) [] M') ∧ gn_Mq 161 k k2 c (c + 1) M0 M' (p + 1) (s :: W) S) ∧
    (gn_op W = 4 → ∀ (F : Nat) (X : Option gm_V), gm_ex (gm_go d) qX9_takesE (F + 2) 1 (gn_ml c 1 X) [] M = some (some (.inl 0), M)) := by
  have f0 := r_X9_next (D := d) (by omega) (h.1.Tx hT (by decide)) h.2.1 hp
  rw [hc] at f0
  have p1 := gn_ch_lt (t := t) (n := n) (p := p) (by omega)
  have z148 := gm_z148 h.1.1
  have z163 := gm_z163 h.1.1
  have l921 := gm_l921 h.1.1
  have w1 := h.2.1
  have w4 := h.2.2.2.1
  have w5 := h.2.2.2.2.1
  have ob := gn_op_b W
  have hin := gn_i163 (gm_sF M 924 148 (gn_op W + 1)) (i := (W.length : Int)) (by omega) (by omega)
  refine ⟨fun ho => ?_, fun ho F X => ?_⟩
  · have hpu := h.push (q := p + 1) (s := s) (o := gn_op W + 1) (by omega) (by
      show gn_op W + 1 = gn_op W + (if s = 33 ∨ s = 40 then 1 else 0)
      rw [if_pos hs])
    refine ⟨_, fun F X => ?_, hpu⟩
    have c1 : ¬ gn_op W = 4 := by omega
    unfold gn_ml
    rw [xX9_takesE_1]
    generalize gn_op W = o at *
    rcases hs with rfl | rfl
    · simp (config := { maxSteps := 2000000 }) (disch := first | omega | assumption | (simp only [gm_isO_sF, gm_isO_sA, gm_isO_cp]; assumption)) only [gm_push, gm_iload, gm_lload, gm_aload, gm_istore, gm_astore, gm_iinc, gm_op2, gm_quo, gm_op1, gm_lop2, gm_lshl, gm_i2l, gm_l2i, gm_lcmp, gm_dup, gm_pop1, gm_dup2, gm_goto, gm_ifeq, gm_ifne, gm_iflt, gm_ifge, gm_ifgt, gm_ifle, gm_ceq, gm_cne, gm_clt, gm_cge, gm_cgt, gm_cle, gm_ifnull, gm_ifnonnull, gm_swk, gm_switch, gm_getI, gm_getR, gm_putI, gm_putZ, gm_putR, gm_new, gm_newarr, gm_iald, gm_cald, gm_zald, gm_lald, gm_aald, gm_iast, gm_cast, gm_zast, gm_last, gm_aast, gm_acp, gm_oinit, gm_back, gm_scall, gm_vcall, gm_iret, gm_zret, gm_cret, gm_lret, gm_aret, gm_vret, gm_slen, gm_schar, gm_sidx, gm_lget, gm_lset, gm_nl, gm_ent, gm_wd, gm_pop, gm_pad, gm_xl_c, gm_alen_u, gm_1_sF, gm_1_sA, gm_1_cp, gm_len_sF, gm_len_sA, gm_len_cp, Bool.or_true, Bool.true_or, gm_max_u, gm_min_u, gm_isO_sF, gm_isO_sA, gm_isO_cp, gm_gF_sF, gm_gF_sA, gm_gA_sF, gm_gA_sA, gm_gF_cp, gm_gA_cp, gm_add, gm_sub, gm_mul, gm_neg, ↓reduceIte, Nat.reduceAdd, Nat.reduceLeDiff, true_and, and_true, and_self, true_or, or_true, false_and, and_false, false_or, or_false, eq_self, Nat.reduceEqDiff, Int.reduceEq, Int.reduceLT, Int.reduceLE, Int.reduceNeg, Int.reduceAdd, Int.reduceSub, Int.reduceMul, Int.reduceDiv, Int.reduceMod, reduceCtorEq, if_true, if_false, gm_w_id, xX9_takesE_0, xX9_takesE_2, xX9_takesE_3, xX9_takesE_4, xX9_takesE_5, xX9_takesE_6, xX9_takesE_7, xX9_takesE_8, xX9_takesE_9, xX9_takesE_10, z148, z163, f0, l921, w1, w4, w5, c1, hin]
    · simp (config := { maxSteps := 2000000 }) (disch := first | omega | assumption | (simp only [gm_isO_sF, gm_isO_sA, gm_isO_cp]; assumption)) only [gm_push, gm_iload, gm_lload, gm_aload, gm_istore, gm_astore, gm_iinc, gm_op2, gm_quo, gm_op1, gm_lop2, gm_lshl, gm_i2l, gm_l2i, gm_lcmp, gm_dup, gm_pop1, gm_dup2, gm_goto, gm_ifeq, gm_ifne, gm_iflt, gm_ifge, gm_ifgt, gm_ifle, gm_ceq, gm_cne, gm_clt, gm_cge, gm_cgt, gm_cle, gm_ifnull, gm_ifnonnull, gm_swk, gm_switch, gm_getI, gm_getR, gm_putI, gm_putZ, gm_putR, gm_new, gm_newarr, gm_iald, gm_cald, gm_zald, gm_lald, gm_aald, gm_iast, gm_cast, gm_zast, gm_last, gm_aast, gm_acp, gm_oinit, gm_back, gm_scall, gm_vcall, gm_iret, gm_zret, gm_cret, gm_lret, gm_aret, gm_vret, gm_slen, gm_schar, gm_sidx, gm_lget, gm_lset, gm_nl, gm_ent, gm_wd, gm_pop, gm_pad, gm_xl_c, gm_alen_u, gm_1_sF, gm_1_sA, gm_1_cp, gm_len_sF, gm_len_sA, gm_len_cp, Bool.or_true, Bool.true_or, gm_max_u, gm_min_u, gm_isO_sF, gm_isO_sA, gm_isO_cp, gm_gF_sF, gm_gF_sA, gm_gA_sF, gm_gA_sA, gm_gF_cp, gm_gA_cp, gm_add, gm_sub, gm_mul, gm_neg, ↓reduceIte, Nat.reduceAdd, Nat.reduceLeDiff, true_and, and_true, and_self, true_or, or_true, false_and, and_false, false_or, or_false, eq_self, Nat.reduceEqDiff, Int.reduceEq, Int.reduceLT, Int.reduceLE, Int.reduceNeg, Int.reduceAdd, Int.reduceSub, Int.reduceMul, Int.reduceDiv, Int.reduceMod, reduceCtorEq, if_true, if_false, gm_w_id, xX9_takesE_0, xX9_takesE_2, xX9_takesE_3, xX9_takesE_4, xX9_takesE_5, xX9_takesE_6, xX9_takesE_7, xX9_takesE_8, xX9_takesE_9, xX9_takesE_10, z148, z163, f0, l921, w1, w4, w5, c1, hin]
  · rw [ho] at w5
    unfold gn_ml
    rw [xX9_takesE_1]
    rcases hs with rfl | rfl
    · simp (config := { maxSteps := 2000000 }) (disch := first | omega | assumption | (simp only [gm_isO_sF, gm_isO_sA, gm_isO_cp]; assumption)) only [gm_push, gm_iload, gm_lload, gm_aload, gm_istore, gm_astore, gm_iinc, gm_op2, gm_quo, gm_op1, gm_lop2, gm_lshl, gm_i2l, gm_l2i, gm_lcmp, gm_dup, gm_pop1, gm_dup2, gm_goto, gm_ifeq, gm_ifne, gm_iflt, gm_ifge, gm_ifgt, gm_ifle, gm_ceq, gm_cne, gm_clt, gm_cge, gm_cgt, gm_cle, gm_ifnull, gm_ifnonnull, gm_swk, gm_switch, gm_getI, gm_getR, gm_putI, gm_putZ, gm_putR, gm_new, gm_newarr, gm_iald, gm_cald, gm_zald, gm_lald, gm_aald, gm_iast, gm_cast, gm_zast, gm_last, gm_aast, gm_acp, gm_oinit, gm_back, gm_scall, gm_vcall, gm_iret, gm_zret, gm_cret, gm_lret, gm_aret, gm_vret, gm_slen, gm_schar, gm_sidx, gm_lget, gm_lset, gm_nl, gm_ent, gm_wd, gm_pop, gm_pad, gm_xl_c, gm_alen_u, gm_1_sF, gm_1_sA, gm_1_cp, gm_len_sF, gm_len_sA, gm_len_cp, Bool.or_true, Bool.true_or, gm_max_u, gm_min_u, gm_isO_sF, gm_isO_sA, gm_isO_cp, gm_gF_sF, gm_gF_sA, gm_gA_sF, gm_gA_sA, gm_gF_cp, gm_gA_cp, gm_add, gm_sub, gm_mul, gm_neg, ↓reduceIte, Nat.reduceAdd, Nat.reduceLeDiff, true_and, and_true, and_self, true_or, or_true, false_and, and_false, false_or, or_false, eq_self, Nat.reduceEqDiff, Int.reduceEq, Int.reduceLT, Int.reduceLE, Int.reduceNeg, Int.reduceAdd, Int.reduceSub, Int.reduceMul, Int.reduceDiv, Int.reduceMod, reduceCtorEq, if_true, if_false, gm_w_id, xX9_takesE_0, xX9_takesE_2, xX9_takesE_3, xX9_takesE_4, xX9_takesE_5, xX9_takesE_6, xX9_takesE_7, xX9_takesE_8, xX9_takesE_9, xX9_takesE_10, z148, z163, f0, l921, w1, w4, w5]
    · simp (config := { maxSteps := 2000000 }) (disch := first | omega | assumption | (simp only [gm_isO_sF, gm_isO_sA, gm_isO_cp]; assumption)) only [gm_push, gm_iload, gm_lload, gm_aload, gm_istore, gm_astore, gm_iinc, gm_op2, gm_quo, gm_op1, gm_lop2, gm_lshl, gm_i2l, gm_l2i, gm_lcmp, gm_dup, gm_pop1, gm_dup2, gm_goto, gm_ifeq, gm_ifne, gm_iflt, gm_ifge, gm_ifgt, gm_ifle, gm_ceq, gm_cne, gm_clt, gm_cge, gm_cgt, gm_cle, gm_ifnull, gm_ifnonnull, gm_swk, gm_switch, gm_getI, gm_getR, gm_putI, gm_putZ, gm_putR, gm_new, gm_newarr, gm_iald, gm_cald, gm_zald, gm_lald, gm_aald, gm_iast, gm_cast, gm_zast, gm_last, gm_aast, gm_acp, gm_oinit, gm_back, gm_scall, gm_vcall, gm_iret, gm_zret, gm_cret, gm_lret, gm_aret, gm_vret, gm_slen, gm_schar, gm_sidx, gm_lget, gm_lset, gm_nl, gm_ent, gm_wd, gm_pop, gm_pad, gm_xl_c, gm_alen_u, gm_1_sF, gm_1_sA, gm_1_cp, gm_len_sF, gm_len_sA, gm_len_cp, Bool.or_true, Bool.true_or, gm_max_u, gm_min_u, gm_isO_sF, gm_isO_sA, gm_isO_cp, gm_gF_sF, gm_gF_sA, gm_gA_sF, gm_gA_sA, gm_gF_cp, gm_gA_cp, gm_add, gm_sub, gm_mul, gm_neg, ↓reduceIte, Nat.reduceAdd, Nat.reduceLeDiff, true_and, and_true, and_self, true_or, or_true, false_and, and_false, false_or, or_false, eq_self, Nat.reduceEqDiff, Int.reduceEq, Int.reduceLT, Int.reduceLE, Int.reduceNeg, Int.reduceAdd, Int.reduceSub, Int.reduceMul, Int.reduceDiv, Int.reduceMod, reduceCtorEq, if_true, if_false, gm_w_id, xX9_takesE_0, xX9_takesE_2, xX9_takesE_3, xX9_takesE_4, xX9_takesE_5, xX9_takesE_6, xX9_takesE_7, xX9_takesE_8, xX9_takesE_9, xX9_takesE_10, z148, z163, f0, l921, w1, w4, w5]
/-- behind a single one: the bracket closes, or the clause ends, or neither -/
theorem gn_e_end {d : Nat} (hd : 4 ≤ d) {t : Int → Int} {n k k2 c p : Int} {M0 M : gm_M} (hT : gn_Tx t n M0) (hk : 0 ≤ k ∧ k2 ≤ 600 ∧ k2 ≤ k + 100) (hcc : 0 ≤ c ∧ c < 60) {P W S : List Int} (h : gn_Mq 161 k k2 c (c + 1) M0 M p (P ++ W) S) (hp : 0 ≤ p ∧ p ≤ n) (hb : k + (S.length : Int) + ((P ++ W).length : Int) + (n - p) ≤ k2) (hc : ¬ gn_ch t n p = 38 ∧ ¬ gn_ch t n p = 124) (hP : gn_sp 124 (P ++ W) = W ∧ gn_spe 124 (P ++ W) = P.map (fun x => -x)) :
    (∀ W', W = 40 :: W' → gn_ch t n p = 41 → ∃ M', (∀ (F : Nat) (X : Option gm_V), gm_ex (gm_go d) qX9_takesE (F + 5) 1 (gn_ml c 0 X) [] M = gm_ex (gm_go d) qX9_takesE F 1 (gn_ml c 0 (some (.inl 41))) [] M') ∧ gn_Mq 161 k k2 c (c + 1) M0 M' (p + 1) (gn_sw W') (S ++ P.map (fun x => -x) ++ gn_se W')) ∧
    (∀ W', W = 40 :: W' → ¬ gn_ch t n p = 41 → ∃ M', (∀ (F : Nat) (X : Option gm_V), gm_ex (gm_go d) qX9_takesE (F + 4) 1 (gn_ml c 0 X) [] M = some (some (.inl 0), M')) ∧ gn_Mw 161 k k2 c (c + 1) M0 M' ∧ gm_gF M' 912 148 = p) ∧
    (W = [] → ∃ M', (∀ (F : Nat) (X : Option gm_V), gm_ex (gm_go d) qX9_takesE (F + 3) 1 (gn_ml c 0 X) [] M = some (some (.inl 1), M')) ∧ gn_Mq 161 k k2 c (c + 1) M0 M' p [] (S ++ P.map (fun x => -x)) ∧ gm_gA M' 161 c = k + ((S ++ P.map (fun x => -x)).length : Int)) := by
  have f0 := r_X9_next (D := d) (by omega) (h.1.Tx hT (by decide)) h.2.1 hp
  have b0 := gn_ch_b (h.1.Tx hT (by decide)) hp.1
  have z148 := gm_z148 h.1.1
  obtain ⟨M1, e1, g1⟩ := r_X9_settle (D := d) (by omega) hk (Or.inr rfl) h (by omega)
  rw [hP.1, hP.2] at g1
  have hlen : ((S ++ P.map (fun x => -x)).length : Int) + (W.length : Int) + (n - p) + k ≤ k2 := by simp only [List.length_append, List.length_map] at hb ⊢; omega
  generalize S ++ P.map (fun x => -x) = S2 at *
  have g2 := g1.s4 (a := 161) (i := c) (v := k + (S2.length : Int)) (by decide) (by omega)
  have y148 := gm_z148 g1.1.1
  have y161 := gm_z161 g1.1.1
  have l919 := gm_l919 g1.1.1
  have hin := gn_i161 M1 hcc.1 hcc.2
  have w3 := g1.2.2.1
  have w4 := g1.2.2.2.1
  have w5 := g1.2.2.2.2.1
  have w1 := g1.2.1
  obtain ⟨hc1, hc2⟩ := hc
  refine ⟨fun W' hW c3 => ?_, fun W' hW c3 => ?_, fun hW => ?_⟩
  · subst hW
    have hl1 : (((40 : Int) :: W').length : Int) = (W'.length : Int) + 1 := by simp
    rw [hl1] at w4 hlen
    have c4 : ¬ (W'.length : Int) + 1 = 0 := by omega
    have w5' : gm_gF M1 924 148 = gn_op W' + 1 := w5
    have ob := gn_op_b W'
    have r1 : (W'.length : Int) + 1 - 1 = (W'.length : Int) := by omega
    have r2 : gn_op W' + 1 - 1 = gn_op W' := by omega
    have p1 := gn_ch_lt (t := t) (n := n) (p := p) (by omega)
    obtain ⟨q1, q2, q3, q4, q5, q6, q7⟩ := g2
    have hM : gn_Mq 161 k k2 c (c + 1) M0 (gm_sF (gm_sF (gm_sF (gm_sA M1 161 c (k + (S2.length : Int))) 923 148 (W'.length : Int)) 924 148 (gn_op W')) 912 148 (p + 1)) (p + 1) W' S2 := ⟨((q1.sF (by decide)).sF (by decide)).sF (by decide), by rw [gm_gF_sF, if_pos ⟨rfl, rfl⟩], by rw [gm_gF_sF, if_neg (by decide), gm_gF_sF, if_neg (by decide), gm_gF_sF, if_neg (by decide)]; exact q3, by rw [gm_gF_sF, if_neg (by decide), gm_gF_sF, if_neg (by decide), gm_gF_sF, if_pos ⟨rfl, rfl⟩], by rw [gm_gF_sF, if_neg (by decide), gm_gF_sF, if_pos ⟨rfl, rfl⟩], q6.2.2, q7⟩
    obtain ⟨M', e2, g3⟩ := r_X9_whole (D := d) (by omega) hk hM (by omega)
    refine ⟨M', fun F X => ?_, g3⟩
    unfold gn_ml
    rw [xX9_takesE_1]
    rw [c3] at f0
    generalize gn_op W' = o at *
    simp (config := { maxSteps := 2000000 }) (disch := first | omega | assumption | (simp only [gm_isO_sF, gm_isO_sA, gm_isO_cp]; assumption)) only [gm_push, gm_iload, gm_lload, gm_aload, gm_istore, gm_astore, gm_iinc, gm_op2, gm_quo, gm_op1, gm_lop2, gm_lshl, gm_i2l, gm_l2i, gm_lcmp, gm_dup, gm_pop1, gm_dup2, gm_goto, gm_ifeq, gm_ifne, gm_iflt, gm_ifge, gm_ifgt, gm_ifle, gm_ceq, gm_cne, gm_clt, gm_cge, gm_cgt, gm_cle, gm_ifnull, gm_ifnonnull, gm_swk, gm_switch, gm_getI, gm_getR, gm_putI, gm_putZ, gm_putR, gm_new, gm_newarr, gm_iald, gm_cald, gm_zald, gm_lald, gm_aald, gm_iast, gm_cast, gm_zast, gm_last, gm_aast, gm_acp, gm_oinit, gm_back, gm_scall, gm_vcall, gm_iret, gm_zret, gm_cret, gm_lret, gm_aret, gm_vret, gm_slen, gm_schar, gm_sidx, gm_lget, gm_lset, gm_nl, gm_ent, gm_wd, gm_pop, gm_pad, gm_xl_c, gm_alen_u, gm_1_sF, gm_1_sA, gm_1_cp, gm_len_sF, gm_len_sA, gm_len_cp, Bool.or_true, Bool.true_or, gm_max_u, gm_min_u, gm_isO_sF, gm_isO_sA, gm_isO_cp, gm_gF_sF, gm_gF_sA, gm_gA_sF, gm_gA_sA, gm_gF_cp, gm_gA_cp, gm_add, gm_sub, gm_mul, gm_neg, ↓reduceIte, Nat.reduceAdd, Nat.reduceLeDiff, true_and, and_true, and_self, true_or, or_true, false_and, and_false, false_or, or_false, eq_self, Nat.reduceEqDiff, Int.reduceEq, Int.reduceLT, Int.reduceLE, Int.reduceNeg, Int.reduceAdd, Int.reduceSub, Int.reduceMul, Int.reduceDiv, Int.reduceMod, reduceCtorEq, if_true, if_false, gm_w_id, xX9_takesE_0, xX9_takesE_2, xX9_takesE_3, xX9_takesE_4, xX9_takesE_5, xX9_takesE_6, xX9_takesE_7, xX9_takesE_8, xX9_takesE_9, xX9_takesE_10, z148, f0, e1, y148, y161, l919, hin, w1, w3, w4, w5', c4, r1, r2, e2]
  · subst hW
    have hl1 : (((40 : Int) :: W').length : Int) = (W'.length : Int) + 1 := by simp
    rw [hl1] at w4 hlen
    have c4 : ¬ (W'.length : Int) + 1 = 0 := by omega
    refine ⟨_, fun F X => ?_, g2.1, g2.2.1⟩
    unfold gn_ml
    rw [xX9_takesE_1]
    generalize gn_ch t n p = x at *
    simp (config := { maxSteps := 2000000 }) (disch := first | omega | assumption | (simp only [gm_isO_sF, gm_isO_sA, gm_isO_cp]; assumption)) only [gm_push, gm_iload, gm_lload, gm_aload, gm_istore, gm_astore, gm_iinc, gm_op2, gm_quo, gm_op1, gm_lop2, gm_lshl, gm_i2l, gm_l2i, gm_lcmp, gm_dup, gm_pop1, gm_dup2, gm_goto, gm_ifeq, gm_ifne, gm_iflt, gm_ifge, gm_ifgt, gm_ifle, gm_ceq, gm_cne, gm_clt, gm_cge, gm_cgt, gm_cle, gm_ifnull, gm_ifnonnull, gm_swk, gm_switch, gm_getI, gm_getR, gm_putI, gm_putZ, gm_putR, gm_new, gm_newarr, gm_iald, gm_cald, gm_zald, gm_lald, gm_aald, gm_iast, gm_cast, gm_zast, gm_last, gm_aast, gm_acp, gm_oinit, gm_back, gm_scall, gm_vcall, gm_iret, gm_zret, gm_cret, gm_lret, gm_aret, gm_vret, gm_slen, gm_schar, gm_sidx, gm_lget, gm_lset, gm_nl, gm_ent, gm_wd, gm_pop, gm_pad, gm_xl_c, gm_alen_u, gm_1_sF, gm_1_sA, gm_1_cp, gm_len_sF, gm_len_sA, gm_len_cp, Bool.or_true, Bool.true_or, gm_max_u, gm_min_u, gm_isO_sF, gm_isO_sA, gm_isO_cp, gm_gF_sF, gm_gF_sA, gm_gA_sF, gm_gA_sA, gm_gF_cp, gm_gA_cp, gm_add, gm_sub, gm_mul, gm_neg, ↓reduceIte, Nat.reduceAdd, Nat.reduceLeDiff, true_and, and_true, and_self, true_or, or_true, false_and, and_false, false_or, or_false, eq_self, Nat.reduceEqDiff, Int.reduceEq, Int.reduceLT, Int.reduceLE, Int.reduceNeg, Int.reduceAdd, Int.reduceSub, Int.reduceMul, Int.reduceDiv, Int.reduceMod, reduceCtorEq, if_true, if_false, gm_w_id, xX9_takesE_0, xX9_takesE_2, xX9_takesE_3, xX9_takesE_4, xX9_takesE_5, xX9_takesE_6, xX9_takesE_7, xX9_takesE_8, xX9_takesE_9, xX9_takesE_10, z148, f0, e1, y148, y161, l919, hin, w1, w3, w4, c4, hc1, hc2, c3]
  · subst hW
    have w4' : gm_gF M1 923 148 = 0 := w4
    refine ⟨_, fun F X => ?_, g2, by rw [gm_gA_sA, if_pos ⟨rfl, rfl⟩]⟩
    unfold gn_ml
    rw [xX9_takesE_1]
    generalize gn_ch t n p = x at *
    simp (config := { maxSteps := 2000000 }) (disch := first | omega | assumption | (simp only [gm_isO_sF, gm_isO_sA, gm_isO_cp]; assumption)) only [gm_push, gm_iload, gm_lload, gm_aload, gm_istore, gm_astore, gm_iinc, gm_op2, gm_quo, gm_op1, gm_lop2, gm_lshl, gm_i2l, gm_l2i, gm_lcmp, gm_dup, gm_pop1, gm_dup2, gm_goto, gm_ifeq, gm_ifne, gm_iflt, gm_ifge, gm_ifgt, gm_ifle, gm_ceq, gm_cne, gm_clt, gm_cge, gm_cgt, gm_cle, gm_ifnull, gm_ifnonnull, gm_swk, gm_switch, gm_getI, gm_getR, gm_putI, gm_putZ, gm_putR, gm_new, gm_newarr, gm_iald, gm_cald, gm_zald, gm_lald, gm_aald, gm_iast, gm_cast, gm_zast, gm_last, gm_aast, gm_acp, gm_oinit, gm_back, gm_scall, gm_vcall, gm_iret, gm_zret, gm_cret, gm_lret, gm_aret, gm_vret, gm_slen, gm_schar, gm_sidx, gm_lget, gm_lset, gm_nl, gm_ent, gm_wd, gm_pop, gm_pad, gm_xl_c, gm_alen_u, gm_1_sF, gm_1_sA, gm_1_cp, gm_len_sF, gm_len_sA, gm_len_cp, Bool.or_true, Bool.true_or, gm_max_u, gm_min_u, gm_isO_sF, gm_isO_sA, gm_isO_cp, gm_gF_sF, gm_gF_sA, gm_gA_sF, gm_gA_sA, gm_gF_cp, gm_gA_cp, gm_add, gm_sub, gm_mul, gm_neg, ↓reduceIte, Nat.reduceAdd, Nat.reduceLeDiff, true_and, and_true, and_self, true_or, or_true, false_and, and_false, false_or, or_false, eq_self, Nat.reduceEqDiff, Int.reduceEq, Int.reduceLT, Int.reduceLE, Int.reduceNeg, Int.reduceAdd, Int.reduceSub, Int.reduceMul, Int.reduceDiv, Int.reduceMod, reduceCtorEq, if_true, if_false, gm_w_id, xX9_takesE_0, xX9_takesE_2, xX9_takesE_3, xX9_takesE_4, xX9_takesE_5, xX9_takesE_6, xX9_takesE_7, xX9_takesE_8, xX9_takesE_9, xX9_takesE_10, z148, f0, e1, y148, y161, l919, hin, w1, w3, w4', hc1, hc2]
/-! the parts of a clause -/
def gn_ok1 (W : List Int) : Prop := W = [] ∨ (∃ W', W = 40 :: W') ∨ ∃ W', W = 124 :: W'
def gn_ok3 (W : List Int) : Prop := W = [] ∨ ∃ W', W = 40 :: W'
theorem gn_ok1.s {W : List Int} (h : gn_ok1 W) : gn_sp 38 W = W ∧ gn_spe 38 W = [] := by
  rcases h with rfl | ⟨W', rfl⟩ | ⟨W', rfl⟩
  · exact ⟨rfl, rfl⟩
  · exact gn_sp_no (by decide)
  · exact gn_sp_no (by decide)
theorem gn_ok1.w {W : List Int} (h : gn_ok1 W) : gn_sw W = W ∧ gn_se W = [] := by
  rcases h with rfl | ⟨W', rfl⟩ | ⟨W', rfl⟩ <;> exact ⟨rfl, rfl⟩
theorem gn_ok3.s {W : List Int} (h : gn_ok3 W) : gn_sp 124 W = W ∧ gn_spe 124 W = [] := by
  rcases h with rfl | ⟨W', rfl⟩
  · exact ⟨rfl, rfl⟩
  · exact gn_sp_no (by decide)
theorem gn_ok3.o {W : List Int} (h : gn_ok3 W) : gn_ok1 W := h.elim Or.inl (fun z => Or.inr (Or.inl z))
theorem gn_op_c {s : Int} (hs : s = 38 ∨ s = 124) (W : List Int) : gn_op (s :: W) = gn_op W := by
  show gn_op W + (if s = 33 ∨ s = 40 then 1 else 0) = _
  rw [if_neg (by omega)]
  omega
def gn_Q2 (t : Int → Int) (n k k2 c : Int) (M0 : gm_M) (q : Int) (W S : List Int) (e : gn_X) (M' : gm_M) : Prop := ∃ P S1, (P = [] ∨ P = [38]) ∧ gn_Mq 161 k k2 c (c + 1) M0 M' q (P ++ W) S1 ∧ S1 ++ P.map (fun x => -x) = S ++ gn_Xr e ∧ ¬ gn_ch t n q = 38
def gn_Q4 (t : Int → Int) (n k k2 c : Int) (M0 : gm_M) (q : Int) (W S : List Int) (e : gn_X) (M' : gm_M) : Prop := ∃ P S1, (∀ x ∈ P, x = 38 ∨ x = 124 ∧ (124 : Int) ≠ 38) ∧ gn_Mq 161 k k2 c (c + 1) M0 M' q (P ++ W) S1 ∧ S1 ++ P.map (fun x => -x) = S ++ gn_Xr e ∧ ¬ gn_ch t n q = 38 ∧ ¬ gn_ch t n q = 124
def gn_m0 (t : Int → Int) (n k k2 c : Int) (M0 : gm_M) (d f : Nat) : Prop := ∀ (dep : Int) (acc : gn_X) (p : Int) (r : Option gn_X) (q : Int) (W S : List Int) (X : Option gm_V) (F : Nat) (M : gm_M), gn_ps t n f 0 dep acc p = some (r, q) → (0 ≤ p ∧ p ≤ n) → dep = gn_op W → dep ≤ 4 → gn_Mq 161 k k2 c (c + 1) M0 M p W S → k + (S.length : Int) + (W.length : Int) + (n - p) ≤ k2 → 10 * (n - p) + 10 ≤ (F : Int) →
  gn_mo n k k2 c M0 d F 1 X M r q (fun e M' => gn_Mq 161 k k2 c (c + 1) M0 M' q (gn_sw W) (S ++ gn_Xr e ++ gn_se W))
def gn_m1 (t : Int → Int) (n k k2 c : Int) (M0 : gm_M) (d f : Nat) : Prop := ∀ (dep : Int) (acc : gn_X) (p : Int) (r : Option gn_X) (q : Int) (W S : List Int) (X : Option gm_V) (F : Nat) (M : gm_M), gn_ps t n f 1 dep acc p = some (r, q) → (0 ≤ p ∧ p ≤ n) → dep = gn_op W → dep ≤ 4 → gn_ok1 W → gn_Mq 161 k k2 c (c + 1) M0 M p W S → k + (S.length : Int) + (W.length : Int) + (n - p) ≤ k2 → 10 * (n - p) + 10 ≤ (F : Int) →
  gn_mo n k k2 c M0 d F 1 X M r q (gn_Q2 t n k k2 c M0 q W S)
def gn_m2 (t : Int → Int) (n k k2 c : Int) (M0 : gm_M) (d f : Nat) : Prop := ∀ (dep : Int) (acc : gn_X) (p : Int) (r : Option gn_X) (q : Int) (P W S1 S : List Int) (X : Option gm_V) (F : Nat) (M : gm_M), gn_ps t n f 2 dep acc p = some (r, q) → (0 ≤ p ∧ p ≤ n) → dep = gn_op W → dep ≤ 4 → gn_ok1 W → (P = [] ∨ P = [38]) → gn_Mq 161 k k2 c (c + 1) M0 M p (P ++ W) S1 → S1 ++ P.map (fun x => -x) = S ++ gn_Xr acc → gn_okx acc → k + (S1.length : Int) + ((P ++ W).length : Int) + (n - p) ≤ k2 → 10 * (n - p) + 10 ≤ (F : Int) →
  gn_mo n k k2 c M0 d F 0 X M r q (gn_Q2 t n k k2 c M0 q W S)
def gn_m3 (t : Int → Int) (n k k2 c : Int) (M0 : gm_M) (d f : Nat) : Prop := ∀ (dep : Int) (acc : gn_X) (p : Int) (r : Option gn_X) (q : Int) (W S : List Int) (X : Option gm_V) (F : Nat) (M : gm_M), gn_ps t n f 3 dep acc p = some (r, q) → (0 ≤ p ∧ p ≤ n) → dep = gn_op W → dep ≤ 4 → gn_ok3 W → gn_Mq 161 k k2 c (c + 1) M0 M p W S → k + (S.length : Int) + (W.length : Int) + (n - p) ≤ k2 → 10 * (n - p) + 10 ≤ (F : Int) →
  gn_mo n k k2 c M0 d F 1 X M r q (gn_Q4 t n k k2 c M0 q W S)
def gn_m4 (t : Int → Int) (n k k2 c : Int) (M0 : gm_M) (d f : Nat) : Prop := ∀ (dep : Int) (acc : gn_X) (p : Int) (r : Option gn_X) (q : Int) (P W S1 S : List Int) (X : Option gm_V) (F : Nat) (M : gm_M), gn_ps t n f 4 dep acc p = some (r, q) → (0 ≤ p ∧ p ≤ n) → dep = gn_op W → dep ≤ 4 → gn_ok3 W → (∀ x ∈ P, x = 38 ∨ x = 124 ∧ (124 : Int) ≠ 38) → gn_Mq 161 k k2 c (c + 1) M0 M p (P ++ W) S1 → S1 ++ P.map (fun x => -x) = S ++ gn_Xr acc → gn_okx acc → ¬ gn_ch t n p = 38 → k + (S1.length : Int) + ((P ++ W).length : Int) + (n - p) ≤ k2 → 10 * (n - p) + 10 ≤ (F : Int) →
  gn_mo n k k2 c M0 d F 0 X M r q (gn_Q4 t n k k2 c M0 q W S)
