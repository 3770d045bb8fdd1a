/-! GROUND: the class reads a text -/
def gn_ww (w : Int) : List Int := if w = 0 then [115, 117, 110, 32] else if w = 1 then [99, 111, 108, 100, 32] else if w = 2 then [108, 111, 119, 32] else [104, 105, 103, 104, 32]
def gn_wi (c : Int) : Int := if c = 115 then 0 else if c = 99 then 1 else if c = 108 then 2 else 3
/-- a word: 1 where it stands -/
def gn_rwd (t : Int → Int) (n : Int) : List Int → Int → Int × Int
  | [], p => (1, p)
  | c :: r, p => if gn_ch t n p = c then gn_rwd t n r (p + 1) else (0, p)
/-- a clause: word, number, what stands behind it -/
def gn_cl (t : Int → Int) (n p : Int) : Option (Int × Int × gn_X) × Int :=
  if (gn_rwd t n (gn_ww (gn_wi (gn_ch t n p))) p).1 = 0 then (none, (gn_rwd t n (gn_ww (gn_wi (gn_ch t n p))) p).2)
  else if (gn_nm t n (gn_rwd t n (gn_ww (gn_wi (gn_ch t n p))) p).2).1 < 0 then (none, (gn_rwd t n (gn_ww (gn_wi (gn_ch t n p))) p).2)
  else if 1 < gn_wi (gn_ch t n p) then (some (gn_wi (gn_ch t n p), (gn_nm t n (gn_rwd t n (gn_ww (gn_wi (gn_ch t n p))) p).2).1, gn_Xt 0 0 0), (gn_nm t n (gn_rwd t n (gn_ww (gn_wi (gn_ch t n p))) p).2).2)
  else if ¬ gn_ch t n (gn_nm t n (gn_rwd t n (gn_ww (gn_wi (gn_ch t n p))) p).2).2 = 32 then (none, (gn_nm t n (gn_rwd t n (gn_ww (gn_wi (gn_ch t n p))) p).2).2)
  else match gn_ps t n 403 3 0 (gn_Xt 0 0 0) ((gn_nm t n (gn_rwd t n (gn_ww (gn_wi (gn_ch t n p))) p).2).2 + 1) with
    | some (some e, q) => (some (gn_wi (gn_ch t n p), (gn_nm t n (gn_rwd t n (gn_ww (gn_wi (gn_ch t n p))) p).2).1, e), q)
    | some (none, q) => (none, q)
    | none => (none, 0)
/-- the rest of a text, behind a clause -/
def gn_tll (t : Int → Int) (n : Int) : Nat → Int → Option (List (Int × Int × gn_X)) × Int
  | 0, p => if p = n then (some [], p) else (none, p)
  | k + 1, p => if p = n then (some [], p) else if ¬ gn_ch t n p = 59 then (none, p) else match gn_cl t n (p + 1) with
    | (none, q) => (none, q)
    | (some x, q) => match gn_tll t n k q with
      | (none, q2) => (none, q2)
      | (some l, q2) => (some (x :: l), q2)
def gn_tx (t : Int → Int) (n : Int) : Option (List (Int × Int × gn_X)) × Int := match gn_cl t n 0 with
    | (none, q) => (none, q)
    | (some x, q) => match gn_tll t n 9 q with
      | (none, q2) => (none, q2)
      | (some l, q2) => (some (x :: l), q2)
theorem gn_rwd_b {t : Int → Int} {n : Int} : ∀ (L : List Int) (p : Int), p ≤ n → (∀ c ∈ L, 0 ≤ c) → p ≤ (gn_rwd t n L p).2 ∧ (gn_rwd t n L p).2 ≤ n ∧ ((gn_rwd t n L p).1 = 0 ∨ (gn_rwd t n L p).1 = 1 ∧ (gn_rwd t n L p).2 = p + L.length)
  | [], p, h, _ => ⟨Int.le_refl p, h, Or.inr ⟨rfl, by simp [gn_rwd]⟩⟩
  | c :: r, p, h, hc => by
    unfold gn_rwd
    by_cases z : gn_ch t n p = c
    · rw [if_pos z]
      have p1 := gn_ch_lt (t := t) (n := n) (p := p) (by rw [z]; exact hc c (by simp))
      have := gn_rwd_b (t := t) (n := n) r (p + 1) (by omega) (fun x hx => hc x (by simp [hx]))
      refine ⟨by omega, this.2.1, ?_⟩
      rcases this.2.2 with y | ⟨y, y2⟩
      · exact Or.inl y
      · exact Or.inr ⟨y, by rw [y2]; simp; omega⟩
    · rw [if_neg z]
      exact ⟨Int.le_refl p, h, Or.inl rfl⟩
theorem gn_ww_b (w : Int) : ∀ c ∈ gn_ww w, 0 ≤ c ∧ c < 128 := by
  unfold gn_ww
  (repeat' split) <;> decide
theorem gn_ww_n (w : Int) : 4 ≤ (gn_ww w).length ∧ (gn_ww w).length ≤ 5 := by
  unfold gn_ww
  (repeat' split) <;> decide
theorem gn_wi_b (c : Int) : 0 ≤ gn_wi c ∧ gn_wi c ≤ 3 := by
  unfold gn_wi
  (repeat' split) <;> omega
theorem gn_cl_b {t : Int → Int} {n p : Int} (hn : n ≤ 100) (h0 : 0 ≤ p) (hp : p ≤ n) : p ≤ (gn_cl t n p).2 ∧ (gn_cl t n p).2 ≤ n ∧ ∀ x, (gn_cl t n p).1 = some x → (0 ≤ x.1 ∧ x.1 ≤ 3) ∧ (0 ≤ x.2.1 ∧ x.2.1 ≤ 99) ∧ gn_okx x.2.2 ∧ p + 5 ≤ (gn_cl t n p).2 ∧ (x.1 ≤ 1 → gn_sz x.2.2 + 8 ≤ (gn_cl t n p).2 - p) := by
  have hw := gn_rwd_b (t := t) (n := n) (gn_ww (gn_wi (gn_ch t n p))) p hp (fun c hc => (gn_ww_b _ c hc).1)
  have hl := gn_ww_n (gn_wi (gn_ch t n p))
  have hi := gn_wi_b (gn_ch t n p)
  unfold gn_cl
  generalize gn_rwd t n (gn_ww (gn_wi (gn_ch t n p))) p = a at *
  generalize gn_wi (gn_ch t n p) = w at *
  by_cases c1 : a.1 = 0
  · rw [if_pos c1]
    exact ⟨hw.1, hw.2.1, fun x h => by simp at h⟩
  · rw [if_neg c1]
    have hm := gn_nm_b (t := t) (n := n) (p := a.2) hw.2.1
    have hp5 : a.2 = p + (gn_ww w).length := by rcases hw.2.2 with z | z; exact absurd z c1; exact z.2
    generalize gn_nm t n a.2 = b at *
    by_cases c2 : b.1 < 0
    · rw [if_pos c2]
      exact ⟨hw.1, hw.2.1, fun x h => by simp at h⟩
    · rw [if_neg c2]
      by_cases c3 : 1 < w
      · rw [if_pos c3]
        refine ⟨by simp only; omega, hm.2.2.1, fun x h => ?_⟩
        obtain rfl : (w, b.1, gn_Xt 0 0 0) = x := by simpa using h
        refine ⟨hi, by simp only; omega, gn_okx_t (by decide) (by decide) (by decide), by simp only; omega, fun z => absurd z (by simp only; omega)⟩
      · rw [if_neg c3]
        by_cases c4 : gn_ch t n b.2 = 32
        · rw [if_neg (fun z => z c4)]
          have p1 := gn_ch_lt (t := t) (n := n) (p := b.2) (by omega)
          obtain ⟨⟨r, q⟩, hx⟩ := gn_ps_t (t := t) (n := n) 403 3 0 (gn_Xt 0 0 0) (b.2 + 1) (by omega) (by simp only [gn_km]; omega)
          have hb := gn_ps_b _ _ _ _ _ _ _ hx (by omega)
          rw [hx]
          rcases r with _ | e
          · exact ⟨by simp only; omega, hb.2.1, fun x h => by simp at h⟩
          · have a4 := (hb.2.2 e rfl).1 (by decide)
            refine ⟨by simp only; omega, hb.2.1, fun x h => ?_⟩
            obtain rfl : (w, b.1, e) = x := by simpa using h
            refine ⟨hi, by simp only; omega, a4.1, by simp only; omega, fun z => by simp only; omega⟩
        · rw [if_pos c4]
          exact ⟨by simp only; omega, hm.2.2.1, fun x h => by simp at h⟩
theorem r_X4_readWord_loop (d : Nat) {t : Int → Int} {n w : Int} (hw : 0 ≤ w ∧ w ≤ 3) (hT : gm_tx (1003 + w) = gn_ww w) (hd : 1 ≤ d) : ∀ (L pre : List Int) (p : Int) (F : Nat) (M : gm_M), gn_ww w = pre ++ L → gn_Rd t n p M → 3 * L.length + 3 ≤ F →
    gm_ex (gm_go d) qX4_readWord F 1 [some (.inr (.inr 81)), some (.inr (.inr (1003 + w))), some (.inl (pre.length : Int))] [] M = some (some (.inl (gn_rwd t n L p).1), gm_sF M 402 81 (gn_rwd t n L p).2) := by
  have hx : gm_isX (1003 + w) = true := by
    unfold gm_isX
    simp only [Bool.and_eq_true, decide_eq_true_eq]
    omega
  have hl := gn_ww_n w
  intro L
  induction L with
  | nil =>
    intro pre p F M h hR hF
    obtain ⟨F, rfl⟩ : ∃ g, F = g + 2 := ⟨F - 2, by simp at hF; omega⟩
    rw [List.append_nil] at h
    have hp : gm_sF M 402 81 p = M := gn_sF_id M 402 81 hR.2.2.1
    have hlen : ((gn_ww w).length : Int) = (pre.length : Int) := by rw [h]
    rw [xX4_readWord_1]
    simp (config := { maxSteps := 2000000 }) (disch := first | omega | assumption | (simp only [gm_isO_sF, gm_isO_sA, gm_isO_cp]; assumption)) only [gm_push, gm_iload, gm_lload, gm_aload, gm_istore, gm_astore, gm_iinc, gm_op2, gm_quo, gm_op1, gm_lop2, gm_lshl, gm_i2l, gm_l2i, gm_lcmp, gm_dup, gm_pop1, gm_dup2, gm_goto, gm_ifeq, gm_ifne, gm_iflt, gm_ifge, gm_ifgt, gm_ifle, gm_ceq, gm_cne, gm_clt, gm_cge, gm_cgt, gm_cle, gm_ifnull, gm_ifnonnull, gm_swk, gm_switch, gm_getI, gm_getR, gm_putI, gm_putZ, gm_putR, gm_new, gm_newarr, gm_iald, gm_cald, gm_zald, gm_lald, gm_aald, gm_iast, gm_cast, gm_zast, gm_last, gm_aast, gm_acp, gm_oinit, gm_back, gm_scall, gm_vcall, gm_iret, gm_zret, gm_cret, gm_lret, gm_aret, gm_vret, gm_slen, gm_schar, gm_sidx, gm_lget, gm_lset, gm_nl, gm_ent, gm_wd, gm_pop, gm_pad, gm_xl_c, gm_alen_u, gm_1_sF, gm_1_sA, gm_1_cp, gm_len_sF, gm_len_sA, gm_len_cp, Bool.or_true, Bool.true_or, gm_max_u, gm_min_u, gm_isO_sF, gm_isO_sA, gm_isO_cp, gm_gF_sF, gm_gF_sA, gm_gA_sF, gm_gA_sA, gm_gF_cp, gm_gA_cp, gm_add, gm_sub, gm_mul, gm_neg, ↓reduceIte, Nat.reduceAdd, Nat.reduceLeDiff, true_and, and_true, and_self, true_or, or_true, false_and, and_false, false_or, or_false, eq_self, Nat.reduceEqDiff, Int.reduceEq, Int.reduceLT, Int.reduceLE, Int.reduceNeg, Int.reduceAdd, Int.reduceSub, Int.reduceMul, Int.reduceDiv, Int.reduceMod, reduceCtorEq, if_true, if_false, gm_w_id, xX4_readWord_0, xX4_readWord_2, xX4_readWord_3, gm_slen, hx, hT, hlen, Int.lt_irrefl, gn_rwd, hp]
  | cons c L ih =>
    intro pre p F M h hR hF
    simp only [List.length_cons] at hF
    obtain ⟨F, rfl⟩ : ∃ g, F = g + 3 := ⟨F - 3, by omega⟩
    have hc := gn_ww_b w c (by rw [h]; simp)
    have hlen : ((gn_ww w).length : Int) = (pre.length : Int) + (L.length : Int) + 1 := by rw [h]; simp; omega
    have c1 : (pre.length : Int) < (gn_ww w).length := by omega
    have c0 : 0 ≤ (pre.length : Int) := by omega
    have hg : (gn_ww w).getD (pre.length : Int).toNat 0 = c := by rw [h]; simp [List.getD]
    have e := r_X4_readSign (D := d) hd hR (s := c) (by omega)
    have z81 := gm_z81 hR.1
    have hcx : ((pre ++ [c]).length : Int) = (pre.length : Int) + 1 := by simp
    have b5 : (pre.length : Int) ≤ 5 := by omega
    unfold gn_rwd
    by_cases z : gn_ch t n p = c
    · rw [if_pos z] at e ⊢
      have p1 := gn_ch_lt (t := t) (n := n) (p := p) (by omega)
      have hR2 := hR.sF (q := p + 1) (by have := hR.2.2.2.2.1; omega)
      have i := ih (pre ++ [c]) (p + 1) (F + 1) _ (by rw [h]; simp) hR2 (by omega)
      rw [gn_sF_sF, hcx] at i
      rw [← i, xX4_readWord_1]
      simp (config := { maxSteps := 2000000 }) (disch := first | omega | assumption | (simp only [gm_isO_sF, gm_isO_sA, gm_isO_cp]; assumption)) only [gm_push, gm_iload, gm_lload, gm_aload, gm_istore, gm_astore, gm_iinc, gm_op2, gm_quo, gm_op1, gm_lop2, gm_lshl, gm_i2l, gm_l2i, gm_lcmp, gm_dup, gm_pop1, gm_dup2, gm_goto, gm_ifeq, gm_ifne, gm_iflt, gm_ifge, gm_ifgt, gm_ifle, gm_ceq, gm_cne, gm_clt, gm_cge, gm_cgt, gm_cle, gm_ifnull, gm_ifnonnull, gm_swk, gm_switch, gm_getI, gm_getR, gm_putI, gm_putZ, gm_putR, gm_new, gm_newarr, gm_iald, gm_cald, gm_zald, gm_lald, gm_aald, gm_iast, gm_cast, gm_zast, gm_last, gm_aast, gm_acp, gm_oinit, gm_back, gm_scall, gm_vcall, gm_iret, gm_zret, gm_cret, gm_lret, gm_aret, gm_vret, gm_slen, gm_schar, gm_sidx, gm_lget, gm_lset, gm_nl, gm_ent, gm_wd, gm_pop, gm_pad, gm_xl_c, gm_alen_u, gm_1_sF, gm_1_sA, gm_1_cp, gm_len_sF, gm_len_sA, gm_len_cp, Bool.or_true, Bool.true_or, gm_max_u, gm_min_u, gm_isO_sF, gm_isO_sA, gm_isO_cp, gm_gF_sF, gm_gF_sA, gm_gA_sF, gm_gA_sA, gm_gF_cp, gm_gA_cp, gm_add, gm_sub, gm_mul, gm_neg, ↓reduceIte, Nat.reduceAdd, Nat.reduceLeDiff, true_and, and_true, and_self, true_or, or_true, false_and, and_false, false_or, or_false, eq_self, Nat.reduceEqDiff, Int.reduceEq, Int.reduceLT, Int.reduceLE, Int.reduceNeg, Int.reduceAdd, Int.reduceSub, Int.reduceMul, Int.reduceDiv, Int.reduceMod, reduceCtorEq, if_true, if_false, gm_w_id, xX4_readWord_0, xX4_readWord_2, xX4_readWord_3, gm_slen, gm_schar, hx, hT, c0, c1, hg, z81, e]
    · rw [if_neg z] at e ⊢
      have hp : gm_sF M 402 81 p = M := gn_sF_id M 402 81 hR.2.2.1
      rw [xX4_readWord_1]
      simp (config := { maxSteps := 2000000 }) (disch := first | omega | assumption | (simp only [gm_isO_sF, gm_isO_sA, gm_isO_cp]; assumption)) only [gm_push, gm_iload, gm_lload, gm_aload, gm_istore, gm_astore, gm_iinc, gm_op2, gm_quo, gm_op1, gm_lop2, gm_lshl, gm_i2l, gm_l2i, gm_lcmp, gm_dup, gm_pop1, gm_dup2, gm_goto, gm_ifeq, gm_ifne, gm_iflt, gm_ifge, gm_ifgt, gm_ifle, gm_ceq, gm_cne, gm_clt, gm_cge, gm_cgt, gm_cle, gm_ifnull, gm_ifnonnull, gm_swk, gm_switch, gm_getI, gm_getR, gm_putI, gm_putZ, gm_putR, gm_new, gm_newarr, gm_iald, gm_cald, gm_zald, gm_lald, gm_aald, gm_iast, gm_cast, gm_zast, gm_last, gm_aast, gm_acp, gm_oinit, gm_back, gm_scall, gm_vcall, gm_iret, gm_zret, gm_cret, gm_lret, gm_aret, gm_vret, gm_slen, gm_schar, gm_sidx, gm_lget, gm_lset, gm_nl, gm_ent, gm_wd, gm_pop, gm_pad, gm_xl_c, gm_alen_u, gm_1_sF, gm_1_sA, gm_1_cp, gm_len_sF, gm_len_sA, gm_len_cp, Bool.or_true, Bool.true_or, gm_max_u, gm_min_u, gm_isO_sF, gm_isO_sA, gm_isO_cp, gm_gF_sF, gm_gF_sA, gm_gA_sF, gm_gA_sA, gm_gF_cp, gm_gA_cp, gm_add, gm_sub, gm_mul, gm_neg, ↓reduceIte, Nat.reduceAdd, Nat.reduceLeDiff, true_and, and_true, and_self, true_or, or_true, false_and, and_false, false_or, or_false, eq_self, Nat.reduceEqDiff, Int.reduceEq, Int.reduceLT, Int.reduceLE, Int.reduceNeg, Int.reduceAdd, Int.reduceSub, Int.reduceMul, Int.reduceDiv, Int.reduceMod, reduceCtorEq, if_true, if_false, gm_w_id, xX4_readWord_0, xX4_readWord_2, xX4_readWord_3, gm_slen, gm_schar, hx, hT, c0, c1, hg, z81, e, hp]
theorem r_X4_readWord {D : Nat} (hD : 2 ≤ D) {t : Int → Int} {n p w : Int} {M : gm_M} (hw : 0 ≤ w ∧ w ≤ 3) (hR : gn_Rd t n p M) : gm_go D 33 [.inr (.inr 81), .inr (.inr (1003 + w))] M = some (some (.inl (gn_rwd t n (gn_ww w) p).1), gm_sF M 402 81 (gn_rwd t n (gn_ww w) p).2) := by
  obtain ⟨d, rfl⟩ : ∃ g, D = g + 1 := ⟨D - 1, by omega⟩
  have hl := gn_ww_n w
  have hT : gm_tx (1003 + w) = gn_ww w := by rcases (by omega : w = 0 ∨ w = 1 ∨ w = 2 ∨ w = 3) with rfl | rfl | rfl | rfl <;> rfl
  have e := r_X4_readWord_loop d hw hT (by omega) (gn_ww w) [] p 99999 M rfl hR (by omega)
  rw [eX4_readWord _ _ _ (Nat.le_of_ble_eq_true rfl), ← e]
  simp (config := { maxSteps := 2000000 }) (disch := first | omega | assumption | (simp only [gm_isO_sF, gm_isO_sA, gm_isO_cp]; assumption)) only [gm_push, gm_iload, gm_lload, gm_aload, gm_istore, gm_astore, gm_iinc, gm_op2, gm_quo, gm_op1, gm_lop2, gm_lshl, gm_i2l, gm_l2i, gm_lcmp, gm_dup, gm_pop1, gm_dup2, gm_goto, gm_ifeq, gm_ifne, gm_iflt, gm_ifge, gm_ifgt, gm_ifle, gm_ceq, gm_cne, gm_clt, gm_cge, gm_cgt, gm_cle, gm_ifnull, gm_ifnonnull, gm_swk, gm_switch, gm_getI, gm_getR, gm_putI, gm_putZ, gm_putR, gm_new, gm_newarr, gm_iald, gm_cald, gm_zald, gm_lald, gm_aald, gm_iast, gm_cast, gm_zast, gm_last, gm_aast, gm_acp, gm_oinit, gm_back, gm_scall, gm_vcall, gm_iret, gm_zret, gm_cret, gm_lret, gm_aret, gm_vret, gm_slen, gm_schar, gm_sidx, gm_lget, gm_lset, gm_nl, gm_ent, gm_wd, gm_pop, gm_pad, gm_xl_c, gm_alen_u, gm_1_sF, gm_1_sA, gm_1_cp, gm_len_sF, gm_len_sA, gm_len_cp, Bool.or_true, Bool.true_or, gm_max_u, gm_min_u, gm_isO_sF, gm_isO_sA, gm_isO_cp, gm_gF_sF, gm_gF_sA, gm_gA_sF, gm_gA_sA, gm_gF_cp, gm_gA_cp, gm_add, gm_sub, gm_mul, gm_neg, ↓reduceIte, Nat.reduceAdd, Nat.reduceLeDiff, true_and, and_true, and_self, true_or, or_true, false_and, and_false, false_or, or_false, eq_self, Nat.reduceEqDiff, Int.reduceEq, Int.reduceLT, Int.reduceLE, Int.reduceNeg, Int.reduceAdd, Int.reduceSub, Int.reduceMul, Int.reduceDiv, Int.reduceMod, reduceCtorEq, if_true, if_false, gm_w_id, xX4_readWord_0, xX4_readWord_2, xX4_readWord_3]
  rfl
