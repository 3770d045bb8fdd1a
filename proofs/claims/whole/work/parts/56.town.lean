/-! THE CLASS: a town becomes another -/
/-- nothing but these cells has changed -/
def gn_Fr (lo hi : Int) (M M1 : gm_M) : Prop := gm_Lay M1 ∧ (∀ (f : Nat) (o : Int), ¬ (lo ≤ o ∧ o ≤ hi) → gm_gF M1 f o = gm_gF M f o) ∧ ∀ a i : Int, ¬ (lo ≤ a ∧ a ≤ hi) → gm_gA M1 a i = gm_gA M a i
theorem gn_Fr.rf {lo hi : Int} {M : gm_M} (h : gm_Lay M) : gn_Fr lo hi M M := ⟨h, fun _ _ _ => rfl, fun _ _ _ => rfl⟩
theorem gn_Fr.tr {lo hi : Int} {M M1 M2 : gm_M} (h : gn_Fr lo hi M M1) (h2 : gn_Fr lo hi M1 M2) : gn_Fr lo hi M M2 := ⟨h2.1, fun f o ho => (h2.2.1 f o ho).trans (h.2.1 f o ho), fun a i ha => (h2.2.2 a i ha).trans (h.2.2 a i ha)⟩
theorem gn_Fr.sF {lo hi : Int} {M M1 : gm_M} (h : gn_Fr lo hi M M1) (f : Nat) (o v : Int) (hf : f ∉ gm_rfs) (ho : lo ≤ o ∧ o ≤ hi) : gn_Fr lo hi M (gm_sF M1 f o v) := ⟨h.1.sF f o v hf, fun f' o' ho' => by
  rw [gm_gF_sF, if_neg (by rintro ⟨-, rfl⟩; exact ho' ho)]
  exact h.2.1 f' o' ho', fun a i ha => h.2.2 a i ha⟩
theorem gn_Fr.sA {lo hi : Int} {M M1 : gm_M} (h : gn_Fr lo hi M M1) (a i v : Int) (ha : a ∉ ([3, 27, 51, 90, 93] : List Int)) (ho : lo ≤ a ∧ a ≤ hi) : gn_Fr lo hi M (gm_sA M1 a i v) := ⟨h.1.sA a i v ha, fun f' o' ho' => h.2.1 f' o' ho', fun a' i' ha' => by
  rw [gm_gA_sA, if_neg (by rintro ⟨rfl, -⟩; exact ha' ho)]
  exact h.2.2 a' i' ha'⟩
theorem gn_Fr.cp {lo hi : Int} {M M1 : gm_M} (h : gn_Fr lo hi M M1) (a0 sp a dp n : Int) (ha : a ∉ ([3, 27, 51, 90, 93] : List Int)) (hr : lo ≤ a ∧ a ≤ hi) : gn_Fr lo hi M (gm_cp M1 a0 sp a dp n) := ⟨h.1.cp a0 sp a dp n ha, fun f' o' ho' => h.2.1 f' o' ho', fun a' i ha' => by
  rw [gm_gA_cp, if_neg (by rintro ⟨rfl, -⟩; exact ha' hr)]
  exact h.2.2 a' i ha'⟩
theorem gn_Fr.Ec {lo hi : Int} {M M1 : gm_M} (h : gn_Fr lo hi M M1) (h1 : 50 ≤ lo) (h2 : hi ≤ 80) : gm_Ec M M1 := ⟨h.1, fun f o ho => h.2.1 f o (by omega), fun a i ha => h.2.2 a i (by omega)⟩
theorem gm_bec_oF (M : gm_M) (o q : Int) (f : Nat) (x : Int) (hx : ¬ (o ≤ x ∧ x ≤ o + 1)) : gm_gF (gm_bec M o q) f x = gm_gF M f x := by
  unfold gm_bec
  simp only [gm_gF_cp, gm_gF_sF]
  have n1 : ¬ x = o := by omega
  have n2 : ¬ x = o + 1 := by omega
  simp only [n1, n2, and_false, ↓reduceIte]
theorem gm_bec_oA (M : gm_M) (o q a i : Int) (ha : a ≠ o + 2) : gm_gA (gm_bec M o q) a i = gm_gA M a i := by
  unfold gm_bec
  rw [gm_gA_cp, if_neg (fun z => ha z.1)]
  rfl
theorem gm_bec_L {M : gm_M} (h : gm_Lay M) (o q : Int) (ha : o + 2 ∉ ([3, 27, 51, 90, 93] : List Int)) : gm_Lay (gm_bec M o q) := by
  unfold gm_bec
  refine gm_Lay.cp ?_ _ _ _ _ _ ha
  exact (((((((h.sF _ _ _ (by decide)).sF _ _ _ (by decide)).sF _ _ _ (by decide)).sF _ _ _ (by decide)).sF _ _ _ (by decide)).sF _ _ _ (by decide)).sF _ _ _ (by decide)).sF _ _ _ (by decide)
/-- house o in M1 is what house q is in M -/
def gn_hc (M M1 : gm_M) (o q : Int) : Prop := (gm_gF M1 200 o = gm_gF M 200 q ∧ gm_gF M1 201 o = gm_gF M 201 q ∧ gm_gF M1 202 o = gm_gF M 202 q ∧ gm_gF M1 203 o = gm_gF M 203 q ∧ gm_gF M1 204 o = gm_gF M 204 q) ∧
    gm_gF M1 500 (o + 1) = gm_gF M 500 (q + 1) ∧ gm_gF M1 501 (o + 1) = gm_gF M 501 (q + 1) ∧ gm_gF M1 502 (o + 1) = gm_gF M 502 (q + 1) ∧ ∀ i, 0 ≤ i → i < 4 → gm_gA M1 (o + 2) i = gm_gA M (q + 2) i
def gn_twn (t : Int) : Prop := t = 2 ∨ t = 26 ∨ t = 50
theorem gn_tw {M : gm_M} (h : gm_Lay M) {t : Int} (ht : gn_twn t) : gm_isO 7 M t = true ∧ gm_isO 24 M (t + 1) = true ∧ gm_len M (t + 1) = 6 ∧ gm_gF M 700 t = t + 1 ∧ ∀ i, 0 ≤ i → i < 6 → gm_gA M (t + 1) i = t + 6 + 3 * i ∧ gm_isO 2 M (t + 6 + 3 * i) = true := by
  rcases ht with rfl | rfl | rfl
  · exact ⟨gm_z2 h, gm_z3 h, gm_y3 M, gm_l700 h (gm_z2 h), fun i h1 h2 => gm_a3 h h1 h2⟩
  · exact ⟨gm_z26 h, gm_z27 h, gm_y27 M, gm_l700 h (gm_z26 h), fun i h1 h2 => gm_a27 h h1 h2⟩
  · exact ⟨gm_z50 h, gm_z51 h, gm_y51 M, gm_l700 h (gm_z50 h), fun i h1 h2 => gm_a51 h h1 h2⟩
theorem r_X7_become_loop (d : Nat) (M : gm_M) (t s : Int) (ht : gn_twn t) (hs : gn_twn s) (hne : t ≠ s) (hm : 0 ≤ gm_gF M 701 s ∧ gm_gF M 701 s ≤ 6) : ∀ (k f : Nat) (i : Int) (M1 : gm_M), gn_Fr t (t + 23) M M1 → (∀ h, 0 ≤ h → h < i → gn_hc M M1 (t + 6 + 3 * h) (s + 6 + 3 * h)) → i = gm_gF M 701 s - k → 0 ≤ i →
    ∃ M2, gn_Fr t (t + 23) M M2 ∧ (∀ h, 0 ≤ h → h < gm_gF M 701 s → gn_hc M M2 (t + 6 + 3 * h) (s + 6 + 3 * h)) ∧
      gm_ex (gm_go (d + 2)) qX7_become (f + (k + 1)) 1 [some (.inr (.inr t)), some (.inr (.inr s)), some (.inl i)] [] M1 = gm_ex (gm_go (d + 2)) qX7_become f 2 [some (.inr (.inr t)), some (.inr (.inr s)), some (.inl (gm_gF M 701 s))] [] M2 := by
  have hts : ¬ (t ≤ s ∧ s ≤ t + 23) := by rcases ht with rfl | rfl | rfl <;> rcases hs with rfl | rfl | rfl <;> omega
  have hts2 : ∀ x, 0 ≤ x → x ≤ 23 → ¬ (t ≤ s + x ∧ s + x ≤ t + 23) := by rcases ht with rfl | rfl | rfl <;> rcases hs with rfl | rfl | rfl <;> omega
  intro k
  induction k with
  | zero =>
    intro f i M1 he hc hi h0
    have hi' : i = gm_gF M 701 s := by omega
    have f1 : gm_gF M1 701 s = gm_gF M 701 s := he.2.1 701 s hts
    obtain ⟨s1, s2, s3, s4, s5⟩ := gn_tw he.1 hs
    refine ⟨M1, he, fun h h1 h2 => hc h h1 (by omega), ?_⟩
    rw [xX7_become_1]
    subst hi'
    simp (config := { maxSteps := 2000000 }) (disch := first | omega | assumption | (simp only [gm_isO_sF, gm_isO_sA, gm_isO_cp]; assumption)) only [gm_push, gm_iload, gm_lload, gm_aload, gm_istore, gm_astore, gm_iinc, gm_op2, gm_quo, gm_op1, gm_lop2, gm_lshl, gm_i2l, gm_l2i, gm_lcmp, gm_dup, gm_pop1, gm_dup2, gm_goto, gm_ifeq, gm_ifne, gm_iflt, gm_ifge, gm_ifgt, gm_ifle, gm_ceq, gm_cne, gm_clt, gm_cge, gm_cgt, gm_cle, gm_ifnull, gm_ifnonnull, gm_swk, gm_switch, gm_getI, gm_getR, gm_putI, gm_putZ, gm_putR, gm_new, gm_newarr, gm_iald, gm_cald, gm_zald, gm_lald, gm_aald, gm_iast, gm_cast, gm_zast, gm_last, gm_aast, gm_acp, gm_oinit, gm_back, gm_scall, gm_vcall, gm_iret, gm_zret, gm_cret, gm_lret, gm_aret, gm_vret, gm_slen, gm_schar, gm_sidx, gm_lget, gm_lset, gm_nl, gm_ent, gm_wd, gm_pop, gm_pad, gm_xl_c, gm_alen_u, gm_1_sF, gm_1_sA, gm_1_cp, gm_len_sF, gm_len_sA, gm_len_cp, Bool.or_true, Bool.true_or, gm_max_u, gm_min_u, gm_isO_sF, gm_isO_sA, gm_isO_cp, gm_gF_sF, gm_gF_sA, gm_gA_sF, gm_gA_sA, gm_gF_cp, gm_gA_cp, gm_add, gm_sub, gm_mul, gm_neg, ↓reduceIte, Nat.reduceAdd, Nat.reduceLeDiff, true_and, and_true, and_self, true_or, or_true, false_and, and_false, false_or, or_false, eq_self, Nat.reduceEqDiff, Int.reduceEq, Int.reduceLT, Int.reduceLE, Int.reduceNeg, Int.reduceAdd, Int.reduceSub, Int.reduceMul, Int.reduceDiv, Int.reduceMod, reduceCtorEq, if_true, if_false, gm_w_id, s1, f1, Int.lt_irrefl]
  | succ k ih =>
    intro f i M1 he hc hi h0
    have hi' : i < gm_gF M 701 s := by omega
    have f1 : gm_gF M1 701 s = gm_gF M 701 s := he.2.1 701 s hts
    obtain ⟨s1, s2, s3, s4, s5⟩ := gn_tw he.1 hs
    obtain ⟨t1, t2, t3, t4, t5⟩ := gn_tw he.1 ht
    obtain ⟨s6, s7⟩ := s5 i h0 (by omega)
    obtain ⟨t6, t7⟩ := t5 i h0 (by omega)
    have i6 : i < 6 := by omega
    have hin1 := gm_inI (M := M1) (a := t + 1) (i := i) t3 h0 (by omega) (by decide)
    have hin2 := gm_inI (M := M1) (a := s + 1) (i := i) s3 h0 (by omega) (by decide)
    have ha3 := gm_alen_k 24 (by decide) (gm_go (d + 2))
    have hneq : ¬ (t + 6 + 3 * i = s + 6 + 3 * i) := by omega
    have hbc := r_X2_become d (t + 6 + 3 * i) (s + 6 + 3 * i) M1 he.1 t7 s7 hneq
    have hr : t + 6 + 3 * i + 2 ∉ ([3, 27, 51, 90, 93] : List Int) := by
      simp only [List.mem_cons, List.not_mem_nil, or_false]
      rcases ht with rfl | rfl | rfl <;> omega
    have he2 : gn_Fr t (t + 23) M (gm_bec M1 (t + 6 + 3 * i) (s + 6 + 3 * i)) := ⟨gm_bec_L he.1 _ _ hr, fun f o ho => by
      rw [gm_bec_oF _ _ _ _ _ (by omega)]; exact he.2.1 f o ho, fun a j ha => by
      rw [gm_bec_oA _ _ _ _ _ (by omega)]; exact he.2.2 a j ha⟩
    have hc2 : ∀ h, 0 ≤ h → h < i + 1 → gn_hc M (gm_bec M1 (t + 6 + 3 * i) (s + 6 + 3 * i)) (t + 6 + 3 * h) (s + 6 + 3 * h) := fun h h1 h2 => by
      by_cases hh : h = i
      · subst hh
        obtain ⟨⟨e1, e2, e3, e4, e5⟩, e6, e7, e8, e9⟩ := gm_bec_F M1 (t + 6 + 3 * h) (s + 6 + 3 * h)
        have q1 := hts2 (6 + 3 * h) (by omega) (by omega)
        have q2 := hts2 (6 + 3 * h + 1) (by omega) (by omega)
        have q3 := hts2 (6 + 3 * h + 2) (by omega) (by omega)
        refine ⟨⟨?_, ?_, ?_, ?_, ?_⟩, ?_, ?_, ?_, fun j j1 j2 => ?_⟩
        · rw [e1]; exact he.2.1 _ _ (by omega)
        · rw [e2]; exact he.2.1 _ _ (by omega)
        · rw [e3]; exact he.2.1 _ _ (by omega)
        · rw [e4]; exact he.2.1 _ _ (by omega)
        · rw [e5]; exact he.2.1 _ _ (by omega)
        · rw [e6]; exact he.2.1 _ _ (by omega)
        · rw [e7]; exact he.2.1 _ _ (by omega)
        · rw [e8]; exact he.2.1 _ _ (by omega)
        · rw [e9 j j1 j2]; exact he.2.2 _ _ (by omega)
      · obtain ⟨⟨e1, e2, e3, e4, e5⟩, e6, e7, e8, e9⟩ := hc h h1 (by omega)
        refine ⟨⟨?_, ?_, ?_, ?_, ?_⟩, ?_, ?_, ?_, fun j j1 j2 => ?_⟩
        · rw [gm_bec_oF _ _ _ _ _ (by omega)]; exact e1
        · rw [gm_bec_oF _ _ _ _ _ (by omega)]; exact e2
        · rw [gm_bec_oF _ _ _ _ _ (by omega)]; exact e3
        · rw [gm_bec_oF _ _ _ _ _ (by omega)]; exact e4
        · rw [gm_bec_oF _ _ _ _ _ (by omega)]; exact e5
        · rw [gm_bec_oF _ _ _ _ _ (by omega)]; exact e6
        · rw [gm_bec_oF _ _ _ _ _ (by omega)]; exact e7
        · rw [gm_bec_oF _ _ _ _ _ (by omega)]; exact e8
        · rw [gm_bec_oA _ _ _ _ _ (by omega)]; exact e9 j j1 j2
    obtain ⟨M3, he3, hc3, e3⟩ := ih f (i + 1) _ he2 hc2 (by omega) (by omega)
    refine ⟨M3, he3, hc3, ?_⟩
    rw [show f + (k + 1 + 1) = (f + (k + 1)) + 1 by omega, xX7_become_1]
    simp (config := { maxSteps := 2000000 }) (disch := first | omega | assumption | (simp only [gm_isO_sF, gm_isO_sA, gm_isO_cp]; assumption)) only [gm_push, gm_iload, gm_lload, gm_aload, gm_istore, gm_astore, gm_iinc, gm_op2, gm_quo, gm_op1, gm_lop2, gm_lshl, gm_i2l, gm_l2i, gm_lcmp, gm_dup, gm_pop1, gm_dup2, gm_goto, gm_ifeq, gm_ifne, gm_iflt, gm_ifge, gm_ifgt, gm_ifle, gm_ceq, gm_cne, gm_clt, gm_cge, gm_cgt, gm_cle, gm_ifnull, gm_ifnonnull, gm_swk, gm_switch, gm_getI, gm_getR, gm_putI, gm_putZ, gm_putR, gm_new, gm_newarr, gm_iald, gm_cald, gm_zald, gm_lald, gm_aald, gm_iast, gm_cast, gm_zast, gm_last, gm_aast, gm_acp, gm_oinit, gm_back, gm_scall, gm_vcall, gm_iret, gm_zret, gm_cret, gm_lret, gm_aret, gm_vret, gm_slen, gm_schar, gm_sidx, gm_lget, gm_lset, gm_nl, gm_ent, gm_wd, gm_pop, gm_pad, gm_xl_c, gm_alen_u, gm_1_sF, gm_1_sA, gm_1_cp, gm_len_sF, gm_len_sA, gm_len_cp, Bool.or_true, Bool.true_or, gm_max_u, gm_min_u, gm_isO_sF, gm_isO_sA, gm_isO_cp, gm_gF_sF, gm_gF_sA, gm_gA_sF, gm_gA_sA, gm_gF_cp, gm_gA_cp, gm_add, gm_sub, gm_mul, gm_neg, ↓reduceIte, Nat.reduceAdd, Nat.reduceLeDiff, true_and, and_true, and_self, true_or, or_true, false_and, and_false, false_or, or_false, eq_self, Nat.reduceEqDiff, Int.reduceEq, Int.reduceLT, Int.reduceLE, Int.reduceNeg, Int.reduceAdd, Int.reduceSub, Int.reduceMul, Int.reduceDiv, Int.reduceMod, reduceCtorEq, if_true, if_false, gm_w_id, s1, s2, s3, s4, s6, s7, t1, t2, t3, t4, t6, t7, f1, hi', i6, hin1, hin2, ha3, hbc]
    rw [e3]
/-- a town in M1 is what a town is in M -/
def gn_tc (M M1 : gm_M) (t s : Int) : Prop := (∀ h, 0 ≤ h → h < gm_gF M 701 s → gn_hc M M1 (t + 6 + 3 * h) (s + 6 + 3 * h)) ∧
  (gm_gF M1 701 t = gm_gF M 701 s ∧ gm_gF M1 702 t = gm_gF M 702 s ∧ gm_gF M1 703 t = gm_gF M 703 s ∧ gm_gF M1 707 t = gm_gF M 707 s ∧ gm_gF M1 709 t = gm_gF M 709 s) ∧
  (∀ i, 0 ≤ i → i < 8 → gm_gA M1 (t + 2) i = gm_gA M (s + 2) i ∧ gm_gA M1 (t + 3) i = gm_gA M (s + 3) i ∧ gm_gA M1 (t + 4) i = gm_gA M (s + 4) i) ∧ ∀ i, 0 ≤ i → i < 12 → gm_gA M1 (t + 5) i = gm_gA M (s + 5) i
def gn_tcp (M2 : gm_M) (t s : Int) : gm_M := gm_sF (gm_cp (gm_sF (gm_cp (gm_cp (gm_cp (gm_sF (gm_sF (gm_sF M2 701 t (gm_gF M2 701 s)) 702 t (gm_gF M2 702 s)) 703 t (gm_gF M2 703 s)) (s + 2) 0 (t + 2) 0 8) (s + 3) 0 (t + 3) 0 8) (s + 4) 0 (t + 4) 0 8) 707 t (gm_gF M2 707 s)) (s + 5) 0 (t + 5) 0 12) 709 t (gm_gF M2 709 s)
theorem r_X7_become (d : Nat) (M : gm_M) (hL : gm_Lay M) (t s : Int) (ht : gn_twn t) (hs : gn_twn s) (hne : t ≠ s) (hm : 0 ≤ gm_gF M 701 s ∧ gm_gF M 701 s ≤ 6) :
    ∃ M2, gn_Fr t (t + 23) M M2 ∧ gn_tc M M2 t s ∧ gm_go (d + 3) 47 [.inr (.inr t), .inr (.inr s)] M = some (none, M2) := by
  have hts : ∀ x, 0 ≤ x → x ≤ 23 → ¬ (t ≤ s + x ∧ s + x ≤ t + 23) := by rcases ht with rfl | rfl | rfl <;> rcases hs with rfl | rfl | rfl <;> omega
  obtain ⟨M2, he, hc, e⟩ := r_X7_become_loop d M t s ht hs hne hm (gm_gF M 701 s).toNat (99998 - (gm_gF M 701 s).toNat) 0 M (gn_Fr.rf hL) (fun h h1 h2 => by omega) (by omega) (by omega)
  rw [show 99998 - (gm_gF M 701 s).toNat + ((gm_gF M 701 s).toNat + 1) = 99999 by omega, show 99998 - (gm_gF M 701 s).toNat = (99997 - (gm_gF M 701 s).toNat) + 1 by omega] at e
  obtain ⟨s1, s2, s3, s4, s5⟩ := gn_tw he.1 hs
  obtain ⟨t1, t2, t3, t4, t5⟩ := gn_tw he.1 ht
  have hN : M2.1 = gm_NX := he.1.1
  have a4 := gm_l704 he.1 t1
  have b4 := gm_k704 he.1 t1
  have c4 := gm_n704 he.1 t1
  have a4' := gm_l704 he.1 s1
  have b4' := gm_k704 he.1 s1
  have c4' := gm_n704 he.1 s1
  have a5 := gm_l705 he.1 t1
  have b5 := gm_k705 he.1 t1
  have c5 := gm_n705 he.1 t1
  have a5' := gm_l705 he.1 s1
  have b5' := gm_k705 he.1 s1
  have c5' := gm_n705 he.1 s1
  have a6 := gm_l706 he.1 t1
  have b6 := gm_k706 he.1 t1
  have c6 := gm_n706 he.1 t1
  have a6' := gm_l706 he.1 s1
  have b6' := gm_k706 he.1 s1
  have c6' := gm_n706 he.1 s1
  have a8 := gm_l708 he.1 t1
  have b8 := gm_k708 he.1 t1
  have c8 := gm_n708 he.1 t1
  have a8' := gm_l708 he.1 s1
  have b8' := gm_k708 he.1 s1
  have c8' := gm_n708 he.1 s1
  have hne' : ¬ t = s := hne
  have hne2 : ¬ s = t := fun z => hne z.symm
  have r2 : ∀ x, 2 ≤ x → x ≤ 5 → t + x ∉ ([3, 27, 51, 90, 93] : List Int) := fun x x1 x2 => by
    simp only [List.mem_cons, List.not_mem_nil, or_false]
    rcases ht with rfl | rfl | rfl <;> omega
  have hfin : gm_ex (gm_go (d + 2)) qX7_become (99997 - (gm_gF M 701 s).toNat + 1) 2 [some (.inr (.inr t)), some (.inr (.inr s)), some (.inl (gm_gF M 701 s))] [] M2 = some (none,
    gn_tcp M2 t s) := by
    rw [xX7_become_2]
    unfold gn_tcp
    simp (config := { maxSteps := 2000000 }) (disch := first | omega | assumption | (simp only [gm_isO_sF, gm_isO_sA, gm_isO_cp]; assumption)) only [gm_push, gm_iload, gm_lload, gm_aload, gm_istore, gm_astore, gm_iinc, gm_op2, gm_quo, gm_op1, gm_lop2, gm_lshl, gm_i2l, gm_l2i, gm_lcmp, gm_dup, gm_pop1, gm_dup2, gm_goto, gm_ifeq, gm_ifne, gm_iflt, gm_ifge, gm_ifgt, gm_ifle, gm_ceq, gm_cne, gm_clt, gm_cge, gm_cgt, gm_cle, gm_ifnull, gm_ifnonnull, gm_swk, gm_switch, gm_getI, gm_getR, gm_putI, gm_putZ, gm_putR, gm_new, gm_newarr, gm_iald, gm_cald, gm_zald, gm_lald, gm_aald, gm_iast, gm_cast, gm_zast, gm_last, gm_aast, gm_acp, gm_oinit, gm_back, gm_scall, gm_vcall, gm_iret, gm_zret, gm_cret, gm_lret, gm_aret, gm_vret, gm_slen, gm_schar, gm_sidx, gm_lget, gm_lset, gm_nl, gm_ent, gm_wd, gm_pop, gm_pad, gm_xl_c, gm_alen_u, gm_1_sF, gm_1_sA, gm_1_cp, gm_len_sF, gm_len_sA, gm_len_cp, Bool.or_true, Bool.true_or, gm_max_u, gm_min_u, gm_isO_sF, gm_isO_sA, gm_isO_cp, gm_gF_sF, gm_gF_sA, gm_gA_sF, gm_gA_sA, gm_gF_cp, gm_gA_cp, gm_add, gm_sub, gm_mul, gm_neg, ↓reduceIte, Nat.reduceAdd, Nat.reduceLeDiff, true_and, and_true, and_self, true_or, or_true, false_and, and_false, false_or, or_false, eq_self, Nat.reduceEqDiff, Int.reduceEq, Int.reduceLT, Int.reduceLE, Int.reduceNeg, Int.reduceAdd, Int.reduceSub, Int.reduceMul, Int.reduceDiv, Int.reduceMod, reduceCtorEq, if_true, if_false, gm_w_id, s1, t1, hN, a4, b4, c4, a4', b4', c4', a5, b5, c5, a5', b5', c5', a6, b6, c6, a6', b6', c6', a8, b8, c8, a8', b8', c8', hne', hne2]
  refine ⟨gn_tcp M2 t s, ?_, ?_, ?_⟩
  · unfold gn_tcp
    refine gn_Fr.sF (gn_Fr.cp (gn_Fr.sF (gn_Fr.cp (gn_Fr.cp (gn_Fr.cp (gn_Fr.sF (gn_Fr.sF (gn_Fr.sF he _ _ _ (by decide) (by omega)) _ _ _ (by decide) (by omega)) _ _ _ (by decide) (by omega)) _ _ _ _ _ (r2 2 (by omega) (by omega)) (by omega)) _ _ _ _ _ (r2 3 (by omega) (by omega)) (by omega)) _ _ _ _ _ (r2 4 (by omega) (by omega)) (by omega)) _ _ _ (by decide) (by omega)) _ _ _ _ _ (r2 5 (by omega) (by omega)) (by omega)) _ _ _ (by decide) (by omega)
  · unfold gn_tcp
    have hsF : ∀ (f : Nat), gm_gF M2 f s = gm_gF M f s := fun f => he.2.1 f s (by have := hts 0 (by omega) (by omega); omega)
    have hsA : ∀ x i : Int, 2 ≤ x → x ≤ 5 → gm_gA M2 (s + x) i = gm_gA M (s + x) i := fun x i x1 x2 => he.2.2 _ i (hts x (by omega) (by omega))
    refine ⟨fun h h1 h2 => ?_, ⟨?_, ?_, ?_, ?_, ?_⟩, fun i i1 i2 => ⟨?_, ?_, ?_⟩, fun i i1 i2 => ?_⟩
    · obtain ⟨⟨e1, e2, e3, e4, e5⟩, e6, e7, e8, e9⟩ := hc h h1 h2
      refine ⟨⟨e1, e2, e3, e4, e5⟩, e6, e7, e8, fun j j1 j2 => ?_⟩
      have n1 : ¬ (t + 6 + 3 * h + 2 = t + 2) := by omega
      have n2 : ¬ (t + 6 + 3 * h + 2 = t + 3) := by omega
      have n3 : ¬ (t + 6 + 3 * h + 2 = t + 4) := by omega
      have n4 : ¬ (t + 6 + 3 * h + 2 = t + 5) := by omega
      simp only [gm_gA_cp, gm_gA_sF, n1, n2, n3, n4, false_and, ↓reduceIte]
      exact e9 j j1 j2
    · simp only [gm_gF_cp, gm_gF_sF, Nat.reduceEqDiff, false_and, and_self, ↓reduceIte, hsF]
    · simp only [gm_gF_cp, gm_gF_sF, Nat.reduceEqDiff, false_and, and_self, ↓reduceIte, hsF]
    · simp only [gm_gF_cp, gm_gF_sF, Nat.reduceEqDiff, false_and, and_self, ↓reduceIte, hsF]
    · simp only [gm_gF_cp, gm_gF_sF, Nat.reduceEqDiff, false_and, and_self, ↓reduceIte, hsF]
    · simp only [gm_gF_cp, gm_gF_sF, Nat.reduceEqDiff, false_and, and_self, ↓reduceIte, hsF]
    · have n1 : ¬ (t + 2 = t + 3) := by omega
      have n2 : ¬ (t + 2 = t + 4) := by omega
      have n3 : ¬ (t + 2 = t + 5) := by omega
      have n4 : (0 : Int) ≤ i ∧ i < 0 + 8 := by omega
      simp only [gm_gA_cp, gm_gA_sF, n1, n2, n3, n4, false_and, true_and, and_self, ↓reduceIte]
      rw [show (0 : Int) + (i - 0) = i by omega]
      exact hsA 2 i (by omega) (by omega)
    · have n1 : ¬ (t + 3 = t + 2) := by omega
      have n2 : ¬ (t + 3 = t + 4) := by omega
      have n3 : ¬ (t + 3 = t + 5) := by omega
      have n4 : (0 : Int) ≤ i ∧ i < 0 + 8 := by omega
      have n5 : ¬ (s + 3 = t + 2) := by have := hts 3 (by omega) (by omega); omega
      simp only [gm_gA_cp, gm_gA_sF, n1, n2, n3, n4, n5, false_and, true_and, and_self, ↓reduceIte]
      rw [show (0 : Int) + (i - 0) = i by omega]
      exact hsA 3 i (by omega) (by omega)
    · have n1 : ¬ (t + 4 = t + 2) := by omega
      have n2 : ¬ (t + 4 = t + 3) := by omega
      have n3 : ¬ (t + 4 = t + 5) := by omega
      have n4 : (0 : Int) ≤ i ∧ i < 0 + 8 := by omega
      have n5 : ¬ (s + 4 = t + 2) := by have := hts 4 (by omega) (by omega); omega
      have n6 : ¬ (s + 4 = t + 3) := by have := hts 4 (by omega) (by omega); omega
      simp only [gm_gA_cp, gm_gA_sF, n1, n2, n3, n4, n5, n6, false_and, true_and, and_self, ↓reduceIte]
      rw [show (0 : Int) + (i - 0) = i by omega]
      exact hsA 4 i (by omega) (by omega)
    · have n4 : (0 : Int) ≤ i ∧ i < 0 + 12 := by omega
      have n5 : ¬ (s + 5 = t + 2) := by have := hts 5 (by omega) (by omega); omega
      have n6 : ¬ (s + 5 = t + 3) := by have := hts 5 (by omega) (by omega); omega
      have n7 : ¬ (s + 5 = t + 4) := by have := hts 5 (by omega) (by omega); omega
      simp only [gm_gA_cp, gm_gA_sF, n4, n5, n6, n7, false_and, true_and, and_self, ↓reduceIte]
      rw [show (0 : Int) + (i - 0) = i by omega]
      exact hsA 5 i (by omega) (by omega)
  · rw [eX7_become _ _ _ (Nat.le_of_ble_eq_true rfl), xX7_become_0]
    simp (config := { maxSteps := 2000000 }) (disch := first | omega | assumption | (simp only [gm_isO_sF, gm_isO_sA, gm_isO_cp]; assumption)) only [gm_push, gm_iload, gm_lload, gm_aload, gm_istore, gm_astore, gm_iinc, gm_op2, gm_quo, gm_op1, gm_lop2, gm_lshl, gm_i2l, gm_l2i, gm_lcmp, gm_dup, gm_pop1, gm_dup2, gm_goto, gm_ifeq, gm_ifne, gm_iflt, gm_ifge, gm_ifgt, gm_ifle, gm_ceq, gm_cne, gm_clt, gm_cge, gm_cgt, gm_cle, gm_ifnull, gm_ifnonnull, gm_swk, gm_switch, gm_getI, gm_getR, gm_putI, gm_putZ, gm_putR, gm_new, gm_newarr, gm_iald, gm_cald, gm_zald, gm_lald, gm_aald, gm_iast, gm_cast, gm_zast, gm_last, gm_aast, gm_acp, gm_oinit, gm_back, gm_scall, gm_vcall, gm_iret, gm_zret, gm_cret, gm_lret, gm_aret, gm_vret, gm_slen, gm_schar, gm_sidx, gm_lget, gm_lset, gm_nl, gm_ent, gm_wd, gm_pop, gm_pad, gm_xl_c, gm_alen_u, gm_1_sF, gm_1_sA, gm_1_cp, gm_len_sF, gm_len_sA, gm_len_cp, Bool.or_true, Bool.true_or, gm_max_u, gm_min_u, gm_isO_sF, gm_isO_sA, gm_isO_cp, gm_gF_sF, gm_gF_sA, gm_gA_sF, gm_gA_sA, gm_gF_cp, gm_gA_cp, gm_add, gm_sub, gm_mul, gm_neg, ↓reduceIte, Nat.reduceAdd, Nat.reduceLeDiff, true_and, and_true, and_self, true_or, or_true, false_and, and_false, false_or, or_false, eq_self, Nat.reduceEqDiff, Int.reduceEq, Int.reduceLT, Int.reduceLE, Int.reduceNeg, Int.reduceAdd, Int.reduceSub, Int.reduceMul, Int.reduceDiv, Int.reduceMod, reduceCtorEq, if_true, if_false, gm_w_id, e, hfin]
