/-! THE CLASS: big -/
/-- gain of house n with such a heat, so much held -/
def gn_gnB (M : gm_M) (n day held w : Int) : Int :=
  gm_gain (gm_gF M 201 (8 + 3 * n)) (gm_gF M 202 (8 + 3 * n)) (gm_gA M (8 + 3 * n + 2) (day % 28 % 4)) (max 0 ((if day % 28 < 14 then gm_tf M (gm_gr M + 1) (gm_gF M 200 (8 + 3 * n)) (gm_gF M 201 (8 + 3 * n)) (gm_gF M 202 (8 + 3 * n)) (day % 28) w held else 0) - 0)) (if day % 28 < 14 then 0 else gm_tf M (gm_gr M + 4) (gm_gF M 200 (8 + 3 * n)) (gm_gF M 201 (8 + 3 * n)) (gm_gF M 202 (8 + 3 * n)) (day % 28) w held)
/-- heats, content of the one store, whether one is amiss: through the houses from i on -/
def gn_bgl (M : gm_M) (room held day : Int) : Nat → Int → (Int → Int) × Int × Int → (Int → Int) × Int × Int
  | 0, _, s => s
  | k + 1, i, s => gn_bgl M room held day k (i + 1)
      (fun j => if j = i then (gm_stl (gm_gF M 103 (gm_gr M)) (gm_gF M 102 (gm_gr M)) room (max 0 (min 199 (s.1 i + gn_gnB M i day held (s.1 i)))) s.2.1).1 else s.1 j,
       (gm_stl (gm_gF M 103 (gm_gr M)) (gm_gF M 102 (gm_gr M)) room (max 0 (min 199 (s.1 i + gn_gnB M i day held (s.1 i)))) s.2.1).2,
       if gm_am0 M (gm_stl (gm_gF M 103 (gm_gr M)) (gm_gF M 102 (gm_gr M)) room (max 0 (min 199 (s.1 i + gn_gnB M i day held (s.1 i)))) s.2.1).1 = 0 then s.2.2 else 1)
/-- so many days: how many amiss, and the content -/
def gn_bgd (M : gm_M) (room leak : Int) : Nat → Int → (Int → Int) × Int → Int × Int
  | 0, _, s => (0, s.2)
  | k + 1, x, s =>
    ((if (gn_bgl M room s.2 (gm_day M + x) (gm_many M).toNat 0 (s.1, max 0 (s.2 - leak), 0)).2.2 = 0 then 0 else 1) +
      (gn_bgd M room leak k (x + 1) ((gn_bgl M room s.2 (gm_day M + x) (gm_many M).toNat 0 (s.1, max 0 (s.2 - leak), 0)).1, (gn_bgl M room s.2 (gm_day M + x) (gm_many M).toNat 0 (s.1, max 0 (s.2 - leak), 0)).2.1)).1,
     (gn_bgd M room leak k (x + 1) ((gn_bgl M room s.2 (gm_day M + x) (gm_many M).toNat 0 (s.1, max 0 (s.2 - leak), 0)).1, (gn_bgl M room s.2 (gm_day M + x) (gm_many M).toNat 0 (s.1, max 0 (s.2 - leak), 0)).2.1)).2)
/-- sums over the houses from i on -/
def gn_sm (g : Int → Int) : Nat → Int → Int → Int
  | 0, _, s => s
  | k + 1, i, s => gn_sm g k (i + 1) (s + g i)
theorem gn_sm_b {g : Int → Int} {B : Int} : ∀ (k : Nat) (i s : Int), (∀ j, i ≤ j → j < i + k → 0 ≤ g j ∧ g j ≤ B) → s ≤ gn_sm g k i s ∧ gn_sm g k i s ≤ s + k * B
  | 0, _, _, _ => by simp [gn_sm]
  | k + 1, i, s, h => by
    have h1 := gn_sm_b (g := g) (B := B) k (i + 1) (s + g i) (fun j j1 j2 => h j (by omega) (by omega))
    have h2 := h i (by omega) (by omega)
    have h3 : ((k + 1 : Nat) : Int) * B = k * B + B := by rw [Int.natCast_add, Int.add_mul]; simp
    simp only [gn_sm]
    rw [h3]
    omega
/-- the town that is tried on, with such heats -/
def gn_Tr (M : gm_M) (W : Int → Int) (day : Int) (M1 : gm_M) : Prop :=
  gm_Ec M M1 ∧ (gm_gF M1 701 50 = gm_many M ∧ gm_gF M1 702 50 = day) ∧
  ∀ n, 0 ≤ n → n < gm_many M → (gm_gF M1 200 (56 + 3 * n) = gm_gF M 200 (8 + 3 * n) ∧ gm_gF M1 201 (56 + 3 * n) = gm_gF M 201 (8 + 3 * n) ∧ gm_gF M1 202 (56 + 3 * n) = gm_gF M 202 (8 + 3 * n)) ∧ (gm_gF M1 203 (56 + 3 * n) = W n ∧ 0 ≤ W n ∧ W n ≤ 199) ∧
    (gm_gF M1 500 (56 + 3 * n + 1) = gm_gF M 500 (8 + 3 * n + 1) ∧ gm_gF M1 501 (56 + 3 * n + 1) = gm_gF M 501 (8 + 3 * n + 1) ∧ gm_gF M1 502 (56 + 3 * n + 1) = gm_gF M 502 (8 + 3 * n + 1)) ∧ ∀ i, 0 ≤ i → i < 4 → gm_gA M1 (56 + 3 * n + 2) i = gm_gA M (8 + 3 * n + 2) i
theorem gn_Tr.owf {M M1 : gm_M} {W : Int → Int} {day : Int} (hI : gm_CI M) (h : gn_Tr M W day M1) {n : Int} (h1 : 0 ≤ n) (h2 : n < gm_many M) : gm_owf M1 (56 + 3 * n) := by
  obtain ⟨⟨a1, a2, a3⟩, ⟨a4, a4'⟩, ⟨a5, a6, a7⟩, a8⟩ := h.2.2 n h1 h2
  obtain ⟨b1, b2, b3, b4, b5, b6, b7, b8⟩ := (hI.ho h1 h2).2
  refine ⟨by rw [a1]; exact b1, by rw [a2]; exact b2, by rw [a3]; exact b3, by rw [a4]; exact a4', by rw [a5]; exact b5, by rw [a6]; exact b6, by rw [a7]; exact b7, fun i i1 i2 => by rw [a8 i i1 i2]; exact b8 i i1 i2⟩
theorem gn_Tr.gn {M M1 : gm_M} {W : Int → Int} {day : Int} (hI : gm_CI M) (h : gn_Tr M W day M1) {n : Int} (h1 : 0 ≤ n) (h2 : n < gm_many M) (dy held : Int) : gm_gnC M1 (gm_gr M) (56 + 3 * n) (dy % 28) held 0 = gn_gnB M n dy held (W n) := by
  have hg := gm_gr_b hI
  obtain ⟨⟨a1, a2, a3⟩, ⟨a4, a4'⟩, ⟨a5, a6, a7⟩, a8⟩ := h.2.2 n h1 h2
  rw [gm_gnC_f, a1, a2, a3, a4, h.1.tf (by omega : 80 < gm_gr M + 1), h.1.tf (by omega : 80 < gm_gr M + 4), a8 _ (by omega) (by omega)]
  rfl
theorem r_X7_moon (d : Nat) (M1 : gm_M) (hL : gm_Lay M1) (t day : Int) (ht : gn_twn t) (hd : gm_gF M1 702 t = day) (b : 0 ≤ day ∧ day < 1000000) : gm_go (d + 1) 48 [.inr (.inr t)] M1 = some (some (.inl (day % 28)), M1) := by
  obtain ⟨t1, t2, t3, t4, t5⟩ := gn_tw hL ht
  have e1 : gm_rem day 28 = day % 28 := gm_rem_id ⟨by omega, by omega⟩ (by decide)
  rw [eX7_moon _ _ _ (Nat.le_of_ble_eq_true rfl)]
  simp (config := { maxSteps := 2000000 }) (disch := first | omega | assumption | (simp only [gm_isO_sF, gm_isO_sA, gm_isO_cp]; assumption)) only [gm_push, gm_iload, gm_lload, gm_aload, gm_istore, gm_astore, gm_iinc, gm_op2, gm_quo, gm_op1, gm_lop2, gm_lshl, gm_i2l, gm_l2i, gm_lcmp, gm_dup, gm_pop1, gm_dup2, gm_goto, gm_ifeq, gm_ifne, gm_iflt, gm_ifge, gm_ifgt, gm_ifle, gm_ceq, gm_cne, gm_clt, gm_cge, gm_cgt, gm_cle, gm_ifnull, gm_ifnonnull, gm_swk, gm_switch, gm_getI, gm_getR, gm_putI, gm_putZ, gm_putR, gm_new, gm_newarr, gm_iald, gm_cald, gm_zald, gm_lald, gm_aald, gm_iast, gm_cast, gm_zast, gm_last, gm_aast, gm_acp, gm_oinit, gm_back, gm_scall, gm_vcall, gm_iret, gm_zret, gm_cret, gm_lret, gm_aret, gm_vret, gm_slen, gm_schar, gm_sidx, gm_lget, gm_lset, gm_nl, gm_ent, gm_wd, gm_pop, gm_pad, gm_xl_c, gm_alen_u, gm_1_sF, gm_1_sA, gm_1_cp, gm_len_sF, gm_len_sA, gm_len_cp, Bool.or_true, Bool.true_or, gm_max_u, gm_min_u, gm_isO_sF, gm_isO_sA, gm_isO_cp, gm_gF_sF, gm_gF_sA, gm_gA_sF, gm_gA_sA, gm_gF_cp, gm_gA_cp, gm_add, gm_sub, gm_mul, gm_neg, ↓reduceIte, Nat.reduceAdd, Nat.reduceLeDiff, true_and, and_true, and_self, true_or, or_true, false_and, and_false, false_or, or_false, eq_self, Nat.reduceEqDiff, Int.reduceEq, Int.reduceLT, Int.reduceLE, Int.reduceNeg, Int.reduceAdd, Int.reduceSub, Int.reduceMul, Int.reduceDiv, Int.reduceMod, reduceCtorEq, if_true, if_false, gm_w_id, xX7_moon_0, t1, hd, e1]
/-- the one store -/
def gn_Co (M1 : gm_M) (h r l : Int) : Prop := gm_gF M1 500 80 = h ∧ gm_gF M1 501 80 = r ∧ gm_gF M1 502 80 = l
theorem r_X7_pool_loop (d : Nat) (M : gm_M) (hI : gm_CI M) (W : Int → Int) : ∀ (k f : Nat) (i a b c : Int) (l3 : Option gm_V) (M1 : gm_M), gn_Tr M W (gm_day M) M1 → gn_Co M1 a b c → 3 * (k + 2) ≤ f → i = gm_many M - k → 0 ≤ i →
    ∃ M2, gn_Tr M W (gm_day M) M2 ∧ gn_Co M2 (gn_sm (fun n => gm_gF M 500 (8 + 3 * n + 1)) k i a) (gn_sm (fun n => gm_gF M 501 (8 + 3 * n + 1)) k i b) (gn_sm (fun n => gm_gF M 502 (8 + 3 * n + 1)) k i c) ∧
      gm_ex (gm_go d) qX7_pool f 1 [some (.inr (.inr 50)), some (.inr (.inr 80)), some (.inl i), l3] [] M1 = some (none, M2) := by
  have hm := hI.2.1
  intro k
  induction k with
  | zero =>
    intro f i a b c l3 M1 he hc hf hi h0
    obtain ⟨f, rfl⟩ : ∃ g, f = g + 3 := ⟨f - 3, by omega⟩
    obtain ⟨t1, t2, t3, t4, t5⟩ := gn_tw he.1.1 (Or.inr (Or.inr rfl) : gn_twn 50)
    have hi' : ¬ i < gm_many M := by omega
    have f1 := he.2.1.1
    refine ⟨M1, he, hc, ?_⟩
    rw [xX7_pool_1]
    simp (config := { maxSteps := 2000000 }) (disch := first | omega | assumption | (simp only [gm_isO_sF, gm_isO_sA, gm_isO_cp]; assumption)) only [gm_push, gm_iload, gm_lload, gm_aload, gm_istore, gm_astore, gm_iinc, gm_op2, gm_quo, gm_op1, gm_lop2, gm_lshl, gm_i2l, gm_l2i, gm_lcmp, gm_dup, gm_pop1, gm_dup2, gm_goto, gm_ifeq, gm_ifne, gm_iflt, gm_ifge, gm_ifgt, gm_ifle, gm_ceq, gm_cne, gm_clt, gm_cge, gm_cgt, gm_cle, gm_ifnull, gm_ifnonnull, gm_swk, gm_switch, gm_getI, gm_getR, gm_putI, gm_putZ, gm_putR, gm_new, gm_newarr, gm_iald, gm_cald, gm_zald, gm_lald, gm_aald, gm_iast, gm_cast, gm_zast, gm_last, gm_aast, gm_acp, gm_oinit, gm_back, gm_scall, gm_vcall, gm_iret, gm_zret, gm_cret, gm_lret, gm_aret, gm_vret, gm_slen, gm_schar, gm_sidx, gm_lget, gm_lset, gm_nl, gm_ent, gm_wd, gm_pop, gm_pad, gm_xl_c, gm_alen_u, gm_1_sF, gm_1_sA, gm_1_cp, gm_len_sF, gm_len_sA, gm_len_cp, Bool.or_true, Bool.true_or, gm_max_u, gm_min_u, gm_isO_sF, gm_isO_sA, gm_isO_cp, gm_gF_sF, gm_gF_sA, gm_gA_sF, gm_gA_sA, gm_gF_cp, gm_gA_cp, gm_add, gm_sub, gm_mul, gm_neg, ↓reduceIte, Nat.reduceAdd, Nat.reduceLeDiff, true_and, and_true, and_self, true_or, or_true, false_and, and_false, false_or, or_false, eq_self, Nat.reduceEqDiff, Int.reduceEq, Int.reduceLT, Int.reduceLE, Int.reduceNeg, Int.reduceAdd, Int.reduceSub, Int.reduceMul, Int.reduceDiv, Int.reduceMod, reduceCtorEq, if_true, if_false, gm_w_id, xX7_pool_0, xX7_pool_2, t1, f1, hi']
  | succ k ih =>
    intro f i a b c l3 M1 he hc hf hi h0
    obtain ⟨f, rfl⟩ : ∃ g, f = g + 3 := ⟨f - 3, by omega⟩
    obtain ⟨t1, t2, t3, t4, t5⟩ := gn_tw he.1.1 (Or.inr (Or.inr rfl) : gn_twn 50)
    simp only [Int.reduceAdd] at t2 t3 t4 t5
    have hi' : i < gm_many M := by omega
    have i6 : i < 6 := by omega
    obtain ⟨t6, t7⟩ := t5 i h0 (by omega)
    have hin := gm_inI (M := M1) (a := 51) (i := i) t3 h0 (by omega) (by decide)
    have ha3 := gm_alen_k 24 (by decide) (gm_go d)
    have l5 := gm_l205 he.1.1 t7
    have k5 := gm_k205 he.1.1 t7
    have z80 := gm_z80 he.1.1
    have f1 := he.2.1.1
    obtain ⟨c1, c2, c3⟩ := hc
    obtain ⟨-, -, ⟨a5, a6, a7⟩, -⟩ := he.2.2 i h0 hi'
    obtain ⟨w1, w2, w3, w4, w5, w6, w7, w8⟩ := (hI.ho h0 hi').2
    have n1 : ¬ (56 + 3 * i + 1 = 80) := by omega
    obtain ⟨M3, he3, hc3, e3⟩ := ih (f + 2) (i + 1) (a + gm_gF M 500 (8 + 3 * i + 1)) (b + gm_gF M 501 (8 + 3 * i + 1)) (c + gm_gF M 502 (8 + 3 * i + 1)) (some (.inr (.inr (56 + 3 * i + 1))))
      (gm_sF (gm_sF (gm_sF M1 500 80 (a + gm_gF M 500 (8 + 3 * i + 1))) 501 80 (b + gm_gF M 501 (8 + 3 * i + 1))) 502 80 (c + gm_gF M 502 (8 + 3 * i + 1)))
      ⟨((he.1.sF _ _ _ (by decide) (by decide)).sF _ _ _ (by decide) (by decide)).sF _ _ _ (by decide) (by decide), he.2.1, fun n n1 n2 => by
        obtain ⟨x1, x2, ⟨x5, x6, x7⟩, x8⟩ := he.2.2 n n1 n2
        have y : ¬ (56 + 3 * n + 1 = 80) := by omega
        refine ⟨x1, x2, ?_, x8⟩
        simp only [gm_gF_sF, Nat.reduceEqDiff, y, false_and, and_false, ↓reduceIte]
        exact ⟨x5, x6, x7⟩⟩ (by simp only [gn_Co, gm_gF_sF, Nat.reduceEqDiff, and_self, false_and, ↓reduceIte]) (by omega) (by omega) (by omega)
    refine ⟨M3, he3, hc3, ?_⟩
    rw [xX7_pool_1]
    simp (config := { maxSteps := 2000000 }) (disch := first | omega | assumption | (simp only [gm_isO_sF, gm_isO_sA, gm_isO_cp]; assumption)) only [gm_push, gm_iload, gm_lload, gm_aload, gm_istore, gm_astore, gm_iinc, gm_op2, gm_quo, gm_op1, gm_lop2, gm_lshl, gm_i2l, gm_l2i, gm_lcmp, gm_dup, gm_pop1, gm_dup2, gm_goto, gm_ifeq, gm_ifne, gm_iflt, gm_ifge, gm_ifgt, gm_ifle, gm_ceq, gm_cne, gm_clt, gm_cge, gm_cgt, gm_cle, gm_ifnull, gm_ifnonnull, gm_swk, gm_switch, gm_getI, gm_getR, gm_putI, gm_putZ, gm_putR, gm_new, gm_newarr, gm_iald, gm_cald, gm_zald, gm_lald, gm_aald, gm_iast, gm_cast, gm_zast, gm_last, gm_aast, gm_acp, gm_oinit, gm_back, gm_scall, gm_vcall, gm_iret, gm_zret, gm_cret, gm_lret, gm_aret, gm_vret, gm_slen, gm_schar, gm_sidx, gm_lget, gm_lset, gm_nl, gm_ent, gm_wd, gm_pop, gm_pad, gm_xl_c, gm_alen_u, gm_1_sF, gm_1_sA, gm_1_cp, gm_len_sF, gm_len_sA, gm_len_cp, Bool.or_true, Bool.true_or, gm_max_u, gm_min_u, gm_isO_sF, gm_isO_sA, gm_isO_cp, gm_gF_sF, gm_gF_sA, gm_gA_sF, gm_gA_sA, gm_gF_cp, gm_gA_cp, gm_add, gm_sub, gm_mul, gm_neg, ↓reduceIte, Nat.reduceAdd, Nat.reduceLeDiff, true_and, and_true, and_self, true_or, or_true, false_and, and_false, false_or, or_false, eq_self, Nat.reduceEqDiff, Int.reduceEq, Int.reduceLT, Int.reduceLE, Int.reduceNeg, Int.reduceAdd, Int.reduceSub, Int.reduceMul, Int.reduceDiv, Int.reduceMod, reduceCtorEq, if_true, if_false, gm_w_id, xX7_pool_0, xX7_pool_2, t1, t2, t3, t4, t6, t7, hin, ha3, l5, k5, z80, f1, hi', i6, c1, c2, c3, a5, a6, a7, n1]
    exact e3
theorem gn_Tr.hs {M M1 : gm_M} {W : Int → Int} {day : Int} (hI : gm_CI M) (h : gn_Tr M W day M1) {i w hh : Int} (h1 : 0 ≤ i) (h2 : i < gm_many M) (hw : 0 ≤ w ∧ w ≤ 199) : gn_Tr M (fun j => if j = i then w else W j) day (gm_hs M1 (56 + 3 * i) 80 w hh) := by
  have hm := hI.2.1
  refine ⟨h.1.hs _ _ _ _ (by omega) (by decide), h.2.1, fun n n1 n2 => ?_⟩
  obtain ⟨x1, x2, ⟨x5, x6, x7⟩, x8⟩ := h.2.2 n n1 n2
  refine ⟨x1, ?_, ⟨?_, x6, x7⟩, x8⟩
  · rw [gm_hs_F, if_neg (by simp)]
    by_cases hn : n = i
    · rw [if_pos ⟨rfl, by omega⟩]
      simp only [hn, if_true]
      exact ⟨trivial, hw⟩
    · rw [if_neg (by omega)]
      simp only [if_neg hn]
      exact x2
  · rw [gm_hs_F, if_neg (by omega), if_neg (by simp)]
    exact x5
theorem r_X7_passWith_loop (d : Nat) (M : gm_M) (hI : gm_CI M) (room leak held day : Int) (hr : 0 ≤ room ∧ room ≤ 5000) (hh : 0 ≤ held ∧ held ≤ 5000) (hd : 0 ≤ day ∧ day < 100000) : ∀ (k f : Nat) (i H am : Int) (W : Int → Int) (l6 : Option gm_V) (M1 : gm_M), gn_Tr M W day M1 → gn_Co M1 H room leak → (0 ≤ H ∧ H ≤ 5000) → (am = 0 ∨ am = 1) → 3 * (k + 2) ≤ f → i = gm_many M - k → 0 ≤ i →
    ∃ M2, gn_Tr M (gn_bgl M room held day k i (W, H, am)).1 (day + 1) M2 ∧ gn_Co M2 (gn_bgl M room held day k i (W, H, am)).2.1 room leak ∧ (0 ≤ (gn_bgl M room held day k i (W, H, am)).2.1 ∧ (gn_bgl M room held day k i (W, H, am)).2.1 ≤ 5000) ∧ ((gn_bgl M room held day k i (W, H, am)).2.2 = 0 ∨ (gn_bgl M room held day k i (W, H, am)).2.2 = 1) ∧
      gm_ex (gm_go (d + 4)) qX7_passWith f 1 [some (.inr (.inr 50)), some (.inr (.inr 80)), some (.inr (.inr (gm_gr M))), some (.inl held), some (.inl am), some (.inl i), l6] [] M1 = some (some (.inl (gn_bgl M room held day k i (W, H, am)).2.2), M2) := by
  have hm := hI.2.1
  have hg := gm_gr_b hI
  intro k
  induction k with
  | zero =>
    intro f i H am W l6 M1 he hc hH ham hf hi h0
    obtain ⟨f, rfl⟩ : ∃ g, f = g + 3 := ⟨f - 3, by omega⟩
    obtain ⟨t1, t2, t3, t4, t5⟩ := gn_tw he.1.1 (Or.inr (Or.inr rfl) : gn_twn 50)
    have hi' : ¬ i < gm_many M := by omega
    have f1 := he.2.1.1
    have f2 := he.2.1.2
    refine ⟨gm_sF M1 702 50 (day + 1), ⟨he.1.sF _ _ _ (by decide) (by decide), ⟨he.2.1.1, by rw [gm_gF_sF, if_pos ⟨rfl, rfl⟩]⟩, he.2.2⟩, hc, hH, ham, ?_⟩
    rw [xX7_passWith_1]
    rcases ham with rfl | rfl
    all_goals simp (config := { maxSteps := 2000000 }) (disch := first | omega | assumption | (simp only [gm_isO_sF, gm_isO_sA, gm_isO_cp]; assumption)) only [gm_push, gm_iload, gm_lload, gm_aload, gm_istore, gm_astore, gm_iinc, gm_op2, gm_quo, gm_op1, gm_lop2, gm_lshl, gm_i2l, gm_l2i, gm_lcmp, gm_dup, gm_pop1, gm_dup2, gm_goto, gm_ifeq, gm_ifne, gm_iflt, gm_ifge, gm_ifgt, gm_ifle, gm_ceq, gm_cne, gm_clt, gm_cge, gm_cgt, gm_cle, gm_ifnull, gm_ifnonnull, gm_swk, gm_switch, gm_getI, gm_getR, gm_putI, gm_putZ, gm_putR, gm_new, gm_newarr, gm_iald, gm_cald, gm_zald, gm_lald, gm_aald, gm_iast, gm_cast, gm_zast, gm_last, gm_aast, gm_acp, gm_oinit, gm_back, gm_scall, gm_vcall, gm_iret, gm_zret, gm_cret, gm_lret, gm_aret, gm_vret, gm_slen, gm_schar, gm_sidx, gm_lget, gm_lset, gm_nl, gm_ent, gm_wd, gm_pop, gm_pad, gm_xl_c, gm_alen_u, gm_1_sF, gm_1_sA, gm_1_cp, gm_len_sF, gm_len_sA, gm_len_cp, Bool.or_true, Bool.true_or, gm_max_u, gm_min_u, gm_isO_sF, gm_isO_sA, gm_isO_cp, gm_gF_sF, gm_gF_sA, gm_gA_sF, gm_gA_sA, gm_gF_cp, gm_gA_cp, gm_add, gm_sub, gm_mul, gm_neg, ↓reduceIte, Nat.reduceAdd, Nat.reduceLeDiff, true_and, and_true, and_self, true_or, or_true, false_and, and_false, false_or, or_false, eq_self, Nat.reduceEqDiff, Int.reduceEq, Int.reduceLT, Int.reduceLE, Int.reduceNeg, Int.reduceAdd, Int.reduceSub, Int.reduceMul, Int.reduceDiv, Int.reduceMod, reduceCtorEq, if_true, if_false, gm_w_id, xX7_passWith_0, xX7_passWith_2, xX7_passWith_3, t1, f1, f2, hi', gn_bgl]
  | succ k ih =>
    intro f i H am W l6 M1 he hc hH ham hf hi h0
    obtain ⟨f, rfl⟩ : ∃ g, f = g + 3 := ⟨f - 3, by omega⟩
    obtain ⟨t1, t2, t3, t4, t5⟩ := gn_tw he.1.1 (Or.inr (Or.inr rfl) : gn_twn 50)
    simp only [Int.reduceAdd] at t2 t3 t4 t5
    have hi' : i < gm_many M := by omega
    have i6 : i < 6 := by omega
    obtain ⟨t6, t7⟩ := t5 i h0 (by omega)
    have hin := gm_inI (M := M1) (a := 51) (i := i) t3 h0 (by omega) (by decide)
    have ha3 := gm_alen_k 24 (by decide) (gm_go (d + 4))
    have z80 := gm_z80 he.1.1
    have f1 := he.2.1.1
    have f2 := he.2.1.2
    obtain ⟨c1, c2, c3⟩ := hc
    obtain ⟨x1, ⟨x2, x3⟩, -, -⟩ := he.2.2 i h0 hi'
    have hmo := r_X7_moon (d + 3) M1 he.1.1 50 day (Or.inr (Or.inr rfl)) f2 (by omega)
    have zg : gm_isO 1 M1 (gm_gr M) = true := (gm_isO_iff he.1.1).mpr ((gm_isO_iff hI.1).mp hg.2)
    have gw := he.1.gwf hg.1 hI.2.2.2.2.2.2
    have how := he.owf hI h0 hi'
    have hgn := r_X2_gainOn d (56 + 3 * i) (gm_gr M) (day % 28) held 0 M1 he.1.1 t7 zg gw how (by omega) (by omega) (by decide)
    have hgb := gw.gnb how (day % 28) held 0 (by decide)
    rw [he.gn hI h0 hi'] at hgn hgb
    have g2 := he.1.2.1 102 (gm_gr M) (by omega)
    have g3 := he.1.2.1 103 (gm_gr M) (by omega)
    have hgw := hI.2.2.2.2.2.2.2.2
    have hsb := gm_stl_b (high := gm_gF M 103 (gm_gr M)) (low := gm_gF M 102 (gm_gr M)) (room := room) (w := max 0 (min 199 (W i + gn_gnB M i day held (W i)))) (h := H) (by omega) hH hr hgw.2.1 hgw.1.2
    obtain ⟨hs1, hs2⟩ := hsb
    have hse := r_X2_settle (d + 2) (56 + 3 * i) (gm_gr M) (gn_gnB M i day held (W i)) 80 M1 t7 zg z80 (by rw [x2]; exact x3) hgb (by rw [g3]; exact hgw.2) (by rw [g2]; exact hgw.1) (by rw [c1]; exact hH) (by rw [c2]; exact hr)
      (W := (gm_stl (gm_gF M 103 (gm_gr M)) (gm_gF M 102 (gm_gr M)) room (max 0 (min 199 (W i + gn_gnB M i day held (W i)))) H).1) (Hn := (gm_stl (gm_gF M 103 (gm_gr M)) (gm_gF M 102 (gm_gr M)) room (max 0 (min 199 (W i + gn_gnB M i day held (W i)))) H).2) (by rw [g2, g3, c1, c2, x2])
    rw [g2, g3] at hse
    have hse' : gm_go (d + 4) 16 [.inr (.inr (56 + 3 * i)), .inr (.inr (gm_gr M)), .inl (gn_gnB M i day held (W i)), .inr (.inr 80)] M1 = some (some (.inl (gm_am0 M (gm_stl (gm_gF M 103 (gm_gr M)) (gm_gF M 102 (gm_gr M)) room (max 0 (min 199 (W i + gn_gnB M i day held (W i)))) H).1)), gm_hs M1 (56 + 3 * i) 80 (gm_stl (gm_gF M 103 (gm_gr M)) (gm_gF M 102 (gm_gr M)) room (max 0 (min 199 (W i + gn_gnB M i day held (W i)))) H).1 (gm_stl (gm_gF M 103 (gm_gr M)) (gm_gF M 102 (gm_gr M)) room (max 0 (min 199 (W i + gn_gnB M i day held (W i)))) H).2) := hse
    have hbg : gn_bgl M room held day (k + 1) i (W, H, am) = gn_bgl M room held day k (i + 1)
      (fun j => if j = i then (gm_stl (gm_gF M 103 (gm_gr M)) (gm_gF M 102 (gm_gr M)) room (max 0 (min 199 (W i + gn_gnB M i day held (W i)))) H).1 else W j,
       (gm_stl (gm_gF M 103 (gm_gr M)) (gm_gF M 102 (gm_gr M)) room (max 0 (min 199 (W i + gn_gnB M i day held (W i)))) H).2,
       if gm_am0 M (gm_stl (gm_gF M 103 (gm_gr M)) (gm_gF M 102 (gm_gr M)) room (max 0 (min 199 (W i + gn_gnB M i day held (W i)))) H).1 = 0 then am else 1) := rfl
    rw [hbg]
    generalize gm_stl (gm_gF M 103 (gm_gr M)) (gm_gF M 102 (gm_gr M)) room (max 0 (min 199 (W i + gn_gnB M i day held (W i)))) H = R at *
    have hT := he.hs hI (w := R.1) (hh := R.2) h0 hi' hs1
    have hC : gn_Co (gm_hs M1 (56 + 3 * i) 80 R.1 R.2) R.2 room leak := by
      refine ⟨?_, ?_, ?_⟩
      · rw [gm_hs_F, if_pos ⟨rfl, rfl⟩]
      · rw [gm_hs_F, if_neg (by simp), if_neg (by simp)]; exact c2
      · rw [gm_hs_F, if_neg (by simp), if_neg (by simp)]; exact c3
    rcases gm_am0_01 M R.1 with hv | hv
    · rw [hv] at hse' ⊢
      rw [if_pos rfl]
      obtain ⟨M3, q1, q2, q3, q4, e3⟩ := ih (f + 1) (i + 1) R.2 am _ (some (.inr (.inr (56 + 3 * i)))) _ hT hC hs2 ham (by omega) (by omega) (by omega)
      refine ⟨M3, q1, q2, q3, q4, ?_⟩
      rw [xX7_passWith_1]
      simp (config := { maxSteps := 2000000 }) (disch := first | omega | assumption | (simp only [gm_isO_sF, gm_isO_sA, gm_isO_cp]; assumption)) only [gm_push, gm_iload, gm_lload, gm_aload, gm_istore, gm_astore, gm_iinc, gm_op2, gm_quo, gm_op1, gm_lop2, gm_lshl, gm_i2l, gm_l2i, gm_lcmp, gm_dup, gm_pop1, gm_dup2, gm_goto, gm_ifeq, gm_ifne, gm_iflt, gm_ifge, gm_ifgt, gm_ifle, gm_ceq, gm_cne, gm_clt, gm_cge, gm_cgt, gm_cle, gm_ifnull, gm_ifnonnull, gm_swk, gm_switch, gm_getI, gm_getR, gm_putI, gm_putZ, gm_putR, gm_new, gm_newarr, gm_iald, gm_cald, gm_zald, gm_lald, gm_aald, gm_iast, gm_cast, gm_zast, gm_last, gm_aast, gm_acp, gm_oinit, gm_back, gm_scall, gm_vcall, gm_iret, gm_zret, gm_cret, gm_lret, gm_aret, gm_vret, gm_slen, gm_schar, gm_sidx, gm_lget, gm_lset, gm_nl, gm_ent, gm_wd, gm_pop, gm_pad, gm_xl_c, gm_alen_u, gm_1_sF, gm_1_sA, gm_1_cp, gm_len_sF, gm_len_sA, gm_len_cp, Bool.or_true, Bool.true_or, gm_max_u, gm_min_u, gm_isO_sF, gm_isO_sA, gm_isO_cp, gm_gF_sF, gm_gF_sA, gm_gA_sF, gm_gA_sA, gm_gF_cp, gm_gA_cp, gm_add, gm_sub, gm_mul, gm_neg, ↓reduceIte, Nat.reduceAdd, Nat.reduceLeDiff, true_and, and_true, and_self, true_or, or_true, false_and, and_false, false_or, or_false, eq_self, Nat.reduceEqDiff, Int.reduceEq, Int.reduceLT, Int.reduceLE, Int.reduceNeg, Int.reduceAdd, Int.reduceSub, Int.reduceMul, Int.reduceDiv, Int.reduceMod, reduceCtorEq, if_true, if_false, gm_w_id, xX7_passWith_0, xX7_passWith_2, xX7_passWith_3, t1, t2, t3, t4, t6, t7, hin, ha3, z80, zg, f1, hi', i6, hmo, hgn, hse']
      exact e3
    · rw [hv] at hse' ⊢
      rw [if_neg (by decide)]
      obtain ⟨M3, q1, q2, q3, q4, e3⟩ := ih (f + 1) (i + 1) R.2 1 _ (some (.inr (.inr (56 + 3 * i)))) _ hT hC hs2 (Or.inr rfl) (by omega) (by omega) (by omega)
      refine ⟨M3, q1, q2, q3, q4, ?_⟩
      rw [xX7_passWith_1]
      simp (config := { maxSteps := 2000000 }) (disch := first | omega | assumption | (simp only [gm_isO_sF, gm_isO_sA, gm_isO_cp]; assumption)) only [gm_push, gm_iload, gm_lload, gm_aload, gm_istore, gm_astore, gm_iinc, gm_op2, gm_quo, gm_op1, gm_lop2, gm_lshl, gm_i2l, gm_l2i, gm_lcmp, gm_dup, gm_pop1, gm_dup2, gm_goto, gm_ifeq, gm_ifne, gm_iflt, gm_ifge, gm_ifgt, gm_ifle, gm_ceq, gm_cne, gm_clt, gm_cge, gm_cgt, gm_cle, gm_ifnull, gm_ifnonnull, gm_swk, gm_switch, gm_getI, gm_getR, gm_putI, gm_putZ, gm_putR, gm_new, gm_newarr, gm_iald, gm_cald, gm_zald, gm_lald, gm_aald, gm_iast, gm_cast, gm_zast, gm_last, gm_aast, gm_acp, gm_oinit, gm_back, gm_scall, gm_vcall, gm_iret, gm_zret, gm_cret, gm_lret, gm_aret, gm_vret, gm_slen, gm_schar, gm_sidx, gm_lget, gm_lset, gm_nl, gm_ent, gm_wd, gm_pop, gm_pad, gm_xl_c, gm_alen_u, gm_1_sF, gm_1_sA, gm_1_cp, gm_len_sF, gm_len_sA, gm_len_cp, Bool.or_true, Bool.true_or, gm_max_u, gm_min_u, gm_isO_sF, gm_isO_sA, gm_isO_cp, gm_gF_sF, gm_gF_sA, gm_gA_sF, gm_gA_sA, gm_gF_cp, gm_gA_cp, gm_add, gm_sub, gm_mul, gm_neg, ↓reduceIte, Nat.reduceAdd, Nat.reduceLeDiff, true_and, and_true, and_self, true_or, or_true, false_and, and_false, false_or, or_false, eq_self, Nat.reduceEqDiff, Int.reduceEq, Int.reduceLT, Int.reduceLE, Int.reduceNeg, Int.reduceAdd, Int.reduceSub, Int.reduceMul, Int.reduceDiv, Int.reduceMod, reduceCtorEq, if_true, if_false, gm_w_id, xX7_passWith_0, xX7_passWith_2, xX7_passWith_3, t1, t2, t3, t4, t6, t7, hin, ha3, z80, zg, f1, hi', i6, hmo, hgn, hse']
      exact e3
theorem gn_Tr.st {M M1 : gm_M} {W : Int → Int} {day : Int} (h : gn_Tr M W day M1) (v : Int) (hI : gm_CI M) : gn_Tr M W day (gm_sF M1 500 80 v) := by
  have hm := hI.2.1
  refine ⟨h.1.sF _ _ _ (by decide) (by decide), h.2.1, fun n n1 n2 => ?_⟩
  obtain ⟨x1, x2, ⟨x5, x6, x7⟩, x8⟩ := h.2.2 n n1 n2
  refine ⟨x1, x2, ⟨?_, x6, x7⟩, x8⟩
  rw [gm_gF_sF, if_neg (by omega)]
  exact x5
theorem r_X7_passWith (d : Nat) (M : gm_M) (hI : gm_CI M) (room leak H day : Int) (W : Int → Int) (M1 : gm_M) (he : gn_Tr M W day M1) (hc : gn_Co M1 H room leak) (hr : 0 ≤ room ∧ room ≤ 5000) (hl : 0 ≤ leak ∧ leak ≤ 5000) (hh : 0 ≤ H ∧ H ≤ 5000) (hd : 0 ≤ day ∧ day < 100000) {s : (Int → Int) × Int × Int} (hs : gn_bgl M room H day (gm_many M).toNat 0 (W, max 0 (H - leak), 0) = s) :
    ∃ M2, gn_Tr M s.1 (day + 1) M2 ∧ gn_Co M2 s.2.1 room leak ∧ (0 ≤ s.2.1 ∧ s.2.1 ≤ 5000) ∧ (s.2.2 = 0 ∨ s.2.2 = 1) ∧ gm_go (d + 5) 50 [.inr (.inr 50), .inr (.inr 80), .inr (.inr (gm_gr M))] M1 = some (some (.inl s.2.2), M2) := by
  have hm := hI.2.1
  have z80 := gm_z80 he.1.1
  obtain ⟨c1, c2, c3⟩ := hc
  have hsp := r_X5_seep (d + 3) 80 M1 z80 (by rw [c1, c3]; exact ⟨by omega, by omega⟩)
  rw [c1, c3] at hsp
  obtain ⟨M2, q1, q2, q3, q4, e⟩ := r_X7_passWith_loop d M hI room leak H day hr hh hd (gm_many M).toNat 99999 0 (max 0 (H - leak)) 0 W none (gm_sF M1 500 80 (max 0 (H - leak))) (he.st _ hI) ⟨by rw [gm_gF_sF, if_pos ⟨rfl, rfl⟩], c2, c3⟩ (by omega) (Or.inl rfl) (by omega) (by omega) (by omega)
  rw [hs] at q1 q2 q3 q4 e
  refine ⟨M2, q1, q2, q3, q4, ?_⟩
  rw [eX7_passWith _ _ _ (Nat.le_of_ble_eq_true rfl)]
  simp (config := { maxSteps := 2000000 }) (disch := first | omega | assumption | (simp only [gm_isO_sF, gm_isO_sA, gm_isO_cp]; assumption)) only [gm_push, gm_iload, gm_lload, gm_aload, gm_istore, gm_astore, gm_iinc, gm_op2, gm_quo, gm_op1, gm_lop2, gm_lshl, gm_i2l, gm_l2i, gm_lcmp, gm_dup, gm_pop1, gm_dup2, gm_goto, gm_ifeq, gm_ifne, gm_iflt, gm_ifge, gm_ifgt, gm_ifle, gm_ceq, gm_cne, gm_clt, gm_cge, gm_cgt, gm_cle, gm_ifnull, gm_ifnonnull, gm_swk, gm_switch, gm_getI, gm_getR, gm_putI, gm_putZ, gm_putR, gm_new, gm_newarr, gm_iald, gm_cald, gm_zald, gm_lald, gm_aald, gm_iast, gm_cast, gm_zast, gm_last, gm_aast, gm_acp, gm_oinit, gm_back, gm_scall, gm_vcall, gm_iret, gm_zret, gm_cret, gm_lret, gm_aret, gm_vret, gm_slen, gm_schar, gm_sidx, gm_lget, gm_lset, gm_nl, gm_ent, gm_wd, gm_pop, gm_pad, gm_xl_c, gm_alen_u, gm_1_sF, gm_1_sA, gm_1_cp, gm_len_sF, gm_len_sA, gm_len_cp, Bool.or_true, Bool.true_or, gm_max_u, gm_min_u, gm_isO_sF, gm_isO_sA, gm_isO_cp, gm_gF_sF, gm_gF_sA, gm_gA_sF, gm_gA_sA, gm_gF_cp, gm_gA_cp, gm_add, gm_sub, gm_mul, gm_neg, ↓reduceIte, Nat.reduceAdd, Nat.reduceLeDiff, true_and, and_true, and_self, true_or, or_true, false_and, and_false, false_or, or_false, eq_self, Nat.reduceEqDiff, Int.reduceEq, Int.reduceLT, Int.reduceLE, Int.reduceNeg, Int.reduceAdd, Int.reduceSub, Int.reduceMul, Int.reduceDiv, Int.reduceMod, reduceCtorEq, if_true, if_false, gm_w_id, xX7_passWith_0, xX7_passWith_2, xX7_passWith_3, z80, c1, hsp, e]
theorem r_X8_big_loop (d : Nat) (M : gm_M) (hI : gm_CI M) (room leak what : Int) (hr : 0 ≤ room ∧ room ≤ 5000) (hl : 0 ≤ leak ∧ leak ≤ 5000) (hw : what = 0 ∨ what = 1) : ∀ (k f : Nat) (x s H : Int) (W : Int → Int) (M1 : gm_M), gn_Tr M W (gm_day M + x) M1 → gn_Co M1 H room leak → (0 ≤ H ∧ H ≤ 5000) → 3 * (k + 2) ≤ f → x = 28 - k → 0 ≤ x → 0 ≤ s → s ≤ x →
    ∃ M2, gm_Ec M M2 ∧ gm_ex (gm_go (d + 5)) qX8_big f 2 [some (.inr (.inr 1)), some (.inl what), some (.inr (.inr (gm_gr M))), some (.inl s), some (.inl x)] [] M1 = some (some (.inl (if what = 0 then s + (gn_bgd M room leak k x (W, H)).1 else (gn_bgd M room leak k x (W, H)).2)), M2) := by
  have hm := hI.2.1
  have hd := hI.2.2.1
  intro k
  induction k with
  | zero =>
    intro f x s H W M1 he hc hH hf hx h0 hs1 hs2
    obtain ⟨f, rfl⟩ : ∃ g, f = g + 4 := ⟨f - 4, by omega⟩
    obtain ⟨c1, c2, c3, c4, c5, c6, c7, c8, c9, c10, c11, c12, c13⟩ := gm_cx hI he.1
    have l806 := gm_l806 he.1.1
    have z80 := gm_z80 he.1.1
    have hx' : x = 28 := by omega
    subst hx'
    obtain ⟨d1, d2, d3⟩ := hc
    refine ⟨M1, he.1, ?_⟩
    rw [xX8_big_2]
    rcases hw with rfl | rfl
    all_goals simp (config := { maxSteps := 2000000 }) (disch := first | omega | assumption | (simp only [gm_isO_sF, gm_isO_sA, gm_isO_cp]; assumption)) only [gm_push, gm_iload, gm_lload, gm_aload, gm_istore, gm_astore, gm_iinc, gm_op2, gm_quo, gm_op1, gm_lop2, gm_lshl, gm_i2l, gm_l2i, gm_lcmp, gm_dup, gm_pop1, gm_dup2, gm_goto, gm_ifeq, gm_ifne, gm_iflt, gm_ifge, gm_ifgt, gm_ifle, gm_ceq, gm_cne, gm_clt, gm_cge, gm_cgt, gm_cle, gm_ifnull, gm_ifnonnull, gm_swk, gm_switch, gm_getI, gm_getR, gm_putI, gm_putZ, gm_putR, gm_new, gm_newarr, gm_iald, gm_cald, gm_zald, gm_lald, gm_aald, gm_iast, gm_cast, gm_zast, gm_last, gm_aast, gm_acp, gm_oinit, gm_back, gm_scall, gm_vcall, gm_iret, gm_zret, gm_cret, gm_lret, gm_aret, gm_vret, gm_slen, gm_schar, gm_sidx, gm_lget, gm_lset, gm_nl, gm_ent, gm_wd, gm_pop, gm_pad, gm_xl_c, gm_alen_u, gm_1_sF, gm_1_sA, gm_1_cp, gm_len_sF, gm_len_sA, gm_len_cp, Bool.or_true, Bool.true_or, gm_max_u, gm_min_u, gm_isO_sF, gm_isO_sA, gm_isO_cp, gm_gF_sF, gm_gF_sA, gm_gA_sF, gm_gA_sA, gm_gF_cp, gm_gA_cp, gm_add, gm_sub, gm_mul, gm_neg, ↓reduceIte, Nat.reduceAdd, Nat.reduceLeDiff, true_and, and_true, and_self, true_or, or_true, false_and, and_false, false_or, or_false, eq_self, Nat.reduceEqDiff, Int.reduceEq, Int.reduceLT, Int.reduceLE, Int.reduceNeg, Int.reduceAdd, Int.reduceSub, Int.reduceMul, Int.reduceDiv, Int.reduceMod, reduceCtorEq, if_true, if_false, gm_w_id, xX8_big_0, xX8_big_1, xX8_big_3, xX8_big_4, xX8_big_5, xX8_big_6, gn_bgd, Int.add_zero, c1, l806, z80, d1]
  | succ k ih =>
    intro f x s H W M1 he hc hH hf hx h0 hs1 hs2
    obtain ⟨f, rfl⟩ : ∃ g, f = g + 3 := ⟨f - 3, by omega⟩
    obtain ⟨c1, c2, c3, c4, c5, c6, c7, c8, c9, c10, c11, c12, c13⟩ := gm_cx hI he.1
    have l803 := gm_l803 he.1.1
    have l806 := gm_l806 he.1.1
    have z80 := gm_z80 he.1.1
    have z50 := gm_z50 he.1.1
    have h9 : x < 28 := by omega
    obtain ⟨M2, q1, q2, q3, q4, e⟩ := r_X7_passWith d M hI room leak H (gm_day M + x) W M1 he hc hr hl hH (by omega) rfl
    have hb : gn_bgd M room leak (k + 1) x (W, H) = ((if (gn_bgl M room H (gm_day M + x) (gm_many M).toNat 0 (W, max 0 (H - leak), 0)).2.2 = 0 then 0 else 1) +
      (gn_bgd M room leak k (x + 1) ((gn_bgl M room H (gm_day M + x) (gm_many M).toNat 0 (W, max 0 (H - leak), 0)).1, (gn_bgl M room H (gm_day M + x) (gm_many M).toNat 0 (W, max 0 (H - leak), 0)).2.1)).1,
     (gn_bgd M room leak k (x + 1) ((gn_bgl M room H (gm_day M + x) (gm_many M).toNat 0 (W, max 0 (H - leak), 0)).1, (gn_bgl M room H (gm_day M + x) (gm_many M).toNat 0 (W, max 0 (H - leak), 0)).2.1)).2) := rfl
    rw [hb]
    generalize gn_bgl M room H (gm_day M + x) (gm_many M).toNat 0 (W, max 0 (H - leak), 0) = S at *
    rw [Int.add_assoc] at q1
    rcases q4 with hv | hv
    · obtain ⟨M3, he3, e3⟩ := ih (f + 1) (x + 1) s S.2.1 S.1 M2 q1 q2 q3 (by omega) (by omega) (by omega) (by omega) (by omega)
      refine ⟨M3, he3, ?_⟩
      rw [hv] at e ⊢
      rw [xX8_big_2]
      simp (config := { maxSteps := 2000000 }) (disch := first | omega | assumption | (simp only [gm_isO_sF, gm_isO_sA, gm_isO_cp]; assumption)) only [gm_push, gm_iload, gm_lload, gm_aload, gm_istore, gm_astore, gm_iinc, gm_op2, gm_quo, gm_op1, gm_lop2, gm_lshl, gm_i2l, gm_l2i, gm_lcmp, gm_dup, gm_pop1, gm_dup2, gm_goto, gm_ifeq, gm_ifne, gm_iflt, gm_ifge, gm_ifgt, gm_ifle, gm_ceq, gm_cne, gm_clt, gm_cge, gm_cgt, gm_cle, gm_ifnull, gm_ifnonnull, gm_swk, gm_switch, gm_getI, gm_getR, gm_putI, gm_putZ, gm_putR, gm_new, gm_newarr, gm_iald, gm_cald, gm_zald, gm_lald, gm_aald, gm_iast, gm_cast, gm_zast, gm_last, gm_aast, gm_acp, gm_oinit, gm_back, gm_scall, gm_vcall, gm_iret, gm_zret, gm_cret, gm_lret, gm_aret, gm_vret, gm_slen, gm_schar, gm_sidx, gm_lget, gm_lset, gm_nl, gm_ent, gm_wd, gm_pop, gm_pad, gm_xl_c, gm_alen_u, gm_1_sF, gm_1_sA, gm_1_cp, gm_len_sF, gm_len_sA, gm_len_cp, Bool.or_true, Bool.true_or, gm_max_u, gm_min_u, gm_isO_sF, gm_isO_sA, gm_isO_cp, gm_gF_sF, gm_gF_sA, gm_gA_sF, gm_gA_sA, gm_gF_cp, gm_gA_cp, gm_add, gm_sub, gm_mul, gm_neg, ↓reduceIte, Nat.reduceAdd, Nat.reduceLeDiff, true_and, and_true, and_self, true_or, or_true, false_and, and_false, false_or, or_false, eq_self, Nat.reduceEqDiff, Int.reduceEq, Int.reduceLT, Int.reduceLE, Int.reduceNeg, Int.reduceAdd, Int.reduceSub, Int.reduceMul, Int.reduceDiv, Int.reduceMod, reduceCtorEq, if_true, if_false, gm_w_id, xX8_big_0, xX8_big_1, xX8_big_3, xX8_big_4, xX8_big_5, xX8_big_6, c1, l803, l806, z80, z50, h9, e]
      rw [e3, Int.zero_add]
    · obtain ⟨M3, he3, e3⟩ := ih (f + 1) (x + 1) (s + 1) S.2.1 S.1 M2 q1 q2 q3 (by omega) (by omega) (by omega) (by omega) (by omega)
      refine ⟨M3, he3, ?_⟩
      rw [hv] at e ⊢
      rw [xX8_big_2]
      simp (config := { maxSteps := 2000000 }) (disch := first | omega | assumption | (simp only [gm_isO_sF, gm_isO_sA, gm_isO_cp]; assumption)) only [gm_push, gm_iload, gm_lload, gm_aload, gm_istore, gm_astore, gm_iinc, gm_op2, gm_quo, gm_op1, gm_lop2, gm_lshl, gm_i2l, gm_l2i, gm_lcmp, gm_dup, gm_pop1, gm_dup2, gm_goto, gm_ifeq, gm_ifne, gm_iflt, gm_ifge, gm_ifgt, gm_ifle, gm_ceq, gm_cne, gm_clt, gm_cge, gm_cgt, gm_cle, gm_ifnull, gm_ifnonnull, gm_swk, gm_switch, gm_getI, gm_getR, gm_putI, gm_putZ, gm_putR, gm_new, gm_newarr, gm_iald, gm_cald, gm_zald, gm_lald, gm_aald, gm_iast, gm_cast, gm_zast, gm_last, gm_aast, gm_acp, gm_oinit, gm_back, gm_scall, gm_vcall, gm_iret, gm_zret, gm_cret, gm_lret, gm_aret, gm_vret, gm_slen, gm_schar, gm_sidx, gm_lget, gm_lset, gm_nl, gm_ent, gm_wd, gm_pop, gm_pad, gm_xl_c, gm_alen_u, gm_1_sF, gm_1_sA, gm_1_cp, gm_len_sF, gm_len_sA, gm_len_cp, Bool.or_true, Bool.true_or, gm_max_u, gm_min_u, gm_isO_sF, gm_isO_sA, gm_isO_cp, gm_gF_sF, gm_gF_sA, gm_gA_sF, gm_gA_sA, gm_gF_cp, gm_gA_cp, gm_add, gm_sub, gm_mul, gm_neg, ↓reduceIte, Nat.reduceAdd, Nat.reduceLeDiff, true_and, and_true, and_self, true_or, or_true, false_and, and_false, false_or, or_false, eq_self, Nat.reduceEqDiff, Int.reduceEq, Int.reduceLT, Int.reduceLE, Int.reduceNeg, Int.reduceAdd, Int.reduceSub, Int.reduceMul, Int.reduceDiv, Int.reduceMod, reduceCtorEq, if_true, if_false, gm_w_id, xX8_big_0, xX8_big_1, xX8_big_3, xX8_big_4, xX8_big_5, xX8_big_6, c1, l803, l806, z80, z50, h9, e]
      rw [e3, Int.add_assoc]
def gn_sH (M : gm_M) : Int := gn_sm (fun n => gm_gF M 500 (8 + 3 * n + 1)) (gm_many M).toNat 0 0
def gn_sR (M : gm_M) : Int := gn_sm (fun n => gm_gF M 501 (8 + 3 * n + 1)) (gm_many M).toNat 0 0
def gn_sL (M : gm_M) : Int := gn_sm (fun n => gm_gF M 502 (8 + 3 * n + 1)) (gm_many M).toNat 0 0
/-- small stores, small leaks: as between calls -/
def gn_CS (M : gm_M) : Prop := ∀ h, 0 ≤ h → h < gm_many M → (0 ≤ gm_gF M 500 (8 + 3 * h + 1) ∧ gm_gF M 500 (8 + 3 * h + 1) ≤ gm_gF M 501 (8 + 3 * h + 1)) ∧ (0 ≤ gm_gF M 204 (8 + 3 * h) ∧ gm_gF M 204 (8 + 3 * h) ≤ 99) ∧ gm_gF M 501 (8 + 3 * h + 1) = gm_rmc M h (gm_gF M 204 (8 + 3 * h)) ∧ 0 ≤ gm_gF M 502 (8 + 3 * h + 1) ∧ gm_gF M 502 (8 + 3 * h + 1) ≤ 9
theorem gn_CS.b {M : gm_M} (hI : gm_CI M) (hS : gn_CS M) : ∀ h, 0 ≤ h → h < gm_many M → 0 ≤ gm_gF M 501 (8 + 3 * h + 1) ∧ gm_gF M 501 (8 + 3 * h + 1) ≤ 108 := fun h h1 h2 => by
  obtain ⟨a1, a2, a3, a4⟩ := hS h h1 h2
  have hw := (hI.ho h1 h2).2.2.2.1
  rw [a3]
  unfold gm_rmc
  split <;> omega
theorem r_X8_big (d : Nat) (M : gm_M) (hI : gm_CI M) (hS : gn_CS M) (what : Int) (hw : gm_i what) : ∃ M1, gm_Ec M M1 ∧ gm_go (d + 6) 68 [.inr (.inr 1), .inl what] M = some (some (.inl (
    if 0 ≤ what ∧ what ≤ 1 then (if what = 0 then (gn_bgd M (gn_sR M) (gn_sL M) 28 0 (fun n => gm_gF M 203 (8 + 3 * n), gn_sH M)).1 else (gn_bgd M (gn_sR M) (gn_sL M) 28 0 (fun n => gm_gF M 203 (8 + 3 * n), gn_sH M)).2) else -1)), M1) := by
  have hm := hI.2.1
  have he := gm_Ec.rf hI.1
  obtain ⟨c1, c2, c3, c4, c5, c6, c7, c8, c9, c10, c11, c12, c13⟩ := gm_cx hI he
  have hwi := r_within (d := d + 4) hw (most := 1) ⟨by decide, by decide⟩ M
  have l803 := gm_l803 hI.1
  have z50 := gm_z50 hI.1
  rw [eX8_big _ _ _ (Nat.le_of_ble_eq_true rfl)]
  by_cases hw2 : 0 ≤ what ∧ what ≤ 1
  · rw [if_pos hw2] at hwi ⊢
    obtain ⟨M2, f1, tc, e⟩ := r_X7_become (d + 2) M hI.1 50 2 (Or.inr (Or.inr rfl)) (Or.inl rfl) (by decide) hm
    have f1' := f1.Ec (by decide) (by decide)
    have hT : gn_Tr M (fun n => gm_gF M 203 (8 + 3 * n)) (gm_day M) M2 := by
      refine ⟨f1', ⟨tc.2.1.1, tc.2.1.2.1⟩, fun n n1 n2 => ?_⟩
      obtain ⟨⟨e1, e2, e3, e4, e5⟩, e6, e7, e8, e9⟩ := tc.1 n n1 n2
      rw [show (50 : Int) + 6 + 3 * n = 56 + 3 * n by omega] at e1 e2 e3 e4 e6 e7 e8 e9
      rw [show (2 : Int) + 6 + 3 * n = 8 + 3 * n by omega] at e1 e2 e3 e4 e6 e7 e8 e9
      exact ⟨⟨e1, e2, e3⟩, ⟨e4, (hI.ho n1 n2).2.2.2.2.1⟩, ⟨e6, e7, e8⟩, e9⟩
    have z50' := gm_z50 f1'.1
    have z80' := gm_z80 f1'.1
    have hT2 : gn_Tr M (fun n => gm_gF M 203 (8 + 3 * n)) (gm_day M) (gm_sF (gm_sF (gm_sF M2 500 80 0) 501 80 0) 502 80 0) := by
      refine ⟨((f1'.sF _ _ _ (by decide) (by decide)).sF _ _ _ (by decide) (by decide)).sF _ _ _ (by decide) (by decide), hT.2.1, fun n n1 n2 => ?_⟩
      obtain ⟨x1, x2, ⟨x5, x6, x7⟩, x8⟩ := hT.2.2 n n1 n2
      have y : ¬ (56 + 3 * n + 1 = 80) := by omega
      refine ⟨x1, x2, ?_, x8⟩
      simp only [gm_gF_sF, Nat.reduceEqDiff, y, false_and, and_false, ↓reduceIte]
      exact ⟨x5, x6, x7⟩
    obtain ⟨M3, hT3, hC3, e3⟩ := r_X7_pool_loop (d + 4) M hI _ (gm_many M).toNat 99999 0 0 0 0 none _ hT2 (by simp only [gn_Co, gm_gF_sF, Nat.reduceEqDiff, and_self, false_and, ↓reduceIte]) (by omega) (by omega) (by omega)
    have ep : gm_go (d + 5) 49 [.inr (.inr 50), .inr (.inr 80)] M2 = some (none, M3) := by
      rw [eX7_pool _ _ _ (Nat.le_of_ble_eq_true rfl), xX7_pool_0]
      simp (config := { maxSteps := 2000000 }) (disch := first | omega | assumption | (simp only [gm_isO_sF, gm_isO_sA, gm_isO_cp]; assumption)) only [gm_push, gm_iload, gm_lload, gm_aload, gm_istore, gm_astore, gm_iinc, gm_op2, gm_quo, gm_op1, gm_lop2, gm_lshl, gm_i2l, gm_l2i, gm_lcmp, gm_dup, gm_pop1, gm_dup2, gm_goto, gm_ifeq, gm_ifne, gm_iflt, gm_ifge, gm_ifgt, gm_ifle, gm_ceq, gm_cne, gm_clt, gm_cge, gm_cgt, gm_cle, gm_ifnull, gm_ifnonnull, gm_swk, gm_switch, gm_getI, gm_getR, gm_putI, gm_putZ, gm_putR, gm_new, gm_newarr, gm_iald, gm_cald, gm_zald, gm_lald, gm_aald, gm_iast, gm_cast, gm_zast, gm_last, gm_aast, gm_acp, gm_oinit, gm_back, gm_scall, gm_vcall, gm_iret, gm_zret, gm_cret, gm_lret, gm_aret, gm_vret, gm_slen, gm_schar, gm_sidx, gm_lget, gm_lset, gm_nl, gm_ent, gm_wd, gm_pop, gm_pad, gm_xl_c, gm_alen_u, gm_1_sF, gm_1_sA, gm_1_cp, gm_len_sF, gm_len_sA, gm_len_cp, Bool.or_true, Bool.true_or, gm_max_u, gm_min_u, gm_isO_sF, gm_isO_sA, gm_isO_cp, gm_gF_sF, gm_gF_sA, gm_gA_sF, gm_gA_sA, gm_gF_cp, gm_gA_cp, gm_add, gm_sub, gm_mul, gm_neg, ↓reduceIte, Nat.reduceAdd, Nat.reduceLeDiff, true_and, and_true, and_self, true_or, or_true, false_and, and_false, false_or, or_false, eq_self, Nat.reduceEqDiff, Int.reduceEq, Int.reduceLT, Int.reduceLE, Int.reduceNeg, Int.reduceAdd, Int.reduceSub, Int.reduceMul, Int.reduceDiv, Int.reduceMod, reduceCtorEq, if_true, if_false, gm_w_id, z80', e3]
    obtain ⟨p1, p2, p3, p4, p5, p6, p7, p8, p9, p10, p11, p12, p13⟩ := gm_cx hI f1'
    obtain ⟨q1, q2, q3, q4, q5, q6, q7, q8, q9, q10, q11, q12, q13⟩ := gm_cx hI hT3.1
    have l803' := gm_l803 f1'.1
    have l806' := gm_l806 f1'.1
    have hg := q10 (d + 4)
    have hb := hS.b hI
    have b1 : 0 ≤ gn_sR M ∧ gn_sR M ≤ 5000 := by
      have := gn_sm_b (g := fun n => gm_gF M 501 (8 + 3 * n + 1)) (B := 108) (gm_many M).toNat 0 0 (fun j j1 j2 => hb j j1 (by omega))
      unfold gn_sR; omega
    have b2 : 0 ≤ gn_sH M ∧ gn_sH M ≤ 5000 := by
      have := gn_sm_b (g := fun n => gm_gF M 500 (8 + 3 * n + 1)) (B := 108) (gm_many M).toNat 0 0 (fun j j1 j2 => by
        have h1 := hb j j1 (by omega)
        have h2 := (hS j j1 (by omega)).1
        omega)
      unfold gn_sH; omega
    have b3 : 0 ≤ gn_sL M ∧ gn_sL M ≤ 5000 := by
      have := gn_sm_b (g := fun n => gm_gF M 502 (8 + 3 * n + 1)) (B := 9) (gm_many M).toNat 0 0 (fun j j1 j2 => (hS j j1 (by omega)).2.2.2)
      unfold gn_sL; omega
    obtain ⟨M4, he4, e4⟩ := r_X8_big_loop d M hI (gn_sR M) (gn_sL M) what b1 b3 (by omega) 28 99998 0 0 (gn_sH M) _ M3 (by rw [Int.add_zero]; exact hT3) hC3 b2 (by omega) (by omega) (by omega) (by omega) (by omega)
    refine ⟨M4, he4, ?_⟩
    rw [Int.zero_add] at e4
    simp (config := { maxSteps := 2000000 }) (disch := first | omega | assumption | (simp only [gm_isO_sF, gm_isO_sA, gm_isO_cp]; assumption)) only [gm_push, gm_iload, gm_lload, gm_aload, gm_istore, gm_astore, gm_iinc, gm_op2, gm_quo, gm_op1, gm_lop2, gm_lshl, gm_i2l, gm_l2i, gm_lcmp, gm_dup, gm_pop1, gm_dup2, gm_goto, gm_ifeq, gm_ifne, gm_iflt, gm_ifge, gm_ifgt, gm_ifle, gm_ceq, gm_cne, gm_clt, gm_cge, gm_cgt, gm_cle, gm_ifnull, gm_ifnonnull, gm_swk, gm_switch, gm_getI, gm_getR, gm_putI, gm_putZ, gm_putR, gm_new, gm_newarr, gm_iald, gm_cald, gm_zald, gm_lald, gm_aald, gm_iast, gm_cast, gm_zast, gm_last, gm_aast, gm_acp, gm_oinit, gm_back, gm_scall, gm_vcall, gm_iret, gm_zret, gm_cret, gm_lret, gm_aret, gm_vret, gm_slen, gm_schar, gm_sidx, gm_lget, gm_lset, gm_nl, gm_ent, gm_wd, gm_pop, gm_pad, gm_xl_c, gm_alen_u, gm_1_sF, gm_1_sA, gm_1_cp, gm_len_sF, gm_len_sA, gm_len_cp, Bool.or_true, Bool.true_or, gm_max_u, gm_min_u, gm_isO_sF, gm_isO_sA, gm_isO_cp, gm_gF_sF, gm_gF_sA, gm_gA_sF, gm_gA_sA, gm_gF_cp, gm_gA_cp, gm_add, gm_sub, gm_mul, gm_neg, ↓reduceIte, Nat.reduceAdd, Nat.reduceLeDiff, true_and, and_true, and_self, true_or, or_true, false_and, and_false, false_or, or_false, eq_self, Nat.reduceEqDiff, Int.reduceEq, Int.reduceLT, Int.reduceLE, Int.reduceNeg, Int.reduceAdd, Int.reduceSub, Int.reduceMul, Int.reduceDiv, Int.reduceMod, reduceCtorEq, if_true, if_false, gm_w_id, xX8_big_0, xX8_big_1, xX8_big_3, xX8_big_4, xX8_big_5, xX8_big_6, c1, c2, c7, hwi, l803, z50, e, p1, l803', l806', z50', z80', ep, q1, hg, e4]
  · rw [if_neg hw2] at hwi ⊢
    refine ⟨M, he, ?_⟩
    simp (config := { maxSteps := 2000000 }) (disch := first | omega | assumption | (simp only [gm_isO_sF, gm_isO_sA, gm_isO_cp]; assumption)) only [gm_push, gm_iload, gm_lload, gm_aload, gm_istore, gm_astore, gm_iinc, gm_op2, gm_quo, gm_op1, gm_lop2, gm_lshl, gm_i2l, gm_l2i, gm_lcmp, gm_dup, gm_pop1, gm_dup2, gm_goto, gm_ifeq, gm_ifne, gm_iflt, gm_ifge, gm_ifgt, gm_ifle, gm_ceq, gm_cne, gm_clt, gm_cge, gm_cgt, gm_cle, gm_ifnull, gm_ifnonnull, gm_swk, gm_switch, gm_getI, gm_getR, gm_putI, gm_putZ, gm_putR, gm_new, gm_newarr, gm_iald, gm_cald, gm_zald, gm_lald, gm_aald, gm_iast, gm_cast, gm_zast, gm_last, gm_aast, gm_acp, gm_oinit, gm_back, gm_scall, gm_vcall, gm_iret, gm_zret, gm_cret, gm_lret, gm_aret, gm_vret, gm_slen, gm_schar, gm_sidx, gm_lget, gm_lset, gm_nl, gm_ent, gm_wd, gm_pop, gm_pad, gm_xl_c, gm_alen_u, gm_1_sF, gm_1_sA, gm_1_cp, gm_len_sF, gm_len_sA, gm_len_cp, Bool.or_true, Bool.true_or, gm_max_u, gm_min_u, gm_isO_sF, gm_isO_sA, gm_isO_cp, gm_gF_sF, gm_gF_sA, gm_gA_sF, gm_gA_sA, gm_gF_cp, gm_gA_cp, gm_add, gm_sub, gm_mul, gm_neg, ↓reduceIte, Nat.reduceAdd, Nat.reduceLeDiff, true_and, and_true, and_self, true_or, or_true, false_and, and_false, false_or, or_false, eq_self, Nat.reduceEqDiff, Int.reduceEq, Int.reduceLT, Int.reduceLE, Int.reduceNeg, Int.reduceAdd, Int.reduceSub, Int.reduceMul, Int.reduceDiv, Int.reduceMod, reduceCtorEq, if_true, if_false, gm_w_id, xX8_big_0, xX8_big_1, xX8_big_3, xX8_big_4, xX8_big_5, xX8_big_6, c1, hwi]
