/-! THE MODEL IS ASKED: big -/
/-- while one store is for all -/
def gn_Eb (M1 M2 : gm_M) : Prop := gm_Lay M2 ∧ (∀ (f : Nat) (o : Int), ¬ (o = 148 ∧ (f = 901 ∨ f = 927)) → gm_gF M2 f o = gm_gF M1 f o) ∧ ∀ a i : Int, a ≠ 165 → a ≠ 168 → ¬ (a = 151 ∧ 0 ≤ i ∧ i < 6) → gm_gA M2 a i = gm_gA M1 a i
theorem gn_Eb.rf {M : gm_M} (hL : gm_Lay M) : gn_Eb M M := ⟨hL, fun _ _ _ => rfl, fun _ _ _ _ _ => rfl⟩
theorem gn_Eb.tr {M M1 M2 : gm_M} (e : gn_Eb M M1) (e2 : gn_Eb M1 M2) : gn_Eb M M2 := ⟨e2.1, fun f o z => (e2.2.1 f o z).trans (e.2.1 f o z), fun a i x y z => (e2.2.2 a i x y z).trans (e.2.2 a i x y z)⟩
theorem gn_Ew.b {M M1 M2 : gm_M} (e : gn_Ew M M1) (e2 : gn_Eb M1 M2) : gn_Ew M M2 := ⟨e2.1, fun f o z => (e2.2.1 f o (by omega)).trans (e.2.1 f o z), fun a i x y => (e2.2.2 a i (by omega) (by omega) (by omega)).trans (e.2.2 a i x y)⟩
def gn_sto (M : gm_M) (h : Int) : Int := (gm_qq M (8 + 3 * h)).2
/-- the houses as they stand by the one store -/
def gn_Bs (M M3 : gm_M) (day : Int) (W : Int → Int) (B : Int) : Prop := gn_Ew M M3 ∧ gm_gF M3 901 148 = day ∧ gm_gF M3 927 148 = B ∧ (0 ≤ day ∧ day < 100000) ∧ (0 ≤ B ∧ B ≤ 5000) ∧ gn_dd M3 0 (-1) (-1) ∧ ∀ h, 0 ≤ h → h < gm_many M → (gm_gA M3 151 h = W h ∧ 0 ≤ W h ∧ W h ≤ 199) ∧ gm_gA M3 152 h = gn_sto M h
theorem gn_Bs.Mh {M M3 : gm_M} (hI : gn_Inv M) {day B : Int} {W : Int → Int} (hS : gn_Bs M M3 day W B) {h : Int} (h1 : 0 ≤ h) (h2 : h < gm_many M) : gn_Mh M M3 h day (W h) (gn_sto M h) B := by
  obtain ⟨a1, a2, a3, a4, a5, a6, a7⟩ := hS
  obtain ⟨⟨b1, b2⟩, b3⟩ := a7 h h1 h2
  have p := (gn_cap_b hI h1 h2).2.2.2.2.2.2
  exact ⟨a1, a2, b1, b3, a3, ⟨a4.1, by omega⟩, b2, p, Or.inr a5⟩
theorem gn_Bs.e {M M3 M4 : gm_M} {day B : Int} {W : Int → Int} (hS : gn_Bs M M3 day W B) (hL : gm_Lay M4) (hF : ∀ (f : Nat) (o : Int), gm_gF M4 f o = gm_gF M3 f o) (hA : ∀ a i : Int, a ≠ 165 → a ≠ 168 → gm_gA M4 a i = gm_gA M3 a i) : gn_Bs M M4 day W B := by
  obtain ⟨a1, a2, a3, a4, a5, a6, a7⟩ := hS
  refine ⟨a1.b ⟨hL, fun f o _ => hF f o, fun a i x y _ => hA a i x y⟩, (hF _ _).trans a2, (hF _ _).trans a3, a4, a5, ?_, fun h h1 h2 => ?_⟩
  · unfold gn_dd; rw [hF, hF, hF]; exact a6
  · rw [hA _ _ (by decide) (by decide), hA _ _ (by decide) (by decide)]; exact a7 h h1 h2
theorem gn_gEb {M : gm_M} (hI : gn_Inv M) {h day w B : Int} (h1 : 0 ≤ h) (h2 : h < gm_many M) (b2 : 0 ≤ w ∧ w ≤ 199) (b3 : 0 ≤ B ∧ B ≤ 5000) : -50000 ≤ gn_gnB M h day B w ∧ gn_gnB M h day B w ≤ 50000 := by
  rw [gn_gnB_E]
  obtain ⟨k0, k1, k2, k3, k4, k5⟩ := gn_kv hI (gn_Ew.rf hI.L) h1 h2
  obtain ⟨k6, k7⟩ := k5 (day % 28 % 4) (by omega) (by omega)
  have hz : gn_hd B B = B := by unfold gn_hd; split <;> rfl
  obtain ⟨sb, cb⟩ := gn_sn_b hI (day := day) (s := B) (big := B) h1 h2 b2 b3 (Or.inr b3)
  rw [hz] at sb cb
  exact gm_gain_b (by omega) (by omega) k4 k7
theorem r_X9_goBig_1 (d : Nat) {M : gm_M} (hI : gn_Inv M) {day B : Int} {W : Int → Int} (room lk : Int) : ∀ (k f : Nat) (i : Int) (l4 : Option gm_V) (M3 : gm_M), gn_Bs M M3 day W B → (∀ j, 0 ≤ j → j < i → gm_gA M3 168 j = gn_gnB M j day B (W j)) → i = gm_many M - k → 0 ≤ i →
    ∃ M4, (gm_Lay M4 ∧ (∀ (f : Nat) (o : Int), gm_gF M4 f o = gm_gF M3 f o) ∧ ∀ a i : Int, a ≠ 165 → a ≠ 168 → gm_gA M4 a i = gm_gA M3 a i) ∧ (∀ j, 0 ≤ j → j < gm_many M → gm_gA M4 168 j = gn_gnB M j day B (W j)) ∧
      gm_ex (gm_go (d + 5)) qX9_goBig (f + (k + 1)) 1 [some (.inr (.inr 148)), some (.inl room), some (.inl lk), some (.inl i), l4] [] M3 = gm_ex (gm_go (d + 5)) qX9_goBig f 2 [some (.inr (.inr 148)), some (.inl room), some (.inl lk), some (.inl (gm_many M)), l4] [] M4 := by
  have hm : gm_many M ≤ 6 := hI.2.1.1.2
  intro k
  induction k with
  | zero =>
    intro f i l4 M3 hS hG hi h0
    have hi' : i = gm_many M := by omega
    subst hi'
    have hL := hS.1.1
    have hh := gn_hn hI hS.1
    refine ⟨M3, ⟨hL, fun _ _ => rfl, fun _ _ _ _ => rfl⟩, hG, ?_⟩
    rw [xX9_goBig_1]
    simp (config := { maxSteps := 2000000 }) (disch := first | omega | assumption | (simp only [gm_isO_sF, gm_isO_sA, gm_isO_cp]; assumption)) only [gm_push, gm_iload, gm_lload, gm_aload, gm_istore, gm_astore, gm_iinc, gm_op2, gm_quo, gm_op1, gm_lop2, gm_lshl, gm_i2l, gm_l2i, gm_lcmp, gm_dup, gm_pop1, gm_dup2, gm_goto, gm_ifeq, gm_ifne, gm_iflt, gm_ifge, gm_ifgt, gm_ifle, gm_ceq, gm_cne, gm_clt, gm_cge, gm_cgt, gm_cle, gm_ifnull, gm_ifnonnull, gm_swk, gm_switch, gm_getI, gm_getR, gm_putI, gm_putZ, gm_putR, gm_new, gm_newarr, gm_iald, gm_cald, gm_zald, gm_lald, gm_aald, gm_iast, gm_cast, gm_zast, gm_last, gm_aast, gm_acp, gm_oinit, gm_back, gm_scall, gm_vcall, gm_iret, gm_zret, gm_cret, gm_lret, gm_aret, gm_vret, gm_slen, gm_schar, gm_sidx, gm_lget, gm_lset, gm_nl, gm_ent, gm_wd, gm_pop, gm_pad, gm_xl_c, gm_alen_u, gm_1_sF, gm_1_sA, gm_1_cp, gm_len_sF, gm_len_sA, gm_len_cp, Bool.or_true, Bool.true_or, gm_max_u, gm_min_u, gm_isO_sF, gm_isO_sA, gm_isO_cp, gm_gF_sF, gm_gF_sA, gm_gA_sF, gm_gA_sA, gm_gF_cp, gm_gA_cp, gm_add, gm_sub, gm_mul, gm_neg, ↓reduceIte, Nat.reduceAdd, Nat.reduceLeDiff, true_and, and_true, and_self, true_or, or_true, false_and, and_false, false_or, or_false, eq_self, Nat.reduceEqDiff, Int.reduceEq, Int.reduceLT, Int.reduceLE, Int.reduceNeg, Int.reduceAdd, Int.reduceSub, Int.reduceMul, Int.reduceDiv, Int.reduceMod, reduceCtorEq, if_true, if_false, gm_w_id, gm_l902, gm_l903, gm_l904, gm_l905, gm_l906, gm_l907, gm_l908, gm_l914, gm_l915, gm_l916, gm_l917, gm_l918, gm_l919, gm_l920, gm_l921, gm_l925, gm_l926, gm_l931, gm_l932, gm_l934, gm_l936, gm_l937, gm_l938, gm_l940, gm_l947, gm_l948, gm_l949, gm_l950, gm_l951, gm_l952, gm_l953, gm_l954, gm_l955, gm_l956, gm_l957, gm_l959, gm_l960, gm_l961, gm_l962, gm_l963, gm_z148, gm_z149, gm_z150, gm_z151, gm_z152, gm_z153, gm_z154, gm_z155, gm_z156, gm_z157, gm_z158, gm_z159, gm_z160, gm_z161, gm_z162, gm_z163, gm_z164, gm_z165, gm_z166, gm_z167, gm_z168, gm_z169, gm_z170, gm_z171, gm_z172, gm_z173, gm_z174, gm_z175, gm_z176, gm_z177, gm_z178, gm_z179, gm_z180, gm_z181, gm_z182, gm_z183, gm_z184, gm_z185, gm_z186, gm_z187, gm_z188, gn_i149, gn_i150, gn_i151, gn_i152, gn_i153, gn_i154, gn_i155, gn_i156, gn_i157, gn_i158, gn_i159, gn_i160, gn_i161, gn_i162, gn_i163, gn_i164, gn_i165, gn_i166, gn_i167, gn_i168, gn_i169, gn_i170, gn_i171, gn_i172, gn_i173, gn_i174, gn_i175, gn_i176, gn_i177, gn_i178, gn_i179, gn_i180, gn_i181, gn_i182, gn_i183, gn_i184, gn_i185, gn_i186, gn_i187, gn_i188, hh, Int.lt_irrefl]
  | succ k ih =>
    intro f i l4 M3 hS hG hi h0
    have hi' : i < gm_many M := by omega
    have i6 : i < 6 := by omega
    have hL := hS.1.1
    have hh := gn_hn hI hS.1
    obtain ⟨M2, he2, e⟩ := r_X9_gainOf d hI h0 hi' (hS.Mh hI h0 hi') hS.2.2.2.2.2.1
    have hde : gn_de day 0 (-1) (-1) = 0 := by unfold gn_de; rw [if_neg (by have := hS.2.2.2.1; omega)]
    have hhd : gn_hd (gn_sto M i) B = B := by unfold gn_hd; rw [if_neg (by have := hS.2.2.2.2.1; omega)]
    rw [hde, hhd, ← gn_gnB_E] at e
    have hL2 := he2.1
    have hS4 : gn_Bs M (gm_sA M2 168 i (gn_gnB M i day B (W i))) day W B := hS.e (hL2.sA _ _ _ (by decide)) he2.2.1 (fun a j x y => by rw [gm_gA_sA, if_neg (fun z => y z.1)]; exact he2.2.2 a j x)
    have hG4 : ∀ j, 0 ≤ j → j < i + 1 → gm_gA (gm_sA M2 168 i (gn_gnB M i day B (W i))) 168 j = gn_gnB M j day B (W j) := fun j j1 j2 => by
      rw [gm_gA_sA]
      by_cases z : j = i
      · subst z; rw [if_pos ⟨rfl, rfl⟩]
      · rw [if_neg (fun y => z y.2), he2.2.2 _ _ (by decide)]
        exact hG j j1 (by omega)
    obtain ⟨M5, ⟨q1, q2, q3⟩, hG5, e5⟩ := ih f (i + 1) l4 _ hS4 hG4 (by omega) (by omega)
    refine ⟨M5, ⟨q1, fun f o => (q2 f o).trans (he2.2.1 f o), fun a j x y => ?_⟩, hG5, ?_⟩
    · rw [q3 a j x y, gm_gA_sA, if_neg (fun z => y z.1)]; exact he2.2.2 a j x
    · rw [← e5, show f + (k + 1 + 1) = (f + (k + 1)) + 1 by omega, xX9_goBig_1]
      simp (config := { maxSteps := 2000000 }) (disch := first | omega | assumption | (simp only [gm_isO_sF, gm_isO_sA, gm_isO_cp]; assumption)) only [gm_push, gm_iload, gm_lload, gm_aload, gm_istore, gm_astore, gm_iinc, gm_op2, gm_quo, gm_op1, gm_lop2, gm_lshl, gm_i2l, gm_l2i, gm_lcmp, gm_dup, gm_pop1, gm_dup2, gm_goto, gm_ifeq, gm_ifne, gm_iflt, gm_ifge, gm_ifgt, gm_ifle, gm_ceq, gm_cne, gm_clt, gm_cge, gm_cgt, gm_cle, gm_ifnull, gm_ifnonnull, gm_swk, gm_switch, gm_getI, gm_getR, gm_putI, gm_putZ, gm_putR, gm_new, gm_newarr, gm_iald, gm_cald, gm_zald, gm_lald, gm_aald, gm_iast, gm_cast, gm_zast, gm_last, gm_aast, gm_acp, gm_oinit, gm_back, gm_scall, gm_vcall, gm_iret, gm_zret, gm_cret, gm_lret, gm_aret, gm_vret, gm_slen, gm_schar, gm_sidx, gm_lget, gm_lset, gm_nl, gm_ent, gm_wd, gm_pop, gm_pad, gm_xl_c, gm_alen_u, gm_1_sF, gm_1_sA, gm_1_cp, gm_len_sF, gm_len_sA, gm_len_cp, Bool.or_true, Bool.true_or, gm_max_u, gm_min_u, gm_isO_sF, gm_isO_sA, gm_isO_cp, gm_gF_sF, gm_gF_sA, gm_gA_sF, gm_gA_sA, gm_gF_cp, gm_gA_cp, gm_add, gm_sub, gm_mul, gm_neg, ↓reduceIte, Nat.reduceAdd, Nat.reduceLeDiff, true_and, and_true, and_self, true_or, or_true, false_and, and_false, false_or, or_false, eq_self, Nat.reduceEqDiff, Int.reduceEq, Int.reduceLT, Int.reduceLE, Int.reduceNeg, Int.reduceAdd, Int.reduceSub, Int.reduceMul, Int.reduceDiv, Int.reduceMod, reduceCtorEq, if_true, if_false, gm_w_id, gm_l902, gm_l903, gm_l904, gm_l905, gm_l906, gm_l907, gm_l908, gm_l914, gm_l915, gm_l916, gm_l917, gm_l918, gm_l919, gm_l920, gm_l921, gm_l925, gm_l926, gm_l931, gm_l932, gm_l934, gm_l936, gm_l937, gm_l938, gm_l940, gm_l947, gm_l948, gm_l949, gm_l950, gm_l951, gm_l952, gm_l953, gm_l954, gm_l955, gm_l956, gm_l957, gm_l959, gm_l960, gm_l961, gm_l962, gm_l963, gm_z148, gm_z149, gm_z150, gm_z151, gm_z152, gm_z153, gm_z154, gm_z155, gm_z156, gm_z157, gm_z158, gm_z159, gm_z160, gm_z161, gm_z162, gm_z163, gm_z164, gm_z165, gm_z166, gm_z167, gm_z168, gm_z169, gm_z170, gm_z171, gm_z172, gm_z173, gm_z174, gm_z175, gm_z176, gm_z177, gm_z178, gm_z179, gm_z180, gm_z181, gm_z182, gm_z183, gm_z184, gm_z185, gm_z186, gm_z187, gm_z188, gn_i149, gn_i150, gn_i151, gn_i152, gn_i153, gn_i154, gn_i155, gn_i156, gn_i157, gn_i158, gn_i159, gn_i160, gn_i161, gn_i162, gn_i163, gn_i164, gn_i165, gn_i166, gn_i167, gn_i168, gn_i169, gn_i170, gn_i171, gn_i172, gn_i173, gn_i174, gn_i175, gn_i176, gn_i177, gn_i178, gn_i179, gn_i180, gn_i181, gn_i182, gn_i183, gn_i184, gn_i185, gn_i186, gn_i187, gn_i188, hh, hi', e]
theorem r_X9_goBig_3 (d : Nat) {M : gm_M} (hI : gn_Inv M) {day B0 room : Int} (lk : Int) (hr : 0 ≤ room ∧ room ≤ 5000) (hB0 : 0 ≤ B0 ∧ B0 ≤ 5000) (hdy : day < 90000) : ∀ (k f : Nat) (i : Int) (s : (Int → Int) × Int × Int) (M3 : gm_M), gn_Bs M M3 day s.1 s.2.1 → (∀ j, i ≤ j → j < gm_many M → gm_gA M3 168 j = gn_gnB M j day B0 (s.1 j)) → (s.2.2 = 0 ∨ s.2.2 = 1) → 4 * (k + 1) ≤ f → i = gm_many M - k → 0 ≤ i →
    ∃ M4, gn_Eb M3 M4 ∧ gn_Bs M M4 (day + 1) (gn_bgl M room B0 day k i s).1 (gn_bgl M room B0 day k i s).2.1 ∧ ((gn_bgl M room B0 day k i s).2.2 = 0 ∨ (gn_bgl M room B0 day k i s).2.2 = 1) ∧
      gm_ex (gm_go (d + 5)) qX9_goBig f 3 [some (.inr (.inr 148)), some (.inl room), some (.inl lk), some (.inl s.2.2), some (.inl i)] [] M3 = some (some (.inl (gn_bgl M room B0 day k i s).2.2), M4) := by
  have hm : gm_many M ≤ 6 := hI.2.1.1.2
  intro k
  induction k with
  | zero =>
    intro f i s M3 hS hG ha hf hi h0
    obtain ⟨f, rfl⟩ : ∃ g, f = g + 2 := ⟨f - 2, by omega⟩
    have hi' : ¬ i < gm_many M := by omega
    have hL := hS.1.1
    have hh := gn_hn hI hS.1
    obtain ⟨a1, a2, a3, a4, a5, ⟨a6, a7, a8, a9⟩, a10⟩ := id hS
    refine ⟨gm_sF M3 901 148 (day + 1), ⟨hL.sF _ _ _ (by decide), fun f o z => ?_, fun _ _ _ _ _ => rfl⟩, ⟨⟨hL.sF _ _ _ (by decide), fun f o z => ?_, a1.2.2⟩, ?_, ?_, ?_, a5, ⟨?_, ?_, ?_, a9⟩, a10⟩, ha, ?_⟩
    · rw [gm_gF_sF, if_neg (by omega)]
    · rw [gm_gF_sF, if_neg (by omega)]; exact a1.2.1 f o z
    · rw [gm_gF_sF, if_pos ⟨rfl, rfl⟩]
    · rw [gm_gF_sF, if_neg (by omega)]; exact a3
    · omega
    · rw [gm_gF_sF, if_neg (by omega)]; exact a6
    · rw [gm_gF_sF, if_neg (by omega)]; exact a7
    · rw [gm_gF_sF, if_neg (by omega)]; exact a8
    · rw [xX9_goBig_3, gn_bgl]
      rcases ha with ha | ha
      · rw [ha]
        simp (config := { maxSteps := 2000000 }) (disch := first | omega | assumption | (simp only [gm_isO_sF, gm_isO_sA, gm_isO_cp]; assumption)) only [gm_push, gm_iload, gm_lload, gm_aload, gm_istore, gm_astore, gm_iinc, gm_op2, gm_quo, gm_op1, gm_lop2, gm_lshl, gm_i2l, gm_l2i, gm_lcmp, gm_dup, gm_pop1, gm_dup2, gm_goto, gm_ifeq, gm_ifne, gm_iflt, gm_ifge, gm_ifgt, gm_ifle, gm_ceq, gm_cne, gm_clt, gm_cge, gm_cgt, gm_cle, gm_ifnull, gm_ifnonnull, gm_swk, gm_switch, gm_getI, gm_getR, gm_putI, gm_putZ, gm_putR, gm_new, gm_newarr, gm_iald, gm_cald, gm_zald, gm_lald, gm_aald, gm_iast, gm_cast, gm_zast, gm_last, gm_aast, gm_acp, gm_oinit, gm_back, gm_scall, gm_vcall, gm_iret, gm_zret, gm_cret, gm_lret, gm_aret, gm_vret, gm_slen, gm_schar, gm_sidx, gm_lget, gm_lset, gm_nl, gm_ent, gm_wd, gm_pop, gm_pad, gm_xl_c, gm_alen_u, gm_1_sF, gm_1_sA, gm_1_cp, gm_len_sF, gm_len_sA, gm_len_cp, Bool.or_true, Bool.true_or, gm_max_u, gm_min_u, gm_isO_sF, gm_isO_sA, gm_isO_cp, gm_gF_sF, gm_gF_sA, gm_gA_sF, gm_gA_sA, gm_gF_cp, gm_gA_cp, gm_add, gm_sub, gm_mul, gm_neg, ↓reduceIte, Nat.reduceAdd, Nat.reduceLeDiff, true_and, and_true, and_self, true_or, or_true, false_and, and_false, false_or, or_false, eq_self, Nat.reduceEqDiff, Int.reduceEq, Int.reduceLT, Int.reduceLE, Int.reduceNeg, Int.reduceAdd, Int.reduceSub, Int.reduceMul, Int.reduceDiv, Int.reduceMod, reduceCtorEq, if_true, if_false, gm_w_id, gm_l902, gm_l903, gm_l904, gm_l905, gm_l906, gm_l907, gm_l908, gm_l914, gm_l915, gm_l916, gm_l917, gm_l918, gm_l919, gm_l920, gm_l921, gm_l925, gm_l926, gm_l931, gm_l932, gm_l934, gm_l936, gm_l937, gm_l938, gm_l940, gm_l947, gm_l948, gm_l949, gm_l950, gm_l951, gm_l952, gm_l953, gm_l954, gm_l955, gm_l956, gm_l957, gm_l959, gm_l960, gm_l961, gm_l962, gm_l963, gm_z148, gm_z149, gm_z150, gm_z151, gm_z152, gm_z153, gm_z154, gm_z155, gm_z156, gm_z157, gm_z158, gm_z159, gm_z160, gm_z161, gm_z162, gm_z163, gm_z164, gm_z165, gm_z166, gm_z167, gm_z168, gm_z169, gm_z170, gm_z171, gm_z172, gm_z173, gm_z174, gm_z175, gm_z176, gm_z177, gm_z178, gm_z179, gm_z180, gm_z181, gm_z182, gm_z183, gm_z184, gm_z185, gm_z186, gm_z187, gm_z188, gn_i149, gn_i150, gn_i151, gn_i152, gn_i153, gn_i154, gn_i155, gn_i156, gn_i157, gn_i158, gn_i159, gn_i160, gn_i161, gn_i162, gn_i163, gn_i164, gn_i165, gn_i166, gn_i167, gn_i168, gn_i169, gn_i170, gn_i171, gn_i172, gn_i173, gn_i174, gn_i175, gn_i176, gn_i177, gn_i178, gn_i179, gn_i180, gn_i181, gn_i182, gn_i183, gn_i184, gn_i185, gn_i186, gn_i187, gn_i188, xX9_goBig_0, xX9_goBig_1, xX9_goBig_2, xX9_goBig_4, xX9_goBig_5, xX9_goBig_6, xX9_goBig_7, hh, hi', a2]
      · rw [ha]
        simp (config := { maxSteps := 2000000 }) (disch := first | omega | assumption | (simp only [gm_isO_sF, gm_isO_sA, gm_isO_cp]; assumption)) only [gm_push, gm_iload, gm_lload, gm_aload, gm_istore, gm_astore, gm_iinc, gm_op2, gm_quo, gm_op1, gm_lop2, gm_lshl, gm_i2l, gm_l2i, gm_lcmp, gm_dup, gm_pop1, gm_dup2, gm_goto, gm_ifeq, gm_ifne, gm_iflt, gm_ifge, gm_ifgt, gm_ifle, gm_ceq, gm_cne, gm_clt, gm_cge, gm_cgt, gm_cle, gm_ifnull, gm_ifnonnull, gm_swk, gm_switch, gm_getI, gm_getR, gm_putI, gm_putZ, gm_putR, gm_new, gm_newarr, gm_iald, gm_cald, gm_zald, gm_lald, gm_aald, gm_iast, gm_cast, gm_zast, gm_last, gm_aast, gm_acp, gm_oinit, gm_back, gm_scall, gm_vcall, gm_iret, gm_zret, gm_cret, gm_lret, gm_aret, gm_vret, gm_slen, gm_schar, gm_sidx, gm_lget, gm_lset, gm_nl, gm_ent, gm_wd, gm_pop, gm_pad, gm_xl_c, gm_alen_u, gm_1_sF, gm_1_sA, gm_1_cp, gm_len_sF, gm_len_sA, gm_len_cp, Bool.or_true, Bool.true_or, gm_max_u, gm_min_u, gm_isO_sF, gm_isO_sA, gm_isO_cp, gm_gF_sF, gm_gF_sA, gm_gA_sF, gm_gA_sA, gm_gF_cp, gm_gA_cp, gm_add, gm_sub, gm_mul, gm_neg, ↓reduceIte, Nat.reduceAdd, Nat.reduceLeDiff, true_and, and_true, and_self, true_or, or_true, false_and, and_false, false_or, or_false, eq_self, Nat.reduceEqDiff, Int.reduceEq, Int.reduceLT, Int.reduceLE, Int.reduceNeg, Int.reduceAdd, Int.reduceSub, Int.reduceMul, Int.reduceDiv, Int.reduceMod, reduceCtorEq, if_true, if_false, gm_w_id, gm_l902, gm_l903, gm_l904, gm_l905, gm_l906, gm_l907, gm_l908, gm_l914, gm_l915, gm_l916, gm_l917, gm_l918, gm_l919, gm_l920, gm_l921, gm_l925, gm_l926, gm_l931, gm_l932, gm_l934, gm_l936, gm_l937, gm_l938, gm_l940, gm_l947, gm_l948, gm_l949, gm_l950, gm_l951, gm_l952, gm_l953, gm_l954, gm_l955, gm_l956, gm_l957, gm_l959, gm_l960, gm_l961, gm_l962, gm_l963, gm_z148, gm_z149, gm_z150, gm_z151, gm_z152, gm_z153, gm_z154, gm_z155, gm_z156, gm_z157, gm_z158, gm_z159, gm_z160, gm_z161, gm_z162, gm_z163, gm_z164, gm_z165, gm_z166, gm_z167, gm_z168, gm_z169, gm_z170, gm_z171, gm_z172, gm_z173, gm_z174, gm_z175, gm_z176, gm_z177, gm_z178, gm_z179, gm_z180, gm_z181, gm_z182, gm_z183, gm_z184, gm_z185, gm_z186, gm_z187, gm_z188, gn_i149, gn_i150, gn_i151, gn_i152, gn_i153, gn_i154, gn_i155, gn_i156, gn_i157, gn_i158, gn_i159, gn_i160, gn_i161, gn_i162, gn_i163, gn_i164, gn_i165, gn_i166, gn_i167, gn_i168, gn_i169, gn_i170, gn_i171, gn_i172, gn_i173, gn_i174, gn_i175, gn_i176, gn_i177, gn_i178, gn_i179, gn_i180, gn_i181, gn_i182, gn_i183, gn_i184, gn_i185, gn_i186, gn_i187, gn_i188, xX9_goBig_0, xX9_goBig_1, xX9_goBig_2, xX9_goBig_4, xX9_goBig_5, xX9_goBig_6, xX9_goBig_7, hh, hi', a2]
  | succ k ih =>
    intro f i s M3 hS hG ha hf hi h0
    obtain ⟨f, rfl⟩ : ∃ g, f = g + 4 := ⟨f - 4, by omega⟩
    have hi' : i < gm_many M := by omega
    have i6 : i < 6 := by omega
    have hL := hS.1.1
    have hh := gn_hn hI hS.1
    obtain ⟨a1, a2, a3, a4, a5, a6, a10⟩ := id hS
    obtain ⟨⟨w1, w2⟩, w3⟩ := a10 i h0 hi'
    have g1 := hG i (Int.le_refl i) hi'
    have gb := gn_gEb hI (day := day) h0 hi' w2 hB0
    obtain ⟨W, B, am⟩ := s
    simp only at *
    have hst : gn_bgl M room B0 day (k + 1) i (W, B, am) = gn_bgl M room B0 day k (i + 1) (fun j => if j = i then (gm_stl (gm_gF M 103 (gm_gr M)) (gm_gF M 102 (gm_gr M)) room (max 0 (min 199 (W i + gn_gnB M i day B0 (W i)))) B).1 else W j, (gm_stl (gm_gF M 103 (gm_gr M)) (gm_gF M 102 (gm_gr M)) room (max 0 (min 199 (W i + gn_gnB M i day B0 (W i)))) B).2, if gm_am0 M (gm_stl (gm_gF M 103 (gm_gr M)) (gm_gF M 102 (gm_gr M)) room (max 0 (min 199 (W i + gn_gnB M i day B0 (W i)))) B).1 = 0 then am else 1) := rfl
    rw [hst]
    clear hst
    generalize gn_gnB M i day B0 (W i) = G at *
    have e1 := r_X9_least (d + 4) 199 (W i + G) M3 ⟨by decide, by decide⟩ ⟨by omega, by omega⟩
    have e2 := r_X9_most (d + 4) 0 (min 199 (W i + G)) M3 ⟨by decide, by decide⟩ ⟨by omega, by omega⟩
    have b2 : 0 ≤ max 0 (min 199 (W i + G)) ∧ max 0 (min 199 (W i + G)) ≤ 199 := by omega
    generalize max 0 (min 199 (W i + G)) = V at *
    have hx : gn_Ew M (gm_sA M3 151 i V) := a1.sA (by decide) i V
    have hgg := hI.CI.2.2.2.2.2.2
    have hq : gm_pok (gm_stl (gm_gF M 103 (gm_gr M)) (gm_gF M 102 (gm_gr M)) room V B) := gm_stl_b b2 a5 hr hgg.2.2.2.1 hgg.2.2.1.2
    have e5 := r_X9_evens (d + 2) hI hx h0 hi' (w := V) (is := B) (room := room) (by rw [gm_gA_sA, if_pos ⟨rfl, rfl⟩]) b2 a5 hr
    rw [gn_sA_sA] at e5
    generalize gm_stl (gm_gF M 103 (gm_gr M)) (gm_gF M 102 (gm_gr M)) room V B = q at *
    have hy1 : gn_Ew M (gm_sA M3 151 i q.1) := a1.sA (by decide) i q.1
    have hy : gn_Ew M (gm_sF (gm_sA M3 151 i q.1) 927 148 q.2) := ⟨hy1.1.sF _ _ _ (by decide), fun f o z => by rw [gm_gF_sF, if_neg (by omega)]; exact hy1.2.1 f o z, hy1.2.2⟩
    have e6 := r_X9_isAmiss (d + 2) hI hy h0 hi' (w := q.1) (by rw [gm_gA_sF, gm_gA_sA, if_pos ⟨rfl, rfl⟩]) hq.1
    have hq1 := hq.1
    have hq2 := hq.2
    have hS4 : gn_Bs M (gm_sF (gm_sA M3 151 i q.1) 927 148 q.2) day (fun j => if j = i then q.1 else W j) q.2 := by
      obtain ⟨c1, c2, c3, c4⟩ := a6
      refine ⟨hy, ?_, ?_, a4, hq2, ⟨?_, ?_, ?_, c4⟩, fun h h1 h2 => ?_⟩
      · rw [gm_gF_sF, if_neg (by omega)]; exact a2
      · rw [gm_gF_sF, if_pos ⟨rfl, rfl⟩]
      · rw [gm_gF_sF, if_neg (by omega)]; exact c1
      · rw [gm_gF_sF, if_neg (by omega)]; exact c2
      · rw [gm_gF_sF, if_neg (by omega)]; exact c3
      · rw [gm_gA_sF, gm_gA_sF, gm_gA_sA, gm_gA_sA, if_neg (c := (152 : Int) = 151 ∧ h = i) (by omega)]
        by_cases z : h = i
        · subst z
          rw [if_pos ⟨rfl, rfl⟩]
          simp only [if_true]
          exact ⟨⟨trivial, hq1⟩, w3⟩
        · rw [if_neg (fun y => z y.2)]
          simp only [if_neg z]
          exact a10 h h1 h2
    have hG4 : ∀ j, i + 1 ≤ j → j < gm_many M → gm_gA (gm_sF (gm_sA M3 151 i q.1) 927 148 q.2) 168 j = gn_gnB M j day B0 (if j = i then q.1 else W j) := fun j j1 j2 => by
      rw [gm_gA_sF, gm_gA_sA, if_neg (by omega), if_neg (show ¬ j = i by omega)]
      exact hG j (by omega) j2
    have hE4 : gn_Eb M3 (gm_sF (gm_sA M3 151 i q.1) 927 148 q.2) := ⟨hy.1, fun f o z => by rw [gm_gF_sF, if_neg (by omega)]; rfl, fun a j x y z => by rw [gm_gA_sF, gm_gA_sA, if_neg (by omega)]⟩
    rcases gn_am01 M q.1 with z | z
    · rw [z] at e6
      rw [if_pos z]
      rcases ha with rfl | rfl
      · obtain ⟨M5, hE5, hS5, h01, e7⟩ := ih (f + 1) (i + 1) (fun j => if j = i then q.1 else W j, q.2, 0) _ hS4 hG4 (Or.inl rfl) (by omega) (by omega) (by omega)
        refine ⟨M5, hE4.tr hE5, hS5, h01, ?_⟩
        rw [← e7, xX9_goBig_3]
        simp (config := { maxSteps := 2000000 }) (disch := first | omega | assumption | (simp only [gm_isO_sF, gm_isO_sA, gm_isO_cp]; assumption)) only [gm_push, gm_iload, gm_lload, gm_aload, gm_istore, gm_astore, gm_iinc, gm_op2, gm_quo, gm_op1, gm_lop2, gm_lshl, gm_i2l, gm_l2i, gm_lcmp, gm_dup, gm_pop1, gm_dup2, gm_goto, gm_ifeq, gm_ifne, gm_iflt, gm_ifge, gm_ifgt, gm_ifle, gm_ceq, gm_cne, gm_clt, gm_cge, gm_cgt, gm_cle, gm_ifnull, gm_ifnonnull, gm_swk, gm_switch, gm_getI, gm_getR, gm_putI, gm_putZ, gm_putR, gm_new, gm_newarr, gm_iald, gm_cald, gm_zald, gm_lald, gm_aald, gm_iast, gm_cast, gm_zast, gm_last, gm_aast, gm_acp, gm_oinit, gm_back, gm_scall, gm_vcall, gm_iret, gm_zret, gm_cret, gm_lret, gm_aret, gm_vret, gm_slen, gm_schar, gm_sidx, gm_lget, gm_lset, gm_nl, gm_ent, gm_wd, gm_pop, gm_pad, gm_xl_c, gm_alen_u, gm_1_sF, gm_1_sA, gm_1_cp, gm_len_sF, gm_len_sA, gm_len_cp, Bool.or_true, Bool.true_or, gm_max_u, gm_min_u, gm_isO_sF, gm_isO_sA, gm_isO_cp, gm_gF_sF, gm_gF_sA, gm_gA_sF, gm_gA_sA, gm_gF_cp, gm_gA_cp, gm_add, gm_sub, gm_mul, gm_neg, ↓reduceIte, Nat.reduceAdd, Nat.reduceLeDiff, true_and, and_true, and_self, true_or, or_true, false_and, and_false, false_or, or_false, eq_self, Nat.reduceEqDiff, Int.reduceEq, Int.reduceLT, Int.reduceLE, Int.reduceNeg, Int.reduceAdd, Int.reduceSub, Int.reduceMul, Int.reduceDiv, Int.reduceMod, reduceCtorEq, if_true, if_false, gm_w_id, gm_l902, gm_l903, gm_l904, gm_l905, gm_l906, gm_l907, gm_l908, gm_l914, gm_l915, gm_l916, gm_l917, gm_l918, gm_l919, gm_l920, gm_l921, gm_l925, gm_l926, gm_l931, gm_l932, gm_l934, gm_l936, gm_l937, gm_l938, gm_l940, gm_l947, gm_l948, gm_l949, gm_l950, gm_l951, gm_l952, gm_l953, gm_l954, gm_l955, gm_l956, gm_l957, gm_l959, gm_l960, gm_l961, gm_l962, gm_l963, gm_z148, gm_z149, gm_z150, gm_z151, gm_z152, gm_z153, gm_z154, gm_z155, gm_z156, gm_z157, gm_z158, gm_z159, gm_z160, gm_z161, gm_z162, gm_z163, gm_z164, gm_z165, gm_z166, gm_z167, gm_z168, gm_z169, gm_z170, gm_z171, gm_z172, gm_z173, gm_z174, gm_z175, gm_z176, gm_z177, gm_z178, gm_z179, gm_z180, gm_z181, gm_z182, gm_z183, gm_z184, gm_z185, gm_z186, gm_z187, gm_z188, gn_i149, gn_i150, gn_i151, gn_i152, gn_i153, gn_i154, gn_i155, gn_i156, gn_i157, gn_i158, gn_i159, gn_i160, gn_i161, gn_i162, gn_i163, gn_i164, gn_i165, gn_i166, gn_i167, gn_i168, gn_i169, gn_i170, gn_i171, gn_i172, gn_i173, gn_i174, gn_i175, gn_i176, gn_i177, gn_i178, gn_i179, gn_i180, gn_i181, gn_i182, gn_i183, gn_i184, gn_i185, gn_i186, gn_i187, gn_i188, xX9_goBig_0, xX9_goBig_1, xX9_goBig_2, xX9_goBig_4, xX9_goBig_5, xX9_goBig_6, xX9_goBig_7, hh, hi', w1, g1, e1, e2, a3, e5, e6]
      · obtain ⟨M5, hE5, hS5, h01, e7⟩ := ih (f + 1) (i + 1) (fun j => if j = i then q.1 else W j, q.2, 1) _ hS4 hG4 (Or.inr rfl) (by omega) (by omega) (by omega)
        refine ⟨M5, hE4.tr hE5, hS5, h01, ?_⟩
        rw [← e7, xX9_goBig_3]
        simp (config := { maxSteps := 2000000 }) (disch := first | omega | assumption | (simp only [gm_isO_sF, gm_isO_sA, gm_isO_cp]; assumption)) only [gm_push, gm_iload, gm_lload, gm_aload, gm_istore, gm_astore, gm_iinc, gm_op2, gm_quo, gm_op1, gm_lop2, gm_lshl, gm_i2l, gm_l2i, gm_lcmp, gm_dup, gm_pop1, gm_dup2, gm_goto, gm_ifeq, gm_ifne, gm_iflt, gm_ifge, gm_ifgt, gm_ifle, gm_ceq, gm_cne, gm_clt, gm_cge, gm_cgt, gm_cle, gm_ifnull, gm_ifnonnull, gm_swk, gm_switch, gm_getI, gm_getR, gm_putI, gm_putZ, gm_putR, gm_new, gm_newarr, gm_iald, gm_cald, gm_zald, gm_lald, gm_aald, gm_iast, gm_cast, gm_zast, gm_last, gm_aast, gm_acp, gm_oinit, gm_back, gm_scall, gm_vcall, gm_iret, gm_zret, gm_cret, gm_lret, gm_aret, gm_vret, gm_slen, gm_schar, gm_sidx, gm_lget, gm_lset, gm_nl, gm_ent, gm_wd, gm_pop, gm_pad, gm_xl_c, gm_alen_u, gm_1_sF, gm_1_sA, gm_1_cp, gm_len_sF, gm_len_sA, gm_len_cp, Bool.or_true, Bool.true_or, gm_max_u, gm_min_u, gm_isO_sF, gm_isO_sA, gm_isO_cp, gm_gF_sF, gm_gF_sA, gm_gA_sF, gm_gA_sA, gm_gF_cp, gm_gA_cp, gm_add, gm_sub, gm_mul, gm_neg, ↓reduceIte, Nat.reduceAdd, Nat.reduceLeDiff, true_and, and_true, and_self, true_or, or_true, false_and, and_false, false_or, or_false, eq_self, Nat.reduceEqDiff, Int.reduceEq, Int.reduceLT, Int.reduceLE, Int.reduceNeg, Int.reduceAdd, Int.reduceSub, Int.reduceMul, Int.reduceDiv, Int.reduceMod, reduceCtorEq, if_true, if_false, gm_w_id, gm_l902, gm_l903, gm_l904, gm_l905, gm_l906, gm_l907, gm_l908, gm_l914, gm_l915, gm_l916, gm_l917, gm_l918, gm_l919, gm_l920, gm_l921, gm_l925, gm_l926, gm_l931, gm_l932, gm_l934, gm_l936, gm_l937, gm_l938, gm_l940, gm_l947, gm_l948, gm_l949, gm_l950, gm_l951, gm_l952, gm_l953, gm_l954, gm_l955, gm_l956, gm_l957, gm_l959, gm_l960, gm_l961, gm_l962, gm_l963, gm_z148, gm_z149, gm_z150, gm_z151, gm_z152, gm_z153, gm_z154, gm_z155, gm_z156, gm_z157, gm_z158, gm_z159, gm_z160, gm_z161, gm_z162, gm_z163, gm_z164, gm_z165, gm_z166, gm_z167, gm_z168, gm_z169, gm_z170, gm_z171, gm_z172, gm_z173, gm_z174, gm_z175, gm_z176, gm_z177, gm_z178, gm_z179, gm_z180, gm_z181, gm_z182, gm_z183, gm_z184, gm_z185, gm_z186, gm_z187, gm_z188, gn_i149, gn_i150, gn_i151, gn_i152, gn_i153, gn_i154, gn_i155, gn_i156, gn_i157, gn_i158, gn_i159, gn_i160, gn_i161, gn_i162, gn_i163, gn_i164, gn_i165, gn_i166, gn_i167, gn_i168, gn_i169, gn_i170, gn_i171, gn_i172, gn_i173, gn_i174, gn_i175, gn_i176, gn_i177, gn_i178, gn_i179, gn_i180, gn_i181, gn_i182, gn_i183, gn_i184, gn_i185, gn_i186, gn_i187, gn_i188, xX9_goBig_0, xX9_goBig_1, xX9_goBig_2, xX9_goBig_4, xX9_goBig_5, xX9_goBig_6, xX9_goBig_7, hh, hi', w1, g1, e1, e2, a3, e5, e6]
    · rw [z] at e6
      rw [if_neg (by rw [z]; decide)]
      obtain ⟨M5, hE5, hS5, h01, e7⟩ := ih (f + 1) (i + 1) (fun j => if j = i then q.1 else W j, q.2, 1) _ hS4 hG4 (Or.inr rfl) (by omega) (by omega) (by omega)
      refine ⟨M5, hE4.tr hE5, hS5, h01, ?_⟩
      rw [← e7, xX9_goBig_3]
      simp (config := { maxSteps := 2000000 }) (disch := first | omega | assumption | (simp only [gm_isO_sF, gm_isO_sA, gm_isO_cp]; assumption)) only [gm_push, gm_iload, gm_lload, gm_aload, gm_istore, gm_astore, gm_iinc, gm_op2, gm_quo, gm_op1, gm_lop2, gm_lshl, gm_i2l, gm_l2i, gm_lcmp, gm_dup, gm_pop1, gm_dup2, gm_goto, gm_ifeq, gm_ifne, gm_iflt, gm_ifge, gm_ifgt, gm_ifle, gm_ceq, gm_cne, gm_clt, gm_cge, gm_cgt, gm_cle, gm_ifnull, gm_ifnonnull, gm_swk, gm_switch, gm_getI, gm_getR, gm_putI, gm_putZ, gm_putR, gm_new, gm_newarr, gm_iald, gm_cald, gm_zald, gm_lald, gm_aald, gm_iast, gm_cast, gm_zast, gm_last, gm_aast, gm_acp, gm_oinit, gm_back, gm_scall, gm_vcall, gm_iret, gm_zret, gm_cret, gm_lret, gm_aret, gm_vret, gm_slen, gm_schar, gm_sidx, gm_lget, gm_lset, gm_nl, gm_ent, gm_wd, gm_pop, gm_pad, gm_xl_c, gm_alen_u, gm_1_sF, gm_1_sA, gm_1_cp, gm_len_sF, gm_len_sA, gm_len_cp, Bool.or_true, Bool.true_or, gm_max_u, gm_min_u, gm_isO_sF, gm_isO_sA, gm_isO_cp, gm_gF_sF, gm_gF_sA, gm_gA_sF, gm_gA_sA, gm_gF_cp, gm_gA_cp, gm_add, gm_sub, gm_mul, gm_neg, ↓reduceIte, Nat.reduceAdd, Nat.reduceLeDiff, true_and, and_true, and_self, true_or, or_true, false_and, and_false, false_or, or_false, eq_self, Nat.reduceEqDiff, Int.reduceEq, Int.reduceLT, Int.reduceLE, Int.reduceNeg, Int.reduceAdd, Int.reduceSub, Int.reduceMul, Int.reduceDiv, Int.reduceMod, reduceCtorEq, if_true, if_false, gm_w_id, gm_l902, gm_l903, gm_l904, gm_l905, gm_l906, gm_l907, gm_l908, gm_l914, gm_l915, gm_l916, gm_l917, gm_l918, gm_l919, gm_l920, gm_l921, gm_l925, gm_l926, gm_l931, gm_l932, gm_l934, gm_l936, gm_l937, gm_l938, gm_l940, gm_l947, gm_l948, gm_l949, gm_l950, gm_l951, gm_l952, gm_l953, gm_l954, gm_l955, gm_l956, gm_l957, gm_l959, gm_l960, gm_l961, gm_l962, gm_l963, gm_z148, gm_z149, gm_z150, gm_z151, gm_z152, gm_z153, gm_z154, gm_z155, gm_z156, gm_z157, gm_z158, gm_z159, gm_z160, gm_z161, gm_z162, gm_z163, gm_z164, gm_z165, gm_z166, gm_z167, gm_z168, gm_z169, gm_z170, gm_z171, gm_z172, gm_z173, gm_z174, gm_z175, gm_z176, gm_z177, gm_z178, gm_z179, gm_z180, gm_z181, gm_z182, gm_z183, gm_z184, gm_z185, gm_z186, gm_z187, gm_z188, gn_i149, gn_i150, gn_i151, gn_i152, gn_i153, gn_i154, gn_i155, gn_i156, gn_i157, gn_i158, gn_i159, gn_i160, gn_i161, gn_i162, gn_i163, gn_i164, gn_i165, gn_i166, gn_i167, gn_i168, gn_i169, gn_i170, gn_i171, gn_i172, gn_i173, gn_i174, gn_i175, gn_i176, gn_i177, gn_i178, gn_i179, gn_i180, gn_i181, gn_i182, gn_i183, gn_i184, gn_i185, gn_i186, gn_i187, gn_i188, xX9_goBig_0, xX9_goBig_1, xX9_goBig_2, xX9_goBig_4, xX9_goBig_5, xX9_goBig_6, xX9_goBig_7, hh, hi', w1, g1, e1, e2, a3, e5, e6]
theorem gn_Bs.B {M M3 : gm_M} {day B v : Int} {W : Int → Int} (hS : gn_Bs M M3 day W B) (hv : 0 ≤ v ∧ v ≤ 5000) : gn_Bs M (gm_sF M3 927 148 v) day W v := by
  obtain ⟨a1, a2, a3, a4, a5, ⟨c1, c2, c3, c4⟩, a7⟩ := hS
  refine ⟨⟨a1.1.sF _ _ _ (by decide), fun f o z => by rw [gm_gF_sF, if_neg (by omega)]; exact a1.2.1 f o z, a1.2.2⟩, ?_, ?_, a4, hv, ⟨?_, ?_, ?_, c4⟩, a7⟩
  · rw [gm_gF_sF, if_neg (by omega)]; exact a2
  · rw [gm_gF_sF, if_pos ⟨rfl, rfl⟩]
  · rw [gm_gF_sF, if_neg (by omega)]; exact c1
  · rw [gm_gF_sF, if_neg (by omega)]; exact c2
  · rw [gm_gF_sF, if_neg (by omega)]; exact c3
theorem r_X9_goBig (d : Nat) {M M3 : gm_M} (hI : gn_Inv M) {day B room lk : Int} {W : Int → Int} (hr : 0 ≤ room ∧ room ≤ 5000) (hl : 0 ≤ lk ∧ lk ≤ 100) (hdy : day < 90000) (hS : gn_Bs M M3 day W B) {r : (Int → Int) × Int × Int} (hrr : gn_bgl M room B day (gm_many M).toNat 0 (W, max 0 (B - lk), 0) = r) :
    ∃ M4, gn_Eb M3 M4 ∧ gn_Bs M M4 (day + 1) r.1 r.2.1 ∧ (r.2.2 = 0 ∨ r.2.2 = 1) ∧ gm_go (d + 6) 151 [.inr (.inr 148), .inl room, .inl lk] M3 = some (some (.inl r.2.2), M4) := by
  have hm : 0 ≤ gm_many M ∧ gm_many M ≤ 6 := hI.2.1.1
  have hL := hS.1.1
  have hB := hS.2.2.2.2.1
  obtain ⟨M4, ⟨q1, q2, q3⟩, hG, e1⟩ := r_X9_goBig_1 d hI room lk (gm_many M).toNat (99998 - (gm_many M).toNat) 0 none M3 hS (fun j j1 j2 => by omega) (by omega) (by omega)
  have hS4 := hS.e q1 q2 q3
  have hv : 0 ≤ max 0 (B - lk) ∧ max 0 (B - lk) ≤ 5000 := by omega
  have hS5 := hS4.B hv
  have em := r_X9_most (d + 4) 0 (B - lk) M4 ⟨by decide, by decide⟩ ⟨by omega, by omega⟩
  have b4 := hS4.2.2.1
  obtain ⟨M5, hE5, hS6, h01, e5⟩ := r_X9_goBig_3 d hI lk hr hB hdy (gm_many M).toNat (99997 - (gm_many M).toNat) 0 (W, max 0 (B - lk), 0) _ hS5 (fun j j1 j2 => hG j (by omega) j2) (Or.inl rfl) (by omega) (by omega) (by omega)
  rw [hrr] at hS6 h01 e5
  refine ⟨M5, ?_, hS6, h01, ?_⟩
  · refine gn_Eb.tr ⟨q1.sF 927 148 (max 0 (B - lk)) (by decide), fun f o z => ?_, fun a i x y _ => q3 a i x y⟩ hE5
    rw [gm_gF_sF, if_neg (by omega)]; exact q2 f o
  · rw [eX9_goBig _ _ _ (Nat.le_of_ble_eq_true rfl), xX9_goBig_0]
    simp (config := { maxSteps := 2000000 }) (disch := first | omega | assumption | (simp only [gm_isO_sF, gm_isO_sA, gm_isO_cp]; assumption)) only [gm_push, gm_iload, gm_lload, gm_aload, gm_istore, gm_astore, gm_iinc, gm_op2, gm_quo, gm_op1, gm_lop2, gm_lshl, gm_i2l, gm_l2i, gm_lcmp, gm_dup, gm_pop1, gm_dup2, gm_goto, gm_ifeq, gm_ifne, gm_iflt, gm_ifge, gm_ifgt, gm_ifle, gm_ceq, gm_cne, gm_clt, gm_cge, gm_cgt, gm_cle, gm_ifnull, gm_ifnonnull, gm_swk, gm_switch, gm_getI, gm_getR, gm_putI, gm_putZ, gm_putR, gm_new, gm_newarr, gm_iald, gm_cald, gm_zald, gm_lald, gm_aald, gm_iast, gm_cast, gm_zast, gm_last, gm_aast, gm_acp, gm_oinit, gm_back, gm_scall, gm_vcall, gm_iret, gm_zret, gm_cret, gm_lret, gm_aret, gm_vret, gm_slen, gm_schar, gm_sidx, gm_lget, gm_lset, gm_nl, gm_ent, gm_wd, gm_pop, gm_pad, gm_xl_c, gm_alen_u, gm_1_sF, gm_1_sA, gm_1_cp, gm_len_sF, gm_len_sA, gm_len_cp, Bool.or_true, Bool.true_or, gm_max_u, gm_min_u, gm_isO_sF, gm_isO_sA, gm_isO_cp, gm_gF_sF, gm_gF_sA, gm_gA_sF, gm_gA_sA, gm_gF_cp, gm_gA_cp, gm_add, gm_sub, gm_mul, gm_neg, ↓reduceIte, Nat.reduceAdd, Nat.reduceLeDiff, true_and, and_true, and_self, true_or, or_true, false_and, and_false, false_or, or_false, eq_self, Nat.reduceEqDiff, Int.reduceEq, Int.reduceLT, Int.reduceLE, Int.reduceNeg, Int.reduceAdd, Int.reduceSub, Int.reduceMul, Int.reduceDiv, Int.reduceMod, reduceCtorEq, if_true, if_false, gm_w_id, gm_l902, gm_l903, gm_l904, gm_l905, gm_l906, gm_l907, gm_l908, gm_l914, gm_l915, gm_l916, gm_l917, gm_l918, gm_l919, gm_l920, gm_l921, gm_l925, gm_l926, gm_l931, gm_l932, gm_l934, gm_l936, gm_l937, gm_l938, gm_l940, gm_l947, gm_l948, gm_l949, gm_l950, gm_l951, gm_l952, gm_l953, gm_l954, gm_l955, gm_l956, gm_l957, gm_l959, gm_l960, gm_l961, gm_l962, gm_l963, gm_z148, gm_z149, gm_z150, gm_z151, gm_z152, gm_z153, gm_z154, gm_z155, gm_z156, gm_z157, gm_z158, gm_z159, gm_z160, gm_z161, gm_z162, gm_z163, gm_z164, gm_z165, gm_z166, gm_z167, gm_z168, gm_z169, gm_z170, gm_z171, gm_z172, gm_z173, gm_z174, gm_z175, gm_z176, gm_z177, gm_z178, gm_z179, gm_z180, gm_z181, gm_z182, gm_z183, gm_z184, gm_z185, gm_z186, gm_z187, gm_z188, gn_i149, gn_i150, gn_i151, gn_i152, gn_i153, gn_i154, gn_i155, gn_i156, gn_i157, gn_i158, gn_i159, gn_i160, gn_i161, gn_i162, gn_i163, gn_i164, gn_i165, gn_i166, gn_i167, gn_i168, gn_i169, gn_i170, gn_i171, gn_i172, gn_i173, gn_i174, gn_i175, gn_i176, gn_i177, gn_i178, gn_i179, gn_i180, gn_i181, gn_i182, gn_i183, gn_i184, gn_i185, gn_i186, gn_i187, gn_i188]
    have h9 : 99999 = 99998 - (gm_many M).toNat + ((gm_many M).toNat + 1) := by omega
    rw [h9, e1, show 99998 - (gm_many M).toNat = (99997 - (gm_many M).toNat) + 1 by omega, xX9_goBig_2]
    generalize max 0 (B - lk) = V at *
    have hL4 := q1
    simp (config := { maxSteps := 2000000 }) (disch := first | omega | assumption | (simp only [gm_isO_sF, gm_isO_sA, gm_isO_cp]; assumption)) only [gm_push, gm_iload, gm_lload, gm_aload, gm_istore, gm_astore, gm_iinc, gm_op2, gm_quo, gm_op1, gm_lop2, gm_lshl, gm_i2l, gm_l2i, gm_lcmp, gm_dup, gm_pop1, gm_dup2, gm_goto, gm_ifeq, gm_ifne, gm_iflt, gm_ifge, gm_ifgt, gm_ifle, gm_ceq, gm_cne, gm_clt, gm_cge, gm_cgt, gm_cle, gm_ifnull, gm_ifnonnull, gm_swk, gm_switch, gm_getI, gm_getR, gm_putI, gm_putZ, gm_putR, gm_new, gm_newarr, gm_iald, gm_cald, gm_zald, gm_lald, gm_aald, gm_iast, gm_cast, gm_zast, gm_last, gm_aast, gm_acp, gm_oinit, gm_back, gm_scall, gm_vcall, gm_iret, gm_zret, gm_cret, gm_lret, gm_aret, gm_vret, gm_slen, gm_schar, gm_sidx, gm_lget, gm_lset, gm_nl, gm_ent, gm_wd, gm_pop, gm_pad, gm_xl_c, gm_alen_u, gm_1_sF, gm_1_sA, gm_1_cp, gm_len_sF, gm_len_sA, gm_len_cp, Bool.or_true, Bool.true_or, gm_max_u, gm_min_u, gm_isO_sF, gm_isO_sA, gm_isO_cp, gm_gF_sF, gm_gF_sA, gm_gA_sF, gm_gA_sA, gm_gF_cp, gm_gA_cp, gm_add, gm_sub, gm_mul, gm_neg, ↓reduceIte, Nat.reduceAdd, Nat.reduceLeDiff, true_and, and_true, and_self, true_or, or_true, false_and, and_false, false_or, or_false, eq_self, Nat.reduceEqDiff, Int.reduceEq, Int.reduceLT, Int.reduceLE, Int.reduceNeg, Int.reduceAdd, Int.reduceSub, Int.reduceMul, Int.reduceDiv, Int.reduceMod, reduceCtorEq, if_true, if_false, gm_w_id, gm_l902, gm_l903, gm_l904, gm_l905, gm_l906, gm_l907, gm_l908, gm_l914, gm_l915, gm_l916, gm_l917, gm_l918, gm_l919, gm_l920, gm_l921, gm_l925, gm_l926, gm_l931, gm_l932, gm_l934, gm_l936, gm_l937, gm_l938, gm_l940, gm_l947, gm_l948, gm_l949, gm_l950, gm_l951, gm_l952, gm_l953, gm_l954, gm_l955, gm_l956, gm_l957, gm_l959, gm_l960, gm_l961, gm_l962, gm_l963, gm_z148, gm_z149, gm_z150, gm_z151, gm_z152, gm_z153, gm_z154, gm_z155, gm_z156, gm_z157, gm_z158, gm_z159, gm_z160, gm_z161, gm_z162, gm_z163, gm_z164, gm_z165, gm_z166, gm_z167, gm_z168, gm_z169, gm_z170, gm_z171, gm_z172, gm_z173, gm_z174, gm_z175, gm_z176, gm_z177, gm_z178, gm_z179, gm_z180, gm_z181, gm_z182, gm_z183, gm_z184, gm_z185, gm_z186, gm_z187, gm_z188, gn_i149, gn_i150, gn_i151, gn_i152, gn_i153, gn_i154, gn_i155, gn_i156, gn_i157, gn_i158, gn_i159, gn_i160, gn_i161, gn_i162, gn_i163, gn_i164, gn_i165, gn_i166, gn_i167, gn_i168, gn_i169, gn_i170, gn_i171, gn_i172, gn_i173, gn_i174, gn_i175, gn_i176, gn_i177, gn_i178, gn_i179, gn_i180, gn_i181, gn_i182, gn_i183, gn_i184, gn_i185, gn_i186, gn_i187, gn_i188, b4, em, e5]
