/-! STEPS: act -/
/-- a memory with such a trace -/
def gn_T (rw cl : Int) (fd : Nat) (M : gm_M) (L : List Int) : gm_M := (M.1, fun f o => if f = fd ∧ o = cl then (L.length : Int) else M.2.1 f o, fun a i => if a = rw ∧ 0 ≤ i ∧ i < (L.length : Int) then L.getD i.toNat 0 else M.2.2 a i)
theorem gn_T_F (rw cl : Int) (fd : Nat) (M : gm_M) (L : List Int) (f : Nat) (o : Int) : gm_gF (gn_T rw cl fd M L) f o = if f = fd ∧ o = cl then (L.length : Int) else gm_gF M f o := rfl
theorem gn_T_A (rw cl : Int) (fd : Nat) (M : gm_M) (L : List Int) (a i : Int) : gm_gA (gn_T rw cl fd M L) a i = if a = rw ∧ 0 ≤ i ∧ i < (L.length : Int) then L.getD i.toNat 0 else gm_gA M a i := rfl
theorem gn_T_O (rw cl : Int) (fd : Nat) (M : gm_M) (L : List Int) (c : Nat) (q : Int) : gm_isO c (gn_T rw cl fd M L) q = gm_isO c M q := rfl
theorem gn_T_Lay {rw cl : Int} {fd : Nat} {M : gm_M} (L : List Int) (h : gm_Lay M) (hf : fd ∉ gm_rfs) (hr : rw ∉ ([3, 27, 51, 90, 93] : List Int)) : gm_Lay (gn_T rw cl fd M L) := ⟨h.1, fun q hq => by
  have h1 := gm_lay_rf q hq
  rw [gn_T_F, if_neg (by rintro ⟨rfl, -⟩; exact hf h1)]
  exact h.2.1 q hq, fun q hq => by
  have h1 := gm_lay_ra q hq
  rw [gn_T_A, if_neg (by intro z; exact hr (z.1 ▸ h1))]
  exact h.2.2 q hq⟩
theorem gn_T_s (rw cl : Int) (fd : Nat) (M : gm_M) (L : List Int) (b : Int) : gm_sF (gm_sA (gn_T rw cl fd M L) rw (L.length : Int) b) fd cl ((L.length : Int) + 1) = gn_T rw cl fd M (L ++ [b]) := by
  have hl : (((L ++ [b]).length : Nat) : Int) = (L.length : Int) + 1 := by simp
  have e1 : (gm_sF (gm_sA (gn_T rw cl fd M L) rw (L.length : Int) b) fd cl ((L.length : Int) + 1)).2.1 = (gn_T rw cl fd M (L ++ [b])).2.1 := by
    funext f o
    have h1 := gm_gF_sF (gm_sA (gn_T rw cl fd M L) rw (L.length : Int) b) fd cl ((L.length : Int) + 1) f o
    have h2 := gn_T_F rw cl fd M (L ++ [b]) f o
    have h3 := gn_T_F rw cl fd M L f o
    rw [gm_gF_sA, h3] at h1
    unfold gm_gF at h1 h2
    rw [h1, h2, hl]
    by_cases c : f = fd ∧ o = cl
    · rw [if_pos c, if_pos c]
    · rw [if_neg c, if_neg c, if_neg c]
  have e2 : (gm_sF (gm_sA (gn_T rw cl fd M L) rw (L.length : Int) b) fd cl ((L.length : Int) + 1)).2.2 = (gn_T rw cl fd M (L ++ [b])).2.2 := by
    funext a i
    have h1 : gm_gA (gm_sF (gm_sA (gn_T rw cl fd M L) rw (L.length : Int) b) fd cl ((L.length : Int) + 1)) a i = if a = rw ∧ i = (L.length : Int) then b else gm_gA (gn_T rw cl fd M L) a i := by
      rw [gm_gA_sF, gm_gA_sA]
    have h2 := gn_T_A rw cl fd M (L ++ [b]) a i
    have h3 := gn_T_A rw cl fd M L a i
    rw [h3] at h1
    unfold gm_gA at h1 h2
    rw [h1, h2, hl]
    by_cases c : a = rw ∧ i = (L.length : Int)
    · rw [if_pos c, if_pos (by omega), c.2]
      simp
    · rw [if_neg c]
      by_cases c2 : a = rw ∧ 0 ≤ i ∧ i < (L.length : Int)
      · rw [if_pos c2, if_pos (by omega)]
        have : i.toNat < L.length := by omega
        simp [List.getD, List.getElem?_append_left this]
      · rw [if_neg c2, if_neg (by omega)]
  have e0 : (gm_sF (gm_sA (gn_T rw cl fd M L) rw (L.length : Int) b) fd cl ((L.length : Int) + 1)).1 = (gn_T rw cl fd M (L ++ [b])).1 := rfl
  exact Prod.ext e0 (Prod.ext e1 e2)
/-- the body that a kind has for an act -/
def gn_bdy (k a : Int) : Int := if a = 0 then (if k = 2 ∨ k = 5 then 30 else if k = 4 then 50 else if k = 6 then 71 else 10) else if a = 1 then (if k = 1 then 20 else if k = 4 then 51 else if k = 6 then 70 else 11) else (if k = 3 ∨ k = 6 then 40 else if k = 5 then 60 else 12)
theorem r_X3_call (d : Nat) {o k a x dep v : Int} {M M2 : gm_M} (hA : ∀ i, gm_gA M 1000 i = gm_abv i) (hB : ∀ i, gm_gA M 1001 i = gm_bod i) (h91 : gm_isO 3 M 91 = true) (hk : 0 ≤ k ∧ k ≤ 6) (ha : 0 ≤ a ∧ a ≤ 2) (hd : 0 ≤ dep ∧ dep < 40) (hr : gm_go d 24 [.inr (.inr 91), .inl (gn_bdy k a), .inr (.inr o), .inl x, .inl (dep + 1)] M = some (some (.inl v), M2)) : gm_go (d + 1) 23 [.inr (.inr 91), .inr (.inr o), .inl k, .inl a, .inl x, .inl dep] M = some (some (.inl v), M2) := by
  rw [eX3_call _ _ _ (Nat.le_of_ble_eq_true rfl)]
  have hl : gm_len M 1000 = 7 := rfl
  have ht : gm_isT 1000 = true := rfl
  have hl1 : gm_len M 1001 = 21 := rfl
  have ht1 : gm_isT 1001 = true := rfl
  have d2 := hd.2
  have p0 : gm_gA M 1000 0 = -1 := hA 0
  have p1 : gm_gA M 1000 1 = 0 := hA 1
  have p2 : gm_gA M 1000 2 = 0 := hA 2
  have p3 : gm_gA M 1000 3 = 0 := hA 3
  have p4 : gm_gA M 1000 4 = 1 := hA 4
  have p5 : gm_gA M 1000 5 = 2 := hA 5
  have p6 : gm_gA M 1000 6 = 3 := hA 6
  have b0 : gm_gA M 1001 0 = 10 := hB 0
  have b1 : gm_gA M 1001 1 = 11 := hB 1
  have b2 : gm_gA M 1001 2 = 12 := hB 2
  have b3 : gm_gA M 1001 3 = 0 := hB 3
  have b4 : gm_gA M 1001 4 = 20 := hB 4
  have b5 : gm_gA M 1001 5 = 0 := hB 5
  have b6 : gm_gA M 1001 6 = 30 := hB 6
  have b7 : gm_gA M 1001 7 = 0 := hB 7
  have b8 : gm_gA M 1001 8 = 0 := hB 8
  have b9 : gm_gA M 1001 9 = 0 := hB 9
  have b10 : gm_gA M 1001 10 = 0 := hB 10
  have b11 : gm_gA M 1001 11 = 40 := hB 11
  have b12 : gm_gA M 1001 12 = 50 := hB 12
  have b13 : gm_gA M 1001 13 = 51 := hB 13
  have b14 : gm_gA M 1001 14 = 0 := hB 14
  have b15 : gm_gA M 1001 15 = 0 := hB 15
  have b16 : gm_gA M 1001 16 = 0 := hB 16
  have b17 : gm_gA M 1001 17 = 60 := hB 17
  have b18 : gm_gA M 1001 18 = 71 := hB 18
  have b19 : gm_gA M 1001 19 = 70 := hB 19
  have b20 : gm_gA M 1001 20 = 0 := hB 20
  have hi0 : ∀ i, 0 ≤ i → i < 7 → gm_in M 1000 i = true := fun i i1 i2 => gm_inI hl i1 i2 (by decide)
  have hi1 : ∀ i, 0 ≤ i → i < 21 → gm_in M 1001 i = true := fun i i1 i2 => gm_inI hl1 i1 i2 (by decide)
  have h0 := hi0 0 (by decide) (by decide)
  have h1 := hi0 1 (by decide) (by decide)
  have h2 := hi0 2 (by decide) (by decide)
  have h3 := hi0 3 (by decide) (by decide)
  have h4 := hi0 4 (by decide) (by decide)
  have h5 := hi0 5 (by decide) (by decide)
  have h6 := hi0 6 (by decide) (by decide)
  have g0 := hi1 0 (by decide) (by decide)
  have g1 := hi1 1 (by decide) (by decide)
  have g2 := hi1 2 (by decide) (by decide)
  have g3 := hi1 3 (by decide) (by decide)
  have g4 := hi1 4 (by decide) (by decide)
  have g5 := hi1 5 (by decide) (by decide)
  have g6 := hi1 6 (by decide) (by decide)
  have g7 := hi1 7 (by decide) (by decide)
  have g8 := hi1 8 (by decide) (by decide)
  have g9 := hi1 9 (by decide) (by decide)
  have g10 := hi1 10 (by decide) (by decide)
  have g11 := hi1 11 (by decide) (by decide)
  have g12 := hi1 12 (by decide) (by decide)
  have g13 := hi1 13 (by decide) (by decide)
  have g14 := hi1 14 (by decide) (by decide)
  have g15 := hi1 15 (by decide) (by decide)
  have g16 := hi1 16 (by decide) (by decide)
  have g17 := hi1 17 (by decide) (by decide)
  have g18 := hi1 18 (by decide) (by decide)
  have g19 := hi1 19 (by decide) (by decide)
  have g20 := hi1 20 (by decide) (by decide)
  rcases (by omega : a = 0 ∨ a = 1 ∨ a = 2) with rfl | rfl | rfl <;> rcases (by omega : k = 0 ∨ k = 1 ∨ k = 2 ∨ k = 3 ∨ k = 4 ∨ k = 5 ∨ k = 6) with rfl | rfl | rfl | rfl | rfl | rfl | rfl <;>
    (simp only [gn_bdy, Int.reduceEq, ↓reduceIte, or_true, true_or, or_false, false_or, or_self] at hr
     simp (config := { maxSteps := 2000000 }) (disch := first | omega | assumption | (simp only [gm_isO_sF, gm_isO_sA, gm_isO_cp]; assumption)) only [gm_push, gm_iload, gm_lload, gm_aload, gm_istore, gm_astore, gm_iinc, gm_op2, gm_quo, gm_op1, gm_lop2, gm_lshl, gm_i2l, gm_l2i, gm_lcmp, gm_dup, gm_pop1, gm_dup2, gm_goto, gm_ifeq, gm_ifne, gm_iflt, gm_ifge, gm_ifgt, gm_ifle, gm_ceq, gm_cne, gm_clt, gm_cge, gm_cgt, gm_cle, gm_ifnull, gm_ifnonnull, gm_swk, gm_switch, gm_getI, gm_getR, gm_putI, gm_putZ, gm_putR, gm_new, gm_newarr, gm_iald, gm_cald, gm_zald, gm_lald, gm_aald, gm_iast, gm_cast, gm_zast, gm_last, gm_aast, gm_acp, gm_oinit, gm_back, gm_scall, gm_vcall, gm_iret, gm_zret, gm_cret, gm_lret, gm_aret, gm_vret, gm_slen, gm_schar, gm_sidx, gm_lget, gm_lset, gm_nl, gm_ent, gm_wd, gm_pop, gm_pad, gm_xl_c, gm_alen_u, gm_1_sF, gm_1_sA, gm_1_cp, gm_len_sF, gm_len_sA, gm_len_cp, Bool.or_true, Bool.true_or, gm_max_u, gm_min_u, gm_isO_sF, gm_isO_sA, gm_isO_cp, gm_gF_sF, gm_gF_sA, gm_gA_sF, gm_gA_sA, gm_gF_cp, gm_gA_cp, gm_add, gm_sub, gm_mul, gm_neg, ↓reduceIte, Nat.reduceAdd, Nat.reduceLeDiff, true_and, and_true, and_self, true_or, or_true, false_and, and_false, false_or, or_false, eq_self, Nat.reduceEqDiff, Int.reduceEq, Int.reduceLT, Int.reduceLE, Int.reduceNeg, Int.reduceAdd, Int.reduceSub, Int.reduceMul, Int.reduceDiv, Int.reduceMod, reduceCtorEq, if_true, if_false, gm_w_id, xX3_call_0, xX3_call_1, xX3_call_2, xX3_call_3, xX3_call_4, xX3_call_5, gm_alen_t, gm_iald, ht, hl, ht1, hl1, p0, p1, p2, p3, p4, p5, p6, b0, b1, b2, b3, b4, b5, b6, b7, b8, b9, b10, b11, b12, b13, b14, b15, b16, b17, b18, b19, b20, h0, h1, h2, h3, h4, h5, h6, g0, g1, g2, g3, g4, g5, g6, g7, g8, g9, g10, g11, g12, g13, g14, g15, g16, g17, g18, g19, g20, Bool.true_or, h91, d2, hr])
/-- what holds of the memory while acts run -/
def gn_Ah (M : gm_M) (o K V h : Int) : Prop := gm_Lay M ∧ gm_isO 2 M o = true ∧ (gm_gF M 200 o = h ∧ gm_gF M 201 o = K ∧ gm_gF M 202 o = V) ∧ (0 ≤ K ∧ K ≤ 6) ∧ (∀ i, gm_gA M 1000 i = gm_abv i) ∧ ∀ i, gm_gA M 1001 i = gm_bod i
theorem gn_Ah.c {M : gm_M} {o K V h : Int} (H : gn_Ah M o K V h) (d : Nat) (L : List Int) {k a x dep v : Int} {M2 : gm_M} (hk : 0 ≤ k ∧ k ≤ 6) (ha : 0 ≤ a ∧ a ≤ 2) (hd : 0 ≤ dep ∧ dep < 40) (hr : gm_go d 24 [.inr (.inr 91), .inl (gn_bdy k a), .inr (.inr o), .inl x, .inl (dep + 1)] (gn_T 92 91 301 M L) = some (some (.inl v), M2)) : gm_go (d + 1) 23 [.inr (.inr 91), .inr (.inr o), .inl k, .inl a, .inl x, .inl dep] (gn_T 92 91 301 M L) = some (some (.inl v), M2) :=
  r_X3_call d (fun i => (gn_T_A _ _ _ _ _ _ _).trans ((if_neg (by omega)).trans (H.2.2.2.2.1 i))) (fun i => (gn_T_A _ _ _ _ _ _ _).trans ((if_neg (by omega)).trans (H.2.2.2.2.2 i))) (show gm_isO 3 M 91 = true from gm_z91 H.1) hk ha hd hr
def gn_wa (K V h x : Int) : Int := if K = 2 ∨ K = 5 then x * 3 + h else if K = 4 then -(x + h) else if K = 6 then gm_xor (x + h) V else x + h
def gn_wl (K : Int) : List Int := if K = 2 ∨ K = 5 then [30, 10] else if K = 4 then [50, 10] else if K = 6 then [71, 10] else [10]
def gn_hv (K V h x : Int) : Int := gn_wa K V h x - V
def gn_sa (K V h x : Int) : Int := if K = 1 then gm_xor (gn_hv K V h x) 6 else if K = 4 then gm_xor (gn_hv K V h (x + 1)) 6 else if K = 6 then gn_hv K V h x + (2 + h) else gn_hv K V h x
def gn_sl (K : Int) : List Int := if K = 1 then 20 :: 11 :: gn_wl K else if K = 4 then 51 :: 20 :: 11 :: gn_wl K else if K = 6 then 70 :: 11 :: gn_wl K ++ [10] else 11 :: gn_wl K
def gn_ta (K V h x : Int) : Int := if K = 3 ∨ K = 6 then gn_sa K V h x * 2 + gn_sa K V h 1 else if K = 5 then gn_sa K V h (x - h) * 2 else gn_sa K V h x * 2
def gn_tl (K : Int) : List Int := if K = 3 ∨ K = 6 then 40 :: 12 :: gn_sl K ++ gn_sl K else if K = 5 then 60 :: 12 :: gn_sl K else 12 :: gn_sl K
theorem gn_wl_n (K : Int) : (gn_wl K).length ≤ 2 := by unfold gn_wl; (repeat' split) <;> simp
theorem gn_sl_n (K : Int) : (gn_sl K).length ≤ 5 := by
  have := gn_wl_n K
  unfold gn_sl
  (repeat' split) <;> simp <;> omega
theorem gn_tl_n (K : Int) : (gn_tl K).length ≤ 12 := by
  have := gn_sl_n K
  unfold gn_tl
  (repeat' split) <;> simp <;> omega
theorem gn_Ah.b10 {M : gm_M} {o K V h : Int} (H : gn_Ah M o K V h) (d : Nat) (L : List Int) {x dep : Int} (hl : L.length ≤ 19) : gm_go (d + 1) 24 [.inr (.inr 91), .inl 10, .inr (.inr o), .inl x, .inl dep] (gn_T 92 91 301 M L) = some (some (.inl (x + h)), gn_T 92 91 301 M (L ++ [10])) := by
  obtain ⟨hL, ho, ⟨f0, f1, f2⟩, hK, -, -⟩ := id H
  have z91 := gm_z91 hL
  have z92 := gm_z92 hL
  have l3 := gm_l300 hL
  have n92 : ∀ M' : gm_M, gm_len M' 92 = 20 := fun M' => gm_y92 M'
  have hn : (L.length : Int) < 20 := by omega
  have hin : gm_in (gn_T 92 91 301 M L) 92 (L.length : Int) = true := gm_inI (gm_y92 _) (by omega) hn (by decide)
  have ha3 := gm_alen_k 20 (by decide)
  have z92T : gm_isO 20 (gn_T 92 91 301 M L) 92 = true := z92
  have t3 : gm_gF (gn_T 92 91 301 M L) 301 91 = (L.length : Int) := rfl
  rw [eX3_runBody _ _ _ (Nat.le_of_ble_eq_true rfl)]
  simp (config := { maxSteps := 2000000 }) (disch := first | omega | assumption | (simp only [gm_isO_sF, gm_isO_sA, gm_isO_cp]; assumption)) only [gm_push, gm_iload, gm_lload, gm_aload, gm_istore, gm_astore, gm_iinc, gm_op2, gm_quo, gm_op1, gm_lop2, gm_lshl, gm_i2l, gm_l2i, gm_lcmp, gm_dup, gm_pop1, gm_dup2, gm_goto, gm_ifeq, gm_ifne, gm_iflt, gm_ifge, gm_ifgt, gm_ifle, gm_ceq, gm_cne, gm_clt, gm_cge, gm_cgt, gm_cle, gm_ifnull, gm_ifnonnull, gm_swk, gm_switch, gm_getI, gm_getR, gm_putI, gm_putZ, gm_putR, gm_new, gm_newarr, gm_iald, gm_cald, gm_zald, gm_lald, gm_aald, gm_iast, gm_cast, gm_zast, gm_last, gm_aast, gm_acp, gm_oinit, gm_back, gm_scall, gm_vcall, gm_iret, gm_zret, gm_cret, gm_lret, gm_aret, gm_vret, gm_slen, gm_schar, gm_sidx, gm_lget, gm_lset, gm_nl, gm_ent, gm_wd, gm_pop, gm_pad, gm_xl_c, gm_alen_u, gm_1_sF, gm_1_sA, gm_1_cp, gm_len_sF, gm_len_sA, gm_len_cp, Bool.or_true, Bool.true_or, gm_max_u, gm_min_u, gm_isO_sF, gm_isO_sA, gm_isO_cp, gm_gF_sF, gm_gF_sA, gm_gA_sF, gm_gA_sA, gm_gF_cp, gm_gA_cp, gm_add, gm_sub, gm_mul, gm_neg, ↓reduceIte, Nat.reduceAdd, Nat.reduceLeDiff, true_and, and_true, and_self, true_or, or_true, false_and, and_false, false_or, or_false, eq_self, Nat.reduceEqDiff, Int.reduceEq, Int.reduceLT, Int.reduceLE, Int.reduceNeg, Int.reduceAdd, Int.reduceSub, Int.reduceMul, Int.reduceDiv, Int.reduceMod, reduceCtorEq, if_true, if_false, gm_w_id, xX3_runBody_0, xX3_runBody_1, xX3_runBody_2, xX3_runBody_3, xX3_runBody_4, xX3_runBody_5, xX3_runBody_6, xX3_runBody_7, xX3_runBody_8, xX3_runBody_9, xX3_runBody_10, xX3_runBody_11, xX3_runBody_12, xX3_runBody_13, gm_iast, gn_T_O, gn_T_F, gn_T_s, z91, z92, l3, n92, hn, hin, ha3, t3, ho, f0, f1, f2]
theorem gn_Ah.w {M : gm_M} {o K V h : Int} (H : gn_Ah M o K V h) (d : Nat) (L : List Int) {k x dep : Int} (hk : k = 0 ∨ k = 1 ∨ k = 3) (hd : 0 ≤ dep ∧ dep < 40) (hl : L.length ≤ 19) : gm_go (d + 2) 23 [.inr (.inr 91), .inr (.inr o), .inl k, .inl 0, .inl x, .inl dep] (gn_T 92 91 301 M L) = some (some (.inl (x + h)), gn_T 92 91 301 M (L ++ [10])) := by
  refine H.c (d + 1) L (by omega) (by decide) hd ?_
  have : gn_bdy k 0 = 10 := by rcases hk with rfl | rfl | rfl <;> rfl
  rw [this]
  exact H.b10 d L hl
theorem gn_Ah.b30 {M : gm_M} {o K V h : Int} (H : gn_Ah M o K V h) (d : Nat) (L : List Int) {x dep : Int} (hd : 0 ≤ dep ∧ dep < 40) (hl : L.length ≤ 18) : gm_go (d + 3) 24 [.inr (.inr 91), .inl 30, .inr (.inr o), .inl x, .inl dep] (gn_T 92 91 301 M L) = some (some (.inl (x * 3 + h)), gn_T 92 91 301 M (L ++ [30] ++ [10])) := by
  obtain ⟨hL, ho, ⟨f0, f1, f2⟩, hK, -, -⟩ := id H
  have z91 := gm_z91 hL
  have z92 := gm_z92 hL
  have l3 := gm_l300 hL
  have n92 : ∀ M' : gm_M, gm_len M' 92 = 20 := fun M' => gm_y92 M'
  have hn : (L.length : Int) < 20 := by omega
  have hin : gm_in (gn_T 92 91 301 M L) 92 (L.length : Int) = true := gm_inI (gm_y92 _) (by omega) hn (by decide)
  have ha3 := gm_alen_k 20 (by decide)
  have z92T : gm_isO 20 (gn_T 92 91 301 M L) 92 = true := z92
  have t3 : gm_gF (gn_T 92 91 301 M L) 301 91 = (L.length : Int) := rfl
  have e := H.w d (L ++ [30]) (k := 0) (x := x * 3) (dep := dep) (Or.inl rfl) hd (by simp; omega)
  rw [eX3_runBody _ _ _ (Nat.le_of_ble_eq_true rfl)]
  simp (config := { maxSteps := 2000000 }) (disch := first | omega | assumption | (simp only [gm_isO_sF, gm_isO_sA, gm_isO_cp]; assumption)) only [gm_push, gm_iload, gm_lload, gm_aload, gm_istore, gm_astore, gm_iinc, gm_op2, gm_quo, gm_op1, gm_lop2, gm_lshl, gm_i2l, gm_l2i, gm_lcmp, gm_dup, gm_pop1, gm_dup2, gm_goto, gm_ifeq, gm_ifne, gm_iflt, gm_ifge, gm_ifgt, gm_ifle, gm_ceq, gm_cne, gm_clt, gm_cge, gm_cgt, gm_cle, gm_ifnull, gm_ifnonnull, gm_swk, gm_switch, gm_getI, gm_getR, gm_putI, gm_putZ, gm_putR, gm_new, gm_newarr, gm_iald, gm_cald, gm_zald, gm_lald, gm_aald, gm_iast, gm_cast, gm_zast, gm_last, gm_aast, gm_acp, gm_oinit, gm_back, gm_scall, gm_vcall, gm_iret, gm_zret, gm_cret, gm_lret, gm_aret, gm_vret, gm_slen, gm_schar, gm_sidx, gm_lget, gm_lset, gm_nl, gm_ent, gm_wd, gm_pop, gm_pad, gm_xl_c, gm_alen_u, gm_1_sF, gm_1_sA, gm_1_cp, gm_len_sF, gm_len_sA, gm_len_cp, Bool.or_true, Bool.true_or, gm_max_u, gm_min_u, gm_isO_sF, gm_isO_sA, gm_isO_cp, gm_gF_sF, gm_gF_sA, gm_gA_sF, gm_gA_sA, gm_gF_cp, gm_gA_cp, gm_add, gm_sub, gm_mul, gm_neg, ↓reduceIte, Nat.reduceAdd, Nat.reduceLeDiff, true_and, and_true, and_self, true_or, or_true, false_and, and_false, false_or, or_false, eq_self, Nat.reduceEqDiff, Int.reduceEq, Int.reduceLT, Int.reduceLE, Int.reduceNeg, Int.reduceAdd, Int.reduceSub, Int.reduceMul, Int.reduceDiv, Int.reduceMod, reduceCtorEq, if_true, if_false, gm_w_id, xX3_runBody_0, xX3_runBody_1, xX3_runBody_2, xX3_runBody_3, xX3_runBody_4, xX3_runBody_5, xX3_runBody_6, xX3_runBody_7, xX3_runBody_8, xX3_runBody_9, xX3_runBody_10, xX3_runBody_11, xX3_runBody_12, xX3_runBody_13, gm_iast, gn_T_O, gn_T_F, gn_T_s, z91, z92, l3, n92, hn, hin, ha3, t3, ho, f0, f1, f2, e]
theorem gn_Ah.b50 {M : gm_M} {o K V h : Int} (H : gn_Ah M o K V h) (d : Nat) (L : List Int) {x dep : Int} (hd : 0 ≤ dep ∧ dep < 40) (hl : L.length ≤ 18) : gm_go (d + 3) 24 [.inr (.inr 91), .inl 50, .inr (.inr o), .inl x, .inl dep] (gn_T 92 91 301 M L) = some (some (.inl (-(x + h))), gn_T 92 91 301 M (L ++ [50] ++ [10])) := by
  obtain ⟨hL, ho, ⟨f0, f1, f2⟩, hK, -, -⟩ := id H
  have z91 := gm_z91 hL
  have z92 := gm_z92 hL
  have l3 := gm_l300 hL
  have n92 : ∀ M' : gm_M, gm_len M' 92 = 20 := fun M' => gm_y92 M'
  have hn : (L.length : Int) < 20 := by omega
  have hin : gm_in (gn_T 92 91 301 M L) 92 (L.length : Int) = true := gm_inI (gm_y92 _) (by omega) hn (by decide)
  have ha3 := gm_alen_k 20 (by decide)
  have z92T : gm_isO 20 (gn_T 92 91 301 M L) 92 = true := z92
  have t3 : gm_gF (gn_T 92 91 301 M L) 301 91 = (L.length : Int) := rfl
  have e := H.w d (L ++ [50]) (k := 1) (x := x) (dep := dep) (by decide) hd (by simp; omega)
  rw [eX3_runBody _ _ _ (Nat.le_of_ble_eq_true rfl)]
  simp (config := { maxSteps := 2000000 }) (disch := first | omega | assumption | (simp only [gm_isO_sF, gm_isO_sA, gm_isO_cp]; assumption)) only [gm_push, gm_iload, gm_lload, gm_aload, gm_istore, gm_astore, gm_iinc, gm_op2, gm_quo, gm_op1, gm_lop2, gm_lshl, gm_i2l, gm_l2i, gm_lcmp, gm_dup, gm_pop1, gm_dup2, gm_goto, gm_ifeq, gm_ifne, gm_iflt, gm_ifge, gm_ifgt, gm_ifle, gm_ceq, gm_cne, gm_clt, gm_cge, gm_cgt, gm_cle, gm_ifnull, gm_ifnonnull, gm_swk, gm_switch, gm_getI, gm_getR, gm_putI, gm_putZ, gm_putR, gm_new, gm_newarr, gm_iald, gm_cald, gm_zald, gm_lald, gm_aald, gm_iast, gm_cast, gm_zast, gm_last, gm_aast, gm_acp, gm_oinit, gm_back, gm_scall, gm_vcall, gm_iret, gm_zret, gm_cret, gm_lret, gm_aret, gm_vret, gm_slen, gm_schar, gm_sidx, gm_lget, gm_lset, gm_nl, gm_ent, gm_wd, gm_pop, gm_pad, gm_xl_c, gm_alen_u, gm_1_sF, gm_1_sA, gm_1_cp, gm_len_sF, gm_len_sA, gm_len_cp, Bool.or_true, Bool.true_or, gm_max_u, gm_min_u, gm_isO_sF, gm_isO_sA, gm_isO_cp, gm_gF_sF, gm_gF_sA, gm_gA_sF, gm_gA_sA, gm_gF_cp, gm_gA_cp, gm_add, gm_sub, gm_mul, gm_neg, ↓reduceIte, Nat.reduceAdd, Nat.reduceLeDiff, true_and, and_true, and_self, true_or, or_true, false_and, and_false, false_or, or_false, eq_self, Nat.reduceEqDiff, Int.reduceEq, Int.reduceLT, Int.reduceLE, Int.reduceNeg, Int.reduceAdd, Int.reduceSub, Int.reduceMul, Int.reduceDiv, Int.reduceMod, reduceCtorEq, if_true, if_false, gm_w_id, xX3_runBody_0, xX3_runBody_1, xX3_runBody_2, xX3_runBody_3, xX3_runBody_4, xX3_runBody_5, xX3_runBody_6, xX3_runBody_7, xX3_runBody_8, xX3_runBody_9, xX3_runBody_10, xX3_runBody_11, xX3_runBody_12, xX3_runBody_13, gm_iast, gn_T_O, gn_T_F, gn_T_s, z91, z92, l3, n92, hn, hin, ha3, t3, ho, f0, f1, f2, e]
theorem gn_Ah.b71 {M : gm_M} {o K V h : Int} (H : gn_Ah M o K V h) (d : Nat) (L : List Int) {x dep : Int} (hd : 0 ≤ dep ∧ dep < 40) (hl : L.length ≤ 18) : gm_go (d + 3) 24 [.inr (.inr 91), .inl 71, .inr (.inr o), .inl x, .inl dep] (gn_T 92 91 301 M L) = some (some (.inl (gm_xor (x + h) V)), gn_T 92 91 301 M (L ++ [71] ++ [10])) := by
  obtain ⟨hL, ho, ⟨f0, f1, f2⟩, hK, -, -⟩ := id H
  have z91 := gm_z91 hL
  have z92 := gm_z92 hL
  have l3 := gm_l300 hL
  have n92 : ∀ M' : gm_M, gm_len M' 92 = 20 := fun M' => gm_y92 M'
  have hn : (L.length : Int) < 20 := by omega
  have hin : gm_in (gn_T 92 91 301 M L) 92 (L.length : Int) = true := gm_inI (gm_y92 _) (by omega) hn (by decide)
  have ha3 := gm_alen_k 20 (by decide)
  have z92T : gm_isO 20 (gn_T 92 91 301 M L) 92 = true := z92
  have t3 : gm_gF (gn_T 92 91 301 M L) 301 91 = (L.length : Int) := rfl
  have e := H.w d (L ++ [71]) (k := 3) (x := x) (dep := dep) (by decide) hd (by simp; omega)
  rw [eX3_runBody _ _ _ (Nat.le_of_ble_eq_true rfl)]
  simp (config := { maxSteps := 2000000 }) (disch := first | omega | assumption | (simp only [gm_isO_sF, gm_isO_sA, gm_isO_cp]; assumption)) only [gm_push, gm_iload, gm_lload, gm_aload, gm_istore, gm_astore, gm_iinc, gm_op2, gm_quo, gm_op1, gm_lop2, gm_lshl, gm_i2l, gm_l2i, gm_lcmp, gm_dup, gm_pop1, gm_dup2, gm_goto, gm_ifeq, gm_ifne, gm_iflt, gm_ifge, gm_ifgt, gm_ifle, gm_ceq, gm_cne, gm_clt, gm_cge, gm_cgt, gm_cle, gm_ifnull, gm_ifnonnull, gm_swk, gm_switch, gm_getI, gm_getR, gm_putI, gm_putZ, gm_putR, gm_new, gm_newarr, gm_iald, gm_cald, gm_zald, gm_lald, gm_aald, gm_iast, gm_cast, gm_zast, gm_last, gm_aast, gm_acp, gm_oinit, gm_back, gm_scall, gm_vcall, gm_iret, gm_zret, gm_cret, gm_lret, gm_aret, gm_vret, gm_slen, gm_schar, gm_sidx, gm_lget, gm_lset, gm_nl, gm_ent, gm_wd, gm_pop, gm_pad, gm_xl_c, gm_alen_u, gm_1_sF, gm_1_sA, gm_1_cp, gm_len_sF, gm_len_sA, gm_len_cp, Bool.or_true, Bool.true_or, gm_max_u, gm_min_u, gm_isO_sF, gm_isO_sA, gm_isO_cp, gm_gF_sF, gm_gF_sA, gm_gA_sF, gm_gA_sA, gm_gF_cp, gm_gA_cp, gm_add, gm_sub, gm_mul, gm_neg, ↓reduceIte, Nat.reduceAdd, Nat.reduceLeDiff, true_and, and_true, and_self, true_or, or_true, false_and, and_false, false_or, or_false, eq_self, Nat.reduceEqDiff, Int.reduceEq, Int.reduceLT, Int.reduceLE, Int.reduceNeg, Int.reduceAdd, Int.reduceSub, Int.reduceMul, Int.reduceDiv, Int.reduceMod, reduceCtorEq, if_true, if_false, gm_w_id, xX3_runBody_0, xX3_runBody_1, xX3_runBody_2, xX3_runBody_3, xX3_runBody_4, xX3_runBody_5, xX3_runBody_6, xX3_runBody_7, xX3_runBody_8, xX3_runBody_9, xX3_runBody_10, xX3_runBody_11, xX3_runBody_12, xX3_runBody_13, gm_iast, gn_T_O, gn_T_F, gn_T_s, z91, z92, l3, n92, hn, hin, ha3, t3, ho, f0, f1, f2, e]
theorem gn_Ah.wa {M : gm_M} {o K V h : Int} (H : gn_Ah M o K V h) (d : Nat) (L : List Int) {x dep : Int} (hd : 0 ≤ dep ∧ dep < 39) (hl : L.length ≤ 18) : gm_go (d + 4) 23 [.inr (.inr 91), .inr (.inr o), .inl K, .inl 0, .inl x, .inl dep] (gn_T 92 91 301 M L) = some (some (.inl (gn_wa K V h x)), gn_T 92 91 301 M (L ++ gn_wl K)) := by
  have hK := H.2.2.2.1
  have a30 := H.b30 d L (x := x) (dep := dep + 1) (by omega) hl
  have a50 := H.b50 d L (x := x) (dep := dep + 1) (by omega) hl
  have a71 := H.b71 d L (x := x) (dep := dep + 1) (by omega) hl
  have a10 := H.b10 (d + 2) L (x := x) (dep := dep + 1) (by omega)
  rw [List.append_assoc] at a30 a50 a71
  refine H.c (d + 3) L hK (by decide) (by omega) ?_
  rcases (by omega : K = 0 ∨ K = 1 ∨ K = 2 ∨ K = 3 ∨ K = 4 ∨ K = 5 ∨ K = 6) with rfl | rfl | rfl | rfl | rfl | rfl | rfl
  · exact a10
  · exact a10
  · exact a30
  · exact a10
  · exact a50
  · exact a30
  · exact a71
theorem gn_Ah.b11 {M : gm_M} {o K V h : Int} (H : gn_Ah M o K V h) (d : Nat) (L : List Int) {x dep : Int} (hd : 0 ≤ dep ∧ dep < 39) (hl : L.length ≤ 17) : gm_go (d + 5) 24 [.inr (.inr 91), .inl 11, .inr (.inr o), .inl x, .inl dep] (gn_T 92 91 301 M L) = some (some (.inl (gn_hv K V h x)), gn_T 92 91 301 M (L ++ 11 :: gn_wl K)) := by
  obtain ⟨hL, ho, ⟨f0, f1, f2⟩, hK, -, -⟩ := id H
  have z91 := gm_z91 hL
  have z92 := gm_z92 hL
  have l3 := gm_l300 hL
  have n92 : ∀ M' : gm_M, gm_len M' 92 = 20 := fun M' => gm_y92 M'
  have hn : (L.length : Int) < 20 := by omega
  have hin : gm_in (gn_T 92 91 301 M L) 92 (L.length : Int) = true := gm_inI (gm_y92 _) (by omega) hn (by decide)
  have ha3 := gm_alen_k 20 (by decide)
  have z92T : gm_isO 20 (gn_T 92 91 301 M L) 92 = true := z92
  have t3 : gm_gF (gn_T 92 91 301 M L) 301 91 = (L.length : Int) := rfl
  have e := H.wa d (L ++ [11]) (x := x) (dep := dep) hd (by simp; omega)
  rw [List.append_assoc] at e
  have hv : gn_wa K V h x - V = gn_hv K V h x := rfl
  rw [eX3_runBody _ _ _ (Nat.le_of_ble_eq_true rfl)]
  simp (config := { maxSteps := 2000000 }) (disch := first | omega | assumption | (simp only [gm_isO_sF, gm_isO_sA, gm_isO_cp]; assumption)) only [gm_push, gm_iload, gm_lload, gm_aload, gm_istore, gm_astore, gm_iinc, gm_op2, gm_quo, gm_op1, gm_lop2, gm_lshl, gm_i2l, gm_l2i, gm_lcmp, gm_dup, gm_pop1, gm_dup2, gm_goto, gm_ifeq, gm_ifne, gm_iflt, gm_ifge, gm_ifgt, gm_ifle, gm_ceq, gm_cne, gm_clt, gm_cge, gm_cgt, gm_cle, gm_ifnull, gm_ifnonnull, gm_swk, gm_switch, gm_getI, gm_getR, gm_putI, gm_putZ, gm_putR, gm_new, gm_newarr, gm_iald, gm_cald, gm_zald, gm_lald, gm_aald, gm_iast, gm_cast, gm_zast, gm_last, gm_aast, gm_acp, gm_oinit, gm_back, gm_scall, gm_vcall, gm_iret, gm_zret, gm_cret, gm_lret, gm_aret, gm_vret, gm_slen, gm_schar, gm_sidx, gm_lget, gm_lset, gm_nl, gm_ent, gm_wd, gm_pop, gm_pad, gm_xl_c, gm_alen_u, gm_1_sF, gm_1_sA, gm_1_cp, gm_len_sF, gm_len_sA, gm_len_cp, Bool.or_true, Bool.true_or, gm_max_u, gm_min_u, gm_isO_sF, gm_isO_sA, gm_isO_cp, gm_gF_sF, gm_gF_sA, gm_gA_sF, gm_gA_sA, gm_gF_cp, gm_gA_cp, gm_add, gm_sub, gm_mul, gm_neg, ↓reduceIte, Nat.reduceAdd, Nat.reduceLeDiff, true_and, and_true, and_self, true_or, or_true, false_and, and_false, false_or, or_false, eq_self, Nat.reduceEqDiff, Int.reduceEq, Int.reduceLT, Int.reduceLE, Int.reduceNeg, Int.reduceAdd, Int.reduceSub, Int.reduceMul, Int.reduceDiv, Int.reduceMod, reduceCtorEq, if_true, if_false, gm_w_id, xX3_runBody_0, xX3_runBody_1, xX3_runBody_2, xX3_runBody_3, xX3_runBody_4, xX3_runBody_5, xX3_runBody_6, xX3_runBody_7, xX3_runBody_8, xX3_runBody_9, xX3_runBody_10, xX3_runBody_11, xX3_runBody_12, xX3_runBody_13, gm_iast, gn_T_O, gn_T_F, gn_T_s, z91, z92, l3, n92, hn, hin, ha3, t3, ho, f0, f1, f2, e, hv, List.cons_append, List.nil_append]
theorem gn_Ah.s {M : gm_M} {o K V h : Int} (H : gn_Ah M o K V h) (d : Nat) (L : List Int) {k x dep : Int} (hk : k = 0 ∨ k = 3) (hd : 0 ≤ dep ∧ dep < 38) (hl : L.length ≤ 17) : gm_go (d + 6) 23 [.inr (.inr 91), .inr (.inr o), .inl k, .inl 1, .inl x, .inl dep] (gn_T 92 91 301 M L) = some (some (.inl (gn_hv K V h x)), gn_T 92 91 301 M (L ++ 11 :: gn_wl K)) := by
  refine H.c (d + 5) L (by omega) (by decide) (by omega) ?_
  have : gn_bdy k 1 = 11 := by rcases hk with rfl | rfl <;> rfl
  rw [this]
  exact H.b11 d L (by omega) hl
theorem gn_Ah.b20 {M : gm_M} {o K V h : Int} (H : gn_Ah M o K V h) (d : Nat) (L : List Int) {x dep : Int} (hd : 0 ≤ dep ∧ dep < 38) (hl : L.length ≤ 16) : gm_go (d + 7) 24 [.inr (.inr 91), .inl 20, .inr (.inr o), .inl x, .inl dep] (gn_T 92 91 301 M L) = some (some (.inl (gm_xor (gn_hv K V h x) 6)), gn_T 92 91 301 M (L ++ 20 :: 11 :: gn_wl K)) := by
  obtain ⟨hL, ho, ⟨f0, f1, f2⟩, hK, -, -⟩ := id H
  have z91 := gm_z91 hL
  have z92 := gm_z92 hL
  have l3 := gm_l300 hL
  have n92 : ∀ M' : gm_M, gm_len M' 92 = 20 := fun M' => gm_y92 M'
  have hn : (L.length : Int) < 20 := by omega
  have hin : gm_in (gn_T 92 91 301 M L) 92 (L.length : Int) = true := gm_inI (gm_y92 _) (by omega) hn (by decide)
  have ha3 := gm_alen_k 20 (by decide)
  have z92T : gm_isO 20 (gn_T 92 91 301 M L) 92 = true := z92
  have t3 : gm_gF (gn_T 92 91 301 M L) 301 91 = (L.length : Int) := rfl
  have e := H.s d (L ++ [20]) (k := 0) (x := x) (dep := dep) (Or.inl rfl) hd (by simp; omega)
  rw [List.append_assoc] at e
  rw [eX3_runBody _ _ _ (Nat.le_of_ble_eq_true rfl)]
  simp (config := { maxSteps := 2000000 }) (disch := first | omega | assumption | (simp only [gm_isO_sF, gm_isO_sA, gm_isO_cp]; assumption)) only [gm_push, gm_iload, gm_lload, gm_aload, gm_istore, gm_astore, gm_iinc, gm_op2, gm_quo, gm_op1, gm_lop2, gm_lshl, gm_i2l, gm_l2i, gm_lcmp, gm_dup, gm_pop1, gm_dup2, gm_goto, gm_ifeq, gm_ifne, gm_iflt, gm_ifge, gm_ifgt, gm_ifle, gm_ceq, gm_cne, gm_clt, gm_cge, gm_cgt, gm_cle, gm_ifnull, gm_ifnonnull, gm_swk, gm_switch, gm_getI, gm_getR, gm_putI, gm_putZ, gm_putR, gm_new, gm_newarr, gm_iald, gm_cald, gm_zald, gm_lald, gm_aald, gm_iast, gm_cast, gm_zast, gm_last, gm_aast, gm_acp, gm_oinit, gm_back, gm_scall, gm_vcall, gm_iret, gm_zret, gm_cret, gm_lret, gm_aret, gm_vret, gm_slen, gm_schar, gm_sidx, gm_lget, gm_lset, gm_nl, gm_ent, gm_wd, gm_pop, gm_pad, gm_xl_c, gm_alen_u, gm_1_sF, gm_1_sA, gm_1_cp, gm_len_sF, gm_len_sA, gm_len_cp, Bool.or_true, Bool.true_or, gm_max_u, gm_min_u, gm_isO_sF, gm_isO_sA, gm_isO_cp, gm_gF_sF, gm_gF_sA, gm_gA_sF, gm_gA_sA, gm_gF_cp, gm_gA_cp, gm_add, gm_sub, gm_mul, gm_neg, ↓reduceIte, Nat.reduceAdd, Nat.reduceLeDiff, true_and, and_true, and_self, true_or, or_true, false_and, and_false, false_or, or_false, eq_self, Nat.reduceEqDiff, Int.reduceEq, Int.reduceLT, Int.reduceLE, Int.reduceNeg, Int.reduceAdd, Int.reduceSub, Int.reduceMul, Int.reduceDiv, Int.reduceMod, reduceCtorEq, if_true, if_false, gm_w_id, xX3_runBody_0, xX3_runBody_1, xX3_runBody_2, xX3_runBody_3, xX3_runBody_4, xX3_runBody_5, xX3_runBody_6, xX3_runBody_7, xX3_runBody_8, xX3_runBody_9, xX3_runBody_10, xX3_runBody_11, xX3_runBody_12, xX3_runBody_13, gm_iast, gn_T_O, gn_T_F, gn_T_s, z91, z92, l3, n92, hn, hin, ha3, t3, ho, f0, f1, f2, e, List.cons_append, List.nil_append]
theorem gn_Ah.b51 {M : gm_M} {o K V h : Int} (H : gn_Ah M o K V h) (d : Nat) (L : List Int) {x dep : Int} (hd : 0 ≤ dep ∧ dep < 37) (hl : L.length ≤ 15) : gm_go (d + 9) 24 [.inr (.inr 91), .inl 51, .inr (.inr o), .inl x, .inl dep] (gn_T 92 91 301 M L) = some (some (.inl (gm_xor (gn_hv K V h (x + 1)) 6)), gn_T 92 91 301 M (L ++ 51 :: 20 :: 11 :: gn_wl K)) := by
  obtain ⟨hL, ho, ⟨f0, f1, f2⟩, hK, -, -⟩ := id H
  have z91 := gm_z91 hL
  have z92 := gm_z92 hL
  have l3 := gm_l300 hL
  have n92 : ∀ M' : gm_M, gm_len M' 92 = 20 := fun M' => gm_y92 M'
  have hn : (L.length : Int) < 20 := by omega
  have hin : gm_in (gn_T 92 91 301 M L) 92 (L.length : Int) = true := gm_inI (gm_y92 _) (by omega) hn (by decide)
  have ha3 := gm_alen_k 20 (by decide)
  have z92T : gm_isO 20 (gn_T 92 91 301 M L) 92 = true := z92
  have t3 : gm_gF (gn_T 92 91 301 M L) 301 91 = (L.length : Int) := rfl
  have e := H.c (d + 7) (L ++ [51]) (k := 1) (a := 1) (x := x + 1) (dep := dep) (by decide) (by decide) (by omega) (H.b20 d (L ++ [51]) (by omega) (by simp; omega))
  rw [List.append_assoc] at e
  rw [eX3_runBody _ _ _ (Nat.le_of_ble_eq_true rfl)]
  simp (config := { maxSteps := 2000000 }) (disch := first | omega | assumption | (simp only [gm_isO_sF, gm_isO_sA, gm_isO_cp]; assumption)) only [gm_push, gm_iload, gm_lload, gm_aload, gm_istore, gm_astore, gm_iinc, gm_op2, gm_quo, gm_op1, gm_lop2, gm_lshl, gm_i2l, gm_l2i, gm_lcmp, gm_dup, gm_pop1, gm_dup2, gm_goto, gm_ifeq, gm_ifne, gm_iflt, gm_ifge, gm_ifgt, gm_ifle, gm_ceq, gm_cne, gm_clt, gm_cge, gm_cgt, gm_cle, gm_ifnull, gm_ifnonnull, gm_swk, gm_switch, gm_getI, gm_getR, gm_putI, gm_putZ, gm_putR, gm_new, gm_newarr, gm_iald, gm_cald, gm_zald, gm_lald, gm_aald, gm_iast, gm_cast, gm_zast, gm_last, gm_aast, gm_acp, gm_oinit, gm_back, gm_scall, gm_vcall, gm_iret, gm_zret, gm_cret, gm_lret, gm_aret, gm_vret, gm_slen, gm_schar, gm_sidx, gm_lget, gm_lset, gm_nl, gm_ent, gm_wd, gm_pop, gm_pad, gm_xl_c, gm_alen_u, gm_1_sF, gm_1_sA, gm_1_cp, gm_len_sF, gm_len_sA, gm_len_cp, Bool.or_true, Bool.true_or, gm_max_u, gm_min_u, gm_isO_sF, gm_isO_sA, gm_isO_cp, gm_gF_sF, gm_gF_sA, gm_gA_sF, gm_gA_sA, gm_gF_cp, gm_gA_cp, gm_add, gm_sub, gm_mul, gm_neg, ↓reduceIte, Nat.reduceAdd, Nat.reduceLeDiff, true_and, and_true, and_self, true_or, or_true, false_and, and_false, false_or, or_false, eq_self, Nat.reduceEqDiff, Int.reduceEq, Int.reduceLT, Int.reduceLE, Int.reduceNeg, Int.reduceAdd, Int.reduceSub, Int.reduceMul, Int.reduceDiv, Int.reduceMod, reduceCtorEq, if_true, if_false, gm_w_id, xX3_runBody_0, xX3_runBody_1, xX3_runBody_2, xX3_runBody_3, xX3_runBody_4, xX3_runBody_5, xX3_runBody_6, xX3_runBody_7, xX3_runBody_8, xX3_runBody_9, xX3_runBody_10, xX3_runBody_11, xX3_runBody_12, xX3_runBody_13, gm_iast, gn_T_O, gn_T_F, gn_T_s, z91, z92, l3, n92, hn, hin, ha3, t3, ho, f0, f1, f2, e, List.cons_append, List.nil_append]
theorem gn_Ah.b70 {M : gm_M} {o K V h : Int} (H : gn_Ah M o K V h) (d : Nat) (L : List Int) {x dep : Int} (hd : 0 ≤ dep ∧ dep < 38) (hl : L.length ≤ 15) : gm_go (d + 7) 24 [.inr (.inr 91), .inl 70, .inr (.inr o), .inl x, .inl dep] (gn_T 92 91 301 M L) = some (some (.inl (gn_hv K V h x + (2 + h))), gn_T 92 91 301 M (L ++ (70 :: 11 :: gn_wl K ++ [10]))) := by
  obtain ⟨hL, ho, ⟨f0, f1, f2⟩, hK, -, -⟩ := id H
  have z91 := gm_z91 hL
  have z92 := gm_z92 hL
  have l3 := gm_l300 hL
  have n92 : ∀ M' : gm_M, gm_len M' 92 = 20 := fun M' => gm_y92 M'
  have hn : (L.length : Int) < 20 := by omega
  have hin : gm_in (gn_T 92 91 301 M L) 92 (L.length : Int) = true := gm_inI (gm_y92 _) (by omega) hn (by decide)
  have ha3 := gm_alen_k 20 (by decide)
  have z92T : gm_isO 20 (gn_T 92 91 301 M L) 92 = true := z92
  have t3 : gm_gF (gn_T 92 91 301 M L) 301 91 = (L.length : Int) := rfl
  have e := H.s d (L ++ [70]) (k := 3) (x := x) (dep := dep) (Or.inr rfl) hd (by simp; omega)
  have hw := gn_wl_n K
  have e2 := H.w (d + 4) (L ++ [70] ++ 11 :: gn_wl K) (k := 3) (x := 2) (dep := dep) (by decide) (by omega) (by simp; omega)
  simp only [List.append_assoc, List.cons_append, List.nil_append] at e e2
  rw [eX3_runBody _ _ _ (Nat.le_of_ble_eq_true rfl)]
  simp (config := { maxSteps := 2000000 }) (disch := first | omega | assumption | (simp only [gm_isO_sF, gm_isO_sA, gm_isO_cp]; assumption)) only [gm_push, gm_iload, gm_lload, gm_aload, gm_istore, gm_astore, gm_iinc, gm_op2, gm_quo, gm_op1, gm_lop2, gm_lshl, gm_i2l, gm_l2i, gm_lcmp, gm_dup, gm_pop1, gm_dup2, gm_goto, gm_ifeq, gm_ifne, gm_iflt, gm_ifge, gm_ifgt, gm_ifle, gm_ceq, gm_cne, gm_clt, gm_cge, gm_cgt, gm_cle, gm_ifnull, gm_ifnonnull, gm_swk, gm_switch, gm_getI, gm_getR, gm_putI, gm_putZ, gm_putR, gm_new, gm_newarr, gm_iald, gm_cald, gm_zald, gm_lald, gm_aald, gm_iast, gm_cast, gm_zast, gm_last, gm_aast, gm_acp, gm_oinit, gm_back, gm_scall, gm_vcall, gm_iret, gm_zret, gm_cret, gm_lret, gm_aret, gm_vret, gm_slen, gm_schar, gm_sidx, gm_lget, gm_lset, gm_nl, gm_ent, gm_wd, gm_pop, gm_pad, gm_xl_c, gm_alen_u, gm_1_sF, gm_1_sA, gm_1_cp, gm_len_sF, gm_len_sA, gm_len_cp, Bool.or_true, Bool.true_or, gm_max_u, gm_min_u, gm_isO_sF, gm_isO_sA, gm_isO_cp, gm_gF_sF, gm_gF_sA, gm_gA_sF, gm_gA_sA, gm_gF_cp, gm_gA_cp, gm_add, gm_sub, gm_mul, gm_neg, ↓reduceIte, Nat.reduceAdd, Nat.reduceLeDiff, true_and, and_true, and_self, true_or, or_true, false_and, and_false, false_or, or_false, eq_self, Nat.reduceEqDiff, Int.reduceEq, Int.reduceLT, Int.reduceLE, Int.reduceNeg, Int.reduceAdd, Int.reduceSub, Int.reduceMul, Int.reduceDiv, Int.reduceMod, reduceCtorEq, if_true, if_false, gm_w_id, xX3_runBody_0, xX3_runBody_1, xX3_runBody_2, xX3_runBody_3, xX3_runBody_4, xX3_runBody_5, xX3_runBody_6, xX3_runBody_7, xX3_runBody_8, xX3_runBody_9, xX3_runBody_10, xX3_runBody_11, xX3_runBody_12, xX3_runBody_13, gm_iast, gn_T_O, gn_T_F, gn_T_s, z91, z92, l3, n92, hn, hin, ha3, t3, ho, f0, f1, f2, e, e2, List.append_assoc, List.cons_append, List.nil_append]
theorem gn_Ah.sa {M : gm_M} {o K V h : Int} (H : gn_Ah M o K V h) (d : Nat) (L : List Int) {x dep : Int} (hd : 0 ≤ dep ∧ dep < 36) (hl : L.length ≤ 15) : gm_go (d + 10) 23 [.inr (.inr 91), .inr (.inr o), .inl K, .inl 1, .inl x, .inl dep] (gn_T 92 91 301 M L) = some (some (.inl (gn_sa K V h x)), gn_T 92 91 301 M (L ++ gn_sl K)) := by
  have hK := H.2.2.2.1
  have a11 := H.b11 (d + 4) L (x := x) (dep := dep + 1) (by omega) (by omega)
  have a20 := H.b20 (d + 2) L (x := x) (dep := dep + 1) (by omega) (by omega)
  have a51 := H.b51 d L (x := x) (dep := dep + 1) (by omega) hl
  have a70 := H.b70 (d + 2) L (x := x) (dep := dep + 1) (by omega) hl
  refine H.c (d + 9) L hK (by decide) (by omega) ?_
  rcases (by omega : K = 0 ∨ K = 1 ∨ K = 2 ∨ K = 3 ∨ K = 4 ∨ K = 5 ∨ K = 6) with rfl | rfl | rfl | rfl | rfl | rfl | rfl
  · exact a11
  · exact a20
  · exact a11
  · exact a11
  · exact a51
  · exact a11
  · exact a70
theorem gn_Ah.b12 {M : gm_M} {o K V h : Int} (H : gn_Ah M o K V h) (d : Nat) (L : List Int) {x dep : Int} (hd : 0 ≤ dep ∧ dep < 36) (hl : L.length ≤ 14) : gm_go (d + 11) 24 [.inr (.inr 91), .inl 12, .inr (.inr o), .inl x, .inl dep] (gn_T 92 91 301 M L) = some (some (.inl (gn_sa K V h x * 2)), gn_T 92 91 301 M (L ++ 12 :: gn_sl K)) := by
  obtain ⟨hL, ho, ⟨f0, f1, f2⟩, hK, -, -⟩ := id H
  have z91 := gm_z91 hL
  have z92 := gm_z92 hL
  have l3 := gm_l300 hL
  have n92 : ∀ M' : gm_M, gm_len M' 92 = 20 := fun M' => gm_y92 M'
  have hn : (L.length : Int) < 20 := by omega
  have hin : gm_in (gn_T 92 91 301 M L) 92 (L.length : Int) = true := gm_inI (gm_y92 _) (by omega) hn (by decide)
  have ha3 := gm_alen_k 20 (by decide)
  have z92T : gm_isO 20 (gn_T 92 91 301 M L) 92 = true := z92
  have t3 : gm_gF (gn_T 92 91 301 M L) 301 91 = (L.length : Int) := rfl
  have e := H.sa d (L ++ [12]) (x := x) (dep := dep) hd (by simp; omega)
  rw [List.append_assoc] at e
  rw [eX3_runBody _ _ _ (Nat.le_of_ble_eq_true rfl)]
  simp (config := { maxSteps := 2000000 }) (disch := first | omega | assumption | (simp only [gm_isO_sF, gm_isO_sA, gm_isO_cp]; assumption)) only [gm_push, gm_iload, gm_lload, gm_aload, gm_istore, gm_astore, gm_iinc, gm_op2, gm_quo, gm_op1, gm_lop2, gm_lshl, gm_i2l, gm_l2i, gm_lcmp, gm_dup, gm_pop1, gm_dup2, gm_goto, gm_ifeq, gm_ifne, gm_iflt, gm_ifge, gm_ifgt, gm_ifle, gm_ceq, gm_cne, gm_clt, gm_cge, gm_cgt, gm_cle, gm_ifnull, gm_ifnonnull, gm_swk, gm_switch, gm_getI, gm_getR, gm_putI, gm_putZ, gm_putR, gm_new, gm_newarr, gm_iald, gm_cald, gm_zald, gm_lald, gm_aald, gm_iast, gm_cast, gm_zast, gm_last, gm_aast, gm_acp, gm_oinit, gm_back, gm_scall, gm_vcall, gm_iret, gm_zret, gm_cret, gm_lret, gm_aret, gm_vret, gm_slen, gm_schar, gm_sidx, gm_lget, gm_lset, gm_nl, gm_ent, gm_wd, gm_pop, gm_pad, gm_xl_c, gm_alen_u, gm_1_sF, gm_1_sA, gm_1_cp, gm_len_sF, gm_len_sA, gm_len_cp, Bool.or_true, Bool.true_or, gm_max_u, gm_min_u, gm_isO_sF, gm_isO_sA, gm_isO_cp, gm_gF_sF, gm_gF_sA, gm_gA_sF, gm_gA_sA, gm_gF_cp, gm_gA_cp, gm_add, gm_sub, gm_mul, gm_neg, ↓reduceIte, Nat.reduceAdd, Nat.reduceLeDiff, true_and, and_true, and_self, true_or, or_true, false_and, and_false, false_or, or_false, eq_self, Nat.reduceEqDiff, Int.reduceEq, Int.reduceLT, Int.reduceLE, Int.reduceNeg, Int.reduceAdd, Int.reduceSub, Int.reduceMul, Int.reduceDiv, Int.reduceMod, reduceCtorEq, if_true, if_false, gm_w_id, xX3_runBody_0, xX3_runBody_1, xX3_runBody_2, xX3_runBody_3, xX3_runBody_4, xX3_runBody_5, xX3_runBody_6, xX3_runBody_7, xX3_runBody_8, xX3_runBody_9, xX3_runBody_10, xX3_runBody_11, xX3_runBody_12, xX3_runBody_13, gm_iast, gn_T_O, gn_T_F, gn_T_s, z91, z92, l3, n92, hn, hin, ha3, t3, ho, f0, f1, f2, e, List.cons_append, List.nil_append]
theorem gn_Ah.b40 {M : gm_M} {o K V h : Int} (H : gn_Ah M o K V h) (d : Nat) (L : List Int) {x dep : Int} (hd : 0 ≤ dep ∧ dep < 35) (hl : L.length ≤ 8) : gm_go (d + 13) 24 [.inr (.inr 91), .inl 40, .inr (.inr o), .inl x, .inl dep] (gn_T 92 91 301 M L) = some (some (.inl (gn_sa K V h x * 2 + gn_sa K V h 1)), gn_T 92 91 301 M (L ++ (40 :: 12 :: gn_sl K ++ gn_sl K))) := by
  obtain ⟨hL, ho, ⟨f0, f1, f2⟩, hK, -, -⟩ := id H
  have z91 := gm_z91 hL
  have z92 := gm_z92 hL
  have l3 := gm_l300 hL
  have n92 : ∀ M' : gm_M, gm_len M' 92 = 20 := fun M' => gm_y92 M'
  have hn : (L.length : Int) < 20 := by omega
  have hin : gm_in (gn_T 92 91 301 M L) 92 (L.length : Int) = true := gm_inI (gm_y92 _) (by omega) hn (by decide)
  have ha3 := gm_alen_k 20 (by decide)
  have z92T : gm_isO 20 (gn_T 92 91 301 M L) 92 = true := z92
  have t3 : gm_gF (gn_T 92 91 301 M L) 301 91 = (L.length : Int) := rfl
  have e := H.c (d + 11) (L ++ [40]) (k := 0) (a := 2) (x := x) (dep := dep) (by decide) (by decide) (by omega) (H.b12 d (L ++ [40]) (by omega) (by simp; omega))
  have hw := gn_sl_n K
  have e2 := H.sa (d + 2) (L ++ [40] ++ 12 :: gn_sl K) (x := 1) (dep := dep) (by omega) (by simp; omega)
  simp only [List.append_assoc, List.cons_append, List.nil_append] at e e2
  rw [eX3_runBody _ _ _ (Nat.le_of_ble_eq_true rfl)]
  simp (config := { maxSteps := 2000000 }) (disch := first | omega | assumption | (simp only [gm_isO_sF, gm_isO_sA, gm_isO_cp]; assumption)) only [gm_push, gm_iload, gm_lload, gm_aload, gm_istore, gm_astore, gm_iinc, gm_op2, gm_quo, gm_op1, gm_lop2, gm_lshl, gm_i2l, gm_l2i, gm_lcmp, gm_dup, gm_pop1, gm_dup2, gm_goto, gm_ifeq, gm_ifne, gm_iflt, gm_ifge, gm_ifgt, gm_ifle, gm_ceq, gm_cne, gm_clt, gm_cge, gm_cgt, gm_cle, gm_ifnull, gm_ifnonnull, gm_swk, gm_switch, gm_getI, gm_getR, gm_putI, gm_putZ, gm_putR, gm_new, gm_newarr, gm_iald, gm_cald, gm_zald, gm_lald, gm_aald, gm_iast, gm_cast, gm_zast, gm_last, gm_aast, gm_acp, gm_oinit, gm_back, gm_scall, gm_vcall, gm_iret, gm_zret, gm_cret, gm_lret, gm_aret, gm_vret, gm_slen, gm_schar, gm_sidx, gm_lget, gm_lset, gm_nl, gm_ent, gm_wd, gm_pop, gm_pad, gm_xl_c, gm_alen_u, gm_1_sF, gm_1_sA, gm_1_cp, gm_len_sF, gm_len_sA, gm_len_cp, Bool.or_true, Bool.true_or, gm_max_u, gm_min_u, gm_isO_sF, gm_isO_sA, gm_isO_cp, gm_gF_sF, gm_gF_sA, gm_gA_sF, gm_gA_sA, gm_gF_cp, gm_gA_cp, gm_add, gm_sub, gm_mul, gm_neg, ↓reduceIte, Nat.reduceAdd, Nat.reduceLeDiff, true_and, and_true, and_self, true_or, or_true, false_and, and_false, false_or, or_false, eq_self, Nat.reduceEqDiff, Int.reduceEq, Int.reduceLT, Int.reduceLE, Int.reduceNeg, Int.reduceAdd, Int.reduceSub, Int.reduceMul, Int.reduceDiv, Int.reduceMod, reduceCtorEq, if_true, if_false, gm_w_id, xX3_runBody_0, xX3_runBody_1, xX3_runBody_2, xX3_runBody_3, xX3_runBody_4, xX3_runBody_5, xX3_runBody_6, xX3_runBody_7, xX3_runBody_8, xX3_runBody_9, xX3_runBody_10, xX3_runBody_11, xX3_runBody_12, xX3_runBody_13, gm_iast, gn_T_O, gn_T_F, gn_T_s, z91, z92, l3, n92, hn, hin, ha3, t3, ho, f0, f1, f2, e, e2, List.append_assoc, List.cons_append, List.nil_append]
theorem gn_Ah.b60 {M : gm_M} {o K V h : Int} (H : gn_Ah M o K V h) (d : Nat) (L : List Int) {x dep : Int} (hd : 0 ≤ dep ∧ dep < 35) (hl : L.length ≤ 13) : gm_go (d + 13) 24 [.inr (.inr 91), .inl 60, .inr (.inr o), .inl x, .inl dep] (gn_T 92 91 301 M L) = some (some (.inl (gn_sa K V h (x - h) * 2)), gn_T 92 91 301 M (L ++ 60 :: 12 :: gn_sl K)) := by
  obtain ⟨hL, ho, ⟨f0, f1, f2⟩, hK, -, -⟩ := id H
  have z91 := gm_z91 hL
  have z92 := gm_z92 hL
  have l3 := gm_l300 hL
  have n92 : ∀ M' : gm_M, gm_len M' 92 = 20 := fun M' => gm_y92 M'
  have hn : (L.length : Int) < 20 := by omega
  have hin : gm_in (gn_T 92 91 301 M L) 92 (L.length : Int) = true := gm_inI (gm_y92 _) (by omega) hn (by decide)
  have ha3 := gm_alen_k 20 (by decide)
  have z92T : gm_isO 20 (gn_T 92 91 301 M L) 92 = true := z92
  have t3 : gm_gF (gn_T 92 91 301 M L) 301 91 = (L.length : Int) := rfl
  have e := H.c (d + 11) (L ++ [60]) (k := 2) (a := 2) (x := x - h) (dep := dep) (by decide) (by decide) (by omega) (H.b12 d (L ++ [60]) (by omega) (by simp; omega))
  rw [List.append_assoc] at e
  rw [eX3_runBody _ _ _ (Nat.le_of_ble_eq_true rfl)]
  simp (config := { maxSteps := 2000000 }) (disch := first | omega | assumption | (simp only [gm_isO_sF, gm_isO_sA, gm_isO_cp]; assumption)) only [gm_push, gm_iload, gm_lload, gm_aload, gm_istore, gm_astore, gm_iinc, gm_op2, gm_quo, gm_op1, gm_lop2, gm_lshl, gm_i2l, gm_l2i, gm_lcmp, gm_dup, gm_pop1, gm_dup2, gm_goto, gm_ifeq, gm_ifne, gm_iflt, gm_ifge, gm_ifgt, gm_ifle, gm_ceq, gm_cne, gm_clt, gm_cge, gm_cgt, gm_cle, gm_ifnull, gm_ifnonnull, gm_swk, gm_switch, gm_getI, gm_getR, gm_putI, gm_putZ, gm_putR, gm_new, gm_newarr, gm_iald, gm_cald, gm_zald, gm_lald, gm_aald, gm_iast, gm_cast, gm_zast, gm_last, gm_aast, gm_acp, gm_oinit, gm_back, gm_scall, gm_vcall, gm_iret, gm_zret, gm_cret, gm_lret, gm_aret, gm_vret, gm_slen, gm_schar, gm_sidx, gm_lget, gm_lset, gm_nl, gm_ent, gm_wd, gm_pop, gm_pad, gm_xl_c, gm_alen_u, gm_1_sF, gm_1_sA, gm_1_cp, gm_len_sF, gm_len_sA, gm_len_cp, Bool.or_true, Bool.true_or, gm_max_u, gm_min_u, gm_isO_sF, gm_isO_sA, gm_isO_cp, gm_gF_sF, gm_gF_sA, gm_gA_sF, gm_gA_sA, gm_gF_cp, gm_gA_cp, gm_add, gm_sub, gm_mul, gm_neg, ↓reduceIte, Nat.reduceAdd, Nat.reduceLeDiff, true_and, and_true, and_self, true_or, or_true, false_and, and_false, false_or, or_false, eq_self, Nat.reduceEqDiff, Int.reduceEq, Int.reduceLT, Int.reduceLE, Int.reduceNeg, Int.reduceAdd, Int.reduceSub, Int.reduceMul, Int.reduceDiv, Int.reduceMod, reduceCtorEq, if_true, if_false, gm_w_id, xX3_runBody_0, xX3_runBody_1, xX3_runBody_2, xX3_runBody_3, xX3_runBody_4, xX3_runBody_5, xX3_runBody_6, xX3_runBody_7, xX3_runBody_8, xX3_runBody_9, xX3_runBody_10, xX3_runBody_11, xX3_runBody_12, xX3_runBody_13, gm_iast, gn_T_O, gn_T_F, gn_T_s, z91, z92, l3, n92, hn, hin, ha3, t3, ho, f0, f1, f2, e, List.cons_append, List.nil_append]
theorem gn_Ah.ta {M : gm_M} {o K V h : Int} (H : gn_Ah M o K V h) (d : Nat) (L : List Int) {x dep : Int} (hd : 0 ≤ dep ∧ dep < 34) (hl : L.length ≤ 8) : gm_go (d + 14) 23 [.inr (.inr 91), .inr (.inr o), .inl K, .inl 2, .inl x, .inl dep] (gn_T 92 91 301 M L) = some (some (.inl (gn_ta K V h x)), gn_T 92 91 301 M (L ++ gn_tl K)) := by
  have hK := H.2.2.2.1
  have a12 := H.b12 (d + 2) L (x := x) (dep := dep + 1) (by omega) (by omega)
  have a40 := H.b40 d L (x := x) (dep := dep + 1) (by omega) (by omega)
  have a60 := H.b60 d L (x := x) (dep := dep + 1) (by omega) (by omega)
  refine H.c (d + 13) L hK (by decide) (by omega) ?_
  rcases (by omega : K = 0 ∨ K = 1 ∨ K = 2 ∨ K = 3 ∨ K = 4 ∨ K = 5 ∨ K = 6) with rfl | rfl | rfl | rfl | rfl | rfl | rfl
  · exact a12
  · exact a12
  · exact a12
  · exact a40
  · exact a12
  · exact a60
  · exact a40
/-! the model's acts -/
def gn_Am (M : gm_M) (K V h : Int) : Prop := gm_Lay M ∧ (0 ≤ h ∧ h < 6) ∧ (gm_gA M 149 h = K ∧ gm_gA M 150 h = V) ∧ 0 ≤ K ∧ K ≤ 6
theorem gn_Am.b {M : gm_M} {K V h : Int} (H : gn_Am M K V h) (d : Nat) (L : List Int) (b : Int) (hl : L.length ≤ 19) : gm_go (d + 1) 169 [.inr (.inr 148), .inl b] (gn_T 184 148 958 M L) = some (none, gn_T 184 148 958 M (L ++ [b])) := by
  have hL := H.1
  have hLT : gm_Lay (gn_T 184 148 958 M L) := gn_T_Lay L hL (by decide) (by decide)
  have hn : (L.length : Int) < 20 := by omega
  have hn0 : 0 ≤ (L.length : Int) := by omega
  have hin := gn_i184 (gn_T 184 148 958 M L) hn0 hn
  have z148 := gm_z148 hL
  have l959 := gm_l959 hLT
  have z184 := gm_z184 hL
  have t3 : gm_gF (gn_T 184 148 958 M L) 958 148 = (L.length : Int) := rfl
  rw [eX9_body _ _ _ (Nat.le_of_ble_eq_true rfl)]
  simp (config := { maxSteps := 2000000 }) (disch := first | omega | assumption | (simp only [gm_isO_sF, gm_isO_sA, gm_isO_cp]; assumption)) only [gm_push, gm_iload, gm_lload, gm_aload, gm_istore, gm_astore, gm_iinc, gm_op2, gm_quo, gm_op1, gm_lop2, gm_lshl, gm_i2l, gm_l2i, gm_lcmp, gm_dup, gm_pop1, gm_dup2, gm_goto, gm_ifeq, gm_ifne, gm_iflt, gm_ifge, gm_ifgt, gm_ifle, gm_ceq, gm_cne, gm_clt, gm_cge, gm_cgt, gm_cle, gm_ifnull, gm_ifnonnull, gm_swk, gm_switch, gm_getI, gm_getR, gm_putI, gm_putZ, gm_putR, gm_new, gm_newarr, gm_iald, gm_cald, gm_zald, gm_lald, gm_aald, gm_iast, gm_cast, gm_zast, gm_last, gm_aast, gm_acp, gm_oinit, gm_back, gm_scall, gm_vcall, gm_iret, gm_zret, gm_cret, gm_lret, gm_aret, gm_vret, gm_slen, gm_schar, gm_sidx, gm_lget, gm_lset, gm_nl, gm_ent, gm_wd, gm_pop, gm_pad, gm_xl_c, gm_alen_u, gm_1_sF, gm_1_sA, gm_1_cp, gm_len_sF, gm_len_sA, gm_len_cp, Bool.or_true, Bool.true_or, gm_max_u, gm_min_u, gm_isO_sF, gm_isO_sA, gm_isO_cp, gm_gF_sF, gm_gF_sA, gm_gA_sF, gm_gA_sA, gm_gF_cp, gm_gA_cp, gm_add, gm_sub, gm_mul, gm_neg, ↓reduceIte, Nat.reduceAdd, Nat.reduceLeDiff, true_and, and_true, and_self, true_or, or_true, false_and, and_false, false_or, or_false, eq_self, Nat.reduceEqDiff, Int.reduceEq, Int.reduceLT, Int.reduceLE, Int.reduceNeg, Int.reduceAdd, Int.reduceSub, Int.reduceMul, Int.reduceDiv, Int.reduceMod, reduceCtorEq, if_true, if_false, gm_w_id, xX9_body_0, xX9_body_1, gm_iast, gn_T_O, gn_T_s, z148, z184, l959, hn, hin, t3]
theorem gn_Am.hw {M : gm_M} {K V h : Int} (H : gn_Am M K V h) (d : Nat) (L : List Int) {x : Int} (hl : L.length ≤ 19) : gm_go (d + 2) 170 [.inr (.inr 148), .inl h, .inl x] (gn_T 184 148 958 M L) = some (some (.inl (x + h)), gn_T 184 148 958 M (L ++ [10])) := by
  obtain ⟨hL, ⟨h0, h6⟩, ⟨v1, v2⟩, hK⟩ := id H
  have hh : ∀ L' : List Int, gm_Lay (gn_T 184 148 958 M L') := fun L' => gn_T_Lay L' hL (by decide) (by decide)
  have z148 := gm_z148 hL
  have z149 := gm_z149 hL
  have z150 := gm_z150 hL
  have l902 := fun L' => gm_l902 (hh L')
  have l903 := fun L' => gm_l903 (hh L')
  have i1 := fun L' => gn_i149 (gn_T 184 148 958 M L') h0 h6
  have i2 := fun L' => gn_i150 (gn_T 184 148 958 M L') h0 h6
  have w1 : ∀ L', gm_gA (gn_T 184 148 958 M L') 149 h = K := fun L' => by rw [gn_T_A, if_neg (by omega)]; exact v1
  have w2 : ∀ L', gm_gA (gn_T 184 148 958 M L') 150 h = V := fun L' => by rw [gn_T_A, if_neg (by omega)]; exact v2
  have e := H.b d L 10 hl
  rw [eX9_houseWarms _ _ _ (Nat.le_of_ble_eq_true rfl)]

  simp (config := { maxSteps := 2000000 }) (disch := first | omega | assumption | (simp only [gm_isO_sF, gm_isO_sA, gm_isO_cp]; assumption)) only [gm_push, gm_iload, gm_lload, gm_aload, gm_istore, gm_astore, gm_iinc, gm_op2, gm_quo, gm_op1, gm_lop2, gm_lshl, gm_i2l, gm_l2i, gm_lcmp, gm_dup, gm_pop1, gm_dup2, gm_goto, gm_ifeq, gm_ifne, gm_iflt, gm_ifge, gm_ifgt, gm_ifle, gm_ceq, gm_cne, gm_clt, gm_cge, gm_cgt, gm_cle, gm_ifnull, gm_ifnonnull, gm_swk, gm_switch, gm_getI, gm_getR, gm_putI, gm_putZ, gm_putR, gm_new, gm_newarr, gm_iald, gm_cald, gm_zald, gm_lald, gm_aald, gm_iast, gm_cast, gm_zast, gm_last, gm_aast, gm_acp, gm_oinit, gm_back, gm_scall, gm_vcall, gm_iret, gm_zret, gm_cret, gm_lret, gm_aret, gm_vret, gm_slen, gm_schar, gm_sidx, gm_lget, gm_lset, gm_nl, gm_ent, gm_wd, gm_pop, gm_pad, gm_xl_c, gm_alen_u, gm_1_sF, gm_1_sA, gm_1_cp, gm_len_sF, gm_len_sA, gm_len_cp, Bool.or_true, Bool.true_or, gm_max_u, gm_min_u, gm_isO_sF, gm_isO_sA, gm_isO_cp, gm_gF_sF, gm_gF_sA, gm_gA_sF, gm_gA_sA, gm_gF_cp, gm_gA_cp, gm_add, gm_sub, gm_mul, gm_neg, ↓reduceIte, Nat.reduceAdd, Nat.reduceLeDiff, true_and, and_true, and_self, true_or, or_true, false_and, and_false, false_or, or_false, eq_self, Nat.reduceEqDiff, Int.reduceEq, Int.reduceLT, Int.reduceLE, Int.reduceNeg, Int.reduceAdd, Int.reduceSub, Int.reduceMul, Int.reduceDiv, Int.reduceMod, reduceCtorEq, if_true, if_false, gm_w_id, xX9_houseWarms_0, gm_iald, gn_T_O, z148, z149, z150, l902, l903, i1, i2, w1, w2, List.append_assoc, List.cons_append, List.nil_append, e]
theorem gn_Am.wa {M : gm_M} {K V h : Int} (H : gn_Am M K V h) (d : Nat) (L : List Int) {x : Int} (hl : L.length ≤ 18) : gm_go (d + 3) 171 [.inr (.inr 148), .inl h, .inl x] (gn_T 184 148 958 M L) = some (some (.inl (gn_wa K V h x)), gn_T 184 148 958 M (L ++ gn_wl K)) := by
  obtain ⟨hL, ⟨h0, h6⟩, ⟨v1, v2⟩, hK⟩ := id H
  have hh : ∀ L' : List Int, gm_Lay (gn_T 184 148 958 M L') := fun L' => gn_T_Lay L' hL (by decide) (by decide)
  have z148 := gm_z148 hL
  have z149 := gm_z149 hL
  have z150 := gm_z150 hL
  have l902 := fun L' => gm_l902 (hh L')
  have l903 := fun L' => gm_l903 (hh L')
  have i1 := fun L' => gn_i149 (gn_T 184 148 958 M L') h0 h6
  have i2 := fun L' => gn_i150 (gn_T 184 148 958 M L') h0 h6
  have w1 : ∀ L', gm_gA (gn_T 184 148 958 M L') 149 h = K := fun L' => by rw [gn_T_A, if_neg (by omega)]; exact v1
  have w2 : ∀ L', gm_gA (gn_T 184 148 958 M L') 150 h = V := fun L' => by rw [gn_T_A, if_neg (by omega)]; exact v2
  have e0 := H.hw d L (x := x) (by omega)
  have e3 := H.b (d + 1) L 30 (by omega)
  have f3 := H.hw d (L ++ [30]) (x := x * 3) (by simp; omega)
  have e5 := H.b (d + 1) L 50 (by omega)
  have f5 := H.hw d (L ++ [50]) (x := x) (by simp; omega)
  have e7 := H.b (d + 1) L 71 (by omega)
  have f7 := H.hw d (L ++ [71]) (x := x) (by simp; omega)
  rw [List.append_assoc] at f3 f5 f7
  rw [eX9_warmsAct _ _ _ (Nat.le_of_ble_eq_true rfl)]

  rcases (by omega : K = 0 ∨ K = 1 ∨ K = 2 ∨ K = 3 ∨ K = 4 ∨ K = 5 ∨ K = 6) with rfl | rfl | rfl | rfl | rfl | rfl | rfl <;>
    simp (config := { maxSteps := 2000000 }) (disch := first | omega | assumption | (simp only [gm_isO_sF, gm_isO_sA, gm_isO_cp]; assumption)) only [gm_push, gm_iload, gm_lload, gm_aload, gm_istore, gm_astore, gm_iinc, gm_op2, gm_quo, gm_op1, gm_lop2, gm_lshl, gm_i2l, gm_l2i, gm_lcmp, gm_dup, gm_pop1, gm_dup2, gm_goto, gm_ifeq, gm_ifne, gm_iflt, gm_ifge, gm_ifgt, gm_ifle, gm_ceq, gm_cne, gm_clt, gm_cge, gm_cgt, gm_cle, gm_ifnull, gm_ifnonnull, gm_swk, gm_switch, gm_getI, gm_getR, gm_putI, gm_putZ, gm_putR, gm_new, gm_newarr, gm_iald, gm_cald, gm_zald, gm_lald, gm_aald, gm_iast, gm_cast, gm_zast, gm_last, gm_aast, gm_acp, gm_oinit, gm_back, gm_scall, gm_vcall, gm_iret, gm_zret, gm_cret, gm_lret, gm_aret, gm_vret, gm_slen, gm_schar, gm_sidx, gm_lget, gm_lset, gm_nl, gm_ent, gm_wd, gm_pop, gm_pad, gm_xl_c, gm_alen_u, gm_1_sF, gm_1_sA, gm_1_cp, gm_len_sF, gm_len_sA, gm_len_cp, Bool.or_true, Bool.true_or, gm_max_u, gm_min_u, gm_isO_sF, gm_isO_sA, gm_isO_cp, gm_gF_sF, gm_gF_sA, gm_gA_sF, gm_gA_sA, gm_gF_cp, gm_gA_cp, gm_add, gm_sub, gm_mul, gm_neg, ↓reduceIte, Nat.reduceAdd, Nat.reduceLeDiff, true_and, and_true, and_self, true_or, or_true, false_and, and_false, false_or, or_false, eq_self, Nat.reduceEqDiff, Int.reduceEq, Int.reduceLT, Int.reduceLE, Int.reduceNeg, Int.reduceAdd, Int.reduceSub, Int.reduceMul, Int.reduceDiv, Int.reduceMod, reduceCtorEq, if_true, if_false, gm_w_id, xX9_warmsAct_0, xX9_warmsAct_1, xX9_warmsAct_2, xX9_warmsAct_3, xX9_warmsAct_4, gm_iald, gn_T_O, z148, z149, z150, l902, l903, i1, i2, w1, w2, List.append_assoc, List.cons_append, List.nil_append, e0, e3, f3, e5, f5, e7, f7, gn_wa, gn_wl]
theorem gn_Am.hs {M : gm_M} {K V h : Int} (H : gn_Am M K V h) (d : Nat) (L : List Int) {x : Int} (hl : L.length ≤ 17) : gm_go (d + 4) 172 [.inr (.inr 148), .inl h, .inl x] (gn_T 184 148 958 M L) = some (some (.inl (gn_hv K V h x)), gn_T 184 148 958 M (L ++ 11 :: gn_wl K)) := by
  obtain ⟨hL, ⟨h0, h6⟩, ⟨v1, v2⟩, hK⟩ := id H
  have hh : ∀ L' : List Int, gm_Lay (gn_T 184 148 958 M L') := fun L' => gn_T_Lay L' hL (by decide) (by decide)
  have z148 := gm_z148 hL
  have z149 := gm_z149 hL
  have z150 := gm_z150 hL
  have l902 := fun L' => gm_l902 (hh L')
  have l903 := fun L' => gm_l903 (hh L')
  have i1 := fun L' => gn_i149 (gn_T 184 148 958 M L') h0 h6
  have i2 := fun L' => gn_i150 (gn_T 184 148 958 M L') h0 h6
  have w1 : ∀ L', gm_gA (gn_T 184 148 958 M L') 149 h = K := fun L' => by rw [gn_T_A, if_neg (by omega)]; exact v1
  have w2 : ∀ L', gm_gA (gn_T 184 148 958 M L') 150 h = V := fun L' => by rw [gn_T_A, if_neg (by omega)]; exact v2
  have e := H.b (d + 2) L 11 (by omega)
  have f := H.wa d (L ++ [11]) (x := x) (by simp; omega)
  rw [List.append_assoc] at f
  have hv : gn_wa K V h x - V = gn_hv K V h x := rfl
  rw [eX9_houseStores _ _ _ (Nat.le_of_ble_eq_true rfl)]

  simp (config := { maxSteps := 2000000 }) (disch := first | omega | assumption | (simp only [gm_isO_sF, gm_isO_sA, gm_isO_cp]; assumption)) only [gm_push, gm_iload, gm_lload, gm_aload, gm_istore, gm_astore, gm_iinc, gm_op2, gm_quo, gm_op1, gm_lop2, gm_lshl, gm_i2l, gm_l2i, gm_lcmp, gm_dup, gm_pop1, gm_dup2, gm_goto, gm_ifeq, gm_ifne, gm_iflt, gm_ifge, gm_ifgt, gm_ifle, gm_ceq, gm_cne, gm_clt, gm_cge, gm_cgt, gm_cle, gm_ifnull, gm_ifnonnull, gm_swk, gm_switch, gm_getI, gm_getR, gm_putI, gm_putZ, gm_putR, gm_new, gm_newarr, gm_iald, gm_cald, gm_zald, gm_lald, gm_aald, gm_iast, gm_cast, gm_zast, gm_last, gm_aast, gm_acp, gm_oinit, gm_back, gm_scall, gm_vcall, gm_iret, gm_zret, gm_cret, gm_lret, gm_aret, gm_vret, gm_slen, gm_schar, gm_sidx, gm_lget, gm_lset, gm_nl, gm_ent, gm_wd, gm_pop, gm_pad, gm_xl_c, gm_alen_u, gm_1_sF, gm_1_sA, gm_1_cp, gm_len_sF, gm_len_sA, gm_len_cp, Bool.or_true, Bool.true_or, gm_max_u, gm_min_u, gm_isO_sF, gm_isO_sA, gm_isO_cp, gm_gF_sF, gm_gF_sA, gm_gA_sF, gm_gA_sA, gm_gF_cp, gm_gA_cp, gm_add, gm_sub, gm_mul, gm_neg, ↓reduceIte, Nat.reduceAdd, Nat.reduceLeDiff, true_and, and_true, and_self, true_or, or_true, false_and, and_false, false_or, or_false, eq_self, Nat.reduceEqDiff, Int.reduceEq, Int.reduceLT, Int.reduceLE, Int.reduceNeg, Int.reduceAdd, Int.reduceSub, Int.reduceMul, Int.reduceDiv, Int.reduceMod, reduceCtorEq, if_true, if_false, gm_w_id, xX9_houseStores_0, gm_iald, gn_T_O, z148, z149, z150, l902, l903, i1, i2, w1, w2, List.append_assoc, List.cons_append, List.nil_append, e, f, hv]
theorem gn_Am.gs {M : gm_M} {K V h : Int} (H : gn_Am M K V h) (d : Nat) (L : List Int) {x : Int} (hl : L.length ≤ 16) : gm_go (d + 5) 173 [.inr (.inr 148), .inl h, .inl x] (gn_T 184 148 958 M L) = some (some (.inl (gm_xor (gn_hv K V h x) 6)), gn_T 184 148 958 M (L ++ 20 :: 11 :: gn_wl K)) := by
  obtain ⟨hL, ⟨h0, h6⟩, ⟨v1, v2⟩, hK⟩ := id H
  have hh : ∀ L' : List Int, gm_Lay (gn_T 184 148 958 M L') := fun L' => gn_T_Lay L' hL (by decide) (by decide)
  have z148 := gm_z148 hL
  have z149 := gm_z149 hL
  have z150 := gm_z150 hL
  have l902 := fun L' => gm_l902 (hh L')
  have l903 := fun L' => gm_l903 (hh L')
  have i1 := fun L' => gn_i149 (gn_T 184 148 958 M L') h0 h6
  have i2 := fun L' => gn_i150 (gn_T 184 148 958 M L') h0 h6
  have w1 : ∀ L', gm_gA (gn_T 184 148 958 M L') 149 h = K := fun L' => by rw [gn_T_A, if_neg (by omega)]; exact v1
  have w2 : ∀ L', gm_gA (gn_T 184 148 958 M L') 150 h = V := fun L' => by rw [gn_T_A, if_neg (by omega)]; exact v2
  have e := H.b (d + 3) L 20 (by omega)
  have f := H.hs d (L ++ [20]) (x := x) (by simp; omega)
  rw [List.append_assoc] at f
  rw [eX9_glassStores _ _ _ (Nat.le_of_ble_eq_true rfl)]

  simp (config := { maxSteps := 2000000 }) (disch := first | omega | assumption | (simp only [gm_isO_sF, gm_isO_sA, gm_isO_cp]; assumption)) only [gm_push, gm_iload, gm_lload, gm_aload, gm_istore, gm_astore, gm_iinc, gm_op2, gm_quo, gm_op1, gm_lop2, gm_lshl, gm_i2l, gm_l2i, gm_lcmp, gm_dup, gm_pop1, gm_dup2, gm_goto, gm_ifeq, gm_ifne, gm_iflt, gm_ifge, gm_ifgt, gm_ifle, gm_ceq, gm_cne, gm_clt, gm_cge, gm_cgt, gm_cle, gm_ifnull, gm_ifnonnull, gm_swk, gm_switch, gm_getI, gm_getR, gm_putI, gm_putZ, gm_putR, gm_new, gm_newarr, gm_iald, gm_cald, gm_zald, gm_lald, gm_aald, gm_iast, gm_cast, gm_zast, gm_last, gm_aast, gm_acp, gm_oinit, gm_back, gm_scall, gm_vcall, gm_iret, gm_zret, gm_cret, gm_lret, gm_aret, gm_vret, gm_slen, gm_schar, gm_sidx, gm_lget, gm_lset, gm_nl, gm_ent, gm_wd, gm_pop, gm_pad, gm_xl_c, gm_alen_u, gm_1_sF, gm_1_sA, gm_1_cp, gm_len_sF, gm_len_sA, gm_len_cp, Bool.or_true, Bool.true_or, gm_max_u, gm_min_u, gm_isO_sF, gm_isO_sA, gm_isO_cp, gm_gF_sF, gm_gF_sA, gm_gA_sF, gm_gA_sA, gm_gF_cp, gm_gA_cp, gm_add, gm_sub, gm_mul, gm_neg, ↓reduceIte, Nat.reduceAdd, Nat.reduceLeDiff, true_and, and_true, and_self, true_or, or_true, false_and, and_false, false_or, or_false, eq_self, Nat.reduceEqDiff, Int.reduceEq, Int.reduceLT, Int.reduceLE, Int.reduceNeg, Int.reduceAdd, Int.reduceSub, Int.reduceMul, Int.reduceDiv, Int.reduceMod, reduceCtorEq, if_true, if_false, gm_w_id, xX9_glassStores_0, gm_iald, gn_T_O, z148, z149, z150, l902, l903, i1, i2, w1, w2, List.append_assoc, List.cons_append, List.nil_append, e, f]
theorem gn_Am.sa {M : gm_M} {K V h : Int} (H : gn_Am M K V h) (d : Nat) (L : List Int) {x : Int} (hl : L.length ≤ 15) : gm_go (d + 6) 174 [.inr (.inr 148), .inl h, .inl x] (gn_T 184 148 958 M L) = some (some (.inl (gn_sa K V h x)), gn_T 184 148 958 M (L ++ gn_sl K)) := by
  obtain ⟨hL, ⟨h0, h6⟩, ⟨v1, v2⟩, hK⟩ := id H
  have hh : ∀ L' : List Int, gm_Lay (gn_T 184 148 958 M L') := fun L' => gn_T_Lay L' hL (by decide) (by decide)
  have z148 := gm_z148 hL
  have z149 := gm_z149 hL
  have z150 := gm_z150 hL
  have l902 := fun L' => gm_l902 (hh L')
  have l903 := fun L' => gm_l903 (hh L')
  have i1 := fun L' => gn_i149 (gn_T 184 148 958 M L') h0 h6
  have i2 := fun L' => gn_i150 (gn_T 184 148 958 M L') h0 h6
  have w1 : ∀ L', gm_gA (gn_T 184 148 958 M L') 149 h = K := fun L' => by rw [gn_T_A, if_neg (by omega)]; exact v1
  have w2 : ∀ L', gm_gA (gn_T 184 148 958 M L') 150 h = V := fun L' => by rw [gn_T_A, if_neg (by omega)]; exact v2
  have hw := gn_wl_n K
  have e0 := H.hs (d + 1) L (x := x) (by omega)
  have e1 := H.gs d L (x := x) (by omega)
  have e4 := H.b (d + 4) L 51 (by omega)
  have f4 := H.gs d (L ++ [51]) (x := x + 1) (by simp; omega)
  have e6 := H.b (d + 4) L 70 (by omega)
  have f6 := H.hs (d + 1) (L ++ [70]) (x := x) (by simp; omega)
  have g6 := H.hw (d + 3) (L ++ [70] ++ 11 :: gn_wl K) (x := 2) (by simp; omega)
  simp only [List.append_assoc, List.cons_append, List.nil_append] at f4 f6 g6
  have hsl : gn_sl K = if K = 1 then 20 :: 11 :: gn_wl K else if K = 4 then 51 :: 20 :: 11 :: gn_wl K else if K = 6 then 70 :: 11 :: gn_wl K ++ [10] else 11 :: gn_wl K := rfl
  have hsa : gn_sa K V h x = if K = 1 then gm_xor (gn_hv K V h x) 6 else if K = 4 then gm_xor (gn_hv K V h (x + 1)) 6 else if K = 6 then gn_hv K V h x + (2 + h) else gn_hv K V h x := rfl
  rw [hsl, hsa]
  clear hsl hsa
  rw [eX9_storesAct _ _ _ (Nat.le_of_ble_eq_true rfl)]

  rcases (by omega : K = 0 ∨ K = 1 ∨ K = 2 ∨ K = 3 ∨ K = 4 ∨ K = 5 ∨ K = 6) with rfl | rfl | rfl | rfl | rfl | rfl | rfl <;>
    simp (config := { maxSteps := 2000000 }) (disch := first | omega | assumption | (simp only [gm_isO_sF, gm_isO_sA, gm_isO_cp]; assumption)) only [gm_push, gm_iload, gm_lload, gm_aload, gm_istore, gm_astore, gm_iinc, gm_op2, gm_quo, gm_op1, gm_lop2, gm_lshl, gm_i2l, gm_l2i, gm_lcmp, gm_dup, gm_pop1, gm_dup2, gm_goto, gm_ifeq, gm_ifne, gm_iflt, gm_ifge, gm_ifgt, gm_ifle, gm_ceq, gm_cne, gm_clt, gm_cge, gm_cgt, gm_cle, gm_ifnull, gm_ifnonnull, gm_swk, gm_switch, gm_getI, gm_getR, gm_putI, gm_putZ, gm_putR, gm_new, gm_newarr, gm_iald, gm_cald, gm_zald, gm_lald, gm_aald, gm_iast, gm_cast, gm_zast, gm_last, gm_aast, gm_acp, gm_oinit, gm_back, gm_scall, gm_vcall, gm_iret, gm_zret, gm_cret, gm_lret, gm_aret, gm_vret, gm_slen, gm_schar, gm_sidx, gm_lget, gm_lset, gm_nl, gm_ent, gm_wd, gm_pop, gm_pad, gm_xl_c, gm_alen_u, gm_1_sF, gm_1_sA, gm_1_cp, gm_len_sF, gm_len_sA, gm_len_cp, Bool.or_true, Bool.true_or, gm_max_u, gm_min_u, gm_isO_sF, gm_isO_sA, gm_isO_cp, gm_gF_sF, gm_gF_sA, gm_gA_sF, gm_gA_sA, gm_gF_cp, gm_gA_cp, gm_add, gm_sub, gm_mul, gm_neg, ↓reduceIte, Nat.reduceAdd, Nat.reduceLeDiff, true_and, and_true, and_self, true_or, or_true, false_and, and_false, false_or, or_false, eq_self, Nat.reduceEqDiff, Int.reduceEq, Int.reduceLT, Int.reduceLE, Int.reduceNeg, Int.reduceAdd, Int.reduceSub, Int.reduceMul, Int.reduceDiv, Int.reduceMod, reduceCtorEq, if_true, if_false, gm_w_id, xX9_storesAct_0, xX9_storesAct_1, xX9_storesAct_2, xX9_storesAct_3, xX9_storesAct_4, gm_iald, gn_T_O, z148, z149, z150, l902, l903, i1, i2, w1, w2, List.append_assoc, List.cons_append, List.nil_append, e0, e1, e4, f4, e6, f6, g6]
theorem gn_Am.ht {M : gm_M} {K V h : Int} (H : gn_Am M K V h) (d : Nat) (L : List Int) {x : Int} (hl : L.length ≤ 14) : gm_go (d + 7) 175 [.inr (.inr 148), .inl h, .inl x] (gn_T 184 148 958 M L) = some (some (.inl (gn_sa K V h x * 2)), gn_T 184 148 958 M (L ++ 12 :: gn_sl K)) := by
  obtain ⟨hL, ⟨h0, h6⟩, ⟨v1, v2⟩, hK⟩ := id H
  have hh : ∀ L' : List Int, gm_Lay (gn_T 184 148 958 M L') := fun L' => gn_T_Lay L' hL (by decide) (by decide)
  have z148 := gm_z148 hL
  have z149 := gm_z149 hL
  have z150 := gm_z150 hL
  have l902 := fun L' => gm_l902 (hh L')
  have l903 := fun L' => gm_l903 (hh L')
  have i1 := fun L' => gn_i149 (gn_T 184 148 958 M L') h0 h6
  have i2 := fun L' => gn_i150 (gn_T 184 148 958 M L') h0 h6
  have w1 : ∀ L', gm_gA (gn_T 184 148 958 M L') 149 h = K := fun L' => by rw [gn_T_A, if_neg (by omega)]; exact v1
  have w2 : ∀ L', gm_gA (gn_T 184 148 958 M L') 150 h = V := fun L' => by rw [gn_T_A, if_neg (by omega)]; exact v2
  have e := H.b (d + 5) L 12 (by omega)
  have f := H.sa d (L ++ [12]) (x := x) (by simp; omega)
  rw [List.append_assoc] at f
  rw [eX9_houseTells _ _ _ (Nat.le_of_ble_eq_true rfl)]

  simp (config := { maxSteps := 2000000 }) (disch := first | omega | assumption | (simp only [gm_isO_sF, gm_isO_sA, gm_isO_cp]; assumption)) only [gm_push, gm_iload, gm_lload, gm_aload, gm_istore, gm_astore, gm_iinc, gm_op2, gm_quo, gm_op1, gm_lop2, gm_lshl, gm_i2l, gm_l2i, gm_lcmp, gm_dup, gm_pop1, gm_dup2, gm_goto, gm_ifeq, gm_ifne, gm_iflt, gm_ifge, gm_ifgt, gm_ifle, gm_ceq, gm_cne, gm_clt, gm_cge, gm_cgt, gm_cle, gm_ifnull, gm_ifnonnull, gm_swk, gm_switch, gm_getI, gm_getR, gm_putI, gm_putZ, gm_putR, gm_new, gm_newarr, gm_iald, gm_cald, gm_zald, gm_lald, gm_aald, gm_iast, gm_cast, gm_zast, gm_last, gm_aast, gm_acp, gm_oinit, gm_back, gm_scall, gm_vcall, gm_iret, gm_zret, gm_cret, gm_lret, gm_aret, gm_vret, gm_slen, gm_schar, gm_sidx, gm_lget, gm_lset, gm_nl, gm_ent, gm_wd, gm_pop, gm_pad, gm_xl_c, gm_alen_u, gm_1_sF, gm_1_sA, gm_1_cp, gm_len_sF, gm_len_sA, gm_len_cp, Bool.or_true, Bool.true_or, gm_max_u, gm_min_u, gm_isO_sF, gm_isO_sA, gm_isO_cp, gm_gF_sF, gm_gF_sA, gm_gA_sF, gm_gA_sA, gm_gF_cp, gm_gA_cp, gm_add, gm_sub, gm_mul, gm_neg, ↓reduceIte, Nat.reduceAdd, Nat.reduceLeDiff, true_and, and_true, and_self, true_or, or_true, false_and, and_false, false_or, or_false, eq_self, Nat.reduceEqDiff, Int.reduceEq, Int.reduceLT, Int.reduceLE, Int.reduceNeg, Int.reduceAdd, Int.reduceSub, Int.reduceMul, Int.reduceDiv, Int.reduceMod, reduceCtorEq, if_true, if_false, gm_w_id, xX9_houseTells_0, gm_iald, gn_T_O, z148, z149, z150, l902, l903, i1, i2, w1, w2, List.append_assoc, List.cons_append, List.nil_append, e, f]
theorem gn_Am.ta {M : gm_M} {K V h : Int} (H : gn_Am M K V h) (d : Nat) (L : List Int) {x : Int} (hl : L.length ≤ 8) : gm_go (d + 8) 176 [.inr (.inr 148), .inl h, .inl x] (gn_T 184 148 958 M L) = some (some (.inl (gn_ta K V h x)), gn_T 184 148 958 M (L ++ gn_tl K)) := by
  obtain ⟨hL, ⟨h0, h6⟩, ⟨v1, v2⟩, hK⟩ := id H
  have hh : ∀ L' : List Int, gm_Lay (gn_T 184 148 958 M L') := fun L' => gn_T_Lay L' hL (by decide) (by decide)
  have z148 := gm_z148 hL
  have z149 := gm_z149 hL
  have z150 := gm_z150 hL
  have l902 := fun L' => gm_l902 (hh L')
  have l903 := fun L' => gm_l903 (hh L')
  have i1 := fun L' => gn_i149 (gn_T 184 148 958 M L') h0 h6
  have i2 := fun L' => gn_i150 (gn_T 184 148 958 M L') h0 h6
  have w1 : ∀ L', gm_gA (gn_T 184 148 958 M L') 149 h = K := fun L' => by rw [gn_T_A, if_neg (by omega)]; exact v1
  have w2 : ∀ L', gm_gA (gn_T 184 148 958 M L') 150 h = V := fun L' => by rw [gn_T_A, if_neg (by omega)]; exact v2
  have hw := gn_sl_n K
  have e0 := H.ht d L (x := x) (by omega)
  have e4 := H.b (d + 6) L 40 (by omega)
  have f4 := H.ht d (L ++ [40]) (x := x) (by simp; omega)
  have g4 := H.sa (d + 1) (L ++ [40] ++ 12 :: gn_sl K) (x := 1) (by simp; omega)
  have e6 := H.b (d + 6) L 60 (by omega)
  have f6 := H.ht d (L ++ [60]) (x := x - h) (by simp; omega)
  simp only [List.append_assoc, List.cons_append, List.nil_append] at f4 f6 g4
  have hsl : gn_tl K = if K = 3 ∨ K = 6 then 40 :: 12 :: gn_sl K ++ gn_sl K else if K = 5 then 60 :: 12 :: gn_sl K else 12 :: gn_sl K := rfl
  have hsa : gn_ta K V h x = if K = 3 ∨ K = 6 then gn_sa K V h x * 2 + gn_sa K V h 1 else if K = 5 then gn_sa K V h (x - h) * 2 else gn_sa K V h x * 2 := rfl
  rw [hsl, hsa]
  clear hsl hsa
  rw [eX9_tellsAct _ _ _ (Nat.le_of_ble_eq_true rfl)]

  rcases (by omega : K = 0 ∨ K = 1 ∨ K = 2 ∨ K = 3 ∨ K = 4 ∨ K = 5 ∨ K = 6) with rfl | rfl | rfl | rfl | rfl | rfl | rfl <;>
    simp (config := { maxSteps := 2000000 }) (disch := first | omega | assumption | (simp only [gm_isO_sF, gm_isO_sA, gm_isO_cp]; assumption)) only [gm_push, gm_iload, gm_lload, gm_aload, gm_istore, gm_astore, gm_iinc, gm_op2, gm_quo, gm_op1, gm_lop2, gm_lshl, gm_i2l, gm_l2i, gm_lcmp, gm_dup, gm_pop1, gm_dup2, gm_goto, gm_ifeq, gm_ifne, gm_iflt, gm_ifge, gm_ifgt, gm_ifle, gm_ceq, gm_cne, gm_clt, gm_cge, gm_cgt, gm_cle, gm_ifnull, gm_ifnonnull, gm_swk, gm_switch, gm_getI, gm_getR, gm_putI, gm_putZ, gm_putR, gm_new, gm_newarr, gm_iald, gm_cald, gm_zald, gm_lald, gm_aald, gm_iast, gm_cast, gm_zast, gm_last, gm_aast, gm_acp, gm_oinit, gm_back, gm_scall, gm_vcall, gm_iret, gm_zret, gm_cret, gm_lret, gm_aret, gm_vret, gm_slen, gm_schar, gm_sidx, gm_lget, gm_lset, gm_nl, gm_ent, gm_wd, gm_pop, gm_pad, gm_xl_c, gm_alen_u, gm_1_sF, gm_1_sA, gm_1_cp, gm_len_sF, gm_len_sA, gm_len_cp, Bool.or_true, Bool.true_or, gm_max_u, gm_min_u, gm_isO_sF, gm_isO_sA, gm_isO_cp, gm_gF_sF, gm_gF_sA, gm_gA_sF, gm_gA_sA, gm_gF_cp, gm_gA_cp, gm_add, gm_sub, gm_mul, gm_neg, ↓reduceIte, Nat.reduceAdd, Nat.reduceLeDiff, true_and, and_true, and_self, true_or, or_true, false_and, and_false, false_or, or_false, eq_self, Nat.reduceEqDiff, Int.reduceEq, Int.reduceLT, Int.reduceLE, Int.reduceNeg, Int.reduceAdd, Int.reduceSub, Int.reduceMul, Int.reduceDiv, Int.reduceMod, reduceCtorEq, if_true, if_false, gm_w_id, xX9_tellsAct_0, xX9_tellsAct_1, xX9_tellsAct_2, xX9_tellsAct_3, gm_iald, gn_T_O, z148, z149, z150, l902, l903, i1, i2, w1, w2, List.append_assoc, List.cons_append, List.nil_append, e0, e4, f4, g4, e6, f6]
theorem gn_T_nil (rw cl : Int) (fd : Nat) (M : gm_M) : gm_sF M fd cl 0 = gn_T rw cl fd M [] := by
  have e1 : (gm_sF M fd cl 0).2.1 = (gn_T rw cl fd M []).2.1 := rfl
  have e2 : (gm_sF M fd cl 0).2.2 = (gn_T rw cl fd M []).2.2 := by
    funext a i
    have h2 := gn_T_A rw cl fd M [] a i
    rw [if_neg (by simp)] at h2
    exact h2.symm
  exact Prod.ext rfl (Prod.ext e1 e2)
theorem s_act (h a x : Int) (hh : gm_i h) (ha : gm_i a) (hx : gm_i x) : gn_Si 82 177 [.inl h, .inl a, .inl x] := fun M d xs Ln hI hp => by
  have hL := hI.L
  have hm := gn_many_b hI
  have z1 := gm_z1 hL
  have z91 := gm_z91 hL
  have l11 := gm_l811 hL
  have z148 := gm_z148 hL
  have h0L : gm_Lay (gn_T 92 91 301 M []) := gn_T_Lay [] hL (by decide) (by decide)
  have m7 : gm_many (gn_T 92 91 301 M []) = gm_many M := rfl
  have ef : gm_go (d + 19) 21 [.inr (.inr 91)] M = some (none, gn_T 92 91 301 M []) := by
    rw [← gn_T_nil, eX3_forget _ _ _ (Nat.le_of_ble_eq_true rfl)]
    simp (config := { maxSteps := 2000000 }) (disch := first | omega | assumption | (simp only [gm_isO_sF, gm_isO_sA, gm_isO_cp]; assumption)) only [gm_push, gm_iload, gm_lload, gm_aload, gm_istore, gm_astore, gm_iinc, gm_op2, gm_quo, gm_op1, gm_lop2, gm_lshl, gm_i2l, gm_l2i, gm_lcmp, gm_dup, gm_pop1, gm_dup2, gm_goto, gm_ifeq, gm_ifne, gm_iflt, gm_ifge, gm_ifgt, gm_ifle, gm_ceq, gm_cne, gm_clt, gm_cge, gm_cgt, gm_cle, gm_ifnull, gm_ifnonnull, gm_swk, gm_switch, gm_getI, gm_getR, gm_putI, gm_putZ, gm_putR, gm_new, gm_newarr, gm_iald, gm_cald, gm_zald, gm_lald, gm_aald, gm_iast, gm_cast, gm_zast, gm_last, gm_aast, gm_acp, gm_oinit, gm_back, gm_scall, gm_vcall, gm_iret, gm_zret, gm_cret, gm_lret, gm_aret, gm_vret, gm_slen, gm_schar, gm_sidx, gm_lget, gm_lset, gm_nl, gm_ent, gm_wd, gm_pop, gm_pad, gm_xl_c, gm_alen_u, gm_1_sF, gm_1_sA, gm_1_cp, gm_len_sF, gm_len_sA, gm_len_cp, Bool.or_true, Bool.true_or, gm_max_u, gm_min_u, gm_isO_sF, gm_isO_sA, gm_isO_cp, gm_gF_sF, gm_gF_sA, gm_gA_sF, gm_gA_sA, gm_gF_cp, gm_gA_cp, gm_add, gm_sub, gm_mul, gm_neg, ↓reduceIte, Nat.reduceAdd, Nat.reduceLeDiff, true_and, and_true, and_self, true_or, or_true, false_and, and_false, false_or, or_false, eq_self, Nat.reduceEqDiff, Int.reduceEq, Int.reduceLT, Int.reduceLE, Int.reduceNeg, Int.reduceAdd, Int.reduceSub, Int.reduceMul, Int.reduceDiv, Int.reduceMod, reduceCtorEq, if_true, if_false, gm_w_id, xX3_forget_0, z91]
  have ea := r_X8_houseAt (d + 18) h (gn_T 92 91 301 M []) h0L (by rw [m7]; exact hm) hh
  have e1 := gn_within (d + 18) a 2 (gn_T 92 91 301 M []) ha ⟨by decide, by decide⟩
  -- what both end in
  have fin : ∀ L1 : List Int, L1.length ≤ 20 → gn_Inv (gn_T 184 148 958 (gn_T 92 91 301 M L1) L1) ∧ gm_pu xs Ln (gn_T 184 148 958 (gn_T 92 91 301 M L1) L1) := fun L1 hl => by
    have hF : ∀ (f : Nat) (o : Int), ¬ (f = 301 ∧ o = 91) → ¬ (f = 958 ∧ o = 148) → gm_gF (gn_T 184 148 958 (gn_T 92 91 301 M L1) L1) f o = gm_gF M f o := fun f o y1 y2 => by rw [gn_T_F, if_neg y2, gn_T_F, if_neg y1]
    have hA : ∀ a i : Int, a ≠ 92 → a ≠ 184 → gm_gA (gn_T 184 148 958 (gn_T 92 91 301 M L1) L1) a i = gm_gA M a i := fun a i y1 y2 => by rw [gn_T_A, if_neg (by omega), gn_T_A, if_neg (by omega)]
    have hL2 : gm_Lay (gn_T 184 148 958 (gn_T 92 91 301 M L1) L1) := gn_T_Lay L1 (gn_T_Lay L1 hL (by decide) (by decide)) (by decide) (by decide)
    have hW : ∀ p, p ≠ 3 → gn_W p M (gn_T 184 148 958 (gn_T 92 91 301 M L1) L1) := fun p hp0 => by
      refine ⟨fun f o z => ?_, fun a i z => ?_⟩
      · have : ¬ (f = 301 ∧ o = 91) ∧ ¬ (f = 958 ∧ o = 148) := by rcases p with _ | _ | _ | _ | _ | _ | p <;> simp only [gn_U] at z <;> first | omega | exact absurd rfl hp0
        exact hF f o this.1 this.2
      · have : a ≠ 92 ∧ a ≠ 184 := by rcases p with _ | _ | _ | _ | _ | _ | p <;> simp only [gn_V] at z <;> first | omega | exact absurd rfl hp0
        exact hA a i this.1 this.2
    have hg := hF 810 1 (by decide) (by decide)
    obtain ⟨g0, g1, g2, g3, g4, g5, g6, g7, g8⟩ := hI
    obtain ⟨x1, x2⟩ := gn_W0 hg (hW 0 (by decide)) ⟨g1, g2⟩
    have f3 : gm_gF (gn_T 184 148 958 (gn_T 92 91 301 M L1) L1) 301 91 = (L1.length : Int) := rfl
    have f9 : gm_gF (gn_T 184 148 958 (gn_T 92 91 301 M L1) L1) 958 148 = (L1.length : Int) := rfl
    refine ⟨⟨hL2, x1, x2, gn_W1 (hW 1 (by decide)) g3, gn_W2 (hW 2 (by decide)) g4, ⟨f9.trans f3.symm, by rw [f3]; omega, fun i i1 i2 i3 => ?_⟩, gn_W4 (hW 4 (by decide)) g6, gn_W5 hg (hW 5 (by decide)) g7, gn_W6 (hW 6 (by decide)) g8⟩, gn_pu.e (fun a i z => hA a i (by omega) (by omega)) (hF 9999 0 (by decide) (by decide)) hp⟩
    rw [f3] at i3
    rw [gn_T_A, if_pos ⟨rfl, i1, i3⟩, gn_T_A, if_neg (by omega), gn_T_A, if_pos ⟨rfl, i1, i3⟩]
  by_cases c1 : 0 ≤ h ∧ h < gm_many M
  · have hpos : ¬ (8 + 3 * h ≤ 0) := by omega
    have ea' : gm_go (d + 19) 92 [.inr (.inr 1), .inl h] (gn_T 92 91 301 M []) = some (some (.inr (.inr (8 + 3 * h))), gn_T 92 91 301 M []) := by
      have : gm_ho (gn_T 92 91 301 M []) h = 8 + 3 * h := if_pos c1
      rw [this] at ea
      exact ea
    by_cases c2 : 0 ≤ a ∧ a ≤ 2
    · rw [if_pos c2] at e1
      obtain ⟨ho, l205, l206, k205, v1, v2, v3, v4⟩ := gn_hs hI c1.1 c1.2
      obtain ⟨b1, b2, b3, -⟩ := hI.hI c1.1 c1.2
      obtain ⟨r1, r2, -⟩ := hI.hR c1.1 c1.2
      have H : gn_Ah M (8 + 3 * h) (gm_gF M 201 (8 + 3 * h)) (gm_gF M 202 (8 + 3 * h)) h := ⟨hL, ho, ⟨b1, rfl, rfl⟩, b2, hp.1, hp.2.1⟩
      have f201 : gm_gF (gn_T 92 91 301 M []) 201 (8 + 3 * h) = gm_gF M 201 (8 + 3 * h) := rfl
      have u0 := H.wa (d + 14) [] (x := x) (dep := 0) (by decide) (by simp)
      have u1 := H.sa (d + 8) [] (x := x) (dep := 0) (by decide) (by simp)
      have u2 := H.ta (d + 4) [] (x := x) (dep := 0) (by decide) (by simp)
      rw [List.nil_append] at u0 u1 u2
      have pl : ∀ (b v : Int) (M2 : gm_M), gm_go (d + 18) 23 [.inr (.inr 91), .inr (.inr (8 + 3 * h)), .inl (gm_gF M 201 (8 + 3 * h)), .inl b, .inl x, .inl 0] (gn_T 92 91 301 M []) = some (some (.inl v), M2) → gm_go (d + 19) 22 [.inr (.inr 91), .inr (.inr (8 + 3 * h)), .inl b, .inl x] (gn_T 92 91 301 M []) = some (some (.inl v), M2) := fun b v M2 e => by
        rw [eX3_play _ _ _ (Nat.le_of_ble_eq_true rfl)]
        simp (config := { maxSteps := 2000000 }) (disch := first | omega | assumption | (simp only [gm_isO_sF, gm_isO_sA, gm_isO_cp]; assumption)) only [gm_push, gm_iload, gm_lload, gm_aload, gm_istore, gm_astore, gm_iinc, gm_op2, gm_quo, gm_op1, gm_lop2, gm_lshl, gm_i2l, gm_l2i, gm_lcmp, gm_dup, gm_pop1, gm_dup2, gm_goto, gm_ifeq, gm_ifne, gm_iflt, gm_ifge, gm_ifgt, gm_ifle, gm_ceq, gm_cne, gm_clt, gm_cge, gm_cgt, gm_cle, gm_ifnull, gm_ifnonnull, gm_swk, gm_switch, gm_getI, gm_getR, gm_putI, gm_putZ, gm_putR, gm_new, gm_newarr, gm_iald, gm_cald, gm_zald, gm_lald, gm_aald, gm_iast, gm_cast, gm_zast, gm_last, gm_aast, gm_acp, gm_oinit, gm_back, gm_scall, gm_vcall, gm_iret, gm_zret, gm_cret, gm_lret, gm_aret, gm_vret, gm_slen, gm_schar, gm_sidx, gm_lget, gm_lset, gm_nl, gm_ent, gm_wd, gm_pop, gm_pad, gm_xl_c, gm_alen_u, gm_1_sF, gm_1_sA, gm_1_cp, gm_len_sF, gm_len_sA, gm_len_cp, Bool.or_true, Bool.true_or, gm_max_u, gm_min_u, gm_isO_sF, gm_isO_sA, gm_isO_cp, gm_gF_sF, gm_gF_sA, gm_gA_sF, gm_gA_sA, gm_gF_cp, gm_gA_cp, gm_add, gm_sub, gm_mul, gm_neg, ↓reduceIte, Nat.reduceAdd, Nat.reduceLeDiff, true_and, and_true, and_self, true_or, or_true, false_and, and_false, false_or, or_false, eq_self, Nat.reduceEqDiff, Int.reduceEq, Int.reduceLT, Int.reduceLE, Int.reduceNeg, Int.reduceAdd, Int.reduceSub, Int.reduceMul, Int.reduceDiv, Int.reduceMod, reduceCtorEq, if_true, if_false, gm_w_id, xX3_play_0, gn_T_O, gn_T_F, z91, ho, hpos, e]
      have p0 := pl _ _ _ u0
      have p1 := pl _ _ _ u1
      have p2 := pl _ _ _ u2
      -- the model
      have hm1 : ∀ L1 : List Int, gn_Am (gn_T 92 91 301 M L1) (gm_gF M 201 (8 + 3 * h)) (gm_gF M 202 (8 + 3 * h)) h := fun L1 => ⟨gn_T_Lay L1 hL (by decide) (by decide), ⟨c1.1, by omega⟩, ⟨r1, r2⟩, b2⟩
      have zz : ∀ L1 : List Int, gm_isO 9 (gn_T 92 91 301 M L1) 148 = true := fun L1 => z148
      have eb : ∀ L1 : List Int, gm_go (d + 19) 101 [.inr (.inr 148), .inl h] (gn_T 184 148 958 (gn_T 92 91 301 M L1) []) = some (some (.inl 1), gn_T 184 148 958 (gn_T 92 91 301 M L1) []) := fun L1 => by
        have := r_X9_isHouse (d + 17) h (gm_many M) (gn_T 184 148 958 (gn_T 92 91 301 M L1) []) (gn_T_Lay [] (hm1 L1).1 (by decide) (by decide)) hI.2.2.1.1.1 hm hh
        rw [if_pos c1] at this
        exact this
      have e2 : ∀ L1 : List Int, gm_go (d + 19) 100 [.inr (.inr 148), .inl a, .inl 0, .inl 2] (gn_T 184 148 958 (gn_T 92 91 301 M L1) []) = some (some (.inl 1), gn_T 184 148 958 (gn_T 92 91 301 M L1) []) := fun L1 => by
        have := r_X9_in (d + 18) a 0 2 (gn_T 184 148 958 (gn_T 92 91 301 M L1) []) ha ⟨by decide, by decide⟩ ⟨by decide, by decide⟩
        rw [if_pos c2] at this
        exact this
      have w0 := gn_wl_n (gm_gF M 201 (8 + 3 * h))
      have w1 := gn_sl_n (gm_gF M 201 (8 + 3 * h))
      have w2 := gn_tl_n (gm_gF M 201 (8 + 3 * h))
      have y0 := fun L1 => (hm1 L1).wa (d + 16) [] (x := x) (by simp)
      have y1 := fun L1 => (hm1 L1).sa (d + 13) [] (x := x) (by simp)
      have y2 := fun L1 => (hm1 L1).ta (d + 11) [] (x := x) (by simp)
      simp only [List.nil_append] at y0 y1 y2
      have tn := fun L1 => gn_T_nil 184 148 958 (gn_T 92 91 301 M L1)
      rcases (by omega : a = 0 ∨ a = 1 ∨ a = 2) with rfl | rfl | rfl
      · refine ⟨gn_wa (gm_gF M 201 (8 + 3 * h)) (gm_gF M 202 (8 + 3 * h)) h x, gn_T 92 91 301 M (gn_wl (gm_gF M 201 (8 + 3 * h))), gn_T 184 148 958 (gn_T 92 91 301 M (gn_wl (gm_gF M 201 (8 + 3 * h)))) (gn_wl (gm_gF M 201 (8 + 3 * h))), ?_, ?_, (fin _ (by omega)).1, (fin _ (by omega)).2⟩
        · rw [eX8_act _ _ _ (Nat.le_of_ble_eq_true rfl)]
          simp (config := { maxSteps := 2000000 }) (disch := first | omega | assumption | (simp only [gm_isO_sF, gm_isO_sA, gm_isO_cp]; assumption)) only [gm_push, gm_iload, gm_lload, gm_aload, gm_istore, gm_astore, gm_iinc, gm_op2, gm_quo, gm_op1, gm_lop2, gm_lshl, gm_i2l, gm_l2i, gm_lcmp, gm_dup, gm_pop1, gm_dup2, gm_goto, gm_ifeq, gm_ifne, gm_iflt, gm_ifge, gm_ifgt, gm_ifle, gm_ceq, gm_cne, gm_clt, gm_cge, gm_cgt, gm_cle, gm_ifnull, gm_ifnonnull, gm_swk, gm_switch, gm_getI, gm_getR, gm_putI, gm_putZ, gm_putR, gm_new, gm_newarr, gm_iald, gm_cald, gm_zald, gm_lald, gm_aald, gm_iast, gm_cast, gm_zast, gm_last, gm_aast, gm_acp, gm_oinit, gm_back, gm_scall, gm_vcall, gm_iret, gm_zret, gm_cret, gm_lret, gm_aret, gm_vret, gm_slen, gm_schar, gm_sidx, gm_lget, gm_lset, gm_nl, gm_ent, gm_wd, gm_pop, gm_pad, gm_xl_c, gm_alen_u, gm_1_sF, gm_1_sA, gm_1_cp, gm_len_sF, gm_len_sA, gm_len_cp, Bool.or_true, Bool.true_or, gm_max_u, gm_min_u, gm_isO_sF, gm_isO_sA, gm_isO_cp, gm_gF_sF, gm_gF_sA, gm_gA_sF, gm_gA_sA, gm_gF_cp, gm_gA_cp, gm_add, gm_sub, gm_mul, gm_neg, ↓reduceIte, Nat.reduceAdd, Nat.reduceLeDiff, true_and, and_true, and_self, true_or, or_true, false_and, and_false, false_or, or_false, eq_self, Nat.reduceEqDiff, Int.reduceEq, Int.reduceLT, Int.reduceLE, Int.reduceNeg, Int.reduceAdd, Int.reduceSub, Int.reduceMul, Int.reduceDiv, Int.reduceMod, reduceCtorEq, if_true, if_false, gm_w_id, xX8_act_0, xX8_act_1, xX8_act_2, gn_T_O, gn_T_F, z1, z91, l11, ef, ea', e1, ho, hpos, p0]
        · rw [eX9_act _ _ _ (Nat.le_of_ble_eq_true rfl)]
          simp (config := { maxSteps := 2000000 }) (disch := first | omega | assumption | (simp only [gm_isO_sF, gm_isO_sA, gm_isO_cp]; assumption)) only [gm_push, gm_iload, gm_lload, gm_aload, gm_istore, gm_astore, gm_iinc, gm_op2, gm_quo, gm_op1, gm_lop2, gm_lshl, gm_i2l, gm_l2i, gm_lcmp, gm_dup, gm_pop1, gm_dup2, gm_goto, gm_ifeq, gm_ifne, gm_iflt, gm_ifge, gm_ifgt, gm_ifle, gm_ceq, gm_cne, gm_clt, gm_cge, gm_cgt, gm_cle, gm_ifnull, gm_ifnonnull, gm_swk, gm_switch, gm_getI, gm_getR, gm_putI, gm_putZ, gm_putR, gm_new, gm_newarr, gm_iald, gm_cald, gm_zald, gm_lald, gm_aald, gm_iast, gm_cast, gm_zast, gm_last, gm_aast, gm_acp, gm_oinit, gm_back, gm_scall, gm_vcall, gm_iret, gm_zret, gm_cret, gm_lret, gm_aret, gm_vret, gm_slen, gm_schar, gm_sidx, gm_lget, gm_lset, gm_nl, gm_ent, gm_wd, gm_pop, gm_pad, gm_xl_c, gm_alen_u, gm_1_sF, gm_1_sA, gm_1_cp, gm_len_sF, gm_len_sA, gm_len_cp, Bool.or_true, Bool.true_or, gm_max_u, gm_min_u, gm_isO_sF, gm_isO_sA, gm_isO_cp, gm_gF_sF, gm_gF_sA, gm_gA_sF, gm_gA_sA, gm_gF_cp, gm_gA_cp, gm_add, gm_sub, gm_mul, gm_neg, ↓reduceIte, Nat.reduceAdd, Nat.reduceLeDiff, true_and, and_true, and_self, true_or, or_true, false_and, and_false, false_or, or_false, eq_self, Nat.reduceEqDiff, Int.reduceEq, Int.reduceLT, Int.reduceLE, Int.reduceNeg, Int.reduceAdd, Int.reduceSub, Int.reduceMul, Int.reduceDiv, Int.reduceMod, reduceCtorEq, if_true, if_false, gm_w_id, xX9_act_0, xX9_act_1, xX9_act_2, xX9_act_3, xX9_act_4, xX9_act_5, gn_T_O, z148, tn, eb, e2, y0]
      · refine ⟨gn_sa (gm_gF M 201 (8 + 3 * h)) (gm_gF M 202 (8 + 3 * h)) h x, gn_T 92 91 301 M (gn_sl (gm_gF M 201 (8 + 3 * h))), gn_T 184 148 958 (gn_T 92 91 301 M (gn_sl (gm_gF M 201 (8 + 3 * h)))) (gn_sl (gm_gF M 201 (8 + 3 * h))), ?_, ?_, (fin _ (by omega)).1, (fin _ (by omega)).2⟩
        · rw [eX8_act _ _ _ (Nat.le_of_ble_eq_true rfl)]
          simp (config := { maxSteps := 2000000 }) (disch := first | omega | assumption | (simp only [gm_isO_sF, gm_isO_sA, gm_isO_cp]; assumption)) only [gm_push, gm_iload, gm_lload, gm_aload, gm_istore, gm_astore, gm_iinc, gm_op2, gm_quo, gm_op1, gm_lop2, gm_lshl, gm_i2l, gm_l2i, gm_lcmp, gm_dup, gm_pop1, gm_dup2, gm_goto, gm_ifeq, gm_ifne, gm_iflt, gm_ifge, gm_ifgt, gm_ifle, gm_ceq, gm_cne, gm_clt, gm_cge, gm_cgt, gm_cle, gm_ifnull, gm_ifnonnull, gm_swk, gm_switch, gm_getI, gm_getR, gm_putI, gm_putZ, gm_putR, gm_new, gm_newarr, gm_iald, gm_cald, gm_zald, gm_lald, gm_aald, gm_iast, gm_cast, gm_zast, gm_last, gm_aast, gm_acp, gm_oinit, gm_back, gm_scall, gm_vcall, gm_iret, gm_zret, gm_cret, gm_lret, gm_aret, gm_vret, gm_slen, gm_schar, gm_sidx, gm_lget, gm_lset, gm_nl, gm_ent, gm_wd, gm_pop, gm_pad, gm_xl_c, gm_alen_u, gm_1_sF, gm_1_sA, gm_1_cp, gm_len_sF, gm_len_sA, gm_len_cp, Bool.or_true, Bool.true_or, gm_max_u, gm_min_u, gm_isO_sF, gm_isO_sA, gm_isO_cp, gm_gF_sF, gm_gF_sA, gm_gA_sF, gm_gA_sA, gm_gF_cp, gm_gA_cp, gm_add, gm_sub, gm_mul, gm_neg, ↓reduceIte, Nat.reduceAdd, Nat.reduceLeDiff, true_and, and_true, and_self, true_or, or_true, false_and, and_false, false_or, or_false, eq_self, Nat.reduceEqDiff, Int.reduceEq, Int.reduceLT, Int.reduceLE, Int.reduceNeg, Int.reduceAdd, Int.reduceSub, Int.reduceMul, Int.reduceDiv, Int.reduceMod, reduceCtorEq, if_true, if_false, gm_w_id, xX8_act_0, xX8_act_1, xX8_act_2, gn_T_O, gn_T_F, z1, z91, l11, ef, ea', e1, ho, hpos, p1]
        · rw [eX9_act _ _ _ (Nat.le_of_ble_eq_true rfl)]
          simp (config := { maxSteps := 2000000 }) (disch := first | omega | assumption | (simp only [gm_isO_sF, gm_isO_sA, gm_isO_cp]; assumption)) only [gm_push, gm_iload, gm_lload, gm_aload, gm_istore, gm_astore, gm_iinc, gm_op2, gm_quo, gm_op1, gm_lop2, gm_lshl, gm_i2l, gm_l2i, gm_lcmp, gm_dup, gm_pop1, gm_dup2, gm_goto, gm_ifeq, gm_ifne, gm_iflt, gm_ifge, gm_ifgt, gm_ifle, gm_ceq, gm_cne, gm_clt, gm_cge, gm_cgt, gm_cle, gm_ifnull, gm_ifnonnull, gm_swk, gm_switch, gm_getI, gm_getR, gm_putI, gm_putZ, gm_putR, gm_new, gm_newarr, gm_iald, gm_cald, gm_zald, gm_lald, gm_aald, gm_iast, gm_cast, gm_zast, gm_last, gm_aast, gm_acp, gm_oinit, gm_back, gm_scall, gm_vcall, gm_iret, gm_zret, gm_cret, gm_lret, gm_aret, gm_vret, gm_slen, gm_schar, gm_sidx, gm_lget, gm_lset, gm_nl, gm_ent, gm_wd, gm_pop, gm_pad, gm_xl_c, gm_alen_u, gm_1_sF, gm_1_sA, gm_1_cp, gm_len_sF, gm_len_sA, gm_len_cp, Bool.or_true, Bool.true_or, gm_max_u, gm_min_u, gm_isO_sF, gm_isO_sA, gm_isO_cp, gm_gF_sF, gm_gF_sA, gm_gA_sF, gm_gA_sA, gm_gF_cp, gm_gA_cp, gm_add, gm_sub, gm_mul, gm_neg, ↓reduceIte, Nat.reduceAdd, Nat.reduceLeDiff, true_and, and_true, and_self, true_or, or_true, false_and, and_false, false_or, or_false, eq_self, Nat.reduceEqDiff, Int.reduceEq, Int.reduceLT, Int.reduceLE, Int.reduceNeg, Int.reduceAdd, Int.reduceSub, Int.reduceMul, Int.reduceDiv, Int.reduceMod, reduceCtorEq, if_true, if_false, gm_w_id, xX9_act_0, xX9_act_1, xX9_act_2, xX9_act_3, xX9_act_4, xX9_act_5, gn_T_O, z148, tn, eb, e2, y1]
      · refine ⟨gn_ta (gm_gF M 201 (8 + 3 * h)) (gm_gF M 202 (8 + 3 * h)) h x, gn_T 92 91 301 M (gn_tl (gm_gF M 201 (8 + 3 * h))), gn_T 184 148 958 (gn_T 92 91 301 M (gn_tl (gm_gF M 201 (8 + 3 * h)))) (gn_tl (gm_gF M 201 (8 + 3 * h))), ?_, ?_, (fin _ (by omega)).1, (fin _ (by omega)).2⟩
        · rw [eX8_act _ _ _ (Nat.le_of_ble_eq_true rfl)]
          simp (config := { maxSteps := 2000000 }) (disch := first | omega | assumption | (simp only [gm_isO_sF, gm_isO_sA, gm_isO_cp]; assumption)) only [gm_push, gm_iload, gm_lload, gm_aload, gm_istore, gm_astore, gm_iinc, gm_op2, gm_quo, gm_op1, gm_lop2, gm_lshl, gm_i2l, gm_l2i, gm_lcmp, gm_dup, gm_pop1, gm_dup2, gm_goto, gm_ifeq, gm_ifne, gm_iflt, gm_ifge, gm_ifgt, gm_ifle, gm_ceq, gm_cne, gm_clt, gm_cge, gm_cgt, gm_cle, gm_ifnull, gm_ifnonnull, gm_swk, gm_switch, gm_getI, gm_getR, gm_putI, gm_putZ, gm_putR, gm_new, gm_newarr, gm_iald, gm_cald, gm_zald, gm_lald, gm_aald, gm_iast, gm_cast, gm_zast, gm_last, gm_aast, gm_acp, gm_oinit, gm_back, gm_scall, gm_vcall, gm_iret, gm_zret, gm_cret, gm_lret, gm_aret, gm_vret, gm_slen, gm_schar, gm_sidx, gm_lget, gm_lset, gm_nl, gm_ent, gm_wd, gm_pop, gm_pad, gm_xl_c, gm_alen_u, gm_1_sF, gm_1_sA, gm_1_cp, gm_len_sF, gm_len_sA, gm_len_cp, Bool.or_true, Bool.true_or, gm_max_u, gm_min_u, gm_isO_sF, gm_isO_sA, gm_isO_cp, gm_gF_sF, gm_gF_sA, gm_gA_sF, gm_gA_sA, gm_gF_cp, gm_gA_cp, gm_add, gm_sub, gm_mul, gm_neg, ↓reduceIte, Nat.reduceAdd, Nat.reduceLeDiff, true_and, and_true, and_self, true_or, or_true, false_and, and_false, false_or, or_false, eq_self, Nat.reduceEqDiff, Int.reduceEq, Int.reduceLT, Int.reduceLE, Int.reduceNeg, Int.reduceAdd, Int.reduceSub, Int.reduceMul, Int.reduceDiv, Int.reduceMod, reduceCtorEq, if_true, if_false, gm_w_id, xX8_act_0, xX8_act_1, xX8_act_2, gn_T_O, gn_T_F, z1, z91, l11, ef, ea', e1, ho, hpos, p2]
        · rw [eX9_act _ _ _ (Nat.le_of_ble_eq_true rfl)]
          simp (config := { maxSteps := 2000000 }) (disch := first | omega | assumption | (simp only [gm_isO_sF, gm_isO_sA, gm_isO_cp]; assumption)) only [gm_push, gm_iload, gm_lload, gm_aload, gm_istore, gm_astore, gm_iinc, gm_op2, gm_quo, gm_op1, gm_lop2, gm_lshl, gm_i2l, gm_l2i, gm_lcmp, gm_dup, gm_pop1, gm_dup2, gm_goto, gm_ifeq, gm_ifne, gm_iflt, gm_ifge, gm_ifgt, gm_ifle, gm_ceq, gm_cne, gm_clt, gm_cge, gm_cgt, gm_cle, gm_ifnull, gm_ifnonnull, gm_swk, gm_switch, gm_getI, gm_getR, gm_putI, gm_putZ, gm_putR, gm_new, gm_newarr, gm_iald, gm_cald, gm_zald, gm_lald, gm_aald, gm_iast, gm_cast, gm_zast, gm_last, gm_aast, gm_acp, gm_oinit, gm_back, gm_scall, gm_vcall, gm_iret, gm_zret, gm_cret, gm_lret, gm_aret, gm_vret, gm_slen, gm_schar, gm_sidx, gm_lget, gm_lset, gm_nl, gm_ent, gm_wd, gm_pop, gm_pad, gm_xl_c, gm_alen_u, gm_1_sF, gm_1_sA, gm_1_cp, gm_len_sF, gm_len_sA, gm_len_cp, Bool.or_true, Bool.true_or, gm_max_u, gm_min_u, gm_isO_sF, gm_isO_sA, gm_isO_cp, gm_gF_sF, gm_gF_sA, gm_gA_sF, gm_gA_sA, gm_gF_cp, gm_gA_cp, gm_add, gm_sub, gm_mul, gm_neg, ↓reduceIte, Nat.reduceAdd, Nat.reduceLeDiff, true_and, and_true, and_self, true_or, or_true, false_and, and_false, false_or, or_false, eq_self, Nat.reduceEqDiff, Int.reduceEq, Int.reduceLT, Int.reduceLE, Int.reduceNeg, Int.reduceAdd, Int.reduceSub, Int.reduceMul, Int.reduceDiv, Int.reduceMod, reduceCtorEq, if_true, if_false, gm_w_id, xX9_act_0, xX9_act_1, xX9_act_2, xX9_act_3, xX9_act_4, xX9_act_5, gn_T_O, z148, tn, eb, e2, y2]
    · rw [if_neg c2] at e1
      refine ⟨0, gn_T 92 91 301 M [], gn_T 184 148 958 (gn_T 92 91 301 M []) [], ?_, ?_, (fin [] (by decide)).1, (fin [] (by decide)).2⟩
      · rw [eX8_act _ _ _ (Nat.le_of_ble_eq_true rfl)]
        simp (config := { maxSteps := 2000000 }) (disch := first | omega | assumption | (simp only [gm_isO_sF, gm_isO_sA, gm_isO_cp]; assumption)) only [gm_push, gm_iload, gm_lload, gm_aload, gm_istore, gm_astore, gm_iinc, gm_op2, gm_quo, gm_op1, gm_lop2, gm_lshl, gm_i2l, gm_l2i, gm_lcmp, gm_dup, gm_pop1, gm_dup2, gm_goto, gm_ifeq, gm_ifne, gm_iflt, gm_ifge, gm_ifgt, gm_ifle, gm_ceq, gm_cne, gm_clt, gm_cge, gm_cgt, gm_cle, gm_ifnull, gm_ifnonnull, gm_swk, gm_switch, gm_getI, gm_getR, gm_putI, gm_putZ, gm_putR, gm_new, gm_newarr, gm_iald, gm_cald, gm_zald, gm_lald, gm_aald, gm_iast, gm_cast, gm_zast, gm_last, gm_aast, gm_acp, gm_oinit, gm_back, gm_scall, gm_vcall, gm_iret, gm_zret, gm_cret, gm_lret, gm_aret, gm_vret, gm_slen, gm_schar, gm_sidx, gm_lget, gm_lset, gm_nl, gm_ent, gm_wd, gm_pop, gm_pad, gm_xl_c, gm_alen_u, gm_1_sF, gm_1_sA, gm_1_cp, gm_len_sF, gm_len_sA, gm_len_cp, Bool.or_true, Bool.true_or, gm_max_u, gm_min_u, gm_isO_sF, gm_isO_sA, gm_isO_cp, gm_gF_sF, gm_gF_sA, gm_gA_sF, gm_gA_sA, gm_gF_cp, gm_gA_cp, gm_add, gm_sub, gm_mul, gm_neg, ↓reduceIte, Nat.reduceAdd, Nat.reduceLeDiff, true_and, and_true, and_self, true_or, or_true, false_and, and_false, false_or, or_false, eq_self, Nat.reduceEqDiff, Int.reduceEq, Int.reduceLT, Int.reduceLE, Int.reduceNeg, Int.reduceAdd, Int.reduceSub, Int.reduceMul, Int.reduceDiv, Int.reduceMod, reduceCtorEq, if_true, if_false, gm_w_id, xX8_act_0, xX8_act_1, xX8_act_2, gn_T_O, gn_T_F, z1, z91, l11, ef, ea', e1, hpos]
      · have eb := r_X9_isHouse (d + 17) h (gm_many M) (gn_T 184 148 958 (gn_T 92 91 301 M []) []) (fin [] (by decide)).1.1 hI.2.2.1.1.1 hm hh
        rw [if_pos c1] at eb
        have e2 := r_X9_in (d + 18) a 0 2 (gn_T 184 148 958 (gn_T 92 91 301 M []) []) ha ⟨by decide, by decide⟩ ⟨by decide, by decide⟩
        rw [if_neg c2] at e2
        have tn := gn_T_nil 184 148 958 (gn_T 92 91 301 M [])
        rw [eX9_act _ _ _ (Nat.le_of_ble_eq_true rfl)]
        simp (config := { maxSteps := 2000000 }) (disch := first | omega | assumption | (simp only [gm_isO_sF, gm_isO_sA, gm_isO_cp]; assumption)) only [gm_push, gm_iload, gm_lload, gm_aload, gm_istore, gm_astore, gm_iinc, gm_op2, gm_quo, gm_op1, gm_lop2, gm_lshl, gm_i2l, gm_l2i, gm_lcmp, gm_dup, gm_pop1, gm_dup2, gm_goto, gm_ifeq, gm_ifne, gm_iflt, gm_ifge, gm_ifgt, gm_ifle, gm_ceq, gm_cne, gm_clt, gm_cge, gm_cgt, gm_cle, gm_ifnull, gm_ifnonnull, gm_swk, gm_switch, gm_getI, gm_getR, gm_putI, gm_putZ, gm_putR, gm_new, gm_newarr, gm_iald, gm_cald, gm_zald, gm_lald, gm_aald, gm_iast, gm_cast, gm_zast, gm_last, gm_aast, gm_acp, gm_oinit, gm_back, gm_scall, gm_vcall, gm_iret, gm_zret, gm_cret, gm_lret, gm_aret, gm_vret, gm_slen, gm_schar, gm_sidx, gm_lget, gm_lset, gm_nl, gm_ent, gm_wd, gm_pop, gm_pad, gm_xl_c, gm_alen_u, gm_1_sF, gm_1_sA, gm_1_cp, gm_len_sF, gm_len_sA, gm_len_cp, Bool.or_true, Bool.true_or, gm_max_u, gm_min_u, gm_isO_sF, gm_isO_sA, gm_isO_cp, gm_gF_sF, gm_gF_sA, gm_gA_sF, gm_gA_sA, gm_gF_cp, gm_gA_cp, gm_add, gm_sub, gm_mul, gm_neg, ↓reduceIte, Nat.reduceAdd, Nat.reduceLeDiff, true_and, and_true, and_self, true_or, or_true, false_and, and_false, false_or, or_false, eq_self, Nat.reduceEqDiff, Int.reduceEq, Int.reduceLT, Int.reduceLE, Int.reduceNeg, Int.reduceAdd, Int.reduceSub, Int.reduceMul, Int.reduceDiv, Int.reduceMod, reduceCtorEq, if_true, if_false, gm_w_id, xX9_act_0, xX9_act_1, xX9_act_2, xX9_act_3, xX9_act_4, xX9_act_5, gn_T_O, z148, tn, eb, e2]
  · have ea' : gm_go (d + 19) 92 [.inr (.inr 1), .inl h] (gn_T 92 91 301 M []) = some (some (.inr (.inr 0)), gn_T 92 91 301 M []) := by
      have : gm_ho (gn_T 92 91 301 M []) h = 0 := if_neg c1
      rw [this] at ea
      exact ea
    refine ⟨0, gn_T 92 91 301 M [], gn_T 184 148 958 (gn_T 92 91 301 M []) [], ?_, ?_, (fin [] (by decide)).1, (fin [] (by decide)).2⟩
    · rw [eX8_act _ _ _ (Nat.le_of_ble_eq_true rfl)]
      simp (config := { maxSteps := 2000000 }) (disch := first | omega | assumption | (simp only [gm_isO_sF, gm_isO_sA, gm_isO_cp]; assumption)) only [gm_push, gm_iload, gm_lload, gm_aload, gm_istore, gm_astore, gm_iinc, gm_op2, gm_quo, gm_op1, gm_lop2, gm_lshl, gm_i2l, gm_l2i, gm_lcmp, gm_dup, gm_pop1, gm_dup2, gm_goto, gm_ifeq, gm_ifne, gm_iflt, gm_ifge, gm_ifgt, gm_ifle, gm_ceq, gm_cne, gm_clt, gm_cge, gm_cgt, gm_cle, gm_ifnull, gm_ifnonnull, gm_swk, gm_switch, gm_getI, gm_getR, gm_putI, gm_putZ, gm_putR, gm_new, gm_newarr, gm_iald, gm_cald, gm_zald, gm_lald, gm_aald, gm_iast, gm_cast, gm_zast, gm_last, gm_aast, gm_acp, gm_oinit, gm_back, gm_scall, gm_vcall, gm_iret, gm_zret, gm_cret, gm_lret, gm_aret, gm_vret, gm_slen, gm_schar, gm_sidx, gm_lget, gm_lset, gm_nl, gm_ent, gm_wd, gm_pop, gm_pad, gm_xl_c, gm_alen_u, gm_1_sF, gm_1_sA, gm_1_cp, gm_len_sF, gm_len_sA, gm_len_cp, Bool.or_true, Bool.true_or, gm_max_u, gm_min_u, gm_isO_sF, gm_isO_sA, gm_isO_cp, gm_gF_sF, gm_gF_sA, gm_gA_sF, gm_gA_sA, gm_gF_cp, gm_gA_cp, gm_add, gm_sub, gm_mul, gm_neg, ↓reduceIte, Nat.reduceAdd, Nat.reduceLeDiff, true_and, and_true, and_self, true_or, or_true, false_and, and_false, false_or, or_false, eq_self, Nat.reduceEqDiff, Int.reduceEq, Int.reduceLT, Int.reduceLE, Int.reduceNeg, Int.reduceAdd, Int.reduceSub, Int.reduceMul, Int.reduceDiv, Int.reduceMod, reduceCtorEq, if_true, if_false, gm_w_id, xX8_act_0, xX8_act_1, xX8_act_2, gn_T_O, gn_T_F, z1, z91, l11, ef, ea', e1]
    · have eb := r_X9_isHouse (d + 17) h (gm_many M) (gn_T 184 148 958 (gn_T 92 91 301 M []) []) (fin [] (by decide)).1.1 hI.2.2.1.1.1 hm hh
      rw [if_neg c1] at eb
      have tn := gn_T_nil 184 148 958 (gn_T 92 91 301 M [])
      rw [eX9_act _ _ _ (Nat.le_of_ble_eq_true rfl)]
      simp (config := { maxSteps := 2000000 }) (disch := first | omega | assumption | (simp only [gm_isO_sF, gm_isO_sA, gm_isO_cp]; assumption)) only [gm_push, gm_iload, gm_lload, gm_aload, gm_istore, gm_astore, gm_iinc, gm_op2, gm_quo, gm_op1, gm_lop2, gm_lshl, gm_i2l, gm_l2i, gm_lcmp, gm_dup, gm_pop1, gm_dup2, gm_goto, gm_ifeq, gm_ifne, gm_iflt, gm_ifge, gm_ifgt, gm_ifle, gm_ceq, gm_cne, gm_clt, gm_cge, gm_cgt, gm_cle, gm_ifnull, gm_ifnonnull, gm_swk, gm_switch, gm_getI, gm_getR, gm_putI, gm_putZ, gm_putR, gm_new, gm_newarr, gm_iald, gm_cald, gm_zald, gm_lald, gm_aald, gm_iast, gm_cast, gm_zast, gm_last, gm_aast, gm_acp, gm_oinit, gm_back, gm_scall, gm_vcall, gm_iret, gm_zret, gm_cret, gm_lret, gm_aret, gm_vret, gm_slen, gm_schar, gm_sidx, gm_lget, gm_lset, gm_nl, gm_ent, gm_wd, gm_pop, gm_pad, gm_xl_c, gm_alen_u, gm_1_sF, gm_1_sA, gm_1_cp, gm_len_sF, gm_len_sA, gm_len_cp, Bool.or_true, Bool.true_or, gm_max_u, gm_min_u, gm_isO_sF, gm_isO_sA, gm_isO_cp, gm_gF_sF, gm_gF_sA, gm_gA_sF, gm_gA_sA, gm_gF_cp, gm_gA_cp, gm_add, gm_sub, gm_mul, gm_neg, ↓reduceIte, Nat.reduceAdd, Nat.reduceLeDiff, true_and, and_true, and_self, true_or, or_true, false_and, and_false, false_or, or_false, eq_self, Nat.reduceEqDiff, Int.reduceEq, Int.reduceLT, Int.reduceLE, Int.reduceNeg, Int.reduceAdd, Int.reduceSub, Int.reduceMul, Int.reduceDiv, Int.reduceMod, reduceCtorEq, if_true, if_false, gm_w_id, xX9_act_0, xX9_act_1, xX9_act_2, xX9_act_3, xX9_act_4, xX9_act_5, gn_T_O, z148, tn, eb]
