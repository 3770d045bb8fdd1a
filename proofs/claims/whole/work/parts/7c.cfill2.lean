/-! GROUND: the class fills a ground -/
abbrev gn_St : Type := (List (Int × Int) × Int) × (List (Int × Int) × Int) × Int × Int
def gn_rws (M : gm_M) (c : Int) (S : List (Int × Int)) (a : Int) : Prop := gm_gF M 2 c = (S.length : Int) ∧ gm_gF M 3 c = a ∧ ∀ i : Int, 0 ≤ i → i < (S.length : Int) → gm_gA M (c + 1) i = (S.getD i.toNat (0, 0)).1 ∧ gm_gA M (c + 2) i = (S.getD i.toNat (0, 0)).2
def gn_Gf (g : Int) (M M1 : gm_M) (q : Int) : Prop := gm_Lay M1 ∧ gm_gF M1 402 81 = q ∧ (∀ (f : Nat) (o : Int), ¬ (o = 81 ∧ f = 402) → ¬ (g ≤ o ∧ o ≤ g + 6) → gm_gF M1 f o = gm_gF M f o) ∧ ∀ a i : Int, ¬ (g ≤ a ∧ a ≤ g + 6) → gm_gA M1 a i = gm_gA M a i
def gn_Gr (g : Int) (M M1 : gm_M) (q : Int) (s : gn_St) : Prop := gn_Gf g M M1 q ∧ gn_rws M1 (g + 1) s.1.1 s.1.2 ∧ gn_rws M1 (g + 4) s.2.1.1 s.2.1.2 ∧ gm_gF M1 102 g = s.2.2.1 ∧ gm_gF M1 103 g = s.2.2.2
/-- a clause more -/
def gn_ad (s : gn_St) (x : Int × Int × gn_X) : gn_St := if x.1 = 0 then ((s.1.1 ++ gn_Xc x.2.2 (s.1.1.length : Int) ++ [(21, x.2.1)], 1), s.2) else if x.1 = 1 then (s.1, (s.2.1.1 ++ gn_Xc x.2.2 (s.2.1.1.length : Int) ++ [(21, x.2.1)], 1), s.2.2) else if x.1 = 2 then (s.1, s.2.1, x.2.1, s.2.2.2) else (s.1, s.2.1, s.2.2.1, x.2.1)
theorem gn_K_self {c : Int} {M : gm_M} {p a : Int} {S : List (Int × Int)} (h : gn_rws M c S a) (hp : gm_gF M 402 81 = p) : gn_K c M p S = M := gn_M_ext rfl (fun f o => by
  rw [gn_K_F]
  by_cases z : f = 402 ∧ o = 81
  · rw [if_pos z, z.1, z.2, hp]
  · rw [if_neg z]
    by_cases z2 : f = 2 ∧ o = c
    · rw [if_pos z2, z2.1, z2.2, h.1]
    · rw [if_neg z2]) (fun a' i => by
  rw [gn_K_A]
  by_cases z : a' = c + 1 ∧ 0 ≤ i ∧ i < (S.length : Int)
  · rw [if_pos z, z.1, (h.2.2 i z.2.1 z.2.2).1]
  · rw [if_neg z]
    by_cases z2 : a' = c + 2 ∧ 0 ≤ i ∧ i < (S.length : Int)
    · rw [if_pos z2, z2.1, (h.2.2 i z2.2.1 z2.2.2).2]
    · rw [if_neg z2])
theorem gn_Gf.Rd {t : Int → Int} {n p0 p g : Int} {M M1 : gm_M} (hg : 94 ≤ g ∧ g ≤ 129) (hR : gn_Rd t n p0 M) (h : gn_Gf g M M1 p) (hp : 0 ≤ p ∧ p ≤ n) : gn_Rd t n p M1 := ⟨h.1, (h.2.2.1 401 81 (by decide) (by omega)).trans hR.2.1, h.2.1, hR.2.2.2.1, hp, fun i i1 i2 => by rw [h.2.2.2 82 i (by omega)]; exact hR.2.2.2.2.2 i i1 i2⟩
theorem gn_Gf.p {g p q : Int} {M M1 : gm_M} (h : gn_Gf g M M1 p) : gn_Gf g M (gm_sF M1 402 81 q) q := ⟨h.1.sF _ _ _ (by decide), rfl, fun f o y1 y2 => by
  rw [gm_gF_sF, if_neg (by omega)]
  exact h.2.2.1 f o y1 y2, h.2.2.2⟩
/-- with the clauses c of the ground changed -/
theorem gn_Gf.K {g c p q : Int} {M M1 : gm_M} (h : gn_Gf g M M1 p) (hg : 94 ≤ g ∧ g ≤ 129) (hc : c = g + 1 ∨ c = g + 4) (S : List (Int × Int)) : gn_Gf g M (gm_sF (gn_K c M1 q S) 3 c 1) q := ⟨(gn_K_Lay h.1 (by omega)).sF _ _ _ (by decide), by rw [gm_gF_sF, if_neg (by omega), gn_K_F, if_pos ⟨rfl, rfl⟩], fun f o y1 y2 => by
  rw [gm_gF_sF, if_neg (by omega), gn_K_F, if_neg (by omega), if_neg (by omega)]
  exact h.2.2.1 f o y1 y2, fun a i y => by
  rw [gm_gA_sF, gn_K_A, if_neg (by omega), if_neg (by omega)]
  exact h.2.2.2 a i y⟩
theorem gn_rws.K1 (c : Int) (M : gm_M) (p : Int) (S : List (Int × Int)) : gn_rws (gm_sF (gn_K c M p S) 3 c 1) c S 1 := ⟨by rw [gm_gF_sF, if_neg (by omega), gn_K_F, if_neg (by omega), if_pos ⟨rfl, rfl⟩], by rw [gm_gF_sF, if_pos ⟨rfl, rfl⟩], fun i i1 i2 => by
  rw [gm_gA_sF, gm_gA_sF, gn_K_A, gn_K_A, if_pos ⟨rfl, i1, i2⟩, if_neg (by omega), if_pos ⟨rfl, i1, i2⟩]
  exact ⟨rfl, rfl⟩⟩
theorem gn_rws.K2 {c c' : Int} {M : gm_M} {p a : Int} {S S' : List (Int × Int)} (hc : 94 ≤ c' ∧ (c' = c + 3 ∨ c = c' + 3)) (h : gn_rws M c' S a) : gn_rws (gm_sF (gn_K c M p S') 3 c 1) c' S a := ⟨by rw [gm_gF_sF, if_neg (by omega), gn_K_F, if_neg (by omega), if_neg (by omega)]; exact h.1, by rw [gm_gF_sF, if_neg (by omega), gn_K_F, if_neg (by omega), if_neg (by omega)]; exact h.2.1, fun i i1 i2 => by
  rw [gm_gA_sF, gm_gA_sF, gn_K_A, gn_K_A, if_neg (by omega), if_neg (by omega), if_neg (by omega), if_neg (by omega)]
  exact h.2.2 i i1 i2⟩
theorem gn_rws.p {c : Int} {M : gm_M} {q a : Int} {S : List (Int × Int)} (h : gn_rws M c S a) : gn_rws (gm_sF M 402 81 q) c S a := ⟨by rw [gm_gF_sF, if_neg (by omega)]; exact h.1, by rw [gm_gF_sF, if_neg (by omega)]; exact h.2.1, h.2.2⟩
theorem r_X0_endClause {D : Nat} (hD : 2 ≤ D) {c p v : Int} {M : gm_M} (hL : gm_Lay M) (hO : gm_isO 0 M c = true) (hc : 94 ≤ c ∧ c ≤ 135) (S : List (Int × Int)) (hb : (S.length : Int) ≤ 100) : ∃ S', gm_go D 3 [.inr (.inr c), .inl v] (gn_K c M p S) = some (none, gm_sF (gn_K c M p S') 3 c 1) ∧ ((S.length : Int) < 100 → S' = S ++ [(21, v)]) := by
  obtain ⟨d, rfl⟩ : ∃ g, D = g + 1 := ⟨D - 1, by omega⟩
  by_cases hS : (S.length : Int) < 100
  · have e := r_X0_addStep (D := d) (by omega) (p := p) (x := 21) (y := v) hL hO hc S hS
    refine ⟨S ++ [(21, v)], ?_, fun _ => rfl⟩
    rw [eX0_endClause _ _ _ (Nat.le_of_ble_eq_true rfl)]
    simp (config := { maxSteps := 2000000 }) (disch := first | omega | assumption | (simp only [gm_isO_sF, gm_isO_sA, gm_isO_cp]; assumption)) only [gm_push, gm_iload, gm_lload, gm_aload, gm_istore, gm_astore, gm_iinc, gm_op2, gm_quo, gm_op1, gm_lop2, gm_lshl, gm_i2l, gm_l2i, gm_lcmp, gm_dup, gm_pop1, gm_dup2, gm_goto, gm_ifeq, gm_ifne, gm_iflt, gm_ifge, gm_ifgt, gm_ifle, gm_ceq, gm_cne, gm_clt, gm_cge, gm_cgt, gm_cle, gm_ifnull, gm_ifnonnull, gm_swk, gm_switch, gm_getI, gm_getR, gm_putI, gm_putZ, gm_putR, gm_new, gm_newarr, gm_iald, gm_cald, gm_zald, gm_lald, gm_aald, gm_iast, gm_cast, gm_zast, gm_last, gm_aast, gm_acp, gm_oinit, gm_back, gm_scall, gm_vcall, gm_iret, gm_zret, gm_cret, gm_lret, gm_aret, gm_vret, gm_slen, gm_schar, gm_sidx, gm_lget, gm_lset, gm_nl, gm_ent, gm_wd, gm_pop, gm_pad, gm_xl_c, gm_alen_u, gm_1_sF, gm_1_sA, gm_1_cp, gm_len_sF, gm_len_sA, gm_len_cp, Bool.or_true, Bool.true_or, gm_max_u, gm_min_u, gm_isO_sF, gm_isO_sA, gm_isO_cp, gm_gF_sF, gm_gF_sA, gm_gA_sF, gm_gA_sA, gm_gF_cp, gm_gA_cp, gm_add, gm_sub, gm_mul, gm_neg, ↓reduceIte, Nat.reduceAdd, Nat.reduceLeDiff, true_and, and_true, and_self, true_or, or_true, false_and, and_false, false_or, or_false, eq_self, Nat.reduceEqDiff, Int.reduceEq, Int.reduceLT, Int.reduceLE, Int.reduceNeg, Int.reduceAdd, Int.reduceSub, Int.reduceMul, Int.reduceDiv, Int.reduceMod, reduceCtorEq, if_true, if_false, gm_w_id, xX0_endClause_0, gm_putZ, gn_K_O, hO, e]
  · have e : gm_go d 2 [.inr (.inr c), .inl 21, .inl v] (gn_K c M p S) = some (some (.inl (-1)), gn_K c M p S) := by
      obtain ⟨d, rfl⟩ : ∃ g, d = g + 1 := ⟨d - 1, by omega⟩
      rw [eX0_addStep _ _ _ (Nat.le_of_ble_eq_true rfl)]
      have hLK : gm_Lay (gn_K c M p S) := gn_K_Lay hL hc
      have l0 := gm_l0 hLK hO
      have k0 := gm_k0 hLK hO
      have n0 : ∀ M' : gm_M, gm_len M' (c + 1) = 100 := fun M' => (gn_len_e (by omega)).trans (gm_n0 hL hO)
      have f2 : gm_gF (gn_K c M p S) 2 c = (S.length : Int) := by rw [gn_K_F, if_neg (by omega), if_pos ⟨rfl, rfl⟩]
      have ha3 := gm_alen_k 20 (by decide)
      simp (config := { maxSteps := 2000000 }) (disch := first | omega | assumption | (simp only [gm_isO_sF, gm_isO_sA, gm_isO_cp]; assumption)) only [gm_push, gm_iload, gm_lload, gm_aload, gm_istore, gm_astore, gm_iinc, gm_op2, gm_quo, gm_op1, gm_lop2, gm_lshl, gm_i2l, gm_l2i, gm_lcmp, gm_dup, gm_pop1, gm_dup2, gm_goto, gm_ifeq, gm_ifne, gm_iflt, gm_ifge, gm_ifgt, gm_ifle, gm_ceq, gm_cne, gm_clt, gm_cge, gm_cgt, gm_cle, gm_ifnull, gm_ifnonnull, gm_swk, gm_switch, gm_getI, gm_getR, gm_putI, gm_putZ, gm_putR, gm_new, gm_newarr, gm_iald, gm_cald, gm_zald, gm_lald, gm_aald, gm_iast, gm_cast, gm_zast, gm_last, gm_aast, gm_acp, gm_oinit, gm_back, gm_scall, gm_vcall, gm_iret, gm_zret, gm_cret, gm_lret, gm_aret, gm_vret, gm_slen, gm_schar, gm_sidx, gm_lget, gm_lset, gm_nl, gm_ent, gm_wd, gm_pop, gm_pad, gm_xl_c, gm_alen_u, gm_1_sF, gm_1_sA, gm_1_cp, gm_len_sF, gm_len_sA, gm_len_cp, Bool.or_true, Bool.true_or, gm_max_u, gm_min_u, gm_isO_sF, gm_isO_sA, gm_isO_cp, gm_gF_sF, gm_gF_sA, gm_gA_sF, gm_gA_sA, gm_gF_cp, gm_gA_cp, gm_add, gm_sub, gm_mul, gm_neg, ↓reduceIte, Nat.reduceAdd, Nat.reduceLeDiff, true_and, and_true, and_self, true_or, or_true, false_and, and_false, false_or, or_false, eq_self, Nat.reduceEqDiff, Int.reduceEq, Int.reduceLT, Int.reduceLE, Int.reduceNeg, Int.reduceAdd, Int.reduceSub, Int.reduceMul, Int.reduceDiv, Int.reduceMod, reduceCtorEq, if_true, if_false, gm_w_id, xX0_addStep_0, xX0_addStep_1, hO, gn_K_O, l0, k0, n0, f2, ha3, hS]
    refine ⟨S, ?_, fun z => absurd z hS⟩
    rw [eX0_endClause _ _ _ (Nat.le_of_ble_eq_true rfl)]
    simp (config := { maxSteps := 2000000 }) (disch := first | omega | assumption | (simp only [gm_isO_sF, gm_isO_sA, gm_isO_cp]; assumption)) only [gm_push, gm_iload, gm_lload, gm_aload, gm_istore, gm_astore, gm_iinc, gm_op2, gm_quo, gm_op1, gm_lop2, gm_lshl, gm_i2l, gm_l2i, gm_lcmp, gm_dup, gm_pop1, gm_dup2, gm_goto, gm_ifeq, gm_ifne, gm_iflt, gm_ifge, gm_ifgt, gm_ifle, gm_ceq, gm_cne, gm_clt, gm_cge, gm_cgt, gm_cle, gm_ifnull, gm_ifnonnull, gm_swk, gm_switch, gm_getI, gm_getR, gm_putI, gm_putZ, gm_putR, gm_new, gm_newarr, gm_iald, gm_cald, gm_zald, gm_lald, gm_aald, gm_iast, gm_cast, gm_zast, gm_last, gm_aast, gm_acp, gm_oinit, gm_back, gm_scall, gm_vcall, gm_iret, gm_zret, gm_cret, gm_lret, gm_aret, gm_vret, gm_slen, gm_schar, gm_sidx, gm_lget, gm_lset, gm_nl, gm_ent, gm_wd, gm_pop, gm_pad, gm_xl_c, gm_alen_u, gm_1_sF, gm_1_sA, gm_1_cp, gm_len_sF, gm_len_sA, gm_len_cp, Bool.or_true, Bool.true_or, gm_max_u, gm_min_u, gm_isO_sF, gm_isO_sA, gm_isO_cp, gm_gF_sF, gm_gF_sA, gm_gA_sF, gm_gA_sA, gm_gF_cp, gm_gA_cp, gm_add, gm_sub, gm_mul, gm_neg, ↓reduceIte, Nat.reduceAdd, Nat.reduceLeDiff, true_and, and_true, and_self, true_or, or_true, false_and, and_false, false_or, or_false, eq_self, Nat.reduceEqDiff, Int.reduceEq, Int.reduceLT, Int.reduceLE, Int.reduceNeg, Int.reduceAdd, Int.reduceSub, Int.reduceMul, Int.reduceDiv, Int.reduceMod, reduceCtorEq, if_true, if_false, gm_w_id, xX0_endClause_0, gm_putZ, gn_K_O, hO, e]
/-- a number of the ground -/
theorem gn_Gf.f {g p v : Int} {M M1 : gm_M} (h : gn_Gf g M M1 p) {f : Nat} (hf : f = 102 ∨ f = 103) : gn_Gf g M (gm_sF M1 f g v) p := ⟨h.1.sF _ _ _ (by rcases hf with rfl | rfl <;> decide), by rw [gm_gF_sF, if_neg (by omega)]; exact h.2.1, fun f' o y1 y2 => by
  rw [gm_gF_sF, if_neg (by omega)]
  exact h.2.2.1 f' o y1 y2, h.2.2.2⟩
theorem gn_rws.f {c g v a : Int} {M : gm_M} {S : List (Int × Int)} (h : gn_rws M c S a) {f : Nat} (hf : f = 102 ∨ f = 103) : gn_rws (gm_sF M f g v) c S a := ⟨by rw [gm_gF_sF, if_neg (by omega)]; exact h.1, by rw [gm_gF_sF, if_neg (by omega)]; exact h.2.1, h.2.2⟩
def gn_ok2 {α : Type} (r : Option α) : Int := match r with
  | some _ => 1
  | none => 0
theorem r_X4_readClause {t : Int → Int} {n p0 g : Int} {M : gm_M} (hR : gn_Rd t n p0 M) (hO : gm_isO 1 M g = true) (hg : 94 ≤ g ∧ g ≤ 129) {D : Nat} (hD : 23 ≤ D) {p q : Int} {r : Option (Int × Int × gn_X)} {M1 : gm_M} {s : gn_St} (h : gn_Gr g M M1 p s) (hp : 0 ≤ p ∧ p ≤ n) (hS : (s.1.1.length : Int) + (s.2.1.1.length : Int) + (n - p) ≤ 100) (hc : gn_cl t n p = (r, q)) :
    ∃ M2, gm_go D 28 [.inr (.inr 81), .inr (.inr g)] M1 = some (some (.inl (gn_ok2 r)), M2) ∧ gn_Gf g M M2 q ∧ ∀ x, r = some x → gn_Gr g M M2 q (gn_ad s x) := by
  obtain ⟨d, rfl⟩ : ∃ g, D = g + 1 := ⟨D - 1, by omega⟩
  obtain ⟨hf, hs, hcl, hlo, hhi⟩ := h
  have hR1 := hf.Rd hg hR hp
  have hL1 := hR1.1
  have z81 := gm_z81 hL1
  have hO1 : gm_isO 1 M1 g = true := (gm_isO_iff hL1).mpr ((gm_isO_iff hR.1).mp hO)
  have l100 := gm_l100 hL1 hO1
  have l101 := gm_l101 hL1 hO1
  have k100 := gm_k100 hL1 hO1
  have k101 := gm_k101 hL1 hO1
  have f0 := r_X4_nextSign (D := d) (by omega) hR1
  have b0 := gn_c0_b hR1 p hp.1
  have hn := hR.2.2.2.1
  have hwb := gn_wi_b (gn_ch t n p)
  have hword := r_X4_readWord (D := d) (by omega) hwb hR1
  have hrw := gn_rwd_b (t := t) (n := n) (gn_ww (gn_wi (gn_ch t n p))) p hp.2 (fun c hc => (gn_ww_b _ c hc).1)
  have hch : ∀ x : Int, 0 < x → (gn_c0 t n p = x ↔ gn_ch t n p = x) := fun x hx => gn_c0_ch hx
  have h115 := hch 115 (by decide)
  have h99 := hch 99 (by decide)
  have h108 := hch 108 (by decide)
  have hwi : gn_wi (gn_ch t n p) = if gn_c0 t n p = 115 then 0 else if gn_c0 t n p = 99 then 1 else if gn_c0 t n p = 108 then 2 else 3 := by
    unfold gn_wi
    simp only [h115, h99, h108]
  unfold gn_cl at hc
  obtain ⟨a, ha⟩ : ∃ a, gn_rwd t n (gn_ww (gn_wi (gn_ch t n p))) p = a := ⟨_, rfl⟩
  rw [ha] at hc hword hrw
  obtain ⟨w, hw⟩ : ∃ w, gn_wi (gn_ch t n p) = w := ⟨_, rfl⟩
  rw [hw] at hc hword hrw hwb hwi
  obtain ⟨x, hx⟩ : ∃ x, gn_c0 t n p = x := ⟨_, rfl⟩
  rw [hx] at f0 b0 hwi
  have hRa := hR1.sF (q := a.2) (by omega)
  have hnum := r_X4_readNumber (D := d) (by omega) hRa
  rw [gn_sF_sF] at hnum
  have hnb := gn_nm_b (t := t) (n := n) (p := a.2) hrw.2.1
  obtain ⟨b, hb⟩ : ∃ b, gn_nm t n a.2 = b := ⟨_, rfl⟩
  rw [hb] at hc hnum hnb
  have hb0 := hnb.1
  -- the first byte
  have hx4 : w = 0 ∧ x = 115 ∨ w = 1 ∧ x = 99 ∨ w = 2 ∧ x = 108 ∨ w = 3 ∧ ¬ x = 115 ∧ ¬ x = 99 ∧ ¬ x = 108 := by
    by_cases y1 : x = 115
    · rw [if_pos y1] at hwi; omega
    · rw [if_neg y1] at hwi
      by_cases y2 : x = 99
      · rw [if_pos y2] at hwi; omega
      · rw [if_neg y2] at hwi
        by_cases y3 : x = 108
        · rw [if_pos y3] at hwi; omega
        · rw [if_neg y3] at hwi; omega
  have hfr : ∀ q', gn_Gf g M (gm_sF M1 402 81 q') q' := fun q' => hf.p
  clear hwi h115 h99 h108 hch
  by_cases c1 : a.1 = 0
  · rw [if_pos c1] at hc
    obtain ⟨rfl, rfl⟩ := Prod.mk.inj hc
    rw [c1] at hword
    refine ⟨gm_sF M1 402 81 a.2, ?_, hfr _, fun x h => by simp at h⟩
    rw [eX4_readClause _ _ _ (Nat.le_of_ble_eq_true rfl)]
    rcases hx4 with ⟨rfl, rfl⟩ | ⟨rfl, rfl⟩ | ⟨rfl, rfl⟩ | ⟨rfl, y1, y2, y3⟩ <;> simp only [Int.reduceAdd] at hword
    · simp (config := { maxSteps := 2000000 }) (disch := first | omega | assumption | (simp only [gm_isO_sF, gm_isO_sA, gm_isO_cp]; assumption)) only [gm_push, gm_iload, gm_lload, gm_aload, gm_istore, gm_astore, gm_iinc, gm_op2, gm_quo, gm_op1, gm_lop2, gm_lshl, gm_i2l, gm_l2i, gm_lcmp, gm_dup, gm_pop1, gm_dup2, gm_goto, gm_ifeq, gm_ifne, gm_iflt, gm_ifge, gm_ifgt, gm_ifle, gm_ceq, gm_cne, gm_clt, gm_cge, gm_cgt, gm_cle, gm_ifnull, gm_ifnonnull, gm_swk, gm_switch, gm_getI, gm_getR, gm_putI, gm_putZ, gm_putR, gm_new, gm_newarr, gm_iald, gm_cald, gm_zald, gm_lald, gm_aald, gm_iast, gm_cast, gm_zast, gm_last, gm_aast, gm_acp, gm_oinit, gm_back, gm_scall, gm_vcall, gm_iret, gm_zret, gm_cret, gm_lret, gm_aret, gm_vret, gm_slen, gm_schar, gm_sidx, gm_lget, gm_lset, gm_nl, gm_ent, gm_wd, gm_pop, gm_pad, gm_xl_c, gm_alen_u, gm_1_sF, gm_1_sA, gm_1_cp, gm_len_sF, gm_len_sA, gm_len_cp, Bool.or_true, Bool.true_or, gm_max_u, gm_min_u, gm_isO_sF, gm_isO_sA, gm_isO_cp, gm_gF_sF, gm_gF_sA, gm_gA_sF, gm_gA_sA, gm_gF_cp, gm_gA_cp, gm_add, gm_sub, gm_mul, gm_neg, ↓reduceIte, Nat.reduceAdd, Nat.reduceLeDiff, true_and, and_true, and_self, true_or, or_true, false_and, and_false, false_or, or_false, eq_self, Nat.reduceEqDiff, Int.reduceEq, Int.reduceLT, Int.reduceLE, Int.reduceNeg, Int.reduceAdd, Int.reduceSub, Int.reduceMul, Int.reduceDiv, Int.reduceMod, reduceCtorEq, if_true, if_false, gm_w_id, xX4_readClause_0, xX4_readClause_1, xX4_readClause_2, xX4_readClause_3, xX4_readClause_4, xX4_readClause_5, xX4_readClause_6, xX4_readClause_7, xX4_readClause_8, xX4_readClause_9, xX4_readClause_10, xX4_readClause_11, xX4_readClause_12, xX4_readClause_13, xX4_readClause_14, xX4_readClause_15, xX4_readClause_16, xX4_readClause_17, xX4_readClause_18, xX4_readClause_19, gn_ok2, z81, f0, hword, Int.add_zero]
    · simp (config := { maxSteps := 2000000 }) (disch := first | omega | assumption | (simp only [gm_isO_sF, gm_isO_sA, gm_isO_cp]; assumption)) only [gm_push, gm_iload, gm_lload, gm_aload, gm_istore, gm_astore, gm_iinc, gm_op2, gm_quo, gm_op1, gm_lop2, gm_lshl, gm_i2l, gm_l2i, gm_lcmp, gm_dup, gm_pop1, gm_dup2, gm_goto, gm_ifeq, gm_ifne, gm_iflt, gm_ifge, gm_ifgt, gm_ifle, gm_ceq, gm_cne, gm_clt, gm_cge, gm_cgt, gm_cle, gm_ifnull, gm_ifnonnull, gm_swk, gm_switch, gm_getI, gm_getR, gm_putI, gm_putZ, gm_putR, gm_new, gm_newarr, gm_iald, gm_cald, gm_zald, gm_lald, gm_aald, gm_iast, gm_cast, gm_zast, gm_last, gm_aast, gm_acp, gm_oinit, gm_back, gm_scall, gm_vcall, gm_iret, gm_zret, gm_cret, gm_lret, gm_aret, gm_vret, gm_slen, gm_schar, gm_sidx, gm_lget, gm_lset, gm_nl, gm_ent, gm_wd, gm_pop, gm_pad, gm_xl_c, gm_alen_u, gm_1_sF, gm_1_sA, gm_1_cp, gm_len_sF, gm_len_sA, gm_len_cp, Bool.or_true, Bool.true_or, gm_max_u, gm_min_u, gm_isO_sF, gm_isO_sA, gm_isO_cp, gm_gF_sF, gm_gF_sA, gm_gA_sF, gm_gA_sA, gm_gF_cp, gm_gA_cp, gm_add, gm_sub, gm_mul, gm_neg, ↓reduceIte, Nat.reduceAdd, Nat.reduceLeDiff, true_and, and_true, and_self, true_or, or_true, false_and, and_false, false_or, or_false, eq_self, Nat.reduceEqDiff, Int.reduceEq, Int.reduceLT, Int.reduceLE, Int.reduceNeg, Int.reduceAdd, Int.reduceSub, Int.reduceMul, Int.reduceDiv, Int.reduceMod, reduceCtorEq, if_true, if_false, gm_w_id, xX4_readClause_0, xX4_readClause_1, xX4_readClause_2, xX4_readClause_3, xX4_readClause_4, xX4_readClause_5, xX4_readClause_6, xX4_readClause_7, xX4_readClause_8, xX4_readClause_9, xX4_readClause_10, xX4_readClause_11, xX4_readClause_12, xX4_readClause_13, xX4_readClause_14, xX4_readClause_15, xX4_readClause_16, xX4_readClause_17, xX4_readClause_18, xX4_readClause_19, gn_ok2, z81, f0, hword]
    · simp (config := { maxSteps := 2000000 }) (disch := first | omega | assumption | (simp only [gm_isO_sF, gm_isO_sA, gm_isO_cp]; assumption)) only [gm_push, gm_iload, gm_lload, gm_aload, gm_istore, gm_astore, gm_iinc, gm_op2, gm_quo, gm_op1, gm_lop2, gm_lshl, gm_i2l, gm_l2i, gm_lcmp, gm_dup, gm_pop1, gm_dup2, gm_goto, gm_ifeq, gm_ifne, gm_iflt, gm_ifge, gm_ifgt, gm_ifle, gm_ceq, gm_cne, gm_clt, gm_cge, gm_cgt, gm_cle, gm_ifnull, gm_ifnonnull, gm_swk, gm_switch, gm_getI, gm_getR, gm_putI, gm_putZ, gm_putR, gm_new, gm_newarr, gm_iald, gm_cald, gm_zald, gm_lald, gm_aald, gm_iast, gm_cast, gm_zast, gm_last, gm_aast, gm_acp, gm_oinit, gm_back, gm_scall, gm_vcall, gm_iret, gm_zret, gm_cret, gm_lret, gm_aret, gm_vret, gm_slen, gm_schar, gm_sidx, gm_lget, gm_lset, gm_nl, gm_ent, gm_wd, gm_pop, gm_pad, gm_xl_c, gm_alen_u, gm_1_sF, gm_1_sA, gm_1_cp, gm_len_sF, gm_len_sA, gm_len_cp, Bool.or_true, Bool.true_or, gm_max_u, gm_min_u, gm_isO_sF, gm_isO_sA, gm_isO_cp, gm_gF_sF, gm_gF_sA, gm_gA_sF, gm_gA_sA, gm_gF_cp, gm_gA_cp, gm_add, gm_sub, gm_mul, gm_neg, ↓reduceIte, Nat.reduceAdd, Nat.reduceLeDiff, true_and, and_true, and_self, true_or, or_true, false_and, and_false, false_or, or_false, eq_self, Nat.reduceEqDiff, Int.reduceEq, Int.reduceLT, Int.reduceLE, Int.reduceNeg, Int.reduceAdd, Int.reduceSub, Int.reduceMul, Int.reduceDiv, Int.reduceMod, reduceCtorEq, if_true, if_false, gm_w_id, xX4_readClause_0, xX4_readClause_1, xX4_readClause_2, xX4_readClause_3, xX4_readClause_4, xX4_readClause_5, xX4_readClause_6, xX4_readClause_7, xX4_readClause_8, xX4_readClause_9, xX4_readClause_10, xX4_readClause_11, xX4_readClause_12, xX4_readClause_13, xX4_readClause_14, xX4_readClause_15, xX4_readClause_16, xX4_readClause_17, xX4_readClause_18, xX4_readClause_19, gn_ok2, z81, f0, hword]
    · simp (config := { maxSteps := 2000000 }) (disch := first | omega | assumption | (simp only [gm_isO_sF, gm_isO_sA, gm_isO_cp]; assumption)) only [gm_push, gm_iload, gm_lload, gm_aload, gm_istore, gm_astore, gm_iinc, gm_op2, gm_quo, gm_op1, gm_lop2, gm_lshl, gm_i2l, gm_l2i, gm_lcmp, gm_dup, gm_pop1, gm_dup2, gm_goto, gm_ifeq, gm_ifne, gm_iflt, gm_ifge, gm_ifgt, gm_ifle, gm_ceq, gm_cne, gm_clt, gm_cge, gm_cgt, gm_cle, gm_ifnull, gm_ifnonnull, gm_swk, gm_switch, gm_getI, gm_getR, gm_putI, gm_putZ, gm_putR, gm_new, gm_newarr, gm_iald, gm_cald, gm_zald, gm_lald, gm_aald, gm_iast, gm_cast, gm_zast, gm_last, gm_aast, gm_acp, gm_oinit, gm_back, gm_scall, gm_vcall, gm_iret, gm_zret, gm_cret, gm_lret, gm_aret, gm_vret, gm_slen, gm_schar, gm_sidx, gm_lget, gm_lset, gm_nl, gm_ent, gm_wd, gm_pop, gm_pad, gm_xl_c, gm_alen_u, gm_1_sF, gm_1_sA, gm_1_cp, gm_len_sF, gm_len_sA, gm_len_cp, Bool.or_true, Bool.true_or, gm_max_u, gm_min_u, gm_isO_sF, gm_isO_sA, gm_isO_cp, gm_gF_sF, gm_gF_sA, gm_gA_sF, gm_gA_sA, gm_gF_cp, gm_gA_cp, gm_add, gm_sub, gm_mul, gm_neg, ↓reduceIte, Nat.reduceAdd, Nat.reduceLeDiff, true_and, and_true, and_self, true_or, or_true, false_and, and_false, false_or, or_false, eq_self, Nat.reduceEqDiff, Int.reduceEq, Int.reduceLT, Int.reduceLE, Int.reduceNeg, Int.reduceAdd, Int.reduceSub, Int.reduceMul, Int.reduceDiv, Int.reduceMod, reduceCtorEq, if_true, if_false, gm_w_id, xX4_readClause_0, xX4_readClause_1, xX4_readClause_2, xX4_readClause_3, xX4_readClause_4, xX4_readClause_5, xX4_readClause_6, xX4_readClause_7, xX4_readClause_8, xX4_readClause_9, xX4_readClause_10, xX4_readClause_11, xX4_readClause_12, xX4_readClause_13, xX4_readClause_14, xX4_readClause_15, xX4_readClause_16, xX4_readClause_17, xX4_readClause_18, xX4_readClause_19, gn_ok2, z81, f0, y1, y2, y3, hword]
  · rw [if_neg c1] at hc
    have a1 : a.1 = 1 ∧ a.2 = p + (gn_ww w).length := hrw.2.2.resolve_left c1
    rw [a1.1] at hword
    by_cases c2 : b.1 < 0
    · rw [if_pos c2] at hc
      obtain ⟨rfl, rfl⟩ := Prod.mk.inj hc
      rw [hnb.2.2.2.2 c2] at hnum
      refine ⟨gm_sF M1 402 81 a.2, ?_, hfr _, fun x h => by simp at h⟩
      rw [eX4_readClause _ _ _ (Nat.le_of_ble_eq_true rfl)]
      rcases hx4 with ⟨rfl, rfl⟩ | ⟨rfl, rfl⟩ | ⟨rfl, rfl⟩ | ⟨rfl, y1, y2, y3⟩ <;> simp only [Int.reduceAdd] at hword
      · simp (config := { maxSteps := 2000000 }) (disch := first | omega | assumption | (simp only [gm_isO_sF, gm_isO_sA, gm_isO_cp]; assumption)) only [gm_push, gm_iload, gm_lload, gm_aload, gm_istore, gm_astore, gm_iinc, gm_op2, gm_quo, gm_op1, gm_lop2, gm_lshl, gm_i2l, gm_l2i, gm_lcmp, gm_dup, gm_pop1, gm_dup2, gm_goto, gm_ifeq, gm_ifne, gm_iflt, gm_ifge, gm_ifgt, gm_ifle, gm_ceq, gm_cne, gm_clt, gm_cge, gm_cgt, gm_cle, gm_ifnull, gm_ifnonnull, gm_swk, gm_switch, gm_getI, gm_getR, gm_putI, gm_putZ, gm_putR, gm_new, gm_newarr, gm_iald, gm_cald, gm_zald, gm_lald, gm_aald, gm_iast, gm_cast, gm_zast, gm_last, gm_aast, gm_acp, gm_oinit, gm_back, gm_scall, gm_vcall, gm_iret, gm_zret, gm_cret, gm_lret, gm_aret, gm_vret, gm_slen, gm_schar, gm_sidx, gm_lget, gm_lset, gm_nl, gm_ent, gm_wd, gm_pop, gm_pad, gm_xl_c, gm_alen_u, gm_1_sF, gm_1_sA, gm_1_cp, gm_len_sF, gm_len_sA, gm_len_cp, Bool.or_true, Bool.true_or, gm_max_u, gm_min_u, gm_isO_sF, gm_isO_sA, gm_isO_cp, gm_gF_sF, gm_gF_sA, gm_gA_sF, gm_gA_sA, gm_gF_cp, gm_gA_cp, gm_add, gm_sub, gm_mul, gm_neg, ↓reduceIte, Nat.reduceAdd, Nat.reduceLeDiff, true_and, and_true, and_self, true_or, or_true, false_and, and_false, false_or, or_false, eq_self, Nat.reduceEqDiff, Int.reduceEq, Int.reduceLT, Int.reduceLE, Int.reduceNeg, Int.reduceAdd, Int.reduceSub, Int.reduceMul, Int.reduceDiv, Int.reduceMod, reduceCtorEq, if_true, if_false, gm_w_id, xX4_readClause_0, xX4_readClause_1, xX4_readClause_2, xX4_readClause_3, xX4_readClause_4, xX4_readClause_5, xX4_readClause_6, xX4_readClause_7, xX4_readClause_8, xX4_readClause_9, xX4_readClause_10, xX4_readClause_11, xX4_readClause_12, xX4_readClause_13, xX4_readClause_14, xX4_readClause_15, xX4_readClause_16, xX4_readClause_17, xX4_readClause_18, xX4_readClause_19, gn_ok2, z81, f0, hword, hnum, c2]
      · simp (config := { maxSteps := 2000000 }) (disch := first | omega | assumption | (simp only [gm_isO_sF, gm_isO_sA, gm_isO_cp]; assumption)) only [gm_push, gm_iload, gm_lload, gm_aload, gm_istore, gm_astore, gm_iinc, gm_op2, gm_quo, gm_op1, gm_lop2, gm_lshl, gm_i2l, gm_l2i, gm_lcmp, gm_dup, gm_pop1, gm_dup2, gm_goto, gm_ifeq, gm_ifne, gm_iflt, gm_ifge, gm_ifgt, gm_ifle, gm_ceq, gm_cne, gm_clt, gm_cge, gm_cgt, gm_cle, gm_ifnull, gm_ifnonnull, gm_swk, gm_switch, gm_getI, gm_getR, gm_putI, gm_putZ, gm_putR, gm_new, gm_newarr, gm_iald, gm_cald, gm_zald, gm_lald, gm_aald, gm_iast, gm_cast, gm_zast, gm_last, gm_aast, gm_acp, gm_oinit, gm_back, gm_scall, gm_vcall, gm_iret, gm_zret, gm_cret, gm_lret, gm_aret, gm_vret, gm_slen, gm_schar, gm_sidx, gm_lget, gm_lset, gm_nl, gm_ent, gm_wd, gm_pop, gm_pad, gm_xl_c, gm_alen_u, gm_1_sF, gm_1_sA, gm_1_cp, gm_len_sF, gm_len_sA, gm_len_cp, Bool.or_true, Bool.true_or, gm_max_u, gm_min_u, gm_isO_sF, gm_isO_sA, gm_isO_cp, gm_gF_sF, gm_gF_sA, gm_gA_sF, gm_gA_sA, gm_gF_cp, gm_gA_cp, gm_add, gm_sub, gm_mul, gm_neg, ↓reduceIte, Nat.reduceAdd, Nat.reduceLeDiff, true_and, and_true, and_self, true_or, or_true, false_and, and_false, false_or, or_false, eq_self, Nat.reduceEqDiff, Int.reduceEq, Int.reduceLT, Int.reduceLE, Int.reduceNeg, Int.reduceAdd, Int.reduceSub, Int.reduceMul, Int.reduceDiv, Int.reduceMod, reduceCtorEq, if_true, if_false, gm_w_id, xX4_readClause_0, xX4_readClause_1, xX4_readClause_2, xX4_readClause_3, xX4_readClause_4, xX4_readClause_5, xX4_readClause_6, xX4_readClause_7, xX4_readClause_8, xX4_readClause_9, xX4_readClause_10, xX4_readClause_11, xX4_readClause_12, xX4_readClause_13, xX4_readClause_14, xX4_readClause_15, xX4_readClause_16, xX4_readClause_17, xX4_readClause_18, xX4_readClause_19, gn_ok2, z81, f0, hword, hnum, c2]
      · simp (config := { maxSteps := 2000000 }) (disch := first | omega | assumption | (simp only [gm_isO_sF, gm_isO_sA, gm_isO_cp]; assumption)) only [gm_push, gm_iload, gm_lload, gm_aload, gm_istore, gm_astore, gm_iinc, gm_op2, gm_quo, gm_op1, gm_lop2, gm_lshl, gm_i2l, gm_l2i, gm_lcmp, gm_dup, gm_pop1, gm_dup2, gm_goto, gm_ifeq, gm_ifne, gm_iflt, gm_ifge, gm_ifgt, gm_ifle, gm_ceq, gm_cne, gm_clt, gm_cge, gm_cgt, gm_cle, gm_ifnull, gm_ifnonnull, gm_swk, gm_switch, gm_getI, gm_getR, gm_putI, gm_putZ, gm_putR, gm_new, gm_newarr, gm_iald, gm_cald, gm_zald, gm_lald, gm_aald, gm_iast, gm_cast, gm_zast, gm_last, gm_aast, gm_acp, gm_oinit, gm_back, gm_scall, gm_vcall, gm_iret, gm_zret, gm_cret, gm_lret, gm_aret, gm_vret, gm_slen, gm_schar, gm_sidx, gm_lget, gm_lset, gm_nl, gm_ent, gm_wd, gm_pop, gm_pad, gm_xl_c, gm_alen_u, gm_1_sF, gm_1_sA, gm_1_cp, gm_len_sF, gm_len_sA, gm_len_cp, Bool.or_true, Bool.true_or, gm_max_u, gm_min_u, gm_isO_sF, gm_isO_sA, gm_isO_cp, gm_gF_sF, gm_gF_sA, gm_gA_sF, gm_gA_sA, gm_gF_cp, gm_gA_cp, gm_add, gm_sub, gm_mul, gm_neg, ↓reduceIte, Nat.reduceAdd, Nat.reduceLeDiff, true_and, and_true, and_self, true_or, or_true, false_and, and_false, false_or, or_false, eq_self, Nat.reduceEqDiff, Int.reduceEq, Int.reduceLT, Int.reduceLE, Int.reduceNeg, Int.reduceAdd, Int.reduceSub, Int.reduceMul, Int.reduceDiv, Int.reduceMod, reduceCtorEq, if_true, if_false, gm_w_id, xX4_readClause_0, xX4_readClause_1, xX4_readClause_2, xX4_readClause_3, xX4_readClause_4, xX4_readClause_5, xX4_readClause_6, xX4_readClause_7, xX4_readClause_8, xX4_readClause_9, xX4_readClause_10, xX4_readClause_11, xX4_readClause_12, xX4_readClause_13, xX4_readClause_14, xX4_readClause_15, xX4_readClause_16, xX4_readClause_17, xX4_readClause_18, xX4_readClause_19, gn_ok2, z81, f0, hword, hnum, c2]
      · simp (config := { maxSteps := 2000000 }) (disch := first | omega | assumption | (simp only [gm_isO_sF, gm_isO_sA, gm_isO_cp]; assumption)) only [gm_push, gm_iload, gm_lload, gm_aload, gm_istore, gm_astore, gm_iinc, gm_op2, gm_quo, gm_op1, gm_lop2, gm_lshl, gm_i2l, gm_l2i, gm_lcmp, gm_dup, gm_pop1, gm_dup2, gm_goto, gm_ifeq, gm_ifne, gm_iflt, gm_ifge, gm_ifgt, gm_ifle, gm_ceq, gm_cne, gm_clt, gm_cge, gm_cgt, gm_cle, gm_ifnull, gm_ifnonnull, gm_swk, gm_switch, gm_getI, gm_getR, gm_putI, gm_putZ, gm_putR, gm_new, gm_newarr, gm_iald, gm_cald, gm_zald, gm_lald, gm_aald, gm_iast, gm_cast, gm_zast, gm_last, gm_aast, gm_acp, gm_oinit, gm_back, gm_scall, gm_vcall, gm_iret, gm_zret, gm_cret, gm_lret, gm_aret, gm_vret, gm_slen, gm_schar, gm_sidx, gm_lget, gm_lset, gm_nl, gm_ent, gm_wd, gm_pop, gm_pad, gm_xl_c, gm_alen_u, gm_1_sF, gm_1_sA, gm_1_cp, gm_len_sF, gm_len_sA, gm_len_cp, Bool.or_true, Bool.true_or, gm_max_u, gm_min_u, gm_isO_sF, gm_isO_sA, gm_isO_cp, gm_gF_sF, gm_gF_sA, gm_gA_sF, gm_gA_sA, gm_gF_cp, gm_gA_cp, gm_add, gm_sub, gm_mul, gm_neg, ↓reduceIte, Nat.reduceAdd, Nat.reduceLeDiff, true_and, and_true, and_self, true_or, or_true, false_and, and_false, false_or, or_false, eq_self, Nat.reduceEqDiff, Int.reduceEq, Int.reduceLT, Int.reduceLE, Int.reduceNeg, Int.reduceAdd, Int.reduceSub, Int.reduceMul, Int.reduceDiv, Int.reduceMod, reduceCtorEq, if_true, if_false, gm_w_id, xX4_readClause_0, xX4_readClause_1, xX4_readClause_2, xX4_readClause_3, xX4_readClause_4, xX4_readClause_5, xX4_readClause_6, xX4_readClause_7, xX4_readClause_8, xX4_readClause_9, xX4_readClause_10, xX4_readClause_11, xX4_readClause_12, xX4_readClause_13, xX4_readClause_14, xX4_readClause_15, xX4_readClause_16, xX4_readClause_17, xX4_readClause_18, xX4_readClause_19, gn_ok2, z81, f0, y1, y2, y3, hword, hnum, c2]
    · rw [if_neg c2] at hc
      by_cases c3 : 1 < w
      · rw [if_pos c3] at hc
        obtain ⟨rfl, rfl⟩ := Prod.mk.inj hc
        rcases hx4 with ⟨rfl, rfl⟩ | ⟨rfl, rfl⟩ | ⟨rfl, rfl⟩ | ⟨rfl, y1, y2, y3⟩ <;> simp only [Int.reduceAdd] at hword
        · omega
        · omega
        · refine ⟨gm_sF (gm_sF M1 402 81 b.2) 102 g b.1, ?_, ?_, fun x h => ?_⟩
          · rw [eX4_readClause _ _ _ (Nat.le_of_ble_eq_true rfl)]
            simp (config := { maxSteps := 2000000 }) (disch := first | omega | assumption | (simp only [gm_isO_sF, gm_isO_sA, gm_isO_cp]; assumption)) only [gm_push, gm_iload, gm_lload, gm_aload, gm_istore, gm_astore, gm_iinc, gm_op2, gm_quo, gm_op1, gm_lop2, gm_lshl, gm_i2l, gm_l2i, gm_lcmp, gm_dup, gm_pop1, gm_dup2, gm_goto, gm_ifeq, gm_ifne, gm_iflt, gm_ifge, gm_ifgt, gm_ifle, gm_ceq, gm_cne, gm_clt, gm_cge, gm_cgt, gm_cle, gm_ifnull, gm_ifnonnull, gm_swk, gm_switch, gm_getI, gm_getR, gm_putI, gm_putZ, gm_putR, gm_new, gm_newarr, gm_iald, gm_cald, gm_zald, gm_lald, gm_aald, gm_iast, gm_cast, gm_zast, gm_last, gm_aast, gm_acp, gm_oinit, gm_back, gm_scall, gm_vcall, gm_iret, gm_zret, gm_cret, gm_lret, gm_aret, gm_vret, gm_slen, gm_schar, gm_sidx, gm_lget, gm_lset, gm_nl, gm_ent, gm_wd, gm_pop, gm_pad, gm_xl_c, gm_alen_u, gm_1_sF, gm_1_sA, gm_1_cp, gm_len_sF, gm_len_sA, gm_len_cp, Bool.or_true, Bool.true_or, gm_max_u, gm_min_u, gm_isO_sF, gm_isO_sA, gm_isO_cp, gm_gF_sF, gm_gF_sA, gm_gA_sF, gm_gA_sA, gm_gF_cp, gm_gA_cp, gm_add, gm_sub, gm_mul, gm_neg, ↓reduceIte, Nat.reduceAdd, Nat.reduceLeDiff, true_and, and_true, and_self, true_or, or_true, false_and, and_false, false_or, or_false, eq_self, Nat.reduceEqDiff, Int.reduceEq, Int.reduceLT, Int.reduceLE, Int.reduceNeg, Int.reduceAdd, Int.reduceSub, Int.reduceMul, Int.reduceDiv, Int.reduceMod, reduceCtorEq, if_true, if_false, gm_w_id, xX4_readClause_0, xX4_readClause_1, xX4_readClause_2, xX4_readClause_3, xX4_readClause_4, xX4_readClause_5, xX4_readClause_6, xX4_readClause_7, xX4_readClause_8, xX4_readClause_9, xX4_readClause_10, xX4_readClause_11, xX4_readClause_12, xX4_readClause_13, xX4_readClause_14, xX4_readClause_15, xX4_readClause_16, xX4_readClause_17, xX4_readClause_18, xX4_readClause_19, gn_ok2, z81, f0, hword, hnum, c2, hO1]
          · exact (hfr _).f (Or.inl rfl)
          · obtain rfl := Option.some.inj h
            exact ⟨(hfr _).f (Or.inl rfl), hs.p.f (Or.inl rfl), hcl.p.f (Or.inl rfl), by rw [gm_gF_sF, if_pos ⟨rfl, rfl⟩]; rfl, by rw [gm_gF_sF, if_neg (by omega), gm_gF_sF, if_neg (by omega)]; exact hhi⟩
        · refine ⟨gm_sF (gm_sF M1 402 81 b.2) 103 g b.1, ?_, ?_, fun x h => ?_⟩
          · rw [eX4_readClause _ _ _ (Nat.le_of_ble_eq_true rfl)]
            simp (config := { maxSteps := 2000000 }) (disch := first | omega | assumption | (simp only [gm_isO_sF, gm_isO_sA, gm_isO_cp]; assumption)) only [gm_push, gm_iload, gm_lload, gm_aload, gm_istore, gm_astore, gm_iinc, gm_op2, gm_quo, gm_op1, gm_lop2, gm_lshl, gm_i2l, gm_l2i, gm_lcmp, gm_dup, gm_pop1, gm_dup2, gm_goto, gm_ifeq, gm_ifne, gm_iflt, gm_ifge, gm_ifgt, gm_ifle, gm_ceq, gm_cne, gm_clt, gm_cge, gm_cgt, gm_cle, gm_ifnull, gm_ifnonnull, gm_swk, gm_switch, gm_getI, gm_getR, gm_putI, gm_putZ, gm_putR, gm_new, gm_newarr, gm_iald, gm_cald, gm_zald, gm_lald, gm_aald, gm_iast, gm_cast, gm_zast, gm_last, gm_aast, gm_acp, gm_oinit, gm_back, gm_scall, gm_vcall, gm_iret, gm_zret, gm_cret, gm_lret, gm_aret, gm_vret, gm_slen, gm_schar, gm_sidx, gm_lget, gm_lset, gm_nl, gm_ent, gm_wd, gm_pop, gm_pad, gm_xl_c, gm_alen_u, gm_1_sF, gm_1_sA, gm_1_cp, gm_len_sF, gm_len_sA, gm_len_cp, Bool.or_true, Bool.true_or, gm_max_u, gm_min_u, gm_isO_sF, gm_isO_sA, gm_isO_cp, gm_gF_sF, gm_gF_sA, gm_gA_sF, gm_gA_sA, gm_gF_cp, gm_gA_cp, gm_add, gm_sub, gm_mul, gm_neg, ↓reduceIte, Nat.reduceAdd, Nat.reduceLeDiff, true_and, and_true, and_self, true_or, or_true, false_and, and_false, false_or, or_false, eq_self, Nat.reduceEqDiff, Int.reduceEq, Int.reduceLT, Int.reduceLE, Int.reduceNeg, Int.reduceAdd, Int.reduceSub, Int.reduceMul, Int.reduceDiv, Int.reduceMod, reduceCtorEq, if_true, if_false, gm_w_id, xX4_readClause_0, xX4_readClause_1, xX4_readClause_2, xX4_readClause_3, xX4_readClause_4, xX4_readClause_5, xX4_readClause_6, xX4_readClause_7, xX4_readClause_8, xX4_readClause_9, xX4_readClause_10, xX4_readClause_11, xX4_readClause_12, xX4_readClause_13, xX4_readClause_14, xX4_readClause_15, xX4_readClause_16, xX4_readClause_17, xX4_readClause_18, xX4_readClause_19, gn_ok2, z81, f0, y1, y2, y3, hword, hnum, c2, hO1]
          · exact (hfr _).f (Or.inr rfl)
          · obtain rfl := Option.some.inj h
            exact ⟨(hfr _).f (Or.inr rfl), hs.p.f (Or.inr rfl), hcl.p.f (Or.inr rfl), by rw [gm_gF_sF, if_neg (by omega), gm_gF_sF, if_neg (by omega)]; exact hlo, by rw [gm_gF_sF, if_pos ⟨rfl, rfl⟩]; rfl⟩
      · rw [if_neg c3] at hc
        have hp5 := gn_ww_n w
        -- the clauses that it goes to
        have key : ∀ (c a0 : Int) (S : List (Int × Int)), (c = g + 1 ∨ c = g + 4) → gn_rws M1 c S a0 → (S.length : Int) + (n - p) ≤ 100 →
            ∃ M2 z, (z = 0 ∨ z = 1) ∧ z = (gn_ok2 r) ∧ (∃ S' z', (z' = 0 ∧ gn_ch t n b.2 ≠ 32 ∧ z = 0 ∧ gm_go d 34 [.inr (.inr 81), .inl 32] (gn_K c M1 b.2 S) = some (some (.inl 0), gn_K c M1 q S') ∨ z' = 1 ∧ ∃ S1, gm_go d 34 [.inr (.inr 81), .inl 32] (gn_K c M1 b.2 S) = some (some (.inl 1), gn_K c M1 (b.2 + 1) S1) ∧ gm_go d 29 [.inr (.inr 81), .inr (.inr c), .inl 124, .inl 0] (gn_K c M1 (b.2 + 1) S1) = some (some (.inl z), gn_K c M1 q S')) ∧ gm_go d 3 [.inr (.inr c), .inl b.1] (gn_K c M1 q S') = some (none, M2)) ∧ ∃ S2, M2 = gm_sF (gn_K c M1 q S2) 3 c 1 ∧ ∀ y, r = some y → y.1 = w ∧ y.2.1 = b.1 ∧ S2 = S ++ gn_Xc y.2.2 (S.length : Int) ++ [(21, y.2.1)] := by
          intro c a0 S hcg hrw0 hSl
          have hcb : 94 ≤ c ∧ c ≤ 135 := by omega
          have hOc : gm_isO 0 M1 c = true := by rcases hcg with rfl | rfl; exact k100; exact k101
          have hRb := hR1.K (q := b.2) (S := S) hcb (by omega)
          have e1 := r_X4_readSign (D := d) (by omega) hRb (s := 32) (by decide)
          rw [gn_K_p] at e1
          by_cases c4 : gn_ch t n b.2 = 32
          · rw [if_neg (fun z => z c4)] at hc
            rw [if_pos c4] at e1
            have p1 := gn_ch_lt (t := t) (n := n) (p := b.2) (by omega)
            obtain ⟨⟨r0, q0⟩, hx⟩ := gn_ps_t (t := t) (n := n) 403 3 0 (gn_Xt 0 0 0) (b.2 + 1) (by omega) (by simp only [gn_km]; omega)
            have hpb := gn_ps_b _ _ _ _ _ _ _ hx (by omega)
            have hch := (gn_cs hR1 hOc hcb 403).2.2.2.1 0 (gn_Xt 0 0 0) (b.2 + 1) r0 q0 S d hx (by omega) (by decide) (by omega) (by omega)
            obtain ⟨S', e2, hb4, h4⟩ := hch
            rw [hx] at hc
            obtain ⟨S2, e3, h5⟩ := r_X0_endClause (D := d) (by omega) (p := q0) (v := b.1) hL1 hOc hcb S' hb4
            rcases r0 with _ | e
            · simp only at hc
              obtain ⟨rfl, rfl⟩ := Prod.mk.inj hc
              exact ⟨_, 0, Or.inl rfl, rfl, ⟨S', 1, Or.inr ⟨rfl, S, e1, e2⟩, e3⟩, S2, rfl, fun y h => by simp at h⟩
            · simp only at hc
              obtain ⟨rfl, rfl⟩ := Prod.mk.inj hc
              have a4 := (hpb.2.2 e rfl).1 (by decide)
              have h6 := h4 e rfl
              have hle := a4.1.2.1 (S.length : Int)
              have hl5 : (S'.length : Int) = (S.length : Int) + gn_sz e := by
                rw [h6, List.length_append]
                omega
              refine ⟨_, 1, Or.inr rfl, rfl, ⟨S', 1, Or.inr ⟨rfl, S, e1, e2⟩, e3⟩, S2, rfl, fun y h => ?_⟩
              obtain rfl := Option.some.inj h
              exact ⟨rfl, rfl, by rw [h5 (by omega), h6]⟩
          · rw [if_pos c4] at hc
            rw [if_neg c4] at e1
            obtain ⟨rfl, rfl⟩ := Prod.mk.inj hc
            obtain ⟨S2, e3, h5⟩ := r_X0_endClause (D := d) (by omega) (p := b.2) (v := b.1) hL1 hOc hcb S (by omega)
            exact ⟨_, 0, Or.inl rfl, rfl, ⟨S, 0, Or.inl ⟨rfl, c4, rfl, e1⟩, e3⟩, S2, rfl, fun y h => by simp at h⟩
        rcases hx4 with ⟨rfl, rfl⟩ | ⟨rfl, rfl⟩ | ⟨rfl, rfl⟩ | ⟨rfl, y1, y2, y3⟩ <;> simp only [Int.reduceAdd, Int.add_zero] at hword
        · obtain ⟨M2, z, hz, hzr, ⟨S', z', e12, e3⟩, S2, hM2, hr2⟩ := key (g + 1) _ _ (Or.inl rfl) hs (by omega)
          have hk : ∀ q', gm_sF M1 402 81 q' = gn_K (g + 1) M1 q' s.1.1 := fun q' => by
            rw [← gn_K_p (g + 1) M1 p q' s.1.1, gn_K_self hs hR1.2.2.1]
          simp only [hk] at hword hnum
          have hg1 : ∀ q' S, gm_gF (gn_K (g + 1) M1 q' S) 100 g = g + 1 := fun q' S => by rw [gn_K_F, if_neg (by omega), if_neg (by omega)]; exact l100
          refine ⟨M2, ?_, hM2 ▸ hf.K hg (Or.inl rfl) S2, fun y hy => ?_⟩
          · rw [← hzr, eX4_readClause _ _ _ (Nat.le_of_ble_eq_true rfl)]
            rcases e12 with ⟨rfl, -, rfl, e1⟩ | ⟨rfl, S1, e1, e2⟩
            · simp (config := { maxSteps := 2000000 }) (disch := first | omega | assumption | (simp only [gm_isO_sF, gm_isO_sA, gm_isO_cp]; assumption)) only [gm_push, gm_iload, gm_lload, gm_aload, gm_istore, gm_astore, gm_iinc, gm_op2, gm_quo, gm_op1, gm_lop2, gm_lshl, gm_i2l, gm_l2i, gm_lcmp, gm_dup, gm_pop1, gm_dup2, gm_goto, gm_ifeq, gm_ifne, gm_iflt, gm_ifge, gm_ifgt, gm_ifle, gm_ceq, gm_cne, gm_clt, gm_cge, gm_cgt, gm_cle, gm_ifnull, gm_ifnonnull, gm_swk, gm_switch, gm_getI, gm_getR, gm_putI, gm_putZ, gm_putR, gm_new, gm_newarr, gm_iald, gm_cald, gm_zald, gm_lald, gm_aald, gm_iast, gm_cast, gm_zast, gm_last, gm_aast, gm_acp, gm_oinit, gm_back, gm_scall, gm_vcall, gm_iret, gm_zret, gm_cret, gm_lret, gm_aret, gm_vret, gm_slen, gm_schar, gm_sidx, gm_lget, gm_lset, gm_nl, gm_ent, gm_wd, gm_pop, gm_pad, gm_xl_c, gm_alen_u, gm_1_sF, gm_1_sA, gm_1_cp, gm_len_sF, gm_len_sA, gm_len_cp, Bool.or_true, Bool.true_or, gm_max_u, gm_min_u, gm_isO_sF, gm_isO_sA, gm_isO_cp, gm_gF_sF, gm_gF_sA, gm_gA_sF, gm_gA_sA, gm_gF_cp, gm_gA_cp, gm_add, gm_sub, gm_mul, gm_neg, ↓reduceIte, Nat.reduceAdd, Nat.reduceLeDiff, true_and, and_true, and_self, true_or, or_true, false_and, and_false, false_or, or_false, eq_self, Nat.reduceEqDiff, Int.reduceEq, Int.reduceLT, Int.reduceLE, Int.reduceNeg, Int.reduceAdd, Int.reduceSub, Int.reduceMul, Int.reduceDiv, Int.reduceMod, reduceCtorEq, if_true, if_false, gm_w_id, xX4_readClause_0, xX4_readClause_1, xX4_readClause_2, xX4_readClause_3, xX4_readClause_4, xX4_readClause_5, xX4_readClause_6, xX4_readClause_7, xX4_readClause_8, xX4_readClause_9, xX4_readClause_10, xX4_readClause_11, xX4_readClause_12, xX4_readClause_13, xX4_readClause_14, xX4_readClause_15, xX4_readClause_16, xX4_readClause_17, xX4_readClause_18, xX4_readClause_19, gn_ok2, gn_K_O, z81, k100, f0, hword, hnum, c2, hO1, hg1, e1, e3]
            · rcases hz with rfl | rfl
              · simp (config := { maxSteps := 2000000 }) (disch := first | omega | assumption | (simp only [gm_isO_sF, gm_isO_sA, gm_isO_cp]; assumption)) only [gm_push, gm_iload, gm_lload, gm_aload, gm_istore, gm_astore, gm_iinc, gm_op2, gm_quo, gm_op1, gm_lop2, gm_lshl, gm_i2l, gm_l2i, gm_lcmp, gm_dup, gm_pop1, gm_dup2, gm_goto, gm_ifeq, gm_ifne, gm_iflt, gm_ifge, gm_ifgt, gm_ifle, gm_ceq, gm_cne, gm_clt, gm_cge, gm_cgt, gm_cle, gm_ifnull, gm_ifnonnull, gm_swk, gm_switch, gm_getI, gm_getR, gm_putI, gm_putZ, gm_putR, gm_new, gm_newarr, gm_iald, gm_cald, gm_zald, gm_lald, gm_aald, gm_iast, gm_cast, gm_zast, gm_last, gm_aast, gm_acp, gm_oinit, gm_back, gm_scall, gm_vcall, gm_iret, gm_zret, gm_cret, gm_lret, gm_aret, gm_vret, gm_slen, gm_schar, gm_sidx, gm_lget, gm_lset, gm_nl, gm_ent, gm_wd, gm_pop, gm_pad, gm_xl_c, gm_alen_u, gm_1_sF, gm_1_sA, gm_1_cp, gm_len_sF, gm_len_sA, gm_len_cp, Bool.or_true, Bool.true_or, gm_max_u, gm_min_u, gm_isO_sF, gm_isO_sA, gm_isO_cp, gm_gF_sF, gm_gF_sA, gm_gA_sF, gm_gA_sA, gm_gF_cp, gm_gA_cp, gm_add, gm_sub, gm_mul, gm_neg, ↓reduceIte, Nat.reduceAdd, Nat.reduceLeDiff, true_and, and_true, and_self, true_or, or_true, false_and, and_false, false_or, or_false, eq_self, Nat.reduceEqDiff, Int.reduceEq, Int.reduceLT, Int.reduceLE, Int.reduceNeg, Int.reduceAdd, Int.reduceSub, Int.reduceMul, Int.reduceDiv, Int.reduceMod, reduceCtorEq, if_true, if_false, gm_w_id, xX4_readClause_0, xX4_readClause_1, xX4_readClause_2, xX4_readClause_3, xX4_readClause_4, xX4_readClause_5, xX4_readClause_6, xX4_readClause_7, xX4_readClause_8, xX4_readClause_9, xX4_readClause_10, xX4_readClause_11, xX4_readClause_12, xX4_readClause_13, xX4_readClause_14, xX4_readClause_15, xX4_readClause_16, xX4_readClause_17, xX4_readClause_18, xX4_readClause_19, gn_ok2, gn_K_O, z81, k100, f0, hword, hnum, c2, hO1, hg1, e1, e2, e3]
              · simp (config := { maxSteps := 2000000 }) (disch := first | omega | assumption | (simp only [gm_isO_sF, gm_isO_sA, gm_isO_cp]; assumption)) only [gm_push, gm_iload, gm_lload, gm_aload, gm_istore, gm_astore, gm_iinc, gm_op2, gm_quo, gm_op1, gm_lop2, gm_lshl, gm_i2l, gm_l2i, gm_lcmp, gm_dup, gm_pop1, gm_dup2, gm_goto, gm_ifeq, gm_ifne, gm_iflt, gm_ifge, gm_ifgt, gm_ifle, gm_ceq, gm_cne, gm_clt, gm_cge, gm_cgt, gm_cle, gm_ifnull, gm_ifnonnull, gm_swk, gm_switch, gm_getI, gm_getR, gm_putI, gm_putZ, gm_putR, gm_new, gm_newarr, gm_iald, gm_cald, gm_zald, gm_lald, gm_aald, gm_iast, gm_cast, gm_zast, gm_last, gm_aast, gm_acp, gm_oinit, gm_back, gm_scall, gm_vcall, gm_iret, gm_zret, gm_cret, gm_lret, gm_aret, gm_vret, gm_slen, gm_schar, gm_sidx, gm_lget, gm_lset, gm_nl, gm_ent, gm_wd, gm_pop, gm_pad, gm_xl_c, gm_alen_u, gm_1_sF, gm_1_sA, gm_1_cp, gm_len_sF, gm_len_sA, gm_len_cp, Bool.or_true, Bool.true_or, gm_max_u, gm_min_u, gm_isO_sF, gm_isO_sA, gm_isO_cp, gm_gF_sF, gm_gF_sA, gm_gA_sF, gm_gA_sA, gm_gF_cp, gm_gA_cp, gm_add, gm_sub, gm_mul, gm_neg, ↓reduceIte, Nat.reduceAdd, Nat.reduceLeDiff, true_and, and_true, and_self, true_or, or_true, false_and, and_false, false_or, or_false, eq_self, Nat.reduceEqDiff, Int.reduceEq, Int.reduceLT, Int.reduceLE, Int.reduceNeg, Int.reduceAdd, Int.reduceSub, Int.reduceMul, Int.reduceDiv, Int.reduceMod, reduceCtorEq, if_true, if_false, gm_w_id, xX4_readClause_0, xX4_readClause_1, xX4_readClause_2, xX4_readClause_3, xX4_readClause_4, xX4_readClause_5, xX4_readClause_6, xX4_readClause_7, xX4_readClause_8, xX4_readClause_9, xX4_readClause_10, xX4_readClause_11, xX4_readClause_12, xX4_readClause_13, xX4_readClause_14, xX4_readClause_15, xX4_readClause_16, xX4_readClause_17, xX4_readClause_18, xX4_readClause_19, gn_ok2, gn_K_O, z81, k100, f0, hword, hnum, c2, hO1, hg1, e1, e2, e3]
          · obtain ⟨q1, q2, q3⟩ := hr2 y hy
            subst hM2
            refine ⟨hf.K hg (Or.inl rfl) S2, ?_, ?_, ?_, ?_⟩
            · unfold gn_ad
              rw [if_pos q1, ← q3]
              exact gn_rws.K1 _ _ _ _
            · unfold gn_ad
              rw [if_pos q1]
              exact hcl.K2 (by omega)
            · unfold gn_ad
              rw [if_pos q1, gm_gF_sF, if_neg (by omega), gn_K_F, if_neg (by omega), if_neg (by omega)]
              exact hlo
            · unfold gn_ad
              rw [if_pos q1, gm_gF_sF, if_neg (by omega), gn_K_F, if_neg (by omega), if_neg (by omega)]
              exact hhi
        · obtain ⟨M2, z, hz, hzr, ⟨S', z', e12, e3⟩, S2, hM2, hr2⟩ := key (g + 4) _ _ (Or.inr rfl) hcl (by omega)
          have hk : ∀ q', gm_sF M1 402 81 q' = gn_K (g + 4) M1 q' s.2.1.1 := fun q' => by
            rw [← gn_K_p (g + 4) M1 p q' s.2.1.1, gn_K_self hcl hR1.2.2.1]
          simp only [hk] at hword hnum
          have hg1 : ∀ q' S, gm_gF (gn_K (g + 4) M1 q' S) 101 g = g + 4 := fun q' S => by rw [gn_K_F, if_neg (by omega), if_neg (by omega)]; exact l101
          refine ⟨M2, ?_, hM2 ▸ hf.K hg (Or.inr rfl) S2, fun y hy => ?_⟩
          · rw [← hzr, eX4_readClause _ _ _ (Nat.le_of_ble_eq_true rfl)]
            rcases e12 with ⟨rfl, -, rfl, e1⟩ | ⟨rfl, S1, e1, e2⟩
            · simp (config := { maxSteps := 2000000 }) (disch := first | omega | assumption | (simp only [gm_isO_sF, gm_isO_sA, gm_isO_cp]; assumption)) only [gm_push, gm_iload, gm_lload, gm_aload, gm_istore, gm_astore, gm_iinc, gm_op2, gm_quo, gm_op1, gm_lop2, gm_lshl, gm_i2l, gm_l2i, gm_lcmp, gm_dup, gm_pop1, gm_dup2, gm_goto, gm_ifeq, gm_ifne, gm_iflt, gm_ifge, gm_ifgt, gm_ifle, gm_ceq, gm_cne, gm_clt, gm_cge, gm_cgt, gm_cle, gm_ifnull, gm_ifnonnull, gm_swk, gm_switch, gm_getI, gm_getR, gm_putI, gm_putZ, gm_putR, gm_new, gm_newarr, gm_iald, gm_cald, gm_zald, gm_lald, gm_aald, gm_iast, gm_cast, gm_zast, gm_last, gm_aast, gm_acp, gm_oinit, gm_back, gm_scall, gm_vcall, gm_iret, gm_zret, gm_cret, gm_lret, gm_aret, gm_vret, gm_slen, gm_schar, gm_sidx, gm_lget, gm_lset, gm_nl, gm_ent, gm_wd, gm_pop, gm_pad, gm_xl_c, gm_alen_u, gm_1_sF, gm_1_sA, gm_1_cp, gm_len_sF, gm_len_sA, gm_len_cp, Bool.or_true, Bool.true_or, gm_max_u, gm_min_u, gm_isO_sF, gm_isO_sA, gm_isO_cp, gm_gF_sF, gm_gF_sA, gm_gA_sF, gm_gA_sA, gm_gF_cp, gm_gA_cp, gm_add, gm_sub, gm_mul, gm_neg, ↓reduceIte, Nat.reduceAdd, Nat.reduceLeDiff, true_and, and_true, and_self, true_or, or_true, false_and, and_false, false_or, or_false, eq_self, Nat.reduceEqDiff, Int.reduceEq, Int.reduceLT, Int.reduceLE, Int.reduceNeg, Int.reduceAdd, Int.reduceSub, Int.reduceMul, Int.reduceDiv, Int.reduceMod, reduceCtorEq, if_true, if_false, gm_w_id, xX4_readClause_0, xX4_readClause_1, xX4_readClause_2, xX4_readClause_3, xX4_readClause_4, xX4_readClause_5, xX4_readClause_6, xX4_readClause_7, xX4_readClause_8, xX4_readClause_9, xX4_readClause_10, xX4_readClause_11, xX4_readClause_12, xX4_readClause_13, xX4_readClause_14, xX4_readClause_15, xX4_readClause_16, xX4_readClause_17, xX4_readClause_18, xX4_readClause_19, gn_ok2, gn_K_O, z81, k101, f0, hword, hnum, c2, hO1, hg1, e1, e3]
            · rcases hz with rfl | rfl
              · simp (config := { maxSteps := 2000000 }) (disch := first | omega | assumption | (simp only [gm_isO_sF, gm_isO_sA, gm_isO_cp]; assumption)) only [gm_push, gm_iload, gm_lload, gm_aload, gm_istore, gm_astore, gm_iinc, gm_op2, gm_quo, gm_op1, gm_lop2, gm_lshl, gm_i2l, gm_l2i, gm_lcmp, gm_dup, gm_pop1, gm_dup2, gm_goto, gm_ifeq, gm_ifne, gm_iflt, gm_ifge, gm_ifgt, gm_ifle, gm_ceq, gm_cne, gm_clt, gm_cge, gm_cgt, gm_cle, gm_ifnull, gm_ifnonnull, gm_swk, gm_switch, gm_getI, gm_getR, gm_putI, gm_putZ, gm_putR, gm_new, gm_newarr, gm_iald, gm_cald, gm_zald, gm_lald, gm_aald, gm_iast, gm_cast, gm_zast, gm_last, gm_aast, gm_acp, gm_oinit, gm_back, gm_scall, gm_vcall, gm_iret, gm_zret, gm_cret, gm_lret, gm_aret, gm_vret, gm_slen, gm_schar, gm_sidx, gm_lget, gm_lset, gm_nl, gm_ent, gm_wd, gm_pop, gm_pad, gm_xl_c, gm_alen_u, gm_1_sF, gm_1_sA, gm_1_cp, gm_len_sF, gm_len_sA, gm_len_cp, Bool.or_true, Bool.true_or, gm_max_u, gm_min_u, gm_isO_sF, gm_isO_sA, gm_isO_cp, gm_gF_sF, gm_gF_sA, gm_gA_sF, gm_gA_sA, gm_gF_cp, gm_gA_cp, gm_add, gm_sub, gm_mul, gm_neg, ↓reduceIte, Nat.reduceAdd, Nat.reduceLeDiff, true_and, and_true, and_self, true_or, or_true, false_and, and_false, false_or, or_false, eq_self, Nat.reduceEqDiff, Int.reduceEq, Int.reduceLT, Int.reduceLE, Int.reduceNeg, Int.reduceAdd, Int.reduceSub, Int.reduceMul, Int.reduceDiv, Int.reduceMod, reduceCtorEq, if_true, if_false, gm_w_id, xX4_readClause_0, xX4_readClause_1, xX4_readClause_2, xX4_readClause_3, xX4_readClause_4, xX4_readClause_5, xX4_readClause_6, xX4_readClause_7, xX4_readClause_8, xX4_readClause_9, xX4_readClause_10, xX4_readClause_11, xX4_readClause_12, xX4_readClause_13, xX4_readClause_14, xX4_readClause_15, xX4_readClause_16, xX4_readClause_17, xX4_readClause_18, xX4_readClause_19, gn_ok2, gn_K_O, z81, k101, f0, hword, hnum, c2, hO1, hg1, e1, e2, e3]
              · simp (config := { maxSteps := 2000000 }) (disch := first | omega | assumption | (simp only [gm_isO_sF, gm_isO_sA, gm_isO_cp]; assumption)) only [gm_push, gm_iload, gm_lload, gm_aload, gm_istore, gm_astore, gm_iinc, gm_op2, gm_quo, gm_op1, gm_lop2, gm_lshl, gm_i2l, gm_l2i, gm_lcmp, gm_dup, gm_pop1, gm_dup2, gm_goto, gm_ifeq, gm_ifne, gm_iflt, gm_ifge, gm_ifgt, gm_ifle, gm_ceq, gm_cne, gm_clt, gm_cge, gm_cgt, gm_cle, gm_ifnull, gm_ifnonnull, gm_swk, gm_switch, gm_getI, gm_getR, gm_putI, gm_putZ, gm_putR, gm_new, gm_newarr, gm_iald, gm_cald, gm_zald, gm_lald, gm_aald, gm_iast, gm_cast, gm_zast, gm_last, gm_aast, gm_acp, gm_oinit, gm_back, gm_scall, gm_vcall, gm_iret, gm_zret, gm_cret, gm_lret, gm_aret, gm_vret, gm_slen, gm_schar, gm_sidx, gm_lget, gm_lset, gm_nl, gm_ent, gm_wd, gm_pop, gm_pad, gm_xl_c, gm_alen_u, gm_1_sF, gm_1_sA, gm_1_cp, gm_len_sF, gm_len_sA, gm_len_cp, Bool.or_true, Bool.true_or, gm_max_u, gm_min_u, gm_isO_sF, gm_isO_sA, gm_isO_cp, gm_gF_sF, gm_gF_sA, gm_gA_sF, gm_gA_sA, gm_gF_cp, gm_gA_cp, gm_add, gm_sub, gm_mul, gm_neg, ↓reduceIte, Nat.reduceAdd, Nat.reduceLeDiff, true_and, and_true, and_self, true_or, or_true, false_and, and_false, false_or, or_false, eq_self, Nat.reduceEqDiff, Int.reduceEq, Int.reduceLT, Int.reduceLE, Int.reduceNeg, Int.reduceAdd, Int.reduceSub, Int.reduceMul, Int.reduceDiv, Int.reduceMod, reduceCtorEq, if_true, if_false, gm_w_id, xX4_readClause_0, xX4_readClause_1, xX4_readClause_2, xX4_readClause_3, xX4_readClause_4, xX4_readClause_5, xX4_readClause_6, xX4_readClause_7, xX4_readClause_8, xX4_readClause_9, xX4_readClause_10, xX4_readClause_11, xX4_readClause_12, xX4_readClause_13, xX4_readClause_14, xX4_readClause_15, xX4_readClause_16, xX4_readClause_17, xX4_readClause_18, xX4_readClause_19, gn_ok2, gn_K_O, z81, k101, f0, hword, hnum, c2, hO1, hg1, e1, e2, e3]
          · obtain ⟨q1, q2, q3⟩ := hr2 y hy
            subst hM2
            refine ⟨hf.K hg (Or.inr rfl) S2, ?_, ?_, ?_, ?_⟩
            · unfold gn_ad
              rw [if_neg (by omega), if_pos q1]
              exact hs.K2 (by omega)
            · unfold gn_ad
              rw [if_neg (by omega), if_pos q1, ← q3]
              exact gn_rws.K1 _ _ _ _
            · unfold gn_ad
              rw [if_neg (by omega), if_pos q1, gm_gF_sF, if_neg (by omega), gn_K_F, if_neg (by omega), if_neg (by omega)]
              exact hlo
            · unfold gn_ad
              rw [if_neg (by omega), if_pos q1, gm_gF_sF, if_neg (by omega), gn_K_F, if_neg (by omega), if_neg (by omega)]
              exact hhi
        · omega
        · omega
