/-! GROUND: the older grounds stay -/
theorem gn_rpn_e {S S' F : Int → Int} : ∀ (n : Nat) (k : Int) (st : List Int), (∀ i, k ≤ i → i < k + n → S' i = S i) → gn_rpn S' F n k st = gn_rpn S F n k st
  | 0, _, _, _ => rfl
  | n + 1, k, st, h => by
    have hk := h k (Int.le_refl _) (by omega)
    have ih : ∀ st, gn_rpn S' F n (k + 1) st = gn_rpn S F n (k + 1) st := fun st => gn_rpn_e n (k + 1) st (fun i i1 i2 => h i (by omega) (by omega))
    simp only [gn_rpn, hk, ih]
theorem gn_dok_e {S S' : Int → Int} : ∀ (n : Nat) (k : Int) (d : Nat), (∀ i, k ≤ i → i < k + n → S' i = S i) → gn_dok S n k d → gn_dok S' n k d
  | 0, _, _, _, h => h
  | n + 1, k, d, h, g => by
    have hk := h k (Int.le_refl _) (by omega)
    have ih : ∀ d, gn_dok S n (k + 1) d → gn_dok S' n (k + 1) d := fun d => gn_dok_e n (k + 1) d (fun i i1 i2 => h i (by omega) (by omega))
    rw [gn_dok] at g ⊢
    rw [hk]
    rcases g with ⟨g1, g2, g3⟩ | ⟨g1, g2, g3⟩ | ⟨g1, g2, g3⟩
    · exact Or.inl ⟨g1, g2, ih _ g3⟩
    · exact Or.inr (Or.inl ⟨g1, g2, ih _ g3⟩)
    · exact Or.inr (Or.inr ⟨g1, g2, ih _ g3⟩)
theorem gn_gok.fr {M M1 : gm_M} {g f : Int} (h1 : 0 ≤ g) (h2 : g < f) (hf : f ≤ 5) (hF : ∀ (f : Nat) (o : Int), (94 + 7 * g ≤ o ∧ o ≤ 94 + 7 * g + 6) → gm_gF M1 f o = gm_gF M f o) (hA : ∀ a i : Int, (94 + 7 * g ≤ a ∧ a ≤ 94 + 7 * g + 6) → gm_gA M1 a i = gm_gA M a i) (h7 : gm_gA M1 157 g = gm_gA M 157 g) (hX : ∀ a i : Int, 158 ≤ a → a ≤ 161 → i < 10 * f → gm_gA M1 a i = gm_gA M a i) (hS : ∀ i : Int, i < 100 * f → gm_gA M1 162 i = gm_gA M 162 i) (h : gn_gok M g) : gn_gok M1 g := by
  have gF : ∀ (f : Nat) (y : Int), 0 ≤ y → y ≤ 6 → gm_gF M1 f (94 + 7 * g + y) = gm_gF M f (94 + 7 * g + y) := fun f y y1 y2 => hF f _ (by omega)
  have gA : ∀ (y : Int), 0 ≤ y → y ≤ 6 → gm_gA M1 (94 + 7 * g + y) = gm_gA M (94 + 7 * g + y) := fun y y1 y2 => by funext i; exact hA _ i (by omega)
  have gF0 : ∀ (f : Nat), gm_gF M1 f (94 + 7 * g) = gm_gF M f (94 + 7 * g) := fun f => hF f _ (by omega)
  have hcw : ∀ y, 0 ≤ y → y ≤ 4 → gm_cwf M (94 + 7 * g + y) → gm_cwf M1 (94 + 7 * g + y) := fun y y1 y2 hc => by
    unfold gm_cwf at *
    rw [gF 2 y y1 (by omega), gF 3 y y1 (by omega)]
    rw [show 94 + 7 * g + y + 1 = 94 + 7 * g + (y + 1) by omega, show 94 + 7 * g + y + 2 = 94 + 7 * g + (y + 2) by omega] at *
    rw [gA (y + 1) (by omega) (by omega), gA (y + 2) (by omega) (by omega)]
    exact hc
  have htf : ∀ y, 0 ≤ y → y ≤ 4 → gm_tf M1 (94 + 7 * g + y) = gm_tf M (94 + 7 * g + y) := fun y y1 y2 => by
    funext num kind v moon warm held
    unfold gm_tf
    rw [gF 2 y y1 (by omega), gF 3 y y1 (by omega)]
    rw [show 94 + 7 * g + y + 1 = 94 + 7 * g + (y + 1) by omega, show 94 + 7 * g + y + 2 = 94 + 7 * g + (y + 2) by omega]
    rw [gA (y + 1) (by omega) (by omega), gA (y + 2) (by omega) (by omega)]
  obtain ⟨a1, a2, a3, a4, a5⟩ := h
  have rng : ∀ c, 10 * g ≤ c → c < 10 * g + ((gm_gA M 157 g).toNat : Int) → c < 10 * f ∧ (gm_gA M 158 c ≤ 1 → gm_gA M 161 c ≤ 100 * f ∧ gm_gA M 160 c ≤ gm_gA M 161 c) := fun c c1 c2 => by
    refine ⟨by omega, fun z => ?_⟩
    have x := (a3 c c1 c2).2.2 z
    have y := a5 c c1 (by omega) z
    omega
  have hld : ∀ c F, 10 * g ≤ c → c < 10 * g + ((gm_gA M 157 g).toNat : Int) → gm_gA M 158 c ≤ 1 → gn_hld M1 c F = gn_hld M c F := fun c F c1 c2 z => by
    obtain ⟨r1, r2⟩ := rng c c1 c2
    obtain ⟨r3, r4⟩ := r2 z
    unfold gn_hld
    rw [hX 161 c (by decide) (by decide) r1, hX 160 c (by decide) (by decide) r1]
    rw [gn_rpn_e (S := gm_gA M 162) _ _ _ (fun i i1 i2 => hS i (by omega))]
  have hsm : ∀ w F, w ≤ 1 → ∀ (n : Nat) (c s b : Int), 10 * g ≤ c → c + (n : Int) ≤ 10 * g + ((gm_gA M 157 g).toNat : Int) → gn_smw M1 w F n c s b = gn_smw M w F n c s b := fun w F hw n => by
    induction n with
    | zero => intro c s b _ _; rfl
    | succ n ih =>
      intro c s b c1 c2
      have e := hX 158 c (by decide) (by decide) (rng c c1 (by omega)).1
      have e2 := hX 159 c (by decide) (by decide) (rng c c1 (by omega)).1
      have ih' := fun s b => ih (c + 1) s b (by omega) (by omega)
      simp only [gn_smw, e, e2, ih']
      by_cases z : gm_gA M 158 c = w
      · rw [if_pos z, if_pos z, hld c F c1 (by omega) (by omega)]
      · rw [if_neg z, if_neg z]
  have hl : ∀ w (n : Nat) (c z : Int), 10 * g ≤ c → c + (n : Int) ≤ 10 * g + ((gm_gA M 157 g).toNat : Int) → gn_lst M1 w n c z = gn_lst M w n c z := fun w n => by
    induction n with
    | zero => intro c z _ _; rfl
    | succ n ih =>
      intro c z c1 c2
      have e := hX 158 c (by decide) (by decide) (rng c c1 (by omega)).1
      have e2 := hX 159 c (by decide) (by decide) (rng c c1 (by omega)).1
      have ih' := fun z => ih (c + 1) z (by omega) (by omega)
      simp only [gn_lst, e, e2, ih']
  unfold gn_gok
  rw [h7]
  refine ⟨a1, ⟨hcw 1 (by decide) (by decide) a2.1, hcw 4 (by decide) (by decide) a2.2.1, ?_⟩, fun c c1 c2 => ?_, ?_, fun c c1 c2 => ?_⟩
  · rw [gF0 102, gF0 103]; exact a2.2.2
  · obtain ⟨r1, r2⟩ := rng c c1 c2
    rw [hX 158 c (by decide) (by decide) r1, hX 159 c (by decide) (by decide) r1, hX 160 c (by decide) (by decide) r1, hX 161 c (by decide) (by decide) r1]
    refine ⟨(a3 c c1 c2).1, (a3 c c1 c2).2.1, fun z => ?_⟩
    obtain ⟨x1, x2, x3, x4⟩ := (a3 c c1 c2).2.2 z
    obtain ⟨r3, r4⟩ := r2 z
    exact ⟨x1, x2, x3, gn_dok_e _ _ _ (fun i i1 i2 => hS i (by omega)) x4⟩
  · unfold gn_gsm
    rw [htf 1 (by decide) (by decide), htf 4 (by decide) (by decide), gF0 102, gF0 103]
    unfold gn_ms
    refine ⟨fun num kind v moon warm held y1 y2 y3 y4 y5 y6 => ?_, ?_⟩
    · rw [hsm 0 _ (by decide) _ _ _ _ (Int.le_refl _) (Int.le_refl _), hsm 1 _ (by decide) _ _ _ _ (Int.le_refl _) (Int.le_refl _)]
      exact a4.1 num kind v moon warm held y1 y2 y3 y4 y5 y6
    · rw [hl 2 _ _ _ (Int.le_refl _) (Int.le_refl _), hl 3 _ _ _ (Int.le_refl _) (Int.le_refl _)]
      exact a4.2
  · have r1 := (rng c c1 (by have := a1.1; omega)).1
    rw [h7] at c2
    rw [hX 158 c (by decide) (by decide) r1, hX 160 c (by decide) (by decide) r1, hX 161 c (by decide) (by decide) r1]
    exact a5 c c1 c2
theorem gn_tll_p {t : Int → Int} {n : Int} (hn : n ≤ 100) : ∀ (k : Nat) (p : Int), 0 ≤ p → p ≤ n → p ≤ (gn_tll t n k p).2 ∧ (gn_tll t n k p).2 ≤ n
  | 0, p, h0, hp => by
    unfold gn_tll
    split <;> exact ⟨Int.le_refl _, hp⟩
  | k + 1, p, h0, hp => by
    unfold gn_tll
    by_cases c : p = n
    · rw [if_pos c]; exact ⟨Int.le_refl _, hp⟩
    · rw [if_neg c]
      by_cases c2 : gn_ch t n p = 59
      · rw [if_neg (fun z => z c2)]
        have hb := gn_cl_b (t := t) hn (show 0 ≤ p + 1 by omega) (show p + 1 ≤ n by omega)
        rcases hcl : gn_cl t n (p + 1) with ⟨_ | x, q1⟩
        · rw [hcl] at hb
          have b1 : p + 1 ≤ q1 := hb.1
          have b2 : q1 ≤ n := hb.2.1
          simp only
          omega
        · rw [hcl] at hb
          have b1 : p + 1 ≤ q1 := hb.1
          have b2 : q1 ≤ n := hb.2.1
          have i := gn_tll_p (t := t) hn k q1 (by omega) b2
          simp only
          rcases hy : gn_tll t n k q1 with ⟨_ | l1, q2⟩ <;> rw [hy] at i <;> simp only at i ⊢ <;> omega
      · rw [if_pos c2]; exact ⟨Int.le_refl _, hp⟩
theorem gn_tx_p {t : Int → Int} {n : Int} (hn : 0 ≤ n ∧ n ≤ 100) : 0 ≤ (gn_tx t n).2 ∧ (gn_tx t n).2 ≤ n := by
  have hb := gn_cl_b (t := t) hn.2 (Int.le_refl 0) hn.1
  unfold gn_tx
  rcases hcl : gn_cl t n 0 with ⟨_ | x, q1⟩
  · rw [hcl] at hb
    exact ⟨hb.1, hb.2.1⟩
  · rw [hcl] at hb
    have b1 : 0 ≤ q1 := hb.1
    have b2 : q1 ≤ n := hb.2.1
    have i := gn_tll_p (t := t) hn.2 9 q1 b1 b2
    simp only
    rcases hy : gn_tll t n 9 q1 with ⟨_ | l1, q2⟩ <;> rw [hy] at i <;> simp only at i ⊢ <;> omega
