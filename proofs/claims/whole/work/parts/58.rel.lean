/-! BOTH HALVES: what holds between calls -/
/-- nothing but scratch has changed -/
def gn_Eq (M M1 : gm_M) : Prop := gm_Lay M1 ∧ (∀ (f : Nat) (o : Int), ¬ (50 ≤ o ∧ o ≤ 80) → ¬ (o = 148 ∧ f = 933) → gm_gF M1 f o = gm_gF M f o) ∧ ∀ a i : Int, ¬ (50 ≤ a ∧ a ≤ 80) → ¬ (165 ≤ a ∧ a ≤ 168) → gm_gA M1 a i = gm_gA M a i
theorem gn_Eq.rf {M : gm_M} (h : gm_Lay M) : gn_Eq M M := ⟨h, fun _ _ _ _ => rfl, fun _ _ _ _ => rfl⟩
theorem gn_Eq.tr {M M1 M2 : gm_M} (h : gn_Eq M M1) (h2 : gn_Eq M1 M2) : gn_Eq M M2 := ⟨h2.1, fun f o a b => (h2.2.1 f o a b).trans (h.2.1 f o a b), fun a i x y => (h2.2.2 a i x y).trans (h.2.2 a i x y)⟩
theorem gm_Ec.Eq {M M1 : gm_M} (h : gm_Ec M M1) : gn_Eq M M1 := ⟨h.1, fun f o a _ => h.2.1 f o a, fun a i x _ => h.2.2 a i x⟩
/-- a town that may be -/
def gn_TI (M : gm_M) (t : Int) : Prop := (0 ≤ gm_gF M 701 t ∧ gm_gF M 701 t ≤ 6) ∧ (0 ≤ gm_gF M 702 t ∧ gm_gF M 702 t ≤ 9999) ∧ (-1 ≤ gm_gF M 703 t ∧ gm_gF M 703 t < gm_gF M 810 1 ∨ gm_gF M 703 t = -1) ∧
  (∀ h, 0 ≤ h → h < gm_gF M 701 t → gm_gF M 200 (t + 6 + 3 * h) = h ∧ (0 ≤ gm_gF M 201 (t + 6 + 3 * h) ∧ gm_gF M 201 (t + 6 + 3 * h) ≤ 6) ∧ (0 ≤ gm_gF M 202 (t + 6 + 3 * h) ∧ gm_gF M 202 (t + 6 + 3 * h) ≤ 9) ∧ (0 ≤ gm_gF M 203 (t + 6 + 3 * h) ∧ gm_gF M 203 (t + 6 + 3 * h) ≤ 199) ∧ (0 ≤ gm_gF M 204 (t + 6 + 3 * h) ∧ gm_gF M 204 (t + 6 + 3 * h) ≤ 99) ∧
    (0 ≤ gm_gF M 500 (t + 6 + 3 * h + 1) ∧ gm_gF M 500 (t + 6 + 3 * h + 1) ≤ gm_gF M 501 (t + 6 + 3 * h + 1)) ∧ gm_gF M 501 (t + 6 + 3 * h + 1) = (if gm_gF M 201 (t + 6 + 3 * h) = 2 ∨ gm_gF M 201 (t + 6 + 3 * h) = 5 then gm_gF M 204 (t + 6 + 3 * h) + gm_gF M 202 (t + 6 + 3 * h) else gm_gF M 204 (t + 6 + 3 * h)) ∧
    (0 ≤ gm_gF M 502 (t + 6 + 3 * h + 1) ∧ gm_gF M 502 (t + 6 + 3 * h + 1) ≤ 9) ∧ ∀ i, 0 ≤ i → i < 4 → 0 ≤ gm_gA M (t + 6 + 3 * h + 2) i ∧ gm_gA M (t + 6 + 3 * h + 2) i ≤ 9) ∧
  (0 ≤ gm_gF M 707 t ∧ gm_gF M 707 t ≤ 8) ∧ (0 ≤ gm_gF M 709 t ∧ gm_gF M 709 t ≤ 12) ∧
  (∀ k, 0 ≤ k → k < gm_gF M 707 t → (0 ≤ gm_gA M (t + 2) k ∧ gm_gA M (t + 2) k < gm_gF M 701 t) ∧ (0 ≤ gm_gA M (t + 3) k ∧ gm_gA M (t + 3) k ≤ 30) ∧ 0 ≤ gm_gA M (t + 4) k ∧ gm_gA M (t + 4) k ≤ 199) ∧
  ∀ k, 0 ≤ k → k < gm_gF M 709 t → 0 ≤ gm_gA M (t + 5) k ∧ gm_gA M (t + 5) k < gm_gF M 701 t
/-- the model's rows, from a on, and fields hold what the town t holds -/
def gn_TR (M : gm_M) (t a s b : Int) (fh fd ft fs fb : Nat) : Prop := (gm_gF M fh 148 = gm_gF M 701 t ∧ gm_gF M fd 148 = gm_gF M 702 t ∧ gm_gF M ft 148 = gm_gF M 703 t ∧ gm_gF M fs 148 = gm_gF M 707 t ∧ gm_gF M fb 148 = gm_gF M 709 t) ∧
  (∀ h, 0 ≤ h → h < gm_gF M 701 t → gm_gA M a h = gm_gF M 201 (t + 6 + 3 * h) ∧ gm_gA M (a + 1) h = gm_gF M 202 (t + 6 + 3 * h) ∧ gm_gA M (a + 2) h = gm_gF M 203 (t + 6 + 3 * h) ∧ gm_gA M (a + 3) h = gm_gF M 500 (t + 6 + 3 * h + 1) ∧ gm_gA M (a + 4) h = gm_gF M 204 (t + 6 + 3 * h) ∧ gm_gA M (a + 5) h = gm_gF M 502 (t + 6 + 3 * h + 1) ∧ ∀ i, 0 ≤ i → i < 4 → gm_gA M (a + 6) (4 * h + i) = gm_gA M (t + 6 + 3 * h + 2) i) ∧
  (∀ k, 0 ≤ k → k < gm_gF M 707 t → gm_gA M s k = gm_gA M (t + 2) k ∧ gm_gA M (s + 1) k = gm_gA M (t + 3) k ∧ gm_gA M (s + 2) k = gm_gA M (t + 4) k) ∧
  ∀ k, 0 ≤ k → k < gm_gF M 709 t → gm_gA M b k = gm_gA M (t + 5) k
theorem gn_TI.eq {M M1 : gm_M} {t : Int} (ht : t = 2 ∨ t = 26) (e : gn_Eq M M1) (h : gn_TI M t) : gn_TI M1 t := by
  have hF : ∀ (f : Nat) (x : Int), 0 ≤ x → x ≤ 23 → gm_gF M1 f (t + x) = gm_gF M f (t + x) := fun f x x1 x2 => e.2.1 f _ (by omega) (by omega)
  have hF0 : ∀ (f : Nat), gm_gF M1 f t = gm_gF M f t := fun f => e.2.1 f _ (by omega) (by omega)
  have hA : ∀ (x i : Int), 0 ≤ x → x ≤ 23 → gm_gA M1 (t + x) i = gm_gA M (t + x) i := fun x i x1 x2 => e.2.2 _ i (by omega) (by omega)
  have h81 : gm_gF M1 810 1 = gm_gF M 810 1 := e.2.1 810 1 (by omega) (by omega)
  obtain ⟨a1, a2, a3, a4, a5, a6, a7, a8⟩ := h
  unfold gn_TI
  simp only [hF0, h81]
  refine ⟨a1, a2, a3, fun k k1 k2 => ?_, a5, a6, fun k k1 k2 => ?_, fun k k1 k2 => ?_⟩
  · obtain ⟨b1, b2, b3, b4, b5, b6, b7, b8, b9⟩ := a4 k k1 k2
    have g : ∀ (f : Nat), gm_gF M1 f (t + 6 + 3 * k) = gm_gF M f (t + 6 + 3 * k) := fun f => by have := hF f (6 + 3 * k) (by omega) (by omega); rwa [← Int.add_assoc] at this
    have g1 : ∀ (f : Nat), gm_gF M1 f (t + 6 + 3 * k + 1) = gm_gF M f (t + 6 + 3 * k + 1) := fun f => e.2.1 f _ (by omega) (by omega)
    have g2 : ∀ i, gm_gA M1 (t + 6 + 3 * k + 2) i = gm_gA M (t + 6 + 3 * k + 2) i := fun i => e.2.2 _ i (by omega) (by omega)
    simp only [g, g1, g2]
    exact ⟨b1, b2, b3, b4, b5, b6, b7, b8, b9⟩
  · rw [hA 2 k (by decide) (by decide), hA 3 k (by decide) (by decide), hA 4 k (by decide) (by decide)]
    exact a7 k k1 k2
  · rw [hA 5 k (by decide) (by decide)]
    exact a8 k k1 k2
theorem gn_TR.eq {M M1 : gm_M} {t a s b : Int} {fh fd ft fs fb : Nat} (ht : t = 2 ∨ t = 26) (ha : 168 < a ∨ a = 149) (hs : 168 < s) (hb : 168 < b) (hf : fh ≠ 933 ∧ fd ≠ 933 ∧ ft ≠ 933 ∧ fs ≠ 933 ∧ fb ≠ 933) (hm : 0 ≤ gm_gF M 701 t ∧ gm_gF M 701 t ≤ 6) (e : gn_Eq M M1) (h : gn_TR M t a s b fh fd ft fs fb) : gn_TR M1 t a s b fh fd ft fs fb := by
  have hF0 : ∀ (f : Nat), gm_gF M1 f t = gm_gF M f t := fun f => e.2.1 f _ (by omega) (by omega)
  have hA : ∀ (x i : Int), 0 ≤ x → x ≤ 23 → gm_gA M1 (t + x) i = gm_gA M (t + x) i := fun x i x1 x2 => e.2.2 _ i (by omega) (by omega)
  have h148 : ∀ (f : Nat), f ≠ 933 → gm_gF M1 f 148 = gm_gF M f 148 := fun f hf => e.2.1 f _ (by omega) (fun z => hf z.2)
  obtain ⟨a1, a2, a3, a4⟩ := h
  unfold gn_TR
  simp only [hF0]
  rw [h148 fh hf.1, h148 fd hf.2.1, h148 ft hf.2.2.1, h148 fs hf.2.2.2.1, h148 fb hf.2.2.2.2]
  refine ⟨a1, fun k k1 k2 => ?_, fun k k1 k2 => ?_, fun k k1 k2 => ?_⟩
  · have g : ∀ (f : Nat), gm_gF M1 f (t + 6 + 3 * k) = gm_gF M f (t + 6 + 3 * k) := fun f => e.2.1 f _ (by omega) (by omega)
    have g1 : ∀ (f : Nat), gm_gF M1 f (t + 6 + 3 * k + 1) = gm_gF M f (t + 6 + 3 * k + 1) := fun f => e.2.1 f _ (by omega) (by omega)
    have g2 : ∀ i, gm_gA M1 (t + 6 + 3 * k + 2) i = gm_gA M (t + 6 + 3 * k + 2) i := fun i => e.2.2 _ i (by omega) (by omega)
    have x0 : ∀ i, gm_gA M1 a i = gm_gA M a i := fun i => e.2.2 _ _ (by omega) (by omega)
    have x1 : ∀ i, gm_gA M1 (a + 1) i = gm_gA M (a + 1) i := fun i => e.2.2 _ _ (by omega) (by omega)
    have x2 : ∀ i, gm_gA M1 (a + 2) i = gm_gA M (a + 2) i := fun i => e.2.2 _ _ (by omega) (by omega)
    have x3 : ∀ i, gm_gA M1 (a + 3) i = gm_gA M (a + 3) i := fun i => e.2.2 _ _ (by omega) (by omega)
    have x4 : ∀ i, gm_gA M1 (a + 4) i = gm_gA M (a + 4) i := fun i => e.2.2 _ _ (by omega) (by omega)
    have x5 : ∀ i, gm_gA M1 (a + 5) i = gm_gA M (a + 5) i := fun i => e.2.2 _ _ (by omega) (by omega)
    have x6 : ∀ i, gm_gA M1 (a + 6) i = gm_gA M (a + 6) i := fun i => e.2.2 _ _ (by omega) (by omega)
    simp only [g, g1, g2, x0, x1, x2, x3, x4, x5, x6]
    exact a2 k k1 k2
  · have x0 : ∀ i, gm_gA M1 s i = gm_gA M s i := fun i => e.2.2 _ _ (by omega) (by omega)
    have x1 : ∀ i, gm_gA M1 (s + 1) i = gm_gA M (s + 1) i := fun i => e.2.2 _ _ (by omega) (by omega)
    have x2 : ∀ i, gm_gA M1 (s + 2) i = gm_gA M (s + 2) i := fun i => e.2.2 _ _ (by omega) (by omega)
    rw [hA 2 k (by decide) (by decide), hA 3 k (by decide) (by decide), hA 4 k (by decide) (by decide), x0, x1, x2]
    exact a3 k k1 k2
  · rw [hA 5 k (by decide) (by decide), e.2.2 b k (by omega) (by omega)]
    exact a4 k k1 k2
/-! the model's grounds, as numbers -/
/-- signs behind one another: what is on the pile then -/
def gn_rpn (S F : Int → Int) : Nat → Int → List Int → List Int
  | 0, _, st => st
  | n + 1, k, st =>
    if S k = -33 then gn_rpn S F n (k + 1) (match st with | x :: r => (if x = 0 then 1 else 0) :: r | [] => [])
    else if S k < 0 then gn_rpn S F n (k + 1) (match st with | y :: x :: r => (if S k = -38 then (if x = 0 then 0 else y) else if x = 0 then y else 1) :: r | r => r)
    else gn_rpn S F n (k + 1) (gm_cmp (S k / 100 % 10) (F (S k / 1000)) (S k % 100) :: st)
/-- signs that can be gone through, with so many on the pile -/
def gn_dok (S : Int → Int) : Nat → Int → Nat → Prop
  | 0, _, d => d = 1
  | n + 1, k, d => (S k = -33 ∧ 1 ≤ d ∧ gn_dok S n (k + 1) d) ∨ ((S k = -38 ∨ S k = -124) ∧ 2 ≤ d ∧ gn_dok S n (k + 1) (d - 1)) ∨ ((0 ≤ S k ∧ S k < 6000 ∧ S k / 100 % 10 ≤ 2) ∧ d < 100 ∧ gn_dok S n (k + 1) (d + 1))
/-- whether clause c holds -/
def gn_hld (M : gm_M) (c : Int) (F : Int → Int) : Int := (gn_rpn (gm_gA M 162) F (gm_gA M 161 c - gm_gA M 160 c).toNat (gm_gA M 160 c) []).headD 0
/-- clauses c .. of such a word: their numbers together, and whether there is one -/
def gn_smw (M : gm_M) (w : Int) (F : Int → Int) : Nat → Int → Int → Int → Int × Int
  | 0, _, s, b => (s, b)
  | n + 1, c, s, b => if gm_gA M 158 c = w then gn_smw M w F n (c + 1) (s + if gn_hld M c F = 0 then 0 else gm_gA M 159 c) 1 else gn_smw M w F n (c + 1) s b
def gn_ms (M : gm_M) (w b : Int) (n : Nat) (F : Int → Int) : Int := if (gn_smw M w F n b 0 0).2 = 0 then 10 else (gn_smw M w F n b 0 0).1
/-- the number of the last of such a word -/
def gn_lst (M : gm_M) (w : Int) : Nat → Int → Int → Int
  | 0, _, x => x
  | n + 1, c, x => gn_lst M w n (c + 1) (if gm_gA M 158 c = w then gm_gA M 159 c else x)
/-- clauses that can be gone through -/
def gn_cok (M : gm_M) (b : Int) (n : Nat) : Prop := ∀ c, b ≤ c → c < b + n → (0 ≤ gm_gA M 158 c ∧ gm_gA M 158 c ≤ 3) ∧ (0 ≤ gm_gA M 159 c ∧ gm_gA M 159 c ≤ 99) ∧ (gm_gA M 158 c ≤ 1 → 0 ≤ gm_gA M 160 c ∧ gm_gA M 160 c ≤ gm_gA M 161 c ∧ gm_gA M 161 c ≤ 600 ∧ gn_dok (gm_gA M 162) (gm_gA M 161 c - gm_gA M 160 c).toNat (gm_gA M 160 c) 0)
/-- a ground of the class and clauses of the model that tell the same -/
def gn_gsm (M : gm_M) (g b : Int) (n : Nat) : Prop :=
  (∀ num kind v moon warm held, (0 ≤ num ∧ num ≤ 5) → (0 ≤ kind ∧ kind ≤ 6) → (0 ≤ v ∧ v ≤ 9) → (0 ≤ moon ∧ moon < 28) → (0 ≤ warm ∧ warm ≤ 199) → (0 ≤ held ∧ held ≤ 5000) →
    gm_tf M (g + 1) num kind v moon warm held = gn_ms M 0 b n (gm_ff num kind v moon warm held) ∧ gm_tf M (g + 4) num kind v moon warm held = gn_ms M 1 b n (gm_ff num kind v moon warm held)) ∧
  gm_gF M 102 g = gn_lst M 2 n b 20 ∧ gm_gF M 103 g = gn_lst M 3 n b 80
/-- where its signs stand -/
def gn_gbd (M : gm_M) (g : Int) : Prop := ∀ c, 10 * g ≤ c → c < 10 * g + gm_gA M 157 g → gm_gA M 158 c ≤ 1 → 100 * g ≤ gm_gA M 160 c ∧ gm_gA M 161 c ≤ 100 * g + 100
/-- ground number g -/
def gn_gok (M : gm_M) (g : Int) : Prop := (1 ≤ gm_gA M 157 g ∧ gm_gA M 157 g ≤ 10) ∧ gm_gwf M (94 + 7 * g) ∧ gn_cok M (10 * g) (gm_gA M 157 g).toNat ∧ gn_gsm M (94 + 7 * g) (10 * g) (gm_gA M 157 g).toNat ∧ gn_gbd M g
def gn_MG (M : gm_M) : Prop := (gm_gF M 909 148 = gm_gF M 810 1 ∧ 0 ≤ gm_gF M 810 1 ∧ gm_gF M 810 1 ≤ 6) ∧ (gm_gF M 2 84 = 0 ∧ gm_gF M 3 84 = 0 ∧ gm_gF M 2 87 = 0 ∧ gm_gF M 3 87 = 0 ∧ gm_gF M 102 83 = 20 ∧ gm_gF M 103 83 = 80) ∧ ∀ g, 0 ≤ g → g < gm_gF M 810 1 → gn_gok M g
/-- the text -/
def gn_MT (M : gm_M) : Prop := gm_gF M 911 148 = gm_gF M 401 81 ∧ (0 ≤ gm_gF M 401 81 ∧ gm_gF M 401 81 ≤ 100) ∧ ∀ i, 0 ≤ i → i < gm_gF M 401 81 → gm_gA M 156 i = gm_gA M 82 i ∧ 0 ≤ gm_gA M 82 i ∧ gm_gA M 82 i ≤ 127
/-- the trace -/
def gn_MP (M : gm_M) : Prop := gm_gF M 958 148 = gm_gF M 301 91 ∧ (0 ≤ gm_gF M 301 91 ∧ gm_gF M 301 91 ≤ 100) ∧ ∀ i, 0 ≤ i → i < 20 → i < gm_gF M 301 91 → gm_gA M 184 i = gm_gA M 92 i
/-- the tapes -/
def gn_MQ (M : gm_M) : Prop := ∀ t, 0 ≤ t → t < 6 → (gm_gA M 185 t = gm_gF M 600 (136 + 2 * t) ∧ -1 ≤ gm_gF M 600 (136 + 2 * t) ∧ gm_gF M 600 (136 + 2 * t) ≤ 4) ∧ (gm_gA M 186 t = gm_gF M 601 (136 + 2 * t) ∧ 0 ≤ gm_gF M 601 (136 + 2 * t) ∧ gm_gF M 601 (136 + 2 * t) ≤ 60 ∧ (gm_gF M 600 (136 + 2 * t) = -1 → gm_gF M 601 (136 + 2 * t) = 0)) ∧ ∀ i, 0 ≤ i → i < 60 → gm_gA M 187 (60 * t + i) = gm_gA M (136 + 2 * t + 1) i
/-- the image -/
def gn_MI (M : gm_M) : Prop := gm_gF M 941 148 = gm_gF M 802 1 ∧ (gm_gF M 802 1 = 0 ∨ gm_gF M 802 1 = 1 ∧ gn_TI M 26 ∧ gn_TR M 26 173 180 183 943 944 942 945 946)
/-- what stands in the model while nothing is asked -/
def gn_MZ (M : gm_M) : Prop := gm_gF M 927 148 = -1 ∧ gm_gF M 928 148 = 0 ∧ gm_gF M 929 148 = -1 ∧ gm_gF M 930 148 = -1 ∧ ∀ i, 0 ≤ i → i < 14 → gm_gA M 164 i = ([115, 117, 110, 99, 111, 108, 100, 108, 111, 119, 104, 105, 103, 104] : List Int).getD i.toNat 0
def gn_Inv (M : gm_M) : Prop := gm_Lay M ∧ gn_TI M 2 ∧ gn_TR M 2 149 169 172 900 901 910 935 939 ∧ gn_MG M ∧ gn_MT M ∧ gn_MP M ∧ gn_MQ M ∧ gn_MI M ∧ gn_MZ M
theorem gn_gok.eq {M M1 : gm_M} {g : Int} (h1 : 0 ≤ g) (h2 : g < 6) (e : gn_Eq M M1) (h : gn_gok M g) : gn_gok M1 g := by
  have x : ∀ a, 157 ≤ a → a ≤ 164 → gm_gA M1 a = gm_gA M a := fun a a1 a2 => by funext i; exact e.2.2 a i (by omega) (by omega)
  have gF : ∀ (f : Nat) (y : Int), 0 ≤ y → y ≤ 6 → gm_gF M1 f (94 + 7 * g + y) = gm_gF M f (94 + 7 * g + y) := fun f y y1 y2 => e.2.1 f _ (by omega) (by omega)
  have gA : ∀ (y : Int), 0 ≤ y → y ≤ 6 → gm_gA M1 (94 + 7 * g + y) = gm_gA M (94 + 7 * g + y) := fun y y1 y2 => by funext i; exact e.2.2 _ i (by omega) (by omega)
  have gF0 : ∀ (f : Nat), gm_gF M1 f (94 + 7 * g) = gm_gF M f (94 + 7 * g) := fun f => e.2.1 f _ (by omega) (by omega)
  have hcw : ∀ y, 0 ≤ y → y ≤ 4 → gm_cwf M (94 + 7 * g + y) → gm_cwf M1 (94 + 7 * g + y) := fun y y1 y2 hc => by
    unfold gm_cwf at *
    rw [gF 2 y y1 (by omega), gF 3 y y1 (by omega)]
    rw [show 94 + 7 * g + y + 1 = 94 + 7 * g + (y + 1) by omega, show 94 + 7 * g + y + 2 = 94 + 7 * g + (y + 2) by omega] at *
    rw [gA (y + 1) (by omega) (by omega), gA (y + 2) (by omega) (by omega)]
    exact hc
  have htf : ∀ y, 0 ≤ y → y ≤ 4 → gm_tf M1 (94 + 7 * g + y) = gm_tf M (94 + 7 * g + y) := fun y y1 y2 => by
    funext num kind v moon warm held
    unfold gm_tf
    rw [gF 2 y y1 (by omega), gF 3 y y1 (by omega)]
    rw [show 94 + 7 * g + y + 1 = 94 + 7 * g + (y + 1) by omega, show 94 + 7 * g + y + 2 = 94 + 7 * g + (y + 2) by omega]
    rw [gA (y + 1) (by omega) (by omega), gA (y + 2) (by omega) (by omega)]
  have hld : ∀ c F, gn_hld M1 c F = gn_hld M c F := fun c F => by
    unfold gn_hld
    rw [x 162 (by decide) (by decide), x 161 (by decide) (by decide), x 160 (by decide) (by decide)]
  have hsm : ∀ w F n c s b, gn_smw M1 w F n c s b = gn_smw M w F n c s b := fun w F n => by
    induction n with
    | zero => intro c s b; rfl
    | succ n ih =>
      intro c s b
      simp only [gn_smw, hld, ih, x 158 (by decide) (by decide), x 159 (by decide) (by decide)]
  have hl : ∀ w n c z, gn_lst M1 w n c z = gn_lst M w n c z := fun w n => by
    induction n with
    | zero => intro c z; rfl
    | succ n ih =>
      intro c z
      simp only [gn_lst, ih, x 158 (by decide) (by decide), x 159 (by decide) (by decide)]
  obtain ⟨a1, a2, a3, a4, a5⟩ := h
  unfold gn_gok gn_gbd
  rw [x 157 (by decide) (by decide)]
  refine ⟨a1, ⟨hcw 1 (by decide) (by decide) a2.1, hcw 4 (by decide) (by decide) a2.2.1, ?_⟩, ?_, ?_, ?_⟩
  · rw [gF0 102, gF0 103]; exact a2.2.2
  · unfold gn_cok
    rw [x 158 (by decide) (by decide), x 159 (by decide) (by decide), x 160 (by decide) (by decide), x 161 (by decide) (by decide), x 162 (by decide) (by decide)]
    exact a3
  · unfold gn_gsm
    rw [htf 1 (by decide) (by decide), htf 4 (by decide) (by decide), gF0 102, gF0 103]
    simp only [gn_ms, hsm, hl]
    exact a4
  · rw [x 158 (by decide) (by decide), x 160 (by decide) (by decide), x 161 (by decide) (by decide)]
    exact a5
theorem gn_Inv.eq {M M1 : gm_M} (e : gn_Eq M M1) (h : gn_Inv M) : gn_Inv M1 := by
  obtain ⟨h0, h1, h2, h3, h4, h5, h6, h7, h8⟩ := h
  have F : ∀ (f : Nat) (o : Int), (o < 50 ∨ 80 < o) → (o ≠ 148 ∨ f ≠ 933) → gm_gF M1 f o = gm_gF M f o := fun f o h h' => e.2.1 f o (by omega) (by omega)
  have A : ∀ (a i : Int), (a < 50 ∨ 80 < a) → (a < 165 ∨ 168 < a) → gm_gA M1 a i = gm_gA M a i := fun a i h h' => e.2.2 a i (by omega) (by omega)
  refine ⟨e.1, h1.eq (Or.inl rfl) e, h2.eq (Or.inl rfl) (by decide) (by decide) (by decide) (by decide) h1.1 e, ?_, ?_, ?_, ?_, ?_, ?_⟩
  · unfold gn_MG
    rw [F 909 148 (by decide) (by decide), F 810 1 (by decide) (by decide), F 2 84 (by decide) (by decide), F 3 84 (by decide) (by decide), F 2 87 (by decide) (by decide), F 3 87 (by decide) (by decide), F 102 83 (by decide) (by decide), F 103 83 (by decide) (by decide)]
    exact ⟨h3.1, h3.2.1, fun g g1 g2 => (h3.2.2 g g1 g2).eq g1 (by have := h3.1.2.2; omega) e⟩
  · unfold gn_MT
    rw [F 911 148 (by decide) (by decide), F 401 81 (by decide) (by decide)]
    refine ⟨h4.1, h4.2.1, fun i i1 i2 => ?_⟩
    rw [A 156 i (by decide) (by decide), A 82 i (by decide) (by decide)]
    exact h4.2.2 i i1 i2
  · unfold gn_MP
    rw [F 958 148 (by decide) (by decide), F 301 91 (by decide) (by decide)]
    refine ⟨h5.1, h5.2.1, fun i i1 i2 i3 => ?_⟩
    rw [A 184 i (by decide) (by decide), A 92 i (by decide) (by decide)]
    exact h5.2.2 i i1 i2 i3
  · intro t t1 t2
    rw [A 185 t (by decide) (by decide), A 186 t (by decide) (by decide), F 600 (136 + 2 * t) (by omega) (by omega), F 601 (136 + 2 * t) (by omega) (by omega)]
    refine ⟨(h6 t t1 t2).1, (h6 t t1 t2).2.1, fun i i1 i2 => ?_⟩
    rw [A 187 _ (by decide) (by decide), A (136 + 2 * t + 1) i (by omega) (by omega)]
    exact (h6 t t1 t2).2.2 i i1 i2
  · unfold gn_MI
    rw [F 941 148 (by decide) (by decide), F 802 1 (by decide) (by decide)]
    refine ⟨h7.1, ?_⟩
    rcases h7.2 with h | ⟨h, i1, i2⟩
    · exact Or.inl h
    · exact Or.inr ⟨h, i1.eq (Or.inr rfl) e, i2.eq (Or.inr rfl) (by decide) (by decide) (by decide) (by decide) i1.1 e⟩
  · unfold gn_MZ
    rw [F 927 148 (by decide) (by decide), F 928 148 (by decide) (by decide), F 929 148 (by decide) (by decide), F 930 148 (by decide) (by decide)]
    refine ⟨h8.1, h8.2.1, h8.2.2.1, h8.2.2.2.1, fun i i1 i2 => ?_⟩
    rw [A 164 i (by decide) (by decide)]
    exact h8.2.2.2.2 i i1 i2
