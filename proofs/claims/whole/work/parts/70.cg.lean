/-! WHAT HOLDS BETWEEN CALLS, PART BY PART: what it looks at -/
theorem gn_TI.cg {M M1 : gm_M} {t : Int} (ht : t = 2 ∨ t = 26) (hF : ∀ (f : Nat) (o : Int), (t ≤ o ∧ o ≤ t + 23 ∨ o = 1 ∧ f = 810) → gm_gF M1 f o = gm_gF M f o) (hA : ∀ a i : Int, (t + 1 ≤ a ∧ a ≤ t + 23) → gm_gA M1 a i = gm_gA M a i) (h : gn_TI M t) : gn_TI M1 t := by
  have hF0 : ∀ (f : Nat), gm_gF M1 f t = gm_gF M f t := fun f => hF f _ (by omega)
  have h81 : gm_gF M1 810 1 = gm_gF M 810 1 := hF 810 1 (by omega)
  obtain ⟨a1, a2, a3, a4, a5, a6, a7, a8⟩ := h
  unfold gn_TI
  simp only [hF0, h81]
  refine ⟨a1, a2, a3, fun k k1 k2 => ?_, a5, a6, fun k k1 k2 => ?_, fun k k1 k2 => ?_⟩
  · have g : ∀ (f : Nat), gm_gF M1 f (t + 6 + 3 * k) = gm_gF M f (t + 6 + 3 * k) := fun f => hF f _ (by omega)
    have g1 : ∀ (f : Nat), gm_gF M1 f (t + 6 + 3 * k + 1) = gm_gF M f (t + 6 + 3 * k + 1) := fun f => hF f _ (by omega)
    have g2 : ∀ i, gm_gA M1 (t + 6 + 3 * k + 2) i = gm_gA M (t + 6 + 3 * k + 2) i := fun i => hA _ i (by omega)
    simp only [g, g1, g2]
    exact a4 k k1 k2
  · rw [hA (t + 2) k (by omega), hA (t + 3) k (by omega), hA (t + 4) k (by omega)]
    exact a7 k k1 k2
  · rw [hA (t + 5) k (by omega)]
    exact a8 k k1 k2
theorem gn_TR.cg {M M1 : gm_M} {t a s b : Int} {fh fd ft fs fb : Nat} (ht : t = 2 ∨ t = 26) (hm : 0 ≤ gm_gF M 701 t ∧ gm_gF M 701 t ≤ 6) (hF : ∀ (f : Nat) (o : Int), (t ≤ o ∧ o ≤ t + 23 ∨ o = 148 ∧ (f = fh ∨ f = fd ∨ f = ft ∨ f = fs ∨ f = fb)) → gm_gF M1 f o = gm_gF M f o) (hA : ∀ x i : Int, (t + 1 ≤ x ∧ x ≤ t + 23 ∨ a ≤ x ∧ x ≤ a + 6 ∨ s ≤ x ∧ x ≤ s + 2 ∨ x = b) → gm_gA M1 x i = gm_gA M x i) (h : gn_TR M t a s b fh fd ft fs fb) : gn_TR M1 t a s b fh fd ft fs fb := by
  have hF0 : ∀ (f : Nat), gm_gF M1 f t = gm_gF M f t := fun f => hF f _ (by omega)
  obtain ⟨a1, a2, a3, a4⟩ := h
  unfold gn_TR
  simp only [hF0]
  rw [hF fh 148 (by omega), hF fd 148 (by omega), hF ft 148 (by omega), hF fs 148 (by omega), hF fb 148 (by omega)]
  refine ⟨a1, fun k k1 k2 => ?_, fun k k1 k2 => ?_, fun k k1 k2 => ?_⟩
  · have g : ∀ (f : Nat), gm_gF M1 f (t + 6 + 3 * k) = gm_gF M f (t + 6 + 3 * k) := fun f => hF f _ (by omega)
    have g1 : ∀ (f : Nat), gm_gF M1 f (t + 6 + 3 * k + 1) = gm_gF M f (t + 6 + 3 * k + 1) := fun f => hF f _ (by omega)
    have g2 : ∀ i, gm_gA M1 (t + 6 + 3 * k + 2) i = gm_gA M (t + 6 + 3 * k + 2) i := fun i => hA _ i (by omega)
    have x0 : ∀ i, gm_gA M1 a i = gm_gA M a i := fun i => hA _ _ (by omega)
    have x1 : ∀ i, gm_gA M1 (a + 1) i = gm_gA M (a + 1) i := fun i => hA _ _ (by omega)
    have x2 : ∀ i, gm_gA M1 (a + 2) i = gm_gA M (a + 2) i := fun i => hA _ _ (by omega)
    have x3 : ∀ i, gm_gA M1 (a + 3) i = gm_gA M (a + 3) i := fun i => hA _ _ (by omega)
    have x4 : ∀ i, gm_gA M1 (a + 4) i = gm_gA M (a + 4) i := fun i => hA _ _ (by omega)
    have x5 : ∀ i, gm_gA M1 (a + 5) i = gm_gA M (a + 5) i := fun i => hA _ _ (by omega)
    have x6 : ∀ i, gm_gA M1 (a + 6) i = gm_gA M (a + 6) i := fun i => hA _ _ (by omega)
    simp only [g, g1, g2, x0, x1, x2, x3, x4, x5, x6]
    exact a2 k k1 k2
  · rw [hA (t + 2) k (by omega), hA (t + 3) k (by omega), hA (t + 4) k (by omega), hA s k (by omega), hA (s + 1) k (by omega), hA (s + 2) k (by omega)]
    exact a3 k k1 k2
  · rw [hA (t + 5) k (by omega), hA b k (by omega)]
    exact a4 k k1 k2
theorem gn_gok.cg {M M1 : gm_M} {g : Int} (h1 : 0 ≤ g) (h2 : g < 6) (hF : ∀ (f : Nat) (o : Int), (94 + 7 * g ≤ o ∧ o ≤ 94 + 7 * g + 6) → gm_gF M1 f o = gm_gF M f o) (hA : ∀ a i : Int, (94 + 7 * g ≤ a ∧ a ≤ 94 + 7 * g + 6) → gm_gA M1 a i = gm_gA M a i) (hX : ∀ a i : Int, 157 ≤ a → a ≤ 162 → gm_gA M1 a i = gm_gA M a i) (h : gn_gok M g) : gn_gok M1 g := by
  have x : ∀ a, 157 ≤ a → a ≤ 162 → gm_gA M1 a = gm_gA M a := fun a a1 a2 => by funext i; exact hX a i a1 a2
  have gF : ∀ (f : Nat) (y : Int), 0 ≤ y → y ≤ 6 → gm_gF M1 f (94 + 7 * g + y) = gm_gF M f (94 + 7 * g + y) := fun f y y1 y2 => hF f _ (by omega)
  have gA : ∀ (y : Int), 0 ≤ y → y ≤ 6 → gm_gA M1 (94 + 7 * g + y) = gm_gA M (94 + 7 * g + y) := fun y y1 y2 => by funext i; exact hA _ i (by omega)
  have gF0 : ∀ (f : Nat), gm_gF M1 f (94 + 7 * g) = gm_gF M f (94 + 7 * g) := fun f => hF f _ (by omega)
  have hcw : ∀ y, 0 ≤ y → y ≤ 4 → gm_cwf M (94 + 7 * g + y) → gm_cwf M1 (94 + 7 * g + y) := fun y y1 y2 hc => by
    unfold gm_cwf at *
    rw [gF 2 y y1 (by omega), gF 3 y y1 (by omega)]
    rw [show 94 + 7 * g + y + 1 = 94 + 7 * g + (y + 1) by omega, show 94 + 7 * g + y + 2 = 94 + 7 * g + (y + 2) by omega] at *
    rw [gA (y + 1) (by omega) (by omega), gA (y + 2) (by omega) (by omega)]
    exact hc
  have htf : ∀ y, 0 ≤ y → y ≤ 4 → gm_tf M1 (94 + 7 * g + y) = gm_tf M (94 + 7 * g + y) := fun y y1 y2 => by
    funext num kind v moon warm held
    unfold gm_tf
    rw [gF 2 y y1 (by omega), gF 3 y y1 (by omega)]
    rw [show 94 + 7 * g + y + 1 = 94 + 7 * g + (y + 1) by omega, show 94 + 7 * g + y + 2 = 94 + 7 * g + (y + 2) by omega]
    rw [gA (y + 1) (by omega) (by omega), gA (y + 2) (by omega) (by omega)]
  have hld : ∀ c F, gn_hld M1 c F = gn_hld M c F := fun c F => by
    unfold gn_hld
    rw [x 162 (by decide) (by decide), x 161 (by decide) (by decide), x 160 (by decide) (by decide)]
  have hsm : ∀ w F n c s b, gn_smw M1 w F n c s b = gn_smw M w F n c s b := fun w F n => by
    induction n with
    | zero => intro c s b; rfl
    | succ n ih =>
      intro c s b
      simp only [gn_smw, hld, ih, x 158 (by decide) (by decide), x 159 (by decide) (by decide)]
  have hl : ∀ w n c z, gn_lst M1 w n c z = gn_lst M w n c z := fun w n => by
    induction n with
    | zero => intro c z; rfl
    | succ n ih =>
      intro c z
      simp only [gn_lst, ih, x 158 (by decide) (by decide), x 159 (by decide) (by decide)]
  obtain ⟨a1, a2, a3, a4, a5⟩ := h
  unfold gn_gok gn_gbd
  rw [x 157 (by decide) (by decide)]
  refine ⟨a1, ⟨hcw 1 (by decide) (by decide) a2.1, hcw 4 (by decide) (by decide) a2.2.1, ?_⟩, ?_, ?_, ?_⟩
  · rw [gF0 102, gF0 103]; exact a2.2.2
  · unfold gn_cok
    rw [x 158 (by decide) (by decide), x 159 (by decide) (by decide), x 160 (by decide) (by decide), x 161 (by decide) (by decide), x 162 (by decide) (by decide)]
    exact a3
  · unfold gn_gsm
    rw [htf 1 (by decide) (by decide), htf 4 (by decide) (by decide), gF0 102, gF0 103]
    simp only [gn_ms, hsm, hl]
    exact a4
  · rw [x 158 (by decide) (by decide), x 160 (by decide) (by decide), x 161 (by decide) (by decide)]
    exact a5
/-- no part but these is touched -/
def gn_U (f : Nat) (o : Int) : Nat → Prop
  | 0 => 2 ≤ o ∧ o ≤ 25 ∨ o = 148 ∧ (f = 900 ∨ f = 901 ∨ f = 910 ∨ f = 935 ∨ f = 939)
  | 1 => 83 ≤ o ∧ o ≤ 89 ∨ 94 ≤ o ∧ o ≤ 135 ∨ o = 1 ∧ f = 810 ∨ o = 148 ∧ f = 909
  | 2 => o = 81 ∧ f = 401 ∨ o = 148 ∧ f = 911
  | 3 => o = 91 ∧ f = 301 ∨ o = 148 ∧ f = 958
  | 4 => 136 ≤ o ∧ o ≤ 147
  | 5 => 26 ≤ o ∧ o ≤ 49 ∨ o = 1 ∧ f = 802 ∨ o = 148 ∧ 941 ≤ f ∧ f ≤ 946
  | _ => o = 148 ∧ 927 ≤ f ∧ f ≤ 930
def gn_V (a : Int) : Nat → Prop
  | 0 => 3 ≤ a ∧ a ≤ 25 ∨ 149 ≤ a ∧ a ≤ 155 ∨ 169 ≤ a ∧ a ≤ 172
  | 1 => 83 ≤ a ∧ a ≤ 89 ∨ 94 ≤ a ∧ a ≤ 135 ∨ 157 ≤ a ∧ a ≤ 162
  | 2 => a = 82 ∨ a = 156
  | 3 => a = 92 ∨ a = 184
  | 4 => 137 ≤ a ∧ a ≤ 147 ∨ 185 ≤ a ∧ a ≤ 187
  | 5 => 27 ≤ a ∧ a ≤ 49 ∨ 173 ≤ a ∧ a ≤ 183
  | _ => a = 164
/-- part p is as it was -/
def gn_W (p : Nat) (M M1 : gm_M) : Prop := (∀ f o, gn_U f o p → gm_gF M1 f o = gm_gF M f o) ∧ ∀ a i, gn_V a p → gm_gA M1 a i = gm_gA M a i
theorem gn_W0 {M M1 : gm_M} (hg : gm_gF M1 810 1 = gm_gF M 810 1) (w : gn_W 0 M M1) (h : gn_TI M 2 ∧ gn_TR M 2 149 169 172 900 901 910 935 939) : gn_TI M1 2 ∧ gn_TR M1 2 149 169 172 900 901 910 935 939 := by
  obtain ⟨hF, hA⟩ := w
  simp only [gn_U, gn_V] at hF hA
  refine ⟨h.1.cg (Or.inl rfl) (fun f o z => ?_) (fun a i z => hA a i (by omega)), h.2.cg (Or.inl rfl) h.1.1 (fun f o z => hF f o (by omega)) (fun a i z => hA a i (by omega))⟩
  by_cases y : o = 1 ∧ f = 810
  · rw [y.1, y.2, hg]
  · exact hF f o (by omega)
theorem gn_W1 {M M1 : gm_M} (w : gn_W 1 M M1) (h : gn_MG M) : gn_MG M1 := by
  obtain ⟨hF, hA⟩ := w
  simp only [gn_U, gn_V] at hF hA
  unfold gn_MG
  rw [hF 909 148 (by omega), hF 810 1 (by omega), hF 2 84 (by omega), hF 3 84 (by omega), hF 2 87 (by omega), hF 3 87 (by omega), hF 102 83 (by omega), hF 103 83 (by omega)]
  exact ⟨h.1, h.2.1, fun g g1 g2 => (h.2.2 g g1 g2).cg g1 (by have := h.1.2.2; omega) (fun f o z => hF f o (by have := h.1.2.2; omega)) (fun a i z => hA a i (by have := h.1.2.2; omega)) (fun a i z z2 => hA a i (by omega))⟩
theorem gn_W2 {M M1 : gm_M} (w : gn_W 2 M M1) (h : gn_MT M) : gn_MT M1 := by
  obtain ⟨hF, hA⟩ := w
  simp only [gn_U, gn_V] at hF hA
  unfold gn_MT
  rw [hF 911 148 (by omega), hF 401 81 (by omega)]
  refine ⟨h.1, h.2.1, fun i i1 i2 => ?_⟩
  rw [hA 156 i (by decide), hA 82 i (by decide)]
  exact h.2.2 i i1 i2
theorem gn_W3 {M M1 : gm_M} (w : gn_W 3 M M1) (h : gn_MP M) : gn_MP M1 := by
  obtain ⟨hF, hA⟩ := w
  simp only [gn_U, gn_V] at hF hA
  unfold gn_MP
  rw [hF 958 148 (by omega), hF 301 91 (by omega)]
  refine ⟨h.1, h.2.1, fun i i1 i2 i3 => ?_⟩
  rw [hA 184 i (by decide), hA 92 i (by decide)]
  exact h.2.2 i i1 i2 i3
theorem gn_W4 {M M1 : gm_M} (w : gn_W 4 M M1) (h : gn_MQ M) : gn_MQ M1 := by
  obtain ⟨hF, hA⟩ := w
  simp only [gn_U, gn_V] at hF hA
  intro t t1 t2
  rw [hA 185 t (by decide), hA 186 t (by decide), hF 600 (136 + 2 * t) (by omega), hF 601 (136 + 2 * t) (by omega)]
  refine ⟨(h t t1 t2).1, (h t t1 t2).2.1, fun i i1 i2 => ?_⟩
  rw [hA 187 _ (by decide), hA (136 + 2 * t + 1) i (by omega)]
  exact (h t t1 t2).2.2 i i1 i2
theorem gn_W5 {M M1 : gm_M} (hg : gm_gF M1 810 1 = gm_gF M 810 1) (w : gn_W 5 M M1) (h : gn_MI M) : gn_MI M1 := by
  obtain ⟨hF, hA⟩ := w
  simp only [gn_U, gn_V] at hF hA
  unfold gn_MI
  rw [hF 941 148 (by decide), hF 802 1 (by decide)]
  refine ⟨h.1, ?_⟩
  rcases h.2 with h | ⟨h, i1, i2⟩
  · exact Or.inl h
  · refine Or.inr ⟨h, i1.cg (Or.inr rfl) (fun f o z => ?_) (fun a i z => hA a i (by omega)), i2.cg (Or.inr rfl) i1.1 (fun f o z => hF f o (by omega)) (fun a i z => hA a i (by omega))⟩
    by_cases y : o = 1 ∧ f = 810
    · rw [y.1, y.2, hg]
    · exact hF f o (by omega)
theorem gn_W6 {M M1 : gm_M} (w : gn_W 6 M M1) (h : gn_MZ M) : gn_MZ M1 := by
  obtain ⟨hF, hA⟩ := w
  simp only [gn_U, gn_V] at hF hA
  unfold gn_MZ
  rw [hF 927 148 (by decide), hF 928 148 (by decide), hF 929 148 (by decide), hF 930 148 (by decide)]
  refine ⟨h.1, h.2.1, h.2.2.1, h.2.2.2.1, fun i i1 i2 => ?_⟩
  rw [hA 164 i (by decide)]
  exact h.2.2.2.2 i i1 i2
