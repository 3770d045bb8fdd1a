/-! GROUND: how a text is read, by numbers alone -/
/-- what was read of a clause: its steps from a place on, how many, its signs, its value -/
def gn_X : Type := (Int → List (Int × Int)) × Int × List Int × ((Int → Int) → Int)
def gn_Xc (e : gn_X) (b : Int) : List (Int × Int) := e.1 b
def gn_sz (e : gn_X) : Int := e.2.1
def gn_Xr (e : gn_X) : List Int := e.2.2.1
def gn_Xe (e : gn_X) (F : Int → Int) : Int := e.2.2.2 F
def gn_Xt (l s n : Int) : gn_X := (fun _ => [(3 * l + s, n)], 1, [1000 * l + 100 * s + n], fun F => gm_cmp s (F l) n)
def gn_Xn (e : gn_X) : gn_X := (fun b => gn_Xc e b ++ [(18, 0)], gn_sz e + 1, gn_Xr e ++ [-33], fun F => if gn_Xe e F = 0 then 1 else 0)
def gn_Xa (e f : gn_X) : gn_X := (fun b => gn_Xc e b ++ (20, b + gn_sz e + 1 + gn_sz f) :: gn_Xc f (b + gn_sz e + 1), gn_sz e + gn_sz f + 1, gn_Xr e ++ gn_Xr f ++ [-38], fun F => if gn_Xe e F = 0 then 0 else gn_Xe f F)
def gn_Xo (e f : gn_X) : gn_X := (fun b => gn_Xc e b ++ (19, b + gn_sz e + 1 + gn_sz f) :: gn_Xc f (b + gn_sz e + 1), gn_sz e + gn_sz f + 1, gn_Xr e ++ gn_Xr f ++ [-124], fun F => if gn_Xe e F = 0 then gn_Xe f F else 1)
/-- a list stands in a row from a place on -/
def gn_at (S : Int → Int) (k : Int) (L : List Int) : Prop := ∀ i : Nat, i < L.length → S (k + i) = L.getD i 0
theorem gn_at.app {S : Int → Int} {k : Int} {L L' : List Int} (h : gn_at S k (L ++ L')) : gn_at S k L ∧ gn_at S (k + L.length) L' := by
  refine ⟨fun i hi => ?_, fun i hi => ?_⟩
  · rw [h i (by rw [List.length_append]; omega)]
    simp [List.getD, List.getElem?_append_left hi]
  · have := h (L.length + i) (by rw [List.length_append]; omega)
    rw [show k + ((L.length + i : Nat) : Int) = k + L.length + i by omega] at this
    rw [this]
    simp [List.getD, List.getElem?_append_right]
theorem gn_at.cons {S : Int → Int} {k x : Int} {L : List Int} (h : gn_at S k (x :: L)) : S k = x ∧ gn_at S (k + 1) L := by
  refine ⟨?_, fun i hi => ?_⟩
  · have := h 0 (by simp)
    simpa using this
  · have := h (i + 1) (by simpa using hi)
    rw [show k + ((i + 1 : Nat) : Int) = k + 1 + i by omega] at this
    rw [this]
    simp
/-- steps that run as they should -/
def gn_okx (e : gn_X) : Prop := 1 ≤ gn_sz e ∧ (∀ b, ((gn_Xc e b).length : Int) = gn_sz e) ∧ ((gn_Xr e).length : Int) = gn_sz e ∧
  (∀ b x, 0 ≤ b → x ∈ gn_Xc e b → (0 ≤ x.1 ∧ x.1 ≤ 20) ∧ 0 ≤ x.2 ∧ (x.2 ≤ 99 ∨ x.2 ≤ b + gn_sz e)) ∧
  (∀ F, gn_Xe e F = 0 ∨ gn_Xe e F = 1) ∧
  (∀ (st nu F : Int → Int) (b size : Int) (k : Nat) (sum so : Int), gn_at st b ((gn_Xc e b).map Prod.fst) → gn_at nu b ((gn_Xc e b).map Prod.snd) → b + gn_sz e ≤ size → size ≤ b + k → ∃ k' : Nat, size ≤ b + gn_sz e + k' ∧ gm_run1 st nu F size k sum so b = gm_run1 st nu F size k' sum (gn_Xe e F) (b + gn_sz e)) ∧
  (∀ (S F : Int → Int) (k : Int) (m : Nat) (st : List Int), gn_at S k (gn_Xr e) → gn_rpn S F ((gn_sz e).toNat + m) k st = gn_rpn S F m (k + gn_sz e) (gn_Xe e F :: st)) ∧
  ∀ (S : Int → Int) (k : Int) (m d : Nat), gn_at S k (gn_Xr e) → (d : Int) + gn_sz e ≤ 100 → gn_dok S m (k + gn_sz e) (d + 1) → gn_dok S ((gn_sz e).toNat + m) k d
theorem gn_okx_t {l s n : Int} (hl : 0 ≤ l ∧ l ≤ 5) (hs : 0 ≤ s ∧ s ≤ 2) (hn : 0 ≤ n ∧ n ≤ 99) : gn_okx (gn_Xt l s n) := by
  refine ⟨Int.le_refl 1, fun b => rfl, rfl, fun b x hb hx => ?_, fun F => gm_cmp01 _ _ _, fun st nu F b size k sum so h1 h2 h3 h4 => ?_, fun S F k m st h => ?_, fun S k m d h hd hk => ?_⟩
  · obtain rfl : x = (3 * l + s, n) := by simpa [gn_Xc, gn_Xt] using hx
    simp only
    omega
  · have a1 : st b = 3 * l + s := (gn_at.cons h1).1
    have a2 : nu b = n := (gn_at.cons h2).1
    have h3' : b + 1 ≤ size := h3
    obtain ⟨k, rfl⟩ : ∃ g, k = g + 1 := ⟨k - 1, by omega⟩
    refine ⟨k, by show size ≤ b + 1 + k; omega, ?_⟩
    show _ = gm_run1 st nu F size k sum (gm_cmp s (F l) n) (b + 1)
    rw [gm_run1, if_neg (by omega), a1, if_pos (by omega), a2, show (3 * l + s) % 3 = s by omega, show (3 * l + s) / 3 = l by omega]
  · have a1 : S k = 1000 * l + 100 * s + n := (gn_at.cons h).1
    show gn_rpn S F (1 + m) k st = gn_rpn S F m (k + 1) (gm_cmp s (F l) n :: st)
    rw [Nat.add_comm 1 m]
    show (if S k = -33 then _ else if S k < 0 then _ else gn_rpn S F m (k + 1) (gm_cmp (S k / 100 % 10) (F (S k / 1000)) (S k % 100) :: st)) = _
    rw [if_neg (by omega), if_neg (by omega), a1, show (1000 * l + 100 * s + n) / 100 % 10 = s by omega, show (1000 * l + 100 * s + n) / 1000 = l by omega, show (1000 * l + 100 * s + n) % 100 = n by omega]
  · have a1 : S k = 1000 * l + 100 * s + n := (gn_at.cons h).1
    have hd' : (d : Int) + 1 ≤ 100 := hd
    show gn_dok S (1 + m) k d
    rw [Nat.add_comm 1 m, gn_dok]
    exact Or.inr (Or.inr ⟨⟨by omega, by omega, by omega⟩, by omega, hk⟩)
theorem gn_okx_n {e : gn_X} (h : gn_okx e) : gn_okx (gn_Xn e) := by
  obtain ⟨h1, h2, h3, h4, h5, h6, h7, h8⟩ := h
  refine ⟨by show 1 ≤ gn_sz e + 1; omega, fun b => ?_, ?_, fun b x hb hx => ?_, fun F => ?_, fun st nu F b size k sum so a1 a2 a3 a4 => ?_, fun S F k m st a => ?_, fun S k m d a hd hk => ?_⟩
  · show (((gn_Xc e b ++ [((18 : Int), (0 : Int))]).length : Nat) : Int) = gn_sz e + 1
    have := h2 b
    rw [List.length_append]
    simp only [List.length_cons, List.length_nil]
    omega
  · show (((gn_Xr e ++ [-33]).length : Nat) : Int) = gn_sz e + 1
    rw [List.length_append]
    simp only [List.length_cons, List.length_nil]
    omega
  · have hx' : x ∈ gn_Xc e b ++ [((18 : Int), (0 : Int))] := hx
    show _ ∧ _ ∧ (_ ∨ x.2 ≤ b + (gn_sz e + 1))
    rcases List.mem_append.mp hx' with z | z
    · have := h4 b x hb z
      omega
    · obtain rfl : x = (18, 0) := by simpa using z
      simp only
      omega
  · show (if gn_Xe e F = 0 then (1 : Int) else 0) = 0 ∨ (if gn_Xe e F = 0 then (1 : Int) else 0) = 1
    split <;> simp
  · have b1 : gn_at st b ((gn_Xc e b ++ [((18 : Int), (0 : Int))]).map Prod.fst) := a1
    have b2 : gn_at nu b ((gn_Xc e b ++ [((18 : Int), (0 : Int))]).map Prod.snd) := a2
    have b3 : b + (gn_sz e + 1) ≤ size := a3
    rw [List.map_append] at b1 b2
    obtain ⟨k', hk', ek⟩ := h6 st nu F b size k sum so b1.app.1 b2.app.1 (by omega) a4
    have c1 := b1.app.2
    rw [List.length_map, h2] at c1
    have c2 : st (b + gn_sz e) = 18 := c1.cons.1
    obtain ⟨k', rfl⟩ : ∃ g, k' = g + 1 := ⟨k' - 1, by omega⟩
    refine ⟨k', by show size ≤ b + (gn_sz e + 1) + k'; omega, ?_⟩
    rw [ek, gm_run1, if_neg (by omega), c2, if_neg (by decide), if_pos rfl]
    show _ = gm_run1 st nu F size k' sum (if gn_Xe e F = 0 then 1 else 0) (b + (gn_sz e + 1))
    rw [Int.add_assoc]
  · have b1 : gn_at S k (gn_Xr e ++ [-33]) := a
    have c1 := b1.app.2
    rw [h3] at c1
    have c2 : S (k + gn_sz e) = -33 := c1.cons.1
    have e7 := h7 S F k (m + 1) st b1.app.1
    show gn_rpn S F ((gn_sz e + 1).toNat + m) k st = gn_rpn S F m (k + (gn_sz e + 1)) ((if gn_Xe e F = 0 then 1 else 0) :: st)
    rw [show (gn_sz e + 1).toNat + m = (gn_sz e).toNat + (m + 1) by omega, e7, gn_rpn, if_pos c2, Int.add_assoc]
  · have b1 : gn_at S k (gn_Xr e ++ [-33]) := a
    have c1 := b1.app.2
    rw [h3] at c1
    have c2 : S (k + gn_sz e) = -33 := c1.cons.1
    have hd' : (d : Int) + (gn_sz e + 1) ≤ 100 := hd
    have hk' : gn_dok S m (k + (gn_sz e + 1)) (d + 1) := hk
    rw [← Int.add_assoc] at hk'
    show gn_dok S ((gn_sz e + 1).toNat + m) k d
    rw [show (gn_sz e + 1).toNat + m = (gn_sz e).toNat + (m + 1) by omega]
    refine h8 S k (m + 1) d b1.app.1 (by omega) ?_
    rw [gn_dok]
    exact Or.inl ⟨c2, by omega, hk'⟩
theorem gn_okx_a {e f : gn_X} (h : gn_okx e) (g : gn_okx f) : gn_okx (gn_Xa e f) := by
  obtain ⟨h1, h2, h3, h4, h5, h6, h7, h8⟩ := h
  obtain ⟨g1, g2, g3, g4, g5, g6, g7, g8⟩ := g
  refine ⟨by show 1 ≤ gn_sz e + gn_sz f + 1; omega, fun b => ?_, ?_, fun b x hb hx => ?_, fun F => ?_, fun st nu F b size k sum so a1 a2 a3 a4 => ?_, fun S F k m st a => ?_, fun S k m d a hd hk => ?_⟩
  · show (((gn_Xc e b ++ ((20 : Int), b + gn_sz e + 1 + gn_sz f) :: gn_Xc f (b + gn_sz e + 1)).length : Nat) : Int) = gn_sz e + gn_sz f + 1
    have := h2 b
    have := g2 (b + gn_sz e + 1)
    rw [List.length_append, List.length_cons]
    omega
  · show (((gn_Xr e ++ gn_Xr f ++ [-38]).length : Nat) : Int) = gn_sz e + gn_sz f + 1
    rw [List.length_append, List.length_append]
    simp only [List.length_cons, List.length_nil]
    omega
  · have hx' : x ∈ gn_Xc e b ++ ((20 : Int), b + gn_sz e + 1 + gn_sz f) :: gn_Xc f (b + gn_sz e + 1) := hx
    show _ ∧ _ ∧ (_ ∨ x.2 ≤ b + (gn_sz e + gn_sz f + 1))
    rcases List.mem_append.mp hx' with z | z
    · have := h4 b x hb z
      omega
    · rcases List.mem_cons.mp z with rfl | z
      · simp only
        omega
      · have := g4 (b + gn_sz e + 1) x (by omega) z
        omega
  · show (if gn_Xe e F = 0 then 0 else gn_Xe f F) = 0 ∨ (if gn_Xe e F = 0 then 0 else gn_Xe f F) = 1
    have := g5 F
    split <;> omega
  · have b1 : gn_at st b ((gn_Xc e b ++ ((20 : Int), b + gn_sz e + 1 + gn_sz f) :: gn_Xc f (b + gn_sz e + 1)).map Prod.fst) := a1
    have b2 : gn_at nu b ((gn_Xc e b ++ ((20 : Int), b + gn_sz e + 1 + gn_sz f) :: gn_Xc f (b + gn_sz e + 1)).map Prod.snd) := a2
    have b3 : b + (gn_sz e + gn_sz f + 1) ≤ size := a3
    rw [List.map_append, List.map_cons] at b1 b2
    obtain ⟨k', hk', ek⟩ := h6 st nu F b size k sum so b1.app.1 b2.app.1 (by omega) a4
    have c1 := b1.app.2
    have c2 := b2.app.2
    rw [List.length_map, h2] at c1 c2
    have d1 : st (b + gn_sz e) = 20 := c1.cons.1
    have d2 : nu (b + gn_sz e) = b + gn_sz e + 1 + gn_sz f := c2.cons.1
    obtain ⟨k', rfl⟩ : ∃ g, k' = g + 1 := ⟨k' - 1, by omega⟩
    have hv := h5 F
    by_cases y : gn_Xe e F = 0
    · refine ⟨k', by show size ≤ b + (gn_sz e + gn_sz f + 1) + k'; omega, ?_⟩
      rw [ek, gm_run1, if_neg (by omega), d1, if_neg (by decide), if_neg (by decide), if_neg (by decide), if_pos (by rw [y]; rfl), d2]
      show gm_run1 st nu F size k' sum (gn_Xe e F) _ = gm_run1 st nu F size k' sum (if gn_Xe e F = 0 then 0 else gn_Xe f F) (b + (gn_sz e + gn_sz f + 1))
      rw [if_pos y, y, show b + gn_sz e + 1 + gn_sz f = b + (gn_sz e + gn_sz f + 1) by omega]
    · obtain ⟨k2, hk2, ek2⟩ := g6 st nu F (b + gn_sz e + 1) size k' sum (gn_Xe e F) c1.cons.2 c2.cons.2 (by omega) (by omega)
      refine ⟨k2, by show size ≤ b + (gn_sz e + gn_sz f + 1) + k2; omega, ?_⟩
      rw [ek, gm_run1, if_neg (by omega), d1, if_neg (by decide), if_neg (by decide), if_neg (by decide), if_neg (by rw [if_neg (by decide)]; omega), ek2]
      show gm_run1 st nu F size k2 sum (gn_Xe f F) _ = gm_run1 st nu F size k2 sum (if gn_Xe e F = 0 then 0 else gn_Xe f F) (b + (gn_sz e + gn_sz f + 1))
      rw [if_neg y, show b + gn_sz e + 1 + gn_sz f = b + (gn_sz e + gn_sz f + 1) by omega]
  · have b1 : gn_at S k (gn_Xr e ++ gn_Xr f ++ [-38]) := a
    have c0 := b1.app.1.app.1
    have c1 := b1.app.1.app.2
    have c2 := b1.app.2
    rw [h3] at c1
    rw [List.length_append] at c2
    have c3 : S (k + gn_sz e + gn_sz f) = -38 := by
      have := c2.cons.1
      rw [show k + ((((gn_Xr e).length + (gn_Xr f).length : Nat)) : Int) = k + gn_sz e + gn_sz f by omega] at this
      exact this
    have e7 := h7 S F k ((gn_sz f).toNat + (m + 1)) st c0
    have e8 := g7 S F (k + gn_sz e) (m + 1) (gn_Xe e F :: st) c1
    show gn_rpn S F ((gn_sz e + gn_sz f + 1).toNat + m) k st = gn_rpn S F m (k + (gn_sz e + gn_sz f + 1)) ((if gn_Xe e F = 0 then 0 else gn_Xe f F) :: st)
    rw [show (gn_sz e + gn_sz f + 1).toNat + m = (gn_sz e).toNat + ((gn_sz f).toNat + (m + 1)) by omega, e7, e8, gn_rpn, if_neg (by omega), if_pos (by omega), show k + gn_sz e + gn_sz f + 1 = k + (gn_sz e + gn_sz f + 1) by omega]
    show gn_rpn S F m _ ((if S (k + gn_sz e + gn_sz f) = -38 then (if gn_Xe e F = 0 then 0 else gn_Xe f F) else if gn_Xe e F = 0 then gn_Xe f F else 1) :: st) = _
    rw [if_pos c3]
  · have b1 : gn_at S k (gn_Xr e ++ gn_Xr f ++ [-38]) := a
    have c0 := b1.app.1.app.1
    have c1 := b1.app.1.app.2
    have c2 := b1.app.2
    rw [h3] at c1
    rw [List.length_append] at c2
    have c3 : S (k + gn_sz e + gn_sz f) = -38 := by
      have := c2.cons.1
      rw [show k + ((((gn_Xr e).length + (gn_Xr f).length : Nat)) : Int) = k + gn_sz e + gn_sz f by omega] at this
      exact this
    have hd' : (d : Int) + (gn_sz e + gn_sz f + 1) ≤ 100 := hd
    have hk' : gn_dok S m (k + (gn_sz e + gn_sz f + 1)) (d + 1) := hk
    show gn_dok S ((gn_sz e + gn_sz f + 1).toNat + m) k d
    rw [show (gn_sz e + gn_sz f + 1).toNat + m = (gn_sz e).toNat + ((gn_sz f).toNat + (m + 1)) by omega]
    refine h8 S k _ d c0 (by omega) (g8 S _ _ (d + 1) c1 (by omega) ?_)
    rw [gn_dok]
    refine Or.inr (Or.inl ⟨by omega, by omega, ?_⟩)
    rw [show k + gn_sz e + gn_sz f + 1 = k + (gn_sz e + gn_sz f + 1) by omega]
    exact hk'
theorem gn_okx_o {e f : gn_X} (h : gn_okx e) (g : gn_okx f) : gn_okx (gn_Xo e f) := by
  obtain ⟨h1, h2, h3, h4, h5, h6, h7, h8⟩ := h
  obtain ⟨g1, g2, g3, g4, g5, g6, g7, g8⟩ := g
  refine ⟨by show 1 ≤ gn_sz e + gn_sz f + 1; omega, fun b => ?_, ?_, fun b x hb hx => ?_, fun F => ?_, fun st nu F b size k sum so a1 a2 a3 a4 => ?_, fun S F k m st a => ?_, fun S k m d a hd hk => ?_⟩
  · show (((gn_Xc e b ++ ((19 : Int), b + gn_sz e + 1 + gn_sz f) :: gn_Xc f (b + gn_sz e + 1)).length : Nat) : Int) = gn_sz e + gn_sz f + 1
    have := h2 b
    have := g2 (b + gn_sz e + 1)
    rw [List.length_append, List.length_cons]
    omega
  · show (((gn_Xr e ++ gn_Xr f ++ [-124]).length : Nat) : Int) = gn_sz e + gn_sz f + 1
    rw [List.length_append, List.length_append]
    simp only [List.length_cons, List.length_nil]
    omega
  · have hx' : x ∈ gn_Xc e b ++ ((19 : Int), b + gn_sz e + 1 + gn_sz f) :: gn_Xc f (b + gn_sz e + 1) := hx
    show _ ∧ _ ∧ (_ ∨ x.2 ≤ b + (gn_sz e + gn_sz f + 1))
    rcases List.mem_append.mp hx' with z | z
    · have := h4 b x hb z
      omega
    · rcases List.mem_cons.mp z with rfl | z
      · simp only
        omega
      · have := g4 (b + gn_sz e + 1) x (by omega) z
        omega
  · show (if gn_Xe e F = 0 then gn_Xe f F else 1) = 0 ∨ (if gn_Xe e F = 0 then gn_Xe f F else 1) = 1
    have := g5 F
    split <;> omega
  · have b1 : gn_at st b ((gn_Xc e b ++ ((19 : Int), b + gn_sz e + 1 + gn_sz f) :: gn_Xc f (b + gn_sz e + 1)).map Prod.fst) := a1
    have b2 : gn_at nu b ((gn_Xc e b ++ ((19 : Int), b + gn_sz e + 1 + gn_sz f) :: gn_Xc f (b + gn_sz e + 1)).map Prod.snd) := a2
    have b3 : b + (gn_sz e + gn_sz f + 1) ≤ size := a3
    rw [List.map_append, List.map_cons] at b1 b2
    obtain ⟨k', hk', ek⟩ := h6 st nu F b size k sum so b1.app.1 b2.app.1 (by omega) a4
    have c1 := b1.app.2
    have c2 := b2.app.2
    rw [List.length_map, h2] at c1 c2
    have d1 : st (b + gn_sz e) = 19 := c1.cons.1
    have d2 : nu (b + gn_sz e) = b + gn_sz e + 1 + gn_sz f := c2.cons.1
    obtain ⟨k', rfl⟩ : ∃ g, k' = g + 1 := ⟨k' - 1, by omega⟩
    have hv := h5 F
    by_cases y : gn_Xe e F = 0
    · obtain ⟨k2, hk2, ek2⟩ := g6 st nu F (b + gn_sz e + 1) size k' sum (gn_Xe e F) c1.cons.2 c2.cons.2 (by omega) (by omega)
      refine ⟨k2, by show size ≤ b + (gn_sz e + gn_sz f + 1) + k2; omega, ?_⟩
      rw [ek, gm_run1, if_neg (by omega), d1, if_neg (by decide), if_neg (by decide), if_neg (by decide), if_neg (by rw [if_pos rfl]; omega), ek2]
      show gm_run1 st nu F size k2 sum (gn_Xe f F) _ = gm_run1 st nu F size k2 sum (if gn_Xe e F = 0 then gn_Xe f F else 1) (b + (gn_sz e + gn_sz f + 1))
      rw [if_pos y, show b + gn_sz e + 1 + gn_sz f = b + (gn_sz e + gn_sz f + 1) by omega]
    · refine ⟨k', by show size ≤ b + (gn_sz e + gn_sz f + 1) + k'; omega, ?_⟩
      rw [ek, gm_run1, if_neg (by omega), d1, if_neg (by decide), if_neg (by decide), if_neg (by decide), if_pos (by rw [if_pos rfl]; omega), d2]
      show gm_run1 st nu F size k' sum (gn_Xe e F) _ = gm_run1 st nu F size k' sum (if gn_Xe e F = 0 then gn_Xe f F else 1) (b + (gn_sz e + gn_sz f + 1))
      rw [if_neg y, show gn_Xe e F = 1 by omega, show b + gn_sz e + 1 + gn_sz f = b + (gn_sz e + gn_sz f + 1) by omega]
  · have b1 : gn_at S k (gn_Xr e ++ gn_Xr f ++ [-124]) := a
    have c0 := b1.app.1.app.1
    have c1 := b1.app.1.app.2
    have c2 := b1.app.2
    rw [h3] at c1
    rw [List.length_append] at c2
    have c3 : S (k + gn_sz e + gn_sz f) = -124 := by
      have := c2.cons.1
      rw [show k + ((((gn_Xr e).length + (gn_Xr f).length : Nat)) : Int) = k + gn_sz e + gn_sz f by omega] at this
      exact this
    have e7 := h7 S F k ((gn_sz f).toNat + (m + 1)) st c0
    have e8 := g7 S F (k + gn_sz e) (m + 1) (gn_Xe e F :: st) c1
    show gn_rpn S F ((gn_sz e + gn_sz f + 1).toNat + m) k st = gn_rpn S F m (k + (gn_sz e + gn_sz f + 1)) ((if gn_Xe e F = 0 then gn_Xe f F else 1) :: st)
    rw [show (gn_sz e + gn_sz f + 1).toNat + m = (gn_sz e).toNat + ((gn_sz f).toNat + (m + 1)) by omega, e7, e8, gn_rpn, if_neg (by omega), if_pos (by omega), show k + gn_sz e + gn_sz f + 1 = k + (gn_sz e + gn_sz f + 1) by omega]
    show gn_rpn S F m _ ((if S (k + gn_sz e + gn_sz f) = -38 then (if gn_Xe e F = 0 then 0 else gn_Xe f F) else if gn_Xe e F = 0 then gn_Xe f F else 1) :: st) = _
    rw [if_neg (by omega)]
  · have b1 : gn_at S k (gn_Xr e ++ gn_Xr f ++ [-124]) := a
    have c0 := b1.app.1.app.1
    have c1 := b1.app.1.app.2
    have c2 := b1.app.2
    rw [h3] at c1
    rw [List.length_append] at c2
    have c3 : S (k + gn_sz e + gn_sz f) = -124 := by
      have := c2.cons.1
      rw [show k + ((((gn_Xr e).length + (gn_Xr f).length : Nat)) : Int) = k + gn_sz e + gn_sz f by omega] at this
      exact this
    have hd' : (d : Int) + (gn_sz e + gn_sz f + 1) ≤ 100 := hd
    have hk' : gn_dok S m (k + (gn_sz e + gn_sz f + 1)) (d + 1) := hk
    show gn_dok S ((gn_sz e + gn_sz f + 1).toNat + m) k d
    rw [show (gn_sz e + gn_sz f + 1).toNat + m = (gn_sz e).toNat + ((gn_sz f).toNat + (m + 1)) by omega]
    refine h8 S k _ d c0 (by omega) (g8 S _ _ (d + 1) c1 (by omega) ?_)
    rw [gn_dok]
    refine Or.inr (Or.inl ⟨by omega, by omega, ?_⟩)
    rw [show k + gn_sz e + gn_sz f + 1 = k + (gn_sz e + gn_sz f + 1) by omega]
    exact hk'
/-- what stands at a place -/
def gn_ch (t : Int → Int) (n p : Int) : Int := if p < n then t p else -1
/-- a number of one digit or two; below 0: none -/
def gn_nm (t : Int → Int) (n p : Int) : Int × Int := if 48 ≤ gn_ch t n p ∧ gn_ch t n p ≤ 57 then (if 48 ≤ gn_ch t n (p + 1) ∧ gn_ch t n (p + 1) ≤ 57 then (10 * (gn_ch t n p - 48) + gn_ch t n (p + 1) - 48, p + 2) else (gn_ch t n p - 48, p + 1)) else (-1, p)
def gn_le (c : Int) : Int := gm_ixo c 0 [104, 107, 118, 109, 101, 115]
/-- a test -/
def gn_ts (t : Int → Int) (n p : Int) : Option gn_X × Int := if gn_le (gn_ch t n p) < 0 then (none, p) else if ¬ (60 ≤ gn_ch t n (p + 1) ∧ gn_ch t n (p + 1) ≤ 62) then (none, p + 1) else if (gn_nm t n (p + 2)).1 < 0 then (none, p + 2) else (some (gn_Xt (gn_le (gn_ch t n p)) (gn_ch t n (p + 1) - 60) (gn_nm t n (p + 2)).1), (gn_nm t n (p + 2)).2)
/-- 0 a single one; 1 a chain of &, 2 its rest; 3 a chain of |, 4 its rest -/
def gn_ps (t : Int → Int) (n : Int) : Nat → Nat → Int → gn_X → Int → Option (Option gn_X × Int)
  | 0, _, _, _, _ => none
  | f + 1, 0, dep, acc, p => if gn_ch t n p = 33 ∨ gn_ch t n p = 40 then
      (if 4 ≤ dep then some (none, p) else if gn_ch t n p = 40 then
        (match gn_ps t n f 3 (dep + 1) acc (p + 1) with
        | some (some e, q) => if gn_ch t n q = 41 then some (some e, q + 1) else some (none, q)
        | r => r)
      else match gn_ps t n f 0 (dep + 1) acc (p + 1) with
        | some (some e, q) => some (some (gn_Xn e), q)
        | r => r)
    else some (gn_ts t n p)
  | f + 1, 1, dep, acc, p => match gn_ps t n f 0 dep acc p with
    | some (some e, q) => gn_ps t n f 2 dep e q
    | r => r
  | f + 1, 2, dep, acc, p => if gn_ch t n p = 38 then (match gn_ps t n f 0 dep acc (p + 1) with
    | some (some e, q) => gn_ps t n f 2 dep (gn_Xa acc e) q
    | r => r) else some (some acc, p)
  | f + 1, 3, dep, acc, p => match gn_ps t n f 1 dep acc p with
    | some (some e, q) => gn_ps t n f 4 dep e q
    | r => r
  | f + 1, _ + 4, dep, acc, p => if gn_ch t n p = 124 then (match gn_ps t n f 1 dep acc (p + 1) with
    | some (some e, q) => gn_ps t n f 4 dep (gn_Xo acc e) q
    | r => r) else some (some acc, p)
theorem gn_le_b (c : Int) : -1 ≤ gn_le c ∧ gn_le c ≤ 5 := by
  unfold gn_le
  simp only [gm_ixo]
  (repeat' split) <;> omega
theorem gn_nm_b {t : Int → Int} {n p : Int} (hp : p ≤ n) : (-1 ≤ (gn_nm t n p).1 ∧ (gn_nm t n p).1 ≤ 99) ∧ p ≤ (gn_nm t n p).2 ∧ (gn_nm t n p).2 ≤ n ∧ (0 ≤ (gn_nm t n p).1 → p + 1 ≤ (gn_nm t n p).2) ∧ ((gn_nm t n p).1 < 0 → (gn_nm t n p).2 = p) := by
  have h1 : 48 ≤ gn_ch t n p → p < n := fun h => by
    unfold gn_ch at h
    by_cases c : p < n
    · exact c
    · rw [if_neg c] at h; omega
  have h2 : 48 ≤ gn_ch t n (p + 1) → p + 1 < n := fun h => by
    unfold gn_ch at h
    by_cases c : p + 1 < n
    · exact c
    · rw [if_neg c] at h; omega
  unfold gn_nm
  split
  · split
    · simp only
      omega
    · simp only
      omega
  · exact ⟨⟨Int.le_refl (-1), (by decide : (-1 : Int) ≤ 99)⟩, Int.le_refl p, hp, fun h => absurd (show (0 : Int) ≤ -1 from h) (by decide), fun _ => rfl⟩
theorem gn_ch_lt {t : Int → Int} {n p : Int} (h : 0 ≤ gn_ch t n p) : p < n := by
  unfold gn_ch at h
  by_cases c : p < n
  · exact c
  · rw [if_neg c] at h; omega
theorem gn_le_0 {c : Int} (h : 0 ≤ gn_le c) : 0 ≤ c := by
  by_cases z : 0 ≤ c
  · exact z
  · unfold gn_le at h
    simp only [gm_ixo] at h
    rw [if_neg (by omega), if_neg (by omega), if_neg (by omega), if_neg (by omega), if_neg (by omega), if_neg (by omega)] at h
    omega
/-- places and sizes of what was read -/
theorem gn_ts_b {t : Int → Int} {n p : Int} (hp : p ≤ n) : p ≤ (gn_ts t n p).2 ∧ (gn_ts t n p).2 ≤ n ∧ ∀ e, (gn_ts t n p).1 = some e → gn_okx e ∧ gn_sz e + 2 ≤ (gn_ts t n p).2 - p := by
  have hl := gn_le_b (gn_ch t n p)
  unfold gn_ts
  by_cases c1 : gn_le (gn_ch t n p) < 0
  · rw [if_pos c1]
    exact ⟨Int.le_refl p, hp, fun e h => by simp at h⟩
  · rw [if_neg c1]
    have p1 := gn_ch_lt (gn_le_0 (show 0 ≤ gn_le (gn_ch t n p) by omega))
    by_cases c2 : 60 ≤ gn_ch t n (p + 1) ∧ gn_ch t n (p + 1) ≤ 62
    · rw [if_neg (fun z => z c2)]
      have p2 := gn_ch_lt (show 0 ≤ gn_ch t n (p + 1) by omega)
      obtain ⟨b1, b2, b3, b4, b5⟩ := gn_nm_b (t := t) (n := n) (p := p + 2) (by omega)
      by_cases c3 : (gn_nm t n (p + 2)).1 < 0
      · rw [if_pos c3]
        exact ⟨by simp only; omega, by simp only; omega, fun e h => by simp at h⟩
      · rw [if_neg c3]
        refine ⟨by simp only; omega, b3, fun e h => ?_⟩
        simp only [Option.some.injEq] at h
        subst h
        have hz : gn_sz (gn_Xt (gn_le (gn_ch t n p)) (gn_ch t n (p + 1) - 60) (gn_nm t n (p + 2)).1) = 1 := rfl
        exact ⟨gn_okx_t (by omega) (by omega) (by omega), by rw [hz]; simp only; omega⟩
    · rw [if_pos c2]
      exact ⟨by simp only; omega, by simp only; omega, fun e h => by simp at h⟩
def gn_km : Nat → Int
  | 0 => 1
  | 1 => 2
  | 2 => 1
  | 3 => 3
  | _ => 1
theorem gn_ps_b {t : Int → Int} {n : Int} : ∀ (f m : Nat) (dep : Int) (acc : gn_X) (p : Int) (r : Option gn_X) (q : Int), gn_ps t n f m dep acc p = some (r, q) → p ≤ n → p ≤ q ∧ q ≤ n ∧ ∀ e, r = some e → (m = 0 ∨ m = 1 ∨ m = 3 → gn_okx e ∧ gn_sz e + 2 ≤ q - p) ∧ (gn_okx acc → gn_okx e ∧ (m = 2 ∨ 4 ≤ m → gn_sz e ≤ gn_sz acc + (q - p))) := by
  intro f
  induction f with
  | zero => intro m dep acc p r q h; simp [gn_ps] at h
  | succ f ih =>
    intro m dep acc p r q h hp
    rcases m with _ | _ | _ | _ | m
    · unfold gn_ps at h
      by_cases c0 : gn_ch t n p = 33 ∨ gn_ch t n p = 40
      · rw [if_pos c0] at h
        have p1 := gn_ch_lt (t := t) (n := n) (p := p) (by omega)
        by_cases c1 : 4 ≤ dep
        · rw [if_pos c1] at h
          simp only [Option.some.injEq, Prod.mk.injEq] at h
          obtain ⟨rfl, rfl⟩ := h
          exact ⟨Int.le_refl _, hp, fun e h => by simp at h⟩
        · rw [if_neg c1] at h
          by_cases c2 : gn_ch t n p = 40
          · rw [if_pos c2] at h
            rcases hx : gn_ps t n f 3 (dep + 1) acc (p + 1) with _ | ⟨_ | e, q'⟩
            · rw [hx] at h; simp at h
            · rw [hx] at h
              simp only [Option.some.injEq, Prod.mk.injEq] at h
              obtain ⟨rfl, rfl⟩ := h
              have := ih _ _ _ _ _ _ hx (by omega)
              exact ⟨by omega, this.2.1, fun e h => by simp at h⟩
            · rw [hx] at h
              have := ih _ _ _ _ _ _ hx (by omega)
              obtain ⟨a1, a2, a3⟩ := this
              have a4 := (a3 e rfl).1 (by decide)
              by_cases c3 : gn_ch t n q' = 41
              · have q1 := gn_ch_lt (t := t) (n := n) (p := q') (by omega)
                simp only [if_pos c3, Option.some.injEq, Prod.mk.injEq] at h
                obtain ⟨rfl, rfl⟩ := h
                refine ⟨by omega, by omega, fun e' h => ?_⟩
                obtain rfl : e = e' := by simpa using h
                exact ⟨fun _ => ⟨a4.1, by omega⟩, fun _ => ⟨a4.1, fun z => by omega⟩⟩
              · simp only [if_neg c3, Option.some.injEq, Prod.mk.injEq] at h
                obtain ⟨rfl, rfl⟩ := h
                exact ⟨by omega, a2, fun e h => by simp at h⟩
          · rw [if_neg c2] at h
            rcases hx : gn_ps t n f 0 (dep + 1) acc (p + 1) with _ | ⟨_ | e, q'⟩
            · rw [hx] at h; simp at h
            · rw [hx] at h
              simp only [Option.some.injEq, Prod.mk.injEq] at h
              obtain ⟨rfl, rfl⟩ := h
              have := ih _ _ _ _ _ _ hx (by omega)
              exact ⟨by omega, this.2.1, fun e h => by simp at h⟩
            · rw [hx] at h
              have := ih _ _ _ _ _ _ hx (by omega)
              obtain ⟨a1, a2, a3⟩ := this
              have a4 := (a3 e rfl).1 (by decide)
              simp only [Option.some.injEq, Prod.mk.injEq] at h
              obtain ⟨rfl, rfl⟩ := h
              refine ⟨by omega, by omega, fun e' h => ?_⟩
              obtain rfl : gn_Xn e = e' := by simpa using h
              have hz : gn_sz (gn_Xn e) = gn_sz e + 1 := rfl
              exact ⟨fun _ => ⟨gn_okx_n a4.1, by omega⟩, fun _ => ⟨gn_okx_n a4.1, fun z => by omega⟩⟩
      · rw [if_neg c0] at h
        have hts := gn_ts_b (t := t) hp
        simp only [Option.some.injEq] at h
        rw [h] at hts
        exact ⟨hts.1, hts.2.1, fun e he => ⟨fun _ => hts.2.2 e he, fun _ => ⟨(hts.2.2 e he).1, fun z => by omega⟩⟩⟩
    · unfold gn_ps at h
      rcases hx : gn_ps t n f 0 dep acc p with _ | ⟨_ | e, q'⟩
      · rw [hx] at h; simp at h
      · rw [hx] at h
        simp only [Option.some.injEq, Prod.mk.injEq] at h
        obtain ⟨rfl, rfl⟩ := h
        have := ih _ _ _ _ _ _ hx hp
        exact ⟨this.1, this.2.1, fun e h => by simp at h⟩
      · rw [hx] at h
        obtain ⟨a1, a2, a3⟩ := ih _ _ _ _ _ _ hx hp
        obtain ⟨b1, b2, b3⟩ := ih _ _ _ _ _ _ h a2
        have a4 := (a3 e rfl).1 (by decide)
        refine ⟨by omega, b2, fun e' h => ?_⟩
        have b4 := (b3 e' h).2 a4.1
        have b5 := b4.2 (by decide)
        exact ⟨fun _ => ⟨b4.1, by omega⟩, fun _ => ⟨b4.1, fun z => by omega⟩⟩
    · unfold gn_ps at h
      by_cases c : gn_ch t n p = 38
      · rw [if_pos c] at h
        have p1 := gn_ch_lt (t := t) (n := n) (p := p) (by omega)
        rcases hx : gn_ps t n f 0 dep acc (p + 1) with _ | ⟨_ | e, q'⟩
        · rw [hx] at h; simp at h
        · rw [hx] at h
          simp only [Option.some.injEq, Prod.mk.injEq] at h
          obtain ⟨rfl, rfl⟩ := h
          have := ih _ _ _ _ _ _ hx (by omega)
          exact ⟨by omega, this.2.1, fun e h => by simp at h⟩
        · rw [hx] at h
          obtain ⟨a1, a2, a3⟩ := ih _ _ _ _ _ _ hx (by omega)
          obtain ⟨b1, b2, b3⟩ := ih _ _ _ _ _ _ h a2
          have a4 := (a3 e rfl).1 (by decide)
          refine ⟨by omega, b2, fun e' h => ⟨fun z => by omega, fun ha => ?_⟩⟩
          have b4 := (b3 e' h).2 (gn_okx_a ha a4.1)
          have b5 := b4.2 (by decide)
          have hz : gn_sz (gn_Xa acc e) = gn_sz acc + gn_sz e + 1 := rfl
          exact ⟨b4.1, fun _ => by omega⟩
      · rw [if_neg c] at h
        simp only [Option.some.injEq, Prod.mk.injEq] at h
        obtain ⟨rfl, rfl⟩ := h
        refine ⟨Int.le_refl _, hp, fun e' h => ?_⟩
        obtain rfl : acc = e' := by simpa using h
        exact ⟨fun z => by omega, fun ha => ⟨ha, fun _ => by omega⟩⟩
    · unfold gn_ps at h
      rcases hx : gn_ps t n f 1 dep acc p with _ | ⟨_ | e, q'⟩
      · rw [hx] at h; simp at h
      · rw [hx] at h
        simp only [Option.some.injEq, Prod.mk.injEq] at h
        obtain ⟨rfl, rfl⟩ := h
        have := ih _ _ _ _ _ _ hx hp
        exact ⟨this.1, this.2.1, fun e h => by simp at h⟩
      · rw [hx] at h
        obtain ⟨a1, a2, a3⟩ := ih _ _ _ _ _ _ hx hp
        obtain ⟨b1, b2, b3⟩ := ih _ _ _ _ _ _ h a2
        have a4 := (a3 e rfl).1 (by decide)
        refine ⟨by omega, b2, fun e' h => ?_⟩
        have b4 := (b3 e' h).2 a4.1
        have b5 := b4.2 (by decide)
        exact ⟨fun _ => ⟨b4.1, by omega⟩, fun _ => ⟨b4.1, fun z => by omega⟩⟩
    · unfold gn_ps at h
      by_cases c : gn_ch t n p = 124
      · rw [if_pos c] at h
        have p1 := gn_ch_lt (t := t) (n := n) (p := p) (by omega)
        rcases hx : gn_ps t n f 1 dep acc (p + 1) with _ | ⟨_ | e, q'⟩
        · rw [hx] at h; simp at h
        · rw [hx] at h
          simp only [Option.some.injEq, Prod.mk.injEq] at h
          obtain ⟨rfl, rfl⟩ := h
          have := ih _ _ _ _ _ _ hx (by omega)
          exact ⟨by omega, this.2.1, fun e h => by simp at h⟩
        · rw [hx] at h
          obtain ⟨a1, a2, a3⟩ := ih _ _ _ _ _ _ hx (by omega)
          obtain ⟨b1, b2, b3⟩ := ih _ _ _ _ _ _ h a2
          have a4 := (a3 e rfl).1 (by decide)
          refine ⟨by omega, b2, fun e' h => ⟨fun z => by omega, fun ha => ?_⟩⟩
          have b4 := (b3 e' h).2 (gn_okx_o ha a4.1)
          have b5 := b4.2 (by decide)
          have hz : gn_sz (gn_Xo acc e) = gn_sz acc + gn_sz e + 1 := rfl
          exact ⟨b4.1, fun _ => by omega⟩
      · rw [if_neg c] at h
        simp only [Option.some.injEq, Prod.mk.injEq] at h
        obtain ⟨rfl, rfl⟩ := h
        refine ⟨Int.le_refl _, hp, fun e' h => ?_⟩
        obtain rfl : acc = e' := by simpa using h
        exact ⟨fun z => by omega, fun ha => ⟨ha, fun _ => by omega⟩⟩
/-- so many turns are enough -/
theorem gn_ps_t {t : Int → Int} {n : Int} : ∀ (f m : Nat) (dep : Int) (acc : gn_X) (p : Int), p ≤ n → 4 * (n - p) + gn_km m ≤ f → ∃ x, gn_ps t n f m dep acc p = some x := by
  intro f
  induction f with
  | zero =>
    intro m dep acc p hp hf
    rcases m with _ | _ | _ | _ | m <;> simp only [gn_km] at hf <;> omega
  | succ f ih =>
    intro m dep acc p hp hf
    rcases m with _ | _ | _ | _ | m
    · simp only [gn_km] at hf
      unfold gn_ps
      by_cases c0 : gn_ch t n p = 33 ∨ gn_ch t n p = 40
      · rw [if_pos c0]
        have p1 := gn_ch_lt (t := t) (n := n) (p := p) (by omega)
        by_cases c1 : 4 ≤ dep
        · rw [if_pos c1]; exact ⟨_, rfl⟩
        · rw [if_neg c1]
          by_cases c2 : gn_ch t n p = 40
          · rw [if_pos c2]
            obtain ⟨x, hx⟩ := ih 3 (dep + 1) acc (p + 1) (by omega) (by simp only [gn_km]; omega)
            rw [hx]
            rcases x with ⟨_ | e, q⟩
            · exact ⟨_, rfl⟩
            · by_cases c3 : gn_ch t n q = 41
              · simp only [if_pos c3]; exact ⟨_, rfl⟩
              · simp only [if_neg c3]; exact ⟨_, rfl⟩
          · rw [if_neg c2]
            obtain ⟨x, hx⟩ := ih 0 (dep + 1) acc (p + 1) (by omega) (by simp only [gn_km]; omega)
            rw [hx]
            rcases x with ⟨_ | e, q⟩ <;> exact ⟨_, rfl⟩
      · rw [if_neg c0]; exact ⟨_, rfl⟩
    · simp only [gn_km] at hf
      unfold gn_ps
      obtain ⟨x, hx⟩ := ih 0 dep acc p hp (by simp only [gn_km]; omega)
      rw [hx]
      rcases x with ⟨_ | e, q⟩
      · exact ⟨_, rfl⟩
      · have := gn_ps_b _ _ _ _ _ _ _ hx hp
        exact ih 2 dep e q this.2.1 (by simp only [gn_km]; omega)
    · simp only [gn_km] at hf
      unfold gn_ps
      by_cases c : gn_ch t n p = 38
      · rw [if_pos c]
        have p1 := gn_ch_lt (t := t) (n := n) (p := p) (by omega)
        obtain ⟨x, hx⟩ := ih 0 dep acc (p + 1) (by omega) (by simp only [gn_km]; omega)
        rw [hx]
        rcases x with ⟨_ | e, q⟩
        · exact ⟨_, rfl⟩
        · have := gn_ps_b _ _ _ _ _ _ _ hx (by omega)
          exact ih 2 dep (gn_Xa acc e) q this.2.1 (by simp only [gn_km]; omega)
      · rw [if_neg c]; exact ⟨_, rfl⟩
    · simp only [gn_km] at hf
      unfold gn_ps
      obtain ⟨x, hx⟩ := ih 1 dep acc p hp (by simp only [gn_km]; omega)
      rw [hx]
      rcases x with ⟨_ | e, q⟩
      · exact ⟨_, rfl⟩
      · have := gn_ps_b _ _ _ _ _ _ _ hx hp
        exact ih 4 dep e q this.2.1 (by simp only [gn_km]; omega)
    · simp only [gn_km] at hf
      unfold gn_ps
      by_cases c : gn_ch t n p = 124
      · rw [if_pos c]
        have p1 := gn_ch_lt (t := t) (n := n) (p := p) (by omega)
        obtain ⟨x, hx⟩ := ih 1 dep acc (p + 1) (by omega) (by simp only [gn_km]; omega)
        rw [hx]
        rcases x with ⟨_ | e, q⟩
        · exact ⟨_, rfl⟩
        · have := gn_ps_b _ _ _ _ _ _ _ hx (by omega)
          exact ih 4 dep (gn_Xo acc e) q this.2.1 (by simp only [gn_km]; omega)
      · rw [if_neg c]; exact ⟨_, rfl⟩
