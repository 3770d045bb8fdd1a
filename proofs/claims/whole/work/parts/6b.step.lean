/-! STEPS: what is asked -/
theorem gn_pu.e {xs : Int → Int} {Ln : Int} {M M1 : gm_M} (hA : ∀ a i : Int, 1000 ≤ a → gm_gA M1 a i = gm_gA M a i) (hF : gm_gF M1 9999 0 = gm_gF M 9999 0) (h : gm_pu xs Ln M) : gm_pu xs Ln M1 := ⟨fun i => (hA 1000 i (by decide)).trans (h.1 i), fun i => (hA 1001 i (by decide)).trans (h.2.1 i), fun i => (hA 1002 i (by decide)).trans (h.2.2.1 i), hF.trans h.2.2.2⟩
theorem gn_Eq.pu {xs : Int → Int} {Ln : Int} {M M1 : gm_M} (e : gn_Eq M M1) (h : gm_pu xs Ln M) : gm_pu xs Ln M1 := gn_pu.e (fun a i z => e.2.2 a i (by omega) (by omega)) (e.2.1 9999 0 (by omega) (by omega)) h
def gn_Si (mc mm : Nat) (args : List gm_V) : Prop := ∀ (M : gm_M) (d : Nat) (xs : Int → Int) (Ln : Int), gn_Inv M → gm_pu xs Ln M → ∃ x M1 M2, gm_go (d + 20) mc (.inr (.inr 1) :: args) M = some (some (.inl x), M1) ∧ gm_go (d + 20) mm (.inr (.inr 148) :: args) M1 = some (some (.inl x), M2) ∧ gn_Inv M2 ∧ gm_pu xs Ln M2
def gn_Sl (mc mm : Nat) (args : List gm_V) : Prop := ∀ (M : gm_M) (d : Nat) (xs : Int → Int) (Ln : Int), gn_Inv M → gm_pu xs Ln M → ∃ x M1 M2, gm_go (d + 20) mc (.inr (.inr 1) :: args) M = some (some (.inr (.inl x)), M1) ∧ gm_go (d + 20) mm (.inr (.inr 148) :: args) M1 = some (some (.inr (.inl x)), M2) ∧ gn_Inv M2 ∧ gm_pu xs Ln M2
theorem gn_NO_e (p : Prop) [Decidable p] (x : Int) : (if p then .inr (.inl x) else gm_NO : gm_V) = .inr (.inl (if p then x else -9223372036854775808)) := by
  by_cases h : p
  · rw [if_pos h, if_pos h]
  · rw [if_neg h, if_neg h]; rfl
theorem s_on (n k w : Int) (hn : gm_i n) (hk : gm_i k) (hw : gm_i w) : gn_Si 62 145 [.inl n, .inl k, .inl w] := fun M d xs Ln hI hp => by
  obtain ⟨M1, he, e1⟩ := r_X8_on (d + 13) n k w M hI.CI hn hk hw rfl
  obtain ⟨M2, hm, e2⟩ := r_X9_on (d + 12) hI he n k w hn hk hw rfl
  exact ⟨_, M1, M2, e1, e2, hI.eq (he.Eq.tr hm.Eq), (he.Eq.tr hm.Eq).pu hp⟩
theorem s_first (n : Int) (hn : gm_i n) : gn_Si 63 146 [.inl n] := fun M d xs Ln hI hp => by
  obtain ⟨M1, he, e1⟩ := r_X8_first (d + 13) n M hI.CI hn
  obtain ⟨M2, hm, e2⟩ := r_X9_first (d + 12) hI he n hn
  exact ⟨_, M1, M2, e1, e2, hI.eq (he.Eq.tr hm.Eq), (he.Eq.tr hm.Eq).pu hp⟩
theorem s_never : gn_Si 64 147 [] := fun M d xs Ln hI hp => by
  obtain ⟨M1, he, e1⟩ := r_X8_never (d + 13) M hI.CI
  obtain ⟨M2, hm, e2⟩ := r_X9_never (d + 11) hI he
  exact ⟨_, M1, M2, e1, e2, hI.eq (he.Eq.tr hm.Eq), (he.Eq.tr hm.Eq).pu hp⟩
theorem s_cap (n : Int) (hn : gm_i n) : gn_Si 65 148 [.inl n] := fun M d xs Ln hI hp => by
  obtain ⟨M1, he, e1⟩ := r_X8_cap (d + 13) n M hI.CI hn
  obtain ⟨M2, hm, e2⟩ := r_X9_cap (d + 11) hI he n hn
  exact ⟨_, M1, M2, e1, e2, hI.eq (he.Eq.tr hm.Eq), (he.Eq.tr hm.Eq).pu hp⟩
theorem s_full (n : Int) (hn : gm_i n) : gn_Si 66 149 [.inl n] := fun M d xs Ln hI hp => by
  obtain ⟨M1, he, e1⟩ := r_X8_full (d + 13) n M hI.CI hn
  obtain ⟨M2, hm, e2⟩ := r_X9_full (d + 11) hI he n hn
  exact ⟨_, M1, M2, e1, e2, hI.eq (he.Eq.tr hm.Eq), (he.Eq.tr hm.Eq).pu hp⟩
theorem s_heat (n w : Int) (hn : gm_i n) (hw : gm_i w) : gn_Si 67 150 [.inl n, .inl w] := fun M d xs Ln hI hp => by
  obtain ⟨M1, he, e1⟩ := r_X8_heat (d + 13) n w M hI.CI hn hw
  obtain ⟨M2, hm, e2⟩ := r_X9_heat (d + 11) hI he n w hn hw
  exact ⟨_, M1, M2, e1, e2, hI.eq (he.Eq.tr hm.Eq), (he.Eq.tr hm.Eq).pu hp⟩
theorem s_big (w : Int) (hw : gm_i w) : gn_Si 68 152 [.inl w] := fun M d xs Ln hI hp => by
  obtain ⟨M1, he, e1⟩ := r_X8_big (d + 14) M hI.CI hI.CS w hw
  obtain ⟨M2, hm, e2⟩ := r_X9_big (d + 13) hI he w hw
  exact ⟨_, M1, M2, e1, e2, hI.eq (he.Eq.tr hm.Eq), (he.Eq.tr hm.Eq).pu hp⟩
theorem s_gives (a b n : Int) (ha : gm_i a) (hb : gm_i b) (hn : gm_i n) : gn_Si 69 153 [.inl a, .inl b, .inl n] := fun M d xs Ln hI hp => by
  obtain ⟨M1, he, e1⟩ := r_X8_gives (d + 12) a b n M hI.CI ha hb hn (fun h h1 h2 => (gn_cap_b hI h1 h2).2.2.2.1.2)
  obtain ⟨M2, hm, e2⟩ := r_X9_gives (d + 11) hI he a b n ha hb hn
  exact ⟨_, M1, M2, e1, e2, hI.eq (he.Eq.tr hm.Eq), (he.Eq.tr hm.Eq).pu hp⟩
theorem s_turn (n w : Int) (hn : gm_i n) (hw : gm_i w) : gn_Si 70 154 [.inl n, .inl w] := fun M d xs Ln hI hp => by
  obtain ⟨M1, he, e1⟩ := r_X8_turn (d + 13) n w M hI.CI hn hw
  obtain ⟨M2, hm, e2⟩ := r_X9_turn (d + 11) hI he n w hn hw
  exact ⟨_, M1, M2, e1, e2, hI.eq (he.Eq.tr hm.Eq), (he.Eq.tr hm.Eq).pu hp⟩
theorem s_alike (a b : Int) (ha : gm_i a) (hb : gm_i b) : gn_Si 71 155 [.inl a, .inl b] := fun M d xs Ln hI hp => by
  obtain ⟨M1, he, e1⟩ := r_X8_alike (d + 14) a b M hI.CI ha hb
  obtain ⟨M2, hm, e2⟩ := r_X9_alike (d + 13) hI he a b ha hb
  exact ⟨_, M1, M2, e1, e2, hI.eq (he.Eq.tr hm.Eq), (he.Eq.tr hm.Eq).pu hp⟩
theorem s_leaks (n : Int) (hn : gm_i n) : gn_Si 73 158 [.inl n] := fun M d xs Ln hI hp => by
  obtain ⟨M1, he, e1⟩ := r_X8_leaks (d + 13) n M hI.CI hI.CB hn
  obtain ⟨M2, hm, e2⟩ := r_X9_leaks (d + 11) hI he n hn
  exact ⟨_, M1, M2, e1, e2, hI.eq (he.Eq.tr hm.Eq), (he.Eq.tr hm.Eq).pu hp⟩
theorem s_dry (n : Int) (hn : gm_i n) : gn_Si 74 159 [.inl n] := fun M d xs Ln hI hp => by
  obtain ⟨M1, he, e1⟩ := r_X8_dry (d + 14) n M hI.CI hn
  obtain ⟨M2, hm, e2⟩ := r_X9_dry (d + 12) hI he n hn
  exact ⟨_, M1, M2, e1, e2, hI.eq (he.Eq.tr hm.Eq), (he.Eq.tr hm.Eq).pu hp⟩
theorem s_odds (n w : Int) (hn : gm_i n) (hw : gm_i w) : gn_Sl 75 162 [.inl n, .inl w] := fun M d xs Ln hI hp => by
  obtain ⟨M1, he, e1⟩ := r_X8_odds (d + 14) n w M hI.CI hn hw
  obtain ⟨M2, hm, e2⟩ := r_X9_odds (d + 11) hI he n w hn hw
  rw [gn_NO_e] at e1 e2
  exact ⟨_, M1, M2, e1, e2, hI.eq (he.Eq.tr hm.Eq), (he.Eq.tr hm.Eq).pu hp⟩
theorem s_mean (n w : Int) (hn : gm_i n) (hw : gm_i w) : gn_Sl 76 163 [.inl n, .inl w] := fun M d xs Ln hI hp => by
  obtain ⟨M1, he, e1⟩ := r_X8_mean (d + 14) n w M hI.CI hn hw
  obtain ⟨M2, hm, e2⟩ := r_X9_mean (d + 12) hI he n w hn hw
  rw [gn_NO_e] at e1 e2
  exact ⟨_, M1, M2, e1, e2, hI.eq (he.Eq.tr hm.Eq), (he.Eq.tr hm.Eq).pu hp⟩
theorem s_looked : gn_Si 78 165 [] := fun M d xs Ln hI hp => by
  obtain ⟨M1, he, e1⟩ := r_X8_looked (d + 14) M hI.CI hI.CB
  obtain ⟨M2, hm, e2⟩ := r_X9_looked (d + 12) hI he
  exact ⟨_, M1, M2, e1, e2, hI.eq (he.Eq.tr hm.Eq), (he.Eq.tr hm.Eq).pu hp⟩
