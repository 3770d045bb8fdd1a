/-! GROUND: what was read, on both sides -/
abbrev gn_Cz : Type := Int × Int × gn_X
/-- clauses that may be -/
def gn_okl (l : List gn_Cz) : Prop := ∀ x ∈ l, (0 ≤ x.1 ∧ x.1 ≤ 3) ∧ (0 ≤ x.2.1 ∧ x.2.1 ≤ 99) ∧ gn_okx x.2.2
theorem gn_okl.t {x : gn_Cz} {l : List gn_Cz} (h : gn_okl (x :: l)) : gn_okl l := fun y hy => h y (List.mem_cons_of_mem _ hy)
def gn_cst (w : Int) : Int → List gn_Cz → List (Int × Int)
  | _, [] => []
  | b, x :: l => if x.1 = w then gn_Xc x.2.2 b ++ (21, x.2.1) :: gn_cst w (b + gn_sz x.2.2 + 1) l else gn_cst w b l
def gn_sml (w : Int) (F : Int → Int) : List gn_Cz → Int → Int → Int × Int
  | [], s, b => (s, b)
  | x :: l, s, b => if x.1 = w then gn_sml w F l (s + if gn_Xe x.2.2 F = 0 then 0 else x.2.1) 1 else gn_sml w F l s b
def gn_anl (w : Int) : List gn_Cz → Int → Int
  | [], b => b
  | x :: l, b => gn_anl w l (if x.1 = w then 1 else b)
def gn_lsl (w : Int) : List gn_Cz → Int → Int
  | [], z => z
  | x :: l, z => gn_lsl w l (if x.1 = w then x.2.1 else z)
def gn_xs : List gn_Cz → Int
  | [] => 0
  | x :: l => (if x.1 ≤ 1 then gn_sz x.2.2 + 1 else 0) + gn_xs l
theorem gn_sml_2 (w : Int) (F : Int → Int) : ∀ (l : List gn_Cz) (s b : Int), (gn_sml w F l s b).2 = gn_anl w l b
  | [], _, _ => rfl
  | x :: l, s, b => by
    unfold gn_sml gn_anl
    by_cases c : x.1 = w
    · rw [if_pos c, if_pos c]; exact gn_sml_2 w F l _ _
    · rw [if_neg c, if_neg c]; exact gn_sml_2 w F l _ _
theorem gn_anl_b (w : Int) : ∀ (l : List gn_Cz) (b : Int), (b = 0 ∨ b = 1) → gn_anl w l b = 0 ∨ gn_anl w l b = 1
  | [], _, h => h
  | x :: l, b, h => by
    unfold gn_anl
    exact gn_anl_b w l _ (by split <;> omega)
theorem gn_lsl_b (w : Int) : ∀ (l : List gn_Cz) (z : Int), gn_okl l → (0 ≤ z ∧ z ≤ 99) → 0 ≤ gn_lsl w l z ∧ gn_lsl w l z ≤ 99
  | [], _, _, h => h
  | x :: l, z, hl, h => by
    unfold gn_lsl
    have := (hl x (by simp)).2.1
    exact gn_lsl_b w l _ hl.t (by split <;> omega)
theorem gn_fold : ∀ (l : List gn_Cz) (s : gn_St), gn_okl l → (l.foldl gn_ad s).1.1 = s.1.1 ++ gn_cst 0 (s.1.1.length : Int) l ∧ (l.foldl gn_ad s).1.2 = gn_anl 0 l s.1.2 ∧ (l.foldl gn_ad s).2.1.1 = s.2.1.1 ++ gn_cst 1 (s.2.1.1.length : Int) l ∧ (l.foldl gn_ad s).2.1.2 = gn_anl 1 l s.2.1.2 ∧ (l.foldl gn_ad s).2.2.1 = gn_lsl 2 l s.2.2.1 ∧ (l.foldl gn_ad s).2.2.2 = gn_lsl 3 l s.2.2.2
  | [], s, _ => ⟨(List.append_nil _).symm, rfl, (List.append_nil _).symm, rfl, rfl, rfl⟩
  | x :: l, s, h => by
    have hx := h x (by simp)
    have h2 := hx.2.2.2.1
    obtain ⟨i1, i2, i3, i4, i5, i6⟩ := gn_fold l (gn_ad s x) h.t
    rw [List.foldl_cons, i1, i2, i3, i4, i5, i6]
    simp only [gn_cst, gn_anl, gn_lsl]
    rcases (by omega : x.1 = 0 ∨ x.1 = 1 ∨ x.1 = 2 ∨ x.1 = 3) with c | c | c | c
    · have e : gn_ad s x = ((s.1.1 ++ gn_Xc x.2.2 (s.1.1.length : Int) ++ [(21, x.2.1)], 1), s.2) := by unfold gn_ad; rw [if_pos c]
      have hl : (((s.1.1 ++ gn_Xc x.2.2 (s.1.1.length : Int) ++ [((21 : Int), x.2.1)]).length : Nat) : Int) = (s.1.1.length : Int) + gn_sz x.2.2 + 1 := by
        have := h2 (s.1.1.length : Int)
        simp only [List.length_append, List.length_cons, List.length_nil]
        omega
      rw [e, c]
      simp only [hl]
      simp
    · have e : gn_ad s x = (s.1, (s.2.1.1 ++ gn_Xc x.2.2 (s.2.1.1.length : Int) ++ [(21, x.2.1)], 1), s.2.2) := by unfold gn_ad; rw [if_neg (by omega), if_pos c]
      have hl : (((s.2.1.1 ++ gn_Xc x.2.2 (s.2.1.1.length : Int) ++ [((21 : Int), x.2.1)]).length : Nat) : Int) = (s.2.1.1.length : Int) + gn_sz x.2.2 + 1 := by
        have := h2 (s.2.1.1.length : Int)
        simp only [List.length_append, List.length_cons, List.length_nil]
        omega
      rw [e, c]
      simp only [hl]
      simp
    · have e : gn_ad s x = (s.1, s.2.1, x.2.1, s.2.2.2) := by unfold gn_ad; rw [if_neg (by omega), if_neg (by omega), if_pos c]
      rw [e, c]
      simp
    · have e : gn_ad s x = (s.1, s.2.1, s.2.2.1, x.2.1) := by unfold gn_ad; rw [if_neg (by omega), if_neg (by omega), if_neg (by omega)]
      rw [e, c]
      simp
theorem gn_at_a {S : Int → Int} {k : Int} {L L' : List Int} (h : gn_at S k (L ++ L')) : gn_at S k L := h.app.1
/-- the class goes through its steps -/
theorem gn_run_l {st nu F : Int → Int} {size : Int} (w : Int) : ∀ (l : List gn_Cz) (b sum so z : Int) (k : Nat), gn_okl l → gn_at st b ((gn_cst w b l).map Prod.fst) → gn_at nu b ((gn_cst w b l).map Prod.snd) → b + ((gn_cst w b l).length : Int) = size → size ≤ b + k → gm_run1 st nu F size k sum so b = (gn_sml w F l sum z).1
  | [], b, sum, so, z, k, _, _, _, hs, _ => by
    have hs' : b = size := by simpa [gn_cst] using hs
    rcases k with _ | k
    · rfl
    · rw [gm_run1, if_pos (by omega)]
      rfl
  | x :: l, b, sum, so, z, k, hl, h1, h2, hs, hk => by
    unfold gn_cst at h1 h2 hs
    unfold gn_sml
    by_cases c : x.1 = w
    · rw [if_pos c] at h1 h2 hs
      rw [if_pos c]
      obtain ⟨-, -, o1, o2, o3, o4, o5, o6, -⟩ := hl x (by simp)
      have hlx := o2 b
      rw [List.map_append] at h1 h2
      simp only [List.length_append, List.length_cons] at hs
      have a1 := h1.app.2
      have a2 := h2.app.2
      rw [List.length_map, hlx] at a1 a2
      have q1 : st (b + gn_sz x.2.2) = 21 := a1.cons.1
      have q2 : nu (b + gn_sz x.2.2) = x.2.1 := a2.cons.1
      obtain ⟨k', hk', e⟩ := o6 st nu F b size k sum so h1.app.1 h2.app.1 (by omega) hk
      obtain ⟨k', rfl⟩ : ∃ g, k' = g + 1 := ⟨k' - 1, by omega⟩
      rw [e, gm_run1, if_neg (by omega), q1, if_neg (by decide), if_neg (by decide), if_pos rfl, q2]
      exact gn_run_l w l (b + gn_sz x.2.2 + 1) _ _ _ k' hl.t a1.cons.2 a2.cons.2 (by omega) (by omega)
    · rw [if_neg c] at h1 h2 hs
      rw [if_neg c]
      exact gn_run_l w l b sum so z k hl.t h1 h2 hs hk
theorem gn_cst_len (w : Int) (hw : w = 0 ∨ w = 1) : ∀ (l : List gn_Cz) (b : Int), gn_okl l → ((gn_cst w b l).length : Int) ≤ gn_xs l
  | [], _, _ => by simp [gn_cst, gn_xs]
  | x :: l, b, hl => by
    have hx := hl x (by simp)
    have h2 := hx.2.2.2.1 b
    have h1 := hx.2.2.1
    unfold gn_cst gn_xs
    by_cases c : x.1 = w
    · rw [if_pos c, if_pos (by omega)]
      have := gn_cst_len w hw l (b + gn_sz x.2.2 + 1) hl.t
      simp only [List.length_append, List.length_cons]
      omega
    · rw [if_neg c]
      have := gn_cst_len w hw l b hl.t
      split <;> omega
theorem gn_cst_b (w : Int) : ∀ (l : List gn_Cz) (b : Int), gn_okl l → 0 ≤ b → ∀ x ∈ gn_cst w b l, (0 ≤ x.1 ∧ x.1 ≤ 21) ∧ 0 ≤ x.2 ∧ (x.2 ≤ 99 ∨ x.2 ≤ b + ((gn_cst w b l).length : Int))
  | [], _, _, _ => fun x hx => by simp [gn_cst] at hx
  | y :: l, b, hl, hb => fun x hx => by
    have hy := hl y (by simp)
    have h2 := hy.2.2.2.1 b
    have h1 := hy.2.2.1
    unfold gn_cst at hx ⊢
    by_cases c : y.1 = w
    · rw [if_pos c] at hx ⊢
      simp only [List.length_append, List.length_cons]
      rcases List.mem_append.mp hx with z | z
      · have := hy.2.2.2.2.2.1 b x hb z
        omega
      · rcases List.mem_cons.mp z with rfl | z
        · have := hy.2.1
          simp only
          omega
        · have := gn_cst_b w l (b + gn_sz y.2.2 + 1) hl.t (by omega) x z
          omega
    · rw [if_neg c] at hx ⊢
      exact gn_cst_b w l b hl.t hb x hx
/-- the model goes through its signs -/
theorem gn_hld_x {M : gm_M} {c k : Int} {x : gn_Cz} {F : Int → Int} (hx : gn_okx x.2.2) (h : gn_mc1 M c k x) (hw : x.1 ≤ 1) : gn_hld M c F = gn_Xe x.2.2 F := by
  obtain ⟨h4, h5, h6⟩ := h.2.2 hw
  unfold gn_hld
  have := hx.2.2.2.2.2.2.1 (gm_gA M 162) F k 0 [] h6
  rw [h4, h5, show k + gn_sz x.2.2 - k = gn_sz x.2.2 by omega]
  rw [Nat.add_zero] at this
  rw [this]
  rfl
theorem gn_smw_l {M : gm_M} {w : Int} {F : Int → Int} (hw : w = 0 ∨ w = 1) : ∀ (l : List gn_Cz) (c k s b : Int), gn_okl l → gn_mcl M c k l → gn_smw M w F l.length c s b = gn_sml w F l s b
  | [], _, _, _, _, _, _ => rfl
  | x :: l, c, k, s, b, hl, h => by
    have hx := hl x (by simp)
    show (if gm_gA M 158 c = w then _ else _) = gn_sml w F (x :: l) s b
    unfold gn_sml
    rw [h.1.1]
    by_cases z : x.1 = w
    · rw [if_pos z, if_pos z, gn_hld_x hx.2.2 h.1 (by omega), h.1.2.1]
      exact gn_smw_l hw l (c + 1) _ _ _ hl.t h.2
    · rw [if_neg z, if_neg z]
      exact gn_smw_l hw l (c + 1) _ _ _ hl.t h.2
theorem gn_lst_l {M : gm_M} {w : Int} : ∀ (l : List gn_Cz) (c k z : Int), gn_mcl M c k l → gn_lst M w l.length c z = gn_lsl w l z
  | [], _, _, _, _ => rfl
  | x :: l, c, k, z, h => by
    show gn_lst M w l.length (c + 1) (if gm_gA M 158 c = w then gm_gA M 159 c else z) = gn_lsl w l (if x.1 = w then x.2.1 else z)
    rw [h.1.1, h.1.2.1]
    exact gn_lst_l l (c + 1) _ _ h.2
theorem gn_xk_s {x : gn_Cz} (hx : gn_okx x.2.2) : 0 ≤ gn_xk x ∧ gn_xk x ≤ (if x.1 ≤ 1 then gn_sz x.2.2 + 1 else 0) := by
  have := hx.1
  unfold gn_xk
  by_cases c : x.1 ≤ 1
  · rw [if_pos c, if_pos c]; omega
  · rw [if_neg c, if_neg c]; omega
theorem gn_xs_0 : ∀ l : List gn_Cz, gn_okl l → 0 ≤ gn_xs l
  | [], _ => Int.le_refl 0
  | x :: l, h => by
    have := gn_xs_0 l h.t
    have := (gn_xk_s (h x (by simp)).2.2)
    unfold gn_xs
    omega
theorem gn_mcl_at {M : gm_M} : ∀ (l : List gn_Cz) (c0 k0 c : Int), gn_okl l → gn_mcl M c0 k0 l → c0 ≤ c → c < c0 + (l.length : Int) → ∃ x k, x ∈ l ∧ k0 ≤ k ∧ k + gn_xk x ≤ k0 + gn_xs l ∧ gn_mc1 M c k x
  | [], c0, k0, c, _, _, h1, h2 => by simp at h2; omega
  | x :: l, c0, k0, c, hl, h, h1, h2 => by
    simp only [List.length_cons] at h2
    have hk := gn_xk_s (hl x (by simp)).2.2
    have h0 := gn_xs_0 l hl.t
    have es : gn_xs (x :: l) = (if x.1 ≤ 1 then gn_sz x.2.2 + 1 else 0) + gn_xs l := rfl
    by_cases z : c = c0
    · subst z
      exact ⟨x, k0, by simp, Int.le_refl _, by omega, h.1⟩
    · obtain ⟨y, k, m1, m2, m3, m4⟩ := gn_mcl_at l (c0 + 1) (k0 + gn_xk x) c hl.t h.2 (by omega) (by omega)
      exact ⟨y, k, by simp [m1], by omega, by omega, m4⟩
/-- a ground that was read -/
theorem gn_gok_new {M : gm_M} {f : Int} {l : List gn_Cz} (hf : 0 ≤ f ∧ f ≤ 5) (hl : gn_okl l) (hn : 1 ≤ l.length ∧ l.length ≤ 10) (hs : gn_xs l ≤ 100) (c1 : gn_rws M (94 + 7 * f + 1) (gn_cst 0 0 l) (gn_anl 0 l 0)) (c2 : gn_rws M (94 + 7 * f + 4) (gn_cst 1 0 l) (gn_anl 1 l 0)) (c3 : gm_gF M 102 (94 + 7 * f) = gn_lsl 2 l 20) (c4 : gm_gF M 103 (94 + 7 * f) = gn_lsl 3 l 80) (m1 : gm_gA M 157 f = (l.length : Int)) (m2 : gn_mcl M (10 * f) (100 * f) l) : gn_gok M f := by
  have wf : ∀ (c w : Int), (w = 0 ∨ w = 1) → gn_rws M c (gn_cst w 0 l) (gn_anl w l 0) → gm_cwf M c := fun c w hw h => by
    have hlen := gn_cst_len w hw l 0 hl
    refine ⟨by rw [h.1]; omega, by rw [h.1]; omega, by rw [h.2.1]; exact gn_anl_b w l 0 (Or.inl rfl), fun i i1 i2 => ?_⟩
    rw [h.1] at i2
    obtain ⟨e1, e2⟩ := h.2.2 i i1 i2
    have hb := gn_cst_b w l 0 hl (Int.le_refl 0) ((gn_cst w 0 l).getD i.toNat (0, 0)) (by
      have : i.toNat < (gn_cst w 0 l).length := by omega
      rw [List.getD_eq_getElem?_getD, List.getElem?_eq_getElem this]
      exact List.getElem_mem this)
    rw [e1, e2]
    omega
  have ev : ∀ (c w : Int), (w = 0 ∨ w = 1) → gn_rws M c (gn_cst w 0 l) (gn_anl w l 0) → ∀ num kind v moon warm held, gm_tf M c num kind v moon warm held = gn_ms M w (10 * f) l.length (gm_ff num kind v moon warm held) := fun c w hw h num kind v moon warm held => by
    have hlen := gn_cst_len w hw l 0 hl
    unfold gm_tf gn_ms
    rw [gn_smw_l hw l (10 * f) (100 * f) 0 0 hl m2, gn_sml_2, h.2.1, h.1]
    by_cases z : gn_anl w l 0 = 0
    · rw [if_pos z, if_pos z]
    · rw [if_neg z, if_neg z]
      refine gn_run_l w l 0 0 0 0 100 hl (fun i hi => ?_) (fun i hi => ?_) (by omega) (by omega)
      · rw [List.length_map] at hi
        rw [Int.zero_add, (h.2.2 i (by omega) (by omega)).1]
        simp [List.getD, hi]
      · rw [List.length_map] at hi
        rw [Int.zero_add, (h.2.2 i (by omega) (by omega)).2]
        simp [List.getD, hi]
  have hnn : (gm_gA M 157 f).toNat = l.length := by rw [m1]; omega
  unfold gn_gok
  rw [hnn]
  refine ⟨by rw [m1]; omega, ⟨wf _ 0 (Or.inl rfl) c1, wf _ 1 (Or.inr rfl) c2, by rw [c3]; exact gn_lsl_b 2 l 20 hl (by decide), by rw [c4]; exact gn_lsl_b 3 l 80 hl (by decide)⟩, fun c h1 h2 => ?_, ⟨fun num kind v moon warm held _ _ _ _ _ _ => ⟨ev _ 0 (Or.inl rfl) c1 num kind v moon warm held, ev _ 1 (Or.inr rfl) c2 num kind v moon warm held⟩, by rw [c3, gn_lst_l l (10 * f) (100 * f) 20 m2], by rw [c4, gn_lst_l l (10 * f) (100 * f) 80 m2]⟩, fun c h1 h2 h3 => ?_⟩
  · obtain ⟨x, k, hx, k1, k2, g1, g2, g3⟩ := gn_mcl_at l (10 * f) (100 * f) c hl m2 h1 h2
    have ho := hl x hx
    refine ⟨by rw [g1]; exact ho.1, by rw [g2]; exact ho.2.1, fun z => ?_⟩
    rw [g1] at z
    obtain ⟨g4, g5, g6⟩ := g3 z
    have hk : gn_xk x = gn_sz x.2.2 := by unfold gn_xk; rw [if_pos z]
    have h11 := ho.2.2.1
    refine ⟨by rw [g4]; omega, by rw [g4, g5]; omega, by rw [g5]; omega, ?_⟩
    rw [g4, g5, show k + gn_sz x.2.2 - k = gn_sz x.2.2 by omega]
    have := ho.2.2.2.2.2.2.2.2.2 (gm_gA M 162) k 0 0 g6 (by omega) (by rw [gn_dok])
    rwa [Nat.add_zero] at this
  · rw [m1] at h2
    obtain ⟨x, k, hx, k1, k2, g1, g2, g3⟩ := gn_mcl_at l (10 * f) (100 * f) c hl m2 h1 h2
    rw [g1] at h3
    obtain ⟨g4, g5, g6⟩ := g3 h3
    have hk : gn_xk x = gn_sz x.2.2 := by unfold gn_xk; rw [if_pos h3]
    rw [g4, g5]
    omega
/-- so many bytes -/
theorem gn_cl_xs {t : Int → Int} {n p q : Int} {x : gn_Cz} (hn : n ≤ 100) (h0 : 0 ≤ p) (hp : p ≤ n) (h : gn_cl t n p = (some x, q)) : (p ≤ q ∧ q ≤ n) ∧ (if x.1 ≤ 1 then gn_sz x.2.2 + 1 else 0) ≤ q - p := by
  have hb := gn_cl_b (t := t) hn h0 hp
  rw [h] at hb
  obtain ⟨b1, b2, b3⟩ := hb
  simp only at b1 b2
  obtain ⟨d1, d2, d3, d4, d5⟩ := b3 x rfl
  simp only at d4 d5
  refine ⟨⟨b1, b2⟩, ?_⟩
  by_cases c : x.1 ≤ 1
  · rw [if_pos c]; have := d5 c; omega
  · rw [if_neg c]; omega
theorem gn_tll_xs {t : Int → Int} {n : Int} (hn : n ≤ 100) : ∀ (k : Nat) (p q : Int) (l : List gn_Cz), 0 ≤ p → p ≤ n → gn_tll t n k p = (some l, q) → gn_xs l ≤ n - p
  | 0, p, q, l, h0, hp, h => by
    unfold gn_tll at h
    by_cases c : p = n
    · rw [if_pos c] at h
      obtain rfl : [] = l := Option.some.inj (Prod.mk.inj h).1
      show (0 : Int) ≤ n - p
      omega
    · rw [if_neg c] at h
      simp at h
  | k + 1, p, q, l, h0, hp, h => by
    unfold gn_tll at h
    by_cases c : p = n
    · rw [if_pos c] at h
      obtain rfl : [] = l := Option.some.inj (Prod.mk.inj h).1
      show (0 : Int) ≤ n - p
      omega
    · rw [if_neg c] at h
      by_cases c2 : gn_ch t n p = 59
      · rw [if_neg (fun z => z c2)] at h
        rcases hcl : gn_cl t n (p + 1) with ⟨_ | x, q1⟩
        · rw [hcl] at h; simp at h
        · rw [hcl] at h
          simp only at h
          have hx := gn_cl_xs hn (by omega) (by omega) hcl
          rcases hy : gn_tll t n k q1 with ⟨_ | l1, q2⟩
          · rw [hy] at h; simp at h
          · rw [hy] at h
            simp only at h
            obtain rfl : x :: l1 = l := Option.some.inj (Prod.mk.inj h).1
            have := gn_tll_xs hn k q1 q2 l1 (by omega) (by omega) hy
            show (if x.1 ≤ 1 then gn_sz x.2.2 + 1 else 0) + gn_xs l1 ≤ n - p
            omega
      · rw [if_pos c2] at h
        simp at h
theorem gn_tx_xs {t : Int → Int} {n q : Int} {l : List gn_Cz} (hn : 0 ≤ n ∧ n ≤ 100) (h : gn_tx t n = (some l, q)) : gn_xs l ≤ 100 := by
  unfold gn_tx at h
  rcases hcl : gn_cl t n 0 with ⟨_ | x, q1⟩
  · rw [hcl] at h; simp at h
  · rw [hcl] at h
    simp only at h
    have hx := gn_cl_xs hn.2 (Int.le_refl 0) hn.1 hcl
    rcases hy : gn_tll t n 9 q1 with ⟨_ | l1, q2⟩
    · rw [hy] at h; simp at h
    · rw [hy] at h
      simp only at h
      obtain rfl : x :: l1 = l := Option.some.inj (Prod.mk.inj h).1
      have := gn_tll_xs hn.2 9 q1 q2 l1 (by omega) (by omega) hy
      show (if x.1 ≤ 1 then gn_sz x.2.2 + 1 else 0) + gn_xs l1 ≤ 100
      omega
