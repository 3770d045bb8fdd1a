/-! A HOUSE TRIED ON, LIKE A HOUSE OF NOW: by what it is -/
def gm_stD (M : gm_M) (n room leak day dust : Int) (q : Int × Int) : Int × Int :=
  gm_DS (gm_gF M 200 (8 + 3 * n)) (gm_gF M 201 (8 + 3 * n)) (gm_gF M 202 (8 + 3 * n)) room leak (gm_gF M 102 (gm_gr M)) (gm_gF M 103 (gm_gr M)) (gm_gA M (8 + 3 * n + 2)) (gm_tf M (gm_gr M + 1)) (gm_tf M (gm_gr M + 4)) day dust q
def gm_roo (M : gm_M) (n : Int) : Int := gm_gF M 501 (8 + 3 * n + 1)
def gm_lk (M : gm_M) (n : Int) : Int := gm_gF M 502 (8 + 3 * n + 1)
theorem gm_st_D (M : gm_M) (n t k : Int) (q : Int × Int) : gm_st M n t k q = gm_stD M n (gm_roo M n) (gm_lk M n) (gm_day M + k - 1) (gm_dus t k) q := rfl
def gm_As (M : gm_M) (n o room leak : Int) (q : Int × Int) (M1 : gm_M) : Prop :=
  (gm_gF M1 200 o = gm_gF M 200 (8 + 3 * n) ∧ gm_gF M1 201 o = gm_gF M 201 (8 + 3 * n) ∧ gm_gF M1 202 o = gm_gF M 202 (8 + 3 * n)) ∧ gm_gF M1 203 o = q.1 ∧ gm_gF M1 500 (o + 1) = q.2 ∧ gm_gF M1 501 (o + 1) = room ∧ gm_gF M1 502 (o + 1) = leak ∧
  (∀ i, 0 ≤ i → i < 4 → gm_gA M1 (o + 2) i = gm_gA M (8 + 3 * n + 2) i) ∧ gm_pok q ∧ (0 ≤ room ∧ room ≤ 5000) ∧ (0 ≤ leak ∧ leak ≤ 100)
theorem gm_dst_SC (M : gm_M) (g o day dust : Int) : gm_dst M g o day dust = gm_SC M g o day dust (gm_qq M o) := by
  rw [← gm_dp_SC, gm_dp]
  rw [show gm_hs M o (o + 1) (gm_qq M o).1 (gm_qq M o).2 = M from gm_hs_id M o (o + 1)]
theorem gm_As.owf {M M1 : gm_M} {n o room leak : Int} {q : Int × Int} (hI : gm_CI M) (h1 : 0 ≤ n) (h2 : n < gm_many M) (h : gm_As M n o room leak q M1) : gm_owf M1 o := by
  obtain ⟨⟨a1, a2, a3⟩, a4, a5, a6, a7, a8, ⟨a9, a9'⟩, a10, a11⟩ := h
  obtain ⟨b1, b2, b3, b4, b5, b6, b7, b8⟩ := (hI.ho h1 h2).2
  refine ⟨by rw [a1]; exact b1, by rw [a2]; exact b2, by rw [a3]; exact b3, by rw [a4]; exact a9, by rw [a5]; exact a9', by rw [a6]; exact a10, by rw [a7]; exact a11, fun i i1 i2 => by rw [a8 i i1 i2]; exact b8 i i1 i2⟩
theorem gm_As.SC {M M1 : gm_M} {n o room leak : Int} {q : Int × Int} (hI : gm_CI M) (he : gm_Ec M M1) (h : gm_As M n o room leak q M1) (day dust : Int) (x : Int × Int) : gm_SC M1 (gm_gr M) o day dust x = gm_stD M n room leak day dust x := by
  have hg := gm_gr_b hI
  obtain ⟨⟨a1, a2, a3⟩, a4, a5, a6, a7, a8, -⟩ := h
  unfold gm_SC gm_stD
  rw [a1, a2, a3, a6, a7, he.2.1 102 _ (by omega), he.2.1 103 _ (by omega), he.tf (by omega : 80 < gm_gr M + 1), he.tf (by omega : 80 < gm_gr M + 4)]
  exact gm_DS_row (fun i h1 h2 => a8 i h1 h2) day dust x
theorem gm_As.qq {M M1 : gm_M} {n o room leak : Int} {q : Int × Int} (h : gm_As M n o room leak q M1) : gm_qq M1 o = q := by
  unfold gm_qq
  rw [h.2.1, h.2.2.1]
theorem gm_stD_ok {M : gm_M} (hI : gm_CI M) {n room leak day dust : Int} (h1 : 0 ≤ n) (h2 : n < gm_many M) (hr : 0 ≤ room ∧ room ≤ 5000) (hl : 0 ≤ leak ∧ leak ≤ 100) {q : Int × Int} (hq : gm_pok q) : gm_pok (gm_stD M n room leak day dust q) := by
  have hg := hI.2.2.2.2.2.2
  unfold gm_stD gm_DS
  exact gm_stl_b (by omega) (by have := hq.2; omega) hr hg.2.2.2.1 hg.2.2.1.2
theorem gm_As.hs {M M1 : gm_M} {n o room leak : Int} {q : Int × Int} (h : gm_As M n o room leak q M1) {r : Int × Int} (hr : gm_pok r) : gm_As M n o room leak r (gm_hs M1 o (o + 1) r.1 r.2) := by
  obtain ⟨⟨a1, a2, a3⟩, a4, a5, a6, a7, a8, a9, a10, a11⟩ := h
  refine ⟨⟨a1, a2, a3⟩, ?_, ?_, a6, a7, a8, hr, a10, a11⟩
  · rw [gm_hs_F, if_neg (by simp), if_pos ⟨rfl, rfl⟩]
  · rw [gm_hs_F, if_pos ⟨rfl, rfl⟩]
theorem gm_As.hs' {M M1 : gm_M} {n o room leak o' : Int} {q : Int × Int} (h : gm_As M n o room leak q M1) (a b : Int) (hne : o ≠ o') : gm_As M n o room leak q (gm_hs M1 o' (o' + 1) a b) := by
  obtain ⟨⟨a1, a2, a3⟩, a4, a5, a6, a7, a8, a9, a10, a11⟩ := h
  refine ⟨⟨a1, a2, a3⟩, ?_, ?_, a6, a7, a8, a9, a10, a11⟩
  · rw [gm_hs_F, if_neg (by simp), if_neg (by omega)]; exact a4
  · rw [gm_hs_F, if_neg (by omega), if_neg (by simp)]; exact a5
theorem gm_bec_As {M M1 : gm_M} (hI : gm_CI M) (he : gm_Ec M M1) {n o : Int} (h1 : 0 ≤ n) (h2 : n < gm_many M) : gm_As M n o (gm_roo M n) (gm_lk M n) (gm_qq M (8 + 3 * n)) (gm_bec M1 o (8 + 3 * n)) := by
  have hm := hI.2.1
  obtain ⟨⟨e1, e2, e3, e4, e5⟩, e6, e7, e8, e9⟩ := gm_bec_F M1 o (8 + 3 * n)
  have hw := (hI.ho h1 h2).2
  refine ⟨⟨?_, ?_, ?_⟩, ?_, ?_, ?_, ?_, fun i i1 i2 => ?_, gm_qq_ok hw, hw.2.2.2.2.2.1, hw.2.2.2.2.2.2.1⟩
  · rw [e1, he.2.1 200 _ (by omega)]
  · rw [e2, he.2.1 201 _ (by omega)]
  · rw [e3, he.2.1 202 _ (by omega)]
  · rw [e4, he.2.1 203 _ (by omega)]; rfl
  · rw [e6, he.2.1 500 _ (by omega)]; rfl
  · rw [e7, he.2.1 501 _ (by omega)]; rfl
  · rw [e8, he.2.1 502 _ (by omega)]; rfl
  · rw [e9 i i1 i2, he.2.2 _ _ (by omega)]
/-- the first, while the second becomes -/
theorem gm_As.bec' {M M1 : gm_M} {n o room leak o' p : Int} {q : Int × Int} (h : gm_As M n o room leak q M1) (hne : o + 2 < o' ∨ o' + 2 < o) : gm_As M n o room leak q (gm_bec M1 o' p) := by
  have hF : ∀ f x, (x < o' ∨ o' + 1 < x) → gm_gF (gm_bec M1 o' p) f x = gm_gF M1 f x := fun f x hx => by
    unfold gm_bec
    simp only [gm_gF_cp, gm_gF_sF]
    have n1 : ¬ x = o' := by omega
    have n2 : ¬ x = o' + 1 := by omega
    simp only [n1, n2, and_false, ↓reduceIte]
  have hA : ∀ a i, a ≠ o' + 2 → gm_gA (gm_bec M1 o' p) a i = gm_gA M1 a i := fun a i ha => by
    unfold gm_bec
    rw [gm_gA_cp, if_neg (fun z => ha z.1)]
    rfl
  obtain ⟨⟨a1, a2, a3⟩, a4, a5, a6, a7, a8, a9, a10, a11⟩ := h
  refine ⟨⟨by rw [hF _ _ (by omega)]; exact a1, by rw [hF _ _ (by omega)]; exact a2, by rw [hF _ _ (by omega)]; exact a3⟩, by rw [hF _ _ (by omega)]; exact a4, by rw [hF _ _ (by omega)]; exact a5, by rw [hF _ _ (by omega)]; exact a6, by rw [hF _ _ (by omega)]; exact a7, fun i i1 i2 => by rw [hA _ _ (by omega)]; exact a8 i i1 i2, a9, a10, a11⟩
theorem gm_As.holds {M M1 : gm_M} {n o room leak h' : Int} {q : Int × Int} (h : gm_As M n o room leak q M1) (hh : 0 ≤ h' ∧ h' ≤ 5000) : gm_As M n o room leak (q.1, h') (gm_sF M1 500 (o + 1) h') := by
  obtain ⟨⟨a1, a2, a3⟩, a4, a5, a6, a7, a8, a9, a10, a11⟩ := h
  refine ⟨⟨a1, a2, a3⟩, a4, ?_, a6, a7, a8, ⟨a9.1, hh⟩, a10, a11⟩
  rw [gm_gF_sF, if_pos ⟨rfl, rfl⟩]
theorem gm_As.holds' {M M1 : gm_M} {n o room leak h' s : Int} {q : Int × Int} (h : gm_As M n o room leak q M1) (hs : s ≠ o + 1) : gm_As M n o room leak q (gm_sF M1 500 s h') := by
  obtain ⟨⟨a1, a2, a3⟩, a4, a5, a6, a7, a8, a9, a10, a11⟩ := h
  refine ⟨⟨a1, a2, a3⟩, a4, ?_, a6, a7, a8, a9, a10, a11⟩
  rw [gm_gF_sF, if_neg (by omega)]
  exact a5
theorem gm_As.lk {M M1 : gm_M} {n o room leak h' : Int} {q : Int × Int} (h : gm_As M n o room leak q M1) (hh : 0 ≤ h' ∧ h' ≤ 100) : gm_As M n o room h' q (gm_sF M1 502 (o + 1) h') := by
  obtain ⟨⟨a1, a2, a3⟩, a4, a5, a6, a7, a8, a9, a10, a11⟩ := h
  refine ⟨⟨a1, a2, a3⟩, a4, a5, a6, ?_, a8, a9, a10, hh⟩
  rw [gm_gF_sF, if_pos ⟨rfl, rfl⟩]
theorem gm_As.O {M M1 : gm_M} (hI : gm_CI M) (he : gm_Ec M M1) {o : Int} (ho : o = 74 ∨ o = 77) : gm_isO 2 M1 o = true ∧ gm_isO 1 M1 (gm_gr M) = true ∧ gm_gwf M1 (gm_gr M) := by
  have hg := gm_gr_b hI
  have h8 := (gm_isO_iff hI.1).mp hg.2
  refine ⟨?_, (gm_isO_iff he.1).mpr h8, he.gwf hg.1 hI.2.2.2.2.2.2⟩
  rcases ho with rfl | rfl
  · exact gm_z74 he.1
  · exact gm_z77 he.1
theorem gm_pass_As {M M1 : gm_M} (hI : gm_CI M) (he : gm_Ec M M1) (d : Nat) {n o room leak day dust : Int} {q : Int × Int} (h1 : 0 ≤ n) (h2 : n < gm_many M) (ho : o = 74 ∨ o = 77) (h : gm_As M n o room leak q M1) (b6 : 0 ≤ day ∧ day < 100000) (b9 : 0 ≤ dust ∧ dust ≤ 1000) :
    gm_go (d + 5) 17 [.inr (.inr o), .inr (.inr (gm_gr M)), .inl day, .inl dust] M1 = some (some (.inl (gm_am0 M (gm_stD M n room leak day dust q).1)), gm_hs M1 o (o + 1) (gm_stD M n room leak day dust q).1 (gm_stD M n room leak day dust q).2) ∧ gm_Ec M (gm_hs M1 o (o + 1) (gm_stD M n room leak day dust q).1 (gm_stD M n room leak day dust q).2) ∧ gm_As M n o room leak (gm_stD M n room leak day dust q) (gm_hs M1 o (o + 1) (gm_stD M n room leak day dust q).1 (gm_stD M n room leak day dust q).2) := by
  obtain ⟨o1, o2, o3⟩ := gm_As.O hI he ho
  refine ⟨?_, he.hs o (o + 1) _ _ (by omega) (by omega), h.hs (gm_stD_ok hI h1 h2 h.2.2.2.2.2.2.2.1 h.2.2.2.2.2.2.2.2 h.2.2.2.2.2.2.1)⟩
  have e := r_X2_pass d o (gm_gr M) day dust M1 he.1 o1 o2 o3 (h.owf hI h1 h2) (by omega) b9 (W := (gm_stD M n room leak day dust q).1) (Hn := (gm_stD M n room leak day dust q).2) (by
    rw [gm_dst_SC, h.SC hI he, h.qq])
  rw [e, gm_am0_e hI he]
theorem gm_cnt_As {M M1 : gm_M} (hI : gm_CI M) (he : gm_Ec M M1) (d : Nat) {n o room leak day days turned : Int} {q : Int × Int} (h1 : 0 ≤ n) (h2 : n < gm_many M) (ho : o = 74 ∨ o = 77) (h : gm_As M n o room leak q M1) (b6 : 0 ≤ day ∧ day < 100000) (b7 : 0 ≤ days ∧ days ≤ 100) (b8 : 0 ≤ turned ∧ turned ≤ 100)
    {r : Int × (Int × Int)} (hr : gm_cnt (fun k q => gm_stD M n room leak (day + k - 1) (gm_dus turned k) q) (gm_am0 M) days.toNat 1 q = r) :
    gm_go (d + 6) 19 [.inr (.inr o), .inr (.inr (gm_gr M)), .inl day, .inl days, .inl turned] M1 = some (some (.inl r.1), gm_hs M1 o (o + 1) r.2.1 r.2.2) ∧ gm_Ec M (gm_hs M1 o (o + 1) r.2.1 r.2.2) ∧ gm_As M n o room leak r.2 (gm_hs M1 o (o + 1) r.2.1 r.2.2) := by
  obtain ⟨o1, o2, o3⟩ := gm_As.O hI he ho
  refine ⟨?_, he.hs o (o + 1) _ _ (by omega) (by omega), h.hs ?_⟩
  · exact r_X2_amissDays d o (gm_gr M) day days turned M1 he.1 o1 o2 o3 (h.owf hI h1 h2) b6 b7 b8 (by
      simp only [gm_dp_SC, h.SC hI he, h.qq, gm_am0_e hI he]
      exact hr)
  · subst hr
    exact gm_cnt_ok (fun k q hq => gm_stD_ok hI h1 h2 h.2.2.2.2.2.2.2.1 h.2.2.2.2.2.2.2.2 hq) _ _ _ h.2.2.2.2.2.2.1
theorem gm_fst_As {M M1 : gm_M} (hI : gm_CI M) (he : gm_Ec M M1) (d : Nat) {n o room leak day : Int} {q : Int × Int} (h1 : 0 ≤ n) (h2 : n < gm_many M) (ho : o = 74 ∨ o = 77) (h : gm_As M n o room leak q M1) (b6 : 0 ≤ day ∧ day < 100000) :
    ∃ M2, gm_Ec M M2 ∧ gm_go (d + 6) 18 [.inr (.inr o), .inr (.inr (gm_gr M)), .inl day] M1 = some (some (.inl (gm_fst (fun k q => gm_stD M n room leak (day + k - 1) 0 q) (gm_am0 M) 56 1 q)), M2) := by
  obtain ⟨o1, o2, o3⟩ := gm_As.O hI he ho
  obtain ⟨q', hq', e⟩ := r_X2_firstAmiss d o (gm_gr M) day M1 he.1 o1 o2 o3 (h.owf hI h1 h2) b6
  refine ⟨_, he.hs o (o + 1) q'.1 q'.2 (by omega) (by omega), ?_⟩
  rw [e]
  simp only [gm_dp_SC, h.SC hI he, h.qq, gm_am0_e hI he]
