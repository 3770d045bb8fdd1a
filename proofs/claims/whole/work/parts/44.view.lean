/-! HOUSES AS NUMBERS: a day by what a house and a ground are, not where they lie -/
def gm_ff (num kind v moon warm held : Int) (f : Int) : Int :=
  if f = 0 then num else if f = 1 then kind else if f = 2 then v else if f = 3 then moon else if f = 4 then warm / 10 else held / 10
/-- the clauses at c -/
def gm_tf (M : gm_M) (c num kind v moon warm held : Int) : Int := if gm_gF M 3 c = 0 then 10 else gm_run1 (gm_gA M (c + 1)) (gm_gA M (c + 2)) (gm_ff num kind v moon warm held) (gm_gF M 2 c) 100 0 0 0
/-- a day by numbers: sun and cold by number, kind, v, moon, heat, content -/
def gm_DS (num kind v room leak low high : Int) (row : Int → Int) (sun cold : Int → Int → Int → Int → Int → Int → Int) (day dust : Int) (q : Int × Int) : Int × Int :=
  gm_stl high low room (max 0 (min 199 (q.1 + gm_gain kind v (row (day % 28 % 4)) (max 0 ((if day % 28 < 14 then sun num kind v (day % 28) q.1 q.2 else 0) - dust)) (if day % 28 < 14 then 0 else cold num kind v (day % 28) q.1 q.2)))) (max 0 (q.2 - leak))
/-- the class's house o on its ground g -/
def gm_SC (M : gm_M) (g o : Int) : Int → Int → Int × Int → Int × Int :=
  gm_DS (gm_gF M 200 o) (gm_gF M 201 o) (gm_gF M 202 o) (gm_gF M 501 (o + 1)) (gm_gF M 502 (o + 1)) (gm_gF M 102 g) (gm_gF M 103 g) (gm_gA M (o + 2)) (gm_tf M (g + 1)) (gm_tf M (g + 4))
theorem gm_tot_tf (M : gm_M) (c o moon held : Int) : gm_tot M c o moon held = gm_tf M c (gm_gF M 200 o) (gm_gF M 201 o) (gm_gF M 202 o) moon (gm_gF M 203 o) held := rfl
theorem gm_gnC_f (M : gm_M) (g o moon held dust : Int) : gm_gnC M g o moon held dust = gm_gain (gm_gF M 201 o) (gm_gF M 202 o) (gm_gA M (o + 2) (moon % 4)) (max 0 ((if moon < 14 then gm_tf M (g + 1) (gm_gF M 200 o) (gm_gF M 201 o) (gm_gF M 202 o) moon (gm_gF M 203 o) held else 0) - dust)) (if moon < 14 then 0 else gm_tf M (g + 4) (gm_gF M 200 o) (gm_gF M 201 o) (gm_gF M 202 o) moon (gm_gF M 203 o) held) := rfl
theorem gm_dp_SC (M : gm_M) (g o day dust : Int) (q : Int × Int) : gm_dp M g o day dust q = gm_SC M g o day dust q := by
  unfold gm_dp gm_dst gm_SC gm_DS
  rw [gm_gnC_f]
  have e1 : gm_gF (gm_hs M o (o + 1) q.1 q.2) 203 o = q.1 := by rw [gm_hs_F, if_neg (by simp), if_pos ⟨rfl, rfl⟩]
  have e2 : gm_gF (gm_hs M o (o + 1) q.1 q.2) 500 (o + 1) = q.2 := by rw [gm_hs_F, if_pos ⟨rfl, rfl⟩]
  rw [e1, e2]
  rfl
theorem gm_SC_ok {M : gm_M} {g o : Int} (hgw : gm_gwf M g) (how : gm_owf M o) (day dust : Int) {q : Int × Int} (hq : gm_pok q) : gm_pok (gm_SC M g o day dust q) := by
  rw [← gm_dp_SC]
  exact gm_dp_ok hgw how day dust hq
theorem gm_DS_row {num kind v room leak low high : Int} {row row' : Int → Int} {sun cold : Int → Int → Int → Int → Int → Int → Int} (h : ∀ i, 0 ≤ i → i < 4 → row i = row' i) (day dust : Int) (q : Int × Int) : gm_DS num kind v room leak low high row sun cold day dust q = gm_DS num kind v room leak low high row' sun cold day dust q := by
  unfold gm_DS
  rw [h (day % 28 % 4) (by omega) (by omega)]
/-- nothing but what is tried on has changed -/
def gm_Ec (M M1 : gm_M) : Prop := gm_Lay M1 ∧ (∀ (f : Nat) (o : Int), ¬ (50 ≤ o ∧ o ≤ 80) → gm_gF M1 f o = gm_gF M f o) ∧ ∀ a i : Int, ¬ (50 ≤ a ∧ a ≤ 80) → gm_gA M1 a i = gm_gA M a i
theorem gm_Ec.rf {M : gm_M} (h : gm_Lay M) : gm_Ec M M := ⟨h, fun _ _ _ => rfl, fun _ _ _ => rfl⟩
theorem gm_Ec.tr {M M1 M2 : gm_M} (h : gm_Ec M M1) (h2 : gm_Ec M1 M2) : gm_Ec M M2 := ⟨h2.1, fun f o ho => (h2.2.1 f o ho).trans (h.2.1 f o ho), fun a i ha => (h2.2.2 a i ha).trans (h.2.2 a i ha)⟩
theorem gm_Ec.sF {M M1 : gm_M} (h : gm_Ec M M1) (f : Nat) (o v : Int) (hf : f ∉ gm_rfs) (ho : 50 ≤ o ∧ o ≤ 80) : gm_Ec M (gm_sF M1 f o v) := ⟨h.1.sF f o v hf, fun f' o' ho' => by
  rw [gm_gF_sF, if_neg (by rintro ⟨-, rfl⟩; exact ho' ho)]
  exact h.2.1 f' o' ho', fun a i ha => h.2.2 a i ha⟩
theorem gm_Ec.cp {M M1 : gm_M} (h : gm_Ec M M1) (a0 sp a dp n : Int) (ha : a ∉ ([3, 27, 51, 90, 93] : List Int)) (hr : 50 ≤ a ∧ a ≤ 80) : gm_Ec M (gm_cp M1 a0 sp a dp n) := ⟨h.1.cp a0 sp a dp n ha, fun f' o' ho' => h.2.1 f' o' ho', fun a' i ha' => by
  rw [gm_gA_cp, if_neg (by rintro ⟨rfl, -⟩; exact ha' hr)]
  exact h.2.2 a' i ha'⟩
theorem gm_Ec.hs {M M1 : gm_M} (h : gm_Ec M M1) (o st w hh : Int) (ho : 50 ≤ o ∧ o ≤ 80) (hst : 50 ≤ st ∧ st ≤ 80) : gm_Ec M (gm_hs M1 o st w hh) := (h.sF 203 o w (by decide) ho).sF 500 st hh (by decide) hst
theorem gm_Ec.bec {M M1 : gm_M} (h : gm_Ec M M1) (o q : Int) (h1 : o = 74 ∨ o = 77) : gm_Ec M (gm_bec M1 o q) := by
  unfold gm_bec
  refine gm_Ec.cp ?_ _ _ _ _ _ (by rcases h1 with rfl | rfl <;> decide) (by omega)
  refine gm_Ec.sF ?_ _ _ _ (by decide) (by omega)
  refine gm_Ec.sF ?_ _ _ _ (by decide) (by omega)
  refine gm_Ec.sF ?_ _ _ _ (by decide) (by omega)
  refine gm_Ec.sF ?_ _ _ _ (by decide) (by omega)
  refine gm_Ec.sF ?_ _ _ _ (by decide) (by omega)
  refine gm_Ec.sF ?_ _ _ _ (by decide) (by omega)
  refine gm_Ec.sF ?_ _ _ _ (by decide) (by omega)
  exact gm_Ec.sF h _ _ _ (by decide) (by omega)
/-- what the house o is once it has become q -/
theorem gm_bec_F (M : gm_M) (o q : Int) : (gm_gF (gm_bec M o q) 200 o = gm_gF M 200 q ∧ gm_gF (gm_bec M o q) 201 o = gm_gF M 201 q ∧ gm_gF (gm_bec M o q) 202 o = gm_gF M 202 q ∧ gm_gF (gm_bec M o q) 203 o = gm_gF M 203 q ∧ gm_gF (gm_bec M o q) 204 o = gm_gF M 204 q) ∧
    gm_gF (gm_bec M o q) 500 (o + 1) = gm_gF M 500 (q + 1) ∧ gm_gF (gm_bec M o q) 501 (o + 1) = gm_gF M 501 (q + 1) ∧ gm_gF (gm_bec M o q) 502 (o + 1) = gm_gF M 502 (q + 1) ∧ ∀ i, 0 ≤ i → i < 4 → gm_gA (gm_bec M o q) (o + 2) i = gm_gA M (q + 2) i := by
  unfold gm_bec
  simp only [gm_gF_cp, gm_gF_sF, gm_gA_cp, gm_gA_sF, Nat.reduceEqDiff, false_and, true_and, and_self, ↓reduceIte]
  intro i h1 h2
  rw [if_pos ⟨h1, by omega⟩]
  congr 1
  omega
theorem gm_bec_owf {M : gm_M} {o q : Int} (h : gm_owf M q) : gm_owf (gm_bec M o q) o := by
  obtain ⟨⟨e1, e2, e3, e4, e5⟩, e6, e7, e8, e9⟩ := gm_bec_F M o q
  obtain ⟨h1, h2, h3, h4, h5, h6, h7, h8⟩ := h
  refine ⟨by rw [e1]; exact h1, by rw [e2]; exact h2, by rw [e3]; exact h3, by rw [e4]; exact h4, by rw [e6]; exact h5, by rw [e7]; exact h6, by rw [e8]; exact h7, fun i i1 i2 => by rw [e9 i i1 i2]; exact h8 i i1 i2⟩
/-- a ground lies apart from what is tried on -/
theorem gm_Ec.tf {M M1 : gm_M} (h : gm_Ec M M1) {c : Int} (hc : 80 < c) : gm_tf M1 c = gm_tf M c := by
  funext num kind v moon warm held
  unfold gm_tf
  have e1 : gm_gA M1 (c + 1) = gm_gA M (c + 1) := by funext i; exact h.2.2 _ _ (by omega)
  have e2 : gm_gA M1 (c + 2) = gm_gA M (c + 2) := by funext i; exact h.2.2 _ _ (by omega)
  rw [h.2.1 3 c (by omega), h.2.1 2 c (by omega), e1, e2]
theorem gm_Ec.gwf {M M1 : gm_M} (h : gm_Ec M M1) {g : Int} (hg : 80 < g) (hw : gm_gwf M g) : gm_gwf M1 g := by
  have key : ∀ c, 80 < c → gm_cwf M c → gm_cwf M1 c := by
    intro c hc hcw
    unfold gm_cwf at *
    rw [h.2.1 2 c (by omega), h.2.1 3 c (by omega)]
    refine ⟨hcw.1, hcw.2.1, hcw.2.2.1, fun i h1 h2 => ?_⟩
    rw [h.2.2 (c + 1) i (by omega), h.2.2 (c + 2) i (by omega)]
    exact hcw.2.2.2 i h1 h2
  refine ⟨key _ (by omega) hw.1, key _ (by omega) hw.2.1, ?_⟩
  rw [h.2.1 102 g (by omega), h.2.1 103 g (by omega)]
  exact hw.2.2
theorem gm_Ec.owf {M M1 : gm_M} (h : gm_Ec M M1) {o : Int} (ho : o < 48 ∧ 0 < o) (hw : gm_owf M o) : gm_owf M1 o := by
  unfold gm_owf at *
  rw [h.2.1 200 o (by omega), h.2.1 201 o (by omega), h.2.1 202 o (by omega), h.2.1 203 o (by omega), h.2.1 500 (o + 1) (by omega), h.2.1 501 (o + 1) (by omega), h.2.1 502 (o + 1) (by omega)]
  refine ⟨hw.1, hw.2.1, hw.2.2.1, hw.2.2.2.1, hw.2.2.2.2.1, hw.2.2.2.2.2.1, hw.2.2.2.2.2.2.1, fun i h1 h2 => ?_⟩
  rw [h.2.2 (o + 2) i (by omega)]
  exact hw.2.2.2.2.2.2.2 i h1 h2
/-- the house that is tried on is, as a house, the one that it became -/
theorem gm_SC_bec {M M1 : gm_M} (h : gm_Ec M M1) {o q g : Int} (ho : o = 74 ∨ o = 77) (hq : 0 < q ∧ q < 48) (hg : 80 < g) (day dust : Int) (x : Int × Int) : gm_SC (gm_bec M1 o q) g o day dust x = gm_SC M g q day dust x := by
  obtain ⟨⟨e1, e2, e3, e4, e5⟩, e6, e7, e8, e9⟩ := gm_bec_F M1 o q
  have hb := h.bec o q ho
  unfold gm_SC
  rw [e1, e2, e3, e7, e8, hb.2.1 102 g (by omega), hb.2.1 103 g (by omega), hb.tf (by omega : 80 < g + 1), hb.tf (by omega : 80 < g + 4)]
  rw [h.2.1 200 q (by omega), h.2.1 201 q (by omega), h.2.1 202 q (by omega), h.2.1 501 (q + 1) (by omega), h.2.1 502 (q + 1) (by omega)]
  refine gm_DS_row (fun i h1 h2 => ?_) day dust x
  rw [e9 i h1 h2, h.2.2 (q + 2) i (by omega)]
theorem gm_qq_bec {M M1 : gm_M} (h : gm_Ec M M1) {o q : Int} (hq : 0 < q ∧ q < 48) : gm_qq (gm_bec M1 o q) o = gm_qq M q := by
  obtain ⟨⟨e1, e2, e3, e4, e5⟩, e6, e7, e8, e9⟩ := gm_bec_F M1 o q
  unfold gm_qq
  rw [e4, e6, h.2.1 203 q (by omega), h.2.1 500 (q + 1) (by omega)]
