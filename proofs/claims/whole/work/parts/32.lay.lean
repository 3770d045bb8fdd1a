/-! WHERE THE REFERENCES LEAD, once both constructors are through -/
def gm_layF : List (Nat × Int × Int) := [(800, 1, 2), (801, 1, 26), (803, 1, 50), (804, 1, 74), (805, 1, 77), (806, 1, 80), (807, 1, 81), (808, 1, 83), (809, 1, 90), (811, 1, 91), (812, 1, 93), (700, 2, 3), (704, 2, 4), (705, 2, 5), (706, 2, 6), (708, 2, 7), (205, 8, 9), (206, 8, 10), (205, 11, 12), (206, 11, 13), (205, 14, 15), (206, 14, 16), (205, 17, 18), (206, 17, 19), (205, 20, 21), (206, 20, 22), (205, 23, 24), (206, 23, 25), (700, 26, 27), (704, 26, 28), (705, 26, 29), (706, 26, 30), (708, 26, 31), (205, 32, 33), (206, 32, 34), (205, 35, 36), (206, 35, 37), (205, 38, 39), (206, 38, 40), (205, 41, 42), (206, 41, 43), (205, 44, 45), (206, 44, 46), (205, 47, 48), (206, 47, 49), (700, 50, 51), (704, 50, 52), (705, 50, 53), (706, 50, 54), (708, 50, 55), (205, 56, 57), (206, 56, 58), (205, 59, 60), (206, 59, 61), (205, 62, 63), (206, 62, 64), (205, 65, 66), (206, 65, 67), (205, 68, 69), (206, 68, 70), (205, 71, 72), (206, 71, 73), (205, 74, 75), (206, 74, 76), (205, 77, 78), (206, 77, 79), (400, 81, 82), (100, 83, 84), (101, 83, 87), (0, 84, 85), (1, 84, 86), (0, 87, 88), (1, 87, 89), (300, 91, 92), (100, 94, 95), (101, 94, 98), (0, 95, 96), (1, 95, 97), (0, 98, 99), (1, 98, 100), (100, 101, 102), (101, 101, 105), (0, 102, 103), (1, 102, 104), (0, 105, 106), (1, 105, 107), (100, 108, 109), (101, 108, 112), (0, 109, 110), (1, 109, 111), (0, 112, 113), (1, 112, 114), (100, 115, 116), (101, 115, 119), (0, 116, 117), (1, 116, 118), (0, 119, 120), (1, 119, 121), (100, 122, 123), (101, 122, 126), (0, 123, 124), (1, 123, 125), (0, 126, 127), (1, 126, 128), (100, 129, 130), (101, 129, 133), (0, 130, 131), (1, 130, 132), (0, 133, 134), (1, 133, 135), (602, 136, 137), (602, 138, 139), (602, 140, 141), (602, 142, 143), (602, 144, 145), (602, 146, 147), (902, 148, 149), (903, 148, 150), (904, 148, 151), (905, 148, 152), (906, 148, 153), (907, 148, 154), (908, 148, 155), (914, 148, 156), (915, 148, 157), (916, 148, 158), (917, 148, 159), (918, 148, 160), (919, 148, 161), (920, 148, 162), (921, 148, 163), (925, 148, 164), (926, 148, 165), (931, 148, 166), (932, 148, 167), (934, 148, 168), (936, 148, 169), (937, 148, 170), (938, 148, 171), (940, 148, 172), (947, 148, 173), (948, 148, 174), (949, 148, 175), (950, 148, 176), (951, 148, 177), (952, 148, 178), (953, 148, 179), (954, 148, 180), (955, 148, 181), (956, 148, 182), (957, 148, 183), (959, 148, 184), (960, 148, 185), (961, 148, 186), (962, 148, 187), (963, 148, 188)]
def gm_layA : List (Int × Int × Int) := [(3, 0, 8), (3, 1, 11), (3, 2, 14), (3, 3, 17), (3, 4, 20), (3, 5, 23), (27, 0, 32), (27, 1, 35), (27, 2, 38), (27, 3, 41), (27, 4, 44), (27, 5, 47), (51, 0, 56), (51, 1, 59), (51, 2, 62), (51, 3, 65), (51, 4, 68), (51, 5, 71), (90, 0, 94), (90, 1, 101), (90, 2, 108), (90, 3, 115), (90, 4, 122), (90, 5, 129), (93, 0, 136), (93, 1, 138), (93, 2, 140), (93, 3, 142), (93, 4, 144), (93, 5, 146)]
def gm_rfs : List Nat := [0, 1, 100, 101, 205, 206, 300, 400, 602, 700, 704, 705, 706, 708, 800, 801, 803, 804, 805, 806, 807, 808, 809, 811, 812, 902, 903, 904, 905, 906, 907, 908, 914, 915, 916, 917, 918, 919, 920, 921, 925, 926, 931, 932, 934, 936, 937, 938, 940, 947, 948, 949, 950, 951, 952, 953, 954, 955, 956, 957, 959, 960, 961, 962, 963]
def gm_Lay (M : gm_M) : Prop := M.1 = 188 ∧ (∀ q ∈ gm_layF, gm_gF M q.1 q.2.1 = q.2.2) ∧ ∀ q ∈ gm_layA, gm_gA M q.1 q.2.1 = q.2.2
theorem gm_lay_rf : ∀ q ∈ gm_layF, q.1 ∈ gm_rfs := by decide +kernel
theorem gm_lay_ra : ∀ q ∈ gm_layA, q.1 ∈ ([3, 27, 51, 90, 93] : List Int) := by decide +kernel
theorem gm_Lay.sF {M : gm_M} (h : gm_Lay M) (f : Nat) (o v : Int) (hf : f ∉ gm_rfs) : gm_Lay (gm_sF M f o v) := ⟨h.1, fun q hq => by
  have h1 := gm_lay_rf q hq
  rw [gm_gF_sF, if_neg (by rintro ⟨rfl, -⟩; exact hf h1)]
  exact h.2.1 q hq, fun q hq => h.2.2 q hq⟩
theorem gm_Lay.sA {M : gm_M} (h : gm_Lay M) (a i v : Int) (ha : a ∉ ([3, 27, 51, 90, 93] : List Int)) : gm_Lay (gm_sA M a i v) := ⟨h.1, fun q hq => h.2.1 q hq, fun q hq => by
  have h1 := gm_lay_ra q hq
  rw [gm_gA_sA, if_neg (by rintro ⟨rfl, -⟩; exact ha h1)]
  exact h.2.2 q hq⟩
theorem gm_Lay.cp {M : gm_M} (h : gm_Lay M) (a0 sp a dp n : Int) (ha : a ∉ ([3, 27, 51, 90, 93] : List Int)) : gm_Lay (gm_cp M a0 sp a dp n) := ⟨h.1, fun q hq => h.2.1 q hq, fun q hq => by
  have h1 := gm_lay_ra q hq
  rw [gm_gA_cp, if_neg (by rintro ⟨rfl, -⟩; exact ha h1)]
  exact h.2.2 q hq⟩
theorem gm_isO_sF (M : gm_M) (f : Nat) (o v : Int) (ci : Nat) (q : Int) : gm_isO ci (gm_sF M f o v) q = gm_isO ci M q := rfl
theorem gm_isO_sA (M : gm_M) (a i v : Int) (ci : Nat) (q : Int) : gm_isO ci (gm_sA M a i v) q = gm_isO ci M q := rfl
theorem gm_isO_cp (M : gm_M) (a0 sp a dp n : Int) (ci : Nat) (q : Int) : gm_isO ci (gm_cp M a0 sp a dp n) q = gm_isO ci M q := rfl
theorem gm_len_sF (M : gm_M) (f : Nat) (o v : Int) (q : Int) (hf : f ≠ 9999) : gm_len (gm_sF M f o v) q = gm_len M q := by
  unfold gm_len gm_sF
  simp only
  rw [if_neg (fun z : 9999 = f ∧ _ => hf z.1.symm)]
theorem gm_len_sA (M : gm_M) (a i v : Int) (q : Int) : gm_len (gm_sA M a i v) q = gm_len M q := rfl
theorem gm_len_cp (M : gm_M) (a0 sp a dp n : Int) (q : Int) : gm_len (gm_cp M a0 sp a dp n) q = gm_len M q := rfl
/-- the kind of a cell, once all are made -/
theorem gm_isO_iff {ci : Nat} {M : gm_M} {o : Int} (h : gm_Lay M) : gm_isO ci M o = true ↔ 0 < o ∧ o ≤ 188 ∧ (gm_sh o.toNat).1 = ci := by
  have h1 := h.1
  simp only [gm_isO, Bool.and_eq_true, decide_eq_true_eq, beq_iff_eq, h1]
  omega
theorem gm_isO_k {ci k : Nat} {M : gm_M} (h : gm_Lay M) (hk : (decide (0 < k) && (decide (k ≤ 188) && ((gm_sh k).1 == ci))) = true) : gm_isO ci M (k : Int) = true := by
  simp only [Bool.and_eq_true, decide_eq_true_eq, beq_iff_eq] at hk
  exact (gm_isO_iff h).mpr ⟨by omega, by omega, by rw [Int.toNat_natCast]; exact hk.2.2⟩
theorem gm_of_isO {ci : Nat} {M : gm_M} {o : Int} (h : gm_Lay M) (ho : gm_isO ci M o = true) {Q : Int → Prop} (hq : ∀ k : Nat, k < 188 → (gm_sh (k + 1)).1 = ci → Q ((k + 1 : Nat) : Int)) : Q o := by
  obtain ⟨h1, h2, h3⟩ := (gm_isO_iff h).mp ho
  have e : o = ((o.toNat - 1 + 1 : Nat) : Int) := by omega
  rw [e]
  exact hq (o.toNat - 1) (by omega) (by rw [show o.toNat - 1 + 1 = o.toNat by omega]; exact h3)
theorem gm_l0 {M : gm_M} (h : gm_Lay M) {o : Int} (ho : gm_isO 0 M o = true) : gm_gF M 0 o = o + 1 := gm_of_isO h ho (Q := fun o => gm_gF M 0 o = o + 1) (fun k hk hs => by
  have key : ∀ k : Nat, k < 188 → (gm_sh (k + 1)).1 = 0 → (0, ((k + 1 : Nat) : Int), ((k + 1 : Nat) : Int) + 1) ∈ gm_layF := by decide +kernel
  exact h.2.1 _ (key k hk hs))
theorem gm_k0 {M : gm_M} (h : gm_Lay M) {o : Int} (ho : gm_isO 0 M o = true) : gm_isO 20 M (o + 1) = true := gm_of_isO h ho (Q := fun o => gm_isO 20 M (o + 1) = true) (fun k hk hs => by
  have key : ∀ k : Nat, k < 188 → (gm_sh (k + 1)).1 = 0 → (k + 1 + 1 ≤ 188 ∧ (gm_sh (k + 1 + 1)).1 = 20) := by decide +kernel
  obtain ⟨h1, h2⟩ := key k hk hs
  exact (gm_isO_iff h).mpr ⟨by omega, by omega, by rw [show (((k + 1 : Nat) : Int) + 1).toNat = k + 1 + 1 by omega]; exact h2⟩)
theorem gm_n0 {M : gm_M} (h : gm_Lay M) {o : Int} (ho : gm_isO 0 M o = true) : gm_len M (o + 1) = 100 := gm_of_isO h ho (Q := fun o => gm_len M (o + 1) = 100) (fun k hk hs => by
  have key : ∀ k : Nat, k < 188 → (gm_sh (k + 1)).1 = 0 → k + 1 + 1 ≤ 188 ∧ (gm_sh (k + 1 + 1)).2 = 100 := by decide +kernel
  obtain ⟨h1, h2⟩ := key k hk hs
  rw [show ((k + 1 : Nat) : Int) + 1 = ((k + 1 + 1 : Nat) : Int) by omega, gm_lenD (show k + 1 < gm_NX by show _ < 188; omega), show k + 1 + 1 = k + 1 + 1 by omega, h2]
  rfl)
theorem gm_l1 {M : gm_M} (h : gm_Lay M) {o : Int} (ho : gm_isO 0 M o = true) : gm_gF M 1 o = o + 2 := gm_of_isO h ho (Q := fun o => gm_gF M 1 o = o + 2) (fun k hk hs => by
  have key : ∀ k : Nat, k < 188 → (gm_sh (k + 1)).1 = 0 → (1, ((k + 1 : Nat) : Int), ((k + 1 : Nat) : Int) + 2) ∈ gm_layF := by decide +kernel
  exact h.2.1 _ (key k hk hs))
theorem gm_k1 {M : gm_M} (h : gm_Lay M) {o : Int} (ho : gm_isO 0 M o = true) : gm_isO 20 M (o + 2) = true := gm_of_isO h ho (Q := fun o => gm_isO 20 M (o + 2) = true) (fun k hk hs => by
  have key : ∀ k : Nat, k < 188 → (gm_sh (k + 1)).1 = 0 → (k + 1 + 2 ≤ 188 ∧ (gm_sh (k + 1 + 2)).1 = 20) := by decide +kernel
  obtain ⟨h1, h2⟩ := key k hk hs
  exact (gm_isO_iff h).mpr ⟨by omega, by omega, by rw [show (((k + 1 : Nat) : Int) + 2).toNat = k + 1 + 2 by omega]; exact h2⟩)
theorem gm_n1 {M : gm_M} (h : gm_Lay M) {o : Int} (ho : gm_isO 0 M o = true) : gm_len M (o + 2) = 100 := gm_of_isO h ho (Q := fun o => gm_len M (o + 2) = 100) (fun k hk hs => by
  have key : ∀ k : Nat, k < 188 → (gm_sh (k + 1)).1 = 0 → k + 1 + 2 ≤ 188 ∧ (gm_sh (k + 1 + 2)).2 = 100 := by decide +kernel
  obtain ⟨h1, h2⟩ := key k hk hs
  rw [show ((k + 1 : Nat) : Int) + 2 = ((k + 2 + 1 : Nat) : Int) by omega, gm_lenD (show k + 2 < gm_NX by show _ < 188; omega), show k + 2 + 1 = k + 1 + 2 by omega, h2]
  rfl)
theorem gm_l100 {M : gm_M} (h : gm_Lay M) {o : Int} (ho : gm_isO 1 M o = true) : gm_gF M 100 o = o + 1 := gm_of_isO h ho (Q := fun o => gm_gF M 100 o = o + 1) (fun k hk hs => by
  have key : ∀ k : Nat, k < 188 → (gm_sh (k + 1)).1 = 1 → (100, ((k + 1 : Nat) : Int), ((k + 1 : Nat) : Int) + 1) ∈ gm_layF := by decide +kernel
  exact h.2.1 _ (key k hk hs))
theorem gm_k100 {M : gm_M} (h : gm_Lay M) {o : Int} (ho : gm_isO 1 M o = true) : gm_isO 0 M (o + 1) = true := gm_of_isO h ho (Q := fun o => gm_isO 0 M (o + 1) = true) (fun k hk hs => by
  have key : ∀ k : Nat, k < 188 → (gm_sh (k + 1)).1 = 1 → (k + 1 + 1 ≤ 188 ∧ (gm_sh (k + 1 + 1)).1 = 0) := by decide +kernel
  obtain ⟨h1, h2⟩ := key k hk hs
  exact (gm_isO_iff h).mpr ⟨by omega, by omega, by rw [show (((k + 1 : Nat) : Int) + 1).toNat = k + 1 + 1 by omega]; exact h2⟩)
theorem gm_l101 {M : gm_M} (h : gm_Lay M) {o : Int} (ho : gm_isO 1 M o = true) : gm_gF M 101 o = o + 4 := gm_of_isO h ho (Q := fun o => gm_gF M 101 o = o + 4) (fun k hk hs => by
  have key : ∀ k : Nat, k < 188 → (gm_sh (k + 1)).1 = 1 → (101, ((k + 1 : Nat) : Int), ((k + 1 : Nat) : Int) + 4) ∈ gm_layF := by decide +kernel
  exact h.2.1 _ (key k hk hs))
theorem gm_k101 {M : gm_M} (h : gm_Lay M) {o : Int} (ho : gm_isO 1 M o = true) : gm_isO 0 M (o + 4) = true := gm_of_isO h ho (Q := fun o => gm_isO 0 M (o + 4) = true) (fun k hk hs => by
  have key : ∀ k : Nat, k < 188 → (gm_sh (k + 1)).1 = 1 → (k + 1 + 4 ≤ 188 ∧ (gm_sh (k + 1 + 4)).1 = 0) := by decide +kernel
  obtain ⟨h1, h2⟩ := key k hk hs
  exact (gm_isO_iff h).mpr ⟨by omega, by omega, by rw [show (((k + 1 : Nat) : Int) + 4).toNat = k + 1 + 4 by omega]; exact h2⟩)
theorem gm_l205 {M : gm_M} (h : gm_Lay M) {o : Int} (ho : gm_isO 2 M o = true) : gm_gF M 205 o = o + 1 := gm_of_isO h ho (Q := fun o => gm_gF M 205 o = o + 1) (fun k hk hs => by
  have key : ∀ k : Nat, k < 188 → (gm_sh (k + 1)).1 = 2 → (205, ((k + 1 : Nat) : Int), ((k + 1 : Nat) : Int) + 1) ∈ gm_layF := by decide +kernel
  exact h.2.1 _ (key k hk hs))
theorem gm_k205 {M : gm_M} (h : gm_Lay M) {o : Int} (ho : gm_isO 2 M o = true) : gm_isO 5 M (o + 1) = true := gm_of_isO h ho (Q := fun o => gm_isO 5 M (o + 1) = true) (fun k hk hs => by
  have key : ∀ k : Nat, k < 188 → (gm_sh (k + 1)).1 = 2 → (k + 1 + 1 ≤ 188 ∧ (gm_sh (k + 1 + 1)).1 = 5) := by decide +kernel
  obtain ⟨h1, h2⟩ := key k hk hs
  exact (gm_isO_iff h).mpr ⟨by omega, by omega, by rw [show (((k + 1 : Nat) : Int) + 1).toNat = k + 1 + 1 by omega]; exact h2⟩)
theorem gm_l206 {M : gm_M} (h : gm_Lay M) {o : Int} (ho : gm_isO 2 M o = true) : gm_gF M 206 o = o + 2 := gm_of_isO h ho (Q := fun o => gm_gF M 206 o = o + 2) (fun k hk hs => by
  have key : ∀ k : Nat, k < 188 → (gm_sh (k + 1)).1 = 2 → (206, ((k + 1 : Nat) : Int), ((k + 1 : Nat) : Int) + 2) ∈ gm_layF := by decide +kernel
  exact h.2.1 _ (key k hk hs))
theorem gm_k206 {M : gm_M} (h : gm_Lay M) {o : Int} (ho : gm_isO 2 M o = true) : gm_isO 20 M (o + 2) = true := gm_of_isO h ho (Q := fun o => gm_isO 20 M (o + 2) = true) (fun k hk hs => by
  have key : ∀ k : Nat, k < 188 → (gm_sh (k + 1)).1 = 2 → (k + 1 + 2 ≤ 188 ∧ (gm_sh (k + 1 + 2)).1 = 20) := by decide +kernel
  obtain ⟨h1, h2⟩ := key k hk hs
  exact (gm_isO_iff h).mpr ⟨by omega, by omega, by rw [show (((k + 1 : Nat) : Int) + 2).toNat = k + 1 + 2 by omega]; exact h2⟩)
theorem gm_n206 {M : gm_M} (h : gm_Lay M) {o : Int} (ho : gm_isO 2 M o = true) : gm_len M (o + 2) = 4 := gm_of_isO h ho (Q := fun o => gm_len M (o + 2) = 4) (fun k hk hs => by
  have key : ∀ k : Nat, k < 188 → (gm_sh (k + 1)).1 = 2 → k + 1 + 2 ≤ 188 ∧ (gm_sh (k + 1 + 2)).2 = 4 := by decide +kernel
  obtain ⟨h1, h2⟩ := key k hk hs
  rw [show ((k + 1 : Nat) : Int) + 2 = ((k + 2 + 1 : Nat) : Int) by omega, gm_lenD (show k + 2 < gm_NX by show _ < 188; omega), show k + 2 + 1 = k + 1 + 2 by omega, h2]
  rfl)
theorem gm_l300 {M : gm_M} (h : gm_Lay M) : gm_gF M 300 91 = 92 := h.2.1 (300, 91, 92) (by decide +kernel)
theorem gm_l400 {M : gm_M} (h : gm_Lay M) : gm_gF M 400 81 = 82 := h.2.1 (400, 81, 82) (by decide +kernel)
theorem gm_l602 {M : gm_M} (h : gm_Lay M) {o : Int} (ho : gm_isO 6 M o = true) : gm_gF M 602 o = o + 1 := gm_of_isO h ho (Q := fun o => gm_gF M 602 o = o + 1) (fun k hk hs => by
  have key : ∀ k : Nat, k < 188 → (gm_sh (k + 1)).1 = 6 → (602, ((k + 1 : Nat) : Int), ((k + 1 : Nat) : Int) + 1) ∈ gm_layF := by decide +kernel
  exact h.2.1 _ (key k hk hs))
theorem gm_k602 {M : gm_M} (h : gm_Lay M) {o : Int} (ho : gm_isO 6 M o = true) : gm_isO 21 M (o + 1) = true := gm_of_isO h ho (Q := fun o => gm_isO 21 M (o + 1) = true) (fun k hk hs => by
  have key : ∀ k : Nat, k < 188 → (gm_sh (k + 1)).1 = 6 → (k + 1 + 1 ≤ 188 ∧ (gm_sh (k + 1 + 1)).1 = 21) := by decide +kernel
  obtain ⟨h1, h2⟩ := key k hk hs
  exact (gm_isO_iff h).mpr ⟨by omega, by omega, by rw [show (((k + 1 : Nat) : Int) + 1).toNat = k + 1 + 1 by omega]; exact h2⟩)
theorem gm_n602 {M : gm_M} (h : gm_Lay M) {o : Int} (ho : gm_isO 6 M o = true) : gm_len M (o + 1) = 60 := gm_of_isO h ho (Q := fun o => gm_len M (o + 1) = 60) (fun k hk hs => by
  have key : ∀ k : Nat, k < 188 → (gm_sh (k + 1)).1 = 6 → k + 1 + 1 ≤ 188 ∧ (gm_sh (k + 1 + 1)).2 = 60 := by decide +kernel
  obtain ⟨h1, h2⟩ := key k hk hs
  rw [show ((k + 1 : Nat) : Int) + 1 = ((k + 1 + 1 : Nat) : Int) by omega, gm_lenD (show k + 1 < gm_NX by show _ < 188; omega), show k + 1 + 1 = k + 1 + 1 by omega, h2]
  rfl)
theorem gm_l700 {M : gm_M} (h : gm_Lay M) {o : Int} (ho : gm_isO 7 M o = true) : gm_gF M 700 o = o + 1 := gm_of_isO h ho (Q := fun o => gm_gF M 700 o = o + 1) (fun k hk hs => by
  have key : ∀ k : Nat, k < 188 → (gm_sh (k + 1)).1 = 7 → (700, ((k + 1 : Nat) : Int), ((k + 1 : Nat) : Int) + 1) ∈ gm_layF := by decide +kernel
  exact h.2.1 _ (key k hk hs))
theorem gm_k700 {M : gm_M} (h : gm_Lay M) {o : Int} (ho : gm_isO 7 M o = true) : gm_isO 24 M (o + 1) = true := gm_of_isO h ho (Q := fun o => gm_isO 24 M (o + 1) = true) (fun k hk hs => by
  have key : ∀ k : Nat, k < 188 → (gm_sh (k + 1)).1 = 7 → (k + 1 + 1 ≤ 188 ∧ (gm_sh (k + 1 + 1)).1 = 24) := by decide +kernel
  obtain ⟨h1, h2⟩ := key k hk hs
  exact (gm_isO_iff h).mpr ⟨by omega, by omega, by rw [show (((k + 1 : Nat) : Int) + 1).toNat = k + 1 + 1 by omega]; exact h2⟩)
theorem gm_n700 {M : gm_M} (h : gm_Lay M) {o : Int} (ho : gm_isO 7 M o = true) : gm_len M (o + 1) = 6 := gm_of_isO h ho (Q := fun o => gm_len M (o + 1) = 6) (fun k hk hs => by
  have key : ∀ k : Nat, k < 188 → (gm_sh (k + 1)).1 = 7 → k + 1 + 1 ≤ 188 ∧ (gm_sh (k + 1 + 1)).2 = 6 := by decide +kernel
  obtain ⟨h1, h2⟩ := key k hk hs
  rw [show ((k + 1 : Nat) : Int) + 1 = ((k + 1 + 1 : Nat) : Int) by omega, gm_lenD (show k + 1 < gm_NX by show _ < 188; omega), show k + 1 + 1 = k + 1 + 1 by omega, h2]
  rfl)
theorem gm_l704 {M : gm_M} (h : gm_Lay M) {o : Int} (ho : gm_isO 7 M o = true) : gm_gF M 704 o = o + 2 := gm_of_isO h ho (Q := fun o => gm_gF M 704 o = o + 2) (fun k hk hs => by
  have key : ∀ k : Nat, k < 188 → (gm_sh (k + 1)).1 = 7 → (704, ((k + 1 : Nat) : Int), ((k + 1 : Nat) : Int) + 2) ∈ gm_layF := by decide +kernel
  exact h.2.1 _ (key k hk hs))
theorem gm_k704 {M : gm_M} (h : gm_Lay M) {o : Int} (ho : gm_isO 7 M o = true) : gm_isO 20 M (o + 2) = true := gm_of_isO h ho (Q := fun o => gm_isO 20 M (o + 2) = true) (fun k hk hs => by
  have key : ∀ k : Nat, k < 188 → (gm_sh (k + 1)).1 = 7 → (k + 1 + 2 ≤ 188 ∧ (gm_sh (k + 1 + 2)).1 = 20) := by decide +kernel
  obtain ⟨h1, h2⟩ := key k hk hs
  exact (gm_isO_iff h).mpr ⟨by omega, by omega, by rw [show (((k + 1 : Nat) : Int) + 2).toNat = k + 1 + 2 by omega]; exact h2⟩)
theorem gm_n704 {M : gm_M} (h : gm_Lay M) {o : Int} (ho : gm_isO 7 M o = true) : gm_len M (o + 2) = 8 := gm_of_isO h ho (Q := fun o => gm_len M (o + 2) = 8) (fun k hk hs => by
  have key : ∀ k : Nat, k < 188 → (gm_sh (k + 1)).1 = 7 → k + 1 + 2 ≤ 188 ∧ (gm_sh (k + 1 + 2)).2 = 8 := by decide +kernel
  obtain ⟨h1, h2⟩ := key k hk hs
  rw [show ((k + 1 : Nat) : Int) + 2 = ((k + 2 + 1 : Nat) : Int) by omega, gm_lenD (show k + 2 < gm_NX by show _ < 188; omega), show k + 2 + 1 = k + 1 + 2 by omega, h2]
  rfl)
theorem gm_l705 {M : gm_M} (h : gm_Lay M) {o : Int} (ho : gm_isO 7 M o = true) : gm_gF M 705 o = o + 3 := gm_of_isO h ho (Q := fun o => gm_gF M 705 o = o + 3) (fun k hk hs => by
  have key : ∀ k : Nat, k < 188 → (gm_sh (k + 1)).1 = 7 → (705, ((k + 1 : Nat) : Int), ((k + 1 : Nat) : Int) + 3) ∈ gm_layF := by decide +kernel
  exact h.2.1 _ (key k hk hs))
theorem gm_k705 {M : gm_M} (h : gm_Lay M) {o : Int} (ho : gm_isO 7 M o = true) : gm_isO 20 M (o + 3) = true := gm_of_isO h ho (Q := fun o => gm_isO 20 M (o + 3) = true) (fun k hk hs => by
  have key : ∀ k : Nat, k < 188 → (gm_sh (k + 1)).1 = 7 → (k + 1 + 3 ≤ 188 ∧ (gm_sh (k + 1 + 3)).1 = 20) := by decide +kernel
  obtain ⟨h1, h2⟩ := key k hk hs
  exact (gm_isO_iff h).mpr ⟨by omega, by omega, by rw [show (((k + 1 : Nat) : Int) + 3).toNat = k + 1 + 3 by omega]; exact h2⟩)
theorem gm_n705 {M : gm_M} (h : gm_Lay M) {o : Int} (ho : gm_isO 7 M o = true) : gm_len M (o + 3) = 8 := gm_of_isO h ho (Q := fun o => gm_len M (o + 3) = 8) (fun k hk hs => by
  have key : ∀ k : Nat, k < 188 → (gm_sh (k + 1)).1 = 7 → k + 1 + 3 ≤ 188 ∧ (gm_sh (k + 1 + 3)).2 = 8 := by decide +kernel
  obtain ⟨h1, h2⟩ := key k hk hs
  rw [show ((k + 1 : Nat) : Int) + 3 = ((k + 3 + 1 : Nat) : Int) by omega, gm_lenD (show k + 3 < gm_NX by show _ < 188; omega), show k + 3 + 1 = k + 1 + 3 by omega, h2]
  rfl)
theorem gm_l706 {M : gm_M} (h : gm_Lay M) {o : Int} (ho : gm_isO 7 M o = true) : gm_gF M 706 o = o + 4 := gm_of_isO h ho (Q := fun o => gm_gF M 706 o = o + 4) (fun k hk hs => by
  have key : ∀ k : Nat, k < 188 → (gm_sh (k + 1)).1 = 7 → (706, ((k + 1 : Nat) : Int), ((k + 1 : Nat) : Int) + 4) ∈ gm_layF := by decide +kernel
  exact h.2.1 _ (key k hk hs))
theorem gm_k706 {M : gm_M} (h : gm_Lay M) {o : Int} (ho : gm_isO 7 M o = true) : gm_isO 20 M (o + 4) = true := gm_of_isO h ho (Q := fun o => gm_isO 20 M (o + 4) = true) (fun k hk hs => by
  have key : ∀ k : Nat, k < 188 → (gm_sh (k + 1)).1 = 7 → (k + 1 + 4 ≤ 188 ∧ (gm_sh (k + 1 + 4)).1 = 20) := by decide +kernel
  obtain ⟨h1, h2⟩ := key k hk hs
  exact (gm_isO_iff h).mpr ⟨by omega, by omega, by rw [show (((k + 1 : Nat) : Int) + 4).toNat = k + 1 + 4 by omega]; exact h2⟩)
theorem gm_n706 {M : gm_M} (h : gm_Lay M) {o : Int} (ho : gm_isO 7 M o = true) : gm_len M (o + 4) = 8 := gm_of_isO h ho (Q := fun o => gm_len M (o + 4) = 8) (fun k hk hs => by
  have key : ∀ k : Nat, k < 188 → (gm_sh (k + 1)).1 = 7 → k + 1 + 4 ≤ 188 ∧ (gm_sh (k + 1 + 4)).2 = 8 := by decide +kernel
  obtain ⟨h1, h2⟩ := key k hk hs
  rw [show ((k + 1 : Nat) : Int) + 4 = ((k + 4 + 1 : Nat) : Int) by omega, gm_lenD (show k + 4 < gm_NX by show _ < 188; omega), show k + 4 + 1 = k + 1 + 4 by omega, h2]
  rfl)
theorem gm_l708 {M : gm_M} (h : gm_Lay M) {o : Int} (ho : gm_isO 7 M o = true) : gm_gF M 708 o = o + 5 := gm_of_isO h ho (Q := fun o => gm_gF M 708 o = o + 5) (fun k hk hs => by
  have key : ∀ k : Nat, k < 188 → (gm_sh (k + 1)).1 = 7 → (708, ((k + 1 : Nat) : Int), ((k + 1 : Nat) : Int) + 5) ∈ gm_layF := by decide +kernel
  exact h.2.1 _ (key k hk hs))
theorem gm_k708 {M : gm_M} (h : gm_Lay M) {o : Int} (ho : gm_isO 7 M o = true) : gm_isO 20 M (o + 5) = true := gm_of_isO h ho (Q := fun o => gm_isO 20 M (o + 5) = true) (fun k hk hs => by
  have key : ∀ k : Nat, k < 188 → (gm_sh (k + 1)).1 = 7 → (k + 1 + 5 ≤ 188 ∧ (gm_sh (k + 1 + 5)).1 = 20) := by decide +kernel
  obtain ⟨h1, h2⟩ := key k hk hs
  exact (gm_isO_iff h).mpr ⟨by omega, by omega, by rw [show (((k + 1 : Nat) : Int) + 5).toNat = k + 1 + 5 by omega]; exact h2⟩)
theorem gm_n708 {M : gm_M} (h : gm_Lay M) {o : Int} (ho : gm_isO 7 M o = true) : gm_len M (o + 5) = 12 := gm_of_isO h ho (Q := fun o => gm_len M (o + 5) = 12) (fun k hk hs => by
  have key : ∀ k : Nat, k < 188 → (gm_sh (k + 1)).1 = 7 → k + 1 + 5 ≤ 188 ∧ (gm_sh (k + 1 + 5)).2 = 12 := by decide +kernel
  obtain ⟨h1, h2⟩ := key k hk hs
  rw [show ((k + 1 : Nat) : Int) + 5 = ((k + 5 + 1 : Nat) : Int) by omega, gm_lenD (show k + 5 < gm_NX by show _ < 188; omega), show k + 5 + 1 = k + 1 + 5 by omega, h2]
  rfl)
theorem gm_l800 {M : gm_M} (h : gm_Lay M) : gm_gF M 800 1 = 2 := h.2.1 (800, 1, 2) (by decide +kernel)
theorem gm_l801 {M : gm_M} (h : gm_Lay M) : gm_gF M 801 1 = 26 := h.2.1 (801, 1, 26) (by decide +kernel)
theorem gm_l803 {M : gm_M} (h : gm_Lay M) : gm_gF M 803 1 = 50 := h.2.1 (803, 1, 50) (by decide +kernel)
theorem gm_l804 {M : gm_M} (h : gm_Lay M) : gm_gF M 804 1 = 74 := h.2.1 (804, 1, 74) (by decide +kernel)
theorem gm_l805 {M : gm_M} (h : gm_Lay M) : gm_gF M 805 1 = 77 := h.2.1 (805, 1, 77) (by decide +kernel)
theorem gm_l806 {M : gm_M} (h : gm_Lay M) : gm_gF M 806 1 = 80 := h.2.1 (806, 1, 80) (by decide +kernel)
theorem gm_l807 {M : gm_M} (h : gm_Lay M) : gm_gF M 807 1 = 81 := h.2.1 (807, 1, 81) (by decide +kernel)
theorem gm_l808 {M : gm_M} (h : gm_Lay M) : gm_gF M 808 1 = 83 := h.2.1 (808, 1, 83) (by decide +kernel)
theorem gm_l809 {M : gm_M} (h : gm_Lay M) : gm_gF M 809 1 = 90 := h.2.1 (809, 1, 90) (by decide +kernel)
theorem gm_l811 {M : gm_M} (h : gm_Lay M) : gm_gF M 811 1 = 91 := h.2.1 (811, 1, 91) (by decide +kernel)
theorem gm_l812 {M : gm_M} (h : gm_Lay M) : gm_gF M 812 1 = 93 := h.2.1 (812, 1, 93) (by decide +kernel)
theorem gm_l902 {M : gm_M} (h : gm_Lay M) : gm_gF M 902 148 = 149 := h.2.1 (902, 148, 149) (by decide +kernel)
theorem gm_l903 {M : gm_M} (h : gm_Lay M) : gm_gF M 903 148 = 150 := h.2.1 (903, 148, 150) (by decide +kernel)
theorem gm_l904 {M : gm_M} (h : gm_Lay M) : gm_gF M 904 148 = 151 := h.2.1 (904, 148, 151) (by decide +kernel)
theorem gm_l905 {M : gm_M} (h : gm_Lay M) : gm_gF M 905 148 = 152 := h.2.1 (905, 148, 152) (by decide +kernel)
theorem gm_l906 {M : gm_M} (h : gm_Lay M) : gm_gF M 906 148 = 153 := h.2.1 (906, 148, 153) (by decide +kernel)
theorem gm_l907 {M : gm_M} (h : gm_Lay M) : gm_gF M 907 148 = 154 := h.2.1 (907, 148, 154) (by decide +kernel)
theorem gm_l908 {M : gm_M} (h : gm_Lay M) : gm_gF M 908 148 = 155 := h.2.1 (908, 148, 155) (by decide +kernel)
theorem gm_l914 {M : gm_M} (h : gm_Lay M) : gm_gF M 914 148 = 156 := h.2.1 (914, 148, 156) (by decide +kernel)
theorem gm_l915 {M : gm_M} (h : gm_Lay M) : gm_gF M 915 148 = 157 := h.2.1 (915, 148, 157) (by decide +kernel)
theorem gm_l916 {M : gm_M} (h : gm_Lay M) : gm_gF M 916 148 = 158 := h.2.1 (916, 148, 158) (by decide +kernel)
theorem gm_l917 {M : gm_M} (h : gm_Lay M) : gm_gF M 917 148 = 159 := h.2.1 (917, 148, 159) (by decide +kernel)
theorem gm_l918 {M : gm_M} (h : gm_Lay M) : gm_gF M 918 148 = 160 := h.2.1 (918, 148, 160) (by decide +kernel)
theorem gm_l919 {M : gm_M} (h : gm_Lay M) : gm_gF M 919 148 = 161 := h.2.1 (919, 148, 161) (by decide +kernel)
theorem gm_l920 {M : gm_M} (h : gm_Lay M) : gm_gF M 920 148 = 162 := h.2.1 (920, 148, 162) (by decide +kernel)
theorem gm_l921 {M : gm_M} (h : gm_Lay M) : gm_gF M 921 148 = 163 := h.2.1 (921, 148, 163) (by decide +kernel)
theorem gm_l925 {M : gm_M} (h : gm_Lay M) : gm_gF M 925 148 = 164 := h.2.1 (925, 148, 164) (by decide +kernel)
theorem gm_l926 {M : gm_M} (h : gm_Lay M) : gm_gF M 926 148 = 165 := h.2.1 (926, 148, 165) (by decide +kernel)
theorem gm_l931 {M : gm_M} (h : gm_Lay M) : gm_gF M 931 148 = 166 := h.2.1 (931, 148, 166) (by decide +kernel)
theorem gm_l932 {M : gm_M} (h : gm_Lay M) : gm_gF M 932 148 = 167 := h.2.1 (932, 148, 167) (by decide +kernel)
theorem gm_l934 {M : gm_M} (h : gm_Lay M) : gm_gF M 934 148 = 168 := h.2.1 (934, 148, 168) (by decide +kernel)
theorem gm_l936 {M : gm_M} (h : gm_Lay M) : gm_gF M 936 148 = 169 := h.2.1 (936, 148, 169) (by decide +kernel)
theorem gm_l937 {M : gm_M} (h : gm_Lay M) : gm_gF M 937 148 = 170 := h.2.1 (937, 148, 170) (by decide +kernel)
theorem gm_l938 {M : gm_M} (h : gm_Lay M) : gm_gF M 938 148 = 171 := h.2.1 (938, 148, 171) (by decide +kernel)
theorem gm_l940 {M : gm_M} (h : gm_Lay M) : gm_gF M 940 148 = 172 := h.2.1 (940, 148, 172) (by decide +kernel)
theorem gm_l947 {M : gm_M} (h : gm_Lay M) : gm_gF M 947 148 = 173 := h.2.1 (947, 148, 173) (by decide +kernel)
theorem gm_l948 {M : gm_M} (h : gm_Lay M) : gm_gF M 948 148 = 174 := h.2.1 (948, 148, 174) (by decide +kernel)
theorem gm_l949 {M : gm_M} (h : gm_Lay M) : gm_gF M 949 148 = 175 := h.2.1 (949, 148, 175) (by decide +kernel)
theorem gm_l950 {M : gm_M} (h : gm_Lay M) : gm_gF M 950 148 = 176 := h.2.1 (950, 148, 176) (by decide +kernel)
theorem gm_l951 {M : gm_M} (h : gm_Lay M) : gm_gF M 951 148 = 177 := h.2.1 (951, 148, 177) (by decide +kernel)
theorem gm_l952 {M : gm_M} (h : gm_Lay M) : gm_gF M 952 148 = 178 := h.2.1 (952, 148, 178) (by decide +kernel)
theorem gm_l953 {M : gm_M} (h : gm_Lay M) : gm_gF M 953 148 = 179 := h.2.1 (953, 148, 179) (by decide +kernel)
theorem gm_l954 {M : gm_M} (h : gm_Lay M) : gm_gF M 954 148 = 180 := h.2.1 (954, 148, 180) (by decide +kernel)
theorem gm_l955 {M : gm_M} (h : gm_Lay M) : gm_gF M 955 148 = 181 := h.2.1 (955, 148, 181) (by decide +kernel)
theorem gm_l956 {M : gm_M} (h : gm_Lay M) : gm_gF M 956 148 = 182 := h.2.1 (956, 148, 182) (by decide +kernel)
theorem gm_l957 {M : gm_M} (h : gm_Lay M) : gm_gF M 957 148 = 183 := h.2.1 (957, 148, 183) (by decide +kernel)
theorem gm_l959 {M : gm_M} (h : gm_Lay M) : gm_gF M 959 148 = 184 := h.2.1 (959, 148, 184) (by decide +kernel)
theorem gm_l960 {M : gm_M} (h : gm_Lay M) : gm_gF M 960 148 = 185 := h.2.1 (960, 148, 185) (by decide +kernel)
theorem gm_l961 {M : gm_M} (h : gm_Lay M) : gm_gF M 961 148 = 186 := h.2.1 (961, 148, 186) (by decide +kernel)
theorem gm_l962 {M : gm_M} (h : gm_Lay M) : gm_gF M 962 148 = 187 := h.2.1 (962, 148, 187) (by decide +kernel)
theorem gm_l963 {M : gm_M} (h : gm_Lay M) : gm_gF M 963 148 = 188 := h.2.1 (963, 148, 188) (by decide +kernel)
theorem gm_a3 {M : gm_M} (h : gm_Lay M) {i : Int} (h1 : 0 ≤ i) (h2 : i < 6) : gm_gA M 3 i = 8 + 3 * i ∧ gm_isO 2 M (8 + 3 * i) = true := by
  have key : ∀ k : Nat, k < 6 → (3, (k : Int), 8 + 3 * (k : Int)) ∈ gm_layA ∧ (8 + 3 * k ≤ 188 ∧ (gm_sh (8 + 3 * k)).1 = 2) := by decide +kernel
  obtain ⟨k1, k2, k3⟩ := key i.toNat (by omega)
  rw [show ((i.toNat : Nat) : Int) = i by omega] at k1
  refine ⟨h.2.2 _ k1, (gm_isO_iff h).mpr ⟨by omega, by omega, ?_⟩⟩
  rw [show (8 + 3 * i).toNat = 8 + 3 * i.toNat by omega]
  exact k3
theorem gm_a27 {M : gm_M} (h : gm_Lay M) {i : Int} (h1 : 0 ≤ i) (h2 : i < 6) : gm_gA M 27 i = 32 + 3 * i ∧ gm_isO 2 M (32 + 3 * i) = true := by
  have key : ∀ k : Nat, k < 6 → (27, (k : Int), 32 + 3 * (k : Int)) ∈ gm_layA ∧ (32 + 3 * k ≤ 188 ∧ (gm_sh (32 + 3 * k)).1 = 2) := by decide +kernel
  obtain ⟨k1, k2, k3⟩ := key i.toNat (by omega)
  rw [show ((i.toNat : Nat) : Int) = i by omega] at k1
  refine ⟨h.2.2 _ k1, (gm_isO_iff h).mpr ⟨by omega, by omega, ?_⟩⟩
  rw [show (32 + 3 * i).toNat = 32 + 3 * i.toNat by omega]
  exact k3
theorem gm_a51 {M : gm_M} (h : gm_Lay M) {i : Int} (h1 : 0 ≤ i) (h2 : i < 6) : gm_gA M 51 i = 56 + 3 * i ∧ gm_isO 2 M (56 + 3 * i) = true := by
  have key : ∀ k : Nat, k < 6 → (51, (k : Int), 56 + 3 * (k : Int)) ∈ gm_layA ∧ (56 + 3 * k ≤ 188 ∧ (gm_sh (56 + 3 * k)).1 = 2) := by decide +kernel
  obtain ⟨k1, k2, k3⟩ := key i.toNat (by omega)
  rw [show ((i.toNat : Nat) : Int) = i by omega] at k1
  refine ⟨h.2.2 _ k1, (gm_isO_iff h).mpr ⟨by omega, by omega, ?_⟩⟩
  rw [show (56 + 3 * i).toNat = 56 + 3 * i.toNat by omega]
  exact k3
theorem gm_a90 {M : gm_M} (h : gm_Lay M) {i : Int} (h1 : 0 ≤ i) (h2 : i < 6) : gm_gA M 90 i = 94 + 7 * i ∧ gm_isO 1 M (94 + 7 * i) = true := by
  have key : ∀ k : Nat, k < 6 → (90, (k : Int), 94 + 7 * (k : Int)) ∈ gm_layA ∧ (94 + 7 * k ≤ 188 ∧ (gm_sh (94 + 7 * k)).1 = 1) := by decide +kernel
  obtain ⟨k1, k2, k3⟩ := key i.toNat (by omega)
  rw [show ((i.toNat : Nat) : Int) = i by omega] at k1
  refine ⟨h.2.2 _ k1, (gm_isO_iff h).mpr ⟨by omega, by omega, ?_⟩⟩
  rw [show (94 + 7 * i).toNat = 94 + 7 * i.toNat by omega]
  exact k3
theorem gm_a93 {M : gm_M} (h : gm_Lay M) {i : Int} (h1 : 0 ≤ i) (h2 : i < 6) : gm_gA M 93 i = 136 + 2 * i ∧ gm_isO 6 M (136 + 2 * i) = true := by
  have key : ∀ k : Nat, k < 6 → (93, (k : Int), 136 + 2 * (k : Int)) ∈ gm_layA ∧ (136 + 2 * k ≤ 188 ∧ (gm_sh (136 + 2 * k)).1 = 6) := by decide +kernel
  obtain ⟨k1, k2, k3⟩ := key i.toNat (by omega)
  rw [show ((i.toNat : Nat) : Int) = i by omega] at k1
  refine ⟨h.2.2 _ k1, (gm_isO_iff h).mpr ⟨by omega, by omega, ?_⟩⟩
  rw [show (136 + 2 * i).toNat = 136 + 2 * i.toNat by omega]
  exact k3
theorem gm_z1 {M : gm_M} (h : gm_Lay M) : gm_isO 8 M 1 = true := gm_isO_k (k := 1) h (by decide +kernel)
theorem gm_z2 {M : gm_M} (h : gm_Lay M) : gm_isO 7 M 2 = true := gm_isO_k (k := 2) h (by decide +kernel)
theorem gm_z3 {M : gm_M} (h : gm_Lay M) : gm_isO 24 M 3 = true := gm_isO_k (k := 3) h (by decide +kernel)
theorem gm_y3 (M : gm_M) : gm_len M 3 = 6 := by
  have := gm_lenD (M := M) (i := 2) (by decide)
  exact this
theorem gm_z26 {M : gm_M} (h : gm_Lay M) : gm_isO 7 M 26 = true := gm_isO_k (k := 26) h (by decide +kernel)
theorem gm_z27 {M : gm_M} (h : gm_Lay M) : gm_isO 24 M 27 = true := gm_isO_k (k := 27) h (by decide +kernel)
theorem gm_y27 (M : gm_M) : gm_len M 27 = 6 := by
  have := gm_lenD (M := M) (i := 26) (by decide)
  exact this
theorem gm_z50 {M : gm_M} (h : gm_Lay M) : gm_isO 7 M 50 = true := gm_isO_k (k := 50) h (by decide +kernel)
theorem gm_z51 {M : gm_M} (h : gm_Lay M) : gm_isO 24 M 51 = true := gm_isO_k (k := 51) h (by decide +kernel)
theorem gm_y51 (M : gm_M) : gm_len M 51 = 6 := by
  have := gm_lenD (M := M) (i := 50) (by decide)
  exact this
theorem gm_z74 {M : gm_M} (h : gm_Lay M) : gm_isO 2 M 74 = true := gm_isO_k (k := 74) h (by decide +kernel)
theorem gm_z77 {M : gm_M} (h : gm_Lay M) : gm_isO 2 M 77 = true := gm_isO_k (k := 77) h (by decide +kernel)
theorem gm_z80 {M : gm_M} (h : gm_Lay M) : gm_isO 5 M 80 = true := gm_isO_k (k := 80) h (by decide +kernel)
theorem gm_z81 {M : gm_M} (h : gm_Lay M) : gm_isO 4 M 81 = true := gm_isO_k (k := 81) h (by decide +kernel)
theorem gm_z82 {M : gm_M} (h : gm_Lay M) : gm_isO 22 M 82 = true := gm_isO_k (k := 82) h (by decide +kernel)
theorem gm_y82 (M : gm_M) : gm_len M 82 = 100 := by
  have := gm_lenD (M := M) (i := 81) (by decide)
  exact this
theorem gm_z83 {M : gm_M} (h : gm_Lay M) : gm_isO 1 M 83 = true := gm_isO_k (k := 83) h (by decide +kernel)
theorem gm_z90 {M : gm_M} (h : gm_Lay M) : gm_isO 25 M 90 = true := gm_isO_k (k := 90) h (by decide +kernel)
theorem gm_y90 (M : gm_M) : gm_len M 90 = 6 := by
  have := gm_lenD (M := M) (i := 89) (by decide)
  exact this
theorem gm_z91 {M : gm_M} (h : gm_Lay M) : gm_isO 3 M 91 = true := gm_isO_k (k := 91) h (by decide +kernel)
theorem gm_z92 {M : gm_M} (h : gm_Lay M) : gm_isO 20 M 92 = true := gm_isO_k (k := 92) h (by decide +kernel)
theorem gm_y92 (M : gm_M) : gm_len M 92 = 20 := by
  have := gm_lenD (M := M) (i := 91) (by decide)
  exact this
theorem gm_z93 {M : gm_M} (h : gm_Lay M) : gm_isO 26 M 93 = true := gm_isO_k (k := 93) h (by decide +kernel)
theorem gm_y93 (M : gm_M) : gm_len M 93 = 6 := by
  have := gm_lenD (M := M) (i := 92) (by decide)
  exact this
theorem gm_z148 {M : gm_M} (h : gm_Lay M) : gm_isO 9 M 148 = true := gm_isO_k (k := 148) h (by decide +kernel)
theorem gm_z149 {M : gm_M} (h : gm_Lay M) : gm_isO 20 M 149 = true := gm_isO_k (k := 149) h (by decide +kernel)
theorem gm_y149 (M : gm_M) : gm_len M 149 = 6 := by
  have := gm_lenD (M := M) (i := 148) (by decide)
  exact this
theorem gm_z150 {M : gm_M} (h : gm_Lay M) : gm_isO 20 M 150 = true := gm_isO_k (k := 150) h (by decide +kernel)
theorem gm_y150 (M : gm_M) : gm_len M 150 = 6 := by
  have := gm_lenD (M := M) (i := 149) (by decide)
  exact this
theorem gm_z151 {M : gm_M} (h : gm_Lay M) : gm_isO 20 M 151 = true := gm_isO_k (k := 151) h (by decide +kernel)
theorem gm_y151 (M : gm_M) : gm_len M 151 = 6 := by
  have := gm_lenD (M := M) (i := 150) (by decide)
  exact this
theorem gm_z152 {M : gm_M} (h : gm_Lay M) : gm_isO 20 M 152 = true := gm_isO_k (k := 152) h (by decide +kernel)
theorem gm_y152 (M : gm_M) : gm_len M 152 = 6 := by
  have := gm_lenD (M := M) (i := 151) (by decide)
  exact this
theorem gm_z153 {M : gm_M} (h : gm_Lay M) : gm_isO 20 M 153 = true := gm_isO_k (k := 153) h (by decide +kernel)
theorem gm_y153 (M : gm_M) : gm_len M 153 = 6 := by
  have := gm_lenD (M := M) (i := 152) (by decide)
  exact this
theorem gm_z154 {M : gm_M} (h : gm_Lay M) : gm_isO 20 M 154 = true := gm_isO_k (k := 154) h (by decide +kernel)
theorem gm_y154 (M : gm_M) : gm_len M 154 = 6 := by
  have := gm_lenD (M := M) (i := 153) (by decide)
  exact this
theorem gm_z155 {M : gm_M} (h : gm_Lay M) : gm_isO 20 M 155 = true := gm_isO_k (k := 155) h (by decide +kernel)
theorem gm_y155 (M : gm_M) : gm_len M 155 = 24 := by
  have := gm_lenD (M := M) (i := 154) (by decide)
  exact this
theorem gm_z156 {M : gm_M} (h : gm_Lay M) : gm_isO 20 M 156 = true := gm_isO_k (k := 156) h (by decide +kernel)
theorem gm_y156 (M : gm_M) : gm_len M 156 = 100 := by
  have := gm_lenD (M := M) (i := 155) (by decide)
  exact this
theorem gm_z157 {M : gm_M} (h : gm_Lay M) : gm_isO 20 M 157 = true := gm_isO_k (k := 157) h (by decide +kernel)
theorem gm_y157 (M : gm_M) : gm_len M 157 = 6 := by
  have := gm_lenD (M := M) (i := 156) (by decide)
  exact this
theorem gm_z158 {M : gm_M} (h : gm_Lay M) : gm_isO 20 M 158 = true := gm_isO_k (k := 158) h (by decide +kernel)
theorem gm_y158 (M : gm_M) : gm_len M 158 = 60 := by
  have := gm_lenD (M := M) (i := 157) (by decide)
  exact this
theorem gm_z159 {M : gm_M} (h : gm_Lay M) : gm_isO 20 M 159 = true := gm_isO_k (k := 159) h (by decide +kernel)
theorem gm_y159 (M : gm_M) : gm_len M 159 = 60 := by
  have := gm_lenD (M := M) (i := 158) (by decide)
  exact this
theorem gm_z160 {M : gm_M} (h : gm_Lay M) : gm_isO 20 M 160 = true := gm_isO_k (k := 160) h (by decide +kernel)
theorem gm_y160 (M : gm_M) : gm_len M 160 = 60 := by
  have := gm_lenD (M := M) (i := 159) (by decide)
  exact this
theorem gm_z161 {M : gm_M} (h : gm_Lay M) : gm_isO 20 M 161 = true := gm_isO_k (k := 161) h (by decide +kernel)
theorem gm_y161 (M : gm_M) : gm_len M 161 = 60 := by
  have := gm_lenD (M := M) (i := 160) (by decide)
  exact this
theorem gm_z162 {M : gm_M} (h : gm_Lay M) : gm_isO 20 M 162 = true := gm_isO_k (k := 162) h (by decide +kernel)
theorem gm_y162 (M : gm_M) : gm_len M 162 = 600 := by
  have := gm_lenD (M := M) (i := 161) (by decide)
  exact this
theorem gm_z163 {M : gm_M} (h : gm_Lay M) : gm_isO 20 M 163 = true := gm_isO_k (k := 163) h (by decide +kernel)
theorem gm_y163 (M : gm_M) : gm_len M 163 = 101 := by
  have := gm_lenD (M := M) (i := 162) (by decide)
  exact this
theorem gm_z164 {M : gm_M} (h : gm_Lay M) : gm_isO 20 M 164 = true := gm_isO_k (k := 164) h (by decide +kernel)
theorem gm_y164 (M : gm_M) : gm_len M 164 = 14 := by
  have := gm_lenD (M := M) (i := 163) (by decide)
  exact this
theorem gm_z165 {M : gm_M} (h : gm_Lay M) : gm_isO 23 M 165 = true := gm_isO_k (k := 165) h (by decide +kernel)
theorem gm_y165 (M : gm_M) : gm_len M 165 = 100 := by
  have := gm_lenD (M := M) (i := 164) (by decide)
  exact this
theorem gm_z166 {M : gm_M} (h : gm_Lay M) : gm_isO 20 M 166 = true := gm_isO_k (k := 166) h (by decide +kernel)
theorem gm_y166 (M : gm_M) : gm_len M 166 = 6 := by
  have := gm_lenD (M := M) (i := 165) (by decide)
  exact this
theorem gm_z167 {M : gm_M} (h : gm_Lay M) : gm_isO 20 M 167 = true := gm_isO_k (k := 167) h (by decide +kernel)
theorem gm_y167 (M : gm_M) : gm_len M 167 = 6 := by
  have := gm_lenD (M := M) (i := 166) (by decide)
  exact this
theorem gm_z168 {M : gm_M} (h : gm_Lay M) : gm_isO 20 M 168 = true := gm_isO_k (k := 168) h (by decide +kernel)
theorem gm_y168 (M : gm_M) : gm_len M 168 = 6 := by
  have := gm_lenD (M := M) (i := 167) (by decide)
  exact this
theorem gm_z169 {M : gm_M} (h : gm_Lay M) : gm_isO 20 M 169 = true := gm_isO_k (k := 169) h (by decide +kernel)
theorem gm_y169 (M : gm_M) : gm_len M 169 = 8 := by
  have := gm_lenD (M := M) (i := 168) (by decide)
  exact this
theorem gm_z170 {M : gm_M} (h : gm_Lay M) : gm_isO 20 M 170 = true := gm_isO_k (k := 170) h (by decide +kernel)
theorem gm_y170 (M : gm_M) : gm_len M 170 = 8 := by
  have := gm_lenD (M := M) (i := 169) (by decide)
  exact this
theorem gm_z171 {M : gm_M} (h : gm_Lay M) : gm_isO 20 M 171 = true := gm_isO_k (k := 171) h (by decide +kernel)
theorem gm_y171 (M : gm_M) : gm_len M 171 = 8 := by
  have := gm_lenD (M := M) (i := 170) (by decide)
  exact this
theorem gm_z172 {M : gm_M} (h : gm_Lay M) : gm_isO 20 M 172 = true := gm_isO_k (k := 172) h (by decide +kernel)
theorem gm_y172 (M : gm_M) : gm_len M 172 = 12 := by
  have := gm_lenD (M := M) (i := 171) (by decide)
  exact this
theorem gm_z173 {M : gm_M} (h : gm_Lay M) : gm_isO 20 M 173 = true := gm_isO_k (k := 173) h (by decide +kernel)
theorem gm_y173 (M : gm_M) : gm_len M 173 = 6 := by
  have := gm_lenD (M := M) (i := 172) (by decide)
  exact this
theorem gm_z174 {M : gm_M} (h : gm_Lay M) : gm_isO 20 M 174 = true := gm_isO_k (k := 174) h (by decide +kernel)
theorem gm_y174 (M : gm_M) : gm_len M 174 = 6 := by
  have := gm_lenD (M := M) (i := 173) (by decide)
  exact this
theorem gm_z175 {M : gm_M} (h : gm_Lay M) : gm_isO 20 M 175 = true := gm_isO_k (k := 175) h (by decide +kernel)
theorem gm_y175 (M : gm_M) : gm_len M 175 = 6 := by
  have := gm_lenD (M := M) (i := 174) (by decide)
  exact this
theorem gm_z176 {M : gm_M} (h : gm_Lay M) : gm_isO 20 M 176 = true := gm_isO_k (k := 176) h (by decide +kernel)
theorem gm_y176 (M : gm_M) : gm_len M 176 = 6 := by
  have := gm_lenD (M := M) (i := 175) (by decide)
  exact this
theorem gm_z177 {M : gm_M} (h : gm_Lay M) : gm_isO 20 M 177 = true := gm_isO_k (k := 177) h (by decide +kernel)
theorem gm_y177 (M : gm_M) : gm_len M 177 = 6 := by
  have := gm_lenD (M := M) (i := 176) (by decide)
  exact this
theorem gm_z178 {M : gm_M} (h : gm_Lay M) : gm_isO 20 M 178 = true := gm_isO_k (k := 178) h (by decide +kernel)
theorem gm_y178 (M : gm_M) : gm_len M 178 = 6 := by
  have := gm_lenD (M := M) (i := 177) (by decide)
  exact this
theorem gm_z179 {M : gm_M} (h : gm_Lay M) : gm_isO 20 M 179 = true := gm_isO_k (k := 179) h (by decide +kernel)
theorem gm_y179 (M : gm_M) : gm_len M 179 = 24 := by
  have := gm_lenD (M := M) (i := 178) (by decide)
  exact this
theorem gm_z180 {M : gm_M} (h : gm_Lay M) : gm_isO 20 M 180 = true := gm_isO_k (k := 180) h (by decide +kernel)
theorem gm_y180 (M : gm_M) : gm_len M 180 = 8 := by
  have := gm_lenD (M := M) (i := 179) (by decide)
  exact this
theorem gm_z181 {M : gm_M} (h : gm_Lay M) : gm_isO 20 M 181 = true := gm_isO_k (k := 181) h (by decide +kernel)
theorem gm_y181 (M : gm_M) : gm_len M 181 = 8 := by
  have := gm_lenD (M := M) (i := 180) (by decide)
  exact this
theorem gm_z182 {M : gm_M} (h : gm_Lay M) : gm_isO 20 M 182 = true := gm_isO_k (k := 182) h (by decide +kernel)
theorem gm_y182 (M : gm_M) : gm_len M 182 = 8 := by
  have := gm_lenD (M := M) (i := 181) (by decide)
  exact this
theorem gm_z183 {M : gm_M} (h : gm_Lay M) : gm_isO 20 M 183 = true := gm_isO_k (k := 183) h (by decide +kernel)
theorem gm_y183 (M : gm_M) : gm_len M 183 = 12 := by
  have := gm_lenD (M := M) (i := 182) (by decide)
  exact this
theorem gm_z184 {M : gm_M} (h : gm_Lay M) : gm_isO 20 M 184 = true := gm_isO_k (k := 184) h (by decide +kernel)
theorem gm_y184 (M : gm_M) : gm_len M 184 = 20 := by
  have := gm_lenD (M := M) (i := 183) (by decide)
  exact this
theorem gm_z185 {M : gm_M} (h : gm_Lay M) : gm_isO 20 M 185 = true := gm_isO_k (k := 185) h (by decide +kernel)
theorem gm_y185 (M : gm_M) : gm_len M 185 = 6 := by
  have := gm_lenD (M := M) (i := 184) (by decide)
  exact this
theorem gm_z186 {M : gm_M} (h : gm_Lay M) : gm_isO 20 M 186 = true := gm_isO_k (k := 186) h (by decide +kernel)
theorem gm_y186 (M : gm_M) : gm_len M 186 = 6 := by
  have := gm_lenD (M := M) (i := 185) (by decide)
  exact this
theorem gm_z187 {M : gm_M} (h : gm_Lay M) : gm_isO 21 M 187 = true := gm_isO_k (k := 187) h (by decide +kernel)
theorem gm_y187 (M : gm_M) : gm_len M 187 = 360 := by
  have := gm_lenD (M := M) (i := 186) (by decide)
  exact this
theorem gm_z188 {M : gm_M} (h : gm_Lay M) : gm_isO 21 M 188 = true := gm_isO_k (k := 188) h (by decide +kernel)
theorem gm_y188 (M : gm_M) : gm_len M 188 = 60 := by
  have := gm_lenD (M := M) (i := 187) (by decide)
  exact this
theorem gm_alen_u (C : gm_O) (J : Nat → gm_K) (N : gm_K) (L : gm_Ls) (a : Int) (st : List gm_V) (M : gm_M) (h : gm_isO 20 M a = true) : gm_alen C J N L (.inr (.inr a) :: st) M = N L (.inl (gm_len M a) :: st) M := by
  simp only [gm_isO, Bool.and_eq_true, decide_eq_true_eq, beq_iff_eq] at h
  exact if_pos (Or.inr ⟨h.1, h.2.1, by omega, by omega⟩)
theorem gm_alen_k (kd : Nat) (hk : 20 ≤ kd ∧ kd ≤ 26) (C : gm_O) (J : Nat → gm_K) (N : gm_K) (L : gm_Ls) (a : Int) (st : List gm_V) (M : gm_M) (h : gm_isO kd M a = true) : gm_alen C J N L (.inr (.inr a) :: st) M = N L (.inl (gm_len M a) :: st) M := by
  simp only [gm_isO, Bool.and_eq_true, decide_eq_true_eq, beq_iff_eq] at h
  exact if_pos (Or.inr ⟨h.1, h.2.1, by omega, by omega⟩)
theorem gm_inI {M : gm_M} {a i n : Int} (hl : gm_len M a = n) (h1 : 0 ≤ i) (h2 : i < n) (hn : n ≤ 100000) : gm_in M a i = true := by
  simp only [gm_in, gm_w_id (x := i) (by omega) (by omega), hl, h1, h2, decide_true, Bool.and_self]
/-- max and min, kept as one -/
def gm_mx (x y : Int) : Int := if gm_w x < gm_w y then y else x
def gm_mn (x y : Int) : Int := if gm_w y < gm_w x then y else x
theorem gm_max_u (C : gm_O) (J : Nat → gm_K) (N : gm_K) (L : gm_Ls) (x y : Int) (st : List gm_V) (M : gm_M) : gm_max C J N L (.inl y :: .inl x :: st) M = if gm_wd st ≤ 8 then N L (.inl (gm_mx x y) :: st) M else none := rfl
theorem gm_min_u (C : gm_O) (J : Nat → gm_K) (N : gm_K) (L : gm_Ls) (x y : Int) (st : List gm_V) (M : gm_M) : gm_min C J N L (.inl y :: .inl x :: st) M = if gm_wd st ≤ 8 then N L (.inl (gm_mn x y) :: st) M else none := rfl
