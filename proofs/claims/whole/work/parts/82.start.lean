/-! THE START: what holds then -/
def gn_oL : List (Nat × Int × Int × Int) := (0, 0, 0, 0) :: (gn_o8 ++ (0, 0, 0, 0) :: gn_o9)
theorem gn_ops_app : ∀ (l l' : List (Nat × Int × Int × Int)) (M : gm_M), gn_ops (l ++ l') M = gn_ops l' (gn_ops l M)
  | [], _, _ => rfl
  | q :: l, l', M => gn_ops_app l l' (gn_op1 M q)
def gn_alc : List (Nat × Int × Int × Int) → Nat
  | [] => 0
  | q :: l => (if q.1 = 0 then 1 else 0) + gn_alc l
theorem gn_ops_1 : ∀ (l : List (Nat × Int × Int × Int)) (M : gm_M), (gn_ops l M).1 = M.1 + gn_alc l
  | [], _ => rfl
  | q :: l, M => by
    show (gn_ops l (gn_op1 M q)).1 = M.1 + ((if q.1 = 0 then 1 else 0) + gn_alc l)
    rw [gn_ops_1 l]
    unfold gn_op1
    by_cases c : q.1 = 0
    · rw [if_pos c, if_pos c]
      show M.1 + 1 + gn_alc l = _
      omega
    · rw [if_neg c, if_neg c]
      by_cases c2 : q.1 = 1
      · rw [if_pos c2, gm_1_sF]; omega
      · rw [if_neg c2, gm_1_sA]; omega
theorem gm_gF_al (M : gm_M) (f : Nat) (o : Int) : gm_gF (gm_al M) f o = if o = ((M.1 + 1 : Nat) : Int) then 0 else gm_gF M f o := rfl
theorem gm_gA_al (M : gm_M) (a i : Int) : gm_gA (gm_al M) a i = if a = ((M.1 + 1 : Nat) : Int) then 0 else gm_gA M a i := rfl
/-- alike in what is there -/
def gn_agr (M N : gm_M) : Prop := M.1 = N.1 ∧ (∀ (f : Nat) (o : Int), 1 ≤ o → o ≤ (M.1 : Int) → gm_gF M f o = gm_gF N f o) ∧ ∀ a i : Int, 1 ≤ a → a ≤ (M.1 : Int) → gm_gA M a i = gm_gA N a i
theorem gn_agr_op {M N : gm_M} (q : Nat × Int × Int × Int) (h : gn_agr M N) : gn_agr (gn_op1 M q) (gn_op1 N q) := by
  obtain ⟨h1, h2, h3⟩ := h
  unfold gn_op1
  by_cases c : q.1 = 0
  · rw [if_pos c, if_pos c]
    refine ⟨by show M.1 + 1 = N.1 + 1; omega, fun f o o1 o2 => ?_, fun a i o1 o2 => ?_⟩
    · have o2' : o ≤ ((M.1 + 1 : Nat) : Int) := o2
      rw [gm_gF_al, gm_gF_al, h1]
      rw [h1] at o2'
      by_cases z : o = ((N.1 + 1 : Nat) : Int)
      · rw [if_pos z, if_pos z]
      · rw [if_neg z, if_neg z]; exact h2 f o o1 (by omega)
    · have o2' : a ≤ ((M.1 + 1 : Nat) : Int) := o2
      rw [gm_gA_al, gm_gA_al, h1]
      rw [h1] at o2'
      by_cases z : a = ((N.1 + 1 : Nat) : Int)
      · rw [if_pos z, if_pos z]
      · rw [if_neg z, if_neg z]; exact h3 a i o1 (by omega)
  · rw [if_neg c, if_neg c]
    by_cases c2 : q.1 = 1
    · rw [if_pos c2, if_pos c2]
      refine ⟨h1, fun f o o1 o2 => ?_, h3⟩
      rw [gm_gF_sF, gm_gF_sF, h2 f o o1 o2]
    · rw [if_neg c2, if_neg c2]
      refine ⟨h1, h2, fun a i o1 o2 => ?_⟩
      rw [gm_gA_sA, gm_gA_sA, h3 a i o1 o2]
theorem gn_agr_ops : ∀ (l : List (Nat × Int × Int × Int)) (M N : gm_M), gn_agr M N → gn_agr (gn_ops l M) (gn_ops l N)
  | [], _, _, h => h
  | q :: l, M, N, h => gn_agr_ops l _ _ (gn_agr_op q h)
def gn_inr (q : Nat × Int × Int × Int) : Bool := if q.1 = 0 then true else if q.1 = 1 then decide (1 ≤ q.2.2.1) && decide (q.2.2.1 ≤ 188) else decide (1 ≤ q.2.1) && decide (q.2.1 ≤ 188)
theorem gn_out : ∀ (l : List (Nat × Int × Int × Int)) (M : gm_M), (l.all gn_inr) = true → M.1 + gn_alc l ≤ 188 → (∀ (f : Nat) (o : Int), ¬ (1 ≤ o ∧ o ≤ 188) → gm_gF (gn_ops l M) f o = gm_gF M f o) ∧ ∀ a i : Int, ¬ (1 ≤ a ∧ a ≤ 188) → gm_gA (gn_ops l M) a i = gm_gA M a i
  | [], _, _, _ => ⟨fun _ _ _ => rfl, fun _ _ _ => rfl⟩
  | q :: l, M, h, hc => by
    rw [List.all_cons, Bool.and_eq_true] at h
    have hq := h.1
    unfold gn_inr at hq
    have hc' : M.1 + ((if q.1 = 0 then 1 else 0) + gn_alc l) ≤ 188 := hc
    show (∀ (f : Nat) (o : Int), ¬ (1 ≤ o ∧ o ≤ 188) → gm_gF (gn_ops l (gn_op1 M q)) f o = gm_gF M f o) ∧ ∀ a i : Int, ¬ (1 ≤ a ∧ a ≤ 188) → gm_gA (gn_ops l (gn_op1 M q)) a i = gm_gA M a i
    by_cases c : q.1 = 0
    · have e : gn_op1 M q = gm_al M := by unfold gn_op1; rw [if_pos c]
      rw [if_pos c] at hc'
      obtain ⟨i1, i2⟩ := gn_out l (gm_al M) h.2 (by show M.1 + 1 + gn_alc l ≤ 188; omega)
      rw [e]
      exact ⟨fun f o z => by rw [i1 f o z, gm_gF_al, if_neg (by omega)], fun a i z => by rw [i2 a i z, gm_gA_al, if_neg (by omega)]⟩
    · rw [if_neg c] at hq hc'
      by_cases c2 : q.1 = 1
      · have e : gn_op1 M q = gm_sF M q.2.1.toNat q.2.2.1 q.2.2.2 := by unfold gn_op1; rw [if_neg c, if_pos c2]
        rw [if_pos c2] at hq
        simp only [Bool.and_eq_true, decide_eq_true_eq] at hq
        obtain ⟨i1, i2⟩ := gn_out l (gm_sF M q.2.1.toNat q.2.2.1 q.2.2.2) h.2 (by rw [gm_1_sF]; omega)
        rw [e]
        exact ⟨fun f o z => by rw [i1 f o z, gm_gF_sF, if_neg (by omega)], fun a i z => by rw [i2 a i z, gm_gA_sF]⟩
      · have e : gn_op1 M q = gm_sA M q.2.1 q.2.2.1 q.2.2.2 := by unfold gn_op1; rw [if_neg c, if_neg c2]
        rw [if_neg c2] at hq
        simp only [Bool.and_eq_true, decide_eq_true_eq] at hq
        obtain ⟨i1, i2⟩ := gn_out l (gm_sA M q.2.1 q.2.2.1 q.2.2.2) h.2 (by rw [gm_1_sA]; omega)
        rw [e]
        exact ⟨fun f o z => by rw [i1 f o z, gm_gF_sA], fun a i z => by rw [i2 a i z, gm_gA_sA, if_neg (by omega)]⟩
def gn_Z : gm_M := (0, fun _ _ => 0, fun _ _ => 0)
def gn_Zf : gm_M := gn_ops gn_oL gn_Z
theorem gn_oL_in : gn_oL.all gn_inr = true := by decide +kernel
theorem gn_oL_n : gn_alc gn_oL = 188 := by decide +kernel
theorem gn_Zf_F : ∀ q ∈ gm_layF, (1 ≤ q.2.1 ∧ q.2.1 ≤ 188) ∧ gm_gF gn_Zf q.1 q.2.1 = q.2.2 := by decide +kernel
theorem gn_Zf_A : ∀ q ∈ gm_layA, (1 ≤ q.1 ∧ q.1 ≤ 188) ∧ gm_gA gn_Zf q.1 q.2.1 = q.2.2 := by decide +kernel
theorem gn_Zf_n : gm_gF gn_Zf 701 2 = 0 ∧ gm_gF gn_Zf 702 2 = 0 ∧ gm_gF gn_Zf 703 2 = -1 ∧ gm_gF gn_Zf 707 2 = 0 ∧ gm_gF gn_Zf 709 2 = 0 ∧ gm_gF gn_Zf 810 1 = 0 ∧ gm_gF gn_Zf 900 148 = 0 ∧ gm_gF gn_Zf 901 148 = 0 ∧ gm_gF gn_Zf 910 148 = -1 ∧ gm_gF gn_Zf 935 148 = 0 ∧ gm_gF gn_Zf 939 148 = 0 ∧ gm_gF gn_Zf 909 148 = 0 ∧ gm_gF gn_Zf 2 84 = 0 ∧ gm_gF gn_Zf 3 84 = 0 ∧ gm_gF gn_Zf 2 87 = 0 ∧ gm_gF gn_Zf 3 87 = 0 ∧ gm_gF gn_Zf 102 83 = 20 ∧ gm_gF gn_Zf 103 83 = 80 ∧ gm_gF gn_Zf 911 148 = 0 ∧ gm_gF gn_Zf 401 81 = 0 ∧ gm_gF gn_Zf 958 148 = 0 ∧ gm_gF gn_Zf 301 91 = 0 ∧ gm_gF gn_Zf 941 148 = 0 ∧ gm_gF gn_Zf 802 1 = 0 ∧ gm_gF gn_Zf 927 148 = -1 ∧ gm_gF gn_Zf 928 148 = 0 ∧ gm_gF gn_Zf 929 148 = -1 ∧ gm_gF gn_Zf 930 148 = -1 := by decide +kernel
theorem gn_Zf_t : ∀ t : Fin 6, gm_gA gn_Zf 185 (t.1 : Int) = -1 ∧ gm_gF gn_Zf 600 (136 + 2 * (t.1 : Int)) = -1 ∧ gm_gA gn_Zf 186 (t.1 : Int) = 0 ∧ gm_gF gn_Zf 601 (136 + 2 * (t.1 : Int)) = 0 := by decide +kernel
theorem gn_Zf_i : ∀ i : Fin 360, gm_gA gn_Zf 187 (i.1 : Int) = 0 := by decide +kernel
theorem gn_Zf_j : ∀ t : Fin 6, ∀ i : Fin 60, gm_gA gn_Zf (136 + 2 * (t.1 : Int) + 1) (i.1 : Int) = 0 := by decide +kernel
theorem gn_Zf_w : ∀ i : Fin 14, gm_gA gn_Zf 164 (i.1 : Int) = ([115, 117, 110, 99, 111, 108, 100, 108, 111, 119, 104, 105, 103, 104] : List Int).getD i.1 0 := by decide +kernel
theorem gn_start {M : gm_M} (h0 : M.1 = 0) : gn_Inv (gn_ops gn_oL M) ∧ (∀ (f : Nat) (o : Int), ¬ (1 ≤ o ∧ o ≤ 188) → gm_gF (gn_ops gn_oL M) f o = gm_gF M f o) ∧ ∀ a i : Int, ¬ (1 ≤ a ∧ a ≤ 188) → gm_gA (gn_ops gn_oL M) a i = gm_gA M a i := by
  obtain ⟨a1, a2, a3⟩ := gn_agr_ops gn_oL M gn_Z ⟨h0, fun f o o1 o2 => by rw [h0] at o2; omega, fun a i o1 o2 => by rw [h0] at o2; omega⟩
  have hn : (gn_ops gn_oL M).1 = 188 := by rw [gn_ops_1, h0, gn_oL_n]
  refine ⟨?_, gn_out gn_oL M gn_oL_in (by rw [h0, gn_oL_n]; decide)⟩
  have f : ∀ (f : Nat) (o : Int), 1 ≤ o → o ≤ 188 → gm_gF (gn_ops gn_oL M) f o = gm_gF gn_Zf f o := fun f o o1 o2 => a2 f o o1 (by rw [hn]; exact o2)
  have a : ∀ a i : Int, 1 ≤ a → a ≤ 188 → gm_gA (gn_ops gn_oL M) a i = gm_gA gn_Zf a i := fun a i o1 o2 => a3 a i o1 (by rw [hn]; exact o2)
  obtain ⟨n1, n2, n3, n4, n5, n6, n7, n8, n9, n10, n11, n12, n13, n14, n15, n16, n17, n18, n19, n20, n21, n22, n23, n24, n25, n26, n27, n28⟩ := gn_Zf_n
  generalize gn_ops gn_oL M = N at *
  have x1 := (f 701 2 (by decide) (by decide)).trans n1
  have x2 := (f 702 2 (by decide) (by decide)).trans n2
  have x3 := (f 703 2 (by decide) (by decide)).trans n3
  have x4 := (f 707 2 (by decide) (by decide)).trans n4
  have x5 := (f 709 2 (by decide) (by decide)).trans n5
  have x6 := (f 810 1 (by decide) (by decide)).trans n6
  have x7 := (f 900 148 (by decide) (by decide)).trans n7
  have x8 := (f 901 148 (by decide) (by decide)).trans n8
  have x9 := (f 910 148 (by decide) (by decide)).trans n9
  have x10 := (f 935 148 (by decide) (by decide)).trans n10
  have x11 := (f 939 148 (by decide) (by decide)).trans n11
  have x12 := (f 909 148 (by decide) (by decide)).trans n12
  have x13 := (f 2 84 (by decide) (by decide)).trans n13
  have x14 := (f 3 84 (by decide) (by decide)).trans n14
  have x15 := (f 2 87 (by decide) (by decide)).trans n15
  have x16 := (f 3 87 (by decide) (by decide)).trans n16
  have x17 := (f 102 83 (by decide) (by decide)).trans n17
  have x18 := (f 103 83 (by decide) (by decide)).trans n18
  have x19 := (f 911 148 (by decide) (by decide)).trans n19
  have x20 := (f 401 81 (by decide) (by decide)).trans n20
  have x21 := (f 958 148 (by decide) (by decide)).trans n21
  have x22 := (f 301 91 (by decide) (by decide)).trans n22
  have x23 := (f 941 148 (by decide) (by decide)).trans n23
  have x24 := (f 802 1 (by decide) (by decide)).trans n24
  have x25 := (f 927 148 (by decide) (by decide)).trans n25
  have x26 := (f 928 148 (by decide) (by decide)).trans n26
  have x27 := (f 929 148 (by decide) (by decide)).trans n27
  have x28 := (f 930 148 (by decide) (by decide)).trans n28
  refine ⟨⟨hn, fun q hq => (f _ _ (gn_Zf_F q hq).1.1 (gn_Zf_F q hq).1.2).trans (gn_Zf_F q hq).2, fun q hq => (a _ _ (gn_Zf_A q hq).1.1 (gn_Zf_A q hq).1.2).trans (gn_Zf_A q hq).2⟩, ?_, ?_, ?_, ?_, ?_, ?_, ?_, ?_⟩
  · unfold gn_TI
    rw [x1, x2, x3, x4, x5]
    exact ⟨by decide, by decide, Or.inr rfl, fun h h1 h2 => by omega, by decide, by decide, fun h h1 h2 => by omega, fun h h1 h2 => by omega⟩
  · unfold gn_TR
    rw [x1, x2, x3, x4, x5, x7, x8, x9, x10, x11]
    exact ⟨⟨rfl, rfl, rfl, rfl, rfl⟩, fun h h1 h2 => by omega, fun h h1 h2 => by omega, fun h h1 h2 => by omega⟩
  · unfold gn_MG
    rw [x6, x12, x13, x14, x15, x16, x17, x18]
    exact ⟨by decide, by decide, fun h h1 h2 => by omega⟩
  · unfold gn_MT
    rw [x19, x20]
    exact ⟨rfl, by decide, fun h h1 h2 => by omega⟩
  · unfold gn_MP
    rw [x21, x22]
    exact ⟨rfl, by decide, fun h h1 h2 h3 => by omega⟩
  · intro t t1 t2
    have ht := gn_Zf_t ⟨t.toNat, by omega⟩
    simp only [show ((t.toNat : Nat) : Int) = t by omega] at ht
    rw [a 185 t (by decide) (by decide), a 186 t (by decide) (by decide), f 600 (136 + 2 * t) (by omega) (by omega), f 601 (136 + 2 * t) (by omega) (by omega), ht.1, ht.2.1, ht.2.2.1, ht.2.2.2]
    refine ⟨by decide, by decide, fun i i1 i2 => ?_⟩
    have h1 := gn_Zf_i ⟨(60 * t + i).toNat, by omega⟩
    have h2 := gn_Zf_j ⟨t.toNat, by omega⟩ ⟨i.toNat, by omega⟩
    simp only [show (((60 * t + i).toNat : Nat) : Int) = 60 * t + i by omega] at h1
    simp only [show ((t.toNat : Nat) : Int) = t by omega, show ((i.toNat : Nat) : Int) = i by omega] at h2
    rw [a 187 _ (by decide) (by decide), a (136 + 2 * t + 1) i (by omega) (by omega), h1, h2]
  · unfold gn_MI
    rw [x23, x24]
    exact ⟨rfl, Or.inl rfl⟩
  · unfold gn_MZ
    rw [x25, x26, x27, x28]
    refine ⟨rfl, rfl, rfl, rfl, fun i i1 i2 => ?_⟩
    have h1 := gn_Zf_w ⟨i.toNat, by omega⟩
    simp only [show ((i.toNat : Nat) : Int) = i by omega] at h1
    rw [a 164 i (by decide) (by decide), h1]
