/-! THE WORLD: what the heap holds, by the small machine's memory; what holds of a method's start; contracts -/
def gm_rv (ad : Nat → Nat) : gm_V → Value
  | .inl x => .int (Int32.ofInt x)
  | .inr (.inl x) => .long (Int64.ofInt x)
  | .inr (.inr r) => if r ≤ 0 then .null else .ref (ad r.toNat)
theorem gm_rv_ref (ad : Nat → Nat) {r : Int} (h : 0 < r) : gm_rv ad (.inr (.inr r)) = .ref (ad r.toNat) := by
  have h1 : ¬ r ≤ 0 := by omega
  simp [gm_rv, h1]
theorem gm_rv_null (ad : Nat → Nat) {r : Int} (h : r ≤ 0) : gm_rv ad (.inr (.inr r)) = .null := by
  simp [gm_rv, h]
/-- the types of the fields: 0 int, 1 boolean, 2 a reference -/
def gm_fty (C k : Nat) : Nat := match C with
  | 0 => ([2, 2, 0, 1] : List Nat).getD k 0
  | 1 => ([2, 2, 0, 0] : List Nat).getD k 0
  | 2 => ([0, 0, 0, 0, 0, 2, 2] : List Nat).getD k 0
  | 3 => ([2, 0] : List Nat).getD k 0
  | 4 => ([2, 0, 0] : List Nat).getD k 0
  | 5 => 0
  | 6 => ([0, 0, 2] : List Nat).getD k 0
  | 7 => ([2, 0, 0, 0, 2, 2, 2, 0, 2, 0] : List Nat).getD k 0
  | 8 => ([2, 2, 1, 2, 2, 2, 2, 2, 2, 2, 0, 2, 2] : List Nat).getD k 0
  | _ => ([0, 0, 2, 2, 2, 2, 2, 2, 2, 0, 0, 0, 0, 0, 2, 2, 2, 2, 2, 2, 2, 2, 0, 0, 0, 2, 2, 0, 0, 0, 0, 2, 2, 0, 2, 0, 2, 2, 2, 0, 2, 1, 0, 0, 0, 0, 0, 2, 2, 2, 2, 2, 2, 2, 2, 2, 2, 2, 0, 2, 2, 2, 2, 2] : List Nat).getD k 0
def gm_fv (ad : Nat → Nat) (ty : Nat) (x : Int) : Value := if ty = 2 then gm_rv ad (.inr (.inr x)) else .int (Int32.ofInt x)
def gm_oq (ad : Nat → Nat) (x : Int) : Option Nat := if x ≤ 0 then none else some (ad x.toNat)
theorem gm_oq_rv (ad : Nat → Nat) (x : Int) : va_rf (gm_oq ad x) = gm_rv ad (.inr (.inr x)) := by
  by_cases h : x ≤ 0 <;> simp [gm_oq, gm_rv, va_rf, h]
/-- what the cell k holds -/
def gm_e (ad : Nat → Nat) (cA : Nat → ClassId) (M : gm_M) (k : Nat) : va_E :=
  if (gm_sh k).1 < 20 then .inr ((gm_sh k).1, (List.range (gm_sh k).2).map (fun j => gm_fv ad (gm_fty (gm_sh k).1 j) (M.2.1 (100 * (gm_sh k).1 + j) k)))
  else if (gm_sh k).1 = 21 then .inl (cA 21, (gm_sh k).2, .inr (.inl (fun i => Int64.ofInt (M.2.2 k i))))
  else if (gm_sh k).1 < 24 then .inl (cA (gm_sh k).1, (gm_sh k).2, .inl (fun i => Int32.ofInt (M.2.2 k i)))
  else .inl (cA (gm_sh k).1, (gm_sh k).2, .inr (.inr (.inr (.inr (fun i => gm_oq ad (M.2.2 k i))))))
def gm_ws (sz : Nat) (ad : Nat → Nat) (cA : Nat → ClassId) (M : gm_M) : va_W := (List.range M.1).map (fun i => (sz + i, gm_e ad cA M (i + 1)))
def gm_tys (cA : Nat → ClassId) : List (ClassId × FieldType) := [(cA 20, .int), (cA 21, .long), (cA 22, .char), (cA 23, .boolean), (cA 24, .object "LongNoon$House"), (cA 25, .object "LongNoon$Ground"), (cA 26, .object "LongNoon$Tape")]
/-- the rows that nobody writes -/
def gm_pu (xs : Int → Int) (Ln : Int) (M : gm_M) : Prop := (∀ i, M.2.2 1000 i = gm_abv i) ∧ (∀ i, M.2.2 1001 i = gm_bod i) ∧ (∀ i, M.2.2 1002 i = xs i) ∧ M.2.1 9999 0 = Ln
def gm_W (D : va_G) (sz : Nat) (ad : Nat → Nat) (cA : Nat → ClassId) (xs : Int → Int) (Ln : Int) (M : gm_M) (H : Heap) : Prop :=
  va_P D vwCl (gm_ws sz ad cA M) H ∧ (M.1 < gm_NX → H.size = sz + M.1) ∧ M.1 ≤ gm_NX ∧ gm_pu xs Ln M
def gm_fr (sz : Nat) : Nat → Prop := fun q => sz ≤ q
def gm_nestM : List (String × Nat × MethodName × String) := [("LongNoon$Town", 34, yX2_init, "LongNoon"), ("LongNoon$House", 11, yX5_init, "LongNoon"), ("LongNoon", 26, yX2_init, "LongNoon"), ("LongNoon", 36, yX5_init, "LongNoon"), ("LongNoon", 43, yX4_init, "LongNoon"), ("LongNoon", 50, yX1_init, "LongNoon"), ("LongNoon$Ground", 9, yX0_init, "LongNoon"), ("LongNoon", 61, yX3_init, "LongNoon"), ("LongNoon", 72, yX6_init, "LongNoon"), ("LongNoon$Ground", 29, yX8_isLight, "LongNoon")]
def gm_txL : List Nat := [4, 5, 4, 5, 6, 3]
def gm_txB : List (List Int32) := [[115, 117, 110, 32], [99, 111, 108, 100, 32], [108, 111, 119, 32], [104, 105, 103, 104, 32], [104, 107, 118, 109, 101, 115], [60, 61, 62]]
def gm_txR : List (Nat × String) := [(39, "sun "), (41, "cold "), (43, "low "), (45, "high "), (93, "hkvmes"), (101, "<=>")]
/-- what the tables say beside the words: members of nest mates, rows over classes, texts -/
def gm_Nt (ad : Nat → Nat) (U : State) : Prop :=
  (∀ q ∈ gm_nestM, va_Nw (.methodLinkNest q.1 q.2.1 q.2.2.1 q.2.2.2) U) ∧ va_Nw (.fieldLinkNest "LongNoon$Player" 28 "LongNoon" "ABOVE" "[I" "LongNoon") U ∧
  (va_AO "LongNoon$House" U ∧ va_AO "LongNoon$Ground" U ∧ va_AO "LongNoon$Tape" U) ∧ ∀ (i : Nat) (q : Nat × String), gm_txR[i]? = some q → vk_R "LongNoon$Reader" q.1 q.2 (ad (1003 + i)) U
theorem gm_Nt.warm {ad : Nat → Nat} {s U : State} (hW : s.WarmedH U.vm) (h : gm_Nt ad s) : gm_Nt ad U :=
  ⟨fun q hq => (h.1 q hq).warmM hW, h.2.1.warmF hW, ⟨h.2.2.1.1.moved hW.alike, h.2.2.1.2.1.moved hW.alike, h.2.2.1.2.2.moved hW.alike⟩, fun i q hq => (h.2.2.2 i q hq).warm hW⟩
theorem gm_Nt.same {ad : Nat → Nat} {u U : State} (hv : U.vm = u.vm) (h : gm_Nt ad u) : gm_Nt ad U :=
  ⟨fun q hq => (h.1 q hq).same rfl hv.symm, h.2.1.same rfl hv.symm, ⟨h.2.2.1.1.moved (by rw [hv]; exact Vm.Alike.refl _), h.2.2.1.2.1.moved (by rw [hv]; exact Vm.Alike.refl _), h.2.2.1.2.2.moved (by rw [hv]; exact Vm.Alike.refl _)⟩, fun i q hq => (h.2.2.2 i q hq).same hv⟩
/-- what holds of every state of the run: the rows and texts that nobody writes -/
def gm_T (sz : Nat) (ad : Nat → Nat) (xs : Int → Int) (Ln : Int) (U : State) (H : Heap) : Prop :=
  (va_Z "LongNoon" "ABOVE" "[I" (.ref (ad 1000)) (gm_fr sz) U H ∧ va_T .int (ad 1000) 7 (fun j => .int (Int32.ofInt (gm_abv j))) (gm_fr sz) U H) ∧
  (va_Z "LongNoon$Player" "BODY" "[I" (.ref (ad 1001)) (gm_fr sz) U H ∧ va_T .int (ad 1001) 21 (fun j => .int (Int32.ofInt (gm_bod j))) (gm_fr sz) U H) ∧
  va_T .int (ad 1002) Ln.toNat (fun j => .int (Int32.ofInt (xs j))) (gm_fr sz) U H ∧ vk_S 6 gm_txL gm_txB (fun i => ad (1003 + i)) (fun i => ad (1103 + i)) (gm_fr sz) U H ∧
  va_Z "java/lang/String" "COMPACT_STRINGS" "Z" (.int 1) (gm_fr sz) U H ∧ va_Zq "jdk/internal/util/Preconditions" "SIOOBE_FORMATTER" "Ljava/util/function/BiFunction;" (gm_fr sz) U H
def gm_St (D : va_G) (sz : Nat) (ad : Nat → Nat) (cA : Nat → ClassId) (xs : Int → Int) (Ln : Int) (U : State) (H : Heap) : Prop :=
  va_K D vwCl (gm_tys cA) U ∧ sz ≤ H.size ∧ (∀ k : Nat, 1 ≤ k → k ≤ gm_NX → ad k = sz + (k - 1)) ∧ gm_T sz ad xs Ln U H ∧ gm_Nt ad U ∧ 0 ≤ Ln ∧ Ln ≤ 3072
theorem gm_T.moved {sz : Nat} {ad : Nat → Nat} {xs : Int → Int} {Ln : Int} {u U : State} {H : Heap} (hvm : u.vm.Alike U.vm) (h : gm_T sz ad xs Ln u H) : gm_T sz ad xs Ln U H :=
  ⟨⟨h.1.1.moved hvm, h.1.2.moved hvm⟩, ⟨h.2.1.1.moved hvm, h.2.1.2.moved hvm⟩, h.2.2.1.moved hvm, h.2.2.2.1.moved hvm, h.2.2.2.2.1.moved hvm, h.2.2.2.2.2.moved hvm⟩
theorem gm_T.kept {sz : Nat} {ad : Nat → Nat} {xs : Int → Int} {Ln : Int} {U : State} {H H1 : Heap} (h : gm_T sz ad xs Ln U H) (hq : ∀ a : Nat, a < H.size → ¬ gm_fr sz a → H1[a]? = H[a]?) : gm_T sz ad xs Ln U H1 :=
  ⟨⟨h.1.1.kept hq, h.1.2.kept hq⟩, ⟨h.2.1.1.kept hq, h.2.1.2.kept hq⟩, h.2.2.1.kept hq, h.2.2.2.1.kept hq, h.2.2.2.2.1.kept hq, h.2.2.2.2.2.kept hq⟩
theorem gm_St.warm {D : va_G} {sz : Nat} {ad : Nat → Nat} {cA : Nat → ClassId} {xs : Int → Int} {Ln : Int} {u U : State} {H : Heap} (hW : u.WarmedH U.vm) (h : gm_St D sz ad cA xs Ln u H) : gm_St D sz ad cA xs Ln U H :=
  ⟨va_K.moved hW.alike h.1, h.2.1, h.2.2.1, h.2.2.2.1.moved hW.alike, h.2.2.2.2.1.warm hW, h.2.2.2.2.2⟩
theorem gm_St.same {D : va_G} {sz : Nat} {ad : Nat → Nat} {cA : Nat → ClassId} {xs : Int → Int} {Ln : Int} {u U : State} {H : Heap} (hv : U.vm = u.vm) (h : gm_St D sz ad cA xs Ln u H) : gm_St D sz ad cA xs Ln U H :=
  ⟨va_K.moved (by rw [hv]; exact Vm.Alike.refl _) h.1, h.2.1, h.2.2.1, h.2.2.2.1.moved (by rw [hv]; exact Vm.Alike.refl _), h.2.2.2.2.1.same hv, h.2.2.2.2.2⟩
theorem gm_St.kept {D : va_G} {sz : Nat} {ad : Nat → Nat} {cA : Nat → ClassId} {xs : Int → Int} {Ln : Int} {U : State} {H H1 : Heap} (h : gm_St D sz ad cA xs Ln U H) (hz : H.size ≤ H1.size) (hq : ∀ a : Nat, a < H.size → ¬ gm_fr sz a → H1[a]? = H[a]?) : gm_St D sz ad cA xs Ln U H1 :=
  ⟨h.1, Nat.le_trans h.2.1 hz, h.2.2.1, h.2.2.2.1.kept hq, h.2.2.2.2⟩
theorem gm_ws_len (sz : Nat) (ad : Nat → Nat) (cA : Nat → ClassId) (M : gm_M) : (gm_ws sz ad cA M).length = M.1 := by simp [gm_ws]
theorem gm_ws_at {sz : Nat} {ad : Nat → Nat} {cA : Nat → ClassId} {M : gm_M} {i : Nat} (h : i < M.1) : (gm_ws sz ad cA M)[i]? = some (sz + i, gm_e ad cA M (i + 1)) := by
  simp [gm_ws, h]
theorem gm_ws_D (sz : Nat) (ad : Nat → Nat) (cA : Nat → ClassId) (M : gm_M) : va_D (gm_fr sz) (gm_ws sz ad cA M) := by
  have key : ∀ (i : Nat) (p : Nat × va_E), (gm_ws sz ad cA M)[i]? = some p → p.1 = sz + i := by
    intro i p h
    have hi : i < M.1 := by
      have := (List.getElem?_eq_some_iff.mp h).1
      rwa [gm_ws_len] at this
    rw [gm_ws_at hi] at h
    cases h
    rfl
  refine ⟨fun i j p q hi hj h => ?_, fun k q hk => ?_⟩
  · have h1 := key i p hi
    have h2 := key j q hj
    omega
  · have h1 := key k q hk
    show sz ≤ q.1
    omega
/-- the memory that differs in one cell alone -/
theorem gm_ws_set {sz : Nat} {ad : Nat → Nat} {cA : Nat → ClassId} {M M' : gm_M} {i : Nat} {e : va_E} (h1 : M'.1 = M.1) (hi : i < M.1) (he : gm_e ad cA M' (i + 1) = e) (ho : ∀ j : Nat, j ≠ i → gm_e ad cA M' (j + 1) = gm_e ad cA M (j + 1)) : (gm_ws sz ad cA M).set i (sz + i, e) = gm_ws sz ad cA M' := by
  apply List.ext_getElem?
  intro j
  by_cases hj : j = i
  · subst hj
    rw [List.getElem?_set_self (by rw [gm_ws_len]; exact hi), gm_ws_at (by rw [h1]; exact hi), he]
  · rw [List.getElem?_set_ne (Ne.symm hj)]
    by_cases hl : j < M.1
    · rw [gm_ws_at hl, gm_ws_at (by rw [h1]; exact hl), ho j hj]
    · rw [List.getElem?_eq_none (by rw [gm_ws_len]; omega), List.getElem?_eq_none (by rw [gm_ws_len]; omega)]
theorem gm_isO_spec {ci : Nat} {M : gm_M} {o : Int} (h : gm_isO ci M o = true) : ∃ i : Nat, o = ((i + 1 : Nat) : Int) ∧ i < M.1 ∧ (gm_sh (i + 1)).1 = ci := by
  simp only [gm_isO, Bool.and_eq_true, decide_eq_true_eq, beq_iff_eq] at h
  obtain ⟨h1, h2, h3⟩ := h
  refine ⟨o.toNat - 1, by omega, by omega, ?_⟩
  rw [show o.toNat - 1 + 1 = o.toNat by omega]
  exact h3
theorem gm_eO {ad : Nat → Nat} {cA : Nat → ClassId} {M : gm_M} {k ci : Nat} (h : (gm_sh k).1 = ci) (hc : ci < 20) : gm_e ad cA M k = .inr (ci, (List.range (gm_sh k).2).map (fun j => gm_fv ad (gm_fty ci j) (M.2.1 (100 * ci + j) k))) := by
  subst h
  simp [gm_e, hc]
theorem gm_eL {ad : Nat → Nat} {cA : Nat → ClassId} {M : gm_M} {k : Nat} (h : (gm_sh k).1 = 21) : gm_e ad cA M k = .inl (cA 21, (gm_sh k).2, .inr (.inl (fun i => Int64.ofInt (M.2.2 k i)))) := by
  simp [gm_e, h]
theorem gm_eI {ad : Nat → Nat} {cA : Nat → ClassId} {M : gm_M} {k kd : Nat} (h : (gm_sh k).1 = kd) (hk : kd = 20 ∨ kd = 22 ∨ kd = 23) : gm_e ad cA M k = .inl (cA kd, (gm_sh k).2, .inl (fun i => Int32.ofInt (M.2.2 k i))) := by
  subst h
  rcases hk with hk | hk | hk <;> simp [gm_e, hk]
theorem gm_eR {ad : Nat → Nat} {cA : Nat → ClassId} {M : gm_M} {k kd : Nat} (h : (gm_sh k).1 = kd) (hk : 24 ≤ kd) : gm_e ad cA M k = .inl (cA kd, (gm_sh k).2, .inr (.inr (.inr (.inr (fun i => gm_oq ad (M.2.2 k i)))))) := by
  subst h
  have h1 : ¬ (gm_sh k).1 < 20 := by omega
  have h2 : ¬ (gm_sh k).1 = 21 := by omega
  have h3 : ¬ (gm_sh k).1 < 24 := by omega
  simp [gm_e, h1, h2, h3]
/-- two memories that agree on a cell -/
theorem gm_e_congr {ad : Nat → Nat} {cA : Nat → ClassId} {M M' : gm_M} {k : Nat} (hF : ∀ f, M'.2.1 f k = M.2.1 f k) (hA : ∀ i, M'.2.2 k i = M.2.2 k i) : gm_e ad cA M' k = gm_e ad cA M k := by
  simp only [gm_e, hF, hA]
/-- the objects' classes are all of one size -/
theorem gm_sh_O : ∀ k, k < gm_NX → ∀ ci, ci < 10 → (gm_sh (k + 1)).1 = ci → (vwCl[ci]?.map (fun q => q.2.2)) = some (gm_sh (k + 1)).2 := by decide +kernel
-- locals
def gm_LR (ad : Nat → Nat) (n : Nat) (L : gm_Ls) (ls : Array Slot) : Prop := ls.size = n ∧ lv_wf ls ∧ ∀ (i : Nat) (v : gm_V), gm_lget L i = some v → ls[i]? = some (.val (gm_rv ad v))
theorem gm_lget_nl {x : Option gm_V} {u : gm_V} (h : gm_nl x = some u) : x = some u ∧ ∀ y, u ≠ .inr (.inl y) := by
  match x, h with
  | some (.inl a), h => cases h; exact ⟨rfl, fun y q => by cases q⟩
  | some (.inr (.inr a)), h => cases h; exact ⟨rfl, fun y q => by cases q⟩
theorem gm_lset_get : ∀ (L : gm_Ls) (i : Nat) (v : gm_V) (j : Nat) (u : gm_V), gm_lget (gm_lset L i v) j = some u → (j = i ∧ u = v) ∨ (j ≠ i ∧ gm_lget L j = some u ∧ ¬ (j + 1 = i ∧ ∃ y, u = .inr (.inl y)))
  | [], _, _, _, _, h => by simp [gm_lset, gm_lget] at h
  | x :: xs, 0, v, 0, u, h => by
    simp only [gm_lset, gm_lget, Option.some.injEq] at h
    exact Or.inl ⟨rfl, h.symm⟩
  | x :: xs, 0, v, j + 1, u, h => by
    simp only [gm_lset, gm_lget] at h
    exact Or.inr ⟨by omega, by simpa [gm_lget] using h, by omega⟩
  | x :: xs, 1, v, 0, u, h => by
    simp only [gm_lset, gm_lget] at h
    obtain ⟨h1, h2⟩ := gm_lget_nl h
    exact Or.inr ⟨by omega, by simpa [gm_lget] using h1, fun ⟨_, y, q⟩ => h2 y q⟩
  | x :: xs, 1, v, j + 1, u, h => by
    simp only [gm_lset, gm_lget] at h
    rcases gm_lset_get xs 0 v j u h with ⟨h1, h2⟩ | ⟨h1, h2, h3⟩
    · exact Or.inl ⟨by omega, h2⟩
    · exact Or.inr ⟨by omega, by simpa [gm_lget] using h2, by omega⟩
  | x :: xs, n + 2, v, 0, u, h => by
    simp only [gm_lset, gm_lget] at h
    exact Or.inr ⟨by omega, by simpa [gm_lget] using h, by omega⟩
  | x :: xs, n + 2, v, j + 1, u, h => by
    simp only [gm_lset, gm_lget] at h
    rcases gm_lset_get xs (n + 1) v j u h with ⟨h1, h2⟩ | ⟨h1, h2, h3⟩
    · exact Or.inl ⟨by omega, h2⟩
    · exact Or.inr ⟨by omega, by simpa [gm_lget] using h2, fun ⟨q1, q2⟩ => h3 ⟨by omega, q2⟩⟩
theorem gm_cat2 {ad : Nat → Nat} {v : gm_V} (h : (gm_rv ad v).category = 2) : ∃ y, v = .inr (.inl y) := by
  match v, h with
  | .inl x, h => simp [gm_rv, Value.category] at h
  | .inr (.inl x), _ => exact ⟨x, rfl⟩
  | .inr (.inr r), h =>
    by_cases q : r ≤ 0 <;> simp [gm_rv, q, Value.category] at h
/-- the locals as a list, for the rows that store -/
def gm_ll (ad : Nat → Nat) (n : Nat) (L : gm_Ls) : List (Nat × Value) := (List.range n).filterMap (fun i => (gm_lget L i).map (fun v => (i, gm_rv ad v)))
theorem gm_LR.has {ad : Nat → Nat} {n : Nat} {L : gm_Ls} {ls : Array Slot} (h : gm_LR ad n L ls) : lv_has ls n (gm_ll ad n L) := by
  refine ⟨h.1, h.2.1, fun q hq => ?_⟩
  obtain ⟨i, -, hi⟩ := List.mem_filterMap.mp hq
  cases hv : gm_lget L i with
  | none => rw [hv] at hi; cases hi
  | some v =>
    rw [hv] at hi
    cases hi
    exact h.2.2 i v hv
theorem gm_ll_mem {ad : Nat → Nat} {n : Nat} {L : gm_Ls} {ls : Array Slot} (h : gm_LR ad n L ls) {j : Nat} {u : gm_V} (hu : gm_lget L j = some u) : (j, gm_rv ad u) ∈ gm_ll ad n L := by
  have hj : j < n := by
    have := (Array.getElem?_eq_some_iff.mp (h.2.2 j u hu)).1
    rwa [h.1] at this
  exact List.mem_filterMap.mpr ⟨j, List.mem_range.mpr hj, by rw [hu]; rfl⟩
theorem gm_LR.set {ad : Nat → Nat} {n : Nat} {L : gm_Ls} {ls ls' : Array Slot} {i : Nat} {v : gm_V} {w : Value} (h : gm_LR ad n L ls) (hw : gm_rv ad v = w) (h' : lv_has ls' n ((i, w) :: (gm_ll ad n L).filter (fun q => !(q.1 == i) && !(q.1 + 1 == i && q.2.category == 2)))) : gm_LR ad n (gm_lset L i v) ls' := by
  subst hw
  refine ⟨h'.1, h'.2.1, fun j u hu => ?_⟩
  rcases gm_lset_get L i v j u hu with ⟨rfl, rfl⟩ | ⟨h1, h2, h3⟩
  · exact h'.2.2 _ List.mem_cons_self
  · refine h'.2.2 (j, gm_rv ad u) (List.mem_cons_of_mem _ (List.mem_filter.mpr ⟨gm_ll_mem h h2, ?_⟩))
    have hc : (j + 1 == i && (gm_rv ad u).category == 2) = false := by
      cases hb : (j + 1 == i && (gm_rv ad u).category == 2) with
      | false => rfl
      | true =>
        simp only [Bool.and_eq_true, beq_iff_eq] at hb
        exact absurd ⟨hb.1, gm_cat2 hb.2⟩ h3
    simp [h1, hc]
theorem gm_wd_cat (ad : Nat → Nat) : ∀ st : List gm_V, ((st.map (gm_rv ad)).map fun v => v.category).sum = gm_wd st
  | [] => rfl
  | .inl x :: st => by
    simp only [List.map_cons, List.sum_cons, gm_wd]
    rw [← gm_wd_cat ad st]
    simp [gm_rv, Value.category]
    omega
  | .inr (.inl x) :: st => by
    simp only [List.map_cons, List.sum_cons, gm_wd]
    rw [← gm_wd_cat ad st]
    simp [gm_rv, Value.category]
    omega
  | .inr (.inr x) :: st => by
    simp only [List.map_cons, List.sum_cons, gm_wd]
    rw [← gm_wd_cat ad st]
    by_cases q : x ≤ 0 <;> simp [gm_rv, q, Value.category] <;> omega
