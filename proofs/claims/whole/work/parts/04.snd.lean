/-! THE SMALL MACHINE'S STEPS, held against the rows of the kit: what an action does is what its instruction does -/
def gm_ok : List Cond := lw_tbl.filter goodWord
theorem gm_okI {w : Cond} (i : Nat) (h : lw_tbl[i]? = some w) (hg : goodWord w = true) : w ∈ gm_ok := List.mem_filter.mpr ⟨List.mem_of_getElem? h, hg⟩
def gm_rm (dl mc ms : Nat) : Room := { frames := dl + 10, cells := mc, slots := ms, locals := (dl + 10) * 64 }
/-- the machine stands in a method at pc, with these locals, this stack, this memory: it comes to Q -/
def gm_G (D : va_G) (sz : Nat) (ad : Nat → Nat) (cA : Nat → ClassId) (xs : Int → Int) (Ln : Int) (l : Launch) (n n0 : Nat) (p : Program) (e : Env) (R : Room) (s : State) (m : MethodId) (args : Array Value) (below : List Frame) (meth : Method) (c : Code) (Q : State → Prop) (pc : Nat) (L : gm_Ls) (st : List gm_V) (M : gm_M) : Prop :=
  ∀ (H : Heap) (locs : List Loc) (ls : Array Slot), gm_W D sz ad cA xs Ln M H → va_S (gm_fr sz) s.heap H locs → gm_LR ad n L ls → n0 ≤ M.1 → W p l e R s m args below meth c H locs (M.1 - n0) (gm_sl M.1 - gm_sl n0) Q (F0 m pc ls (st.map (gm_rv ad)))
/-- which return a value leaves by: 0 void, 1 int, 2 boolean, 3 char, 4 long, 5 a reference -/
def gm_rok (cc : ByteArray) (pc rk : Nat) : Option gm_V → Prop
  | none => rk = 0 ∧ decode cc pc = .ok (.return_, 1)
  | some (.inl x) => decode cc pc = .ok (.ireturn, 1) ∧ (rk = 1 ∨ (rk = 2 ∧ (x = 0 ∨ x = 1)) ∨ (rk = 3 ∧ 0 ≤ x ∧ x < 65536))
  | some (.inr (.inl _)) => rk = 4 ∧ decode cc pc = .ok (.lreturn, 1)
  | some (.inr (.inr _)) => rk = 5 ∧ decode cc pc = .ok (.areturn, 1)
def gm_Cx (D : va_G) (sz : Nat) (ad : Nat → Nat) (cA : Nat → ClassId) (xs : Int → Int) (Ln : Int) (cc : ByteArray) (own : String) (n : Nat) (isI : Bool) (rk : Nat) (dl n0 top : Nat) (p : Program) (R : Room) (s : State) (m : MethodId) (args : Array Value) (meth : Method) (c : Code) : Prop :=
  p.tables.exec = Jvm.exec ∧ c.code = cc ∧ c.maxLocals = n ∧ s.vm.findClass own = some m.cls ∧ (∀ w ∈ gm_ok, w.before args s = true) ∧ gm_St D sz ad cA xs Ln s s.heap ∧ (isI = true → meth.name = "<init>") ∧
  (top - n0 ≤ R.cells ∧ gm_sl top - gm_sl n0 ≤ R.slots) ∧ dl + 11 ≤ R.frames ∧ (dl + 11) * 64 ≤ R.locals
/-- the returns lead to Q -/
def gm_HR (D : va_G) (sz : Nat) (ad : Nat → Nat) (cA : Nat → ClassId) (xs : Int → Int) (Ln : Int) (l : Launch) (cc : ByteArray) (rk n0 : Nat) (p : Program) (e : Env) (R : Room) (s : State) (m : MethodId) (args : Array Value) (below : List Frame) (meth : Method) (c : Code) (Q : State → Prop) (X : Option gm_V × gm_M) : Prop :=
  ∀ (pc : Nat) (H : Heap) (locs : List Loc) (ls : Array Slot), gm_rok cc pc rk X.1 → gm_W D sz ad cA xs Ln X.2 H → va_S (gm_fr sz) s.heap H locs → n0 ≤ X.2.1 → W p l e R s m args below meth c H locs (X.2.1 - n0) (gm_sl X.2.1 - gm_sl n0) Q (F0 m pc ls (X.1.toList.map (gm_rv ad)))
/-- a method's contract: from the memory M, with these arguments, to this answer and memory -/
def gm_C (D : va_G) (sz : Nat) (ad : Nat → Nat) (cA : Nat → ClassId) (xs : Int → Int) (Ln : Int) (l : Launch) (dl : Nat) (y : MethodName) (cc : ByteArray) (n : Nat) (ret : Option FieldType) (as : List gm_V) (M : gm_M) (r : Option gm_V) (M' : gm_M) : Prop :=
  Met l y (Cond.code y cc n ret :: gm_ok) (gm_rm dl (M'.1 - M.1) (gm_sl M'.1 - gm_sl M.1))
    (va_Pc (as.map (gm_rv ad)) (fun U => gm_W D sz ad cA xs Ln M U.heap ∧ gm_St D sz ad cA xs Ln U U.heap))
    (fun _ st o t => (o = .returned (r.map (gm_rv ad)) ∧ gm_W D sz ad cA xs Ln M' t.heap) ∧ va_F (gm_fr sz) st t) (M'.1 - M.1) (gm_sl M'.1 - gm_sl M.1) (gm_fr sz)
/-- the methods by number: name, code, locals, answer -/
abbrev gm_MT : Type := Nat → MethodName × ByteArray × Nat × Option FieldType
def gm_HC (D : va_G) (sz : Nat) (ad : Nat → Nat) (cA : Nat → ClassId) (xs : Int → Int) (Ln : Int) (l : Launch) (mt : gm_MT) (dl : Nat) (C : gm_O) : Prop :=
  ∀ (mid : Nat) (as : List gm_V) (M : gm_M) (r : Option gm_V) (M' : gm_M), C mid as M = some (r, M') → M.1 ≤ M'.1 ∧ gm_C D sz ad cA xs Ln l dl (mt mid).1 (mt mid).2.1 (mt mid).2.2.1 (mt mid).2.2.2 as M r M'
def gm_Mn (K : gm_K) : Prop := ∀ L st M r M', K L st M = some (r, M') → M.1 ≤ M'.1
def gm_MnC (C : gm_O) : Prop := ∀ mid as M r M', C mid as M = some (r, M') → M.1 ≤ M'.1
/-- an action stands for the instruction at pc; pc' is the next one's place, bpc the blocks' places -/
def gm_S (D : va_G) (sz : Nat) (ad : Nat → Nat) (cA : Nat → ClassId) (xs : Int → Int) (Ln : Int) (l : Launch) (mt : gm_MT) (cc : ByteArray) (own : String) (n : Nat) (isI : Bool) (rk : Nat) (bpc : Nat → Nat) (pc pc' : Nat) (a : gm_A) : Prop :=
  ∀ (dl n0 : Nat) (p : Program) (e : Env) (R : Room) (s : State) (m : MethodId) (args : Array Value) (below : List Frame) (meth : Method) (c : Code) (Q : State → Prop) (C : gm_O) (J : Nat → gm_K) (N : gm_K) (X : Option gm_V × gm_M),
    gm_Cx D sz ad cA xs Ln cc own n isI rk dl n0 X.2.1 p R s m args meth c → gm_HR D sz ad cA xs Ln l cc rk n0 p e R s m args below meth c Q X → gm_HC D sz ad cA xs Ln l mt dl C → (∀ b, gm_Mn (J b)) → gm_Mn N →
    (∀ L st M, N L st M = some X → gm_G D sz ad cA xs Ln l n n0 p e R s m args below meth c Q pc' L st M) → (∀ b L st M, J b L st M = some X → gm_G D sz ad cA xs Ln l n n0 p e R s m args below meth c Q (bpc b) L st M) →
    ∀ L st M, a C J N L st M = some X → gm_G D sz ad cA xs Ln l n n0 p e R s m args below meth c Q pc L st M

theorem gm_addI (x y : Int) : Int32.ofInt x + Int32.ofInt y = Int32.ofInt (x + y) := by
  apply Int32.toBitVec.inj
  simp [BitVec.ofInt_add]
theorem gm_o_add (x y : Int) : Int32.ofInt (gm_add x y) = Int32.ofInt x + Int32.ofInt y := (gm_addI x y).symm
theorem gm_o_mul (x y : Int) : Int32.ofInt (gm_mul x y) = Int32.ofInt x * Int32.ofInt y := by
  unfold gm_mul
  apply Int32.toBitVec.inj
  simp [BitVec.ofInt_mul]
theorem gm_o_neg (x : Int) : Int32.ofInt (gm_neg x) = -Int32.ofInt x := Int32.neg_ofInt.symm
theorem gm_o_sub (x y : Int) : Int32.ofInt (gm_sub x y) = Int32.ofInt x - Int32.ofInt y := by
  have h : gm_sub x y = x + -y := by unfold gm_sub; omega
  rw [h, ← gm_addI, ← Int32.neg_ofInt, Int32.sub_eq_add_neg]
theorem gm_o_and (x y : Int) : Int32.ofInt (gm_and x y) = Int32.ofInt x &&& Int32.ofInt y := Int32.ofInt_toInt _
theorem gm_o_or (x y : Int) : Int32.ofInt (gm_or x y) = Int32.ofInt x ||| Int32.ofInt y := Int32.ofInt_toInt _
theorem gm_o_xor (x y : Int) : Int32.ofInt (gm_xor x y) = Int32.ofInt x ^^^ Int32.ofInt y := Int32.ofInt_toInt _
theorem gm_o_shl (x y : Int) : Int32.ofInt (gm_shl x y) = Int32.ofInt x <<< (Int32.ofInt y &&& 31) := Int32.ofInt_toInt _
theorem gm_o_shr (x y : Int) : Int32.ofInt (gm_shr x y) = Int32.ofInt x >>> (Int32.ofInt y &&& 31) := Int32.ofInt_toInt _
theorem gm_o_div (x y : Int) : Int32.ofInt (gm_div x y) = Int32.ofInt x / Int32.ofInt y := Int32.ofInt_toInt _
theorem gm_o_rem (x y : Int) : Int32.ofInt (gm_rem x y) = Int32.ofInt x - Int32.ofInt x / Int32.ofInt y * Int32.ofInt y := Int32.ofInt_toInt _
theorem gm_o_land (x y : Int) : Int64.ofInt (gm_land x y) = Int64.ofInt x &&& Int64.ofInt y := Int64.ofInt_toInt _
theorem gm_o_lor (x y : Int) : Int64.ofInt (gm_lor x y) = Int64.ofInt x ||| Int64.ofInt y := Int64.ofInt_toInt _
theorem gm_w_inj {x y : Int} : gm_w x = gm_w y ↔ Int32.ofInt x = Int32.ofInt y := Int32.toInt_inj
theorem gm_w_lt {x y : Int} : gm_w x < gm_w y ↔ Int32.ofInt x < Int32.ofInt y := Int32.lt_iff_toInt_lt.symm
theorem gm_w_0 {x : Int} : gm_w x = 0 ↔ Int32.ofInt x = 0 := by
  have h : gm_w x = gm_w 0 ↔ Int32.ofInt x = Int32.ofInt 0 := gm_w_inj
  exact h
theorem gm_w_lt0 {x : Int} : gm_w x < 0 ↔ Int32.ofInt x < 0 := by
  have h : gm_w x < gm_w 0 ↔ Int32.ofInt x < Int32.ofInt 0 := gm_w_lt
  exact h
theorem gm_w_gt0 {x : Int} : 0 < gm_w x ↔ 0 < Int32.ofInt x := by
  have h : gm_w 0 < gm_w x ↔ Int32.ofInt 0 < Int32.ofInt x := gm_w_lt
  exact h

theorem gm_s_iconst {D : va_G} {sz : Nat} {ad : Nat → Nat} {cA : Nat → ClassId} {xs : Int → Int} {Ln : Int} {l : Launch} {mt : gm_MT} {cc : ByteArray} {own : String} {n : Nat} {isI : Bool} {rk : Nat} {bpc : Nat → Nat} {pc : Nat} {x : Int} (hdg : decode cc pc = .ok (.iconst x, 1)) : gm_S D sz ad cA xs Ln l mt cc own n isI rk bpc pc (pc + 1) (gm_push (.inl x)) := by
  intro dl n0 p e R s m args below meth c Q C J N X hcx hr hC hmJ hmN hN hJ L st M h H locs ls hW hS hL hn
  obtain ⟨hx, hb, hml, hown, hts, hSt, hin, hroom, hfr, hlo⟩ := id hcx
  exact lv_iconst hx hb hdg rfl (hN L _ M h H locs ls hW hS hL hn)

theorem gm_s_bipush {D : va_G} {sz : Nat} {ad : Nat → Nat} {cA : Nat → ClassId} {xs : Int → Int} {Ln : Int} {l : Launch} {mt : gm_MT} {cc : ByteArray} {own : String} {n : Nat} {isI : Bool} {rk : Nat} {bpc : Nat → Nat} {pc : Nat} {x : Int} (hdg : decode cc pc = .ok (.bipush x, 2)) (hv : (Int8.ofInt x).toInt32 = Int32.ofInt x) : gm_S D sz ad cA xs Ln l mt cc own n isI rk bpc pc (pc + 2) (gm_push (.inl x)) := by
  intro dl n0 p e R s m args below meth c Q C J N X hcx hr hC hmJ hmN hN hJ L st M h H locs ls hW hS hL hn
  obtain ⟨hx, hb, hml, hown, hts, hSt, hin, hroom, hfr, hlo⟩ := id hcx
  exact lv_bipush hx hb hdg hv (hN L _ M h H locs ls hW hS hL hn)

theorem gm_s_sipush {D : va_G} {sz : Nat} {ad : Nat → Nat} {cA : Nat → ClassId} {xs : Int → Int} {Ln : Int} {l : Launch} {mt : gm_MT} {cc : ByteArray} {own : String} {n : Nat} {isI : Bool} {rk : Nat} {bpc : Nat → Nat} {pc : Nat} {x : Int} (hdg : decode cc pc = .ok (.sipush x, 3)) (hv : (Int16.ofInt x).toInt32 = Int32.ofInt x) : gm_S D sz ad cA xs Ln l mt cc own n isI rk bpc pc (pc + 3) (gm_push (.inl x)) := by
  intro dl n0 p e R s m args below meth c Q C J N X hcx hr hC hmJ hmN hN hJ L st M h H locs ls hW hS hL hn
  obtain ⟨hx, hb, hml, hown, hts, hSt, hin, hroom, hfr, hlo⟩ := id hcx
  exact lv_sipush hx hb hdg hv (hN L _ M h H locs ls hW hS hL hn)

theorem gm_s_lconst {D : va_G} {sz : Nat} {ad : Nat → Nat} {cA : Nat → ClassId} {xs : Int → Int} {Ln : Int} {l : Launch} {mt : gm_MT} {cc : ByteArray} {own : String} {n : Nat} {isI : Bool} {rk : Nat} {bpc : Nat → Nat} {pc : Nat} {k : Fin 2} {x : Int} (hdg : decode cc pc = .ok (.lconst k, 1)) (hv : Int64.ofNat (k : Nat) = Int64.ofInt x) : gm_S D sz ad cA xs Ln l mt cc own n isI rk bpc pc (pc + 1) (gm_push (.inr (.inl x))) := by
  intro dl n0 p e R s m args below meth c Q C J N X hcx hr hC hmJ hmN hN hJ L st M h H locs ls hW hS hL hn
  obtain ⟨hx, hb, hml, hown, hts, hSt, hin, hroom, hfr, hlo⟩ := id hcx
  exact lv_lconst hx hb hdg hv (hN L _ M h H locs ls hW hS hL hn)

theorem gm_s_ldc2 {D : va_G} {sz : Nat} {ad : Nat → Nat} {cA : Nat → ClassId} {xs : Int → Int} {Ln : Int} {l : Launch} {mt : gm_MT} {cc : ByteArray} {own : String} {n : Nat} {isI : Bool} {rk : Nat} {bpc : Nat → Nat} {pc : Nat} {x : Int} {v : Int64} {k : Nat} (hw : Cond.constantLong own k v ∈ gm_ok) (hv : v = Int64.ofInt x) (hdg : decode cc pc = .ok (.ldc2_w k, 3)) : gm_S D sz ad cA xs Ln l mt cc own n isI rk bpc pc (pc + 3) (gm_push (.inr (.inl x))) := by
  intro dl n0 p e R s m args below meth c Q C J N X hcx hr hC hmJ hmN hN hJ L st M h H locs ls hW hS hL hn
  obtain ⟨hx, hb, hml, hown, hts, hSt, hin, hroom, hfr, hlo⟩ := id hcx
  subst hv
  exact lv_ldc2 hx hb hown (hts _ hw) hdg (hN L _ M h H locs ls hW hS hL hn)

theorem gm_s_null {D : va_G} {sz : Nat} {ad : Nat → Nat} {cA : Nat → ClassId} {xs : Int → Int} {Ln : Int} {l : Launch} {mt : gm_MT} {cc : ByteArray} {own : String} {n : Nat} {isI : Bool} {rk : Nat} {bpc : Nat → Nat} {pc : Nat} (hdg : decode cc pc = .ok (.aconst_null, 1)) : gm_S D sz ad cA xs Ln l mt cc own n isI rk bpc pc (pc + 1) (gm_push (.inr (.inr 0))) := by
  intro dl n0 p e R s m args below meth c Q C J N X hcx hr hC hmJ hmN hN hJ L st M h H locs ls hW hS hL hn
  obtain ⟨hx, hb, hml, hown, hts, hSt, hin, hroom, hfr, hlo⟩ := id hcx
  exact lv_null hx hb hdg (hN L _ M h H locs ls hW hS hL hn)

theorem gm_s_iload_n {D : va_G} {sz : Nat} {ad : Nat → Nat} {cA : Nat → ClassId} {xs : Int → Int} {Ln : Int} {l : Launch} {mt : gm_MT} {cc : ByteArray} {own : String} {n : Nat} {isI : Bool} {rk : Nat} {bpc : Nat → Nat} {pc : Nat} {k : Fin 4} {i : Nat} (hdg : decode cc pc = .ok (.iload_n k, 1)) (hi : (k : Nat) = i) : gm_S D sz ad cA xs Ln l mt cc own n isI rk bpc pc (pc + 1) (gm_iload i) := by
  intro dl n0 p e R s m args below meth c Q C J N X hcx hr hC hmJ hmN hN hJ L st M h H locs ls hW hS hL hn
  obtain ⟨hx, hb, hml, hown, hts, hSt, hin, hroom, hfr, hlo⟩ := id hcx
  unfold gm_iload at h
  split at h
  · next x hx0 =>
    exact lv_iload_n hx hb hdg hi (hL.2.2 i _ hx0) (hN L _ M h H locs ls hW hS hL hn)
  · cases h

theorem gm_s_iload {D : va_G} {sz : Nat} {ad : Nat → Nat} {cA : Nat → ClassId} {xs : Int → Int} {Ln : Int} {l : Launch} {mt : gm_MT} {cc : ByteArray} {own : String} {n : Nat} {isI : Bool} {rk : Nat} {bpc : Nat → Nat} {pc : Nat} {i : Nat} (hdg : decode cc pc = .ok (.iload i, 2)) : gm_S D sz ad cA xs Ln l mt cc own n isI rk bpc pc (pc + 2) (gm_iload i) := by
  intro dl n0 p e R s m args below meth c Q C J N X hcx hr hC hmJ hmN hN hJ L st M h H locs ls hW hS hL hn
  obtain ⟨hx, hb, hml, hown, hts, hSt, hin, hroom, hfr, hlo⟩ := id hcx
  unfold gm_iload at h
  split at h
  · next x hx0 =>
    exact lv_iload hx hb hdg (hL.2.2 i _ hx0) (hN L _ M h H locs ls hW hS hL hn)
  · cases h

theorem gm_s_lload_n {D : va_G} {sz : Nat} {ad : Nat → Nat} {cA : Nat → ClassId} {xs : Int → Int} {Ln : Int} {l : Launch} {mt : gm_MT} {cc : ByteArray} {own : String} {n : Nat} {isI : Bool} {rk : Nat} {bpc : Nat → Nat} {pc : Nat} {k : Fin 4} {i : Nat} (hdg : decode cc pc = .ok (.lload_n k, 1)) (hi : (k : Nat) = i) : gm_S D sz ad cA xs Ln l mt cc own n isI rk bpc pc (pc + 1) (gm_lload i) := by
  intro dl n0 p e R s m args below meth c Q C J N X hcx hr hC hmJ hmN hN hJ L st M h H locs ls hW hS hL hn
  obtain ⟨hx, hb, hml, hown, hts, hSt, hin, hroom, hfr, hlo⟩ := id hcx
  unfold gm_lload at h
  split at h
  · next x hx0 =>
    exact lv_lload_n hx hb hdg hi (hL.2.2 i _ hx0) (hN L _ M h H locs ls hW hS hL hn)
  · cases h

theorem gm_s_lload {D : va_G} {sz : Nat} {ad : Nat → Nat} {cA : Nat → ClassId} {xs : Int → Int} {Ln : Int} {l : Launch} {mt : gm_MT} {cc : ByteArray} {own : String} {n : Nat} {isI : Bool} {rk : Nat} {bpc : Nat → Nat} {pc : Nat} {i : Nat} (hdg : decode cc pc = .ok (.lload i, 2)) : gm_S D sz ad cA xs Ln l mt cc own n isI rk bpc pc (pc + 2) (gm_lload i) := by
  intro dl n0 p e R s m args below meth c Q C J N X hcx hr hC hmJ hmN hN hJ L st M h H locs ls hW hS hL hn
  obtain ⟨hx, hb, hml, hown, hts, hSt, hin, hroom, hfr, hlo⟩ := id hcx
  unfold gm_lload at h
  split at h
  · next x hx0 =>
    exact lv_lload hx hb hdg (hL.2.2 i _ hx0) (hN L _ M h H locs ls hW hS hL hn)
  · cases h

theorem gm_s_aload_n {D : va_G} {sz : Nat} {ad : Nat → Nat} {cA : Nat → ClassId} {xs : Int → Int} {Ln : Int} {l : Launch} {mt : gm_MT} {cc : ByteArray} {own : String} {n : Nat} {isI : Bool} {rk : Nat} {bpc : Nat → Nat} {pc : Nat} {k : Fin 4} {i : Nat} (hdg : decode cc pc = .ok (.aload_n k, 1)) (hi : (k : Nat) = i) : gm_S D sz ad cA xs Ln l mt cc own n isI rk bpc pc (pc + 1) (gm_aload i) := by
  intro dl n0 p e R s m args below meth c Q C J N X hcx hr hC hmJ hmN hN hJ L st M h H locs ls hW hS hL hn
  obtain ⟨hx, hb, hml, hown, hts, hSt, hin, hroom, hfr, hlo⟩ := id hcx
  unfold gm_aload at h
  split at h
  · next x hx0 =>
    have hv := hL.2.2 i _ hx0
    have g := hN L _ M h H locs ls hW hS hL hn
    by_cases q : x ≤ 0
    · rw [List.map_cons, gm_rv_null ad q] at g
      rw [gm_rv_null ad q] at hv
      exact lv_aload_nN hx hb hdg hi hv g
    · rw [List.map_cons, gm_rv_ref ad (by omega)] at g
      rw [gm_rv_ref ad (by omega)] at hv
      exact lv_aload_n hx hb hdg hi hv g
  · cases h

theorem gm_s_aload {D : va_G} {sz : Nat} {ad : Nat → Nat} {cA : Nat → ClassId} {xs : Int → Int} {Ln : Int} {l : Launch} {mt : gm_MT} {cc : ByteArray} {own : String} {n : Nat} {isI : Bool} {rk : Nat} {bpc : Nat → Nat} {pc : Nat} {i : Nat} (hdg : decode cc pc = .ok (.aload i, 2)) : gm_S D sz ad cA xs Ln l mt cc own n isI rk bpc pc (pc + 2) (gm_aload i) := by
  intro dl n0 p e R s m args below meth c Q C J N X hcx hr hC hmJ hmN hN hJ L st M h H locs ls hW hS hL hn
  obtain ⟨hx, hb, hml, hown, hts, hSt, hin, hroom, hfr, hlo⟩ := id hcx
  unfold gm_aload at h
  split at h
  · next x hx0 =>
    have hv := hL.2.2 i _ hx0
    have g := hN L _ M h H locs ls hW hS hL hn
    by_cases q : x ≤ 0
    · rw [List.map_cons, gm_rv_null ad q] at g
      rw [gm_rv_null ad q] at hv
      exact lv_aloadN hx hb hdg hv g
    · rw [List.map_cons, gm_rv_ref ad (by omega)] at g
      rw [gm_rv_ref ad (by omega)] at hv
      exact lv_aload hx hb hdg hv g
  · cases h

theorem gm_s_istore_n {D : va_G} {sz : Nat} {ad : Nat → Nat} {cA : Nat → ClassId} {xs : Int → Int} {Ln : Int} {l : Launch} {mt : gm_MT} {cc : ByteArray} {own : String} {n : Nat} {isI : Bool} {rk : Nat} {bpc : Nat → Nat} {pc : Nat} {k : Fin 4} {i : Nat} (hdg : decode cc pc = .ok (.istore_n k, 1)) (hi : (k : Nat) = i) (hi' : i < n) : gm_S D sz ad cA xs Ln l mt cc own n isI rk bpc pc (pc + 1) (gm_istore i) := by
  intro dl n0 p e R s m args below meth c Q C J N X hcx hr hC hmJ hmN hN hJ L st M h H locs ls hW hS hL hn
  obtain ⟨hx, hb, hml, hown, hts, hSt, hin, hroom, hfr, hlo⟩ := id hcx
  unfold gm_istore at h
  split at h
  · next x st' =>
    exact lv_istore_n hx hb hdg hi hL.has hi' rfl (fun ls' h' => hN _ _ M h H locs ls' hW hS (hL.set (v := .inl x) rfl h') hn)
  · cases h

theorem gm_s_istore {D : va_G} {sz : Nat} {ad : Nat → Nat} {cA : Nat → ClassId} {xs : Int → Int} {Ln : Int} {l : Launch} {mt : gm_MT} {cc : ByteArray} {own : String} {n : Nat} {isI : Bool} {rk : Nat} {bpc : Nat → Nat} {pc : Nat} {i : Nat} (hdg : decode cc pc = .ok (.istore i, 2)) (hi' : i < n) : gm_S D sz ad cA xs Ln l mt cc own n isI rk bpc pc (pc + 2) (gm_istore i) := by
  intro dl n0 p e R s m args below meth c Q C J N X hcx hr hC hmJ hmN hN hJ L st M h H locs ls hW hS hL hn
  obtain ⟨hx, hb, hml, hown, hts, hSt, hin, hroom, hfr, hlo⟩ := id hcx
  unfold gm_istore at h
  split at h
  · next x st' =>
    exact lv_istore hx hb hdg hL.has hi' rfl (fun ls' h' => hN _ _ M h H locs ls' hW hS (hL.set (v := .inl x) rfl h') hn)
  · cases h

theorem gm_s_astore_n {D : va_G} {sz : Nat} {ad : Nat → Nat} {cA : Nat → ClassId} {xs : Int → Int} {Ln : Int} {l : Launch} {mt : gm_MT} {cc : ByteArray} {own : String} {n : Nat} {isI : Bool} {rk : Nat} {bpc : Nat → Nat} {pc : Nat} {k : Fin 4} {i : Nat} (hdg : decode cc pc = .ok (.astore_n k, 1)) (hi : (k : Nat) = i) (hi' : i < n) : gm_S D sz ad cA xs Ln l mt cc own n isI rk bpc pc (pc + 1) (gm_astore i) := by
  intro dl n0 p e R s m args below meth c Q C J N X hcx hr hC hmJ hmN hN hJ L st M h H locs ls hW hS hL hn
  obtain ⟨hx, hb, hml, hown, hts, hSt, hin, hroom, hfr, hlo⟩ := id hcx
  unfold gm_astore at h
  split at h
  · next x st' =>
    by_cases q : x ≤ 0
    · rw [List.map_cons, gm_rv_null ad q]
      exact lv_astore_nN hx hb hdg hi hL.has hi' rfl (fun ls' h' => hN _ _ M h H locs ls' hW hS (hL.set (v := .inr (.inr x)) (gm_rv_null ad q) h') hn)
    · rw [List.map_cons, gm_rv_ref ad (by omega)]
      exact lv_astore_n hx hb hdg hi hL.has hi' rfl (fun ls' h' => hN _ _ M h H locs ls' hW hS (hL.set (v := .inr (.inr x)) (gm_rv_ref ad (by omega)) h') hn)
  · cases h

theorem gm_s_astore {D : va_G} {sz : Nat} {ad : Nat → Nat} {cA : Nat → ClassId} {xs : Int → Int} {Ln : Int} {l : Launch} {mt : gm_MT} {cc : ByteArray} {own : String} {n : Nat} {isI : Bool} {rk : Nat} {bpc : Nat → Nat} {pc : Nat} {i : Nat} (hdg : decode cc pc = .ok (.astore i, 2)) (hi' : i < n) : gm_S D sz ad cA xs Ln l mt cc own n isI rk bpc pc (pc + 2) (gm_astore i) := by
  intro dl n0 p e R s m args below meth c Q C J N X hcx hr hC hmJ hmN hN hJ L st M h H locs ls hW hS hL hn
  obtain ⟨hx, hb, hml, hown, hts, hSt, hin, hroom, hfr, hlo⟩ := id hcx
  unfold gm_astore at h
  split at h
  · next x st' =>
    by_cases q : x ≤ 0
    · rw [List.map_cons, gm_rv_null ad q]
      exact lv_astoreN hx hb hdg hL.has hi' rfl (fun ls' h' => hN _ _ M h H locs ls' hW hS (hL.set (v := .inr (.inr x)) (gm_rv_null ad q) h') hn)
    · rw [List.map_cons, gm_rv_ref ad (by omega)]
      exact lv_astore hx hb hdg hL.has hi' rfl (fun ls' h' => hN _ _ M h H locs ls' hW hS (hL.set (v := .inr (.inr x)) (gm_rv_ref ad (by omega)) h') hn)
  · cases h

theorem gm_s_iinc {D : va_G} {sz : Nat} {ad : Nat → Nat} {cA : Nat → ClassId} {xs : Int → Int} {Ln : Int} {l : Launch} {mt : gm_MT} {cc : ByteArray} {own : String} {n : Nat} {isI : Bool} {rk : Nat} {bpc : Nat → Nat} {pc : Nat} {i : Nat} {k : Int} (hdg : decode cc pc = .ok (.iinc i k, 3)) (hi' : i < n) : gm_S D sz ad cA xs Ln l mt cc own n isI rk bpc pc (pc + 3) (gm_iinc i k) := by
  intro dl n0 p e R s m args below meth c Q C J N X hcx hr hC hmJ hmN hN hJ L st M h H locs ls hW hS hL hn
  obtain ⟨hx, hb, hml, hown, hts, hSt, hin, hroom, hfr, hlo⟩ := id hcx
  unfold gm_iinc at h
  split at h
  · next x hx0 =>
    obtain ⟨j, hj⟩ := List.getElem?_of_mem (gm_ll_mem hL hx0)
    exact lv_iinc hx hb hdg hL.has hj (gm_addI x k) hi' rfl (fun ls' h' => hN _ _ M h H locs ls' hW hS (hL.set (v := .inl (x + k)) rfl h') hn)
  · cases h

theorem gm_s_iadd {D : va_G} {sz : Nat} {ad : Nat → Nat} {cA : Nat → ClassId} {xs : Int → Int} {Ln : Int} {l : Launch} {mt : gm_MT} {cc : ByteArray} {own : String} {n : Nat} {isI : Bool} {rk : Nat} {bpc : Nat → Nat} {pc : Nat} (hdg : decode cc pc = .ok (.iadd, 1)) : gm_S D sz ad cA xs Ln l mt cc own n isI rk bpc pc (pc + 1) (gm_op2 gm_add) := by
  intro dl n0 p e R s m args below meth c Q C J N X hcx hr hC hmJ hmN hN hJ L st M h H locs ls hW hS hL hn
  obtain ⟨hx, hb, hml, hown, hts, hSt, hin, hroom, hfr, hlo⟩ := id hcx
  unfold gm_op2 at h
  split at h
  · next y x st' =>
    refine lv_iadd hx hb hdg ?_
    have g := hN L _ M h H locs ls hW hS hL hn
    rw [List.map_cons, show gm_rv ad (.inl (gm_add x y)) = .int _ from congrArg Value.int (gm_o_add x y)] at g
    exact g
  · cases h

theorem gm_s_isub {D : va_G} {sz : Nat} {ad : Nat → Nat} {cA : Nat → ClassId} {xs : Int → Int} {Ln : Int} {l : Launch} {mt : gm_MT} {cc : ByteArray} {own : String} {n : Nat} {isI : Bool} {rk : Nat} {bpc : Nat → Nat} {pc : Nat} (hdg : decode cc pc = .ok (.isub, 1)) : gm_S D sz ad cA xs Ln l mt cc own n isI rk bpc pc (pc + 1) (gm_op2 gm_sub) := by
  intro dl n0 p e R s m args below meth c Q C J N X hcx hr hC hmJ hmN hN hJ L st M h H locs ls hW hS hL hn
  obtain ⟨hx, hb, hml, hown, hts, hSt, hin, hroom, hfr, hlo⟩ := id hcx
  unfold gm_op2 at h
  split at h
  · next y x st' =>
    refine lv_isub hx hb hdg ?_
    have g := hN L _ M h H locs ls hW hS hL hn
    rw [List.map_cons, show gm_rv ad (.inl (gm_sub x y)) = .int _ from congrArg Value.int (gm_o_sub x y)] at g
    exact g
  · cases h

theorem gm_s_imul {D : va_G} {sz : Nat} {ad : Nat → Nat} {cA : Nat → ClassId} {xs : Int → Int} {Ln : Int} {l : Launch} {mt : gm_MT} {cc : ByteArray} {own : String} {n : Nat} {isI : Bool} {rk : Nat} {bpc : Nat → Nat} {pc : Nat} (hdg : decode cc pc = .ok (.imul, 1)) : gm_S D sz ad cA xs Ln l mt cc own n isI rk bpc pc (pc + 1) (gm_op2 gm_mul) := by
  intro dl n0 p e R s m args below meth c Q C J N X hcx hr hC hmJ hmN hN hJ L st M h H locs ls hW hS hL hn
  obtain ⟨hx, hb, hml, hown, hts, hSt, hin, hroom, hfr, hlo⟩ := id hcx
  unfold gm_op2 at h
  split at h
  · next y x st' =>
    refine lv_imul hx hb hdg ?_
    have g := hN L _ M h H locs ls hW hS hL hn
    rw [List.map_cons, show gm_rv ad (.inl (gm_mul x y)) = .int _ from congrArg Value.int (gm_o_mul x y)] at g
    exact g
  · cases h

theorem gm_s_iand {D : va_G} {sz : Nat} {ad : Nat → Nat} {cA : Nat → ClassId} {xs : Int → Int} {Ln : Int} {l : Launch} {mt : gm_MT} {cc : ByteArray} {own : String} {n : Nat} {isI : Bool} {rk : Nat} {bpc : Nat → Nat} {pc : Nat} (hdg : decode cc pc = .ok (.iand, 1)) : gm_S D sz ad cA xs Ln l mt cc own n isI rk bpc pc (pc + 1) (gm_op2 gm_and) := by
  intro dl n0 p e R s m args below meth c Q C J N X hcx hr hC hmJ hmN hN hJ L st M h H locs ls hW hS hL hn
  obtain ⟨hx, hb, hml, hown, hts, hSt, hin, hroom, hfr, hlo⟩ := id hcx
  unfold gm_op2 at h
  split at h
  · next y x st' =>
    refine lv_iand hx hb hdg ?_
    have g := hN L _ M h H locs ls hW hS hL hn
    rw [List.map_cons, show gm_rv ad (.inl (gm_and x y)) = .int _ from congrArg Value.int (gm_o_and x y)] at g
    exact g
  · cases h

theorem gm_s_ior {D : va_G} {sz : Nat} {ad : Nat → Nat} {cA : Nat → ClassId} {xs : Int → Int} {Ln : Int} {l : Launch} {mt : gm_MT} {cc : ByteArray} {own : String} {n : Nat} {isI : Bool} {rk : Nat} {bpc : Nat → Nat} {pc : Nat} (hdg : decode cc pc = .ok (.ior, 1)) : gm_S D sz ad cA xs Ln l mt cc own n isI rk bpc pc (pc + 1) (gm_op2 gm_or) := by
  intro dl n0 p e R s m args below meth c Q C J N X hcx hr hC hmJ hmN hN hJ L st M h H locs ls hW hS hL hn
  obtain ⟨hx, hb, hml, hown, hts, hSt, hin, hroom, hfr, hlo⟩ := id hcx
  unfold gm_op2 at h
  split at h
  · next y x st' =>
    refine lv_ior hx hb hdg ?_
    have g := hN L _ M h H locs ls hW hS hL hn
    rw [List.map_cons, show gm_rv ad (.inl (gm_or x y)) = .int _ from congrArg Value.int (gm_o_or x y)] at g
    exact g
  · cases h

theorem gm_s_ixor {D : va_G} {sz : Nat} {ad : Nat → Nat} {cA : Nat → ClassId} {xs : Int → Int} {Ln : Int} {l : Launch} {mt : gm_MT} {cc : ByteArray} {own : String} {n : Nat} {isI : Bool} {rk : Nat} {bpc : Nat → Nat} {pc : Nat} (hdg : decode cc pc = .ok (.ixor, 1)) : gm_S D sz ad cA xs Ln l mt cc own n isI rk bpc pc (pc + 1) (gm_op2 gm_xor) := by
  intro dl n0 p e R s m args below meth c Q C J N X hcx hr hC hmJ hmN hN hJ L st M h H locs ls hW hS hL hn
  obtain ⟨hx, hb, hml, hown, hts, hSt, hin, hroom, hfr, hlo⟩ := id hcx
  unfold gm_op2 at h
  split at h
  · next y x st' =>
    refine lv_ixor hx hb hdg ?_
    have g := hN L _ M h H locs ls hW hS hL hn
    rw [List.map_cons, show gm_rv ad (.inl (gm_xor x y)) = .int _ from congrArg Value.int (gm_o_xor x y)] at g
    exact g
  · cases h

theorem gm_s_ishl {D : va_G} {sz : Nat} {ad : Nat → Nat} {cA : Nat → ClassId} {xs : Int → Int} {Ln : Int} {l : Launch} {mt : gm_MT} {cc : ByteArray} {own : String} {n : Nat} {isI : Bool} {rk : Nat} {bpc : Nat → Nat} {pc : Nat} (hdg : decode cc pc = .ok (.ishl, 1)) : gm_S D sz ad cA xs Ln l mt cc own n isI rk bpc pc (pc + 1) (gm_op2 gm_shl) := by
  intro dl n0 p e R s m args below meth c Q C J N X hcx hr hC hmJ hmN hN hJ L st M h H locs ls hW hS hL hn
  obtain ⟨hx, hb, hml, hown, hts, hSt, hin, hroom, hfr, hlo⟩ := id hcx
  unfold gm_op2 at h
  split at h
  · next y x st' =>
    refine lv_ishl hx hb hdg ?_
    have g := hN L _ M h H locs ls hW hS hL hn
    rw [List.map_cons, show gm_rv ad (.inl (gm_shl x y)) = .int _ from congrArg Value.int (gm_o_shl x y)] at g
    exact g
  · cases h

theorem gm_s_ishr {D : va_G} {sz : Nat} {ad : Nat → Nat} {cA : Nat → ClassId} {xs : Int → Int} {Ln : Int} {l : Launch} {mt : gm_MT} {cc : ByteArray} {own : String} {n : Nat} {isI : Bool} {rk : Nat} {bpc : Nat → Nat} {pc : Nat} (hdg : decode cc pc = .ok (.ishr, 1)) : gm_S D sz ad cA xs Ln l mt cc own n isI rk bpc pc (pc + 1) (gm_op2 gm_shr) := by
  intro dl n0 p e R s m args below meth c Q C J N X hcx hr hC hmJ hmN hN hJ L st M h H locs ls hW hS hL hn
  obtain ⟨hx, hb, hml, hown, hts, hSt, hin, hroom, hfr, hlo⟩ := id hcx
  unfold gm_op2 at h
  split at h
  · next y x st' =>
    refine lv_ishr hx hb hdg ?_
    have g := hN L _ M h H locs ls hW hS hL hn
    rw [List.map_cons, show gm_rv ad (.inl (gm_shr x y)) = .int _ from congrArg Value.int (gm_o_shr x y)] at g
    exact g
  · cases h

theorem gm_s_idiv {D : va_G} {sz : Nat} {ad : Nat → Nat} {cA : Nat → ClassId} {xs : Int → Int} {Ln : Int} {l : Launch} {mt : gm_MT} {cc : ByteArray} {own : String} {n : Nat} {isI : Bool} {rk : Nat} {bpc : Nat → Nat} {pc : Nat} (hdg : decode cc pc = .ok (.idiv, 1)) : gm_S D sz ad cA xs Ln l mt cc own n isI rk bpc pc (pc + 1) (gm_quo gm_div) := by
  intro dl n0 p e R s m args below meth c Q C J N X hcx hr hC hmJ hmN hN hJ L st M h H locs ls hW hS hL hn
  obtain ⟨hx, hb, hml, hown, hts, hSt, hin, hroom, hfr, hlo⟩ := id hcx
  unfold gm_quo at h
  split at h
  · next y x st' =>
    split at h
    · cases h
    · next hne =>
      refine lv_idiv hx hb hdg (fun q => hne (gm_w_0.mpr q)) ?_
      have g := hN L _ M h H locs ls hW hS hL hn
      rw [List.map_cons, show gm_rv ad (.inl (gm_div x y)) = .int _ from congrArg Value.int (gm_o_div x y)] at g
      exact g
  · cases h

theorem gm_s_irem {D : va_G} {sz : Nat} {ad : Nat → Nat} {cA : Nat → ClassId} {xs : Int → Int} {Ln : Int} {l : Launch} {mt : gm_MT} {cc : ByteArray} {own : String} {n : Nat} {isI : Bool} {rk : Nat} {bpc : Nat → Nat} {pc : Nat} (hdg : decode cc pc = .ok (.irem, 1)) : gm_S D sz ad cA xs Ln l mt cc own n isI rk bpc pc (pc + 1) (gm_quo gm_rem) := by
  intro dl n0 p e R s m args below meth c Q C J N X hcx hr hC hmJ hmN hN hJ L st M h H locs ls hW hS hL hn
  obtain ⟨hx, hb, hml, hown, hts, hSt, hin, hroom, hfr, hlo⟩ := id hcx
  unfold gm_quo at h
  split at h
  · next y x st' =>
    split at h
    · cases h
    · next hne =>
      refine lv_irem hx hb hdg (fun q => hne (gm_w_0.mpr q)) ?_
      have g := hN L _ M h H locs ls hW hS hL hn
      rw [List.map_cons, show gm_rv ad (.inl (gm_rem x y)) = .int _ from congrArg Value.int (gm_o_rem x y)] at g
      exact g
  · cases h

theorem gm_s_ineg {D : va_G} {sz : Nat} {ad : Nat → Nat} {cA : Nat → ClassId} {xs : Int → Int} {Ln : Int} {l : Launch} {mt : gm_MT} {cc : ByteArray} {own : String} {n : Nat} {isI : Bool} {rk : Nat} {bpc : Nat → Nat} {pc : Nat} (hdg : decode cc pc = .ok (.ineg, 1)) : gm_S D sz ad cA xs Ln l mt cc own n isI rk bpc pc (pc + 1) (gm_op1 gm_neg) := by
  intro dl n0 p e R s m args below meth c Q C J N X hcx hr hC hmJ hmN hN hJ L st M h H locs ls hW hS hL hn
  obtain ⟨hx, hb, hml, hown, hts, hSt, hin, hroom, hfr, hlo⟩ := id hcx
  unfold gm_op1 at h
  split at h
  · next x st' =>
    refine lv_ineg hx hb hdg  ?_
    have g := hN L _ M h H locs ls hW hS hL hn
    rw [List.map_cons, show gm_rv ad (.inl (gm_neg x)) = .int _ from congrArg Value.int (gm_o_neg x)] at g
    exact g
  · cases h

theorem gm_s_i2b {D : va_G} {sz : Nat} {ad : Nat → Nat} {cA : Nat → ClassId} {xs : Int → Int} {Ln : Int} {l : Launch} {mt : gm_MT} {cc : ByteArray} {own : String} {n : Nat} {isI : Bool} {rk : Nat} {bpc : Nat → Nat} {pc : Nat} (hdg : decode cc pc = .ok (.i2b, 1)) : gm_S D sz ad cA xs Ln l mt cc own n isI rk bpc pc (pc + 1) (gm_op1 gm_i2b) := by
  intro dl n0 p e R s m args below meth c Q C J N X hcx hr hC hmJ hmN hN hJ L st M h H locs ls hW hS hL hn
  obtain ⟨hx, hb, hml, hown, hts, hSt, hin, hroom, hfr, hlo⟩ := id hcx
  unfold gm_op1 at h
  split at h
  · next x st' =>
    refine lv_i2b hx hb hdg rfl ?_
    have g := hN L _ M h H locs ls hW hS hL hn
    rw [List.map_cons, show gm_rv ad (.inl (gm_i2b x)) = .int _ from congrArg Value.int (Int32.ofInt_toInt _)] at g
    exact g
  · cases h

theorem gm_s_i2s {D : va_G} {sz : Nat} {ad : Nat → Nat} {cA : Nat → ClassId} {xs : Int → Int} {Ln : Int} {l : Launch} {mt : gm_MT} {cc : ByteArray} {own : String} {n : Nat} {isI : Bool} {rk : Nat} {bpc : Nat → Nat} {pc : Nat} (hdg : decode cc pc = .ok (.i2s, 1)) : gm_S D sz ad cA xs Ln l mt cc own n isI rk bpc pc (pc + 1) (gm_op1 gm_i2s) := by
  intro dl n0 p e R s m args below meth c Q C J N X hcx hr hC hmJ hmN hN hJ L st M h H locs ls hW hS hL hn
  obtain ⟨hx, hb, hml, hown, hts, hSt, hin, hroom, hfr, hlo⟩ := id hcx
  unfold gm_op1 at h
  split at h
  · next x st' =>
    refine lv_i2s hx hb hdg rfl ?_
    have g := hN L _ M h H locs ls hW hS hL hn
    rw [List.map_cons, show gm_rv ad (.inl (gm_i2s x)) = .int _ from congrArg Value.int (Int32.ofInt_toInt _)] at g
    exact g
  · cases h

theorem gm_s_i2c {D : va_G} {sz : Nat} {ad : Nat → Nat} {cA : Nat → ClassId} {xs : Int → Int} {Ln : Int} {l : Launch} {mt : gm_MT} {cc : ByteArray} {own : String} {n : Nat} {isI : Bool} {rk : Nat} {bpc : Nat → Nat} {pc : Nat} (hdg : decode cc pc = .ok (.i2c, 1)) : gm_S D sz ad cA xs Ln l mt cc own n isI rk bpc pc (pc + 1) (gm_op1 gm_i2c) := by
  intro dl n0 p e R s m args below meth c Q C J N X hcx hr hC hmJ hmN hN hJ L st M h H locs ls hW hS hL hn
  obtain ⟨hx, hb, hml, hown, hts, hSt, hin, hroom, hfr, hlo⟩ := id hcx
  unfold gm_op1 at h
  split at h
  · next x st' =>
    refine lv_i2c hx hb hdg rfl ?_
    have g := hN L _ M h H locs ls hW hS hL hn
    rw [List.map_cons, show gm_rv ad (.inl (gm_i2c x)) = .int _ from congrArg Value.int (Int32.ofInt_toInt _)] at g
    exact g
  · cases h

theorem gm_s_land {D : va_G} {sz : Nat} {ad : Nat → Nat} {cA : Nat → ClassId} {xs : Int → Int} {Ln : Int} {l : Launch} {mt : gm_MT} {cc : ByteArray} {own : String} {n : Nat} {isI : Bool} {rk : Nat} {bpc : Nat → Nat} {pc : Nat} (hdg : decode cc pc = .ok (.land, 1)) : gm_S D sz ad cA xs Ln l mt cc own n isI rk bpc pc (pc + 1) (gm_lop2 gm_land) := by
  intro dl n0 p e R s m args below meth c Q C J N X hcx hr hC hmJ hmN hN hJ L st M h H locs ls hW hS hL hn
  obtain ⟨hx, hb, hml, hown, hts, hSt, hin, hroom, hfr, hlo⟩ := id hcx
  unfold gm_lop2 at h
  split at h
  · next y x st' =>
    refine lv_land hx hb hdg ?_
    have g := hN L _ M h H locs ls hW hS hL hn
    rw [List.map_cons, show gm_rv ad (.inr (.inl (gm_land x y))) = .long _ from congrArg Value.long (gm_o_land x y)] at g
    exact g
  · cases h

theorem gm_s_lor {D : va_G} {sz : Nat} {ad : Nat → Nat} {cA : Nat → ClassId} {xs : Int → Int} {Ln : Int} {l : Launch} {mt : gm_MT} {cc : ByteArray} {own : String} {n : Nat} {isI : Bool} {rk : Nat} {bpc : Nat → Nat} {pc : Nat} (hdg : decode cc pc = .ok (.lor, 1)) : gm_S D sz ad cA xs Ln l mt cc own n isI rk bpc pc (pc + 1) (gm_lop2 gm_lor) := by
  intro dl n0 p e R s m args below meth c Q C J N X hcx hr hC hmJ hmN hN hJ L st M h H locs ls hW hS hL hn
  obtain ⟨hx, hb, hml, hown, hts, hSt, hin, hroom, hfr, hlo⟩ := id hcx
  unfold gm_lop2 at h
  split at h
  · next y x st' =>
    refine lv_lor hx hb hdg ?_
    have g := hN L _ M h H locs ls hW hS hL hn
    rw [List.map_cons, show gm_rv ad (.inr (.inl (gm_lor x y))) = .long _ from congrArg Value.long (gm_o_lor x y)] at g
    exact g
  · cases h

theorem gm_s_lshl {D : va_G} {sz : Nat} {ad : Nat → Nat} {cA : Nat → ClassId} {xs : Int → Int} {Ln : Int} {l : Launch} {mt : gm_MT} {cc : ByteArray} {own : String} {n : Nat} {isI : Bool} {rk : Nat} {bpc : Nat → Nat} {pc : Nat} (hdg : decode cc pc = .ok (.lshl, 1)) : gm_S D sz ad cA xs Ln l mt cc own n isI rk bpc pc (pc + 1) gm_lshl := by
  intro dl n0 p e R s m args below meth c Q C J N X hcx hr hC hmJ hmN hN hJ L st M h H locs ls hW hS hL hn
  obtain ⟨hx, hb, hml, hown, hts, hSt, hin, hroom, hfr, hlo⟩ := id hcx
  unfold gm_lshl at h
  split at h
  · next y x st' =>
    refine lv_lshl hx hb hdg rfl ?_
    have g := hN L _ M h H locs ls hW hS hL hn
    rw [List.map_cons, show gm_rv ad (.inr (.inl (Int64.ofInt x <<< ((Int32.ofInt y).toInt64 &&& 63)).toInt)) = .long _ from congrArg Value.long (Int64.ofInt_toInt _)] at g
    exact g
  · cases h

theorem gm_s_i2l {D : va_G} {sz : Nat} {ad : Nat → Nat} {cA : Nat → ClassId} {xs : Int → Int} {Ln : Int} {l : Launch} {mt : gm_MT} {cc : ByteArray} {own : String} {n : Nat} {isI : Bool} {rk : Nat} {bpc : Nat → Nat} {pc : Nat} (hdg : decode cc pc = .ok (.i2l, 1)) : gm_S D sz ad cA xs Ln l mt cc own n isI rk bpc pc (pc + 1) gm_i2l := by
  intro dl n0 p e R s m args below meth c Q C J N X hcx hr hC hmJ hmN hN hJ L st M h H locs ls hW hS hL hn
  obtain ⟨hx, hb, hml, hown, hts, hSt, hin, hroom, hfr, hlo⟩ := id hcx
  unfold gm_i2l at h
  split at h
  · next x st' =>
    exact lv_i2l hx hb hdg rfl (hN L _ M h H locs ls hW hS hL hn)
  · cases h

theorem gm_s_l2i {D : va_G} {sz : Nat} {ad : Nat → Nat} {cA : Nat → ClassId} {xs : Int → Int} {Ln : Int} {l : Launch} {mt : gm_MT} {cc : ByteArray} {own : String} {n : Nat} {isI : Bool} {rk : Nat} {bpc : Nat → Nat} {pc : Nat} (hdg : decode cc pc = .ok (.l2i, 1)) : gm_S D sz ad cA xs Ln l mt cc own n isI rk bpc pc (pc + 1) gm_l2i := by
  intro dl n0 p e R s m args below meth c Q C J N X hcx hr hC hmJ hmN hN hJ L st M h H locs ls hW hS hL hn
  obtain ⟨hx, hb, hml, hown, hts, hSt, hin, hroom, hfr, hlo⟩ := id hcx
  unfold gm_l2i at h
  split at h
  · next x st' =>
    refine lv_l2i hx hb hdg ?_ (hN L _ M h H locs ls hW hS hL hn)
    exact Int64.toInt32_ofInt
  · cases h

theorem gm_s_dup {D : va_G} {sz : Nat} {ad : Nat → Nat} {cA : Nat → ClassId} {xs : Int → Int} {Ln : Int} {l : Launch} {mt : gm_MT} {cc : ByteArray} {own : String} {n : Nat} {isI : Bool} {rk : Nat} {bpc : Nat → Nat} {pc : Nat} (hdg : decode cc pc = .ok (.dup, 1)) : gm_S D sz ad cA xs Ln l mt cc own n isI rk bpc pc (pc + 1) gm_dup := by
  intro dl n0 p e R s m args below meth c Q C J N X hcx hr hC hmJ hmN hN hJ L st M h H locs ls hW hS hL hn
  obtain ⟨hx, hb, hml, hown, hts, hSt, hin, hroom, hfr, hlo⟩ := id hcx
  unfold gm_dup at h
  split at h
  · next x st' =>
    exact lv_dup hx hb hdg rfl (hN L _ M h H locs ls hW hS hL hn)
  · next x st' =>
    refine lv_dup hx hb hdg ?_ (hN L _ M h H locs ls hW hS hL hn)
    by_cases q : x ≤ 0 <;> simp [gm_rv, q, Value.category]
  · cases h

theorem gm_s_pop {D : va_G} {sz : Nat} {ad : Nat → Nat} {cA : Nat → ClassId} {xs : Int → Int} {Ln : Int} {l : Launch} {mt : gm_MT} {cc : ByteArray} {own : String} {n : Nat} {isI : Bool} {rk : Nat} {bpc : Nat → Nat} {pc : Nat} (hdg : decode cc pc = .ok (.pop, 1)) : gm_S D sz ad cA xs Ln l mt cc own n isI rk bpc pc (pc + 1) gm_pop1 := by
  intro dl n0 p e R s m args below meth c Q C J N X hcx hr hC hmJ hmN hN hJ L st M h H locs ls hW hS hL hn
  obtain ⟨hx, hb, hml, hown, hts, hSt, hin, hroom, hfr, hlo⟩ := id hcx
  unfold gm_pop1 at h
  split at h
  · next x st' =>
    exact lv_pop hx hb hdg rfl (hN L _ M h H locs ls hW hS hL hn)
  · next x st' =>
    refine lv_pop hx hb hdg ?_ (hN L _ M h H locs ls hW hS hL hn)
    by_cases q : x ≤ 0 <;> simp [gm_rv, q, Value.category]
  · cases h

theorem gm_s_dup2 {D : va_G} {sz : Nat} {ad : Nat → Nat} {cA : Nat → ClassId} {xs : Int → Int} {Ln : Int} {l : Launch} {mt : gm_MT} {cc : ByteArray} {own : String} {n : Nat} {isI : Bool} {rk : Nat} {bpc : Nat → Nat} {pc : Nat} (hdg : decode cc pc = .ok (.dup2, 1)) : gm_S D sz ad cA xs Ln l mt cc own n isI rk bpc pc (pc + 1) gm_dup2 := by
  intro dl n0 p e R s m args below meth c Q C J N X hcx hr hC hmJ hmN hN hJ L st M h H locs ls hW hS hL hn
  obtain ⟨hx, hb, hml, hown, hts, hSt, hin, hroom, hfr, hlo⟩ := id hcx
  unfold gm_dup2 at h
  split at h
  · next y x st' =>
    refine lv_dup2_11 hx hb hdg rfl ?_ (hN L _ M h H locs ls hW hS hL hn)
    by_cases q : x ≤ 0 <;> simp [gm_rv, q, Value.category]
  · cases h

theorem gm_s_goto {D : va_G} {sz : Nat} {ad : Nat → Nat} {cA : Nat → ClassId} {xs : Int → Int} {Ln : Int} {l : Launch} {mt : gm_MT} {cc : ByteArray} {own : String} {n : Nat} {isI : Bool} {rk : Nat} {bpc : Nat → Nat} {pc : Nat} {b : Nat} {off : Int} (hdg : decode cc pc = .ok (.goto off, 3)) (ht : (pc : Int) + off = (bpc b : Int)) (pc' : Nat) : gm_S D sz ad cA xs Ln l mt cc own n isI rk bpc pc pc' (gm_goto b) := by
  intro dl n0 p e R s m args below meth c Q C J N X hcx hr hC hmJ hmN hN hJ L st M h H locs ls hW hS hL hn
  obtain ⟨hx, hb, hml, hown, hts, hSt, hin, hroom, hfr, hlo⟩ := id hcx
  exact lv_goto hx hb hdg ht (hJ b L st M h H locs ls hW hS hL hn)

theorem gm_s_fall {D : va_G} {sz : Nat} {ad : Nat → Nat} {cA : Nat → ClassId} {xs : Int → Int} {Ln : Int} {l : Launch} {mt : gm_MT} {cc : ByteArray} {own : String} {n : Nat} {isI : Bool} {rk : Nat} {bpc : Nat → Nat} {pc : Nat} {b : Nat} (ht : pc = bpc b) (pc' : Nat) : gm_S D sz ad cA xs Ln l mt cc own n isI rk bpc pc pc' (gm_goto b) := by
  intro dl n0 p e R s m args below meth c Q C J N X hcx hr hC hmJ hmN hN hJ L st M h H locs ls hW hS hL hn
  obtain ⟨hx, hb, hml, hown, hts, hSt, hin, hroom, hfr, hlo⟩ := id hcx
  subst ht
  exact hJ b L st M h H locs ls hW hS hL hn

theorem gm_s_ifeq {D : va_G} {sz : Nat} {ad : Nat → Nat} {cA : Nat → ClassId} {xs : Int → Int} {Ln : Int} {l : Launch} {mt : gm_MT} {cc : ByteArray} {own : String} {n : Nat} {isI : Bool} {rk : Nat} {bpc : Nat → Nat} {pc : Nat} {b : Nat} {off : Int} (hdg : decode cc pc = .ok (.ifCond .eq off, 3)) (ht : (pc : Int) + off = (bpc b : Int)) : gm_S D sz ad cA xs Ln l mt cc own n isI rk bpc pc (pc + 3) (gm_ifeq b) := by
  intro dl n0 p e R s m args below meth c Q C J N X hcx hr hC hmJ hmN hN hJ L st M h H locs ls hW hS hL hn
  obtain ⟨hx, hb, hml, hown, hts, hSt, hin, hroom, hfr, hlo⟩ := id hcx
  unfold gm_ifeq at h
  split at h
  · next x st' =>
    split at h
    · next hc =>
      have hc' := gm_w_0.mp hc
      have g := (hJ b L _ M h H locs ls hW hS hL hn)
      exact lv_if_eq hx hb hdg ht (fun q => by first | exact g | exact absurd hc' q | exact absurd q (Int32.not_le.mpr hc') | exact absurd q (Int32.not_lt.mpr hc')) (fun q => by first | exact g | exact absurd hc' q | exact absurd q (Int32.not_le.mpr hc'))
    · next hc =>
      have hc' := fun z => hc (gm_w_0.mpr z)
      have g := (hN L _ M h H locs ls hW hS hL hn)
      exact lv_if_eq hx hb hdg ht (fun q => by first | exact g | exact absurd q hc') (fun q => by first | exact g | exact absurd q hc' | exact absurd (Int32.not_lt.mp hc') q | exact absurd (Int32.not_le.mp q) hc')
  · cases h

theorem gm_s_ifne {D : va_G} {sz : Nat} {ad : Nat → Nat} {cA : Nat → ClassId} {xs : Int → Int} {Ln : Int} {l : Launch} {mt : gm_MT} {cc : ByteArray} {own : String} {n : Nat} {isI : Bool} {rk : Nat} {bpc : Nat → Nat} {pc : Nat} {b : Nat} {off : Int} (hdg : decode cc pc = .ok (.ifCond .ne off, 3)) (ht : (pc : Int) + off = (bpc b : Int)) : gm_S D sz ad cA xs Ln l mt cc own n isI rk bpc pc (pc + 3) (gm_ifne b) := by
  intro dl n0 p e R s m args below meth c Q C J N X hcx hr hC hmJ hmN hN hJ L st M h H locs ls hW hS hL hn
  obtain ⟨hx, hb, hml, hown, hts, hSt, hin, hroom, hfr, hlo⟩ := id hcx
  unfold gm_ifne at h
  split at h
  · next x st' =>
    split at h
    · next hc =>
      have hc' := gm_w_0.mp hc
      have g := (hN L _ M h H locs ls hW hS hL hn)
      exact lv_if_ne hx hb hdg ht (fun q => by first | exact g | exact absurd hc' q | exact absurd q (Int32.not_le.mpr hc') | exact absurd q (Int32.not_lt.mpr hc')) (fun q => by first | exact g | exact absurd hc' q | exact absurd q (Int32.not_le.mpr hc'))
    · next hc =>
      have hc' := fun z => hc (gm_w_0.mpr z)
      have g := (hJ b L _ M h H locs ls hW hS hL hn)
      exact lv_if_ne hx hb hdg ht (fun q => by first | exact g | exact absurd q hc') (fun q => by first | exact g | exact absurd q hc' | exact absurd (Int32.not_lt.mp hc') q | exact absurd (Int32.not_le.mp q) hc')
  · cases h

theorem gm_s_iflt {D : va_G} {sz : Nat} {ad : Nat → Nat} {cA : Nat → ClassId} {xs : Int → Int} {Ln : Int} {l : Launch} {mt : gm_MT} {cc : ByteArray} {own : String} {n : Nat} {isI : Bool} {rk : Nat} {bpc : Nat → Nat} {pc : Nat} {b : Nat} {off : Int} (hdg : decode cc pc = .ok (.ifCond .lt off, 3)) (ht : (pc : Int) + off = (bpc b : Int)) : gm_S D sz ad cA xs Ln l mt cc own n isI rk bpc pc (pc + 3) (gm_iflt b) := by
  intro dl n0 p e R s m args below meth c Q C J N X hcx hr hC hmJ hmN hN hJ L st M h H locs ls hW hS hL hn
  obtain ⟨hx, hb, hml, hown, hts, hSt, hin, hroom, hfr, hlo⟩ := id hcx
  unfold gm_iflt at h
  split at h
  · next x st' =>
    split at h
    · next hc =>
      have hc' := gm_w_lt0.mp hc
      have g := (hJ b L _ M h H locs ls hW hS hL hn)
      exact lv_if_lt hx hb hdg ht (fun q => by first | exact g | exact absurd hc' q | exact absurd q (Int32.not_le.mpr hc') | exact absurd q (Int32.not_lt.mpr hc')) (fun q => by first | exact g | exact absurd hc' q | exact absurd q (Int32.not_le.mpr hc'))
    · next hc =>
      have hc' := fun z => hc (gm_w_lt0.mpr z)
      have g := (hN L _ M h H locs ls hW hS hL hn)
      exact lv_if_lt hx hb hdg ht (fun q => by first | exact g | exact absurd q hc') (fun q => by first | exact g | exact absurd q hc' | exact absurd (Int32.not_lt.mp hc') q | exact absurd (Int32.not_le.mp q) hc')
  · cases h

theorem gm_s_ifge {D : va_G} {sz : Nat} {ad : Nat → Nat} {cA : Nat → ClassId} {xs : Int → Int} {Ln : Int} {l : Launch} {mt : gm_MT} {cc : ByteArray} {own : String} {n : Nat} {isI : Bool} {rk : Nat} {bpc : Nat → Nat} {pc : Nat} {b : Nat} {off : Int} (hdg : decode cc pc = .ok (.ifCond .ge off, 3)) (ht : (pc : Int) + off = (bpc b : Int)) : gm_S D sz ad cA xs Ln l mt cc own n isI rk bpc pc (pc + 3) (gm_ifge b) := by
  intro dl n0 p e R s m args below meth c Q C J N X hcx hr hC hmJ hmN hN hJ L st M h H locs ls hW hS hL hn
  obtain ⟨hx, hb, hml, hown, hts, hSt, hin, hroom, hfr, hlo⟩ := id hcx
  unfold gm_ifge at h
  split at h
  · next x st' =>
    split at h
    · next hc =>
      have hc' := gm_w_lt0.mp hc
      have g := (hN L _ M h H locs ls hW hS hL hn)
      exact lv_if_ge hx hb hdg ht (fun q => by first | exact g | exact absurd hc' q | exact absurd q (Int32.not_le.mpr hc') | exact absurd q (Int32.not_lt.mpr hc')) (fun q => by first | exact g | exact absurd hc' q | exact absurd q (Int32.not_le.mpr hc'))
    · next hc =>
      have hc' := fun z => hc (gm_w_lt0.mpr z)
      have g := (hJ b L _ M h H locs ls hW hS hL hn)
      exact lv_if_ge hx hb hdg ht (fun q => by first | exact g | exact absurd q hc') (fun q => by first | exact g | exact absurd q hc' | exact absurd (Int32.not_lt.mp hc') q | exact absurd (Int32.not_le.mp q) hc')
  · cases h

theorem gm_s_ifgt {D : va_G} {sz : Nat} {ad : Nat → Nat} {cA : Nat → ClassId} {xs : Int → Int} {Ln : Int} {l : Launch} {mt : gm_MT} {cc : ByteArray} {own : String} {n : Nat} {isI : Bool} {rk : Nat} {bpc : Nat → Nat} {pc : Nat} {b : Nat} {off : Int} (hdg : decode cc pc = .ok (.ifCond .gt off, 3)) (ht : (pc : Int) + off = (bpc b : Int)) : gm_S D sz ad cA xs Ln l mt cc own n isI rk bpc pc (pc + 3) (gm_ifgt b) := by
  intro dl n0 p e R s m args below meth c Q C J N X hcx hr hC hmJ hmN hN hJ L st M h H locs ls hW hS hL hn
  obtain ⟨hx, hb, hml, hown, hts, hSt, hin, hroom, hfr, hlo⟩ := id hcx
  unfold gm_ifgt at h
  split at h
  · next x st' =>
    split at h
    · next hc =>
      have hc' := gm_w_gt0.mp hc
      have g := (hJ b L _ M h H locs ls hW hS hL hn)
      exact lv_if_gt hx hb hdg ht (fun q => by first | exact g | exact absurd hc' q | exact absurd q (Int32.not_le.mpr hc') | exact absurd q (Int32.not_lt.mpr hc')) (fun q => by first | exact g | exact absurd hc' q | exact absurd q (Int32.not_le.mpr hc'))
    · next hc =>
      have hc' := fun z => hc (gm_w_gt0.mpr z)
      have g := (hN L _ M h H locs ls hW hS hL hn)
      exact lv_if_gt hx hb hdg ht (fun q => by first | exact g | exact absurd q hc') (fun q => by first | exact g | exact absurd q hc' | exact absurd (Int32.not_lt.mp hc') q | exact absurd (Int32.not_le.mp q) hc')
  · cases h

theorem gm_s_ifle {D : va_G} {sz : Nat} {ad : Nat → Nat} {cA : Nat → ClassId} {xs : Int → Int} {Ln : Int} {l : Launch} {mt : gm_MT} {cc : ByteArray} {own : String} {n : Nat} {isI : Bool} {rk : Nat} {bpc : Nat → Nat} {pc : Nat} {b : Nat} {off : Int} (hdg : decode cc pc = .ok (.ifCond .le off, 3)) (ht : (pc : Int) + off = (bpc b : Int)) : gm_S D sz ad cA xs Ln l mt cc own n isI rk bpc pc (pc + 3) (gm_ifle b) := by
  intro dl n0 p e R s m args below meth c Q C J N X hcx hr hC hmJ hmN hN hJ L st M h H locs ls hW hS hL hn
  obtain ⟨hx, hb, hml, hown, hts, hSt, hin, hroom, hfr, hlo⟩ := id hcx
  unfold gm_ifle at h
  split at h
  · next x st' =>
    split at h
    · next hc =>
      have hc' := gm_w_gt0.mp hc
      have g := (hN L _ M h H locs ls hW hS hL hn)
      exact lv_if_le hx hb hdg ht (fun q => by first | exact g | exact absurd hc' q | exact absurd q (Int32.not_le.mpr hc') | exact absurd q (Int32.not_lt.mpr hc')) (fun q => by first | exact g | exact absurd hc' q | exact absurd q (Int32.not_le.mpr hc'))
    · next hc =>
      have hc' := fun z => hc (gm_w_gt0.mpr z)
      have g := (hJ b L _ M h H locs ls hW hS hL hn)
      exact lv_if_le hx hb hdg ht (fun q => by first | exact g | exact absurd q hc') (fun q => by first | exact g | exact absurd q hc' | exact absurd (Int32.not_lt.mp hc') q | exact absurd (Int32.not_le.mp q) hc')
  · cases h

theorem gm_s_ceq {D : va_G} {sz : Nat} {ad : Nat → Nat} {cA : Nat → ClassId} {xs : Int → Int} {Ln : Int} {l : Launch} {mt : gm_MT} {cc : ByteArray} {own : String} {n : Nat} {isI : Bool} {rk : Nat} {bpc : Nat → Nat} {pc : Nat} {b : Nat} {off : Int} (hdg : decode cc pc = .ok (.if_icmp .eq off, 3)) (ht : (pc : Int) + off = (bpc b : Int)) : gm_S D sz ad cA xs Ln l mt cc own n isI rk bpc pc (pc + 3) (gm_ceq b) := by
  intro dl n0 p e R s m args below meth c Q C J N X hcx hr hC hmJ hmN hN hJ L st M h H locs ls hW hS hL hn
  obtain ⟨hx, hb, hml, hown, hts, hSt, hin, hroom, hfr, hlo⟩ := id hcx
  unfold gm_ceq at h
  split at h
  · next y x st' =>
    split at h
    · next hc =>
      have hc' := gm_w_inj.mp hc
      have g := (hJ b L _ M h H locs ls hW hS hL hn)
      exact lv_icmp_eq hx hb hdg ht (fun q => by first | exact g | exact absurd hc' q | exact absurd q (Int32.not_le.mpr hc') | exact absurd q (Int32.not_lt.mpr hc')) (fun q => by first | exact g | exact absurd hc' q | exact absurd q (Int32.not_le.mpr hc'))
    · next hc =>
      have hc' := fun z => hc (gm_w_inj.mpr z)
      have g := (hN L _ M h H locs ls hW hS hL hn)
      exact lv_icmp_eq hx hb hdg ht (fun q => by first | exact g | exact absurd q hc') (fun q => by first | exact g | exact absurd q hc' | exact absurd (Int32.not_lt.mp hc') q | exact absurd (Int32.not_le.mp q) hc')
  · cases h

theorem gm_s_cne {D : va_G} {sz : Nat} {ad : Nat → Nat} {cA : Nat → ClassId} {xs : Int → Int} {Ln : Int} {l : Launch} {mt : gm_MT} {cc : ByteArray} {own : String} {n : Nat} {isI : Bool} {rk : Nat} {bpc : Nat → Nat} {pc : Nat} {b : Nat} {off : Int} (hdg : decode cc pc = .ok (.if_icmp .ne off, 3)) (ht : (pc : Int) + off = (bpc b : Int)) : gm_S D sz ad cA xs Ln l mt cc own n isI rk bpc pc (pc + 3) (gm_cne b) := by
  intro dl n0 p e R s m args below meth c Q C J N X hcx hr hC hmJ hmN hN hJ L st M h H locs ls hW hS hL hn
  obtain ⟨hx, hb, hml, hown, hts, hSt, hin, hroom, hfr, hlo⟩ := id hcx
  unfold gm_cne at h
  split at h
  · next y x st' =>
    split at h
    · next hc =>
      have hc' := gm_w_inj.mp hc
      have g := (hN L _ M h H locs ls hW hS hL hn)
      exact lv_icmp_ne hx hb hdg ht (fun q => by first | exact g | exact absurd hc' q | exact absurd q (Int32.not_le.mpr hc') | exact absurd q (Int32.not_lt.mpr hc')) (fun q => by first | exact g | exact absurd hc' q | exact absurd q (Int32.not_le.mpr hc'))
    · next hc =>
      have hc' := fun z => hc (gm_w_inj.mpr z)
      have g := (hJ b L _ M h H locs ls hW hS hL hn)
      exact lv_icmp_ne hx hb hdg ht (fun q => by first | exact g | exact absurd q hc') (fun q => by first | exact g | exact absurd q hc' | exact absurd (Int32.not_lt.mp hc') q | exact absurd (Int32.not_le.mp q) hc')
  · cases h

theorem gm_s_clt {D : va_G} {sz : Nat} {ad : Nat → Nat} {cA : Nat → ClassId} {xs : Int → Int} {Ln : Int} {l : Launch} {mt : gm_MT} {cc : ByteArray} {own : String} {n : Nat} {isI : Bool} {rk : Nat} {bpc : Nat → Nat} {pc : Nat} {b : Nat} {off : Int} (hdg : decode cc pc = .ok (.if_icmp .lt off, 3)) (ht : (pc : Int) + off = (bpc b : Int)) : gm_S D sz ad cA xs Ln l mt cc own n isI rk bpc pc (pc + 3) (gm_clt b) := by
  intro dl n0 p e R s m args below meth c Q C J N X hcx hr hC hmJ hmN hN hJ L st M h H locs ls hW hS hL hn
  obtain ⟨hx, hb, hml, hown, hts, hSt, hin, hroom, hfr, hlo⟩ := id hcx
  unfold gm_clt at h
  split at h
  · next y x st' =>
    split at h
    · next hc =>
      have hc' := gm_w_lt.mp hc
      have g := (hJ b L _ M h H locs ls hW hS hL hn)
      exact lv_icmp_lt hx hb hdg ht (fun q => by first | exact g | exact absurd hc' q | exact absurd q (Int32.not_le.mpr hc') | exact absurd q (Int32.not_lt.mpr hc')) (fun q => by first | exact g | exact absurd hc' q | exact absurd q (Int32.not_le.mpr hc'))
    · next hc =>
      have hc' := fun z => hc (gm_w_lt.mpr z)
      have g := (hN L _ M h H locs ls hW hS hL hn)
      exact lv_icmp_lt hx hb hdg ht (fun q => by first | exact g | exact absurd q hc') (fun q => by first | exact g | exact absurd q hc' | exact absurd (Int32.not_lt.mp hc') q | exact absurd (Int32.not_le.mp q) hc')
  · cases h

theorem gm_s_cge {D : va_G} {sz : Nat} {ad : Nat → Nat} {cA : Nat → ClassId} {xs : Int → Int} {Ln : Int} {l : Launch} {mt : gm_MT} {cc : ByteArray} {own : String} {n : Nat} {isI : Bool} {rk : Nat} {bpc : Nat → Nat} {pc : Nat} {b : Nat} {off : Int} (hdg : decode cc pc = .ok (.if_icmp .ge off, 3)) (ht : (pc : Int) + off = (bpc b : Int)) : gm_S D sz ad cA xs Ln l mt cc own n isI rk bpc pc (pc + 3) (gm_cge b) := by
  intro dl n0 p e R s m args below meth c Q C J N X hcx hr hC hmJ hmN hN hJ L st M h H locs ls hW hS hL hn
  obtain ⟨hx, hb, hml, hown, hts, hSt, hin, hroom, hfr, hlo⟩ := id hcx
  unfold gm_cge at h
  split at h
  · next y x st' =>
    split at h
    · next hc =>
      have hc' := gm_w_lt.mp hc
      have g := (hN L _ M h H locs ls hW hS hL hn)
      exact lv_icmp_ge hx hb hdg ht (fun q => by first | exact g | exact absurd hc' q | exact absurd q (Int32.not_le.mpr hc') | exact absurd q (Int32.not_lt.mpr hc')) (fun q => by first | exact g | exact absurd hc' q | exact absurd q (Int32.not_le.mpr hc'))
    · next hc =>
      have hc' := fun z => hc (gm_w_lt.mpr z)
      have g := (hJ b L _ M h H locs ls hW hS hL hn)
      exact lv_icmp_ge hx hb hdg ht (fun q => by first | exact g | exact absurd q hc') (fun q => by first | exact g | exact absurd q hc' | exact absurd (Int32.not_lt.mp hc') q | exact absurd (Int32.not_le.mp q) hc')
  · cases h

theorem gm_s_cgt {D : va_G} {sz : Nat} {ad : Nat → Nat} {cA : Nat → ClassId} {xs : Int → Int} {Ln : Int} {l : Launch} {mt : gm_MT} {cc : ByteArray} {own : String} {n : Nat} {isI : Bool} {rk : Nat} {bpc : Nat → Nat} {pc : Nat} {b : Nat} {off : Int} (hdg : decode cc pc = .ok (.if_icmp .gt off, 3)) (ht : (pc : Int) + off = (bpc b : Int)) : gm_S D sz ad cA xs Ln l mt cc own n isI rk bpc pc (pc + 3) (gm_cgt b) := by
  intro dl n0 p e R s m args below meth c Q C J N X hcx hr hC hmJ hmN hN hJ L st M h H locs ls hW hS hL hn
  obtain ⟨hx, hb, hml, hown, hts, hSt, hin, hroom, hfr, hlo⟩ := id hcx
  unfold gm_cgt at h
  split at h
  · next y x st' =>
    split at h
    · next hc =>
      have hc' := gm_w_lt.mp hc
      have g := (hJ b L _ M h H locs ls hW hS hL hn)
      exact lv_icmp_gt hx hb hdg ht (fun q => by first | exact g | exact absurd hc' q | exact absurd q (Int32.not_le.mpr hc') | exact absurd q (Int32.not_lt.mpr hc')) (fun q => by first | exact g | exact absurd hc' q | exact absurd q (Int32.not_le.mpr hc'))
    · next hc =>
      have hc' := fun z => hc (gm_w_lt.mpr z)
      have g := (hN L _ M h H locs ls hW hS hL hn)
      exact lv_icmp_gt hx hb hdg ht (fun q => by first | exact g | exact absurd q hc') (fun q => by first | exact g | exact absurd q hc' | exact absurd (Int32.not_lt.mp hc') q | exact absurd (Int32.not_le.mp q) hc')
  · cases h

theorem gm_s_cle {D : va_G} {sz : Nat} {ad : Nat → Nat} {cA : Nat → ClassId} {xs : Int → Int} {Ln : Int} {l : Launch} {mt : gm_MT} {cc : ByteArray} {own : String} {n : Nat} {isI : Bool} {rk : Nat} {bpc : Nat → Nat} {pc : Nat} {b : Nat} {off : Int} (hdg : decode cc pc = .ok (.if_icmp .le off, 3)) (ht : (pc : Int) + off = (bpc b : Int)) : gm_S D sz ad cA xs Ln l mt cc own n isI rk bpc pc (pc + 3) (gm_cle b) := by
  intro dl n0 p e R s m args below meth c Q C J N X hcx hr hC hmJ hmN hN hJ L st M h H locs ls hW hS hL hn
  obtain ⟨hx, hb, hml, hown, hts, hSt, hin, hroom, hfr, hlo⟩ := id hcx
  unfold gm_cle at h
  split at h
  · next y x st' =>
    split at h
    · next hc =>
      have hc' := gm_w_lt.mp hc
      have g := (hN L _ M h H locs ls hW hS hL hn)
      exact lv_icmp_le hx hb hdg ht (fun q => by first | exact g | exact absurd hc' q | exact absurd q (Int32.not_le.mpr hc') | exact absurd q (Int32.not_lt.mpr hc')) (fun q => by first | exact g | exact absurd hc' q | exact absurd q (Int32.not_le.mpr hc'))
    · next hc =>
      have hc' := fun z => hc (gm_w_lt.mpr z)
      have g := (hJ b L _ M h H locs ls hW hS hL hn)
      exact lv_icmp_le hx hb hdg ht (fun q => by first | exact g | exact absurd q hc') (fun q => by first | exact g | exact absurd q hc' | exact absurd (Int32.not_lt.mp hc') q | exact absurd (Int32.not_le.mp q) hc')
  · cases h

theorem gm_s_ifnull {D : va_G} {sz : Nat} {ad : Nat → Nat} {cA : Nat → ClassId} {xs : Int → Int} {Ln : Int} {l : Launch} {mt : gm_MT} {cc : ByteArray} {own : String} {n : Nat} {isI : Bool} {rk : Nat} {bpc : Nat → Nat} {pc : Nat} {b : Nat} {off : Int} (hdg : decode cc pc = .ok (.ifnull off, 3)) (ht : (pc : Int) + off = (bpc b : Int)) : gm_S D sz ad cA xs Ln l mt cc own n isI rk bpc pc (pc + 3) (gm_ifnull b) := by
  intro dl n0 p e R s m args below meth c Q C J N X hcx hr hC hmJ hmN hN hJ L st M h H locs ls hW hS hL hn
  obtain ⟨hx, hb, hml, hown, hts, hSt, hin, hroom, hfr, hlo⟩ := id hcx
  unfold gm_ifnull at h
  split at h
  · next x st' =>
    split at h
    · next hc =>
      rw [List.map_cons, gm_rv_null ad hc]
      exact lv_ifnullN hx hb hdg ht (hJ b L _ M h H locs ls hW hS hL hn)
    · next hc =>
      rw [List.map_cons, gm_rv_ref ad (by omega)]
      exact lv_ifnull hx hb hdg (hN L _ M h H locs ls hW hS hL hn)
  · cases h

theorem gm_s_ifnonnull {D : va_G} {sz : Nat} {ad : Nat → Nat} {cA : Nat → ClassId} {xs : Int → Int} {Ln : Int} {l : Launch} {mt : gm_MT} {cc : ByteArray} {own : String} {n : Nat} {isI : Bool} {rk : Nat} {bpc : Nat → Nat} {pc : Nat} {b : Nat} {off : Int} (hdg : decode cc pc = .ok (.ifnonnull off, 3)) (ht : (pc : Int) + off = (bpc b : Int)) : gm_S D sz ad cA xs Ln l mt cc own n isI rk bpc pc (pc + 3) (gm_ifnonnull b) := by
  intro dl n0 p e R s m args below meth c Q C J N X hcx hr hC hmJ hmN hN hJ L st M h H locs ls hW hS hL hn
  obtain ⟨hx, hb, hml, hown, hts, hSt, hin, hroom, hfr, hlo⟩ := id hcx
  unfold gm_ifnonnull at h
  split at h
  · next x st' =>
    split at h
    · next hc =>
      rw [List.map_cons, gm_rv_null ad hc]
      exact lv_ifnonnullN hx hb hdg (hN L _ M h H locs ls hW hS hL hn)
    · next hc =>
      rw [List.map_cons, gm_rv_ref ad (by omega)]
      exact lv_ifnonnull hx hb hdg ht (hJ b L _ M h H locs ls hW hS hL hn)
  · cases h

theorem gm_s_look {D : va_G} {sz : Nat} {ad : Nat → Nat} {cA : Nat → ClassId} {xs : Int → Int} {Ln : Int} {l : Launch} {mt : gm_MT} {cc : ByteArray} {own : String} {n : Nat} {isI : Bool} {rk : Nat} {bpc : Nat → Nat} {pc : Nat} {ps : List (Int × Nat)} {d : Nat} {dflt : Int} {offs : Array (Int × Int)} {len : Nat} (hdg : decode cc pc = .ok (.lookupswitch dflt offs, len)) (hp : (offs.toList.zip (offs.toList.drop 1)).all (fun (a, next) => a.1 < next.1) = true) (hd : (pc : Int) + dflt = (bpc d : Int)) (hps : offs.toList.map (fun q => (q.1, (pc : Int) + q.2)) = ps.map (fun q => (q.1, (bpc q.2 : Int)))) (pc' : Nat) : gm_S D sz ad cA xs Ln l mt cc own n isI rk bpc pc pc' (gm_switch ps d) := by
  intro dl n0 p e R s m args below meth c Q C J N X hcx hr hC hmJ hmN hN hJ L st M h H locs ls hW hS hL hn
  obtain ⟨hx, hb, hml, hown, hts, hSt, hin, hroom, hfr, hlo⟩ := id hcx
  unfold gm_switch at h
  split at h
  · next x st' =>
    have key : ∀ (os : List (Int × Int)) (ps : List (Int × Nat)), os.map (fun q => (q.1, (pc : Int) + q.2)) = ps.map (fun q => (q.1, (bpc q.2 : Int))) → gm_swk J d (gm_w x) ps L st' M = some X → ∃ b, (pc : Int) + Op.lookupswitch.offset os dflt (Int32.ofInt x).toInt = (bpc b : Int) ∧ J b L st' M = some X := by
      intro os
      induction os with
      | nil =>
        intro ps hps hk
        cases ps with
        | nil => exact ⟨d, hd, hk⟩
        | cons q ps => cases hps
      | cons o os ih =>
        intro ps hps hk
        cases ps with
        | nil => cases hps
        | cons q ps =>
          simp only [List.map_cons, List.cons.injEq, Prod.mk.injEq] at hps
          obtain ⟨⟨e1, e2⟩, e3⟩ := hps
          simp only [gm_swk] at hk
          split at hk
          · next hq =>
            refine ⟨q.2, ?_, hk⟩
            rw [show Op.lookupswitch.offset (o :: os) dflt (Int32.ofInt x).toInt = o.2 by
              obtain ⟨o1, o2⟩ := o
              rw [Op.lookupswitch.offset_cons]
              exact if_pos (e1.trans hq.symm)]
            exact e2
          · next hq =>
            obtain ⟨b, h1, h2⟩ := ih ps e3 hk
            refine ⟨b, ?_, h2⟩
            rw [show Op.lookupswitch.offset (o :: os) dflt (Int32.ofInt x).toInt = Op.lookupswitch.offset os dflt (Int32.ofInt x).toInt by
              obtain ⟨o1, o2⟩ := o
              rw [Op.lookupswitch.offset_cons]
              exact if_neg (fun z => hq (z.symm.trans e1))]
            exact h1
    obtain ⟨b, h1, h2⟩ := key _ _ hps h
    exact lv_lookup hx hb hdg hp rfl h1 (hJ b L _ M h2 H locs ls hW hS hL hn)
  · cases h

theorem gm_s_table {D : va_G} {sz : Nat} {ad : Nat → Nat} {cA : Nat → ClassId} {xs : Int → Int} {Ln : Int} {l : Launch} {mt : gm_MT} {cc : ByteArray} {own : String} {n : Nat} {isI : Bool} {rk : Nat} {bpc : Nat → Nat} {pc : Nat} {ps : List (Int × Nat)} {d : Nat} {dflt lo hi : Int} {offs : Array Int} {len : Nat} (hdg : decode cc pc = .ok (.tableswitch dflt lo hi offs, len)) (hd : (pc : Int) + dflt = (bpc d : Int)) (hsz : hi = lo + offs.size - 1) (hps : (List.range offs.size).map (fun (k : Nat) => (lo + (k : Int), (pc : Int) + offs.getD k 0)) = ps.map (fun q => (q.1, (bpc q.2 : Int)))) (pc' : Nat) : gm_S D sz ad cA xs Ln l mt cc own n isI rk bpc pc pc' (gm_switch ps d) := by
  intro dl n0 p e R s m args below meth c Q C J N X hcx hr hC hmJ hmN hN hJ L st M h H locs ls hW hS hL hn
  obtain ⟨hx, hb, hml, hown, hts, hSt, hin, hroom, hfr, hlo⟩ := id hcx
  unfold gm_switch at h
  split at h
  · next x st' =>
    have key : ∀ (ks : List Nat) (ps : List (Int × Nat)), ks.map (fun (k : Nat) => (lo + (k : Int), (pc : Int) + offs.getD k 0)) = ps.map (fun q => (q.1, (bpc q.2 : Int))) → gm_swk J d (gm_w x) ps L st' M = some X → (∃ k, k ∈ ks ∧ gm_w x = lo + (k : Int) ∧ ∃ b, (pc : Int) + offs.getD k 0 = (bpc b : Int) ∧ J b L st' M = some X) ∨ ((∀ k, k ∈ ks → ¬ gm_w x = lo + (k : Int)) ∧ J d L st' M = some X) := by
      intro ks
      induction ks with
      | nil =>
        intro ps hps hk
        cases ps with
        | nil => exact Or.inr ⟨fun _ q => (by cases q), hk⟩
        | cons q ps => cases hps
      | cons k ks ih =>
        intro ps hps hk
        cases ps with
        | nil => cases hps
        | cons q ps =>
          simp only [List.map_cons, List.cons.injEq, Prod.mk.injEq] at hps
          obtain ⟨⟨e1, e2⟩, e3⟩ := hps
          simp only [gm_swk] at hk
          split at hk
          · next hq => exact Or.inl ⟨k, List.mem_cons_self, hq.trans e1.symm, q.2, e2, hk⟩
          · next hq =>
            rcases ih ps e3 hk with ⟨k', h1, h2⟩ | ⟨h1, h2⟩
            · exact Or.inl ⟨k', List.mem_cons_of_mem _ h1, h2⟩
            · refine Or.inr ⟨fun k' h' => ?_, h2⟩
              rcases List.mem_cons.mp h' with rfl | h'
              · exact fun z => hq (z.trans e1)
              · exact h1 k' h'
    rcases key _ _ hps h with ⟨k, h1, h2, b, h3, h4⟩ | ⟨h1, h2⟩
    · have hk := List.mem_range.mp h1
      have hw : (Int32.ofInt x).toInt = lo + (k : Int) := h2
      refine lv_tableIn hx hb hdg (by omega) (by omega) (off := offs.getD k 0) ?_ h3 (hJ b L _ M h4 H locs ls hW hS hL hn)
      rw [show ((Int32.ofInt x).toInt - lo).toNat = k by omega]
      simp [hk]
    · refine lv_tableOut hx hb hdg ?_ hd (hJ d L _ M h2 H locs ls hW hS hL hn)
      rcases Int.lt_or_le (Int32.ofInt x).toInt lo with q | q
      · exact Or.inl q
      · refine Or.inr (Int.lt_of_not_ge fun q2 => ?_)
        refine h1 ((Int32.ofInt x).toInt - lo).toNat (List.mem_range.mpr (by omega)) ?_
        show (Int32.ofInt x).toInt = _
        omega
  · cases h

theorem gm_s_iret {D : va_G} {sz : Nat} {ad : Nat → Nat} {cA : Nat → ClassId} {xs : Int → Int} {Ln : Int} {l : Launch} {mt : gm_MT} {cc : ByteArray} {own : String} {n : Nat} {isI : Bool} {rk : Nat} {bpc : Nat → Nat} {pc : Nat} (hdg : decode cc pc = .ok (.ireturn, 1)) (hrk : rk = 1) (pc' : Nat) : gm_S D sz ad cA xs Ln l mt cc own n isI rk bpc pc pc' gm_iret := by
  intro dl n0 p e R s m args below meth c Q C J N X hcx hr hC hmJ hmN hN hJ L st M h H locs ls hW hS hL hn
  obtain ⟨hx, hb, hml, hown, hts, hSt, hin, hroom, hfr, hlo⟩ := id hcx
  unfold gm_iret at h
  split at h
  · next x =>
    cases h
    exact hr pc H locs ls ⟨hdg, Or.inl hrk⟩ hW hS hn
  · cases h

theorem gm_s_lret {D : va_G} {sz : Nat} {ad : Nat → Nat} {cA : Nat → ClassId} {xs : Int → Int} {Ln : Int} {l : Launch} {mt : gm_MT} {cc : ByteArray} {own : String} {n : Nat} {isI : Bool} {rk : Nat} {bpc : Nat → Nat} {pc : Nat} (hdg : decode cc pc = .ok (.lreturn, 1)) (hrk : rk = 4) (pc' : Nat) : gm_S D sz ad cA xs Ln l mt cc own n isI rk bpc pc pc' gm_lret := by
  intro dl n0 p e R s m args below meth c Q C J N X hcx hr hC hmJ hmN hN hJ L st M h H locs ls hW hS hL hn
  obtain ⟨hx, hb, hml, hown, hts, hSt, hin, hroom, hfr, hlo⟩ := id hcx
  unfold gm_lret at h
  split at h
  · next x =>
    cases h
    exact hr pc H locs ls ⟨hrk, hdg⟩ hW hS hn
  · cases h

theorem gm_s_aret {D : va_G} {sz : Nat} {ad : Nat → Nat} {cA : Nat → ClassId} {xs : Int → Int} {Ln : Int} {l : Launch} {mt : gm_MT} {cc : ByteArray} {own : String} {n : Nat} {isI : Bool} {rk : Nat} {bpc : Nat → Nat} {pc : Nat} (hdg : decode cc pc = .ok (.areturn, 1)) (hrk : rk = 5) (pc' : Nat) : gm_S D sz ad cA xs Ln l mt cc own n isI rk bpc pc pc' gm_aret := by
  intro dl n0 p e R s m args below meth c Q C J N X hcx hr hC hmJ hmN hN hJ L st M h H locs ls hW hS hL hn
  obtain ⟨hx, hb, hml, hown, hts, hSt, hin, hroom, hfr, hlo⟩ := id hcx
  unfold gm_aret at h
  split at h
  · next x =>
    cases h
    exact hr pc H locs ls ⟨hrk, hdg⟩ hW hS hn
  · cases h

theorem gm_s_zret {D : va_G} {sz : Nat} {ad : Nat → Nat} {cA : Nat → ClassId} {xs : Int → Int} {Ln : Int} {l : Launch} {mt : gm_MT} {cc : ByteArray} {own : String} {n : Nat} {isI : Bool} {rk : Nat} {bpc : Nat → Nat} {pc : Nat} (hdg : decode cc pc = .ok (.ireturn, 1)) (hrk : rk = 2) (pc' : Nat) : gm_S D sz ad cA xs Ln l mt cc own n isI rk bpc pc pc' gm_zret := by
  intro dl n0 p e R s m args below meth c Q C J N X hcx hr hC hmJ hmN hN hJ L st M h H locs ls hW hS hL hn
  obtain ⟨hx, hb, hml, hown, hts, hSt, hin, hroom, hfr, hlo⟩ := id hcx
  unfold gm_zret at h
  split at h
  · next x =>
    split at h
    · next hc =>
      cases h
      exact hr pc H locs ls ⟨hdg, Or.inr (Or.inl ⟨hrk, hc⟩)⟩ hW hS hn
    · cases h
  · cases h

theorem gm_s_cret {D : va_G} {sz : Nat} {ad : Nat → Nat} {cA : Nat → ClassId} {xs : Int → Int} {Ln : Int} {l : Launch} {mt : gm_MT} {cc : ByteArray} {own : String} {n : Nat} {isI : Bool} {rk : Nat} {bpc : Nat → Nat} {pc : Nat} (hdg : decode cc pc = .ok (.ireturn, 1)) (hrk : rk = 3) (pc' : Nat) : gm_S D sz ad cA xs Ln l mt cc own n isI rk bpc pc pc' gm_cret := by
  intro dl n0 p e R s m args below meth c Q C J N X hcx hr hC hmJ hmN hN hJ L st M h H locs ls hW hS hL hn
  obtain ⟨hx, hb, hml, hown, hts, hSt, hin, hroom, hfr, hlo⟩ := id hcx
  unfold gm_cret at h
  split at h
  · next x =>
    split at h
    · next hc =>
      cases h
      exact hr pc H locs ls ⟨hdg, Or.inr (Or.inr ⟨hrk, hc⟩)⟩ hW hS hn
    · cases h
  · cases h

theorem gm_s_vret {D : va_G} {sz : Nat} {ad : Nat → Nat} {cA : Nat → ClassId} {xs : Int → Int} {Ln : Int} {l : Launch} {mt : gm_MT} {cc : ByteArray} {own : String} {n : Nat} {isI : Bool} {rk : Nat} {bpc : Nat → Nat} {pc : Nat} (hdg : decode cc pc = .ok (.return_, 1)) (hrk : rk = 0) (pc' : Nat) : gm_S D sz ad cA xs Ln l mt cc own n isI rk bpc pc pc' gm_vret := by
  intro dl n0 p e R s m args below meth c Q C J N X hcx hr hC hmJ hmN hN hJ L st M h H locs ls hW hS hL hn
  obtain ⟨hx, hb, hml, hown, hts, hSt, hin, hroom, hfr, hlo⟩ := id hcx
  unfold gm_vret at h
  split at h
  · cases h
    exact hr pc H locs ls ⟨hrk, hdg⟩ hW hS hn
  · cases h
