/-! THE CLAIM OUT OF ONE WALK OF THE LAW'S BODY. Your part is whole_start (and what it stands on); all else here is the same for every law, but numbers. -/
def R_law : String := "LongNoonLaw"
def lw_P (b : Addr) (xs : List Int32) (args : Array Value) (s : State) : Prop := args = #[.ref b] ∧ s.IntsAt b xs ∧ xs.length ≤ 3072 ∧ (Jvm.Cond.and given_1 narrow_1).before args s = true
def lw_Q (_ : Array Value) (s : State) (o : Outcome) (t : State) : Prop := o = .returned (some (.int 1)) ∧ Framed s o t [] 600000 7302250
def lw_Z (below : List Frame) (a : Array Value) (s : State) : State → Prop := fun t => ∃ o, t.status = .running ∧ Ended t below o ∧ lw_Q a s o t
/-- the law's own end, with 1 on the stack, nothing written that was there before, its room as the claim has it -/
theorem lw_ret {p : Program} {l : Launch} {e : Env} {s : State} {m : MethodId} {below : List Frame} {meth : Method} {c : Code} {b : Nat} (hx : p.tables.exec = Jvm.exec) (hb : c.code = code) (hr : meth.sig.returnType = ret) (hlocks : meth.locks = false) {pc : Nat} {H : Heap} {ls : Array Slot} (hdg : decode code pc = .ok (.ireturn, 1)) : W p l e room_1 s m #[Value.ref b] below meth c H [] 600000 7302250 (lw_Z below #[Value.ref b] s) (F0 m pc ls [.int 1]) := by
  intro T hT X
  obtain ⟨fs, hret, hrun, hended, hW, hframe⟩ := X.leave (v := some (.int 1)) (hlocks := hlocks) (fun h => by rw [hr] at h; cases h)
  have hmeth' : T.vm.method? m = some meth := X.method'
  refine ⟨T.setFrames fs, ?_, .returned (some (.int 1)), hrun, hended, rfl, ⟨_, rfl⟩, hW, hframe⟩
  jvm_step X.here [X.here.top, hx, hb, hdg, hmeth', hr, ret, narrow_b1]
  (try refine ⟨rfl, ?_⟩); (try refine ⟨rfl, ?_⟩)
  first | (intro acts; rw [hret _ acts rfl rfl rfl]) | rw [hret _ _ rfl rfl rfl]
  exact Steps.refl _
/-- what holds at the law's entry: the machine, the code, the tables' words (any of lw_tbl by 'hts w (by decide +kernel)'), the script of L ints xs at the cell b, what the Statement gives of the start (any of its parts by flat_of_before) -/
def lw_At (p : Program) (s : State) (m : MethodId) (meth : Method) (c : Code) (b L : Nat) (xs : Nat → Int32) : Prop :=
  p.tables.exec = Jvm.exec ∧ c.code = code ∧ meth.sig.returnType = ret ∧ c.maxLocals = 4 ∧ s.vm.findClass R_law = some m.cls ∧ (∀ w ∈ lw_tbl, w.before #[Value.ref b] s = true) ∧ va_X b L xs s s.heap ∧ b < s.heap.size ∧ meth.locks = false ∧ (Jvm.Cond.and given_1 narrow_1).before #[Value.ref b] s = true
-- the array classes
theorem gw_ac {args : Array Value} {s : State} {ty : FieldType} (hty : ty = .int ∨ ty = .long ∨ ty = .char ∨ ty = .boolean) (h : (Cond.arrayClass ty).before args s = true) : ∃ cA : ClassId, ArrOfT s cA ty ∧ va_RA s cA ty := by
  obtain ⟨c, k, comp, h1, h2, h3⟩ := Cond.arrayClass_spec h
  refine ⟨c, fun n z => ⟨fun k h => (by cases h), k, h2, comp, h3⟩, ?_⟩
  rcases hty with rfl | rfl | rfl | rfl <;> exact h1
theorem gw_ao {args : Array Value} {s : State} {C : String} (h : (Cond.arrayOver (.object C)).before args s = true) : ∃ cA : ClassId, ArrOfT s cA (.object C) ∧ va_RA s cA (.object C) := by
  obtain ⟨comp, c, k, h1, h2, h3, h4, h5⟩ := Cond.arrayOver_spec h
  exact ⟨c, fun n z => ⟨fun k h => (by cases h), k, h3, comp, h4⟩, k, comp, h3, h4, h1, h5⟩
-- the words that the entry gives
abbrev gw_fl : List Cond := flatC (Jvm.Cond.and given_1 narrow_1)
def gw_tm (i : Nat) : Term := .string "LongNoon$Reader" (gm_txR.getD i (0, "")).1
def gw_tv (i : Nat) : Term := .field (gw_tm i) "java/lang/String" "value" "[B"
theorem gw_m1 : ∀ j : Fin 7, (Cond.eq (.elem (.static "LongNoon" "ABOVE" "[I") (.int (Int32.ofNat j.1))) (.int (Int32.ofInt (gm_abv (j.1 : Int))))) ∈ gw_fl := by decide +kernel
theorem gw_m2 : ∀ j : Fin 21, (Cond.eq (.elem (.static "LongNoon$Player" "BODY" "[I") (.int (Int32.ofNat j.1))) (.int (Int32.ofInt (gm_bod (j.1 : Int))))) ∈ gw_fl := by decide +kernel
theorem gw_m3 : ∀ i : Fin 6, (Cond.exactly (gw_tm i.1) "java/lang/String") ∈ gw_fl ∧ (Cond.eq (.field (gw_tm i.1) "java/lang/String" "coder" "B") (.int 0)) ∈ gw_fl ∧ (Cond.arrayOf (gw_tv i.1) .byte) ∈ gw_fl ∧ (Cond.eq (.length (gw_tv i.1)) (.int (Int32.ofNat (gm_txL.getD i.1 0)))) ∈ gw_fl := by decide +kernel
theorem gw_m4 : ∀ i : Fin 6, ∀ j : Fin 6, j.1 < gm_txL.getD i.1 0 → (Cond.eq (.elem (gw_tv i.1) (.int (Int32.ofNat j.1))) (.int ((gm_txB.getD i.1 []).getD j.1 0))) ∈ gw_fl := by decide +kernel
theorem gw_m5 : ∀ i j : Fin 6, i ≠ j → (Cond.not (Cond.eq (gw_tm i.1) (gw_tm j.1))) ∈ gw_fl ∨ (Cond.not (Cond.eq (gw_tm j.1) (gw_tm i.1))) ∈ gw_fl := by decide +kernel
theorem gw_m6 : ∀ q ∈ gm_nestM, (Cond.methodLinkNest q.1 q.2.1 q.2.2.1 q.2.2.2) ∈ lw_tbl := by decide +kernel
theorem gw_m7 : ∀ q ∈ gm_txR, (Cond.stringRef "LongNoon$Reader" q.1 q.2) ∈ lw_tbl := by decide +kernel
theorem gw_len6 : ∀ i : Fin 6, gm_txL.getD i.1 0 ≤ 6 := by decide
theorem gw_sl : gm_sl 188 ≤ 7302250 := by decide +kernel
theorem whole_start {p : Program} {e : Env} {s : State} {m : MethodId} {below : List Frame} {meth : Method} {c : Code} (l : Launch) (hflags : l.flags = flags0) {b L : Nat} {xs : Nat → Int32} (hL : L ≤ 3072) (C0 : lw_At p s m meth c b L xs) : W p l e room_1 s m #[Value.ref b] below meth c s.heap [] 0 0 (lw_Z below #[Value.ref b] s) (entryFrame m ([Value.ref b] : List Value).toArray 4) := by
  obtain ⟨hx, hb, hr, hml, hown, hts, hX, hbl, hlocks, hgv⟩ := id C0
  have hs : ∀ w ∈ gw_fl, w.before #[Value.ref b] s = true := flat_of_before _ hgv
  have ok : ∀ w ∈ gm_ok, w.before #[Value.ref b] s = true := fun w hw => hts w (List.mem_filter.mp hw).1
  have hA : ∀ a : Nat, a < s.heap.size → ¬ gm_fr s.heap.size a := fun a h => Nat.not_le.mpr h
  obtain ⟨c0, i0, k0⟩ := u_known (C := RX0) (T := TX0) (N := 4) (n := 4) ok gcw_0 (ok _ gw_409)
  obtain ⟨c1, i1, k1⟩ := u_known (C := RX1) (T := TX1) (N := 4) (n := 4) ok gcw_1 (ok _ gw_411)
  obtain ⟨c2, i2, k2⟩ := u_known (C := RX2) (T := TX2) (N := 7) (n := 7) ok gcw_2 (ok _ gw_413)
  obtain ⟨c3, i3, k3⟩ := u_known (C := RX3) (T := TX3) (N := 2) (n := 2) ok gcw_3 (ok _ gw_415)
  obtain ⟨c4, i4, k4⟩ := u_known (C := RX4) (T := TX4) (N := 3) (n := 3) ok gcw_4 (ok _ gw_417)
  obtain ⟨c5, i5, k5⟩ := u_known (C := RX5) (T := TX5) (N := 3) (n := 3) ok gcw_5 (ok _ gw_419)
  obtain ⟨c6, i6, k6⟩ := u_known (C := RX6) (T := TX6) (N := 3) (n := 3) ok gcw_6 (ok _ gw_421)
  obtain ⟨c7, i7, k7⟩ := u_known (C := RX7) (T := TX7) (N := 10) (n := 10) ok gcw_7 (ok _ gw_423)
  obtain ⟨c8, i8, k8⟩ := u_known (C := RX8) (T := TX8) (N := 13) (n := 13) ok gcw_8 (ok _ gw_425)
  obtain ⟨c9, i9, k9⟩ := u_known (C := RX9) (T := TX9) (N := 64) (n := 64) ok gcw_9 (ok _ gw_427)
  obtain ⟨dC, dI, hKc⟩ : ∃ (dC : Nat → ClassId) (dI : Nat → Nat → Nat), ∀ (k : Nat) (q : vw_C), vwCl[k]? = some q → u_Kn s q.1 q.2.1 q.2.2 (dC k) (dI k) := by
    refine ⟨fun k => match k with | 0 => c0 | 1 => c1 | 2 => c2 | 3 => c3 | 4 => c4 | 5 => c5 | 6 => c6 | 7 => c7 | 8 => c8 | _ => c9, fun k => match k with | 0 => i0 | 1 => i1 | 2 => i2 | 3 => i3 | 4 => i4 | 5 => i5 | 6 => i6 | 7 => i7 | 8 => i8 | _ => i9, ?_⟩
    intro k q hq
    match k, hq with
    | 0, hq => cases hq; exact k0
    | 1, hq => cases hq; exact k1
    | 2, hq => cases hq; exact k2
    | 3, hq => cases hq; exact k3
    | 4, hq => cases hq; exact k4
    | 5, hq => cases hq; exact k5
    | 6, hq => cases hq; exact k6
    | 7, hq => cases hq; exact k7
    | 8, hq => cases hq; exact k8
    | 9, hq => cases hq; exact k9
    | k + 10, hq => simp [vwCl] at hq
  obtain ⟨a20, r20⟩ := gw_ac (ty := .int) (Or.inl rfl) (hts _ (by decide +kernel : Cond.arrayClass .int ∈ lw_tbl))
  obtain ⟨a21, r21⟩ := gw_ac (ty := .long) (Or.inr (Or.inl rfl)) (hts _ (by decide +kernel : Cond.arrayClass .long ∈ lw_tbl))
  obtain ⟨a22, r22⟩ := gw_ac (ty := .char) (Or.inr (Or.inr (Or.inl rfl))) (hts _ (by decide +kernel : Cond.arrayClass .char ∈ lw_tbl))
  obtain ⟨a23, r23⟩ := gw_ac (ty := .boolean) (Or.inr (Or.inr (Or.inr rfl))) (hts _ (by decide +kernel : Cond.arrayClass .boolean ∈ lw_tbl))
  have w24 := hts _ (by decide +kernel : Cond.arrayOver (.object "LongNoon$House") ∈ lw_tbl)
  have w25 := hts _ (by decide +kernel : Cond.arrayOver (.object "LongNoon$Ground") ∈ lw_tbl)
  have w26 := hts _ (by decide +kernel : Cond.arrayOver (.object "LongNoon$Tape") ∈ lw_tbl)
  obtain ⟨a24, r24⟩ := gw_ao w24
  obtain ⟨a25, r25⟩ := gw_ao w25
  obtain ⟨a26, r26⟩ := gw_ao w26
  obtain ⟨cA, hcA⟩ : ∃ cA : Nat → ClassId, cA = fun k => if k = 20 then a20 else if k = 21 then a21 else if k = 22 then a22 else if k = 23 then a23 else if k = 24 then a24 else if k = 25 then a25 else a26 := ⟨_, rfl⟩
  have hK : va_K (dC, dI) vwCl (gm_tys cA) s := ⟨hKc, fun k q hq => by
    rw [hcA] at hq
    match k, hq with
    | 0, hq => cases hq; exact r20
    | 1, hq => cases hq; exact r21
    | 2, hq => cases hq; exact r22
    | 3, hq => cases hq; exact r23
    | 4, hq => cases hq; exact r24
    | 5, hq => cases hq; exact r25
    | 6, hq => cases hq; exact r26
    | k + 7, hq => simp [gm_tys] at hq⟩
  -- the rows that nobody writes
  obtain ⟨tA, eA, hTA⟩ := va_Tof (tm := .static "LongNoon" "ABOVE" "[I") (ty := .int) (N := 7) (f := fun j => .int (Int32.ofInt (gm_abv (j : Int)))) (A := gm_fr s.heap.size) (by decide) (hs _ (by decide +kernel)) (va_eqt (hs _ (by decide +kernel : Cond.eq (.length (.static "LongNoon" "ABOVE" "[I")) (.int (Int32.ofNat 7)) ∈ gw_fl))) (fun j hj => va_eqt (hs _ (gw_m1 ⟨j, hj⟩))) hA
  have hZA : va_Z "LongNoon" "ABOVE" "[I" (.ref tA) (gm_fr s.heap.size) s s.heap := va_Zof (hts _ (by decide +kernel : Cond.laysStatic "LongNoon" "ABOVE" "[I" ∈ lw_tbl)) (hts _ (by decide +kernel : Cond.initialized "LongNoon" ∈ lw_tbl)) eA hA
  obtain ⟨tB, eB, hTB⟩ := va_Tof (tm := .static "LongNoon$Player" "BODY" "[I") (ty := .int) (N := 21) (f := fun j => .int (Int32.ofInt (gm_bod (j : Int)))) (A := gm_fr s.heap.size) (by decide) (hs _ (by decide +kernel)) (va_eqt (hs _ (by decide +kernel : Cond.eq (.length (.static "LongNoon$Player" "BODY" "[I")) (.int (Int32.ofNat 21)) ∈ gw_fl))) (fun j hj => va_eqt (hs _ (gw_m2 ⟨j, hj⟩))) hA
  have hZB : va_Z "LongNoon$Player" "BODY" "[I" (.ref tB) (gm_fr s.heap.size) s s.heap := va_Zof (hts _ (by decide +kernel : Cond.laysStatic "LongNoon$Player" "BODY" "[I" ∈ lw_tbl)) (hts _ (by decide +kernel : Cond.initialized "LongNoon$Player" ∈ lw_tbl)) eB hA
  obtain ⟨adK, adV, hST, hev⟩ := vk_Sof (N := 6) (tm := gw_tm) (len := gm_txL) (byt := gm_txB) (A := gm_fr s.heap.size) (fun i hi => by have := gw_len6 ⟨i, hi⟩; simp only at this; omega) (fun i hi => hs _ (gw_m3 ⟨i, hi⟩).1) (fun i hi => hs _ (gw_m3 ⟨i, hi⟩).2.1) (fun i hi => hs _ (gw_m3 ⟨i, hi⟩).2.2.1) (fun i hi => hs _ (gw_m3 ⟨i, hi⟩).2.2.2)
    (fun i hi j hj => by
      have := gw_len6 ⟨i, hi⟩
      simp only at this
      exact hs _ (gw_m4 ⟨i, hi⟩ ⟨j, by omega⟩ hj)) (fun i j hi hj hij => (gw_m5 ⟨i, hi⟩ ⟨j, hj⟩ (fun q => hij (Fin.mk.inj q))).imp (fun q => hs _ q) (fun q => hs _ q)) hA
  have hZC : va_Z "java/lang/String" "COMPACT_STRINGS" "Z" (.int 1) (gm_fr s.heap.size) s s.heap := va_Zof (hts _ (by decide +kernel : Cond.laysStatic "java/lang/String" "COMPACT_STRINGS" "Z" ∈ lw_tbl)) (hts _ (by decide +kernel : Cond.initialized "java/lang/String" ∈ lw_tbl)) (va_eqt (hs _ (by decide +kernel))) hA
  have hZQ : va_Zq "jdk/internal/util/Preconditions" "SIOOBE_FORMATTER" "Ljava/util/function/BiFunction;" (gm_fr s.heap.size) s s.heap := va_Zqof (hts _ (by decide +kernel : Cond.laysStatic "jdk/internal/util/Preconditions" "SIOOBE_FORMATTER" "Ljava/util/function/BiFunction;" ∈ lw_tbl)) (hts _ (by decide +kernel : Cond.initialized "jdk/internal/util/Preconditions" ∈ lw_tbl)) (hs _ (by decide +kernel)) hA
  obtain ⟨ad, had⟩ : ∃ ad : Nat → Nat, ad = fun k => if k = 1000 then tA else if k = 1001 then tB else if k = 1002 then b else if 1003 ≤ k ∧ k < 1009 then adK (k - 1003) else if 1103 ≤ k then adV (k - 1103) else s.heap.size + (k - 1) := ⟨_, rfl⟩
  have ad0 : ad 1000 = tA := by rw [had]; rfl
  have ad1 : ad 1001 = tB := by rw [had]; rfl
  have ad2 : ad 1002 = b := by rw [had]; rfl
  have ad3 : ∀ i, i < 6 → ad (1003 + i) = adK i := fun i hi => by
    rw [had]
    simp only
    rw [if_neg (by omega), if_neg (by omega), if_neg (by omega), if_pos (by omega), show 1003 + i - 1003 = i by omega]
  have ad4 : ∀ i, i < 6 → ad (1103 + i) = adV i := fun i hi => by
    rw [had]
    simp only
    rw [if_neg (by omega), if_neg (by omega), if_neg (by omega), if_neg (by omega), if_pos (by omega), show 1103 + i - 1103 = i by omega]
  have ad5 : ∀ k : Nat, 1 ≤ k → k ≤ gm_NX → ad k = s.heap.size + (k - 1) := fun k k1 k2 => by
    have k3 : k ≤ 188 := k2
    rw [had]
    simp only
    rw [if_neg (by omega), if_neg (by omega), if_neg (by omega), if_neg (by omega), if_neg (by omega)]
  -- the script
  obtain ⟨xi, hxi⟩ : ∃ xi : Int → Int, xi = fun i => (xs i.toNat).toInt := ⟨_, rfl⟩
  have hxg : ∀ i, gm_i (xi i) := fun i => by
    rw [hxi]
    exact ⟨Int32.le_toInt _, Int32.toInt_lt _⟩
  have hTX : va_T .int (ad 1002) (L : Int).toNat (fun j => .int (Int32.ofInt (xi (j : Int)))) (gm_fr s.heap.size) s s.heap := by
    obtain ⟨scr, h1, h2, h3, h4, h5⟩ := hX
    rw [ad2, Int.toNat_natCast]
    refine ⟨scr, h1, h2, h3, by omega, by rw [h4], fun j hj => ?_, hA b hbl⟩
    rw [h5 j hj, hxi]
    simp only [Int.toNat_natCast, Int32.ofInt_toInt]
  have hT : gm_T s.heap.size ad xi L s s.heap := by
    refine ⟨⟨by rw [ad0]; exact hZA, by rw [ad0]; exact hTA⟩, ⟨by rw [ad1]; exact hZB, by rw [ad1]; exact hTB⟩, hTX, ⟨fun i hi => ?_, fun i j hi hj h => ?_⟩, hZC, hZQ⟩
    · simp only [ad3 i hi, ad4 i hi]
      exact hST.1 i hi
    · simp only [ad3 i hi, ad3 j hj] at h
      exact hST.2 i j hi hj h
  have hNt : gm_Nt ad s := by
    refine ⟨fun q hq => va_Nw.of rfl (hts _ (gw_m6 q hq)), va_Nw.of rfl (hts _ (by decide +kernel : Cond.fieldLinkNest "LongNoon$Player" 28 "LongNoon" "ABOVE" "[I" "LongNoon" ∈ lw_tbl)), ⟨va_AO.of w24, va_AO.of w25, va_AO.of w26⟩, fun i q hq => ?_⟩
    have hi : i < 6 := (List.getElem?_eq_some_iff.mp hq).1
    rw [ad3 i hi]
    have he := hev i hi
    have hq1 : gm_txR.getD i (0, "") = q := by rw [List.getD_eq_getElem?_getD, hq]; rfl
    unfold gw_tm at he
    rw [hq1] at he
    have he' : (Term.string "LongNoon$Reader" q.1).eval #[Value.ref b] s none [] s = some (.ref (adK i)) := he
    exact vk_R.of (A := #[Value.ref b]) (hts _ (gw_m7 q (List.mem_of_getElem? hq))) he'
  have hSt : gm_St (dC, dI) s.heap.size ad cA xi L s s.heap := ⟨hK, Nat.le_refl _, ad5, hT, hNt, by omega, by omega⟩
  -- the run
  obtain ⟨M', hex, h188⟩ := law_ex (xs := xi) (Ln := L) (gn_pv (dC, dI) s.heap.size ad cA xi L l) hxg ⟨by omega, by omega⟩
  obtain ⟨hC, hH⟩ := gm_go_snd (D := (dC, dI)) (sz := s.heap.size) (ad := ad) (cA := cA) (xs := xi) (Ln := L) (l := l) 60
  have hB := gm_tb (tL_law (D := (dC, dI)) (sz := s.heap.size) (ad := ad) (cA := cA) (xs := xi) (Ln := L) (l := l))
  have hcx : gm_Cx (dC, dI) s.heap.size ad cA xi L cL_law "LongNoonLaw" 4 false 2 60 0 M'.1 p room_1 s m #[Value.ref b] meth c := ⟨hx, hb, hml, hown, ok, hSt, (fun h => by cases h), ⟨by rw [h188]; decide, by rw [h188]; exact Nat.le_trans (Nat.sub_le _ _) gw_sl⟩, by decide, by decide⟩
  have hr2 : gm_HR (dC, dI) s.heap.size ad cA xi L l cL_law 2 0 p e room_1 s m #[Value.ref b] below meth c (lw_Z below #[Value.ref b] s) (some (.inl 1), M') := by
    intro pc H locs ls hok hW hS hn
    refine va_forget (fun q hq => hS.2.2 q hq) ?_
    refine W.widen (k := 600000) (n := 7302250) (by show M'.1 - 0 ≤ 600000; omega) (by show gm_sl M'.1 - gm_sl 0 ≤ 7302250; rw [h188]; exact Nat.le_trans (Nat.sub_le _ _) gw_sl) ?_
    exact lw_ret hx hb hr hlocks hok.1
  have hW0 : gm_W (dC, dI) s.heap.size ad cA xi L (gn_M0 xi L) s.heap := ⟨fun k q h => by simp [gm_ws, gn_M0] at h, fun _ => rfl, Nat.zero_le _, gn_M0_pu xi L⟩
  have e1 : ([.inr (.inr 1002)] : List gm_V).map (gm_rv ad) = [Value.ref b] := by
    rw [List.map_cons, List.map_nil, gm_rv_ref ad (by decide)]
    show [Value.ref (ad 1002)] = _
    rw [ad2]
  have hlr := gm_LR0 ad (as := [.inr (.inr 1002)]) (n := 4) (by decide)
  rw [e1] at hlr
  have g := gm_ex_snd (e := e) (below := below) (X := (some (.inl 1), M')) hcx hr2 hH hC hB 100000 0 _ _ _ hex s.heap [] _ hW0 va_S.rf hlr (Nat.zero_le _)
  rw [lg_entry_eq]
  exact g
