/-! MEMORY: fields, rows, new cells, held against the kit's rows -/
theorem gm_ref {sz : Nat} {ad : Nat → Nat} (hadr : ∀ k : Nat, 1 ≤ k → k ≤ gm_NX → ad k = sz + (k - 1)) {i M1 : Nat} (hi : i < M1) (hM : M1 ≤ gm_NX) : gm_rv ad (.inr (.inr ((i + 1 : Nat) : Int))) = .ref (sz + i) := by
  rw [gm_rv_ref ad (by omega), Int.toNat_natCast, hadr (i + 1) (by omega) (by omega)]
  congr 1
theorem gm_pu_sF {xs : Int → Int} {Ln : Int} {M : gm_M} {f i : Nat} {x : Int} (h : gm_pu xs Ln M) : gm_pu xs Ln (gm_sF M f ((i + 1 : Nat) : Int) x) := ⟨h.1, h.2.1, h.2.2.1, by
  show (if 9999 = f ∧ (0 : Int) = ((i + 1 : Nat) : Int) then x else M.2.1 9999 0) = Ln
  rw [if_neg (by omega)]
  exact h.2.2.2⟩
theorem gm_pu_A {xs : Int → Int} {Ln : Int} {M M' : gm_M} (h : gm_pu xs Ln M) (hF : M'.2.1 = M.2.1) (hA : ∀ a i : Int, 1000 ≤ a → M'.2.2 a i = M.2.2 a i) : gm_pu xs Ln M' :=
  ⟨fun i => (hA 1000 i (by decide)).trans (h.1 i), fun i => (hA 1001 i (by decide)).trans (h.2.1 i), fun i => (hA 1002 i (by decide)).trans (h.2.2.1 i), by rw [hF]; exact h.2.2.2⟩
theorem gm_W_upd {D : va_G} {sz : Nat} {ad : Nat → Nat} {cA : Nat → ClassId} {xs : Int → Int} {Ln : Int} {M M' : gm_M} {i : Nat} {H H1 : Heap} (hW : gm_W D sz ad cA xs Ln M H) (h1 : M'.1 = M.1) (hi : i < M.1) (hF : ∀ (f j : Nat), j ≠ i + 1 → M'.2.1 f j = M.2.1 f j) (hA : ∀ (j : Nat) (q : Int), j ≠ i + 1 → M'.2.2 j q = M.2.2 j q) (hpu : gm_pu xs Ln M')
    (he : va_at D vwCl (sz + i, gm_e ad cA M' (i + 1)) H1) (z : H1.size = H.size) (oq : ∀ q : Nat, q ≠ sz + i → H1[q]? = H[q]?) : gm_W D sz ad cA xs Ln M' H1 := by
  refine ⟨?_, fun h => ?_, by rw [h1]; exact hW.2.2.1, hpu⟩
  · have h2 := hW.1.set (gm_ws_D sz ad cA M) (gm_ws_at hi) he oq
    rw [gm_ws_set h1 hi rfl (fun j hj => gm_e_congr (fun f => hF f (j + 1) (by omega)) (fun q => hA (j + 1) q (by omega)))] at h2
    exact h2
  · rw [h1] at h ⊢
    rw [z]
    exact hW.2.1 h
theorem gm_e_sF {ad : Nat → Nat} {cA : Nat → ClassId} {M : gm_M} {i ci k : Nat} {x : Int} (hsh : (gm_sh (i + 1)).1 = ci) (hci : ci < 20) (hk : k < (gm_sh (i + 1)).2) : gm_e ad cA (gm_sF M (100 * ci + k) ((i + 1 : Nat) : Int) x) (i + 1) = .inr (ci, ((List.range (gm_sh (i + 1)).2).map (fun j => gm_fv ad (gm_fty ci j) (M.2.1 (100 * ci + j) ((i + 1 : Nat) : Int)))).set k (gm_fv ad (gm_fty ci k) x)) := by
  rw [gm_eO hsh hci]
  congr 2
  apply List.ext_getElem?
  intro j
  by_cases hj : j = k
  · subst hj
    rw [List.getElem?_set_self (by simpa using hk)]
    simp [hk, gm_sF]
  · rw [List.getElem?_set_ne (Ne.symm hj), List.getElem?_map, List.getElem?_map]
    by_cases hl : j < (gm_sh (i + 1)).2
    · rw [List.getElem?_range hl]
      simp [gm_sF, hj]
    · rw [List.getElem?_eq_none (by simpa using hl)]
      rfl
theorem gm_fs_at {ad : Nat → Nat} {M : gm_M} {i ci k n : Nat} (hk : k < n) : ((List.range n).map (fun j => gm_fv ad (gm_fty ci j) (M.2.1 (100 * ci + j) ((i + 1 : Nat) : Int))))[k]? = some (gm_fv ad (gm_fty ci k) (M.2.1 (100 * ci + k) ((i + 1 : Nat) : Int))) := by
  simp [hk]
theorem gm_cls {ci i : Nat} {C : String} {T : u_T} {Nf : Nat} (hi : i < gm_NX) (hci : ci < 10) (hsh : (gm_sh (i + 1)).1 = ci) (hc : vwCl[ci]? = some (C, T, Nf)) : (gm_sh (i + 1)).2 = Nf := by
  have h := gm_sh_O i hi ci hci hsh
  rw [hc] at h
  exact (Option.some.inj h).symm
theorem gm_putW {D : va_G} {sz : Nat} {ad : Nat → Nat} {cA : Nat → ClassId} {xs : Int → Int} {Ln : Int} {p : Program} {l : Launch} {e : Env} {R : Room} {s : State} {m : MethodId} {args : Array Value} {below : List Frame} {meth : Method} {c : Code} {H : Heap} {locs : List Loc} {cells slots : Nat} {Q : State → Prop} {cc : ByteArray} {pc : Nat} {ls : Array Slot} {rest : List Value} {M : gm_M} (hx : p.tables.exec = Jvm.exec) (hb : c.code = cc) {own : String} (hown : s.vm.findClass own = some m.cls) (hts : ∀ w ∈ gm_ok, w.before args s = true) (hSt : gm_St D sz ad cA xs Ln s s.heap) (hW : gm_W D sz ad cA xs Ln M H) (hS : va_S (gm_fr sz) s.heap H locs)
    {i ci k index Nf : Nat} {C : String} {T : u_T} (hi : i < M.1) (hsh : (gm_sh (i + 1)).1 = ci) (hci : ci < 10) (hc : vwCl[ci]? = some (C, T, Nf)) (hin : ∀ w ∈ u_ws C T Nf, w ∈ gm_ok) (ty0 : Nat → FieldType) (hty : ∀ k, k < Nf → parseFieldDescriptor (T k).2.2.1 = some (ty0 k)) (hnm : ∀ a, a < Nf → ∀ b, b < Nf → a ≠ b → (T a).2.1 ≠ (T b).2.1) (hk : k < Nf)
    (hlink : Cond.fieldLink own index (T k).1 (T k).2.1 (T k).2.2.1 ∈ gm_ok) (hfin : (T k).2.2.2 = false ∨ ((T k).2.2.2 = true ∧ meth.name = "<init>" ∧ (T k).1 = own)) {v : Value} {x : Int} (hn : narrow (ty0 k) v = v) (hfit : fits (ty0 k) v = true) (hv : gm_fv ad (gm_fty ci k) x = v) (hdg : decode cc pc = .ok (.putfield index, 3))
    (kk : ∀ (H1 : Heap) (locs1 : List Loc), gm_W D sz ad cA xs Ln (gm_sF M (100 * ci + k) ((i + 1 : Nat) : Int) x) H1 → va_S (gm_fr sz) s.heap H1 locs1 → W p l e R s m args below meth c H1 locs1 cells slots Q (F0 m (pc + 3) ls rest)) : W p l e R s m args below meth c H locs cells slots Q (F0 m pc ls (v :: .ref (sz + i) :: rest)) := by
  have hK := hSt.1
  have hN : (gm_sh (i + 1)).2 = Nf := gm_cls (Nat.lt_of_lt_of_le hi hW.2.2.1) hci hsh hc
  have hap := va_apart (own := own) hts hin ty0 hty hnm hK hc
  have he : (gm_ws sz ad cA M)[i]? = some (sz + i, .inr (ci, (List.range (gm_sh (i + 1)).2).map (fun j => gm_fv ad (gm_fty ci j) (M.2.1 (100 * ci + j) ((i + 1 : Nat) : Int))))) := by
    rw [gm_ws_at hi, gm_eO hsh (by omega)]
  obtain ⟨r, h1, cell, q1, q2, q3, q4⟩ := hW.1 i _ he
  have hr : r = (C, T, Nf) := Option.some.inj (h1.symm.trans hc)
  subst hr
  obtain ⟨hSl, hfc, kC, hkC, hkind⟩ := hK.1 ci _ hc
  obtain ⟨cf, kf, fi, f, hfo, hsl⟩ := hSl k hk
  have hlay := hts _ (hin _ (u_in_lay hk))
  have hst := (u_facts hfc hkC (u_lays hts hin hk) hfo).1
  have hlt : f.slot < cell.slots.size := by rw [hsl]; exact k2_hasslot (q4 k hk)
  have fin : ∀ (H1 : Heap), H1[sz + i]? = some (cell.setSlot f.slot v) → H1.size = H.size → (∀ q, q ≠ sz + i → H1[q]? = H[q]?) → gm_W D sz ad cA xs Ln (gm_sF M (100 * ci + k) ((i + 1 : Nat) : Int) x) H1 := by
    intro H1 e1 e2 e3
    refine gm_W_upd hW rfl hi (fun g j hj => ?_) (fun j q hj => rfl) (gm_pu_sF hW.2.2.2) ?_ e2 e3
    · show (if g = 100 * ci + k ∧ ((j : Nat) : Int) = ((i + 1 : Nat) : Int) then x else _) = _
      rw [if_neg (by omega)]
    · rw [gm_e_sF hsh (by omega) (by omega), hv]
      rw [hsl] at e1
      exact ⟨_, hc, t_OB.to (V := updV (vp_V _) k v) ⟨_, e1, q2, q3, t_set q4 hap hk v⟩ (fun j _ => vp_updV_set (by simpa using (by omega : k < (gm_sh (i + 1)).2)) v j)⟩
  unfold u_lay at hlay
  rcases hfin with hfin | ⟨hfin, hinit, hdecl⟩
  · rw [if_neg (by rw [hfin]; decide)] at hlay
    have h6 := u_store hfc hkC hkind hlay hfo (hty k hk) hn hfit
    exact W.putK hx hb (f := f) ⟨hown, hts _ hlink, ⟨_, _, _, hfo⟩, hst⟩ (by rw [q2]; exact h6) q1 q3 hlt rfl rfl hdg fun H' e1 e2 e3 => kk H' _ (fin H' e1 e2 e3) (hS.put e2 e3 (show sz ≤ sz + i by omega))
  · rw [if_pos hfin] at hlay
    have hcf : m.cls = cf := by
      obtain ⟨_, _, c', _, _, _, -, -, hf', -, -, -, hown2, -⟩ := Cond.laysFinal_spec hlay
      have e1 : c' = cf := by have := hfo.symm.trans hf'; simp at this; exact this.1.symm
      rw [hdecl] at hown2
      rw [← e1]; exact Option.some.inj (hown.symm.trans hown2)
    have h6 := u_fits hfc hkC hkind (Or.inr hlay) hfo (hty k hk) hn hfit
    exact W.putFinK hx hb hown (hts _ hlink) hfo hst hcf hinit (by rw [q2]; exact h6) q1 q3 hlt rfl rfl hdg fun H' e1 e2 e3 => kk H' _ (fin H' e1 e2 e3) (hS.put e2 e3 (show sz ≤ sz + i by omega))
theorem gm_tc {i : Int} (h : 0 ≤ gm_w i) : ((Int32.ofInt i).toNatClampNeg : Int) = gm_w i := by
  show (((Int32.ofInt i).toInt.toNat : Nat) : Int) = gm_w i
  unfold gm_w at h ⊢
  omega
theorem gm_inP {i : Int} {N : Nat} (h1 : 0 ≤ gm_w i) (h2 : gm_w i < (N : Int)) : vp_in (Int32.ofInt i) N := by
  have h := gm_tc h1
  rintro (q | q)
  · have := gm_w_lt0.mpr q
    omega
  · omega
theorem gm_in_spec {M : gm_M} {a i : Int} (h : gm_in M a i = true) : 0 ≤ gm_w i ∧ gm_w i < gm_len M a := by
  simpa [gm_in] using h
theorem gm_lenD {M : gm_M} {i : Nat} (h : i < gm_NX) : gm_len M ((i + 1 : Nat) : Int) = ((gm_sh (i + 1)).2 : Int) := by
  have hn : gm_NX = 188 := rfl
  unfold gm_len
  rw [if_neg (by omega), if_neg (by omega), if_neg (by omega), Int.toNat_natCast]
theorem gm_isT_no {i : Nat} (h : i < gm_NX) : gm_isT ((i + 1 : Nat) : Int) = false := by
  have hn : gm_NX = 188 := rfl
  simp only [gm_isT, Bool.or_eq_false_iff, decide_eq_false_iff_not]
  omega
theorem gm_sA_W {D : va_G} {sz : Nat} {ad : Nat → Nat} {cA : Nat → ClassId} {xs : Int → Int} {Ln : Int} {M : gm_M} {i : Nat} {j x : Int} {H H1 : Heap} (hW : gm_W D sz ad cA xs Ln M H) (hi : i < M.1) (he : va_at D vwCl (sz + i, gm_e ad cA (gm_sA M ((i + 1 : Nat) : Int) j x) (i + 1)) H1) (z : H1.size = H.size) (oq : ∀ q : Nat, q ≠ sz + i → H1[q]? = H[q]?) : gm_W D sz ad cA xs Ln (gm_sA M ((i + 1 : Nat) : Int) j x) H1 := by
  have hn : gm_NX = 188 := rfl
  have hM := hW.2.2.1
  refine gm_W_upd hW rfl hi (fun _ _ _ => rfl) (fun g q hj => ?_) (gm_pu_A hW.2.2.2 rfl fun a q ha => ?_) he z oq
  · show (if ((g : Nat) : Int) = ((i + 1 : Nat) : Int) ∧ q = j then x else _) = _
    rw [if_neg (by omega)]
  · show (if a = ((i + 1 : Nat) : Int) ∧ q = j then x else _) = _
    rw [if_neg (by omega)]

theorem gm_nch {x : Int} (h1 : 0 ≤ x) (h2 : x < 65536) : narrow .char (.int (Int32.ofInt x)) = .int (Int32.ofInt x) := by
  have hk : ∀ k : Nat, k < 65536 → narrow .char (.int (Int32.ofInt (k : Int))) = .int (Int32.ofInt (k : Int)) := by
    intro k hk
    show Value.int _ = Value.int _
    congr 1
    apply Int32.toBitVec.inj
    apply BitVec.eq_of_toNat_eq
    simp
    omega
  have h := hk x.toNat (by omega)
  rw [show ((x.toNat : Nat) : Int) = x by omega] at h
  exact h
theorem gm_s_getI {D : va_G} {sz : Nat} {ad : Nat → Nat} {cA : Nat → ClassId} {xs : Int → Int} {Ln : Int} {l : Launch} {mt : gm_MT} {cc : ByteArray} {own : String} {n : Nat} {isI : Bool} {rk : Nat} {bpc : Nat → Nat} {pc : Nat} {ci k f index Nf : Nat} {C : String} {T : u_T} (hc : vwCl[ci]? = some (C, T, Nf)) (hci : ci < 10) (hcw : ∀ w ∈ u_ws C T Nf, w ∈ gm_ok) (hk : k < Nf) (hf : f = 100 * ci + k) (hlink : Cond.fieldLink own index (T k).1 (T k).2.1 (T k).2.2.1 ∈ gm_ok) (hft : gm_fty ci k ≠ 2) (hdg : decode cc pc = .ok (.getfield index, 3)) : gm_S D sz ad cA xs Ln l mt cc own n isI rk bpc pc (pc + 3) (gm_getI ci f) := by
  intro dl n0 p e R s m args below meth c Q C J N X hcx hr hC hmJ hmN hN hJ L st M h H locs ls hW hS hL hn
  obtain ⟨hx, hb, hml, hown, hts, hSt, hinit, hroom, hfr, hlo⟩ := id hcx
  have hadr := hSt.2.2.1
  have hMN := hW.2.2.1
  unfold gm_getI at h
  split at h
  · next o st' =>
    split at h
    · next hO =>
      obtain ⟨i, rfl, hi, hsh⟩ := gm_isO_spec hO
      subst hf
      have hNf := gm_cls (Nat.lt_of_lt_of_le hi hMN) hci hsh hc
      rw [List.map_cons, gm_ref hadr hi hMN]
      have g := hN L _ M h H locs ls hW hS hL hn
      rw [List.map_cons, show gm_rv ad (.inl (gm_gF M (100 * ci + k) ((i + 1 : Nat) : Int))) = gm_fv ad (gm_fty ci k) (M.2.1 (100 * ci + k) ((i + 1 : Nat) : Int)) by rw [gm_fv, if_neg hft]; rfl] at g
      exact va_get hx hb hts hcw hown hSt.1 hW.1 i (by rw [gm_ws_at hi, gm_eO hsh (by omega)]) hc k hk (hts _ hlink) (fun _ q => q) (gm_fs_at (by omega)) hdg g
    · cases h
  · cases h

theorem gm_s_getR {D : va_G} {sz : Nat} {ad : Nat → Nat} {cA : Nat → ClassId} {xs : Int → Int} {Ln : Int} {l : Launch} {mt : gm_MT} {cc : ByteArray} {own : String} {n : Nat} {isI : Bool} {rk : Nat} {bpc : Nat → Nat} {pc : Nat} {ci k f index Nf : Nat} {C : String} {T : u_T} (hc : vwCl[ci]? = some (C, T, Nf)) (hci : ci < 10) (hcw : ∀ w ∈ u_ws C T Nf, w ∈ gm_ok) (hk : k < Nf) (hf : f = 100 * ci + k) (hlink : Cond.fieldLink own index (T k).1 (T k).2.1 (T k).2.2.1 ∈ gm_ok) (hft : gm_fty ci k = 2) (hdg : decode cc pc = .ok (.getfield index, 3)) : gm_S D sz ad cA xs Ln l mt cc own n isI rk bpc pc (pc + 3) (gm_getR ci f) := by
  intro dl n0 p e R s m args below meth c Q C J N X hcx hr hC hmJ hmN hN hJ L st M h H locs ls hW hS hL hn
  obtain ⟨hx, hb, hml, hown, hts, hSt, hinit, hroom, hfr, hlo⟩ := id hcx
  have hadr := hSt.2.2.1
  have hMN := hW.2.2.1
  unfold gm_getR at h
  split at h
  · next o st' =>
    split at h
    · next hO =>
      obtain ⟨i, rfl, hi, hsh⟩ := gm_isO_spec hO
      subst hf
      have hNf := gm_cls (Nat.lt_of_lt_of_le hi hMN) hci hsh hc
      rw [List.map_cons, gm_ref hadr hi hMN]
      have g := hN L _ M h H locs ls hW hS hL hn
      rw [List.map_cons, show gm_rv ad (.inr (.inr (gm_gF M (100 * ci + k) ((i + 1 : Nat) : Int)))) = gm_fv ad (gm_fty ci k) (M.2.1 (100 * ci + k) ((i + 1 : Nat) : Int)) by rw [gm_fv, if_pos hft]; rfl] at g
      exact va_get hx hb hts hcw hown hSt.1 hW.1 i (by rw [gm_ws_at hi, gm_eO hsh (by omega)]) hc k hk (hts _ hlink) (fun _ q => q) (gm_fs_at (by omega)) hdg g
    · cases h
  · cases h

theorem gm_s_putI {D : va_G} {sz : Nat} {ad : Nat → Nat} {cA : Nat → ClassId} {xs : Int → Int} {Ln : Int} {l : Launch} {mt : gm_MT} {cc : ByteArray} {own : String} {n : Nat} {isI : Bool} {rk : Nat} {bpc : Nat → Nat} {pc : Nat} {ci k f index Nf : Nat} {C : String} {T : u_T} (hc : vwCl[ci]? = some (C, T, Nf)) (hci : ci < 10) (hcw : ∀ w ∈ u_ws C T Nf, w ∈ gm_ok) (hk : k < Nf) (hf : f = 100 * ci + k) (hlink : Cond.fieldLink own index (T k).1 (T k).2.1 (T k).2.2.1 ∈ gm_ok) (ty0 : Nat → FieldType) (hty : ∀ k, k < Nf → parseFieldDescriptor (T k).2.2.1 = some (ty0 k)) (hnm : ∀ a, a < Nf → ∀ b, b < Nf → a ≠ b → (T a).2.1 ≠ (T b).2.1) (hfin : (T k).2.2.2 = false ∨ ((T k).2.2.2 = true ∧ isI = true ∧ (T k).1 = own)) (hft : gm_fty ci k ≠ 2) (ht : ty0 k = .int) (hdg : decode cc pc = .ok (.putfield index, 3)) : gm_S D sz ad cA xs Ln l mt cc own n isI rk bpc pc (pc + 3) (gm_putI ci f) := by
  intro dl n0 p e R s m args below meth c Q C J N X hcx hr hC hmJ hmN hN hJ L st M h H locs ls hW hS hL hn
  obtain ⟨hx, hb, hml, hown, hts, hSt, hinit, hroom, hfr, hlo⟩ := id hcx
  have hadr := hSt.2.2.1
  have hMN := hW.2.2.1
  unfold gm_putI at h
  split at h
  · next x o st' =>
    split at h
    · next hO =>
      obtain ⟨i, rfl, hi, hsh⟩ := gm_isO_spec hO
      subst hf
      rw [List.map_cons, List.map_cons, gm_ref hadr hi hMN]
      refine gm_putW hx hb hown hts hSt hW hS hi hsh hci hc hcw ty0 hty hnm hk hlink (hfin.imp_right fun q => ⟨q.1, hinit q.2.1, q.2.2⟩) (by rw [ht]; rfl) (by rw [ht]; rfl) (x := x) (by rw [gm_fv, if_neg hft]; rfl) hdg (fun H1 locs1 hW1 hS1 => ?_)
      exact hN L _ _ h H1 locs1 ls hW1 hS1 hL hn
    · cases h
  · cases h

theorem gm_s_putZ {D : va_G} {sz : Nat} {ad : Nat → Nat} {cA : Nat → ClassId} {xs : Int → Int} {Ln : Int} {l : Launch} {mt : gm_MT} {cc : ByteArray} {own : String} {n : Nat} {isI : Bool} {rk : Nat} {bpc : Nat → Nat} {pc : Nat} {ci k f index Nf : Nat} {C : String} {T : u_T} (hc : vwCl[ci]? = some (C, T, Nf)) (hci : ci < 10) (hcw : ∀ w ∈ u_ws C T Nf, w ∈ gm_ok) (hk : k < Nf) (hf : f = 100 * ci + k) (hlink : Cond.fieldLink own index (T k).1 (T k).2.1 (T k).2.2.1 ∈ gm_ok) (ty0 : Nat → FieldType) (hty : ∀ k, k < Nf → parseFieldDescriptor (T k).2.2.1 = some (ty0 k)) (hnm : ∀ a, a < Nf → ∀ b, b < Nf → a ≠ b → (T a).2.1 ≠ (T b).2.1) (hfin : (T k).2.2.2 = false ∨ ((T k).2.2.2 = true ∧ isI = true ∧ (T k).1 = own)) (hft : gm_fty ci k ≠ 2) (ht : ty0 k = .boolean) (hdg : decode cc pc = .ok (.putfield index, 3)) : gm_S D sz ad cA xs Ln l mt cc own n isI rk bpc pc (pc + 3) (gm_putZ ci f) := by
  intro dl n0 p e R s m args below meth c Q C J N X hcx hr hC hmJ hmN hN hJ L st M h H locs ls hW hS hL hn
  obtain ⟨hx, hb, hml, hown, hts, hSt, hinit, hroom, hfr, hlo⟩ := id hcx
  have hadr := hSt.2.2.1
  have hMN := hW.2.2.1
  unfold gm_putZ at h
  split at h
  · next x o st' =>
    split at h
    · next hO =>
      obtain ⟨i, rfl, hi, hsh⟩ := gm_isO_spec hO.1
      subst hf
      rw [List.map_cons, List.map_cons, gm_ref hadr hi hMN]
      refine gm_putW hx hb hown hts hSt hW hS hi hsh hci hc hcw ty0 hty hnm hk hlink (hfin.imp_right fun q => ⟨q.1, hinit q.2.1, q.2.2⟩) (by rw [ht]; rcases hO.2 with rfl | rfl <;> rfl) (by rw [ht]; rcases hO.2 with rfl | rfl <;> rfl) (x := x) (by rw [gm_fv, if_neg hft]; rfl) hdg (fun H1 locs1 hW1 hS1 => ?_)
      exact hN L _ _ h H1 locs1 ls hW1 hS1 hL hn
    · cases h
  · cases h

theorem gm_s_putR {D : va_G} {sz : Nat} {ad : Nat → Nat} {cA : Nat → ClassId} {xs : Int → Int} {Ln : Int} {l : Launch} {mt : gm_MT} {cc : ByteArray} {own : String} {n : Nat} {isI : Bool} {rk : Nat} {bpc : Nat → Nat} {pc : Nat} {ci k f index Nf : Nat} {C : String} {T : u_T} (hc : vwCl[ci]? = some (C, T, Nf)) (hci : ci < 10) (hcw : ∀ w ∈ u_ws C T Nf, w ∈ gm_ok) (hk : k < Nf) (hf : f = 100 * ci + k) (hlink : Cond.fieldLink own index (T k).1 (T k).2.1 (T k).2.2.1 ∈ gm_ok) (ty0 : Nat → FieldType) (hty : ∀ k, k < Nf → parseFieldDescriptor (T k).2.2.1 = some (ty0 k)) (hnm : ∀ a, a < Nf → ∀ b, b < Nf → a ≠ b → (T a).2.1 ≠ (T b).2.1) (hfin : (T k).2.2.2 = false ∨ ((T k).2.2.2 = true ∧ isI = true ∧ (T k).1 = own)) (hft : gm_fty ci k = 2) (ht : (∃ q, ty0 k = .object q) ∨ ∃ q, ty0 k = .array q) (hdg : decode cc pc = .ok (.putfield index, 3)) : gm_S D sz ad cA xs Ln l mt cc own n isI rk bpc pc (pc + 3) (gm_putR ci f) := by
  intro dl n0 p e R s m args below meth c Q C J N X hcx hr hC hmJ hmN hN hJ L st M h H locs ls hW hS hL hn
  obtain ⟨hx, hb, hml, hown, hts, hSt, hinit, hroom, hfr, hlo⟩ := id hcx
  have hadr := hSt.2.2.1
  have hMN := hW.2.2.1
  unfold gm_putR at h
  split at h
  · next x o st' =>
    split at h
    · next hO =>
      obtain ⟨i, rfl, hi, hsh⟩ := gm_isO_spec hO
      subst hf
      rw [List.map_cons, List.map_cons, gm_ref hadr hi hMN]
      refine gm_putW hx hb hown hts hSt hW hS hi hsh hci hc hcw ty0 hty hnm hk hlink (hfin.imp_right fun q => ⟨q.1, hinit q.2.1, q.2.2⟩) (by rcases ht with ⟨q, hq⟩ | ⟨q, hq⟩ <;> rw [hq] <;> by_cases z : x ≤ 0 <;> simp [gm_rv, z, narrow]) (by rcases ht with ⟨q, hq⟩ | ⟨q, hq⟩ <;> rw [hq] <;> by_cases z : x ≤ 0 <;> simp [gm_rv, z, fits]) (x := x) (by simp [gm_fv, hft]) hdg (fun H1 locs1 hW1 hS1 => ?_)
      exact hN L _ _ h H1 locs1 ls hW1 hS1 hL hn
    · cases h
  · cases h

theorem gm_s_cald {D : va_G} {sz : Nat} {ad : Nat → Nat} {cA : Nat → ClassId} {xs : Int → Int} {Ln : Int} {l : Launch} {mt : gm_MT} {cc : ByteArray} {own : String} {n : Nat} {isI : Bool} {rk : Nat} {bpc : Nat → Nat} {pc : Nat} (hdg : decode cc pc = .ok (.caload, 1)) : gm_S D sz ad cA xs Ln l mt cc own n isI rk bpc pc (pc + 1) gm_cald := by
  intro dl n0 p e R s m args below meth c Q C J N X hcx hr hC hmJ hmN hN hJ L st M h H locs ls hW hS hL hn
  obtain ⟨hx, hb, hml, hown, hts, hSt, hinit, hroom, hfr, hlo⟩ := id hcx
  have hadr := hSt.2.2.1
  have hMN := hW.2.2.1
  unfold gm_cald at h
  split at h
  · next i0 a st' =>
    split at h
    · next hO =>
      obtain ⟨i, rfl, hi, hsh⟩ := gm_isO_spec hO.1
      obtain ⟨h1, h2⟩ := gm_in_spec hO.2
      rw [gm_lenD (Nat.lt_of_lt_of_le hi hMN)] at h2
      have g := hN L _ M h H locs ls hW hS hL hn
      rw [List.map_cons, List.map_cons, gm_ref hadr hi hMN]
      refine va_cald hx hb hSt.1 hW.1 i 2 (by rw [gm_ws_at hi, gm_eI hsh (Or.inr (Or.inl rfl))]) rfl (gm_inP h1 h2) hdg ?_
      rw [gm_tc h1]
      exact g
    · cases h
  · cases h

theorem gm_s_zald {D : va_G} {sz : Nat} {ad : Nat → Nat} {cA : Nat → ClassId} {xs : Int → Int} {Ln : Int} {l : Launch} {mt : gm_MT} {cc : ByteArray} {own : String} {n : Nat} {isI : Bool} {rk : Nat} {bpc : Nat → Nat} {pc : Nat} (hdg : decode cc pc = .ok (.baload, 1)) : gm_S D sz ad cA xs Ln l mt cc own n isI rk bpc pc (pc + 1) gm_zald := by
  intro dl n0 p e R s m args below meth c Q C J N X hcx hr hC hmJ hmN hN hJ L st M h H locs ls hW hS hL hn
  obtain ⟨hx, hb, hml, hown, hts, hSt, hinit, hroom, hfr, hlo⟩ := id hcx
  have hadr := hSt.2.2.1
  have hMN := hW.2.2.1
  unfold gm_zald at h
  split at h
  · next i0 a st' =>
    split at h
    · next hO =>
      obtain ⟨i, rfl, hi, hsh⟩ := gm_isO_spec hO.1
      obtain ⟨h1, h2⟩ := gm_in_spec hO.2
      rw [gm_lenD (Nat.lt_of_lt_of_le hi hMN)] at h2
      have g := hN L _ M h H locs ls hW hS hL hn
      rw [List.map_cons, List.map_cons, gm_ref hadr hi hMN]
      refine va_zald hx hb hSt.1 hW.1 i 3 (by rw [gm_ws_at hi, gm_eI hsh (Or.inr (Or.inr rfl))]) rfl (gm_inP h1 h2) hdg ?_
      rw [gm_tc h1]
      exact g
    · cases h
  · cases h

theorem gm_s_lald {D : va_G} {sz : Nat} {ad : Nat → Nat} {cA : Nat → ClassId} {xs : Int → Int} {Ln : Int} {l : Launch} {mt : gm_MT} {cc : ByteArray} {own : String} {n : Nat} {isI : Bool} {rk : Nat} {bpc : Nat → Nat} {pc : Nat} (hdg : decode cc pc = .ok (.laload, 1)) : gm_S D sz ad cA xs Ln l mt cc own n isI rk bpc pc (pc + 1) gm_lald := by
  intro dl n0 p e R s m args below meth c Q C J N X hcx hr hC hmJ hmN hN hJ L st M h H locs ls hW hS hL hn
  obtain ⟨hx, hb, hml, hown, hts, hSt, hinit, hroom, hfr, hlo⟩ := id hcx
  have hadr := hSt.2.2.1
  have hMN := hW.2.2.1
  unfold gm_lald at h
  split at h
  · next i0 a st' =>
    split at h
    · next hO =>
      obtain ⟨i, rfl, hi, hsh⟩ := gm_isO_spec hO.1
      obtain ⟨h1, h2⟩ := gm_in_spec hO.2
      rw [gm_lenD (Nat.lt_of_lt_of_le hi hMN)] at h2
      have g := hN L _ M h H locs ls hW hS hL hn
      rw [List.map_cons, List.map_cons, gm_ref hadr hi hMN]
      refine va_lald hx hb hSt.1 hW.1 i 1 (by rw [gm_ws_at hi, gm_eL hsh]) rfl (gm_inP h1 h2) hdg ?_
      rw [gm_tc h1]
      exact g
    · cases h
  · cases h

theorem gm_s_iald {D : va_G} {sz : Nat} {ad : Nat → Nat} {cA : Nat → ClassId} {xs : Int → Int} {Ln : Int} {l : Launch} {mt : gm_MT} {cc : ByteArray} {own : String} {n : Nat} {isI : Bool} {rk : Nat} {bpc : Nat → Nat} {pc : Nat} (hdg : decode cc pc = .ok (.iaload, 1)) : gm_S D sz ad cA xs Ln l mt cc own n isI rk bpc pc (pc + 1) gm_iald := by
  intro dl n0 p e R s m args below meth c Q C J N X hcx hr hC hmJ hmN hN hJ L st M h H locs ls hW hS hL hn
  obtain ⟨hx, hb, hml, hown, hts, hSt, hinit, hroom, hfr, hlo⟩ := id hcx
  have hadr := hSt.2.2.1
  have hMN := hW.2.2.1
  unfold gm_iald at h
  split at h
  · next i0 a st' =>
    split at h
    · next hO =>
      obtain ⟨h1, h2⟩ := gm_in_spec hO.2
      have g := hN L _ M h H locs ls hW hS hL hn
      have hpu := hW.2.2.2
      have hT := hSt.2.2.2.1
      have hLn := hSt.2.2.2.2.2
      rcases Bool.or_eq_true_iff.mp hO.1 with hT0 | hO1
      · simp only [gm_isT, Bool.or_eq_true, decide_eq_true_eq] at hT0
        rcases hT0 with rfl | rfl | rfl
        · rw [List.map_cons, List.map_cons, gm_rv_ref ad (by decide)]
          refine va_ti hx hb hT.1.2 hS (gm_inP h1 h2) rfl hdg ?_
          rw [gm_tc h1, ← hpu.1 (gm_w i0)]
          exact g
        · rw [List.map_cons, List.map_cons, gm_rv_ref ad (by decide)]
          refine va_ti hx hb hT.2.1.2 hS (gm_inP h1 h2) rfl hdg ?_
          rw [gm_tc h1, ← hpu.2.1 (gm_w i0)]
          exact g
        · rw [List.map_cons, List.map_cons, gm_rv_ref ad (by decide)]
          rw [show gm_len M 1002 = Ln from hpu.2.2.2] at h2
          refine va_ti hx hb hT.2.2.1 hS (gm_inP h1 (by omega)) rfl hdg ?_
          rw [gm_tc h1, ← hpu.2.2.1 (gm_w i0)]
          exact g
      · obtain ⟨i, rfl, hi, hsh⟩ := gm_isO_spec hO1
        rw [gm_lenD (Nat.lt_of_lt_of_le hi hMN)] at h2
        rw [List.map_cons, List.map_cons, gm_ref hadr hi hMN]
        refine va_iald hx hb hSt.1 hW.1 i 0 (by rw [gm_ws_at hi, gm_eI hsh (Or.inl rfl)]) rfl (gm_inP h1 h2) hdg ?_
        rw [gm_tc h1]
        exact g
    · cases h
  · cases h

theorem gm_s_aald {D : va_G} {sz : Nat} {ad : Nat → Nat} {cA : Nat → ClassId} {xs : Int → Int} {Ln : Int} {l : Launch} {mt : gm_MT} {cc : ByteArray} {own : String} {n : Nat} {isI : Bool} {rk : Nat} {bpc : Nat → Nat} {pc : Nat} {kd t0 : Nat} {Cn : String} (hkd : 24 ≤ kd) (ht0 : ∀ cA, (gm_tys cA)[t0]? = some (cA kd, .object Cn)) (hdg : decode cc pc = .ok (.aaload, 1)) : gm_S D sz ad cA xs Ln l mt cc own n isI rk bpc pc (pc + 1) (gm_aald kd) := by
  intro dl n0 p e R s m args below meth c Q C J N X hcx hr hC hmJ hmN hN hJ L st M h H locs ls hW hS hL hn
  obtain ⟨hx, hb, hml, hown, hts, hSt, hinit, hroom, hfr, hlo⟩ := id hcx
  have hadr := hSt.2.2.1
  have hMN := hW.2.2.1
  unfold gm_aald at h
  split at h
  · next i0 a st' =>
    split at h
    · next hO =>
      obtain ⟨i, rfl, hi, hsh⟩ := gm_isO_spec hO.1
      obtain ⟨h1, h2⟩ := gm_in_spec hO.2
      rw [gm_lenD (Nat.lt_of_lt_of_le hi hMN)] at h2
      have g := hN L _ M h H locs ls hW hS hL hn
      rw [List.map_cons, List.map_cons, gm_ref hadr hi hMN]
      refine va_aldq hx hb hSt.1 hW.1 i t0 (by rw [gm_ws_at hi, gm_eR hsh hkd]) (ht0 cA) (gm_inP h1 h2) hdg ?_
      rw [gm_tc h1, gm_oq_rv]
      exact g
    · cases h
  · cases h

theorem gm_s_iast {D : va_G} {sz : Nat} {ad : Nat → Nat} {cA : Nat → ClassId} {xs : Int → Int} {Ln : Int} {l : Launch} {mt : gm_MT} {cc : ByteArray} {own : String} {n : Nat} {isI : Bool} {rk : Nat} {bpc : Nat → Nat} {pc : Nat} (hdg : decode cc pc = .ok (.iastore, 1)) : gm_S D sz ad cA xs Ln l mt cc own n isI rk bpc pc (pc + 1) gm_iast := by
  intro dl n0 p e R s m args below meth c Q C J N X hcx hr hC hmJ hmN hN hJ L st M h H locs ls hW hS hL hn
  obtain ⟨hx, hb, hml, hown, hts, hSt, hinit, hroom, hfr, hlo⟩ := id hcx
  have hadr := hSt.2.2.1
  have hMN := hW.2.2.1
  unfold gm_iast at h
  split at h
  · next x i0 a st' =>
    split at h
    · next hO =>
      obtain ⟨i, rfl, hi, hsh⟩ := gm_isO_spec hO.1
      obtain ⟨h1, h2⟩ := gm_in_spec hO.2
      rw [gm_lenD (Nat.lt_of_lt_of_le hi hMN)] at h2
      rw [List.map_cons, List.map_cons, List.map_cons, gm_ref hadr hi hMN]
      have ha : (gm_ws sz ad cA M)[i]? = some (sz + i, gm_e ad cA M (i + 1)) := gm_ws_at hi
      have hq := hW.1 i _ ha
      rw [gm_eI hsh (Or.inl rfl)] at hq
      have hq : H[sz + i]? = some (vp_cell _ _) := hq
      refine W.iast hx hb hq ((hSt.1.2 0 _ rfl).1 _ _) (fun q => by cases q) (by show ¬ (_ ∨ (arrV _ _ _).slots.size ≤ _); rw [arrV_size]; exact gm_inP h1 h2) rfl rfl hdg fun H1 e1 z oq => ?_
      refine hN L _ _ h H1 _ ls (gm_sA_W hW hi ?_ z oq) (hS.put z oq (show sz ≤ sz + i by omega)) hL hn
      rw [gm_eI hsh (Or.inl rfl)]
      show H1[sz + i]? = some (vp_cell _ _)
      rw [e1]
      rw [vp_cell_i, vp_cell_i, arrV_store]
      congr 2
      funext q
      have ht := gm_tc h1
      by_cases hqq : q = (Int32.ofInt i0).toNatClampNeg
      · have hz : ((q : Nat) : Int) = gm_w i0 := by omega
        simp [updV, gm_sA, hqq, ht]
      · have hz : ¬ ((q : Nat) : Int) = gm_w i0 := by omega
        simp [updV, gm_sA, hqq, hz]
    · cases h
  · cases h

theorem gm_s_last {D : va_G} {sz : Nat} {ad : Nat → Nat} {cA : Nat → ClassId} {xs : Int → Int} {Ln : Int} {l : Launch} {mt : gm_MT} {cc : ByteArray} {own : String} {n : Nat} {isI : Bool} {rk : Nat} {bpc : Nat → Nat} {pc : Nat} (hdg : decode cc pc = .ok (.lastore, 1)) : gm_S D sz ad cA xs Ln l mt cc own n isI rk bpc pc (pc + 1) gm_last := by
  intro dl n0 p e R s m args below meth c Q C J N X hcx hr hC hmJ hmN hN hJ L st M h H locs ls hW hS hL hn
  obtain ⟨hx, hb, hml, hown, hts, hSt, hinit, hroom, hfr, hlo⟩ := id hcx
  have hadr := hSt.2.2.1
  have hMN := hW.2.2.1
  unfold gm_last at h
  split at h
  · next x i0 a st' =>
    split at h
    · next hO =>
      obtain ⟨i, rfl, hi, hsh⟩ := gm_isO_spec hO.1
      obtain ⟨h1, h2⟩ := gm_in_spec hO.2
      rw [gm_lenD (Nat.lt_of_lt_of_le hi hMN)] at h2
      rw [List.map_cons, List.map_cons, List.map_cons, gm_ref hadr hi hMN]
      have ha : (gm_ws sz ad cA M)[i]? = some (sz + i, gm_e ad cA M (i + 1)) := gm_ws_at hi
      have hq := hW.1 i _ ha
      rw [gm_eL hsh] at hq
      have hq : H[sz + i]? = some (vp_cell _ _) := hq
      refine W.last hx hb hq ((hSt.1.2 1 _ rfl).1 _ _) (fun q => by cases q) (by show ¬ (_ ∨ (arrV _ _ _).slots.size ≤ _); rw [arrV_size]; exact gm_inP h1 h2) rfl rfl hdg fun H1 e1 z oq => ?_
      refine hN L _ _ h H1 _ ls (gm_sA_W hW hi ?_ z oq) (hS.put z oq (show sz ≤ sz + i by omega)) hL hn
      rw [gm_eL hsh]
      show H1[sz + i]? = some (vp_cell _ _)
      rw [e1]
      rw [vp_cell_l, vp_cell_l, arrV_store]
      congr 2
      funext q
      have ht := gm_tc h1
      by_cases hqq : q = (Int32.ofInt i0).toNatClampNeg
      · have hz : ((q : Nat) : Int) = gm_w i0 := by omega
        simp [updV, gm_sA, hqq, ht]
      · have hz : ¬ ((q : Nat) : Int) = gm_w i0 := by omega
        simp [updV, gm_sA, hqq, hz]
    · cases h
  · cases h

theorem gm_s_zast {D : va_G} {sz : Nat} {ad : Nat → Nat} {cA : Nat → ClassId} {xs : Int → Int} {Ln : Int} {l : Launch} {mt : gm_MT} {cc : ByteArray} {own : String} {n : Nat} {isI : Bool} {rk : Nat} {bpc : Nat → Nat} {pc : Nat} (hdg : decode cc pc = .ok (.bastore, 1)) : gm_S D sz ad cA xs Ln l mt cc own n isI rk bpc pc (pc + 1) gm_zast := by
  intro dl n0 p e R s m args below meth c Q C J N X hcx hr hC hmJ hmN hN hJ L st M h H locs ls hW hS hL hn
  obtain ⟨hx, hb, hml, hown, hts, hSt, hinit, hroom, hfr, hlo⟩ := id hcx
  have hadr := hSt.2.2.1
  have hMN := hW.2.2.1
  unfold gm_zast at h
  split at h
  · next x i0 a st' =>
    split at h
    · next hO =>
      obtain ⟨i, rfl, hi, hsh⟩ := gm_isO_spec hO.1
      obtain ⟨h1, h2⟩ := gm_in_spec hO.2.1
      rw [gm_lenD (Nat.lt_of_lt_of_le hi hMN)] at h2
      rw [List.map_cons, List.map_cons, List.map_cons, gm_ref hadr hi hMN]
      have ha : (gm_ws sz ad cA M)[i]? = some (sz + i, gm_e ad cA M (i + 1)) := gm_ws_at hi
      have hq := hW.1 i _ ha
      rw [gm_eI hsh (Or.inr (Or.inr rfl))] at hq
      have hq : H[sz + i]? = some (vp_cell _ _) := hq
      refine W.zast hx hb hq ((hSt.1.2 3 _ rfl).1 _ _) (fun q => by cases q) (by show ¬ (_ ∨ (arrV _ _ _).slots.size ≤ _); rw [arrV_size]; exact gm_inP h1 h2) rfl rfl hdg fun H1 e1 z oq => ?_
      refine hN L _ _ h H1 _ ls (gm_sA_W hW hi ?_ z oq) (hS.put z oq (show sz ≤ sz + i by omega)) hL hn
      rw [gm_eI hsh (Or.inr (Or.inr rfl))]
      show H1[sz + i]? = some (vp_cell _ _)
      rw [e1]
      rw [show narrow .boolean (.int (Int32.ofInt x)) = .int (Int32.ofInt x) by rcases hO.2.2 with rfl | rfl <;> rfl]
      rw [vp_cell_i, vp_cell_i, arrV_store]
      congr 2
      funext q
      have ht := gm_tc h1
      by_cases hqq : q = (Int32.ofInt i0).toNatClampNeg
      · have hz : ((q : Nat) : Int) = gm_w i0 := by omega
        simp [updV, gm_sA, hqq, ht]
      · have hz : ¬ ((q : Nat) : Int) = gm_w i0 := by omega
        simp [updV, gm_sA, hqq, hz]
    · cases h
  · cases h

theorem gm_s_cast {D : va_G} {sz : Nat} {ad : Nat → Nat} {cA : Nat → ClassId} {xs : Int → Int} {Ln : Int} {l : Launch} {mt : gm_MT} {cc : ByteArray} {own : String} {n : Nat} {isI : Bool} {rk : Nat} {bpc : Nat → Nat} {pc : Nat} (hdg : decode cc pc = .ok (.castore, 1)) : gm_S D sz ad cA xs Ln l mt cc own n isI rk bpc pc (pc + 1) gm_cast := by
  intro dl n0 p e R s m args below meth c Q C J N X hcx hr hC hmJ hmN hN hJ L st M h H locs ls hW hS hL hn
  obtain ⟨hx, hb, hml, hown, hts, hSt, hinit, hroom, hfr, hlo⟩ := id hcx
  have hadr := hSt.2.2.1
  have hMN := hW.2.2.1
  unfold gm_cast at h
  split at h
  · next x i0 a st' =>
    split at h
    · next hO =>
      obtain ⟨i, rfl, hi, hsh⟩ := gm_isO_spec hO.1
      obtain ⟨h1, h2⟩ := gm_in_spec hO.2.1
      rw [gm_lenD (Nat.lt_of_lt_of_le hi hMN)] at h2
      rw [List.map_cons, List.map_cons, List.map_cons, gm_ref hadr hi hMN]
      have ha : (gm_ws sz ad cA M)[i]? = some (sz + i, gm_e ad cA M (i + 1)) := gm_ws_at hi
      have hq := hW.1 i _ ha
      rw [gm_eI hsh (Or.inr (Or.inl rfl))] at hq
      have hq : H[sz + i]? = some (vp_cell _ _) := hq
      refine W.cast hx hb hq ((hSt.1.2 2 _ rfl).1 _ _) (fun q => by cases q) (by show ¬ (_ ∨ (arrV _ _ _).slots.size ≤ _); rw [arrV_size]; exact gm_inP h1 h2) rfl rfl hdg fun H1 e1 z oq => ?_
      refine hN L _ _ h H1 _ ls (gm_sA_W hW hi ?_ z oq) (hS.put z oq (show sz ≤ sz + i by omega)) hL hn
      rw [gm_eI hsh (Or.inr (Or.inl rfl))]
      show H1[sz + i]? = some (vp_cell _ _)
      rw [e1]
      rw [gm_nch hO.2.2.1 hO.2.2.2]
      rw [vp_cell_i, vp_cell_i, arrV_store]
      congr 2
      funext q
      have ht := gm_tc h1
      by_cases hqq : q = (Int32.ofInt i0).toNatClampNeg
      · have hz : ((q : Nat) : Int) = gm_w i0 := by omega
        simp [updV, gm_sA, hqq, ht]
      · have hz : ¬ ((q : Nat) : Int) = gm_w i0 := by omega
        simp [updV, gm_sA, hqq, hz]
    · cases h
  · cases h

theorem gm_s_aast {D : va_G} {sz : Nat} {ad : Nat → Nat} {cA : Nat → ClassId} {xs : Int → Int} {Ln : Int} {l : Launch} {mt : gm_MT} {cc : ByteArray} {own : String} {n : Nat} {isI : Bool} {rk : Nat} {bpc : Nat → Nat} {pc : Nat} {kd ci t0 : Nat} {r : vw_C} (hkd : 24 ≤ kd) (hcl : vwCl[ci]? = some r) (hci : ci < 20) (ht0 : ∀ cA, (gm_tys cA)[t0]? = some (cA kd, .object r.1)) (hdg : decode cc pc = .ok (.aastore, 1)) : gm_S D sz ad cA xs Ln l mt cc own n isI rk bpc pc (pc + 1) (gm_aast kd ci) := by
  intro dl n0 p e R s m args below meth c Q C J N X hcx hr hC hmJ hmN hN hJ L st M h H locs ls hW hS hL hn
  obtain ⟨hx, hb, hml, hown, hts, hSt, hinit, hroom, hfr, hlo⟩ := id hcx
  have hadr := hSt.2.2.1
  have hMN := hW.2.2.1
  unfold gm_aast at h
  split at h
  · next x i0 a st' =>
    split at h
    · next hO =>
      obtain ⟨i, rfl, hi, hsh⟩ := gm_isO_spec hO.1
      obtain ⟨h1, h2⟩ := gm_in_spec hO.2.1
      obtain ⟨j, rfl, hj, hshj⟩ := gm_isO_spec hO.2.2
      rw [gm_lenD (Nat.lt_of_lt_of_le hi hMN)] at h2
      rw [List.map_cons, List.map_cons, List.map_cons, gm_ref hadr hi hMN, gm_ref hadr hj hMN]
      have ha : (gm_ws sz ad cA M)[i]? = some (sz + i, gm_e ad cA M (i + 1)) := gm_ws_at hi
      have hq := hW.1 i _ ha
      rw [gm_eR hsh hkd] at hq
      have hq : H[sz + i]? = some (vp_cell _ _) := hq
      have hv := hW.1 j _ (gm_ws_at hj)
      rw [gm_eO hshj hci] at hv
      obtain ⟨r', hr', cellV, g1, g2, g3, -⟩ := hv
      have hcls := (hSt.1.1 ci r hcl).2
      obtain ⟨kA, comp, k1, k2, k3, -⟩ := (hSt.1.2 t0 _ (ht0 cA)).2
      have hcomp : comp = D.1 ci := Option.some.inj (k3.symm.trans hcls.1)
      subst hcomp
      obtain ⟨kC, hkC, -⟩ := hcls.2
      have h0 := gm_inP h1 h2
      refine W.aast hx hb hq (fun q h => by cases h) (fun h => by cases h) k1 k2 rfl hkC ⟨fun q => h0 (Or.inl q), by show _ < (arrV _ _ _).slots.size; rw [arrV_size]; exact Nat.not_le.mp fun q => h0 (Or.inr q)⟩ g1 (fun q h => by rw [g3] at h; cases h) (by rw [g2]; exact hkC) (by rw [g2]; exact va_assign hcls) rfl rfl hdg fun H1 e1 z oq => ?_
      refine hN L _ _ h H1 _ ls (gm_sA_W hW hi ?_ z oq) (hS.put z oq (show sz ≤ sz + i by omega)) hL hn
      rw [gm_eR hsh hkd]
      show H1[sz + i]? = some (vp_cell _ _)
      rw [e1]
      rw [vp_cell_q, vp_cell_q, arrV_store]
      congr 2
      funext q
      have ht := gm_tc h1
      by_cases hqq : q = (Int32.ofInt i0).toNatClampNeg
      · have hz : ((q : Nat) : Int) = gm_w i0 := by omega
        have hp : ¬ (((j + 1 : Nat) : Int) ≤ 0) := by omega
        have hd := hadr (j + 1) (by omega) (by omega)
        show updV _ _ _ _ = va_rf (gm_oq ad (if _ ∧ _ then _ else _))
        rw [if_pos ⟨rfl, hz⟩, gm_oq, if_neg hp, Int.toNat_natCast, hd, updV, if_pos hqq]
        rfl
      · have hz : ¬ ((q : Nat) : Int) = gm_w i0 := by omega
        simp [updV, gm_sA, hqq, hz]
    · cases h
  · cases h

theorem gm_s_alen {D : va_G} {sz : Nat} {ad : Nat → Nat} {cA : Nat → ClassId} {xs : Int → Int} {Ln : Int} {l : Launch} {mt : gm_MT} {cc : ByteArray} {own : String} {n : Nat} {isI : Bool} {rk : Nat} {bpc : Nat → Nat} {pc : Nat} (hdg : decode cc pc = .ok (.arraylength, 1)) : gm_S D sz ad cA xs Ln l mt cc own n isI rk bpc pc (pc + 1) gm_alen := by
  intro dl n0 p e R s m args below meth c Q C J N X hcx hr hC hmJ hmN hN hJ L st M h H locs ls hW hS hL hn
  obtain ⟨hx, hb, hml, hown, hts, hSt, hinit, hroom, hfr, hlo⟩ := id hcx
  have hadr := hSt.2.2.1
  have hMN := hW.2.2.1
  unfold gm_alen at h
  split at h
  · next a st' =>
    split at h
    · next hO =>
      have g := hN L _ M h H locs ls hW hS hL hn
      have hpu := hW.2.2.2
      have hT := hSt.2.2.2.1
      have hLn := hSt.2.2.2.2.2
      rcases hO with hT0 | ⟨ha1, ha2, ha3, ha4⟩
      · simp only [gm_isT, Bool.or_eq_true, decide_eq_true_eq] at hT0
        rcases hT0 with rfl | rfl | rfl
        · rw [List.map_cons, gm_rv_ref ad (by decide)]
          exact va_tlen hx hb hT.1.2 hS rfl hdg g
        · rw [List.map_cons, gm_rv_ref ad (by decide)]
          exact va_tlen hx hb hT.2.1.2 hS rfl hdg g
        · rw [List.map_cons, gm_rv_ref ad (by decide)]
          rw [List.map_cons, show gm_len M 1002 = Ln from hpu.2.2.2] at g
          refine va_tlen hx hb hT.2.2.1 hS ?_ hdg g
          show Int32.ofNat Ln.toNat = Int32.ofInt Ln
          rw [← Int32.ofInt_eq_ofNat, show ((Ln.toNat : Nat) : Int) = Ln by omega]
      · obtain ⟨i, rfl⟩ : ∃ i : Nat, a = ((i + 1 : Nat) : Int) := ⟨a.toNat - 1, by omega⟩
        have hi : i < M.1 := by omega
        rw [List.map_cons, gm_lenD (Nat.lt_of_lt_of_le hi hMN)] at g
        rw [Int.toNat_natCast] at ha3 ha4
        rw [List.map_cons, gm_ref hadr hi hMN]
        have hl : Int32.ofNat (gm_sh (i + 1)).2 = Int32.ofInt ((gm_sh (i + 1)).2 : Int) := Int32.ofInt_eq_ofNat.symm
        rcases (by omega : (gm_sh (i + 1)).1 = 20 ∨ (gm_sh (i + 1)).1 = 21 ∨ (gm_sh (i + 1)).1 = 22 ∨ (gm_sh (i + 1)).1 = 23 ∨ (gm_sh (i + 1)).1 = 24 ∨ (gm_sh (i + 1)).1 = 25 ∨ (gm_sh (i + 1)).1 = 26) with q | q | q | q | q | q | q
        · exact va_alen hx hb hSt.1 hW.1 i 0 (by rw [gm_ws_at hi, gm_eI q (Or.inl rfl)]) rfl hl hdg g
        · exact va_alen hx hb hSt.1 hW.1 i 1 (by rw [gm_ws_at hi, gm_eL q]) rfl hl hdg g
        · exact va_alen hx hb hSt.1 hW.1 i 2 (by rw [gm_ws_at hi, gm_eI q (Or.inr (Or.inl rfl))]) rfl hl hdg g
        · exact va_alen hx hb hSt.1 hW.1 i 3 (by rw [gm_ws_at hi, gm_eI q (Or.inr (Or.inr rfl))]) rfl hl hdg g
        · exact va_alen hx hb hSt.1 hW.1 i 4 (by rw [gm_ws_at hi, gm_eR q (by decide)]) rfl hl hdg g
        · exact va_alen hx hb hSt.1 hW.1 i 5 (by rw [gm_ws_at hi, gm_eR q (by decide)]) rfl hl hdg g
        · exact va_alen hx hb hSt.1 hW.1 i 6 (by rw [gm_ws_at hi, gm_eR q (by decide)]) rfl hl hdg g
    · cases h
  · cases h
