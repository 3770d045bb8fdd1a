/-! NEW CELLS, STATICS, THE JDK'S MEMBERS, CALLS -/
theorem gm_sl_mono : ∀ (a b : Nat), a ≤ b → gm_sl a ≤ gm_sl b := by
  intro a b h
  induction h with
  | refl => exact Nat.le_refl _
  | step _ ih => exact Nat.le_trans ih (Nat.le_add_right _ _)
theorem gm_ws_al {sz : Nat} {ad : Nat → Nat} {cA : Nat → ClassId} {M : gm_M} : gm_ws sz ad cA (gm_al M) = gm_ws sz ad cA M ++ [(sz + M.1, gm_e ad cA (gm_al M) (M.1 + 1))] := by
  show (List.range (M.1 + 1)).map _ = _
  rw [List.range_succ, List.map_append]
  congr 1
  apply List.map_congr_left
  intro j hj
  have hj' := List.mem_range.mp hj
  have : gm_e ad cA (gm_al M) (j + 1) = gm_e ad cA M (j + 1) := gm_e_congr (fun f => by
    show (if (((j + 1 : Nat) : Int)) = ((M.1 + 1 : Nat) : Int) then 0 else _) = _
    rw [if_neg (by omega)]) (fun i => by
    show (if (((j + 1 : Nat) : Int)) = ((M.1 + 1 : Nat) : Int) then 0 else _) = _
    rw [if_neg (by omega)])
  rw [this]
theorem gm_W_al {D : va_G} {sz : Nat} {ad : Nat → Nat} {cA : Nat → ClassId} {xs : Int → Int} {Ln : Int} {M : gm_M} {H H1 : Heap} (hW : gm_W D sz ad cA xs Ln M H) (hlt : M.1 < gm_NX) (z : H1.size = H.size + 1) (oq : ∀ q : Nat, q < H.size → H1[q]? = H[q]?) (he : va_at D vwCl (sz + M.1, gm_e ad cA (gm_al M) (M.1 + 1)) H1) : gm_W D sz ad cA xs Ln (gm_al M) H1 := by
  have hn : gm_NX = 188 := rfl
  refine ⟨?_, fun _ => ?_, hlt, ?_⟩
  · rw [gm_ws_al]
    refine (hW.1.kept fun k q hk => oq q.1 (hW.1 k q hk).lt).app (fun k q hk => ?_)
    have hz : k < 1 := (List.getElem?_eq_some_iff.mp hk).1
    rw [show k = 0 by omega] at hk
    cases hk
    exact he
  · rw [z, hW.2.1 hlt]
    show _ = sz + (M.1 + 1)
    omega
  · refine ⟨fun i => ?_, fun i => ?_, fun i => ?_, ?_⟩
    · show (if (1000 : Int) = ((M.1 + 1 : Nat) : Int) then 0 else _) = _
      rw [if_neg (by omega)]
      exact hW.2.2.2.1 i
    · show (if (1001 : Int) = ((M.1 + 1 : Nat) : Int) then 0 else _) = _
      rw [if_neg (by omega)]
      exact hW.2.2.2.2.1 i
    · show (if (1002 : Int) = ((M.1 + 1 : Nat) : Int) then 0 else _) = _
      rw [if_neg (by omega)]
      exact hW.2.2.2.2.2.1 i
    · show (if (0 : Int) = ((M.1 + 1 : Nat) : Int) then 0 else _) = _
      rw [if_neg (by omega)]
      exact hW.2.2.2.2.2.2
theorem gm_S_al {sz : Nat} {H0 H H1 : Heap} {locs : List Loc} (hS : va_S (gm_fr sz) H0 H locs) (z : H1.size = H.size + 1) (oq : ∀ q : Nat, q < H.size → H1[q]? = H[q]?) : va_S (gm_fr sz) H0 H1 locs :=
  ⟨Nat.le_trans hS.1 (by omega), fun x h1 h2 => (oq x (Nat.lt_of_lt_of_le h1 hS.1)).trans (hS.2.1 x h1 h2), hS.2.2⟩
theorem gm_al_F (M : gm_M) (f : Nat) : (gm_al M).2.1 f ((M.1 + 1 : Nat) : Int) = 0 := if_pos rfl
theorem gm_al_A (M : gm_M) (i : Int) : (gm_al M).2.2 ((M.1 + 1 : Nat) : Int) i = 0 := if_pos rfl
theorem gm_room {dl n0 top M1 N : Nat} {R : Room} (hroom : top - n0 ≤ R.cells ∧ gm_sl top - gm_sl n0 ≤ R.slots) (h1 : n0 ≤ M1) (h2 : M1 + 1 ≤ top) (hN : (gm_sh (M1 + 1)).2 = N) : M1 - n0 + 1 ≤ R.cells ∧ gm_sl M1 - gm_sl n0 + N ≤ R.slots ∧ M1 - n0 + 1 = M1 + 1 - n0 ∧ gm_sl M1 - gm_sl n0 + N = gm_sl (M1 + 1) - gm_sl n0 := by
  have a := gm_sl_mono _ _ h1
  have b := gm_sl_mono _ _ h2
  have c : gm_sl (M1 + 1) = gm_sl M1 + N := by rw [← hN]; rfl
  omega
theorem gm_pop_spec : ∀ (n : Nat) (st acc as rest : List gm_V), gm_pop n st acc = some (as, rest) → ∃ xs, as = xs.reverse ++ acc ∧ st = xs ++ rest ∧ xs.length = n
  | 0, st, acc, as, rest, h => by
    simp only [gm_pop, Option.some.injEq, Prod.mk.injEq] at h
    exact ⟨[], by simp [h.1], by simp [h.2], rfl⟩
  | n + 1, [], acc, as, rest, h => by simp [gm_pop] at h
  | n + 1, v :: st, acc, as, rest, h => by
    simp only [gm_pop] at h
    obtain ⟨xs, h1, h2, h3⟩ := gm_pop_spec n st (v :: acc) as rest h
    exact ⟨v :: xs, by simp [h1], by simp [h2], by simp [h3]⟩
theorem gm_good {ws : List Cond} (h : ∀ w ∈ ws, w ∈ gm_ok) : GoodIn gm_ok ws := fun w hw => ⟨h w hw, good_of_word (List.mem_filter.mp (h w hw)).2⟩
theorem gm_goodC {y : MethodName} {cc : ByteArray} {n : Nat} {ret : Option FieldType} {pre : List Cond} (hc : Cond.code y cc n ret ∈ gm_ok) (hp : ∀ w ∈ pre, w ∈ gm_ok) : GoodIn gm_ok (pre ++ (Cond.code y cc n ret :: gm_ok)) := gm_good fun w hw => by
  rcases List.mem_append.mp hw with h | h
  · exact hp w h
  · rcases List.mem_cons.mp h with rfl | h
    · exact hc
    · exact h
theorem gm_St_at {D : va_G} {sz : Nat} {ad : Nat → Nat} {cA : Nat → ClassId} {xs : Int → Int} {Ln : Int} {s : State} {H : Heap} {locs : List Loc} (hSt : gm_St D sz ad cA xs Ln s s.heap) (hS : va_S (gm_fr sz) s.heap H locs) {U : State} (hU : U.heap = H) (hW : s.WarmedH U.vm) : gm_St D sz ad cA xs Ln U U.heap := by
  rw [hU]
  exact (hSt.kept hS.1 hS.2.1).warm hW
theorem gm_blind {D : va_G} {sz : Nat} {ad : Nat → Nat} {cA : Nat → ClassId} {xs : Int → Int} {Ln : Int} {av : List Value} {M : gm_M} : FrameBlind (va_Pc av (fun U => gm_W D sz ad cA xs Ln M U.heap ∧ gm_St D sz ad cA xs Ln U U.heap)) :=
  fun a U g mk q => ⟨q.1, q.2.1, gm_St.same (u := U) rfl q.2.2⟩
theorem gm_run {D : va_G} {sz : Nat} {ad : Nat → Nat} {cA : Nat → ClassId} {xs : Int → Int} {Ln : Int} {p : Program} {l : Launch} {e : Env} {R : Room} {s : State} {m : MethodId} {args : Array Value} {below : List Frame} {meth : Method} {c : Code} {H : Heap} {locs : List Loc} {cells slots : Nat} {Q : State → Prop} {cc : ByteArray} {pc : Nat} {ls : Array Slot} {rest : List Value} {mc ms : Nat} {M1 : gm_M} {r : Option gm_V} {st0 : List Value} (hr : va_Run p l e R s m args below meth c H locs cells slots mc ms (F0 m pc ls st0) rest (fun st o t => (o = .returned (r.map (gm_rv ad)) ∧ gm_W D sz ad cA xs Ln M1 t.heap) ∧ va_F (gm_fr sz) st t) (gm_fr sz)) (hS : va_S (gm_fr sz) s.heap H locs)
    (kk : ∀ (H1 : Heap) (locs1 : List Loc), gm_W D sz ad cA xs Ln M1 H1 → va_S (gm_fr sz) s.heap H1 locs1 → W p l e R s m args below meth c H1 locs1 (cells + mc) (slots + ms) Q (F0 m (pc + 3) ls (r.toList.map (gm_rv ad) ++ rest))) : W p l e R s m args below meth c H locs cells slots Q (F0 m pc ls st0) := by
  intro T hT X
  obtain ⟨v, st₀, t, T', L, h0, X', hL, e1, e2, ⟨⟨hv, hWq⟩, hz, hk⟩, st⟩ := hr T hT X
  have hv' : v = r.map (gm_rv ad) := Outcome.returned.inj hv
  rw [h0] at hz hk
  obtain ⟨t2, a1, b1⟩ := kk T'.heap (locs ++ L) (by rw [e1]; exact hWq)
    ⟨Nat.le_trans hS.1 (by rw [e1]; exact hz), fun q h1 h2 => by rw [e1, hk q (Nat.lt_of_lt_of_le h1 hS.1) h2]; exact hS.2.1 q h1 h2, fun q hq => by
      rcases List.mem_append.mp hq with h | h
      · exact hS.2.2 q h
      · exact hL q h⟩ T' rfl X'
  refine ⟨t2, st t2 ?_, b1⟩
  have hl : v.toList = r.toList.map (gm_rv ad) := by rw [hv']; cases r <;> rfl
  rw [hl]
  exact a1

theorem gm_sh_le : ∀ k, k < gm_NX → (gm_sh (k + 1)).2 ≤ 600 := by decide +kernel
theorem gm_lcmpI (x y : Int) : Int32.ofInt (if gm_lw x < gm_lw y then -1 else if gm_lw x = gm_lw y then 0 else 1) = lg_cmp (Int64.ofInt x) (Int64.ofInt y) := by
  have h1 : gm_lw x < gm_lw y ↔ Int64.ofInt x < Int64.ofInt y := Int64.lt_iff_toInt_lt.symm
  have h1' : gm_lw y < gm_lw x ↔ Int64.ofInt y < Int64.ofInt x := Int64.lt_iff_toInt_lt.symm
  have h2 : gm_lw x = gm_lw y ↔ Int64.ofInt x = Int64.ofInt y := Int64.toInt_inj
  unfold lg_cmp
  by_cases a : gm_lw x < gm_lw y
  · have b : ¬ gm_lw y < gm_lw x := by omega
    have b2 : ¬ gm_lw x = gm_lw y := by omega
    rw [if_pos a, if_neg (fun z => b (h1'.mpr z)), if_neg (fun z => b2 (h2.mpr z))]
    rfl
  · by_cases b : gm_lw x = gm_lw y
    · have b' := h2.mp b
      simp [b, b']
    · have b2 : gm_lw y < gm_lw x := by omega
      rw [if_neg a, if_neg b, if_pos (h1'.mp b2)]
      rfl
theorem gm_s_lcmp {D : va_G} {sz : Nat} {ad : Nat → Nat} {cA : Nat → ClassId} {xs : Int → Int} {Ln : Int} {l : Launch} {mt : gm_MT} {cc : ByteArray} {own : String} {n : Nat} {isI : Bool} {rk : Nat} {bpc : Nat → Nat} {pc : Nat} (hdg : decode cc pc = .ok (.lcmp, 1)) : gm_S D sz ad cA xs Ln l mt cc own n isI rk bpc pc (pc + 1) gm_lcmp := by
  intro dl n0 p e R s m args below meth c Q C J N X hcx hr hC hmJ hmN hN hJ L st M h H locs ls hW hS hL hn
  obtain ⟨hx, hb, hml, hown, hts, hSt, hinit, hroom, hfr, hlo⟩ := id hcx
  have hadr := hSt.2.2.1
  have hMN := hW.2.2.1
  unfold gm_lcmp at h
  split at h
  · next y x st' =>
    refine W.lcmp hx hb hdg ?_
    have g := hN L _ M h H locs ls hW hS hL hn
    rw [List.map_cons, show gm_rv ad (.inl (if gm_lw x < gm_lw y then -1 else if gm_lw x = gm_lw y then 0 else 1)) = .int (lg_cmp (Int64.ofInt x) (Int64.ofInt y)) from congrArg Value.int (gm_lcmpI x y)] at g
    exact g
  · cases h

theorem gm_s_new {D : va_G} {sz : Nat} {ad : Nat → Nat} {cA : Nat → ClassId} {xs : Int → Int} {Ln : Int} {l : Launch} {mt : gm_MT} {cc : ByteArray} {own : String} {n : Nat} {isI : Bool} {rk : Nat} {bpc : Nat → Nat} {pc : Nat} {ci index Nf : Nat} {C : String} {T : u_T} (hc : vwCl[ci]? = some (C, T, Nf)) (hci : ci < 10) (hcw : ∀ w ∈ u_ws C T Nf, w ∈ gm_ok) (ty0 : Nat → FieldType) (hty : ∀ k, k < Nf → parseFieldDescriptor (T k).2.2.1 = some (ty0 k)) (hdef : ∀ k, k < Nf → ∀ ad, gm_fv ad (gm_fty ci k) 0 = defaultValue (ty0 k)) (hcl : Cond.classLink own index C ∈ gm_ok) (hins : Cond.instantiable C Nf ∈ gm_ok) (hini : Cond.initialized C ∈ gm_ok) (hdg : decode cc pc = .ok (.new index, 3)) : gm_S D sz ad cA xs Ln l mt cc own n isI rk bpc pc (pc + 3) (gm_new ci) := by
  intro dl n0 p e R s m args below meth c Q C J N X hcx hr hC hmJ hmN hN hJ L st M h H locs ls hW hS hL hn
  obtain ⟨hx, hb, hml, hown, hts, hSt, hinit, hroom, hfr, hlo⟩ := id hcx
  have hadr := hSt.2.2.1
  have hMN := hW.2.2.1
  unfold gm_new at h
  split at h
  · next hO =>
    obtain ⟨hlt, hsh⟩ := hO
    have hNf := gm_cls hlt hci hsh hc
    obtain ⟨r1, r2, r3, r4⟩ := gm_room (dl := 0) hroom hn (hmN _ _ _ _ _ h) hNf
    have hKn := hSt.1.1 ci _ hc
    have hz := hW.2.1 hlt
    refine W.newcK hx hb hown (hts _ hcl) (hts _ hins) (hts _ hini) rfl hdg r1 r2 hKn.2.1 hz fun H1 kC hkC e1 z1 o1 => ?_
    rw [r3, r4]
    have hW1 : gm_W D sz ad cA xs Ln (gm_al M) H1 := by
      refine gm_W_al hW hlt (by omega) (fun q hq => o1 q (by omega)) ?_
      rw [gm_eO hsh (by omega)]
      refine ⟨_, hc, (u_born ty0 hts hcw hKn hkC e1 hty).to fun j hj => ?_⟩
      rw [← hdef j hj ad]
      rw [vp_V, List.getD_eq_getElem?_getD, gm_fs_at (M := gm_al M) (i := M.1) (by omega), gm_al_F]
      rfl
    have g := hN L _ _ h H1 locs ls hW1 (gm_S_al hS (by omega) (fun q hq => o1 q (by omega))) hL (Nat.le_succ_of_le hn)
    rw [List.map_cons, gm_ref hadr (Nat.lt_succ_self M.1) (by exact hlt)] at g
    exact g
  · cases h

theorem gm_s_newarr {D : va_G} {sz : Nat} {ad : Nat → Nat} {cA : Nat → ClassId} {xs : Int → Int} {Ln : Int} {l : Launch} {mt : gm_MT} {cc : ByteArray} {own : String} {n : Nat} {isI : Bool} {rk : Nat} {bpc : Nat → Nat} {pc : Nat} {kd t0 : Nat} {atype : ArrayType} {ty : FieldType} (hty : newarray.typeOf atype = ty) (harr : Cond.arrayClass (newarray.typeOf atype) ∈ gm_ok) (ht0 : ∀ cA, (gm_tys cA)[t0]? = some (cA kd, ty)) (hkd : (kd = 21 ∧ ty = .long) ∨ (kd = 20 ∧ ty = .int) ∨ (kd = 22 ∧ ty = .char) ∨ (kd = 23 ∧ ty = .boolean)) (hdg : decode cc pc = .ok (.newarray atype, 2)) : gm_S D sz ad cA xs Ln l mt cc own n isI rk bpc pc (pc + 2) (gm_newarr kd) := by
  intro dl n0 p e R s m args below meth c Q C J N X hcx hr hC hmJ hmN hN hJ L st M h H locs ls hW hS hL hn
  obtain ⟨hx, hb, hml, hown, hts, hSt, hinit, hroom, hfr, hlo⟩ := id hcx
  have hadr := hSt.2.2.1
  have hMN := hW.2.2.1
  unfold gm_newarr at h
  split at h
  · next nn st' =>
    split at h
    · next hO =>
      obtain ⟨hlt, hp, hsh⟩ := hO
      have hsh1 : (gm_sh (M.1 + 1)).1 = kd := by rw [hsh]
      have hsh2 : (gm_sh (M.1 + 1)).2 = (gm_w nn).toNat := by rw [hsh]
      obtain ⟨r1, r2, r3, r4⟩ := gm_room (dl := 0) hroom hn (hmN _ _ _ _ _ h) hsh2
      have hz := hW.2.1 hlt
      have hsm : (gm_w nn).toNat ≤ 600 := by
        rw [← hsh2]
        exact gm_sh_le M.1 hlt
      refine va_newaK (N := (gm_w nn).toNat) hx hb (hts _ harr) rfl hdg rfl (fun q => by have := gm_w_lt0.mpr q; omega) rfl ?_ r1 r2 hz fun H1 cA' e1 z1 o1 hAr hNm => ?_
      · have hcb : componentBytes (newarray.typeOf atype) ≤ 8 := by rw [hty]; rcases hkd with ⟨-, rfl⟩ | ⟨-, rfl⟩ | ⟨-, rfl⟩ | ⟨-, rfl⟩ <;> decide
        exact Nat.le_trans (Nat.mul_le_mul hsm hcb) (by decide)
      · rw [r3, r4]
        have hcA : cA' = cA kd := by
          have h2 := (hSt.1.2 t0 _ (ht0 cA)).2
          rw [hty] at hNm
          rcases hkd with ⟨rfl, rfl⟩ | ⟨rfl, rfl⟩ | ⟨rfl, rfl⟩ | ⟨rfl, rfl⟩ <;> exact Option.some.inj (hNm.symm.trans h2)
        subst hcA
        have hW1 : gm_W D sz ad cA xs Ln (gm_al M) H1 := by
          refine gm_W_al hW hlt (by omega) (fun q hq => o1 q (by omega)) ?_
          rw [hty] at e1
          rcases hkd with ⟨rfl, rfl⟩ | ⟨rfl, rfl⟩ | ⟨rfl, rfl⟩ | ⟨rfl, rfl⟩
          · rw [gm_eL hsh1, hsh2]
            refine e1.trans (congrArg some (Eq.trans ?_ (vp_cell_l _ _ _).symm))
            congr 1
            funext i
            rw [gm_al_A M]
            rfl
          · rw [gm_eI hsh1 (Or.inl rfl), hsh2]
            refine e1.trans (congrArg some (Eq.trans ?_ (vp_cell_i _ _ _).symm))
            congr 1
            funext i
            rw [gm_al_A M]
            rfl
          · rw [gm_eI hsh1 (Or.inr (Or.inl rfl)), hsh2]
            refine e1.trans (congrArg some (Eq.trans ?_ (vp_cell_i _ _ _).symm))
            congr 1
            funext i
            rw [gm_al_A M]
            rfl
          · rw [gm_eI hsh1 (Or.inr (Or.inr rfl)), hsh2]
            refine e1.trans (congrArg some (Eq.trans ?_ (vp_cell_i _ _ _).symm))
            congr 1
            funext i
            rw [gm_al_A M]
            rfl
        have g := hN L _ _ h H1 locs ls hW1 (gm_S_al hS (by omega) (fun q hq => o1 q (by omega))) hL (Nat.le_succ_of_le hn)
        rw [List.map_cons, gm_ref hadr (Nat.lt_succ_self M.1) (by exact hlt)] at g
        exact g
    · cases h
  · cases h

theorem gm_s_anewarr {D : va_G} {sz : Nat} {ad : Nat → Nat} {cA : Nat → ClassId} {xs : Int → Int} {Ln : Int} {l : Launch} {mt : gm_MT} {cc : ByteArray} {own : String} {n : Nat} {isI : Bool} {rk : Nat} {bpc : Nat → Nat} {pc : Nat} {kd t0 index : Nat} {Cn : String} (hkd : 24 ≤ kd) (ht0 : ∀ cA, (gm_tys cA)[t0]? = some (cA kd, .object Cn)) (hao : ∀ (ad : Nat → Nat) (U : State), gm_Nt ad U → va_AO Cn U) (hcl : Cond.classLink own index Cn ∈ gm_ok) (hdg : decode cc pc = .ok (.anewarray index, 3)) : gm_S D sz ad cA xs Ln l mt cc own n isI rk bpc pc (pc + 3) (gm_newarr kd) := by
  intro dl n0 p e R s m args below meth c Q C J N X hcx hr hC hmJ hmN hN hJ L st M h H locs ls hW hS hL hn
  obtain ⟨hx, hb, hml, hown, hts, hSt, hinit, hroom, hfr, hlo⟩ := id hcx
  have hadr := hSt.2.2.1
  have hMN := hW.2.2.1
  unfold gm_newarr at h
  split at h
  · next nn st' =>
    split at h
    · next hO =>
      obtain ⟨hlt, hp, hsh⟩ := hO
      have hsh1 : (gm_sh (M.1 + 1)).1 = kd := by rw [hsh]
      have hsh2 : (gm_sh (M.1 + 1)).2 = (gm_w nn).toNat := by rw [hsh]
      obtain ⟨r1, r2, r3, r4⟩ := gm_room (dl := 0) hroom hn (hmN _ _ _ _ _ h) hsh2
      have hz := hW.2.1 hlt
      have hsm : (gm_w nn).toNat ≤ 600 := by
        rw [← hsh2]
        exact gm_sh_le M.1 hlt
      refine W.anew hx hb hown (hts _ hcl) ((hao ad s hSt.2.2.2.2.1).use) rfl hdg rfl (fun q => by have := gm_w_lt0.mpr q; omega) (show (gm_w nn).toNat * 4 ≤ 536870912 by omega) r1 r2 fun cA' kA comp f1 f2 f3 f4 => ?_
      generalize hH1 : H.push ({ cls := cA', slots := Array.replicate (Int32.ofInt nn).toNatClampNeg .null, vm := .none } : Cell) = H1
      have z1 : H1.size = H.size + 1 := by rw [← hH1, Array.size_push]
      have e1 : H1[H.size]? = some (arrV cA' (Int32.ofInt nn).toNatClampNeg (fun _ => .null)) := by rw [← hH1, Array.getElem?_push_size, ← arrV_new]
      have o1 : ∀ q : Nat, q < H.size → H1[q]? = H[q]? := fun q hq => by rw [← hH1, Array.getElem?_push, if_neg (Nat.ne_of_lt hq)]
      have r4' : gm_sl M.1 - gm_sl n0 + (Int32.ofInt nn).toNatClampNeg = gm_sl (M.1 + 1) - gm_sl n0 := r4
      rw [r3, r4']
      have hcA : cA' = cA kd := by
        obtain ⟨kA', comp', -, -, -, h2⟩ := (hSt.1.2 t0 _ (ht0 cA)).2
        exact Option.some.inj (f1.symm.trans h2)
      subst hcA
      have hW1 : gm_W D sz ad cA xs Ln (gm_al M) H1 := by
        refine gm_W_al hW hlt z1 o1 ?_
        rw [gm_eR hsh1 hkd, hsh2, ← hz]
        refine e1.trans (congrArg some (Eq.trans ?_ (vp_cell_q _ _ _).symm))
        show arrV _ _ _ = arrV _ _ _
        congr 1
        funext i
        rw [gm_al_A M]
        rfl
      have g := hN L _ _ h H1 locs ls hW1 (gm_S_al hS z1 o1) hL (Nat.le_succ_of_le hn)
      rw [List.map_cons, gm_ref hadr (Nat.lt_succ_self M.1) (by exact hlt), ← hz] at g
      exact g
    · cases h
  · cases h

theorem gm_s_above {D : va_G} {sz : Nat} {ad : Nat → Nat} {cA : Nat → ClassId} {xs : Int → Int} {Ln : Int} {l : Launch} {mt : gm_MT} {cc : ByteArray} {own : String} {n : Nat} {isI : Bool} {rk : Nat} {bpc : Nat → Nat} {pc : Nat} {k : Nat} (hlink : Cond.fieldLink own k "LongNoon" "ABOVE" "[I" ∈ gm_ok) (hdg : decode cc pc = .ok (.getstatic k, 3)) : gm_S D sz ad cA xs Ln l mt cc own n isI rk bpc pc (pc + 3) (gm_push (.inr (.inr 1000))) := by
  intro dl n0 p e R s m args below meth c Q C J N X hcx hr hC hmJ hmN hN hJ L st M h H locs ls hW hS hL hn
  obtain ⟨hx, hb, hml, hown, hts, hSt, hinit, hroom, hfr, hlo⟩ := id hcx
  have hadr := hSt.2.2.1
  have hMN := hW.2.2.1
  have g := hN L _ M h H locs ls hW hS hL hn
  rw [List.map_cons, gm_rv_ref ad (by decide)] at g
  exact va_gets hx hb hSt.2.2.2.1.1.1 hS hown (hts _ hlink) (fun _ q => q) hdg g

theorem gm_s_aboveN {D : va_G} {sz : Nat} {ad : Nat → Nat} {cA : Nat → ClassId} {xs : Int → Int} {Ln : Int} {l : Launch} {mt : gm_MT} {cc : ByteArray} {own : String} {n : Nat} {isI : Bool} {rk : Nat} {bpc : Nat → Nat} {pc : Nat} (ho : own = "LongNoon$Player") (hdg : decode cc pc = .ok (.getstatic 28, 3)) : gm_S D sz ad cA xs Ln l mt cc own n isI rk bpc pc (pc + 3) (gm_push (.inr (.inr 1000))) := by
  intro dl n0 p e R s m args below meth c Q C J N X hcx hr hC hmJ hmN hN hJ L st M h H locs ls hW hS hL hn
  obtain ⟨hx, hb, hml, hown, hts, hSt, hinit, hroom, hfr, hlo⟩ := id hcx
  have hadr := hSt.2.2.1
  have hMN := hW.2.2.1
  subst ho
  have g := hN L _ M h H locs ls hW hS hL hn
  rw [List.map_cons, gm_rv_ref ad (by decide)] at g
  exact va_getsN hx hb hSt.2.2.2.1.1.1 hS hown (hSt.2.2.2.2.1.2.1.use rfl) (fun _ q => q) hdg g

theorem gm_s_body {D : va_G} {sz : Nat} {ad : Nat → Nat} {cA : Nat → ClassId} {xs : Int → Int} {Ln : Int} {l : Launch} {mt : gm_MT} {cc : ByteArray} {own : String} {n : Nat} {isI : Bool} {rk : Nat} {bpc : Nat → Nat} {pc : Nat} {k : Nat} (hlink : Cond.fieldLink own k "LongNoon$Player" "BODY" "[I" ∈ gm_ok) (hdg : decode cc pc = .ok (.getstatic k, 3)) : gm_S D sz ad cA xs Ln l mt cc own n isI rk bpc pc (pc + 3) (gm_push (.inr (.inr 1001))) := by
  intro dl n0 p e R s m args below meth c Q C J N X hcx hr hC hmJ hmN hN hJ L st M h H locs ls hW hS hL hn
  obtain ⟨hx, hb, hml, hown, hts, hSt, hinit, hroom, hfr, hlo⟩ := id hcx
  have hadr := hSt.2.2.1
  have hMN := hW.2.2.1
  have g := hN L _ M h H locs ls hW hS hL hn
  rw [List.map_cons, gm_rv_ref ad (by decide)] at g
  exact va_gets hx hb hSt.2.2.2.1.2.1.1 hS hown (hts _ hlink) (fun _ q => q) hdg g

theorem gm_s_ldcs {D : va_G} {sz : Nat} {ad : Nat → Nat} {cA : Nat → ClassId} {xs : Int → Int} {Ln : Int} {l : Launch} {mt : gm_MT} {cc : ByteArray} {own : String} {n : Nat} {isI : Bool} {rk : Nat} {bpc : Nat → Nat} {pc : Nat} {i : Nat} {q : Nat × String} (ho : own = "LongNoon$Reader") (hq : gm_txR[i]? = some q) {k : Nat} (hk : q.1 = k) (hdg : decode cc pc = .ok (.ldc k, 2)) : gm_S D sz ad cA xs Ln l mt cc own n isI rk bpc pc (pc + 2) (gm_push (.inr (.inr ((1003 + i : Nat) : Int)))) := by
  intro dl n0 p e R s m args below meth c Q C J N X hcx hr hC hmJ hmN hN hJ L st M h H locs ls hW hS hL hn
  obtain ⟨hx, hb, hml, hown, hts, hSt, hinit, hroom, hfr, hlo⟩ := id hcx
  have hadr := hSt.2.2.1
  have hMN := hW.2.2.1
  subst ho
  subst hk
  have g := hN L _ M h H locs ls hW hS hL hn
  rw [List.map_cons, gm_rv_ref ad (by omega), Int.toNat_natCast] at g
  exact va_ldcS hx hb hown (hSt.2.2.2.2.1.2.2.2 i q hq) hdg g

theorem gm_s_max {D : va_G} {sz : Nat} {ad : Nat → Nat} {cA : Nat → ClassId} {xs : Int → Int} {Ln : Int} {l : Launch} {mt : gm_MT} {cc : ByteArray} {own : String} {n : Nat} {isI : Bool} {rk : Nat} {bpc : Nat → Nat} {pc : Nat} {k : Nat} (hl : Cond.methodLink own k Lib.Math.max.name ∈ gm_ok) (hst : Cond.static Lib.Math.max.name ∈ gm_ok) (hi : Cond.initialized "java/lang/Math" ∈ gm_ok) (hcd : Cond.code Lib.Math.max.name Lib.Math.max.code 2 (some .int) ∈ gm_ok) (hdg : decode cc pc = .ok (.invokestatic k, 3)) : gm_S D sz ad cA xs Ln l mt cc own n isI rk bpc pc (pc + 3) gm_max := by
  intro dl n0 p e R s m args below meth c Q C J N X hcx hr hC hmJ hmN hN hJ L st M h H locs ls hW hS hL hn
  obtain ⟨hx, hb, hml, hown, hts, hSt, hinit, hroom, hfr, hlo⟩ := id hcx
  have hadr := hSt.2.2.1
  have hMN := hW.2.2.1
  unfold gm_max at h
  split at h
  · next y x st' =>
    split at h
    · next hO =>
      have g := hN L _ M h H locs ls hW hS hL hn
      have hM : M.1 ≤ X.2.1 := hmN _ _ _ _ _ h
      have b := gm_sl_mono _ _ hM
      refine va_mmax hx hb (by rw [hml]; exact hL.1.symm) hown (hts _ hl) (hts _ hst) (hts _ hi) (hts _ hcd) (by omega) (by rw [gm_wd_cat]; omega) (by omega) (by omega) hdg ?_
      by_cases q : gm_w x < gm_w y
      · rw [if_pos q] at g
        have q' := gm_w_lt.mp q
        first
          | (rw [if_pos q']; exact g)
          | (rw [if_neg (by intro z; exact absurd q' (by first | exact Int32.not_lt.mpr z | exact Int32.lt_asymm z))]; exact g)
      · rw [if_neg q] at g
        have q' : ¬ Int32.ofInt x < Int32.ofInt y := fun z => q (gm_w_lt.mpr z)
        first
          | (rw [if_neg q']; exact g)
          | (rw [if_pos (Int32.not_lt.mp q')]; exact g)
    · cases h
  · cases h

theorem gm_s_min {D : va_G} {sz : Nat} {ad : Nat → Nat} {cA : Nat → ClassId} {xs : Int → Int} {Ln : Int} {l : Launch} {mt : gm_MT} {cc : ByteArray} {own : String} {n : Nat} {isI : Bool} {rk : Nat} {bpc : Nat → Nat} {pc : Nat} {k : Nat} (hl : Cond.methodLink own k Lib.Math.min.name ∈ gm_ok) (hst : Cond.static Lib.Math.min.name ∈ gm_ok) (hi : Cond.initialized "java/lang/Math" ∈ gm_ok) (hcd : Cond.code Lib.Math.min.name Lib.Math.min.code 2 (some .int) ∈ gm_ok) (hdg : decode cc pc = .ok (.invokestatic k, 3)) : gm_S D sz ad cA xs Ln l mt cc own n isI rk bpc pc (pc + 3) gm_min := by
  intro dl n0 p e R s m args below meth c Q C J N X hcx hr hC hmJ hmN hN hJ L st M h H locs ls hW hS hL hn
  obtain ⟨hx, hb, hml, hown, hts, hSt, hinit, hroom, hfr, hlo⟩ := id hcx
  have hadr := hSt.2.2.1
  have hMN := hW.2.2.1
  unfold gm_min at h
  split at h
  · next y x st' =>
    split at h
    · next hO =>
      have g := hN L _ M h H locs ls hW hS hL hn
      have hM : M.1 ≤ X.2.1 := hmN _ _ _ _ _ h
      have b := gm_sl_mono _ _ hM
      refine va_mmin hx hb (by rw [hml]; exact hL.1.symm) hown (hts _ hl) (hts _ hst) (hts _ hi) (hts _ hcd) (by omega) (by rw [gm_wd_cat]; omega) (by omega) (by omega) hdg ?_
      by_cases q : gm_w y < gm_w x
      · rw [if_pos q] at g
        have q' := gm_w_lt.mp q
        first
          | (rw [if_pos q']; exact g)
          | (rw [if_neg (by intro z; exact absurd q' (by first | exact Int32.not_lt.mpr z | exact Int32.lt_asymm z))]; exact g)
      · rw [if_neg q] at g
        have q' : ¬ Int32.ofInt y < Int32.ofInt x := fun z => q (gm_w_lt.mpr z)
        first
          | (rw [if_neg q']; exact g)
          | (rw [if_pos (Int32.not_lt.mp q')]; exact g)
    · cases h
  · cases h

theorem gm_s_oinit {D : va_G} {sz : Nat} {ad : Nat → Nat} {cA : Nat → ClassId} {xs : Int → Int} {Ln : Int} {l : Launch} {mt : gm_MT} {cc : ByteArray} {own : String} {n : Nat} {isI : Bool} {rk : Nat} {bpc : Nat → Nat} {pc : Nat} {k : Nat} (hl : Cond.methodLink own k Lib.objectInit ∈ gm_ok) (hi : Cond.instanceMethod Lib.objectInit ∈ gm_ok) (hcd : Cond.code Lib.objectInit ⟨#[0xb1]⟩ 1 none ∈ gm_ok) (hdg : decode cc pc = .ok (.invokespecial k, 3)) : gm_S D sz ad cA xs Ln l mt cc own n isI rk bpc pc (pc + 3) gm_oinit := by
  intro dl n0 p e R s m args below meth c Q C J N X hcx hr hC hmJ hmN hN hJ L st M h H locs ls hW hS hL hn
  obtain ⟨hx, hb, hml, hown, hts, hSt, hinit, hroom, hfr, hlo⟩ := id hcx
  have hadr := hSt.2.2.1
  have hMN := hW.2.2.1
  unfold gm_oinit at h
  split at h
  · next o1 st' =>
    split at h
    · next hO =>
      rw [List.map_cons, gm_rv_ref ad hO.1]
      refine W.objInit hx hb hown (hts _ hl) (hts _ hi) (hts _ hcd) rfl (by rw [hml]; exact hL.1) rfl hdg (by omega) ?_ (hN L _ M h H locs ls hW hS hL hn)
      have h8 : 2 * (F0 m pc ls (.ref (ad o1.toNat) :: st'.map (gm_rv ad))).monitorRoom = 0 := rfl
      rw [h8, gm_wd_cat]
      omega
    · cases h
  · cases h

theorem gm_s_acp20 {D : va_G} {sz : Nat} {ad : Nat → Nat} {cA : Nat → ClassId} {xs : Int → Int} {Ln : Int} {l : Launch} {mt : gm_MT} {cc : ByteArray} {own : String} {n : Nat} {isI : Bool} {rk : Nat} {bpc : Nat → Nat} {pc : Nat} {k : Nat} (hl : Cond.methodLink own k arraycopyName ∈ gm_ok) (hna : Cond.native arraycopyName ∈ gm_ok) (hst : Cond.static arraycopyName ∈ gm_ok) (hi : Cond.initialized "java/lang/System" ∈ gm_ok) (hdg : decode cc pc = .ok (.invokestatic k, 3)) : gm_S D sz ad cA xs Ln l mt cc own n isI rk bpc pc (pc + 3) (gm_acp 20) := by
  intro dl n0 p e R s m args below meth c Q C J N X hcx hr hC hmJ hmN hN hJ L st M h H locs ls hW hS hL hn
  obtain ⟨hx, hb, hml, hown, hts, hSt, hinit, hroom, hfr, hlo⟩ := id hcx
  have hadr := hSt.2.2.1
  have hMN := hW.2.2.1
  unfold gm_acp at h
  split at h
  · next nn dp a sp a0 st' =>
    split at h
    · next hO =>
      obtain ⟨hnx, hwd, hO0, hO1, p1, p2, p3, l1, l2⟩ := hO
      obtain ⟨i0, rfl, hi0, hsh0⟩ := gm_isO_spec hO0
      obtain ⟨i1, rfl, hi1, hsh1⟩ := gm_isO_spec hO1
      rw [gm_lenD (Nat.lt_of_lt_of_le hi0 hMN)] at l1
      rw [gm_lenD (Nat.lt_of_lt_of_le hi1 hMN)] at l2
      simp only [List.map_cons]
      rw [gm_ref hadr hi0 hMN, gm_ref hadr hi1 hMN]
      have ng : ∀ z : Int, 0 ≤ gm_w z → ¬ Int32.ofInt z < 0 := fun z hz q => by have := gm_w_lt0.mpr q; omega
      have t1 := gm_tc p1
      have t2 := gm_tc p2
      have t3 := gm_tc p3
      refine va_copyi hx hb (by rw [hml]; exact hL.1.symm) hown (hts _ hl) (hts _ hna) (hts _ hst) (hts _ hi) hSt.1 hW.1 (gm_ws_D sz ad cA M) hS i0 i1 0 0 (ty := .int) (by rw [gm_ws_at hi0, gm_eI hsh0 (Or.inl rfl)]) (by rw [gm_ws_at hi1, gm_eI hsh1 (Or.inl rfl)]) rfl rfl rfl (ng _ p1) (ng _ p2) (ng _ p3) (by omega) (by omega) (fun _ _ => rfl) (by omega) (by rw [gm_wd_cat]; exact Nat.le_trans (Nat.add_le_add_right hwd _) (Nat.le_trans (by decide : 8 + (nativeFrameWords "java/lang/System" "arraycopy" 5 + 11) ≤ 64) (by omega))) hdg (fun H1 locs1 hP1 _ hS1 => ?_)
      refine hN L _ _ h H1 locs1 ls ?_ hS1 hL hn
      have hn' : gm_NX = 188 := rfl
      refine ⟨?_, fun q => absurd q (by show ¬ M.1 < gm_NX; omega), hMN, gm_pu_A hW.2.2.2 rfl fun a q ha => ?_⟩
      · have e : (gm_ws sz ad cA M).set i1 (sz + i1, gm_e ad cA (gm_cp M ((i0 + 1 : Nat) : Int) (gm_w sp) ((i1 + 1 : Nat) : Int) (gm_w dp) (gm_w nn)) (i1 + 1)) = gm_ws sz ad cA (gm_cp M ((i0 + 1 : Nat) : Int) (gm_w sp) ((i1 + 1 : Nat) : Int) (gm_w dp) (gm_w nn)) := by
          refine gm_ws_set rfl hi1 rfl (fun j hj => gm_e_congr (fun _ => rfl) (fun q => ?_))
          show (if ((j + 1 : Nat) : Int) = ((i1 + 1 : Nat) : Int) ∧ _ then _ else _) = _
          rw [if_neg (by omega)]
        rw [← e, gm_eI hsh1 (Or.inl rfl)]
        have hfn : (fun (q : Nat) => Int32.ofInt ((gm_cp M ((i0 + 1 : Nat) : Int) (gm_w sp) ((i1 + 1 : Nat) : Int) (gm_w dp) (gm_w nn)).2.2 ((i1 + 1 : Nat) : Int) q)) = va_cpy (fun (q : Nat) => Int32.ofInt (M.2.2 ((i0 + 1 : Nat) : Int) q)) (fun (q : Nat) => Int32.ofInt (M.2.2 ((i1 + 1 : Nat) : Int) q)) (Int32.ofInt sp).toNatClampNeg (Int32.ofInt dp).toNatClampNeg (Int32.ofInt nn).toNatClampNeg := by
          funext q
          unfold va_cpy
          by_cases hq : (Int32.ofInt dp).toNatClampNeg ≤ q ∧ q < (Int32.ofInt dp).toNatClampNeg + (Int32.ofInt nn).toNatClampNeg
          · rw [if_pos hq]
            refine congrArg Int32.ofInt ((if_pos ⟨rfl, ?a1, ?a2⟩).trans ?a3)
            case a1 => omega
            case a2 => omega
            case a3 =>
              have hx9 : gm_w sp + ((q : Int) - gm_w dp) = (((Int32.ofInt sp).toNatClampNeg + (q - (Int32.ofInt dp).toNatClampNeg) : Nat) : Int) := by omega
              exact congrArg (M.2.2 ((i0 + 1 : Nat) : Int)) hx9
          · rw [if_neg hq]
            refine congrArg Int32.ofInt (if_neg ?_)
            omega
        rw [hfn]
        exact hP1
      · show (if a = ((i1 + 1 : Nat) : Int) ∧ _ then _ else _) = _
        rw [if_neg (by omega)]
    · cases h
  · cases h

theorem gm_s_acp21 {D : va_G} {sz : Nat} {ad : Nat → Nat} {cA : Nat → ClassId} {xs : Int → Int} {Ln : Int} {l : Launch} {mt : gm_MT} {cc : ByteArray} {own : String} {n : Nat} {isI : Bool} {rk : Nat} {bpc : Nat → Nat} {pc : Nat} {k : Nat} (hl : Cond.methodLink own k arraycopyName ∈ gm_ok) (hna : Cond.native arraycopyName ∈ gm_ok) (hst : Cond.static arraycopyName ∈ gm_ok) (hi : Cond.initialized "java/lang/System" ∈ gm_ok) (hdg : decode cc pc = .ok (.invokestatic k, 3)) : gm_S D sz ad cA xs Ln l mt cc own n isI rk bpc pc (pc + 3) (gm_acp 21) := by
  intro dl n0 p e R s m args below meth c Q C J N X hcx hr hC hmJ hmN hN hJ L st M h H locs ls hW hS hL hn
  obtain ⟨hx, hb, hml, hown, hts, hSt, hinit, hroom, hfr, hlo⟩ := id hcx
  have hadr := hSt.2.2.1
  have hMN := hW.2.2.1
  unfold gm_acp at h
  split at h
  · next nn dp a sp a0 st' =>
    split at h
    · next hO =>
      obtain ⟨hnx, hwd, hO0, hO1, p1, p2, p3, l1, l2⟩ := hO
      obtain ⟨i0, rfl, hi0, hsh0⟩ := gm_isO_spec hO0
      obtain ⟨i1, rfl, hi1, hsh1⟩ := gm_isO_spec hO1
      rw [gm_lenD (Nat.lt_of_lt_of_le hi0 hMN)] at l1
      rw [gm_lenD (Nat.lt_of_lt_of_le hi1 hMN)] at l2
      simp only [List.map_cons]
      rw [gm_ref hadr hi0 hMN, gm_ref hadr hi1 hMN]
      have ng : ∀ z : Int, 0 ≤ gm_w z → ¬ Int32.ofInt z < 0 := fun z hz q => by have := gm_w_lt0.mpr q; omega
      have t1 := gm_tc p1
      have t2 := gm_tc p2
      have t3 := gm_tc p3
      refine va_copyl hx hb (by rw [hml]; exact hL.1.symm) hown (hts _ hl) (hts _ hna) (hts _ hst) (hts _ hi) hSt.1 hW.1 (gm_ws_D sz ad cA M) hS i0 i1 1 1 (ty := .long) (by rw [gm_ws_at hi0, gm_eL hsh0]) (by rw [gm_ws_at hi1, gm_eL hsh1]) rfl rfl rfl (ng _ p1) (ng _ p2) (ng _ p3) (by omega) (by omega) (fun _ _ => rfl) (by omega) (by rw [gm_wd_cat]; exact Nat.le_trans (Nat.add_le_add_right hwd _) (Nat.le_trans (by decide : 8 + (nativeFrameWords "java/lang/System" "arraycopy" 5 + 11) ≤ 64) (by omega))) hdg (fun H1 locs1 hP1 _ hS1 => ?_)
      refine hN L _ _ h H1 locs1 ls ?_ hS1 hL hn
      have hn' : gm_NX = 188 := rfl
      refine ⟨?_, fun q => absurd q (by show ¬ M.1 < gm_NX; omega), hMN, gm_pu_A hW.2.2.2 rfl fun a q ha => ?_⟩
      · have e : (gm_ws sz ad cA M).set i1 (sz + i1, gm_e ad cA (gm_cp M ((i0 + 1 : Nat) : Int) (gm_w sp) ((i1 + 1 : Nat) : Int) (gm_w dp) (gm_w nn)) (i1 + 1)) = gm_ws sz ad cA (gm_cp M ((i0 + 1 : Nat) : Int) (gm_w sp) ((i1 + 1 : Nat) : Int) (gm_w dp) (gm_w nn)) := by
          refine gm_ws_set rfl hi1 rfl (fun j hj => gm_e_congr (fun _ => rfl) (fun q => ?_))
          show (if ((j + 1 : Nat) : Int) = ((i1 + 1 : Nat) : Int) ∧ _ then _ else _) = _
          rw [if_neg (by omega)]
        rw [← e, gm_eL hsh1]
        have hfn : (fun (q : Nat) => Int64.ofInt ((gm_cp M ((i0 + 1 : Nat) : Int) (gm_w sp) ((i1 + 1 : Nat) : Int) (gm_w dp) (gm_w nn)).2.2 ((i1 + 1 : Nat) : Int) q)) = va_cpy (fun (q : Nat) => Int64.ofInt (M.2.2 ((i0 + 1 : Nat) : Int) q)) (fun (q : Nat) => Int64.ofInt (M.2.2 ((i1 + 1 : Nat) : Int) q)) (Int32.ofInt sp).toNatClampNeg (Int32.ofInt dp).toNatClampNeg (Int32.ofInt nn).toNatClampNeg := by
          funext q
          unfold va_cpy
          by_cases hq : (Int32.ofInt dp).toNatClampNeg ≤ q ∧ q < (Int32.ofInt dp).toNatClampNeg + (Int32.ofInt nn).toNatClampNeg
          · rw [if_pos hq]
            refine congrArg Int64.ofInt ((if_pos ⟨rfl, ?a1, ?a2⟩).trans ?a3)
            case a1 => omega
            case a2 => omega
            case a3 =>
              have hx9 : gm_w sp + ((q : Int) - gm_w dp) = (((Int32.ofInt sp).toNatClampNeg + (q - (Int32.ofInt dp).toNatClampNeg) : Nat) : Int) := by omega
              exact congrArg (M.2.2 ((i0 + 1 : Nat) : Int)) hx9
          · rw [if_neg hq]
            refine congrArg Int64.ofInt (if_neg ?_)
            omega
        rw [hfn]
        exact hP1
      · show (if a = ((i1 + 1 : Nat) : Int) ∧ _ then _ else _) = _
        rw [if_neg (by omega)]
    · cases h
  · cases h

theorem gm_s_vcall {D : va_G} {sz : Nat} {ad : Nat → Nat} {cA : Nat → ClassId} {xs : Int → Int} {Ln : Int} {l : Launch} {mt : gm_MT} {cc : ByteArray} {own : String} {n : Nat} {isI : Bool} {rk : Nat} {bpc : Nat → Nat} {pc : Nat} {mid k np maxL : Nat} {y : MethodName} {bytes : ByteArray} {ret : Option FieldType} (hmt : mt mid = (y, bytes, maxL, ret)) (hmx : maxL ≤ 45) (hcd : Cond.code y bytes maxL ret ∈ gm_ok) (hini : Cond.initialized y.cls ∈ gm_ok) (hd : y.cls ≠ "java/lang/invoke/MethodHandle" ∧ y.cls ≠ "java/lang/invoke/VarHandle" ∧ (parseMethodDescriptor y.desc).map (fun d => d.parameters.length) = some np) {ci Nf : Nat} {C : String} {T : u_T} (hc : vwCl[ci]? = some (C, T, Nf)) (hci : ci < 10) (hCy : y.cls = C) (hpre : ∀ w ∈ ([.methodLink own k y, .instanceMethod y, .selects C y y, .initialized C] : List Cond), w ∈ gm_ok) (hdg : decode cc pc = .ok (.invokevirtual k, 3)) : gm_S D sz ad cA xs Ln l mt cc own n isI rk bpc pc (pc + 3) (gm_vcall ci mid (np + 1)) := by
  intro dl n0 p e R s m args below meth c Q C J N X hcx hr hC hmJ hmN hN hJ L st M h H locs ls hW hS hL hn
  obtain ⟨hx, hb, hml, hown, hts, hSt, hinit, hroom, hfr, hlo⟩ := id hcx
  have hadr := hSt.2.2.1
  have hMN := hW.2.2.1
  unfold gm_vcall at h
  split at h
  · next o1 as rest hpop =>
    split at h
    · next hO =>
      obtain ⟨us, hus1, hus2, hus3⟩ := gm_pop_spec _ _ _ _ _ hpop
      rw [List.append_nil] at hus1
      cases hcall : C mid (.inr (.inr o1) :: as) M with
      | none => rw [hcall] at h; cases h
      | some q =>
        obtain ⟨r, M1⟩ := q
        rw [hcall] at h
        obtain ⟨hle, hM⟩ := hC mid _ M r M1 hcall
        rw [hmt] at hM
        have hk : N L (r.toList ++ rest) M1 = some X := by cases r <;> exact h
        have hM1 : M1.1 ≤ X.2.1 := hmN _ _ _ _ _ hk
        have b1 := gm_sl_mono _ _ hn
        have b2 := gm_sl_mono _ _ hle
        have b3 := gm_sl_mono _ _ hM1
        obtain ⟨i, rfl, hi, hsh⟩ := gm_isO_spec hO.2
        have hst : st.map (gm_rv ad) = (as.map (gm_rv ad)).reverse ++ (.ref (sz + i) :: rest.map (gm_rv ad)) := by
          have : us = as.reverse ++ [.inr (.inr ((i + 1 : Nat) : Int))] := by
            rw [← List.reverse_reverse us, ← hus1]
            simp
          rw [hus2, this]
          simp only [List.map_append, List.map_cons, List.map_reverse, List.map_nil, List.append_assoc, List.cons_append, List.nil_append]
          rw [gm_ref hadr hi hMN]
        have hlen : (as.map (gm_rv ad)).length = np := by
          have := congrArg List.length hus1
          simp at this
          simp
          omega
        have hav : (List.map (gm_rv ad) (.inr (.inr ((i + 1 : Nat) : Int)) :: as)) = Value.ref (sz + i) :: as.map (gm_rv ad) := by rw [List.map_cons, gm_ref hadr hi hMN]
        unfold gm_C at hM
        rw [hav] at hM
        rw [hst]
        refine gm_run (cc := cc) (r := r) (M1 := M1) (va_runV (As := as.map (gm_rv ad)) (rest := rest.map (gm_rv ad)) ⟨hx, hb, hml, hown, hts⟩ hM (cwV np hts (gm_goodC hcd hpre) rfl rfl rfl ⟨hCy, hd⟩ ⟨by show dl + 10 + 1 ≤ R.frames; omega, by show 8 + (maxL + 11) + (dl + 10) * 64 ≤ R.locals; omega⟩) ⟨gm_blind, va_recv hSt.1 hW.1 hc (by rw [gm_ws_at hi, gm_eO hsh (by omega)]), fun U hU hWU => ⟨rfl, by rw [hU]; exact hW, gm_St_at hSt hS hU hWU⟩⟩ rfl hlen (by rw [show (F0 m pc ls _).locals = ls from rfl]; exact hL.1) rfl (lv_room (by rw [gm_wd_cat]; exact hO.1)) hdg ⟨by omega, by omega⟩) hS (fun H1 locs1 hW1 hS1 => ?_)
        have g := hN L _ M1 hk H1 locs1 ls hW1 hS1 hL (Nat.le_trans hn hle)
        rw [List.map_append] at g
        refine W.cs (cells' := M1.1 - n0) (slots' := gm_sl M1.1 - gm_sl n0) (by omega) (by omega) g
    · cases h
  · cases h

theorem gm_s_icall {D : va_G} {sz : Nat} {ad : Nat → Nat} {cA : Nat → ClassId} {xs : Int → Int} {Ln : Int} {l : Launch} {mt : gm_MT} {cc : ByteArray} {own : String} {n : Nat} {isI : Bool} {rk : Nat} {bpc : Nat → Nat} {pc : Nat} {mid k np maxL : Nat} {y : MethodName} {bytes : ByteArray} (hmt : mt mid = (y, bytes, maxL, none)) (hmx : maxL ≤ 45) (hcd : Cond.code y bytes maxL none ∈ gm_ok) (hini : Cond.initialized y.cls ∈ gm_ok) (hd : y.cls ≠ "java/lang/invoke/MethodHandle" ∧ y.cls ≠ "java/lang/invoke/VarHandle" ∧ (parseMethodDescriptor y.desc).map (fun d => d.parameters.length) = some np) {ci Nf : Nat} {C : String} {T : u_T} (hc : vwCl[ci]? = some (C, T, Nf)) (hci : ci < 10) (hl : Cond.methodLink own k y ∈ gm_ok) (him : Cond.instanceMethod y ∈ gm_ok) (hyn : y.name = "<init>") (hdg : decode cc pc = .ok (.invokespecial k, 3)) : gm_S D sz ad cA xs Ln l mt cc own n isI rk bpc pc (pc + 3) (gm_vcall ci mid (np + 1)) := by
  intro dl n0 p e R s m args below meth c Q C J N X hcx hr hC hmJ hmN hN hJ L st M h H locs ls hW hS hL hn
  obtain ⟨hx, hb, hml, hown, hts, hSt, hinit, hroom, hfr, hlo⟩ := id hcx
  have hadr := hSt.2.2.1
  have hMN := hW.2.2.1
  unfold gm_vcall at h
  split at h
  · next o1 as rest hpop =>
    split at h
    · next hO =>
      obtain ⟨us, hus1, hus2, hus3⟩ := gm_pop_spec _ _ _ _ _ hpop
      rw [List.append_nil] at hus1
      cases hcall : C mid (.inr (.inr o1) :: as) M with
      | none => rw [hcall] at h; cases h
      | some q =>
        obtain ⟨r, M1⟩ := q
        rw [hcall] at h
        obtain ⟨hle, hM⟩ := hC mid _ M r M1 hcall
        rw [hmt] at hM
        have hk : N L (r.toList ++ rest) M1 = some X := by cases r <;> exact h
        have hM1 : M1.1 ≤ X.2.1 := hmN _ _ _ _ _ hk
        have b1 := gm_sl_mono _ _ hn
        have b2 := gm_sl_mono _ _ hle
        have b3 := gm_sl_mono _ _ hM1
        obtain ⟨i, rfl, hi, hsh⟩ := gm_isO_spec hO.2
        have hst : st.map (gm_rv ad) = (as.map (gm_rv ad)).reverse ++ (.ref (sz + i) :: rest.map (gm_rv ad)) := by
          have : us = as.reverse ++ [.inr (.inr ((i + 1 : Nat) : Int))] := by
            rw [← List.reverse_reverse us, ← hus1]
            simp
          rw [hus2, this]
          simp only [List.map_append, List.map_cons, List.map_reverse, List.map_nil, List.append_assoc, List.cons_append, List.nil_append]
          rw [gm_ref hadr hi hMN]
        have hlen : (as.map (gm_rv ad)).length = np := by
          have := congrArg List.length hus1
          simp at this
          simp
          omega
        have hav : (List.map (gm_rv ad) (.inr (.inr ((i + 1 : Nat) : Int)) :: as)) = Value.ref (sz + i) :: as.map (gm_rv ad) := by rw [List.map_cons, gm_ref hadr hi hMN]
        unfold gm_C at hM
        rw [hav] at hM
        rw [hst]
        refine gm_run (cc := cc) (r := r) (M1 := M1) (va_runI (As := as.map (gm_rv ad)) (rest := rest.map (gm_rv ad)) ⟨hx, hb, hml, hown, hts⟩ hM (cwI np hts (gm_goodC (pre := []) hcd (fun _ q => absurd q List.not_mem_nil)) rfl rfl rfl (hts _ hini) (hts _ hl) (hts _ him) hyn hd ⟨by show dl + 10 + 1 ≤ R.frames; omega, by show 8 + (maxL + 11) + (dl + 10) * 64 ≤ R.locals; omega⟩) ⟨gm_blind, fun U hU hWU => ⟨rfl, by rw [hU]; exact hW, gm_St_at hSt hS hU hWU⟩⟩ rfl hlen (by rw [show (F0 m pc ls _).locals = ls from rfl]; exact hL.1) rfl (lv_room (by rw [gm_wd_cat]; exact hO.1)) hdg ⟨by omega, by omega⟩) hS (fun H1 locs1 hW1 hS1 => ?_)
        have g := hN L _ M1 hk H1 locs1 ls hW1 hS1 hL (Nat.le_trans hn hle)
        rw [List.map_append] at g
        refine W.cs (cells' := M1.1 - n0) (slots' := gm_sl M1.1 - gm_sl n0) (by omega) (by omega) g
    · cases h
  · cases h

theorem gm_s_icallN {D : va_G} {sz : Nat} {ad : Nat → Nat} {cA : Nat → ClassId} {xs : Int → Int} {Ln : Int} {l : Launch} {mt : gm_MT} {cc : ByteArray} {own : String} {n : Nat} {isI : Bool} {rk : Nat} {bpc : Nat → Nat} {pc : Nat} {mid k np maxL : Nat} {y : MethodName} {bytes : ByteArray} (hmt : mt mid = (y, bytes, maxL, none)) (hmx : maxL ≤ 45) (hcd : Cond.code y bytes maxL none ∈ gm_ok) (hini : Cond.initialized y.cls ∈ gm_ok) (hd : y.cls ≠ "java/lang/invoke/MethodHandle" ∧ y.cls ≠ "java/lang/invoke/VarHandle" ∧ (parseMethodDescriptor y.desc).map (fun d => d.parameters.length) = some np) {ci Nf : Nat} {C : String} {T : u_T} (hc : vwCl[ci]? = some (C, T, Nf)) (hci : ci < 10) {host : String} (hl : (own, k, y, host) ∈ gm_nestM) (him : Cond.instanceMethod y ∈ gm_ok) (hyn : y.name = "<init>") (hdg : decode cc pc = .ok (.invokespecial k, 3)) : gm_S D sz ad cA xs Ln l mt cc own n isI rk bpc pc (pc + 3) (gm_vcall ci mid (np + 1)) := by
  intro dl n0 p e R s m args below meth c Q C J N X hcx hr hC hmJ hmN hN hJ L st M h H locs ls hW hS hL hn
  obtain ⟨hx, hb, hml, hown, hts, hSt, hinit, hroom, hfr, hlo⟩ := id hcx
  have hadr := hSt.2.2.1
  have hMN := hW.2.2.1
  unfold gm_vcall at h
  split at h
  · next o1 as rest hpop =>
    split at h
    · next hO =>
      obtain ⟨us, hus1, hus2, hus3⟩ := gm_pop_spec _ _ _ _ _ hpop
      rw [List.append_nil] at hus1
      cases hcall : C mid (.inr (.inr o1) :: as) M with
      | none => rw [hcall] at h; cases h
      | some q =>
        obtain ⟨r, M1⟩ := q
        rw [hcall] at h
        obtain ⟨hle, hM⟩ := hC mid _ M r M1 hcall
        rw [hmt] at hM
        have hk : N L (r.toList ++ rest) M1 = some X := by cases r <;> exact h
        have hM1 : M1.1 ≤ X.2.1 := hmN _ _ _ _ _ hk
        have b1 := gm_sl_mono _ _ hn
        have b2 := gm_sl_mono _ _ hle
        have b3 := gm_sl_mono _ _ hM1
        obtain ⟨i, rfl, hi, hsh⟩ := gm_isO_spec hO.2
        have hst : st.map (gm_rv ad) = (as.map (gm_rv ad)).reverse ++ (.ref (sz + i) :: rest.map (gm_rv ad)) := by
          have : us = as.reverse ++ [.inr (.inr ((i + 1 : Nat) : Int))] := by
            rw [← List.reverse_reverse us, ← hus1]
            simp
          rw [hus2, this]
          simp only [List.map_append, List.map_cons, List.map_reverse, List.map_nil, List.append_assoc, List.cons_append, List.nil_append]
          rw [gm_ref hadr hi hMN]
        have hlen : (as.map (gm_rv ad)).length = np := by
          have := congrArg List.length hus1
          simp at this
          simp
          omega
        have hav : (List.map (gm_rv ad) (.inr (.inr ((i + 1 : Nat) : Int)) :: as)) = Value.ref (sz + i) :: as.map (gm_rv ad) := by rw [List.map_cons, gm_ref hadr hi hMN]
        unfold gm_C at hM
        rw [hav] at hM
        rw [hst]
        refine gm_run (cc := cc) (r := r) (M1 := M1) (va_runIN (As := as.map (gm_rv ad)) (rest := rest.map (gm_rv ad)) ⟨hx, hb, hml, hown, hts⟩ hM ⟨va_cnB np hts (gm_goodC (pre := []) hcd (fun _ q => absurd q List.not_mem_nil)) rfl rfl rfl (hSt.2.2.2.2.1.1 _ hl) (hts _ hini) hd ⟨by show dl + 10 + 1 ≤ R.frames; omega, by show 8 + (maxL + 11) + (dl + 10) * 64 ≤ R.locals; omega⟩, hyn, hts _ him⟩ ⟨gm_blind, fun U hU hWU => ⟨rfl, by rw [hU]; exact hW, gm_St_at hSt hS hU hWU⟩⟩ rfl hlen (by rw [show (F0 m pc ls _).locals = ls from rfl]; exact hL.1) rfl (lv_room (by rw [gm_wd_cat]; exact hO.1)) hdg ⟨by omega, by omega⟩) hS (fun H1 locs1 hW1 hS1 => ?_)
        have g := hN L _ M1 hk H1 locs1 ls hW1 hS1 hL (Nat.le_trans hn hle)
        rw [List.map_append] at g
        refine W.cs (cells' := M1.1 - n0) (slots' := gm_sl M1.1 - gm_sl n0) (by omega) (by omega) g
    · cases h
  · cases h

theorem gm_s_scall {D : va_G} {sz : Nat} {ad : Nat → Nat} {cA : Nat → ClassId} {xs : Int → Int} {Ln : Int} {l : Launch} {mt : gm_MT} {cc : ByteArray} {own : String} {n : Nat} {isI : Bool} {rk : Nat} {bpc : Nat → Nat} {pc : Nat} {mid k np maxL : Nat} {y : MethodName} {bytes : ByteArray} {ret : Option FieldType} (hmt : mt mid = (y, bytes, maxL, ret)) (hmx : maxL ≤ 45) (hcd : Cond.code y bytes maxL ret ∈ gm_ok) (hini : Cond.initialized y.cls ∈ gm_ok) (hd : y.cls ≠ "java/lang/invoke/MethodHandle" ∧ y.cls ≠ "java/lang/invoke/VarHandle" ∧ (parseMethodDescriptor y.desc).map (fun d => d.parameters.length) = some np) (hpre : ∀ w ∈ ([.methodLink own k y, .static y, .initialized y.cls] : List Cond), w ∈ gm_ok) (hdg : decode cc pc = .ok (.invokestatic k, 3)) : gm_S D sz ad cA xs Ln l mt cc own n isI rk bpc pc (pc + 3) (gm_scall mid np) := by
  intro dl n0 p e R s m args below meth c Q C J N X hcx hr hC hmJ hmN hN hJ L st M h H locs ls hW hS hL hn
  obtain ⟨hx, hb, hml, hown, hts, hSt, hinit, hroom, hfr, hlo⟩ := id hcx
  have hadr := hSt.2.2.1
  have hMN := hW.2.2.1
  unfold gm_scall at h
  split at h
  · next as rest hpop =>
    split at h
    · next hO =>
      obtain ⟨us, hus1, hus2, hus3⟩ := gm_pop_spec _ _ _ _ _ hpop
      rw [List.append_nil] at hus1
      cases hcall : C mid as M with
      | none => rw [hcall] at h; cases h
      | some q =>
        obtain ⟨r, M1⟩ := q
        rw [hcall] at h
        obtain ⟨hle, hM⟩ := hC mid _ M r M1 hcall
        rw [hmt] at hM
        have hk : N L (r.toList ++ rest) M1 = some X := by cases r <;> exact h
        have hM1 : M1.1 ≤ X.2.1 := hmN _ _ _ _ _ hk
        have b1 := gm_sl_mono _ _ hn
        have b2 := gm_sl_mono _ _ hle
        have b3 := gm_sl_mono _ _ hM1
        have hst : st.map (gm_rv ad) = (as.map (gm_rv ad)).reverse ++ rest.map (gm_rv ad) := by
          have : us = as.reverse := by rw [hus1, List.reverse_reverse]
          rw [hus2, this]
          simp only [List.map_append, List.map_reverse]
        have hlen : (as.map (gm_rv ad)).length = np := by
          have := congrArg List.length hus1
          simp at this
          simp
          omega
        unfold gm_C at hM
        rw [hst]
        refine gm_run (cc := cc) (r := r) (M1 := M1) (va_runS (As := as.map (gm_rv ad)) (rest := rest.map (gm_rv ad)) ⟨hx, hb, hml, hown, hts⟩ hM (va_cwS np hts (gm_goodC hcd hpre) rfl rfl rfl hd ⟨by show dl + 10 + 1 ≤ R.frames; omega, by show 8 + (maxL + 11) + (dl + 10) * 64 ≤ R.locals; omega⟩) ⟨gm_blind, fun U hU hWU => ⟨rfl, by rw [hU]; exact hW, gm_St_at hSt hS hU hWU⟩⟩ rfl hlen (by rw [show (F0 m pc ls _).locals = ls from rfl]; exact hL.1) rfl (lv_room (by rw [gm_wd_cat]; exact hO)) hdg ⟨by omega, by omega⟩) hS (fun H1 locs1 hW1 hS1 => ?_)
        have g := hN L _ M1 hk H1 locs1 ls hW1 hS1 hL (Nat.le_trans hn hle)
        rw [List.map_append] at g
        refine W.cs (cells' := M1.1 - n0) (slots' := gm_sl M1.1 - gm_sl n0) (by omega) (by omega) g
    · cases h
  · cases h

theorem gm_s_scallN {D : va_G} {sz : Nat} {ad : Nat → Nat} {cA : Nat → ClassId} {xs : Int → Int} {Ln : Int} {l : Launch} {mt : gm_MT} {cc : ByteArray} {own : String} {n : Nat} {isI : Bool} {rk : Nat} {bpc : Nat → Nat} {pc : Nat} {mid k np maxL : Nat} {y : MethodName} {bytes : ByteArray} {ret : Option FieldType} (hmt : mt mid = (y, bytes, maxL, ret)) (hmx : maxL ≤ 45) (hcd : Cond.code y bytes maxL ret ∈ gm_ok) (hini : Cond.initialized y.cls ∈ gm_ok) (hd : y.cls ≠ "java/lang/invoke/MethodHandle" ∧ y.cls ≠ "java/lang/invoke/VarHandle" ∧ (parseMethodDescriptor y.desc).map (fun d => d.parameters.length) = some np) {host : String} (hl : (own, k, y, host) ∈ gm_nestM) (hstt : Cond.static y ∈ gm_ok) (hdg : decode cc pc = .ok (.invokestatic k, 3)) : gm_S D sz ad cA xs Ln l mt cc own n isI rk bpc pc (pc + 3) (gm_scall mid np) := by
  intro dl n0 p e R s m args below meth c Q C J N X hcx hr hC hmJ hmN hN hJ L st M h H locs ls hW hS hL hn
  obtain ⟨hx, hb, hml, hown, hts, hSt, hinit, hroom, hfr, hlo⟩ := id hcx
  have hadr := hSt.2.2.1
  have hMN := hW.2.2.1
  unfold gm_scall at h
  split at h
  · next as rest hpop =>
    split at h
    · next hO =>
      obtain ⟨us, hus1, hus2, hus3⟩ := gm_pop_spec _ _ _ _ _ hpop
      rw [List.append_nil] at hus1
      cases hcall : C mid as M with
      | none => rw [hcall] at h; cases h
      | some q =>
        obtain ⟨r, M1⟩ := q
        rw [hcall] at h
        obtain ⟨hle, hM⟩ := hC mid _ M r M1 hcall
        rw [hmt] at hM
        have hk : N L (r.toList ++ rest) M1 = some X := by cases r <;> exact h
        have hM1 : M1.1 ≤ X.2.1 := hmN _ _ _ _ _ hk
        have b1 := gm_sl_mono _ _ hn
        have b2 := gm_sl_mono _ _ hle
        have b3 := gm_sl_mono _ _ hM1
        have hst : st.map (gm_rv ad) = (as.map (gm_rv ad)).reverse ++ rest.map (gm_rv ad) := by
          have : us = as.reverse := by rw [hus1, List.reverse_reverse]
          rw [hus2, this]
          simp only [List.map_append, List.map_reverse]
        have hlen : (as.map (gm_rv ad)).length = np := by
          have := congrArg List.length hus1
          simp at this
          simp
          omega
        unfold gm_C at hM
        rw [hst]
        refine gm_run (cc := cc) (r := r) (M1 := M1) (va_runSN (As := as.map (gm_rv ad)) (rest := rest.map (gm_rv ad)) ⟨hx, hb, hml, hown, hts⟩ hM ⟨va_cnB np hts (gm_goodC (pre := []) hcd (fun _ q => absurd q List.not_mem_nil)) rfl rfl rfl (hSt.2.2.2.2.1.1 _ hl) (hts _ hini) hd ⟨by show dl + 10 + 1 ≤ R.frames; omega, by show 8 + (maxL + 11) + (dl + 10) * 64 ≤ R.locals; omega⟩, hts _ hstt, trivial⟩ ⟨gm_blind, fun U hU hWU => ⟨rfl, by rw [hU]; exact hW, gm_St_at hSt hS hU hWU⟩⟩ rfl hlen (by rw [show (F0 m pc ls _).locals = ls from rfl]; exact hL.1) rfl (lv_room (by rw [gm_wd_cat]; exact hO)) hdg ⟨by omega, by omega⟩) hS (fun H1 locs1 hW1 hS1 => ?_)
        have g := hN L _ M1 hk H1 locs1 ls hW1 hS1 hL (Nat.le_trans hn hle)
        rw [List.map_append] at g
        refine W.cs (cells' := M1.1 - n0) (slots' := gm_sl M1.1 - gm_sl n0) (by omega) (by omega) g
    · cases h
  · cases h
