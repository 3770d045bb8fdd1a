/-! GROUND: the model reads what is between, step by step -/
theorem gn_m0_s {t : Int → Int} {n k k2 c : Int} {M0 : gm_M} {d f : Nat} (hd : 4 ≤ d) (hT : gn_Tx t n M0) (hk : 0 ≤ k ∧ k2 ≤ 600 ∧ k2 ≤ k + 100) (hcc : 0 ≤ c ∧ c < 60) (i0 : gn_m0 t n k k2 c M0 d f) (i3 : gn_m3 t n k k2 c M0 d f) : gn_m0 t n k k2 c M0 d (f + 1) := by
  intro dep acc p r q W S X F M h hp hdep hd4 hM hb hF
  have f0 := r_X9_next (D := d) (by omega) (hM.1.Tx hT (by decide)) hM.2.1 hp
  have b0 := gn_ch_b (hM.1.Tx hT (by decide)) hp.1
  have z148 := gm_z148 hM.1.1
  unfold gn_ps at h
  by_cases c0 : gn_ch t n p = 33 ∨ gn_ch t n p = 40
  · rw [if_pos c0] at h
    have p1 := gn_ch_lt (t := t) (n := n) (p := p) (by omega)
    have ho := gn_e_open hd hT hk c0 hM hp hb rfl
    by_cases c1 : 4 ≤ dep
    · rw [if_pos c1] at h
      simp only [Option.some.injEq, Prod.mk.injEq] at h
      obtain ⟨rfl, rfl⟩ := h
      refine ⟨fun e h => by simp at h, fun _ => ⟨M, ?_, hM.1, hM.2.1⟩⟩
      obtain ⟨F, rfl⟩ : ∃ g, F = g + 2 := ⟨F - 2, by omega⟩
      exact ho.2 (by omega) F X
    · rw [if_neg c1] at h
      obtain ⟨M1, e1, g1⟩ := ho.1 (by omega)
      obtain ⟨F, rfl⟩ : ∃ g, F = g + 3 := ⟨F - 3, by omega⟩
      refine gn_mo.pre (e1 F X) ?_
      have hdep1 : dep + 1 = gn_op (gn_ch t n p :: W) := by
        show dep + 1 = gn_op W + (if gn_ch t n p = 33 ∨ gn_ch t n p = 40 then 1 else 0)
        rw [if_pos c0, hdep]
      by_cases c2 : gn_ch t n p = 40
      · rw [if_pos c2] at h
        rw [c2] at g1 hdep1
        rcases hy : gn_ps t n f 3 (dep + 1) acc (p + 1) with _ | ⟨_ | e, q'⟩
        · rw [hy] at h; simp at h
        · rw [hy] at h
          simp only [Option.some.injEq, Prod.mk.injEq] at h
          obtain ⟨rfl, rfl⟩ := h
          have i := i3 (dep + 1) acc (p + 1) none q' (40 :: W) S (some (.inl (gn_ch t n p))) F M1 hy (by omega) hdep1 (by omega) (Or.inr ⟨W, rfl⟩) g1 (by simp only [List.length_cons]; omega) (by omega)
          exact ⟨fun e h => by simp at h, i.2⟩
        · rw [hy] at h
          obtain ⟨a1, a2, a3⟩ := gn_ps_b _ _ _ _ _ _ _ hy (by omega)
          have a4 := (a3 e rfl).1 (by decide)
          have i := i3 (dep + 1) acc (p + 1) (some e) q' (40 :: W) S (some (.inl (gn_ch t n p))) F M1 hy (by omega) hdep1 (by omega) (Or.inr ⟨W, rfl⟩) g1 (by simp only [List.length_cons]; omega) (by omega)
          obtain ⟨F2, X2, M2, hF2, e2, P, S1, hP, g2, hS, n38, n124⟩ := i.1 e rfl
          have hlen : (S1.length : Int) + (P.length : Int) = (S.length : Int) + gn_sz e := by
            have := congrArg List.length hS
            have h3 := a4.1.2.2.1
            simp only [List.length_append, List.length_map] at this
            omega
          have hend := gn_e_end hd hT hk hcc g2 (show 0 ≤ q' ∧ q' ≤ n by omega) (by simp only [List.length_append, List.length_cons]; omega) ⟨n38, n124⟩ (gn_sp_app (gn_sp_no (by decide)) P hP)
          by_cases c3 : gn_ch t n q' = 41
          · have q1 := gn_ch_lt (t := t) (n := n) (p := q') (by omega)
            simp only [if_pos c3, Option.some.injEq, Prod.mk.injEq] at h
            obtain ⟨rfl, rfl⟩ := h
            obtain ⟨M3, e3, g3⟩ := hend.1 W rfl c3
            obtain ⟨F2, rfl⟩ : ∃ g, F2 = g + 5 := ⟨F2 - 5, by omega⟩
            refine ⟨fun e' h => ?_, fun h => by simp at h⟩
            obtain rfl := Option.some.inj h
            refine ⟨F2, _, M3, by omega, e2.trans (e3 F2 X2), ?_⟩
            rw [hS] at g3
            exact g3
          · simp only [if_neg c3, Option.some.injEq, Prod.mk.injEq] at h
            obtain ⟨rfl, rfl⟩ := h
            obtain ⟨M3, e3, g3, g4⟩ := hend.2.1 W rfl c3
            obtain ⟨F2, rfl⟩ : ∃ g, F2 = g + 4 := ⟨F2 - 4, by omega⟩
            exact ⟨fun e' h => by simp at h, fun _ => ⟨M3, e2.trans (e3 F2 X2), g3, g4⟩⟩
      · rw [if_neg c2] at h
        have c3 : gn_ch t n p = 33 := by omega
        rw [c3] at g1 hdep1
        rcases hy : gn_ps t n f 0 (dep + 1) acc (p + 1) with _ | ⟨_ | e, q'⟩
        · rw [hy] at h; simp at h
        · rw [hy] at h
          simp only [Option.some.injEq, Prod.mk.injEq] at h
          obtain ⟨rfl, rfl⟩ := h
          have i := i0 (dep + 1) acc (p + 1) none q' (33 :: W) S (some (.inl (gn_ch t n p))) F M1 hy (by omega) hdep1 (by omega) g1 (by simp only [List.length_cons]; omega) (by omega)
          exact ⟨fun e h => by simp at h, i.2⟩
        · rw [hy] at h
          simp only [Option.some.injEq, Prod.mk.injEq] at h
          obtain ⟨rfl, rfl⟩ := h
          have i := i0 (dep + 1) acc (p + 1) (some e) q' (33 :: W) S (some (.inl (gn_ch t n p))) F M1 hy (by omega) hdep1 (by omega) g1 (by simp only [List.length_cons]; omega) (by omega)
          refine ⟨fun e' h => ?_, fun h => by simp at h⟩
          obtain rfl := Option.some.inj h
          obtain ⟨F2, X2, M2, hF2, e2, g2⟩ := i.1 e rfl
          refine ⟨F2, X2, M2, hF2, e2, ?_⟩
          have x1 : gn_sw (33 :: W) = gn_sw W := by show (if (33 : Int) = 33 then gn_sw W else 33 :: W) = _; rw [if_pos rfl]
          have x2 : gn_se (33 :: W) = -33 :: gn_se W := by show (if (33 : Int) = 33 then -33 :: gn_se W else []) = _; rw [if_pos rfl]
          rw [x1, x2] at g2
          show gn_Mq 161 k k2 c (c + 1) M0 M2 q' (gn_sw W) (S ++ (gn_Xr e ++ [-33]) ++ gn_se W)
          rw [show S ++ (gn_Xr e ++ [-33]) ++ gn_se W = S ++ gn_Xr e ++ -33 :: gn_se W by simp]
          exact g2
  · rw [if_neg c0] at h
    simp only [Option.some.injEq] at h
    obtain ⟨k1, k3⟩ := r_X9_takesTest (D := d) hd (a1 := 161) (by decide) hT hk hM hp hb
    obtain ⟨F, rfl⟩ : ∃ g, F = g + 2 := ⟨F - 2, by omega⟩
    have tb := gn_ts_b (t := t) hp.2
    rw [h] at tb
    generalize hx : gn_ch t n p = x at *
    have n1 : ¬ x = 33 := by omega
    have n2 : ¬ x = 40 := by omega
    refine ⟨fun e he => ?_, fun he => ?_⟩
    · subst he
      obtain ⟨M', e1, g1⟩ := k1 e q h
      have := (tb.2.2 e rfl).2
      have := (tb.2.2 e rfl).1.1
      have tb1 : p ≤ q := tb.1
      refine ⟨F, some (.inl x), M', by omega, ?_, g1⟩
      unfold gn_ml
      rw [xX9_takesE_1]
      simp (config := { maxSteps := 2000000 }) (disch := first | omega | assumption | (simp only [gm_isO_sF, gm_isO_sA, gm_isO_cp]; assumption)) only [gm_push, gm_iload, gm_lload, gm_aload, gm_istore, gm_astore, gm_iinc, gm_op2, gm_quo, gm_op1, gm_lop2, gm_lshl, gm_i2l, gm_l2i, gm_lcmp, gm_dup, gm_pop1, gm_dup2, gm_goto, gm_ifeq, gm_ifne, gm_iflt, gm_ifge, gm_ifgt, gm_ifle, gm_ceq, gm_cne, gm_clt, gm_cge, gm_cgt, gm_cle, gm_ifnull, gm_ifnonnull, gm_swk, gm_switch, gm_getI, gm_getR, gm_putI, gm_putZ, gm_putR, gm_new, gm_newarr, gm_iald, gm_cald, gm_zald, gm_lald, gm_aald, gm_iast, gm_cast, gm_zast, gm_last, gm_aast, gm_acp, gm_oinit, gm_back, gm_scall, gm_vcall, gm_iret, gm_zret, gm_cret, gm_lret, gm_aret, gm_vret, gm_slen, gm_schar, gm_sidx, gm_lget, gm_lset, gm_nl, gm_ent, gm_wd, gm_pop, gm_pad, gm_xl_c, gm_alen_u, gm_1_sF, gm_1_sA, gm_1_cp, gm_len_sF, gm_len_sA, gm_len_cp, Bool.or_true, Bool.true_or, gm_max_u, gm_min_u, gm_isO_sF, gm_isO_sA, gm_isO_cp, gm_gF_sF, gm_gF_sA, gm_gA_sF, gm_gA_sA, gm_gF_cp, gm_gA_cp, gm_add, gm_sub, gm_mul, gm_neg, ↓reduceIte, Nat.reduceAdd, Nat.reduceLeDiff, true_and, and_true, and_self, true_or, or_true, false_and, and_false, false_or, or_false, eq_self, Nat.reduceEqDiff, Int.reduceEq, Int.reduceLT, Int.reduceLE, Int.reduceNeg, Int.reduceAdd, Int.reduceSub, Int.reduceMul, Int.reduceDiv, Int.reduceMod, reduceCtorEq, if_true, if_false, gm_w_id, xX9_takesE_0, xX9_takesE_2, xX9_takesE_3, xX9_takesE_4, xX9_takesE_5, xX9_takesE_6, xX9_takesE_7, xX9_takesE_8, xX9_takesE_9, xX9_takesE_10, z148, f0, n1, n2, e1]
    · subst he
      obtain ⟨M', e1, g1, g2⟩ := k3 q h
      obtain ⟨F, rfl⟩ : ∃ g, F = g + 1 := ⟨F - 1, by omega⟩
      refine ⟨M', ?_, g1, g2⟩
      unfold gn_ml
      rw [xX9_takesE_1]
      simp (config := { maxSteps := 2000000 }) (disch := first | omega | assumption | (simp only [gm_isO_sF, gm_isO_sA, gm_isO_cp]; assumption)) only [gm_push, gm_iload, gm_lload, gm_aload, gm_istore, gm_astore, gm_iinc, gm_op2, gm_quo, gm_op1, gm_lop2, gm_lshl, gm_i2l, gm_l2i, gm_lcmp, gm_dup, gm_pop1, gm_dup2, gm_goto, gm_ifeq, gm_ifne, gm_iflt, gm_ifge, gm_ifgt, gm_ifle, gm_ceq, gm_cne, gm_clt, gm_cge, gm_cgt, gm_cle, gm_ifnull, gm_ifnonnull, gm_swk, gm_switch, gm_getI, gm_getR, gm_putI, gm_putZ, gm_putR, gm_new, gm_newarr, gm_iald, gm_cald, gm_zald, gm_lald, gm_aald, gm_iast, gm_cast, gm_zast, gm_last, gm_aast, gm_acp, gm_oinit, gm_back, gm_scall, gm_vcall, gm_iret, gm_zret, gm_cret, gm_lret, gm_aret, gm_vret, gm_slen, gm_schar, gm_sidx, gm_lget, gm_lset, gm_nl, gm_ent, gm_wd, gm_pop, gm_pad, gm_xl_c, gm_alen_u, gm_1_sF, gm_1_sA, gm_1_cp, gm_len_sF, gm_len_sA, gm_len_cp, Bool.or_true, Bool.true_or, gm_max_u, gm_min_u, gm_isO_sF, gm_isO_sA, gm_isO_cp, gm_gF_sF, gm_gF_sA, gm_gA_sF, gm_gA_sA, gm_gF_cp, gm_gA_cp, gm_add, gm_sub, gm_mul, gm_neg, ↓reduceIte, Nat.reduceAdd, Nat.reduceLeDiff, true_and, and_true, and_self, true_or, or_true, false_and, and_false, false_or, or_false, eq_self, Nat.reduceEqDiff, Int.reduceEq, Int.reduceLT, Int.reduceLE, Int.reduceNeg, Int.reduceAdd, Int.reduceSub, Int.reduceMul, Int.reduceDiv, Int.reduceMod, reduceCtorEq, if_true, if_false, gm_w_id, xX9_takesE_0, xX9_takesE_2, xX9_takesE_3, xX9_takesE_4, xX9_takesE_5, xX9_takesE_6, xX9_takesE_7, xX9_takesE_8, xX9_takesE_9, xX9_takesE_10, z148, f0, n1, n2, e1]
theorem gn_mo.seq {n k k2 c w q q' : Int} {M0 M : gm_M} {d F : Nat} {X : Option gm_V} {e : gn_X} {r : Option gn_X} {Q Q' : gn_X → gm_M → Prop} (h : gn_mo n k k2 c M0 d F w X M (some e) q' Q') (g : ∀ (F' : Nat) (X' : Option gm_V) (M' : gm_M), 10 * (n - q') + 10 ≤ (F' : Int) → Q' e M' → gn_mo n k k2 c M0 d F' 0 X' M' r q Q) : gn_mo n k k2 c M0 d F w X M r q Q := by
  obtain ⟨F', X', M', hF, e1, hQ⟩ := h.1 e rfl
  exact (g F' X' M' hF hQ).pre e1
theorem gn_mo.no {n k k2 c w q : Int} {M0 M : gm_M} {d F : Nat} {X : Option gm_V} {Q Q' : gn_X → gm_M → Prop} (h : gn_mo n k k2 c M0 d F w X M none q Q') : gn_mo n k k2 c M0 d F w X M none q Q := ⟨fun e h => by simp at h, h.2⟩
theorem gn_m1_s {t : Int → Int} {n k k2 c : Int} {M0 : gm_M} {d f : Nat} (i0 : gn_m0 t n k k2 c M0 d f) (i2 : gn_m2 t n k k2 c M0 d f) : gn_m1 t n k k2 c M0 d (f + 1) := by
  intro dep acc p r q W S X F M h hp hdep hd4 hW hM hb hF
  unfold gn_ps at h
  rcases hy : gn_ps t n f 0 dep acc p with _ | ⟨_ | e, q'⟩
  · rw [hy] at h; simp at h
  · rw [hy] at h
    simp only [Option.some.injEq, Prod.mk.injEq] at h
    obtain ⟨rfl, rfl⟩ := h
    exact (i0 dep acc p none q' W S X F M hy hp hdep hd4 hM hb hF).no
  · rw [hy] at h
    obtain ⟨a1, a2, a3⟩ := gn_ps_b _ _ _ _ _ _ _ hy hp.2
    have a4 := (a3 e rfl).1 (by decide)
    have a5 := a4.1.2.2.1
    refine (i0 dep acc p (some e) q' W S X F M hy hp hdep hd4 hM hb hF).seq (fun F' X' M' hF' hQ => ?_)
    rw [hW.w.1, hW.w.2, List.append_nil] at hQ
    exact i2 dep e q' r q [] W (S ++ gn_Xr e) S X' F' M' h (by omega) hdep hd4 hW (Or.inl rfl) hQ (by simp) a4.1 (by simp only [List.length_append, List.nil_append]; omega) hF'
theorem gn_m2_s {t : Int → Int} {n k k2 c : Int} {M0 : gm_M} {d f : Nat} (hd : 4 ≤ d) (hT : gn_Tx t n M0) (hk : 0 ≤ k ∧ k2 ≤ 600 ∧ k2 ≤ k + 100) (i0 : gn_m0 t n k k2 c M0 d f) (i2 : gn_m2 t n k k2 c M0 d f) : gn_m2 t n k k2 c M0 d (f + 1) := by
  intro dep acc p r q P W S1 S X F M h hp hdep hd4 hW hP hM hS hx hb hF
  unfold gn_ps at h
  by_cases c1 : gn_ch t n p = 38
  · rw [if_pos c1] at h
    have p1 := gn_ch_lt (t := t) (n := n) (p := p) (by omega)
    have hPs : ∀ x ∈ P, x = 38 ∨ x = 124 ∧ (38 : Int) ≠ 38 := by
      rcases hP with rfl | rfl
      · simp
      · simp
    obtain ⟨M1, e1, g1⟩ := gn_e_op hd hT hk (Or.inl rfl) hM hp hb c1 (gn_sp_app hW.s P hPs)
    rw [hS] at g1
    obtain ⟨F, rfl⟩ : ∃ g, F = g + 3 := ⟨F - 3, by omega⟩
    refine gn_mo.pre (e1 F X) ?_
    have hl : ((S ++ gn_Xr acc).length : Int) = (S1.length : Int) + (P.length : Int) := by rw [← hS]; simp
    have hb' : k + ((S ++ gn_Xr acc).length : Int) + (((38 : Int) :: W).length : Int) + (n - (p + 1)) ≤ k2 := by
      simp only [List.length_append, List.length_cons] at hb hl ⊢
      omega
    rcases hy : gn_ps t n f 0 dep acc (p + 1) with _ | ⟨_ | e, q'⟩
    · rw [hy] at h; simp at h
    · rw [hy] at h
      simp only [Option.some.injEq, Prod.mk.injEq] at h
      obtain ⟨rfl, rfl⟩ := h
      exact (i0 dep acc (p + 1) none q' (38 :: W) _ _ F M1 hy (by omega) (by rw [gn_op_c (Or.inl rfl)]; exact hdep) hd4 g1 hb' (by omega)).no
    · rw [hy] at h
      obtain ⟨a1, a2, a3⟩ := gn_ps_b _ _ _ _ _ _ _ hy (by omega)
      have a4 := (a3 e rfl).1 (by decide)
      have a5 := a4.1.2.2.1
      refine (i0 dep acc (p + 1) (some e) q' (38 :: W) _ _ F M1 hy (by omega) (by rw [gn_op_c (Or.inl rfl)]; exact hdep) hd4 g1 hb' (by omega)).seq (fun F' X' M' hF' hQ => ?_)
      have x1 : gn_sw (38 :: W) = [38] ++ W := rfl
      have x2 : gn_se (38 :: W) = [] := rfl
      rw [x1, x2, List.append_nil] at hQ
      refine i2 dep (gn_Xa acc e) q' r q [38] W (S ++ gn_Xr acc ++ gn_Xr e) S X' F' M' h (by omega) hdep hd4 hW (Or.inr rfl) hQ ?_ (gn_okx_a hx a4.1) ?_ hF'
      · show S ++ gn_Xr acc ++ gn_Xr e ++ [-38] = S ++ (gn_Xr acc ++ gn_Xr e ++ [-38])
        simp
      · simp only [List.length_append, List.length_cons, List.length_nil] at hb' ⊢
        omega
  · rw [if_neg c1] at h
    simp only [Option.some.injEq, Prod.mk.injEq] at h
    obtain ⟨rfl, rfl⟩ := h
    refine ⟨fun e h => ?_, fun h => by simp at h⟩
    obtain rfl := Option.some.inj h
    exact ⟨F, X, M, hF, rfl, P, S1, hP, hM, hS, c1⟩
theorem gn_m3_s {t : Int → Int} {n k k2 c : Int} {M0 : gm_M} {d f : Nat} (i1 : gn_m1 t n k k2 c M0 d f) (i4 : gn_m4 t n k k2 c M0 d f) : gn_m3 t n k k2 c M0 d (f + 1) := by
  intro dep acc p r q W S X F M h hp hdep hd4 hW hM hb hF
  unfold gn_ps at h
  rcases hy : gn_ps t n f 1 dep acc p with _ | ⟨_ | e, q'⟩
  · rw [hy] at h; simp at h
  · rw [hy] at h
    simp only [Option.some.injEq, Prod.mk.injEq] at h
    obtain ⟨rfl, rfl⟩ := h
    exact (i1 dep acc p none q' W S X F M hy hp hdep hd4 hW.o hM hb hF).no
  · rw [hy] at h
    obtain ⟨a1, a2, a3⟩ := gn_ps_b _ _ _ _ _ _ _ hy hp.2
    have a4 := (a3 e rfl).1 (by decide)
    have a5 := a4.1.2.2.1
    refine (i1 dep acc p (some e) q' W S X F M hy hp hdep hd4 hW.o hM hb hF).seq (fun F' X' M' hF' hQ => ?_)
    obtain ⟨P, S1, hP, g, hS, n38⟩ := hQ
    have hl : (S1.length : Int) + (P.length : Int) = (S.length : Int) + gn_sz e := by
      have := congrArg List.length hS
      simp only [List.length_append, List.length_map] at this
      omega
    exact i4 dep e q' r q P W S1 S X' F' M' h (by omega) hdep hd4 hW (by rcases hP with rfl | rfl <;> simp) g hS a4.1 n38 (by simp only [List.length_append]; omega) hF'
theorem gn_m4_s {t : Int → Int} {n k k2 c : Int} {M0 : gm_M} {d f : Nat} (hd : 4 ≤ d) (hT : gn_Tx t n M0) (hk : 0 ≤ k ∧ k2 ≤ 600 ∧ k2 ≤ k + 100) (i1 : gn_m1 t n k k2 c M0 d f) (i4 : gn_m4 t n k k2 c M0 d f) : gn_m4 t n k k2 c M0 d (f + 1) := by
  intro dep acc p r q P W S1 S X F M h hp hdep hd4 hW hP hM hS hx n38 hb hF
  unfold gn_ps at h
  by_cases c1 : gn_ch t n p = 124
  · rw [if_pos c1] at h
    have p1 := gn_ch_lt (t := t) (n := n) (p := p) (by omega)
    obtain ⟨M1, e1, g1⟩ := gn_e_op hd hT hk (Or.inr rfl) hM hp hb c1 (gn_sp_app hW.s P hP)
    rw [hS] at g1
    obtain ⟨F, rfl⟩ : ∃ g, F = g + 3 := ⟨F - 3, by omega⟩
    refine gn_mo.pre (e1 F X) ?_
    have hl : ((S ++ gn_Xr acc).length : Int) = (S1.length : Int) + (P.length : Int) := by rw [← hS]; simp
    have hb' : k + ((S ++ gn_Xr acc).length : Int) + (((124 : Int) :: W).length : Int) + (n - (p + 1)) ≤ k2 := by
      simp only [List.length_append, List.length_cons] at hb hl ⊢
      omega
    rcases hy : gn_ps t n f 1 dep acc (p + 1) with _ | ⟨_ | e, q'⟩
    · rw [hy] at h; simp at h
    · rw [hy] at h
      simp only [Option.some.injEq, Prod.mk.injEq] at h
      obtain ⟨rfl, rfl⟩ := h
      exact (i1 dep acc (p + 1) none q' (124 :: W) _ _ F M1 hy (by omega) (by rw [gn_op_c (Or.inr rfl)]; exact hdep) hd4 (Or.inr (Or.inr ⟨W, rfl⟩)) g1 hb' (by omega)).no
    · rw [hy] at h
      obtain ⟨a1, a2, a3⟩ := gn_ps_b _ _ _ _ _ _ _ hy (by omega)
      have a4 := (a3 e rfl).1 (by decide)
      have a5 := a4.1.2.2.1
      refine (i1 dep acc (p + 1) (some e) q' (124 :: W) _ _ F M1 hy (by omega) (by rw [gn_op_c (Or.inr rfl)]; exact hdep) hd4 (Or.inr (Or.inr ⟨W, rfl⟩)) g1 hb' (by omega)).seq (fun F' X' M' hF' hQ => ?_)
      obtain ⟨P', S1', hP', g', hS', n38'⟩ := hQ
      have hl' : (S1'.length : Int) + (P'.length : Int) = ((S ++ gn_Xr acc).length : Int) + gn_sz e := by
        have := congrArg List.length hS'
        simp only [List.length_append, List.length_map] at this ⊢
        omega
      have g2 : gn_Mq 161 k k2 c (c + 1) M0 M' q' ((P' ++ [124]) ++ W) S1' := by rw [List.append_assoc]; exact g'
      refine i4 dep (gn_Xo acc e) q' r q (P' ++ [124]) W S1' S X' F' M' h (by omega) hdep hd4 hW ?_ g2 ?_ (gn_okx_o hx a4.1) n38' ?_ hF'
      · rcases hP' with rfl | rfl <;> simp
      · rw [List.map_append, ← List.append_assoc, hS']
        show S ++ gn_Xr acc ++ gn_Xr e ++ [-124] = S ++ (gn_Xr acc ++ gn_Xr e ++ [-124])
        simp
      · simp only [List.length_append, List.length_cons, List.length_nil] at hb' hl' ⊢
        omega
  · rw [if_neg c1] at h
    simp only [Option.some.injEq, Prod.mk.injEq] at h
    obtain ⟨rfl, rfl⟩ := h
    refine ⟨fun e h => ?_, fun h => by simp at h⟩
    obtain rfl := Option.some.inj h
    exact ⟨F, X, M, hF, rfl, P, S1, hP, hM, hS, n38, c1⟩
theorem gn_mx {t : Int → Int} {n k k2 c : Int} {M0 : gm_M} {d : Nat} (hd : 4 ≤ d) (hT : gn_Tx t n M0) (hk : 0 ≤ k ∧ k2 ≤ 600 ∧ k2 ≤ k + 100) (hcc : 0 ≤ c ∧ c < 60) : ∀ f : Nat, gn_m0 t n k k2 c M0 d f ∧ gn_m1 t n k k2 c M0 d f ∧ gn_m2 t n k k2 c M0 d f ∧ gn_m3 t n k k2 c M0 d f ∧ gn_m4 t n k k2 c M0 d f := by
  intro f
  induction f with
  | zero =>
    exact ⟨fun _ _ _ _ _ _ _ _ _ _ h => by simp [gn_ps] at h, fun _ _ _ _ _ _ _ _ _ _ h => by simp [gn_ps] at h, fun _ _ _ _ _ _ _ _ _ _ _ _ h => by simp [gn_ps] at h, fun _ _ _ _ _ _ _ _ _ _ h => by simp [gn_ps] at h, fun _ _ _ _ _ _ _ _ _ _ _ _ h => by simp [gn_ps] at h⟩
  | succ f ih =>
    obtain ⟨i0, i1, i2, i3, i4⟩ := ih
    exact ⟨gn_m0_s hd hT hk hcc i0 i3, gn_m1_s i0 i2, gn_m2_s hd hT hk i0 i2, gn_m3_s i1 i4, gn_m4_s hd hT hk i1 i4⟩
/-- what is between, from the start -/
theorem r_X9_takesE {D : Nat} (hD : 5 ≤ D) {t : Int → Int} {n k k2 c p : Int} {M : gm_M} (hT : gn_Tx t n M) (e912 : gm_gF M 912 148 = p) (e922 : gm_gF M 922 148 = k) (hk : 0 ≤ k ∧ k2 ≤ 600 ∧ k2 ≤ k + 100) (hcc : 0 ≤ c ∧ c < 60) (hp : 0 ≤ p ∧ p ≤ n) (hb : k + (n - p) ≤ k2) {r : Option gn_X} {q : Int} (h : gn_ps t n 403 3 0 (gn_Xt 0 0 0) p = some (r, q)) :
    ∃ M', gm_go D 117 [.inr (.inr 148), .inl c] M = some (some (.inl (gn_ok r)), M') ∧ gn_Mw 160 k k2 c (c + 1) M M' ∧ gm_gF M' 912 148 = q ∧ ∀ e, r = some e → gm_gF M' 922 148 = k + gn_sz e ∧ gm_gA M' 160 c = k ∧ gm_gA M' 161 c = k + gn_sz e ∧ gn_at (gm_gA M' 162) k (gn_Xr e) := by
  obtain ⟨d, rfl⟩ : ∃ g, D = g + 1 := ⟨D - 1, by omega⟩
  have hL := hT.1
  have z148 := gm_z148 hL
  have z160 := gm_z160 hL
  have l918 := gm_l918 hL
  have hin := gn_i160 (gm_sF (gm_sF M 923 148 0) 924 148 0) hcc.1 hcc.2
  have g0 : gn_Mw 160 k k2 c (c + 1) M (gm_sA (gm_sF (gm_sF M 923 148 0) 924 148 0) 160 c k) := (((gn_Mw.rf hL).sF (by decide)).sF (by decide)).s4 (by decide) (by omega)
  have hT0 := g0.Tx hT (by decide)
  have hM : gn_Mq 161 k k2 c (c + 1) (gm_sA (gm_sF (gm_sF M 923 148 0) 924 148 0) 160 c k) (gm_sA (gm_sF (gm_sF M 923 148 0) 924 148 0) 160 c k) p [] [] := ⟨gn_Mw.rf hT0.1, e912, by rw [gm_gF_sA, gm_gF_sF, if_neg (by decide), gm_gF_sF, if_neg (by decide), e922]; simp, rfl, rfl, trivial, fun i hi => absurd hi (by simp)⟩
  have hn := hT.2.2.1
  have hi := (gn_mx (d := d) (by omega) hT0 hk hcc 403).2.2.2.1 0 (gn_Xt 0 0 0) p r q [] [] none 99999 _ h hp rfl (by decide) (Or.inl rfl) hM (by simp; omega) (by omega)
  have start : gm_go (d + 1) 117 [.inr (.inr 148), .inl c] M = gm_ex (gm_go d) qX9_takesE 99999 1 (gn_ml c 1 none) [] (gm_sA (gm_sF (gm_sF M 923 148 0) 924 148 0) 160 c k) := by
    rw [eX9_takesE _ _ _ (Nat.le_of_ble_eq_true rfl)]
    unfold gn_ml
    simp (config := { maxSteps := 2000000 }) (disch := first | omega | assumption | (simp only [gm_isO_sF, gm_isO_sA, gm_isO_cp]; assumption)) only [gm_push, gm_iload, gm_lload, gm_aload, gm_istore, gm_astore, gm_iinc, gm_op2, gm_quo, gm_op1, gm_lop2, gm_lshl, gm_i2l, gm_l2i, gm_lcmp, gm_dup, gm_pop1, gm_dup2, gm_goto, gm_ifeq, gm_ifne, gm_iflt, gm_ifge, gm_ifgt, gm_ifle, gm_ceq, gm_cne, gm_clt, gm_cge, gm_cgt, gm_cle, gm_ifnull, gm_ifnonnull, gm_swk, gm_switch, gm_getI, gm_getR, gm_putI, gm_putZ, gm_putR, gm_new, gm_newarr, gm_iald, gm_cald, gm_zald, gm_lald, gm_aald, gm_iast, gm_cast, gm_zast, gm_last, gm_aast, gm_acp, gm_oinit, gm_back, gm_scall, gm_vcall, gm_iret, gm_zret, gm_cret, gm_lret, gm_aret, gm_vret, gm_slen, gm_schar, gm_sidx, gm_lget, gm_lset, gm_nl, gm_ent, gm_wd, gm_pop, gm_pad, gm_xl_c, gm_alen_u, gm_1_sF, gm_1_sA, gm_1_cp, gm_len_sF, gm_len_sA, gm_len_cp, Bool.or_true, Bool.true_or, gm_max_u, gm_min_u, gm_isO_sF, gm_isO_sA, gm_isO_cp, gm_gF_sF, gm_gF_sA, gm_gA_sF, gm_gA_sA, gm_gF_cp, gm_gA_cp, gm_add, gm_sub, gm_mul, gm_neg, ↓reduceIte, Nat.reduceAdd, Nat.reduceLeDiff, true_and, and_true, and_self, true_or, or_true, false_and, and_false, false_or, or_false, eq_self, Nat.reduceEqDiff, Int.reduceEq, Int.reduceLT, Int.reduceLE, Int.reduceNeg, Int.reduceAdd, Int.reduceSub, Int.reduceMul, Int.reduceDiv, Int.reduceMod, reduceCtorEq, if_true, if_false, gm_w_id, xX9_takesE_0, z148, z160, l918, e922, hin]
  have pb := gn_ps_b _ _ _ _ _ _ _ h hp.2
  have fr : ∀ M', gn_Mw 161 k k2 c (c + 1) (gm_sA (gm_sF (gm_sF M 923 148 0) 924 148 0) 160 c k) M' → gn_Mw 160 k k2 c (c + 1) M M' := fun M' g => g0.tr g ⟨Int.le_refl _, Int.le_refl _⟩ ⟨⟨Int.le_refl _, Int.le_refl _⟩, by decide⟩
  rw [start]
  rcases r with _ | e
  · obtain ⟨M', e1, g1, g2⟩ := hi.2 rfl
    exact ⟨M', e1, fr M' g1, g2, fun e h => by simp at h⟩
  · obtain ⟨F', X', M1, hF, e1, P, S1, hP, g1, hS, n38, n124⟩ := hi.1 e rfl
    have a4 := (pb.2.2 e rfl).1 (by decide)
    have a5 := a4.1.2.2.1
    rw [List.nil_append] at hS
    have hlen : (S1.length : Int) + (P.length : Int) = gn_sz e := by
      have := congrArg List.length hS
      simp only [List.length_append, List.length_map] at this
      omega
    have hend := gn_e_end (d := d) (by omega) hT0 hk hcc g1 (show 0 ≤ q ∧ q ≤ n by omega) (by simp only [List.length_append, List.length_nil]; omega) ⟨n38, n124⟩ (gn_sp_app ⟨rfl, rfl⟩ P hP)
    obtain ⟨M2, e2, g2, g3⟩ := hend.2.2 rfl
    rw [hS] at g2 g3
    obtain ⟨F', rfl⟩ : ∃ g, F' = g + 3 := ⟨F' - 3, by omega⟩
    refine ⟨M2, e1.trans (e2 F' X'), fr M2 g2.1, g2.2.1, fun e' h => ?_⟩
    obtain rfl := Option.some.inj h
    refine ⟨by rw [g2.2.2.1, a5], ?_, by rw [g3, a5], g2.2.2.2.2.2.2⟩
    rw [g2.1.2.2 160 c (by decide) (by omega) (by omega), gm_gA_sA, if_pos ⟨rfl, rfl⟩]
