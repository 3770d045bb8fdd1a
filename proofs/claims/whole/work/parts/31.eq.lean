/-! CALLS UNFOLD, BLOCKS BY NUMBER -/
def qX0_init : Nat → List gm_A := fun b => pX0_init.getD b []
theorem qX0_init_0 : qX0_init 0 = [(gm_aload 0), gm_oinit, (gm_aload 0), (gm_push (.inl 100)), (gm_newarr 20), (gm_putR 0 0), (gm_aload 0), (gm_push (.inl 100)), (gm_newarr 20), (gm_putR 0 1), gm_vret] := rfl
theorem eX0_init (d : Nat) (as : List gm_V) (M : gm_M) (h : gm_wd as ≤ 1) : gm_go (d + 1) 0 as M = gm_ex (gm_go d) qX0_init 100000 0 (gm_pad 1 (gm_ent as)) [] M := if_pos ⟨by decide, h⟩
def qX0_clear : Nat → List gm_A := fun b => pX0_clear.getD b []
theorem qX0_clear_0 : qX0_clear 0 = [(gm_aload 0), (gm_push (.inl 0)), (gm_putI 0 2), (gm_aload 0), (gm_push (.inl 0)), (gm_putZ 0 3), gm_vret] := rfl
theorem eX0_clear (d : Nat) (as : List gm_V) (M : gm_M) (h : gm_wd as ≤ 1) : gm_go (d + 1) 1 as M = gm_ex (gm_go d) qX0_clear 100000 0 (gm_pad 1 (gm_ent as)) [] M := if_pos ⟨by decide, h⟩
def qX0_addStep : Nat → List gm_A := fun b => pX0_addStep.getD b []
theorem qX0_addStep_0 : qX0_addStep 0 = [(gm_aload 0), (gm_getI 0 2), (gm_aload 0), (gm_getR 0 0), gm_alen, (gm_clt 1), (gm_push (.inl (-1))), gm_iret] := rfl
theorem qX0_addStep_1 : qX0_addStep 1 = [(gm_aload 0), (gm_getR 0 0), (gm_aload 0), (gm_getI 0 2), (gm_iload 1), gm_iast, (gm_aload 0), (gm_getR 0 1), (gm_aload 0), (gm_getI 0 2), (gm_iload 2), gm_iast, (gm_aload 0), gm_dup, (gm_getI 0 2), (gm_push (.inl 1)), (gm_op2 gm_add), (gm_putI 0 2), (gm_aload 0), (gm_getI 0 2), (gm_push (.inl 1)), (gm_op2 gm_sub), gm_iret] := rfl
theorem eX0_addStep (d : Nat) (as : List gm_V) (M : gm_M) (h : gm_wd as ≤ 3) : gm_go (d + 1) 2 as M = gm_ex (gm_go d) qX0_addStep 100000 0 (gm_pad 3 (gm_ent as)) [] M := if_pos ⟨by decide, h⟩
def qX0_endClause : Nat → List gm_A := fun b => pX0_endClause.getD b []
theorem qX0_endClause_0 : qX0_endClause 0 = [(gm_aload 0), (gm_push (.inl 21)), (gm_iload 1), (gm_vcall 0 2 3), gm_pop1, (gm_aload 0), (gm_push (.inl 1)), (gm_putZ 0 3), gm_vret] := rfl
theorem eX0_endClause (d : Nat) (as : List gm_V) (M : gm_M) (h : gm_wd as ≤ 2) : gm_go (d + 1) 3 as M = gm_ex (gm_go d) qX0_endClause 100000 0 (gm_pad 2 (gm_ent as)) [] M := if_pos ⟨by decide, h⟩
def qX0_landHere : Nat → List gm_A := fun b => pX0_landHere.getD b []
theorem qX0_landHere_0 : qX0_landHere 0 = [(gm_iload 1), (gm_iflt 1), (gm_iload 1), (gm_aload 0), (gm_getI 0 2), (gm_cge 1), (gm_aload 0), (gm_getR 0 1), (gm_iload 1), (gm_aload 0), (gm_getI 0 2), gm_iast, (gm_goto 1)] := rfl
theorem qX0_landHere_1 : qX0_landHere 1 = [gm_vret] := rfl
theorem eX0_landHere (d : Nat) (as : List gm_V) (M : gm_M) (h : gm_wd as ≤ 2) : gm_go (d + 1) 4 as M = gm_ex (gm_go d) qX0_landHere 100000 0 (gm_pad 2 (gm_ent as)) [] M := if_pos ⟨by decide, h⟩
def qX0_total : Nat → List gm_A := fun b => pX0_total.getD b []
theorem qX0_total_0 : qX0_total 0 = [(gm_aload 0), (gm_getI 0 3), (gm_ifne 1), (gm_push (.inl 10)), gm_iret] := rfl
theorem qX0_total_1 : qX0_total 1 = [(gm_push (.inl 0)), (gm_istore 4), (gm_push (.inl 0)), (gm_istore 5), (gm_push (.inl 0)), (gm_istore 6), (gm_push (.inl 0)), (gm_istore 7), (gm_goto 2)] := rfl
theorem qX0_total_2 : qX0_total 2 = [(gm_iload 7), (gm_aload 0), (gm_getR 0 0), gm_alen, (gm_cge 13), (gm_iload 6), (gm_iflt 13), (gm_iload 6), (gm_aload 0), (gm_getI 0 2), (gm_cge 13), (gm_aload 0), (gm_getR 0 0), (gm_iload 6), gm_iald, (gm_istore 8), (gm_aload 0), (gm_getR 0 1), (gm_iload 6), gm_iald, (gm_istore 9), (gm_iinc 6 1), (gm_iload 8), (gm_push (.inl 18)), (gm_cge 3), (gm_iload 8), (gm_iload 9), (gm_aload 1), (gm_iload 2), (gm_iload 3), (gm_scall 6 5), (gm_istore 5), (gm_goto 12)] := rfl
theorem qX0_total_3 : qX0_total 3 = [(gm_iload 8), (gm_push (.inl 18)), (gm_cne 6), (gm_iload 5), (gm_ifne 4), (gm_push (.inl 1)), (gm_goto 5)] := rfl
theorem qX0_total_4 : qX0_total 4 = [(gm_push (.inl 0)), (gm_goto 5)] := rfl
theorem qX0_total_5 : qX0_total 5 = [(gm_istore 5), (gm_goto 12)] := rfl
theorem qX0_total_6 : qX0_total 6 = [(gm_iload 8), (gm_push (.inl 21)), (gm_cne 9), (gm_iload 4), (gm_iload 5), (gm_ifeq 7), (gm_iload 9), (gm_goto 8)] := rfl
theorem qX0_total_7 : qX0_total 7 = [(gm_push (.inl 0)), (gm_goto 8)] := rfl
theorem qX0_total_8 : qX0_total 8 = [(gm_op2 gm_add), (gm_istore 4), (gm_goto 12)] := rfl
theorem qX0_total_9 : qX0_total 9 = [(gm_iload 5), (gm_iload 8), (gm_push (.inl 19)), (gm_cne 10), (gm_push (.inl 1)), (gm_goto 11)] := rfl
theorem qX0_total_10 : qX0_total 10 = [(gm_push (.inl 0)), (gm_goto 11)] := rfl
theorem qX0_total_11 : qX0_total 11 = [(gm_cne 12), (gm_iload 9), (gm_istore 6), (gm_goto 12)] := rfl
theorem qX0_total_12 : qX0_total 12 = [(gm_iinc 7 1), (gm_goto 2)] := rfl
theorem qX0_total_13 : qX0_total 13 = [(gm_iload 4), gm_iret] := rfl
theorem eX0_total (d : Nat) (as : List gm_V) (M : gm_M) (h : gm_wd as ≤ 10) : gm_go (d + 1) 5 as M = gm_ex (gm_go d) qX0_total 100000 0 (gm_pad 10 (gm_ent as)) [] M := if_pos ⟨by decide, h⟩
def qX0_passes : Nat → List gm_A := fun b => pX0_passes.getD b []
theorem qX0_passes_0 : qX0_passes 0 = [(gm_iload 0), (gm_push (.inl 3)), (gm_quo gm_div), (gm_switch [(0, 1), (1, 2), (2, 3), (3, 4), (4, 5)] 6)] := rfl
theorem qX0_passes_1 : qX0_passes 1 = [(gm_aload 2), (gm_getI 2 200), (gm_istore 5), (gm_goto 7)] := rfl
theorem qX0_passes_2 : qX0_passes 2 = [(gm_aload 2), (gm_getI 2 201), (gm_istore 5), (gm_goto 7)] := rfl
theorem qX0_passes_3 : qX0_passes 3 = [(gm_aload 2), (gm_getI 2 202), (gm_istore 5), (gm_goto 7)] := rfl
theorem qX0_passes_4 : qX0_passes 4 = [(gm_iload 3), (gm_istore 5), (gm_goto 7)] := rfl
theorem qX0_passes_5 : qX0_passes 5 = [(gm_aload 2), (gm_getI 2 203), (gm_push (.inl 10)), (gm_quo gm_div), (gm_istore 5), (gm_goto 7)] := rfl
theorem qX0_passes_6 : qX0_passes 6 = [(gm_iload 4), (gm_push (.inl 10)), (gm_quo gm_div), (gm_istore 5), (gm_goto 7)] := rfl
theorem qX0_passes_7 : qX0_passes 7 = [(gm_iload 0), (gm_push (.inl 3)), (gm_quo gm_rem), (gm_switch [(0, 8), (1, 11)] 14)] := rfl
theorem qX0_passes_8 : qX0_passes 8 = [(gm_iload 5), (gm_iload 1), (gm_cge 9), (gm_push (.inl 1)), (gm_goto 10)] := rfl
theorem qX0_passes_9 : qX0_passes 9 = [(gm_push (.inl 0)), (gm_goto 10)] := rfl
theorem qX0_passes_10 : qX0_passes 10 = [gm_zret] := rfl
theorem qX0_passes_11 : qX0_passes 11 = [(gm_iload 5), (gm_iload 1), (gm_cne 12), (gm_push (.inl 1)), (gm_goto 13)] := rfl
theorem qX0_passes_12 : qX0_passes 12 = [(gm_push (.inl 0)), (gm_goto 13)] := rfl
theorem qX0_passes_13 : qX0_passes 13 = [gm_zret] := rfl
theorem qX0_passes_14 : qX0_passes 14 = [(gm_iload 5), (gm_iload 1), (gm_cle 15), (gm_push (.inl 1)), (gm_goto 16)] := rfl
theorem qX0_passes_15 : qX0_passes 15 = [(gm_push (.inl 0)), (gm_goto 16)] := rfl
theorem qX0_passes_16 : qX0_passes 16 = [gm_zret] := rfl
theorem eX0_passes (d : Nat) (as : List gm_V) (M : gm_M) (h : gm_wd as ≤ 6) : gm_go (d + 1) 6 as M = gm_ex (gm_go d) qX0_passes 100000 0 (gm_pad 6 (gm_ent as)) [] M := if_pos ⟨by decide, h⟩
def qX1_init : Nat → List gm_A := fun b => pX1_init.getD b []
theorem qX1_init_0 : qX1_init 0 = [(gm_aload 0), gm_oinit, (gm_aload 0), (gm_new 0), gm_dup, (gm_vcall 0 0 1), (gm_putR 1 100), (gm_aload 0), (gm_new 0), gm_dup, (gm_vcall 0 0 1), (gm_putR 1 101), (gm_aload 0), (gm_push (.inl 20)), (gm_putI 1 102), (gm_aload 0), (gm_push (.inl 80)), (gm_putI 1 103), gm_vret] := rfl
theorem eX1_init (d : Nat) (as : List gm_V) (M : gm_M) (h : gm_wd as ≤ 1) : gm_go (d + 1) 7 as M = gm_ex (gm_go d) qX1_init 100000 0 (gm_pad 1 (gm_ent as)) [] M := if_pos ⟨by decide, h⟩
def qX1_clear : Nat → List gm_A := fun b => pX1_clear.getD b []
theorem qX1_clear_0 : qX1_clear 0 = [(gm_aload 0), (gm_getR 1 100), (gm_vcall 0 1 1), (gm_aload 0), (gm_getR 1 101), (gm_vcall 0 1 1), (gm_aload 0), (gm_push (.inl 20)), (gm_putI 1 102), (gm_aload 0), (gm_push (.inl 80)), (gm_putI 1 103), gm_vret] := rfl
theorem eX1_clear (d : Nat) (as : List gm_V) (M : gm_M) (h : gm_wd as ≤ 1) : gm_go (d + 1) 8 as M = gm_ex (gm_go d) qX1_clear 100000 0 (gm_pad 1 (gm_ent as)) [] M := if_pos ⟨by decide, h⟩
def qX1_sunOver : Nat → List gm_A := fun b => pX1_sunOver.getD b []
theorem qX1_sunOver_0 : qX1_sunOver 0 = [(gm_iload 2), (gm_scall 90 1), (gm_ifeq 1), (gm_aload 0), (gm_getR 1 100), (gm_aload 1), (gm_iload 2), (gm_iload 3), (gm_vcall 0 5 4), (gm_goto 2)] := rfl
theorem qX1_sunOver_1 : qX1_sunOver 1 = [(gm_push (.inl 0)), (gm_goto 2)] := rfl
theorem qX1_sunOver_2 : qX1_sunOver 2 = [gm_iret] := rfl
theorem eX1_sunOver (d : Nat) (as : List gm_V) (M : gm_M) (h : gm_wd as ≤ 4) : gm_go (d + 1) 9 as M = gm_ex (gm_go d) qX1_sunOver 100000 0 (gm_pad 4 (gm_ent as)) [] M := if_pos ⟨by decide, h⟩
def qX1_coldOver : Nat → List gm_A := fun b => pX1_coldOver.getD b []
theorem qX1_coldOver_0 : qX1_coldOver 0 = [(gm_iload 2), (gm_scall 90 1), (gm_ifeq 1), (gm_push (.inl 0)), (gm_goto 2)] := rfl
theorem qX1_coldOver_1 : qX1_coldOver 1 = [(gm_aload 0), (gm_getR 1 101), (gm_aload 1), (gm_iload 2), (gm_iload 3), (gm_vcall 0 5 4), (gm_goto 2)] := rfl
theorem qX1_coldOver_2 : qX1_coldOver 2 = [gm_iret] := rfl
theorem eX1_coldOver (d : Nat) (as : List gm_V) (M : gm_M) (h : gm_wd as ≤ 4) : gm_go (d + 1) 10 as M = gm_ex (gm_go d) qX1_coldOver 100000 0 (gm_pad 4 (gm_ent as)) [] M := if_pos ⟨by decide, h⟩
def qX2_init : Nat → List gm_A := fun b => pX2_init.getD b []
theorem qX2_init_0 : qX2_init 0 = [(gm_aload 0), gm_oinit, (gm_aload 0), (gm_new 5), gm_dup, (gm_vcall 5 35 1), (gm_putR 2 205), (gm_aload 0), (gm_push (.inl 4)), (gm_newarr 20), (gm_putR 2 206), gm_vret] := rfl
theorem eX2_init (d : Nat) (as : List gm_V) (M : gm_M) (h : gm_wd as ≤ 1) : gm_go (d + 1) 11 as M = gm_ex (gm_go d) qX2_init 100000 0 (gm_pad 1 (gm_ent as)) [] M := if_pos ⟨by decide, h⟩
def qX2_build : Nat → List gm_A := fun b => pX2_build.getD b []
theorem qX2_build_0 : qX2_build 0 = [(gm_aload 0), (gm_iload 1), (gm_putI 2 200), (gm_aload 0), (gm_iload 2), (gm_putI 2 201), (gm_aload 0), (gm_iload 3), (gm_putI 2 202), (gm_aload 0), (gm_iload 4), (gm_putI 2 203), (gm_aload 0), (gm_getR 2 205), (gm_push (.inl 0)), (gm_putI 5 500), (gm_aload 0), (gm_getR 2 205), (gm_push (.inl 0)), (gm_putI 5 502), (gm_aload 0), (gm_iload 5), (gm_vcall 2 14 2), (gm_push (.inl 0)), (gm_istore 6), (gm_goto 1)] := rfl
theorem qX2_build_1 : qX2_build 1 = [(gm_iload 6), (gm_aload 0), (gm_getR 2 206), gm_alen, (gm_cge 2), (gm_aload 0), (gm_getR 2 206), (gm_iload 6), (gm_push (.inl 4)), gm_iast, (gm_iinc 6 1), (gm_goto 1)] := rfl
theorem qX2_build_2 : qX2_build 2 = [gm_vret] := rfl
theorem eX2_build (d : Nat) (as : List gm_V) (M : gm_M) (h : gm_wd as ≤ 7) : gm_go (d + 1) 12 as M = gm_ex (gm_go d) qX2_build 100000 0 (gm_pad 7 (gm_ent as)) [] M := if_pos ⟨by decide, h⟩
def qX2_become : Nat → List gm_A := fun b => pX2_become.getD b []
theorem qX2_become_0 : qX2_become 0 = [(gm_aload 0), (gm_aload 1), (gm_getI 2 200), (gm_putI 2 200), (gm_aload 0), (gm_aload 1), (gm_getI 2 201), (gm_putI 2 201), (gm_aload 0), (gm_aload 1), (gm_getI 2 202), (gm_putI 2 202), (gm_aload 0), (gm_aload 1), (gm_getI 2 203), (gm_putI 2 203), (gm_aload 0), (gm_aload 1), (gm_getI 2 204), (gm_putI 2 204), (gm_aload 0), (gm_getR 2 205), (gm_aload 1), (gm_getR 2 205), (gm_vcall 5 36 2), (gm_aload 1), (gm_getR 2 206), (gm_push (.inl 0)), (gm_aload 0), (gm_getR 2 206), (gm_push (.inl 0)), (gm_aload 0), (gm_getR 2 206), gm_alen, (gm_acp 20), gm_vret] := rfl
theorem eX2_become (d : Nat) (as : List gm_V) (M : gm_M) (h : gm_wd as ≤ 2) : gm_go (d + 1) 13 as M = gm_ex (gm_go d) qX2_become 100000 0 (gm_pad 2 (gm_ent as)) [] M := if_pos ⟨by decide, h⟩
def qX2_holdUpTo : Nat → List gm_A := fun b => pX2_holdUpTo.getD b []
theorem qX2_holdUpTo_0 : qX2_holdUpTo 0 = [(gm_aload 0), (gm_iload 1), (gm_putI 2 204), (gm_aload 0), (gm_getR 2 205), (gm_aload 0), (gm_getI 2 201), (gm_push (.inl 2)), (gm_ceq 1), (gm_aload 0), (gm_getI 2 201), (gm_push (.inl 5)), (gm_cne 2), (gm_goto 1)] := rfl
theorem qX2_holdUpTo_1 : qX2_holdUpTo 1 = [(gm_iload 1), (gm_aload 0), (gm_getI 2 202), (gm_op2 gm_add), (gm_goto 3)] := rfl
theorem qX2_holdUpTo_2 : qX2_holdUpTo 2 = [(gm_iload 1), (gm_goto 3)] := rfl
theorem qX2_holdUpTo_3 : qX2_holdUpTo 3 = [(gm_putI 5 501), (gm_aload 0), (gm_getR 2 205), (gm_aload 0), (gm_getR 2 205), (gm_getI 5 500), (gm_aload 0), (gm_getR 2 205), (gm_getI 5 501), gm_min, (gm_putI 5 500), gm_vret] := rfl
theorem eX2_holdUpTo (d : Nat) (as : List gm_V) (M : gm_M) (h : gm_wd as ≤ 2) : gm_go (d + 1) 14 as M = gm_ex (gm_go d) qX2_holdUpTo 100000 0 (gm_pad 2 (gm_ent as)) [] M := if_pos ⟨by decide, h⟩
def qX2_gainOn : Nat → List gm_A := fun b => pX2_gainOn.getD b []
theorem qX2_gainOn_0 : qX2_gainOn 0 = [(gm_push (.inl 0)), (gm_aload 1), (gm_aload 0), (gm_iload 2), (gm_iload 3), (gm_vcall 1 9 4), (gm_iload 4), (gm_op2 gm_sub), gm_max, (gm_istore 5), (gm_aload 1), (gm_aload 0), (gm_iload 2), (gm_iload 3), (gm_vcall 1 10 4), (gm_istore 6), (gm_aload 0), (gm_getI 2 201), (gm_switch [(1, 1), (2, 6), (3, 2), (4, 3), (5, 4), (6, 5)] 6)] := rfl
theorem qX2_gainOn_1 : qX2_gainOn 1 = [(gm_push (.inl 2)), (gm_iload 5), (gm_op2 gm_mul), (gm_iload 6), (gm_op2 gm_sub), gm_iret] := rfl
theorem qX2_gainOn_2 : qX2_gainOn 2 = [(gm_iload 5), (gm_push (.inl 2)), (gm_quo gm_div), (gm_iload 6), (gm_op2 gm_sub), gm_iret] := rfl
theorem qX2_gainOn_3 : qX2_gainOn 3 = [(gm_push (.inl 2)), (gm_iload 5), (gm_op2 gm_mul), (gm_iload 6), (gm_op2 gm_sub), (gm_aload 0), (gm_getI 2 202), (gm_op2 gm_add), gm_iret] := rfl
theorem qX2_gainOn_4 : qX2_gainOn 4 = [(gm_iload 5), (gm_iload 6), (gm_op2 gm_sub), (gm_push (.inl 2)), (gm_quo gm_div), gm_iret] := rfl
theorem qX2_gainOn_5 : qX2_gainOn 5 = [(gm_iload 5), (gm_push (.inl 2)), (gm_quo gm_div), (gm_iload 6), (gm_op2 gm_sub), (gm_aload 0), (gm_getR 2 206), (gm_iload 2), (gm_push (.inl 3)), (gm_op2 gm_and), gm_iald, (gm_op2 gm_add), (gm_push (.inl 4)), (gm_op2 gm_sub), gm_iret] := rfl
theorem qX2_gainOn_6 : qX2_gainOn 6 = [(gm_iload 5), (gm_iload 6), (gm_op2 gm_sub), gm_iret] := rfl
theorem eX2_gainOn (d : Nat) (as : List gm_V) (M : gm_M) (h : gm_wd as ≤ 7) : gm_go (d + 1) 15 as M = gm_ex (gm_go d) qX2_gainOn 100000 0 (gm_pad 7 (gm_ent as)) [] M := if_pos ⟨by decide, h⟩
def qX2_settle : Nat → List gm_A := fun b => pX2_settle.getD b []
theorem qX2_settle_0 : qX2_settle 0 = [(gm_aload 0), (gm_push (.inl 0)), (gm_push (.inl 199)), (gm_aload 0), (gm_getI 2 203), (gm_iload 2), (gm_op2 gm_add), gm_min, gm_max, (gm_putI 2 203), (gm_aload 0), (gm_getI 2 203), (gm_aload 1), (gm_getI 1 103), (gm_cle 1), (gm_aload 0), gm_dup, (gm_getI 2 203), (gm_aload 3), (gm_aload 0), (gm_getI 2 203), (gm_aload 1), (gm_getI 1 103), (gm_op2 gm_sub), (gm_vcall 5 38 2), (gm_op2 gm_sub), (gm_putI 2 203), (gm_goto 2)] := rfl
theorem qX2_settle_1 : qX2_settle 1 = [(gm_aload 0), (gm_getI 2 203), (gm_aload 1), (gm_getI 1 102), (gm_cge 2), (gm_aload 0), gm_dup, (gm_getI 2 203), (gm_aload 3), (gm_aload 1), (gm_getI 1 102), (gm_aload 0), (gm_getI 2 203), (gm_op2 gm_sub), (gm_vcall 5 39 2), (gm_op2 gm_add), (gm_putI 2 203), (gm_goto 2)] := rfl
theorem qX2_settle_2 : qX2_settle 2 = [(gm_aload 0), (gm_getI 2 203), (gm_aload 1), (gm_getI 1 103), (gm_cgt 3), (gm_aload 0), (gm_getI 2 203), (gm_aload 1), (gm_getI 1 102), (gm_cge 4), (gm_goto 3)] := rfl
theorem qX2_settle_3 : qX2_settle 3 = [(gm_push (.inl 1)), (gm_goto 5)] := rfl
theorem qX2_settle_4 : qX2_settle 4 = [(gm_push (.inl 0)), (gm_goto 5)] := rfl
theorem qX2_settle_5 : qX2_settle 5 = [gm_zret] := rfl
theorem eX2_settle (d : Nat) (as : List gm_V) (M : gm_M) (h : gm_wd as ≤ 4) : gm_go (d + 1) 16 as M = gm_ex (gm_go d) qX2_settle 100000 0 (gm_pad 4 (gm_ent as)) [] M := if_pos ⟨by decide, h⟩
def qX2_pass : Nat → List gm_A := fun b => pX2_pass.getD b []
theorem qX2_pass_0 : qX2_pass 0 = [(gm_aload 0), (gm_aload 1), (gm_iload 2), (gm_push (.inl 28)), (gm_quo gm_rem), (gm_aload 0), (gm_getR 2 205), (gm_getI 5 500), (gm_iload 3), (gm_vcall 2 15 5), (gm_istore 4), (gm_aload 0), (gm_getR 2 205), (gm_vcall 5 37 1), (gm_aload 0), (gm_aload 1), (gm_iload 4), (gm_aload 0), (gm_getR 2 205), (gm_vcall 2 16 4), gm_zret] := rfl
theorem eX2_pass (d : Nat) (as : List gm_V) (M : gm_M) (h : gm_wd as ≤ 5) : gm_go (d + 1) 17 as M = gm_ex (gm_go d) qX2_pass 100000 0 (gm_pad 5 (gm_ent as)) [] M := if_pos ⟨by decide, h⟩
def qX2_firstAmiss : Nat → List gm_A := fun b => pX2_firstAmiss.getD b []
theorem qX2_firstAmiss_0 : qX2_firstAmiss 0 = [(gm_push (.inl 1)), (gm_istore 3), (gm_goto 1)] := rfl
theorem qX2_firstAmiss_1 : qX2_firstAmiss 1 = [(gm_iload 3), (gm_push (.inl 56)), (gm_cgt 3), (gm_aload 0), (gm_aload 1), (gm_iload 2), (gm_iload 3), (gm_op2 gm_add), (gm_push (.inl 1)), (gm_op2 gm_sub), (gm_push (.inl 0)), (gm_vcall 2 17 4), (gm_ifeq 2), (gm_iload 3), gm_iret] := rfl
theorem qX2_firstAmiss_2 : qX2_firstAmiss 2 = [(gm_iinc 3 1), (gm_goto 1)] := rfl
theorem qX2_firstAmiss_3 : qX2_firstAmiss 3 = [(gm_push (.inl (-5))), gm_iret] := rfl
theorem eX2_firstAmiss (d : Nat) (as : List gm_V) (M : gm_M) (h : gm_wd as ≤ 4) : gm_go (d + 1) 18 as M = gm_ex (gm_go d) qX2_firstAmiss 100000 0 (gm_pad 4 (gm_ent as)) [] M := if_pos ⟨by decide, h⟩
def qX2_amissDays : Nat → List gm_A := fun b => pX2_amissDays.getD b []
theorem qX2_amissDays_0 : qX2_amissDays 0 = [(gm_push (.inl 0)), (gm_istore 5), (gm_push (.inl 1)), (gm_istore 6), (gm_goto 1)] := rfl
theorem qX2_amissDays_1 : qX2_amissDays 1 = [(gm_iload 6), (gm_iload 3), (gm_cgt 7), (gm_iload 4), (gm_ifeq 2), (gm_iload 6), (gm_iload 4), (gm_clt 2), (gm_iload 6), (gm_iload 4), (gm_push (.inl 4)), (gm_op2 gm_add), (gm_cgt 2), (gm_push (.inl 1)), (gm_goto 3)] := rfl
theorem qX2_amissDays_2 : qX2_amissDays 2 = [(gm_push (.inl 0)), (gm_goto 3)] := rfl
theorem qX2_amissDays_3 : qX2_amissDays 3 = [(gm_istore 7), (gm_aload 0), (gm_aload 1), (gm_iload 2), (gm_iload 6), (gm_op2 gm_add), (gm_push (.inl 1)), (gm_op2 gm_sub), (gm_iload 7), (gm_ifeq 4), (gm_push (.inl 1000)), (gm_goto 5)] := rfl
theorem qX2_amissDays_4 : qX2_amissDays 4 = [(gm_push (.inl 0)), (gm_goto 5)] := rfl
theorem qX2_amissDays_5 : qX2_amissDays 5 = [(gm_vcall 2 17 4), (gm_ifeq 6), (gm_iinc 5 1), (gm_goto 6)] := rfl
theorem qX2_amissDays_6 : qX2_amissDays 6 = [(gm_iinc 6 1), (gm_goto 1)] := rfl
theorem qX2_amissDays_7 : qX2_amissDays 7 = [(gm_iload 5), gm_iret] := rfl
theorem eX2_amissDays (d : Nat) (as : List gm_V) (M : gm_M) (h : gm_wd as ≤ 8) : gm_go (d + 1) 19 as M = gm_ex (gm_go d) qX2_amissDays 100000 0 (gm_pad 8 (gm_ent as)) [] M := if_pos ⟨by decide, h⟩
def qX3_init : Nat → List gm_A := fun b => pX3_init.getD b []
theorem qX3_init_0 : qX3_init 0 = [(gm_aload 0), gm_oinit, (gm_aload 0), (gm_push (.inl 20)), (gm_newarr 20), (gm_putR 3 300), gm_vret] := rfl
theorem eX3_init (d : Nat) (as : List gm_V) (M : gm_M) (h : gm_wd as ≤ 1) : gm_go (d + 1) 20 as M = gm_ex (gm_go d) qX3_init 100000 0 (gm_pad 1 (gm_ent as)) [] M := if_pos ⟨by decide, h⟩
def qX3_forget : Nat → List gm_A := fun b => pX3_forget.getD b []
theorem qX3_forget_0 : qX3_forget 0 = [(gm_aload 0), (gm_push (.inl 0)), (gm_putI 3 301), gm_vret] := rfl
theorem eX3_forget (d : Nat) (as : List gm_V) (M : gm_M) (h : gm_wd as ≤ 1) : gm_go (d + 1) 21 as M = gm_ex (gm_go d) qX3_forget 100000 0 (gm_pad 1 (gm_ent as)) [] M := if_pos ⟨by decide, h⟩
def qX3_call : Nat → List gm_A := fun b => pX3_call.getD b []
theorem qX3_call_0 : qX3_call 0 = [(gm_iload 2), (gm_istore 6), (gm_push (.inl 0)), (gm_istore 7), (gm_goto 1)] := rfl
theorem qX3_call_1 : qX3_call 1 = [(gm_iload 7), (gm_push (.inr (.inr 1000))), gm_alen, (gm_cge 5), (gm_iload 6), (gm_iflt 5), (gm_iload 6), (gm_push (.inr (.inr 1000))), gm_alen, (gm_cge 5), (gm_push (.inl 3)), (gm_iload 6), (gm_op2 gm_mul), (gm_iload 3), (gm_op2 gm_add), (gm_istore 8), (gm_iload 8), (gm_iflt 4), (gm_iload 8), (gm_push (.inr (.inr 1001))), gm_alen, (gm_cge 4), (gm_push (.inr (.inr 1001))), (gm_iload 8), gm_iald, (gm_ifeq 4), (gm_iload 5), (gm_push (.inl 40)), (gm_cge 2), (gm_aload 0), (gm_push (.inr (.inr 1001))), (gm_iload 8), gm_iald, (gm_aload 1), (gm_iload 4), (gm_iload 5), (gm_push (.inl 1)), (gm_op2 gm_add), (gm_vcall 3 23 5), (gm_goto 3)] := rfl
theorem qX3_call_2 : qX3_call 2 = [(gm_push (.inl 0)), (gm_goto 3)] := rfl
theorem qX3_call_3 : qX3_call 3 = [gm_iret] := rfl
theorem qX3_call_4 : qX3_call 4 = [(gm_push (.inr (.inr 1000))), (gm_iload 6), gm_iald, (gm_istore 6), (gm_iinc 7 1), (gm_goto 1)] := rfl
theorem qX3_call_5 : qX3_call 5 = [(gm_push (.inl 0)), gm_iret] := rfl
theorem eX3_call (d : Nat) (as : List gm_V) (M : gm_M) (h : gm_wd as ≤ 9) : gm_go (d + 1) 22 as M = gm_ex (gm_go d) qX3_call 100000 0 (gm_pad 9 (gm_ent as)) [] M := if_pos ⟨by decide, h⟩
def qX3_runBody : Nat → List gm_A := fun b => pX3_runBody.getD b []
theorem qX3_runBody_0 : qX3_runBody 0 = [(gm_aload 0), (gm_getI 3 301), (gm_aload 0), (gm_getR 3 300), gm_alen, (gm_cge 1), (gm_aload 0), (gm_getR 3 300), (gm_aload 0), (gm_getI 3 301), (gm_iload 1), gm_iast, (gm_goto 1)] := rfl
theorem qX3_runBody_1 : qX3_runBody 1 = [(gm_aload 0), gm_dup, (gm_getI 3 301), (gm_push (.inl 1)), (gm_op2 gm_add), (gm_putI 3 301), (gm_iload 1), (gm_switch [(10, 2), (11, 3), (12, 4), (20, 5), (30, 6), (40, 7), (50, 8), (51, 9), (60, 10), (70, 11), (71, 12)] 13)] := rfl
theorem qX3_runBody_2 : qX3_runBody 2 = [(gm_iload 3), (gm_aload 2), (gm_getI 2 200), (gm_op2 gm_add), gm_iret] := rfl
theorem qX3_runBody_3 : qX3_runBody 3 = [(gm_aload 0), (gm_aload 2), (gm_aload 2), (gm_getI 2 201), (gm_push (.inl 0)), (gm_iload 3), (gm_iload 4), (gm_vcall 3 22 6), (gm_aload 2), (gm_getI 2 202), (gm_op2 gm_sub), gm_iret] := rfl
theorem qX3_runBody_4 : qX3_runBody 4 = [(gm_aload 0), (gm_aload 2), (gm_aload 2), (gm_getI 2 201), (gm_push (.inl 1)), (gm_iload 3), (gm_iload 4), (gm_vcall 3 22 6), (gm_push (.inl 2)), (gm_op2 gm_mul), gm_iret] := rfl
theorem qX3_runBody_5 : qX3_runBody 5 = [(gm_aload 0), (gm_aload 2), (gm_push (.inl 0)), (gm_push (.inl 1)), (gm_iload 3), (gm_iload 4), (gm_vcall 3 22 6), (gm_push (.inl 6)), (gm_op2 gm_xor), gm_iret] := rfl
theorem qX3_runBody_6 : qX3_runBody 6 = [(gm_aload 0), (gm_aload 2), (gm_push (.inl 0)), (gm_push (.inl 0)), (gm_iload 3), (gm_push (.inl 3)), (gm_op2 gm_mul), (gm_iload 4), (gm_vcall 3 22 6), gm_iret] := rfl
theorem qX3_runBody_7 : qX3_runBody 7 = [(gm_aload 0), (gm_aload 2), (gm_push (.inl 0)), (gm_push (.inl 2)), (gm_iload 3), (gm_iload 4), (gm_vcall 3 22 6), (gm_aload 0), (gm_aload 2), (gm_aload 2), (gm_getI 2 201), (gm_push (.inl 1)), (gm_push (.inl 1)), (gm_iload 4), (gm_vcall 3 22 6), (gm_op2 gm_add), gm_iret] := rfl
theorem qX3_runBody_8 : qX3_runBody 8 = [(gm_aload 0), (gm_aload 2), (gm_push (.inl 1)), (gm_push (.inl 0)), (gm_iload 3), (gm_iload 4), (gm_vcall 3 22 6), (gm_op1 gm_neg), gm_iret] := rfl
theorem qX3_runBody_9 : qX3_runBody 9 = [(gm_aload 0), (gm_aload 2), (gm_push (.inl 1)), (gm_push (.inl 1)), (gm_iload 3), (gm_push (.inl 1)), (gm_op2 gm_add), (gm_iload 4), (gm_vcall 3 22 6), gm_iret] := rfl
theorem qX3_runBody_10 : qX3_runBody 10 = [(gm_aload 0), (gm_aload 2), (gm_push (.inl 2)), (gm_push (.inl 2)), (gm_iload 3), (gm_aload 2), (gm_getI 2 200), (gm_op2 gm_sub), (gm_iload 4), (gm_vcall 3 22 6), gm_iret] := rfl
theorem qX3_runBody_11 : qX3_runBody 11 = [(gm_aload 0), (gm_aload 2), (gm_push (.inl 3)), (gm_push (.inl 1)), (gm_iload 3), (gm_iload 4), (gm_vcall 3 22 6), (gm_aload 0), (gm_aload 2), (gm_push (.inl 3)), (gm_push (.inl 0)), (gm_push (.inl 2)), (gm_iload 4), (gm_vcall 3 22 6), (gm_op2 gm_add), gm_iret] := rfl
theorem qX3_runBody_12 : qX3_runBody 12 = [(gm_aload 0), (gm_aload 2), (gm_push (.inl 3)), (gm_push (.inl 0)), (gm_iload 3), (gm_iload 4), (gm_vcall 3 22 6), (gm_aload 2), (gm_getI 2 202), (gm_op2 gm_xor), gm_iret] := rfl
theorem qX3_runBody_13 : qX3_runBody 13 = [(gm_push (.inl 0)), gm_iret] := rfl
theorem eX3_runBody (d : Nat) (as : List gm_V) (M : gm_M) (h : gm_wd as ≤ 5) : gm_go (d + 1) 23 as M = gm_ex (gm_go d) qX3_runBody 100000 0 (gm_pad 5 (gm_ent as)) [] M := if_pos ⟨by decide, h⟩
def qX4_init : Nat → List gm_A := fun b => pX4_init.getD b []
theorem qX4_init_0 : qX4_init 0 = [(gm_aload 0), gm_oinit, (gm_aload 0), (gm_push (.inl 100)), (gm_newarr 22), (gm_putR 4 400), gm_vret] := rfl
theorem eX4_init (d : Nat) (as : List gm_V) (M : gm_M) (h : gm_wd as ≤ 1) : gm_go (d + 1) 24 as M = gm_ex (gm_go d) qX4_init 100000 0 (gm_pad 1 (gm_ent as)) [] M := if_pos ⟨by decide, h⟩
def qX4_takeSign : Nat → List gm_A := fun b => pX4_takeSign.getD b []
theorem qX4_takeSign_0 : qX4_takeSign 0 = [(gm_aload 0), (gm_getI 4 401), (gm_aload 0), (gm_getR 4 400), gm_alen, (gm_clt 1), (gm_push (.inl 0)), gm_zret] := rfl
theorem qX4_takeSign_1 : qX4_takeSign 1 = [(gm_aload 0), (gm_getR 4 400), (gm_aload 0), (gm_getI 4 401), (gm_iload 1), gm_cast, (gm_aload 0), gm_dup, (gm_getI 4 401), (gm_push (.inl 1)), (gm_op2 gm_add), (gm_putI 4 401), (gm_push (.inl 1)), gm_zret] := rfl
theorem eX4_takeSign (d : Nat) (as : List gm_V) (M : gm_M) (h : gm_wd as ≤ 2) : gm_go (d + 1) 25 as M = gm_ex (gm_go d) qX4_takeSign 100000 0 (gm_pad 2 (gm_ent as)) [] M := if_pos ⟨by decide, h⟩
def qX4_fill : Nat → List gm_A := fun b => pX4_fill.getD b []
theorem qX4_fill_0 : qX4_fill 0 = [(gm_aload 1), (gm_vcall 1 8 1), (gm_aload 0), (gm_push (.inl 0)), (gm_putI 4 402), (gm_aload 0), (gm_aload 1), (gm_vcall 4 27 2), (gm_istore 2), (gm_push (.inl 1)), (gm_istore 3), (gm_goto 1)] := rfl
theorem qX4_fill_1 : qX4_fill 1 = [(gm_iload 3), (gm_push (.inl 10)), (gm_cge 2), (gm_iload 2), (gm_ifeq 2), (gm_aload 0), (gm_push (.inl 59)), (gm_vcall 4 33 2), (gm_ifeq 2), (gm_aload 0), (gm_aload 1), (gm_vcall 4 27 2), (gm_istore 2), (gm_iinc 3 1), (gm_goto 1)] := rfl
theorem qX4_fill_2 : qX4_fill 2 = [(gm_iload 2), (gm_ifeq 3), (gm_aload 0), (gm_getI 4 402), (gm_aload 0), (gm_getI 4 401), (gm_cne 3), (gm_push (.inl (-1))), (gm_goto 4)] := rfl
theorem qX4_fill_3 : qX4_fill 3 = [(gm_aload 0), (gm_getI 4 402), (gm_goto 4)] := rfl
theorem qX4_fill_4 : qX4_fill 4 = [(gm_istore 3), (gm_aload 0), (gm_push (.inl 0)), (gm_putI 4 401), (gm_iload 3), gm_iret] := rfl
theorem eX4_fill (d : Nat) (as : List gm_V) (M : gm_M) (h : gm_wd as ≤ 4) : gm_go (d + 1) 26 as M = gm_ex (gm_go d) qX4_fill 100000 0 (gm_pad 4 (gm_ent as)) [] M := if_pos ⟨by decide, h⟩
def qX4_readClause : Nat → List gm_A := fun b => pX4_readClause.getD b []
theorem qX4_readClause_0 : qX4_readClause 0 = [(gm_aload 0), (gm_vcall 4 34 1), (gm_istore 2), (gm_iload 2), (gm_push (.inl 115)), (gm_cne 1), (gm_push (.inl 1)), (gm_goto 2)] := rfl
theorem qX4_readClause_1 : qX4_readClause 1 = [(gm_push (.inl 0)), (gm_goto 2)] := rfl
theorem qX4_readClause_2 : qX4_readClause 2 = [(gm_istore 3), (gm_iload 2), (gm_push (.inl 108)), (gm_cne 3), (gm_push (.inl 1)), (gm_goto 4)] := rfl
theorem qX4_readClause_3 : qX4_readClause 3 = [(gm_push (.inl 0)), (gm_goto 4)] := rfl
theorem qX4_readClause_4 : qX4_readClause 4 = [(gm_istore 4), (gm_iload 3), (gm_ifeq 5), (gm_push (.inr (.inr 1003))), (gm_goto 8)] := rfl
theorem qX4_readClause_5 : qX4_readClause 5 = [(gm_iload 2), (gm_push (.inl 99)), (gm_cne 6), (gm_push (.inr (.inr 1004))), (gm_goto 8)] := rfl
theorem qX4_readClause_6 : qX4_readClause 6 = [(gm_iload 4), (gm_ifeq 7), (gm_push (.inr (.inr 1005))), (gm_goto 8)] := rfl
theorem qX4_readClause_7 : qX4_readClause 7 = [(gm_push (.inr (.inr 1006))), (gm_goto 8)] := rfl
theorem qX4_readClause_8 : qX4_readClause 8 = [(gm_astore 5), (gm_aload 0), (gm_aload 5), (gm_vcall 4 32 2), (gm_ifeq 9), (gm_aload 0), (gm_vcall 4 31 1), (gm_goto 10)] := rfl
theorem qX4_readClause_9 : qX4_readClause 9 = [(gm_push (.inl (-1))), (gm_goto 10)] := rfl
theorem qX4_readClause_10 : qX4_readClause 10 = [(gm_istore 6), (gm_iload 6), (gm_ifge 11), (gm_push (.inl 0)), gm_zret] := rfl
theorem qX4_readClause_11 : qX4_readClause 11 = [(gm_iload 3), (gm_ifne 12), (gm_iload 2), (gm_push (.inl 99)), (gm_cne 17), (gm_goto 12)] := rfl
theorem qX4_readClause_12 : qX4_readClause 12 = [(gm_iload 3), (gm_ifeq 13), (gm_aload 1), (gm_getR 1 100), (gm_goto 14)] := rfl
theorem qX4_readClause_13 : qX4_readClause 13 = [(gm_aload 1), (gm_getR 1 101), (gm_goto 14)] := rfl
theorem qX4_readClause_14 : qX4_readClause 14 = [(gm_astore 7), (gm_aload 0), (gm_push (.inl 32)), (gm_vcall 4 33 2), (gm_ifeq 15), (gm_aload 0), (gm_aload 7), (gm_push (.inl 124)), (gm_push (.inl 0)), (gm_vcall 4 28 4), (gm_ifeq 15), (gm_push (.inl 1)), (gm_goto 16)] := rfl
theorem qX4_readClause_15 : qX4_readClause 15 = [(gm_push (.inl 0)), (gm_goto 16)] := rfl
theorem qX4_readClause_16 : qX4_readClause 16 = [(gm_istore 8), (gm_aload 7), (gm_iload 6), (gm_vcall 0 3 2), (gm_iload 8), gm_zret] := rfl
theorem qX4_readClause_17 : qX4_readClause 17 = [(gm_iload 4), (gm_ifeq 18), (gm_aload 1), (gm_iload 6), (gm_putI 1 102), (gm_goto 19)] := rfl
theorem qX4_readClause_18 : qX4_readClause 18 = [(gm_aload 1), (gm_iload 6), (gm_putI 1 103), (gm_goto 19)] := rfl
theorem qX4_readClause_19 : qX4_readClause 19 = [(gm_push (.inl 1)), gm_zret] := rfl
theorem eX4_readClause (d : Nat) (as : List gm_V) (M : gm_M) (h : gm_wd as ≤ 9) : gm_go (d + 1) 27 as M = gm_ex (gm_go d) qX4_readClause 100000 0 (gm_pad 9 (gm_ent as)) [] M := if_pos ⟨by decide, h⟩
def qX4_readChain : Nat → List gm_A := fun b => pX4_readChain.getD b []
theorem qX4_readChain_0 : qX4_readChain 0 = [(gm_push (.inl (-1))), (gm_istore 4), (gm_push (.inl 0)), (gm_istore 5), (gm_goto 1)] := rfl
theorem qX4_readChain_1 : qX4_readChain 1 = [(gm_iload 5), (gm_push (.inl 100)), (gm_cge 8), (gm_iload 2), (gm_push (.inl 124)), (gm_cne 2), (gm_aload 0), (gm_aload 1), (gm_push (.inl 38)), (gm_iload 3), (gm_vcall 4 28 4), (gm_goto 3)] := rfl
theorem qX4_readChain_2 : qX4_readChain 2 = [(gm_aload 0), (gm_aload 1), (gm_iload 3), (gm_vcall 4 29 3), (gm_goto 3)] := rfl
theorem qX4_readChain_3 : qX4_readChain 3 = [(gm_istore 6), (gm_iload 6), (gm_ifne 4), (gm_push (.inl 0)), gm_zret] := rfl
theorem qX4_readChain_4 : qX4_readChain 4 = [(gm_aload 1), (gm_iload 4), (gm_vcall 0 4 2), (gm_aload 0), (gm_iload 2), (gm_vcall 4 33 2), (gm_ifne 5), (gm_push (.inl 1)), gm_zret] := rfl
theorem qX4_readChain_5 : qX4_readChain 5 = [(gm_aload 1), (gm_iload 2), (gm_push (.inl 124)), (gm_cne 6), (gm_push (.inl 19)), (gm_goto 7)] := rfl
theorem qX4_readChain_6 : qX4_readChain 6 = [(gm_push (.inl 20)), (gm_goto 7)] := rfl
theorem qX4_readChain_7 : qX4_readChain 7 = [(gm_push (.inl 0)), (gm_vcall 0 2 3), (gm_istore 4), (gm_iinc 5 1), (gm_goto 1)] := rfl
theorem qX4_readChain_8 : qX4_readChain 8 = [(gm_push (.inl 0)), gm_zret] := rfl
theorem eX4_readChain (d : Nat) (as : List gm_V) (M : gm_M) (h : gm_wd as ≤ 7) : gm_go (d + 1) 28 as M = gm_ex (gm_go d) qX4_readChain 100000 0 (gm_pad 7 (gm_ent as)) [] M := if_pos ⟨by decide, h⟩
def qX4_readSingle : Nat → List gm_A := fun b => pX4_readSingle.getD b []
theorem qX4_readSingle_0 : qX4_readSingle 0 = [(gm_aload 0), (gm_vcall 4 34 1), (gm_istore 3), (gm_iload 3), (gm_push (.inl 33)), (gm_ceq 1), (gm_iload 3), (gm_push (.inl 40)), (gm_ceq 1), (gm_aload 0), (gm_aload 1), (gm_vcall 4 30 2), gm_zret] := rfl
theorem qX4_readSingle_1 : qX4_readSingle 1 = [(gm_iload 2), (gm_push (.inl 4)), (gm_clt 2), (gm_push (.inl 0)), gm_zret] := rfl
theorem qX4_readSingle_2 : qX4_readSingle 2 = [(gm_aload 0), gm_dup, (gm_getI 4 402), (gm_push (.inl 1)), (gm_op2 gm_add), (gm_putI 4 402), (gm_iload 3), (gm_push (.inl 40)), (gm_cne 5), (gm_aload 0), (gm_aload 1), (gm_push (.inl 124)), (gm_iload 2), (gm_push (.inl 1)), (gm_op2 gm_add), (gm_vcall 4 28 4), (gm_ifeq 3), (gm_aload 0), (gm_push (.inl 41)), (gm_vcall 4 33 2), (gm_ifeq 3), (gm_push (.inl 1)), (gm_goto 4)] := rfl
theorem qX4_readSingle_3 : qX4_readSingle 3 = [(gm_push (.inl 0)), (gm_goto 4)] := rfl
theorem qX4_readSingle_4 : qX4_readSingle 4 = [gm_zret] := rfl
theorem qX4_readSingle_5 : qX4_readSingle 5 = [(gm_aload 0), (gm_aload 1), (gm_iload 2), (gm_push (.inl 1)), (gm_op2 gm_add), (gm_vcall 4 29 3), (gm_ifne 6), (gm_push (.inl 0)), gm_zret] := rfl
theorem qX4_readSingle_6 : qX4_readSingle 6 = [(gm_aload 1), (gm_push (.inl 18)), (gm_push (.inl 0)), (gm_vcall 0 2 3), gm_pop1, (gm_push (.inl 1)), gm_zret] := rfl
theorem eX4_readSingle (d : Nat) (as : List gm_V) (M : gm_M) (h : gm_wd as ≤ 4) : gm_go (d + 1) 29 as M = gm_ex (gm_go d) qX4_readSingle 100000 0 (gm_pad 4 (gm_ent as)) [] M := if_pos ⟨by decide, h⟩
def qX4_readTest : Nat → List gm_A := fun b => pX4_readTest.getD b []
theorem qX4_readTest_0 : qX4_readTest 0 = [(gm_push (.inr (.inr 1007))), (gm_aload 0), (gm_vcall 4 34 1), gm_sidx, (gm_istore 2), (gm_iload 2), (gm_ifge 1), (gm_push (.inl 0)), gm_zret] := rfl
theorem qX4_readTest_1 : qX4_readTest 1 = [(gm_aload 0), gm_dup, (gm_getI 4 402), (gm_push (.inl 1)), (gm_op2 gm_add), (gm_putI 4 402), (gm_push (.inr (.inr 1008))), (gm_aload 0), (gm_vcall 4 34 1), gm_sidx, (gm_istore 3), (gm_iload 3), (gm_ifge 2), (gm_push (.inl 0)), gm_zret] := rfl
theorem qX4_readTest_2 : qX4_readTest 2 = [(gm_aload 0), gm_dup, (gm_getI 4 402), (gm_push (.inl 1)), (gm_op2 gm_add), (gm_putI 4 402), (gm_aload 0), (gm_vcall 4 31 1), (gm_istore 4), (gm_iload 4), (gm_ifge 3), (gm_push (.inl 0)), gm_zret] := rfl
theorem qX4_readTest_3 : qX4_readTest 3 = [(gm_aload 1), (gm_push (.inl 3)), (gm_iload 2), (gm_op2 gm_mul), (gm_iload 3), (gm_op2 gm_add), (gm_iload 4), (gm_vcall 0 2 3), gm_pop1, (gm_push (.inl 1)), gm_zret] := rfl
theorem eX4_readTest (d : Nat) (as : List gm_V) (M : gm_M) (h : gm_wd as ≤ 5) : gm_go (d + 1) 30 as M = gm_ex (gm_go d) qX4_readTest 100000 0 (gm_pad 5 (gm_ent as)) [] M := if_pos ⟨by decide, h⟩
def qX4_readNumber : Nat → List gm_A := fun b => pX4_readNumber.getD b []
theorem qX4_readNumber_0 : qX4_readNumber 0 = [(gm_push (.inl (-1))), (gm_istore 1), (gm_push (.inl 0)), (gm_istore 2), (gm_goto 1)] := rfl
theorem qX4_readNumber_1 : qX4_readNumber 1 = [(gm_iload 2), (gm_push (.inl 2)), (gm_cge 2), (gm_aload 0), (gm_vcall 4 34 1), (gm_push (.inl 48)), (gm_clt 2), (gm_aload 0), (gm_vcall 4 34 1), (gm_push (.inl 57)), (gm_cgt 2), (gm_push (.inl 10)), (gm_push (.inl 0)), (gm_iload 1), gm_max, (gm_op2 gm_mul), (gm_aload 0), (gm_vcall 4 34 1), (gm_op2 gm_add), (gm_push (.inl 48)), (gm_op2 gm_sub), (gm_istore 1), (gm_aload 0), gm_dup, (gm_getI 4 402), (gm_push (.inl 1)), (gm_op2 gm_add), (gm_putI 4 402), (gm_iinc 2 1), (gm_goto 1)] := rfl
theorem qX4_readNumber_2 : qX4_readNumber 2 = [(gm_iload 1), gm_iret] := rfl
theorem eX4_readNumber (d : Nat) (as : List gm_V) (M : gm_M) (h : gm_wd as ≤ 3) : gm_go (d + 1) 31 as M = gm_ex (gm_go d) qX4_readNumber 100000 0 (gm_pad 3 (gm_ent as)) [] M := if_pos ⟨by decide, h⟩
def qX4_readWord : Nat → List gm_A := fun b => pX4_readWord.getD b []
theorem qX4_readWord_0 : qX4_readWord 0 = [(gm_push (.inl 0)), (gm_istore 2), (gm_goto 1)] := rfl
theorem qX4_readWord_1 : qX4_readWord 1 = [(gm_iload 2), (gm_aload 1), gm_slen, (gm_cge 3), (gm_aload 0), (gm_aload 1), (gm_iload 2), gm_schar, (gm_vcall 4 33 2), (gm_ifne 2), (gm_push (.inl 0)), gm_zret] := rfl
theorem qX4_readWord_2 : qX4_readWord 2 = [(gm_iinc 2 1), (gm_goto 1)] := rfl
theorem qX4_readWord_3 : qX4_readWord 3 = [(gm_push (.inl 1)), gm_zret] := rfl
theorem eX4_readWord (d : Nat) (as : List gm_V) (M : gm_M) (h : gm_wd as ≤ 3) : gm_go (d + 1) 32 as M = gm_ex (gm_go d) qX4_readWord 100000 0 (gm_pad 3 (gm_ent as)) [] M := if_pos ⟨by decide, h⟩
def qX4_readSign : Nat → List gm_A := fun b => pX4_readSign.getD b []
theorem qX4_readSign_0 : qX4_readSign 0 = [(gm_aload 0), (gm_getI 4 402), (gm_aload 0), (gm_getI 4 401), (gm_cge 1), (gm_aload 0), (gm_getI 4 402), (gm_aload 0), (gm_getR 4 400), gm_alen, (gm_cge 1), (gm_aload 0), (gm_getR 4 400), (gm_aload 0), (gm_getI 4 402), gm_cald, (gm_iload 1), (gm_ceq 2), (gm_goto 1)] := rfl
theorem qX4_readSign_1 : qX4_readSign 1 = [(gm_push (.inl 0)), gm_zret] := rfl
theorem qX4_readSign_2 : qX4_readSign 2 = [(gm_aload 0), gm_dup, (gm_getI 4 402), (gm_push (.inl 1)), (gm_op2 gm_add), (gm_putI 4 402), (gm_push (.inl 1)), gm_zret] := rfl
theorem eX4_readSign (d : Nat) (as : List gm_V) (M : gm_M) (h : gm_wd as ≤ 2) : gm_go (d + 1) 33 as M = gm_ex (gm_go d) qX4_readSign 100000 0 (gm_pad 2 (gm_ent as)) [] M := if_pos ⟨by decide, h⟩
def qX4_nextSign : Nat → List gm_A := fun b => pX4_nextSign.getD b []
theorem qX4_nextSign_0 : qX4_nextSign 0 = [(gm_aload 0), (gm_getI 4 402), (gm_iflt 1), (gm_aload 0), (gm_getI 4 402), (gm_aload 0), (gm_getI 4 401), (gm_cge 1), (gm_aload 0), (gm_getI 4 402), (gm_aload 0), (gm_getR 4 400), gm_alen, (gm_cge 1), (gm_aload 0), (gm_getR 4 400), (gm_aload 0), (gm_getI 4 402), gm_cald, (gm_goto 2)] := rfl
theorem qX4_nextSign_1 : qX4_nextSign 1 = [(gm_push (.inl 0)), (gm_goto 2)] := rfl
theorem qX4_nextSign_2 : qX4_nextSign 2 = [gm_cret] := rfl
theorem eX4_nextSign (d : Nat) (as : List gm_V) (M : gm_M) (h : gm_wd as ≤ 1) : gm_go (d + 1) 34 as M = gm_ex (gm_go d) qX4_nextSign 100000 0 (gm_pad 1 (gm_ent as)) [] M := if_pos ⟨by decide, h⟩
def qX5_init : Nat → List gm_A := fun b => pX5_init.getD b []
theorem qX5_init_0 : qX5_init 0 = [(gm_aload 0), gm_oinit, gm_vret] := rfl
theorem eX5_init (d : Nat) (as : List gm_V) (M : gm_M) (h : gm_wd as ≤ 1) : gm_go (d + 1) 35 as M = gm_ex (gm_go d) qX5_init 100000 0 (gm_pad 1 (gm_ent as)) [] M := if_pos ⟨by decide, h⟩
def qX5_become : Nat → List gm_A := fun b => pX5_become.getD b []
theorem qX5_become_0 : qX5_become 0 = [(gm_aload 0), (gm_aload 1), (gm_getI 5 500), (gm_putI 5 500), (gm_aload 0), (gm_aload 1), (gm_getI 5 501), (gm_putI 5 501), (gm_aload 0), (gm_aload 1), (gm_getI 5 502), (gm_putI 5 502), gm_vret] := rfl
theorem eX5_become (d : Nat) (as : List gm_V) (M : gm_M) (h : gm_wd as ≤ 2) : gm_go (d + 1) 36 as M = gm_ex (gm_go d) qX5_become 100000 0 (gm_pad 2 (gm_ent as)) [] M := if_pos ⟨by decide, h⟩
def qX5_seep : Nat → List gm_A := fun b => pX5_seep.getD b []
theorem qX5_seep_0 : qX5_seep 0 = [(gm_aload 0), (gm_push (.inl 0)), (gm_aload 0), (gm_getI 5 500), (gm_aload 0), (gm_getI 5 502), (gm_op2 gm_sub), gm_max, (gm_putI 5 500), gm_vret] := rfl
theorem eX5_seep (d : Nat) (as : List gm_V) (M : gm_M) (h : gm_wd as ≤ 1) : gm_go (d + 1) 37 as M = gm_ex (gm_go d) qX5_seep 100000 0 (gm_pad 1 (gm_ent as)) [] M := if_pos ⟨by decide, h⟩
def qX5_takeIn : Nat → List gm_A := fun b => pX5_takeIn.getD b []
theorem qX5_takeIn_0 : qX5_takeIn 0 = [(gm_iload 1), (gm_push (.inl 0)), (gm_aload 0), (gm_getI 5 501), (gm_aload 0), (gm_getI 5 500), (gm_op2 gm_sub), gm_max, gm_min, (gm_istore 2), (gm_aload 0), gm_dup, (gm_getI 5 500), (gm_iload 2), (gm_op2 gm_add), (gm_putI 5 500), (gm_iload 2), gm_iret] := rfl
theorem eX5_takeIn (d : Nat) (as : List gm_V) (M : gm_M) (h : gm_wd as ≤ 3) : gm_go (d + 1) 38 as M = gm_ex (gm_go d) qX5_takeIn 100000 0 (gm_pad 3 (gm_ent as)) [] M := if_pos ⟨by decide, h⟩
def qX5_giveOut : Nat → List gm_A := fun b => pX5_giveOut.getD b []
theorem qX5_giveOut_0 : qX5_giveOut 0 = [(gm_iload 1), (gm_aload 0), (gm_getI 5 500), gm_min, (gm_istore 2), (gm_aload 0), gm_dup, (gm_getI 5 500), (gm_iload 2), (gm_op2 gm_sub), (gm_putI 5 500), (gm_iload 2), gm_iret] := rfl
theorem eX5_giveOut (d : Nat) (as : List gm_V) (M : gm_M) (h : gm_wd as ≤ 3) : gm_go (d + 1) 39 as M = gm_ex (gm_go d) qX5_giveOut 100000 0 (gm_pad 3 (gm_ent as)) [] M := if_pos ⟨by decide, h⟩
def qX6_init : Nat → List gm_A := fun b => pX6_init.getD b []
theorem qX6_init_0 : qX6_init 0 = [(gm_aload 0), gm_oinit, (gm_aload 0), (gm_push (.inl (-1))), (gm_putI 6 600), (gm_aload 0), (gm_push (.inl 60)), (gm_newarr 21), (gm_putR 6 602), gm_vret] := rfl
theorem eX6_init (d : Nat) (as : List gm_V) (M : gm_M) (h : gm_wd as ≤ 1) : gm_go (d + 1) 40 as M = gm_ex (gm_go d) qX6_init 100000 0 (gm_pad 1 (gm_ent as)) [] M := if_pos ⟨by decide, h⟩
def qX6_become : Nat → List gm_A := fun b => pX6_become.getD b []
theorem qX6_become_0 : qX6_become 0 = [(gm_aload 0), (gm_iload 1), (gm_putI 6 600), (gm_aload 0), (gm_push (.inl 0)), (gm_iload 2), (gm_aload 0), (gm_getR 6 602), gm_alen, gm_min, gm_max, (gm_putI 6 601), (gm_push (.inl 0)), (gm_istore 3), (gm_goto 1)] := rfl
theorem qX6_become_1 : qX6_become 1 = [(gm_iload 3), (gm_aload 0), (gm_getR 6 602), gm_alen, (gm_cge 2), (gm_aload 0), (gm_getR 6 602), (gm_iload 3), (gm_push (.inr (.inl 0))), gm_last, (gm_iinc 3 1), (gm_goto 1)] := rfl
theorem qX6_become_2 : qX6_become 2 = [gm_vret] := rfl
theorem eX6_become (d : Nat) (as : List gm_V) (M : gm_M) (h : gm_wd as ≤ 4) : gm_go (d + 1) 41 as M = gm_ex (gm_go d) qX6_become 100000 0 (gm_pad 4 (gm_ent as)) [] M := if_pos ⟨by decide, h⟩
def qX6_isEmpty : Nat → List gm_A := fun b => pX6_isEmpty.getD b []
theorem qX6_isEmpty_0 : qX6_isEmpty 0 = [(gm_aload 0), (gm_getI 6 600), (gm_push (.inl (-1))), (gm_cne 1), (gm_push (.inl 1)), (gm_goto 2)] := rfl
theorem qX6_isEmpty_1 : qX6_isEmpty 1 = [(gm_push (.inl 0)), (gm_goto 2)] := rfl
theorem qX6_isEmpty_2 : qX6_isEmpty 2 = [gm_zret] := rfl
theorem eX6_isEmpty (d : Nat) (as : List gm_V) (M : gm_M) (h : gm_wd as ≤ 1) : gm_go (d + 1) 42 as M = gm_ex (gm_go d) qX6_isEmpty 100000 0 (gm_pad 1 (gm_ent as)) [] M := if_pos ⟨by decide, h⟩
def qX6_has : Nat → List gm_A := fun b => pX6_has.getD b []
theorem qX6_has_0 : qX6_has 0 = [(gm_iload 1), (gm_iflt 1), (gm_iload 1), (gm_aload 0), (gm_getI 6 601), (gm_cge 1), (gm_iload 1), (gm_aload 0), (gm_getR 6 602), gm_alen, (gm_cge 1), (gm_push (.inl 1)), (gm_goto 2)] := rfl
theorem qX6_has_1 : qX6_has 1 = [(gm_push (.inl 0)), (gm_goto 2)] := rfl
theorem qX6_has_2 : qX6_has 2 = [gm_zret] := rfl
theorem eX6_has (d : Nat) (as : List gm_V) (M : gm_M) (h : gm_wd as ≤ 2) : gm_go (d + 1) 43 as M = gm_ex (gm_go d) qX6_has 100000 0 (gm_pad 2 (gm_ent as)) [] M := if_pos ⟨by decide, h⟩
def qX6_cut : Nat → List gm_A := fun b => pX6_cut.getD b []
theorem qX6_cut_0 : qX6_cut 0 = [(gm_aload 0), (gm_getI 6 600), (gm_switch [(0, 1), (1, 2), (2, 3), (3, 7), (4, 4)] 7)] := rfl
theorem qX6_cut_1 : qX6_cut 1 = [(gm_lload 1), gm_l2i, (gm_op1 gm_i2b), gm_i2l, gm_lret] := rfl
theorem qX6_cut_2 : qX6_cut 2 = [(gm_lload 1), gm_l2i, (gm_op1 gm_i2s), gm_i2l, gm_lret] := rfl
theorem qX6_cut_3 : qX6_cut 3 = [(gm_lload 1), gm_l2i, gm_i2l, gm_lret] := rfl
theorem qX6_cut_4 : qX6_cut 4 = [(gm_lload 1), (gm_push (.inr (.inl 0))), gm_lcmp, (gm_ifeq 5), (gm_push (.inr (.inl 1))), (gm_goto 6)] := rfl
theorem qX6_cut_5 : qX6_cut 5 = [(gm_push (.inr (.inl 0))), (gm_goto 6)] := rfl
theorem qX6_cut_6 : qX6_cut 6 = [gm_lret] := rfl
theorem qX6_cut_7 : qX6_cut 7 = [(gm_lload 1), gm_lret] := rfl
theorem eX6_cut (d : Nat) (as : List gm_V) (M : gm_M) (h : gm_wd as ≤ 3) : gm_go (d + 1) 44 as M = gm_ex (gm_go d) qX6_cut 100000 0 (gm_pad 3 (gm_ent as)) [] M := if_pos ⟨by decide, h⟩
def qX7_init : Nat → List gm_A := fun b => pX7_init.getD b []
theorem qX7_init_0 : qX7_init 0 = [(gm_aload 0), gm_oinit, (gm_aload 0), (gm_push (.inl 6)), (gm_newarr 24), (gm_putR 7 700), (gm_aload 0), (gm_push (.inl (-1))), (gm_putI 7 703), (gm_aload 0), (gm_push (.inl 8)), (gm_newarr 20), (gm_putR 7 704), (gm_aload 0), (gm_push (.inl 8)), (gm_newarr 20), (gm_putR 7 705), (gm_aload 0), (gm_push (.inl 8)), (gm_newarr 20), (gm_putR 7 706), (gm_aload 0), (gm_push (.inl 12)), (gm_newarr 20), (gm_putR 7 708), (gm_push (.inl 0)), (gm_istore 1), (gm_goto 1)] := rfl
theorem qX7_init_1 : qX7_init 1 = [(gm_iload 1), (gm_aload 0), (gm_getR 7 700), gm_alen, (gm_cge 2), (gm_aload 0), (gm_getR 7 700), (gm_iload 1), (gm_new 2), gm_dup, (gm_vcall 2 11 1), (gm_aast 24 2), (gm_iinc 1 1), (gm_goto 1)] := rfl
theorem qX7_init_2 : qX7_init 2 = [gm_vret] := rfl
theorem eX7_init (d : Nat) (as : List gm_V) (M : gm_M) (h : gm_wd as ≤ 2) : gm_go (d + 1) 45 as M = gm_ex (gm_go d) qX7_init 100000 0 (gm_pad 2 (gm_ent as)) [] M := if_pos ⟨by decide, h⟩
def qX7_become : Nat → List gm_A := fun b => pX7_become.getD b []
theorem qX7_become_0 : qX7_become 0 = [(gm_push (.inl 0)), (gm_istore 2), (gm_goto 1)] := rfl
theorem qX7_become_1 : qX7_become 1 = [(gm_iload 2), (gm_aload 1), (gm_getI 7 701), (gm_cge 2), (gm_iload 2), (gm_aload 0), (gm_getR 7 700), gm_alen, (gm_cge 2), (gm_iload 2), (gm_aload 1), (gm_getR 7 700), gm_alen, (gm_cge 2), (gm_aload 0), (gm_getR 7 700), (gm_iload 2), (gm_aald 24), (gm_aload 1), (gm_getR 7 700), (gm_iload 2), (gm_aald 24), (gm_vcall 2 13 2), (gm_iinc 2 1), (gm_goto 1)] := rfl
theorem qX7_become_2 : qX7_become 2 = [(gm_aload 0), (gm_aload 1), (gm_getI 7 701), (gm_putI 7 701), (gm_aload 0), (gm_aload 1), (gm_getI 7 702), (gm_putI 7 702), (gm_aload 0), (gm_aload 1), (gm_getI 7 703), (gm_putI 7 703), (gm_aload 1), (gm_getR 7 704), (gm_push (.inl 0)), (gm_aload 0), (gm_getR 7 704), (gm_push (.inl 0)), (gm_aload 0), (gm_getR 7 704), gm_alen, (gm_acp 20), (gm_aload 1), (gm_getR 7 705), (gm_push (.inl 0)), (gm_aload 0), (gm_getR 7 705), (gm_push (.inl 0)), (gm_aload 0), (gm_getR 7 705), gm_alen, (gm_acp 20), (gm_aload 1), (gm_getR 7 706), (gm_push (.inl 0)), (gm_aload 0), (gm_getR 7 706), (gm_push (.inl 0)), (gm_aload 0), (gm_getR 7 706), gm_alen, (gm_acp 20), (gm_aload 0), (gm_aload 1), (gm_getI 7 707), (gm_putI 7 707), (gm_aload 1), (gm_getR 7 708), (gm_push (.inl 0)), (gm_aload 0), (gm_getR 7 708), (gm_push (.inl 0)), (gm_aload 0), (gm_getR 7 708), gm_alen, (gm_acp 20), (gm_aload 0), (gm_aload 1), (gm_getI 7 709), (gm_putI 7 709), gm_vret] := rfl
theorem eX7_become (d : Nat) (as : List gm_V) (M : gm_M) (h : gm_wd as ≤ 3) : gm_go (d + 1) 46 as M = gm_ex (gm_go d) qX7_become 100000 0 (gm_pad 3 (gm_ent as)) [] M := if_pos ⟨by decide, h⟩
def qX7_moon : Nat → List gm_A := fun b => pX7_moon.getD b []
theorem qX7_moon_0 : qX7_moon 0 = [(gm_aload 0), (gm_getI 7 702), (gm_push (.inl 28)), (gm_quo gm_rem), gm_iret] := rfl
theorem eX7_moon (d : Nat) (as : List gm_V) (M : gm_M) (h : gm_wd as ≤ 1) : gm_go (d + 1) 47 as M = gm_ex (gm_go d) qX7_moon 100000 0 (gm_pad 1 (gm_ent as)) [] M := if_pos ⟨by decide, h⟩
def qX7_pool : Nat → List gm_A := fun b => pX7_pool.getD b []
theorem qX7_pool_0 : qX7_pool 0 = [(gm_aload 1), (gm_push (.inl 0)), (gm_putI 5 500), (gm_aload 1), (gm_push (.inl 0)), (gm_putI 5 501), (gm_aload 1), (gm_push (.inl 0)), (gm_putI 5 502), (gm_push (.inl 0)), (gm_istore 2), (gm_goto 1)] := rfl
theorem qX7_pool_1 : qX7_pool 1 = [(gm_iload 2), (gm_aload 0), (gm_getI 7 701), (gm_cge 2), (gm_iload 2), (gm_aload 0), (gm_getR 7 700), gm_alen, (gm_cge 2), (gm_aload 0), (gm_getR 7 700), (gm_iload 2), (gm_aald 24), (gm_getR 2 205), (gm_astore 3), (gm_aload 1), gm_dup, (gm_getI 5 500), (gm_aload 3), (gm_getI 5 500), (gm_op2 gm_add), (gm_putI 5 500), (gm_aload 1), gm_dup, (gm_getI 5 501), (gm_aload 3), (gm_getI 5 501), (gm_op2 gm_add), (gm_putI 5 501), (gm_aload 1), gm_dup, (gm_getI 5 502), (gm_aload 3), (gm_getI 5 502), (gm_op2 gm_add), (gm_putI 5 502), (gm_iinc 2 1), (gm_goto 1)] := rfl
theorem qX7_pool_2 : qX7_pool 2 = [gm_vret] := rfl
theorem eX7_pool (d : Nat) (as : List gm_V) (M : gm_M) (h : gm_wd as ≤ 4) : gm_go (d + 1) 48 as M = gm_ex (gm_go d) qX7_pool 100000 0 (gm_pad 4 (gm_ent as)) [] M := if_pos ⟨by decide, h⟩
def qX7_passWith : Nat → List gm_A := fun b => pX7_passWith.getD b []
theorem qX7_passWith_0 : qX7_passWith 0 = [(gm_aload 1), (gm_getI 5 500), (gm_istore 3), (gm_push (.inl 0)), (gm_istore 4), (gm_aload 1), (gm_vcall 5 37 1), (gm_push (.inl 0)), (gm_istore 5), (gm_goto 1)] := rfl
theorem qX7_passWith_1 : qX7_passWith 1 = [(gm_iload 5), (gm_aload 0), (gm_getI 7 701), (gm_cge 3), (gm_iload 5), (gm_aload 0), (gm_getR 7 700), gm_alen, (gm_cge 3), (gm_aload 0), (gm_getR 7 700), (gm_iload 5), (gm_aald 24), (gm_astore 6), (gm_aload 6), (gm_aload 2), (gm_aload 6), (gm_aload 2), (gm_aload 0), (gm_vcall 7 47 1), (gm_iload 3), (gm_push (.inl 0)), (gm_vcall 2 15 5), (gm_aload 1), (gm_vcall 2 16 4), (gm_ifeq 2), (gm_push (.inl 1)), (gm_istore 4), (gm_goto 2)] := rfl
theorem qX7_passWith_2 : qX7_passWith 2 = [(gm_iinc 5 1), (gm_goto 1)] := rfl
theorem qX7_passWith_3 : qX7_passWith 3 = [(gm_aload 0), gm_dup, (gm_getI 7 702), (gm_push (.inl 1)), (gm_op2 gm_add), (gm_putI 7 702), (gm_iload 4), gm_zret] := rfl
theorem eX7_passWith (d : Nat) (as : List gm_V) (M : gm_M) (h : gm_wd as ≤ 7) : gm_go (d + 1) 49 as M = gm_ex (gm_go d) qX7_passWith 100000 0 (gm_pad 7 (gm_ent as)) [] M := if_pos ⟨by decide, h⟩
def qX7_lastSeenDay : Nat → List gm_A := fun b => pX7_lastSeenDay.getD b []
theorem qX7_lastSeenDay_0 : qX7_lastSeenDay 0 = [(gm_push (.inl (-1))), (gm_istore 2), (gm_push (.inl 0)), (gm_istore 3), (gm_goto 1)] := rfl
theorem qX7_lastSeenDay_1 : qX7_lastSeenDay 1 = [(gm_iload 3), (gm_aload 0), (gm_getI 7 707), (gm_cge 3), (gm_iload 3), (gm_aload 0), (gm_getR 7 704), gm_alen, (gm_cge 3), (gm_aload 0), (gm_getR 7 704), (gm_iload 3), gm_iald, (gm_iload 1), (gm_cne 2), (gm_iload 2), (gm_aload 0), (gm_getR 7 705), (gm_iload 3), gm_iald, gm_max, (gm_istore 2), (gm_goto 2)] := rfl
theorem qX7_lastSeenDay_2 : qX7_lastSeenDay 2 = [(gm_iinc 3 1), (gm_goto 1)] := rfl
theorem qX7_lastSeenDay_3 : qX7_lastSeenDay 3 = [(gm_iload 2), gm_iret] := rfl
theorem eX7_lastSeenDay (d : Nat) (as : List gm_V) (M : gm_M) (h : gm_wd as ≤ 4) : gm_go (d + 1) 50 as M = gm_ex (gm_go d) qX7_lastSeenDay 100000 0 (gm_pad 4 (gm_ent as)) [] M := if_pos ⟨by decide, h⟩
def qX7_wasSeenSo : Nat → List gm_A := fun b => pX7_wasSeenSo.getD b []
theorem qX7_wasSeenSo_0 : qX7_wasSeenSo 0 = [(gm_push (.inl 0)), (gm_istore 4), (gm_goto 1)] := rfl
theorem qX7_wasSeenSo_1 : qX7_wasSeenSo 1 = [(gm_iload 4), (gm_aload 0), (gm_getI 7 707), (gm_cge 3), (gm_iload 4), (gm_aload 0), (gm_getR 7 704), gm_alen, (gm_cge 3), (gm_aload 0), (gm_getR 7 704), (gm_iload 4), gm_iald, (gm_iload 1), (gm_cne 2), (gm_aload 0), (gm_getR 7 705), (gm_iload 4), gm_iald, (gm_iload 2), (gm_cne 2), (gm_aload 0), (gm_getR 7 706), (gm_iload 4), gm_iald, (gm_iload 3), (gm_ceq 2), (gm_push (.inl 0)), gm_zret] := rfl
theorem qX7_wasSeenSo_2 : qX7_wasSeenSo 2 = [(gm_iinc 4 1), (gm_goto 1)] := rfl
theorem qX7_wasSeenSo_3 : qX7_wasSeenSo 3 = [(gm_push (.inl 1)), gm_zret] := rfl
theorem eX7_wasSeenSo (d : Nat) (as : List gm_V) (M : gm_M) (h : gm_wd as ≤ 5) : gm_go (d + 1) 51 as M = gm_ex (gm_go d) qX7_wasSeenSo 100000 0 (gm_pad 5 (gm_ent as)) [] M := if_pos ⟨by decide, h⟩
def qX8_init : Nat → List gm_A := fun b => pX8_init.getD b []
theorem qX8_init_0 : qX8_init 0 = [(gm_aload 0), gm_oinit, (gm_aload 0), (gm_new 7), gm_dup, (gm_vcall 7 45 1), (gm_putR 8 800), (gm_aload 0), (gm_new 7), gm_dup, (gm_vcall 7 45 1), (gm_putR 8 801), (gm_aload 0), (gm_new 7), gm_dup, (gm_vcall 7 45 1), (gm_putR 8 803), (gm_aload 0), (gm_new 2), gm_dup, (gm_vcall 2 11 1), (gm_putR 8 804), (gm_aload 0), (gm_new 2), gm_dup, (gm_vcall 2 11 1), (gm_putR 8 805), (gm_aload 0), (gm_new 5), gm_dup, (gm_vcall 5 35 1), (gm_putR 8 806), (gm_aload 0), (gm_new 4), gm_dup, (gm_vcall 4 24 1), (gm_putR 8 807), (gm_aload 0), (gm_new 1), gm_dup, (gm_vcall 1 7 1), (gm_putR 8 808), (gm_aload 0), (gm_push (.inl 6)), (gm_newarr 25), (gm_putR 8 809), (gm_aload 0), (gm_new 3), gm_dup, (gm_vcall 3 20 1), (gm_putR 8 811), (gm_aload 0), (gm_push (.inl 6)), (gm_newarr 26), (gm_putR 8 812), (gm_push (.inl 0)), (gm_istore 1), (gm_goto 1)] := rfl
theorem qX8_init_1 : qX8_init 1 = [(gm_iload 1), (gm_aload 0), (gm_getR 8 809), gm_alen, (gm_cge 2), (gm_aload 0), (gm_getR 8 809), (gm_iload 1), (gm_new 1), gm_dup, (gm_vcall 1 7 1), (gm_aast 25 1), (gm_iinc 1 1), (gm_goto 1)] := rfl
theorem qX8_init_2 : qX8_init 2 = [(gm_push (.inl 0)), (gm_istore 1), (gm_goto 3)] := rfl
theorem qX8_init_3 : qX8_init 3 = [(gm_iload 1), (gm_aload 0), (gm_getR 8 812), gm_alen, (gm_cge 4), (gm_aload 0), (gm_getR 8 812), (gm_iload 1), (gm_new 6), gm_dup, (gm_vcall 6 40 1), (gm_aast 26 6), (gm_iinc 1 1), (gm_goto 3)] := rfl
theorem qX8_init_4 : qX8_init 4 = [gm_vret] := rfl
theorem eX8_init (d : Nat) (as : List gm_V) (M : gm_M) (h : gm_wd as ≤ 2) : gm_go (d + 1) 52 as M = gm_ex (gm_go d) qX8_init 100000 0 (gm_pad 2 (gm_ent as)) [] M := if_pos ⟨by decide, h⟩
def qX8_house : Nat → List gm_A := fun b => pX8_house.getD b []
theorem qX8_house_0 : qX8_house 0 = [(gm_iload 1), (gm_push (.inl 6)), (gm_scall 89 2), (gm_ifne 1), (gm_push (.inl (-1))), gm_iret] := rfl
theorem qX8_house_1 : qX8_house 1 = [(gm_iload 2), (gm_push (.inl 9)), (gm_scall 89 2), (gm_ifeq 2), (gm_iload 3), (gm_push (.inl 199)), (gm_scall 89 2), (gm_ifeq 2), (gm_iload 4), (gm_push (.inl 99)), (gm_scall 89 2), (gm_ifne 3), (gm_goto 2)] := rfl
theorem qX8_house_2 : qX8_house 2 = [(gm_push (.inl (-2))), gm_iret] := rfl
theorem qX8_house_3 : qX8_house 3 = [(gm_aload 0), (gm_getR 8 800), (gm_getI 7 701), (gm_push (.inl 6)), (gm_clt 4), (gm_push (.inl (-4))), gm_iret] := rfl
theorem qX8_house_4 : qX8_house 4 = [(gm_aload 0), (gm_getR 8 800), (gm_getI 7 701), (gm_istore 5), (gm_aload 0), (gm_getR 8 800), (gm_getR 7 700), (gm_iload 5), (gm_aald 24), (gm_iload 5), (gm_iload 1), (gm_iload 2), (gm_iload 3), (gm_iload 4), (gm_vcall 2 12 6), (gm_aload 0), (gm_getR 8 800), gm_dup, (gm_getI 7 701), (gm_push (.inl 1)), (gm_op2 gm_add), (gm_putI 7 701), (gm_iload 5), gm_iret] := rfl
theorem eX8_house (d : Nat) (as : List gm_V) (M : gm_M) (h : gm_wd as ≤ 6) : gm_go (d + 1) 53 as M = gm_ex (gm_go d) qX8_house 100000 0 (gm_pad 6 (gm_ent as)) [] M := if_pos ⟨by decide, h⟩
def qX8_of : Nat → List gm_A := fun b => pX8_of.getD b []
theorem qX8_of_0 : qX8_of 0 = [(gm_aload 0), (gm_iload 1), (gm_vcall 8 91 2), (gm_astore 3), (gm_aload 3), (gm_ifnonnull 1), (gm_push (.inl (-10001))), gm_iret] := rfl
theorem qX8_of_1 : qX8_of 1 = [(gm_aload 0), (gm_vcall 8 93 1), (gm_astore 4), (gm_aload 0), (gm_getR 8 800), (gm_vcall 7 47 1), (gm_istore 5), (gm_aload 3), (gm_getR 2 205), (gm_getI 5 500), (gm_istore 6), (gm_iload 2), (gm_switch [(0, 2), (1, 3), (2, 4), (3, 5), (4, 6), (5, 7), (6, 8), (7, 9), (8, 10), (9, 11)] 12)] := rfl
theorem qX8_of_2 : qX8_of 2 = [(gm_aload 3), (gm_getI 2 201), gm_iret] := rfl
theorem qX8_of_3 : qX8_of 3 = [(gm_aload 3), (gm_getI 2 202), gm_iret] := rfl
theorem qX8_of_4 : qX8_of 4 = [(gm_aload 3), (gm_getI 2 203), gm_iret] := rfl
theorem qX8_of_5 : qX8_of 5 = [(gm_iload 6), gm_iret] := rfl
theorem qX8_of_6 : qX8_of 6 = [(gm_aload 3), (gm_getI 2 204), gm_iret] := rfl
theorem qX8_of_7 : qX8_of 7 = [(gm_aload 3), (gm_getR 2 205), (gm_getI 5 502), gm_iret] := rfl
theorem qX8_of_8 : qX8_of 8 = [(gm_aload 3), (gm_getR 2 205), (gm_getI 5 501), gm_iret] := rfl
theorem qX8_of_9 : qX8_of 9 = [(gm_aload 4), (gm_aload 3), (gm_iload 5), (gm_iload 6), (gm_vcall 1 9 4), gm_iret] := rfl
theorem qX8_of_10 : qX8_of 10 = [(gm_aload 4), (gm_aload 3), (gm_iload 5), (gm_iload 6), (gm_vcall 1 10 4), gm_iret] := rfl
theorem qX8_of_11 : qX8_of 11 = [(gm_aload 3), (gm_aload 4), (gm_iload 5), (gm_iload 6), (gm_push (.inl 0)), (gm_vcall 2 15 5), gm_iret] := rfl
theorem qX8_of_12 : qX8_of 12 = [(gm_push (.inl (-10001))), gm_iret] := rfl
theorem eX8_of (d : Nat) (as : List gm_V) (M : gm_M) (h : gm_wd as ≤ 7) : gm_go (d + 1) 54 as M = gm_ex (gm_go d) qX8_of 100000 0 (gm_pad 7 (gm_ent as)) [] M := if_pos ⟨by decide, h⟩
def qX8_set : Nat → List gm_A := fun b => pX8_set.getD b []
theorem qX8_set_0 : qX8_set 0 = [(gm_aload 0), (gm_iload 1), (gm_vcall 8 91 2), (gm_astore 4), (gm_aload 4), (gm_ifnull 1), (gm_iload 2), (gm_push (.inl 2)), (gm_scall 89 2), (gm_ifne 2), (gm_goto 1)] := rfl
theorem qX8_set_1 : qX8_set 1 = [(gm_push (.inl (-1))), gm_iret] := rfl
theorem qX8_set_2 : qX8_set 2 = [(gm_iload 2), (gm_ifne 3), (gm_push (.inl 199)), (gm_goto 5)] := rfl
theorem qX8_set_3 : qX8_set 3 = [(gm_iload 2), (gm_push (.inl 1)), (gm_cne 4), (gm_aload 4), (gm_getR 2 205), (gm_getI 5 501), (gm_goto 5)] := rfl
theorem qX8_set_4 : qX8_set 4 = [(gm_push (.inl 9)), (gm_goto 5)] := rfl
theorem qX8_set_5 : qX8_set 5 = [(gm_istore 5), (gm_iload 3), (gm_iload 5), (gm_scall 89 2), (gm_ifne 6), (gm_push (.inl (-2))), gm_iret] := rfl
theorem qX8_set_6 : qX8_set 6 = [(gm_iload 2), (gm_ifne 7), (gm_aload 4), (gm_getI 2 203), (gm_istore 6), (gm_aload 4), (gm_iload 3), (gm_putI 2 203), (gm_goto 9)] := rfl
theorem qX8_set_7 : qX8_set 7 = [(gm_iload 2), (gm_push (.inl 1)), (gm_cne 8), (gm_aload 4), (gm_getR 2 205), (gm_getI 5 500), (gm_istore 6), (gm_aload 4), (gm_getR 2 205), (gm_iload 3), (gm_putI 5 500), (gm_goto 9)] := rfl
theorem qX8_set_8 : qX8_set 8 = [(gm_aload 4), (gm_getR 2 205), (gm_getI 5 502), (gm_istore 6), (gm_aload 4), (gm_getR 2 205), (gm_iload 3), (gm_putI 5 502), (gm_goto 9)] := rfl
theorem qX8_set_9 : qX8_set 9 = [(gm_iload 6), gm_iret] := rfl
theorem eX8_set (d : Nat) (as : List gm_V) (M : gm_M) (h : gm_wd as ≤ 7) : gm_go (d + 1) 55 as M = gm_ex (gm_go d) qX8_set 100000 0 (gm_pad 7 (gm_ent as)) [] M := if_pos ⟨by decide, h⟩
def qX8_row : Nat → List gm_A := fun b => pX8_row.getD b []
theorem qX8_row_0 : qX8_row 0 = [(gm_aload 0), (gm_iload 1), (gm_vcall 8 91 2), (gm_astore 4), (gm_aload 4), (gm_ifnull 1), (gm_iload 2), (gm_iflt 1), (gm_iload 2), (gm_aload 4), (gm_getR 2 206), gm_alen, (gm_clt 2), (gm_goto 1)] := rfl
theorem qX8_row_1 : qX8_row 1 = [(gm_push (.inl (-1))), gm_iret] := rfl
theorem qX8_row_2 : qX8_row 2 = [(gm_iload 3), (gm_push (.inl 9)), (gm_scall 89 2), (gm_ifne 3), (gm_push (.inl (-2))), gm_iret] := rfl
theorem qX8_row_3 : qX8_row 3 = [(gm_aload 4), (gm_getI 2 201), (gm_push (.inl 6)), (gm_ceq 4), (gm_push (.inl (-3))), gm_iret] := rfl
theorem qX8_row_4 : qX8_row 4 = [(gm_aload 4), (gm_getR 2 206), (gm_iload 2), gm_iald, (gm_istore 5), (gm_aload 4), (gm_getR 2 206), (gm_iload 2), (gm_iload 3), gm_iast, (gm_iload 5), gm_iret] := rfl
theorem eX8_row (d : Nat) (as : List gm_V) (M : gm_M) (h : gm_wd as ≤ 6) : gm_go (d + 1) 56 as M = gm_ex (gm_go d) qX8_row 100000 0 (gm_pad 6 (gm_ent as)) [] M := if_pos ⟨by decide, h⟩
def qX8_feed : Nat → List gm_A := fun b => pX8_feed.getD b []
theorem qX8_feed_0 : qX8_feed 0 = [(gm_iload 1), (gm_push (.inl 127)), (gm_scall 89 2), (gm_ifne 1), (gm_push (.inl (-2))), gm_iret] := rfl
theorem qX8_feed_1 : qX8_feed 1 = [(gm_aload 0), (gm_getR 8 807), (gm_iload 1), (gm_op1 gm_i2c), (gm_vcall 4 25 2), (gm_ifeq 2), (gm_aload 0), (gm_getR 8 807), (gm_getI 4 401), (gm_goto 3)] := rfl
theorem qX8_feed_2 : qX8_feed 2 = [(gm_push (.inl (-4))), (gm_goto 3)] := rfl
theorem qX8_feed_3 : qX8_feed 3 = [gm_iret] := rfl
theorem eX8_feed (d : Nat) (as : List gm_V) (M : gm_M) (h : gm_wd as ≤ 2) : gm_go (d + 1) 57 as M = gm_ex (gm_go d) qX8_feed 100000 0 (gm_pad 2 (gm_ent as)) [] M := if_pos ⟨by decide, h⟩
def qX8_ground : Nat → List gm_A := fun b => pX8_ground.getD b []
theorem qX8_ground_0 : qX8_ground 0 = [(gm_aload 0), (gm_getI 8 810), (gm_aload 0), (gm_getR 8 809), gm_alen, (gm_clt 1), (gm_push (.inl (-4))), gm_iret] := rfl
theorem qX8_ground_1 : qX8_ground 1 = [(gm_aload 0), (gm_getR 8 807), (gm_aload 0), (gm_getR 8 809), (gm_aload 0), (gm_getI 8 810), (gm_aald 25), (gm_vcall 4 26 2), (gm_istore 1), (gm_iload 1), (gm_iflt 2), (gm_push (.inl (-10))), (gm_iload 1), (gm_op2 gm_sub), gm_iret] := rfl
theorem qX8_ground_2 : qX8_ground 2 = [(gm_aload 0), (gm_getR 8 800), (gm_aload 0), (gm_getI 8 810), (gm_putI 7 703), (gm_aload 0), gm_dup, (gm_getI 8 810), (gm_push (.inl 1)), (gm_op2 gm_add), (gm_putI 8 810), (gm_aload 0), (gm_getR 8 800), (gm_getI 7 703), gm_iret] := rfl
theorem eX8_ground (d : Nat) (as : List gm_V) (M : gm_M) (h : gm_wd as ≤ 2) : gm_go (d + 1) 58 as M = gm_ex (gm_go d) qX8_ground 100000 0 (gm_pad 2 (gm_ent as)) [] M := if_pos ⟨by decide, h⟩
def qX8_told : Nat → List gm_A := fun b => pX8_told.getD b []
theorem qX8_told_0 : qX8_told 0 = [(gm_iload 1), (gm_switch [(0, 1), (1, 2), (2, 3), (3, 6), (4, 7)] 8)] := rfl
theorem qX8_told_1 : qX8_told 1 = [(gm_aload 0), (gm_getR 8 800), (gm_getI 7 702), gm_iret] := rfl
theorem qX8_told_2 : qX8_told 2 = [(gm_aload 0), (gm_getR 8 800), (gm_vcall 7 47 1), gm_iret] := rfl
theorem qX8_told_3 : qX8_told 3 = [(gm_aload 0), (gm_getR 8 800), (gm_vcall 7 47 1), (gm_scall 90 1), (gm_ifeq 4), (gm_push (.inl 1)), (gm_goto 5)] := rfl
theorem qX8_told_4 : qX8_told 4 = [(gm_push (.inl 0)), (gm_goto 5)] := rfl
theorem qX8_told_5 : qX8_told 5 = [gm_iret] := rfl
theorem qX8_told_6 : qX8_told 6 = [(gm_aload 0), (gm_vcall 8 93 1), (gm_getI 1 102), gm_iret] := rfl
theorem qX8_told_7 : qX8_told 7 = [(gm_aload 0), (gm_vcall 8 93 1), (gm_getI 1 103), gm_iret] := rfl
theorem qX8_told_8 : qX8_told 8 = [(gm_push (.inl (-1))), gm_iret] := rfl
theorem eX8_told (d : Nat) (as : List gm_V) (M : gm_M) (h : gm_wd as ≤ 2) : gm_go (d + 1) 59 as M = gm_ex (gm_go d) qX8_told 100000 0 (gm_pad 2 (gm_ent as)) [] M := if_pos ⟨by decide, h⟩
def qX8_day : Nat → List gm_A := fun b => pX8_day.getD b []
theorem qX8_day_0 : qX8_day 0 = [(gm_aload 0), (gm_getR 8 800), (gm_getI 7 702), (gm_push (.inl 9999)), (gm_clt 1), (gm_push (.inl (-3))), gm_iret] := rfl
theorem qX8_day_1 : qX8_day 1 = [(gm_aload 0), (gm_vcall 8 93 1), (gm_astore 1), (gm_push (.inl 0)), (gm_istore 2), (gm_push (.inl 0)), (gm_istore 3), (gm_goto 2)] := rfl
theorem qX8_day_2 : qX8_day 2 = [(gm_iload 3), (gm_aload 0), (gm_getR 8 800), (gm_getI 7 701), (gm_cge 4), (gm_iload 3), (gm_aload 0), (gm_getR 8 800), (gm_getR 7 700), gm_alen, (gm_cge 4), (gm_aload 0), (gm_getR 8 800), (gm_getR 7 700), (gm_iload 3), (gm_aald 24), (gm_aload 1), (gm_aload 0), (gm_getR 8 800), (gm_getI 7 702), (gm_push (.inl 0)), (gm_vcall 2 17 4), (gm_ifeq 3), (gm_iload 2), (gm_push (.inl 1)), (gm_iload 3), (gm_op2 gm_shl), (gm_op2 gm_or), (gm_istore 2), (gm_goto 3)] := rfl
theorem qX8_day_3 : qX8_day 3 = [(gm_iinc 3 1), (gm_goto 2)] := rfl
theorem qX8_day_4 : qX8_day 4 = [(gm_aload 0), (gm_getR 8 800), gm_dup, (gm_getI 7 702), (gm_push (.inl 1)), (gm_op2 gm_add), (gm_putI 7 702), (gm_iload 2), gm_iret] := rfl
theorem eX8_day (d : Nat) (as : List gm_V) (M : gm_M) (h : gm_wd as ≤ 4) : gm_go (d + 1) 60 as M = gm_ex (gm_go d) qX8_day 100000 0 (gm_pad 4 (gm_ent as)) [] M := if_pos ⟨by decide, h⟩
def qX8_on : Nat → List gm_A := fun b => pX8_on.getD b []
theorem qX8_on_0 : qX8_on 0 = [(gm_aload 0), (gm_iload 1), (gm_vcall 8 91 2), (gm_astore 4), (gm_aload 4), (gm_ifnull 1), (gm_iload 3), (gm_push (.inl 2)), (gm_scall 89 2), (gm_ifne 2), (gm_goto 1)] := rfl
theorem qX8_on_1 : qX8_on 1 = [(gm_push (.inl (-1))), gm_iret] := rfl
theorem qX8_on_2 : qX8_on 2 = [(gm_iload 2), (gm_push (.inl 60)), (gm_scall 89 2), (gm_ifne 3), (gm_push (.inl (-2))), gm_iret] := rfl
theorem qX8_on_3 : qX8_on 3 = [(gm_aload 0), (gm_getR 8 804), (gm_aload 4), (gm_vcall 2 13 2), (gm_aload 0), (gm_getR 8 804), (gm_aload 0), (gm_vcall 8 93 1), (gm_aload 0), (gm_getR 8 800), (gm_getI 7 702), (gm_iload 2), (gm_push (.inl 0)), (gm_vcall 2 19 5), (gm_istore 5), (gm_iload 3), (gm_ifne 4), (gm_aload 0), (gm_getR 8 804), (gm_getI 2 203), (gm_goto 6)] := rfl
theorem qX8_on_4 : qX8_on 4 = [(gm_iload 3), (gm_push (.inl 1)), (gm_cne 5), (gm_aload 0), (gm_getR 8 804), (gm_getR 2 205), (gm_getI 5 500), (gm_goto 6)] := rfl
theorem qX8_on_5 : qX8_on 5 = [(gm_iload 5), (gm_goto 6)] := rfl
theorem qX8_on_6 : qX8_on 6 = [gm_iret] := rfl
theorem eX8_on (d : Nat) (as : List gm_V) (M : gm_M) (h : gm_wd as ≤ 6) : gm_go (d + 1) 61 as M = gm_ex (gm_go d) qX8_on 100000 0 (gm_pad 6 (gm_ent as)) [] M := if_pos ⟨by decide, h⟩
def qX8_first : Nat → List gm_A := fun b => pX8_first.getD b []
theorem qX8_first_0 : qX8_first 0 = [(gm_aload 0), (gm_iload 1), (gm_vcall 8 91 2), (gm_astore 2), (gm_aload 2), (gm_ifnonnull 1), (gm_push (.inl (-1))), gm_iret] := rfl
theorem qX8_first_1 : qX8_first 1 = [(gm_aload 0), (gm_getR 8 804), (gm_aload 2), (gm_vcall 2 13 2), (gm_aload 0), (gm_getR 8 804), (gm_aload 0), (gm_vcall 8 93 1), (gm_aload 0), (gm_getR 8 800), (gm_getI 7 702), (gm_vcall 2 18 3), gm_iret] := rfl
theorem eX8_first (d : Nat) (as : List gm_V) (M : gm_M) (h : gm_wd as ≤ 3) : gm_go (d + 1) 62 as M = gm_ex (gm_go d) qX8_first 100000 0 (gm_pad 3 (gm_ent as)) [] M := if_pos ⟨by decide, h⟩
def qX8_never : Nat → List gm_A := fun b => pX8_never.getD b []
theorem qX8_never_0 : qX8_never 0 = [(gm_aload 0), (gm_vcall 8 93 1), (gm_astore 1), (gm_push (.inl 0)), (gm_istore 2), (gm_push (.inl 0)), (gm_istore 3), (gm_goto 1)] := rfl
theorem qX8_never_1 : qX8_never 1 = [(gm_iload 3), (gm_aload 0), (gm_getR 8 800), (gm_getI 7 701), (gm_cge 3), (gm_iload 3), (gm_aload 0), (gm_getR 8 800), (gm_getR 7 700), gm_alen, (gm_cge 3), (gm_aload 0), (gm_getR 8 804), (gm_aload 0), (gm_getR 8 800), (gm_getR 7 700), (gm_iload 3), (gm_aald 24), (gm_vcall 2 13 2), (gm_aload 0), (gm_getR 8 804), (gm_aload 1), (gm_aload 0), (gm_getR 8 800), (gm_getI 7 702), (gm_vcall 2 18 3), (gm_push (.inl (-5))), (gm_cne 2), (gm_iload 2), (gm_push (.inl 1)), (gm_iload 3), (gm_op2 gm_shl), (gm_op2 gm_or), (gm_istore 2), (gm_goto 2)] := rfl
theorem qX8_never_2 : qX8_never 2 = [(gm_iinc 3 1), (gm_goto 1)] := rfl
theorem qX8_never_3 : qX8_never 3 = [(gm_iload 2), gm_iret] := rfl
theorem eX8_never (d : Nat) (as : List gm_V) (M : gm_M) (h : gm_wd as ≤ 4) : gm_go (d + 1) 63 as M = gm_ex (gm_go d) qX8_never 100000 0 (gm_pad 4 (gm_ent as)) [] M := if_pos ⟨by decide, h⟩
def qX8_cap : Nat → List gm_A := fun b => pX8_cap.getD b []
theorem qX8_cap_0 : qX8_cap 0 = [(gm_aload 0), (gm_iload 1), (gm_vcall 8 91 2), (gm_astore 2), (gm_aload 2), (gm_ifnonnull 1), (gm_push (.inl (-1))), gm_iret] := rfl
theorem qX8_cap_1 : qX8_cap 1 = [(gm_aload 0), (gm_vcall 8 93 1), (gm_astore 3), (gm_push (.inl 0)), (gm_istore 4), (gm_goto 2)] := rfl
theorem qX8_cap_2 : qX8_cap 2 = [(gm_iload 4), (gm_push (.inl 99)), (gm_cgt 4), (gm_aload 0), (gm_getR 8 804), (gm_aload 2), (gm_vcall 2 13 2), (gm_aload 0), (gm_getR 8 804), (gm_iload 4), (gm_vcall 2 14 2), (gm_aload 0), (gm_getR 8 804), (gm_aload 3), (gm_aload 0), (gm_getR 8 800), (gm_getI 7 702), (gm_vcall 2 18 3), (gm_push (.inl (-5))), (gm_cne 3), (gm_iload 4), gm_iret] := rfl
theorem qX8_cap_3 : qX8_cap 3 = [(gm_iinc 4 1), (gm_goto 2)] := rfl
theorem qX8_cap_4 : qX8_cap 4 = [(gm_push (.inl (-5))), gm_iret] := rfl
theorem eX8_cap (d : Nat) (as : List gm_V) (M : gm_M) (h : gm_wd as ≤ 5) : gm_go (d + 1) 64 as M = gm_ex (gm_go d) qX8_cap 100000 0 (gm_pad 5 (gm_ent as)) [] M := if_pos ⟨by decide, h⟩
def qX8_full : Nat → List gm_A := fun b => pX8_full.getD b []
theorem qX8_full_0 : qX8_full 0 = [(gm_aload 0), (gm_iload 1), (gm_vcall 8 91 2), (gm_astore 2), (gm_aload 2), (gm_ifnonnull 1), (gm_push (.inl (-1))), gm_iret] := rfl
theorem qX8_full_1 : qX8_full 1 = [(gm_aload 0), (gm_vcall 8 93 1), (gm_astore 3), (gm_push (.inl 0)), (gm_istore 4), (gm_goto 2)] := rfl
theorem qX8_full_2 : qX8_full 2 = [(gm_iload 4), (gm_aload 2), (gm_getR 2 205), (gm_getI 5 501), (gm_cgt 4), (gm_aload 0), (gm_getR 8 804), (gm_aload 2), (gm_vcall 2 13 2), (gm_aload 0), (gm_getR 8 804), (gm_getR 2 205), (gm_iload 4), (gm_putI 5 500), (gm_aload 0), (gm_getR 8 804), (gm_aload 3), (gm_aload 0), (gm_getR 8 800), (gm_getI 7 702), (gm_vcall 2 18 3), (gm_push (.inl (-5))), (gm_cne 3), (gm_iload 4), gm_iret] := rfl
theorem qX8_full_3 : qX8_full 3 = [(gm_iinc 4 1), (gm_goto 2)] := rfl
theorem qX8_full_4 : qX8_full 4 = [(gm_push (.inl (-5))), gm_iret] := rfl
theorem eX8_full (d : Nat) (as : List gm_V) (M : gm_M) (h : gm_wd as ≤ 5) : gm_go (d + 1) 65 as M = gm_ex (gm_go d) qX8_full 100000 0 (gm_pad 5 (gm_ent as)) [] M := if_pos ⟨by decide, h⟩
def qX8_heat : Nat → List gm_A := fun b => pX8_heat.getD b []
theorem qX8_heat_0 : qX8_heat 0 = [(gm_aload 0), (gm_iload 1), (gm_vcall 8 91 2), (gm_astore 3), (gm_aload 3), (gm_ifnull 1), (gm_iload 2), (gm_push (.inl 1)), (gm_scall 89 2), (gm_ifne 2), (gm_goto 1)] := rfl
theorem qX8_heat_1 : qX8_heat 1 = [(gm_push (.inl (-1))), gm_iret] := rfl
theorem qX8_heat_2 : qX8_heat 2 = [(gm_aload 0), (gm_vcall 8 93 1), (gm_astore 4), (gm_push (.inl 0)), (gm_istore 5), (gm_push (.inl 57)), (gm_istore 6), (gm_push (.inl 0)), (gm_istore 7), (gm_goto 3)] := rfl
theorem qX8_heat_3 : qX8_heat 3 = [(gm_iload 7), (gm_push (.inl 190)), (gm_cgt 5), (gm_aload 0), (gm_getR 8 804), (gm_aload 3), (gm_vcall 2 13 2), (gm_aload 0), (gm_getR 8 804), (gm_iload 7), (gm_putI 2 203), (gm_aload 0), (gm_getR 8 804), (gm_aload 4), (gm_aload 0), (gm_getR 8 800), (gm_getI 7 702), (gm_push (.inl 56)), (gm_push (.inl 0)), (gm_vcall 2 19 5), (gm_istore 8), (gm_iload 8), (gm_iload 6), (gm_cge 4), (gm_iload 8), (gm_istore 6), (gm_iload 7), (gm_istore 5), (gm_goto 4)] := rfl
theorem qX8_heat_4 : qX8_heat 4 = [(gm_iinc 7 10), (gm_goto 3)] := rfl
theorem qX8_heat_5 : qX8_heat 5 = [(gm_iload 2), (gm_ifne 6), (gm_iload 5), (gm_goto 7)] := rfl
theorem qX8_heat_6 : qX8_heat 6 = [(gm_iload 6), (gm_goto 7)] := rfl
theorem qX8_heat_7 : qX8_heat 7 = [gm_iret] := rfl
theorem eX8_heat (d : Nat) (as : List gm_V) (M : gm_M) (h : gm_wd as ≤ 9) : gm_go (d + 1) 66 as M = gm_ex (gm_go d) qX8_heat 100000 0 (gm_pad 9 (gm_ent as)) [] M := if_pos ⟨by decide, h⟩
def qX8_big : Nat → List gm_A := fun b => pX8_big.getD b []
theorem qX8_big_0 : qX8_big 0 = [(gm_iload 1), (gm_push (.inl 1)), (gm_scall 89 2), (gm_ifne 1), (gm_push (.inl (-1))), gm_iret] := rfl
theorem qX8_big_1 : qX8_big 1 = [(gm_aload 0), (gm_getR 8 803), (gm_aload 0), (gm_getR 8 800), (gm_vcall 7 46 2), (gm_aload 0), (gm_getR 8 803), (gm_aload 0), (gm_getR 8 806), (gm_vcall 7 48 2), (gm_aload 0), (gm_vcall 8 93 1), (gm_astore 2), (gm_push (.inl 0)), (gm_istore 3), (gm_push (.inl 0)), (gm_istore 4), (gm_goto 2)] := rfl
theorem qX8_big_2 : qX8_big 2 = [(gm_iload 4), (gm_push (.inl 28)), (gm_cge 4), (gm_aload 0), (gm_getR 8 803), (gm_aload 0), (gm_getR 8 806), (gm_aload 2), (gm_vcall 7 49 3), (gm_ifeq 3), (gm_iinc 3 1), (gm_goto 3)] := rfl
theorem qX8_big_3 : qX8_big 3 = [(gm_iinc 4 1), (gm_goto 2)] := rfl
theorem qX8_big_4 : qX8_big 4 = [(gm_iload 1), (gm_ifne 5), (gm_iload 3), (gm_goto 6)] := rfl
theorem qX8_big_5 : qX8_big 5 = [(gm_aload 0), (gm_getR 8 806), (gm_getI 5 500), (gm_goto 6)] := rfl
theorem qX8_big_6 : qX8_big 6 = [gm_iret] := rfl
theorem eX8_big (d : Nat) (as : List gm_V) (M : gm_M) (h : gm_wd as ≤ 5) : gm_go (d + 1) 67 as M = gm_ex (gm_go d) qX8_big 100000 0 (gm_pad 5 (gm_ent as)) [] M := if_pos ⟨by decide, h⟩
def qX8_gives : Nat → List gm_A := fun b => pX8_gives.getD b []
theorem qX8_gives_0 : qX8_gives 0 = [(gm_aload 0), (gm_iload 1), (gm_vcall 8 91 2), (gm_astore 4), (gm_aload 0), (gm_iload 2), (gm_vcall 8 91 2), (gm_astore 5), (gm_aload 4), (gm_ifnull 1), (gm_aload 5), (gm_ifnonnull 2), (gm_goto 1)] := rfl
theorem qX8_gives_1 : qX8_gives 1 = [(gm_push (.inl (-1001))), gm_iret] := rfl
theorem qX8_gives_2 : qX8_gives 2 = [(gm_iload 1), (gm_iload 2), (gm_ceq 3), (gm_iload 3), (gm_push (.inl 99)), (gm_scall 89 2), (gm_ifne 4), (gm_goto 3)] := rfl
theorem qX8_gives_3 : qX8_gives 3 = [(gm_push (.inl (-1002))), gm_iret] := rfl
theorem qX8_gives_4 : qX8_gives 4 = [(gm_aload 0), (gm_aload 4), (gm_aload 5), (gm_push (.inl 0)), (gm_vcall 8 94 4), (gm_istore 6), (gm_iload 3), (gm_aload 4), (gm_getR 2 205), (gm_getI 5 500), (gm_aload 5), (gm_getR 2 205), (gm_getI 5 501), (gm_aload 5), (gm_getR 2 205), (gm_getI 5 500), (gm_op2 gm_sub), gm_min, gm_min, (gm_istore 7), (gm_iload 6), (gm_aload 0), (gm_aload 4), (gm_aload 5), (gm_iload 7), (gm_vcall 8 94 4), (gm_op2 gm_sub), gm_iret] := rfl
theorem eX8_gives (d : Nat) (as : List gm_V) (M : gm_M) (h : gm_wd as ≤ 8) : gm_go (d + 1) 68 as M = gm_ex (gm_go d) qX8_gives 100000 0 (gm_pad 8 (gm_ent as)) [] M := if_pos ⟨by decide, h⟩
def qX8_turn : Nat → List gm_A := fun b => pX8_turn.getD b []
theorem qX8_turn_0 : qX8_turn 0 = [(gm_aload 0), (gm_iload 1), (gm_vcall 8 91 2), (gm_astore 3), (gm_aload 3), (gm_ifnull 1), (gm_iload 2), (gm_push (.inl 1)), (gm_scall 89 2), (gm_ifne 2), (gm_goto 1)] := rfl
theorem qX8_turn_1 : qX8_turn 1 = [(gm_push (.inl (-1))), gm_iret] := rfl
theorem qX8_turn_2 : qX8_turn 2 = [(gm_aload 0), (gm_vcall 8 93 1), (gm_astore 4), (gm_push (.inl 1)), (gm_istore 5), (gm_push (.inl 57)), (gm_istore 6), (gm_push (.inl 1)), (gm_istore 7), (gm_goto 3)] := rfl
theorem qX8_turn_3 : qX8_turn 3 = [(gm_iload 7), (gm_push (.inl 28)), (gm_cgt 5), (gm_aload 0), (gm_getR 8 804), (gm_aload 3), (gm_vcall 2 13 2), (gm_aload 0), (gm_getR 8 804), (gm_aload 4), (gm_aload 0), (gm_getR 8 800), (gm_getI 7 702), (gm_push (.inl 56)), (gm_iload 7), (gm_vcall 2 19 5), (gm_istore 8), (gm_iload 8), (gm_iload 6), (gm_cge 4), (gm_iload 8), (gm_istore 6), (gm_iload 7), (gm_istore 5), (gm_goto 4)] := rfl
theorem qX8_turn_4 : qX8_turn 4 = [(gm_iinc 7 1), (gm_goto 3)] := rfl
theorem qX8_turn_5 : qX8_turn 5 = [(gm_iload 2), (gm_ifne 6), (gm_iload 5), (gm_goto 7)] := rfl
theorem qX8_turn_6 : qX8_turn 6 = [(gm_iload 6), (gm_goto 7)] := rfl
theorem qX8_turn_7 : qX8_turn 7 = [gm_iret] := rfl
theorem eX8_turn (d : Nat) (as : List gm_V) (M : gm_M) (h : gm_wd as ≤ 9) : gm_go (d + 1) 69 as M = gm_ex (gm_go d) qX8_turn 100000 0 (gm_pad 9 (gm_ent as)) [] M := if_pos ⟨by decide, h⟩
def qX8_alike : Nat → List gm_A := fun b => pX8_alike.getD b []
theorem qX8_alike_0 : qX8_alike 0 = [(gm_aload 0), (gm_iload 1), (gm_vcall 8 91 2), (gm_astore 3), (gm_aload 0), (gm_iload 2), (gm_vcall 8 91 2), (gm_astore 4), (gm_aload 3), (gm_ifnull 1), (gm_aload 4), (gm_ifnonnull 2), (gm_goto 1)] := rfl
theorem qX8_alike_1 : qX8_alike 1 = [(gm_push (.inl (-1))), gm_iret] := rfl
theorem qX8_alike_2 : qX8_alike 2 = [(gm_iload 1), (gm_iload 2), (gm_cne 3), (gm_push (.inl (-2))), gm_iret] := rfl
theorem qX8_alike_3 : qX8_alike 3 = [(gm_aload 0), (gm_vcall 8 93 1), (gm_astore 5), (gm_aload 0), (gm_getR 8 804), (gm_aload 3), (gm_vcall 2 13 2), (gm_aload 0), (gm_getR 8 805), (gm_aload 4), (gm_vcall 2 13 2), (gm_push (.inl 0)), (gm_istore 6), (gm_push (.inl 0)), (gm_istore 7), (gm_goto 4)] := rfl
theorem qX8_alike_4 : qX8_alike 4 = [(gm_iload 7), (gm_push (.inl 28)), (gm_cge 6), (gm_aload 0), (gm_getR 8 804), (gm_aload 5), (gm_aload 0), (gm_getR 8 800), (gm_getI 7 702), (gm_iload 7), (gm_op2 gm_add), (gm_push (.inl 0)), (gm_vcall 2 17 4), (gm_aload 0), (gm_getR 8 805), (gm_aload 5), (gm_aload 0), (gm_getR 8 800), (gm_getI 7 702), (gm_iload 7), (gm_op2 gm_add), (gm_push (.inl 0)), (gm_vcall 2 17 4), (gm_cne 5), (gm_iinc 6 1), (gm_goto 5)] := rfl
theorem qX8_alike_5 : qX8_alike 5 = [(gm_iinc 7 1), (gm_goto 4)] := rfl
theorem qX8_alike_6 : qX8_alike 6 = [(gm_iload 6), gm_iret] := rfl
theorem eX8_alike (d : Nat) (as : List gm_V) (M : gm_M) (h : gm_wd as ≤ 8) : gm_go (d + 1) 70 as M = gm_ex (gm_go d) qX8_alike 100000 0 (gm_pad 8 (gm_ent as)) [] M := if_pos ⟨by decide, h⟩
def qX8_see : Nat → List gm_A := fun b => pX8_see.getD b []
theorem qX8_see_0 : qX8_see 0 = [(gm_iload 1), (gm_push (.inl (-1))), (gm_cne 1), (gm_aload 0), (gm_getR 8 800), (gm_push (.inl 0)), (gm_putI 7 707), (gm_push (.inl 0)), gm_iret] := rfl
theorem qX8_see_1 : qX8_see 1 = [(gm_aload 0), (gm_iload 1), (gm_vcall 8 91 2), (gm_ifnonnull 2), (gm_push (.inl (-1))), gm_iret] := rfl
theorem qX8_see_2 : qX8_see 2 = [(gm_iload 2), (gm_push (.inl 30)), (gm_scall 89 2), (gm_ifeq 3), (gm_iload 3), (gm_push (.inl 199)), (gm_scall 89 2), (gm_ifne 4), (gm_goto 3)] := rfl
theorem qX8_see_3 : qX8_see 3 = [(gm_push (.inl (-2))), gm_iret] := rfl
theorem qX8_see_4 : qX8_see 4 = [(gm_aload 0), (gm_getR 8 800), (gm_getI 7 707), (gm_push (.inl 8)), (gm_clt 5), (gm_push (.inl (-4))), gm_iret] := rfl
theorem qX8_see_5 : qX8_see 5 = [(gm_aload 0), (gm_getR 8 800), (gm_getR 7 704), (gm_aload 0), (gm_getR 8 800), (gm_getI 7 707), (gm_iload 1), gm_iast, (gm_aload 0), (gm_getR 8 800), (gm_getR 7 705), (gm_aload 0), (gm_getR 8 800), (gm_getI 7 707), (gm_iload 2), gm_iast, (gm_aload 0), (gm_getR 8 800), (gm_getR 7 706), (gm_aload 0), (gm_getR 8 800), (gm_getI 7 707), (gm_iload 3), gm_iast, (gm_aload 0), (gm_getR 8 800), gm_dup, (gm_getI 7 707), (gm_push (.inl 1)), (gm_op2 gm_add), (gm_putI 7 707), (gm_aload 0), (gm_getR 8 800), (gm_getI 7 707), gm_iret] := rfl
theorem eX8_see (d : Nat) (as : List gm_V) (M : gm_M) (h : gm_wd as ≤ 4) : gm_go (d + 1) 71 as M = gm_ex (gm_go d) qX8_see 100000 0 (gm_pad 4 (gm_ent as)) [] M := if_pos ⟨by decide, h⟩
def qX8_leaks : Nat → List gm_A := fun b => pX8_leaks.getD b []
theorem qX8_leaks_0 : qX8_leaks 0 = [(gm_aload 0), (gm_iload 1), (gm_vcall 8 91 2), (gm_astore 2), (gm_aload 2), (gm_ifnonnull 1), (gm_push (.inl (-1))), gm_iret] := rfl
theorem qX8_leaks_1 : qX8_leaks 1 = [(gm_push (.inl 0)), (gm_istore 3), (gm_push (.inl 0)), (gm_istore 4), (gm_goto 2)] := rfl
theorem qX8_leaks_2 : qX8_leaks 2 = [(gm_iload 4), (gm_push (.inl 9)), (gm_cgt 4), (gm_aload 0), (gm_getR 8 804), (gm_aload 2), (gm_vcall 2 13 2), (gm_aload 0), (gm_getR 8 804), (gm_getR 2 205), (gm_iload 4), (gm_putI 5 502), (gm_aload 0), (gm_aload 0), (gm_getR 8 804), (gm_vcall 8 95 2), (gm_ifeq 3), (gm_iload 3), (gm_push (.inl 1)), (gm_iload 4), (gm_op2 gm_shl), (gm_op2 gm_or), (gm_istore 3), (gm_goto 3)] := rfl
theorem qX8_leaks_3 : qX8_leaks 3 = [(gm_iinc 4 1), (gm_goto 2)] := rfl
theorem qX8_leaks_4 : qX8_leaks 4 = [(gm_iload 3), gm_iret] := rfl
theorem eX8_leaks (d : Nat) (as : List gm_V) (M : gm_M) (h : gm_wd as ≤ 5) : gm_go (d + 1) 72 as M = gm_ex (gm_go d) qX8_leaks 100000 0 (gm_pad 5 (gm_ent as)) [] M := if_pos ⟨by decide, h⟩
def qX8_dry : Nat → List gm_A := fun b => pX8_dry.getD b []
theorem qX8_dry_0 : qX8_dry 0 = [(gm_aload 0), (gm_iload 1), (gm_vcall 8 91 2), (gm_astore 2), (gm_aload 2), (gm_ifnonnull 1), (gm_push (.inl (-1))), gm_iret] := rfl
theorem qX8_dry_1 : qX8_dry 1 = [(gm_aload 0), (gm_vcall 8 93 1), (gm_astore 3), (gm_aload 0), (gm_getR 8 804), (gm_aload 2), (gm_vcall 2 13 2), (gm_push (.inl 1)), (gm_istore 4), (gm_goto 2)] := rfl
theorem qX8_dry_2 : qX8_dry 2 = [(gm_iload 4), (gm_push (.inl 60)), (gm_cgt 4), (gm_aload 0), (gm_getR 8 804), (gm_aload 3), (gm_aload 0), (gm_getR 8 800), (gm_getI 7 702), (gm_iload 4), (gm_op2 gm_add), (gm_push (.inl 1)), (gm_op2 gm_sub), (gm_push (.inl 0)), (gm_vcall 2 17 4), gm_pop1, (gm_aload 0), (gm_getR 8 804), (gm_getR 2 205), (gm_getI 5 500), (gm_ifne 3), (gm_iload 4), gm_iret] := rfl
theorem qX8_dry_3 : qX8_dry 3 = [(gm_iinc 4 1), (gm_goto 2)] := rfl
theorem qX8_dry_4 : qX8_dry 4 = [(gm_push (.inl (-5))), gm_iret] := rfl
theorem eX8_dry (d : Nat) (as : List gm_V) (M : gm_M) (h : gm_wd as ≤ 5) : gm_go (d + 1) 73 as M = gm_ex (gm_go d) qX8_dry 100000 0 (gm_pad 5 (gm_ent as)) [] M := if_pos ⟨by decide, h⟩
def qX8_odds : Nat → List gm_A := fun b => pX8_odds.getD b []
theorem qX8_odds_0 : qX8_odds 0 = [(gm_aload 0), (gm_iload 1), (gm_vcall 8 91 2), (gm_astore 3), (gm_aload 3), (gm_ifnull 1), (gm_iload 2), (gm_push (.inl 1)), (gm_scall 89 2), (gm_ifne 2), (gm_goto 1)] := rfl
theorem qX8_odds_1 : qX8_odds 1 = [(gm_push (.inr (.inl (-9223372036854775808)))), gm_lret] := rfl
theorem qX8_odds_2 : qX8_odds 2 = [(gm_aload 0), (gm_vcall 8 93 1), (gm_astore 4), (gm_push (.inl 0)), (gm_istore 5), (gm_push (.inl 0)), (gm_istore 6), (gm_goto 3)] := rfl
theorem qX8_odds_3 : qX8_odds 3 = [(gm_iload 6), (gm_push (.inl 9)), (gm_cgt 5), (gm_aload 0), (gm_getR 8 804), (gm_aload 3), (gm_vcall 2 13 2), (gm_aload 0), (gm_getR 8 804), (gm_aload 4), (gm_aload 0), (gm_getR 8 800), (gm_getI 7 702), (gm_iload 6), (gm_vcall 2 17 4), (gm_ifeq 4), (gm_iinc 5 1), (gm_goto 4)] := rfl
theorem qX8_odds_4 : qX8_odds 4 = [(gm_iinc 6 1), (gm_goto 3)] := rfl
theorem qX8_odds_5 : qX8_odds 5 = [(gm_iload 5), (gm_push (.inl 10)), (gm_iload 2), (gm_scall 97 3), gm_i2l, gm_lret] := rfl
theorem eX8_odds (d : Nat) (as : List gm_V) (M : gm_M) (h : gm_wd as ≤ 7) : gm_go (d + 1) 74 as M = gm_ex (gm_go d) qX8_odds 100000 0 (gm_pad 7 (gm_ent as)) [] M := if_pos ⟨by decide, h⟩
def qX8_mean : Nat → List gm_A := fun b => pX8_mean.getD b []
theorem qX8_mean_0 : qX8_mean 0 = [(gm_iload 1), (gm_push (.inl 1)), (gm_clt 1), (gm_iload 1), (gm_push (.inl 60)), (gm_cgt 1), (gm_iload 2), (gm_push (.inl 1)), (gm_scall 89 2), (gm_ifeq 1), (gm_aload 0), (gm_getR 8 800), (gm_getI 7 701), (gm_ifne 2), (gm_goto 1)] := rfl
theorem qX8_mean_1 : qX8_mean 1 = [(gm_push (.inr (.inl (-9223372036854775808)))), gm_lret] := rfl
theorem qX8_mean_2 : qX8_mean 2 = [(gm_aload 0), (gm_vcall 8 93 1), (gm_astore 3), (gm_push (.inl 0)), (gm_istore 4), (gm_push (.inl 0)), (gm_istore 5), (gm_goto 3)] := rfl
theorem qX8_mean_3 : qX8_mean 3 = [(gm_iload 5), (gm_aload 0), (gm_getR 8 800), (gm_getI 7 701), (gm_cge 6), (gm_iload 5), (gm_aload 0), (gm_getR 8 800), (gm_getR 7 700), gm_alen, (gm_cge 6), (gm_aload 0), (gm_getR 8 804), (gm_aload 0), (gm_getR 8 800), (gm_getR 7 700), (gm_iload 5), (gm_aald 24), (gm_vcall 2 13 2), (gm_push (.inl 0)), (gm_istore 6), (gm_goto 4)] := rfl
theorem qX8_mean_4 : qX8_mean 4 = [(gm_iload 6), (gm_iload 1), (gm_cge 5), (gm_aload 0), (gm_getR 8 804), (gm_aload 3), (gm_aload 0), (gm_getR 8 800), (gm_getI 7 702), (gm_iload 6), (gm_op2 gm_add), (gm_push (.inl 0)), (gm_vcall 2 17 4), gm_pop1, (gm_iload 4), (gm_aload 0), (gm_getR 8 804), (gm_getI 2 203), (gm_op2 gm_add), (gm_istore 4), (gm_iinc 6 1), (gm_goto 4)] := rfl
theorem qX8_mean_5 : qX8_mean 5 = [(gm_iinc 5 1), (gm_goto 3)] := rfl
theorem qX8_mean_6 : qX8_mean 6 = [(gm_iload 4), (gm_iload 1), (gm_aload 0), (gm_getR 8 800), (gm_getI 7 701), (gm_op2 gm_mul), (gm_iload 2), (gm_scall 97 3), gm_i2l, gm_lret] := rfl
theorem eX8_mean (d : Nat) (as : List gm_V) (M : gm_M) (h : gm_wd as ≤ 7) : gm_go (d + 1) 75 as M = gm_ex (gm_go d) qX8_mean 100000 0 (gm_pad 7 (gm_ent as)) [] M := if_pos ⟨by decide, h⟩
def qX8_book : Nat → List gm_A := fun b => pX8_book.getD b []
theorem qX8_book_0 : qX8_book 0 = [(gm_iload 1), (gm_push (.inl (-1))), (gm_cne 1), (gm_aload 0), (gm_getR 8 800), (gm_push (.inl 0)), (gm_putI 7 709), (gm_push (.inl 0)), gm_iret] := rfl
theorem qX8_book_1 : qX8_book 1 = [(gm_aload 0), (gm_iload 1), (gm_vcall 8 91 2), (gm_ifnonnull 2), (gm_push (.inl (-1))), gm_iret] := rfl
theorem qX8_book_2 : qX8_book 2 = [(gm_aload 0), (gm_getR 8 800), (gm_getI 7 709), (gm_push (.inl 12)), (gm_clt 3), (gm_push (.inl (-4))), gm_iret] := rfl
theorem qX8_book_3 : qX8_book 3 = [(gm_aload 0), (gm_getR 8 800), (gm_getR 7 708), (gm_aload 0), (gm_getR 8 800), (gm_getI 7 709), (gm_iload 1), gm_iast, (gm_aload 0), (gm_getR 8 800), gm_dup, (gm_getI 7 709), (gm_push (.inl 1)), (gm_op2 gm_add), (gm_putI 7 709), (gm_aload 0), (gm_getR 8 800), (gm_getI 7 709), gm_iret] := rfl
theorem eX8_book (d : Nat) (as : List gm_V) (M : gm_M) (h : gm_wd as ≤ 2) : gm_go (d + 1) 76 as M = gm_ex (gm_go d) qX8_book 100000 0 (gm_pad 2 (gm_ent as)) [] M := if_pos ⟨by decide, h⟩
def qX8_looked : Nat → List gm_A := fun b => pX8_looked.getD b []
theorem qX8_looked_0 : qX8_looked 0 = [(gm_aload 0), (gm_vcall 8 93 1), (gm_astore 1), (gm_push (.inl 0)), (gm_istore 2), (gm_goto 1)] := rfl
theorem qX8_looked_1 : qX8_looked 1 = [(gm_iload 2), (gm_aload 0), (gm_getR 8 800), (gm_getI 7 709), (gm_cge 6), (gm_iload 2), (gm_aload 0), (gm_getR 8 800), (gm_getR 7 708), gm_alen, (gm_cge 6), (gm_aload 0), (gm_aload 0), (gm_getR 8 800), (gm_getR 7 708), (gm_iload 2), gm_iald, (gm_vcall 8 91 2), (gm_astore 3), (gm_aload 3), (gm_ifnonnull 2), (gm_iload 2), gm_iret] := rfl
theorem qX8_looked_2 : qX8_looked 2 = [(gm_aload 0), (gm_getR 8 804), (gm_aload 3), (gm_vcall 2 13 2), (gm_push (.inl 0)), (gm_istore 4), (gm_push (.inl 0)), (gm_istore 5), (gm_goto 3)] := rfl
theorem qX8_looked_3 : qX8_looked 3 = [(gm_iload 5), (gm_iload 2), (gm_cgt 4), (gm_aload 0), (gm_getR 8 804), (gm_aload 1), (gm_aload 0), (gm_getR 8 800), (gm_getI 7 702), (gm_iload 5), (gm_op2 gm_add), (gm_push (.inl 0)), (gm_vcall 2 17 4), (gm_istore 4), (gm_iinc 5 1), (gm_goto 3)] := rfl
theorem qX8_looked_4 : qX8_looked 4 = [(gm_iload 4), (gm_ifne 5), (gm_iload 2), gm_iret] := rfl
theorem qX8_looked_5 : qX8_looked 5 = [(gm_iinc 2 1), (gm_goto 1)] := rfl
theorem qX8_looked_6 : qX8_looked 6 = [(gm_push (.inl (-5))), gm_iret] := rfl
theorem eX8_looked (d : Nat) (as : List gm_V) (M : gm_M) (h : gm_wd as ≤ 6) : gm_go (d + 1) 77 as M = gm_ex (gm_go d) qX8_looked 100000 0 (gm_pad 6 (gm_ent as)) [] M := if_pos ⟨by decide, h⟩
def qX8_judge : Nat → List gm_A := fun b => pX8_judge.getD b []
theorem qX8_judge_0 : qX8_judge 0 = [(gm_aload 0), (gm_iload 1), (gm_vcall 8 92 2), (gm_astore 3), (gm_aload 3), (gm_ifnonnull 1), (gm_push (.inl (-1))), gm_iret] := rfl
theorem qX8_judge_1 : qX8_judge 1 = [(gm_aload 3), (gm_vcall 6 42 1), (gm_ifne 2), (gm_aload 3), (gm_getI 6 600), (gm_push (.inl 1)), (gm_ceq 2), (gm_push (.inl (-12))), gm_iret] := rfl
theorem qX8_judge_2 : qX8_judge 2 = [(gm_push (.inl 0)), (gm_istore 4), (gm_goto 3)] := rfl
theorem qX8_judge_3 : qX8_judge 3 = [(gm_iload 4), (gm_aload 0), (gm_getR 8 800), (gm_getI 7 701), (gm_cge 7), (gm_iload 4), (gm_aload 0), (gm_getR 8 800), (gm_getR 7 700), gm_alen, (gm_cge 7), (gm_iload 2), (gm_iflt 4), (gm_iload 2), (gm_aload 3), (gm_getI 6 601), (gm_iload 4), (gm_op2 gm_sub), (gm_clt 5), (gm_goto 4)] := rfl
theorem qX8_judge_4 : qX8_judge 4 = [(gm_push (.inl 100)), (gm_iload 4), (gm_op2 gm_add), gm_iret] := rfl
theorem qX8_judge_5 : qX8_judge 5 = [(gm_aload 3), (gm_getR 6 602), (gm_iload 2), (gm_iload 4), (gm_op2 gm_add), gm_lald, (gm_aload 0), (gm_getR 8 800), (gm_getR 7 700), (gm_iload 4), (gm_aald 24), (gm_getI 2 203), gm_i2l, gm_lcmp, (gm_ifeq 6), (gm_iload 4), gm_iret] := rfl
theorem qX8_judge_6 : qX8_judge 6 = [(gm_iinc 4 1), (gm_goto 3)] := rfl
theorem qX8_judge_7 : qX8_judge 7 = [(gm_push (.inl (-5))), gm_iret] := rfl
theorem eX8_judge (d : Nat) (as : List gm_V) (M : gm_M) (h : gm_wd as ≤ 5) : gm_go (d + 1) 78 as M = gm_ex (gm_go d) qX8_judge 100000 0 (gm_pad 5 (gm_ent as)) [] M := if_pos ⟨by decide, h⟩
def qX8_image : Nat → List gm_A := fun b => pX8_image.getD b []
theorem qX8_image_0 : qX8_image 0 = [(gm_aload 0), (gm_getR 8 801), (gm_aload 0), (gm_getR 8 800), (gm_vcall 7 46 2), (gm_aload 0), (gm_push (.inl 1)), (gm_putZ 8 802), (gm_aload 0), (gm_getR 8 800), (gm_getI 7 701), gm_iret] := rfl
theorem eX8_image (d : Nat) (as : List gm_V) (M : gm_M) (h : gm_wd as ≤ 1) : gm_go (d + 1) 79 as M = gm_ex (gm_go d) qX8_image 100000 0 (gm_pad 1 (gm_ent as)) [] M := if_pos ⟨by decide, h⟩
def qX8_undo : Nat → List gm_A := fun b => pX8_undo.getD b []
theorem qX8_undo_0 : qX8_undo 0 = [(gm_aload 0), (gm_getI 8 802), (gm_ifne 1), (gm_push (.inl (-3))), gm_iret] := rfl
theorem qX8_undo_1 : qX8_undo 1 = [(gm_aload 0), (gm_getR 8 800), (gm_aload 0), (gm_getR 8 801), (gm_vcall 7 46 2), (gm_aload 0), (gm_getR 8 800), (gm_getI 7 701), gm_iret] := rfl
theorem eX8_undo (d : Nat) (as : List gm_V) (M : gm_M) (h : gm_wd as ≤ 1) : gm_go (d + 1) 80 as M = gm_ex (gm_go d) qX8_undo 100000 0 (gm_pad 1 (gm_ent as)) [] M := if_pos ⟨by decide, h⟩
def qX8_act : Nat → List gm_A := fun b => pX8_act.getD b []
theorem qX8_act_0 : qX8_act 0 = [(gm_aload 0), (gm_getR 8 811), (gm_vcall 3 21 1), (gm_aload 0), (gm_iload 1), (gm_vcall 8 91 2), (gm_astore 4), (gm_aload 4), (gm_ifnull 1), (gm_iload 2), (gm_push (.inl 2)), (gm_scall 89 2), (gm_ifne 2), (gm_goto 1)] := rfl
theorem qX8_act_1 : qX8_act 1 = [(gm_push (.inl 0)), gm_iret] := rfl
theorem qX8_act_2 : qX8_act 2 = [(gm_aload 0), (gm_getR 8 811), (gm_aload 4), (gm_aload 4), (gm_getI 2 201), (gm_iload 2), (gm_iload 3), (gm_push (.inl 0)), (gm_vcall 3 22 6), gm_iret] := rfl
theorem eX8_act (d : Nat) (as : List gm_V) (M : gm_M) (h : gm_wd as ≤ 5) : gm_go (d + 1) 81 as M = gm_ex (gm_go d) qX8_act 100000 0 (gm_pad 5 (gm_ent as)) [] M := if_pos ⟨by decide, h⟩
def qX8_trace : Nat → List gm_A := fun b => pX8_trace.getD b []
theorem qX8_trace_0 : qX8_trace 0 = [(gm_iload 1), (gm_iflt 1), (gm_iload 1), (gm_aload 0), (gm_getR 8 811), (gm_getI 3 301), (gm_cge 1), (gm_iload 1), (gm_aload 0), (gm_getR 8 811), (gm_getR 3 300), gm_alen, (gm_cge 1), (gm_aload 0), (gm_getR 8 811), (gm_getR 3 300), (gm_iload 1), gm_iald, (gm_goto 2)] := rfl
theorem qX8_trace_1 : qX8_trace 1 = [(gm_push (.inl (-1))), (gm_goto 2)] := rfl
theorem qX8_trace_2 : qX8_trace 2 = [gm_iret] := rfl
theorem eX8_trace (d : Nat) (as : List gm_V) (M : gm_M) (h : gm_wd as ≤ 2) : gm_go (d + 1) 82 as M = gm_ex (gm_go d) qX8_trace 100000 0 (gm_pad 2 (gm_ent as)) [] M := if_pos ⟨by decide, h⟩
def qX8_taken : Nat → List gm_A := fun b => pX8_taken.getD b []
theorem qX8_taken_0 : qX8_taken 0 = [(gm_iload 2), (gm_push (.inl 6)), (gm_scall 89 2), (gm_ifne 1), (gm_push (.inl (-2))), gm_iret] := rfl
theorem qX8_taken_1 : qX8_taken 1 = [(gm_aload 0), (gm_iload 1), (gm_vcall 8 91 2), (gm_astore 3), (gm_aload 3), (gm_ifnonnull 2), (gm_push (.inl (-11))), gm_iret] := rfl
theorem qX8_taken_2 : qX8_taken 2 = [(gm_aload 3), (gm_getI 2 201), (gm_iload 2), (gm_scall 96 2), (gm_ifeq 3), (gm_aload 3), (gm_getI 2 201), (gm_goto 4)] := rfl
theorem qX8_taken_3 : qX8_taken 3 = [(gm_push (.inl (-12))), (gm_goto 4)] := rfl
theorem qX8_taken_4 : qX8_taken 4 = [gm_iret] := rfl
theorem eX8_taken (d : Nat) (as : List gm_V) (M : gm_M) (h : gm_wd as ≤ 4) : gm_go (d + 1) 83 as M = gm_ex (gm_go d) qX8_taken 100000 0 (gm_pad 4 (gm_ent as)) [] M := if_pos ⟨by decide, h⟩
def qX8_count : Nat → List gm_A := fun b => pX8_count.getD b []
theorem qX8_count_0 : qX8_count 0 = [(gm_iload 1), (gm_switch [(0, 1), (1, 2), (2, 3), (3, 4), (4, 5), (5, 6)] 7)] := rfl
theorem qX8_count_1 : qX8_count 1 = [(gm_aload 0), (gm_getR 8 800), (gm_getI 7 701), gm_iret] := rfl
theorem qX8_count_2 : qX8_count 2 = [(gm_aload 0), (gm_getI 8 810), gm_iret] := rfl
theorem qX8_count_3 : qX8_count 3 = [(gm_aload 0), (gm_getR 8 800), (gm_getI 7 707), gm_iret] := rfl
theorem qX8_count_4 : qX8_count 4 = [(gm_aload 0), (gm_getR 8 800), (gm_getI 7 709), gm_iret] := rfl
theorem qX8_count_5 : qX8_count 5 = [(gm_aload 0), (gm_getR 8 807), (gm_getI 4 401), gm_iret] := rfl
theorem qX8_count_6 : qX8_count 6 = [(gm_aload 0), (gm_getR 8 811), (gm_getI 3 301), gm_iret] := rfl
theorem qX8_count_7 : qX8_count 7 = [(gm_push (.inl (-2))), gm_iret] := rfl
theorem eX8_count (d : Nat) (as : List gm_V) (M : gm_M) (h : gm_wd as ≤ 2) : gm_go (d + 1) 84 as M = gm_ex (gm_go d) qX8_count 100000 0 (gm_pad 2 (gm_ent as)) [] M := if_pos ⟨by decide, h⟩
def qX8_tape : Nat → List gm_A := fun b => pX8_tape.getD b []
theorem qX8_tape_0 : qX8_tape 0 = [(gm_aload 0), (gm_iload 1), (gm_vcall 8 92 2), (gm_astore 4), (gm_aload 4), (gm_ifnonnull 1), (gm_push (.inl (-1))), gm_iret] := rfl
theorem qX8_tape_1 : qX8_tape 1 = [(gm_iload 2), (gm_push (.inl (-1))), (gm_cne 2), (gm_aload 4), (gm_push (.inl (-1))), (gm_push (.inl 0)), (gm_vcall 6 41 3), (gm_push (.inl 1)), gm_iret] := rfl
theorem qX8_tape_2 : qX8_tape 2 = [(gm_iload 2), (gm_push (.inl 4)), (gm_scall 89 2), (gm_ifeq 3), (gm_iload 3), (gm_push (.inl 60)), (gm_cle 4), (gm_goto 3)] := rfl
theorem qX8_tape_3 : qX8_tape 3 = [(gm_push (.inl (-2))), gm_iret] := rfl
theorem qX8_tape_4 : qX8_tape 4 = [(gm_iload 3), (gm_ifge 5), (gm_push (.inl (-14))), gm_iret] := rfl
theorem qX8_tape_5 : qX8_tape 5 = [(gm_aload 4), (gm_iload 2), (gm_iload 3), (gm_vcall 6 41 3), (gm_push (.inl 1)), gm_iret] := rfl
theorem eX8_tape (d : Nat) (as : List gm_V) (M : gm_M) (h : gm_wd as ≤ 5) : gm_go (d + 1) 85 as M = gm_ex (gm_go d) qX8_tape 100000 0 (gm_pad 5 (gm_ent as)) [] M := if_pos ⟨by decide, h⟩
def qX8_item : Nat → List gm_A := fun b => pX8_item.getD b []
theorem qX8_item_0 : qX8_item 0 = [(gm_aload 0), (gm_iload 1), (gm_vcall 8 92 2), (gm_astore 5), (gm_aload 5), (gm_ifnonnull 1), (gm_push (.inl (-1))), gm_iret] := rfl
theorem qX8_item_1 : qX8_item 1 = [(gm_aload 5), (gm_vcall 6 42 1), (gm_ifeq 2), (gm_push (.inl (-11))), gm_iret] := rfl
theorem qX8_item_2 : qX8_item 2 = [(gm_aload 5), (gm_iload 2), (gm_vcall 6 43 2), (gm_ifne 3), (gm_push (.inl (-13))), gm_iret] := rfl
theorem qX8_item_3 : qX8_item 3 = [(gm_aload 5), (gm_getR 6 602), (gm_iload 2), (gm_aload 5), (gm_lload 3), (gm_vcall 6 44 2), gm_last, (gm_push (.inl 1)), gm_iret] := rfl
theorem eX8_item (d : Nat) (as : List gm_V) (M : gm_M) (h : gm_wd as ≤ 6) : gm_go (d + 1) 86 as M = gm_ex (gm_go d) qX8_item 100000 0 (gm_pad 6 (gm_ent as)) [] M := if_pos ⟨by decide, h⟩
def qX8_read : Nat → List gm_A := fun b => pX8_read.getD b []
theorem qX8_read_0 : qX8_read 0 = [(gm_aload 0), (gm_iload 1), (gm_vcall 8 92 2), (gm_astore 3), (gm_aload 3), (gm_ifnull 1), (gm_aload 3), (gm_iload 2), (gm_vcall 6 43 2), (gm_ifeq 1), (gm_aload 3), (gm_getR 6 602), (gm_iload 2), gm_lald, (gm_goto 2)] := rfl
theorem qX8_read_1 : qX8_read 1 = [(gm_push (.inr (.inl (-9223372036854775808)))), (gm_goto 2)] := rfl
theorem qX8_read_2 : qX8_read 2 = [gm_lret] := rfl
theorem eX8_read (d : Nat) (as : List gm_V) (M : gm_M) (h : gm_wd as ≤ 4) : gm_go (d + 1) 87 as M = gm_ex (gm_go d) qX8_read 100000 0 (gm_pad 4 (gm_ent as)) [] M := if_pos ⟨by decide, h⟩
def qX8_shift : Nat → List gm_A := fun b => pX8_shift.getD b []
theorem qX8_shift_0 : qX8_shift 0 = [(gm_aload 0), (gm_iload 1), (gm_vcall 8 92 2), (gm_astore 6), (gm_aload 0), (gm_iload 3), (gm_vcall 8 92 2), (gm_astore 7), (gm_aload 6), (gm_ifnull 1), (gm_aload 7), (gm_ifnonnull 2), (gm_goto 1)] := rfl
theorem qX8_shift_1 : qX8_shift 1 = [(gm_push (.inl (-1))), gm_iret] := rfl
theorem qX8_shift_2 : qX8_shift 2 = [(gm_aload 6), (gm_vcall 6 42 1), (gm_ifne 3), (gm_aload 7), (gm_vcall 6 42 1), (gm_ifeq 4), (gm_goto 3)] := rfl
theorem qX8_shift_3 : qX8_shift 3 = [(gm_push (.inl (-11))), gm_iret] := rfl
theorem qX8_shift_4 : qX8_shift 4 = [(gm_aload 6), (gm_getI 6 600), (gm_aload 7), (gm_getI 6 600), (gm_ceq 5), (gm_push (.inl (-12))), gm_iret] := rfl
theorem qX8_shift_5 : qX8_shift 5 = [(gm_iload 5), (gm_iflt 6), (gm_iload 2), (gm_iflt 6), (gm_iload 4), (gm_iflt 6), (gm_iload 2), (gm_aload 6), (gm_getI 6 601), (gm_iload 5), (gm_op2 gm_sub), (gm_cgt 6), (gm_iload 4), (gm_aload 7), (gm_getI 6 601), (gm_iload 5), (gm_op2 gm_sub), (gm_cle 7), (gm_goto 6)] := rfl
theorem qX8_shift_6 : qX8_shift 6 = [(gm_push (.inl (-13))), gm_iret] := rfl
theorem qX8_shift_7 : qX8_shift 7 = [(gm_aload 6), (gm_getR 6 602), (gm_iload 2), (gm_aload 7), (gm_getR 6 602), (gm_iload 4), (gm_iload 5), (gm_acp 21), (gm_iload 5), gm_iret] := rfl
theorem eX8_shift (d : Nat) (as : List gm_V) (M : gm_M) (h : gm_wd as ≤ 8) : gm_go (d + 1) 88 as M = gm_ex (gm_go d) qX8_shift 100000 0 (gm_pad 8 (gm_ent as)) [] M := if_pos ⟨by decide, h⟩
def qX8_within : Nat → List gm_A := fun b => pX8_within.getD b []
theorem qX8_within_0 : qX8_within 0 = [(gm_iload 0), (gm_iflt 1), (gm_iload 0), (gm_iload 1), (gm_cgt 1), (gm_push (.inl 1)), (gm_goto 2)] := rfl
theorem qX8_within_1 : qX8_within 1 = [(gm_push (.inl 0)), (gm_goto 2)] := rfl
theorem qX8_within_2 : qX8_within 2 = [gm_zret] := rfl
theorem eX8_within (d : Nat) (as : List gm_V) (M : gm_M) (h : gm_wd as ≤ 2) : gm_go (d + 1) 89 as M = gm_ex (gm_go d) qX8_within 100000 0 (gm_pad 2 (gm_ent as)) [] M := if_pos ⟨by decide, h⟩
def qX8_isLight : Nat → List gm_A := fun b => pX8_isLight.getD b []
theorem qX8_isLight_0 : qX8_isLight 0 = [(gm_iload 0), (gm_push (.inl 14)), (gm_cge 1), (gm_push (.inl 1)), (gm_goto 2)] := rfl
theorem qX8_isLight_1 : qX8_isLight 1 = [(gm_push (.inl 0)), (gm_goto 2)] := rfl
theorem qX8_isLight_2 : qX8_isLight 2 = [gm_zret] := rfl
theorem eX8_isLight (d : Nat) (as : List gm_V) (M : gm_M) (h : gm_wd as ≤ 1) : gm_go (d + 1) 90 as M = gm_ex (gm_go d) qX8_isLight 100000 0 (gm_pad 1 (gm_ent as)) [] M := if_pos ⟨by decide, h⟩
def qX8_houseAt : Nat → List gm_A := fun b => pX8_houseAt.getD b []
theorem qX8_houseAt_0 : qX8_houseAt 0 = [(gm_iload 1), (gm_iflt 1), (gm_iload 1), (gm_aload 0), (gm_getR 8 800), (gm_getI 7 701), (gm_cge 1), (gm_iload 1), (gm_aload 0), (gm_getR 8 800), (gm_getR 7 700), gm_alen, (gm_cge 1), (gm_aload 0), (gm_getR 8 800), (gm_getR 7 700), (gm_iload 1), (gm_aald 24), (gm_goto 2)] := rfl
theorem qX8_houseAt_1 : qX8_houseAt 1 = [(gm_push (.inr (.inr 0))), (gm_goto 2)] := rfl
theorem qX8_houseAt_2 : qX8_houseAt 2 = [gm_aret] := rfl
theorem eX8_houseAt (d : Nat) (as : List gm_V) (M : gm_M) (h : gm_wd as ≤ 2) : gm_go (d + 1) 91 as M = gm_ex (gm_go d) qX8_houseAt 100000 0 (gm_pad 2 (gm_ent as)) [] M := if_pos ⟨by decide, h⟩
def qX8_tapeAt : Nat → List gm_A := fun b => pX8_tapeAt.getD b []
theorem qX8_tapeAt_0 : qX8_tapeAt 0 = [(gm_iload 1), (gm_iflt 1), (gm_iload 1), (gm_aload 0), (gm_getR 8 812), gm_alen, (gm_cge 1), (gm_aload 0), (gm_getR 8 812), (gm_iload 1), (gm_aald 26), (gm_goto 2)] := rfl
theorem qX8_tapeAt_1 : qX8_tapeAt 1 = [(gm_push (.inr (.inr 0))), (gm_goto 2)] := rfl
theorem qX8_tapeAt_2 : qX8_tapeAt 2 = [gm_aret] := rfl
theorem eX8_tapeAt (d : Nat) (as : List gm_V) (M : gm_M) (h : gm_wd as ≤ 2) : gm_go (d + 1) 92 as M = gm_ex (gm_go d) qX8_tapeAt 100000 0 (gm_pad 2 (gm_ent as)) [] M := if_pos ⟨by decide, h⟩
def qX8_groundNow : Nat → List gm_A := fun b => pX8_groundNow.getD b []
theorem qX8_groundNow_0 : qX8_groundNow 0 = [(gm_aload 0), (gm_getR 8 800), (gm_getI 7 703), (gm_istore 1), (gm_iload 1), (gm_iflt 1), (gm_iload 1), (gm_aload 0), (gm_getI 8 810), (gm_cge 1), (gm_iload 1), (gm_aload 0), (gm_getR 8 809), gm_alen, (gm_cge 1), (gm_aload 0), (gm_getR 8 809), (gm_iload 1), (gm_aald 25), (gm_goto 2)] := rfl
theorem qX8_groundNow_1 : qX8_groundNow 1 = [(gm_aload 0), (gm_getR 8 808), (gm_goto 2)] := rfl
theorem qX8_groundNow_2 : qX8_groundNow 2 = [gm_aret] := rfl
theorem eX8_groundNow (d : Nat) (as : List gm_V) (M : gm_M) (h : gm_wd as ≤ 2) : gm_go (d + 1) 93 as M = gm_ex (gm_go d) qX8_groundNow 100000 0 (gm_pad 2 (gm_ent as)) [] M := if_pos ⟨by decide, h⟩
def qX8_amissOfBoth : Nat → List gm_A := fun b => pX8_amissOfBoth.getD b []
theorem qX8_amissOfBoth_0 : qX8_amissOfBoth 0 = [(gm_aload 0), (gm_vcall 8 93 1), (gm_astore 4), (gm_aload 0), (gm_getR 8 804), (gm_aload 1), (gm_vcall 2 13 2), (gm_aload 0), (gm_getR 8 804), (gm_getR 2 205), gm_dup, (gm_getI 5 500), (gm_iload 3), (gm_op2 gm_sub), (gm_putI 5 500), (gm_aload 0), (gm_getR 8 805), (gm_aload 2), (gm_vcall 2 13 2), (gm_aload 0), (gm_getR 8 805), (gm_getR 2 205), gm_dup, (gm_getI 5 500), (gm_iload 3), (gm_op2 gm_add), (gm_putI 5 500), (gm_aload 0), (gm_getR 8 804), (gm_aload 4), (gm_aload 0), (gm_getR 8 800), (gm_getI 7 702), (gm_push (.inl 56)), (gm_push (.inl 0)), (gm_vcall 2 19 5), (gm_aload 0), (gm_getR 8 805), (gm_aload 4), (gm_aload 0), (gm_getR 8 800), (gm_getI 7 702), (gm_push (.inl 56)), (gm_push (.inl 0)), (gm_vcall 2 19 5), (gm_op2 gm_add), gm_iret] := rfl
theorem eX8_amissOfBoth (d : Nat) (as : List gm_V) (M : gm_M) (h : gm_wd as ≤ 5) : gm_go (d + 1) 94 as M = gm_ex (gm_go d) qX8_amissOfBoth 100000 0 (gm_pad 5 (gm_ent as)) [] M := if_pos ⟨by decide, h⟩
def qX8_isAsSeen : Nat → List gm_A := fun b => pX8_isAsSeen.getD b []
theorem qX8_isAsSeen_0 : qX8_isAsSeen 0 = [(gm_aload 0), (gm_vcall 8 93 1), (gm_astore 2), (gm_aload 0), (gm_getR 8 800), (gm_aload 1), (gm_getI 2 200), (gm_vcall 7 50 2), (gm_istore 3), (gm_push (.inl 0)), (gm_istore 4), (gm_goto 1)] := rfl
theorem qX8_isAsSeen_1 : qX8_isAsSeen 1 = [(gm_iload 4), (gm_iload 3), (gm_cgt 4), (gm_iload 4), (gm_ifle 2), (gm_aload 1), (gm_aload 2), (gm_aload 0), (gm_getR 8 800), (gm_getI 7 702), (gm_iload 4), (gm_op2 gm_add), (gm_push (.inl 1)), (gm_op2 gm_sub), (gm_push (.inl 0)), (gm_vcall 2 17 4), gm_pop1, (gm_goto 2)] := rfl
theorem qX8_isAsSeen_2 : qX8_isAsSeen 2 = [(gm_aload 0), (gm_getR 8 800), (gm_aload 1), (gm_getI 2 200), (gm_iload 4), (gm_aload 1), (gm_getR 2 205), (gm_getI 5 500), (gm_vcall 7 51 4), (gm_ifne 3), (gm_push (.inl 0)), gm_zret] := rfl
theorem qX8_isAsSeen_3 : qX8_isAsSeen 3 = [(gm_iinc 4 1), (gm_goto 1)] := rfl
theorem qX8_isAsSeen_4 : qX8_isAsSeen 4 = [(gm_push (.inl 1)), gm_zret] := rfl
theorem eX8_isAsSeen (d : Nat) (as : List gm_V) (M : gm_M) (h : gm_wd as ≤ 5) : gm_go (d + 1) 95 as M = gm_ex (gm_go d) qX8_isAsSeen 100000 0 (gm_pad 5 (gm_ent as)) [] M := if_pos ⟨by decide, h⟩
def qX8_isUnder : Nat → List gm_A := fun b => pX8_isUnder.getD b []
theorem qX8_isUnder_0 : qX8_isUnder 0 = [(gm_iload 0), (gm_istore 2), (gm_push (.inl 0)), (gm_istore 3), (gm_goto 1)] := rfl
theorem qX8_isUnder_1 : qX8_isUnder 1 = [(gm_iload 3), (gm_push (.inr (.inr 1000))), gm_alen, (gm_cge 3), (gm_iload 2), (gm_iflt 3), (gm_iload 2), (gm_push (.inr (.inr 1000))), gm_alen, (gm_cge 3), (gm_iload 2), (gm_iload 1), (gm_cne 2), (gm_push (.inl 1)), gm_zret] := rfl
theorem qX8_isUnder_2 : qX8_isUnder 2 = [(gm_push (.inr (.inr 1000))), (gm_iload 2), gm_iald, (gm_istore 2), (gm_iinc 3 1), (gm_goto 1)] := rfl
theorem qX8_isUnder_3 : qX8_isUnder 3 = [(gm_push (.inl 0)), gm_zret] := rfl
theorem eX8_isUnder (d : Nat) (as : List gm_V) (M : gm_M) (h : gm_wd as ≤ 4) : gm_go (d + 1) 96 as M = gm_ex (gm_go d) qX8_isUnder 100000 0 (gm_pad 4 (gm_ent as)) [] M := if_pos ⟨by decide, h⟩
def qX8_lowest : Nat → List gm_A := fun b => pX8_lowest.getD b []
theorem qX8_lowest_0 : qX8_lowest 0 = [(gm_iload 0), (gm_istore 3), (gm_iload 1), (gm_istore 4), (gm_push (.inl 0)), (gm_istore 5), (gm_goto 1)] := rfl
theorem qX8_lowest_1 : qX8_lowest 1 = [(gm_iload 5), (gm_push (.inl 64)), (gm_cge 2), (gm_iload 4), (gm_ifeq 2), (gm_iload 3), (gm_iload 4), (gm_quo gm_rem), (gm_istore 6), (gm_iload 4), (gm_istore 3), (gm_iload 6), (gm_istore 4), (gm_iinc 5 1), (gm_goto 1)] := rfl
theorem qX8_lowest_2 : qX8_lowest 2 = [(gm_push (.inl 1)), (gm_iload 3), gm_max, (gm_istore 5), (gm_iload 2), (gm_ifne 3), (gm_iload 0), (gm_iload 5), (gm_quo gm_div), (gm_goto 4)] := rfl
theorem qX8_lowest_3 : qX8_lowest 3 = [(gm_iload 1), (gm_iload 5), (gm_quo gm_div), (gm_goto 4)] := rfl
theorem qX8_lowest_4 : qX8_lowest 4 = [gm_iret] := rfl
theorem eX8_lowest (d : Nat) (as : List gm_V) (M : gm_M) (h : gm_wd as ≤ 7) : gm_go (d + 1) 97 as M = gm_ex (gm_go d) qX8_lowest 100000 0 (gm_pad 7 (gm_ent as)) [] M := if_pos ⟨by decide, h⟩
def qX9_init : Nat → List gm_A := fun b => pX9_init.getD b []
theorem qX9_init_0 : qX9_init 0 = [(gm_aload 0), gm_oinit, (gm_aload 0), (gm_push (.inl 0)), (gm_putI 9 900), (gm_aload 0), (gm_push (.inl 0)), (gm_putI 9 901), (gm_aload 0), (gm_push (.inl 6)), (gm_newarr 20), (gm_putR 9 902), (gm_aload 0), (gm_push (.inl 6)), (gm_newarr 20), (gm_putR 9 903), (gm_aload 0), (gm_push (.inl 6)), (gm_newarr 20), (gm_putR 9 904), (gm_aload 0), (gm_push (.inl 6)), (gm_newarr 20), (gm_putR 9 905), (gm_aload 0), (gm_push (.inl 6)), (gm_newarr 20), (gm_putR 9 906), (gm_aload 0), (gm_push (.inl 6)), (gm_newarr 20), (gm_putR 9 907), (gm_aload 0), (gm_push (.inl 24)), (gm_newarr 20), (gm_putR 9 908), (gm_aload 0), (gm_push (.inl 0)), (gm_putI 9 909), (gm_aload 0), (gm_push (.inl (-1))), (gm_putI 9 910), (gm_aload 0), (gm_push (.inl 0)), (gm_putI 9 911), (gm_aload 0), (gm_push (.inl 0)), (gm_putI 9 912), (gm_aload 0), (gm_push (.inl 0)), (gm_putI 9 913), (gm_aload 0), (gm_push (.inl 100)), (gm_newarr 20), (gm_putR 9 914), (gm_aload 0), (gm_push (.inl 6)), (gm_newarr 20), (gm_putR 9 915), (gm_aload 0), (gm_push (.inl 60)), (gm_newarr 20), (gm_putR 9 916), (gm_aload 0), (gm_push (.inl 60)), (gm_newarr 20), (gm_putR 9 917), (gm_aload 0), (gm_push (.inl 60)), (gm_newarr 20), (gm_putR 9 918), (gm_aload 0), (gm_push (.inl 60)), (gm_newarr 20), (gm_putR 9 919), (gm_aload 0), (gm_push (.inl 600)), (gm_newarr 20), (gm_putR 9 920), (gm_aload 0), (gm_push (.inl 101)), (gm_newarr 20), (gm_putR 9 921), (gm_aload 0), (gm_push (.inl 0)), (gm_putI 9 922), (gm_aload 0), (gm_push (.inl 0)), (gm_putI 9 923), (gm_aload 0), (gm_push (.inl 0)), (gm_putI 9 924), (gm_aload 0), (gm_push (.inl 14)), (gm_newarr 20), gm_dup, (gm_push (.inl 0)), (gm_push (.inl 115)), gm_iast, gm_dup, (gm_push (.inl 1)), (gm_push (.inl 117)), gm_iast, gm_dup, (gm_push (.inl 2)), (gm_push (.inl 110)), gm_iast, gm_dup, (gm_push (.inl 3)), (gm_push (.inl 99)), gm_iast, gm_dup, (gm_push (.inl 4)), (gm_push (.inl 111)), gm_iast, gm_dup, (gm_push (.inl 5)), (gm_push (.inl 108)), gm_iast, gm_dup, (gm_push (.inl 6)), (gm_push (.inl 100)), gm_iast, gm_dup, (gm_push (.inl 7)), (gm_push (.inl 108)), gm_iast, gm_dup, (gm_push (.inl 8)), (gm_push (.inl 111)), gm_iast, gm_dup, (gm_push (.inl 9)), (gm_push (.inl 119)), gm_iast, gm_dup, (gm_push (.inl 10)), (gm_push (.inl 104)), gm_iast, gm_dup, (gm_push (.inl 11)), (gm_push (.inl 105)), gm_iast, gm_dup, (gm_push (.inl 12)), (gm_push (.inl 103)), gm_iast, gm_dup, (gm_push (.inl 13)), (gm_push (.inl 104)), gm_iast, (gm_putR 9 925), (gm_aload 0), (gm_push (.inl 100)), (gm_newarr 23), (gm_putR 9 926), (gm_aload 0), (gm_push (.inl (-1))), (gm_putI 9 927), (gm_aload 0), (gm_push (.inl 0)), (gm_putI 9 928), (gm_aload 0), (gm_push (.inl (-1))), (gm_putI 9 929), (gm_aload 0), (gm_push (.inl (-1))), (gm_putI 9 930), (gm_aload 0), (gm_push (.inl 6)), (gm_newarr 20), (gm_putR 9 931), (gm_aload 0), (gm_push (.inl 6)), (gm_newarr 20), (gm_putR 9 932), (gm_aload 0), (gm_push (.inl 0)), (gm_putI 9 933), (gm_aload 0), (gm_push (.inl 6)), (gm_newarr 20), (gm_putR 9 934), (gm_aload 0), (gm_push (.inl 0)), (gm_putI 9 935), (gm_aload 0), (gm_push (.inl 8)), (gm_newarr 20), (gm_putR 9 936), (gm_aload 0), (gm_push (.inl 8)), (gm_newarr 20), (gm_putR 9 937), (gm_aload 0), (gm_push (.inl 8)), (gm_newarr 20), (gm_putR 9 938), (gm_aload 0), (gm_push (.inl 0)), (gm_putI 9 939), (gm_aload 0), (gm_push (.inl 12)), (gm_newarr 20), (gm_putR 9 940), (gm_aload 0), (gm_push (.inl 0)), (gm_putZ 9 941), (gm_aload 0), (gm_push (.inl (-1))), (gm_putI 9 942), (gm_aload 0), (gm_push (.inl 0)), (gm_putI 9 943), (gm_aload 0), (gm_push (.inl 0)), (gm_putI 9 944), (gm_aload 0), (gm_push (.inl 0)), (gm_putI 9 945), (gm_aload 0), (gm_push (.inl 0)), (gm_putI 9 946), (gm_aload 0), (gm_push (.inl 6)), (gm_newarr 20), (gm_putR 9 947), (gm_aload 0), (gm_push (.inl 6)), (gm_newarr 20), (gm_putR 9 948), (gm_aload 0), (gm_push (.inl 6)), (gm_newarr 20), (gm_putR 9 949), (gm_aload 0), (gm_push (.inl 6)), (gm_newarr 20), (gm_putR 9 950), (gm_aload 0), (gm_push (.inl 6)), (gm_newarr 20), (gm_putR 9 951), (gm_aload 0), (gm_push (.inl 6)), (gm_newarr 20), (gm_putR 9 952), (gm_aload 0), (gm_push (.inl 24)), (gm_newarr 20), (gm_putR 9 953), (gm_aload 0), (gm_push (.inl 8)), (gm_newarr 20), (gm_putR 9 954), (gm_aload 0), (gm_push (.inl 8)), (gm_newarr 20), (gm_putR 9 955), (gm_aload 0), (gm_push (.inl 8)), (gm_newarr 20), (gm_putR 9 956), (gm_aload 0), (gm_push (.inl 12)), (gm_newarr 20), (gm_putR 9 957), (gm_aload 0), (gm_push (.inl 0)), (gm_putI 9 958), (gm_aload 0), (gm_push (.inl 20)), (gm_newarr 20), (gm_putR 9 959), (gm_aload 0), (gm_push (.inl 6)), (gm_newarr 20), gm_dup, (gm_push (.inl 0)), (gm_push (.inl (-1))), gm_iast, gm_dup, (gm_push (.inl 1)), (gm_push (.inl (-1))), gm_iast, gm_dup, (gm_push (.inl 2)), (gm_push (.inl (-1))), gm_iast, gm_dup, (gm_push (.inl 3)), (gm_push (.inl (-1))), gm_iast, gm_dup, (gm_push (.inl 4)), (gm_push (.inl (-1))), gm_iast, gm_dup, (gm_push (.inl 5)), (gm_push (.inl (-1))), gm_iast, (gm_putR 9 960), (gm_aload 0), (gm_push (.inl 6)), (gm_newarr 20), (gm_putR 9 961), (gm_aload 0), (gm_push (.inl 360)), (gm_newarr 21), (gm_putR 9 962), (gm_aload 0), (gm_push (.inl 60)), (gm_newarr 21), (gm_putR 9 963), gm_vret] := rfl
theorem eX9_init (d : Nat) (as : List gm_V) (M : gm_M) (h : gm_wd as ≤ 1) : gm_go (d + 1) 98 as M = gm_ex (gm_go d) qX9_init 100000 0 (gm_pad 1 (gm_ent as)) [] M := if_pos ⟨by decide, h⟩
def qX9_in : Nat → List gm_A := fun b => pX9_in.getD b []
theorem qX9_in_0 : qX9_in 0 = [(gm_iload 1), (gm_iload 2), (gm_clt 1), (gm_iload 1), (gm_iload 3), (gm_cgt 1), (gm_push (.inl 1)), (gm_goto 2)] := rfl
theorem qX9_in_1 : qX9_in 1 = [(gm_push (.inl 0)), (gm_goto 2)] := rfl
theorem qX9_in_2 : qX9_in 2 = [gm_zret] := rfl
theorem eX9_in (d : Nat) (as : List gm_V) (M : gm_M) (h : gm_wd as ≤ 4) : gm_go (d + 1) 99 as M = gm_ex (gm_go d) qX9_in 100000 0 (gm_pad 4 (gm_ent as)) [] M := if_pos ⟨by decide, h⟩
def qX9_isHouse : Nat → List gm_A := fun b => pX9_isHouse.getD b []
theorem qX9_isHouse_0 : qX9_isHouse 0 = [(gm_aload 0), (gm_iload 1), (gm_push (.inl 0)), (gm_aload 0), (gm_getI 9 900), (gm_push (.inl 1)), (gm_op2 gm_sub), (gm_vcall 9 99 4), gm_zret] := rfl
theorem eX9_isHouse (d : Nat) (as : List gm_V) (M : gm_M) (h : gm_wd as ≤ 2) : gm_go (d + 1) 100 as M = gm_ex (gm_go d) qX9_isHouse 100000 0 (gm_pad 2 (gm_ent as)) [] M := if_pos ⟨by decide, h⟩
def qX9_house : Nat → List gm_A := fun b => pX9_house.getD b []
theorem qX9_house_0 : qX9_house 0 = [(gm_aload 0), (gm_iload 1), (gm_push (.inl 0)), (gm_push (.inl 6)), (gm_vcall 9 99 4), (gm_ifne 1), (gm_push (.inl (-1))), gm_iret] := rfl
theorem qX9_house_1 : qX9_house 1 = [(gm_aload 0), (gm_iload 2), (gm_push (.inl 0)), (gm_push (.inl 9)), (gm_vcall 9 99 4), (gm_ifeq 2), (gm_aload 0), (gm_iload 3), (gm_push (.inl 0)), (gm_push (.inl 199)), (gm_vcall 9 99 4), (gm_ifeq 2), (gm_aload 0), (gm_iload 4), (gm_push (.inl 0)), (gm_push (.inl 99)), (gm_vcall 9 99 4), (gm_ifne 3), (gm_goto 2)] := rfl
theorem qX9_house_2 : qX9_house 2 = [(gm_push (.inl (-2))), gm_iret] := rfl
theorem qX9_house_3 : qX9_house 3 = [(gm_aload 0), (gm_getI 9 900), (gm_push (.inl 6)), (gm_cne 4), (gm_push (.inl (-4))), gm_iret] := rfl
theorem qX9_house_4 : qX9_house 4 = [(gm_aload 0), (gm_getR 9 902), (gm_aload 0), (gm_getI 9 900), (gm_iload 1), gm_iast, (gm_aload 0), (gm_getR 9 903), (gm_aload 0), (gm_getI 9 900), (gm_iload 2), gm_iast, (gm_aload 0), (gm_getR 9 904), (gm_aload 0), (gm_getI 9 900), (gm_iload 3), gm_iast, (gm_aload 0), (gm_getR 9 905), (gm_aload 0), (gm_getI 9 900), (gm_push (.inl 0)), gm_iast, (gm_aload 0), (gm_getR 9 906), (gm_aload 0), (gm_getI 9 900), (gm_iload 4), gm_iast, (gm_aload 0), (gm_getR 9 907), (gm_aload 0), (gm_getI 9 900), (gm_push (.inl 0)), gm_iast, (gm_push (.inl 0)), (gm_istore 5), (gm_goto 5)] := rfl
theorem qX9_house_5 : qX9_house 5 = [(gm_iload 5), (gm_push (.inl 4)), (gm_cge 6), (gm_aload 0), (gm_getR 9 908), (gm_push (.inl 4)), (gm_aload 0), (gm_getI 9 900), (gm_op2 gm_mul), (gm_iload 5), (gm_op2 gm_add), (gm_push (.inl 4)), gm_iast, (gm_iinc 5 1), (gm_goto 5)] := rfl
theorem qX9_house_6 : qX9_house 6 = [(gm_aload 0), gm_dup, (gm_getI 9 900), (gm_push (.inl 1)), (gm_op2 gm_add), (gm_putI 9 900), (gm_aload 0), (gm_getI 9 900), (gm_push (.inl 1)), (gm_op2 gm_sub), gm_iret] := rfl
theorem eX9_house (d : Nat) (as : List gm_V) (M : gm_M) (h : gm_wd as ≤ 6) : gm_go (d + 1) 101 as M = gm_ex (gm_go d) qX9_house 100000 0 (gm_pad 6 (gm_ent as)) [] M := if_pos ⟨by decide, h⟩
def qX9_roomOf : Nat → List gm_A := fun b => pX9_roomOf.getD b []
theorem qX9_roomOf_0 : qX9_roomOf 0 = [(gm_aload 0), (gm_getR 9 902), (gm_iload 1), gm_iald, (gm_push (.inl 2)), (gm_ceq 1), (gm_aload 0), (gm_getR 9 902), (gm_iload 1), gm_iald, (gm_push (.inl 5)), (gm_cne 2), (gm_goto 1)] := rfl
theorem qX9_roomOf_1 : qX9_roomOf 1 = [(gm_aload 0), (gm_getR 9 906), (gm_iload 1), gm_iald, (gm_aload 0), (gm_getR 9 903), (gm_iload 1), gm_iald, (gm_op2 gm_add), (gm_goto 3)] := rfl
theorem qX9_roomOf_2 : qX9_roomOf 2 = [(gm_aload 0), (gm_getR 9 906), (gm_iload 1), gm_iald, (gm_goto 3)] := rfl
theorem qX9_roomOf_3 : qX9_roomOf 3 = [gm_iret] := rfl
theorem eX9_roomOf (d : Nat) (as : List gm_V) (M : gm_M) (h : gm_wd as ≤ 2) : gm_go (d + 1) 102 as M = gm_ex (gm_go d) qX9_roomOf 100000 0 (gm_pad 2 (gm_ent as)) [] M := if_pos ⟨by decide, h⟩
def qX9_set : Nat → List gm_A := fun b => pX9_set.getD b []
theorem qX9_set_0 : qX9_set 0 = [(gm_aload 0), (gm_iload 1), (gm_vcall 9 100 2), (gm_ifeq 1), (gm_aload 0), (gm_iload 2), (gm_push (.inl 0)), (gm_push (.inl 2)), (gm_vcall 9 99 4), (gm_ifne 2), (gm_goto 1)] := rfl
theorem qX9_set_1 : qX9_set 1 = [(gm_push (.inl (-1))), gm_iret] := rfl
theorem qX9_set_2 : qX9_set 2 = [(gm_aload 0), (gm_iload 3), (gm_push (.inl 0)), (gm_iload 2), (gm_ifne 3), (gm_push (.inl 199)), (gm_goto 5)] := rfl
theorem qX9_set_3 : qX9_set 3 = [(gm_iload 2), (gm_push (.inl 1)), (gm_cne 4), (gm_aload 0), (gm_iload 1), (gm_vcall 9 102 2), (gm_goto 5)] := rfl
theorem qX9_set_4 : qX9_set 4 = [(gm_push (.inl 9)), (gm_goto 5)] := rfl
theorem qX9_set_5 : qX9_set 5 = [(gm_vcall 9 99 4), (gm_ifne 6), (gm_push (.inl (-2))), gm_iret] := rfl
theorem qX9_set_6 : qX9_set 6 = [(gm_iload 2), (gm_ifne 7), (gm_aload 0), (gm_getR 9 904), (gm_iload 1), gm_iald, (gm_goto 9)] := rfl
theorem qX9_set_7 : qX9_set 7 = [(gm_iload 2), (gm_push (.inl 1)), (gm_cne 8), (gm_aload 0), (gm_getR 9 905), (gm_iload 1), gm_iald, (gm_goto 9)] := rfl
theorem qX9_set_8 : qX9_set 8 = [(gm_aload 0), (gm_getR 9 907), (gm_iload 1), gm_iald, (gm_goto 9)] := rfl
theorem qX9_set_9 : qX9_set 9 = [(gm_istore 4), (gm_iload 2), (gm_ifne 10), (gm_aload 0), (gm_getR 9 904), (gm_iload 1), (gm_iload 3), gm_iast, (gm_goto 12)] := rfl
theorem qX9_set_10 : qX9_set 10 = [(gm_iload 2), (gm_push (.inl 1)), (gm_cne 11), (gm_aload 0), (gm_getR 9 905), (gm_iload 1), (gm_iload 3), gm_iast, (gm_goto 12)] := rfl
theorem qX9_set_11 : qX9_set 11 = [(gm_aload 0), (gm_getR 9 907), (gm_iload 1), (gm_iload 3), gm_iast, (gm_goto 12)] := rfl
theorem qX9_set_12 : qX9_set 12 = [(gm_iload 4), gm_iret] := rfl
theorem eX9_set (d : Nat) (as : List gm_V) (M : gm_M) (h : gm_wd as ≤ 5) : gm_go (d + 1) 103 as M = gm_ex (gm_go d) qX9_set 100000 0 (gm_pad 5 (gm_ent as)) [] M := if_pos ⟨by decide, h⟩
def qX9_row : Nat → List gm_A := fun b => pX9_row.getD b []
theorem qX9_row_0 : qX9_row 0 = [(gm_aload 0), (gm_iload 1), (gm_vcall 9 100 2), (gm_ifeq 1), (gm_aload 0), (gm_iload 2), (gm_push (.inl 0)), (gm_push (.inl 3)), (gm_vcall 9 99 4), (gm_ifne 2), (gm_goto 1)] := rfl
theorem qX9_row_1 : qX9_row 1 = [(gm_push (.inl (-1))), gm_iret] := rfl
theorem qX9_row_2 : qX9_row 2 = [(gm_aload 0), (gm_iload 3), (gm_push (.inl 0)), (gm_push (.inl 9)), (gm_vcall 9 99 4), (gm_ifne 3), (gm_push (.inl (-2))), gm_iret] := rfl
theorem qX9_row_3 : qX9_row 3 = [(gm_aload 0), (gm_getR 9 902), (gm_iload 1), gm_iald, (gm_push (.inl 6)), (gm_ceq 4), (gm_push (.inl (-3))), gm_iret] := rfl
theorem qX9_row_4 : qX9_row 4 = [(gm_aload 0), (gm_getR 9 908), (gm_push (.inl 4)), (gm_iload 1), (gm_op2 gm_mul), (gm_iload 2), (gm_op2 gm_add), gm_iald, (gm_istore 4), (gm_aload 0), (gm_getR 9 908), (gm_push (.inl 4)), (gm_iload 1), (gm_op2 gm_mul), (gm_iload 2), (gm_op2 gm_add), (gm_iload 3), gm_iast, (gm_iload 4), gm_iret] := rfl
theorem eX9_row (d : Nat) (as : List gm_V) (M : gm_M) (h : gm_wd as ≤ 5) : gm_go (d + 1) 104 as M = gm_ex (gm_go d) qX9_row 100000 0 (gm_pad 5 (gm_ent as)) [] M := if_pos ⟨by decide, h⟩
def qX9_feed : Nat → List gm_A := fun b => pX9_feed.getD b []
theorem qX9_feed_0 : qX9_feed 0 = [(gm_aload 0), (gm_iload 1), (gm_push (.inl 0)), (gm_push (.inl 127)), (gm_vcall 9 99 4), (gm_ifne 1), (gm_push (.inl (-2))), gm_iret] := rfl
theorem qX9_feed_1 : qX9_feed 1 = [(gm_aload 0), (gm_getI 9 911), (gm_push (.inl 100)), (gm_cne 2), (gm_push (.inl (-4))), gm_iret] := rfl
theorem qX9_feed_2 : qX9_feed 2 = [(gm_aload 0), (gm_getR 9 914), (gm_aload 0), (gm_getI 9 911), (gm_iload 1), gm_iast, (gm_aload 0), gm_dup, (gm_getI 9 911), (gm_push (.inl 1)), (gm_op2 gm_add), (gm_putI 9 911), (gm_aload 0), (gm_getI 9 911), gm_iret] := rfl
theorem eX9_feed (d : Nat) (as : List gm_V) (M : gm_M) (h : gm_wd as ≤ 2) : gm_go (d + 1) 105 as M = gm_ex (gm_go d) qX9_feed 100000 0 (gm_pad 2 (gm_ent as)) [] M := if_pos ⟨by decide, h⟩
def qX9_next : Nat → List gm_A := fun b => pX9_next.getD b []
theorem qX9_next_0 : qX9_next 0 = [(gm_aload 0), (gm_getI 9 912), (gm_aload 0), (gm_getI 9 911), (gm_cge 1), (gm_aload 0), (gm_getR 9 914), (gm_aload 0), (gm_getI 9 912), gm_iald, (gm_goto 2)] := rfl
theorem qX9_next_1 : qX9_next 1 = [(gm_push (.inl (-1))), (gm_goto 2)] := rfl
theorem qX9_next_2 : qX9_next 2 = [gm_iret] := rfl
theorem eX9_next (d : Nat) (as : List gm_V) (M : gm_M) (h : gm_wd as ≤ 1) : gm_go (d + 1) 106 as M = gm_ex (gm_go d) qX9_next 100000 0 (gm_pad 1 (gm_ent as)) [] M := if_pos ⟨by decide, h⟩
def qX9_takes : Nat → List gm_A := fun b => pX9_takes.getD b []
theorem qX9_takes_0 : qX9_takes 0 = [(gm_aload 0), (gm_vcall 9 106 1), (gm_iload 1), (gm_ceq 1), (gm_push (.inl 0)), gm_zret] := rfl
theorem qX9_takes_1 : qX9_takes 1 = [(gm_aload 0), gm_dup, (gm_getI 9 912), (gm_push (.inl 1)), (gm_op2 gm_add), (gm_putI 9 912), (gm_push (.inl 1)), gm_zret] := rfl
theorem eX9_takes (d : Nat) (as : List gm_V) (M : gm_M) (h : gm_wd as ≤ 2) : gm_go (d + 1) 107 as M = gm_ex (gm_go d) qX9_takes 100000 0 (gm_pad 2 (gm_ent as)) [] M := if_pos ⟨by decide, h⟩
def qX9_takesWord : Nat → List gm_A := fun b => pX9_takesWord.getD b []
theorem qX9_takesWord_0 : qX9_takesWord 0 = [(gm_push (.inl 0)), (gm_istore 3), (gm_goto 1)] := rfl
theorem qX9_takesWord_1 : qX9_takesWord 1 = [(gm_iload 3), (gm_iload 2), (gm_cge 3), (gm_aload 0), (gm_aload 0), (gm_getR 9 925), (gm_iload 1), (gm_iload 3), (gm_op2 gm_add), gm_iald, (gm_vcall 9 107 2), (gm_ifne 2), (gm_push (.inl 0)), gm_zret] := rfl
theorem qX9_takesWord_2 : qX9_takesWord 2 = [(gm_iinc 3 1), (gm_goto 1)] := rfl
theorem qX9_takesWord_3 : qX9_takesWord 3 = [(gm_aload 0), (gm_push (.inl 32)), (gm_vcall 9 107 2), gm_zret] := rfl
theorem eX9_takesWord (d : Nat) (as : List gm_V) (M : gm_M) (h : gm_wd as ≤ 4) : gm_go (d + 1) 108 as M = gm_ex (gm_go d) qX9_takesWord 100000 0 (gm_pad 4 (gm_ent as)) [] M := if_pos ⟨by decide, h⟩
def qX9_isDigit : Nat → List gm_A := fun b => pX9_isDigit.getD b []
theorem qX9_isDigit_0 : qX9_isDigit 0 = [(gm_aload 0), (gm_aload 0), (gm_vcall 9 106 1), (gm_push (.inl 48)), (gm_push (.inl 57)), (gm_vcall 9 99 4), gm_zret] := rfl
theorem eX9_isDigit (d : Nat) (as : List gm_V) (M : gm_M) (h : gm_wd as ≤ 1) : gm_go (d + 1) 109 as M = gm_ex (gm_go d) qX9_isDigit 100000 0 (gm_pad 1 (gm_ent as)) [] M := if_pos ⟨by decide, h⟩
def qX9_takesNumber : Nat → List gm_A := fun b => pX9_takesNumber.getD b []
theorem qX9_takesNumber_0 : qX9_takesNumber 0 = [(gm_aload 0), (gm_vcall 9 109 1), (gm_ifne 1), (gm_push (.inl 0)), gm_zret] := rfl
theorem qX9_takesNumber_1 : qX9_takesNumber 1 = [(gm_aload 0), (gm_push (.inl 0)), (gm_putI 9 913), (gm_push (.inl 0)), (gm_istore 1), (gm_goto 2)] := rfl
theorem qX9_takesNumber_2 : qX9_takesNumber 2 = [(gm_iload 1), (gm_push (.inl 2)), (gm_cge 3), (gm_aload 0), (gm_vcall 9 109 1), (gm_ifeq 3), (gm_aload 0), (gm_push (.inl 10)), (gm_aload 0), (gm_getI 9 913), (gm_op2 gm_mul), (gm_aload 0), (gm_vcall 9 106 1), (gm_op2 gm_add), (gm_push (.inl 48)), (gm_op2 gm_sub), (gm_putI 9 913), (gm_aload 0), gm_dup, (gm_getI 9 912), (gm_push (.inl 1)), (gm_op2 gm_add), (gm_putI 9 912), (gm_iinc 1 1), (gm_goto 2)] := rfl
theorem qX9_takesNumber_3 : qX9_takesNumber 3 = [(gm_push (.inl 1)), gm_zret] := rfl
theorem eX9_takesNumber (d : Nat) (as : List gm_V) (M : gm_M) (h : gm_wd as ≤ 2) : gm_go (d + 1) 110 as M = gm_ex (gm_go d) qX9_takesNumber 100000 0 (gm_pad 2 (gm_ent as)) [] M := if_pos ⟨by decide, h⟩
def qX9_emits : Nat → List gm_A := fun b => pX9_emits.getD b []
theorem qX9_emits_0 : qX9_emits 0 = [(gm_aload 0), (gm_getR 9 920), (gm_aload 0), (gm_getI 9 922), (gm_iload 1), gm_iast, (gm_aload 0), gm_dup, (gm_getI 9 922), (gm_push (.inl 1)), (gm_op2 gm_add), (gm_putI 9 922), gm_vret] := rfl
theorem eX9_emits (d : Nat) (as : List gm_V) (M : gm_M) (h : gm_wd as ≤ 2) : gm_go (d + 1) 111 as M = gm_ex (gm_go d) qX9_emits 100000 0 (gm_pad 2 (gm_ent as)) [] M := if_pos ⟨by decide, h⟩
def qX9_whole : Nat → List gm_A := fun b => pX9_whole.getD b []
theorem qX9_whole_0 : qX9_whole 0 = [(gm_aload 0), (gm_getI 9 923), (gm_ifle 1), (gm_aload 0), (gm_getR 9 921), (gm_aload 0), (gm_getI 9 923), (gm_push (.inl 1)), (gm_op2 gm_sub), gm_iald, (gm_push (.inl 33)), (gm_cne 1), (gm_aload 0), (gm_push (.inl (-33))), (gm_vcall 9 111 2), (gm_aload 0), gm_dup, (gm_getI 9 923), (gm_push (.inl 1)), (gm_op2 gm_sub), (gm_putI 9 923), (gm_aload 0), gm_dup, (gm_getI 9 924), (gm_push (.inl 1)), (gm_op2 gm_sub), (gm_putI 9 924), (gm_goto 0)] := rfl
theorem qX9_whole_1 : qX9_whole 1 = [gm_vret] := rfl
theorem eX9_whole (d : Nat) (as : List gm_V) (M : gm_M) (h : gm_wd as ≤ 1) : gm_go (d + 1) 112 as M = gm_ex (gm_go d) qX9_whole 100000 0 (gm_pad 1 (gm_ent as)) [] M := if_pos ⟨by decide, h⟩
def qX9_settle : Nat → List gm_A := fun b => pX9_settle.getD b []
theorem qX9_settle_0 : qX9_settle 0 = [(gm_aload 0), (gm_getI 9 923), (gm_ifle 2), (gm_aload 0), (gm_getR 9 921), (gm_aload 0), (gm_getI 9 923), (gm_push (.inl 1)), (gm_op2 gm_sub), gm_iald, (gm_push (.inl 38)), (gm_ceq 1), (gm_aload 0), (gm_getR 9 921), (gm_aload 0), (gm_getI 9 923), (gm_push (.inl 1)), (gm_op2 gm_sub), gm_iald, (gm_push (.inl 124)), (gm_cne 2), (gm_iload 1), (gm_push (.inl 38)), (gm_ceq 2), (gm_goto 1)] := rfl
theorem qX9_settle_1 : qX9_settle 1 = [(gm_aload 0), gm_dup, (gm_getI 9 923), (gm_push (.inl 1)), (gm_op2 gm_sub), (gm_putI 9 923), (gm_aload 0), (gm_aload 0), (gm_getR 9 921), (gm_aload 0), (gm_getI 9 923), gm_iald, (gm_op1 gm_neg), (gm_vcall 9 111 2), (gm_goto 0)] := rfl
theorem qX9_settle_2 : qX9_settle 2 = [gm_vret] := rfl
theorem eX9_settle (d : Nat) (as : List gm_V) (M : gm_M) (h : gm_wd as ≤ 2) : gm_go (d + 1) 113 as M = gm_ex (gm_go d) qX9_settle 100000 0 (gm_pad 2 (gm_ent as)) [] M := if_pos ⟨by decide, h⟩
def qX9_place : Nat → List gm_A := fun b => pX9_place.getD b []
theorem qX9_place_0 : qX9_place 0 = [(gm_iload 1), (gm_switch [(101, 5), (102, 7), (103, 7), (104, 1), (105, 7), (106, 7), (107, 2), (108, 7), (109, 4), (110, 7), (111, 7), (112, 7), (113, 7), (114, 7), (115, 6), (116, 7), (117, 7), (118, 3)] 7)] := rfl
theorem qX9_place_1 : qX9_place 1 = [(gm_push (.inl 0)), gm_iret] := rfl
theorem qX9_place_2 : qX9_place 2 = [(gm_push (.inl 1)), gm_iret] := rfl
theorem qX9_place_3 : qX9_place 3 = [(gm_push (.inl 2)), gm_iret] := rfl
theorem qX9_place_4 : qX9_place 4 = [(gm_push (.inl 3)), gm_iret] := rfl
theorem qX9_place_5 : qX9_place 5 = [(gm_push (.inl 4)), gm_iret] := rfl
theorem qX9_place_6 : qX9_place 6 = [(gm_push (.inl 5)), gm_iret] := rfl
theorem qX9_place_7 : qX9_place 7 = [(gm_push (.inl (-1))), gm_iret] := rfl
theorem eX9_place (d : Nat) (as : List gm_V) (M : gm_M) (h : gm_wd as ≤ 2) : gm_go (d + 1) 114 as M = gm_ex (gm_go d) qX9_place 100000 0 (gm_pad 2 (gm_ent as)) [] M := if_pos ⟨by decide, h⟩
def qX9_takesTest : Nat → List gm_A := fun b => pX9_takesTest.getD b []
theorem qX9_takesTest_0 : qX9_takesTest 0 = [(gm_aload 0), (gm_aload 0), (gm_vcall 9 106 1), (gm_vcall 9 114 2), (gm_istore 1), (gm_iload 1), (gm_ifge 1), (gm_push (.inl 0)), gm_zret] := rfl
theorem qX9_takesTest_1 : qX9_takesTest 1 = [(gm_aload 0), gm_dup, (gm_getI 9 912), (gm_push (.inl 1)), (gm_op2 gm_add), (gm_putI 9 912), (gm_aload 0), (gm_vcall 9 106 1), (gm_istore 2), (gm_aload 0), (gm_iload 2), (gm_push (.inl 60)), (gm_push (.inl 62)), (gm_vcall 9 99 4), (gm_ifne 2), (gm_push (.inl 0)), gm_zret] := rfl
theorem qX9_takesTest_2 : qX9_takesTest 2 = [(gm_aload 0), gm_dup, (gm_getI 9 912), (gm_push (.inl 1)), (gm_op2 gm_add), (gm_putI 9 912), (gm_aload 0), (gm_vcall 9 110 1), (gm_ifne 3), (gm_push (.inl 0)), gm_zret] := rfl
theorem qX9_takesTest_3 : qX9_takesTest 3 = [(gm_aload 0), (gm_push (.inl 1000)), (gm_iload 1), (gm_op2 gm_mul), (gm_push (.inl 100)), (gm_iload 2), (gm_push (.inl 60)), (gm_op2 gm_sub), (gm_op2 gm_mul), (gm_op2 gm_add), (gm_aload 0), (gm_getI 9 913), (gm_op2 gm_add), (gm_vcall 9 111 2), (gm_aload 0), (gm_vcall 9 112 1), (gm_push (.inl 1)), gm_zret] := rfl
theorem eX9_takesTest (d : Nat) (as : List gm_V) (M : gm_M) (h : gm_wd as ≤ 3) : gm_go (d + 1) 115 as M = gm_ex (gm_go d) qX9_takesTest 100000 0 (gm_pad 3 (gm_ent as)) [] M := if_pos ⟨by decide, h⟩
def qX9_takesE : Nat → List gm_A := fun b => pX9_takesE.getD b []
theorem qX9_takesE_0 : qX9_takesE 0 = [(gm_aload 0), (gm_push (.inl 0)), (gm_putI 9 923), (gm_aload 0), (gm_push (.inl 0)), (gm_putI 9 924), (gm_aload 0), (gm_getR 9 918), (gm_iload 1), (gm_aload 0), (gm_getI 9 922), gm_iast, (gm_push (.inl 1)), (gm_istore 2), (gm_goto 1)] := rfl
theorem qX9_takesE_1 : qX9_takesE 1 = [(gm_aload 0), (gm_vcall 9 106 1), (gm_istore 3), (gm_iload 2), (gm_ifeq 6), (gm_iload 3), (gm_push (.inl 33)), (gm_ceq 2), (gm_iload 3), (gm_push (.inl 40)), (gm_cne 4), (gm_goto 2)] := rfl
theorem qX9_takesE_2 : qX9_takesE 2 = [(gm_aload 0), (gm_getI 9 924), (gm_push (.inl 4)), (gm_cne 3), (gm_push (.inl 0)), gm_zret] := rfl
theorem qX9_takesE_3 : qX9_takesE 3 = [(gm_aload 0), gm_dup, (gm_getI 9 924), (gm_push (.inl 1)), (gm_op2 gm_add), (gm_putI 9 924), (gm_aload 0), (gm_getR 9 921), (gm_aload 0), (gm_getI 9 923), (gm_iload 3), gm_iast, (gm_aload 0), gm_dup, (gm_getI 9 923), (gm_push (.inl 1)), (gm_op2 gm_add), (gm_putI 9 923), (gm_aload 0), gm_dup, (gm_getI 9 912), (gm_push (.inl 1)), (gm_op2 gm_add), (gm_putI 9 912), (gm_goto 1)] := rfl
theorem qX9_takesE_4 : qX9_takesE 4 = [(gm_aload 0), (gm_vcall 9 115 1), (gm_ifeq 5), (gm_push (.inl 0)), (gm_istore 2), (gm_goto 1)] := rfl
theorem qX9_takesE_5 : qX9_takesE 5 = [(gm_push (.inl 0)), gm_zret] := rfl
theorem qX9_takesE_6 : qX9_takesE 6 = [(gm_iload 3), (gm_push (.inl 38)), (gm_ceq 7), (gm_iload 3), (gm_push (.inl 124)), (gm_cne 8), (gm_goto 7)] := rfl
theorem qX9_takesE_7 : qX9_takesE 7 = [(gm_aload 0), (gm_iload 3), (gm_vcall 9 113 2), (gm_aload 0), (gm_getR 9 921), (gm_aload 0), (gm_getI 9 923), (gm_iload 3), gm_iast, (gm_aload 0), gm_dup, (gm_getI 9 923), (gm_push (.inl 1)), (gm_op2 gm_add), (gm_putI 9 923), (gm_push (.inl 1)), (gm_istore 2), (gm_aload 0), gm_dup, (gm_getI 9 912), (gm_push (.inl 1)), (gm_op2 gm_add), (gm_putI 9 912), (gm_goto 1)] := rfl
theorem qX9_takesE_8 : qX9_takesE 8 = [(gm_aload 0), (gm_push (.inl 124)), (gm_vcall 9 113 2), (gm_aload 0), (gm_getR 9 919), (gm_iload 1), (gm_aload 0), (gm_getI 9 922), gm_iast, (gm_aload 0), (gm_getI 9 923), (gm_ifne 9), (gm_push (.inl 1)), gm_zret] := rfl
theorem qX9_takesE_9 : qX9_takesE 9 = [(gm_iload 3), (gm_push (.inl 41)), (gm_ceq 10), (gm_push (.inl 0)), gm_zret] := rfl
theorem qX9_takesE_10 : qX9_takesE 10 = [(gm_aload 0), gm_dup, (gm_getI 9 923), (gm_push (.inl 1)), (gm_op2 gm_sub), (gm_putI 9 923), (gm_aload 0), gm_dup, (gm_getI 9 924), (gm_push (.inl 1)), (gm_op2 gm_sub), (gm_putI 9 924), (gm_aload 0), gm_dup, (gm_getI 9 912), (gm_push (.inl 1)), (gm_op2 gm_add), (gm_putI 9 912), (gm_aload 0), (gm_vcall 9 112 1), (gm_goto 1)] := rfl
theorem eX9_takesE (d : Nat) (as : List gm_V) (M : gm_M) (h : gm_wd as ≤ 4) : gm_go (d + 1) 116 as M = gm_ex (gm_go d) qX9_takesE 100000 0 (gm_pad 4 (gm_ent as)) [] M := if_pos ⟨by decide, h⟩
def qX9_takesHead : Nat → List gm_A := fun b => pX9_takesHead.getD b []
theorem qX9_takesHead_0 : qX9_takesHead 0 = [(gm_aload 0), (gm_vcall 9 106 1), (gm_switch [(99, 2), (108, 3), (115, 1)] 4)] := rfl
theorem qX9_takesHead_1 : qX9_takesHead 1 = [(gm_aload 0), (gm_getR 9 916), (gm_iload 1), (gm_push (.inl 0)), gm_iast, (gm_aload 0), (gm_push (.inl 0)), (gm_push (.inl 3)), (gm_vcall 9 108 3), gm_zret] := rfl
theorem qX9_takesHead_2 : qX9_takesHead 2 = [(gm_aload 0), (gm_getR 9 916), (gm_iload 1), (gm_push (.inl 1)), gm_iast, (gm_aload 0), (gm_push (.inl 3)), (gm_push (.inl 4)), (gm_vcall 9 108 3), gm_zret] := rfl
theorem qX9_takesHead_3 : qX9_takesHead 3 = [(gm_aload 0), (gm_getR 9 916), (gm_iload 1), (gm_push (.inl 2)), gm_iast, (gm_aload 0), (gm_push (.inl 7)), (gm_push (.inl 3)), (gm_vcall 9 108 3), gm_zret] := rfl
theorem qX9_takesHead_4 : qX9_takesHead 4 = [(gm_aload 0), (gm_getR 9 916), (gm_iload 1), (gm_push (.inl 3)), gm_iast, (gm_aload 0), (gm_push (.inl 10)), (gm_push (.inl 4)), (gm_vcall 9 108 3), gm_zret] := rfl
theorem eX9_takesHead (d : Nat) (as : List gm_V) (M : gm_M) (h : gm_wd as ≤ 2) : gm_go (d + 1) 117 as M = gm_ex (gm_go d) qX9_takesHead 100000 0 (gm_pad 2 (gm_ent as)) [] M := if_pos ⟨by decide, h⟩
def qX9_takesClause : Nat → List gm_A := fun b => pX9_takesClause.getD b []
theorem qX9_takesClause_0 : qX9_takesClause 0 = [(gm_aload 0), (gm_iload 1), (gm_vcall 9 117 2), (gm_ifeq 1), (gm_aload 0), (gm_vcall 9 110 1), (gm_ifne 2), (gm_goto 1)] := rfl
theorem qX9_takesClause_1 : qX9_takesClause 1 = [(gm_push (.inl 0)), gm_zret] := rfl
theorem qX9_takesClause_2 : qX9_takesClause 2 = [(gm_aload 0), (gm_getR 9 917), (gm_iload 1), (gm_aload 0), (gm_getI 9 913), gm_iast, (gm_aload 0), (gm_getR 9 916), (gm_iload 1), gm_iald, (gm_push (.inl 1)), (gm_cgt 3), (gm_aload 0), (gm_push (.inl 32)), (gm_vcall 9 107 2), (gm_ifeq 4), (gm_aload 0), (gm_iload 1), (gm_vcall 9 116 2), (gm_ifeq 4), (gm_goto 3)] := rfl
theorem qX9_takesClause_3 : qX9_takesClause 3 = [(gm_push (.inl 1)), (gm_goto 5)] := rfl
theorem qX9_takesClause_4 : qX9_takesClause 4 = [(gm_push (.inl 0)), (gm_goto 5)] := rfl
theorem qX9_takesClause_5 : qX9_takesClause 5 = [gm_zret] := rfl
theorem eX9_takesClause (d : Nat) (as : List gm_V) (M : gm_M) (h : gm_wd as ≤ 2) : gm_go (d + 1) 118 as M = gm_ex (gm_go d) qX9_takesClause 100000 0 (gm_pad 2 (gm_ent as)) [] M := if_pos ⟨by decide, h⟩
def qX9_goesText : Nat → List gm_A := fun b => pX9_goesText.getD b []
theorem qX9_goesText_0 : qX9_goesText 0 = [(gm_aload 0), (gm_push (.inl 0)), (gm_putI 9 912), (gm_aload 0), (gm_push (.inl 100)), (gm_iload 1), (gm_op2 gm_mul), (gm_putI 9 922), (gm_push (.inl 0)), (gm_istore 2), (gm_goto 1)] := rfl
theorem qX9_goesText_1 : qX9_goesText 1 = [(gm_aload 0), (gm_push (.inl 10)), (gm_iload 1), (gm_op2 gm_mul), (gm_iload 2), (gm_op2 gm_add), (gm_vcall 9 118 2), (gm_ifne 2), (gm_push (.inl 0)), gm_zret] := rfl
theorem qX9_goesText_2 : qX9_goesText 2 = [(gm_iinc 2 1), (gm_aload 0), (gm_getR 9 915), (gm_iload 1), (gm_iload 2), gm_iast, (gm_aload 0), (gm_getI 9 912), (gm_aload 0), (gm_getI 9 911), (gm_cne 3), (gm_push (.inl 1)), gm_zret] := rfl
theorem qX9_goesText_3 : qX9_goesText 3 = [(gm_iload 2), (gm_push (.inl 10)), (gm_ceq 4), (gm_aload 0), (gm_push (.inl 59)), (gm_vcall 9 107 2), (gm_ifne 1), (gm_goto 4)] := rfl
theorem qX9_goesText_4 : qX9_goesText 4 = [(gm_push (.inl 0)), gm_zret] := rfl
theorem eX9_goesText (d : Nat) (as : List gm_V) (M : gm_M) (h : gm_wd as ≤ 3) : gm_go (d + 1) 119 as M = gm_ex (gm_go d) qX9_goesText 100000 0 (gm_pad 3 (gm_ent as)) [] M := if_pos ⟨by decide, h⟩
def qX9_ground : Nat → List gm_A := fun b => pX9_ground.getD b []
theorem qX9_ground_0 : qX9_ground 0 = [(gm_aload 0), (gm_getI 9 909), (gm_push (.inl 6)), (gm_cne 1), (gm_push (.inl (-4))), gm_iret] := rfl
theorem qX9_ground_1 : qX9_ground 1 = [(gm_aload 0), (gm_aload 0), (gm_getI 9 909), (gm_vcall 9 119 2), (gm_istore 1), (gm_aload 0), (gm_push (.inl 0)), (gm_putI 9 911), (gm_iload 1), (gm_ifne 2), (gm_push (.inl (-10))), (gm_aload 0), (gm_getI 9 912), (gm_op2 gm_sub), gm_iret] := rfl
theorem qX9_ground_2 : qX9_ground 2 = [(gm_aload 0), (gm_aload 0), (gm_getI 9 909), (gm_putI 9 910), (gm_aload 0), gm_dup, (gm_getI 9 909), (gm_push (.inl 1)), (gm_op2 gm_add), (gm_putI 9 909), (gm_aload 0), (gm_getI 9 910), gm_iret] := rfl
theorem eX9_ground (d : Nat) (as : List gm_V) (M : gm_M) (h : gm_wd as ≤ 2) : gm_go (d + 1) 120 as M = gm_ex (gm_go d) qX9_ground 100000 0 (gm_pad 2 (gm_ent as)) [] M := if_pos ⟨by decide, h⟩
def qX9_begin : Nat → List gm_A := fun b => pX9_begin.getD b []
theorem qX9_begin_0 : qX9_begin 0 = [(gm_aload 0), (gm_getI 9 910), (gm_ifge 1), (gm_push (.inl 0)), (gm_goto 2)] := rfl
theorem qX9_begin_1 : qX9_begin 1 = [(gm_push (.inl 10)), (gm_aload 0), (gm_getI 9 910), (gm_op2 gm_mul), (gm_goto 2)] := rfl
theorem qX9_begin_2 : qX9_begin 2 = [gm_iret] := rfl
theorem eX9_begin (d : Nat) (as : List gm_V) (M : gm_M) (h : gm_wd as ≤ 1) : gm_go (d + 1) 121 as M = gm_ex (gm_go d) qX9_begin 100000 0 (gm_pad 1 (gm_ent as)) [] M := if_pos ⟨by decide, h⟩
def qX9_behind : Nat → List gm_A := fun b => pX9_behind.getD b []
theorem qX9_behind_0 : qX9_behind 0 = [(gm_aload 0), (gm_getI 9 910), (gm_ifge 1), (gm_push (.inl 0)), (gm_goto 2)] := rfl
theorem qX9_behind_1 : qX9_behind 1 = [(gm_push (.inl 10)), (gm_aload 0), (gm_getI 9 910), (gm_op2 gm_mul), (gm_aload 0), (gm_getR 9 915), (gm_aload 0), (gm_getI 9 910), gm_iald, (gm_op2 gm_add), (gm_goto 2)] := rfl
theorem qX9_behind_2 : qX9_behind 2 = [gm_iret] := rfl
theorem eX9_behind (d : Nat) (as : List gm_V) (M : gm_M) (h : gm_wd as ≤ 1) : gm_go (d + 1) 122 as M = gm_ex (gm_go d) qX9_behind 100000 0 (gm_pad 1 (gm_ent as)) [] M := if_pos ⟨by decide, h⟩
def qX9_lastOf : Nat → List gm_A := fun b => pX9_lastOf.getD b []
theorem qX9_lastOf_0 : qX9_lastOf 0 = [(gm_iload 2), (gm_istore 3), (gm_aload 0), (gm_vcall 9 121 1), (gm_istore 4), (gm_goto 1)] := rfl
theorem qX9_lastOf_1 : qX9_lastOf 1 = [(gm_iload 4), (gm_aload 0), (gm_vcall 9 122 1), (gm_cge 4), (gm_aload 0), (gm_getR 9 916), (gm_iload 4), gm_iald, (gm_iload 1), (gm_cne 2), (gm_aload 0), (gm_getR 9 917), (gm_iload 4), gm_iald, (gm_goto 3)] := rfl
theorem qX9_lastOf_2 : qX9_lastOf 2 = [(gm_iload 3), (gm_goto 3)] := rfl
theorem qX9_lastOf_3 : qX9_lastOf 3 = [(gm_istore 3), (gm_iinc 4 1), (gm_goto 1)] := rfl
theorem qX9_lastOf_4 : qX9_lastOf 4 = [(gm_iload 3), gm_iret] := rfl
theorem eX9_lastOf (d : Nat) (as : List gm_V) (M : gm_M) (h : gm_wd as ≤ 5) : gm_go (d + 1) 123 as M = gm_ex (gm_go d) qX9_lastOf 100000 0 (gm_pad 5 (gm_ent as)) [] M := if_pos ⟨by decide, h⟩
def qX9_factOf : Nat → List gm_A := fun b => pX9_factOf.getD b []
theorem qX9_factOf_0 : qX9_factOf 0 = [(gm_iload 1), (gm_switch [(0, 1), (1, 2), (2, 3), (3, 4), (4, 5)] 6)] := rfl
theorem qX9_factOf_1 : qX9_factOf 1 = [(gm_iload 2), gm_iret] := rfl
theorem qX9_factOf_2 : qX9_factOf 2 = [(gm_aload 0), (gm_getR 9 902), (gm_iload 2), gm_iald, gm_iret] := rfl
theorem qX9_factOf_3 : qX9_factOf 3 = [(gm_aload 0), (gm_getR 9 903), (gm_iload 2), gm_iald, gm_iret] := rfl
theorem qX9_factOf_4 : qX9_factOf 4 = [(gm_aload 0), (gm_getI 9 901), (gm_push (.inl 28)), (gm_quo gm_rem), gm_iret] := rfl
theorem qX9_factOf_5 : qX9_factOf 5 = [(gm_aload 0), (gm_getR 9 904), (gm_iload 2), gm_iald, (gm_push (.inl 10)), (gm_quo gm_div), gm_iret] := rfl
theorem qX9_factOf_6 : qX9_factOf 6 = [(gm_aload 0), (gm_getI 9 927), (gm_ifge 7), (gm_aload 0), (gm_getR 9 905), (gm_iload 2), gm_iald, (gm_goto 8)] := rfl
theorem qX9_factOf_7 : qX9_factOf 7 = [(gm_aload 0), (gm_getI 9 927), (gm_goto 8)] := rfl
theorem qX9_factOf_8 : qX9_factOf 8 = [(gm_push (.inl 10)), (gm_quo gm_div), gm_iret] := rfl
theorem eX9_factOf (d : Nat) (as : List gm_V) (M : gm_M) (h : gm_wd as ≤ 3) : gm_go (d + 1) 124 as M = gm_ex (gm_go d) qX9_factOf 100000 0 (gm_pad 3 (gm_ent as)) [] M := if_pos ⟨by decide, h⟩
def qX9_holds : Nat → List gm_A := fun b => pX9_holds.getD b []
theorem qX9_holds_0 : qX9_holds 0 = [(gm_push (.inl 0)), (gm_istore 3), (gm_aload 0), (gm_getR 9 918), (gm_iload 1), gm_iald, (gm_istore 4), (gm_goto 1)] := rfl
theorem qX9_holds_1 : qX9_holds 1 = [(gm_iload 4), (gm_aload 0), (gm_getR 9 919), (gm_iload 1), gm_iald, (gm_cge 18), (gm_aload 0), (gm_getR 9 920), (gm_iload 4), gm_iald, (gm_istore 5), (gm_iload 5), (gm_push (.inl (-33))), (gm_cne 4), (gm_aload 0), (gm_getR 9 926), (gm_iload 3), (gm_push (.inl 1)), (gm_op2 gm_sub), (gm_aload 0), (gm_getR 9 926), (gm_iload 3), (gm_push (.inl 1)), (gm_op2 gm_sub), gm_zald, (gm_ifne 2), (gm_push (.inl 1)), (gm_goto 3)] := rfl
theorem qX9_holds_2 : qX9_holds 2 = [(gm_push (.inl 0)), (gm_goto 3)] := rfl
theorem qX9_holds_3 : qX9_holds 3 = [gm_zast, (gm_goto 17)] := rfl
theorem qX9_holds_4 : qX9_holds 4 = [(gm_iload 5), (gm_ifge 10), (gm_iinc 3 (-1)), (gm_aload 0), (gm_getR 9 926), (gm_iload 3), (gm_push (.inl 1)), (gm_op2 gm_sub), (gm_iload 5), (gm_push (.inl (-38))), (gm_cne 6), (gm_aload 0), (gm_getR 9 926), (gm_iload 3), (gm_push (.inl 1)), (gm_op2 gm_sub), gm_zald, (gm_ifeq 5), (gm_aload 0), (gm_getR 9 926), (gm_iload 3), gm_zald, (gm_ifeq 5), (gm_push (.inl 1)), (gm_goto 9)] := rfl
theorem qX9_holds_5 : qX9_holds 5 = [(gm_push (.inl 0)), (gm_goto 9)] := rfl
theorem qX9_holds_6 : qX9_holds 6 = [(gm_aload 0), (gm_getR 9 926), (gm_iload 3), (gm_push (.inl 1)), (gm_op2 gm_sub), gm_zald, (gm_ifne 7), (gm_aload 0), (gm_getR 9 926), (gm_iload 3), gm_zald, (gm_ifeq 8), (gm_goto 7)] := rfl
theorem qX9_holds_7 : qX9_holds 7 = [(gm_push (.inl 1)), (gm_goto 9)] := rfl
theorem qX9_holds_8 : qX9_holds 8 = [(gm_push (.inl 0)), (gm_goto 9)] := rfl
theorem qX9_holds_9 : qX9_holds 9 = [gm_zast, (gm_goto 17)] := rfl
theorem qX9_holds_10 : qX9_holds 10 = [(gm_aload 0), (gm_iload 5), (gm_push (.inl 1000)), (gm_quo gm_div), (gm_iload 2), (gm_vcall 9 124 3), (gm_istore 6), (gm_iload 5), (gm_push (.inl 100)), (gm_quo gm_div), (gm_push (.inl 10)), (gm_quo gm_rem), (gm_istore 7), (gm_aload 0), (gm_getR 9 926), (gm_iload 3), (gm_iload 7), (gm_ifne 12), (gm_iload 6), (gm_iload 5), (gm_push (.inl 100)), (gm_quo gm_rem), (gm_cge 11), (gm_push (.inl 1)), (gm_goto 16)] := rfl
theorem qX9_holds_11 : qX9_holds 11 = [(gm_push (.inl 0)), (gm_goto 16)] := rfl
theorem qX9_holds_12 : qX9_holds 12 = [(gm_iload 7), (gm_push (.inl 1)), (gm_cne 14), (gm_iload 6), (gm_iload 5), (gm_push (.inl 100)), (gm_quo gm_rem), (gm_cne 13), (gm_push (.inl 1)), (gm_goto 16)] := rfl
theorem qX9_holds_13 : qX9_holds 13 = [(gm_push (.inl 0)), (gm_goto 16)] := rfl
theorem qX9_holds_14 : qX9_holds 14 = [(gm_iload 6), (gm_iload 5), (gm_push (.inl 100)), (gm_quo gm_rem), (gm_cle 15), (gm_push (.inl 1)), (gm_goto 16)] := rfl
theorem qX9_holds_15 : qX9_holds 15 = [(gm_push (.inl 0)), (gm_goto 16)] := rfl
theorem qX9_holds_16 : qX9_holds 16 = [gm_zast, (gm_iinc 3 1), (gm_goto 17)] := rfl
theorem qX9_holds_17 : qX9_holds 17 = [(gm_iinc 4 1), (gm_goto 1)] := rfl
theorem qX9_holds_18 : qX9_holds 18 = [(gm_aload 0), (gm_getR 9 926), (gm_push (.inl 0)), gm_zald, gm_zret] := rfl
theorem eX9_holds (d : Nat) (as : List gm_V) (M : gm_M) (h : gm_wd as ≤ 8) : gm_go (d + 1) 125 as M = gm_ex (gm_go d) qX9_holds 100000 0 (gm_pad 8 (gm_ent as)) [] M := if_pos ⟨by decide, h⟩
def qX9_sumOf : Nat → List gm_A := fun b => pX9_sumOf.getD b []
theorem qX9_sumOf_0 : qX9_sumOf 0 = [(gm_push (.inl 0)), (gm_istore 3), (gm_push (.inl 0)), (gm_istore 4), (gm_aload 0), (gm_vcall 9 121 1), (gm_istore 5), (gm_goto 1)] := rfl
theorem qX9_sumOf_1 : qX9_sumOf 1 = [(gm_iload 5), (gm_aload 0), (gm_vcall 9 122 1), (gm_cge 6), (gm_aload 0), (gm_getR 9 916), (gm_iload 5), gm_iald, (gm_iload 1), (gm_ceq 2), (gm_goto 5)] := rfl
theorem qX9_sumOf_2 : qX9_sumOf 2 = [(gm_push (.inl 1)), (gm_istore 4), (gm_iload 3), (gm_aload 0), (gm_iload 5), (gm_iload 2), (gm_vcall 9 125 3), (gm_ifeq 3), (gm_aload 0), (gm_getR 9 917), (gm_iload 5), gm_iald, (gm_goto 4)] := rfl
theorem qX9_sumOf_3 : qX9_sumOf 3 = [(gm_push (.inl 0)), (gm_goto 4)] := rfl
theorem qX9_sumOf_4 : qX9_sumOf 4 = [(gm_op2 gm_add), (gm_istore 3), (gm_goto 5)] := rfl
theorem qX9_sumOf_5 : qX9_sumOf 5 = [(gm_iinc 5 1), (gm_goto 1)] := rfl
theorem qX9_sumOf_6 : qX9_sumOf 6 = [(gm_iload 4), (gm_ifeq 7), (gm_iload 3), (gm_goto 8)] := rfl
theorem qX9_sumOf_7 : qX9_sumOf 7 = [(gm_push (.inl 10)), (gm_goto 8)] := rfl
theorem qX9_sumOf_8 : qX9_sumOf 8 = [gm_iret] := rfl
theorem eX9_sumOf (d : Nat) (as : List gm_V) (M : gm_M) (h : gm_wd as ≤ 6) : gm_go (d + 1) 126 as M = gm_ex (gm_go d) qX9_sumOf 100000 0 (gm_pad 6 (gm_ent as)) [] M := if_pos ⟨by decide, h⟩
def qX9_isLight : Nat → List gm_A := fun b => pX9_isLight.getD b []
theorem qX9_isLight_0 : qX9_isLight 0 = [(gm_aload 0), (gm_getI 9 901), (gm_push (.inl 28)), (gm_quo gm_rem), (gm_push (.inl 14)), (gm_cge 1), (gm_push (.inl 1)), (gm_goto 2)] := rfl
theorem qX9_isLight_1 : qX9_isLight 1 = [(gm_push (.inl 0)), (gm_goto 2)] := rfl
theorem qX9_isLight_2 : qX9_isLight 2 = [gm_zret] := rfl
theorem eX9_isLight (d : Nat) (as : List gm_V) (M : gm_M) (h : gm_wd as ≤ 1) : gm_go (d + 1) 127 as M = gm_ex (gm_go d) qX9_isLight 100000 0 (gm_pad 1 (gm_ent as)) [] M := if_pos ⟨by decide, h⟩
def qX9_sunOf : Nat → List gm_A := fun b => pX9_sunOf.getD b []
theorem qX9_sunOf_0 : qX9_sunOf 0 = [(gm_aload 0), (gm_vcall 9 127 1), (gm_ifeq 1), (gm_aload 0), (gm_aload 0), (gm_getI 9 901), (gm_aload 0), (gm_getI 9 929), (gm_aload 0), (gm_getI 9 930), (gm_vcall 9 99 4), (gm_ifeq 2), (gm_goto 1)] := rfl
theorem qX9_sunOf_1 : qX9_sunOf 1 = [(gm_push (.inl 0)), gm_iret] := rfl
theorem qX9_sunOf_2 : qX9_sunOf 2 = [(gm_aload 0), (gm_push (.inl 0)), (gm_iload 1), (gm_vcall 9 126 3), (gm_aload 0), (gm_getI 9 928), (gm_op2 gm_sub), (gm_istore 2), (gm_iload 2), (gm_ifge 3), (gm_push (.inl 0)), (gm_goto 4)] := rfl
theorem qX9_sunOf_3 : qX9_sunOf 3 = [(gm_iload 2), (gm_goto 4)] := rfl
theorem qX9_sunOf_4 : qX9_sunOf 4 = [gm_iret] := rfl
theorem eX9_sunOf (d : Nat) (as : List gm_V) (M : gm_M) (h : gm_wd as ≤ 3) : gm_go (d + 1) 128 as M = gm_ex (gm_go d) qX9_sunOf 100000 0 (gm_pad 3 (gm_ent as)) [] M := if_pos ⟨by decide, h⟩
def qX9_coldOf : Nat → List gm_A := fun b => pX9_coldOf.getD b []
theorem qX9_coldOf_0 : qX9_coldOf 0 = [(gm_aload 0), (gm_vcall 9 127 1), (gm_ifeq 1), (gm_push (.inl 0)), (gm_goto 2)] := rfl
theorem qX9_coldOf_1 : qX9_coldOf 1 = [(gm_aload 0), (gm_push (.inl 1)), (gm_iload 1), (gm_vcall 9 126 3), (gm_goto 2)] := rfl
theorem qX9_coldOf_2 : qX9_coldOf 2 = [gm_iret] := rfl
theorem eX9_coldOf (d : Nat) (as : List gm_V) (M : gm_M) (h : gm_wd as ≤ 2) : gm_go (d + 1) 129 as M = gm_ex (gm_go d) qX9_coldOf 100000 0 (gm_pad 2 (gm_ent as)) [] M := if_pos ⟨by decide, h⟩
def qX9_gainOf : Nat → List gm_A := fun b => pX9_gainOf.getD b []
theorem qX9_gainOf_0 : qX9_gainOf 0 = [(gm_aload 0), (gm_iload 1), (gm_vcall 9 128 2), (gm_istore 2), (gm_aload 0), (gm_iload 1), (gm_vcall 9 129 2), (gm_istore 3), (gm_aload 0), (gm_getR 9 902), (gm_iload 1), gm_iald, (gm_switch [(1, 1), (2, 6), (3, 2), (4, 3), (5, 4), (6, 5)] 6)] := rfl
theorem qX9_gainOf_1 : qX9_gainOf 1 = [(gm_push (.inl 2)), (gm_iload 2), (gm_op2 gm_mul), (gm_iload 3), (gm_op2 gm_sub), gm_iret] := rfl
theorem qX9_gainOf_2 : qX9_gainOf 2 = [(gm_iload 2), (gm_push (.inl 2)), (gm_quo gm_div), (gm_iload 3), (gm_op2 gm_sub), gm_iret] := rfl
theorem qX9_gainOf_3 : qX9_gainOf 3 = [(gm_push (.inl 2)), (gm_iload 2), (gm_op2 gm_mul), (gm_iload 3), (gm_op2 gm_sub), (gm_aload 0), (gm_getR 9 903), (gm_iload 1), gm_iald, (gm_op2 gm_add), gm_iret] := rfl
theorem qX9_gainOf_4 : qX9_gainOf 4 = [(gm_iload 2), (gm_iload 3), (gm_op2 gm_sub), (gm_push (.inl 2)), (gm_quo gm_div), gm_iret] := rfl
theorem qX9_gainOf_5 : qX9_gainOf 5 = [(gm_iload 2), (gm_push (.inl 2)), (gm_quo gm_div), (gm_iload 3), (gm_op2 gm_sub), (gm_aload 0), (gm_getR 9 908), (gm_push (.inl 4)), (gm_iload 1), (gm_op2 gm_mul), (gm_aload 0), (gm_getI 9 901), (gm_push (.inl 4)), (gm_quo gm_rem), (gm_op2 gm_add), gm_iald, (gm_op2 gm_add), (gm_push (.inl 4)), (gm_op2 gm_sub), gm_iret] := rfl
theorem qX9_gainOf_6 : qX9_gainOf 6 = [(gm_iload 2), (gm_iload 3), (gm_op2 gm_sub), gm_iret] := rfl
theorem eX9_gainOf (d : Nat) (as : List gm_V) (M : gm_M) (h : gm_wd as ≤ 4) : gm_go (d + 1) 130 as M = gm_ex (gm_go d) qX9_gainOf 100000 0 (gm_pad 4 (gm_ent as)) [] M := if_pos ⟨by decide, h⟩
def qX9_least : Nat → List gm_A := fun b => pX9_least.getD b []
theorem qX9_least_0 : qX9_least 0 = [(gm_iload 1), (gm_iload 2), (gm_cge 1), (gm_iload 1), (gm_goto 2)] := rfl
theorem qX9_least_1 : qX9_least 1 = [(gm_iload 2), (gm_goto 2)] := rfl
theorem qX9_least_2 : qX9_least 2 = [gm_iret] := rfl
theorem eX9_least (d : Nat) (as : List gm_V) (M : gm_M) (h : gm_wd as ≤ 3) : gm_go (d + 1) 131 as M = gm_ex (gm_go d) qX9_least 100000 0 (gm_pad 3 (gm_ent as)) [] M := if_pos ⟨by decide, h⟩
def qX9_most : Nat → List gm_A := fun b => pX9_most.getD b []
theorem qX9_most_0 : qX9_most 0 = [(gm_iload 1), (gm_iload 2), (gm_cle 1), (gm_iload 1), (gm_goto 2)] := rfl
theorem qX9_most_1 : qX9_most 1 = [(gm_iload 2), (gm_goto 2)] := rfl
theorem qX9_most_2 : qX9_most 2 = [gm_iret] := rfl
theorem eX9_most (d : Nat) (as : List gm_V) (M : gm_M) (h : gm_wd as ≤ 3) : gm_go (d + 1) 132 as M = gm_ex (gm_go d) qX9_most 100000 0 (gm_pad 3 (gm_ent as)) [] M := if_pos ⟨by decide, h⟩
def qX9_evens : Nat → List gm_A := fun b => pX9_evens.getD b []
theorem qX9_evens_0 : qX9_evens 0 = [(gm_aload 0), (gm_push (.inl 3)), (gm_push (.inl 80)), (gm_vcall 9 123 3), (gm_istore 4), (gm_aload 0), (gm_push (.inl 2)), (gm_push (.inl 20)), (gm_vcall 9 123 3), (gm_istore 5), (gm_iload 2), (gm_istore 6), (gm_aload 0), (gm_getR 9 904), (gm_iload 1), gm_iald, (gm_iload 4), (gm_cle 1), (gm_aload 0), (gm_push (.inl 0)), (gm_aload 0), (gm_aload 0), (gm_getR 9 904), (gm_iload 1), gm_iald, (gm_iload 4), (gm_op2 gm_sub), (gm_iload 3), (gm_iload 6), (gm_op2 gm_sub), (gm_vcall 9 131 3), (gm_vcall 9 132 3), (gm_istore 7), (gm_aload 0), (gm_getR 9 904), (gm_iload 1), gm_dup2, gm_iald, (gm_iload 7), (gm_op2 gm_sub), gm_iast, (gm_iload 6), (gm_iload 7), (gm_op2 gm_add), (gm_istore 6), (gm_goto 2)] := rfl
theorem qX9_evens_1 : qX9_evens 1 = [(gm_aload 0), (gm_getR 9 904), (gm_iload 1), gm_iald, (gm_iload 5), (gm_cge 2), (gm_aload 0), (gm_iload 5), (gm_aload 0), (gm_getR 9 904), (gm_iload 1), gm_iald, (gm_op2 gm_sub), (gm_iload 6), (gm_vcall 9 131 3), (gm_istore 7), (gm_aload 0), (gm_getR 9 904), (gm_iload 1), gm_dup2, gm_iald, (gm_iload 7), (gm_op2 gm_add), gm_iast, (gm_iload 6), (gm_iload 7), (gm_op2 gm_sub), (gm_istore 6), (gm_goto 2)] := rfl
theorem qX9_evens_2 : qX9_evens 2 = [(gm_iload 6), gm_iret] := rfl
theorem eX9_evens (d : Nat) (as : List gm_V) (M : gm_M) (h : gm_wd as ≤ 8) : gm_go (d + 1) 133 as M = gm_ex (gm_go d) qX9_evens 100000 0 (gm_pad 8 (gm_ent as)) [] M := if_pos ⟨by decide, h⟩
def qX9_isAmiss : Nat → List gm_A := fun b => pX9_isAmiss.getD b []
theorem qX9_isAmiss_0 : qX9_isAmiss 0 = [(gm_aload 0), (gm_getR 9 904), (gm_iload 1), gm_iald, (gm_aload 0), (gm_push (.inl 3)), (gm_push (.inl 80)), (gm_vcall 9 123 3), (gm_cgt 1), (gm_aload 0), (gm_getR 9 904), (gm_iload 1), gm_iald, (gm_aload 0), (gm_push (.inl 2)), (gm_push (.inl 20)), (gm_vcall 9 123 3), (gm_cge 2), (gm_goto 1)] := rfl
theorem qX9_isAmiss_1 : qX9_isAmiss 1 = [(gm_push (.inl 1)), (gm_goto 3)] := rfl
theorem qX9_isAmiss_2 : qX9_isAmiss 2 = [(gm_push (.inl 0)), (gm_goto 3)] := rfl
theorem qX9_isAmiss_3 : qX9_isAmiss 3 = [gm_zret] := rfl
theorem eX9_isAmiss (d : Nat) (as : List gm_V) (M : gm_M) (h : gm_wd as ≤ 2) : gm_go (d + 1) 134 as M = gm_ex (gm_go d) qX9_isAmiss 100000 0 (gm_pad 2 (gm_ent as)) [] M := if_pos ⟨by decide, h⟩
def qX9_goHouse : Nat → List gm_A := fun b => pX9_goHouse.getD b []
theorem qX9_goHouse_0 : qX9_goHouse 0 = [(gm_aload 0), (gm_iload 1), (gm_vcall 9 130 2), (gm_istore 2), (gm_aload 0), (gm_getR 9 904), (gm_iload 1), (gm_aload 0), (gm_push (.inl 0)), (gm_aload 0), (gm_push (.inl 199)), (gm_aload 0), (gm_getR 9 904), (gm_iload 1), gm_iald, (gm_iload 2), (gm_op2 gm_add), (gm_vcall 9 131 3), (gm_vcall 9 132 3), gm_iast, (gm_aload 0), (gm_getR 9 905), (gm_iload 1), (gm_aload 0), (gm_iload 1), (gm_aload 0), (gm_push (.inl 0)), (gm_aload 0), (gm_getR 9 905), (gm_iload 1), gm_iald, (gm_aload 0), (gm_getR 9 907), (gm_iload 1), gm_iald, (gm_op2 gm_sub), (gm_vcall 9 132 3), (gm_aload 0), (gm_iload 1), (gm_vcall 9 102 2), (gm_vcall 9 133 4), gm_iast, (gm_aload 0), (gm_iload 1), (gm_vcall 9 134 2), gm_zret] := rfl
theorem eX9_goHouse (d : Nat) (as : List gm_V) (M : gm_M) (h : gm_wd as ≤ 3) : gm_go (d + 1) 135 as M = gm_ex (gm_go d) qX9_goHouse 100000 0 (gm_pad 3 (gm_ent as)) [] M := if_pos ⟨by decide, h⟩
def qX9_of : Nat → List gm_A := fun b => pX9_of.getD b []
theorem qX9_of_0 : qX9_of 0 = [(gm_aload 0), (gm_iload 1), (gm_vcall 9 100 2), (gm_ifne 1), (gm_push (.inl (-10001))), gm_iret] := rfl
theorem qX9_of_1 : qX9_of 1 = [(gm_iload 2), (gm_switch [(0, 2), (1, 3), (2, 4), (3, 5), (4, 6), (5, 7), (6, 8), (7, 9), (8, 10), (9, 11)] 12)] := rfl
theorem qX9_of_2 : qX9_of 2 = [(gm_aload 0), (gm_getR 9 902), (gm_iload 1), gm_iald, gm_iret] := rfl
theorem qX9_of_3 : qX9_of 3 = [(gm_aload 0), (gm_getR 9 903), (gm_iload 1), gm_iald, gm_iret] := rfl
theorem qX9_of_4 : qX9_of 4 = [(gm_aload 0), (gm_getR 9 904), (gm_iload 1), gm_iald, gm_iret] := rfl
theorem qX9_of_5 : qX9_of 5 = [(gm_aload 0), (gm_getR 9 905), (gm_iload 1), gm_iald, gm_iret] := rfl
theorem qX9_of_6 : qX9_of 6 = [(gm_aload 0), (gm_getR 9 906), (gm_iload 1), gm_iald, gm_iret] := rfl
theorem qX9_of_7 : qX9_of 7 = [(gm_aload 0), (gm_getR 9 907), (gm_iload 1), gm_iald, gm_iret] := rfl
theorem qX9_of_8 : qX9_of 8 = [(gm_aload 0), (gm_iload 1), (gm_vcall 9 102 2), gm_iret] := rfl
theorem qX9_of_9 : qX9_of 9 = [(gm_aload 0), (gm_iload 1), (gm_vcall 9 128 2), gm_iret] := rfl
theorem qX9_of_10 : qX9_of 10 = [(gm_aload 0), (gm_iload 1), (gm_vcall 9 129 2), gm_iret] := rfl
theorem qX9_of_11 : qX9_of 11 = [(gm_aload 0), (gm_iload 1), (gm_vcall 9 130 2), gm_iret] := rfl
theorem qX9_of_12 : qX9_of 12 = [(gm_push (.inl (-10001))), gm_iret] := rfl
theorem eX9_of (d : Nat) (as : List gm_V) (M : gm_M) (h : gm_wd as ≤ 3) : gm_go (d + 1) 136 as M = gm_ex (gm_go d) qX9_of 100000 0 (gm_pad 3 (gm_ent as)) [] M := if_pos ⟨by decide, h⟩
def qX9_told : Nat → List gm_A := fun b => pX9_told.getD b []
theorem qX9_told_0 : qX9_told 0 = [(gm_iload 1), (gm_switch [(0, 1), (1, 2), (2, 3), (3, 6), (4, 7)] 8)] := rfl
theorem qX9_told_1 : qX9_told 1 = [(gm_aload 0), (gm_getI 9 901), gm_iret] := rfl
theorem qX9_told_2 : qX9_told 2 = [(gm_aload 0), (gm_getI 9 901), (gm_push (.inl 28)), (gm_quo gm_rem), gm_iret] := rfl
theorem qX9_told_3 : qX9_told 3 = [(gm_aload 0), (gm_vcall 9 127 1), (gm_ifeq 4), (gm_push (.inl 1)), (gm_goto 5)] := rfl
theorem qX9_told_4 : qX9_told 4 = [(gm_push (.inl 0)), (gm_goto 5)] := rfl
theorem qX9_told_5 : qX9_told 5 = [gm_iret] := rfl
theorem qX9_told_6 : qX9_told 6 = [(gm_aload 0), (gm_push (.inl 2)), (gm_push (.inl 20)), (gm_vcall 9 123 3), gm_iret] := rfl
theorem qX9_told_7 : qX9_told 7 = [(gm_aload 0), (gm_push (.inl 3)), (gm_push (.inl 80)), (gm_vcall 9 123 3), gm_iret] := rfl
theorem qX9_told_8 : qX9_told 8 = [(gm_push (.inl (-1))), gm_iret] := rfl
theorem eX9_told (d : Nat) (as : List gm_V) (M : gm_M) (h : gm_wd as ≤ 2) : gm_go (d + 1) 137 as M = gm_ex (gm_go d) qX9_told 100000 0 (gm_pad 2 (gm_ent as)) [] M := if_pos ⟨by decide, h⟩
def qX9_goDay : Nat → List gm_A := fun b => pX9_goDay.getD b []
theorem qX9_goDay_0 : qX9_goDay 0 = [(gm_push (.inl 0)), (gm_istore 1), (gm_push (.inl 0)), (gm_istore 2), (gm_goto 1)] := rfl
theorem qX9_goDay_1 : qX9_goDay 1 = [(gm_iload 2), (gm_aload 0), (gm_getI 9 900), (gm_cge 4), (gm_iload 1), (gm_aload 0), (gm_iload 2), (gm_vcall 9 135 2), (gm_ifeq 2), (gm_push (.inl 1)), (gm_iload 2), (gm_op2 gm_shl), (gm_goto 3)] := rfl
theorem qX9_goDay_2 : qX9_goDay 2 = [(gm_push (.inl 0)), (gm_goto 3)] := rfl
theorem qX9_goDay_3 : qX9_goDay 3 = [(gm_op2 gm_or), (gm_istore 1), (gm_iinc 2 1), (gm_goto 1)] := rfl
theorem qX9_goDay_4 : qX9_goDay 4 = [(gm_aload 0), gm_dup, (gm_getI 9 901), (gm_push (.inl 1)), (gm_op2 gm_add), (gm_putI 9 901), (gm_iload 1), gm_iret] := rfl
theorem eX9_goDay (d : Nat) (as : List gm_V) (M : gm_M) (h : gm_wd as ≤ 3) : gm_go (d + 1) 138 as M = gm_ex (gm_go d) qX9_goDay 100000 0 (gm_pad 3 (gm_ent as)) [] M := if_pos ⟨by decide, h⟩
def qX9_day : Nat → List gm_A := fun b => pX9_day.getD b []
theorem qX9_day_0 : qX9_day 0 = [(gm_aload 0), (gm_getI 9 901), (gm_push (.inl 9999)), (gm_cne 1), (gm_push (.inl (-3))), (gm_goto 2)] := rfl
theorem qX9_day_1 : qX9_day 1 = [(gm_aload 0), (gm_vcall 9 138 1), (gm_goto 2)] := rfl
theorem qX9_day_2 : qX9_day 2 = [gm_iret] := rfl
theorem eX9_day (d : Nat) (as : List gm_V) (M : gm_M) (h : gm_wd as ≤ 1) : gm_go (d + 1) 139 as M = gm_ex (gm_go d) qX9_day 100000 0 (gm_pad 1 (gm_ent as)) [] M := if_pos ⟨by decide, h⟩
def qX9_keep : Nat → List gm_A := fun b => pX9_keep.getD b []
theorem qX9_keep_0 : qX9_keep 0 = [(gm_push (.inl 0)), (gm_istore 1), (gm_goto 1)] := rfl
theorem qX9_keep_1 : qX9_keep 1 = [(gm_iload 1), (gm_push (.inl 6)), (gm_cge 2), (gm_aload 0), (gm_getR 9 931), (gm_iload 1), (gm_aload 0), (gm_getR 9 904), (gm_iload 1), gm_iald, gm_iast, (gm_aload 0), (gm_getR 9 932), (gm_iload 1), (gm_aload 0), (gm_getR 9 905), (gm_iload 1), gm_iald, gm_iast, (gm_iinc 1 1), (gm_goto 1)] := rfl
theorem qX9_keep_2 : qX9_keep 2 = [(gm_aload 0), (gm_aload 0), (gm_getI 9 901), (gm_putI 9 933), gm_vret] := rfl
theorem eX9_keep (d : Nat) (as : List gm_V) (M : gm_M) (h : gm_wd as ≤ 2) : gm_go (d + 1) 140 as M = gm_ex (gm_go d) qX9_keep 100000 0 (gm_pad 2 (gm_ent as)) [] M := if_pos ⟨by decide, h⟩
def qX9_putBack : Nat → List gm_A := fun b => pX9_putBack.getD b []
theorem qX9_putBack_0 : qX9_putBack 0 = [(gm_push (.inl 0)), (gm_istore 1), (gm_goto 1)] := rfl
theorem qX9_putBack_1 : qX9_putBack 1 = [(gm_iload 1), (gm_push (.inl 6)), (gm_cge 2), (gm_aload 0), (gm_getR 9 904), (gm_iload 1), (gm_aload 0), (gm_getR 9 931), (gm_iload 1), gm_iald, gm_iast, (gm_aload 0), (gm_getR 9 905), (gm_iload 1), (gm_aload 0), (gm_getR 9 932), (gm_iload 1), gm_iald, gm_iast, (gm_iinc 1 1), (gm_goto 1)] := rfl
theorem qX9_putBack_2 : qX9_putBack 2 = [(gm_aload 0), (gm_aload 0), (gm_getI 9 933), (gm_putI 9 901), gm_vret] := rfl
theorem eX9_putBack (d : Nat) (as : List gm_V) (M : gm_M) (h : gm_wd as ≤ 2) : gm_go (d + 1) 141 as M = gm_ex (gm_go d) qX9_putBack 100000 0 (gm_pad 2 (gm_ent as)) [] M := if_pos ⟨by decide, h⟩
def qX9_goOne : Nat → List gm_A := fun b => pX9_goOne.getD b []
theorem qX9_goOne_0 : qX9_goOne 0 = [(gm_push (.inl 0)), (gm_istore 3), (gm_push (.inl 0)), (gm_istore 4), (gm_goto 1)] := rfl
theorem qX9_goOne_1 : qX9_goOne 1 = [(gm_iload 4), (gm_iload 2), (gm_cge 4), (gm_iload 3), (gm_aload 0), (gm_iload 1), (gm_vcall 9 135 2), (gm_ifeq 2), (gm_push (.inl 1)), (gm_goto 3)] := rfl
theorem qX9_goOne_2 : qX9_goOne 2 = [(gm_push (.inl 0)), (gm_goto 3)] := rfl
theorem qX9_goOne_3 : qX9_goOne 3 = [(gm_op2 gm_add), (gm_istore 3), (gm_aload 0), gm_dup, (gm_getI 9 901), (gm_push (.inl 1)), (gm_op2 gm_add), (gm_putI 9 901), (gm_iinc 4 1), (gm_goto 1)] := rfl
theorem qX9_goOne_4 : qX9_goOne 4 = [(gm_iload 3), gm_iret] := rfl
theorem eX9_goOne (d : Nat) (as : List gm_V) (M : gm_M) (h : gm_wd as ≤ 5) : gm_go (d + 1) 142 as M = gm_ex (gm_go d) qX9_goOne 100000 0 (gm_pad 5 (gm_ent as)) [] M := if_pos ⟨by decide, h⟩
def qX9_amissDays : Nat → List gm_A := fun b => pX9_amissDays.getD b []
theorem qX9_amissDays_0 : qX9_amissDays 0 = [(gm_aload 0), (gm_vcall 9 140 1), (gm_aload 0), (gm_iload 1), (gm_iload 2), (gm_vcall 9 142 3), (gm_istore 3), (gm_aload 0), (gm_vcall 9 141 1), (gm_iload 3), gm_iret] := rfl
theorem eX9_amissDays (d : Nat) (as : List gm_V) (M : gm_M) (h : gm_wd as ≤ 4) : gm_go (d + 1) 143 as M = gm_ex (gm_go d) qX9_amissDays 100000 0 (gm_pad 4 (gm_ent as)) [] M := if_pos ⟨by decide, h⟩
def qX9_on : Nat → List gm_A := fun b => pX9_on.getD b []
theorem qX9_on_0 : qX9_on 0 = [(gm_aload 0), (gm_iload 1), (gm_vcall 9 100 2), (gm_ifeq 1), (gm_aload 0), (gm_iload 3), (gm_push (.inl 0)), (gm_push (.inl 2)), (gm_vcall 9 99 4), (gm_ifne 2), (gm_goto 1)] := rfl
theorem qX9_on_1 : qX9_on 1 = [(gm_push (.inl (-1))), gm_iret] := rfl
theorem qX9_on_2 : qX9_on 2 = [(gm_aload 0), (gm_iload 2), (gm_push (.inl 0)), (gm_push (.inl 60)), (gm_vcall 9 99 4), (gm_ifne 3), (gm_push (.inl (-2))), gm_iret] := rfl
theorem qX9_on_3 : qX9_on 3 = [(gm_aload 0), (gm_vcall 9 140 1), (gm_aload 0), (gm_iload 1), (gm_iload 2), (gm_vcall 9 142 3), (gm_istore 4), (gm_iload 3), (gm_ifne 4), (gm_aload 0), (gm_getR 9 904), (gm_iload 1), gm_iald, (gm_goto 6)] := rfl
theorem qX9_on_4 : qX9_on 4 = [(gm_iload 3), (gm_push (.inl 1)), (gm_cne 5), (gm_aload 0), (gm_getR 9 905), (gm_iload 1), gm_iald, (gm_goto 6)] := rfl
theorem qX9_on_5 : qX9_on 5 = [(gm_iload 4), (gm_goto 6)] := rfl
theorem qX9_on_6 : qX9_on 6 = [(gm_istore 5), (gm_aload 0), (gm_vcall 9 141 1), (gm_iload 5), gm_iret] := rfl
theorem eX9_on (d : Nat) (as : List gm_V) (M : gm_M) (h : gm_wd as ≤ 6) : gm_go (d + 1) 144 as M = gm_ex (gm_go d) qX9_on 100000 0 (gm_pad 6 (gm_ent as)) [] M := if_pos ⟨by decide, h⟩
def qX9_first : Nat → List gm_A := fun b => pX9_first.getD b []
theorem qX9_first_0 : qX9_first 0 = [(gm_aload 0), (gm_iload 1), (gm_vcall 9 100 2), (gm_ifne 1), (gm_push (.inl (-1))), gm_iret] := rfl
theorem qX9_first_1 : qX9_first 1 = [(gm_aload 0), (gm_vcall 9 140 1), (gm_push (.inl (-5))), (gm_istore 2), (gm_push (.inl 1)), (gm_istore 3), (gm_goto 2)] := rfl
theorem qX9_first_2 : qX9_first 2 = [(gm_iload 3), (gm_push (.inl 57)), (gm_cge 5), (gm_iload 2), (gm_ifge 5), (gm_aload 0), (gm_iload 1), (gm_push (.inl 1)), (gm_vcall 9 142 3), (gm_ifle 3), (gm_iload 3), (gm_goto 4)] := rfl
theorem qX9_first_3 : qX9_first 3 = [(gm_push (.inl (-5))), (gm_goto 4)] := rfl
theorem qX9_first_4 : qX9_first 4 = [(gm_istore 2), (gm_iinc 3 1), (gm_goto 2)] := rfl
theorem qX9_first_5 : qX9_first 5 = [(gm_aload 0), (gm_vcall 9 141 1), (gm_iload 2), gm_iret] := rfl
theorem eX9_first (d : Nat) (as : List gm_V) (M : gm_M) (h : gm_wd as ≤ 4) : gm_go (d + 1) 145 as M = gm_ex (gm_go d) qX9_first 100000 0 (gm_pad 4 (gm_ent as)) [] M := if_pos ⟨by decide, h⟩
def qX9_never : Nat → List gm_A := fun b => pX9_never.getD b []
theorem qX9_never_0 : qX9_never 0 = [(gm_push (.inl 0)), (gm_istore 1), (gm_push (.inl 0)), (gm_istore 2), (gm_goto 1)] := rfl
theorem qX9_never_1 : qX9_never 1 = [(gm_iload 2), (gm_aload 0), (gm_getI 9 900), (gm_cge 4), (gm_iload 1), (gm_aload 0), (gm_iload 2), (gm_push (.inl 56)), (gm_vcall 9 143 3), (gm_ifne 2), (gm_push (.inl 1)), (gm_iload 2), (gm_op2 gm_shl), (gm_goto 3)] := rfl
theorem qX9_never_2 : qX9_never 2 = [(gm_push (.inl 0)), (gm_goto 3)] := rfl
theorem qX9_never_3 : qX9_never 3 = [(gm_op2 gm_or), (gm_istore 1), (gm_iinc 2 1), (gm_goto 1)] := rfl
theorem qX9_never_4 : qX9_never 4 = [(gm_iload 1), gm_iret] := rfl
theorem eX9_never (d : Nat) (as : List gm_V) (M : gm_M) (h : gm_wd as ≤ 3) : gm_go (d + 1) 146 as M = gm_ex (gm_go d) qX9_never 100000 0 (gm_pad 3 (gm_ent as)) [] M := if_pos ⟨by decide, h⟩
def qX9_cap : Nat → List gm_A := fun b => pX9_cap.getD b []
theorem qX9_cap_0 : qX9_cap 0 = [(gm_aload 0), (gm_iload 1), (gm_vcall 9 100 2), (gm_ifne 1), (gm_push (.inl (-1))), gm_iret] := rfl
theorem qX9_cap_1 : qX9_cap 1 = [(gm_aload 0), (gm_getR 9 906), (gm_iload 1), gm_iald, (gm_istore 2), (gm_aload 0), (gm_getR 9 905), (gm_iload 1), gm_iald, (gm_istore 3), (gm_push (.inl (-5))), (gm_istore 4), (gm_push (.inl 0)), (gm_istore 5), (gm_goto 2)] := rfl
theorem qX9_cap_2 : qX9_cap 2 = [(gm_iload 5), (gm_push (.inl 100)), (gm_cge 5), (gm_iload 4), (gm_ifge 5), (gm_aload 0), (gm_getR 9 906), (gm_iload 1), (gm_iload 5), gm_iast, (gm_aload 0), (gm_getR 9 905), (gm_iload 1), (gm_aload 0), (gm_iload 3), (gm_aload 0), (gm_iload 1), (gm_vcall 9 102 2), (gm_vcall 9 131 3), gm_iast, (gm_aload 0), (gm_iload 1), (gm_push (.inl 56)), (gm_vcall 9 143 3), (gm_ifne 3), (gm_iload 5), (gm_goto 4)] := rfl
theorem qX9_cap_3 : qX9_cap 3 = [(gm_push (.inl (-5))), (gm_goto 4)] := rfl
theorem qX9_cap_4 : qX9_cap 4 = [(gm_istore 4), (gm_iinc 5 1), (gm_goto 2)] := rfl
theorem qX9_cap_5 : qX9_cap 5 = [(gm_aload 0), (gm_getR 9 906), (gm_iload 1), (gm_iload 2), gm_iast, (gm_aload 0), (gm_getR 9 905), (gm_iload 1), (gm_iload 3), gm_iast, (gm_iload 4), gm_iret] := rfl
theorem eX9_cap (d : Nat) (as : List gm_V) (M : gm_M) (h : gm_wd as ≤ 6) : gm_go (d + 1) 147 as M = gm_ex (gm_go d) qX9_cap 100000 0 (gm_pad 6 (gm_ent as)) [] M := if_pos ⟨by decide, h⟩
def qX9_full : Nat → List gm_A := fun b => pX9_full.getD b []
theorem qX9_full_0 : qX9_full 0 = [(gm_aload 0), (gm_iload 1), (gm_vcall 9 100 2), (gm_ifne 1), (gm_push (.inl (-1))), gm_iret] := rfl
theorem qX9_full_1 : qX9_full 1 = [(gm_aload 0), (gm_getR 9 905), (gm_iload 1), gm_iald, (gm_istore 2), (gm_push (.inl (-5))), (gm_istore 3), (gm_push (.inl 0)), (gm_istore 4), (gm_goto 2)] := rfl
theorem qX9_full_2 : qX9_full 2 = [(gm_iload 4), (gm_aload 0), (gm_iload 1), (gm_vcall 9 102 2), (gm_cgt 5), (gm_iload 3), (gm_ifge 5), (gm_aload 0), (gm_getR 9 905), (gm_iload 1), (gm_iload 4), gm_iast, (gm_aload 0), (gm_iload 1), (gm_push (.inl 56)), (gm_vcall 9 143 3), (gm_ifne 3), (gm_iload 4), (gm_goto 4)] := rfl
theorem qX9_full_3 : qX9_full 3 = [(gm_push (.inl (-5))), (gm_goto 4)] := rfl
theorem qX9_full_4 : qX9_full 4 = [(gm_istore 3), (gm_iinc 4 1), (gm_goto 2)] := rfl
theorem qX9_full_5 : qX9_full 5 = [(gm_aload 0), (gm_getR 9 905), (gm_iload 1), (gm_iload 2), gm_iast, (gm_iload 3), gm_iret] := rfl
theorem eX9_full (d : Nat) (as : List gm_V) (M : gm_M) (h : gm_wd as ≤ 5) : gm_go (d + 1) 148 as M = gm_ex (gm_go d) qX9_full 100000 0 (gm_pad 5 (gm_ent as)) [] M := if_pos ⟨by decide, h⟩
def qX9_heat : Nat → List gm_A := fun b => pX9_heat.getD b []
theorem qX9_heat_0 : qX9_heat 0 = [(gm_aload 0), (gm_iload 1), (gm_vcall 9 100 2), (gm_ifeq 1), (gm_aload 0), (gm_iload 2), (gm_push (.inl 0)), (gm_push (.inl 1)), (gm_vcall 9 99 4), (gm_ifne 2), (gm_goto 1)] := rfl
theorem qX9_heat_1 : qX9_heat 1 = [(gm_push (.inl (-1))), gm_iret] := rfl
theorem qX9_heat_2 : qX9_heat 2 = [(gm_aload 0), (gm_getR 9 904), (gm_iload 1), gm_iald, (gm_istore 3), (gm_push (.inl (-1))), (gm_istore 4), (gm_push (.inl 0)), (gm_istore 5), (gm_push (.inl 0)), (gm_istore 6), (gm_goto 3)] := rfl
theorem qX9_heat_3 : qX9_heat 3 = [(gm_iload 6), (gm_push (.inl 191)), (gm_cge 6), (gm_aload 0), (gm_getR 9 904), (gm_iload 1), (gm_iload 6), gm_iast, (gm_aload 0), (gm_iload 1), (gm_push (.inl 56)), (gm_vcall 9 143 3), (gm_istore 7), (gm_iload 4), (gm_iflt 4), (gm_iload 7), (gm_iload 5), (gm_clt 4), (gm_goto 5)] := rfl
theorem qX9_heat_4 : qX9_heat 4 = [(gm_iload 6), (gm_istore 4), (gm_iload 7), (gm_istore 5), (gm_goto 5)] := rfl
theorem qX9_heat_5 : qX9_heat 5 = [(gm_iinc 6 10), (gm_goto 3)] := rfl
theorem qX9_heat_6 : qX9_heat 6 = [(gm_aload 0), (gm_getR 9 904), (gm_iload 1), (gm_iload 3), gm_iast, (gm_iload 2), (gm_ifne 7), (gm_iload 4), (gm_goto 8)] := rfl
theorem qX9_heat_7 : qX9_heat 7 = [(gm_iload 5), (gm_goto 8)] := rfl
theorem qX9_heat_8 : qX9_heat 8 = [gm_iret] := rfl
theorem eX9_heat (d : Nat) (as : List gm_V) (M : gm_M) (h : gm_wd as ≤ 8) : gm_go (d + 1) 149 as M = gm_ex (gm_go d) qX9_heat 100000 0 (gm_pad 8 (gm_ent as)) [] M := if_pos ⟨by decide, h⟩
def qX9_goBig : Nat → List gm_A := fun b => pX9_goBig.getD b []
theorem qX9_goBig_0 : qX9_goBig 0 = [(gm_push (.inl 0)), (gm_istore 3), (gm_goto 1)] := rfl
theorem qX9_goBig_1 : qX9_goBig 1 = [(gm_iload 3), (gm_aload 0), (gm_getI 9 900), (gm_cge 2), (gm_aload 0), (gm_getR 9 934), (gm_iload 3), (gm_aload 0), (gm_iload 3), (gm_vcall 9 130 2), gm_iast, (gm_iinc 3 1), (gm_goto 1)] := rfl
theorem qX9_goBig_2 : qX9_goBig 2 = [(gm_aload 0), (gm_aload 0), (gm_push (.inl 0)), (gm_aload 0), (gm_getI 9 927), (gm_iload 2), (gm_op2 gm_sub), (gm_vcall 9 132 3), (gm_putI 9 927), (gm_push (.inl 0)), (gm_istore 3), (gm_push (.inl 0)), (gm_istore 4), (gm_goto 3)] := rfl
theorem qX9_goBig_3 : qX9_goBig 3 = [(gm_iload 4), (gm_aload 0), (gm_getI 9 900), (gm_cge 7), (gm_aload 0), (gm_getR 9 904), (gm_iload 4), (gm_aload 0), (gm_push (.inl 0)), (gm_aload 0), (gm_push (.inl 199)), (gm_aload 0), (gm_getR 9 904), (gm_iload 4), gm_iald, (gm_aload 0), (gm_getR 9 934), (gm_iload 4), gm_iald, (gm_op2 gm_add), (gm_vcall 9 131 3), (gm_vcall 9 132 3), gm_iast, (gm_aload 0), (gm_aload 0), (gm_iload 4), (gm_aload 0), (gm_getI 9 927), (gm_iload 1), (gm_vcall 9 133 4), (gm_putI 9 927), (gm_aload 0), (gm_iload 4), (gm_vcall 9 134 2), (gm_ifne 4), (gm_iload 3), (gm_ifeq 5), (gm_goto 4)] := rfl
theorem qX9_goBig_4 : qX9_goBig 4 = [(gm_push (.inl 1)), (gm_goto 6)] := rfl
theorem qX9_goBig_5 : qX9_goBig 5 = [(gm_push (.inl 0)), (gm_goto 6)] := rfl
theorem qX9_goBig_6 : qX9_goBig 6 = [(gm_istore 3), (gm_iinc 4 1), (gm_goto 3)] := rfl
theorem qX9_goBig_7 : qX9_goBig 7 = [(gm_aload 0), gm_dup, (gm_getI 9 901), (gm_push (.inl 1)), (gm_op2 gm_add), (gm_putI 9 901), (gm_iload 3), gm_zret] := rfl
theorem eX9_goBig (d : Nat) (as : List gm_V) (M : gm_M) (h : gm_wd as ≤ 5) : gm_go (d + 1) 150 as M = gm_ex (gm_go d) qX9_goBig 100000 0 (gm_pad 5 (gm_ent as)) [] M := if_pos ⟨by decide, h⟩
def qX9_big : Nat → List gm_A := fun b => pX9_big.getD b []
theorem qX9_big_0 : qX9_big 0 = [(gm_aload 0), (gm_iload 1), (gm_push (.inl 0)), (gm_push (.inl 1)), (gm_vcall 9 99 4), (gm_ifne 1), (gm_push (.inl (-1))), gm_iret] := rfl
theorem qX9_big_1 : qX9_big 1 = [(gm_aload 0), (gm_vcall 9 140 1), (gm_push (.inl 0)), (gm_istore 2), (gm_push (.inl 0)), (gm_istore 3), (gm_aload 0), (gm_push (.inl 0)), (gm_putI 9 927), (gm_push (.inl 0)), (gm_istore 4), (gm_goto 2)] := rfl
theorem qX9_big_2 : qX9_big 2 = [(gm_iload 4), (gm_aload 0), (gm_getI 9 900), (gm_cge 3), (gm_iload 2), (gm_aload 0), (gm_iload 4), (gm_vcall 9 102 2), (gm_op2 gm_add), (gm_istore 2), (gm_iload 3), (gm_aload 0), (gm_getR 9 907), (gm_iload 4), gm_iald, (gm_op2 gm_add), (gm_istore 3), (gm_aload 0), gm_dup, (gm_getI 9 927), (gm_aload 0), (gm_getR 9 905), (gm_iload 4), gm_iald, (gm_op2 gm_add), (gm_putI 9 927), (gm_iinc 4 1), (gm_goto 2)] := rfl
theorem qX9_big_3 : qX9_big 3 = [(gm_push (.inl 0)), (gm_istore 4), (gm_push (.inl 0)), (gm_istore 5), (gm_goto 4)] := rfl
theorem qX9_big_4 : qX9_big 4 = [(gm_iload 5), (gm_push (.inl 28)), (gm_cge 7), (gm_iload 4), (gm_aload 0), (gm_iload 2), (gm_iload 3), (gm_vcall 9 150 3), (gm_ifeq 5), (gm_push (.inl 1)), (gm_goto 6)] := rfl
theorem qX9_big_5 : qX9_big 5 = [(gm_push (.inl 0)), (gm_goto 6)] := rfl
theorem qX9_big_6 : qX9_big 6 = [(gm_op2 gm_add), (gm_istore 4), (gm_iinc 5 1), (gm_goto 4)] := rfl
theorem qX9_big_7 : qX9_big 7 = [(gm_iload 1), (gm_ifne 8), (gm_iload 4), (gm_goto 9)] := rfl
theorem qX9_big_8 : qX9_big 8 = [(gm_aload 0), (gm_getI 9 927), (gm_goto 9)] := rfl
theorem qX9_big_9 : qX9_big 9 = [(gm_istore 5), (gm_aload 0), (gm_push (.inl (-1))), (gm_putI 9 927), (gm_aload 0), (gm_vcall 9 141 1), (gm_iload 5), gm_iret] := rfl
theorem eX9_big (d : Nat) (as : List gm_V) (M : gm_M) (h : gm_wd as ≤ 6) : gm_go (d + 1) 151 as M = gm_ex (gm_go d) qX9_big 100000 0 (gm_pad 6 (gm_ent as)) [] M := if_pos ⟨by decide, h⟩
def qX9_gives : Nat → List gm_A := fun b => pX9_gives.getD b []
theorem qX9_gives_0 : qX9_gives 0 = [(gm_aload 0), (gm_iload 1), (gm_vcall 9 100 2), (gm_ifeq 1), (gm_aload 0), (gm_iload 2), (gm_vcall 9 100 2), (gm_ifne 2), (gm_goto 1)] := rfl
theorem qX9_gives_1 : qX9_gives 1 = [(gm_push (.inl (-1001))), gm_iret] := rfl
theorem qX9_gives_2 : qX9_gives 2 = [(gm_iload 1), (gm_iload 2), (gm_ceq 3), (gm_aload 0), (gm_iload 3), (gm_push (.inl 0)), (gm_push (.inl 99)), (gm_vcall 9 99 4), (gm_ifne 4), (gm_goto 3)] := rfl
theorem qX9_gives_3 : qX9_gives 3 = [(gm_push (.inl (-1002))), gm_iret] := rfl
theorem qX9_gives_4 : qX9_gives 4 = [(gm_aload 0), (gm_iload 1), (gm_push (.inl 56)), (gm_vcall 9 143 3), (gm_aload 0), (gm_iload 2), (gm_push (.inl 56)), (gm_vcall 9 143 3), (gm_op2 gm_add), (gm_istore 4), (gm_aload 0), (gm_iload 3), (gm_aload 0), (gm_aload 0), (gm_getR 9 905), (gm_iload 1), gm_iald, (gm_aload 0), (gm_iload 2), (gm_vcall 9 102 2), (gm_aload 0), (gm_getR 9 905), (gm_iload 2), gm_iald, (gm_op2 gm_sub), (gm_vcall 9 131 3), (gm_vcall 9 131 3), (gm_istore 5), (gm_aload 0), (gm_getR 9 905), (gm_iload 1), gm_dup2, gm_iald, (gm_iload 5), (gm_op2 gm_sub), gm_iast, (gm_aload 0), (gm_getR 9 905), (gm_iload 2), gm_dup2, gm_iald, (gm_iload 5), (gm_op2 gm_add), gm_iast, (gm_aload 0), (gm_iload 1), (gm_push (.inl 56)), (gm_vcall 9 143 3), (gm_aload 0), (gm_iload 2), (gm_push (.inl 56)), (gm_vcall 9 143 3), (gm_op2 gm_add), (gm_istore 6), (gm_aload 0), (gm_getR 9 905), (gm_iload 1), gm_dup2, gm_iald, (gm_iload 5), (gm_op2 gm_add), gm_iast, (gm_aload 0), (gm_getR 9 905), (gm_iload 2), gm_dup2, gm_iald, (gm_iload 5), (gm_op2 gm_sub), gm_iast, (gm_iload 4), (gm_iload 6), (gm_op2 gm_sub), gm_iret] := rfl
theorem eX9_gives (d : Nat) (as : List gm_V) (M : gm_M) (h : gm_wd as ≤ 7) : gm_go (d + 1) 152 as M = gm_ex (gm_go d) qX9_gives 100000 0 (gm_pad 7 (gm_ent as)) [] M := if_pos ⟨by decide, h⟩
def qX9_turn : Nat → List gm_A := fun b => pX9_turn.getD b []
theorem qX9_turn_0 : qX9_turn 0 = [(gm_aload 0), (gm_iload 1), (gm_vcall 9 100 2), (gm_ifeq 1), (gm_aload 0), (gm_iload 2), (gm_push (.inl 0)), (gm_push (.inl 1)), (gm_vcall 9 99 4), (gm_ifne 2), (gm_goto 1)] := rfl
theorem qX9_turn_1 : qX9_turn 1 = [(gm_push (.inl (-1))), gm_iret] := rfl
theorem qX9_turn_2 : qX9_turn 2 = [(gm_push (.inl 0)), (gm_istore 3), (gm_push (.inl 0)), (gm_istore 4), (gm_push (.inl 1)), (gm_istore 5), (gm_goto 3)] := rfl
theorem qX9_turn_3 : qX9_turn 3 = [(gm_iload 5), (gm_push (.inl 29)), (gm_cge 6), (gm_aload 0), (gm_aload 0), (gm_getI 9 901), (gm_iload 5), (gm_op2 gm_add), (gm_push (.inl 1)), (gm_op2 gm_sub), (gm_putI 9 929), (gm_aload 0), (gm_aload 0), (gm_getI 9 929), (gm_push (.inl 4)), (gm_op2 gm_add), (gm_putI 9 930), (gm_aload 0), (gm_iload 1), (gm_push (.inl 56)), (gm_vcall 9 143 3), (gm_istore 6), (gm_iload 3), (gm_ifle 4), (gm_iload 6), (gm_iload 4), (gm_clt 4), (gm_goto 5)] := rfl
theorem qX9_turn_4 : qX9_turn 4 = [(gm_iload 5), (gm_istore 3), (gm_iload 6), (gm_istore 4), (gm_goto 5)] := rfl
theorem qX9_turn_5 : qX9_turn 5 = [(gm_iinc 5 1), (gm_goto 3)] := rfl
theorem qX9_turn_6 : qX9_turn 6 = [(gm_aload 0), (gm_push (.inl (-1))), (gm_putI 9 929), (gm_aload 0), (gm_push (.inl (-1))), (gm_putI 9 930), (gm_iload 2), (gm_ifne 7), (gm_iload 3), (gm_goto 8)] := rfl
theorem qX9_turn_7 : qX9_turn 7 = [(gm_iload 4), (gm_goto 8)] := rfl
theorem qX9_turn_8 : qX9_turn 8 = [gm_iret] := rfl
theorem eX9_turn (d : Nat) (as : List gm_V) (M : gm_M) (h : gm_wd as ≤ 7) : gm_go (d + 1) 153 as M = gm_ex (gm_go d) qX9_turn 100000 0 (gm_pad 7 (gm_ent as)) [] M := if_pos ⟨by decide, h⟩
def qX9_alike : Nat → List gm_A := fun b => pX9_alike.getD b []
theorem qX9_alike_0 : qX9_alike 0 = [(gm_aload 0), (gm_iload 1), (gm_vcall 9 100 2), (gm_ifeq 1), (gm_aload 0), (gm_iload 2), (gm_vcall 9 100 2), (gm_ifne 2), (gm_goto 1)] := rfl
theorem qX9_alike_1 : qX9_alike 1 = [(gm_push (.inl (-1))), gm_iret] := rfl
theorem qX9_alike_2 : qX9_alike 2 = [(gm_iload 1), (gm_iload 2), (gm_cne 3), (gm_push (.inl (-2))), gm_iret] := rfl
theorem qX9_alike_3 : qX9_alike 3 = [(gm_aload 0), (gm_vcall 9 140 1), (gm_push (.inl 0)), (gm_istore 3), (gm_push (.inl 0)), (gm_istore 4), (gm_goto 4)] := rfl
theorem qX9_alike_4 : qX9_alike 4 = [(gm_iload 4), (gm_push (.inl 28)), (gm_cge 7), (gm_aload 0), (gm_iload 1), (gm_vcall 9 135 2), (gm_istore 5), (gm_aload 0), (gm_iload 2), (gm_vcall 9 135 2), (gm_istore 6), (gm_aload 0), gm_dup, (gm_getI 9 901), (gm_push (.inl 1)), (gm_op2 gm_add), (gm_putI 9 901), (gm_iload 3), (gm_iload 5), (gm_iload 6), (gm_cne 5), (gm_push (.inl 1)), (gm_goto 6)] := rfl
theorem qX9_alike_5 : qX9_alike 5 = [(gm_push (.inl 0)), (gm_goto 6)] := rfl
theorem qX9_alike_6 : qX9_alike 6 = [(gm_op2 gm_add), (gm_istore 3), (gm_iinc 4 1), (gm_goto 4)] := rfl
theorem qX9_alike_7 : qX9_alike 7 = [(gm_aload 0), (gm_vcall 9 141 1), (gm_iload 3), gm_iret] := rfl
theorem eX9_alike (d : Nat) (as : List gm_V) (M : gm_M) (h : gm_wd as ≤ 7) : gm_go (d + 1) 154 as M = gm_ex (gm_go d) qX9_alike 100000 0 (gm_pad 7 (gm_ent as)) [] M := if_pos ⟨by decide, h⟩
def qX9_see : Nat → List gm_A := fun b => pX9_see.getD b []
theorem qX9_see_0 : qX9_see 0 = [(gm_iload 1), (gm_push (.inl (-1))), (gm_cne 1), (gm_aload 0), (gm_push (.inl 0)), (gm_putI 9 935), (gm_push (.inl 0)), gm_iret] := rfl
theorem qX9_see_1 : qX9_see 1 = [(gm_aload 0), (gm_iload 1), (gm_vcall 9 100 2), (gm_ifne 2), (gm_push (.inl (-1))), gm_iret] := rfl
theorem qX9_see_2 : qX9_see 2 = [(gm_aload 0), (gm_iload 2), (gm_push (.inl 0)), (gm_push (.inl 30)), (gm_vcall 9 99 4), (gm_ifeq 3), (gm_aload 0), (gm_iload 3), (gm_push (.inl 0)), (gm_push (.inl 199)), (gm_vcall 9 99 4), (gm_ifne 4), (gm_goto 3)] := rfl
theorem qX9_see_3 : qX9_see 3 = [(gm_push (.inl (-2))), gm_iret] := rfl
theorem qX9_see_4 : qX9_see 4 = [(gm_aload 0), (gm_getI 9 935), (gm_push (.inl 8)), (gm_cne 5), (gm_push (.inl (-4))), gm_iret] := rfl
theorem qX9_see_5 : qX9_see 5 = [(gm_aload 0), (gm_getR 9 936), (gm_aload 0), (gm_getI 9 935), (gm_iload 1), gm_iast, (gm_aload 0), (gm_getR 9 937), (gm_aload 0), (gm_getI 9 935), (gm_iload 2), gm_iast, (gm_aload 0), (gm_getR 9 938), (gm_aload 0), (gm_getI 9 935), (gm_iload 3), gm_iast, (gm_aload 0), gm_dup, (gm_getI 9 935), (gm_push (.inl 1)), (gm_op2 gm_add), (gm_putI 9 935), (gm_aload 0), (gm_getI 9 935), gm_iret] := rfl
theorem eX9_see (d : Nat) (as : List gm_V) (M : gm_M) (h : gm_wd as ≤ 4) : gm_go (d + 1) 155 as M = gm_ex (gm_go d) qX9_see 100000 0 (gm_pad 4 (gm_ent as)) [] M := if_pos ⟨by decide, h⟩
def qX9_isSeen : Nat → List gm_A := fun b => pX9_isSeen.getD b []
theorem qX9_isSeen_0 : qX9_isSeen 0 = [(gm_aload 0), (gm_vcall 9 140 1), (gm_aload 0), (gm_iload 1), (gm_aload 0), (gm_getR 9 937), (gm_iload 2), gm_iald, (gm_vcall 9 142 3), (gm_istore 3), (gm_aload 0), (gm_getR 9 905), (gm_iload 1), gm_iald, (gm_aload 0), (gm_getR 9 938), (gm_iload 2), gm_iald, (gm_cne 1), (gm_push (.inl 1)), (gm_goto 2)] := rfl
theorem qX9_isSeen_1 : qX9_isSeen 1 = [(gm_push (.inl 0)), (gm_goto 2)] := rfl
theorem qX9_isSeen_2 : qX9_isSeen 2 = [(gm_istore 4), (gm_aload 0), (gm_vcall 9 141 1), (gm_iload 4), gm_zret] := rfl
theorem eX9_isSeen (d : Nat) (as : List gm_V) (M : gm_M) (h : gm_wd as ≤ 5) : gm_go (d + 1) 156 as M = gm_ex (gm_go d) qX9_isSeen 100000 0 (gm_pad 5 (gm_ent as)) [] M := if_pos ⟨by decide, h⟩
def qX9_leaks : Nat → List gm_A := fun b => pX9_leaks.getD b []
theorem qX9_leaks_0 : qX9_leaks 0 = [(gm_aload 0), (gm_iload 1), (gm_vcall 9 100 2), (gm_ifne 1), (gm_push (.inl (-1))), gm_iret] := rfl
theorem qX9_leaks_1 : qX9_leaks 1 = [(gm_aload 0), (gm_getR 9 907), (gm_iload 1), gm_iald, (gm_istore 2), (gm_push (.inl 0)), (gm_istore 3), (gm_push (.inl 0)), (gm_istore 4), (gm_goto 2)] := rfl
theorem qX9_leaks_2 : qX9_leaks 2 = [(gm_iload 4), (gm_push (.inl 10)), (gm_cge 10), (gm_aload 0), (gm_getR 9 907), (gm_iload 1), (gm_iload 4), gm_iast, (gm_push (.inl 1)), (gm_istore 5), (gm_push (.inl 0)), (gm_istore 6), (gm_goto 3)] := rfl
theorem qX9_leaks_3 : qX9_leaks 3 = [(gm_iload 6), (gm_aload 0), (gm_getI 9 935), (gm_cge 7), (gm_iload 5), (gm_ifeq 7), (gm_aload 0), (gm_getR 9 936), (gm_iload 6), gm_iald, (gm_iload 1), (gm_cne 4), (gm_aload 0), (gm_iload 1), (gm_iload 6), (gm_vcall 9 156 3), (gm_ifeq 5), (gm_goto 4)] := rfl
theorem qX9_leaks_4 : qX9_leaks 4 = [(gm_push (.inl 1)), (gm_goto 6)] := rfl
theorem qX9_leaks_5 : qX9_leaks 5 = [(gm_push (.inl 0)), (gm_goto 6)] := rfl
theorem qX9_leaks_6 : qX9_leaks 6 = [(gm_istore 5), (gm_iinc 6 1), (gm_goto 3)] := rfl
theorem qX9_leaks_7 : qX9_leaks 7 = [(gm_iload 3), (gm_iload 5), (gm_ifeq 8), (gm_push (.inl 1)), (gm_iload 4), (gm_op2 gm_shl), (gm_goto 9)] := rfl
theorem qX9_leaks_8 : qX9_leaks 8 = [(gm_push (.inl 0)), (gm_goto 9)] := rfl
theorem qX9_leaks_9 : qX9_leaks 9 = [(gm_op2 gm_or), (gm_istore 3), (gm_iinc 4 1), (gm_goto 2)] := rfl
theorem qX9_leaks_10 : qX9_leaks 10 = [(gm_aload 0), (gm_getR 9 907), (gm_iload 1), (gm_iload 2), gm_iast, (gm_iload 3), gm_iret] := rfl
theorem eX9_leaks (d : Nat) (as : List gm_V) (M : gm_M) (h : gm_wd as ≤ 7) : gm_go (d + 1) 157 as M = gm_ex (gm_go d) qX9_leaks 100000 0 (gm_pad 7 (gm_ent as)) [] M := if_pos ⟨by decide, h⟩
def qX9_dry : Nat → List gm_A := fun b => pX9_dry.getD b []
theorem qX9_dry_0 : qX9_dry 0 = [(gm_aload 0), (gm_iload 1), (gm_vcall 9 100 2), (gm_ifne 1), (gm_push (.inl (-1))), gm_iret] := rfl
theorem qX9_dry_1 : qX9_dry 1 = [(gm_aload 0), (gm_vcall 9 140 1), (gm_push (.inl (-5))), (gm_istore 2), (gm_push (.inl 1)), (gm_istore 3), (gm_goto 2)] := rfl
theorem qX9_dry_2 : qX9_dry 2 = [(gm_iload 3), (gm_push (.inl 61)), (gm_cge 5), (gm_iload 2), (gm_ifge 5), (gm_aload 0), (gm_iload 1), (gm_push (.inl 1)), (gm_vcall 9 142 3), (gm_istore 4), (gm_aload 0), (gm_getR 9 905), (gm_iload 1), gm_iald, (gm_ifne 3), (gm_iload 3), (gm_goto 4)] := rfl
theorem qX9_dry_3 : qX9_dry 3 = [(gm_push (.inl (-5))), (gm_goto 4)] := rfl
theorem qX9_dry_4 : qX9_dry 4 = [(gm_istore 2), (gm_iinc 3 1), (gm_goto 2)] := rfl
theorem qX9_dry_5 : qX9_dry 5 = [(gm_aload 0), (gm_vcall 9 141 1), (gm_iload 2), gm_iret] := rfl
theorem eX9_dry (d : Nat) (as : List gm_V) (M : gm_M) (h : gm_wd as ≤ 5) : gm_go (d + 1) 158 as M = gm_ex (gm_go d) qX9_dry 100000 0 (gm_pad 5 (gm_ent as)) [] M := if_pos ⟨by decide, h⟩
def qX9_divisor : Nat → List gm_A := fun b => pX9_divisor.getD b []
theorem qX9_divisor_0 : qX9_divisor 0 = [(gm_iload 1), (gm_istore 3), (gm_iload 2), (gm_istore 4), (gm_goto 1)] := rfl
theorem qX9_divisor_1 : qX9_divisor 1 = [(gm_iload 4), (gm_ifeq 2), (gm_iload 3), (gm_iload 4), (gm_quo gm_rem), (gm_istore 5), (gm_iload 4), (gm_istore 3), (gm_iload 5), (gm_istore 4), (gm_goto 1)] := rfl
theorem qX9_divisor_2 : qX9_divisor 2 = [(gm_iload 3), gm_iret] := rfl
theorem eX9_divisor (d : Nat) (as : List gm_V) (M : gm_M) (h : gm_wd as ≤ 6) : gm_go (d + 1) 159 as M = gm_ex (gm_go d) qX9_divisor 100000 0 (gm_pad 6 (gm_ent as)) [] M := if_pos ⟨by decide, h⟩
def qX9_lowest : Nat → List gm_A := fun b => pX9_lowest.getD b []
theorem qX9_lowest_0 : qX9_lowest 0 = [(gm_aload 0), (gm_iload 1), (gm_iload 2), (gm_vcall 9 159 3), (gm_istore 4), (gm_iload 3), (gm_ifne 1), (gm_iload 1), (gm_iload 4), (gm_quo gm_div), gm_i2l, (gm_goto 2)] := rfl
theorem qX9_lowest_1 : qX9_lowest 1 = [(gm_iload 2), (gm_iload 4), (gm_quo gm_div), gm_i2l, (gm_goto 2)] := rfl
theorem qX9_lowest_2 : qX9_lowest 2 = [gm_lret] := rfl
theorem eX9_lowest (d : Nat) (as : List gm_V) (M : gm_M) (h : gm_wd as ≤ 5) : gm_go (d + 1) 160 as M = gm_ex (gm_go d) qX9_lowest 100000 0 (gm_pad 5 (gm_ent as)) [] M := if_pos ⟨by decide, h⟩
def qX9_odds : Nat → List gm_A := fun b => pX9_odds.getD b []
theorem qX9_odds_0 : qX9_odds 0 = [(gm_aload 0), (gm_iload 1), (gm_vcall 9 100 2), (gm_ifeq 1), (gm_aload 0), (gm_iload 2), (gm_push (.inl 0)), (gm_push (.inl 1)), (gm_vcall 9 99 4), (gm_ifne 2), (gm_goto 1)] := rfl
theorem qX9_odds_1 : qX9_odds 1 = [(gm_push (.inr (.inl (-9223372036854775808)))), gm_lret] := rfl
theorem qX9_odds_2 : qX9_odds 2 = [(gm_push (.inl 0)), (gm_istore 3), (gm_push (.inl 0)), (gm_istore 4), (gm_goto 3)] := rfl
theorem qX9_odds_3 : qX9_odds 3 = [(gm_iload 4), (gm_push (.inl 10)), (gm_cge 4), (gm_aload 0), (gm_iload 4), (gm_putI 9 928), (gm_iload 3), (gm_aload 0), (gm_iload 1), (gm_push (.inl 1)), (gm_vcall 9 143 3), (gm_op2 gm_add), (gm_istore 3), (gm_iinc 4 1), (gm_goto 3)] := rfl
theorem qX9_odds_4 : qX9_odds 4 = [(gm_aload 0), (gm_push (.inl 0)), (gm_putI 9 928), (gm_aload 0), (gm_iload 3), (gm_push (.inl 10)), (gm_iload 2), (gm_vcall 9 160 4), gm_lret] := rfl
theorem eX9_odds (d : Nat) (as : List gm_V) (M : gm_M) (h : gm_wd as ≤ 5) : gm_go (d + 1) 161 as M = gm_ex (gm_go d) qX9_odds 100000 0 (gm_pad 5 (gm_ent as)) [] M := if_pos ⟨by decide, h⟩
def qX9_mean : Nat → List gm_A := fun b => pX9_mean.getD b []
theorem qX9_mean_0 : qX9_mean 0 = [(gm_aload 0), (gm_iload 1), (gm_push (.inl 1)), (gm_push (.inl 60)), (gm_vcall 9 99 4), (gm_ifeq 1), (gm_aload 0), (gm_iload 2), (gm_push (.inl 0)), (gm_push (.inl 1)), (gm_vcall 9 99 4), (gm_ifeq 1), (gm_aload 0), (gm_getI 9 900), (gm_ifne 2), (gm_goto 1)] := rfl
theorem qX9_mean_1 : qX9_mean 1 = [(gm_push (.inr (.inl (-9223372036854775808)))), gm_lret] := rfl
theorem qX9_mean_2 : qX9_mean 2 = [(gm_aload 0), (gm_vcall 9 140 1), (gm_push (.inl 0)), (gm_istore 3), (gm_push (.inl 0)), (gm_istore 4), (gm_goto 3)] := rfl
theorem qX9_mean_3 : qX9_mean 3 = [(gm_iload 4), (gm_iload 1), (gm_cge 6), (gm_aload 0), (gm_vcall 9 138 1), (gm_istore 5), (gm_push (.inl 0)), (gm_istore 6), (gm_goto 4)] := rfl
theorem qX9_mean_4 : qX9_mean 4 = [(gm_iload 6), (gm_aload 0), (gm_getI 9 900), (gm_cge 5), (gm_iload 3), (gm_aload 0), (gm_getR 9 904), (gm_iload 6), gm_iald, (gm_op2 gm_add), (gm_istore 3), (gm_iinc 6 1), (gm_goto 4)] := rfl
theorem qX9_mean_5 : qX9_mean 5 = [(gm_iinc 4 1), (gm_goto 3)] := rfl
theorem qX9_mean_6 : qX9_mean 6 = [(gm_aload 0), (gm_vcall 9 141 1), (gm_aload 0), (gm_iload 3), (gm_iload 1), (gm_aload 0), (gm_getI 9 900), (gm_op2 gm_mul), (gm_iload 2), (gm_vcall 9 160 4), gm_lret] := rfl
theorem eX9_mean (d : Nat) (as : List gm_V) (M : gm_M) (h : gm_wd as ≤ 7) : gm_go (d + 1) 162 as M = gm_ex (gm_go d) qX9_mean 100000 0 (gm_pad 7 (gm_ent as)) [] M := if_pos ⟨by decide, h⟩
def qX9_book : Nat → List gm_A := fun b => pX9_book.getD b []
theorem qX9_book_0 : qX9_book 0 = [(gm_iload 1), (gm_push (.inl (-1))), (gm_cne 1), (gm_aload 0), (gm_push (.inl 0)), (gm_putI 9 939), (gm_push (.inl 0)), gm_iret] := rfl
theorem qX9_book_1 : qX9_book 1 = [(gm_aload 0), (gm_iload 1), (gm_vcall 9 100 2), (gm_ifne 2), (gm_push (.inl (-1))), gm_iret] := rfl
theorem qX9_book_2 : qX9_book 2 = [(gm_aload 0), (gm_getI 9 939), (gm_push (.inl 12)), (gm_cne 3), (gm_push (.inl (-4))), gm_iret] := rfl
theorem qX9_book_3 : qX9_book 3 = [(gm_aload 0), (gm_getR 9 940), (gm_aload 0), (gm_getI 9 939), (gm_iload 1), gm_iast, (gm_aload 0), gm_dup, (gm_getI 9 939), (gm_push (.inl 1)), (gm_op2 gm_add), (gm_putI 9 939), (gm_aload 0), (gm_getI 9 939), gm_iret] := rfl
theorem eX9_book (d : Nat) (as : List gm_V) (M : gm_M) (h : gm_wd as ≤ 2) : gm_go (d + 1) 163 as M = gm_ex (gm_go d) qX9_book 100000 0 (gm_pad 2 (gm_ent as)) [] M := if_pos ⟨by decide, h⟩
def qX9_looked : Nat → List gm_A := fun b => pX9_looked.getD b []
theorem qX9_looked_0 : qX9_looked 0 = [(gm_aload 0), (gm_vcall 9 140 1), (gm_push (.inl (-5))), (gm_istore 1), (gm_push (.inl 0)), (gm_istore 2), (gm_goto 1)] := rfl
theorem qX9_looked_1 : qX9_looked 1 = [(gm_iload 2), (gm_aload 0), (gm_getI 9 939), (gm_cge 4), (gm_iload 1), (gm_ifge 4), (gm_aload 0), (gm_vcall 9 138 1), (gm_aload 0), (gm_getR 9 940), (gm_iload 2), gm_iald, (gm_op2 gm_shr), (gm_push (.inl 1)), (gm_op2 gm_and), (gm_push (.inl 1)), (gm_cne 2), (gm_push (.inl (-5))), (gm_goto 3)] := rfl
theorem qX9_looked_2 : qX9_looked 2 = [(gm_iload 2), (gm_goto 3)] := rfl
theorem qX9_looked_3 : qX9_looked 3 = [(gm_istore 1), (gm_iinc 2 1), (gm_goto 1)] := rfl
theorem qX9_looked_4 : qX9_looked 4 = [(gm_aload 0), (gm_vcall 9 141 1), (gm_iload 1), gm_iret] := rfl
theorem eX9_looked (d : Nat) (as : List gm_V) (M : gm_M) (h : gm_wd as ≤ 3) : gm_go (d + 1) 164 as M = gm_ex (gm_go d) qX9_looked 100000 0 (gm_pad 3 (gm_ent as)) [] M := if_pos ⟨by decide, h⟩
def qX9_judge : Nat → List gm_A := fun b => pX9_judge.getD b []
theorem qX9_judge_0 : qX9_judge 0 = [(gm_aload 0), (gm_iload 1), (gm_vcall 9 180 2), (gm_ifne 1), (gm_push (.inl (-1))), gm_iret] := rfl
theorem qX9_judge_1 : qX9_judge 1 = [(gm_aload 0), (gm_getR 9 960), (gm_iload 1), gm_iald, (gm_iflt 2), (gm_aload 0), (gm_getR 9 960), (gm_iload 1), gm_iald, (gm_push (.inl 1)), (gm_ceq 2), (gm_push (.inl (-12))), gm_iret] := rfl
theorem qX9_judge_2 : qX9_judge 2 = [(gm_push (.inl 0)), (gm_istore 3), (gm_goto 3)] := rfl
theorem qX9_judge_3 : qX9_judge 3 = [(gm_iload 3), (gm_aload 0), (gm_getI 9 900), (gm_cge 7), (gm_aload 0), (gm_getR 9 960), (gm_iload 1), gm_iald, (gm_iflt 4), (gm_iload 2), (gm_iflt 4), (gm_iload 2), (gm_aload 0), (gm_getR 9 961), (gm_iload 1), gm_iald, (gm_iload 3), (gm_op2 gm_sub), (gm_push (.inl 1)), (gm_op2 gm_sub), (gm_cle 5), (gm_goto 4)] := rfl
theorem qX9_judge_4 : qX9_judge 4 = [(gm_push (.inl 100)), (gm_iload 3), (gm_op2 gm_add), gm_iret] := rfl
theorem qX9_judge_5 : qX9_judge 5 = [(gm_aload 0), (gm_getR 9 962), (gm_push (.inl 60)), (gm_iload 1), (gm_op2 gm_mul), (gm_iload 2), (gm_op2 gm_add), (gm_iload 3), (gm_op2 gm_add), gm_lald, (gm_aload 0), (gm_getR 9 904), (gm_iload 3), gm_iald, gm_i2l, gm_lcmp, (gm_ifeq 6), (gm_iload 3), gm_iret] := rfl
theorem qX9_judge_6 : qX9_judge 6 = [(gm_iinc 3 1), (gm_goto 3)] := rfl
theorem qX9_judge_7 : qX9_judge 7 = [(gm_push (.inl (-5))), gm_iret] := rfl
theorem eX9_judge (d : Nat) (as : List gm_V) (M : gm_M) (h : gm_wd as ≤ 4) : gm_go (d + 1) 165 as M = gm_ex (gm_go d) qX9_judge 100000 0 (gm_pad 4 (gm_ent as)) [] M := if_pos ⟨by decide, h⟩
def qX9_image : Nat → List gm_A := fun b => pX9_image.getD b []
theorem qX9_image_0 : qX9_image 0 = [(gm_aload 0), (gm_push (.inl 1)), (gm_putZ 9 941), (gm_aload 0), (gm_aload 0), (gm_getI 9 910), (gm_putI 9 942), (gm_aload 0), (gm_aload 0), (gm_getI 9 900), (gm_putI 9 943), (gm_aload 0), (gm_aload 0), (gm_getI 9 901), (gm_putI 9 944), (gm_aload 0), (gm_aload 0), (gm_getI 9 935), (gm_putI 9 945), (gm_aload 0), (gm_aload 0), (gm_getI 9 939), (gm_putI 9 946), (gm_push (.inl 0)), (gm_istore 1), (gm_goto 1)] := rfl
theorem qX9_image_1 : qX9_image 1 = [(gm_iload 1), (gm_push (.inl 6)), (gm_cge 2), (gm_aload 0), (gm_getR 9 947), (gm_iload 1), (gm_aload 0), (gm_getR 9 902), (gm_iload 1), gm_iald, gm_iast, (gm_aload 0), (gm_getR 9 948), (gm_iload 1), (gm_aload 0), (gm_getR 9 903), (gm_iload 1), gm_iald, gm_iast, (gm_aload 0), (gm_getR 9 949), (gm_iload 1), (gm_aload 0), (gm_getR 9 904), (gm_iload 1), gm_iald, gm_iast, (gm_aload 0), (gm_getR 9 950), (gm_iload 1), (gm_aload 0), (gm_getR 9 905), (gm_iload 1), gm_iald, gm_iast, (gm_aload 0), (gm_getR 9 951), (gm_iload 1), (gm_aload 0), (gm_getR 9 906), (gm_iload 1), gm_iald, gm_iast, (gm_aload 0), (gm_getR 9 952), (gm_iload 1), (gm_aload 0), (gm_getR 9 907), (gm_iload 1), gm_iald, gm_iast, (gm_iinc 1 1), (gm_goto 1)] := rfl
theorem qX9_image_2 : qX9_image 2 = [(gm_push (.inl 0)), (gm_istore 1), (gm_goto 3)] := rfl
theorem qX9_image_3 : qX9_image 3 = [(gm_iload 1), (gm_push (.inl 24)), (gm_cge 4), (gm_aload 0), (gm_getR 9 953), (gm_iload 1), (gm_aload 0), (gm_getR 9 908), (gm_iload 1), gm_iald, gm_iast, (gm_iinc 1 1), (gm_goto 3)] := rfl
theorem qX9_image_4 : qX9_image 4 = [(gm_push (.inl 0)), (gm_istore 1), (gm_goto 5)] := rfl
theorem qX9_image_5 : qX9_image 5 = [(gm_iload 1), (gm_push (.inl 8)), (gm_cge 6), (gm_aload 0), (gm_getR 9 954), (gm_iload 1), (gm_aload 0), (gm_getR 9 936), (gm_iload 1), gm_iald, gm_iast, (gm_aload 0), (gm_getR 9 955), (gm_iload 1), (gm_aload 0), (gm_getR 9 937), (gm_iload 1), gm_iald, gm_iast, (gm_aload 0), (gm_getR 9 956), (gm_iload 1), (gm_aload 0), (gm_getR 9 938), (gm_iload 1), gm_iald, gm_iast, (gm_iinc 1 1), (gm_goto 5)] := rfl
theorem qX9_image_6 : qX9_image 6 = [(gm_push (.inl 0)), (gm_istore 1), (gm_goto 7)] := rfl
theorem qX9_image_7 : qX9_image 7 = [(gm_iload 1), (gm_push (.inl 12)), (gm_cge 8), (gm_aload 0), (gm_getR 9 957), (gm_iload 1), (gm_aload 0), (gm_getR 9 940), (gm_iload 1), gm_iald, gm_iast, (gm_iinc 1 1), (gm_goto 7)] := rfl
theorem qX9_image_8 : qX9_image 8 = [(gm_aload 0), (gm_getI 9 900), gm_iret] := rfl
theorem eX9_image (d : Nat) (as : List gm_V) (M : gm_M) (h : gm_wd as ≤ 2) : gm_go (d + 1) 166 as M = gm_ex (gm_go d) qX9_image 100000 0 (gm_pad 2 (gm_ent as)) [] M := if_pos ⟨by decide, h⟩
def qX9_undo : Nat → List gm_A := fun b => pX9_undo.getD b []
theorem qX9_undo_0 : qX9_undo 0 = [(gm_aload 0), (gm_getI 9 941), (gm_ifne 1), (gm_push (.inl (-3))), gm_iret] := rfl
theorem qX9_undo_1 : qX9_undo 1 = [(gm_aload 0), (gm_aload 0), (gm_getI 9 942), (gm_putI 9 910), (gm_aload 0), (gm_aload 0), (gm_getI 9 943), (gm_putI 9 900), (gm_aload 0), (gm_aload 0), (gm_getI 9 944), (gm_putI 9 901), (gm_aload 0), (gm_aload 0), (gm_getI 9 945), (gm_putI 9 935), (gm_aload 0), (gm_aload 0), (gm_getI 9 946), (gm_putI 9 939), (gm_push (.inl 0)), (gm_istore 1), (gm_goto 2)] := rfl
theorem qX9_undo_2 : qX9_undo 2 = [(gm_iload 1), (gm_push (.inl 6)), (gm_cge 3), (gm_aload 0), (gm_getR 9 902), (gm_iload 1), (gm_aload 0), (gm_getR 9 947), (gm_iload 1), gm_iald, gm_iast, (gm_aload 0), (gm_getR 9 903), (gm_iload 1), (gm_aload 0), (gm_getR 9 948), (gm_iload 1), gm_iald, gm_iast, (gm_aload 0), (gm_getR 9 904), (gm_iload 1), (gm_aload 0), (gm_getR 9 949), (gm_iload 1), gm_iald, gm_iast, (gm_aload 0), (gm_getR 9 905), (gm_iload 1), (gm_aload 0), (gm_getR 9 950), (gm_iload 1), gm_iald, gm_iast, (gm_aload 0), (gm_getR 9 906), (gm_iload 1), (gm_aload 0), (gm_getR 9 951), (gm_iload 1), gm_iald, gm_iast, (gm_aload 0), (gm_getR 9 907), (gm_iload 1), (gm_aload 0), (gm_getR 9 952), (gm_iload 1), gm_iald, gm_iast, (gm_iinc 1 1), (gm_goto 2)] := rfl
theorem qX9_undo_3 : qX9_undo 3 = [(gm_push (.inl 0)), (gm_istore 1), (gm_goto 4)] := rfl
theorem qX9_undo_4 : qX9_undo 4 = [(gm_iload 1), (gm_push (.inl 24)), (gm_cge 5), (gm_aload 0), (gm_getR 9 908), (gm_iload 1), (gm_aload 0), (gm_getR 9 953), (gm_iload 1), gm_iald, gm_iast, (gm_iinc 1 1), (gm_goto 4)] := rfl
theorem qX9_undo_5 : qX9_undo 5 = [(gm_push (.inl 0)), (gm_istore 1), (gm_goto 6)] := rfl
theorem qX9_undo_6 : qX9_undo 6 = [(gm_iload 1), (gm_push (.inl 8)), (gm_cge 7), (gm_aload 0), (gm_getR 9 936), (gm_iload 1), (gm_aload 0), (gm_getR 9 954), (gm_iload 1), gm_iald, gm_iast, (gm_aload 0), (gm_getR 9 937), (gm_iload 1), (gm_aload 0), (gm_getR 9 955), (gm_iload 1), gm_iald, gm_iast, (gm_aload 0), (gm_getR 9 938), (gm_iload 1), (gm_aload 0), (gm_getR 9 956), (gm_iload 1), gm_iald, gm_iast, (gm_iinc 1 1), (gm_goto 6)] := rfl
theorem qX9_undo_7 : qX9_undo 7 = [(gm_push (.inl 0)), (gm_istore 1), (gm_goto 8)] := rfl
theorem qX9_undo_8 : qX9_undo 8 = [(gm_iload 1), (gm_push (.inl 12)), (gm_cge 9), (gm_aload 0), (gm_getR 9 940), (gm_iload 1), (gm_aload 0), (gm_getR 9 957), (gm_iload 1), gm_iald, gm_iast, (gm_iinc 1 1), (gm_goto 8)] := rfl
theorem qX9_undo_9 : qX9_undo 9 = [(gm_aload 0), (gm_getI 9 900), gm_iret] := rfl
theorem eX9_undo (d : Nat) (as : List gm_V) (M : gm_M) (h : gm_wd as ≤ 2) : gm_go (d + 1) 167 as M = gm_ex (gm_go d) qX9_undo 100000 0 (gm_pad 2 (gm_ent as)) [] M := if_pos ⟨by decide, h⟩
def qX9_body : Nat → List gm_A := fun b => pX9_body.getD b []
theorem qX9_body_0 : qX9_body 0 = [(gm_aload 0), (gm_getI 9 958), (gm_push (.inl 20)), (gm_cge 1), (gm_aload 0), (gm_getR 9 959), (gm_aload 0), (gm_getI 9 958), (gm_iload 1), gm_iast, (gm_goto 1)] := rfl
theorem qX9_body_1 : qX9_body 1 = [(gm_aload 0), gm_dup, (gm_getI 9 958), (gm_push (.inl 1)), (gm_op2 gm_add), (gm_putI 9 958), gm_vret] := rfl
theorem eX9_body (d : Nat) (as : List gm_V) (M : gm_M) (h : gm_wd as ≤ 2) : gm_go (d + 1) 168 as M = gm_ex (gm_go d) qX9_body 100000 0 (gm_pad 2 (gm_ent as)) [] M := if_pos ⟨by decide, h⟩
def qX9_houseWarms : Nat → List gm_A := fun b => pX9_houseWarms.getD b []
theorem qX9_houseWarms_0 : qX9_houseWarms 0 = [(gm_aload 0), (gm_push (.inl 10)), (gm_vcall 9 168 2), (gm_iload 2), (gm_iload 1), (gm_op2 gm_add), gm_iret] := rfl
theorem eX9_houseWarms (d : Nat) (as : List gm_V) (M : gm_M) (h : gm_wd as ≤ 3) : gm_go (d + 1) 169 as M = gm_ex (gm_go d) qX9_houseWarms 100000 0 (gm_pad 3 (gm_ent as)) [] M := if_pos ⟨by decide, h⟩
def qX9_warmsAct : Nat → List gm_A := fun b => pX9_warmsAct.getD b []
theorem qX9_warmsAct_0 : qX9_warmsAct 0 = [(gm_aload 0), (gm_getR 9 902), (gm_iload 1), gm_iald, (gm_switch [(2, 1), (3, 4), (4, 2), (5, 1), (6, 3)] 4)] := rfl
theorem qX9_warmsAct_1 : qX9_warmsAct 1 = [(gm_aload 0), (gm_push (.inl 30)), (gm_vcall 9 168 2), (gm_aload 0), (gm_iload 1), (gm_iload 2), (gm_push (.inl 3)), (gm_op2 gm_mul), (gm_vcall 9 169 3), gm_iret] := rfl
theorem qX9_warmsAct_2 : qX9_warmsAct 2 = [(gm_aload 0), (gm_push (.inl 50)), (gm_vcall 9 168 2), (gm_aload 0), (gm_iload 1), (gm_iload 2), (gm_vcall 9 169 3), (gm_op1 gm_neg), gm_iret] := rfl
theorem qX9_warmsAct_3 : qX9_warmsAct 3 = [(gm_aload 0), (gm_push (.inl 71)), (gm_vcall 9 168 2), (gm_aload 0), (gm_iload 1), (gm_iload 2), (gm_vcall 9 169 3), (gm_aload 0), (gm_getR 9 903), (gm_iload 1), gm_iald, (gm_op2 gm_xor), gm_iret] := rfl
theorem qX9_warmsAct_4 : qX9_warmsAct 4 = [(gm_aload 0), (gm_iload 1), (gm_iload 2), (gm_vcall 9 169 3), gm_iret] := rfl
theorem eX9_warmsAct (d : Nat) (as : List gm_V) (M : gm_M) (h : gm_wd as ≤ 3) : gm_go (d + 1) 170 as M = gm_ex (gm_go d) qX9_warmsAct 100000 0 (gm_pad 3 (gm_ent as)) [] M := if_pos ⟨by decide, h⟩
def qX9_houseStores : Nat → List gm_A := fun b => pX9_houseStores.getD b []
theorem qX9_houseStores_0 : qX9_houseStores 0 = [(gm_aload 0), (gm_push (.inl 11)), (gm_vcall 9 168 2), (gm_aload 0), (gm_iload 1), (gm_iload 2), (gm_vcall 9 170 3), (gm_aload 0), (gm_getR 9 903), (gm_iload 1), gm_iald, (gm_op2 gm_sub), gm_iret] := rfl
theorem eX9_houseStores (d : Nat) (as : List gm_V) (M : gm_M) (h : gm_wd as ≤ 3) : gm_go (d + 1) 171 as M = gm_ex (gm_go d) qX9_houseStores 100000 0 (gm_pad 3 (gm_ent as)) [] M := if_pos ⟨by decide, h⟩
def qX9_glassStores : Nat → List gm_A := fun b => pX9_glassStores.getD b []
theorem qX9_glassStores_0 : qX9_glassStores 0 = [(gm_aload 0), (gm_push (.inl 20)), (gm_vcall 9 168 2), (gm_aload 0), (gm_iload 1), (gm_iload 2), (gm_vcall 9 171 3), (gm_push (.inl 6)), (gm_op2 gm_xor), gm_iret] := rfl
theorem eX9_glassStores (d : Nat) (as : List gm_V) (M : gm_M) (h : gm_wd as ≤ 3) : gm_go (d + 1) 172 as M = gm_ex (gm_go d) qX9_glassStores 100000 0 (gm_pad 3 (gm_ent as)) [] M := if_pos ⟨by decide, h⟩
def qX9_storesAct : Nat → List gm_A := fun b => pX9_storesAct.getD b []
theorem qX9_storesAct_0 : qX9_storesAct 0 = [(gm_aload 0), (gm_getR 9 902), (gm_iload 1), gm_iald, (gm_switch [(1, 1), (4, 2), (6, 3)] 4)] := rfl
theorem qX9_storesAct_1 : qX9_storesAct 1 = [(gm_aload 0), (gm_iload 1), (gm_iload 2), (gm_vcall 9 172 3), gm_iret] := rfl
theorem qX9_storesAct_2 : qX9_storesAct 2 = [(gm_aload 0), (gm_push (.inl 51)), (gm_vcall 9 168 2), (gm_aload 0), (gm_iload 1), (gm_iload 2), (gm_push (.inl 1)), (gm_op2 gm_add), (gm_vcall 9 172 3), gm_iret] := rfl
theorem qX9_storesAct_3 : qX9_storesAct 3 = [(gm_aload 0), (gm_push (.inl 70)), (gm_vcall 9 168 2), (gm_aload 0), (gm_iload 1), (gm_iload 2), (gm_vcall 9 171 3), (gm_istore 3), (gm_iload 3), (gm_aload 0), (gm_iload 1), (gm_push (.inl 2)), (gm_vcall 9 169 3), (gm_op2 gm_add), gm_iret] := rfl
theorem qX9_storesAct_4 : qX9_storesAct 4 = [(gm_aload 0), (gm_iload 1), (gm_iload 2), (gm_vcall 9 171 3), gm_iret] := rfl
theorem eX9_storesAct (d : Nat) (as : List gm_V) (M : gm_M) (h : gm_wd as ≤ 4) : gm_go (d + 1) 173 as M = gm_ex (gm_go d) qX9_storesAct 100000 0 (gm_pad 4 (gm_ent as)) [] M := if_pos ⟨by decide, h⟩
def qX9_houseTells : Nat → List gm_A := fun b => pX9_houseTells.getD b []
theorem qX9_houseTells_0 : qX9_houseTells 0 = [(gm_aload 0), (gm_push (.inl 12)), (gm_vcall 9 168 2), (gm_aload 0), (gm_iload 1), (gm_iload 2), (gm_vcall 9 173 3), (gm_push (.inl 2)), (gm_op2 gm_mul), gm_iret] := rfl
theorem eX9_houseTells (d : Nat) (as : List gm_V) (M : gm_M) (h : gm_wd as ≤ 3) : gm_go (d + 1) 174 as M = gm_ex (gm_go d) qX9_houseTells 100000 0 (gm_pad 3 (gm_ent as)) [] M := if_pos ⟨by decide, h⟩
def qX9_tellsAct : Nat → List gm_A := fun b => pX9_tellsAct.getD b []
theorem qX9_tellsAct_0 : qX9_tellsAct 0 = [(gm_aload 0), (gm_getR 9 902), (gm_iload 1), gm_iald, (gm_switch [(3, 1), (4, 3), (5, 2), (6, 1)] 3)] := rfl
theorem qX9_tellsAct_1 : qX9_tellsAct 1 = [(gm_aload 0), (gm_push (.inl 40)), (gm_vcall 9 168 2), (gm_aload 0), (gm_iload 1), (gm_iload 2), (gm_vcall 9 174 3), (gm_istore 3), (gm_iload 3), (gm_aload 0), (gm_iload 1), (gm_push (.inl 1)), (gm_vcall 9 173 3), (gm_op2 gm_add), gm_iret] := rfl
theorem qX9_tellsAct_2 : qX9_tellsAct 2 = [(gm_aload 0), (gm_push (.inl 60)), (gm_vcall 9 168 2), (gm_aload 0), (gm_iload 1), (gm_iload 2), (gm_iload 1), (gm_op2 gm_sub), (gm_vcall 9 174 3), gm_iret] := rfl
theorem qX9_tellsAct_3 : qX9_tellsAct 3 = [(gm_aload 0), (gm_iload 1), (gm_iload 2), (gm_vcall 9 174 3), gm_iret] := rfl
theorem eX9_tellsAct (d : Nat) (as : List gm_V) (M : gm_M) (h : gm_wd as ≤ 4) : gm_go (d + 1) 175 as M = gm_ex (gm_go d) qX9_tellsAct 100000 0 (gm_pad 4 (gm_ent as)) [] M := if_pos ⟨by decide, h⟩
def qX9_act : Nat → List gm_A := fun b => pX9_act.getD b []
theorem qX9_act_0 : qX9_act 0 = [(gm_aload 0), (gm_push (.inl 0)), (gm_putI 9 958), (gm_aload 0), (gm_iload 1), (gm_vcall 9 100 2), (gm_ifeq 1), (gm_aload 0), (gm_iload 2), (gm_push (.inl 0)), (gm_push (.inl 2)), (gm_vcall 9 99 4), (gm_ifne 2), (gm_goto 1)] := rfl
theorem qX9_act_1 : qX9_act 1 = [(gm_push (.inl 0)), gm_iret] := rfl
theorem qX9_act_2 : qX9_act 2 = [(gm_iload 2), (gm_ifne 3), (gm_aload 0), (gm_iload 1), (gm_iload 3), (gm_vcall 9 170 3), (gm_goto 5)] := rfl
theorem qX9_act_3 : qX9_act 3 = [(gm_iload 2), (gm_push (.inl 1)), (gm_cne 4), (gm_aload 0), (gm_iload 1), (gm_iload 3), (gm_vcall 9 173 3), (gm_goto 5)] := rfl
theorem qX9_act_4 : qX9_act 4 = [(gm_aload 0), (gm_iload 1), (gm_iload 3), (gm_vcall 9 175 3), (gm_goto 5)] := rfl
theorem qX9_act_5 : qX9_act 5 = [gm_iret] := rfl
theorem eX9_act (d : Nat) (as : List gm_V) (M : gm_M) (h : gm_wd as ≤ 4) : gm_go (d + 1) 176 as M = gm_ex (gm_go d) qX9_act 100000 0 (gm_pad 4 (gm_ent as)) [] M := if_pos ⟨by decide, h⟩
def qX9_trace : Nat → List gm_A := fun b => pX9_trace.getD b []
theorem qX9_trace_0 : qX9_trace 0 = [(gm_aload 0), (gm_iload 1), (gm_push (.inl 0)), (gm_push (.inl 19)), (gm_vcall 9 99 4), (gm_ifeq 1), (gm_iload 1), (gm_aload 0), (gm_getI 9 958), (gm_cge 1), (gm_aload 0), (gm_getR 9 959), (gm_iload 1), gm_iald, (gm_goto 2)] := rfl
theorem qX9_trace_1 : qX9_trace 1 = [(gm_push (.inl (-1))), (gm_goto 2)] := rfl
theorem qX9_trace_2 : qX9_trace 2 = [gm_iret] := rfl
theorem eX9_trace (d : Nat) (as : List gm_V) (M : gm_M) (h : gm_wd as ≤ 2) : gm_go (d + 1) 177 as M = gm_ex (gm_go d) qX9_trace 100000 0 (gm_pad 2 (gm_ent as)) [] M := if_pos ⟨by decide, h⟩
def qX9_taken : Nat → List gm_A := fun b => pX9_taken.getD b []
theorem qX9_taken_0 : qX9_taken 0 = [(gm_aload 0), (gm_iload 2), (gm_push (.inl 0)), (gm_push (.inl 6)), (gm_vcall 9 99 4), (gm_ifne 1), (gm_push (.inl (-2))), gm_iret] := rfl
theorem qX9_taken_1 : qX9_taken 1 = [(gm_aload 0), (gm_iload 1), (gm_vcall 9 100 2), (gm_ifne 2), (gm_push (.inl (-11))), gm_iret] := rfl
theorem qX9_taken_2 : qX9_taken 2 = [(gm_aload 0), (gm_getR 9 902), (gm_iload 1), gm_iald, (gm_istore 3), (gm_iload 2), (gm_ifeq 5), (gm_iload 3), (gm_iload 2), (gm_ceq 5), (gm_iload 2), (gm_push (.inl 1)), (gm_cne 3), (gm_iload 3), (gm_push (.inl 4)), (gm_ceq 5), (gm_goto 3)] := rfl
theorem qX9_taken_3 : qX9_taken 3 = [(gm_iload 2), (gm_push (.inl 2)), (gm_cne 4), (gm_iload 3), (gm_push (.inl 5)), (gm_ceq 5), (gm_goto 4)] := rfl
theorem qX9_taken_4 : qX9_taken 4 = [(gm_iload 2), (gm_push (.inl 3)), (gm_cne 6), (gm_iload 3), (gm_push (.inl 6)), (gm_cne 6), (gm_goto 5)] := rfl
theorem qX9_taken_5 : qX9_taken 5 = [(gm_iload 3), (gm_goto 7)] := rfl
theorem qX9_taken_6 : qX9_taken 6 = [(gm_push (.inl (-12))), (gm_goto 7)] := rfl
theorem qX9_taken_7 : qX9_taken 7 = [gm_iret] := rfl
theorem eX9_taken (d : Nat) (as : List gm_V) (M : gm_M) (h : gm_wd as ≤ 4) : gm_go (d + 1) 178 as M = gm_ex (gm_go d) qX9_taken 100000 0 (gm_pad 4 (gm_ent as)) [] M := if_pos ⟨by decide, h⟩
def qX9_count : Nat → List gm_A := fun b => pX9_count.getD b []
theorem qX9_count_0 : qX9_count 0 = [(gm_iload 1), (gm_switch [(0, 1), (1, 2), (2, 3), (3, 4), (4, 5), (5, 6)] 7)] := rfl
theorem qX9_count_1 : qX9_count 1 = [(gm_aload 0), (gm_getI 9 900), gm_iret] := rfl
theorem qX9_count_2 : qX9_count 2 = [(gm_aload 0), (gm_getI 9 909), gm_iret] := rfl
theorem qX9_count_3 : qX9_count 3 = [(gm_aload 0), (gm_getI 9 935), gm_iret] := rfl
theorem qX9_count_4 : qX9_count 4 = [(gm_aload 0), (gm_getI 9 939), gm_iret] := rfl
theorem qX9_count_5 : qX9_count 5 = [(gm_aload 0), (gm_getI 9 911), gm_iret] := rfl
theorem qX9_count_6 : qX9_count 6 = [(gm_aload 0), (gm_getI 9 958), gm_iret] := rfl
theorem qX9_count_7 : qX9_count 7 = [(gm_push (.inl (-2))), gm_iret] := rfl
theorem eX9_count (d : Nat) (as : List gm_V) (M : gm_M) (h : gm_wd as ≤ 2) : gm_go (d + 1) 179 as M = gm_ex (gm_go d) qX9_count 100000 0 (gm_pad 2 (gm_ent as)) [] M := if_pos ⟨by decide, h⟩
def qX9_isTape : Nat → List gm_A := fun b => pX9_isTape.getD b []
theorem qX9_isTape_0 : qX9_isTape 0 = [(gm_aload 0), (gm_iload 1), (gm_push (.inl 0)), (gm_push (.inl 5)), (gm_vcall 9 99 4), gm_zret] := rfl
theorem eX9_isTape (d : Nat) (as : List gm_V) (M : gm_M) (h : gm_wd as ≤ 2) : gm_go (d + 1) 180 as M = gm_ex (gm_go d) qX9_isTape 100000 0 (gm_pad 2 (gm_ent as)) [] M := if_pos ⟨by decide, h⟩
def qX9_tape : Nat → List gm_A := fun b => pX9_tape.getD b []
theorem qX9_tape_0 : qX9_tape 0 = [(gm_aload 0), (gm_iload 1), (gm_vcall 9 180 2), (gm_ifne 1), (gm_push (.inl (-1))), gm_iret] := rfl
theorem qX9_tape_1 : qX9_tape 1 = [(gm_aload 0), (gm_iload 2), (gm_push (.inl (-1))), (gm_push (.inl 4)), (gm_vcall 9 99 4), (gm_ifeq 2), (gm_iload 2), (gm_iflt 3), (gm_iload 3), (gm_push (.inl 60)), (gm_cle 3), (gm_goto 2)] := rfl
theorem qX9_tape_2 : qX9_tape 2 = [(gm_push (.inl (-2))), gm_iret] := rfl
theorem qX9_tape_3 : qX9_tape 3 = [(gm_iload 2), (gm_iflt 4), (gm_iload 3), (gm_ifge 4), (gm_push (.inl (-14))), gm_iret] := rfl
theorem qX9_tape_4 : qX9_tape 4 = [(gm_aload 0), (gm_getR 9 960), (gm_iload 1), (gm_iload 2), gm_iast, (gm_aload 0), (gm_getR 9 961), (gm_iload 1), (gm_iload 2), (gm_ifge 5), (gm_push (.inl 0)), (gm_goto 6)] := rfl
theorem qX9_tape_5 : qX9_tape 5 = [(gm_iload 3), (gm_goto 6)] := rfl
theorem qX9_tape_6 : qX9_tape 6 = [gm_iast, (gm_push (.inl 0)), (gm_istore 4), (gm_goto 7)] := rfl
theorem qX9_tape_7 : qX9_tape 7 = [(gm_iload 4), (gm_push (.inl 60)), (gm_cge 8), (gm_aload 0), (gm_getR 9 962), (gm_push (.inl 60)), (gm_iload 1), (gm_op2 gm_mul), (gm_iload 4), (gm_op2 gm_add), (gm_push (.inr (.inl 0))), gm_last, (gm_iinc 4 1), (gm_goto 7)] := rfl
theorem qX9_tape_8 : qX9_tape 8 = [(gm_push (.inl 1)), gm_iret] := rfl
theorem eX9_tape (d : Nat) (as : List gm_V) (M : gm_M) (h : gm_wd as ≤ 5) : gm_go (d + 1) 181 as M = gm_ex (gm_go d) qX9_tape 100000 0 (gm_pad 5 (gm_ent as)) [] M := if_pos ⟨by decide, h⟩
def qX9_narrow : Nat → List gm_A := fun b => pX9_narrow.getD b []
theorem qX9_narrow_0 : qX9_narrow 0 = [(gm_iload 1), (gm_ifne 1), (gm_lload 2), gm_l2i, (gm_op1 gm_i2b), gm_i2l, (gm_goto 6)] := rfl
theorem qX9_narrow_1 : qX9_narrow 1 = [(gm_iload 1), (gm_push (.inl 1)), (gm_cne 2), (gm_lload 2), gm_l2i, (gm_op1 gm_i2s), gm_i2l, (gm_goto 6)] := rfl
theorem qX9_narrow_2 : qX9_narrow 2 = [(gm_iload 1), (gm_push (.inl 2)), (gm_cne 3), (gm_lload 2), gm_l2i, gm_i2l, (gm_goto 6)] := rfl
theorem qX9_narrow_3 : qX9_narrow 3 = [(gm_iload 1), (gm_push (.inl 4)), (gm_cne 5), (gm_lload 2), (gm_push (.inr (.inl 0))), gm_lcmp, (gm_ifeq 4), (gm_push (.inr (.inl 1))), (gm_goto 6)] := rfl
theorem qX9_narrow_4 : qX9_narrow 4 = [(gm_push (.inr (.inl 0))), (gm_goto 6)] := rfl
theorem qX9_narrow_5 : qX9_narrow 5 = [(gm_lload 2), (gm_goto 6)] := rfl
theorem qX9_narrow_6 : qX9_narrow 6 = [gm_lret] := rfl
theorem eX9_narrow (d : Nat) (as : List gm_V) (M : gm_M) (h : gm_wd as ≤ 4) : gm_go (d + 1) 182 as M = gm_ex (gm_go d) qX9_narrow 100000 0 (gm_pad 4 (gm_ent as)) [] M := if_pos ⟨by decide, h⟩
def qX9_item : Nat → List gm_A := fun b => pX9_item.getD b []
theorem qX9_item_0 : qX9_item 0 = [(gm_aload 0), (gm_iload 1), (gm_vcall 9 180 2), (gm_ifne 1), (gm_push (.inl (-1))), gm_iret] := rfl
theorem qX9_item_1 : qX9_item 1 = [(gm_aload 0), (gm_getR 9 960), (gm_iload 1), gm_iald, (gm_ifge 2), (gm_push (.inl (-11))), gm_iret] := rfl
theorem qX9_item_2 : qX9_item 2 = [(gm_aload 0), (gm_iload 2), (gm_push (.inl 0)), (gm_aload 0), (gm_getR 9 961), (gm_iload 1), gm_iald, (gm_push (.inl 1)), (gm_op2 gm_sub), (gm_vcall 9 99 4), (gm_ifne 3), (gm_push (.inl (-13))), gm_iret] := rfl
theorem qX9_item_3 : qX9_item 3 = [(gm_aload 0), (gm_getR 9 962), (gm_push (.inl 60)), (gm_iload 1), (gm_op2 gm_mul), (gm_iload 2), (gm_op2 gm_add), (gm_aload 0), (gm_aload 0), (gm_getR 9 960), (gm_iload 1), gm_iald, (gm_lload 3), (gm_vcall 9 182 3), gm_last, (gm_push (.inl 1)), gm_iret] := rfl
theorem eX9_item (d : Nat) (as : List gm_V) (M : gm_M) (h : gm_wd as ≤ 5) : gm_go (d + 1) 183 as M = gm_ex (gm_go d) qX9_item 100000 0 (gm_pad 5 (gm_ent as)) [] M := if_pos ⟨by decide, h⟩
def qX9_read : Nat → List gm_A := fun b => pX9_read.getD b []
theorem qX9_read_0 : qX9_read 0 = [(gm_aload 0), (gm_iload 1), (gm_vcall 9 180 2), (gm_ifeq 1), (gm_aload 0), (gm_getR 9 960), (gm_iload 1), gm_iald, (gm_iflt 1), (gm_aload 0), (gm_iload 2), (gm_push (.inl 0)), (gm_aload 0), (gm_getR 9 961), (gm_iload 1), gm_iald, (gm_push (.inl 1)), (gm_op2 gm_sub), (gm_vcall 9 99 4), (gm_ifne 2), (gm_goto 1)] := rfl
theorem qX9_read_1 : qX9_read 1 = [(gm_push (.inr (.inl (-9223372036854775808)))), (gm_goto 3)] := rfl
theorem qX9_read_2 : qX9_read 2 = [(gm_aload 0), (gm_getR 9 962), (gm_push (.inl 60)), (gm_iload 1), (gm_op2 gm_mul), (gm_iload 2), (gm_op2 gm_add), gm_lald, (gm_goto 3)] := rfl
theorem qX9_read_3 : qX9_read 3 = [gm_lret] := rfl
theorem eX9_read (d : Nat) (as : List gm_V) (M : gm_M) (h : gm_wd as ≤ 3) : gm_go (d + 1) 184 as M = gm_ex (gm_go d) qX9_read 100000 0 (gm_pad 3 (gm_ent as)) [] M := if_pos ⟨by decide, h⟩
def qX9_shift : Nat → List gm_A := fun b => pX9_shift.getD b []
theorem qX9_shift_0 : qX9_shift 0 = [(gm_aload 0), (gm_iload 1), (gm_vcall 9 180 2), (gm_ifeq 1), (gm_aload 0), (gm_iload 3), (gm_vcall 9 180 2), (gm_ifne 2), (gm_goto 1)] := rfl
theorem qX9_shift_1 : qX9_shift 1 = [(gm_push (.inl (-1))), gm_iret] := rfl
theorem qX9_shift_2 : qX9_shift 2 = [(gm_aload 0), (gm_getR 9 960), (gm_iload 1), gm_iald, (gm_iflt 3), (gm_aload 0), (gm_getR 9 960), (gm_iload 3), gm_iald, (gm_ifge 4), (gm_goto 3)] := rfl
theorem qX9_shift_3 : qX9_shift 3 = [(gm_push (.inl (-11))), gm_iret] := rfl
theorem qX9_shift_4 : qX9_shift 4 = [(gm_aload 0), (gm_getR 9 960), (gm_iload 1), gm_iald, (gm_aload 0), (gm_getR 9 960), (gm_iload 3), gm_iald, (gm_ceq 5), (gm_push (.inl (-12))), gm_iret] := rfl
theorem qX9_shift_5 : qX9_shift 5 = [(gm_iload 5), (gm_iflt 6), (gm_iload 2), (gm_iflt 6), (gm_iload 4), (gm_iflt 6), (gm_iload 2), (gm_aload 0), (gm_getR 9 961), (gm_iload 1), gm_iald, (gm_iload 5), (gm_op2 gm_sub), (gm_cgt 6), (gm_iload 4), (gm_aload 0), (gm_getR 9 961), (gm_iload 3), gm_iald, (gm_iload 5), (gm_op2 gm_sub), (gm_cle 7), (gm_goto 6)] := rfl
theorem qX9_shift_6 : qX9_shift 6 = [(gm_push (.inl (-13))), gm_iret] := rfl
theorem qX9_shift_7 : qX9_shift 7 = [(gm_push (.inl 0)), (gm_istore 6), (gm_goto 8)] := rfl
theorem qX9_shift_8 : qX9_shift 8 = [(gm_iload 6), (gm_iload 5), (gm_cge 9), (gm_aload 0), (gm_getR 9 963), (gm_iload 6), (gm_aload 0), (gm_getR 9 962), (gm_push (.inl 60)), (gm_iload 1), (gm_op2 gm_mul), (gm_iload 2), (gm_op2 gm_add), (gm_iload 6), (gm_op2 gm_add), gm_lald, gm_last, (gm_iinc 6 1), (gm_goto 8)] := rfl
theorem qX9_shift_9 : qX9_shift 9 = [(gm_push (.inl 0)), (gm_istore 6), (gm_goto 10)] := rfl
theorem qX9_shift_10 : qX9_shift 10 = [(gm_iload 6), (gm_iload 5), (gm_cge 11), (gm_aload 0), (gm_getR 9 962), (gm_push (.inl 60)), (gm_iload 3), (gm_op2 gm_mul), (gm_iload 4), (gm_op2 gm_add), (gm_iload 6), (gm_op2 gm_add), (gm_aload 0), (gm_getR 9 963), (gm_iload 6), gm_lald, gm_last, (gm_iinc 6 1), (gm_goto 10)] := rfl
theorem qX9_shift_11 : qX9_shift 11 = [(gm_iload 5), gm_iret] := rfl
theorem eX9_shift (d : Nat) (as : List gm_V) (M : gm_M) (h : gm_wd as ≤ 7) : gm_go (d + 1) 185 as M = gm_ex (gm_go d) qX9_shift 100000 0 (gm_pad 7 (gm_ent as)) [] M := if_pos ⟨by decide, h⟩
def qL_law : Nat → List gm_A := fun b => pL_law.getD b []
theorem qL_law_0 : qL_law 0 = [(gm_new 8), gm_dup, (gm_vcall 8 52 1), (gm_astore 1), (gm_new 9), gm_dup, (gm_vcall 9 98 1), (gm_astore 2), (gm_push (.inl 0)), (gm_istore 3), (gm_goto 1)] := rfl
theorem qL_law_1 : qL_law 1 = [(gm_iload 3), (gm_aload 0), gm_alen, (gm_push (.inl 6)), (gm_op2 gm_sub), (gm_cgt 39), (gm_aload 0), (gm_iload 3), gm_iald, (gm_push (.inl 63)), (gm_op2 gm_and), (gm_switch [(0, 2), (1, 3), (2, 4), (3, 5), (4, 6), (5, 7), (6, 8), (7, 9), (8, 10), (9, 11), (10, 12), (11, 13), (12, 14), (13, 15), (14, 16), (15, 17), (16, 18), (17, 19), (18, 20), (19, 21), (20, 22), (21, 23), (22, 24), (23, 25), (24, 26), (25, 27), (26, 28), (27, 29), (28, 30), (29, 31), (30, 32), (31, 33), (32, 34), (33, 35), (34, 36), (35, 37)] 38)] := rfl
theorem qL_law_2 : qL_law 2 = [(gm_aload 1), (gm_aload 0), (gm_iload 3), (gm_push (.inl 1)), (gm_op2 gm_add), gm_iald, (gm_aload 0), (gm_iload 3), (gm_push (.inl 2)), (gm_op2 gm_add), gm_iald, (gm_aload 0), (gm_iload 3), (gm_push (.inl 3)), (gm_op2 gm_add), gm_iald, (gm_aload 0), (gm_iload 3), (gm_push (.inl 4)), (gm_op2 gm_add), gm_iald, (gm_vcall 8 53 5), (gm_aload 2), (gm_aload 0), (gm_iload 3), (gm_push (.inl 1)), (gm_op2 gm_add), gm_iald, (gm_aload 0), (gm_iload 3), (gm_push (.inl 2)), (gm_op2 gm_add), gm_iald, (gm_aload 0), (gm_iload 3), (gm_push (.inl 3)), (gm_op2 gm_add), gm_iald, (gm_aload 0), (gm_iload 3), (gm_push (.inl 4)), (gm_op2 gm_add), gm_iald, (gm_vcall 9 101 5), (gm_ceq 38), (gm_push (.inl 0)), gm_zret] := rfl
theorem qL_law_3 : qL_law 3 = [(gm_aload 1), (gm_aload 0), (gm_iload 3), (gm_push (.inl 1)), (gm_op2 gm_add), gm_iald, (gm_aload 0), (gm_iload 3), (gm_push (.inl 2)), (gm_op2 gm_add), gm_iald, (gm_vcall 8 54 3), (gm_aload 2), (gm_aload 0), (gm_iload 3), (gm_push (.inl 1)), (gm_op2 gm_add), gm_iald, (gm_aload 0), (gm_iload 3), (gm_push (.inl 2)), (gm_op2 gm_add), gm_iald, (gm_vcall 9 136 3), (gm_ceq 38), (gm_push (.inl 0)), gm_zret] := rfl
theorem qL_law_4 : qL_law 4 = [(gm_aload 1), (gm_aload 0), (gm_iload 3), (gm_push (.inl 1)), (gm_op2 gm_add), gm_iald, (gm_aload 0), (gm_iload 3), (gm_push (.inl 2)), (gm_op2 gm_add), gm_iald, (gm_aload 0), (gm_iload 3), (gm_push (.inl 3)), (gm_op2 gm_add), gm_iald, (gm_vcall 8 55 4), (gm_aload 2), (gm_aload 0), (gm_iload 3), (gm_push (.inl 1)), (gm_op2 gm_add), gm_iald, (gm_aload 0), (gm_iload 3), (gm_push (.inl 2)), (gm_op2 gm_add), gm_iald, (gm_aload 0), (gm_iload 3), (gm_push (.inl 3)), (gm_op2 gm_add), gm_iald, (gm_vcall 9 103 4), (gm_ceq 38), (gm_push (.inl 0)), gm_zret] := rfl
theorem qL_law_5 : qL_law 5 = [(gm_aload 1), (gm_aload 0), (gm_iload 3), (gm_push (.inl 1)), (gm_op2 gm_add), gm_iald, (gm_aload 0), (gm_iload 3), (gm_push (.inl 2)), (gm_op2 gm_add), gm_iald, (gm_aload 0), (gm_iload 3), (gm_push (.inl 3)), (gm_op2 gm_add), gm_iald, (gm_vcall 8 56 4), (gm_aload 2), (gm_aload 0), (gm_iload 3), (gm_push (.inl 1)), (gm_op2 gm_add), gm_iald, (gm_aload 0), (gm_iload 3), (gm_push (.inl 2)), (gm_op2 gm_add), gm_iald, (gm_aload 0), (gm_iload 3), (gm_push (.inl 3)), (gm_op2 gm_add), gm_iald, (gm_vcall 9 104 4), (gm_ceq 38), (gm_push (.inl 0)), gm_zret] := rfl
theorem qL_law_6 : qL_law 6 = [(gm_aload 1), (gm_aload 0), (gm_iload 3), (gm_push (.inl 1)), (gm_op2 gm_add), gm_iald, (gm_vcall 8 57 2), (gm_aload 2), (gm_aload 0), (gm_iload 3), (gm_push (.inl 1)), (gm_op2 gm_add), gm_iald, (gm_vcall 9 105 2), (gm_ceq 38), (gm_push (.inl 0)), gm_zret] := rfl
theorem qL_law_7 : qL_law 7 = [(gm_aload 1), (gm_vcall 8 58 1), (gm_aload 2), (gm_vcall 9 120 1), (gm_ceq 38), (gm_push (.inl 0)), gm_zret] := rfl
theorem qL_law_8 : qL_law 8 = [(gm_aload 1), (gm_aload 0), (gm_iload 3), (gm_push (.inl 1)), (gm_op2 gm_add), gm_iald, (gm_vcall 8 59 2), (gm_aload 2), (gm_aload 0), (gm_iload 3), (gm_push (.inl 1)), (gm_op2 gm_add), gm_iald, (gm_vcall 9 137 2), (gm_ceq 38), (gm_push (.inl 0)), gm_zret] := rfl
theorem qL_law_9 : qL_law 9 = [(gm_aload 1), (gm_vcall 8 60 1), (gm_aload 2), (gm_vcall 9 139 1), (gm_ceq 38), (gm_push (.inl 0)), gm_zret] := rfl
theorem qL_law_10 : qL_law 10 = [(gm_aload 1), (gm_aload 0), (gm_iload 3), (gm_push (.inl 1)), (gm_op2 gm_add), gm_iald, (gm_aload 0), (gm_iload 3), (gm_push (.inl 2)), (gm_op2 gm_add), gm_iald, (gm_aload 0), (gm_iload 3), (gm_push (.inl 3)), (gm_op2 gm_add), gm_iald, (gm_vcall 8 61 4), (gm_aload 2), (gm_aload 0), (gm_iload 3), (gm_push (.inl 1)), (gm_op2 gm_add), gm_iald, (gm_aload 0), (gm_iload 3), (gm_push (.inl 2)), (gm_op2 gm_add), gm_iald, (gm_aload 0), (gm_iload 3), (gm_push (.inl 3)), (gm_op2 gm_add), gm_iald, (gm_vcall 9 144 4), (gm_ceq 38), (gm_push (.inl 0)), gm_zret] := rfl
theorem qL_law_11 : qL_law 11 = [(gm_aload 1), (gm_aload 0), (gm_iload 3), (gm_push (.inl 1)), (gm_op2 gm_add), gm_iald, (gm_vcall 8 62 2), (gm_aload 2), (gm_aload 0), (gm_iload 3), (gm_push (.inl 1)), (gm_op2 gm_add), gm_iald, (gm_vcall 9 145 2), (gm_ceq 38), (gm_push (.inl 0)), gm_zret] := rfl
theorem qL_law_12 : qL_law 12 = [(gm_aload 1), (gm_vcall 8 63 1), (gm_aload 2), (gm_vcall 9 146 1), (gm_ceq 38), (gm_push (.inl 0)), gm_zret] := rfl
theorem qL_law_13 : qL_law 13 = [(gm_aload 1), (gm_aload 0), (gm_iload 3), (gm_push (.inl 1)), (gm_op2 gm_add), gm_iald, (gm_vcall 8 64 2), (gm_aload 2), (gm_aload 0), (gm_iload 3), (gm_push (.inl 1)), (gm_op2 gm_add), gm_iald, (gm_vcall 9 147 2), (gm_ceq 38), (gm_push (.inl 0)), gm_zret] := rfl
theorem qL_law_14 : qL_law 14 = [(gm_aload 1), (gm_aload 0), (gm_iload 3), (gm_push (.inl 1)), (gm_op2 gm_add), gm_iald, (gm_vcall 8 65 2), (gm_aload 2), (gm_aload 0), (gm_iload 3), (gm_push (.inl 1)), (gm_op2 gm_add), gm_iald, (gm_vcall 9 148 2), (gm_ceq 38), (gm_push (.inl 0)), gm_zret] := rfl
theorem qL_law_15 : qL_law 15 = [(gm_aload 1), (gm_aload 0), (gm_iload 3), (gm_push (.inl 1)), (gm_op2 gm_add), gm_iald, (gm_aload 0), (gm_iload 3), (gm_push (.inl 2)), (gm_op2 gm_add), gm_iald, (gm_vcall 8 66 3), (gm_aload 2), (gm_aload 0), (gm_iload 3), (gm_push (.inl 1)), (gm_op2 gm_add), gm_iald, (gm_aload 0), (gm_iload 3), (gm_push (.inl 2)), (gm_op2 gm_add), gm_iald, (gm_vcall 9 149 3), (gm_ceq 38), (gm_push (.inl 0)), gm_zret] := rfl
theorem qL_law_16 : qL_law 16 = [(gm_aload 1), (gm_aload 0), (gm_iload 3), (gm_push (.inl 1)), (gm_op2 gm_add), gm_iald, (gm_vcall 8 67 2), (gm_aload 2), (gm_aload 0), (gm_iload 3), (gm_push (.inl 1)), (gm_op2 gm_add), gm_iald, (gm_vcall 9 151 2), (gm_ceq 38), (gm_push (.inl 0)), gm_zret] := rfl
theorem qL_law_17 : qL_law 17 = [(gm_aload 1), (gm_aload 0), (gm_iload 3), (gm_push (.inl 1)), (gm_op2 gm_add), gm_iald, (gm_aload 0), (gm_iload 3), (gm_push (.inl 2)), (gm_op2 gm_add), gm_iald, (gm_aload 0), (gm_iload 3), (gm_push (.inl 3)), (gm_op2 gm_add), gm_iald, (gm_vcall 8 68 4), (gm_aload 2), (gm_aload 0), (gm_iload 3), (gm_push (.inl 1)), (gm_op2 gm_add), gm_iald, (gm_aload 0), (gm_iload 3), (gm_push (.inl 2)), (gm_op2 gm_add), gm_iald, (gm_aload 0), (gm_iload 3), (gm_push (.inl 3)), (gm_op2 gm_add), gm_iald, (gm_vcall 9 152 4), (gm_ceq 38), (gm_push (.inl 0)), gm_zret] := rfl
theorem qL_law_18 : qL_law 18 = [(gm_aload 1), (gm_aload 0), (gm_iload 3), (gm_push (.inl 1)), (gm_op2 gm_add), gm_iald, (gm_aload 0), (gm_iload 3), (gm_push (.inl 2)), (gm_op2 gm_add), gm_iald, (gm_vcall 8 69 3), (gm_aload 2), (gm_aload 0), (gm_iload 3), (gm_push (.inl 1)), (gm_op2 gm_add), gm_iald, (gm_aload 0), (gm_iload 3), (gm_push (.inl 2)), (gm_op2 gm_add), gm_iald, (gm_vcall 9 153 3), (gm_ceq 38), (gm_push (.inl 0)), gm_zret] := rfl
theorem qL_law_19 : qL_law 19 = [(gm_aload 1), (gm_aload 0), (gm_iload 3), (gm_push (.inl 1)), (gm_op2 gm_add), gm_iald, (gm_aload 0), (gm_iload 3), (gm_push (.inl 2)), (gm_op2 gm_add), gm_iald, (gm_vcall 8 70 3), (gm_aload 2), (gm_aload 0), (gm_iload 3), (gm_push (.inl 1)), (gm_op2 gm_add), gm_iald, (gm_aload 0), (gm_iload 3), (gm_push (.inl 2)), (gm_op2 gm_add), gm_iald, (gm_vcall 9 154 3), (gm_ceq 38), (gm_push (.inl 0)), gm_zret] := rfl
theorem qL_law_20 : qL_law 20 = [(gm_aload 1), (gm_aload 0), (gm_iload 3), (gm_push (.inl 1)), (gm_op2 gm_add), gm_iald, (gm_aload 0), (gm_iload 3), (gm_push (.inl 2)), (gm_op2 gm_add), gm_iald, (gm_aload 0), (gm_iload 3), (gm_push (.inl 3)), (gm_op2 gm_add), gm_iald, (gm_vcall 8 71 4), (gm_aload 2), (gm_aload 0), (gm_iload 3), (gm_push (.inl 1)), (gm_op2 gm_add), gm_iald, (gm_aload 0), (gm_iload 3), (gm_push (.inl 2)), (gm_op2 gm_add), gm_iald, (gm_aload 0), (gm_iload 3), (gm_push (.inl 3)), (gm_op2 gm_add), gm_iald, (gm_vcall 9 155 4), (gm_ceq 38), (gm_push (.inl 0)), gm_zret] := rfl
theorem qL_law_21 : qL_law 21 = [(gm_aload 1), (gm_aload 0), (gm_iload 3), (gm_push (.inl 1)), (gm_op2 gm_add), gm_iald, (gm_vcall 8 72 2), (gm_aload 2), (gm_aload 0), (gm_iload 3), (gm_push (.inl 1)), (gm_op2 gm_add), gm_iald, (gm_vcall 9 157 2), (gm_ceq 38), (gm_push (.inl 0)), gm_zret] := rfl
theorem qL_law_22 : qL_law 22 = [(gm_aload 1), (gm_aload 0), (gm_iload 3), (gm_push (.inl 1)), (gm_op2 gm_add), gm_iald, (gm_vcall 8 73 2), (gm_aload 2), (gm_aload 0), (gm_iload 3), (gm_push (.inl 1)), (gm_op2 gm_add), gm_iald, (gm_vcall 9 158 2), (gm_ceq 38), (gm_push (.inl 0)), gm_zret] := rfl
theorem qL_law_23 : qL_law 23 = [(gm_aload 1), (gm_aload 0), (gm_iload 3), (gm_push (.inl 1)), (gm_op2 gm_add), gm_iald, (gm_aload 0), (gm_iload 3), (gm_push (.inl 2)), (gm_op2 gm_add), gm_iald, (gm_vcall 8 74 3), (gm_aload 2), (gm_aload 0), (gm_iload 3), (gm_push (.inl 1)), (gm_op2 gm_add), gm_iald, (gm_aload 0), (gm_iload 3), (gm_push (.inl 2)), (gm_op2 gm_add), gm_iald, (gm_vcall 9 161 3), gm_lcmp, (gm_ifeq 38), (gm_push (.inl 0)), gm_zret] := rfl
theorem qL_law_24 : qL_law 24 = [(gm_aload 1), (gm_aload 0), (gm_iload 3), (gm_push (.inl 1)), (gm_op2 gm_add), gm_iald, (gm_aload 0), (gm_iload 3), (gm_push (.inl 2)), (gm_op2 gm_add), gm_iald, (gm_vcall 8 75 3), (gm_aload 2), (gm_aload 0), (gm_iload 3), (gm_push (.inl 1)), (gm_op2 gm_add), gm_iald, (gm_aload 0), (gm_iload 3), (gm_push (.inl 2)), (gm_op2 gm_add), gm_iald, (gm_vcall 9 162 3), gm_lcmp, (gm_ifeq 38), (gm_push (.inl 0)), gm_zret] := rfl
theorem qL_law_25 : qL_law 25 = [(gm_aload 1), (gm_aload 0), (gm_iload 3), (gm_push (.inl 1)), (gm_op2 gm_add), gm_iald, (gm_vcall 8 76 2), (gm_aload 2), (gm_aload 0), (gm_iload 3), (gm_push (.inl 1)), (gm_op2 gm_add), gm_iald, (gm_vcall 9 163 2), (gm_ceq 38), (gm_push (.inl 0)), gm_zret] := rfl
theorem qL_law_26 : qL_law 26 = [(gm_aload 1), (gm_vcall 8 77 1), (gm_aload 2), (gm_vcall 9 164 1), (gm_ceq 38), (gm_push (.inl 0)), gm_zret] := rfl
theorem qL_law_27 : qL_law 27 = [(gm_aload 1), (gm_aload 0), (gm_iload 3), (gm_push (.inl 1)), (gm_op2 gm_add), gm_iald, (gm_aload 0), (gm_iload 3), (gm_push (.inl 2)), (gm_op2 gm_add), gm_iald, (gm_vcall 8 78 3), (gm_aload 2), (gm_aload 0), (gm_iload 3), (gm_push (.inl 1)), (gm_op2 gm_add), gm_iald, (gm_aload 0), (gm_iload 3), (gm_push (.inl 2)), (gm_op2 gm_add), gm_iald, (gm_vcall 9 165 3), (gm_ceq 38), (gm_push (.inl 0)), gm_zret] := rfl
theorem qL_law_28 : qL_law 28 = [(gm_aload 1), (gm_vcall 8 79 1), (gm_aload 2), (gm_vcall 9 166 1), (gm_ceq 38), (gm_push (.inl 0)), gm_zret] := rfl
theorem qL_law_29 : qL_law 29 = [(gm_aload 1), (gm_vcall 8 80 1), (gm_aload 2), (gm_vcall 9 167 1), (gm_ceq 38), (gm_push (.inl 0)), gm_zret] := rfl
theorem qL_law_30 : qL_law 30 = [(gm_aload 1), (gm_aload 0), (gm_iload 3), (gm_push (.inl 1)), (gm_op2 gm_add), gm_iald, (gm_aload 0), (gm_iload 3), (gm_push (.inl 2)), (gm_op2 gm_add), gm_iald, (gm_aload 0), (gm_iload 3), (gm_push (.inl 3)), (gm_op2 gm_add), gm_iald, (gm_vcall 8 81 4), (gm_aload 2), (gm_aload 0), (gm_iload 3), (gm_push (.inl 1)), (gm_op2 gm_add), gm_iald, (gm_aload 0), (gm_iload 3), (gm_push (.inl 2)), (gm_op2 gm_add), gm_iald, (gm_aload 0), (gm_iload 3), (gm_push (.inl 3)), (gm_op2 gm_add), gm_iald, (gm_vcall 9 176 4), (gm_ceq 38), (gm_push (.inl 0)), gm_zret] := rfl
theorem qL_law_31 : qL_law 31 = [(gm_aload 1), (gm_aload 0), (gm_iload 3), (gm_push (.inl 1)), (gm_op2 gm_add), gm_iald, (gm_vcall 8 82 2), (gm_aload 2), (gm_aload 0), (gm_iload 3), (gm_push (.inl 1)), (gm_op2 gm_add), gm_iald, (gm_vcall 9 177 2), (gm_ceq 38), (gm_push (.inl 0)), gm_zret] := rfl
theorem qL_law_32 : qL_law 32 = [(gm_aload 1), (gm_aload 0), (gm_iload 3), (gm_push (.inl 1)), (gm_op2 gm_add), gm_iald, (gm_aload 0), (gm_iload 3), (gm_push (.inl 2)), (gm_op2 gm_add), gm_iald, (gm_vcall 8 83 3), (gm_aload 2), (gm_aload 0), (gm_iload 3), (gm_push (.inl 1)), (gm_op2 gm_add), gm_iald, (gm_aload 0), (gm_iload 3), (gm_push (.inl 2)), (gm_op2 gm_add), gm_iald, (gm_vcall 9 178 3), (gm_ceq 38), (gm_push (.inl 0)), gm_zret] := rfl
theorem qL_law_33 : qL_law 33 = [(gm_aload 1), (gm_aload 0), (gm_iload 3), (gm_push (.inl 1)), (gm_op2 gm_add), gm_iald, (gm_vcall 8 84 2), (gm_aload 2), (gm_aload 0), (gm_iload 3), (gm_push (.inl 1)), (gm_op2 gm_add), gm_iald, (gm_vcall 9 179 2), (gm_ceq 38), (gm_push (.inl 0)), gm_zret] := rfl
theorem qL_law_34 : qL_law 34 = [(gm_aload 1), (gm_aload 0), (gm_iload 3), (gm_push (.inl 1)), (gm_op2 gm_add), gm_iald, (gm_aload 0), (gm_iload 3), (gm_push (.inl 2)), (gm_op2 gm_add), gm_iald, (gm_aload 0), (gm_iload 3), (gm_push (.inl 3)), (gm_op2 gm_add), gm_iald, (gm_vcall 8 85 4), (gm_aload 2), (gm_aload 0), (gm_iload 3), (gm_push (.inl 1)), (gm_op2 gm_add), gm_iald, (gm_aload 0), (gm_iload 3), (gm_push (.inl 2)), (gm_op2 gm_add), gm_iald, (gm_aload 0), (gm_iload 3), (gm_push (.inl 3)), (gm_op2 gm_add), gm_iald, (gm_vcall 9 181 4), (gm_ceq 38), (gm_push (.inl 0)), gm_zret] := rfl
theorem qL_law_35 : qL_law 35 = [(gm_aload 1), (gm_aload 0), (gm_iload 3), (gm_push (.inl 1)), (gm_op2 gm_add), gm_iald, (gm_aload 0), (gm_iload 3), (gm_push (.inl 2)), (gm_op2 gm_add), gm_iald, (gm_aload 0), (gm_iload 3), (gm_push (.inl 3)), (gm_op2 gm_add), gm_iald, gm_i2l, (gm_push (.inl 32)), gm_lshl, (gm_aload 0), (gm_iload 3), (gm_push (.inl 4)), (gm_op2 gm_add), gm_iald, gm_i2l, (gm_push (.inr (.inl (4294967295)))), (gm_lop2 gm_land), (gm_lop2 gm_lor), (gm_vcall 8 86 4), (gm_aload 2), (gm_aload 0), (gm_iload 3), (gm_push (.inl 1)), (gm_op2 gm_add), gm_iald, (gm_aload 0), (gm_iload 3), (gm_push (.inl 2)), (gm_op2 gm_add), gm_iald, (gm_aload 0), (gm_iload 3), (gm_push (.inl 3)), (gm_op2 gm_add), gm_iald, gm_i2l, (gm_push (.inl 32)), gm_lshl, (gm_aload 0), (gm_iload 3), (gm_push (.inl 4)), (gm_op2 gm_add), gm_iald, gm_i2l, (gm_push (.inr (.inl (4294967295)))), (gm_lop2 gm_land), (gm_lop2 gm_lor), (gm_vcall 9 183 4), (gm_ceq 38), (gm_push (.inl 0)), gm_zret] := rfl
theorem qL_law_36 : qL_law 36 = [(gm_aload 1), (gm_aload 0), (gm_iload 3), (gm_push (.inl 1)), (gm_op2 gm_add), gm_iald, (gm_aload 0), (gm_iload 3), (gm_push (.inl 2)), (gm_op2 gm_add), gm_iald, (gm_vcall 8 87 3), (gm_aload 2), (gm_aload 0), (gm_iload 3), (gm_push (.inl 1)), (gm_op2 gm_add), gm_iald, (gm_aload 0), (gm_iload 3), (gm_push (.inl 2)), (gm_op2 gm_add), gm_iald, (gm_vcall 9 184 3), gm_lcmp, (gm_ifeq 38), (gm_push (.inl 0)), gm_zret] := rfl
theorem qL_law_37 : qL_law 37 = [(gm_aload 1), (gm_aload 0), (gm_iload 3), (gm_push (.inl 1)), (gm_op2 gm_add), gm_iald, (gm_aload 0), (gm_iload 3), (gm_push (.inl 2)), (gm_op2 gm_add), gm_iald, (gm_aload 0), (gm_iload 3), (gm_push (.inl 3)), (gm_op2 gm_add), gm_iald, (gm_aload 0), (gm_iload 3), (gm_push (.inl 4)), (gm_op2 gm_add), gm_iald, (gm_aload 0), (gm_iload 3), (gm_push (.inl 5)), (gm_op2 gm_add), gm_iald, (gm_vcall 8 88 6), (gm_aload 2), (gm_aload 0), (gm_iload 3), (gm_push (.inl 1)), (gm_op2 gm_add), gm_iald, (gm_aload 0), (gm_iload 3), (gm_push (.inl 2)), (gm_op2 gm_add), gm_iald, (gm_aload 0), (gm_iload 3), (gm_push (.inl 3)), (gm_op2 gm_add), gm_iald, (gm_aload 0), (gm_iload 3), (gm_push (.inl 4)), (gm_op2 gm_add), gm_iald, (gm_aload 0), (gm_iload 3), (gm_push (.inl 5)), (gm_op2 gm_add), gm_iald, (gm_vcall 9 185 6), (gm_ceq 38), (gm_push (.inl 0)), gm_zret] := rfl
theorem qL_law_38 : qL_law 38 = [(gm_iinc 3 6), (gm_goto 1)] := rfl
theorem qL_law_39 : qL_law 39 = [(gm_push (.inl 1)), gm_zret] := rfl
theorem gm_ex_s (C : gm_O) (B : Nat → List gm_A) (f b : Nat) (L : gm_Ls) (st : List gm_V) (M : gm_M) : gm_ex C B (f + 1) b L st M = gm_xl C (gm_ex C B f) (B b) L st M := by
  cases hb : B b <;> simp only [gm_ex, hb]
theorem gm_xl_c (C : gm_O) (J : Nat → gm_K) (a : gm_A) (as : List gm_A) (L : gm_Ls) (st : List gm_V) (M : gm_M) : gm_xl C J (a :: as) L st M = a C J (gm_xl C J as) L st M := by
  cases as <;> simp only [gm_xl]
