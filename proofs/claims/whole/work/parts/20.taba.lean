theorem dX0_init_0 : decode cX0_init 0 = .ok (.aload_n 0, 1) := by decide +kernel
theorem dX0_init_1 : decode cX0_init 1 = .ok (.invokespecial 3, 3) := by decide +kernel
theorem dX0_init_4 : decode cX0_init 4 = .ok (.aload_n 0, 1) := by decide +kernel
theorem dX0_init_5 : decode cX0_init 5 = .ok (.bipush 100, 2) := by decide +kernel
theorem dX0_init_7 : decode cX0_init 7 = .ok (.newarray .int, 2) := by decide +kernel
theorem dX0_init_9 : decode cX0_init 9 = .ok (.putfield 9, 3) := by decide +kernel
theorem dX0_init_12 : decode cX0_init 12 = .ok (.aload_n 0, 1) := by decide +kernel
theorem dX0_init_13 : decode cX0_init 13 = .ok (.bipush 100, 2) := by decide +kernel
theorem dX0_init_15 : decode cX0_init 15 = .ok (.newarray .int, 2) := by decide +kernel
theorem dX0_init_17 : decode cX0_init 17 = .ok (.putfield 15, 3) := by decide +kernel
theorem dX0_init_20 : decode cX0_init 20 = .ok (.return_, 1) := by decide +kernel
def pX0_init : List (List gm_A) := [[(gm_aload 0), gm_oinit, (gm_aload 0), (gm_push (.inl 100)), (gm_newarr 20), (gm_putR 0 0), (gm_aload 0), (gm_push (.inl 100)), (gm_newarr 20), (gm_putR 0 1), gm_vret]]
def bpX0_init : Nat → Nat := fun b => ([0] : List Nat).getD b 0
set_option maxRecDepth 100000 in
theorem tX0_init {D : va_G} {sz : Nat} {ad : Nat → Nat} {cA : Nat → ClassId} {xs : Int → Int} {Ln : Int} {l : Launch} : gm_SB D sz ad cA xs Ln l gm_mt cX0_init "LongNoon$Clauses" 1 true 0 bpX0_init 0 pX0_init :=
  ⟨gm_cn 1 (gm_m_aload _) (gm_s_aload_n dX0_init_0 rfl) (
    gm_cn 4 gm_m_oinit (gm_s_oinit gw_0 gw_1 gw_2 dX0_init_1) (
    gm_cn 5 (gm_m_aload _) (gm_s_aload_n dX0_init_4 rfl) (
    gm_cn 7 (gm_m_push _) (gm_s_bipush dX0_init_5 rfl) (
    gm_cn 9 (gm_m_newarr _) (gm_s_newarr (atype := .int) (t0 := 0) (ty := .int) rfl gw_3 (fun _ => rfl) (Or.inr (Or.inl ⟨rfl, rfl⟩)) dX0_init_7) (
    gm_cn 12 (gm_m_putR _ _) (gf_putR_0_0 gw_4 dX0_init_9) (
    gm_cn 13 (gm_m_aload _) (gm_s_aload_n dX0_init_12 rfl) (
    gm_cn 15 (gm_m_push _) (gm_s_bipush dX0_init_13 rfl) (
    gm_cn 17 (gm_m_newarr _) (gm_s_newarr (atype := .int) (t0 := 0) (ty := .int) rfl gw_3 (fun _ => rfl) (Or.inr (Or.inl ⟨rfl, rfl⟩)) dX0_init_15) (
    gm_cn 20 (gm_m_putR _ _) (gf_putR_0_1 gw_5 dX0_init_17) (
    gm_cn 0 gm_m_vret (gm_s_vret dX0_init_20 rfl 0) (
    trivial))))))))))), trivial⟩
theorem dX0_clear_0 : decode cX0_clear 0 = .ok (.aload_n 0, 1) := by decide +kernel
theorem dX0_clear_1 : decode cX0_clear 1 = .ok (.iconst 0, 1) := by decide +kernel
theorem dX0_clear_2 : decode cX0_clear 2 = .ok (.putfield 18, 3) := by decide +kernel
theorem dX0_clear_5 : decode cX0_clear 5 = .ok (.aload_n 0, 1) := by decide +kernel
theorem dX0_clear_6 : decode cX0_clear 6 = .ok (.iconst 0, 1) := by decide +kernel
theorem dX0_clear_7 : decode cX0_clear 7 = .ok (.putfield 22, 3) := by decide +kernel
theorem dX0_clear_10 : decode cX0_clear 10 = .ok (.return_, 1) := by decide +kernel
def pX0_clear : List (List gm_A) := [[(gm_aload 0), (gm_push (.inl 0)), (gm_putI 0 2), (gm_aload 0), (gm_push (.inl 0)), (gm_putZ 0 3), gm_vret]]
def bpX0_clear : Nat → Nat := fun b => ([0] : List Nat).getD b 0
set_option maxRecDepth 100000 in
theorem tX0_clear {D : va_G} {sz : Nat} {ad : Nat → Nat} {cA : Nat → ClassId} {xs : Int → Int} {Ln : Int} {l : Launch} : gm_SB D sz ad cA xs Ln l gm_mt cX0_clear "LongNoon$Clauses" 1 false 0 bpX0_clear 0 pX0_clear :=
  ⟨gm_cn 1 (gm_m_aload _) (gm_s_aload_n dX0_clear_0 rfl) (
    gm_cn 2 (gm_m_push _) (gm_s_iconst dX0_clear_1) (
    gm_cn 5 (gm_m_putI _ _) (gf_putI_0_2 gw_6 dX0_clear_2) (
    gm_cn 6 (gm_m_aload _) (gm_s_aload_n dX0_clear_5 rfl) (
    gm_cn 7 (gm_m_push _) (gm_s_iconst dX0_clear_6) (
    gm_cn 10 (gm_m_putZ _ _) (gf_putZ_0_3 gw_7 dX0_clear_7) (
    gm_cn 0 gm_m_vret (gm_s_vret dX0_clear_10 rfl 0) (
    trivial))))))), trivial⟩
theorem dX0_addStep_0 : decode cX0_addStep 0 = .ok (.aload_n 0, 1) := by decide +kernel
theorem dX0_addStep_1 : decode cX0_addStep 1 = .ok (.getfield 18, 3) := by decide +kernel
theorem dX0_addStep_4 : decode cX0_addStep 4 = .ok (.aload_n 0, 1) := by decide +kernel
theorem dX0_addStep_5 : decode cX0_addStep 5 = .ok (.getfield 9, 3) := by decide +kernel
theorem dX0_addStep_8 : decode cX0_addStep 8 = .ok (.arraylength, 1) := by decide +kernel
theorem dX0_addStep_9 : decode cX0_addStep 9 = .ok (.if_icmp .lt 5, 3) := by decide +kernel
theorem dX0_addStep_12 : decode cX0_addStep 12 = .ok (.iconst (-1), 1) := by decide +kernel
theorem dX0_addStep_13 : decode cX0_addStep 13 = .ok (.ireturn, 1) := by decide +kernel
theorem dX0_addStep_14 : decode cX0_addStep 14 = .ok (.aload_n 0, 1) := by decide +kernel
theorem dX0_addStep_15 : decode cX0_addStep 15 = .ok (.getfield 9, 3) := by decide +kernel
theorem dX0_addStep_18 : decode cX0_addStep 18 = .ok (.aload_n 0, 1) := by decide +kernel
theorem dX0_addStep_19 : decode cX0_addStep 19 = .ok (.getfield 18, 3) := by decide +kernel
theorem dX0_addStep_22 : decode cX0_addStep 22 = .ok (.iload_n 1, 1) := by decide +kernel
theorem dX0_addStep_23 : decode cX0_addStep 23 = .ok (.iastore, 1) := by decide +kernel
theorem dX0_addStep_24 : decode cX0_addStep 24 = .ok (.aload_n 0, 1) := by decide +kernel
theorem dX0_addStep_25 : decode cX0_addStep 25 = .ok (.getfield 15, 3) := by decide +kernel
theorem dX0_addStep_28 : decode cX0_addStep 28 = .ok (.aload_n 0, 1) := by decide +kernel
theorem dX0_addStep_29 : decode cX0_addStep 29 = .ok (.getfield 18, 3) := by decide +kernel
theorem dX0_addStep_32 : decode cX0_addStep 32 = .ok (.iload_n 2, 1) := by decide +kernel
theorem dX0_addStep_33 : decode cX0_addStep 33 = .ok (.iastore, 1) := by decide +kernel
theorem dX0_addStep_34 : decode cX0_addStep 34 = .ok (.aload_n 0, 1) := by decide +kernel
theorem dX0_addStep_35 : decode cX0_addStep 35 = .ok (.dup, 1) := by decide +kernel
theorem dX0_addStep_36 : decode cX0_addStep 36 = .ok (.getfield 18, 3) := by decide +kernel
theorem dX0_addStep_39 : decode cX0_addStep 39 = .ok (.iconst 1, 1) := by decide +kernel
theorem dX0_addStep_40 : decode cX0_addStep 40 = .ok (.iadd, 1) := by decide +kernel
theorem dX0_addStep_41 : decode cX0_addStep 41 = .ok (.putfield 18, 3) := by decide +kernel
theorem dX0_addStep_44 : decode cX0_addStep 44 = .ok (.aload_n 0, 1) := by decide +kernel
theorem dX0_addStep_45 : decode cX0_addStep 45 = .ok (.getfield 18, 3) := by decide +kernel
theorem dX0_addStep_48 : decode cX0_addStep 48 = .ok (.iconst 1, 1) := by decide +kernel
theorem dX0_addStep_49 : decode cX0_addStep 49 = .ok (.isub, 1) := by decide +kernel
theorem dX0_addStep_50 : decode cX0_addStep 50 = .ok (.ireturn, 1) := by decide +kernel
def pX0_addStep : List (List gm_A) := [[(gm_aload 0), (gm_getI 0 2), (gm_aload 0), (gm_getR 0 0), gm_alen, (gm_clt 1), (gm_push (.inl (-1))), gm_iret],
  [(gm_aload 0), (gm_getR 0 0), (gm_aload 0), (gm_getI 0 2), (gm_iload 1), gm_iast, (gm_aload 0), (gm_getR 0 1), (gm_aload 0), (gm_getI 0 2), (gm_iload 2), gm_iast, (gm_aload 0), gm_dup, (gm_getI 0 2), (gm_push (.inl 1)), (gm_op2 gm_add), (gm_putI 0 2), (gm_aload 0), (gm_getI 0 2), (gm_push (.inl 1)), (gm_op2 gm_sub), gm_iret]]
def bpX0_addStep : Nat → Nat := fun b => ([0, 14] : List Nat).getD b 0
set_option maxRecDepth 100000 in
theorem tX0_addStep {D : va_G} {sz : Nat} {ad : Nat → Nat} {cA : Nat → ClassId} {xs : Int → Int} {Ln : Int} {l : Launch} : gm_SB D sz ad cA xs Ln l gm_mt cX0_addStep "LongNoon$Clauses" 3 false 1 bpX0_addStep 0 pX0_addStep :=
  ⟨gm_cn 1 (gm_m_aload _) (gm_s_aload_n dX0_addStep_0 rfl) (
    gm_cn 4 (gm_m_getI _ _) (gf_getI_0_2 gw_6 dX0_addStep_1) (
    gm_cn 5 (gm_m_aload _) (gm_s_aload_n dX0_addStep_4 rfl) (
    gm_cn 8 (gm_m_getR _ _) (gf_getR_0_0 gw_4 dX0_addStep_5) (
    gm_cn 9 gm_m_alen (gm_s_alen dX0_addStep_8) (
    gm_cn 12 (gm_m_clt _) (gm_s_clt (bpc := bpX0_addStep) (b := 1) dX0_addStep_9 rfl) (
    gm_cn 13 (gm_m_push _) (gm_s_iconst dX0_addStep_12) (
    gm_cn 0 gm_m_iret (gm_s_iret dX0_addStep_13 rfl 0) (
    trivial)))))))),
  gm_cn 15 (gm_m_aload _) (gm_s_aload_n dX0_addStep_14 rfl) (
    gm_cn 18 (gm_m_getR _ _) (gf_getR_0_0 gw_4 dX0_addStep_15) (
    gm_cn 19 (gm_m_aload _) (gm_s_aload_n dX0_addStep_18 rfl) (
    gm_cn 22 (gm_m_getI _ _) (gf_getI_0_2 gw_6 dX0_addStep_19) (
    gm_cn 23 (gm_m_iload _) (gm_s_iload_n dX0_addStep_22 rfl) (
    gm_cn 24 gm_m_iast (gm_s_iast dX0_addStep_23) (
    gm_cn 25 (gm_m_aload _) (gm_s_aload_n dX0_addStep_24 rfl) (
    gm_cn 28 (gm_m_getR _ _) (gf_getR_0_1 gw_5 dX0_addStep_25) (
    gm_cn 29 (gm_m_aload _) (gm_s_aload_n dX0_addStep_28 rfl) (
    gm_cn 32 (gm_m_getI _ _) (gf_getI_0_2 gw_6 dX0_addStep_29) (
    gm_cn 33 (gm_m_iload _) (gm_s_iload_n dX0_addStep_32 rfl) (
    gm_cn 34 gm_m_iast (gm_s_iast dX0_addStep_33) (
    gm_cn 35 (gm_m_aload _) (gm_s_aload_n dX0_addStep_34 rfl) (
    gm_cn 36 gm_m_dup (gm_s_dup dX0_addStep_35) (
    gm_cn 39 (gm_m_getI _ _) (gf_getI_0_2 gw_6 dX0_addStep_36) (
    gm_cn 40 (gm_m_push _) (gm_s_iconst dX0_addStep_39) (
    gm_cn 41 (gm_m_op2 _) (gm_s_iadd dX0_addStep_40) (
    gm_cn 44 (gm_m_putI _ _) (gf_putI_0_2 gw_6 dX0_addStep_41) (
    gm_cn 45 (gm_m_aload _) (gm_s_aload_n dX0_addStep_44 rfl) (
    gm_cn 48 (gm_m_getI _ _) (gf_getI_0_2 gw_6 dX0_addStep_45) (
    gm_cn 49 (gm_m_push _) (gm_s_iconst dX0_addStep_48) (
    gm_cn 50 (gm_m_op2 _) (gm_s_isub dX0_addStep_49) (
    gm_cn 0 gm_m_iret (gm_s_iret dX0_addStep_50 rfl 0) (
    trivial))))))))))))))))))))))), trivial⟩
theorem dX0_endClause_0 : decode cX0_endClause 0 = .ok (.aload_n 0, 1) := by decide +kernel
theorem dX0_endClause_1 : decode cX0_endClause 1 = .ok (.bipush 21, 2) := by decide +kernel
theorem dX0_endClause_3 : decode cX0_endClause 3 = .ok (.iload_n 1, 1) := by decide +kernel
theorem dX0_endClause_4 : decode cX0_endClause 4 = .ok (.invokevirtual 26, 3) := by decide +kernel
theorem dX0_endClause_7 : decode cX0_endClause 7 = .ok (.pop, 1) := by decide +kernel
theorem dX0_endClause_8 : decode cX0_endClause 8 = .ok (.aload_n 0, 1) := by decide +kernel
theorem dX0_endClause_9 : decode cX0_endClause 9 = .ok (.iconst 1, 1) := by decide +kernel
theorem dX0_endClause_10 : decode cX0_endClause 10 = .ok (.putfield 22, 3) := by decide +kernel
theorem dX0_endClause_13 : decode cX0_endClause 13 = .ok (.return_, 1) := by decide +kernel
def pX0_endClause : List (List gm_A) := [[(gm_aload 0), (gm_push (.inl 21)), (gm_iload 1), (gm_vcall 0 2 3), gm_pop1, (gm_aload 0), (gm_push (.inl 1)), (gm_putZ 0 3), gm_vret]]
def bpX0_endClause : Nat → Nat := fun b => ([0] : List Nat).getD b 0
set_option maxRecDepth 100000 in
theorem tX0_endClause {D : va_G} {sz : Nat} {ad : Nat → Nat} {cA : Nat → ClassId} {xs : Int → Int} {Ln : Int} {l : Launch} : gm_SB D sz ad cA xs Ln l gm_mt cX0_endClause "LongNoon$Clauses" 2 false 0 bpX0_endClause 0 pX0_endClause :=
  ⟨gm_cn 1 (gm_m_aload _) (gm_s_aload_n dX0_endClause_0 rfl) (
    gm_cn 3 (gm_m_push _) (gm_s_bipush dX0_endClause_1 rfl) (
    gm_cn 4 (gm_m_iload _) (gm_s_iload_n dX0_endClause_3 rfl) (
    gm_cn 7 (gm_m_vcall _ _ _) (gcl_X0_addStep gw_8 dX0_endClause_4) (
    gm_cn 8 gm_m_pop1 (gm_s_pop dX0_endClause_7) (
    gm_cn 9 (gm_m_aload _) (gm_s_aload_n dX0_endClause_8 rfl) (
    gm_cn 10 (gm_m_push _) (gm_s_iconst dX0_endClause_9) (
    gm_cn 13 (gm_m_putZ _ _) (gf_putZ_0_3 gw_7 dX0_endClause_10) (
    gm_cn 0 gm_m_vret (gm_s_vret dX0_endClause_13 rfl 0) (
    trivial))))))))), trivial⟩
theorem dX0_landHere_0 : decode cX0_landHere 0 = .ok (.iload_n 1, 1) := by decide +kernel
theorem dX0_landHere_1 : decode cX0_landHere 1 = .ok (.ifCond .lt 21, 3) := by decide +kernel
theorem dX0_landHere_4 : decode cX0_landHere 4 = .ok (.iload_n 1, 1) := by decide +kernel
theorem dX0_landHere_5 : decode cX0_landHere 5 = .ok (.aload_n 0, 1) := by decide +kernel
theorem dX0_landHere_6 : decode cX0_landHere 6 = .ok (.getfield 18, 3) := by decide +kernel
theorem dX0_landHere_9 : decode cX0_landHere 9 = .ok (.if_icmp .ge 13, 3) := by decide +kernel
theorem dX0_landHere_12 : decode cX0_landHere 12 = .ok (.aload_n 0, 1) := by decide +kernel
theorem dX0_landHere_13 : decode cX0_landHere 13 = .ok (.getfield 15, 3) := by decide +kernel
theorem dX0_landHere_16 : decode cX0_landHere 16 = .ok (.iload_n 1, 1) := by decide +kernel
theorem dX0_landHere_17 : decode cX0_landHere 17 = .ok (.aload_n 0, 1) := by decide +kernel
theorem dX0_landHere_18 : decode cX0_landHere 18 = .ok (.getfield 18, 3) := by decide +kernel
theorem dX0_landHere_21 : decode cX0_landHere 21 = .ok (.iastore, 1) := by decide +kernel
theorem dX0_landHere_22 : decode cX0_landHere 22 = .ok (.return_, 1) := by decide +kernel
def pX0_landHere : List (List gm_A) := [[(gm_iload 1), (gm_iflt 1), (gm_iload 1), (gm_aload 0), (gm_getI 0 2), (gm_cge 1), (gm_aload 0), (gm_getR 0 1), (gm_iload 1), (gm_aload 0), (gm_getI 0 2), gm_iast, (gm_goto 1)],
  [gm_vret]]
def bpX0_landHere : Nat → Nat := fun b => ([0, 22] : List Nat).getD b 0
set_option maxRecDepth 100000 in
theorem tX0_landHere {D : va_G} {sz : Nat} {ad : Nat → Nat} {cA : Nat → ClassId} {xs : Int → Int} {Ln : Int} {l : Launch} : gm_SB D sz ad cA xs Ln l gm_mt cX0_landHere "LongNoon$Clauses" 2 false 0 bpX0_landHere 0 pX0_landHere :=
  ⟨gm_cn 1 (gm_m_iload _) (gm_s_iload_n dX0_landHere_0 rfl) (
    gm_cn 4 (gm_m_iflt _) (gm_s_iflt (bpc := bpX0_landHere) (b := 1) dX0_landHere_1 rfl) (
    gm_cn 5 (gm_m_iload _) (gm_s_iload_n dX0_landHere_4 rfl) (
    gm_cn 6 (gm_m_aload _) (gm_s_aload_n dX0_landHere_5 rfl) (
    gm_cn 9 (gm_m_getI _ _) (gf_getI_0_2 gw_6 dX0_landHere_6) (
    gm_cn 12 (gm_m_cge _) (gm_s_cge (bpc := bpX0_landHere) (b := 1) dX0_landHere_9 rfl) (
    gm_cn 13 (gm_m_aload _) (gm_s_aload_n dX0_landHere_12 rfl) (
    gm_cn 16 (gm_m_getR _ _) (gf_getR_0_1 gw_5 dX0_landHere_13) (
    gm_cn 17 (gm_m_iload _) (gm_s_iload_n dX0_landHere_16 rfl) (
    gm_cn 18 (gm_m_aload _) (gm_s_aload_n dX0_landHere_17 rfl) (
    gm_cn 21 (gm_m_getI _ _) (gf_getI_0_2 gw_6 dX0_landHere_18) (
    gm_cn 22 gm_m_iast (gm_s_iast dX0_landHere_21) (
    gm_cn 0 (gm_m_goto _) (gm_s_fall (bpc := bpX0_landHere) (b := 1) rfl 0) (
    trivial))))))))))))),
  gm_cn 0 gm_m_vret (gm_s_vret dX0_landHere_22 rfl 0) (
    trivial), trivial⟩
theorem dX0_total_0 : decode cX0_total 0 = .ok (.aload_n 0, 1) := by decide +kernel
theorem dX0_total_1 : decode cX0_total 1 = .ok (.getfield 22, 3) := by decide +kernel
theorem dX0_total_4 : decode cX0_total 4 = .ok (.ifCond .ne 6, 3) := by decide +kernel
theorem dX0_total_7 : decode cX0_total 7 = .ok (.bipush 10, 2) := by decide +kernel
theorem dX0_total_9 : decode cX0_total 9 = .ok (.ireturn, 1) := by decide +kernel
theorem dX0_total_10 : decode cX0_total 10 = .ok (.iconst 0, 1) := by decide +kernel
theorem dX0_total_11 : decode cX0_total 11 = .ok (.istore 4, 2) := by decide +kernel
theorem dX0_total_13 : decode cX0_total 13 = .ok (.iconst 0, 1) := by decide +kernel
theorem dX0_total_14 : decode cX0_total 14 = .ok (.istore 5, 2) := by decide +kernel
theorem dX0_total_16 : decode cX0_total 16 = .ok (.iconst 0, 1) := by decide +kernel
theorem dX0_total_17 : decode cX0_total 17 = .ok (.istore 6, 2) := by decide +kernel
theorem dX0_total_19 : decode cX0_total 19 = .ok (.iconst 0, 1) := by decide +kernel
theorem dX0_total_20 : decode cX0_total 20 = .ok (.istore 7, 2) := by decide +kernel
theorem dX0_total_22 : decode cX0_total 22 = .ok (.iload 7, 2) := by decide +kernel
theorem dX0_total_24 : decode cX0_total 24 = .ok (.aload_n 0, 1) := by decide +kernel
theorem dX0_total_25 : decode cX0_total 25 = .ok (.getfield 9, 3) := by decide +kernel
theorem dX0_total_28 : decode cX0_total 28 = .ok (.arraylength, 1) := by decide +kernel
theorem dX0_total_29 : decode cX0_total 29 = .ok (.if_icmp .ge 135, 3) := by decide +kernel
theorem dX0_total_32 : decode cX0_total 32 = .ok (.iload 6, 2) := by decide +kernel
theorem dX0_total_34 : decode cX0_total 34 = .ok (.ifCond .lt 130, 3) := by decide +kernel
theorem dX0_total_37 : decode cX0_total 37 = .ok (.iload 6, 2) := by decide +kernel
theorem dX0_total_39 : decode cX0_total 39 = .ok (.aload_n 0, 1) := by decide +kernel
theorem dX0_total_40 : decode cX0_total 40 = .ok (.getfield 18, 3) := by decide +kernel
theorem dX0_total_43 : decode cX0_total 43 = .ok (.if_icmp .ge 121, 3) := by decide +kernel
theorem dX0_total_46 : decode cX0_total 46 = .ok (.aload_n 0, 1) := by decide +kernel
theorem dX0_total_47 : decode cX0_total 47 = .ok (.getfield 9, 3) := by decide +kernel
theorem dX0_total_50 : decode cX0_total 50 = .ok (.iload 6, 2) := by decide +kernel
theorem dX0_total_52 : decode cX0_total 52 = .ok (.iaload, 1) := by decide +kernel
theorem dX0_total_53 : decode cX0_total 53 = .ok (.istore 8, 2) := by decide +kernel
theorem dX0_total_55 : decode cX0_total 55 = .ok (.aload_n 0, 1) := by decide +kernel
theorem dX0_total_56 : decode cX0_total 56 = .ok (.getfield 15, 3) := by decide +kernel
theorem dX0_total_59 : decode cX0_total 59 = .ok (.iload 6, 2) := by decide +kernel
theorem dX0_total_61 : decode cX0_total 61 = .ok (.iaload, 1) := by decide +kernel
theorem dX0_total_62 : decode cX0_total 62 = .ok (.istore 9, 2) := by decide +kernel
theorem dX0_total_64 : decode cX0_total 64 = .ok (.iinc 6 1, 3) := by decide +kernel
theorem dX0_total_67 : decode cX0_total 67 = .ok (.iload 8, 2) := by decide +kernel
theorem dX0_total_69 : decode cX0_total 69 = .ok (.bipush 18, 2) := by decide +kernel
theorem dX0_total_71 : decode cX0_total 71 = .ok (.if_icmp .ge 18, 3) := by decide +kernel
theorem dX0_total_74 : decode cX0_total 74 = .ok (.iload 8, 2) := by decide +kernel
theorem dX0_total_76 : decode cX0_total 76 = .ok (.iload 9, 2) := by decide +kernel
theorem dX0_total_78 : decode cX0_total 78 = .ok (.aload_n 1, 1) := by decide +kernel
theorem dX0_total_79 : decode cX0_total 79 = .ok (.iload_n 2, 1) := by decide +kernel
theorem dX0_total_80 : decode cX0_total 80 = .ok (.iload_n 3, 1) := by decide +kernel
theorem dX0_total_81 : decode cX0_total 81 = .ok (.invokestatic 30, 3) := by decide +kernel
theorem dX0_total_84 : decode cX0_total 84 = .ok (.istore 5, 2) := by decide +kernel
theorem dX0_total_86 : decode cX0_total 86 = .ok (.goto 72, 3) := by decide +kernel
theorem dX0_total_89 : decode cX0_total 89 = .ok (.iload 8, 2) := by decide +kernel
theorem dX0_total_91 : decode cX0_total 91 = .ok (.bipush 18, 2) := by decide +kernel
theorem dX0_total_93 : decode cX0_total 93 = .ok (.if_icmp .ne 18, 3) := by decide +kernel
theorem dX0_total_96 : decode cX0_total 96 = .ok (.iload 5, 2) := by decide +kernel
theorem dX0_total_98 : decode cX0_total 98 = .ok (.ifCond .ne 7, 3) := by decide +kernel
theorem dX0_total_101 : decode cX0_total 101 = .ok (.iconst 1, 1) := by decide +kernel
theorem dX0_total_102 : decode cX0_total 102 = .ok (.goto 4, 3) := by decide +kernel
theorem dX0_total_105 : decode cX0_total 105 = .ok (.iconst 0, 1) := by decide +kernel
theorem dX0_total_106 : decode cX0_total 106 = .ok (.istore 5, 2) := by decide +kernel
theorem dX0_total_108 : decode cX0_total 108 = .ok (.goto 50, 3) := by decide +kernel
theorem dX0_total_111 : decode cX0_total 111 = .ok (.iload 8, 2) := by decide +kernel
theorem dX0_total_113 : decode cX0_total 113 = .ok (.bipush 21, 2) := by decide +kernel
theorem dX0_total_115 : decode cX0_total 115 = .ok (.if_icmp .ne 22, 3) := by decide +kernel
theorem dX0_total_118 : decode cX0_total 118 = .ok (.iload 4, 2) := by decide +kernel
theorem dX0_total_120 : decode cX0_total 120 = .ok (.iload 5, 2) := by decide +kernel
theorem dX0_total_122 : decode cX0_total 122 = .ok (.ifCond .eq 8, 3) := by decide +kernel
theorem dX0_total_125 : decode cX0_total 125 = .ok (.iload 9, 2) := by decide +kernel
theorem dX0_total_127 : decode cX0_total 127 = .ok (.goto 4, 3) := by decide +kernel
theorem dX0_total_130 : decode cX0_total 130 = .ok (.iconst 0, 1) := by decide +kernel
theorem dX0_total_131 : decode cX0_total 131 = .ok (.iadd, 1) := by decide +kernel
theorem dX0_total_132 : decode cX0_total 132 = .ok (.istore 4, 2) := by decide +kernel
theorem dX0_total_134 : decode cX0_total 134 = .ok (.goto 24, 3) := by decide +kernel
theorem dX0_total_137 : decode cX0_total 137 = .ok (.iload 5, 2) := by decide +kernel
theorem dX0_total_139 : decode cX0_total 139 = .ok (.iload 8, 2) := by decide +kernel
theorem dX0_total_141 : decode cX0_total 141 = .ok (.bipush 19, 2) := by decide +kernel
theorem dX0_total_143 : decode cX0_total 143 = .ok (.if_icmp .ne 7, 3) := by decide +kernel
theorem dX0_total_146 : decode cX0_total 146 = .ok (.iconst 1, 1) := by decide +kernel
theorem dX0_total_147 : decode cX0_total 147 = .ok (.goto 4, 3) := by decide +kernel
theorem dX0_total_150 : decode cX0_total 150 = .ok (.iconst 0, 1) := by decide +kernel
theorem dX0_total_151 : decode cX0_total 151 = .ok (.if_icmp .ne 7, 3) := by decide +kernel
theorem dX0_total_154 : decode cX0_total 154 = .ok (.iload 9, 2) := by decide +kernel
theorem dX0_total_156 : decode cX0_total 156 = .ok (.istore 6, 2) := by decide +kernel
theorem dX0_total_158 : decode cX0_total 158 = .ok (.iinc 7 1, 3) := by decide +kernel
theorem dX0_total_161 : decode cX0_total 161 = .ok (.goto (-139), 3) := by decide +kernel
theorem dX0_total_164 : decode cX0_total 164 = .ok (.iload 4, 2) := by decide +kernel
theorem dX0_total_166 : decode cX0_total 166 = .ok (.ireturn, 1) := by decide +kernel
def pX0_total : List (List gm_A) := [[(gm_aload 0), (gm_getI 0 3), (gm_ifne 1), (gm_push (.inl 10)), gm_iret],
  [(gm_push (.inl 0)), (gm_istore 4), (gm_push (.inl 0)), (gm_istore 5), (gm_push (.inl 0)), (gm_istore 6), (gm_push (.inl 0)), (gm_istore 7), (gm_goto 2)],
  [(gm_iload 7), (gm_aload 0), (gm_getR 0 0), gm_alen, (gm_cge 13), (gm_iload 6), (gm_iflt 13), (gm_iload 6), (gm_aload 0), (gm_getI 0 2), (gm_cge 13), (gm_aload 0), (gm_getR 0 0), (gm_iload 6), gm_iald, (gm_istore 8), (gm_aload 0), (gm_getR 0 1), (gm_iload 6), gm_iald, (gm_istore 9), (gm_iinc 6 1), (gm_iload 8), (gm_push (.inl 18)), (gm_cge 3), (gm_iload 8), (gm_iload 9), (gm_aload 1), (gm_iload 2), (gm_iload 3), (gm_scall 6 5), (gm_istore 5), (gm_goto 12)],
  [(gm_iload 8), (gm_push (.inl 18)), (gm_cne 6), (gm_iload 5), (gm_ifne 4), (gm_push (.inl 1)), (gm_goto 5)],
  [(gm_push (.inl 0)), (gm_goto 5)],
  [(gm_istore 5), (gm_goto 12)],
  [(gm_iload 8), (gm_push (.inl 21)), (gm_cne 9), (gm_iload 4), (gm_iload 5), (gm_ifeq 7), (gm_iload 9), (gm_goto 8)],
  [(gm_push (.inl 0)), (gm_goto 8)],
  [(gm_op2 gm_add), (gm_istore 4), (gm_goto 12)],
  [(gm_iload 5), (gm_iload 8), (gm_push (.inl 19)), (gm_cne 10), (gm_push (.inl 1)), (gm_goto 11)],
  [(gm_push (.inl 0)), (gm_goto 11)],
  [(gm_cne 12), (gm_iload 9), (gm_istore 6), (gm_goto 12)],
  [(gm_iinc 7 1), (gm_goto 2)],
  [(gm_iload 4), gm_iret]]
def bpX0_total : Nat → Nat := fun b => ([0, 10, 22, 89, 105, 106, 111, 130, 131, 137, 150, 151, 158, 164] : List Nat).getD b 0
set_option maxRecDepth 100000 in
theorem tX0_total {D : va_G} {sz : Nat} {ad : Nat → Nat} {cA : Nat → ClassId} {xs : Int → Int} {Ln : Int} {l : Launch} : gm_SB D sz ad cA xs Ln l gm_mt cX0_total "LongNoon$Clauses" 10 false 1 bpX0_total 0 pX0_total :=
  ⟨gm_cn 1 (gm_m_aload _) (gm_s_aload_n dX0_total_0 rfl) (
    gm_cn 4 (gm_m_getI _ _) (gf_getI_0_3 gw_7 dX0_total_1) (
    gm_cn 7 (gm_m_ifne _) (gm_s_ifne (bpc := bpX0_total) (b := 1) dX0_total_4 rfl) (
    gm_cn 9 (gm_m_push _) (gm_s_bipush dX0_total_7 rfl) (
    gm_cn 0 gm_m_iret (gm_s_iret dX0_total_9 rfl 0) (
    trivial))))),
  gm_cn 11 (gm_m_push _) (gm_s_iconst dX0_total_10) (
    gm_cn 13 (gm_m_istore _) (gm_s_istore dX0_total_11 (by decide)) (
    gm_cn 14 (gm_m_push _) (gm_s_iconst dX0_total_13) (
    gm_cn 16 (gm_m_istore _) (gm_s_istore dX0_total_14 (by decide)) (
    gm_cn 17 (gm_m_push _) (gm_s_iconst dX0_total_16) (
    gm_cn 19 (gm_m_istore _) (gm_s_istore dX0_total_17 (by decide)) (
    gm_cn 20 (gm_m_push _) (gm_s_iconst dX0_total_19) (
    gm_cn 22 (gm_m_istore _) (gm_s_istore dX0_total_20 (by decide)) (
    gm_cn 0 (gm_m_goto _) (gm_s_fall (bpc := bpX0_total) (b := 2) rfl 0) (
    trivial))))))))),
  gm_cn 24 (gm_m_iload _) (gm_s_iload dX0_total_22) (
    gm_cn 25 (gm_m_aload _) (gm_s_aload_n dX0_total_24 rfl) (
    gm_cn 28 (gm_m_getR _ _) (gf_getR_0_0 gw_4 dX0_total_25) (
    gm_cn 29 gm_m_alen (gm_s_alen dX0_total_28) (
    gm_cn 32 (gm_m_cge _) (gm_s_cge (bpc := bpX0_total) (b := 13) dX0_total_29 rfl) (
    gm_cn 34 (gm_m_iload _) (gm_s_iload dX0_total_32) (
    gm_cn 37 (gm_m_iflt _) (gm_s_iflt (bpc := bpX0_total) (b := 13) dX0_total_34 rfl) (
    gm_cn 39 (gm_m_iload _) (gm_s_iload dX0_total_37) (
    gm_cn 40 (gm_m_aload _) (gm_s_aload_n dX0_total_39 rfl) (
    gm_cn 43 (gm_m_getI _ _) (gf_getI_0_2 gw_6 dX0_total_40) (
    gm_cn 46 (gm_m_cge _) (gm_s_cge (bpc := bpX0_total) (b := 13) dX0_total_43 rfl) (
    gm_cn 47 (gm_m_aload _) (gm_s_aload_n dX0_total_46 rfl) (
    gm_cn 50 (gm_m_getR _ _) (gf_getR_0_0 gw_4 dX0_total_47) (
    gm_cn 52 (gm_m_iload _) (gm_s_iload dX0_total_50) (
    gm_cn 53 gm_m_iald (gm_s_iald dX0_total_52) (
    gm_cn 55 (gm_m_istore _) (gm_s_istore dX0_total_53 (by decide)) (
    gm_cn 56 (gm_m_aload _) (gm_s_aload_n dX0_total_55 rfl) (
    gm_cn 59 (gm_m_getR _ _) (gf_getR_0_1 gw_5 dX0_total_56) (
    gm_cn 61 (gm_m_iload _) (gm_s_iload dX0_total_59) (
    gm_cn 62 gm_m_iald (gm_s_iald dX0_total_61) (
    gm_cn 64 (gm_m_istore _) (gm_s_istore dX0_total_62 (by decide)) (
    gm_cn 67 (gm_m_iinc _ _) (gm_s_iinc dX0_total_64 (by decide)) (
    gm_cn 69 (gm_m_iload _) (gm_s_iload dX0_total_67) (
    gm_cn 71 (gm_m_push _) (gm_s_bipush dX0_total_69 rfl) (
    gm_cn 74 (gm_m_cge _) (gm_s_cge (bpc := bpX0_total) (b := 3) dX0_total_71 rfl) (
    gm_cn 76 (gm_m_iload _) (gm_s_iload dX0_total_74) (
    gm_cn 78 (gm_m_iload _) (gm_s_iload dX0_total_76) (
    gm_cn 79 (gm_m_aload _) (gm_s_aload_n dX0_total_78 rfl) (
    gm_cn 80 (gm_m_iload _) (gm_s_iload_n dX0_total_79 rfl) (
    gm_cn 81 (gm_m_iload _) (gm_s_iload_n dX0_total_80 rfl) (
    gm_cn 84 (gm_m_scall _ _) (gcl_X0_passes gw_9 dX0_total_81) (
    gm_cn 86 (gm_m_istore _) (gm_s_istore dX0_total_84 (by decide)) (
    gm_cn 0 (gm_m_goto _) (gm_s_goto (bpc := bpX0_total) (b := 12) dX0_total_86 rfl 0) (
    trivial))))))))))))))))))))))))))))))))),
  gm_cn 91 (gm_m_iload _) (gm_s_iload dX0_total_89) (
    gm_cn 93 (gm_m_push _) (gm_s_bipush dX0_total_91 rfl) (
    gm_cn 96 (gm_m_cne _) (gm_s_cne (bpc := bpX0_total) (b := 6) dX0_total_93 rfl) (
    gm_cn 98 (gm_m_iload _) (gm_s_iload dX0_total_96) (
    gm_cn 101 (gm_m_ifne _) (gm_s_ifne (bpc := bpX0_total) (b := 4) dX0_total_98 rfl) (
    gm_cn 102 (gm_m_push _) (gm_s_iconst dX0_total_101) (
    gm_cn 0 (gm_m_goto _) (gm_s_goto (bpc := bpX0_total) (b := 5) dX0_total_102 rfl 0) (
    trivial))))))),
  gm_cn 106 (gm_m_push _) (gm_s_iconst dX0_total_105) (
    gm_cn 0 (gm_m_goto _) (gm_s_fall (bpc := bpX0_total) (b := 5) rfl 0) (
    trivial)),
  gm_cn 108 (gm_m_istore _) (gm_s_istore dX0_total_106 (by decide)) (
    gm_cn 0 (gm_m_goto _) (gm_s_goto (bpc := bpX0_total) (b := 12) dX0_total_108 rfl 0) (
    trivial)),
  gm_cn 113 (gm_m_iload _) (gm_s_iload dX0_total_111) (
    gm_cn 115 (gm_m_push _) (gm_s_bipush dX0_total_113 rfl) (
    gm_cn 118 (gm_m_cne _) (gm_s_cne (bpc := bpX0_total) (b := 9) dX0_total_115 rfl) (
    gm_cn 120 (gm_m_iload _) (gm_s_iload dX0_total_118) (
    gm_cn 122 (gm_m_iload _) (gm_s_iload dX0_total_120) (
    gm_cn 125 (gm_m_ifeq _) (gm_s_ifeq (bpc := bpX0_total) (b := 7) dX0_total_122 rfl) (
    gm_cn 127 (gm_m_iload _) (gm_s_iload dX0_total_125) (
    gm_cn 0 (gm_m_goto _) (gm_s_goto (bpc := bpX0_total) (b := 8) dX0_total_127 rfl 0) (
    trivial)))))))),
  gm_cn 131 (gm_m_push _) (gm_s_iconst dX0_total_130) (
    gm_cn 0 (gm_m_goto _) (gm_s_fall (bpc := bpX0_total) (b := 8) rfl 0) (
    trivial)),
  gm_cn 132 (gm_m_op2 _) (gm_s_iadd dX0_total_131) (
    gm_cn 134 (gm_m_istore _) (gm_s_istore dX0_total_132 (by decide)) (
    gm_cn 0 (gm_m_goto _) (gm_s_goto (bpc := bpX0_total) (b := 12) dX0_total_134 rfl 0) (
    trivial))),
  gm_cn 139 (gm_m_iload _) (gm_s_iload dX0_total_137) (
    gm_cn 141 (gm_m_iload _) (gm_s_iload dX0_total_139) (
    gm_cn 143 (gm_m_push _) (gm_s_bipush dX0_total_141 rfl) (
    gm_cn 146 (gm_m_cne _) (gm_s_cne (bpc := bpX0_total) (b := 10) dX0_total_143 rfl) (
    gm_cn 147 (gm_m_push _) (gm_s_iconst dX0_total_146) (
    gm_cn 0 (gm_m_goto _) (gm_s_goto (bpc := bpX0_total) (b := 11) dX0_total_147 rfl 0) (
    trivial)))))),
  gm_cn 151 (gm_m_push _) (gm_s_iconst dX0_total_150) (
    gm_cn 0 (gm_m_goto _) (gm_s_fall (bpc := bpX0_total) (b := 11) rfl 0) (
    trivial)),
  gm_cn 154 (gm_m_cne _) (gm_s_cne (bpc := bpX0_total) (b := 12) dX0_total_151 rfl) (
    gm_cn 156 (gm_m_iload _) (gm_s_iload dX0_total_154) (
    gm_cn 158 (gm_m_istore _) (gm_s_istore dX0_total_156 (by decide)) (
    gm_cn 0 (gm_m_goto _) (gm_s_fall (bpc := bpX0_total) (b := 12) rfl 0) (
    trivial)))),
  gm_cn 161 (gm_m_iinc _ _) (gm_s_iinc dX0_total_158 (by decide)) (
    gm_cn 0 (gm_m_goto _) (gm_s_goto (bpc := bpX0_total) (b := 2) dX0_total_161 rfl 0) (
    trivial)),
  gm_cn 166 (gm_m_iload _) (gm_s_iload dX0_total_164) (
    gm_cn 0 gm_m_iret (gm_s_iret dX0_total_166 rfl 0) (
    trivial)), trivial⟩
theorem dX0_passes_0 : decode cX0_passes 0 = .ok (.iload_n 0, 1) := by decide +kernel
theorem dX0_passes_1 : decode cX0_passes 1 = .ok (.iconst 3, 1) := by decide +kernel
theorem dX0_passes_2 : decode cX0_passes 2 = .ok (.idiv, 1) := by decide +kernel
theorem dX0_passes_3 : decode cX0_passes 3 = .ok (.tableswitch 78 0 4 #[33, 42, 51, 60, 66], 33) := by decide +kernel
theorem dX0_passes_36 : decode cX0_passes 36 = .ok (.aload_n 2, 1) := by decide +kernel
theorem dX0_passes_37 : decode cX0_passes 37 = .ok (.getfield 34, 3) := by decide +kernel
theorem dX0_passes_40 : decode cX0_passes 40 = .ok (.istore 5, 2) := by decide +kernel
theorem dX0_passes_42 : decode cX0_passes 42 = .ok (.goto 46, 3) := by decide +kernel
theorem dX0_passes_45 : decode cX0_passes 45 = .ok (.aload_n 2, 1) := by decide +kernel
theorem dX0_passes_46 : decode cX0_passes 46 = .ok (.getfield 39, 3) := by decide +kernel
theorem dX0_passes_49 : decode cX0_passes 49 = .ok (.istore 5, 2) := by decide +kernel
theorem dX0_passes_51 : decode cX0_passes 51 = .ok (.goto 37, 3) := by decide +kernel
theorem dX0_passes_54 : decode cX0_passes 54 = .ok (.aload_n 2, 1) := by decide +kernel
theorem dX0_passes_55 : decode cX0_passes 55 = .ok (.getfield 42, 3) := by decide +kernel
theorem dX0_passes_58 : decode cX0_passes 58 = .ok (.istore 5, 2) := by decide +kernel
theorem dX0_passes_60 : decode cX0_passes 60 = .ok (.goto 28, 3) := by decide +kernel
theorem dX0_passes_63 : decode cX0_passes 63 = .ok (.iload_n 3, 1) := by decide +kernel
theorem dX0_passes_64 : decode cX0_passes 64 = .ok (.istore 5, 2) := by decide +kernel
theorem dX0_passes_66 : decode cX0_passes 66 = .ok (.goto 22, 3) := by decide +kernel
theorem dX0_passes_69 : decode cX0_passes 69 = .ok (.aload_n 2, 1) := by decide +kernel
theorem dX0_passes_70 : decode cX0_passes 70 = .ok (.getfield 45, 3) := by decide +kernel
theorem dX0_passes_73 : decode cX0_passes 73 = .ok (.bipush 10, 2) := by decide +kernel
theorem dX0_passes_75 : decode cX0_passes 75 = .ok (.idiv, 1) := by decide +kernel
theorem dX0_passes_76 : decode cX0_passes 76 = .ok (.istore 5, 2) := by decide +kernel
theorem dX0_passes_78 : decode cX0_passes 78 = .ok (.goto 10, 3) := by decide +kernel
theorem dX0_passes_81 : decode cX0_passes 81 = .ok (.iload 4, 2) := by decide +kernel
theorem dX0_passes_83 : decode cX0_passes 83 = .ok (.bipush 10, 2) := by decide +kernel
theorem dX0_passes_85 : decode cX0_passes 85 = .ok (.idiv, 1) := by decide +kernel
theorem dX0_passes_86 : decode cX0_passes 86 = .ok (.istore 5, 2) := by decide +kernel
theorem dX0_passes_88 : decode cX0_passes 88 = .ok (.iload_n 0, 1) := by decide +kernel
theorem dX0_passes_89 : decode cX0_passes 89 = .ok (.iconst 3, 1) := by decide +kernel
theorem dX0_passes_90 : decode cX0_passes 90 = .ok (.irem, 1) := by decide +kernel
theorem dX0_passes_91 : decode cX0_passes 91 = .ok (.lookupswitch 49 #[(0, 25), (1, 37)], 25) := by decide +kernel
theorem dX0_passes_116 : decode cX0_passes 116 = .ok (.iload 5, 2) := by decide +kernel
theorem dX0_passes_118 : decode cX0_passes 118 = .ok (.iload_n 1, 1) := by decide +kernel
theorem dX0_passes_119 : decode cX0_passes 119 = .ok (.if_icmp .ge 7, 3) := by decide +kernel
theorem dX0_passes_122 : decode cX0_passes 122 = .ok (.iconst 1, 1) := by decide +kernel
theorem dX0_passes_123 : decode cX0_passes 123 = .ok (.goto 4, 3) := by decide +kernel
theorem dX0_passes_126 : decode cX0_passes 126 = .ok (.iconst 0, 1) := by decide +kernel
theorem dX0_passes_127 : decode cX0_passes 127 = .ok (.ireturn, 1) := by decide +kernel
theorem dX0_passes_128 : decode cX0_passes 128 = .ok (.iload 5, 2) := by decide +kernel
theorem dX0_passes_130 : decode cX0_passes 130 = .ok (.iload_n 1, 1) := by decide +kernel
theorem dX0_passes_131 : decode cX0_passes 131 = .ok (.if_icmp .ne 7, 3) := by decide +kernel
theorem dX0_passes_134 : decode cX0_passes 134 = .ok (.iconst 1, 1) := by decide +kernel
theorem dX0_passes_135 : decode cX0_passes 135 = .ok (.goto 4, 3) := by decide +kernel
theorem dX0_passes_138 : decode cX0_passes 138 = .ok (.iconst 0, 1) := by decide +kernel
theorem dX0_passes_139 : decode cX0_passes 139 = .ok (.ireturn, 1) := by decide +kernel
theorem dX0_passes_140 : decode cX0_passes 140 = .ok (.iload 5, 2) := by decide +kernel
theorem dX0_passes_142 : decode cX0_passes 142 = .ok (.iload_n 1, 1) := by decide +kernel
theorem dX0_passes_143 : decode cX0_passes 143 = .ok (.if_icmp .le 7, 3) := by decide +kernel
theorem dX0_passes_146 : decode cX0_passes 146 = .ok (.iconst 1, 1) := by decide +kernel
theorem dX0_passes_147 : decode cX0_passes 147 = .ok (.goto 4, 3) := by decide +kernel
theorem dX0_passes_150 : decode cX0_passes 150 = .ok (.iconst 0, 1) := by decide +kernel
theorem dX0_passes_151 : decode cX0_passes 151 = .ok (.ireturn, 1) := by decide +kernel
def pX0_passes : List (List gm_A) := [[(gm_iload 0), (gm_push (.inl 3)), (gm_quo gm_div), (gm_switch [(0, 1), (1, 2), (2, 3), (3, 4), (4, 5)] 6)],
  [(gm_aload 2), (gm_getI 2 200), (gm_istore 5), (gm_goto 7)],
  [(gm_aload 2), (gm_getI 2 201), (gm_istore 5), (gm_goto 7)],
  [(gm_aload 2), (gm_getI 2 202), (gm_istore 5), (gm_goto 7)],
  [(gm_iload 3), (gm_istore 5), (gm_goto 7)],
  [(gm_aload 2), (gm_getI 2 203), (gm_push (.inl 10)), (gm_quo gm_div), (gm_istore 5), (gm_goto 7)],
  [(gm_iload 4), (gm_push (.inl 10)), (gm_quo gm_div), (gm_istore 5), (gm_goto 7)],
  [(gm_iload 0), (gm_push (.inl 3)), (gm_quo gm_rem), (gm_switch [(0, 8), (1, 11)] 14)],
  [(gm_iload 5), (gm_iload 1), (gm_cge 9), (gm_push (.inl 1)), (gm_goto 10)],
  [(gm_push (.inl 0)), (gm_goto 10)],
  [gm_zret],
  [(gm_iload 5), (gm_iload 1), (gm_cne 12), (gm_push (.inl 1)), (gm_goto 13)],
  [(gm_push (.inl 0)), (gm_goto 13)],
  [gm_zret],
  [(gm_iload 5), (gm_iload 1), (gm_cle 15), (gm_push (.inl 1)), (gm_goto 16)],
  [(gm_push (.inl 0)), (gm_goto 16)],
  [gm_zret]]
def bpX0_passes : Nat → Nat := fun b => ([0, 36, 45, 54, 63, 69, 81, 88, 116, 126, 127, 128, 138, 139, 140, 150, 151] : List Nat).getD b 0
set_option maxRecDepth 100000 in
theorem tX0_passes {D : va_G} {sz : Nat} {ad : Nat → Nat} {cA : Nat → ClassId} {xs : Int → Int} {Ln : Int} {l : Launch} : gm_SB D sz ad cA xs Ln l gm_mt cX0_passes "LongNoon$Clauses" 6 false 2 bpX0_passes 0 pX0_passes :=
  ⟨gm_cn 1 (gm_m_iload _) (gm_s_iload_n dX0_passes_0 rfl) (
    gm_cn 2 (gm_m_push _) (gm_s_iconst dX0_passes_1) (
    gm_cn 3 (gm_m_quo _) (gm_s_idiv dX0_passes_2) (
    gm_cn 0 (gm_m_switch _ _) (gm_s_table (bpc := bpX0_passes) (ps := [(0, 1), (1, 2), (2, 3), (3, 4), (4, 5)]) (d := 6) dX0_passes_3 rfl rfl rfl 0) (
    trivial)))),
  gm_cn 37 (gm_m_aload _) (gm_s_aload_n dX0_passes_36 rfl) (
    gm_cn 40 (gm_m_getI _ _) (gf_getI_2_0 gw_10 dX0_passes_37) (
    gm_cn 42 (gm_m_istore _) (gm_s_istore dX0_passes_40 (by decide)) (
    gm_cn 0 (gm_m_goto _) (gm_s_goto (bpc := bpX0_passes) (b := 7) dX0_passes_42 rfl 0) (
    trivial)))),
  gm_cn 46 (gm_m_aload _) (gm_s_aload_n dX0_passes_45 rfl) (
    gm_cn 49 (gm_m_getI _ _) (gf_getI_2_1 gw_11 dX0_passes_46) (
    gm_cn 51 (gm_m_istore _) (gm_s_istore dX0_passes_49 (by decide)) (
    gm_cn 0 (gm_m_goto _) (gm_s_goto (bpc := bpX0_passes) (b := 7) dX0_passes_51 rfl 0) (
    trivial)))),
  gm_cn 55 (gm_m_aload _) (gm_s_aload_n dX0_passes_54 rfl) (
    gm_cn 58 (gm_m_getI _ _) (gf_getI_2_2 gw_12 dX0_passes_55) (
    gm_cn 60 (gm_m_istore _) (gm_s_istore dX0_passes_58 (by decide)) (
    gm_cn 0 (gm_m_goto _) (gm_s_goto (bpc := bpX0_passes) (b := 7) dX0_passes_60 rfl 0) (
    trivial)))),
  gm_cn 64 (gm_m_iload _) (gm_s_iload_n dX0_passes_63 rfl) (
    gm_cn 66 (gm_m_istore _) (gm_s_istore dX0_passes_64 (by decide)) (
    gm_cn 0 (gm_m_goto _) (gm_s_goto (bpc := bpX0_passes) (b := 7) dX0_passes_66 rfl 0) (
    trivial))),
  gm_cn 70 (gm_m_aload _) (gm_s_aload_n dX0_passes_69 rfl) (
    gm_cn 73 (gm_m_getI _ _) (gf_getI_2_3 gw_13 dX0_passes_70) (
    gm_cn 75 (gm_m_push _) (gm_s_bipush dX0_passes_73 rfl) (
    gm_cn 76 (gm_m_quo _) (gm_s_idiv dX0_passes_75) (
    gm_cn 78 (gm_m_istore _) (gm_s_istore dX0_passes_76 (by decide)) (
    gm_cn 0 (gm_m_goto _) (gm_s_goto (bpc := bpX0_passes) (b := 7) dX0_passes_78 rfl 0) (
    trivial)))))),
  gm_cn 83 (gm_m_iload _) (gm_s_iload dX0_passes_81) (
    gm_cn 85 (gm_m_push _) (gm_s_bipush dX0_passes_83 rfl) (
    gm_cn 86 (gm_m_quo _) (gm_s_idiv dX0_passes_85) (
    gm_cn 88 (gm_m_istore _) (gm_s_istore dX0_passes_86 (by decide)) (
    gm_cn 0 (gm_m_goto _) (gm_s_fall (bpc := bpX0_passes) (b := 7) rfl 0) (
    trivial))))),
  gm_cn 89 (gm_m_iload _) (gm_s_iload_n dX0_passes_88 rfl) (
    gm_cn 90 (gm_m_push _) (gm_s_iconst dX0_passes_89) (
    gm_cn 91 (gm_m_quo _) (gm_s_irem dX0_passes_90) (
    gm_cn 0 (gm_m_switch _ _) (gm_s_look (bpc := bpX0_passes) (ps := [(0, 8), (1, 11)]) (d := 14) dX0_passes_91 rfl rfl rfl 0) (
    trivial)))),
  gm_cn 118 (gm_m_iload _) (gm_s_iload dX0_passes_116) (
    gm_cn 119 (gm_m_iload _) (gm_s_iload_n dX0_passes_118 rfl) (
    gm_cn 122 (gm_m_cge _) (gm_s_cge (bpc := bpX0_passes) (b := 9) dX0_passes_119 rfl) (
    gm_cn 123 (gm_m_push _) (gm_s_iconst dX0_passes_122) (
    gm_cn 0 (gm_m_goto _) (gm_s_goto (bpc := bpX0_passes) (b := 10) dX0_passes_123 rfl 0) (
    trivial))))),
  gm_cn 127 (gm_m_push _) (gm_s_iconst dX0_passes_126) (
    gm_cn 0 (gm_m_goto _) (gm_s_fall (bpc := bpX0_passes) (b := 10) rfl 0) (
    trivial)),
  gm_cn 0 gm_m_zret (gm_s_zret dX0_passes_127 rfl 0) (
    trivial),
  gm_cn 130 (gm_m_iload _) (gm_s_iload dX0_passes_128) (
    gm_cn 131 (gm_m_iload _) (gm_s_iload_n dX0_passes_130 rfl) (
    gm_cn 134 (gm_m_cne _) (gm_s_cne (bpc := bpX0_passes) (b := 12) dX0_passes_131 rfl) (
    gm_cn 135 (gm_m_push _) (gm_s_iconst dX0_passes_134) (
    gm_cn 0 (gm_m_goto _) (gm_s_goto (bpc := bpX0_passes) (b := 13) dX0_passes_135 rfl 0) (
    trivial))))),
  gm_cn 139 (gm_m_push _) (gm_s_iconst dX0_passes_138) (
    gm_cn 0 (gm_m_goto _) (gm_s_fall (bpc := bpX0_passes) (b := 13) rfl 0) (
    trivial)),
  gm_cn 0 gm_m_zret (gm_s_zret dX0_passes_139 rfl 0) (
    trivial),
  gm_cn 142 (gm_m_iload _) (gm_s_iload dX0_passes_140) (
    gm_cn 143 (gm_m_iload _) (gm_s_iload_n dX0_passes_142 rfl) (
    gm_cn 146 (gm_m_cle _) (gm_s_cle (bpc := bpX0_passes) (b := 15) dX0_passes_143 rfl) (
    gm_cn 147 (gm_m_push _) (gm_s_iconst dX0_passes_146) (
    gm_cn 0 (gm_m_goto _) (gm_s_goto (bpc := bpX0_passes) (b := 16) dX0_passes_147 rfl 0) (
    trivial))))),
  gm_cn 151 (gm_m_push _) (gm_s_iconst dX0_passes_150) (
    gm_cn 0 (gm_m_goto _) (gm_s_fall (bpc := bpX0_passes) (b := 16) rfl 0) (
    trivial)),
  gm_cn 0 gm_m_zret (gm_s_zret dX0_passes_151 rfl 0) (
    trivial), trivial⟩
theorem dX1_init_0 : decode cX1_init 0 = .ok (.aload_n 0, 1) := by decide +kernel
theorem dX1_init_1 : decode cX1_init 1 = .ok (.invokespecial 1, 3) := by decide +kernel
theorem dX1_init_4 : decode cX1_init 4 = .ok (.aload_n 0, 1) := by decide +kernel
theorem dX1_init_5 : decode cX1_init 5 = .ok (.new 7, 3) := by decide +kernel
theorem dX1_init_8 : decode cX1_init 8 = .ok (.dup, 1) := by decide +kernel
theorem dX1_init_9 : decode cX1_init 9 = .ok (.invokespecial 9, 3) := by decide +kernel
theorem dX1_init_12 : decode cX1_init 12 = .ok (.putfield 10, 3) := by decide +kernel
theorem dX1_init_15 : decode cX1_init 15 = .ok (.aload_n 0, 1) := by decide +kernel
theorem dX1_init_16 : decode cX1_init 16 = .ok (.new 7, 3) := by decide +kernel
theorem dX1_init_19 : decode cX1_init 19 = .ok (.dup, 1) := by decide +kernel
theorem dX1_init_20 : decode cX1_init 20 = .ok (.invokespecial 9, 3) := by decide +kernel
theorem dX1_init_23 : decode cX1_init 23 = .ok (.putfield 16, 3) := by decide +kernel
theorem dX1_init_26 : decode cX1_init 26 = .ok (.aload_n 0, 1) := by decide +kernel
theorem dX1_init_27 : decode cX1_init 27 = .ok (.bipush 20, 2) := by decide +kernel
theorem dX1_init_29 : decode cX1_init 29 = .ok (.putfield 19, 3) := by decide +kernel
theorem dX1_init_32 : decode cX1_init 32 = .ok (.aload_n 0, 1) := by decide +kernel
theorem dX1_init_33 : decode cX1_init 33 = .ok (.bipush 80, 2) := by decide +kernel
theorem dX1_init_35 : decode cX1_init 35 = .ok (.putfield 23, 3) := by decide +kernel
theorem dX1_init_38 : decode cX1_init 38 = .ok (.return_, 1) := by decide +kernel
def pX1_init : List (List gm_A) := [[(gm_aload 0), gm_oinit, (gm_aload 0), (gm_new 0), gm_dup, (gm_vcall 0 0 1), (gm_putR 1 100), (gm_aload 0), (gm_new 0), gm_dup, (gm_vcall 0 0 1), (gm_putR 1 101), (gm_aload 0), (gm_push (.inl 20)), (gm_putI 1 102), (gm_aload 0), (gm_push (.inl 80)), (gm_putI 1 103), gm_vret]]
def bpX1_init : Nat → Nat := fun b => ([0] : List Nat).getD b 0
set_option maxRecDepth 100000 in
theorem tX1_init {D : va_G} {sz : Nat} {ad : Nat → Nat} {cA : Nat → ClassId} {xs : Int → Int} {Ln : Int} {l : Launch} : gm_SB D sz ad cA xs Ln l gm_mt cX1_init "LongNoon$Ground" 1 true 0 bpX1_init 0 pX1_init :=
  ⟨gm_cn 1 (gm_m_aload _) (gm_s_aload_n dX1_init_0 rfl) (
    gm_cn 4 gm_m_oinit (gm_s_oinit gw_14 gw_1 gw_2 dX1_init_1) (
    gm_cn 5 (gm_m_aload _) (gm_s_aload_n dX1_init_4 rfl) (
    gm_cn 8 (gm_m_new _) (gnw_0 gw_15 dX1_init_5) (
    gm_cn 9 gm_m_dup (gm_s_dup dX1_init_8) (
    gm_cn 12 (gm_m_vcall _ _ _) (gcl_X0_initN (List.mem_of_getElem? (i := 6) rfl) dX1_init_9) (
    gm_cn 15 (gm_m_putR _ _) (gf_putR_1_0 gw_16 dX1_init_12) (
    gm_cn 16 (gm_m_aload _) (gm_s_aload_n dX1_init_15 rfl) (
    gm_cn 19 (gm_m_new _) (gnw_0 gw_15 dX1_init_16) (
    gm_cn 20 gm_m_dup (gm_s_dup dX1_init_19) (
    gm_cn 23 (gm_m_vcall _ _ _) (gcl_X0_initN (List.mem_of_getElem? (i := 6) rfl) dX1_init_20) (
    gm_cn 26 (gm_m_putR _ _) (gf_putR_1_1 gw_17 dX1_init_23) (
    gm_cn 27 (gm_m_aload _) (gm_s_aload_n dX1_init_26 rfl) (
    gm_cn 29 (gm_m_push _) (gm_s_bipush dX1_init_27 rfl) (
    gm_cn 32 (gm_m_putI _ _) (gf_putI_1_2 gw_18 dX1_init_29) (
    gm_cn 33 (gm_m_aload _) (gm_s_aload_n dX1_init_32 rfl) (
    gm_cn 35 (gm_m_push _) (gm_s_bipush dX1_init_33 rfl) (
    gm_cn 38 (gm_m_putI _ _) (gf_putI_1_3 gw_19 dX1_init_35) (
    gm_cn 0 gm_m_vret (gm_s_vret dX1_init_38 rfl 0) (
    trivial))))))))))))))))))), trivial⟩
theorem dX1_clear_0 : decode cX1_clear 0 = .ok (.aload_n 0, 1) := by decide +kernel
theorem dX1_clear_1 : decode cX1_clear 1 = .ok (.getfield 10, 3) := by decide +kernel
theorem dX1_clear_4 : decode cX1_clear 4 = .ok (.invokevirtual 26, 3) := by decide +kernel
theorem dX1_clear_7 : decode cX1_clear 7 = .ok (.aload_n 0, 1) := by decide +kernel
theorem dX1_clear_8 : decode cX1_clear 8 = .ok (.getfield 16, 3) := by decide +kernel
theorem dX1_clear_11 : decode cX1_clear 11 = .ok (.invokevirtual 26, 3) := by decide +kernel
theorem dX1_clear_14 : decode cX1_clear 14 = .ok (.aload_n 0, 1) := by decide +kernel
theorem dX1_clear_15 : decode cX1_clear 15 = .ok (.bipush 20, 2) := by decide +kernel
theorem dX1_clear_17 : decode cX1_clear 17 = .ok (.putfield 19, 3) := by decide +kernel
theorem dX1_clear_20 : decode cX1_clear 20 = .ok (.aload_n 0, 1) := by decide +kernel
theorem dX1_clear_21 : decode cX1_clear 21 = .ok (.bipush 80, 2) := by decide +kernel
theorem dX1_clear_23 : decode cX1_clear 23 = .ok (.putfield 23, 3) := by decide +kernel
theorem dX1_clear_26 : decode cX1_clear 26 = .ok (.return_, 1) := by decide +kernel
def pX1_clear : List (List gm_A) := [[(gm_aload 0), (gm_getR 1 100), (gm_vcall 0 1 1), (gm_aload 0), (gm_getR 1 101), (gm_vcall 0 1 1), (gm_aload 0), (gm_push (.inl 20)), (gm_putI 1 102), (gm_aload 0), (gm_push (.inl 80)), (gm_putI 1 103), gm_vret]]
def bpX1_clear : Nat → Nat := fun b => ([0] : List Nat).getD b 0
set_option maxRecDepth 100000 in
theorem tX1_clear {D : va_G} {sz : Nat} {ad : Nat → Nat} {cA : Nat → ClassId} {xs : Int → Int} {Ln : Int} {l : Launch} : gm_SB D sz ad cA xs Ln l gm_mt cX1_clear "LongNoon$Ground" 1 false 0 bpX1_clear 0 pX1_clear :=
  ⟨gm_cn 1 (gm_m_aload _) (gm_s_aload_n dX1_clear_0 rfl) (
    gm_cn 4 (gm_m_getR _ _) (gf_getR_1_0 gw_16 dX1_clear_1) (
    gm_cn 7 (gm_m_vcall _ _ _) (gcl_X0_clear gw_20 dX1_clear_4) (
    gm_cn 8 (gm_m_aload _) (gm_s_aload_n dX1_clear_7 rfl) (
    gm_cn 11 (gm_m_getR _ _) (gf_getR_1_1 gw_17 dX1_clear_8) (
    gm_cn 14 (gm_m_vcall _ _ _) (gcl_X0_clear gw_20 dX1_clear_11) (
    gm_cn 15 (gm_m_aload _) (gm_s_aload_n dX1_clear_14 rfl) (
    gm_cn 17 (gm_m_push _) (gm_s_bipush dX1_clear_15 rfl) (
    gm_cn 20 (gm_m_putI _ _) (gf_putI_1_2 gw_18 dX1_clear_17) (
    gm_cn 21 (gm_m_aload _) (gm_s_aload_n dX1_clear_20 rfl) (
    gm_cn 23 (gm_m_push _) (gm_s_bipush dX1_clear_21 rfl) (
    gm_cn 26 (gm_m_putI _ _) (gf_putI_1_3 gw_19 dX1_clear_23) (
    gm_cn 0 gm_m_vret (gm_s_vret dX1_clear_26 rfl 0) (
    trivial))))))))))))), trivial⟩
theorem dX1_sunOver_0 : decode cX1_sunOver 0 = .ok (.iload_n 2, 1) := by decide +kernel
theorem dX1_sunOver_1 : decode cX1_sunOver 1 = .ok (.invokestatic 29, 3) := by decide +kernel
theorem dX1_sunOver_4 : decode cX1_sunOver 4 = .ok (.ifCond .eq 16, 3) := by decide +kernel
theorem dX1_sunOver_7 : decode cX1_sunOver 7 = .ok (.aload_n 0, 1) := by decide +kernel
theorem dX1_sunOver_8 : decode cX1_sunOver 8 = .ok (.getfield 10, 3) := by decide +kernel
theorem dX1_sunOver_11 : decode cX1_sunOver 11 = .ok (.aload_n 1, 1) := by decide +kernel
theorem dX1_sunOver_12 : decode cX1_sunOver 12 = .ok (.iload_n 2, 1) := by decide +kernel
theorem dX1_sunOver_13 : decode cX1_sunOver 13 = .ok (.iload_n 3, 1) := by decide +kernel
theorem dX1_sunOver_14 : decode cX1_sunOver 14 = .ok (.invokevirtual 35, 3) := by decide +kernel
theorem dX1_sunOver_17 : decode cX1_sunOver 17 = .ok (.goto 4, 3) := by decide +kernel
theorem dX1_sunOver_20 : decode cX1_sunOver 20 = .ok (.iconst 0, 1) := by decide +kernel
theorem dX1_sunOver_21 : decode cX1_sunOver 21 = .ok (.ireturn, 1) := by decide +kernel
def pX1_sunOver : List (List gm_A) := [[(gm_iload 2), (gm_scall 91 1), (gm_ifeq 1), (gm_aload 0), (gm_getR 1 100), (gm_aload 1), (gm_iload 2), (gm_iload 3), (gm_vcall 0 5 4), (gm_goto 2)],
  [(gm_push (.inl 0)), (gm_goto 2)],
  [gm_iret]]
def bpX1_sunOver : Nat → Nat := fun b => ([0, 20, 21] : List Nat).getD b 0
set_option maxRecDepth 100000 in
theorem tX1_sunOver {D : va_G} {sz : Nat} {ad : Nat → Nat} {cA : Nat → ClassId} {xs : Int → Int} {Ln : Int} {l : Launch} : gm_SB D sz ad cA xs Ln l gm_mt cX1_sunOver "LongNoon$Ground" 4 false 1 bpX1_sunOver 0 pX1_sunOver :=
  ⟨gm_cn 1 (gm_m_iload _) (gm_s_iload_n dX1_sunOver_0 rfl) (
    gm_cn 4 (gm_m_scall _ _) (gcl_X8_isLightN (List.mem_of_getElem? (i := 9) rfl) dX1_sunOver_1) (
    gm_cn 7 (gm_m_ifeq _) (gm_s_ifeq (bpc := bpX1_sunOver) (b := 1) dX1_sunOver_4 rfl) (
    gm_cn 8 (gm_m_aload _) (gm_s_aload_n dX1_sunOver_7 rfl) (
    gm_cn 11 (gm_m_getR _ _) (gf_getR_1_0 gw_16 dX1_sunOver_8) (
    gm_cn 12 (gm_m_aload _) (gm_s_aload_n dX1_sunOver_11 rfl) (
    gm_cn 13 (gm_m_iload _) (gm_s_iload_n dX1_sunOver_12 rfl) (
    gm_cn 14 (gm_m_iload _) (gm_s_iload_n dX1_sunOver_13 rfl) (
    gm_cn 17 (gm_m_vcall _ _ _) (gcl_X0_total gw_21 dX1_sunOver_14) (
    gm_cn 0 (gm_m_goto _) (gm_s_goto (bpc := bpX1_sunOver) (b := 2) dX1_sunOver_17 rfl 0) (
    trivial)))))))))),
  gm_cn 21 (gm_m_push _) (gm_s_iconst dX1_sunOver_20) (
    gm_cn 0 (gm_m_goto _) (gm_s_fall (bpc := bpX1_sunOver) (b := 2) rfl 0) (
    trivial)),
  gm_cn 0 gm_m_iret (gm_s_iret dX1_sunOver_21 rfl 0) (
    trivial), trivial⟩
theorem dX1_coldOver_0 : decode cX1_coldOver 0 = .ok (.iload_n 2, 1) := by decide +kernel
theorem dX1_coldOver_1 : decode cX1_coldOver 1 = .ok (.invokestatic 29, 3) := by decide +kernel
theorem dX1_coldOver_4 : decode cX1_coldOver 4 = .ok (.ifCond .eq 7, 3) := by decide +kernel
theorem dX1_coldOver_7 : decode cX1_coldOver 7 = .ok (.iconst 0, 1) := by decide +kernel
theorem dX1_coldOver_8 : decode cX1_coldOver 8 = .ok (.goto 13, 3) := by decide +kernel
theorem dX1_coldOver_11 : decode cX1_coldOver 11 = .ok (.aload_n 0, 1) := by decide +kernel
theorem dX1_coldOver_12 : decode cX1_coldOver 12 = .ok (.getfield 16, 3) := by decide +kernel
theorem dX1_coldOver_15 : decode cX1_coldOver 15 = .ok (.aload_n 1, 1) := by decide +kernel
theorem dX1_coldOver_16 : decode cX1_coldOver 16 = .ok (.iload_n 2, 1) := by decide +kernel
theorem dX1_coldOver_17 : decode cX1_coldOver 17 = .ok (.iload_n 3, 1) := by decide +kernel
theorem dX1_coldOver_18 : decode cX1_coldOver 18 = .ok (.invokevirtual 35, 3) := by decide +kernel
theorem dX1_coldOver_21 : decode cX1_coldOver 21 = .ok (.ireturn, 1) := by decide +kernel
def pX1_coldOver : List (List gm_A) := [[(gm_iload 2), (gm_scall 91 1), (gm_ifeq 1), (gm_push (.inl 0)), (gm_goto 2)],
  [(gm_aload 0), (gm_getR 1 101), (gm_aload 1), (gm_iload 2), (gm_iload 3), (gm_vcall 0 5 4), (gm_goto 2)],
  [gm_iret]]
def bpX1_coldOver : Nat → Nat := fun b => ([0, 11, 21] : List Nat).getD b 0
set_option maxRecDepth 100000 in
theorem tX1_coldOver {D : va_G} {sz : Nat} {ad : Nat → Nat} {cA : Nat → ClassId} {xs : Int → Int} {Ln : Int} {l : Launch} : gm_SB D sz ad cA xs Ln l gm_mt cX1_coldOver "LongNoon$Ground" 4 false 1 bpX1_coldOver 0 pX1_coldOver :=
  ⟨gm_cn 1 (gm_m_iload _) (gm_s_iload_n dX1_coldOver_0 rfl) (
    gm_cn 4 (gm_m_scall _ _) (gcl_X8_isLightN (List.mem_of_getElem? (i := 9) rfl) dX1_coldOver_1) (
    gm_cn 7 (gm_m_ifeq _) (gm_s_ifeq (bpc := bpX1_coldOver) (b := 1) dX1_coldOver_4 rfl) (
    gm_cn 8 (gm_m_push _) (gm_s_iconst dX1_coldOver_7) (
    gm_cn 0 (gm_m_goto _) (gm_s_goto (bpc := bpX1_coldOver) (b := 2) dX1_coldOver_8 rfl 0) (
    trivial))))),
  gm_cn 12 (gm_m_aload _) (gm_s_aload_n dX1_coldOver_11 rfl) (
    gm_cn 15 (gm_m_getR _ _) (gf_getR_1_1 gw_17 dX1_coldOver_12) (
    gm_cn 16 (gm_m_aload _) (gm_s_aload_n dX1_coldOver_15 rfl) (
    gm_cn 17 (gm_m_iload _) (gm_s_iload_n dX1_coldOver_16 rfl) (
    gm_cn 18 (gm_m_iload _) (gm_s_iload_n dX1_coldOver_17 rfl) (
    gm_cn 21 (gm_m_vcall _ _ _) (gcl_X0_total gw_21 dX1_coldOver_18) (
    gm_cn 0 (gm_m_goto _) (gm_s_fall (bpc := bpX1_coldOver) (b := 2) rfl 0) (
    trivial))))))),
  gm_cn 0 gm_m_iret (gm_s_iret dX1_coldOver_21 rfl 0) (
    trivial), trivial⟩
theorem dX2_init_0 : decode cX2_init 0 = .ok (.aload_n 0, 1) := by decide +kernel
theorem dX2_init_1 : decode cX2_init 1 = .ok (.invokespecial 3, 3) := by decide +kernel
theorem dX2_init_4 : decode cX2_init 4 = .ok (.aload_n 0, 1) := by decide +kernel
theorem dX2_init_5 : decode cX2_init 5 = .ok (.new 9, 3) := by decide +kernel
theorem dX2_init_8 : decode cX2_init 8 = .ok (.dup, 1) := by decide +kernel
theorem dX2_init_9 : decode cX2_init 9 = .ok (.invokespecial 11, 3) := by decide +kernel
theorem dX2_init_12 : decode cX2_init 12 = .ok (.putfield 12, 3) := by decide +kernel
theorem dX2_init_15 : decode cX2_init 15 = .ok (.aload_n 0, 1) := by decide +kernel
theorem dX2_init_16 : decode cX2_init 16 = .ok (.iconst 4, 1) := by decide +kernel
theorem dX2_init_17 : decode cX2_init 17 = .ok (.newarray .int, 2) := by decide +kernel
theorem dX2_init_19 : decode cX2_init 19 = .ok (.putfield 18, 3) := by decide +kernel
theorem dX2_init_22 : decode cX2_init 22 = .ok (.return_, 1) := by decide +kernel
def pX2_init : List (List gm_A) := [[(gm_aload 0), gm_oinit, (gm_aload 0), (gm_new 5), gm_dup, (gm_vcall 5 36 1), (gm_putR 2 205), (gm_aload 0), (gm_push (.inl 4)), (gm_newarr 20), (gm_putR 2 206), gm_vret]]
def bpX2_init : Nat → Nat := fun b => ([0] : List Nat).getD b 0
set_option maxRecDepth 100000 in
theorem tX2_init {D : va_G} {sz : Nat} {ad : Nat → Nat} {cA : Nat → ClassId} {xs : Int → Int} {Ln : Int} {l : Launch} : gm_SB D sz ad cA xs Ln l gm_mt cX2_init "LongNoon$House" 1 true 0 bpX2_init 0 pX2_init :=
  ⟨gm_cn 1 (gm_m_aload _) (gm_s_aload_n dX2_init_0 rfl) (
    gm_cn 4 gm_m_oinit (gm_s_oinit gw_22 gw_1 gw_2 dX2_init_1) (
    gm_cn 5 (gm_m_aload _) (gm_s_aload_n dX2_init_4 rfl) (
    gm_cn 8 (gm_m_new _) (gnw_5 gw_23 dX2_init_5) (
    gm_cn 9 gm_m_dup (gm_s_dup dX2_init_8) (
    gm_cn 12 (gm_m_vcall _ _ _) (gcl_X5_initN (List.mem_of_getElem? (i := 1) rfl) dX2_init_9) (
    gm_cn 15 (gm_m_putR _ _) (gf_putR_2_5 gw_24 dX2_init_12) (
    gm_cn 16 (gm_m_aload _) (gm_s_aload_n dX2_init_15 rfl) (
    gm_cn 17 (gm_m_push _) (gm_s_iconst dX2_init_16) (
    gm_cn 19 (gm_m_newarr _) (gm_s_newarr (atype := .int) (t0 := 0) (ty := .int) rfl gw_3 (fun _ => rfl) (Or.inr (Or.inl ⟨rfl, rfl⟩)) dX2_init_17) (
    gm_cn 22 (gm_m_putR _ _) (gf_putR_2_6 gw_25 dX2_init_19) (
    gm_cn 0 gm_m_vret (gm_s_vret dX2_init_22 rfl 0) (
    trivial)))))))))))), trivial⟩
theorem dX2_build_0 : decode cX2_build 0 = .ok (.aload_n 0, 1) := by decide +kernel
theorem dX2_build_1 : decode cX2_build 1 = .ok (.iload_n 1, 1) := by decide +kernel
theorem dX2_build_2 : decode cX2_build 2 = .ok (.putfield 22, 3) := by decide +kernel
theorem dX2_build_5 : decode cX2_build 5 = .ok (.aload_n 0, 1) := by decide +kernel
theorem dX2_build_6 : decode cX2_build 6 = .ok (.iload_n 2, 1) := by decide +kernel
theorem dX2_build_7 : decode cX2_build 7 = .ok (.putfield 26, 3) := by decide +kernel
theorem dX2_build_10 : decode cX2_build 10 = .ok (.aload_n 0, 1) := by decide +kernel
theorem dX2_build_11 : decode cX2_build 11 = .ok (.iload_n 3, 1) := by decide +kernel
theorem dX2_build_12 : decode cX2_build 12 = .ok (.putfield 29, 3) := by decide +kernel
theorem dX2_build_15 : decode cX2_build 15 = .ok (.aload_n 0, 1) := by decide +kernel
theorem dX2_build_16 : decode cX2_build 16 = .ok (.iload 4, 2) := by decide +kernel
theorem dX2_build_18 : decode cX2_build 18 = .ok (.putfield 32, 3) := by decide +kernel
theorem dX2_build_21 : decode cX2_build 21 = .ok (.aload_n 0, 1) := by decide +kernel
theorem dX2_build_22 : decode cX2_build 22 = .ok (.getfield 12, 3) := by decide +kernel
theorem dX2_build_25 : decode cX2_build 25 = .ok (.iconst 0, 1) := by decide +kernel
theorem dX2_build_26 : decode cX2_build 26 = .ok (.putfield 35, 3) := by decide +kernel
theorem dX2_build_29 : decode cX2_build 29 = .ok (.aload_n 0, 1) := by decide +kernel
theorem dX2_build_30 : decode cX2_build 30 = .ok (.getfield 12, 3) := by decide +kernel
theorem dX2_build_33 : decode cX2_build 33 = .ok (.iconst 0, 1) := by decide +kernel
theorem dX2_build_34 : decode cX2_build 34 = .ok (.putfield 38, 3) := by decide +kernel
theorem dX2_build_37 : decode cX2_build 37 = .ok (.aload_n 0, 1) := by decide +kernel
theorem dX2_build_38 : decode cX2_build 38 = .ok (.iload 5, 2) := by decide +kernel
theorem dX2_build_40 : decode cX2_build 40 = .ok (.invokevirtual 41, 3) := by decide +kernel
theorem dX2_build_43 : decode cX2_build 43 = .ok (.iconst 0, 1) := by decide +kernel
theorem dX2_build_44 : decode cX2_build 44 = .ok (.istore 6, 2) := by decide +kernel
theorem dX2_build_46 : decode cX2_build 46 = .ok (.iload 6, 2) := by decide +kernel
theorem dX2_build_48 : decode cX2_build 48 = .ok (.aload_n 0, 1) := by decide +kernel
theorem dX2_build_49 : decode cX2_build 49 = .ok (.getfield 18, 3) := by decide +kernel
theorem dX2_build_52 : decode cX2_build 52 = .ok (.arraylength, 1) := by decide +kernel
theorem dX2_build_53 : decode cX2_build 53 = .ok (.if_icmp .ge 17, 3) := by decide +kernel
theorem dX2_build_56 : decode cX2_build 56 = .ok (.aload_n 0, 1) := by decide +kernel
theorem dX2_build_57 : decode cX2_build 57 = .ok (.getfield 18, 3) := by decide +kernel
theorem dX2_build_60 : decode cX2_build 60 = .ok (.iload 6, 2) := by decide +kernel
theorem dX2_build_62 : decode cX2_build 62 = .ok (.iconst 4, 1) := by decide +kernel
theorem dX2_build_63 : decode cX2_build 63 = .ok (.iastore, 1) := by decide +kernel
theorem dX2_build_64 : decode cX2_build 64 = .ok (.iinc 6 1, 3) := by decide +kernel
theorem dX2_build_67 : decode cX2_build 67 = .ok (.goto (-21), 3) := by decide +kernel
theorem dX2_build_70 : decode cX2_build 70 = .ok (.return_, 1) := by decide +kernel
def pX2_build : List (List gm_A) := [[(gm_aload 0), (gm_iload 1), (gm_putI 2 200), (gm_aload 0), (gm_iload 2), (gm_putI 2 201), (gm_aload 0), (gm_iload 3), (gm_putI 2 202), (gm_aload 0), (gm_iload 4), (gm_putI 2 203), (gm_aload 0), (gm_getR 2 205), (gm_push (.inl 0)), (gm_putI 5 500), (gm_aload 0), (gm_getR 2 205), (gm_push (.inl 0)), (gm_putI 5 502), (gm_aload 0), (gm_iload 5), (gm_vcall 2 14 2), (gm_push (.inl 0)), (gm_istore 6), (gm_goto 1)],
  [(gm_iload 6), (gm_aload 0), (gm_getR 2 206), gm_alen, (gm_cge 2), (gm_aload 0), (gm_getR 2 206), (gm_iload 6), (gm_push (.inl 4)), gm_iast, (gm_iinc 6 1), (gm_goto 1)],
  [gm_vret]]
def bpX2_build : Nat → Nat := fun b => ([0, 46, 70] : List Nat).getD b 0
set_option maxRecDepth 100000 in
theorem tX2_build {D : va_G} {sz : Nat} {ad : Nat → Nat} {cA : Nat → ClassId} {xs : Int → Int} {Ln : Int} {l : Launch} : gm_SB D sz ad cA xs Ln l gm_mt cX2_build "LongNoon$House" 7 false 0 bpX2_build 0 pX2_build :=
  ⟨gm_cn 1 (gm_m_aload _) (gm_s_aload_n dX2_build_0 rfl) (
    gm_cn 2 (gm_m_iload _) (gm_s_iload_n dX2_build_1 rfl) (
    gm_cn 5 (gm_m_putI _ _) (gf_putI_2_0 gw_26 dX2_build_2) (
    gm_cn 6 (gm_m_aload _) (gm_s_aload_n dX2_build_5 rfl) (
    gm_cn 7 (gm_m_iload _) (gm_s_iload_n dX2_build_6 rfl) (
    gm_cn 10 (gm_m_putI _ _) (gf_putI_2_1 gw_27 dX2_build_7) (
    gm_cn 11 (gm_m_aload _) (gm_s_aload_n dX2_build_10 rfl) (
    gm_cn 12 (gm_m_iload _) (gm_s_iload_n dX2_build_11 rfl) (
    gm_cn 15 (gm_m_putI _ _) (gf_putI_2_2 gw_28 dX2_build_12) (
    gm_cn 16 (gm_m_aload _) (gm_s_aload_n dX2_build_15 rfl) (
    gm_cn 18 (gm_m_iload _) (gm_s_iload dX2_build_16) (
    gm_cn 21 (gm_m_putI _ _) (gf_putI_2_3 gw_29 dX2_build_18) (
    gm_cn 22 (gm_m_aload _) (gm_s_aload_n dX2_build_21 rfl) (
    gm_cn 25 (gm_m_getR _ _) (gf_getR_2_5 gw_24 dX2_build_22) (
    gm_cn 26 (gm_m_push _) (gm_s_iconst dX2_build_25) (
    gm_cn 29 (gm_m_putI _ _) (gf_putI_5_0 gw_30 dX2_build_26) (
    gm_cn 30 (gm_m_aload _) (gm_s_aload_n dX2_build_29 rfl) (
    gm_cn 33 (gm_m_getR _ _) (gf_getR_2_5 gw_24 dX2_build_30) (
    gm_cn 34 (gm_m_push _) (gm_s_iconst dX2_build_33) (
    gm_cn 37 (gm_m_putI _ _) (gf_putI_5_2 gw_31 dX2_build_34) (
    gm_cn 38 (gm_m_aload _) (gm_s_aload_n dX2_build_37 rfl) (
    gm_cn 40 (gm_m_iload _) (gm_s_iload dX2_build_38) (
    gm_cn 43 (gm_m_vcall _ _ _) (gcl_X2_holdUpTo gw_32 dX2_build_40) (
    gm_cn 44 (gm_m_push _) (gm_s_iconst dX2_build_43) (
    gm_cn 46 (gm_m_istore _) (gm_s_istore dX2_build_44 (by decide)) (
    gm_cn 0 (gm_m_goto _) (gm_s_fall (bpc := bpX2_build) (b := 1) rfl 0) (
    trivial)))))))))))))))))))))))))),
  gm_cn 48 (gm_m_iload _) (gm_s_iload dX2_build_46) (
    gm_cn 49 (gm_m_aload _) (gm_s_aload_n dX2_build_48 rfl) (
    gm_cn 52 (gm_m_getR _ _) (gf_getR_2_6 gw_25 dX2_build_49) (
    gm_cn 53 gm_m_alen (gm_s_alen dX2_build_52) (
    gm_cn 56 (gm_m_cge _) (gm_s_cge (bpc := bpX2_build) (b := 2) dX2_build_53 rfl) (
    gm_cn 57 (gm_m_aload _) (gm_s_aload_n dX2_build_56 rfl) (
    gm_cn 60 (gm_m_getR _ _) (gf_getR_2_6 gw_25 dX2_build_57) (
    gm_cn 62 (gm_m_iload _) (gm_s_iload dX2_build_60) (
    gm_cn 63 (gm_m_push _) (gm_s_iconst dX2_build_62) (
    gm_cn 64 gm_m_iast (gm_s_iast dX2_build_63) (
    gm_cn 67 (gm_m_iinc _ _) (gm_s_iinc dX2_build_64 (by decide)) (
    gm_cn 0 (gm_m_goto _) (gm_s_goto (bpc := bpX2_build) (b := 1) dX2_build_67 rfl 0) (
    trivial)))))))))))),
  gm_cn 0 gm_m_vret (gm_s_vret dX2_build_70 rfl 0) (
    trivial), trivial⟩
theorem dX2_become_0 : decode cX2_become 0 = .ok (.aload_n 0, 1) := by decide +kernel
theorem dX2_become_1 : decode cX2_become 1 = .ok (.aload_n 1, 1) := by decide +kernel
theorem dX2_become_2 : decode cX2_become 2 = .ok (.getfield 22, 3) := by decide +kernel
theorem dX2_become_5 : decode cX2_become 5 = .ok (.putfield 22, 3) := by decide +kernel
theorem dX2_become_8 : decode cX2_become 8 = .ok (.aload_n 0, 1) := by decide +kernel
theorem dX2_become_9 : decode cX2_become 9 = .ok (.aload_n 1, 1) := by decide +kernel
theorem dX2_become_10 : decode cX2_become 10 = .ok (.getfield 26, 3) := by decide +kernel
theorem dX2_become_13 : decode cX2_become 13 = .ok (.putfield 26, 3) := by decide +kernel
theorem dX2_become_16 : decode cX2_become 16 = .ok (.aload_n 0, 1) := by decide +kernel
theorem dX2_become_17 : decode cX2_become 17 = .ok (.aload_n 1, 1) := by decide +kernel
theorem dX2_become_18 : decode cX2_become 18 = .ok (.getfield 29, 3) := by decide +kernel
theorem dX2_become_21 : decode cX2_become 21 = .ok (.putfield 29, 3) := by decide +kernel
theorem dX2_become_24 : decode cX2_become 24 = .ok (.aload_n 0, 1) := by decide +kernel
theorem dX2_become_25 : decode cX2_become 25 = .ok (.aload_n 1, 1) := by decide +kernel
theorem dX2_become_26 : decode cX2_become 26 = .ok (.getfield 32, 3) := by decide +kernel
theorem dX2_become_29 : decode cX2_become 29 = .ok (.putfield 32, 3) := by decide +kernel
theorem dX2_become_32 : decode cX2_become 32 = .ok (.aload_n 0, 1) := by decide +kernel
theorem dX2_become_33 : decode cX2_become 33 = .ok (.aload_n 1, 1) := by decide +kernel
theorem dX2_become_34 : decode cX2_become 34 = .ok (.getfield 45, 3) := by decide +kernel
theorem dX2_become_37 : decode cX2_become 37 = .ok (.putfield 45, 3) := by decide +kernel
theorem dX2_become_40 : decode cX2_become 40 = .ok (.aload_n 0, 1) := by decide +kernel
theorem dX2_become_41 : decode cX2_become 41 = .ok (.getfield 12, 3) := by decide +kernel
theorem dX2_become_44 : decode cX2_become 44 = .ok (.aload_n 1, 1) := by decide +kernel
theorem dX2_become_45 : decode cX2_become 45 = .ok (.getfield 12, 3) := by decide +kernel
theorem dX2_become_48 : decode cX2_become 48 = .ok (.invokevirtual 48, 3) := by decide +kernel
theorem dX2_become_51 : decode cX2_become 51 = .ok (.aload_n 1, 1) := by decide +kernel
theorem dX2_become_52 : decode cX2_become 52 = .ok (.getfield 18, 3) := by decide +kernel
theorem dX2_become_55 : decode cX2_become 55 = .ok (.iconst 0, 1) := by decide +kernel
theorem dX2_become_56 : decode cX2_become 56 = .ok (.aload_n 0, 1) := by decide +kernel
theorem dX2_become_57 : decode cX2_become 57 = .ok (.getfield 18, 3) := by decide +kernel
theorem dX2_become_60 : decode cX2_become 60 = .ok (.iconst 0, 1) := by decide +kernel
theorem dX2_become_61 : decode cX2_become 61 = .ok (.aload_n 0, 1) := by decide +kernel
theorem dX2_become_62 : decode cX2_become 62 = .ok (.getfield 18, 3) := by decide +kernel
theorem dX2_become_65 : decode cX2_become 65 = .ok (.arraylength, 1) := by decide +kernel
theorem dX2_become_66 : decode cX2_become 66 = .ok (.invokestatic 52, 3) := by decide +kernel
theorem dX2_become_69 : decode cX2_become 69 = .ok (.return_, 1) := by decide +kernel
def pX2_become : List (List gm_A) := [[(gm_aload 0), (gm_aload 1), (gm_getI 2 200), (gm_putI 2 200), (gm_aload 0), (gm_aload 1), (gm_getI 2 201), (gm_putI 2 201), (gm_aload 0), (gm_aload 1), (gm_getI 2 202), (gm_putI 2 202), (gm_aload 0), (gm_aload 1), (gm_getI 2 203), (gm_putI 2 203), (gm_aload 0), (gm_aload 1), (gm_getI 2 204), (gm_putI 2 204), (gm_aload 0), (gm_getR 2 205), (gm_aload 1), (gm_getR 2 205), (gm_vcall 5 37 2), (gm_aload 1), (gm_getR 2 206), (gm_push (.inl 0)), (gm_aload 0), (gm_getR 2 206), (gm_push (.inl 0)), (gm_aload 0), (gm_getR 2 206), gm_alen, (gm_acp 20), gm_vret]]
def bpX2_become : Nat → Nat := fun b => ([0] : List Nat).getD b 0
set_option maxRecDepth 100000 in
theorem tX2_become {D : va_G} {sz : Nat} {ad : Nat → Nat} {cA : Nat → ClassId} {xs : Int → Int} {Ln : Int} {l : Launch} : gm_SB D sz ad cA xs Ln l gm_mt cX2_become "LongNoon$House" 2 false 0 bpX2_become 0 pX2_become :=
  ⟨gm_cn 1 (gm_m_aload _) (gm_s_aload_n dX2_become_0 rfl) (
    gm_cn 2 (gm_m_aload _) (gm_s_aload_n dX2_become_1 rfl) (
    gm_cn 5 (gm_m_getI _ _) (gf_getI_2_0 gw_26 dX2_become_2) (
    gm_cn 8 (gm_m_putI _ _) (gf_putI_2_0 gw_26 dX2_become_5) (
    gm_cn 9 (gm_m_aload _) (gm_s_aload_n dX2_become_8 rfl) (
    gm_cn 10 (gm_m_aload _) (gm_s_aload_n dX2_become_9 rfl) (
    gm_cn 13 (gm_m_getI _ _) (gf_getI_2_1 gw_27 dX2_become_10) (
    gm_cn 16 (gm_m_putI _ _) (gf_putI_2_1 gw_27 dX2_become_13) (
    gm_cn 17 (gm_m_aload _) (gm_s_aload_n dX2_become_16 rfl) (
    gm_cn 18 (gm_m_aload _) (gm_s_aload_n dX2_become_17 rfl) (
    gm_cn 21 (gm_m_getI _ _) (gf_getI_2_2 gw_28 dX2_become_18) (
    gm_cn 24 (gm_m_putI _ _) (gf_putI_2_2 gw_28 dX2_become_21) (
    gm_cn 25 (gm_m_aload _) (gm_s_aload_n dX2_become_24 rfl) (
    gm_cn 26 (gm_m_aload _) (gm_s_aload_n dX2_become_25 rfl) (
    gm_cn 29 (gm_m_getI _ _) (gf_getI_2_3 gw_29 dX2_become_26) (
    gm_cn 32 (gm_m_putI _ _) (gf_putI_2_3 gw_29 dX2_become_29) (
    gm_cn 33 (gm_m_aload _) (gm_s_aload_n dX2_become_32 rfl) (
    gm_cn 34 (gm_m_aload _) (gm_s_aload_n dX2_become_33 rfl) (
    gm_cn 37 (gm_m_getI _ _) (gf_getI_2_4 gw_33 dX2_become_34) (
    gm_cn 40 (gm_m_putI _ _) (gf_putI_2_4 gw_33 dX2_become_37) (
    gm_cn 41 (gm_m_aload _) (gm_s_aload_n dX2_become_40 rfl) (
    gm_cn 44 (gm_m_getR _ _) (gf_getR_2_5 gw_24 dX2_become_41) (
    gm_cn 45 (gm_m_aload _) (gm_s_aload_n dX2_become_44 rfl) (
    gm_cn 48 (gm_m_getR _ _) (gf_getR_2_5 gw_24 dX2_become_45) (
    gm_cn 51 (gm_m_vcall _ _ _) (gcl_X5_become gw_34 dX2_become_48) (
    gm_cn 52 (gm_m_aload _) (gm_s_aload_n dX2_become_51 rfl) (
    gm_cn 55 (gm_m_getR _ _) (gf_getR_2_6 gw_25 dX2_become_52) (
    gm_cn 56 (gm_m_push _) (gm_s_iconst dX2_become_55) (
    gm_cn 57 (gm_m_aload _) (gm_s_aload_n dX2_become_56 rfl) (
    gm_cn 60 (gm_m_getR _ _) (gf_getR_2_6 gw_25 dX2_become_57) (
    gm_cn 61 (gm_m_push _) (gm_s_iconst dX2_become_60) (
    gm_cn 62 (gm_m_aload _) (gm_s_aload_n dX2_become_61 rfl) (
    gm_cn 65 (gm_m_getR _ _) (gf_getR_2_6 gw_25 dX2_become_62) (
    gm_cn 66 gm_m_alen (gm_s_alen dX2_become_65) (
    gm_cn 69 (gm_m_acp _) (gm_s_acp20 gw_35 gw_36 gw_37 gw_38 dX2_become_66) (
    gm_cn 0 gm_m_vret (gm_s_vret dX2_become_69 rfl 0) (
    trivial)))))))))))))))))))))))))))))))))))), trivial⟩
theorem dX2_holdUpTo_0 : decode cX2_holdUpTo 0 = .ok (.aload_n 0, 1) := by decide +kernel
theorem dX2_holdUpTo_1 : decode cX2_holdUpTo 1 = .ok (.iload_n 1, 1) := by decide +kernel
theorem dX2_holdUpTo_2 : decode cX2_holdUpTo 2 = .ok (.putfield 45, 3) := by decide +kernel
theorem dX2_holdUpTo_5 : decode cX2_holdUpTo 5 = .ok (.aload_n 0, 1) := by decide +kernel
theorem dX2_holdUpTo_6 : decode cX2_holdUpTo 6 = .ok (.getfield 12, 3) := by decide +kernel
theorem dX2_holdUpTo_9 : decode cX2_holdUpTo 9 = .ok (.aload_n 0, 1) := by decide +kernel
theorem dX2_holdUpTo_10 : decode cX2_holdUpTo 10 = .ok (.getfield 26, 3) := by decide +kernel
theorem dX2_holdUpTo_13 : decode cX2_holdUpTo 13 = .ok (.iconst 2, 1) := by decide +kernel
theorem dX2_holdUpTo_14 : decode cX2_holdUpTo 14 = .ok (.if_icmp .eq 11, 3) := by decide +kernel
theorem dX2_holdUpTo_17 : decode cX2_holdUpTo 17 = .ok (.aload_n 0, 1) := by decide +kernel
theorem dX2_holdUpTo_18 : decode cX2_holdUpTo 18 = .ok (.getfield 26, 3) := by decide +kernel
theorem dX2_holdUpTo_21 : decode cX2_holdUpTo 21 = .ok (.iconst 5, 1) := by decide +kernel
theorem dX2_holdUpTo_22 : decode cX2_holdUpTo 22 = .ok (.if_icmp .ne 12, 3) := by decide +kernel
theorem dX2_holdUpTo_25 : decode cX2_holdUpTo 25 = .ok (.iload_n 1, 1) := by decide +kernel
theorem dX2_holdUpTo_26 : decode cX2_holdUpTo 26 = .ok (.aload_n 0, 1) := by decide +kernel
theorem dX2_holdUpTo_27 : decode cX2_holdUpTo 27 = .ok (.getfield 29, 3) := by decide +kernel
theorem dX2_holdUpTo_30 : decode cX2_holdUpTo 30 = .ok (.iadd, 1) := by decide +kernel
theorem dX2_holdUpTo_31 : decode cX2_holdUpTo 31 = .ok (.goto 4, 3) := by decide +kernel
theorem dX2_holdUpTo_34 : decode cX2_holdUpTo 34 = .ok (.iload_n 1, 1) := by decide +kernel
theorem dX2_holdUpTo_35 : decode cX2_holdUpTo 35 = .ok (.putfield 58, 3) := by decide +kernel
theorem dX2_holdUpTo_38 : decode cX2_holdUpTo 38 = .ok (.aload_n 0, 1) := by decide +kernel
theorem dX2_holdUpTo_39 : decode cX2_holdUpTo 39 = .ok (.getfield 12, 3) := by decide +kernel
theorem dX2_holdUpTo_42 : decode cX2_holdUpTo 42 = .ok (.aload_n 0, 1) := by decide +kernel
theorem dX2_holdUpTo_43 : decode cX2_holdUpTo 43 = .ok (.getfield 12, 3) := by decide +kernel
theorem dX2_holdUpTo_46 : decode cX2_holdUpTo 46 = .ok (.getfield 35, 3) := by decide +kernel
theorem dX2_holdUpTo_49 : decode cX2_holdUpTo 49 = .ok (.aload_n 0, 1) := by decide +kernel
theorem dX2_holdUpTo_50 : decode cX2_holdUpTo 50 = .ok (.getfield 12, 3) := by decide +kernel
theorem dX2_holdUpTo_53 : decode cX2_holdUpTo 53 = .ok (.getfield 58, 3) := by decide +kernel
theorem dX2_holdUpTo_56 : decode cX2_holdUpTo 56 = .ok (.invokestatic 61, 3) := by decide +kernel
theorem dX2_holdUpTo_59 : decode cX2_holdUpTo 59 = .ok (.putfield 35, 3) := by decide +kernel
theorem dX2_holdUpTo_62 : decode cX2_holdUpTo 62 = .ok (.return_, 1) := by decide +kernel
def pX2_holdUpTo : List (List gm_A) := [[(gm_aload 0), (gm_iload 1), (gm_putI 2 204), (gm_aload 0), (gm_getR 2 205), (gm_aload 0), (gm_getI 2 201), (gm_push (.inl 2)), (gm_ceq 1), (gm_aload 0), (gm_getI 2 201), (gm_push (.inl 5)), (gm_cne 2), (gm_goto 1)],
  [(gm_iload 1), (gm_aload 0), (gm_getI 2 202), (gm_op2 gm_add), (gm_goto 3)],
  [(gm_iload 1), (gm_goto 3)],
  [(gm_putI 5 501), (gm_aload 0), (gm_getR 2 205), (gm_aload 0), (gm_getR 2 205), (gm_getI 5 500), (gm_aload 0), (gm_getR 2 205), (gm_getI 5 501), gm_min, (gm_putI 5 500), gm_vret]]
def bpX2_holdUpTo : Nat → Nat := fun b => ([0, 25, 34, 35] : List Nat).getD b 0
set_option maxRecDepth 100000 in
theorem tX2_holdUpTo {D : va_G} {sz : Nat} {ad : Nat → Nat} {cA : Nat → ClassId} {xs : Int → Int} {Ln : Int} {l : Launch} : gm_SB D sz ad cA xs Ln l gm_mt cX2_holdUpTo "LongNoon$House" 2 false 0 bpX2_holdUpTo 0 pX2_holdUpTo :=
  ⟨gm_cn 1 (gm_m_aload _) (gm_s_aload_n dX2_holdUpTo_0 rfl) (
    gm_cn 2 (gm_m_iload _) (gm_s_iload_n dX2_holdUpTo_1 rfl) (
    gm_cn 5 (gm_m_putI _ _) (gf_putI_2_4 gw_33 dX2_holdUpTo_2) (
    gm_cn 6 (gm_m_aload _) (gm_s_aload_n dX2_holdUpTo_5 rfl) (
    gm_cn 9 (gm_m_getR _ _) (gf_getR_2_5 gw_24 dX2_holdUpTo_6) (
    gm_cn 10 (gm_m_aload _) (gm_s_aload_n dX2_holdUpTo_9 rfl) (
    gm_cn 13 (gm_m_getI _ _) (gf_getI_2_1 gw_27 dX2_holdUpTo_10) (
    gm_cn 14 (gm_m_push _) (gm_s_iconst dX2_holdUpTo_13) (
    gm_cn 17 (gm_m_ceq _) (gm_s_ceq (bpc := bpX2_holdUpTo) (b := 1) dX2_holdUpTo_14 rfl) (
    gm_cn 18 (gm_m_aload _) (gm_s_aload_n dX2_holdUpTo_17 rfl) (
    gm_cn 21 (gm_m_getI _ _) (gf_getI_2_1 gw_27 dX2_holdUpTo_18) (
    gm_cn 22 (gm_m_push _) (gm_s_iconst dX2_holdUpTo_21) (
    gm_cn 25 (gm_m_cne _) (gm_s_cne (bpc := bpX2_holdUpTo) (b := 2) dX2_holdUpTo_22 rfl) (
    gm_cn 0 (gm_m_goto _) (gm_s_fall (bpc := bpX2_holdUpTo) (b := 1) rfl 0) (
    trivial)))))))))))))),
  gm_cn 26 (gm_m_iload _) (gm_s_iload_n dX2_holdUpTo_25 rfl) (
    gm_cn 27 (gm_m_aload _) (gm_s_aload_n dX2_holdUpTo_26 rfl) (
    gm_cn 30 (gm_m_getI _ _) (gf_getI_2_2 gw_28 dX2_holdUpTo_27) (
    gm_cn 31 (gm_m_op2 _) (gm_s_iadd dX2_holdUpTo_30) (
    gm_cn 0 (gm_m_goto _) (gm_s_goto (bpc := bpX2_holdUpTo) (b := 3) dX2_holdUpTo_31 rfl 0) (
    trivial))))),
  gm_cn 35 (gm_m_iload _) (gm_s_iload_n dX2_holdUpTo_34 rfl) (
    gm_cn 0 (gm_m_goto _) (gm_s_fall (bpc := bpX2_holdUpTo) (b := 3) rfl 0) (
    trivial)),
  gm_cn 38 (gm_m_putI _ _) (gf_putI_5_1 gw_39 dX2_holdUpTo_35) (
    gm_cn 39 (gm_m_aload _) (gm_s_aload_n dX2_holdUpTo_38 rfl) (
    gm_cn 42 (gm_m_getR _ _) (gf_getR_2_5 gw_24 dX2_holdUpTo_39) (
    gm_cn 43 (gm_m_aload _) (gm_s_aload_n dX2_holdUpTo_42 rfl) (
    gm_cn 46 (gm_m_getR _ _) (gf_getR_2_5 gw_24 dX2_holdUpTo_43) (
    gm_cn 49 (gm_m_getI _ _) (gf_getI_5_0 gw_30 dX2_holdUpTo_46) (
    gm_cn 50 (gm_m_aload _) (gm_s_aload_n dX2_holdUpTo_49 rfl) (
    gm_cn 53 (gm_m_getR _ _) (gf_getR_2_5 gw_24 dX2_holdUpTo_50) (
    gm_cn 56 (gm_m_getI _ _) (gf_getI_5_1 gw_39 dX2_holdUpTo_53) (
    gm_cn 59 gm_m_min (gm_s_min gw_40 gw_41 gw_43 gw_42 dX2_holdUpTo_56) (
    gm_cn 62 (gm_m_putI _ _) (gf_putI_5_0 gw_30 dX2_holdUpTo_59) (
    gm_cn 0 gm_m_vret (gm_s_vret dX2_holdUpTo_62 rfl 0) (
    trivial)))))))))))), trivial⟩
theorem dX2_gainOn_0 : decode cX2_gainOn 0 = .ok (.iconst 0, 1) := by decide +kernel
theorem dX2_gainOn_1 : decode cX2_gainOn 1 = .ok (.aload_n 1, 1) := by decide +kernel
theorem dX2_gainOn_2 : decode cX2_gainOn 2 = .ok (.aload_n 0, 1) := by decide +kernel
theorem dX2_gainOn_3 : decode cX2_gainOn 3 = .ok (.iload_n 2, 1) := by decide +kernel
theorem dX2_gainOn_4 : decode cX2_gainOn 4 = .ok (.iload_n 3, 1) := by decide +kernel
theorem dX2_gainOn_5 : decode cX2_gainOn 5 = .ok (.invokevirtual 67, 3) := by decide +kernel
theorem dX2_gainOn_8 : decode cX2_gainOn 8 = .ok (.iload 4, 2) := by decide +kernel
theorem dX2_gainOn_10 : decode cX2_gainOn 10 = .ok (.isub, 1) := by decide +kernel
theorem dX2_gainOn_11 : decode cX2_gainOn 11 = .ok (.invokestatic 73, 3) := by decide +kernel
theorem dX2_gainOn_14 : decode cX2_gainOn 14 = .ok (.istore 5, 2) := by decide +kernel
theorem dX2_gainOn_16 : decode cX2_gainOn 16 = .ok (.aload_n 1, 1) := by decide +kernel
theorem dX2_gainOn_17 : decode cX2_gainOn 17 = .ok (.aload_n 0, 1) := by decide +kernel
theorem dX2_gainOn_18 : decode cX2_gainOn 18 = .ok (.iload_n 2, 1) := by decide +kernel
theorem dX2_gainOn_19 : decode cX2_gainOn 19 = .ok (.iload_n 3, 1) := by decide +kernel
theorem dX2_gainOn_20 : decode cX2_gainOn 20 = .ok (.invokevirtual 76, 3) := by decide +kernel
theorem dX2_gainOn_23 : decode cX2_gainOn 23 = .ok (.istore 6, 2) := by decide +kernel
theorem dX2_gainOn_25 : decode cX2_gainOn 25 = .ok (.aload_n 0, 1) := by decide +kernel
theorem dX2_gainOn_26 : decode cX2_gainOn 26 = .ok (.getfield 26, 3) := by decide +kernel
theorem dX2_gainOn_29 : decode cX2_gainOn 29 = .ok (.tableswitch 95 1 6 #[39, 95, 47, 55, 68, 76], 39) := by decide +kernel
theorem dX2_gainOn_68 : decode cX2_gainOn 68 = .ok (.iconst 2, 1) := by decide +kernel
theorem dX2_gainOn_69 : decode cX2_gainOn 69 = .ok (.iload 5, 2) := by decide +kernel
theorem dX2_gainOn_71 : decode cX2_gainOn 71 = .ok (.imul, 1) := by decide +kernel
theorem dX2_gainOn_72 : decode cX2_gainOn 72 = .ok (.iload 6, 2) := by decide +kernel
theorem dX2_gainOn_74 : decode cX2_gainOn 74 = .ok (.isub, 1) := by decide +kernel
theorem dX2_gainOn_75 : decode cX2_gainOn 75 = .ok (.ireturn, 1) := by decide +kernel
theorem dX2_gainOn_76 : decode cX2_gainOn 76 = .ok (.iload 5, 2) := by decide +kernel
theorem dX2_gainOn_78 : decode cX2_gainOn 78 = .ok (.iconst 2, 1) := by decide +kernel
theorem dX2_gainOn_79 : decode cX2_gainOn 79 = .ok (.idiv, 1) := by decide +kernel
theorem dX2_gainOn_80 : decode cX2_gainOn 80 = .ok (.iload 6, 2) := by decide +kernel
theorem dX2_gainOn_82 : decode cX2_gainOn 82 = .ok (.isub, 1) := by decide +kernel
theorem dX2_gainOn_83 : decode cX2_gainOn 83 = .ok (.ireturn, 1) := by decide +kernel
theorem dX2_gainOn_84 : decode cX2_gainOn 84 = .ok (.iconst 2, 1) := by decide +kernel
theorem dX2_gainOn_85 : decode cX2_gainOn 85 = .ok (.iload 5, 2) := by decide +kernel
theorem dX2_gainOn_87 : decode cX2_gainOn 87 = .ok (.imul, 1) := by decide +kernel
theorem dX2_gainOn_88 : decode cX2_gainOn 88 = .ok (.iload 6, 2) := by decide +kernel
theorem dX2_gainOn_90 : decode cX2_gainOn 90 = .ok (.isub, 1) := by decide +kernel
theorem dX2_gainOn_91 : decode cX2_gainOn 91 = .ok (.aload_n 0, 1) := by decide +kernel
theorem dX2_gainOn_92 : decode cX2_gainOn 92 = .ok (.getfield 29, 3) := by decide +kernel
theorem dX2_gainOn_95 : decode cX2_gainOn 95 = .ok (.iadd, 1) := by decide +kernel
theorem dX2_gainOn_96 : decode cX2_gainOn 96 = .ok (.ireturn, 1) := by decide +kernel
theorem dX2_gainOn_97 : decode cX2_gainOn 97 = .ok (.iload 5, 2) := by decide +kernel
theorem dX2_gainOn_99 : decode cX2_gainOn 99 = .ok (.iload 6, 2) := by decide +kernel
theorem dX2_gainOn_101 : decode cX2_gainOn 101 = .ok (.isub, 1) := by decide +kernel
theorem dX2_gainOn_102 : decode cX2_gainOn 102 = .ok (.iconst 2, 1) := by decide +kernel
theorem dX2_gainOn_103 : decode cX2_gainOn 103 = .ok (.idiv, 1) := by decide +kernel
theorem dX2_gainOn_104 : decode cX2_gainOn 104 = .ok (.ireturn, 1) := by decide +kernel
theorem dX2_gainOn_105 : decode cX2_gainOn 105 = .ok (.iload 5, 2) := by decide +kernel
theorem dX2_gainOn_107 : decode cX2_gainOn 107 = .ok (.iconst 2, 1) := by decide +kernel
theorem dX2_gainOn_108 : decode cX2_gainOn 108 = .ok (.idiv, 1) := by decide +kernel
theorem dX2_gainOn_109 : decode cX2_gainOn 109 = .ok (.iload 6, 2) := by decide +kernel
theorem dX2_gainOn_111 : decode cX2_gainOn 111 = .ok (.isub, 1) := by decide +kernel
theorem dX2_gainOn_112 : decode cX2_gainOn 112 = .ok (.aload_n 0, 1) := by decide +kernel
theorem dX2_gainOn_113 : decode cX2_gainOn 113 = .ok (.getfield 18, 3) := by decide +kernel
theorem dX2_gainOn_116 : decode cX2_gainOn 116 = .ok (.iload_n 2, 1) := by decide +kernel
theorem dX2_gainOn_117 : decode cX2_gainOn 117 = .ok (.iconst 3, 1) := by decide +kernel
theorem dX2_gainOn_118 : decode cX2_gainOn 118 = .ok (.iand, 1) := by decide +kernel
theorem dX2_gainOn_119 : decode cX2_gainOn 119 = .ok (.iaload, 1) := by decide +kernel
theorem dX2_gainOn_120 : decode cX2_gainOn 120 = .ok (.iadd, 1) := by decide +kernel
theorem dX2_gainOn_121 : decode cX2_gainOn 121 = .ok (.iconst 4, 1) := by decide +kernel
theorem dX2_gainOn_122 : decode cX2_gainOn 122 = .ok (.isub, 1) := by decide +kernel
theorem dX2_gainOn_123 : decode cX2_gainOn 123 = .ok (.ireturn, 1) := by decide +kernel
theorem dX2_gainOn_124 : decode cX2_gainOn 124 = .ok (.iload 5, 2) := by decide +kernel
theorem dX2_gainOn_126 : decode cX2_gainOn 126 = .ok (.iload 6, 2) := by decide +kernel
theorem dX2_gainOn_128 : decode cX2_gainOn 128 = .ok (.isub, 1) := by decide +kernel
theorem dX2_gainOn_129 : decode cX2_gainOn 129 = .ok (.ireturn, 1) := by decide +kernel
def pX2_gainOn : List (List gm_A) := [[(gm_push (.inl 0)), (gm_aload 1), (gm_aload 0), (gm_iload 2), (gm_iload 3), (gm_vcall 1 9 4), (gm_iload 4), (gm_op2 gm_sub), gm_max, (gm_istore 5), (gm_aload 1), (gm_aload 0), (gm_iload 2), (gm_iload 3), (gm_vcall 1 10 4), (gm_istore 6), (gm_aload 0), (gm_getI 2 201), (gm_switch [(1, 1), (2, 6), (3, 2), (4, 3), (5, 4), (6, 5)] 6)],
  [(gm_push (.inl 2)), (gm_iload 5), (gm_op2 gm_mul), (gm_iload 6), (gm_op2 gm_sub), gm_iret],
  [(gm_iload 5), (gm_push (.inl 2)), (gm_quo gm_div), (gm_iload 6), (gm_op2 gm_sub), gm_iret],
  [(gm_push (.inl 2)), (gm_iload 5), (gm_op2 gm_mul), (gm_iload 6), (gm_op2 gm_sub), (gm_aload 0), (gm_getI 2 202), (gm_op2 gm_add), gm_iret],
  [(gm_iload 5), (gm_iload 6), (gm_op2 gm_sub), (gm_push (.inl 2)), (gm_quo gm_div), gm_iret],
  [(gm_iload 5), (gm_push (.inl 2)), (gm_quo gm_div), (gm_iload 6), (gm_op2 gm_sub), (gm_aload 0), (gm_getR 2 206), (gm_iload 2), (gm_push (.inl 3)), (gm_op2 gm_and), gm_iald, (gm_op2 gm_add), (gm_push (.inl 4)), (gm_op2 gm_sub), gm_iret],
  [(gm_iload 5), (gm_iload 6), (gm_op2 gm_sub), gm_iret]]
def bpX2_gainOn : Nat → Nat := fun b => ([0, 68, 76, 84, 97, 105, 124] : List Nat).getD b 0
set_option maxRecDepth 100000 in
theorem tX2_gainOn {D : va_G} {sz : Nat} {ad : Nat → Nat} {cA : Nat → ClassId} {xs : Int → Int} {Ln : Int} {l : Launch} : gm_SB D sz ad cA xs Ln l gm_mt cX2_gainOn "LongNoon$House" 7 false 1 bpX2_gainOn 0 pX2_gainOn :=
  ⟨gm_cn 1 (gm_m_push _) (gm_s_iconst dX2_gainOn_0) (
    gm_cn 2 (gm_m_aload _) (gm_s_aload_n dX2_gainOn_1 rfl) (
    gm_cn 3 (gm_m_aload _) (gm_s_aload_n dX2_gainOn_2 rfl) (
    gm_cn 4 (gm_m_iload _) (gm_s_iload_n dX2_gainOn_3 rfl) (
    gm_cn 5 (gm_m_iload _) (gm_s_iload_n dX2_gainOn_4 rfl) (
    gm_cn 8 (gm_m_vcall _ _ _) (gcl_X1_sunOver gw_44 dX2_gainOn_5) (
    gm_cn 10 (gm_m_iload _) (gm_s_iload dX2_gainOn_8) (
    gm_cn 11 (gm_m_op2 _) (gm_s_isub dX2_gainOn_10) (
    gm_cn 14 gm_m_max (gm_s_max gw_45 gw_46 gw_43 gw_47 dX2_gainOn_11) (
    gm_cn 16 (gm_m_istore _) (gm_s_istore dX2_gainOn_14 (by decide)) (
    gm_cn 17 (gm_m_aload _) (gm_s_aload_n dX2_gainOn_16 rfl) (
    gm_cn 18 (gm_m_aload _) (gm_s_aload_n dX2_gainOn_17 rfl) (
    gm_cn 19 (gm_m_iload _) (gm_s_iload_n dX2_gainOn_18 rfl) (
    gm_cn 20 (gm_m_iload _) (gm_s_iload_n dX2_gainOn_19 rfl) (
    gm_cn 23 (gm_m_vcall _ _ _) (gcl_X1_coldOver gw_48 dX2_gainOn_20) (
    gm_cn 25 (gm_m_istore _) (gm_s_istore dX2_gainOn_23 (by decide)) (
    gm_cn 26 (gm_m_aload _) (gm_s_aload_n dX2_gainOn_25 rfl) (
    gm_cn 29 (gm_m_getI _ _) (gf_getI_2_1 gw_27 dX2_gainOn_26) (
    gm_cn 0 (gm_m_switch _ _) (gm_s_table (bpc := bpX2_gainOn) (ps := [(1, 1), (2, 6), (3, 2), (4, 3), (5, 4), (6, 5)]) (d := 6) dX2_gainOn_29 rfl rfl rfl 0) (
    trivial))))))))))))))))))),
  gm_cn 69 (gm_m_push _) (gm_s_iconst dX2_gainOn_68) (
    gm_cn 71 (gm_m_iload _) (gm_s_iload dX2_gainOn_69) (
    gm_cn 72 (gm_m_op2 _) (gm_s_imul dX2_gainOn_71) (
    gm_cn 74 (gm_m_iload _) (gm_s_iload dX2_gainOn_72) (
    gm_cn 75 (gm_m_op2 _) (gm_s_isub dX2_gainOn_74) (
    gm_cn 0 gm_m_iret (gm_s_iret dX2_gainOn_75 rfl 0) (
    trivial)))))),
  gm_cn 78 (gm_m_iload _) (gm_s_iload dX2_gainOn_76) (
    gm_cn 79 (gm_m_push _) (gm_s_iconst dX2_gainOn_78) (
    gm_cn 80 (gm_m_quo _) (gm_s_idiv dX2_gainOn_79) (
    gm_cn 82 (gm_m_iload _) (gm_s_iload dX2_gainOn_80) (
    gm_cn 83 (gm_m_op2 _) (gm_s_isub dX2_gainOn_82) (
    gm_cn 0 gm_m_iret (gm_s_iret dX2_gainOn_83 rfl 0) (
    trivial)))))),
  gm_cn 85 (gm_m_push _) (gm_s_iconst dX2_gainOn_84) (
    gm_cn 87 (gm_m_iload _) (gm_s_iload dX2_gainOn_85) (
    gm_cn 88 (gm_m_op2 _) (gm_s_imul dX2_gainOn_87) (
    gm_cn 90 (gm_m_iload _) (gm_s_iload dX2_gainOn_88) (
    gm_cn 91 (gm_m_op2 _) (gm_s_isub dX2_gainOn_90) (
    gm_cn 92 (gm_m_aload _) (gm_s_aload_n dX2_gainOn_91 rfl) (
    gm_cn 95 (gm_m_getI _ _) (gf_getI_2_2 gw_28 dX2_gainOn_92) (
    gm_cn 96 (gm_m_op2 _) (gm_s_iadd dX2_gainOn_95) (
    gm_cn 0 gm_m_iret (gm_s_iret dX2_gainOn_96 rfl 0) (
    trivial))))))))),
  gm_cn 99 (gm_m_iload _) (gm_s_iload dX2_gainOn_97) (
    gm_cn 101 (gm_m_iload _) (gm_s_iload dX2_gainOn_99) (
    gm_cn 102 (gm_m_op2 _) (gm_s_isub dX2_gainOn_101) (
    gm_cn 103 (gm_m_push _) (gm_s_iconst dX2_gainOn_102) (
    gm_cn 104 (gm_m_quo _) (gm_s_idiv dX2_gainOn_103) (
    gm_cn 0 gm_m_iret (gm_s_iret dX2_gainOn_104 rfl 0) (
    trivial)))))),
  gm_cn 107 (gm_m_iload _) (gm_s_iload dX2_gainOn_105) (
    gm_cn 108 (gm_m_push _) (gm_s_iconst dX2_gainOn_107) (
    gm_cn 109 (gm_m_quo _) (gm_s_idiv dX2_gainOn_108) (
    gm_cn 111 (gm_m_iload _) (gm_s_iload dX2_gainOn_109) (
    gm_cn 112 (gm_m_op2 _) (gm_s_isub dX2_gainOn_111) (
    gm_cn 113 (gm_m_aload _) (gm_s_aload_n dX2_gainOn_112 rfl) (
    gm_cn 116 (gm_m_getR _ _) (gf_getR_2_6 gw_25 dX2_gainOn_113) (
    gm_cn 117 (gm_m_iload _) (gm_s_iload_n dX2_gainOn_116 rfl) (
    gm_cn 118 (gm_m_push _) (gm_s_iconst dX2_gainOn_117) (
    gm_cn 119 (gm_m_op2 _) (gm_s_iand dX2_gainOn_118) (
    gm_cn 120 gm_m_iald (gm_s_iald dX2_gainOn_119) (
    gm_cn 121 (gm_m_op2 _) (gm_s_iadd dX2_gainOn_120) (
    gm_cn 122 (gm_m_push _) (gm_s_iconst dX2_gainOn_121) (
    gm_cn 123 (gm_m_op2 _) (gm_s_isub dX2_gainOn_122) (
    gm_cn 0 gm_m_iret (gm_s_iret dX2_gainOn_123 rfl 0) (
    trivial))))))))))))))),
  gm_cn 126 (gm_m_iload _) (gm_s_iload dX2_gainOn_124) (
    gm_cn 128 (gm_m_iload _) (gm_s_iload dX2_gainOn_126) (
    gm_cn 129 (gm_m_op2 _) (gm_s_isub dX2_gainOn_128) (
    gm_cn 0 gm_m_iret (gm_s_iret dX2_gainOn_129 rfl 0) (
    trivial)))), trivial⟩
theorem dX2_settle_0 : decode cX2_settle 0 = .ok (.aload_n 0, 1) := by decide +kernel
theorem dX2_settle_1 : decode cX2_settle 1 = .ok (.iconst 0, 1) := by decide +kernel
theorem dX2_settle_2 : decode cX2_settle 2 = .ok (.sipush 199, 3) := by decide +kernel
theorem dX2_settle_5 : decode cX2_settle 5 = .ok (.aload_n 0, 1) := by decide +kernel
theorem dX2_settle_6 : decode cX2_settle 6 = .ok (.getfield 32, 3) := by decide +kernel
theorem dX2_settle_9 : decode cX2_settle 9 = .ok (.iload_n 2, 1) := by decide +kernel
theorem dX2_settle_10 : decode cX2_settle 10 = .ok (.iadd, 1) := by decide +kernel
theorem dX2_settle_11 : decode cX2_settle 11 = .ok (.invokestatic 61, 3) := by decide +kernel
theorem dX2_settle_14 : decode cX2_settle 14 = .ok (.invokestatic 73, 3) := by decide +kernel
theorem dX2_settle_17 : decode cX2_settle 17 = .ok (.putfield 32, 3) := by decide +kernel
theorem dX2_settle_20 : decode cX2_settle 20 = .ok (.aload_n 0, 1) := by decide +kernel
theorem dX2_settle_21 : decode cX2_settle 21 = .ok (.getfield 32, 3) := by decide +kernel
theorem dX2_settle_24 : decode cX2_settle 24 = .ok (.aload_n 1, 1) := by decide +kernel
theorem dX2_settle_25 : decode cX2_settle 25 = .ok (.getfield 79, 3) := by decide +kernel
theorem dX2_settle_28 : decode cX2_settle 28 = .ok (.if_icmp .le 28, 3) := by decide +kernel
theorem dX2_settle_31 : decode cX2_settle 31 = .ok (.aload_n 0, 1) := by decide +kernel
theorem dX2_settle_32 : decode cX2_settle 32 = .ok (.dup, 1) := by decide +kernel
theorem dX2_settle_33 : decode cX2_settle 33 = .ok (.getfield 32, 3) := by decide +kernel
theorem dX2_settle_36 : decode cX2_settle 36 = .ok (.aload_n 3, 1) := by decide +kernel
theorem dX2_settle_37 : decode cX2_settle 37 = .ok (.aload_n 0, 1) := by decide +kernel
theorem dX2_settle_38 : decode cX2_settle 38 = .ok (.getfield 32, 3) := by decide +kernel
theorem dX2_settle_41 : decode cX2_settle 41 = .ok (.aload_n 1, 1) := by decide +kernel
theorem dX2_settle_42 : decode cX2_settle 42 = .ok (.getfield 79, 3) := by decide +kernel
theorem dX2_settle_45 : decode cX2_settle 45 = .ok (.isub, 1) := by decide +kernel
theorem dX2_settle_46 : decode cX2_settle 46 = .ok (.invokevirtual 82, 3) := by decide +kernel
theorem dX2_settle_49 : decode cX2_settle 49 = .ok (.isub, 1) := by decide +kernel
theorem dX2_settle_50 : decode cX2_settle 50 = .ok (.putfield 32, 3) := by decide +kernel
theorem dX2_settle_53 : decode cX2_settle 53 = .ok (.goto 36, 3) := by decide +kernel
theorem dX2_settle_56 : decode cX2_settle 56 = .ok (.aload_n 0, 1) := by decide +kernel
theorem dX2_settle_57 : decode cX2_settle 57 = .ok (.getfield 32, 3) := by decide +kernel
theorem dX2_settle_60 : decode cX2_settle 60 = .ok (.aload_n 1, 1) := by decide +kernel
theorem dX2_settle_61 : decode cX2_settle 61 = .ok (.getfield 86, 3) := by decide +kernel
theorem dX2_settle_64 : decode cX2_settle 64 = .ok (.if_icmp .ge 25, 3) := by decide +kernel
theorem dX2_settle_67 : decode cX2_settle 67 = .ok (.aload_n 0, 1) := by decide +kernel
theorem dX2_settle_68 : decode cX2_settle 68 = .ok (.dup, 1) := by decide +kernel
theorem dX2_settle_69 : decode cX2_settle 69 = .ok (.getfield 32, 3) := by decide +kernel
theorem dX2_settle_72 : decode cX2_settle 72 = .ok (.aload_n 3, 1) := by decide +kernel
theorem dX2_settle_73 : decode cX2_settle 73 = .ok (.aload_n 1, 1) := by decide +kernel
theorem dX2_settle_74 : decode cX2_settle 74 = .ok (.getfield 86, 3) := by decide +kernel
theorem dX2_settle_77 : decode cX2_settle 77 = .ok (.aload_n 0, 1) := by decide +kernel
theorem dX2_settle_78 : decode cX2_settle 78 = .ok (.getfield 32, 3) := by decide +kernel
theorem dX2_settle_81 : decode cX2_settle 81 = .ok (.isub, 1) := by decide +kernel
theorem dX2_settle_82 : decode cX2_settle 82 = .ok (.invokevirtual 89, 3) := by decide +kernel
theorem dX2_settle_85 : decode cX2_settle 85 = .ok (.iadd, 1) := by decide +kernel
theorem dX2_settle_86 : decode cX2_settle 86 = .ok (.putfield 32, 3) := by decide +kernel
theorem dX2_settle_89 : decode cX2_settle 89 = .ok (.aload_n 0, 1) := by decide +kernel
theorem dX2_settle_90 : decode cX2_settle 90 = .ok (.getfield 32, 3) := by decide +kernel
theorem dX2_settle_93 : decode cX2_settle 93 = .ok (.aload_n 1, 1) := by decide +kernel
theorem dX2_settle_94 : decode cX2_settle 94 = .ok (.getfield 79, 3) := by decide +kernel
theorem dX2_settle_97 : decode cX2_settle 97 = .ok (.if_icmp .gt 14, 3) := by decide +kernel
theorem dX2_settle_100 : decode cX2_settle 100 = .ok (.aload_n 0, 1) := by decide +kernel
theorem dX2_settle_101 : decode cX2_settle 101 = .ok (.getfield 32, 3) := by decide +kernel
theorem dX2_settle_104 : decode cX2_settle 104 = .ok (.aload_n 1, 1) := by decide +kernel
theorem dX2_settle_105 : decode cX2_settle 105 = .ok (.getfield 86, 3) := by decide +kernel
theorem dX2_settle_108 : decode cX2_settle 108 = .ok (.if_icmp .ge 7, 3) := by decide +kernel
theorem dX2_settle_111 : decode cX2_settle 111 = .ok (.iconst 1, 1) := by decide +kernel
theorem dX2_settle_112 : decode cX2_settle 112 = .ok (.goto 4, 3) := by decide +kernel
theorem dX2_settle_115 : decode cX2_settle 115 = .ok (.iconst 0, 1) := by decide +kernel
theorem dX2_settle_116 : decode cX2_settle 116 = .ok (.ireturn, 1) := by decide +kernel
def pX2_settle : List (List gm_A) := [[(gm_aload 0), (gm_push (.inl 0)), (gm_push (.inl 199)), (gm_aload 0), (gm_getI 2 203), (gm_iload 2), (gm_op2 gm_add), gm_min, gm_max, (gm_putI 2 203), (gm_aload 0), (gm_getI 2 203), (gm_aload 1), (gm_getI 1 103), (gm_cle 1), (gm_aload 0), gm_dup, (gm_getI 2 203), (gm_aload 3), (gm_aload 0), (gm_getI 2 203), (gm_aload 1), (gm_getI 1 103), (gm_op2 gm_sub), (gm_vcall 5 39 2), (gm_op2 gm_sub), (gm_putI 2 203), (gm_goto 2)],
  [(gm_aload 0), (gm_getI 2 203), (gm_aload 1), (gm_getI 1 102), (gm_cge 2), (gm_aload 0), gm_dup, (gm_getI 2 203), (gm_aload 3), (gm_aload 1), (gm_getI 1 102), (gm_aload 0), (gm_getI 2 203), (gm_op2 gm_sub), (gm_vcall 5 40 2), (gm_op2 gm_add), (gm_putI 2 203), (gm_goto 2)],
  [(gm_aload 0), (gm_getI 2 203), (gm_aload 1), (gm_getI 1 103), (gm_cgt 3), (gm_aload 0), (gm_getI 2 203), (gm_aload 1), (gm_getI 1 102), (gm_cge 4), (gm_goto 3)],
  [(gm_push (.inl 1)), (gm_goto 5)],
  [(gm_push (.inl 0)), (gm_goto 5)],
  [gm_zret]]
def bpX2_settle : Nat → Nat := fun b => ([0, 56, 89, 111, 115, 116] : List Nat).getD b 0
set_option maxRecDepth 100000 in
theorem tX2_settle {D : va_G} {sz : Nat} {ad : Nat → Nat} {cA : Nat → ClassId} {xs : Int → Int} {Ln : Int} {l : Launch} : gm_SB D sz ad cA xs Ln l gm_mt cX2_settle "LongNoon$House" 4 false 2 bpX2_settle 0 pX2_settle :=
  ⟨gm_cn 1 (gm_m_aload _) (gm_s_aload_n dX2_settle_0 rfl) (
    gm_cn 2 (gm_m_push _) (gm_s_iconst dX2_settle_1) (
    gm_cn 5 (gm_m_push _) (gm_s_sipush dX2_settle_2 rfl) (
    gm_cn 6 (gm_m_aload _) (gm_s_aload_n dX2_settle_5 rfl) (
    gm_cn 9 (gm_m_getI _ _) (gf_getI_2_3 gw_29 dX2_settle_6) (
    gm_cn 10 (gm_m_iload _) (gm_s_iload_n dX2_settle_9 rfl) (
    gm_cn 11 (gm_m_op2 _) (gm_s_iadd dX2_settle_10) (
    gm_cn 14 gm_m_min (gm_s_min gw_40 gw_41 gw_43 gw_42 dX2_settle_11) (
    gm_cn 17 gm_m_max (gm_s_max gw_45 gw_46 gw_43 gw_47 dX2_settle_14) (
    gm_cn 20 (gm_m_putI _ _) (gf_putI_2_3 gw_29 dX2_settle_17) (
    gm_cn 21 (gm_m_aload _) (gm_s_aload_n dX2_settle_20 rfl) (
    gm_cn 24 (gm_m_getI _ _) (gf_getI_2_3 gw_29 dX2_settle_21) (
    gm_cn 25 (gm_m_aload _) (gm_s_aload_n dX2_settle_24 rfl) (
    gm_cn 28 (gm_m_getI _ _) (gf_getI_1_3 gw_49 dX2_settle_25) (
    gm_cn 31 (gm_m_cle _) (gm_s_cle (bpc := bpX2_settle) (b := 1) dX2_settle_28 rfl) (
    gm_cn 32 (gm_m_aload _) (gm_s_aload_n dX2_settle_31 rfl) (
    gm_cn 33 gm_m_dup (gm_s_dup dX2_settle_32) (
    gm_cn 36 (gm_m_getI _ _) (gf_getI_2_3 gw_29 dX2_settle_33) (
    gm_cn 37 (gm_m_aload _) (gm_s_aload_n dX2_settle_36 rfl) (
    gm_cn 38 (gm_m_aload _) (gm_s_aload_n dX2_settle_37 rfl) (
    gm_cn 41 (gm_m_getI _ _) (gf_getI_2_3 gw_29 dX2_settle_38) (
    gm_cn 42 (gm_m_aload _) (gm_s_aload_n dX2_settle_41 rfl) (
    gm_cn 45 (gm_m_getI _ _) (gf_getI_1_3 gw_49 dX2_settle_42) (
    gm_cn 46 (gm_m_op2 _) (gm_s_isub dX2_settle_45) (
    gm_cn 49 (gm_m_vcall _ _ _) (gcl_X5_takeIn gw_50 dX2_settle_46) (
    gm_cn 50 (gm_m_op2 _) (gm_s_isub dX2_settle_49) (
    gm_cn 53 (gm_m_putI _ _) (gf_putI_2_3 gw_29 dX2_settle_50) (
    gm_cn 0 (gm_m_goto _) (gm_s_goto (bpc := bpX2_settle) (b := 2) dX2_settle_53 rfl 0) (
    trivial)))))))))))))))))))))))))))),
  gm_cn 57 (gm_m_aload _) (gm_s_aload_n dX2_settle_56 rfl) (
    gm_cn 60 (gm_m_getI _ _) (gf_getI_2_3 gw_29 dX2_settle_57) (
    gm_cn 61 (gm_m_aload _) (gm_s_aload_n dX2_settle_60 rfl) (
    gm_cn 64 (gm_m_getI _ _) (gf_getI_1_2 gw_51 dX2_settle_61) (
    gm_cn 67 (gm_m_cge _) (gm_s_cge (bpc := bpX2_settle) (b := 2) dX2_settle_64 rfl) (
    gm_cn 68 (gm_m_aload _) (gm_s_aload_n dX2_settle_67 rfl) (
    gm_cn 69 gm_m_dup (gm_s_dup dX2_settle_68) (
    gm_cn 72 (gm_m_getI _ _) (gf_getI_2_3 gw_29 dX2_settle_69) (
    gm_cn 73 (gm_m_aload _) (gm_s_aload_n dX2_settle_72 rfl) (
    gm_cn 74 (gm_m_aload _) (gm_s_aload_n dX2_settle_73 rfl) (
    gm_cn 77 (gm_m_getI _ _) (gf_getI_1_2 gw_51 dX2_settle_74) (
    gm_cn 78 (gm_m_aload _) (gm_s_aload_n dX2_settle_77 rfl) (
    gm_cn 81 (gm_m_getI _ _) (gf_getI_2_3 gw_29 dX2_settle_78) (
    gm_cn 82 (gm_m_op2 _) (gm_s_isub dX2_settle_81) (
    gm_cn 85 (gm_m_vcall _ _ _) (gcl_X5_giveOut gw_52 dX2_settle_82) (
    gm_cn 86 (gm_m_op2 _) (gm_s_iadd dX2_settle_85) (
    gm_cn 89 (gm_m_putI _ _) (gf_putI_2_3 gw_29 dX2_settle_86) (
    gm_cn 0 (gm_m_goto _) (gm_s_fall (bpc := bpX2_settle) (b := 2) rfl 0) (
    trivial)))))))))))))))))),
  gm_cn 90 (gm_m_aload _) (gm_s_aload_n dX2_settle_89 rfl) (
    gm_cn 93 (gm_m_getI _ _) (gf_getI_2_3 gw_29 dX2_settle_90) (
    gm_cn 94 (gm_m_aload _) (gm_s_aload_n dX2_settle_93 rfl) (
    gm_cn 97 (gm_m_getI _ _) (gf_getI_1_3 gw_49 dX2_settle_94) (
    gm_cn 100 (gm_m_cgt _) (gm_s_cgt (bpc := bpX2_settle) (b := 3) dX2_settle_97 rfl) (
    gm_cn 101 (gm_m_aload _) (gm_s_aload_n dX2_settle_100 rfl) (
    gm_cn 104 (gm_m_getI _ _) (gf_getI_2_3 gw_29 dX2_settle_101) (
    gm_cn 105 (gm_m_aload _) (gm_s_aload_n dX2_settle_104 rfl) (
    gm_cn 108 (gm_m_getI _ _) (gf_getI_1_2 gw_51 dX2_settle_105) (
    gm_cn 111 (gm_m_cge _) (gm_s_cge (bpc := bpX2_settle) (b := 4) dX2_settle_108 rfl) (
    gm_cn 0 (gm_m_goto _) (gm_s_fall (bpc := bpX2_settle) (b := 3) rfl 0) (
    trivial))))))))))),
  gm_cn 112 (gm_m_push _) (gm_s_iconst dX2_settle_111) (
    gm_cn 0 (gm_m_goto _) (gm_s_goto (bpc := bpX2_settle) (b := 5) dX2_settle_112 rfl 0) (
    trivial)),
  gm_cn 116 (gm_m_push _) (gm_s_iconst dX2_settle_115) (
    gm_cn 0 (gm_m_goto _) (gm_s_fall (bpc := bpX2_settle) (b := 5) rfl 0) (
    trivial)),
  gm_cn 0 gm_m_zret (gm_s_zret dX2_settle_116 rfl 0) (
    trivial), trivial⟩
theorem dX2_pass_0 : decode cX2_pass 0 = .ok (.aload_n 0, 1) := by decide +kernel
theorem dX2_pass_1 : decode cX2_pass 1 = .ok (.aload_n 1, 1) := by decide +kernel
theorem dX2_pass_2 : decode cX2_pass 2 = .ok (.iload_n 2, 1) := by decide +kernel
theorem dX2_pass_3 : decode cX2_pass 3 = .ok (.bipush 28, 2) := by decide +kernel
theorem dX2_pass_5 : decode cX2_pass 5 = .ok (.irem, 1) := by decide +kernel
theorem dX2_pass_6 : decode cX2_pass 6 = .ok (.aload_n 0, 1) := by decide +kernel
theorem dX2_pass_7 : decode cX2_pass 7 = .ok (.getfield 12, 3) := by decide +kernel
theorem dX2_pass_10 : decode cX2_pass 10 = .ok (.getfield 35, 3) := by decide +kernel
theorem dX2_pass_13 : decode cX2_pass 13 = .ok (.iload_n 3, 1) := by decide +kernel
theorem dX2_pass_14 : decode cX2_pass 14 = .ok (.invokevirtual 92, 3) := by decide +kernel
theorem dX2_pass_17 : decode cX2_pass 17 = .ok (.istore 4, 2) := by decide +kernel
theorem dX2_pass_19 : decode cX2_pass 19 = .ok (.aload_n 0, 1) := by decide +kernel
theorem dX2_pass_20 : decode cX2_pass 20 = .ok (.getfield 12, 3) := by decide +kernel
theorem dX2_pass_23 : decode cX2_pass 23 = .ok (.invokevirtual 96, 3) := by decide +kernel
theorem dX2_pass_26 : decode cX2_pass 26 = .ok (.aload_n 0, 1) := by decide +kernel
theorem dX2_pass_27 : decode cX2_pass 27 = .ok (.aload_n 1, 1) := by decide +kernel
theorem dX2_pass_28 : decode cX2_pass 28 = .ok (.iload 4, 2) := by decide +kernel
theorem dX2_pass_30 : decode cX2_pass 30 = .ok (.aload_n 0, 1) := by decide +kernel
theorem dX2_pass_31 : decode cX2_pass 31 = .ok (.getfield 12, 3) := by decide +kernel
theorem dX2_pass_34 : decode cX2_pass 34 = .ok (.invokevirtual 99, 3) := by decide +kernel
theorem dX2_pass_37 : decode cX2_pass 37 = .ok (.ireturn, 1) := by decide +kernel
def pX2_pass : List (List gm_A) := [[(gm_aload 0), (gm_aload 1), (gm_iload 2), (gm_push (.inl 28)), (gm_quo gm_rem), (gm_aload 0), (gm_getR 2 205), (gm_getI 5 500), (gm_iload 3), (gm_vcall 2 15 5), (gm_istore 4), (gm_aload 0), (gm_getR 2 205), (gm_vcall 5 38 1), (gm_aload 0), (gm_aload 1), (gm_iload 4), (gm_aload 0), (gm_getR 2 205), (gm_vcall 2 16 4), gm_zret]]
def bpX2_pass : Nat → Nat := fun b => ([0] : List Nat).getD b 0
set_option maxRecDepth 100000 in
theorem tX2_pass {D : va_G} {sz : Nat} {ad : Nat → Nat} {cA : Nat → ClassId} {xs : Int → Int} {Ln : Int} {l : Launch} : gm_SB D sz ad cA xs Ln l gm_mt cX2_pass "LongNoon$House" 5 false 2 bpX2_pass 0 pX2_pass :=
  ⟨gm_cn 1 (gm_m_aload _) (gm_s_aload_n dX2_pass_0 rfl) (
    gm_cn 2 (gm_m_aload _) (gm_s_aload_n dX2_pass_1 rfl) (
    gm_cn 3 (gm_m_iload _) (gm_s_iload_n dX2_pass_2 rfl) (
    gm_cn 5 (gm_m_push _) (gm_s_bipush dX2_pass_3 rfl) (
    gm_cn 6 (gm_m_quo _) (gm_s_irem dX2_pass_5) (
    gm_cn 7 (gm_m_aload _) (gm_s_aload_n dX2_pass_6 rfl) (
    gm_cn 10 (gm_m_getR _ _) (gf_getR_2_5 gw_24 dX2_pass_7) (
    gm_cn 13 (gm_m_getI _ _) (gf_getI_5_0 gw_30 dX2_pass_10) (
    gm_cn 14 (gm_m_iload _) (gm_s_iload_n dX2_pass_13 rfl) (
    gm_cn 17 (gm_m_vcall _ _ _) (gcl_X2_gainOn gw_53 dX2_pass_14) (
    gm_cn 19 (gm_m_istore _) (gm_s_istore dX2_pass_17 (by decide)) (
    gm_cn 20 (gm_m_aload _) (gm_s_aload_n dX2_pass_19 rfl) (
    gm_cn 23 (gm_m_getR _ _) (gf_getR_2_5 gw_24 dX2_pass_20) (
    gm_cn 26 (gm_m_vcall _ _ _) (gcl_X5_seep gw_54 dX2_pass_23) (
    gm_cn 27 (gm_m_aload _) (gm_s_aload_n dX2_pass_26 rfl) (
    gm_cn 28 (gm_m_aload _) (gm_s_aload_n dX2_pass_27 rfl) (
    gm_cn 30 (gm_m_iload _) (gm_s_iload dX2_pass_28) (
    gm_cn 31 (gm_m_aload _) (gm_s_aload_n dX2_pass_30 rfl) (
    gm_cn 34 (gm_m_getR _ _) (gf_getR_2_5 gw_24 dX2_pass_31) (
    gm_cn 37 (gm_m_vcall _ _ _) (gcl_X2_settle gw_55 dX2_pass_34) (
    gm_cn 0 gm_m_zret (gm_s_zret dX2_pass_37 rfl 0) (
    trivial))))))))))))))))))))), trivial⟩
theorem dX2_firstAmiss_0 : decode cX2_firstAmiss 0 = .ok (.iconst 1, 1) := by decide +kernel
theorem dX2_firstAmiss_1 : decode cX2_firstAmiss 1 = .ok (.istore_n 3, 1) := by decide +kernel
theorem dX2_firstAmiss_2 : decode cX2_firstAmiss 2 = .ok (.iload_n 3, 1) := by decide +kernel
theorem dX2_firstAmiss_3 : decode cX2_firstAmiss 3 = .ok (.bipush 56, 2) := by decide +kernel
theorem dX2_firstAmiss_5 : decode cX2_firstAmiss 5 = .ok (.if_icmp .gt 25, 3) := by decide +kernel
theorem dX2_firstAmiss_8 : decode cX2_firstAmiss 8 = .ok (.aload_n 0, 1) := by decide +kernel
theorem dX2_firstAmiss_9 : decode cX2_firstAmiss 9 = .ok (.aload_n 1, 1) := by decide +kernel
theorem dX2_firstAmiss_10 : decode cX2_firstAmiss 10 = .ok (.iload_n 2, 1) := by decide +kernel
theorem dX2_firstAmiss_11 : decode cX2_firstAmiss 11 = .ok (.iload_n 3, 1) := by decide +kernel
theorem dX2_firstAmiss_12 : decode cX2_firstAmiss 12 = .ok (.iadd, 1) := by decide +kernel
theorem dX2_firstAmiss_13 : decode cX2_firstAmiss 13 = .ok (.iconst 1, 1) := by decide +kernel
theorem dX2_firstAmiss_14 : decode cX2_firstAmiss 14 = .ok (.isub, 1) := by decide +kernel
theorem dX2_firstAmiss_15 : decode cX2_firstAmiss 15 = .ok (.iconst 0, 1) := by decide +kernel
theorem dX2_firstAmiss_16 : decode cX2_firstAmiss 16 = .ok (.invokevirtual 103, 3) := by decide +kernel
theorem dX2_firstAmiss_19 : decode cX2_firstAmiss 19 = .ok (.ifCond .eq 5, 3) := by decide +kernel
theorem dX2_firstAmiss_22 : decode cX2_firstAmiss 22 = .ok (.iload_n 3, 1) := by decide +kernel
theorem dX2_firstAmiss_23 : decode cX2_firstAmiss 23 = .ok (.ireturn, 1) := by decide +kernel
theorem dX2_firstAmiss_24 : decode cX2_firstAmiss 24 = .ok (.iinc 3 1, 3) := by decide +kernel
theorem dX2_firstAmiss_27 : decode cX2_firstAmiss 27 = .ok (.goto (-25), 3) := by decide +kernel
theorem dX2_firstAmiss_30 : decode cX2_firstAmiss 30 = .ok (.bipush (-5), 2) := by decide +kernel
theorem dX2_firstAmiss_32 : decode cX2_firstAmiss 32 = .ok (.ireturn, 1) := by decide +kernel
def pX2_firstAmiss : List (List gm_A) := [[(gm_push (.inl 1)), (gm_istore 3), (gm_goto 1)],
  [(gm_iload 3), (gm_push (.inl 56)), (gm_cgt 3), (gm_aload 0), (gm_aload 1), (gm_iload 2), (gm_iload 3), (gm_op2 gm_add), (gm_push (.inl 1)), (gm_op2 gm_sub), (gm_push (.inl 0)), (gm_vcall 2 17 4), (gm_ifeq 2), (gm_iload 3), gm_iret],
  [(gm_iinc 3 1), (gm_goto 1)],
  [(gm_push (.inl (-5))), gm_iret]]
def bpX2_firstAmiss : Nat → Nat := fun b => ([0, 2, 24, 30] : List Nat).getD b 0
set_option maxRecDepth 100000 in
theorem tX2_firstAmiss {D : va_G} {sz : Nat} {ad : Nat → Nat} {cA : Nat → ClassId} {xs : Int → Int} {Ln : Int} {l : Launch} : gm_SB D sz ad cA xs Ln l gm_mt cX2_firstAmiss "LongNoon$House" 4 false 1 bpX2_firstAmiss 0 pX2_firstAmiss :=
  ⟨gm_cn 1 (gm_m_push _) (gm_s_iconst dX2_firstAmiss_0) (
    gm_cn 2 (gm_m_istore _) (gm_s_istore_n dX2_firstAmiss_1 rfl (by decide)) (
    gm_cn 0 (gm_m_goto _) (gm_s_fall (bpc := bpX2_firstAmiss) (b := 1) rfl 0) (
    trivial))),
  gm_cn 3 (gm_m_iload _) (gm_s_iload_n dX2_firstAmiss_2 rfl) (
    gm_cn 5 (gm_m_push _) (gm_s_bipush dX2_firstAmiss_3 rfl) (
    gm_cn 8 (gm_m_cgt _) (gm_s_cgt (bpc := bpX2_firstAmiss) (b := 3) dX2_firstAmiss_5 rfl) (
    gm_cn 9 (gm_m_aload _) (gm_s_aload_n dX2_firstAmiss_8 rfl) (
    gm_cn 10 (gm_m_aload _) (gm_s_aload_n dX2_firstAmiss_9 rfl) (
    gm_cn 11 (gm_m_iload _) (gm_s_iload_n dX2_firstAmiss_10 rfl) (
    gm_cn 12 (gm_m_iload _) (gm_s_iload_n dX2_firstAmiss_11 rfl) (
    gm_cn 13 (gm_m_op2 _) (gm_s_iadd dX2_firstAmiss_12) (
    gm_cn 14 (gm_m_push _) (gm_s_iconst dX2_firstAmiss_13) (
    gm_cn 15 (gm_m_op2 _) (gm_s_isub dX2_firstAmiss_14) (
    gm_cn 16 (gm_m_push _) (gm_s_iconst dX2_firstAmiss_15) (
    gm_cn 19 (gm_m_vcall _ _ _) (gcl_X2_pass gw_56 dX2_firstAmiss_16) (
    gm_cn 22 (gm_m_ifeq _) (gm_s_ifeq (bpc := bpX2_firstAmiss) (b := 2) dX2_firstAmiss_19 rfl) (
    gm_cn 23 (gm_m_iload _) (gm_s_iload_n dX2_firstAmiss_22 rfl) (
    gm_cn 0 gm_m_iret (gm_s_iret dX2_firstAmiss_23 rfl 0) (
    trivial))))))))))))))),
  gm_cn 27 (gm_m_iinc _ _) (gm_s_iinc dX2_firstAmiss_24 (by decide)) (
    gm_cn 0 (gm_m_goto _) (gm_s_goto (bpc := bpX2_firstAmiss) (b := 1) dX2_firstAmiss_27 rfl 0) (
    trivial)),
  gm_cn 32 (gm_m_push _) (gm_s_bipush dX2_firstAmiss_30 rfl) (
    gm_cn 0 gm_m_iret (gm_s_iret dX2_firstAmiss_32 rfl 0) (
    trivial)), trivial⟩
theorem dX2_amissDays_0 : decode cX2_amissDays 0 = .ok (.iconst 0, 1) := by decide +kernel
theorem dX2_amissDays_1 : decode cX2_amissDays 1 = .ok (.istore 5, 2) := by decide +kernel
theorem dX2_amissDays_3 : decode cX2_amissDays 3 = .ok (.iconst 1, 1) := by decide +kernel
theorem dX2_amissDays_4 : decode cX2_amissDays 4 = .ok (.istore 6, 2) := by decide +kernel
theorem dX2_amissDays_6 : decode cX2_amissDays 6 = .ok (.iload 6, 2) := by decide +kernel
theorem dX2_amissDays_8 : decode cX2_amissDays 8 = .ok (.iload_n 3, 1) := by decide +kernel
theorem dX2_amissDays_9 : decode cX2_amissDays 9 = .ok (.if_icmp .gt 66, 3) := by decide +kernel
theorem dX2_amissDays_12 : decode cX2_amissDays 12 = .ok (.iload 4, 2) := by decide +kernel
theorem dX2_amissDays_14 : decode cX2_amissDays 14 = .ok (.ifCond .eq 23, 3) := by decide +kernel
theorem dX2_amissDays_17 : decode cX2_amissDays 17 = .ok (.iload 6, 2) := by decide +kernel
theorem dX2_amissDays_19 : decode cX2_amissDays 19 = .ok (.iload 4, 2) := by decide +kernel
theorem dX2_amissDays_21 : decode cX2_amissDays 21 = .ok (.if_icmp .lt 16, 3) := by decide +kernel
theorem dX2_amissDays_24 : decode cX2_amissDays 24 = .ok (.iload 6, 2) := by decide +kernel
theorem dX2_amissDays_26 : decode cX2_amissDays 26 = .ok (.iload 4, 2) := by decide +kernel
theorem dX2_amissDays_28 : decode cX2_amissDays 28 = .ok (.iconst 4, 1) := by decide +kernel
theorem dX2_amissDays_29 : decode cX2_amissDays 29 = .ok (.iadd, 1) := by decide +kernel
theorem dX2_amissDays_30 : decode cX2_amissDays 30 = .ok (.if_icmp .gt 7, 3) := by decide +kernel
theorem dX2_amissDays_33 : decode cX2_amissDays 33 = .ok (.iconst 1, 1) := by decide +kernel
theorem dX2_amissDays_34 : decode cX2_amissDays 34 = .ok (.goto 4, 3) := by decide +kernel
theorem dX2_amissDays_37 : decode cX2_amissDays 37 = .ok (.iconst 0, 1) := by decide +kernel
theorem dX2_amissDays_38 : decode cX2_amissDays 38 = .ok (.istore 7, 2) := by decide +kernel
theorem dX2_amissDays_40 : decode cX2_amissDays 40 = .ok (.aload_n 0, 1) := by decide +kernel
theorem dX2_amissDays_41 : decode cX2_amissDays 41 = .ok (.aload_n 1, 1) := by decide +kernel
theorem dX2_amissDays_42 : decode cX2_amissDays 42 = .ok (.iload_n 2, 1) := by decide +kernel
theorem dX2_amissDays_43 : decode cX2_amissDays 43 = .ok (.iload 6, 2) := by decide +kernel
theorem dX2_amissDays_45 : decode cX2_amissDays 45 = .ok (.iadd, 1) := by decide +kernel
theorem dX2_amissDays_46 : decode cX2_amissDays 46 = .ok (.iconst 1, 1) := by decide +kernel
theorem dX2_amissDays_47 : decode cX2_amissDays 47 = .ok (.isub, 1) := by decide +kernel
theorem dX2_amissDays_48 : decode cX2_amissDays 48 = .ok (.iload 7, 2) := by decide +kernel
theorem dX2_amissDays_50 : decode cX2_amissDays 50 = .ok (.ifCond .eq 9, 3) := by decide +kernel
theorem dX2_amissDays_53 : decode cX2_amissDays 53 = .ok (.sipush 1000, 3) := by decide +kernel
theorem dX2_amissDays_56 : decode cX2_amissDays 56 = .ok (.goto 4, 3) := by decide +kernel
theorem dX2_amissDays_59 : decode cX2_amissDays 59 = .ok (.iconst 0, 1) := by decide +kernel
theorem dX2_amissDays_60 : decode cX2_amissDays 60 = .ok (.invokevirtual 103, 3) := by decide +kernel
theorem dX2_amissDays_63 : decode cX2_amissDays 63 = .ok (.ifCond .eq 6, 3) := by decide +kernel
theorem dX2_amissDays_66 : decode cX2_amissDays 66 = .ok (.iinc 5 1, 3) := by decide +kernel
theorem dX2_amissDays_69 : decode cX2_amissDays 69 = .ok (.iinc 6 1, 3) := by decide +kernel
theorem dX2_amissDays_72 : decode cX2_amissDays 72 = .ok (.goto (-66), 3) := by decide +kernel
theorem dX2_amissDays_75 : decode cX2_amissDays 75 = .ok (.iload 5, 2) := by decide +kernel
theorem dX2_amissDays_77 : decode cX2_amissDays 77 = .ok (.ireturn, 1) := by decide +kernel
def pX2_amissDays : List (List gm_A) := [[(gm_push (.inl 0)), (gm_istore 5), (gm_push (.inl 1)), (gm_istore 6), (gm_goto 1)],
  [(gm_iload 6), (gm_iload 3), (gm_cgt 7), (gm_iload 4), (gm_ifeq 2), (gm_iload 6), (gm_iload 4), (gm_clt 2), (gm_iload 6), (gm_iload 4), (gm_push (.inl 4)), (gm_op2 gm_add), (gm_cgt 2), (gm_push (.inl 1)), (gm_goto 3)],
  [(gm_push (.inl 0)), (gm_goto 3)],
  [(gm_istore 7), (gm_aload 0), (gm_aload 1), (gm_iload 2), (gm_iload 6), (gm_op2 gm_add), (gm_push (.inl 1)), (gm_op2 gm_sub), (gm_iload 7), (gm_ifeq 4), (gm_push (.inl 1000)), (gm_goto 5)],
  [(gm_push (.inl 0)), (gm_goto 5)],
  [(gm_vcall 2 17 4), (gm_ifeq 6), (gm_iinc 5 1), (gm_goto 6)],
  [(gm_iinc 6 1), (gm_goto 1)],
  [(gm_iload 5), gm_iret]]
def bpX2_amissDays : Nat → Nat := fun b => ([0, 6, 37, 38, 59, 60, 69, 75] : List Nat).getD b 0
set_option maxRecDepth 100000 in
theorem tX2_amissDays {D : va_G} {sz : Nat} {ad : Nat → Nat} {cA : Nat → ClassId} {xs : Int → Int} {Ln : Int} {l : Launch} : gm_SB D sz ad cA xs Ln l gm_mt cX2_amissDays "LongNoon$House" 8 false 1 bpX2_amissDays 0 pX2_amissDays :=
  ⟨gm_cn 1 (gm_m_push _) (gm_s_iconst dX2_amissDays_0) (
    gm_cn 3 (gm_m_istore _) (gm_s_istore dX2_amissDays_1 (by decide)) (
    gm_cn 4 (gm_m_push _) (gm_s_iconst dX2_amissDays_3) (
    gm_cn 6 (gm_m_istore _) (gm_s_istore dX2_amissDays_4 (by decide)) (
    gm_cn 0 (gm_m_goto _) (gm_s_fall (bpc := bpX2_amissDays) (b := 1) rfl 0) (
    trivial))))),
  gm_cn 8 (gm_m_iload _) (gm_s_iload dX2_amissDays_6) (
    gm_cn 9 (gm_m_iload _) (gm_s_iload_n dX2_amissDays_8 rfl) (
    gm_cn 12 (gm_m_cgt _) (gm_s_cgt (bpc := bpX2_amissDays) (b := 7) dX2_amissDays_9 rfl) (
    gm_cn 14 (gm_m_iload _) (gm_s_iload dX2_amissDays_12) (
    gm_cn 17 (gm_m_ifeq _) (gm_s_ifeq (bpc := bpX2_amissDays) (b := 2) dX2_amissDays_14 rfl) (
    gm_cn 19 (gm_m_iload _) (gm_s_iload dX2_amissDays_17) (
    gm_cn 21 (gm_m_iload _) (gm_s_iload dX2_amissDays_19) (
    gm_cn 24 (gm_m_clt _) (gm_s_clt (bpc := bpX2_amissDays) (b := 2) dX2_amissDays_21 rfl) (
    gm_cn 26 (gm_m_iload _) (gm_s_iload dX2_amissDays_24) (
    gm_cn 28 (gm_m_iload _) (gm_s_iload dX2_amissDays_26) (
    gm_cn 29 (gm_m_push _) (gm_s_iconst dX2_amissDays_28) (
    gm_cn 30 (gm_m_op2 _) (gm_s_iadd dX2_amissDays_29) (
    gm_cn 33 (gm_m_cgt _) (gm_s_cgt (bpc := bpX2_amissDays) (b := 2) dX2_amissDays_30 rfl) (
    gm_cn 34 (gm_m_push _) (gm_s_iconst dX2_amissDays_33) (
    gm_cn 0 (gm_m_goto _) (gm_s_goto (bpc := bpX2_amissDays) (b := 3) dX2_amissDays_34 rfl 0) (
    trivial))))))))))))))),
  gm_cn 38 (gm_m_push _) (gm_s_iconst dX2_amissDays_37) (
    gm_cn 0 (gm_m_goto _) (gm_s_fall (bpc := bpX2_amissDays) (b := 3) rfl 0) (
    trivial)),
  gm_cn 40 (gm_m_istore _) (gm_s_istore dX2_amissDays_38 (by decide)) (
    gm_cn 41 (gm_m_aload _) (gm_s_aload_n dX2_amissDays_40 rfl) (
    gm_cn 42 (gm_m_aload _) (gm_s_aload_n dX2_amissDays_41 rfl) (
    gm_cn 43 (gm_m_iload _) (gm_s_iload_n dX2_amissDays_42 rfl) (
    gm_cn 45 (gm_m_iload _) (gm_s_iload dX2_amissDays_43) (
    gm_cn 46 (gm_m_op2 _) (gm_s_iadd dX2_amissDays_45) (
    gm_cn 47 (gm_m_push _) (gm_s_iconst dX2_amissDays_46) (
    gm_cn 48 (gm_m_op2 _) (gm_s_isub dX2_amissDays_47) (
    gm_cn 50 (gm_m_iload _) (gm_s_iload dX2_amissDays_48) (
    gm_cn 53 (gm_m_ifeq _) (gm_s_ifeq (bpc := bpX2_amissDays) (b := 4) dX2_amissDays_50 rfl) (
    gm_cn 56 (gm_m_push _) (gm_s_sipush dX2_amissDays_53 rfl) (
    gm_cn 0 (gm_m_goto _) (gm_s_goto (bpc := bpX2_amissDays) (b := 5) dX2_amissDays_56 rfl 0) (
    trivial)))))))))))),
  gm_cn 60 (gm_m_push _) (gm_s_iconst dX2_amissDays_59) (
    gm_cn 0 (gm_m_goto _) (gm_s_fall (bpc := bpX2_amissDays) (b := 5) rfl 0) (
    trivial)),
  gm_cn 63 (gm_m_vcall _ _ _) (gcl_X2_pass gw_56 dX2_amissDays_60) (
    gm_cn 66 (gm_m_ifeq _) (gm_s_ifeq (bpc := bpX2_amissDays) (b := 6) dX2_amissDays_63 rfl) (
    gm_cn 69 (gm_m_iinc _ _) (gm_s_iinc dX2_amissDays_66 (by decide)) (
    gm_cn 0 (gm_m_goto _) (gm_s_fall (bpc := bpX2_amissDays) (b := 6) rfl 0) (
    trivial)))),
  gm_cn 72 (gm_m_iinc _ _) (gm_s_iinc dX2_amissDays_69 (by decide)) (
    gm_cn 0 (gm_m_goto _) (gm_s_goto (bpc := bpX2_amissDays) (b := 1) dX2_amissDays_72 rfl 0) (
    trivial)),
  gm_cn 77 (gm_m_iload _) (gm_s_iload dX2_amissDays_75) (
    gm_cn 0 gm_m_iret (gm_s_iret dX2_amissDays_77 rfl 0) (
    trivial)), trivial⟩
theorem dX3_init_0 : decode cX3_init 0 = .ok (.aload_n 0, 1) := by decide +kernel
theorem dX3_init_1 : decode cX3_init 1 = .ok (.invokespecial 3, 3) := by decide +kernel
theorem dX3_init_4 : decode cX3_init 4 = .ok (.aload_n 0, 1) := by decide +kernel
theorem dX3_init_5 : decode cX3_init 5 = .ok (.bipush 20, 2) := by decide +kernel
theorem dX3_init_7 : decode cX3_init 7 = .ok (.newarray .int, 2) := by decide +kernel
theorem dX3_init_9 : decode cX3_init 9 = .ok (.putfield 9, 3) := by decide +kernel
theorem dX3_init_12 : decode cX3_init 12 = .ok (.return_, 1) := by decide +kernel
def pX3_init : List (List gm_A) := [[(gm_aload 0), gm_oinit, (gm_aload 0), (gm_push (.inl 20)), (gm_newarr 20), (gm_putR 3 300), gm_vret]]
def bpX3_init : Nat → Nat := fun b => ([0] : List Nat).getD b 0
set_option maxRecDepth 100000 in
theorem tX3_init {D : va_G} {sz : Nat} {ad : Nat → Nat} {cA : Nat → ClassId} {xs : Int → Int} {Ln : Int} {l : Launch} : gm_SB D sz ad cA xs Ln l gm_mt cX3_init "LongNoon$Player" 1 true 0 bpX3_init 0 pX3_init :=
  ⟨gm_cn 1 (gm_m_aload _) (gm_s_aload_n dX3_init_0 rfl) (
    gm_cn 4 gm_m_oinit (gm_s_oinit gw_57 gw_1 gw_2 dX3_init_1) (
    gm_cn 5 (gm_m_aload _) (gm_s_aload_n dX3_init_4 rfl) (
    gm_cn 7 (gm_m_push _) (gm_s_bipush dX3_init_5 rfl) (
    gm_cn 9 (gm_m_newarr _) (gm_s_newarr (atype := .int) (t0 := 0) (ty := .int) rfl gw_3 (fun _ => rfl) (Or.inr (Or.inl ⟨rfl, rfl⟩)) dX3_init_7) (
    gm_cn 12 (gm_m_putR _ _) (gf_putR_3_0 gw_58 dX3_init_9) (
    gm_cn 0 gm_m_vret (gm_s_vret dX3_init_12 rfl 0) (
    trivial))))))), trivial⟩
theorem dX3_forget_0 : decode cX3_forget 0 = .ok (.aload_n 0, 1) := by decide +kernel
theorem dX3_forget_1 : decode cX3_forget 1 = .ok (.iconst 0, 1) := by decide +kernel
theorem dX3_forget_2 : decode cX3_forget 2 = .ok (.putfield 15, 3) := by decide +kernel
theorem dX3_forget_5 : decode cX3_forget 5 = .ok (.return_, 1) := by decide +kernel
def pX3_forget : List (List gm_A) := [[(gm_aload 0), (gm_push (.inl 0)), (gm_putI 3 301), gm_vret]]
def bpX3_forget : Nat → Nat := fun b => ([0] : List Nat).getD b 0
set_option maxRecDepth 100000 in
theorem tX3_forget {D : va_G} {sz : Nat} {ad : Nat → Nat} {cA : Nat → ClassId} {xs : Int → Int} {Ln : Int} {l : Launch} : gm_SB D sz ad cA xs Ln l gm_mt cX3_forget "LongNoon$Player" 1 false 0 bpX3_forget 0 pX3_forget :=
  ⟨gm_cn 1 (gm_m_aload _) (gm_s_aload_n dX3_forget_0 rfl) (
    gm_cn 2 (gm_m_push _) (gm_s_iconst dX3_forget_1) (
    gm_cn 5 (gm_m_putI _ _) (gf_putI_3_1 gw_59 dX3_forget_2) (
    gm_cn 0 gm_m_vret (gm_s_vret dX3_forget_5 rfl 0) (
    trivial)))), trivial⟩
theorem dX3_play_0 : decode cX3_play 0 = .ok (.aload_n 0, 1) := by decide +kernel
theorem dX3_play_1 : decode cX3_play 1 = .ok (.aload_n 1, 1) := by decide +kernel
theorem dX3_play_2 : decode cX3_play 2 = .ok (.aload_n 1, 1) := by decide +kernel
theorem dX3_play_3 : decode cX3_play 3 = .ok (.getfield 19, 3) := by decide +kernel
theorem dX3_play_6 : decode cX3_play 6 = .ok (.iload_n 2, 1) := by decide +kernel
theorem dX3_play_7 : decode cX3_play 7 = .ok (.iload_n 3, 1) := by decide +kernel
theorem dX3_play_8 : decode cX3_play 8 = .ok (.iconst 0, 1) := by decide +kernel
theorem dX3_play_9 : decode cX3_play 9 = .ok (.invokevirtual 24, 3) := by decide +kernel
theorem dX3_play_12 : decode cX3_play 12 = .ok (.ireturn, 1) := by decide +kernel
def pX3_play : List (List gm_A) := [[(gm_aload 0), (gm_aload 1), (gm_aload 1), (gm_getI 2 201), (gm_iload 2), (gm_iload 3), (gm_push (.inl 0)), (gm_vcall 3 23 6), gm_iret]]
def bpX3_play : Nat → Nat := fun b => ([0] : List Nat).getD b 0
set_option maxRecDepth 100000 in
theorem tX3_play {D : va_G} {sz : Nat} {ad : Nat → Nat} {cA : Nat → ClassId} {xs : Int → Int} {Ln : Int} {l : Launch} : gm_SB D sz ad cA xs Ln l gm_mt cX3_play "LongNoon$Player" 4 false 1 bpX3_play 0 pX3_play :=
  ⟨gm_cn 1 (gm_m_aload _) (gm_s_aload_n dX3_play_0 rfl) (
    gm_cn 2 (gm_m_aload _) (gm_s_aload_n dX3_play_1 rfl) (
    gm_cn 3 (gm_m_aload _) (gm_s_aload_n dX3_play_2 rfl) (
    gm_cn 6 (gm_m_getI _ _) (gf_getI_2_1 gw_60 dX3_play_3) (
    gm_cn 7 (gm_m_iload _) (gm_s_iload_n dX3_play_6 rfl) (
    gm_cn 8 (gm_m_iload _) (gm_s_iload_n dX3_play_7 rfl) (
    gm_cn 9 (gm_m_push _) (gm_s_iconst dX3_play_8) (
    gm_cn 12 (gm_m_vcall _ _ _) (gcl_X3_call gw_61 dX3_play_9) (
    gm_cn 0 gm_m_iret (gm_s_iret dX3_play_12 rfl 0) (
    trivial))))))))), trivial⟩
theorem dX3_call_0 : decode cX3_call 0 = .ok (.iload_n 2, 1) := by decide +kernel
theorem dX3_call_1 : decode cX3_call 1 = .ok (.istore 6, 2) := by decide +kernel
theorem dX3_call_3 : decode cX3_call 3 = .ok (.iconst 0, 1) := by decide +kernel
theorem dX3_call_4 : decode cX3_call 4 = .ok (.istore 7, 2) := by decide +kernel
theorem dX3_call_6 : decode cX3_call 6 = .ok (.iload 7, 2) := by decide +kernel
theorem dX3_call_8 : decode cX3_call 8 = .ok (.getstatic 28, 3) := by decide +kernel
theorem dX3_call_11 : decode cX3_call 11 = .ok (.arraylength, 1) := by decide +kernel
theorem dX3_call_12 : decode cX3_call 12 = .ok (.if_icmp .ge 91, 3) := by decide +kernel
theorem dX3_call_15 : decode cX3_call 15 = .ok (.iload 6, 2) := by decide +kernel
theorem dX3_call_17 : decode cX3_call 17 = .ok (.ifCond .lt 86, 3) := by decide +kernel
theorem dX3_call_20 : decode cX3_call 20 = .ok (.iload 6, 2) := by decide +kernel
theorem dX3_call_22 : decode cX3_call 22 = .ok (.getstatic 28, 3) := by decide +kernel
theorem dX3_call_25 : decode cX3_call 25 = .ok (.arraylength, 1) := by decide +kernel
theorem dX3_call_26 : decode cX3_call 26 = .ok (.if_icmp .ge 77, 3) := by decide +kernel
theorem dX3_call_29 : decode cX3_call 29 = .ok (.iconst 3, 1) := by decide +kernel
theorem dX3_call_30 : decode cX3_call 30 = .ok (.iload 6, 2) := by decide +kernel
theorem dX3_call_32 : decode cX3_call 32 = .ok (.imul, 1) := by decide +kernel
theorem dX3_call_33 : decode cX3_call 33 = .ok (.iload_n 3, 1) := by decide +kernel
theorem dX3_call_34 : decode cX3_call 34 = .ok (.iadd, 1) := by decide +kernel
theorem dX3_call_35 : decode cX3_call 35 = .ok (.istore 8, 2) := by decide +kernel
theorem dX3_call_37 : decode cX3_call 37 = .ok (.iload 8, 2) := by decide +kernel
theorem dX3_call_39 : decode cX3_call 39 = .ok (.ifCond .lt 50, 3) := by decide +kernel
theorem dX3_call_42 : decode cX3_call 42 = .ok (.iload 8, 2) := by decide +kernel
theorem dX3_call_44 : decode cX3_call 44 = .ok (.getstatic 31, 3) := by decide +kernel
theorem dX3_call_47 : decode cX3_call 47 = .ok (.arraylength, 1) := by decide +kernel
theorem dX3_call_48 : decode cX3_call 48 = .ok (.if_icmp .ge 41, 3) := by decide +kernel
theorem dX3_call_51 : decode cX3_call 51 = .ok (.getstatic 31, 3) := by decide +kernel
theorem dX3_call_54 : decode cX3_call 54 = .ok (.iload 8, 2) := by decide +kernel
theorem dX3_call_56 : decode cX3_call 56 = .ok (.iaload, 1) := by decide +kernel
theorem dX3_call_57 : decode cX3_call 57 = .ok (.ifCond .eq 32, 3) := by decide +kernel
theorem dX3_call_60 : decode cX3_call 60 = .ok (.iload 5, 2) := by decide +kernel
theorem dX3_call_62 : decode cX3_call 62 = .ok (.bipush 40, 2) := by decide +kernel
theorem dX3_call_64 : decode cX3_call 64 = .ok (.if_icmp .ge 23, 3) := by decide +kernel
theorem dX3_call_67 : decode cX3_call 67 = .ok (.aload_n 0, 1) := by decide +kernel
theorem dX3_call_68 : decode cX3_call 68 = .ok (.getstatic 31, 3) := by decide +kernel
theorem dX3_call_71 : decode cX3_call 71 = .ok (.iload 8, 2) := by decide +kernel
theorem dX3_call_73 : decode cX3_call 73 = .ok (.iaload, 1) := by decide +kernel
theorem dX3_call_74 : decode cX3_call 74 = .ok (.aload_n 1, 1) := by decide +kernel
theorem dX3_call_75 : decode cX3_call 75 = .ok (.iload 4, 2) := by decide +kernel
theorem dX3_call_77 : decode cX3_call 77 = .ok (.iload 5, 2) := by decide +kernel
theorem dX3_call_79 : decode cX3_call 79 = .ok (.iconst 1, 1) := by decide +kernel
theorem dX3_call_80 : decode cX3_call 80 = .ok (.iadd, 1) := by decide +kernel
theorem dX3_call_81 : decode cX3_call 81 = .ok (.invokevirtual 34, 3) := by decide +kernel
theorem dX3_call_84 : decode cX3_call 84 = .ok (.goto 4, 3) := by decide +kernel
theorem dX3_call_87 : decode cX3_call 87 = .ok (.iconst 0, 1) := by decide +kernel
theorem dX3_call_88 : decode cX3_call 88 = .ok (.ireturn, 1) := by decide +kernel
theorem dX3_call_89 : decode cX3_call 89 = .ok (.getstatic 28, 3) := by decide +kernel
theorem dX3_call_92 : decode cX3_call 92 = .ok (.iload 6, 2) := by decide +kernel
theorem dX3_call_94 : decode cX3_call 94 = .ok (.iaload, 1) := by decide +kernel
theorem dX3_call_95 : decode cX3_call 95 = .ok (.istore 6, 2) := by decide +kernel
theorem dX3_call_97 : decode cX3_call 97 = .ok (.iinc 7 1, 3) := by decide +kernel
theorem dX3_call_100 : decode cX3_call 100 = .ok (.goto (-94), 3) := by decide +kernel
theorem dX3_call_103 : decode cX3_call 103 = .ok (.iconst 0, 1) := by decide +kernel
theorem dX3_call_104 : decode cX3_call 104 = .ok (.ireturn, 1) := by decide +kernel
def pX3_call : List (List gm_A) := [[(gm_iload 2), (gm_istore 6), (gm_push (.inl 0)), (gm_istore 7), (gm_goto 1)],
  [(gm_iload 7), (gm_push (.inr (.inr 1000))), gm_alen, (gm_cge 5), (gm_iload 6), (gm_iflt 5), (gm_iload 6), (gm_push (.inr (.inr 1000))), gm_alen, (gm_cge 5), (gm_push (.inl 3)), (gm_iload 6), (gm_op2 gm_mul), (gm_iload 3), (gm_op2 gm_add), (gm_istore 8), (gm_iload 8), (gm_iflt 4), (gm_iload 8), (gm_push (.inr (.inr 1001))), gm_alen, (gm_cge 4), (gm_push (.inr (.inr 1001))), (gm_iload 8), gm_iald, (gm_ifeq 4), (gm_iload 5), (gm_push (.inl 40)), (gm_cge 2), (gm_aload 0), (gm_push (.inr (.inr 1001))), (gm_iload 8), gm_iald, (gm_aload 1), (gm_iload 4), (gm_iload 5), (gm_push (.inl 1)), (gm_op2 gm_add), (gm_vcall 3 24 5), (gm_goto 3)],
  [(gm_push (.inl 0)), (gm_goto 3)],
  [gm_iret],
  [(gm_push (.inr (.inr 1000))), (gm_iload 6), gm_iald, (gm_istore 6), (gm_iinc 7 1), (gm_goto 1)],
  [(gm_push (.inl 0)), gm_iret]]
def bpX3_call : Nat → Nat := fun b => ([0, 6, 87, 88, 89, 103] : List Nat).getD b 0
set_option maxRecDepth 100000 in
theorem tX3_call {D : va_G} {sz : Nat} {ad : Nat → Nat} {cA : Nat → ClassId} {xs : Int → Int} {Ln : Int} {l : Launch} : gm_SB D sz ad cA xs Ln l gm_mt cX3_call "LongNoon$Player" 9 false 1 bpX3_call 0 pX3_call :=
  ⟨gm_cn 1 (gm_m_iload _) (gm_s_iload_n dX3_call_0 rfl) (
    gm_cn 3 (gm_m_istore _) (gm_s_istore dX3_call_1 (by decide)) (
    gm_cn 4 (gm_m_push _) (gm_s_iconst dX3_call_3) (
    gm_cn 6 (gm_m_istore _) (gm_s_istore dX3_call_4 (by decide)) (
    gm_cn 0 (gm_m_goto _) (gm_s_fall (bpc := bpX3_call) (b := 1) rfl 0) (
    trivial))))),
  gm_cn 8 (gm_m_iload _) (gm_s_iload dX3_call_6) (
    gm_cn 11 (gm_m_push _) (gm_s_aboveN rfl dX3_call_8) (
    gm_cn 12 gm_m_alen (gm_s_alen dX3_call_11) (
    gm_cn 15 (gm_m_cge _) (gm_s_cge (bpc := bpX3_call) (b := 5) dX3_call_12 rfl) (
    gm_cn 17 (gm_m_iload _) (gm_s_iload dX3_call_15) (
    gm_cn 20 (gm_m_iflt _) (gm_s_iflt (bpc := bpX3_call) (b := 5) dX3_call_17 rfl) (
    gm_cn 22 (gm_m_iload _) (gm_s_iload dX3_call_20) (
    gm_cn 25 (gm_m_push _) (gm_s_aboveN rfl dX3_call_22) (
    gm_cn 26 gm_m_alen (gm_s_alen dX3_call_25) (
    gm_cn 29 (gm_m_cge _) (gm_s_cge (bpc := bpX3_call) (b := 5) dX3_call_26 rfl) (
    gm_cn 30 (gm_m_push _) (gm_s_iconst dX3_call_29) (
    gm_cn 32 (gm_m_iload _) (gm_s_iload dX3_call_30) (
    gm_cn 33 (gm_m_op2 _) (gm_s_imul dX3_call_32) (
    gm_cn 34 (gm_m_iload _) (gm_s_iload_n dX3_call_33 rfl) (
    gm_cn 35 (gm_m_op2 _) (gm_s_iadd dX3_call_34) (
    gm_cn 37 (gm_m_istore _) (gm_s_istore dX3_call_35 (by decide)) (
    gm_cn 39 (gm_m_iload _) (gm_s_iload dX3_call_37) (
    gm_cn 42 (gm_m_iflt _) (gm_s_iflt (bpc := bpX3_call) (b := 4) dX3_call_39 rfl) (
    gm_cn 44 (gm_m_iload _) (gm_s_iload dX3_call_42) (
    gm_cn 47 (gm_m_push _) (gm_s_body gw_62 dX3_call_44) (
    gm_cn 48 gm_m_alen (gm_s_alen dX3_call_47) (
    gm_cn 51 (gm_m_cge _) (gm_s_cge (bpc := bpX3_call) (b := 4) dX3_call_48 rfl) (
    gm_cn 54 (gm_m_push _) (gm_s_body gw_62 dX3_call_51) (
    gm_cn 56 (gm_m_iload _) (gm_s_iload dX3_call_54) (
    gm_cn 57 gm_m_iald (gm_s_iald dX3_call_56) (
    gm_cn 60 (gm_m_ifeq _) (gm_s_ifeq (bpc := bpX3_call) (b := 4) dX3_call_57 rfl) (
    gm_cn 62 (gm_m_iload _) (gm_s_iload dX3_call_60) (
    gm_cn 64 (gm_m_push _) (gm_s_bipush dX3_call_62 rfl) (
    gm_cn 67 (gm_m_cge _) (gm_s_cge (bpc := bpX3_call) (b := 2) dX3_call_64 rfl) (
    gm_cn 68 (gm_m_aload _) (gm_s_aload_n dX3_call_67 rfl) (
    gm_cn 71 (gm_m_push _) (gm_s_body gw_62 dX3_call_68) (
    gm_cn 73 (gm_m_iload _) (gm_s_iload dX3_call_71) (
    gm_cn 74 gm_m_iald (gm_s_iald dX3_call_73) (
    gm_cn 75 (gm_m_aload _) (gm_s_aload_n dX3_call_74 rfl) (
    gm_cn 77 (gm_m_iload _) (gm_s_iload dX3_call_75) (
    gm_cn 79 (gm_m_iload _) (gm_s_iload dX3_call_77) (
    gm_cn 80 (gm_m_push _) (gm_s_iconst dX3_call_79) (
    gm_cn 81 (gm_m_op2 _) (gm_s_iadd dX3_call_80) (
    gm_cn 84 (gm_m_vcall _ _ _) (gcl_X3_runBody gw_63 dX3_call_81) (
    gm_cn 0 (gm_m_goto _) (gm_s_goto (bpc := bpX3_call) (b := 3) dX3_call_84 rfl 0) (
    trivial)))))))))))))))))))))))))))))))))))))))),
  gm_cn 88 (gm_m_push _) (gm_s_iconst dX3_call_87) (
    gm_cn 0 (gm_m_goto _) (gm_s_fall (bpc := bpX3_call) (b := 3) rfl 0) (
    trivial)),
  gm_cn 0 gm_m_iret (gm_s_iret dX3_call_88 rfl 0) (
    trivial),
  gm_cn 92 (gm_m_push _) (gm_s_aboveN rfl dX3_call_89) (
    gm_cn 94 (gm_m_iload _) (gm_s_iload dX3_call_92) (
    gm_cn 95 gm_m_iald (gm_s_iald dX3_call_94) (
    gm_cn 97 (gm_m_istore _) (gm_s_istore dX3_call_95 (by decide)) (
    gm_cn 100 (gm_m_iinc _ _) (gm_s_iinc dX3_call_97 (by decide)) (
    gm_cn 0 (gm_m_goto _) (gm_s_goto (bpc := bpX3_call) (b := 1) dX3_call_100 rfl 0) (
    trivial)))))),
  gm_cn 104 (gm_m_push _) (gm_s_iconst dX3_call_103) (
    gm_cn 0 gm_m_iret (gm_s_iret dX3_call_104 rfl 0) (
    trivial)), trivial⟩
theorem dX3_runBody_0 : decode cX3_runBody 0 = .ok (.aload_n 0, 1) := by decide +kernel
theorem dX3_runBody_1 : decode cX3_runBody 1 = .ok (.getfield 15, 3) := by decide +kernel
theorem dX3_runBody_4 : decode cX3_runBody 4 = .ok (.aload_n 0, 1) := by decide +kernel
theorem dX3_runBody_5 : decode cX3_runBody 5 = .ok (.getfield 9, 3) := by decide +kernel
theorem dX3_runBody_8 : decode cX3_runBody 8 = .ok (.arraylength, 1) := by decide +kernel
theorem dX3_runBody_9 : decode cX3_runBody 9 = .ok (.if_icmp .ge 13, 3) := by decide +kernel
theorem dX3_runBody_12 : decode cX3_runBody 12 = .ok (.aload_n 0, 1) := by decide +kernel
theorem dX3_runBody_13 : decode cX3_runBody 13 = .ok (.getfield 9, 3) := by decide +kernel
theorem dX3_runBody_16 : decode cX3_runBody 16 = .ok (.aload_n 0, 1) := by decide +kernel
theorem dX3_runBody_17 : decode cX3_runBody 17 = .ok (.getfield 15, 3) := by decide +kernel
theorem dX3_runBody_20 : decode cX3_runBody 20 = .ok (.iload_n 1, 1) := by decide +kernel
theorem dX3_runBody_21 : decode cX3_runBody 21 = .ok (.iastore, 1) := by decide +kernel
theorem dX3_runBody_22 : decode cX3_runBody 22 = .ok (.aload_n 0, 1) := by decide +kernel
theorem dX3_runBody_23 : decode cX3_runBody 23 = .ok (.dup, 1) := by decide +kernel
theorem dX3_runBody_24 : decode cX3_runBody 24 = .ok (.getfield 15, 3) := by decide +kernel
theorem dX3_runBody_27 : decode cX3_runBody 27 = .ok (.iconst 1, 1) := by decide +kernel
theorem dX3_runBody_28 : decode cX3_runBody 28 = .ok (.iadd, 1) := by decide +kernel
theorem dX3_runBody_29 : decode cX3_runBody 29 = .ok (.putfield 15, 3) := by decide +kernel
theorem dX3_runBody_32 : decode cX3_runBody 32 = .ok (.iload_n 1, 1) := by decide +kernel
theorem dX3_runBody_33 : decode cX3_runBody 33 = .ok (.lookupswitch 272 #[(10, 99), (11, 106), (12, 125), (20, 141), (30, 155), (40, 168), (50, 193), (51, 205), (60, 218), (70, 234), (71, 256)], 99) := by decide +kernel
theorem dX3_runBody_132 : decode cX3_runBody 132 = .ok (.iload_n 3, 1) := by decide +kernel
theorem dX3_runBody_133 : decode cX3_runBody 133 = .ok (.aload_n 2, 1) := by decide +kernel
theorem dX3_runBody_134 : decode cX3_runBody 134 = .ok (.getfield 38, 3) := by decide +kernel
theorem dX3_runBody_137 : decode cX3_runBody 137 = .ok (.iadd, 1) := by decide +kernel
theorem dX3_runBody_138 : decode cX3_runBody 138 = .ok (.ireturn, 1) := by decide +kernel
theorem dX3_runBody_139 : decode cX3_runBody 139 = .ok (.aload_n 0, 1) := by decide +kernel
theorem dX3_runBody_140 : decode cX3_runBody 140 = .ok (.aload_n 2, 1) := by decide +kernel
theorem dX3_runBody_141 : decode cX3_runBody 141 = .ok (.aload_n 2, 1) := by decide +kernel
theorem dX3_runBody_142 : decode cX3_runBody 142 = .ok (.getfield 19, 3) := by decide +kernel
theorem dX3_runBody_145 : decode cX3_runBody 145 = .ok (.iconst 0, 1) := by decide +kernel
theorem dX3_runBody_146 : decode cX3_runBody 146 = .ok (.iload_n 3, 1) := by decide +kernel
theorem dX3_runBody_147 : decode cX3_runBody 147 = .ok (.iload 4, 2) := by decide +kernel
theorem dX3_runBody_149 : decode cX3_runBody 149 = .ok (.invokevirtual 24, 3) := by decide +kernel
theorem dX3_runBody_152 : decode cX3_runBody 152 = .ok (.aload_n 2, 1) := by decide +kernel
theorem dX3_runBody_153 : decode cX3_runBody 153 = .ok (.getfield 41, 3) := by decide +kernel
theorem dX3_runBody_156 : decode cX3_runBody 156 = .ok (.isub, 1) := by decide +kernel
theorem dX3_runBody_157 : decode cX3_runBody 157 = .ok (.ireturn, 1) := by decide +kernel
theorem dX3_runBody_158 : decode cX3_runBody 158 = .ok (.aload_n 0, 1) := by decide +kernel
theorem dX3_runBody_159 : decode cX3_runBody 159 = .ok (.aload_n 2, 1) := by decide +kernel
theorem dX3_runBody_160 : decode cX3_runBody 160 = .ok (.aload_n 2, 1) := by decide +kernel
theorem dX3_runBody_161 : decode cX3_runBody 161 = .ok (.getfield 19, 3) := by decide +kernel
theorem dX3_runBody_164 : decode cX3_runBody 164 = .ok (.iconst 1, 1) := by decide +kernel
theorem dX3_runBody_165 : decode cX3_runBody 165 = .ok (.iload_n 3, 1) := by decide +kernel
theorem dX3_runBody_166 : decode cX3_runBody 166 = .ok (.iload 4, 2) := by decide +kernel
theorem dX3_runBody_168 : decode cX3_runBody 168 = .ok (.invokevirtual 24, 3) := by decide +kernel
theorem dX3_runBody_171 : decode cX3_runBody 171 = .ok (.iconst 2, 1) := by decide +kernel
theorem dX3_runBody_172 : decode cX3_runBody 172 = .ok (.imul, 1) := by decide +kernel
theorem dX3_runBody_173 : decode cX3_runBody 173 = .ok (.ireturn, 1) := by decide +kernel
theorem dX3_runBody_174 : decode cX3_runBody 174 = .ok (.aload_n 0, 1) := by decide +kernel
theorem dX3_runBody_175 : decode cX3_runBody 175 = .ok (.aload_n 2, 1) := by decide +kernel
theorem dX3_runBody_176 : decode cX3_runBody 176 = .ok (.iconst 0, 1) := by decide +kernel
theorem dX3_runBody_177 : decode cX3_runBody 177 = .ok (.iconst 1, 1) := by decide +kernel
theorem dX3_runBody_178 : decode cX3_runBody 178 = .ok (.iload_n 3, 1) := by decide +kernel
theorem dX3_runBody_179 : decode cX3_runBody 179 = .ok (.iload 4, 2) := by decide +kernel
theorem dX3_runBody_181 : decode cX3_runBody 181 = .ok (.invokevirtual 24, 3) := by decide +kernel
theorem dX3_runBody_184 : decode cX3_runBody 184 = .ok (.bipush 6, 2) := by decide +kernel
theorem dX3_runBody_186 : decode cX3_runBody 186 = .ok (.ixor, 1) := by decide +kernel
theorem dX3_runBody_187 : decode cX3_runBody 187 = .ok (.ireturn, 1) := by decide +kernel
theorem dX3_runBody_188 : decode cX3_runBody 188 = .ok (.aload_n 0, 1) := by decide +kernel
theorem dX3_runBody_189 : decode cX3_runBody 189 = .ok (.aload_n 2, 1) := by decide +kernel
theorem dX3_runBody_190 : decode cX3_runBody 190 = .ok (.iconst 0, 1) := by decide +kernel
theorem dX3_runBody_191 : decode cX3_runBody 191 = .ok (.iconst 0, 1) := by decide +kernel
theorem dX3_runBody_192 : decode cX3_runBody 192 = .ok (.iload_n 3, 1) := by decide +kernel
theorem dX3_runBody_193 : decode cX3_runBody 193 = .ok (.iconst 3, 1) := by decide +kernel
theorem dX3_runBody_194 : decode cX3_runBody 194 = .ok (.imul, 1) := by decide +kernel
theorem dX3_runBody_195 : decode cX3_runBody 195 = .ok (.iload 4, 2) := by decide +kernel
theorem dX3_runBody_197 : decode cX3_runBody 197 = .ok (.invokevirtual 24, 3) := by decide +kernel
theorem dX3_runBody_200 : decode cX3_runBody 200 = .ok (.ireturn, 1) := by decide +kernel
theorem dX3_runBody_201 : decode cX3_runBody 201 = .ok (.aload_n 0, 1) := by decide +kernel
theorem dX3_runBody_202 : decode cX3_runBody 202 = .ok (.aload_n 2, 1) := by decide +kernel
theorem dX3_runBody_203 : decode cX3_runBody 203 = .ok (.iconst 0, 1) := by decide +kernel
theorem dX3_runBody_204 : decode cX3_runBody 204 = .ok (.iconst 2, 1) := by decide +kernel
theorem dX3_runBody_205 : decode cX3_runBody 205 = .ok (.iload_n 3, 1) := by decide +kernel
theorem dX3_runBody_206 : decode cX3_runBody 206 = .ok (.iload 4, 2) := by decide +kernel
theorem dX3_runBody_208 : decode cX3_runBody 208 = .ok (.invokevirtual 24, 3) := by decide +kernel
theorem dX3_runBody_211 : decode cX3_runBody 211 = .ok (.aload_n 0, 1) := by decide +kernel
theorem dX3_runBody_212 : decode cX3_runBody 212 = .ok (.aload_n 2, 1) := by decide +kernel
theorem dX3_runBody_213 : decode cX3_runBody 213 = .ok (.aload_n 2, 1) := by decide +kernel
theorem dX3_runBody_214 : decode cX3_runBody 214 = .ok (.getfield 19, 3) := by decide +kernel
theorem dX3_runBody_217 : decode cX3_runBody 217 = .ok (.iconst 1, 1) := by decide +kernel
theorem dX3_runBody_218 : decode cX3_runBody 218 = .ok (.iconst 1, 1) := by decide +kernel
theorem dX3_runBody_219 : decode cX3_runBody 219 = .ok (.iload 4, 2) := by decide +kernel
theorem dX3_runBody_221 : decode cX3_runBody 221 = .ok (.invokevirtual 24, 3) := by decide +kernel
theorem dX3_runBody_224 : decode cX3_runBody 224 = .ok (.iadd, 1) := by decide +kernel
theorem dX3_runBody_225 : decode cX3_runBody 225 = .ok (.ireturn, 1) := by decide +kernel
theorem dX3_runBody_226 : decode cX3_runBody 226 = .ok (.aload_n 0, 1) := by decide +kernel
theorem dX3_runBody_227 : decode cX3_runBody 227 = .ok (.aload_n 2, 1) := by decide +kernel
theorem dX3_runBody_228 : decode cX3_runBody 228 = .ok (.iconst 1, 1) := by decide +kernel
theorem dX3_runBody_229 : decode cX3_runBody 229 = .ok (.iconst 0, 1) := by decide +kernel
theorem dX3_runBody_230 : decode cX3_runBody 230 = .ok (.iload_n 3, 1) := by decide +kernel
theorem dX3_runBody_231 : decode cX3_runBody 231 = .ok (.iload 4, 2) := by decide +kernel
theorem dX3_runBody_233 : decode cX3_runBody 233 = .ok (.invokevirtual 24, 3) := by decide +kernel
theorem dX3_runBody_236 : decode cX3_runBody 236 = .ok (.ineg, 1) := by decide +kernel
theorem dX3_runBody_237 : decode cX3_runBody 237 = .ok (.ireturn, 1) := by decide +kernel
theorem dX3_runBody_238 : decode cX3_runBody 238 = .ok (.aload_n 0, 1) := by decide +kernel
theorem dX3_runBody_239 : decode cX3_runBody 239 = .ok (.aload_n 2, 1) := by decide +kernel
theorem dX3_runBody_240 : decode cX3_runBody 240 = .ok (.iconst 1, 1) := by decide +kernel
theorem dX3_runBody_241 : decode cX3_runBody 241 = .ok (.iconst 1, 1) := by decide +kernel
theorem dX3_runBody_242 : decode cX3_runBody 242 = .ok (.iload_n 3, 1) := by decide +kernel
theorem dX3_runBody_243 : decode cX3_runBody 243 = .ok (.iconst 1, 1) := by decide +kernel
theorem dX3_runBody_244 : decode cX3_runBody 244 = .ok (.iadd, 1) := by decide +kernel
theorem dX3_runBody_245 : decode cX3_runBody 245 = .ok (.iload 4, 2) := by decide +kernel
theorem dX3_runBody_247 : decode cX3_runBody 247 = .ok (.invokevirtual 24, 3) := by decide +kernel
theorem dX3_runBody_250 : decode cX3_runBody 250 = .ok (.ireturn, 1) := by decide +kernel
theorem dX3_runBody_251 : decode cX3_runBody 251 = .ok (.aload_n 0, 1) := by decide +kernel
theorem dX3_runBody_252 : decode cX3_runBody 252 = .ok (.aload_n 2, 1) := by decide +kernel
theorem dX3_runBody_253 : decode cX3_runBody 253 = .ok (.iconst 2, 1) := by decide +kernel
theorem dX3_runBody_254 : decode cX3_runBody 254 = .ok (.iconst 2, 1) := by decide +kernel
theorem dX3_runBody_255 : decode cX3_runBody 255 = .ok (.iload_n 3, 1) := by decide +kernel
theorem dX3_runBody_256 : decode cX3_runBody 256 = .ok (.aload_n 2, 1) := by decide +kernel
theorem dX3_runBody_257 : decode cX3_runBody 257 = .ok (.getfield 38, 3) := by decide +kernel
theorem dX3_runBody_260 : decode cX3_runBody 260 = .ok (.isub, 1) := by decide +kernel
theorem dX3_runBody_261 : decode cX3_runBody 261 = .ok (.iload 4, 2) := by decide +kernel
theorem dX3_runBody_263 : decode cX3_runBody 263 = .ok (.invokevirtual 24, 3) := by decide +kernel
theorem dX3_runBody_266 : decode cX3_runBody 266 = .ok (.ireturn, 1) := by decide +kernel
theorem dX3_runBody_267 : decode cX3_runBody 267 = .ok (.aload_n 0, 1) := by decide +kernel
theorem dX3_runBody_268 : decode cX3_runBody 268 = .ok (.aload_n 2, 1) := by decide +kernel
theorem dX3_runBody_269 : decode cX3_runBody 269 = .ok (.iconst 3, 1) := by decide +kernel
theorem dX3_runBody_270 : decode cX3_runBody 270 = .ok (.iconst 1, 1) := by decide +kernel
theorem dX3_runBody_271 : decode cX3_runBody 271 = .ok (.iload_n 3, 1) := by decide +kernel
theorem dX3_runBody_272 : decode cX3_runBody 272 = .ok (.iload 4, 2) := by decide +kernel
theorem dX3_runBody_274 : decode cX3_runBody 274 = .ok (.invokevirtual 24, 3) := by decide +kernel
theorem dX3_runBody_277 : decode cX3_runBody 277 = .ok (.aload_n 0, 1) := by decide +kernel
theorem dX3_runBody_278 : decode cX3_runBody 278 = .ok (.aload_n 2, 1) := by decide +kernel
theorem dX3_runBody_279 : decode cX3_runBody 279 = .ok (.iconst 3, 1) := by decide +kernel
theorem dX3_runBody_280 : decode cX3_runBody 280 = .ok (.iconst 0, 1) := by decide +kernel
theorem dX3_runBody_281 : decode cX3_runBody 281 = .ok (.iconst 2, 1) := by decide +kernel
theorem dX3_runBody_282 : decode cX3_runBody 282 = .ok (.iload 4, 2) := by decide +kernel
theorem dX3_runBody_284 : decode cX3_runBody 284 = .ok (.invokevirtual 24, 3) := by decide +kernel
theorem dX3_runBody_287 : decode cX3_runBody 287 = .ok (.iadd, 1) := by decide +kernel
theorem dX3_runBody_288 : decode cX3_runBody 288 = .ok (.ireturn, 1) := by decide +kernel
theorem dX3_runBody_289 : decode cX3_runBody 289 = .ok (.aload_n 0, 1) := by decide +kernel
theorem dX3_runBody_290 : decode cX3_runBody 290 = .ok (.aload_n 2, 1) := by decide +kernel
theorem dX3_runBody_291 : decode cX3_runBody 291 = .ok (.iconst 3, 1) := by decide +kernel
theorem dX3_runBody_292 : decode cX3_runBody 292 = .ok (.iconst 0, 1) := by decide +kernel
theorem dX3_runBody_293 : decode cX3_runBody 293 = .ok (.iload_n 3, 1) := by decide +kernel
theorem dX3_runBody_294 : decode cX3_runBody 294 = .ok (.iload 4, 2) := by decide +kernel
theorem dX3_runBody_296 : decode cX3_runBody 296 = .ok (.invokevirtual 24, 3) := by decide +kernel
theorem dX3_runBody_299 : decode cX3_runBody 299 = .ok (.aload_n 2, 1) := by decide +kernel
theorem dX3_runBody_300 : decode cX3_runBody 300 = .ok (.getfield 41, 3) := by decide +kernel
theorem dX3_runBody_303 : decode cX3_runBody 303 = .ok (.ixor, 1) := by decide +kernel
theorem dX3_runBody_304 : decode cX3_runBody 304 = .ok (.ireturn, 1) := by decide +kernel
theorem dX3_runBody_305 : decode cX3_runBody 305 = .ok (.iconst 0, 1) := by decide +kernel
theorem dX3_runBody_306 : decode cX3_runBody 306 = .ok (.ireturn, 1) := by decide +kernel
def pX3_runBody : List (List gm_A) := [[(gm_aload 0), (gm_getI 3 301), (gm_aload 0), (gm_getR 3 300), gm_alen, (gm_cge 1), (gm_aload 0), (gm_getR 3 300), (gm_aload 0), (gm_getI 3 301), (gm_iload 1), gm_iast, (gm_goto 1)],
  [(gm_aload 0), gm_dup, (gm_getI 3 301), (gm_push (.inl 1)), (gm_op2 gm_add), (gm_putI 3 301), (gm_iload 1), (gm_switch [(10, 2), (11, 3), (12, 4), (20, 5), (30, 6), (40, 7), (50, 8), (51, 9), (60, 10), (70, 11), (71, 12)] 13)],
  [(gm_iload 3), (gm_aload 2), (gm_getI 2 200), (gm_op2 gm_add), gm_iret],
  [(gm_aload 0), (gm_aload 2), (gm_aload 2), (gm_getI 2 201), (gm_push (.inl 0)), (gm_iload 3), (gm_iload 4), (gm_vcall 3 23 6), (gm_aload 2), (gm_getI 2 202), (gm_op2 gm_sub), gm_iret],
  [(gm_aload 0), (gm_aload 2), (gm_aload 2), (gm_getI 2 201), (gm_push (.inl 1)), (gm_iload 3), (gm_iload 4), (gm_vcall 3 23 6), (gm_push (.inl 2)), (gm_op2 gm_mul), gm_iret],
  [(gm_aload 0), (gm_aload 2), (gm_push (.inl 0)), (gm_push (.inl 1)), (gm_iload 3), (gm_iload 4), (gm_vcall 3 23 6), (gm_push (.inl 6)), (gm_op2 gm_xor), gm_iret],
  [(gm_aload 0), (gm_aload 2), (gm_push (.inl 0)), (gm_push (.inl 0)), (gm_iload 3), (gm_push (.inl 3)), (gm_op2 gm_mul), (gm_iload 4), (gm_vcall 3 23 6), gm_iret],
  [(gm_aload 0), (gm_aload 2), (gm_push (.inl 0)), (gm_push (.inl 2)), (gm_iload 3), (gm_iload 4), (gm_vcall 3 23 6), (gm_aload 0), (gm_aload 2), (gm_aload 2), (gm_getI 2 201), (gm_push (.inl 1)), (gm_push (.inl 1)), (gm_iload 4), (gm_vcall 3 23 6), (gm_op2 gm_add), gm_iret],
  [(gm_aload 0), (gm_aload 2), (gm_push (.inl 1)), (gm_push (.inl 0)), (gm_iload 3), (gm_iload 4), (gm_vcall 3 23 6), (gm_op1 gm_neg), gm_iret],
  [(gm_aload 0), (gm_aload 2), (gm_push (.inl 1)), (gm_push (.inl 1)), (gm_iload 3), (gm_push (.inl 1)), (gm_op2 gm_add), (gm_iload 4), (gm_vcall 3 23 6), gm_iret],
  [(gm_aload 0), (gm_aload 2), (gm_push (.inl 2)), (gm_push (.inl 2)), (gm_iload 3), (gm_aload 2), (gm_getI 2 200), (gm_op2 gm_sub), (gm_iload 4), (gm_vcall 3 23 6), gm_iret],
  [(gm_aload 0), (gm_aload 2), (gm_push (.inl 3)), (gm_push (.inl 1)), (gm_iload 3), (gm_iload 4), (gm_vcall 3 23 6), (gm_aload 0), (gm_aload 2), (gm_push (.inl 3)), (gm_push (.inl 0)), (gm_push (.inl 2)), (gm_iload 4), (gm_vcall 3 23 6), (gm_op2 gm_add), gm_iret],
  [(gm_aload 0), (gm_aload 2), (gm_push (.inl 3)), (gm_push (.inl 0)), (gm_iload 3), (gm_iload 4), (gm_vcall 3 23 6), (gm_aload 2), (gm_getI 2 202), (gm_op2 gm_xor), gm_iret],
  [(gm_push (.inl 0)), gm_iret]]
def bpX3_runBody : Nat → Nat := fun b => ([0, 22, 132, 139, 158, 174, 188, 201, 226, 238, 251, 267, 289, 305] : List Nat).getD b 0
set_option maxRecDepth 100000 in
theorem tX3_runBody {D : va_G} {sz : Nat} {ad : Nat → Nat} {cA : Nat → ClassId} {xs : Int → Int} {Ln : Int} {l : Launch} : gm_SB D sz ad cA xs Ln l gm_mt cX3_runBody "LongNoon$Player" 5 false 1 bpX3_runBody 0 pX3_runBody :=
  ⟨gm_cn 1 (gm_m_aload _) (gm_s_aload_n dX3_runBody_0 rfl) (
    gm_cn 4 (gm_m_getI _ _) (gf_getI_3_1 gw_59 dX3_runBody_1) (
    gm_cn 5 (gm_m_aload _) (gm_s_aload_n dX3_runBody_4 rfl) (
    gm_cn 8 (gm_m_getR _ _) (gf_getR_3_0 gw_58 dX3_runBody_5) (
    gm_cn 9 gm_m_alen (gm_s_alen dX3_runBody_8) (
    gm_cn 12 (gm_m_cge _) (gm_s_cge (bpc := bpX3_runBody) (b := 1) dX3_runBody_9 rfl) (
    gm_cn 13 (gm_m_aload _) (gm_s_aload_n dX3_runBody_12 rfl) (
    gm_cn 16 (gm_m_getR _ _) (gf_getR_3_0 gw_58 dX3_runBody_13) (
    gm_cn 17 (gm_m_aload _) (gm_s_aload_n dX3_runBody_16 rfl) (
    gm_cn 20 (gm_m_getI _ _) (gf_getI_3_1 gw_59 dX3_runBody_17) (
    gm_cn 21 (gm_m_iload _) (gm_s_iload_n dX3_runBody_20 rfl) (
    gm_cn 22 gm_m_iast (gm_s_iast dX3_runBody_21) (
    gm_cn 0 (gm_m_goto _) (gm_s_fall (bpc := bpX3_runBody) (b := 1) rfl 0) (
    trivial))))))))))))),
  gm_cn 23 (gm_m_aload _) (gm_s_aload_n dX3_runBody_22 rfl) (
    gm_cn 24 gm_m_dup (gm_s_dup dX3_runBody_23) (
    gm_cn 27 (gm_m_getI _ _) (gf_getI_3_1 gw_59 dX3_runBody_24) (
    gm_cn 28 (gm_m_push _) (gm_s_iconst dX3_runBody_27) (
    gm_cn 29 (gm_m_op2 _) (gm_s_iadd dX3_runBody_28) (
    gm_cn 32 (gm_m_putI _ _) (gf_putI_3_1 gw_59 dX3_runBody_29) (
    gm_cn 33 (gm_m_iload _) (gm_s_iload_n dX3_runBody_32 rfl) (
    gm_cn 0 (gm_m_switch _ _) (gm_s_look (bpc := bpX3_runBody) (ps := [(10, 2), (11, 3), (12, 4), (20, 5), (30, 6), (40, 7), (50, 8), (51, 9), (60, 10), (70, 11), (71, 12)]) (d := 13) dX3_runBody_33 rfl rfl rfl 0) (
    trivial)))))))),
  gm_cn 133 (gm_m_iload _) (gm_s_iload_n dX3_runBody_132 rfl) (
    gm_cn 134 (gm_m_aload _) (gm_s_aload_n dX3_runBody_133 rfl) (
    gm_cn 137 (gm_m_getI _ _) (gf_getI_2_0 gw_64 dX3_runBody_134) (
    gm_cn 138 (gm_m_op2 _) (gm_s_iadd dX3_runBody_137) (
    gm_cn 0 gm_m_iret (gm_s_iret dX3_runBody_138 rfl 0) (
    trivial))))),
  gm_cn 140 (gm_m_aload _) (gm_s_aload_n dX3_runBody_139 rfl) (
    gm_cn 141 (gm_m_aload _) (gm_s_aload_n dX3_runBody_140 rfl) (
    gm_cn 142 (gm_m_aload _) (gm_s_aload_n dX3_runBody_141 rfl) (
    gm_cn 145 (gm_m_getI _ _) (gf_getI_2_1 gw_60 dX3_runBody_142) (
    gm_cn 146 (gm_m_push _) (gm_s_iconst dX3_runBody_145) (
    gm_cn 147 (gm_m_iload _) (gm_s_iload_n dX3_runBody_146 rfl) (
    gm_cn 149 (gm_m_iload _) (gm_s_iload dX3_runBody_147) (
    gm_cn 152 (gm_m_vcall _ _ _) (gcl_X3_call gw_61 dX3_runBody_149) (
    gm_cn 153 (gm_m_aload _) (gm_s_aload_n dX3_runBody_152 rfl) (
    gm_cn 156 (gm_m_getI _ _) (gf_getI_2_2 gw_65 dX3_runBody_153) (
    gm_cn 157 (gm_m_op2 _) (gm_s_isub dX3_runBody_156) (
    gm_cn 0 gm_m_iret (gm_s_iret dX3_runBody_157 rfl 0) (
    trivial)))))))))))),
  gm_cn 159 (gm_m_aload _) (gm_s_aload_n dX3_runBody_158 rfl) (
    gm_cn 160 (gm_m_aload _) (gm_s_aload_n dX3_runBody_159 rfl) (
    gm_cn 161 (gm_m_aload _) (gm_s_aload_n dX3_runBody_160 rfl) (
    gm_cn 164 (gm_m_getI _ _) (gf_getI_2_1 gw_60 dX3_runBody_161) (
    gm_cn 165 (gm_m_push _) (gm_s_iconst dX3_runBody_164) (
    gm_cn 166 (gm_m_iload _) (gm_s_iload_n dX3_runBody_165 rfl) (
    gm_cn 168 (gm_m_iload _) (gm_s_iload dX3_runBody_166) (
    gm_cn 171 (gm_m_vcall _ _ _) (gcl_X3_call gw_61 dX3_runBody_168) (
    gm_cn 172 (gm_m_push _) (gm_s_iconst dX3_runBody_171) (
    gm_cn 173 (gm_m_op2 _) (gm_s_imul dX3_runBody_172) (
    gm_cn 0 gm_m_iret (gm_s_iret dX3_runBody_173 rfl 0) (
    trivial))))))))))),
  gm_cn 175 (gm_m_aload _) (gm_s_aload_n dX3_runBody_174 rfl) (
    gm_cn 176 (gm_m_aload _) (gm_s_aload_n dX3_runBody_175 rfl) (
    gm_cn 177 (gm_m_push _) (gm_s_iconst dX3_runBody_176) (
    gm_cn 178 (gm_m_push _) (gm_s_iconst dX3_runBody_177) (
    gm_cn 179 (gm_m_iload _) (gm_s_iload_n dX3_runBody_178 rfl) (
    gm_cn 181 (gm_m_iload _) (gm_s_iload dX3_runBody_179) (
    gm_cn 184 (gm_m_vcall _ _ _) (gcl_X3_call gw_61 dX3_runBody_181) (
    gm_cn 186 (gm_m_push _) (gm_s_bipush dX3_runBody_184 rfl) (
    gm_cn 187 (gm_m_op2 _) (gm_s_ixor dX3_runBody_186) (
    gm_cn 0 gm_m_iret (gm_s_iret dX3_runBody_187 rfl 0) (
    trivial)))))))))),
  gm_cn 189 (gm_m_aload _) (gm_s_aload_n dX3_runBody_188 rfl) (
    gm_cn 190 (gm_m_aload _) (gm_s_aload_n dX3_runBody_189 rfl) (
    gm_cn 191 (gm_m_push _) (gm_s_iconst dX3_runBody_190) (
    gm_cn 192 (gm_m_push _) (gm_s_iconst dX3_runBody_191) (
    gm_cn 193 (gm_m_iload _) (gm_s_iload_n dX3_runBody_192 rfl) (
    gm_cn 194 (gm_m_push _) (gm_s_iconst dX3_runBody_193) (
    gm_cn 195 (gm_m_op2 _) (gm_s_imul dX3_runBody_194) (
    gm_cn 197 (gm_m_iload _) (gm_s_iload dX3_runBody_195) (
    gm_cn 200 (gm_m_vcall _ _ _) (gcl_X3_call gw_61 dX3_runBody_197) (
    gm_cn 0 gm_m_iret (gm_s_iret dX3_runBody_200 rfl 0) (
    trivial)))))))))),
  gm_cn 202 (gm_m_aload _) (gm_s_aload_n dX3_runBody_201 rfl) (
    gm_cn 203 (gm_m_aload _) (gm_s_aload_n dX3_runBody_202 rfl) (
    gm_cn 204 (gm_m_push _) (gm_s_iconst dX3_runBody_203) (
    gm_cn 205 (gm_m_push _) (gm_s_iconst dX3_runBody_204) (
    gm_cn 206 (gm_m_iload _) (gm_s_iload_n dX3_runBody_205 rfl) (
    gm_cn 208 (gm_m_iload _) (gm_s_iload dX3_runBody_206) (
    gm_cn 211 (gm_m_vcall _ _ _) (gcl_X3_call gw_61 dX3_runBody_208) (
    gm_cn 212 (gm_m_aload _) (gm_s_aload_n dX3_runBody_211 rfl) (
    gm_cn 213 (gm_m_aload _) (gm_s_aload_n dX3_runBody_212 rfl) (
    gm_cn 214 (gm_m_aload _) (gm_s_aload_n dX3_runBody_213 rfl) (
    gm_cn 217 (gm_m_getI _ _) (gf_getI_2_1 gw_60 dX3_runBody_214) (
    gm_cn 218 (gm_m_push _) (gm_s_iconst dX3_runBody_217) (
    gm_cn 219 (gm_m_push _) (gm_s_iconst dX3_runBody_218) (
    gm_cn 221 (gm_m_iload _) (gm_s_iload dX3_runBody_219) (
    gm_cn 224 (gm_m_vcall _ _ _) (gcl_X3_call gw_61 dX3_runBody_221) (
    gm_cn 225 (gm_m_op2 _) (gm_s_iadd dX3_runBody_224) (
    gm_cn 0 gm_m_iret (gm_s_iret dX3_runBody_225 rfl 0) (
    trivial))))))))))))))))),
  gm_cn 227 (gm_m_aload _) (gm_s_aload_n dX3_runBody_226 rfl) (
    gm_cn 228 (gm_m_aload _) (gm_s_aload_n dX3_runBody_227 rfl) (
    gm_cn 229 (gm_m_push _) (gm_s_iconst dX3_runBody_228) (
    gm_cn 230 (gm_m_push _) (gm_s_iconst dX3_runBody_229) (
    gm_cn 231 (gm_m_iload _) (gm_s_iload_n dX3_runBody_230 rfl) (
    gm_cn 233 (gm_m_iload _) (gm_s_iload dX3_runBody_231) (
    gm_cn 236 (gm_m_vcall _ _ _) (gcl_X3_call gw_61 dX3_runBody_233) (
    gm_cn 237 (gm_m_op1 _) (gm_s_ineg dX3_runBody_236) (
    gm_cn 0 gm_m_iret (gm_s_iret dX3_runBody_237 rfl 0) (
    trivial))))))))),
  gm_cn 239 (gm_m_aload _) (gm_s_aload_n dX3_runBody_238 rfl) (
    gm_cn 240 (gm_m_aload _) (gm_s_aload_n dX3_runBody_239 rfl) (
    gm_cn 241 (gm_m_push _) (gm_s_iconst dX3_runBody_240) (
    gm_cn 242 (gm_m_push _) (gm_s_iconst dX3_runBody_241) (
    gm_cn 243 (gm_m_iload _) (gm_s_iload_n dX3_runBody_242 rfl) (
    gm_cn 244 (gm_m_push _) (gm_s_iconst dX3_runBody_243) (
    gm_cn 245 (gm_m_op2 _) (gm_s_iadd dX3_runBody_244) (
    gm_cn 247 (gm_m_iload _) (gm_s_iload dX3_runBody_245) (
    gm_cn 250 (gm_m_vcall _ _ _) (gcl_X3_call gw_61 dX3_runBody_247) (
    gm_cn 0 gm_m_iret (gm_s_iret dX3_runBody_250 rfl 0) (
    trivial)))))))))),
  gm_cn 252 (gm_m_aload _) (gm_s_aload_n dX3_runBody_251 rfl) (
    gm_cn 253 (gm_m_aload _) (gm_s_aload_n dX3_runBody_252 rfl) (
    gm_cn 254 (gm_m_push _) (gm_s_iconst dX3_runBody_253) (
    gm_cn 255 (gm_m_push _) (gm_s_iconst dX3_runBody_254) (
    gm_cn 256 (gm_m_iload _) (gm_s_iload_n dX3_runBody_255 rfl) (
    gm_cn 257 (gm_m_aload _) (gm_s_aload_n dX3_runBody_256 rfl) (
    gm_cn 260 (gm_m_getI _ _) (gf_getI_2_0 gw_64 dX3_runBody_257) (
    gm_cn 261 (gm_m_op2 _) (gm_s_isub dX3_runBody_260) (
    gm_cn 263 (gm_m_iload _) (gm_s_iload dX3_runBody_261) (
    gm_cn 266 (gm_m_vcall _ _ _) (gcl_X3_call gw_61 dX3_runBody_263) (
    gm_cn 0 gm_m_iret (gm_s_iret dX3_runBody_266 rfl 0) (
    trivial))))))))))),
  gm_cn 268 (gm_m_aload _) (gm_s_aload_n dX3_runBody_267 rfl) (
    gm_cn 269 (gm_m_aload _) (gm_s_aload_n dX3_runBody_268 rfl) (
    gm_cn 270 (gm_m_push _) (gm_s_iconst dX3_runBody_269) (
    gm_cn 271 (gm_m_push _) (gm_s_iconst dX3_runBody_270) (
    gm_cn 272 (gm_m_iload _) (gm_s_iload_n dX3_runBody_271 rfl) (
    gm_cn 274 (gm_m_iload _) (gm_s_iload dX3_runBody_272) (
    gm_cn 277 (gm_m_vcall _ _ _) (gcl_X3_call gw_61 dX3_runBody_274) (
    gm_cn 278 (gm_m_aload _) (gm_s_aload_n dX3_runBody_277 rfl) (
    gm_cn 279 (gm_m_aload _) (gm_s_aload_n dX3_runBody_278 rfl) (
    gm_cn 280 (gm_m_push _) (gm_s_iconst dX3_runBody_279) (
    gm_cn 281 (gm_m_push _) (gm_s_iconst dX3_runBody_280) (
    gm_cn 282 (gm_m_push _) (gm_s_iconst dX3_runBody_281) (
    gm_cn 284 (gm_m_iload _) (gm_s_iload dX3_runBody_282) (
    gm_cn 287 (gm_m_vcall _ _ _) (gcl_X3_call gw_61 dX3_runBody_284) (
    gm_cn 288 (gm_m_op2 _) (gm_s_iadd dX3_runBody_287) (
    gm_cn 0 gm_m_iret (gm_s_iret dX3_runBody_288 rfl 0) (
    trivial)))))))))))))))),
  gm_cn 290 (gm_m_aload _) (gm_s_aload_n dX3_runBody_289 rfl) (
    gm_cn 291 (gm_m_aload _) (gm_s_aload_n dX3_runBody_290 rfl) (
    gm_cn 292 (gm_m_push _) (gm_s_iconst dX3_runBody_291) (
    gm_cn 293 (gm_m_push _) (gm_s_iconst dX3_runBody_292) (
    gm_cn 294 (gm_m_iload _) (gm_s_iload_n dX3_runBody_293 rfl) (
    gm_cn 296 (gm_m_iload _) (gm_s_iload dX3_runBody_294) (
    gm_cn 299 (gm_m_vcall _ _ _) (gcl_X3_call gw_61 dX3_runBody_296) (
    gm_cn 300 (gm_m_aload _) (gm_s_aload_n dX3_runBody_299 rfl) (
    gm_cn 303 (gm_m_getI _ _) (gf_getI_2_2 gw_65 dX3_runBody_300) (
    gm_cn 304 (gm_m_op2 _) (gm_s_ixor dX3_runBody_303) (
    gm_cn 0 gm_m_iret (gm_s_iret dX3_runBody_304 rfl 0) (
    trivial))))))))))),
  gm_cn 306 (gm_m_push _) (gm_s_iconst dX3_runBody_305) (
    gm_cn 0 gm_m_iret (gm_s_iret dX3_runBody_306 rfl 0) (
    trivial)), trivial⟩
theorem dX4_init_0 : decode cX4_init 0 = .ok (.aload_n 0, 1) := by decide +kernel
theorem dX4_init_1 : decode cX4_init 1 = .ok (.invokespecial 3, 3) := by decide +kernel
theorem dX4_init_4 : decode cX4_init 4 = .ok (.aload_n 0, 1) := by decide +kernel
theorem dX4_init_5 : decode cX4_init 5 = .ok (.bipush 100, 2) := by decide +kernel
theorem dX4_init_7 : decode cX4_init 7 = .ok (.newarray .char, 2) := by decide +kernel
theorem dX4_init_9 : decode cX4_init 9 = .ok (.putfield 9, 3) := by decide +kernel
theorem dX4_init_12 : decode cX4_init 12 = .ok (.return_, 1) := by decide +kernel
def pX4_init : List (List gm_A) := [[(gm_aload 0), gm_oinit, (gm_aload 0), (gm_push (.inl 100)), (gm_newarr 22), (gm_putR 4 400), gm_vret]]
def bpX4_init : Nat → Nat := fun b => ([0] : List Nat).getD b 0
set_option maxRecDepth 100000 in
theorem tX4_init {D : va_G} {sz : Nat} {ad : Nat → Nat} {cA : Nat → ClassId} {xs : Int → Int} {Ln : Int} {l : Launch} : gm_SB D sz ad cA xs Ln l gm_mt cX4_init "LongNoon$Reader" 1 true 0 bpX4_init 0 pX4_init :=
  ⟨gm_cn 1 (gm_m_aload _) (gm_s_aload_n dX4_init_0 rfl) (
    gm_cn 4 gm_m_oinit (gm_s_oinit gw_66 gw_1 gw_2 dX4_init_1) (
    gm_cn 5 (gm_m_aload _) (gm_s_aload_n dX4_init_4 rfl) (
    gm_cn 7 (gm_m_push _) (gm_s_bipush dX4_init_5 rfl) (
    gm_cn 9 (gm_m_newarr _) (gm_s_newarr (atype := .char) (t0 := 2) (ty := .char) rfl gw_67 (fun _ => rfl) (Or.inr (Or.inr (Or.inl ⟨rfl, rfl⟩))) dX4_init_7) (
    gm_cn 12 (gm_m_putR _ _) (gf_putR_4_0 gw_68 dX4_init_9) (
    gm_cn 0 gm_m_vret (gm_s_vret dX4_init_12 rfl 0) (
    trivial))))))), trivial⟩
theorem dX4_takeSign_0 : decode cX4_takeSign 0 = .ok (.aload_n 0, 1) := by decide +kernel
theorem dX4_takeSign_1 : decode cX4_takeSign 1 = .ok (.getfield 15, 3) := by decide +kernel
theorem dX4_takeSign_4 : decode cX4_takeSign 4 = .ok (.aload_n 0, 1) := by decide +kernel
theorem dX4_takeSign_5 : decode cX4_takeSign 5 = .ok (.getfield 9, 3) := by decide +kernel
theorem dX4_takeSign_8 : decode cX4_takeSign 8 = .ok (.arraylength, 1) := by decide +kernel
theorem dX4_takeSign_9 : decode cX4_takeSign 9 = .ok (.if_icmp .lt 5, 3) := by decide +kernel
theorem dX4_takeSign_12 : decode cX4_takeSign 12 = .ok (.iconst 0, 1) := by decide +kernel
theorem dX4_takeSign_13 : decode cX4_takeSign 13 = .ok (.ireturn, 1) := by decide +kernel
theorem dX4_takeSign_14 : decode cX4_takeSign 14 = .ok (.aload_n 0, 1) := by decide +kernel
theorem dX4_takeSign_15 : decode cX4_takeSign 15 = .ok (.getfield 9, 3) := by decide +kernel
theorem dX4_takeSign_18 : decode cX4_takeSign 18 = .ok (.aload_n 0, 1) := by decide +kernel
theorem dX4_takeSign_19 : decode cX4_takeSign 19 = .ok (.getfield 15, 3) := by decide +kernel
theorem dX4_takeSign_22 : decode cX4_takeSign 22 = .ok (.iload_n 1, 1) := by decide +kernel
theorem dX4_takeSign_23 : decode cX4_takeSign 23 = .ok (.castore, 1) := by decide +kernel
theorem dX4_takeSign_24 : decode cX4_takeSign 24 = .ok (.aload_n 0, 1) := by decide +kernel
theorem dX4_takeSign_25 : decode cX4_takeSign 25 = .ok (.dup, 1) := by decide +kernel
theorem dX4_takeSign_26 : decode cX4_takeSign 26 = .ok (.getfield 15, 3) := by decide +kernel
theorem dX4_takeSign_29 : decode cX4_takeSign 29 = .ok (.iconst 1, 1) := by decide +kernel
theorem dX4_takeSign_30 : decode cX4_takeSign 30 = .ok (.iadd, 1) := by decide +kernel
theorem dX4_takeSign_31 : decode cX4_takeSign 31 = .ok (.putfield 15, 3) := by decide +kernel
theorem dX4_takeSign_34 : decode cX4_takeSign 34 = .ok (.iconst 1, 1) := by decide +kernel
theorem dX4_takeSign_35 : decode cX4_takeSign 35 = .ok (.ireturn, 1) := by decide +kernel
def pX4_takeSign : List (List gm_A) := [[(gm_aload 0), (gm_getI 4 401), (gm_aload 0), (gm_getR 4 400), gm_alen, (gm_clt 1), (gm_push (.inl 0)), gm_zret],
  [(gm_aload 0), (gm_getR 4 400), (gm_aload 0), (gm_getI 4 401), (gm_iload 1), gm_cast, (gm_aload 0), gm_dup, (gm_getI 4 401), (gm_push (.inl 1)), (gm_op2 gm_add), (gm_putI 4 401), (gm_push (.inl 1)), gm_zret]]
def bpX4_takeSign : Nat → Nat := fun b => ([0, 14] : List Nat).getD b 0
set_option maxRecDepth 100000 in
theorem tX4_takeSign {D : va_G} {sz : Nat} {ad : Nat → Nat} {cA : Nat → ClassId} {xs : Int → Int} {Ln : Int} {l : Launch} : gm_SB D sz ad cA xs Ln l gm_mt cX4_takeSign "LongNoon$Reader" 2 false 2 bpX4_takeSign 0 pX4_takeSign :=
  ⟨gm_cn 1 (gm_m_aload _) (gm_s_aload_n dX4_takeSign_0 rfl) (
    gm_cn 4 (gm_m_getI _ _) (gf_getI_4_1 gw_69 dX4_takeSign_1) (
    gm_cn 5 (gm_m_aload _) (gm_s_aload_n dX4_takeSign_4 rfl) (
    gm_cn 8 (gm_m_getR _ _) (gf_getR_4_0 gw_68 dX4_takeSign_5) (
    gm_cn 9 gm_m_alen (gm_s_alen dX4_takeSign_8) (
    gm_cn 12 (gm_m_clt _) (gm_s_clt (bpc := bpX4_takeSign) (b := 1) dX4_takeSign_9 rfl) (
    gm_cn 13 (gm_m_push _) (gm_s_iconst dX4_takeSign_12) (
    gm_cn 0 gm_m_zret (gm_s_zret dX4_takeSign_13 rfl 0) (
    trivial)))))))),
  gm_cn 15 (gm_m_aload _) (gm_s_aload_n dX4_takeSign_14 rfl) (
    gm_cn 18 (gm_m_getR _ _) (gf_getR_4_0 gw_68 dX4_takeSign_15) (
    gm_cn 19 (gm_m_aload _) (gm_s_aload_n dX4_takeSign_18 rfl) (
    gm_cn 22 (gm_m_getI _ _) (gf_getI_4_1 gw_69 dX4_takeSign_19) (
    gm_cn 23 (gm_m_iload _) (gm_s_iload_n dX4_takeSign_22 rfl) (
    gm_cn 24 gm_m_cast (gm_s_cast dX4_takeSign_23) (
    gm_cn 25 (gm_m_aload _) (gm_s_aload_n dX4_takeSign_24 rfl) (
    gm_cn 26 gm_m_dup (gm_s_dup dX4_takeSign_25) (
    gm_cn 29 (gm_m_getI _ _) (gf_getI_4_1 gw_69 dX4_takeSign_26) (
    gm_cn 30 (gm_m_push _) (gm_s_iconst dX4_takeSign_29) (
    gm_cn 31 (gm_m_op2 _) (gm_s_iadd dX4_takeSign_30) (
    gm_cn 34 (gm_m_putI _ _) (gf_putI_4_1 gw_69 dX4_takeSign_31) (
    gm_cn 35 (gm_m_push _) (gm_s_iconst dX4_takeSign_34) (
    gm_cn 0 gm_m_zret (gm_s_zret dX4_takeSign_35 rfl 0) (
    trivial)))))))))))))), trivial⟩
theorem dX4_fill_0 : decode cX4_fill 0 = .ok (.aload_n 1, 1) := by decide +kernel
theorem dX4_fill_1 : decode cX4_fill 1 = .ok (.invokevirtual 19, 3) := by decide +kernel
theorem dX4_fill_4 : decode cX4_fill 4 = .ok (.aload_n 0, 1) := by decide +kernel
theorem dX4_fill_5 : decode cX4_fill 5 = .ok (.iconst 0, 1) := by decide +kernel
theorem dX4_fill_6 : decode cX4_fill 6 = .ok (.putfield 24, 3) := by decide +kernel
theorem dX4_fill_9 : decode cX4_fill 9 = .ok (.aload_n 0, 1) := by decide +kernel
theorem dX4_fill_10 : decode cX4_fill 10 = .ok (.aload_n 1, 1) := by decide +kernel
theorem dX4_fill_11 : decode cX4_fill 11 = .ok (.invokevirtual 27, 3) := by decide +kernel
theorem dX4_fill_14 : decode cX4_fill 14 = .ok (.istore_n 2, 1) := by decide +kernel
theorem dX4_fill_15 : decode cX4_fill 15 = .ok (.iconst 1, 1) := by decide +kernel
theorem dX4_fill_16 : decode cX4_fill 16 = .ok (.istore_n 3, 1) := by decide +kernel
theorem dX4_fill_17 : decode cX4_fill 17 = .ok (.iload_n 3, 1) := by decide +kernel
theorem dX4_fill_18 : decode cX4_fill 18 = .ok (.bipush 10, 2) := by decide +kernel
theorem dX4_fill_20 : decode cX4_fill 20 = .ok (.if_icmp .ge 28, 3) := by decide +kernel
theorem dX4_fill_23 : decode cX4_fill 23 = .ok (.iload_n 2, 1) := by decide +kernel
theorem dX4_fill_24 : decode cX4_fill 24 = .ok (.ifCond .eq 24, 3) := by decide +kernel
theorem dX4_fill_27 : decode cX4_fill 27 = .ok (.aload_n 0, 1) := by decide +kernel
theorem dX4_fill_28 : decode cX4_fill 28 = .ok (.bipush 59, 2) := by decide +kernel
theorem dX4_fill_30 : decode cX4_fill 30 = .ok (.invokevirtual 31, 3) := by decide +kernel
theorem dX4_fill_33 : decode cX4_fill 33 = .ok (.ifCond .eq 15, 3) := by decide +kernel
theorem dX4_fill_36 : decode cX4_fill 36 = .ok (.aload_n 0, 1) := by decide +kernel
theorem dX4_fill_37 : decode cX4_fill 37 = .ok (.aload_n 1, 1) := by decide +kernel
theorem dX4_fill_38 : decode cX4_fill 38 = .ok (.invokevirtual 27, 3) := by decide +kernel
theorem dX4_fill_41 : decode cX4_fill 41 = .ok (.istore_n 2, 1) := by decide +kernel
theorem dX4_fill_42 : decode cX4_fill 42 = .ok (.iinc 3 1, 3) := by decide +kernel
theorem dX4_fill_45 : decode cX4_fill 45 = .ok (.goto (-28), 3) := by decide +kernel
theorem dX4_fill_48 : decode cX4_fill 48 = .ok (.iload_n 2, 1) := by decide +kernel
theorem dX4_fill_49 : decode cX4_fill 49 = .ok (.ifCond .eq 18, 3) := by decide +kernel
theorem dX4_fill_52 : decode cX4_fill 52 = .ok (.aload_n 0, 1) := by decide +kernel
theorem dX4_fill_53 : decode cX4_fill 53 = .ok (.getfield 24, 3) := by decide +kernel
theorem dX4_fill_56 : decode cX4_fill 56 = .ok (.aload_n 0, 1) := by decide +kernel
theorem dX4_fill_57 : decode cX4_fill 57 = .ok (.getfield 15, 3) := by decide +kernel
theorem dX4_fill_60 : decode cX4_fill 60 = .ok (.if_icmp .ne 7, 3) := by decide +kernel
theorem dX4_fill_63 : decode cX4_fill 63 = .ok (.iconst (-1), 1) := by decide +kernel
theorem dX4_fill_64 : decode cX4_fill 64 = .ok (.goto 7, 3) := by decide +kernel
theorem dX4_fill_67 : decode cX4_fill 67 = .ok (.aload_n 0, 1) := by decide +kernel
theorem dX4_fill_68 : decode cX4_fill 68 = .ok (.getfield 24, 3) := by decide +kernel
theorem dX4_fill_71 : decode cX4_fill 71 = .ok (.istore_n 3, 1) := by decide +kernel
theorem dX4_fill_72 : decode cX4_fill 72 = .ok (.aload_n 0, 1) := by decide +kernel
theorem dX4_fill_73 : decode cX4_fill 73 = .ok (.iconst 0, 1) := by decide +kernel
theorem dX4_fill_74 : decode cX4_fill 74 = .ok (.putfield 15, 3) := by decide +kernel
theorem dX4_fill_77 : decode cX4_fill 77 = .ok (.iload_n 3, 1) := by decide +kernel
theorem dX4_fill_78 : decode cX4_fill 78 = .ok (.ireturn, 1) := by decide +kernel
def pX4_fill : List (List gm_A) := [[(gm_aload 1), (gm_vcall 1 8 1), (gm_aload 0), (gm_push (.inl 0)), (gm_putI 4 402), (gm_aload 0), (gm_aload 1), (gm_vcall 4 28 2), (gm_istore 2), (gm_push (.inl 1)), (gm_istore 3), (gm_goto 1)],
  [(gm_iload 3), (gm_push (.inl 10)), (gm_cge 2), (gm_iload 2), (gm_ifeq 2), (gm_aload 0), (gm_push (.inl 59)), (gm_vcall 4 34 2), (gm_ifeq 2), (gm_aload 0), (gm_aload 1), (gm_vcall 4 28 2), (gm_istore 2), (gm_iinc 3 1), (gm_goto 1)],
  [(gm_iload 2), (gm_ifeq 3), (gm_aload 0), (gm_getI 4 402), (gm_aload 0), (gm_getI 4 401), (gm_cne 3), (gm_push (.inl (-1))), (gm_goto 4)],
  [(gm_aload 0), (gm_getI 4 402), (gm_goto 4)],
  [(gm_istore 3), (gm_aload 0), (gm_push (.inl 0)), (gm_putI 4 401), (gm_iload 3), gm_iret]]
def bpX4_fill : Nat → Nat := fun b => ([0, 17, 48, 67, 71] : List Nat).getD b 0
set_option maxRecDepth 100000 in
theorem tX4_fill {D : va_G} {sz : Nat} {ad : Nat → Nat} {cA : Nat → ClassId} {xs : Int → Int} {Ln : Int} {l : Launch} : gm_SB D sz ad cA xs Ln l gm_mt cX4_fill "LongNoon$Reader" 4 false 1 bpX4_fill 0 pX4_fill :=
  ⟨gm_cn 1 (gm_m_aload _) (gm_s_aload_n dX4_fill_0 rfl) (
    gm_cn 4 (gm_m_vcall _ _ _) (gcl_X1_clear gw_70 dX4_fill_1) (
    gm_cn 5 (gm_m_aload _) (gm_s_aload_n dX4_fill_4 rfl) (
    gm_cn 6 (gm_m_push _) (gm_s_iconst dX4_fill_5) (
    gm_cn 9 (gm_m_putI _ _) (gf_putI_4_2 gw_71 dX4_fill_6) (
    gm_cn 10 (gm_m_aload _) (gm_s_aload_n dX4_fill_9 rfl) (
    gm_cn 11 (gm_m_aload _) (gm_s_aload_n dX4_fill_10 rfl) (
    gm_cn 14 (gm_m_vcall _ _ _) (gcl_X4_readClause gw_72 dX4_fill_11) (
    gm_cn 15 (gm_m_istore _) (gm_s_istore_n dX4_fill_14 rfl (by decide)) (
    gm_cn 16 (gm_m_push _) (gm_s_iconst dX4_fill_15) (
    gm_cn 17 (gm_m_istore _) (gm_s_istore_n dX4_fill_16 rfl (by decide)) (
    gm_cn 0 (gm_m_goto _) (gm_s_fall (bpc := bpX4_fill) (b := 1) rfl 0) (
    trivial)))))))))))),
  gm_cn 18 (gm_m_iload _) (gm_s_iload_n dX4_fill_17 rfl) (
    gm_cn 20 (gm_m_push _) (gm_s_bipush dX4_fill_18 rfl) (
    gm_cn 23 (gm_m_cge _) (gm_s_cge (bpc := bpX4_fill) (b := 2) dX4_fill_20 rfl) (
    gm_cn 24 (gm_m_iload _) (gm_s_iload_n dX4_fill_23 rfl) (
    gm_cn 27 (gm_m_ifeq _) (gm_s_ifeq (bpc := bpX4_fill) (b := 2) dX4_fill_24 rfl) (
    gm_cn 28 (gm_m_aload _) (gm_s_aload_n dX4_fill_27 rfl) (
    gm_cn 30 (gm_m_push _) (gm_s_bipush dX4_fill_28 rfl) (
    gm_cn 33 (gm_m_vcall _ _ _) (gcl_X4_readSign gw_73 dX4_fill_30) (
    gm_cn 36 (gm_m_ifeq _) (gm_s_ifeq (bpc := bpX4_fill) (b := 2) dX4_fill_33 rfl) (
    gm_cn 37 (gm_m_aload _) (gm_s_aload_n dX4_fill_36 rfl) (
    gm_cn 38 (gm_m_aload _) (gm_s_aload_n dX4_fill_37 rfl) (
    gm_cn 41 (gm_m_vcall _ _ _) (gcl_X4_readClause gw_72 dX4_fill_38) (
    gm_cn 42 (gm_m_istore _) (gm_s_istore_n dX4_fill_41 rfl (by decide)) (
    gm_cn 45 (gm_m_iinc _ _) (gm_s_iinc dX4_fill_42 (by decide)) (
    gm_cn 0 (gm_m_goto _) (gm_s_goto (bpc := bpX4_fill) (b := 1) dX4_fill_45 rfl 0) (
    trivial))))))))))))))),
  gm_cn 49 (gm_m_iload _) (gm_s_iload_n dX4_fill_48 rfl) (
    gm_cn 52 (gm_m_ifeq _) (gm_s_ifeq (bpc := bpX4_fill) (b := 3) dX4_fill_49 rfl) (
    gm_cn 53 (gm_m_aload _) (gm_s_aload_n dX4_fill_52 rfl) (
    gm_cn 56 (gm_m_getI _ _) (gf_getI_4_2 gw_71 dX4_fill_53) (
    gm_cn 57 (gm_m_aload _) (gm_s_aload_n dX4_fill_56 rfl) (
    gm_cn 60 (gm_m_getI _ _) (gf_getI_4_1 gw_69 dX4_fill_57) (
    gm_cn 63 (gm_m_cne _) (gm_s_cne (bpc := bpX4_fill) (b := 3) dX4_fill_60 rfl) (
    gm_cn 64 (gm_m_push _) (gm_s_iconst dX4_fill_63) (
    gm_cn 0 (gm_m_goto _) (gm_s_goto (bpc := bpX4_fill) (b := 4) dX4_fill_64 rfl 0) (
    trivial))))))))),
  gm_cn 68 (gm_m_aload _) (gm_s_aload_n dX4_fill_67 rfl) (
    gm_cn 71 (gm_m_getI _ _) (gf_getI_4_2 gw_71 dX4_fill_68) (
    gm_cn 0 (gm_m_goto _) (gm_s_fall (bpc := bpX4_fill) (b := 4) rfl 0) (
    trivial))),
  gm_cn 72 (gm_m_istore _) (gm_s_istore_n dX4_fill_71 rfl (by decide)) (
    gm_cn 73 (gm_m_aload _) (gm_s_aload_n dX4_fill_72 rfl) (
    gm_cn 74 (gm_m_push _) (gm_s_iconst dX4_fill_73) (
    gm_cn 77 (gm_m_putI _ _) (gf_putI_4_1 gw_69 dX4_fill_74) (
    gm_cn 78 (gm_m_iload _) (gm_s_iload_n dX4_fill_77 rfl) (
    gm_cn 0 gm_m_iret (gm_s_iret dX4_fill_78 rfl 0) (
    trivial)))))), trivial⟩
theorem dX4_readClause_0 : decode cX4_readClause 0 = .ok (.aload_n 0, 1) := by decide +kernel
theorem dX4_readClause_1 : decode cX4_readClause 1 = .ok (.invokevirtual 35, 3) := by decide +kernel
theorem dX4_readClause_4 : decode cX4_readClause 4 = .ok (.istore_n 2, 1) := by decide +kernel
theorem dX4_readClause_5 : decode cX4_readClause 5 = .ok (.iload_n 2, 1) := by decide +kernel
theorem dX4_readClause_6 : decode cX4_readClause 6 = .ok (.bipush 115, 2) := by decide +kernel
theorem dX4_readClause_8 : decode cX4_readClause 8 = .ok (.if_icmp .ne 7, 3) := by decide +kernel
theorem dX4_readClause_11 : decode cX4_readClause 11 = .ok (.iconst 1, 1) := by decide +kernel
theorem dX4_readClause_12 : decode cX4_readClause 12 = .ok (.goto 4, 3) := by decide +kernel
theorem dX4_readClause_15 : decode cX4_readClause 15 = .ok (.iconst 0, 1) := by decide +kernel
theorem dX4_readClause_16 : decode cX4_readClause 16 = .ok (.istore_n 3, 1) := by decide +kernel
theorem dX4_readClause_17 : decode cX4_readClause 17 = .ok (.iload_n 2, 1) := by decide +kernel
theorem dX4_readClause_18 : decode cX4_readClause 18 = .ok (.bipush 108, 2) := by decide +kernel
theorem dX4_readClause_20 : decode cX4_readClause 20 = .ok (.if_icmp .ne 7, 3) := by decide +kernel
theorem dX4_readClause_23 : decode cX4_readClause 23 = .ok (.iconst 1, 1) := by decide +kernel
theorem dX4_readClause_24 : decode cX4_readClause 24 = .ok (.goto 4, 3) := by decide +kernel
theorem dX4_readClause_27 : decode cX4_readClause 27 = .ok (.iconst 0, 1) := by decide +kernel
theorem dX4_readClause_28 : decode cX4_readClause 28 = .ok (.istore 4, 2) := by decide +kernel
theorem dX4_readClause_30 : decode cX4_readClause 30 = .ok (.iload_n 3, 1) := by decide +kernel
theorem dX4_readClause_31 : decode cX4_readClause 31 = .ok (.ifCond .eq 8, 3) := by decide +kernel
theorem dX4_readClause_34 : decode cX4_readClause 34 = .ok (.ldc 39, 2) := by decide +kernel
theorem dX4_readClause_36 : decode cX4_readClause 36 = .ok (.goto 26, 3) := by decide +kernel
theorem dX4_readClause_39 : decode cX4_readClause 39 = .ok (.iload_n 2, 1) := by decide +kernel
theorem dX4_readClause_40 : decode cX4_readClause 40 = .ok (.bipush 99, 2) := by decide +kernel
theorem dX4_readClause_42 : decode cX4_readClause 42 = .ok (.if_icmp .ne 8, 3) := by decide +kernel
theorem dX4_readClause_45 : decode cX4_readClause 45 = .ok (.ldc 41, 2) := by decide +kernel
theorem dX4_readClause_47 : decode cX4_readClause 47 = .ok (.goto 15, 3) := by decide +kernel
theorem dX4_readClause_50 : decode cX4_readClause 50 = .ok (.iload 4, 2) := by decide +kernel
theorem dX4_readClause_52 : decode cX4_readClause 52 = .ok (.ifCond .eq 8, 3) := by decide +kernel
theorem dX4_readClause_55 : decode cX4_readClause 55 = .ok (.ldc 43, 2) := by decide +kernel
theorem dX4_readClause_57 : decode cX4_readClause 57 = .ok (.goto 5, 3) := by decide +kernel
theorem dX4_readClause_60 : decode cX4_readClause 60 = .ok (.ldc 45, 2) := by decide +kernel
theorem dX4_readClause_62 : decode cX4_readClause 62 = .ok (.astore 5, 2) := by decide +kernel
theorem dX4_readClause_64 : decode cX4_readClause 64 = .ok (.aload_n 0, 1) := by decide +kernel
theorem dX4_readClause_65 : decode cX4_readClause 65 = .ok (.aload 5, 2) := by decide +kernel
theorem dX4_readClause_67 : decode cX4_readClause 67 = .ok (.invokevirtual 47, 3) := by decide +kernel
theorem dX4_readClause_70 : decode cX4_readClause 70 = .ok (.ifCond .eq 10, 3) := by decide +kernel
theorem dX4_readClause_73 : decode cX4_readClause 73 = .ok (.aload_n 0, 1) := by decide +kernel
theorem dX4_readClause_74 : decode cX4_readClause 74 = .ok (.invokevirtual 51, 3) := by decide +kernel
theorem dX4_readClause_77 : decode cX4_readClause 77 = .ok (.goto 4, 3) := by decide +kernel
theorem dX4_readClause_80 : decode cX4_readClause 80 = .ok (.iconst (-1), 1) := by decide +kernel
theorem dX4_readClause_81 : decode cX4_readClause 81 = .ok (.istore 6, 2) := by decide +kernel
theorem dX4_readClause_83 : decode cX4_readClause 83 = .ok (.iload 6, 2) := by decide +kernel
theorem dX4_readClause_85 : decode cX4_readClause 85 = .ok (.ifCond .ge 5, 3) := by decide +kernel
theorem dX4_readClause_88 : decode cX4_readClause 88 = .ok (.iconst 0, 1) := by decide +kernel
theorem dX4_readClause_89 : decode cX4_readClause 89 = .ok (.ireturn, 1) := by decide +kernel
theorem dX4_readClause_90 : decode cX4_readClause 90 = .ok (.iload_n 3, 1) := by decide +kernel
theorem dX4_readClause_91 : decode cX4_readClause 91 = .ok (.ifCond .ne 9, 3) := by decide +kernel
theorem dX4_readClause_94 : decode cX4_readClause 94 = .ok (.iload_n 2, 1) := by decide +kernel
theorem dX4_readClause_95 : decode cX4_readClause 95 = .ok (.bipush 99, 2) := by decide +kernel
theorem dX4_readClause_97 : decode cX4_readClause 97 = .ok (.if_icmp .ne 58, 3) := by decide +kernel
theorem dX4_readClause_100 : decode cX4_readClause 100 = .ok (.iload_n 3, 1) := by decide +kernel
theorem dX4_readClause_101 : decode cX4_readClause 101 = .ok (.ifCond .eq 10, 3) := by decide +kernel
theorem dX4_readClause_104 : decode cX4_readClause 104 = .ok (.aload_n 1, 1) := by decide +kernel
theorem dX4_readClause_105 : decode cX4_readClause 105 = .ok (.getfield 55, 3) := by decide +kernel
theorem dX4_readClause_108 : decode cX4_readClause 108 = .ok (.goto 7, 3) := by decide +kernel
theorem dX4_readClause_111 : decode cX4_readClause 111 = .ok (.aload_n 1, 1) := by decide +kernel
theorem dX4_readClause_112 : decode cX4_readClause 112 = .ok (.getfield 59, 3) := by decide +kernel
theorem dX4_readClause_115 : decode cX4_readClause 115 = .ok (.astore 7, 2) := by decide +kernel
theorem dX4_readClause_117 : decode cX4_readClause 117 = .ok (.aload_n 0, 1) := by decide +kernel
theorem dX4_readClause_118 : decode cX4_readClause 118 = .ok (.bipush 32, 2) := by decide +kernel
theorem dX4_readClause_120 : decode cX4_readClause 120 = .ok (.invokevirtual 31, 3) := by decide +kernel
theorem dX4_readClause_123 : decode cX4_readClause 123 = .ok (.ifCond .eq 19, 3) := by decide +kernel
theorem dX4_readClause_126 : decode cX4_readClause 126 = .ok (.aload_n 0, 1) := by decide +kernel
theorem dX4_readClause_127 : decode cX4_readClause 127 = .ok (.aload 7, 2) := by decide +kernel
theorem dX4_readClause_129 : decode cX4_readClause 129 = .ok (.bipush 124, 2) := by decide +kernel
theorem dX4_readClause_131 : decode cX4_readClause 131 = .ok (.iconst 0, 1) := by decide +kernel
theorem dX4_readClause_132 : decode cX4_readClause 132 = .ok (.invokevirtual 62, 3) := by decide +kernel
theorem dX4_readClause_135 : decode cX4_readClause 135 = .ok (.ifCond .eq 7, 3) := by decide +kernel
theorem dX4_readClause_138 : decode cX4_readClause 138 = .ok (.iconst 1, 1) := by decide +kernel
theorem dX4_readClause_139 : decode cX4_readClause 139 = .ok (.goto 4, 3) := by decide +kernel
theorem dX4_readClause_142 : decode cX4_readClause 142 = .ok (.iconst 0, 1) := by decide +kernel
theorem dX4_readClause_143 : decode cX4_readClause 143 = .ok (.istore 8, 2) := by decide +kernel
theorem dX4_readClause_145 : decode cX4_readClause 145 = .ok (.aload 7, 2) := by decide +kernel
theorem dX4_readClause_147 : decode cX4_readClause 147 = .ok (.iload 6, 2) := by decide +kernel
theorem dX4_readClause_149 : decode cX4_readClause 149 = .ok (.invokevirtual 66, 3) := by decide +kernel
theorem dX4_readClause_152 : decode cX4_readClause 152 = .ok (.iload 8, 2) := by decide +kernel
theorem dX4_readClause_154 : decode cX4_readClause 154 = .ok (.ireturn, 1) := by decide +kernel
theorem dX4_readClause_155 : decode cX4_readClause 155 = .ok (.iload 4, 2) := by decide +kernel
theorem dX4_readClause_157 : decode cX4_readClause 157 = .ok (.ifCond .eq 12, 3) := by decide +kernel
theorem dX4_readClause_160 : decode cX4_readClause 160 = .ok (.aload_n 1, 1) := by decide +kernel
theorem dX4_readClause_161 : decode cX4_readClause 161 = .ok (.iload 6, 2) := by decide +kernel
theorem dX4_readClause_163 : decode cX4_readClause 163 = .ok (.putfield 72, 3) := by decide +kernel
theorem dX4_readClause_166 : decode cX4_readClause 166 = .ok (.goto 9, 3) := by decide +kernel
theorem dX4_readClause_169 : decode cX4_readClause 169 = .ok (.aload_n 1, 1) := by decide +kernel
theorem dX4_readClause_170 : decode cX4_readClause 170 = .ok (.iload 6, 2) := by decide +kernel
theorem dX4_readClause_172 : decode cX4_readClause 172 = .ok (.putfield 75, 3) := by decide +kernel
theorem dX4_readClause_175 : decode cX4_readClause 175 = .ok (.iconst 1, 1) := by decide +kernel
theorem dX4_readClause_176 : decode cX4_readClause 176 = .ok (.ireturn, 1) := by decide +kernel
def pX4_readClause : List (List gm_A) := [[(gm_aload 0), (gm_vcall 4 35 1), (gm_istore 2), (gm_iload 2), (gm_push (.inl 115)), (gm_cne 1), (gm_push (.inl 1)), (gm_goto 2)],
  [(gm_push (.inl 0)), (gm_goto 2)],
  [(gm_istore 3), (gm_iload 2), (gm_push (.inl 108)), (gm_cne 3), (gm_push (.inl 1)), (gm_goto 4)],
  [(gm_push (.inl 0)), (gm_goto 4)],
  [(gm_istore 4), (gm_iload 3), (gm_ifeq 5), (gm_push (.inr (.inr 1003))), (gm_goto 8)],
  [(gm_iload 2), (gm_push (.inl 99)), (gm_cne 6), (gm_push (.inr (.inr 1004))), (gm_goto 8)],
  [(gm_iload 4), (gm_ifeq 7), (gm_push (.inr (.inr 1005))), (gm_goto 8)],
  [(gm_push (.inr (.inr 1006))), (gm_goto 8)],
  [(gm_astore 5), (gm_aload 0), (gm_aload 5), (gm_vcall 4 33 2), (gm_ifeq 9), (gm_aload 0), (gm_vcall 4 32 1), (gm_goto 10)],
  [(gm_push (.inl (-1))), (gm_goto 10)],
  [(gm_istore 6), (gm_iload 6), (gm_ifge 11), (gm_push (.inl 0)), gm_zret],
  [(gm_iload 3), (gm_ifne 12), (gm_iload 2), (gm_push (.inl 99)), (gm_cne 17), (gm_goto 12)],
  [(gm_iload 3), (gm_ifeq 13), (gm_aload 1), (gm_getR 1 100), (gm_goto 14)],
  [(gm_aload 1), (gm_getR 1 101), (gm_goto 14)],
  [(gm_astore 7), (gm_aload 0), (gm_push (.inl 32)), (gm_vcall 4 34 2), (gm_ifeq 15), (gm_aload 0), (gm_aload 7), (gm_push (.inl 124)), (gm_push (.inl 0)), (gm_vcall 4 29 4), (gm_ifeq 15), (gm_push (.inl 1)), (gm_goto 16)],
  [(gm_push (.inl 0)), (gm_goto 16)],
  [(gm_istore 8), (gm_aload 7), (gm_iload 6), (gm_vcall 0 3 2), (gm_iload 8), gm_zret],
  [(gm_iload 4), (gm_ifeq 18), (gm_aload 1), (gm_iload 6), (gm_putI 1 102), (gm_goto 19)],
  [(gm_aload 1), (gm_iload 6), (gm_putI 1 103), (gm_goto 19)],
  [(gm_push (.inl 1)), gm_zret]]
def bpX4_readClause : Nat → Nat := fun b => ([0, 15, 16, 27, 28, 39, 50, 60, 62, 80, 81, 90, 100, 111, 115, 142, 143, 155, 169, 175] : List Nat).getD b 0
set_option maxRecDepth 100000 in
theorem tX4_readClause {D : va_G} {sz : Nat} {ad : Nat → Nat} {cA : Nat → ClassId} {xs : Int → Int} {Ln : Int} {l : Launch} : gm_SB D sz ad cA xs Ln l gm_mt cX4_readClause "LongNoon$Reader" 9 false 2 bpX4_readClause 0 pX4_readClause :=
  ⟨gm_cn 1 (gm_m_aload _) (gm_s_aload_n dX4_readClause_0 rfl) (
    gm_cn 4 (gm_m_vcall _ _ _) (gcl_X4_nextSign gw_74 dX4_readClause_1) (
    gm_cn 5 (gm_m_istore _) (gm_s_istore_n dX4_readClause_4 rfl (by decide)) (
    gm_cn 6 (gm_m_iload _) (gm_s_iload_n dX4_readClause_5 rfl) (
    gm_cn 8 (gm_m_push _) (gm_s_bipush dX4_readClause_6 rfl) (
    gm_cn 11 (gm_m_cne _) (gm_s_cne (bpc := bpX4_readClause) (b := 1) dX4_readClause_8 rfl) (
    gm_cn 12 (gm_m_push _) (gm_s_iconst dX4_readClause_11) (
    gm_cn 0 (gm_m_goto _) (gm_s_goto (bpc := bpX4_readClause) (b := 2) dX4_readClause_12 rfl 0) (
    trivial)))))))),
  gm_cn 16 (gm_m_push _) (gm_s_iconst dX4_readClause_15) (
    gm_cn 0 (gm_m_goto _) (gm_s_fall (bpc := bpX4_readClause) (b := 2) rfl 0) (
    trivial)),
  gm_cn 17 (gm_m_istore _) (gm_s_istore_n dX4_readClause_16 rfl (by decide)) (
    gm_cn 18 (gm_m_iload _) (gm_s_iload_n dX4_readClause_17 rfl) (
    gm_cn 20 (gm_m_push _) (gm_s_bipush dX4_readClause_18 rfl) (
    gm_cn 23 (gm_m_cne _) (gm_s_cne (bpc := bpX4_readClause) (b := 3) dX4_readClause_20 rfl) (
    gm_cn 24 (gm_m_push _) (gm_s_iconst dX4_readClause_23) (
    gm_cn 0 (gm_m_goto _) (gm_s_goto (bpc := bpX4_readClause) (b := 4) dX4_readClause_24 rfl 0) (
    trivial)))))),
  gm_cn 28 (gm_m_push _) (gm_s_iconst dX4_readClause_27) (
    gm_cn 0 (gm_m_goto _) (gm_s_fall (bpc := bpX4_readClause) (b := 4) rfl 0) (
    trivial)),
  gm_cn 30 (gm_m_istore _) (gm_s_istore dX4_readClause_28 (by decide)) (
    gm_cn 31 (gm_m_iload _) (gm_s_iload_n dX4_readClause_30 rfl) (
    gm_cn 34 (gm_m_ifeq _) (gm_s_ifeq (bpc := bpX4_readClause) (b := 5) dX4_readClause_31 rfl) (
    gm_cn 36 (gm_m_push _) (gm_s_ldcs (i := 0) rfl rfl rfl dX4_readClause_34) (
    gm_cn 0 (gm_m_goto _) (gm_s_goto (bpc := bpX4_readClause) (b := 8) dX4_readClause_36 rfl 0) (
    trivial))))),
  gm_cn 40 (gm_m_iload _) (gm_s_iload_n dX4_readClause_39 rfl) (
    gm_cn 42 (gm_m_push _) (gm_s_bipush dX4_readClause_40 rfl) (
    gm_cn 45 (gm_m_cne _) (gm_s_cne (bpc := bpX4_readClause) (b := 6) dX4_readClause_42 rfl) (
    gm_cn 47 (gm_m_push _) (gm_s_ldcs (i := 1) rfl rfl rfl dX4_readClause_45) (
    gm_cn 0 (gm_m_goto _) (gm_s_goto (bpc := bpX4_readClause) (b := 8) dX4_readClause_47 rfl 0) (
    trivial))))),
  gm_cn 52 (gm_m_iload _) (gm_s_iload dX4_readClause_50) (
    gm_cn 55 (gm_m_ifeq _) (gm_s_ifeq (bpc := bpX4_readClause) (b := 7) dX4_readClause_52 rfl) (
    gm_cn 57 (gm_m_push _) (gm_s_ldcs (i := 2) rfl rfl rfl dX4_readClause_55) (
    gm_cn 0 (gm_m_goto _) (gm_s_goto (bpc := bpX4_readClause) (b := 8) dX4_readClause_57 rfl 0) (
    trivial)))),
  gm_cn 62 (gm_m_push _) (gm_s_ldcs (i := 3) rfl rfl rfl dX4_readClause_60) (
    gm_cn 0 (gm_m_goto _) (gm_s_fall (bpc := bpX4_readClause) (b := 8) rfl 0) (
    trivial)),
  gm_cn 64 (gm_m_astore _) (gm_s_astore dX4_readClause_62 (by decide)) (
    gm_cn 65 (gm_m_aload _) (gm_s_aload_n dX4_readClause_64 rfl) (
    gm_cn 67 (gm_m_aload _) (gm_s_aload dX4_readClause_65) (
    gm_cn 70 (gm_m_vcall _ _ _) (gcl_X4_readWord gw_75 dX4_readClause_67) (
    gm_cn 73 (gm_m_ifeq _) (gm_s_ifeq (bpc := bpX4_readClause) (b := 9) dX4_readClause_70 rfl) (
    gm_cn 74 (gm_m_aload _) (gm_s_aload_n dX4_readClause_73 rfl) (
    gm_cn 77 (gm_m_vcall _ _ _) (gcl_X4_readNumber gw_76 dX4_readClause_74) (
    gm_cn 0 (gm_m_goto _) (gm_s_goto (bpc := bpX4_readClause) (b := 10) dX4_readClause_77 rfl 0) (
    trivial)))))))),
  gm_cn 81 (gm_m_push _) (gm_s_iconst dX4_readClause_80) (
    gm_cn 0 (gm_m_goto _) (gm_s_fall (bpc := bpX4_readClause) (b := 10) rfl 0) (
    trivial)),
  gm_cn 83 (gm_m_istore _) (gm_s_istore dX4_readClause_81 (by decide)) (
    gm_cn 85 (gm_m_iload _) (gm_s_iload dX4_readClause_83) (
    gm_cn 88 (gm_m_ifge _) (gm_s_ifge (bpc := bpX4_readClause) (b := 11) dX4_readClause_85 rfl) (
    gm_cn 89 (gm_m_push _) (gm_s_iconst dX4_readClause_88) (
    gm_cn 0 gm_m_zret (gm_s_zret dX4_readClause_89 rfl 0) (
    trivial))))),
  gm_cn 91 (gm_m_iload _) (gm_s_iload_n dX4_readClause_90 rfl) (
    gm_cn 94 (gm_m_ifne _) (gm_s_ifne (bpc := bpX4_readClause) (b := 12) dX4_readClause_91 rfl) (
    gm_cn 95 (gm_m_iload _) (gm_s_iload_n dX4_readClause_94 rfl) (
    gm_cn 97 (gm_m_push _) (gm_s_bipush dX4_readClause_95 rfl) (
    gm_cn 100 (gm_m_cne _) (gm_s_cne (bpc := bpX4_readClause) (b := 17) dX4_readClause_97 rfl) (
    gm_cn 0 (gm_m_goto _) (gm_s_fall (bpc := bpX4_readClause) (b := 12) rfl 0) (
    trivial)))))),
  gm_cn 101 (gm_m_iload _) (gm_s_iload_n dX4_readClause_100 rfl) (
    gm_cn 104 (gm_m_ifeq _) (gm_s_ifeq (bpc := bpX4_readClause) (b := 13) dX4_readClause_101 rfl) (
    gm_cn 105 (gm_m_aload _) (gm_s_aload_n dX4_readClause_104 rfl) (
    gm_cn 108 (gm_m_getR _ _) (gf_getR_1_0 gw_77 dX4_readClause_105) (
    gm_cn 0 (gm_m_goto _) (gm_s_goto (bpc := bpX4_readClause) (b := 14) dX4_readClause_108 rfl 0) (
    trivial))))),
  gm_cn 112 (gm_m_aload _) (gm_s_aload_n dX4_readClause_111 rfl) (
    gm_cn 115 (gm_m_getR _ _) (gf_getR_1_1 gw_78 dX4_readClause_112) (
    gm_cn 0 (gm_m_goto _) (gm_s_fall (bpc := bpX4_readClause) (b := 14) rfl 0) (
    trivial))),
  gm_cn 117 (gm_m_astore _) (gm_s_astore dX4_readClause_115 (by decide)) (
    gm_cn 118 (gm_m_aload _) (gm_s_aload_n dX4_readClause_117 rfl) (
    gm_cn 120 (gm_m_push _) (gm_s_bipush dX4_readClause_118 rfl) (
    gm_cn 123 (gm_m_vcall _ _ _) (gcl_X4_readSign gw_73 dX4_readClause_120) (
    gm_cn 126 (gm_m_ifeq _) (gm_s_ifeq (bpc := bpX4_readClause) (b := 15) dX4_readClause_123 rfl) (
    gm_cn 127 (gm_m_aload _) (gm_s_aload_n dX4_readClause_126 rfl) (
    gm_cn 129 (gm_m_aload _) (gm_s_aload dX4_readClause_127) (
    gm_cn 131 (gm_m_push _) (gm_s_bipush dX4_readClause_129 rfl) (
    gm_cn 132 (gm_m_push _) (gm_s_iconst dX4_readClause_131) (
    gm_cn 135 (gm_m_vcall _ _ _) (gcl_X4_readChain gw_79 dX4_readClause_132) (
    gm_cn 138 (gm_m_ifeq _) (gm_s_ifeq (bpc := bpX4_readClause) (b := 15) dX4_readClause_135 rfl) (
    gm_cn 139 (gm_m_push _) (gm_s_iconst dX4_readClause_138) (
    gm_cn 0 (gm_m_goto _) (gm_s_goto (bpc := bpX4_readClause) (b := 16) dX4_readClause_139 rfl 0) (
    trivial))))))))))))),
  gm_cn 143 (gm_m_push _) (gm_s_iconst dX4_readClause_142) (
    gm_cn 0 (gm_m_goto _) (gm_s_fall (bpc := bpX4_readClause) (b := 16) rfl 0) (
    trivial)),
  gm_cn 145 (gm_m_istore _) (gm_s_istore dX4_readClause_143 (by decide)) (
    gm_cn 147 (gm_m_aload _) (gm_s_aload dX4_readClause_145) (
    gm_cn 149 (gm_m_iload _) (gm_s_iload dX4_readClause_147) (
    gm_cn 152 (gm_m_vcall _ _ _) (gcl_X0_endClause gw_80 dX4_readClause_149) (
    gm_cn 154 (gm_m_iload _) (gm_s_iload dX4_readClause_152) (
    gm_cn 0 gm_m_zret (gm_s_zret dX4_readClause_154 rfl 0) (
    trivial)))))),
  gm_cn 157 (gm_m_iload _) (gm_s_iload dX4_readClause_155) (
    gm_cn 160 (gm_m_ifeq _) (gm_s_ifeq (bpc := bpX4_readClause) (b := 18) dX4_readClause_157 rfl) (
    gm_cn 161 (gm_m_aload _) (gm_s_aload_n dX4_readClause_160 rfl) (
    gm_cn 163 (gm_m_iload _) (gm_s_iload dX4_readClause_161) (
    gm_cn 166 (gm_m_putI _ _) (gf_putI_1_2 gw_81 dX4_readClause_163) (
    gm_cn 0 (gm_m_goto _) (gm_s_goto (bpc := bpX4_readClause) (b := 19) dX4_readClause_166 rfl 0) (
    trivial)))))),
  gm_cn 170 (gm_m_aload _) (gm_s_aload_n dX4_readClause_169 rfl) (
    gm_cn 172 (gm_m_iload _) (gm_s_iload dX4_readClause_170) (
    gm_cn 175 (gm_m_putI _ _) (gf_putI_1_3 gw_82 dX4_readClause_172) (
    gm_cn 0 (gm_m_goto _) (gm_s_fall (bpc := bpX4_readClause) (b := 19) rfl 0) (
    trivial)))),
  gm_cn 176 (gm_m_push _) (gm_s_iconst dX4_readClause_175) (
    gm_cn 0 gm_m_zret (gm_s_zret dX4_readClause_176 rfl 0) (
    trivial)), trivial⟩
