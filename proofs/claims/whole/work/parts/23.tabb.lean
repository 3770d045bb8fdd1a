theorem dX8_leaks_0 : decode cX8_leaks 0 = .ok (.aload_n 0, 1) := by decide +kernel
theorem dX8_leaks_1 : decode cX8_leaks 1 = .ok (.iload_n 1, 1) := by decide +kernel
theorem dX8_leaks_2 : decode cX8_leaks 2 = .ok (.invokevirtual 89, 3) := by decide +kernel
theorem dX8_leaks_5 : decode cX8_leaks 5 = .ok (.astore_n 2, 1) := by decide +kernel
theorem dX8_leaks_6 : decode cX8_leaks 6 = .ok (.aload_n 2, 1) := by decide +kernel
theorem dX8_leaks_7 : decode cX8_leaks 7 = .ok (.ifnonnull 5, 3) := by decide +kernel
theorem dX8_leaks_10 : decode cX8_leaks 10 = .ok (.iconst (-1), 1) := by decide +kernel
theorem dX8_leaks_11 : decode cX8_leaks 11 = .ok (.ireturn, 1) := by decide +kernel
theorem dX8_leaks_12 : decode cX8_leaks 12 = .ok (.iconst 0, 1) := by decide +kernel
theorem dX8_leaks_13 : decode cX8_leaks 13 = .ok (.istore_n 3, 1) := by decide +kernel
theorem dX8_leaks_14 : decode cX8_leaks 14 = .ok (.iconst 0, 1) := by decide +kernel
theorem dX8_leaks_15 : decode cX8_leaks 15 = .ok (.istore 4, 2) := by decide +kernel
theorem dX8_leaks_17 : decode cX8_leaks 17 = .ok (.iload 4, 2) := by decide +kernel
theorem dX8_leaks_19 : decode cX8_leaks 19 = .ok (.bipush 9, 2) := by decide +kernel
theorem dX8_leaks_21 : decode cX8_leaks 21 = .ok (.if_icmp .gt 47, 3) := by decide +kernel
theorem dX8_leaks_24 : decode cX8_leaks 24 = .ok (.aload_n 0, 1) := by decide +kernel
theorem dX8_leaks_25 : decode cX8_leaks 25 = .ok (.getfield 27, 3) := by decide +kernel
theorem dX8_leaks_28 : decode cX8_leaks 28 = .ok (.aload_n 2, 1) := by decide +kernel
theorem dX8_leaks_29 : decode cX8_leaks 29 = .ok (.invokevirtual 174, 3) := by decide +kernel
theorem dX8_leaks_32 : decode cX8_leaks 32 = .ok (.aload_n 0, 1) := by decide +kernel
theorem dX8_leaks_33 : decode cX8_leaks 33 = .ok (.getfield 27, 3) := by decide +kernel
theorem dX8_leaks_36 : decode cX8_leaks 36 = .ok (.getfield 101, 3) := by decide +kernel
theorem dX8_leaks_39 : decode cX8_leaks 39 = .ok (.iload 4, 2) := by decide +kernel
theorem dX8_leaks_41 : decode cX8_leaks 41 = .ok (.putfield 119, 3) := by decide +kernel
theorem dX8_leaks_44 : decode cX8_leaks 44 = .ok (.aload_n 0, 1) := by decide +kernel
theorem dX8_leaks_45 : decode cX8_leaks 45 = .ok (.aload_n 0, 1) := by decide +kernel
theorem dX8_leaks_46 : decode cX8_leaks 46 = .ok (.getfield 27, 3) := by decide +kernel
theorem dX8_leaks_49 : decode cX8_leaks 49 = .ok (.invokevirtual 222, 3) := by decide +kernel
theorem dX8_leaks_52 : decode cX8_leaks 52 = .ok (.ifCond .eq 10, 3) := by decide +kernel
theorem dX8_leaks_55 : decode cX8_leaks 55 = .ok (.iload_n 3, 1) := by decide +kernel
theorem dX8_leaks_56 : decode cX8_leaks 56 = .ok (.iconst 1, 1) := by decide +kernel
theorem dX8_leaks_57 : decode cX8_leaks 57 = .ok (.iload 4, 2) := by decide +kernel
theorem dX8_leaks_59 : decode cX8_leaks 59 = .ok (.ishl, 1) := by decide +kernel
theorem dX8_leaks_60 : decode cX8_leaks 60 = .ok (.ior, 1) := by decide +kernel
theorem dX8_leaks_61 : decode cX8_leaks 61 = .ok (.istore_n 3, 1) := by decide +kernel
theorem dX8_leaks_62 : decode cX8_leaks 62 = .ok (.iinc 4 1, 3) := by decide +kernel
theorem dX8_leaks_65 : decode cX8_leaks 65 = .ok (.goto (-48), 3) := by decide +kernel
theorem dX8_leaks_68 : decode cX8_leaks 68 = .ok (.iload_n 3, 1) := by decide +kernel
theorem dX8_leaks_69 : decode cX8_leaks 69 = .ok (.ireturn, 1) := by decide +kernel
def pX8_leaks : List (List gm_A) := [[(gm_aload 0), (gm_iload 1), (gm_vcall 8 92 2), (gm_astore 2), (gm_aload 2), (gm_ifnonnull 1), (gm_push (.inl (-1))), gm_iret],
  [(gm_push (.inl 0)), (gm_istore 3), (gm_push (.inl 0)), (gm_istore 4), (gm_goto 2)],
  [(gm_iload 4), (gm_push (.inl 9)), (gm_cgt 4), (gm_aload 0), (gm_getR 8 804), (gm_aload 2), (gm_vcall 2 13 2), (gm_aload 0), (gm_getR 8 804), (gm_getR 2 205), (gm_iload 4), (gm_putI 5 502), (gm_aload 0), (gm_aload 0), (gm_getR 8 804), (gm_vcall 8 96 2), (gm_ifeq 3), (gm_iload 3), (gm_push (.inl 1)), (gm_iload 4), (gm_op2 gm_shl), (gm_op2 gm_or), (gm_istore 3), (gm_goto 3)],
  [(gm_iinc 4 1), (gm_goto 2)],
  [(gm_iload 3), gm_iret]]
def bpX8_leaks : Nat → Nat := fun b => ([0, 12, 17, 62, 68] : List Nat).getD b 0
set_option maxRecDepth 100000 in
theorem tX8_leaks {D : va_G} {sz : Nat} {ad : Nat → Nat} {cA : Nat → ClassId} {xs : Int → Int} {Ln : Int} {l : Launch} : gm_SB D sz ad cA xs Ln l gm_mt cX8_leaks "LongNoon" 5 false 1 bpX8_leaks 0 pX8_leaks :=
  ⟨gm_cn 1 (gm_m_aload _) (gm_s_aload_n dX8_leaks_0 rfl) (
    gm_cn 2 (gm_m_iload _) (gm_s_iload_n dX8_leaks_1 rfl) (
    gm_cn 5 (gm_m_vcall _ _ _) (gcl_X8_houseAt gw_151 dX8_leaks_2) (
    gm_cn 6 (gm_m_astore _) (gm_s_astore_n dX8_leaks_5 rfl (by decide)) (
    gm_cn 7 (gm_m_aload _) (gm_s_aload_n dX8_leaks_6 rfl) (
    gm_cn 10 (gm_m_ifnonnull _) (gm_s_ifnonnull (bpc := bpX8_leaks) (b := 1) dX8_leaks_7 rfl) (
    gm_cn 11 (gm_m_push _) (gm_s_iconst dX8_leaks_10) (
    gm_cn 0 gm_m_iret (gm_s_iret dX8_leaks_11 rfl 0) (
    trivial)))))))),
  gm_cn 13 (gm_m_push _) (gm_s_iconst dX8_leaks_12) (
    gm_cn 14 (gm_m_istore _) (gm_s_istore_n dX8_leaks_13 rfl (by decide)) (
    gm_cn 15 (gm_m_push _) (gm_s_iconst dX8_leaks_14) (
    gm_cn 17 (gm_m_istore _) (gm_s_istore dX8_leaks_15 (by decide)) (
    gm_cn 0 (gm_m_goto _) (gm_s_fall (bpc := bpX8_leaks) (b := 2) rfl 0) (
    trivial))))),
  gm_cn 19 (gm_m_iload _) (gm_s_iload dX8_leaks_17) (
    gm_cn 21 (gm_m_push _) (gm_s_bipush dX8_leaks_19 rfl) (
    gm_cn 24 (gm_m_cgt _) (gm_s_cgt (bpc := bpX8_leaks) (b := 4) dX8_leaks_21 rfl) (
    gm_cn 25 (gm_m_aload _) (gm_s_aload_n dX8_leaks_24 rfl) (
    gm_cn 28 (gm_m_getR _ _) (gf_getR_8_4 gw_134 dX8_leaks_25) (
    gm_cn 29 (gm_m_aload _) (gm_s_aload_n dX8_leaks_28 rfl) (
    gm_cn 32 (gm_m_vcall _ _ _) (gcl_X2_become gw_176 dX8_leaks_29) (
    gm_cn 33 (gm_m_aload _) (gm_s_aload_n dX8_leaks_32 rfl) (
    gm_cn 36 (gm_m_getR _ _) (gf_getR_8_4 gw_134 dX8_leaks_33) (
    gm_cn 39 (gm_m_getR _ _) (gf_getR_2_5 gw_154 dX8_leaks_36) (
    gm_cn 41 (gm_m_iload _) (gm_s_iload dX8_leaks_39) (
    gm_cn 44 (gm_m_putI _ _) (gf_putI_5_2 gw_160 dX8_leaks_41) (
    gm_cn 45 (gm_m_aload _) (gm_s_aload_n dX8_leaks_44 rfl) (
    gm_cn 46 (gm_m_aload _) (gm_s_aload_n dX8_leaks_45 rfl) (
    gm_cn 49 (gm_m_getR _ _) (gf_getR_8_4 gw_134 dX8_leaks_46) (
    gm_cn 52 (gm_m_vcall _ _ _) (gcl_X8_isAsSeen gw_189 dX8_leaks_49) (
    gm_cn 55 (gm_m_ifeq _) (gm_s_ifeq (bpc := bpX8_leaks) (b := 3) dX8_leaks_52 rfl) (
    gm_cn 56 (gm_m_iload _) (gm_s_iload_n dX8_leaks_55 rfl) (
    gm_cn 57 (gm_m_push _) (gm_s_iconst dX8_leaks_56) (
    gm_cn 59 (gm_m_iload _) (gm_s_iload dX8_leaks_57) (
    gm_cn 60 (gm_m_op2 _) (gm_s_ishl dX8_leaks_59) (
    gm_cn 61 (gm_m_op2 _) (gm_s_ior dX8_leaks_60) (
    gm_cn 62 (gm_m_istore _) (gm_s_istore_n dX8_leaks_61 rfl (by decide)) (
    gm_cn 0 (gm_m_goto _) (gm_s_fall (bpc := bpX8_leaks) (b := 3) rfl 0) (
    trivial)))))))))))))))))))))))),
  gm_cn 65 (gm_m_iinc _ _) (gm_s_iinc dX8_leaks_62 (by decide)) (
    gm_cn 0 (gm_m_goto _) (gm_s_goto (bpc := bpX8_leaks) (b := 2) dX8_leaks_65 rfl 0) (
    trivial)),
  gm_cn 69 (gm_m_iload _) (gm_s_iload_n dX8_leaks_68 rfl) (
    gm_cn 0 gm_m_iret (gm_s_iret dX8_leaks_69 rfl 0) (
    trivial)), trivial⟩
theorem dX8_dry_0 : decode cX8_dry 0 = .ok (.aload_n 0, 1) := by decide +kernel
theorem dX8_dry_1 : decode cX8_dry 1 = .ok (.iload_n 1, 1) := by decide +kernel
theorem dX8_dry_2 : decode cX8_dry 2 = .ok (.invokevirtual 89, 3) := by decide +kernel
theorem dX8_dry_5 : decode cX8_dry 5 = .ok (.astore_n 2, 1) := by decide +kernel
theorem dX8_dry_6 : decode cX8_dry 6 = .ok (.aload_n 2, 1) := by decide +kernel
theorem dX8_dry_7 : decode cX8_dry 7 = .ok (.ifnonnull 5, 3) := by decide +kernel
theorem dX8_dry_10 : decode cX8_dry 10 = .ok (.iconst (-1), 1) := by decide +kernel
theorem dX8_dry_11 : decode cX8_dry 11 = .ok (.ireturn, 1) := by decide +kernel
theorem dX8_dry_12 : decode cX8_dry 12 = .ok (.aload_n 0, 1) := by decide +kernel
theorem dX8_dry_13 : decode cX8_dry 13 = .ok (.invokevirtual 93, 3) := by decide +kernel
theorem dX8_dry_16 : decode cX8_dry 16 = .ok (.astore_n 3, 1) := by decide +kernel
theorem dX8_dry_17 : decode cX8_dry 17 = .ok (.aload_n 0, 1) := by decide +kernel
theorem dX8_dry_18 : decode cX8_dry 18 = .ok (.getfield 27, 3) := by decide +kernel
theorem dX8_dry_21 : decode cX8_dry 21 = .ok (.aload_n 2, 1) := by decide +kernel
theorem dX8_dry_22 : decode cX8_dry 22 = .ok (.invokevirtual 174, 3) := by decide +kernel
theorem dX8_dry_25 : decode cX8_dry 25 = .ok (.iconst 1, 1) := by decide +kernel
theorem dX8_dry_26 : decode cX8_dry 26 = .ok (.istore 4, 2) := by decide +kernel
theorem dX8_dry_28 : decode cX8_dry 28 = .ok (.iload 4, 2) := by decide +kernel
theorem dX8_dry_30 : decode cX8_dry 30 = .ok (.bipush 60, 2) := by decide +kernel
theorem dX8_dry_32 : decode cX8_dry 32 = .ok (.if_icmp .gt 47, 3) := by decide +kernel
theorem dX8_dry_35 : decode cX8_dry 35 = .ok (.aload_n 0, 1) := by decide +kernel
theorem dX8_dry_36 : decode cX8_dry 36 = .ok (.getfield 27, 3) := by decide +kernel
theorem dX8_dry_39 : decode cX8_dry 39 = .ok (.aload_n 3, 1) := by decide +kernel
theorem dX8_dry_40 : decode cX8_dry 40 = .ok (.aload_n 0, 1) := by decide +kernel
theorem dX8_dry_41 : decode cX8_dry 41 = .ok (.getfield 12, 3) := by decide +kernel
theorem dX8_dry_44 : decode cX8_dry 44 = .ok (.getfield 157, 3) := by decide +kernel
theorem dX8_dry_47 : decode cX8_dry 47 = .ok (.iload 4, 2) := by decide +kernel
theorem dX8_dry_49 : decode cX8_dry 49 = .ok (.iadd, 1) := by decide +kernel
theorem dX8_dry_50 : decode cX8_dry 50 = .ok (.iconst 1, 1) := by decide +kernel
theorem dX8_dry_51 : decode cX8_dry 51 = .ok (.isub, 1) := by decide +kernel
theorem dX8_dry_52 : decode cX8_dry 52 = .ok (.iconst 0, 1) := by decide +kernel
theorem dX8_dry_53 : decode cX8_dry 53 = .ok (.invokevirtual 170, 3) := by decide +kernel
theorem dX8_dry_56 : decode cX8_dry 56 = .ok (.pop, 1) := by decide +kernel
theorem dX8_dry_57 : decode cX8_dry 57 = .ok (.aload_n 0, 1) := by decide +kernel
theorem dX8_dry_58 : decode cX8_dry 58 = .ok (.getfield 27, 3) := by decide +kernel
theorem dX8_dry_61 : decode cX8_dry 61 = .ok (.getfield 101, 3) := by decide +kernel
theorem dX8_dry_64 : decode cX8_dry 64 = .ok (.getfield 104, 3) := by decide +kernel
theorem dX8_dry_67 : decode cX8_dry 67 = .ok (.ifCond .ne 6, 3) := by decide +kernel
theorem dX8_dry_70 : decode cX8_dry 70 = .ok (.iload 4, 2) := by decide +kernel
theorem dX8_dry_72 : decode cX8_dry 72 = .ok (.ireturn, 1) := by decide +kernel
theorem dX8_dry_73 : decode cX8_dry 73 = .ok (.iinc 4 1, 3) := by decide +kernel
theorem dX8_dry_76 : decode cX8_dry 76 = .ok (.goto (-48), 3) := by decide +kernel
theorem dX8_dry_79 : decode cX8_dry 79 = .ok (.bipush (-5), 2) := by decide +kernel
theorem dX8_dry_81 : decode cX8_dry 81 = .ok (.ireturn, 1) := by decide +kernel
def pX8_dry : List (List gm_A) := [[(gm_aload 0), (gm_iload 1), (gm_vcall 8 92 2), (gm_astore 2), (gm_aload 2), (gm_ifnonnull 1), (gm_push (.inl (-1))), gm_iret],
  [(gm_aload 0), (gm_vcall 8 94 1), (gm_astore 3), (gm_aload 0), (gm_getR 8 804), (gm_aload 2), (gm_vcall 2 13 2), (gm_push (.inl 1)), (gm_istore 4), (gm_goto 2)],
  [(gm_iload 4), (gm_push (.inl 60)), (gm_cgt 4), (gm_aload 0), (gm_getR 8 804), (gm_aload 3), (gm_aload 0), (gm_getR 8 800), (gm_getI 7 702), (gm_iload 4), (gm_op2 gm_add), (gm_push (.inl 1)), (gm_op2 gm_sub), (gm_push (.inl 0)), (gm_vcall 2 17 4), gm_pop1, (gm_aload 0), (gm_getR 8 804), (gm_getR 2 205), (gm_getI 5 500), (gm_ifne 3), (gm_iload 4), gm_iret],
  [(gm_iinc 4 1), (gm_goto 2)],
  [(gm_push (.inl (-5))), gm_iret]]
def bpX8_dry : Nat → Nat := fun b => ([0, 12, 28, 73, 79] : List Nat).getD b 0
set_option maxRecDepth 100000 in
theorem tX8_dry {D : va_G} {sz : Nat} {ad : Nat → Nat} {cA : Nat → ClassId} {xs : Int → Int} {Ln : Int} {l : Launch} : gm_SB D sz ad cA xs Ln l gm_mt cX8_dry "LongNoon" 5 false 1 bpX8_dry 0 pX8_dry :=
  ⟨gm_cn 1 (gm_m_aload _) (gm_s_aload_n dX8_dry_0 rfl) (
    gm_cn 2 (gm_m_iload _) (gm_s_iload_n dX8_dry_1 rfl) (
    gm_cn 5 (gm_m_vcall _ _ _) (gcl_X8_houseAt gw_151 dX8_dry_2) (
    gm_cn 6 (gm_m_astore _) (gm_s_astore_n dX8_dry_5 rfl (by decide)) (
    gm_cn 7 (gm_m_aload _) (gm_s_aload_n dX8_dry_6 rfl) (
    gm_cn 10 (gm_m_ifnonnull _) (gm_s_ifnonnull (bpc := bpX8_dry) (b := 1) dX8_dry_7 rfl) (
    gm_cn 11 (gm_m_push _) (gm_s_iconst dX8_dry_10) (
    gm_cn 0 gm_m_iret (gm_s_iret dX8_dry_11 rfl 0) (
    trivial)))))))),
  gm_cn 13 (gm_m_aload _) (gm_s_aload_n dX8_dry_12 rfl) (
    gm_cn 16 (gm_m_vcall _ _ _) (gcl_X8_groundNow gw_152 dX8_dry_13) (
    gm_cn 17 (gm_m_astore _) (gm_s_astore_n dX8_dry_16 rfl (by decide)) (
    gm_cn 18 (gm_m_aload _) (gm_s_aload_n dX8_dry_17 rfl) (
    gm_cn 21 (gm_m_getR _ _) (gf_getR_8_4 gw_134 dX8_dry_18) (
    gm_cn 22 (gm_m_aload _) (gm_s_aload_n dX8_dry_21 rfl) (
    gm_cn 25 (gm_m_vcall _ _ _) (gcl_X2_become gw_176 dX8_dry_22) (
    gm_cn 26 (gm_m_push _) (gm_s_iconst dX8_dry_25) (
    gm_cn 28 (gm_m_istore _) (gm_s_istore dX8_dry_26 (by decide)) (
    gm_cn 0 (gm_m_goto _) (gm_s_fall (bpc := bpX8_dry) (b := 2) rfl 0) (
    trivial)))))))))),
  gm_cn 30 (gm_m_iload _) (gm_s_iload dX8_dry_28) (
    gm_cn 32 (gm_m_push _) (gm_s_bipush dX8_dry_30 rfl) (
    gm_cn 35 (gm_m_cgt _) (gm_s_cgt (bpc := bpX8_dry) (b := 4) dX8_dry_32 rfl) (
    gm_cn 36 (gm_m_aload _) (gm_s_aload_n dX8_dry_35 rfl) (
    gm_cn 39 (gm_m_getR _ _) (gf_getR_8_4 gw_134 dX8_dry_36) (
    gm_cn 40 (gm_m_aload _) (gm_s_aload_n dX8_dry_39 rfl) (
    gm_cn 41 (gm_m_aload _) (gm_s_aload_n dX8_dry_40 rfl) (
    gm_cn 44 (gm_m_getR _ _) (gf_getR_8_0 gw_130 dX8_dry_41) (
    gm_cn 47 (gm_m_getI _ _) (gf_getI_7_2 gw_171 dX8_dry_44) (
    gm_cn 49 (gm_m_iload _) (gm_s_iload dX8_dry_47) (
    gm_cn 50 (gm_m_op2 _) (gm_s_iadd dX8_dry_49) (
    gm_cn 51 (gm_m_push _) (gm_s_iconst dX8_dry_50) (
    gm_cn 52 (gm_m_op2 _) (gm_s_isub dX8_dry_51) (
    gm_cn 53 (gm_m_push _) (gm_s_iconst dX8_dry_52) (
    gm_cn 56 (gm_m_vcall _ _ _) (gcl_X2_pass gw_175 dX8_dry_53) (
    gm_cn 57 gm_m_pop1 (gm_s_pop dX8_dry_56) (
    gm_cn 58 (gm_m_aload _) (gm_s_aload_n dX8_dry_57 rfl) (
    gm_cn 61 (gm_m_getR _ _) (gf_getR_8_4 gw_134 dX8_dry_58) (
    gm_cn 64 (gm_m_getR _ _) (gf_getR_2_5 gw_154 dX8_dry_61) (
    gm_cn 67 (gm_m_getI _ _) (gf_getI_5_0 gw_155 dX8_dry_64) (
    gm_cn 70 (gm_m_ifne _) (gm_s_ifne (bpc := bpX8_dry) (b := 3) dX8_dry_67 rfl) (
    gm_cn 72 (gm_m_iload _) (gm_s_iload dX8_dry_70) (
    gm_cn 0 gm_m_iret (gm_s_iret dX8_dry_72 rfl 0) (
    trivial))))))))))))))))))))))),
  gm_cn 76 (gm_m_iinc _ _) (gm_s_iinc dX8_dry_73 (by decide)) (
    gm_cn 0 (gm_m_goto _) (gm_s_goto (bpc := bpX8_dry) (b := 2) dX8_dry_76 rfl 0) (
    trivial)),
  gm_cn 81 (gm_m_push _) (gm_s_bipush dX8_dry_79 rfl) (
    gm_cn 0 gm_m_iret (gm_s_iret dX8_dry_81 rfl 0) (
    trivial)), trivial⟩
theorem dX8_odds_0 : decode cX8_odds 0 = .ok (.aload_n 0, 1) := by decide +kernel
theorem dX8_odds_1 : decode cX8_odds 1 = .ok (.iload_n 1, 1) := by decide +kernel
theorem dX8_odds_2 : decode cX8_odds 2 = .ok (.invokevirtual 89, 3) := by decide +kernel
theorem dX8_odds_5 : decode cX8_odds 5 = .ok (.astore_n 3, 1) := by decide +kernel
theorem dX8_odds_6 : decode cX8_odds 6 = .ok (.aload_n 3, 1) := by decide +kernel
theorem dX8_odds_7 : decode cX8_odds 7 = .ok (.ifnull 11, 3) := by decide +kernel
theorem dX8_odds_10 : decode cX8_odds 10 = .ok (.iload_n 2, 1) := by decide +kernel
theorem dX8_odds_11 : decode cX8_odds 11 = .ok (.iconst 1, 1) := by decide +kernel
theorem dX8_odds_12 : decode cX8_odds 12 = .ok (.invokestatic 73, 3) := by decide +kernel
theorem dX8_odds_15 : decode cX8_odds 15 = .ok (.ifCond .ne 7, 3) := by decide +kernel
theorem dX8_odds_18 : decode cX8_odds 18 = .ok (.ldc2_w 226, 3) := by decide +kernel
theorem dX8_odds_21 : decode cX8_odds 21 = .ok (.lreturn, 1) := by decide +kernel
theorem dX8_odds_22 : decode cX8_odds 22 = .ok (.aload_n 0, 1) := by decide +kernel
theorem dX8_odds_23 : decode cX8_odds 23 = .ok (.invokevirtual 93, 3) := by decide +kernel
theorem dX8_odds_26 : decode cX8_odds 26 = .ok (.astore 4, 2) := by decide +kernel
theorem dX8_odds_28 : decode cX8_odds 28 = .ok (.iconst 0, 1) := by decide +kernel
theorem dX8_odds_29 : decode cX8_odds 29 = .ok (.istore 5, 2) := by decide +kernel
theorem dX8_odds_31 : decode cX8_odds 31 = .ok (.iconst 0, 1) := by decide +kernel
theorem dX8_odds_32 : decode cX8_odds 32 = .ok (.istore 6, 2) := by decide +kernel
theorem dX8_odds_34 : decode cX8_odds 34 = .ok (.iload 6, 2) := by decide +kernel
theorem dX8_odds_36 : decode cX8_odds 36 = .ok (.bipush 9, 2) := by decide +kernel
theorem dX8_odds_38 : decode cX8_odds 38 = .ok (.if_icmp .gt 41, 3) := by decide +kernel
theorem dX8_odds_41 : decode cX8_odds 41 = .ok (.aload_n 0, 1) := by decide +kernel
theorem dX8_odds_42 : decode cX8_odds 42 = .ok (.getfield 27, 3) := by decide +kernel
theorem dX8_odds_45 : decode cX8_odds 45 = .ok (.aload_n 3, 1) := by decide +kernel
theorem dX8_odds_46 : decode cX8_odds 46 = .ok (.invokevirtual 174, 3) := by decide +kernel
theorem dX8_odds_49 : decode cX8_odds 49 = .ok (.aload_n 0, 1) := by decide +kernel
theorem dX8_odds_50 : decode cX8_odds 50 = .ok (.getfield 27, 3) := by decide +kernel
theorem dX8_odds_53 : decode cX8_odds 53 = .ok (.aload 4, 2) := by decide +kernel
theorem dX8_odds_55 : decode cX8_odds 55 = .ok (.aload_n 0, 1) := by decide +kernel
theorem dX8_odds_56 : decode cX8_odds 56 = .ok (.getfield 12, 3) := by decide +kernel
theorem dX8_odds_59 : decode cX8_odds 59 = .ok (.getfield 157, 3) := by decide +kernel
theorem dX8_odds_62 : decode cX8_odds 62 = .ok (.iload 6, 2) := by decide +kernel
theorem dX8_odds_64 : decode cX8_odds 64 = .ok (.invokevirtual 170, 3) := by decide +kernel
theorem dX8_odds_67 : decode cX8_odds 67 = .ok (.ifCond .eq 6, 3) := by decide +kernel
theorem dX8_odds_70 : decode cX8_odds 70 = .ok (.iinc 5 1, 3) := by decide +kernel
theorem dX8_odds_73 : decode cX8_odds 73 = .ok (.iinc 6 1, 3) := by decide +kernel
theorem dX8_odds_76 : decode cX8_odds 76 = .ok (.goto (-42), 3) := by decide +kernel
theorem dX8_odds_79 : decode cX8_odds 79 = .ok (.iload 5, 2) := by decide +kernel
theorem dX8_odds_81 : decode cX8_odds 81 = .ok (.bipush 10, 2) := by decide +kernel
theorem dX8_odds_83 : decode cX8_odds 83 = .ok (.iload_n 2, 1) := by decide +kernel
theorem dX8_odds_84 : decode cX8_odds 84 = .ok (.invokestatic 228, 3) := by decide +kernel
theorem dX8_odds_87 : decode cX8_odds 87 = .ok (.i2l, 1) := by decide +kernel
theorem dX8_odds_88 : decode cX8_odds 88 = .ok (.lreturn, 1) := by decide +kernel
def pX8_odds : List (List gm_A) := [[(gm_aload 0), (gm_iload 1), (gm_vcall 8 92 2), (gm_astore 3), (gm_aload 3), (gm_ifnull 1), (gm_iload 2), (gm_push (.inl 1)), (gm_scall 90 2), (gm_ifne 2), (gm_goto 1)],
  [(gm_push (.inr (.inl (-9223372036854775808)))), gm_lret],
  [(gm_aload 0), (gm_vcall 8 94 1), (gm_astore 4), (gm_push (.inl 0)), (gm_istore 5), (gm_push (.inl 0)), (gm_istore 6), (gm_goto 3)],
  [(gm_iload 6), (gm_push (.inl 9)), (gm_cgt 5), (gm_aload 0), (gm_getR 8 804), (gm_aload 3), (gm_vcall 2 13 2), (gm_aload 0), (gm_getR 8 804), (gm_aload 4), (gm_aload 0), (gm_getR 8 800), (gm_getI 7 702), (gm_iload 6), (gm_vcall 2 17 4), (gm_ifeq 4), (gm_iinc 5 1), (gm_goto 4)],
  [(gm_iinc 6 1), (gm_goto 3)],
  [(gm_iload 5), (gm_push (.inl 10)), (gm_iload 2), (gm_scall 98 3), gm_i2l, gm_lret]]
def bpX8_odds : Nat → Nat := fun b => ([0, 18, 22, 34, 73, 79] : List Nat).getD b 0
set_option maxRecDepth 100000 in
theorem tX8_odds {D : va_G} {sz : Nat} {ad : Nat → Nat} {cA : Nat → ClassId} {xs : Int → Int} {Ln : Int} {l : Launch} : gm_SB D sz ad cA xs Ln l gm_mt cX8_odds "LongNoon" 7 false 4 bpX8_odds 0 pX8_odds :=
  ⟨gm_cn 1 (gm_m_aload _) (gm_s_aload_n dX8_odds_0 rfl) (
    gm_cn 2 (gm_m_iload _) (gm_s_iload_n dX8_odds_1 rfl) (
    gm_cn 5 (gm_m_vcall _ _ _) (gcl_X8_houseAt gw_151 dX8_odds_2) (
    gm_cn 6 (gm_m_astore _) (gm_s_astore_n dX8_odds_5 rfl (by decide)) (
    gm_cn 7 (gm_m_aload _) (gm_s_aload_n dX8_odds_6 rfl) (
    gm_cn 10 (gm_m_ifnull _) (gm_s_ifnull (bpc := bpX8_odds) (b := 1) dX8_odds_7 rfl) (
    gm_cn 11 (gm_m_iload _) (gm_s_iload_n dX8_odds_10 rfl) (
    gm_cn 12 (gm_m_push _) (gm_s_iconst dX8_odds_11) (
    gm_cn 15 (gm_m_scall _ _) (gcl_X8_within gw_147 dX8_odds_12) (
    gm_cn 18 (gm_m_ifne _) (gm_s_ifne (bpc := bpX8_odds) (b := 2) dX8_odds_15 rfl) (
    gm_cn 0 (gm_m_goto _) (gm_s_fall (bpc := bpX8_odds) (b := 1) rfl 0) (
    trivial))))))))))),
  gm_cn 21 (gm_m_push _) (gm_s_ldc2 gw_190 (by decide +kernel) dX8_odds_18) (
    gm_cn 0 gm_m_lret (gm_s_lret dX8_odds_21 rfl 0) (
    trivial)),
  gm_cn 23 (gm_m_aload _) (gm_s_aload_n dX8_odds_22 rfl) (
    gm_cn 26 (gm_m_vcall _ _ _) (gcl_X8_groundNow gw_152 dX8_odds_23) (
    gm_cn 28 (gm_m_astore _) (gm_s_astore dX8_odds_26 (by decide)) (
    gm_cn 29 (gm_m_push _) (gm_s_iconst dX8_odds_28) (
    gm_cn 31 (gm_m_istore _) (gm_s_istore dX8_odds_29 (by decide)) (
    gm_cn 32 (gm_m_push _) (gm_s_iconst dX8_odds_31) (
    gm_cn 34 (gm_m_istore _) (gm_s_istore dX8_odds_32 (by decide)) (
    gm_cn 0 (gm_m_goto _) (gm_s_fall (bpc := bpX8_odds) (b := 3) rfl 0) (
    trivial)))))))),
  gm_cn 36 (gm_m_iload _) (gm_s_iload dX8_odds_34) (
    gm_cn 38 (gm_m_push _) (gm_s_bipush dX8_odds_36 rfl) (
    gm_cn 41 (gm_m_cgt _) (gm_s_cgt (bpc := bpX8_odds) (b := 5) dX8_odds_38 rfl) (
    gm_cn 42 (gm_m_aload _) (gm_s_aload_n dX8_odds_41 rfl) (
    gm_cn 45 (gm_m_getR _ _) (gf_getR_8_4 gw_134 dX8_odds_42) (
    gm_cn 46 (gm_m_aload _) (gm_s_aload_n dX8_odds_45 rfl) (
    gm_cn 49 (gm_m_vcall _ _ _) (gcl_X2_become gw_176 dX8_odds_46) (
    gm_cn 50 (gm_m_aload _) (gm_s_aload_n dX8_odds_49 rfl) (
    gm_cn 53 (gm_m_getR _ _) (gf_getR_8_4 gw_134 dX8_odds_50) (
    gm_cn 55 (gm_m_aload _) (gm_s_aload dX8_odds_53) (
    gm_cn 56 (gm_m_aload _) (gm_s_aload_n dX8_odds_55 rfl) (
    gm_cn 59 (gm_m_getR _ _) (gf_getR_8_0 gw_130 dX8_odds_56) (
    gm_cn 62 (gm_m_getI _ _) (gf_getI_7_2 gw_171 dX8_odds_59) (
    gm_cn 64 (gm_m_iload _) (gm_s_iload dX8_odds_62) (
    gm_cn 67 (gm_m_vcall _ _ _) (gcl_X2_pass gw_175 dX8_odds_64) (
    gm_cn 70 (gm_m_ifeq _) (gm_s_ifeq (bpc := bpX8_odds) (b := 4) dX8_odds_67 rfl) (
    gm_cn 73 (gm_m_iinc _ _) (gm_s_iinc dX8_odds_70 (by decide)) (
    gm_cn 0 (gm_m_goto _) (gm_s_fall (bpc := bpX8_odds) (b := 4) rfl 0) (
    trivial)))))))))))))))))),
  gm_cn 76 (gm_m_iinc _ _) (gm_s_iinc dX8_odds_73 (by decide)) (
    gm_cn 0 (gm_m_goto _) (gm_s_goto (bpc := bpX8_odds) (b := 3) dX8_odds_76 rfl 0) (
    trivial)),
  gm_cn 81 (gm_m_iload _) (gm_s_iload dX8_odds_79) (
    gm_cn 83 (gm_m_push _) (gm_s_bipush dX8_odds_81 rfl) (
    gm_cn 84 (gm_m_iload _) (gm_s_iload_n dX8_odds_83 rfl) (
    gm_cn 87 (gm_m_scall _ _) (gcl_X8_lowest gw_191 dX8_odds_84) (
    gm_cn 88 gm_m_i2l (gm_s_i2l dX8_odds_87) (
    gm_cn 0 gm_m_lret (gm_s_lret dX8_odds_88 rfl 0) (
    trivial)))))), trivial⟩
theorem dX8_mean_0 : decode cX8_mean 0 = .ok (.iload_n 1, 1) := by decide +kernel
theorem dX8_mean_1 : decode cX8_mean 1 = .ok (.iconst 1, 1) := by decide +kernel
theorem dX8_mean_2 : decode cX8_mean 2 = .ok (.if_icmp .lt 27, 3) := by decide +kernel
theorem dX8_mean_5 : decode cX8_mean 5 = .ok (.iload_n 1, 1) := by decide +kernel
theorem dX8_mean_6 : decode cX8_mean 6 = .ok (.bipush 60, 2) := by decide +kernel
theorem dX8_mean_8 : decode cX8_mean 8 = .ok (.if_icmp .gt 21, 3) := by decide +kernel
theorem dX8_mean_11 : decode cX8_mean 11 = .ok (.iload_n 2, 1) := by decide +kernel
theorem dX8_mean_12 : decode cX8_mean 12 = .ok (.iconst 1, 1) := by decide +kernel
theorem dX8_mean_13 : decode cX8_mean 13 = .ok (.invokestatic 73, 3) := by decide +kernel
theorem dX8_mean_16 : decode cX8_mean 16 = .ok (.ifCond .eq 13, 3) := by decide +kernel
theorem dX8_mean_19 : decode cX8_mean 19 = .ok (.aload_n 0, 1) := by decide +kernel
theorem dX8_mean_20 : decode cX8_mean 20 = .ok (.getfield 12, 3) := by decide +kernel
theorem dX8_mean_23 : decode cX8_mean 23 = .ok (.getfield 77, 3) := by decide +kernel
theorem dX8_mean_26 : decode cX8_mean 26 = .ok (.ifCond .ne 7, 3) := by decide +kernel
theorem dX8_mean_29 : decode cX8_mean 29 = .ok (.ldc2_w 226, 3) := by decide +kernel
theorem dX8_mean_32 : decode cX8_mean 32 = .ok (.lreturn, 1) := by decide +kernel
theorem dX8_mean_33 : decode cX8_mean 33 = .ok (.aload_n 0, 1) := by decide +kernel
theorem dX8_mean_34 : decode cX8_mean 34 = .ok (.invokevirtual 93, 3) := by decide +kernel
theorem dX8_mean_37 : decode cX8_mean 37 = .ok (.astore_n 3, 1) := by decide +kernel
theorem dX8_mean_38 : decode cX8_mean 38 = .ok (.iconst 0, 1) := by decide +kernel
theorem dX8_mean_39 : decode cX8_mean 39 = .ok (.istore 4, 2) := by decide +kernel
theorem dX8_mean_41 : decode cX8_mean 41 = .ok (.iconst 0, 1) := by decide +kernel
theorem dX8_mean_42 : decode cX8_mean 42 = .ok (.istore 5, 2) := by decide +kernel
theorem dX8_mean_44 : decode cX8_mean 44 = .ok (.iload 5, 2) := by decide +kernel
theorem dX8_mean_46 : decode cX8_mean 46 = .ok (.aload_n 0, 1) := by decide +kernel
theorem dX8_mean_47 : decode cX8_mean 47 = .ok (.getfield 12, 3) := by decide +kernel
theorem dX8_mean_50 : decode cX8_mean 50 = .ok (.getfield 77, 3) := by decide +kernel
theorem dX8_mean_53 : decode cX8_mean 53 = .ok (.if_icmp .ge 86, 3) := by decide +kernel
theorem dX8_mean_56 : decode cX8_mean 56 = .ok (.iload 5, 2) := by decide +kernel
theorem dX8_mean_58 : decode cX8_mean 58 = .ok (.aload_n 0, 1) := by decide +kernel
theorem dX8_mean_59 : decode cX8_mean 59 = .ok (.getfield 12, 3) := by decide +kernel
theorem dX8_mean_62 : decode cX8_mean 62 = .ok (.getfield 81, 3) := by decide +kernel
theorem dX8_mean_65 : decode cX8_mean 65 = .ok (.arraylength, 1) := by decide +kernel
theorem dX8_mean_66 : decode cX8_mean 66 = .ok (.if_icmp .ge 73, 3) := by decide +kernel
theorem dX8_mean_69 : decode cX8_mean 69 = .ok (.aload_n 0, 1) := by decide +kernel
theorem dX8_mean_70 : decode cX8_mean 70 = .ok (.getfield 27, 3) := by decide +kernel
theorem dX8_mean_73 : decode cX8_mean 73 = .ok (.aload_n 0, 1) := by decide +kernel
theorem dX8_mean_74 : decode cX8_mean 74 = .ok (.getfield 12, 3) := by decide +kernel
theorem dX8_mean_77 : decode cX8_mean 77 = .ok (.getfield 81, 3) := by decide +kernel
theorem dX8_mean_80 : decode cX8_mean 80 = .ok (.iload 5, 2) := by decide +kernel
theorem dX8_mean_82 : decode cX8_mean 82 = .ok (.aaload, 1) := by decide +kernel
theorem dX8_mean_83 : decode cX8_mean 83 = .ok (.invokevirtual 174, 3) := by decide +kernel
theorem dX8_mean_86 : decode cX8_mean 86 = .ok (.iconst 0, 1) := by decide +kernel
theorem dX8_mean_87 : decode cX8_mean 87 = .ok (.istore 6, 2) := by decide +kernel
theorem dX8_mean_89 : decode cX8_mean 89 = .ok (.iload 6, 2) := by decide +kernel
theorem dX8_mean_91 : decode cX8_mean 91 = .ok (.iload_n 1, 1) := by decide +kernel
theorem dX8_mean_92 : decode cX8_mean 92 = .ok (.if_icmp .ge 41, 3) := by decide +kernel
theorem dX8_mean_95 : decode cX8_mean 95 = .ok (.aload_n 0, 1) := by decide +kernel
theorem dX8_mean_96 : decode cX8_mean 96 = .ok (.getfield 27, 3) := by decide +kernel
theorem dX8_mean_99 : decode cX8_mean 99 = .ok (.aload_n 3, 1) := by decide +kernel
theorem dX8_mean_100 : decode cX8_mean 100 = .ok (.aload_n 0, 1) := by decide +kernel
theorem dX8_mean_101 : decode cX8_mean 101 = .ok (.getfield 12, 3) := by decide +kernel
theorem dX8_mean_104 : decode cX8_mean 104 = .ok (.getfield 157, 3) := by decide +kernel
theorem dX8_mean_107 : decode cX8_mean 107 = .ok (.iload 6, 2) := by decide +kernel
theorem dX8_mean_109 : decode cX8_mean 109 = .ok (.iadd, 1) := by decide +kernel
theorem dX8_mean_110 : decode cX8_mean 110 = .ok (.iconst 0, 1) := by decide +kernel
theorem dX8_mean_111 : decode cX8_mean 111 = .ok (.invokevirtual 170, 3) := by decide +kernel
theorem dX8_mean_114 : decode cX8_mean 114 = .ok (.pop, 1) := by decide +kernel
theorem dX8_mean_115 : decode cX8_mean 115 = .ok (.iload 4, 2) := by decide +kernel
theorem dX8_mean_117 : decode cX8_mean 117 = .ok (.aload_n 0, 1) := by decide +kernel
theorem dX8_mean_118 : decode cX8_mean 118 = .ok (.getfield 27, 3) := by decide +kernel
theorem dX8_mean_121 : decode cX8_mean 121 = .ok (.getfield 113, 3) := by decide +kernel
theorem dX8_mean_124 : decode cX8_mean 124 = .ok (.iadd, 1) := by decide +kernel
theorem dX8_mean_125 : decode cX8_mean 125 = .ok (.istore 4, 2) := by decide +kernel
theorem dX8_mean_127 : decode cX8_mean 127 = .ok (.iinc 6 1, 3) := by decide +kernel
theorem dX8_mean_130 : decode cX8_mean 130 = .ok (.goto (-41), 3) := by decide +kernel
theorem dX8_mean_133 : decode cX8_mean 133 = .ok (.iinc 5 1, 3) := by decide +kernel
theorem dX8_mean_136 : decode cX8_mean 136 = .ok (.goto (-92), 3) := by decide +kernel
theorem dX8_mean_139 : decode cX8_mean 139 = .ok (.iload 4, 2) := by decide +kernel
theorem dX8_mean_141 : decode cX8_mean 141 = .ok (.iload_n 1, 1) := by decide +kernel
theorem dX8_mean_142 : decode cX8_mean 142 = .ok (.aload_n 0, 1) := by decide +kernel
theorem dX8_mean_143 : decode cX8_mean 143 = .ok (.getfield 12, 3) := by decide +kernel
theorem dX8_mean_146 : decode cX8_mean 146 = .ok (.getfield 77, 3) := by decide +kernel
theorem dX8_mean_149 : decode cX8_mean 149 = .ok (.imul, 1) := by decide +kernel
theorem dX8_mean_150 : decode cX8_mean 150 = .ok (.iload_n 2, 1) := by decide +kernel
theorem dX8_mean_151 : decode cX8_mean 151 = .ok (.invokestatic 228, 3) := by decide +kernel
theorem dX8_mean_154 : decode cX8_mean 154 = .ok (.i2l, 1) := by decide +kernel
theorem dX8_mean_155 : decode cX8_mean 155 = .ok (.lreturn, 1) := by decide +kernel
def pX8_mean : List (List gm_A) := [[(gm_iload 1), (gm_push (.inl 1)), (gm_clt 1), (gm_iload 1), (gm_push (.inl 60)), (gm_cgt 1), (gm_iload 2), (gm_push (.inl 1)), (gm_scall 90 2), (gm_ifeq 1), (gm_aload 0), (gm_getR 8 800), (gm_getI 7 701), (gm_ifne 2), (gm_goto 1)],
  [(gm_push (.inr (.inl (-9223372036854775808)))), gm_lret],
  [(gm_aload 0), (gm_vcall 8 94 1), (gm_astore 3), (gm_push (.inl 0)), (gm_istore 4), (gm_push (.inl 0)), (gm_istore 5), (gm_goto 3)],
  [(gm_iload 5), (gm_aload 0), (gm_getR 8 800), (gm_getI 7 701), (gm_cge 6), (gm_iload 5), (gm_aload 0), (gm_getR 8 800), (gm_getR 7 700), gm_alen, (gm_cge 6), (gm_aload 0), (gm_getR 8 804), (gm_aload 0), (gm_getR 8 800), (gm_getR 7 700), (gm_iload 5), (gm_aald 24), (gm_vcall 2 13 2), (gm_push (.inl 0)), (gm_istore 6), (gm_goto 4)],
  [(gm_iload 6), (gm_iload 1), (gm_cge 5), (gm_aload 0), (gm_getR 8 804), (gm_aload 3), (gm_aload 0), (gm_getR 8 800), (gm_getI 7 702), (gm_iload 6), (gm_op2 gm_add), (gm_push (.inl 0)), (gm_vcall 2 17 4), gm_pop1, (gm_iload 4), (gm_aload 0), (gm_getR 8 804), (gm_getI 2 203), (gm_op2 gm_add), (gm_istore 4), (gm_iinc 6 1), (gm_goto 4)],
  [(gm_iinc 5 1), (gm_goto 3)],
  [(gm_iload 4), (gm_iload 1), (gm_aload 0), (gm_getR 8 800), (gm_getI 7 701), (gm_op2 gm_mul), (gm_iload 2), (gm_scall 98 3), gm_i2l, gm_lret]]
def bpX8_mean : Nat → Nat := fun b => ([0, 29, 33, 44, 89, 133, 139] : List Nat).getD b 0
set_option maxRecDepth 100000 in
theorem tX8_mean {D : va_G} {sz : Nat} {ad : Nat → Nat} {cA : Nat → ClassId} {xs : Int → Int} {Ln : Int} {l : Launch} : gm_SB D sz ad cA xs Ln l gm_mt cX8_mean "LongNoon" 7 false 4 bpX8_mean 0 pX8_mean :=
  ⟨gm_cn 1 (gm_m_iload _) (gm_s_iload_n dX8_mean_0 rfl) (
    gm_cn 2 (gm_m_push _) (gm_s_iconst dX8_mean_1) (
    gm_cn 5 (gm_m_clt _) (gm_s_clt (bpc := bpX8_mean) (b := 1) dX8_mean_2 rfl) (
    gm_cn 6 (gm_m_iload _) (gm_s_iload_n dX8_mean_5 rfl) (
    gm_cn 8 (gm_m_push _) (gm_s_bipush dX8_mean_6 rfl) (
    gm_cn 11 (gm_m_cgt _) (gm_s_cgt (bpc := bpX8_mean) (b := 1) dX8_mean_8 rfl) (
    gm_cn 12 (gm_m_iload _) (gm_s_iload_n dX8_mean_11 rfl) (
    gm_cn 13 (gm_m_push _) (gm_s_iconst dX8_mean_12) (
    gm_cn 16 (gm_m_scall _ _) (gcl_X8_within gw_147 dX8_mean_13) (
    gm_cn 19 (gm_m_ifeq _) (gm_s_ifeq (bpc := bpX8_mean) (b := 1) dX8_mean_16 rfl) (
    gm_cn 20 (gm_m_aload _) (gm_s_aload_n dX8_mean_19 rfl) (
    gm_cn 23 (gm_m_getR _ _) (gf_getR_8_0 gw_130 dX8_mean_20) (
    gm_cn 26 (gm_m_getI _ _) (gf_getI_7_1 gw_148 dX8_mean_23) (
    gm_cn 29 (gm_m_ifne _) (gm_s_ifne (bpc := bpX8_mean) (b := 2) dX8_mean_26 rfl) (
    gm_cn 0 (gm_m_goto _) (gm_s_fall (bpc := bpX8_mean) (b := 1) rfl 0) (
    trivial))))))))))))))),
  gm_cn 32 (gm_m_push _) (gm_s_ldc2 gw_190 (by decide +kernel) dX8_mean_29) (
    gm_cn 0 gm_m_lret (gm_s_lret dX8_mean_32 rfl 0) (
    trivial)),
  gm_cn 34 (gm_m_aload _) (gm_s_aload_n dX8_mean_33 rfl) (
    gm_cn 37 (gm_m_vcall _ _ _) (gcl_X8_groundNow gw_152 dX8_mean_34) (
    gm_cn 38 (gm_m_astore _) (gm_s_astore_n dX8_mean_37 rfl (by decide)) (
    gm_cn 39 (gm_m_push _) (gm_s_iconst dX8_mean_38) (
    gm_cn 41 (gm_m_istore _) (gm_s_istore dX8_mean_39 (by decide)) (
    gm_cn 42 (gm_m_push _) (gm_s_iconst dX8_mean_41) (
    gm_cn 44 (gm_m_istore _) (gm_s_istore dX8_mean_42 (by decide)) (
    gm_cn 0 (gm_m_goto _) (gm_s_fall (bpc := bpX8_mean) (b := 3) rfl 0) (
    trivial)))))))),
  gm_cn 46 (gm_m_iload _) (gm_s_iload dX8_mean_44) (
    gm_cn 47 (gm_m_aload _) (gm_s_aload_n dX8_mean_46 rfl) (
    gm_cn 50 (gm_m_getR _ _) (gf_getR_8_0 gw_130 dX8_mean_47) (
    gm_cn 53 (gm_m_getI _ _) (gf_getI_7_1 gw_148 dX8_mean_50) (
    gm_cn 56 (gm_m_cge _) (gm_s_cge (bpc := bpX8_mean) (b := 6) dX8_mean_53 rfl) (
    gm_cn 58 (gm_m_iload _) (gm_s_iload dX8_mean_56) (
    gm_cn 59 (gm_m_aload _) (gm_s_aload_n dX8_mean_58 rfl) (
    gm_cn 62 (gm_m_getR _ _) (gf_getR_8_0 gw_130 dX8_mean_59) (
    gm_cn 65 (gm_m_getR _ _) (gf_getR_7_0 gw_149 dX8_mean_62) (
    gm_cn 66 gm_m_alen (gm_s_alen dX8_mean_65) (
    gm_cn 69 (gm_m_cge _) (gm_s_cge (bpc := bpX8_mean) (b := 6) dX8_mean_66 rfl) (
    gm_cn 70 (gm_m_aload _) (gm_s_aload_n dX8_mean_69 rfl) (
    gm_cn 73 (gm_m_getR _ _) (gf_getR_8_4 gw_134 dX8_mean_70) (
    gm_cn 74 (gm_m_aload _) (gm_s_aload_n dX8_mean_73 rfl) (
    gm_cn 77 (gm_m_getR _ _) (gf_getR_8_0 gw_130 dX8_mean_74) (
    gm_cn 80 (gm_m_getR _ _) (gf_getR_7_0 gw_149 dX8_mean_77) (
    gm_cn 82 (gm_m_iload _) (gm_s_iload dX8_mean_80) (
    gm_cn 83 (gm_m_aald _) (gm_s_aald (t0 := 4) (by decide) (fun _ => rfl) dX8_mean_82) (
    gm_cn 86 (gm_m_vcall _ _ _) (gcl_X2_become gw_176 dX8_mean_83) (
    gm_cn 87 (gm_m_push _) (gm_s_iconst dX8_mean_86) (
    gm_cn 89 (gm_m_istore _) (gm_s_istore dX8_mean_87 (by decide)) (
    gm_cn 0 (gm_m_goto _) (gm_s_fall (bpc := bpX8_mean) (b := 4) rfl 0) (
    trivial)))))))))))))))))))))),
  gm_cn 91 (gm_m_iload _) (gm_s_iload dX8_mean_89) (
    gm_cn 92 (gm_m_iload _) (gm_s_iload_n dX8_mean_91 rfl) (
    gm_cn 95 (gm_m_cge _) (gm_s_cge (bpc := bpX8_mean) (b := 5) dX8_mean_92 rfl) (
    gm_cn 96 (gm_m_aload _) (gm_s_aload_n dX8_mean_95 rfl) (
    gm_cn 99 (gm_m_getR _ _) (gf_getR_8_4 gw_134 dX8_mean_96) (
    gm_cn 100 (gm_m_aload _) (gm_s_aload_n dX8_mean_99 rfl) (
    gm_cn 101 (gm_m_aload _) (gm_s_aload_n dX8_mean_100 rfl) (
    gm_cn 104 (gm_m_getR _ _) (gf_getR_8_0 gw_130 dX8_mean_101) (
    gm_cn 107 (gm_m_getI _ _) (gf_getI_7_2 gw_171 dX8_mean_104) (
    gm_cn 109 (gm_m_iload _) (gm_s_iload dX8_mean_107) (
    gm_cn 110 (gm_m_op2 _) (gm_s_iadd dX8_mean_109) (
    gm_cn 111 (gm_m_push _) (gm_s_iconst dX8_mean_110) (
    gm_cn 114 (gm_m_vcall _ _ _) (gcl_X2_pass gw_175 dX8_mean_111) (
    gm_cn 115 gm_m_pop1 (gm_s_pop dX8_mean_114) (
    gm_cn 117 (gm_m_iload _) (gm_s_iload dX8_mean_115) (
    gm_cn 118 (gm_m_aload _) (gm_s_aload_n dX8_mean_117 rfl) (
    gm_cn 121 (gm_m_getR _ _) (gf_getR_8_4 gw_134 dX8_mean_118) (
    gm_cn 124 (gm_m_getI _ _) (gf_getI_2_3 gw_158 dX8_mean_121) (
    gm_cn 125 (gm_m_op2 _) (gm_s_iadd dX8_mean_124) (
    gm_cn 127 (gm_m_istore _) (gm_s_istore dX8_mean_125 (by decide)) (
    gm_cn 130 (gm_m_iinc _ _) (gm_s_iinc dX8_mean_127 (by decide)) (
    gm_cn 0 (gm_m_goto _) (gm_s_goto (bpc := bpX8_mean) (b := 4) dX8_mean_130 rfl 0) (
    trivial)))))))))))))))))))))),
  gm_cn 136 (gm_m_iinc _ _) (gm_s_iinc dX8_mean_133 (by decide)) (
    gm_cn 0 (gm_m_goto _) (gm_s_goto (bpc := bpX8_mean) (b := 3) dX8_mean_136 rfl 0) (
    trivial)),
  gm_cn 141 (gm_m_iload _) (gm_s_iload dX8_mean_139) (
    gm_cn 142 (gm_m_iload _) (gm_s_iload_n dX8_mean_141 rfl) (
    gm_cn 143 (gm_m_aload _) (gm_s_aload_n dX8_mean_142 rfl) (
    gm_cn 146 (gm_m_getR _ _) (gf_getR_8_0 gw_130 dX8_mean_143) (
    gm_cn 149 (gm_m_getI _ _) (gf_getI_7_1 gw_148 dX8_mean_146) (
    gm_cn 150 (gm_m_op2 _) (gm_s_imul dX8_mean_149) (
    gm_cn 151 (gm_m_iload _) (gm_s_iload_n dX8_mean_150 rfl) (
    gm_cn 154 (gm_m_scall _ _) (gcl_X8_lowest gw_191 dX8_mean_151) (
    gm_cn 155 gm_m_i2l (gm_s_i2l dX8_mean_154) (
    gm_cn 0 gm_m_lret (gm_s_lret dX8_mean_155 rfl 0) (
    trivial)))))))))), trivial⟩
theorem dX8_book_0 : decode cX8_book 0 = .ok (.iload_n 1, 1) := by decide +kernel
theorem dX8_book_1 : decode cX8_book 1 = .ok (.iconst (-1), 1) := by decide +kernel
theorem dX8_book_2 : decode cX8_book 2 = .ok (.if_icmp .ne 13, 3) := by decide +kernel
theorem dX8_book_5 : decode cX8_book 5 = .ok (.aload_n 0, 1) := by decide +kernel
theorem dX8_book_6 : decode cX8_book 6 = .ok (.getfield 12, 3) := by decide +kernel
theorem dX8_book_9 : decode cX8_book 9 = .ok (.iconst 0, 1) := by decide +kernel
theorem dX8_book_10 : decode cX8_book 10 = .ok (.putfield 232, 3) := by decide +kernel
theorem dX8_book_13 : decode cX8_book 13 = .ok (.iconst 0, 1) := by decide +kernel
theorem dX8_book_14 : decode cX8_book 14 = .ok (.ireturn, 1) := by decide +kernel
theorem dX8_book_15 : decode cX8_book 15 = .ok (.aload_n 0, 1) := by decide +kernel
theorem dX8_book_16 : decode cX8_book 16 = .ok (.iload_n 1, 1) := by decide +kernel
theorem dX8_book_17 : decode cX8_book 17 = .ok (.invokevirtual 89, 3) := by decide +kernel
theorem dX8_book_20 : decode cX8_book 20 = .ok (.ifnonnull 5, 3) := by decide +kernel
theorem dX8_book_23 : decode cX8_book 23 = .ok (.iconst (-1), 1) := by decide +kernel
theorem dX8_book_24 : decode cX8_book 24 = .ok (.ireturn, 1) := by decide +kernel
theorem dX8_book_25 : decode cX8_book 25 = .ok (.aload_n 0, 1) := by decide +kernel
theorem dX8_book_26 : decode cX8_book 26 = .ok (.getfield 12, 3) := by decide +kernel
theorem dX8_book_29 : decode cX8_book 29 = .ok (.getfield 232, 3) := by decide +kernel
theorem dX8_book_32 : decode cX8_book 32 = .ok (.bipush 12, 2) := by decide +kernel
theorem dX8_book_34 : decode cX8_book 34 = .ok (.if_icmp .lt 6, 3) := by decide +kernel
theorem dX8_book_37 : decode cX8_book 37 = .ok (.bipush (-4), 2) := by decide +kernel
theorem dX8_book_39 : decode cX8_book 39 = .ok (.ireturn, 1) := by decide +kernel
theorem dX8_book_40 : decode cX8_book 40 = .ok (.aload_n 0, 1) := by decide +kernel
theorem dX8_book_41 : decode cX8_book 41 = .ok (.getfield 12, 3) := by decide +kernel
theorem dX8_book_44 : decode cX8_book 44 = .ok (.getfield 235, 3) := by decide +kernel
theorem dX8_book_47 : decode cX8_book 47 = .ok (.aload_n 0, 1) := by decide +kernel
theorem dX8_book_48 : decode cX8_book 48 = .ok (.getfield 12, 3) := by decide +kernel
theorem dX8_book_51 : decode cX8_book 51 = .ok (.getfield 232, 3) := by decide +kernel
theorem dX8_book_54 : decode cX8_book 54 = .ok (.iload_n 1, 1) := by decide +kernel
theorem dX8_book_55 : decode cX8_book 55 = .ok (.iastore, 1) := by decide +kernel
theorem dX8_book_56 : decode cX8_book 56 = .ok (.aload_n 0, 1) := by decide +kernel
theorem dX8_book_57 : decode cX8_book 57 = .ok (.getfield 12, 3) := by decide +kernel
theorem dX8_book_60 : decode cX8_book 60 = .ok (.dup, 1) := by decide +kernel
theorem dX8_book_61 : decode cX8_book 61 = .ok (.getfield 232, 3) := by decide +kernel
theorem dX8_book_64 : decode cX8_book 64 = .ok (.iconst 1, 1) := by decide +kernel
theorem dX8_book_65 : decode cX8_book 65 = .ok (.iadd, 1) := by decide +kernel
theorem dX8_book_66 : decode cX8_book 66 = .ok (.putfield 232, 3) := by decide +kernel
theorem dX8_book_69 : decode cX8_book 69 = .ok (.aload_n 0, 1) := by decide +kernel
theorem dX8_book_70 : decode cX8_book 70 = .ok (.getfield 12, 3) := by decide +kernel
theorem dX8_book_73 : decode cX8_book 73 = .ok (.getfield 232, 3) := by decide +kernel
theorem dX8_book_76 : decode cX8_book 76 = .ok (.ireturn, 1) := by decide +kernel
def pX8_book : List (List gm_A) := [[(gm_iload 1), (gm_push (.inl (-1))), (gm_cne 1), (gm_aload 0), (gm_getR 8 800), (gm_push (.inl 0)), (gm_putI 7 709), (gm_push (.inl 0)), gm_iret],
  [(gm_aload 0), (gm_iload 1), (gm_vcall 8 92 2), (gm_ifnonnull 2), (gm_push (.inl (-1))), gm_iret],
  [(gm_aload 0), (gm_getR 8 800), (gm_getI 7 709), (gm_push (.inl 12)), (gm_clt 3), (gm_push (.inl (-4))), gm_iret],
  [(gm_aload 0), (gm_getR 8 800), (gm_getR 7 708), (gm_aload 0), (gm_getR 8 800), (gm_getI 7 709), (gm_iload 1), gm_iast, (gm_aload 0), (gm_getR 8 800), gm_dup, (gm_getI 7 709), (gm_push (.inl 1)), (gm_op2 gm_add), (gm_putI 7 709), (gm_aload 0), (gm_getR 8 800), (gm_getI 7 709), gm_iret]]
def bpX8_book : Nat → Nat := fun b => ([0, 15, 25, 40] : List Nat).getD b 0
set_option maxRecDepth 100000 in
theorem tX8_book {D : va_G} {sz : Nat} {ad : Nat → Nat} {cA : Nat → ClassId} {xs : Int → Int} {Ln : Int} {l : Launch} : gm_SB D sz ad cA xs Ln l gm_mt cX8_book "LongNoon" 2 false 1 bpX8_book 0 pX8_book :=
  ⟨gm_cn 1 (gm_m_iload _) (gm_s_iload_n dX8_book_0 rfl) (
    gm_cn 2 (gm_m_push _) (gm_s_iconst dX8_book_1) (
    gm_cn 5 (gm_m_cne _) (gm_s_cne (bpc := bpX8_book) (b := 1) dX8_book_2 rfl) (
    gm_cn 6 (gm_m_aload _) (gm_s_aload_n dX8_book_5 rfl) (
    gm_cn 9 (gm_m_getR _ _) (gf_getR_8_0 gw_130 dX8_book_6) (
    gm_cn 10 (gm_m_push _) (gm_s_iconst dX8_book_9) (
    gm_cn 13 (gm_m_putI _ _) (gf_putI_7_9 gw_192 dX8_book_10) (
    gm_cn 14 (gm_m_push _) (gm_s_iconst dX8_book_13) (
    gm_cn 0 gm_m_iret (gm_s_iret dX8_book_14 rfl 0) (
    trivial))))))))),
  gm_cn 16 (gm_m_aload _) (gm_s_aload_n dX8_book_15 rfl) (
    gm_cn 17 (gm_m_iload _) (gm_s_iload_n dX8_book_16 rfl) (
    gm_cn 20 (gm_m_vcall _ _ _) (gcl_X8_houseAt gw_151 dX8_book_17) (
    gm_cn 23 (gm_m_ifnonnull _) (gm_s_ifnonnull (bpc := bpX8_book) (b := 2) dX8_book_20 rfl) (
    gm_cn 24 (gm_m_push _) (gm_s_iconst dX8_book_23) (
    gm_cn 0 gm_m_iret (gm_s_iret dX8_book_24 rfl 0) (
    trivial)))))),
  gm_cn 26 (gm_m_aload _) (gm_s_aload_n dX8_book_25 rfl) (
    gm_cn 29 (gm_m_getR _ _) (gf_getR_8_0 gw_130 dX8_book_26) (
    gm_cn 32 (gm_m_getI _ _) (gf_getI_7_9 gw_192 dX8_book_29) (
    gm_cn 34 (gm_m_push _) (gm_s_bipush dX8_book_32 rfl) (
    gm_cn 37 (gm_m_clt _) (gm_s_clt (bpc := bpX8_book) (b := 3) dX8_book_34 rfl) (
    gm_cn 39 (gm_m_push _) (gm_s_bipush dX8_book_37 rfl) (
    gm_cn 0 gm_m_iret (gm_s_iret dX8_book_39 rfl 0) (
    trivial))))))),
  gm_cn 41 (gm_m_aload _) (gm_s_aload_n dX8_book_40 rfl) (
    gm_cn 44 (gm_m_getR _ _) (gf_getR_8_0 gw_130 dX8_book_41) (
    gm_cn 47 (gm_m_getR _ _) (gf_getR_7_8 gw_193 dX8_book_44) (
    gm_cn 48 (gm_m_aload _) (gm_s_aload_n dX8_book_47 rfl) (
    gm_cn 51 (gm_m_getR _ _) (gf_getR_8_0 gw_130 dX8_book_48) (
    gm_cn 54 (gm_m_getI _ _) (gf_getI_7_9 gw_192 dX8_book_51) (
    gm_cn 55 (gm_m_iload _) (gm_s_iload_n dX8_book_54 rfl) (
    gm_cn 56 gm_m_iast (gm_s_iast dX8_book_55) (
    gm_cn 57 (gm_m_aload _) (gm_s_aload_n dX8_book_56 rfl) (
    gm_cn 60 (gm_m_getR _ _) (gf_getR_8_0 gw_130 dX8_book_57) (
    gm_cn 61 gm_m_dup (gm_s_dup dX8_book_60) (
    gm_cn 64 (gm_m_getI _ _) (gf_getI_7_9 gw_192 dX8_book_61) (
    gm_cn 65 (gm_m_push _) (gm_s_iconst dX8_book_64) (
    gm_cn 66 (gm_m_op2 _) (gm_s_iadd dX8_book_65) (
    gm_cn 69 (gm_m_putI _ _) (gf_putI_7_9 gw_192 dX8_book_66) (
    gm_cn 70 (gm_m_aload _) (gm_s_aload_n dX8_book_69 rfl) (
    gm_cn 73 (gm_m_getR _ _) (gf_getR_8_0 gw_130 dX8_book_70) (
    gm_cn 76 (gm_m_getI _ _) (gf_getI_7_9 gw_192 dX8_book_73) (
    gm_cn 0 gm_m_iret (gm_s_iret dX8_book_76 rfl 0) (
    trivial))))))))))))))))))), trivial⟩
theorem dX8_looked_0 : decode cX8_looked 0 = .ok (.aload_n 0, 1) := by decide +kernel
theorem dX8_looked_1 : decode cX8_looked 1 = .ok (.invokevirtual 93, 3) := by decide +kernel
theorem dX8_looked_4 : decode cX8_looked 4 = .ok (.astore_n 1, 1) := by decide +kernel
theorem dX8_looked_5 : decode cX8_looked 5 = .ok (.iconst 0, 1) := by decide +kernel
theorem dX8_looked_6 : decode cX8_looked 6 = .ok (.istore_n 2, 1) := by decide +kernel
theorem dX8_looked_7 : decode cX8_looked 7 = .ok (.iload_n 2, 1) := by decide +kernel
theorem dX8_looked_8 : decode cX8_looked 8 = .ok (.aload_n 0, 1) := by decide +kernel
theorem dX8_looked_9 : decode cX8_looked 9 = .ok (.getfield 12, 3) := by decide +kernel
theorem dX8_looked_12 : decode cX8_looked 12 = .ok (.getfield 232, 3) := by decide +kernel
theorem dX8_looked_15 : decode cX8_looked 15 = .ok (.if_icmp .ge 95, 3) := by decide +kernel
theorem dX8_looked_18 : decode cX8_looked 18 = .ok (.iload_n 2, 1) := by decide +kernel
theorem dX8_looked_19 : decode cX8_looked 19 = .ok (.aload_n 0, 1) := by decide +kernel
theorem dX8_looked_20 : decode cX8_looked 20 = .ok (.getfield 12, 3) := by decide +kernel
theorem dX8_looked_23 : decode cX8_looked 23 = .ok (.getfield 235, 3) := by decide +kernel
theorem dX8_looked_26 : decode cX8_looked 26 = .ok (.arraylength, 1) := by decide +kernel
theorem dX8_looked_27 : decode cX8_looked 27 = .ok (.if_icmp .ge 83, 3) := by decide +kernel
theorem dX8_looked_30 : decode cX8_looked 30 = .ok (.aload_n 0, 1) := by decide +kernel
theorem dX8_looked_31 : decode cX8_looked 31 = .ok (.aload_n 0, 1) := by decide +kernel
theorem dX8_looked_32 : decode cX8_looked 32 = .ok (.getfield 12, 3) := by decide +kernel
theorem dX8_looked_35 : decode cX8_looked 35 = .ok (.getfield 235, 3) := by decide +kernel
theorem dX8_looked_38 : decode cX8_looked 38 = .ok (.iload_n 2, 1) := by decide +kernel
theorem dX8_looked_39 : decode cX8_looked 39 = .ok (.iaload, 1) := by decide +kernel
theorem dX8_looked_40 : decode cX8_looked 40 = .ok (.invokevirtual 89, 3) := by decide +kernel
theorem dX8_looked_43 : decode cX8_looked 43 = .ok (.astore_n 3, 1) := by decide +kernel
theorem dX8_looked_44 : decode cX8_looked 44 = .ok (.aload_n 3, 1) := by decide +kernel
theorem dX8_looked_45 : decode cX8_looked 45 = .ok (.ifnonnull 5, 3) := by decide +kernel
theorem dX8_looked_48 : decode cX8_looked 48 = .ok (.iload_n 2, 1) := by decide +kernel
theorem dX8_looked_49 : decode cX8_looked 49 = .ok (.ireturn, 1) := by decide +kernel
theorem dX8_looked_50 : decode cX8_looked 50 = .ok (.aload_n 0, 1) := by decide +kernel
theorem dX8_looked_51 : decode cX8_looked 51 = .ok (.getfield 27, 3) := by decide +kernel
theorem dX8_looked_54 : decode cX8_looked 54 = .ok (.aload_n 3, 1) := by decide +kernel
theorem dX8_looked_55 : decode cX8_looked 55 = .ok (.invokevirtual 174, 3) := by decide +kernel
theorem dX8_looked_58 : decode cX8_looked 58 = .ok (.iconst 0, 1) := by decide +kernel
theorem dX8_looked_59 : decode cX8_looked 59 = .ok (.istore 4, 2) := by decide +kernel
theorem dX8_looked_61 : decode cX8_looked 61 = .ok (.iconst 0, 1) := by decide +kernel
theorem dX8_looked_62 : decode cX8_looked 62 = .ok (.istore 5, 2) := by decide +kernel
theorem dX8_looked_64 : decode cX8_looked 64 = .ok (.iload 5, 2) := by decide +kernel
theorem dX8_looked_66 : decode cX8_looked 66 = .ok (.iload_n 2, 1) := by decide +kernel
theorem dX8_looked_67 : decode cX8_looked 67 = .ok (.if_icmp .gt 30, 3) := by decide +kernel
theorem dX8_looked_70 : decode cX8_looked 70 = .ok (.aload_n 0, 1) := by decide +kernel
theorem dX8_looked_71 : decode cX8_looked 71 = .ok (.getfield 27, 3) := by decide +kernel
theorem dX8_looked_74 : decode cX8_looked 74 = .ok (.aload_n 1, 1) := by decide +kernel
theorem dX8_looked_75 : decode cX8_looked 75 = .ok (.aload_n 0, 1) := by decide +kernel
theorem dX8_looked_76 : decode cX8_looked 76 = .ok (.getfield 12, 3) := by decide +kernel
theorem dX8_looked_79 : decode cX8_looked 79 = .ok (.getfield 157, 3) := by decide +kernel
theorem dX8_looked_82 : decode cX8_looked 82 = .ok (.iload 5, 2) := by decide +kernel
theorem dX8_looked_84 : decode cX8_looked 84 = .ok (.iadd, 1) := by decide +kernel
theorem dX8_looked_85 : decode cX8_looked 85 = .ok (.iconst 0, 1) := by decide +kernel
theorem dX8_looked_86 : decode cX8_looked 86 = .ok (.invokevirtual 170, 3) := by decide +kernel
theorem dX8_looked_89 : decode cX8_looked 89 = .ok (.istore 4, 2) := by decide +kernel
theorem dX8_looked_91 : decode cX8_looked 91 = .ok (.iinc 5 1, 3) := by decide +kernel
theorem dX8_looked_94 : decode cX8_looked 94 = .ok (.goto (-30), 3) := by decide +kernel
theorem dX8_looked_97 : decode cX8_looked 97 = .ok (.iload 4, 2) := by decide +kernel
theorem dX8_looked_99 : decode cX8_looked 99 = .ok (.ifCond .ne 5, 3) := by decide +kernel
theorem dX8_looked_102 : decode cX8_looked 102 = .ok (.iload_n 2, 1) := by decide +kernel
theorem dX8_looked_103 : decode cX8_looked 103 = .ok (.ireturn, 1) := by decide +kernel
theorem dX8_looked_104 : decode cX8_looked 104 = .ok (.iinc 2 1, 3) := by decide +kernel
theorem dX8_looked_107 : decode cX8_looked 107 = .ok (.goto (-100), 3) := by decide +kernel
theorem dX8_looked_110 : decode cX8_looked 110 = .ok (.bipush (-5), 2) := by decide +kernel
theorem dX8_looked_112 : decode cX8_looked 112 = .ok (.ireturn, 1) := by decide +kernel
def pX8_looked : List (List gm_A) := [[(gm_aload 0), (gm_vcall 8 94 1), (gm_astore 1), (gm_push (.inl 0)), (gm_istore 2), (gm_goto 1)],
  [(gm_iload 2), (gm_aload 0), (gm_getR 8 800), (gm_getI 7 709), (gm_cge 6), (gm_iload 2), (gm_aload 0), (gm_getR 8 800), (gm_getR 7 708), gm_alen, (gm_cge 6), (gm_aload 0), (gm_aload 0), (gm_getR 8 800), (gm_getR 7 708), (gm_iload 2), gm_iald, (gm_vcall 8 92 2), (gm_astore 3), (gm_aload 3), (gm_ifnonnull 2), (gm_iload 2), gm_iret],
  [(gm_aload 0), (gm_getR 8 804), (gm_aload 3), (gm_vcall 2 13 2), (gm_push (.inl 0)), (gm_istore 4), (gm_push (.inl 0)), (gm_istore 5), (gm_goto 3)],
  [(gm_iload 5), (gm_iload 2), (gm_cgt 4), (gm_aload 0), (gm_getR 8 804), (gm_aload 1), (gm_aload 0), (gm_getR 8 800), (gm_getI 7 702), (gm_iload 5), (gm_op2 gm_add), (gm_push (.inl 0)), (gm_vcall 2 17 4), (gm_istore 4), (gm_iinc 5 1), (gm_goto 3)],
  [(gm_iload 4), (gm_ifne 5), (gm_iload 2), gm_iret],
  [(gm_iinc 2 1), (gm_goto 1)],
  [(gm_push (.inl (-5))), gm_iret]]
def bpX8_looked : Nat → Nat := fun b => ([0, 7, 50, 64, 97, 104, 110] : List Nat).getD b 0
set_option maxRecDepth 100000 in
theorem tX8_looked {D : va_G} {sz : Nat} {ad : Nat → Nat} {cA : Nat → ClassId} {xs : Int → Int} {Ln : Int} {l : Launch} : gm_SB D sz ad cA xs Ln l gm_mt cX8_looked "LongNoon" 6 false 1 bpX8_looked 0 pX8_looked :=
  ⟨gm_cn 1 (gm_m_aload _) (gm_s_aload_n dX8_looked_0 rfl) (
    gm_cn 4 (gm_m_vcall _ _ _) (gcl_X8_groundNow gw_152 dX8_looked_1) (
    gm_cn 5 (gm_m_astore _) (gm_s_astore_n dX8_looked_4 rfl (by decide)) (
    gm_cn 6 (gm_m_push _) (gm_s_iconst dX8_looked_5) (
    gm_cn 7 (gm_m_istore _) (gm_s_istore_n dX8_looked_6 rfl (by decide)) (
    gm_cn 0 (gm_m_goto _) (gm_s_fall (bpc := bpX8_looked) (b := 1) rfl 0) (
    trivial)))))),
  gm_cn 8 (gm_m_iload _) (gm_s_iload_n dX8_looked_7 rfl) (
    gm_cn 9 (gm_m_aload _) (gm_s_aload_n dX8_looked_8 rfl) (
    gm_cn 12 (gm_m_getR _ _) (gf_getR_8_0 gw_130 dX8_looked_9) (
    gm_cn 15 (gm_m_getI _ _) (gf_getI_7_9 gw_192 dX8_looked_12) (
    gm_cn 18 (gm_m_cge _) (gm_s_cge (bpc := bpX8_looked) (b := 6) dX8_looked_15 rfl) (
    gm_cn 19 (gm_m_iload _) (gm_s_iload_n dX8_looked_18 rfl) (
    gm_cn 20 (gm_m_aload _) (gm_s_aload_n dX8_looked_19 rfl) (
    gm_cn 23 (gm_m_getR _ _) (gf_getR_8_0 gw_130 dX8_looked_20) (
    gm_cn 26 (gm_m_getR _ _) (gf_getR_7_8 gw_193 dX8_looked_23) (
    gm_cn 27 gm_m_alen (gm_s_alen dX8_looked_26) (
    gm_cn 30 (gm_m_cge _) (gm_s_cge (bpc := bpX8_looked) (b := 6) dX8_looked_27 rfl) (
    gm_cn 31 (gm_m_aload _) (gm_s_aload_n dX8_looked_30 rfl) (
    gm_cn 32 (gm_m_aload _) (gm_s_aload_n dX8_looked_31 rfl) (
    gm_cn 35 (gm_m_getR _ _) (gf_getR_8_0 gw_130 dX8_looked_32) (
    gm_cn 38 (gm_m_getR _ _) (gf_getR_7_8 gw_193 dX8_looked_35) (
    gm_cn 39 (gm_m_iload _) (gm_s_iload_n dX8_looked_38 rfl) (
    gm_cn 40 gm_m_iald (gm_s_iald dX8_looked_39) (
    gm_cn 43 (gm_m_vcall _ _ _) (gcl_X8_houseAt gw_151 dX8_looked_40) (
    gm_cn 44 (gm_m_astore _) (gm_s_astore_n dX8_looked_43 rfl (by decide)) (
    gm_cn 45 (gm_m_aload _) (gm_s_aload_n dX8_looked_44 rfl) (
    gm_cn 48 (gm_m_ifnonnull _) (gm_s_ifnonnull (bpc := bpX8_looked) (b := 2) dX8_looked_45 rfl) (
    gm_cn 49 (gm_m_iload _) (gm_s_iload_n dX8_looked_48 rfl) (
    gm_cn 0 gm_m_iret (gm_s_iret dX8_looked_49 rfl 0) (
    trivial))))))))))))))))))))))),
  gm_cn 51 (gm_m_aload _) (gm_s_aload_n dX8_looked_50 rfl) (
    gm_cn 54 (gm_m_getR _ _) (gf_getR_8_4 gw_134 dX8_looked_51) (
    gm_cn 55 (gm_m_aload _) (gm_s_aload_n dX8_looked_54 rfl) (
    gm_cn 58 (gm_m_vcall _ _ _) (gcl_X2_become gw_176 dX8_looked_55) (
    gm_cn 59 (gm_m_push _) (gm_s_iconst dX8_looked_58) (
    gm_cn 61 (gm_m_istore _) (gm_s_istore dX8_looked_59 (by decide)) (
    gm_cn 62 (gm_m_push _) (gm_s_iconst dX8_looked_61) (
    gm_cn 64 (gm_m_istore _) (gm_s_istore dX8_looked_62 (by decide)) (
    gm_cn 0 (gm_m_goto _) (gm_s_fall (bpc := bpX8_looked) (b := 3) rfl 0) (
    trivial))))))))),
  gm_cn 66 (gm_m_iload _) (gm_s_iload dX8_looked_64) (
    gm_cn 67 (gm_m_iload _) (gm_s_iload_n dX8_looked_66 rfl) (
    gm_cn 70 (gm_m_cgt _) (gm_s_cgt (bpc := bpX8_looked) (b := 4) dX8_looked_67 rfl) (
    gm_cn 71 (gm_m_aload _) (gm_s_aload_n dX8_looked_70 rfl) (
    gm_cn 74 (gm_m_getR _ _) (gf_getR_8_4 gw_134 dX8_looked_71) (
    gm_cn 75 (gm_m_aload _) (gm_s_aload_n dX8_looked_74 rfl) (
    gm_cn 76 (gm_m_aload _) (gm_s_aload_n dX8_looked_75 rfl) (
    gm_cn 79 (gm_m_getR _ _) (gf_getR_8_0 gw_130 dX8_looked_76) (
    gm_cn 82 (gm_m_getI _ _) (gf_getI_7_2 gw_171 dX8_looked_79) (
    gm_cn 84 (gm_m_iload _) (gm_s_iload dX8_looked_82) (
    gm_cn 85 (gm_m_op2 _) (gm_s_iadd dX8_looked_84) (
    gm_cn 86 (gm_m_push _) (gm_s_iconst dX8_looked_85) (
    gm_cn 89 (gm_m_vcall _ _ _) (gcl_X2_pass gw_175 dX8_looked_86) (
    gm_cn 91 (gm_m_istore _) (gm_s_istore dX8_looked_89 (by decide)) (
    gm_cn 94 (gm_m_iinc _ _) (gm_s_iinc dX8_looked_91 (by decide)) (
    gm_cn 0 (gm_m_goto _) (gm_s_goto (bpc := bpX8_looked) (b := 3) dX8_looked_94 rfl 0) (
    trivial)))))))))))))))),
  gm_cn 99 (gm_m_iload _) (gm_s_iload dX8_looked_97) (
    gm_cn 102 (gm_m_ifne _) (gm_s_ifne (bpc := bpX8_looked) (b := 5) dX8_looked_99 rfl) (
    gm_cn 103 (gm_m_iload _) (gm_s_iload_n dX8_looked_102 rfl) (
    gm_cn 0 gm_m_iret (gm_s_iret dX8_looked_103 rfl 0) (
    trivial)))),
  gm_cn 107 (gm_m_iinc _ _) (gm_s_iinc dX8_looked_104 (by decide)) (
    gm_cn 0 (gm_m_goto _) (gm_s_goto (bpc := bpX8_looked) (b := 1) dX8_looked_107 rfl 0) (
    trivial)),
  gm_cn 112 (gm_m_push _) (gm_s_bipush dX8_looked_110 rfl) (
    gm_cn 0 gm_m_iret (gm_s_iret dX8_looked_112 rfl 0) (
    trivial)), trivial⟩
theorem dX8_judge_0 : decode cX8_judge 0 = .ok (.aload_n 0, 1) := by decide +kernel
theorem dX8_judge_1 : decode cX8_judge 1 = .ok (.iload_n 1, 1) := by decide +kernel
theorem dX8_judge_2 : decode cX8_judge 2 = .ok (.invokevirtual 238, 3) := by decide +kernel
theorem dX8_judge_5 : decode cX8_judge 5 = .ok (.astore_n 3, 1) := by decide +kernel
theorem dX8_judge_6 : decode cX8_judge 6 = .ok (.aload_n 3, 1) := by decide +kernel
theorem dX8_judge_7 : decode cX8_judge 7 = .ok (.ifnonnull 5, 3) := by decide +kernel
theorem dX8_judge_10 : decode cX8_judge 10 = .ok (.iconst (-1), 1) := by decide +kernel
theorem dX8_judge_11 : decode cX8_judge 11 = .ok (.ireturn, 1) := by decide +kernel
theorem dX8_judge_12 : decode cX8_judge 12 = .ok (.aload_n 3, 1) := by decide +kernel
theorem dX8_judge_13 : decode cX8_judge 13 = .ok (.invokevirtual 242, 3) := by decide +kernel
theorem dX8_judge_16 : decode cX8_judge 16 = .ok (.ifCond .ne 14, 3) := by decide +kernel
theorem dX8_judge_19 : decode cX8_judge 19 = .ok (.aload_n 3, 1) := by decide +kernel
theorem dX8_judge_20 : decode cX8_judge 20 = .ok (.getfield 246, 3) := by decide +kernel
theorem dX8_judge_23 : decode cX8_judge 23 = .ok (.iconst 1, 1) := by decide +kernel
theorem dX8_judge_24 : decode cX8_judge 24 = .ok (.if_icmp .eq 6, 3) := by decide +kernel
theorem dX8_judge_27 : decode cX8_judge 27 = .ok (.bipush (-12), 2) := by decide +kernel
theorem dX8_judge_29 : decode cX8_judge 29 = .ok (.ireturn, 1) := by decide +kernel
theorem dX8_judge_30 : decode cX8_judge 30 = .ok (.iconst 0, 1) := by decide +kernel
theorem dX8_judge_31 : decode cX8_judge 31 = .ok (.istore 4, 2) := by decide +kernel
theorem dX8_judge_33 : decode cX8_judge 33 = .ok (.iload 4, 2) := by decide +kernel
theorem dX8_judge_35 : decode cX8_judge 35 = .ok (.aload_n 0, 1) := by decide +kernel
theorem dX8_judge_36 : decode cX8_judge 36 = .ok (.getfield 12, 3) := by decide +kernel
theorem dX8_judge_39 : decode cX8_judge 39 = .ok (.getfield 77, 3) := by decide +kernel
theorem dX8_judge_42 : decode cX8_judge 42 = .ok (.if_icmp .ge 73, 3) := by decide +kernel
theorem dX8_judge_45 : decode cX8_judge 45 = .ok (.iload 4, 2) := by decide +kernel
theorem dX8_judge_47 : decode cX8_judge 47 = .ok (.aload_n 0, 1) := by decide +kernel
theorem dX8_judge_48 : decode cX8_judge 48 = .ok (.getfield 12, 3) := by decide +kernel
theorem dX8_judge_51 : decode cX8_judge 51 = .ok (.getfield 81, 3) := by decide +kernel
theorem dX8_judge_54 : decode cX8_judge 54 = .ok (.arraylength, 1) := by decide +kernel
theorem dX8_judge_55 : decode cX8_judge 55 = .ok (.if_icmp .ge 60, 3) := by decide +kernel
theorem dX8_judge_58 : decode cX8_judge 58 = .ok (.iload_n 2, 1) := by decide +kernel
theorem dX8_judge_59 : decode cX8_judge 59 = .ok (.ifCond .lt 14, 3) := by decide +kernel
theorem dX8_judge_62 : decode cX8_judge 62 = .ok (.iload_n 2, 1) := by decide +kernel
theorem dX8_judge_63 : decode cX8_judge 63 = .ok (.aload_n 3, 1) := by decide +kernel
theorem dX8_judge_64 : decode cX8_judge 64 = .ok (.getfield 249, 3) := by decide +kernel
theorem dX8_judge_67 : decode cX8_judge 67 = .ok (.iload 4, 2) := by decide +kernel
theorem dX8_judge_69 : decode cX8_judge 69 = .ok (.isub, 1) := by decide +kernel
theorem dX8_judge_70 : decode cX8_judge 70 = .ok (.if_icmp .lt 9, 3) := by decide +kernel
theorem dX8_judge_73 : decode cX8_judge 73 = .ok (.bipush 100, 2) := by decide +kernel
theorem dX8_judge_75 : decode cX8_judge 75 = .ok (.iload 4, 2) := by decide +kernel
theorem dX8_judge_77 : decode cX8_judge 77 = .ok (.iadd, 1) := by decide +kernel
theorem dX8_judge_78 : decode cX8_judge 78 = .ok (.ireturn, 1) := by decide +kernel
theorem dX8_judge_79 : decode cX8_judge 79 = .ok (.aload_n 3, 1) := by decide +kernel
theorem dX8_judge_80 : decode cX8_judge 80 = .ok (.getfield 250, 3) := by decide +kernel
theorem dX8_judge_83 : decode cX8_judge 83 = .ok (.iload_n 2, 1) := by decide +kernel
theorem dX8_judge_84 : decode cX8_judge 84 = .ok (.iload 4, 2) := by decide +kernel
theorem dX8_judge_86 : decode cX8_judge 86 = .ok (.iadd, 1) := by decide +kernel
theorem dX8_judge_87 : decode cX8_judge 87 = .ok (.laload, 1) := by decide +kernel
theorem dX8_judge_88 : decode cX8_judge 88 = .ok (.aload_n 0, 1) := by decide +kernel
theorem dX8_judge_89 : decode cX8_judge 89 = .ok (.getfield 12, 3) := by decide +kernel
theorem dX8_judge_92 : decode cX8_judge 92 = .ok (.getfield 81, 3) := by decide +kernel
theorem dX8_judge_95 : decode cX8_judge 95 = .ok (.iload 4, 2) := by decide +kernel
theorem dX8_judge_97 : decode cX8_judge 97 = .ok (.aaload, 1) := by decide +kernel
theorem dX8_judge_98 : decode cX8_judge 98 = .ok (.getfield 113, 3) := by decide +kernel
theorem dX8_judge_101 : decode cX8_judge 101 = .ok (.i2l, 1) := by decide +kernel
theorem dX8_judge_102 : decode cX8_judge 102 = .ok (.lcmp, 1) := by decide +kernel
theorem dX8_judge_103 : decode cX8_judge 103 = .ok (.ifCond .eq 6, 3) := by decide +kernel
theorem dX8_judge_106 : decode cX8_judge 106 = .ok (.iload 4, 2) := by decide +kernel
theorem dX8_judge_108 : decode cX8_judge 108 = .ok (.ireturn, 1) := by decide +kernel
theorem dX8_judge_109 : decode cX8_judge 109 = .ok (.iinc 4 1, 3) := by decide +kernel
theorem dX8_judge_112 : decode cX8_judge 112 = .ok (.goto (-79), 3) := by decide +kernel
theorem dX8_judge_115 : decode cX8_judge 115 = .ok (.bipush (-5), 2) := by decide +kernel
theorem dX8_judge_117 : decode cX8_judge 117 = .ok (.ireturn, 1) := by decide +kernel
def pX8_judge : List (List gm_A) := [[(gm_aload 0), (gm_iload 1), (gm_vcall 8 93 2), (gm_astore 3), (gm_aload 3), (gm_ifnonnull 1), (gm_push (.inl (-1))), gm_iret],
  [(gm_aload 3), (gm_vcall 6 43 1), (gm_ifne 2), (gm_aload 3), (gm_getI 6 600), (gm_push (.inl 1)), (gm_ceq 2), (gm_push (.inl (-12))), gm_iret],
  [(gm_push (.inl 0)), (gm_istore 4), (gm_goto 3)],
  [(gm_iload 4), (gm_aload 0), (gm_getR 8 800), (gm_getI 7 701), (gm_cge 7), (gm_iload 4), (gm_aload 0), (gm_getR 8 800), (gm_getR 7 700), gm_alen, (gm_cge 7), (gm_iload 2), (gm_iflt 4), (gm_iload 2), (gm_aload 3), (gm_getI 6 601), (gm_iload 4), (gm_op2 gm_sub), (gm_clt 5), (gm_goto 4)],
  [(gm_push (.inl 100)), (gm_iload 4), (gm_op2 gm_add), gm_iret],
  [(gm_aload 3), (gm_getR 6 602), (gm_iload 2), (gm_iload 4), (gm_op2 gm_add), gm_lald, (gm_aload 0), (gm_getR 8 800), (gm_getR 7 700), (gm_iload 4), (gm_aald 24), (gm_getI 2 203), gm_i2l, gm_lcmp, (gm_ifeq 6), (gm_iload 4), gm_iret],
  [(gm_iinc 4 1), (gm_goto 3)],
  [(gm_push (.inl (-5))), gm_iret]]
def bpX8_judge : Nat → Nat := fun b => ([0, 12, 30, 33, 73, 79, 109, 115] : List Nat).getD b 0
set_option maxRecDepth 100000 in
theorem tX8_judge {D : va_G} {sz : Nat} {ad : Nat → Nat} {cA : Nat → ClassId} {xs : Int → Int} {Ln : Int} {l : Launch} : gm_SB D sz ad cA xs Ln l gm_mt cX8_judge "LongNoon" 5 false 1 bpX8_judge 0 pX8_judge :=
  ⟨gm_cn 1 (gm_m_aload _) (gm_s_aload_n dX8_judge_0 rfl) (
    gm_cn 2 (gm_m_iload _) (gm_s_iload_n dX8_judge_1 rfl) (
    gm_cn 5 (gm_m_vcall _ _ _) (gcl_X8_tapeAt gw_194 dX8_judge_2) (
    gm_cn 6 (gm_m_astore _) (gm_s_astore_n dX8_judge_5 rfl (by decide)) (
    gm_cn 7 (gm_m_aload _) (gm_s_aload_n dX8_judge_6 rfl) (
    gm_cn 10 (gm_m_ifnonnull _) (gm_s_ifnonnull (bpc := bpX8_judge) (b := 1) dX8_judge_7 rfl) (
    gm_cn 11 (gm_m_push _) (gm_s_iconst dX8_judge_10) (
    gm_cn 0 gm_m_iret (gm_s_iret dX8_judge_11 rfl 0) (
    trivial)))))))),
  gm_cn 13 (gm_m_aload _) (gm_s_aload_n dX8_judge_12 rfl) (
    gm_cn 16 (gm_m_vcall _ _ _) (gcl_X6_isEmpty gw_195 dX8_judge_13) (
    gm_cn 19 (gm_m_ifne _) (gm_s_ifne (bpc := bpX8_judge) (b := 2) dX8_judge_16 rfl) (
    gm_cn 20 (gm_m_aload _) (gm_s_aload_n dX8_judge_19 rfl) (
    gm_cn 23 (gm_m_getI _ _) (gf_getI_6_0 gw_196 dX8_judge_20) (
    gm_cn 24 (gm_m_push _) (gm_s_iconst dX8_judge_23) (
    gm_cn 27 (gm_m_ceq _) (gm_s_ceq (bpc := bpX8_judge) (b := 2) dX8_judge_24 rfl) (
    gm_cn 29 (gm_m_push _) (gm_s_bipush dX8_judge_27 rfl) (
    gm_cn 0 gm_m_iret (gm_s_iret dX8_judge_29 rfl 0) (
    trivial))))))))),
  gm_cn 31 (gm_m_push _) (gm_s_iconst dX8_judge_30) (
    gm_cn 33 (gm_m_istore _) (gm_s_istore dX8_judge_31 (by decide)) (
    gm_cn 0 (gm_m_goto _) (gm_s_fall (bpc := bpX8_judge) (b := 3) rfl 0) (
    trivial))),
  gm_cn 35 (gm_m_iload _) (gm_s_iload dX8_judge_33) (
    gm_cn 36 (gm_m_aload _) (gm_s_aload_n dX8_judge_35 rfl) (
    gm_cn 39 (gm_m_getR _ _) (gf_getR_8_0 gw_130 dX8_judge_36) (
    gm_cn 42 (gm_m_getI _ _) (gf_getI_7_1 gw_148 dX8_judge_39) (
    gm_cn 45 (gm_m_cge _) (gm_s_cge (bpc := bpX8_judge) (b := 7) dX8_judge_42 rfl) (
    gm_cn 47 (gm_m_iload _) (gm_s_iload dX8_judge_45) (
    gm_cn 48 (gm_m_aload _) (gm_s_aload_n dX8_judge_47 rfl) (
    gm_cn 51 (gm_m_getR _ _) (gf_getR_8_0 gw_130 dX8_judge_48) (
    gm_cn 54 (gm_m_getR _ _) (gf_getR_7_0 gw_149 dX8_judge_51) (
    gm_cn 55 gm_m_alen (gm_s_alen dX8_judge_54) (
    gm_cn 58 (gm_m_cge _) (gm_s_cge (bpc := bpX8_judge) (b := 7) dX8_judge_55 rfl) (
    gm_cn 59 (gm_m_iload _) (gm_s_iload_n dX8_judge_58 rfl) (
    gm_cn 62 (gm_m_iflt _) (gm_s_iflt (bpc := bpX8_judge) (b := 4) dX8_judge_59 rfl) (
    gm_cn 63 (gm_m_iload _) (gm_s_iload_n dX8_judge_62 rfl) (
    gm_cn 64 (gm_m_aload _) (gm_s_aload_n dX8_judge_63 rfl) (
    gm_cn 67 (gm_m_getI _ _) (gf_getI_6_1 gw_197 dX8_judge_64) (
    gm_cn 69 (gm_m_iload _) (gm_s_iload dX8_judge_67) (
    gm_cn 70 (gm_m_op2 _) (gm_s_isub dX8_judge_69) (
    gm_cn 73 (gm_m_clt _) (gm_s_clt (bpc := bpX8_judge) (b := 5) dX8_judge_70 rfl) (
    gm_cn 0 (gm_m_goto _) (gm_s_fall (bpc := bpX8_judge) (b := 4) rfl 0) (
    trivial)))))))))))))))))))),
  gm_cn 75 (gm_m_push _) (gm_s_bipush dX8_judge_73 rfl) (
    gm_cn 77 (gm_m_iload _) (gm_s_iload dX8_judge_75) (
    gm_cn 78 (gm_m_op2 _) (gm_s_iadd dX8_judge_77) (
    gm_cn 0 gm_m_iret (gm_s_iret dX8_judge_78 rfl 0) (
    trivial)))),
  gm_cn 80 (gm_m_aload _) (gm_s_aload_n dX8_judge_79 rfl) (
    gm_cn 83 (gm_m_getR _ _) (gf_getR_6_2 gw_198 dX8_judge_80) (
    gm_cn 84 (gm_m_iload _) (gm_s_iload_n dX8_judge_83 rfl) (
    gm_cn 86 (gm_m_iload _) (gm_s_iload dX8_judge_84) (
    gm_cn 87 (gm_m_op2 _) (gm_s_iadd dX8_judge_86) (
    gm_cn 88 gm_m_lald (gm_s_lald dX8_judge_87) (
    gm_cn 89 (gm_m_aload _) (gm_s_aload_n dX8_judge_88 rfl) (
    gm_cn 92 (gm_m_getR _ _) (gf_getR_8_0 gw_130 dX8_judge_89) (
    gm_cn 95 (gm_m_getR _ _) (gf_getR_7_0 gw_149 dX8_judge_92) (
    gm_cn 97 (gm_m_iload _) (gm_s_iload dX8_judge_95) (
    gm_cn 98 (gm_m_aald _) (gm_s_aald (t0 := 4) (by decide) (fun _ => rfl) dX8_judge_97) (
    gm_cn 101 (gm_m_getI _ _) (gf_getI_2_3 gw_158 dX8_judge_98) (
    gm_cn 102 gm_m_i2l (gm_s_i2l dX8_judge_101) (
    gm_cn 103 gm_m_lcmp (gm_s_lcmp dX8_judge_102) (
    gm_cn 106 (gm_m_ifeq _) (gm_s_ifeq (bpc := bpX8_judge) (b := 6) dX8_judge_103 rfl) (
    gm_cn 108 (gm_m_iload _) (gm_s_iload dX8_judge_106) (
    gm_cn 0 gm_m_iret (gm_s_iret dX8_judge_108 rfl 0) (
    trivial))))))))))))))))),
  gm_cn 112 (gm_m_iinc _ _) (gm_s_iinc dX8_judge_109 (by decide)) (
    gm_cn 0 (gm_m_goto _) (gm_s_goto (bpc := bpX8_judge) (b := 3) dX8_judge_112 rfl 0) (
    trivial)),
  gm_cn 117 (gm_m_push _) (gm_s_bipush dX8_judge_115 rfl) (
    gm_cn 0 gm_m_iret (gm_s_iret dX8_judge_117 rfl 0) (
    trivial)), trivial⟩
theorem dX8_image_0 : decode cX8_image 0 = .ok (.aload_n 0, 1) := by decide +kernel
theorem dX8_image_1 : decode cX8_image 1 = .ok (.getfield 18, 3) := by decide +kernel
theorem dX8_image_4 : decode cX8_image 4 = .ok (.aload_n 0, 1) := by decide +kernel
theorem dX8_image_5 : decode cX8_image 5 = .ok (.getfield 12, 3) := by decide +kernel
theorem dX8_image_8 : decode cX8_image 8 = .ok (.invokevirtual 189, 3) := by decide +kernel
theorem dX8_image_11 : decode cX8_image 11 = .ok (.aload_n 0, 1) := by decide +kernel
theorem dX8_image_12 : decode cX8_image 12 = .ok (.iconst 1, 1) := by decide +kernel
theorem dX8_image_13 : decode cX8_image 13 = .ok (.putfield 254, 3) := by decide +kernel
theorem dX8_image_16 : decode cX8_image 16 = .ok (.aload_n 0, 1) := by decide +kernel
theorem dX8_image_17 : decode cX8_image 17 = .ok (.getfield 12, 3) := by decide +kernel
theorem dX8_image_20 : decode cX8_image 20 = .ok (.getfield 77, 3) := by decide +kernel
theorem dX8_image_23 : decode cX8_image 23 = .ok (.ireturn, 1) := by decide +kernel
def pX8_image : List (List gm_A) := [[(gm_aload 0), (gm_getR 8 801), (gm_aload 0), (gm_getR 8 800), (gm_vcall 7 47 2), (gm_aload 0), (gm_push (.inl 1)), (gm_putZ 8 802), (gm_aload 0), (gm_getR 8 800), (gm_getI 7 701), gm_iret]]
def bpX8_image : Nat → Nat := fun b => ([0] : List Nat).getD b 0
set_option maxRecDepth 100000 in
theorem tX8_image {D : va_G} {sz : Nat} {ad : Nat → Nat} {cA : Nat → ClassId} {xs : Int → Int} {Ln : Int} {l : Launch} : gm_SB D sz ad cA xs Ln l gm_mt cX8_image "LongNoon" 1 false 1 bpX8_image 0 pX8_image :=
  ⟨gm_cn 1 (gm_m_aload _) (gm_s_aload_n dX8_image_0 rfl) (
    gm_cn 4 (gm_m_getR _ _) (gf_getR_8_1 gw_131 dX8_image_1) (
    gm_cn 5 (gm_m_aload _) (gm_s_aload_n dX8_image_4 rfl) (
    gm_cn 8 (gm_m_getR _ _) (gf_getR_8_0 gw_130 dX8_image_5) (
    gm_cn 11 (gm_m_vcall _ _ _) (gcl_X7_become gw_180 dX8_image_8) (
    gm_cn 12 (gm_m_aload _) (gm_s_aload_n dX8_image_11 rfl) (
    gm_cn 13 (gm_m_push _) (gm_s_iconst dX8_image_12) (
    gm_cn 16 (gm_m_putZ _ _) (gf_putZ_8_2 gw_199 dX8_image_13) (
    gm_cn 17 (gm_m_aload _) (gm_s_aload_n dX8_image_16 rfl) (
    gm_cn 20 (gm_m_getR _ _) (gf_getR_8_0 gw_130 dX8_image_17) (
    gm_cn 23 (gm_m_getI _ _) (gf_getI_7_1 gw_148 dX8_image_20) (
    gm_cn 0 gm_m_iret (gm_s_iret dX8_image_23 rfl 0) (
    trivial)))))))))))), trivial⟩
theorem dX8_undo_0 : decode cX8_undo 0 = .ok (.aload_n 0, 1) := by decide +kernel
theorem dX8_undo_1 : decode cX8_undo 1 = .ok (.getfield 254, 3) := by decide +kernel
theorem dX8_undo_4 : decode cX8_undo 4 = .ok (.ifCond .ne 6, 3) := by decide +kernel
theorem dX8_undo_7 : decode cX8_undo 7 = .ok (.bipush (-3), 2) := by decide +kernel
theorem dX8_undo_9 : decode cX8_undo 9 = .ok (.ireturn, 1) := by decide +kernel
theorem dX8_undo_10 : decode cX8_undo 10 = .ok (.aload_n 0, 1) := by decide +kernel
theorem dX8_undo_11 : decode cX8_undo 11 = .ok (.getfield 12, 3) := by decide +kernel
theorem dX8_undo_14 : decode cX8_undo 14 = .ok (.aload_n 0, 1) := by decide +kernel
theorem dX8_undo_15 : decode cX8_undo 15 = .ok (.getfield 18, 3) := by decide +kernel
theorem dX8_undo_18 : decode cX8_undo 18 = .ok (.invokevirtual 189, 3) := by decide +kernel
theorem dX8_undo_21 : decode cX8_undo 21 = .ok (.aload_n 0, 1) := by decide +kernel
theorem dX8_undo_22 : decode cX8_undo 22 = .ok (.getfield 12, 3) := by decide +kernel
theorem dX8_undo_25 : decode cX8_undo 25 = .ok (.getfield 77, 3) := by decide +kernel
theorem dX8_undo_28 : decode cX8_undo 28 = .ok (.ireturn, 1) := by decide +kernel
def pX8_undo : List (List gm_A) := [[(gm_aload 0), (gm_getI 8 802), (gm_ifne 1), (gm_push (.inl (-3))), gm_iret],
  [(gm_aload 0), (gm_getR 8 800), (gm_aload 0), (gm_getR 8 801), (gm_vcall 7 47 2), (gm_aload 0), (gm_getR 8 800), (gm_getI 7 701), gm_iret]]
def bpX8_undo : Nat → Nat := fun b => ([0, 10] : List Nat).getD b 0
set_option maxRecDepth 100000 in
theorem tX8_undo {D : va_G} {sz : Nat} {ad : Nat → Nat} {cA : Nat → ClassId} {xs : Int → Int} {Ln : Int} {l : Launch} : gm_SB D sz ad cA xs Ln l gm_mt cX8_undo "LongNoon" 1 false 1 bpX8_undo 0 pX8_undo :=
  ⟨gm_cn 1 (gm_m_aload _) (gm_s_aload_n dX8_undo_0 rfl) (
    gm_cn 4 (gm_m_getI _ _) (gf_getI_8_2 gw_199 dX8_undo_1) (
    gm_cn 7 (gm_m_ifne _) (gm_s_ifne (bpc := bpX8_undo) (b := 1) dX8_undo_4 rfl) (
    gm_cn 9 (gm_m_push _) (gm_s_bipush dX8_undo_7 rfl) (
    gm_cn 0 gm_m_iret (gm_s_iret dX8_undo_9 rfl 0) (
    trivial))))),
  gm_cn 11 (gm_m_aload _) (gm_s_aload_n dX8_undo_10 rfl) (
    gm_cn 14 (gm_m_getR _ _) (gf_getR_8_0 gw_130 dX8_undo_11) (
    gm_cn 15 (gm_m_aload _) (gm_s_aload_n dX8_undo_14 rfl) (
    gm_cn 18 (gm_m_getR _ _) (gf_getR_8_1 gw_131 dX8_undo_15) (
    gm_cn 21 (gm_m_vcall _ _ _) (gcl_X7_become gw_180 dX8_undo_18) (
    gm_cn 22 (gm_m_aload _) (gm_s_aload_n dX8_undo_21 rfl) (
    gm_cn 25 (gm_m_getR _ _) (gf_getR_8_0 gw_130 dX8_undo_22) (
    gm_cn 28 (gm_m_getI _ _) (gf_getI_7_1 gw_148 dX8_undo_25) (
    gm_cn 0 gm_m_iret (gm_s_iret dX8_undo_28 rfl 0) (
    trivial))))))))), trivial⟩
theorem dX8_act_0 : decode cX8_act 0 = .ok (.aload_n 0, 1) := by decide +kernel
theorem dX8_act_1 : decode cX8_act 1 = .ok (.getfield 62, 3) := by decide +kernel
theorem dX8_act_4 : decode cX8_act 4 = .ok (.invokevirtual 258, 3) := by decide +kernel
theorem dX8_act_7 : decode cX8_act 7 = .ok (.aload_n 0, 1) := by decide +kernel
theorem dX8_act_8 : decode cX8_act 8 = .ok (.iload_n 1, 1) := by decide +kernel
theorem dX8_act_9 : decode cX8_act 9 = .ok (.invokevirtual 89, 3) := by decide +kernel
theorem dX8_act_12 : decode cX8_act 12 = .ok (.astore 4, 2) := by decide +kernel
theorem dX8_act_14 : decode cX8_act 14 = .ok (.aload 4, 2) := by decide +kernel
theorem dX8_act_16 : decode cX8_act 16 = .ok (.ifnull 11, 3) := by decide +kernel
theorem dX8_act_19 : decode cX8_act 19 = .ok (.iload_n 2, 1) := by decide +kernel
theorem dX8_act_20 : decode cX8_act 20 = .ok (.iconst 2, 1) := by decide +kernel
theorem dX8_act_21 : decode cX8_act 21 = .ok (.invokestatic 73, 3) := by decide +kernel
theorem dX8_act_24 : decode cX8_act 24 = .ok (.ifCond .ne 5, 3) := by decide +kernel
theorem dX8_act_27 : decode cX8_act 27 = .ok (.iconst 0, 1) := by decide +kernel
theorem dX8_act_28 : decode cX8_act 28 = .ok (.ireturn, 1) := by decide +kernel
theorem dX8_act_29 : decode cX8_act 29 = .ok (.aload_n 0, 1) := by decide +kernel
theorem dX8_act_30 : decode cX8_act 30 = .ok (.getfield 62, 3) := by decide +kernel
theorem dX8_act_33 : decode cX8_act 33 = .ok (.aload 4, 2) := by decide +kernel
theorem dX8_act_35 : decode cX8_act 35 = .ok (.iload_n 2, 1) := by decide +kernel
theorem dX8_act_36 : decode cX8_act 36 = .ok (.iload_n 3, 1) := by decide +kernel
theorem dX8_act_37 : decode cX8_act 37 = .ok (.invokevirtual 261, 3) := by decide +kernel
theorem dX8_act_40 : decode cX8_act 40 = .ok (.ireturn, 1) := by decide +kernel
def pX8_act : List (List gm_A) := [[(gm_aload 0), (gm_getR 8 811), (gm_vcall 3 21 1), (gm_aload 0), (gm_iload 1), (gm_vcall 8 92 2), (gm_astore 4), (gm_aload 4), (gm_ifnull 1), (gm_iload 2), (gm_push (.inl 2)), (gm_scall 90 2), (gm_ifne 2), (gm_goto 1)],
  [(gm_push (.inl 0)), gm_iret],
  [(gm_aload 0), (gm_getR 8 811), (gm_aload 4), (gm_iload 2), (gm_iload 3), (gm_vcall 3 22 4), gm_iret]]
def bpX8_act : Nat → Nat := fun b => ([0, 27, 29] : List Nat).getD b 0
set_option maxRecDepth 100000 in
theorem tX8_act {D : va_G} {sz : Nat} {ad : Nat → Nat} {cA : Nat → ClassId} {xs : Int → Int} {Ln : Int} {l : Launch} : gm_SB D sz ad cA xs Ln l gm_mt cX8_act "LongNoon" 5 false 1 bpX8_act 0 pX8_act :=
  ⟨gm_cn 1 (gm_m_aload _) (gm_s_aload_n dX8_act_0 rfl) (
    gm_cn 4 (gm_m_getR _ _) (gf_getR_8_11 gw_144 dX8_act_1) (
    gm_cn 7 (gm_m_vcall _ _ _) (gcl_X3_forget gw_200 dX8_act_4) (
    gm_cn 8 (gm_m_aload _) (gm_s_aload_n dX8_act_7 rfl) (
    gm_cn 9 (gm_m_iload _) (gm_s_iload_n dX8_act_8 rfl) (
    gm_cn 12 (gm_m_vcall _ _ _) (gcl_X8_houseAt gw_151 dX8_act_9) (
    gm_cn 14 (gm_m_astore _) (gm_s_astore dX8_act_12 (by decide)) (
    gm_cn 16 (gm_m_aload _) (gm_s_aload dX8_act_14) (
    gm_cn 19 (gm_m_ifnull _) (gm_s_ifnull (bpc := bpX8_act) (b := 1) dX8_act_16 rfl) (
    gm_cn 20 (gm_m_iload _) (gm_s_iload_n dX8_act_19 rfl) (
    gm_cn 21 (gm_m_push _) (gm_s_iconst dX8_act_20) (
    gm_cn 24 (gm_m_scall _ _) (gcl_X8_within gw_147 dX8_act_21) (
    gm_cn 27 (gm_m_ifne _) (gm_s_ifne (bpc := bpX8_act) (b := 2) dX8_act_24 rfl) (
    gm_cn 0 (gm_m_goto _) (gm_s_fall (bpc := bpX8_act) (b := 1) rfl 0) (
    trivial)))))))))))))),
  gm_cn 28 (gm_m_push _) (gm_s_iconst dX8_act_27) (
    gm_cn 0 gm_m_iret (gm_s_iret dX8_act_28 rfl 0) (
    trivial)),
  gm_cn 30 (gm_m_aload _) (gm_s_aload_n dX8_act_29 rfl) (
    gm_cn 33 (gm_m_getR _ _) (gf_getR_8_11 gw_144 dX8_act_30) (
    gm_cn 35 (gm_m_aload _) (gm_s_aload dX8_act_33) (
    gm_cn 36 (gm_m_iload _) (gm_s_iload_n dX8_act_35 rfl) (
    gm_cn 37 (gm_m_iload _) (gm_s_iload_n dX8_act_36 rfl) (
    gm_cn 40 (gm_m_vcall _ _ _) (gcl_X3_play gw_201 dX8_act_37) (
    gm_cn 0 gm_m_iret (gm_s_iret dX8_act_40 rfl 0) (
    trivial))))))), trivial⟩
theorem dX8_trace_0 : decode cX8_trace 0 = .ok (.iload_n 1, 1) := by decide +kernel
theorem dX8_trace_1 : decode cX8_trace 1 = .ok (.ifCond .lt 38, 3) := by decide +kernel
theorem dX8_trace_4 : decode cX8_trace 4 = .ok (.iload_n 1, 1) := by decide +kernel
theorem dX8_trace_5 : decode cX8_trace 5 = .ok (.aload_n 0, 1) := by decide +kernel
theorem dX8_trace_6 : decode cX8_trace 6 = .ok (.getfield 62, 3) := by decide +kernel
theorem dX8_trace_9 : decode cX8_trace 9 = .ok (.getfield 264, 3) := by decide +kernel
theorem dX8_trace_12 : decode cX8_trace 12 = .ok (.if_icmp .ge 27, 3) := by decide +kernel
theorem dX8_trace_15 : decode cX8_trace 15 = .ok (.iload_n 1, 1) := by decide +kernel
theorem dX8_trace_16 : decode cX8_trace 16 = .ok (.aload_n 0, 1) := by decide +kernel
theorem dX8_trace_17 : decode cX8_trace 17 = .ok (.getfield 62, 3) := by decide +kernel
theorem dX8_trace_20 : decode cX8_trace 20 = .ok (.getfield 267, 3) := by decide +kernel
theorem dX8_trace_23 : decode cX8_trace 23 = .ok (.arraylength, 1) := by decide +kernel
theorem dX8_trace_24 : decode cX8_trace 24 = .ok (.if_icmp .ge 15, 3) := by decide +kernel
theorem dX8_trace_27 : decode cX8_trace 27 = .ok (.aload_n 0, 1) := by decide +kernel
theorem dX8_trace_28 : decode cX8_trace 28 = .ok (.getfield 62, 3) := by decide +kernel
theorem dX8_trace_31 : decode cX8_trace 31 = .ok (.getfield 267, 3) := by decide +kernel
theorem dX8_trace_34 : decode cX8_trace 34 = .ok (.iload_n 1, 1) := by decide +kernel
theorem dX8_trace_35 : decode cX8_trace 35 = .ok (.iaload, 1) := by decide +kernel
theorem dX8_trace_36 : decode cX8_trace 36 = .ok (.goto 4, 3) := by decide +kernel
theorem dX8_trace_39 : decode cX8_trace 39 = .ok (.iconst (-1), 1) := by decide +kernel
theorem dX8_trace_40 : decode cX8_trace 40 = .ok (.ireturn, 1) := by decide +kernel
def pX8_trace : List (List gm_A) := [[(gm_iload 1), (gm_iflt 1), (gm_iload 1), (gm_aload 0), (gm_getR 8 811), (gm_getI 3 301), (gm_cge 1), (gm_iload 1), (gm_aload 0), (gm_getR 8 811), (gm_getR 3 300), gm_alen, (gm_cge 1), (gm_aload 0), (gm_getR 8 811), (gm_getR 3 300), (gm_iload 1), gm_iald, (gm_goto 2)],
  [(gm_push (.inl (-1))), (gm_goto 2)],
  [gm_iret]]
def bpX8_trace : Nat → Nat := fun b => ([0, 39, 40] : List Nat).getD b 0
set_option maxRecDepth 100000 in
theorem tX8_trace {D : va_G} {sz : Nat} {ad : Nat → Nat} {cA : Nat → ClassId} {xs : Int → Int} {Ln : Int} {l : Launch} : gm_SB D sz ad cA xs Ln l gm_mt cX8_trace "LongNoon" 2 false 1 bpX8_trace 0 pX8_trace :=
  ⟨gm_cn 1 (gm_m_iload _) (gm_s_iload_n dX8_trace_0 rfl) (
    gm_cn 4 (gm_m_iflt _) (gm_s_iflt (bpc := bpX8_trace) (b := 1) dX8_trace_1 rfl) (
    gm_cn 5 (gm_m_iload _) (gm_s_iload_n dX8_trace_4 rfl) (
    gm_cn 6 (gm_m_aload _) (gm_s_aload_n dX8_trace_5 rfl) (
    gm_cn 9 (gm_m_getR _ _) (gf_getR_8_11 gw_144 dX8_trace_6) (
    gm_cn 12 (gm_m_getI _ _) (gf_getI_3_1 gw_202 dX8_trace_9) (
    gm_cn 15 (gm_m_cge _) (gm_s_cge (bpc := bpX8_trace) (b := 1) dX8_trace_12 rfl) (
    gm_cn 16 (gm_m_iload _) (gm_s_iload_n dX8_trace_15 rfl) (
    gm_cn 17 (gm_m_aload _) (gm_s_aload_n dX8_trace_16 rfl) (
    gm_cn 20 (gm_m_getR _ _) (gf_getR_8_11 gw_144 dX8_trace_17) (
    gm_cn 23 (gm_m_getR _ _) (gf_getR_3_0 gw_203 dX8_trace_20) (
    gm_cn 24 gm_m_alen (gm_s_alen dX8_trace_23) (
    gm_cn 27 (gm_m_cge _) (gm_s_cge (bpc := bpX8_trace) (b := 1) dX8_trace_24 rfl) (
    gm_cn 28 (gm_m_aload _) (gm_s_aload_n dX8_trace_27 rfl) (
    gm_cn 31 (gm_m_getR _ _) (gf_getR_8_11 gw_144 dX8_trace_28) (
    gm_cn 34 (gm_m_getR _ _) (gf_getR_3_0 gw_203 dX8_trace_31) (
    gm_cn 35 (gm_m_iload _) (gm_s_iload_n dX8_trace_34 rfl) (
    gm_cn 36 gm_m_iald (gm_s_iald dX8_trace_35) (
    gm_cn 0 (gm_m_goto _) (gm_s_goto (bpc := bpX8_trace) (b := 2) dX8_trace_36 rfl 0) (
    trivial))))))))))))))))))),
  gm_cn 40 (gm_m_push _) (gm_s_iconst dX8_trace_39) (
    gm_cn 0 (gm_m_goto _) (gm_s_fall (bpc := bpX8_trace) (b := 2) rfl 0) (
    trivial)),
  gm_cn 0 gm_m_iret (gm_s_iret dX8_trace_40 rfl 0) (
    trivial), trivial⟩
theorem dX8_taken_0 : decode cX8_taken 0 = .ok (.iload_n 2, 1) := by decide +kernel
theorem dX8_taken_1 : decode cX8_taken 1 = .ok (.bipush 6, 2) := by decide +kernel
theorem dX8_taken_3 : decode cX8_taken 3 = .ok (.invokestatic 73, 3) := by decide +kernel
theorem dX8_taken_6 : decode cX8_taken 6 = .ok (.ifCond .ne 6, 3) := by decide +kernel
theorem dX8_taken_9 : decode cX8_taken 9 = .ok (.bipush (-2), 2) := by decide +kernel
theorem dX8_taken_11 : decode cX8_taken 11 = .ok (.ireturn, 1) := by decide +kernel
theorem dX8_taken_12 : decode cX8_taken 12 = .ok (.aload_n 0, 1) := by decide +kernel
theorem dX8_taken_13 : decode cX8_taken 13 = .ok (.iload_n 1, 1) := by decide +kernel
theorem dX8_taken_14 : decode cX8_taken 14 = .ok (.invokevirtual 89, 3) := by decide +kernel
theorem dX8_taken_17 : decode cX8_taken 17 = .ok (.astore_n 3, 1) := by decide +kernel
theorem dX8_taken_18 : decode cX8_taken 18 = .ok (.aload_n 3, 1) := by decide +kernel
theorem dX8_taken_19 : decode cX8_taken 19 = .ok (.ifnonnull 6, 3) := by decide +kernel
theorem dX8_taken_22 : decode cX8_taken 22 = .ok (.bipush (-11), 2) := by decide +kernel
theorem dX8_taken_24 : decode cX8_taken 24 = .ok (.ireturn, 1) := by decide +kernel
theorem dX8_taken_25 : decode cX8_taken 25 = .ok (.aload_n 3, 1) := by decide +kernel
theorem dX8_taken_26 : decode cX8_taken 26 = .ok (.getfield 107, 3) := by decide +kernel
theorem dX8_taken_29 : decode cX8_taken 29 = .ok (.iload_n 2, 1) := by decide +kernel
theorem dX8_taken_30 : decode cX8_taken 30 = .ok (.invokestatic 270, 3) := by decide +kernel
theorem dX8_taken_33 : decode cX8_taken 33 = .ok (.ifCond .eq 10, 3) := by decide +kernel
theorem dX8_taken_36 : decode cX8_taken 36 = .ok (.aload_n 3, 1) := by decide +kernel
theorem dX8_taken_37 : decode cX8_taken 37 = .ok (.getfield 107, 3) := by decide +kernel
theorem dX8_taken_40 : decode cX8_taken 40 = .ok (.goto 5, 3) := by decide +kernel
theorem dX8_taken_43 : decode cX8_taken 43 = .ok (.bipush (-12), 2) := by decide +kernel
theorem dX8_taken_45 : decode cX8_taken 45 = .ok (.ireturn, 1) := by decide +kernel
def pX8_taken : List (List gm_A) := [[(gm_iload 2), (gm_push (.inl 6)), (gm_scall 90 2), (gm_ifne 1), (gm_push (.inl (-2))), gm_iret],
  [(gm_aload 0), (gm_iload 1), (gm_vcall 8 92 2), (gm_astore 3), (gm_aload 3), (gm_ifnonnull 2), (gm_push (.inl (-11))), gm_iret],
  [(gm_aload 3), (gm_getI 2 201), (gm_iload 2), (gm_scall 97 2), (gm_ifeq 3), (gm_aload 3), (gm_getI 2 201), (gm_goto 4)],
  [(gm_push (.inl (-12))), (gm_goto 4)],
  [gm_iret]]
def bpX8_taken : Nat → Nat := fun b => ([0, 12, 25, 43, 45] : List Nat).getD b 0
set_option maxRecDepth 100000 in
theorem tX8_taken {D : va_G} {sz : Nat} {ad : Nat → Nat} {cA : Nat → ClassId} {xs : Int → Int} {Ln : Int} {l : Launch} : gm_SB D sz ad cA xs Ln l gm_mt cX8_taken "LongNoon" 4 false 1 bpX8_taken 0 pX8_taken :=
  ⟨gm_cn 1 (gm_m_iload _) (gm_s_iload_n dX8_taken_0 rfl) (
    gm_cn 3 (gm_m_push _) (gm_s_bipush dX8_taken_1 rfl) (
    gm_cn 6 (gm_m_scall _ _) (gcl_X8_within gw_147 dX8_taken_3) (
    gm_cn 9 (gm_m_ifne _) (gm_s_ifne (bpc := bpX8_taken) (b := 1) dX8_taken_6 rfl) (
    gm_cn 11 (gm_m_push _) (gm_s_bipush dX8_taken_9 rfl) (
    gm_cn 0 gm_m_iret (gm_s_iret dX8_taken_11 rfl 0) (
    trivial)))))),
  gm_cn 13 (gm_m_aload _) (gm_s_aload_n dX8_taken_12 rfl) (
    gm_cn 14 (gm_m_iload _) (gm_s_iload_n dX8_taken_13 rfl) (
    gm_cn 17 (gm_m_vcall _ _ _) (gcl_X8_houseAt gw_151 dX8_taken_14) (
    gm_cn 18 (gm_m_astore _) (gm_s_astore_n dX8_taken_17 rfl (by decide)) (
    gm_cn 19 (gm_m_aload _) (gm_s_aload_n dX8_taken_18 rfl) (
    gm_cn 22 (gm_m_ifnonnull _) (gm_s_ifnonnull (bpc := bpX8_taken) (b := 2) dX8_taken_19 rfl) (
    gm_cn 24 (gm_m_push _) (gm_s_bipush dX8_taken_22 rfl) (
    gm_cn 0 gm_m_iret (gm_s_iret dX8_taken_24 rfl 0) (
    trivial)))))))),
  gm_cn 26 (gm_m_aload _) (gm_s_aload_n dX8_taken_25 rfl) (
    gm_cn 29 (gm_m_getI _ _) (gf_getI_2_1 gw_156 dX8_taken_26) (
    gm_cn 30 (gm_m_iload _) (gm_s_iload_n dX8_taken_29 rfl) (
    gm_cn 33 (gm_m_scall _ _) (gcl_X8_isUnder gw_204 dX8_taken_30) (
    gm_cn 36 (gm_m_ifeq _) (gm_s_ifeq (bpc := bpX8_taken) (b := 3) dX8_taken_33 rfl) (
    gm_cn 37 (gm_m_aload _) (gm_s_aload_n dX8_taken_36 rfl) (
    gm_cn 40 (gm_m_getI _ _) (gf_getI_2_1 gw_156 dX8_taken_37) (
    gm_cn 0 (gm_m_goto _) (gm_s_goto (bpc := bpX8_taken) (b := 4) dX8_taken_40 rfl 0) (
    trivial)))))))),
  gm_cn 45 (gm_m_push _) (gm_s_bipush dX8_taken_43 rfl) (
    gm_cn 0 (gm_m_goto _) (gm_s_fall (bpc := bpX8_taken) (b := 4) rfl 0) (
    trivial)),
  gm_cn 0 gm_m_iret (gm_s_iret dX8_taken_45 rfl 0) (
    trivial), trivial⟩
theorem dX8_count_0 : decode cX8_count 0 = .ok (.iload_n 1, 1) := by decide +kernel
theorem dX8_count_1 : decode cX8_count 1 = .ok (.tableswitch 84 0 5 #[39, 47, 52, 60, 68, 76], 39) := by decide +kernel
theorem dX8_count_40 : decode cX8_count 40 = .ok (.aload_n 0, 1) := by decide +kernel
theorem dX8_count_41 : decode cX8_count 41 = .ok (.getfield 12, 3) := by decide +kernel
theorem dX8_count_44 : decode cX8_count 44 = .ok (.getfield 77, 3) := by decide +kernel
theorem dX8_count_47 : decode cX8_count 47 = .ok (.ireturn, 1) := by decide +kernel
theorem dX8_count_48 : decode cX8_count 48 = .ok (.aload_n 0, 1) := by decide +kernel
theorem dX8_count_49 : decode cX8_count 49 = .ok (.getfield 147, 3) := by decide +kernel
theorem dX8_count_52 : decode cX8_count 52 = .ok (.ireturn, 1) := by decide +kernel
theorem dX8_count_53 : decode cX8_count 53 = .ok (.aload_n 0, 1) := by decide +kernel
theorem dX8_count_54 : decode cX8_count 54 = .ok (.getfield 12, 3) := by decide +kernel
theorem dX8_count_57 : decode cX8_count 57 = .ok (.getfield 210, 3) := by decide +kernel
theorem dX8_count_60 : decode cX8_count 60 = .ok (.ireturn, 1) := by decide +kernel
theorem dX8_count_61 : decode cX8_count 61 = .ok (.aload_n 0, 1) := by decide +kernel
theorem dX8_count_62 : decode cX8_count 62 = .ok (.getfield 12, 3) := by decide +kernel
theorem dX8_count_65 : decode cX8_count 65 = .ok (.getfield 232, 3) := by decide +kernel
theorem dX8_count_68 : decode cX8_count 68 = .ok (.ireturn, 1) := by decide +kernel
theorem dX8_count_69 : decode cX8_count 69 = .ok (.aload_n 0, 1) := by decide +kernel
theorem dX8_count_70 : decode cX8_count 70 = .ok (.getfield 44, 3) := by decide +kernel
theorem dX8_count_73 : decode cX8_count 73 = .ok (.getfield 144, 3) := by decide +kernel
theorem dX8_count_76 : decode cX8_count 76 = .ok (.ireturn, 1) := by decide +kernel
theorem dX8_count_77 : decode cX8_count 77 = .ok (.aload_n 0, 1) := by decide +kernel
theorem dX8_count_78 : decode cX8_count 78 = .ok (.getfield 62, 3) := by decide +kernel
theorem dX8_count_81 : decode cX8_count 81 = .ok (.getfield 264, 3) := by decide +kernel
theorem dX8_count_84 : decode cX8_count 84 = .ok (.ireturn, 1) := by decide +kernel
theorem dX8_count_85 : decode cX8_count 85 = .ok (.bipush (-2), 2) := by decide +kernel
theorem dX8_count_87 : decode cX8_count 87 = .ok (.ireturn, 1) := by decide +kernel
def pX8_count : List (List gm_A) := [[(gm_iload 1), (gm_switch [(0, 1), (1, 2), (2, 3), (3, 4), (4, 5), (5, 6)] 7)],
  [(gm_aload 0), (gm_getR 8 800), (gm_getI 7 701), gm_iret],
  [(gm_aload 0), (gm_getI 8 810), gm_iret],
  [(gm_aload 0), (gm_getR 8 800), (gm_getI 7 707), gm_iret],
  [(gm_aload 0), (gm_getR 8 800), (gm_getI 7 709), gm_iret],
  [(gm_aload 0), (gm_getR 8 807), (gm_getI 4 401), gm_iret],
  [(gm_aload 0), (gm_getR 8 811), (gm_getI 3 301), gm_iret],
  [(gm_push (.inl (-2))), gm_iret]]
def bpX8_count : Nat → Nat := fun b => ([0, 40, 48, 53, 61, 69, 77, 85] : List Nat).getD b 0
set_option maxRecDepth 100000 in
theorem tX8_count {D : va_G} {sz : Nat} {ad : Nat → Nat} {cA : Nat → ClassId} {xs : Int → Int} {Ln : Int} {l : Launch} : gm_SB D sz ad cA xs Ln l gm_mt cX8_count "LongNoon" 2 false 1 bpX8_count 0 pX8_count :=
  ⟨gm_cn 1 (gm_m_iload _) (gm_s_iload_n dX8_count_0 rfl) (
    gm_cn 0 (gm_m_switch _ _) (gm_s_table (bpc := bpX8_count) (ps := [(0, 1), (1, 2), (2, 3), (3, 4), (4, 5), (5, 6)]) (d := 7) dX8_count_1 rfl rfl rfl 0) (
    trivial)),
  gm_cn 41 (gm_m_aload _) (gm_s_aload_n dX8_count_40 rfl) (
    gm_cn 44 (gm_m_getR _ _) (gf_getR_8_0 gw_130 dX8_count_41) (
    gm_cn 47 (gm_m_getI _ _) (gf_getI_7_1 gw_148 dX8_count_44) (
    gm_cn 0 gm_m_iret (gm_s_iret dX8_count_47 rfl 0) (
    trivial)))),
  gm_cn 49 (gm_m_aload _) (gm_s_aload_n dX8_count_48 rfl) (
    gm_cn 52 (gm_m_getI _ _) (gf_getI_8_10 gw_168 dX8_count_49) (
    gm_cn 0 gm_m_iret (gm_s_iret dX8_count_52 rfl 0) (
    trivial))),
  gm_cn 54 (gm_m_aload _) (gm_s_aload_n dX8_count_53 rfl) (
    gm_cn 57 (gm_m_getR _ _) (gf_getR_8_0 gw_130 dX8_count_54) (
    gm_cn 60 (gm_m_getI _ _) (gf_getI_7_7 gw_185 dX8_count_57) (
    gm_cn 0 gm_m_iret (gm_s_iret dX8_count_60 rfl 0) (
    trivial)))),
  gm_cn 62 (gm_m_aload _) (gm_s_aload_n dX8_count_61 rfl) (
    gm_cn 65 (gm_m_getR _ _) (gf_getR_8_0 gw_130 dX8_count_62) (
    gm_cn 68 (gm_m_getI _ _) (gf_getI_7_9 gw_192 dX8_count_65) (
    gm_cn 0 gm_m_iret (gm_s_iret dX8_count_68 rfl 0) (
    trivial)))),
  gm_cn 70 (gm_m_aload _) (gm_s_aload_n dX8_count_69 rfl) (
    gm_cn 73 (gm_m_getR _ _) (gf_getR_8_7 gw_139 dX8_count_70) (
    gm_cn 76 (gm_m_getI _ _) (gf_getI_4_1 gw_167 dX8_count_73) (
    gm_cn 0 gm_m_iret (gm_s_iret dX8_count_76 rfl 0) (
    trivial)))),
  gm_cn 78 (gm_m_aload _) (gm_s_aload_n dX8_count_77 rfl) (
    gm_cn 81 (gm_m_getR _ _) (gf_getR_8_11 gw_144 dX8_count_78) (
    gm_cn 84 (gm_m_getI _ _) (gf_getI_3_1 gw_202 dX8_count_81) (
    gm_cn 0 gm_m_iret (gm_s_iret dX8_count_84 rfl 0) (
    trivial)))),
  gm_cn 87 (gm_m_push _) (gm_s_bipush dX8_count_85 rfl) (
    gm_cn 0 gm_m_iret (gm_s_iret dX8_count_87 rfl 0) (
    trivial)), trivial⟩
theorem dX8_tape_0 : decode cX8_tape 0 = .ok (.aload_n 0, 1) := by decide +kernel
theorem dX8_tape_1 : decode cX8_tape 1 = .ok (.iload_n 1, 1) := by decide +kernel
theorem dX8_tape_2 : decode cX8_tape 2 = .ok (.invokevirtual 238, 3) := by decide +kernel
theorem dX8_tape_5 : decode cX8_tape 5 = .ok (.astore 4, 2) := by decide +kernel
theorem dX8_tape_7 : decode cX8_tape 7 = .ok (.aload 4, 2) := by decide +kernel
theorem dX8_tape_9 : decode cX8_tape 9 = .ok (.ifnonnull 5, 3) := by decide +kernel
theorem dX8_tape_12 : decode cX8_tape 12 = .ok (.iconst (-1), 1) := by decide +kernel
theorem dX8_tape_13 : decode cX8_tape 13 = .ok (.ireturn, 1) := by decide +kernel
theorem dX8_tape_14 : decode cX8_tape 14 = .ok (.iload_n 2, 1) := by decide +kernel
theorem dX8_tape_15 : decode cX8_tape 15 = .ok (.iconst (-1), 1) := by decide +kernel
theorem dX8_tape_16 : decode cX8_tape 16 = .ok (.if_icmp .ne 12, 3) := by decide +kernel
theorem dX8_tape_19 : decode cX8_tape 19 = .ok (.aload 4, 2) := by decide +kernel
theorem dX8_tape_21 : decode cX8_tape 21 = .ok (.iconst (-1), 1) := by decide +kernel
theorem dX8_tape_22 : decode cX8_tape 22 = .ok (.iconst 0, 1) := by decide +kernel
theorem dX8_tape_23 : decode cX8_tape 23 = .ok (.invokevirtual 273, 3) := by decide +kernel
theorem dX8_tape_26 : decode cX8_tape 26 = .ok (.iconst 1, 1) := by decide +kernel
theorem dX8_tape_27 : decode cX8_tape 27 = .ok (.ireturn, 1) := by decide +kernel
theorem dX8_tape_28 : decode cX8_tape 28 = .ok (.iload_n 2, 1) := by decide +kernel
theorem dX8_tape_29 : decode cX8_tape 29 = .ok (.iconst 4, 1) := by decide +kernel
theorem dX8_tape_30 : decode cX8_tape 30 = .ok (.invokestatic 73, 3) := by decide +kernel
theorem dX8_tape_33 : decode cX8_tape 33 = .ok (.ifCond .eq 9, 3) := by decide +kernel
theorem dX8_tape_36 : decode cX8_tape 36 = .ok (.iload_n 3, 1) := by decide +kernel
theorem dX8_tape_37 : decode cX8_tape 37 = .ok (.bipush 60, 2) := by decide +kernel
theorem dX8_tape_39 : decode cX8_tape 39 = .ok (.if_icmp .le 6, 3) := by decide +kernel
theorem dX8_tape_42 : decode cX8_tape 42 = .ok (.bipush (-2), 2) := by decide +kernel
theorem dX8_tape_44 : decode cX8_tape 44 = .ok (.ireturn, 1) := by decide +kernel
theorem dX8_tape_45 : decode cX8_tape 45 = .ok (.iload_n 3, 1) := by decide +kernel
theorem dX8_tape_46 : decode cX8_tape 46 = .ok (.ifCond .ge 6, 3) := by decide +kernel
theorem dX8_tape_49 : decode cX8_tape 49 = .ok (.bipush (-14), 2) := by decide +kernel
theorem dX8_tape_51 : decode cX8_tape 51 = .ok (.ireturn, 1) := by decide +kernel
theorem dX8_tape_52 : decode cX8_tape 52 = .ok (.aload 4, 2) := by decide +kernel
theorem dX8_tape_54 : decode cX8_tape 54 = .ok (.iload_n 2, 1) := by decide +kernel
theorem dX8_tape_55 : decode cX8_tape 55 = .ok (.iload_n 3, 1) := by decide +kernel
theorem dX8_tape_56 : decode cX8_tape 56 = .ok (.invokevirtual 273, 3) := by decide +kernel
theorem dX8_tape_59 : decode cX8_tape 59 = .ok (.iconst 1, 1) := by decide +kernel
theorem dX8_tape_60 : decode cX8_tape 60 = .ok (.ireturn, 1) := by decide +kernel
def pX8_tape : List (List gm_A) := [[(gm_aload 0), (gm_iload 1), (gm_vcall 8 93 2), (gm_astore 4), (gm_aload 4), (gm_ifnonnull 1), (gm_push (.inl (-1))), gm_iret],
  [(gm_iload 2), (gm_push (.inl (-1))), (gm_cne 2), (gm_aload 4), (gm_push (.inl (-1))), (gm_push (.inl 0)), (gm_vcall 6 42 3), (gm_push (.inl 1)), gm_iret],
  [(gm_iload 2), (gm_push (.inl 4)), (gm_scall 90 2), (gm_ifeq 3), (gm_iload 3), (gm_push (.inl 60)), (gm_cle 4), (gm_goto 3)],
  [(gm_push (.inl (-2))), gm_iret],
  [(gm_iload 3), (gm_ifge 5), (gm_push (.inl (-14))), gm_iret],
  [(gm_aload 4), (gm_iload 2), (gm_iload 3), (gm_vcall 6 42 3), (gm_push (.inl 1)), gm_iret]]
def bpX8_tape : Nat → Nat := fun b => ([0, 14, 28, 42, 45, 52] : List Nat).getD b 0
set_option maxRecDepth 100000 in
theorem tX8_tape {D : va_G} {sz : Nat} {ad : Nat → Nat} {cA : Nat → ClassId} {xs : Int → Int} {Ln : Int} {l : Launch} : gm_SB D sz ad cA xs Ln l gm_mt cX8_tape "LongNoon" 5 false 1 bpX8_tape 0 pX8_tape :=
  ⟨gm_cn 1 (gm_m_aload _) (gm_s_aload_n dX8_tape_0 rfl) (
    gm_cn 2 (gm_m_iload _) (gm_s_iload_n dX8_tape_1 rfl) (
    gm_cn 5 (gm_m_vcall _ _ _) (gcl_X8_tapeAt gw_194 dX8_tape_2) (
    gm_cn 7 (gm_m_astore _) (gm_s_astore dX8_tape_5 (by decide)) (
    gm_cn 9 (gm_m_aload _) (gm_s_aload dX8_tape_7) (
    gm_cn 12 (gm_m_ifnonnull _) (gm_s_ifnonnull (bpc := bpX8_tape) (b := 1) dX8_tape_9 rfl) (
    gm_cn 13 (gm_m_push _) (gm_s_iconst dX8_tape_12) (
    gm_cn 0 gm_m_iret (gm_s_iret dX8_tape_13 rfl 0) (
    trivial)))))))),
  gm_cn 15 (gm_m_iload _) (gm_s_iload_n dX8_tape_14 rfl) (
    gm_cn 16 (gm_m_push _) (gm_s_iconst dX8_tape_15) (
    gm_cn 19 (gm_m_cne _) (gm_s_cne (bpc := bpX8_tape) (b := 2) dX8_tape_16 rfl) (
    gm_cn 21 (gm_m_aload _) (gm_s_aload dX8_tape_19) (
    gm_cn 22 (gm_m_push _) (gm_s_iconst dX8_tape_21) (
    gm_cn 23 (gm_m_push _) (gm_s_iconst dX8_tape_22) (
    gm_cn 26 (gm_m_vcall _ _ _) (gcl_X6_become gw_205 dX8_tape_23) (
    gm_cn 27 (gm_m_push _) (gm_s_iconst dX8_tape_26) (
    gm_cn 0 gm_m_iret (gm_s_iret dX8_tape_27 rfl 0) (
    trivial))))))))),
  gm_cn 29 (gm_m_iload _) (gm_s_iload_n dX8_tape_28 rfl) (
    gm_cn 30 (gm_m_push _) (gm_s_iconst dX8_tape_29) (
    gm_cn 33 (gm_m_scall _ _) (gcl_X8_within gw_147 dX8_tape_30) (
    gm_cn 36 (gm_m_ifeq _) (gm_s_ifeq (bpc := bpX8_tape) (b := 3) dX8_tape_33 rfl) (
    gm_cn 37 (gm_m_iload _) (gm_s_iload_n dX8_tape_36 rfl) (
    gm_cn 39 (gm_m_push _) (gm_s_bipush dX8_tape_37 rfl) (
    gm_cn 42 (gm_m_cle _) (gm_s_cle (bpc := bpX8_tape) (b := 4) dX8_tape_39 rfl) (
    gm_cn 0 (gm_m_goto _) (gm_s_fall (bpc := bpX8_tape) (b := 3) rfl 0) (
    trivial)))))))),
  gm_cn 44 (gm_m_push _) (gm_s_bipush dX8_tape_42 rfl) (
    gm_cn 0 gm_m_iret (gm_s_iret dX8_tape_44 rfl 0) (
    trivial)),
  gm_cn 46 (gm_m_iload _) (gm_s_iload_n dX8_tape_45 rfl) (
    gm_cn 49 (gm_m_ifge _) (gm_s_ifge (bpc := bpX8_tape) (b := 5) dX8_tape_46 rfl) (
    gm_cn 51 (gm_m_push _) (gm_s_bipush dX8_tape_49 rfl) (
    gm_cn 0 gm_m_iret (gm_s_iret dX8_tape_51 rfl 0) (
    trivial)))),
  gm_cn 54 (gm_m_aload _) (gm_s_aload dX8_tape_52) (
    gm_cn 55 (gm_m_iload _) (gm_s_iload_n dX8_tape_54 rfl) (
    gm_cn 56 (gm_m_iload _) (gm_s_iload_n dX8_tape_55 rfl) (
    gm_cn 59 (gm_m_vcall _ _ _) (gcl_X6_become gw_205 dX8_tape_56) (
    gm_cn 60 (gm_m_push _) (gm_s_iconst dX8_tape_59) (
    gm_cn 0 gm_m_iret (gm_s_iret dX8_tape_60 rfl 0) (
    trivial)))))), trivial⟩
theorem dX8_item_0 : decode cX8_item 0 = .ok (.aload_n 0, 1) := by decide +kernel
theorem dX8_item_1 : decode cX8_item 1 = .ok (.iload_n 1, 1) := by decide +kernel
theorem dX8_item_2 : decode cX8_item 2 = .ok (.invokevirtual 238, 3) := by decide +kernel
theorem dX8_item_5 : decode cX8_item 5 = .ok (.astore 5, 2) := by decide +kernel
theorem dX8_item_7 : decode cX8_item 7 = .ok (.aload 5, 2) := by decide +kernel
theorem dX8_item_9 : decode cX8_item 9 = .ok (.ifnonnull 5, 3) := by decide +kernel
theorem dX8_item_12 : decode cX8_item 12 = .ok (.iconst (-1), 1) := by decide +kernel
theorem dX8_item_13 : decode cX8_item 13 = .ok (.ireturn, 1) := by decide +kernel
theorem dX8_item_14 : decode cX8_item 14 = .ok (.aload 5, 2) := by decide +kernel
theorem dX8_item_16 : decode cX8_item 16 = .ok (.invokevirtual 242, 3) := by decide +kernel
theorem dX8_item_19 : decode cX8_item 19 = .ok (.ifCond .eq 6, 3) := by decide +kernel
theorem dX8_item_22 : decode cX8_item 22 = .ok (.bipush (-11), 2) := by decide +kernel
theorem dX8_item_24 : decode cX8_item 24 = .ok (.ireturn, 1) := by decide +kernel
theorem dX8_item_25 : decode cX8_item 25 = .ok (.aload 5, 2) := by decide +kernel
theorem dX8_item_27 : decode cX8_item 27 = .ok (.iload_n 2, 1) := by decide +kernel
theorem dX8_item_28 : decode cX8_item 28 = .ok (.invokevirtual 276, 3) := by decide +kernel
theorem dX8_item_31 : decode cX8_item 31 = .ok (.ifCond .ne 6, 3) := by decide +kernel
theorem dX8_item_34 : decode cX8_item 34 = .ok (.bipush (-13), 2) := by decide +kernel
theorem dX8_item_36 : decode cX8_item 36 = .ok (.ireturn, 1) := by decide +kernel
theorem dX8_item_37 : decode cX8_item 37 = .ok (.aload 5, 2) := by decide +kernel
theorem dX8_item_39 : decode cX8_item 39 = .ok (.getfield 250, 3) := by decide +kernel
theorem dX8_item_42 : decode cX8_item 42 = .ok (.iload_n 2, 1) := by decide +kernel
theorem dX8_item_43 : decode cX8_item 43 = .ok (.aload 5, 2) := by decide +kernel
theorem dX8_item_45 : decode cX8_item 45 = .ok (.lload_n 3, 1) := by decide +kernel
theorem dX8_item_46 : decode cX8_item 46 = .ok (.invokevirtual 279, 3) := by decide +kernel
theorem dX8_item_49 : decode cX8_item 49 = .ok (.lastore, 1) := by decide +kernel
theorem dX8_item_50 : decode cX8_item 50 = .ok (.iconst 1, 1) := by decide +kernel
theorem dX8_item_51 : decode cX8_item 51 = .ok (.ireturn, 1) := by decide +kernel
def pX8_item : List (List gm_A) := [[(gm_aload 0), (gm_iload 1), (gm_vcall 8 93 2), (gm_astore 5), (gm_aload 5), (gm_ifnonnull 1), (gm_push (.inl (-1))), gm_iret],
  [(gm_aload 5), (gm_vcall 6 43 1), (gm_ifeq 2), (gm_push (.inl (-11))), gm_iret],
  [(gm_aload 5), (gm_iload 2), (gm_vcall 6 44 2), (gm_ifne 3), (gm_push (.inl (-13))), gm_iret],
  [(gm_aload 5), (gm_getR 6 602), (gm_iload 2), (gm_aload 5), (gm_lload 3), (gm_vcall 6 45 2), gm_last, (gm_push (.inl 1)), gm_iret]]
def bpX8_item : Nat → Nat := fun b => ([0, 14, 25, 37] : List Nat).getD b 0
set_option maxRecDepth 100000 in
theorem tX8_item {D : va_G} {sz : Nat} {ad : Nat → Nat} {cA : Nat → ClassId} {xs : Int → Int} {Ln : Int} {l : Launch} : gm_SB D sz ad cA xs Ln l gm_mt cX8_item "LongNoon" 6 false 1 bpX8_item 0 pX8_item :=
  ⟨gm_cn 1 (gm_m_aload _) (gm_s_aload_n dX8_item_0 rfl) (
    gm_cn 2 (gm_m_iload _) (gm_s_iload_n dX8_item_1 rfl) (
    gm_cn 5 (gm_m_vcall _ _ _) (gcl_X8_tapeAt gw_194 dX8_item_2) (
    gm_cn 7 (gm_m_astore _) (gm_s_astore dX8_item_5 (by decide)) (
    gm_cn 9 (gm_m_aload _) (gm_s_aload dX8_item_7) (
    gm_cn 12 (gm_m_ifnonnull _) (gm_s_ifnonnull (bpc := bpX8_item) (b := 1) dX8_item_9 rfl) (
    gm_cn 13 (gm_m_push _) (gm_s_iconst dX8_item_12) (
    gm_cn 0 gm_m_iret (gm_s_iret dX8_item_13 rfl 0) (
    trivial)))))))),
  gm_cn 16 (gm_m_aload _) (gm_s_aload dX8_item_14) (
    gm_cn 19 (gm_m_vcall _ _ _) (gcl_X6_isEmpty gw_195 dX8_item_16) (
    gm_cn 22 (gm_m_ifeq _) (gm_s_ifeq (bpc := bpX8_item) (b := 2) dX8_item_19 rfl) (
    gm_cn 24 (gm_m_push _) (gm_s_bipush dX8_item_22 rfl) (
    gm_cn 0 gm_m_iret (gm_s_iret dX8_item_24 rfl 0) (
    trivial))))),
  gm_cn 27 (gm_m_aload _) (gm_s_aload dX8_item_25) (
    gm_cn 28 (gm_m_iload _) (gm_s_iload_n dX8_item_27 rfl) (
    gm_cn 31 (gm_m_vcall _ _ _) (gcl_X6_has gw_206 dX8_item_28) (
    gm_cn 34 (gm_m_ifne _) (gm_s_ifne (bpc := bpX8_item) (b := 3) dX8_item_31 rfl) (
    gm_cn 36 (gm_m_push _) (gm_s_bipush dX8_item_34 rfl) (
    gm_cn 0 gm_m_iret (gm_s_iret dX8_item_36 rfl 0) (
    trivial)))))),
  gm_cn 39 (gm_m_aload _) (gm_s_aload dX8_item_37) (
    gm_cn 42 (gm_m_getR _ _) (gf_getR_6_2 gw_198 dX8_item_39) (
    gm_cn 43 (gm_m_iload _) (gm_s_iload_n dX8_item_42 rfl) (
    gm_cn 45 (gm_m_aload _) (gm_s_aload dX8_item_43) (
    gm_cn 46 (gm_m_lload _) (gm_s_lload_n dX8_item_45 rfl) (
    gm_cn 49 (gm_m_vcall _ _ _) (gcl_X6_cut gw_207 dX8_item_46) (
    gm_cn 50 gm_m_last (gm_s_last dX8_item_49) (
    gm_cn 51 (gm_m_push _) (gm_s_iconst dX8_item_50) (
    gm_cn 0 gm_m_iret (gm_s_iret dX8_item_51 rfl 0) (
    trivial))))))))), trivial⟩
theorem dX8_read_0 : decode cX8_read 0 = .ok (.aload_n 0, 1) := by decide +kernel
theorem dX8_read_1 : decode cX8_read 1 = .ok (.iload_n 1, 1) := by decide +kernel
theorem dX8_read_2 : decode cX8_read 2 = .ok (.invokevirtual 238, 3) := by decide +kernel
theorem dX8_read_5 : decode cX8_read 5 = .ok (.astore_n 3, 1) := by decide +kernel
theorem dX8_read_6 : decode cX8_read 6 = .ok (.aload_n 3, 1) := by decide +kernel
theorem dX8_read_7 : decode cX8_read 7 = .ok (.ifnull 20, 3) := by decide +kernel
theorem dX8_read_10 : decode cX8_read 10 = .ok (.aload_n 3, 1) := by decide +kernel
theorem dX8_read_11 : decode cX8_read 11 = .ok (.iload_n 2, 1) := by decide +kernel
theorem dX8_read_12 : decode cX8_read 12 = .ok (.invokevirtual 276, 3) := by decide +kernel
theorem dX8_read_15 : decode cX8_read 15 = .ok (.ifCond .eq 12, 3) := by decide +kernel
theorem dX8_read_18 : decode cX8_read 18 = .ok (.aload_n 3, 1) := by decide +kernel
theorem dX8_read_19 : decode cX8_read 19 = .ok (.getfield 250, 3) := by decide +kernel
theorem dX8_read_22 : decode cX8_read 22 = .ok (.iload_n 2, 1) := by decide +kernel
theorem dX8_read_23 : decode cX8_read 23 = .ok (.laload, 1) := by decide +kernel
theorem dX8_read_24 : decode cX8_read 24 = .ok (.goto 6, 3) := by decide +kernel
theorem dX8_read_27 : decode cX8_read 27 = .ok (.ldc2_w 226, 3) := by decide +kernel
theorem dX8_read_30 : decode cX8_read 30 = .ok (.lreturn, 1) := by decide +kernel
def pX8_read : List (List gm_A) := [[(gm_aload 0), (gm_iload 1), (gm_vcall 8 93 2), (gm_astore 3), (gm_aload 3), (gm_ifnull 1), (gm_aload 3), (gm_iload 2), (gm_vcall 6 44 2), (gm_ifeq 1), (gm_aload 3), (gm_getR 6 602), (gm_iload 2), gm_lald, (gm_goto 2)],
  [(gm_push (.inr (.inl (-9223372036854775808)))), (gm_goto 2)],
  [gm_lret]]
def bpX8_read : Nat → Nat := fun b => ([0, 27, 30] : List Nat).getD b 0
set_option maxRecDepth 100000 in
theorem tX8_read {D : va_G} {sz : Nat} {ad : Nat → Nat} {cA : Nat → ClassId} {xs : Int → Int} {Ln : Int} {l : Launch} : gm_SB D sz ad cA xs Ln l gm_mt cX8_read "LongNoon" 4 false 4 bpX8_read 0 pX8_read :=
  ⟨gm_cn 1 (gm_m_aload _) (gm_s_aload_n dX8_read_0 rfl) (
    gm_cn 2 (gm_m_iload _) (gm_s_iload_n dX8_read_1 rfl) (
    gm_cn 5 (gm_m_vcall _ _ _) (gcl_X8_tapeAt gw_194 dX8_read_2) (
    gm_cn 6 (gm_m_astore _) (gm_s_astore_n dX8_read_5 rfl (by decide)) (
    gm_cn 7 (gm_m_aload _) (gm_s_aload_n dX8_read_6 rfl) (
    gm_cn 10 (gm_m_ifnull _) (gm_s_ifnull (bpc := bpX8_read) (b := 1) dX8_read_7 rfl) (
    gm_cn 11 (gm_m_aload _) (gm_s_aload_n dX8_read_10 rfl) (
    gm_cn 12 (gm_m_iload _) (gm_s_iload_n dX8_read_11 rfl) (
    gm_cn 15 (gm_m_vcall _ _ _) (gcl_X6_has gw_206 dX8_read_12) (
    gm_cn 18 (gm_m_ifeq _) (gm_s_ifeq (bpc := bpX8_read) (b := 1) dX8_read_15 rfl) (
    gm_cn 19 (gm_m_aload _) (gm_s_aload_n dX8_read_18 rfl) (
    gm_cn 22 (gm_m_getR _ _) (gf_getR_6_2 gw_198 dX8_read_19) (
    gm_cn 23 (gm_m_iload _) (gm_s_iload_n dX8_read_22 rfl) (
    gm_cn 24 gm_m_lald (gm_s_lald dX8_read_23) (
    gm_cn 0 (gm_m_goto _) (gm_s_goto (bpc := bpX8_read) (b := 2) dX8_read_24 rfl 0) (
    trivial))))))))))))))),
  gm_cn 30 (gm_m_push _) (gm_s_ldc2 gw_190 (by decide +kernel) dX8_read_27) (
    gm_cn 0 (gm_m_goto _) (gm_s_fall (bpc := bpX8_read) (b := 2) rfl 0) (
    trivial)),
  gm_cn 0 gm_m_lret (gm_s_lret dX8_read_30 rfl 0) (
    trivial), trivial⟩
theorem dX8_shift_0 : decode cX8_shift 0 = .ok (.aload_n 0, 1) := by decide +kernel
theorem dX8_shift_1 : decode cX8_shift 1 = .ok (.iload_n 1, 1) := by decide +kernel
theorem dX8_shift_2 : decode cX8_shift 2 = .ok (.invokevirtual 238, 3) := by decide +kernel
theorem dX8_shift_5 : decode cX8_shift 5 = .ok (.astore 6, 2) := by decide +kernel
theorem dX8_shift_7 : decode cX8_shift 7 = .ok (.aload_n 0, 1) := by decide +kernel
theorem dX8_shift_8 : decode cX8_shift 8 = .ok (.iload_n 3, 1) := by decide +kernel
theorem dX8_shift_9 : decode cX8_shift 9 = .ok (.invokevirtual 238, 3) := by decide +kernel
theorem dX8_shift_12 : decode cX8_shift 12 = .ok (.astore 7, 2) := by decide +kernel
theorem dX8_shift_14 : decode cX8_shift 14 = .ok (.aload 6, 2) := by decide +kernel
theorem dX8_shift_16 : decode cX8_shift 16 = .ok (.ifnull 8, 3) := by decide +kernel
theorem dX8_shift_19 : decode cX8_shift 19 = .ok (.aload 7, 2) := by decide +kernel
theorem dX8_shift_21 : decode cX8_shift 21 = .ok (.ifnonnull 5, 3) := by decide +kernel
theorem dX8_shift_24 : decode cX8_shift 24 = .ok (.iconst (-1), 1) := by decide +kernel
theorem dX8_shift_25 : decode cX8_shift 25 = .ok (.ireturn, 1) := by decide +kernel
theorem dX8_shift_26 : decode cX8_shift 26 = .ok (.aload 6, 2) := by decide +kernel
theorem dX8_shift_28 : decode cX8_shift 28 = .ok (.invokevirtual 242, 3) := by decide +kernel
theorem dX8_shift_31 : decode cX8_shift 31 = .ok (.ifCond .ne 11, 3) := by decide +kernel
theorem dX8_shift_34 : decode cX8_shift 34 = .ok (.aload 7, 2) := by decide +kernel
theorem dX8_shift_36 : decode cX8_shift 36 = .ok (.invokevirtual 242, 3) := by decide +kernel
theorem dX8_shift_39 : decode cX8_shift 39 = .ok (.ifCond .eq 6, 3) := by decide +kernel
theorem dX8_shift_42 : decode cX8_shift 42 = .ok (.bipush (-11), 2) := by decide +kernel
theorem dX8_shift_44 : decode cX8_shift 44 = .ok (.ireturn, 1) := by decide +kernel
theorem dX8_shift_45 : decode cX8_shift 45 = .ok (.aload 6, 2) := by decide +kernel
theorem dX8_shift_47 : decode cX8_shift 47 = .ok (.getfield 246, 3) := by decide +kernel
theorem dX8_shift_50 : decode cX8_shift 50 = .ok (.aload 7, 2) := by decide +kernel
theorem dX8_shift_52 : decode cX8_shift 52 = .ok (.getfield 246, 3) := by decide +kernel
theorem dX8_shift_55 : decode cX8_shift 55 = .ok (.if_icmp .eq 6, 3) := by decide +kernel
theorem dX8_shift_58 : decode cX8_shift 58 = .ok (.bipush (-12), 2) := by decide +kernel
theorem dX8_shift_60 : decode cX8_shift 60 = .ok (.ireturn, 1) := by decide +kernel
theorem dX8_shift_61 : decode cX8_shift 61 = .ok (.iload 5, 2) := by decide +kernel
theorem dX8_shift_63 : decode cX8_shift 63 = .ok (.ifCond .lt 37, 3) := by decide +kernel
theorem dX8_shift_66 : decode cX8_shift 66 = .ok (.iload_n 2, 1) := by decide +kernel
theorem dX8_shift_67 : decode cX8_shift 67 = .ok (.ifCond .lt 33, 3) := by decide +kernel
theorem dX8_shift_70 : decode cX8_shift 70 = .ok (.iload 4, 2) := by decide +kernel
theorem dX8_shift_72 : decode cX8_shift 72 = .ok (.ifCond .lt 28, 3) := by decide +kernel
theorem dX8_shift_75 : decode cX8_shift 75 = .ok (.iload_n 2, 1) := by decide +kernel
theorem dX8_shift_76 : decode cX8_shift 76 = .ok (.aload 6, 2) := by decide +kernel
theorem dX8_shift_78 : decode cX8_shift 78 = .ok (.getfield 249, 3) := by decide +kernel
theorem dX8_shift_81 : decode cX8_shift 81 = .ok (.iload 5, 2) := by decide +kernel
theorem dX8_shift_83 : decode cX8_shift 83 = .ok (.isub, 1) := by decide +kernel
theorem dX8_shift_84 : decode cX8_shift 84 = .ok (.if_icmp .gt 16, 3) := by decide +kernel
theorem dX8_shift_87 : decode cX8_shift 87 = .ok (.iload 4, 2) := by decide +kernel
theorem dX8_shift_89 : decode cX8_shift 89 = .ok (.aload 7, 2) := by decide +kernel
theorem dX8_shift_91 : decode cX8_shift 91 = .ok (.getfield 249, 3) := by decide +kernel
theorem dX8_shift_94 : decode cX8_shift 94 = .ok (.iload 5, 2) := by decide +kernel
theorem dX8_shift_96 : decode cX8_shift 96 = .ok (.isub, 1) := by decide +kernel
theorem dX8_shift_97 : decode cX8_shift 97 = .ok (.if_icmp .le 6, 3) := by decide +kernel
theorem dX8_shift_100 : decode cX8_shift 100 = .ok (.bipush (-13), 2) := by decide +kernel
theorem dX8_shift_102 : decode cX8_shift 102 = .ok (.ireturn, 1) := by decide +kernel
theorem dX8_shift_103 : decode cX8_shift 103 = .ok (.aload 6, 2) := by decide +kernel
theorem dX8_shift_105 : decode cX8_shift 105 = .ok (.getfield 250, 3) := by decide +kernel
theorem dX8_shift_108 : decode cX8_shift 108 = .ok (.iload_n 2, 1) := by decide +kernel
theorem dX8_shift_109 : decode cX8_shift 109 = .ok (.aload 7, 2) := by decide +kernel
theorem dX8_shift_111 : decode cX8_shift 111 = .ok (.getfield 250, 3) := by decide +kernel
theorem dX8_shift_114 : decode cX8_shift 114 = .ok (.iload 4, 2) := by decide +kernel
theorem dX8_shift_116 : decode cX8_shift 116 = .ok (.iload 5, 2) := by decide +kernel
theorem dX8_shift_118 : decode cX8_shift 118 = .ok (.invokestatic 283, 3) := by decide +kernel
theorem dX8_shift_121 : decode cX8_shift 121 = .ok (.iload 5, 2) := by decide +kernel
theorem dX8_shift_123 : decode cX8_shift 123 = .ok (.ireturn, 1) := by decide +kernel
def pX8_shift : List (List gm_A) := [[(gm_aload 0), (gm_iload 1), (gm_vcall 8 93 2), (gm_astore 6), (gm_aload 0), (gm_iload 3), (gm_vcall 8 93 2), (gm_astore 7), (gm_aload 6), (gm_ifnull 1), (gm_aload 7), (gm_ifnonnull 2), (gm_goto 1)],
  [(gm_push (.inl (-1))), gm_iret],
  [(gm_aload 6), (gm_vcall 6 43 1), (gm_ifne 3), (gm_aload 7), (gm_vcall 6 43 1), (gm_ifeq 4), (gm_goto 3)],
  [(gm_push (.inl (-11))), gm_iret],
  [(gm_aload 6), (gm_getI 6 600), (gm_aload 7), (gm_getI 6 600), (gm_ceq 5), (gm_push (.inl (-12))), gm_iret],
  [(gm_iload 5), (gm_iflt 6), (gm_iload 2), (gm_iflt 6), (gm_iload 4), (gm_iflt 6), (gm_iload 2), (gm_aload 6), (gm_getI 6 601), (gm_iload 5), (gm_op2 gm_sub), (gm_cgt 6), (gm_iload 4), (gm_aload 7), (gm_getI 6 601), (gm_iload 5), (gm_op2 gm_sub), (gm_cle 7), (gm_goto 6)],
  [(gm_push (.inl (-13))), gm_iret],
  [(gm_aload 6), (gm_getR 6 602), (gm_iload 2), (gm_aload 7), (gm_getR 6 602), (gm_iload 4), (gm_iload 5), (gm_acp 21), (gm_iload 5), gm_iret]]
def bpX8_shift : Nat → Nat := fun b => ([0, 24, 26, 42, 45, 61, 100, 103] : List Nat).getD b 0
set_option maxRecDepth 100000 in
theorem tX8_shift {D : va_G} {sz : Nat} {ad : Nat → Nat} {cA : Nat → ClassId} {xs : Int → Int} {Ln : Int} {l : Launch} : gm_SB D sz ad cA xs Ln l gm_mt cX8_shift "LongNoon" 8 false 1 bpX8_shift 0 pX8_shift :=
  ⟨gm_cn 1 (gm_m_aload _) (gm_s_aload_n dX8_shift_0 rfl) (
    gm_cn 2 (gm_m_iload _) (gm_s_iload_n dX8_shift_1 rfl) (
    gm_cn 5 (gm_m_vcall _ _ _) (gcl_X8_tapeAt gw_194 dX8_shift_2) (
    gm_cn 7 (gm_m_astore _) (gm_s_astore dX8_shift_5 (by decide)) (
    gm_cn 8 (gm_m_aload _) (gm_s_aload_n dX8_shift_7 rfl) (
    gm_cn 9 (gm_m_iload _) (gm_s_iload_n dX8_shift_8 rfl) (
    gm_cn 12 (gm_m_vcall _ _ _) (gcl_X8_tapeAt gw_194 dX8_shift_9) (
    gm_cn 14 (gm_m_astore _) (gm_s_astore dX8_shift_12 (by decide)) (
    gm_cn 16 (gm_m_aload _) (gm_s_aload dX8_shift_14) (
    gm_cn 19 (gm_m_ifnull _) (gm_s_ifnull (bpc := bpX8_shift) (b := 1) dX8_shift_16 rfl) (
    gm_cn 21 (gm_m_aload _) (gm_s_aload dX8_shift_19) (
    gm_cn 24 (gm_m_ifnonnull _) (gm_s_ifnonnull (bpc := bpX8_shift) (b := 2) dX8_shift_21 rfl) (
    gm_cn 0 (gm_m_goto _) (gm_s_fall (bpc := bpX8_shift) (b := 1) rfl 0) (
    trivial))))))))))))),
  gm_cn 25 (gm_m_push _) (gm_s_iconst dX8_shift_24) (
    gm_cn 0 gm_m_iret (gm_s_iret dX8_shift_25 rfl 0) (
    trivial)),
  gm_cn 28 (gm_m_aload _) (gm_s_aload dX8_shift_26) (
    gm_cn 31 (gm_m_vcall _ _ _) (gcl_X6_isEmpty gw_195 dX8_shift_28) (
    gm_cn 34 (gm_m_ifne _) (gm_s_ifne (bpc := bpX8_shift) (b := 3) dX8_shift_31 rfl) (
    gm_cn 36 (gm_m_aload _) (gm_s_aload dX8_shift_34) (
    gm_cn 39 (gm_m_vcall _ _ _) (gcl_X6_isEmpty gw_195 dX8_shift_36) (
    gm_cn 42 (gm_m_ifeq _) (gm_s_ifeq (bpc := bpX8_shift) (b := 4) dX8_shift_39 rfl) (
    gm_cn 0 (gm_m_goto _) (gm_s_fall (bpc := bpX8_shift) (b := 3) rfl 0) (
    trivial))))))),
  gm_cn 44 (gm_m_push _) (gm_s_bipush dX8_shift_42 rfl) (
    gm_cn 0 gm_m_iret (gm_s_iret dX8_shift_44 rfl 0) (
    trivial)),
  gm_cn 47 (gm_m_aload _) (gm_s_aload dX8_shift_45) (
    gm_cn 50 (gm_m_getI _ _) (gf_getI_6_0 gw_196 dX8_shift_47) (
    gm_cn 52 (gm_m_aload _) (gm_s_aload dX8_shift_50) (
    gm_cn 55 (gm_m_getI _ _) (gf_getI_6_0 gw_196 dX8_shift_52) (
    gm_cn 58 (gm_m_ceq _) (gm_s_ceq (bpc := bpX8_shift) (b := 5) dX8_shift_55 rfl) (
    gm_cn 60 (gm_m_push _) (gm_s_bipush dX8_shift_58 rfl) (
    gm_cn 0 gm_m_iret (gm_s_iret dX8_shift_60 rfl 0) (
    trivial))))))),
  gm_cn 63 (gm_m_iload _) (gm_s_iload dX8_shift_61) (
    gm_cn 66 (gm_m_iflt _) (gm_s_iflt (bpc := bpX8_shift) (b := 6) dX8_shift_63 rfl) (
    gm_cn 67 (gm_m_iload _) (gm_s_iload_n dX8_shift_66 rfl) (
    gm_cn 70 (gm_m_iflt _) (gm_s_iflt (bpc := bpX8_shift) (b := 6) dX8_shift_67 rfl) (
    gm_cn 72 (gm_m_iload _) (gm_s_iload dX8_shift_70) (
    gm_cn 75 (gm_m_iflt _) (gm_s_iflt (bpc := bpX8_shift) (b := 6) dX8_shift_72 rfl) (
    gm_cn 76 (gm_m_iload _) (gm_s_iload_n dX8_shift_75 rfl) (
    gm_cn 78 (gm_m_aload _) (gm_s_aload dX8_shift_76) (
    gm_cn 81 (gm_m_getI _ _) (gf_getI_6_1 gw_197 dX8_shift_78) (
    gm_cn 83 (gm_m_iload _) (gm_s_iload dX8_shift_81) (
    gm_cn 84 (gm_m_op2 _) (gm_s_isub dX8_shift_83) (
    gm_cn 87 (gm_m_cgt _) (gm_s_cgt (bpc := bpX8_shift) (b := 6) dX8_shift_84 rfl) (
    gm_cn 89 (gm_m_iload _) (gm_s_iload dX8_shift_87) (
    gm_cn 91 (gm_m_aload _) (gm_s_aload dX8_shift_89) (
    gm_cn 94 (gm_m_getI _ _) (gf_getI_6_1 gw_197 dX8_shift_91) (
    gm_cn 96 (gm_m_iload _) (gm_s_iload dX8_shift_94) (
    gm_cn 97 (gm_m_op2 _) (gm_s_isub dX8_shift_96) (
    gm_cn 100 (gm_m_cle _) (gm_s_cle (bpc := bpX8_shift) (b := 7) dX8_shift_97 rfl) (
    gm_cn 0 (gm_m_goto _) (gm_s_fall (bpc := bpX8_shift) (b := 6) rfl 0) (
    trivial))))))))))))))))))),
  gm_cn 102 (gm_m_push _) (gm_s_bipush dX8_shift_100 rfl) (
    gm_cn 0 gm_m_iret (gm_s_iret dX8_shift_102 rfl 0) (
    trivial)),
  gm_cn 105 (gm_m_aload _) (gm_s_aload dX8_shift_103) (
    gm_cn 108 (gm_m_getR _ _) (gf_getR_6_2 gw_198 dX8_shift_105) (
    gm_cn 109 (gm_m_iload _) (gm_s_iload_n dX8_shift_108 rfl) (
    gm_cn 111 (gm_m_aload _) (gm_s_aload dX8_shift_109) (
    gm_cn 114 (gm_m_getR _ _) (gf_getR_6_2 gw_198 dX8_shift_111) (
    gm_cn 116 (gm_m_iload _) (gm_s_iload dX8_shift_114) (
    gm_cn 118 (gm_m_iload _) (gm_s_iload dX8_shift_116) (
    gm_cn 121 (gm_m_acp _) (gm_s_acp21 gw_208 gw_36 gw_37 gw_38 dX8_shift_118) (
    gm_cn 123 (gm_m_iload _) (gm_s_iload dX8_shift_121) (
    gm_cn 0 gm_m_iret (gm_s_iret dX8_shift_123 rfl 0) (
    trivial)))))))))), trivial⟩
theorem dX8_within_0 : decode cX8_within 0 = .ok (.iload_n 0, 1) := by decide +kernel
theorem dX8_within_1 : decode cX8_within 1 = .ok (.ifCond .lt 12, 3) := by decide +kernel
theorem dX8_within_4 : decode cX8_within 4 = .ok (.iload_n 0, 1) := by decide +kernel
theorem dX8_within_5 : decode cX8_within 5 = .ok (.iload_n 1, 1) := by decide +kernel
theorem dX8_within_6 : decode cX8_within 6 = .ok (.if_icmp .gt 7, 3) := by decide +kernel
theorem dX8_within_9 : decode cX8_within 9 = .ok (.iconst 1, 1) := by decide +kernel
theorem dX8_within_10 : decode cX8_within 10 = .ok (.goto 4, 3) := by decide +kernel
theorem dX8_within_13 : decode cX8_within 13 = .ok (.iconst 0, 1) := by decide +kernel
theorem dX8_within_14 : decode cX8_within 14 = .ok (.ireturn, 1) := by decide +kernel
def pX8_within : List (List gm_A) := [[(gm_iload 0), (gm_iflt 1), (gm_iload 0), (gm_iload 1), (gm_cgt 1), (gm_push (.inl 1)), (gm_goto 2)],
  [(gm_push (.inl 0)), (gm_goto 2)],
  [gm_zret]]
def bpX8_within : Nat → Nat := fun b => ([0, 13, 14] : List Nat).getD b 0
set_option maxRecDepth 100000 in
theorem tX8_within {D : va_G} {sz : Nat} {ad : Nat → Nat} {cA : Nat → ClassId} {xs : Int → Int} {Ln : Int} {l : Launch} : gm_SB D sz ad cA xs Ln l gm_mt cX8_within "LongNoon" 2 false 2 bpX8_within 0 pX8_within :=
  ⟨gm_cn 1 (gm_m_iload _) (gm_s_iload_n dX8_within_0 rfl) (
    gm_cn 4 (gm_m_iflt _) (gm_s_iflt (bpc := bpX8_within) (b := 1) dX8_within_1 rfl) (
    gm_cn 5 (gm_m_iload _) (gm_s_iload_n dX8_within_4 rfl) (
    gm_cn 6 (gm_m_iload _) (gm_s_iload_n dX8_within_5 rfl) (
    gm_cn 9 (gm_m_cgt _) (gm_s_cgt (bpc := bpX8_within) (b := 1) dX8_within_6 rfl) (
    gm_cn 10 (gm_m_push _) (gm_s_iconst dX8_within_9) (
    gm_cn 0 (gm_m_goto _) (gm_s_goto (bpc := bpX8_within) (b := 2) dX8_within_10 rfl 0) (
    trivial))))))),
  gm_cn 14 (gm_m_push _) (gm_s_iconst dX8_within_13) (
    gm_cn 0 (gm_m_goto _) (gm_s_fall (bpc := bpX8_within) (b := 2) rfl 0) (
    trivial)),
  gm_cn 0 gm_m_zret (gm_s_zret dX8_within_14 rfl 0) (
    trivial), trivial⟩
theorem dX8_isLight_0 : decode cX8_isLight 0 = .ok (.iload_n 0, 1) := by decide +kernel
theorem dX8_isLight_1 : decode cX8_isLight 1 = .ok (.bipush 14, 2) := by decide +kernel
theorem dX8_isLight_3 : decode cX8_isLight 3 = .ok (.if_icmp .ge 7, 3) := by decide +kernel
theorem dX8_isLight_6 : decode cX8_isLight 6 = .ok (.iconst 1, 1) := by decide +kernel
theorem dX8_isLight_7 : decode cX8_isLight 7 = .ok (.goto 4, 3) := by decide +kernel
theorem dX8_isLight_10 : decode cX8_isLight 10 = .ok (.iconst 0, 1) := by decide +kernel
theorem dX8_isLight_11 : decode cX8_isLight 11 = .ok (.ireturn, 1) := by decide +kernel
def pX8_isLight : List (List gm_A) := [[(gm_iload 0), (gm_push (.inl 14)), (gm_cge 1), (gm_push (.inl 1)), (gm_goto 2)],
  [(gm_push (.inl 0)), (gm_goto 2)],
  [gm_zret]]
def bpX8_isLight : Nat → Nat := fun b => ([0, 10, 11] : List Nat).getD b 0
set_option maxRecDepth 100000 in
theorem tX8_isLight {D : va_G} {sz : Nat} {ad : Nat → Nat} {cA : Nat → ClassId} {xs : Int → Int} {Ln : Int} {l : Launch} : gm_SB D sz ad cA xs Ln l gm_mt cX8_isLight "LongNoon" 1 false 2 bpX8_isLight 0 pX8_isLight :=
  ⟨gm_cn 1 (gm_m_iload _) (gm_s_iload_n dX8_isLight_0 rfl) (
    gm_cn 3 (gm_m_push _) (gm_s_bipush dX8_isLight_1 rfl) (
    gm_cn 6 (gm_m_cge _) (gm_s_cge (bpc := bpX8_isLight) (b := 1) dX8_isLight_3 rfl) (
    gm_cn 7 (gm_m_push _) (gm_s_iconst dX8_isLight_6) (
    gm_cn 0 (gm_m_goto _) (gm_s_goto (bpc := bpX8_isLight) (b := 2) dX8_isLight_7 rfl 0) (
    trivial))))),
  gm_cn 11 (gm_m_push _) (gm_s_iconst dX8_isLight_10) (
    gm_cn 0 (gm_m_goto _) (gm_s_fall (bpc := bpX8_isLight) (b := 2) rfl 0) (
    trivial)),
  gm_cn 0 gm_m_zret (gm_s_zret dX8_isLight_11 rfl 0) (
    trivial), trivial⟩
theorem dX8_houseAt_0 : decode cX8_houseAt 0 = .ok (.iload_n 1, 1) := by decide +kernel
theorem dX8_houseAt_1 : decode cX8_houseAt 1 = .ok (.ifCond .lt 38, 3) := by decide +kernel
theorem dX8_houseAt_4 : decode cX8_houseAt 4 = .ok (.iload_n 1, 1) := by decide +kernel
theorem dX8_houseAt_5 : decode cX8_houseAt 5 = .ok (.aload_n 0, 1) := by decide +kernel
theorem dX8_houseAt_6 : decode cX8_houseAt 6 = .ok (.getfield 12, 3) := by decide +kernel
theorem dX8_houseAt_9 : decode cX8_houseAt 9 = .ok (.getfield 77, 3) := by decide +kernel
theorem dX8_houseAt_12 : decode cX8_houseAt 12 = .ok (.if_icmp .ge 27, 3) := by decide +kernel
theorem dX8_houseAt_15 : decode cX8_houseAt 15 = .ok (.iload_n 1, 1) := by decide +kernel
theorem dX8_houseAt_16 : decode cX8_houseAt 16 = .ok (.aload_n 0, 1) := by decide +kernel
theorem dX8_houseAt_17 : decode cX8_houseAt 17 = .ok (.getfield 12, 3) := by decide +kernel
theorem dX8_houseAt_20 : decode cX8_houseAt 20 = .ok (.getfield 81, 3) := by decide +kernel
theorem dX8_houseAt_23 : decode cX8_houseAt 23 = .ok (.arraylength, 1) := by decide +kernel
theorem dX8_houseAt_24 : decode cX8_houseAt 24 = .ok (.if_icmp .ge 15, 3) := by decide +kernel
theorem dX8_houseAt_27 : decode cX8_houseAt 27 = .ok (.aload_n 0, 1) := by decide +kernel
theorem dX8_houseAt_28 : decode cX8_houseAt 28 = .ok (.getfield 12, 3) := by decide +kernel
theorem dX8_houseAt_31 : decode cX8_houseAt 31 = .ok (.getfield 81, 3) := by decide +kernel
theorem dX8_houseAt_34 : decode cX8_houseAt 34 = .ok (.iload_n 1, 1) := by decide +kernel
theorem dX8_houseAt_35 : decode cX8_houseAt 35 = .ok (.aaload, 1) := by decide +kernel
theorem dX8_houseAt_36 : decode cX8_houseAt 36 = .ok (.goto 4, 3) := by decide +kernel
theorem dX8_houseAt_39 : decode cX8_houseAt 39 = .ok (.aconst_null, 1) := by decide +kernel
theorem dX8_houseAt_40 : decode cX8_houseAt 40 = .ok (.areturn, 1) := by decide +kernel
def pX8_houseAt : List (List gm_A) := [[(gm_iload 1), (gm_iflt 1), (gm_iload 1), (gm_aload 0), (gm_getR 8 800), (gm_getI 7 701), (gm_cge 1), (gm_iload 1), (gm_aload 0), (gm_getR 8 800), (gm_getR 7 700), gm_alen, (gm_cge 1), (gm_aload 0), (gm_getR 8 800), (gm_getR 7 700), (gm_iload 1), (gm_aald 24), (gm_goto 2)],
  [(gm_push (.inr (.inr 0))), (gm_goto 2)],
  [gm_aret]]
def bpX8_houseAt : Nat → Nat := fun b => ([0, 39, 40] : List Nat).getD b 0
set_option maxRecDepth 100000 in
theorem tX8_houseAt {D : va_G} {sz : Nat} {ad : Nat → Nat} {cA : Nat → ClassId} {xs : Int → Int} {Ln : Int} {l : Launch} : gm_SB D sz ad cA xs Ln l gm_mt cX8_houseAt "LongNoon" 2 false 5 bpX8_houseAt 0 pX8_houseAt :=
  ⟨gm_cn 1 (gm_m_iload _) (gm_s_iload_n dX8_houseAt_0 rfl) (
    gm_cn 4 (gm_m_iflt _) (gm_s_iflt (bpc := bpX8_houseAt) (b := 1) dX8_houseAt_1 rfl) (
    gm_cn 5 (gm_m_iload _) (gm_s_iload_n dX8_houseAt_4 rfl) (
    gm_cn 6 (gm_m_aload _) (gm_s_aload_n dX8_houseAt_5 rfl) (
    gm_cn 9 (gm_m_getR _ _) (gf_getR_8_0 gw_130 dX8_houseAt_6) (
    gm_cn 12 (gm_m_getI _ _) (gf_getI_7_1 gw_148 dX8_houseAt_9) (
    gm_cn 15 (gm_m_cge _) (gm_s_cge (bpc := bpX8_houseAt) (b := 1) dX8_houseAt_12 rfl) (
    gm_cn 16 (gm_m_iload _) (gm_s_iload_n dX8_houseAt_15 rfl) (
    gm_cn 17 (gm_m_aload _) (gm_s_aload_n dX8_houseAt_16 rfl) (
    gm_cn 20 (gm_m_getR _ _) (gf_getR_8_0 gw_130 dX8_houseAt_17) (
    gm_cn 23 (gm_m_getR _ _) (gf_getR_7_0 gw_149 dX8_houseAt_20) (
    gm_cn 24 gm_m_alen (gm_s_alen dX8_houseAt_23) (
    gm_cn 27 (gm_m_cge _) (gm_s_cge (bpc := bpX8_houseAt) (b := 1) dX8_houseAt_24 rfl) (
    gm_cn 28 (gm_m_aload _) (gm_s_aload_n dX8_houseAt_27 rfl) (
    gm_cn 31 (gm_m_getR _ _) (gf_getR_8_0 gw_130 dX8_houseAt_28) (
    gm_cn 34 (gm_m_getR _ _) (gf_getR_7_0 gw_149 dX8_houseAt_31) (
    gm_cn 35 (gm_m_iload _) (gm_s_iload_n dX8_houseAt_34 rfl) (
    gm_cn 36 (gm_m_aald _) (gm_s_aald (t0 := 4) (by decide) (fun _ => rfl) dX8_houseAt_35) (
    gm_cn 0 (gm_m_goto _) (gm_s_goto (bpc := bpX8_houseAt) (b := 2) dX8_houseAt_36 rfl 0) (
    trivial))))))))))))))))))),
  gm_cn 40 (gm_m_push _) (gm_s_null dX8_houseAt_39) (
    gm_cn 0 (gm_m_goto _) (gm_s_fall (bpc := bpX8_houseAt) (b := 2) rfl 0) (
    trivial)),
  gm_cn 0 gm_m_aret (gm_s_aret dX8_houseAt_40 rfl 0) (
    trivial), trivial⟩
theorem dX8_tapeAt_0 : decode cX8_tapeAt 0 = .ok (.iload_n 1, 1) := by decide +kernel
theorem dX8_tapeAt_1 : decode cX8_tapeAt 1 = .ok (.ifCond .lt 21, 3) := by decide +kernel
theorem dX8_tapeAt_4 : decode cX8_tapeAt 4 = .ok (.iload_n 1, 1) := by decide +kernel
theorem dX8_tapeAt_5 : decode cX8_tapeAt 5 = .ok (.aload_n 0, 1) := by decide +kernel
theorem dX8_tapeAt_6 : decode cX8_tapeAt 6 = .ok (.getfield 68, 3) := by decide +kernel
theorem dX8_tapeAt_9 : decode cX8_tapeAt 9 = .ok (.arraylength, 1) := by decide +kernel
theorem dX8_tapeAt_10 : decode cX8_tapeAt 10 = .ok (.if_icmp .ge 12, 3) := by decide +kernel
theorem dX8_tapeAt_13 : decode cX8_tapeAt 13 = .ok (.aload_n 0, 1) := by decide +kernel
theorem dX8_tapeAt_14 : decode cX8_tapeAt 14 = .ok (.getfield 68, 3) := by decide +kernel
theorem dX8_tapeAt_17 : decode cX8_tapeAt 17 = .ok (.iload_n 1, 1) := by decide +kernel
theorem dX8_tapeAt_18 : decode cX8_tapeAt 18 = .ok (.aaload, 1) := by decide +kernel
theorem dX8_tapeAt_19 : decode cX8_tapeAt 19 = .ok (.goto 4, 3) := by decide +kernel
theorem dX8_tapeAt_22 : decode cX8_tapeAt 22 = .ok (.aconst_null, 1) := by decide +kernel
theorem dX8_tapeAt_23 : decode cX8_tapeAt 23 = .ok (.areturn, 1) := by decide +kernel
def pX8_tapeAt : List (List gm_A) := [[(gm_iload 1), (gm_iflt 1), (gm_iload 1), (gm_aload 0), (gm_getR 8 812), gm_alen, (gm_cge 1), (gm_aload 0), (gm_getR 8 812), (gm_iload 1), (gm_aald 26), (gm_goto 2)],
  [(gm_push (.inr (.inr 0))), (gm_goto 2)],
  [gm_aret]]
def bpX8_tapeAt : Nat → Nat := fun b => ([0, 22, 23] : List Nat).getD b 0
set_option maxRecDepth 100000 in
theorem tX8_tapeAt {D : va_G} {sz : Nat} {ad : Nat → Nat} {cA : Nat → ClassId} {xs : Int → Int} {Ln : Int} {l : Launch} : gm_SB D sz ad cA xs Ln l gm_mt cX8_tapeAt "LongNoon" 2 false 5 bpX8_tapeAt 0 pX8_tapeAt :=
  ⟨gm_cn 1 (gm_m_iload _) (gm_s_iload_n dX8_tapeAt_0 rfl) (
    gm_cn 4 (gm_m_iflt _) (gm_s_iflt (bpc := bpX8_tapeAt) (b := 1) dX8_tapeAt_1 rfl) (
    gm_cn 5 (gm_m_iload _) (gm_s_iload_n dX8_tapeAt_4 rfl) (
    gm_cn 6 (gm_m_aload _) (gm_s_aload_n dX8_tapeAt_5 rfl) (
    gm_cn 9 (gm_m_getR _ _) (gf_getR_8_12 gw_146 dX8_tapeAt_6) (
    gm_cn 10 gm_m_alen (gm_s_alen dX8_tapeAt_9) (
    gm_cn 13 (gm_m_cge _) (gm_s_cge (bpc := bpX8_tapeAt) (b := 1) dX8_tapeAt_10 rfl) (
    gm_cn 14 (gm_m_aload _) (gm_s_aload_n dX8_tapeAt_13 rfl) (
    gm_cn 17 (gm_m_getR _ _) (gf_getR_8_12 gw_146 dX8_tapeAt_14) (
    gm_cn 18 (gm_m_iload _) (gm_s_iload_n dX8_tapeAt_17 rfl) (
    gm_cn 19 (gm_m_aald _) (gm_s_aald (t0 := 6) (by decide) (fun _ => rfl) dX8_tapeAt_18) (
    gm_cn 0 (gm_m_goto _) (gm_s_goto (bpc := bpX8_tapeAt) (b := 2) dX8_tapeAt_19 rfl 0) (
    trivial)))))))))))),
  gm_cn 23 (gm_m_push _) (gm_s_null dX8_tapeAt_22) (
    gm_cn 0 (gm_m_goto _) (gm_s_fall (bpc := bpX8_tapeAt) (b := 2) rfl 0) (
    trivial)),
  gm_cn 0 gm_m_aret (gm_s_aret dX8_tapeAt_23 rfl 0) (
    trivial), trivial⟩
theorem dX8_groundNow_0 : decode cX8_groundNow 0 = .ok (.aload_n 0, 1) := by decide +kernel
theorem dX8_groundNow_1 : decode cX8_groundNow 1 = .ok (.getfield 12, 3) := by decide +kernel
theorem dX8_groundNow_4 : decode cX8_groundNow 4 = .ok (.getfield 154, 3) := by decide +kernel
theorem dX8_groundNow_7 : decode cX8_groundNow 7 = .ok (.istore_n 1, 1) := by decide +kernel
theorem dX8_groundNow_8 : decode cX8_groundNow 8 = .ok (.iload_n 1, 1) := by decide +kernel
theorem dX8_groundNow_9 : decode cX8_groundNow 9 = .ok (.ifCond .lt 29, 3) := by decide +kernel
theorem dX8_groundNow_12 : decode cX8_groundNow 12 = .ok (.iload_n 1, 1) := by decide +kernel
theorem dX8_groundNow_13 : decode cX8_groundNow 13 = .ok (.aload_n 0, 1) := by decide +kernel
theorem dX8_groundNow_14 : decode cX8_groundNow 14 = .ok (.getfield 147, 3) := by decide +kernel
theorem dX8_groundNow_17 : decode cX8_groundNow 17 = .ok (.if_icmp .ge 21, 3) := by decide +kernel
theorem dX8_groundNow_20 : decode cX8_groundNow 20 = .ok (.iload_n 1, 1) := by decide +kernel
theorem dX8_groundNow_21 : decode cX8_groundNow 21 = .ok (.aload_n 0, 1) := by decide +kernel
theorem dX8_groundNow_22 : decode cX8_groundNow 22 = .ok (.getfield 55, 3) := by decide +kernel
theorem dX8_groundNow_25 : decode cX8_groundNow 25 = .ok (.arraylength, 1) := by decide +kernel
theorem dX8_groundNow_26 : decode cX8_groundNow 26 = .ok (.if_icmp .ge 12, 3) := by decide +kernel
theorem dX8_groundNow_29 : decode cX8_groundNow 29 = .ok (.aload_n 0, 1) := by decide +kernel
theorem dX8_groundNow_30 : decode cX8_groundNow 30 = .ok (.getfield 55, 3) := by decide +kernel
theorem dX8_groundNow_33 : decode cX8_groundNow 33 = .ok (.iload_n 1, 1) := by decide +kernel
theorem dX8_groundNow_34 : decode cX8_groundNow 34 = .ok (.aaload, 1) := by decide +kernel
theorem dX8_groundNow_35 : decode cX8_groundNow 35 = .ok (.goto 7, 3) := by decide +kernel
theorem dX8_groundNow_38 : decode cX8_groundNow 38 = .ok (.aload_n 0, 1) := by decide +kernel
theorem dX8_groundNow_39 : decode cX8_groundNow 39 = .ok (.getfield 51, 3) := by decide +kernel
theorem dX8_groundNow_42 : decode cX8_groundNow 42 = .ok (.areturn, 1) := by decide +kernel
def pX8_groundNow : List (List gm_A) := [[(gm_aload 0), (gm_getR 8 800), (gm_getI 7 703), (gm_istore 1), (gm_iload 1), (gm_iflt 1), (gm_iload 1), (gm_aload 0), (gm_getI 8 810), (gm_cge 1), (gm_iload 1), (gm_aload 0), (gm_getR 8 809), gm_alen, (gm_cge 1), (gm_aload 0), (gm_getR 8 809), (gm_iload 1), (gm_aald 25), (gm_goto 2)],
  [(gm_aload 0), (gm_getR 8 808), (gm_goto 2)],
  [gm_aret]]
def bpX8_groundNow : Nat → Nat := fun b => ([0, 38, 42] : List Nat).getD b 0
set_option maxRecDepth 100000 in
theorem tX8_groundNow {D : va_G} {sz : Nat} {ad : Nat → Nat} {cA : Nat → ClassId} {xs : Int → Int} {Ln : Int} {l : Launch} : gm_SB D sz ad cA xs Ln l gm_mt cX8_groundNow "LongNoon" 2 false 5 bpX8_groundNow 0 pX8_groundNow :=
  ⟨gm_cn 1 (gm_m_aload _) (gm_s_aload_n dX8_groundNow_0 rfl) (
    gm_cn 4 (gm_m_getR _ _) (gf_getR_8_0 gw_130 dX8_groundNow_1) (
    gm_cn 7 (gm_m_getI _ _) (gf_getI_7_3 gw_170 dX8_groundNow_4) (
    gm_cn 8 (gm_m_istore _) (gm_s_istore_n dX8_groundNow_7 rfl (by decide)) (
    gm_cn 9 (gm_m_iload _) (gm_s_iload_n dX8_groundNow_8 rfl) (
    gm_cn 12 (gm_m_iflt _) (gm_s_iflt (bpc := bpX8_groundNow) (b := 1) dX8_groundNow_9 rfl) (
    gm_cn 13 (gm_m_iload _) (gm_s_iload_n dX8_groundNow_12 rfl) (
    gm_cn 14 (gm_m_aload _) (gm_s_aload_n dX8_groundNow_13 rfl) (
    gm_cn 17 (gm_m_getI _ _) (gf_getI_8_10 gw_168 dX8_groundNow_14) (
    gm_cn 20 (gm_m_cge _) (gm_s_cge (bpc := bpX8_groundNow) (b := 1) dX8_groundNow_17 rfl) (
    gm_cn 21 (gm_m_iload _) (gm_s_iload_n dX8_groundNow_20 rfl) (
    gm_cn 22 (gm_m_aload _) (gm_s_aload_n dX8_groundNow_21 rfl) (
    gm_cn 25 (gm_m_getR _ _) (gf_getR_8_9 gw_142 dX8_groundNow_22) (
    gm_cn 26 gm_m_alen (gm_s_alen dX8_groundNow_25) (
    gm_cn 29 (gm_m_cge _) (gm_s_cge (bpc := bpX8_groundNow) (b := 1) dX8_groundNow_26 rfl) (
    gm_cn 30 (gm_m_aload _) (gm_s_aload_n dX8_groundNow_29 rfl) (
    gm_cn 33 (gm_m_getR _ _) (gf_getR_8_9 gw_142 dX8_groundNow_30) (
    gm_cn 34 (gm_m_iload _) (gm_s_iload_n dX8_groundNow_33 rfl) (
    gm_cn 35 (gm_m_aald _) (gm_s_aald (t0 := 5) (by decide) (fun _ => rfl) dX8_groundNow_34) (
    gm_cn 0 (gm_m_goto _) (gm_s_goto (bpc := bpX8_groundNow) (b := 2) dX8_groundNow_35 rfl 0) (
    trivial)))))))))))))))))))),
  gm_cn 39 (gm_m_aload _) (gm_s_aload_n dX8_groundNow_38 rfl) (
    gm_cn 42 (gm_m_getR _ _) (gf_getR_8_8 gw_141 dX8_groundNow_39) (
    gm_cn 0 (gm_m_goto _) (gm_s_fall (bpc := bpX8_groundNow) (b := 2) rfl 0) (
    trivial))),
  gm_cn 0 gm_m_aret (gm_s_aret dX8_groundNow_42 rfl 0) (
    trivial), trivial⟩
theorem dX8_amissOfBoth_0 : decode cX8_amissOfBoth 0 = .ok (.aload_n 0, 1) := by decide +kernel
theorem dX8_amissOfBoth_1 : decode cX8_amissOfBoth 1 = .ok (.invokevirtual 93, 3) := by decide +kernel
theorem dX8_amissOfBoth_4 : decode cX8_amissOfBoth 4 = .ok (.astore 4, 2) := by decide +kernel
theorem dX8_amissOfBoth_6 : decode cX8_amissOfBoth 6 = .ok (.aload_n 0, 1) := by decide +kernel
theorem dX8_amissOfBoth_7 : decode cX8_amissOfBoth 7 = .ok (.getfield 27, 3) := by decide +kernel
theorem dX8_amissOfBoth_10 : decode cX8_amissOfBoth 10 = .ok (.aload_n 1, 1) := by decide +kernel
theorem dX8_amissOfBoth_11 : decode cX8_amissOfBoth 11 = .ok (.invokevirtual 174, 3) := by decide +kernel
theorem dX8_amissOfBoth_14 : decode cX8_amissOfBoth 14 = .ok (.aload_n 0, 1) := by decide +kernel
theorem dX8_amissOfBoth_15 : decode cX8_amissOfBoth 15 = .ok (.getfield 27, 3) := by decide +kernel
theorem dX8_amissOfBoth_18 : decode cX8_amissOfBoth 18 = .ok (.getfield 101, 3) := by decide +kernel
theorem dX8_amissOfBoth_21 : decode cX8_amissOfBoth 21 = .ok (.dup, 1) := by decide +kernel
theorem dX8_amissOfBoth_22 : decode cX8_amissOfBoth 22 = .ok (.getfield 104, 3) := by decide +kernel
theorem dX8_amissOfBoth_25 : decode cX8_amissOfBoth 25 = .ok (.iload_n 3, 1) := by decide +kernel
theorem dX8_amissOfBoth_26 : decode cX8_amissOfBoth 26 = .ok (.isub, 1) := by decide +kernel
theorem dX8_amissOfBoth_27 : decode cX8_amissOfBoth 27 = .ok (.putfield 104, 3) := by decide +kernel
theorem dX8_amissOfBoth_30 : decode cX8_amissOfBoth 30 = .ok (.aload_n 0, 1) := by decide +kernel
theorem dX8_amissOfBoth_31 : decode cX8_amissOfBoth 31 = .ok (.getfield 31, 3) := by decide +kernel
theorem dX8_amissOfBoth_34 : decode cX8_amissOfBoth 34 = .ok (.aload_n 2, 1) := by decide +kernel
theorem dX8_amissOfBoth_35 : decode cX8_amissOfBoth 35 = .ok (.invokevirtual 174, 3) := by decide +kernel
theorem dX8_amissOfBoth_38 : decode cX8_amissOfBoth 38 = .ok (.aload_n 0, 1) := by decide +kernel
theorem dX8_amissOfBoth_39 : decode cX8_amissOfBoth 39 = .ok (.getfield 31, 3) := by decide +kernel
theorem dX8_amissOfBoth_42 : decode cX8_amissOfBoth 42 = .ok (.getfield 101, 3) := by decide +kernel
theorem dX8_amissOfBoth_45 : decode cX8_amissOfBoth 45 = .ok (.dup, 1) := by decide +kernel
theorem dX8_amissOfBoth_46 : decode cX8_amissOfBoth 46 = .ok (.getfield 104, 3) := by decide +kernel
theorem dX8_amissOfBoth_49 : decode cX8_amissOfBoth 49 = .ok (.iload_n 3, 1) := by decide +kernel
theorem dX8_amissOfBoth_50 : decode cX8_amissOfBoth 50 = .ok (.iadd, 1) := by decide +kernel
theorem dX8_amissOfBoth_51 : decode cX8_amissOfBoth 51 = .ok (.putfield 104, 3) := by decide +kernel
theorem dX8_amissOfBoth_54 : decode cX8_amissOfBoth 54 = .ok (.aload_n 0, 1) := by decide +kernel
theorem dX8_amissOfBoth_55 : decode cX8_amissOfBoth 55 = .ok (.getfield 27, 3) := by decide +kernel
theorem dX8_amissOfBoth_58 : decode cX8_amissOfBoth 58 = .ok (.aload 4, 2) := by decide +kernel
theorem dX8_amissOfBoth_60 : decode cX8_amissOfBoth 60 = .ok (.aload_n 0, 1) := by decide +kernel
theorem dX8_amissOfBoth_61 : decode cX8_amissOfBoth 61 = .ok (.getfield 12, 3) := by decide +kernel
theorem dX8_amissOfBoth_64 : decode cX8_amissOfBoth 64 = .ok (.getfield 157, 3) := by decide +kernel
theorem dX8_amissOfBoth_67 : decode cX8_amissOfBoth 67 = .ok (.bipush 56, 2) := by decide +kernel
theorem dX8_amissOfBoth_69 : decode cX8_amissOfBoth 69 = .ok (.iconst 0, 1) := by decide +kernel
theorem dX8_amissOfBoth_70 : decode cX8_amissOfBoth 70 = .ok (.invokevirtual 178, 3) := by decide +kernel
theorem dX8_amissOfBoth_73 : decode cX8_amissOfBoth 73 = .ok (.aload_n 0, 1) := by decide +kernel
theorem dX8_amissOfBoth_74 : decode cX8_amissOfBoth 74 = .ok (.getfield 31, 3) := by decide +kernel
theorem dX8_amissOfBoth_77 : decode cX8_amissOfBoth 77 = .ok (.aload 4, 2) := by decide +kernel
theorem dX8_amissOfBoth_79 : decode cX8_amissOfBoth 79 = .ok (.aload_n 0, 1) := by decide +kernel
theorem dX8_amissOfBoth_80 : decode cX8_amissOfBoth 80 = .ok (.getfield 12, 3) := by decide +kernel
theorem dX8_amissOfBoth_83 : decode cX8_amissOfBoth 83 = .ok (.getfield 157, 3) := by decide +kernel
theorem dX8_amissOfBoth_86 : decode cX8_amissOfBoth 86 = .ok (.bipush 56, 2) := by decide +kernel
theorem dX8_amissOfBoth_88 : decode cX8_amissOfBoth 88 = .ok (.iconst 0, 1) := by decide +kernel
theorem dX8_amissOfBoth_89 : decode cX8_amissOfBoth 89 = .ok (.invokevirtual 178, 3) := by decide +kernel
theorem dX8_amissOfBoth_92 : decode cX8_amissOfBoth 92 = .ok (.iadd, 1) := by decide +kernel
theorem dX8_amissOfBoth_93 : decode cX8_amissOfBoth 93 = .ok (.ireturn, 1) := by decide +kernel
def pX8_amissOfBoth : List (List gm_A) := [[(gm_aload 0), (gm_vcall 8 94 1), (gm_astore 4), (gm_aload 0), (gm_getR 8 804), (gm_aload 1), (gm_vcall 2 13 2), (gm_aload 0), (gm_getR 8 804), (gm_getR 2 205), gm_dup, (gm_getI 5 500), (gm_iload 3), (gm_op2 gm_sub), (gm_putI 5 500), (gm_aload 0), (gm_getR 8 805), (gm_aload 2), (gm_vcall 2 13 2), (gm_aload 0), (gm_getR 8 805), (gm_getR 2 205), gm_dup, (gm_getI 5 500), (gm_iload 3), (gm_op2 gm_add), (gm_putI 5 500), (gm_aload 0), (gm_getR 8 804), (gm_aload 4), (gm_aload 0), (gm_getR 8 800), (gm_getI 7 702), (gm_push (.inl 56)), (gm_push (.inl 0)), (gm_vcall 2 19 5), (gm_aload 0), (gm_getR 8 805), (gm_aload 4), (gm_aload 0), (gm_getR 8 800), (gm_getI 7 702), (gm_push (.inl 56)), (gm_push (.inl 0)), (gm_vcall 2 19 5), (gm_op2 gm_add), gm_iret]]
def bpX8_amissOfBoth : Nat → Nat := fun b => ([0] : List Nat).getD b 0
set_option maxRecDepth 100000 in
theorem tX8_amissOfBoth {D : va_G} {sz : Nat} {ad : Nat → Nat} {cA : Nat → ClassId} {xs : Int → Int} {Ln : Int} {l : Launch} : gm_SB D sz ad cA xs Ln l gm_mt cX8_amissOfBoth "LongNoon" 5 false 1 bpX8_amissOfBoth 0 pX8_amissOfBoth :=
  ⟨gm_cn 1 (gm_m_aload _) (gm_s_aload_n dX8_amissOfBoth_0 rfl) (
    gm_cn 4 (gm_m_vcall _ _ _) (gcl_X8_groundNow gw_152 dX8_amissOfBoth_1) (
    gm_cn 6 (gm_m_astore _) (gm_s_astore dX8_amissOfBoth_4 (by decide)) (
    gm_cn 7 (gm_m_aload _) (gm_s_aload_n dX8_amissOfBoth_6 rfl) (
    gm_cn 10 (gm_m_getR _ _) (gf_getR_8_4 gw_134 dX8_amissOfBoth_7) (
    gm_cn 11 (gm_m_aload _) (gm_s_aload_n dX8_amissOfBoth_10 rfl) (
    gm_cn 14 (gm_m_vcall _ _ _) (gcl_X2_become gw_176 dX8_amissOfBoth_11) (
    gm_cn 15 (gm_m_aload _) (gm_s_aload_n dX8_amissOfBoth_14 rfl) (
    gm_cn 18 (gm_m_getR _ _) (gf_getR_8_4 gw_134 dX8_amissOfBoth_15) (
    gm_cn 21 (gm_m_getR _ _) (gf_getR_2_5 gw_154 dX8_amissOfBoth_18) (
    gm_cn 22 gm_m_dup (gm_s_dup dX8_amissOfBoth_21) (
    gm_cn 25 (gm_m_getI _ _) (gf_getI_5_0 gw_155 dX8_amissOfBoth_22) (
    gm_cn 26 (gm_m_iload _) (gm_s_iload_n dX8_amissOfBoth_25 rfl) (
    gm_cn 27 (gm_m_op2 _) (gm_s_isub dX8_amissOfBoth_26) (
    gm_cn 30 (gm_m_putI _ _) (gf_putI_5_0 gw_155 dX8_amissOfBoth_27) (
    gm_cn 31 (gm_m_aload _) (gm_s_aload_n dX8_amissOfBoth_30 rfl) (
    gm_cn 34 (gm_m_getR _ _) (gf_getR_8_5 gw_135 dX8_amissOfBoth_31) (
    gm_cn 35 (gm_m_aload _) (gm_s_aload_n dX8_amissOfBoth_34 rfl) (
    gm_cn 38 (gm_m_vcall _ _ _) (gcl_X2_become gw_176 dX8_amissOfBoth_35) (
    gm_cn 39 (gm_m_aload _) (gm_s_aload_n dX8_amissOfBoth_38 rfl) (
    gm_cn 42 (gm_m_getR _ _) (gf_getR_8_5 gw_135 dX8_amissOfBoth_39) (
    gm_cn 45 (gm_m_getR _ _) (gf_getR_2_5 gw_154 dX8_amissOfBoth_42) (
    gm_cn 46 gm_m_dup (gm_s_dup dX8_amissOfBoth_45) (
    gm_cn 49 (gm_m_getI _ _) (gf_getI_5_0 gw_155 dX8_amissOfBoth_46) (
    gm_cn 50 (gm_m_iload _) (gm_s_iload_n dX8_amissOfBoth_49 rfl) (
    gm_cn 51 (gm_m_op2 _) (gm_s_iadd dX8_amissOfBoth_50) (
    gm_cn 54 (gm_m_putI _ _) (gf_putI_5_0 gw_155 dX8_amissOfBoth_51) (
    gm_cn 55 (gm_m_aload _) (gm_s_aload_n dX8_amissOfBoth_54 rfl) (
    gm_cn 58 (gm_m_getR _ _) (gf_getR_8_4 gw_134 dX8_amissOfBoth_55) (
    gm_cn 60 (gm_m_aload _) (gm_s_aload dX8_amissOfBoth_58) (
    gm_cn 61 (gm_m_aload _) (gm_s_aload_n dX8_amissOfBoth_60 rfl) (
    gm_cn 64 (gm_m_getR _ _) (gf_getR_8_0 gw_130 dX8_amissOfBoth_61) (
    gm_cn 67 (gm_m_getI _ _) (gf_getI_7_2 gw_171 dX8_amissOfBoth_64) (
    gm_cn 69 (gm_m_push _) (gm_s_bipush dX8_amissOfBoth_67 rfl) (
    gm_cn 70 (gm_m_push _) (gm_s_iconst dX8_amissOfBoth_69) (
    gm_cn 73 (gm_m_vcall _ _ _) (gcl_X2_amissDays gw_177 dX8_amissOfBoth_70) (
    gm_cn 74 (gm_m_aload _) (gm_s_aload_n dX8_amissOfBoth_73 rfl) (
    gm_cn 77 (gm_m_getR _ _) (gf_getR_8_5 gw_135 dX8_amissOfBoth_74) (
    gm_cn 79 (gm_m_aload _) (gm_s_aload dX8_amissOfBoth_77) (
    gm_cn 80 (gm_m_aload _) (gm_s_aload_n dX8_amissOfBoth_79 rfl) (
    gm_cn 83 (gm_m_getR _ _) (gf_getR_8_0 gw_130 dX8_amissOfBoth_80) (
    gm_cn 86 (gm_m_getI _ _) (gf_getI_7_2 gw_171 dX8_amissOfBoth_83) (
    gm_cn 88 (gm_m_push _) (gm_s_bipush dX8_amissOfBoth_86 rfl) (
    gm_cn 89 (gm_m_push _) (gm_s_iconst dX8_amissOfBoth_88) (
    gm_cn 92 (gm_m_vcall _ _ _) (gcl_X2_amissDays gw_177 dX8_amissOfBoth_89) (
    gm_cn 93 (gm_m_op2 _) (gm_s_iadd dX8_amissOfBoth_92) (
    gm_cn 0 gm_m_iret (gm_s_iret dX8_amissOfBoth_93 rfl 0) (
    trivial))))))))))))))))))))))))))))))))))))))))))))))), trivial⟩
theorem dX8_isAsSeen_0 : decode cX8_isAsSeen 0 = .ok (.aload_n 0, 1) := by decide +kernel
theorem dX8_isAsSeen_1 : decode cX8_isAsSeen 1 = .ok (.invokevirtual 93, 3) := by decide +kernel
theorem dX8_isAsSeen_4 : decode cX8_isAsSeen 4 = .ok (.astore_n 2, 1) := by decide +kernel
theorem dX8_isAsSeen_5 : decode cX8_isAsSeen 5 = .ok (.aload_n 0, 1) := by decide +kernel
theorem dX8_isAsSeen_6 : decode cX8_isAsSeen 6 = .ok (.getfield 12, 3) := by decide +kernel
theorem dX8_isAsSeen_9 : decode cX8_isAsSeen 9 = .ok (.aload_n 1, 1) := by decide +kernel
theorem dX8_isAsSeen_10 : decode cX8_isAsSeen 10 = .ok (.getfield 289, 3) := by decide +kernel
theorem dX8_isAsSeen_13 : decode cX8_isAsSeen 13 = .ok (.invokevirtual 292, 3) := by decide +kernel
theorem dX8_isAsSeen_16 : decode cX8_isAsSeen 16 = .ok (.istore_n 3, 1) := by decide +kernel
theorem dX8_isAsSeen_17 : decode cX8_isAsSeen 17 = .ok (.iconst 0, 1) := by decide +kernel
theorem dX8_isAsSeen_18 : decode cX8_isAsSeen 18 = .ok (.istore 4, 2) := by decide +kernel
theorem dX8_isAsSeen_20 : decode cX8_isAsSeen 20 = .ok (.iload 4, 2) := by decide +kernel
theorem dX8_isAsSeen_22 : decode cX8_isAsSeen 22 = .ok (.iload_n 3, 1) := by decide +kernel
theorem dX8_isAsSeen_23 : decode cX8_isAsSeen 23 = .ok (.if_icmp .gt 58, 3) := by decide +kernel
theorem dX8_isAsSeen_26 : decode cX8_isAsSeen 26 = .ok (.iload 4, 2) := by decide +kernel
theorem dX8_isAsSeen_28 : decode cX8_isAsSeen 28 = .ok (.ifCond .le 22, 3) := by decide +kernel
theorem dX8_isAsSeen_31 : decode cX8_isAsSeen 31 = .ok (.aload_n 1, 1) := by decide +kernel
theorem dX8_isAsSeen_32 : decode cX8_isAsSeen 32 = .ok (.aload_n 2, 1) := by decide +kernel
theorem dX8_isAsSeen_33 : decode cX8_isAsSeen 33 = .ok (.aload_n 0, 1) := by decide +kernel
theorem dX8_isAsSeen_34 : decode cX8_isAsSeen 34 = .ok (.getfield 12, 3) := by decide +kernel
theorem dX8_isAsSeen_37 : decode cX8_isAsSeen 37 = .ok (.getfield 157, 3) := by decide +kernel
theorem dX8_isAsSeen_40 : decode cX8_isAsSeen 40 = .ok (.iload 4, 2) := by decide +kernel
theorem dX8_isAsSeen_42 : decode cX8_isAsSeen 42 = .ok (.iadd, 1) := by decide +kernel
theorem dX8_isAsSeen_43 : decode cX8_isAsSeen 43 = .ok (.iconst 1, 1) := by decide +kernel
theorem dX8_isAsSeen_44 : decode cX8_isAsSeen 44 = .ok (.isub, 1) := by decide +kernel
theorem dX8_isAsSeen_45 : decode cX8_isAsSeen 45 = .ok (.iconst 0, 1) := by decide +kernel
theorem dX8_isAsSeen_46 : decode cX8_isAsSeen 46 = .ok (.invokevirtual 170, 3) := by decide +kernel
theorem dX8_isAsSeen_49 : decode cX8_isAsSeen 49 = .ok (.pop, 1) := by decide +kernel
theorem dX8_isAsSeen_50 : decode cX8_isAsSeen 50 = .ok (.aload_n 0, 1) := by decide +kernel
theorem dX8_isAsSeen_51 : decode cX8_isAsSeen 51 = .ok (.getfield 12, 3) := by decide +kernel
theorem dX8_isAsSeen_54 : decode cX8_isAsSeen 54 = .ok (.aload_n 1, 1) := by decide +kernel
theorem dX8_isAsSeen_55 : decode cX8_isAsSeen 55 = .ok (.getfield 289, 3) := by decide +kernel
theorem dX8_isAsSeen_58 : decode cX8_isAsSeen 58 = .ok (.iload 4, 2) := by decide +kernel
theorem dX8_isAsSeen_60 : decode cX8_isAsSeen 60 = .ok (.aload_n 1, 1) := by decide +kernel
theorem dX8_isAsSeen_61 : decode cX8_isAsSeen 61 = .ok (.getfield 101, 3) := by decide +kernel
theorem dX8_isAsSeen_64 : decode cX8_isAsSeen 64 = .ok (.getfield 104, 3) := by decide +kernel
theorem dX8_isAsSeen_67 : decode cX8_isAsSeen 67 = .ok (.invokevirtual 296, 3) := by decide +kernel
theorem dX8_isAsSeen_70 : decode cX8_isAsSeen 70 = .ok (.ifCond .ne 5, 3) := by decide +kernel
theorem dX8_isAsSeen_73 : decode cX8_isAsSeen 73 = .ok (.iconst 0, 1) := by decide +kernel
theorem dX8_isAsSeen_74 : decode cX8_isAsSeen 74 = .ok (.ireturn, 1) := by decide +kernel
theorem dX8_isAsSeen_75 : decode cX8_isAsSeen 75 = .ok (.iinc 4 1, 3) := by decide +kernel
theorem dX8_isAsSeen_78 : decode cX8_isAsSeen 78 = .ok (.goto (-58), 3) := by decide +kernel
theorem dX8_isAsSeen_81 : decode cX8_isAsSeen 81 = .ok (.iconst 1, 1) := by decide +kernel
theorem dX8_isAsSeen_82 : decode cX8_isAsSeen 82 = .ok (.ireturn, 1) := by decide +kernel
def pX8_isAsSeen : List (List gm_A) := [[(gm_aload 0), (gm_vcall 8 94 1), (gm_astore 2), (gm_aload 0), (gm_getR 8 800), (gm_aload 1), (gm_getI 2 200), (gm_vcall 7 51 2), (gm_istore 3), (gm_push (.inl 0)), (gm_istore 4), (gm_goto 1)],
  [(gm_iload 4), (gm_iload 3), (gm_cgt 4), (gm_iload 4), (gm_ifle 2), (gm_aload 1), (gm_aload 2), (gm_aload 0), (gm_getR 8 800), (gm_getI 7 702), (gm_iload 4), (gm_op2 gm_add), (gm_push (.inl 1)), (gm_op2 gm_sub), (gm_push (.inl 0)), (gm_vcall 2 17 4), gm_pop1, (gm_goto 2)],
  [(gm_aload 0), (gm_getR 8 800), (gm_aload 1), (gm_getI 2 200), (gm_iload 4), (gm_aload 1), (gm_getR 2 205), (gm_getI 5 500), (gm_vcall 7 52 4), (gm_ifne 3), (gm_push (.inl 0)), gm_zret],
  [(gm_iinc 4 1), (gm_goto 1)],
  [(gm_push (.inl 1)), gm_zret]]
def bpX8_isAsSeen : Nat → Nat := fun b => ([0, 20, 50, 75, 81] : List Nat).getD b 0
set_option maxRecDepth 100000 in
theorem tX8_isAsSeen {D : va_G} {sz : Nat} {ad : Nat → Nat} {cA : Nat → ClassId} {xs : Int → Int} {Ln : Int} {l : Launch} : gm_SB D sz ad cA xs Ln l gm_mt cX8_isAsSeen "LongNoon" 5 false 2 bpX8_isAsSeen 0 pX8_isAsSeen :=
  ⟨gm_cn 1 (gm_m_aload _) (gm_s_aload_n dX8_isAsSeen_0 rfl) (
    gm_cn 4 (gm_m_vcall _ _ _) (gcl_X8_groundNow gw_152 dX8_isAsSeen_1) (
    gm_cn 5 (gm_m_astore _) (gm_s_astore_n dX8_isAsSeen_4 rfl (by decide)) (
    gm_cn 6 (gm_m_aload _) (gm_s_aload_n dX8_isAsSeen_5 rfl) (
    gm_cn 9 (gm_m_getR _ _) (gf_getR_8_0 gw_130 dX8_isAsSeen_6) (
    gm_cn 10 (gm_m_aload _) (gm_s_aload_n dX8_isAsSeen_9 rfl) (
    gm_cn 13 (gm_m_getI _ _) (gf_getI_2_0 gw_209 dX8_isAsSeen_10) (
    gm_cn 16 (gm_m_vcall _ _ _) (gcl_X7_lastSeenDay gw_210 dX8_isAsSeen_13) (
    gm_cn 17 (gm_m_istore _) (gm_s_istore_n dX8_isAsSeen_16 rfl (by decide)) (
    gm_cn 18 (gm_m_push _) (gm_s_iconst dX8_isAsSeen_17) (
    gm_cn 20 (gm_m_istore _) (gm_s_istore dX8_isAsSeen_18 (by decide)) (
    gm_cn 0 (gm_m_goto _) (gm_s_fall (bpc := bpX8_isAsSeen) (b := 1) rfl 0) (
    trivial)))))))))))),
  gm_cn 22 (gm_m_iload _) (gm_s_iload dX8_isAsSeen_20) (
    gm_cn 23 (gm_m_iload _) (gm_s_iload_n dX8_isAsSeen_22 rfl) (
    gm_cn 26 (gm_m_cgt _) (gm_s_cgt (bpc := bpX8_isAsSeen) (b := 4) dX8_isAsSeen_23 rfl) (
    gm_cn 28 (gm_m_iload _) (gm_s_iload dX8_isAsSeen_26) (
    gm_cn 31 (gm_m_ifle _) (gm_s_ifle (bpc := bpX8_isAsSeen) (b := 2) dX8_isAsSeen_28 rfl) (
    gm_cn 32 (gm_m_aload _) (gm_s_aload_n dX8_isAsSeen_31 rfl) (
    gm_cn 33 (gm_m_aload _) (gm_s_aload_n dX8_isAsSeen_32 rfl) (
    gm_cn 34 (gm_m_aload _) (gm_s_aload_n dX8_isAsSeen_33 rfl) (
    gm_cn 37 (gm_m_getR _ _) (gf_getR_8_0 gw_130 dX8_isAsSeen_34) (
    gm_cn 40 (gm_m_getI _ _) (gf_getI_7_2 gw_171 dX8_isAsSeen_37) (
    gm_cn 42 (gm_m_iload _) (gm_s_iload dX8_isAsSeen_40) (
    gm_cn 43 (gm_m_op2 _) (gm_s_iadd dX8_isAsSeen_42) (
    gm_cn 44 (gm_m_push _) (gm_s_iconst dX8_isAsSeen_43) (
    gm_cn 45 (gm_m_op2 _) (gm_s_isub dX8_isAsSeen_44) (
    gm_cn 46 (gm_m_push _) (gm_s_iconst dX8_isAsSeen_45) (
    gm_cn 49 (gm_m_vcall _ _ _) (gcl_X2_pass gw_175 dX8_isAsSeen_46) (
    gm_cn 50 gm_m_pop1 (gm_s_pop dX8_isAsSeen_49) (
    gm_cn 0 (gm_m_goto _) (gm_s_fall (bpc := bpX8_isAsSeen) (b := 2) rfl 0) (
    trivial)))))))))))))))))),
  gm_cn 51 (gm_m_aload _) (gm_s_aload_n dX8_isAsSeen_50 rfl) (
    gm_cn 54 (gm_m_getR _ _) (gf_getR_8_0 gw_130 dX8_isAsSeen_51) (
    gm_cn 55 (gm_m_aload _) (gm_s_aload_n dX8_isAsSeen_54 rfl) (
    gm_cn 58 (gm_m_getI _ _) (gf_getI_2_0 gw_209 dX8_isAsSeen_55) (
    gm_cn 60 (gm_m_iload _) (gm_s_iload dX8_isAsSeen_58) (
    gm_cn 61 (gm_m_aload _) (gm_s_aload_n dX8_isAsSeen_60 rfl) (
    gm_cn 64 (gm_m_getR _ _) (gf_getR_2_5 gw_154 dX8_isAsSeen_61) (
    gm_cn 67 (gm_m_getI _ _) (gf_getI_5_0 gw_155 dX8_isAsSeen_64) (
    gm_cn 70 (gm_m_vcall _ _ _) (gcl_X7_wasSeenSo gw_211 dX8_isAsSeen_67) (
    gm_cn 73 (gm_m_ifne _) (gm_s_ifne (bpc := bpX8_isAsSeen) (b := 3) dX8_isAsSeen_70 rfl) (
    gm_cn 74 (gm_m_push _) (gm_s_iconst dX8_isAsSeen_73) (
    gm_cn 0 gm_m_zret (gm_s_zret dX8_isAsSeen_74 rfl 0) (
    trivial)))))))))))),
  gm_cn 78 (gm_m_iinc _ _) (gm_s_iinc dX8_isAsSeen_75 (by decide)) (
    gm_cn 0 (gm_m_goto _) (gm_s_goto (bpc := bpX8_isAsSeen) (b := 1) dX8_isAsSeen_78 rfl 0) (
    trivial)),
  gm_cn 82 (gm_m_push _) (gm_s_iconst dX8_isAsSeen_81) (
    gm_cn 0 gm_m_zret (gm_s_zret dX8_isAsSeen_82 rfl 0) (
    trivial)), trivial⟩
theorem dX8_isUnder_0 : decode cX8_isUnder 0 = .ok (.iload_n 0, 1) := by decide +kernel
theorem dX8_isUnder_1 : decode cX8_isUnder 1 = .ok (.istore_n 2, 1) := by decide +kernel
theorem dX8_isUnder_2 : decode cX8_isUnder 2 = .ok (.iconst 0, 1) := by decide +kernel
theorem dX8_isUnder_3 : decode cX8_isUnder 3 = .ok (.istore_n 3, 1) := by decide +kernel
theorem dX8_isUnder_4 : decode cX8_isUnder 4 = .ok (.iload_n 3, 1) := by decide +kernel
theorem dX8_isUnder_5 : decode cX8_isUnder 5 = .ok (.getstatic 300, 3) := by decide +kernel
theorem dX8_isUnder_8 : decode cX8_isUnder 8 = .ok (.arraylength, 1) := by decide +kernel
theorem dX8_isUnder_9 : decode cX8_isUnder 9 = .ok (.if_icmp .ge 34, 3) := by decide +kernel
theorem dX8_isUnder_12 : decode cX8_isUnder 12 = .ok (.iload_n 2, 1) := by decide +kernel
theorem dX8_isUnder_13 : decode cX8_isUnder 13 = .ok (.ifCond .lt 30, 3) := by decide +kernel
theorem dX8_isUnder_16 : decode cX8_isUnder 16 = .ok (.iload_n 2, 1) := by decide +kernel
theorem dX8_isUnder_17 : decode cX8_isUnder 17 = .ok (.getstatic 300, 3) := by decide +kernel
theorem dX8_isUnder_20 : decode cX8_isUnder 20 = .ok (.arraylength, 1) := by decide +kernel
theorem dX8_isUnder_21 : decode cX8_isUnder 21 = .ok (.if_icmp .ge 22, 3) := by decide +kernel
theorem dX8_isUnder_24 : decode cX8_isUnder 24 = .ok (.iload_n 2, 1) := by decide +kernel
theorem dX8_isUnder_25 : decode cX8_isUnder 25 = .ok (.iload_n 1, 1) := by decide +kernel
theorem dX8_isUnder_26 : decode cX8_isUnder 26 = .ok (.if_icmp .ne 5, 3) := by decide +kernel
theorem dX8_isUnder_29 : decode cX8_isUnder 29 = .ok (.iconst 1, 1) := by decide +kernel
theorem dX8_isUnder_30 : decode cX8_isUnder 30 = .ok (.ireturn, 1) := by decide +kernel
theorem dX8_isUnder_31 : decode cX8_isUnder 31 = .ok (.getstatic 300, 3) := by decide +kernel
theorem dX8_isUnder_34 : decode cX8_isUnder 34 = .ok (.iload_n 2, 1) := by decide +kernel
theorem dX8_isUnder_35 : decode cX8_isUnder 35 = .ok (.iaload, 1) := by decide +kernel
theorem dX8_isUnder_36 : decode cX8_isUnder 36 = .ok (.istore_n 2, 1) := by decide +kernel
theorem dX8_isUnder_37 : decode cX8_isUnder 37 = .ok (.iinc 3 1, 3) := by decide +kernel
theorem dX8_isUnder_40 : decode cX8_isUnder 40 = .ok (.goto (-36), 3) := by decide +kernel
theorem dX8_isUnder_43 : decode cX8_isUnder 43 = .ok (.iconst 0, 1) := by decide +kernel
theorem dX8_isUnder_44 : decode cX8_isUnder 44 = .ok (.ireturn, 1) := by decide +kernel
def pX8_isUnder : List (List gm_A) := [[(gm_iload 0), (gm_istore 2), (gm_push (.inl 0)), (gm_istore 3), (gm_goto 1)],
  [(gm_iload 3), (gm_push (.inr (.inr 1000))), gm_alen, (gm_cge 3), (gm_iload 2), (gm_iflt 3), (gm_iload 2), (gm_push (.inr (.inr 1000))), gm_alen, (gm_cge 3), (gm_iload 2), (gm_iload 1), (gm_cne 2), (gm_push (.inl 1)), gm_zret],
  [(gm_push (.inr (.inr 1000))), (gm_iload 2), gm_iald, (gm_istore 2), (gm_iinc 3 1), (gm_goto 1)],
  [(gm_push (.inl 0)), gm_zret]]
def bpX8_isUnder : Nat → Nat := fun b => ([0, 4, 31, 43] : List Nat).getD b 0
set_option maxRecDepth 100000 in
theorem tX8_isUnder {D : va_G} {sz : Nat} {ad : Nat → Nat} {cA : Nat → ClassId} {xs : Int → Int} {Ln : Int} {l : Launch} : gm_SB D sz ad cA xs Ln l gm_mt cX8_isUnder "LongNoon" 4 false 2 bpX8_isUnder 0 pX8_isUnder :=
  ⟨gm_cn 1 (gm_m_iload _) (gm_s_iload_n dX8_isUnder_0 rfl) (
    gm_cn 2 (gm_m_istore _) (gm_s_istore_n dX8_isUnder_1 rfl (by decide)) (
    gm_cn 3 (gm_m_push _) (gm_s_iconst dX8_isUnder_2) (
    gm_cn 4 (gm_m_istore _) (gm_s_istore_n dX8_isUnder_3 rfl (by decide)) (
    gm_cn 0 (gm_m_goto _) (gm_s_fall (bpc := bpX8_isUnder) (b := 1) rfl 0) (
    trivial))))),
  gm_cn 5 (gm_m_iload _) (gm_s_iload_n dX8_isUnder_4 rfl) (
    gm_cn 8 (gm_m_push _) (gm_s_above gw_212 dX8_isUnder_5) (
    gm_cn 9 gm_m_alen (gm_s_alen dX8_isUnder_8) (
    gm_cn 12 (gm_m_cge _) (gm_s_cge (bpc := bpX8_isUnder) (b := 3) dX8_isUnder_9 rfl) (
    gm_cn 13 (gm_m_iload _) (gm_s_iload_n dX8_isUnder_12 rfl) (
    gm_cn 16 (gm_m_iflt _) (gm_s_iflt (bpc := bpX8_isUnder) (b := 3) dX8_isUnder_13 rfl) (
    gm_cn 17 (gm_m_iload _) (gm_s_iload_n dX8_isUnder_16 rfl) (
    gm_cn 20 (gm_m_push _) (gm_s_above gw_212 dX8_isUnder_17) (
    gm_cn 21 gm_m_alen (gm_s_alen dX8_isUnder_20) (
    gm_cn 24 (gm_m_cge _) (gm_s_cge (bpc := bpX8_isUnder) (b := 3) dX8_isUnder_21 rfl) (
    gm_cn 25 (gm_m_iload _) (gm_s_iload_n dX8_isUnder_24 rfl) (
    gm_cn 26 (gm_m_iload _) (gm_s_iload_n dX8_isUnder_25 rfl) (
    gm_cn 29 (gm_m_cne _) (gm_s_cne (bpc := bpX8_isUnder) (b := 2) dX8_isUnder_26 rfl) (
    gm_cn 30 (gm_m_push _) (gm_s_iconst dX8_isUnder_29) (
    gm_cn 0 gm_m_zret (gm_s_zret dX8_isUnder_30 rfl 0) (
    trivial))))))))))))))),
  gm_cn 34 (gm_m_push _) (gm_s_above gw_212 dX8_isUnder_31) (
    gm_cn 35 (gm_m_iload _) (gm_s_iload_n dX8_isUnder_34 rfl) (
    gm_cn 36 gm_m_iald (gm_s_iald dX8_isUnder_35) (
    gm_cn 37 (gm_m_istore _) (gm_s_istore_n dX8_isUnder_36 rfl (by decide)) (
    gm_cn 40 (gm_m_iinc _ _) (gm_s_iinc dX8_isUnder_37 (by decide)) (
    gm_cn 0 (gm_m_goto _) (gm_s_goto (bpc := bpX8_isUnder) (b := 1) dX8_isUnder_40 rfl 0) (
    trivial)))))),
  gm_cn 44 (gm_m_push _) (gm_s_iconst dX8_isUnder_43) (
    gm_cn 0 gm_m_zret (gm_s_zret dX8_isUnder_44 rfl 0) (
    trivial)), trivial⟩
theorem dX8_lowest_0 : decode cX8_lowest 0 = .ok (.iload_n 0, 1) := by decide +kernel
theorem dX8_lowest_1 : decode cX8_lowest 1 = .ok (.istore_n 3, 1) := by decide +kernel
theorem dX8_lowest_2 : decode cX8_lowest 2 = .ok (.iload_n 1, 1) := by decide +kernel
theorem dX8_lowest_3 : decode cX8_lowest 3 = .ok (.istore 4, 2) := by decide +kernel
theorem dX8_lowest_5 : decode cX8_lowest 5 = .ok (.iconst 0, 1) := by decide +kernel
theorem dX8_lowest_6 : decode cX8_lowest 6 = .ok (.istore 5, 2) := by decide +kernel
theorem dX8_lowest_8 : decode cX8_lowest 8 = .ok (.iload 5, 2) := by decide +kernel
theorem dX8_lowest_10 : decode cX8_lowest 10 = .ok (.bipush 64, 2) := by decide +kernel
theorem dX8_lowest_12 : decode cX8_lowest 12 = .ok (.if_icmp .ge 27, 3) := by decide +kernel
theorem dX8_lowest_15 : decode cX8_lowest 15 = .ok (.iload 4, 2) := by decide +kernel
theorem dX8_lowest_17 : decode cX8_lowest 17 = .ok (.ifCond .eq 22, 3) := by decide +kernel
theorem dX8_lowest_20 : decode cX8_lowest 20 = .ok (.iload_n 3, 1) := by decide +kernel
theorem dX8_lowest_21 : decode cX8_lowest 21 = .ok (.iload 4, 2) := by decide +kernel
theorem dX8_lowest_23 : decode cX8_lowest 23 = .ok (.irem, 1) := by decide +kernel
theorem dX8_lowest_24 : decode cX8_lowest 24 = .ok (.istore 6, 2) := by decide +kernel
theorem dX8_lowest_26 : decode cX8_lowest 26 = .ok (.iload 4, 2) := by decide +kernel
theorem dX8_lowest_28 : decode cX8_lowest 28 = .ok (.istore_n 3, 1) := by decide +kernel
theorem dX8_lowest_29 : decode cX8_lowest 29 = .ok (.iload 6, 2) := by decide +kernel
theorem dX8_lowest_31 : decode cX8_lowest 31 = .ok (.istore 4, 2) := by decide +kernel
theorem dX8_lowest_33 : decode cX8_lowest 33 = .ok (.iinc 5 1, 3) := by decide +kernel
theorem dX8_lowest_36 : decode cX8_lowest 36 = .ok (.goto (-28), 3) := by decide +kernel
theorem dX8_lowest_39 : decode cX8_lowest 39 = .ok (.iconst 1, 1) := by decide +kernel
theorem dX8_lowest_40 : decode cX8_lowest 40 = .ok (.iload_n 3, 1) := by decide +kernel
theorem dX8_lowest_41 : decode cX8_lowest 41 = .ok (.invokestatic 303, 3) := by decide +kernel
theorem dX8_lowest_44 : decode cX8_lowest 44 = .ok (.istore 5, 2) := by decide +kernel
theorem dX8_lowest_46 : decode cX8_lowest 46 = .ok (.iload_n 2, 1) := by decide +kernel
theorem dX8_lowest_47 : decode cX8_lowest 47 = .ok (.ifCond .ne 10, 3) := by decide +kernel
theorem dX8_lowest_50 : decode cX8_lowest 50 = .ok (.iload_n 0, 1) := by decide +kernel
theorem dX8_lowest_51 : decode cX8_lowest 51 = .ok (.iload 5, 2) := by decide +kernel
theorem dX8_lowest_53 : decode cX8_lowest 53 = .ok (.idiv, 1) := by decide +kernel
theorem dX8_lowest_54 : decode cX8_lowest 54 = .ok (.goto 7, 3) := by decide +kernel
theorem dX8_lowest_57 : decode cX8_lowest 57 = .ok (.iload_n 1, 1) := by decide +kernel
theorem dX8_lowest_58 : decode cX8_lowest 58 = .ok (.iload 5, 2) := by decide +kernel
theorem dX8_lowest_60 : decode cX8_lowest 60 = .ok (.idiv, 1) := by decide +kernel
theorem dX8_lowest_61 : decode cX8_lowest 61 = .ok (.ireturn, 1) := by decide +kernel
def pX8_lowest : List (List gm_A) := [[(gm_iload 0), (gm_istore 3), (gm_iload 1), (gm_istore 4), (gm_push (.inl 0)), (gm_istore 5), (gm_goto 1)],
  [(gm_iload 5), (gm_push (.inl 64)), (gm_cge 2), (gm_iload 4), (gm_ifeq 2), (gm_iload 3), (gm_iload 4), (gm_quo gm_rem), (gm_istore 6), (gm_iload 4), (gm_istore 3), (gm_iload 6), (gm_istore 4), (gm_iinc 5 1), (gm_goto 1)],
  [(gm_push (.inl 1)), (gm_iload 3), gm_max, (gm_istore 5), (gm_iload 2), (gm_ifne 3), (gm_iload 0), (gm_iload 5), (gm_quo gm_div), (gm_goto 4)],
  [(gm_iload 1), (gm_iload 5), (gm_quo gm_div), (gm_goto 4)],
  [gm_iret]]
def bpX8_lowest : Nat → Nat := fun b => ([0, 8, 39, 57, 61] : List Nat).getD b 0
set_option maxRecDepth 100000 in
theorem tX8_lowest {D : va_G} {sz : Nat} {ad : Nat → Nat} {cA : Nat → ClassId} {xs : Int → Int} {Ln : Int} {l : Launch} : gm_SB D sz ad cA xs Ln l gm_mt cX8_lowest "LongNoon" 7 false 1 bpX8_lowest 0 pX8_lowest :=
  ⟨gm_cn 1 (gm_m_iload _) (gm_s_iload_n dX8_lowest_0 rfl) (
    gm_cn 2 (gm_m_istore _) (gm_s_istore_n dX8_lowest_1 rfl (by decide)) (
    gm_cn 3 (gm_m_iload _) (gm_s_iload_n dX8_lowest_2 rfl) (
    gm_cn 5 (gm_m_istore _) (gm_s_istore dX8_lowest_3 (by decide)) (
    gm_cn 6 (gm_m_push _) (gm_s_iconst dX8_lowest_5) (
    gm_cn 8 (gm_m_istore _) (gm_s_istore dX8_lowest_6 (by decide)) (
    gm_cn 0 (gm_m_goto _) (gm_s_fall (bpc := bpX8_lowest) (b := 1) rfl 0) (
    trivial))))))),
  gm_cn 10 (gm_m_iload _) (gm_s_iload dX8_lowest_8) (
    gm_cn 12 (gm_m_push _) (gm_s_bipush dX8_lowest_10 rfl) (
    gm_cn 15 (gm_m_cge _) (gm_s_cge (bpc := bpX8_lowest) (b := 2) dX8_lowest_12 rfl) (
    gm_cn 17 (gm_m_iload _) (gm_s_iload dX8_lowest_15) (
    gm_cn 20 (gm_m_ifeq _) (gm_s_ifeq (bpc := bpX8_lowest) (b := 2) dX8_lowest_17 rfl) (
    gm_cn 21 (gm_m_iload _) (gm_s_iload_n dX8_lowest_20 rfl) (
    gm_cn 23 (gm_m_iload _) (gm_s_iload dX8_lowest_21) (
    gm_cn 24 (gm_m_quo _) (gm_s_irem dX8_lowest_23) (
    gm_cn 26 (gm_m_istore _) (gm_s_istore dX8_lowest_24 (by decide)) (
    gm_cn 28 (gm_m_iload _) (gm_s_iload dX8_lowest_26) (
    gm_cn 29 (gm_m_istore _) (gm_s_istore_n dX8_lowest_28 rfl (by decide)) (
    gm_cn 31 (gm_m_iload _) (gm_s_iload dX8_lowest_29) (
    gm_cn 33 (gm_m_istore _) (gm_s_istore dX8_lowest_31 (by decide)) (
    gm_cn 36 (gm_m_iinc _ _) (gm_s_iinc dX8_lowest_33 (by decide)) (
    gm_cn 0 (gm_m_goto _) (gm_s_goto (bpc := bpX8_lowest) (b := 1) dX8_lowest_36 rfl 0) (
    trivial))))))))))))))),
  gm_cn 40 (gm_m_push _) (gm_s_iconst dX8_lowest_39) (
    gm_cn 41 (gm_m_iload _) (gm_s_iload_n dX8_lowest_40 rfl) (
    gm_cn 44 gm_m_max (gm_s_max gw_213 gw_46 gw_43 gw_47 dX8_lowest_41) (
    gm_cn 46 (gm_m_istore _) (gm_s_istore dX8_lowest_44 (by decide)) (
    gm_cn 47 (gm_m_iload _) (gm_s_iload_n dX8_lowest_46 rfl) (
    gm_cn 50 (gm_m_ifne _) (gm_s_ifne (bpc := bpX8_lowest) (b := 3) dX8_lowest_47 rfl) (
    gm_cn 51 (gm_m_iload _) (gm_s_iload_n dX8_lowest_50 rfl) (
    gm_cn 53 (gm_m_iload _) (gm_s_iload dX8_lowest_51) (
    gm_cn 54 (gm_m_quo _) (gm_s_idiv dX8_lowest_53) (
    gm_cn 0 (gm_m_goto _) (gm_s_goto (bpc := bpX8_lowest) (b := 4) dX8_lowest_54 rfl 0) (
    trivial)))))))))),
  gm_cn 58 (gm_m_iload _) (gm_s_iload_n dX8_lowest_57 rfl) (
    gm_cn 60 (gm_m_iload _) (gm_s_iload dX8_lowest_58) (
    gm_cn 61 (gm_m_quo _) (gm_s_idiv dX8_lowest_60) (
    gm_cn 0 (gm_m_goto _) (gm_s_fall (bpc := bpX8_lowest) (b := 4) rfl 0) (
    trivial)))),
  gm_cn 0 gm_m_iret (gm_s_iret dX8_lowest_61 rfl 0) (
    trivial), trivial⟩
