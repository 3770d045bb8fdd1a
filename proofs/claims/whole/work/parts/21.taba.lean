theorem dX4_readChain_0 : decode cX4_readChain 0 = .ok (.iconst (-1), 1) := by decide +kernel
theorem dX4_readChain_1 : decode cX4_readChain 1 = .ok (.istore 4, 2) := by decide +kernel
theorem dX4_readChain_3 : decode cX4_readChain 3 = .ok (.iconst 0, 1) := by decide +kernel
theorem dX4_readChain_4 : decode cX4_readChain 4 = .ok (.istore 5, 2) := by decide +kernel
theorem dX4_readChain_6 : decode cX4_readChain 6 = .ok (.iload 5, 2) := by decide +kernel
theorem dX4_readChain_8 : decode cX4_readChain 8 = .ok (.bipush 100, 2) := by decide +kernel
theorem dX4_readChain_10 : decode cX4_readChain 10 = .ok (.if_icmp .ge 77, 3) := by decide +kernel
theorem dX4_readChain_13 : decode cX4_readChain 13 = .ok (.iload_n 2, 1) := by decide +kernel
theorem dX4_readChain_14 : decode cX4_readChain 14 = .ok (.bipush 124, 2) := by decide +kernel
theorem dX4_readChain_16 : decode cX4_readChain 16 = .ok (.if_icmp .ne 14, 3) := by decide +kernel
theorem dX4_readChain_19 : decode cX4_readChain 19 = .ok (.aload_n 0, 1) := by decide +kernel
theorem dX4_readChain_20 : decode cX4_readChain 20 = .ok (.aload_n 1, 1) := by decide +kernel
theorem dX4_readChain_21 : decode cX4_readChain 21 = .ok (.bipush 38, 2) := by decide +kernel
theorem dX4_readChain_23 : decode cX4_readChain 23 = .ok (.iload_n 3, 1) := by decide +kernel
theorem dX4_readChain_24 : decode cX4_readChain 24 = .ok (.invokevirtual 62, 3) := by decide +kernel
theorem dX4_readChain_27 : decode cX4_readChain 27 = .ok (.goto 9, 3) := by decide +kernel
theorem dX4_readChain_30 : decode cX4_readChain 30 = .ok (.aload_n 0, 1) := by decide +kernel
theorem dX4_readChain_31 : decode cX4_readChain 31 = .ok (.aload_n 1, 1) := by decide +kernel
theorem dX4_readChain_32 : decode cX4_readChain 32 = .ok (.iload_n 3, 1) := by decide +kernel
theorem dX4_readChain_33 : decode cX4_readChain 33 = .ok (.invokevirtual 78, 3) := by decide +kernel
theorem dX4_readChain_36 : decode cX4_readChain 36 = .ok (.istore 6, 2) := by decide +kernel
theorem dX4_readChain_38 : decode cX4_readChain 38 = .ok (.iload 6, 2) := by decide +kernel
theorem dX4_readChain_40 : decode cX4_readChain 40 = .ok (.ifCond .ne 5, 3) := by decide +kernel
theorem dX4_readChain_43 : decode cX4_readChain 43 = .ok (.iconst 0, 1) := by decide +kernel
theorem dX4_readChain_44 : decode cX4_readChain 44 = .ok (.ireturn, 1) := by decide +kernel
theorem dX4_readChain_45 : decode cX4_readChain 45 = .ok (.aload_n 1, 1) := by decide +kernel
theorem dX4_readChain_46 : decode cX4_readChain 46 = .ok (.iload 4, 2) := by decide +kernel
theorem dX4_readChain_48 : decode cX4_readChain 48 = .ok (.invokevirtual 82, 3) := by decide +kernel
theorem dX4_readChain_51 : decode cX4_readChain 51 = .ok (.aload_n 0, 1) := by decide +kernel
theorem dX4_readChain_52 : decode cX4_readChain 52 = .ok (.iload_n 2, 1) := by decide +kernel
theorem dX4_readChain_53 : decode cX4_readChain 53 = .ok (.invokevirtual 31, 3) := by decide +kernel
theorem dX4_readChain_56 : decode cX4_readChain 56 = .ok (.ifCond .ne 5, 3) := by decide +kernel
theorem dX4_readChain_59 : decode cX4_readChain 59 = .ok (.iconst 1, 1) := by decide +kernel
theorem dX4_readChain_60 : decode cX4_readChain 60 = .ok (.ireturn, 1) := by decide +kernel
theorem dX4_readChain_61 : decode cX4_readChain 61 = .ok (.aload_n 1, 1) := by decide +kernel
theorem dX4_readChain_62 : decode cX4_readChain 62 = .ok (.iload_n 2, 1) := by decide +kernel
theorem dX4_readChain_63 : decode cX4_readChain 63 = .ok (.bipush 124, 2) := by decide +kernel
theorem dX4_readChain_65 : decode cX4_readChain 65 = .ok (.if_icmp .ne 8, 3) := by decide +kernel
theorem dX4_readChain_68 : decode cX4_readChain 68 = .ok (.bipush 19, 2) := by decide +kernel
theorem dX4_readChain_70 : decode cX4_readChain 70 = .ok (.goto 5, 3) := by decide +kernel
theorem dX4_readChain_73 : decode cX4_readChain 73 = .ok (.bipush 20, 2) := by decide +kernel
theorem dX4_readChain_75 : decode cX4_readChain 75 = .ok (.iconst 0, 1) := by decide +kernel
theorem dX4_readChain_76 : decode cX4_readChain 76 = .ok (.invokevirtual 85, 3) := by decide +kernel
theorem dX4_readChain_79 : decode cX4_readChain 79 = .ok (.istore 4, 2) := by decide +kernel
theorem dX4_readChain_81 : decode cX4_readChain 81 = .ok (.iinc 5 1, 3) := by decide +kernel
theorem dX4_readChain_84 : decode cX4_readChain 84 = .ok (.goto (-78), 3) := by decide +kernel
theorem dX4_readChain_87 : decode cX4_readChain 87 = .ok (.iconst 0, 1) := by decide +kernel
theorem dX4_readChain_88 : decode cX4_readChain 88 = .ok (.ireturn, 1) := by decide +kernel
def pX4_readChain : List (List gm_A) := [[(gm_push (.inl (-1))), (gm_istore 4), (gm_push (.inl 0)), (gm_istore 5), (gm_goto 1)],
  [(gm_iload 5), (gm_push (.inl 100)), (gm_cge 8), (gm_iload 2), (gm_push (.inl 124)), (gm_cne 2), (gm_aload 0), (gm_aload 1), (gm_push (.inl 38)), (gm_iload 3), (gm_vcall 4 29 4), (gm_goto 3)],
  [(gm_aload 0), (gm_aload 1), (gm_iload 3), (gm_vcall 4 30 3), (gm_goto 3)],
  [(gm_istore 6), (gm_iload 6), (gm_ifne 4), (gm_push (.inl 0)), gm_zret],
  [(gm_aload 1), (gm_iload 4), (gm_vcall 0 4 2), (gm_aload 0), (gm_iload 2), (gm_vcall 4 34 2), (gm_ifne 5), (gm_push (.inl 1)), gm_zret],
  [(gm_aload 1), (gm_iload 2), (gm_push (.inl 124)), (gm_cne 6), (gm_push (.inl 19)), (gm_goto 7)],
  [(gm_push (.inl 20)), (gm_goto 7)],
  [(gm_push (.inl 0)), (gm_vcall 0 2 3), (gm_istore 4), (gm_iinc 5 1), (gm_goto 1)],
  [(gm_push (.inl 0)), gm_zret]]
def bpX4_readChain : Nat → Nat := fun b => ([0, 6, 30, 36, 45, 61, 73, 75, 87] : List Nat).getD b 0
set_option maxRecDepth 100000 in
theorem tX4_readChain {D : va_G} {sz : Nat} {ad : Nat → Nat} {cA : Nat → ClassId} {xs : Int → Int} {Ln : Int} {l : Launch} : gm_SB D sz ad cA xs Ln l gm_mt cX4_readChain "LongNoon$Reader" 7 false 2 bpX4_readChain 0 pX4_readChain :=
  ⟨gm_cn 1 (gm_m_push _) (gm_s_iconst dX4_readChain_0) (
    gm_cn 3 (gm_m_istore _) (gm_s_istore dX4_readChain_1 (by decide)) (
    gm_cn 4 (gm_m_push _) (gm_s_iconst dX4_readChain_3) (
    gm_cn 6 (gm_m_istore _) (gm_s_istore dX4_readChain_4 (by decide)) (
    gm_cn 0 (gm_m_goto _) (gm_s_fall (bpc := bpX4_readChain) (b := 1) rfl 0) (
    trivial))))),
  gm_cn 8 (gm_m_iload _) (gm_s_iload dX4_readChain_6) (
    gm_cn 10 (gm_m_push _) (gm_s_bipush dX4_readChain_8 rfl) (
    gm_cn 13 (gm_m_cge _) (gm_s_cge (bpc := bpX4_readChain) (b := 8) dX4_readChain_10 rfl) (
    gm_cn 14 (gm_m_iload _) (gm_s_iload_n dX4_readChain_13 rfl) (
    gm_cn 16 (gm_m_push _) (gm_s_bipush dX4_readChain_14 rfl) (
    gm_cn 19 (gm_m_cne _) (gm_s_cne (bpc := bpX4_readChain) (b := 2) dX4_readChain_16 rfl) (
    gm_cn 20 (gm_m_aload _) (gm_s_aload_n dX4_readChain_19 rfl) (
    gm_cn 21 (gm_m_aload _) (gm_s_aload_n dX4_readChain_20 rfl) (
    gm_cn 23 (gm_m_push _) (gm_s_bipush dX4_readChain_21 rfl) (
    gm_cn 24 (gm_m_iload _) (gm_s_iload_n dX4_readChain_23 rfl) (
    gm_cn 27 (gm_m_vcall _ _ _) (gcl_X4_readChain gw_79 dX4_readChain_24) (
    gm_cn 0 (gm_m_goto _) (gm_s_goto (bpc := bpX4_readChain) (b := 3) dX4_readChain_27 rfl 0) (
    trivial)))))))))))),
  gm_cn 31 (gm_m_aload _) (gm_s_aload_n dX4_readChain_30 rfl) (
    gm_cn 32 (gm_m_aload _) (gm_s_aload_n dX4_readChain_31 rfl) (
    gm_cn 33 (gm_m_iload _) (gm_s_iload_n dX4_readChain_32 rfl) (
    gm_cn 36 (gm_m_vcall _ _ _) (gcl_X4_readSingle gw_83 dX4_readChain_33) (
    gm_cn 0 (gm_m_goto _) (gm_s_fall (bpc := bpX4_readChain) (b := 3) rfl 0) (
    trivial))))),
  gm_cn 38 (gm_m_istore _) (gm_s_istore dX4_readChain_36 (by decide)) (
    gm_cn 40 (gm_m_iload _) (gm_s_iload dX4_readChain_38) (
    gm_cn 43 (gm_m_ifne _) (gm_s_ifne (bpc := bpX4_readChain) (b := 4) dX4_readChain_40 rfl) (
    gm_cn 44 (gm_m_push _) (gm_s_iconst dX4_readChain_43) (
    gm_cn 0 gm_m_zret (gm_s_zret dX4_readChain_44 rfl 0) (
    trivial))))),
  gm_cn 46 (gm_m_aload _) (gm_s_aload_n dX4_readChain_45 rfl) (
    gm_cn 48 (gm_m_iload _) (gm_s_iload dX4_readChain_46) (
    gm_cn 51 (gm_m_vcall _ _ _) (gcl_X0_landHere gw_84 dX4_readChain_48) (
    gm_cn 52 (gm_m_aload _) (gm_s_aload_n dX4_readChain_51 rfl) (
    gm_cn 53 (gm_m_iload _) (gm_s_iload_n dX4_readChain_52 rfl) (
    gm_cn 56 (gm_m_vcall _ _ _) (gcl_X4_readSign gw_73 dX4_readChain_53) (
    gm_cn 59 (gm_m_ifne _) (gm_s_ifne (bpc := bpX4_readChain) (b := 5) dX4_readChain_56 rfl) (
    gm_cn 60 (gm_m_push _) (gm_s_iconst dX4_readChain_59) (
    gm_cn 0 gm_m_zret (gm_s_zret dX4_readChain_60 rfl 0) (
    trivial))))))))),
  gm_cn 62 (gm_m_aload _) (gm_s_aload_n dX4_readChain_61 rfl) (
    gm_cn 63 (gm_m_iload _) (gm_s_iload_n dX4_readChain_62 rfl) (
    gm_cn 65 (gm_m_push _) (gm_s_bipush dX4_readChain_63 rfl) (
    gm_cn 68 (gm_m_cne _) (gm_s_cne (bpc := bpX4_readChain) (b := 6) dX4_readChain_65 rfl) (
    gm_cn 70 (gm_m_push _) (gm_s_bipush dX4_readChain_68 rfl) (
    gm_cn 0 (gm_m_goto _) (gm_s_goto (bpc := bpX4_readChain) (b := 7) dX4_readChain_70 rfl 0) (
    trivial)))))),
  gm_cn 75 (gm_m_push _) (gm_s_bipush dX4_readChain_73 rfl) (
    gm_cn 0 (gm_m_goto _) (gm_s_fall (bpc := bpX4_readChain) (b := 7) rfl 0) (
    trivial)),
  gm_cn 76 (gm_m_push _) (gm_s_iconst dX4_readChain_75) (
    gm_cn 79 (gm_m_vcall _ _ _) (gcl_X0_addStep gw_85 dX4_readChain_76) (
    gm_cn 81 (gm_m_istore _) (gm_s_istore dX4_readChain_79 (by decide)) (
    gm_cn 84 (gm_m_iinc _ _) (gm_s_iinc dX4_readChain_81 (by decide)) (
    gm_cn 0 (gm_m_goto _) (gm_s_goto (bpc := bpX4_readChain) (b := 1) dX4_readChain_84 rfl 0) (
    trivial))))),
  gm_cn 88 (gm_m_push _) (gm_s_iconst dX4_readChain_87) (
    gm_cn 0 gm_m_zret (gm_s_zret dX4_readChain_88 rfl 0) (
    trivial)), trivial⟩
theorem dX4_readSingle_0 : decode cX4_readSingle 0 = .ok (.aload_n 0, 1) := by decide +kernel
theorem dX4_readSingle_1 : decode cX4_readSingle 1 = .ok (.invokevirtual 35, 3) := by decide +kernel
theorem dX4_readSingle_4 : decode cX4_readSingle 4 = .ok (.istore_n 3, 1) := by decide +kernel
theorem dX4_readSingle_5 : decode cX4_readSingle 5 = .ok (.iload_n 3, 1) := by decide +kernel
theorem dX4_readSingle_6 : decode cX4_readSingle 6 = .ok (.bipush 33, 2) := by decide +kernel
theorem dX4_readSingle_8 : decode cX4_readSingle 8 = .ok (.if_icmp .eq 15, 3) := by decide +kernel
theorem dX4_readSingle_11 : decode cX4_readSingle 11 = .ok (.iload_n 3, 1) := by decide +kernel
theorem dX4_readSingle_12 : decode cX4_readSingle 12 = .ok (.bipush 40, 2) := by decide +kernel
theorem dX4_readSingle_14 : decode cX4_readSingle 14 = .ok (.if_icmp .eq 9, 3) := by decide +kernel
theorem dX4_readSingle_17 : decode cX4_readSingle 17 = .ok (.aload_n 0, 1) := by decide +kernel
theorem dX4_readSingle_18 : decode cX4_readSingle 18 = .ok (.aload_n 1, 1) := by decide +kernel
theorem dX4_readSingle_19 : decode cX4_readSingle 19 = .ok (.invokevirtual 89, 3) := by decide +kernel
theorem dX4_readSingle_22 : decode cX4_readSingle 22 = .ok (.ireturn, 1) := by decide +kernel
theorem dX4_readSingle_23 : decode cX4_readSingle 23 = .ok (.iload_n 2, 1) := by decide +kernel
theorem dX4_readSingle_24 : decode cX4_readSingle 24 = .ok (.iconst 4, 1) := by decide +kernel
theorem dX4_readSingle_25 : decode cX4_readSingle 25 = .ok (.if_icmp .lt 5, 3) := by decide +kernel
theorem dX4_readSingle_28 : decode cX4_readSingle 28 = .ok (.iconst 0, 1) := by decide +kernel
theorem dX4_readSingle_29 : decode cX4_readSingle 29 = .ok (.ireturn, 1) := by decide +kernel
theorem dX4_readSingle_30 : decode cX4_readSingle 30 = .ok (.aload_n 0, 1) := by decide +kernel
theorem dX4_readSingle_31 : decode cX4_readSingle 31 = .ok (.dup, 1) := by decide +kernel
theorem dX4_readSingle_32 : decode cX4_readSingle 32 = .ok (.getfield 24, 3) := by decide +kernel
theorem dX4_readSingle_35 : decode cX4_readSingle 35 = .ok (.iconst 1, 1) := by decide +kernel
theorem dX4_readSingle_36 : decode cX4_readSingle 36 = .ok (.iadd, 1) := by decide +kernel
theorem dX4_readSingle_37 : decode cX4_readSingle 37 = .ok (.putfield 24, 3) := by decide +kernel
theorem dX4_readSingle_40 : decode cX4_readSingle 40 = .ok (.iload_n 3, 1) := by decide +kernel
theorem dX4_readSingle_41 : decode cX4_readSingle 41 = .ok (.bipush 40, 2) := by decide +kernel
theorem dX4_readSingle_43 : decode cX4_readSingle 43 = .ok (.if_icmp .ne 31, 3) := by decide +kernel
theorem dX4_readSingle_46 : decode cX4_readSingle 46 = .ok (.aload_n 0, 1) := by decide +kernel
theorem dX4_readSingle_47 : decode cX4_readSingle 47 = .ok (.aload_n 1, 1) := by decide +kernel
theorem dX4_readSingle_48 : decode cX4_readSingle 48 = .ok (.bipush 124, 2) := by decide +kernel
theorem dX4_readSingle_50 : decode cX4_readSingle 50 = .ok (.iload_n 2, 1) := by decide +kernel
theorem dX4_readSingle_51 : decode cX4_readSingle 51 = .ok (.iconst 1, 1) := by decide +kernel
theorem dX4_readSingle_52 : decode cX4_readSingle 52 = .ok (.iadd, 1) := by decide +kernel
theorem dX4_readSingle_53 : decode cX4_readSingle 53 = .ok (.invokevirtual 62, 3) := by decide +kernel
theorem dX4_readSingle_56 : decode cX4_readSingle 56 = .ok (.ifCond .eq 16, 3) := by decide +kernel
theorem dX4_readSingle_59 : decode cX4_readSingle 59 = .ok (.aload_n 0, 1) := by decide +kernel
theorem dX4_readSingle_60 : decode cX4_readSingle 60 = .ok (.bipush 41, 2) := by decide +kernel
theorem dX4_readSingle_62 : decode cX4_readSingle 62 = .ok (.invokevirtual 31, 3) := by decide +kernel
theorem dX4_readSingle_65 : decode cX4_readSingle 65 = .ok (.ifCond .eq 7, 3) := by decide +kernel
theorem dX4_readSingle_68 : decode cX4_readSingle 68 = .ok (.iconst 1, 1) := by decide +kernel
theorem dX4_readSingle_69 : decode cX4_readSingle 69 = .ok (.goto 4, 3) := by decide +kernel
theorem dX4_readSingle_72 : decode cX4_readSingle 72 = .ok (.iconst 0, 1) := by decide +kernel
theorem dX4_readSingle_73 : decode cX4_readSingle 73 = .ok (.ireturn, 1) := by decide +kernel
theorem dX4_readSingle_74 : decode cX4_readSingle 74 = .ok (.aload_n 0, 1) := by decide +kernel
theorem dX4_readSingle_75 : decode cX4_readSingle 75 = .ok (.aload_n 1, 1) := by decide +kernel
theorem dX4_readSingle_76 : decode cX4_readSingle 76 = .ok (.iload_n 2, 1) := by decide +kernel
theorem dX4_readSingle_77 : decode cX4_readSingle 77 = .ok (.iconst 1, 1) := by decide +kernel
theorem dX4_readSingle_78 : decode cX4_readSingle 78 = .ok (.iadd, 1) := by decide +kernel
theorem dX4_readSingle_79 : decode cX4_readSingle 79 = .ok (.invokevirtual 78, 3) := by decide +kernel
theorem dX4_readSingle_82 : decode cX4_readSingle 82 = .ok (.ifCond .ne 5, 3) := by decide +kernel
theorem dX4_readSingle_85 : decode cX4_readSingle 85 = .ok (.iconst 0, 1) := by decide +kernel
theorem dX4_readSingle_86 : decode cX4_readSingle 86 = .ok (.ireturn, 1) := by decide +kernel
theorem dX4_readSingle_87 : decode cX4_readSingle 87 = .ok (.aload_n 1, 1) := by decide +kernel
theorem dX4_readSingle_88 : decode cX4_readSingle 88 = .ok (.bipush 18, 2) := by decide +kernel
theorem dX4_readSingle_90 : decode cX4_readSingle 90 = .ok (.iconst 0, 1) := by decide +kernel
theorem dX4_readSingle_91 : decode cX4_readSingle 91 = .ok (.invokevirtual 85, 3) := by decide +kernel
theorem dX4_readSingle_94 : decode cX4_readSingle 94 = .ok (.pop, 1) := by decide +kernel
theorem dX4_readSingle_95 : decode cX4_readSingle 95 = .ok (.iconst 1, 1) := by decide +kernel
theorem dX4_readSingle_96 : decode cX4_readSingle 96 = .ok (.ireturn, 1) := by decide +kernel
def pX4_readSingle : List (List gm_A) := [[(gm_aload 0), (gm_vcall 4 35 1), (gm_istore 3), (gm_iload 3), (gm_push (.inl 33)), (gm_ceq 1), (gm_iload 3), (gm_push (.inl 40)), (gm_ceq 1), (gm_aload 0), (gm_aload 1), (gm_vcall 4 31 2), gm_zret],
  [(gm_iload 2), (gm_push (.inl 4)), (gm_clt 2), (gm_push (.inl 0)), gm_zret],
  [(gm_aload 0), gm_dup, (gm_getI 4 402), (gm_push (.inl 1)), (gm_op2 gm_add), (gm_putI 4 402), (gm_iload 3), (gm_push (.inl 40)), (gm_cne 5), (gm_aload 0), (gm_aload 1), (gm_push (.inl 124)), (gm_iload 2), (gm_push (.inl 1)), (gm_op2 gm_add), (gm_vcall 4 29 4), (gm_ifeq 3), (gm_aload 0), (gm_push (.inl 41)), (gm_vcall 4 34 2), (gm_ifeq 3), (gm_push (.inl 1)), (gm_goto 4)],
  [(gm_push (.inl 0)), (gm_goto 4)],
  [gm_zret],
  [(gm_aload 0), (gm_aload 1), (gm_iload 2), (gm_push (.inl 1)), (gm_op2 gm_add), (gm_vcall 4 30 3), (gm_ifne 6), (gm_push (.inl 0)), gm_zret],
  [(gm_aload 1), (gm_push (.inl 18)), (gm_push (.inl 0)), (gm_vcall 0 2 3), gm_pop1, (gm_push (.inl 1)), gm_zret]]
def bpX4_readSingle : Nat → Nat := fun b => ([0, 23, 30, 72, 73, 74, 87] : List Nat).getD b 0
set_option maxRecDepth 100000 in
theorem tX4_readSingle {D : va_G} {sz : Nat} {ad : Nat → Nat} {cA : Nat → ClassId} {xs : Int → Int} {Ln : Int} {l : Launch} : gm_SB D sz ad cA xs Ln l gm_mt cX4_readSingle "LongNoon$Reader" 4 false 2 bpX4_readSingle 0 pX4_readSingle :=
  ⟨gm_cn 1 (gm_m_aload _) (gm_s_aload_n dX4_readSingle_0 rfl) (
    gm_cn 4 (gm_m_vcall _ _ _) (gcl_X4_nextSign gw_74 dX4_readSingle_1) (
    gm_cn 5 (gm_m_istore _) (gm_s_istore_n dX4_readSingle_4 rfl (by decide)) (
    gm_cn 6 (gm_m_iload _) (gm_s_iload_n dX4_readSingle_5 rfl) (
    gm_cn 8 (gm_m_push _) (gm_s_bipush dX4_readSingle_6 rfl) (
    gm_cn 11 (gm_m_ceq _) (gm_s_ceq (bpc := bpX4_readSingle) (b := 1) dX4_readSingle_8 rfl) (
    gm_cn 12 (gm_m_iload _) (gm_s_iload_n dX4_readSingle_11 rfl) (
    gm_cn 14 (gm_m_push _) (gm_s_bipush dX4_readSingle_12 rfl) (
    gm_cn 17 (gm_m_ceq _) (gm_s_ceq (bpc := bpX4_readSingle) (b := 1) dX4_readSingle_14 rfl) (
    gm_cn 18 (gm_m_aload _) (gm_s_aload_n dX4_readSingle_17 rfl) (
    gm_cn 19 (gm_m_aload _) (gm_s_aload_n dX4_readSingle_18 rfl) (
    gm_cn 22 (gm_m_vcall _ _ _) (gcl_X4_readTest gw_86 dX4_readSingle_19) (
    gm_cn 0 gm_m_zret (gm_s_zret dX4_readSingle_22 rfl 0) (
    trivial))))))))))))),
  gm_cn 24 (gm_m_iload _) (gm_s_iload_n dX4_readSingle_23 rfl) (
    gm_cn 25 (gm_m_push _) (gm_s_iconst dX4_readSingle_24) (
    gm_cn 28 (gm_m_clt _) (gm_s_clt (bpc := bpX4_readSingle) (b := 2) dX4_readSingle_25 rfl) (
    gm_cn 29 (gm_m_push _) (gm_s_iconst dX4_readSingle_28) (
    gm_cn 0 gm_m_zret (gm_s_zret dX4_readSingle_29 rfl 0) (
    trivial))))),
  gm_cn 31 (gm_m_aload _) (gm_s_aload_n dX4_readSingle_30 rfl) (
    gm_cn 32 gm_m_dup (gm_s_dup dX4_readSingle_31) (
    gm_cn 35 (gm_m_getI _ _) (gf_getI_4_2 gw_71 dX4_readSingle_32) (
    gm_cn 36 (gm_m_push _) (gm_s_iconst dX4_readSingle_35) (
    gm_cn 37 (gm_m_op2 _) (gm_s_iadd dX4_readSingle_36) (
    gm_cn 40 (gm_m_putI _ _) (gf_putI_4_2 gw_71 dX4_readSingle_37) (
    gm_cn 41 (gm_m_iload _) (gm_s_iload_n dX4_readSingle_40 rfl) (
    gm_cn 43 (gm_m_push _) (gm_s_bipush dX4_readSingle_41 rfl) (
    gm_cn 46 (gm_m_cne _) (gm_s_cne (bpc := bpX4_readSingle) (b := 5) dX4_readSingle_43 rfl) (
    gm_cn 47 (gm_m_aload _) (gm_s_aload_n dX4_readSingle_46 rfl) (
    gm_cn 48 (gm_m_aload _) (gm_s_aload_n dX4_readSingle_47 rfl) (
    gm_cn 50 (gm_m_push _) (gm_s_bipush dX4_readSingle_48 rfl) (
    gm_cn 51 (gm_m_iload _) (gm_s_iload_n dX4_readSingle_50 rfl) (
    gm_cn 52 (gm_m_push _) (gm_s_iconst dX4_readSingle_51) (
    gm_cn 53 (gm_m_op2 _) (gm_s_iadd dX4_readSingle_52) (
    gm_cn 56 (gm_m_vcall _ _ _) (gcl_X4_readChain gw_79 dX4_readSingle_53) (
    gm_cn 59 (gm_m_ifeq _) (gm_s_ifeq (bpc := bpX4_readSingle) (b := 3) dX4_readSingle_56 rfl) (
    gm_cn 60 (gm_m_aload _) (gm_s_aload_n dX4_readSingle_59 rfl) (
    gm_cn 62 (gm_m_push _) (gm_s_bipush dX4_readSingle_60 rfl) (
    gm_cn 65 (gm_m_vcall _ _ _) (gcl_X4_readSign gw_73 dX4_readSingle_62) (
    gm_cn 68 (gm_m_ifeq _) (gm_s_ifeq (bpc := bpX4_readSingle) (b := 3) dX4_readSingle_65 rfl) (
    gm_cn 69 (gm_m_push _) (gm_s_iconst dX4_readSingle_68) (
    gm_cn 0 (gm_m_goto _) (gm_s_goto (bpc := bpX4_readSingle) (b := 4) dX4_readSingle_69 rfl 0) (
    trivial))))))))))))))))))))))),
  gm_cn 73 (gm_m_push _) (gm_s_iconst dX4_readSingle_72) (
    gm_cn 0 (gm_m_goto _) (gm_s_fall (bpc := bpX4_readSingle) (b := 4) rfl 0) (
    trivial)),
  gm_cn 0 gm_m_zret (gm_s_zret dX4_readSingle_73 rfl 0) (
    trivial),
  gm_cn 75 (gm_m_aload _) (gm_s_aload_n dX4_readSingle_74 rfl) (
    gm_cn 76 (gm_m_aload _) (gm_s_aload_n dX4_readSingle_75 rfl) (
    gm_cn 77 (gm_m_iload _) (gm_s_iload_n dX4_readSingle_76 rfl) (
    gm_cn 78 (gm_m_push _) (gm_s_iconst dX4_readSingle_77) (
    gm_cn 79 (gm_m_op2 _) (gm_s_iadd dX4_readSingle_78) (
    gm_cn 82 (gm_m_vcall _ _ _) (gcl_X4_readSingle gw_83 dX4_readSingle_79) (
    gm_cn 85 (gm_m_ifne _) (gm_s_ifne (bpc := bpX4_readSingle) (b := 6) dX4_readSingle_82 rfl) (
    gm_cn 86 (gm_m_push _) (gm_s_iconst dX4_readSingle_85) (
    gm_cn 0 gm_m_zret (gm_s_zret dX4_readSingle_86 rfl 0) (
    trivial))))))))),
  gm_cn 88 (gm_m_aload _) (gm_s_aload_n dX4_readSingle_87 rfl) (
    gm_cn 90 (gm_m_push _) (gm_s_bipush dX4_readSingle_88 rfl) (
    gm_cn 91 (gm_m_push _) (gm_s_iconst dX4_readSingle_90) (
    gm_cn 94 (gm_m_vcall _ _ _) (gcl_X0_addStep gw_85 dX4_readSingle_91) (
    gm_cn 95 gm_m_pop1 (gm_s_pop dX4_readSingle_94) (
    gm_cn 96 (gm_m_push _) (gm_s_iconst dX4_readSingle_95) (
    gm_cn 0 gm_m_zret (gm_s_zret dX4_readSingle_96 rfl 0) (
    trivial))))))), trivial⟩
theorem dX4_readTest_0 : decode cX4_readTest 0 = .ok (.ldc 93, 2) := by decide +kernel
theorem dX4_readTest_2 : decode cX4_readTest 2 = .ok (.aload_n 0, 1) := by decide +kernel
theorem dX4_readTest_3 : decode cX4_readTest 3 = .ok (.invokevirtual 35, 3) := by decide +kernel
theorem dX4_readTest_6 : decode cX4_readTest 6 = .ok (.invokevirtual 95, 3) := by decide +kernel
theorem dX4_readTest_9 : decode cX4_readTest 9 = .ok (.istore_n 2, 1) := by decide +kernel
theorem dX4_readTest_10 : decode cX4_readTest 10 = .ok (.iload_n 2, 1) := by decide +kernel
theorem dX4_readTest_11 : decode cX4_readTest 11 = .ok (.ifCond .ge 5, 3) := by decide +kernel
theorem dX4_readTest_14 : decode cX4_readTest 14 = .ok (.iconst 0, 1) := by decide +kernel
theorem dX4_readTest_15 : decode cX4_readTest 15 = .ok (.ireturn, 1) := by decide +kernel
theorem dX4_readTest_16 : decode cX4_readTest 16 = .ok (.aload_n 0, 1) := by decide +kernel
theorem dX4_readTest_17 : decode cX4_readTest 17 = .ok (.dup, 1) := by decide +kernel
theorem dX4_readTest_18 : decode cX4_readTest 18 = .ok (.getfield 24, 3) := by decide +kernel
theorem dX4_readTest_21 : decode cX4_readTest 21 = .ok (.iconst 1, 1) := by decide +kernel
theorem dX4_readTest_22 : decode cX4_readTest 22 = .ok (.iadd, 1) := by decide +kernel
theorem dX4_readTest_23 : decode cX4_readTest 23 = .ok (.putfield 24, 3) := by decide +kernel
theorem dX4_readTest_26 : decode cX4_readTest 26 = .ok (.ldc 101, 2) := by decide +kernel
theorem dX4_readTest_28 : decode cX4_readTest 28 = .ok (.aload_n 0, 1) := by decide +kernel
theorem dX4_readTest_29 : decode cX4_readTest 29 = .ok (.invokevirtual 35, 3) := by decide +kernel
theorem dX4_readTest_32 : decode cX4_readTest 32 = .ok (.invokevirtual 95, 3) := by decide +kernel
theorem dX4_readTest_35 : decode cX4_readTest 35 = .ok (.istore_n 3, 1) := by decide +kernel
theorem dX4_readTest_36 : decode cX4_readTest 36 = .ok (.iload_n 3, 1) := by decide +kernel
theorem dX4_readTest_37 : decode cX4_readTest 37 = .ok (.ifCond .ge 5, 3) := by decide +kernel
theorem dX4_readTest_40 : decode cX4_readTest 40 = .ok (.iconst 0, 1) := by decide +kernel
theorem dX4_readTest_41 : decode cX4_readTest 41 = .ok (.ireturn, 1) := by decide +kernel
theorem dX4_readTest_42 : decode cX4_readTest 42 = .ok (.aload_n 0, 1) := by decide +kernel
theorem dX4_readTest_43 : decode cX4_readTest 43 = .ok (.dup, 1) := by decide +kernel
theorem dX4_readTest_44 : decode cX4_readTest 44 = .ok (.getfield 24, 3) := by decide +kernel
theorem dX4_readTest_47 : decode cX4_readTest 47 = .ok (.iconst 1, 1) := by decide +kernel
theorem dX4_readTest_48 : decode cX4_readTest 48 = .ok (.iadd, 1) := by decide +kernel
theorem dX4_readTest_49 : decode cX4_readTest 49 = .ok (.putfield 24, 3) := by decide +kernel
theorem dX4_readTest_52 : decode cX4_readTest 52 = .ok (.aload_n 0, 1) := by decide +kernel
theorem dX4_readTest_53 : decode cX4_readTest 53 = .ok (.invokevirtual 51, 3) := by decide +kernel
theorem dX4_readTest_56 : decode cX4_readTest 56 = .ok (.istore 4, 2) := by decide +kernel
theorem dX4_readTest_58 : decode cX4_readTest 58 = .ok (.iload 4, 2) := by decide +kernel
theorem dX4_readTest_60 : decode cX4_readTest 60 = .ok (.ifCond .ge 5, 3) := by decide +kernel
theorem dX4_readTest_63 : decode cX4_readTest 63 = .ok (.iconst 0, 1) := by decide +kernel
theorem dX4_readTest_64 : decode cX4_readTest 64 = .ok (.ireturn, 1) := by decide +kernel
theorem dX4_readTest_65 : decode cX4_readTest 65 = .ok (.aload_n 1, 1) := by decide +kernel
theorem dX4_readTest_66 : decode cX4_readTest 66 = .ok (.iconst 3, 1) := by decide +kernel
theorem dX4_readTest_67 : decode cX4_readTest 67 = .ok (.iload_n 2, 1) := by decide +kernel
theorem dX4_readTest_68 : decode cX4_readTest 68 = .ok (.imul, 1) := by decide +kernel
theorem dX4_readTest_69 : decode cX4_readTest 69 = .ok (.iload_n 3, 1) := by decide +kernel
theorem dX4_readTest_70 : decode cX4_readTest 70 = .ok (.iadd, 1) := by decide +kernel
theorem dX4_readTest_71 : decode cX4_readTest 71 = .ok (.iload 4, 2) := by decide +kernel
theorem dX4_readTest_73 : decode cX4_readTest 73 = .ok (.invokevirtual 85, 3) := by decide +kernel
theorem dX4_readTest_76 : decode cX4_readTest 76 = .ok (.pop, 1) := by decide +kernel
theorem dX4_readTest_77 : decode cX4_readTest 77 = .ok (.iconst 1, 1) := by decide +kernel
theorem dX4_readTest_78 : decode cX4_readTest 78 = .ok (.ireturn, 1) := by decide +kernel
def pX4_readTest : List (List gm_A) := [[(gm_push (.inr (.inr 1007))), (gm_aload 0), (gm_vcall 4 35 1), gm_sidx, (gm_istore 2), (gm_iload 2), (gm_ifge 1), (gm_push (.inl 0)), gm_zret],
  [(gm_aload 0), gm_dup, (gm_getI 4 402), (gm_push (.inl 1)), (gm_op2 gm_add), (gm_putI 4 402), (gm_push (.inr (.inr 1008))), (gm_aload 0), (gm_vcall 4 35 1), gm_sidx, (gm_istore 3), (gm_iload 3), (gm_ifge 2), (gm_push (.inl 0)), gm_zret],
  [(gm_aload 0), gm_dup, (gm_getI 4 402), (gm_push (.inl 1)), (gm_op2 gm_add), (gm_putI 4 402), (gm_aload 0), (gm_vcall 4 32 1), (gm_istore 4), (gm_iload 4), (gm_ifge 3), (gm_push (.inl 0)), gm_zret],
  [(gm_aload 1), (gm_push (.inl 3)), (gm_iload 2), (gm_op2 gm_mul), (gm_iload 3), (gm_op2 gm_add), (gm_iload 4), (gm_vcall 0 2 3), gm_pop1, (gm_push (.inl 1)), gm_zret]]
def bpX4_readTest : Nat → Nat := fun b => ([0, 16, 42, 65] : List Nat).getD b 0
set_option maxRecDepth 100000 in
theorem tX4_readTest {D : va_G} {sz : Nat} {ad : Nat → Nat} {cA : Nat → ClassId} {xs : Int → Int} {Ln : Int} {l : Launch} : gm_SB D sz ad cA xs Ln l gm_mt cX4_readTest "LongNoon$Reader" 5 false 2 bpX4_readTest 0 pX4_readTest :=
  ⟨gm_cn 2 (gm_m_push _) (gm_s_ldcs (i := 4) rfl rfl rfl dX4_readTest_0) (
    gm_cn 3 (gm_m_aload _) (gm_s_aload_n dX4_readTest_2 rfl) (
    gm_cn 6 (gm_m_vcall _ _ _) (gcl_X4_nextSign gw_74 dX4_readTest_3) (
    gm_cn 9 gm_m_sidx (gm_s_sidx gw_87 dX4_readTest_6) (
    gm_cn 10 (gm_m_istore _) (gm_s_istore_n dX4_readTest_9 rfl (by decide)) (
    gm_cn 11 (gm_m_iload _) (gm_s_iload_n dX4_readTest_10 rfl) (
    gm_cn 14 (gm_m_ifge _) (gm_s_ifge (bpc := bpX4_readTest) (b := 1) dX4_readTest_11 rfl) (
    gm_cn 15 (gm_m_push _) (gm_s_iconst dX4_readTest_14) (
    gm_cn 0 gm_m_zret (gm_s_zret dX4_readTest_15 rfl 0) (
    trivial))))))))),
  gm_cn 17 (gm_m_aload _) (gm_s_aload_n dX4_readTest_16 rfl) (
    gm_cn 18 gm_m_dup (gm_s_dup dX4_readTest_17) (
    gm_cn 21 (gm_m_getI _ _) (gf_getI_4_2 gw_71 dX4_readTest_18) (
    gm_cn 22 (gm_m_push _) (gm_s_iconst dX4_readTest_21) (
    gm_cn 23 (gm_m_op2 _) (gm_s_iadd dX4_readTest_22) (
    gm_cn 26 (gm_m_putI _ _) (gf_putI_4_2 gw_71 dX4_readTest_23) (
    gm_cn 28 (gm_m_push _) (gm_s_ldcs (i := 5) rfl rfl rfl dX4_readTest_26) (
    gm_cn 29 (gm_m_aload _) (gm_s_aload_n dX4_readTest_28 rfl) (
    gm_cn 32 (gm_m_vcall _ _ _) (gcl_X4_nextSign gw_74 dX4_readTest_29) (
    gm_cn 35 gm_m_sidx (gm_s_sidx gw_87 dX4_readTest_32) (
    gm_cn 36 (gm_m_istore _) (gm_s_istore_n dX4_readTest_35 rfl (by decide)) (
    gm_cn 37 (gm_m_iload _) (gm_s_iload_n dX4_readTest_36 rfl) (
    gm_cn 40 (gm_m_ifge _) (gm_s_ifge (bpc := bpX4_readTest) (b := 2) dX4_readTest_37 rfl) (
    gm_cn 41 (gm_m_push _) (gm_s_iconst dX4_readTest_40) (
    gm_cn 0 gm_m_zret (gm_s_zret dX4_readTest_41 rfl 0) (
    trivial))))))))))))))),
  gm_cn 43 (gm_m_aload _) (gm_s_aload_n dX4_readTest_42 rfl) (
    gm_cn 44 gm_m_dup (gm_s_dup dX4_readTest_43) (
    gm_cn 47 (gm_m_getI _ _) (gf_getI_4_2 gw_71 dX4_readTest_44) (
    gm_cn 48 (gm_m_push _) (gm_s_iconst dX4_readTest_47) (
    gm_cn 49 (gm_m_op2 _) (gm_s_iadd dX4_readTest_48) (
    gm_cn 52 (gm_m_putI _ _) (gf_putI_4_2 gw_71 dX4_readTest_49) (
    gm_cn 53 (gm_m_aload _) (gm_s_aload_n dX4_readTest_52 rfl) (
    gm_cn 56 (gm_m_vcall _ _ _) (gcl_X4_readNumber gw_76 dX4_readTest_53) (
    gm_cn 58 (gm_m_istore _) (gm_s_istore dX4_readTest_56 (by decide)) (
    gm_cn 60 (gm_m_iload _) (gm_s_iload dX4_readTest_58) (
    gm_cn 63 (gm_m_ifge _) (gm_s_ifge (bpc := bpX4_readTest) (b := 3) dX4_readTest_60 rfl) (
    gm_cn 64 (gm_m_push _) (gm_s_iconst dX4_readTest_63) (
    gm_cn 0 gm_m_zret (gm_s_zret dX4_readTest_64 rfl 0) (
    trivial))))))))))))),
  gm_cn 66 (gm_m_aload _) (gm_s_aload_n dX4_readTest_65 rfl) (
    gm_cn 67 (gm_m_push _) (gm_s_iconst dX4_readTest_66) (
    gm_cn 68 (gm_m_iload _) (gm_s_iload_n dX4_readTest_67 rfl) (
    gm_cn 69 (gm_m_op2 _) (gm_s_imul dX4_readTest_68) (
    gm_cn 70 (gm_m_iload _) (gm_s_iload_n dX4_readTest_69 rfl) (
    gm_cn 71 (gm_m_op2 _) (gm_s_iadd dX4_readTest_70) (
    gm_cn 73 (gm_m_iload _) (gm_s_iload dX4_readTest_71) (
    gm_cn 76 (gm_m_vcall _ _ _) (gcl_X0_addStep gw_85 dX4_readTest_73) (
    gm_cn 77 gm_m_pop1 (gm_s_pop dX4_readTest_76) (
    gm_cn 78 (gm_m_push _) (gm_s_iconst dX4_readTest_77) (
    gm_cn 0 gm_m_zret (gm_s_zret dX4_readTest_78 rfl 0) (
    trivial))))))))))), trivial⟩
theorem dX4_readNumber_0 : decode cX4_readNumber 0 = .ok (.iconst (-1), 1) := by decide +kernel
theorem dX4_readNumber_1 : decode cX4_readNumber 1 = .ok (.istore_n 1, 1) := by decide +kernel
theorem dX4_readNumber_2 : decode cX4_readNumber 2 = .ok (.iconst 0, 1) := by decide +kernel
theorem dX4_readNumber_3 : decode cX4_readNumber 3 = .ok (.istore_n 2, 1) := by decide +kernel
theorem dX4_readNumber_4 : decode cX4_readNumber 4 = .ok (.iload_n 2, 1) := by decide +kernel
theorem dX4_readNumber_5 : decode cX4_readNumber 5 = .ok (.iconst 2, 1) := by decide +kernel
theorem dX4_readNumber_6 : decode cX4_readNumber 6 = .ok (.if_icmp .ge 54, 3) := by decide +kernel
theorem dX4_readNumber_9 : decode cX4_readNumber 9 = .ok (.aload_n 0, 1) := by decide +kernel
theorem dX4_readNumber_10 : decode cX4_readNumber 10 = .ok (.invokevirtual 35, 3) := by decide +kernel
theorem dX4_readNumber_13 : decode cX4_readNumber 13 = .ok (.bipush 48, 2) := by decide +kernel
theorem dX4_readNumber_15 : decode cX4_readNumber 15 = .ok (.if_icmp .lt 45, 3) := by decide +kernel
theorem dX4_readNumber_18 : decode cX4_readNumber 18 = .ok (.aload_n 0, 1) := by decide +kernel
theorem dX4_readNumber_19 : decode cX4_readNumber 19 = .ok (.invokevirtual 35, 3) := by decide +kernel
theorem dX4_readNumber_22 : decode cX4_readNumber 22 = .ok (.bipush 57, 2) := by decide +kernel
theorem dX4_readNumber_24 : decode cX4_readNumber 24 = .ok (.if_icmp .gt 36, 3) := by decide +kernel
theorem dX4_readNumber_27 : decode cX4_readNumber 27 = .ok (.bipush 10, 2) := by decide +kernel
theorem dX4_readNumber_29 : decode cX4_readNumber 29 = .ok (.iconst 0, 1) := by decide +kernel
theorem dX4_readNumber_30 : decode cX4_readNumber 30 = .ok (.iload_n 1, 1) := by decide +kernel
theorem dX4_readNumber_31 : decode cX4_readNumber 31 = .ok (.invokestatic 103, 3) := by decide +kernel
theorem dX4_readNumber_34 : decode cX4_readNumber 34 = .ok (.imul, 1) := by decide +kernel
theorem dX4_readNumber_35 : decode cX4_readNumber 35 = .ok (.aload_n 0, 1) := by decide +kernel
theorem dX4_readNumber_36 : decode cX4_readNumber 36 = .ok (.invokevirtual 35, 3) := by decide +kernel
theorem dX4_readNumber_39 : decode cX4_readNumber 39 = .ok (.iadd, 1) := by decide +kernel
theorem dX4_readNumber_40 : decode cX4_readNumber 40 = .ok (.bipush 48, 2) := by decide +kernel
theorem dX4_readNumber_42 : decode cX4_readNumber 42 = .ok (.isub, 1) := by decide +kernel
theorem dX4_readNumber_43 : decode cX4_readNumber 43 = .ok (.istore_n 1, 1) := by decide +kernel
theorem dX4_readNumber_44 : decode cX4_readNumber 44 = .ok (.aload_n 0, 1) := by decide +kernel
theorem dX4_readNumber_45 : decode cX4_readNumber 45 = .ok (.dup, 1) := by decide +kernel
theorem dX4_readNumber_46 : decode cX4_readNumber 46 = .ok (.getfield 24, 3) := by decide +kernel
theorem dX4_readNumber_49 : decode cX4_readNumber 49 = .ok (.iconst 1, 1) := by decide +kernel
theorem dX4_readNumber_50 : decode cX4_readNumber 50 = .ok (.iadd, 1) := by decide +kernel
theorem dX4_readNumber_51 : decode cX4_readNumber 51 = .ok (.putfield 24, 3) := by decide +kernel
theorem dX4_readNumber_54 : decode cX4_readNumber 54 = .ok (.iinc 2 1, 3) := by decide +kernel
theorem dX4_readNumber_57 : decode cX4_readNumber 57 = .ok (.goto (-53), 3) := by decide +kernel
theorem dX4_readNumber_60 : decode cX4_readNumber 60 = .ok (.iload_n 1, 1) := by decide +kernel
theorem dX4_readNumber_61 : decode cX4_readNumber 61 = .ok (.ireturn, 1) := by decide +kernel
def pX4_readNumber : List (List gm_A) := [[(gm_push (.inl (-1))), (gm_istore 1), (gm_push (.inl 0)), (gm_istore 2), (gm_goto 1)],
  [(gm_iload 2), (gm_push (.inl 2)), (gm_cge 2), (gm_aload 0), (gm_vcall 4 35 1), (gm_push (.inl 48)), (gm_clt 2), (gm_aload 0), (gm_vcall 4 35 1), (gm_push (.inl 57)), (gm_cgt 2), (gm_push (.inl 10)), (gm_push (.inl 0)), (gm_iload 1), gm_max, (gm_op2 gm_mul), (gm_aload 0), (gm_vcall 4 35 1), (gm_op2 gm_add), (gm_push (.inl 48)), (gm_op2 gm_sub), (gm_istore 1), (gm_aload 0), gm_dup, (gm_getI 4 402), (gm_push (.inl 1)), (gm_op2 gm_add), (gm_putI 4 402), (gm_iinc 2 1), (gm_goto 1)],
  [(gm_iload 1), gm_iret]]
def bpX4_readNumber : Nat → Nat := fun b => ([0, 4, 60] : List Nat).getD b 0
set_option maxRecDepth 100000 in
theorem tX4_readNumber {D : va_G} {sz : Nat} {ad : Nat → Nat} {cA : Nat → ClassId} {xs : Int → Int} {Ln : Int} {l : Launch} : gm_SB D sz ad cA xs Ln l gm_mt cX4_readNumber "LongNoon$Reader" 3 false 1 bpX4_readNumber 0 pX4_readNumber :=
  ⟨gm_cn 1 (gm_m_push _) (gm_s_iconst dX4_readNumber_0) (
    gm_cn 2 (gm_m_istore _) (gm_s_istore_n dX4_readNumber_1 rfl (by decide)) (
    gm_cn 3 (gm_m_push _) (gm_s_iconst dX4_readNumber_2) (
    gm_cn 4 (gm_m_istore _) (gm_s_istore_n dX4_readNumber_3 rfl (by decide)) (
    gm_cn 0 (gm_m_goto _) (gm_s_fall (bpc := bpX4_readNumber) (b := 1) rfl 0) (
    trivial))))),
  gm_cn 5 (gm_m_iload _) (gm_s_iload_n dX4_readNumber_4 rfl) (
    gm_cn 6 (gm_m_push _) (gm_s_iconst dX4_readNumber_5) (
    gm_cn 9 (gm_m_cge _) (gm_s_cge (bpc := bpX4_readNumber) (b := 2) dX4_readNumber_6 rfl) (
    gm_cn 10 (gm_m_aload _) (gm_s_aload_n dX4_readNumber_9 rfl) (
    gm_cn 13 (gm_m_vcall _ _ _) (gcl_X4_nextSign gw_74 dX4_readNumber_10) (
    gm_cn 15 (gm_m_push _) (gm_s_bipush dX4_readNumber_13 rfl) (
    gm_cn 18 (gm_m_clt _) (gm_s_clt (bpc := bpX4_readNumber) (b := 2) dX4_readNumber_15 rfl) (
    gm_cn 19 (gm_m_aload _) (gm_s_aload_n dX4_readNumber_18 rfl) (
    gm_cn 22 (gm_m_vcall _ _ _) (gcl_X4_nextSign gw_74 dX4_readNumber_19) (
    gm_cn 24 (gm_m_push _) (gm_s_bipush dX4_readNumber_22 rfl) (
    gm_cn 27 (gm_m_cgt _) (gm_s_cgt (bpc := bpX4_readNumber) (b := 2) dX4_readNumber_24 rfl) (
    gm_cn 29 (gm_m_push _) (gm_s_bipush dX4_readNumber_27 rfl) (
    gm_cn 30 (gm_m_push _) (gm_s_iconst dX4_readNumber_29) (
    gm_cn 31 (gm_m_iload _) (gm_s_iload_n dX4_readNumber_30 rfl) (
    gm_cn 34 gm_m_max (gm_s_max gw_88 gw_46 gw_43 gw_47 dX4_readNumber_31) (
    gm_cn 35 (gm_m_op2 _) (gm_s_imul dX4_readNumber_34) (
    gm_cn 36 (gm_m_aload _) (gm_s_aload_n dX4_readNumber_35 rfl) (
    gm_cn 39 (gm_m_vcall _ _ _) (gcl_X4_nextSign gw_74 dX4_readNumber_36) (
    gm_cn 40 (gm_m_op2 _) (gm_s_iadd dX4_readNumber_39) (
    gm_cn 42 (gm_m_push _) (gm_s_bipush dX4_readNumber_40 rfl) (
    gm_cn 43 (gm_m_op2 _) (gm_s_isub dX4_readNumber_42) (
    gm_cn 44 (gm_m_istore _) (gm_s_istore_n dX4_readNumber_43 rfl (by decide)) (
    gm_cn 45 (gm_m_aload _) (gm_s_aload_n dX4_readNumber_44 rfl) (
    gm_cn 46 gm_m_dup (gm_s_dup dX4_readNumber_45) (
    gm_cn 49 (gm_m_getI _ _) (gf_getI_4_2 gw_71 dX4_readNumber_46) (
    gm_cn 50 (gm_m_push _) (gm_s_iconst dX4_readNumber_49) (
    gm_cn 51 (gm_m_op2 _) (gm_s_iadd dX4_readNumber_50) (
    gm_cn 54 (gm_m_putI _ _) (gf_putI_4_2 gw_71 dX4_readNumber_51) (
    gm_cn 57 (gm_m_iinc _ _) (gm_s_iinc dX4_readNumber_54 (by decide)) (
    gm_cn 0 (gm_m_goto _) (gm_s_goto (bpc := bpX4_readNumber) (b := 1) dX4_readNumber_57 rfl 0) (
    trivial)))))))))))))))))))))))))))))),
  gm_cn 61 (gm_m_iload _) (gm_s_iload_n dX4_readNumber_60 rfl) (
    gm_cn 0 gm_m_iret (gm_s_iret dX4_readNumber_61 rfl 0) (
    trivial)), trivial⟩
theorem dX4_readWord_0 : decode cX4_readWord 0 = .ok (.iconst 0, 1) := by decide +kernel
theorem dX4_readWord_1 : decode cX4_readWord 1 = .ok (.istore_n 2, 1) := by decide +kernel
theorem dX4_readWord_2 : decode cX4_readWord 2 = .ok (.iload_n 2, 1) := by decide +kernel
theorem dX4_readWord_3 : decode cX4_readWord 3 = .ok (.aload_n 1, 1) := by decide +kernel
theorem dX4_readWord_4 : decode cX4_readWord 4 = .ok (.invokevirtual 108, 3) := by decide +kernel
theorem dX4_readWord_7 : decode cX4_readWord 7 = .ok (.if_icmp .ge 23, 3) := by decide +kernel
theorem dX4_readWord_10 : decode cX4_readWord 10 = .ok (.aload_n 0, 1) := by decide +kernel
theorem dX4_readWord_11 : decode cX4_readWord 11 = .ok (.aload_n 1, 1) := by decide +kernel
theorem dX4_readWord_12 : decode cX4_readWord 12 = .ok (.iload_n 2, 1) := by decide +kernel
theorem dX4_readWord_13 : decode cX4_readWord 13 = .ok (.invokevirtual 110, 3) := by decide +kernel
theorem dX4_readWord_16 : decode cX4_readWord 16 = .ok (.invokevirtual 31, 3) := by decide +kernel
theorem dX4_readWord_19 : decode cX4_readWord 19 = .ok (.ifCond .ne 5, 3) := by decide +kernel
theorem dX4_readWord_22 : decode cX4_readWord 22 = .ok (.iconst 0, 1) := by decide +kernel
theorem dX4_readWord_23 : decode cX4_readWord 23 = .ok (.ireturn, 1) := by decide +kernel
theorem dX4_readWord_24 : decode cX4_readWord 24 = .ok (.iinc 2 1, 3) := by decide +kernel
theorem dX4_readWord_27 : decode cX4_readWord 27 = .ok (.goto (-25), 3) := by decide +kernel
theorem dX4_readWord_30 : decode cX4_readWord 30 = .ok (.iconst 1, 1) := by decide +kernel
theorem dX4_readWord_31 : decode cX4_readWord 31 = .ok (.ireturn, 1) := by decide +kernel
def pX4_readWord : List (List gm_A) := [[(gm_push (.inl 0)), (gm_istore 2), (gm_goto 1)],
  [(gm_iload 2), (gm_aload 1), gm_slen, (gm_cge 3), (gm_aload 0), (gm_aload 1), (gm_iload 2), gm_schar, (gm_vcall 4 34 2), (gm_ifne 2), (gm_push (.inl 0)), gm_zret],
  [(gm_iinc 2 1), (gm_goto 1)],
  [(gm_push (.inl 1)), gm_zret]]
def bpX4_readWord : Nat → Nat := fun b => ([0, 2, 24, 30] : List Nat).getD b 0
set_option maxRecDepth 100000 in
theorem tX4_readWord {D : va_G} {sz : Nat} {ad : Nat → Nat} {cA : Nat → ClassId} {xs : Int → Int} {Ln : Int} {l : Launch} : gm_SB D sz ad cA xs Ln l gm_mt cX4_readWord "LongNoon$Reader" 3 false 2 bpX4_readWord 0 pX4_readWord :=
  ⟨gm_cn 1 (gm_m_push _) (gm_s_iconst dX4_readWord_0) (
    gm_cn 2 (gm_m_istore _) (gm_s_istore_n dX4_readWord_1 rfl (by decide)) (
    gm_cn 0 (gm_m_goto _) (gm_s_fall (bpc := bpX4_readWord) (b := 1) rfl 0) (
    trivial))),
  gm_cn 3 (gm_m_iload _) (gm_s_iload_n dX4_readWord_2 rfl) (
    gm_cn 4 (gm_m_aload _) (gm_s_aload_n dX4_readWord_3 rfl) (
    gm_cn 7 gm_m_slen (gm_s_slen gw_89 dX4_readWord_4) (
    gm_cn 10 (gm_m_cge _) (gm_s_cge (bpc := bpX4_readWord) (b := 3) dX4_readWord_7 rfl) (
    gm_cn 11 (gm_m_aload _) (gm_s_aload_n dX4_readWord_10 rfl) (
    gm_cn 12 (gm_m_aload _) (gm_s_aload_n dX4_readWord_11 rfl) (
    gm_cn 13 (gm_m_iload _) (gm_s_iload_n dX4_readWord_12 rfl) (
    gm_cn 16 gm_m_schar (gm_s_schar gw_90 dX4_readWord_13) (
    gm_cn 19 (gm_m_vcall _ _ _) (gcl_X4_readSign gw_73 dX4_readWord_16) (
    gm_cn 22 (gm_m_ifne _) (gm_s_ifne (bpc := bpX4_readWord) (b := 2) dX4_readWord_19 rfl) (
    gm_cn 23 (gm_m_push _) (gm_s_iconst dX4_readWord_22) (
    gm_cn 0 gm_m_zret (gm_s_zret dX4_readWord_23 rfl 0) (
    trivial)))))))))))),
  gm_cn 27 (gm_m_iinc _ _) (gm_s_iinc dX4_readWord_24 (by decide)) (
    gm_cn 0 (gm_m_goto _) (gm_s_goto (bpc := bpX4_readWord) (b := 1) dX4_readWord_27 rfl 0) (
    trivial)),
  gm_cn 31 (gm_m_push _) (gm_s_iconst dX4_readWord_30) (
    gm_cn 0 gm_m_zret (gm_s_zret dX4_readWord_31 rfl 0) (
    trivial)), trivial⟩
theorem dX4_readSign_0 : decode cX4_readSign 0 = .ok (.aload_n 0, 1) := by decide +kernel
theorem dX4_readSign_1 : decode cX4_readSign 1 = .ok (.getfield 24, 3) := by decide +kernel
theorem dX4_readSign_4 : decode cX4_readSign 4 = .ok (.aload_n 0, 1) := by decide +kernel
theorem dX4_readSign_5 : decode cX4_readSign 5 = .ok (.getfield 15, 3) := by decide +kernel
theorem dX4_readSign_8 : decode cX4_readSign 8 = .ok (.if_icmp .ge 28, 3) := by decide +kernel
theorem dX4_readSign_11 : decode cX4_readSign 11 = .ok (.aload_n 0, 1) := by decide +kernel
theorem dX4_readSign_12 : decode cX4_readSign 12 = .ok (.getfield 24, 3) := by decide +kernel
theorem dX4_readSign_15 : decode cX4_readSign 15 = .ok (.aload_n 0, 1) := by decide +kernel
theorem dX4_readSign_16 : decode cX4_readSign 16 = .ok (.getfield 9, 3) := by decide +kernel
theorem dX4_readSign_19 : decode cX4_readSign 19 = .ok (.arraylength, 1) := by decide +kernel
theorem dX4_readSign_20 : decode cX4_readSign 20 = .ok (.if_icmp .ge 16, 3) := by decide +kernel
theorem dX4_readSign_23 : decode cX4_readSign 23 = .ok (.aload_n 0, 1) := by decide +kernel
theorem dX4_readSign_24 : decode cX4_readSign 24 = .ok (.getfield 9, 3) := by decide +kernel
theorem dX4_readSign_27 : decode cX4_readSign 27 = .ok (.aload_n 0, 1) := by decide +kernel
theorem dX4_readSign_28 : decode cX4_readSign 28 = .ok (.getfield 24, 3) := by decide +kernel
theorem dX4_readSign_31 : decode cX4_readSign 31 = .ok (.caload, 1) := by decide +kernel
theorem dX4_readSign_32 : decode cX4_readSign 32 = .ok (.iload_n 1, 1) := by decide +kernel
theorem dX4_readSign_33 : decode cX4_readSign 33 = .ok (.if_icmp .eq 5, 3) := by decide +kernel
theorem dX4_readSign_36 : decode cX4_readSign 36 = .ok (.iconst 0, 1) := by decide +kernel
theorem dX4_readSign_37 : decode cX4_readSign 37 = .ok (.ireturn, 1) := by decide +kernel
theorem dX4_readSign_38 : decode cX4_readSign 38 = .ok (.aload_n 0, 1) := by decide +kernel
theorem dX4_readSign_39 : decode cX4_readSign 39 = .ok (.dup, 1) := by decide +kernel
theorem dX4_readSign_40 : decode cX4_readSign 40 = .ok (.getfield 24, 3) := by decide +kernel
theorem dX4_readSign_43 : decode cX4_readSign 43 = .ok (.iconst 1, 1) := by decide +kernel
theorem dX4_readSign_44 : decode cX4_readSign 44 = .ok (.iadd, 1) := by decide +kernel
theorem dX4_readSign_45 : decode cX4_readSign 45 = .ok (.putfield 24, 3) := by decide +kernel
theorem dX4_readSign_48 : decode cX4_readSign 48 = .ok (.iconst 1, 1) := by decide +kernel
theorem dX4_readSign_49 : decode cX4_readSign 49 = .ok (.ireturn, 1) := by decide +kernel
def pX4_readSign : List (List gm_A) := [[(gm_aload 0), (gm_getI 4 402), (gm_aload 0), (gm_getI 4 401), (gm_cge 1), (gm_aload 0), (gm_getI 4 402), (gm_aload 0), (gm_getR 4 400), gm_alen, (gm_cge 1), (gm_aload 0), (gm_getR 4 400), (gm_aload 0), (gm_getI 4 402), gm_cald, (gm_iload 1), (gm_ceq 2), (gm_goto 1)],
  [(gm_push (.inl 0)), gm_zret],
  [(gm_aload 0), gm_dup, (gm_getI 4 402), (gm_push (.inl 1)), (gm_op2 gm_add), (gm_putI 4 402), (gm_push (.inl 1)), gm_zret]]
def bpX4_readSign : Nat → Nat := fun b => ([0, 36, 38] : List Nat).getD b 0
set_option maxRecDepth 100000 in
theorem tX4_readSign {D : va_G} {sz : Nat} {ad : Nat → Nat} {cA : Nat → ClassId} {xs : Int → Int} {Ln : Int} {l : Launch} : gm_SB D sz ad cA xs Ln l gm_mt cX4_readSign "LongNoon$Reader" 2 false 2 bpX4_readSign 0 pX4_readSign :=
  ⟨gm_cn 1 (gm_m_aload _) (gm_s_aload_n dX4_readSign_0 rfl) (
    gm_cn 4 (gm_m_getI _ _) (gf_getI_4_2 gw_71 dX4_readSign_1) (
    gm_cn 5 (gm_m_aload _) (gm_s_aload_n dX4_readSign_4 rfl) (
    gm_cn 8 (gm_m_getI _ _) (gf_getI_4_1 gw_69 dX4_readSign_5) (
    gm_cn 11 (gm_m_cge _) (gm_s_cge (bpc := bpX4_readSign) (b := 1) dX4_readSign_8 rfl) (
    gm_cn 12 (gm_m_aload _) (gm_s_aload_n dX4_readSign_11 rfl) (
    gm_cn 15 (gm_m_getI _ _) (gf_getI_4_2 gw_71 dX4_readSign_12) (
    gm_cn 16 (gm_m_aload _) (gm_s_aload_n dX4_readSign_15 rfl) (
    gm_cn 19 (gm_m_getR _ _) (gf_getR_4_0 gw_68 dX4_readSign_16) (
    gm_cn 20 gm_m_alen (gm_s_alen dX4_readSign_19) (
    gm_cn 23 (gm_m_cge _) (gm_s_cge (bpc := bpX4_readSign) (b := 1) dX4_readSign_20 rfl) (
    gm_cn 24 (gm_m_aload _) (gm_s_aload_n dX4_readSign_23 rfl) (
    gm_cn 27 (gm_m_getR _ _) (gf_getR_4_0 gw_68 dX4_readSign_24) (
    gm_cn 28 (gm_m_aload _) (gm_s_aload_n dX4_readSign_27 rfl) (
    gm_cn 31 (gm_m_getI _ _) (gf_getI_4_2 gw_71 dX4_readSign_28) (
    gm_cn 32 gm_m_cald (gm_s_cald dX4_readSign_31) (
    gm_cn 33 (gm_m_iload _) (gm_s_iload_n dX4_readSign_32 rfl) (
    gm_cn 36 (gm_m_ceq _) (gm_s_ceq (bpc := bpX4_readSign) (b := 2) dX4_readSign_33 rfl) (
    gm_cn 0 (gm_m_goto _) (gm_s_fall (bpc := bpX4_readSign) (b := 1) rfl 0) (
    trivial))))))))))))))))))),
  gm_cn 37 (gm_m_push _) (gm_s_iconst dX4_readSign_36) (
    gm_cn 0 gm_m_zret (gm_s_zret dX4_readSign_37 rfl 0) (
    trivial)),
  gm_cn 39 (gm_m_aload _) (gm_s_aload_n dX4_readSign_38 rfl) (
    gm_cn 40 gm_m_dup (gm_s_dup dX4_readSign_39) (
    gm_cn 43 (gm_m_getI _ _) (gf_getI_4_2 gw_71 dX4_readSign_40) (
    gm_cn 44 (gm_m_push _) (gm_s_iconst dX4_readSign_43) (
    gm_cn 45 (gm_m_op2 _) (gm_s_iadd dX4_readSign_44) (
    gm_cn 48 (gm_m_putI _ _) (gf_putI_4_2 gw_71 dX4_readSign_45) (
    gm_cn 49 (gm_m_push _) (gm_s_iconst dX4_readSign_48) (
    gm_cn 0 gm_m_zret (gm_s_zret dX4_readSign_49 rfl 0) (
    trivial)))))))), trivial⟩
theorem dX4_nextSign_0 : decode cX4_nextSign 0 = .ok (.aload_n 0, 1) := by decide +kernel
theorem dX4_nextSign_1 : decode cX4_nextSign 1 = .ok (.getfield 24, 3) := by decide +kernel
theorem dX4_nextSign_4 : decode cX4_nextSign 4 = .ok (.ifCond .lt 38, 3) := by decide +kernel
theorem dX4_nextSign_7 : decode cX4_nextSign 7 = .ok (.aload_n 0, 1) := by decide +kernel
theorem dX4_nextSign_8 : decode cX4_nextSign 8 = .ok (.getfield 24, 3) := by decide +kernel
theorem dX4_nextSign_11 : decode cX4_nextSign 11 = .ok (.aload_n 0, 1) := by decide +kernel
theorem dX4_nextSign_12 : decode cX4_nextSign 12 = .ok (.getfield 15, 3) := by decide +kernel
theorem dX4_nextSign_15 : decode cX4_nextSign 15 = .ok (.if_icmp .ge 27, 3) := by decide +kernel
theorem dX4_nextSign_18 : decode cX4_nextSign 18 = .ok (.aload_n 0, 1) := by decide +kernel
theorem dX4_nextSign_19 : decode cX4_nextSign 19 = .ok (.getfield 24, 3) := by decide +kernel
theorem dX4_nextSign_22 : decode cX4_nextSign 22 = .ok (.aload_n 0, 1) := by decide +kernel
theorem dX4_nextSign_23 : decode cX4_nextSign 23 = .ok (.getfield 9, 3) := by decide +kernel
theorem dX4_nextSign_26 : decode cX4_nextSign 26 = .ok (.arraylength, 1) := by decide +kernel
theorem dX4_nextSign_27 : decode cX4_nextSign 27 = .ok (.if_icmp .ge 15, 3) := by decide +kernel
theorem dX4_nextSign_30 : decode cX4_nextSign 30 = .ok (.aload_n 0, 1) := by decide +kernel
theorem dX4_nextSign_31 : decode cX4_nextSign 31 = .ok (.getfield 9, 3) := by decide +kernel
theorem dX4_nextSign_34 : decode cX4_nextSign 34 = .ok (.aload_n 0, 1) := by decide +kernel
theorem dX4_nextSign_35 : decode cX4_nextSign 35 = .ok (.getfield 24, 3) := by decide +kernel
theorem dX4_nextSign_38 : decode cX4_nextSign 38 = .ok (.caload, 1) := by decide +kernel
theorem dX4_nextSign_39 : decode cX4_nextSign 39 = .ok (.goto 4, 3) := by decide +kernel
theorem dX4_nextSign_42 : decode cX4_nextSign 42 = .ok (.iconst 0, 1) := by decide +kernel
theorem dX4_nextSign_43 : decode cX4_nextSign 43 = .ok (.ireturn, 1) := by decide +kernel
def pX4_nextSign : List (List gm_A) := [[(gm_aload 0), (gm_getI 4 402), (gm_iflt 1), (gm_aload 0), (gm_getI 4 402), (gm_aload 0), (gm_getI 4 401), (gm_cge 1), (gm_aload 0), (gm_getI 4 402), (gm_aload 0), (gm_getR 4 400), gm_alen, (gm_cge 1), (gm_aload 0), (gm_getR 4 400), (gm_aload 0), (gm_getI 4 402), gm_cald, (gm_goto 2)],
  [(gm_push (.inl 0)), (gm_goto 2)],
  [gm_cret]]
def bpX4_nextSign : Nat → Nat := fun b => ([0, 42, 43] : List Nat).getD b 0
set_option maxRecDepth 100000 in
theorem tX4_nextSign {D : va_G} {sz : Nat} {ad : Nat → Nat} {cA : Nat → ClassId} {xs : Int → Int} {Ln : Int} {l : Launch} : gm_SB D sz ad cA xs Ln l gm_mt cX4_nextSign "LongNoon$Reader" 1 false 3 bpX4_nextSign 0 pX4_nextSign :=
  ⟨gm_cn 1 (gm_m_aload _) (gm_s_aload_n dX4_nextSign_0 rfl) (
    gm_cn 4 (gm_m_getI _ _) (gf_getI_4_2 gw_71 dX4_nextSign_1) (
    gm_cn 7 (gm_m_iflt _) (gm_s_iflt (bpc := bpX4_nextSign) (b := 1) dX4_nextSign_4 rfl) (
    gm_cn 8 (gm_m_aload _) (gm_s_aload_n dX4_nextSign_7 rfl) (
    gm_cn 11 (gm_m_getI _ _) (gf_getI_4_2 gw_71 dX4_nextSign_8) (
    gm_cn 12 (gm_m_aload _) (gm_s_aload_n dX4_nextSign_11 rfl) (
    gm_cn 15 (gm_m_getI _ _) (gf_getI_4_1 gw_69 dX4_nextSign_12) (
    gm_cn 18 (gm_m_cge _) (gm_s_cge (bpc := bpX4_nextSign) (b := 1) dX4_nextSign_15 rfl) (
    gm_cn 19 (gm_m_aload _) (gm_s_aload_n dX4_nextSign_18 rfl) (
    gm_cn 22 (gm_m_getI _ _) (gf_getI_4_2 gw_71 dX4_nextSign_19) (
    gm_cn 23 (gm_m_aload _) (gm_s_aload_n dX4_nextSign_22 rfl) (
    gm_cn 26 (gm_m_getR _ _) (gf_getR_4_0 gw_68 dX4_nextSign_23) (
    gm_cn 27 gm_m_alen (gm_s_alen dX4_nextSign_26) (
    gm_cn 30 (gm_m_cge _) (gm_s_cge (bpc := bpX4_nextSign) (b := 1) dX4_nextSign_27 rfl) (
    gm_cn 31 (gm_m_aload _) (gm_s_aload_n dX4_nextSign_30 rfl) (
    gm_cn 34 (gm_m_getR _ _) (gf_getR_4_0 gw_68 dX4_nextSign_31) (
    gm_cn 35 (gm_m_aload _) (gm_s_aload_n dX4_nextSign_34 rfl) (
    gm_cn 38 (gm_m_getI _ _) (gf_getI_4_2 gw_71 dX4_nextSign_35) (
    gm_cn 39 gm_m_cald (gm_s_cald dX4_nextSign_38) (
    gm_cn 0 (gm_m_goto _) (gm_s_goto (bpc := bpX4_nextSign) (b := 2) dX4_nextSign_39 rfl 0) (
    trivial)))))))))))))))))))),
  gm_cn 43 (gm_m_push _) (gm_s_iconst dX4_nextSign_42) (
    gm_cn 0 (gm_m_goto _) (gm_s_fall (bpc := bpX4_nextSign) (b := 2) rfl 0) (
    trivial)),
  gm_cn 0 gm_m_cret (gm_s_cret dX4_nextSign_43 rfl 0) (
    trivial), trivial⟩
theorem dX5_init_0 : decode cX5_init 0 = .ok (.aload_n 0, 1) := by decide +kernel
theorem dX5_init_1 : decode cX5_init 1 = .ok (.invokespecial 1, 3) := by decide +kernel
theorem dX5_init_4 : decode cX5_init 4 = .ok (.return_, 1) := by decide +kernel
def pX5_init : List (List gm_A) := [[(gm_aload 0), gm_oinit, gm_vret]]
def bpX5_init : Nat → Nat := fun b => ([0] : List Nat).getD b 0
set_option maxRecDepth 100000 in
theorem tX5_init {D : va_G} {sz : Nat} {ad : Nat → Nat} {cA : Nat → ClassId} {xs : Int → Int} {Ln : Int} {l : Launch} : gm_SB D sz ad cA xs Ln l gm_mt cX5_init "LongNoon$Store" 1 true 0 bpX5_init 0 pX5_init :=
  ⟨gm_cn 1 (gm_m_aload _) (gm_s_aload_n dX5_init_0 rfl) (
    gm_cn 4 gm_m_oinit (gm_s_oinit gw_91 gw_1 gw_2 dX5_init_1) (
    gm_cn 0 gm_m_vret (gm_s_vret dX5_init_4 rfl 0) (
    trivial))), trivial⟩
theorem dX5_become_0 : decode cX5_become 0 = .ok (.aload_n 0, 1) := by decide +kernel
theorem dX5_become_1 : decode cX5_become 1 = .ok (.aload_n 1, 1) := by decide +kernel
theorem dX5_become_2 : decode cX5_become 2 = .ok (.getfield 7, 3) := by decide +kernel
theorem dX5_become_5 : decode cX5_become 5 = .ok (.putfield 7, 3) := by decide +kernel
theorem dX5_become_8 : decode cX5_become 8 = .ok (.aload_n 0, 1) := by decide +kernel
theorem dX5_become_9 : decode cX5_become 9 = .ok (.aload_n 1, 1) := by decide +kernel
theorem dX5_become_10 : decode cX5_become 10 = .ok (.getfield 13, 3) := by decide +kernel
theorem dX5_become_13 : decode cX5_become 13 = .ok (.putfield 13, 3) := by decide +kernel
theorem dX5_become_16 : decode cX5_become 16 = .ok (.aload_n 0, 1) := by decide +kernel
theorem dX5_become_17 : decode cX5_become 17 = .ok (.aload_n 1, 1) := by decide +kernel
theorem dX5_become_18 : decode cX5_become 18 = .ok (.getfield 16, 3) := by decide +kernel
theorem dX5_become_21 : decode cX5_become 21 = .ok (.putfield 16, 3) := by decide +kernel
theorem dX5_become_24 : decode cX5_become 24 = .ok (.return_, 1) := by decide +kernel
def pX5_become : List (List gm_A) := [[(gm_aload 0), (gm_aload 1), (gm_getI 5 500), (gm_putI 5 500), (gm_aload 0), (gm_aload 1), (gm_getI 5 501), (gm_putI 5 501), (gm_aload 0), (gm_aload 1), (gm_getI 5 502), (gm_putI 5 502), gm_vret]]
def bpX5_become : Nat → Nat := fun b => ([0] : List Nat).getD b 0
set_option maxRecDepth 100000 in
theorem tX5_become {D : va_G} {sz : Nat} {ad : Nat → Nat} {cA : Nat → ClassId} {xs : Int → Int} {Ln : Int} {l : Launch} : gm_SB D sz ad cA xs Ln l gm_mt cX5_become "LongNoon$Store" 2 false 0 bpX5_become 0 pX5_become :=
  ⟨gm_cn 1 (gm_m_aload _) (gm_s_aload_n dX5_become_0 rfl) (
    gm_cn 2 (gm_m_aload _) (gm_s_aload_n dX5_become_1 rfl) (
    gm_cn 5 (gm_m_getI _ _) (gf_getI_5_0 gw_92 dX5_become_2) (
    gm_cn 8 (gm_m_putI _ _) (gf_putI_5_0 gw_92 dX5_become_5) (
    gm_cn 9 (gm_m_aload _) (gm_s_aload_n dX5_become_8 rfl) (
    gm_cn 10 (gm_m_aload _) (gm_s_aload_n dX5_become_9 rfl) (
    gm_cn 13 (gm_m_getI _ _) (gf_getI_5_1 gw_93 dX5_become_10) (
    gm_cn 16 (gm_m_putI _ _) (gf_putI_5_1 gw_93 dX5_become_13) (
    gm_cn 17 (gm_m_aload _) (gm_s_aload_n dX5_become_16 rfl) (
    gm_cn 18 (gm_m_aload _) (gm_s_aload_n dX5_become_17 rfl) (
    gm_cn 21 (gm_m_getI _ _) (gf_getI_5_2 gw_94 dX5_become_18) (
    gm_cn 24 (gm_m_putI _ _) (gf_putI_5_2 gw_94 dX5_become_21) (
    gm_cn 0 gm_m_vret (gm_s_vret dX5_become_24 rfl 0) (
    trivial))))))))))))), trivial⟩
theorem dX5_seep_0 : decode cX5_seep 0 = .ok (.aload_n 0, 1) := by decide +kernel
theorem dX5_seep_1 : decode cX5_seep 1 = .ok (.iconst 0, 1) := by decide +kernel
theorem dX5_seep_2 : decode cX5_seep 2 = .ok (.aload_n 0, 1) := by decide +kernel
theorem dX5_seep_3 : decode cX5_seep 3 = .ok (.getfield 7, 3) := by decide +kernel
theorem dX5_seep_6 : decode cX5_seep 6 = .ok (.aload_n 0, 1) := by decide +kernel
theorem dX5_seep_7 : decode cX5_seep 7 = .ok (.getfield 16, 3) := by decide +kernel
theorem dX5_seep_10 : decode cX5_seep 10 = .ok (.isub, 1) := by decide +kernel
theorem dX5_seep_11 : decode cX5_seep 11 = .ok (.invokestatic 19, 3) := by decide +kernel
theorem dX5_seep_14 : decode cX5_seep 14 = .ok (.putfield 7, 3) := by decide +kernel
theorem dX5_seep_17 : decode cX5_seep 17 = .ok (.return_, 1) := by decide +kernel
def pX5_seep : List (List gm_A) := [[(gm_aload 0), (gm_push (.inl 0)), (gm_aload 0), (gm_getI 5 500), (gm_aload 0), (gm_getI 5 502), (gm_op2 gm_sub), gm_max, (gm_putI 5 500), gm_vret]]
def bpX5_seep : Nat → Nat := fun b => ([0] : List Nat).getD b 0
set_option maxRecDepth 100000 in
theorem tX5_seep {D : va_G} {sz : Nat} {ad : Nat → Nat} {cA : Nat → ClassId} {xs : Int → Int} {Ln : Int} {l : Launch} : gm_SB D sz ad cA xs Ln l gm_mt cX5_seep "LongNoon$Store" 1 false 0 bpX5_seep 0 pX5_seep :=
  ⟨gm_cn 1 (gm_m_aload _) (gm_s_aload_n dX5_seep_0 rfl) (
    gm_cn 2 (gm_m_push _) (gm_s_iconst dX5_seep_1) (
    gm_cn 3 (gm_m_aload _) (gm_s_aload_n dX5_seep_2 rfl) (
    gm_cn 6 (gm_m_getI _ _) (gf_getI_5_0 gw_92 dX5_seep_3) (
    gm_cn 7 (gm_m_aload _) (gm_s_aload_n dX5_seep_6 rfl) (
    gm_cn 10 (gm_m_getI _ _) (gf_getI_5_2 gw_94 dX5_seep_7) (
    gm_cn 11 (gm_m_op2 _) (gm_s_isub dX5_seep_10) (
    gm_cn 14 gm_m_max (gm_s_max gw_95 gw_46 gw_43 gw_47 dX5_seep_11) (
    gm_cn 17 (gm_m_putI _ _) (gf_putI_5_0 gw_92 dX5_seep_14) (
    gm_cn 0 gm_m_vret (gm_s_vret dX5_seep_17 rfl 0) (
    trivial)))))))))), trivial⟩
theorem dX5_takeIn_0 : decode cX5_takeIn 0 = .ok (.iload_n 1, 1) := by decide +kernel
theorem dX5_takeIn_1 : decode cX5_takeIn 1 = .ok (.iconst 0, 1) := by decide +kernel
theorem dX5_takeIn_2 : decode cX5_takeIn 2 = .ok (.aload_n 0, 1) := by decide +kernel
theorem dX5_takeIn_3 : decode cX5_takeIn 3 = .ok (.getfield 13, 3) := by decide +kernel
theorem dX5_takeIn_6 : decode cX5_takeIn 6 = .ok (.aload_n 0, 1) := by decide +kernel
theorem dX5_takeIn_7 : decode cX5_takeIn 7 = .ok (.getfield 7, 3) := by decide +kernel
theorem dX5_takeIn_10 : decode cX5_takeIn 10 = .ok (.isub, 1) := by decide +kernel
theorem dX5_takeIn_11 : decode cX5_takeIn 11 = .ok (.invokestatic 19, 3) := by decide +kernel
theorem dX5_takeIn_14 : decode cX5_takeIn 14 = .ok (.invokestatic 25, 3) := by decide +kernel
theorem dX5_takeIn_17 : decode cX5_takeIn 17 = .ok (.istore_n 2, 1) := by decide +kernel
theorem dX5_takeIn_18 : decode cX5_takeIn 18 = .ok (.aload_n 0, 1) := by decide +kernel
theorem dX5_takeIn_19 : decode cX5_takeIn 19 = .ok (.dup, 1) := by decide +kernel
theorem dX5_takeIn_20 : decode cX5_takeIn 20 = .ok (.getfield 7, 3) := by decide +kernel
theorem dX5_takeIn_23 : decode cX5_takeIn 23 = .ok (.iload_n 2, 1) := by decide +kernel
theorem dX5_takeIn_24 : decode cX5_takeIn 24 = .ok (.iadd, 1) := by decide +kernel
theorem dX5_takeIn_25 : decode cX5_takeIn 25 = .ok (.putfield 7, 3) := by decide +kernel
theorem dX5_takeIn_28 : decode cX5_takeIn 28 = .ok (.iload_n 2, 1) := by decide +kernel
theorem dX5_takeIn_29 : decode cX5_takeIn 29 = .ok (.ireturn, 1) := by decide +kernel
def pX5_takeIn : List (List gm_A) := [[(gm_iload 1), (gm_push (.inl 0)), (gm_aload 0), (gm_getI 5 501), (gm_aload 0), (gm_getI 5 500), (gm_op2 gm_sub), gm_max, gm_min, (gm_istore 2), (gm_aload 0), gm_dup, (gm_getI 5 500), (gm_iload 2), (gm_op2 gm_add), (gm_putI 5 500), (gm_iload 2), gm_iret]]
def bpX5_takeIn : Nat → Nat := fun b => ([0] : List Nat).getD b 0
set_option maxRecDepth 100000 in
theorem tX5_takeIn {D : va_G} {sz : Nat} {ad : Nat → Nat} {cA : Nat → ClassId} {xs : Int → Int} {Ln : Int} {l : Launch} : gm_SB D sz ad cA xs Ln l gm_mt cX5_takeIn "LongNoon$Store" 3 false 1 bpX5_takeIn 0 pX5_takeIn :=
  ⟨gm_cn 1 (gm_m_iload _) (gm_s_iload_n dX5_takeIn_0 rfl) (
    gm_cn 2 (gm_m_push _) (gm_s_iconst dX5_takeIn_1) (
    gm_cn 3 (gm_m_aload _) (gm_s_aload_n dX5_takeIn_2 rfl) (
    gm_cn 6 (gm_m_getI _ _) (gf_getI_5_1 gw_93 dX5_takeIn_3) (
    gm_cn 7 (gm_m_aload _) (gm_s_aload_n dX5_takeIn_6 rfl) (
    gm_cn 10 (gm_m_getI _ _) (gf_getI_5_0 gw_92 dX5_takeIn_7) (
    gm_cn 11 (gm_m_op2 _) (gm_s_isub dX5_takeIn_10) (
    gm_cn 14 gm_m_max (gm_s_max gw_95 gw_46 gw_43 gw_47 dX5_takeIn_11) (
    gm_cn 17 gm_m_min (gm_s_min gw_96 gw_41 gw_43 gw_42 dX5_takeIn_14) (
    gm_cn 18 (gm_m_istore _) (gm_s_istore_n dX5_takeIn_17 rfl (by decide)) (
    gm_cn 19 (gm_m_aload _) (gm_s_aload_n dX5_takeIn_18 rfl) (
    gm_cn 20 gm_m_dup (gm_s_dup dX5_takeIn_19) (
    gm_cn 23 (gm_m_getI _ _) (gf_getI_5_0 gw_92 dX5_takeIn_20) (
    gm_cn 24 (gm_m_iload _) (gm_s_iload_n dX5_takeIn_23 rfl) (
    gm_cn 25 (gm_m_op2 _) (gm_s_iadd dX5_takeIn_24) (
    gm_cn 28 (gm_m_putI _ _) (gf_putI_5_0 gw_92 dX5_takeIn_25) (
    gm_cn 29 (gm_m_iload _) (gm_s_iload_n dX5_takeIn_28 rfl) (
    gm_cn 0 gm_m_iret (gm_s_iret dX5_takeIn_29 rfl 0) (
    trivial)))))))))))))))))), trivial⟩
theorem dX5_giveOut_0 : decode cX5_giveOut 0 = .ok (.iload_n 1, 1) := by decide +kernel
theorem dX5_giveOut_1 : decode cX5_giveOut 1 = .ok (.aload_n 0, 1) := by decide +kernel
theorem dX5_giveOut_2 : decode cX5_giveOut 2 = .ok (.getfield 7, 3) := by decide +kernel
theorem dX5_giveOut_5 : decode cX5_giveOut 5 = .ok (.invokestatic 25, 3) := by decide +kernel
theorem dX5_giveOut_8 : decode cX5_giveOut 8 = .ok (.istore_n 2, 1) := by decide +kernel
theorem dX5_giveOut_9 : decode cX5_giveOut 9 = .ok (.aload_n 0, 1) := by decide +kernel
theorem dX5_giveOut_10 : decode cX5_giveOut 10 = .ok (.dup, 1) := by decide +kernel
theorem dX5_giveOut_11 : decode cX5_giveOut 11 = .ok (.getfield 7, 3) := by decide +kernel
theorem dX5_giveOut_14 : decode cX5_giveOut 14 = .ok (.iload_n 2, 1) := by decide +kernel
theorem dX5_giveOut_15 : decode cX5_giveOut 15 = .ok (.isub, 1) := by decide +kernel
theorem dX5_giveOut_16 : decode cX5_giveOut 16 = .ok (.putfield 7, 3) := by decide +kernel
theorem dX5_giveOut_19 : decode cX5_giveOut 19 = .ok (.iload_n 2, 1) := by decide +kernel
theorem dX5_giveOut_20 : decode cX5_giveOut 20 = .ok (.ireturn, 1) := by decide +kernel
def pX5_giveOut : List (List gm_A) := [[(gm_iload 1), (gm_aload 0), (gm_getI 5 500), gm_min, (gm_istore 2), (gm_aload 0), gm_dup, (gm_getI 5 500), (gm_iload 2), (gm_op2 gm_sub), (gm_putI 5 500), (gm_iload 2), gm_iret]]
def bpX5_giveOut : Nat → Nat := fun b => ([0] : List Nat).getD b 0
set_option maxRecDepth 100000 in
theorem tX5_giveOut {D : va_G} {sz : Nat} {ad : Nat → Nat} {cA : Nat → ClassId} {xs : Int → Int} {Ln : Int} {l : Launch} : gm_SB D sz ad cA xs Ln l gm_mt cX5_giveOut "LongNoon$Store" 3 false 1 bpX5_giveOut 0 pX5_giveOut :=
  ⟨gm_cn 1 (gm_m_iload _) (gm_s_iload_n dX5_giveOut_0 rfl) (
    gm_cn 2 (gm_m_aload _) (gm_s_aload_n dX5_giveOut_1 rfl) (
    gm_cn 5 (gm_m_getI _ _) (gf_getI_5_0 gw_92 dX5_giveOut_2) (
    gm_cn 8 gm_m_min (gm_s_min gw_96 gw_41 gw_43 gw_42 dX5_giveOut_5) (
    gm_cn 9 (gm_m_istore _) (gm_s_istore_n dX5_giveOut_8 rfl (by decide)) (
    gm_cn 10 (gm_m_aload _) (gm_s_aload_n dX5_giveOut_9 rfl) (
    gm_cn 11 gm_m_dup (gm_s_dup dX5_giveOut_10) (
    gm_cn 14 (gm_m_getI _ _) (gf_getI_5_0 gw_92 dX5_giveOut_11) (
    gm_cn 15 (gm_m_iload _) (gm_s_iload_n dX5_giveOut_14 rfl) (
    gm_cn 16 (gm_m_op2 _) (gm_s_isub dX5_giveOut_15) (
    gm_cn 19 (gm_m_putI _ _) (gf_putI_5_0 gw_92 dX5_giveOut_16) (
    gm_cn 20 (gm_m_iload _) (gm_s_iload_n dX5_giveOut_19 rfl) (
    gm_cn 0 gm_m_iret (gm_s_iret dX5_giveOut_20 rfl 0) (
    trivial))))))))))))), trivial⟩
theorem dX6_init_0 : decode cX6_init 0 = .ok (.aload_n 0, 1) := by decide +kernel
theorem dX6_init_1 : decode cX6_init 1 = .ok (.invokespecial 3, 3) := by decide +kernel
theorem dX6_init_4 : decode cX6_init 4 = .ok (.aload_n 0, 1) := by decide +kernel
theorem dX6_init_5 : decode cX6_init 5 = .ok (.iconst (-1), 1) := by decide +kernel
theorem dX6_init_6 : decode cX6_init 6 = .ok (.putfield 11, 3) := by decide +kernel
theorem dX6_init_9 : decode cX6_init 9 = .ok (.aload_n 0, 1) := by decide +kernel
theorem dX6_init_10 : decode cX6_init 10 = .ok (.bipush 60, 2) := by decide +kernel
theorem dX6_init_12 : decode cX6_init 12 = .ok (.newarray .long, 2) := by decide +kernel
theorem dX6_init_14 : decode cX6_init 14 = .ok (.putfield 15, 3) := by decide +kernel
theorem dX6_init_17 : decode cX6_init 17 = .ok (.return_, 1) := by decide +kernel
def pX6_init : List (List gm_A) := [[(gm_aload 0), gm_oinit, (gm_aload 0), (gm_push (.inl (-1))), (gm_putI 6 600), (gm_aload 0), (gm_push (.inl 60)), (gm_newarr 21), (gm_putR 6 602), gm_vret]]
def bpX6_init : Nat → Nat := fun b => ([0] : List Nat).getD b 0
set_option maxRecDepth 100000 in
theorem tX6_init {D : va_G} {sz : Nat} {ad : Nat → Nat} {cA : Nat → ClassId} {xs : Int → Int} {Ln : Int} {l : Launch} : gm_SB D sz ad cA xs Ln l gm_mt cX6_init "LongNoon$Tape" 1 true 0 bpX6_init 0 pX6_init :=
  ⟨gm_cn 1 (gm_m_aload _) (gm_s_aload_n dX6_init_0 rfl) (
    gm_cn 4 gm_m_oinit (gm_s_oinit gw_97 gw_1 gw_2 dX6_init_1) (
    gm_cn 5 (gm_m_aload _) (gm_s_aload_n dX6_init_4 rfl) (
    gm_cn 6 (gm_m_push _) (gm_s_iconst dX6_init_5) (
    gm_cn 9 (gm_m_putI _ _) (gf_putI_6_0 gw_98 dX6_init_6) (
    gm_cn 10 (gm_m_aload _) (gm_s_aload_n dX6_init_9 rfl) (
    gm_cn 12 (gm_m_push _) (gm_s_bipush dX6_init_10 rfl) (
    gm_cn 14 (gm_m_newarr _) (gm_s_newarr (atype := .long) (t0 := 1) (ty := .long) rfl gw_99 (fun _ => rfl) (Or.inl ⟨rfl, rfl⟩) dX6_init_12) (
    gm_cn 17 (gm_m_putR _ _) (gf_putR_6_2 gw_100 dX6_init_14) (
    gm_cn 0 gm_m_vret (gm_s_vret dX6_init_17 rfl 0) (
    trivial)))))))))), trivial⟩
theorem dX6_become_0 : decode cX6_become 0 = .ok (.aload_n 0, 1) := by decide +kernel
theorem dX6_become_1 : decode cX6_become 1 = .ok (.iload_n 1, 1) := by decide +kernel
theorem dX6_become_2 : decode cX6_become 2 = .ok (.putfield 11, 3) := by decide +kernel
theorem dX6_become_5 : decode cX6_become 5 = .ok (.aload_n 0, 1) := by decide +kernel
theorem dX6_become_6 : decode cX6_become 6 = .ok (.iconst 0, 1) := by decide +kernel
theorem dX6_become_7 : decode cX6_become 7 = .ok (.iload_n 2, 1) := by decide +kernel
theorem dX6_become_8 : decode cX6_become 8 = .ok (.aload_n 0, 1) := by decide +kernel
theorem dX6_become_9 : decode cX6_become 9 = .ok (.getfield 15, 3) := by decide +kernel
theorem dX6_become_12 : decode cX6_become 12 = .ok (.arraylength, 1) := by decide +kernel
theorem dX6_become_13 : decode cX6_become 13 = .ok (.invokestatic 19, 3) := by decide +kernel
theorem dX6_become_16 : decode cX6_become 16 = .ok (.invokestatic 25, 3) := by decide +kernel
theorem dX6_become_19 : decode cX6_become 19 = .ok (.putfield 28, 3) := by decide +kernel
theorem dX6_become_22 : decode cX6_become 22 = .ok (.iconst 0, 1) := by decide +kernel
theorem dX6_become_23 : decode cX6_become 23 = .ok (.istore_n 3, 1) := by decide +kernel
theorem dX6_become_24 : decode cX6_become 24 = .ok (.iload_n 3, 1) := by decide +kernel
theorem dX6_become_25 : decode cX6_become 25 = .ok (.aload_n 0, 1) := by decide +kernel
theorem dX6_become_26 : decode cX6_become 26 = .ok (.getfield 15, 3) := by decide +kernel
theorem dX6_become_29 : decode cX6_become 29 = .ok (.arraylength, 1) := by decide +kernel
theorem dX6_become_30 : decode cX6_become 30 = .ok (.if_icmp .ge 16, 3) := by decide +kernel
theorem dX6_become_33 : decode cX6_become 33 = .ok (.aload_n 0, 1) := by decide +kernel
theorem dX6_become_34 : decode cX6_become 34 = .ok (.getfield 15, 3) := by decide +kernel
theorem dX6_become_37 : decode cX6_become 37 = .ok (.iload_n 3, 1) := by decide +kernel
theorem dX6_become_38 : decode cX6_become 38 = .ok (.lconst 0, 1) := by decide +kernel
theorem dX6_become_39 : decode cX6_become 39 = .ok (.lastore, 1) := by decide +kernel
theorem dX6_become_40 : decode cX6_become 40 = .ok (.iinc 3 1, 3) := by decide +kernel
theorem dX6_become_43 : decode cX6_become 43 = .ok (.goto (-19), 3) := by decide +kernel
theorem dX6_become_46 : decode cX6_become 46 = .ok (.return_, 1) := by decide +kernel
def pX6_become : List (List gm_A) := [[(gm_aload 0), (gm_iload 1), (gm_putI 6 600), (gm_aload 0), (gm_push (.inl 0)), (gm_iload 2), (gm_aload 0), (gm_getR 6 602), gm_alen, gm_min, gm_max, (gm_putI 6 601), (gm_push (.inl 0)), (gm_istore 3), (gm_goto 1)],
  [(gm_iload 3), (gm_aload 0), (gm_getR 6 602), gm_alen, (gm_cge 2), (gm_aload 0), (gm_getR 6 602), (gm_iload 3), (gm_push (.inr (.inl 0))), gm_last, (gm_iinc 3 1), (gm_goto 1)],
  [gm_vret]]
def bpX6_become : Nat → Nat := fun b => ([0, 24, 46] : List Nat).getD b 0
set_option maxRecDepth 100000 in
theorem tX6_become {D : va_G} {sz : Nat} {ad : Nat → Nat} {cA : Nat → ClassId} {xs : Int → Int} {Ln : Int} {l : Launch} : gm_SB D sz ad cA xs Ln l gm_mt cX6_become "LongNoon$Tape" 4 false 0 bpX6_become 0 pX6_become :=
  ⟨gm_cn 1 (gm_m_aload _) (gm_s_aload_n dX6_become_0 rfl) (
    gm_cn 2 (gm_m_iload _) (gm_s_iload_n dX6_become_1 rfl) (
    gm_cn 5 (gm_m_putI _ _) (gf_putI_6_0 gw_98 dX6_become_2) (
    gm_cn 6 (gm_m_aload _) (gm_s_aload_n dX6_become_5 rfl) (
    gm_cn 7 (gm_m_push _) (gm_s_iconst dX6_become_6) (
    gm_cn 8 (gm_m_iload _) (gm_s_iload_n dX6_become_7 rfl) (
    gm_cn 9 (gm_m_aload _) (gm_s_aload_n dX6_become_8 rfl) (
    gm_cn 12 (gm_m_getR _ _) (gf_getR_6_2 gw_100 dX6_become_9) (
    gm_cn 13 gm_m_alen (gm_s_alen dX6_become_12) (
    gm_cn 16 gm_m_min (gm_s_min gw_101 gw_41 gw_43 gw_42 dX6_become_13) (
    gm_cn 19 gm_m_max (gm_s_max gw_102 gw_46 gw_43 gw_47 dX6_become_16) (
    gm_cn 22 (gm_m_putI _ _) (gf_putI_6_1 gw_103 dX6_become_19) (
    gm_cn 23 (gm_m_push _) (gm_s_iconst dX6_become_22) (
    gm_cn 24 (gm_m_istore _) (gm_s_istore_n dX6_become_23 rfl (by decide)) (
    gm_cn 0 (gm_m_goto _) (gm_s_fall (bpc := bpX6_become) (b := 1) rfl 0) (
    trivial))))))))))))))),
  gm_cn 25 (gm_m_iload _) (gm_s_iload_n dX6_become_24 rfl) (
    gm_cn 26 (gm_m_aload _) (gm_s_aload_n dX6_become_25 rfl) (
    gm_cn 29 (gm_m_getR _ _) (gf_getR_6_2 gw_100 dX6_become_26) (
    gm_cn 30 gm_m_alen (gm_s_alen dX6_become_29) (
    gm_cn 33 (gm_m_cge _) (gm_s_cge (bpc := bpX6_become) (b := 2) dX6_become_30 rfl) (
    gm_cn 34 (gm_m_aload _) (gm_s_aload_n dX6_become_33 rfl) (
    gm_cn 37 (gm_m_getR _ _) (gf_getR_6_2 gw_100 dX6_become_34) (
    gm_cn 38 (gm_m_iload _) (gm_s_iload_n dX6_become_37 rfl) (
    gm_cn 39 (gm_m_push _) (gm_s_lconst dX6_become_38 rfl) (
    gm_cn 40 gm_m_last (gm_s_last dX6_become_39) (
    gm_cn 43 (gm_m_iinc _ _) (gm_s_iinc dX6_become_40 (by decide)) (
    gm_cn 0 (gm_m_goto _) (gm_s_goto (bpc := bpX6_become) (b := 1) dX6_become_43 rfl 0) (
    trivial)))))))))))),
  gm_cn 0 gm_m_vret (gm_s_vret dX6_become_46 rfl 0) (
    trivial), trivial⟩
theorem dX6_isEmpty_0 : decode cX6_isEmpty 0 = .ok (.aload_n 0, 1) := by decide +kernel
theorem dX6_isEmpty_1 : decode cX6_isEmpty 1 = .ok (.getfield 11, 3) := by decide +kernel
theorem dX6_isEmpty_4 : decode cX6_isEmpty 4 = .ok (.iconst (-1), 1) := by decide +kernel
theorem dX6_isEmpty_5 : decode cX6_isEmpty 5 = .ok (.if_icmp .ne 7, 3) := by decide +kernel
theorem dX6_isEmpty_8 : decode cX6_isEmpty 8 = .ok (.iconst 1, 1) := by decide +kernel
theorem dX6_isEmpty_9 : decode cX6_isEmpty 9 = .ok (.goto 4, 3) := by decide +kernel
theorem dX6_isEmpty_12 : decode cX6_isEmpty 12 = .ok (.iconst 0, 1) := by decide +kernel
theorem dX6_isEmpty_13 : decode cX6_isEmpty 13 = .ok (.ireturn, 1) := by decide +kernel
def pX6_isEmpty : List (List gm_A) := [[(gm_aload 0), (gm_getI 6 600), (gm_push (.inl (-1))), (gm_cne 1), (gm_push (.inl 1)), (gm_goto 2)],
  [(gm_push (.inl 0)), (gm_goto 2)],
  [gm_zret]]
def bpX6_isEmpty : Nat → Nat := fun b => ([0, 12, 13] : List Nat).getD b 0
set_option maxRecDepth 100000 in
theorem tX6_isEmpty {D : va_G} {sz : Nat} {ad : Nat → Nat} {cA : Nat → ClassId} {xs : Int → Int} {Ln : Int} {l : Launch} : gm_SB D sz ad cA xs Ln l gm_mt cX6_isEmpty "LongNoon$Tape" 1 false 2 bpX6_isEmpty 0 pX6_isEmpty :=
  ⟨gm_cn 1 (gm_m_aload _) (gm_s_aload_n dX6_isEmpty_0 rfl) (
    gm_cn 4 (gm_m_getI _ _) (gf_getI_6_0 gw_98 dX6_isEmpty_1) (
    gm_cn 5 (gm_m_push _) (gm_s_iconst dX6_isEmpty_4) (
    gm_cn 8 (gm_m_cne _) (gm_s_cne (bpc := bpX6_isEmpty) (b := 1) dX6_isEmpty_5 rfl) (
    gm_cn 9 (gm_m_push _) (gm_s_iconst dX6_isEmpty_8) (
    gm_cn 0 (gm_m_goto _) (gm_s_goto (bpc := bpX6_isEmpty) (b := 2) dX6_isEmpty_9 rfl 0) (
    trivial)))))),
  gm_cn 13 (gm_m_push _) (gm_s_iconst dX6_isEmpty_12) (
    gm_cn 0 (gm_m_goto _) (gm_s_fall (bpc := bpX6_isEmpty) (b := 2) rfl 0) (
    trivial)),
  gm_cn 0 gm_m_zret (gm_s_zret dX6_isEmpty_13 rfl 0) (
    trivial), trivial⟩
theorem dX6_has_0 : decode cX6_has 0 = .ok (.iload_n 1, 1) := by decide +kernel
theorem dX6_has_1 : decode cX6_has 1 = .ok (.ifCond .lt 24, 3) := by decide +kernel
theorem dX6_has_4 : decode cX6_has 4 = .ok (.iload_n 1, 1) := by decide +kernel
theorem dX6_has_5 : decode cX6_has 5 = .ok (.aload_n 0, 1) := by decide +kernel
theorem dX6_has_6 : decode cX6_has 6 = .ok (.getfield 28, 3) := by decide +kernel
theorem dX6_has_9 : decode cX6_has 9 = .ok (.if_icmp .ge 16, 3) := by decide +kernel
theorem dX6_has_12 : decode cX6_has 12 = .ok (.iload_n 1, 1) := by decide +kernel
theorem dX6_has_13 : decode cX6_has 13 = .ok (.aload_n 0, 1) := by decide +kernel
theorem dX6_has_14 : decode cX6_has 14 = .ok (.getfield 15, 3) := by decide +kernel
theorem dX6_has_17 : decode cX6_has 17 = .ok (.arraylength, 1) := by decide +kernel
theorem dX6_has_18 : decode cX6_has 18 = .ok (.if_icmp .ge 7, 3) := by decide +kernel
theorem dX6_has_21 : decode cX6_has 21 = .ok (.iconst 1, 1) := by decide +kernel
theorem dX6_has_22 : decode cX6_has 22 = .ok (.goto 4, 3) := by decide +kernel
theorem dX6_has_25 : decode cX6_has 25 = .ok (.iconst 0, 1) := by decide +kernel
theorem dX6_has_26 : decode cX6_has 26 = .ok (.ireturn, 1) := by decide +kernel
def pX6_has : List (List gm_A) := [[(gm_iload 1), (gm_iflt 1), (gm_iload 1), (gm_aload 0), (gm_getI 6 601), (gm_cge 1), (gm_iload 1), (gm_aload 0), (gm_getR 6 602), gm_alen, (gm_cge 1), (gm_push (.inl 1)), (gm_goto 2)],
  [(gm_push (.inl 0)), (gm_goto 2)],
  [gm_zret]]
def bpX6_has : Nat → Nat := fun b => ([0, 25, 26] : List Nat).getD b 0
set_option maxRecDepth 100000 in
theorem tX6_has {D : va_G} {sz : Nat} {ad : Nat → Nat} {cA : Nat → ClassId} {xs : Int → Int} {Ln : Int} {l : Launch} : gm_SB D sz ad cA xs Ln l gm_mt cX6_has "LongNoon$Tape" 2 false 2 bpX6_has 0 pX6_has :=
  ⟨gm_cn 1 (gm_m_iload _) (gm_s_iload_n dX6_has_0 rfl) (
    gm_cn 4 (gm_m_iflt _) (gm_s_iflt (bpc := bpX6_has) (b := 1) dX6_has_1 rfl) (
    gm_cn 5 (gm_m_iload _) (gm_s_iload_n dX6_has_4 rfl) (
    gm_cn 6 (gm_m_aload _) (gm_s_aload_n dX6_has_5 rfl) (
    gm_cn 9 (gm_m_getI _ _) (gf_getI_6_1 gw_103 dX6_has_6) (
    gm_cn 12 (gm_m_cge _) (gm_s_cge (bpc := bpX6_has) (b := 1) dX6_has_9 rfl) (
    gm_cn 13 (gm_m_iload _) (gm_s_iload_n dX6_has_12 rfl) (
    gm_cn 14 (gm_m_aload _) (gm_s_aload_n dX6_has_13 rfl) (
    gm_cn 17 (gm_m_getR _ _) (gf_getR_6_2 gw_100 dX6_has_14) (
    gm_cn 18 gm_m_alen (gm_s_alen dX6_has_17) (
    gm_cn 21 (gm_m_cge _) (gm_s_cge (bpc := bpX6_has) (b := 1) dX6_has_18 rfl) (
    gm_cn 22 (gm_m_push _) (gm_s_iconst dX6_has_21) (
    gm_cn 0 (gm_m_goto _) (gm_s_goto (bpc := bpX6_has) (b := 2) dX6_has_22 rfl 0) (
    trivial))))))))))))),
  gm_cn 26 (gm_m_push _) (gm_s_iconst dX6_has_25) (
    gm_cn 0 (gm_m_goto _) (gm_s_fall (bpc := bpX6_has) (b := 2) rfl 0) (
    trivial)),
  gm_cn 0 gm_m_zret (gm_s_zret dX6_has_26 rfl 0) (
    trivial), trivial⟩
theorem dX6_cut_0 : decode cX6_cut 0 = .ok (.aload_n 0, 1) := by decide +kernel
theorem dX6_cut_1 : decode cX6_cut 1 = .ok (.getfield 11, 3) := by decide +kernel
theorem dX6_cut_4 : decode cX6_cut 4 = .ok (.tableswitch 62 0 4 #[36, 41, 46, 62, 50], 36) := by decide +kernel
theorem dX6_cut_40 : decode cX6_cut 40 = .ok (.lload_n 1, 1) := by decide +kernel
theorem dX6_cut_41 : decode cX6_cut 41 = .ok (.l2i, 1) := by decide +kernel
theorem dX6_cut_42 : decode cX6_cut 42 = .ok (.i2b, 1) := by decide +kernel
theorem dX6_cut_43 : decode cX6_cut 43 = .ok (.i2l, 1) := by decide +kernel
theorem dX6_cut_44 : decode cX6_cut 44 = .ok (.lreturn, 1) := by decide +kernel
theorem dX6_cut_45 : decode cX6_cut 45 = .ok (.lload_n 1, 1) := by decide +kernel
theorem dX6_cut_46 : decode cX6_cut 46 = .ok (.l2i, 1) := by decide +kernel
theorem dX6_cut_47 : decode cX6_cut 47 = .ok (.i2s, 1) := by decide +kernel
theorem dX6_cut_48 : decode cX6_cut 48 = .ok (.i2l, 1) := by decide +kernel
theorem dX6_cut_49 : decode cX6_cut 49 = .ok (.lreturn, 1) := by decide +kernel
theorem dX6_cut_50 : decode cX6_cut 50 = .ok (.lload_n 1, 1) := by decide +kernel
theorem dX6_cut_51 : decode cX6_cut 51 = .ok (.l2i, 1) := by decide +kernel
theorem dX6_cut_52 : decode cX6_cut 52 = .ok (.i2l, 1) := by decide +kernel
theorem dX6_cut_53 : decode cX6_cut 53 = .ok (.lreturn, 1) := by decide +kernel
theorem dX6_cut_54 : decode cX6_cut 54 = .ok (.lload_n 1, 1) := by decide +kernel
theorem dX6_cut_55 : decode cX6_cut 55 = .ok (.lconst 0, 1) := by decide +kernel
theorem dX6_cut_56 : decode cX6_cut 56 = .ok (.lcmp, 1) := by decide +kernel
theorem dX6_cut_57 : decode cX6_cut 57 = .ok (.ifCond .eq 7, 3) := by decide +kernel
theorem dX6_cut_60 : decode cX6_cut 60 = .ok (.lconst 1, 1) := by decide +kernel
theorem dX6_cut_61 : decode cX6_cut 61 = .ok (.goto 4, 3) := by decide +kernel
theorem dX6_cut_64 : decode cX6_cut 64 = .ok (.lconst 0, 1) := by decide +kernel
theorem dX6_cut_65 : decode cX6_cut 65 = .ok (.lreturn, 1) := by decide +kernel
theorem dX6_cut_66 : decode cX6_cut 66 = .ok (.lload_n 1, 1) := by decide +kernel
theorem dX6_cut_67 : decode cX6_cut 67 = .ok (.lreturn, 1) := by decide +kernel
def pX6_cut : List (List gm_A) := [[(gm_aload 0), (gm_getI 6 600), (gm_switch [(0, 1), (1, 2), (2, 3), (3, 7), (4, 4)] 7)],
  [(gm_lload 1), gm_l2i, (gm_op1 gm_i2b), gm_i2l, gm_lret],
  [(gm_lload 1), gm_l2i, (gm_op1 gm_i2s), gm_i2l, gm_lret],
  [(gm_lload 1), gm_l2i, gm_i2l, gm_lret],
  [(gm_lload 1), (gm_push (.inr (.inl 0))), gm_lcmp, (gm_ifeq 5), (gm_push (.inr (.inl 1))), (gm_goto 6)],
  [(gm_push (.inr (.inl 0))), (gm_goto 6)],
  [gm_lret],
  [(gm_lload 1), gm_lret]]
def bpX6_cut : Nat → Nat := fun b => ([0, 40, 45, 50, 54, 64, 65, 66] : List Nat).getD b 0
set_option maxRecDepth 100000 in
theorem tX6_cut {D : va_G} {sz : Nat} {ad : Nat → Nat} {cA : Nat → ClassId} {xs : Int → Int} {Ln : Int} {l : Launch} : gm_SB D sz ad cA xs Ln l gm_mt cX6_cut "LongNoon$Tape" 3 false 4 bpX6_cut 0 pX6_cut :=
  ⟨gm_cn 1 (gm_m_aload _) (gm_s_aload_n dX6_cut_0 rfl) (
    gm_cn 4 (gm_m_getI _ _) (gf_getI_6_0 gw_98 dX6_cut_1) (
    gm_cn 0 (gm_m_switch _ _) (gm_s_table (bpc := bpX6_cut) (ps := [(0, 1), (1, 2), (2, 3), (3, 7), (4, 4)]) (d := 7) dX6_cut_4 rfl rfl rfl 0) (
    trivial))),
  gm_cn 41 (gm_m_lload _) (gm_s_lload_n dX6_cut_40 rfl) (
    gm_cn 42 gm_m_l2i (gm_s_l2i dX6_cut_41) (
    gm_cn 43 (gm_m_op1 _) (gm_s_i2b dX6_cut_42) (
    gm_cn 44 gm_m_i2l (gm_s_i2l dX6_cut_43) (
    gm_cn 0 gm_m_lret (gm_s_lret dX6_cut_44 rfl 0) (
    trivial))))),
  gm_cn 46 (gm_m_lload _) (gm_s_lload_n dX6_cut_45 rfl) (
    gm_cn 47 gm_m_l2i (gm_s_l2i dX6_cut_46) (
    gm_cn 48 (gm_m_op1 _) (gm_s_i2s dX6_cut_47) (
    gm_cn 49 gm_m_i2l (gm_s_i2l dX6_cut_48) (
    gm_cn 0 gm_m_lret (gm_s_lret dX6_cut_49 rfl 0) (
    trivial))))),
  gm_cn 51 (gm_m_lload _) (gm_s_lload_n dX6_cut_50 rfl) (
    gm_cn 52 gm_m_l2i (gm_s_l2i dX6_cut_51) (
    gm_cn 53 gm_m_i2l (gm_s_i2l dX6_cut_52) (
    gm_cn 0 gm_m_lret (gm_s_lret dX6_cut_53 rfl 0) (
    trivial)))),
  gm_cn 55 (gm_m_lload _) (gm_s_lload_n dX6_cut_54 rfl) (
    gm_cn 56 (gm_m_push _) (gm_s_lconst dX6_cut_55 rfl) (
    gm_cn 57 gm_m_lcmp (gm_s_lcmp dX6_cut_56) (
    gm_cn 60 (gm_m_ifeq _) (gm_s_ifeq (bpc := bpX6_cut) (b := 5) dX6_cut_57 rfl) (
    gm_cn 61 (gm_m_push _) (gm_s_lconst dX6_cut_60 rfl) (
    gm_cn 0 (gm_m_goto _) (gm_s_goto (bpc := bpX6_cut) (b := 6) dX6_cut_61 rfl 0) (
    trivial)))))),
  gm_cn 65 (gm_m_push _) (gm_s_lconst dX6_cut_64 rfl) (
    gm_cn 0 (gm_m_goto _) (gm_s_fall (bpc := bpX6_cut) (b := 6) rfl 0) (
    trivial)),
  gm_cn 0 gm_m_lret (gm_s_lret dX6_cut_65 rfl 0) (
    trivial),
  gm_cn 67 (gm_m_lload _) (gm_s_lload_n dX6_cut_66 rfl) (
    gm_cn 0 gm_m_lret (gm_s_lret dX6_cut_67 rfl 0) (
    trivial)), trivial⟩
theorem dX7_init_0 : decode cX7_init 0 = .ok (.aload_n 0, 1) := by decide +kernel
theorem dX7_init_1 : decode cX7_init 1 = .ok (.invokespecial 3, 3) := by decide +kernel
theorem dX7_init_4 : decode cX7_init 4 = .ok (.aload_n 0, 1) := by decide +kernel
theorem dX7_init_5 : decode cX7_init 5 = .ok (.bipush 6, 2) := by decide +kernel
theorem dX7_init_7 : decode cX7_init 7 = .ok (.anewarray 9, 3) := by decide +kernel
theorem dX7_init_10 : decode cX7_init 10 = .ok (.putfield 11, 3) := by decide +kernel
theorem dX7_init_13 : decode cX7_init 13 = .ok (.aload_n 0, 1) := by decide +kernel
theorem dX7_init_14 : decode cX7_init 14 = .ok (.iconst (-1), 1) := by decide +kernel
theorem dX7_init_15 : decode cX7_init 15 = .ok (.putfield 17, 3) := by decide +kernel
theorem dX7_init_18 : decode cX7_init 18 = .ok (.aload_n 0, 1) := by decide +kernel
theorem dX7_init_19 : decode cX7_init 19 = .ok (.bipush 8, 2) := by decide +kernel
theorem dX7_init_21 : decode cX7_init 21 = .ok (.newarray .int, 2) := by decide +kernel
theorem dX7_init_23 : decode cX7_init 23 = .ok (.putfield 21, 3) := by decide +kernel
theorem dX7_init_26 : decode cX7_init 26 = .ok (.aload_n 0, 1) := by decide +kernel
theorem dX7_init_27 : decode cX7_init 27 = .ok (.bipush 8, 2) := by decide +kernel
theorem dX7_init_29 : decode cX7_init 29 = .ok (.newarray .int, 2) := by decide +kernel
theorem dX7_init_31 : decode cX7_init 31 = .ok (.putfield 25, 3) := by decide +kernel
theorem dX7_init_34 : decode cX7_init 34 = .ok (.aload_n 0, 1) := by decide +kernel
theorem dX7_init_35 : decode cX7_init 35 = .ok (.bipush 8, 2) := by decide +kernel
theorem dX7_init_37 : decode cX7_init 37 = .ok (.newarray .int, 2) := by decide +kernel
theorem dX7_init_39 : decode cX7_init 39 = .ok (.putfield 28, 3) := by decide +kernel
theorem dX7_init_42 : decode cX7_init 42 = .ok (.aload_n 0, 1) := by decide +kernel
theorem dX7_init_43 : decode cX7_init 43 = .ok (.bipush 12, 2) := by decide +kernel
theorem dX7_init_45 : decode cX7_init 45 = .ok (.newarray .int, 2) := by decide +kernel
theorem dX7_init_47 : decode cX7_init 47 = .ok (.putfield 31, 3) := by decide +kernel
theorem dX7_init_50 : decode cX7_init 50 = .ok (.iconst 0, 1) := by decide +kernel
theorem dX7_init_51 : decode cX7_init 51 = .ok (.istore_n 1, 1) := by decide +kernel
theorem dX7_init_52 : decode cX7_init 52 = .ok (.iload_n 1, 1) := by decide +kernel
theorem dX7_init_53 : decode cX7_init 53 = .ok (.aload_n 0, 1) := by decide +kernel
theorem dX7_init_54 : decode cX7_init 54 = .ok (.getfield 11, 3) := by decide +kernel
theorem dX7_init_57 : decode cX7_init 57 = .ok (.arraylength, 1) := by decide +kernel
theorem dX7_init_58 : decode cX7_init 58 = .ok (.if_icmp .ge 22, 3) := by decide +kernel
theorem dX7_init_61 : decode cX7_init 61 = .ok (.aload_n 0, 1) := by decide +kernel
theorem dX7_init_62 : decode cX7_init 62 = .ok (.getfield 11, 3) := by decide +kernel
theorem dX7_init_65 : decode cX7_init 65 = .ok (.iload_n 1, 1) := by decide +kernel
theorem dX7_init_66 : decode cX7_init 66 = .ok (.new 9, 3) := by decide +kernel
theorem dX7_init_69 : decode cX7_init 69 = .ok (.dup, 1) := by decide +kernel
theorem dX7_init_70 : decode cX7_init 70 = .ok (.invokespecial 34, 3) := by decide +kernel
theorem dX7_init_73 : decode cX7_init 73 = .ok (.aastore, 1) := by decide +kernel
theorem dX7_init_74 : decode cX7_init 74 = .ok (.iinc 1 1, 3) := by decide +kernel
theorem dX7_init_77 : decode cX7_init 77 = .ok (.goto (-25), 3) := by decide +kernel
theorem dX7_init_80 : decode cX7_init 80 = .ok (.return_, 1) := by decide +kernel
def pX7_init : List (List gm_A) := [[(gm_aload 0), gm_oinit, (gm_aload 0), (gm_push (.inl 6)), (gm_newarr 24), (gm_putR 7 700), (gm_aload 0), (gm_push (.inl (-1))), (gm_putI 7 703), (gm_aload 0), (gm_push (.inl 8)), (gm_newarr 20), (gm_putR 7 704), (gm_aload 0), (gm_push (.inl 8)), (gm_newarr 20), (gm_putR 7 705), (gm_aload 0), (gm_push (.inl 8)), (gm_newarr 20), (gm_putR 7 706), (gm_aload 0), (gm_push (.inl 12)), (gm_newarr 20), (gm_putR 7 708), (gm_push (.inl 0)), (gm_istore 1), (gm_goto 1)],
  [(gm_iload 1), (gm_aload 0), (gm_getR 7 700), gm_alen, (gm_cge 2), (gm_aload 0), (gm_getR 7 700), (gm_iload 1), (gm_new 2), gm_dup, (gm_vcall 2 11 1), (gm_aast 24 2), (gm_iinc 1 1), (gm_goto 1)],
  [gm_vret]]
def bpX7_init : Nat → Nat := fun b => ([0, 52, 80] : List Nat).getD b 0
set_option maxRecDepth 100000 in
theorem tX7_init {D : va_G} {sz : Nat} {ad : Nat → Nat} {cA : Nat → ClassId} {xs : Int → Int} {Ln : Int} {l : Launch} : gm_SB D sz ad cA xs Ln l gm_mt cX7_init "LongNoon$Town" 2 true 0 bpX7_init 0 pX7_init :=
  ⟨gm_cn 1 (gm_m_aload _) (gm_s_aload_n dX7_init_0 rfl) (
    gm_cn 4 gm_m_oinit (gm_s_oinit gw_104 gw_1 gw_2 dX7_init_1) (
    gm_cn 5 (gm_m_aload _) (gm_s_aload_n dX7_init_4 rfl) (
    gm_cn 7 (gm_m_push _) (gm_s_bipush dX7_init_5 rfl) (
    gm_cn 10 (gm_m_newarr _) (gm_s_anewarr (t0 := 4) (by decide) (fun _ => rfl) (fun _ _ h => h.2.2.1.1) gw_105 dX7_init_7) (
    gm_cn 13 (gm_m_putR _ _) (gf_putR_7_0 gw_106 dX7_init_10) (
    gm_cn 14 (gm_m_aload _) (gm_s_aload_n dX7_init_13 rfl) (
    gm_cn 15 (gm_m_push _) (gm_s_iconst dX7_init_14) (
    gm_cn 18 (gm_m_putI _ _) (gf_putI_7_3 gw_107 dX7_init_15) (
    gm_cn 19 (gm_m_aload _) (gm_s_aload_n dX7_init_18 rfl) (
    gm_cn 21 (gm_m_push _) (gm_s_bipush dX7_init_19 rfl) (
    gm_cn 23 (gm_m_newarr _) (gm_s_newarr (atype := .int) (t0 := 0) (ty := .int) rfl gw_3 (fun _ => rfl) (Or.inr (Or.inl ⟨rfl, rfl⟩)) dX7_init_21) (
    gm_cn 26 (gm_m_putR _ _) (gf_putR_7_4 gw_108 dX7_init_23) (
    gm_cn 27 (gm_m_aload _) (gm_s_aload_n dX7_init_26 rfl) (
    gm_cn 29 (gm_m_push _) (gm_s_bipush dX7_init_27 rfl) (
    gm_cn 31 (gm_m_newarr _) (gm_s_newarr (atype := .int) (t0 := 0) (ty := .int) rfl gw_3 (fun _ => rfl) (Or.inr (Or.inl ⟨rfl, rfl⟩)) dX7_init_29) (
    gm_cn 34 (gm_m_putR _ _) (gf_putR_7_5 gw_109 dX7_init_31) (
    gm_cn 35 (gm_m_aload _) (gm_s_aload_n dX7_init_34 rfl) (
    gm_cn 37 (gm_m_push _) (gm_s_bipush dX7_init_35 rfl) (
    gm_cn 39 (gm_m_newarr _) (gm_s_newarr (atype := .int) (t0 := 0) (ty := .int) rfl gw_3 (fun _ => rfl) (Or.inr (Or.inl ⟨rfl, rfl⟩)) dX7_init_37) (
    gm_cn 42 (gm_m_putR _ _) (gf_putR_7_6 gw_110 dX7_init_39) (
    gm_cn 43 (gm_m_aload _) (gm_s_aload_n dX7_init_42 rfl) (
    gm_cn 45 (gm_m_push _) (gm_s_bipush dX7_init_43 rfl) (
    gm_cn 47 (gm_m_newarr _) (gm_s_newarr (atype := .int) (t0 := 0) (ty := .int) rfl gw_3 (fun _ => rfl) (Or.inr (Or.inl ⟨rfl, rfl⟩)) dX7_init_45) (
    gm_cn 50 (gm_m_putR _ _) (gf_putR_7_8 gw_111 dX7_init_47) (
    gm_cn 51 (gm_m_push _) (gm_s_iconst dX7_init_50) (
    gm_cn 52 (gm_m_istore _) (gm_s_istore_n dX7_init_51 rfl (by decide)) (
    gm_cn 0 (gm_m_goto _) (gm_s_fall (bpc := bpX7_init) (b := 1) rfl 0) (
    trivial)))))))))))))))))))))))))))),
  gm_cn 53 (gm_m_iload _) (gm_s_iload_n dX7_init_52 rfl) (
    gm_cn 54 (gm_m_aload _) (gm_s_aload_n dX7_init_53 rfl) (
    gm_cn 57 (gm_m_getR _ _) (gf_getR_7_0 gw_106 dX7_init_54) (
    gm_cn 58 gm_m_alen (gm_s_alen dX7_init_57) (
    gm_cn 61 (gm_m_cge _) (gm_s_cge (bpc := bpX7_init) (b := 2) dX7_init_58 rfl) (
    gm_cn 62 (gm_m_aload _) (gm_s_aload_n dX7_init_61 rfl) (
    gm_cn 65 (gm_m_getR _ _) (gf_getR_7_0 gw_106 dX7_init_62) (
    gm_cn 66 (gm_m_iload _) (gm_s_iload_n dX7_init_65 rfl) (
    gm_cn 69 (gm_m_new _) (gnw_2 gw_105 dX7_init_66) (
    gm_cn 70 gm_m_dup (gm_s_dup dX7_init_69) (
    gm_cn 73 (gm_m_vcall _ _ _) (gcl_X2_initN (List.mem_of_getElem? (i := 0) rfl) dX7_init_70) (
    gm_cn 74 (gm_m_aast _ _) (gm_s_aast (t0 := 4) (by decide) gc_2 (by decide) (fun _ => rfl) dX7_init_73) (
    gm_cn 77 (gm_m_iinc _ _) (gm_s_iinc dX7_init_74 (by decide)) (
    gm_cn 0 (gm_m_goto _) (gm_s_goto (bpc := bpX7_init) (b := 1) dX7_init_77 rfl 0) (
    trivial)))))))))))))),
  gm_cn 0 gm_m_vret (gm_s_vret dX7_init_80 rfl 0) (
    trivial), trivial⟩
theorem dX7_become_0 : decode cX7_become 0 = .ok (.iconst 0, 1) := by decide +kernel
theorem dX7_become_1 : decode cX7_become 1 = .ok (.istore_n 2, 1) := by decide +kernel
theorem dX7_become_2 : decode cX7_become 2 = .ok (.iload_n 2, 1) := by decide +kernel
theorem dX7_become_3 : decode cX7_become 3 = .ok (.aload_n 1, 1) := by decide +kernel
theorem dX7_become_4 : decode cX7_become 4 = .ok (.getfield 35, 3) := by decide +kernel
theorem dX7_become_7 : decode cX7_become 7 = .ok (.if_icmp .ge 42, 3) := by decide +kernel
theorem dX7_become_10 : decode cX7_become 10 = .ok (.iload_n 2, 1) := by decide +kernel
theorem dX7_become_11 : decode cX7_become 11 = .ok (.aload_n 0, 1) := by decide +kernel
theorem dX7_become_12 : decode cX7_become 12 = .ok (.getfield 11, 3) := by decide +kernel
theorem dX7_become_15 : decode cX7_become 15 = .ok (.arraylength, 1) := by decide +kernel
theorem dX7_become_16 : decode cX7_become 16 = .ok (.if_icmp .ge 33, 3) := by decide +kernel
theorem dX7_become_19 : decode cX7_become 19 = .ok (.iload_n 2, 1) := by decide +kernel
theorem dX7_become_20 : decode cX7_become 20 = .ok (.aload_n 1, 1) := by decide +kernel
theorem dX7_become_21 : decode cX7_become 21 = .ok (.getfield 11, 3) := by decide +kernel
theorem dX7_become_24 : decode cX7_become 24 = .ok (.arraylength, 1) := by decide +kernel
theorem dX7_become_25 : decode cX7_become 25 = .ok (.if_icmp .ge 24, 3) := by decide +kernel
theorem dX7_become_28 : decode cX7_become 28 = .ok (.aload_n 0, 1) := by decide +kernel
theorem dX7_become_29 : decode cX7_become 29 = .ok (.getfield 11, 3) := by decide +kernel
theorem dX7_become_32 : decode cX7_become 32 = .ok (.iload_n 2, 1) := by decide +kernel
theorem dX7_become_33 : decode cX7_become 33 = .ok (.aaload, 1) := by decide +kernel
theorem dX7_become_34 : decode cX7_become 34 = .ok (.aload_n 1, 1) := by decide +kernel
theorem dX7_become_35 : decode cX7_become 35 = .ok (.getfield 11, 3) := by decide +kernel
theorem dX7_become_38 : decode cX7_become 38 = .ok (.iload_n 2, 1) := by decide +kernel
theorem dX7_become_39 : decode cX7_become 39 = .ok (.aaload, 1) := by decide +kernel
theorem dX7_become_40 : decode cX7_become 40 = .ok (.invokevirtual 38, 3) := by decide +kernel
theorem dX7_become_43 : decode cX7_become 43 = .ok (.iinc 2 1, 3) := by decide +kernel
theorem dX7_become_46 : decode cX7_become 46 = .ok (.goto (-44), 3) := by decide +kernel
theorem dX7_become_49 : decode cX7_become 49 = .ok (.aload_n 0, 1) := by decide +kernel
theorem dX7_become_50 : decode cX7_become 50 = .ok (.aload_n 1, 1) := by decide +kernel
theorem dX7_become_51 : decode cX7_become 51 = .ok (.getfield 35, 3) := by decide +kernel
theorem dX7_become_54 : decode cX7_become 54 = .ok (.putfield 35, 3) := by decide +kernel
theorem dX7_become_57 : decode cX7_become 57 = .ok (.aload_n 0, 1) := by decide +kernel
theorem dX7_become_58 : decode cX7_become 58 = .ok (.aload_n 1, 1) := by decide +kernel
theorem dX7_become_59 : decode cX7_become 59 = .ok (.getfield 42, 3) := by decide +kernel
theorem dX7_become_62 : decode cX7_become 62 = .ok (.putfield 42, 3) := by decide +kernel
theorem dX7_become_65 : decode cX7_become 65 = .ok (.aload_n 0, 1) := by decide +kernel
theorem dX7_become_66 : decode cX7_become 66 = .ok (.aload_n 1, 1) := by decide +kernel
theorem dX7_become_67 : decode cX7_become 67 = .ok (.getfield 17, 3) := by decide +kernel
theorem dX7_become_70 : decode cX7_become 70 = .ok (.putfield 17, 3) := by decide +kernel
theorem dX7_become_73 : decode cX7_become 73 = .ok (.aload_n 1, 1) := by decide +kernel
theorem dX7_become_74 : decode cX7_become 74 = .ok (.getfield 21, 3) := by decide +kernel
theorem dX7_become_77 : decode cX7_become 77 = .ok (.iconst 0, 1) := by decide +kernel
theorem dX7_become_78 : decode cX7_become 78 = .ok (.aload_n 0, 1) := by decide +kernel
theorem dX7_become_79 : decode cX7_become 79 = .ok (.getfield 21, 3) := by decide +kernel
theorem dX7_become_82 : decode cX7_become 82 = .ok (.iconst 0, 1) := by decide +kernel
theorem dX7_become_83 : decode cX7_become 83 = .ok (.aload_n 0, 1) := by decide +kernel
theorem dX7_become_84 : decode cX7_become 84 = .ok (.getfield 21, 3) := by decide +kernel
theorem dX7_become_87 : decode cX7_become 87 = .ok (.arraylength, 1) := by decide +kernel
theorem dX7_become_88 : decode cX7_become 88 = .ok (.invokestatic 45, 3) := by decide +kernel
theorem dX7_become_91 : decode cX7_become 91 = .ok (.aload_n 1, 1) := by decide +kernel
theorem dX7_become_92 : decode cX7_become 92 = .ok (.getfield 25, 3) := by decide +kernel
theorem dX7_become_95 : decode cX7_become 95 = .ok (.iconst 0, 1) := by decide +kernel
theorem dX7_become_96 : decode cX7_become 96 = .ok (.aload_n 0, 1) := by decide +kernel
theorem dX7_become_97 : decode cX7_become 97 = .ok (.getfield 25, 3) := by decide +kernel
theorem dX7_become_100 : decode cX7_become 100 = .ok (.iconst 0, 1) := by decide +kernel
theorem dX7_become_101 : decode cX7_become 101 = .ok (.aload_n 0, 1) := by decide +kernel
theorem dX7_become_102 : decode cX7_become 102 = .ok (.getfield 25, 3) := by decide +kernel
theorem dX7_become_105 : decode cX7_become 105 = .ok (.arraylength, 1) := by decide +kernel
theorem dX7_become_106 : decode cX7_become 106 = .ok (.invokestatic 45, 3) := by decide +kernel
theorem dX7_become_109 : decode cX7_become 109 = .ok (.aload_n 1, 1) := by decide +kernel
theorem dX7_become_110 : decode cX7_become 110 = .ok (.getfield 28, 3) := by decide +kernel
theorem dX7_become_113 : decode cX7_become 113 = .ok (.iconst 0, 1) := by decide +kernel
theorem dX7_become_114 : decode cX7_become 114 = .ok (.aload_n 0, 1) := by decide +kernel
theorem dX7_become_115 : decode cX7_become 115 = .ok (.getfield 28, 3) := by decide +kernel
theorem dX7_become_118 : decode cX7_become 118 = .ok (.iconst 0, 1) := by decide +kernel
theorem dX7_become_119 : decode cX7_become 119 = .ok (.aload_n 0, 1) := by decide +kernel
theorem dX7_become_120 : decode cX7_become 120 = .ok (.getfield 28, 3) := by decide +kernel
theorem dX7_become_123 : decode cX7_become 123 = .ok (.arraylength, 1) := by decide +kernel
theorem dX7_become_124 : decode cX7_become 124 = .ok (.invokestatic 45, 3) := by decide +kernel
theorem dX7_become_127 : decode cX7_become 127 = .ok (.aload_n 0, 1) := by decide +kernel
theorem dX7_become_128 : decode cX7_become 128 = .ok (.aload_n 1, 1) := by decide +kernel
theorem dX7_become_129 : decode cX7_become 129 = .ok (.getfield 51, 3) := by decide +kernel
theorem dX7_become_132 : decode cX7_become 132 = .ok (.putfield 51, 3) := by decide +kernel
theorem dX7_become_135 : decode cX7_become 135 = .ok (.aload_n 1, 1) := by decide +kernel
theorem dX7_become_136 : decode cX7_become 136 = .ok (.getfield 31, 3) := by decide +kernel
theorem dX7_become_139 : decode cX7_become 139 = .ok (.iconst 0, 1) := by decide +kernel
theorem dX7_become_140 : decode cX7_become 140 = .ok (.aload_n 0, 1) := by decide +kernel
theorem dX7_become_141 : decode cX7_become 141 = .ok (.getfield 31, 3) := by decide +kernel
theorem dX7_become_144 : decode cX7_become 144 = .ok (.iconst 0, 1) := by decide +kernel
theorem dX7_become_145 : decode cX7_become 145 = .ok (.aload_n 0, 1) := by decide +kernel
theorem dX7_become_146 : decode cX7_become 146 = .ok (.getfield 31, 3) := by decide +kernel
theorem dX7_become_149 : decode cX7_become 149 = .ok (.arraylength, 1) := by decide +kernel
theorem dX7_become_150 : decode cX7_become 150 = .ok (.invokestatic 45, 3) := by decide +kernel
theorem dX7_become_153 : decode cX7_become 153 = .ok (.aload_n 0, 1) := by decide +kernel
theorem dX7_become_154 : decode cX7_become 154 = .ok (.aload_n 1, 1) := by decide +kernel
theorem dX7_become_155 : decode cX7_become 155 = .ok (.getfield 54, 3) := by decide +kernel
theorem dX7_become_158 : decode cX7_become 158 = .ok (.putfield 54, 3) := by decide +kernel
theorem dX7_become_161 : decode cX7_become 161 = .ok (.return_, 1) := by decide +kernel
def pX7_become : List (List gm_A) := [[(gm_push (.inl 0)), (gm_istore 2), (gm_goto 1)],
  [(gm_iload 2), (gm_aload 1), (gm_getI 7 701), (gm_cge 2), (gm_iload 2), (gm_aload 0), (gm_getR 7 700), gm_alen, (gm_cge 2), (gm_iload 2), (gm_aload 1), (gm_getR 7 700), gm_alen, (gm_cge 2), (gm_aload 0), (gm_getR 7 700), (gm_iload 2), (gm_aald 24), (gm_aload 1), (gm_getR 7 700), (gm_iload 2), (gm_aald 24), (gm_vcall 2 13 2), (gm_iinc 2 1), (gm_goto 1)],
  [(gm_aload 0), (gm_aload 1), (gm_getI 7 701), (gm_putI 7 701), (gm_aload 0), (gm_aload 1), (gm_getI 7 702), (gm_putI 7 702), (gm_aload 0), (gm_aload 1), (gm_getI 7 703), (gm_putI 7 703), (gm_aload 1), (gm_getR 7 704), (gm_push (.inl 0)), (gm_aload 0), (gm_getR 7 704), (gm_push (.inl 0)), (gm_aload 0), (gm_getR 7 704), gm_alen, (gm_acp 20), (gm_aload 1), (gm_getR 7 705), (gm_push (.inl 0)), (gm_aload 0), (gm_getR 7 705), (gm_push (.inl 0)), (gm_aload 0), (gm_getR 7 705), gm_alen, (gm_acp 20), (gm_aload 1), (gm_getR 7 706), (gm_push (.inl 0)), (gm_aload 0), (gm_getR 7 706), (gm_push (.inl 0)), (gm_aload 0), (gm_getR 7 706), gm_alen, (gm_acp 20), (gm_aload 0), (gm_aload 1), (gm_getI 7 707), (gm_putI 7 707), (gm_aload 1), (gm_getR 7 708), (gm_push (.inl 0)), (gm_aload 0), (gm_getR 7 708), (gm_push (.inl 0)), (gm_aload 0), (gm_getR 7 708), gm_alen, (gm_acp 20), (gm_aload 0), (gm_aload 1), (gm_getI 7 709), (gm_putI 7 709), gm_vret]]
def bpX7_become : Nat → Nat := fun b => ([0, 2, 49] : List Nat).getD b 0
set_option maxRecDepth 100000 in
theorem tX7_become {D : va_G} {sz : Nat} {ad : Nat → Nat} {cA : Nat → ClassId} {xs : Int → Int} {Ln : Int} {l : Launch} : gm_SB D sz ad cA xs Ln l gm_mt cX7_become "LongNoon$Town" 3 false 0 bpX7_become 0 pX7_become :=
  ⟨gm_cn 1 (gm_m_push _) (gm_s_iconst dX7_become_0) (
    gm_cn 2 (gm_m_istore _) (gm_s_istore_n dX7_become_1 rfl (by decide)) (
    gm_cn 0 (gm_m_goto _) (gm_s_fall (bpc := bpX7_become) (b := 1) rfl 0) (
    trivial))),
  gm_cn 3 (gm_m_iload _) (gm_s_iload_n dX7_become_2 rfl) (
    gm_cn 4 (gm_m_aload _) (gm_s_aload_n dX7_become_3 rfl) (
    gm_cn 7 (gm_m_getI _ _) (gf_getI_7_1 gw_112 dX7_become_4) (
    gm_cn 10 (gm_m_cge _) (gm_s_cge (bpc := bpX7_become) (b := 2) dX7_become_7 rfl) (
    gm_cn 11 (gm_m_iload _) (gm_s_iload_n dX7_become_10 rfl) (
    gm_cn 12 (gm_m_aload _) (gm_s_aload_n dX7_become_11 rfl) (
    gm_cn 15 (gm_m_getR _ _) (gf_getR_7_0 gw_106 dX7_become_12) (
    gm_cn 16 gm_m_alen (gm_s_alen dX7_become_15) (
    gm_cn 19 (gm_m_cge _) (gm_s_cge (bpc := bpX7_become) (b := 2) dX7_become_16 rfl) (
    gm_cn 20 (gm_m_iload _) (gm_s_iload_n dX7_become_19 rfl) (
    gm_cn 21 (gm_m_aload _) (gm_s_aload_n dX7_become_20 rfl) (
    gm_cn 24 (gm_m_getR _ _) (gf_getR_7_0 gw_106 dX7_become_21) (
    gm_cn 25 gm_m_alen (gm_s_alen dX7_become_24) (
    gm_cn 28 (gm_m_cge _) (gm_s_cge (bpc := bpX7_become) (b := 2) dX7_become_25 rfl) (
    gm_cn 29 (gm_m_aload _) (gm_s_aload_n dX7_become_28 rfl) (
    gm_cn 32 (gm_m_getR _ _) (gf_getR_7_0 gw_106 dX7_become_29) (
    gm_cn 33 (gm_m_iload _) (gm_s_iload_n dX7_become_32 rfl) (
    gm_cn 34 (gm_m_aald _) (gm_s_aald (t0 := 4) (by decide) (fun _ => rfl) dX7_become_33) (
    gm_cn 35 (gm_m_aload _) (gm_s_aload_n dX7_become_34 rfl) (
    gm_cn 38 (gm_m_getR _ _) (gf_getR_7_0 gw_106 dX7_become_35) (
    gm_cn 39 (gm_m_iload _) (gm_s_iload_n dX7_become_38 rfl) (
    gm_cn 40 (gm_m_aald _) (gm_s_aald (t0 := 4) (by decide) (fun _ => rfl) dX7_become_39) (
    gm_cn 43 (gm_m_vcall _ _ _) (gcl_X2_become gw_113 dX7_become_40) (
    gm_cn 46 (gm_m_iinc _ _) (gm_s_iinc dX7_become_43 (by decide)) (
    gm_cn 0 (gm_m_goto _) (gm_s_goto (bpc := bpX7_become) (b := 1) dX7_become_46 rfl 0) (
    trivial))))))))))))))))))))))))),
  gm_cn 50 (gm_m_aload _) (gm_s_aload_n dX7_become_49 rfl) (
    gm_cn 51 (gm_m_aload _) (gm_s_aload_n dX7_become_50 rfl) (
    gm_cn 54 (gm_m_getI _ _) (gf_getI_7_1 gw_112 dX7_become_51) (
    gm_cn 57 (gm_m_putI _ _) (gf_putI_7_1 gw_112 dX7_become_54) (
    gm_cn 58 (gm_m_aload _) (gm_s_aload_n dX7_become_57 rfl) (
    gm_cn 59 (gm_m_aload _) (gm_s_aload_n dX7_become_58 rfl) (
    gm_cn 62 (gm_m_getI _ _) (gf_getI_7_2 gw_114 dX7_become_59) (
    gm_cn 65 (gm_m_putI _ _) (gf_putI_7_2 gw_114 dX7_become_62) (
    gm_cn 66 (gm_m_aload _) (gm_s_aload_n dX7_become_65 rfl) (
    gm_cn 67 (gm_m_aload _) (gm_s_aload_n dX7_become_66 rfl) (
    gm_cn 70 (gm_m_getI _ _) (gf_getI_7_3 gw_107 dX7_become_67) (
    gm_cn 73 (gm_m_putI _ _) (gf_putI_7_3 gw_107 dX7_become_70) (
    gm_cn 74 (gm_m_aload _) (gm_s_aload_n dX7_become_73 rfl) (
    gm_cn 77 (gm_m_getR _ _) (gf_getR_7_4 gw_108 dX7_become_74) (
    gm_cn 78 (gm_m_push _) (gm_s_iconst dX7_become_77) (
    gm_cn 79 (gm_m_aload _) (gm_s_aload_n dX7_become_78 rfl) (
    gm_cn 82 (gm_m_getR _ _) (gf_getR_7_4 gw_108 dX7_become_79) (
    gm_cn 83 (gm_m_push _) (gm_s_iconst dX7_become_82) (
    gm_cn 84 (gm_m_aload _) (gm_s_aload_n dX7_become_83 rfl) (
    gm_cn 87 (gm_m_getR _ _) (gf_getR_7_4 gw_108 dX7_become_84) (
    gm_cn 88 gm_m_alen (gm_s_alen dX7_become_87) (
    gm_cn 91 (gm_m_acp _) (gm_s_acp20 gw_115 gw_36 gw_37 gw_38 dX7_become_88) (
    gm_cn 92 (gm_m_aload _) (gm_s_aload_n dX7_become_91 rfl) (
    gm_cn 95 (gm_m_getR _ _) (gf_getR_7_5 gw_109 dX7_become_92) (
    gm_cn 96 (gm_m_push _) (gm_s_iconst dX7_become_95) (
    gm_cn 97 (gm_m_aload _) (gm_s_aload_n dX7_become_96 rfl) (
    gm_cn 100 (gm_m_getR _ _) (gf_getR_7_5 gw_109 dX7_become_97) (
    gm_cn 101 (gm_m_push _) (gm_s_iconst dX7_become_100) (
    gm_cn 102 (gm_m_aload _) (gm_s_aload_n dX7_become_101 rfl) (
    gm_cn 105 (gm_m_getR _ _) (gf_getR_7_5 gw_109 dX7_become_102) (
    gm_cn 106 gm_m_alen (gm_s_alen dX7_become_105) (
    gm_cn 109 (gm_m_acp _) (gm_s_acp20 gw_115 gw_36 gw_37 gw_38 dX7_become_106) (
    gm_cn 110 (gm_m_aload _) (gm_s_aload_n dX7_become_109 rfl) (
    gm_cn 113 (gm_m_getR _ _) (gf_getR_7_6 gw_110 dX7_become_110) (
    gm_cn 114 (gm_m_push _) (gm_s_iconst dX7_become_113) (
    gm_cn 115 (gm_m_aload _) (gm_s_aload_n dX7_become_114 rfl) (
    gm_cn 118 (gm_m_getR _ _) (gf_getR_7_6 gw_110 dX7_become_115) (
    gm_cn 119 (gm_m_push _) (gm_s_iconst dX7_become_118) (
    gm_cn 120 (gm_m_aload _) (gm_s_aload_n dX7_become_119 rfl) (
    gm_cn 123 (gm_m_getR _ _) (gf_getR_7_6 gw_110 dX7_become_120) (
    gm_cn 124 gm_m_alen (gm_s_alen dX7_become_123) (
    gm_cn 127 (gm_m_acp _) (gm_s_acp20 gw_115 gw_36 gw_37 gw_38 dX7_become_124) (
    gm_cn 128 (gm_m_aload _) (gm_s_aload_n dX7_become_127 rfl) (
    gm_cn 129 (gm_m_aload _) (gm_s_aload_n dX7_become_128 rfl) (
    gm_cn 132 (gm_m_getI _ _) (gf_getI_7_7 gw_116 dX7_become_129) (
    gm_cn 135 (gm_m_putI _ _) (gf_putI_7_7 gw_116 dX7_become_132) (
    gm_cn 136 (gm_m_aload _) (gm_s_aload_n dX7_become_135 rfl) (
    gm_cn 139 (gm_m_getR _ _) (gf_getR_7_8 gw_111 dX7_become_136) (
    gm_cn 140 (gm_m_push _) (gm_s_iconst dX7_become_139) (
    gm_cn 141 (gm_m_aload _) (gm_s_aload_n dX7_become_140 rfl) (
    gm_cn 144 (gm_m_getR _ _) (gf_getR_7_8 gw_111 dX7_become_141) (
    gm_cn 145 (gm_m_push _) (gm_s_iconst dX7_become_144) (
    gm_cn 146 (gm_m_aload _) (gm_s_aload_n dX7_become_145 rfl) (
    gm_cn 149 (gm_m_getR _ _) (gf_getR_7_8 gw_111 dX7_become_146) (
    gm_cn 150 gm_m_alen (gm_s_alen dX7_become_149) (
    gm_cn 153 (gm_m_acp _) (gm_s_acp20 gw_115 gw_36 gw_37 gw_38 dX7_become_150) (
    gm_cn 154 (gm_m_aload _) (gm_s_aload_n dX7_become_153 rfl) (
    gm_cn 155 (gm_m_aload _) (gm_s_aload_n dX7_become_154 rfl) (
    gm_cn 158 (gm_m_getI _ _) (gf_getI_7_9 gw_117 dX7_become_155) (
    gm_cn 161 (gm_m_putI _ _) (gf_putI_7_9 gw_117 dX7_become_158) (
    gm_cn 0 gm_m_vret (gm_s_vret dX7_become_161 rfl 0) (
    trivial))))))))))))))))))))))))))))))))))))))))))))))))))))))))))))), trivial⟩
theorem dX7_moon_0 : decode cX7_moon 0 = .ok (.aload_n 0, 1) := by decide +kernel
theorem dX7_moon_1 : decode cX7_moon 1 = .ok (.getfield 42, 3) := by decide +kernel
theorem dX7_moon_4 : decode cX7_moon 4 = .ok (.bipush 28, 2) := by decide +kernel
theorem dX7_moon_6 : decode cX7_moon 6 = .ok (.irem, 1) := by decide +kernel
theorem dX7_moon_7 : decode cX7_moon 7 = .ok (.ireturn, 1) := by decide +kernel
def pX7_moon : List (List gm_A) := [[(gm_aload 0), (gm_getI 7 702), (gm_push (.inl 28)), (gm_quo gm_rem), gm_iret]]
def bpX7_moon : Nat → Nat := fun b => ([0] : List Nat).getD b 0
set_option maxRecDepth 100000 in
theorem tX7_moon {D : va_G} {sz : Nat} {ad : Nat → Nat} {cA : Nat → ClassId} {xs : Int → Int} {Ln : Int} {l : Launch} : gm_SB D sz ad cA xs Ln l gm_mt cX7_moon "LongNoon$Town" 1 false 1 bpX7_moon 0 pX7_moon :=
  ⟨gm_cn 1 (gm_m_aload _) (gm_s_aload_n dX7_moon_0 rfl) (
    gm_cn 4 (gm_m_getI _ _) (gf_getI_7_2 gw_114 dX7_moon_1) (
    gm_cn 6 (gm_m_push _) (gm_s_bipush dX7_moon_4 rfl) (
    gm_cn 7 (gm_m_quo _) (gm_s_irem dX7_moon_6) (
    gm_cn 0 gm_m_iret (gm_s_iret dX7_moon_7 rfl 0) (
    trivial))))), trivial⟩
theorem dX7_pool_0 : decode cX7_pool 0 = .ok (.aload_n 1, 1) := by decide +kernel
theorem dX7_pool_1 : decode cX7_pool 1 = .ok (.iconst 0, 1) := by decide +kernel
theorem dX7_pool_2 : decode cX7_pool 2 = .ok (.putfield 57, 3) := by decide +kernel
theorem dX7_pool_5 : decode cX7_pool 5 = .ok (.aload_n 1, 1) := by decide +kernel
theorem dX7_pool_6 : decode cX7_pool 6 = .ok (.iconst 0, 1) := by decide +kernel
theorem dX7_pool_7 : decode cX7_pool 7 = .ok (.putfield 62, 3) := by decide +kernel
theorem dX7_pool_10 : decode cX7_pool 10 = .ok (.aload_n 1, 1) := by decide +kernel
theorem dX7_pool_11 : decode cX7_pool 11 = .ok (.iconst 0, 1) := by decide +kernel
theorem dX7_pool_12 : decode cX7_pool 12 = .ok (.putfield 65, 3) := by decide +kernel
theorem dX7_pool_15 : decode cX7_pool 15 = .ok (.iconst 0, 1) := by decide +kernel
theorem dX7_pool_16 : decode cX7_pool 16 = .ok (.istore_n 2, 1) := by decide +kernel
theorem dX7_pool_17 : decode cX7_pool 17 = .ok (.iload_n 2, 1) := by decide +kernel
theorem dX7_pool_18 : decode cX7_pool 18 = .ok (.aload_n 0, 1) := by decide +kernel
theorem dX7_pool_19 : decode cX7_pool 19 = .ok (.getfield 35, 3) := by decide +kernel
theorem dX7_pool_22 : decode cX7_pool 22 = .ok (.if_icmp .ge 67, 3) := by decide +kernel
theorem dX7_pool_25 : decode cX7_pool 25 = .ok (.iload_n 2, 1) := by decide +kernel
theorem dX7_pool_26 : decode cX7_pool 26 = .ok (.aload_n 0, 1) := by decide +kernel
theorem dX7_pool_27 : decode cX7_pool 27 = .ok (.getfield 11, 3) := by decide +kernel
theorem dX7_pool_30 : decode cX7_pool 30 = .ok (.arraylength, 1) := by decide +kernel
theorem dX7_pool_31 : decode cX7_pool 31 = .ok (.if_icmp .ge 58, 3) := by decide +kernel
theorem dX7_pool_34 : decode cX7_pool 34 = .ok (.aload_n 0, 1) := by decide +kernel
theorem dX7_pool_35 : decode cX7_pool 35 = .ok (.getfield 11, 3) := by decide +kernel
theorem dX7_pool_38 : decode cX7_pool 38 = .ok (.iload_n 2, 1) := by decide +kernel
theorem dX7_pool_39 : decode cX7_pool 39 = .ok (.aaload, 1) := by decide +kernel
theorem dX7_pool_40 : decode cX7_pool 40 = .ok (.getfield 68, 3) := by decide +kernel
theorem dX7_pool_43 : decode cX7_pool 43 = .ok (.astore_n 3, 1) := by decide +kernel
theorem dX7_pool_44 : decode cX7_pool 44 = .ok (.aload_n 1, 1) := by decide +kernel
theorem dX7_pool_45 : decode cX7_pool 45 = .ok (.dup, 1) := by decide +kernel
theorem dX7_pool_46 : decode cX7_pool 46 = .ok (.getfield 57, 3) := by decide +kernel
theorem dX7_pool_49 : decode cX7_pool 49 = .ok (.aload_n 3, 1) := by decide +kernel
theorem dX7_pool_50 : decode cX7_pool 50 = .ok (.getfield 57, 3) := by decide +kernel
theorem dX7_pool_53 : decode cX7_pool 53 = .ok (.iadd, 1) := by decide +kernel
theorem dX7_pool_54 : decode cX7_pool 54 = .ok (.putfield 57, 3) := by decide +kernel
theorem dX7_pool_57 : decode cX7_pool 57 = .ok (.aload_n 1, 1) := by decide +kernel
theorem dX7_pool_58 : decode cX7_pool 58 = .ok (.dup, 1) := by decide +kernel
theorem dX7_pool_59 : decode cX7_pool 59 = .ok (.getfield 62, 3) := by decide +kernel
theorem dX7_pool_62 : decode cX7_pool 62 = .ok (.aload_n 3, 1) := by decide +kernel
theorem dX7_pool_63 : decode cX7_pool 63 = .ok (.getfield 62, 3) := by decide +kernel
theorem dX7_pool_66 : decode cX7_pool 66 = .ok (.iadd, 1) := by decide +kernel
theorem dX7_pool_67 : decode cX7_pool 67 = .ok (.putfield 62, 3) := by decide +kernel
theorem dX7_pool_70 : decode cX7_pool 70 = .ok (.aload_n 1, 1) := by decide +kernel
theorem dX7_pool_71 : decode cX7_pool 71 = .ok (.dup, 1) := by decide +kernel
theorem dX7_pool_72 : decode cX7_pool 72 = .ok (.getfield 65, 3) := by decide +kernel
theorem dX7_pool_75 : decode cX7_pool 75 = .ok (.aload_n 3, 1) := by decide +kernel
theorem dX7_pool_76 : decode cX7_pool 76 = .ok (.getfield 65, 3) := by decide +kernel
theorem dX7_pool_79 : decode cX7_pool 79 = .ok (.iadd, 1) := by decide +kernel
theorem dX7_pool_80 : decode cX7_pool 80 = .ok (.putfield 65, 3) := by decide +kernel
theorem dX7_pool_83 : decode cX7_pool 83 = .ok (.iinc 2 1, 3) := by decide +kernel
theorem dX7_pool_86 : decode cX7_pool 86 = .ok (.goto (-69), 3) := by decide +kernel
theorem dX7_pool_89 : decode cX7_pool 89 = .ok (.return_, 1) := by decide +kernel
def pX7_pool : List (List gm_A) := [[(gm_aload 1), (gm_push (.inl 0)), (gm_putI 5 500), (gm_aload 1), (gm_push (.inl 0)), (gm_putI 5 501), (gm_aload 1), (gm_push (.inl 0)), (gm_putI 5 502), (gm_push (.inl 0)), (gm_istore 2), (gm_goto 1)],
  [(gm_iload 2), (gm_aload 0), (gm_getI 7 701), (gm_cge 2), (gm_iload 2), (gm_aload 0), (gm_getR 7 700), gm_alen, (gm_cge 2), (gm_aload 0), (gm_getR 7 700), (gm_iload 2), (gm_aald 24), (gm_getR 2 205), (gm_astore 3), (gm_aload 1), gm_dup, (gm_getI 5 500), (gm_aload 3), (gm_getI 5 500), (gm_op2 gm_add), (gm_putI 5 500), (gm_aload 1), gm_dup, (gm_getI 5 501), (gm_aload 3), (gm_getI 5 501), (gm_op2 gm_add), (gm_putI 5 501), (gm_aload 1), gm_dup, (gm_getI 5 502), (gm_aload 3), (gm_getI 5 502), (gm_op2 gm_add), (gm_putI 5 502), (gm_iinc 2 1), (gm_goto 1)],
  [gm_vret]]
def bpX7_pool : Nat → Nat := fun b => ([0, 17, 89] : List Nat).getD b 0
set_option maxRecDepth 100000 in
theorem tX7_pool {D : va_G} {sz : Nat} {ad : Nat → Nat} {cA : Nat → ClassId} {xs : Int → Int} {Ln : Int} {l : Launch} : gm_SB D sz ad cA xs Ln l gm_mt cX7_pool "LongNoon$Town" 4 false 0 bpX7_pool 0 pX7_pool :=
  ⟨gm_cn 1 (gm_m_aload _) (gm_s_aload_n dX7_pool_0 rfl) (
    gm_cn 2 (gm_m_push _) (gm_s_iconst dX7_pool_1) (
    gm_cn 5 (gm_m_putI _ _) (gf_putI_5_0 gw_118 dX7_pool_2) (
    gm_cn 6 (gm_m_aload _) (gm_s_aload_n dX7_pool_5 rfl) (
    gm_cn 7 (gm_m_push _) (gm_s_iconst dX7_pool_6) (
    gm_cn 10 (gm_m_putI _ _) (gf_putI_5_1 gw_119 dX7_pool_7) (
    gm_cn 11 (gm_m_aload _) (gm_s_aload_n dX7_pool_10 rfl) (
    gm_cn 12 (gm_m_push _) (gm_s_iconst dX7_pool_11) (
    gm_cn 15 (gm_m_putI _ _) (gf_putI_5_2 gw_120 dX7_pool_12) (
    gm_cn 16 (gm_m_push _) (gm_s_iconst dX7_pool_15) (
    gm_cn 17 (gm_m_istore _) (gm_s_istore_n dX7_pool_16 rfl (by decide)) (
    gm_cn 0 (gm_m_goto _) (gm_s_fall (bpc := bpX7_pool) (b := 1) rfl 0) (
    trivial)))))))))))),
  gm_cn 18 (gm_m_iload _) (gm_s_iload_n dX7_pool_17 rfl) (
    gm_cn 19 (gm_m_aload _) (gm_s_aload_n dX7_pool_18 rfl) (
    gm_cn 22 (gm_m_getI _ _) (gf_getI_7_1 gw_112 dX7_pool_19) (
    gm_cn 25 (gm_m_cge _) (gm_s_cge (bpc := bpX7_pool) (b := 2) dX7_pool_22 rfl) (
    gm_cn 26 (gm_m_iload _) (gm_s_iload_n dX7_pool_25 rfl) (
    gm_cn 27 (gm_m_aload _) (gm_s_aload_n dX7_pool_26 rfl) (
    gm_cn 30 (gm_m_getR _ _) (gf_getR_7_0 gw_106 dX7_pool_27) (
    gm_cn 31 gm_m_alen (gm_s_alen dX7_pool_30) (
    gm_cn 34 (gm_m_cge _) (gm_s_cge (bpc := bpX7_pool) (b := 2) dX7_pool_31 rfl) (
    gm_cn 35 (gm_m_aload _) (gm_s_aload_n dX7_pool_34 rfl) (
    gm_cn 38 (gm_m_getR _ _) (gf_getR_7_0 gw_106 dX7_pool_35) (
    gm_cn 39 (gm_m_iload _) (gm_s_iload_n dX7_pool_38 rfl) (
    gm_cn 40 (gm_m_aald _) (gm_s_aald (t0 := 4) (by decide) (fun _ => rfl) dX7_pool_39) (
    gm_cn 43 (gm_m_getR _ _) (gf_getR_2_5 gw_121 dX7_pool_40) (
    gm_cn 44 (gm_m_astore _) (gm_s_astore_n dX7_pool_43 rfl (by decide)) (
    gm_cn 45 (gm_m_aload _) (gm_s_aload_n dX7_pool_44 rfl) (
    gm_cn 46 gm_m_dup (gm_s_dup dX7_pool_45) (
    gm_cn 49 (gm_m_getI _ _) (gf_getI_5_0 gw_118 dX7_pool_46) (
    gm_cn 50 (gm_m_aload _) (gm_s_aload_n dX7_pool_49 rfl) (
    gm_cn 53 (gm_m_getI _ _) (gf_getI_5_0 gw_118 dX7_pool_50) (
    gm_cn 54 (gm_m_op2 _) (gm_s_iadd dX7_pool_53) (
    gm_cn 57 (gm_m_putI _ _) (gf_putI_5_0 gw_118 dX7_pool_54) (
    gm_cn 58 (gm_m_aload _) (gm_s_aload_n dX7_pool_57 rfl) (
    gm_cn 59 gm_m_dup (gm_s_dup dX7_pool_58) (
    gm_cn 62 (gm_m_getI _ _) (gf_getI_5_1 gw_119 dX7_pool_59) (
    gm_cn 63 (gm_m_aload _) (gm_s_aload_n dX7_pool_62 rfl) (
    gm_cn 66 (gm_m_getI _ _) (gf_getI_5_1 gw_119 dX7_pool_63) (
    gm_cn 67 (gm_m_op2 _) (gm_s_iadd dX7_pool_66) (
    gm_cn 70 (gm_m_putI _ _) (gf_putI_5_1 gw_119 dX7_pool_67) (
    gm_cn 71 (gm_m_aload _) (gm_s_aload_n dX7_pool_70 rfl) (
    gm_cn 72 gm_m_dup (gm_s_dup dX7_pool_71) (
    gm_cn 75 (gm_m_getI _ _) (gf_getI_5_2 gw_120 dX7_pool_72) (
    gm_cn 76 (gm_m_aload _) (gm_s_aload_n dX7_pool_75 rfl) (
    gm_cn 79 (gm_m_getI _ _) (gf_getI_5_2 gw_120 dX7_pool_76) (
    gm_cn 80 (gm_m_op2 _) (gm_s_iadd dX7_pool_79) (
    gm_cn 83 (gm_m_putI _ _) (gf_putI_5_2 gw_120 dX7_pool_80) (
    gm_cn 86 (gm_m_iinc _ _) (gm_s_iinc dX7_pool_83 (by decide)) (
    gm_cn 0 (gm_m_goto _) (gm_s_goto (bpc := bpX7_pool) (b := 1) dX7_pool_86 rfl 0) (
    trivial)))))))))))))))))))))))))))))))))))))),
  gm_cn 0 gm_m_vret (gm_s_vret dX7_pool_89 rfl 0) (
    trivial), trivial⟩
theorem dX7_passWith_0 : decode cX7_passWith 0 = .ok (.aload_n 1, 1) := by decide +kernel
theorem dX7_passWith_1 : decode cX7_passWith 1 = .ok (.getfield 57, 3) := by decide +kernel
theorem dX7_passWith_4 : decode cX7_passWith 4 = .ok (.istore_n 3, 1) := by decide +kernel
theorem dX7_passWith_5 : decode cX7_passWith 5 = .ok (.iconst 0, 1) := by decide +kernel
theorem dX7_passWith_6 : decode cX7_passWith 6 = .ok (.istore 4, 2) := by decide +kernel
theorem dX7_passWith_8 : decode cX7_passWith 8 = .ok (.aload_n 1, 1) := by decide +kernel
theorem dX7_passWith_9 : decode cX7_passWith 9 = .ok (.invokevirtual 72, 3) := by decide +kernel
theorem dX7_passWith_12 : decode cX7_passWith 12 = .ok (.iconst 0, 1) := by decide +kernel
theorem dX7_passWith_13 : decode cX7_passWith 13 = .ok (.istore 5, 2) := by decide +kernel
theorem dX7_passWith_15 : decode cX7_passWith 15 = .ok (.iload 5, 2) := by decide +kernel
theorem dX7_passWith_17 : decode cX7_passWith 17 = .ok (.aload_n 0, 1) := by decide +kernel
theorem dX7_passWith_18 : decode cX7_passWith 18 = .ok (.getfield 35, 3) := by decide +kernel
theorem dX7_passWith_21 : decode cX7_passWith 21 = .ok (.if_icmp .ge 53, 3) := by decide +kernel
theorem dX7_passWith_24 : decode cX7_passWith 24 = .ok (.iload 5, 2) := by decide +kernel
theorem dX7_passWith_26 : decode cX7_passWith 26 = .ok (.aload_n 0, 1) := by decide +kernel
theorem dX7_passWith_27 : decode cX7_passWith 27 = .ok (.getfield 11, 3) := by decide +kernel
theorem dX7_passWith_30 : decode cX7_passWith 30 = .ok (.arraylength, 1) := by decide +kernel
theorem dX7_passWith_31 : decode cX7_passWith 31 = .ok (.if_icmp .ge 43, 3) := by decide +kernel
theorem dX7_passWith_34 : decode cX7_passWith 34 = .ok (.aload_n 0, 1) := by decide +kernel
theorem dX7_passWith_35 : decode cX7_passWith 35 = .ok (.getfield 11, 3) := by decide +kernel
theorem dX7_passWith_38 : decode cX7_passWith 38 = .ok (.iload 5, 2) := by decide +kernel
theorem dX7_passWith_40 : decode cX7_passWith 40 = .ok (.aaload, 1) := by decide +kernel
theorem dX7_passWith_41 : decode cX7_passWith 41 = .ok (.astore 6, 2) := by decide +kernel
theorem dX7_passWith_43 : decode cX7_passWith 43 = .ok (.aload 6, 2) := by decide +kernel
theorem dX7_passWith_45 : decode cX7_passWith 45 = .ok (.aload_n 2, 1) := by decide +kernel
theorem dX7_passWith_46 : decode cX7_passWith 46 = .ok (.aload 6, 2) := by decide +kernel
theorem dX7_passWith_48 : decode cX7_passWith 48 = .ok (.aload_n 2, 1) := by decide +kernel
theorem dX7_passWith_49 : decode cX7_passWith 49 = .ok (.aload_n 0, 1) := by decide +kernel
theorem dX7_passWith_50 : decode cX7_passWith 50 = .ok (.invokevirtual 75, 3) := by decide +kernel
theorem dX7_passWith_53 : decode cX7_passWith 53 = .ok (.iload_n 3, 1) := by decide +kernel
theorem dX7_passWith_54 : decode cX7_passWith 54 = .ok (.iconst 0, 1) := by decide +kernel
theorem dX7_passWith_55 : decode cX7_passWith 55 = .ok (.invokevirtual 79, 3) := by decide +kernel
theorem dX7_passWith_58 : decode cX7_passWith 58 = .ok (.aload_n 1, 1) := by decide +kernel
theorem dX7_passWith_59 : decode cX7_passWith 59 = .ok (.invokevirtual 83, 3) := by decide +kernel
theorem dX7_passWith_62 : decode cX7_passWith 62 = .ok (.ifCond .eq 6, 3) := by decide +kernel
theorem dX7_passWith_65 : decode cX7_passWith 65 = .ok (.iconst 1, 1) := by decide +kernel
theorem dX7_passWith_66 : decode cX7_passWith 66 = .ok (.istore 4, 2) := by decide +kernel
theorem dX7_passWith_68 : decode cX7_passWith 68 = .ok (.iinc 5 1, 3) := by decide +kernel
theorem dX7_passWith_71 : decode cX7_passWith 71 = .ok (.goto (-56), 3) := by decide +kernel
theorem dX7_passWith_74 : decode cX7_passWith 74 = .ok (.aload_n 0, 1) := by decide +kernel
theorem dX7_passWith_75 : decode cX7_passWith 75 = .ok (.dup, 1) := by decide +kernel
theorem dX7_passWith_76 : decode cX7_passWith 76 = .ok (.getfield 42, 3) := by decide +kernel
theorem dX7_passWith_79 : decode cX7_passWith 79 = .ok (.iconst 1, 1) := by decide +kernel
theorem dX7_passWith_80 : decode cX7_passWith 80 = .ok (.iadd, 1) := by decide +kernel
theorem dX7_passWith_81 : decode cX7_passWith 81 = .ok (.putfield 42, 3) := by decide +kernel
theorem dX7_passWith_84 : decode cX7_passWith 84 = .ok (.iload 4, 2) := by decide +kernel
theorem dX7_passWith_86 : decode cX7_passWith 86 = .ok (.ireturn, 1) := by decide +kernel
def pX7_passWith : List (List gm_A) := [[(gm_aload 1), (gm_getI 5 500), (gm_istore 3), (gm_push (.inl 0)), (gm_istore 4), (gm_aload 1), (gm_vcall 5 38 1), (gm_push (.inl 0)), (gm_istore 5), (gm_goto 1)],
  [(gm_iload 5), (gm_aload 0), (gm_getI 7 701), (gm_cge 3), (gm_iload 5), (gm_aload 0), (gm_getR 7 700), gm_alen, (gm_cge 3), (gm_aload 0), (gm_getR 7 700), (gm_iload 5), (gm_aald 24), (gm_astore 6), (gm_aload 6), (gm_aload 2), (gm_aload 6), (gm_aload 2), (gm_aload 0), (gm_vcall 7 48 1), (gm_iload 3), (gm_push (.inl 0)), (gm_vcall 2 15 5), (gm_aload 1), (gm_vcall 2 16 4), (gm_ifeq 2), (gm_push (.inl 1)), (gm_istore 4), (gm_goto 2)],
  [(gm_iinc 5 1), (gm_goto 1)],
  [(gm_aload 0), gm_dup, (gm_getI 7 702), (gm_push (.inl 1)), (gm_op2 gm_add), (gm_putI 7 702), (gm_iload 4), gm_zret]]
def bpX7_passWith : Nat → Nat := fun b => ([0, 15, 68, 74] : List Nat).getD b 0
set_option maxRecDepth 100000 in
theorem tX7_passWith {D : va_G} {sz : Nat} {ad : Nat → Nat} {cA : Nat → ClassId} {xs : Int → Int} {Ln : Int} {l : Launch} : gm_SB D sz ad cA xs Ln l gm_mt cX7_passWith "LongNoon$Town" 7 false 2 bpX7_passWith 0 pX7_passWith :=
  ⟨gm_cn 1 (gm_m_aload _) (gm_s_aload_n dX7_passWith_0 rfl) (
    gm_cn 4 (gm_m_getI _ _) (gf_getI_5_0 gw_118 dX7_passWith_1) (
    gm_cn 5 (gm_m_istore _) (gm_s_istore_n dX7_passWith_4 rfl (by decide)) (
    gm_cn 6 (gm_m_push _) (gm_s_iconst dX7_passWith_5) (
    gm_cn 8 (gm_m_istore _) (gm_s_istore dX7_passWith_6 (by decide)) (
    gm_cn 9 (gm_m_aload _) (gm_s_aload_n dX7_passWith_8 rfl) (
    gm_cn 12 (gm_m_vcall _ _ _) (gcl_X5_seep gw_122 dX7_passWith_9) (
    gm_cn 13 (gm_m_push _) (gm_s_iconst dX7_passWith_12) (
    gm_cn 15 (gm_m_istore _) (gm_s_istore dX7_passWith_13 (by decide)) (
    gm_cn 0 (gm_m_goto _) (gm_s_fall (bpc := bpX7_passWith) (b := 1) rfl 0) (
    trivial)))))))))),
  gm_cn 17 (gm_m_iload _) (gm_s_iload dX7_passWith_15) (
    gm_cn 18 (gm_m_aload _) (gm_s_aload_n dX7_passWith_17 rfl) (
    gm_cn 21 (gm_m_getI _ _) (gf_getI_7_1 gw_112 dX7_passWith_18) (
    gm_cn 24 (gm_m_cge _) (gm_s_cge (bpc := bpX7_passWith) (b := 3) dX7_passWith_21 rfl) (
    gm_cn 26 (gm_m_iload _) (gm_s_iload dX7_passWith_24) (
    gm_cn 27 (gm_m_aload _) (gm_s_aload_n dX7_passWith_26 rfl) (
    gm_cn 30 (gm_m_getR _ _) (gf_getR_7_0 gw_106 dX7_passWith_27) (
    gm_cn 31 gm_m_alen (gm_s_alen dX7_passWith_30) (
    gm_cn 34 (gm_m_cge _) (gm_s_cge (bpc := bpX7_passWith) (b := 3) dX7_passWith_31 rfl) (
    gm_cn 35 (gm_m_aload _) (gm_s_aload_n dX7_passWith_34 rfl) (
    gm_cn 38 (gm_m_getR _ _) (gf_getR_7_0 gw_106 dX7_passWith_35) (
    gm_cn 40 (gm_m_iload _) (gm_s_iload dX7_passWith_38) (
    gm_cn 41 (gm_m_aald _) (gm_s_aald (t0 := 4) (by decide) (fun _ => rfl) dX7_passWith_40) (
    gm_cn 43 (gm_m_astore _) (gm_s_astore dX7_passWith_41 (by decide)) (
    gm_cn 45 (gm_m_aload _) (gm_s_aload dX7_passWith_43) (
    gm_cn 46 (gm_m_aload _) (gm_s_aload_n dX7_passWith_45 rfl) (
    gm_cn 48 (gm_m_aload _) (gm_s_aload dX7_passWith_46) (
    gm_cn 49 (gm_m_aload _) (gm_s_aload_n dX7_passWith_48 rfl) (
    gm_cn 50 (gm_m_aload _) (gm_s_aload_n dX7_passWith_49 rfl) (
    gm_cn 53 (gm_m_vcall _ _ _) (gcl_X7_moon gw_123 dX7_passWith_50) (
    gm_cn 54 (gm_m_iload _) (gm_s_iload_n dX7_passWith_53 rfl) (
    gm_cn 55 (gm_m_push _) (gm_s_iconst dX7_passWith_54) (
    gm_cn 58 (gm_m_vcall _ _ _) (gcl_X2_gainOn gw_124 dX7_passWith_55) (
    gm_cn 59 (gm_m_aload _) (gm_s_aload_n dX7_passWith_58 rfl) (
    gm_cn 62 (gm_m_vcall _ _ _) (gcl_X2_settle gw_125 dX7_passWith_59) (
    gm_cn 65 (gm_m_ifeq _) (gm_s_ifeq (bpc := bpX7_passWith) (b := 2) dX7_passWith_62 rfl) (
    gm_cn 66 (gm_m_push _) (gm_s_iconst dX7_passWith_65) (
    gm_cn 68 (gm_m_istore _) (gm_s_istore dX7_passWith_66 (by decide)) (
    gm_cn 0 (gm_m_goto _) (gm_s_fall (bpc := bpX7_passWith) (b := 2) rfl 0) (
    trivial))))))))))))))))))))))))))))),
  gm_cn 71 (gm_m_iinc _ _) (gm_s_iinc dX7_passWith_68 (by decide)) (
    gm_cn 0 (gm_m_goto _) (gm_s_goto (bpc := bpX7_passWith) (b := 1) dX7_passWith_71 rfl 0) (
    trivial)),
  gm_cn 75 (gm_m_aload _) (gm_s_aload_n dX7_passWith_74 rfl) (
    gm_cn 76 gm_m_dup (gm_s_dup dX7_passWith_75) (
    gm_cn 79 (gm_m_getI _ _) (gf_getI_7_2 gw_114 dX7_passWith_76) (
    gm_cn 80 (gm_m_push _) (gm_s_iconst dX7_passWith_79) (
    gm_cn 81 (gm_m_op2 _) (gm_s_iadd dX7_passWith_80) (
    gm_cn 84 (gm_m_putI _ _) (gf_putI_7_2 gw_114 dX7_passWith_81) (
    gm_cn 86 (gm_m_iload _) (gm_s_iload dX7_passWith_84) (
    gm_cn 0 gm_m_zret (gm_s_zret dX7_passWith_86 rfl 0) (
    trivial)))))))), trivial⟩
theorem dX7_lastSeenDay_0 : decode cX7_lastSeenDay 0 = .ok (.iconst (-1), 1) := by decide +kernel
theorem dX7_lastSeenDay_1 : decode cX7_lastSeenDay 1 = .ok (.istore_n 2, 1) := by decide +kernel
theorem dX7_lastSeenDay_2 : decode cX7_lastSeenDay 2 = .ok (.iconst 0, 1) := by decide +kernel
theorem dX7_lastSeenDay_3 : decode cX7_lastSeenDay 3 = .ok (.istore_n 3, 1) := by decide +kernel
theorem dX7_lastSeenDay_4 : decode cX7_lastSeenDay 4 = .ok (.iload_n 3, 1) := by decide +kernel
theorem dX7_lastSeenDay_5 : decode cX7_lastSeenDay 5 = .ok (.aload_n 0, 1) := by decide +kernel
theorem dX7_lastSeenDay_6 : decode cX7_lastSeenDay 6 = .ok (.getfield 51, 3) := by decide +kernel
theorem dX7_lastSeenDay_9 : decode cX7_lastSeenDay 9 = .ok (.if_icmp .ge 39, 3) := by decide +kernel
theorem dX7_lastSeenDay_12 : decode cX7_lastSeenDay 12 = .ok (.iload_n 3, 1) := by decide +kernel
theorem dX7_lastSeenDay_13 : decode cX7_lastSeenDay 13 = .ok (.aload_n 0, 1) := by decide +kernel
theorem dX7_lastSeenDay_14 : decode cX7_lastSeenDay 14 = .ok (.getfield 21, 3) := by decide +kernel
theorem dX7_lastSeenDay_17 : decode cX7_lastSeenDay 17 = .ok (.arraylength, 1) := by decide +kernel
theorem dX7_lastSeenDay_18 : decode cX7_lastSeenDay 18 = .ok (.if_icmp .ge 30, 3) := by decide +kernel
theorem dX7_lastSeenDay_21 : decode cX7_lastSeenDay 21 = .ok (.aload_n 0, 1) := by decide +kernel
theorem dX7_lastSeenDay_22 : decode cX7_lastSeenDay 22 = .ok (.getfield 21, 3) := by decide +kernel
theorem dX7_lastSeenDay_25 : decode cX7_lastSeenDay 25 = .ok (.iload_n 3, 1) := by decide +kernel
theorem dX7_lastSeenDay_26 : decode cX7_lastSeenDay 26 = .ok (.iaload, 1) := by decide +kernel
theorem dX7_lastSeenDay_27 : decode cX7_lastSeenDay 27 = .ok (.iload_n 1, 1) := by decide +kernel
theorem dX7_lastSeenDay_28 : decode cX7_lastSeenDay 28 = .ok (.if_icmp .ne 14, 3) := by decide +kernel
theorem dX7_lastSeenDay_31 : decode cX7_lastSeenDay 31 = .ok (.iload_n 2, 1) := by decide +kernel
theorem dX7_lastSeenDay_32 : decode cX7_lastSeenDay 32 = .ok (.aload_n 0, 1) := by decide +kernel
theorem dX7_lastSeenDay_33 : decode cX7_lastSeenDay 33 = .ok (.getfield 25, 3) := by decide +kernel
theorem dX7_lastSeenDay_36 : decode cX7_lastSeenDay 36 = .ok (.iload_n 3, 1) := by decide +kernel
theorem dX7_lastSeenDay_37 : decode cX7_lastSeenDay 37 = .ok (.iaload, 1) := by decide +kernel
theorem dX7_lastSeenDay_38 : decode cX7_lastSeenDay 38 = .ok (.invokestatic 87, 3) := by decide +kernel
theorem dX7_lastSeenDay_41 : decode cX7_lastSeenDay 41 = .ok (.istore_n 2, 1) := by decide +kernel
theorem dX7_lastSeenDay_42 : decode cX7_lastSeenDay 42 = .ok (.iinc 3 1, 3) := by decide +kernel
theorem dX7_lastSeenDay_45 : decode cX7_lastSeenDay 45 = .ok (.goto (-41), 3) := by decide +kernel
theorem dX7_lastSeenDay_48 : decode cX7_lastSeenDay 48 = .ok (.iload_n 2, 1) := by decide +kernel
theorem dX7_lastSeenDay_49 : decode cX7_lastSeenDay 49 = .ok (.ireturn, 1) := by decide +kernel
def pX7_lastSeenDay : List (List gm_A) := [[(gm_push (.inl (-1))), (gm_istore 2), (gm_push (.inl 0)), (gm_istore 3), (gm_goto 1)],
  [(gm_iload 3), (gm_aload 0), (gm_getI 7 707), (gm_cge 3), (gm_iload 3), (gm_aload 0), (gm_getR 7 704), gm_alen, (gm_cge 3), (gm_aload 0), (gm_getR 7 704), (gm_iload 3), gm_iald, (gm_iload 1), (gm_cne 2), (gm_iload 2), (gm_aload 0), (gm_getR 7 705), (gm_iload 3), gm_iald, gm_max, (gm_istore 2), (gm_goto 2)],
  [(gm_iinc 3 1), (gm_goto 1)],
  [(gm_iload 2), gm_iret]]
def bpX7_lastSeenDay : Nat → Nat := fun b => ([0, 4, 42, 48] : List Nat).getD b 0
set_option maxRecDepth 100000 in
theorem tX7_lastSeenDay {D : va_G} {sz : Nat} {ad : Nat → Nat} {cA : Nat → ClassId} {xs : Int → Int} {Ln : Int} {l : Launch} : gm_SB D sz ad cA xs Ln l gm_mt cX7_lastSeenDay "LongNoon$Town" 4 false 1 bpX7_lastSeenDay 0 pX7_lastSeenDay :=
  ⟨gm_cn 1 (gm_m_push _) (gm_s_iconst dX7_lastSeenDay_0) (
    gm_cn 2 (gm_m_istore _) (gm_s_istore_n dX7_lastSeenDay_1 rfl (by decide)) (
    gm_cn 3 (gm_m_push _) (gm_s_iconst dX7_lastSeenDay_2) (
    gm_cn 4 (gm_m_istore _) (gm_s_istore_n dX7_lastSeenDay_3 rfl (by decide)) (
    gm_cn 0 (gm_m_goto _) (gm_s_fall (bpc := bpX7_lastSeenDay) (b := 1) rfl 0) (
    trivial))))),
  gm_cn 5 (gm_m_iload _) (gm_s_iload_n dX7_lastSeenDay_4 rfl) (
    gm_cn 6 (gm_m_aload _) (gm_s_aload_n dX7_lastSeenDay_5 rfl) (
    gm_cn 9 (gm_m_getI _ _) (gf_getI_7_7 gw_116 dX7_lastSeenDay_6) (
    gm_cn 12 (gm_m_cge _) (gm_s_cge (bpc := bpX7_lastSeenDay) (b := 3) dX7_lastSeenDay_9 rfl) (
    gm_cn 13 (gm_m_iload _) (gm_s_iload_n dX7_lastSeenDay_12 rfl) (
    gm_cn 14 (gm_m_aload _) (gm_s_aload_n dX7_lastSeenDay_13 rfl) (
    gm_cn 17 (gm_m_getR _ _) (gf_getR_7_4 gw_108 dX7_lastSeenDay_14) (
    gm_cn 18 gm_m_alen (gm_s_alen dX7_lastSeenDay_17) (
    gm_cn 21 (gm_m_cge _) (gm_s_cge (bpc := bpX7_lastSeenDay) (b := 3) dX7_lastSeenDay_18 rfl) (
    gm_cn 22 (gm_m_aload _) (gm_s_aload_n dX7_lastSeenDay_21 rfl) (
    gm_cn 25 (gm_m_getR _ _) (gf_getR_7_4 gw_108 dX7_lastSeenDay_22) (
    gm_cn 26 (gm_m_iload _) (gm_s_iload_n dX7_lastSeenDay_25 rfl) (
    gm_cn 27 gm_m_iald (gm_s_iald dX7_lastSeenDay_26) (
    gm_cn 28 (gm_m_iload _) (gm_s_iload_n dX7_lastSeenDay_27 rfl) (
    gm_cn 31 (gm_m_cne _) (gm_s_cne (bpc := bpX7_lastSeenDay) (b := 2) dX7_lastSeenDay_28 rfl) (
    gm_cn 32 (gm_m_iload _) (gm_s_iload_n dX7_lastSeenDay_31 rfl) (
    gm_cn 33 (gm_m_aload _) (gm_s_aload_n dX7_lastSeenDay_32 rfl) (
    gm_cn 36 (gm_m_getR _ _) (gf_getR_7_5 gw_109 dX7_lastSeenDay_33) (
    gm_cn 37 (gm_m_iload _) (gm_s_iload_n dX7_lastSeenDay_36 rfl) (
    gm_cn 38 gm_m_iald (gm_s_iald dX7_lastSeenDay_37) (
    gm_cn 41 gm_m_max (gm_s_max gw_126 gw_46 gw_43 gw_47 dX7_lastSeenDay_38) (
    gm_cn 42 (gm_m_istore _) (gm_s_istore_n dX7_lastSeenDay_41 rfl (by decide)) (
    gm_cn 0 (gm_m_goto _) (gm_s_fall (bpc := bpX7_lastSeenDay) (b := 2) rfl 0) (
    trivial))))))))))))))))))))))),
  gm_cn 45 (gm_m_iinc _ _) (gm_s_iinc dX7_lastSeenDay_42 (by decide)) (
    gm_cn 0 (gm_m_goto _) (gm_s_goto (bpc := bpX7_lastSeenDay) (b := 1) dX7_lastSeenDay_45 rfl 0) (
    trivial)),
  gm_cn 49 (gm_m_iload _) (gm_s_iload_n dX7_lastSeenDay_48 rfl) (
    gm_cn 0 gm_m_iret (gm_s_iret dX7_lastSeenDay_49 rfl 0) (
    trivial)), trivial⟩
theorem dX7_wasSeenSo_0 : decode cX7_wasSeenSo 0 = .ok (.iconst 0, 1) := by decide +kernel
theorem dX7_wasSeenSo_1 : decode cX7_wasSeenSo 1 = .ok (.istore 4, 2) := by decide +kernel
theorem dX7_wasSeenSo_3 : decode cX7_wasSeenSo 3 = .ok (.iload 4, 2) := by decide +kernel
theorem dX7_wasSeenSo_5 : decode cX7_wasSeenSo 5 = .ok (.aload_n 0, 1) := by decide +kernel
theorem dX7_wasSeenSo_6 : decode cX7_wasSeenSo 6 = .ok (.getfield 51, 3) := by decide +kernel
theorem dX7_wasSeenSo_9 : decode cX7_wasSeenSo 9 = .ok (.if_icmp .ge 54, 3) := by decide +kernel
theorem dX7_wasSeenSo_12 : decode cX7_wasSeenSo 12 = .ok (.iload 4, 2) := by decide +kernel
theorem dX7_wasSeenSo_14 : decode cX7_wasSeenSo 14 = .ok (.aload_n 0, 1) := by decide +kernel
theorem dX7_wasSeenSo_15 : decode cX7_wasSeenSo 15 = .ok (.getfield 21, 3) := by decide +kernel
theorem dX7_wasSeenSo_18 : decode cX7_wasSeenSo 18 = .ok (.arraylength, 1) := by decide +kernel
theorem dX7_wasSeenSo_19 : decode cX7_wasSeenSo 19 = .ok (.if_icmp .ge 44, 3) := by decide +kernel
theorem dX7_wasSeenSo_22 : decode cX7_wasSeenSo 22 = .ok (.aload_n 0, 1) := by decide +kernel
theorem dX7_wasSeenSo_23 : decode cX7_wasSeenSo 23 = .ok (.getfield 21, 3) := by decide +kernel
theorem dX7_wasSeenSo_26 : decode cX7_wasSeenSo 26 = .ok (.iload 4, 2) := by decide +kernel
theorem dX7_wasSeenSo_28 : decode cX7_wasSeenSo 28 = .ok (.iaload, 1) := by decide +kernel
theorem dX7_wasSeenSo_29 : decode cX7_wasSeenSo 29 = .ok (.iload_n 1, 1) := by decide +kernel
theorem dX7_wasSeenSo_30 : decode cX7_wasSeenSo 30 = .ok (.if_icmp .ne 27, 3) := by decide +kernel
theorem dX7_wasSeenSo_33 : decode cX7_wasSeenSo 33 = .ok (.aload_n 0, 1) := by decide +kernel
theorem dX7_wasSeenSo_34 : decode cX7_wasSeenSo 34 = .ok (.getfield 25, 3) := by decide +kernel
theorem dX7_wasSeenSo_37 : decode cX7_wasSeenSo 37 = .ok (.iload 4, 2) := by decide +kernel
theorem dX7_wasSeenSo_39 : decode cX7_wasSeenSo 39 = .ok (.iaload, 1) := by decide +kernel
theorem dX7_wasSeenSo_40 : decode cX7_wasSeenSo 40 = .ok (.iload_n 2, 1) := by decide +kernel
theorem dX7_wasSeenSo_41 : decode cX7_wasSeenSo 41 = .ok (.if_icmp .ne 16, 3) := by decide +kernel
theorem dX7_wasSeenSo_44 : decode cX7_wasSeenSo 44 = .ok (.aload_n 0, 1) := by decide +kernel
theorem dX7_wasSeenSo_45 : decode cX7_wasSeenSo 45 = .ok (.getfield 28, 3) := by decide +kernel
theorem dX7_wasSeenSo_48 : decode cX7_wasSeenSo 48 = .ok (.iload 4, 2) := by decide +kernel
theorem dX7_wasSeenSo_50 : decode cX7_wasSeenSo 50 = .ok (.iaload, 1) := by decide +kernel
theorem dX7_wasSeenSo_51 : decode cX7_wasSeenSo 51 = .ok (.iload_n 3, 1) := by decide +kernel
theorem dX7_wasSeenSo_52 : decode cX7_wasSeenSo 52 = .ok (.if_icmp .eq 5, 3) := by decide +kernel
theorem dX7_wasSeenSo_55 : decode cX7_wasSeenSo 55 = .ok (.iconst 0, 1) := by decide +kernel
theorem dX7_wasSeenSo_56 : decode cX7_wasSeenSo 56 = .ok (.ireturn, 1) := by decide +kernel
theorem dX7_wasSeenSo_57 : decode cX7_wasSeenSo 57 = .ok (.iinc 4 1, 3) := by decide +kernel
theorem dX7_wasSeenSo_60 : decode cX7_wasSeenSo 60 = .ok (.goto (-57), 3) := by decide +kernel
theorem dX7_wasSeenSo_63 : decode cX7_wasSeenSo 63 = .ok (.iconst 1, 1) := by decide +kernel
theorem dX7_wasSeenSo_64 : decode cX7_wasSeenSo 64 = .ok (.ireturn, 1) := by decide +kernel
def pX7_wasSeenSo : List (List gm_A) := [[(gm_push (.inl 0)), (gm_istore 4), (gm_goto 1)],
  [(gm_iload 4), (gm_aload 0), (gm_getI 7 707), (gm_cge 3), (gm_iload 4), (gm_aload 0), (gm_getR 7 704), gm_alen, (gm_cge 3), (gm_aload 0), (gm_getR 7 704), (gm_iload 4), gm_iald, (gm_iload 1), (gm_cne 2), (gm_aload 0), (gm_getR 7 705), (gm_iload 4), gm_iald, (gm_iload 2), (gm_cne 2), (gm_aload 0), (gm_getR 7 706), (gm_iload 4), gm_iald, (gm_iload 3), (gm_ceq 2), (gm_push (.inl 0)), gm_zret],
  [(gm_iinc 4 1), (gm_goto 1)],
  [(gm_push (.inl 1)), gm_zret]]
def bpX7_wasSeenSo : Nat → Nat := fun b => ([0, 3, 57, 63] : List Nat).getD b 0
set_option maxRecDepth 100000 in
theorem tX7_wasSeenSo {D : va_G} {sz : Nat} {ad : Nat → Nat} {cA : Nat → ClassId} {xs : Int → Int} {Ln : Int} {l : Launch} : gm_SB D sz ad cA xs Ln l gm_mt cX7_wasSeenSo "LongNoon$Town" 5 false 2 bpX7_wasSeenSo 0 pX7_wasSeenSo :=
  ⟨gm_cn 1 (gm_m_push _) (gm_s_iconst dX7_wasSeenSo_0) (
    gm_cn 3 (gm_m_istore _) (gm_s_istore dX7_wasSeenSo_1 (by decide)) (
    gm_cn 0 (gm_m_goto _) (gm_s_fall (bpc := bpX7_wasSeenSo) (b := 1) rfl 0) (
    trivial))),
  gm_cn 5 (gm_m_iload _) (gm_s_iload dX7_wasSeenSo_3) (
    gm_cn 6 (gm_m_aload _) (gm_s_aload_n dX7_wasSeenSo_5 rfl) (
    gm_cn 9 (gm_m_getI _ _) (gf_getI_7_7 gw_116 dX7_wasSeenSo_6) (
    gm_cn 12 (gm_m_cge _) (gm_s_cge (bpc := bpX7_wasSeenSo) (b := 3) dX7_wasSeenSo_9 rfl) (
    gm_cn 14 (gm_m_iload _) (gm_s_iload dX7_wasSeenSo_12) (
    gm_cn 15 (gm_m_aload _) (gm_s_aload_n dX7_wasSeenSo_14 rfl) (
    gm_cn 18 (gm_m_getR _ _) (gf_getR_7_4 gw_108 dX7_wasSeenSo_15) (
    gm_cn 19 gm_m_alen (gm_s_alen dX7_wasSeenSo_18) (
    gm_cn 22 (gm_m_cge _) (gm_s_cge (bpc := bpX7_wasSeenSo) (b := 3) dX7_wasSeenSo_19 rfl) (
    gm_cn 23 (gm_m_aload _) (gm_s_aload_n dX7_wasSeenSo_22 rfl) (
    gm_cn 26 (gm_m_getR _ _) (gf_getR_7_4 gw_108 dX7_wasSeenSo_23) (
    gm_cn 28 (gm_m_iload _) (gm_s_iload dX7_wasSeenSo_26) (
    gm_cn 29 gm_m_iald (gm_s_iald dX7_wasSeenSo_28) (
    gm_cn 30 (gm_m_iload _) (gm_s_iload_n dX7_wasSeenSo_29 rfl) (
    gm_cn 33 (gm_m_cne _) (gm_s_cne (bpc := bpX7_wasSeenSo) (b := 2) dX7_wasSeenSo_30 rfl) (
    gm_cn 34 (gm_m_aload _) (gm_s_aload_n dX7_wasSeenSo_33 rfl) (
    gm_cn 37 (gm_m_getR _ _) (gf_getR_7_5 gw_109 dX7_wasSeenSo_34) (
    gm_cn 39 (gm_m_iload _) (gm_s_iload dX7_wasSeenSo_37) (
    gm_cn 40 gm_m_iald (gm_s_iald dX7_wasSeenSo_39) (
    gm_cn 41 (gm_m_iload _) (gm_s_iload_n dX7_wasSeenSo_40 rfl) (
    gm_cn 44 (gm_m_cne _) (gm_s_cne (bpc := bpX7_wasSeenSo) (b := 2) dX7_wasSeenSo_41 rfl) (
    gm_cn 45 (gm_m_aload _) (gm_s_aload_n dX7_wasSeenSo_44 rfl) (
    gm_cn 48 (gm_m_getR _ _) (gf_getR_7_6 gw_110 dX7_wasSeenSo_45) (
    gm_cn 50 (gm_m_iload _) (gm_s_iload dX7_wasSeenSo_48) (
    gm_cn 51 gm_m_iald (gm_s_iald dX7_wasSeenSo_50) (
    gm_cn 52 (gm_m_iload _) (gm_s_iload_n dX7_wasSeenSo_51 rfl) (
    gm_cn 55 (gm_m_ceq _) (gm_s_ceq (bpc := bpX7_wasSeenSo) (b := 2) dX7_wasSeenSo_52 rfl) (
    gm_cn 56 (gm_m_push _) (gm_s_iconst dX7_wasSeenSo_55) (
    gm_cn 0 gm_m_zret (gm_s_zret dX7_wasSeenSo_56 rfl 0) (
    trivial))))))))))))))))))))))))))))),
  gm_cn 60 (gm_m_iinc _ _) (gm_s_iinc dX7_wasSeenSo_57 (by decide)) (
    gm_cn 0 (gm_m_goto _) (gm_s_goto (bpc := bpX7_wasSeenSo) (b := 1) dX7_wasSeenSo_60 rfl 0) (
    trivial)),
  gm_cn 64 (gm_m_push _) (gm_s_iconst dX7_wasSeenSo_63) (
    gm_cn 0 gm_m_zret (gm_s_zret dX7_wasSeenSo_64 rfl 0) (
    trivial)), trivial⟩
