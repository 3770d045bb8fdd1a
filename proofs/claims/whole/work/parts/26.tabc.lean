theorem dX9_never_0 : decode cX9_never 0 = .ok (.iconst 0, 1) := by decide +kernel
theorem dX9_never_1 : decode cX9_never 1 = .ok (.istore_n 1, 1) := by decide +kernel
theorem dX9_never_2 : decode cX9_never 2 = .ok (.iconst 0, 1) := by decide +kernel
theorem dX9_never_3 : decode cX9_never 3 = .ok (.istore_n 2, 1) := by decide +kernel
theorem dX9_never_4 : decode cX9_never 4 = .ok (.iload_n 2, 1) := by decide +kernel
theorem dX9_never_5 : decode cX9_never 5 = .ok (.aload_n 0, 1) := by decide +kernel
theorem dX9_never_6 : decode cX9_never 6 = .ok (.getfield 7, 3) := by decide +kernel
theorem dX9_never_9 : decode cX9_never 9 = .ok (.if_icmp .ge 29, 3) := by decide +kernel
theorem dX9_never_12 : decode cX9_never 12 = .ok (.iload_n 1, 1) := by decide +kernel
theorem dX9_never_13 : decode cX9_never 13 = .ok (.aload_n 0, 1) := by decide +kernel
theorem dX9_never_14 : decode cX9_never 14 = .ok (.iload_n 2, 1) := by decide +kernel
theorem dX9_never_15 : decode cX9_never 15 = .ok (.bipush 56, 2) := by decide +kernel
theorem dX9_never_17 : decode cX9_never 17 = .ok (.invokevirtual 323, 3) := by decide +kernel
theorem dX9_never_20 : decode cX9_never 20 = .ok (.ifCond .ne 9, 3) := by decide +kernel
theorem dX9_never_23 : decode cX9_never 23 = .ok (.iconst 1, 1) := by decide +kernel
theorem dX9_never_24 : decode cX9_never 24 = .ok (.iload_n 2, 1) := by decide +kernel
theorem dX9_never_25 : decode cX9_never 25 = .ok (.ishl, 1) := by decide +kernel
theorem dX9_never_26 : decode cX9_never 26 = .ok (.goto 4, 3) := by decide +kernel
theorem dX9_never_29 : decode cX9_never 29 = .ok (.iconst 0, 1) := by decide +kernel
theorem dX9_never_30 : decode cX9_never 30 = .ok (.ior, 1) := by decide +kernel
theorem dX9_never_31 : decode cX9_never 31 = .ok (.istore_n 1, 1) := by decide +kernel
theorem dX9_never_32 : decode cX9_never 32 = .ok (.iinc 2 1, 3) := by decide +kernel
theorem dX9_never_35 : decode cX9_never 35 = .ok (.goto (-31), 3) := by decide +kernel
theorem dX9_never_38 : decode cX9_never 38 = .ok (.iload_n 1, 1) := by decide +kernel
theorem dX9_never_39 : decode cX9_never 39 = .ok (.ireturn, 1) := by decide +kernel
def pX9_never : List (List gm_A) := [[(gm_push (.inl 0)), (gm_istore 1), (gm_push (.inl 0)), (gm_istore 2), (gm_goto 1)],
  [(gm_iload 2), (gm_aload 0), (gm_getI 9 900), (gm_cge 4), (gm_iload 1), (gm_aload 0), (gm_iload 2), (gm_push (.inl 56)), (gm_vcall 9 144 3), (gm_ifne 2), (gm_push (.inl 1)), (gm_iload 2), (gm_op2 gm_shl), (gm_goto 3)],
  [(gm_push (.inl 0)), (gm_goto 3)],
  [(gm_op2 gm_or), (gm_istore 1), (gm_iinc 2 1), (gm_goto 1)],
  [(gm_iload 1), gm_iret]]
def bpX9_never : Nat → Nat := fun b => ([0, 4, 29, 30, 38] : List Nat).getD b 0
set_option maxRecDepth 100000 in
theorem tX9_never {D : va_G} {sz : Nat} {ad : Nat → Nat} {cA : Nat → ClassId} {xs : Int → Int} {Ln : Int} {l : Launch} : gm_SB D sz ad cA xs Ln l gm_mt cX9_never "LongNoonModel" 3 false 1 bpX9_never 0 pX9_never :=
  ⟨gm_cn 1 (gm_m_push _) (gm_s_iconst dX9_never_0) (
    gm_cn 2 (gm_m_istore _) (gm_s_istore_n dX9_never_1 rfl (by decide)) (
    gm_cn 3 (gm_m_push _) (gm_s_iconst dX9_never_2) (
    gm_cn 4 (gm_m_istore _) (gm_s_istore_n dX9_never_3 rfl (by decide)) (
    gm_cn 0 (gm_m_goto _) (gm_s_fall (bpc := bpX9_never) (b := 1) rfl 0) (
    trivial))))),
  gm_cn 5 (gm_m_iload _) (gm_s_iload_n dX9_never_4 rfl) (
    gm_cn 6 (gm_m_aload _) (gm_s_aload_n dX9_never_5 rfl) (
    gm_cn 9 (gm_m_getI _ _) (gf_getI_9_0 gw_215 dX9_never_6) (
    gm_cn 12 (gm_m_cge _) (gm_s_cge (bpc := bpX9_never) (b := 4) dX9_never_9 rfl) (
    gm_cn 13 (gm_m_iload _) (gm_s_iload_n dX9_never_12 rfl) (
    gm_cn 14 (gm_m_aload _) (gm_s_aload_n dX9_never_13 rfl) (
    gm_cn 15 (gm_m_iload _) (gm_s_iload_n dX9_never_14 rfl) (
    gm_cn 17 (gm_m_push _) (gm_s_bipush dX9_never_15 rfl) (
    gm_cn 20 (gm_m_vcall _ _ _) (gcl_X9_amissDays gw_316 dX9_never_17) (
    gm_cn 23 (gm_m_ifne _) (gm_s_ifne (bpc := bpX9_never) (b := 2) dX9_never_20 rfl) (
    gm_cn 24 (gm_m_push _) (gm_s_iconst dX9_never_23) (
    gm_cn 25 (gm_m_iload _) (gm_s_iload_n dX9_never_24 rfl) (
    gm_cn 26 (gm_m_op2 _) (gm_s_ishl dX9_never_25) (
    gm_cn 0 (gm_m_goto _) (gm_s_goto (bpc := bpX9_never) (b := 3) dX9_never_26 rfl 0) (
    trivial)))))))))))))),
  gm_cn 30 (gm_m_push _) (gm_s_iconst dX9_never_29) (
    gm_cn 0 (gm_m_goto _) (gm_s_fall (bpc := bpX9_never) (b := 3) rfl 0) (
    trivial)),
  gm_cn 31 (gm_m_op2 _) (gm_s_ior dX9_never_30) (
    gm_cn 32 (gm_m_istore _) (gm_s_istore_n dX9_never_31 rfl (by decide)) (
    gm_cn 35 (gm_m_iinc _ _) (gm_s_iinc dX9_never_32 (by decide)) (
    gm_cn 0 (gm_m_goto _) (gm_s_goto (bpc := bpX9_never) (b := 1) dX9_never_35 rfl 0) (
    trivial)))),
  gm_cn 39 (gm_m_iload _) (gm_s_iload_n dX9_never_38 rfl) (
    gm_cn 0 gm_m_iret (gm_s_iret dX9_never_39 rfl 0) (
    trivial)), trivial⟩
theorem dX9_cap_0 : decode cX9_cap 0 = .ok (.aload_n 0, 1) := by decide +kernel
theorem dX9_cap_1 : decode cX9_cap 1 = .ok (.iload_n 1, 1) := by decide +kernel
theorem dX9_cap_2 : decode cX9_cap 2 = .ok (.invokevirtual 210, 3) := by decide +kernel
theorem dX9_cap_5 : decode cX9_cap 5 = .ok (.ifCond .ne 5, 3) := by decide +kernel
theorem dX9_cap_8 : decode cX9_cap 8 = .ok (.iconst (-1), 1) := by decide +kernel
theorem dX9_cap_9 : decode cX9_cap 9 = .ok (.ireturn, 1) := by decide +kernel
theorem dX9_cap_10 : decode cX9_cap 10 = .ok (.aload_n 0, 1) := by decide +kernel
theorem dX9_cap_11 : decode cX9_cap 11 = .ok (.getfield 29, 3) := by decide +kernel
theorem dX9_cap_14 : decode cX9_cap 14 = .ok (.iload_n 1, 1) := by decide +kernel
theorem dX9_cap_15 : decode cX9_cap 15 = .ok (.iaload, 1) := by decide +kernel
theorem dX9_cap_16 : decode cX9_cap 16 = .ok (.istore_n 2, 1) := by decide +kernel
theorem dX9_cap_17 : decode cX9_cap 17 = .ok (.aload_n 0, 1) := by decide +kernel
theorem dX9_cap_18 : decode cX9_cap 18 = .ok (.getfield 26, 3) := by decide +kernel
theorem dX9_cap_21 : decode cX9_cap 21 = .ok (.iload_n 1, 1) := by decide +kernel
theorem dX9_cap_22 : decode cX9_cap 22 = .ok (.iaload, 1) := by decide +kernel
theorem dX9_cap_23 : decode cX9_cap 23 = .ok (.istore_n 3, 1) := by decide +kernel
theorem dX9_cap_24 : decode cX9_cap 24 = .ok (.bipush (-5), 2) := by decide +kernel
theorem dX9_cap_26 : decode cX9_cap 26 = .ok (.istore 4, 2) := by decide +kernel
theorem dX9_cap_28 : decode cX9_cap 28 = .ok (.iconst 0, 1) := by decide +kernel
theorem dX9_cap_29 : decode cX9_cap 29 = .ok (.istore 5, 2) := by decide +kernel
theorem dX9_cap_31 : decode cX9_cap 31 = .ok (.iload 5, 2) := by decide +kernel
theorem dX9_cap_33 : decode cX9_cap 33 = .ok (.bipush 100, 2) := by decide +kernel
theorem dX9_cap_35 : decode cX9_cap 35 = .ok (.if_icmp .ge 57, 3) := by decide +kernel
theorem dX9_cap_38 : decode cX9_cap 38 = .ok (.iload 4, 2) := by decide +kernel
theorem dX9_cap_40 : decode cX9_cap 40 = .ok (.ifCond .ge 52, 3) := by decide +kernel
theorem dX9_cap_43 : decode cX9_cap 43 = .ok (.aload_n 0, 1) := by decide +kernel
theorem dX9_cap_44 : decode cX9_cap 44 = .ok (.getfield 29, 3) := by decide +kernel
theorem dX9_cap_47 : decode cX9_cap 47 = .ok (.iload_n 1, 1) := by decide +kernel
theorem dX9_cap_48 : decode cX9_cap 48 = .ok (.iload 5, 2) := by decide +kernel
theorem dX9_cap_50 : decode cX9_cap 50 = .ok (.iastore, 1) := by decide +kernel
theorem dX9_cap_51 : decode cX9_cap 51 = .ok (.aload_n 0, 1) := by decide +kernel
theorem dX9_cap_52 : decode cX9_cap 52 = .ok (.getfield 26, 3) := by decide +kernel
theorem dX9_cap_55 : decode cX9_cap 55 = .ok (.iload_n 1, 1) := by decide +kernel
theorem dX9_cap_56 : decode cX9_cap 56 = .ok (.aload_n 0, 1) := by decide +kernel
theorem dX9_cap_57 : decode cX9_cap 57 = .ok (.iload_n 3, 1) := by decide +kernel
theorem dX9_cap_58 : decode cX9_cap 58 = .ok (.aload_n 0, 1) := by decide +kernel
theorem dX9_cap_59 : decode cX9_cap 59 = .ok (.iload_n 1, 1) := by decide +kernel
theorem dX9_cap_60 : decode cX9_cap 60 = .ok (.invokevirtual 214, 3) := by decide +kernel
theorem dX9_cap_63 : decode cX9_cap 63 = .ok (.invokevirtual 292, 3) := by decide +kernel
theorem dX9_cap_66 : decode cX9_cap 66 = .ok (.iastore, 1) := by decide +kernel
theorem dX9_cap_67 : decode cX9_cap 67 = .ok (.aload_n 0, 1) := by decide +kernel
theorem dX9_cap_68 : decode cX9_cap 68 = .ok (.iload_n 1, 1) := by decide +kernel
theorem dX9_cap_69 : decode cX9_cap 69 = .ok (.bipush 56, 2) := by decide +kernel
theorem dX9_cap_71 : decode cX9_cap 71 = .ok (.invokevirtual 323, 3) := by decide +kernel
theorem dX9_cap_74 : decode cX9_cap 74 = .ok (.ifCond .ne 8, 3) := by decide +kernel
theorem dX9_cap_77 : decode cX9_cap 77 = .ok (.iload 5, 2) := by decide +kernel
theorem dX9_cap_79 : decode cX9_cap 79 = .ok (.goto 5, 3) := by decide +kernel
theorem dX9_cap_82 : decode cX9_cap 82 = .ok (.bipush (-5), 2) := by decide +kernel
theorem dX9_cap_84 : decode cX9_cap 84 = .ok (.istore 4, 2) := by decide +kernel
theorem dX9_cap_86 : decode cX9_cap 86 = .ok (.iinc 5 1, 3) := by decide +kernel
theorem dX9_cap_89 : decode cX9_cap 89 = .ok (.goto (-58), 3) := by decide +kernel
theorem dX9_cap_92 : decode cX9_cap 92 = .ok (.aload_n 0, 1) := by decide +kernel
theorem dX9_cap_93 : decode cX9_cap 93 = .ok (.getfield 29, 3) := by decide +kernel
theorem dX9_cap_96 : decode cX9_cap 96 = .ok (.iload_n 1, 1) := by decide +kernel
theorem dX9_cap_97 : decode cX9_cap 97 = .ok (.iload_n 2, 1) := by decide +kernel
theorem dX9_cap_98 : decode cX9_cap 98 = .ok (.iastore, 1) := by decide +kernel
theorem dX9_cap_99 : decode cX9_cap 99 = .ok (.aload_n 0, 1) := by decide +kernel
theorem dX9_cap_100 : decode cX9_cap 100 = .ok (.getfield 26, 3) := by decide +kernel
theorem dX9_cap_103 : decode cX9_cap 103 = .ok (.iload_n 1, 1) := by decide +kernel
theorem dX9_cap_104 : decode cX9_cap 104 = .ok (.iload_n 3, 1) := by decide +kernel
theorem dX9_cap_105 : decode cX9_cap 105 = .ok (.iastore, 1) := by decide +kernel
theorem dX9_cap_106 : decode cX9_cap 106 = .ok (.iload 4, 2) := by decide +kernel
theorem dX9_cap_108 : decode cX9_cap 108 = .ok (.ireturn, 1) := by decide +kernel
def pX9_cap : List (List gm_A) := [[(gm_aload 0), (gm_iload 1), (gm_vcall 9 101 2), (gm_ifne 1), (gm_push (.inl (-1))), gm_iret],
  [(gm_aload 0), (gm_getR 9 906), (gm_iload 1), gm_iald, (gm_istore 2), (gm_aload 0), (gm_getR 9 905), (gm_iload 1), gm_iald, (gm_istore 3), (gm_push (.inl (-5))), (gm_istore 4), (gm_push (.inl 0)), (gm_istore 5), (gm_goto 2)],
  [(gm_iload 5), (gm_push (.inl 100)), (gm_cge 5), (gm_iload 4), (gm_ifge 5), (gm_aload 0), (gm_getR 9 906), (gm_iload 1), (gm_iload 5), gm_iast, (gm_aload 0), (gm_getR 9 905), (gm_iload 1), (gm_aload 0), (gm_iload 3), (gm_aload 0), (gm_iload 1), (gm_vcall 9 103 2), (gm_vcall 9 132 3), gm_iast, (gm_aload 0), (gm_iload 1), (gm_push (.inl 56)), (gm_vcall 9 144 3), (gm_ifne 3), (gm_iload 5), (gm_goto 4)],
  [(gm_push (.inl (-5))), (gm_goto 4)],
  [(gm_istore 4), (gm_iinc 5 1), (gm_goto 2)],
  [(gm_aload 0), (gm_getR 9 906), (gm_iload 1), (gm_iload 2), gm_iast, (gm_aload 0), (gm_getR 9 905), (gm_iload 1), (gm_iload 3), gm_iast, (gm_iload 4), gm_iret]]
def bpX9_cap : Nat → Nat := fun b => ([0, 10, 31, 82, 84, 92] : List Nat).getD b 0
set_option maxRecDepth 100000 in
theorem tX9_cap {D : va_G} {sz : Nat} {ad : Nat → Nat} {cA : Nat → ClassId} {xs : Int → Int} {Ln : Int} {l : Launch} : gm_SB D sz ad cA xs Ln l gm_mt cX9_cap "LongNoonModel" 6 false 1 bpX9_cap 0 pX9_cap :=
  ⟨gm_cn 1 (gm_m_aload _) (gm_s_aload_n dX9_cap_0 rfl) (
    gm_cn 2 (gm_m_iload _) (gm_s_iload_n dX9_cap_1 rfl) (
    gm_cn 5 (gm_m_vcall _ _ _) (gcl_X9_isHouse gw_281 dX9_cap_2) (
    gm_cn 8 (gm_m_ifne _) (gm_s_ifne (bpc := bpX9_cap) (b := 1) dX9_cap_5 rfl) (
    gm_cn 9 (gm_m_push _) (gm_s_iconst dX9_cap_8) (
    gm_cn 0 gm_m_iret (gm_s_iret dX9_cap_9 rfl 0) (
    trivial)))))),
  gm_cn 11 (gm_m_aload _) (gm_s_aload_n dX9_cap_10 rfl) (
    gm_cn 14 (gm_m_getR _ _) (gf_getR_9_6 gw_221 dX9_cap_11) (
    gm_cn 15 (gm_m_iload _) (gm_s_iload_n dX9_cap_14 rfl) (
    gm_cn 16 gm_m_iald (gm_s_iald dX9_cap_15) (
    gm_cn 17 (gm_m_istore _) (gm_s_istore_n dX9_cap_16 rfl (by decide)) (
    gm_cn 18 (gm_m_aload _) (gm_s_aload_n dX9_cap_17 rfl) (
    gm_cn 21 (gm_m_getR _ _) (gf_getR_9_5 gw_220 dX9_cap_18) (
    gm_cn 22 (gm_m_iload _) (gm_s_iload_n dX9_cap_21 rfl) (
    gm_cn 23 gm_m_iald (gm_s_iald dX9_cap_22) (
    gm_cn 24 (gm_m_istore _) (gm_s_istore_n dX9_cap_23 rfl (by decide)) (
    gm_cn 26 (gm_m_push _) (gm_s_bipush dX9_cap_24 rfl) (
    gm_cn 28 (gm_m_istore _) (gm_s_istore dX9_cap_26 (by decide)) (
    gm_cn 29 (gm_m_push _) (gm_s_iconst dX9_cap_28) (
    gm_cn 31 (gm_m_istore _) (gm_s_istore dX9_cap_29 (by decide)) (
    gm_cn 0 (gm_m_goto _) (gm_s_fall (bpc := bpX9_cap) (b := 2) rfl 0) (
    trivial))))))))))))))),
  gm_cn 33 (gm_m_iload _) (gm_s_iload dX9_cap_31) (
    gm_cn 35 (gm_m_push _) (gm_s_bipush dX9_cap_33 rfl) (
    gm_cn 38 (gm_m_cge _) (gm_s_cge (bpc := bpX9_cap) (b := 5) dX9_cap_35 rfl) (
    gm_cn 40 (gm_m_iload _) (gm_s_iload dX9_cap_38) (
    gm_cn 43 (gm_m_ifge _) (gm_s_ifge (bpc := bpX9_cap) (b := 5) dX9_cap_40 rfl) (
    gm_cn 44 (gm_m_aload _) (gm_s_aload_n dX9_cap_43 rfl) (
    gm_cn 47 (gm_m_getR _ _) (gf_getR_9_6 gw_221 dX9_cap_44) (
    gm_cn 48 (gm_m_iload _) (gm_s_iload_n dX9_cap_47 rfl) (
    gm_cn 50 (gm_m_iload _) (gm_s_iload dX9_cap_48) (
    gm_cn 51 gm_m_iast (gm_s_iast dX9_cap_50) (
    gm_cn 52 (gm_m_aload _) (gm_s_aload_n dX9_cap_51 rfl) (
    gm_cn 55 (gm_m_getR _ _) (gf_getR_9_5 gw_220 dX9_cap_52) (
    gm_cn 56 (gm_m_iload _) (gm_s_iload_n dX9_cap_55 rfl) (
    gm_cn 57 (gm_m_aload _) (gm_s_aload_n dX9_cap_56 rfl) (
    gm_cn 58 (gm_m_iload _) (gm_s_iload_n dX9_cap_57 rfl) (
    gm_cn 59 (gm_m_aload _) (gm_s_aload_n dX9_cap_58 rfl) (
    gm_cn 60 (gm_m_iload _) (gm_s_iload_n dX9_cap_59 rfl) (
    gm_cn 63 (gm_m_vcall _ _ _) (gcl_X9_roomOf gw_282 dX9_cap_60) (
    gm_cn 66 (gm_m_vcall _ _ _) (gcl_X9_least gw_306 dX9_cap_63) (
    gm_cn 67 gm_m_iast (gm_s_iast dX9_cap_66) (
    gm_cn 68 (gm_m_aload _) (gm_s_aload_n dX9_cap_67 rfl) (
    gm_cn 69 (gm_m_iload _) (gm_s_iload_n dX9_cap_68 rfl) (
    gm_cn 71 (gm_m_push _) (gm_s_bipush dX9_cap_69 rfl) (
    gm_cn 74 (gm_m_vcall _ _ _) (gcl_X9_amissDays gw_316 dX9_cap_71) (
    gm_cn 77 (gm_m_ifne _) (gm_s_ifne (bpc := bpX9_cap) (b := 3) dX9_cap_74 rfl) (
    gm_cn 79 (gm_m_iload _) (gm_s_iload dX9_cap_77) (
    gm_cn 0 (gm_m_goto _) (gm_s_goto (bpc := bpX9_cap) (b := 4) dX9_cap_79 rfl 0) (
    trivial))))))))))))))))))))))))))),
  gm_cn 84 (gm_m_push _) (gm_s_bipush dX9_cap_82 rfl) (
    gm_cn 0 (gm_m_goto _) (gm_s_fall (bpc := bpX9_cap) (b := 4) rfl 0) (
    trivial)),
  gm_cn 86 (gm_m_istore _) (gm_s_istore dX9_cap_84 (by decide)) (
    gm_cn 89 (gm_m_iinc _ _) (gm_s_iinc dX9_cap_86 (by decide)) (
    gm_cn 0 (gm_m_goto _) (gm_s_goto (bpc := bpX9_cap) (b := 2) dX9_cap_89 rfl 0) (
    trivial))),
  gm_cn 93 (gm_m_aload _) (gm_s_aload_n dX9_cap_92 rfl) (
    gm_cn 96 (gm_m_getR _ _) (gf_getR_9_6 gw_221 dX9_cap_93) (
    gm_cn 97 (gm_m_iload _) (gm_s_iload_n dX9_cap_96 rfl) (
    gm_cn 98 (gm_m_iload _) (gm_s_iload_n dX9_cap_97 rfl) (
    gm_cn 99 gm_m_iast (gm_s_iast dX9_cap_98) (
    gm_cn 100 (gm_m_aload _) (gm_s_aload_n dX9_cap_99 rfl) (
    gm_cn 103 (gm_m_getR _ _) (gf_getR_9_5 gw_220 dX9_cap_100) (
    gm_cn 104 (gm_m_iload _) (gm_s_iload_n dX9_cap_103 rfl) (
    gm_cn 105 (gm_m_iload _) (gm_s_iload_n dX9_cap_104 rfl) (
    gm_cn 106 gm_m_iast (gm_s_iast dX9_cap_105) (
    gm_cn 108 (gm_m_iload _) (gm_s_iload dX9_cap_106) (
    gm_cn 0 gm_m_iret (gm_s_iret dX9_cap_108 rfl 0) (
    trivial)))))))))))), trivial⟩
theorem dX9_full_0 : decode cX9_full 0 = .ok (.aload_n 0, 1) := by decide +kernel
theorem dX9_full_1 : decode cX9_full 1 = .ok (.iload_n 1, 1) := by decide +kernel
theorem dX9_full_2 : decode cX9_full 2 = .ok (.invokevirtual 210, 3) := by decide +kernel
theorem dX9_full_5 : decode cX9_full 5 = .ok (.ifCond .ne 5, 3) := by decide +kernel
theorem dX9_full_8 : decode cX9_full 8 = .ok (.iconst (-1), 1) := by decide +kernel
theorem dX9_full_9 : decode cX9_full 9 = .ok (.ireturn, 1) := by decide +kernel
theorem dX9_full_10 : decode cX9_full 10 = .ok (.aload_n 0, 1) := by decide +kernel
theorem dX9_full_11 : decode cX9_full 11 = .ok (.getfield 26, 3) := by decide +kernel
theorem dX9_full_14 : decode cX9_full 14 = .ok (.iload_n 1, 1) := by decide +kernel
theorem dX9_full_15 : decode cX9_full 15 = .ok (.iaload, 1) := by decide +kernel
theorem dX9_full_16 : decode cX9_full 16 = .ok (.istore_n 2, 1) := by decide +kernel
theorem dX9_full_17 : decode cX9_full 17 = .ok (.bipush (-5), 2) := by decide +kernel
theorem dX9_full_19 : decode cX9_full 19 = .ok (.istore_n 3, 1) := by decide +kernel
theorem dX9_full_20 : decode cX9_full 20 = .ok (.iconst 0, 1) := by decide +kernel
theorem dX9_full_21 : decode cX9_full 21 = .ok (.istore 4, 2) := by decide +kernel
theorem dX9_full_23 : decode cX9_full 23 = .ok (.iload 4, 2) := by decide +kernel
theorem dX9_full_25 : decode cX9_full 25 = .ok (.aload_n 0, 1) := by decide +kernel
theorem dX9_full_26 : decode cX9_full 26 = .ok (.iload_n 1, 1) := by decide +kernel
theorem dX9_full_27 : decode cX9_full 27 = .ok (.invokevirtual 214, 3) := by decide +kernel
theorem dX9_full_30 : decode cX9_full 30 = .ok (.if_icmp .gt 39, 3) := by decide +kernel
theorem dX9_full_33 : decode cX9_full 33 = .ok (.iload_n 3, 1) := by decide +kernel
theorem dX9_full_34 : decode cX9_full 34 = .ok (.ifCond .ge 35, 3) := by decide +kernel
theorem dX9_full_37 : decode cX9_full 37 = .ok (.aload_n 0, 1) := by decide +kernel
theorem dX9_full_38 : decode cX9_full 38 = .ok (.getfield 26, 3) := by decide +kernel
theorem dX9_full_41 : decode cX9_full 41 = .ok (.iload_n 1, 1) := by decide +kernel
theorem dX9_full_42 : decode cX9_full 42 = .ok (.iload 4, 2) := by decide +kernel
theorem dX9_full_44 : decode cX9_full 44 = .ok (.iastore, 1) := by decide +kernel
theorem dX9_full_45 : decode cX9_full 45 = .ok (.aload_n 0, 1) := by decide +kernel
theorem dX9_full_46 : decode cX9_full 46 = .ok (.iload_n 1, 1) := by decide +kernel
theorem dX9_full_47 : decode cX9_full 47 = .ok (.bipush 56, 2) := by decide +kernel
theorem dX9_full_49 : decode cX9_full 49 = .ok (.invokevirtual 323, 3) := by decide +kernel
theorem dX9_full_52 : decode cX9_full 52 = .ok (.ifCond .ne 8, 3) := by decide +kernel
theorem dX9_full_55 : decode cX9_full 55 = .ok (.iload 4, 2) := by decide +kernel
theorem dX9_full_57 : decode cX9_full 57 = .ok (.goto 5, 3) := by decide +kernel
theorem dX9_full_60 : decode cX9_full 60 = .ok (.bipush (-5), 2) := by decide +kernel
theorem dX9_full_62 : decode cX9_full 62 = .ok (.istore_n 3, 1) := by decide +kernel
theorem dX9_full_63 : decode cX9_full 63 = .ok (.iinc 4 1, 3) := by decide +kernel
theorem dX9_full_66 : decode cX9_full 66 = .ok (.goto (-43), 3) := by decide +kernel
theorem dX9_full_69 : decode cX9_full 69 = .ok (.aload_n 0, 1) := by decide +kernel
theorem dX9_full_70 : decode cX9_full 70 = .ok (.getfield 26, 3) := by decide +kernel
theorem dX9_full_73 : decode cX9_full 73 = .ok (.iload_n 1, 1) := by decide +kernel
theorem dX9_full_74 : decode cX9_full 74 = .ok (.iload_n 2, 1) := by decide +kernel
theorem dX9_full_75 : decode cX9_full 75 = .ok (.iastore, 1) := by decide +kernel
theorem dX9_full_76 : decode cX9_full 76 = .ok (.iload_n 3, 1) := by decide +kernel
theorem dX9_full_77 : decode cX9_full 77 = .ok (.ireturn, 1) := by decide +kernel
def pX9_full : List (List gm_A) := [[(gm_aload 0), (gm_iload 1), (gm_vcall 9 101 2), (gm_ifne 1), (gm_push (.inl (-1))), gm_iret],
  [(gm_aload 0), (gm_getR 9 905), (gm_iload 1), gm_iald, (gm_istore 2), (gm_push (.inl (-5))), (gm_istore 3), (gm_push (.inl 0)), (gm_istore 4), (gm_goto 2)],
  [(gm_iload 4), (gm_aload 0), (gm_iload 1), (gm_vcall 9 103 2), (gm_cgt 5), (gm_iload 3), (gm_ifge 5), (gm_aload 0), (gm_getR 9 905), (gm_iload 1), (gm_iload 4), gm_iast, (gm_aload 0), (gm_iload 1), (gm_push (.inl 56)), (gm_vcall 9 144 3), (gm_ifne 3), (gm_iload 4), (gm_goto 4)],
  [(gm_push (.inl (-5))), (gm_goto 4)],
  [(gm_istore 3), (gm_iinc 4 1), (gm_goto 2)],
  [(gm_aload 0), (gm_getR 9 905), (gm_iload 1), (gm_iload 2), gm_iast, (gm_iload 3), gm_iret]]
def bpX9_full : Nat → Nat := fun b => ([0, 10, 23, 60, 62, 69] : List Nat).getD b 0
set_option maxRecDepth 100000 in
theorem tX9_full {D : va_G} {sz : Nat} {ad : Nat → Nat} {cA : Nat → ClassId} {xs : Int → Int} {Ln : Int} {l : Launch} : gm_SB D sz ad cA xs Ln l gm_mt cX9_full "LongNoonModel" 5 false 1 bpX9_full 0 pX9_full :=
  ⟨gm_cn 1 (gm_m_aload _) (gm_s_aload_n dX9_full_0 rfl) (
    gm_cn 2 (gm_m_iload _) (gm_s_iload_n dX9_full_1 rfl) (
    gm_cn 5 (gm_m_vcall _ _ _) (gcl_X9_isHouse gw_281 dX9_full_2) (
    gm_cn 8 (gm_m_ifne _) (gm_s_ifne (bpc := bpX9_full) (b := 1) dX9_full_5 rfl) (
    gm_cn 9 (gm_m_push _) (gm_s_iconst dX9_full_8) (
    gm_cn 0 gm_m_iret (gm_s_iret dX9_full_9 rfl 0) (
    trivial)))))),
  gm_cn 11 (gm_m_aload _) (gm_s_aload_n dX9_full_10 rfl) (
    gm_cn 14 (gm_m_getR _ _) (gf_getR_9_5 gw_220 dX9_full_11) (
    gm_cn 15 (gm_m_iload _) (gm_s_iload_n dX9_full_14 rfl) (
    gm_cn 16 gm_m_iald (gm_s_iald dX9_full_15) (
    gm_cn 17 (gm_m_istore _) (gm_s_istore_n dX9_full_16 rfl (by decide)) (
    gm_cn 19 (gm_m_push _) (gm_s_bipush dX9_full_17 rfl) (
    gm_cn 20 (gm_m_istore _) (gm_s_istore_n dX9_full_19 rfl (by decide)) (
    gm_cn 21 (gm_m_push _) (gm_s_iconst dX9_full_20) (
    gm_cn 23 (gm_m_istore _) (gm_s_istore dX9_full_21 (by decide)) (
    gm_cn 0 (gm_m_goto _) (gm_s_fall (bpc := bpX9_full) (b := 2) rfl 0) (
    trivial)))))))))),
  gm_cn 25 (gm_m_iload _) (gm_s_iload dX9_full_23) (
    gm_cn 26 (gm_m_aload _) (gm_s_aload_n dX9_full_25 rfl) (
    gm_cn 27 (gm_m_iload _) (gm_s_iload_n dX9_full_26 rfl) (
    gm_cn 30 (gm_m_vcall _ _ _) (gcl_X9_roomOf gw_282 dX9_full_27) (
    gm_cn 33 (gm_m_cgt _) (gm_s_cgt (bpc := bpX9_full) (b := 5) dX9_full_30 rfl) (
    gm_cn 34 (gm_m_iload _) (gm_s_iload_n dX9_full_33 rfl) (
    gm_cn 37 (gm_m_ifge _) (gm_s_ifge (bpc := bpX9_full) (b := 5) dX9_full_34 rfl) (
    gm_cn 38 (gm_m_aload _) (gm_s_aload_n dX9_full_37 rfl) (
    gm_cn 41 (gm_m_getR _ _) (gf_getR_9_5 gw_220 dX9_full_38) (
    gm_cn 42 (gm_m_iload _) (gm_s_iload_n dX9_full_41 rfl) (
    gm_cn 44 (gm_m_iload _) (gm_s_iload dX9_full_42) (
    gm_cn 45 gm_m_iast (gm_s_iast dX9_full_44) (
    gm_cn 46 (gm_m_aload _) (gm_s_aload_n dX9_full_45 rfl) (
    gm_cn 47 (gm_m_iload _) (gm_s_iload_n dX9_full_46 rfl) (
    gm_cn 49 (gm_m_push _) (gm_s_bipush dX9_full_47 rfl) (
    gm_cn 52 (gm_m_vcall _ _ _) (gcl_X9_amissDays gw_316 dX9_full_49) (
    gm_cn 55 (gm_m_ifne _) (gm_s_ifne (bpc := bpX9_full) (b := 3) dX9_full_52 rfl) (
    gm_cn 57 (gm_m_iload _) (gm_s_iload dX9_full_55) (
    gm_cn 0 (gm_m_goto _) (gm_s_goto (bpc := bpX9_full) (b := 4) dX9_full_57 rfl 0) (
    trivial))))))))))))))))))),
  gm_cn 62 (gm_m_push _) (gm_s_bipush dX9_full_60 rfl) (
    gm_cn 0 (gm_m_goto _) (gm_s_fall (bpc := bpX9_full) (b := 4) rfl 0) (
    trivial)),
  gm_cn 63 (gm_m_istore _) (gm_s_istore_n dX9_full_62 rfl (by decide)) (
    gm_cn 66 (gm_m_iinc _ _) (gm_s_iinc dX9_full_63 (by decide)) (
    gm_cn 0 (gm_m_goto _) (gm_s_goto (bpc := bpX9_full) (b := 2) dX9_full_66 rfl 0) (
    trivial))),
  gm_cn 70 (gm_m_aload _) (gm_s_aload_n dX9_full_69 rfl) (
    gm_cn 73 (gm_m_getR _ _) (gf_getR_9_5 gw_220 dX9_full_70) (
    gm_cn 74 (gm_m_iload _) (gm_s_iload_n dX9_full_73 rfl) (
    gm_cn 75 (gm_m_iload _) (gm_s_iload_n dX9_full_74 rfl) (
    gm_cn 76 gm_m_iast (gm_s_iast dX9_full_75) (
    gm_cn 77 (gm_m_iload _) (gm_s_iload_n dX9_full_76 rfl) (
    gm_cn 0 gm_m_iret (gm_s_iret dX9_full_77 rfl 0) (
    trivial))))))), trivial⟩
theorem dX9_heat_0 : decode cX9_heat 0 = .ok (.aload_n 0, 1) := by decide +kernel
theorem dX9_heat_1 : decode cX9_heat 1 = .ok (.iload_n 1, 1) := by decide +kernel
theorem dX9_heat_2 : decode cX9_heat 2 = .ok (.invokevirtual 210, 3) := by decide +kernel
theorem dX9_heat_5 : decode cX9_heat 5 = .ok (.ifCond .eq 13, 3) := by decide +kernel
theorem dX9_heat_8 : decode cX9_heat 8 = .ok (.aload_n 0, 1) := by decide +kernel
theorem dX9_heat_9 : decode cX9_heat 9 = .ok (.iload_n 2, 1) := by decide +kernel
theorem dX9_heat_10 : decode cX9_heat 10 = .ok (.iconst 0, 1) := by decide +kernel
theorem dX9_heat_11 : decode cX9_heat 11 = .ok (.iconst 1, 1) := by decide +kernel
theorem dX9_heat_12 : decode cX9_heat 12 = .ok (.invokevirtual 206, 3) := by decide +kernel
theorem dX9_heat_15 : decode cX9_heat 15 = .ok (.ifCond .ne 5, 3) := by decide +kernel
theorem dX9_heat_18 : decode cX9_heat 18 = .ok (.iconst (-1), 1) := by decide +kernel
theorem dX9_heat_19 : decode cX9_heat 19 = .ok (.ireturn, 1) := by decide +kernel
theorem dX9_heat_20 : decode cX9_heat 20 = .ok (.aload_n 0, 1) := by decide +kernel
theorem dX9_heat_21 : decode cX9_heat 21 = .ok (.getfield 23, 3) := by decide +kernel
theorem dX9_heat_24 : decode cX9_heat 24 = .ok (.iload_n 1, 1) := by decide +kernel
theorem dX9_heat_25 : decode cX9_heat 25 = .ok (.iaload, 1) := by decide +kernel
theorem dX9_heat_26 : decode cX9_heat 26 = .ok (.istore_n 3, 1) := by decide +kernel
theorem dX9_heat_27 : decode cX9_heat 27 = .ok (.iconst (-1), 1) := by decide +kernel
theorem dX9_heat_28 : decode cX9_heat 28 = .ok (.istore 4, 2) := by decide +kernel
theorem dX9_heat_30 : decode cX9_heat 30 = .ok (.iconst 0, 1) := by decide +kernel
theorem dX9_heat_31 : decode cX9_heat 31 = .ok (.istore 5, 2) := by decide +kernel
theorem dX9_heat_33 : decode cX9_heat 33 = .ok (.iconst 0, 1) := by decide +kernel
theorem dX9_heat_34 : decode cX9_heat 34 = .ok (.istore 6, 2) := by decide +kernel
theorem dX9_heat_36 : decode cX9_heat 36 = .ok (.iload 6, 2) := by decide +kernel
theorem dX9_heat_38 : decode cX9_heat 38 = .ok (.sipush 191, 3) := by decide +kernel
theorem dX9_heat_41 : decode cX9_heat 41 = .ok (.if_icmp .ge 49, 3) := by decide +kernel
theorem dX9_heat_44 : decode cX9_heat 44 = .ok (.aload_n 0, 1) := by decide +kernel
theorem dX9_heat_45 : decode cX9_heat 45 = .ok (.getfield 23, 3) := by decide +kernel
theorem dX9_heat_48 : decode cX9_heat 48 = .ok (.iload_n 1, 1) := by decide +kernel
theorem dX9_heat_49 : decode cX9_heat 49 = .ok (.iload 6, 2) := by decide +kernel
theorem dX9_heat_51 : decode cX9_heat 51 = .ok (.iastore, 1) := by decide +kernel
theorem dX9_heat_52 : decode cX9_heat 52 = .ok (.aload_n 0, 1) := by decide +kernel
theorem dX9_heat_53 : decode cX9_heat 53 = .ok (.iload_n 1, 1) := by decide +kernel
theorem dX9_heat_54 : decode cX9_heat 54 = .ok (.bipush 56, 2) := by decide +kernel
theorem dX9_heat_56 : decode cX9_heat 56 = .ok (.invokevirtual 323, 3) := by decide +kernel
theorem dX9_heat_59 : decode cX9_heat 59 = .ok (.istore 7, 2) := by decide +kernel
theorem dX9_heat_61 : decode cX9_heat 61 = .ok (.iload 4, 2) := by decide +kernel
theorem dX9_heat_63 : decode cX9_heat 63 = .ok (.ifCond .lt 13, 3) := by decide +kernel
theorem dX9_heat_66 : decode cX9_heat 66 = .ok (.iload 7, 2) := by decide +kernel
theorem dX9_heat_68 : decode cX9_heat 68 = .ok (.iload 5, 2) := by decide +kernel
theorem dX9_heat_70 : decode cX9_heat 70 = .ok (.if_icmp .lt 6, 3) := by decide +kernel
theorem dX9_heat_73 : decode cX9_heat 73 = .ok (.goto 11, 3) := by decide +kernel
theorem dX9_heat_76 : decode cX9_heat 76 = .ok (.iload 6, 2) := by decide +kernel
theorem dX9_heat_78 : decode cX9_heat 78 = .ok (.istore 4, 2) := by decide +kernel
theorem dX9_heat_80 : decode cX9_heat 80 = .ok (.iload 7, 2) := by decide +kernel
theorem dX9_heat_82 : decode cX9_heat 82 = .ok (.istore 5, 2) := by decide +kernel
theorem dX9_heat_84 : decode cX9_heat 84 = .ok (.iinc 6 10, 3) := by decide +kernel
theorem dX9_heat_87 : decode cX9_heat 87 = .ok (.goto (-51), 3) := by decide +kernel
theorem dX9_heat_90 : decode cX9_heat 90 = .ok (.aload_n 0, 1) := by decide +kernel
theorem dX9_heat_91 : decode cX9_heat 91 = .ok (.getfield 23, 3) := by decide +kernel
theorem dX9_heat_94 : decode cX9_heat 94 = .ok (.iload_n 1, 1) := by decide +kernel
theorem dX9_heat_95 : decode cX9_heat 95 = .ok (.iload_n 3, 1) := by decide +kernel
theorem dX9_heat_96 : decode cX9_heat 96 = .ok (.iastore, 1) := by decide +kernel
theorem dX9_heat_97 : decode cX9_heat 97 = .ok (.iload_n 2, 1) := by decide +kernel
theorem dX9_heat_98 : decode cX9_heat 98 = .ok (.ifCond .ne 8, 3) := by decide +kernel
theorem dX9_heat_101 : decode cX9_heat 101 = .ok (.iload 4, 2) := by decide +kernel
theorem dX9_heat_103 : decode cX9_heat 103 = .ok (.goto 5, 3) := by decide +kernel
theorem dX9_heat_106 : decode cX9_heat 106 = .ok (.iload 5, 2) := by decide +kernel
theorem dX9_heat_108 : decode cX9_heat 108 = .ok (.ireturn, 1) := by decide +kernel
def pX9_heat : List (List gm_A) := [[(gm_aload 0), (gm_iload 1), (gm_vcall 9 101 2), (gm_ifeq 1), (gm_aload 0), (gm_iload 2), (gm_push (.inl 0)), (gm_push (.inl 1)), (gm_vcall 9 100 4), (gm_ifne 2), (gm_goto 1)],
  [(gm_push (.inl (-1))), gm_iret],
  [(gm_aload 0), (gm_getR 9 904), (gm_iload 1), gm_iald, (gm_istore 3), (gm_push (.inl (-1))), (gm_istore 4), (gm_push (.inl 0)), (gm_istore 5), (gm_push (.inl 0)), (gm_istore 6), (gm_goto 3)],
  [(gm_iload 6), (gm_push (.inl 191)), (gm_cge 6), (gm_aload 0), (gm_getR 9 904), (gm_iload 1), (gm_iload 6), gm_iast, (gm_aload 0), (gm_iload 1), (gm_push (.inl 56)), (gm_vcall 9 144 3), (gm_istore 7), (gm_iload 4), (gm_iflt 4), (gm_iload 7), (gm_iload 5), (gm_clt 4), (gm_goto 5)],
  [(gm_iload 6), (gm_istore 4), (gm_iload 7), (gm_istore 5), (gm_goto 5)],
  [(gm_iinc 6 10), (gm_goto 3)],
  [(gm_aload 0), (gm_getR 9 904), (gm_iload 1), (gm_iload 3), gm_iast, (gm_iload 2), (gm_ifne 7), (gm_iload 4), (gm_goto 8)],
  [(gm_iload 5), (gm_goto 8)],
  [gm_iret]]
def bpX9_heat : Nat → Nat := fun b => ([0, 18, 20, 36, 76, 84, 90, 106, 108] : List Nat).getD b 0
set_option maxRecDepth 100000 in
theorem tX9_heat {D : va_G} {sz : Nat} {ad : Nat → Nat} {cA : Nat → ClassId} {xs : Int → Int} {Ln : Int} {l : Launch} : gm_SB D sz ad cA xs Ln l gm_mt cX9_heat "LongNoonModel" 8 false 1 bpX9_heat 0 pX9_heat :=
  ⟨gm_cn 1 (gm_m_aload _) (gm_s_aload_n dX9_heat_0 rfl) (
    gm_cn 2 (gm_m_iload _) (gm_s_iload_n dX9_heat_1 rfl) (
    gm_cn 5 (gm_m_vcall _ _ _) (gcl_X9_isHouse gw_281 dX9_heat_2) (
    gm_cn 8 (gm_m_ifeq _) (gm_s_ifeq (bpc := bpX9_heat) (b := 1) dX9_heat_5 rfl) (
    gm_cn 9 (gm_m_aload _) (gm_s_aload_n dX9_heat_8 rfl) (
    gm_cn 10 (gm_m_iload _) (gm_s_iload_n dX9_heat_9 rfl) (
    gm_cn 11 (gm_m_push _) (gm_s_iconst dX9_heat_10) (
    gm_cn 12 (gm_m_push _) (gm_s_iconst dX9_heat_11) (
    gm_cn 15 (gm_m_vcall _ _ _) (gcl_X9_in gw_280 dX9_heat_12) (
    gm_cn 18 (gm_m_ifne _) (gm_s_ifne (bpc := bpX9_heat) (b := 2) dX9_heat_15 rfl) (
    gm_cn 0 (gm_m_goto _) (gm_s_fall (bpc := bpX9_heat) (b := 1) rfl 0) (
    trivial))))))))))),
  gm_cn 19 (gm_m_push _) (gm_s_iconst dX9_heat_18) (
    gm_cn 0 gm_m_iret (gm_s_iret dX9_heat_19 rfl 0) (
    trivial)),
  gm_cn 21 (gm_m_aload _) (gm_s_aload_n dX9_heat_20 rfl) (
    gm_cn 24 (gm_m_getR _ _) (gf_getR_9_4 gw_219 dX9_heat_21) (
    gm_cn 25 (gm_m_iload _) (gm_s_iload_n dX9_heat_24 rfl) (
    gm_cn 26 gm_m_iald (gm_s_iald dX9_heat_25) (
    gm_cn 27 (gm_m_istore _) (gm_s_istore_n dX9_heat_26 rfl (by decide)) (
    gm_cn 28 (gm_m_push _) (gm_s_iconst dX9_heat_27) (
    gm_cn 30 (gm_m_istore _) (gm_s_istore dX9_heat_28 (by decide)) (
    gm_cn 31 (gm_m_push _) (gm_s_iconst dX9_heat_30) (
    gm_cn 33 (gm_m_istore _) (gm_s_istore dX9_heat_31 (by decide)) (
    gm_cn 34 (gm_m_push _) (gm_s_iconst dX9_heat_33) (
    gm_cn 36 (gm_m_istore _) (gm_s_istore dX9_heat_34 (by decide)) (
    gm_cn 0 (gm_m_goto _) (gm_s_fall (bpc := bpX9_heat) (b := 3) rfl 0) (
    trivial)))))))))))),
  gm_cn 38 (gm_m_iload _) (gm_s_iload dX9_heat_36) (
    gm_cn 41 (gm_m_push _) (gm_s_sipush dX9_heat_38 rfl) (
    gm_cn 44 (gm_m_cge _) (gm_s_cge (bpc := bpX9_heat) (b := 6) dX9_heat_41 rfl) (
    gm_cn 45 (gm_m_aload _) (gm_s_aload_n dX9_heat_44 rfl) (
    gm_cn 48 (gm_m_getR _ _) (gf_getR_9_4 gw_219 dX9_heat_45) (
    gm_cn 49 (gm_m_iload _) (gm_s_iload_n dX9_heat_48 rfl) (
    gm_cn 51 (gm_m_iload _) (gm_s_iload dX9_heat_49) (
    gm_cn 52 gm_m_iast (gm_s_iast dX9_heat_51) (
    gm_cn 53 (gm_m_aload _) (gm_s_aload_n dX9_heat_52 rfl) (
    gm_cn 54 (gm_m_iload _) (gm_s_iload_n dX9_heat_53 rfl) (
    gm_cn 56 (gm_m_push _) (gm_s_bipush dX9_heat_54 rfl) (
    gm_cn 59 (gm_m_vcall _ _ _) (gcl_X9_amissDays gw_316 dX9_heat_56) (
    gm_cn 61 (gm_m_istore _) (gm_s_istore dX9_heat_59 (by decide)) (
    gm_cn 63 (gm_m_iload _) (gm_s_iload dX9_heat_61) (
    gm_cn 66 (gm_m_iflt _) (gm_s_iflt (bpc := bpX9_heat) (b := 4) dX9_heat_63 rfl) (
    gm_cn 68 (gm_m_iload _) (gm_s_iload dX9_heat_66) (
    gm_cn 70 (gm_m_iload _) (gm_s_iload dX9_heat_68) (
    gm_cn 73 (gm_m_clt _) (gm_s_clt (bpc := bpX9_heat) (b := 4) dX9_heat_70 rfl) (
    gm_cn 0 (gm_m_goto _) (gm_s_goto (bpc := bpX9_heat) (b := 5) dX9_heat_73 rfl 0) (
    trivial))))))))))))))))))),
  gm_cn 78 (gm_m_iload _) (gm_s_iload dX9_heat_76) (
    gm_cn 80 (gm_m_istore _) (gm_s_istore dX9_heat_78 (by decide)) (
    gm_cn 82 (gm_m_iload _) (gm_s_iload dX9_heat_80) (
    gm_cn 84 (gm_m_istore _) (gm_s_istore dX9_heat_82 (by decide)) (
    gm_cn 0 (gm_m_goto _) (gm_s_fall (bpc := bpX9_heat) (b := 5) rfl 0) (
    trivial))))),
  gm_cn 87 (gm_m_iinc _ _) (gm_s_iinc dX9_heat_84 (by decide)) (
    gm_cn 0 (gm_m_goto _) (gm_s_goto (bpc := bpX9_heat) (b := 3) dX9_heat_87 rfl 0) (
    trivial)),
  gm_cn 91 (gm_m_aload _) (gm_s_aload_n dX9_heat_90 rfl) (
    gm_cn 94 (gm_m_getR _ _) (gf_getR_9_4 gw_219 dX9_heat_91) (
    gm_cn 95 (gm_m_iload _) (gm_s_iload_n dX9_heat_94 rfl) (
    gm_cn 96 (gm_m_iload _) (gm_s_iload_n dX9_heat_95 rfl) (
    gm_cn 97 gm_m_iast (gm_s_iast dX9_heat_96) (
    gm_cn 98 (gm_m_iload _) (gm_s_iload_n dX9_heat_97 rfl) (
    gm_cn 101 (gm_m_ifne _) (gm_s_ifne (bpc := bpX9_heat) (b := 7) dX9_heat_98 rfl) (
    gm_cn 103 (gm_m_iload _) (gm_s_iload dX9_heat_101) (
    gm_cn 0 (gm_m_goto _) (gm_s_goto (bpc := bpX9_heat) (b := 8) dX9_heat_103 rfl 0) (
    trivial))))))))),
  gm_cn 108 (gm_m_iload _) (gm_s_iload dX9_heat_106) (
    gm_cn 0 (gm_m_goto _) (gm_s_fall (bpc := bpX9_heat) (b := 8) rfl 0) (
    trivial)),
  gm_cn 0 gm_m_iret (gm_s_iret dX9_heat_108 rfl 0) (
    trivial), trivial⟩
theorem dX9_goBig_0 : decode cX9_goBig 0 = .ok (.iconst 0, 1) := by decide +kernel
theorem dX9_goBig_1 : decode cX9_goBig 1 = .ok (.istore_n 3, 1) := by decide +kernel
theorem dX9_goBig_2 : decode cX9_goBig 2 = .ok (.iload_n 3, 1) := by decide +kernel
theorem dX9_goBig_3 : decode cX9_goBig 3 = .ok (.aload_n 0, 1) := by decide +kernel
theorem dX9_goBig_4 : decode cX9_goBig 4 = .ok (.getfield 7, 3) := by decide +kernel
theorem dX9_goBig_7 : decode cX9_goBig 7 = .ok (.if_icmp .ge 20, 3) := by decide +kernel
theorem dX9_goBig_10 : decode cX9_goBig 10 = .ok (.aload_n 0, 1) := by decide +kernel
theorem dX9_goBig_11 : decode cX9_goBig 11 = .ok (.getfield 114, 3) := by decide +kernel
theorem dX9_goBig_14 : decode cX9_goBig 14 = .ok (.iload_n 3, 1) := by decide +kernel
theorem dX9_goBig_15 : decode cX9_goBig 15 = .ok (.aload_n 0, 1) := by decide +kernel
theorem dX9_goBig_16 : decode cX9_goBig 16 = .ok (.iload_n 3, 1) := by decide +kernel
theorem dX9_goBig_17 : decode cX9_goBig 17 = .ok (.invokevirtual 298, 3) := by decide +kernel
theorem dX9_goBig_20 : decode cX9_goBig 20 = .ok (.iastore, 1) := by decide +kernel
theorem dX9_goBig_21 : decode cX9_goBig 21 = .ok (.iinc 3 1, 3) := by decide +kernel
theorem dX9_goBig_24 : decode cX9_goBig 24 = .ok (.goto (-22), 3) := by decide +kernel
theorem dX9_goBig_27 : decode cX9_goBig 27 = .ok (.aload_n 0, 1) := by decide +kernel
theorem dX9_goBig_28 : decode cX9_goBig 28 = .ok (.aload_n 0, 1) := by decide +kernel
theorem dX9_goBig_29 : decode cX9_goBig 29 = .ok (.iconst 0, 1) := by decide +kernel
theorem dX9_goBig_30 : decode cX9_goBig 30 = .ok (.aload_n 0, 1) := by decide +kernel
theorem dX9_goBig_31 : decode cX9_goBig 31 = .ok (.getfield 93, 3) := by decide +kernel
theorem dX9_goBig_34 : decode cX9_goBig 34 = .ok (.iload_n 2, 1) := by decide +kernel
theorem dX9_goBig_35 : decode cX9_goBig 35 = .ok (.isub, 1) := by decide +kernel
theorem dX9_goBig_36 : decode cX9_goBig 36 = .ok (.invokevirtual 295, 3) := by decide +kernel
theorem dX9_goBig_39 : decode cX9_goBig 39 = .ok (.putfield 93, 3) := by decide +kernel
theorem dX9_goBig_42 : decode cX9_goBig 42 = .ok (.iconst 0, 1) := by decide +kernel
theorem dX9_goBig_43 : decode cX9_goBig 43 = .ok (.istore_n 3, 1) := by decide +kernel
theorem dX9_goBig_44 : decode cX9_goBig 44 = .ok (.iconst 0, 1) := by decide +kernel
theorem dX9_goBig_45 : decode cX9_goBig 45 = .ok (.istore 4, 2) := by decide +kernel
theorem dX9_goBig_47 : decode cX9_goBig 47 = .ok (.iload 4, 2) := by decide +kernel
theorem dX9_goBig_49 : decode cX9_goBig 49 = .ok (.aload_n 0, 1) := by decide +kernel
theorem dX9_goBig_50 : decode cX9_goBig 50 = .ok (.getfield 7, 3) := by decide +kernel
theorem dX9_goBig_53 : decode cX9_goBig 53 = .ok (.if_icmp .ge 77, 3) := by decide +kernel
theorem dX9_goBig_56 : decode cX9_goBig 56 = .ok (.aload_n 0, 1) := by decide +kernel
theorem dX9_goBig_57 : decode cX9_goBig 57 = .ok (.getfield 23, 3) := by decide +kernel
theorem dX9_goBig_60 : decode cX9_goBig 60 = .ok (.iload 4, 2) := by decide +kernel
theorem dX9_goBig_62 : decode cX9_goBig 62 = .ok (.aload_n 0, 1) := by decide +kernel
theorem dX9_goBig_63 : decode cX9_goBig 63 = .ok (.iconst 0, 1) := by decide +kernel
theorem dX9_goBig_64 : decode cX9_goBig 64 = .ok (.aload_n 0, 1) := by decide +kernel
theorem dX9_goBig_65 : decode cX9_goBig 65 = .ok (.sipush 199, 3) := by decide +kernel
theorem dX9_goBig_68 : decode cX9_goBig 68 = .ok (.aload_n 0, 1) := by decide +kernel
theorem dX9_goBig_69 : decode cX9_goBig 69 = .ok (.getfield 23, 3) := by decide +kernel
theorem dX9_goBig_72 : decode cX9_goBig 72 = .ok (.iload 4, 2) := by decide +kernel
theorem dX9_goBig_74 : decode cX9_goBig 74 = .ok (.iaload, 1) := by decide +kernel
theorem dX9_goBig_75 : decode cX9_goBig 75 = .ok (.aload_n 0, 1) := by decide +kernel
theorem dX9_goBig_76 : decode cX9_goBig 76 = .ok (.getfield 114, 3) := by decide +kernel
theorem dX9_goBig_79 : decode cX9_goBig 79 = .ok (.iload 4, 2) := by decide +kernel
theorem dX9_goBig_81 : decode cX9_goBig 81 = .ok (.iaload, 1) := by decide +kernel
theorem dX9_goBig_82 : decode cX9_goBig 82 = .ok (.iadd, 1) := by decide +kernel
theorem dX9_goBig_83 : decode cX9_goBig 83 = .ok (.invokevirtual 292, 3) := by decide +kernel
theorem dX9_goBig_86 : decode cX9_goBig 86 = .ok (.invokevirtual 295, 3) := by decide +kernel
theorem dX9_goBig_89 : decode cX9_goBig 89 = .ok (.iastore, 1) := by decide +kernel
theorem dX9_goBig_90 : decode cX9_goBig 90 = .ok (.aload_n 0, 1) := by decide +kernel
theorem dX9_goBig_91 : decode cX9_goBig 91 = .ok (.aload_n 0, 1) := by decide +kernel
theorem dX9_goBig_92 : decode cX9_goBig 92 = .ok (.iload 4, 2) := by decide +kernel
theorem dX9_goBig_94 : decode cX9_goBig 94 = .ok (.aload_n 0, 1) := by decide +kernel
theorem dX9_goBig_95 : decode cX9_goBig 95 = .ok (.getfield 93, 3) := by decide +kernel
theorem dX9_goBig_98 : decode cX9_goBig 98 = .ok (.iload_n 1, 1) := by decide +kernel
theorem dX9_goBig_99 : decode cX9_goBig 99 = .ok (.invokevirtual 301, 3) := by decide +kernel
theorem dX9_goBig_102 : decode cX9_goBig 102 = .ok (.putfield 93, 3) := by decide +kernel
theorem dX9_goBig_105 : decode cX9_goBig 105 = .ok (.aload_n 0, 1) := by decide +kernel
theorem dX9_goBig_106 : decode cX9_goBig 106 = .ok (.iload 4, 2) := by decide +kernel
theorem dX9_goBig_108 : decode cX9_goBig 108 = .ok (.invokevirtual 305, 3) := by decide +kernel
theorem dX9_goBig_111 : decode cX9_goBig 111 = .ok (.ifCond .ne 7, 3) := by decide +kernel
theorem dX9_goBig_114 : decode cX9_goBig 114 = .ok (.iload_n 3, 1) := by decide +kernel
theorem dX9_goBig_115 : decode cX9_goBig 115 = .ok (.ifCond .eq 7, 3) := by decide +kernel
theorem dX9_goBig_118 : decode cX9_goBig 118 = .ok (.iconst 1, 1) := by decide +kernel
theorem dX9_goBig_119 : decode cX9_goBig 119 = .ok (.goto 4, 3) := by decide +kernel
theorem dX9_goBig_122 : decode cX9_goBig 122 = .ok (.iconst 0, 1) := by decide +kernel
theorem dX9_goBig_123 : decode cX9_goBig 123 = .ok (.istore_n 3, 1) := by decide +kernel
theorem dX9_goBig_124 : decode cX9_goBig 124 = .ok (.iinc 4 1, 3) := by decide +kernel
theorem dX9_goBig_127 : decode cX9_goBig 127 = .ok (.goto (-80), 3) := by decide +kernel
theorem dX9_goBig_130 : decode cX9_goBig 130 = .ok (.aload_n 0, 1) := by decide +kernel
theorem dX9_goBig_131 : decode cX9_goBig 131 = .ok (.dup, 1) := by decide +kernel
theorem dX9_goBig_132 : decode cX9_goBig 132 = .ok (.getfield 13, 3) := by decide +kernel
theorem dX9_goBig_135 : decode cX9_goBig 135 = .ok (.iconst 1, 1) := by decide +kernel
theorem dX9_goBig_136 : decode cX9_goBig 136 = .ok (.iadd, 1) := by decide +kernel
theorem dX9_goBig_137 : decode cX9_goBig 137 = .ok (.putfield 13, 3) := by decide +kernel
theorem dX9_goBig_140 : decode cX9_goBig 140 = .ok (.iload_n 3, 1) := by decide +kernel
theorem dX9_goBig_141 : decode cX9_goBig 141 = .ok (.ireturn, 1) := by decide +kernel
def pX9_goBig : List (List gm_A) := [[(gm_push (.inl 0)), (gm_istore 3), (gm_goto 1)],
  [(gm_iload 3), (gm_aload 0), (gm_getI 9 900), (gm_cge 2), (gm_aload 0), (gm_getR 9 934), (gm_iload 3), (gm_aload 0), (gm_iload 3), (gm_vcall 9 131 2), gm_iast, (gm_iinc 3 1), (gm_goto 1)],
  [(gm_aload 0), (gm_aload 0), (gm_push (.inl 0)), (gm_aload 0), (gm_getI 9 927), (gm_iload 2), (gm_op2 gm_sub), (gm_vcall 9 133 3), (gm_putI 9 927), (gm_push (.inl 0)), (gm_istore 3), (gm_push (.inl 0)), (gm_istore 4), (gm_goto 3)],
  [(gm_iload 4), (gm_aload 0), (gm_getI 9 900), (gm_cge 7), (gm_aload 0), (gm_getR 9 904), (gm_iload 4), (gm_aload 0), (gm_push (.inl 0)), (gm_aload 0), (gm_push (.inl 199)), (gm_aload 0), (gm_getR 9 904), (gm_iload 4), gm_iald, (gm_aload 0), (gm_getR 9 934), (gm_iload 4), gm_iald, (gm_op2 gm_add), (gm_vcall 9 132 3), (gm_vcall 9 133 3), gm_iast, (gm_aload 0), (gm_aload 0), (gm_iload 4), (gm_aload 0), (gm_getI 9 927), (gm_iload 1), (gm_vcall 9 134 4), (gm_putI 9 927), (gm_aload 0), (gm_iload 4), (gm_vcall 9 135 2), (gm_ifne 4), (gm_iload 3), (gm_ifeq 5), (gm_goto 4)],
  [(gm_push (.inl 1)), (gm_goto 6)],
  [(gm_push (.inl 0)), (gm_goto 6)],
  [(gm_istore 3), (gm_iinc 4 1), (gm_goto 3)],
  [(gm_aload 0), gm_dup, (gm_getI 9 901), (gm_push (.inl 1)), (gm_op2 gm_add), (gm_putI 9 901), (gm_iload 3), gm_zret]]
def bpX9_goBig : Nat → Nat := fun b => ([0, 2, 27, 47, 118, 122, 123, 130] : List Nat).getD b 0
set_option maxRecDepth 100000 in
theorem tX9_goBig {D : va_G} {sz : Nat} {ad : Nat → Nat} {cA : Nat → ClassId} {xs : Int → Int} {Ln : Int} {l : Launch} : gm_SB D sz ad cA xs Ln l gm_mt cX9_goBig "LongNoonModel" 5 false 2 bpX9_goBig 0 pX9_goBig :=
  ⟨gm_cn 1 (gm_m_push _) (gm_s_iconst dX9_goBig_0) (
    gm_cn 2 (gm_m_istore _) (gm_s_istore_n dX9_goBig_1 rfl (by decide)) (
    gm_cn 0 (gm_m_goto _) (gm_s_fall (bpc := bpX9_goBig) (b := 1) rfl 0) (
    trivial))),
  gm_cn 3 (gm_m_iload _) (gm_s_iload_n dX9_goBig_2 rfl) (
    gm_cn 4 (gm_m_aload _) (gm_s_aload_n dX9_goBig_3 rfl) (
    gm_cn 7 (gm_m_getI _ _) (gf_getI_9_0 gw_215 dX9_goBig_4) (
    gm_cn 10 (gm_m_cge _) (gm_s_cge (bpc := bpX9_goBig) (b := 2) dX9_goBig_7 rfl) (
    gm_cn 11 (gm_m_aload _) (gm_s_aload_n dX9_goBig_10 rfl) (
    gm_cn 14 (gm_m_getR _ _) (gf_getR_9_34 gw_250 dX9_goBig_11) (
    gm_cn 15 (gm_m_iload _) (gm_s_iload_n dX9_goBig_14 rfl) (
    gm_cn 16 (gm_m_aload _) (gm_s_aload_n dX9_goBig_15 rfl) (
    gm_cn 17 (gm_m_iload _) (gm_s_iload_n dX9_goBig_16 rfl) (
    gm_cn 20 (gm_m_vcall _ _ _) (gcl_X9_gainOf gw_308 dX9_goBig_17) (
    gm_cn 21 gm_m_iast (gm_s_iast dX9_goBig_20) (
    gm_cn 24 (gm_m_iinc _ _) (gm_s_iinc dX9_goBig_21 (by decide)) (
    gm_cn 0 (gm_m_goto _) (gm_s_goto (bpc := bpX9_goBig) (b := 1) dX9_goBig_24 rfl 0) (
    trivial))))))))))))),
  gm_cn 28 (gm_m_aload _) (gm_s_aload_n dX9_goBig_27 rfl) (
    gm_cn 29 (gm_m_aload _) (gm_s_aload_n dX9_goBig_28 rfl) (
    gm_cn 30 (gm_m_push _) (gm_s_iconst dX9_goBig_29) (
    gm_cn 31 (gm_m_aload _) (gm_s_aload_n dX9_goBig_30 rfl) (
    gm_cn 34 (gm_m_getI _ _) (gf_getI_9_27 gw_243 dX9_goBig_31) (
    gm_cn 35 (gm_m_iload _) (gm_s_iload_n dX9_goBig_34 rfl) (
    gm_cn 36 (gm_m_op2 _) (gm_s_isub dX9_goBig_35) (
    gm_cn 39 (gm_m_vcall _ _ _) (gcl_X9_most gw_307 dX9_goBig_36) (
    gm_cn 42 (gm_m_putI _ _) (gf_putI_9_27 gw_243 dX9_goBig_39) (
    gm_cn 43 (gm_m_push _) (gm_s_iconst dX9_goBig_42) (
    gm_cn 44 (gm_m_istore _) (gm_s_istore_n dX9_goBig_43 rfl (by decide)) (
    gm_cn 45 (gm_m_push _) (gm_s_iconst dX9_goBig_44) (
    gm_cn 47 (gm_m_istore _) (gm_s_istore dX9_goBig_45 (by decide)) (
    gm_cn 0 (gm_m_goto _) (gm_s_fall (bpc := bpX9_goBig) (b := 3) rfl 0) (
    trivial)))))))))))))),
  gm_cn 49 (gm_m_iload _) (gm_s_iload dX9_goBig_47) (
    gm_cn 50 (gm_m_aload _) (gm_s_aload_n dX9_goBig_49 rfl) (
    gm_cn 53 (gm_m_getI _ _) (gf_getI_9_0 gw_215 dX9_goBig_50) (
    gm_cn 56 (gm_m_cge _) (gm_s_cge (bpc := bpX9_goBig) (b := 7) dX9_goBig_53 rfl) (
    gm_cn 57 (gm_m_aload _) (gm_s_aload_n dX9_goBig_56 rfl) (
    gm_cn 60 (gm_m_getR _ _) (gf_getR_9_4 gw_219 dX9_goBig_57) (
    gm_cn 62 (gm_m_iload _) (gm_s_iload dX9_goBig_60) (
    gm_cn 63 (gm_m_aload _) (gm_s_aload_n dX9_goBig_62 rfl) (
    gm_cn 64 (gm_m_push _) (gm_s_iconst dX9_goBig_63) (
    gm_cn 65 (gm_m_aload _) (gm_s_aload_n dX9_goBig_64 rfl) (
    gm_cn 68 (gm_m_push _) (gm_s_sipush dX9_goBig_65 rfl) (
    gm_cn 69 (gm_m_aload _) (gm_s_aload_n dX9_goBig_68 rfl) (
    gm_cn 72 (gm_m_getR _ _) (gf_getR_9_4 gw_219 dX9_goBig_69) (
    gm_cn 74 (gm_m_iload _) (gm_s_iload dX9_goBig_72) (
    gm_cn 75 gm_m_iald (gm_s_iald dX9_goBig_74) (
    gm_cn 76 (gm_m_aload _) (gm_s_aload_n dX9_goBig_75 rfl) (
    gm_cn 79 (gm_m_getR _ _) (gf_getR_9_34 gw_250 dX9_goBig_76) (
    gm_cn 81 (gm_m_iload _) (gm_s_iload dX9_goBig_79) (
    gm_cn 82 gm_m_iald (gm_s_iald dX9_goBig_81) (
    gm_cn 83 (gm_m_op2 _) (gm_s_iadd dX9_goBig_82) (
    gm_cn 86 (gm_m_vcall _ _ _) (gcl_X9_least gw_306 dX9_goBig_83) (
    gm_cn 89 (gm_m_vcall _ _ _) (gcl_X9_most gw_307 dX9_goBig_86) (
    gm_cn 90 gm_m_iast (gm_s_iast dX9_goBig_89) (
    gm_cn 91 (gm_m_aload _) (gm_s_aload_n dX9_goBig_90 rfl) (
    gm_cn 92 (gm_m_aload _) (gm_s_aload_n dX9_goBig_91 rfl) (
    gm_cn 94 (gm_m_iload _) (gm_s_iload dX9_goBig_92) (
    gm_cn 95 (gm_m_aload _) (gm_s_aload_n dX9_goBig_94 rfl) (
    gm_cn 98 (gm_m_getI _ _) (gf_getI_9_27 gw_243 dX9_goBig_95) (
    gm_cn 99 (gm_m_iload _) (gm_s_iload_n dX9_goBig_98 rfl) (
    gm_cn 102 (gm_m_vcall _ _ _) (gcl_X9_evens gw_309 dX9_goBig_99) (
    gm_cn 105 (gm_m_putI _ _) (gf_putI_9_27 gw_243 dX9_goBig_102) (
    gm_cn 106 (gm_m_aload _) (gm_s_aload_n dX9_goBig_105 rfl) (
    gm_cn 108 (gm_m_iload _) (gm_s_iload dX9_goBig_106) (
    gm_cn 111 (gm_m_vcall _ _ _) (gcl_X9_isAmiss gw_310 dX9_goBig_108) (
    gm_cn 114 (gm_m_ifne _) (gm_s_ifne (bpc := bpX9_goBig) (b := 4) dX9_goBig_111 rfl) (
    gm_cn 115 (gm_m_iload _) (gm_s_iload_n dX9_goBig_114 rfl) (
    gm_cn 118 (gm_m_ifeq _) (gm_s_ifeq (bpc := bpX9_goBig) (b := 5) dX9_goBig_115 rfl) (
    gm_cn 0 (gm_m_goto _) (gm_s_fall (bpc := bpX9_goBig) (b := 4) rfl 0) (
    trivial)))))))))))))))))))))))))))))))))))))),
  gm_cn 119 (gm_m_push _) (gm_s_iconst dX9_goBig_118) (
    gm_cn 0 (gm_m_goto _) (gm_s_goto (bpc := bpX9_goBig) (b := 6) dX9_goBig_119 rfl 0) (
    trivial)),
  gm_cn 123 (gm_m_push _) (gm_s_iconst dX9_goBig_122) (
    gm_cn 0 (gm_m_goto _) (gm_s_fall (bpc := bpX9_goBig) (b := 6) rfl 0) (
    trivial)),
  gm_cn 124 (gm_m_istore _) (gm_s_istore_n dX9_goBig_123 rfl (by decide)) (
    gm_cn 127 (gm_m_iinc _ _) (gm_s_iinc dX9_goBig_124 (by decide)) (
    gm_cn 0 (gm_m_goto _) (gm_s_goto (bpc := bpX9_goBig) (b := 3) dX9_goBig_127 rfl 0) (
    trivial))),
  gm_cn 131 (gm_m_aload _) (gm_s_aload_n dX9_goBig_130 rfl) (
    gm_cn 132 gm_m_dup (gm_s_dup dX9_goBig_131) (
    gm_cn 135 (gm_m_getI _ _) (gf_getI_9_1 gw_216 dX9_goBig_132) (
    gm_cn 136 (gm_m_push _) (gm_s_iconst dX9_goBig_135) (
    gm_cn 137 (gm_m_op2 _) (gm_s_iadd dX9_goBig_136) (
    gm_cn 140 (gm_m_putI _ _) (gf_putI_9_1 gw_216 dX9_goBig_137) (
    gm_cn 141 (gm_m_iload _) (gm_s_iload_n dX9_goBig_140 rfl) (
    gm_cn 0 gm_m_zret (gm_s_zret dX9_goBig_141 rfl 0) (
    trivial)))))))), trivial⟩
theorem dX9_big_0 : decode cX9_big 0 = .ok (.aload_n 0, 1) := by decide +kernel
theorem dX9_big_1 : decode cX9_big 1 = .ok (.iload_n 1, 1) := by decide +kernel
theorem dX9_big_2 : decode cX9_big 2 = .ok (.iconst 0, 1) := by decide +kernel
theorem dX9_big_3 : decode cX9_big 3 = .ok (.iconst 1, 1) := by decide +kernel
theorem dX9_big_4 : decode cX9_big 4 = .ok (.invokevirtual 206, 3) := by decide +kernel
theorem dX9_big_7 : decode cX9_big 7 = .ok (.ifCond .ne 5, 3) := by decide +kernel
theorem dX9_big_10 : decode cX9_big 10 = .ok (.iconst (-1), 1) := by decide +kernel
theorem dX9_big_11 : decode cX9_big 11 = .ok (.ireturn, 1) := by decide +kernel
theorem dX9_big_12 : decode cX9_big 12 = .ok (.aload_n 0, 1) := by decide +kernel
theorem dX9_big_13 : decode cX9_big 13 = .ok (.invokevirtual 314, 3) := by decide +kernel
theorem dX9_big_16 : decode cX9_big 16 = .ok (.iconst 0, 1) := by decide +kernel
theorem dX9_big_17 : decode cX9_big 17 = .ok (.istore_n 2, 1) := by decide +kernel
theorem dX9_big_18 : decode cX9_big 18 = .ok (.iconst 0, 1) := by decide +kernel
theorem dX9_big_19 : decode cX9_big 19 = .ok (.istore_n 3, 1) := by decide +kernel
theorem dX9_big_20 : decode cX9_big 20 = .ok (.aload_n 0, 1) := by decide +kernel
theorem dX9_big_21 : decode cX9_big 21 = .ok (.iconst 0, 1) := by decide +kernel
theorem dX9_big_22 : decode cX9_big 22 = .ok (.putfield 93, 3) := by decide +kernel
theorem dX9_big_25 : decode cX9_big 25 = .ok (.iconst 0, 1) := by decide +kernel
theorem dX9_big_26 : decode cX9_big 26 = .ok (.istore 4, 2) := by decide +kernel
theorem dX9_big_28 : decode cX9_big 28 = .ok (.iload 4, 2) := by decide +kernel
theorem dX9_big_30 : decode cX9_big 30 = .ok (.aload_n 0, 1) := by decide +kernel
theorem dX9_big_31 : decode cX9_big 31 = .ok (.getfield 7, 3) := by decide +kernel
theorem dX9_big_34 : decode cX9_big 34 = .ok (.if_icmp .ge 44, 3) := by decide +kernel
theorem dX9_big_37 : decode cX9_big 37 = .ok (.iload_n 2, 1) := by decide +kernel
theorem dX9_big_38 : decode cX9_big 38 = .ok (.aload_n 0, 1) := by decide +kernel
theorem dX9_big_39 : decode cX9_big 39 = .ok (.iload 4, 2) := by decide +kernel
theorem dX9_big_41 : decode cX9_big 41 = .ok (.invokevirtual 214, 3) := by decide +kernel
theorem dX9_big_44 : decode cX9_big 44 = .ok (.iadd, 1) := by decide +kernel
theorem dX9_big_45 : decode cX9_big 45 = .ok (.istore_n 2, 1) := by decide +kernel
theorem dX9_big_46 : decode cX9_big 46 = .ok (.iload_n 3, 1) := by decide +kernel
theorem dX9_big_47 : decode cX9_big 47 = .ok (.aload_n 0, 1) := by decide +kernel
theorem dX9_big_48 : decode cX9_big 48 = .ok (.getfield 32, 3) := by decide +kernel
theorem dX9_big_51 : decode cX9_big 51 = .ok (.iload 4, 2) := by decide +kernel
theorem dX9_big_53 : decode cX9_big 53 = .ok (.iaload, 1) := by decide +kernel
theorem dX9_big_54 : decode cX9_big 54 = .ok (.iadd, 1) := by decide +kernel
theorem dX9_big_55 : decode cX9_big 55 = .ok (.istore_n 3, 1) := by decide +kernel
theorem dX9_big_56 : decode cX9_big 56 = .ok (.aload_n 0, 1) := by decide +kernel
theorem dX9_big_57 : decode cX9_big 57 = .ok (.dup, 1) := by decide +kernel
theorem dX9_big_58 : decode cX9_big 58 = .ok (.getfield 93, 3) := by decide +kernel
theorem dX9_big_61 : decode cX9_big 61 = .ok (.aload_n 0, 1) := by decide +kernel
theorem dX9_big_62 : decode cX9_big 62 = .ok (.getfield 26, 3) := by decide +kernel
theorem dX9_big_65 : decode cX9_big 65 = .ok (.iload 4, 2) := by decide +kernel
theorem dX9_big_67 : decode cX9_big 67 = .ok (.iaload, 1) := by decide +kernel
theorem dX9_big_68 : decode cX9_big 68 = .ok (.iadd, 1) := by decide +kernel
theorem dX9_big_69 : decode cX9_big 69 = .ok (.putfield 93, 3) := by decide +kernel
theorem dX9_big_72 : decode cX9_big 72 = .ok (.iinc 4 1, 3) := by decide +kernel
theorem dX9_big_75 : decode cX9_big 75 = .ok (.goto (-47), 3) := by decide +kernel
theorem dX9_big_78 : decode cX9_big 78 = .ok (.iconst 0, 1) := by decide +kernel
theorem dX9_big_79 : decode cX9_big 79 = .ok (.istore 4, 2) := by decide +kernel
theorem dX9_big_81 : decode cX9_big 81 = .ok (.iconst 0, 1) := by decide +kernel
theorem dX9_big_82 : decode cX9_big 82 = .ok (.istore 5, 2) := by decide +kernel
theorem dX9_big_84 : decode cX9_big 84 = .ok (.iload 5, 2) := by decide +kernel
theorem dX9_big_86 : decode cX9_big 86 = .ok (.bipush 28, 2) := by decide +kernel
theorem dX9_big_88 : decode cX9_big 88 = .ok (.if_icmp .ge 28, 3) := by decide +kernel
theorem dX9_big_91 : decode cX9_big 91 = .ok (.iload 4, 2) := by decide +kernel
theorem dX9_big_93 : decode cX9_big 93 = .ok (.aload_n 0, 1) := by decide +kernel
theorem dX9_big_94 : decode cX9_big 94 = .ok (.iload_n 2, 1) := by decide +kernel
theorem dX9_big_95 : decode cX9_big 95 = .ok (.iload_n 3, 1) := by decide +kernel
theorem dX9_big_96 : decode cX9_big 96 = .ok (.invokevirtual 326, 3) := by decide +kernel
theorem dX9_big_99 : decode cX9_big 99 = .ok (.ifCond .eq 7, 3) := by decide +kernel
theorem dX9_big_102 : decode cX9_big 102 = .ok (.iconst 1, 1) := by decide +kernel
theorem dX9_big_103 : decode cX9_big 103 = .ok (.goto 4, 3) := by decide +kernel
theorem dX9_big_106 : decode cX9_big 106 = .ok (.iconst 0, 1) := by decide +kernel
theorem dX9_big_107 : decode cX9_big 107 = .ok (.iadd, 1) := by decide +kernel
theorem dX9_big_108 : decode cX9_big 108 = .ok (.istore 4, 2) := by decide +kernel
theorem dX9_big_110 : decode cX9_big 110 = .ok (.iinc 5 1, 3) := by decide +kernel
theorem dX9_big_113 : decode cX9_big 113 = .ok (.goto (-29), 3) := by decide +kernel
theorem dX9_big_116 : decode cX9_big 116 = .ok (.iload_n 1, 1) := by decide +kernel
theorem dX9_big_117 : decode cX9_big 117 = .ok (.ifCond .ne 8, 3) := by decide +kernel
theorem dX9_big_120 : decode cX9_big 120 = .ok (.iload 4, 2) := by decide +kernel
theorem dX9_big_122 : decode cX9_big 122 = .ok (.goto 7, 3) := by decide +kernel
theorem dX9_big_125 : decode cX9_big 125 = .ok (.aload_n 0, 1) := by decide +kernel
theorem dX9_big_126 : decode cX9_big 126 = .ok (.getfield 93, 3) := by decide +kernel
theorem dX9_big_129 : decode cX9_big 129 = .ok (.istore 5, 2) := by decide +kernel
theorem dX9_big_131 : decode cX9_big 131 = .ok (.aload_n 0, 1) := by decide +kernel
theorem dX9_big_132 : decode cX9_big 132 = .ok (.iconst (-1), 1) := by decide +kernel
theorem dX9_big_133 : decode cX9_big 133 = .ok (.putfield 93, 3) := by decide +kernel
theorem dX9_big_136 : decode cX9_big 136 = .ok (.aload_n 0, 1) := by decide +kernel
theorem dX9_big_137 : decode cX9_big 137 = .ok (.invokevirtual 320, 3) := by decide +kernel
theorem dX9_big_140 : decode cX9_big 140 = .ok (.iload 5, 2) := by decide +kernel
theorem dX9_big_142 : decode cX9_big 142 = .ok (.ireturn, 1) := by decide +kernel
def pX9_big : List (List gm_A) := [[(gm_aload 0), (gm_iload 1), (gm_push (.inl 0)), (gm_push (.inl 1)), (gm_vcall 9 100 4), (gm_ifne 1), (gm_push (.inl (-1))), gm_iret],
  [(gm_aload 0), (gm_vcall 9 141 1), (gm_push (.inl 0)), (gm_istore 2), (gm_push (.inl 0)), (gm_istore 3), (gm_aload 0), (gm_push (.inl 0)), (gm_putI 9 927), (gm_push (.inl 0)), (gm_istore 4), (gm_goto 2)],
  [(gm_iload 4), (gm_aload 0), (gm_getI 9 900), (gm_cge 3), (gm_iload 2), (gm_aload 0), (gm_iload 4), (gm_vcall 9 103 2), (gm_op2 gm_add), (gm_istore 2), (gm_iload 3), (gm_aload 0), (gm_getR 9 907), (gm_iload 4), gm_iald, (gm_op2 gm_add), (gm_istore 3), (gm_aload 0), gm_dup, (gm_getI 9 927), (gm_aload 0), (gm_getR 9 905), (gm_iload 4), gm_iald, (gm_op2 gm_add), (gm_putI 9 927), (gm_iinc 4 1), (gm_goto 2)],
  [(gm_push (.inl 0)), (gm_istore 4), (gm_push (.inl 0)), (gm_istore 5), (gm_goto 4)],
  [(gm_iload 5), (gm_push (.inl 28)), (gm_cge 7), (gm_iload 4), (gm_aload 0), (gm_iload 2), (gm_iload 3), (gm_vcall 9 151 3), (gm_ifeq 5), (gm_push (.inl 1)), (gm_goto 6)],
  [(gm_push (.inl 0)), (gm_goto 6)],
  [(gm_op2 gm_add), (gm_istore 4), (gm_iinc 5 1), (gm_goto 4)],
  [(gm_iload 1), (gm_ifne 8), (gm_iload 4), (gm_goto 9)],
  [(gm_aload 0), (gm_getI 9 927), (gm_goto 9)],
  [(gm_istore 5), (gm_aload 0), (gm_push (.inl (-1))), (gm_putI 9 927), (gm_aload 0), (gm_vcall 9 142 1), (gm_iload 5), gm_iret]]
def bpX9_big : Nat → Nat := fun b => ([0, 12, 28, 78, 84, 106, 107, 116, 125, 129] : List Nat).getD b 0
set_option maxRecDepth 100000 in
theorem tX9_big {D : va_G} {sz : Nat} {ad : Nat → Nat} {cA : Nat → ClassId} {xs : Int → Int} {Ln : Int} {l : Launch} : gm_SB D sz ad cA xs Ln l gm_mt cX9_big "LongNoonModel" 6 false 1 bpX9_big 0 pX9_big :=
  ⟨gm_cn 1 (gm_m_aload _) (gm_s_aload_n dX9_big_0 rfl) (
    gm_cn 2 (gm_m_iload _) (gm_s_iload_n dX9_big_1 rfl) (
    gm_cn 3 (gm_m_push _) (gm_s_iconst dX9_big_2) (
    gm_cn 4 (gm_m_push _) (gm_s_iconst dX9_big_3) (
    gm_cn 7 (gm_m_vcall _ _ _) (gcl_X9_in gw_280 dX9_big_4) (
    gm_cn 10 (gm_m_ifne _) (gm_s_ifne (bpc := bpX9_big) (b := 1) dX9_big_7 rfl) (
    gm_cn 11 (gm_m_push _) (gm_s_iconst dX9_big_10) (
    gm_cn 0 gm_m_iret (gm_s_iret dX9_big_11 rfl 0) (
    trivial)))))))),
  gm_cn 13 (gm_m_aload _) (gm_s_aload_n dX9_big_12 rfl) (
    gm_cn 16 (gm_m_vcall _ _ _) (gcl_X9_keep gw_313 dX9_big_13) (
    gm_cn 17 (gm_m_push _) (gm_s_iconst dX9_big_16) (
    gm_cn 18 (gm_m_istore _) (gm_s_istore_n dX9_big_17 rfl (by decide)) (
    gm_cn 19 (gm_m_push _) (gm_s_iconst dX9_big_18) (
    gm_cn 20 (gm_m_istore _) (gm_s_istore_n dX9_big_19 rfl (by decide)) (
    gm_cn 21 (gm_m_aload _) (gm_s_aload_n dX9_big_20 rfl) (
    gm_cn 22 (gm_m_push _) (gm_s_iconst dX9_big_21) (
    gm_cn 25 (gm_m_putI _ _) (gf_putI_9_27 gw_243 dX9_big_22) (
    gm_cn 26 (gm_m_push _) (gm_s_iconst dX9_big_25) (
    gm_cn 28 (gm_m_istore _) (gm_s_istore dX9_big_26 (by decide)) (
    gm_cn 0 (gm_m_goto _) (gm_s_fall (bpc := bpX9_big) (b := 2) rfl 0) (
    trivial)))))))))))),
  gm_cn 30 (gm_m_iload _) (gm_s_iload dX9_big_28) (
    gm_cn 31 (gm_m_aload _) (gm_s_aload_n dX9_big_30 rfl) (
    gm_cn 34 (gm_m_getI _ _) (gf_getI_9_0 gw_215 dX9_big_31) (
    gm_cn 37 (gm_m_cge _) (gm_s_cge (bpc := bpX9_big) (b := 3) dX9_big_34 rfl) (
    gm_cn 38 (gm_m_iload _) (gm_s_iload_n dX9_big_37 rfl) (
    gm_cn 39 (gm_m_aload _) (gm_s_aload_n dX9_big_38 rfl) (
    gm_cn 41 (gm_m_iload _) (gm_s_iload dX9_big_39) (
    gm_cn 44 (gm_m_vcall _ _ _) (gcl_X9_roomOf gw_282 dX9_big_41) (
    gm_cn 45 (gm_m_op2 _) (gm_s_iadd dX9_big_44) (
    gm_cn 46 (gm_m_istore _) (gm_s_istore_n dX9_big_45 rfl (by decide)) (
    gm_cn 47 (gm_m_iload _) (gm_s_iload_n dX9_big_46 rfl) (
    gm_cn 48 (gm_m_aload _) (gm_s_aload_n dX9_big_47 rfl) (
    gm_cn 51 (gm_m_getR _ _) (gf_getR_9_7 gw_222 dX9_big_48) (
    gm_cn 53 (gm_m_iload _) (gm_s_iload dX9_big_51) (
    gm_cn 54 gm_m_iald (gm_s_iald dX9_big_53) (
    gm_cn 55 (gm_m_op2 _) (gm_s_iadd dX9_big_54) (
    gm_cn 56 (gm_m_istore _) (gm_s_istore_n dX9_big_55 rfl (by decide)) (
    gm_cn 57 (gm_m_aload _) (gm_s_aload_n dX9_big_56 rfl) (
    gm_cn 58 gm_m_dup (gm_s_dup dX9_big_57) (
    gm_cn 61 (gm_m_getI _ _) (gf_getI_9_27 gw_243 dX9_big_58) (
    gm_cn 62 (gm_m_aload _) (gm_s_aload_n dX9_big_61 rfl) (
    gm_cn 65 (gm_m_getR _ _) (gf_getR_9_5 gw_220 dX9_big_62) (
    gm_cn 67 (gm_m_iload _) (gm_s_iload dX9_big_65) (
    gm_cn 68 gm_m_iald (gm_s_iald dX9_big_67) (
    gm_cn 69 (gm_m_op2 _) (gm_s_iadd dX9_big_68) (
    gm_cn 72 (gm_m_putI _ _) (gf_putI_9_27 gw_243 dX9_big_69) (
    gm_cn 75 (gm_m_iinc _ _) (gm_s_iinc dX9_big_72 (by decide)) (
    gm_cn 0 (gm_m_goto _) (gm_s_goto (bpc := bpX9_big) (b := 2) dX9_big_75 rfl 0) (
    trivial)))))))))))))))))))))))))))),
  gm_cn 79 (gm_m_push _) (gm_s_iconst dX9_big_78) (
    gm_cn 81 (gm_m_istore _) (gm_s_istore dX9_big_79 (by decide)) (
    gm_cn 82 (gm_m_push _) (gm_s_iconst dX9_big_81) (
    gm_cn 84 (gm_m_istore _) (gm_s_istore dX9_big_82 (by decide)) (
    gm_cn 0 (gm_m_goto _) (gm_s_fall (bpc := bpX9_big) (b := 4) rfl 0) (
    trivial))))),
  gm_cn 86 (gm_m_iload _) (gm_s_iload dX9_big_84) (
    gm_cn 88 (gm_m_push _) (gm_s_bipush dX9_big_86 rfl) (
    gm_cn 91 (gm_m_cge _) (gm_s_cge (bpc := bpX9_big) (b := 7) dX9_big_88 rfl) (
    gm_cn 93 (gm_m_iload _) (gm_s_iload dX9_big_91) (
    gm_cn 94 (gm_m_aload _) (gm_s_aload_n dX9_big_93 rfl) (
    gm_cn 95 (gm_m_iload _) (gm_s_iload_n dX9_big_94 rfl) (
    gm_cn 96 (gm_m_iload _) (gm_s_iload_n dX9_big_95 rfl) (
    gm_cn 99 (gm_m_vcall _ _ _) (gcl_X9_goBig gw_317 dX9_big_96) (
    gm_cn 102 (gm_m_ifeq _) (gm_s_ifeq (bpc := bpX9_big) (b := 5) dX9_big_99 rfl) (
    gm_cn 103 (gm_m_push _) (gm_s_iconst dX9_big_102) (
    gm_cn 0 (gm_m_goto _) (gm_s_goto (bpc := bpX9_big) (b := 6) dX9_big_103 rfl 0) (
    trivial))))))))))),
  gm_cn 107 (gm_m_push _) (gm_s_iconst dX9_big_106) (
    gm_cn 0 (gm_m_goto _) (gm_s_fall (bpc := bpX9_big) (b := 6) rfl 0) (
    trivial)),
  gm_cn 108 (gm_m_op2 _) (gm_s_iadd dX9_big_107) (
    gm_cn 110 (gm_m_istore _) (gm_s_istore dX9_big_108 (by decide)) (
    gm_cn 113 (gm_m_iinc _ _) (gm_s_iinc dX9_big_110 (by decide)) (
    gm_cn 0 (gm_m_goto _) (gm_s_goto (bpc := bpX9_big) (b := 4) dX9_big_113 rfl 0) (
    trivial)))),
  gm_cn 117 (gm_m_iload _) (gm_s_iload_n dX9_big_116 rfl) (
    gm_cn 120 (gm_m_ifne _) (gm_s_ifne (bpc := bpX9_big) (b := 8) dX9_big_117 rfl) (
    gm_cn 122 (gm_m_iload _) (gm_s_iload dX9_big_120) (
    gm_cn 0 (gm_m_goto _) (gm_s_goto (bpc := bpX9_big) (b := 9) dX9_big_122 rfl 0) (
    trivial)))),
  gm_cn 126 (gm_m_aload _) (gm_s_aload_n dX9_big_125 rfl) (
    gm_cn 129 (gm_m_getI _ _) (gf_getI_9_27 gw_243 dX9_big_126) (
    gm_cn 0 (gm_m_goto _) (gm_s_fall (bpc := bpX9_big) (b := 9) rfl 0) (
    trivial))),
  gm_cn 131 (gm_m_istore _) (gm_s_istore dX9_big_129 (by decide)) (
    gm_cn 132 (gm_m_aload _) (gm_s_aload_n dX9_big_131 rfl) (
    gm_cn 133 (gm_m_push _) (gm_s_iconst dX9_big_132) (
    gm_cn 136 (gm_m_putI _ _) (gf_putI_9_27 gw_243 dX9_big_133) (
    gm_cn 137 (gm_m_aload _) (gm_s_aload_n dX9_big_136 rfl) (
    gm_cn 140 (gm_m_vcall _ _ _) (gcl_X9_putBack gw_315 dX9_big_137) (
    gm_cn 142 (gm_m_iload _) (gm_s_iload dX9_big_140) (
    gm_cn 0 gm_m_iret (gm_s_iret dX9_big_142 rfl 0) (
    trivial)))))))), trivial⟩
theorem dX9_gives_0 : decode cX9_gives 0 = .ok (.aload_n 0, 1) := by decide +kernel
theorem dX9_gives_1 : decode cX9_gives 1 = .ok (.iload_n 1, 1) := by decide +kernel
theorem dX9_gives_2 : decode cX9_gives 2 = .ok (.invokevirtual 210, 3) := by decide +kernel
theorem dX9_gives_5 : decode cX9_gives 5 = .ok (.ifCond .eq 11, 3) := by decide +kernel
theorem dX9_gives_8 : decode cX9_gives 8 = .ok (.aload_n 0, 1) := by decide +kernel
theorem dX9_gives_9 : decode cX9_gives 9 = .ok (.iload_n 2, 1) := by decide +kernel
theorem dX9_gives_10 : decode cX9_gives 10 = .ok (.invokevirtual 210, 3) := by decide +kernel
theorem dX9_gives_13 : decode cX9_gives 13 = .ok (.ifCond .ne 7, 3) := by decide +kernel
theorem dX9_gives_16 : decode cX9_gives 16 = .ok (.sipush (-1001), 3) := by decide +kernel
theorem dX9_gives_19 : decode cX9_gives 19 = .ok (.ireturn, 1) := by decide +kernel
theorem dX9_gives_20 : decode cX9_gives 20 = .ok (.iload_n 1, 1) := by decide +kernel
theorem dX9_gives_21 : decode cX9_gives 21 = .ok (.iload_n 2, 1) := by decide +kernel
theorem dX9_gives_22 : decode cX9_gives 22 = .ok (.if_icmp .eq 14, 3) := by decide +kernel
theorem dX9_gives_25 : decode cX9_gives 25 = .ok (.aload_n 0, 1) := by decide +kernel
theorem dX9_gives_26 : decode cX9_gives 26 = .ok (.iload_n 3, 1) := by decide +kernel
theorem dX9_gives_27 : decode cX9_gives 27 = .ok (.iconst 0, 1) := by decide +kernel
theorem dX9_gives_28 : decode cX9_gives 28 = .ok (.bipush 99, 2) := by decide +kernel
theorem dX9_gives_30 : decode cX9_gives 30 = .ok (.invokevirtual 206, 3) := by decide +kernel
theorem dX9_gives_33 : decode cX9_gives 33 = .ok (.ifCond .ne 7, 3) := by decide +kernel
theorem dX9_gives_36 : decode cX9_gives 36 = .ok (.sipush (-1002), 3) := by decide +kernel
theorem dX9_gives_39 : decode cX9_gives 39 = .ok (.ireturn, 1) := by decide +kernel
theorem dX9_gives_40 : decode cX9_gives 40 = .ok (.aload_n 0, 1) := by decide +kernel
theorem dX9_gives_41 : decode cX9_gives 41 = .ok (.iload_n 1, 1) := by decide +kernel
theorem dX9_gives_42 : decode cX9_gives 42 = .ok (.bipush 56, 2) := by decide +kernel
theorem dX9_gives_44 : decode cX9_gives 44 = .ok (.invokevirtual 323, 3) := by decide +kernel
theorem dX9_gives_47 : decode cX9_gives 47 = .ok (.aload_n 0, 1) := by decide +kernel
theorem dX9_gives_48 : decode cX9_gives 48 = .ok (.iload_n 2, 1) := by decide +kernel
theorem dX9_gives_49 : decode cX9_gives 49 = .ok (.bipush 56, 2) := by decide +kernel
theorem dX9_gives_51 : decode cX9_gives 51 = .ok (.invokevirtual 323, 3) := by decide +kernel
theorem dX9_gives_54 : decode cX9_gives 54 = .ok (.iadd, 1) := by decide +kernel
theorem dX9_gives_55 : decode cX9_gives 55 = .ok (.istore 4, 2) := by decide +kernel
theorem dX9_gives_57 : decode cX9_gives 57 = .ok (.aload_n 0, 1) := by decide +kernel
theorem dX9_gives_58 : decode cX9_gives 58 = .ok (.iload_n 3, 1) := by decide +kernel
theorem dX9_gives_59 : decode cX9_gives 59 = .ok (.aload_n 0, 1) := by decide +kernel
theorem dX9_gives_60 : decode cX9_gives 60 = .ok (.aload_n 0, 1) := by decide +kernel
theorem dX9_gives_61 : decode cX9_gives 61 = .ok (.getfield 26, 3) := by decide +kernel
theorem dX9_gives_64 : decode cX9_gives 64 = .ok (.iload_n 1, 1) := by decide +kernel
theorem dX9_gives_65 : decode cX9_gives 65 = .ok (.iaload, 1) := by decide +kernel
theorem dX9_gives_66 : decode cX9_gives 66 = .ok (.aload_n 0, 1) := by decide +kernel
theorem dX9_gives_67 : decode cX9_gives 67 = .ok (.iload_n 2, 1) := by decide +kernel
theorem dX9_gives_68 : decode cX9_gives 68 = .ok (.invokevirtual 214, 3) := by decide +kernel
theorem dX9_gives_71 : decode cX9_gives 71 = .ok (.aload_n 0, 1) := by decide +kernel
theorem dX9_gives_72 : decode cX9_gives 72 = .ok (.getfield 26, 3) := by decide +kernel
theorem dX9_gives_75 : decode cX9_gives 75 = .ok (.iload_n 2, 1) := by decide +kernel
theorem dX9_gives_76 : decode cX9_gives 76 = .ok (.iaload, 1) := by decide +kernel
theorem dX9_gives_77 : decode cX9_gives 77 = .ok (.isub, 1) := by decide +kernel
theorem dX9_gives_78 : decode cX9_gives 78 = .ok (.invokevirtual 292, 3) := by decide +kernel
theorem dX9_gives_81 : decode cX9_gives 81 = .ok (.invokevirtual 292, 3) := by decide +kernel
theorem dX9_gives_84 : decode cX9_gives 84 = .ok (.istore 5, 2) := by decide +kernel
theorem dX9_gives_86 : decode cX9_gives 86 = .ok (.aload_n 0, 1) := by decide +kernel
theorem dX9_gives_87 : decode cX9_gives 87 = .ok (.getfield 26, 3) := by decide +kernel
theorem dX9_gives_90 : decode cX9_gives 90 = .ok (.iload_n 1, 1) := by decide +kernel
theorem dX9_gives_91 : decode cX9_gives 91 = .ok (.dup2, 1) := by decide +kernel
theorem dX9_gives_92 : decode cX9_gives 92 = .ok (.iaload, 1) := by decide +kernel
theorem dX9_gives_93 : decode cX9_gives 93 = .ok (.iload 5, 2) := by decide +kernel
theorem dX9_gives_95 : decode cX9_gives 95 = .ok (.isub, 1) := by decide +kernel
theorem dX9_gives_96 : decode cX9_gives 96 = .ok (.iastore, 1) := by decide +kernel
theorem dX9_gives_97 : decode cX9_gives 97 = .ok (.aload_n 0, 1) := by decide +kernel
theorem dX9_gives_98 : decode cX9_gives 98 = .ok (.getfield 26, 3) := by decide +kernel
theorem dX9_gives_101 : decode cX9_gives 101 = .ok (.iload_n 2, 1) := by decide +kernel
theorem dX9_gives_102 : decode cX9_gives 102 = .ok (.dup2, 1) := by decide +kernel
theorem dX9_gives_103 : decode cX9_gives 103 = .ok (.iaload, 1) := by decide +kernel
theorem dX9_gives_104 : decode cX9_gives 104 = .ok (.iload 5, 2) := by decide +kernel
theorem dX9_gives_106 : decode cX9_gives 106 = .ok (.iadd, 1) := by decide +kernel
theorem dX9_gives_107 : decode cX9_gives 107 = .ok (.iastore, 1) := by decide +kernel
theorem dX9_gives_108 : decode cX9_gives 108 = .ok (.aload_n 0, 1) := by decide +kernel
theorem dX9_gives_109 : decode cX9_gives 109 = .ok (.iload_n 1, 1) := by decide +kernel
theorem dX9_gives_110 : decode cX9_gives 110 = .ok (.bipush 56, 2) := by decide +kernel
theorem dX9_gives_112 : decode cX9_gives 112 = .ok (.invokevirtual 323, 3) := by decide +kernel
theorem dX9_gives_115 : decode cX9_gives 115 = .ok (.aload_n 0, 1) := by decide +kernel
theorem dX9_gives_116 : decode cX9_gives 116 = .ok (.iload_n 2, 1) := by decide +kernel
theorem dX9_gives_117 : decode cX9_gives 117 = .ok (.bipush 56, 2) := by decide +kernel
theorem dX9_gives_119 : decode cX9_gives 119 = .ok (.invokevirtual 323, 3) := by decide +kernel
theorem dX9_gives_122 : decode cX9_gives 122 = .ok (.iadd, 1) := by decide +kernel
theorem dX9_gives_123 : decode cX9_gives 123 = .ok (.istore 6, 2) := by decide +kernel
theorem dX9_gives_125 : decode cX9_gives 125 = .ok (.aload_n 0, 1) := by decide +kernel
theorem dX9_gives_126 : decode cX9_gives 126 = .ok (.getfield 26, 3) := by decide +kernel
theorem dX9_gives_129 : decode cX9_gives 129 = .ok (.iload_n 1, 1) := by decide +kernel
theorem dX9_gives_130 : decode cX9_gives 130 = .ok (.dup2, 1) := by decide +kernel
theorem dX9_gives_131 : decode cX9_gives 131 = .ok (.iaload, 1) := by decide +kernel
theorem dX9_gives_132 : decode cX9_gives 132 = .ok (.iload 5, 2) := by decide +kernel
theorem dX9_gives_134 : decode cX9_gives 134 = .ok (.iadd, 1) := by decide +kernel
theorem dX9_gives_135 : decode cX9_gives 135 = .ok (.iastore, 1) := by decide +kernel
theorem dX9_gives_136 : decode cX9_gives 136 = .ok (.aload_n 0, 1) := by decide +kernel
theorem dX9_gives_137 : decode cX9_gives 137 = .ok (.getfield 26, 3) := by decide +kernel
theorem dX9_gives_140 : decode cX9_gives 140 = .ok (.iload_n 2, 1) := by decide +kernel
theorem dX9_gives_141 : decode cX9_gives 141 = .ok (.dup2, 1) := by decide +kernel
theorem dX9_gives_142 : decode cX9_gives 142 = .ok (.iaload, 1) := by decide +kernel
theorem dX9_gives_143 : decode cX9_gives 143 = .ok (.iload 5, 2) := by decide +kernel
theorem dX9_gives_145 : decode cX9_gives 145 = .ok (.isub, 1) := by decide +kernel
theorem dX9_gives_146 : decode cX9_gives 146 = .ok (.iastore, 1) := by decide +kernel
theorem dX9_gives_147 : decode cX9_gives 147 = .ok (.iload 4, 2) := by decide +kernel
theorem dX9_gives_149 : decode cX9_gives 149 = .ok (.iload 6, 2) := by decide +kernel
theorem dX9_gives_151 : decode cX9_gives 151 = .ok (.isub, 1) := by decide +kernel
theorem dX9_gives_152 : decode cX9_gives 152 = .ok (.ireturn, 1) := by decide +kernel
def pX9_gives : List (List gm_A) := [[(gm_aload 0), (gm_iload 1), (gm_vcall 9 101 2), (gm_ifeq 1), (gm_aload 0), (gm_iload 2), (gm_vcall 9 101 2), (gm_ifne 2), (gm_goto 1)],
  [(gm_push (.inl (-1001))), gm_iret],
  [(gm_iload 1), (gm_iload 2), (gm_ceq 3), (gm_aload 0), (gm_iload 3), (gm_push (.inl 0)), (gm_push (.inl 99)), (gm_vcall 9 100 4), (gm_ifne 4), (gm_goto 3)],
  [(gm_push (.inl (-1002))), gm_iret],
  [(gm_aload 0), (gm_iload 1), (gm_push (.inl 56)), (gm_vcall 9 144 3), (gm_aload 0), (gm_iload 2), (gm_push (.inl 56)), (gm_vcall 9 144 3), (gm_op2 gm_add), (gm_istore 4), (gm_aload 0), (gm_iload 3), (gm_aload 0), (gm_aload 0), (gm_getR 9 905), (gm_iload 1), gm_iald, (gm_aload 0), (gm_iload 2), (gm_vcall 9 103 2), (gm_aload 0), (gm_getR 9 905), (gm_iload 2), gm_iald, (gm_op2 gm_sub), (gm_vcall 9 132 3), (gm_vcall 9 132 3), (gm_istore 5), (gm_aload 0), (gm_getR 9 905), (gm_iload 1), gm_dup2, gm_iald, (gm_iload 5), (gm_op2 gm_sub), gm_iast, (gm_aload 0), (gm_getR 9 905), (gm_iload 2), gm_dup2, gm_iald, (gm_iload 5), (gm_op2 gm_add), gm_iast, (gm_aload 0), (gm_iload 1), (gm_push (.inl 56)), (gm_vcall 9 144 3), (gm_aload 0), (gm_iload 2), (gm_push (.inl 56)), (gm_vcall 9 144 3), (gm_op2 gm_add), (gm_istore 6), (gm_aload 0), (gm_getR 9 905), (gm_iload 1), gm_dup2, gm_iald, (gm_iload 5), (gm_op2 gm_add), gm_iast, (gm_aload 0), (gm_getR 9 905), (gm_iload 2), gm_dup2, gm_iald, (gm_iload 5), (gm_op2 gm_sub), gm_iast, (gm_iload 4), (gm_iload 6), (gm_op2 gm_sub), gm_iret]]
def bpX9_gives : Nat → Nat := fun b => ([0, 16, 20, 36, 40] : List Nat).getD b 0
set_option maxRecDepth 100000 in
theorem tX9_gives {D : va_G} {sz : Nat} {ad : Nat → Nat} {cA : Nat → ClassId} {xs : Int → Int} {Ln : Int} {l : Launch} : gm_SB D sz ad cA xs Ln l gm_mt cX9_gives "LongNoonModel" 7 false 1 bpX9_gives 0 pX9_gives :=
  ⟨gm_cn 1 (gm_m_aload _) (gm_s_aload_n dX9_gives_0 rfl) (
    gm_cn 2 (gm_m_iload _) (gm_s_iload_n dX9_gives_1 rfl) (
    gm_cn 5 (gm_m_vcall _ _ _) (gcl_X9_isHouse gw_281 dX9_gives_2) (
    gm_cn 8 (gm_m_ifeq _) (gm_s_ifeq (bpc := bpX9_gives) (b := 1) dX9_gives_5 rfl) (
    gm_cn 9 (gm_m_aload _) (gm_s_aload_n dX9_gives_8 rfl) (
    gm_cn 10 (gm_m_iload _) (gm_s_iload_n dX9_gives_9 rfl) (
    gm_cn 13 (gm_m_vcall _ _ _) (gcl_X9_isHouse gw_281 dX9_gives_10) (
    gm_cn 16 (gm_m_ifne _) (gm_s_ifne (bpc := bpX9_gives) (b := 2) dX9_gives_13 rfl) (
    gm_cn 0 (gm_m_goto _) (gm_s_fall (bpc := bpX9_gives) (b := 1) rfl 0) (
    trivial))))))))),
  gm_cn 19 (gm_m_push _) (gm_s_sipush dX9_gives_16 rfl) (
    gm_cn 0 gm_m_iret (gm_s_iret dX9_gives_19 rfl 0) (
    trivial)),
  gm_cn 21 (gm_m_iload _) (gm_s_iload_n dX9_gives_20 rfl) (
    gm_cn 22 (gm_m_iload _) (gm_s_iload_n dX9_gives_21 rfl) (
    gm_cn 25 (gm_m_ceq _) (gm_s_ceq (bpc := bpX9_gives) (b := 3) dX9_gives_22 rfl) (
    gm_cn 26 (gm_m_aload _) (gm_s_aload_n dX9_gives_25 rfl) (
    gm_cn 27 (gm_m_iload _) (gm_s_iload_n dX9_gives_26 rfl) (
    gm_cn 28 (gm_m_push _) (gm_s_iconst dX9_gives_27) (
    gm_cn 30 (gm_m_push _) (gm_s_bipush dX9_gives_28 rfl) (
    gm_cn 33 (gm_m_vcall _ _ _) (gcl_X9_in gw_280 dX9_gives_30) (
    gm_cn 36 (gm_m_ifne _) (gm_s_ifne (bpc := bpX9_gives) (b := 4) dX9_gives_33 rfl) (
    gm_cn 0 (gm_m_goto _) (gm_s_fall (bpc := bpX9_gives) (b := 3) rfl 0) (
    trivial)))))))))),
  gm_cn 39 (gm_m_push _) (gm_s_sipush dX9_gives_36 rfl) (
    gm_cn 0 gm_m_iret (gm_s_iret dX9_gives_39 rfl 0) (
    trivial)),
  gm_cn 41 (gm_m_aload _) (gm_s_aload_n dX9_gives_40 rfl) (
    gm_cn 42 (gm_m_iload _) (gm_s_iload_n dX9_gives_41 rfl) (
    gm_cn 44 (gm_m_push _) (gm_s_bipush dX9_gives_42 rfl) (
    gm_cn 47 (gm_m_vcall _ _ _) (gcl_X9_amissDays gw_316 dX9_gives_44) (
    gm_cn 48 (gm_m_aload _) (gm_s_aload_n dX9_gives_47 rfl) (
    gm_cn 49 (gm_m_iload _) (gm_s_iload_n dX9_gives_48 rfl) (
    gm_cn 51 (gm_m_push _) (gm_s_bipush dX9_gives_49 rfl) (
    gm_cn 54 (gm_m_vcall _ _ _) (gcl_X9_amissDays gw_316 dX9_gives_51) (
    gm_cn 55 (gm_m_op2 _) (gm_s_iadd dX9_gives_54) (
    gm_cn 57 (gm_m_istore _) (gm_s_istore dX9_gives_55 (by decide)) (
    gm_cn 58 (gm_m_aload _) (gm_s_aload_n dX9_gives_57 rfl) (
    gm_cn 59 (gm_m_iload _) (gm_s_iload_n dX9_gives_58 rfl) (
    gm_cn 60 (gm_m_aload _) (gm_s_aload_n dX9_gives_59 rfl) (
    gm_cn 61 (gm_m_aload _) (gm_s_aload_n dX9_gives_60 rfl) (
    gm_cn 64 (gm_m_getR _ _) (gf_getR_9_5 gw_220 dX9_gives_61) (
    gm_cn 65 (gm_m_iload _) (gm_s_iload_n dX9_gives_64 rfl) (
    gm_cn 66 gm_m_iald (gm_s_iald dX9_gives_65) (
    gm_cn 67 (gm_m_aload _) (gm_s_aload_n dX9_gives_66 rfl) (
    gm_cn 68 (gm_m_iload _) (gm_s_iload_n dX9_gives_67 rfl) (
    gm_cn 71 (gm_m_vcall _ _ _) (gcl_X9_roomOf gw_282 dX9_gives_68) (
    gm_cn 72 (gm_m_aload _) (gm_s_aload_n dX9_gives_71 rfl) (
    gm_cn 75 (gm_m_getR _ _) (gf_getR_9_5 gw_220 dX9_gives_72) (
    gm_cn 76 (gm_m_iload _) (gm_s_iload_n dX9_gives_75 rfl) (
    gm_cn 77 gm_m_iald (gm_s_iald dX9_gives_76) (
    gm_cn 78 (gm_m_op2 _) (gm_s_isub dX9_gives_77) (
    gm_cn 81 (gm_m_vcall _ _ _) (gcl_X9_least gw_306 dX9_gives_78) (
    gm_cn 84 (gm_m_vcall _ _ _) (gcl_X9_least gw_306 dX9_gives_81) (
    gm_cn 86 (gm_m_istore _) (gm_s_istore dX9_gives_84 (by decide)) (
    gm_cn 87 (gm_m_aload _) (gm_s_aload_n dX9_gives_86 rfl) (
    gm_cn 90 (gm_m_getR _ _) (gf_getR_9_5 gw_220 dX9_gives_87) (
    gm_cn 91 (gm_m_iload _) (gm_s_iload_n dX9_gives_90 rfl) (
    gm_cn 92 gm_m_dup2 (gm_s_dup2 dX9_gives_91) (
    gm_cn 93 gm_m_iald (gm_s_iald dX9_gives_92) (
    gm_cn 95 (gm_m_iload _) (gm_s_iload dX9_gives_93) (
    gm_cn 96 (gm_m_op2 _) (gm_s_isub dX9_gives_95) (
    gm_cn 97 gm_m_iast (gm_s_iast dX9_gives_96) (
    gm_cn 98 (gm_m_aload _) (gm_s_aload_n dX9_gives_97 rfl) (
    gm_cn 101 (gm_m_getR _ _) (gf_getR_9_5 gw_220 dX9_gives_98) (
    gm_cn 102 (gm_m_iload _) (gm_s_iload_n dX9_gives_101 rfl) (
    gm_cn 103 gm_m_dup2 (gm_s_dup2 dX9_gives_102) (
    gm_cn 104 gm_m_iald (gm_s_iald dX9_gives_103) (
    gm_cn 106 (gm_m_iload _) (gm_s_iload dX9_gives_104) (
    gm_cn 107 (gm_m_op2 _) (gm_s_iadd dX9_gives_106) (
    gm_cn 108 gm_m_iast (gm_s_iast dX9_gives_107) (
    gm_cn 109 (gm_m_aload _) (gm_s_aload_n dX9_gives_108 rfl) (
    gm_cn 110 (gm_m_iload _) (gm_s_iload_n dX9_gives_109 rfl) (
    gm_cn 112 (gm_m_push _) (gm_s_bipush dX9_gives_110 rfl) (
    gm_cn 115 (gm_m_vcall _ _ _) (gcl_X9_amissDays gw_316 dX9_gives_112) (
    gm_cn 116 (gm_m_aload _) (gm_s_aload_n dX9_gives_115 rfl) (
    gm_cn 117 (gm_m_iload _) (gm_s_iload_n dX9_gives_116 rfl) (
    gm_cn 119 (gm_m_push _) (gm_s_bipush dX9_gives_117 rfl) (
    gm_cn 122 (gm_m_vcall _ _ _) (gcl_X9_amissDays gw_316 dX9_gives_119) (
    gm_cn 123 (gm_m_op2 _) (gm_s_iadd dX9_gives_122) (
    gm_cn 125 (gm_m_istore _) (gm_s_istore dX9_gives_123 (by decide)) (
    gm_cn 126 (gm_m_aload _) (gm_s_aload_n dX9_gives_125 rfl) (
    gm_cn 129 (gm_m_getR _ _) (gf_getR_9_5 gw_220 dX9_gives_126) (
    gm_cn 130 (gm_m_iload _) (gm_s_iload_n dX9_gives_129 rfl) (
    gm_cn 131 gm_m_dup2 (gm_s_dup2 dX9_gives_130) (
    gm_cn 132 gm_m_iald (gm_s_iald dX9_gives_131) (
    gm_cn 134 (gm_m_iload _) (gm_s_iload dX9_gives_132) (
    gm_cn 135 (gm_m_op2 _) (gm_s_iadd dX9_gives_134) (
    gm_cn 136 gm_m_iast (gm_s_iast dX9_gives_135) (
    gm_cn 137 (gm_m_aload _) (gm_s_aload_n dX9_gives_136 rfl) (
    gm_cn 140 (gm_m_getR _ _) (gf_getR_9_5 gw_220 dX9_gives_137) (
    gm_cn 141 (gm_m_iload _) (gm_s_iload_n dX9_gives_140 rfl) (
    gm_cn 142 gm_m_dup2 (gm_s_dup2 dX9_gives_141) (
    gm_cn 143 gm_m_iald (gm_s_iald dX9_gives_142) (
    gm_cn 145 (gm_m_iload _) (gm_s_iload dX9_gives_143) (
    gm_cn 146 (gm_m_op2 _) (gm_s_isub dX9_gives_145) (
    gm_cn 147 gm_m_iast (gm_s_iast dX9_gives_146) (
    gm_cn 149 (gm_m_iload _) (gm_s_iload dX9_gives_147) (
    gm_cn 151 (gm_m_iload _) (gm_s_iload dX9_gives_149) (
    gm_cn 152 (gm_m_op2 _) (gm_s_isub dX9_gives_151) (
    gm_cn 0 gm_m_iret (gm_s_iret dX9_gives_152 rfl 0) (
    trivial)))))))))))))))))))))))))))))))))))))))))))))))))))))))))))))))))))))))))), trivial⟩
theorem dX9_turn_0 : decode cX9_turn 0 = .ok (.aload_n 0, 1) := by decide +kernel
theorem dX9_turn_1 : decode cX9_turn 1 = .ok (.iload_n 1, 1) := by decide +kernel
theorem dX9_turn_2 : decode cX9_turn 2 = .ok (.invokevirtual 210, 3) := by decide +kernel
theorem dX9_turn_5 : decode cX9_turn 5 = .ok (.ifCond .eq 13, 3) := by decide +kernel
theorem dX9_turn_8 : decode cX9_turn 8 = .ok (.aload_n 0, 1) := by decide +kernel
theorem dX9_turn_9 : decode cX9_turn 9 = .ok (.iload_n 2, 1) := by decide +kernel
theorem dX9_turn_10 : decode cX9_turn 10 = .ok (.iconst 0, 1) := by decide +kernel
theorem dX9_turn_11 : decode cX9_turn 11 = .ok (.iconst 1, 1) := by decide +kernel
theorem dX9_turn_12 : decode cX9_turn 12 = .ok (.invokevirtual 206, 3) := by decide +kernel
theorem dX9_turn_15 : decode cX9_turn 15 = .ok (.ifCond .ne 5, 3) := by decide +kernel
theorem dX9_turn_18 : decode cX9_turn 18 = .ok (.iconst (-1), 1) := by decide +kernel
theorem dX9_turn_19 : decode cX9_turn 19 = .ok (.ireturn, 1) := by decide +kernel
theorem dX9_turn_20 : decode cX9_turn 20 = .ok (.iconst 0, 1) := by decide +kernel
theorem dX9_turn_21 : decode cX9_turn 21 = .ok (.istore_n 3, 1) := by decide +kernel
theorem dX9_turn_22 : decode cX9_turn 22 = .ok (.iconst 0, 1) := by decide +kernel
theorem dX9_turn_23 : decode cX9_turn 23 = .ok (.istore 4, 2) := by decide +kernel
theorem dX9_turn_25 : decode cX9_turn 25 = .ok (.iconst 1, 1) := by decide +kernel
theorem dX9_turn_26 : decode cX9_turn 26 = .ok (.istore 5, 2) := by decide +kernel
theorem dX9_turn_28 : decode cX9_turn 28 = .ok (.iload 5, 2) := by decide +kernel
theorem dX9_turn_30 : decode cX9_turn 30 = .ok (.bipush 29, 2) := by decide +kernel
theorem dX9_turn_32 : decode cX9_turn 32 = .ok (.if_icmp .ge 62, 3) := by decide +kernel
theorem dX9_turn_35 : decode cX9_turn 35 = .ok (.aload_n 0, 1) := by decide +kernel
theorem dX9_turn_36 : decode cX9_turn 36 = .ok (.aload_n 0, 1) := by decide +kernel
theorem dX9_turn_37 : decode cX9_turn 37 = .ok (.getfield 13, 3) := by decide +kernel
theorem dX9_turn_40 : decode cX9_turn 40 = .ok (.iload 5, 2) := by decide +kernel
theorem dX9_turn_42 : decode cX9_turn 42 = .ok (.iadd, 1) := by decide +kernel
theorem dX9_turn_43 : decode cX9_turn 43 = .ok (.iconst 1, 1) := by decide +kernel
theorem dX9_turn_44 : decode cX9_turn 44 = .ok (.isub, 1) := by decide +kernel
theorem dX9_turn_45 : decode cX9_turn 45 = .ok (.putfield 99, 3) := by decide +kernel
theorem dX9_turn_48 : decode cX9_turn 48 = .ok (.aload_n 0, 1) := by decide +kernel
theorem dX9_turn_49 : decode cX9_turn 49 = .ok (.aload_n 0, 1) := by decide +kernel
theorem dX9_turn_50 : decode cX9_turn 50 = .ok (.getfield 99, 3) := by decide +kernel
theorem dX9_turn_53 : decode cX9_turn 53 = .ok (.iconst 4, 1) := by decide +kernel
theorem dX9_turn_54 : decode cX9_turn 54 = .ok (.iadd, 1) := by decide +kernel
theorem dX9_turn_55 : decode cX9_turn 55 = .ok (.putfield 102, 3) := by decide +kernel
theorem dX9_turn_58 : decode cX9_turn 58 = .ok (.aload_n 0, 1) := by decide +kernel
theorem dX9_turn_59 : decode cX9_turn 59 = .ok (.iload_n 1, 1) := by decide +kernel
theorem dX9_turn_60 : decode cX9_turn 60 = .ok (.bipush 56, 2) := by decide +kernel
theorem dX9_turn_62 : decode cX9_turn 62 = .ok (.invokevirtual 323, 3) := by decide +kernel
theorem dX9_turn_65 : decode cX9_turn 65 = .ok (.istore 6, 2) := by decide +kernel
theorem dX9_turn_67 : decode cX9_turn 67 = .ok (.iload_n 3, 1) := by decide +kernel
theorem dX9_turn_68 : decode cX9_turn 68 = .ok (.ifCond .le 13, 3) := by decide +kernel
theorem dX9_turn_71 : decode cX9_turn 71 = .ok (.iload 6, 2) := by decide +kernel
theorem dX9_turn_73 : decode cX9_turn 73 = .ok (.iload 4, 2) := by decide +kernel
theorem dX9_turn_75 : decode cX9_turn 75 = .ok (.if_icmp .lt 6, 3) := by decide +kernel
theorem dX9_turn_78 : decode cX9_turn 78 = .ok (.goto 10, 3) := by decide +kernel
theorem dX9_turn_81 : decode cX9_turn 81 = .ok (.iload 5, 2) := by decide +kernel
theorem dX9_turn_83 : decode cX9_turn 83 = .ok (.istore_n 3, 1) := by decide +kernel
theorem dX9_turn_84 : decode cX9_turn 84 = .ok (.iload 6, 2) := by decide +kernel
theorem dX9_turn_86 : decode cX9_turn 86 = .ok (.istore 4, 2) := by decide +kernel
theorem dX9_turn_88 : decode cX9_turn 88 = .ok (.iinc 5 1, 3) := by decide +kernel
theorem dX9_turn_91 : decode cX9_turn 91 = .ok (.goto (-63), 3) := by decide +kernel
theorem dX9_turn_94 : decode cX9_turn 94 = .ok (.aload_n 0, 1) := by decide +kernel
theorem dX9_turn_95 : decode cX9_turn 95 = .ok (.iconst (-1), 1) := by decide +kernel
theorem dX9_turn_96 : decode cX9_turn 96 = .ok (.putfield 99, 3) := by decide +kernel
theorem dX9_turn_99 : decode cX9_turn 99 = .ok (.aload_n 0, 1) := by decide +kernel
theorem dX9_turn_100 : decode cX9_turn 100 = .ok (.iconst (-1), 1) := by decide +kernel
theorem dX9_turn_101 : decode cX9_turn 101 = .ok (.putfield 102, 3) := by decide +kernel
theorem dX9_turn_104 : decode cX9_turn 104 = .ok (.iload_n 2, 1) := by decide +kernel
theorem dX9_turn_105 : decode cX9_turn 105 = .ok (.ifCond .ne 7, 3) := by decide +kernel
theorem dX9_turn_108 : decode cX9_turn 108 = .ok (.iload_n 3, 1) := by decide +kernel
theorem dX9_turn_109 : decode cX9_turn 109 = .ok (.goto 5, 3) := by decide +kernel
theorem dX9_turn_112 : decode cX9_turn 112 = .ok (.iload 4, 2) := by decide +kernel
theorem dX9_turn_114 : decode cX9_turn 114 = .ok (.ireturn, 1) := by decide +kernel
def pX9_turn : List (List gm_A) := [[(gm_aload 0), (gm_iload 1), (gm_vcall 9 101 2), (gm_ifeq 1), (gm_aload 0), (gm_iload 2), (gm_push (.inl 0)), (gm_push (.inl 1)), (gm_vcall 9 100 4), (gm_ifne 2), (gm_goto 1)],
  [(gm_push (.inl (-1))), gm_iret],
  [(gm_push (.inl 0)), (gm_istore 3), (gm_push (.inl 0)), (gm_istore 4), (gm_push (.inl 1)), (gm_istore 5), (gm_goto 3)],
  [(gm_iload 5), (gm_push (.inl 29)), (gm_cge 6), (gm_aload 0), (gm_aload 0), (gm_getI 9 901), (gm_iload 5), (gm_op2 gm_add), (gm_push (.inl 1)), (gm_op2 gm_sub), (gm_putI 9 929), (gm_aload 0), (gm_aload 0), (gm_getI 9 929), (gm_push (.inl 4)), (gm_op2 gm_add), (gm_putI 9 930), (gm_aload 0), (gm_iload 1), (gm_push (.inl 56)), (gm_vcall 9 144 3), (gm_istore 6), (gm_iload 3), (gm_ifle 4), (gm_iload 6), (gm_iload 4), (gm_clt 4), (gm_goto 5)],
  [(gm_iload 5), (gm_istore 3), (gm_iload 6), (gm_istore 4), (gm_goto 5)],
  [(gm_iinc 5 1), (gm_goto 3)],
  [(gm_aload 0), (gm_push (.inl (-1))), (gm_putI 9 929), (gm_aload 0), (gm_push (.inl (-1))), (gm_putI 9 930), (gm_iload 2), (gm_ifne 7), (gm_iload 3), (gm_goto 8)],
  [(gm_iload 4), (gm_goto 8)],
  [gm_iret]]
def bpX9_turn : Nat → Nat := fun b => ([0, 18, 20, 28, 81, 88, 94, 112, 114] : List Nat).getD b 0
set_option maxRecDepth 100000 in
theorem tX9_turn {D : va_G} {sz : Nat} {ad : Nat → Nat} {cA : Nat → ClassId} {xs : Int → Int} {Ln : Int} {l : Launch} : gm_SB D sz ad cA xs Ln l gm_mt cX9_turn "LongNoonModel" 7 false 1 bpX9_turn 0 pX9_turn :=
  ⟨gm_cn 1 (gm_m_aload _) (gm_s_aload_n dX9_turn_0 rfl) (
    gm_cn 2 (gm_m_iload _) (gm_s_iload_n dX9_turn_1 rfl) (
    gm_cn 5 (gm_m_vcall _ _ _) (gcl_X9_isHouse gw_281 dX9_turn_2) (
    gm_cn 8 (gm_m_ifeq _) (gm_s_ifeq (bpc := bpX9_turn) (b := 1) dX9_turn_5 rfl) (
    gm_cn 9 (gm_m_aload _) (gm_s_aload_n dX9_turn_8 rfl) (
    gm_cn 10 (gm_m_iload _) (gm_s_iload_n dX9_turn_9 rfl) (
    gm_cn 11 (gm_m_push _) (gm_s_iconst dX9_turn_10) (
    gm_cn 12 (gm_m_push _) (gm_s_iconst dX9_turn_11) (
    gm_cn 15 (gm_m_vcall _ _ _) (gcl_X9_in gw_280 dX9_turn_12) (
    gm_cn 18 (gm_m_ifne _) (gm_s_ifne (bpc := bpX9_turn) (b := 2) dX9_turn_15 rfl) (
    gm_cn 0 (gm_m_goto _) (gm_s_fall (bpc := bpX9_turn) (b := 1) rfl 0) (
    trivial))))))))))),
  gm_cn 19 (gm_m_push _) (gm_s_iconst dX9_turn_18) (
    gm_cn 0 gm_m_iret (gm_s_iret dX9_turn_19 rfl 0) (
    trivial)),
  gm_cn 21 (gm_m_push _) (gm_s_iconst dX9_turn_20) (
    gm_cn 22 (gm_m_istore _) (gm_s_istore_n dX9_turn_21 rfl (by decide)) (
    gm_cn 23 (gm_m_push _) (gm_s_iconst dX9_turn_22) (
    gm_cn 25 (gm_m_istore _) (gm_s_istore dX9_turn_23 (by decide)) (
    gm_cn 26 (gm_m_push _) (gm_s_iconst dX9_turn_25) (
    gm_cn 28 (gm_m_istore _) (gm_s_istore dX9_turn_26 (by decide)) (
    gm_cn 0 (gm_m_goto _) (gm_s_fall (bpc := bpX9_turn) (b := 3) rfl 0) (
    trivial))))))),
  gm_cn 30 (gm_m_iload _) (gm_s_iload dX9_turn_28) (
    gm_cn 32 (gm_m_push _) (gm_s_bipush dX9_turn_30 rfl) (
    gm_cn 35 (gm_m_cge _) (gm_s_cge (bpc := bpX9_turn) (b := 6) dX9_turn_32 rfl) (
    gm_cn 36 (gm_m_aload _) (gm_s_aload_n dX9_turn_35 rfl) (
    gm_cn 37 (gm_m_aload _) (gm_s_aload_n dX9_turn_36 rfl) (
    gm_cn 40 (gm_m_getI _ _) (gf_getI_9_1 gw_216 dX9_turn_37) (
    gm_cn 42 (gm_m_iload _) (gm_s_iload dX9_turn_40) (
    gm_cn 43 (gm_m_op2 _) (gm_s_iadd dX9_turn_42) (
    gm_cn 44 (gm_m_push _) (gm_s_iconst dX9_turn_43) (
    gm_cn 45 (gm_m_op2 _) (gm_s_isub dX9_turn_44) (
    gm_cn 48 (gm_m_putI _ _) (gf_putI_9_29 gw_245 dX9_turn_45) (
    gm_cn 49 (gm_m_aload _) (gm_s_aload_n dX9_turn_48 rfl) (
    gm_cn 50 (gm_m_aload _) (gm_s_aload_n dX9_turn_49 rfl) (
    gm_cn 53 (gm_m_getI _ _) (gf_getI_9_29 gw_245 dX9_turn_50) (
    gm_cn 54 (gm_m_push _) (gm_s_iconst dX9_turn_53) (
    gm_cn 55 (gm_m_op2 _) (gm_s_iadd dX9_turn_54) (
    gm_cn 58 (gm_m_putI _ _) (gf_putI_9_30 gw_246 dX9_turn_55) (
    gm_cn 59 (gm_m_aload _) (gm_s_aload_n dX9_turn_58 rfl) (
    gm_cn 60 (gm_m_iload _) (gm_s_iload_n dX9_turn_59 rfl) (
    gm_cn 62 (gm_m_push _) (gm_s_bipush dX9_turn_60 rfl) (
    gm_cn 65 (gm_m_vcall _ _ _) (gcl_X9_amissDays gw_316 dX9_turn_62) (
    gm_cn 67 (gm_m_istore _) (gm_s_istore dX9_turn_65 (by decide)) (
    gm_cn 68 (gm_m_iload _) (gm_s_iload_n dX9_turn_67 rfl) (
    gm_cn 71 (gm_m_ifle _) (gm_s_ifle (bpc := bpX9_turn) (b := 4) dX9_turn_68 rfl) (
    gm_cn 73 (gm_m_iload _) (gm_s_iload dX9_turn_71) (
    gm_cn 75 (gm_m_iload _) (gm_s_iload dX9_turn_73) (
    gm_cn 78 (gm_m_clt _) (gm_s_clt (bpc := bpX9_turn) (b := 4) dX9_turn_75 rfl) (
    gm_cn 0 (gm_m_goto _) (gm_s_goto (bpc := bpX9_turn) (b := 5) dX9_turn_78 rfl 0) (
    trivial)))))))))))))))))))))))))))),
  gm_cn 83 (gm_m_iload _) (gm_s_iload dX9_turn_81) (
    gm_cn 84 (gm_m_istore _) (gm_s_istore_n dX9_turn_83 rfl (by decide)) (
    gm_cn 86 (gm_m_iload _) (gm_s_iload dX9_turn_84) (
    gm_cn 88 (gm_m_istore _) (gm_s_istore dX9_turn_86 (by decide)) (
    gm_cn 0 (gm_m_goto _) (gm_s_fall (bpc := bpX9_turn) (b := 5) rfl 0) (
    trivial))))),
  gm_cn 91 (gm_m_iinc _ _) (gm_s_iinc dX9_turn_88 (by decide)) (
    gm_cn 0 (gm_m_goto _) (gm_s_goto (bpc := bpX9_turn) (b := 3) dX9_turn_91 rfl 0) (
    trivial)),
  gm_cn 95 (gm_m_aload _) (gm_s_aload_n dX9_turn_94 rfl) (
    gm_cn 96 (gm_m_push _) (gm_s_iconst dX9_turn_95) (
    gm_cn 99 (gm_m_putI _ _) (gf_putI_9_29 gw_245 dX9_turn_96) (
    gm_cn 100 (gm_m_aload _) (gm_s_aload_n dX9_turn_99 rfl) (
    gm_cn 101 (gm_m_push _) (gm_s_iconst dX9_turn_100) (
    gm_cn 104 (gm_m_putI _ _) (gf_putI_9_30 gw_246 dX9_turn_101) (
    gm_cn 105 (gm_m_iload _) (gm_s_iload_n dX9_turn_104 rfl) (
    gm_cn 108 (gm_m_ifne _) (gm_s_ifne (bpc := bpX9_turn) (b := 7) dX9_turn_105 rfl) (
    gm_cn 109 (gm_m_iload _) (gm_s_iload_n dX9_turn_108 rfl) (
    gm_cn 0 (gm_m_goto _) (gm_s_goto (bpc := bpX9_turn) (b := 8) dX9_turn_109 rfl 0) (
    trivial)))))))))),
  gm_cn 114 (gm_m_iload _) (gm_s_iload dX9_turn_112) (
    gm_cn 0 (gm_m_goto _) (gm_s_fall (bpc := bpX9_turn) (b := 8) rfl 0) (
    trivial)),
  gm_cn 0 gm_m_iret (gm_s_iret dX9_turn_114 rfl 0) (
    trivial), trivial⟩
theorem dX9_alike_0 : decode cX9_alike 0 = .ok (.aload_n 0, 1) := by decide +kernel
theorem dX9_alike_1 : decode cX9_alike 1 = .ok (.iload_n 1, 1) := by decide +kernel
theorem dX9_alike_2 : decode cX9_alike 2 = .ok (.invokevirtual 210, 3) := by decide +kernel
theorem dX9_alike_5 : decode cX9_alike 5 = .ok (.ifCond .eq 11, 3) := by decide +kernel
theorem dX9_alike_8 : decode cX9_alike 8 = .ok (.aload_n 0, 1) := by decide +kernel
theorem dX9_alike_9 : decode cX9_alike 9 = .ok (.iload_n 2, 1) := by decide +kernel
theorem dX9_alike_10 : decode cX9_alike 10 = .ok (.invokevirtual 210, 3) := by decide +kernel
theorem dX9_alike_13 : decode cX9_alike 13 = .ok (.ifCond .ne 5, 3) := by decide +kernel
theorem dX9_alike_16 : decode cX9_alike 16 = .ok (.iconst (-1), 1) := by decide +kernel
theorem dX9_alike_17 : decode cX9_alike 17 = .ok (.ireturn, 1) := by decide +kernel
theorem dX9_alike_18 : decode cX9_alike 18 = .ok (.iload_n 1, 1) := by decide +kernel
theorem dX9_alike_19 : decode cX9_alike 19 = .ok (.iload_n 2, 1) := by decide +kernel
theorem dX9_alike_20 : decode cX9_alike 20 = .ok (.if_icmp .ne 6, 3) := by decide +kernel
theorem dX9_alike_23 : decode cX9_alike 23 = .ok (.bipush (-2), 2) := by decide +kernel
theorem dX9_alike_25 : decode cX9_alike 25 = .ok (.ireturn, 1) := by decide +kernel
theorem dX9_alike_26 : decode cX9_alike 26 = .ok (.aload_n 0, 1) := by decide +kernel
theorem dX9_alike_27 : decode cX9_alike 27 = .ok (.invokevirtual 314, 3) := by decide +kernel
theorem dX9_alike_30 : decode cX9_alike 30 = .ok (.iconst 0, 1) := by decide +kernel
theorem dX9_alike_31 : decode cX9_alike 31 = .ok (.istore_n 3, 1) := by decide +kernel
theorem dX9_alike_32 : decode cX9_alike 32 = .ok (.iconst 0, 1) := by decide +kernel
theorem dX9_alike_33 : decode cX9_alike 33 = .ok (.istore 4, 2) := by decide +kernel
theorem dX9_alike_35 : decode cX9_alike 35 = .ok (.iload 4, 2) := by decide +kernel
theorem dX9_alike_37 : decode cX9_alike 37 = .ok (.bipush 28, 2) := by decide +kernel
theorem dX9_alike_39 : decode cX9_alike 39 = .ok (.if_icmp .ge 48, 3) := by decide +kernel
theorem dX9_alike_42 : decode cX9_alike 42 = .ok (.aload_n 0, 1) := by decide +kernel
theorem dX9_alike_43 : decode cX9_alike 43 = .ok (.iload_n 1, 1) := by decide +kernel
theorem dX9_alike_44 : decode cX9_alike 44 = .ok (.invokevirtual 308, 3) := by decide +kernel
theorem dX9_alike_47 : decode cX9_alike 47 = .ok (.istore 5, 2) := by decide +kernel
theorem dX9_alike_49 : decode cX9_alike 49 = .ok (.aload_n 0, 1) := by decide +kernel
theorem dX9_alike_50 : decode cX9_alike 50 = .ok (.iload_n 2, 1) := by decide +kernel
theorem dX9_alike_51 : decode cX9_alike 51 = .ok (.invokevirtual 308, 3) := by decide +kernel
theorem dX9_alike_54 : decode cX9_alike 54 = .ok (.istore 6, 2) := by decide +kernel
theorem dX9_alike_56 : decode cX9_alike 56 = .ok (.aload_n 0, 1) := by decide +kernel
theorem dX9_alike_57 : decode cX9_alike 57 = .ok (.dup, 1) := by decide +kernel
theorem dX9_alike_58 : decode cX9_alike 58 = .ok (.getfield 13, 3) := by decide +kernel
theorem dX9_alike_61 : decode cX9_alike 61 = .ok (.iconst 1, 1) := by decide +kernel
theorem dX9_alike_62 : decode cX9_alike 62 = .ok (.iadd, 1) := by decide +kernel
theorem dX9_alike_63 : decode cX9_alike 63 = .ok (.putfield 13, 3) := by decide +kernel
theorem dX9_alike_66 : decode cX9_alike 66 = .ok (.iload_n 3, 1) := by decide +kernel
theorem dX9_alike_67 : decode cX9_alike 67 = .ok (.iload 5, 2) := by decide +kernel
theorem dX9_alike_69 : decode cX9_alike 69 = .ok (.iload 6, 2) := by decide +kernel
theorem dX9_alike_71 : decode cX9_alike 71 = .ok (.if_icmp .ne 7, 3) := by decide +kernel
theorem dX9_alike_74 : decode cX9_alike 74 = .ok (.iconst 1, 1) := by decide +kernel
theorem dX9_alike_75 : decode cX9_alike 75 = .ok (.goto 4, 3) := by decide +kernel
theorem dX9_alike_78 : decode cX9_alike 78 = .ok (.iconst 0, 1) := by decide +kernel
theorem dX9_alike_79 : decode cX9_alike 79 = .ok (.iadd, 1) := by decide +kernel
theorem dX9_alike_80 : decode cX9_alike 80 = .ok (.istore_n 3, 1) := by decide +kernel
theorem dX9_alike_81 : decode cX9_alike 81 = .ok (.iinc 4 1, 3) := by decide +kernel
theorem dX9_alike_84 : decode cX9_alike 84 = .ok (.goto (-49), 3) := by decide +kernel
theorem dX9_alike_87 : decode cX9_alike 87 = .ok (.aload_n 0, 1) := by decide +kernel
theorem dX9_alike_88 : decode cX9_alike 88 = .ok (.invokevirtual 320, 3) := by decide +kernel
theorem dX9_alike_91 : decode cX9_alike 91 = .ok (.iload_n 3, 1) := by decide +kernel
theorem dX9_alike_92 : decode cX9_alike 92 = .ok (.ireturn, 1) := by decide +kernel
def pX9_alike : List (List gm_A) := [[(gm_aload 0), (gm_iload 1), (gm_vcall 9 101 2), (gm_ifeq 1), (gm_aload 0), (gm_iload 2), (gm_vcall 9 101 2), (gm_ifne 2), (gm_goto 1)],
  [(gm_push (.inl (-1))), gm_iret],
  [(gm_iload 1), (gm_iload 2), (gm_cne 3), (gm_push (.inl (-2))), gm_iret],
  [(gm_aload 0), (gm_vcall 9 141 1), (gm_push (.inl 0)), (gm_istore 3), (gm_push (.inl 0)), (gm_istore 4), (gm_goto 4)],
  [(gm_iload 4), (gm_push (.inl 28)), (gm_cge 7), (gm_aload 0), (gm_iload 1), (gm_vcall 9 136 2), (gm_istore 5), (gm_aload 0), (gm_iload 2), (gm_vcall 9 136 2), (gm_istore 6), (gm_aload 0), gm_dup, (gm_getI 9 901), (gm_push (.inl 1)), (gm_op2 gm_add), (gm_putI 9 901), (gm_iload 3), (gm_iload 5), (gm_iload 6), (gm_cne 5), (gm_push (.inl 1)), (gm_goto 6)],
  [(gm_push (.inl 0)), (gm_goto 6)],
  [(gm_op2 gm_add), (gm_istore 3), (gm_iinc 4 1), (gm_goto 4)],
  [(gm_aload 0), (gm_vcall 9 142 1), (gm_iload 3), gm_iret]]
def bpX9_alike : Nat → Nat := fun b => ([0, 16, 18, 26, 35, 78, 79, 87] : List Nat).getD b 0
set_option maxRecDepth 100000 in
theorem tX9_alike {D : va_G} {sz : Nat} {ad : Nat → Nat} {cA : Nat → ClassId} {xs : Int → Int} {Ln : Int} {l : Launch} : gm_SB D sz ad cA xs Ln l gm_mt cX9_alike "LongNoonModel" 7 false 1 bpX9_alike 0 pX9_alike :=
  ⟨gm_cn 1 (gm_m_aload _) (gm_s_aload_n dX9_alike_0 rfl) (
    gm_cn 2 (gm_m_iload _) (gm_s_iload_n dX9_alike_1 rfl) (
    gm_cn 5 (gm_m_vcall _ _ _) (gcl_X9_isHouse gw_281 dX9_alike_2) (
    gm_cn 8 (gm_m_ifeq _) (gm_s_ifeq (bpc := bpX9_alike) (b := 1) dX9_alike_5 rfl) (
    gm_cn 9 (gm_m_aload _) (gm_s_aload_n dX9_alike_8 rfl) (
    gm_cn 10 (gm_m_iload _) (gm_s_iload_n dX9_alike_9 rfl) (
    gm_cn 13 (gm_m_vcall _ _ _) (gcl_X9_isHouse gw_281 dX9_alike_10) (
    gm_cn 16 (gm_m_ifne _) (gm_s_ifne (bpc := bpX9_alike) (b := 2) dX9_alike_13 rfl) (
    gm_cn 0 (gm_m_goto _) (gm_s_fall (bpc := bpX9_alike) (b := 1) rfl 0) (
    trivial))))))))),
  gm_cn 17 (gm_m_push _) (gm_s_iconst dX9_alike_16) (
    gm_cn 0 gm_m_iret (gm_s_iret dX9_alike_17 rfl 0) (
    trivial)),
  gm_cn 19 (gm_m_iload _) (gm_s_iload_n dX9_alike_18 rfl) (
    gm_cn 20 (gm_m_iload _) (gm_s_iload_n dX9_alike_19 rfl) (
    gm_cn 23 (gm_m_cne _) (gm_s_cne (bpc := bpX9_alike) (b := 3) dX9_alike_20 rfl) (
    gm_cn 25 (gm_m_push _) (gm_s_bipush dX9_alike_23 rfl) (
    gm_cn 0 gm_m_iret (gm_s_iret dX9_alike_25 rfl 0) (
    trivial))))),
  gm_cn 27 (gm_m_aload _) (gm_s_aload_n dX9_alike_26 rfl) (
    gm_cn 30 (gm_m_vcall _ _ _) (gcl_X9_keep gw_313 dX9_alike_27) (
    gm_cn 31 (gm_m_push _) (gm_s_iconst dX9_alike_30) (
    gm_cn 32 (gm_m_istore _) (gm_s_istore_n dX9_alike_31 rfl (by decide)) (
    gm_cn 33 (gm_m_push _) (gm_s_iconst dX9_alike_32) (
    gm_cn 35 (gm_m_istore _) (gm_s_istore dX9_alike_33 (by decide)) (
    gm_cn 0 (gm_m_goto _) (gm_s_fall (bpc := bpX9_alike) (b := 4) rfl 0) (
    trivial))))))),
  gm_cn 37 (gm_m_iload _) (gm_s_iload dX9_alike_35) (
    gm_cn 39 (gm_m_push _) (gm_s_bipush dX9_alike_37 rfl) (
    gm_cn 42 (gm_m_cge _) (gm_s_cge (bpc := bpX9_alike) (b := 7) dX9_alike_39 rfl) (
    gm_cn 43 (gm_m_aload _) (gm_s_aload_n dX9_alike_42 rfl) (
    gm_cn 44 (gm_m_iload _) (gm_s_iload_n dX9_alike_43 rfl) (
    gm_cn 47 (gm_m_vcall _ _ _) (gcl_X9_goHouse gw_311 dX9_alike_44) (
    gm_cn 49 (gm_m_istore _) (gm_s_istore dX9_alike_47 (by decide)) (
    gm_cn 50 (gm_m_aload _) (gm_s_aload_n dX9_alike_49 rfl) (
    gm_cn 51 (gm_m_iload _) (gm_s_iload_n dX9_alike_50 rfl) (
    gm_cn 54 (gm_m_vcall _ _ _) (gcl_X9_goHouse gw_311 dX9_alike_51) (
    gm_cn 56 (gm_m_istore _) (gm_s_istore dX9_alike_54 (by decide)) (
    gm_cn 57 (gm_m_aload _) (gm_s_aload_n dX9_alike_56 rfl) (
    gm_cn 58 gm_m_dup (gm_s_dup dX9_alike_57) (
    gm_cn 61 (gm_m_getI _ _) (gf_getI_9_1 gw_216 dX9_alike_58) (
    gm_cn 62 (gm_m_push _) (gm_s_iconst dX9_alike_61) (
    gm_cn 63 (gm_m_op2 _) (gm_s_iadd dX9_alike_62) (
    gm_cn 66 (gm_m_putI _ _) (gf_putI_9_1 gw_216 dX9_alike_63) (
    gm_cn 67 (gm_m_iload _) (gm_s_iload_n dX9_alike_66 rfl) (
    gm_cn 69 (gm_m_iload _) (gm_s_iload dX9_alike_67) (
    gm_cn 71 (gm_m_iload _) (gm_s_iload dX9_alike_69) (
    gm_cn 74 (gm_m_cne _) (gm_s_cne (bpc := bpX9_alike) (b := 5) dX9_alike_71 rfl) (
    gm_cn 75 (gm_m_push _) (gm_s_iconst dX9_alike_74) (
    gm_cn 0 (gm_m_goto _) (gm_s_goto (bpc := bpX9_alike) (b := 6) dX9_alike_75 rfl 0) (
    trivial))))))))))))))))))))))),
  gm_cn 79 (gm_m_push _) (gm_s_iconst dX9_alike_78) (
    gm_cn 0 (gm_m_goto _) (gm_s_fall (bpc := bpX9_alike) (b := 6) rfl 0) (
    trivial)),
  gm_cn 80 (gm_m_op2 _) (gm_s_iadd dX9_alike_79) (
    gm_cn 81 (gm_m_istore _) (gm_s_istore_n dX9_alike_80 rfl (by decide)) (
    gm_cn 84 (gm_m_iinc _ _) (gm_s_iinc dX9_alike_81 (by decide)) (
    gm_cn 0 (gm_m_goto _) (gm_s_goto (bpc := bpX9_alike) (b := 4) dX9_alike_84 rfl 0) (
    trivial)))),
  gm_cn 88 (gm_m_aload _) (gm_s_aload_n dX9_alike_87 rfl) (
    gm_cn 91 (gm_m_vcall _ _ _) (gcl_X9_putBack gw_315 dX9_alike_88) (
    gm_cn 92 (gm_m_iload _) (gm_s_iload_n dX9_alike_91 rfl) (
    gm_cn 0 gm_m_iret (gm_s_iret dX9_alike_92 rfl 0) (
    trivial)))), trivial⟩
theorem dX9_see_0 : decode cX9_see 0 = .ok (.iload_n 1, 1) := by decide +kernel
theorem dX9_see_1 : decode cX9_see 1 = .ok (.iconst (-1), 1) := by decide +kernel
theorem dX9_see_2 : decode cX9_see 2 = .ok (.if_icmp .ne 10, 3) := by decide +kernel
theorem dX9_see_5 : decode cX9_see 5 = .ok (.aload_n 0, 1) := by decide +kernel
theorem dX9_see_6 : decode cX9_see 6 = .ok (.iconst 0, 1) := by decide +kernel
theorem dX9_see_7 : decode cX9_see 7 = .ok (.putfield 117, 3) := by decide +kernel
theorem dX9_see_10 : decode cX9_see 10 = .ok (.iconst 0, 1) := by decide +kernel
theorem dX9_see_11 : decode cX9_see 11 = .ok (.ireturn, 1) := by decide +kernel
theorem dX9_see_12 : decode cX9_see 12 = .ok (.aload_n 0, 1) := by decide +kernel
theorem dX9_see_13 : decode cX9_see 13 = .ok (.iload_n 1, 1) := by decide +kernel
theorem dX9_see_14 : decode cX9_see 14 = .ok (.invokevirtual 210, 3) := by decide +kernel
theorem dX9_see_17 : decode cX9_see 17 = .ok (.ifCond .ne 5, 3) := by decide +kernel
theorem dX9_see_20 : decode cX9_see 20 = .ok (.iconst (-1), 1) := by decide +kernel
theorem dX9_see_21 : decode cX9_see 21 = .ok (.ireturn, 1) := by decide +kernel
theorem dX9_see_22 : decode cX9_see 22 = .ok (.aload_n 0, 1) := by decide +kernel
theorem dX9_see_23 : decode cX9_see 23 = .ok (.iload_n 2, 1) := by decide +kernel
theorem dX9_see_24 : decode cX9_see 24 = .ok (.iconst 0, 1) := by decide +kernel
theorem dX9_see_25 : decode cX9_see 25 = .ok (.bipush 30, 2) := by decide +kernel
theorem dX9_see_27 : decode cX9_see 27 = .ok (.invokevirtual 206, 3) := by decide +kernel
theorem dX9_see_30 : decode cX9_see 30 = .ok (.ifCond .eq 15, 3) := by decide +kernel
theorem dX9_see_33 : decode cX9_see 33 = .ok (.aload_n 0, 1) := by decide +kernel
theorem dX9_see_34 : decode cX9_see 34 = .ok (.iload_n 3, 1) := by decide +kernel
theorem dX9_see_35 : decode cX9_see 35 = .ok (.iconst 0, 1) := by decide +kernel
theorem dX9_see_36 : decode cX9_see 36 = .ok (.sipush 199, 3) := by decide +kernel
theorem dX9_see_39 : decode cX9_see 39 = .ok (.invokevirtual 206, 3) := by decide +kernel
theorem dX9_see_42 : decode cX9_see 42 = .ok (.ifCond .ne 6, 3) := by decide +kernel
theorem dX9_see_45 : decode cX9_see 45 = .ok (.bipush (-2), 2) := by decide +kernel
theorem dX9_see_47 : decode cX9_see 47 = .ok (.ireturn, 1) := by decide +kernel
theorem dX9_see_48 : decode cX9_see 48 = .ok (.aload_n 0, 1) := by decide +kernel
theorem dX9_see_49 : decode cX9_see 49 = .ok (.getfield 117, 3) := by decide +kernel
theorem dX9_see_52 : decode cX9_see 52 = .ok (.bipush 8, 2) := by decide +kernel
theorem dX9_see_54 : decode cX9_see 54 = .ok (.if_icmp .ne 6, 3) := by decide +kernel
theorem dX9_see_57 : decode cX9_see 57 = .ok (.bipush (-4), 2) := by decide +kernel
theorem dX9_see_59 : decode cX9_see 59 = .ok (.ireturn, 1) := by decide +kernel
theorem dX9_see_60 : decode cX9_see 60 = .ok (.aload_n 0, 1) := by decide +kernel
theorem dX9_see_61 : decode cX9_see 61 = .ok (.getfield 120, 3) := by decide +kernel
theorem dX9_see_64 : decode cX9_see 64 = .ok (.aload_n 0, 1) := by decide +kernel
theorem dX9_see_65 : decode cX9_see 65 = .ok (.getfield 117, 3) := by decide +kernel
theorem dX9_see_68 : decode cX9_see 68 = .ok (.iload_n 1, 1) := by decide +kernel
theorem dX9_see_69 : decode cX9_see 69 = .ok (.iastore, 1) := by decide +kernel
theorem dX9_see_70 : decode cX9_see 70 = .ok (.aload_n 0, 1) := by decide +kernel
theorem dX9_see_71 : decode cX9_see 71 = .ok (.getfield 123, 3) := by decide +kernel
theorem dX9_see_74 : decode cX9_see 74 = .ok (.aload_n 0, 1) := by decide +kernel
theorem dX9_see_75 : decode cX9_see 75 = .ok (.getfield 117, 3) := by decide +kernel
theorem dX9_see_78 : decode cX9_see 78 = .ok (.iload_n 2, 1) := by decide +kernel
theorem dX9_see_79 : decode cX9_see 79 = .ok (.iastore, 1) := by decide +kernel
theorem dX9_see_80 : decode cX9_see 80 = .ok (.aload_n 0, 1) := by decide +kernel
theorem dX9_see_81 : decode cX9_see 81 = .ok (.getfield 126, 3) := by decide +kernel
theorem dX9_see_84 : decode cX9_see 84 = .ok (.aload_n 0, 1) := by decide +kernel
theorem dX9_see_85 : decode cX9_see 85 = .ok (.getfield 117, 3) := by decide +kernel
theorem dX9_see_88 : decode cX9_see 88 = .ok (.iload_n 3, 1) := by decide +kernel
theorem dX9_see_89 : decode cX9_see 89 = .ok (.iastore, 1) := by decide +kernel
theorem dX9_see_90 : decode cX9_see 90 = .ok (.aload_n 0, 1) := by decide +kernel
theorem dX9_see_91 : decode cX9_see 91 = .ok (.dup, 1) := by decide +kernel
theorem dX9_see_92 : decode cX9_see 92 = .ok (.getfield 117, 3) := by decide +kernel
theorem dX9_see_95 : decode cX9_see 95 = .ok (.iconst 1, 1) := by decide +kernel
theorem dX9_see_96 : decode cX9_see 96 = .ok (.iadd, 1) := by decide +kernel
theorem dX9_see_97 : decode cX9_see 97 = .ok (.putfield 117, 3) := by decide +kernel
theorem dX9_see_100 : decode cX9_see 100 = .ok (.aload_n 0, 1) := by decide +kernel
theorem dX9_see_101 : decode cX9_see 101 = .ok (.getfield 117, 3) := by decide +kernel
theorem dX9_see_104 : decode cX9_see 104 = .ok (.ireturn, 1) := by decide +kernel
def pX9_see : List (List gm_A) := [[(gm_iload 1), (gm_push (.inl (-1))), (gm_cne 1), (gm_aload 0), (gm_push (.inl 0)), (gm_putI 9 935), (gm_push (.inl 0)), gm_iret],
  [(gm_aload 0), (gm_iload 1), (gm_vcall 9 101 2), (gm_ifne 2), (gm_push (.inl (-1))), gm_iret],
  [(gm_aload 0), (gm_iload 2), (gm_push (.inl 0)), (gm_push (.inl 30)), (gm_vcall 9 100 4), (gm_ifeq 3), (gm_aload 0), (gm_iload 3), (gm_push (.inl 0)), (gm_push (.inl 199)), (gm_vcall 9 100 4), (gm_ifne 4), (gm_goto 3)],
  [(gm_push (.inl (-2))), gm_iret],
  [(gm_aload 0), (gm_getI 9 935), (gm_push (.inl 8)), (gm_cne 5), (gm_push (.inl (-4))), gm_iret],
  [(gm_aload 0), (gm_getR 9 936), (gm_aload 0), (gm_getI 9 935), (gm_iload 1), gm_iast, (gm_aload 0), (gm_getR 9 937), (gm_aload 0), (gm_getI 9 935), (gm_iload 2), gm_iast, (gm_aload 0), (gm_getR 9 938), (gm_aload 0), (gm_getI 9 935), (gm_iload 3), gm_iast, (gm_aload 0), gm_dup, (gm_getI 9 935), (gm_push (.inl 1)), (gm_op2 gm_add), (gm_putI 9 935), (gm_aload 0), (gm_getI 9 935), gm_iret]]
def bpX9_see : Nat → Nat := fun b => ([0, 12, 22, 45, 48, 60] : List Nat).getD b 0
set_option maxRecDepth 100000 in
theorem tX9_see {D : va_G} {sz : Nat} {ad : Nat → Nat} {cA : Nat → ClassId} {xs : Int → Int} {Ln : Int} {l : Launch} : gm_SB D sz ad cA xs Ln l gm_mt cX9_see "LongNoonModel" 4 false 1 bpX9_see 0 pX9_see :=
  ⟨gm_cn 1 (gm_m_iload _) (gm_s_iload_n dX9_see_0 rfl) (
    gm_cn 2 (gm_m_push _) (gm_s_iconst dX9_see_1) (
    gm_cn 5 (gm_m_cne _) (gm_s_cne (bpc := bpX9_see) (b := 1) dX9_see_2 rfl) (
    gm_cn 6 (gm_m_aload _) (gm_s_aload_n dX9_see_5 rfl) (
    gm_cn 7 (gm_m_push _) (gm_s_iconst dX9_see_6) (
    gm_cn 10 (gm_m_putI _ _) (gf_putI_9_35 gw_251 dX9_see_7) (
    gm_cn 11 (gm_m_push _) (gm_s_iconst dX9_see_10) (
    gm_cn 0 gm_m_iret (gm_s_iret dX9_see_11 rfl 0) (
    trivial)))))))),
  gm_cn 13 (gm_m_aload _) (gm_s_aload_n dX9_see_12 rfl) (
    gm_cn 14 (gm_m_iload _) (gm_s_iload_n dX9_see_13 rfl) (
    gm_cn 17 (gm_m_vcall _ _ _) (gcl_X9_isHouse gw_281 dX9_see_14) (
    gm_cn 20 (gm_m_ifne _) (gm_s_ifne (bpc := bpX9_see) (b := 2) dX9_see_17 rfl) (
    gm_cn 21 (gm_m_push _) (gm_s_iconst dX9_see_20) (
    gm_cn 0 gm_m_iret (gm_s_iret dX9_see_21 rfl 0) (
    trivial)))))),
  gm_cn 23 (gm_m_aload _) (gm_s_aload_n dX9_see_22 rfl) (
    gm_cn 24 (gm_m_iload _) (gm_s_iload_n dX9_see_23 rfl) (
    gm_cn 25 (gm_m_push _) (gm_s_iconst dX9_see_24) (
    gm_cn 27 (gm_m_push _) (gm_s_bipush dX9_see_25 rfl) (
    gm_cn 30 (gm_m_vcall _ _ _) (gcl_X9_in gw_280 dX9_see_27) (
    gm_cn 33 (gm_m_ifeq _) (gm_s_ifeq (bpc := bpX9_see) (b := 3) dX9_see_30 rfl) (
    gm_cn 34 (gm_m_aload _) (gm_s_aload_n dX9_see_33 rfl) (
    gm_cn 35 (gm_m_iload _) (gm_s_iload_n dX9_see_34 rfl) (
    gm_cn 36 (gm_m_push _) (gm_s_iconst dX9_see_35) (
    gm_cn 39 (gm_m_push _) (gm_s_sipush dX9_see_36 rfl) (
    gm_cn 42 (gm_m_vcall _ _ _) (gcl_X9_in gw_280 dX9_see_39) (
    gm_cn 45 (gm_m_ifne _) (gm_s_ifne (bpc := bpX9_see) (b := 4) dX9_see_42 rfl) (
    gm_cn 0 (gm_m_goto _) (gm_s_fall (bpc := bpX9_see) (b := 3) rfl 0) (
    trivial))))))))))))),
  gm_cn 47 (gm_m_push _) (gm_s_bipush dX9_see_45 rfl) (
    gm_cn 0 gm_m_iret (gm_s_iret dX9_see_47 rfl 0) (
    trivial)),
  gm_cn 49 (gm_m_aload _) (gm_s_aload_n dX9_see_48 rfl) (
    gm_cn 52 (gm_m_getI _ _) (gf_getI_9_35 gw_251 dX9_see_49) (
    gm_cn 54 (gm_m_push _) (gm_s_bipush dX9_see_52 rfl) (
    gm_cn 57 (gm_m_cne _) (gm_s_cne (bpc := bpX9_see) (b := 5) dX9_see_54 rfl) (
    gm_cn 59 (gm_m_push _) (gm_s_bipush dX9_see_57 rfl) (
    gm_cn 0 gm_m_iret (gm_s_iret dX9_see_59 rfl 0) (
    trivial)))))),
  gm_cn 61 (gm_m_aload _) (gm_s_aload_n dX9_see_60 rfl) (
    gm_cn 64 (gm_m_getR _ _) (gf_getR_9_36 gw_252 dX9_see_61) (
    gm_cn 65 (gm_m_aload _) (gm_s_aload_n dX9_see_64 rfl) (
    gm_cn 68 (gm_m_getI _ _) (gf_getI_9_35 gw_251 dX9_see_65) (
    gm_cn 69 (gm_m_iload _) (gm_s_iload_n dX9_see_68 rfl) (
    gm_cn 70 gm_m_iast (gm_s_iast dX9_see_69) (
    gm_cn 71 (gm_m_aload _) (gm_s_aload_n dX9_see_70 rfl) (
    gm_cn 74 (gm_m_getR _ _) (gf_getR_9_37 gw_253 dX9_see_71) (
    gm_cn 75 (gm_m_aload _) (gm_s_aload_n dX9_see_74 rfl) (
    gm_cn 78 (gm_m_getI _ _) (gf_getI_9_35 gw_251 dX9_see_75) (
    gm_cn 79 (gm_m_iload _) (gm_s_iload_n dX9_see_78 rfl) (
    gm_cn 80 gm_m_iast (gm_s_iast dX9_see_79) (
    gm_cn 81 (gm_m_aload _) (gm_s_aload_n dX9_see_80 rfl) (
    gm_cn 84 (gm_m_getR _ _) (gf_getR_9_38 gw_254 dX9_see_81) (
    gm_cn 85 (gm_m_aload _) (gm_s_aload_n dX9_see_84 rfl) (
    gm_cn 88 (gm_m_getI _ _) (gf_getI_9_35 gw_251 dX9_see_85) (
    gm_cn 89 (gm_m_iload _) (gm_s_iload_n dX9_see_88 rfl) (
    gm_cn 90 gm_m_iast (gm_s_iast dX9_see_89) (
    gm_cn 91 (gm_m_aload _) (gm_s_aload_n dX9_see_90 rfl) (
    gm_cn 92 gm_m_dup (gm_s_dup dX9_see_91) (
    gm_cn 95 (gm_m_getI _ _) (gf_getI_9_35 gw_251 dX9_see_92) (
    gm_cn 96 (gm_m_push _) (gm_s_iconst dX9_see_95) (
    gm_cn 97 (gm_m_op2 _) (gm_s_iadd dX9_see_96) (
    gm_cn 100 (gm_m_putI _ _) (gf_putI_9_35 gw_251 dX9_see_97) (
    gm_cn 101 (gm_m_aload _) (gm_s_aload_n dX9_see_100 rfl) (
    gm_cn 104 (gm_m_getI _ _) (gf_getI_9_35 gw_251 dX9_see_101) (
    gm_cn 0 gm_m_iret (gm_s_iret dX9_see_104 rfl 0) (
    trivial))))))))))))))))))))))))))), trivial⟩
theorem dX9_isSeen_0 : decode cX9_isSeen 0 = .ok (.aload_n 0, 1) := by decide +kernel
theorem dX9_isSeen_1 : decode cX9_isSeen 1 = .ok (.invokevirtual 314, 3) := by decide +kernel
theorem dX9_isSeen_4 : decode cX9_isSeen 4 = .ok (.aload_n 0, 1) := by decide +kernel
theorem dX9_isSeen_5 : decode cX9_isSeen 5 = .ok (.iload_n 1, 1) := by decide +kernel
theorem dX9_isSeen_6 : decode cX9_isSeen 6 = .ok (.aload_n 0, 1) := by decide +kernel
theorem dX9_isSeen_7 : decode cX9_isSeen 7 = .ok (.getfield 123, 3) := by decide +kernel
theorem dX9_isSeen_10 : decode cX9_isSeen 10 = .ok (.iload_n 2, 1) := by decide +kernel
theorem dX9_isSeen_11 : decode cX9_isSeen 11 = .ok (.iaload, 1) := by decide +kernel
theorem dX9_isSeen_12 : decode cX9_isSeen 12 = .ok (.invokevirtual 317, 3) := by decide +kernel
theorem dX9_isSeen_15 : decode cX9_isSeen 15 = .ok (.istore_n 3, 1) := by decide +kernel
theorem dX9_isSeen_16 : decode cX9_isSeen 16 = .ok (.aload_n 0, 1) := by decide +kernel
theorem dX9_isSeen_17 : decode cX9_isSeen 17 = .ok (.getfield 26, 3) := by decide +kernel
theorem dX9_isSeen_20 : decode cX9_isSeen 20 = .ok (.iload_n 1, 1) := by decide +kernel
theorem dX9_isSeen_21 : decode cX9_isSeen 21 = .ok (.iaload, 1) := by decide +kernel
theorem dX9_isSeen_22 : decode cX9_isSeen 22 = .ok (.aload_n 0, 1) := by decide +kernel
theorem dX9_isSeen_23 : decode cX9_isSeen 23 = .ok (.getfield 126, 3) := by decide +kernel
theorem dX9_isSeen_26 : decode cX9_isSeen 26 = .ok (.iload_n 2, 1) := by decide +kernel
theorem dX9_isSeen_27 : decode cX9_isSeen 27 = .ok (.iaload, 1) := by decide +kernel
theorem dX9_isSeen_28 : decode cX9_isSeen 28 = .ok (.if_icmp .ne 7, 3) := by decide +kernel
theorem dX9_isSeen_31 : decode cX9_isSeen 31 = .ok (.iconst 1, 1) := by decide +kernel
theorem dX9_isSeen_32 : decode cX9_isSeen 32 = .ok (.goto 4, 3) := by decide +kernel
theorem dX9_isSeen_35 : decode cX9_isSeen 35 = .ok (.iconst 0, 1) := by decide +kernel
theorem dX9_isSeen_36 : decode cX9_isSeen 36 = .ok (.istore 4, 2) := by decide +kernel
theorem dX9_isSeen_38 : decode cX9_isSeen 38 = .ok (.aload_n 0, 1) := by decide +kernel
theorem dX9_isSeen_39 : decode cX9_isSeen 39 = .ok (.invokevirtual 320, 3) := by decide +kernel
theorem dX9_isSeen_42 : decode cX9_isSeen 42 = .ok (.iload 4, 2) := by decide +kernel
theorem dX9_isSeen_44 : decode cX9_isSeen 44 = .ok (.ireturn, 1) := by decide +kernel
def pX9_isSeen : List (List gm_A) := [[(gm_aload 0), (gm_vcall 9 141 1), (gm_aload 0), (gm_iload 1), (gm_aload 0), (gm_getR 9 937), (gm_iload 2), gm_iald, (gm_vcall 9 143 3), (gm_istore 3), (gm_aload 0), (gm_getR 9 905), (gm_iload 1), gm_iald, (gm_aload 0), (gm_getR 9 938), (gm_iload 2), gm_iald, (gm_cne 1), (gm_push (.inl 1)), (gm_goto 2)],
  [(gm_push (.inl 0)), (gm_goto 2)],
  [(gm_istore 4), (gm_aload 0), (gm_vcall 9 142 1), (gm_iload 4), gm_zret]]
def bpX9_isSeen : Nat → Nat := fun b => ([0, 35, 36] : List Nat).getD b 0
set_option maxRecDepth 100000 in
theorem tX9_isSeen {D : va_G} {sz : Nat} {ad : Nat → Nat} {cA : Nat → ClassId} {xs : Int → Int} {Ln : Int} {l : Launch} : gm_SB D sz ad cA xs Ln l gm_mt cX9_isSeen "LongNoonModel" 5 false 2 bpX9_isSeen 0 pX9_isSeen :=
  ⟨gm_cn 1 (gm_m_aload _) (gm_s_aload_n dX9_isSeen_0 rfl) (
    gm_cn 4 (gm_m_vcall _ _ _) (gcl_X9_keep gw_313 dX9_isSeen_1) (
    gm_cn 5 (gm_m_aload _) (gm_s_aload_n dX9_isSeen_4 rfl) (
    gm_cn 6 (gm_m_iload _) (gm_s_iload_n dX9_isSeen_5 rfl) (
    gm_cn 7 (gm_m_aload _) (gm_s_aload_n dX9_isSeen_6 rfl) (
    gm_cn 10 (gm_m_getR _ _) (gf_getR_9_37 gw_253 dX9_isSeen_7) (
    gm_cn 11 (gm_m_iload _) (gm_s_iload_n dX9_isSeen_10 rfl) (
    gm_cn 12 gm_m_iald (gm_s_iald dX9_isSeen_11) (
    gm_cn 15 (gm_m_vcall _ _ _) (gcl_X9_goOne gw_314 dX9_isSeen_12) (
    gm_cn 16 (gm_m_istore _) (gm_s_istore_n dX9_isSeen_15 rfl (by decide)) (
    gm_cn 17 (gm_m_aload _) (gm_s_aload_n dX9_isSeen_16 rfl) (
    gm_cn 20 (gm_m_getR _ _) (gf_getR_9_5 gw_220 dX9_isSeen_17) (
    gm_cn 21 (gm_m_iload _) (gm_s_iload_n dX9_isSeen_20 rfl) (
    gm_cn 22 gm_m_iald (gm_s_iald dX9_isSeen_21) (
    gm_cn 23 (gm_m_aload _) (gm_s_aload_n dX9_isSeen_22 rfl) (
    gm_cn 26 (gm_m_getR _ _) (gf_getR_9_38 gw_254 dX9_isSeen_23) (
    gm_cn 27 (gm_m_iload _) (gm_s_iload_n dX9_isSeen_26 rfl) (
    gm_cn 28 gm_m_iald (gm_s_iald dX9_isSeen_27) (
    gm_cn 31 (gm_m_cne _) (gm_s_cne (bpc := bpX9_isSeen) (b := 1) dX9_isSeen_28 rfl) (
    gm_cn 32 (gm_m_push _) (gm_s_iconst dX9_isSeen_31) (
    gm_cn 0 (gm_m_goto _) (gm_s_goto (bpc := bpX9_isSeen) (b := 2) dX9_isSeen_32 rfl 0) (
    trivial))))))))))))))))))))),
  gm_cn 36 (gm_m_push _) (gm_s_iconst dX9_isSeen_35) (
    gm_cn 0 (gm_m_goto _) (gm_s_fall (bpc := bpX9_isSeen) (b := 2) rfl 0) (
    trivial)),
  gm_cn 38 (gm_m_istore _) (gm_s_istore dX9_isSeen_36 (by decide)) (
    gm_cn 39 (gm_m_aload _) (gm_s_aload_n dX9_isSeen_38 rfl) (
    gm_cn 42 (gm_m_vcall _ _ _) (gcl_X9_putBack gw_315 dX9_isSeen_39) (
    gm_cn 44 (gm_m_iload _) (gm_s_iload dX9_isSeen_42) (
    gm_cn 0 gm_m_zret (gm_s_zret dX9_isSeen_44 rfl 0) (
    trivial))))), trivial⟩
theorem dX9_leaks_0 : decode cX9_leaks 0 = .ok (.aload_n 0, 1) := by decide +kernel
theorem dX9_leaks_1 : decode cX9_leaks 1 = .ok (.iload_n 1, 1) := by decide +kernel
theorem dX9_leaks_2 : decode cX9_leaks 2 = .ok (.invokevirtual 210, 3) := by decide +kernel
theorem dX9_leaks_5 : decode cX9_leaks 5 = .ok (.ifCond .ne 5, 3) := by decide +kernel
theorem dX9_leaks_8 : decode cX9_leaks 8 = .ok (.iconst (-1), 1) := by decide +kernel
theorem dX9_leaks_9 : decode cX9_leaks 9 = .ok (.ireturn, 1) := by decide +kernel
theorem dX9_leaks_10 : decode cX9_leaks 10 = .ok (.aload_n 0, 1) := by decide +kernel
theorem dX9_leaks_11 : decode cX9_leaks 11 = .ok (.getfield 32, 3) := by decide +kernel
theorem dX9_leaks_14 : decode cX9_leaks 14 = .ok (.iload_n 1, 1) := by decide +kernel
theorem dX9_leaks_15 : decode cX9_leaks 15 = .ok (.iaload, 1) := by decide +kernel
theorem dX9_leaks_16 : decode cX9_leaks 16 = .ok (.istore_n 2, 1) := by decide +kernel
theorem dX9_leaks_17 : decode cX9_leaks 17 = .ok (.iconst 0, 1) := by decide +kernel
theorem dX9_leaks_18 : decode cX9_leaks 18 = .ok (.istore_n 3, 1) := by decide +kernel
theorem dX9_leaks_19 : decode cX9_leaks 19 = .ok (.iconst 0, 1) := by decide +kernel
theorem dX9_leaks_20 : decode cX9_leaks 20 = .ok (.istore 4, 2) := by decide +kernel
theorem dX9_leaks_22 : decode cX9_leaks 22 = .ok (.iload 4, 2) := by decide +kernel
theorem dX9_leaks_24 : decode cX9_leaks 24 = .ok (.bipush 10, 2) := by decide +kernel
theorem dX9_leaks_26 : decode cX9_leaks 26 = .ok (.if_icmp .ge 87, 3) := by decide +kernel
theorem dX9_leaks_29 : decode cX9_leaks 29 = .ok (.aload_n 0, 1) := by decide +kernel
theorem dX9_leaks_30 : decode cX9_leaks 30 = .ok (.getfield 32, 3) := by decide +kernel
theorem dX9_leaks_33 : decode cX9_leaks 33 = .ok (.iload_n 1, 1) := by decide +kernel
theorem dX9_leaks_34 : decode cX9_leaks 34 = .ok (.iload 4, 2) := by decide +kernel
theorem dX9_leaks_36 : decode cX9_leaks 36 = .ok (.iastore, 1) := by decide +kernel
theorem dX9_leaks_37 : decode cX9_leaks 37 = .ok (.iconst 1, 1) := by decide +kernel
theorem dX9_leaks_38 : decode cX9_leaks 38 = .ok (.istore 5, 2) := by decide +kernel
theorem dX9_leaks_40 : decode cX9_leaks 40 = .ok (.iconst 0, 1) := by decide +kernel
theorem dX9_leaks_41 : decode cX9_leaks 41 = .ok (.istore 6, 2) := by decide +kernel
theorem dX9_leaks_43 : decode cX9_leaks 43 = .ok (.iload 6, 2) := by decide +kernel
theorem dX9_leaks_45 : decode cX9_leaks 45 = .ok (.aload_n 0, 1) := by decide +kernel
theorem dX9_leaks_46 : decode cX9_leaks 46 = .ok (.getfield 117, 3) := by decide +kernel
theorem dX9_leaks_49 : decode cX9_leaks 49 = .ok (.if_icmp .ge 42, 3) := by decide +kernel
theorem dX9_leaks_52 : decode cX9_leaks 52 = .ok (.iload 5, 2) := by decide +kernel
theorem dX9_leaks_54 : decode cX9_leaks 54 = .ok (.ifCond .eq 37, 3) := by decide +kernel
theorem dX9_leaks_57 : decode cX9_leaks 57 = .ok (.aload_n 0, 1) := by decide +kernel
theorem dX9_leaks_58 : decode cX9_leaks 58 = .ok (.getfield 120, 3) := by decide +kernel
theorem dX9_leaks_61 : decode cX9_leaks 61 = .ok (.iload 6, 2) := by decide +kernel
theorem dX9_leaks_63 : decode cX9_leaks 63 = .ok (.iaload, 1) := by decide +kernel
theorem dX9_leaks_64 : decode cX9_leaks 64 = .ok (.iload_n 1, 1) := by decide +kernel
theorem dX9_leaks_65 : decode cX9_leaks 65 = .ok (.if_icmp .ne 13, 3) := by decide +kernel
theorem dX9_leaks_68 : decode cX9_leaks 68 = .ok (.aload_n 0, 1) := by decide +kernel
theorem dX9_leaks_69 : decode cX9_leaks 69 = .ok (.iload_n 1, 1) := by decide +kernel
theorem dX9_leaks_70 : decode cX9_leaks 70 = .ok (.iload 6, 2) := by decide +kernel
theorem dX9_leaks_72 : decode cX9_leaks 72 = .ok (.invokevirtual 329, 3) := by decide +kernel
theorem dX9_leaks_75 : decode cX9_leaks 75 = .ok (.ifCond .eq 7, 3) := by decide +kernel
theorem dX9_leaks_78 : decode cX9_leaks 78 = .ok (.iconst 1, 1) := by decide +kernel
theorem dX9_leaks_79 : decode cX9_leaks 79 = .ok (.goto 4, 3) := by decide +kernel
theorem dX9_leaks_82 : decode cX9_leaks 82 = .ok (.iconst 0, 1) := by decide +kernel
theorem dX9_leaks_83 : decode cX9_leaks 83 = .ok (.istore 5, 2) := by decide +kernel
theorem dX9_leaks_85 : decode cX9_leaks 85 = .ok (.iinc 6 1, 3) := by decide +kernel
theorem dX9_leaks_88 : decode cX9_leaks 88 = .ok (.goto (-45), 3) := by decide +kernel
theorem dX9_leaks_91 : decode cX9_leaks 91 = .ok (.iload_n 3, 1) := by decide +kernel
theorem dX9_leaks_92 : decode cX9_leaks 92 = .ok (.iload 5, 2) := by decide +kernel
theorem dX9_leaks_94 : decode cX9_leaks 94 = .ok (.ifCond .eq 10, 3) := by decide +kernel
theorem dX9_leaks_97 : decode cX9_leaks 97 = .ok (.iconst 1, 1) := by decide +kernel
theorem dX9_leaks_98 : decode cX9_leaks 98 = .ok (.iload 4, 2) := by decide +kernel
theorem dX9_leaks_100 : decode cX9_leaks 100 = .ok (.ishl, 1) := by decide +kernel
theorem dX9_leaks_101 : decode cX9_leaks 101 = .ok (.goto 4, 3) := by decide +kernel
theorem dX9_leaks_104 : decode cX9_leaks 104 = .ok (.iconst 0, 1) := by decide +kernel
theorem dX9_leaks_105 : decode cX9_leaks 105 = .ok (.ior, 1) := by decide +kernel
theorem dX9_leaks_106 : decode cX9_leaks 106 = .ok (.istore_n 3, 1) := by decide +kernel
theorem dX9_leaks_107 : decode cX9_leaks 107 = .ok (.iinc 4 1, 3) := by decide +kernel
theorem dX9_leaks_110 : decode cX9_leaks 110 = .ok (.goto (-88), 3) := by decide +kernel
theorem dX9_leaks_113 : decode cX9_leaks 113 = .ok (.aload_n 0, 1) := by decide +kernel
theorem dX9_leaks_114 : decode cX9_leaks 114 = .ok (.getfield 32, 3) := by decide +kernel
theorem dX9_leaks_117 : decode cX9_leaks 117 = .ok (.iload_n 1, 1) := by decide +kernel
theorem dX9_leaks_118 : decode cX9_leaks 118 = .ok (.iload_n 2, 1) := by decide +kernel
theorem dX9_leaks_119 : decode cX9_leaks 119 = .ok (.iastore, 1) := by decide +kernel
theorem dX9_leaks_120 : decode cX9_leaks 120 = .ok (.iload_n 3, 1) := by decide +kernel
theorem dX9_leaks_121 : decode cX9_leaks 121 = .ok (.ireturn, 1) := by decide +kernel
def pX9_leaks : List (List gm_A) := [[(gm_aload 0), (gm_iload 1), (gm_vcall 9 101 2), (gm_ifne 1), (gm_push (.inl (-1))), gm_iret],
  [(gm_aload 0), (gm_getR 9 907), (gm_iload 1), gm_iald, (gm_istore 2), (gm_push (.inl 0)), (gm_istore 3), (gm_push (.inl 0)), (gm_istore 4), (gm_goto 2)],
  [(gm_iload 4), (gm_push (.inl 10)), (gm_cge 10), (gm_aload 0), (gm_getR 9 907), (gm_iload 1), (gm_iload 4), gm_iast, (gm_push (.inl 1)), (gm_istore 5), (gm_push (.inl 0)), (gm_istore 6), (gm_goto 3)],
  [(gm_iload 6), (gm_aload 0), (gm_getI 9 935), (gm_cge 7), (gm_iload 5), (gm_ifeq 7), (gm_aload 0), (gm_getR 9 936), (gm_iload 6), gm_iald, (gm_iload 1), (gm_cne 4), (gm_aload 0), (gm_iload 1), (gm_iload 6), (gm_vcall 9 157 3), (gm_ifeq 5), (gm_goto 4)],
  [(gm_push (.inl 1)), (gm_goto 6)],
  [(gm_push (.inl 0)), (gm_goto 6)],
  [(gm_istore 5), (gm_iinc 6 1), (gm_goto 3)],
  [(gm_iload 3), (gm_iload 5), (gm_ifeq 8), (gm_push (.inl 1)), (gm_iload 4), (gm_op2 gm_shl), (gm_goto 9)],
  [(gm_push (.inl 0)), (gm_goto 9)],
  [(gm_op2 gm_or), (gm_istore 3), (gm_iinc 4 1), (gm_goto 2)],
  [(gm_aload 0), (gm_getR 9 907), (gm_iload 1), (gm_iload 2), gm_iast, (gm_iload 3), gm_iret]]
def bpX9_leaks : Nat → Nat := fun b => ([0, 10, 22, 43, 78, 82, 83, 91, 104, 105, 113] : List Nat).getD b 0
set_option maxRecDepth 100000 in
theorem tX9_leaks {D : va_G} {sz : Nat} {ad : Nat → Nat} {cA : Nat → ClassId} {xs : Int → Int} {Ln : Int} {l : Launch} : gm_SB D sz ad cA xs Ln l gm_mt cX9_leaks "LongNoonModel" 7 false 1 bpX9_leaks 0 pX9_leaks :=
  ⟨gm_cn 1 (gm_m_aload _) (gm_s_aload_n dX9_leaks_0 rfl) (
    gm_cn 2 (gm_m_iload _) (gm_s_iload_n dX9_leaks_1 rfl) (
    gm_cn 5 (gm_m_vcall _ _ _) (gcl_X9_isHouse gw_281 dX9_leaks_2) (
    gm_cn 8 (gm_m_ifne _) (gm_s_ifne (bpc := bpX9_leaks) (b := 1) dX9_leaks_5 rfl) (
    gm_cn 9 (gm_m_push _) (gm_s_iconst dX9_leaks_8) (
    gm_cn 0 gm_m_iret (gm_s_iret dX9_leaks_9 rfl 0) (
    trivial)))))),
  gm_cn 11 (gm_m_aload _) (gm_s_aload_n dX9_leaks_10 rfl) (
    gm_cn 14 (gm_m_getR _ _) (gf_getR_9_7 gw_222 dX9_leaks_11) (
    gm_cn 15 (gm_m_iload _) (gm_s_iload_n dX9_leaks_14 rfl) (
    gm_cn 16 gm_m_iald (gm_s_iald dX9_leaks_15) (
    gm_cn 17 (gm_m_istore _) (gm_s_istore_n dX9_leaks_16 rfl (by decide)) (
    gm_cn 18 (gm_m_push _) (gm_s_iconst dX9_leaks_17) (
    gm_cn 19 (gm_m_istore _) (gm_s_istore_n dX9_leaks_18 rfl (by decide)) (
    gm_cn 20 (gm_m_push _) (gm_s_iconst dX9_leaks_19) (
    gm_cn 22 (gm_m_istore _) (gm_s_istore dX9_leaks_20 (by decide)) (
    gm_cn 0 (gm_m_goto _) (gm_s_fall (bpc := bpX9_leaks) (b := 2) rfl 0) (
    trivial)))))))))),
  gm_cn 24 (gm_m_iload _) (gm_s_iload dX9_leaks_22) (
    gm_cn 26 (gm_m_push _) (gm_s_bipush dX9_leaks_24 rfl) (
    gm_cn 29 (gm_m_cge _) (gm_s_cge (bpc := bpX9_leaks) (b := 10) dX9_leaks_26 rfl) (
    gm_cn 30 (gm_m_aload _) (gm_s_aload_n dX9_leaks_29 rfl) (
    gm_cn 33 (gm_m_getR _ _) (gf_getR_9_7 gw_222 dX9_leaks_30) (
    gm_cn 34 (gm_m_iload _) (gm_s_iload_n dX9_leaks_33 rfl) (
    gm_cn 36 (gm_m_iload _) (gm_s_iload dX9_leaks_34) (
    gm_cn 37 gm_m_iast (gm_s_iast dX9_leaks_36) (
    gm_cn 38 (gm_m_push _) (gm_s_iconst dX9_leaks_37) (
    gm_cn 40 (gm_m_istore _) (gm_s_istore dX9_leaks_38 (by decide)) (
    gm_cn 41 (gm_m_push _) (gm_s_iconst dX9_leaks_40) (
    gm_cn 43 (gm_m_istore _) (gm_s_istore dX9_leaks_41 (by decide)) (
    gm_cn 0 (gm_m_goto _) (gm_s_fall (bpc := bpX9_leaks) (b := 3) rfl 0) (
    trivial))))))))))))),
  gm_cn 45 (gm_m_iload _) (gm_s_iload dX9_leaks_43) (
    gm_cn 46 (gm_m_aload _) (gm_s_aload_n dX9_leaks_45 rfl) (
    gm_cn 49 (gm_m_getI _ _) (gf_getI_9_35 gw_251 dX9_leaks_46) (
    gm_cn 52 (gm_m_cge _) (gm_s_cge (bpc := bpX9_leaks) (b := 7) dX9_leaks_49 rfl) (
    gm_cn 54 (gm_m_iload _) (gm_s_iload dX9_leaks_52) (
    gm_cn 57 (gm_m_ifeq _) (gm_s_ifeq (bpc := bpX9_leaks) (b := 7) dX9_leaks_54 rfl) (
    gm_cn 58 (gm_m_aload _) (gm_s_aload_n dX9_leaks_57 rfl) (
    gm_cn 61 (gm_m_getR _ _) (gf_getR_9_36 gw_252 dX9_leaks_58) (
    gm_cn 63 (gm_m_iload _) (gm_s_iload dX9_leaks_61) (
    gm_cn 64 gm_m_iald (gm_s_iald dX9_leaks_63) (
    gm_cn 65 (gm_m_iload _) (gm_s_iload_n dX9_leaks_64 rfl) (
    gm_cn 68 (gm_m_cne _) (gm_s_cne (bpc := bpX9_leaks) (b := 4) dX9_leaks_65 rfl) (
    gm_cn 69 (gm_m_aload _) (gm_s_aload_n dX9_leaks_68 rfl) (
    gm_cn 70 (gm_m_iload _) (gm_s_iload_n dX9_leaks_69 rfl) (
    gm_cn 72 (gm_m_iload _) (gm_s_iload dX9_leaks_70) (
    gm_cn 75 (gm_m_vcall _ _ _) (gcl_X9_isSeen gw_318 dX9_leaks_72) (
    gm_cn 78 (gm_m_ifeq _) (gm_s_ifeq (bpc := bpX9_leaks) (b := 5) dX9_leaks_75 rfl) (
    gm_cn 0 (gm_m_goto _) (gm_s_fall (bpc := bpX9_leaks) (b := 4) rfl 0) (
    trivial)))))))))))))))))),
  gm_cn 79 (gm_m_push _) (gm_s_iconst dX9_leaks_78) (
    gm_cn 0 (gm_m_goto _) (gm_s_goto (bpc := bpX9_leaks) (b := 6) dX9_leaks_79 rfl 0) (
    trivial)),
  gm_cn 83 (gm_m_push _) (gm_s_iconst dX9_leaks_82) (
    gm_cn 0 (gm_m_goto _) (gm_s_fall (bpc := bpX9_leaks) (b := 6) rfl 0) (
    trivial)),
  gm_cn 85 (gm_m_istore _) (gm_s_istore dX9_leaks_83 (by decide)) (
    gm_cn 88 (gm_m_iinc _ _) (gm_s_iinc dX9_leaks_85 (by decide)) (
    gm_cn 0 (gm_m_goto _) (gm_s_goto (bpc := bpX9_leaks) (b := 3) dX9_leaks_88 rfl 0) (
    trivial))),
  gm_cn 92 (gm_m_iload _) (gm_s_iload_n dX9_leaks_91 rfl) (
    gm_cn 94 (gm_m_iload _) (gm_s_iload dX9_leaks_92) (
    gm_cn 97 (gm_m_ifeq _) (gm_s_ifeq (bpc := bpX9_leaks) (b := 8) dX9_leaks_94 rfl) (
    gm_cn 98 (gm_m_push _) (gm_s_iconst dX9_leaks_97) (
    gm_cn 100 (gm_m_iload _) (gm_s_iload dX9_leaks_98) (
    gm_cn 101 (gm_m_op2 _) (gm_s_ishl dX9_leaks_100) (
    gm_cn 0 (gm_m_goto _) (gm_s_goto (bpc := bpX9_leaks) (b := 9) dX9_leaks_101 rfl 0) (
    trivial))))))),
  gm_cn 105 (gm_m_push _) (gm_s_iconst dX9_leaks_104) (
    gm_cn 0 (gm_m_goto _) (gm_s_fall (bpc := bpX9_leaks) (b := 9) rfl 0) (
    trivial)),
  gm_cn 106 (gm_m_op2 _) (gm_s_ior dX9_leaks_105) (
    gm_cn 107 (gm_m_istore _) (gm_s_istore_n dX9_leaks_106 rfl (by decide)) (
    gm_cn 110 (gm_m_iinc _ _) (gm_s_iinc dX9_leaks_107 (by decide)) (
    gm_cn 0 (gm_m_goto _) (gm_s_goto (bpc := bpX9_leaks) (b := 2) dX9_leaks_110 rfl 0) (
    trivial)))),
  gm_cn 114 (gm_m_aload _) (gm_s_aload_n dX9_leaks_113 rfl) (
    gm_cn 117 (gm_m_getR _ _) (gf_getR_9_7 gw_222 dX9_leaks_114) (
    gm_cn 118 (gm_m_iload _) (gm_s_iload_n dX9_leaks_117 rfl) (
    gm_cn 119 (gm_m_iload _) (gm_s_iload_n dX9_leaks_118 rfl) (
    gm_cn 120 gm_m_iast (gm_s_iast dX9_leaks_119) (
    gm_cn 121 (gm_m_iload _) (gm_s_iload_n dX9_leaks_120 rfl) (
    gm_cn 0 gm_m_iret (gm_s_iret dX9_leaks_121 rfl 0) (
    trivial))))))), trivial⟩
theorem dX9_dry_0 : decode cX9_dry 0 = .ok (.aload_n 0, 1) := by decide +kernel
theorem dX9_dry_1 : decode cX9_dry 1 = .ok (.iload_n 1, 1) := by decide +kernel
theorem dX9_dry_2 : decode cX9_dry 2 = .ok (.invokevirtual 210, 3) := by decide +kernel
theorem dX9_dry_5 : decode cX9_dry 5 = .ok (.ifCond .ne 5, 3) := by decide +kernel
theorem dX9_dry_8 : decode cX9_dry 8 = .ok (.iconst (-1), 1) := by decide +kernel
theorem dX9_dry_9 : decode cX9_dry 9 = .ok (.ireturn, 1) := by decide +kernel
theorem dX9_dry_10 : decode cX9_dry 10 = .ok (.aload_n 0, 1) := by decide +kernel
theorem dX9_dry_11 : decode cX9_dry 11 = .ok (.invokevirtual 314, 3) := by decide +kernel
theorem dX9_dry_14 : decode cX9_dry 14 = .ok (.bipush (-5), 2) := by decide +kernel
theorem dX9_dry_16 : decode cX9_dry 16 = .ok (.istore_n 2, 1) := by decide +kernel
theorem dX9_dry_17 : decode cX9_dry 17 = .ok (.iconst 1, 1) := by decide +kernel
theorem dX9_dry_18 : decode cX9_dry 18 = .ok (.istore_n 3, 1) := by decide +kernel
theorem dX9_dry_19 : decode cX9_dry 19 = .ok (.iload_n 3, 1) := by decide +kernel
theorem dX9_dry_20 : decode cX9_dry 20 = .ok (.bipush 61, 2) := by decide +kernel
theorem dX9_dry_22 : decode cX9_dry 22 = .ok (.if_icmp .ge 37, 3) := by decide +kernel
theorem dX9_dry_25 : decode cX9_dry 25 = .ok (.iload_n 2, 1) := by decide +kernel
theorem dX9_dry_26 : decode cX9_dry 26 = .ok (.ifCond .ge 33, 3) := by decide +kernel
theorem dX9_dry_29 : decode cX9_dry 29 = .ok (.aload_n 0, 1) := by decide +kernel
theorem dX9_dry_30 : decode cX9_dry 30 = .ok (.iload_n 1, 1) := by decide +kernel
theorem dX9_dry_31 : decode cX9_dry 31 = .ok (.iconst 1, 1) := by decide +kernel
theorem dX9_dry_32 : decode cX9_dry 32 = .ok (.invokevirtual 317, 3) := by decide +kernel
theorem dX9_dry_35 : decode cX9_dry 35 = .ok (.istore 4, 2) := by decide +kernel
theorem dX9_dry_37 : decode cX9_dry 37 = .ok (.aload_n 0, 1) := by decide +kernel
theorem dX9_dry_38 : decode cX9_dry 38 = .ok (.getfield 26, 3) := by decide +kernel
theorem dX9_dry_41 : decode cX9_dry 41 = .ok (.iload_n 1, 1) := by decide +kernel
theorem dX9_dry_42 : decode cX9_dry 42 = .ok (.iaload, 1) := by decide +kernel
theorem dX9_dry_43 : decode cX9_dry 43 = .ok (.ifCond .ne 7, 3) := by decide +kernel
theorem dX9_dry_46 : decode cX9_dry 46 = .ok (.iload_n 3, 1) := by decide +kernel
theorem dX9_dry_47 : decode cX9_dry 47 = .ok (.goto 5, 3) := by decide +kernel
theorem dX9_dry_50 : decode cX9_dry 50 = .ok (.bipush (-5), 2) := by decide +kernel
theorem dX9_dry_52 : decode cX9_dry 52 = .ok (.istore_n 2, 1) := by decide +kernel
theorem dX9_dry_53 : decode cX9_dry 53 = .ok (.iinc 3 1, 3) := by decide +kernel
theorem dX9_dry_56 : decode cX9_dry 56 = .ok (.goto (-37), 3) := by decide +kernel
theorem dX9_dry_59 : decode cX9_dry 59 = .ok (.aload_n 0, 1) := by decide +kernel
theorem dX9_dry_60 : decode cX9_dry 60 = .ok (.invokevirtual 320, 3) := by decide +kernel
theorem dX9_dry_63 : decode cX9_dry 63 = .ok (.iload_n 2, 1) := by decide +kernel
theorem dX9_dry_64 : decode cX9_dry 64 = .ok (.ireturn, 1) := by decide +kernel
def pX9_dry : List (List gm_A) := [[(gm_aload 0), (gm_iload 1), (gm_vcall 9 101 2), (gm_ifne 1), (gm_push (.inl (-1))), gm_iret],
  [(gm_aload 0), (gm_vcall 9 141 1), (gm_push (.inl (-5))), (gm_istore 2), (gm_push (.inl 1)), (gm_istore 3), (gm_goto 2)],
  [(gm_iload 3), (gm_push (.inl 61)), (gm_cge 5), (gm_iload 2), (gm_ifge 5), (gm_aload 0), (gm_iload 1), (gm_push (.inl 1)), (gm_vcall 9 143 3), (gm_istore 4), (gm_aload 0), (gm_getR 9 905), (gm_iload 1), gm_iald, (gm_ifne 3), (gm_iload 3), (gm_goto 4)],
  [(gm_push (.inl (-5))), (gm_goto 4)],
  [(gm_istore 2), (gm_iinc 3 1), (gm_goto 2)],
  [(gm_aload 0), (gm_vcall 9 142 1), (gm_iload 2), gm_iret]]
def bpX9_dry : Nat → Nat := fun b => ([0, 10, 19, 50, 52, 59] : List Nat).getD b 0
set_option maxRecDepth 100000 in
theorem tX9_dry {D : va_G} {sz : Nat} {ad : Nat → Nat} {cA : Nat → ClassId} {xs : Int → Int} {Ln : Int} {l : Launch} : gm_SB D sz ad cA xs Ln l gm_mt cX9_dry "LongNoonModel" 5 false 1 bpX9_dry 0 pX9_dry :=
  ⟨gm_cn 1 (gm_m_aload _) (gm_s_aload_n dX9_dry_0 rfl) (
    gm_cn 2 (gm_m_iload _) (gm_s_iload_n dX9_dry_1 rfl) (
    gm_cn 5 (gm_m_vcall _ _ _) (gcl_X9_isHouse gw_281 dX9_dry_2) (
    gm_cn 8 (gm_m_ifne _) (gm_s_ifne (bpc := bpX9_dry) (b := 1) dX9_dry_5 rfl) (
    gm_cn 9 (gm_m_push _) (gm_s_iconst dX9_dry_8) (
    gm_cn 0 gm_m_iret (gm_s_iret dX9_dry_9 rfl 0) (
    trivial)))))),
  gm_cn 11 (gm_m_aload _) (gm_s_aload_n dX9_dry_10 rfl) (
    gm_cn 14 (gm_m_vcall _ _ _) (gcl_X9_keep gw_313 dX9_dry_11) (
    gm_cn 16 (gm_m_push _) (gm_s_bipush dX9_dry_14 rfl) (
    gm_cn 17 (gm_m_istore _) (gm_s_istore_n dX9_dry_16 rfl (by decide)) (
    gm_cn 18 (gm_m_push _) (gm_s_iconst dX9_dry_17) (
    gm_cn 19 (gm_m_istore _) (gm_s_istore_n dX9_dry_18 rfl (by decide)) (
    gm_cn 0 (gm_m_goto _) (gm_s_fall (bpc := bpX9_dry) (b := 2) rfl 0) (
    trivial))))))),
  gm_cn 20 (gm_m_iload _) (gm_s_iload_n dX9_dry_19 rfl) (
    gm_cn 22 (gm_m_push _) (gm_s_bipush dX9_dry_20 rfl) (
    gm_cn 25 (gm_m_cge _) (gm_s_cge (bpc := bpX9_dry) (b := 5) dX9_dry_22 rfl) (
    gm_cn 26 (gm_m_iload _) (gm_s_iload_n dX9_dry_25 rfl) (
    gm_cn 29 (gm_m_ifge _) (gm_s_ifge (bpc := bpX9_dry) (b := 5) dX9_dry_26 rfl) (
    gm_cn 30 (gm_m_aload _) (gm_s_aload_n dX9_dry_29 rfl) (
    gm_cn 31 (gm_m_iload _) (gm_s_iload_n dX9_dry_30 rfl) (
    gm_cn 32 (gm_m_push _) (gm_s_iconst dX9_dry_31) (
    gm_cn 35 (gm_m_vcall _ _ _) (gcl_X9_goOne gw_314 dX9_dry_32) (
    gm_cn 37 (gm_m_istore _) (gm_s_istore dX9_dry_35 (by decide)) (
    gm_cn 38 (gm_m_aload _) (gm_s_aload_n dX9_dry_37 rfl) (
    gm_cn 41 (gm_m_getR _ _) (gf_getR_9_5 gw_220 dX9_dry_38) (
    gm_cn 42 (gm_m_iload _) (gm_s_iload_n dX9_dry_41 rfl) (
    gm_cn 43 gm_m_iald (gm_s_iald dX9_dry_42) (
    gm_cn 46 (gm_m_ifne _) (gm_s_ifne (bpc := bpX9_dry) (b := 3) dX9_dry_43 rfl) (
    gm_cn 47 (gm_m_iload _) (gm_s_iload_n dX9_dry_46 rfl) (
    gm_cn 0 (gm_m_goto _) (gm_s_goto (bpc := bpX9_dry) (b := 4) dX9_dry_47 rfl 0) (
    trivial))))))))))))))))),
  gm_cn 52 (gm_m_push _) (gm_s_bipush dX9_dry_50 rfl) (
    gm_cn 0 (gm_m_goto _) (gm_s_fall (bpc := bpX9_dry) (b := 4) rfl 0) (
    trivial)),
  gm_cn 53 (gm_m_istore _) (gm_s_istore_n dX9_dry_52 rfl (by decide)) (
    gm_cn 56 (gm_m_iinc _ _) (gm_s_iinc dX9_dry_53 (by decide)) (
    gm_cn 0 (gm_m_goto _) (gm_s_goto (bpc := bpX9_dry) (b := 2) dX9_dry_56 rfl 0) (
    trivial))),
  gm_cn 60 (gm_m_aload _) (gm_s_aload_n dX9_dry_59 rfl) (
    gm_cn 63 (gm_m_vcall _ _ _) (gcl_X9_putBack gw_315 dX9_dry_60) (
    gm_cn 64 (gm_m_iload _) (gm_s_iload_n dX9_dry_63 rfl) (
    gm_cn 0 gm_m_iret (gm_s_iret dX9_dry_64 rfl 0) (
    trivial)))), trivial⟩
theorem dX9_divisor_0 : decode cX9_divisor 0 = .ok (.iload_n 1, 1) := by decide +kernel
theorem dX9_divisor_1 : decode cX9_divisor 1 = .ok (.istore_n 3, 1) := by decide +kernel
theorem dX9_divisor_2 : decode cX9_divisor 2 = .ok (.iload_n 2, 1) := by decide +kernel
theorem dX9_divisor_3 : decode cX9_divisor 3 = .ok (.istore 4, 2) := by decide +kernel
theorem dX9_divisor_5 : decode cX9_divisor 5 = .ok (.iload 4, 2) := by decide +kernel
theorem dX9_divisor_7 : decode cX9_divisor 7 = .ok (.ifCond .eq 19, 3) := by decide +kernel
theorem dX9_divisor_10 : decode cX9_divisor 10 = .ok (.iload_n 3, 1) := by decide +kernel
theorem dX9_divisor_11 : decode cX9_divisor 11 = .ok (.iload 4, 2) := by decide +kernel
theorem dX9_divisor_13 : decode cX9_divisor 13 = .ok (.irem, 1) := by decide +kernel
theorem dX9_divisor_14 : decode cX9_divisor 14 = .ok (.istore 5, 2) := by decide +kernel
theorem dX9_divisor_16 : decode cX9_divisor 16 = .ok (.iload 4, 2) := by decide +kernel
theorem dX9_divisor_18 : decode cX9_divisor 18 = .ok (.istore_n 3, 1) := by decide +kernel
theorem dX9_divisor_19 : decode cX9_divisor 19 = .ok (.iload 5, 2) := by decide +kernel
theorem dX9_divisor_21 : decode cX9_divisor 21 = .ok (.istore 4, 2) := by decide +kernel
theorem dX9_divisor_23 : decode cX9_divisor 23 = .ok (.goto (-18), 3) := by decide +kernel
theorem dX9_divisor_26 : decode cX9_divisor 26 = .ok (.iload_n 3, 1) := by decide +kernel
theorem dX9_divisor_27 : decode cX9_divisor 27 = .ok (.ireturn, 1) := by decide +kernel
def pX9_divisor : List (List gm_A) := [[(gm_iload 1), (gm_istore 3), (gm_iload 2), (gm_istore 4), (gm_goto 1)],
  [(gm_iload 4), (gm_ifeq 2), (gm_iload 3), (gm_iload 4), (gm_quo gm_rem), (gm_istore 5), (gm_iload 4), (gm_istore 3), (gm_iload 5), (gm_istore 4), (gm_goto 1)],
  [(gm_iload 3), gm_iret]]
def bpX9_divisor : Nat → Nat := fun b => ([0, 5, 26] : List Nat).getD b 0
set_option maxRecDepth 100000 in
theorem tX9_divisor {D : va_G} {sz : Nat} {ad : Nat → Nat} {cA : Nat → ClassId} {xs : Int → Int} {Ln : Int} {l : Launch} : gm_SB D sz ad cA xs Ln l gm_mt cX9_divisor "LongNoonModel" 6 false 1 bpX9_divisor 0 pX9_divisor :=
  ⟨gm_cn 1 (gm_m_iload _) (gm_s_iload_n dX9_divisor_0 rfl) (
    gm_cn 2 (gm_m_istore _) (gm_s_istore_n dX9_divisor_1 rfl (by decide)) (
    gm_cn 3 (gm_m_iload _) (gm_s_iload_n dX9_divisor_2 rfl) (
    gm_cn 5 (gm_m_istore _) (gm_s_istore dX9_divisor_3 (by decide)) (
    gm_cn 0 (gm_m_goto _) (gm_s_fall (bpc := bpX9_divisor) (b := 1) rfl 0) (
    trivial))))),
  gm_cn 7 (gm_m_iload _) (gm_s_iload dX9_divisor_5) (
    gm_cn 10 (gm_m_ifeq _) (gm_s_ifeq (bpc := bpX9_divisor) (b := 2) dX9_divisor_7 rfl) (
    gm_cn 11 (gm_m_iload _) (gm_s_iload_n dX9_divisor_10 rfl) (
    gm_cn 13 (gm_m_iload _) (gm_s_iload dX9_divisor_11) (
    gm_cn 14 (gm_m_quo _) (gm_s_irem dX9_divisor_13) (
    gm_cn 16 (gm_m_istore _) (gm_s_istore dX9_divisor_14 (by decide)) (
    gm_cn 18 (gm_m_iload _) (gm_s_iload dX9_divisor_16) (
    gm_cn 19 (gm_m_istore _) (gm_s_istore_n dX9_divisor_18 rfl (by decide)) (
    gm_cn 21 (gm_m_iload _) (gm_s_iload dX9_divisor_19) (
    gm_cn 23 (gm_m_istore _) (gm_s_istore dX9_divisor_21 (by decide)) (
    gm_cn 0 (gm_m_goto _) (gm_s_goto (bpc := bpX9_divisor) (b := 1) dX9_divisor_23 rfl 0) (
    trivial))))))))))),
  gm_cn 27 (gm_m_iload _) (gm_s_iload_n dX9_divisor_26 rfl) (
    gm_cn 0 gm_m_iret (gm_s_iret dX9_divisor_27 rfl 0) (
    trivial)), trivial⟩
theorem dX9_lowest_0 : decode cX9_lowest 0 = .ok (.aload_n 0, 1) := by decide +kernel
theorem dX9_lowest_1 : decode cX9_lowest 1 = .ok (.iload_n 1, 1) := by decide +kernel
theorem dX9_lowest_2 : decode cX9_lowest 2 = .ok (.iload_n 2, 1) := by decide +kernel
theorem dX9_lowest_3 : decode cX9_lowest 3 = .ok (.invokevirtual 332, 3) := by decide +kernel
theorem dX9_lowest_6 : decode cX9_lowest 6 = .ok (.istore 4, 2) := by decide +kernel
theorem dX9_lowest_8 : decode cX9_lowest 8 = .ok (.iload_n 3, 1) := by decide +kernel
theorem dX9_lowest_9 : decode cX9_lowest 9 = .ok (.ifCond .ne 11, 3) := by decide +kernel
theorem dX9_lowest_12 : decode cX9_lowest 12 = .ok (.iload_n 1, 1) := by decide +kernel
theorem dX9_lowest_13 : decode cX9_lowest 13 = .ok (.iload 4, 2) := by decide +kernel
theorem dX9_lowest_15 : decode cX9_lowest 15 = .ok (.idiv, 1) := by decide +kernel
theorem dX9_lowest_16 : decode cX9_lowest 16 = .ok (.i2l, 1) := by decide +kernel
theorem dX9_lowest_17 : decode cX9_lowest 17 = .ok (.goto 8, 3) := by decide +kernel
theorem dX9_lowest_20 : decode cX9_lowest 20 = .ok (.iload_n 2, 1) := by decide +kernel
theorem dX9_lowest_21 : decode cX9_lowest 21 = .ok (.iload 4, 2) := by decide +kernel
theorem dX9_lowest_23 : decode cX9_lowest 23 = .ok (.idiv, 1) := by decide +kernel
theorem dX9_lowest_24 : decode cX9_lowest 24 = .ok (.i2l, 1) := by decide +kernel
theorem dX9_lowest_25 : decode cX9_lowest 25 = .ok (.lreturn, 1) := by decide +kernel
def pX9_lowest : List (List gm_A) := [[(gm_aload 0), (gm_iload 1), (gm_iload 2), (gm_vcall 9 160 3), (gm_istore 4), (gm_iload 3), (gm_ifne 1), (gm_iload 1), (gm_iload 4), (gm_quo gm_div), gm_i2l, (gm_goto 2)],
  [(gm_iload 2), (gm_iload 4), (gm_quo gm_div), gm_i2l, (gm_goto 2)],
  [gm_lret]]
def bpX9_lowest : Nat → Nat := fun b => ([0, 20, 25] : List Nat).getD b 0
set_option maxRecDepth 100000 in
theorem tX9_lowest {D : va_G} {sz : Nat} {ad : Nat → Nat} {cA : Nat → ClassId} {xs : Int → Int} {Ln : Int} {l : Launch} : gm_SB D sz ad cA xs Ln l gm_mt cX9_lowest "LongNoonModel" 5 false 4 bpX9_lowest 0 pX9_lowest :=
  ⟨gm_cn 1 (gm_m_aload _) (gm_s_aload_n dX9_lowest_0 rfl) (
    gm_cn 2 (gm_m_iload _) (gm_s_iload_n dX9_lowest_1 rfl) (
    gm_cn 3 (gm_m_iload _) (gm_s_iload_n dX9_lowest_2 rfl) (
    gm_cn 6 (gm_m_vcall _ _ _) (gcl_X9_divisor gw_319 dX9_lowest_3) (
    gm_cn 8 (gm_m_istore _) (gm_s_istore dX9_lowest_6 (by decide)) (
    gm_cn 9 (gm_m_iload _) (gm_s_iload_n dX9_lowest_8 rfl) (
    gm_cn 12 (gm_m_ifne _) (gm_s_ifne (bpc := bpX9_lowest) (b := 1) dX9_lowest_9 rfl) (
    gm_cn 13 (gm_m_iload _) (gm_s_iload_n dX9_lowest_12 rfl) (
    gm_cn 15 (gm_m_iload _) (gm_s_iload dX9_lowest_13) (
    gm_cn 16 (gm_m_quo _) (gm_s_idiv dX9_lowest_15) (
    gm_cn 17 gm_m_i2l (gm_s_i2l dX9_lowest_16) (
    gm_cn 0 (gm_m_goto _) (gm_s_goto (bpc := bpX9_lowest) (b := 2) dX9_lowest_17 rfl 0) (
    trivial)))))))))))),
  gm_cn 21 (gm_m_iload _) (gm_s_iload_n dX9_lowest_20 rfl) (
    gm_cn 23 (gm_m_iload _) (gm_s_iload dX9_lowest_21) (
    gm_cn 24 (gm_m_quo _) (gm_s_idiv dX9_lowest_23) (
    gm_cn 25 gm_m_i2l (gm_s_i2l dX9_lowest_24) (
    gm_cn 0 (gm_m_goto _) (gm_s_fall (bpc := bpX9_lowest) (b := 2) rfl 0) (
    trivial))))),
  gm_cn 0 gm_m_lret (gm_s_lret dX9_lowest_25 rfl 0) (
    trivial), trivial⟩
theorem dX9_odds_0 : decode cX9_odds 0 = .ok (.aload_n 0, 1) := by decide +kernel
theorem dX9_odds_1 : decode cX9_odds 1 = .ok (.iload_n 1, 1) := by decide +kernel
theorem dX9_odds_2 : decode cX9_odds 2 = .ok (.invokevirtual 210, 3) := by decide +kernel
theorem dX9_odds_5 : decode cX9_odds 5 = .ok (.ifCond .eq 13, 3) := by decide +kernel
theorem dX9_odds_8 : decode cX9_odds 8 = .ok (.aload_n 0, 1) := by decide +kernel
theorem dX9_odds_9 : decode cX9_odds 9 = .ok (.iload_n 2, 1) := by decide +kernel
theorem dX9_odds_10 : decode cX9_odds 10 = .ok (.iconst 0, 1) := by decide +kernel
theorem dX9_odds_11 : decode cX9_odds 11 = .ok (.iconst 1, 1) := by decide +kernel
theorem dX9_odds_12 : decode cX9_odds 12 = .ok (.invokevirtual 206, 3) := by decide +kernel
theorem dX9_odds_15 : decode cX9_odds 15 = .ok (.ifCond .ne 7, 3) := by decide +kernel
theorem dX9_odds_18 : decode cX9_odds 18 = .ok (.ldc2_w 335, 3) := by decide +kernel
theorem dX9_odds_21 : decode cX9_odds 21 = .ok (.lreturn, 1) := by decide +kernel
theorem dX9_odds_22 : decode cX9_odds 22 = .ok (.iconst 0, 1) := by decide +kernel
theorem dX9_odds_23 : decode cX9_odds 23 = .ok (.istore_n 3, 1) := by decide +kernel
theorem dX9_odds_24 : decode cX9_odds 24 = .ok (.iconst 0, 1) := by decide +kernel
theorem dX9_odds_25 : decode cX9_odds 25 = .ok (.istore 4, 2) := by decide +kernel
theorem dX9_odds_27 : decode cX9_odds 27 = .ok (.iload 4, 2) := by decide +kernel
theorem dX9_odds_29 : decode cX9_odds 29 = .ok (.bipush 10, 2) := by decide +kernel
theorem dX9_odds_31 : decode cX9_odds 31 = .ok (.if_icmp .ge 24, 3) := by decide +kernel
theorem dX9_odds_34 : decode cX9_odds 34 = .ok (.aload_n 0, 1) := by decide +kernel
theorem dX9_odds_35 : decode cX9_odds 35 = .ok (.iload 4, 2) := by decide +kernel
theorem dX9_odds_37 : decode cX9_odds 37 = .ok (.putfield 96, 3) := by decide +kernel
theorem dX9_odds_40 : decode cX9_odds 40 = .ok (.iload_n 3, 1) := by decide +kernel
theorem dX9_odds_41 : decode cX9_odds 41 = .ok (.aload_n 0, 1) := by decide +kernel
theorem dX9_odds_42 : decode cX9_odds 42 = .ok (.iload_n 1, 1) := by decide +kernel
theorem dX9_odds_43 : decode cX9_odds 43 = .ok (.iconst 1, 1) := by decide +kernel
theorem dX9_odds_44 : decode cX9_odds 44 = .ok (.invokevirtual 323, 3) := by decide +kernel
theorem dX9_odds_47 : decode cX9_odds 47 = .ok (.iadd, 1) := by decide +kernel
theorem dX9_odds_48 : decode cX9_odds 48 = .ok (.istore_n 3, 1) := by decide +kernel
theorem dX9_odds_49 : decode cX9_odds 49 = .ok (.iinc 4 1, 3) := by decide +kernel
theorem dX9_odds_52 : decode cX9_odds 52 = .ok (.goto (-25), 3) := by decide +kernel
theorem dX9_odds_55 : decode cX9_odds 55 = .ok (.aload_n 0, 1) := by decide +kernel
theorem dX9_odds_56 : decode cX9_odds 56 = .ok (.iconst 0, 1) := by decide +kernel
theorem dX9_odds_57 : decode cX9_odds 57 = .ok (.putfield 96, 3) := by decide +kernel
theorem dX9_odds_60 : decode cX9_odds 60 = .ok (.aload_n 0, 1) := by decide +kernel
theorem dX9_odds_61 : decode cX9_odds 61 = .ok (.iload_n 3, 1) := by decide +kernel
theorem dX9_odds_62 : decode cX9_odds 62 = .ok (.bipush 10, 2) := by decide +kernel
theorem dX9_odds_64 : decode cX9_odds 64 = .ok (.iload_n 2, 1) := by decide +kernel
theorem dX9_odds_65 : decode cX9_odds 65 = .ok (.invokevirtual 337, 3) := by decide +kernel
theorem dX9_odds_68 : decode cX9_odds 68 = .ok (.lreturn, 1) := by decide +kernel
def pX9_odds : List (List gm_A) := [[(gm_aload 0), (gm_iload 1), (gm_vcall 9 101 2), (gm_ifeq 1), (gm_aload 0), (gm_iload 2), (gm_push (.inl 0)), (gm_push (.inl 1)), (gm_vcall 9 100 4), (gm_ifne 2), (gm_goto 1)],
  [(gm_push (.inr (.inl (-9223372036854775808)))), gm_lret],
  [(gm_push (.inl 0)), (gm_istore 3), (gm_push (.inl 0)), (gm_istore 4), (gm_goto 3)],
  [(gm_iload 4), (gm_push (.inl 10)), (gm_cge 4), (gm_aload 0), (gm_iload 4), (gm_putI 9 928), (gm_iload 3), (gm_aload 0), (gm_iload 1), (gm_push (.inl 1)), (gm_vcall 9 144 3), (gm_op2 gm_add), (gm_istore 3), (gm_iinc 4 1), (gm_goto 3)],
  [(gm_aload 0), (gm_push (.inl 0)), (gm_putI 9 928), (gm_aload 0), (gm_iload 3), (gm_push (.inl 10)), (gm_iload 2), (gm_vcall 9 161 4), gm_lret]]
def bpX9_odds : Nat → Nat := fun b => ([0, 18, 22, 27, 55] : List Nat).getD b 0
set_option maxRecDepth 100000 in
theorem tX9_odds {D : va_G} {sz : Nat} {ad : Nat → Nat} {cA : Nat → ClassId} {xs : Int → Int} {Ln : Int} {l : Launch} : gm_SB D sz ad cA xs Ln l gm_mt cX9_odds "LongNoonModel" 5 false 4 bpX9_odds 0 pX9_odds :=
  ⟨gm_cn 1 (gm_m_aload _) (gm_s_aload_n dX9_odds_0 rfl) (
    gm_cn 2 (gm_m_iload _) (gm_s_iload_n dX9_odds_1 rfl) (
    gm_cn 5 (gm_m_vcall _ _ _) (gcl_X9_isHouse gw_281 dX9_odds_2) (
    gm_cn 8 (gm_m_ifeq _) (gm_s_ifeq (bpc := bpX9_odds) (b := 1) dX9_odds_5 rfl) (
    gm_cn 9 (gm_m_aload _) (gm_s_aload_n dX9_odds_8 rfl) (
    gm_cn 10 (gm_m_iload _) (gm_s_iload_n dX9_odds_9 rfl) (
    gm_cn 11 (gm_m_push _) (gm_s_iconst dX9_odds_10) (
    gm_cn 12 (gm_m_push _) (gm_s_iconst dX9_odds_11) (
    gm_cn 15 (gm_m_vcall _ _ _) (gcl_X9_in gw_280 dX9_odds_12) (
    gm_cn 18 (gm_m_ifne _) (gm_s_ifne (bpc := bpX9_odds) (b := 2) dX9_odds_15 rfl) (
    gm_cn 0 (gm_m_goto _) (gm_s_fall (bpc := bpX9_odds) (b := 1) rfl 0) (
    trivial))))))))))),
  gm_cn 21 (gm_m_push _) (gm_s_ldc2 gw_320 (by decide +kernel) dX9_odds_18) (
    gm_cn 0 gm_m_lret (gm_s_lret dX9_odds_21 rfl 0) (
    trivial)),
  gm_cn 23 (gm_m_push _) (gm_s_iconst dX9_odds_22) (
    gm_cn 24 (gm_m_istore _) (gm_s_istore_n dX9_odds_23 rfl (by decide)) (
    gm_cn 25 (gm_m_push _) (gm_s_iconst dX9_odds_24) (
    gm_cn 27 (gm_m_istore _) (gm_s_istore dX9_odds_25 (by decide)) (
    gm_cn 0 (gm_m_goto _) (gm_s_fall (bpc := bpX9_odds) (b := 3) rfl 0) (
    trivial))))),
  gm_cn 29 (gm_m_iload _) (gm_s_iload dX9_odds_27) (
    gm_cn 31 (gm_m_push _) (gm_s_bipush dX9_odds_29 rfl) (
    gm_cn 34 (gm_m_cge _) (gm_s_cge (bpc := bpX9_odds) (b := 4) dX9_odds_31 rfl) (
    gm_cn 35 (gm_m_aload _) (gm_s_aload_n dX9_odds_34 rfl) (
    gm_cn 37 (gm_m_iload _) (gm_s_iload dX9_odds_35) (
    gm_cn 40 (gm_m_putI _ _) (gf_putI_9_28 gw_244 dX9_odds_37) (
    gm_cn 41 (gm_m_iload _) (gm_s_iload_n dX9_odds_40 rfl) (
    gm_cn 42 (gm_m_aload _) (gm_s_aload_n dX9_odds_41 rfl) (
    gm_cn 43 (gm_m_iload _) (gm_s_iload_n dX9_odds_42 rfl) (
    gm_cn 44 (gm_m_push _) (gm_s_iconst dX9_odds_43) (
    gm_cn 47 (gm_m_vcall _ _ _) (gcl_X9_amissDays gw_316 dX9_odds_44) (
    gm_cn 48 (gm_m_op2 _) (gm_s_iadd dX9_odds_47) (
    gm_cn 49 (gm_m_istore _) (gm_s_istore_n dX9_odds_48 rfl (by decide)) (
    gm_cn 52 (gm_m_iinc _ _) (gm_s_iinc dX9_odds_49 (by decide)) (
    gm_cn 0 (gm_m_goto _) (gm_s_goto (bpc := bpX9_odds) (b := 3) dX9_odds_52 rfl 0) (
    trivial))))))))))))))),
  gm_cn 56 (gm_m_aload _) (gm_s_aload_n dX9_odds_55 rfl) (
    gm_cn 57 (gm_m_push _) (gm_s_iconst dX9_odds_56) (
    gm_cn 60 (gm_m_putI _ _) (gf_putI_9_28 gw_244 dX9_odds_57) (
    gm_cn 61 (gm_m_aload _) (gm_s_aload_n dX9_odds_60 rfl) (
    gm_cn 62 (gm_m_iload _) (gm_s_iload_n dX9_odds_61 rfl) (
    gm_cn 64 (gm_m_push _) (gm_s_bipush dX9_odds_62 rfl) (
    gm_cn 65 (gm_m_iload _) (gm_s_iload_n dX9_odds_64 rfl) (
    gm_cn 68 (gm_m_vcall _ _ _) (gcl_X9_lowest gw_321 dX9_odds_65) (
    gm_cn 0 gm_m_lret (gm_s_lret dX9_odds_68 rfl 0) (
    trivial))))))))), trivial⟩
theorem dX9_mean_0 : decode cX9_mean 0 = .ok (.aload_n 0, 1) := by decide +kernel
theorem dX9_mean_1 : decode cX9_mean 1 = .ok (.iload_n 1, 1) := by decide +kernel
theorem dX9_mean_2 : decode cX9_mean 2 = .ok (.iconst 1, 1) := by decide +kernel
theorem dX9_mean_3 : decode cX9_mean 3 = .ok (.bipush 60, 2) := by decide +kernel
theorem dX9_mean_5 : decode cX9_mean 5 = .ok (.invokevirtual 206, 3) := by decide +kernel
theorem dX9_mean_8 : decode cX9_mean 8 = .ok (.ifCond .eq 20, 3) := by decide +kernel
theorem dX9_mean_11 : decode cX9_mean 11 = .ok (.aload_n 0, 1) := by decide +kernel
theorem dX9_mean_12 : decode cX9_mean 12 = .ok (.iload_n 2, 1) := by decide +kernel
theorem dX9_mean_13 : decode cX9_mean 13 = .ok (.iconst 0, 1) := by decide +kernel
theorem dX9_mean_14 : decode cX9_mean 14 = .ok (.iconst 1, 1) := by decide +kernel
theorem dX9_mean_15 : decode cX9_mean 15 = .ok (.invokevirtual 206, 3) := by decide +kernel
theorem dX9_mean_18 : decode cX9_mean 18 = .ok (.ifCond .eq 10, 3) := by decide +kernel
theorem dX9_mean_21 : decode cX9_mean 21 = .ok (.aload_n 0, 1) := by decide +kernel
theorem dX9_mean_22 : decode cX9_mean 22 = .ok (.getfield 7, 3) := by decide +kernel
theorem dX9_mean_25 : decode cX9_mean 25 = .ok (.ifCond .ne 7, 3) := by decide +kernel
theorem dX9_mean_28 : decode cX9_mean 28 = .ok (.ldc2_w 335, 3) := by decide +kernel
theorem dX9_mean_31 : decode cX9_mean 31 = .ok (.lreturn, 1) := by decide +kernel
theorem dX9_mean_32 : decode cX9_mean 32 = .ok (.aload_n 0, 1) := by decide +kernel
theorem dX9_mean_33 : decode cX9_mean 33 = .ok (.invokevirtual 314, 3) := by decide +kernel
theorem dX9_mean_36 : decode cX9_mean 36 = .ok (.iconst 0, 1) := by decide +kernel
theorem dX9_mean_37 : decode cX9_mean 37 = .ok (.istore_n 3, 1) := by decide +kernel
theorem dX9_mean_38 : decode cX9_mean 38 = .ok (.iconst 0, 1) := by decide +kernel
theorem dX9_mean_39 : decode cX9_mean 39 = .ok (.istore 4, 2) := by decide +kernel
theorem dX9_mean_41 : decode cX9_mean 41 = .ok (.iload 4, 2) := by decide +kernel
theorem dX9_mean_43 : decode cX9_mean 43 = .ok (.iload_n 1, 1) := by decide +kernel
theorem dX9_mean_44 : decode cX9_mean 44 = .ok (.if_icmp .ge 43, 3) := by decide +kernel
theorem dX9_mean_47 : decode cX9_mean 47 = .ok (.aload_n 0, 1) := by decide +kernel
theorem dX9_mean_48 : decode cX9_mean 48 = .ok (.invokevirtual 311, 3) := by decide +kernel
theorem dX9_mean_51 : decode cX9_mean 51 = .ok (.istore 5, 2) := by decide +kernel
theorem dX9_mean_53 : decode cX9_mean 53 = .ok (.iconst 0, 1) := by decide +kernel
theorem dX9_mean_54 : decode cX9_mean 54 = .ok (.istore 6, 2) := by decide +kernel
theorem dX9_mean_56 : decode cX9_mean 56 = .ok (.iload 6, 2) := by decide +kernel
theorem dX9_mean_58 : decode cX9_mean 58 = .ok (.aload_n 0, 1) := by decide +kernel
theorem dX9_mean_59 : decode cX9_mean 59 = .ok (.getfield 7, 3) := by decide +kernel
theorem dX9_mean_62 : decode cX9_mean 62 = .ok (.if_icmp .ge 19, 3) := by decide +kernel
theorem dX9_mean_65 : decode cX9_mean 65 = .ok (.iload_n 3, 1) := by decide +kernel
theorem dX9_mean_66 : decode cX9_mean 66 = .ok (.aload_n 0, 1) := by decide +kernel
theorem dX9_mean_67 : decode cX9_mean 67 = .ok (.getfield 23, 3) := by decide +kernel
theorem dX9_mean_70 : decode cX9_mean 70 = .ok (.iload 6, 2) := by decide +kernel
theorem dX9_mean_72 : decode cX9_mean 72 = .ok (.iaload, 1) := by decide +kernel
theorem dX9_mean_73 : decode cX9_mean 73 = .ok (.iadd, 1) := by decide +kernel
theorem dX9_mean_74 : decode cX9_mean 74 = .ok (.istore_n 3, 1) := by decide +kernel
theorem dX9_mean_75 : decode cX9_mean 75 = .ok (.iinc 6 1, 3) := by decide +kernel
theorem dX9_mean_78 : decode cX9_mean 78 = .ok (.goto (-22), 3) := by decide +kernel
theorem dX9_mean_81 : decode cX9_mean 81 = .ok (.iinc 4 1, 3) := by decide +kernel
theorem dX9_mean_84 : decode cX9_mean 84 = .ok (.goto (-43), 3) := by decide +kernel
theorem dX9_mean_87 : decode cX9_mean 87 = .ok (.aload_n 0, 1) := by decide +kernel
theorem dX9_mean_88 : decode cX9_mean 88 = .ok (.invokevirtual 320, 3) := by decide +kernel
theorem dX9_mean_91 : decode cX9_mean 91 = .ok (.aload_n 0, 1) := by decide +kernel
theorem dX9_mean_92 : decode cX9_mean 92 = .ok (.iload_n 3, 1) := by decide +kernel
theorem dX9_mean_93 : decode cX9_mean 93 = .ok (.iload_n 1, 1) := by decide +kernel
theorem dX9_mean_94 : decode cX9_mean 94 = .ok (.aload_n 0, 1) := by decide +kernel
theorem dX9_mean_95 : decode cX9_mean 95 = .ok (.getfield 7, 3) := by decide +kernel
theorem dX9_mean_98 : decode cX9_mean 98 = .ok (.imul, 1) := by decide +kernel
theorem dX9_mean_99 : decode cX9_mean 99 = .ok (.iload_n 2, 1) := by decide +kernel
theorem dX9_mean_100 : decode cX9_mean 100 = .ok (.invokevirtual 337, 3) := by decide +kernel
theorem dX9_mean_103 : decode cX9_mean 103 = .ok (.lreturn, 1) := by decide +kernel
def pX9_mean : List (List gm_A) := [[(gm_aload 0), (gm_iload 1), (gm_push (.inl 1)), (gm_push (.inl 60)), (gm_vcall 9 100 4), (gm_ifeq 1), (gm_aload 0), (gm_iload 2), (gm_push (.inl 0)), (gm_push (.inl 1)), (gm_vcall 9 100 4), (gm_ifeq 1), (gm_aload 0), (gm_getI 9 900), (gm_ifne 2), (gm_goto 1)],
  [(gm_push (.inr (.inl (-9223372036854775808)))), gm_lret],
  [(gm_aload 0), (gm_vcall 9 141 1), (gm_push (.inl 0)), (gm_istore 3), (gm_push (.inl 0)), (gm_istore 4), (gm_goto 3)],
  [(gm_iload 4), (gm_iload 1), (gm_cge 6), (gm_aload 0), (gm_vcall 9 139 1), (gm_istore 5), (gm_push (.inl 0)), (gm_istore 6), (gm_goto 4)],
  [(gm_iload 6), (gm_aload 0), (gm_getI 9 900), (gm_cge 5), (gm_iload 3), (gm_aload 0), (gm_getR 9 904), (gm_iload 6), gm_iald, (gm_op2 gm_add), (gm_istore 3), (gm_iinc 6 1), (gm_goto 4)],
  [(gm_iinc 4 1), (gm_goto 3)],
  [(gm_aload 0), (gm_vcall 9 142 1), (gm_aload 0), (gm_iload 3), (gm_iload 1), (gm_aload 0), (gm_getI 9 900), (gm_op2 gm_mul), (gm_iload 2), (gm_vcall 9 161 4), gm_lret]]
def bpX9_mean : Nat → Nat := fun b => ([0, 28, 32, 41, 56, 81, 87] : List Nat).getD b 0
set_option maxRecDepth 100000 in
theorem tX9_mean {D : va_G} {sz : Nat} {ad : Nat → Nat} {cA : Nat → ClassId} {xs : Int → Int} {Ln : Int} {l : Launch} : gm_SB D sz ad cA xs Ln l gm_mt cX9_mean "LongNoonModel" 7 false 4 bpX9_mean 0 pX9_mean :=
  ⟨gm_cn 1 (gm_m_aload _) (gm_s_aload_n dX9_mean_0 rfl) (
    gm_cn 2 (gm_m_iload _) (gm_s_iload_n dX9_mean_1 rfl) (
    gm_cn 3 (gm_m_push _) (gm_s_iconst dX9_mean_2) (
    gm_cn 5 (gm_m_push _) (gm_s_bipush dX9_mean_3 rfl) (
    gm_cn 8 (gm_m_vcall _ _ _) (gcl_X9_in gw_280 dX9_mean_5) (
    gm_cn 11 (gm_m_ifeq _) (gm_s_ifeq (bpc := bpX9_mean) (b := 1) dX9_mean_8 rfl) (
    gm_cn 12 (gm_m_aload _) (gm_s_aload_n dX9_mean_11 rfl) (
    gm_cn 13 (gm_m_iload _) (gm_s_iload_n dX9_mean_12 rfl) (
    gm_cn 14 (gm_m_push _) (gm_s_iconst dX9_mean_13) (
    gm_cn 15 (gm_m_push _) (gm_s_iconst dX9_mean_14) (
    gm_cn 18 (gm_m_vcall _ _ _) (gcl_X9_in gw_280 dX9_mean_15) (
    gm_cn 21 (gm_m_ifeq _) (gm_s_ifeq (bpc := bpX9_mean) (b := 1) dX9_mean_18 rfl) (
    gm_cn 22 (gm_m_aload _) (gm_s_aload_n dX9_mean_21 rfl) (
    gm_cn 25 (gm_m_getI _ _) (gf_getI_9_0 gw_215 dX9_mean_22) (
    gm_cn 28 (gm_m_ifne _) (gm_s_ifne (bpc := bpX9_mean) (b := 2) dX9_mean_25 rfl) (
    gm_cn 0 (gm_m_goto _) (gm_s_fall (bpc := bpX9_mean) (b := 1) rfl 0) (
    trivial)))))))))))))))),
  gm_cn 31 (gm_m_push _) (gm_s_ldc2 gw_320 (by decide +kernel) dX9_mean_28) (
    gm_cn 0 gm_m_lret (gm_s_lret dX9_mean_31 rfl 0) (
    trivial)),
  gm_cn 33 (gm_m_aload _) (gm_s_aload_n dX9_mean_32 rfl) (
    gm_cn 36 (gm_m_vcall _ _ _) (gcl_X9_keep gw_313 dX9_mean_33) (
    gm_cn 37 (gm_m_push _) (gm_s_iconst dX9_mean_36) (
    gm_cn 38 (gm_m_istore _) (gm_s_istore_n dX9_mean_37 rfl (by decide)) (
    gm_cn 39 (gm_m_push _) (gm_s_iconst dX9_mean_38) (
    gm_cn 41 (gm_m_istore _) (gm_s_istore dX9_mean_39 (by decide)) (
    gm_cn 0 (gm_m_goto _) (gm_s_fall (bpc := bpX9_mean) (b := 3) rfl 0) (
    trivial))))))),
  gm_cn 43 (gm_m_iload _) (gm_s_iload dX9_mean_41) (
    gm_cn 44 (gm_m_iload _) (gm_s_iload_n dX9_mean_43 rfl) (
    gm_cn 47 (gm_m_cge _) (gm_s_cge (bpc := bpX9_mean) (b := 6) dX9_mean_44 rfl) (
    gm_cn 48 (gm_m_aload _) (gm_s_aload_n dX9_mean_47 rfl) (
    gm_cn 51 (gm_m_vcall _ _ _) (gcl_X9_goDay gw_312 dX9_mean_48) (
    gm_cn 53 (gm_m_istore _) (gm_s_istore dX9_mean_51 (by decide)) (
    gm_cn 54 (gm_m_push _) (gm_s_iconst dX9_mean_53) (
    gm_cn 56 (gm_m_istore _) (gm_s_istore dX9_mean_54 (by decide)) (
    gm_cn 0 (gm_m_goto _) (gm_s_fall (bpc := bpX9_mean) (b := 4) rfl 0) (
    trivial))))))))),
  gm_cn 58 (gm_m_iload _) (gm_s_iload dX9_mean_56) (
    gm_cn 59 (gm_m_aload _) (gm_s_aload_n dX9_mean_58 rfl) (
    gm_cn 62 (gm_m_getI _ _) (gf_getI_9_0 gw_215 dX9_mean_59) (
    gm_cn 65 (gm_m_cge _) (gm_s_cge (bpc := bpX9_mean) (b := 5) dX9_mean_62 rfl) (
    gm_cn 66 (gm_m_iload _) (gm_s_iload_n dX9_mean_65 rfl) (
    gm_cn 67 (gm_m_aload _) (gm_s_aload_n dX9_mean_66 rfl) (
    gm_cn 70 (gm_m_getR _ _) (gf_getR_9_4 gw_219 dX9_mean_67) (
    gm_cn 72 (gm_m_iload _) (gm_s_iload dX9_mean_70) (
    gm_cn 73 gm_m_iald (gm_s_iald dX9_mean_72) (
    gm_cn 74 (gm_m_op2 _) (gm_s_iadd dX9_mean_73) (
    gm_cn 75 (gm_m_istore _) (gm_s_istore_n dX9_mean_74 rfl (by decide)) (
    gm_cn 78 (gm_m_iinc _ _) (gm_s_iinc dX9_mean_75 (by decide)) (
    gm_cn 0 (gm_m_goto _) (gm_s_goto (bpc := bpX9_mean) (b := 4) dX9_mean_78 rfl 0) (
    trivial))))))))))))),
  gm_cn 84 (gm_m_iinc _ _) (gm_s_iinc dX9_mean_81 (by decide)) (
    gm_cn 0 (gm_m_goto _) (gm_s_goto (bpc := bpX9_mean) (b := 3) dX9_mean_84 rfl 0) (
    trivial)),
  gm_cn 88 (gm_m_aload _) (gm_s_aload_n dX9_mean_87 rfl) (
    gm_cn 91 (gm_m_vcall _ _ _) (gcl_X9_putBack gw_315 dX9_mean_88) (
    gm_cn 92 (gm_m_aload _) (gm_s_aload_n dX9_mean_91 rfl) (
    gm_cn 93 (gm_m_iload _) (gm_s_iload_n dX9_mean_92 rfl) (
    gm_cn 94 (gm_m_iload _) (gm_s_iload_n dX9_mean_93 rfl) (
    gm_cn 95 (gm_m_aload _) (gm_s_aload_n dX9_mean_94 rfl) (
    gm_cn 98 (gm_m_getI _ _) (gf_getI_9_0 gw_215 dX9_mean_95) (
    gm_cn 99 (gm_m_op2 _) (gm_s_imul dX9_mean_98) (
    gm_cn 100 (gm_m_iload _) (gm_s_iload_n dX9_mean_99 rfl) (
    gm_cn 103 (gm_m_vcall _ _ _) (gcl_X9_lowest gw_321 dX9_mean_100) (
    gm_cn 0 gm_m_lret (gm_s_lret dX9_mean_103 rfl 0) (
    trivial))))))))))), trivial⟩
theorem dX9_book_0 : decode cX9_book 0 = .ok (.iload_n 1, 1) := by decide +kernel
theorem dX9_book_1 : decode cX9_book 1 = .ok (.iconst (-1), 1) := by decide +kernel
theorem dX9_book_2 : decode cX9_book 2 = .ok (.if_icmp .ne 10, 3) := by decide +kernel
theorem dX9_book_5 : decode cX9_book 5 = .ok (.aload_n 0, 1) := by decide +kernel
theorem dX9_book_6 : decode cX9_book 6 = .ok (.iconst 0, 1) := by decide +kernel
theorem dX9_book_7 : decode cX9_book 7 = .ok (.putfield 129, 3) := by decide +kernel
theorem dX9_book_10 : decode cX9_book 10 = .ok (.iconst 0, 1) := by decide +kernel
theorem dX9_book_11 : decode cX9_book 11 = .ok (.ireturn, 1) := by decide +kernel
theorem dX9_book_12 : decode cX9_book 12 = .ok (.aload_n 0, 1) := by decide +kernel
theorem dX9_book_13 : decode cX9_book 13 = .ok (.iload_n 1, 1) := by decide +kernel
theorem dX9_book_14 : decode cX9_book 14 = .ok (.invokevirtual 210, 3) := by decide +kernel
theorem dX9_book_17 : decode cX9_book 17 = .ok (.ifCond .ne 5, 3) := by decide +kernel
theorem dX9_book_20 : decode cX9_book 20 = .ok (.iconst (-1), 1) := by decide +kernel
theorem dX9_book_21 : decode cX9_book 21 = .ok (.ireturn, 1) := by decide +kernel
theorem dX9_book_22 : decode cX9_book 22 = .ok (.aload_n 0, 1) := by decide +kernel
theorem dX9_book_23 : decode cX9_book 23 = .ok (.getfield 129, 3) := by decide +kernel
theorem dX9_book_26 : decode cX9_book 26 = .ok (.bipush 12, 2) := by decide +kernel
theorem dX9_book_28 : decode cX9_book 28 = .ok (.if_icmp .ne 6, 3) := by decide +kernel
theorem dX9_book_31 : decode cX9_book 31 = .ok (.bipush (-4), 2) := by decide +kernel
theorem dX9_book_33 : decode cX9_book 33 = .ok (.ireturn, 1) := by decide +kernel
theorem dX9_book_34 : decode cX9_book 34 = .ok (.aload_n 0, 1) := by decide +kernel
theorem dX9_book_35 : decode cX9_book 35 = .ok (.getfield 132, 3) := by decide +kernel
theorem dX9_book_38 : decode cX9_book 38 = .ok (.aload_n 0, 1) := by decide +kernel
theorem dX9_book_39 : decode cX9_book 39 = .ok (.getfield 129, 3) := by decide +kernel
theorem dX9_book_42 : decode cX9_book 42 = .ok (.iload_n 1, 1) := by decide +kernel
theorem dX9_book_43 : decode cX9_book 43 = .ok (.iastore, 1) := by decide +kernel
theorem dX9_book_44 : decode cX9_book 44 = .ok (.aload_n 0, 1) := by decide +kernel
theorem dX9_book_45 : decode cX9_book 45 = .ok (.dup, 1) := by decide +kernel
theorem dX9_book_46 : decode cX9_book 46 = .ok (.getfield 129, 3) := by decide +kernel
theorem dX9_book_49 : decode cX9_book 49 = .ok (.iconst 1, 1) := by decide +kernel
theorem dX9_book_50 : decode cX9_book 50 = .ok (.iadd, 1) := by decide +kernel
theorem dX9_book_51 : decode cX9_book 51 = .ok (.putfield 129, 3) := by decide +kernel
theorem dX9_book_54 : decode cX9_book 54 = .ok (.aload_n 0, 1) := by decide +kernel
theorem dX9_book_55 : decode cX9_book 55 = .ok (.getfield 129, 3) := by decide +kernel
theorem dX9_book_58 : decode cX9_book 58 = .ok (.ireturn, 1) := by decide +kernel
def pX9_book : List (List gm_A) := [[(gm_iload 1), (gm_push (.inl (-1))), (gm_cne 1), (gm_aload 0), (gm_push (.inl 0)), (gm_putI 9 939), (gm_push (.inl 0)), gm_iret],
  [(gm_aload 0), (gm_iload 1), (gm_vcall 9 101 2), (gm_ifne 2), (gm_push (.inl (-1))), gm_iret],
  [(gm_aload 0), (gm_getI 9 939), (gm_push (.inl 12)), (gm_cne 3), (gm_push (.inl (-4))), gm_iret],
  [(gm_aload 0), (gm_getR 9 940), (gm_aload 0), (gm_getI 9 939), (gm_iload 1), gm_iast, (gm_aload 0), gm_dup, (gm_getI 9 939), (gm_push (.inl 1)), (gm_op2 gm_add), (gm_putI 9 939), (gm_aload 0), (gm_getI 9 939), gm_iret]]
def bpX9_book : Nat → Nat := fun b => ([0, 12, 22, 34] : List Nat).getD b 0
set_option maxRecDepth 100000 in
theorem tX9_book {D : va_G} {sz : Nat} {ad : Nat → Nat} {cA : Nat → ClassId} {xs : Int → Int} {Ln : Int} {l : Launch} : gm_SB D sz ad cA xs Ln l gm_mt cX9_book "LongNoonModel" 2 false 1 bpX9_book 0 pX9_book :=
  ⟨gm_cn 1 (gm_m_iload _) (gm_s_iload_n dX9_book_0 rfl) (
    gm_cn 2 (gm_m_push _) (gm_s_iconst dX9_book_1) (
    gm_cn 5 (gm_m_cne _) (gm_s_cne (bpc := bpX9_book) (b := 1) dX9_book_2 rfl) (
    gm_cn 6 (gm_m_aload _) (gm_s_aload_n dX9_book_5 rfl) (
    gm_cn 7 (gm_m_push _) (gm_s_iconst dX9_book_6) (
    gm_cn 10 (gm_m_putI _ _) (gf_putI_9_39 gw_255 dX9_book_7) (
    gm_cn 11 (gm_m_push _) (gm_s_iconst dX9_book_10) (
    gm_cn 0 gm_m_iret (gm_s_iret dX9_book_11 rfl 0) (
    trivial)))))))),
  gm_cn 13 (gm_m_aload _) (gm_s_aload_n dX9_book_12 rfl) (
    gm_cn 14 (gm_m_iload _) (gm_s_iload_n dX9_book_13 rfl) (
    gm_cn 17 (gm_m_vcall _ _ _) (gcl_X9_isHouse gw_281 dX9_book_14) (
    gm_cn 20 (gm_m_ifne _) (gm_s_ifne (bpc := bpX9_book) (b := 2) dX9_book_17 rfl) (
    gm_cn 21 (gm_m_push _) (gm_s_iconst dX9_book_20) (
    gm_cn 0 gm_m_iret (gm_s_iret dX9_book_21 rfl 0) (
    trivial)))))),
  gm_cn 23 (gm_m_aload _) (gm_s_aload_n dX9_book_22 rfl) (
    gm_cn 26 (gm_m_getI _ _) (gf_getI_9_39 gw_255 dX9_book_23) (
    gm_cn 28 (gm_m_push _) (gm_s_bipush dX9_book_26 rfl) (
    gm_cn 31 (gm_m_cne _) (gm_s_cne (bpc := bpX9_book) (b := 3) dX9_book_28 rfl) (
    gm_cn 33 (gm_m_push _) (gm_s_bipush dX9_book_31 rfl) (
    gm_cn 0 gm_m_iret (gm_s_iret dX9_book_33 rfl 0) (
    trivial)))))),
  gm_cn 35 (gm_m_aload _) (gm_s_aload_n dX9_book_34 rfl) (
    gm_cn 38 (gm_m_getR _ _) (gf_getR_9_40 gw_256 dX9_book_35) (
    gm_cn 39 (gm_m_aload _) (gm_s_aload_n dX9_book_38 rfl) (
    gm_cn 42 (gm_m_getI _ _) (gf_getI_9_39 gw_255 dX9_book_39) (
    gm_cn 43 (gm_m_iload _) (gm_s_iload_n dX9_book_42 rfl) (
    gm_cn 44 gm_m_iast (gm_s_iast dX9_book_43) (
    gm_cn 45 (gm_m_aload _) (gm_s_aload_n dX9_book_44 rfl) (
    gm_cn 46 gm_m_dup (gm_s_dup dX9_book_45) (
    gm_cn 49 (gm_m_getI _ _) (gf_getI_9_39 gw_255 dX9_book_46) (
    gm_cn 50 (gm_m_push _) (gm_s_iconst dX9_book_49) (
    gm_cn 51 (gm_m_op2 _) (gm_s_iadd dX9_book_50) (
    gm_cn 54 (gm_m_putI _ _) (gf_putI_9_39 gw_255 dX9_book_51) (
    gm_cn 55 (gm_m_aload _) (gm_s_aload_n dX9_book_54 rfl) (
    gm_cn 58 (gm_m_getI _ _) (gf_getI_9_39 gw_255 dX9_book_55) (
    gm_cn 0 gm_m_iret (gm_s_iret dX9_book_58 rfl 0) (
    trivial))))))))))))))), trivial⟩
theorem dX9_looked_0 : decode cX9_looked 0 = .ok (.aload_n 0, 1) := by decide +kernel
theorem dX9_looked_1 : decode cX9_looked 1 = .ok (.invokevirtual 314, 3) := by decide +kernel
theorem dX9_looked_4 : decode cX9_looked 4 = .ok (.bipush (-5), 2) := by decide +kernel
theorem dX9_looked_6 : decode cX9_looked 6 = .ok (.istore_n 1, 1) := by decide +kernel
theorem dX9_looked_7 : decode cX9_looked 7 = .ok (.iconst 0, 1) := by decide +kernel
theorem dX9_looked_8 : decode cX9_looked 8 = .ok (.istore_n 2, 1) := by decide +kernel
theorem dX9_looked_9 : decode cX9_looked 9 = .ok (.iload_n 2, 1) := by decide +kernel
theorem dX9_looked_10 : decode cX9_looked 10 = .ok (.aload_n 0, 1) := by decide +kernel
theorem dX9_looked_11 : decode cX9_looked 11 = .ok (.getfield 129, 3) := by decide +kernel
theorem dX9_looked_14 : decode cX9_looked 14 = .ok (.if_icmp .ge 37, 3) := by decide +kernel
theorem dX9_looked_17 : decode cX9_looked 17 = .ok (.iload_n 1, 1) := by decide +kernel
theorem dX9_looked_18 : decode cX9_looked 18 = .ok (.ifCond .ge 33, 3) := by decide +kernel
theorem dX9_looked_21 : decode cX9_looked 21 = .ok (.aload_n 0, 1) := by decide +kernel
theorem dX9_looked_22 : decode cX9_looked 22 = .ok (.invokevirtual 311, 3) := by decide +kernel
theorem dX9_looked_25 : decode cX9_looked 25 = .ok (.aload_n 0, 1) := by decide +kernel
theorem dX9_looked_26 : decode cX9_looked 26 = .ok (.getfield 132, 3) := by decide +kernel
theorem dX9_looked_29 : decode cX9_looked 29 = .ok (.iload_n 2, 1) := by decide +kernel
theorem dX9_looked_30 : decode cX9_looked 30 = .ok (.iaload, 1) := by decide +kernel
theorem dX9_looked_31 : decode cX9_looked 31 = .ok (.ishr, 1) := by decide +kernel
theorem dX9_looked_32 : decode cX9_looked 32 = .ok (.iconst 1, 1) := by decide +kernel
theorem dX9_looked_33 : decode cX9_looked 33 = .ok (.iand, 1) := by decide +kernel
theorem dX9_looked_34 : decode cX9_looked 34 = .ok (.iconst 1, 1) := by decide +kernel
theorem dX9_looked_35 : decode cX9_looked 35 = .ok (.if_icmp .ne 8, 3) := by decide +kernel
theorem dX9_looked_38 : decode cX9_looked 38 = .ok (.bipush (-5), 2) := by decide +kernel
theorem dX9_looked_40 : decode cX9_looked 40 = .ok (.goto 4, 3) := by decide +kernel
theorem dX9_looked_43 : decode cX9_looked 43 = .ok (.iload_n 2, 1) := by decide +kernel
theorem dX9_looked_44 : decode cX9_looked 44 = .ok (.istore_n 1, 1) := by decide +kernel
theorem dX9_looked_45 : decode cX9_looked 45 = .ok (.iinc 2 1, 3) := by decide +kernel
theorem dX9_looked_48 : decode cX9_looked 48 = .ok (.goto (-39), 3) := by decide +kernel
theorem dX9_looked_51 : decode cX9_looked 51 = .ok (.aload_n 0, 1) := by decide +kernel
theorem dX9_looked_52 : decode cX9_looked 52 = .ok (.invokevirtual 320, 3) := by decide +kernel
theorem dX9_looked_55 : decode cX9_looked 55 = .ok (.iload_n 1, 1) := by decide +kernel
theorem dX9_looked_56 : decode cX9_looked 56 = .ok (.ireturn, 1) := by decide +kernel
def pX9_looked : List (List gm_A) := [[(gm_aload 0), (gm_vcall 9 141 1), (gm_push (.inl (-5))), (gm_istore 1), (gm_push (.inl 0)), (gm_istore 2), (gm_goto 1)],
  [(gm_iload 2), (gm_aload 0), (gm_getI 9 939), (gm_cge 4), (gm_iload 1), (gm_ifge 4), (gm_aload 0), (gm_vcall 9 139 1), (gm_aload 0), (gm_getR 9 940), (gm_iload 2), gm_iald, (gm_op2 gm_shr), (gm_push (.inl 1)), (gm_op2 gm_and), (gm_push (.inl 1)), (gm_cne 2), (gm_push (.inl (-5))), (gm_goto 3)],
  [(gm_iload 2), (gm_goto 3)],
  [(gm_istore 1), (gm_iinc 2 1), (gm_goto 1)],
  [(gm_aload 0), (gm_vcall 9 142 1), (gm_iload 1), gm_iret]]
def bpX9_looked : Nat → Nat := fun b => ([0, 9, 43, 44, 51] : List Nat).getD b 0
set_option maxRecDepth 100000 in
theorem tX9_looked {D : va_G} {sz : Nat} {ad : Nat → Nat} {cA : Nat → ClassId} {xs : Int → Int} {Ln : Int} {l : Launch} : gm_SB D sz ad cA xs Ln l gm_mt cX9_looked "LongNoonModel" 3 false 1 bpX9_looked 0 pX9_looked :=
  ⟨gm_cn 1 (gm_m_aload _) (gm_s_aload_n dX9_looked_0 rfl) (
    gm_cn 4 (gm_m_vcall _ _ _) (gcl_X9_keep gw_313 dX9_looked_1) (
    gm_cn 6 (gm_m_push _) (gm_s_bipush dX9_looked_4 rfl) (
    gm_cn 7 (gm_m_istore _) (gm_s_istore_n dX9_looked_6 rfl (by decide)) (
    gm_cn 8 (gm_m_push _) (gm_s_iconst dX9_looked_7) (
    gm_cn 9 (gm_m_istore _) (gm_s_istore_n dX9_looked_8 rfl (by decide)) (
    gm_cn 0 (gm_m_goto _) (gm_s_fall (bpc := bpX9_looked) (b := 1) rfl 0) (
    trivial))))))),
  gm_cn 10 (gm_m_iload _) (gm_s_iload_n dX9_looked_9 rfl) (
    gm_cn 11 (gm_m_aload _) (gm_s_aload_n dX9_looked_10 rfl) (
    gm_cn 14 (gm_m_getI _ _) (gf_getI_9_39 gw_255 dX9_looked_11) (
    gm_cn 17 (gm_m_cge _) (gm_s_cge (bpc := bpX9_looked) (b := 4) dX9_looked_14 rfl) (
    gm_cn 18 (gm_m_iload _) (gm_s_iload_n dX9_looked_17 rfl) (
    gm_cn 21 (gm_m_ifge _) (gm_s_ifge (bpc := bpX9_looked) (b := 4) dX9_looked_18 rfl) (
    gm_cn 22 (gm_m_aload _) (gm_s_aload_n dX9_looked_21 rfl) (
    gm_cn 25 (gm_m_vcall _ _ _) (gcl_X9_goDay gw_312 dX9_looked_22) (
    gm_cn 26 (gm_m_aload _) (gm_s_aload_n dX9_looked_25 rfl) (
    gm_cn 29 (gm_m_getR _ _) (gf_getR_9_40 gw_256 dX9_looked_26) (
    gm_cn 30 (gm_m_iload _) (gm_s_iload_n dX9_looked_29 rfl) (
    gm_cn 31 gm_m_iald (gm_s_iald dX9_looked_30) (
    gm_cn 32 (gm_m_op2 _) (gm_s_ishr dX9_looked_31) (
    gm_cn 33 (gm_m_push _) (gm_s_iconst dX9_looked_32) (
    gm_cn 34 (gm_m_op2 _) (gm_s_iand dX9_looked_33) (
    gm_cn 35 (gm_m_push _) (gm_s_iconst dX9_looked_34) (
    gm_cn 38 (gm_m_cne _) (gm_s_cne (bpc := bpX9_looked) (b := 2) dX9_looked_35 rfl) (
    gm_cn 40 (gm_m_push _) (gm_s_bipush dX9_looked_38 rfl) (
    gm_cn 0 (gm_m_goto _) (gm_s_goto (bpc := bpX9_looked) (b := 3) dX9_looked_40 rfl 0) (
    trivial))))))))))))))))))),
  gm_cn 44 (gm_m_iload _) (gm_s_iload_n dX9_looked_43 rfl) (
    gm_cn 0 (gm_m_goto _) (gm_s_fall (bpc := bpX9_looked) (b := 3) rfl 0) (
    trivial)),
  gm_cn 45 (gm_m_istore _) (gm_s_istore_n dX9_looked_44 rfl (by decide)) (
    gm_cn 48 (gm_m_iinc _ _) (gm_s_iinc dX9_looked_45 (by decide)) (
    gm_cn 0 (gm_m_goto _) (gm_s_goto (bpc := bpX9_looked) (b := 1) dX9_looked_48 rfl 0) (
    trivial))),
  gm_cn 52 (gm_m_aload _) (gm_s_aload_n dX9_looked_51 rfl) (
    gm_cn 55 (gm_m_vcall _ _ _) (gcl_X9_putBack gw_315 dX9_looked_52) (
    gm_cn 56 (gm_m_iload _) (gm_s_iload_n dX9_looked_55 rfl) (
    gm_cn 0 gm_m_iret (gm_s_iret dX9_looked_56 rfl 0) (
    trivial)))), trivial⟩
