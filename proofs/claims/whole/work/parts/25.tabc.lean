theorem dX9_takesHead_0 : decode cX9_takesHead 0 = .ok (.aload_n 0, 1) := by decide +kernel
theorem dX9_takesHead_1 : decode cX9_takesHead 1 = .ok (.invokevirtual 218, 3) := by decide +kernel
theorem dX9_takesHead_4 : decode cX9_takesHead 4 = .ok (.lookupswitch 79 #[(99, 50), (108, 64), (115, 36)], 36) := by decide +kernel
theorem dX9_takesHead_40 : decode cX9_takesHead 40 = .ok (.aload_n 0, 1) := by decide +kernel
theorem dX9_takesHead_41 : decode cX9_takesHead 41 = .ok (.getfield 59, 3) := by decide +kernel
theorem dX9_takesHead_44 : decode cX9_takesHead 44 = .ok (.iload_n 1, 1) := by decide +kernel
theorem dX9_takesHead_45 : decode cX9_takesHead 45 = .ok (.iconst 0, 1) := by decide +kernel
theorem dX9_takesHead_46 : decode cX9_takesHead 46 = .ok (.iastore, 1) := by decide +kernel
theorem dX9_takesHead_47 : decode cX9_takesHead 47 = .ok (.aload_n 0, 1) := by decide +kernel
theorem dX9_takesHead_48 : decode cX9_takesHead 48 = .ok (.iconst 0, 1) := by decide +kernel
theorem dX9_takesHead_49 : decode cX9_takesHead 49 = .ok (.iconst 3, 1) := by decide +kernel
theorem dX9_takesHead_50 : decode cX9_takesHead 50 = .ok (.invokevirtual 248, 3) := by decide +kernel
theorem dX9_takesHead_53 : decode cX9_takesHead 53 = .ok (.ireturn, 1) := by decide +kernel
theorem dX9_takesHead_54 : decode cX9_takesHead 54 = .ok (.aload_n 0, 1) := by decide +kernel
theorem dX9_takesHead_55 : decode cX9_takesHead 55 = .ok (.getfield 59, 3) := by decide +kernel
theorem dX9_takesHead_58 : decode cX9_takesHead 58 = .ok (.iload_n 1, 1) := by decide +kernel
theorem dX9_takesHead_59 : decode cX9_takesHead 59 = .ok (.iconst 1, 1) := by decide +kernel
theorem dX9_takesHead_60 : decode cX9_takesHead 60 = .ok (.iastore, 1) := by decide +kernel
theorem dX9_takesHead_61 : decode cX9_takesHead 61 = .ok (.aload_n 0, 1) := by decide +kernel
theorem dX9_takesHead_62 : decode cX9_takesHead 62 = .ok (.iconst 3, 1) := by decide +kernel
theorem dX9_takesHead_63 : decode cX9_takesHead 63 = .ok (.iconst 4, 1) := by decide +kernel
theorem dX9_takesHead_64 : decode cX9_takesHead 64 = .ok (.invokevirtual 248, 3) := by decide +kernel
theorem dX9_takesHead_67 : decode cX9_takesHead 67 = .ok (.ireturn, 1) := by decide +kernel
theorem dX9_takesHead_68 : decode cX9_takesHead 68 = .ok (.aload_n 0, 1) := by decide +kernel
theorem dX9_takesHead_69 : decode cX9_takesHead 69 = .ok (.getfield 59, 3) := by decide +kernel
theorem dX9_takesHead_72 : decode cX9_takesHead 72 = .ok (.iload_n 1, 1) := by decide +kernel
theorem dX9_takesHead_73 : decode cX9_takesHead 73 = .ok (.iconst 2, 1) := by decide +kernel
theorem dX9_takesHead_74 : decode cX9_takesHead 74 = .ok (.iastore, 1) := by decide +kernel
theorem dX9_takesHead_75 : decode cX9_takesHead 75 = .ok (.aload_n 0, 1) := by decide +kernel
theorem dX9_takesHead_76 : decode cX9_takesHead 76 = .ok (.bipush 7, 2) := by decide +kernel
theorem dX9_takesHead_78 : decode cX9_takesHead 78 = .ok (.iconst 3, 1) := by decide +kernel
theorem dX9_takesHead_79 : decode cX9_takesHead 79 = .ok (.invokevirtual 248, 3) := by decide +kernel
theorem dX9_takesHead_82 : decode cX9_takesHead 82 = .ok (.ireturn, 1) := by decide +kernel
theorem dX9_takesHead_83 : decode cX9_takesHead 83 = .ok (.aload_n 0, 1) := by decide +kernel
theorem dX9_takesHead_84 : decode cX9_takesHead 84 = .ok (.getfield 59, 3) := by decide +kernel
theorem dX9_takesHead_87 : decode cX9_takesHead 87 = .ok (.iload_n 1, 1) := by decide +kernel
theorem dX9_takesHead_88 : decode cX9_takesHead 88 = .ok (.iconst 3, 1) := by decide +kernel
theorem dX9_takesHead_89 : decode cX9_takesHead 89 = .ok (.iastore, 1) := by decide +kernel
theorem dX9_takesHead_90 : decode cX9_takesHead 90 = .ok (.aload_n 0, 1) := by decide +kernel
theorem dX9_takesHead_91 : decode cX9_takesHead 91 = .ok (.bipush 10, 2) := by decide +kernel
theorem dX9_takesHead_93 : decode cX9_takesHead 93 = .ok (.iconst 4, 1) := by decide +kernel
theorem dX9_takesHead_94 : decode cX9_takesHead 94 = .ok (.invokevirtual 248, 3) := by decide +kernel
theorem dX9_takesHead_97 : decode cX9_takesHead 97 = .ok (.ireturn, 1) := by decide +kernel
def pX9_takesHead : List (List gm_A) := [[(gm_aload 0), (gm_vcall 9 107 1), (gm_switch [(99, 2), (108, 3), (115, 1)] 4)],
  [(gm_aload 0), (gm_getR 9 916), (gm_iload 1), (gm_push (.inl 0)), gm_iast, (gm_aload 0), (gm_push (.inl 0)), (gm_push (.inl 3)), (gm_vcall 9 109 3), gm_zret],
  [(gm_aload 0), (gm_getR 9 916), (gm_iload 1), (gm_push (.inl 1)), gm_iast, (gm_aload 0), (gm_push (.inl 3)), (gm_push (.inl 4)), (gm_vcall 9 109 3), gm_zret],
  [(gm_aload 0), (gm_getR 9 916), (gm_iload 1), (gm_push (.inl 2)), gm_iast, (gm_aload 0), (gm_push (.inl 7)), (gm_push (.inl 3)), (gm_vcall 9 109 3), gm_zret],
  [(gm_aload 0), (gm_getR 9 916), (gm_iload 1), (gm_push (.inl 3)), gm_iast, (gm_aload 0), (gm_push (.inl 10)), (gm_push (.inl 4)), (gm_vcall 9 109 3), gm_zret]]
def bpX9_takesHead : Nat → Nat := fun b => ([0, 40, 54, 68, 83] : List Nat).getD b 0
set_option maxRecDepth 100000 in
theorem tX9_takesHead {D : va_G} {sz : Nat} {ad : Nat → Nat} {cA : Nat → ClassId} {xs : Int → Int} {Ln : Int} {l : Launch} : gm_SB D sz ad cA xs Ln l gm_mt cX9_takesHead "LongNoonModel" 2 false 2 bpX9_takesHead 0 pX9_takesHead :=
  ⟨gm_cn 1 (gm_m_aload _) (gm_s_aload_n dX9_takesHead_0 rfl) (
    gm_cn 4 (gm_m_vcall _ _ _) (gcl_X9_next gw_283 dX9_takesHead_1) (
    gm_cn 0 (gm_m_switch _ _) (gm_s_look (bpc := bpX9_takesHead) (ps := [(99, 2), (108, 3), (115, 1)]) (d := 4) dX9_takesHead_4 rfl rfl rfl 0) (
    trivial))),
  gm_cn 41 (gm_m_aload _) (gm_s_aload_n dX9_takesHead_40 rfl) (
    gm_cn 44 (gm_m_getR _ _) (gf_getR_9_16 gw_231 dX9_takesHead_41) (
    gm_cn 45 (gm_m_iload _) (gm_s_iload_n dX9_takesHead_44 rfl) (
    gm_cn 46 (gm_m_push _) (gm_s_iconst dX9_takesHead_45) (
    gm_cn 47 gm_m_iast (gm_s_iast dX9_takesHead_46) (
    gm_cn 48 (gm_m_aload _) (gm_s_aload_n dX9_takesHead_47 rfl) (
    gm_cn 49 (gm_m_push _) (gm_s_iconst dX9_takesHead_48) (
    gm_cn 50 (gm_m_push _) (gm_s_iconst dX9_takesHead_49) (
    gm_cn 53 (gm_m_vcall _ _ _) (gcl_X9_takesWord gw_292 dX9_takesHead_50) (
    gm_cn 0 gm_m_zret (gm_s_zret dX9_takesHead_53 rfl 0) (
    trivial)))))))))),
  gm_cn 55 (gm_m_aload _) (gm_s_aload_n dX9_takesHead_54 rfl) (
    gm_cn 58 (gm_m_getR _ _) (gf_getR_9_16 gw_231 dX9_takesHead_55) (
    gm_cn 59 (gm_m_iload _) (gm_s_iload_n dX9_takesHead_58 rfl) (
    gm_cn 60 (gm_m_push _) (gm_s_iconst dX9_takesHead_59) (
    gm_cn 61 gm_m_iast (gm_s_iast dX9_takesHead_60) (
    gm_cn 62 (gm_m_aload _) (gm_s_aload_n dX9_takesHead_61 rfl) (
    gm_cn 63 (gm_m_push _) (gm_s_iconst dX9_takesHead_62) (
    gm_cn 64 (gm_m_push _) (gm_s_iconst dX9_takesHead_63) (
    gm_cn 67 (gm_m_vcall _ _ _) (gcl_X9_takesWord gw_292 dX9_takesHead_64) (
    gm_cn 0 gm_m_zret (gm_s_zret dX9_takesHead_67 rfl 0) (
    trivial)))))))))),
  gm_cn 69 (gm_m_aload _) (gm_s_aload_n dX9_takesHead_68 rfl) (
    gm_cn 72 (gm_m_getR _ _) (gf_getR_9_16 gw_231 dX9_takesHead_69) (
    gm_cn 73 (gm_m_iload _) (gm_s_iload_n dX9_takesHead_72 rfl) (
    gm_cn 74 (gm_m_push _) (gm_s_iconst dX9_takesHead_73) (
    gm_cn 75 gm_m_iast (gm_s_iast dX9_takesHead_74) (
    gm_cn 76 (gm_m_aload _) (gm_s_aload_n dX9_takesHead_75 rfl) (
    gm_cn 78 (gm_m_push _) (gm_s_bipush dX9_takesHead_76 rfl) (
    gm_cn 79 (gm_m_push _) (gm_s_iconst dX9_takesHead_78) (
    gm_cn 82 (gm_m_vcall _ _ _) (gcl_X9_takesWord gw_292 dX9_takesHead_79) (
    gm_cn 0 gm_m_zret (gm_s_zret dX9_takesHead_82 rfl 0) (
    trivial)))))))))),
  gm_cn 84 (gm_m_aload _) (gm_s_aload_n dX9_takesHead_83 rfl) (
    gm_cn 87 (gm_m_getR _ _) (gf_getR_9_16 gw_231 dX9_takesHead_84) (
    gm_cn 88 (gm_m_iload _) (gm_s_iload_n dX9_takesHead_87 rfl) (
    gm_cn 89 (gm_m_push _) (gm_s_iconst dX9_takesHead_88) (
    gm_cn 90 gm_m_iast (gm_s_iast dX9_takesHead_89) (
    gm_cn 91 (gm_m_aload _) (gm_s_aload_n dX9_takesHead_90 rfl) (
    gm_cn 93 (gm_m_push _) (gm_s_bipush dX9_takesHead_91 rfl) (
    gm_cn 94 (gm_m_push _) (gm_s_iconst dX9_takesHead_93) (
    gm_cn 97 (gm_m_vcall _ _ _) (gcl_X9_takesWord gw_292 dX9_takesHead_94) (
    gm_cn 0 gm_m_zret (gm_s_zret dX9_takesHead_97 rfl 0) (
    trivial)))))))))), trivial⟩
theorem dX9_takesClause_0 : decode cX9_takesClause 0 = .ok (.aload_n 0, 1) := by decide +kernel
theorem dX9_takesClause_1 : decode cX9_takesClause 1 = .ok (.iload_n 1, 1) := by decide +kernel
theorem dX9_takesClause_2 : decode cX9_takesClause 2 = .ok (.invokevirtual 252, 3) := by decide +kernel
theorem dX9_takesClause_5 : decode cX9_takesClause 5 = .ok (.ifCond .eq 10, 3) := by decide +kernel
theorem dX9_takesClause_8 : decode cX9_takesClause 8 = .ok (.aload_n 0, 1) := by decide +kernel
theorem dX9_takesClause_9 : decode cX9_takesClause 9 = .ok (.invokevirtual 236, 3) := by decide +kernel
theorem dX9_takesClause_12 : decode cX9_takesClause 12 = .ok (.ifCond .ne 5, 3) := by decide +kernel
theorem dX9_takesClause_15 : decode cX9_takesClause 15 = .ok (.iconst 0, 1) := by decide +kernel
theorem dX9_takesClause_16 : decode cX9_takesClause 16 = .ok (.ireturn, 1) := by decide +kernel
theorem dX9_takesClause_17 : decode cX9_takesClause 17 = .ok (.aload_n 0, 1) := by decide +kernel
theorem dX9_takesClause_18 : decode cX9_takesClause 18 = .ok (.getfield 62, 3) := by decide +kernel
theorem dX9_takesClause_21 : decode cX9_takesClause 21 = .ok (.iload_n 1, 1) := by decide +kernel
theorem dX9_takesClause_22 : decode cX9_takesClause 22 = .ok (.aload_n 0, 1) := by decide +kernel
theorem dX9_takesClause_23 : decode cX9_takesClause 23 = .ok (.getfield 50, 3) := by decide +kernel
theorem dX9_takesClause_26 : decode cX9_takesClause 26 = .ok (.iastore, 1) := by decide +kernel
theorem dX9_takesClause_27 : decode cX9_takesClause 27 = .ok (.aload_n 0, 1) := by decide +kernel
theorem dX9_takesClause_28 : decode cX9_takesClause 28 = .ok (.getfield 59, 3) := by decide +kernel
theorem dX9_takesClause_31 : decode cX9_takesClause 31 = .ok (.iload_n 1, 1) := by decide +kernel
theorem dX9_takesClause_32 : decode cX9_takesClause 32 = .ok (.iaload, 1) := by decide +kernel
theorem dX9_takesClause_33 : decode cX9_takesClause 33 = .ok (.iconst 1, 1) := by decide +kernel
theorem dX9_takesClause_34 : decode cX9_takesClause 34 = .ok (.if_icmp .gt 20, 3) := by decide +kernel
theorem dX9_takesClause_37 : decode cX9_takesClause 37 = .ok (.aload_n 0, 1) := by decide +kernel
theorem dX9_takesClause_38 : decode cX9_takesClause 38 = .ok (.bipush 32, 2) := by decide +kernel
theorem dX9_takesClause_40 : decode cX9_takesClause 40 = .ok (.invokevirtual 222, 3) := by decide +kernel
theorem dX9_takesClause_43 : decode cX9_takesClause 43 = .ok (.ifCond .eq 15, 3) := by decide +kernel
theorem dX9_takesClause_46 : decode cX9_takesClause 46 = .ok (.aload_n 0, 1) := by decide +kernel
theorem dX9_takesClause_47 : decode cX9_takesClause 47 = .ok (.iload_n 1, 1) := by decide +kernel
theorem dX9_takesClause_48 : decode cX9_takesClause 48 = .ok (.invokevirtual 255, 3) := by decide +kernel
theorem dX9_takesClause_51 : decode cX9_takesClause 51 = .ok (.ifCond .eq 7, 3) := by decide +kernel
theorem dX9_takesClause_54 : decode cX9_takesClause 54 = .ok (.iconst 1, 1) := by decide +kernel
theorem dX9_takesClause_55 : decode cX9_takesClause 55 = .ok (.goto 4, 3) := by decide +kernel
theorem dX9_takesClause_58 : decode cX9_takesClause 58 = .ok (.iconst 0, 1) := by decide +kernel
theorem dX9_takesClause_59 : decode cX9_takesClause 59 = .ok (.ireturn, 1) := by decide +kernel
def pX9_takesClause : List (List gm_A) := [[(gm_aload 0), (gm_iload 1), (gm_vcall 9 118 2), (gm_ifeq 1), (gm_aload 0), (gm_vcall 9 111 1), (gm_ifne 2), (gm_goto 1)],
  [(gm_push (.inl 0)), gm_zret],
  [(gm_aload 0), (gm_getR 9 917), (gm_iload 1), (gm_aload 0), (gm_getI 9 913), gm_iast, (gm_aload 0), (gm_getR 9 916), (gm_iload 1), gm_iald, (gm_push (.inl 1)), (gm_cgt 3), (gm_aload 0), (gm_push (.inl 32)), (gm_vcall 9 108 2), (gm_ifeq 4), (gm_aload 0), (gm_iload 1), (gm_vcall 9 117 2), (gm_ifeq 4), (gm_goto 3)],
  [(gm_push (.inl 1)), (gm_goto 5)],
  [(gm_push (.inl 0)), (gm_goto 5)],
  [gm_zret]]
def bpX9_takesClause : Nat → Nat := fun b => ([0, 15, 17, 54, 58, 59] : List Nat).getD b 0
set_option maxRecDepth 100000 in
theorem tX9_takesClause {D : va_G} {sz : Nat} {ad : Nat → Nat} {cA : Nat → ClassId} {xs : Int → Int} {Ln : Int} {l : Launch} : gm_SB D sz ad cA xs Ln l gm_mt cX9_takesClause "LongNoonModel" 2 false 2 bpX9_takesClause 0 pX9_takesClause :=
  ⟨gm_cn 1 (gm_m_aload _) (gm_s_aload_n dX9_takesClause_0 rfl) (
    gm_cn 2 (gm_m_iload _) (gm_s_iload_n dX9_takesClause_1 rfl) (
    gm_cn 5 (gm_m_vcall _ _ _) (gcl_X9_takesHead gw_293 dX9_takesClause_2) (
    gm_cn 8 (gm_m_ifeq _) (gm_s_ifeq (bpc := bpX9_takesClause) (b := 1) dX9_takesClause_5 rfl) (
    gm_cn 9 (gm_m_aload _) (gm_s_aload_n dX9_takesClause_8 rfl) (
    gm_cn 12 (gm_m_vcall _ _ _) (gcl_X9_takesNumber gw_288 dX9_takesClause_9) (
    gm_cn 15 (gm_m_ifne _) (gm_s_ifne (bpc := bpX9_takesClause) (b := 2) dX9_takesClause_12 rfl) (
    gm_cn 0 (gm_m_goto _) (gm_s_fall (bpc := bpX9_takesClause) (b := 1) rfl 0) (
    trivial)))))))),
  gm_cn 16 (gm_m_push _) (gm_s_iconst dX9_takesClause_15) (
    gm_cn 0 gm_m_zret (gm_s_zret dX9_takesClause_16 rfl 0) (
    trivial)),
  gm_cn 18 (gm_m_aload _) (gm_s_aload_n dX9_takesClause_17 rfl) (
    gm_cn 21 (gm_m_getR _ _) (gf_getR_9_17 gw_232 dX9_takesClause_18) (
    gm_cn 22 (gm_m_iload _) (gm_s_iload_n dX9_takesClause_21 rfl) (
    gm_cn 23 (gm_m_aload _) (gm_s_aload_n dX9_takesClause_22 rfl) (
    gm_cn 26 (gm_m_getI _ _) (gf_getI_9_13 gw_228 dX9_takesClause_23) (
    gm_cn 27 gm_m_iast (gm_s_iast dX9_takesClause_26) (
    gm_cn 28 (gm_m_aload _) (gm_s_aload_n dX9_takesClause_27 rfl) (
    gm_cn 31 (gm_m_getR _ _) (gf_getR_9_16 gw_231 dX9_takesClause_28) (
    gm_cn 32 (gm_m_iload _) (gm_s_iload_n dX9_takesClause_31 rfl) (
    gm_cn 33 gm_m_iald (gm_s_iald dX9_takesClause_32) (
    gm_cn 34 (gm_m_push _) (gm_s_iconst dX9_takesClause_33) (
    gm_cn 37 (gm_m_cgt _) (gm_s_cgt (bpc := bpX9_takesClause) (b := 3) dX9_takesClause_34 rfl) (
    gm_cn 38 (gm_m_aload _) (gm_s_aload_n dX9_takesClause_37 rfl) (
    gm_cn 40 (gm_m_push _) (gm_s_bipush dX9_takesClause_38 rfl) (
    gm_cn 43 (gm_m_vcall _ _ _) (gcl_X9_takes gw_284 dX9_takesClause_40) (
    gm_cn 46 (gm_m_ifeq _) (gm_s_ifeq (bpc := bpX9_takesClause) (b := 4) dX9_takesClause_43 rfl) (
    gm_cn 47 (gm_m_aload _) (gm_s_aload_n dX9_takesClause_46 rfl) (
    gm_cn 48 (gm_m_iload _) (gm_s_iload_n dX9_takesClause_47 rfl) (
    gm_cn 51 (gm_m_vcall _ _ _) (gcl_X9_takesE gw_294 dX9_takesClause_48) (
    gm_cn 54 (gm_m_ifeq _) (gm_s_ifeq (bpc := bpX9_takesClause) (b := 4) dX9_takesClause_51 rfl) (
    gm_cn 0 (gm_m_goto _) (gm_s_fall (bpc := bpX9_takesClause) (b := 3) rfl 0) (
    trivial))))))))))))))))))))),
  gm_cn 55 (gm_m_push _) (gm_s_iconst dX9_takesClause_54) (
    gm_cn 0 (gm_m_goto _) (gm_s_goto (bpc := bpX9_takesClause) (b := 5) dX9_takesClause_55 rfl 0) (
    trivial)),
  gm_cn 59 (gm_m_push _) (gm_s_iconst dX9_takesClause_58) (
    gm_cn 0 (gm_m_goto _) (gm_s_fall (bpc := bpX9_takesClause) (b := 5) rfl 0) (
    trivial)),
  gm_cn 0 gm_m_zret (gm_s_zret dX9_takesClause_59 rfl 0) (
    trivial), trivial⟩
theorem dX9_goesText_0 : decode cX9_goesText 0 = .ok (.aload_n 0, 1) := by decide +kernel
theorem dX9_goesText_1 : decode cX9_goesText 1 = .ok (.iconst 0, 1) := by decide +kernel
theorem dX9_goesText_2 : decode cX9_goesText 2 = .ok (.putfield 47, 3) := by decide +kernel
theorem dX9_goesText_5 : decode cX9_goesText 5 = .ok (.aload_n 0, 1) := by decide +kernel
theorem dX9_goesText_6 : decode cX9_goesText 6 = .ok (.bipush 100, 2) := by decide +kernel
theorem dX9_goesText_8 : decode cX9_goesText 8 = .ok (.iload_n 1, 1) := by decide +kernel
theorem dX9_goesText_9 : decode cX9_goesText 9 = .ok (.imul, 1) := by decide +kernel
theorem dX9_goesText_10 : decode cX9_goesText 10 = .ok (.putfield 77, 3) := by decide +kernel
theorem dX9_goesText_13 : decode cX9_goesText 13 = .ok (.iconst 0, 1) := by decide +kernel
theorem dX9_goesText_14 : decode cX9_goesText 14 = .ok (.istore_n 2, 1) := by decide +kernel
theorem dX9_goesText_15 : decode cX9_goesText 15 = .ok (.aload_n 0, 1) := by decide +kernel
theorem dX9_goesText_16 : decode cX9_goesText 16 = .ok (.bipush 10, 2) := by decide +kernel
theorem dX9_goesText_18 : decode cX9_goesText 18 = .ok (.iload_n 1, 1) := by decide +kernel
theorem dX9_goesText_19 : decode cX9_goesText 19 = .ok (.imul, 1) := by decide +kernel
theorem dX9_goesText_20 : decode cX9_goesText 20 = .ok (.iload_n 2, 1) := by decide +kernel
theorem dX9_goesText_21 : decode cX9_goesText 21 = .ok (.iadd, 1) := by decide +kernel
theorem dX9_goesText_22 : decode cX9_goesText 22 = .ok (.invokevirtual 258, 3) := by decide +kernel
theorem dX9_goesText_25 : decode cX9_goesText 25 = .ok (.ifCond .ne 5, 3) := by decide +kernel
theorem dX9_goesText_28 : decode cX9_goesText 28 = .ok (.iconst 0, 1) := by decide +kernel
theorem dX9_goesText_29 : decode cX9_goesText 29 = .ok (.ireturn, 1) := by decide +kernel
theorem dX9_goesText_30 : decode cX9_goesText 30 = .ok (.iinc 2 1, 3) := by decide +kernel
theorem dX9_goesText_33 : decode cX9_goesText 33 = .ok (.aload_n 0, 1) := by decide +kernel
theorem dX9_goesText_34 : decode cX9_goesText 34 = .ok (.getfield 56, 3) := by decide +kernel
theorem dX9_goesText_37 : decode cX9_goesText 37 = .ok (.iload_n 1, 1) := by decide +kernel
theorem dX9_goesText_38 : decode cX9_goesText 38 = .ok (.iload_n 2, 1) := by decide +kernel
theorem dX9_goesText_39 : decode cX9_goesText 39 = .ok (.iastore, 1) := by decide +kernel
theorem dX9_goesText_40 : decode cX9_goesText 40 = .ok (.aload_n 0, 1) := by decide +kernel
theorem dX9_goesText_41 : decode cX9_goesText 41 = .ok (.getfield 47, 3) := by decide +kernel
theorem dX9_goesText_44 : decode cX9_goesText 44 = .ok (.aload_n 0, 1) := by decide +kernel
theorem dX9_goesText_45 : decode cX9_goesText 45 = .ok (.getfield 44, 3) := by decide +kernel
theorem dX9_goesText_48 : decode cX9_goesText 48 = .ok (.if_icmp .ne 5, 3) := by decide +kernel
theorem dX9_goesText_51 : decode cX9_goesText 51 = .ok (.iconst 1, 1) := by decide +kernel
theorem dX9_goesText_52 : decode cX9_goesText 52 = .ok (.ireturn, 1) := by decide +kernel
theorem dX9_goesText_53 : decode cX9_goesText 53 = .ok (.iload_n 2, 1) := by decide +kernel
theorem dX9_goesText_54 : decode cX9_goesText 54 = .ok (.bipush 10, 2) := by decide +kernel
theorem dX9_goesText_56 : decode cX9_goesText 56 = .ok (.if_icmp .eq 12, 3) := by decide +kernel
theorem dX9_goesText_59 : decode cX9_goesText 59 = .ok (.aload_n 0, 1) := by decide +kernel
theorem dX9_goesText_60 : decode cX9_goesText 60 = .ok (.bipush 59, 2) := by decide +kernel
theorem dX9_goesText_62 : decode cX9_goesText 62 = .ok (.invokevirtual 222, 3) := by decide +kernel
theorem dX9_goesText_65 : decode cX9_goesText 65 = .ok (.ifCond .ne (-50), 3) := by decide +kernel
theorem dX9_goesText_68 : decode cX9_goesText 68 = .ok (.iconst 0, 1) := by decide +kernel
theorem dX9_goesText_69 : decode cX9_goesText 69 = .ok (.ireturn, 1) := by decide +kernel
def pX9_goesText : List (List gm_A) := [[(gm_aload 0), (gm_push (.inl 0)), (gm_putI 9 912), (gm_aload 0), (gm_push (.inl 100)), (gm_iload 1), (gm_op2 gm_mul), (gm_putI 9 922), (gm_push (.inl 0)), (gm_istore 2), (gm_goto 1)],
  [(gm_aload 0), (gm_push (.inl 10)), (gm_iload 1), (gm_op2 gm_mul), (gm_iload 2), (gm_op2 gm_add), (gm_vcall 9 119 2), (gm_ifne 2), (gm_push (.inl 0)), gm_zret],
  [(gm_iinc 2 1), (gm_aload 0), (gm_getR 9 915), (gm_iload 1), (gm_iload 2), gm_iast, (gm_aload 0), (gm_getI 9 912), (gm_aload 0), (gm_getI 9 911), (gm_cne 3), (gm_push (.inl 1)), gm_zret],
  [(gm_iload 2), (gm_push (.inl 10)), (gm_ceq 4), (gm_aload 0), (gm_push (.inl 59)), (gm_vcall 9 108 2), (gm_ifne 1), (gm_goto 4)],
  [(gm_push (.inl 0)), gm_zret]]
def bpX9_goesText : Nat → Nat := fun b => ([0, 15, 30, 53, 68] : List Nat).getD b 0
set_option maxRecDepth 100000 in
theorem tX9_goesText {D : va_G} {sz : Nat} {ad : Nat → Nat} {cA : Nat → ClassId} {xs : Int → Int} {Ln : Int} {l : Launch} : gm_SB D sz ad cA xs Ln l gm_mt cX9_goesText "LongNoonModel" 3 false 2 bpX9_goesText 0 pX9_goesText :=
  ⟨gm_cn 1 (gm_m_aload _) (gm_s_aload_n dX9_goesText_0 rfl) (
    gm_cn 2 (gm_m_push _) (gm_s_iconst dX9_goesText_1) (
    gm_cn 5 (gm_m_putI _ _) (gf_putI_9_12 gw_227 dX9_goesText_2) (
    gm_cn 6 (gm_m_aload _) (gm_s_aload_n dX9_goesText_5 rfl) (
    gm_cn 8 (gm_m_push _) (gm_s_bipush dX9_goesText_6 rfl) (
    gm_cn 9 (gm_m_iload _) (gm_s_iload_n dX9_goesText_8 rfl) (
    gm_cn 10 (gm_m_op2 _) (gm_s_imul dX9_goesText_9) (
    gm_cn 13 (gm_m_putI _ _) (gf_putI_9_22 gw_237 dX9_goesText_10) (
    gm_cn 14 (gm_m_push _) (gm_s_iconst dX9_goesText_13) (
    gm_cn 15 (gm_m_istore _) (gm_s_istore_n dX9_goesText_14 rfl (by decide)) (
    gm_cn 0 (gm_m_goto _) (gm_s_fall (bpc := bpX9_goesText) (b := 1) rfl 0) (
    trivial))))))))))),
  gm_cn 16 (gm_m_aload _) (gm_s_aload_n dX9_goesText_15 rfl) (
    gm_cn 18 (gm_m_push _) (gm_s_bipush dX9_goesText_16 rfl) (
    gm_cn 19 (gm_m_iload _) (gm_s_iload_n dX9_goesText_18 rfl) (
    gm_cn 20 (gm_m_op2 _) (gm_s_imul dX9_goesText_19) (
    gm_cn 21 (gm_m_iload _) (gm_s_iload_n dX9_goesText_20 rfl) (
    gm_cn 22 (gm_m_op2 _) (gm_s_iadd dX9_goesText_21) (
    gm_cn 25 (gm_m_vcall _ _ _) (gcl_X9_takesClause gw_295 dX9_goesText_22) (
    gm_cn 28 (gm_m_ifne _) (gm_s_ifne (bpc := bpX9_goesText) (b := 2) dX9_goesText_25 rfl) (
    gm_cn 29 (gm_m_push _) (gm_s_iconst dX9_goesText_28) (
    gm_cn 0 gm_m_zret (gm_s_zret dX9_goesText_29 rfl 0) (
    trivial)))))))))),
  gm_cn 33 (gm_m_iinc _ _) (gm_s_iinc dX9_goesText_30 (by decide)) (
    gm_cn 34 (gm_m_aload _) (gm_s_aload_n dX9_goesText_33 rfl) (
    gm_cn 37 (gm_m_getR _ _) (gf_getR_9_15 gw_230 dX9_goesText_34) (
    gm_cn 38 (gm_m_iload _) (gm_s_iload_n dX9_goesText_37 rfl) (
    gm_cn 39 (gm_m_iload _) (gm_s_iload_n dX9_goesText_38 rfl) (
    gm_cn 40 gm_m_iast (gm_s_iast dX9_goesText_39) (
    gm_cn 41 (gm_m_aload _) (gm_s_aload_n dX9_goesText_40 rfl) (
    gm_cn 44 (gm_m_getI _ _) (gf_getI_9_12 gw_227 dX9_goesText_41) (
    gm_cn 45 (gm_m_aload _) (gm_s_aload_n dX9_goesText_44 rfl) (
    gm_cn 48 (gm_m_getI _ _) (gf_getI_9_11 gw_226 dX9_goesText_45) (
    gm_cn 51 (gm_m_cne _) (gm_s_cne (bpc := bpX9_goesText) (b := 3) dX9_goesText_48 rfl) (
    gm_cn 52 (gm_m_push _) (gm_s_iconst dX9_goesText_51) (
    gm_cn 0 gm_m_zret (gm_s_zret dX9_goesText_52 rfl 0) (
    trivial))))))))))))),
  gm_cn 54 (gm_m_iload _) (gm_s_iload_n dX9_goesText_53 rfl) (
    gm_cn 56 (gm_m_push _) (gm_s_bipush dX9_goesText_54 rfl) (
    gm_cn 59 (gm_m_ceq _) (gm_s_ceq (bpc := bpX9_goesText) (b := 4) dX9_goesText_56 rfl) (
    gm_cn 60 (gm_m_aload _) (gm_s_aload_n dX9_goesText_59 rfl) (
    gm_cn 62 (gm_m_push _) (gm_s_bipush dX9_goesText_60 rfl) (
    gm_cn 65 (gm_m_vcall _ _ _) (gcl_X9_takes gw_284 dX9_goesText_62) (
    gm_cn 68 (gm_m_ifne _) (gm_s_ifne (bpc := bpX9_goesText) (b := 1) dX9_goesText_65 rfl) (
    gm_cn 0 (gm_m_goto _) (gm_s_fall (bpc := bpX9_goesText) (b := 4) rfl 0) (
    trivial)))))))),
  gm_cn 69 (gm_m_push _) (gm_s_iconst dX9_goesText_68) (
    gm_cn 0 gm_m_zret (gm_s_zret dX9_goesText_69 rfl 0) (
    trivial)), trivial⟩
theorem dX9_ground_0 : decode cX9_ground 0 = .ok (.aload_n 0, 1) := by decide +kernel
theorem dX9_ground_1 : decode cX9_ground 1 = .ok (.getfield 38, 3) := by decide +kernel
theorem dX9_ground_4 : decode cX9_ground 4 = .ok (.bipush 6, 2) := by decide +kernel
theorem dX9_ground_6 : decode cX9_ground 6 = .ok (.if_icmp .ne 6, 3) := by decide +kernel
theorem dX9_ground_9 : decode cX9_ground 9 = .ok (.bipush (-4), 2) := by decide +kernel
theorem dX9_ground_11 : decode cX9_ground 11 = .ok (.ireturn, 1) := by decide +kernel
theorem dX9_ground_12 : decode cX9_ground 12 = .ok (.aload_n 0, 1) := by decide +kernel
theorem dX9_ground_13 : decode cX9_ground 13 = .ok (.aload_n 0, 1) := by decide +kernel
theorem dX9_ground_14 : decode cX9_ground 14 = .ok (.getfield 38, 3) := by decide +kernel
theorem dX9_ground_17 : decode cX9_ground 17 = .ok (.invokevirtual 261, 3) := by decide +kernel
theorem dX9_ground_20 : decode cX9_ground 20 = .ok (.istore_n 1, 1) := by decide +kernel
theorem dX9_ground_21 : decode cX9_ground 21 = .ok (.aload_n 0, 1) := by decide +kernel
theorem dX9_ground_22 : decode cX9_ground 22 = .ok (.iconst 0, 1) := by decide +kernel
theorem dX9_ground_23 : decode cX9_ground 23 = .ok (.putfield 44, 3) := by decide +kernel
theorem dX9_ground_26 : decode cX9_ground 26 = .ok (.iload_n 1, 1) := by decide +kernel
theorem dX9_ground_27 : decode cX9_ground 27 = .ok (.ifCond .ne 11, 3) := by decide +kernel
theorem dX9_ground_30 : decode cX9_ground 30 = .ok (.bipush (-10), 2) := by decide +kernel
theorem dX9_ground_32 : decode cX9_ground 32 = .ok (.aload_n 0, 1) := by decide +kernel
theorem dX9_ground_33 : decode cX9_ground 33 = .ok (.getfield 47, 3) := by decide +kernel
theorem dX9_ground_36 : decode cX9_ground 36 = .ok (.isub, 1) := by decide +kernel
theorem dX9_ground_37 : decode cX9_ground 37 = .ok (.ireturn, 1) := by decide +kernel
theorem dX9_ground_38 : decode cX9_ground 38 = .ok (.aload_n 0, 1) := by decide +kernel
theorem dX9_ground_39 : decode cX9_ground 39 = .ok (.aload_n 0, 1) := by decide +kernel
theorem dX9_ground_40 : decode cX9_ground 40 = .ok (.getfield 38, 3) := by decide +kernel
theorem dX9_ground_43 : decode cX9_ground 43 = .ok (.putfield 41, 3) := by decide +kernel
theorem dX9_ground_46 : decode cX9_ground 46 = .ok (.aload_n 0, 1) := by decide +kernel
theorem dX9_ground_47 : decode cX9_ground 47 = .ok (.dup, 1) := by decide +kernel
theorem dX9_ground_48 : decode cX9_ground 48 = .ok (.getfield 38, 3) := by decide +kernel
theorem dX9_ground_51 : decode cX9_ground 51 = .ok (.iconst 1, 1) := by decide +kernel
theorem dX9_ground_52 : decode cX9_ground 52 = .ok (.iadd, 1) := by decide +kernel
theorem dX9_ground_53 : decode cX9_ground 53 = .ok (.putfield 38, 3) := by decide +kernel
theorem dX9_ground_56 : decode cX9_ground 56 = .ok (.aload_n 0, 1) := by decide +kernel
theorem dX9_ground_57 : decode cX9_ground 57 = .ok (.getfield 41, 3) := by decide +kernel
theorem dX9_ground_60 : decode cX9_ground 60 = .ok (.ireturn, 1) := by decide +kernel
def pX9_ground : List (List gm_A) := [[(gm_aload 0), (gm_getI 9 909), (gm_push (.inl 6)), (gm_cne 1), (gm_push (.inl (-4))), gm_iret],
  [(gm_aload 0), (gm_aload 0), (gm_getI 9 909), (gm_vcall 9 120 2), (gm_istore 1), (gm_aload 0), (gm_push (.inl 0)), (gm_putI 9 911), (gm_iload 1), (gm_ifne 2), (gm_push (.inl (-10))), (gm_aload 0), (gm_getI 9 912), (gm_op2 gm_sub), gm_iret],
  [(gm_aload 0), (gm_aload 0), (gm_getI 9 909), (gm_putI 9 910), (gm_aload 0), gm_dup, (gm_getI 9 909), (gm_push (.inl 1)), (gm_op2 gm_add), (gm_putI 9 909), (gm_aload 0), (gm_getI 9 910), gm_iret]]
def bpX9_ground : Nat → Nat := fun b => ([0, 12, 38] : List Nat).getD b 0
set_option maxRecDepth 100000 in
theorem tX9_ground {D : va_G} {sz : Nat} {ad : Nat → Nat} {cA : Nat → ClassId} {xs : Int → Int} {Ln : Int} {l : Launch} : gm_SB D sz ad cA xs Ln l gm_mt cX9_ground "LongNoonModel" 2 false 1 bpX9_ground 0 pX9_ground :=
  ⟨gm_cn 1 (gm_m_aload _) (gm_s_aload_n dX9_ground_0 rfl) (
    gm_cn 4 (gm_m_getI _ _) (gf_getI_9_9 gw_224 dX9_ground_1) (
    gm_cn 6 (gm_m_push _) (gm_s_bipush dX9_ground_4 rfl) (
    gm_cn 9 (gm_m_cne _) (gm_s_cne (bpc := bpX9_ground) (b := 1) dX9_ground_6 rfl) (
    gm_cn 11 (gm_m_push _) (gm_s_bipush dX9_ground_9 rfl) (
    gm_cn 0 gm_m_iret (gm_s_iret dX9_ground_11 rfl 0) (
    trivial)))))),
  gm_cn 13 (gm_m_aload _) (gm_s_aload_n dX9_ground_12 rfl) (
    gm_cn 14 (gm_m_aload _) (gm_s_aload_n dX9_ground_13 rfl) (
    gm_cn 17 (gm_m_getI _ _) (gf_getI_9_9 gw_224 dX9_ground_14) (
    gm_cn 20 (gm_m_vcall _ _ _) (gcl_X9_goesText gw_296 dX9_ground_17) (
    gm_cn 21 (gm_m_istore _) (gm_s_istore_n dX9_ground_20 rfl (by decide)) (
    gm_cn 22 (gm_m_aload _) (gm_s_aload_n dX9_ground_21 rfl) (
    gm_cn 23 (gm_m_push _) (gm_s_iconst dX9_ground_22) (
    gm_cn 26 (gm_m_putI _ _) (gf_putI_9_11 gw_226 dX9_ground_23) (
    gm_cn 27 (gm_m_iload _) (gm_s_iload_n dX9_ground_26 rfl) (
    gm_cn 30 (gm_m_ifne _) (gm_s_ifne (bpc := bpX9_ground) (b := 2) dX9_ground_27 rfl) (
    gm_cn 32 (gm_m_push _) (gm_s_bipush dX9_ground_30 rfl) (
    gm_cn 33 (gm_m_aload _) (gm_s_aload_n dX9_ground_32 rfl) (
    gm_cn 36 (gm_m_getI _ _) (gf_getI_9_12 gw_227 dX9_ground_33) (
    gm_cn 37 (gm_m_op2 _) (gm_s_isub dX9_ground_36) (
    gm_cn 0 gm_m_iret (gm_s_iret dX9_ground_37 rfl 0) (
    trivial))))))))))))))),
  gm_cn 39 (gm_m_aload _) (gm_s_aload_n dX9_ground_38 rfl) (
    gm_cn 40 (gm_m_aload _) (gm_s_aload_n dX9_ground_39 rfl) (
    gm_cn 43 (gm_m_getI _ _) (gf_getI_9_9 gw_224 dX9_ground_40) (
    gm_cn 46 (gm_m_putI _ _) (gf_putI_9_10 gw_225 dX9_ground_43) (
    gm_cn 47 (gm_m_aload _) (gm_s_aload_n dX9_ground_46 rfl) (
    gm_cn 48 gm_m_dup (gm_s_dup dX9_ground_47) (
    gm_cn 51 (gm_m_getI _ _) (gf_getI_9_9 gw_224 dX9_ground_48) (
    gm_cn 52 (gm_m_push _) (gm_s_iconst dX9_ground_51) (
    gm_cn 53 (gm_m_op2 _) (gm_s_iadd dX9_ground_52) (
    gm_cn 56 (gm_m_putI _ _) (gf_putI_9_9 gw_224 dX9_ground_53) (
    gm_cn 57 (gm_m_aload _) (gm_s_aload_n dX9_ground_56 rfl) (
    gm_cn 60 (gm_m_getI _ _) (gf_getI_9_10 gw_225 dX9_ground_57) (
    gm_cn 0 gm_m_iret (gm_s_iret dX9_ground_60 rfl 0) (
    trivial))))))))))))), trivial⟩
theorem dX9_begin_0 : decode cX9_begin 0 = .ok (.aload_n 0, 1) := by decide +kernel
theorem dX9_begin_1 : decode cX9_begin 1 = .ok (.getfield 41, 3) := by decide +kernel
theorem dX9_begin_4 : decode cX9_begin 4 = .ok (.ifCond .ge 7, 3) := by decide +kernel
theorem dX9_begin_7 : decode cX9_begin 7 = .ok (.iconst 0, 1) := by decide +kernel
theorem dX9_begin_8 : decode cX9_begin 8 = .ok (.goto 10, 3) := by decide +kernel
theorem dX9_begin_11 : decode cX9_begin 11 = .ok (.bipush 10, 2) := by decide +kernel
theorem dX9_begin_13 : decode cX9_begin 13 = .ok (.aload_n 0, 1) := by decide +kernel
theorem dX9_begin_14 : decode cX9_begin 14 = .ok (.getfield 41, 3) := by decide +kernel
theorem dX9_begin_17 : decode cX9_begin 17 = .ok (.imul, 1) := by decide +kernel
theorem dX9_begin_18 : decode cX9_begin 18 = .ok (.ireturn, 1) := by decide +kernel
def pX9_begin : List (List gm_A) := [[(gm_aload 0), (gm_getI 9 910), (gm_ifge 1), (gm_push (.inl 0)), (gm_goto 2)],
  [(gm_push (.inl 10)), (gm_aload 0), (gm_getI 9 910), (gm_op2 gm_mul), (gm_goto 2)],
  [gm_iret]]
def bpX9_begin : Nat → Nat := fun b => ([0, 11, 18] : List Nat).getD b 0
set_option maxRecDepth 100000 in
theorem tX9_begin {D : va_G} {sz : Nat} {ad : Nat → Nat} {cA : Nat → ClassId} {xs : Int → Int} {Ln : Int} {l : Launch} : gm_SB D sz ad cA xs Ln l gm_mt cX9_begin "LongNoonModel" 1 false 1 bpX9_begin 0 pX9_begin :=
  ⟨gm_cn 1 (gm_m_aload _) (gm_s_aload_n dX9_begin_0 rfl) (
    gm_cn 4 (gm_m_getI _ _) (gf_getI_9_10 gw_225 dX9_begin_1) (
    gm_cn 7 (gm_m_ifge _) (gm_s_ifge (bpc := bpX9_begin) (b := 1) dX9_begin_4 rfl) (
    gm_cn 8 (gm_m_push _) (gm_s_iconst dX9_begin_7) (
    gm_cn 0 (gm_m_goto _) (gm_s_goto (bpc := bpX9_begin) (b := 2) dX9_begin_8 rfl 0) (
    trivial))))),
  gm_cn 13 (gm_m_push _) (gm_s_bipush dX9_begin_11 rfl) (
    gm_cn 14 (gm_m_aload _) (gm_s_aload_n dX9_begin_13 rfl) (
    gm_cn 17 (gm_m_getI _ _) (gf_getI_9_10 gw_225 dX9_begin_14) (
    gm_cn 18 (gm_m_op2 _) (gm_s_imul dX9_begin_17) (
    gm_cn 0 (gm_m_goto _) (gm_s_fall (bpc := bpX9_begin) (b := 2) rfl 0) (
    trivial))))),
  gm_cn 0 gm_m_iret (gm_s_iret dX9_begin_18 rfl 0) (
    trivial), trivial⟩
theorem dX9_behind_0 : decode cX9_behind 0 = .ok (.aload_n 0, 1) := by decide +kernel
theorem dX9_behind_1 : decode cX9_behind 1 = .ok (.getfield 41, 3) := by decide +kernel
theorem dX9_behind_4 : decode cX9_behind 4 = .ok (.ifCond .ge 7, 3) := by decide +kernel
theorem dX9_behind_7 : decode cX9_behind 7 = .ok (.iconst 0, 1) := by decide +kernel
theorem dX9_behind_8 : decode cX9_behind 8 = .ok (.goto 20, 3) := by decide +kernel
theorem dX9_behind_11 : decode cX9_behind 11 = .ok (.bipush 10, 2) := by decide +kernel
theorem dX9_behind_13 : decode cX9_behind 13 = .ok (.aload_n 0, 1) := by decide +kernel
theorem dX9_behind_14 : decode cX9_behind 14 = .ok (.getfield 41, 3) := by decide +kernel
theorem dX9_behind_17 : decode cX9_behind 17 = .ok (.imul, 1) := by decide +kernel
theorem dX9_behind_18 : decode cX9_behind 18 = .ok (.aload_n 0, 1) := by decide +kernel
theorem dX9_behind_19 : decode cX9_behind 19 = .ok (.getfield 56, 3) := by decide +kernel
theorem dX9_behind_22 : decode cX9_behind 22 = .ok (.aload_n 0, 1) := by decide +kernel
theorem dX9_behind_23 : decode cX9_behind 23 = .ok (.getfield 41, 3) := by decide +kernel
theorem dX9_behind_26 : decode cX9_behind 26 = .ok (.iaload, 1) := by decide +kernel
theorem dX9_behind_27 : decode cX9_behind 27 = .ok (.iadd, 1) := by decide +kernel
theorem dX9_behind_28 : decode cX9_behind 28 = .ok (.ireturn, 1) := by decide +kernel
def pX9_behind : List (List gm_A) := [[(gm_aload 0), (gm_getI 9 910), (gm_ifge 1), (gm_push (.inl 0)), (gm_goto 2)],
  [(gm_push (.inl 10)), (gm_aload 0), (gm_getI 9 910), (gm_op2 gm_mul), (gm_aload 0), (gm_getR 9 915), (gm_aload 0), (gm_getI 9 910), gm_iald, (gm_op2 gm_add), (gm_goto 2)],
  [gm_iret]]
def bpX9_behind : Nat → Nat := fun b => ([0, 11, 28] : List Nat).getD b 0
set_option maxRecDepth 100000 in
theorem tX9_behind {D : va_G} {sz : Nat} {ad : Nat → Nat} {cA : Nat → ClassId} {xs : Int → Int} {Ln : Int} {l : Launch} : gm_SB D sz ad cA xs Ln l gm_mt cX9_behind "LongNoonModel" 1 false 1 bpX9_behind 0 pX9_behind :=
  ⟨gm_cn 1 (gm_m_aload _) (gm_s_aload_n dX9_behind_0 rfl) (
    gm_cn 4 (gm_m_getI _ _) (gf_getI_9_10 gw_225 dX9_behind_1) (
    gm_cn 7 (gm_m_ifge _) (gm_s_ifge (bpc := bpX9_behind) (b := 1) dX9_behind_4 rfl) (
    gm_cn 8 (gm_m_push _) (gm_s_iconst dX9_behind_7) (
    gm_cn 0 (gm_m_goto _) (gm_s_goto (bpc := bpX9_behind) (b := 2) dX9_behind_8 rfl 0) (
    trivial))))),
  gm_cn 13 (gm_m_push _) (gm_s_bipush dX9_behind_11 rfl) (
    gm_cn 14 (gm_m_aload _) (gm_s_aload_n dX9_behind_13 rfl) (
    gm_cn 17 (gm_m_getI _ _) (gf_getI_9_10 gw_225 dX9_behind_14) (
    gm_cn 18 (gm_m_op2 _) (gm_s_imul dX9_behind_17) (
    gm_cn 19 (gm_m_aload _) (gm_s_aload_n dX9_behind_18 rfl) (
    gm_cn 22 (gm_m_getR _ _) (gf_getR_9_15 gw_230 dX9_behind_19) (
    gm_cn 23 (gm_m_aload _) (gm_s_aload_n dX9_behind_22 rfl) (
    gm_cn 26 (gm_m_getI _ _) (gf_getI_9_10 gw_225 dX9_behind_23) (
    gm_cn 27 gm_m_iald (gm_s_iald dX9_behind_26) (
    gm_cn 28 (gm_m_op2 _) (gm_s_iadd dX9_behind_27) (
    gm_cn 0 (gm_m_goto _) (gm_s_fall (bpc := bpX9_behind) (b := 2) rfl 0) (
    trivial))))))))))),
  gm_cn 0 gm_m_iret (gm_s_iret dX9_behind_28 rfl 0) (
    trivial), trivial⟩
theorem dX9_lastOf_0 : decode cX9_lastOf 0 = .ok (.iload_n 2, 1) := by decide +kernel
theorem dX9_lastOf_1 : decode cX9_lastOf 1 = .ok (.istore_n 3, 1) := by decide +kernel
theorem dX9_lastOf_2 : decode cX9_lastOf 2 = .ok (.aload_n 0, 1) := by decide +kernel
theorem dX9_lastOf_3 : decode cX9_lastOf 3 = .ok (.invokevirtual 264, 3) := by decide +kernel
theorem dX9_lastOf_6 : decode cX9_lastOf 6 = .ok (.istore 4, 2) := by decide +kernel
theorem dX9_lastOf_8 : decode cX9_lastOf 8 = .ok (.iload 4, 2) := by decide +kernel
theorem dX9_lastOf_10 : decode cX9_lastOf 10 = .ok (.aload_n 0, 1) := by decide +kernel
theorem dX9_lastOf_11 : decode cX9_lastOf 11 = .ok (.invokevirtual 267, 3) := by decide +kernel
theorem dX9_lastOf_14 : decode cX9_lastOf 14 = .ok (.if_icmp .ge 32, 3) := by decide +kernel
theorem dX9_lastOf_17 : decode cX9_lastOf 17 = .ok (.aload_n 0, 1) := by decide +kernel
theorem dX9_lastOf_18 : decode cX9_lastOf 18 = .ok (.getfield 59, 3) := by decide +kernel
theorem dX9_lastOf_21 : decode cX9_lastOf 21 = .ok (.iload 4, 2) := by decide +kernel
theorem dX9_lastOf_23 : decode cX9_lastOf 23 = .ok (.iaload, 1) := by decide +kernel
theorem dX9_lastOf_24 : decode cX9_lastOf 24 = .ok (.iload_n 1, 1) := by decide +kernel
theorem dX9_lastOf_25 : decode cX9_lastOf 25 = .ok (.if_icmp .ne 13, 3) := by decide +kernel
theorem dX9_lastOf_28 : decode cX9_lastOf 28 = .ok (.aload_n 0, 1) := by decide +kernel
theorem dX9_lastOf_29 : decode cX9_lastOf 29 = .ok (.getfield 62, 3) := by decide +kernel
theorem dX9_lastOf_32 : decode cX9_lastOf 32 = .ok (.iload 4, 2) := by decide +kernel
theorem dX9_lastOf_34 : decode cX9_lastOf 34 = .ok (.iaload, 1) := by decide +kernel
theorem dX9_lastOf_35 : decode cX9_lastOf 35 = .ok (.goto 4, 3) := by decide +kernel
theorem dX9_lastOf_38 : decode cX9_lastOf 38 = .ok (.iload_n 3, 1) := by decide +kernel
theorem dX9_lastOf_39 : decode cX9_lastOf 39 = .ok (.istore_n 3, 1) := by decide +kernel
theorem dX9_lastOf_40 : decode cX9_lastOf 40 = .ok (.iinc 4 1, 3) := by decide +kernel
theorem dX9_lastOf_43 : decode cX9_lastOf 43 = .ok (.goto (-35), 3) := by decide +kernel
theorem dX9_lastOf_46 : decode cX9_lastOf 46 = .ok (.iload_n 3, 1) := by decide +kernel
theorem dX9_lastOf_47 : decode cX9_lastOf 47 = .ok (.ireturn, 1) := by decide +kernel
def pX9_lastOf : List (List gm_A) := [[(gm_iload 2), (gm_istore 3), (gm_aload 0), (gm_vcall 9 122 1), (gm_istore 4), (gm_goto 1)],
  [(gm_iload 4), (gm_aload 0), (gm_vcall 9 123 1), (gm_cge 4), (gm_aload 0), (gm_getR 9 916), (gm_iload 4), gm_iald, (gm_iload 1), (gm_cne 2), (gm_aload 0), (gm_getR 9 917), (gm_iload 4), gm_iald, (gm_goto 3)],
  [(gm_iload 3), (gm_goto 3)],
  [(gm_istore 3), (gm_iinc 4 1), (gm_goto 1)],
  [(gm_iload 3), gm_iret]]
def bpX9_lastOf : Nat → Nat := fun b => ([0, 8, 38, 39, 46] : List Nat).getD b 0
set_option maxRecDepth 100000 in
theorem tX9_lastOf {D : va_G} {sz : Nat} {ad : Nat → Nat} {cA : Nat → ClassId} {xs : Int → Int} {Ln : Int} {l : Launch} : gm_SB D sz ad cA xs Ln l gm_mt cX9_lastOf "LongNoonModel" 5 false 1 bpX9_lastOf 0 pX9_lastOf :=
  ⟨gm_cn 1 (gm_m_iload _) (gm_s_iload_n dX9_lastOf_0 rfl) (
    gm_cn 2 (gm_m_istore _) (gm_s_istore_n dX9_lastOf_1 rfl (by decide)) (
    gm_cn 3 (gm_m_aload _) (gm_s_aload_n dX9_lastOf_2 rfl) (
    gm_cn 6 (gm_m_vcall _ _ _) (gcl_X9_begin gw_297 dX9_lastOf_3) (
    gm_cn 8 (gm_m_istore _) (gm_s_istore dX9_lastOf_6 (by decide)) (
    gm_cn 0 (gm_m_goto _) (gm_s_fall (bpc := bpX9_lastOf) (b := 1) rfl 0) (
    trivial)))))),
  gm_cn 10 (gm_m_iload _) (gm_s_iload dX9_lastOf_8) (
    gm_cn 11 (gm_m_aload _) (gm_s_aload_n dX9_lastOf_10 rfl) (
    gm_cn 14 (gm_m_vcall _ _ _) (gcl_X9_behind gw_298 dX9_lastOf_11) (
    gm_cn 17 (gm_m_cge _) (gm_s_cge (bpc := bpX9_lastOf) (b := 4) dX9_lastOf_14 rfl) (
    gm_cn 18 (gm_m_aload _) (gm_s_aload_n dX9_lastOf_17 rfl) (
    gm_cn 21 (gm_m_getR _ _) (gf_getR_9_16 gw_231 dX9_lastOf_18) (
    gm_cn 23 (gm_m_iload _) (gm_s_iload dX9_lastOf_21) (
    gm_cn 24 gm_m_iald (gm_s_iald dX9_lastOf_23) (
    gm_cn 25 (gm_m_iload _) (gm_s_iload_n dX9_lastOf_24 rfl) (
    gm_cn 28 (gm_m_cne _) (gm_s_cne (bpc := bpX9_lastOf) (b := 2) dX9_lastOf_25 rfl) (
    gm_cn 29 (gm_m_aload _) (gm_s_aload_n dX9_lastOf_28 rfl) (
    gm_cn 32 (gm_m_getR _ _) (gf_getR_9_17 gw_232 dX9_lastOf_29) (
    gm_cn 34 (gm_m_iload _) (gm_s_iload dX9_lastOf_32) (
    gm_cn 35 gm_m_iald (gm_s_iald dX9_lastOf_34) (
    gm_cn 0 (gm_m_goto _) (gm_s_goto (bpc := bpX9_lastOf) (b := 3) dX9_lastOf_35 rfl 0) (
    trivial))))))))))))))),
  gm_cn 39 (gm_m_iload _) (gm_s_iload_n dX9_lastOf_38 rfl) (
    gm_cn 0 (gm_m_goto _) (gm_s_fall (bpc := bpX9_lastOf) (b := 3) rfl 0) (
    trivial)),
  gm_cn 40 (gm_m_istore _) (gm_s_istore_n dX9_lastOf_39 rfl (by decide)) (
    gm_cn 43 (gm_m_iinc _ _) (gm_s_iinc dX9_lastOf_40 (by decide)) (
    gm_cn 0 (gm_m_goto _) (gm_s_goto (bpc := bpX9_lastOf) (b := 1) dX9_lastOf_43 rfl 0) (
    trivial))),
  gm_cn 47 (gm_m_iload _) (gm_s_iload_n dX9_lastOf_46 rfl) (
    gm_cn 0 gm_m_iret (gm_s_iret dX9_lastOf_47 rfl 0) (
    trivial)), trivial⟩
theorem dX9_factOf_0 : decode cX9_factOf 0 = .ok (.iload_n 1, 1) := by decide +kernel
theorem dX9_factOf_1 : decode cX9_factOf 1 = .ok (.tableswitch 69 0 4 #[35, 37, 44, 51, 59], 35) := by decide +kernel
theorem dX9_factOf_36 : decode cX9_factOf 36 = .ok (.iload_n 2, 1) := by decide +kernel
theorem dX9_factOf_37 : decode cX9_factOf 37 = .ok (.ireturn, 1) := by decide +kernel
theorem dX9_factOf_38 : decode cX9_factOf 38 = .ok (.aload_n 0, 1) := by decide +kernel
theorem dX9_factOf_39 : decode cX9_factOf 39 = .ok (.getfield 16, 3) := by decide +kernel
theorem dX9_factOf_42 : decode cX9_factOf 42 = .ok (.iload_n 2, 1) := by decide +kernel
theorem dX9_factOf_43 : decode cX9_factOf 43 = .ok (.iaload, 1) := by decide +kernel
theorem dX9_factOf_44 : decode cX9_factOf 44 = .ok (.ireturn, 1) := by decide +kernel
theorem dX9_factOf_45 : decode cX9_factOf 45 = .ok (.aload_n 0, 1) := by decide +kernel
theorem dX9_factOf_46 : decode cX9_factOf 46 = .ok (.getfield 20, 3) := by decide +kernel
theorem dX9_factOf_49 : decode cX9_factOf 49 = .ok (.iload_n 2, 1) := by decide +kernel
theorem dX9_factOf_50 : decode cX9_factOf 50 = .ok (.iaload, 1) := by decide +kernel
theorem dX9_factOf_51 : decode cX9_factOf 51 = .ok (.ireturn, 1) := by decide +kernel
theorem dX9_factOf_52 : decode cX9_factOf 52 = .ok (.aload_n 0, 1) := by decide +kernel
theorem dX9_factOf_53 : decode cX9_factOf 53 = .ok (.getfield 13, 3) := by decide +kernel
theorem dX9_factOf_56 : decode cX9_factOf 56 = .ok (.bipush 28, 2) := by decide +kernel
theorem dX9_factOf_58 : decode cX9_factOf 58 = .ok (.irem, 1) := by decide +kernel
theorem dX9_factOf_59 : decode cX9_factOf 59 = .ok (.ireturn, 1) := by decide +kernel
theorem dX9_factOf_60 : decode cX9_factOf 60 = .ok (.aload_n 0, 1) := by decide +kernel
theorem dX9_factOf_61 : decode cX9_factOf 61 = .ok (.getfield 23, 3) := by decide +kernel
theorem dX9_factOf_64 : decode cX9_factOf 64 = .ok (.iload_n 2, 1) := by decide +kernel
theorem dX9_factOf_65 : decode cX9_factOf 65 = .ok (.iaload, 1) := by decide +kernel
theorem dX9_factOf_66 : decode cX9_factOf 66 = .ok (.bipush 10, 2) := by decide +kernel
theorem dX9_factOf_68 : decode cX9_factOf 68 = .ok (.idiv, 1) := by decide +kernel
theorem dX9_factOf_69 : decode cX9_factOf 69 = .ok (.ireturn, 1) := by decide +kernel
theorem dX9_factOf_70 : decode cX9_factOf 70 = .ok (.aload_n 0, 1) := by decide +kernel
theorem dX9_factOf_71 : decode cX9_factOf 71 = .ok (.getfield 93, 3) := by decide +kernel
theorem dX9_factOf_74 : decode cX9_factOf 74 = .ok (.ifCond .ge 12, 3) := by decide +kernel
theorem dX9_factOf_77 : decode cX9_factOf 77 = .ok (.aload_n 0, 1) := by decide +kernel
theorem dX9_factOf_78 : decode cX9_factOf 78 = .ok (.getfield 26, 3) := by decide +kernel
theorem dX9_factOf_81 : decode cX9_factOf 81 = .ok (.iload_n 2, 1) := by decide +kernel
theorem dX9_factOf_82 : decode cX9_factOf 82 = .ok (.iaload, 1) := by decide +kernel
theorem dX9_factOf_83 : decode cX9_factOf 83 = .ok (.goto 7, 3) := by decide +kernel
theorem dX9_factOf_86 : decode cX9_factOf 86 = .ok (.aload_n 0, 1) := by decide +kernel
theorem dX9_factOf_87 : decode cX9_factOf 87 = .ok (.getfield 93, 3) := by decide +kernel
theorem dX9_factOf_90 : decode cX9_factOf 90 = .ok (.bipush 10, 2) := by decide +kernel
theorem dX9_factOf_92 : decode cX9_factOf 92 = .ok (.idiv, 1) := by decide +kernel
theorem dX9_factOf_93 : decode cX9_factOf 93 = .ok (.ireturn, 1) := by decide +kernel
def pX9_factOf : List (List gm_A) := [[(gm_iload 1), (gm_switch [(0, 1), (1, 2), (2, 3), (3, 4), (4, 5)] 6)],
  [(gm_iload 2), gm_iret],
  [(gm_aload 0), (gm_getR 9 902), (gm_iload 2), gm_iald, gm_iret],
  [(gm_aload 0), (gm_getR 9 903), (gm_iload 2), gm_iald, gm_iret],
  [(gm_aload 0), (gm_getI 9 901), (gm_push (.inl 28)), (gm_quo gm_rem), gm_iret],
  [(gm_aload 0), (gm_getR 9 904), (gm_iload 2), gm_iald, (gm_push (.inl 10)), (gm_quo gm_div), gm_iret],
  [(gm_aload 0), (gm_getI 9 927), (gm_ifge 7), (gm_aload 0), (gm_getR 9 905), (gm_iload 2), gm_iald, (gm_goto 8)],
  [(gm_aload 0), (gm_getI 9 927), (gm_goto 8)],
  [(gm_push (.inl 10)), (gm_quo gm_div), gm_iret]]
def bpX9_factOf : Nat → Nat := fun b => ([0, 36, 38, 45, 52, 60, 70, 86, 90] : List Nat).getD b 0
set_option maxRecDepth 100000 in
theorem tX9_factOf {D : va_G} {sz : Nat} {ad : Nat → Nat} {cA : Nat → ClassId} {xs : Int → Int} {Ln : Int} {l : Launch} : gm_SB D sz ad cA xs Ln l gm_mt cX9_factOf "LongNoonModel" 3 false 1 bpX9_factOf 0 pX9_factOf :=
  ⟨gm_cn 1 (gm_m_iload _) (gm_s_iload_n dX9_factOf_0 rfl) (
    gm_cn 0 (gm_m_switch _ _) (gm_s_table (bpc := bpX9_factOf) (ps := [(0, 1), (1, 2), (2, 3), (3, 4), (4, 5)]) (d := 6) dX9_factOf_1 rfl rfl rfl 0) (
    trivial)),
  gm_cn 37 (gm_m_iload _) (gm_s_iload_n dX9_factOf_36 rfl) (
    gm_cn 0 gm_m_iret (gm_s_iret dX9_factOf_37 rfl 0) (
    trivial)),
  gm_cn 39 (gm_m_aload _) (gm_s_aload_n dX9_factOf_38 rfl) (
    gm_cn 42 (gm_m_getR _ _) (gf_getR_9_2 gw_217 dX9_factOf_39) (
    gm_cn 43 (gm_m_iload _) (gm_s_iload_n dX9_factOf_42 rfl) (
    gm_cn 44 gm_m_iald (gm_s_iald dX9_factOf_43) (
    gm_cn 0 gm_m_iret (gm_s_iret dX9_factOf_44 rfl 0) (
    trivial))))),
  gm_cn 46 (gm_m_aload _) (gm_s_aload_n dX9_factOf_45 rfl) (
    gm_cn 49 (gm_m_getR _ _) (gf_getR_9_3 gw_218 dX9_factOf_46) (
    gm_cn 50 (gm_m_iload _) (gm_s_iload_n dX9_factOf_49 rfl) (
    gm_cn 51 gm_m_iald (gm_s_iald dX9_factOf_50) (
    gm_cn 0 gm_m_iret (gm_s_iret dX9_factOf_51 rfl 0) (
    trivial))))),
  gm_cn 53 (gm_m_aload _) (gm_s_aload_n dX9_factOf_52 rfl) (
    gm_cn 56 (gm_m_getI _ _) (gf_getI_9_1 gw_216 dX9_factOf_53) (
    gm_cn 58 (gm_m_push _) (gm_s_bipush dX9_factOf_56 rfl) (
    gm_cn 59 (gm_m_quo _) (gm_s_irem dX9_factOf_58) (
    gm_cn 0 gm_m_iret (gm_s_iret dX9_factOf_59 rfl 0) (
    trivial))))),
  gm_cn 61 (gm_m_aload _) (gm_s_aload_n dX9_factOf_60 rfl) (
    gm_cn 64 (gm_m_getR _ _) (gf_getR_9_4 gw_219 dX9_factOf_61) (
    gm_cn 65 (gm_m_iload _) (gm_s_iload_n dX9_factOf_64 rfl) (
    gm_cn 66 gm_m_iald (gm_s_iald dX9_factOf_65) (
    gm_cn 68 (gm_m_push _) (gm_s_bipush dX9_factOf_66 rfl) (
    gm_cn 69 (gm_m_quo _) (gm_s_idiv dX9_factOf_68) (
    gm_cn 0 gm_m_iret (gm_s_iret dX9_factOf_69 rfl 0) (
    trivial))))))),
  gm_cn 71 (gm_m_aload _) (gm_s_aload_n dX9_factOf_70 rfl) (
    gm_cn 74 (gm_m_getI _ _) (gf_getI_9_27 gw_243 dX9_factOf_71) (
    gm_cn 77 (gm_m_ifge _) (gm_s_ifge (bpc := bpX9_factOf) (b := 7) dX9_factOf_74 rfl) (
    gm_cn 78 (gm_m_aload _) (gm_s_aload_n dX9_factOf_77 rfl) (
    gm_cn 81 (gm_m_getR _ _) (gf_getR_9_5 gw_220 dX9_factOf_78) (
    gm_cn 82 (gm_m_iload _) (gm_s_iload_n dX9_factOf_81 rfl) (
    gm_cn 83 gm_m_iald (gm_s_iald dX9_factOf_82) (
    gm_cn 0 (gm_m_goto _) (gm_s_goto (bpc := bpX9_factOf) (b := 8) dX9_factOf_83 rfl 0) (
    trivial)))))))),
  gm_cn 87 (gm_m_aload _) (gm_s_aload_n dX9_factOf_86 rfl) (
    gm_cn 90 (gm_m_getI _ _) (gf_getI_9_27 gw_243 dX9_factOf_87) (
    gm_cn 0 (gm_m_goto _) (gm_s_fall (bpc := bpX9_factOf) (b := 8) rfl 0) (
    trivial))),
  gm_cn 92 (gm_m_push _) (gm_s_bipush dX9_factOf_90 rfl) (
    gm_cn 93 (gm_m_quo _) (gm_s_idiv dX9_factOf_92) (
    gm_cn 0 gm_m_iret (gm_s_iret dX9_factOf_93 rfl 0) (
    trivial))), trivial⟩
theorem dX9_holds_0 : decode cX9_holds 0 = .ok (.iconst 0, 1) := by decide +kernel
theorem dX9_holds_1 : decode cX9_holds 1 = .ok (.istore_n 3, 1) := by decide +kernel
theorem dX9_holds_2 : decode cX9_holds 2 = .ok (.aload_n 0, 1) := by decide +kernel
theorem dX9_holds_3 : decode cX9_holds 3 = .ok (.getfield 65, 3) := by decide +kernel
theorem dX9_holds_6 : decode cX9_holds 6 = .ok (.iload_n 1, 1) := by decide +kernel
theorem dX9_holds_7 : decode cX9_holds 7 = .ok (.iaload, 1) := by decide +kernel
theorem dX9_holds_8 : decode cX9_holds 8 = .ok (.istore 4, 2) := by decide +kernel
theorem dX9_holds_10 : decode cX9_holds 10 = .ok (.iload 4, 2) := by decide +kernel
theorem dX9_holds_12 : decode cX9_holds 12 = .ok (.aload_n 0, 1) := by decide +kernel
theorem dX9_holds_13 : decode cX9_holds 13 = .ok (.getfield 68, 3) := by decide +kernel
theorem dX9_holds_16 : decode cX9_holds 16 = .ok (.iload_n 1, 1) := by decide +kernel
theorem dX9_holds_17 : decode cX9_holds 17 = .ok (.iaload, 1) := by decide +kernel
theorem dX9_holds_18 : decode cX9_holds 18 = .ok (.if_icmp .ge 225, 3) := by decide +kernel
theorem dX9_holds_21 : decode cX9_holds 21 = .ok (.aload_n 0, 1) := by decide +kernel
theorem dX9_holds_22 : decode cX9_holds 22 = .ok (.getfield 71, 3) := by decide +kernel
theorem dX9_holds_25 : decode cX9_holds 25 = .ok (.iload 4, 2) := by decide +kernel
theorem dX9_holds_27 : decode cX9_holds 27 = .ok (.iaload, 1) := by decide +kernel
theorem dX9_holds_28 : decode cX9_holds 28 = .ok (.istore 5, 2) := by decide +kernel
theorem dX9_holds_30 : decode cX9_holds 30 = .ok (.iload 5, 2) := by decide +kernel
theorem dX9_holds_32 : decode cX9_holds 32 = .ok (.bipush (-33), 2) := by decide +kernel
theorem dX9_holds_34 : decode cX9_holds 34 = .ok (.if_icmp .ne 30, 3) := by decide +kernel
theorem dX9_holds_37 : decode cX9_holds 37 = .ok (.aload_n 0, 1) := by decide +kernel
theorem dX9_holds_38 : decode cX9_holds 38 = .ok (.getfield 89, 3) := by decide +kernel
theorem dX9_holds_41 : decode cX9_holds 41 = .ok (.iload_n 3, 1) := by decide +kernel
theorem dX9_holds_42 : decode cX9_holds 42 = .ok (.iconst 1, 1) := by decide +kernel
theorem dX9_holds_43 : decode cX9_holds 43 = .ok (.isub, 1) := by decide +kernel
theorem dX9_holds_44 : decode cX9_holds 44 = .ok (.aload_n 0, 1) := by decide +kernel
theorem dX9_holds_45 : decode cX9_holds 45 = .ok (.getfield 89, 3) := by decide +kernel
theorem dX9_holds_48 : decode cX9_holds 48 = .ok (.iload_n 3, 1) := by decide +kernel
theorem dX9_holds_49 : decode cX9_holds 49 = .ok (.iconst 1, 1) := by decide +kernel
theorem dX9_holds_50 : decode cX9_holds 50 = .ok (.isub, 1) := by decide +kernel
theorem dX9_holds_51 : decode cX9_holds 51 = .ok (.baload, 1) := by decide +kernel
theorem dX9_holds_52 : decode cX9_holds 52 = .ok (.ifCond .ne 7, 3) := by decide +kernel
theorem dX9_holds_55 : decode cX9_holds 55 = .ok (.iconst 1, 1) := by decide +kernel
theorem dX9_holds_56 : decode cX9_holds 56 = .ok (.goto 4, 3) := by decide +kernel
theorem dX9_holds_59 : decode cX9_holds 59 = .ok (.iconst 0, 1) := by decide +kernel
theorem dX9_holds_60 : decode cX9_holds 60 = .ok (.bastore, 1) := by decide +kernel
theorem dX9_holds_61 : decode cX9_holds 61 = .ok (.goto 176, 3) := by decide +kernel
theorem dX9_holds_64 : decode cX9_holds 64 = .ok (.iload 5, 2) := by decide +kernel
theorem dX9_holds_66 : decode cX9_holds 66 = .ok (.ifCond .ge 77, 3) := by decide +kernel
theorem dX9_holds_69 : decode cX9_holds 69 = .ok (.iinc 3 (-1), 3) := by decide +kernel
theorem dX9_holds_72 : decode cX9_holds 72 = .ok (.aload_n 0, 1) := by decide +kernel
theorem dX9_holds_73 : decode cX9_holds 73 = .ok (.getfield 89, 3) := by decide +kernel
theorem dX9_holds_76 : decode cX9_holds 76 = .ok (.iload_n 3, 1) := by decide +kernel
theorem dX9_holds_77 : decode cX9_holds 77 = .ok (.iconst 1, 1) := by decide +kernel
theorem dX9_holds_78 : decode cX9_holds 78 = .ok (.isub, 1) := by decide +kernel
theorem dX9_holds_79 : decode cX9_holds 79 = .ok (.iload 5, 2) := by decide +kernel
theorem dX9_holds_81 : decode cX9_holds 81 = .ok (.bipush (-38), 2) := by decide +kernel
theorem dX9_holds_83 : decode cX9_holds 83 = .ok (.if_icmp .ne 31, 3) := by decide +kernel
theorem dX9_holds_86 : decode cX9_holds 86 = .ok (.aload_n 0, 1) := by decide +kernel
theorem dX9_holds_87 : decode cX9_holds 87 = .ok (.getfield 89, 3) := by decide +kernel
theorem dX9_holds_90 : decode cX9_holds 90 = .ok (.iload_n 3, 1) := by decide +kernel
theorem dX9_holds_91 : decode cX9_holds 91 = .ok (.iconst 1, 1) := by decide +kernel
theorem dX9_holds_92 : decode cX9_holds 92 = .ok (.isub, 1) := by decide +kernel
theorem dX9_holds_93 : decode cX9_holds 93 = .ok (.baload, 1) := by decide +kernel
theorem dX9_holds_94 : decode cX9_holds 94 = .ok (.ifCond .eq 16, 3) := by decide +kernel
theorem dX9_holds_97 : decode cX9_holds 97 = .ok (.aload_n 0, 1) := by decide +kernel
theorem dX9_holds_98 : decode cX9_holds 98 = .ok (.getfield 89, 3) := by decide +kernel
theorem dX9_holds_101 : decode cX9_holds 101 = .ok (.iload_n 3, 1) := by decide +kernel
theorem dX9_holds_102 : decode cX9_holds 102 = .ok (.baload, 1) := by decide +kernel
theorem dX9_holds_103 : decode cX9_holds 103 = .ok (.ifCond .eq 7, 3) := by decide +kernel
theorem dX9_holds_106 : decode cX9_holds 106 = .ok (.iconst 1, 1) := by decide +kernel
theorem dX9_holds_107 : decode cX9_holds 107 = .ok (.goto 32, 3) := by decide +kernel
theorem dX9_holds_110 : decode cX9_holds 110 = .ok (.iconst 0, 1) := by decide +kernel
theorem dX9_holds_111 : decode cX9_holds 111 = .ok (.goto 28, 3) := by decide +kernel
theorem dX9_holds_114 : decode cX9_holds 114 = .ok (.aload_n 0, 1) := by decide +kernel
theorem dX9_holds_115 : decode cX9_holds 115 = .ok (.getfield 89, 3) := by decide +kernel
theorem dX9_holds_118 : decode cX9_holds 118 = .ok (.iload_n 3, 1) := by decide +kernel
theorem dX9_holds_119 : decode cX9_holds 119 = .ok (.iconst 1, 1) := by decide +kernel
theorem dX9_holds_120 : decode cX9_holds 120 = .ok (.isub, 1) := by decide +kernel
theorem dX9_holds_121 : decode cX9_holds 121 = .ok (.baload, 1) := by decide +kernel
theorem dX9_holds_122 : decode cX9_holds 122 = .ok (.ifCond .ne 12, 3) := by decide +kernel
theorem dX9_holds_125 : decode cX9_holds 125 = .ok (.aload_n 0, 1) := by decide +kernel
theorem dX9_holds_126 : decode cX9_holds 126 = .ok (.getfield 89, 3) := by decide +kernel
theorem dX9_holds_129 : decode cX9_holds 129 = .ok (.iload_n 3, 1) := by decide +kernel
theorem dX9_holds_130 : decode cX9_holds 130 = .ok (.baload, 1) := by decide +kernel
theorem dX9_holds_131 : decode cX9_holds 131 = .ok (.ifCond .eq 7, 3) := by decide +kernel
theorem dX9_holds_134 : decode cX9_holds 134 = .ok (.iconst 1, 1) := by decide +kernel
theorem dX9_holds_135 : decode cX9_holds 135 = .ok (.goto 4, 3) := by decide +kernel
theorem dX9_holds_138 : decode cX9_holds 138 = .ok (.iconst 0, 1) := by decide +kernel
theorem dX9_holds_139 : decode cX9_holds 139 = .ok (.bastore, 1) := by decide +kernel
theorem dX9_holds_140 : decode cX9_holds 140 = .ok (.goto 97, 3) := by decide +kernel
theorem dX9_holds_143 : decode cX9_holds 143 = .ok (.aload_n 0, 1) := by decide +kernel
theorem dX9_holds_144 : decode cX9_holds 144 = .ok (.iload 5, 2) := by decide +kernel
theorem dX9_holds_146 : decode cX9_holds 146 = .ok (.sipush 1000, 3) := by decide +kernel
theorem dX9_holds_149 : decode cX9_holds 149 = .ok (.idiv, 1) := by decide +kernel
theorem dX9_holds_150 : decode cX9_holds 150 = .ok (.iload_n 2, 1) := by decide +kernel
theorem dX9_holds_151 : decode cX9_holds 151 = .ok (.invokevirtual 270, 3) := by decide +kernel
theorem dX9_holds_154 : decode cX9_holds 154 = .ok (.istore 6, 2) := by decide +kernel
theorem dX9_holds_156 : decode cX9_holds 156 = .ok (.iload 5, 2) := by decide +kernel
theorem dX9_holds_158 : decode cX9_holds 158 = .ok (.bipush 100, 2) := by decide +kernel
theorem dX9_holds_160 : decode cX9_holds 160 = .ok (.idiv, 1) := by decide +kernel
theorem dX9_holds_161 : decode cX9_holds 161 = .ok (.bipush 10, 2) := by decide +kernel
theorem dX9_holds_163 : decode cX9_holds 163 = .ok (.irem, 1) := by decide +kernel
theorem dX9_holds_164 : decode cX9_holds 164 = .ok (.istore 7, 2) := by decide +kernel
theorem dX9_holds_166 : decode cX9_holds 166 = .ok (.aload_n 0, 1) := by decide +kernel
theorem dX9_holds_167 : decode cX9_holds 167 = .ok (.getfield 89, 3) := by decide +kernel
theorem dX9_holds_170 : decode cX9_holds 170 = .ok (.iload_n 3, 1) := by decide +kernel
theorem dX9_holds_171 : decode cX9_holds 171 = .ok (.iload 7, 2) := by decide +kernel
theorem dX9_holds_173 : decode cX9_holds 173 = .ok (.ifCond .ne 21, 3) := by decide +kernel
theorem dX9_holds_176 : decode cX9_holds 176 = .ok (.iload 6, 2) := by decide +kernel
theorem dX9_holds_178 : decode cX9_holds 178 = .ok (.iload 5, 2) := by decide +kernel
theorem dX9_holds_180 : decode cX9_holds 180 = .ok (.bipush 100, 2) := by decide +kernel
theorem dX9_holds_182 : decode cX9_holds 182 = .ok (.irem, 1) := by decide +kernel
theorem dX9_holds_183 : decode cX9_holds 183 = .ok (.if_icmp .ge 7, 3) := by decide +kernel
theorem dX9_holds_186 : decode cX9_holds 186 = .ok (.iconst 1, 1) := by decide +kernel
theorem dX9_holds_187 : decode cX9_holds 187 = .ok (.goto 46, 3) := by decide +kernel
theorem dX9_holds_190 : decode cX9_holds 190 = .ok (.iconst 0, 1) := by decide +kernel
theorem dX9_holds_191 : decode cX9_holds 191 = .ok (.goto 42, 3) := by decide +kernel
theorem dX9_holds_194 : decode cX9_holds 194 = .ok (.iload 7, 2) := by decide +kernel
theorem dX9_holds_196 : decode cX9_holds 196 = .ok (.iconst 1, 1) := by decide +kernel
theorem dX9_holds_197 : decode cX9_holds 197 = .ok (.if_icmp .ne 21, 3) := by decide +kernel
theorem dX9_holds_200 : decode cX9_holds 200 = .ok (.iload 6, 2) := by decide +kernel
theorem dX9_holds_202 : decode cX9_holds 202 = .ok (.iload 5, 2) := by decide +kernel
theorem dX9_holds_204 : decode cX9_holds 204 = .ok (.bipush 100, 2) := by decide +kernel
theorem dX9_holds_206 : decode cX9_holds 206 = .ok (.irem, 1) := by decide +kernel
theorem dX9_holds_207 : decode cX9_holds 207 = .ok (.if_icmp .ne 7, 3) := by decide +kernel
theorem dX9_holds_210 : decode cX9_holds 210 = .ok (.iconst 1, 1) := by decide +kernel
theorem dX9_holds_211 : decode cX9_holds 211 = .ok (.goto 22, 3) := by decide +kernel
theorem dX9_holds_214 : decode cX9_holds 214 = .ok (.iconst 0, 1) := by decide +kernel
theorem dX9_holds_215 : decode cX9_holds 215 = .ok (.goto 18, 3) := by decide +kernel
theorem dX9_holds_218 : decode cX9_holds 218 = .ok (.iload 6, 2) := by decide +kernel
theorem dX9_holds_220 : decode cX9_holds 220 = .ok (.iload 5, 2) := by decide +kernel
theorem dX9_holds_222 : decode cX9_holds 222 = .ok (.bipush 100, 2) := by decide +kernel
theorem dX9_holds_224 : decode cX9_holds 224 = .ok (.irem, 1) := by decide +kernel
theorem dX9_holds_225 : decode cX9_holds 225 = .ok (.if_icmp .le 7, 3) := by decide +kernel
theorem dX9_holds_228 : decode cX9_holds 228 = .ok (.iconst 1, 1) := by decide +kernel
theorem dX9_holds_229 : decode cX9_holds 229 = .ok (.goto 4, 3) := by decide +kernel
theorem dX9_holds_232 : decode cX9_holds 232 = .ok (.iconst 0, 1) := by decide +kernel
theorem dX9_holds_233 : decode cX9_holds 233 = .ok (.bastore, 1) := by decide +kernel
theorem dX9_holds_234 : decode cX9_holds 234 = .ok (.iinc 3 1, 3) := by decide +kernel
theorem dX9_holds_237 : decode cX9_holds 237 = .ok (.iinc 4 1, 3) := by decide +kernel
theorem dX9_holds_240 : decode cX9_holds 240 = .ok (.goto (-230), 3) := by decide +kernel
theorem dX9_holds_243 : decode cX9_holds 243 = .ok (.aload_n 0, 1) := by decide +kernel
theorem dX9_holds_244 : decode cX9_holds 244 = .ok (.getfield 89, 3) := by decide +kernel
theorem dX9_holds_247 : decode cX9_holds 247 = .ok (.iconst 0, 1) := by decide +kernel
theorem dX9_holds_248 : decode cX9_holds 248 = .ok (.baload, 1) := by decide +kernel
theorem dX9_holds_249 : decode cX9_holds 249 = .ok (.ireturn, 1) := by decide +kernel
def pX9_holds : List (List gm_A) := [[(gm_push (.inl 0)), (gm_istore 3), (gm_aload 0), (gm_getR 9 918), (gm_iload 1), gm_iald, (gm_istore 4), (gm_goto 1)],
  [(gm_iload 4), (gm_aload 0), (gm_getR 9 919), (gm_iload 1), gm_iald, (gm_cge 18), (gm_aload 0), (gm_getR 9 920), (gm_iload 4), gm_iald, (gm_istore 5), (gm_iload 5), (gm_push (.inl (-33))), (gm_cne 4), (gm_aload 0), (gm_getR 9 926), (gm_iload 3), (gm_push (.inl 1)), (gm_op2 gm_sub), (gm_aload 0), (gm_getR 9 926), (gm_iload 3), (gm_push (.inl 1)), (gm_op2 gm_sub), gm_zald, (gm_ifne 2), (gm_push (.inl 1)), (gm_goto 3)],
  [(gm_push (.inl 0)), (gm_goto 3)],
  [gm_zast, (gm_goto 17)],
  [(gm_iload 5), (gm_ifge 10), (gm_iinc 3 (-1)), (gm_aload 0), (gm_getR 9 926), (gm_iload 3), (gm_push (.inl 1)), (gm_op2 gm_sub), (gm_iload 5), (gm_push (.inl (-38))), (gm_cne 6), (gm_aload 0), (gm_getR 9 926), (gm_iload 3), (gm_push (.inl 1)), (gm_op2 gm_sub), gm_zald, (gm_ifeq 5), (gm_aload 0), (gm_getR 9 926), (gm_iload 3), gm_zald, (gm_ifeq 5), (gm_push (.inl 1)), (gm_goto 9)],
  [(gm_push (.inl 0)), (gm_goto 9)],
  [(gm_aload 0), (gm_getR 9 926), (gm_iload 3), (gm_push (.inl 1)), (gm_op2 gm_sub), gm_zald, (gm_ifne 7), (gm_aload 0), (gm_getR 9 926), (gm_iload 3), gm_zald, (gm_ifeq 8), (gm_goto 7)],
  [(gm_push (.inl 1)), (gm_goto 9)],
  [(gm_push (.inl 0)), (gm_goto 9)],
  [gm_zast, (gm_goto 17)],
  [(gm_aload 0), (gm_iload 5), (gm_push (.inl 1000)), (gm_quo gm_div), (gm_iload 2), (gm_vcall 9 125 3), (gm_istore 6), (gm_iload 5), (gm_push (.inl 100)), (gm_quo gm_div), (gm_push (.inl 10)), (gm_quo gm_rem), (gm_istore 7), (gm_aload 0), (gm_getR 9 926), (gm_iload 3), (gm_iload 7), (gm_ifne 12), (gm_iload 6), (gm_iload 5), (gm_push (.inl 100)), (gm_quo gm_rem), (gm_cge 11), (gm_push (.inl 1)), (gm_goto 16)],
  [(gm_push (.inl 0)), (gm_goto 16)],
  [(gm_iload 7), (gm_push (.inl 1)), (gm_cne 14), (gm_iload 6), (gm_iload 5), (gm_push (.inl 100)), (gm_quo gm_rem), (gm_cne 13), (gm_push (.inl 1)), (gm_goto 16)],
  [(gm_push (.inl 0)), (gm_goto 16)],
  [(gm_iload 6), (gm_iload 5), (gm_push (.inl 100)), (gm_quo gm_rem), (gm_cle 15), (gm_push (.inl 1)), (gm_goto 16)],
  [(gm_push (.inl 0)), (gm_goto 16)],
  [gm_zast, (gm_iinc 3 1), (gm_goto 17)],
  [(gm_iinc 4 1), (gm_goto 1)],
  [(gm_aload 0), (gm_getR 9 926), (gm_push (.inl 0)), gm_zald, gm_zret]]
def bpX9_holds : Nat → Nat := fun b => ([0, 10, 59, 60, 64, 110, 114, 134, 138, 139, 143, 190, 194, 214, 218, 232, 233, 237, 243] : List Nat).getD b 0
set_option maxRecDepth 100000 in
theorem tX9_holds {D : va_G} {sz : Nat} {ad : Nat → Nat} {cA : Nat → ClassId} {xs : Int → Int} {Ln : Int} {l : Launch} : gm_SB D sz ad cA xs Ln l gm_mt cX9_holds "LongNoonModel" 8 false 2 bpX9_holds 0 pX9_holds :=
  ⟨gm_cn 1 (gm_m_push _) (gm_s_iconst dX9_holds_0) (
    gm_cn 2 (gm_m_istore _) (gm_s_istore_n dX9_holds_1 rfl (by decide)) (
    gm_cn 3 (gm_m_aload _) (gm_s_aload_n dX9_holds_2 rfl) (
    gm_cn 6 (gm_m_getR _ _) (gf_getR_9_18 gw_233 dX9_holds_3) (
    gm_cn 7 (gm_m_iload _) (gm_s_iload_n dX9_holds_6 rfl) (
    gm_cn 8 gm_m_iald (gm_s_iald dX9_holds_7) (
    gm_cn 10 (gm_m_istore _) (gm_s_istore dX9_holds_8 (by decide)) (
    gm_cn 0 (gm_m_goto _) (gm_s_fall (bpc := bpX9_holds) (b := 1) rfl 0) (
    trivial)))))))),
  gm_cn 12 (gm_m_iload _) (gm_s_iload dX9_holds_10) (
    gm_cn 13 (gm_m_aload _) (gm_s_aload_n dX9_holds_12 rfl) (
    gm_cn 16 (gm_m_getR _ _) (gf_getR_9_19 gw_234 dX9_holds_13) (
    gm_cn 17 (gm_m_iload _) (gm_s_iload_n dX9_holds_16 rfl) (
    gm_cn 18 gm_m_iald (gm_s_iald dX9_holds_17) (
    gm_cn 21 (gm_m_cge _) (gm_s_cge (bpc := bpX9_holds) (b := 18) dX9_holds_18 rfl) (
    gm_cn 22 (gm_m_aload _) (gm_s_aload_n dX9_holds_21 rfl) (
    gm_cn 25 (gm_m_getR _ _) (gf_getR_9_20 gw_235 dX9_holds_22) (
    gm_cn 27 (gm_m_iload _) (gm_s_iload dX9_holds_25) (
    gm_cn 28 gm_m_iald (gm_s_iald dX9_holds_27) (
    gm_cn 30 (gm_m_istore _) (gm_s_istore dX9_holds_28 (by decide)) (
    gm_cn 32 (gm_m_iload _) (gm_s_iload dX9_holds_30) (
    gm_cn 34 (gm_m_push _) (gm_s_bipush dX9_holds_32 rfl) (
    gm_cn 37 (gm_m_cne _) (gm_s_cne (bpc := bpX9_holds) (b := 4) dX9_holds_34 rfl) (
    gm_cn 38 (gm_m_aload _) (gm_s_aload_n dX9_holds_37 rfl) (
    gm_cn 41 (gm_m_getR _ _) (gf_getR_9_26 gw_242 dX9_holds_38) (
    gm_cn 42 (gm_m_iload _) (gm_s_iload_n dX9_holds_41 rfl) (
    gm_cn 43 (gm_m_push _) (gm_s_iconst dX9_holds_42) (
    gm_cn 44 (gm_m_op2 _) (gm_s_isub dX9_holds_43) (
    gm_cn 45 (gm_m_aload _) (gm_s_aload_n dX9_holds_44 rfl) (
    gm_cn 48 (gm_m_getR _ _) (gf_getR_9_26 gw_242 dX9_holds_45) (
    gm_cn 49 (gm_m_iload _) (gm_s_iload_n dX9_holds_48 rfl) (
    gm_cn 50 (gm_m_push _) (gm_s_iconst dX9_holds_49) (
    gm_cn 51 (gm_m_op2 _) (gm_s_isub dX9_holds_50) (
    gm_cn 52 gm_m_zald (gm_s_zald dX9_holds_51) (
    gm_cn 55 (gm_m_ifne _) (gm_s_ifne (bpc := bpX9_holds) (b := 2) dX9_holds_52 rfl) (
    gm_cn 56 (gm_m_push _) (gm_s_iconst dX9_holds_55) (
    gm_cn 0 (gm_m_goto _) (gm_s_goto (bpc := bpX9_holds) (b := 3) dX9_holds_56 rfl 0) (
    trivial)))))))))))))))))))))))))))),
  gm_cn 60 (gm_m_push _) (gm_s_iconst dX9_holds_59) (
    gm_cn 0 (gm_m_goto _) (gm_s_fall (bpc := bpX9_holds) (b := 3) rfl 0) (
    trivial)),
  gm_cn 61 gm_m_zast (gm_s_zast dX9_holds_60) (
    gm_cn 0 (gm_m_goto _) (gm_s_goto (bpc := bpX9_holds) (b := 17) dX9_holds_61 rfl 0) (
    trivial)),
  gm_cn 66 (gm_m_iload _) (gm_s_iload dX9_holds_64) (
    gm_cn 69 (gm_m_ifge _) (gm_s_ifge (bpc := bpX9_holds) (b := 10) dX9_holds_66 rfl) (
    gm_cn 72 (gm_m_iinc _ _) (gm_s_iinc dX9_holds_69 (by decide)) (
    gm_cn 73 (gm_m_aload _) (gm_s_aload_n dX9_holds_72 rfl) (
    gm_cn 76 (gm_m_getR _ _) (gf_getR_9_26 gw_242 dX9_holds_73) (
    gm_cn 77 (gm_m_iload _) (gm_s_iload_n dX9_holds_76 rfl) (
    gm_cn 78 (gm_m_push _) (gm_s_iconst dX9_holds_77) (
    gm_cn 79 (gm_m_op2 _) (gm_s_isub dX9_holds_78) (
    gm_cn 81 (gm_m_iload _) (gm_s_iload dX9_holds_79) (
    gm_cn 83 (gm_m_push _) (gm_s_bipush dX9_holds_81 rfl) (
    gm_cn 86 (gm_m_cne _) (gm_s_cne (bpc := bpX9_holds) (b := 6) dX9_holds_83 rfl) (
    gm_cn 87 (gm_m_aload _) (gm_s_aload_n dX9_holds_86 rfl) (
    gm_cn 90 (gm_m_getR _ _) (gf_getR_9_26 gw_242 dX9_holds_87) (
    gm_cn 91 (gm_m_iload _) (gm_s_iload_n dX9_holds_90 rfl) (
    gm_cn 92 (gm_m_push _) (gm_s_iconst dX9_holds_91) (
    gm_cn 93 (gm_m_op2 _) (gm_s_isub dX9_holds_92) (
    gm_cn 94 gm_m_zald (gm_s_zald dX9_holds_93) (
    gm_cn 97 (gm_m_ifeq _) (gm_s_ifeq (bpc := bpX9_holds) (b := 5) dX9_holds_94 rfl) (
    gm_cn 98 (gm_m_aload _) (gm_s_aload_n dX9_holds_97 rfl) (
    gm_cn 101 (gm_m_getR _ _) (gf_getR_9_26 gw_242 dX9_holds_98) (
    gm_cn 102 (gm_m_iload _) (gm_s_iload_n dX9_holds_101 rfl) (
    gm_cn 103 gm_m_zald (gm_s_zald dX9_holds_102) (
    gm_cn 106 (gm_m_ifeq _) (gm_s_ifeq (bpc := bpX9_holds) (b := 5) dX9_holds_103 rfl) (
    gm_cn 107 (gm_m_push _) (gm_s_iconst dX9_holds_106) (
    gm_cn 0 (gm_m_goto _) (gm_s_goto (bpc := bpX9_holds) (b := 9) dX9_holds_107 rfl 0) (
    trivial))))))))))))))))))))))))),
  gm_cn 111 (gm_m_push _) (gm_s_iconst dX9_holds_110) (
    gm_cn 0 (gm_m_goto _) (gm_s_goto (bpc := bpX9_holds) (b := 9) dX9_holds_111 rfl 0) (
    trivial)),
  gm_cn 115 (gm_m_aload _) (gm_s_aload_n dX9_holds_114 rfl) (
    gm_cn 118 (gm_m_getR _ _) (gf_getR_9_26 gw_242 dX9_holds_115) (
    gm_cn 119 (gm_m_iload _) (gm_s_iload_n dX9_holds_118 rfl) (
    gm_cn 120 (gm_m_push _) (gm_s_iconst dX9_holds_119) (
    gm_cn 121 (gm_m_op2 _) (gm_s_isub dX9_holds_120) (
    gm_cn 122 gm_m_zald (gm_s_zald dX9_holds_121) (
    gm_cn 125 (gm_m_ifne _) (gm_s_ifne (bpc := bpX9_holds) (b := 7) dX9_holds_122 rfl) (
    gm_cn 126 (gm_m_aload _) (gm_s_aload_n dX9_holds_125 rfl) (
    gm_cn 129 (gm_m_getR _ _) (gf_getR_9_26 gw_242 dX9_holds_126) (
    gm_cn 130 (gm_m_iload _) (gm_s_iload_n dX9_holds_129 rfl) (
    gm_cn 131 gm_m_zald (gm_s_zald dX9_holds_130) (
    gm_cn 134 (gm_m_ifeq _) (gm_s_ifeq (bpc := bpX9_holds) (b := 8) dX9_holds_131 rfl) (
    gm_cn 0 (gm_m_goto _) (gm_s_fall (bpc := bpX9_holds) (b := 7) rfl 0) (
    trivial))))))))))))),
  gm_cn 135 (gm_m_push _) (gm_s_iconst dX9_holds_134) (
    gm_cn 0 (gm_m_goto _) (gm_s_goto (bpc := bpX9_holds) (b := 9) dX9_holds_135 rfl 0) (
    trivial)),
  gm_cn 139 (gm_m_push _) (gm_s_iconst dX9_holds_138) (
    gm_cn 0 (gm_m_goto _) (gm_s_fall (bpc := bpX9_holds) (b := 9) rfl 0) (
    trivial)),
  gm_cn 140 gm_m_zast (gm_s_zast dX9_holds_139) (
    gm_cn 0 (gm_m_goto _) (gm_s_goto (bpc := bpX9_holds) (b := 17) dX9_holds_140 rfl 0) (
    trivial)),
  gm_cn 144 (gm_m_aload _) (gm_s_aload_n dX9_holds_143 rfl) (
    gm_cn 146 (gm_m_iload _) (gm_s_iload dX9_holds_144) (
    gm_cn 149 (gm_m_push _) (gm_s_sipush dX9_holds_146 rfl) (
    gm_cn 150 (gm_m_quo _) (gm_s_idiv dX9_holds_149) (
    gm_cn 151 (gm_m_iload _) (gm_s_iload_n dX9_holds_150 rfl) (
    gm_cn 154 (gm_m_vcall _ _ _) (gcl_X9_factOf gw_299 dX9_holds_151) (
    gm_cn 156 (gm_m_istore _) (gm_s_istore dX9_holds_154 (by decide)) (
    gm_cn 158 (gm_m_iload _) (gm_s_iload dX9_holds_156) (
    gm_cn 160 (gm_m_push _) (gm_s_bipush dX9_holds_158 rfl) (
    gm_cn 161 (gm_m_quo _) (gm_s_idiv dX9_holds_160) (
    gm_cn 163 (gm_m_push _) (gm_s_bipush dX9_holds_161 rfl) (
    gm_cn 164 (gm_m_quo _) (gm_s_irem dX9_holds_163) (
    gm_cn 166 (gm_m_istore _) (gm_s_istore dX9_holds_164 (by decide)) (
    gm_cn 167 (gm_m_aload _) (gm_s_aload_n dX9_holds_166 rfl) (
    gm_cn 170 (gm_m_getR _ _) (gf_getR_9_26 gw_242 dX9_holds_167) (
    gm_cn 171 (gm_m_iload _) (gm_s_iload_n dX9_holds_170 rfl) (
    gm_cn 173 (gm_m_iload _) (gm_s_iload dX9_holds_171) (
    gm_cn 176 (gm_m_ifne _) (gm_s_ifne (bpc := bpX9_holds) (b := 12) dX9_holds_173 rfl) (
    gm_cn 178 (gm_m_iload _) (gm_s_iload dX9_holds_176) (
    gm_cn 180 (gm_m_iload _) (gm_s_iload dX9_holds_178) (
    gm_cn 182 (gm_m_push _) (gm_s_bipush dX9_holds_180 rfl) (
    gm_cn 183 (gm_m_quo _) (gm_s_irem dX9_holds_182) (
    gm_cn 186 (gm_m_cge _) (gm_s_cge (bpc := bpX9_holds) (b := 11) dX9_holds_183 rfl) (
    gm_cn 187 (gm_m_push _) (gm_s_iconst dX9_holds_186) (
    gm_cn 0 (gm_m_goto _) (gm_s_goto (bpc := bpX9_holds) (b := 16) dX9_holds_187 rfl 0) (
    trivial))))))))))))))))))))))))),
  gm_cn 191 (gm_m_push _) (gm_s_iconst dX9_holds_190) (
    gm_cn 0 (gm_m_goto _) (gm_s_goto (bpc := bpX9_holds) (b := 16) dX9_holds_191 rfl 0) (
    trivial)),
  gm_cn 196 (gm_m_iload _) (gm_s_iload dX9_holds_194) (
    gm_cn 197 (gm_m_push _) (gm_s_iconst dX9_holds_196) (
    gm_cn 200 (gm_m_cne _) (gm_s_cne (bpc := bpX9_holds) (b := 14) dX9_holds_197 rfl) (
    gm_cn 202 (gm_m_iload _) (gm_s_iload dX9_holds_200) (
    gm_cn 204 (gm_m_iload _) (gm_s_iload dX9_holds_202) (
    gm_cn 206 (gm_m_push _) (gm_s_bipush dX9_holds_204 rfl) (
    gm_cn 207 (gm_m_quo _) (gm_s_irem dX9_holds_206) (
    gm_cn 210 (gm_m_cne _) (gm_s_cne (bpc := bpX9_holds) (b := 13) dX9_holds_207 rfl) (
    gm_cn 211 (gm_m_push _) (gm_s_iconst dX9_holds_210) (
    gm_cn 0 (gm_m_goto _) (gm_s_goto (bpc := bpX9_holds) (b := 16) dX9_holds_211 rfl 0) (
    trivial)))))))))),
  gm_cn 215 (gm_m_push _) (gm_s_iconst dX9_holds_214) (
    gm_cn 0 (gm_m_goto _) (gm_s_goto (bpc := bpX9_holds) (b := 16) dX9_holds_215 rfl 0) (
    trivial)),
  gm_cn 220 (gm_m_iload _) (gm_s_iload dX9_holds_218) (
    gm_cn 222 (gm_m_iload _) (gm_s_iload dX9_holds_220) (
    gm_cn 224 (gm_m_push _) (gm_s_bipush dX9_holds_222 rfl) (
    gm_cn 225 (gm_m_quo _) (gm_s_irem dX9_holds_224) (
    gm_cn 228 (gm_m_cle _) (gm_s_cle (bpc := bpX9_holds) (b := 15) dX9_holds_225 rfl) (
    gm_cn 229 (gm_m_push _) (gm_s_iconst dX9_holds_228) (
    gm_cn 0 (gm_m_goto _) (gm_s_goto (bpc := bpX9_holds) (b := 16) dX9_holds_229 rfl 0) (
    trivial))))))),
  gm_cn 233 (gm_m_push _) (gm_s_iconst dX9_holds_232) (
    gm_cn 0 (gm_m_goto _) (gm_s_fall (bpc := bpX9_holds) (b := 16) rfl 0) (
    trivial)),
  gm_cn 234 gm_m_zast (gm_s_zast dX9_holds_233) (
    gm_cn 237 (gm_m_iinc _ _) (gm_s_iinc dX9_holds_234 (by decide)) (
    gm_cn 0 (gm_m_goto _) (gm_s_fall (bpc := bpX9_holds) (b := 17) rfl 0) (
    trivial))),
  gm_cn 240 (gm_m_iinc _ _) (gm_s_iinc dX9_holds_237 (by decide)) (
    gm_cn 0 (gm_m_goto _) (gm_s_goto (bpc := bpX9_holds) (b := 1) dX9_holds_240 rfl 0) (
    trivial)),
  gm_cn 244 (gm_m_aload _) (gm_s_aload_n dX9_holds_243 rfl) (
    gm_cn 247 (gm_m_getR _ _) (gf_getR_9_26 gw_242 dX9_holds_244) (
    gm_cn 248 (gm_m_push _) (gm_s_iconst dX9_holds_247) (
    gm_cn 249 gm_m_zald (gm_s_zald dX9_holds_248) (
    gm_cn 0 gm_m_zret (gm_s_zret dX9_holds_249 rfl 0) (
    trivial))))), trivial⟩
theorem dX9_sumOf_0 : decode cX9_sumOf 0 = .ok (.iconst 0, 1) := by decide +kernel
theorem dX9_sumOf_1 : decode cX9_sumOf 1 = .ok (.istore_n 3, 1) := by decide +kernel
theorem dX9_sumOf_2 : decode cX9_sumOf 2 = .ok (.iconst 0, 1) := by decide +kernel
theorem dX9_sumOf_3 : decode cX9_sumOf 3 = .ok (.istore 4, 2) := by decide +kernel
theorem dX9_sumOf_5 : decode cX9_sumOf 5 = .ok (.aload_n 0, 1) := by decide +kernel
theorem dX9_sumOf_6 : decode cX9_sumOf 6 = .ok (.invokevirtual 264, 3) := by decide +kernel
theorem dX9_sumOf_9 : decode cX9_sumOf 9 = .ok (.istore 5, 2) := by decide +kernel
theorem dX9_sumOf_11 : decode cX9_sumOf 11 = .ok (.iload 5, 2) := by decide +kernel
theorem dX9_sumOf_13 : decode cX9_sumOf 13 = .ok (.aload_n 0, 1) := by decide +kernel
theorem dX9_sumOf_14 : decode cX9_sumOf 14 = .ok (.invokevirtual 267, 3) := by decide +kernel
theorem dX9_sumOf_17 : decode cX9_sumOf 17 = .ok (.if_icmp .ge 50, 3) := by decide +kernel
theorem dX9_sumOf_20 : decode cX9_sumOf 20 = .ok (.aload_n 0, 1) := by decide +kernel
theorem dX9_sumOf_21 : decode cX9_sumOf 21 = .ok (.getfield 59, 3) := by decide +kernel
theorem dX9_sumOf_24 : decode cX9_sumOf 24 = .ok (.iload 5, 2) := by decide +kernel
theorem dX9_sumOf_26 : decode cX9_sumOf 26 = .ok (.iaload, 1) := by decide +kernel
theorem dX9_sumOf_27 : decode cX9_sumOf 27 = .ok (.iload_n 1, 1) := by decide +kernel
theorem dX9_sumOf_28 : decode cX9_sumOf 28 = .ok (.if_icmp .eq 6, 3) := by decide +kernel
theorem dX9_sumOf_31 : decode cX9_sumOf 31 = .ok (.goto 30, 3) := by decide +kernel
theorem dX9_sumOf_34 : decode cX9_sumOf 34 = .ok (.iconst 1, 1) := by decide +kernel
theorem dX9_sumOf_35 : decode cX9_sumOf 35 = .ok (.istore 4, 2) := by decide +kernel
theorem dX9_sumOf_37 : decode cX9_sumOf 37 = .ok (.iload_n 3, 1) := by decide +kernel
theorem dX9_sumOf_38 : decode cX9_sumOf 38 = .ok (.aload_n 0, 1) := by decide +kernel
theorem dX9_sumOf_39 : decode cX9_sumOf 39 = .ok (.iload 5, 2) := by decide +kernel
theorem dX9_sumOf_41 : decode cX9_sumOf 41 = .ok (.iload_n 2, 1) := by decide +kernel
theorem dX9_sumOf_42 : decode cX9_sumOf 42 = .ok (.invokevirtual 274, 3) := by decide +kernel
theorem dX9_sumOf_45 : decode cX9_sumOf 45 = .ok (.ifCond .eq 13, 3) := by decide +kernel
theorem dX9_sumOf_48 : decode cX9_sumOf 48 = .ok (.aload_n 0, 1) := by decide +kernel
theorem dX9_sumOf_49 : decode cX9_sumOf 49 = .ok (.getfield 62, 3) := by decide +kernel
theorem dX9_sumOf_52 : decode cX9_sumOf 52 = .ok (.iload 5, 2) := by decide +kernel
theorem dX9_sumOf_54 : decode cX9_sumOf 54 = .ok (.iaload, 1) := by decide +kernel
theorem dX9_sumOf_55 : decode cX9_sumOf 55 = .ok (.goto 4, 3) := by decide +kernel
theorem dX9_sumOf_58 : decode cX9_sumOf 58 = .ok (.iconst 0, 1) := by decide +kernel
theorem dX9_sumOf_59 : decode cX9_sumOf 59 = .ok (.iadd, 1) := by decide +kernel
theorem dX9_sumOf_60 : decode cX9_sumOf 60 = .ok (.istore_n 3, 1) := by decide +kernel
theorem dX9_sumOf_61 : decode cX9_sumOf 61 = .ok (.iinc 5 1, 3) := by decide +kernel
theorem dX9_sumOf_64 : decode cX9_sumOf 64 = .ok (.goto (-53), 3) := by decide +kernel
theorem dX9_sumOf_67 : decode cX9_sumOf 67 = .ok (.iload 4, 2) := by decide +kernel
theorem dX9_sumOf_69 : decode cX9_sumOf 69 = .ok (.ifCond .eq 7, 3) := by decide +kernel
theorem dX9_sumOf_72 : decode cX9_sumOf 72 = .ok (.iload_n 3, 1) := by decide +kernel
theorem dX9_sumOf_73 : decode cX9_sumOf 73 = .ok (.goto 5, 3) := by decide +kernel
theorem dX9_sumOf_76 : decode cX9_sumOf 76 = .ok (.bipush 10, 2) := by decide +kernel
theorem dX9_sumOf_78 : decode cX9_sumOf 78 = .ok (.ireturn, 1) := by decide +kernel
def pX9_sumOf : List (List gm_A) := [[(gm_push (.inl 0)), (gm_istore 3), (gm_push (.inl 0)), (gm_istore 4), (gm_aload 0), (gm_vcall 9 122 1), (gm_istore 5), (gm_goto 1)],
  [(gm_iload 5), (gm_aload 0), (gm_vcall 9 123 1), (gm_cge 6), (gm_aload 0), (gm_getR 9 916), (gm_iload 5), gm_iald, (gm_iload 1), (gm_ceq 2), (gm_goto 5)],
  [(gm_push (.inl 1)), (gm_istore 4), (gm_iload 3), (gm_aload 0), (gm_iload 5), (gm_iload 2), (gm_vcall 9 126 3), (gm_ifeq 3), (gm_aload 0), (gm_getR 9 917), (gm_iload 5), gm_iald, (gm_goto 4)],
  [(gm_push (.inl 0)), (gm_goto 4)],
  [(gm_op2 gm_add), (gm_istore 3), (gm_goto 5)],
  [(gm_iinc 5 1), (gm_goto 1)],
  [(gm_iload 4), (gm_ifeq 7), (gm_iload 3), (gm_goto 8)],
  [(gm_push (.inl 10)), (gm_goto 8)],
  [gm_iret]]
def bpX9_sumOf : Nat → Nat := fun b => ([0, 11, 34, 58, 59, 61, 67, 76, 78] : List Nat).getD b 0
set_option maxRecDepth 100000 in
theorem tX9_sumOf {D : va_G} {sz : Nat} {ad : Nat → Nat} {cA : Nat → ClassId} {xs : Int → Int} {Ln : Int} {l : Launch} : gm_SB D sz ad cA xs Ln l gm_mt cX9_sumOf "LongNoonModel" 6 false 1 bpX9_sumOf 0 pX9_sumOf :=
  ⟨gm_cn 1 (gm_m_push _) (gm_s_iconst dX9_sumOf_0) (
    gm_cn 2 (gm_m_istore _) (gm_s_istore_n dX9_sumOf_1 rfl (by decide)) (
    gm_cn 3 (gm_m_push _) (gm_s_iconst dX9_sumOf_2) (
    gm_cn 5 (gm_m_istore _) (gm_s_istore dX9_sumOf_3 (by decide)) (
    gm_cn 6 (gm_m_aload _) (gm_s_aload_n dX9_sumOf_5 rfl) (
    gm_cn 9 (gm_m_vcall _ _ _) (gcl_X9_begin gw_297 dX9_sumOf_6) (
    gm_cn 11 (gm_m_istore _) (gm_s_istore dX9_sumOf_9 (by decide)) (
    gm_cn 0 (gm_m_goto _) (gm_s_fall (bpc := bpX9_sumOf) (b := 1) rfl 0) (
    trivial)))))))),
  gm_cn 13 (gm_m_iload _) (gm_s_iload dX9_sumOf_11) (
    gm_cn 14 (gm_m_aload _) (gm_s_aload_n dX9_sumOf_13 rfl) (
    gm_cn 17 (gm_m_vcall _ _ _) (gcl_X9_behind gw_298 dX9_sumOf_14) (
    gm_cn 20 (gm_m_cge _) (gm_s_cge (bpc := bpX9_sumOf) (b := 6) dX9_sumOf_17 rfl) (
    gm_cn 21 (gm_m_aload _) (gm_s_aload_n dX9_sumOf_20 rfl) (
    gm_cn 24 (gm_m_getR _ _) (gf_getR_9_16 gw_231 dX9_sumOf_21) (
    gm_cn 26 (gm_m_iload _) (gm_s_iload dX9_sumOf_24) (
    gm_cn 27 gm_m_iald (gm_s_iald dX9_sumOf_26) (
    gm_cn 28 (gm_m_iload _) (gm_s_iload_n dX9_sumOf_27 rfl) (
    gm_cn 31 (gm_m_ceq _) (gm_s_ceq (bpc := bpX9_sumOf) (b := 2) dX9_sumOf_28 rfl) (
    gm_cn 0 (gm_m_goto _) (gm_s_goto (bpc := bpX9_sumOf) (b := 5) dX9_sumOf_31 rfl 0) (
    trivial))))))))))),
  gm_cn 35 (gm_m_push _) (gm_s_iconst dX9_sumOf_34) (
    gm_cn 37 (gm_m_istore _) (gm_s_istore dX9_sumOf_35 (by decide)) (
    gm_cn 38 (gm_m_iload _) (gm_s_iload_n dX9_sumOf_37 rfl) (
    gm_cn 39 (gm_m_aload _) (gm_s_aload_n dX9_sumOf_38 rfl) (
    gm_cn 41 (gm_m_iload _) (gm_s_iload dX9_sumOf_39) (
    gm_cn 42 (gm_m_iload _) (gm_s_iload_n dX9_sumOf_41 rfl) (
    gm_cn 45 (gm_m_vcall _ _ _) (gcl_X9_holds gw_300 dX9_sumOf_42) (
    gm_cn 48 (gm_m_ifeq _) (gm_s_ifeq (bpc := bpX9_sumOf) (b := 3) dX9_sumOf_45 rfl) (
    gm_cn 49 (gm_m_aload _) (gm_s_aload_n dX9_sumOf_48 rfl) (
    gm_cn 52 (gm_m_getR _ _) (gf_getR_9_17 gw_232 dX9_sumOf_49) (
    gm_cn 54 (gm_m_iload _) (gm_s_iload dX9_sumOf_52) (
    gm_cn 55 gm_m_iald (gm_s_iald dX9_sumOf_54) (
    gm_cn 0 (gm_m_goto _) (gm_s_goto (bpc := bpX9_sumOf) (b := 4) dX9_sumOf_55 rfl 0) (
    trivial))))))))))))),
  gm_cn 59 (gm_m_push _) (gm_s_iconst dX9_sumOf_58) (
    gm_cn 0 (gm_m_goto _) (gm_s_fall (bpc := bpX9_sumOf) (b := 4) rfl 0) (
    trivial)),
  gm_cn 60 (gm_m_op2 _) (gm_s_iadd dX9_sumOf_59) (
    gm_cn 61 (gm_m_istore _) (gm_s_istore_n dX9_sumOf_60 rfl (by decide)) (
    gm_cn 0 (gm_m_goto _) (gm_s_fall (bpc := bpX9_sumOf) (b := 5) rfl 0) (
    trivial))),
  gm_cn 64 (gm_m_iinc _ _) (gm_s_iinc dX9_sumOf_61 (by decide)) (
    gm_cn 0 (gm_m_goto _) (gm_s_goto (bpc := bpX9_sumOf) (b := 1) dX9_sumOf_64 rfl 0) (
    trivial)),
  gm_cn 69 (gm_m_iload _) (gm_s_iload dX9_sumOf_67) (
    gm_cn 72 (gm_m_ifeq _) (gm_s_ifeq (bpc := bpX9_sumOf) (b := 7) dX9_sumOf_69 rfl) (
    gm_cn 73 (gm_m_iload _) (gm_s_iload_n dX9_sumOf_72 rfl) (
    gm_cn 0 (gm_m_goto _) (gm_s_goto (bpc := bpX9_sumOf) (b := 8) dX9_sumOf_73 rfl 0) (
    trivial)))),
  gm_cn 78 (gm_m_push _) (gm_s_bipush dX9_sumOf_76 rfl) (
    gm_cn 0 (gm_m_goto _) (gm_s_fall (bpc := bpX9_sumOf) (b := 8) rfl 0) (
    trivial)),
  gm_cn 0 gm_m_iret (gm_s_iret dX9_sumOf_78 rfl 0) (
    trivial), trivial⟩
theorem dX9_isLight_0 : decode cX9_isLight 0 = .ok (.aload_n 0, 1) := by decide +kernel
theorem dX9_isLight_1 : decode cX9_isLight 1 = .ok (.getfield 13, 3) := by decide +kernel
theorem dX9_isLight_4 : decode cX9_isLight 4 = .ok (.bipush 28, 2) := by decide +kernel
theorem dX9_isLight_6 : decode cX9_isLight 6 = .ok (.irem, 1) := by decide +kernel
theorem dX9_isLight_7 : decode cX9_isLight 7 = .ok (.bipush 14, 2) := by decide +kernel
theorem dX9_isLight_9 : decode cX9_isLight 9 = .ok (.if_icmp .ge 7, 3) := by decide +kernel
theorem dX9_isLight_12 : decode cX9_isLight 12 = .ok (.iconst 1, 1) := by decide +kernel
theorem dX9_isLight_13 : decode cX9_isLight 13 = .ok (.goto 4, 3) := by decide +kernel
theorem dX9_isLight_16 : decode cX9_isLight 16 = .ok (.iconst 0, 1) := by decide +kernel
theorem dX9_isLight_17 : decode cX9_isLight 17 = .ok (.ireturn, 1) := by decide +kernel
def pX9_isLight : List (List gm_A) := [[(gm_aload 0), (gm_getI 9 901), (gm_push (.inl 28)), (gm_quo gm_rem), (gm_push (.inl 14)), (gm_cge 1), (gm_push (.inl 1)), (gm_goto 2)],
  [(gm_push (.inl 0)), (gm_goto 2)],
  [gm_zret]]
def bpX9_isLight : Nat → Nat := fun b => ([0, 16, 17] : List Nat).getD b 0
set_option maxRecDepth 100000 in
theorem tX9_isLight {D : va_G} {sz : Nat} {ad : Nat → Nat} {cA : Nat → ClassId} {xs : Int → Int} {Ln : Int} {l : Launch} : gm_SB D sz ad cA xs Ln l gm_mt cX9_isLight "LongNoonModel" 1 false 2 bpX9_isLight 0 pX9_isLight :=
  ⟨gm_cn 1 (gm_m_aload _) (gm_s_aload_n dX9_isLight_0 rfl) (
    gm_cn 4 (gm_m_getI _ _) (gf_getI_9_1 gw_216 dX9_isLight_1) (
    gm_cn 6 (gm_m_push _) (gm_s_bipush dX9_isLight_4 rfl) (
    gm_cn 7 (gm_m_quo _) (gm_s_irem dX9_isLight_6) (
    gm_cn 9 (gm_m_push _) (gm_s_bipush dX9_isLight_7 rfl) (
    gm_cn 12 (gm_m_cge _) (gm_s_cge (bpc := bpX9_isLight) (b := 1) dX9_isLight_9 rfl) (
    gm_cn 13 (gm_m_push _) (gm_s_iconst dX9_isLight_12) (
    gm_cn 0 (gm_m_goto _) (gm_s_goto (bpc := bpX9_isLight) (b := 2) dX9_isLight_13 rfl 0) (
    trivial)))))))),
  gm_cn 17 (gm_m_push _) (gm_s_iconst dX9_isLight_16) (
    gm_cn 0 (gm_m_goto _) (gm_s_fall (bpc := bpX9_isLight) (b := 2) rfl 0) (
    trivial)),
  gm_cn 0 gm_m_zret (gm_s_zret dX9_isLight_17 rfl 0) (
    trivial), trivial⟩
theorem dX9_sunOf_0 : decode cX9_sunOf 0 = .ok (.aload_n 0, 1) := by decide +kernel
theorem dX9_sunOf_1 : decode cX9_sunOf 1 = .ok (.invokevirtual 277, 3) := by decide +kernel
theorem dX9_sunOf_4 : decode cX9_sunOf 4 = .ok (.ifCond .eq 22, 3) := by decide +kernel
theorem dX9_sunOf_7 : decode cX9_sunOf 7 = .ok (.aload_n 0, 1) := by decide +kernel
theorem dX9_sunOf_8 : decode cX9_sunOf 8 = .ok (.aload_n 0, 1) := by decide +kernel
theorem dX9_sunOf_9 : decode cX9_sunOf 9 = .ok (.getfield 13, 3) := by decide +kernel
theorem dX9_sunOf_12 : decode cX9_sunOf 12 = .ok (.aload_n 0, 1) := by decide +kernel
theorem dX9_sunOf_13 : decode cX9_sunOf 13 = .ok (.getfield 99, 3) := by decide +kernel
theorem dX9_sunOf_16 : decode cX9_sunOf 16 = .ok (.aload_n 0, 1) := by decide +kernel
theorem dX9_sunOf_17 : decode cX9_sunOf 17 = .ok (.getfield 102, 3) := by decide +kernel
theorem dX9_sunOf_20 : decode cX9_sunOf 20 = .ok (.invokevirtual 206, 3) := by decide +kernel
theorem dX9_sunOf_23 : decode cX9_sunOf 23 = .ok (.ifCond .eq 5, 3) := by decide +kernel
theorem dX9_sunOf_26 : decode cX9_sunOf 26 = .ok (.iconst 0, 1) := by decide +kernel
theorem dX9_sunOf_27 : decode cX9_sunOf 27 = .ok (.ireturn, 1) := by decide +kernel
theorem dX9_sunOf_28 : decode cX9_sunOf 28 = .ok (.aload_n 0, 1) := by decide +kernel
theorem dX9_sunOf_29 : decode cX9_sunOf 29 = .ok (.iconst 0, 1) := by decide +kernel
theorem dX9_sunOf_30 : decode cX9_sunOf 30 = .ok (.iload_n 1, 1) := by decide +kernel
theorem dX9_sunOf_31 : decode cX9_sunOf 31 = .ok (.invokevirtual 280, 3) := by decide +kernel
theorem dX9_sunOf_34 : decode cX9_sunOf 34 = .ok (.aload_n 0, 1) := by decide +kernel
theorem dX9_sunOf_35 : decode cX9_sunOf 35 = .ok (.getfield 96, 3) := by decide +kernel
theorem dX9_sunOf_38 : decode cX9_sunOf 38 = .ok (.isub, 1) := by decide +kernel
theorem dX9_sunOf_39 : decode cX9_sunOf 39 = .ok (.istore_n 2, 1) := by decide +kernel
theorem dX9_sunOf_40 : decode cX9_sunOf 40 = .ok (.iload_n 2, 1) := by decide +kernel
theorem dX9_sunOf_41 : decode cX9_sunOf 41 = .ok (.ifCond .ge 7, 3) := by decide +kernel
theorem dX9_sunOf_44 : decode cX9_sunOf 44 = .ok (.iconst 0, 1) := by decide +kernel
theorem dX9_sunOf_45 : decode cX9_sunOf 45 = .ok (.goto 4, 3) := by decide +kernel
theorem dX9_sunOf_48 : decode cX9_sunOf 48 = .ok (.iload_n 2, 1) := by decide +kernel
theorem dX9_sunOf_49 : decode cX9_sunOf 49 = .ok (.ireturn, 1) := by decide +kernel
def pX9_sunOf : List (List gm_A) := [[(gm_aload 0), (gm_vcall 9 128 1), (gm_ifeq 1), (gm_aload 0), (gm_aload 0), (gm_getI 9 901), (gm_aload 0), (gm_getI 9 929), (gm_aload 0), (gm_getI 9 930), (gm_vcall 9 100 4), (gm_ifeq 2), (gm_goto 1)],
  [(gm_push (.inl 0)), gm_iret],
  [(gm_aload 0), (gm_push (.inl 0)), (gm_iload 1), (gm_vcall 9 127 3), (gm_aload 0), (gm_getI 9 928), (gm_op2 gm_sub), (gm_istore 2), (gm_iload 2), (gm_ifge 3), (gm_push (.inl 0)), (gm_goto 4)],
  [(gm_iload 2), (gm_goto 4)],
  [gm_iret]]
def bpX9_sunOf : Nat → Nat := fun b => ([0, 26, 28, 48, 49] : List Nat).getD b 0
set_option maxRecDepth 100000 in
theorem tX9_sunOf {D : va_G} {sz : Nat} {ad : Nat → Nat} {cA : Nat → ClassId} {xs : Int → Int} {Ln : Int} {l : Launch} : gm_SB D sz ad cA xs Ln l gm_mt cX9_sunOf "LongNoonModel" 3 false 1 bpX9_sunOf 0 pX9_sunOf :=
  ⟨gm_cn 1 (gm_m_aload _) (gm_s_aload_n dX9_sunOf_0 rfl) (
    gm_cn 4 (gm_m_vcall _ _ _) (gcl_X9_isLight gw_301 dX9_sunOf_1) (
    gm_cn 7 (gm_m_ifeq _) (gm_s_ifeq (bpc := bpX9_sunOf) (b := 1) dX9_sunOf_4 rfl) (
    gm_cn 8 (gm_m_aload _) (gm_s_aload_n dX9_sunOf_7 rfl) (
    gm_cn 9 (gm_m_aload _) (gm_s_aload_n dX9_sunOf_8 rfl) (
    gm_cn 12 (gm_m_getI _ _) (gf_getI_9_1 gw_216 dX9_sunOf_9) (
    gm_cn 13 (gm_m_aload _) (gm_s_aload_n dX9_sunOf_12 rfl) (
    gm_cn 16 (gm_m_getI _ _) (gf_getI_9_29 gw_245 dX9_sunOf_13) (
    gm_cn 17 (gm_m_aload _) (gm_s_aload_n dX9_sunOf_16 rfl) (
    gm_cn 20 (gm_m_getI _ _) (gf_getI_9_30 gw_246 dX9_sunOf_17) (
    gm_cn 23 (gm_m_vcall _ _ _) (gcl_X9_in gw_280 dX9_sunOf_20) (
    gm_cn 26 (gm_m_ifeq _) (gm_s_ifeq (bpc := bpX9_sunOf) (b := 2) dX9_sunOf_23 rfl) (
    gm_cn 0 (gm_m_goto _) (gm_s_fall (bpc := bpX9_sunOf) (b := 1) rfl 0) (
    trivial))))))))))))),
  gm_cn 27 (gm_m_push _) (gm_s_iconst dX9_sunOf_26) (
    gm_cn 0 gm_m_iret (gm_s_iret dX9_sunOf_27 rfl 0) (
    trivial)),
  gm_cn 29 (gm_m_aload _) (gm_s_aload_n dX9_sunOf_28 rfl) (
    gm_cn 30 (gm_m_push _) (gm_s_iconst dX9_sunOf_29) (
    gm_cn 31 (gm_m_iload _) (gm_s_iload_n dX9_sunOf_30 rfl) (
    gm_cn 34 (gm_m_vcall _ _ _) (gcl_X9_sumOf gw_302 dX9_sunOf_31) (
    gm_cn 35 (gm_m_aload _) (gm_s_aload_n dX9_sunOf_34 rfl) (
    gm_cn 38 (gm_m_getI _ _) (gf_getI_9_28 gw_244 dX9_sunOf_35) (
    gm_cn 39 (gm_m_op2 _) (gm_s_isub dX9_sunOf_38) (
    gm_cn 40 (gm_m_istore _) (gm_s_istore_n dX9_sunOf_39 rfl (by decide)) (
    gm_cn 41 (gm_m_iload _) (gm_s_iload_n dX9_sunOf_40 rfl) (
    gm_cn 44 (gm_m_ifge _) (gm_s_ifge (bpc := bpX9_sunOf) (b := 3) dX9_sunOf_41 rfl) (
    gm_cn 45 (gm_m_push _) (gm_s_iconst dX9_sunOf_44) (
    gm_cn 0 (gm_m_goto _) (gm_s_goto (bpc := bpX9_sunOf) (b := 4) dX9_sunOf_45 rfl 0) (
    trivial)))))))))))),
  gm_cn 49 (gm_m_iload _) (gm_s_iload_n dX9_sunOf_48 rfl) (
    gm_cn 0 (gm_m_goto _) (gm_s_fall (bpc := bpX9_sunOf) (b := 4) rfl 0) (
    trivial)),
  gm_cn 0 gm_m_iret (gm_s_iret dX9_sunOf_49 rfl 0) (
    trivial), trivial⟩
theorem dX9_coldOf_0 : decode cX9_coldOf 0 = .ok (.aload_n 0, 1) := by decide +kernel
theorem dX9_coldOf_1 : decode cX9_coldOf 1 = .ok (.invokevirtual 277, 3) := by decide +kernel
theorem dX9_coldOf_4 : decode cX9_coldOf 4 = .ok (.ifCond .eq 7, 3) := by decide +kernel
theorem dX9_coldOf_7 : decode cX9_coldOf 7 = .ok (.iconst 0, 1) := by decide +kernel
theorem dX9_coldOf_8 : decode cX9_coldOf 8 = .ok (.goto 9, 3) := by decide +kernel
theorem dX9_coldOf_11 : decode cX9_coldOf 11 = .ok (.aload_n 0, 1) := by decide +kernel
theorem dX9_coldOf_12 : decode cX9_coldOf 12 = .ok (.iconst 1, 1) := by decide +kernel
theorem dX9_coldOf_13 : decode cX9_coldOf 13 = .ok (.iload_n 1, 1) := by decide +kernel
theorem dX9_coldOf_14 : decode cX9_coldOf 14 = .ok (.invokevirtual 280, 3) := by decide +kernel
theorem dX9_coldOf_17 : decode cX9_coldOf 17 = .ok (.ireturn, 1) := by decide +kernel
def pX9_coldOf : List (List gm_A) := [[(gm_aload 0), (gm_vcall 9 128 1), (gm_ifeq 1), (gm_push (.inl 0)), (gm_goto 2)],
  [(gm_aload 0), (gm_push (.inl 1)), (gm_iload 1), (gm_vcall 9 127 3), (gm_goto 2)],
  [gm_iret]]
def bpX9_coldOf : Nat → Nat := fun b => ([0, 11, 17] : List Nat).getD b 0
set_option maxRecDepth 100000 in
theorem tX9_coldOf {D : va_G} {sz : Nat} {ad : Nat → Nat} {cA : Nat → ClassId} {xs : Int → Int} {Ln : Int} {l : Launch} : gm_SB D sz ad cA xs Ln l gm_mt cX9_coldOf "LongNoonModel" 2 false 1 bpX9_coldOf 0 pX9_coldOf :=
  ⟨gm_cn 1 (gm_m_aload _) (gm_s_aload_n dX9_coldOf_0 rfl) (
    gm_cn 4 (gm_m_vcall _ _ _) (gcl_X9_isLight gw_301 dX9_coldOf_1) (
    gm_cn 7 (gm_m_ifeq _) (gm_s_ifeq (bpc := bpX9_coldOf) (b := 1) dX9_coldOf_4 rfl) (
    gm_cn 8 (gm_m_push _) (gm_s_iconst dX9_coldOf_7) (
    gm_cn 0 (gm_m_goto _) (gm_s_goto (bpc := bpX9_coldOf) (b := 2) dX9_coldOf_8 rfl 0) (
    trivial))))),
  gm_cn 12 (gm_m_aload _) (gm_s_aload_n dX9_coldOf_11 rfl) (
    gm_cn 13 (gm_m_push _) (gm_s_iconst dX9_coldOf_12) (
    gm_cn 14 (gm_m_iload _) (gm_s_iload_n dX9_coldOf_13 rfl) (
    gm_cn 17 (gm_m_vcall _ _ _) (gcl_X9_sumOf gw_302 dX9_coldOf_14) (
    gm_cn 0 (gm_m_goto _) (gm_s_fall (bpc := bpX9_coldOf) (b := 2) rfl 0) (
    trivial))))),
  gm_cn 0 gm_m_iret (gm_s_iret dX9_coldOf_17 rfl 0) (
    trivial), trivial⟩
theorem dX9_gainOf_0 : decode cX9_gainOf 0 = .ok (.aload_n 0, 1) := by decide +kernel
theorem dX9_gainOf_1 : decode cX9_gainOf 1 = .ok (.iload_n 1, 1) := by decide +kernel
theorem dX9_gainOf_2 : decode cX9_gainOf 2 = .ok (.invokevirtual 283, 3) := by decide +kernel
theorem dX9_gainOf_5 : decode cX9_gainOf 5 = .ok (.istore_n 2, 1) := by decide +kernel
theorem dX9_gainOf_6 : decode cX9_gainOf 6 = .ok (.aload_n 0, 1) := by decide +kernel
theorem dX9_gainOf_7 : decode cX9_gainOf 7 = .ok (.iload_n 1, 1) := by decide +kernel
theorem dX9_gainOf_8 : decode cX9_gainOf 8 = .ok (.invokevirtual 286, 3) := by decide +kernel
theorem dX9_gainOf_11 : decode cX9_gainOf 11 = .ok (.istore_n 3, 1) := by decide +kernel
theorem dX9_gainOf_12 : decode cX9_gainOf 12 = .ok (.aload_n 0, 1) := by decide +kernel
theorem dX9_gainOf_13 : decode cX9_gainOf 13 = .ok (.getfield 16, 3) := by decide +kernel
theorem dX9_gainOf_16 : decode cX9_gainOf 16 = .ok (.iload_n 1, 1) := by decide +kernel
theorem dX9_gainOf_17 : decode cX9_gainOf 17 = .ok (.iaload, 1) := by decide +kernel
theorem dX9_gainOf_18 : decode cX9_gainOf 18 = .ok (.tableswitch 93 1 6 #[38, 93, 44, 50, 63, 69], 38) := by decide +kernel
theorem dX9_gainOf_56 : decode cX9_gainOf 56 = .ok (.iconst 2, 1) := by decide +kernel
theorem dX9_gainOf_57 : decode cX9_gainOf 57 = .ok (.iload_n 2, 1) := by decide +kernel
theorem dX9_gainOf_58 : decode cX9_gainOf 58 = .ok (.imul, 1) := by decide +kernel
theorem dX9_gainOf_59 : decode cX9_gainOf 59 = .ok (.iload_n 3, 1) := by decide +kernel
theorem dX9_gainOf_60 : decode cX9_gainOf 60 = .ok (.isub, 1) := by decide +kernel
theorem dX9_gainOf_61 : decode cX9_gainOf 61 = .ok (.ireturn, 1) := by decide +kernel
theorem dX9_gainOf_62 : decode cX9_gainOf 62 = .ok (.iload_n 2, 1) := by decide +kernel
theorem dX9_gainOf_63 : decode cX9_gainOf 63 = .ok (.iconst 2, 1) := by decide +kernel
theorem dX9_gainOf_64 : decode cX9_gainOf 64 = .ok (.idiv, 1) := by decide +kernel
theorem dX9_gainOf_65 : decode cX9_gainOf 65 = .ok (.iload_n 3, 1) := by decide +kernel
theorem dX9_gainOf_66 : decode cX9_gainOf 66 = .ok (.isub, 1) := by decide +kernel
theorem dX9_gainOf_67 : decode cX9_gainOf 67 = .ok (.ireturn, 1) := by decide +kernel
theorem dX9_gainOf_68 : decode cX9_gainOf 68 = .ok (.iconst 2, 1) := by decide +kernel
theorem dX9_gainOf_69 : decode cX9_gainOf 69 = .ok (.iload_n 2, 1) := by decide +kernel
theorem dX9_gainOf_70 : decode cX9_gainOf 70 = .ok (.imul, 1) := by decide +kernel
theorem dX9_gainOf_71 : decode cX9_gainOf 71 = .ok (.iload_n 3, 1) := by decide +kernel
theorem dX9_gainOf_72 : decode cX9_gainOf 72 = .ok (.isub, 1) := by decide +kernel
theorem dX9_gainOf_73 : decode cX9_gainOf 73 = .ok (.aload_n 0, 1) := by decide +kernel
theorem dX9_gainOf_74 : decode cX9_gainOf 74 = .ok (.getfield 20, 3) := by decide +kernel
theorem dX9_gainOf_77 : decode cX9_gainOf 77 = .ok (.iload_n 1, 1) := by decide +kernel
theorem dX9_gainOf_78 : decode cX9_gainOf 78 = .ok (.iaload, 1) := by decide +kernel
theorem dX9_gainOf_79 : decode cX9_gainOf 79 = .ok (.iadd, 1) := by decide +kernel
theorem dX9_gainOf_80 : decode cX9_gainOf 80 = .ok (.ireturn, 1) := by decide +kernel
theorem dX9_gainOf_81 : decode cX9_gainOf 81 = .ok (.iload_n 2, 1) := by decide +kernel
theorem dX9_gainOf_82 : decode cX9_gainOf 82 = .ok (.iload_n 3, 1) := by decide +kernel
theorem dX9_gainOf_83 : decode cX9_gainOf 83 = .ok (.isub, 1) := by decide +kernel
theorem dX9_gainOf_84 : decode cX9_gainOf 84 = .ok (.iconst 2, 1) := by decide +kernel
theorem dX9_gainOf_85 : decode cX9_gainOf 85 = .ok (.idiv, 1) := by decide +kernel
theorem dX9_gainOf_86 : decode cX9_gainOf 86 = .ok (.ireturn, 1) := by decide +kernel
theorem dX9_gainOf_87 : decode cX9_gainOf 87 = .ok (.iload_n 2, 1) := by decide +kernel
theorem dX9_gainOf_88 : decode cX9_gainOf 88 = .ok (.iconst 2, 1) := by decide +kernel
theorem dX9_gainOf_89 : decode cX9_gainOf 89 = .ok (.idiv, 1) := by decide +kernel
theorem dX9_gainOf_90 : decode cX9_gainOf 90 = .ok (.iload_n 3, 1) := by decide +kernel
theorem dX9_gainOf_91 : decode cX9_gainOf 91 = .ok (.isub, 1) := by decide +kernel
theorem dX9_gainOf_92 : decode cX9_gainOf 92 = .ok (.aload_n 0, 1) := by decide +kernel
theorem dX9_gainOf_93 : decode cX9_gainOf 93 = .ok (.getfield 35, 3) := by decide +kernel
theorem dX9_gainOf_96 : decode cX9_gainOf 96 = .ok (.iconst 4, 1) := by decide +kernel
theorem dX9_gainOf_97 : decode cX9_gainOf 97 = .ok (.iload_n 1, 1) := by decide +kernel
theorem dX9_gainOf_98 : decode cX9_gainOf 98 = .ok (.imul, 1) := by decide +kernel
theorem dX9_gainOf_99 : decode cX9_gainOf 99 = .ok (.aload_n 0, 1) := by decide +kernel
theorem dX9_gainOf_100 : decode cX9_gainOf 100 = .ok (.getfield 13, 3) := by decide +kernel
theorem dX9_gainOf_103 : decode cX9_gainOf 103 = .ok (.iconst 4, 1) := by decide +kernel
theorem dX9_gainOf_104 : decode cX9_gainOf 104 = .ok (.irem, 1) := by decide +kernel
theorem dX9_gainOf_105 : decode cX9_gainOf 105 = .ok (.iadd, 1) := by decide +kernel
theorem dX9_gainOf_106 : decode cX9_gainOf 106 = .ok (.iaload, 1) := by decide +kernel
theorem dX9_gainOf_107 : decode cX9_gainOf 107 = .ok (.iadd, 1) := by decide +kernel
theorem dX9_gainOf_108 : decode cX9_gainOf 108 = .ok (.iconst 4, 1) := by decide +kernel
theorem dX9_gainOf_109 : decode cX9_gainOf 109 = .ok (.isub, 1) := by decide +kernel
theorem dX9_gainOf_110 : decode cX9_gainOf 110 = .ok (.ireturn, 1) := by decide +kernel
theorem dX9_gainOf_111 : decode cX9_gainOf 111 = .ok (.iload_n 2, 1) := by decide +kernel
theorem dX9_gainOf_112 : decode cX9_gainOf 112 = .ok (.iload_n 3, 1) := by decide +kernel
theorem dX9_gainOf_113 : decode cX9_gainOf 113 = .ok (.isub, 1) := by decide +kernel
theorem dX9_gainOf_114 : decode cX9_gainOf 114 = .ok (.ireturn, 1) := by decide +kernel
def pX9_gainOf : List (List gm_A) := [[(gm_aload 0), (gm_iload 1), (gm_vcall 9 129 2), (gm_istore 2), (gm_aload 0), (gm_iload 1), (gm_vcall 9 130 2), (gm_istore 3), (gm_aload 0), (gm_getR 9 902), (gm_iload 1), gm_iald, (gm_switch [(1, 1), (2, 6), (3, 2), (4, 3), (5, 4), (6, 5)] 6)],
  [(gm_push (.inl 2)), (gm_iload 2), (gm_op2 gm_mul), (gm_iload 3), (gm_op2 gm_sub), gm_iret],
  [(gm_iload 2), (gm_push (.inl 2)), (gm_quo gm_div), (gm_iload 3), (gm_op2 gm_sub), gm_iret],
  [(gm_push (.inl 2)), (gm_iload 2), (gm_op2 gm_mul), (gm_iload 3), (gm_op2 gm_sub), (gm_aload 0), (gm_getR 9 903), (gm_iload 1), gm_iald, (gm_op2 gm_add), gm_iret],
  [(gm_iload 2), (gm_iload 3), (gm_op2 gm_sub), (gm_push (.inl 2)), (gm_quo gm_div), gm_iret],
  [(gm_iload 2), (gm_push (.inl 2)), (gm_quo gm_div), (gm_iload 3), (gm_op2 gm_sub), (gm_aload 0), (gm_getR 9 908), (gm_push (.inl 4)), (gm_iload 1), (gm_op2 gm_mul), (gm_aload 0), (gm_getI 9 901), (gm_push (.inl 4)), (gm_quo gm_rem), (gm_op2 gm_add), gm_iald, (gm_op2 gm_add), (gm_push (.inl 4)), (gm_op2 gm_sub), gm_iret],
  [(gm_iload 2), (gm_iload 3), (gm_op2 gm_sub), gm_iret]]
def bpX9_gainOf : Nat → Nat := fun b => ([0, 56, 62, 68, 81, 87, 111] : List Nat).getD b 0
set_option maxRecDepth 100000 in
theorem tX9_gainOf {D : va_G} {sz : Nat} {ad : Nat → Nat} {cA : Nat → ClassId} {xs : Int → Int} {Ln : Int} {l : Launch} : gm_SB D sz ad cA xs Ln l gm_mt cX9_gainOf "LongNoonModel" 4 false 1 bpX9_gainOf 0 pX9_gainOf :=
  ⟨gm_cn 1 (gm_m_aload _) (gm_s_aload_n dX9_gainOf_0 rfl) (
    gm_cn 2 (gm_m_iload _) (gm_s_iload_n dX9_gainOf_1 rfl) (
    gm_cn 5 (gm_m_vcall _ _ _) (gcl_X9_sunOf gw_303 dX9_gainOf_2) (
    gm_cn 6 (gm_m_istore _) (gm_s_istore_n dX9_gainOf_5 rfl (by decide)) (
    gm_cn 7 (gm_m_aload _) (gm_s_aload_n dX9_gainOf_6 rfl) (
    gm_cn 8 (gm_m_iload _) (gm_s_iload_n dX9_gainOf_7 rfl) (
    gm_cn 11 (gm_m_vcall _ _ _) (gcl_X9_coldOf gw_304 dX9_gainOf_8) (
    gm_cn 12 (gm_m_istore _) (gm_s_istore_n dX9_gainOf_11 rfl (by decide)) (
    gm_cn 13 (gm_m_aload _) (gm_s_aload_n dX9_gainOf_12 rfl) (
    gm_cn 16 (gm_m_getR _ _) (gf_getR_9_2 gw_217 dX9_gainOf_13) (
    gm_cn 17 (gm_m_iload _) (gm_s_iload_n dX9_gainOf_16 rfl) (
    gm_cn 18 gm_m_iald (gm_s_iald dX9_gainOf_17) (
    gm_cn 0 (gm_m_switch _ _) (gm_s_table (bpc := bpX9_gainOf) (ps := [(1, 1), (2, 6), (3, 2), (4, 3), (5, 4), (6, 5)]) (d := 6) dX9_gainOf_18 rfl rfl rfl 0) (
    trivial))))))))))))),
  gm_cn 57 (gm_m_push _) (gm_s_iconst dX9_gainOf_56) (
    gm_cn 58 (gm_m_iload _) (gm_s_iload_n dX9_gainOf_57 rfl) (
    gm_cn 59 (gm_m_op2 _) (gm_s_imul dX9_gainOf_58) (
    gm_cn 60 (gm_m_iload _) (gm_s_iload_n dX9_gainOf_59 rfl) (
    gm_cn 61 (gm_m_op2 _) (gm_s_isub dX9_gainOf_60) (
    gm_cn 0 gm_m_iret (gm_s_iret dX9_gainOf_61 rfl 0) (
    trivial)))))),
  gm_cn 63 (gm_m_iload _) (gm_s_iload_n dX9_gainOf_62 rfl) (
    gm_cn 64 (gm_m_push _) (gm_s_iconst dX9_gainOf_63) (
    gm_cn 65 (gm_m_quo _) (gm_s_idiv dX9_gainOf_64) (
    gm_cn 66 (gm_m_iload _) (gm_s_iload_n dX9_gainOf_65 rfl) (
    gm_cn 67 (gm_m_op2 _) (gm_s_isub dX9_gainOf_66) (
    gm_cn 0 gm_m_iret (gm_s_iret dX9_gainOf_67 rfl 0) (
    trivial)))))),
  gm_cn 69 (gm_m_push _) (gm_s_iconst dX9_gainOf_68) (
    gm_cn 70 (gm_m_iload _) (gm_s_iload_n dX9_gainOf_69 rfl) (
    gm_cn 71 (gm_m_op2 _) (gm_s_imul dX9_gainOf_70) (
    gm_cn 72 (gm_m_iload _) (gm_s_iload_n dX9_gainOf_71 rfl) (
    gm_cn 73 (gm_m_op2 _) (gm_s_isub dX9_gainOf_72) (
    gm_cn 74 (gm_m_aload _) (gm_s_aload_n dX9_gainOf_73 rfl) (
    gm_cn 77 (gm_m_getR _ _) (gf_getR_9_3 gw_218 dX9_gainOf_74) (
    gm_cn 78 (gm_m_iload _) (gm_s_iload_n dX9_gainOf_77 rfl) (
    gm_cn 79 gm_m_iald (gm_s_iald dX9_gainOf_78) (
    gm_cn 80 (gm_m_op2 _) (gm_s_iadd dX9_gainOf_79) (
    gm_cn 0 gm_m_iret (gm_s_iret dX9_gainOf_80 rfl 0) (
    trivial))))))))))),
  gm_cn 82 (gm_m_iload _) (gm_s_iload_n dX9_gainOf_81 rfl) (
    gm_cn 83 (gm_m_iload _) (gm_s_iload_n dX9_gainOf_82 rfl) (
    gm_cn 84 (gm_m_op2 _) (gm_s_isub dX9_gainOf_83) (
    gm_cn 85 (gm_m_push _) (gm_s_iconst dX9_gainOf_84) (
    gm_cn 86 (gm_m_quo _) (gm_s_idiv dX9_gainOf_85) (
    gm_cn 0 gm_m_iret (gm_s_iret dX9_gainOf_86 rfl 0) (
    trivial)))))),
  gm_cn 88 (gm_m_iload _) (gm_s_iload_n dX9_gainOf_87 rfl) (
    gm_cn 89 (gm_m_push _) (gm_s_iconst dX9_gainOf_88) (
    gm_cn 90 (gm_m_quo _) (gm_s_idiv dX9_gainOf_89) (
    gm_cn 91 (gm_m_iload _) (gm_s_iload_n dX9_gainOf_90 rfl) (
    gm_cn 92 (gm_m_op2 _) (gm_s_isub dX9_gainOf_91) (
    gm_cn 93 (gm_m_aload _) (gm_s_aload_n dX9_gainOf_92 rfl) (
    gm_cn 96 (gm_m_getR _ _) (gf_getR_9_8 gw_223 dX9_gainOf_93) (
    gm_cn 97 (gm_m_push _) (gm_s_iconst dX9_gainOf_96) (
    gm_cn 98 (gm_m_iload _) (gm_s_iload_n dX9_gainOf_97 rfl) (
    gm_cn 99 (gm_m_op2 _) (gm_s_imul dX9_gainOf_98) (
    gm_cn 100 (gm_m_aload _) (gm_s_aload_n dX9_gainOf_99 rfl) (
    gm_cn 103 (gm_m_getI _ _) (gf_getI_9_1 gw_216 dX9_gainOf_100) (
    gm_cn 104 (gm_m_push _) (gm_s_iconst dX9_gainOf_103) (
    gm_cn 105 (gm_m_quo _) (gm_s_irem dX9_gainOf_104) (
    gm_cn 106 (gm_m_op2 _) (gm_s_iadd dX9_gainOf_105) (
    gm_cn 107 gm_m_iald (gm_s_iald dX9_gainOf_106) (
    gm_cn 108 (gm_m_op2 _) (gm_s_iadd dX9_gainOf_107) (
    gm_cn 109 (gm_m_push _) (gm_s_iconst dX9_gainOf_108) (
    gm_cn 110 (gm_m_op2 _) (gm_s_isub dX9_gainOf_109) (
    gm_cn 0 gm_m_iret (gm_s_iret dX9_gainOf_110 rfl 0) (
    trivial)))))))))))))))))))),
  gm_cn 112 (gm_m_iload _) (gm_s_iload_n dX9_gainOf_111 rfl) (
    gm_cn 113 (gm_m_iload _) (gm_s_iload_n dX9_gainOf_112 rfl) (
    gm_cn 114 (gm_m_op2 _) (gm_s_isub dX9_gainOf_113) (
    gm_cn 0 gm_m_iret (gm_s_iret dX9_gainOf_114 rfl 0) (
    trivial)))), trivial⟩
theorem dX9_least_0 : decode cX9_least 0 = .ok (.iload_n 1, 1) := by decide +kernel
theorem dX9_least_1 : decode cX9_least 1 = .ok (.iload_n 2, 1) := by decide +kernel
theorem dX9_least_2 : decode cX9_least 2 = .ok (.if_icmp .ge 7, 3) := by decide +kernel
theorem dX9_least_5 : decode cX9_least 5 = .ok (.iload_n 1, 1) := by decide +kernel
theorem dX9_least_6 : decode cX9_least 6 = .ok (.goto 4, 3) := by decide +kernel
theorem dX9_least_9 : decode cX9_least 9 = .ok (.iload_n 2, 1) := by decide +kernel
theorem dX9_least_10 : decode cX9_least 10 = .ok (.ireturn, 1) := by decide +kernel
def pX9_least : List (List gm_A) := [[(gm_iload 1), (gm_iload 2), (gm_cge 1), (gm_iload 1), (gm_goto 2)],
  [(gm_iload 2), (gm_goto 2)],
  [gm_iret]]
def bpX9_least : Nat → Nat := fun b => ([0, 9, 10] : List Nat).getD b 0
set_option maxRecDepth 100000 in
theorem tX9_least {D : va_G} {sz : Nat} {ad : Nat → Nat} {cA : Nat → ClassId} {xs : Int → Int} {Ln : Int} {l : Launch} : gm_SB D sz ad cA xs Ln l gm_mt cX9_least "LongNoonModel" 3 false 1 bpX9_least 0 pX9_least :=
  ⟨gm_cn 1 (gm_m_iload _) (gm_s_iload_n dX9_least_0 rfl) (
    gm_cn 2 (gm_m_iload _) (gm_s_iload_n dX9_least_1 rfl) (
    gm_cn 5 (gm_m_cge _) (gm_s_cge (bpc := bpX9_least) (b := 1) dX9_least_2 rfl) (
    gm_cn 6 (gm_m_iload _) (gm_s_iload_n dX9_least_5 rfl) (
    gm_cn 0 (gm_m_goto _) (gm_s_goto (bpc := bpX9_least) (b := 2) dX9_least_6 rfl 0) (
    trivial))))),
  gm_cn 10 (gm_m_iload _) (gm_s_iload_n dX9_least_9 rfl) (
    gm_cn 0 (gm_m_goto _) (gm_s_fall (bpc := bpX9_least) (b := 2) rfl 0) (
    trivial)),
  gm_cn 0 gm_m_iret (gm_s_iret dX9_least_10 rfl 0) (
    trivial), trivial⟩
theorem dX9_most_0 : decode cX9_most 0 = .ok (.iload_n 1, 1) := by decide +kernel
theorem dX9_most_1 : decode cX9_most 1 = .ok (.iload_n 2, 1) := by decide +kernel
theorem dX9_most_2 : decode cX9_most 2 = .ok (.if_icmp .le 7, 3) := by decide +kernel
theorem dX9_most_5 : decode cX9_most 5 = .ok (.iload_n 1, 1) := by decide +kernel
theorem dX9_most_6 : decode cX9_most 6 = .ok (.goto 4, 3) := by decide +kernel
theorem dX9_most_9 : decode cX9_most 9 = .ok (.iload_n 2, 1) := by decide +kernel
theorem dX9_most_10 : decode cX9_most 10 = .ok (.ireturn, 1) := by decide +kernel
def pX9_most : List (List gm_A) := [[(gm_iload 1), (gm_iload 2), (gm_cle 1), (gm_iload 1), (gm_goto 2)],
  [(gm_iload 2), (gm_goto 2)],
  [gm_iret]]
def bpX9_most : Nat → Nat := fun b => ([0, 9, 10] : List Nat).getD b 0
set_option maxRecDepth 100000 in
theorem tX9_most {D : va_G} {sz : Nat} {ad : Nat → Nat} {cA : Nat → ClassId} {xs : Int → Int} {Ln : Int} {l : Launch} : gm_SB D sz ad cA xs Ln l gm_mt cX9_most "LongNoonModel" 3 false 1 bpX9_most 0 pX9_most :=
  ⟨gm_cn 1 (gm_m_iload _) (gm_s_iload_n dX9_most_0 rfl) (
    gm_cn 2 (gm_m_iload _) (gm_s_iload_n dX9_most_1 rfl) (
    gm_cn 5 (gm_m_cle _) (gm_s_cle (bpc := bpX9_most) (b := 1) dX9_most_2 rfl) (
    gm_cn 6 (gm_m_iload _) (gm_s_iload_n dX9_most_5 rfl) (
    gm_cn 0 (gm_m_goto _) (gm_s_goto (bpc := bpX9_most) (b := 2) dX9_most_6 rfl 0) (
    trivial))))),
  gm_cn 10 (gm_m_iload _) (gm_s_iload_n dX9_most_9 rfl) (
    gm_cn 0 (gm_m_goto _) (gm_s_fall (bpc := bpX9_most) (b := 2) rfl 0) (
    trivial)),
  gm_cn 0 gm_m_iret (gm_s_iret dX9_most_10 rfl 0) (
    trivial), trivial⟩
theorem dX9_evens_0 : decode cX9_evens 0 = .ok (.aload_n 0, 1) := by decide +kernel
theorem dX9_evens_1 : decode cX9_evens 1 = .ok (.iconst 3, 1) := by decide +kernel
theorem dX9_evens_2 : decode cX9_evens 2 = .ok (.bipush 80, 2) := by decide +kernel
theorem dX9_evens_4 : decode cX9_evens 4 = .ok (.invokevirtual 289, 3) := by decide +kernel
theorem dX9_evens_7 : decode cX9_evens 7 = .ok (.istore 4, 2) := by decide +kernel
theorem dX9_evens_9 : decode cX9_evens 9 = .ok (.aload_n 0, 1) := by decide +kernel
theorem dX9_evens_10 : decode cX9_evens 10 = .ok (.iconst 2, 1) := by decide +kernel
theorem dX9_evens_11 : decode cX9_evens 11 = .ok (.bipush 20, 2) := by decide +kernel
theorem dX9_evens_13 : decode cX9_evens 13 = .ok (.invokevirtual 289, 3) := by decide +kernel
theorem dX9_evens_16 : decode cX9_evens 16 = .ok (.istore 5, 2) := by decide +kernel
theorem dX9_evens_18 : decode cX9_evens 18 = .ok (.iload_n 2, 1) := by decide +kernel
theorem dX9_evens_19 : decode cX9_evens 19 = .ok (.istore 6, 2) := by decide +kernel
theorem dX9_evens_21 : decode cX9_evens 21 = .ok (.aload_n 0, 1) := by decide +kernel
theorem dX9_evens_22 : decode cX9_evens 22 = .ok (.getfield 23, 3) := by decide +kernel
theorem dX9_evens_25 : decode cX9_evens 25 = .ok (.iload_n 1, 1) := by decide +kernel
theorem dX9_evens_26 : decode cX9_evens 26 = .ok (.iaload, 1) := by decide +kernel
theorem dX9_evens_27 : decode cX9_evens 27 = .ok (.iload 4, 2) := by decide +kernel
theorem dX9_evens_29 : decode cX9_evens 29 = .ok (.if_icmp .le 48, 3) := by decide +kernel
theorem dX9_evens_32 : decode cX9_evens 32 = .ok (.aload_n 0, 1) := by decide +kernel
theorem dX9_evens_33 : decode cX9_evens 33 = .ok (.iconst 0, 1) := by decide +kernel
theorem dX9_evens_34 : decode cX9_evens 34 = .ok (.aload_n 0, 1) := by decide +kernel
theorem dX9_evens_35 : decode cX9_evens 35 = .ok (.aload_n 0, 1) := by decide +kernel
theorem dX9_evens_36 : decode cX9_evens 36 = .ok (.getfield 23, 3) := by decide +kernel
theorem dX9_evens_39 : decode cX9_evens 39 = .ok (.iload_n 1, 1) := by decide +kernel
theorem dX9_evens_40 : decode cX9_evens 40 = .ok (.iaload, 1) := by decide +kernel
theorem dX9_evens_41 : decode cX9_evens 41 = .ok (.iload 4, 2) := by decide +kernel
theorem dX9_evens_43 : decode cX9_evens 43 = .ok (.isub, 1) := by decide +kernel
theorem dX9_evens_44 : decode cX9_evens 44 = .ok (.iload_n 3, 1) := by decide +kernel
theorem dX9_evens_45 : decode cX9_evens 45 = .ok (.iload 6, 2) := by decide +kernel
theorem dX9_evens_47 : decode cX9_evens 47 = .ok (.isub, 1) := by decide +kernel
theorem dX9_evens_48 : decode cX9_evens 48 = .ok (.invokevirtual 292, 3) := by decide +kernel
theorem dX9_evens_51 : decode cX9_evens 51 = .ok (.invokevirtual 295, 3) := by decide +kernel
theorem dX9_evens_54 : decode cX9_evens 54 = .ok (.istore 7, 2) := by decide +kernel
theorem dX9_evens_56 : decode cX9_evens 56 = .ok (.aload_n 0, 1) := by decide +kernel
theorem dX9_evens_57 : decode cX9_evens 57 = .ok (.getfield 23, 3) := by decide +kernel
theorem dX9_evens_60 : decode cX9_evens 60 = .ok (.iload_n 1, 1) := by decide +kernel
theorem dX9_evens_61 : decode cX9_evens 61 = .ok (.dup2, 1) := by decide +kernel
theorem dX9_evens_62 : decode cX9_evens 62 = .ok (.iaload, 1) := by decide +kernel
theorem dX9_evens_63 : decode cX9_evens 63 = .ok (.iload 7, 2) := by decide +kernel
theorem dX9_evens_65 : decode cX9_evens 65 = .ok (.isub, 1) := by decide +kernel
theorem dX9_evens_66 : decode cX9_evens 66 = .ok (.iastore, 1) := by decide +kernel
theorem dX9_evens_67 : decode cX9_evens 67 = .ok (.iload 6, 2) := by decide +kernel
theorem dX9_evens_69 : decode cX9_evens 69 = .ok (.iload 7, 2) := by decide +kernel
theorem dX9_evens_71 : decode cX9_evens 71 = .ok (.iadd, 1) := by decide +kernel
theorem dX9_evens_72 : decode cX9_evens 72 = .ok (.istore 6, 2) := by decide +kernel
theorem dX9_evens_74 : decode cX9_evens 74 = .ok (.goto 49, 3) := by decide +kernel
theorem dX9_evens_77 : decode cX9_evens 77 = .ok (.aload_n 0, 1) := by decide +kernel
theorem dX9_evens_78 : decode cX9_evens 78 = .ok (.getfield 23, 3) := by decide +kernel
theorem dX9_evens_81 : decode cX9_evens 81 = .ok (.iload_n 1, 1) := by decide +kernel
theorem dX9_evens_82 : decode cX9_evens 82 = .ok (.iaload, 1) := by decide +kernel
theorem dX9_evens_83 : decode cX9_evens 83 = .ok (.iload 5, 2) := by decide +kernel
theorem dX9_evens_85 : decode cX9_evens 85 = .ok (.if_icmp .ge 38, 3) := by decide +kernel
theorem dX9_evens_88 : decode cX9_evens 88 = .ok (.aload_n 0, 1) := by decide +kernel
theorem dX9_evens_89 : decode cX9_evens 89 = .ok (.iload 5, 2) := by decide +kernel
theorem dX9_evens_91 : decode cX9_evens 91 = .ok (.aload_n 0, 1) := by decide +kernel
theorem dX9_evens_92 : decode cX9_evens 92 = .ok (.getfield 23, 3) := by decide +kernel
theorem dX9_evens_95 : decode cX9_evens 95 = .ok (.iload_n 1, 1) := by decide +kernel
theorem dX9_evens_96 : decode cX9_evens 96 = .ok (.iaload, 1) := by decide +kernel
theorem dX9_evens_97 : decode cX9_evens 97 = .ok (.isub, 1) := by decide +kernel
theorem dX9_evens_98 : decode cX9_evens 98 = .ok (.iload 6, 2) := by decide +kernel
theorem dX9_evens_100 : decode cX9_evens 100 = .ok (.invokevirtual 292, 3) := by decide +kernel
theorem dX9_evens_103 : decode cX9_evens 103 = .ok (.istore 7, 2) := by decide +kernel
theorem dX9_evens_105 : decode cX9_evens 105 = .ok (.aload_n 0, 1) := by decide +kernel
theorem dX9_evens_106 : decode cX9_evens 106 = .ok (.getfield 23, 3) := by decide +kernel
theorem dX9_evens_109 : decode cX9_evens 109 = .ok (.iload_n 1, 1) := by decide +kernel
theorem dX9_evens_110 : decode cX9_evens 110 = .ok (.dup2, 1) := by decide +kernel
theorem dX9_evens_111 : decode cX9_evens 111 = .ok (.iaload, 1) := by decide +kernel
theorem dX9_evens_112 : decode cX9_evens 112 = .ok (.iload 7, 2) := by decide +kernel
theorem dX9_evens_114 : decode cX9_evens 114 = .ok (.iadd, 1) := by decide +kernel
theorem dX9_evens_115 : decode cX9_evens 115 = .ok (.iastore, 1) := by decide +kernel
theorem dX9_evens_116 : decode cX9_evens 116 = .ok (.iload 6, 2) := by decide +kernel
theorem dX9_evens_118 : decode cX9_evens 118 = .ok (.iload 7, 2) := by decide +kernel
theorem dX9_evens_120 : decode cX9_evens 120 = .ok (.isub, 1) := by decide +kernel
theorem dX9_evens_121 : decode cX9_evens 121 = .ok (.istore 6, 2) := by decide +kernel
theorem dX9_evens_123 : decode cX9_evens 123 = .ok (.iload 6, 2) := by decide +kernel
theorem dX9_evens_125 : decode cX9_evens 125 = .ok (.ireturn, 1) := by decide +kernel
def pX9_evens : List (List gm_A) := [[(gm_aload 0), (gm_push (.inl 3)), (gm_push (.inl 80)), (gm_vcall 9 124 3), (gm_istore 4), (gm_aload 0), (gm_push (.inl 2)), (gm_push (.inl 20)), (gm_vcall 9 124 3), (gm_istore 5), (gm_iload 2), (gm_istore 6), (gm_aload 0), (gm_getR 9 904), (gm_iload 1), gm_iald, (gm_iload 4), (gm_cle 1), (gm_aload 0), (gm_push (.inl 0)), (gm_aload 0), (gm_aload 0), (gm_getR 9 904), (gm_iload 1), gm_iald, (gm_iload 4), (gm_op2 gm_sub), (gm_iload 3), (gm_iload 6), (gm_op2 gm_sub), (gm_vcall 9 132 3), (gm_vcall 9 133 3), (gm_istore 7), (gm_aload 0), (gm_getR 9 904), (gm_iload 1), gm_dup2, gm_iald, (gm_iload 7), (gm_op2 gm_sub), gm_iast, (gm_iload 6), (gm_iload 7), (gm_op2 gm_add), (gm_istore 6), (gm_goto 2)],
  [(gm_aload 0), (gm_getR 9 904), (gm_iload 1), gm_iald, (gm_iload 5), (gm_cge 2), (gm_aload 0), (gm_iload 5), (gm_aload 0), (gm_getR 9 904), (gm_iload 1), gm_iald, (gm_op2 gm_sub), (gm_iload 6), (gm_vcall 9 132 3), (gm_istore 7), (gm_aload 0), (gm_getR 9 904), (gm_iload 1), gm_dup2, gm_iald, (gm_iload 7), (gm_op2 gm_add), gm_iast, (gm_iload 6), (gm_iload 7), (gm_op2 gm_sub), (gm_istore 6), (gm_goto 2)],
  [(gm_iload 6), gm_iret]]
def bpX9_evens : Nat → Nat := fun b => ([0, 77, 123] : List Nat).getD b 0
set_option maxRecDepth 100000 in
theorem tX9_evens {D : va_G} {sz : Nat} {ad : Nat → Nat} {cA : Nat → ClassId} {xs : Int → Int} {Ln : Int} {l : Launch} : gm_SB D sz ad cA xs Ln l gm_mt cX9_evens "LongNoonModel" 8 false 1 bpX9_evens 0 pX9_evens :=
  ⟨gm_cn 1 (gm_m_aload _) (gm_s_aload_n dX9_evens_0 rfl) (
    gm_cn 2 (gm_m_push _) (gm_s_iconst dX9_evens_1) (
    gm_cn 4 (gm_m_push _) (gm_s_bipush dX9_evens_2 rfl) (
    gm_cn 7 (gm_m_vcall _ _ _) (gcl_X9_lastOf gw_305 dX9_evens_4) (
    gm_cn 9 (gm_m_istore _) (gm_s_istore dX9_evens_7 (by decide)) (
    gm_cn 10 (gm_m_aload _) (gm_s_aload_n dX9_evens_9 rfl) (
    gm_cn 11 (gm_m_push _) (gm_s_iconst dX9_evens_10) (
    gm_cn 13 (gm_m_push _) (gm_s_bipush dX9_evens_11 rfl) (
    gm_cn 16 (gm_m_vcall _ _ _) (gcl_X9_lastOf gw_305 dX9_evens_13) (
    gm_cn 18 (gm_m_istore _) (gm_s_istore dX9_evens_16 (by decide)) (
    gm_cn 19 (gm_m_iload _) (gm_s_iload_n dX9_evens_18 rfl) (
    gm_cn 21 (gm_m_istore _) (gm_s_istore dX9_evens_19 (by decide)) (
    gm_cn 22 (gm_m_aload _) (gm_s_aload_n dX9_evens_21 rfl) (
    gm_cn 25 (gm_m_getR _ _) (gf_getR_9_4 gw_219 dX9_evens_22) (
    gm_cn 26 (gm_m_iload _) (gm_s_iload_n dX9_evens_25 rfl) (
    gm_cn 27 gm_m_iald (gm_s_iald dX9_evens_26) (
    gm_cn 29 (gm_m_iload _) (gm_s_iload dX9_evens_27) (
    gm_cn 32 (gm_m_cle _) (gm_s_cle (bpc := bpX9_evens) (b := 1) dX9_evens_29 rfl) (
    gm_cn 33 (gm_m_aload _) (gm_s_aload_n dX9_evens_32 rfl) (
    gm_cn 34 (gm_m_push _) (gm_s_iconst dX9_evens_33) (
    gm_cn 35 (gm_m_aload _) (gm_s_aload_n dX9_evens_34 rfl) (
    gm_cn 36 (gm_m_aload _) (gm_s_aload_n dX9_evens_35 rfl) (
    gm_cn 39 (gm_m_getR _ _) (gf_getR_9_4 gw_219 dX9_evens_36) (
    gm_cn 40 (gm_m_iload _) (gm_s_iload_n dX9_evens_39 rfl) (
    gm_cn 41 gm_m_iald (gm_s_iald dX9_evens_40) (
    gm_cn 43 (gm_m_iload _) (gm_s_iload dX9_evens_41) (
    gm_cn 44 (gm_m_op2 _) (gm_s_isub dX9_evens_43) (
    gm_cn 45 (gm_m_iload _) (gm_s_iload_n dX9_evens_44 rfl) (
    gm_cn 47 (gm_m_iload _) (gm_s_iload dX9_evens_45) (
    gm_cn 48 (gm_m_op2 _) (gm_s_isub dX9_evens_47) (
    gm_cn 51 (gm_m_vcall _ _ _) (gcl_X9_least gw_306 dX9_evens_48) (
    gm_cn 54 (gm_m_vcall _ _ _) (gcl_X9_most gw_307 dX9_evens_51) (
    gm_cn 56 (gm_m_istore _) (gm_s_istore dX9_evens_54 (by decide)) (
    gm_cn 57 (gm_m_aload _) (gm_s_aload_n dX9_evens_56 rfl) (
    gm_cn 60 (gm_m_getR _ _) (gf_getR_9_4 gw_219 dX9_evens_57) (
    gm_cn 61 (gm_m_iload _) (gm_s_iload_n dX9_evens_60 rfl) (
    gm_cn 62 gm_m_dup2 (gm_s_dup2 dX9_evens_61) (
    gm_cn 63 gm_m_iald (gm_s_iald dX9_evens_62) (
    gm_cn 65 (gm_m_iload _) (gm_s_iload dX9_evens_63) (
    gm_cn 66 (gm_m_op2 _) (gm_s_isub dX9_evens_65) (
    gm_cn 67 gm_m_iast (gm_s_iast dX9_evens_66) (
    gm_cn 69 (gm_m_iload _) (gm_s_iload dX9_evens_67) (
    gm_cn 71 (gm_m_iload _) (gm_s_iload dX9_evens_69) (
    gm_cn 72 (gm_m_op2 _) (gm_s_iadd dX9_evens_71) (
    gm_cn 74 (gm_m_istore _) (gm_s_istore dX9_evens_72 (by decide)) (
    gm_cn 0 (gm_m_goto _) (gm_s_goto (bpc := bpX9_evens) (b := 2) dX9_evens_74 rfl 0) (
    trivial)))))))))))))))))))))))))))))))))))))))))))))),
  gm_cn 78 (gm_m_aload _) (gm_s_aload_n dX9_evens_77 rfl) (
    gm_cn 81 (gm_m_getR _ _) (gf_getR_9_4 gw_219 dX9_evens_78) (
    gm_cn 82 (gm_m_iload _) (gm_s_iload_n dX9_evens_81 rfl) (
    gm_cn 83 gm_m_iald (gm_s_iald dX9_evens_82) (
    gm_cn 85 (gm_m_iload _) (gm_s_iload dX9_evens_83) (
    gm_cn 88 (gm_m_cge _) (gm_s_cge (bpc := bpX9_evens) (b := 2) dX9_evens_85 rfl) (
    gm_cn 89 (gm_m_aload _) (gm_s_aload_n dX9_evens_88 rfl) (
    gm_cn 91 (gm_m_iload _) (gm_s_iload dX9_evens_89) (
    gm_cn 92 (gm_m_aload _) (gm_s_aload_n dX9_evens_91 rfl) (
    gm_cn 95 (gm_m_getR _ _) (gf_getR_9_4 gw_219 dX9_evens_92) (
    gm_cn 96 (gm_m_iload _) (gm_s_iload_n dX9_evens_95 rfl) (
    gm_cn 97 gm_m_iald (gm_s_iald dX9_evens_96) (
    gm_cn 98 (gm_m_op2 _) (gm_s_isub dX9_evens_97) (
    gm_cn 100 (gm_m_iload _) (gm_s_iload dX9_evens_98) (
    gm_cn 103 (gm_m_vcall _ _ _) (gcl_X9_least gw_306 dX9_evens_100) (
    gm_cn 105 (gm_m_istore _) (gm_s_istore dX9_evens_103 (by decide)) (
    gm_cn 106 (gm_m_aload _) (gm_s_aload_n dX9_evens_105 rfl) (
    gm_cn 109 (gm_m_getR _ _) (gf_getR_9_4 gw_219 dX9_evens_106) (
    gm_cn 110 (gm_m_iload _) (gm_s_iload_n dX9_evens_109 rfl) (
    gm_cn 111 gm_m_dup2 (gm_s_dup2 dX9_evens_110) (
    gm_cn 112 gm_m_iald (gm_s_iald dX9_evens_111) (
    gm_cn 114 (gm_m_iload _) (gm_s_iload dX9_evens_112) (
    gm_cn 115 (gm_m_op2 _) (gm_s_iadd dX9_evens_114) (
    gm_cn 116 gm_m_iast (gm_s_iast dX9_evens_115) (
    gm_cn 118 (gm_m_iload _) (gm_s_iload dX9_evens_116) (
    gm_cn 120 (gm_m_iload _) (gm_s_iload dX9_evens_118) (
    gm_cn 121 (gm_m_op2 _) (gm_s_isub dX9_evens_120) (
    gm_cn 123 (gm_m_istore _) (gm_s_istore dX9_evens_121 (by decide)) (
    gm_cn 0 (gm_m_goto _) (gm_s_fall (bpc := bpX9_evens) (b := 2) rfl 0) (
    trivial))))))))))))))))))))))))))))),
  gm_cn 125 (gm_m_iload _) (gm_s_iload dX9_evens_123) (
    gm_cn 0 gm_m_iret (gm_s_iret dX9_evens_125 rfl 0) (
    trivial)), trivial⟩
theorem dX9_isAmiss_0 : decode cX9_isAmiss 0 = .ok (.aload_n 0, 1) := by decide +kernel
theorem dX9_isAmiss_1 : decode cX9_isAmiss 1 = .ok (.getfield 23, 3) := by decide +kernel
theorem dX9_isAmiss_4 : decode cX9_isAmiss 4 = .ok (.iload_n 1, 1) := by decide +kernel
theorem dX9_isAmiss_5 : decode cX9_isAmiss 5 = .ok (.iaload, 1) := by decide +kernel
theorem dX9_isAmiss_6 : decode cX9_isAmiss 6 = .ok (.aload_n 0, 1) := by decide +kernel
theorem dX9_isAmiss_7 : decode cX9_isAmiss 7 = .ok (.iconst 3, 1) := by decide +kernel
theorem dX9_isAmiss_8 : decode cX9_isAmiss 8 = .ok (.bipush 80, 2) := by decide +kernel
theorem dX9_isAmiss_10 : decode cX9_isAmiss 10 = .ok (.invokevirtual 289, 3) := by decide +kernel
theorem dX9_isAmiss_13 : decode cX9_isAmiss 13 = .ok (.if_icmp .gt 19, 3) := by decide +kernel
theorem dX9_isAmiss_16 : decode cX9_isAmiss 16 = .ok (.aload_n 0, 1) := by decide +kernel
theorem dX9_isAmiss_17 : decode cX9_isAmiss 17 = .ok (.getfield 23, 3) := by decide +kernel
theorem dX9_isAmiss_20 : decode cX9_isAmiss 20 = .ok (.iload_n 1, 1) := by decide +kernel
theorem dX9_isAmiss_21 : decode cX9_isAmiss 21 = .ok (.iaload, 1) := by decide +kernel
theorem dX9_isAmiss_22 : decode cX9_isAmiss 22 = .ok (.aload_n 0, 1) := by decide +kernel
theorem dX9_isAmiss_23 : decode cX9_isAmiss 23 = .ok (.iconst 2, 1) := by decide +kernel
theorem dX9_isAmiss_24 : decode cX9_isAmiss 24 = .ok (.bipush 20, 2) := by decide +kernel
theorem dX9_isAmiss_26 : decode cX9_isAmiss 26 = .ok (.invokevirtual 289, 3) := by decide +kernel
theorem dX9_isAmiss_29 : decode cX9_isAmiss 29 = .ok (.if_icmp .ge 7, 3) := by decide +kernel
theorem dX9_isAmiss_32 : decode cX9_isAmiss 32 = .ok (.iconst 1, 1) := by decide +kernel
theorem dX9_isAmiss_33 : decode cX9_isAmiss 33 = .ok (.goto 4, 3) := by decide +kernel
theorem dX9_isAmiss_36 : decode cX9_isAmiss 36 = .ok (.iconst 0, 1) := by decide +kernel
theorem dX9_isAmiss_37 : decode cX9_isAmiss 37 = .ok (.ireturn, 1) := by decide +kernel
def pX9_isAmiss : List (List gm_A) := [[(gm_aload 0), (gm_getR 9 904), (gm_iload 1), gm_iald, (gm_aload 0), (gm_push (.inl 3)), (gm_push (.inl 80)), (gm_vcall 9 124 3), (gm_cgt 1), (gm_aload 0), (gm_getR 9 904), (gm_iload 1), gm_iald, (gm_aload 0), (gm_push (.inl 2)), (gm_push (.inl 20)), (gm_vcall 9 124 3), (gm_cge 2), (gm_goto 1)],
  [(gm_push (.inl 1)), (gm_goto 3)],
  [(gm_push (.inl 0)), (gm_goto 3)],
  [gm_zret]]
def bpX9_isAmiss : Nat → Nat := fun b => ([0, 32, 36, 37] : List Nat).getD b 0
set_option maxRecDepth 100000 in
theorem tX9_isAmiss {D : va_G} {sz : Nat} {ad : Nat → Nat} {cA : Nat → ClassId} {xs : Int → Int} {Ln : Int} {l : Launch} : gm_SB D sz ad cA xs Ln l gm_mt cX9_isAmiss "LongNoonModel" 2 false 2 bpX9_isAmiss 0 pX9_isAmiss :=
  ⟨gm_cn 1 (gm_m_aload _) (gm_s_aload_n dX9_isAmiss_0 rfl) (
    gm_cn 4 (gm_m_getR _ _) (gf_getR_9_4 gw_219 dX9_isAmiss_1) (
    gm_cn 5 (gm_m_iload _) (gm_s_iload_n dX9_isAmiss_4 rfl) (
    gm_cn 6 gm_m_iald (gm_s_iald dX9_isAmiss_5) (
    gm_cn 7 (gm_m_aload _) (gm_s_aload_n dX9_isAmiss_6 rfl) (
    gm_cn 8 (gm_m_push _) (gm_s_iconst dX9_isAmiss_7) (
    gm_cn 10 (gm_m_push _) (gm_s_bipush dX9_isAmiss_8 rfl) (
    gm_cn 13 (gm_m_vcall _ _ _) (gcl_X9_lastOf gw_305 dX9_isAmiss_10) (
    gm_cn 16 (gm_m_cgt _) (gm_s_cgt (bpc := bpX9_isAmiss) (b := 1) dX9_isAmiss_13 rfl) (
    gm_cn 17 (gm_m_aload _) (gm_s_aload_n dX9_isAmiss_16 rfl) (
    gm_cn 20 (gm_m_getR _ _) (gf_getR_9_4 gw_219 dX9_isAmiss_17) (
    gm_cn 21 (gm_m_iload _) (gm_s_iload_n dX9_isAmiss_20 rfl) (
    gm_cn 22 gm_m_iald (gm_s_iald dX9_isAmiss_21) (
    gm_cn 23 (gm_m_aload _) (gm_s_aload_n dX9_isAmiss_22 rfl) (
    gm_cn 24 (gm_m_push _) (gm_s_iconst dX9_isAmiss_23) (
    gm_cn 26 (gm_m_push _) (gm_s_bipush dX9_isAmiss_24 rfl) (
    gm_cn 29 (gm_m_vcall _ _ _) (gcl_X9_lastOf gw_305 dX9_isAmiss_26) (
    gm_cn 32 (gm_m_cge _) (gm_s_cge (bpc := bpX9_isAmiss) (b := 2) dX9_isAmiss_29 rfl) (
    gm_cn 0 (gm_m_goto _) (gm_s_fall (bpc := bpX9_isAmiss) (b := 1) rfl 0) (
    trivial))))))))))))))))))),
  gm_cn 33 (gm_m_push _) (gm_s_iconst dX9_isAmiss_32) (
    gm_cn 0 (gm_m_goto _) (gm_s_goto (bpc := bpX9_isAmiss) (b := 3) dX9_isAmiss_33 rfl 0) (
    trivial)),
  gm_cn 37 (gm_m_push _) (gm_s_iconst dX9_isAmiss_36) (
    gm_cn 0 (gm_m_goto _) (gm_s_fall (bpc := bpX9_isAmiss) (b := 3) rfl 0) (
    trivial)),
  gm_cn 0 gm_m_zret (gm_s_zret dX9_isAmiss_37 rfl 0) (
    trivial), trivial⟩
theorem dX9_goHouse_0 : decode cX9_goHouse 0 = .ok (.aload_n 0, 1) := by decide +kernel
theorem dX9_goHouse_1 : decode cX9_goHouse 1 = .ok (.iload_n 1, 1) := by decide +kernel
theorem dX9_goHouse_2 : decode cX9_goHouse 2 = .ok (.invokevirtual 298, 3) := by decide +kernel
theorem dX9_goHouse_5 : decode cX9_goHouse 5 = .ok (.istore_n 2, 1) := by decide +kernel
theorem dX9_goHouse_6 : decode cX9_goHouse 6 = .ok (.aload_n 0, 1) := by decide +kernel
theorem dX9_goHouse_7 : decode cX9_goHouse 7 = .ok (.getfield 23, 3) := by decide +kernel
theorem dX9_goHouse_10 : decode cX9_goHouse 10 = .ok (.iload_n 1, 1) := by decide +kernel
theorem dX9_goHouse_11 : decode cX9_goHouse 11 = .ok (.aload_n 0, 1) := by decide +kernel
theorem dX9_goHouse_12 : decode cX9_goHouse 12 = .ok (.iconst 0, 1) := by decide +kernel
theorem dX9_goHouse_13 : decode cX9_goHouse 13 = .ok (.aload_n 0, 1) := by decide +kernel
theorem dX9_goHouse_14 : decode cX9_goHouse 14 = .ok (.sipush 199, 3) := by decide +kernel
theorem dX9_goHouse_17 : decode cX9_goHouse 17 = .ok (.aload_n 0, 1) := by decide +kernel
theorem dX9_goHouse_18 : decode cX9_goHouse 18 = .ok (.getfield 23, 3) := by decide +kernel
theorem dX9_goHouse_21 : decode cX9_goHouse 21 = .ok (.iload_n 1, 1) := by decide +kernel
theorem dX9_goHouse_22 : decode cX9_goHouse 22 = .ok (.iaload, 1) := by decide +kernel
theorem dX9_goHouse_23 : decode cX9_goHouse 23 = .ok (.iload_n 2, 1) := by decide +kernel
theorem dX9_goHouse_24 : decode cX9_goHouse 24 = .ok (.iadd, 1) := by decide +kernel
theorem dX9_goHouse_25 : decode cX9_goHouse 25 = .ok (.invokevirtual 292, 3) := by decide +kernel
theorem dX9_goHouse_28 : decode cX9_goHouse 28 = .ok (.invokevirtual 295, 3) := by decide +kernel
theorem dX9_goHouse_31 : decode cX9_goHouse 31 = .ok (.iastore, 1) := by decide +kernel
theorem dX9_goHouse_32 : decode cX9_goHouse 32 = .ok (.aload_n 0, 1) := by decide +kernel
theorem dX9_goHouse_33 : decode cX9_goHouse 33 = .ok (.getfield 26, 3) := by decide +kernel
theorem dX9_goHouse_36 : decode cX9_goHouse 36 = .ok (.iload_n 1, 1) := by decide +kernel
theorem dX9_goHouse_37 : decode cX9_goHouse 37 = .ok (.aload_n 0, 1) := by decide +kernel
theorem dX9_goHouse_38 : decode cX9_goHouse 38 = .ok (.iload_n 1, 1) := by decide +kernel
theorem dX9_goHouse_39 : decode cX9_goHouse 39 = .ok (.aload_n 0, 1) := by decide +kernel
theorem dX9_goHouse_40 : decode cX9_goHouse 40 = .ok (.iconst 0, 1) := by decide +kernel
theorem dX9_goHouse_41 : decode cX9_goHouse 41 = .ok (.aload_n 0, 1) := by decide +kernel
theorem dX9_goHouse_42 : decode cX9_goHouse 42 = .ok (.getfield 26, 3) := by decide +kernel
theorem dX9_goHouse_45 : decode cX9_goHouse 45 = .ok (.iload_n 1, 1) := by decide +kernel
theorem dX9_goHouse_46 : decode cX9_goHouse 46 = .ok (.iaload, 1) := by decide +kernel
theorem dX9_goHouse_47 : decode cX9_goHouse 47 = .ok (.aload_n 0, 1) := by decide +kernel
theorem dX9_goHouse_48 : decode cX9_goHouse 48 = .ok (.getfield 32, 3) := by decide +kernel
theorem dX9_goHouse_51 : decode cX9_goHouse 51 = .ok (.iload_n 1, 1) := by decide +kernel
theorem dX9_goHouse_52 : decode cX9_goHouse 52 = .ok (.iaload, 1) := by decide +kernel
theorem dX9_goHouse_53 : decode cX9_goHouse 53 = .ok (.isub, 1) := by decide +kernel
theorem dX9_goHouse_54 : decode cX9_goHouse 54 = .ok (.invokevirtual 295, 3) := by decide +kernel
theorem dX9_goHouse_57 : decode cX9_goHouse 57 = .ok (.aload_n 0, 1) := by decide +kernel
theorem dX9_goHouse_58 : decode cX9_goHouse 58 = .ok (.iload_n 1, 1) := by decide +kernel
theorem dX9_goHouse_59 : decode cX9_goHouse 59 = .ok (.invokevirtual 214, 3) := by decide +kernel
theorem dX9_goHouse_62 : decode cX9_goHouse 62 = .ok (.invokevirtual 301, 3) := by decide +kernel
theorem dX9_goHouse_65 : decode cX9_goHouse 65 = .ok (.iastore, 1) := by decide +kernel
theorem dX9_goHouse_66 : decode cX9_goHouse 66 = .ok (.aload_n 0, 1) := by decide +kernel
theorem dX9_goHouse_67 : decode cX9_goHouse 67 = .ok (.iload_n 1, 1) := by decide +kernel
theorem dX9_goHouse_68 : decode cX9_goHouse 68 = .ok (.invokevirtual 305, 3) := by decide +kernel
theorem dX9_goHouse_71 : decode cX9_goHouse 71 = .ok (.ireturn, 1) := by decide +kernel
def pX9_goHouse : List (List gm_A) := [[(gm_aload 0), (gm_iload 1), (gm_vcall 9 131 2), (gm_istore 2), (gm_aload 0), (gm_getR 9 904), (gm_iload 1), (gm_aload 0), (gm_push (.inl 0)), (gm_aload 0), (gm_push (.inl 199)), (gm_aload 0), (gm_getR 9 904), (gm_iload 1), gm_iald, (gm_iload 2), (gm_op2 gm_add), (gm_vcall 9 132 3), (gm_vcall 9 133 3), gm_iast, (gm_aload 0), (gm_getR 9 905), (gm_iload 1), (gm_aload 0), (gm_iload 1), (gm_aload 0), (gm_push (.inl 0)), (gm_aload 0), (gm_getR 9 905), (gm_iload 1), gm_iald, (gm_aload 0), (gm_getR 9 907), (gm_iload 1), gm_iald, (gm_op2 gm_sub), (gm_vcall 9 133 3), (gm_aload 0), (gm_iload 1), (gm_vcall 9 103 2), (gm_vcall 9 134 4), gm_iast, (gm_aload 0), (gm_iload 1), (gm_vcall 9 135 2), gm_zret]]
def bpX9_goHouse : Nat → Nat := fun b => ([0] : List Nat).getD b 0
set_option maxRecDepth 100000 in
theorem tX9_goHouse {D : va_G} {sz : Nat} {ad : Nat → Nat} {cA : Nat → ClassId} {xs : Int → Int} {Ln : Int} {l : Launch} : gm_SB D sz ad cA xs Ln l gm_mt cX9_goHouse "LongNoonModel" 3 false 2 bpX9_goHouse 0 pX9_goHouse :=
  ⟨gm_cn 1 (gm_m_aload _) (gm_s_aload_n dX9_goHouse_0 rfl) (
    gm_cn 2 (gm_m_iload _) (gm_s_iload_n dX9_goHouse_1 rfl) (
    gm_cn 5 (gm_m_vcall _ _ _) (gcl_X9_gainOf gw_308 dX9_goHouse_2) (
    gm_cn 6 (gm_m_istore _) (gm_s_istore_n dX9_goHouse_5 rfl (by decide)) (
    gm_cn 7 (gm_m_aload _) (gm_s_aload_n dX9_goHouse_6 rfl) (
    gm_cn 10 (gm_m_getR _ _) (gf_getR_9_4 gw_219 dX9_goHouse_7) (
    gm_cn 11 (gm_m_iload _) (gm_s_iload_n dX9_goHouse_10 rfl) (
    gm_cn 12 (gm_m_aload _) (gm_s_aload_n dX9_goHouse_11 rfl) (
    gm_cn 13 (gm_m_push _) (gm_s_iconst dX9_goHouse_12) (
    gm_cn 14 (gm_m_aload _) (gm_s_aload_n dX9_goHouse_13 rfl) (
    gm_cn 17 (gm_m_push _) (gm_s_sipush dX9_goHouse_14 rfl) (
    gm_cn 18 (gm_m_aload _) (gm_s_aload_n dX9_goHouse_17 rfl) (
    gm_cn 21 (gm_m_getR _ _) (gf_getR_9_4 gw_219 dX9_goHouse_18) (
    gm_cn 22 (gm_m_iload _) (gm_s_iload_n dX9_goHouse_21 rfl) (
    gm_cn 23 gm_m_iald (gm_s_iald dX9_goHouse_22) (
    gm_cn 24 (gm_m_iload _) (gm_s_iload_n dX9_goHouse_23 rfl) (
    gm_cn 25 (gm_m_op2 _) (gm_s_iadd dX9_goHouse_24) (
    gm_cn 28 (gm_m_vcall _ _ _) (gcl_X9_least gw_306 dX9_goHouse_25) (
    gm_cn 31 (gm_m_vcall _ _ _) (gcl_X9_most gw_307 dX9_goHouse_28) (
    gm_cn 32 gm_m_iast (gm_s_iast dX9_goHouse_31) (
    gm_cn 33 (gm_m_aload _) (gm_s_aload_n dX9_goHouse_32 rfl) (
    gm_cn 36 (gm_m_getR _ _) (gf_getR_9_5 gw_220 dX9_goHouse_33) (
    gm_cn 37 (gm_m_iload _) (gm_s_iload_n dX9_goHouse_36 rfl) (
    gm_cn 38 (gm_m_aload _) (gm_s_aload_n dX9_goHouse_37 rfl) (
    gm_cn 39 (gm_m_iload _) (gm_s_iload_n dX9_goHouse_38 rfl) (
    gm_cn 40 (gm_m_aload _) (gm_s_aload_n dX9_goHouse_39 rfl) (
    gm_cn 41 (gm_m_push _) (gm_s_iconst dX9_goHouse_40) (
    gm_cn 42 (gm_m_aload _) (gm_s_aload_n dX9_goHouse_41 rfl) (
    gm_cn 45 (gm_m_getR _ _) (gf_getR_9_5 gw_220 dX9_goHouse_42) (
    gm_cn 46 (gm_m_iload _) (gm_s_iload_n dX9_goHouse_45 rfl) (
    gm_cn 47 gm_m_iald (gm_s_iald dX9_goHouse_46) (
    gm_cn 48 (gm_m_aload _) (gm_s_aload_n dX9_goHouse_47 rfl) (
    gm_cn 51 (gm_m_getR _ _) (gf_getR_9_7 gw_222 dX9_goHouse_48) (
    gm_cn 52 (gm_m_iload _) (gm_s_iload_n dX9_goHouse_51 rfl) (
    gm_cn 53 gm_m_iald (gm_s_iald dX9_goHouse_52) (
    gm_cn 54 (gm_m_op2 _) (gm_s_isub dX9_goHouse_53) (
    gm_cn 57 (gm_m_vcall _ _ _) (gcl_X9_most gw_307 dX9_goHouse_54) (
    gm_cn 58 (gm_m_aload _) (gm_s_aload_n dX9_goHouse_57 rfl) (
    gm_cn 59 (gm_m_iload _) (gm_s_iload_n dX9_goHouse_58 rfl) (
    gm_cn 62 (gm_m_vcall _ _ _) (gcl_X9_roomOf gw_282 dX9_goHouse_59) (
    gm_cn 65 (gm_m_vcall _ _ _) (gcl_X9_evens gw_309 dX9_goHouse_62) (
    gm_cn 66 gm_m_iast (gm_s_iast dX9_goHouse_65) (
    gm_cn 67 (gm_m_aload _) (gm_s_aload_n dX9_goHouse_66 rfl) (
    gm_cn 68 (gm_m_iload _) (gm_s_iload_n dX9_goHouse_67 rfl) (
    gm_cn 71 (gm_m_vcall _ _ _) (gcl_X9_isAmiss gw_310 dX9_goHouse_68) (
    gm_cn 0 gm_m_zret (gm_s_zret dX9_goHouse_71 rfl 0) (
    trivial)))))))))))))))))))))))))))))))))))))))))))))), trivial⟩
theorem dX9_of_0 : decode cX9_of 0 = .ok (.aload_n 0, 1) := by decide +kernel
theorem dX9_of_1 : decode cX9_of 1 = .ok (.iload_n 1, 1) := by decide +kernel
theorem dX9_of_2 : decode cX9_of 2 = .ok (.invokevirtual 210, 3) := by decide +kernel
theorem dX9_of_5 : decode cX9_of 5 = .ok (.ifCond .ne 7, 3) := by decide +kernel
theorem dX9_of_8 : decode cX9_of 8 = .ok (.sipush (-10001), 3) := by decide +kernel
theorem dX9_of_11 : decode cX9_of 11 = .ok (.ireturn, 1) := by decide +kernel
theorem dX9_of_12 : decode cX9_of 12 = .ok (.iload_n 2, 1) := by decide +kernel
theorem dX9_of_13 : decode cX9_of 13 = .ok (.tableswitch 121 0 9 #[55, 62, 69, 76, 83, 90, 97, 103, 109, 115], 55) := by decide +kernel
theorem dX9_of_68 : decode cX9_of 68 = .ok (.aload_n 0, 1) := by decide +kernel
theorem dX9_of_69 : decode cX9_of 69 = .ok (.getfield 16, 3) := by decide +kernel
theorem dX9_of_72 : decode cX9_of 72 = .ok (.iload_n 1, 1) := by decide +kernel
theorem dX9_of_73 : decode cX9_of 73 = .ok (.iaload, 1) := by decide +kernel
theorem dX9_of_74 : decode cX9_of 74 = .ok (.ireturn, 1) := by decide +kernel
theorem dX9_of_75 : decode cX9_of 75 = .ok (.aload_n 0, 1) := by decide +kernel
theorem dX9_of_76 : decode cX9_of 76 = .ok (.getfield 20, 3) := by decide +kernel
theorem dX9_of_79 : decode cX9_of 79 = .ok (.iload_n 1, 1) := by decide +kernel
theorem dX9_of_80 : decode cX9_of 80 = .ok (.iaload, 1) := by decide +kernel
theorem dX9_of_81 : decode cX9_of 81 = .ok (.ireturn, 1) := by decide +kernel
theorem dX9_of_82 : decode cX9_of 82 = .ok (.aload_n 0, 1) := by decide +kernel
theorem dX9_of_83 : decode cX9_of 83 = .ok (.getfield 23, 3) := by decide +kernel
theorem dX9_of_86 : decode cX9_of 86 = .ok (.iload_n 1, 1) := by decide +kernel
theorem dX9_of_87 : decode cX9_of 87 = .ok (.iaload, 1) := by decide +kernel
theorem dX9_of_88 : decode cX9_of 88 = .ok (.ireturn, 1) := by decide +kernel
theorem dX9_of_89 : decode cX9_of 89 = .ok (.aload_n 0, 1) := by decide +kernel
theorem dX9_of_90 : decode cX9_of 90 = .ok (.getfield 26, 3) := by decide +kernel
theorem dX9_of_93 : decode cX9_of 93 = .ok (.iload_n 1, 1) := by decide +kernel
theorem dX9_of_94 : decode cX9_of 94 = .ok (.iaload, 1) := by decide +kernel
theorem dX9_of_95 : decode cX9_of 95 = .ok (.ireturn, 1) := by decide +kernel
theorem dX9_of_96 : decode cX9_of 96 = .ok (.aload_n 0, 1) := by decide +kernel
theorem dX9_of_97 : decode cX9_of 97 = .ok (.getfield 29, 3) := by decide +kernel
theorem dX9_of_100 : decode cX9_of 100 = .ok (.iload_n 1, 1) := by decide +kernel
theorem dX9_of_101 : decode cX9_of 101 = .ok (.iaload, 1) := by decide +kernel
theorem dX9_of_102 : decode cX9_of 102 = .ok (.ireturn, 1) := by decide +kernel
theorem dX9_of_103 : decode cX9_of 103 = .ok (.aload_n 0, 1) := by decide +kernel
theorem dX9_of_104 : decode cX9_of 104 = .ok (.getfield 32, 3) := by decide +kernel
theorem dX9_of_107 : decode cX9_of 107 = .ok (.iload_n 1, 1) := by decide +kernel
theorem dX9_of_108 : decode cX9_of 108 = .ok (.iaload, 1) := by decide +kernel
theorem dX9_of_109 : decode cX9_of 109 = .ok (.ireturn, 1) := by decide +kernel
theorem dX9_of_110 : decode cX9_of 110 = .ok (.aload_n 0, 1) := by decide +kernel
theorem dX9_of_111 : decode cX9_of 111 = .ok (.iload_n 1, 1) := by decide +kernel
theorem dX9_of_112 : decode cX9_of 112 = .ok (.invokevirtual 214, 3) := by decide +kernel
theorem dX9_of_115 : decode cX9_of 115 = .ok (.ireturn, 1) := by decide +kernel
theorem dX9_of_116 : decode cX9_of 116 = .ok (.aload_n 0, 1) := by decide +kernel
theorem dX9_of_117 : decode cX9_of 117 = .ok (.iload_n 1, 1) := by decide +kernel
theorem dX9_of_118 : decode cX9_of 118 = .ok (.invokevirtual 283, 3) := by decide +kernel
theorem dX9_of_121 : decode cX9_of 121 = .ok (.ireturn, 1) := by decide +kernel
theorem dX9_of_122 : decode cX9_of 122 = .ok (.aload_n 0, 1) := by decide +kernel
theorem dX9_of_123 : decode cX9_of 123 = .ok (.iload_n 1, 1) := by decide +kernel
theorem dX9_of_124 : decode cX9_of 124 = .ok (.invokevirtual 286, 3) := by decide +kernel
theorem dX9_of_127 : decode cX9_of 127 = .ok (.ireturn, 1) := by decide +kernel
theorem dX9_of_128 : decode cX9_of 128 = .ok (.aload_n 0, 1) := by decide +kernel
theorem dX9_of_129 : decode cX9_of 129 = .ok (.iload_n 1, 1) := by decide +kernel
theorem dX9_of_130 : decode cX9_of 130 = .ok (.invokevirtual 298, 3) := by decide +kernel
theorem dX9_of_133 : decode cX9_of 133 = .ok (.ireturn, 1) := by decide +kernel
theorem dX9_of_134 : decode cX9_of 134 = .ok (.sipush (-10001), 3) := by decide +kernel
theorem dX9_of_137 : decode cX9_of 137 = .ok (.ireturn, 1) := by decide +kernel
def pX9_of : List (List gm_A) := [[(gm_aload 0), (gm_iload 1), (gm_vcall 9 101 2), (gm_ifne 1), (gm_push (.inl (-10001))), gm_iret],
  [(gm_iload 2), (gm_switch [(0, 2), (1, 3), (2, 4), (3, 5), (4, 6), (5, 7), (6, 8), (7, 9), (8, 10), (9, 11)] 12)],
  [(gm_aload 0), (gm_getR 9 902), (gm_iload 1), gm_iald, gm_iret],
  [(gm_aload 0), (gm_getR 9 903), (gm_iload 1), gm_iald, gm_iret],
  [(gm_aload 0), (gm_getR 9 904), (gm_iload 1), gm_iald, gm_iret],
  [(gm_aload 0), (gm_getR 9 905), (gm_iload 1), gm_iald, gm_iret],
  [(gm_aload 0), (gm_getR 9 906), (gm_iload 1), gm_iald, gm_iret],
  [(gm_aload 0), (gm_getR 9 907), (gm_iload 1), gm_iald, gm_iret],
  [(gm_aload 0), (gm_iload 1), (gm_vcall 9 103 2), gm_iret],
  [(gm_aload 0), (gm_iload 1), (gm_vcall 9 129 2), gm_iret],
  [(gm_aload 0), (gm_iload 1), (gm_vcall 9 130 2), gm_iret],
  [(gm_aload 0), (gm_iload 1), (gm_vcall 9 131 2), gm_iret],
  [(gm_push (.inl (-10001))), gm_iret]]
def bpX9_of : Nat → Nat := fun b => ([0, 12, 68, 75, 82, 89, 96, 103, 110, 116, 122, 128, 134] : List Nat).getD b 0
set_option maxRecDepth 100000 in
theorem tX9_of {D : va_G} {sz : Nat} {ad : Nat → Nat} {cA : Nat → ClassId} {xs : Int → Int} {Ln : Int} {l : Launch} : gm_SB D sz ad cA xs Ln l gm_mt cX9_of "LongNoonModel" 3 false 1 bpX9_of 0 pX9_of :=
  ⟨gm_cn 1 (gm_m_aload _) (gm_s_aload_n dX9_of_0 rfl) (
    gm_cn 2 (gm_m_iload _) (gm_s_iload_n dX9_of_1 rfl) (
    gm_cn 5 (gm_m_vcall _ _ _) (gcl_X9_isHouse gw_281 dX9_of_2) (
    gm_cn 8 (gm_m_ifne _) (gm_s_ifne (bpc := bpX9_of) (b := 1) dX9_of_5 rfl) (
    gm_cn 11 (gm_m_push _) (gm_s_sipush dX9_of_8 rfl) (
    gm_cn 0 gm_m_iret (gm_s_iret dX9_of_11 rfl 0) (
    trivial)))))),
  gm_cn 13 (gm_m_iload _) (gm_s_iload_n dX9_of_12 rfl) (
    gm_cn 0 (gm_m_switch _ _) (gm_s_table (bpc := bpX9_of) (ps := [(0, 2), (1, 3), (2, 4), (3, 5), (4, 6), (5, 7), (6, 8), (7, 9), (8, 10), (9, 11)]) (d := 12) dX9_of_13 rfl rfl rfl 0) (
    trivial)),
  gm_cn 69 (gm_m_aload _) (gm_s_aload_n dX9_of_68 rfl) (
    gm_cn 72 (gm_m_getR _ _) (gf_getR_9_2 gw_217 dX9_of_69) (
    gm_cn 73 (gm_m_iload _) (gm_s_iload_n dX9_of_72 rfl) (
    gm_cn 74 gm_m_iald (gm_s_iald dX9_of_73) (
    gm_cn 0 gm_m_iret (gm_s_iret dX9_of_74 rfl 0) (
    trivial))))),
  gm_cn 76 (gm_m_aload _) (gm_s_aload_n dX9_of_75 rfl) (
    gm_cn 79 (gm_m_getR _ _) (gf_getR_9_3 gw_218 dX9_of_76) (
    gm_cn 80 (gm_m_iload _) (gm_s_iload_n dX9_of_79 rfl) (
    gm_cn 81 gm_m_iald (gm_s_iald dX9_of_80) (
    gm_cn 0 gm_m_iret (gm_s_iret dX9_of_81 rfl 0) (
    trivial))))),
  gm_cn 83 (gm_m_aload _) (gm_s_aload_n dX9_of_82 rfl) (
    gm_cn 86 (gm_m_getR _ _) (gf_getR_9_4 gw_219 dX9_of_83) (
    gm_cn 87 (gm_m_iload _) (gm_s_iload_n dX9_of_86 rfl) (
    gm_cn 88 gm_m_iald (gm_s_iald dX9_of_87) (
    gm_cn 0 gm_m_iret (gm_s_iret dX9_of_88 rfl 0) (
    trivial))))),
  gm_cn 90 (gm_m_aload _) (gm_s_aload_n dX9_of_89 rfl) (
    gm_cn 93 (gm_m_getR _ _) (gf_getR_9_5 gw_220 dX9_of_90) (
    gm_cn 94 (gm_m_iload _) (gm_s_iload_n dX9_of_93 rfl) (
    gm_cn 95 gm_m_iald (gm_s_iald dX9_of_94) (
    gm_cn 0 gm_m_iret (gm_s_iret dX9_of_95 rfl 0) (
    trivial))))),
  gm_cn 97 (gm_m_aload _) (gm_s_aload_n dX9_of_96 rfl) (
    gm_cn 100 (gm_m_getR _ _) (gf_getR_9_6 gw_221 dX9_of_97) (
    gm_cn 101 (gm_m_iload _) (gm_s_iload_n dX9_of_100 rfl) (
    gm_cn 102 gm_m_iald (gm_s_iald dX9_of_101) (
    gm_cn 0 gm_m_iret (gm_s_iret dX9_of_102 rfl 0) (
    trivial))))),
  gm_cn 104 (gm_m_aload _) (gm_s_aload_n dX9_of_103 rfl) (
    gm_cn 107 (gm_m_getR _ _) (gf_getR_9_7 gw_222 dX9_of_104) (
    gm_cn 108 (gm_m_iload _) (gm_s_iload_n dX9_of_107 rfl) (
    gm_cn 109 gm_m_iald (gm_s_iald dX9_of_108) (
    gm_cn 0 gm_m_iret (gm_s_iret dX9_of_109 rfl 0) (
    trivial))))),
  gm_cn 111 (gm_m_aload _) (gm_s_aload_n dX9_of_110 rfl) (
    gm_cn 112 (gm_m_iload _) (gm_s_iload_n dX9_of_111 rfl) (
    gm_cn 115 (gm_m_vcall _ _ _) (gcl_X9_roomOf gw_282 dX9_of_112) (
    gm_cn 0 gm_m_iret (gm_s_iret dX9_of_115 rfl 0) (
    trivial)))),
  gm_cn 117 (gm_m_aload _) (gm_s_aload_n dX9_of_116 rfl) (
    gm_cn 118 (gm_m_iload _) (gm_s_iload_n dX9_of_117 rfl) (
    gm_cn 121 (gm_m_vcall _ _ _) (gcl_X9_sunOf gw_303 dX9_of_118) (
    gm_cn 0 gm_m_iret (gm_s_iret dX9_of_121 rfl 0) (
    trivial)))),
  gm_cn 123 (gm_m_aload _) (gm_s_aload_n dX9_of_122 rfl) (
    gm_cn 124 (gm_m_iload _) (gm_s_iload_n dX9_of_123 rfl) (
    gm_cn 127 (gm_m_vcall _ _ _) (gcl_X9_coldOf gw_304 dX9_of_124) (
    gm_cn 0 gm_m_iret (gm_s_iret dX9_of_127 rfl 0) (
    trivial)))),
  gm_cn 129 (gm_m_aload _) (gm_s_aload_n dX9_of_128 rfl) (
    gm_cn 130 (gm_m_iload _) (gm_s_iload_n dX9_of_129 rfl) (
    gm_cn 133 (gm_m_vcall _ _ _) (gcl_X9_gainOf gw_308 dX9_of_130) (
    gm_cn 0 gm_m_iret (gm_s_iret dX9_of_133 rfl 0) (
    trivial)))),
  gm_cn 137 (gm_m_push _) (gm_s_sipush dX9_of_134 rfl) (
    gm_cn 0 gm_m_iret (gm_s_iret dX9_of_137 rfl 0) (
    trivial)), trivial⟩
theorem dX9_told_0 : decode cX9_told 0 = .ok (.iload_n 1, 1) := by decide +kernel
theorem dX9_told_1 : decode cX9_told 1 = .ok (.tableswitch 77 0 4 #[35, 40, 48, 61, 69], 35) := by decide +kernel
theorem dX9_told_36 : decode cX9_told 36 = .ok (.aload_n 0, 1) := by decide +kernel
theorem dX9_told_37 : decode cX9_told 37 = .ok (.getfield 13, 3) := by decide +kernel
theorem dX9_told_40 : decode cX9_told 40 = .ok (.ireturn, 1) := by decide +kernel
theorem dX9_told_41 : decode cX9_told 41 = .ok (.aload_n 0, 1) := by decide +kernel
theorem dX9_told_42 : decode cX9_told 42 = .ok (.getfield 13, 3) := by decide +kernel
theorem dX9_told_45 : decode cX9_told 45 = .ok (.bipush 28, 2) := by decide +kernel
theorem dX9_told_47 : decode cX9_told 47 = .ok (.irem, 1) := by decide +kernel
theorem dX9_told_48 : decode cX9_told 48 = .ok (.ireturn, 1) := by decide +kernel
theorem dX9_told_49 : decode cX9_told 49 = .ok (.aload_n 0, 1) := by decide +kernel
theorem dX9_told_50 : decode cX9_told 50 = .ok (.invokevirtual 277, 3) := by decide +kernel
theorem dX9_told_53 : decode cX9_told 53 = .ok (.ifCond .eq 7, 3) := by decide +kernel
theorem dX9_told_56 : decode cX9_told 56 = .ok (.iconst 1, 1) := by decide +kernel
theorem dX9_told_57 : decode cX9_told 57 = .ok (.goto 4, 3) := by decide +kernel
theorem dX9_told_60 : decode cX9_told 60 = .ok (.iconst 0, 1) := by decide +kernel
theorem dX9_told_61 : decode cX9_told 61 = .ok (.ireturn, 1) := by decide +kernel
theorem dX9_told_62 : decode cX9_told 62 = .ok (.aload_n 0, 1) := by decide +kernel
theorem dX9_told_63 : decode cX9_told 63 = .ok (.iconst 2, 1) := by decide +kernel
theorem dX9_told_64 : decode cX9_told 64 = .ok (.bipush 20, 2) := by decide +kernel
theorem dX9_told_66 : decode cX9_told 66 = .ok (.invokevirtual 289, 3) := by decide +kernel
theorem dX9_told_69 : decode cX9_told 69 = .ok (.ireturn, 1) := by decide +kernel
theorem dX9_told_70 : decode cX9_told 70 = .ok (.aload_n 0, 1) := by decide +kernel
theorem dX9_told_71 : decode cX9_told 71 = .ok (.iconst 3, 1) := by decide +kernel
theorem dX9_told_72 : decode cX9_told 72 = .ok (.bipush 80, 2) := by decide +kernel
theorem dX9_told_74 : decode cX9_told 74 = .ok (.invokevirtual 289, 3) := by decide +kernel
theorem dX9_told_77 : decode cX9_told 77 = .ok (.ireturn, 1) := by decide +kernel
theorem dX9_told_78 : decode cX9_told 78 = .ok (.iconst (-1), 1) := by decide +kernel
theorem dX9_told_79 : decode cX9_told 79 = .ok (.ireturn, 1) := by decide +kernel
def pX9_told : List (List gm_A) := [[(gm_iload 1), (gm_switch [(0, 1), (1, 2), (2, 3), (3, 6), (4, 7)] 8)],
  [(gm_aload 0), (gm_getI 9 901), gm_iret],
  [(gm_aload 0), (gm_getI 9 901), (gm_push (.inl 28)), (gm_quo gm_rem), gm_iret],
  [(gm_aload 0), (gm_vcall 9 128 1), (gm_ifeq 4), (gm_push (.inl 1)), (gm_goto 5)],
  [(gm_push (.inl 0)), (gm_goto 5)],
  [gm_iret],
  [(gm_aload 0), (gm_push (.inl 2)), (gm_push (.inl 20)), (gm_vcall 9 124 3), gm_iret],
  [(gm_aload 0), (gm_push (.inl 3)), (gm_push (.inl 80)), (gm_vcall 9 124 3), gm_iret],
  [(gm_push (.inl (-1))), gm_iret]]
def bpX9_told : Nat → Nat := fun b => ([0, 36, 41, 49, 60, 61, 62, 70, 78] : List Nat).getD b 0
set_option maxRecDepth 100000 in
theorem tX9_told {D : va_G} {sz : Nat} {ad : Nat → Nat} {cA : Nat → ClassId} {xs : Int → Int} {Ln : Int} {l : Launch} : gm_SB D sz ad cA xs Ln l gm_mt cX9_told "LongNoonModel" 2 false 1 bpX9_told 0 pX9_told :=
  ⟨gm_cn 1 (gm_m_iload _) (gm_s_iload_n dX9_told_0 rfl) (
    gm_cn 0 (gm_m_switch _ _) (gm_s_table (bpc := bpX9_told) (ps := [(0, 1), (1, 2), (2, 3), (3, 6), (4, 7)]) (d := 8) dX9_told_1 rfl rfl rfl 0) (
    trivial)),
  gm_cn 37 (gm_m_aload _) (gm_s_aload_n dX9_told_36 rfl) (
    gm_cn 40 (gm_m_getI _ _) (gf_getI_9_1 gw_216 dX9_told_37) (
    gm_cn 0 gm_m_iret (gm_s_iret dX9_told_40 rfl 0) (
    trivial))),
  gm_cn 42 (gm_m_aload _) (gm_s_aload_n dX9_told_41 rfl) (
    gm_cn 45 (gm_m_getI _ _) (gf_getI_9_1 gw_216 dX9_told_42) (
    gm_cn 47 (gm_m_push _) (gm_s_bipush dX9_told_45 rfl) (
    gm_cn 48 (gm_m_quo _) (gm_s_irem dX9_told_47) (
    gm_cn 0 gm_m_iret (gm_s_iret dX9_told_48 rfl 0) (
    trivial))))),
  gm_cn 50 (gm_m_aload _) (gm_s_aload_n dX9_told_49 rfl) (
    gm_cn 53 (gm_m_vcall _ _ _) (gcl_X9_isLight gw_301 dX9_told_50) (
    gm_cn 56 (gm_m_ifeq _) (gm_s_ifeq (bpc := bpX9_told) (b := 4) dX9_told_53 rfl) (
    gm_cn 57 (gm_m_push _) (gm_s_iconst dX9_told_56) (
    gm_cn 0 (gm_m_goto _) (gm_s_goto (bpc := bpX9_told) (b := 5) dX9_told_57 rfl 0) (
    trivial))))),
  gm_cn 61 (gm_m_push _) (gm_s_iconst dX9_told_60) (
    gm_cn 0 (gm_m_goto _) (gm_s_fall (bpc := bpX9_told) (b := 5) rfl 0) (
    trivial)),
  gm_cn 0 gm_m_iret (gm_s_iret dX9_told_61 rfl 0) (
    trivial),
  gm_cn 63 (gm_m_aload _) (gm_s_aload_n dX9_told_62 rfl) (
    gm_cn 64 (gm_m_push _) (gm_s_iconst dX9_told_63) (
    gm_cn 66 (gm_m_push _) (gm_s_bipush dX9_told_64 rfl) (
    gm_cn 69 (gm_m_vcall _ _ _) (gcl_X9_lastOf gw_305 dX9_told_66) (
    gm_cn 0 gm_m_iret (gm_s_iret dX9_told_69 rfl 0) (
    trivial))))),
  gm_cn 71 (gm_m_aload _) (gm_s_aload_n dX9_told_70 rfl) (
    gm_cn 72 (gm_m_push _) (gm_s_iconst dX9_told_71) (
    gm_cn 74 (gm_m_push _) (gm_s_bipush dX9_told_72 rfl) (
    gm_cn 77 (gm_m_vcall _ _ _) (gcl_X9_lastOf gw_305 dX9_told_74) (
    gm_cn 0 gm_m_iret (gm_s_iret dX9_told_77 rfl 0) (
    trivial))))),
  gm_cn 79 (gm_m_push _) (gm_s_iconst dX9_told_78) (
    gm_cn 0 gm_m_iret (gm_s_iret dX9_told_79 rfl 0) (
    trivial)), trivial⟩
theorem dX9_goDay_0 : decode cX9_goDay 0 = .ok (.iconst 0, 1) := by decide +kernel
theorem dX9_goDay_1 : decode cX9_goDay 1 = .ok (.istore_n 1, 1) := by decide +kernel
theorem dX9_goDay_2 : decode cX9_goDay 2 = .ok (.iconst 0, 1) := by decide +kernel
theorem dX9_goDay_3 : decode cX9_goDay 3 = .ok (.istore_n 2, 1) := by decide +kernel
theorem dX9_goDay_4 : decode cX9_goDay 4 = .ok (.iload_n 2, 1) := by decide +kernel
theorem dX9_goDay_5 : decode cX9_goDay 5 = .ok (.aload_n 0, 1) := by decide +kernel
theorem dX9_goDay_6 : decode cX9_goDay 6 = .ok (.getfield 7, 3) := by decide +kernel
theorem dX9_goDay_9 : decode cX9_goDay 9 = .ok (.if_icmp .ge 27, 3) := by decide +kernel
theorem dX9_goDay_12 : decode cX9_goDay 12 = .ok (.iload_n 1, 1) := by decide +kernel
theorem dX9_goDay_13 : decode cX9_goDay 13 = .ok (.aload_n 0, 1) := by decide +kernel
theorem dX9_goDay_14 : decode cX9_goDay 14 = .ok (.iload_n 2, 1) := by decide +kernel
theorem dX9_goDay_15 : decode cX9_goDay 15 = .ok (.invokevirtual 308, 3) := by decide +kernel
theorem dX9_goDay_18 : decode cX9_goDay 18 = .ok (.ifCond .eq 9, 3) := by decide +kernel
theorem dX9_goDay_21 : decode cX9_goDay 21 = .ok (.iconst 1, 1) := by decide +kernel
theorem dX9_goDay_22 : decode cX9_goDay 22 = .ok (.iload_n 2, 1) := by decide +kernel
theorem dX9_goDay_23 : decode cX9_goDay 23 = .ok (.ishl, 1) := by decide +kernel
theorem dX9_goDay_24 : decode cX9_goDay 24 = .ok (.goto 4, 3) := by decide +kernel
theorem dX9_goDay_27 : decode cX9_goDay 27 = .ok (.iconst 0, 1) := by decide +kernel
theorem dX9_goDay_28 : decode cX9_goDay 28 = .ok (.ior, 1) := by decide +kernel
theorem dX9_goDay_29 : decode cX9_goDay 29 = .ok (.istore_n 1, 1) := by decide +kernel
theorem dX9_goDay_30 : decode cX9_goDay 30 = .ok (.iinc 2 1, 3) := by decide +kernel
theorem dX9_goDay_33 : decode cX9_goDay 33 = .ok (.goto (-29), 3) := by decide +kernel
theorem dX9_goDay_36 : decode cX9_goDay 36 = .ok (.aload_n 0, 1) := by decide +kernel
theorem dX9_goDay_37 : decode cX9_goDay 37 = .ok (.dup, 1) := by decide +kernel
theorem dX9_goDay_38 : decode cX9_goDay 38 = .ok (.getfield 13, 3) := by decide +kernel
theorem dX9_goDay_41 : decode cX9_goDay 41 = .ok (.iconst 1, 1) := by decide +kernel
theorem dX9_goDay_42 : decode cX9_goDay 42 = .ok (.iadd, 1) := by decide +kernel
theorem dX9_goDay_43 : decode cX9_goDay 43 = .ok (.putfield 13, 3) := by decide +kernel
theorem dX9_goDay_46 : decode cX9_goDay 46 = .ok (.iload_n 1, 1) := by decide +kernel
theorem dX9_goDay_47 : decode cX9_goDay 47 = .ok (.ireturn, 1) := by decide +kernel
def pX9_goDay : List (List gm_A) := [[(gm_push (.inl 0)), (gm_istore 1), (gm_push (.inl 0)), (gm_istore 2), (gm_goto 1)],
  [(gm_iload 2), (gm_aload 0), (gm_getI 9 900), (gm_cge 4), (gm_iload 1), (gm_aload 0), (gm_iload 2), (gm_vcall 9 136 2), (gm_ifeq 2), (gm_push (.inl 1)), (gm_iload 2), (gm_op2 gm_shl), (gm_goto 3)],
  [(gm_push (.inl 0)), (gm_goto 3)],
  [(gm_op2 gm_or), (gm_istore 1), (gm_iinc 2 1), (gm_goto 1)],
  [(gm_aload 0), gm_dup, (gm_getI 9 901), (gm_push (.inl 1)), (gm_op2 gm_add), (gm_putI 9 901), (gm_iload 1), gm_iret]]
def bpX9_goDay : Nat → Nat := fun b => ([0, 4, 27, 28, 36] : List Nat).getD b 0
set_option maxRecDepth 100000 in
theorem tX9_goDay {D : va_G} {sz : Nat} {ad : Nat → Nat} {cA : Nat → ClassId} {xs : Int → Int} {Ln : Int} {l : Launch} : gm_SB D sz ad cA xs Ln l gm_mt cX9_goDay "LongNoonModel" 3 false 1 bpX9_goDay 0 pX9_goDay :=
  ⟨gm_cn 1 (gm_m_push _) (gm_s_iconst dX9_goDay_0) (
    gm_cn 2 (gm_m_istore _) (gm_s_istore_n dX9_goDay_1 rfl (by decide)) (
    gm_cn 3 (gm_m_push _) (gm_s_iconst dX9_goDay_2) (
    gm_cn 4 (gm_m_istore _) (gm_s_istore_n dX9_goDay_3 rfl (by decide)) (
    gm_cn 0 (gm_m_goto _) (gm_s_fall (bpc := bpX9_goDay) (b := 1) rfl 0) (
    trivial))))),
  gm_cn 5 (gm_m_iload _) (gm_s_iload_n dX9_goDay_4 rfl) (
    gm_cn 6 (gm_m_aload _) (gm_s_aload_n dX9_goDay_5 rfl) (
    gm_cn 9 (gm_m_getI _ _) (gf_getI_9_0 gw_215 dX9_goDay_6) (
    gm_cn 12 (gm_m_cge _) (gm_s_cge (bpc := bpX9_goDay) (b := 4) dX9_goDay_9 rfl) (
    gm_cn 13 (gm_m_iload _) (gm_s_iload_n dX9_goDay_12 rfl) (
    gm_cn 14 (gm_m_aload _) (gm_s_aload_n dX9_goDay_13 rfl) (
    gm_cn 15 (gm_m_iload _) (gm_s_iload_n dX9_goDay_14 rfl) (
    gm_cn 18 (gm_m_vcall _ _ _) (gcl_X9_goHouse gw_311 dX9_goDay_15) (
    gm_cn 21 (gm_m_ifeq _) (gm_s_ifeq (bpc := bpX9_goDay) (b := 2) dX9_goDay_18 rfl) (
    gm_cn 22 (gm_m_push _) (gm_s_iconst dX9_goDay_21) (
    gm_cn 23 (gm_m_iload _) (gm_s_iload_n dX9_goDay_22 rfl) (
    gm_cn 24 (gm_m_op2 _) (gm_s_ishl dX9_goDay_23) (
    gm_cn 0 (gm_m_goto _) (gm_s_goto (bpc := bpX9_goDay) (b := 3) dX9_goDay_24 rfl 0) (
    trivial))))))))))))),
  gm_cn 28 (gm_m_push _) (gm_s_iconst dX9_goDay_27) (
    gm_cn 0 (gm_m_goto _) (gm_s_fall (bpc := bpX9_goDay) (b := 3) rfl 0) (
    trivial)),
  gm_cn 29 (gm_m_op2 _) (gm_s_ior dX9_goDay_28) (
    gm_cn 30 (gm_m_istore _) (gm_s_istore_n dX9_goDay_29 rfl (by decide)) (
    gm_cn 33 (gm_m_iinc _ _) (gm_s_iinc dX9_goDay_30 (by decide)) (
    gm_cn 0 (gm_m_goto _) (gm_s_goto (bpc := bpX9_goDay) (b := 1) dX9_goDay_33 rfl 0) (
    trivial)))),
  gm_cn 37 (gm_m_aload _) (gm_s_aload_n dX9_goDay_36 rfl) (
    gm_cn 38 gm_m_dup (gm_s_dup dX9_goDay_37) (
    gm_cn 41 (gm_m_getI _ _) (gf_getI_9_1 gw_216 dX9_goDay_38) (
    gm_cn 42 (gm_m_push _) (gm_s_iconst dX9_goDay_41) (
    gm_cn 43 (gm_m_op2 _) (gm_s_iadd dX9_goDay_42) (
    gm_cn 46 (gm_m_putI _ _) (gf_putI_9_1 gw_216 dX9_goDay_43) (
    gm_cn 47 (gm_m_iload _) (gm_s_iload_n dX9_goDay_46 rfl) (
    gm_cn 0 gm_m_iret (gm_s_iret dX9_goDay_47 rfl 0) (
    trivial)))))))), trivial⟩
theorem dX9_day_0 : decode cX9_day 0 = .ok (.aload_n 0, 1) := by decide +kernel
theorem dX9_day_1 : decode cX9_day 1 = .ok (.getfield 13, 3) := by decide +kernel
theorem dX9_day_4 : decode cX9_day 4 = .ok (.sipush 9999, 3) := by decide +kernel
theorem dX9_day_7 : decode cX9_day 7 = .ok (.if_icmp .ne 8, 3) := by decide +kernel
theorem dX9_day_10 : decode cX9_day 10 = .ok (.bipush (-3), 2) := by decide +kernel
theorem dX9_day_12 : decode cX9_day 12 = .ok (.goto 7, 3) := by decide +kernel
theorem dX9_day_15 : decode cX9_day 15 = .ok (.aload_n 0, 1) := by decide +kernel
theorem dX9_day_16 : decode cX9_day 16 = .ok (.invokevirtual 311, 3) := by decide +kernel
theorem dX9_day_19 : decode cX9_day 19 = .ok (.ireturn, 1) := by decide +kernel
def pX9_day : List (List gm_A) := [[(gm_aload 0), (gm_getI 9 901), (gm_push (.inl 9999)), (gm_cne 1), (gm_push (.inl (-3))), (gm_goto 2)],
  [(gm_aload 0), (gm_vcall 9 139 1), (gm_goto 2)],
  [gm_iret]]
def bpX9_day : Nat → Nat := fun b => ([0, 15, 19] : List Nat).getD b 0
set_option maxRecDepth 100000 in
theorem tX9_day {D : va_G} {sz : Nat} {ad : Nat → Nat} {cA : Nat → ClassId} {xs : Int → Int} {Ln : Int} {l : Launch} : gm_SB D sz ad cA xs Ln l gm_mt cX9_day "LongNoonModel" 1 false 1 bpX9_day 0 pX9_day :=
  ⟨gm_cn 1 (gm_m_aload _) (gm_s_aload_n dX9_day_0 rfl) (
    gm_cn 4 (gm_m_getI _ _) (gf_getI_9_1 gw_216 dX9_day_1) (
    gm_cn 7 (gm_m_push _) (gm_s_sipush dX9_day_4 rfl) (
    gm_cn 10 (gm_m_cne _) (gm_s_cne (bpc := bpX9_day) (b := 1) dX9_day_7 rfl) (
    gm_cn 12 (gm_m_push _) (gm_s_bipush dX9_day_10 rfl) (
    gm_cn 0 (gm_m_goto _) (gm_s_goto (bpc := bpX9_day) (b := 2) dX9_day_12 rfl 0) (
    trivial)))))),
  gm_cn 16 (gm_m_aload _) (gm_s_aload_n dX9_day_15 rfl) (
    gm_cn 19 (gm_m_vcall _ _ _) (gcl_X9_goDay gw_312 dX9_day_16) (
    gm_cn 0 (gm_m_goto _) (gm_s_fall (bpc := bpX9_day) (b := 2) rfl 0) (
    trivial))),
  gm_cn 0 gm_m_iret (gm_s_iret dX9_day_19 rfl 0) (
    trivial), trivial⟩
theorem dX9_keep_0 : decode cX9_keep 0 = .ok (.iconst 0, 1) := by decide +kernel
theorem dX9_keep_1 : decode cX9_keep 1 = .ok (.istore_n 1, 1) := by decide +kernel
theorem dX9_keep_2 : decode cX9_keep 2 = .ok (.iload_n 1, 1) := by decide +kernel
theorem dX9_keep_3 : decode cX9_keep 3 = .ok (.bipush 6, 2) := by decide +kernel
theorem dX9_keep_5 : decode cX9_keep 5 = .ok (.if_icmp .ge 33, 3) := by decide +kernel
theorem dX9_keep_8 : decode cX9_keep 8 = .ok (.aload_n 0, 1) := by decide +kernel
theorem dX9_keep_9 : decode cX9_keep 9 = .ok (.getfield 105, 3) := by decide +kernel
theorem dX9_keep_12 : decode cX9_keep 12 = .ok (.iload_n 1, 1) := by decide +kernel
theorem dX9_keep_13 : decode cX9_keep 13 = .ok (.aload_n 0, 1) := by decide +kernel
theorem dX9_keep_14 : decode cX9_keep 14 = .ok (.getfield 23, 3) := by decide +kernel
theorem dX9_keep_17 : decode cX9_keep 17 = .ok (.iload_n 1, 1) := by decide +kernel
theorem dX9_keep_18 : decode cX9_keep 18 = .ok (.iaload, 1) := by decide +kernel
theorem dX9_keep_19 : decode cX9_keep 19 = .ok (.iastore, 1) := by decide +kernel
theorem dX9_keep_20 : decode cX9_keep 20 = .ok (.aload_n 0, 1) := by decide +kernel
theorem dX9_keep_21 : decode cX9_keep 21 = .ok (.getfield 108, 3) := by decide +kernel
theorem dX9_keep_24 : decode cX9_keep 24 = .ok (.iload_n 1, 1) := by decide +kernel
theorem dX9_keep_25 : decode cX9_keep 25 = .ok (.aload_n 0, 1) := by decide +kernel
theorem dX9_keep_26 : decode cX9_keep 26 = .ok (.getfield 26, 3) := by decide +kernel
theorem dX9_keep_29 : decode cX9_keep 29 = .ok (.iload_n 1, 1) := by decide +kernel
theorem dX9_keep_30 : decode cX9_keep 30 = .ok (.iaload, 1) := by decide +kernel
theorem dX9_keep_31 : decode cX9_keep 31 = .ok (.iastore, 1) := by decide +kernel
theorem dX9_keep_32 : decode cX9_keep 32 = .ok (.iinc 1 1, 3) := by decide +kernel
theorem dX9_keep_35 : decode cX9_keep 35 = .ok (.goto (-33), 3) := by decide +kernel
theorem dX9_keep_38 : decode cX9_keep 38 = .ok (.aload_n 0, 1) := by decide +kernel
theorem dX9_keep_39 : decode cX9_keep 39 = .ok (.aload_n 0, 1) := by decide +kernel
theorem dX9_keep_40 : decode cX9_keep 40 = .ok (.getfield 13, 3) := by decide +kernel
theorem dX9_keep_43 : decode cX9_keep 43 = .ok (.putfield 111, 3) := by decide +kernel
theorem dX9_keep_46 : decode cX9_keep 46 = .ok (.return_, 1) := by decide +kernel
def pX9_keep : List (List gm_A) := [[(gm_push (.inl 0)), (gm_istore 1), (gm_goto 1)],
  [(gm_iload 1), (gm_push (.inl 6)), (gm_cge 2), (gm_aload 0), (gm_getR 9 931), (gm_iload 1), (gm_aload 0), (gm_getR 9 904), (gm_iload 1), gm_iald, gm_iast, (gm_aload 0), (gm_getR 9 932), (gm_iload 1), (gm_aload 0), (gm_getR 9 905), (gm_iload 1), gm_iald, gm_iast, (gm_iinc 1 1), (gm_goto 1)],
  [(gm_aload 0), (gm_aload 0), (gm_getI 9 901), (gm_putI 9 933), gm_vret]]
def bpX9_keep : Nat → Nat := fun b => ([0, 2, 38] : List Nat).getD b 0
set_option maxRecDepth 100000 in
theorem tX9_keep {D : va_G} {sz : Nat} {ad : Nat → Nat} {cA : Nat → ClassId} {xs : Int → Int} {Ln : Int} {l : Launch} : gm_SB D sz ad cA xs Ln l gm_mt cX9_keep "LongNoonModel" 2 false 0 bpX9_keep 0 pX9_keep :=
  ⟨gm_cn 1 (gm_m_push _) (gm_s_iconst dX9_keep_0) (
    gm_cn 2 (gm_m_istore _) (gm_s_istore_n dX9_keep_1 rfl (by decide)) (
    gm_cn 0 (gm_m_goto _) (gm_s_fall (bpc := bpX9_keep) (b := 1) rfl 0) (
    trivial))),
  gm_cn 3 (gm_m_iload _) (gm_s_iload_n dX9_keep_2 rfl) (
    gm_cn 5 (gm_m_push _) (gm_s_bipush dX9_keep_3 rfl) (
    gm_cn 8 (gm_m_cge _) (gm_s_cge (bpc := bpX9_keep) (b := 2) dX9_keep_5 rfl) (
    gm_cn 9 (gm_m_aload _) (gm_s_aload_n dX9_keep_8 rfl) (
    gm_cn 12 (gm_m_getR _ _) (gf_getR_9_31 gw_247 dX9_keep_9) (
    gm_cn 13 (gm_m_iload _) (gm_s_iload_n dX9_keep_12 rfl) (
    gm_cn 14 (gm_m_aload _) (gm_s_aload_n dX9_keep_13 rfl) (
    gm_cn 17 (gm_m_getR _ _) (gf_getR_9_4 gw_219 dX9_keep_14) (
    gm_cn 18 (gm_m_iload _) (gm_s_iload_n dX9_keep_17 rfl) (
    gm_cn 19 gm_m_iald (gm_s_iald dX9_keep_18) (
    gm_cn 20 gm_m_iast (gm_s_iast dX9_keep_19) (
    gm_cn 21 (gm_m_aload _) (gm_s_aload_n dX9_keep_20 rfl) (
    gm_cn 24 (gm_m_getR _ _) (gf_getR_9_32 gw_248 dX9_keep_21) (
    gm_cn 25 (gm_m_iload _) (gm_s_iload_n dX9_keep_24 rfl) (
    gm_cn 26 (gm_m_aload _) (gm_s_aload_n dX9_keep_25 rfl) (
    gm_cn 29 (gm_m_getR _ _) (gf_getR_9_5 gw_220 dX9_keep_26) (
    gm_cn 30 (gm_m_iload _) (gm_s_iload_n dX9_keep_29 rfl) (
    gm_cn 31 gm_m_iald (gm_s_iald dX9_keep_30) (
    gm_cn 32 gm_m_iast (gm_s_iast dX9_keep_31) (
    gm_cn 35 (gm_m_iinc _ _) (gm_s_iinc dX9_keep_32 (by decide)) (
    gm_cn 0 (gm_m_goto _) (gm_s_goto (bpc := bpX9_keep) (b := 1) dX9_keep_35 rfl 0) (
    trivial))))))))))))))))))))),
  gm_cn 39 (gm_m_aload _) (gm_s_aload_n dX9_keep_38 rfl) (
    gm_cn 40 (gm_m_aload _) (gm_s_aload_n dX9_keep_39 rfl) (
    gm_cn 43 (gm_m_getI _ _) (gf_getI_9_1 gw_216 dX9_keep_40) (
    gm_cn 46 (gm_m_putI _ _) (gf_putI_9_33 gw_249 dX9_keep_43) (
    gm_cn 0 gm_m_vret (gm_s_vret dX9_keep_46 rfl 0) (
    trivial))))), trivial⟩
theorem dX9_putBack_0 : decode cX9_putBack 0 = .ok (.iconst 0, 1) := by decide +kernel
theorem dX9_putBack_1 : decode cX9_putBack 1 = .ok (.istore_n 1, 1) := by decide +kernel
theorem dX9_putBack_2 : decode cX9_putBack 2 = .ok (.iload_n 1, 1) := by decide +kernel
theorem dX9_putBack_3 : decode cX9_putBack 3 = .ok (.bipush 6, 2) := by decide +kernel
theorem dX9_putBack_5 : decode cX9_putBack 5 = .ok (.if_icmp .ge 33, 3) := by decide +kernel
theorem dX9_putBack_8 : decode cX9_putBack 8 = .ok (.aload_n 0, 1) := by decide +kernel
theorem dX9_putBack_9 : decode cX9_putBack 9 = .ok (.getfield 23, 3) := by decide +kernel
theorem dX9_putBack_12 : decode cX9_putBack 12 = .ok (.iload_n 1, 1) := by decide +kernel
theorem dX9_putBack_13 : decode cX9_putBack 13 = .ok (.aload_n 0, 1) := by decide +kernel
theorem dX9_putBack_14 : decode cX9_putBack 14 = .ok (.getfield 105, 3) := by decide +kernel
theorem dX9_putBack_17 : decode cX9_putBack 17 = .ok (.iload_n 1, 1) := by decide +kernel
theorem dX9_putBack_18 : decode cX9_putBack 18 = .ok (.iaload, 1) := by decide +kernel
theorem dX9_putBack_19 : decode cX9_putBack 19 = .ok (.iastore, 1) := by decide +kernel
theorem dX9_putBack_20 : decode cX9_putBack 20 = .ok (.aload_n 0, 1) := by decide +kernel
theorem dX9_putBack_21 : decode cX9_putBack 21 = .ok (.getfield 26, 3) := by decide +kernel
theorem dX9_putBack_24 : decode cX9_putBack 24 = .ok (.iload_n 1, 1) := by decide +kernel
theorem dX9_putBack_25 : decode cX9_putBack 25 = .ok (.aload_n 0, 1) := by decide +kernel
theorem dX9_putBack_26 : decode cX9_putBack 26 = .ok (.getfield 108, 3) := by decide +kernel
theorem dX9_putBack_29 : decode cX9_putBack 29 = .ok (.iload_n 1, 1) := by decide +kernel
theorem dX9_putBack_30 : decode cX9_putBack 30 = .ok (.iaload, 1) := by decide +kernel
theorem dX9_putBack_31 : decode cX9_putBack 31 = .ok (.iastore, 1) := by decide +kernel
theorem dX9_putBack_32 : decode cX9_putBack 32 = .ok (.iinc 1 1, 3) := by decide +kernel
theorem dX9_putBack_35 : decode cX9_putBack 35 = .ok (.goto (-33), 3) := by decide +kernel
theorem dX9_putBack_38 : decode cX9_putBack 38 = .ok (.aload_n 0, 1) := by decide +kernel
theorem dX9_putBack_39 : decode cX9_putBack 39 = .ok (.aload_n 0, 1) := by decide +kernel
theorem dX9_putBack_40 : decode cX9_putBack 40 = .ok (.getfield 111, 3) := by decide +kernel
theorem dX9_putBack_43 : decode cX9_putBack 43 = .ok (.putfield 13, 3) := by decide +kernel
theorem dX9_putBack_46 : decode cX9_putBack 46 = .ok (.return_, 1) := by decide +kernel
def pX9_putBack : List (List gm_A) := [[(gm_push (.inl 0)), (gm_istore 1), (gm_goto 1)],
  [(gm_iload 1), (gm_push (.inl 6)), (gm_cge 2), (gm_aload 0), (gm_getR 9 904), (gm_iload 1), (gm_aload 0), (gm_getR 9 931), (gm_iload 1), gm_iald, gm_iast, (gm_aload 0), (gm_getR 9 905), (gm_iload 1), (gm_aload 0), (gm_getR 9 932), (gm_iload 1), gm_iald, gm_iast, (gm_iinc 1 1), (gm_goto 1)],
  [(gm_aload 0), (gm_aload 0), (gm_getI 9 933), (gm_putI 9 901), gm_vret]]
def bpX9_putBack : Nat → Nat := fun b => ([0, 2, 38] : List Nat).getD b 0
set_option maxRecDepth 100000 in
theorem tX9_putBack {D : va_G} {sz : Nat} {ad : Nat → Nat} {cA : Nat → ClassId} {xs : Int → Int} {Ln : Int} {l : Launch} : gm_SB D sz ad cA xs Ln l gm_mt cX9_putBack "LongNoonModel" 2 false 0 bpX9_putBack 0 pX9_putBack :=
  ⟨gm_cn 1 (gm_m_push _) (gm_s_iconst dX9_putBack_0) (
    gm_cn 2 (gm_m_istore _) (gm_s_istore_n dX9_putBack_1 rfl (by decide)) (
    gm_cn 0 (gm_m_goto _) (gm_s_fall (bpc := bpX9_putBack) (b := 1) rfl 0) (
    trivial))),
  gm_cn 3 (gm_m_iload _) (gm_s_iload_n dX9_putBack_2 rfl) (
    gm_cn 5 (gm_m_push _) (gm_s_bipush dX9_putBack_3 rfl) (
    gm_cn 8 (gm_m_cge _) (gm_s_cge (bpc := bpX9_putBack) (b := 2) dX9_putBack_5 rfl) (
    gm_cn 9 (gm_m_aload _) (gm_s_aload_n dX9_putBack_8 rfl) (
    gm_cn 12 (gm_m_getR _ _) (gf_getR_9_4 gw_219 dX9_putBack_9) (
    gm_cn 13 (gm_m_iload _) (gm_s_iload_n dX9_putBack_12 rfl) (
    gm_cn 14 (gm_m_aload _) (gm_s_aload_n dX9_putBack_13 rfl) (
    gm_cn 17 (gm_m_getR _ _) (gf_getR_9_31 gw_247 dX9_putBack_14) (
    gm_cn 18 (gm_m_iload _) (gm_s_iload_n dX9_putBack_17 rfl) (
    gm_cn 19 gm_m_iald (gm_s_iald dX9_putBack_18) (
    gm_cn 20 gm_m_iast (gm_s_iast dX9_putBack_19) (
    gm_cn 21 (gm_m_aload _) (gm_s_aload_n dX9_putBack_20 rfl) (
    gm_cn 24 (gm_m_getR _ _) (gf_getR_9_5 gw_220 dX9_putBack_21) (
    gm_cn 25 (gm_m_iload _) (gm_s_iload_n dX9_putBack_24 rfl) (
    gm_cn 26 (gm_m_aload _) (gm_s_aload_n dX9_putBack_25 rfl) (
    gm_cn 29 (gm_m_getR _ _) (gf_getR_9_32 gw_248 dX9_putBack_26) (
    gm_cn 30 (gm_m_iload _) (gm_s_iload_n dX9_putBack_29 rfl) (
    gm_cn 31 gm_m_iald (gm_s_iald dX9_putBack_30) (
    gm_cn 32 gm_m_iast (gm_s_iast dX9_putBack_31) (
    gm_cn 35 (gm_m_iinc _ _) (gm_s_iinc dX9_putBack_32 (by decide)) (
    gm_cn 0 (gm_m_goto _) (gm_s_goto (bpc := bpX9_putBack) (b := 1) dX9_putBack_35 rfl 0) (
    trivial))))))))))))))))))))),
  gm_cn 39 (gm_m_aload _) (gm_s_aload_n dX9_putBack_38 rfl) (
    gm_cn 40 (gm_m_aload _) (gm_s_aload_n dX9_putBack_39 rfl) (
    gm_cn 43 (gm_m_getI _ _) (gf_getI_9_33 gw_249 dX9_putBack_40) (
    gm_cn 46 (gm_m_putI _ _) (gf_putI_9_1 gw_216 dX9_putBack_43) (
    gm_cn 0 gm_m_vret (gm_s_vret dX9_putBack_46 rfl 0) (
    trivial))))), trivial⟩
theorem dX9_goOne_0 : decode cX9_goOne 0 = .ok (.iconst 0, 1) := by decide +kernel
theorem dX9_goOne_1 : decode cX9_goOne 1 = .ok (.istore_n 3, 1) := by decide +kernel
theorem dX9_goOne_2 : decode cX9_goOne 2 = .ok (.iconst 0, 1) := by decide +kernel
theorem dX9_goOne_3 : decode cX9_goOne 3 = .ok (.istore 4, 2) := by decide +kernel
theorem dX9_goOne_5 : decode cX9_goOne 5 = .ok (.iload 4, 2) := by decide +kernel
theorem dX9_goOne_7 : decode cX9_goOne 7 = .ok (.iload_n 2, 1) := by decide +kernel
theorem dX9_goOne_8 : decode cX9_goOne 8 = .ok (.if_icmp .ge 35, 3) := by decide +kernel
theorem dX9_goOne_11 : decode cX9_goOne 11 = .ok (.iload_n 3, 1) := by decide +kernel
theorem dX9_goOne_12 : decode cX9_goOne 12 = .ok (.aload_n 0, 1) := by decide +kernel
theorem dX9_goOne_13 : decode cX9_goOne 13 = .ok (.iload_n 1, 1) := by decide +kernel
theorem dX9_goOne_14 : decode cX9_goOne 14 = .ok (.invokevirtual 308, 3) := by decide +kernel
theorem dX9_goOne_17 : decode cX9_goOne 17 = .ok (.ifCond .eq 7, 3) := by decide +kernel
theorem dX9_goOne_20 : decode cX9_goOne 20 = .ok (.iconst 1, 1) := by decide +kernel
theorem dX9_goOne_21 : decode cX9_goOne 21 = .ok (.goto 4, 3) := by decide +kernel
theorem dX9_goOne_24 : decode cX9_goOne 24 = .ok (.iconst 0, 1) := by decide +kernel
theorem dX9_goOne_25 : decode cX9_goOne 25 = .ok (.iadd, 1) := by decide +kernel
theorem dX9_goOne_26 : decode cX9_goOne 26 = .ok (.istore_n 3, 1) := by decide +kernel
theorem dX9_goOne_27 : decode cX9_goOne 27 = .ok (.aload_n 0, 1) := by decide +kernel
theorem dX9_goOne_28 : decode cX9_goOne 28 = .ok (.dup, 1) := by decide +kernel
theorem dX9_goOne_29 : decode cX9_goOne 29 = .ok (.getfield 13, 3) := by decide +kernel
theorem dX9_goOne_32 : decode cX9_goOne 32 = .ok (.iconst 1, 1) := by decide +kernel
theorem dX9_goOne_33 : decode cX9_goOne 33 = .ok (.iadd, 1) := by decide +kernel
theorem dX9_goOne_34 : decode cX9_goOne 34 = .ok (.putfield 13, 3) := by decide +kernel
theorem dX9_goOne_37 : decode cX9_goOne 37 = .ok (.iinc 4 1, 3) := by decide +kernel
theorem dX9_goOne_40 : decode cX9_goOne 40 = .ok (.goto (-35), 3) := by decide +kernel
theorem dX9_goOne_43 : decode cX9_goOne 43 = .ok (.iload_n 3, 1) := by decide +kernel
theorem dX9_goOne_44 : decode cX9_goOne 44 = .ok (.ireturn, 1) := by decide +kernel
def pX9_goOne : List (List gm_A) := [[(gm_push (.inl 0)), (gm_istore 3), (gm_push (.inl 0)), (gm_istore 4), (gm_goto 1)],
  [(gm_iload 4), (gm_iload 2), (gm_cge 4), (gm_iload 3), (gm_aload 0), (gm_iload 1), (gm_vcall 9 136 2), (gm_ifeq 2), (gm_push (.inl 1)), (gm_goto 3)],
  [(gm_push (.inl 0)), (gm_goto 3)],
  [(gm_op2 gm_add), (gm_istore 3), (gm_aload 0), gm_dup, (gm_getI 9 901), (gm_push (.inl 1)), (gm_op2 gm_add), (gm_putI 9 901), (gm_iinc 4 1), (gm_goto 1)],
  [(gm_iload 3), gm_iret]]
def bpX9_goOne : Nat → Nat := fun b => ([0, 5, 24, 25, 43] : List Nat).getD b 0
set_option maxRecDepth 100000 in
theorem tX9_goOne {D : va_G} {sz : Nat} {ad : Nat → Nat} {cA : Nat → ClassId} {xs : Int → Int} {Ln : Int} {l : Launch} : gm_SB D sz ad cA xs Ln l gm_mt cX9_goOne "LongNoonModel" 5 false 1 bpX9_goOne 0 pX9_goOne :=
  ⟨gm_cn 1 (gm_m_push _) (gm_s_iconst dX9_goOne_0) (
    gm_cn 2 (gm_m_istore _) (gm_s_istore_n dX9_goOne_1 rfl (by decide)) (
    gm_cn 3 (gm_m_push _) (gm_s_iconst dX9_goOne_2) (
    gm_cn 5 (gm_m_istore _) (gm_s_istore dX9_goOne_3 (by decide)) (
    gm_cn 0 (gm_m_goto _) (gm_s_fall (bpc := bpX9_goOne) (b := 1) rfl 0) (
    trivial))))),
  gm_cn 7 (gm_m_iload _) (gm_s_iload dX9_goOne_5) (
    gm_cn 8 (gm_m_iload _) (gm_s_iload_n dX9_goOne_7 rfl) (
    gm_cn 11 (gm_m_cge _) (gm_s_cge (bpc := bpX9_goOne) (b := 4) dX9_goOne_8 rfl) (
    gm_cn 12 (gm_m_iload _) (gm_s_iload_n dX9_goOne_11 rfl) (
    gm_cn 13 (gm_m_aload _) (gm_s_aload_n dX9_goOne_12 rfl) (
    gm_cn 14 (gm_m_iload _) (gm_s_iload_n dX9_goOne_13 rfl) (
    gm_cn 17 (gm_m_vcall _ _ _) (gcl_X9_goHouse gw_311 dX9_goOne_14) (
    gm_cn 20 (gm_m_ifeq _) (gm_s_ifeq (bpc := bpX9_goOne) (b := 2) dX9_goOne_17 rfl) (
    gm_cn 21 (gm_m_push _) (gm_s_iconst dX9_goOne_20) (
    gm_cn 0 (gm_m_goto _) (gm_s_goto (bpc := bpX9_goOne) (b := 3) dX9_goOne_21 rfl 0) (
    trivial)))))))))),
  gm_cn 25 (gm_m_push _) (gm_s_iconst dX9_goOne_24) (
    gm_cn 0 (gm_m_goto _) (gm_s_fall (bpc := bpX9_goOne) (b := 3) rfl 0) (
    trivial)),
  gm_cn 26 (gm_m_op2 _) (gm_s_iadd dX9_goOne_25) (
    gm_cn 27 (gm_m_istore _) (gm_s_istore_n dX9_goOne_26 rfl (by decide)) (
    gm_cn 28 (gm_m_aload _) (gm_s_aload_n dX9_goOne_27 rfl) (
    gm_cn 29 gm_m_dup (gm_s_dup dX9_goOne_28) (
    gm_cn 32 (gm_m_getI _ _) (gf_getI_9_1 gw_216 dX9_goOne_29) (
    gm_cn 33 (gm_m_push _) (gm_s_iconst dX9_goOne_32) (
    gm_cn 34 (gm_m_op2 _) (gm_s_iadd dX9_goOne_33) (
    gm_cn 37 (gm_m_putI _ _) (gf_putI_9_1 gw_216 dX9_goOne_34) (
    gm_cn 40 (gm_m_iinc _ _) (gm_s_iinc dX9_goOne_37 (by decide)) (
    gm_cn 0 (gm_m_goto _) (gm_s_goto (bpc := bpX9_goOne) (b := 1) dX9_goOne_40 rfl 0) (
    trivial)))))))))),
  gm_cn 44 (gm_m_iload _) (gm_s_iload_n dX9_goOne_43 rfl) (
    gm_cn 0 gm_m_iret (gm_s_iret dX9_goOne_44 rfl 0) (
    trivial)), trivial⟩
theorem dX9_amissDays_0 : decode cX9_amissDays 0 = .ok (.aload_n 0, 1) := by decide +kernel
theorem dX9_amissDays_1 : decode cX9_amissDays 1 = .ok (.invokevirtual 314, 3) := by decide +kernel
theorem dX9_amissDays_4 : decode cX9_amissDays 4 = .ok (.aload_n 0, 1) := by decide +kernel
theorem dX9_amissDays_5 : decode cX9_amissDays 5 = .ok (.iload_n 1, 1) := by decide +kernel
theorem dX9_amissDays_6 : decode cX9_amissDays 6 = .ok (.iload_n 2, 1) := by decide +kernel
theorem dX9_amissDays_7 : decode cX9_amissDays 7 = .ok (.invokevirtual 317, 3) := by decide +kernel
theorem dX9_amissDays_10 : decode cX9_amissDays 10 = .ok (.istore_n 3, 1) := by decide +kernel
theorem dX9_amissDays_11 : decode cX9_amissDays 11 = .ok (.aload_n 0, 1) := by decide +kernel
theorem dX9_amissDays_12 : decode cX9_amissDays 12 = .ok (.invokevirtual 320, 3) := by decide +kernel
theorem dX9_amissDays_15 : decode cX9_amissDays 15 = .ok (.iload_n 3, 1) := by decide +kernel
theorem dX9_amissDays_16 : decode cX9_amissDays 16 = .ok (.ireturn, 1) := by decide +kernel
def pX9_amissDays : List (List gm_A) := [[(gm_aload 0), (gm_vcall 9 141 1), (gm_aload 0), (gm_iload 1), (gm_iload 2), (gm_vcall 9 143 3), (gm_istore 3), (gm_aload 0), (gm_vcall 9 142 1), (gm_iload 3), gm_iret]]
def bpX9_amissDays : Nat → Nat := fun b => ([0] : List Nat).getD b 0
set_option maxRecDepth 100000 in
theorem tX9_amissDays {D : va_G} {sz : Nat} {ad : Nat → Nat} {cA : Nat → ClassId} {xs : Int → Int} {Ln : Int} {l : Launch} : gm_SB D sz ad cA xs Ln l gm_mt cX9_amissDays "LongNoonModel" 4 false 1 bpX9_amissDays 0 pX9_amissDays :=
  ⟨gm_cn 1 (gm_m_aload _) (gm_s_aload_n dX9_amissDays_0 rfl) (
    gm_cn 4 (gm_m_vcall _ _ _) (gcl_X9_keep gw_313 dX9_amissDays_1) (
    gm_cn 5 (gm_m_aload _) (gm_s_aload_n dX9_amissDays_4 rfl) (
    gm_cn 6 (gm_m_iload _) (gm_s_iload_n dX9_amissDays_5 rfl) (
    gm_cn 7 (gm_m_iload _) (gm_s_iload_n dX9_amissDays_6 rfl) (
    gm_cn 10 (gm_m_vcall _ _ _) (gcl_X9_goOne gw_314 dX9_amissDays_7) (
    gm_cn 11 (gm_m_istore _) (gm_s_istore_n dX9_amissDays_10 rfl (by decide)) (
    gm_cn 12 (gm_m_aload _) (gm_s_aload_n dX9_amissDays_11 rfl) (
    gm_cn 15 (gm_m_vcall _ _ _) (gcl_X9_putBack gw_315 dX9_amissDays_12) (
    gm_cn 16 (gm_m_iload _) (gm_s_iload_n dX9_amissDays_15 rfl) (
    gm_cn 0 gm_m_iret (gm_s_iret dX9_amissDays_16 rfl 0) (
    trivial))))))))))), trivial⟩
theorem dX9_on_0 : decode cX9_on 0 = .ok (.aload_n 0, 1) := by decide +kernel
theorem dX9_on_1 : decode cX9_on 1 = .ok (.iload_n 1, 1) := by decide +kernel
theorem dX9_on_2 : decode cX9_on 2 = .ok (.invokevirtual 210, 3) := by decide +kernel
theorem dX9_on_5 : decode cX9_on 5 = .ok (.ifCond .eq 13, 3) := by decide +kernel
theorem dX9_on_8 : decode cX9_on 8 = .ok (.aload_n 0, 1) := by decide +kernel
theorem dX9_on_9 : decode cX9_on 9 = .ok (.iload_n 3, 1) := by decide +kernel
theorem dX9_on_10 : decode cX9_on 10 = .ok (.iconst 0, 1) := by decide +kernel
theorem dX9_on_11 : decode cX9_on 11 = .ok (.iconst 2, 1) := by decide +kernel
theorem dX9_on_12 : decode cX9_on 12 = .ok (.invokevirtual 206, 3) := by decide +kernel
theorem dX9_on_15 : decode cX9_on 15 = .ok (.ifCond .ne 5, 3) := by decide +kernel
theorem dX9_on_18 : decode cX9_on 18 = .ok (.iconst (-1), 1) := by decide +kernel
theorem dX9_on_19 : decode cX9_on 19 = .ok (.ireturn, 1) := by decide +kernel
theorem dX9_on_20 : decode cX9_on 20 = .ok (.aload_n 0, 1) := by decide +kernel
theorem dX9_on_21 : decode cX9_on 21 = .ok (.iload_n 2, 1) := by decide +kernel
theorem dX9_on_22 : decode cX9_on 22 = .ok (.iconst 0, 1) := by decide +kernel
theorem dX9_on_23 : decode cX9_on 23 = .ok (.bipush 60, 2) := by decide +kernel
theorem dX9_on_25 : decode cX9_on 25 = .ok (.invokevirtual 206, 3) := by decide +kernel
theorem dX9_on_28 : decode cX9_on 28 = .ok (.ifCond .ne 6, 3) := by decide +kernel
theorem dX9_on_31 : decode cX9_on 31 = .ok (.bipush (-2), 2) := by decide +kernel
theorem dX9_on_33 : decode cX9_on 33 = .ok (.ireturn, 1) := by decide +kernel
theorem dX9_on_34 : decode cX9_on 34 = .ok (.aload_n 0, 1) := by decide +kernel
theorem dX9_on_35 : decode cX9_on 35 = .ok (.invokevirtual 314, 3) := by decide +kernel
theorem dX9_on_38 : decode cX9_on 38 = .ok (.aload_n 0, 1) := by decide +kernel
theorem dX9_on_39 : decode cX9_on 39 = .ok (.iload_n 1, 1) := by decide +kernel
theorem dX9_on_40 : decode cX9_on 40 = .ok (.iload_n 2, 1) := by decide +kernel
theorem dX9_on_41 : decode cX9_on 41 = .ok (.invokevirtual 317, 3) := by decide +kernel
theorem dX9_on_44 : decode cX9_on 44 = .ok (.istore 4, 2) := by decide +kernel
theorem dX9_on_46 : decode cX9_on 46 = .ok (.iload_n 3, 1) := by decide +kernel
theorem dX9_on_47 : decode cX9_on 47 = .ok (.ifCond .ne 12, 3) := by decide +kernel
theorem dX9_on_50 : decode cX9_on 50 = .ok (.aload_n 0, 1) := by decide +kernel
theorem dX9_on_51 : decode cX9_on 51 = .ok (.getfield 23, 3) := by decide +kernel
theorem dX9_on_54 : decode cX9_on 54 = .ok (.iload_n 1, 1) := by decide +kernel
theorem dX9_on_55 : decode cX9_on 55 = .ok (.iaload, 1) := by decide +kernel
theorem dX9_on_56 : decode cX9_on 56 = .ok (.goto 19, 3) := by decide +kernel
theorem dX9_on_59 : decode cX9_on 59 = .ok (.iload_n 3, 1) := by decide +kernel
theorem dX9_on_60 : decode cX9_on 60 = .ok (.iconst 1, 1) := by decide +kernel
theorem dX9_on_61 : decode cX9_on 61 = .ok (.if_icmp .ne 12, 3) := by decide +kernel
theorem dX9_on_64 : decode cX9_on 64 = .ok (.aload_n 0, 1) := by decide +kernel
theorem dX9_on_65 : decode cX9_on 65 = .ok (.getfield 26, 3) := by decide +kernel
theorem dX9_on_68 : decode cX9_on 68 = .ok (.iload_n 1, 1) := by decide +kernel
theorem dX9_on_69 : decode cX9_on 69 = .ok (.iaload, 1) := by decide +kernel
theorem dX9_on_70 : decode cX9_on 70 = .ok (.goto 5, 3) := by decide +kernel
theorem dX9_on_73 : decode cX9_on 73 = .ok (.iload 4, 2) := by decide +kernel
theorem dX9_on_75 : decode cX9_on 75 = .ok (.istore 5, 2) := by decide +kernel
theorem dX9_on_77 : decode cX9_on 77 = .ok (.aload_n 0, 1) := by decide +kernel
theorem dX9_on_78 : decode cX9_on 78 = .ok (.invokevirtual 320, 3) := by decide +kernel
theorem dX9_on_81 : decode cX9_on 81 = .ok (.iload 5, 2) := by decide +kernel
theorem dX9_on_83 : decode cX9_on 83 = .ok (.ireturn, 1) := by decide +kernel
def pX9_on : List (List gm_A) := [[(gm_aload 0), (gm_iload 1), (gm_vcall 9 101 2), (gm_ifeq 1), (gm_aload 0), (gm_iload 3), (gm_push (.inl 0)), (gm_push (.inl 2)), (gm_vcall 9 100 4), (gm_ifne 2), (gm_goto 1)],
  [(gm_push (.inl (-1))), gm_iret],
  [(gm_aload 0), (gm_iload 2), (gm_push (.inl 0)), (gm_push (.inl 60)), (gm_vcall 9 100 4), (gm_ifne 3), (gm_push (.inl (-2))), gm_iret],
  [(gm_aload 0), (gm_vcall 9 141 1), (gm_aload 0), (gm_iload 1), (gm_iload 2), (gm_vcall 9 143 3), (gm_istore 4), (gm_iload 3), (gm_ifne 4), (gm_aload 0), (gm_getR 9 904), (gm_iload 1), gm_iald, (gm_goto 6)],
  [(gm_iload 3), (gm_push (.inl 1)), (gm_cne 5), (gm_aload 0), (gm_getR 9 905), (gm_iload 1), gm_iald, (gm_goto 6)],
  [(gm_iload 4), (gm_goto 6)],
  [(gm_istore 5), (gm_aload 0), (gm_vcall 9 142 1), (gm_iload 5), gm_iret]]
def bpX9_on : Nat → Nat := fun b => ([0, 18, 20, 34, 59, 73, 75] : List Nat).getD b 0
set_option maxRecDepth 100000 in
theorem tX9_on {D : va_G} {sz : Nat} {ad : Nat → Nat} {cA : Nat → ClassId} {xs : Int → Int} {Ln : Int} {l : Launch} : gm_SB D sz ad cA xs Ln l gm_mt cX9_on "LongNoonModel" 6 false 1 bpX9_on 0 pX9_on :=
  ⟨gm_cn 1 (gm_m_aload _) (gm_s_aload_n dX9_on_0 rfl) (
    gm_cn 2 (gm_m_iload _) (gm_s_iload_n dX9_on_1 rfl) (
    gm_cn 5 (gm_m_vcall _ _ _) (gcl_X9_isHouse gw_281 dX9_on_2) (
    gm_cn 8 (gm_m_ifeq _) (gm_s_ifeq (bpc := bpX9_on) (b := 1) dX9_on_5 rfl) (
    gm_cn 9 (gm_m_aload _) (gm_s_aload_n dX9_on_8 rfl) (
    gm_cn 10 (gm_m_iload _) (gm_s_iload_n dX9_on_9 rfl) (
    gm_cn 11 (gm_m_push _) (gm_s_iconst dX9_on_10) (
    gm_cn 12 (gm_m_push _) (gm_s_iconst dX9_on_11) (
    gm_cn 15 (gm_m_vcall _ _ _) (gcl_X9_in gw_280 dX9_on_12) (
    gm_cn 18 (gm_m_ifne _) (gm_s_ifne (bpc := bpX9_on) (b := 2) dX9_on_15 rfl) (
    gm_cn 0 (gm_m_goto _) (gm_s_fall (bpc := bpX9_on) (b := 1) rfl 0) (
    trivial))))))))))),
  gm_cn 19 (gm_m_push _) (gm_s_iconst dX9_on_18) (
    gm_cn 0 gm_m_iret (gm_s_iret dX9_on_19 rfl 0) (
    trivial)),
  gm_cn 21 (gm_m_aload _) (gm_s_aload_n dX9_on_20 rfl) (
    gm_cn 22 (gm_m_iload _) (gm_s_iload_n dX9_on_21 rfl) (
    gm_cn 23 (gm_m_push _) (gm_s_iconst dX9_on_22) (
    gm_cn 25 (gm_m_push _) (gm_s_bipush dX9_on_23 rfl) (
    gm_cn 28 (gm_m_vcall _ _ _) (gcl_X9_in gw_280 dX9_on_25) (
    gm_cn 31 (gm_m_ifne _) (gm_s_ifne (bpc := bpX9_on) (b := 3) dX9_on_28 rfl) (
    gm_cn 33 (gm_m_push _) (gm_s_bipush dX9_on_31 rfl) (
    gm_cn 0 gm_m_iret (gm_s_iret dX9_on_33 rfl 0) (
    trivial)))))))),
  gm_cn 35 (gm_m_aload _) (gm_s_aload_n dX9_on_34 rfl) (
    gm_cn 38 (gm_m_vcall _ _ _) (gcl_X9_keep gw_313 dX9_on_35) (
    gm_cn 39 (gm_m_aload _) (gm_s_aload_n dX9_on_38 rfl) (
    gm_cn 40 (gm_m_iload _) (gm_s_iload_n dX9_on_39 rfl) (
    gm_cn 41 (gm_m_iload _) (gm_s_iload_n dX9_on_40 rfl) (
    gm_cn 44 (gm_m_vcall _ _ _) (gcl_X9_goOne gw_314 dX9_on_41) (
    gm_cn 46 (gm_m_istore _) (gm_s_istore dX9_on_44 (by decide)) (
    gm_cn 47 (gm_m_iload _) (gm_s_iload_n dX9_on_46 rfl) (
    gm_cn 50 (gm_m_ifne _) (gm_s_ifne (bpc := bpX9_on) (b := 4) dX9_on_47 rfl) (
    gm_cn 51 (gm_m_aload _) (gm_s_aload_n dX9_on_50 rfl) (
    gm_cn 54 (gm_m_getR _ _) (gf_getR_9_4 gw_219 dX9_on_51) (
    gm_cn 55 (gm_m_iload _) (gm_s_iload_n dX9_on_54 rfl) (
    gm_cn 56 gm_m_iald (gm_s_iald dX9_on_55) (
    gm_cn 0 (gm_m_goto _) (gm_s_goto (bpc := bpX9_on) (b := 6) dX9_on_56 rfl 0) (
    trivial)))))))))))))),
  gm_cn 60 (gm_m_iload _) (gm_s_iload_n dX9_on_59 rfl) (
    gm_cn 61 (gm_m_push _) (gm_s_iconst dX9_on_60) (
    gm_cn 64 (gm_m_cne _) (gm_s_cne (bpc := bpX9_on) (b := 5) dX9_on_61 rfl) (
    gm_cn 65 (gm_m_aload _) (gm_s_aload_n dX9_on_64 rfl) (
    gm_cn 68 (gm_m_getR _ _) (gf_getR_9_5 gw_220 dX9_on_65) (
    gm_cn 69 (gm_m_iload _) (gm_s_iload_n dX9_on_68 rfl) (
    gm_cn 70 gm_m_iald (gm_s_iald dX9_on_69) (
    gm_cn 0 (gm_m_goto _) (gm_s_goto (bpc := bpX9_on) (b := 6) dX9_on_70 rfl 0) (
    trivial)))))))),
  gm_cn 75 (gm_m_iload _) (gm_s_iload dX9_on_73) (
    gm_cn 0 (gm_m_goto _) (gm_s_fall (bpc := bpX9_on) (b := 6) rfl 0) (
    trivial)),
  gm_cn 77 (gm_m_istore _) (gm_s_istore dX9_on_75 (by decide)) (
    gm_cn 78 (gm_m_aload _) (gm_s_aload_n dX9_on_77 rfl) (
    gm_cn 81 (gm_m_vcall _ _ _) (gcl_X9_putBack gw_315 dX9_on_78) (
    gm_cn 83 (gm_m_iload _) (gm_s_iload dX9_on_81) (
    gm_cn 0 gm_m_iret (gm_s_iret dX9_on_83 rfl 0) (
    trivial))))), trivial⟩
theorem dX9_first_0 : decode cX9_first 0 = .ok (.aload_n 0, 1) := by decide +kernel
theorem dX9_first_1 : decode cX9_first 1 = .ok (.iload_n 1, 1) := by decide +kernel
theorem dX9_first_2 : decode cX9_first 2 = .ok (.invokevirtual 210, 3) := by decide +kernel
theorem dX9_first_5 : decode cX9_first 5 = .ok (.ifCond .ne 5, 3) := by decide +kernel
theorem dX9_first_8 : decode cX9_first 8 = .ok (.iconst (-1), 1) := by decide +kernel
theorem dX9_first_9 : decode cX9_first 9 = .ok (.ireturn, 1) := by decide +kernel
theorem dX9_first_10 : decode cX9_first 10 = .ok (.aload_n 0, 1) := by decide +kernel
theorem dX9_first_11 : decode cX9_first 11 = .ok (.invokevirtual 314, 3) := by decide +kernel
theorem dX9_first_14 : decode cX9_first 14 = .ok (.bipush (-5), 2) := by decide +kernel
theorem dX9_first_16 : decode cX9_first 16 = .ok (.istore_n 2, 1) := by decide +kernel
theorem dX9_first_17 : decode cX9_first 17 = .ok (.iconst 1, 1) := by decide +kernel
theorem dX9_first_18 : decode cX9_first 18 = .ok (.istore_n 3, 1) := by decide +kernel
theorem dX9_first_19 : decode cX9_first 19 = .ok (.iload_n 3, 1) := by decide +kernel
theorem dX9_first_20 : decode cX9_first 20 = .ok (.bipush 57, 2) := by decide +kernel
theorem dX9_first_22 : decode cX9_first 22 = .ok (.if_icmp .ge 29, 3) := by decide +kernel
theorem dX9_first_25 : decode cX9_first 25 = .ok (.iload_n 2, 1) := by decide +kernel
theorem dX9_first_26 : decode cX9_first 26 = .ok (.ifCond .ge 25, 3) := by decide +kernel
theorem dX9_first_29 : decode cX9_first 29 = .ok (.aload_n 0, 1) := by decide +kernel
theorem dX9_first_30 : decode cX9_first 30 = .ok (.iload_n 1, 1) := by decide +kernel
theorem dX9_first_31 : decode cX9_first 31 = .ok (.iconst 1, 1) := by decide +kernel
theorem dX9_first_32 : decode cX9_first 32 = .ok (.invokevirtual 317, 3) := by decide +kernel
theorem dX9_first_35 : decode cX9_first 35 = .ok (.ifCond .le 7, 3) := by decide +kernel
theorem dX9_first_38 : decode cX9_first 38 = .ok (.iload_n 3, 1) := by decide +kernel
theorem dX9_first_39 : decode cX9_first 39 = .ok (.goto 5, 3) := by decide +kernel
theorem dX9_first_42 : decode cX9_first 42 = .ok (.bipush (-5), 2) := by decide +kernel
theorem dX9_first_44 : decode cX9_first 44 = .ok (.istore_n 2, 1) := by decide +kernel
theorem dX9_first_45 : decode cX9_first 45 = .ok (.iinc 3 1, 3) := by decide +kernel
theorem dX9_first_48 : decode cX9_first 48 = .ok (.goto (-29), 3) := by decide +kernel
theorem dX9_first_51 : decode cX9_first 51 = .ok (.aload_n 0, 1) := by decide +kernel
theorem dX9_first_52 : decode cX9_first 52 = .ok (.invokevirtual 320, 3) := by decide +kernel
theorem dX9_first_55 : decode cX9_first 55 = .ok (.iload_n 2, 1) := by decide +kernel
theorem dX9_first_56 : decode cX9_first 56 = .ok (.ireturn, 1) := by decide +kernel
def pX9_first : List (List gm_A) := [[(gm_aload 0), (gm_iload 1), (gm_vcall 9 101 2), (gm_ifne 1), (gm_push (.inl (-1))), gm_iret],
  [(gm_aload 0), (gm_vcall 9 141 1), (gm_push (.inl (-5))), (gm_istore 2), (gm_push (.inl 1)), (gm_istore 3), (gm_goto 2)],
  [(gm_iload 3), (gm_push (.inl 57)), (gm_cge 5), (gm_iload 2), (gm_ifge 5), (gm_aload 0), (gm_iload 1), (gm_push (.inl 1)), (gm_vcall 9 143 3), (gm_ifle 3), (gm_iload 3), (gm_goto 4)],
  [(gm_push (.inl (-5))), (gm_goto 4)],
  [(gm_istore 2), (gm_iinc 3 1), (gm_goto 2)],
  [(gm_aload 0), (gm_vcall 9 142 1), (gm_iload 2), gm_iret]]
def bpX9_first : Nat → Nat := fun b => ([0, 10, 19, 42, 44, 51] : List Nat).getD b 0
set_option maxRecDepth 100000 in
theorem tX9_first {D : va_G} {sz : Nat} {ad : Nat → Nat} {cA : Nat → ClassId} {xs : Int → Int} {Ln : Int} {l : Launch} : gm_SB D sz ad cA xs Ln l gm_mt cX9_first "LongNoonModel" 4 false 1 bpX9_first 0 pX9_first :=
  ⟨gm_cn 1 (gm_m_aload _) (gm_s_aload_n dX9_first_0 rfl) (
    gm_cn 2 (gm_m_iload _) (gm_s_iload_n dX9_first_1 rfl) (
    gm_cn 5 (gm_m_vcall _ _ _) (gcl_X9_isHouse gw_281 dX9_first_2) (
    gm_cn 8 (gm_m_ifne _) (gm_s_ifne (bpc := bpX9_first) (b := 1) dX9_first_5 rfl) (
    gm_cn 9 (gm_m_push _) (gm_s_iconst dX9_first_8) (
    gm_cn 0 gm_m_iret (gm_s_iret dX9_first_9 rfl 0) (
    trivial)))))),
  gm_cn 11 (gm_m_aload _) (gm_s_aload_n dX9_first_10 rfl) (
    gm_cn 14 (gm_m_vcall _ _ _) (gcl_X9_keep gw_313 dX9_first_11) (
    gm_cn 16 (gm_m_push _) (gm_s_bipush dX9_first_14 rfl) (
    gm_cn 17 (gm_m_istore _) (gm_s_istore_n dX9_first_16 rfl (by decide)) (
    gm_cn 18 (gm_m_push _) (gm_s_iconst dX9_first_17) (
    gm_cn 19 (gm_m_istore _) (gm_s_istore_n dX9_first_18 rfl (by decide)) (
    gm_cn 0 (gm_m_goto _) (gm_s_fall (bpc := bpX9_first) (b := 2) rfl 0) (
    trivial))))))),
  gm_cn 20 (gm_m_iload _) (gm_s_iload_n dX9_first_19 rfl) (
    gm_cn 22 (gm_m_push _) (gm_s_bipush dX9_first_20 rfl) (
    gm_cn 25 (gm_m_cge _) (gm_s_cge (bpc := bpX9_first) (b := 5) dX9_first_22 rfl) (
    gm_cn 26 (gm_m_iload _) (gm_s_iload_n dX9_first_25 rfl) (
    gm_cn 29 (gm_m_ifge _) (gm_s_ifge (bpc := bpX9_first) (b := 5) dX9_first_26 rfl) (
    gm_cn 30 (gm_m_aload _) (gm_s_aload_n dX9_first_29 rfl) (
    gm_cn 31 (gm_m_iload _) (gm_s_iload_n dX9_first_30 rfl) (
    gm_cn 32 (gm_m_push _) (gm_s_iconst dX9_first_31) (
    gm_cn 35 (gm_m_vcall _ _ _) (gcl_X9_goOne gw_314 dX9_first_32) (
    gm_cn 38 (gm_m_ifle _) (gm_s_ifle (bpc := bpX9_first) (b := 3) dX9_first_35 rfl) (
    gm_cn 39 (gm_m_iload _) (gm_s_iload_n dX9_first_38 rfl) (
    gm_cn 0 (gm_m_goto _) (gm_s_goto (bpc := bpX9_first) (b := 4) dX9_first_39 rfl 0) (
    trivial)))))))))))),
  gm_cn 44 (gm_m_push _) (gm_s_bipush dX9_first_42 rfl) (
    gm_cn 0 (gm_m_goto _) (gm_s_fall (bpc := bpX9_first) (b := 4) rfl 0) (
    trivial)),
  gm_cn 45 (gm_m_istore _) (gm_s_istore_n dX9_first_44 rfl (by decide)) (
    gm_cn 48 (gm_m_iinc _ _) (gm_s_iinc dX9_first_45 (by decide)) (
    gm_cn 0 (gm_m_goto _) (gm_s_goto (bpc := bpX9_first) (b := 2) dX9_first_48 rfl 0) (
    trivial))),
  gm_cn 52 (gm_m_aload _) (gm_s_aload_n dX9_first_51 rfl) (
    gm_cn 55 (gm_m_vcall _ _ _) (gcl_X9_putBack gw_315 dX9_first_52) (
    gm_cn 56 (gm_m_iload _) (gm_s_iload_n dX9_first_55 rfl) (
    gm_cn 0 gm_m_iret (gm_s_iret dX9_first_56 rfl 0) (
    trivial)))), trivial⟩
