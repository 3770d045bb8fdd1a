theorem dX9_judge_0 : decode cX9_judge 0 = .ok (.aload_n 0, 1) := by decide +kernel
theorem dX9_judge_1 : decode cX9_judge 1 = .ok (.iload_n 1, 1) := by decide +kernel
theorem dX9_judge_2 : decode cX9_judge 2 = .ok (.invokevirtual 341, 3) := by decide +kernel
theorem dX9_judge_5 : decode cX9_judge 5 = .ok (.ifCond .ne 5, 3) := by decide +kernel
theorem dX9_judge_8 : decode cX9_judge 8 = .ok (.iconst (-1), 1) := by decide +kernel
theorem dX9_judge_9 : decode cX9_judge 9 = .ok (.ireturn, 1) := by decide +kernel
theorem dX9_judge_10 : decode cX9_judge 10 = .ok (.aload_n 0, 1) := by decide +kernel
theorem dX9_judge_11 : decode cX9_judge 11 = .ok (.getfield 193, 3) := by decide +kernel
theorem dX9_judge_14 : decode cX9_judge 14 = .ok (.iload_n 1, 1) := by decide +kernel
theorem dX9_judge_15 : decode cX9_judge 15 = .ok (.iaload, 1) := by decide +kernel
theorem dX9_judge_16 : decode cX9_judge 16 = .ok (.ifCond .lt 16, 3) := by decide +kernel
theorem dX9_judge_19 : decode cX9_judge 19 = .ok (.aload_n 0, 1) := by decide +kernel
theorem dX9_judge_20 : decode cX9_judge 20 = .ok (.getfield 193, 3) := by decide +kernel
theorem dX9_judge_23 : decode cX9_judge 23 = .ok (.iload_n 1, 1) := by decide +kernel
theorem dX9_judge_24 : decode cX9_judge 24 = .ok (.iaload, 1) := by decide +kernel
theorem dX9_judge_25 : decode cX9_judge 25 = .ok (.iconst 1, 1) := by decide +kernel
theorem dX9_judge_26 : decode cX9_judge 26 = .ok (.if_icmp .eq 6, 3) := by decide +kernel
theorem dX9_judge_29 : decode cX9_judge 29 = .ok (.bipush (-12), 2) := by decide +kernel
theorem dX9_judge_31 : decode cX9_judge 31 = .ok (.ireturn, 1) := by decide +kernel
theorem dX9_judge_32 : decode cX9_judge 32 = .ok (.iconst 0, 1) := by decide +kernel
theorem dX9_judge_33 : decode cX9_judge 33 = .ok (.istore_n 3, 1) := by decide +kernel
theorem dX9_judge_34 : decode cX9_judge 34 = .ok (.iload_n 3, 1) := by decide +kernel
theorem dX9_judge_35 : decode cX9_judge 35 = .ok (.aload_n 0, 1) := by decide +kernel
theorem dX9_judge_36 : decode cX9_judge 36 = .ok (.getfield 7, 3) := by decide +kernel
theorem dX9_judge_39 : decode cX9_judge 39 = .ok (.if_icmp .ge 67, 3) := by decide +kernel
theorem dX9_judge_42 : decode cX9_judge 42 = .ok (.aload_n 0, 1) := by decide +kernel
theorem dX9_judge_43 : decode cX9_judge 43 = .ok (.getfield 193, 3) := by decide +kernel
theorem dX9_judge_46 : decode cX9_judge 46 = .ok (.iload_n 1, 1) := by decide +kernel
theorem dX9_judge_47 : decode cX9_judge 47 = .ok (.iaload, 1) := by decide +kernel
theorem dX9_judge_48 : decode cX9_judge 48 = .ok (.ifCond .lt 21, 3) := by decide +kernel
theorem dX9_judge_51 : decode cX9_judge 51 = .ok (.iload_n 2, 1) := by decide +kernel
theorem dX9_judge_52 : decode cX9_judge 52 = .ok (.ifCond .lt 17, 3) := by decide +kernel
theorem dX9_judge_55 : decode cX9_judge 55 = .ok (.iload_n 2, 1) := by decide +kernel
theorem dX9_judge_56 : decode cX9_judge 56 = .ok (.aload_n 0, 1) := by decide +kernel
theorem dX9_judge_57 : decode cX9_judge 57 = .ok (.getfield 196, 3) := by decide +kernel
theorem dX9_judge_60 : decode cX9_judge 60 = .ok (.iload_n 1, 1) := by decide +kernel
theorem dX9_judge_61 : decode cX9_judge 61 = .ok (.iaload, 1) := by decide +kernel
theorem dX9_judge_62 : decode cX9_judge 62 = .ok (.iload_n 3, 1) := by decide +kernel
theorem dX9_judge_63 : decode cX9_judge 63 = .ok (.isub, 1) := by decide +kernel
theorem dX9_judge_64 : decode cX9_judge 64 = .ok (.iconst 1, 1) := by decide +kernel
theorem dX9_judge_65 : decode cX9_judge 65 = .ok (.isub, 1) := by decide +kernel
theorem dX9_judge_66 : decode cX9_judge 66 = .ok (.if_icmp .le 8, 3) := by decide +kernel
theorem dX9_judge_69 : decode cX9_judge 69 = .ok (.bipush 100, 2) := by decide +kernel
theorem dX9_judge_71 : decode cX9_judge 71 = .ok (.iload_n 3, 1) := by decide +kernel
theorem dX9_judge_72 : decode cX9_judge 72 = .ok (.iadd, 1) := by decide +kernel
theorem dX9_judge_73 : decode cX9_judge 73 = .ok (.ireturn, 1) := by decide +kernel
theorem dX9_judge_74 : decode cX9_judge 74 = .ok (.aload_n 0, 1) := by decide +kernel
theorem dX9_judge_75 : decode cX9_judge 75 = .ok (.getfield 199, 3) := by decide +kernel
theorem dX9_judge_78 : decode cX9_judge 78 = .ok (.bipush 60, 2) := by decide +kernel
theorem dX9_judge_80 : decode cX9_judge 80 = .ok (.iload_n 1, 1) := by decide +kernel
theorem dX9_judge_81 : decode cX9_judge 81 = .ok (.imul, 1) := by decide +kernel
theorem dX9_judge_82 : decode cX9_judge 82 = .ok (.iload_n 2, 1) := by decide +kernel
theorem dX9_judge_83 : decode cX9_judge 83 = .ok (.iadd, 1) := by decide +kernel
theorem dX9_judge_84 : decode cX9_judge 84 = .ok (.iload_n 3, 1) := by decide +kernel
theorem dX9_judge_85 : decode cX9_judge 85 = .ok (.iadd, 1) := by decide +kernel
theorem dX9_judge_86 : decode cX9_judge 86 = .ok (.laload, 1) := by decide +kernel
theorem dX9_judge_87 : decode cX9_judge 87 = .ok (.aload_n 0, 1) := by decide +kernel
theorem dX9_judge_88 : decode cX9_judge 88 = .ok (.getfield 23, 3) := by decide +kernel
theorem dX9_judge_91 : decode cX9_judge 91 = .ok (.iload_n 3, 1) := by decide +kernel
theorem dX9_judge_92 : decode cX9_judge 92 = .ok (.iaload, 1) := by decide +kernel
theorem dX9_judge_93 : decode cX9_judge 93 = .ok (.i2l, 1) := by decide +kernel
theorem dX9_judge_94 : decode cX9_judge 94 = .ok (.lcmp, 1) := by decide +kernel
theorem dX9_judge_95 : decode cX9_judge 95 = .ok (.ifCond .eq 5, 3) := by decide +kernel
theorem dX9_judge_98 : decode cX9_judge 98 = .ok (.iload_n 3, 1) := by decide +kernel
theorem dX9_judge_99 : decode cX9_judge 99 = .ok (.ireturn, 1) := by decide +kernel
theorem dX9_judge_100 : decode cX9_judge 100 = .ok (.iinc 3 1, 3) := by decide +kernel
theorem dX9_judge_103 : decode cX9_judge 103 = .ok (.goto (-69), 3) := by decide +kernel
theorem dX9_judge_106 : decode cX9_judge 106 = .ok (.bipush (-5), 2) := by decide +kernel
theorem dX9_judge_108 : decode cX9_judge 108 = .ok (.ireturn, 1) := by decide +kernel
def pX9_judge : List (List gm_A) := [[(gm_aload 0), (gm_iload 1), (gm_vcall 9 181 2), (gm_ifne 1), (gm_push (.inl (-1))), gm_iret],
  [(gm_aload 0), (gm_getR 9 960), (gm_iload 1), gm_iald, (gm_iflt 2), (gm_aload 0), (gm_getR 9 960), (gm_iload 1), gm_iald, (gm_push (.inl 1)), (gm_ceq 2), (gm_push (.inl (-12))), gm_iret],
  [(gm_push (.inl 0)), (gm_istore 3), (gm_goto 3)],
  [(gm_iload 3), (gm_aload 0), (gm_getI 9 900), (gm_cge 7), (gm_aload 0), (gm_getR 9 960), (gm_iload 1), gm_iald, (gm_iflt 4), (gm_iload 2), (gm_iflt 4), (gm_iload 2), (gm_aload 0), (gm_getR 9 961), (gm_iload 1), gm_iald, (gm_iload 3), (gm_op2 gm_sub), (gm_push (.inl 1)), (gm_op2 gm_sub), (gm_cle 5), (gm_goto 4)],
  [(gm_push (.inl 100)), (gm_iload 3), (gm_op2 gm_add), gm_iret],
  [(gm_aload 0), (gm_getR 9 962), (gm_push (.inl 60)), (gm_iload 1), (gm_op2 gm_mul), (gm_iload 2), (gm_op2 gm_add), (gm_iload 3), (gm_op2 gm_add), gm_lald, (gm_aload 0), (gm_getR 9 904), (gm_iload 3), gm_iald, gm_i2l, gm_lcmp, (gm_ifeq 6), (gm_iload 3), gm_iret],
  [(gm_iinc 3 1), (gm_goto 3)],
  [(gm_push (.inl (-5))), gm_iret]]
def bpX9_judge : Nat → Nat := fun b => ([0, 10, 32, 34, 69, 74, 100, 106] : List Nat).getD b 0
set_option maxRecDepth 100000 in
theorem tX9_judge {D : va_G} {sz : Nat} {ad : Nat → Nat} {cA : Nat → ClassId} {xs : Int → Int} {Ln : Int} {l : Launch} : gm_SB D sz ad cA xs Ln l gm_mt cX9_judge "LongNoonModel" 4 false 1 bpX9_judge 0 pX9_judge :=
  ⟨gm_cn 1 (gm_m_aload _) (gm_s_aload_n dX9_judge_0 rfl) (
    gm_cn 2 (gm_m_iload _) (gm_s_iload_n dX9_judge_1 rfl) (
    gm_cn 5 (gm_m_vcall _ _ _) (gcl_X9_isTape gw_322 dX9_judge_2) (
    gm_cn 8 (gm_m_ifne _) (gm_s_ifne (bpc := bpX9_judge) (b := 1) dX9_judge_5 rfl) (
    gm_cn 9 (gm_m_push _) (gm_s_iconst dX9_judge_8) (
    gm_cn 0 gm_m_iret (gm_s_iret dX9_judge_9 rfl 0) (
    trivial)))))),
  gm_cn 11 (gm_m_aload _) (gm_s_aload_n dX9_judge_10 rfl) (
    gm_cn 14 (gm_m_getR _ _) (gf_getR_9_60 gw_276 dX9_judge_11) (
    gm_cn 15 (gm_m_iload _) (gm_s_iload_n dX9_judge_14 rfl) (
    gm_cn 16 gm_m_iald (gm_s_iald dX9_judge_15) (
    gm_cn 19 (gm_m_iflt _) (gm_s_iflt (bpc := bpX9_judge) (b := 2) dX9_judge_16 rfl) (
    gm_cn 20 (gm_m_aload _) (gm_s_aload_n dX9_judge_19 rfl) (
    gm_cn 23 (gm_m_getR _ _) (gf_getR_9_60 gw_276 dX9_judge_20) (
    gm_cn 24 (gm_m_iload _) (gm_s_iload_n dX9_judge_23 rfl) (
    gm_cn 25 gm_m_iald (gm_s_iald dX9_judge_24) (
    gm_cn 26 (gm_m_push _) (gm_s_iconst dX9_judge_25) (
    gm_cn 29 (gm_m_ceq _) (gm_s_ceq (bpc := bpX9_judge) (b := 2) dX9_judge_26 rfl) (
    gm_cn 31 (gm_m_push _) (gm_s_bipush dX9_judge_29 rfl) (
    gm_cn 0 gm_m_iret (gm_s_iret dX9_judge_31 rfl 0) (
    trivial))))))))))))),
  gm_cn 33 (gm_m_push _) (gm_s_iconst dX9_judge_32) (
    gm_cn 34 (gm_m_istore _) (gm_s_istore_n dX9_judge_33 rfl (by decide)) (
    gm_cn 0 (gm_m_goto _) (gm_s_fall (bpc := bpX9_judge) (b := 3) rfl 0) (
    trivial))),
  gm_cn 35 (gm_m_iload _) (gm_s_iload_n dX9_judge_34 rfl) (
    gm_cn 36 (gm_m_aload _) (gm_s_aload_n dX9_judge_35 rfl) (
    gm_cn 39 (gm_m_getI _ _) (gf_getI_9_0 gw_215 dX9_judge_36) (
    gm_cn 42 (gm_m_cge _) (gm_s_cge (bpc := bpX9_judge) (b := 7) dX9_judge_39 rfl) (
    gm_cn 43 (gm_m_aload _) (gm_s_aload_n dX9_judge_42 rfl) (
    gm_cn 46 (gm_m_getR _ _) (gf_getR_9_60 gw_276 dX9_judge_43) (
    gm_cn 47 (gm_m_iload _) (gm_s_iload_n dX9_judge_46 rfl) (
    gm_cn 48 gm_m_iald (gm_s_iald dX9_judge_47) (
    gm_cn 51 (gm_m_iflt _) (gm_s_iflt (bpc := bpX9_judge) (b := 4) dX9_judge_48 rfl) (
    gm_cn 52 (gm_m_iload _) (gm_s_iload_n dX9_judge_51 rfl) (
    gm_cn 55 (gm_m_iflt _) (gm_s_iflt (bpc := bpX9_judge) (b := 4) dX9_judge_52 rfl) (
    gm_cn 56 (gm_m_iload _) (gm_s_iload_n dX9_judge_55 rfl) (
    gm_cn 57 (gm_m_aload _) (gm_s_aload_n dX9_judge_56 rfl) (
    gm_cn 60 (gm_m_getR _ _) (gf_getR_9_61 gw_277 dX9_judge_57) (
    gm_cn 61 (gm_m_iload _) (gm_s_iload_n dX9_judge_60 rfl) (
    gm_cn 62 gm_m_iald (gm_s_iald dX9_judge_61) (
    gm_cn 63 (gm_m_iload _) (gm_s_iload_n dX9_judge_62 rfl) (
    gm_cn 64 (gm_m_op2 _) (gm_s_isub dX9_judge_63) (
    gm_cn 65 (gm_m_push _) (gm_s_iconst dX9_judge_64) (
    gm_cn 66 (gm_m_op2 _) (gm_s_isub dX9_judge_65) (
    gm_cn 69 (gm_m_cle _) (gm_s_cle (bpc := bpX9_judge) (b := 5) dX9_judge_66 rfl) (
    gm_cn 0 (gm_m_goto _) (gm_s_fall (bpc := bpX9_judge) (b := 4) rfl 0) (
    trivial)))))))))))))))))))))),
  gm_cn 71 (gm_m_push _) (gm_s_bipush dX9_judge_69 rfl) (
    gm_cn 72 (gm_m_iload _) (gm_s_iload_n dX9_judge_71 rfl) (
    gm_cn 73 (gm_m_op2 _) (gm_s_iadd dX9_judge_72) (
    gm_cn 0 gm_m_iret (gm_s_iret dX9_judge_73 rfl 0) (
    trivial)))),
  gm_cn 75 (gm_m_aload _) (gm_s_aload_n dX9_judge_74 rfl) (
    gm_cn 78 (gm_m_getR _ _) (gf_getR_9_62 gw_278 dX9_judge_75) (
    gm_cn 80 (gm_m_push _) (gm_s_bipush dX9_judge_78 rfl) (
    gm_cn 81 (gm_m_iload _) (gm_s_iload_n dX9_judge_80 rfl) (
    gm_cn 82 (gm_m_op2 _) (gm_s_imul dX9_judge_81) (
    gm_cn 83 (gm_m_iload _) (gm_s_iload_n dX9_judge_82 rfl) (
    gm_cn 84 (gm_m_op2 _) (gm_s_iadd dX9_judge_83) (
    gm_cn 85 (gm_m_iload _) (gm_s_iload_n dX9_judge_84 rfl) (
    gm_cn 86 (gm_m_op2 _) (gm_s_iadd dX9_judge_85) (
    gm_cn 87 gm_m_lald (gm_s_lald dX9_judge_86) (
    gm_cn 88 (gm_m_aload _) (gm_s_aload_n dX9_judge_87 rfl) (
    gm_cn 91 (gm_m_getR _ _) (gf_getR_9_4 gw_219 dX9_judge_88) (
    gm_cn 92 (gm_m_iload _) (gm_s_iload_n dX9_judge_91 rfl) (
    gm_cn 93 gm_m_iald (gm_s_iald dX9_judge_92) (
    gm_cn 94 gm_m_i2l (gm_s_i2l dX9_judge_93) (
    gm_cn 95 gm_m_lcmp (gm_s_lcmp dX9_judge_94) (
    gm_cn 98 (gm_m_ifeq _) (gm_s_ifeq (bpc := bpX9_judge) (b := 6) dX9_judge_95 rfl) (
    gm_cn 99 (gm_m_iload _) (gm_s_iload_n dX9_judge_98 rfl) (
    gm_cn 0 gm_m_iret (gm_s_iret dX9_judge_99 rfl 0) (
    trivial))))))))))))))))))),
  gm_cn 103 (gm_m_iinc _ _) (gm_s_iinc dX9_judge_100 (by decide)) (
    gm_cn 0 (gm_m_goto _) (gm_s_goto (bpc := bpX9_judge) (b := 3) dX9_judge_103 rfl 0) (
    trivial)),
  gm_cn 108 (gm_m_push _) (gm_s_bipush dX9_judge_106 rfl) (
    gm_cn 0 gm_m_iret (gm_s_iret dX9_judge_108 rfl 0) (
    trivial)), trivial⟩
theorem dX9_image_0 : decode cX9_image 0 = .ok (.aload_n 0, 1) := by decide +kernel
theorem dX9_image_1 : decode cX9_image 1 = .ok (.iconst 1, 1) := by decide +kernel
theorem dX9_image_2 : decode cX9_image 2 = .ok (.putfield 135, 3) := by decide +kernel
theorem dX9_image_5 : decode cX9_image 5 = .ok (.aload_n 0, 1) := by decide +kernel
theorem dX9_image_6 : decode cX9_image 6 = .ok (.aload_n 0, 1) := by decide +kernel
theorem dX9_image_7 : decode cX9_image 7 = .ok (.getfield 41, 3) := by decide +kernel
theorem dX9_image_10 : decode cX9_image 10 = .ok (.putfield 139, 3) := by decide +kernel
theorem dX9_image_13 : decode cX9_image 13 = .ok (.aload_n 0, 1) := by decide +kernel
theorem dX9_image_14 : decode cX9_image 14 = .ok (.aload_n 0, 1) := by decide +kernel
theorem dX9_image_15 : decode cX9_image 15 = .ok (.getfield 7, 3) := by decide +kernel
theorem dX9_image_18 : decode cX9_image 18 = .ok (.putfield 142, 3) := by decide +kernel
theorem dX9_image_21 : decode cX9_image 21 = .ok (.aload_n 0, 1) := by decide +kernel
theorem dX9_image_22 : decode cX9_image 22 = .ok (.aload_n 0, 1) := by decide +kernel
theorem dX9_image_23 : decode cX9_image 23 = .ok (.getfield 13, 3) := by decide +kernel
theorem dX9_image_26 : decode cX9_image 26 = .ok (.putfield 145, 3) := by decide +kernel
theorem dX9_image_29 : decode cX9_image 29 = .ok (.aload_n 0, 1) := by decide +kernel
theorem dX9_image_30 : decode cX9_image 30 = .ok (.aload_n 0, 1) := by decide +kernel
theorem dX9_image_31 : decode cX9_image 31 = .ok (.getfield 117, 3) := by decide +kernel
theorem dX9_image_34 : decode cX9_image 34 = .ok (.putfield 148, 3) := by decide +kernel
theorem dX9_image_37 : decode cX9_image 37 = .ok (.aload_n 0, 1) := by decide +kernel
theorem dX9_image_38 : decode cX9_image 38 = .ok (.aload_n 0, 1) := by decide +kernel
theorem dX9_image_39 : decode cX9_image 39 = .ok (.getfield 129, 3) := by decide +kernel
theorem dX9_image_42 : decode cX9_image 42 = .ok (.putfield 151, 3) := by decide +kernel
theorem dX9_image_45 : decode cX9_image 45 = .ok (.iconst 0, 1) := by decide +kernel
theorem dX9_image_46 : decode cX9_image 46 = .ok (.istore_n 1, 1) := by decide +kernel
theorem dX9_image_47 : decode cX9_image 47 = .ok (.iload_n 1, 1) := by decide +kernel
theorem dX9_image_48 : decode cX9_image 48 = .ok (.bipush 6, 2) := by decide +kernel
theorem dX9_image_50 : decode cX9_image 50 = .ok (.if_icmp .ge 81, 3) := by decide +kernel
theorem dX9_image_53 : decode cX9_image 53 = .ok (.aload_n 0, 1) := by decide +kernel
theorem dX9_image_54 : decode cX9_image 54 = .ok (.getfield 154, 3) := by decide +kernel
theorem dX9_image_57 : decode cX9_image 57 = .ok (.iload_n 1, 1) := by decide +kernel
theorem dX9_image_58 : decode cX9_image 58 = .ok (.aload_n 0, 1) := by decide +kernel
theorem dX9_image_59 : decode cX9_image 59 = .ok (.getfield 16, 3) := by decide +kernel
theorem dX9_image_62 : decode cX9_image 62 = .ok (.iload_n 1, 1) := by decide +kernel
theorem dX9_image_63 : decode cX9_image 63 = .ok (.iaload, 1) := by decide +kernel
theorem dX9_image_64 : decode cX9_image 64 = .ok (.iastore, 1) := by decide +kernel
theorem dX9_image_65 : decode cX9_image 65 = .ok (.aload_n 0, 1) := by decide +kernel
theorem dX9_image_66 : decode cX9_image 66 = .ok (.getfield 157, 3) := by decide +kernel
theorem dX9_image_69 : decode cX9_image 69 = .ok (.iload_n 1, 1) := by decide +kernel
theorem dX9_image_70 : decode cX9_image 70 = .ok (.aload_n 0, 1) := by decide +kernel
theorem dX9_image_71 : decode cX9_image 71 = .ok (.getfield 20, 3) := by decide +kernel
theorem dX9_image_74 : decode cX9_image 74 = .ok (.iload_n 1, 1) := by decide +kernel
theorem dX9_image_75 : decode cX9_image 75 = .ok (.iaload, 1) := by decide +kernel
theorem dX9_image_76 : decode cX9_image 76 = .ok (.iastore, 1) := by decide +kernel
theorem dX9_image_77 : decode cX9_image 77 = .ok (.aload_n 0, 1) := by decide +kernel
theorem dX9_image_78 : decode cX9_image 78 = .ok (.getfield 160, 3) := by decide +kernel
theorem dX9_image_81 : decode cX9_image 81 = .ok (.iload_n 1, 1) := by decide +kernel
theorem dX9_image_82 : decode cX9_image 82 = .ok (.aload_n 0, 1) := by decide +kernel
theorem dX9_image_83 : decode cX9_image 83 = .ok (.getfield 23, 3) := by decide +kernel
theorem dX9_image_86 : decode cX9_image 86 = .ok (.iload_n 1, 1) := by decide +kernel
theorem dX9_image_87 : decode cX9_image 87 = .ok (.iaload, 1) := by decide +kernel
theorem dX9_image_88 : decode cX9_image 88 = .ok (.iastore, 1) := by decide +kernel
theorem dX9_image_89 : decode cX9_image 89 = .ok (.aload_n 0, 1) := by decide +kernel
theorem dX9_image_90 : decode cX9_image 90 = .ok (.getfield 163, 3) := by decide +kernel
theorem dX9_image_93 : decode cX9_image 93 = .ok (.iload_n 1, 1) := by decide +kernel
theorem dX9_image_94 : decode cX9_image 94 = .ok (.aload_n 0, 1) := by decide +kernel
theorem dX9_image_95 : decode cX9_image 95 = .ok (.getfield 26, 3) := by decide +kernel
theorem dX9_image_98 : decode cX9_image 98 = .ok (.iload_n 1, 1) := by decide +kernel
theorem dX9_image_99 : decode cX9_image 99 = .ok (.iaload, 1) := by decide +kernel
theorem dX9_image_100 : decode cX9_image 100 = .ok (.iastore, 1) := by decide +kernel
theorem dX9_image_101 : decode cX9_image 101 = .ok (.aload_n 0, 1) := by decide +kernel
theorem dX9_image_102 : decode cX9_image 102 = .ok (.getfield 166, 3) := by decide +kernel
theorem dX9_image_105 : decode cX9_image 105 = .ok (.iload_n 1, 1) := by decide +kernel
theorem dX9_image_106 : decode cX9_image 106 = .ok (.aload_n 0, 1) := by decide +kernel
theorem dX9_image_107 : decode cX9_image 107 = .ok (.getfield 29, 3) := by decide +kernel
theorem dX9_image_110 : decode cX9_image 110 = .ok (.iload_n 1, 1) := by decide +kernel
theorem dX9_image_111 : decode cX9_image 111 = .ok (.iaload, 1) := by decide +kernel
theorem dX9_image_112 : decode cX9_image 112 = .ok (.iastore, 1) := by decide +kernel
theorem dX9_image_113 : decode cX9_image 113 = .ok (.aload_n 0, 1) := by decide +kernel
theorem dX9_image_114 : decode cX9_image 114 = .ok (.getfield 169, 3) := by decide +kernel
theorem dX9_image_117 : decode cX9_image 117 = .ok (.iload_n 1, 1) := by decide +kernel
theorem dX9_image_118 : decode cX9_image 118 = .ok (.aload_n 0, 1) := by decide +kernel
theorem dX9_image_119 : decode cX9_image 119 = .ok (.getfield 32, 3) := by decide +kernel
theorem dX9_image_122 : decode cX9_image 122 = .ok (.iload_n 1, 1) := by decide +kernel
theorem dX9_image_123 : decode cX9_image 123 = .ok (.iaload, 1) := by decide +kernel
theorem dX9_image_124 : decode cX9_image 124 = .ok (.iastore, 1) := by decide +kernel
theorem dX9_image_125 : decode cX9_image 125 = .ok (.iinc 1 1, 3) := by decide +kernel
theorem dX9_image_128 : decode cX9_image 128 = .ok (.goto (-81), 3) := by decide +kernel
theorem dX9_image_131 : decode cX9_image 131 = .ok (.iconst 0, 1) := by decide +kernel
theorem dX9_image_132 : decode cX9_image 132 = .ok (.istore_n 1, 1) := by decide +kernel
theorem dX9_image_133 : decode cX9_image 133 = .ok (.iload_n 1, 1) := by decide +kernel
theorem dX9_image_134 : decode cX9_image 134 = .ok (.bipush 24, 2) := by decide +kernel
theorem dX9_image_136 : decode cX9_image 136 = .ok (.if_icmp .ge 21, 3) := by decide +kernel
theorem dX9_image_139 : decode cX9_image 139 = .ok (.aload_n 0, 1) := by decide +kernel
theorem dX9_image_140 : decode cX9_image 140 = .ok (.getfield 172, 3) := by decide +kernel
theorem dX9_image_143 : decode cX9_image 143 = .ok (.iload_n 1, 1) := by decide +kernel
theorem dX9_image_144 : decode cX9_image 144 = .ok (.aload_n 0, 1) := by decide +kernel
theorem dX9_image_145 : decode cX9_image 145 = .ok (.getfield 35, 3) := by decide +kernel
theorem dX9_image_148 : decode cX9_image 148 = .ok (.iload_n 1, 1) := by decide +kernel
theorem dX9_image_149 : decode cX9_image 149 = .ok (.iaload, 1) := by decide +kernel
theorem dX9_image_150 : decode cX9_image 150 = .ok (.iastore, 1) := by decide +kernel
theorem dX9_image_151 : decode cX9_image 151 = .ok (.iinc 1 1, 3) := by decide +kernel
theorem dX9_image_154 : decode cX9_image 154 = .ok (.goto (-21), 3) := by decide +kernel
theorem dX9_image_157 : decode cX9_image 157 = .ok (.iconst 0, 1) := by decide +kernel
theorem dX9_image_158 : decode cX9_image 158 = .ok (.istore_n 1, 1) := by decide +kernel
theorem dX9_image_159 : decode cX9_image 159 = .ok (.iload_n 1, 1) := by decide +kernel
theorem dX9_image_160 : decode cX9_image 160 = .ok (.bipush 8, 2) := by decide +kernel
theorem dX9_image_162 : decode cX9_image 162 = .ok (.if_icmp .ge 45, 3) := by decide +kernel
theorem dX9_image_165 : decode cX9_image 165 = .ok (.aload_n 0, 1) := by decide +kernel
theorem dX9_image_166 : decode cX9_image 166 = .ok (.getfield 175, 3) := by decide +kernel
theorem dX9_image_169 : decode cX9_image 169 = .ok (.iload_n 1, 1) := by decide +kernel
theorem dX9_image_170 : decode cX9_image 170 = .ok (.aload_n 0, 1) := by decide +kernel
theorem dX9_image_171 : decode cX9_image 171 = .ok (.getfield 120, 3) := by decide +kernel
theorem dX9_image_174 : decode cX9_image 174 = .ok (.iload_n 1, 1) := by decide +kernel
theorem dX9_image_175 : decode cX9_image 175 = .ok (.iaload, 1) := by decide +kernel
theorem dX9_image_176 : decode cX9_image 176 = .ok (.iastore, 1) := by decide +kernel
theorem dX9_image_177 : decode cX9_image 177 = .ok (.aload_n 0, 1) := by decide +kernel
theorem dX9_image_178 : decode cX9_image 178 = .ok (.getfield 178, 3) := by decide +kernel
theorem dX9_image_181 : decode cX9_image 181 = .ok (.iload_n 1, 1) := by decide +kernel
theorem dX9_image_182 : decode cX9_image 182 = .ok (.aload_n 0, 1) := by decide +kernel
theorem dX9_image_183 : decode cX9_image 183 = .ok (.getfield 123, 3) := by decide +kernel
theorem dX9_image_186 : decode cX9_image 186 = .ok (.iload_n 1, 1) := by decide +kernel
theorem dX9_image_187 : decode cX9_image 187 = .ok (.iaload, 1) := by decide +kernel
theorem dX9_image_188 : decode cX9_image 188 = .ok (.iastore, 1) := by decide +kernel
theorem dX9_image_189 : decode cX9_image 189 = .ok (.aload_n 0, 1) := by decide +kernel
theorem dX9_image_190 : decode cX9_image 190 = .ok (.getfield 181, 3) := by decide +kernel
theorem dX9_image_193 : decode cX9_image 193 = .ok (.iload_n 1, 1) := by decide +kernel
theorem dX9_image_194 : decode cX9_image 194 = .ok (.aload_n 0, 1) := by decide +kernel
theorem dX9_image_195 : decode cX9_image 195 = .ok (.getfield 126, 3) := by decide +kernel
theorem dX9_image_198 : decode cX9_image 198 = .ok (.iload_n 1, 1) := by decide +kernel
theorem dX9_image_199 : decode cX9_image 199 = .ok (.iaload, 1) := by decide +kernel
theorem dX9_image_200 : decode cX9_image 200 = .ok (.iastore, 1) := by decide +kernel
theorem dX9_image_201 : decode cX9_image 201 = .ok (.iinc 1 1, 3) := by decide +kernel
theorem dX9_image_204 : decode cX9_image 204 = .ok (.goto (-45), 3) := by decide +kernel
theorem dX9_image_207 : decode cX9_image 207 = .ok (.iconst 0, 1) := by decide +kernel
theorem dX9_image_208 : decode cX9_image 208 = .ok (.istore_n 1, 1) := by decide +kernel
theorem dX9_image_209 : decode cX9_image 209 = .ok (.iload_n 1, 1) := by decide +kernel
theorem dX9_image_210 : decode cX9_image 210 = .ok (.bipush 12, 2) := by decide +kernel
theorem dX9_image_212 : decode cX9_image 212 = .ok (.if_icmp .ge 21, 3) := by decide +kernel
theorem dX9_image_215 : decode cX9_image 215 = .ok (.aload_n 0, 1) := by decide +kernel
theorem dX9_image_216 : decode cX9_image 216 = .ok (.getfield 184, 3) := by decide +kernel
theorem dX9_image_219 : decode cX9_image 219 = .ok (.iload_n 1, 1) := by decide +kernel
theorem dX9_image_220 : decode cX9_image 220 = .ok (.aload_n 0, 1) := by decide +kernel
theorem dX9_image_221 : decode cX9_image 221 = .ok (.getfield 132, 3) := by decide +kernel
theorem dX9_image_224 : decode cX9_image 224 = .ok (.iload_n 1, 1) := by decide +kernel
theorem dX9_image_225 : decode cX9_image 225 = .ok (.iaload, 1) := by decide +kernel
theorem dX9_image_226 : decode cX9_image 226 = .ok (.iastore, 1) := by decide +kernel
theorem dX9_image_227 : decode cX9_image 227 = .ok (.iinc 1 1, 3) := by decide +kernel
theorem dX9_image_230 : decode cX9_image 230 = .ok (.goto (-21), 3) := by decide +kernel
theorem dX9_image_233 : decode cX9_image 233 = .ok (.aload_n 0, 1) := by decide +kernel
theorem dX9_image_234 : decode cX9_image 234 = .ok (.getfield 7, 3) := by decide +kernel
theorem dX9_image_237 : decode cX9_image 237 = .ok (.ireturn, 1) := by decide +kernel
def pX9_image : List (List gm_A) := [[(gm_aload 0), (gm_push (.inl 1)), (gm_putZ 9 941), (gm_aload 0), (gm_aload 0), (gm_getI 9 910), (gm_putI 9 942), (gm_aload 0), (gm_aload 0), (gm_getI 9 900), (gm_putI 9 943), (gm_aload 0), (gm_aload 0), (gm_getI 9 901), (gm_putI 9 944), (gm_aload 0), (gm_aload 0), (gm_getI 9 935), (gm_putI 9 945), (gm_aload 0), (gm_aload 0), (gm_getI 9 939), (gm_putI 9 946), (gm_push (.inl 0)), (gm_istore 1), (gm_goto 1)],
  [(gm_iload 1), (gm_push (.inl 6)), (gm_cge 2), (gm_aload 0), (gm_getR 9 947), (gm_iload 1), (gm_aload 0), (gm_getR 9 902), (gm_iload 1), gm_iald, gm_iast, (gm_aload 0), (gm_getR 9 948), (gm_iload 1), (gm_aload 0), (gm_getR 9 903), (gm_iload 1), gm_iald, gm_iast, (gm_aload 0), (gm_getR 9 949), (gm_iload 1), (gm_aload 0), (gm_getR 9 904), (gm_iload 1), gm_iald, gm_iast, (gm_aload 0), (gm_getR 9 950), (gm_iload 1), (gm_aload 0), (gm_getR 9 905), (gm_iload 1), gm_iald, gm_iast, (gm_aload 0), (gm_getR 9 951), (gm_iload 1), (gm_aload 0), (gm_getR 9 906), (gm_iload 1), gm_iald, gm_iast, (gm_aload 0), (gm_getR 9 952), (gm_iload 1), (gm_aload 0), (gm_getR 9 907), (gm_iload 1), gm_iald, gm_iast, (gm_iinc 1 1), (gm_goto 1)],
  [(gm_push (.inl 0)), (gm_istore 1), (gm_goto 3)],
  [(gm_iload 1), (gm_push (.inl 24)), (gm_cge 4), (gm_aload 0), (gm_getR 9 953), (gm_iload 1), (gm_aload 0), (gm_getR 9 908), (gm_iload 1), gm_iald, gm_iast, (gm_iinc 1 1), (gm_goto 3)],
  [(gm_push (.inl 0)), (gm_istore 1), (gm_goto 5)],
  [(gm_iload 1), (gm_push (.inl 8)), (gm_cge 6), (gm_aload 0), (gm_getR 9 954), (gm_iload 1), (gm_aload 0), (gm_getR 9 936), (gm_iload 1), gm_iald, gm_iast, (gm_aload 0), (gm_getR 9 955), (gm_iload 1), (gm_aload 0), (gm_getR 9 937), (gm_iload 1), gm_iald, gm_iast, (gm_aload 0), (gm_getR 9 956), (gm_iload 1), (gm_aload 0), (gm_getR 9 938), (gm_iload 1), gm_iald, gm_iast, (gm_iinc 1 1), (gm_goto 5)],
  [(gm_push (.inl 0)), (gm_istore 1), (gm_goto 7)],
  [(gm_iload 1), (gm_push (.inl 12)), (gm_cge 8), (gm_aload 0), (gm_getR 9 957), (gm_iload 1), (gm_aload 0), (gm_getR 9 940), (gm_iload 1), gm_iald, gm_iast, (gm_iinc 1 1), (gm_goto 7)],
  [(gm_aload 0), (gm_getI 9 900), gm_iret]]
def bpX9_image : Nat → Nat := fun b => ([0, 47, 131, 133, 157, 159, 207, 209, 233] : List Nat).getD b 0
set_option maxRecDepth 100000 in
theorem tX9_image {D : va_G} {sz : Nat} {ad : Nat → Nat} {cA : Nat → ClassId} {xs : Int → Int} {Ln : Int} {l : Launch} : gm_SB D sz ad cA xs Ln l gm_mt cX9_image "LongNoonModel" 2 false 1 bpX9_image 0 pX9_image :=
  ⟨gm_cn 1 (gm_m_aload _) (gm_s_aload_n dX9_image_0 rfl) (
    gm_cn 2 (gm_m_push _) (gm_s_iconst dX9_image_1) (
    gm_cn 5 (gm_m_putZ _ _) (gf_putZ_9_41 gw_257 dX9_image_2) (
    gm_cn 6 (gm_m_aload _) (gm_s_aload_n dX9_image_5 rfl) (
    gm_cn 7 (gm_m_aload _) (gm_s_aload_n dX9_image_6 rfl) (
    gm_cn 10 (gm_m_getI _ _) (gf_getI_9_10 gw_225 dX9_image_7) (
    gm_cn 13 (gm_m_putI _ _) (gf_putI_9_42 gw_258 dX9_image_10) (
    gm_cn 14 (gm_m_aload _) (gm_s_aload_n dX9_image_13 rfl) (
    gm_cn 15 (gm_m_aload _) (gm_s_aload_n dX9_image_14 rfl) (
    gm_cn 18 (gm_m_getI _ _) (gf_getI_9_0 gw_215 dX9_image_15) (
    gm_cn 21 (gm_m_putI _ _) (gf_putI_9_43 gw_259 dX9_image_18) (
    gm_cn 22 (gm_m_aload _) (gm_s_aload_n dX9_image_21 rfl) (
    gm_cn 23 (gm_m_aload _) (gm_s_aload_n dX9_image_22 rfl) (
    gm_cn 26 (gm_m_getI _ _) (gf_getI_9_1 gw_216 dX9_image_23) (
    gm_cn 29 (gm_m_putI _ _) (gf_putI_9_44 gw_260 dX9_image_26) (
    gm_cn 30 (gm_m_aload _) (gm_s_aload_n dX9_image_29 rfl) (
    gm_cn 31 (gm_m_aload _) (gm_s_aload_n dX9_image_30 rfl) (
    gm_cn 34 (gm_m_getI _ _) (gf_getI_9_35 gw_251 dX9_image_31) (
    gm_cn 37 (gm_m_putI _ _) (gf_putI_9_45 gw_261 dX9_image_34) (
    gm_cn 38 (gm_m_aload _) (gm_s_aload_n dX9_image_37 rfl) (
    gm_cn 39 (gm_m_aload _) (gm_s_aload_n dX9_image_38 rfl) (
    gm_cn 42 (gm_m_getI _ _) (gf_getI_9_39 gw_255 dX9_image_39) (
    gm_cn 45 (gm_m_putI _ _) (gf_putI_9_46 gw_262 dX9_image_42) (
    gm_cn 46 (gm_m_push _) (gm_s_iconst dX9_image_45) (
    gm_cn 47 (gm_m_istore _) (gm_s_istore_n dX9_image_46 rfl (by decide)) (
    gm_cn 0 (gm_m_goto _) (gm_s_fall (bpc := bpX9_image) (b := 1) rfl 0) (
    trivial)))))))))))))))))))))))))),
  gm_cn 48 (gm_m_iload _) (gm_s_iload_n dX9_image_47 rfl) (
    gm_cn 50 (gm_m_push _) (gm_s_bipush dX9_image_48 rfl) (
    gm_cn 53 (gm_m_cge _) (gm_s_cge (bpc := bpX9_image) (b := 2) dX9_image_50 rfl) (
    gm_cn 54 (gm_m_aload _) (gm_s_aload_n dX9_image_53 rfl) (
    gm_cn 57 (gm_m_getR _ _) (gf_getR_9_47 gw_263 dX9_image_54) (
    gm_cn 58 (gm_m_iload _) (gm_s_iload_n dX9_image_57 rfl) (
    gm_cn 59 (gm_m_aload _) (gm_s_aload_n dX9_image_58 rfl) (
    gm_cn 62 (gm_m_getR _ _) (gf_getR_9_2 gw_217 dX9_image_59) (
    gm_cn 63 (gm_m_iload _) (gm_s_iload_n dX9_image_62 rfl) (
    gm_cn 64 gm_m_iald (gm_s_iald dX9_image_63) (
    gm_cn 65 gm_m_iast (gm_s_iast dX9_image_64) (
    gm_cn 66 (gm_m_aload _) (gm_s_aload_n dX9_image_65 rfl) (
    gm_cn 69 (gm_m_getR _ _) (gf_getR_9_48 gw_264 dX9_image_66) (
    gm_cn 70 (gm_m_iload _) (gm_s_iload_n dX9_image_69 rfl) (
    gm_cn 71 (gm_m_aload _) (gm_s_aload_n dX9_image_70 rfl) (
    gm_cn 74 (gm_m_getR _ _) (gf_getR_9_3 gw_218 dX9_image_71) (
    gm_cn 75 (gm_m_iload _) (gm_s_iload_n dX9_image_74 rfl) (
    gm_cn 76 gm_m_iald (gm_s_iald dX9_image_75) (
    gm_cn 77 gm_m_iast (gm_s_iast dX9_image_76) (
    gm_cn 78 (gm_m_aload _) (gm_s_aload_n dX9_image_77 rfl) (
    gm_cn 81 (gm_m_getR _ _) (gf_getR_9_49 gw_265 dX9_image_78) (
    gm_cn 82 (gm_m_iload _) (gm_s_iload_n dX9_image_81 rfl) (
    gm_cn 83 (gm_m_aload _) (gm_s_aload_n dX9_image_82 rfl) (
    gm_cn 86 (gm_m_getR _ _) (gf_getR_9_4 gw_219 dX9_image_83) (
    gm_cn 87 (gm_m_iload _) (gm_s_iload_n dX9_image_86 rfl) (
    gm_cn 88 gm_m_iald (gm_s_iald dX9_image_87) (
    gm_cn 89 gm_m_iast (gm_s_iast dX9_image_88) (
    gm_cn 90 (gm_m_aload _) (gm_s_aload_n dX9_image_89 rfl) (
    gm_cn 93 (gm_m_getR _ _) (gf_getR_9_50 gw_266 dX9_image_90) (
    gm_cn 94 (gm_m_iload _) (gm_s_iload_n dX9_image_93 rfl) (
    gm_cn 95 (gm_m_aload _) (gm_s_aload_n dX9_image_94 rfl) (
    gm_cn 98 (gm_m_getR _ _) (gf_getR_9_5 gw_220 dX9_image_95) (
    gm_cn 99 (gm_m_iload _) (gm_s_iload_n dX9_image_98 rfl) (
    gm_cn 100 gm_m_iald (gm_s_iald dX9_image_99) (
    gm_cn 101 gm_m_iast (gm_s_iast dX9_image_100) (
    gm_cn 102 (gm_m_aload _) (gm_s_aload_n dX9_image_101 rfl) (
    gm_cn 105 (gm_m_getR _ _) (gf_getR_9_51 gw_267 dX9_image_102) (
    gm_cn 106 (gm_m_iload _) (gm_s_iload_n dX9_image_105 rfl) (
    gm_cn 107 (gm_m_aload _) (gm_s_aload_n dX9_image_106 rfl) (
    gm_cn 110 (gm_m_getR _ _) (gf_getR_9_6 gw_221 dX9_image_107) (
    gm_cn 111 (gm_m_iload _) (gm_s_iload_n dX9_image_110 rfl) (
    gm_cn 112 gm_m_iald (gm_s_iald dX9_image_111) (
    gm_cn 113 gm_m_iast (gm_s_iast dX9_image_112) (
    gm_cn 114 (gm_m_aload _) (gm_s_aload_n dX9_image_113 rfl) (
    gm_cn 117 (gm_m_getR _ _) (gf_getR_9_52 gw_268 dX9_image_114) (
    gm_cn 118 (gm_m_iload _) (gm_s_iload_n dX9_image_117 rfl) (
    gm_cn 119 (gm_m_aload _) (gm_s_aload_n dX9_image_118 rfl) (
    gm_cn 122 (gm_m_getR _ _) (gf_getR_9_7 gw_222 dX9_image_119) (
    gm_cn 123 (gm_m_iload _) (gm_s_iload_n dX9_image_122 rfl) (
    gm_cn 124 gm_m_iald (gm_s_iald dX9_image_123) (
    gm_cn 125 gm_m_iast (gm_s_iast dX9_image_124) (
    gm_cn 128 (gm_m_iinc _ _) (gm_s_iinc dX9_image_125 (by decide)) (
    gm_cn 0 (gm_m_goto _) (gm_s_goto (bpc := bpX9_image) (b := 1) dX9_image_128 rfl 0) (
    trivial))))))))))))))))))))))))))))))))))))))))))))))))))))),
  gm_cn 132 (gm_m_push _) (gm_s_iconst dX9_image_131) (
    gm_cn 133 (gm_m_istore _) (gm_s_istore_n dX9_image_132 rfl (by decide)) (
    gm_cn 0 (gm_m_goto _) (gm_s_fall (bpc := bpX9_image) (b := 3) rfl 0) (
    trivial))),
  gm_cn 134 (gm_m_iload _) (gm_s_iload_n dX9_image_133 rfl) (
    gm_cn 136 (gm_m_push _) (gm_s_bipush dX9_image_134 rfl) (
    gm_cn 139 (gm_m_cge _) (gm_s_cge (bpc := bpX9_image) (b := 4) dX9_image_136 rfl) (
    gm_cn 140 (gm_m_aload _) (gm_s_aload_n dX9_image_139 rfl) (
    gm_cn 143 (gm_m_getR _ _) (gf_getR_9_53 gw_269 dX9_image_140) (
    gm_cn 144 (gm_m_iload _) (gm_s_iload_n dX9_image_143 rfl) (
    gm_cn 145 (gm_m_aload _) (gm_s_aload_n dX9_image_144 rfl) (
    gm_cn 148 (gm_m_getR _ _) (gf_getR_9_8 gw_223 dX9_image_145) (
    gm_cn 149 (gm_m_iload _) (gm_s_iload_n dX9_image_148 rfl) (
    gm_cn 150 gm_m_iald (gm_s_iald dX9_image_149) (
    gm_cn 151 gm_m_iast (gm_s_iast dX9_image_150) (
    gm_cn 154 (gm_m_iinc _ _) (gm_s_iinc dX9_image_151 (by decide)) (
    gm_cn 0 (gm_m_goto _) (gm_s_goto (bpc := bpX9_image) (b := 3) dX9_image_154 rfl 0) (
    trivial))))))))))))),
  gm_cn 158 (gm_m_push _) (gm_s_iconst dX9_image_157) (
    gm_cn 159 (gm_m_istore _) (gm_s_istore_n dX9_image_158 rfl (by decide)) (
    gm_cn 0 (gm_m_goto _) (gm_s_fall (bpc := bpX9_image) (b := 5) rfl 0) (
    trivial))),
  gm_cn 160 (gm_m_iload _) (gm_s_iload_n dX9_image_159 rfl) (
    gm_cn 162 (gm_m_push _) (gm_s_bipush dX9_image_160 rfl) (
    gm_cn 165 (gm_m_cge _) (gm_s_cge (bpc := bpX9_image) (b := 6) dX9_image_162 rfl) (
    gm_cn 166 (gm_m_aload _) (gm_s_aload_n dX9_image_165 rfl) (
    gm_cn 169 (gm_m_getR _ _) (gf_getR_9_54 gw_270 dX9_image_166) (
    gm_cn 170 (gm_m_iload _) (gm_s_iload_n dX9_image_169 rfl) (
    gm_cn 171 (gm_m_aload _) (gm_s_aload_n dX9_image_170 rfl) (
    gm_cn 174 (gm_m_getR _ _) (gf_getR_9_36 gw_252 dX9_image_171) (
    gm_cn 175 (gm_m_iload _) (gm_s_iload_n dX9_image_174 rfl) (
    gm_cn 176 gm_m_iald (gm_s_iald dX9_image_175) (
    gm_cn 177 gm_m_iast (gm_s_iast dX9_image_176) (
    gm_cn 178 (gm_m_aload _) (gm_s_aload_n dX9_image_177 rfl) (
    gm_cn 181 (gm_m_getR _ _) (gf_getR_9_55 gw_271 dX9_image_178) (
    gm_cn 182 (gm_m_iload _) (gm_s_iload_n dX9_image_181 rfl) (
    gm_cn 183 (gm_m_aload _) (gm_s_aload_n dX9_image_182 rfl) (
    gm_cn 186 (gm_m_getR _ _) (gf_getR_9_37 gw_253 dX9_image_183) (
    gm_cn 187 (gm_m_iload _) (gm_s_iload_n dX9_image_186 rfl) (
    gm_cn 188 gm_m_iald (gm_s_iald dX9_image_187) (
    gm_cn 189 gm_m_iast (gm_s_iast dX9_image_188) (
    gm_cn 190 (gm_m_aload _) (gm_s_aload_n dX9_image_189 rfl) (
    gm_cn 193 (gm_m_getR _ _) (gf_getR_9_56 gw_272 dX9_image_190) (
    gm_cn 194 (gm_m_iload _) (gm_s_iload_n dX9_image_193 rfl) (
    gm_cn 195 (gm_m_aload _) (gm_s_aload_n dX9_image_194 rfl) (
    gm_cn 198 (gm_m_getR _ _) (gf_getR_9_38 gw_254 dX9_image_195) (
    gm_cn 199 (gm_m_iload _) (gm_s_iload_n dX9_image_198 rfl) (
    gm_cn 200 gm_m_iald (gm_s_iald dX9_image_199) (
    gm_cn 201 gm_m_iast (gm_s_iast dX9_image_200) (
    gm_cn 204 (gm_m_iinc _ _) (gm_s_iinc dX9_image_201 (by decide)) (
    gm_cn 0 (gm_m_goto _) (gm_s_goto (bpc := bpX9_image) (b := 5) dX9_image_204 rfl 0) (
    trivial))))))))))))))))))))))))))))),
  gm_cn 208 (gm_m_push _) (gm_s_iconst dX9_image_207) (
    gm_cn 209 (gm_m_istore _) (gm_s_istore_n dX9_image_208 rfl (by decide)) (
    gm_cn 0 (gm_m_goto _) (gm_s_fall (bpc := bpX9_image) (b := 7) rfl 0) (
    trivial))),
  gm_cn 210 (gm_m_iload _) (gm_s_iload_n dX9_image_209 rfl) (
    gm_cn 212 (gm_m_push _) (gm_s_bipush dX9_image_210 rfl) (
    gm_cn 215 (gm_m_cge _) (gm_s_cge (bpc := bpX9_image) (b := 8) dX9_image_212 rfl) (
    gm_cn 216 (gm_m_aload _) (gm_s_aload_n dX9_image_215 rfl) (
    gm_cn 219 (gm_m_getR _ _) (gf_getR_9_57 gw_273 dX9_image_216) (
    gm_cn 220 (gm_m_iload _) (gm_s_iload_n dX9_image_219 rfl) (
    gm_cn 221 (gm_m_aload _) (gm_s_aload_n dX9_image_220 rfl) (
    gm_cn 224 (gm_m_getR _ _) (gf_getR_9_40 gw_256 dX9_image_221) (
    gm_cn 225 (gm_m_iload _) (gm_s_iload_n dX9_image_224 rfl) (
    gm_cn 226 gm_m_iald (gm_s_iald dX9_image_225) (
    gm_cn 227 gm_m_iast (gm_s_iast dX9_image_226) (
    gm_cn 230 (gm_m_iinc _ _) (gm_s_iinc dX9_image_227 (by decide)) (
    gm_cn 0 (gm_m_goto _) (gm_s_goto (bpc := bpX9_image) (b := 7) dX9_image_230 rfl 0) (
    trivial))))))))))))),
  gm_cn 234 (gm_m_aload _) (gm_s_aload_n dX9_image_233 rfl) (
    gm_cn 237 (gm_m_getI _ _) (gf_getI_9_0 gw_215 dX9_image_234) (
    gm_cn 0 gm_m_iret (gm_s_iret dX9_image_237 rfl 0) (
    trivial))), trivial⟩
theorem dX9_undo_0 : decode cX9_undo 0 = .ok (.aload_n 0, 1) := by decide +kernel
theorem dX9_undo_1 : decode cX9_undo 1 = .ok (.getfield 135, 3) := by decide +kernel
theorem dX9_undo_4 : decode cX9_undo 4 = .ok (.ifCond .ne 6, 3) := by decide +kernel
theorem dX9_undo_7 : decode cX9_undo 7 = .ok (.bipush (-3), 2) := by decide +kernel
theorem dX9_undo_9 : decode cX9_undo 9 = .ok (.ireturn, 1) := by decide +kernel
theorem dX9_undo_10 : decode cX9_undo 10 = .ok (.aload_n 0, 1) := by decide +kernel
theorem dX9_undo_11 : decode cX9_undo 11 = .ok (.aload_n 0, 1) := by decide +kernel
theorem dX9_undo_12 : decode cX9_undo 12 = .ok (.getfield 139, 3) := by decide +kernel
theorem dX9_undo_15 : decode cX9_undo 15 = .ok (.putfield 41, 3) := by decide +kernel
theorem dX9_undo_18 : decode cX9_undo 18 = .ok (.aload_n 0, 1) := by decide +kernel
theorem dX9_undo_19 : decode cX9_undo 19 = .ok (.aload_n 0, 1) := by decide +kernel
theorem dX9_undo_20 : decode cX9_undo 20 = .ok (.getfield 142, 3) := by decide +kernel
theorem dX9_undo_23 : decode cX9_undo 23 = .ok (.putfield 7, 3) := by decide +kernel
theorem dX9_undo_26 : decode cX9_undo 26 = .ok (.aload_n 0, 1) := by decide +kernel
theorem dX9_undo_27 : decode cX9_undo 27 = .ok (.aload_n 0, 1) := by decide +kernel
theorem dX9_undo_28 : decode cX9_undo 28 = .ok (.getfield 145, 3) := by decide +kernel
theorem dX9_undo_31 : decode cX9_undo 31 = .ok (.putfield 13, 3) := by decide +kernel
theorem dX9_undo_34 : decode cX9_undo 34 = .ok (.aload_n 0, 1) := by decide +kernel
theorem dX9_undo_35 : decode cX9_undo 35 = .ok (.aload_n 0, 1) := by decide +kernel
theorem dX9_undo_36 : decode cX9_undo 36 = .ok (.getfield 148, 3) := by decide +kernel
theorem dX9_undo_39 : decode cX9_undo 39 = .ok (.putfield 117, 3) := by decide +kernel
theorem dX9_undo_42 : decode cX9_undo 42 = .ok (.aload_n 0, 1) := by decide +kernel
theorem dX9_undo_43 : decode cX9_undo 43 = .ok (.aload_n 0, 1) := by decide +kernel
theorem dX9_undo_44 : decode cX9_undo 44 = .ok (.getfield 151, 3) := by decide +kernel
theorem dX9_undo_47 : decode cX9_undo 47 = .ok (.putfield 129, 3) := by decide +kernel
theorem dX9_undo_50 : decode cX9_undo 50 = .ok (.iconst 0, 1) := by decide +kernel
theorem dX9_undo_51 : decode cX9_undo 51 = .ok (.istore_n 1, 1) := by decide +kernel
theorem dX9_undo_52 : decode cX9_undo 52 = .ok (.iload_n 1, 1) := by decide +kernel
theorem dX9_undo_53 : decode cX9_undo 53 = .ok (.bipush 6, 2) := by decide +kernel
theorem dX9_undo_55 : decode cX9_undo 55 = .ok (.if_icmp .ge 81, 3) := by decide +kernel
theorem dX9_undo_58 : decode cX9_undo 58 = .ok (.aload_n 0, 1) := by decide +kernel
theorem dX9_undo_59 : decode cX9_undo 59 = .ok (.getfield 16, 3) := by decide +kernel
theorem dX9_undo_62 : decode cX9_undo 62 = .ok (.iload_n 1, 1) := by decide +kernel
theorem dX9_undo_63 : decode cX9_undo 63 = .ok (.aload_n 0, 1) := by decide +kernel
theorem dX9_undo_64 : decode cX9_undo 64 = .ok (.getfield 154, 3) := by decide +kernel
theorem dX9_undo_67 : decode cX9_undo 67 = .ok (.iload_n 1, 1) := by decide +kernel
theorem dX9_undo_68 : decode cX9_undo 68 = .ok (.iaload, 1) := by decide +kernel
theorem dX9_undo_69 : decode cX9_undo 69 = .ok (.iastore, 1) := by decide +kernel
theorem dX9_undo_70 : decode cX9_undo 70 = .ok (.aload_n 0, 1) := by decide +kernel
theorem dX9_undo_71 : decode cX9_undo 71 = .ok (.getfield 20, 3) := by decide +kernel
theorem dX9_undo_74 : decode cX9_undo 74 = .ok (.iload_n 1, 1) := by decide +kernel
theorem dX9_undo_75 : decode cX9_undo 75 = .ok (.aload_n 0, 1) := by decide +kernel
theorem dX9_undo_76 : decode cX9_undo 76 = .ok (.getfield 157, 3) := by decide +kernel
theorem dX9_undo_79 : decode cX9_undo 79 = .ok (.iload_n 1, 1) := by decide +kernel
theorem dX9_undo_80 : decode cX9_undo 80 = .ok (.iaload, 1) := by decide +kernel
theorem dX9_undo_81 : decode cX9_undo 81 = .ok (.iastore, 1) := by decide +kernel
theorem dX9_undo_82 : decode cX9_undo 82 = .ok (.aload_n 0, 1) := by decide +kernel
theorem dX9_undo_83 : decode cX9_undo 83 = .ok (.getfield 23, 3) := by decide +kernel
theorem dX9_undo_86 : decode cX9_undo 86 = .ok (.iload_n 1, 1) := by decide +kernel
theorem dX9_undo_87 : decode cX9_undo 87 = .ok (.aload_n 0, 1) := by decide +kernel
theorem dX9_undo_88 : decode cX9_undo 88 = .ok (.getfield 160, 3) := by decide +kernel
theorem dX9_undo_91 : decode cX9_undo 91 = .ok (.iload_n 1, 1) := by decide +kernel
theorem dX9_undo_92 : decode cX9_undo 92 = .ok (.iaload, 1) := by decide +kernel
theorem dX9_undo_93 : decode cX9_undo 93 = .ok (.iastore, 1) := by decide +kernel
theorem dX9_undo_94 : decode cX9_undo 94 = .ok (.aload_n 0, 1) := by decide +kernel
theorem dX9_undo_95 : decode cX9_undo 95 = .ok (.getfield 26, 3) := by decide +kernel
theorem dX9_undo_98 : decode cX9_undo 98 = .ok (.iload_n 1, 1) := by decide +kernel
theorem dX9_undo_99 : decode cX9_undo 99 = .ok (.aload_n 0, 1) := by decide +kernel
theorem dX9_undo_100 : decode cX9_undo 100 = .ok (.getfield 163, 3) := by decide +kernel
theorem dX9_undo_103 : decode cX9_undo 103 = .ok (.iload_n 1, 1) := by decide +kernel
theorem dX9_undo_104 : decode cX9_undo 104 = .ok (.iaload, 1) := by decide +kernel
theorem dX9_undo_105 : decode cX9_undo 105 = .ok (.iastore, 1) := by decide +kernel
theorem dX9_undo_106 : decode cX9_undo 106 = .ok (.aload_n 0, 1) := by decide +kernel
theorem dX9_undo_107 : decode cX9_undo 107 = .ok (.getfield 29, 3) := by decide +kernel
theorem dX9_undo_110 : decode cX9_undo 110 = .ok (.iload_n 1, 1) := by decide +kernel
theorem dX9_undo_111 : decode cX9_undo 111 = .ok (.aload_n 0, 1) := by decide +kernel
theorem dX9_undo_112 : decode cX9_undo 112 = .ok (.getfield 166, 3) := by decide +kernel
theorem dX9_undo_115 : decode cX9_undo 115 = .ok (.iload_n 1, 1) := by decide +kernel
theorem dX9_undo_116 : decode cX9_undo 116 = .ok (.iaload, 1) := by decide +kernel
theorem dX9_undo_117 : decode cX9_undo 117 = .ok (.iastore, 1) := by decide +kernel
theorem dX9_undo_118 : decode cX9_undo 118 = .ok (.aload_n 0, 1) := by decide +kernel
theorem dX9_undo_119 : decode cX9_undo 119 = .ok (.getfield 32, 3) := by decide +kernel
theorem dX9_undo_122 : decode cX9_undo 122 = .ok (.iload_n 1, 1) := by decide +kernel
theorem dX9_undo_123 : decode cX9_undo 123 = .ok (.aload_n 0, 1) := by decide +kernel
theorem dX9_undo_124 : decode cX9_undo 124 = .ok (.getfield 169, 3) := by decide +kernel
theorem dX9_undo_127 : decode cX9_undo 127 = .ok (.iload_n 1, 1) := by decide +kernel
theorem dX9_undo_128 : decode cX9_undo 128 = .ok (.iaload, 1) := by decide +kernel
theorem dX9_undo_129 : decode cX9_undo 129 = .ok (.iastore, 1) := by decide +kernel
theorem dX9_undo_130 : decode cX9_undo 130 = .ok (.iinc 1 1, 3) := by decide +kernel
theorem dX9_undo_133 : decode cX9_undo 133 = .ok (.goto (-81), 3) := by decide +kernel
theorem dX9_undo_136 : decode cX9_undo 136 = .ok (.iconst 0, 1) := by decide +kernel
theorem dX9_undo_137 : decode cX9_undo 137 = .ok (.istore_n 1, 1) := by decide +kernel
theorem dX9_undo_138 : decode cX9_undo 138 = .ok (.iload_n 1, 1) := by decide +kernel
theorem dX9_undo_139 : decode cX9_undo 139 = .ok (.bipush 24, 2) := by decide +kernel
theorem dX9_undo_141 : decode cX9_undo 141 = .ok (.if_icmp .ge 21, 3) := by decide +kernel
theorem dX9_undo_144 : decode cX9_undo 144 = .ok (.aload_n 0, 1) := by decide +kernel
theorem dX9_undo_145 : decode cX9_undo 145 = .ok (.getfield 35, 3) := by decide +kernel
theorem dX9_undo_148 : decode cX9_undo 148 = .ok (.iload_n 1, 1) := by decide +kernel
theorem dX9_undo_149 : decode cX9_undo 149 = .ok (.aload_n 0, 1) := by decide +kernel
theorem dX9_undo_150 : decode cX9_undo 150 = .ok (.getfield 172, 3) := by decide +kernel
theorem dX9_undo_153 : decode cX9_undo 153 = .ok (.iload_n 1, 1) := by decide +kernel
theorem dX9_undo_154 : decode cX9_undo 154 = .ok (.iaload, 1) := by decide +kernel
theorem dX9_undo_155 : decode cX9_undo 155 = .ok (.iastore, 1) := by decide +kernel
theorem dX9_undo_156 : decode cX9_undo 156 = .ok (.iinc 1 1, 3) := by decide +kernel
theorem dX9_undo_159 : decode cX9_undo 159 = .ok (.goto (-21), 3) := by decide +kernel
theorem dX9_undo_162 : decode cX9_undo 162 = .ok (.iconst 0, 1) := by decide +kernel
theorem dX9_undo_163 : decode cX9_undo 163 = .ok (.istore_n 1, 1) := by decide +kernel
theorem dX9_undo_164 : decode cX9_undo 164 = .ok (.iload_n 1, 1) := by decide +kernel
theorem dX9_undo_165 : decode cX9_undo 165 = .ok (.bipush 8, 2) := by decide +kernel
theorem dX9_undo_167 : decode cX9_undo 167 = .ok (.if_icmp .ge 45, 3) := by decide +kernel
theorem dX9_undo_170 : decode cX9_undo 170 = .ok (.aload_n 0, 1) := by decide +kernel
theorem dX9_undo_171 : decode cX9_undo 171 = .ok (.getfield 120, 3) := by decide +kernel
theorem dX9_undo_174 : decode cX9_undo 174 = .ok (.iload_n 1, 1) := by decide +kernel
theorem dX9_undo_175 : decode cX9_undo 175 = .ok (.aload_n 0, 1) := by decide +kernel
theorem dX9_undo_176 : decode cX9_undo 176 = .ok (.getfield 175, 3) := by decide +kernel
theorem dX9_undo_179 : decode cX9_undo 179 = .ok (.iload_n 1, 1) := by decide +kernel
theorem dX9_undo_180 : decode cX9_undo 180 = .ok (.iaload, 1) := by decide +kernel
theorem dX9_undo_181 : decode cX9_undo 181 = .ok (.iastore, 1) := by decide +kernel
theorem dX9_undo_182 : decode cX9_undo 182 = .ok (.aload_n 0, 1) := by decide +kernel
theorem dX9_undo_183 : decode cX9_undo 183 = .ok (.getfield 123, 3) := by decide +kernel
theorem dX9_undo_186 : decode cX9_undo 186 = .ok (.iload_n 1, 1) := by decide +kernel
theorem dX9_undo_187 : decode cX9_undo 187 = .ok (.aload_n 0, 1) := by decide +kernel
theorem dX9_undo_188 : decode cX9_undo 188 = .ok (.getfield 178, 3) := by decide +kernel
theorem dX9_undo_191 : decode cX9_undo 191 = .ok (.iload_n 1, 1) := by decide +kernel
theorem dX9_undo_192 : decode cX9_undo 192 = .ok (.iaload, 1) := by decide +kernel
theorem dX9_undo_193 : decode cX9_undo 193 = .ok (.iastore, 1) := by decide +kernel
theorem dX9_undo_194 : decode cX9_undo 194 = .ok (.aload_n 0, 1) := by decide +kernel
theorem dX9_undo_195 : decode cX9_undo 195 = .ok (.getfield 126, 3) := by decide +kernel
theorem dX9_undo_198 : decode cX9_undo 198 = .ok (.iload_n 1, 1) := by decide +kernel
theorem dX9_undo_199 : decode cX9_undo 199 = .ok (.aload_n 0, 1) := by decide +kernel
theorem dX9_undo_200 : decode cX9_undo 200 = .ok (.getfield 181, 3) := by decide +kernel
theorem dX9_undo_203 : decode cX9_undo 203 = .ok (.iload_n 1, 1) := by decide +kernel
theorem dX9_undo_204 : decode cX9_undo 204 = .ok (.iaload, 1) := by decide +kernel
theorem dX9_undo_205 : decode cX9_undo 205 = .ok (.iastore, 1) := by decide +kernel
theorem dX9_undo_206 : decode cX9_undo 206 = .ok (.iinc 1 1, 3) := by decide +kernel
theorem dX9_undo_209 : decode cX9_undo 209 = .ok (.goto (-45), 3) := by decide +kernel
theorem dX9_undo_212 : decode cX9_undo 212 = .ok (.iconst 0, 1) := by decide +kernel
theorem dX9_undo_213 : decode cX9_undo 213 = .ok (.istore_n 1, 1) := by decide +kernel
theorem dX9_undo_214 : decode cX9_undo 214 = .ok (.iload_n 1, 1) := by decide +kernel
theorem dX9_undo_215 : decode cX9_undo 215 = .ok (.bipush 12, 2) := by decide +kernel
theorem dX9_undo_217 : decode cX9_undo 217 = .ok (.if_icmp .ge 21, 3) := by decide +kernel
theorem dX9_undo_220 : decode cX9_undo 220 = .ok (.aload_n 0, 1) := by decide +kernel
theorem dX9_undo_221 : decode cX9_undo 221 = .ok (.getfield 132, 3) := by decide +kernel
theorem dX9_undo_224 : decode cX9_undo 224 = .ok (.iload_n 1, 1) := by decide +kernel
theorem dX9_undo_225 : decode cX9_undo 225 = .ok (.aload_n 0, 1) := by decide +kernel
theorem dX9_undo_226 : decode cX9_undo 226 = .ok (.getfield 184, 3) := by decide +kernel
theorem dX9_undo_229 : decode cX9_undo 229 = .ok (.iload_n 1, 1) := by decide +kernel
theorem dX9_undo_230 : decode cX9_undo 230 = .ok (.iaload, 1) := by decide +kernel
theorem dX9_undo_231 : decode cX9_undo 231 = .ok (.iastore, 1) := by decide +kernel
theorem dX9_undo_232 : decode cX9_undo 232 = .ok (.iinc 1 1, 3) := by decide +kernel
theorem dX9_undo_235 : decode cX9_undo 235 = .ok (.goto (-21), 3) := by decide +kernel
theorem dX9_undo_238 : decode cX9_undo 238 = .ok (.aload_n 0, 1) := by decide +kernel
theorem dX9_undo_239 : decode cX9_undo 239 = .ok (.getfield 7, 3) := by decide +kernel
theorem dX9_undo_242 : decode cX9_undo 242 = .ok (.ireturn, 1) := by decide +kernel
def pX9_undo : List (List gm_A) := [[(gm_aload 0), (gm_getI 9 941), (gm_ifne 1), (gm_push (.inl (-3))), gm_iret],
  [(gm_aload 0), (gm_aload 0), (gm_getI 9 942), (gm_putI 9 910), (gm_aload 0), (gm_aload 0), (gm_getI 9 943), (gm_putI 9 900), (gm_aload 0), (gm_aload 0), (gm_getI 9 944), (gm_putI 9 901), (gm_aload 0), (gm_aload 0), (gm_getI 9 945), (gm_putI 9 935), (gm_aload 0), (gm_aload 0), (gm_getI 9 946), (gm_putI 9 939), (gm_push (.inl 0)), (gm_istore 1), (gm_goto 2)],
  [(gm_iload 1), (gm_push (.inl 6)), (gm_cge 3), (gm_aload 0), (gm_getR 9 902), (gm_iload 1), (gm_aload 0), (gm_getR 9 947), (gm_iload 1), gm_iald, gm_iast, (gm_aload 0), (gm_getR 9 903), (gm_iload 1), (gm_aload 0), (gm_getR 9 948), (gm_iload 1), gm_iald, gm_iast, (gm_aload 0), (gm_getR 9 904), (gm_iload 1), (gm_aload 0), (gm_getR 9 949), (gm_iload 1), gm_iald, gm_iast, (gm_aload 0), (gm_getR 9 905), (gm_iload 1), (gm_aload 0), (gm_getR 9 950), (gm_iload 1), gm_iald, gm_iast, (gm_aload 0), (gm_getR 9 906), (gm_iload 1), (gm_aload 0), (gm_getR 9 951), (gm_iload 1), gm_iald, gm_iast, (gm_aload 0), (gm_getR 9 907), (gm_iload 1), (gm_aload 0), (gm_getR 9 952), (gm_iload 1), gm_iald, gm_iast, (gm_iinc 1 1), (gm_goto 2)],
  [(gm_push (.inl 0)), (gm_istore 1), (gm_goto 4)],
  [(gm_iload 1), (gm_push (.inl 24)), (gm_cge 5), (gm_aload 0), (gm_getR 9 908), (gm_iload 1), (gm_aload 0), (gm_getR 9 953), (gm_iload 1), gm_iald, gm_iast, (gm_iinc 1 1), (gm_goto 4)],
  [(gm_push (.inl 0)), (gm_istore 1), (gm_goto 6)],
  [(gm_iload 1), (gm_push (.inl 8)), (gm_cge 7), (gm_aload 0), (gm_getR 9 936), (gm_iload 1), (gm_aload 0), (gm_getR 9 954), (gm_iload 1), gm_iald, gm_iast, (gm_aload 0), (gm_getR 9 937), (gm_iload 1), (gm_aload 0), (gm_getR 9 955), (gm_iload 1), gm_iald, gm_iast, (gm_aload 0), (gm_getR 9 938), (gm_iload 1), (gm_aload 0), (gm_getR 9 956), (gm_iload 1), gm_iald, gm_iast, (gm_iinc 1 1), (gm_goto 6)],
  [(gm_push (.inl 0)), (gm_istore 1), (gm_goto 8)],
  [(gm_iload 1), (gm_push (.inl 12)), (gm_cge 9), (gm_aload 0), (gm_getR 9 940), (gm_iload 1), (gm_aload 0), (gm_getR 9 957), (gm_iload 1), gm_iald, gm_iast, (gm_iinc 1 1), (gm_goto 8)],
  [(gm_aload 0), (gm_getI 9 900), gm_iret]]
def bpX9_undo : Nat → Nat := fun b => ([0, 10, 52, 136, 138, 162, 164, 212, 214, 238] : List Nat).getD b 0
set_option maxRecDepth 100000 in
theorem tX9_undo {D : va_G} {sz : Nat} {ad : Nat → Nat} {cA : Nat → ClassId} {xs : Int → Int} {Ln : Int} {l : Launch} : gm_SB D sz ad cA xs Ln l gm_mt cX9_undo "LongNoonModel" 2 false 1 bpX9_undo 0 pX9_undo :=
  ⟨gm_cn 1 (gm_m_aload _) (gm_s_aload_n dX9_undo_0 rfl) (
    gm_cn 4 (gm_m_getI _ _) (gf_getI_9_41 gw_257 dX9_undo_1) (
    gm_cn 7 (gm_m_ifne _) (gm_s_ifne (bpc := bpX9_undo) (b := 1) dX9_undo_4 rfl) (
    gm_cn 9 (gm_m_push _) (gm_s_bipush dX9_undo_7 rfl) (
    gm_cn 0 gm_m_iret (gm_s_iret dX9_undo_9 rfl 0) (
    trivial))))),
  gm_cn 11 (gm_m_aload _) (gm_s_aload_n dX9_undo_10 rfl) (
    gm_cn 12 (gm_m_aload _) (gm_s_aload_n dX9_undo_11 rfl) (
    gm_cn 15 (gm_m_getI _ _) (gf_getI_9_42 gw_258 dX9_undo_12) (
    gm_cn 18 (gm_m_putI _ _) (gf_putI_9_10 gw_225 dX9_undo_15) (
    gm_cn 19 (gm_m_aload _) (gm_s_aload_n dX9_undo_18 rfl) (
    gm_cn 20 (gm_m_aload _) (gm_s_aload_n dX9_undo_19 rfl) (
    gm_cn 23 (gm_m_getI _ _) (gf_getI_9_43 gw_259 dX9_undo_20) (
    gm_cn 26 (gm_m_putI _ _) (gf_putI_9_0 gw_215 dX9_undo_23) (
    gm_cn 27 (gm_m_aload _) (gm_s_aload_n dX9_undo_26 rfl) (
    gm_cn 28 (gm_m_aload _) (gm_s_aload_n dX9_undo_27 rfl) (
    gm_cn 31 (gm_m_getI _ _) (gf_getI_9_44 gw_260 dX9_undo_28) (
    gm_cn 34 (gm_m_putI _ _) (gf_putI_9_1 gw_216 dX9_undo_31) (
    gm_cn 35 (gm_m_aload _) (gm_s_aload_n dX9_undo_34 rfl) (
    gm_cn 36 (gm_m_aload _) (gm_s_aload_n dX9_undo_35 rfl) (
    gm_cn 39 (gm_m_getI _ _) (gf_getI_9_45 gw_261 dX9_undo_36) (
    gm_cn 42 (gm_m_putI _ _) (gf_putI_9_35 gw_251 dX9_undo_39) (
    gm_cn 43 (gm_m_aload _) (gm_s_aload_n dX9_undo_42 rfl) (
    gm_cn 44 (gm_m_aload _) (gm_s_aload_n dX9_undo_43 rfl) (
    gm_cn 47 (gm_m_getI _ _) (gf_getI_9_46 gw_262 dX9_undo_44) (
    gm_cn 50 (gm_m_putI _ _) (gf_putI_9_39 gw_255 dX9_undo_47) (
    gm_cn 51 (gm_m_push _) (gm_s_iconst dX9_undo_50) (
    gm_cn 52 (gm_m_istore _) (gm_s_istore_n dX9_undo_51 rfl (by decide)) (
    gm_cn 0 (gm_m_goto _) (gm_s_fall (bpc := bpX9_undo) (b := 2) rfl 0) (
    trivial))))))))))))))))))))))),
  gm_cn 53 (gm_m_iload _) (gm_s_iload_n dX9_undo_52 rfl) (
    gm_cn 55 (gm_m_push _) (gm_s_bipush dX9_undo_53 rfl) (
    gm_cn 58 (gm_m_cge _) (gm_s_cge (bpc := bpX9_undo) (b := 3) dX9_undo_55 rfl) (
    gm_cn 59 (gm_m_aload _) (gm_s_aload_n dX9_undo_58 rfl) (
    gm_cn 62 (gm_m_getR _ _) (gf_getR_9_2 gw_217 dX9_undo_59) (
    gm_cn 63 (gm_m_iload _) (gm_s_iload_n dX9_undo_62 rfl) (
    gm_cn 64 (gm_m_aload _) (gm_s_aload_n dX9_undo_63 rfl) (
    gm_cn 67 (gm_m_getR _ _) (gf_getR_9_47 gw_263 dX9_undo_64) (
    gm_cn 68 (gm_m_iload _) (gm_s_iload_n dX9_undo_67 rfl) (
    gm_cn 69 gm_m_iald (gm_s_iald dX9_undo_68) (
    gm_cn 70 gm_m_iast (gm_s_iast dX9_undo_69) (
    gm_cn 71 (gm_m_aload _) (gm_s_aload_n dX9_undo_70 rfl) (
    gm_cn 74 (gm_m_getR _ _) (gf_getR_9_3 gw_218 dX9_undo_71) (
    gm_cn 75 (gm_m_iload _) (gm_s_iload_n dX9_undo_74 rfl) (
    gm_cn 76 (gm_m_aload _) (gm_s_aload_n dX9_undo_75 rfl) (
    gm_cn 79 (gm_m_getR _ _) (gf_getR_9_48 gw_264 dX9_undo_76) (
    gm_cn 80 (gm_m_iload _) (gm_s_iload_n dX9_undo_79 rfl) (
    gm_cn 81 gm_m_iald (gm_s_iald dX9_undo_80) (
    gm_cn 82 gm_m_iast (gm_s_iast dX9_undo_81) (
    gm_cn 83 (gm_m_aload _) (gm_s_aload_n dX9_undo_82 rfl) (
    gm_cn 86 (gm_m_getR _ _) (gf_getR_9_4 gw_219 dX9_undo_83) (
    gm_cn 87 (gm_m_iload _) (gm_s_iload_n dX9_undo_86 rfl) (
    gm_cn 88 (gm_m_aload _) (gm_s_aload_n dX9_undo_87 rfl) (
    gm_cn 91 (gm_m_getR _ _) (gf_getR_9_49 gw_265 dX9_undo_88) (
    gm_cn 92 (gm_m_iload _) (gm_s_iload_n dX9_undo_91 rfl) (
    gm_cn 93 gm_m_iald (gm_s_iald dX9_undo_92) (
    gm_cn 94 gm_m_iast (gm_s_iast dX9_undo_93) (
    gm_cn 95 (gm_m_aload _) (gm_s_aload_n dX9_undo_94 rfl) (
    gm_cn 98 (gm_m_getR _ _) (gf_getR_9_5 gw_220 dX9_undo_95) (
    gm_cn 99 (gm_m_iload _) (gm_s_iload_n dX9_undo_98 rfl) (
    gm_cn 100 (gm_m_aload _) (gm_s_aload_n dX9_undo_99 rfl) (
    gm_cn 103 (gm_m_getR _ _) (gf_getR_9_50 gw_266 dX9_undo_100) (
    gm_cn 104 (gm_m_iload _) (gm_s_iload_n dX9_undo_103 rfl) (
    gm_cn 105 gm_m_iald (gm_s_iald dX9_undo_104) (
    gm_cn 106 gm_m_iast (gm_s_iast dX9_undo_105) (
    gm_cn 107 (gm_m_aload _) (gm_s_aload_n dX9_undo_106 rfl) (
    gm_cn 110 (gm_m_getR _ _) (gf_getR_9_6 gw_221 dX9_undo_107) (
    gm_cn 111 (gm_m_iload _) (gm_s_iload_n dX9_undo_110 rfl) (
    gm_cn 112 (gm_m_aload _) (gm_s_aload_n dX9_undo_111 rfl) (
    gm_cn 115 (gm_m_getR _ _) (gf_getR_9_51 gw_267 dX9_undo_112) (
    gm_cn 116 (gm_m_iload _) (gm_s_iload_n dX9_undo_115 rfl) (
    gm_cn 117 gm_m_iald (gm_s_iald dX9_undo_116) (
    gm_cn 118 gm_m_iast (gm_s_iast dX9_undo_117) (
    gm_cn 119 (gm_m_aload _) (gm_s_aload_n dX9_undo_118 rfl) (
    gm_cn 122 (gm_m_getR _ _) (gf_getR_9_7 gw_222 dX9_undo_119) (
    gm_cn 123 (gm_m_iload _) (gm_s_iload_n dX9_undo_122 rfl) (
    gm_cn 124 (gm_m_aload _) (gm_s_aload_n dX9_undo_123 rfl) (
    gm_cn 127 (gm_m_getR _ _) (gf_getR_9_52 gw_268 dX9_undo_124) (
    gm_cn 128 (gm_m_iload _) (gm_s_iload_n dX9_undo_127 rfl) (
    gm_cn 129 gm_m_iald (gm_s_iald dX9_undo_128) (
    gm_cn 130 gm_m_iast (gm_s_iast dX9_undo_129) (
    gm_cn 133 (gm_m_iinc _ _) (gm_s_iinc dX9_undo_130 (by decide)) (
    gm_cn 0 (gm_m_goto _) (gm_s_goto (bpc := bpX9_undo) (b := 2) dX9_undo_133 rfl 0) (
    trivial))))))))))))))))))))))))))))))))))))))))))))))))))))),
  gm_cn 137 (gm_m_push _) (gm_s_iconst dX9_undo_136) (
    gm_cn 138 (gm_m_istore _) (gm_s_istore_n dX9_undo_137 rfl (by decide)) (
    gm_cn 0 (gm_m_goto _) (gm_s_fall (bpc := bpX9_undo) (b := 4) rfl 0) (
    trivial))),
  gm_cn 139 (gm_m_iload _) (gm_s_iload_n dX9_undo_138 rfl) (
    gm_cn 141 (gm_m_push _) (gm_s_bipush dX9_undo_139 rfl) (
    gm_cn 144 (gm_m_cge _) (gm_s_cge (bpc := bpX9_undo) (b := 5) dX9_undo_141 rfl) (
    gm_cn 145 (gm_m_aload _) (gm_s_aload_n dX9_undo_144 rfl) (
    gm_cn 148 (gm_m_getR _ _) (gf_getR_9_8 gw_223 dX9_undo_145) (
    gm_cn 149 (gm_m_iload _) (gm_s_iload_n dX9_undo_148 rfl) (
    gm_cn 150 (gm_m_aload _) (gm_s_aload_n dX9_undo_149 rfl) (
    gm_cn 153 (gm_m_getR _ _) (gf_getR_9_53 gw_269 dX9_undo_150) (
    gm_cn 154 (gm_m_iload _) (gm_s_iload_n dX9_undo_153 rfl) (
    gm_cn 155 gm_m_iald (gm_s_iald dX9_undo_154) (
    gm_cn 156 gm_m_iast (gm_s_iast dX9_undo_155) (
    gm_cn 159 (gm_m_iinc _ _) (gm_s_iinc dX9_undo_156 (by decide)) (
    gm_cn 0 (gm_m_goto _) (gm_s_goto (bpc := bpX9_undo) (b := 4) dX9_undo_159 rfl 0) (
    trivial))))))))))))),
  gm_cn 163 (gm_m_push _) (gm_s_iconst dX9_undo_162) (
    gm_cn 164 (gm_m_istore _) (gm_s_istore_n dX9_undo_163 rfl (by decide)) (
    gm_cn 0 (gm_m_goto _) (gm_s_fall (bpc := bpX9_undo) (b := 6) rfl 0) (
    trivial))),
  gm_cn 165 (gm_m_iload _) (gm_s_iload_n dX9_undo_164 rfl) (
    gm_cn 167 (gm_m_push _) (gm_s_bipush dX9_undo_165 rfl) (
    gm_cn 170 (gm_m_cge _) (gm_s_cge (bpc := bpX9_undo) (b := 7) dX9_undo_167 rfl) (
    gm_cn 171 (gm_m_aload _) (gm_s_aload_n dX9_undo_170 rfl) (
    gm_cn 174 (gm_m_getR _ _) (gf_getR_9_36 gw_252 dX9_undo_171) (
    gm_cn 175 (gm_m_iload _) (gm_s_iload_n dX9_undo_174 rfl) (
    gm_cn 176 (gm_m_aload _) (gm_s_aload_n dX9_undo_175 rfl) (
    gm_cn 179 (gm_m_getR _ _) (gf_getR_9_54 gw_270 dX9_undo_176) (
    gm_cn 180 (gm_m_iload _) (gm_s_iload_n dX9_undo_179 rfl) (
    gm_cn 181 gm_m_iald (gm_s_iald dX9_undo_180) (
    gm_cn 182 gm_m_iast (gm_s_iast dX9_undo_181) (
    gm_cn 183 (gm_m_aload _) (gm_s_aload_n dX9_undo_182 rfl) (
    gm_cn 186 (gm_m_getR _ _) (gf_getR_9_37 gw_253 dX9_undo_183) (
    gm_cn 187 (gm_m_iload _) (gm_s_iload_n dX9_undo_186 rfl) (
    gm_cn 188 (gm_m_aload _) (gm_s_aload_n dX9_undo_187 rfl) (
    gm_cn 191 (gm_m_getR _ _) (gf_getR_9_55 gw_271 dX9_undo_188) (
    gm_cn 192 (gm_m_iload _) (gm_s_iload_n dX9_undo_191 rfl) (
    gm_cn 193 gm_m_iald (gm_s_iald dX9_undo_192) (
    gm_cn 194 gm_m_iast (gm_s_iast dX9_undo_193) (
    gm_cn 195 (gm_m_aload _) (gm_s_aload_n dX9_undo_194 rfl) (
    gm_cn 198 (gm_m_getR _ _) (gf_getR_9_38 gw_254 dX9_undo_195) (
    gm_cn 199 (gm_m_iload _) (gm_s_iload_n dX9_undo_198 rfl) (
    gm_cn 200 (gm_m_aload _) (gm_s_aload_n dX9_undo_199 rfl) (
    gm_cn 203 (gm_m_getR _ _) (gf_getR_9_56 gw_272 dX9_undo_200) (
    gm_cn 204 (gm_m_iload _) (gm_s_iload_n dX9_undo_203 rfl) (
    gm_cn 205 gm_m_iald (gm_s_iald dX9_undo_204) (
    gm_cn 206 gm_m_iast (gm_s_iast dX9_undo_205) (
    gm_cn 209 (gm_m_iinc _ _) (gm_s_iinc dX9_undo_206 (by decide)) (
    gm_cn 0 (gm_m_goto _) (gm_s_goto (bpc := bpX9_undo) (b := 6) dX9_undo_209 rfl 0) (
    trivial))))))))))))))))))))))))))))),
  gm_cn 213 (gm_m_push _) (gm_s_iconst dX9_undo_212) (
    gm_cn 214 (gm_m_istore _) (gm_s_istore_n dX9_undo_213 rfl (by decide)) (
    gm_cn 0 (gm_m_goto _) (gm_s_fall (bpc := bpX9_undo) (b := 8) rfl 0) (
    trivial))),
  gm_cn 215 (gm_m_iload _) (gm_s_iload_n dX9_undo_214 rfl) (
    gm_cn 217 (gm_m_push _) (gm_s_bipush dX9_undo_215 rfl) (
    gm_cn 220 (gm_m_cge _) (gm_s_cge (bpc := bpX9_undo) (b := 9) dX9_undo_217 rfl) (
    gm_cn 221 (gm_m_aload _) (gm_s_aload_n dX9_undo_220 rfl) (
    gm_cn 224 (gm_m_getR _ _) (gf_getR_9_40 gw_256 dX9_undo_221) (
    gm_cn 225 (gm_m_iload _) (gm_s_iload_n dX9_undo_224 rfl) (
    gm_cn 226 (gm_m_aload _) (gm_s_aload_n dX9_undo_225 rfl) (
    gm_cn 229 (gm_m_getR _ _) (gf_getR_9_57 gw_273 dX9_undo_226) (
    gm_cn 230 (gm_m_iload _) (gm_s_iload_n dX9_undo_229 rfl) (
    gm_cn 231 gm_m_iald (gm_s_iald dX9_undo_230) (
    gm_cn 232 gm_m_iast (gm_s_iast dX9_undo_231) (
    gm_cn 235 (gm_m_iinc _ _) (gm_s_iinc dX9_undo_232 (by decide)) (
    gm_cn 0 (gm_m_goto _) (gm_s_goto (bpc := bpX9_undo) (b := 8) dX9_undo_235 rfl 0) (
    trivial))))))))))))),
  gm_cn 239 (gm_m_aload _) (gm_s_aload_n dX9_undo_238 rfl) (
    gm_cn 242 (gm_m_getI _ _) (gf_getI_9_0 gw_215 dX9_undo_239) (
    gm_cn 0 gm_m_iret (gm_s_iret dX9_undo_242 rfl 0) (
    trivial))), trivial⟩
theorem dX9_body_0 : decode cX9_body 0 = .ok (.aload_n 0, 1) := by decide +kernel
theorem dX9_body_1 : decode cX9_body 1 = .ok (.getfield 187, 3) := by decide +kernel
theorem dX9_body_4 : decode cX9_body 4 = .ok (.bipush 20, 2) := by decide +kernel
theorem dX9_body_6 : decode cX9_body 6 = .ok (.if_icmp .ge 13, 3) := by decide +kernel
theorem dX9_body_9 : decode cX9_body 9 = .ok (.aload_n 0, 1) := by decide +kernel
theorem dX9_body_10 : decode cX9_body 10 = .ok (.getfield 190, 3) := by decide +kernel
theorem dX9_body_13 : decode cX9_body 13 = .ok (.aload_n 0, 1) := by decide +kernel
theorem dX9_body_14 : decode cX9_body 14 = .ok (.getfield 187, 3) := by decide +kernel
theorem dX9_body_17 : decode cX9_body 17 = .ok (.iload_n 1, 1) := by decide +kernel
theorem dX9_body_18 : decode cX9_body 18 = .ok (.iastore, 1) := by decide +kernel
theorem dX9_body_19 : decode cX9_body 19 = .ok (.aload_n 0, 1) := by decide +kernel
theorem dX9_body_20 : decode cX9_body 20 = .ok (.dup, 1) := by decide +kernel
theorem dX9_body_21 : decode cX9_body 21 = .ok (.getfield 187, 3) := by decide +kernel
theorem dX9_body_24 : decode cX9_body 24 = .ok (.iconst 1, 1) := by decide +kernel
theorem dX9_body_25 : decode cX9_body 25 = .ok (.iadd, 1) := by decide +kernel
theorem dX9_body_26 : decode cX9_body 26 = .ok (.putfield 187, 3) := by decide +kernel
theorem dX9_body_29 : decode cX9_body 29 = .ok (.return_, 1) := by decide +kernel
def pX9_body : List (List gm_A) := [[(gm_aload 0), (gm_getI 9 958), (gm_push (.inl 20)), (gm_cge 1), (gm_aload 0), (gm_getR 9 959), (gm_aload 0), (gm_getI 9 958), (gm_iload 1), gm_iast, (gm_goto 1)],
  [(gm_aload 0), gm_dup, (gm_getI 9 958), (gm_push (.inl 1)), (gm_op2 gm_add), (gm_putI 9 958), gm_vret]]
def bpX9_body : Nat → Nat := fun b => ([0, 19] : List Nat).getD b 0
set_option maxRecDepth 100000 in
theorem tX9_body {D : va_G} {sz : Nat} {ad : Nat → Nat} {cA : Nat → ClassId} {xs : Int → Int} {Ln : Int} {l : Launch} : gm_SB D sz ad cA xs Ln l gm_mt cX9_body "LongNoonModel" 2 false 0 bpX9_body 0 pX9_body :=
  ⟨gm_cn 1 (gm_m_aload _) (gm_s_aload_n dX9_body_0 rfl) (
    gm_cn 4 (gm_m_getI _ _) (gf_getI_9_58 gw_274 dX9_body_1) (
    gm_cn 6 (gm_m_push _) (gm_s_bipush dX9_body_4 rfl) (
    gm_cn 9 (gm_m_cge _) (gm_s_cge (bpc := bpX9_body) (b := 1) dX9_body_6 rfl) (
    gm_cn 10 (gm_m_aload _) (gm_s_aload_n dX9_body_9 rfl) (
    gm_cn 13 (gm_m_getR _ _) (gf_getR_9_59 gw_275 dX9_body_10) (
    gm_cn 14 (gm_m_aload _) (gm_s_aload_n dX9_body_13 rfl) (
    gm_cn 17 (gm_m_getI _ _) (gf_getI_9_58 gw_274 dX9_body_14) (
    gm_cn 18 (gm_m_iload _) (gm_s_iload_n dX9_body_17 rfl) (
    gm_cn 19 gm_m_iast (gm_s_iast dX9_body_18) (
    gm_cn 0 (gm_m_goto _) (gm_s_fall (bpc := bpX9_body) (b := 1) rfl 0) (
    trivial))))))))))),
  gm_cn 20 (gm_m_aload _) (gm_s_aload_n dX9_body_19 rfl) (
    gm_cn 21 gm_m_dup (gm_s_dup dX9_body_20) (
    gm_cn 24 (gm_m_getI _ _) (gf_getI_9_58 gw_274 dX9_body_21) (
    gm_cn 25 (gm_m_push _) (gm_s_iconst dX9_body_24) (
    gm_cn 26 (gm_m_op2 _) (gm_s_iadd dX9_body_25) (
    gm_cn 29 (gm_m_putI _ _) (gf_putI_9_58 gw_274 dX9_body_26) (
    gm_cn 0 gm_m_vret (gm_s_vret dX9_body_29 rfl 0) (
    trivial))))))), trivial⟩
theorem dX9_houseWarms_0 : decode cX9_houseWarms 0 = .ok (.aload_n 0, 1) := by decide +kernel
theorem dX9_houseWarms_1 : decode cX9_houseWarms 1 = .ok (.bipush 10, 2) := by decide +kernel
theorem dX9_houseWarms_3 : decode cX9_houseWarms 3 = .ok (.invokevirtual 344, 3) := by decide +kernel
theorem dX9_houseWarms_6 : decode cX9_houseWarms 6 = .ok (.iload_n 2, 1) := by decide +kernel
theorem dX9_houseWarms_7 : decode cX9_houseWarms 7 = .ok (.iload_n 1, 1) := by decide +kernel
theorem dX9_houseWarms_8 : decode cX9_houseWarms 8 = .ok (.iadd, 1) := by decide +kernel
theorem dX9_houseWarms_9 : decode cX9_houseWarms 9 = .ok (.ireturn, 1) := by decide +kernel
def pX9_houseWarms : List (List gm_A) := [[(gm_aload 0), (gm_push (.inl 10)), (gm_vcall 9 169 2), (gm_iload 2), (gm_iload 1), (gm_op2 gm_add), gm_iret]]
def bpX9_houseWarms : Nat → Nat := fun b => ([0] : List Nat).getD b 0
set_option maxRecDepth 100000 in
theorem tX9_houseWarms {D : va_G} {sz : Nat} {ad : Nat → Nat} {cA : Nat → ClassId} {xs : Int → Int} {Ln : Int} {l : Launch} : gm_SB D sz ad cA xs Ln l gm_mt cX9_houseWarms "LongNoonModel" 3 false 1 bpX9_houseWarms 0 pX9_houseWarms :=
  ⟨gm_cn 1 (gm_m_aload _) (gm_s_aload_n dX9_houseWarms_0 rfl) (
    gm_cn 3 (gm_m_push _) (gm_s_bipush dX9_houseWarms_1 rfl) (
    gm_cn 6 (gm_m_vcall _ _ _) (gcl_X9_body gw_323 dX9_houseWarms_3) (
    gm_cn 7 (gm_m_iload _) (gm_s_iload_n dX9_houseWarms_6 rfl) (
    gm_cn 8 (gm_m_iload _) (gm_s_iload_n dX9_houseWarms_7 rfl) (
    gm_cn 9 (gm_m_op2 _) (gm_s_iadd dX9_houseWarms_8) (
    gm_cn 0 gm_m_iret (gm_s_iret dX9_houseWarms_9 rfl 0) (
    trivial))))))), trivial⟩
theorem dX9_warmsAct_0 : decode cX9_warmsAct 0 = .ok (.aload_n 0, 1) := by decide +kernel
theorem dX9_warmsAct_1 : decode cX9_warmsAct 1 = .ok (.getfield 16, 3) := by decide +kernel
theorem dX9_warmsAct_4 : decode cX9_warmsAct 4 = .ok (.iload_n 1, 1) := by decide +kernel
theorem dX9_warmsAct_5 : decode cX9_warmsAct 5 = .ok (.iaload, 1) := by decide +kernel
theorem dX9_warmsAct_6 : decode cX9_warmsAct 6 = .ok (.tableswitch 83 2 6 #[34, 83, 49, 34, 63], 34) := by decide +kernel
theorem dX9_warmsAct_40 : decode cX9_warmsAct 40 = .ok (.aload_n 0, 1) := by decide +kernel
theorem dX9_warmsAct_41 : decode cX9_warmsAct 41 = .ok (.bipush 30, 2) := by decide +kernel
theorem dX9_warmsAct_43 : decode cX9_warmsAct 43 = .ok (.invokevirtual 344, 3) := by decide +kernel
theorem dX9_warmsAct_46 : decode cX9_warmsAct 46 = .ok (.aload_n 0, 1) := by decide +kernel
theorem dX9_warmsAct_47 : decode cX9_warmsAct 47 = .ok (.iload_n 1, 1) := by decide +kernel
theorem dX9_warmsAct_48 : decode cX9_warmsAct 48 = .ok (.iload_n 2, 1) := by decide +kernel
theorem dX9_warmsAct_49 : decode cX9_warmsAct 49 = .ok (.iconst 3, 1) := by decide +kernel
theorem dX9_warmsAct_50 : decode cX9_warmsAct 50 = .ok (.imul, 1) := by decide +kernel
theorem dX9_warmsAct_51 : decode cX9_warmsAct 51 = .ok (.invokevirtual 347, 3) := by decide +kernel
theorem dX9_warmsAct_54 : decode cX9_warmsAct 54 = .ok (.ireturn, 1) := by decide +kernel
theorem dX9_warmsAct_55 : decode cX9_warmsAct 55 = .ok (.aload_n 0, 1) := by decide +kernel
theorem dX9_warmsAct_56 : decode cX9_warmsAct 56 = .ok (.bipush 50, 2) := by decide +kernel
theorem dX9_warmsAct_58 : decode cX9_warmsAct 58 = .ok (.invokevirtual 344, 3) := by decide +kernel
theorem dX9_warmsAct_61 : decode cX9_warmsAct 61 = .ok (.aload_n 0, 1) := by decide +kernel
theorem dX9_warmsAct_62 : decode cX9_warmsAct 62 = .ok (.iload_n 1, 1) := by decide +kernel
theorem dX9_warmsAct_63 : decode cX9_warmsAct 63 = .ok (.iload_n 2, 1) := by decide +kernel
theorem dX9_warmsAct_64 : decode cX9_warmsAct 64 = .ok (.invokevirtual 347, 3) := by decide +kernel
theorem dX9_warmsAct_67 : decode cX9_warmsAct 67 = .ok (.ineg, 1) := by decide +kernel
theorem dX9_warmsAct_68 : decode cX9_warmsAct 68 = .ok (.ireturn, 1) := by decide +kernel
theorem dX9_warmsAct_69 : decode cX9_warmsAct 69 = .ok (.aload_n 0, 1) := by decide +kernel
theorem dX9_warmsAct_70 : decode cX9_warmsAct 70 = .ok (.bipush 71, 2) := by decide +kernel
theorem dX9_warmsAct_72 : decode cX9_warmsAct 72 = .ok (.invokevirtual 344, 3) := by decide +kernel
theorem dX9_warmsAct_75 : decode cX9_warmsAct 75 = .ok (.aload_n 0, 1) := by decide +kernel
theorem dX9_warmsAct_76 : decode cX9_warmsAct 76 = .ok (.iload_n 1, 1) := by decide +kernel
theorem dX9_warmsAct_77 : decode cX9_warmsAct 77 = .ok (.iload_n 2, 1) := by decide +kernel
theorem dX9_warmsAct_78 : decode cX9_warmsAct 78 = .ok (.invokevirtual 347, 3) := by decide +kernel
theorem dX9_warmsAct_81 : decode cX9_warmsAct 81 = .ok (.aload_n 0, 1) := by decide +kernel
theorem dX9_warmsAct_82 : decode cX9_warmsAct 82 = .ok (.getfield 20, 3) := by decide +kernel
theorem dX9_warmsAct_85 : decode cX9_warmsAct 85 = .ok (.iload_n 1, 1) := by decide +kernel
theorem dX9_warmsAct_86 : decode cX9_warmsAct 86 = .ok (.iaload, 1) := by decide +kernel
theorem dX9_warmsAct_87 : decode cX9_warmsAct 87 = .ok (.ixor, 1) := by decide +kernel
theorem dX9_warmsAct_88 : decode cX9_warmsAct 88 = .ok (.ireturn, 1) := by decide +kernel
theorem dX9_warmsAct_89 : decode cX9_warmsAct 89 = .ok (.aload_n 0, 1) := by decide +kernel
theorem dX9_warmsAct_90 : decode cX9_warmsAct 90 = .ok (.iload_n 1, 1) := by decide +kernel
theorem dX9_warmsAct_91 : decode cX9_warmsAct 91 = .ok (.iload_n 2, 1) := by decide +kernel
theorem dX9_warmsAct_92 : decode cX9_warmsAct 92 = .ok (.invokevirtual 347, 3) := by decide +kernel
theorem dX9_warmsAct_95 : decode cX9_warmsAct 95 = .ok (.ireturn, 1) := by decide +kernel
def pX9_warmsAct : List (List gm_A) := [[(gm_aload 0), (gm_getR 9 902), (gm_iload 1), gm_iald, (gm_switch [(2, 1), (3, 4), (4, 2), (5, 1), (6, 3)] 4)],
  [(gm_aload 0), (gm_push (.inl 30)), (gm_vcall 9 169 2), (gm_aload 0), (gm_iload 1), (gm_iload 2), (gm_push (.inl 3)), (gm_op2 gm_mul), (gm_vcall 9 170 3), gm_iret],
  [(gm_aload 0), (gm_push (.inl 50)), (gm_vcall 9 169 2), (gm_aload 0), (gm_iload 1), (gm_iload 2), (gm_vcall 9 170 3), (gm_op1 gm_neg), gm_iret],
  [(gm_aload 0), (gm_push (.inl 71)), (gm_vcall 9 169 2), (gm_aload 0), (gm_iload 1), (gm_iload 2), (gm_vcall 9 170 3), (gm_aload 0), (gm_getR 9 903), (gm_iload 1), gm_iald, (gm_op2 gm_xor), gm_iret],
  [(gm_aload 0), (gm_iload 1), (gm_iload 2), (gm_vcall 9 170 3), gm_iret]]
def bpX9_warmsAct : Nat → Nat := fun b => ([0, 40, 55, 69, 89] : List Nat).getD b 0
set_option maxRecDepth 100000 in
theorem tX9_warmsAct {D : va_G} {sz : Nat} {ad : Nat → Nat} {cA : Nat → ClassId} {xs : Int → Int} {Ln : Int} {l : Launch} : gm_SB D sz ad cA xs Ln l gm_mt cX9_warmsAct "LongNoonModel" 3 false 1 bpX9_warmsAct 0 pX9_warmsAct :=
  ⟨gm_cn 1 (gm_m_aload _) (gm_s_aload_n dX9_warmsAct_0 rfl) (
    gm_cn 4 (gm_m_getR _ _) (gf_getR_9_2 gw_217 dX9_warmsAct_1) (
    gm_cn 5 (gm_m_iload _) (gm_s_iload_n dX9_warmsAct_4 rfl) (
    gm_cn 6 gm_m_iald (gm_s_iald dX9_warmsAct_5) (
    gm_cn 0 (gm_m_switch _ _) (gm_s_table (bpc := bpX9_warmsAct) (ps := [(2, 1), (3, 4), (4, 2), (5, 1), (6, 3)]) (d := 4) dX9_warmsAct_6 rfl rfl rfl 0) (
    trivial))))),
  gm_cn 41 (gm_m_aload _) (gm_s_aload_n dX9_warmsAct_40 rfl) (
    gm_cn 43 (gm_m_push _) (gm_s_bipush dX9_warmsAct_41 rfl) (
    gm_cn 46 (gm_m_vcall _ _ _) (gcl_X9_body gw_323 dX9_warmsAct_43) (
    gm_cn 47 (gm_m_aload _) (gm_s_aload_n dX9_warmsAct_46 rfl) (
    gm_cn 48 (gm_m_iload _) (gm_s_iload_n dX9_warmsAct_47 rfl) (
    gm_cn 49 (gm_m_iload _) (gm_s_iload_n dX9_warmsAct_48 rfl) (
    gm_cn 50 (gm_m_push _) (gm_s_iconst dX9_warmsAct_49) (
    gm_cn 51 (gm_m_op2 _) (gm_s_imul dX9_warmsAct_50) (
    gm_cn 54 (gm_m_vcall _ _ _) (gcl_X9_houseWarms gw_324 dX9_warmsAct_51) (
    gm_cn 0 gm_m_iret (gm_s_iret dX9_warmsAct_54 rfl 0) (
    trivial)))))))))),
  gm_cn 56 (gm_m_aload _) (gm_s_aload_n dX9_warmsAct_55 rfl) (
    gm_cn 58 (gm_m_push _) (gm_s_bipush dX9_warmsAct_56 rfl) (
    gm_cn 61 (gm_m_vcall _ _ _) (gcl_X9_body gw_323 dX9_warmsAct_58) (
    gm_cn 62 (gm_m_aload _) (gm_s_aload_n dX9_warmsAct_61 rfl) (
    gm_cn 63 (gm_m_iload _) (gm_s_iload_n dX9_warmsAct_62 rfl) (
    gm_cn 64 (gm_m_iload _) (gm_s_iload_n dX9_warmsAct_63 rfl) (
    gm_cn 67 (gm_m_vcall _ _ _) (gcl_X9_houseWarms gw_324 dX9_warmsAct_64) (
    gm_cn 68 (gm_m_op1 _) (gm_s_ineg dX9_warmsAct_67) (
    gm_cn 0 gm_m_iret (gm_s_iret dX9_warmsAct_68 rfl 0) (
    trivial))))))))),
  gm_cn 70 (gm_m_aload _) (gm_s_aload_n dX9_warmsAct_69 rfl) (
    gm_cn 72 (gm_m_push _) (gm_s_bipush dX9_warmsAct_70 rfl) (
    gm_cn 75 (gm_m_vcall _ _ _) (gcl_X9_body gw_323 dX9_warmsAct_72) (
    gm_cn 76 (gm_m_aload _) (gm_s_aload_n dX9_warmsAct_75 rfl) (
    gm_cn 77 (gm_m_iload _) (gm_s_iload_n dX9_warmsAct_76 rfl) (
    gm_cn 78 (gm_m_iload _) (gm_s_iload_n dX9_warmsAct_77 rfl) (
    gm_cn 81 (gm_m_vcall _ _ _) (gcl_X9_houseWarms gw_324 dX9_warmsAct_78) (
    gm_cn 82 (gm_m_aload _) (gm_s_aload_n dX9_warmsAct_81 rfl) (
    gm_cn 85 (gm_m_getR _ _) (gf_getR_9_3 gw_218 dX9_warmsAct_82) (
    gm_cn 86 (gm_m_iload _) (gm_s_iload_n dX9_warmsAct_85 rfl) (
    gm_cn 87 gm_m_iald (gm_s_iald dX9_warmsAct_86) (
    gm_cn 88 (gm_m_op2 _) (gm_s_ixor dX9_warmsAct_87) (
    gm_cn 0 gm_m_iret (gm_s_iret dX9_warmsAct_88 rfl 0) (
    trivial))))))))))))),
  gm_cn 90 (gm_m_aload _) (gm_s_aload_n dX9_warmsAct_89 rfl) (
    gm_cn 91 (gm_m_iload _) (gm_s_iload_n dX9_warmsAct_90 rfl) (
    gm_cn 92 (gm_m_iload _) (gm_s_iload_n dX9_warmsAct_91 rfl) (
    gm_cn 95 (gm_m_vcall _ _ _) (gcl_X9_houseWarms gw_324 dX9_warmsAct_92) (
    gm_cn 0 gm_m_iret (gm_s_iret dX9_warmsAct_95 rfl 0) (
    trivial))))), trivial⟩
theorem dX9_houseStores_0 : decode cX9_houseStores 0 = .ok (.aload_n 0, 1) := by decide +kernel
theorem dX9_houseStores_1 : decode cX9_houseStores 1 = .ok (.bipush 11, 2) := by decide +kernel
theorem dX9_houseStores_3 : decode cX9_houseStores 3 = .ok (.invokevirtual 344, 3) := by decide +kernel
theorem dX9_houseStores_6 : decode cX9_houseStores 6 = .ok (.aload_n 0, 1) := by decide +kernel
theorem dX9_houseStores_7 : decode cX9_houseStores 7 = .ok (.iload_n 1, 1) := by decide +kernel
theorem dX9_houseStores_8 : decode cX9_houseStores 8 = .ok (.iload_n 2, 1) := by decide +kernel
theorem dX9_houseStores_9 : decode cX9_houseStores 9 = .ok (.invokevirtual 350, 3) := by decide +kernel
theorem dX9_houseStores_12 : decode cX9_houseStores 12 = .ok (.aload_n 0, 1) := by decide +kernel
theorem dX9_houseStores_13 : decode cX9_houseStores 13 = .ok (.getfield 20, 3) := by decide +kernel
theorem dX9_houseStores_16 : decode cX9_houseStores 16 = .ok (.iload_n 1, 1) := by decide +kernel
theorem dX9_houseStores_17 : decode cX9_houseStores 17 = .ok (.iaload, 1) := by decide +kernel
theorem dX9_houseStores_18 : decode cX9_houseStores 18 = .ok (.isub, 1) := by decide +kernel
theorem dX9_houseStores_19 : decode cX9_houseStores 19 = .ok (.ireturn, 1) := by decide +kernel
def pX9_houseStores : List (List gm_A) := [[(gm_aload 0), (gm_push (.inl 11)), (gm_vcall 9 169 2), (gm_aload 0), (gm_iload 1), (gm_iload 2), (gm_vcall 9 171 3), (gm_aload 0), (gm_getR 9 903), (gm_iload 1), gm_iald, (gm_op2 gm_sub), gm_iret]]
def bpX9_houseStores : Nat → Nat := fun b => ([0] : List Nat).getD b 0
set_option maxRecDepth 100000 in
theorem tX9_houseStores {D : va_G} {sz : Nat} {ad : Nat → Nat} {cA : Nat → ClassId} {xs : Int → Int} {Ln : Int} {l : Launch} : gm_SB D sz ad cA xs Ln l gm_mt cX9_houseStores "LongNoonModel" 3 false 1 bpX9_houseStores 0 pX9_houseStores :=
  ⟨gm_cn 1 (gm_m_aload _) (gm_s_aload_n dX9_houseStores_0 rfl) (
    gm_cn 3 (gm_m_push _) (gm_s_bipush dX9_houseStores_1 rfl) (
    gm_cn 6 (gm_m_vcall _ _ _) (gcl_X9_body gw_323 dX9_houseStores_3) (
    gm_cn 7 (gm_m_aload _) (gm_s_aload_n dX9_houseStores_6 rfl) (
    gm_cn 8 (gm_m_iload _) (gm_s_iload_n dX9_houseStores_7 rfl) (
    gm_cn 9 (gm_m_iload _) (gm_s_iload_n dX9_houseStores_8 rfl) (
    gm_cn 12 (gm_m_vcall _ _ _) (gcl_X9_warmsAct gw_325 dX9_houseStores_9) (
    gm_cn 13 (gm_m_aload _) (gm_s_aload_n dX9_houseStores_12 rfl) (
    gm_cn 16 (gm_m_getR _ _) (gf_getR_9_3 gw_218 dX9_houseStores_13) (
    gm_cn 17 (gm_m_iload _) (gm_s_iload_n dX9_houseStores_16 rfl) (
    gm_cn 18 gm_m_iald (gm_s_iald dX9_houseStores_17) (
    gm_cn 19 (gm_m_op2 _) (gm_s_isub dX9_houseStores_18) (
    gm_cn 0 gm_m_iret (gm_s_iret dX9_houseStores_19 rfl 0) (
    trivial))))))))))))), trivial⟩
theorem dX9_glassStores_0 : decode cX9_glassStores 0 = .ok (.aload_n 0, 1) := by decide +kernel
theorem dX9_glassStores_1 : decode cX9_glassStores 1 = .ok (.bipush 20, 2) := by decide +kernel
theorem dX9_glassStores_3 : decode cX9_glassStores 3 = .ok (.invokevirtual 344, 3) := by decide +kernel
theorem dX9_glassStores_6 : decode cX9_glassStores 6 = .ok (.aload_n 0, 1) := by decide +kernel
theorem dX9_glassStores_7 : decode cX9_glassStores 7 = .ok (.iload_n 1, 1) := by decide +kernel
theorem dX9_glassStores_8 : decode cX9_glassStores 8 = .ok (.iload_n 2, 1) := by decide +kernel
theorem dX9_glassStores_9 : decode cX9_glassStores 9 = .ok (.invokevirtual 353, 3) := by decide +kernel
theorem dX9_glassStores_12 : decode cX9_glassStores 12 = .ok (.bipush 6, 2) := by decide +kernel
theorem dX9_glassStores_14 : decode cX9_glassStores 14 = .ok (.ixor, 1) := by decide +kernel
theorem dX9_glassStores_15 : decode cX9_glassStores 15 = .ok (.ireturn, 1) := by decide +kernel
def pX9_glassStores : List (List gm_A) := [[(gm_aload 0), (gm_push (.inl 20)), (gm_vcall 9 169 2), (gm_aload 0), (gm_iload 1), (gm_iload 2), (gm_vcall 9 172 3), (gm_push (.inl 6)), (gm_op2 gm_xor), gm_iret]]
def bpX9_glassStores : Nat → Nat := fun b => ([0] : List Nat).getD b 0
set_option maxRecDepth 100000 in
theorem tX9_glassStores {D : va_G} {sz : Nat} {ad : Nat → Nat} {cA : Nat → ClassId} {xs : Int → Int} {Ln : Int} {l : Launch} : gm_SB D sz ad cA xs Ln l gm_mt cX9_glassStores "LongNoonModel" 3 false 1 bpX9_glassStores 0 pX9_glassStores :=
  ⟨gm_cn 1 (gm_m_aload _) (gm_s_aload_n dX9_glassStores_0 rfl) (
    gm_cn 3 (gm_m_push _) (gm_s_bipush dX9_glassStores_1 rfl) (
    gm_cn 6 (gm_m_vcall _ _ _) (gcl_X9_body gw_323 dX9_glassStores_3) (
    gm_cn 7 (gm_m_aload _) (gm_s_aload_n dX9_glassStores_6 rfl) (
    gm_cn 8 (gm_m_iload _) (gm_s_iload_n dX9_glassStores_7 rfl) (
    gm_cn 9 (gm_m_iload _) (gm_s_iload_n dX9_glassStores_8 rfl) (
    gm_cn 12 (gm_m_vcall _ _ _) (gcl_X9_houseStores gw_326 dX9_glassStores_9) (
    gm_cn 14 (gm_m_push _) (gm_s_bipush dX9_glassStores_12 rfl) (
    gm_cn 15 (gm_m_op2 _) (gm_s_ixor dX9_glassStores_14) (
    gm_cn 0 gm_m_iret (gm_s_iret dX9_glassStores_15 rfl 0) (
    trivial)))))))))), trivial⟩
theorem dX9_storesAct_0 : decode cX9_storesAct 0 = .ok (.aload_n 0, 1) := by decide +kernel
theorem dX9_storesAct_1 : decode cX9_storesAct 1 = .ok (.getfield 16, 3) := by decide +kernel
theorem dX9_storesAct_4 : decode cX9_storesAct 4 = .ok (.iload_n 1, 1) := by decide +kernel
theorem dX9_storesAct_5 : decode cX9_storesAct 5 = .ok (.iaload, 1) := by decide +kernel
theorem dX9_storesAct_6 : decode cX9_storesAct 6 = .ok (.lookupswitch 78 #[(1, 34), (4, 41), (6, 56)], 34) := by decide +kernel
theorem dX9_storesAct_40 : decode cX9_storesAct 40 = .ok (.aload_n 0, 1) := by decide +kernel
theorem dX9_storesAct_41 : decode cX9_storesAct 41 = .ok (.iload_n 1, 1) := by decide +kernel
theorem dX9_storesAct_42 : decode cX9_storesAct 42 = .ok (.iload_n 2, 1) := by decide +kernel
theorem dX9_storesAct_43 : decode cX9_storesAct 43 = .ok (.invokevirtual 356, 3) := by decide +kernel
theorem dX9_storesAct_46 : decode cX9_storesAct 46 = .ok (.ireturn, 1) := by decide +kernel
theorem dX9_storesAct_47 : decode cX9_storesAct 47 = .ok (.aload_n 0, 1) := by decide +kernel
theorem dX9_storesAct_48 : decode cX9_storesAct 48 = .ok (.bipush 51, 2) := by decide +kernel
theorem dX9_storesAct_50 : decode cX9_storesAct 50 = .ok (.invokevirtual 344, 3) := by decide +kernel
theorem dX9_storesAct_53 : decode cX9_storesAct 53 = .ok (.aload_n 0, 1) := by decide +kernel
theorem dX9_storesAct_54 : decode cX9_storesAct 54 = .ok (.iload_n 1, 1) := by decide +kernel
theorem dX9_storesAct_55 : decode cX9_storesAct 55 = .ok (.iload_n 2, 1) := by decide +kernel
theorem dX9_storesAct_56 : decode cX9_storesAct 56 = .ok (.iconst 1, 1) := by decide +kernel
theorem dX9_storesAct_57 : decode cX9_storesAct 57 = .ok (.iadd, 1) := by decide +kernel
theorem dX9_storesAct_58 : decode cX9_storesAct 58 = .ok (.invokevirtual 356, 3) := by decide +kernel
theorem dX9_storesAct_61 : decode cX9_storesAct 61 = .ok (.ireturn, 1) := by decide +kernel
theorem dX9_storesAct_62 : decode cX9_storesAct 62 = .ok (.aload_n 0, 1) := by decide +kernel
theorem dX9_storesAct_63 : decode cX9_storesAct 63 = .ok (.bipush 70, 2) := by decide +kernel
theorem dX9_storesAct_65 : decode cX9_storesAct 65 = .ok (.invokevirtual 344, 3) := by decide +kernel
theorem dX9_storesAct_68 : decode cX9_storesAct 68 = .ok (.aload_n 0, 1) := by decide +kernel
theorem dX9_storesAct_69 : decode cX9_storesAct 69 = .ok (.iload_n 1, 1) := by decide +kernel
theorem dX9_storesAct_70 : decode cX9_storesAct 70 = .ok (.iload_n 2, 1) := by decide +kernel
theorem dX9_storesAct_71 : decode cX9_storesAct 71 = .ok (.invokevirtual 353, 3) := by decide +kernel
theorem dX9_storesAct_74 : decode cX9_storesAct 74 = .ok (.istore_n 3, 1) := by decide +kernel
theorem dX9_storesAct_75 : decode cX9_storesAct 75 = .ok (.iload_n 3, 1) := by decide +kernel
theorem dX9_storesAct_76 : decode cX9_storesAct 76 = .ok (.aload_n 0, 1) := by decide +kernel
theorem dX9_storesAct_77 : decode cX9_storesAct 77 = .ok (.iload_n 1, 1) := by decide +kernel
theorem dX9_storesAct_78 : decode cX9_storesAct 78 = .ok (.iconst 2, 1) := by decide +kernel
theorem dX9_storesAct_79 : decode cX9_storesAct 79 = .ok (.invokevirtual 347, 3) := by decide +kernel
theorem dX9_storesAct_82 : decode cX9_storesAct 82 = .ok (.iadd, 1) := by decide +kernel
theorem dX9_storesAct_83 : decode cX9_storesAct 83 = .ok (.ireturn, 1) := by decide +kernel
theorem dX9_storesAct_84 : decode cX9_storesAct 84 = .ok (.aload_n 0, 1) := by decide +kernel
theorem dX9_storesAct_85 : decode cX9_storesAct 85 = .ok (.iload_n 1, 1) := by decide +kernel
theorem dX9_storesAct_86 : decode cX9_storesAct 86 = .ok (.iload_n 2, 1) := by decide +kernel
theorem dX9_storesAct_87 : decode cX9_storesAct 87 = .ok (.invokevirtual 353, 3) := by decide +kernel
theorem dX9_storesAct_90 : decode cX9_storesAct 90 = .ok (.ireturn, 1) := by decide +kernel
def pX9_storesAct : List (List gm_A) := [[(gm_aload 0), (gm_getR 9 902), (gm_iload 1), gm_iald, (gm_switch [(1, 1), (4, 2), (6, 3)] 4)],
  [(gm_aload 0), (gm_iload 1), (gm_iload 2), (gm_vcall 9 173 3), gm_iret],
  [(gm_aload 0), (gm_push (.inl 51)), (gm_vcall 9 169 2), (gm_aload 0), (gm_iload 1), (gm_iload 2), (gm_push (.inl 1)), (gm_op2 gm_add), (gm_vcall 9 173 3), gm_iret],
  [(gm_aload 0), (gm_push (.inl 70)), (gm_vcall 9 169 2), (gm_aload 0), (gm_iload 1), (gm_iload 2), (gm_vcall 9 172 3), (gm_istore 3), (gm_iload 3), (gm_aload 0), (gm_iload 1), (gm_push (.inl 2)), (gm_vcall 9 170 3), (gm_op2 gm_add), gm_iret],
  [(gm_aload 0), (gm_iload 1), (gm_iload 2), (gm_vcall 9 172 3), gm_iret]]
def bpX9_storesAct : Nat → Nat := fun b => ([0, 40, 47, 62, 84] : List Nat).getD b 0
set_option maxRecDepth 100000 in
theorem tX9_storesAct {D : va_G} {sz : Nat} {ad : Nat → Nat} {cA : Nat → ClassId} {xs : Int → Int} {Ln : Int} {l : Launch} : gm_SB D sz ad cA xs Ln l gm_mt cX9_storesAct "LongNoonModel" 4 false 1 bpX9_storesAct 0 pX9_storesAct :=
  ⟨gm_cn 1 (gm_m_aload _) (gm_s_aload_n dX9_storesAct_0 rfl) (
    gm_cn 4 (gm_m_getR _ _) (gf_getR_9_2 gw_217 dX9_storesAct_1) (
    gm_cn 5 (gm_m_iload _) (gm_s_iload_n dX9_storesAct_4 rfl) (
    gm_cn 6 gm_m_iald (gm_s_iald dX9_storesAct_5) (
    gm_cn 0 (gm_m_switch _ _) (gm_s_look (bpc := bpX9_storesAct) (ps := [(1, 1), (4, 2), (6, 3)]) (d := 4) dX9_storesAct_6 rfl rfl rfl 0) (
    trivial))))),
  gm_cn 41 (gm_m_aload _) (gm_s_aload_n dX9_storesAct_40 rfl) (
    gm_cn 42 (gm_m_iload _) (gm_s_iload_n dX9_storesAct_41 rfl) (
    gm_cn 43 (gm_m_iload _) (gm_s_iload_n dX9_storesAct_42 rfl) (
    gm_cn 46 (gm_m_vcall _ _ _) (gcl_X9_glassStores gw_327 dX9_storesAct_43) (
    gm_cn 0 gm_m_iret (gm_s_iret dX9_storesAct_46 rfl 0) (
    trivial))))),
  gm_cn 48 (gm_m_aload _) (gm_s_aload_n dX9_storesAct_47 rfl) (
    gm_cn 50 (gm_m_push _) (gm_s_bipush dX9_storesAct_48 rfl) (
    gm_cn 53 (gm_m_vcall _ _ _) (gcl_X9_body gw_323 dX9_storesAct_50) (
    gm_cn 54 (gm_m_aload _) (gm_s_aload_n dX9_storesAct_53 rfl) (
    gm_cn 55 (gm_m_iload _) (gm_s_iload_n dX9_storesAct_54 rfl) (
    gm_cn 56 (gm_m_iload _) (gm_s_iload_n dX9_storesAct_55 rfl) (
    gm_cn 57 (gm_m_push _) (gm_s_iconst dX9_storesAct_56) (
    gm_cn 58 (gm_m_op2 _) (gm_s_iadd dX9_storesAct_57) (
    gm_cn 61 (gm_m_vcall _ _ _) (gcl_X9_glassStores gw_327 dX9_storesAct_58) (
    gm_cn 0 gm_m_iret (gm_s_iret dX9_storesAct_61 rfl 0) (
    trivial)))))))))),
  gm_cn 63 (gm_m_aload _) (gm_s_aload_n dX9_storesAct_62 rfl) (
    gm_cn 65 (gm_m_push _) (gm_s_bipush dX9_storesAct_63 rfl) (
    gm_cn 68 (gm_m_vcall _ _ _) (gcl_X9_body gw_323 dX9_storesAct_65) (
    gm_cn 69 (gm_m_aload _) (gm_s_aload_n dX9_storesAct_68 rfl) (
    gm_cn 70 (gm_m_iload _) (gm_s_iload_n dX9_storesAct_69 rfl) (
    gm_cn 71 (gm_m_iload _) (gm_s_iload_n dX9_storesAct_70 rfl) (
    gm_cn 74 (gm_m_vcall _ _ _) (gcl_X9_houseStores gw_326 dX9_storesAct_71) (
    gm_cn 75 (gm_m_istore _) (gm_s_istore_n dX9_storesAct_74 rfl (by decide)) (
    gm_cn 76 (gm_m_iload _) (gm_s_iload_n dX9_storesAct_75 rfl) (
    gm_cn 77 (gm_m_aload _) (gm_s_aload_n dX9_storesAct_76 rfl) (
    gm_cn 78 (gm_m_iload _) (gm_s_iload_n dX9_storesAct_77 rfl) (
    gm_cn 79 (gm_m_push _) (gm_s_iconst dX9_storesAct_78) (
    gm_cn 82 (gm_m_vcall _ _ _) (gcl_X9_houseWarms gw_324 dX9_storesAct_79) (
    gm_cn 83 (gm_m_op2 _) (gm_s_iadd dX9_storesAct_82) (
    gm_cn 0 gm_m_iret (gm_s_iret dX9_storesAct_83 rfl 0) (
    trivial))))))))))))))),
  gm_cn 85 (gm_m_aload _) (gm_s_aload_n dX9_storesAct_84 rfl) (
    gm_cn 86 (gm_m_iload _) (gm_s_iload_n dX9_storesAct_85 rfl) (
    gm_cn 87 (gm_m_iload _) (gm_s_iload_n dX9_storesAct_86 rfl) (
    gm_cn 90 (gm_m_vcall _ _ _) (gcl_X9_houseStores gw_326 dX9_storesAct_87) (
    gm_cn 0 gm_m_iret (gm_s_iret dX9_storesAct_90 rfl 0) (
    trivial))))), trivial⟩
theorem dX9_houseTells_0 : decode cX9_houseTells 0 = .ok (.aload_n 0, 1) := by decide +kernel
theorem dX9_houseTells_1 : decode cX9_houseTells 1 = .ok (.bipush 12, 2) := by decide +kernel
theorem dX9_houseTells_3 : decode cX9_houseTells 3 = .ok (.invokevirtual 344, 3) := by decide +kernel
theorem dX9_houseTells_6 : decode cX9_houseTells 6 = .ok (.aload_n 0, 1) := by decide +kernel
theorem dX9_houseTells_7 : decode cX9_houseTells 7 = .ok (.iload_n 1, 1) := by decide +kernel
theorem dX9_houseTells_8 : decode cX9_houseTells 8 = .ok (.iload_n 2, 1) := by decide +kernel
theorem dX9_houseTells_9 : decode cX9_houseTells 9 = .ok (.invokevirtual 359, 3) := by decide +kernel
theorem dX9_houseTells_12 : decode cX9_houseTells 12 = .ok (.iconst 2, 1) := by decide +kernel
theorem dX9_houseTells_13 : decode cX9_houseTells 13 = .ok (.imul, 1) := by decide +kernel
theorem dX9_houseTells_14 : decode cX9_houseTells 14 = .ok (.ireturn, 1) := by decide +kernel
def pX9_houseTells : List (List gm_A) := [[(gm_aload 0), (gm_push (.inl 12)), (gm_vcall 9 169 2), (gm_aload 0), (gm_iload 1), (gm_iload 2), (gm_vcall 9 174 3), (gm_push (.inl 2)), (gm_op2 gm_mul), gm_iret]]
def bpX9_houseTells : Nat → Nat := fun b => ([0] : List Nat).getD b 0
set_option maxRecDepth 100000 in
theorem tX9_houseTells {D : va_G} {sz : Nat} {ad : Nat → Nat} {cA : Nat → ClassId} {xs : Int → Int} {Ln : Int} {l : Launch} : gm_SB D sz ad cA xs Ln l gm_mt cX9_houseTells "LongNoonModel" 3 false 1 bpX9_houseTells 0 pX9_houseTells :=
  ⟨gm_cn 1 (gm_m_aload _) (gm_s_aload_n dX9_houseTells_0 rfl) (
    gm_cn 3 (gm_m_push _) (gm_s_bipush dX9_houseTells_1 rfl) (
    gm_cn 6 (gm_m_vcall _ _ _) (gcl_X9_body gw_323 dX9_houseTells_3) (
    gm_cn 7 (gm_m_aload _) (gm_s_aload_n dX9_houseTells_6 rfl) (
    gm_cn 8 (gm_m_iload _) (gm_s_iload_n dX9_houseTells_7 rfl) (
    gm_cn 9 (gm_m_iload _) (gm_s_iload_n dX9_houseTells_8 rfl) (
    gm_cn 12 (gm_m_vcall _ _ _) (gcl_X9_storesAct gw_328 dX9_houseTells_9) (
    gm_cn 13 (gm_m_push _) (gm_s_iconst dX9_houseTells_12) (
    gm_cn 14 (gm_m_op2 _) (gm_s_imul dX9_houseTells_13) (
    gm_cn 0 gm_m_iret (gm_s_iret dX9_houseTells_14 rfl 0) (
    trivial)))))))))), trivial⟩
theorem dX9_tellsAct_0 : decode cX9_tellsAct 0 = .ok (.aload_n 0, 1) := by decide +kernel
theorem dX9_tellsAct_1 : decode cX9_tellsAct 1 = .ok (.getfield 16, 3) := by decide +kernel
theorem dX9_tellsAct_4 : decode cX9_tellsAct 4 = .ok (.iload_n 1, 1) := by decide +kernel
theorem dX9_tellsAct_5 : decode cX9_tellsAct 5 = .ok (.iaload, 1) := by decide +kernel
theorem dX9_tellsAct_6 : decode cX9_tellsAct 6 = .ok (.tableswitch 67 3 6 #[30, 67, 52, 30], 30) := by decide +kernel
theorem dX9_tellsAct_36 : decode cX9_tellsAct 36 = .ok (.aload_n 0, 1) := by decide +kernel
theorem dX9_tellsAct_37 : decode cX9_tellsAct 37 = .ok (.bipush 40, 2) := by decide +kernel
theorem dX9_tellsAct_39 : decode cX9_tellsAct 39 = .ok (.invokevirtual 344, 3) := by decide +kernel
theorem dX9_tellsAct_42 : decode cX9_tellsAct 42 = .ok (.aload_n 0, 1) := by decide +kernel
theorem dX9_tellsAct_43 : decode cX9_tellsAct 43 = .ok (.iload_n 1, 1) := by decide +kernel
theorem dX9_tellsAct_44 : decode cX9_tellsAct 44 = .ok (.iload_n 2, 1) := by decide +kernel
theorem dX9_tellsAct_45 : decode cX9_tellsAct 45 = .ok (.invokevirtual 362, 3) := by decide +kernel
theorem dX9_tellsAct_48 : decode cX9_tellsAct 48 = .ok (.istore_n 3, 1) := by decide +kernel
theorem dX9_tellsAct_49 : decode cX9_tellsAct 49 = .ok (.iload_n 3, 1) := by decide +kernel
theorem dX9_tellsAct_50 : decode cX9_tellsAct 50 = .ok (.aload_n 0, 1) := by decide +kernel
theorem dX9_tellsAct_51 : decode cX9_tellsAct 51 = .ok (.iload_n 1, 1) := by decide +kernel
theorem dX9_tellsAct_52 : decode cX9_tellsAct 52 = .ok (.iconst 1, 1) := by decide +kernel
theorem dX9_tellsAct_53 : decode cX9_tellsAct 53 = .ok (.invokevirtual 359, 3) := by decide +kernel
theorem dX9_tellsAct_56 : decode cX9_tellsAct 56 = .ok (.iadd, 1) := by decide +kernel
theorem dX9_tellsAct_57 : decode cX9_tellsAct 57 = .ok (.ireturn, 1) := by decide +kernel
theorem dX9_tellsAct_58 : decode cX9_tellsAct 58 = .ok (.aload_n 0, 1) := by decide +kernel
theorem dX9_tellsAct_59 : decode cX9_tellsAct 59 = .ok (.bipush 60, 2) := by decide +kernel
theorem dX9_tellsAct_61 : decode cX9_tellsAct 61 = .ok (.invokevirtual 344, 3) := by decide +kernel
theorem dX9_tellsAct_64 : decode cX9_tellsAct 64 = .ok (.aload_n 0, 1) := by decide +kernel
theorem dX9_tellsAct_65 : decode cX9_tellsAct 65 = .ok (.iload_n 1, 1) := by decide +kernel
theorem dX9_tellsAct_66 : decode cX9_tellsAct 66 = .ok (.iload_n 2, 1) := by decide +kernel
theorem dX9_tellsAct_67 : decode cX9_tellsAct 67 = .ok (.iload_n 1, 1) := by decide +kernel
theorem dX9_tellsAct_68 : decode cX9_tellsAct 68 = .ok (.isub, 1) := by decide +kernel
theorem dX9_tellsAct_69 : decode cX9_tellsAct 69 = .ok (.invokevirtual 362, 3) := by decide +kernel
theorem dX9_tellsAct_72 : decode cX9_tellsAct 72 = .ok (.ireturn, 1) := by decide +kernel
theorem dX9_tellsAct_73 : decode cX9_tellsAct 73 = .ok (.aload_n 0, 1) := by decide +kernel
theorem dX9_tellsAct_74 : decode cX9_tellsAct 74 = .ok (.iload_n 1, 1) := by decide +kernel
theorem dX9_tellsAct_75 : decode cX9_tellsAct 75 = .ok (.iload_n 2, 1) := by decide +kernel
theorem dX9_tellsAct_76 : decode cX9_tellsAct 76 = .ok (.invokevirtual 362, 3) := by decide +kernel
theorem dX9_tellsAct_79 : decode cX9_tellsAct 79 = .ok (.ireturn, 1) := by decide +kernel
def pX9_tellsAct : List (List gm_A) := [[(gm_aload 0), (gm_getR 9 902), (gm_iload 1), gm_iald, (gm_switch [(3, 1), (4, 3), (5, 2), (6, 1)] 3)],
  [(gm_aload 0), (gm_push (.inl 40)), (gm_vcall 9 169 2), (gm_aload 0), (gm_iload 1), (gm_iload 2), (gm_vcall 9 175 3), (gm_istore 3), (gm_iload 3), (gm_aload 0), (gm_iload 1), (gm_push (.inl 1)), (gm_vcall 9 174 3), (gm_op2 gm_add), gm_iret],
  [(gm_aload 0), (gm_push (.inl 60)), (gm_vcall 9 169 2), (gm_aload 0), (gm_iload 1), (gm_iload 2), (gm_iload 1), (gm_op2 gm_sub), (gm_vcall 9 175 3), gm_iret],
  [(gm_aload 0), (gm_iload 1), (gm_iload 2), (gm_vcall 9 175 3), gm_iret]]
def bpX9_tellsAct : Nat → Nat := fun b => ([0, 36, 58, 73] : List Nat).getD b 0
set_option maxRecDepth 100000 in
theorem tX9_tellsAct {D : va_G} {sz : Nat} {ad : Nat → Nat} {cA : Nat → ClassId} {xs : Int → Int} {Ln : Int} {l : Launch} : gm_SB D sz ad cA xs Ln l gm_mt cX9_tellsAct "LongNoonModel" 4 false 1 bpX9_tellsAct 0 pX9_tellsAct :=
  ⟨gm_cn 1 (gm_m_aload _) (gm_s_aload_n dX9_tellsAct_0 rfl) (
    gm_cn 4 (gm_m_getR _ _) (gf_getR_9_2 gw_217 dX9_tellsAct_1) (
    gm_cn 5 (gm_m_iload _) (gm_s_iload_n dX9_tellsAct_4 rfl) (
    gm_cn 6 gm_m_iald (gm_s_iald dX9_tellsAct_5) (
    gm_cn 0 (gm_m_switch _ _) (gm_s_table (bpc := bpX9_tellsAct) (ps := [(3, 1), (4, 3), (5, 2), (6, 1)]) (d := 3) dX9_tellsAct_6 rfl rfl rfl 0) (
    trivial))))),
  gm_cn 37 (gm_m_aload _) (gm_s_aload_n dX9_tellsAct_36 rfl) (
    gm_cn 39 (gm_m_push _) (gm_s_bipush dX9_tellsAct_37 rfl) (
    gm_cn 42 (gm_m_vcall _ _ _) (gcl_X9_body gw_323 dX9_tellsAct_39) (
    gm_cn 43 (gm_m_aload _) (gm_s_aload_n dX9_tellsAct_42 rfl) (
    gm_cn 44 (gm_m_iload _) (gm_s_iload_n dX9_tellsAct_43 rfl) (
    gm_cn 45 (gm_m_iload _) (gm_s_iload_n dX9_tellsAct_44 rfl) (
    gm_cn 48 (gm_m_vcall _ _ _) (gcl_X9_houseTells gw_329 dX9_tellsAct_45) (
    gm_cn 49 (gm_m_istore _) (gm_s_istore_n dX9_tellsAct_48 rfl (by decide)) (
    gm_cn 50 (gm_m_iload _) (gm_s_iload_n dX9_tellsAct_49 rfl) (
    gm_cn 51 (gm_m_aload _) (gm_s_aload_n dX9_tellsAct_50 rfl) (
    gm_cn 52 (gm_m_iload _) (gm_s_iload_n dX9_tellsAct_51 rfl) (
    gm_cn 53 (gm_m_push _) (gm_s_iconst dX9_tellsAct_52) (
    gm_cn 56 (gm_m_vcall _ _ _) (gcl_X9_storesAct gw_328 dX9_tellsAct_53) (
    gm_cn 57 (gm_m_op2 _) (gm_s_iadd dX9_tellsAct_56) (
    gm_cn 0 gm_m_iret (gm_s_iret dX9_tellsAct_57 rfl 0) (
    trivial))))))))))))))),
  gm_cn 59 (gm_m_aload _) (gm_s_aload_n dX9_tellsAct_58 rfl) (
    gm_cn 61 (gm_m_push _) (gm_s_bipush dX9_tellsAct_59 rfl) (
    gm_cn 64 (gm_m_vcall _ _ _) (gcl_X9_body gw_323 dX9_tellsAct_61) (
    gm_cn 65 (gm_m_aload _) (gm_s_aload_n dX9_tellsAct_64 rfl) (
    gm_cn 66 (gm_m_iload _) (gm_s_iload_n dX9_tellsAct_65 rfl) (
    gm_cn 67 (gm_m_iload _) (gm_s_iload_n dX9_tellsAct_66 rfl) (
    gm_cn 68 (gm_m_iload _) (gm_s_iload_n dX9_tellsAct_67 rfl) (
    gm_cn 69 (gm_m_op2 _) (gm_s_isub dX9_tellsAct_68) (
    gm_cn 72 (gm_m_vcall _ _ _) (gcl_X9_houseTells gw_329 dX9_tellsAct_69) (
    gm_cn 0 gm_m_iret (gm_s_iret dX9_tellsAct_72 rfl 0) (
    trivial)))))))))),
  gm_cn 74 (gm_m_aload _) (gm_s_aload_n dX9_tellsAct_73 rfl) (
    gm_cn 75 (gm_m_iload _) (gm_s_iload_n dX9_tellsAct_74 rfl) (
    gm_cn 76 (gm_m_iload _) (gm_s_iload_n dX9_tellsAct_75 rfl) (
    gm_cn 79 (gm_m_vcall _ _ _) (gcl_X9_houseTells gw_329 dX9_tellsAct_76) (
    gm_cn 0 gm_m_iret (gm_s_iret dX9_tellsAct_79 rfl 0) (
    trivial))))), trivial⟩
theorem dX9_act_0 : decode cX9_act 0 = .ok (.aload_n 0, 1) := by decide +kernel
theorem dX9_act_1 : decode cX9_act 1 = .ok (.iconst 0, 1) := by decide +kernel
theorem dX9_act_2 : decode cX9_act 2 = .ok (.putfield 187, 3) := by decide +kernel
theorem dX9_act_5 : decode cX9_act 5 = .ok (.aload_n 0, 1) := by decide +kernel
theorem dX9_act_6 : decode cX9_act 6 = .ok (.iload_n 1, 1) := by decide +kernel
theorem dX9_act_7 : decode cX9_act 7 = .ok (.invokevirtual 210, 3) := by decide +kernel
theorem dX9_act_10 : decode cX9_act 10 = .ok (.ifCond .eq 13, 3) := by decide +kernel
theorem dX9_act_13 : decode cX9_act 13 = .ok (.aload_n 0, 1) := by decide +kernel
theorem dX9_act_14 : decode cX9_act 14 = .ok (.iload_n 2, 1) := by decide +kernel
theorem dX9_act_15 : decode cX9_act 15 = .ok (.iconst 0, 1) := by decide +kernel
theorem dX9_act_16 : decode cX9_act 16 = .ok (.iconst 2, 1) := by decide +kernel
theorem dX9_act_17 : decode cX9_act 17 = .ok (.invokevirtual 206, 3) := by decide +kernel
theorem dX9_act_20 : decode cX9_act 20 = .ok (.ifCond .ne 5, 3) := by decide +kernel
theorem dX9_act_23 : decode cX9_act 23 = .ok (.iconst 0, 1) := by decide +kernel
theorem dX9_act_24 : decode cX9_act 24 = .ok (.ireturn, 1) := by decide +kernel
theorem dX9_act_25 : decode cX9_act 25 = .ok (.iload_n 2, 1) := by decide +kernel
theorem dX9_act_26 : decode cX9_act 26 = .ok (.ifCond .ne 12, 3) := by decide +kernel
theorem dX9_act_29 : decode cX9_act 29 = .ok (.aload_n 0, 1) := by decide +kernel
theorem dX9_act_30 : decode cX9_act 30 = .ok (.iload_n 1, 1) := by decide +kernel
theorem dX9_act_31 : decode cX9_act 31 = .ok (.iload_n 3, 1) := by decide +kernel
theorem dX9_act_32 : decode cX9_act 32 = .ok (.invokevirtual 350, 3) := by decide +kernel
theorem dX9_act_35 : decode cX9_act 35 = .ok (.goto 23, 3) := by decide +kernel
theorem dX9_act_38 : decode cX9_act 38 = .ok (.iload_n 2, 1) := by decide +kernel
theorem dX9_act_39 : decode cX9_act 39 = .ok (.iconst 1, 1) := by decide +kernel
theorem dX9_act_40 : decode cX9_act 40 = .ok (.if_icmp .ne 12, 3) := by decide +kernel
theorem dX9_act_43 : decode cX9_act 43 = .ok (.aload_n 0, 1) := by decide +kernel
theorem dX9_act_44 : decode cX9_act 44 = .ok (.iload_n 1, 1) := by decide +kernel
theorem dX9_act_45 : decode cX9_act 45 = .ok (.iload_n 3, 1) := by decide +kernel
theorem dX9_act_46 : decode cX9_act 46 = .ok (.invokevirtual 359, 3) := by decide +kernel
theorem dX9_act_49 : decode cX9_act 49 = .ok (.goto 9, 3) := by decide +kernel
theorem dX9_act_52 : decode cX9_act 52 = .ok (.aload_n 0, 1) := by decide +kernel
theorem dX9_act_53 : decode cX9_act 53 = .ok (.iload_n 1, 1) := by decide +kernel
theorem dX9_act_54 : decode cX9_act 54 = .ok (.iload_n 3, 1) := by decide +kernel
theorem dX9_act_55 : decode cX9_act 55 = .ok (.invokevirtual 365, 3) := by decide +kernel
theorem dX9_act_58 : decode cX9_act 58 = .ok (.ireturn, 1) := by decide +kernel
def pX9_act : List (List gm_A) := [[(gm_aload 0), (gm_push (.inl 0)), (gm_putI 9 958), (gm_aload 0), (gm_iload 1), (gm_vcall 9 101 2), (gm_ifeq 1), (gm_aload 0), (gm_iload 2), (gm_push (.inl 0)), (gm_push (.inl 2)), (gm_vcall 9 100 4), (gm_ifne 2), (gm_goto 1)],
  [(gm_push (.inl 0)), gm_iret],
  [(gm_iload 2), (gm_ifne 3), (gm_aload 0), (gm_iload 1), (gm_iload 3), (gm_vcall 9 171 3), (gm_goto 5)],
  [(gm_iload 2), (gm_push (.inl 1)), (gm_cne 4), (gm_aload 0), (gm_iload 1), (gm_iload 3), (gm_vcall 9 174 3), (gm_goto 5)],
  [(gm_aload 0), (gm_iload 1), (gm_iload 3), (gm_vcall 9 176 3), (gm_goto 5)],
  [gm_iret]]
def bpX9_act : Nat → Nat := fun b => ([0, 23, 25, 38, 52, 58] : List Nat).getD b 0
set_option maxRecDepth 100000 in
theorem tX9_act {D : va_G} {sz : Nat} {ad : Nat → Nat} {cA : Nat → ClassId} {xs : Int → Int} {Ln : Int} {l : Launch} : gm_SB D sz ad cA xs Ln l gm_mt cX9_act "LongNoonModel" 4 false 1 bpX9_act 0 pX9_act :=
  ⟨gm_cn 1 (gm_m_aload _) (gm_s_aload_n dX9_act_0 rfl) (
    gm_cn 2 (gm_m_push _) (gm_s_iconst dX9_act_1) (
    gm_cn 5 (gm_m_putI _ _) (gf_putI_9_58 gw_274 dX9_act_2) (
    gm_cn 6 (gm_m_aload _) (gm_s_aload_n dX9_act_5 rfl) (
    gm_cn 7 (gm_m_iload _) (gm_s_iload_n dX9_act_6 rfl) (
    gm_cn 10 (gm_m_vcall _ _ _) (gcl_X9_isHouse gw_281 dX9_act_7) (
    gm_cn 13 (gm_m_ifeq _) (gm_s_ifeq (bpc := bpX9_act) (b := 1) dX9_act_10 rfl) (
    gm_cn 14 (gm_m_aload _) (gm_s_aload_n dX9_act_13 rfl) (
    gm_cn 15 (gm_m_iload _) (gm_s_iload_n dX9_act_14 rfl) (
    gm_cn 16 (gm_m_push _) (gm_s_iconst dX9_act_15) (
    gm_cn 17 (gm_m_push _) (gm_s_iconst dX9_act_16) (
    gm_cn 20 (gm_m_vcall _ _ _) (gcl_X9_in gw_280 dX9_act_17) (
    gm_cn 23 (gm_m_ifne _) (gm_s_ifne (bpc := bpX9_act) (b := 2) dX9_act_20 rfl) (
    gm_cn 0 (gm_m_goto _) (gm_s_fall (bpc := bpX9_act) (b := 1) rfl 0) (
    trivial)))))))))))))),
  gm_cn 24 (gm_m_push _) (gm_s_iconst dX9_act_23) (
    gm_cn 0 gm_m_iret (gm_s_iret dX9_act_24 rfl 0) (
    trivial)),
  gm_cn 26 (gm_m_iload _) (gm_s_iload_n dX9_act_25 rfl) (
    gm_cn 29 (gm_m_ifne _) (gm_s_ifne (bpc := bpX9_act) (b := 3) dX9_act_26 rfl) (
    gm_cn 30 (gm_m_aload _) (gm_s_aload_n dX9_act_29 rfl) (
    gm_cn 31 (gm_m_iload _) (gm_s_iload_n dX9_act_30 rfl) (
    gm_cn 32 (gm_m_iload _) (gm_s_iload_n dX9_act_31 rfl) (
    gm_cn 35 (gm_m_vcall _ _ _) (gcl_X9_warmsAct gw_325 dX9_act_32) (
    gm_cn 0 (gm_m_goto _) (gm_s_goto (bpc := bpX9_act) (b := 5) dX9_act_35 rfl 0) (
    trivial))))))),
  gm_cn 39 (gm_m_iload _) (gm_s_iload_n dX9_act_38 rfl) (
    gm_cn 40 (gm_m_push _) (gm_s_iconst dX9_act_39) (
    gm_cn 43 (gm_m_cne _) (gm_s_cne (bpc := bpX9_act) (b := 4) dX9_act_40 rfl) (
    gm_cn 44 (gm_m_aload _) (gm_s_aload_n dX9_act_43 rfl) (
    gm_cn 45 (gm_m_iload _) (gm_s_iload_n dX9_act_44 rfl) (
    gm_cn 46 (gm_m_iload _) (gm_s_iload_n dX9_act_45 rfl) (
    gm_cn 49 (gm_m_vcall _ _ _) (gcl_X9_storesAct gw_328 dX9_act_46) (
    gm_cn 0 (gm_m_goto _) (gm_s_goto (bpc := bpX9_act) (b := 5) dX9_act_49 rfl 0) (
    trivial)))))))),
  gm_cn 53 (gm_m_aload _) (gm_s_aload_n dX9_act_52 rfl) (
    gm_cn 54 (gm_m_iload _) (gm_s_iload_n dX9_act_53 rfl) (
    gm_cn 55 (gm_m_iload _) (gm_s_iload_n dX9_act_54 rfl) (
    gm_cn 58 (gm_m_vcall _ _ _) (gcl_X9_tellsAct gw_330 dX9_act_55) (
    gm_cn 0 (gm_m_goto _) (gm_s_fall (bpc := bpX9_act) (b := 5) rfl 0) (
    trivial))))),
  gm_cn 0 gm_m_iret (gm_s_iret dX9_act_58 rfl 0) (
    trivial), trivial⟩
theorem dX9_trace_0 : decode cX9_trace 0 = .ok (.aload_n 0, 1) := by decide +kernel
theorem dX9_trace_1 : decode cX9_trace 1 = .ok (.iload_n 1, 1) := by decide +kernel
theorem dX9_trace_2 : decode cX9_trace 2 = .ok (.iconst 0, 1) := by decide +kernel
theorem dX9_trace_3 : decode cX9_trace 3 = .ok (.bipush 19, 2) := by decide +kernel
theorem dX9_trace_5 : decode cX9_trace 5 = .ok (.invokevirtual 206, 3) := by decide +kernel
theorem dX9_trace_8 : decode cX9_trace 8 = .ok (.ifCond .eq 20, 3) := by decide +kernel
theorem dX9_trace_11 : decode cX9_trace 11 = .ok (.iload_n 1, 1) := by decide +kernel
theorem dX9_trace_12 : decode cX9_trace 12 = .ok (.aload_n 0, 1) := by decide +kernel
theorem dX9_trace_13 : decode cX9_trace 13 = .ok (.getfield 187, 3) := by decide +kernel
theorem dX9_trace_16 : decode cX9_trace 16 = .ok (.if_icmp .ge 12, 3) := by decide +kernel
theorem dX9_trace_19 : decode cX9_trace 19 = .ok (.aload_n 0, 1) := by decide +kernel
theorem dX9_trace_20 : decode cX9_trace 20 = .ok (.getfield 190, 3) := by decide +kernel
theorem dX9_trace_23 : decode cX9_trace 23 = .ok (.iload_n 1, 1) := by decide +kernel
theorem dX9_trace_24 : decode cX9_trace 24 = .ok (.iaload, 1) := by decide +kernel
theorem dX9_trace_25 : decode cX9_trace 25 = .ok (.goto 4, 3) := by decide +kernel
theorem dX9_trace_28 : decode cX9_trace 28 = .ok (.iconst (-1), 1) := by decide +kernel
theorem dX9_trace_29 : decode cX9_trace 29 = .ok (.ireturn, 1) := by decide +kernel
def pX9_trace : List (List gm_A) := [[(gm_aload 0), (gm_iload 1), (gm_push (.inl 0)), (gm_push (.inl 19)), (gm_vcall 9 100 4), (gm_ifeq 1), (gm_iload 1), (gm_aload 0), (gm_getI 9 958), (gm_cge 1), (gm_aload 0), (gm_getR 9 959), (gm_iload 1), gm_iald, (gm_goto 2)],
  [(gm_push (.inl (-1))), (gm_goto 2)],
  [gm_iret]]
def bpX9_trace : Nat → Nat := fun b => ([0, 28, 29] : List Nat).getD b 0
set_option maxRecDepth 100000 in
theorem tX9_trace {D : va_G} {sz : Nat} {ad : Nat → Nat} {cA : Nat → ClassId} {xs : Int → Int} {Ln : Int} {l : Launch} : gm_SB D sz ad cA xs Ln l gm_mt cX9_trace "LongNoonModel" 2 false 1 bpX9_trace 0 pX9_trace :=
  ⟨gm_cn 1 (gm_m_aload _) (gm_s_aload_n dX9_trace_0 rfl) (
    gm_cn 2 (gm_m_iload _) (gm_s_iload_n dX9_trace_1 rfl) (
    gm_cn 3 (gm_m_push _) (gm_s_iconst dX9_trace_2) (
    gm_cn 5 (gm_m_push _) (gm_s_bipush dX9_trace_3 rfl) (
    gm_cn 8 (gm_m_vcall _ _ _) (gcl_X9_in gw_280 dX9_trace_5) (
    gm_cn 11 (gm_m_ifeq _) (gm_s_ifeq (bpc := bpX9_trace) (b := 1) dX9_trace_8 rfl) (
    gm_cn 12 (gm_m_iload _) (gm_s_iload_n dX9_trace_11 rfl) (
    gm_cn 13 (gm_m_aload _) (gm_s_aload_n dX9_trace_12 rfl) (
    gm_cn 16 (gm_m_getI _ _) (gf_getI_9_58 gw_274 dX9_trace_13) (
    gm_cn 19 (gm_m_cge _) (gm_s_cge (bpc := bpX9_trace) (b := 1) dX9_trace_16 rfl) (
    gm_cn 20 (gm_m_aload _) (gm_s_aload_n dX9_trace_19 rfl) (
    gm_cn 23 (gm_m_getR _ _) (gf_getR_9_59 gw_275 dX9_trace_20) (
    gm_cn 24 (gm_m_iload _) (gm_s_iload_n dX9_trace_23 rfl) (
    gm_cn 25 gm_m_iald (gm_s_iald dX9_trace_24) (
    gm_cn 0 (gm_m_goto _) (gm_s_goto (bpc := bpX9_trace) (b := 2) dX9_trace_25 rfl 0) (
    trivial))))))))))))))),
  gm_cn 29 (gm_m_push _) (gm_s_iconst dX9_trace_28) (
    gm_cn 0 (gm_m_goto _) (gm_s_fall (bpc := bpX9_trace) (b := 2) rfl 0) (
    trivial)),
  gm_cn 0 gm_m_iret (gm_s_iret dX9_trace_29 rfl 0) (
    trivial), trivial⟩
theorem dX9_taken_0 : decode cX9_taken 0 = .ok (.aload_n 0, 1) := by decide +kernel
theorem dX9_taken_1 : decode cX9_taken 1 = .ok (.iload_n 2, 1) := by decide +kernel
theorem dX9_taken_2 : decode cX9_taken 2 = .ok (.iconst 0, 1) := by decide +kernel
theorem dX9_taken_3 : decode cX9_taken 3 = .ok (.bipush 6, 2) := by decide +kernel
theorem dX9_taken_5 : decode cX9_taken 5 = .ok (.invokevirtual 206, 3) := by decide +kernel
theorem dX9_taken_8 : decode cX9_taken 8 = .ok (.ifCond .ne 6, 3) := by decide +kernel
theorem dX9_taken_11 : decode cX9_taken 11 = .ok (.bipush (-2), 2) := by decide +kernel
theorem dX9_taken_13 : decode cX9_taken 13 = .ok (.ireturn, 1) := by decide +kernel
theorem dX9_taken_14 : decode cX9_taken 14 = .ok (.aload_n 0, 1) := by decide +kernel
theorem dX9_taken_15 : decode cX9_taken 15 = .ok (.iload_n 1, 1) := by decide +kernel
theorem dX9_taken_16 : decode cX9_taken 16 = .ok (.invokevirtual 210, 3) := by decide +kernel
theorem dX9_taken_19 : decode cX9_taken 19 = .ok (.ifCond .ne 6, 3) := by decide +kernel
theorem dX9_taken_22 : decode cX9_taken 22 = .ok (.bipush (-11), 2) := by decide +kernel
theorem dX9_taken_24 : decode cX9_taken 24 = .ok (.ireturn, 1) := by decide +kernel
theorem dX9_taken_25 : decode cX9_taken 25 = .ok (.aload_n 0, 1) := by decide +kernel
theorem dX9_taken_26 : decode cX9_taken 26 = .ok (.getfield 16, 3) := by decide +kernel
theorem dX9_taken_29 : decode cX9_taken 29 = .ok (.iload_n 1, 1) := by decide +kernel
theorem dX9_taken_30 : decode cX9_taken 30 = .ok (.iaload, 1) := by decide +kernel
theorem dX9_taken_31 : decode cX9_taken 31 = .ok (.istore_n 3, 1) := by decide +kernel
theorem dX9_taken_32 : decode cX9_taken 32 = .ok (.iload_n 2, 1) := by decide +kernel
theorem dX9_taken_33 : decode cX9_taken 33 = .ok (.ifCond .eq 39, 3) := by decide +kernel
theorem dX9_taken_36 : decode cX9_taken 36 = .ok (.iload_n 3, 1) := by decide +kernel
theorem dX9_taken_37 : decode cX9_taken 37 = .ok (.iload_n 2, 1) := by decide +kernel
theorem dX9_taken_38 : decode cX9_taken 38 = .ok (.if_icmp .eq 34, 3) := by decide +kernel
theorem dX9_taken_41 : decode cX9_taken 41 = .ok (.iload_n 2, 1) := by decide +kernel
theorem dX9_taken_42 : decode cX9_taken 42 = .ok (.iconst 1, 1) := by decide +kernel
theorem dX9_taken_43 : decode cX9_taken 43 = .ok (.if_icmp .ne 8, 3) := by decide +kernel
theorem dX9_taken_46 : decode cX9_taken 46 = .ok (.iload_n 3, 1) := by decide +kernel
theorem dX9_taken_47 : decode cX9_taken 47 = .ok (.iconst 4, 1) := by decide +kernel
theorem dX9_taken_48 : decode cX9_taken 48 = .ok (.if_icmp .eq 24, 3) := by decide +kernel
theorem dX9_taken_51 : decode cX9_taken 51 = .ok (.iload_n 2, 1) := by decide +kernel
theorem dX9_taken_52 : decode cX9_taken 52 = .ok (.iconst 2, 1) := by decide +kernel
theorem dX9_taken_53 : decode cX9_taken 53 = .ok (.if_icmp .ne 8, 3) := by decide +kernel
theorem dX9_taken_56 : decode cX9_taken 56 = .ok (.iload_n 3, 1) := by decide +kernel
theorem dX9_taken_57 : decode cX9_taken 57 = .ok (.iconst 5, 1) := by decide +kernel
theorem dX9_taken_58 : decode cX9_taken 58 = .ok (.if_icmp .eq 14, 3) := by decide +kernel
theorem dX9_taken_61 : decode cX9_taken 61 = .ok (.iload_n 2, 1) := by decide +kernel
theorem dX9_taken_62 : decode cX9_taken 62 = .ok (.iconst 3, 1) := by decide +kernel
theorem dX9_taken_63 : decode cX9_taken 63 = .ok (.if_icmp .ne 13, 3) := by decide +kernel
theorem dX9_taken_66 : decode cX9_taken 66 = .ok (.iload_n 3, 1) := by decide +kernel
theorem dX9_taken_67 : decode cX9_taken 67 = .ok (.bipush 6, 2) := by decide +kernel
theorem dX9_taken_69 : decode cX9_taken 69 = .ok (.if_icmp .ne 7, 3) := by decide +kernel
theorem dX9_taken_72 : decode cX9_taken 72 = .ok (.iload_n 3, 1) := by decide +kernel
theorem dX9_taken_73 : decode cX9_taken 73 = .ok (.goto 5, 3) := by decide +kernel
theorem dX9_taken_76 : decode cX9_taken 76 = .ok (.bipush (-12), 2) := by decide +kernel
theorem dX9_taken_78 : decode cX9_taken 78 = .ok (.ireturn, 1) := by decide +kernel
def pX9_taken : List (List gm_A) := [[(gm_aload 0), (gm_iload 2), (gm_push (.inl 0)), (gm_push (.inl 6)), (gm_vcall 9 100 4), (gm_ifne 1), (gm_push (.inl (-2))), gm_iret],
  [(gm_aload 0), (gm_iload 1), (gm_vcall 9 101 2), (gm_ifne 2), (gm_push (.inl (-11))), gm_iret],
  [(gm_aload 0), (gm_getR 9 902), (gm_iload 1), gm_iald, (gm_istore 3), (gm_iload 2), (gm_ifeq 5), (gm_iload 3), (gm_iload 2), (gm_ceq 5), (gm_iload 2), (gm_push (.inl 1)), (gm_cne 3), (gm_iload 3), (gm_push (.inl 4)), (gm_ceq 5), (gm_goto 3)],
  [(gm_iload 2), (gm_push (.inl 2)), (gm_cne 4), (gm_iload 3), (gm_push (.inl 5)), (gm_ceq 5), (gm_goto 4)],
  [(gm_iload 2), (gm_push (.inl 3)), (gm_cne 6), (gm_iload 3), (gm_push (.inl 6)), (gm_cne 6), (gm_goto 5)],
  [(gm_iload 3), (gm_goto 7)],
  [(gm_push (.inl (-12))), (gm_goto 7)],
  [gm_iret]]
def bpX9_taken : Nat → Nat := fun b => ([0, 14, 25, 51, 61, 72, 76, 78] : List Nat).getD b 0
set_option maxRecDepth 100000 in
theorem tX9_taken {D : va_G} {sz : Nat} {ad : Nat → Nat} {cA : Nat → ClassId} {xs : Int → Int} {Ln : Int} {l : Launch} : gm_SB D sz ad cA xs Ln l gm_mt cX9_taken "LongNoonModel" 4 false 1 bpX9_taken 0 pX9_taken :=
  ⟨gm_cn 1 (gm_m_aload _) (gm_s_aload_n dX9_taken_0 rfl) (
    gm_cn 2 (gm_m_iload _) (gm_s_iload_n dX9_taken_1 rfl) (
    gm_cn 3 (gm_m_push _) (gm_s_iconst dX9_taken_2) (
    gm_cn 5 (gm_m_push _) (gm_s_bipush dX9_taken_3 rfl) (
    gm_cn 8 (gm_m_vcall _ _ _) (gcl_X9_in gw_280 dX9_taken_5) (
    gm_cn 11 (gm_m_ifne _) (gm_s_ifne (bpc := bpX9_taken) (b := 1) dX9_taken_8 rfl) (
    gm_cn 13 (gm_m_push _) (gm_s_bipush dX9_taken_11 rfl) (
    gm_cn 0 gm_m_iret (gm_s_iret dX9_taken_13 rfl 0) (
    trivial)))))))),
  gm_cn 15 (gm_m_aload _) (gm_s_aload_n dX9_taken_14 rfl) (
    gm_cn 16 (gm_m_iload _) (gm_s_iload_n dX9_taken_15 rfl) (
    gm_cn 19 (gm_m_vcall _ _ _) (gcl_X9_isHouse gw_281 dX9_taken_16) (
    gm_cn 22 (gm_m_ifne _) (gm_s_ifne (bpc := bpX9_taken) (b := 2) dX9_taken_19 rfl) (
    gm_cn 24 (gm_m_push _) (gm_s_bipush dX9_taken_22 rfl) (
    gm_cn 0 gm_m_iret (gm_s_iret dX9_taken_24 rfl 0) (
    trivial)))))),
  gm_cn 26 (gm_m_aload _) (gm_s_aload_n dX9_taken_25 rfl) (
    gm_cn 29 (gm_m_getR _ _) (gf_getR_9_2 gw_217 dX9_taken_26) (
    gm_cn 30 (gm_m_iload _) (gm_s_iload_n dX9_taken_29 rfl) (
    gm_cn 31 gm_m_iald (gm_s_iald dX9_taken_30) (
    gm_cn 32 (gm_m_istore _) (gm_s_istore_n dX9_taken_31 rfl (by decide)) (
    gm_cn 33 (gm_m_iload _) (gm_s_iload_n dX9_taken_32 rfl) (
    gm_cn 36 (gm_m_ifeq _) (gm_s_ifeq (bpc := bpX9_taken) (b := 5) dX9_taken_33 rfl) (
    gm_cn 37 (gm_m_iload _) (gm_s_iload_n dX9_taken_36 rfl) (
    gm_cn 38 (gm_m_iload _) (gm_s_iload_n dX9_taken_37 rfl) (
    gm_cn 41 (gm_m_ceq _) (gm_s_ceq (bpc := bpX9_taken) (b := 5) dX9_taken_38 rfl) (
    gm_cn 42 (gm_m_iload _) (gm_s_iload_n dX9_taken_41 rfl) (
    gm_cn 43 (gm_m_push _) (gm_s_iconst dX9_taken_42) (
    gm_cn 46 (gm_m_cne _) (gm_s_cne (bpc := bpX9_taken) (b := 3) dX9_taken_43 rfl) (
    gm_cn 47 (gm_m_iload _) (gm_s_iload_n dX9_taken_46 rfl) (
    gm_cn 48 (gm_m_push _) (gm_s_iconst dX9_taken_47) (
    gm_cn 51 (gm_m_ceq _) (gm_s_ceq (bpc := bpX9_taken) (b := 5) dX9_taken_48 rfl) (
    gm_cn 0 (gm_m_goto _) (gm_s_fall (bpc := bpX9_taken) (b := 3) rfl 0) (
    trivial))))))))))))))))),
  gm_cn 52 (gm_m_iload _) (gm_s_iload_n dX9_taken_51 rfl) (
    gm_cn 53 (gm_m_push _) (gm_s_iconst dX9_taken_52) (
    gm_cn 56 (gm_m_cne _) (gm_s_cne (bpc := bpX9_taken) (b := 4) dX9_taken_53 rfl) (
    gm_cn 57 (gm_m_iload _) (gm_s_iload_n dX9_taken_56 rfl) (
    gm_cn 58 (gm_m_push _) (gm_s_iconst dX9_taken_57) (
    gm_cn 61 (gm_m_ceq _) (gm_s_ceq (bpc := bpX9_taken) (b := 5) dX9_taken_58 rfl) (
    gm_cn 0 (gm_m_goto _) (gm_s_fall (bpc := bpX9_taken) (b := 4) rfl 0) (
    trivial))))))),
  gm_cn 62 (gm_m_iload _) (gm_s_iload_n dX9_taken_61 rfl) (
    gm_cn 63 (gm_m_push _) (gm_s_iconst dX9_taken_62) (
    gm_cn 66 (gm_m_cne _) (gm_s_cne (bpc := bpX9_taken) (b := 6) dX9_taken_63 rfl) (
    gm_cn 67 (gm_m_iload _) (gm_s_iload_n dX9_taken_66 rfl) (
    gm_cn 69 (gm_m_push _) (gm_s_bipush dX9_taken_67 rfl) (
    gm_cn 72 (gm_m_cne _) (gm_s_cne (bpc := bpX9_taken) (b := 6) dX9_taken_69 rfl) (
    gm_cn 0 (gm_m_goto _) (gm_s_fall (bpc := bpX9_taken) (b := 5) rfl 0) (
    trivial))))))),
  gm_cn 73 (gm_m_iload _) (gm_s_iload_n dX9_taken_72 rfl) (
    gm_cn 0 (gm_m_goto _) (gm_s_goto (bpc := bpX9_taken) (b := 7) dX9_taken_73 rfl 0) (
    trivial)),
  gm_cn 78 (gm_m_push _) (gm_s_bipush dX9_taken_76 rfl) (
    gm_cn 0 (gm_m_goto _) (gm_s_fall (bpc := bpX9_taken) (b := 7) rfl 0) (
    trivial)),
  gm_cn 0 gm_m_iret (gm_s_iret dX9_taken_78 rfl 0) (
    trivial), trivial⟩
theorem dX9_count_0 : decode cX9_count 0 = .ok (.iload_n 1, 1) := by decide +kernel
theorem dX9_count_1 : decode cX9_count 1 = .ok (.tableswitch 69 0 5 #[39, 44, 49, 54, 59, 64], 39) := by decide +kernel
theorem dX9_count_40 : decode cX9_count 40 = .ok (.aload_n 0, 1) := by decide +kernel
theorem dX9_count_41 : decode cX9_count 41 = .ok (.getfield 7, 3) := by decide +kernel
theorem dX9_count_44 : decode cX9_count 44 = .ok (.ireturn, 1) := by decide +kernel
theorem dX9_count_45 : decode cX9_count 45 = .ok (.aload_n 0, 1) := by decide +kernel
theorem dX9_count_46 : decode cX9_count 46 = .ok (.getfield 38, 3) := by decide +kernel
theorem dX9_count_49 : decode cX9_count 49 = .ok (.ireturn, 1) := by decide +kernel
theorem dX9_count_50 : decode cX9_count 50 = .ok (.aload_n 0, 1) := by decide +kernel
theorem dX9_count_51 : decode cX9_count 51 = .ok (.getfield 117, 3) := by decide +kernel
theorem dX9_count_54 : decode cX9_count 54 = .ok (.ireturn, 1) := by decide +kernel
theorem dX9_count_55 : decode cX9_count 55 = .ok (.aload_n 0, 1) := by decide +kernel
theorem dX9_count_56 : decode cX9_count 56 = .ok (.getfield 129, 3) := by decide +kernel
theorem dX9_count_59 : decode cX9_count 59 = .ok (.ireturn, 1) := by decide +kernel
theorem dX9_count_60 : decode cX9_count 60 = .ok (.aload_n 0, 1) := by decide +kernel
theorem dX9_count_61 : decode cX9_count 61 = .ok (.getfield 44, 3) := by decide +kernel
theorem dX9_count_64 : decode cX9_count 64 = .ok (.ireturn, 1) := by decide +kernel
theorem dX9_count_65 : decode cX9_count 65 = .ok (.aload_n 0, 1) := by decide +kernel
theorem dX9_count_66 : decode cX9_count 66 = .ok (.getfield 187, 3) := by decide +kernel
theorem dX9_count_69 : decode cX9_count 69 = .ok (.ireturn, 1) := by decide +kernel
theorem dX9_count_70 : decode cX9_count 70 = .ok (.bipush (-2), 2) := by decide +kernel
theorem dX9_count_72 : decode cX9_count 72 = .ok (.ireturn, 1) := by decide +kernel
def pX9_count : List (List gm_A) := [[(gm_iload 1), (gm_switch [(0, 1), (1, 2), (2, 3), (3, 4), (4, 5), (5, 6)] 7)],
  [(gm_aload 0), (gm_getI 9 900), gm_iret],
  [(gm_aload 0), (gm_getI 9 909), gm_iret],
  [(gm_aload 0), (gm_getI 9 935), gm_iret],
  [(gm_aload 0), (gm_getI 9 939), gm_iret],
  [(gm_aload 0), (gm_getI 9 911), gm_iret],
  [(gm_aload 0), (gm_getI 9 958), gm_iret],
  [(gm_push (.inl (-2))), gm_iret]]
def bpX9_count : Nat → Nat := fun b => ([0, 40, 45, 50, 55, 60, 65, 70] : List Nat).getD b 0
set_option maxRecDepth 100000 in
theorem tX9_count {D : va_G} {sz : Nat} {ad : Nat → Nat} {cA : Nat → ClassId} {xs : Int → Int} {Ln : Int} {l : Launch} : gm_SB D sz ad cA xs Ln l gm_mt cX9_count "LongNoonModel" 2 false 1 bpX9_count 0 pX9_count :=
  ⟨gm_cn 1 (gm_m_iload _) (gm_s_iload_n dX9_count_0 rfl) (
    gm_cn 0 (gm_m_switch _ _) (gm_s_table (bpc := bpX9_count) (ps := [(0, 1), (1, 2), (2, 3), (3, 4), (4, 5), (5, 6)]) (d := 7) dX9_count_1 rfl rfl rfl 0) (
    trivial)),
  gm_cn 41 (gm_m_aload _) (gm_s_aload_n dX9_count_40 rfl) (
    gm_cn 44 (gm_m_getI _ _) (gf_getI_9_0 gw_215 dX9_count_41) (
    gm_cn 0 gm_m_iret (gm_s_iret dX9_count_44 rfl 0) (
    trivial))),
  gm_cn 46 (gm_m_aload _) (gm_s_aload_n dX9_count_45 rfl) (
    gm_cn 49 (gm_m_getI _ _) (gf_getI_9_9 gw_224 dX9_count_46) (
    gm_cn 0 gm_m_iret (gm_s_iret dX9_count_49 rfl 0) (
    trivial))),
  gm_cn 51 (gm_m_aload _) (gm_s_aload_n dX9_count_50 rfl) (
    gm_cn 54 (gm_m_getI _ _) (gf_getI_9_35 gw_251 dX9_count_51) (
    gm_cn 0 gm_m_iret (gm_s_iret dX9_count_54 rfl 0) (
    trivial))),
  gm_cn 56 (gm_m_aload _) (gm_s_aload_n dX9_count_55 rfl) (
    gm_cn 59 (gm_m_getI _ _) (gf_getI_9_39 gw_255 dX9_count_56) (
    gm_cn 0 gm_m_iret (gm_s_iret dX9_count_59 rfl 0) (
    trivial))),
  gm_cn 61 (gm_m_aload _) (gm_s_aload_n dX9_count_60 rfl) (
    gm_cn 64 (gm_m_getI _ _) (gf_getI_9_11 gw_226 dX9_count_61) (
    gm_cn 0 gm_m_iret (gm_s_iret dX9_count_64 rfl 0) (
    trivial))),
  gm_cn 66 (gm_m_aload _) (gm_s_aload_n dX9_count_65 rfl) (
    gm_cn 69 (gm_m_getI _ _) (gf_getI_9_58 gw_274 dX9_count_66) (
    gm_cn 0 gm_m_iret (gm_s_iret dX9_count_69 rfl 0) (
    trivial))),
  gm_cn 72 (gm_m_push _) (gm_s_bipush dX9_count_70 rfl) (
    gm_cn 0 gm_m_iret (gm_s_iret dX9_count_72 rfl 0) (
    trivial)), trivial⟩
theorem dX9_isTape_0 : decode cX9_isTape 0 = .ok (.aload_n 0, 1) := by decide +kernel
theorem dX9_isTape_1 : decode cX9_isTape 1 = .ok (.iload_n 1, 1) := by decide +kernel
theorem dX9_isTape_2 : decode cX9_isTape 2 = .ok (.iconst 0, 1) := by decide +kernel
theorem dX9_isTape_3 : decode cX9_isTape 3 = .ok (.iconst 5, 1) := by decide +kernel
theorem dX9_isTape_4 : decode cX9_isTape 4 = .ok (.invokevirtual 206, 3) := by decide +kernel
theorem dX9_isTape_7 : decode cX9_isTape 7 = .ok (.ireturn, 1) := by decide +kernel
def pX9_isTape : List (List gm_A) := [[(gm_aload 0), (gm_iload 1), (gm_push (.inl 0)), (gm_push (.inl 5)), (gm_vcall 9 100 4), gm_zret]]
def bpX9_isTape : Nat → Nat := fun b => ([0] : List Nat).getD b 0
set_option maxRecDepth 100000 in
theorem tX9_isTape {D : va_G} {sz : Nat} {ad : Nat → Nat} {cA : Nat → ClassId} {xs : Int → Int} {Ln : Int} {l : Launch} : gm_SB D sz ad cA xs Ln l gm_mt cX9_isTape "LongNoonModel" 2 false 2 bpX9_isTape 0 pX9_isTape :=
  ⟨gm_cn 1 (gm_m_aload _) (gm_s_aload_n dX9_isTape_0 rfl) (
    gm_cn 2 (gm_m_iload _) (gm_s_iload_n dX9_isTape_1 rfl) (
    gm_cn 3 (gm_m_push _) (gm_s_iconst dX9_isTape_2) (
    gm_cn 4 (gm_m_push _) (gm_s_iconst dX9_isTape_3) (
    gm_cn 7 (gm_m_vcall _ _ _) (gcl_X9_in gw_280 dX9_isTape_4) (
    gm_cn 0 gm_m_zret (gm_s_zret dX9_isTape_7 rfl 0) (
    trivial)))))), trivial⟩
theorem dX9_tape_0 : decode cX9_tape 0 = .ok (.aload_n 0, 1) := by decide +kernel
theorem dX9_tape_1 : decode cX9_tape 1 = .ok (.iload_n 1, 1) := by decide +kernel
theorem dX9_tape_2 : decode cX9_tape 2 = .ok (.invokevirtual 341, 3) := by decide +kernel
theorem dX9_tape_5 : decode cX9_tape 5 = .ok (.ifCond .ne 5, 3) := by decide +kernel
theorem dX9_tape_8 : decode cX9_tape 8 = .ok (.iconst (-1), 1) := by decide +kernel
theorem dX9_tape_9 : decode cX9_tape 9 = .ok (.ireturn, 1) := by decide +kernel
theorem dX9_tape_10 : decode cX9_tape 10 = .ok (.aload_n 0, 1) := by decide +kernel
theorem dX9_tape_11 : decode cX9_tape 11 = .ok (.iload_n 2, 1) := by decide +kernel
theorem dX9_tape_12 : decode cX9_tape 12 = .ok (.iconst (-1), 1) := by decide +kernel
theorem dX9_tape_13 : decode cX9_tape 13 = .ok (.iconst 4, 1) := by decide +kernel
theorem dX9_tape_14 : decode cX9_tape 14 = .ok (.invokevirtual 206, 3) := by decide +kernel
theorem dX9_tape_17 : decode cX9_tape 17 = .ok (.ifCond .eq 13, 3) := by decide +kernel
theorem dX9_tape_20 : decode cX9_tape 20 = .ok (.iload_n 2, 1) := by decide +kernel
theorem dX9_tape_21 : decode cX9_tape 21 = .ok (.ifCond .lt 12, 3) := by decide +kernel
theorem dX9_tape_24 : decode cX9_tape 24 = .ok (.iload_n 3, 1) := by decide +kernel
theorem dX9_tape_25 : decode cX9_tape 25 = .ok (.bipush 60, 2) := by decide +kernel
theorem dX9_tape_27 : decode cX9_tape 27 = .ok (.if_icmp .le 6, 3) := by decide +kernel
theorem dX9_tape_30 : decode cX9_tape 30 = .ok (.bipush (-2), 2) := by decide +kernel
theorem dX9_tape_32 : decode cX9_tape 32 = .ok (.ireturn, 1) := by decide +kernel
theorem dX9_tape_33 : decode cX9_tape 33 = .ok (.iload_n 2, 1) := by decide +kernel
theorem dX9_tape_34 : decode cX9_tape 34 = .ok (.ifCond .lt 10, 3) := by decide +kernel
theorem dX9_tape_37 : decode cX9_tape 37 = .ok (.iload_n 3, 1) := by decide +kernel
theorem dX9_tape_38 : decode cX9_tape 38 = .ok (.ifCond .ge 6, 3) := by decide +kernel
theorem dX9_tape_41 : decode cX9_tape 41 = .ok (.bipush (-14), 2) := by decide +kernel
theorem dX9_tape_43 : decode cX9_tape 43 = .ok (.ireturn, 1) := by decide +kernel
theorem dX9_tape_44 : decode cX9_tape 44 = .ok (.aload_n 0, 1) := by decide +kernel
theorem dX9_tape_45 : decode cX9_tape 45 = .ok (.getfield 193, 3) := by decide +kernel
theorem dX9_tape_48 : decode cX9_tape 48 = .ok (.iload_n 1, 1) := by decide +kernel
theorem dX9_tape_49 : decode cX9_tape 49 = .ok (.iload_n 2, 1) := by decide +kernel
theorem dX9_tape_50 : decode cX9_tape 50 = .ok (.iastore, 1) := by decide +kernel
theorem dX9_tape_51 : decode cX9_tape 51 = .ok (.aload_n 0, 1) := by decide +kernel
theorem dX9_tape_52 : decode cX9_tape 52 = .ok (.getfield 196, 3) := by decide +kernel
theorem dX9_tape_55 : decode cX9_tape 55 = .ok (.iload_n 1, 1) := by decide +kernel
theorem dX9_tape_56 : decode cX9_tape 56 = .ok (.iload_n 2, 1) := by decide +kernel
theorem dX9_tape_57 : decode cX9_tape 57 = .ok (.ifCond .ge 7, 3) := by decide +kernel
theorem dX9_tape_60 : decode cX9_tape 60 = .ok (.iconst 0, 1) := by decide +kernel
theorem dX9_tape_61 : decode cX9_tape 61 = .ok (.goto 4, 3) := by decide +kernel
theorem dX9_tape_64 : decode cX9_tape 64 = .ok (.iload_n 3, 1) := by decide +kernel
theorem dX9_tape_65 : decode cX9_tape 65 = .ok (.iastore, 1) := by decide +kernel
theorem dX9_tape_66 : decode cX9_tape 66 = .ok (.iconst 0, 1) := by decide +kernel
theorem dX9_tape_67 : decode cX9_tape 67 = .ok (.istore 4, 2) := by decide +kernel
theorem dX9_tape_69 : decode cX9_tape 69 = .ok (.iload 4, 2) := by decide +kernel
theorem dX9_tape_71 : decode cX9_tape 71 = .ok (.bipush 60, 2) := by decide +kernel
theorem dX9_tape_73 : decode cX9_tape 73 = .ok (.if_icmp .ge 22, 3) := by decide +kernel
theorem dX9_tape_76 : decode cX9_tape 76 = .ok (.aload_n 0, 1) := by decide +kernel
theorem dX9_tape_77 : decode cX9_tape 77 = .ok (.getfield 199, 3) := by decide +kernel
theorem dX9_tape_80 : decode cX9_tape 80 = .ok (.bipush 60, 2) := by decide +kernel
theorem dX9_tape_82 : decode cX9_tape 82 = .ok (.iload_n 1, 1) := by decide +kernel
theorem dX9_tape_83 : decode cX9_tape 83 = .ok (.imul, 1) := by decide +kernel
theorem dX9_tape_84 : decode cX9_tape 84 = .ok (.iload 4, 2) := by decide +kernel
theorem dX9_tape_86 : decode cX9_tape 86 = .ok (.iadd, 1) := by decide +kernel
theorem dX9_tape_87 : decode cX9_tape 87 = .ok (.lconst 0, 1) := by decide +kernel
theorem dX9_tape_88 : decode cX9_tape 88 = .ok (.lastore, 1) := by decide +kernel
theorem dX9_tape_89 : decode cX9_tape 89 = .ok (.iinc 4 1, 3) := by decide +kernel
theorem dX9_tape_92 : decode cX9_tape 92 = .ok (.goto (-23), 3) := by decide +kernel
theorem dX9_tape_95 : decode cX9_tape 95 = .ok (.iconst 1, 1) := by decide +kernel
theorem dX9_tape_96 : decode cX9_tape 96 = .ok (.ireturn, 1) := by decide +kernel
def pX9_tape : List (List gm_A) := [[(gm_aload 0), (gm_iload 1), (gm_vcall 9 181 2), (gm_ifne 1), (gm_push (.inl (-1))), gm_iret],
  [(gm_aload 0), (gm_iload 2), (gm_push (.inl (-1))), (gm_push (.inl 4)), (gm_vcall 9 100 4), (gm_ifeq 2), (gm_iload 2), (gm_iflt 3), (gm_iload 3), (gm_push (.inl 60)), (gm_cle 3), (gm_goto 2)],
  [(gm_push (.inl (-2))), gm_iret],
  [(gm_iload 2), (gm_iflt 4), (gm_iload 3), (gm_ifge 4), (gm_push (.inl (-14))), gm_iret],
  [(gm_aload 0), (gm_getR 9 960), (gm_iload 1), (gm_iload 2), gm_iast, (gm_aload 0), (gm_getR 9 961), (gm_iload 1), (gm_iload 2), (gm_ifge 5), (gm_push (.inl 0)), (gm_goto 6)],
  [(gm_iload 3), (gm_goto 6)],
  [gm_iast, (gm_push (.inl 0)), (gm_istore 4), (gm_goto 7)],
  [(gm_iload 4), (gm_push (.inl 60)), (gm_cge 8), (gm_aload 0), (gm_getR 9 962), (gm_push (.inl 60)), (gm_iload 1), (gm_op2 gm_mul), (gm_iload 4), (gm_op2 gm_add), (gm_push (.inr (.inl 0))), gm_last, (gm_iinc 4 1), (gm_goto 7)],
  [(gm_push (.inl 1)), gm_iret]]
def bpX9_tape : Nat → Nat := fun b => ([0, 10, 30, 33, 44, 64, 65, 69, 95] : List Nat).getD b 0
set_option maxRecDepth 100000 in
theorem tX9_tape {D : va_G} {sz : Nat} {ad : Nat → Nat} {cA : Nat → ClassId} {xs : Int → Int} {Ln : Int} {l : Launch} : gm_SB D sz ad cA xs Ln l gm_mt cX9_tape "LongNoonModel" 5 false 1 bpX9_tape 0 pX9_tape :=
  ⟨gm_cn 1 (gm_m_aload _) (gm_s_aload_n dX9_tape_0 rfl) (
    gm_cn 2 (gm_m_iload _) (gm_s_iload_n dX9_tape_1 rfl) (
    gm_cn 5 (gm_m_vcall _ _ _) (gcl_X9_isTape gw_322 dX9_tape_2) (
    gm_cn 8 (gm_m_ifne _) (gm_s_ifne (bpc := bpX9_tape) (b := 1) dX9_tape_5 rfl) (
    gm_cn 9 (gm_m_push _) (gm_s_iconst dX9_tape_8) (
    gm_cn 0 gm_m_iret (gm_s_iret dX9_tape_9 rfl 0) (
    trivial)))))),
  gm_cn 11 (gm_m_aload _) (gm_s_aload_n dX9_tape_10 rfl) (
    gm_cn 12 (gm_m_iload _) (gm_s_iload_n dX9_tape_11 rfl) (
    gm_cn 13 (gm_m_push _) (gm_s_iconst dX9_tape_12) (
    gm_cn 14 (gm_m_push _) (gm_s_iconst dX9_tape_13) (
    gm_cn 17 (gm_m_vcall _ _ _) (gcl_X9_in gw_280 dX9_tape_14) (
    gm_cn 20 (gm_m_ifeq _) (gm_s_ifeq (bpc := bpX9_tape) (b := 2) dX9_tape_17 rfl) (
    gm_cn 21 (gm_m_iload _) (gm_s_iload_n dX9_tape_20 rfl) (
    gm_cn 24 (gm_m_iflt _) (gm_s_iflt (bpc := bpX9_tape) (b := 3) dX9_tape_21 rfl) (
    gm_cn 25 (gm_m_iload _) (gm_s_iload_n dX9_tape_24 rfl) (
    gm_cn 27 (gm_m_push _) (gm_s_bipush dX9_tape_25 rfl) (
    gm_cn 30 (gm_m_cle _) (gm_s_cle (bpc := bpX9_tape) (b := 3) dX9_tape_27 rfl) (
    gm_cn 0 (gm_m_goto _) (gm_s_fall (bpc := bpX9_tape) (b := 2) rfl 0) (
    trivial)))))))))))),
  gm_cn 32 (gm_m_push _) (gm_s_bipush dX9_tape_30 rfl) (
    gm_cn 0 gm_m_iret (gm_s_iret dX9_tape_32 rfl 0) (
    trivial)),
  gm_cn 34 (gm_m_iload _) (gm_s_iload_n dX9_tape_33 rfl) (
    gm_cn 37 (gm_m_iflt _) (gm_s_iflt (bpc := bpX9_tape) (b := 4) dX9_tape_34 rfl) (
    gm_cn 38 (gm_m_iload _) (gm_s_iload_n dX9_tape_37 rfl) (
    gm_cn 41 (gm_m_ifge _) (gm_s_ifge (bpc := bpX9_tape) (b := 4) dX9_tape_38 rfl) (
    gm_cn 43 (gm_m_push _) (gm_s_bipush dX9_tape_41 rfl) (
    gm_cn 0 gm_m_iret (gm_s_iret dX9_tape_43 rfl 0) (
    trivial)))))),
  gm_cn 45 (gm_m_aload _) (gm_s_aload_n dX9_tape_44 rfl) (
    gm_cn 48 (gm_m_getR _ _) (gf_getR_9_60 gw_276 dX9_tape_45) (
    gm_cn 49 (gm_m_iload _) (gm_s_iload_n dX9_tape_48 rfl) (
    gm_cn 50 (gm_m_iload _) (gm_s_iload_n dX9_tape_49 rfl) (
    gm_cn 51 gm_m_iast (gm_s_iast dX9_tape_50) (
    gm_cn 52 (gm_m_aload _) (gm_s_aload_n dX9_tape_51 rfl) (
    gm_cn 55 (gm_m_getR _ _) (gf_getR_9_61 gw_277 dX9_tape_52) (
    gm_cn 56 (gm_m_iload _) (gm_s_iload_n dX9_tape_55 rfl) (
    gm_cn 57 (gm_m_iload _) (gm_s_iload_n dX9_tape_56 rfl) (
    gm_cn 60 (gm_m_ifge _) (gm_s_ifge (bpc := bpX9_tape) (b := 5) dX9_tape_57 rfl) (
    gm_cn 61 (gm_m_push _) (gm_s_iconst dX9_tape_60) (
    gm_cn 0 (gm_m_goto _) (gm_s_goto (bpc := bpX9_tape) (b := 6) dX9_tape_61 rfl 0) (
    trivial)))))))))))),
  gm_cn 65 (gm_m_iload _) (gm_s_iload_n dX9_tape_64 rfl) (
    gm_cn 0 (gm_m_goto _) (gm_s_fall (bpc := bpX9_tape) (b := 6) rfl 0) (
    trivial)),
  gm_cn 66 gm_m_iast (gm_s_iast dX9_tape_65) (
    gm_cn 67 (gm_m_push _) (gm_s_iconst dX9_tape_66) (
    gm_cn 69 (gm_m_istore _) (gm_s_istore dX9_tape_67 (by decide)) (
    gm_cn 0 (gm_m_goto _) (gm_s_fall (bpc := bpX9_tape) (b := 7) rfl 0) (
    trivial)))),
  gm_cn 71 (gm_m_iload _) (gm_s_iload dX9_tape_69) (
    gm_cn 73 (gm_m_push _) (gm_s_bipush dX9_tape_71 rfl) (
    gm_cn 76 (gm_m_cge _) (gm_s_cge (bpc := bpX9_tape) (b := 8) dX9_tape_73 rfl) (
    gm_cn 77 (gm_m_aload _) (gm_s_aload_n dX9_tape_76 rfl) (
    gm_cn 80 (gm_m_getR _ _) (gf_getR_9_62 gw_278 dX9_tape_77) (
    gm_cn 82 (gm_m_push _) (gm_s_bipush dX9_tape_80 rfl) (
    gm_cn 83 (gm_m_iload _) (gm_s_iload_n dX9_tape_82 rfl) (
    gm_cn 84 (gm_m_op2 _) (gm_s_imul dX9_tape_83) (
    gm_cn 86 (gm_m_iload _) (gm_s_iload dX9_tape_84) (
    gm_cn 87 (gm_m_op2 _) (gm_s_iadd dX9_tape_86) (
    gm_cn 88 (gm_m_push _) (gm_s_lconst dX9_tape_87 rfl) (
    gm_cn 89 gm_m_last (gm_s_last dX9_tape_88) (
    gm_cn 92 (gm_m_iinc _ _) (gm_s_iinc dX9_tape_89 (by decide)) (
    gm_cn 0 (gm_m_goto _) (gm_s_goto (bpc := bpX9_tape) (b := 7) dX9_tape_92 rfl 0) (
    trivial)))))))))))))),
  gm_cn 96 (gm_m_push _) (gm_s_iconst dX9_tape_95) (
    gm_cn 0 gm_m_iret (gm_s_iret dX9_tape_96 rfl 0) (
    trivial)), trivial⟩
theorem dX9_narrow_0 : decode cX9_narrow 0 = .ok (.iload_n 1, 1) := by decide +kernel
theorem dX9_narrow_1 : decode cX9_narrow 1 = .ok (.ifCond .ne 10, 3) := by decide +kernel
theorem dX9_narrow_4 : decode cX9_narrow 4 = .ok (.lload_n 2, 1) := by decide +kernel
theorem dX9_narrow_5 : decode cX9_narrow 5 = .ok (.l2i, 1) := by decide +kernel
theorem dX9_narrow_6 : decode cX9_narrow 6 = .ok (.i2b, 1) := by decide +kernel
theorem dX9_narrow_7 : decode cX9_narrow 7 = .ok (.i2l, 1) := by decide +kernel
theorem dX9_narrow_8 : decode cX9_narrow 8 = .ok (.goto 46, 3) := by decide +kernel
theorem dX9_narrow_11 : decode cX9_narrow 11 = .ok (.iload_n 1, 1) := by decide +kernel
theorem dX9_narrow_12 : decode cX9_narrow 12 = .ok (.iconst 1, 1) := by decide +kernel
theorem dX9_narrow_13 : decode cX9_narrow 13 = .ok (.if_icmp .ne 10, 3) := by decide +kernel
theorem dX9_narrow_16 : decode cX9_narrow 16 = .ok (.lload_n 2, 1) := by decide +kernel
theorem dX9_narrow_17 : decode cX9_narrow 17 = .ok (.l2i, 1) := by decide +kernel
theorem dX9_narrow_18 : decode cX9_narrow 18 = .ok (.i2s, 1) := by decide +kernel
theorem dX9_narrow_19 : decode cX9_narrow 19 = .ok (.i2l, 1) := by decide +kernel
theorem dX9_narrow_20 : decode cX9_narrow 20 = .ok (.goto 34, 3) := by decide +kernel
theorem dX9_narrow_23 : decode cX9_narrow 23 = .ok (.iload_n 1, 1) := by decide +kernel
theorem dX9_narrow_24 : decode cX9_narrow 24 = .ok (.iconst 2, 1) := by decide +kernel
theorem dX9_narrow_25 : decode cX9_narrow 25 = .ok (.if_icmp .ne 9, 3) := by decide +kernel
theorem dX9_narrow_28 : decode cX9_narrow 28 = .ok (.lload_n 2, 1) := by decide +kernel
theorem dX9_narrow_29 : decode cX9_narrow 29 = .ok (.l2i, 1) := by decide +kernel
theorem dX9_narrow_30 : decode cX9_narrow 30 = .ok (.i2l, 1) := by decide +kernel
theorem dX9_narrow_31 : decode cX9_narrow 31 = .ok (.goto 23, 3) := by decide +kernel
theorem dX9_narrow_34 : decode cX9_narrow 34 = .ok (.iload_n 1, 1) := by decide +kernel
theorem dX9_narrow_35 : decode cX9_narrow 35 = .ok (.iconst 4, 1) := by decide +kernel
theorem dX9_narrow_36 : decode cX9_narrow 36 = .ok (.if_icmp .ne 17, 3) := by decide +kernel
theorem dX9_narrow_39 : decode cX9_narrow 39 = .ok (.lload_n 2, 1) := by decide +kernel
theorem dX9_narrow_40 : decode cX9_narrow 40 = .ok (.lconst 0, 1) := by decide +kernel
theorem dX9_narrow_41 : decode cX9_narrow 41 = .ok (.lcmp, 1) := by decide +kernel
theorem dX9_narrow_42 : decode cX9_narrow 42 = .ok (.ifCond .eq 7, 3) := by decide +kernel
theorem dX9_narrow_45 : decode cX9_narrow 45 = .ok (.lconst 1, 1) := by decide +kernel
theorem dX9_narrow_46 : decode cX9_narrow 46 = .ok (.goto 8, 3) := by decide +kernel
theorem dX9_narrow_49 : decode cX9_narrow 49 = .ok (.lconst 0, 1) := by decide +kernel
theorem dX9_narrow_50 : decode cX9_narrow 50 = .ok (.goto 4, 3) := by decide +kernel
theorem dX9_narrow_53 : decode cX9_narrow 53 = .ok (.lload_n 2, 1) := by decide +kernel
theorem dX9_narrow_54 : decode cX9_narrow 54 = .ok (.lreturn, 1) := by decide +kernel
def pX9_narrow : List (List gm_A) := [[(gm_iload 1), (gm_ifne 1), (gm_lload 2), gm_l2i, (gm_op1 gm_i2b), gm_i2l, (gm_goto 6)],
  [(gm_iload 1), (gm_push (.inl 1)), (gm_cne 2), (gm_lload 2), gm_l2i, (gm_op1 gm_i2s), gm_i2l, (gm_goto 6)],
  [(gm_iload 1), (gm_push (.inl 2)), (gm_cne 3), (gm_lload 2), gm_l2i, gm_i2l, (gm_goto 6)],
  [(gm_iload 1), (gm_push (.inl 4)), (gm_cne 5), (gm_lload 2), (gm_push (.inr (.inl 0))), gm_lcmp, (gm_ifeq 4), (gm_push (.inr (.inl 1))), (gm_goto 6)],
  [(gm_push (.inr (.inl 0))), (gm_goto 6)],
  [(gm_lload 2), (gm_goto 6)],
  [gm_lret]]
def bpX9_narrow : Nat → Nat := fun b => ([0, 11, 23, 34, 49, 53, 54] : List Nat).getD b 0
set_option maxRecDepth 100000 in
theorem tX9_narrow {D : va_G} {sz : Nat} {ad : Nat → Nat} {cA : Nat → ClassId} {xs : Int → Int} {Ln : Int} {l : Launch} : gm_SB D sz ad cA xs Ln l gm_mt cX9_narrow "LongNoonModel" 4 false 4 bpX9_narrow 0 pX9_narrow :=
  ⟨gm_cn 1 (gm_m_iload _) (gm_s_iload_n dX9_narrow_0 rfl) (
    gm_cn 4 (gm_m_ifne _) (gm_s_ifne (bpc := bpX9_narrow) (b := 1) dX9_narrow_1 rfl) (
    gm_cn 5 (gm_m_lload _) (gm_s_lload_n dX9_narrow_4 rfl) (
    gm_cn 6 gm_m_l2i (gm_s_l2i dX9_narrow_5) (
    gm_cn 7 (gm_m_op1 _) (gm_s_i2b dX9_narrow_6) (
    gm_cn 8 gm_m_i2l (gm_s_i2l dX9_narrow_7) (
    gm_cn 0 (gm_m_goto _) (gm_s_goto (bpc := bpX9_narrow) (b := 6) dX9_narrow_8 rfl 0) (
    trivial))))))),
  gm_cn 12 (gm_m_iload _) (gm_s_iload_n dX9_narrow_11 rfl) (
    gm_cn 13 (gm_m_push _) (gm_s_iconst dX9_narrow_12) (
    gm_cn 16 (gm_m_cne _) (gm_s_cne (bpc := bpX9_narrow) (b := 2) dX9_narrow_13 rfl) (
    gm_cn 17 (gm_m_lload _) (gm_s_lload_n dX9_narrow_16 rfl) (
    gm_cn 18 gm_m_l2i (gm_s_l2i dX9_narrow_17) (
    gm_cn 19 (gm_m_op1 _) (gm_s_i2s dX9_narrow_18) (
    gm_cn 20 gm_m_i2l (gm_s_i2l dX9_narrow_19) (
    gm_cn 0 (gm_m_goto _) (gm_s_goto (bpc := bpX9_narrow) (b := 6) dX9_narrow_20 rfl 0) (
    trivial)))))))),
  gm_cn 24 (gm_m_iload _) (gm_s_iload_n dX9_narrow_23 rfl) (
    gm_cn 25 (gm_m_push _) (gm_s_iconst dX9_narrow_24) (
    gm_cn 28 (gm_m_cne _) (gm_s_cne (bpc := bpX9_narrow) (b := 3) dX9_narrow_25 rfl) (
    gm_cn 29 (gm_m_lload _) (gm_s_lload_n dX9_narrow_28 rfl) (
    gm_cn 30 gm_m_l2i (gm_s_l2i dX9_narrow_29) (
    gm_cn 31 gm_m_i2l (gm_s_i2l dX9_narrow_30) (
    gm_cn 0 (gm_m_goto _) (gm_s_goto (bpc := bpX9_narrow) (b := 6) dX9_narrow_31 rfl 0) (
    trivial))))))),
  gm_cn 35 (gm_m_iload _) (gm_s_iload_n dX9_narrow_34 rfl) (
    gm_cn 36 (gm_m_push _) (gm_s_iconst dX9_narrow_35) (
    gm_cn 39 (gm_m_cne _) (gm_s_cne (bpc := bpX9_narrow) (b := 5) dX9_narrow_36 rfl) (
    gm_cn 40 (gm_m_lload _) (gm_s_lload_n dX9_narrow_39 rfl) (
    gm_cn 41 (gm_m_push _) (gm_s_lconst dX9_narrow_40 rfl) (
    gm_cn 42 gm_m_lcmp (gm_s_lcmp dX9_narrow_41) (
    gm_cn 45 (gm_m_ifeq _) (gm_s_ifeq (bpc := bpX9_narrow) (b := 4) dX9_narrow_42 rfl) (
    gm_cn 46 (gm_m_push _) (gm_s_lconst dX9_narrow_45 rfl) (
    gm_cn 0 (gm_m_goto _) (gm_s_goto (bpc := bpX9_narrow) (b := 6) dX9_narrow_46 rfl 0) (
    trivial))))))))),
  gm_cn 50 (gm_m_push _) (gm_s_lconst dX9_narrow_49 rfl) (
    gm_cn 0 (gm_m_goto _) (gm_s_goto (bpc := bpX9_narrow) (b := 6) dX9_narrow_50 rfl 0) (
    trivial)),
  gm_cn 54 (gm_m_lload _) (gm_s_lload_n dX9_narrow_53 rfl) (
    gm_cn 0 (gm_m_goto _) (gm_s_fall (bpc := bpX9_narrow) (b := 6) rfl 0) (
    trivial)),
  gm_cn 0 gm_m_lret (gm_s_lret dX9_narrow_54 rfl 0) (
    trivial), trivial⟩
theorem dX9_item_0 : decode cX9_item 0 = .ok (.aload_n 0, 1) := by decide +kernel
theorem dX9_item_1 : decode cX9_item 1 = .ok (.iload_n 1, 1) := by decide +kernel
theorem dX9_item_2 : decode cX9_item 2 = .ok (.invokevirtual 341, 3) := by decide +kernel
theorem dX9_item_5 : decode cX9_item 5 = .ok (.ifCond .ne 5, 3) := by decide +kernel
theorem dX9_item_8 : decode cX9_item 8 = .ok (.iconst (-1), 1) := by decide +kernel
theorem dX9_item_9 : decode cX9_item 9 = .ok (.ireturn, 1) := by decide +kernel
theorem dX9_item_10 : decode cX9_item 10 = .ok (.aload_n 0, 1) := by decide +kernel
theorem dX9_item_11 : decode cX9_item 11 = .ok (.getfield 193, 3) := by decide +kernel
theorem dX9_item_14 : decode cX9_item 14 = .ok (.iload_n 1, 1) := by decide +kernel
theorem dX9_item_15 : decode cX9_item 15 = .ok (.iaload, 1) := by decide +kernel
theorem dX9_item_16 : decode cX9_item 16 = .ok (.ifCond .ge 6, 3) := by decide +kernel
theorem dX9_item_19 : decode cX9_item 19 = .ok (.bipush (-11), 2) := by decide +kernel
theorem dX9_item_21 : decode cX9_item 21 = .ok (.ireturn, 1) := by decide +kernel
theorem dX9_item_22 : decode cX9_item 22 = .ok (.aload_n 0, 1) := by decide +kernel
theorem dX9_item_23 : decode cX9_item 23 = .ok (.iload_n 2, 1) := by decide +kernel
theorem dX9_item_24 : decode cX9_item 24 = .ok (.iconst 0, 1) := by decide +kernel
theorem dX9_item_25 : decode cX9_item 25 = .ok (.aload_n 0, 1) := by decide +kernel
theorem dX9_item_26 : decode cX9_item 26 = .ok (.getfield 196, 3) := by decide +kernel
theorem dX9_item_29 : decode cX9_item 29 = .ok (.iload_n 1, 1) := by decide +kernel
theorem dX9_item_30 : decode cX9_item 30 = .ok (.iaload, 1) := by decide +kernel
theorem dX9_item_31 : decode cX9_item 31 = .ok (.iconst 1, 1) := by decide +kernel
theorem dX9_item_32 : decode cX9_item 32 = .ok (.isub, 1) := by decide +kernel
theorem dX9_item_33 : decode cX9_item 33 = .ok (.invokevirtual 206, 3) := by decide +kernel
theorem dX9_item_36 : decode cX9_item 36 = .ok (.ifCond .ne 6, 3) := by decide +kernel
theorem dX9_item_39 : decode cX9_item 39 = .ok (.bipush (-13), 2) := by decide +kernel
theorem dX9_item_41 : decode cX9_item 41 = .ok (.ireturn, 1) := by decide +kernel
theorem dX9_item_42 : decode cX9_item 42 = .ok (.aload_n 0, 1) := by decide +kernel
theorem dX9_item_43 : decode cX9_item 43 = .ok (.getfield 199, 3) := by decide +kernel
theorem dX9_item_46 : decode cX9_item 46 = .ok (.bipush 60, 2) := by decide +kernel
theorem dX9_item_48 : decode cX9_item 48 = .ok (.iload_n 1, 1) := by decide +kernel
theorem dX9_item_49 : decode cX9_item 49 = .ok (.imul, 1) := by decide +kernel
theorem dX9_item_50 : decode cX9_item 50 = .ok (.iload_n 2, 1) := by decide +kernel
theorem dX9_item_51 : decode cX9_item 51 = .ok (.iadd, 1) := by decide +kernel
theorem dX9_item_52 : decode cX9_item 52 = .ok (.aload_n 0, 1) := by decide +kernel
theorem dX9_item_53 : decode cX9_item 53 = .ok (.aload_n 0, 1) := by decide +kernel
theorem dX9_item_54 : decode cX9_item 54 = .ok (.getfield 193, 3) := by decide +kernel
theorem dX9_item_57 : decode cX9_item 57 = .ok (.iload_n 1, 1) := by decide +kernel
theorem dX9_item_58 : decode cX9_item 58 = .ok (.iaload, 1) := by decide +kernel
theorem dX9_item_59 : decode cX9_item 59 = .ok (.lload_n 3, 1) := by decide +kernel
theorem dX9_item_60 : decode cX9_item 60 = .ok (.invokevirtual 368, 3) := by decide +kernel
theorem dX9_item_63 : decode cX9_item 63 = .ok (.lastore, 1) := by decide +kernel
theorem dX9_item_64 : decode cX9_item 64 = .ok (.iconst 1, 1) := by decide +kernel
theorem dX9_item_65 : decode cX9_item 65 = .ok (.ireturn, 1) := by decide +kernel
def pX9_item : List (List gm_A) := [[(gm_aload 0), (gm_iload 1), (gm_vcall 9 181 2), (gm_ifne 1), (gm_push (.inl (-1))), gm_iret],
  [(gm_aload 0), (gm_getR 9 960), (gm_iload 1), gm_iald, (gm_ifge 2), (gm_push (.inl (-11))), gm_iret],
  [(gm_aload 0), (gm_iload 2), (gm_push (.inl 0)), (gm_aload 0), (gm_getR 9 961), (gm_iload 1), gm_iald, (gm_push (.inl 1)), (gm_op2 gm_sub), (gm_vcall 9 100 4), (gm_ifne 3), (gm_push (.inl (-13))), gm_iret],
  [(gm_aload 0), (gm_getR 9 962), (gm_push (.inl 60)), (gm_iload 1), (gm_op2 gm_mul), (gm_iload 2), (gm_op2 gm_add), (gm_aload 0), (gm_aload 0), (gm_getR 9 960), (gm_iload 1), gm_iald, (gm_lload 3), (gm_vcall 9 183 3), gm_last, (gm_push (.inl 1)), gm_iret]]
def bpX9_item : Nat → Nat := fun b => ([0, 10, 22, 42] : List Nat).getD b 0
set_option maxRecDepth 100000 in
theorem tX9_item {D : va_G} {sz : Nat} {ad : Nat → Nat} {cA : Nat → ClassId} {xs : Int → Int} {Ln : Int} {l : Launch} : gm_SB D sz ad cA xs Ln l gm_mt cX9_item "LongNoonModel" 5 false 1 bpX9_item 0 pX9_item :=
  ⟨gm_cn 1 (gm_m_aload _) (gm_s_aload_n dX9_item_0 rfl) (
    gm_cn 2 (gm_m_iload _) (gm_s_iload_n dX9_item_1 rfl) (
    gm_cn 5 (gm_m_vcall _ _ _) (gcl_X9_isTape gw_322 dX9_item_2) (
    gm_cn 8 (gm_m_ifne _) (gm_s_ifne (bpc := bpX9_item) (b := 1) dX9_item_5 rfl) (
    gm_cn 9 (gm_m_push _) (gm_s_iconst dX9_item_8) (
    gm_cn 0 gm_m_iret (gm_s_iret dX9_item_9 rfl 0) (
    trivial)))))),
  gm_cn 11 (gm_m_aload _) (gm_s_aload_n dX9_item_10 rfl) (
    gm_cn 14 (gm_m_getR _ _) (gf_getR_9_60 gw_276 dX9_item_11) (
    gm_cn 15 (gm_m_iload _) (gm_s_iload_n dX9_item_14 rfl) (
    gm_cn 16 gm_m_iald (gm_s_iald dX9_item_15) (
    gm_cn 19 (gm_m_ifge _) (gm_s_ifge (bpc := bpX9_item) (b := 2) dX9_item_16 rfl) (
    gm_cn 21 (gm_m_push _) (gm_s_bipush dX9_item_19 rfl) (
    gm_cn 0 gm_m_iret (gm_s_iret dX9_item_21 rfl 0) (
    trivial))))))),
  gm_cn 23 (gm_m_aload _) (gm_s_aload_n dX9_item_22 rfl) (
    gm_cn 24 (gm_m_iload _) (gm_s_iload_n dX9_item_23 rfl) (
    gm_cn 25 (gm_m_push _) (gm_s_iconst dX9_item_24) (
    gm_cn 26 (gm_m_aload _) (gm_s_aload_n dX9_item_25 rfl) (
    gm_cn 29 (gm_m_getR _ _) (gf_getR_9_61 gw_277 dX9_item_26) (
    gm_cn 30 (gm_m_iload _) (gm_s_iload_n dX9_item_29 rfl) (
    gm_cn 31 gm_m_iald (gm_s_iald dX9_item_30) (
    gm_cn 32 (gm_m_push _) (gm_s_iconst dX9_item_31) (
    gm_cn 33 (gm_m_op2 _) (gm_s_isub dX9_item_32) (
    gm_cn 36 (gm_m_vcall _ _ _) (gcl_X9_in gw_280 dX9_item_33) (
    gm_cn 39 (gm_m_ifne _) (gm_s_ifne (bpc := bpX9_item) (b := 3) dX9_item_36 rfl) (
    gm_cn 41 (gm_m_push _) (gm_s_bipush dX9_item_39 rfl) (
    gm_cn 0 gm_m_iret (gm_s_iret dX9_item_41 rfl 0) (
    trivial))))))))))))),
  gm_cn 43 (gm_m_aload _) (gm_s_aload_n dX9_item_42 rfl) (
    gm_cn 46 (gm_m_getR _ _) (gf_getR_9_62 gw_278 dX9_item_43) (
    gm_cn 48 (gm_m_push _) (gm_s_bipush dX9_item_46 rfl) (
    gm_cn 49 (gm_m_iload _) (gm_s_iload_n dX9_item_48 rfl) (
    gm_cn 50 (gm_m_op2 _) (gm_s_imul dX9_item_49) (
    gm_cn 51 (gm_m_iload _) (gm_s_iload_n dX9_item_50 rfl) (
    gm_cn 52 (gm_m_op2 _) (gm_s_iadd dX9_item_51) (
    gm_cn 53 (gm_m_aload _) (gm_s_aload_n dX9_item_52 rfl) (
    gm_cn 54 (gm_m_aload _) (gm_s_aload_n dX9_item_53 rfl) (
    gm_cn 57 (gm_m_getR _ _) (gf_getR_9_60 gw_276 dX9_item_54) (
    gm_cn 58 (gm_m_iload _) (gm_s_iload_n dX9_item_57 rfl) (
    gm_cn 59 gm_m_iald (gm_s_iald dX9_item_58) (
    gm_cn 60 (gm_m_lload _) (gm_s_lload_n dX9_item_59 rfl) (
    gm_cn 63 (gm_m_vcall _ _ _) (gcl_X9_narrow gw_331 dX9_item_60) (
    gm_cn 64 gm_m_last (gm_s_last dX9_item_63) (
    gm_cn 65 (gm_m_push _) (gm_s_iconst dX9_item_64) (
    gm_cn 0 gm_m_iret (gm_s_iret dX9_item_65 rfl 0) (
    trivial))))))))))))))))), trivial⟩
theorem dX9_read_0 : decode cX9_read 0 = .ok (.aload_n 0, 1) := by decide +kernel
theorem dX9_read_1 : decode cX9_read 1 = .ok (.iload_n 1, 1) := by decide +kernel
theorem dX9_read_2 : decode cX9_read 2 = .ok (.invokevirtual 341, 3) := by decide +kernel
theorem dX9_read_5 : decode cX9_read 5 = .ok (.ifCond .eq 29, 3) := by decide +kernel
theorem dX9_read_8 : decode cX9_read 8 = .ok (.aload_n 0, 1) := by decide +kernel
theorem dX9_read_9 : decode cX9_read 9 = .ok (.getfield 193, 3) := by decide +kernel
theorem dX9_read_12 : decode cX9_read 12 = .ok (.iload_n 1, 1) := by decide +kernel
theorem dX9_read_13 : decode cX9_read 13 = .ok (.iaload, 1) := by decide +kernel
theorem dX9_read_14 : decode cX9_read 14 = .ok (.ifCond .lt 20, 3) := by decide +kernel
theorem dX9_read_17 : decode cX9_read 17 = .ok (.aload_n 0, 1) := by decide +kernel
theorem dX9_read_18 : decode cX9_read 18 = .ok (.iload_n 2, 1) := by decide +kernel
theorem dX9_read_19 : decode cX9_read 19 = .ok (.iconst 0, 1) := by decide +kernel
theorem dX9_read_20 : decode cX9_read 20 = .ok (.aload_n 0, 1) := by decide +kernel
theorem dX9_read_21 : decode cX9_read 21 = .ok (.getfield 196, 3) := by decide +kernel
theorem dX9_read_24 : decode cX9_read 24 = .ok (.iload_n 1, 1) := by decide +kernel
theorem dX9_read_25 : decode cX9_read 25 = .ok (.iaload, 1) := by decide +kernel
theorem dX9_read_26 : decode cX9_read 26 = .ok (.iconst 1, 1) := by decide +kernel
theorem dX9_read_27 : decode cX9_read 27 = .ok (.isub, 1) := by decide +kernel
theorem dX9_read_28 : decode cX9_read 28 = .ok (.invokevirtual 206, 3) := by decide +kernel
theorem dX9_read_31 : decode cX9_read 31 = .ok (.ifCond .ne 9, 3) := by decide +kernel
theorem dX9_read_34 : decode cX9_read 34 = .ok (.ldc2_w 335, 3) := by decide +kernel
theorem dX9_read_37 : decode cX9_read 37 = .ok (.goto 14, 3) := by decide +kernel
theorem dX9_read_40 : decode cX9_read 40 = .ok (.aload_n 0, 1) := by decide +kernel
theorem dX9_read_41 : decode cX9_read 41 = .ok (.getfield 199, 3) := by decide +kernel
theorem dX9_read_44 : decode cX9_read 44 = .ok (.bipush 60, 2) := by decide +kernel
theorem dX9_read_46 : decode cX9_read 46 = .ok (.iload_n 1, 1) := by decide +kernel
theorem dX9_read_47 : decode cX9_read 47 = .ok (.imul, 1) := by decide +kernel
theorem dX9_read_48 : decode cX9_read 48 = .ok (.iload_n 2, 1) := by decide +kernel
theorem dX9_read_49 : decode cX9_read 49 = .ok (.iadd, 1) := by decide +kernel
theorem dX9_read_50 : decode cX9_read 50 = .ok (.laload, 1) := by decide +kernel
theorem dX9_read_51 : decode cX9_read 51 = .ok (.lreturn, 1) := by decide +kernel
def pX9_read : List (List gm_A) := [[(gm_aload 0), (gm_iload 1), (gm_vcall 9 181 2), (gm_ifeq 1), (gm_aload 0), (gm_getR 9 960), (gm_iload 1), gm_iald, (gm_iflt 1), (gm_aload 0), (gm_iload 2), (gm_push (.inl 0)), (gm_aload 0), (gm_getR 9 961), (gm_iload 1), gm_iald, (gm_push (.inl 1)), (gm_op2 gm_sub), (gm_vcall 9 100 4), (gm_ifne 2), (gm_goto 1)],
  [(gm_push (.inr (.inl (-9223372036854775808)))), (gm_goto 3)],
  [(gm_aload 0), (gm_getR 9 962), (gm_push (.inl 60)), (gm_iload 1), (gm_op2 gm_mul), (gm_iload 2), (gm_op2 gm_add), gm_lald, (gm_goto 3)],
  [gm_lret]]
def bpX9_read : Nat → Nat := fun b => ([0, 34, 40, 51] : List Nat).getD b 0
set_option maxRecDepth 100000 in
theorem tX9_read {D : va_G} {sz : Nat} {ad : Nat → Nat} {cA : Nat → ClassId} {xs : Int → Int} {Ln : Int} {l : Launch} : gm_SB D sz ad cA xs Ln l gm_mt cX9_read "LongNoonModel" 3 false 4 bpX9_read 0 pX9_read :=
  ⟨gm_cn 1 (gm_m_aload _) (gm_s_aload_n dX9_read_0 rfl) (
    gm_cn 2 (gm_m_iload _) (gm_s_iload_n dX9_read_1 rfl) (
    gm_cn 5 (gm_m_vcall _ _ _) (gcl_X9_isTape gw_322 dX9_read_2) (
    gm_cn 8 (gm_m_ifeq _) (gm_s_ifeq (bpc := bpX9_read) (b := 1) dX9_read_5 rfl) (
    gm_cn 9 (gm_m_aload _) (gm_s_aload_n dX9_read_8 rfl) (
    gm_cn 12 (gm_m_getR _ _) (gf_getR_9_60 gw_276 dX9_read_9) (
    gm_cn 13 (gm_m_iload _) (gm_s_iload_n dX9_read_12 rfl) (
    gm_cn 14 gm_m_iald (gm_s_iald dX9_read_13) (
    gm_cn 17 (gm_m_iflt _) (gm_s_iflt (bpc := bpX9_read) (b := 1) dX9_read_14 rfl) (
    gm_cn 18 (gm_m_aload _) (gm_s_aload_n dX9_read_17 rfl) (
    gm_cn 19 (gm_m_iload _) (gm_s_iload_n dX9_read_18 rfl) (
    gm_cn 20 (gm_m_push _) (gm_s_iconst dX9_read_19) (
    gm_cn 21 (gm_m_aload _) (gm_s_aload_n dX9_read_20 rfl) (
    gm_cn 24 (gm_m_getR _ _) (gf_getR_9_61 gw_277 dX9_read_21) (
    gm_cn 25 (gm_m_iload _) (gm_s_iload_n dX9_read_24 rfl) (
    gm_cn 26 gm_m_iald (gm_s_iald dX9_read_25) (
    gm_cn 27 (gm_m_push _) (gm_s_iconst dX9_read_26) (
    gm_cn 28 (gm_m_op2 _) (gm_s_isub dX9_read_27) (
    gm_cn 31 (gm_m_vcall _ _ _) (gcl_X9_in gw_280 dX9_read_28) (
    gm_cn 34 (gm_m_ifne _) (gm_s_ifne (bpc := bpX9_read) (b := 2) dX9_read_31 rfl) (
    gm_cn 0 (gm_m_goto _) (gm_s_fall (bpc := bpX9_read) (b := 1) rfl 0) (
    trivial))))))))))))))))))))),
  gm_cn 37 (gm_m_push _) (gm_s_ldc2 gw_320 (by decide +kernel) dX9_read_34) (
    gm_cn 0 (gm_m_goto _) (gm_s_goto (bpc := bpX9_read) (b := 3) dX9_read_37 rfl 0) (
    trivial)),
  gm_cn 41 (gm_m_aload _) (gm_s_aload_n dX9_read_40 rfl) (
    gm_cn 44 (gm_m_getR _ _) (gf_getR_9_62 gw_278 dX9_read_41) (
    gm_cn 46 (gm_m_push _) (gm_s_bipush dX9_read_44 rfl) (
    gm_cn 47 (gm_m_iload _) (gm_s_iload_n dX9_read_46 rfl) (
    gm_cn 48 (gm_m_op2 _) (gm_s_imul dX9_read_47) (
    gm_cn 49 (gm_m_iload _) (gm_s_iload_n dX9_read_48 rfl) (
    gm_cn 50 (gm_m_op2 _) (gm_s_iadd dX9_read_49) (
    gm_cn 51 gm_m_lald (gm_s_lald dX9_read_50) (
    gm_cn 0 (gm_m_goto _) (gm_s_fall (bpc := bpX9_read) (b := 3) rfl 0) (
    trivial))))))))),
  gm_cn 0 gm_m_lret (gm_s_lret dX9_read_51 rfl 0) (
    trivial), trivial⟩
theorem dX9_shift_0 : decode cX9_shift 0 = .ok (.aload_n 0, 1) := by decide +kernel
theorem dX9_shift_1 : decode cX9_shift 1 = .ok (.iload_n 1, 1) := by decide +kernel
theorem dX9_shift_2 : decode cX9_shift 2 = .ok (.invokevirtual 341, 3) := by decide +kernel
theorem dX9_shift_5 : decode cX9_shift 5 = .ok (.ifCond .eq 11, 3) := by decide +kernel
theorem dX9_shift_8 : decode cX9_shift 8 = .ok (.aload_n 0, 1) := by decide +kernel
theorem dX9_shift_9 : decode cX9_shift 9 = .ok (.iload_n 3, 1) := by decide +kernel
theorem dX9_shift_10 : decode cX9_shift 10 = .ok (.invokevirtual 341, 3) := by decide +kernel
theorem dX9_shift_13 : decode cX9_shift 13 = .ok (.ifCond .ne 5, 3) := by decide +kernel
theorem dX9_shift_16 : decode cX9_shift 16 = .ok (.iconst (-1), 1) := by decide +kernel
theorem dX9_shift_17 : decode cX9_shift 17 = .ok (.ireturn, 1) := by decide +kernel
theorem dX9_shift_18 : decode cX9_shift 18 = .ok (.aload_n 0, 1) := by decide +kernel
theorem dX9_shift_19 : decode cX9_shift 19 = .ok (.getfield 193, 3) := by decide +kernel
theorem dX9_shift_22 : decode cX9_shift 22 = .ok (.iload_n 1, 1) := by decide +kernel
theorem dX9_shift_23 : decode cX9_shift 23 = .ok (.iaload, 1) := by decide +kernel
theorem dX9_shift_24 : decode cX9_shift 24 = .ok (.ifCond .lt 12, 3) := by decide +kernel
theorem dX9_shift_27 : decode cX9_shift 27 = .ok (.aload_n 0, 1) := by decide +kernel
theorem dX9_shift_28 : decode cX9_shift 28 = .ok (.getfield 193, 3) := by decide +kernel
theorem dX9_shift_31 : decode cX9_shift 31 = .ok (.iload_n 3, 1) := by decide +kernel
theorem dX9_shift_32 : decode cX9_shift 32 = .ok (.iaload, 1) := by decide +kernel
theorem dX9_shift_33 : decode cX9_shift 33 = .ok (.ifCond .ge 6, 3) := by decide +kernel
theorem dX9_shift_36 : decode cX9_shift 36 = .ok (.bipush (-11), 2) := by decide +kernel
theorem dX9_shift_38 : decode cX9_shift 38 = .ok (.ireturn, 1) := by decide +kernel
theorem dX9_shift_39 : decode cX9_shift 39 = .ok (.aload_n 0, 1) := by decide +kernel
theorem dX9_shift_40 : decode cX9_shift 40 = .ok (.getfield 193, 3) := by decide +kernel
theorem dX9_shift_43 : decode cX9_shift 43 = .ok (.iload_n 1, 1) := by decide +kernel
theorem dX9_shift_44 : decode cX9_shift 44 = .ok (.iaload, 1) := by decide +kernel
theorem dX9_shift_45 : decode cX9_shift 45 = .ok (.aload_n 0, 1) := by decide +kernel
theorem dX9_shift_46 : decode cX9_shift 46 = .ok (.getfield 193, 3) := by decide +kernel
theorem dX9_shift_49 : decode cX9_shift 49 = .ok (.iload_n 3, 1) := by decide +kernel
theorem dX9_shift_50 : decode cX9_shift 50 = .ok (.iaload, 1) := by decide +kernel
theorem dX9_shift_51 : decode cX9_shift 51 = .ok (.if_icmp .eq 6, 3) := by decide +kernel
theorem dX9_shift_54 : decode cX9_shift 54 = .ok (.bipush (-12), 2) := by decide +kernel
theorem dX9_shift_56 : decode cX9_shift 56 = .ok (.ireturn, 1) := by decide +kernel
theorem dX9_shift_57 : decode cX9_shift 57 = .ok (.iload 5, 2) := by decide +kernel
theorem dX9_shift_59 : decode cX9_shift 59 = .ok (.ifCond .lt 39, 3) := by decide +kernel
theorem dX9_shift_62 : decode cX9_shift 62 = .ok (.iload_n 2, 1) := by decide +kernel
theorem dX9_shift_63 : decode cX9_shift 63 = .ok (.ifCond .lt 35, 3) := by decide +kernel
theorem dX9_shift_66 : decode cX9_shift 66 = .ok (.iload 4, 2) := by decide +kernel
theorem dX9_shift_68 : decode cX9_shift 68 = .ok (.ifCond .lt 30, 3) := by decide +kernel
theorem dX9_shift_71 : decode cX9_shift 71 = .ok (.iload_n 2, 1) := by decide +kernel
theorem dX9_shift_72 : decode cX9_shift 72 = .ok (.aload_n 0, 1) := by decide +kernel
theorem dX9_shift_73 : decode cX9_shift 73 = .ok (.getfield 196, 3) := by decide +kernel
theorem dX9_shift_76 : decode cX9_shift 76 = .ok (.iload_n 1, 1) := by decide +kernel
theorem dX9_shift_77 : decode cX9_shift 77 = .ok (.iaload, 1) := by decide +kernel
theorem dX9_shift_78 : decode cX9_shift 78 = .ok (.iload 5, 2) := by decide +kernel
theorem dX9_shift_80 : decode cX9_shift 80 = .ok (.isub, 1) := by decide +kernel
theorem dX9_shift_81 : decode cX9_shift 81 = .ok (.if_icmp .gt 17, 3) := by decide +kernel
theorem dX9_shift_84 : decode cX9_shift 84 = .ok (.iload 4, 2) := by decide +kernel
theorem dX9_shift_86 : decode cX9_shift 86 = .ok (.aload_n 0, 1) := by decide +kernel
theorem dX9_shift_87 : decode cX9_shift 87 = .ok (.getfield 196, 3) := by decide +kernel
theorem dX9_shift_90 : decode cX9_shift 90 = .ok (.iload_n 3, 1) := by decide +kernel
theorem dX9_shift_91 : decode cX9_shift 91 = .ok (.iaload, 1) := by decide +kernel
theorem dX9_shift_92 : decode cX9_shift 92 = .ok (.iload 5, 2) := by decide +kernel
theorem dX9_shift_94 : decode cX9_shift 94 = .ok (.isub, 1) := by decide +kernel
theorem dX9_shift_95 : decode cX9_shift 95 = .ok (.if_icmp .le 6, 3) := by decide +kernel
theorem dX9_shift_98 : decode cX9_shift 98 = .ok (.bipush (-13), 2) := by decide +kernel
theorem dX9_shift_100 : decode cX9_shift 100 = .ok (.ireturn, 1) := by decide +kernel
theorem dX9_shift_101 : decode cX9_shift 101 = .ok (.iconst 0, 1) := by decide +kernel
theorem dX9_shift_102 : decode cX9_shift 102 = .ok (.istore 6, 2) := by decide +kernel
theorem dX9_shift_104 : decode cX9_shift 104 = .ok (.iload 6, 2) := by decide +kernel
theorem dX9_shift_106 : decode cX9_shift 106 = .ok (.iload 5, 2) := by decide +kernel
theorem dX9_shift_108 : decode cX9_shift 108 = .ok (.if_icmp .ge 30, 3) := by decide +kernel
theorem dX9_shift_111 : decode cX9_shift 111 = .ok (.aload_n 0, 1) := by decide +kernel
theorem dX9_shift_112 : decode cX9_shift 112 = .ok (.getfield 203, 3) := by decide +kernel
theorem dX9_shift_115 : decode cX9_shift 115 = .ok (.iload 6, 2) := by decide +kernel
theorem dX9_shift_117 : decode cX9_shift 117 = .ok (.aload_n 0, 1) := by decide +kernel
theorem dX9_shift_118 : decode cX9_shift 118 = .ok (.getfield 199, 3) := by decide +kernel
theorem dX9_shift_121 : decode cX9_shift 121 = .ok (.bipush 60, 2) := by decide +kernel
theorem dX9_shift_123 : decode cX9_shift 123 = .ok (.iload_n 1, 1) := by decide +kernel
theorem dX9_shift_124 : decode cX9_shift 124 = .ok (.imul, 1) := by decide +kernel
theorem dX9_shift_125 : decode cX9_shift 125 = .ok (.iload_n 2, 1) := by decide +kernel
theorem dX9_shift_126 : decode cX9_shift 126 = .ok (.iadd, 1) := by decide +kernel
theorem dX9_shift_127 : decode cX9_shift 127 = .ok (.iload 6, 2) := by decide +kernel
theorem dX9_shift_129 : decode cX9_shift 129 = .ok (.iadd, 1) := by decide +kernel
theorem dX9_shift_130 : decode cX9_shift 130 = .ok (.laload, 1) := by decide +kernel
theorem dX9_shift_131 : decode cX9_shift 131 = .ok (.lastore, 1) := by decide +kernel
theorem dX9_shift_132 : decode cX9_shift 132 = .ok (.iinc 6 1, 3) := by decide +kernel
theorem dX9_shift_135 : decode cX9_shift 135 = .ok (.goto (-31), 3) := by decide +kernel
theorem dX9_shift_138 : decode cX9_shift 138 = .ok (.iconst 0, 1) := by decide +kernel
theorem dX9_shift_139 : decode cX9_shift 139 = .ok (.istore 6, 2) := by decide +kernel
theorem dX9_shift_141 : decode cX9_shift 141 = .ok (.iload 6, 2) := by decide +kernel
theorem dX9_shift_143 : decode cX9_shift 143 = .ok (.iload 5, 2) := by decide +kernel
theorem dX9_shift_145 : decode cX9_shift 145 = .ok (.if_icmp .ge 31, 3) := by decide +kernel
theorem dX9_shift_148 : decode cX9_shift 148 = .ok (.aload_n 0, 1) := by decide +kernel
theorem dX9_shift_149 : decode cX9_shift 149 = .ok (.getfield 199, 3) := by decide +kernel
theorem dX9_shift_152 : decode cX9_shift 152 = .ok (.bipush 60, 2) := by decide +kernel
theorem dX9_shift_154 : decode cX9_shift 154 = .ok (.iload_n 3, 1) := by decide +kernel
theorem dX9_shift_155 : decode cX9_shift 155 = .ok (.imul, 1) := by decide +kernel
theorem dX9_shift_156 : decode cX9_shift 156 = .ok (.iload 4, 2) := by decide +kernel
theorem dX9_shift_158 : decode cX9_shift 158 = .ok (.iadd, 1) := by decide +kernel
theorem dX9_shift_159 : decode cX9_shift 159 = .ok (.iload 6, 2) := by decide +kernel
theorem dX9_shift_161 : decode cX9_shift 161 = .ok (.iadd, 1) := by decide +kernel
theorem dX9_shift_162 : decode cX9_shift 162 = .ok (.aload_n 0, 1) := by decide +kernel
theorem dX9_shift_163 : decode cX9_shift 163 = .ok (.getfield 203, 3) := by decide +kernel
theorem dX9_shift_166 : decode cX9_shift 166 = .ok (.iload 6, 2) := by decide +kernel
theorem dX9_shift_168 : decode cX9_shift 168 = .ok (.laload, 1) := by decide +kernel
theorem dX9_shift_169 : decode cX9_shift 169 = .ok (.lastore, 1) := by decide +kernel
theorem dX9_shift_170 : decode cX9_shift 170 = .ok (.iinc 6 1, 3) := by decide +kernel
theorem dX9_shift_173 : decode cX9_shift 173 = .ok (.goto (-32), 3) := by decide +kernel
theorem dX9_shift_176 : decode cX9_shift 176 = .ok (.iload 5, 2) := by decide +kernel
theorem dX9_shift_178 : decode cX9_shift 178 = .ok (.ireturn, 1) := by decide +kernel
def pX9_shift : List (List gm_A) := [[(gm_aload 0), (gm_iload 1), (gm_vcall 9 181 2), (gm_ifeq 1), (gm_aload 0), (gm_iload 3), (gm_vcall 9 181 2), (gm_ifne 2), (gm_goto 1)],
  [(gm_push (.inl (-1))), gm_iret],
  [(gm_aload 0), (gm_getR 9 960), (gm_iload 1), gm_iald, (gm_iflt 3), (gm_aload 0), (gm_getR 9 960), (gm_iload 3), gm_iald, (gm_ifge 4), (gm_goto 3)],
  [(gm_push (.inl (-11))), gm_iret],
  [(gm_aload 0), (gm_getR 9 960), (gm_iload 1), gm_iald, (gm_aload 0), (gm_getR 9 960), (gm_iload 3), gm_iald, (gm_ceq 5), (gm_push (.inl (-12))), gm_iret],
  [(gm_iload 5), (gm_iflt 6), (gm_iload 2), (gm_iflt 6), (gm_iload 4), (gm_iflt 6), (gm_iload 2), (gm_aload 0), (gm_getR 9 961), (gm_iload 1), gm_iald, (gm_iload 5), (gm_op2 gm_sub), (gm_cgt 6), (gm_iload 4), (gm_aload 0), (gm_getR 9 961), (gm_iload 3), gm_iald, (gm_iload 5), (gm_op2 gm_sub), (gm_cle 7), (gm_goto 6)],
  [(gm_push (.inl (-13))), gm_iret],
  [(gm_push (.inl 0)), (gm_istore 6), (gm_goto 8)],
  [(gm_iload 6), (gm_iload 5), (gm_cge 9), (gm_aload 0), (gm_getR 9 963), (gm_iload 6), (gm_aload 0), (gm_getR 9 962), (gm_push (.inl 60)), (gm_iload 1), (gm_op2 gm_mul), (gm_iload 2), (gm_op2 gm_add), (gm_iload 6), (gm_op2 gm_add), gm_lald, gm_last, (gm_iinc 6 1), (gm_goto 8)],
  [(gm_push (.inl 0)), (gm_istore 6), (gm_goto 10)],
  [(gm_iload 6), (gm_iload 5), (gm_cge 11), (gm_aload 0), (gm_getR 9 962), (gm_push (.inl 60)), (gm_iload 3), (gm_op2 gm_mul), (gm_iload 4), (gm_op2 gm_add), (gm_iload 6), (gm_op2 gm_add), (gm_aload 0), (gm_getR 9 963), (gm_iload 6), gm_lald, gm_last, (gm_iinc 6 1), (gm_goto 10)],
  [(gm_iload 5), gm_iret]]
def bpX9_shift : Nat → Nat := fun b => ([0, 16, 18, 36, 39, 57, 98, 101, 104, 138, 141, 176] : List Nat).getD b 0
set_option maxRecDepth 100000 in
theorem tX9_shift {D : va_G} {sz : Nat} {ad : Nat → Nat} {cA : Nat → ClassId} {xs : Int → Int} {Ln : Int} {l : Launch} : gm_SB D sz ad cA xs Ln l gm_mt cX9_shift "LongNoonModel" 7 false 1 bpX9_shift 0 pX9_shift :=
  ⟨gm_cn 1 (gm_m_aload _) (gm_s_aload_n dX9_shift_0 rfl) (
    gm_cn 2 (gm_m_iload _) (gm_s_iload_n dX9_shift_1 rfl) (
    gm_cn 5 (gm_m_vcall _ _ _) (gcl_X9_isTape gw_322 dX9_shift_2) (
    gm_cn 8 (gm_m_ifeq _) (gm_s_ifeq (bpc := bpX9_shift) (b := 1) dX9_shift_5 rfl) (
    gm_cn 9 (gm_m_aload _) (gm_s_aload_n dX9_shift_8 rfl) (
    gm_cn 10 (gm_m_iload _) (gm_s_iload_n dX9_shift_9 rfl) (
    gm_cn 13 (gm_m_vcall _ _ _) (gcl_X9_isTape gw_322 dX9_shift_10) (
    gm_cn 16 (gm_m_ifne _) (gm_s_ifne (bpc := bpX9_shift) (b := 2) dX9_shift_13 rfl) (
    gm_cn 0 (gm_m_goto _) (gm_s_fall (bpc := bpX9_shift) (b := 1) rfl 0) (
    trivial))))))))),
  gm_cn 17 (gm_m_push _) (gm_s_iconst dX9_shift_16) (
    gm_cn 0 gm_m_iret (gm_s_iret dX9_shift_17 rfl 0) (
    trivial)),
  gm_cn 19 (gm_m_aload _) (gm_s_aload_n dX9_shift_18 rfl) (
    gm_cn 22 (gm_m_getR _ _) (gf_getR_9_60 gw_276 dX9_shift_19) (
    gm_cn 23 (gm_m_iload _) (gm_s_iload_n dX9_shift_22 rfl) (
    gm_cn 24 gm_m_iald (gm_s_iald dX9_shift_23) (
    gm_cn 27 (gm_m_iflt _) (gm_s_iflt (bpc := bpX9_shift) (b := 3) dX9_shift_24 rfl) (
    gm_cn 28 (gm_m_aload _) (gm_s_aload_n dX9_shift_27 rfl) (
    gm_cn 31 (gm_m_getR _ _) (gf_getR_9_60 gw_276 dX9_shift_28) (
    gm_cn 32 (gm_m_iload _) (gm_s_iload_n dX9_shift_31 rfl) (
    gm_cn 33 gm_m_iald (gm_s_iald dX9_shift_32) (
    gm_cn 36 (gm_m_ifge _) (gm_s_ifge (bpc := bpX9_shift) (b := 4) dX9_shift_33 rfl) (
    gm_cn 0 (gm_m_goto _) (gm_s_fall (bpc := bpX9_shift) (b := 3) rfl 0) (
    trivial))))))))))),
  gm_cn 38 (gm_m_push _) (gm_s_bipush dX9_shift_36 rfl) (
    gm_cn 0 gm_m_iret (gm_s_iret dX9_shift_38 rfl 0) (
    trivial)),
  gm_cn 40 (gm_m_aload _) (gm_s_aload_n dX9_shift_39 rfl) (
    gm_cn 43 (gm_m_getR _ _) (gf_getR_9_60 gw_276 dX9_shift_40) (
    gm_cn 44 (gm_m_iload _) (gm_s_iload_n dX9_shift_43 rfl) (
    gm_cn 45 gm_m_iald (gm_s_iald dX9_shift_44) (
    gm_cn 46 (gm_m_aload _) (gm_s_aload_n dX9_shift_45 rfl) (
    gm_cn 49 (gm_m_getR _ _) (gf_getR_9_60 gw_276 dX9_shift_46) (
    gm_cn 50 (gm_m_iload _) (gm_s_iload_n dX9_shift_49 rfl) (
    gm_cn 51 gm_m_iald (gm_s_iald dX9_shift_50) (
    gm_cn 54 (gm_m_ceq _) (gm_s_ceq (bpc := bpX9_shift) (b := 5) dX9_shift_51 rfl) (
    gm_cn 56 (gm_m_push _) (gm_s_bipush dX9_shift_54 rfl) (
    gm_cn 0 gm_m_iret (gm_s_iret dX9_shift_56 rfl 0) (
    trivial))))))))))),
  gm_cn 59 (gm_m_iload _) (gm_s_iload dX9_shift_57) (
    gm_cn 62 (gm_m_iflt _) (gm_s_iflt (bpc := bpX9_shift) (b := 6) dX9_shift_59 rfl) (
    gm_cn 63 (gm_m_iload _) (gm_s_iload_n dX9_shift_62 rfl) (
    gm_cn 66 (gm_m_iflt _) (gm_s_iflt (bpc := bpX9_shift) (b := 6) dX9_shift_63 rfl) (
    gm_cn 68 (gm_m_iload _) (gm_s_iload dX9_shift_66) (
    gm_cn 71 (gm_m_iflt _) (gm_s_iflt (bpc := bpX9_shift) (b := 6) dX9_shift_68 rfl) (
    gm_cn 72 (gm_m_iload _) (gm_s_iload_n dX9_shift_71 rfl) (
    gm_cn 73 (gm_m_aload _) (gm_s_aload_n dX9_shift_72 rfl) (
    gm_cn 76 (gm_m_getR _ _) (gf_getR_9_61 gw_277 dX9_shift_73) (
    gm_cn 77 (gm_m_iload _) (gm_s_iload_n dX9_shift_76 rfl) (
    gm_cn 78 gm_m_iald (gm_s_iald dX9_shift_77) (
    gm_cn 80 (gm_m_iload _) (gm_s_iload dX9_shift_78) (
    gm_cn 81 (gm_m_op2 _) (gm_s_isub dX9_shift_80) (
    gm_cn 84 (gm_m_cgt _) (gm_s_cgt (bpc := bpX9_shift) (b := 6) dX9_shift_81 rfl) (
    gm_cn 86 (gm_m_iload _) (gm_s_iload dX9_shift_84) (
    gm_cn 87 (gm_m_aload _) (gm_s_aload_n dX9_shift_86 rfl) (
    gm_cn 90 (gm_m_getR _ _) (gf_getR_9_61 gw_277 dX9_shift_87) (
    gm_cn 91 (gm_m_iload _) (gm_s_iload_n dX9_shift_90 rfl) (
    gm_cn 92 gm_m_iald (gm_s_iald dX9_shift_91) (
    gm_cn 94 (gm_m_iload _) (gm_s_iload dX9_shift_92) (
    gm_cn 95 (gm_m_op2 _) (gm_s_isub dX9_shift_94) (
    gm_cn 98 (gm_m_cle _) (gm_s_cle (bpc := bpX9_shift) (b := 7) dX9_shift_95 rfl) (
    gm_cn 0 (gm_m_goto _) (gm_s_fall (bpc := bpX9_shift) (b := 6) rfl 0) (
    trivial))))))))))))))))))))))),
  gm_cn 100 (gm_m_push _) (gm_s_bipush dX9_shift_98 rfl) (
    gm_cn 0 gm_m_iret (gm_s_iret dX9_shift_100 rfl 0) (
    trivial)),
  gm_cn 102 (gm_m_push _) (gm_s_iconst dX9_shift_101) (
    gm_cn 104 (gm_m_istore _) (gm_s_istore dX9_shift_102 (by decide)) (
    gm_cn 0 (gm_m_goto _) (gm_s_fall (bpc := bpX9_shift) (b := 8) rfl 0) (
    trivial))),
  gm_cn 106 (gm_m_iload _) (gm_s_iload dX9_shift_104) (
    gm_cn 108 (gm_m_iload _) (gm_s_iload dX9_shift_106) (
    gm_cn 111 (gm_m_cge _) (gm_s_cge (bpc := bpX9_shift) (b := 9) dX9_shift_108 rfl) (
    gm_cn 112 (gm_m_aload _) (gm_s_aload_n dX9_shift_111 rfl) (
    gm_cn 115 (gm_m_getR _ _) (gf_getR_9_63 gw_279 dX9_shift_112) (
    gm_cn 117 (gm_m_iload _) (gm_s_iload dX9_shift_115) (
    gm_cn 118 (gm_m_aload _) (gm_s_aload_n dX9_shift_117 rfl) (
    gm_cn 121 (gm_m_getR _ _) (gf_getR_9_62 gw_278 dX9_shift_118) (
    gm_cn 123 (gm_m_push _) (gm_s_bipush dX9_shift_121 rfl) (
    gm_cn 124 (gm_m_iload _) (gm_s_iload_n dX9_shift_123 rfl) (
    gm_cn 125 (gm_m_op2 _) (gm_s_imul dX9_shift_124) (
    gm_cn 126 (gm_m_iload _) (gm_s_iload_n dX9_shift_125 rfl) (
    gm_cn 127 (gm_m_op2 _) (gm_s_iadd dX9_shift_126) (
    gm_cn 129 (gm_m_iload _) (gm_s_iload dX9_shift_127) (
    gm_cn 130 (gm_m_op2 _) (gm_s_iadd dX9_shift_129) (
    gm_cn 131 gm_m_lald (gm_s_lald dX9_shift_130) (
    gm_cn 132 gm_m_last (gm_s_last dX9_shift_131) (
    gm_cn 135 (gm_m_iinc _ _) (gm_s_iinc dX9_shift_132 (by decide)) (
    gm_cn 0 (gm_m_goto _) (gm_s_goto (bpc := bpX9_shift) (b := 8) dX9_shift_135 rfl 0) (
    trivial))))))))))))))))))),
  gm_cn 139 (gm_m_push _) (gm_s_iconst dX9_shift_138) (
    gm_cn 141 (gm_m_istore _) (gm_s_istore dX9_shift_139 (by decide)) (
    gm_cn 0 (gm_m_goto _) (gm_s_fall (bpc := bpX9_shift) (b := 10) rfl 0) (
    trivial))),
  gm_cn 143 (gm_m_iload _) (gm_s_iload dX9_shift_141) (
    gm_cn 145 (gm_m_iload _) (gm_s_iload dX9_shift_143) (
    gm_cn 148 (gm_m_cge _) (gm_s_cge (bpc := bpX9_shift) (b := 11) dX9_shift_145 rfl) (
    gm_cn 149 (gm_m_aload _) (gm_s_aload_n dX9_shift_148 rfl) (
    gm_cn 152 (gm_m_getR _ _) (gf_getR_9_62 gw_278 dX9_shift_149) (
    gm_cn 154 (gm_m_push _) (gm_s_bipush dX9_shift_152 rfl) (
    gm_cn 155 (gm_m_iload _) (gm_s_iload_n dX9_shift_154 rfl) (
    gm_cn 156 (gm_m_op2 _) (gm_s_imul dX9_shift_155) (
    gm_cn 158 (gm_m_iload _) (gm_s_iload dX9_shift_156) (
    gm_cn 159 (gm_m_op2 _) (gm_s_iadd dX9_shift_158) (
    gm_cn 161 (gm_m_iload _) (gm_s_iload dX9_shift_159) (
    gm_cn 162 (gm_m_op2 _) (gm_s_iadd dX9_shift_161) (
    gm_cn 163 (gm_m_aload _) (gm_s_aload_n dX9_shift_162 rfl) (
    gm_cn 166 (gm_m_getR _ _) (gf_getR_9_63 gw_279 dX9_shift_163) (
    gm_cn 168 (gm_m_iload _) (gm_s_iload dX9_shift_166) (
    gm_cn 169 gm_m_lald (gm_s_lald dX9_shift_168) (
    gm_cn 170 gm_m_last (gm_s_last dX9_shift_169) (
    gm_cn 173 (gm_m_iinc _ _) (gm_s_iinc dX9_shift_170 (by decide)) (
    gm_cn 0 (gm_m_goto _) (gm_s_goto (bpc := bpX9_shift) (b := 10) dX9_shift_173 rfl 0) (
    trivial))))))))))))))))))),
  gm_cn 178 (gm_m_iload _) (gm_s_iload dX9_shift_176) (
    gm_cn 0 gm_m_iret (gm_s_iret dX9_shift_178 rfl 0) (
    trivial)), trivial⟩
