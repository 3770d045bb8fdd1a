theorem dX8_init_0 : decode cX8_init 0 = .ok (.aload_n 0, 1) := by decide +kernel
theorem dX8_init_1 : decode cX8_init 1 = .ok (.invokespecial 3, 3) := by decide +kernel
theorem dX8_init_4 : decode cX8_init 4 = .ok (.aload_n 0, 1) := by decide +kernel
theorem dX8_init_5 : decode cX8_init 5 = .ok (.new 9, 3) := by decide +kernel
theorem dX8_init_8 : decode cX8_init 8 = .ok (.dup, 1) := by decide +kernel
theorem dX8_init_9 : decode cX8_init 9 = .ok (.invokespecial 11, 3) := by decide +kernel
theorem dX8_init_12 : decode cX8_init 12 = .ok (.putfield 12, 3) := by decide +kernel
theorem dX8_init_15 : decode cX8_init 15 = .ok (.aload_n 0, 1) := by decide +kernel
theorem dX8_init_16 : decode cX8_init 16 = .ok (.new 9, 3) := by decide +kernel
theorem dX8_init_19 : decode cX8_init 19 = .ok (.dup, 1) := by decide +kernel
theorem dX8_init_20 : decode cX8_init 20 = .ok (.invokespecial 11, 3) := by decide +kernel
theorem dX8_init_23 : decode cX8_init 23 = .ok (.putfield 18, 3) := by decide +kernel
theorem dX8_init_26 : decode cX8_init 26 = .ok (.aload_n 0, 1) := by decide +kernel
theorem dX8_init_27 : decode cX8_init 27 = .ok (.new 9, 3) := by decide +kernel
theorem dX8_init_30 : decode cX8_init 30 = .ok (.dup, 1) := by decide +kernel
theorem dX8_init_31 : decode cX8_init 31 = .ok (.invokespecial 11, 3) := by decide +kernel
theorem dX8_init_34 : decode cX8_init 34 = .ok (.putfield 21, 3) := by decide +kernel
theorem dX8_init_37 : decode cX8_init 37 = .ok (.aload_n 0, 1) := by decide +kernel
theorem dX8_init_38 : decode cX8_init 38 = .ok (.new 24, 3) := by decide +kernel
theorem dX8_init_41 : decode cX8_init 41 = .ok (.dup, 1) := by decide +kernel
theorem dX8_init_42 : decode cX8_init 42 = .ok (.invokespecial 26, 3) := by decide +kernel
theorem dX8_init_45 : decode cX8_init 45 = .ok (.putfield 27, 3) := by decide +kernel
theorem dX8_init_48 : decode cX8_init 48 = .ok (.aload_n 0, 1) := by decide +kernel
theorem dX8_init_49 : decode cX8_init 49 = .ok (.new 24, 3) := by decide +kernel
theorem dX8_init_52 : decode cX8_init 52 = .ok (.dup, 1) := by decide +kernel
theorem dX8_init_53 : decode cX8_init 53 = .ok (.invokespecial 26, 3) := by decide +kernel
theorem dX8_init_56 : decode cX8_init 56 = .ok (.putfield 31, 3) := by decide +kernel
theorem dX8_init_59 : decode cX8_init 59 = .ok (.aload_n 0, 1) := by decide +kernel
theorem dX8_init_60 : decode cX8_init 60 = .ok (.new 34, 3) := by decide +kernel
theorem dX8_init_63 : decode cX8_init 63 = .ok (.dup, 1) := by decide +kernel
theorem dX8_init_64 : decode cX8_init 64 = .ok (.invokespecial 36, 3) := by decide +kernel
theorem dX8_init_67 : decode cX8_init 67 = .ok (.putfield 37, 3) := by decide +kernel
theorem dX8_init_70 : decode cX8_init 70 = .ok (.aload_n 0, 1) := by decide +kernel
theorem dX8_init_71 : decode cX8_init 71 = .ok (.new 41, 3) := by decide +kernel
theorem dX8_init_74 : decode cX8_init 74 = .ok (.dup, 1) := by decide +kernel
theorem dX8_init_75 : decode cX8_init 75 = .ok (.invokespecial 43, 3) := by decide +kernel
theorem dX8_init_78 : decode cX8_init 78 = .ok (.putfield 44, 3) := by decide +kernel
theorem dX8_init_81 : decode cX8_init 81 = .ok (.aload_n 0, 1) := by decide +kernel
theorem dX8_init_82 : decode cX8_init 82 = .ok (.new 48, 3) := by decide +kernel
theorem dX8_init_85 : decode cX8_init 85 = .ok (.dup, 1) := by decide +kernel
theorem dX8_init_86 : decode cX8_init 86 = .ok (.invokespecial 50, 3) := by decide +kernel
theorem dX8_init_89 : decode cX8_init 89 = .ok (.putfield 51, 3) := by decide +kernel
theorem dX8_init_92 : decode cX8_init 92 = .ok (.aload_n 0, 1) := by decide +kernel
theorem dX8_init_93 : decode cX8_init 93 = .ok (.bipush 6, 2) := by decide +kernel
theorem dX8_init_95 : decode cX8_init 95 = .ok (.anewarray 48, 3) := by decide +kernel
theorem dX8_init_98 : decode cX8_init 98 = .ok (.putfield 55, 3) := by decide +kernel
theorem dX8_init_101 : decode cX8_init 101 = .ok (.aload_n 0, 1) := by decide +kernel
theorem dX8_init_102 : decode cX8_init 102 = .ok (.new 59, 3) := by decide +kernel
theorem dX8_init_105 : decode cX8_init 105 = .ok (.dup, 1) := by decide +kernel
theorem dX8_init_106 : decode cX8_init 106 = .ok (.invokespecial 61, 3) := by decide +kernel
theorem dX8_init_109 : decode cX8_init 109 = .ok (.putfield 62, 3) := by decide +kernel
theorem dX8_init_112 : decode cX8_init 112 = .ok (.aload_n 0, 1) := by decide +kernel
theorem dX8_init_113 : decode cX8_init 113 = .ok (.bipush 6, 2) := by decide +kernel
theorem dX8_init_115 : decode cX8_init 115 = .ok (.anewarray 66, 3) := by decide +kernel
theorem dX8_init_118 : decode cX8_init 118 = .ok (.putfield 68, 3) := by decide +kernel
theorem dX8_init_121 : decode cX8_init 121 = .ok (.iconst 0, 1) := by decide +kernel
theorem dX8_init_122 : decode cX8_init 122 = .ok (.istore_n 1, 1) := by decide +kernel
theorem dX8_init_123 : decode cX8_init 123 = .ok (.iload_n 1, 1) := by decide +kernel
theorem dX8_init_124 : decode cX8_init 124 = .ok (.aload_n 0, 1) := by decide +kernel
theorem dX8_init_125 : decode cX8_init 125 = .ok (.getfield 55, 3) := by decide +kernel
theorem dX8_init_128 : decode cX8_init 128 = .ok (.arraylength, 1) := by decide +kernel
theorem dX8_init_129 : decode cX8_init 129 = .ok (.if_icmp .ge 22, 3) := by decide +kernel
theorem dX8_init_132 : decode cX8_init 132 = .ok (.aload_n 0, 1) := by decide +kernel
theorem dX8_init_133 : decode cX8_init 133 = .ok (.getfield 55, 3) := by decide +kernel
theorem dX8_init_136 : decode cX8_init 136 = .ok (.iload_n 1, 1) := by decide +kernel
theorem dX8_init_137 : decode cX8_init 137 = .ok (.new 48, 3) := by decide +kernel
theorem dX8_init_140 : decode cX8_init 140 = .ok (.dup, 1) := by decide +kernel
theorem dX8_init_141 : decode cX8_init 141 = .ok (.invokespecial 50, 3) := by decide +kernel
theorem dX8_init_144 : decode cX8_init 144 = .ok (.aastore, 1) := by decide +kernel
theorem dX8_init_145 : decode cX8_init 145 = .ok (.iinc 1 1, 3) := by decide +kernel
theorem dX8_init_148 : decode cX8_init 148 = .ok (.goto (-25), 3) := by decide +kernel
theorem dX8_init_151 : decode cX8_init 151 = .ok (.iconst 0, 1) := by decide +kernel
theorem dX8_init_152 : decode cX8_init 152 = .ok (.istore_n 1, 1) := by decide +kernel
theorem dX8_init_153 : decode cX8_init 153 = .ok (.iload_n 1, 1) := by decide +kernel
theorem dX8_init_154 : decode cX8_init 154 = .ok (.aload_n 0, 1) := by decide +kernel
theorem dX8_init_155 : decode cX8_init 155 = .ok (.getfield 68, 3) := by decide +kernel
theorem dX8_init_158 : decode cX8_init 158 = .ok (.arraylength, 1) := by decide +kernel
theorem dX8_init_159 : decode cX8_init 159 = .ok (.if_icmp .ge 22, 3) := by decide +kernel
theorem dX8_init_162 : decode cX8_init 162 = .ok (.aload_n 0, 1) := by decide +kernel
theorem dX8_init_163 : decode cX8_init 163 = .ok (.getfield 68, 3) := by decide +kernel
theorem dX8_init_166 : decode cX8_init 166 = .ok (.iload_n 1, 1) := by decide +kernel
theorem dX8_init_167 : decode cX8_init 167 = .ok (.new 66, 3) := by decide +kernel
theorem dX8_init_170 : decode cX8_init 170 = .ok (.dup, 1) := by decide +kernel
theorem dX8_init_171 : decode cX8_init 171 = .ok (.invokespecial 72, 3) := by decide +kernel
theorem dX8_init_174 : decode cX8_init 174 = .ok (.aastore, 1) := by decide +kernel
theorem dX8_init_175 : decode cX8_init 175 = .ok (.iinc 1 1, 3) := by decide +kernel
theorem dX8_init_178 : decode cX8_init 178 = .ok (.goto (-25), 3) := by decide +kernel
theorem dX8_init_181 : decode cX8_init 181 = .ok (.return_, 1) := by decide +kernel
def pX8_init : List (List gm_A) := [[(gm_aload 0), gm_oinit, (gm_aload 0), (gm_new 7), gm_dup, (gm_vcall 7 46 1), (gm_putR 8 800), (gm_aload 0), (gm_new 7), gm_dup, (gm_vcall 7 46 1), (gm_putR 8 801), (gm_aload 0), (gm_new 7), gm_dup, (gm_vcall 7 46 1), (gm_putR 8 803), (gm_aload 0), (gm_new 2), gm_dup, (gm_vcall 2 11 1), (gm_putR 8 804), (gm_aload 0), (gm_new 2), gm_dup, (gm_vcall 2 11 1), (gm_putR 8 805), (gm_aload 0), (gm_new 5), gm_dup, (gm_vcall 5 36 1), (gm_putR 8 806), (gm_aload 0), (gm_new 4), gm_dup, (gm_vcall 4 25 1), (gm_putR 8 807), (gm_aload 0), (gm_new 1), gm_dup, (gm_vcall 1 7 1), (gm_putR 8 808), (gm_aload 0), (gm_push (.inl 6)), (gm_newarr 25), (gm_putR 8 809), (gm_aload 0), (gm_new 3), gm_dup, (gm_vcall 3 20 1), (gm_putR 8 811), (gm_aload 0), (gm_push (.inl 6)), (gm_newarr 26), (gm_putR 8 812), (gm_push (.inl 0)), (gm_istore 1), (gm_goto 1)],
  [(gm_iload 1), (gm_aload 0), (gm_getR 8 809), gm_alen, (gm_cge 2), (gm_aload 0), (gm_getR 8 809), (gm_iload 1), (gm_new 1), gm_dup, (gm_vcall 1 7 1), (gm_aast 25 1), (gm_iinc 1 1), (gm_goto 1)],
  [(gm_push (.inl 0)), (gm_istore 1), (gm_goto 3)],
  [(gm_iload 1), (gm_aload 0), (gm_getR 8 812), gm_alen, (gm_cge 4), (gm_aload 0), (gm_getR 8 812), (gm_iload 1), (gm_new 6), gm_dup, (gm_vcall 6 41 1), (gm_aast 26 6), (gm_iinc 1 1), (gm_goto 3)],
  [gm_vret]]
def bpX8_init : Nat → Nat := fun b => ([0, 123, 151, 153, 181] : List Nat).getD b 0
set_option maxRecDepth 100000 in
theorem tX8_init {D : va_G} {sz : Nat} {ad : Nat → Nat} {cA : Nat → ClassId} {xs : Int → Int} {Ln : Int} {l : Launch} : gm_SB D sz ad cA xs Ln l gm_mt cX8_init "LongNoon" 2 true 0 bpX8_init 0 pX8_init :=
  ⟨gm_cn 1 (gm_m_aload _) (gm_s_aload_n dX8_init_0 rfl) (
    gm_cn 4 gm_m_oinit (gm_s_oinit gw_127 gw_1 gw_2 dX8_init_1) (
    gm_cn 5 (gm_m_aload _) (gm_s_aload_n dX8_init_4 rfl) (
    gm_cn 8 (gm_m_new _) (gnw_7 gw_128 dX8_init_5) (
    gm_cn 9 gm_m_dup (gm_s_dup dX8_init_8) (
    gm_cn 12 (gm_m_vcall _ _ _) (gcl_X7_init gw_129 dX8_init_9) (
    gm_cn 15 (gm_m_putR _ _) (gf_putR_8_0 gw_130 dX8_init_12) (
    gm_cn 16 (gm_m_aload _) (gm_s_aload_n dX8_init_15 rfl) (
    gm_cn 19 (gm_m_new _) (gnw_7 gw_128 dX8_init_16) (
    gm_cn 20 gm_m_dup (gm_s_dup dX8_init_19) (
    gm_cn 23 (gm_m_vcall _ _ _) (gcl_X7_init gw_129 dX8_init_20) (
    gm_cn 26 (gm_m_putR _ _) (gf_putR_8_1 gw_131 dX8_init_23) (
    gm_cn 27 (gm_m_aload _) (gm_s_aload_n dX8_init_26 rfl) (
    gm_cn 30 (gm_m_new _) (gnw_7 gw_128 dX8_init_27) (
    gm_cn 31 gm_m_dup (gm_s_dup dX8_init_30) (
    gm_cn 34 (gm_m_vcall _ _ _) (gcl_X7_init gw_129 dX8_init_31) (
    gm_cn 37 (gm_m_putR _ _) (gf_putR_8_3 gw_132 dX8_init_34) (
    gm_cn 38 (gm_m_aload _) (gm_s_aload_n dX8_init_37 rfl) (
    gm_cn 41 (gm_m_new _) (gnw_2 gw_133 dX8_init_38) (
    gm_cn 42 gm_m_dup (gm_s_dup dX8_init_41) (
    gm_cn 45 (gm_m_vcall _ _ _) (gcl_X2_initN (List.mem_of_getElem? (i := 2) rfl) dX8_init_42) (
    gm_cn 48 (gm_m_putR _ _) (gf_putR_8_4 gw_134 dX8_init_45) (
    gm_cn 49 (gm_m_aload _) (gm_s_aload_n dX8_init_48 rfl) (
    gm_cn 52 (gm_m_new _) (gnw_2 gw_133 dX8_init_49) (
    gm_cn 53 gm_m_dup (gm_s_dup dX8_init_52) (
    gm_cn 56 (gm_m_vcall _ _ _) (gcl_X2_initN (List.mem_of_getElem? (i := 2) rfl) dX8_init_53) (
    gm_cn 59 (gm_m_putR _ _) (gf_putR_8_5 gw_135 dX8_init_56) (
    gm_cn 60 (gm_m_aload _) (gm_s_aload_n dX8_init_59 rfl) (
    gm_cn 63 (gm_m_new _) (gnw_5 gw_136 dX8_init_60) (
    gm_cn 64 gm_m_dup (gm_s_dup dX8_init_63) (
    gm_cn 67 (gm_m_vcall _ _ _) (gcl_X5_initN (List.mem_of_getElem? (i := 3) rfl) dX8_init_64) (
    gm_cn 70 (gm_m_putR _ _) (gf_putR_8_6 gw_137 dX8_init_67) (
    gm_cn 71 (gm_m_aload _) (gm_s_aload_n dX8_init_70 rfl) (
    gm_cn 74 (gm_m_new _) (gnw_4 gw_138 dX8_init_71) (
    gm_cn 75 gm_m_dup (gm_s_dup dX8_init_74) (
    gm_cn 78 (gm_m_vcall _ _ _) (gcl_X4_initN (List.mem_of_getElem? (i := 4) rfl) dX8_init_75) (
    gm_cn 81 (gm_m_putR _ _) (gf_putR_8_7 gw_139 dX8_init_78) (
    gm_cn 82 (gm_m_aload _) (gm_s_aload_n dX8_init_81 rfl) (
    gm_cn 85 (gm_m_new _) (gnw_1 gw_140 dX8_init_82) (
    gm_cn 86 gm_m_dup (gm_s_dup dX8_init_85) (
    gm_cn 89 (gm_m_vcall _ _ _) (gcl_X1_initN (List.mem_of_getElem? (i := 5) rfl) dX8_init_86) (
    gm_cn 92 (gm_m_putR _ _) (gf_putR_8_8 gw_141 dX8_init_89) (
    gm_cn 93 (gm_m_aload _) (gm_s_aload_n dX8_init_92 rfl) (
    gm_cn 95 (gm_m_push _) (gm_s_bipush dX8_init_93 rfl) (
    gm_cn 98 (gm_m_newarr _) (gm_s_anewarr (t0 := 5) (by decide) (fun _ => rfl) (fun _ _ h => h.2.2.1.2.1) gw_140 dX8_init_95) (
    gm_cn 101 (gm_m_putR _ _) (gf_putR_8_9 gw_142 dX8_init_98) (
    gm_cn 102 (gm_m_aload _) (gm_s_aload_n dX8_init_101 rfl) (
    gm_cn 105 (gm_m_new _) (gnw_3 gw_143 dX8_init_102) (
    gm_cn 106 gm_m_dup (gm_s_dup dX8_init_105) (
    gm_cn 109 (gm_m_vcall _ _ _) (gcl_X3_initN (List.mem_of_getElem? (i := 7) rfl) dX8_init_106) (
    gm_cn 112 (gm_m_putR _ _) (gf_putR_8_11 gw_144 dX8_init_109) (
    gm_cn 113 (gm_m_aload _) (gm_s_aload_n dX8_init_112 rfl) (
    gm_cn 115 (gm_m_push _) (gm_s_bipush dX8_init_113 rfl) (
    gm_cn 118 (gm_m_newarr _) (gm_s_anewarr (t0 := 6) (by decide) (fun _ => rfl) (fun _ _ h => h.2.2.1.2.2) gw_145 dX8_init_115) (
    gm_cn 121 (gm_m_putR _ _) (gf_putR_8_12 gw_146 dX8_init_118) (
    gm_cn 122 (gm_m_push _) (gm_s_iconst dX8_init_121) (
    gm_cn 123 (gm_m_istore _) (gm_s_istore_n dX8_init_122 rfl (by decide)) (
    gm_cn 0 (gm_m_goto _) (gm_s_fall (bpc := bpX8_init) (b := 1) rfl 0) (
    trivial)))))))))))))))))))))))))))))))))))))))))))))))))))))))))),
  gm_cn 124 (gm_m_iload _) (gm_s_iload_n dX8_init_123 rfl) (
    gm_cn 125 (gm_m_aload _) (gm_s_aload_n dX8_init_124 rfl) (
    gm_cn 128 (gm_m_getR _ _) (gf_getR_8_9 gw_142 dX8_init_125) (
    gm_cn 129 gm_m_alen (gm_s_alen dX8_init_128) (
    gm_cn 132 (gm_m_cge _) (gm_s_cge (bpc := bpX8_init) (b := 2) dX8_init_129 rfl) (
    gm_cn 133 (gm_m_aload _) (gm_s_aload_n dX8_init_132 rfl) (
    gm_cn 136 (gm_m_getR _ _) (gf_getR_8_9 gw_142 dX8_init_133) (
    gm_cn 137 (gm_m_iload _) (gm_s_iload_n dX8_init_136 rfl) (
    gm_cn 140 (gm_m_new _) (gnw_1 gw_140 dX8_init_137) (
    gm_cn 141 gm_m_dup (gm_s_dup dX8_init_140) (
    gm_cn 144 (gm_m_vcall _ _ _) (gcl_X1_initN (List.mem_of_getElem? (i := 5) rfl) dX8_init_141) (
    gm_cn 145 (gm_m_aast _ _) (gm_s_aast (t0 := 5) (by decide) gc_1 (by decide) (fun _ => rfl) dX8_init_144) (
    gm_cn 148 (gm_m_iinc _ _) (gm_s_iinc dX8_init_145 (by decide)) (
    gm_cn 0 (gm_m_goto _) (gm_s_goto (bpc := bpX8_init) (b := 1) dX8_init_148 rfl 0) (
    trivial)))))))))))))),
  gm_cn 152 (gm_m_push _) (gm_s_iconst dX8_init_151) (
    gm_cn 153 (gm_m_istore _) (gm_s_istore_n dX8_init_152 rfl (by decide)) (
    gm_cn 0 (gm_m_goto _) (gm_s_fall (bpc := bpX8_init) (b := 3) rfl 0) (
    trivial))),
  gm_cn 154 (gm_m_iload _) (gm_s_iload_n dX8_init_153 rfl) (
    gm_cn 155 (gm_m_aload _) (gm_s_aload_n dX8_init_154 rfl) (
    gm_cn 158 (gm_m_getR _ _) (gf_getR_8_12 gw_146 dX8_init_155) (
    gm_cn 159 gm_m_alen (gm_s_alen dX8_init_158) (
    gm_cn 162 (gm_m_cge _) (gm_s_cge (bpc := bpX8_init) (b := 4) dX8_init_159 rfl) (
    gm_cn 163 (gm_m_aload _) (gm_s_aload_n dX8_init_162 rfl) (
    gm_cn 166 (gm_m_getR _ _) (gf_getR_8_12 gw_146 dX8_init_163) (
    gm_cn 167 (gm_m_iload _) (gm_s_iload_n dX8_init_166 rfl) (
    gm_cn 170 (gm_m_new _) (gnw_6 gw_145 dX8_init_167) (
    gm_cn 171 gm_m_dup (gm_s_dup dX8_init_170) (
    gm_cn 174 (gm_m_vcall _ _ _) (gcl_X6_initN (List.mem_of_getElem? (i := 8) rfl) dX8_init_171) (
    gm_cn 175 (gm_m_aast _ _) (gm_s_aast (t0 := 6) (by decide) gc_6 (by decide) (fun _ => rfl) dX8_init_174) (
    gm_cn 178 (gm_m_iinc _ _) (gm_s_iinc dX8_init_175 (by decide)) (
    gm_cn 0 (gm_m_goto _) (gm_s_goto (bpc := bpX8_init) (b := 3) dX8_init_178 rfl 0) (
    trivial)))))))))))))),
  gm_cn 0 gm_m_vret (gm_s_vret dX8_init_181 rfl 0) (
    trivial), trivial⟩
theorem dX8_house_0 : decode cX8_house 0 = .ok (.iload_n 1, 1) := by decide +kernel
theorem dX8_house_1 : decode cX8_house 1 = .ok (.bipush 6, 2) := by decide +kernel
theorem dX8_house_3 : decode cX8_house 3 = .ok (.invokestatic 73, 3) := by decide +kernel
theorem dX8_house_6 : decode cX8_house 6 = .ok (.ifCond .ne 5, 3) := by decide +kernel
theorem dX8_house_9 : decode cX8_house 9 = .ok (.iconst (-1), 1) := by decide +kernel
theorem dX8_house_10 : decode cX8_house 10 = .ok (.ireturn, 1) := by decide +kernel
theorem dX8_house_11 : decode cX8_house 11 = .ok (.iload_n 2, 1) := by decide +kernel
theorem dX8_house_12 : decode cX8_house 12 = .ok (.bipush 9, 2) := by decide +kernel
theorem dX8_house_14 : decode cX8_house 14 = .ok (.invokestatic 73, 3) := by decide +kernel
theorem dX8_house_17 : decode cX8_house 17 = .ok (.ifCond .eq 23, 3) := by decide +kernel
theorem dX8_house_20 : decode cX8_house 20 = .ok (.iload_n 3, 1) := by decide +kernel
theorem dX8_house_21 : decode cX8_house 21 = .ok (.sipush 199, 3) := by decide +kernel
theorem dX8_house_24 : decode cX8_house 24 = .ok (.invokestatic 73, 3) := by decide +kernel
theorem dX8_house_27 : decode cX8_house 27 = .ok (.ifCond .eq 13, 3) := by decide +kernel
theorem dX8_house_30 : decode cX8_house 30 = .ok (.iload 4, 2) := by decide +kernel
theorem dX8_house_32 : decode cX8_house 32 = .ok (.bipush 99, 2) := by decide +kernel
theorem dX8_house_34 : decode cX8_house 34 = .ok (.invokestatic 73, 3) := by decide +kernel
theorem dX8_house_37 : decode cX8_house 37 = .ok (.ifCond .ne 6, 3) := by decide +kernel
theorem dX8_house_40 : decode cX8_house 40 = .ok (.bipush (-2), 2) := by decide +kernel
theorem dX8_house_42 : decode cX8_house 42 = .ok (.ireturn, 1) := by decide +kernel
theorem dX8_house_43 : decode cX8_house 43 = .ok (.aload_n 0, 1) := by decide +kernel
theorem dX8_house_44 : decode cX8_house 44 = .ok (.getfield 12, 3) := by decide +kernel
theorem dX8_house_47 : decode cX8_house 47 = .ok (.getfield 77, 3) := by decide +kernel
theorem dX8_house_50 : decode cX8_house 50 = .ok (.bipush 6, 2) := by decide +kernel
theorem dX8_house_52 : decode cX8_house 52 = .ok (.if_icmp .lt 6, 3) := by decide +kernel
theorem dX8_house_55 : decode cX8_house 55 = .ok (.bipush (-4), 2) := by decide +kernel
theorem dX8_house_57 : decode cX8_house 57 = .ok (.ireturn, 1) := by decide +kernel
theorem dX8_house_58 : decode cX8_house 58 = .ok (.aload_n 0, 1) := by decide +kernel
theorem dX8_house_59 : decode cX8_house 59 = .ok (.getfield 12, 3) := by decide +kernel
theorem dX8_house_62 : decode cX8_house 62 = .ok (.getfield 77, 3) := by decide +kernel
theorem dX8_house_65 : decode cX8_house 65 = .ok (.istore 5, 2) := by decide +kernel
theorem dX8_house_67 : decode cX8_house 67 = .ok (.aload_n 0, 1) := by decide +kernel
theorem dX8_house_68 : decode cX8_house 68 = .ok (.getfield 12, 3) := by decide +kernel
theorem dX8_house_71 : decode cX8_house 71 = .ok (.getfield 81, 3) := by decide +kernel
theorem dX8_house_74 : decode cX8_house 74 = .ok (.iload 5, 2) := by decide +kernel
theorem dX8_house_76 : decode cX8_house 76 = .ok (.aaload, 1) := by decide +kernel
theorem dX8_house_77 : decode cX8_house 77 = .ok (.iload 5, 2) := by decide +kernel
theorem dX8_house_79 : decode cX8_house 79 = .ok (.iload_n 1, 1) := by decide +kernel
theorem dX8_house_80 : decode cX8_house 80 = .ok (.iload_n 2, 1) := by decide +kernel
theorem dX8_house_81 : decode cX8_house 81 = .ok (.iload_n 3, 1) := by decide +kernel
theorem dX8_house_82 : decode cX8_house 82 = .ok (.iload 4, 2) := by decide +kernel
theorem dX8_house_84 : decode cX8_house 84 = .ok (.invokevirtual 85, 3) := by decide +kernel
theorem dX8_house_87 : decode cX8_house 87 = .ok (.aload_n 0, 1) := by decide +kernel
theorem dX8_house_88 : decode cX8_house 88 = .ok (.getfield 12, 3) := by decide +kernel
theorem dX8_house_91 : decode cX8_house 91 = .ok (.dup, 1) := by decide +kernel
theorem dX8_house_92 : decode cX8_house 92 = .ok (.getfield 77, 3) := by decide +kernel
theorem dX8_house_95 : decode cX8_house 95 = .ok (.iconst 1, 1) := by decide +kernel
theorem dX8_house_96 : decode cX8_house 96 = .ok (.iadd, 1) := by decide +kernel
theorem dX8_house_97 : decode cX8_house 97 = .ok (.putfield 77, 3) := by decide +kernel
theorem dX8_house_100 : decode cX8_house 100 = .ok (.iload 5, 2) := by decide +kernel
theorem dX8_house_102 : decode cX8_house 102 = .ok (.ireturn, 1) := by decide +kernel
def pX8_house : List (List gm_A) := [[(gm_iload 1), (gm_push (.inl 6)), (gm_scall 90 2), (gm_ifne 1), (gm_push (.inl (-1))), gm_iret],
  [(gm_iload 2), (gm_push (.inl 9)), (gm_scall 90 2), (gm_ifeq 2), (gm_iload 3), (gm_push (.inl 199)), (gm_scall 90 2), (gm_ifeq 2), (gm_iload 4), (gm_push (.inl 99)), (gm_scall 90 2), (gm_ifne 3), (gm_goto 2)],
  [(gm_push (.inl (-2))), gm_iret],
  [(gm_aload 0), (gm_getR 8 800), (gm_getI 7 701), (gm_push (.inl 6)), (gm_clt 4), (gm_push (.inl (-4))), gm_iret],
  [(gm_aload 0), (gm_getR 8 800), (gm_getI 7 701), (gm_istore 5), (gm_aload 0), (gm_getR 8 800), (gm_getR 7 700), (gm_iload 5), (gm_aald 24), (gm_iload 5), (gm_iload 1), (gm_iload 2), (gm_iload 3), (gm_iload 4), (gm_vcall 2 12 6), (gm_aload 0), (gm_getR 8 800), gm_dup, (gm_getI 7 701), (gm_push (.inl 1)), (gm_op2 gm_add), (gm_putI 7 701), (gm_iload 5), gm_iret]]
def bpX8_house : Nat → Nat := fun b => ([0, 11, 40, 43, 58] : List Nat).getD b 0
set_option maxRecDepth 100000 in
theorem tX8_house {D : va_G} {sz : Nat} {ad : Nat → Nat} {cA : Nat → ClassId} {xs : Int → Int} {Ln : Int} {l : Launch} : gm_SB D sz ad cA xs Ln l gm_mt cX8_house "LongNoon" 6 false 1 bpX8_house 0 pX8_house :=
  ⟨gm_cn 1 (gm_m_iload _) (gm_s_iload_n dX8_house_0 rfl) (
    gm_cn 3 (gm_m_push _) (gm_s_bipush dX8_house_1 rfl) (
    gm_cn 6 (gm_m_scall _ _) (gcl_X8_within gw_147 dX8_house_3) (
    gm_cn 9 (gm_m_ifne _) (gm_s_ifne (bpc := bpX8_house) (b := 1) dX8_house_6 rfl) (
    gm_cn 10 (gm_m_push _) (gm_s_iconst dX8_house_9) (
    gm_cn 0 gm_m_iret (gm_s_iret dX8_house_10 rfl 0) (
    trivial)))))),
  gm_cn 12 (gm_m_iload _) (gm_s_iload_n dX8_house_11 rfl) (
    gm_cn 14 (gm_m_push _) (gm_s_bipush dX8_house_12 rfl) (
    gm_cn 17 (gm_m_scall _ _) (gcl_X8_within gw_147 dX8_house_14) (
    gm_cn 20 (gm_m_ifeq _) (gm_s_ifeq (bpc := bpX8_house) (b := 2) dX8_house_17 rfl) (
    gm_cn 21 (gm_m_iload _) (gm_s_iload_n dX8_house_20 rfl) (
    gm_cn 24 (gm_m_push _) (gm_s_sipush dX8_house_21 rfl) (
    gm_cn 27 (gm_m_scall _ _) (gcl_X8_within gw_147 dX8_house_24) (
    gm_cn 30 (gm_m_ifeq _) (gm_s_ifeq (bpc := bpX8_house) (b := 2) dX8_house_27 rfl) (
    gm_cn 32 (gm_m_iload _) (gm_s_iload dX8_house_30) (
    gm_cn 34 (gm_m_push _) (gm_s_bipush dX8_house_32 rfl) (
    gm_cn 37 (gm_m_scall _ _) (gcl_X8_within gw_147 dX8_house_34) (
    gm_cn 40 (gm_m_ifne _) (gm_s_ifne (bpc := bpX8_house) (b := 3) dX8_house_37 rfl) (
    gm_cn 0 (gm_m_goto _) (gm_s_fall (bpc := bpX8_house) (b := 2) rfl 0) (
    trivial))))))))))))),
  gm_cn 42 (gm_m_push _) (gm_s_bipush dX8_house_40 rfl) (
    gm_cn 0 gm_m_iret (gm_s_iret dX8_house_42 rfl 0) (
    trivial)),
  gm_cn 44 (gm_m_aload _) (gm_s_aload_n dX8_house_43 rfl) (
    gm_cn 47 (gm_m_getR _ _) (gf_getR_8_0 gw_130 dX8_house_44) (
    gm_cn 50 (gm_m_getI _ _) (gf_getI_7_1 gw_148 dX8_house_47) (
    gm_cn 52 (gm_m_push _) (gm_s_bipush dX8_house_50 rfl) (
    gm_cn 55 (gm_m_clt _) (gm_s_clt (bpc := bpX8_house) (b := 4) dX8_house_52 rfl) (
    gm_cn 57 (gm_m_push _) (gm_s_bipush dX8_house_55 rfl) (
    gm_cn 0 gm_m_iret (gm_s_iret dX8_house_57 rfl 0) (
    trivial))))))),
  gm_cn 59 (gm_m_aload _) (gm_s_aload_n dX8_house_58 rfl) (
    gm_cn 62 (gm_m_getR _ _) (gf_getR_8_0 gw_130 dX8_house_59) (
    gm_cn 65 (gm_m_getI _ _) (gf_getI_7_1 gw_148 dX8_house_62) (
    gm_cn 67 (gm_m_istore _) (gm_s_istore dX8_house_65 (by decide)) (
    gm_cn 68 (gm_m_aload _) (gm_s_aload_n dX8_house_67 rfl) (
    gm_cn 71 (gm_m_getR _ _) (gf_getR_8_0 gw_130 dX8_house_68) (
    gm_cn 74 (gm_m_getR _ _) (gf_getR_7_0 gw_149 dX8_house_71) (
    gm_cn 76 (gm_m_iload _) (gm_s_iload dX8_house_74) (
    gm_cn 77 (gm_m_aald _) (gm_s_aald (t0 := 4) (by decide) (fun _ => rfl) dX8_house_76) (
    gm_cn 79 (gm_m_iload _) (gm_s_iload dX8_house_77) (
    gm_cn 80 (gm_m_iload _) (gm_s_iload_n dX8_house_79 rfl) (
    gm_cn 81 (gm_m_iload _) (gm_s_iload_n dX8_house_80 rfl) (
    gm_cn 82 (gm_m_iload _) (gm_s_iload_n dX8_house_81 rfl) (
    gm_cn 84 (gm_m_iload _) (gm_s_iload dX8_house_82) (
    gm_cn 87 (gm_m_vcall _ _ _) (gcl_X2_build gw_150 dX8_house_84) (
    gm_cn 88 (gm_m_aload _) (gm_s_aload_n dX8_house_87 rfl) (
    gm_cn 91 (gm_m_getR _ _) (gf_getR_8_0 gw_130 dX8_house_88) (
    gm_cn 92 gm_m_dup (gm_s_dup dX8_house_91) (
    gm_cn 95 (gm_m_getI _ _) (gf_getI_7_1 gw_148 dX8_house_92) (
    gm_cn 96 (gm_m_push _) (gm_s_iconst dX8_house_95) (
    gm_cn 97 (gm_m_op2 _) (gm_s_iadd dX8_house_96) (
    gm_cn 100 (gm_m_putI _ _) (gf_putI_7_1 gw_148 dX8_house_97) (
    gm_cn 102 (gm_m_iload _) (gm_s_iload dX8_house_100) (
    gm_cn 0 gm_m_iret (gm_s_iret dX8_house_102 rfl 0) (
    trivial)))))))))))))))))))))))), trivial⟩
theorem dX8_of_0 : decode cX8_of 0 = .ok (.aload_n 0, 1) := by decide +kernel
theorem dX8_of_1 : decode cX8_of 1 = .ok (.iload_n 1, 1) := by decide +kernel
theorem dX8_of_2 : decode cX8_of 2 = .ok (.invokevirtual 89, 3) := by decide +kernel
theorem dX8_of_5 : decode cX8_of 5 = .ok (.astore_n 3, 1) := by decide +kernel
theorem dX8_of_6 : decode cX8_of 6 = .ok (.aload_n 3, 1) := by decide +kernel
theorem dX8_of_7 : decode cX8_of 7 = .ok (.ifnonnull 7, 3) := by decide +kernel
theorem dX8_of_10 : decode cX8_of 10 = .ok (.sipush (-10001), 3) := by decide +kernel
theorem dX8_of_13 : decode cX8_of 13 = .ok (.ireturn, 1) := by decide +kernel
theorem dX8_of_14 : decode cX8_of 14 = .ok (.aload_n 0, 1) := by decide +kernel
theorem dX8_of_15 : decode cX8_of 15 = .ok (.invokevirtual 93, 3) := by decide +kernel
theorem dX8_of_18 : decode cX8_of 18 = .ok (.astore 4, 2) := by decide +kernel
theorem dX8_of_20 : decode cX8_of 20 = .ok (.aload_n 0, 1) := by decide +kernel
theorem dX8_of_21 : decode cX8_of 21 = .ok (.getfield 12, 3) := by decide +kernel
theorem dX8_of_24 : decode cX8_of 24 = .ok (.invokevirtual 97, 3) := by decide +kernel
theorem dX8_of_27 : decode cX8_of 27 = .ok (.istore 5, 2) := by decide +kernel
theorem dX8_of_29 : decode cX8_of 29 = .ok (.aload_n 3, 1) := by decide +kernel
theorem dX8_of_30 : decode cX8_of 30 = .ok (.getfield 101, 3) := by decide +kernel
theorem dX8_of_33 : decode cX8_of 33 = .ok (.getfield 104, 3) := by decide +kernel
theorem dX8_of_36 : decode cX8_of 36 = .ok (.istore 6, 2) := by decide +kernel
theorem dX8_of_38 : decode cX8_of 38 = .ok (.iload_n 2, 1) := by decide +kernel
theorem dX8_of_39 : decode cX8_of 39 = .ok (.tableswitch 126 0 9 #[53, 58, 63, 68, 71, 76, 84, 92, 103, 114], 53) := by decide +kernel
theorem dX8_of_92 : decode cX8_of 92 = .ok (.aload_n 3, 1) := by decide +kernel
theorem dX8_of_93 : decode cX8_of 93 = .ok (.getfield 107, 3) := by decide +kernel
theorem dX8_of_96 : decode cX8_of 96 = .ok (.ireturn, 1) := by decide +kernel
theorem dX8_of_97 : decode cX8_of 97 = .ok (.aload_n 3, 1) := by decide +kernel
theorem dX8_of_98 : decode cX8_of 98 = .ok (.getfield 110, 3) := by decide +kernel
theorem dX8_of_101 : decode cX8_of 101 = .ok (.ireturn, 1) := by decide +kernel
theorem dX8_of_102 : decode cX8_of 102 = .ok (.aload_n 3, 1) := by decide +kernel
theorem dX8_of_103 : decode cX8_of 103 = .ok (.getfield 113, 3) := by decide +kernel
theorem dX8_of_106 : decode cX8_of 106 = .ok (.ireturn, 1) := by decide +kernel
theorem dX8_of_107 : decode cX8_of 107 = .ok (.iload 6, 2) := by decide +kernel
theorem dX8_of_109 : decode cX8_of 109 = .ok (.ireturn, 1) := by decide +kernel
theorem dX8_of_110 : decode cX8_of 110 = .ok (.aload_n 3, 1) := by decide +kernel
theorem dX8_of_111 : decode cX8_of 111 = .ok (.getfield 116, 3) := by decide +kernel
theorem dX8_of_114 : decode cX8_of 114 = .ok (.ireturn, 1) := by decide +kernel
theorem dX8_of_115 : decode cX8_of 115 = .ok (.aload_n 3, 1) := by decide +kernel
theorem dX8_of_116 : decode cX8_of 116 = .ok (.getfield 101, 3) := by decide +kernel
theorem dX8_of_119 : decode cX8_of 119 = .ok (.getfield 119, 3) := by decide +kernel
theorem dX8_of_122 : decode cX8_of 122 = .ok (.ireturn, 1) := by decide +kernel
theorem dX8_of_123 : decode cX8_of 123 = .ok (.aload_n 3, 1) := by decide +kernel
theorem dX8_of_124 : decode cX8_of 124 = .ok (.getfield 101, 3) := by decide +kernel
theorem dX8_of_127 : decode cX8_of 127 = .ok (.getfield 122, 3) := by decide +kernel
theorem dX8_of_130 : decode cX8_of 130 = .ok (.ireturn, 1) := by decide +kernel
theorem dX8_of_131 : decode cX8_of 131 = .ok (.aload 4, 2) := by decide +kernel
theorem dX8_of_133 : decode cX8_of 133 = .ok (.aload_n 3, 1) := by decide +kernel
theorem dX8_of_134 : decode cX8_of 134 = .ok (.iload 5, 2) := by decide +kernel
theorem dX8_of_136 : decode cX8_of 136 = .ok (.iload 6, 2) := by decide +kernel
theorem dX8_of_138 : decode cX8_of 138 = .ok (.invokevirtual 125, 3) := by decide +kernel
theorem dX8_of_141 : decode cX8_of 141 = .ok (.ireturn, 1) := by decide +kernel
theorem dX8_of_142 : decode cX8_of 142 = .ok (.aload 4, 2) := by decide +kernel
theorem dX8_of_144 : decode cX8_of 144 = .ok (.aload_n 3, 1) := by decide +kernel
theorem dX8_of_145 : decode cX8_of 145 = .ok (.iload 5, 2) := by decide +kernel
theorem dX8_of_147 : decode cX8_of 147 = .ok (.iload 6, 2) := by decide +kernel
theorem dX8_of_149 : decode cX8_of 149 = .ok (.invokevirtual 129, 3) := by decide +kernel
theorem dX8_of_152 : decode cX8_of 152 = .ok (.ireturn, 1) := by decide +kernel
theorem dX8_of_153 : decode cX8_of 153 = .ok (.aload_n 3, 1) := by decide +kernel
theorem dX8_of_154 : decode cX8_of 154 = .ok (.aload 4, 2) := by decide +kernel
theorem dX8_of_156 : decode cX8_of 156 = .ok (.iload 5, 2) := by decide +kernel
theorem dX8_of_158 : decode cX8_of 158 = .ok (.iload 6, 2) := by decide +kernel
theorem dX8_of_160 : decode cX8_of 160 = .ok (.iconst 0, 1) := by decide +kernel
theorem dX8_of_161 : decode cX8_of 161 = .ok (.invokevirtual 132, 3) := by decide +kernel
theorem dX8_of_164 : decode cX8_of 164 = .ok (.ireturn, 1) := by decide +kernel
theorem dX8_of_165 : decode cX8_of 165 = .ok (.sipush (-10001), 3) := by decide +kernel
theorem dX8_of_168 : decode cX8_of 168 = .ok (.ireturn, 1) := by decide +kernel
def pX8_of : List (List gm_A) := [[(gm_aload 0), (gm_iload 1), (gm_vcall 8 92 2), (gm_astore 3), (gm_aload 3), (gm_ifnonnull 1), (gm_push (.inl (-10001))), gm_iret],
  [(gm_aload 0), (gm_vcall 8 94 1), (gm_astore 4), (gm_aload 0), (gm_getR 8 800), (gm_vcall 7 48 1), (gm_istore 5), (gm_aload 3), (gm_getR 2 205), (gm_getI 5 500), (gm_istore 6), (gm_iload 2), (gm_switch [(0, 2), (1, 3), (2, 4), (3, 5), (4, 6), (5, 7), (6, 8), (7, 9), (8, 10), (9, 11)] 12)],
  [(gm_aload 3), (gm_getI 2 201), gm_iret],
  [(gm_aload 3), (gm_getI 2 202), gm_iret],
  [(gm_aload 3), (gm_getI 2 203), gm_iret],
  [(gm_iload 6), gm_iret],
  [(gm_aload 3), (gm_getI 2 204), gm_iret],
  [(gm_aload 3), (gm_getR 2 205), (gm_getI 5 502), gm_iret],
  [(gm_aload 3), (gm_getR 2 205), (gm_getI 5 501), gm_iret],
  [(gm_aload 4), (gm_aload 3), (gm_iload 5), (gm_iload 6), (gm_vcall 1 9 4), gm_iret],
  [(gm_aload 4), (gm_aload 3), (gm_iload 5), (gm_iload 6), (gm_vcall 1 10 4), gm_iret],
  [(gm_aload 3), (gm_aload 4), (gm_iload 5), (gm_iload 6), (gm_push (.inl 0)), (gm_vcall 2 15 5), gm_iret],
  [(gm_push (.inl (-10001))), gm_iret]]
def bpX8_of : Nat → Nat := fun b => ([0, 14, 92, 97, 102, 107, 110, 115, 123, 131, 142, 153, 165] : List Nat).getD b 0
set_option maxRecDepth 100000 in
theorem tX8_of {D : va_G} {sz : Nat} {ad : Nat → Nat} {cA : Nat → ClassId} {xs : Int → Int} {Ln : Int} {l : Launch} : gm_SB D sz ad cA xs Ln l gm_mt cX8_of "LongNoon" 7 false 1 bpX8_of 0 pX8_of :=
  ⟨gm_cn 1 (gm_m_aload _) (gm_s_aload_n dX8_of_0 rfl) (
    gm_cn 2 (gm_m_iload _) (gm_s_iload_n dX8_of_1 rfl) (
    gm_cn 5 (gm_m_vcall _ _ _) (gcl_X8_houseAt gw_151 dX8_of_2) (
    gm_cn 6 (gm_m_astore _) (gm_s_astore_n dX8_of_5 rfl (by decide)) (
    gm_cn 7 (gm_m_aload _) (gm_s_aload_n dX8_of_6 rfl) (
    gm_cn 10 (gm_m_ifnonnull _) (gm_s_ifnonnull (bpc := bpX8_of) (b := 1) dX8_of_7 rfl) (
    gm_cn 13 (gm_m_push _) (gm_s_sipush dX8_of_10 rfl) (
    gm_cn 0 gm_m_iret (gm_s_iret dX8_of_13 rfl 0) (
    trivial)))))))),
  gm_cn 15 (gm_m_aload _) (gm_s_aload_n dX8_of_14 rfl) (
    gm_cn 18 (gm_m_vcall _ _ _) (gcl_X8_groundNow gw_152 dX8_of_15) (
    gm_cn 20 (gm_m_astore _) (gm_s_astore dX8_of_18 (by decide)) (
    gm_cn 21 (gm_m_aload _) (gm_s_aload_n dX8_of_20 rfl) (
    gm_cn 24 (gm_m_getR _ _) (gf_getR_8_0 gw_130 dX8_of_21) (
    gm_cn 27 (gm_m_vcall _ _ _) (gcl_X7_moon gw_153 dX8_of_24) (
    gm_cn 29 (gm_m_istore _) (gm_s_istore dX8_of_27 (by decide)) (
    gm_cn 30 (gm_m_aload _) (gm_s_aload_n dX8_of_29 rfl) (
    gm_cn 33 (gm_m_getR _ _) (gf_getR_2_5 gw_154 dX8_of_30) (
    gm_cn 36 (gm_m_getI _ _) (gf_getI_5_0 gw_155 dX8_of_33) (
    gm_cn 38 (gm_m_istore _) (gm_s_istore dX8_of_36 (by decide)) (
    gm_cn 39 (gm_m_iload _) (gm_s_iload_n dX8_of_38 rfl) (
    gm_cn 0 (gm_m_switch _ _) (gm_s_table (bpc := bpX8_of) (ps := [(0, 2), (1, 3), (2, 4), (3, 5), (4, 6), (5, 7), (6, 8), (7, 9), (8, 10), (9, 11)]) (d := 12) dX8_of_39 rfl rfl rfl 0) (
    trivial))))))))))))),
  gm_cn 93 (gm_m_aload _) (gm_s_aload_n dX8_of_92 rfl) (
    gm_cn 96 (gm_m_getI _ _) (gf_getI_2_1 gw_156 dX8_of_93) (
    gm_cn 0 gm_m_iret (gm_s_iret dX8_of_96 rfl 0) (
    trivial))),
  gm_cn 98 (gm_m_aload _) (gm_s_aload_n dX8_of_97 rfl) (
    gm_cn 101 (gm_m_getI _ _) (gf_getI_2_2 gw_157 dX8_of_98) (
    gm_cn 0 gm_m_iret (gm_s_iret dX8_of_101 rfl 0) (
    trivial))),
  gm_cn 103 (gm_m_aload _) (gm_s_aload_n dX8_of_102 rfl) (
    gm_cn 106 (gm_m_getI _ _) (gf_getI_2_3 gw_158 dX8_of_103) (
    gm_cn 0 gm_m_iret (gm_s_iret dX8_of_106 rfl 0) (
    trivial))),
  gm_cn 109 (gm_m_iload _) (gm_s_iload dX8_of_107) (
    gm_cn 0 gm_m_iret (gm_s_iret dX8_of_109 rfl 0) (
    trivial)),
  gm_cn 111 (gm_m_aload _) (gm_s_aload_n dX8_of_110 rfl) (
    gm_cn 114 (gm_m_getI _ _) (gf_getI_2_4 gw_159 dX8_of_111) (
    gm_cn 0 gm_m_iret (gm_s_iret dX8_of_114 rfl 0) (
    trivial))),
  gm_cn 116 (gm_m_aload _) (gm_s_aload_n dX8_of_115 rfl) (
    gm_cn 119 (gm_m_getR _ _) (gf_getR_2_5 gw_154 dX8_of_116) (
    gm_cn 122 (gm_m_getI _ _) (gf_getI_5_2 gw_160 dX8_of_119) (
    gm_cn 0 gm_m_iret (gm_s_iret dX8_of_122 rfl 0) (
    trivial)))),
  gm_cn 124 (gm_m_aload _) (gm_s_aload_n dX8_of_123 rfl) (
    gm_cn 127 (gm_m_getR _ _) (gf_getR_2_5 gw_154 dX8_of_124) (
    gm_cn 130 (gm_m_getI _ _) (gf_getI_5_1 gw_161 dX8_of_127) (
    gm_cn 0 gm_m_iret (gm_s_iret dX8_of_130 rfl 0) (
    trivial)))),
  gm_cn 133 (gm_m_aload _) (gm_s_aload dX8_of_131) (
    gm_cn 134 (gm_m_aload _) (gm_s_aload_n dX8_of_133 rfl) (
    gm_cn 136 (gm_m_iload _) (gm_s_iload dX8_of_134) (
    gm_cn 138 (gm_m_iload _) (gm_s_iload dX8_of_136) (
    gm_cn 141 (gm_m_vcall _ _ _) (gcl_X1_sunOver gw_162 dX8_of_138) (
    gm_cn 0 gm_m_iret (gm_s_iret dX8_of_141 rfl 0) (
    trivial)))))),
  gm_cn 144 (gm_m_aload _) (gm_s_aload dX8_of_142) (
    gm_cn 145 (gm_m_aload _) (gm_s_aload_n dX8_of_144 rfl) (
    gm_cn 147 (gm_m_iload _) (gm_s_iload dX8_of_145) (
    gm_cn 149 (gm_m_iload _) (gm_s_iload dX8_of_147) (
    gm_cn 152 (gm_m_vcall _ _ _) (gcl_X1_coldOver gw_163 dX8_of_149) (
    gm_cn 0 gm_m_iret (gm_s_iret dX8_of_152 rfl 0) (
    trivial)))))),
  gm_cn 154 (gm_m_aload _) (gm_s_aload_n dX8_of_153 rfl) (
    gm_cn 156 (gm_m_aload _) (gm_s_aload dX8_of_154) (
    gm_cn 158 (gm_m_iload _) (gm_s_iload dX8_of_156) (
    gm_cn 160 (gm_m_iload _) (gm_s_iload dX8_of_158) (
    gm_cn 161 (gm_m_push _) (gm_s_iconst dX8_of_160) (
    gm_cn 164 (gm_m_vcall _ _ _) (gcl_X2_gainOn gw_164 dX8_of_161) (
    gm_cn 0 gm_m_iret (gm_s_iret dX8_of_164 rfl 0) (
    trivial))))))),
  gm_cn 168 (gm_m_push _) (gm_s_sipush dX8_of_165 rfl) (
    gm_cn 0 gm_m_iret (gm_s_iret dX8_of_168 rfl 0) (
    trivial)), trivial⟩
theorem dX8_set_0 : decode cX8_set 0 = .ok (.aload_n 0, 1) := by decide +kernel
theorem dX8_set_1 : decode cX8_set 1 = .ok (.iload_n 1, 1) := by decide +kernel
theorem dX8_set_2 : decode cX8_set 2 = .ok (.invokevirtual 89, 3) := by decide +kernel
theorem dX8_set_5 : decode cX8_set 5 = .ok (.astore 4, 2) := by decide +kernel
theorem dX8_set_7 : decode cX8_set 7 = .ok (.aload 4, 2) := by decide +kernel
theorem dX8_set_9 : decode cX8_set 9 = .ok (.ifnull 11, 3) := by decide +kernel
theorem dX8_set_12 : decode cX8_set 12 = .ok (.iload_n 2, 1) := by decide +kernel
theorem dX8_set_13 : decode cX8_set 13 = .ok (.iconst 2, 1) := by decide +kernel
theorem dX8_set_14 : decode cX8_set 14 = .ok (.invokestatic 73, 3) := by decide +kernel
theorem dX8_set_17 : decode cX8_set 17 = .ok (.ifCond .ne 5, 3) := by decide +kernel
theorem dX8_set_20 : decode cX8_set 20 = .ok (.iconst (-1), 1) := by decide +kernel
theorem dX8_set_21 : decode cX8_set 21 = .ok (.ireturn, 1) := by decide +kernel
theorem dX8_set_22 : decode cX8_set 22 = .ok (.iload_n 2, 1) := by decide +kernel
theorem dX8_set_23 : decode cX8_set 23 = .ok (.ifCond .ne 9, 3) := by decide +kernel
theorem dX8_set_26 : decode cX8_set 26 = .ok (.sipush 199, 3) := by decide +kernel
theorem dX8_set_29 : decode cX8_set 29 = .ok (.goto 21, 3) := by decide +kernel
theorem dX8_set_32 : decode cX8_set 32 = .ok (.iload_n 2, 1) := by decide +kernel
theorem dX8_set_33 : decode cX8_set 33 = .ok (.iconst 1, 1) := by decide +kernel
theorem dX8_set_34 : decode cX8_set 34 = .ok (.if_icmp .ne 14, 3) := by decide +kernel
theorem dX8_set_37 : decode cX8_set 37 = .ok (.aload 4, 2) := by decide +kernel
theorem dX8_set_39 : decode cX8_set 39 = .ok (.getfield 101, 3) := by decide +kernel
theorem dX8_set_42 : decode cX8_set 42 = .ok (.getfield 122, 3) := by decide +kernel
theorem dX8_set_45 : decode cX8_set 45 = .ok (.goto 5, 3) := by decide +kernel
theorem dX8_set_48 : decode cX8_set 48 = .ok (.bipush 9, 2) := by decide +kernel
theorem dX8_set_50 : decode cX8_set 50 = .ok (.istore 5, 2) := by decide +kernel
theorem dX8_set_52 : decode cX8_set 52 = .ok (.iload_n 3, 1) := by decide +kernel
theorem dX8_set_53 : decode cX8_set 53 = .ok (.iload 5, 2) := by decide +kernel
theorem dX8_set_55 : decode cX8_set 55 = .ok (.invokestatic 73, 3) := by decide +kernel
theorem dX8_set_58 : decode cX8_set 58 = .ok (.ifCond .ne 6, 3) := by decide +kernel
theorem dX8_set_61 : decode cX8_set 61 = .ok (.bipush (-2), 2) := by decide +kernel
theorem dX8_set_63 : decode cX8_set 63 = .ok (.ireturn, 1) := by decide +kernel
theorem dX8_set_64 : decode cX8_set 64 = .ok (.iload_n 2, 1) := by decide +kernel
theorem dX8_set_65 : decode cX8_set 65 = .ok (.ifCond .ne 19, 3) := by decide +kernel
theorem dX8_set_68 : decode cX8_set 68 = .ok (.aload 4, 2) := by decide +kernel
theorem dX8_set_70 : decode cX8_set 70 = .ok (.getfield 113, 3) := by decide +kernel
theorem dX8_set_73 : decode cX8_set 73 = .ok (.istore 6, 2) := by decide +kernel
theorem dX8_set_75 : decode cX8_set 75 = .ok (.aload 4, 2) := by decide +kernel
theorem dX8_set_77 : decode cX8_set 77 = .ok (.iload_n 3, 1) := by decide +kernel
theorem dX8_set_78 : decode cX8_set 78 = .ok (.putfield 113, 3) := by decide +kernel
theorem dX8_set_81 : decode cX8_set 81 = .ok (.goto 49, 3) := by decide +kernel
theorem dX8_set_84 : decode cX8_set 84 = .ok (.iload_n 2, 1) := by decide +kernel
theorem dX8_set_85 : decode cX8_set 85 = .ok (.iconst 1, 1) := by decide +kernel
theorem dX8_set_86 : decode cX8_set 86 = .ok (.if_icmp .ne 25, 3) := by decide +kernel
theorem dX8_set_89 : decode cX8_set 89 = .ok (.aload 4, 2) := by decide +kernel
theorem dX8_set_91 : decode cX8_set 91 = .ok (.getfield 101, 3) := by decide +kernel
theorem dX8_set_94 : decode cX8_set 94 = .ok (.getfield 104, 3) := by decide +kernel
theorem dX8_set_97 : decode cX8_set 97 = .ok (.istore 6, 2) := by decide +kernel
theorem dX8_set_99 : decode cX8_set 99 = .ok (.aload 4, 2) := by decide +kernel
theorem dX8_set_101 : decode cX8_set 101 = .ok (.getfield 101, 3) := by decide +kernel
theorem dX8_set_104 : decode cX8_set 104 = .ok (.iload_n 3, 1) := by decide +kernel
theorem dX8_set_105 : decode cX8_set 105 = .ok (.putfield 104, 3) := by decide +kernel
theorem dX8_set_108 : decode cX8_set 108 = .ok (.goto 22, 3) := by decide +kernel
theorem dX8_set_111 : decode cX8_set 111 = .ok (.aload 4, 2) := by decide +kernel
theorem dX8_set_113 : decode cX8_set 113 = .ok (.getfield 101, 3) := by decide +kernel
theorem dX8_set_116 : decode cX8_set 116 = .ok (.getfield 119, 3) := by decide +kernel
theorem dX8_set_119 : decode cX8_set 119 = .ok (.istore 6, 2) := by decide +kernel
theorem dX8_set_121 : decode cX8_set 121 = .ok (.aload 4, 2) := by decide +kernel
theorem dX8_set_123 : decode cX8_set 123 = .ok (.getfield 101, 3) := by decide +kernel
theorem dX8_set_126 : decode cX8_set 126 = .ok (.iload_n 3, 1) := by decide +kernel
theorem dX8_set_127 : decode cX8_set 127 = .ok (.putfield 119, 3) := by decide +kernel
theorem dX8_set_130 : decode cX8_set 130 = .ok (.iload 6, 2) := by decide +kernel
theorem dX8_set_132 : decode cX8_set 132 = .ok (.ireturn, 1) := by decide +kernel
def pX8_set : List (List gm_A) := [[(gm_aload 0), (gm_iload 1), (gm_vcall 8 92 2), (gm_astore 4), (gm_aload 4), (gm_ifnull 1), (gm_iload 2), (gm_push (.inl 2)), (gm_scall 90 2), (gm_ifne 2), (gm_goto 1)],
  [(gm_push (.inl (-1))), gm_iret],
  [(gm_iload 2), (gm_ifne 3), (gm_push (.inl 199)), (gm_goto 5)],
  [(gm_iload 2), (gm_push (.inl 1)), (gm_cne 4), (gm_aload 4), (gm_getR 2 205), (gm_getI 5 501), (gm_goto 5)],
  [(gm_push (.inl 9)), (gm_goto 5)],
  [(gm_istore 5), (gm_iload 3), (gm_iload 5), (gm_scall 90 2), (gm_ifne 6), (gm_push (.inl (-2))), gm_iret],
  [(gm_iload 2), (gm_ifne 7), (gm_aload 4), (gm_getI 2 203), (gm_istore 6), (gm_aload 4), (gm_iload 3), (gm_putI 2 203), (gm_goto 9)],
  [(gm_iload 2), (gm_push (.inl 1)), (gm_cne 8), (gm_aload 4), (gm_getR 2 205), (gm_getI 5 500), (gm_istore 6), (gm_aload 4), (gm_getR 2 205), (gm_iload 3), (gm_putI 5 500), (gm_goto 9)],
  [(gm_aload 4), (gm_getR 2 205), (gm_getI 5 502), (gm_istore 6), (gm_aload 4), (gm_getR 2 205), (gm_iload 3), (gm_putI 5 502), (gm_goto 9)],
  [(gm_iload 6), gm_iret]]
def bpX8_set : Nat → Nat := fun b => ([0, 20, 22, 32, 48, 50, 64, 84, 111, 130] : List Nat).getD b 0
set_option maxRecDepth 100000 in
theorem tX8_set {D : va_G} {sz : Nat} {ad : Nat → Nat} {cA : Nat → ClassId} {xs : Int → Int} {Ln : Int} {l : Launch} : gm_SB D sz ad cA xs Ln l gm_mt cX8_set "LongNoon" 7 false 1 bpX8_set 0 pX8_set :=
  ⟨gm_cn 1 (gm_m_aload _) (gm_s_aload_n dX8_set_0 rfl) (
    gm_cn 2 (gm_m_iload _) (gm_s_iload_n dX8_set_1 rfl) (
    gm_cn 5 (gm_m_vcall _ _ _) (gcl_X8_houseAt gw_151 dX8_set_2) (
    gm_cn 7 (gm_m_astore _) (gm_s_astore dX8_set_5 (by decide)) (
    gm_cn 9 (gm_m_aload _) (gm_s_aload dX8_set_7) (
    gm_cn 12 (gm_m_ifnull _) (gm_s_ifnull (bpc := bpX8_set) (b := 1) dX8_set_9 rfl) (
    gm_cn 13 (gm_m_iload _) (gm_s_iload_n dX8_set_12 rfl) (
    gm_cn 14 (gm_m_push _) (gm_s_iconst dX8_set_13) (
    gm_cn 17 (gm_m_scall _ _) (gcl_X8_within gw_147 dX8_set_14) (
    gm_cn 20 (gm_m_ifne _) (gm_s_ifne (bpc := bpX8_set) (b := 2) dX8_set_17 rfl) (
    gm_cn 0 (gm_m_goto _) (gm_s_fall (bpc := bpX8_set) (b := 1) rfl 0) (
    trivial))))))))))),
  gm_cn 21 (gm_m_push _) (gm_s_iconst dX8_set_20) (
    gm_cn 0 gm_m_iret (gm_s_iret dX8_set_21 rfl 0) (
    trivial)),
  gm_cn 23 (gm_m_iload _) (gm_s_iload_n dX8_set_22 rfl) (
    gm_cn 26 (gm_m_ifne _) (gm_s_ifne (bpc := bpX8_set) (b := 3) dX8_set_23 rfl) (
    gm_cn 29 (gm_m_push _) (gm_s_sipush dX8_set_26 rfl) (
    gm_cn 0 (gm_m_goto _) (gm_s_goto (bpc := bpX8_set) (b := 5) dX8_set_29 rfl 0) (
    trivial)))),
  gm_cn 33 (gm_m_iload _) (gm_s_iload_n dX8_set_32 rfl) (
    gm_cn 34 (gm_m_push _) (gm_s_iconst dX8_set_33) (
    gm_cn 37 (gm_m_cne _) (gm_s_cne (bpc := bpX8_set) (b := 4) dX8_set_34 rfl) (
    gm_cn 39 (gm_m_aload _) (gm_s_aload dX8_set_37) (
    gm_cn 42 (gm_m_getR _ _) (gf_getR_2_5 gw_154 dX8_set_39) (
    gm_cn 45 (gm_m_getI _ _) (gf_getI_5_1 gw_161 dX8_set_42) (
    gm_cn 0 (gm_m_goto _) (gm_s_goto (bpc := bpX8_set) (b := 5) dX8_set_45 rfl 0) (
    trivial))))))),
  gm_cn 50 (gm_m_push _) (gm_s_bipush dX8_set_48 rfl) (
    gm_cn 0 (gm_m_goto _) (gm_s_fall (bpc := bpX8_set) (b := 5) rfl 0) (
    trivial)),
  gm_cn 52 (gm_m_istore _) (gm_s_istore dX8_set_50 (by decide)) (
    gm_cn 53 (gm_m_iload _) (gm_s_iload_n dX8_set_52 rfl) (
    gm_cn 55 (gm_m_iload _) (gm_s_iload dX8_set_53) (
    gm_cn 58 (gm_m_scall _ _) (gcl_X8_within gw_147 dX8_set_55) (
    gm_cn 61 (gm_m_ifne _) (gm_s_ifne (bpc := bpX8_set) (b := 6) dX8_set_58 rfl) (
    gm_cn 63 (gm_m_push _) (gm_s_bipush dX8_set_61 rfl) (
    gm_cn 0 gm_m_iret (gm_s_iret dX8_set_63 rfl 0) (
    trivial))))))),
  gm_cn 65 (gm_m_iload _) (gm_s_iload_n dX8_set_64 rfl) (
    gm_cn 68 (gm_m_ifne _) (gm_s_ifne (bpc := bpX8_set) (b := 7) dX8_set_65 rfl) (
    gm_cn 70 (gm_m_aload _) (gm_s_aload dX8_set_68) (
    gm_cn 73 (gm_m_getI _ _) (gf_getI_2_3 gw_158 dX8_set_70) (
    gm_cn 75 (gm_m_istore _) (gm_s_istore dX8_set_73 (by decide)) (
    gm_cn 77 (gm_m_aload _) (gm_s_aload dX8_set_75) (
    gm_cn 78 (gm_m_iload _) (gm_s_iload_n dX8_set_77 rfl) (
    gm_cn 81 (gm_m_putI _ _) (gf_putI_2_3 gw_158 dX8_set_78) (
    gm_cn 0 (gm_m_goto _) (gm_s_goto (bpc := bpX8_set) (b := 9) dX8_set_81 rfl 0) (
    trivial))))))))),
  gm_cn 85 (gm_m_iload _) (gm_s_iload_n dX8_set_84 rfl) (
    gm_cn 86 (gm_m_push _) (gm_s_iconst dX8_set_85) (
    gm_cn 89 (gm_m_cne _) (gm_s_cne (bpc := bpX8_set) (b := 8) dX8_set_86 rfl) (
    gm_cn 91 (gm_m_aload _) (gm_s_aload dX8_set_89) (
    gm_cn 94 (gm_m_getR _ _) (gf_getR_2_5 gw_154 dX8_set_91) (
    gm_cn 97 (gm_m_getI _ _) (gf_getI_5_0 gw_155 dX8_set_94) (
    gm_cn 99 (gm_m_istore _) (gm_s_istore dX8_set_97 (by decide)) (
    gm_cn 101 (gm_m_aload _) (gm_s_aload dX8_set_99) (
    gm_cn 104 (gm_m_getR _ _) (gf_getR_2_5 gw_154 dX8_set_101) (
    gm_cn 105 (gm_m_iload _) (gm_s_iload_n dX8_set_104 rfl) (
    gm_cn 108 (gm_m_putI _ _) (gf_putI_5_0 gw_155 dX8_set_105) (
    gm_cn 0 (gm_m_goto _) (gm_s_goto (bpc := bpX8_set) (b := 9) dX8_set_108 rfl 0) (
    trivial)))))))))))),
  gm_cn 113 (gm_m_aload _) (gm_s_aload dX8_set_111) (
    gm_cn 116 (gm_m_getR _ _) (gf_getR_2_5 gw_154 dX8_set_113) (
    gm_cn 119 (gm_m_getI _ _) (gf_getI_5_2 gw_160 dX8_set_116) (
    gm_cn 121 (gm_m_istore _) (gm_s_istore dX8_set_119 (by decide)) (
    gm_cn 123 (gm_m_aload _) (gm_s_aload dX8_set_121) (
    gm_cn 126 (gm_m_getR _ _) (gf_getR_2_5 gw_154 dX8_set_123) (
    gm_cn 127 (gm_m_iload _) (gm_s_iload_n dX8_set_126 rfl) (
    gm_cn 130 (gm_m_putI _ _) (gf_putI_5_2 gw_160 dX8_set_127) (
    gm_cn 0 (gm_m_goto _) (gm_s_fall (bpc := bpX8_set) (b := 9) rfl 0) (
    trivial))))))))),
  gm_cn 132 (gm_m_iload _) (gm_s_iload dX8_set_130) (
    gm_cn 0 gm_m_iret (gm_s_iret dX8_set_132 rfl 0) (
    trivial)), trivial⟩
theorem dX8_row_0 : decode cX8_row 0 = .ok (.aload_n 0, 1) := by decide +kernel
theorem dX8_row_1 : decode cX8_row 1 = .ok (.iload_n 1, 1) := by decide +kernel
theorem dX8_row_2 : decode cX8_row 2 = .ok (.invokevirtual 89, 3) := by decide +kernel
theorem dX8_row_5 : decode cX8_row 5 = .ok (.astore 4, 2) := by decide +kernel
theorem dX8_row_7 : decode cX8_row 7 = .ok (.aload 4, 2) := by decide +kernel
theorem dX8_row_9 : decode cX8_row 9 = .ok (.ifnull 17, 3) := by decide +kernel
theorem dX8_row_12 : decode cX8_row 12 = .ok (.iload_n 2, 1) := by decide +kernel
theorem dX8_row_13 : decode cX8_row 13 = .ok (.ifCond .lt 13, 3) := by decide +kernel
theorem dX8_row_16 : decode cX8_row 16 = .ok (.iload_n 2, 1) := by decide +kernel
theorem dX8_row_17 : decode cX8_row 17 = .ok (.aload 4, 2) := by decide +kernel
theorem dX8_row_19 : decode cX8_row 19 = .ok (.getfield 136, 3) := by decide +kernel
theorem dX8_row_22 : decode cX8_row 22 = .ok (.arraylength, 1) := by decide +kernel
theorem dX8_row_23 : decode cX8_row 23 = .ok (.if_icmp .lt 5, 3) := by decide +kernel
theorem dX8_row_26 : decode cX8_row 26 = .ok (.iconst (-1), 1) := by decide +kernel
theorem dX8_row_27 : decode cX8_row 27 = .ok (.ireturn, 1) := by decide +kernel
theorem dX8_row_28 : decode cX8_row 28 = .ok (.iload_n 3, 1) := by decide +kernel
theorem dX8_row_29 : decode cX8_row 29 = .ok (.bipush 9, 2) := by decide +kernel
theorem dX8_row_31 : decode cX8_row 31 = .ok (.invokestatic 73, 3) := by decide +kernel
theorem dX8_row_34 : decode cX8_row 34 = .ok (.ifCond .ne 6, 3) := by decide +kernel
theorem dX8_row_37 : decode cX8_row 37 = .ok (.bipush (-2), 2) := by decide +kernel
theorem dX8_row_39 : decode cX8_row 39 = .ok (.ireturn, 1) := by decide +kernel
theorem dX8_row_40 : decode cX8_row 40 = .ok (.aload 4, 2) := by decide +kernel
theorem dX8_row_42 : decode cX8_row 42 = .ok (.getfield 107, 3) := by decide +kernel
theorem dX8_row_45 : decode cX8_row 45 = .ok (.bipush 6, 2) := by decide +kernel
theorem dX8_row_47 : decode cX8_row 47 = .ok (.if_icmp .eq 6, 3) := by decide +kernel
theorem dX8_row_50 : decode cX8_row 50 = .ok (.bipush (-3), 2) := by decide +kernel
theorem dX8_row_52 : decode cX8_row 52 = .ok (.ireturn, 1) := by decide +kernel
theorem dX8_row_53 : decode cX8_row 53 = .ok (.aload 4, 2) := by decide +kernel
theorem dX8_row_55 : decode cX8_row 55 = .ok (.getfield 136, 3) := by decide +kernel
theorem dX8_row_58 : decode cX8_row 58 = .ok (.iload_n 2, 1) := by decide +kernel
theorem dX8_row_59 : decode cX8_row 59 = .ok (.iaload, 1) := by decide +kernel
theorem dX8_row_60 : decode cX8_row 60 = .ok (.istore 5, 2) := by decide +kernel
theorem dX8_row_62 : decode cX8_row 62 = .ok (.aload 4, 2) := by decide +kernel
theorem dX8_row_64 : decode cX8_row 64 = .ok (.getfield 136, 3) := by decide +kernel
theorem dX8_row_67 : decode cX8_row 67 = .ok (.iload_n 2, 1) := by decide +kernel
theorem dX8_row_68 : decode cX8_row 68 = .ok (.iload_n 3, 1) := by decide +kernel
theorem dX8_row_69 : decode cX8_row 69 = .ok (.iastore, 1) := by decide +kernel
theorem dX8_row_70 : decode cX8_row 70 = .ok (.iload 5, 2) := by decide +kernel
theorem dX8_row_72 : decode cX8_row 72 = .ok (.ireturn, 1) := by decide +kernel
def pX8_row : List (List gm_A) := [[(gm_aload 0), (gm_iload 1), (gm_vcall 8 92 2), (gm_astore 4), (gm_aload 4), (gm_ifnull 1), (gm_iload 2), (gm_iflt 1), (gm_iload 2), (gm_aload 4), (gm_getR 2 206), gm_alen, (gm_clt 2), (gm_goto 1)],
  [(gm_push (.inl (-1))), gm_iret],
  [(gm_iload 3), (gm_push (.inl 9)), (gm_scall 90 2), (gm_ifne 3), (gm_push (.inl (-2))), gm_iret],
  [(gm_aload 4), (gm_getI 2 201), (gm_push (.inl 6)), (gm_ceq 4), (gm_push (.inl (-3))), gm_iret],
  [(gm_aload 4), (gm_getR 2 206), (gm_iload 2), gm_iald, (gm_istore 5), (gm_aload 4), (gm_getR 2 206), (gm_iload 2), (gm_iload 3), gm_iast, (gm_iload 5), gm_iret]]
def bpX8_row : Nat → Nat := fun b => ([0, 26, 28, 40, 53] : List Nat).getD b 0
set_option maxRecDepth 100000 in
theorem tX8_row {D : va_G} {sz : Nat} {ad : Nat → Nat} {cA : Nat → ClassId} {xs : Int → Int} {Ln : Int} {l : Launch} : gm_SB D sz ad cA xs Ln l gm_mt cX8_row "LongNoon" 6 false 1 bpX8_row 0 pX8_row :=
  ⟨gm_cn 1 (gm_m_aload _) (gm_s_aload_n dX8_row_0 rfl) (
    gm_cn 2 (gm_m_iload _) (gm_s_iload_n dX8_row_1 rfl) (
    gm_cn 5 (gm_m_vcall _ _ _) (gcl_X8_houseAt gw_151 dX8_row_2) (
    gm_cn 7 (gm_m_astore _) (gm_s_astore dX8_row_5 (by decide)) (
    gm_cn 9 (gm_m_aload _) (gm_s_aload dX8_row_7) (
    gm_cn 12 (gm_m_ifnull _) (gm_s_ifnull (bpc := bpX8_row) (b := 1) dX8_row_9 rfl) (
    gm_cn 13 (gm_m_iload _) (gm_s_iload_n dX8_row_12 rfl) (
    gm_cn 16 (gm_m_iflt _) (gm_s_iflt (bpc := bpX8_row) (b := 1) dX8_row_13 rfl) (
    gm_cn 17 (gm_m_iload _) (gm_s_iload_n dX8_row_16 rfl) (
    gm_cn 19 (gm_m_aload _) (gm_s_aload dX8_row_17) (
    gm_cn 22 (gm_m_getR _ _) (gf_getR_2_6 gw_165 dX8_row_19) (
    gm_cn 23 gm_m_alen (gm_s_alen dX8_row_22) (
    gm_cn 26 (gm_m_clt _) (gm_s_clt (bpc := bpX8_row) (b := 2) dX8_row_23 rfl) (
    gm_cn 0 (gm_m_goto _) (gm_s_fall (bpc := bpX8_row) (b := 1) rfl 0) (
    trivial)))))))))))))),
  gm_cn 27 (gm_m_push _) (gm_s_iconst dX8_row_26) (
    gm_cn 0 gm_m_iret (gm_s_iret dX8_row_27 rfl 0) (
    trivial)),
  gm_cn 29 (gm_m_iload _) (gm_s_iload_n dX8_row_28 rfl) (
    gm_cn 31 (gm_m_push _) (gm_s_bipush dX8_row_29 rfl) (
    gm_cn 34 (gm_m_scall _ _) (gcl_X8_within gw_147 dX8_row_31) (
    gm_cn 37 (gm_m_ifne _) (gm_s_ifne (bpc := bpX8_row) (b := 3) dX8_row_34 rfl) (
    gm_cn 39 (gm_m_push _) (gm_s_bipush dX8_row_37 rfl) (
    gm_cn 0 gm_m_iret (gm_s_iret dX8_row_39 rfl 0) (
    trivial)))))),
  gm_cn 42 (gm_m_aload _) (gm_s_aload dX8_row_40) (
    gm_cn 45 (gm_m_getI _ _) (gf_getI_2_1 gw_156 dX8_row_42) (
    gm_cn 47 (gm_m_push _) (gm_s_bipush dX8_row_45 rfl) (
    gm_cn 50 (gm_m_ceq _) (gm_s_ceq (bpc := bpX8_row) (b := 4) dX8_row_47 rfl) (
    gm_cn 52 (gm_m_push _) (gm_s_bipush dX8_row_50 rfl) (
    gm_cn 0 gm_m_iret (gm_s_iret dX8_row_52 rfl 0) (
    trivial)))))),
  gm_cn 55 (gm_m_aload _) (gm_s_aload dX8_row_53) (
    gm_cn 58 (gm_m_getR _ _) (gf_getR_2_6 gw_165 dX8_row_55) (
    gm_cn 59 (gm_m_iload _) (gm_s_iload_n dX8_row_58 rfl) (
    gm_cn 60 gm_m_iald (gm_s_iald dX8_row_59) (
    gm_cn 62 (gm_m_istore _) (gm_s_istore dX8_row_60 (by decide)) (
    gm_cn 64 (gm_m_aload _) (gm_s_aload dX8_row_62) (
    gm_cn 67 (gm_m_getR _ _) (gf_getR_2_6 gw_165 dX8_row_64) (
    gm_cn 68 (gm_m_iload _) (gm_s_iload_n dX8_row_67 rfl) (
    gm_cn 69 (gm_m_iload _) (gm_s_iload_n dX8_row_68 rfl) (
    gm_cn 70 gm_m_iast (gm_s_iast dX8_row_69) (
    gm_cn 72 (gm_m_iload _) (gm_s_iload dX8_row_70) (
    gm_cn 0 gm_m_iret (gm_s_iret dX8_row_72 rfl 0) (
    trivial)))))))))))), trivial⟩
theorem dX8_feed_0 : decode cX8_feed 0 = .ok (.iload_n 1, 1) := by decide +kernel
theorem dX8_feed_1 : decode cX8_feed 1 = .ok (.bipush 127, 2) := by decide +kernel
theorem dX8_feed_3 : decode cX8_feed 3 = .ok (.invokestatic 73, 3) := by decide +kernel
theorem dX8_feed_6 : decode cX8_feed 6 = .ok (.ifCond .ne 6, 3) := by decide +kernel
theorem dX8_feed_9 : decode cX8_feed 9 = .ok (.bipush (-2), 2) := by decide +kernel
theorem dX8_feed_11 : decode cX8_feed 11 = .ok (.ireturn, 1) := by decide +kernel
theorem dX8_feed_12 : decode cX8_feed 12 = .ok (.aload_n 0, 1) := by decide +kernel
theorem dX8_feed_13 : decode cX8_feed 13 = .ok (.getfield 44, 3) := by decide +kernel
theorem dX8_feed_16 : decode cX8_feed 16 = .ok (.iload_n 1, 1) := by decide +kernel
theorem dX8_feed_17 : decode cX8_feed 17 = .ok (.i2c, 1) := by decide +kernel
theorem dX8_feed_18 : decode cX8_feed 18 = .ok (.invokevirtual 140, 3) := by decide +kernel
theorem dX8_feed_21 : decode cX8_feed 21 = .ok (.ifCond .eq 13, 3) := by decide +kernel
theorem dX8_feed_24 : decode cX8_feed 24 = .ok (.aload_n 0, 1) := by decide +kernel
theorem dX8_feed_25 : decode cX8_feed 25 = .ok (.getfield 44, 3) := by decide +kernel
theorem dX8_feed_28 : decode cX8_feed 28 = .ok (.getfield 144, 3) := by decide +kernel
theorem dX8_feed_31 : decode cX8_feed 31 = .ok (.goto 5, 3) := by decide +kernel
theorem dX8_feed_34 : decode cX8_feed 34 = .ok (.bipush (-4), 2) := by decide +kernel
theorem dX8_feed_36 : decode cX8_feed 36 = .ok (.ireturn, 1) := by decide +kernel
def pX8_feed : List (List gm_A) := [[(gm_iload 1), (gm_push (.inl 127)), (gm_scall 90 2), (gm_ifne 1), (gm_push (.inl (-2))), gm_iret],
  [(gm_aload 0), (gm_getR 8 807), (gm_iload 1), (gm_op1 gm_i2c), (gm_vcall 4 26 2), (gm_ifeq 2), (gm_aload 0), (gm_getR 8 807), (gm_getI 4 401), (gm_goto 3)],
  [(gm_push (.inl (-4))), (gm_goto 3)],
  [gm_iret]]
def bpX8_feed : Nat → Nat := fun b => ([0, 12, 34, 36] : List Nat).getD b 0
set_option maxRecDepth 100000 in
theorem tX8_feed {D : va_G} {sz : Nat} {ad : Nat → Nat} {cA : Nat → ClassId} {xs : Int → Int} {Ln : Int} {l : Launch} : gm_SB D sz ad cA xs Ln l gm_mt cX8_feed "LongNoon" 2 false 1 bpX8_feed 0 pX8_feed :=
  ⟨gm_cn 1 (gm_m_iload _) (gm_s_iload_n dX8_feed_0 rfl) (
    gm_cn 3 (gm_m_push _) (gm_s_bipush dX8_feed_1 rfl) (
    gm_cn 6 (gm_m_scall _ _) (gcl_X8_within gw_147 dX8_feed_3) (
    gm_cn 9 (gm_m_ifne _) (gm_s_ifne (bpc := bpX8_feed) (b := 1) dX8_feed_6 rfl) (
    gm_cn 11 (gm_m_push _) (gm_s_bipush dX8_feed_9 rfl) (
    gm_cn 0 gm_m_iret (gm_s_iret dX8_feed_11 rfl 0) (
    trivial)))))),
  gm_cn 13 (gm_m_aload _) (gm_s_aload_n dX8_feed_12 rfl) (
    gm_cn 16 (gm_m_getR _ _) (gf_getR_8_7 gw_139 dX8_feed_13) (
    gm_cn 17 (gm_m_iload _) (gm_s_iload_n dX8_feed_16 rfl) (
    gm_cn 18 (gm_m_op1 _) (gm_s_i2c dX8_feed_17) (
    gm_cn 21 (gm_m_vcall _ _ _) (gcl_X4_takeSign gw_166 dX8_feed_18) (
    gm_cn 24 (gm_m_ifeq _) (gm_s_ifeq (bpc := bpX8_feed) (b := 2) dX8_feed_21 rfl) (
    gm_cn 25 (gm_m_aload _) (gm_s_aload_n dX8_feed_24 rfl) (
    gm_cn 28 (gm_m_getR _ _) (gf_getR_8_7 gw_139 dX8_feed_25) (
    gm_cn 31 (gm_m_getI _ _) (gf_getI_4_1 gw_167 dX8_feed_28) (
    gm_cn 0 (gm_m_goto _) (gm_s_goto (bpc := bpX8_feed) (b := 3) dX8_feed_31 rfl 0) (
    trivial)))))))))),
  gm_cn 36 (gm_m_push _) (gm_s_bipush dX8_feed_34 rfl) (
    gm_cn 0 (gm_m_goto _) (gm_s_fall (bpc := bpX8_feed) (b := 3) rfl 0) (
    trivial)),
  gm_cn 0 gm_m_iret (gm_s_iret dX8_feed_36 rfl 0) (
    trivial), trivial⟩
theorem dX8_ground_0 : decode cX8_ground 0 = .ok (.aload_n 0, 1) := by decide +kernel
theorem dX8_ground_1 : decode cX8_ground 1 = .ok (.getfield 147, 3) := by decide +kernel
theorem dX8_ground_4 : decode cX8_ground 4 = .ok (.aload_n 0, 1) := by decide +kernel
theorem dX8_ground_5 : decode cX8_ground 5 = .ok (.getfield 55, 3) := by decide +kernel
theorem dX8_ground_8 : decode cX8_ground 8 = .ok (.arraylength, 1) := by decide +kernel
theorem dX8_ground_9 : decode cX8_ground 9 = .ok (.if_icmp .lt 6, 3) := by decide +kernel
theorem dX8_ground_12 : decode cX8_ground 12 = .ok (.bipush (-4), 2) := by decide +kernel
theorem dX8_ground_14 : decode cX8_ground 14 = .ok (.ireturn, 1) := by decide +kernel
theorem dX8_ground_15 : decode cX8_ground 15 = .ok (.aload_n 0, 1) := by decide +kernel
theorem dX8_ground_16 : decode cX8_ground 16 = .ok (.getfield 44, 3) := by decide +kernel
theorem dX8_ground_19 : decode cX8_ground 19 = .ok (.aload_n 0, 1) := by decide +kernel
theorem dX8_ground_20 : decode cX8_ground 20 = .ok (.getfield 55, 3) := by decide +kernel
theorem dX8_ground_23 : decode cX8_ground 23 = .ok (.aload_n 0, 1) := by decide +kernel
theorem dX8_ground_24 : decode cX8_ground 24 = .ok (.getfield 147, 3) := by decide +kernel
theorem dX8_ground_27 : decode cX8_ground 27 = .ok (.aaload, 1) := by decide +kernel
theorem dX8_ground_28 : decode cX8_ground 28 = .ok (.invokevirtual 150, 3) := by decide +kernel
theorem dX8_ground_31 : decode cX8_ground 31 = .ok (.istore_n 1, 1) := by decide +kernel
theorem dX8_ground_32 : decode cX8_ground 32 = .ok (.iload_n 1, 1) := by decide +kernel
theorem dX8_ground_33 : decode cX8_ground 33 = .ok (.ifCond .lt 8, 3) := by decide +kernel
theorem dX8_ground_36 : decode cX8_ground 36 = .ok (.bipush (-10), 2) := by decide +kernel
theorem dX8_ground_38 : decode cX8_ground 38 = .ok (.iload_n 1, 1) := by decide +kernel
theorem dX8_ground_39 : decode cX8_ground 39 = .ok (.isub, 1) := by decide +kernel
theorem dX8_ground_40 : decode cX8_ground 40 = .ok (.ireturn, 1) := by decide +kernel
theorem dX8_ground_41 : decode cX8_ground 41 = .ok (.aload_n 0, 1) := by decide +kernel
theorem dX8_ground_42 : decode cX8_ground 42 = .ok (.getfield 12, 3) := by decide +kernel
theorem dX8_ground_45 : decode cX8_ground 45 = .ok (.aload_n 0, 1) := by decide +kernel
theorem dX8_ground_46 : decode cX8_ground 46 = .ok (.getfield 147, 3) := by decide +kernel
theorem dX8_ground_49 : decode cX8_ground 49 = .ok (.putfield 154, 3) := by decide +kernel
theorem dX8_ground_52 : decode cX8_ground 52 = .ok (.aload_n 0, 1) := by decide +kernel
theorem dX8_ground_53 : decode cX8_ground 53 = .ok (.dup, 1) := by decide +kernel
theorem dX8_ground_54 : decode cX8_ground 54 = .ok (.getfield 147, 3) := by decide +kernel
theorem dX8_ground_57 : decode cX8_ground 57 = .ok (.iconst 1, 1) := by decide +kernel
theorem dX8_ground_58 : decode cX8_ground 58 = .ok (.iadd, 1) := by decide +kernel
theorem dX8_ground_59 : decode cX8_ground 59 = .ok (.putfield 147, 3) := by decide +kernel
theorem dX8_ground_62 : decode cX8_ground 62 = .ok (.aload_n 0, 1) := by decide +kernel
theorem dX8_ground_63 : decode cX8_ground 63 = .ok (.getfield 12, 3) := by decide +kernel
theorem dX8_ground_66 : decode cX8_ground 66 = .ok (.getfield 154, 3) := by decide +kernel
theorem dX8_ground_69 : decode cX8_ground 69 = .ok (.ireturn, 1) := by decide +kernel
def pX8_ground : List (List gm_A) := [[(gm_aload 0), (gm_getI 8 810), (gm_aload 0), (gm_getR 8 809), gm_alen, (gm_clt 1), (gm_push (.inl (-4))), gm_iret],
  [(gm_aload 0), (gm_getR 8 807), (gm_aload 0), (gm_getR 8 809), (gm_aload 0), (gm_getI 8 810), (gm_aald 25), (gm_vcall 4 27 2), (gm_istore 1), (gm_iload 1), (gm_iflt 2), (gm_push (.inl (-10))), (gm_iload 1), (gm_op2 gm_sub), gm_iret],
  [(gm_aload 0), (gm_getR 8 800), (gm_aload 0), (gm_getI 8 810), (gm_putI 7 703), (gm_aload 0), gm_dup, (gm_getI 8 810), (gm_push (.inl 1)), (gm_op2 gm_add), (gm_putI 8 810), (gm_aload 0), (gm_getR 8 800), (gm_getI 7 703), gm_iret]]
def bpX8_ground : Nat → Nat := fun b => ([0, 15, 41] : List Nat).getD b 0
set_option maxRecDepth 100000 in
theorem tX8_ground {D : va_G} {sz : Nat} {ad : Nat → Nat} {cA : Nat → ClassId} {xs : Int → Int} {Ln : Int} {l : Launch} : gm_SB D sz ad cA xs Ln l gm_mt cX8_ground "LongNoon" 2 false 1 bpX8_ground 0 pX8_ground :=
  ⟨gm_cn 1 (gm_m_aload _) (gm_s_aload_n dX8_ground_0 rfl) (
    gm_cn 4 (gm_m_getI _ _) (gf_getI_8_10 gw_168 dX8_ground_1) (
    gm_cn 5 (gm_m_aload _) (gm_s_aload_n dX8_ground_4 rfl) (
    gm_cn 8 (gm_m_getR _ _) (gf_getR_8_9 gw_142 dX8_ground_5) (
    gm_cn 9 gm_m_alen (gm_s_alen dX8_ground_8) (
    gm_cn 12 (gm_m_clt _) (gm_s_clt (bpc := bpX8_ground) (b := 1) dX8_ground_9 rfl) (
    gm_cn 14 (gm_m_push _) (gm_s_bipush dX8_ground_12 rfl) (
    gm_cn 0 gm_m_iret (gm_s_iret dX8_ground_14 rfl 0) (
    trivial)))))))),
  gm_cn 16 (gm_m_aload _) (gm_s_aload_n dX8_ground_15 rfl) (
    gm_cn 19 (gm_m_getR _ _) (gf_getR_8_7 gw_139 dX8_ground_16) (
    gm_cn 20 (gm_m_aload _) (gm_s_aload_n dX8_ground_19 rfl) (
    gm_cn 23 (gm_m_getR _ _) (gf_getR_8_9 gw_142 dX8_ground_20) (
    gm_cn 24 (gm_m_aload _) (gm_s_aload_n dX8_ground_23 rfl) (
    gm_cn 27 (gm_m_getI _ _) (gf_getI_8_10 gw_168 dX8_ground_24) (
    gm_cn 28 (gm_m_aald _) (gm_s_aald (t0 := 5) (by decide) (fun _ => rfl) dX8_ground_27) (
    gm_cn 31 (gm_m_vcall _ _ _) (gcl_X4_fill gw_169 dX8_ground_28) (
    gm_cn 32 (gm_m_istore _) (gm_s_istore_n dX8_ground_31 rfl (by decide)) (
    gm_cn 33 (gm_m_iload _) (gm_s_iload_n dX8_ground_32 rfl) (
    gm_cn 36 (gm_m_iflt _) (gm_s_iflt (bpc := bpX8_ground) (b := 2) dX8_ground_33 rfl) (
    gm_cn 38 (gm_m_push _) (gm_s_bipush dX8_ground_36 rfl) (
    gm_cn 39 (gm_m_iload _) (gm_s_iload_n dX8_ground_38 rfl) (
    gm_cn 40 (gm_m_op2 _) (gm_s_isub dX8_ground_39) (
    gm_cn 0 gm_m_iret (gm_s_iret dX8_ground_40 rfl 0) (
    trivial))))))))))))))),
  gm_cn 42 (gm_m_aload _) (gm_s_aload_n dX8_ground_41 rfl) (
    gm_cn 45 (gm_m_getR _ _) (gf_getR_8_0 gw_130 dX8_ground_42) (
    gm_cn 46 (gm_m_aload _) (gm_s_aload_n dX8_ground_45 rfl) (
    gm_cn 49 (gm_m_getI _ _) (gf_getI_8_10 gw_168 dX8_ground_46) (
    gm_cn 52 (gm_m_putI _ _) (gf_putI_7_3 gw_170 dX8_ground_49) (
    gm_cn 53 (gm_m_aload _) (gm_s_aload_n dX8_ground_52 rfl) (
    gm_cn 54 gm_m_dup (gm_s_dup dX8_ground_53) (
    gm_cn 57 (gm_m_getI _ _) (gf_getI_8_10 gw_168 dX8_ground_54) (
    gm_cn 58 (gm_m_push _) (gm_s_iconst dX8_ground_57) (
    gm_cn 59 (gm_m_op2 _) (gm_s_iadd dX8_ground_58) (
    gm_cn 62 (gm_m_putI _ _) (gf_putI_8_10 gw_168 dX8_ground_59) (
    gm_cn 63 (gm_m_aload _) (gm_s_aload_n dX8_ground_62 rfl) (
    gm_cn 66 (gm_m_getR _ _) (gf_getR_8_0 gw_130 dX8_ground_63) (
    gm_cn 69 (gm_m_getI _ _) (gf_getI_7_3 gw_170 dX8_ground_66) (
    gm_cn 0 gm_m_iret (gm_s_iret dX8_ground_69 rfl 0) (
    trivial))))))))))))))), trivial⟩
theorem dX8_told_0 : decode cX8_told 0 = .ok (.iload_n 1, 1) := by decide +kernel
theorem dX8_told_1 : decode cX8_told 1 = .ok (.tableswitch 86 0 4 #[35, 43, 51, 70, 78], 35) := by decide +kernel
theorem dX8_told_36 : decode cX8_told 36 = .ok (.aload_n 0, 1) := by decide +kernel
theorem dX8_told_37 : decode cX8_told 37 = .ok (.getfield 12, 3) := by decide +kernel
theorem dX8_told_40 : decode cX8_told 40 = .ok (.getfield 157, 3) := by decide +kernel
theorem dX8_told_43 : decode cX8_told 43 = .ok (.ireturn, 1) := by decide +kernel
theorem dX8_told_44 : decode cX8_told 44 = .ok (.aload_n 0, 1) := by decide +kernel
theorem dX8_told_45 : decode cX8_told 45 = .ok (.getfield 12, 3) := by decide +kernel
theorem dX8_told_48 : decode cX8_told 48 = .ok (.invokevirtual 97, 3) := by decide +kernel
theorem dX8_told_51 : decode cX8_told 51 = .ok (.ireturn, 1) := by decide +kernel
theorem dX8_told_52 : decode cX8_told 52 = .ok (.aload_n 0, 1) := by decide +kernel
theorem dX8_told_53 : decode cX8_told 53 = .ok (.getfield 12, 3) := by decide +kernel
theorem dX8_told_56 : decode cX8_told 56 = .ok (.invokevirtual 97, 3) := by decide +kernel
theorem dX8_told_59 : decode cX8_told 59 = .ok (.invokestatic 160, 3) := by decide +kernel
theorem dX8_told_62 : decode cX8_told 62 = .ok (.ifCond .eq 7, 3) := by decide +kernel
theorem dX8_told_65 : decode cX8_told 65 = .ok (.iconst 1, 1) := by decide +kernel
theorem dX8_told_66 : decode cX8_told 66 = .ok (.goto 4, 3) := by decide +kernel
theorem dX8_told_69 : decode cX8_told 69 = .ok (.iconst 0, 1) := by decide +kernel
theorem dX8_told_70 : decode cX8_told 70 = .ok (.ireturn, 1) := by decide +kernel
theorem dX8_told_71 : decode cX8_told 71 = .ok (.aload_n 0, 1) := by decide +kernel
theorem dX8_told_72 : decode cX8_told 72 = .ok (.invokevirtual 93, 3) := by decide +kernel
theorem dX8_told_75 : decode cX8_told 75 = .ok (.getfield 164, 3) := by decide +kernel
theorem dX8_told_78 : decode cX8_told 78 = .ok (.ireturn, 1) := by decide +kernel
theorem dX8_told_79 : decode cX8_told 79 = .ok (.aload_n 0, 1) := by decide +kernel
theorem dX8_told_80 : decode cX8_told 80 = .ok (.invokevirtual 93, 3) := by decide +kernel
theorem dX8_told_83 : decode cX8_told 83 = .ok (.getfield 167, 3) := by decide +kernel
theorem dX8_told_86 : decode cX8_told 86 = .ok (.ireturn, 1) := by decide +kernel
theorem dX8_told_87 : decode cX8_told 87 = .ok (.iconst (-1), 1) := by decide +kernel
theorem dX8_told_88 : decode cX8_told 88 = .ok (.ireturn, 1) := by decide +kernel
def pX8_told : List (List gm_A) := [[(gm_iload 1), (gm_switch [(0, 1), (1, 2), (2, 3), (3, 6), (4, 7)] 8)],
  [(gm_aload 0), (gm_getR 8 800), (gm_getI 7 702), gm_iret],
  [(gm_aload 0), (gm_getR 8 800), (gm_vcall 7 48 1), gm_iret],
  [(gm_aload 0), (gm_getR 8 800), (gm_vcall 7 48 1), (gm_scall 91 1), (gm_ifeq 4), (gm_push (.inl 1)), (gm_goto 5)],
  [(gm_push (.inl 0)), (gm_goto 5)],
  [gm_iret],
  [(gm_aload 0), (gm_vcall 8 94 1), (gm_getI 1 102), gm_iret],
  [(gm_aload 0), (gm_vcall 8 94 1), (gm_getI 1 103), gm_iret],
  [(gm_push (.inl (-1))), gm_iret]]
def bpX8_told : Nat → Nat := fun b => ([0, 36, 44, 52, 69, 70, 71, 79, 87] : List Nat).getD b 0
set_option maxRecDepth 100000 in
theorem tX8_told {D : va_G} {sz : Nat} {ad : Nat → Nat} {cA : Nat → ClassId} {xs : Int → Int} {Ln : Int} {l : Launch} : gm_SB D sz ad cA xs Ln l gm_mt cX8_told "LongNoon" 2 false 1 bpX8_told 0 pX8_told :=
  ⟨gm_cn 1 (gm_m_iload _) (gm_s_iload_n dX8_told_0 rfl) (
    gm_cn 0 (gm_m_switch _ _) (gm_s_table (bpc := bpX8_told) (ps := [(0, 1), (1, 2), (2, 3), (3, 6), (4, 7)]) (d := 8) dX8_told_1 rfl rfl rfl 0) (
    trivial)),
  gm_cn 37 (gm_m_aload _) (gm_s_aload_n dX8_told_36 rfl) (
    gm_cn 40 (gm_m_getR _ _) (gf_getR_8_0 gw_130 dX8_told_37) (
    gm_cn 43 (gm_m_getI _ _) (gf_getI_7_2 gw_171 dX8_told_40) (
    gm_cn 0 gm_m_iret (gm_s_iret dX8_told_43 rfl 0) (
    trivial)))),
  gm_cn 45 (gm_m_aload _) (gm_s_aload_n dX8_told_44 rfl) (
    gm_cn 48 (gm_m_getR _ _) (gf_getR_8_0 gw_130 dX8_told_45) (
    gm_cn 51 (gm_m_vcall _ _ _) (gcl_X7_moon gw_153 dX8_told_48) (
    gm_cn 0 gm_m_iret (gm_s_iret dX8_told_51 rfl 0) (
    trivial)))),
  gm_cn 53 (gm_m_aload _) (gm_s_aload_n dX8_told_52 rfl) (
    gm_cn 56 (gm_m_getR _ _) (gf_getR_8_0 gw_130 dX8_told_53) (
    gm_cn 59 (gm_m_vcall _ _ _) (gcl_X7_moon gw_153 dX8_told_56) (
    gm_cn 62 (gm_m_scall _ _) (gcl_X8_isLight gw_172 dX8_told_59) (
    gm_cn 65 (gm_m_ifeq _) (gm_s_ifeq (bpc := bpX8_told) (b := 4) dX8_told_62 rfl) (
    gm_cn 66 (gm_m_push _) (gm_s_iconst dX8_told_65) (
    gm_cn 0 (gm_m_goto _) (gm_s_goto (bpc := bpX8_told) (b := 5) dX8_told_66 rfl 0) (
    trivial))))))),
  gm_cn 70 (gm_m_push _) (gm_s_iconst dX8_told_69) (
    gm_cn 0 (gm_m_goto _) (gm_s_fall (bpc := bpX8_told) (b := 5) rfl 0) (
    trivial)),
  gm_cn 0 gm_m_iret (gm_s_iret dX8_told_70 rfl 0) (
    trivial),
  gm_cn 72 (gm_m_aload _) (gm_s_aload_n dX8_told_71 rfl) (
    gm_cn 75 (gm_m_vcall _ _ _) (gcl_X8_groundNow gw_152 dX8_told_72) (
    gm_cn 78 (gm_m_getI _ _) (gf_getI_1_2 gw_173 dX8_told_75) (
    gm_cn 0 gm_m_iret (gm_s_iret dX8_told_78 rfl 0) (
    trivial)))),
  gm_cn 80 (gm_m_aload _) (gm_s_aload_n dX8_told_79 rfl) (
    gm_cn 83 (gm_m_vcall _ _ _) (gcl_X8_groundNow gw_152 dX8_told_80) (
    gm_cn 86 (gm_m_getI _ _) (gf_getI_1_3 gw_174 dX8_told_83) (
    gm_cn 0 gm_m_iret (gm_s_iret dX8_told_86 rfl 0) (
    trivial)))),
  gm_cn 88 (gm_m_push _) (gm_s_iconst dX8_told_87) (
    gm_cn 0 gm_m_iret (gm_s_iret dX8_told_88 rfl 0) (
    trivial)), trivial⟩
theorem dX8_day_0 : decode cX8_day 0 = .ok (.aload_n 0, 1) := by decide +kernel
theorem dX8_day_1 : decode cX8_day 1 = .ok (.getfield 12, 3) := by decide +kernel
theorem dX8_day_4 : decode cX8_day 4 = .ok (.getfield 157, 3) := by decide +kernel
theorem dX8_day_7 : decode cX8_day 7 = .ok (.sipush 9999, 3) := by decide +kernel
theorem dX8_day_10 : decode cX8_day 10 = .ok (.if_icmp .lt 6, 3) := by decide +kernel
theorem dX8_day_13 : decode cX8_day 13 = .ok (.bipush (-3), 2) := by decide +kernel
theorem dX8_day_15 : decode cX8_day 15 = .ok (.ireturn, 1) := by decide +kernel
theorem dX8_day_16 : decode cX8_day 16 = .ok (.aload_n 0, 1) := by decide +kernel
theorem dX8_day_17 : decode cX8_day 17 = .ok (.invokevirtual 93, 3) := by decide +kernel
theorem dX8_day_20 : decode cX8_day 20 = .ok (.astore_n 1, 1) := by decide +kernel
theorem dX8_day_21 : decode cX8_day 21 = .ok (.iconst 0, 1) := by decide +kernel
theorem dX8_day_22 : decode cX8_day 22 = .ok (.istore_n 2, 1) := by decide +kernel
theorem dX8_day_23 : decode cX8_day 23 = .ok (.iconst 0, 1) := by decide +kernel
theorem dX8_day_24 : decode cX8_day 24 = .ok (.istore_n 3, 1) := by decide +kernel
theorem dX8_day_25 : decode cX8_day 25 = .ok (.iload_n 3, 1) := by decide +kernel
theorem dX8_day_26 : decode cX8_day 26 = .ok (.aload_n 0, 1) := by decide +kernel
theorem dX8_day_27 : decode cX8_day 27 = .ok (.getfield 12, 3) := by decide +kernel
theorem dX8_day_30 : decode cX8_day 30 = .ok (.getfield 77, 3) := by decide +kernel
theorem dX8_day_33 : decode cX8_day 33 = .ok (.if_icmp .ge 51, 3) := by decide +kernel
theorem dX8_day_36 : decode cX8_day 36 = .ok (.iload_n 3, 1) := by decide +kernel
theorem dX8_day_37 : decode cX8_day 37 = .ok (.aload_n 0, 1) := by decide +kernel
theorem dX8_day_38 : decode cX8_day 38 = .ok (.getfield 12, 3) := by decide +kernel
theorem dX8_day_41 : decode cX8_day 41 = .ok (.getfield 81, 3) := by decide +kernel
theorem dX8_day_44 : decode cX8_day 44 = .ok (.arraylength, 1) := by decide +kernel
theorem dX8_day_45 : decode cX8_day 45 = .ok (.if_icmp .ge 39, 3) := by decide +kernel
theorem dX8_day_48 : decode cX8_day 48 = .ok (.aload_n 0, 1) := by decide +kernel
theorem dX8_day_49 : decode cX8_day 49 = .ok (.getfield 12, 3) := by decide +kernel
theorem dX8_day_52 : decode cX8_day 52 = .ok (.getfield 81, 3) := by decide +kernel
theorem dX8_day_55 : decode cX8_day 55 = .ok (.iload_n 3, 1) := by decide +kernel
theorem dX8_day_56 : decode cX8_day 56 = .ok (.aaload, 1) := by decide +kernel
theorem dX8_day_57 : decode cX8_day 57 = .ok (.aload_n 1, 1) := by decide +kernel
theorem dX8_day_58 : decode cX8_day 58 = .ok (.aload_n 0, 1) := by decide +kernel
theorem dX8_day_59 : decode cX8_day 59 = .ok (.getfield 12, 3) := by decide +kernel
theorem dX8_day_62 : decode cX8_day 62 = .ok (.getfield 157, 3) := by decide +kernel
theorem dX8_day_65 : decode cX8_day 65 = .ok (.iconst 0, 1) := by decide +kernel
theorem dX8_day_66 : decode cX8_day 66 = .ok (.invokevirtual 170, 3) := by decide +kernel
theorem dX8_day_69 : decode cX8_day 69 = .ok (.ifCond .eq 9, 3) := by decide +kernel
theorem dX8_day_72 : decode cX8_day 72 = .ok (.iload_n 2, 1) := by decide +kernel
theorem dX8_day_73 : decode cX8_day 73 = .ok (.iconst 1, 1) := by decide +kernel
theorem dX8_day_74 : decode cX8_day 74 = .ok (.iload_n 3, 1) := by decide +kernel
theorem dX8_day_75 : decode cX8_day 75 = .ok (.ishl, 1) := by decide +kernel
theorem dX8_day_76 : decode cX8_day 76 = .ok (.ior, 1) := by decide +kernel
theorem dX8_day_77 : decode cX8_day 77 = .ok (.istore_n 2, 1) := by decide +kernel
theorem dX8_day_78 : decode cX8_day 78 = .ok (.iinc 3 1, 3) := by decide +kernel
theorem dX8_day_81 : decode cX8_day 81 = .ok (.goto (-56), 3) := by decide +kernel
theorem dX8_day_84 : decode cX8_day 84 = .ok (.aload_n 0, 1) := by decide +kernel
theorem dX8_day_85 : decode cX8_day 85 = .ok (.getfield 12, 3) := by decide +kernel
theorem dX8_day_88 : decode cX8_day 88 = .ok (.dup, 1) := by decide +kernel
theorem dX8_day_89 : decode cX8_day 89 = .ok (.getfield 157, 3) := by decide +kernel
theorem dX8_day_92 : decode cX8_day 92 = .ok (.iconst 1, 1) := by decide +kernel
theorem dX8_day_93 : decode cX8_day 93 = .ok (.iadd, 1) := by decide +kernel
theorem dX8_day_94 : decode cX8_day 94 = .ok (.putfield 157, 3) := by decide +kernel
theorem dX8_day_97 : decode cX8_day 97 = .ok (.iload_n 2, 1) := by decide +kernel
theorem dX8_day_98 : decode cX8_day 98 = .ok (.ireturn, 1) := by decide +kernel
def pX8_day : List (List gm_A) := [[(gm_aload 0), (gm_getR 8 800), (gm_getI 7 702), (gm_push (.inl 9999)), (gm_clt 1), (gm_push (.inl (-3))), gm_iret],
  [(gm_aload 0), (gm_vcall 8 94 1), (gm_astore 1), (gm_push (.inl 0)), (gm_istore 2), (gm_push (.inl 0)), (gm_istore 3), (gm_goto 2)],
  [(gm_iload 3), (gm_aload 0), (gm_getR 8 800), (gm_getI 7 701), (gm_cge 4), (gm_iload 3), (gm_aload 0), (gm_getR 8 800), (gm_getR 7 700), gm_alen, (gm_cge 4), (gm_aload 0), (gm_getR 8 800), (gm_getR 7 700), (gm_iload 3), (gm_aald 24), (gm_aload 1), (gm_aload 0), (gm_getR 8 800), (gm_getI 7 702), (gm_push (.inl 0)), (gm_vcall 2 17 4), (gm_ifeq 3), (gm_iload 2), (gm_push (.inl 1)), (gm_iload 3), (gm_op2 gm_shl), (gm_op2 gm_or), (gm_istore 2), (gm_goto 3)],
  [(gm_iinc 3 1), (gm_goto 2)],
  [(gm_aload 0), (gm_getR 8 800), gm_dup, (gm_getI 7 702), (gm_push (.inl 1)), (gm_op2 gm_add), (gm_putI 7 702), (gm_iload 2), gm_iret]]
def bpX8_day : Nat → Nat := fun b => ([0, 16, 25, 78, 84] : List Nat).getD b 0
set_option maxRecDepth 100000 in
theorem tX8_day {D : va_G} {sz : Nat} {ad : Nat → Nat} {cA : Nat → ClassId} {xs : Int → Int} {Ln : Int} {l : Launch} : gm_SB D sz ad cA xs Ln l gm_mt cX8_day "LongNoon" 4 false 1 bpX8_day 0 pX8_day :=
  ⟨gm_cn 1 (gm_m_aload _) (gm_s_aload_n dX8_day_0 rfl) (
    gm_cn 4 (gm_m_getR _ _) (gf_getR_8_0 gw_130 dX8_day_1) (
    gm_cn 7 (gm_m_getI _ _) (gf_getI_7_2 gw_171 dX8_day_4) (
    gm_cn 10 (gm_m_push _) (gm_s_sipush dX8_day_7 rfl) (
    gm_cn 13 (gm_m_clt _) (gm_s_clt (bpc := bpX8_day) (b := 1) dX8_day_10 rfl) (
    gm_cn 15 (gm_m_push _) (gm_s_bipush dX8_day_13 rfl) (
    gm_cn 0 gm_m_iret (gm_s_iret dX8_day_15 rfl 0) (
    trivial))))))),
  gm_cn 17 (gm_m_aload _) (gm_s_aload_n dX8_day_16 rfl) (
    gm_cn 20 (gm_m_vcall _ _ _) (gcl_X8_groundNow gw_152 dX8_day_17) (
    gm_cn 21 (gm_m_astore _) (gm_s_astore_n dX8_day_20 rfl (by decide)) (
    gm_cn 22 (gm_m_push _) (gm_s_iconst dX8_day_21) (
    gm_cn 23 (gm_m_istore _) (gm_s_istore_n dX8_day_22 rfl (by decide)) (
    gm_cn 24 (gm_m_push _) (gm_s_iconst dX8_day_23) (
    gm_cn 25 (gm_m_istore _) (gm_s_istore_n dX8_day_24 rfl (by decide)) (
    gm_cn 0 (gm_m_goto _) (gm_s_fall (bpc := bpX8_day) (b := 2) rfl 0) (
    trivial)))))))),
  gm_cn 26 (gm_m_iload _) (gm_s_iload_n dX8_day_25 rfl) (
    gm_cn 27 (gm_m_aload _) (gm_s_aload_n dX8_day_26 rfl) (
    gm_cn 30 (gm_m_getR _ _) (gf_getR_8_0 gw_130 dX8_day_27) (
    gm_cn 33 (gm_m_getI _ _) (gf_getI_7_1 gw_148 dX8_day_30) (
    gm_cn 36 (gm_m_cge _) (gm_s_cge (bpc := bpX8_day) (b := 4) dX8_day_33 rfl) (
    gm_cn 37 (gm_m_iload _) (gm_s_iload_n dX8_day_36 rfl) (
    gm_cn 38 (gm_m_aload _) (gm_s_aload_n dX8_day_37 rfl) (
    gm_cn 41 (gm_m_getR _ _) (gf_getR_8_0 gw_130 dX8_day_38) (
    gm_cn 44 (gm_m_getR _ _) (gf_getR_7_0 gw_149 dX8_day_41) (
    gm_cn 45 gm_m_alen (gm_s_alen dX8_day_44) (
    gm_cn 48 (gm_m_cge _) (gm_s_cge (bpc := bpX8_day) (b := 4) dX8_day_45 rfl) (
    gm_cn 49 (gm_m_aload _) (gm_s_aload_n dX8_day_48 rfl) (
    gm_cn 52 (gm_m_getR _ _) (gf_getR_8_0 gw_130 dX8_day_49) (
    gm_cn 55 (gm_m_getR _ _) (gf_getR_7_0 gw_149 dX8_day_52) (
    gm_cn 56 (gm_m_iload _) (gm_s_iload_n dX8_day_55 rfl) (
    gm_cn 57 (gm_m_aald _) (gm_s_aald (t0 := 4) (by decide) (fun _ => rfl) dX8_day_56) (
    gm_cn 58 (gm_m_aload _) (gm_s_aload_n dX8_day_57 rfl) (
    gm_cn 59 (gm_m_aload _) (gm_s_aload_n dX8_day_58 rfl) (
    gm_cn 62 (gm_m_getR _ _) (gf_getR_8_0 gw_130 dX8_day_59) (
    gm_cn 65 (gm_m_getI _ _) (gf_getI_7_2 gw_171 dX8_day_62) (
    gm_cn 66 (gm_m_push _) (gm_s_iconst dX8_day_65) (
    gm_cn 69 (gm_m_vcall _ _ _) (gcl_X2_pass gw_175 dX8_day_66) (
    gm_cn 72 (gm_m_ifeq _) (gm_s_ifeq (bpc := bpX8_day) (b := 3) dX8_day_69 rfl) (
    gm_cn 73 (gm_m_iload _) (gm_s_iload_n dX8_day_72 rfl) (
    gm_cn 74 (gm_m_push _) (gm_s_iconst dX8_day_73) (
    gm_cn 75 (gm_m_iload _) (gm_s_iload_n dX8_day_74 rfl) (
    gm_cn 76 (gm_m_op2 _) (gm_s_ishl dX8_day_75) (
    gm_cn 77 (gm_m_op2 _) (gm_s_ior dX8_day_76) (
    gm_cn 78 (gm_m_istore _) (gm_s_istore_n dX8_day_77 rfl (by decide)) (
    gm_cn 0 (gm_m_goto _) (gm_s_fall (bpc := bpX8_day) (b := 3) rfl 0) (
    trivial)))))))))))))))))))))))))))))),
  gm_cn 81 (gm_m_iinc _ _) (gm_s_iinc dX8_day_78 (by decide)) (
    gm_cn 0 (gm_m_goto _) (gm_s_goto (bpc := bpX8_day) (b := 2) dX8_day_81 rfl 0) (
    trivial)),
  gm_cn 85 (gm_m_aload _) (gm_s_aload_n dX8_day_84 rfl) (
    gm_cn 88 (gm_m_getR _ _) (gf_getR_8_0 gw_130 dX8_day_85) (
    gm_cn 89 gm_m_dup (gm_s_dup dX8_day_88) (
    gm_cn 92 (gm_m_getI _ _) (gf_getI_7_2 gw_171 dX8_day_89) (
    gm_cn 93 (gm_m_push _) (gm_s_iconst dX8_day_92) (
    gm_cn 94 (gm_m_op2 _) (gm_s_iadd dX8_day_93) (
    gm_cn 97 (gm_m_putI _ _) (gf_putI_7_2 gw_171 dX8_day_94) (
    gm_cn 98 (gm_m_iload _) (gm_s_iload_n dX8_day_97 rfl) (
    gm_cn 0 gm_m_iret (gm_s_iret dX8_day_98 rfl 0) (
    trivial))))))))), trivial⟩
theorem dX8_on_0 : decode cX8_on 0 = .ok (.aload_n 0, 1) := by decide +kernel
theorem dX8_on_1 : decode cX8_on 1 = .ok (.iload_n 1, 1) := by decide +kernel
theorem dX8_on_2 : decode cX8_on 2 = .ok (.invokevirtual 89, 3) := by decide +kernel
theorem dX8_on_5 : decode cX8_on 5 = .ok (.astore 4, 2) := by decide +kernel
theorem dX8_on_7 : decode cX8_on 7 = .ok (.aload 4, 2) := by decide +kernel
theorem dX8_on_9 : decode cX8_on 9 = .ok (.ifnull 11, 3) := by decide +kernel
theorem dX8_on_12 : decode cX8_on 12 = .ok (.iload_n 3, 1) := by decide +kernel
theorem dX8_on_13 : decode cX8_on 13 = .ok (.iconst 2, 1) := by decide +kernel
theorem dX8_on_14 : decode cX8_on 14 = .ok (.invokestatic 73, 3) := by decide +kernel
theorem dX8_on_17 : decode cX8_on 17 = .ok (.ifCond .ne 5, 3) := by decide +kernel
theorem dX8_on_20 : decode cX8_on 20 = .ok (.iconst (-1), 1) := by decide +kernel
theorem dX8_on_21 : decode cX8_on 21 = .ok (.ireturn, 1) := by decide +kernel
theorem dX8_on_22 : decode cX8_on 22 = .ok (.iload_n 2, 1) := by decide +kernel
theorem dX8_on_23 : decode cX8_on 23 = .ok (.bipush 60, 2) := by decide +kernel
theorem dX8_on_25 : decode cX8_on 25 = .ok (.invokestatic 73, 3) := by decide +kernel
theorem dX8_on_28 : decode cX8_on 28 = .ok (.ifCond .ne 6, 3) := by decide +kernel
theorem dX8_on_31 : decode cX8_on 31 = .ok (.bipush (-2), 2) := by decide +kernel
theorem dX8_on_33 : decode cX8_on 33 = .ok (.ireturn, 1) := by decide +kernel
theorem dX8_on_34 : decode cX8_on 34 = .ok (.aload_n 0, 1) := by decide +kernel
theorem dX8_on_35 : decode cX8_on 35 = .ok (.getfield 27, 3) := by decide +kernel
theorem dX8_on_38 : decode cX8_on 38 = .ok (.aload 4, 2) := by decide +kernel
theorem dX8_on_40 : decode cX8_on 40 = .ok (.invokevirtual 174, 3) := by decide +kernel
theorem dX8_on_43 : decode cX8_on 43 = .ok (.aload_n 0, 1) := by decide +kernel
theorem dX8_on_44 : decode cX8_on 44 = .ok (.getfield 27, 3) := by decide +kernel
theorem dX8_on_47 : decode cX8_on 47 = .ok (.aload_n 0, 1) := by decide +kernel
theorem dX8_on_48 : decode cX8_on 48 = .ok (.invokevirtual 93, 3) := by decide +kernel
theorem dX8_on_51 : decode cX8_on 51 = .ok (.aload_n 0, 1) := by decide +kernel
theorem dX8_on_52 : decode cX8_on 52 = .ok (.getfield 12, 3) := by decide +kernel
theorem dX8_on_55 : decode cX8_on 55 = .ok (.getfield 157, 3) := by decide +kernel
theorem dX8_on_58 : decode cX8_on 58 = .ok (.iload_n 2, 1) := by decide +kernel
theorem dX8_on_59 : decode cX8_on 59 = .ok (.iconst 0, 1) := by decide +kernel
theorem dX8_on_60 : decode cX8_on 60 = .ok (.invokevirtual 178, 3) := by decide +kernel
theorem dX8_on_63 : decode cX8_on 63 = .ok (.istore 5, 2) := by decide +kernel
theorem dX8_on_65 : decode cX8_on 65 = .ok (.iload_n 3, 1) := by decide +kernel
theorem dX8_on_66 : decode cX8_on 66 = .ok (.ifCond .ne 13, 3) := by decide +kernel
theorem dX8_on_69 : decode cX8_on 69 = .ok (.aload_n 0, 1) := by decide +kernel
theorem dX8_on_70 : decode cX8_on 70 = .ok (.getfield 27, 3) := by decide +kernel
theorem dX8_on_73 : decode cX8_on 73 = .ok (.getfield 113, 3) := by decide +kernel
theorem dX8_on_76 : decode cX8_on 76 = .ok (.goto 23, 3) := by decide +kernel
theorem dX8_on_79 : decode cX8_on 79 = .ok (.iload_n 3, 1) := by decide +kernel
theorem dX8_on_80 : decode cX8_on 80 = .ok (.iconst 1, 1) := by decide +kernel
theorem dX8_on_81 : decode cX8_on 81 = .ok (.if_icmp .ne 16, 3) := by decide +kernel
theorem dX8_on_84 : decode cX8_on 84 = .ok (.aload_n 0, 1) := by decide +kernel
theorem dX8_on_85 : decode cX8_on 85 = .ok (.getfield 27, 3) := by decide +kernel
theorem dX8_on_88 : decode cX8_on 88 = .ok (.getfield 101, 3) := by decide +kernel
theorem dX8_on_91 : decode cX8_on 91 = .ok (.getfield 104, 3) := by decide +kernel
theorem dX8_on_94 : decode cX8_on 94 = .ok (.goto 5, 3) := by decide +kernel
theorem dX8_on_97 : decode cX8_on 97 = .ok (.iload 5, 2) := by decide +kernel
theorem dX8_on_99 : decode cX8_on 99 = .ok (.ireturn, 1) := by decide +kernel
def pX8_on : List (List gm_A) := [[(gm_aload 0), (gm_iload 1), (gm_vcall 8 92 2), (gm_astore 4), (gm_aload 4), (gm_ifnull 1), (gm_iload 3), (gm_push (.inl 2)), (gm_scall 90 2), (gm_ifne 2), (gm_goto 1)],
  [(gm_push (.inl (-1))), gm_iret],
  [(gm_iload 2), (gm_push (.inl 60)), (gm_scall 90 2), (gm_ifne 3), (gm_push (.inl (-2))), gm_iret],
  [(gm_aload 0), (gm_getR 8 804), (gm_aload 4), (gm_vcall 2 13 2), (gm_aload 0), (gm_getR 8 804), (gm_aload 0), (gm_vcall 8 94 1), (gm_aload 0), (gm_getR 8 800), (gm_getI 7 702), (gm_iload 2), (gm_push (.inl 0)), (gm_vcall 2 19 5), (gm_istore 5), (gm_iload 3), (gm_ifne 4), (gm_aload 0), (gm_getR 8 804), (gm_getI 2 203), (gm_goto 6)],
  [(gm_iload 3), (gm_push (.inl 1)), (gm_cne 5), (gm_aload 0), (gm_getR 8 804), (gm_getR 2 205), (gm_getI 5 500), (gm_goto 6)],
  [(gm_iload 5), (gm_goto 6)],
  [gm_iret]]
def bpX8_on : Nat → Nat := fun b => ([0, 20, 22, 34, 79, 97, 99] : List Nat).getD b 0
set_option maxRecDepth 100000 in
theorem tX8_on {D : va_G} {sz : Nat} {ad : Nat → Nat} {cA : Nat → ClassId} {xs : Int → Int} {Ln : Int} {l : Launch} : gm_SB D sz ad cA xs Ln l gm_mt cX8_on "LongNoon" 6 false 1 bpX8_on 0 pX8_on :=
  ⟨gm_cn 1 (gm_m_aload _) (gm_s_aload_n dX8_on_0 rfl) (
    gm_cn 2 (gm_m_iload _) (gm_s_iload_n dX8_on_1 rfl) (
    gm_cn 5 (gm_m_vcall _ _ _) (gcl_X8_houseAt gw_151 dX8_on_2) (
    gm_cn 7 (gm_m_astore _) (gm_s_astore dX8_on_5 (by decide)) (
    gm_cn 9 (gm_m_aload _) (gm_s_aload dX8_on_7) (
    gm_cn 12 (gm_m_ifnull _) (gm_s_ifnull (bpc := bpX8_on) (b := 1) dX8_on_9 rfl) (
    gm_cn 13 (gm_m_iload _) (gm_s_iload_n dX8_on_12 rfl) (
    gm_cn 14 (gm_m_push _) (gm_s_iconst dX8_on_13) (
    gm_cn 17 (gm_m_scall _ _) (gcl_X8_within gw_147 dX8_on_14) (
    gm_cn 20 (gm_m_ifne _) (gm_s_ifne (bpc := bpX8_on) (b := 2) dX8_on_17 rfl) (
    gm_cn 0 (gm_m_goto _) (gm_s_fall (bpc := bpX8_on) (b := 1) rfl 0) (
    trivial))))))))))),
  gm_cn 21 (gm_m_push _) (gm_s_iconst dX8_on_20) (
    gm_cn 0 gm_m_iret (gm_s_iret dX8_on_21 rfl 0) (
    trivial)),
  gm_cn 23 (gm_m_iload _) (gm_s_iload_n dX8_on_22 rfl) (
    gm_cn 25 (gm_m_push _) (gm_s_bipush dX8_on_23 rfl) (
    gm_cn 28 (gm_m_scall _ _) (gcl_X8_within gw_147 dX8_on_25) (
    gm_cn 31 (gm_m_ifne _) (gm_s_ifne (bpc := bpX8_on) (b := 3) dX8_on_28 rfl) (
    gm_cn 33 (gm_m_push _) (gm_s_bipush dX8_on_31 rfl) (
    gm_cn 0 gm_m_iret (gm_s_iret dX8_on_33 rfl 0) (
    trivial)))))),
  gm_cn 35 (gm_m_aload _) (gm_s_aload_n dX8_on_34 rfl) (
    gm_cn 38 (gm_m_getR _ _) (gf_getR_8_4 gw_134 dX8_on_35) (
    gm_cn 40 (gm_m_aload _) (gm_s_aload dX8_on_38) (
    gm_cn 43 (gm_m_vcall _ _ _) (gcl_X2_become gw_176 dX8_on_40) (
    gm_cn 44 (gm_m_aload _) (gm_s_aload_n dX8_on_43 rfl) (
    gm_cn 47 (gm_m_getR _ _) (gf_getR_8_4 gw_134 dX8_on_44) (
    gm_cn 48 (gm_m_aload _) (gm_s_aload_n dX8_on_47 rfl) (
    gm_cn 51 (gm_m_vcall _ _ _) (gcl_X8_groundNow gw_152 dX8_on_48) (
    gm_cn 52 (gm_m_aload _) (gm_s_aload_n dX8_on_51 rfl) (
    gm_cn 55 (gm_m_getR _ _) (gf_getR_8_0 gw_130 dX8_on_52) (
    gm_cn 58 (gm_m_getI _ _) (gf_getI_7_2 gw_171 dX8_on_55) (
    gm_cn 59 (gm_m_iload _) (gm_s_iload_n dX8_on_58 rfl) (
    gm_cn 60 (gm_m_push _) (gm_s_iconst dX8_on_59) (
    gm_cn 63 (gm_m_vcall _ _ _) (gcl_X2_amissDays gw_177 dX8_on_60) (
    gm_cn 65 (gm_m_istore _) (gm_s_istore dX8_on_63 (by decide)) (
    gm_cn 66 (gm_m_iload _) (gm_s_iload_n dX8_on_65 rfl) (
    gm_cn 69 (gm_m_ifne _) (gm_s_ifne (bpc := bpX8_on) (b := 4) dX8_on_66 rfl) (
    gm_cn 70 (gm_m_aload _) (gm_s_aload_n dX8_on_69 rfl) (
    gm_cn 73 (gm_m_getR _ _) (gf_getR_8_4 gw_134 dX8_on_70) (
    gm_cn 76 (gm_m_getI _ _) (gf_getI_2_3 gw_158 dX8_on_73) (
    gm_cn 0 (gm_m_goto _) (gm_s_goto (bpc := bpX8_on) (b := 6) dX8_on_76 rfl 0) (
    trivial))))))))))))))))))))),
  gm_cn 80 (gm_m_iload _) (gm_s_iload_n dX8_on_79 rfl) (
    gm_cn 81 (gm_m_push _) (gm_s_iconst dX8_on_80) (
    gm_cn 84 (gm_m_cne _) (gm_s_cne (bpc := bpX8_on) (b := 5) dX8_on_81 rfl) (
    gm_cn 85 (gm_m_aload _) (gm_s_aload_n dX8_on_84 rfl) (
    gm_cn 88 (gm_m_getR _ _) (gf_getR_8_4 gw_134 dX8_on_85) (
    gm_cn 91 (gm_m_getR _ _) (gf_getR_2_5 gw_154 dX8_on_88) (
    gm_cn 94 (gm_m_getI _ _) (gf_getI_5_0 gw_155 dX8_on_91) (
    gm_cn 0 (gm_m_goto _) (gm_s_goto (bpc := bpX8_on) (b := 6) dX8_on_94 rfl 0) (
    trivial)))))))),
  gm_cn 99 (gm_m_iload _) (gm_s_iload dX8_on_97) (
    gm_cn 0 (gm_m_goto _) (gm_s_fall (bpc := bpX8_on) (b := 6) rfl 0) (
    trivial)),
  gm_cn 0 gm_m_iret (gm_s_iret dX8_on_99 rfl 0) (
    trivial), trivial⟩
theorem dX8_first_0 : decode cX8_first 0 = .ok (.aload_n 0, 1) := by decide +kernel
theorem dX8_first_1 : decode cX8_first 1 = .ok (.iload_n 1, 1) := by decide +kernel
theorem dX8_first_2 : decode cX8_first 2 = .ok (.invokevirtual 89, 3) := by decide +kernel
theorem dX8_first_5 : decode cX8_first 5 = .ok (.astore_n 2, 1) := by decide +kernel
theorem dX8_first_6 : decode cX8_first 6 = .ok (.aload_n 2, 1) := by decide +kernel
theorem dX8_first_7 : decode cX8_first 7 = .ok (.ifnonnull 5, 3) := by decide +kernel
theorem dX8_first_10 : decode cX8_first 10 = .ok (.iconst (-1), 1) := by decide +kernel
theorem dX8_first_11 : decode cX8_first 11 = .ok (.ireturn, 1) := by decide +kernel
theorem dX8_first_12 : decode cX8_first 12 = .ok (.aload_n 0, 1) := by decide +kernel
theorem dX8_first_13 : decode cX8_first 13 = .ok (.getfield 27, 3) := by decide +kernel
theorem dX8_first_16 : decode cX8_first 16 = .ok (.aload_n 2, 1) := by decide +kernel
theorem dX8_first_17 : decode cX8_first 17 = .ok (.invokevirtual 174, 3) := by decide +kernel
theorem dX8_first_20 : decode cX8_first 20 = .ok (.aload_n 0, 1) := by decide +kernel
theorem dX8_first_21 : decode cX8_first 21 = .ok (.getfield 27, 3) := by decide +kernel
theorem dX8_first_24 : decode cX8_first 24 = .ok (.aload_n 0, 1) := by decide +kernel
theorem dX8_first_25 : decode cX8_first 25 = .ok (.invokevirtual 93, 3) := by decide +kernel
theorem dX8_first_28 : decode cX8_first 28 = .ok (.aload_n 0, 1) := by decide +kernel
theorem dX8_first_29 : decode cX8_first 29 = .ok (.getfield 12, 3) := by decide +kernel
theorem dX8_first_32 : decode cX8_first 32 = .ok (.getfield 157, 3) := by decide +kernel
theorem dX8_first_35 : decode cX8_first 35 = .ok (.invokevirtual 181, 3) := by decide +kernel
theorem dX8_first_38 : decode cX8_first 38 = .ok (.ireturn, 1) := by decide +kernel
def pX8_first : List (List gm_A) := [[(gm_aload 0), (gm_iload 1), (gm_vcall 8 92 2), (gm_astore 2), (gm_aload 2), (gm_ifnonnull 1), (gm_push (.inl (-1))), gm_iret],
  [(gm_aload 0), (gm_getR 8 804), (gm_aload 2), (gm_vcall 2 13 2), (gm_aload 0), (gm_getR 8 804), (gm_aload 0), (gm_vcall 8 94 1), (gm_aload 0), (gm_getR 8 800), (gm_getI 7 702), (gm_vcall 2 18 3), gm_iret]]
def bpX8_first : Nat → Nat := fun b => ([0, 12] : List Nat).getD b 0
set_option maxRecDepth 100000 in
theorem tX8_first {D : va_G} {sz : Nat} {ad : Nat → Nat} {cA : Nat → ClassId} {xs : Int → Int} {Ln : Int} {l : Launch} : gm_SB D sz ad cA xs Ln l gm_mt cX8_first "LongNoon" 3 false 1 bpX8_first 0 pX8_first :=
  ⟨gm_cn 1 (gm_m_aload _) (gm_s_aload_n dX8_first_0 rfl) (
    gm_cn 2 (gm_m_iload _) (gm_s_iload_n dX8_first_1 rfl) (
    gm_cn 5 (gm_m_vcall _ _ _) (gcl_X8_houseAt gw_151 dX8_first_2) (
    gm_cn 6 (gm_m_astore _) (gm_s_astore_n dX8_first_5 rfl (by decide)) (
    gm_cn 7 (gm_m_aload _) (gm_s_aload_n dX8_first_6 rfl) (
    gm_cn 10 (gm_m_ifnonnull _) (gm_s_ifnonnull (bpc := bpX8_first) (b := 1) dX8_first_7 rfl) (
    gm_cn 11 (gm_m_push _) (gm_s_iconst dX8_first_10) (
    gm_cn 0 gm_m_iret (gm_s_iret dX8_first_11 rfl 0) (
    trivial)))))))),
  gm_cn 13 (gm_m_aload _) (gm_s_aload_n dX8_first_12 rfl) (
    gm_cn 16 (gm_m_getR _ _) (gf_getR_8_4 gw_134 dX8_first_13) (
    gm_cn 17 (gm_m_aload _) (gm_s_aload_n dX8_first_16 rfl) (
    gm_cn 20 (gm_m_vcall _ _ _) (gcl_X2_become gw_176 dX8_first_17) (
    gm_cn 21 (gm_m_aload _) (gm_s_aload_n dX8_first_20 rfl) (
    gm_cn 24 (gm_m_getR _ _) (gf_getR_8_4 gw_134 dX8_first_21) (
    gm_cn 25 (gm_m_aload _) (gm_s_aload_n dX8_first_24 rfl) (
    gm_cn 28 (gm_m_vcall _ _ _) (gcl_X8_groundNow gw_152 dX8_first_25) (
    gm_cn 29 (gm_m_aload _) (gm_s_aload_n dX8_first_28 rfl) (
    gm_cn 32 (gm_m_getR _ _) (gf_getR_8_0 gw_130 dX8_first_29) (
    gm_cn 35 (gm_m_getI _ _) (gf_getI_7_2 gw_171 dX8_first_32) (
    gm_cn 38 (gm_m_vcall _ _ _) (gcl_X2_firstAmiss gw_178 dX8_first_35) (
    gm_cn 0 gm_m_iret (gm_s_iret dX8_first_38 rfl 0) (
    trivial))))))))))))), trivial⟩
theorem dX8_never_0 : decode cX8_never 0 = .ok (.aload_n 0, 1) := by decide +kernel
theorem dX8_never_1 : decode cX8_never 1 = .ok (.invokevirtual 93, 3) := by decide +kernel
theorem dX8_never_4 : decode cX8_never 4 = .ok (.astore_n 1, 1) := by decide +kernel
theorem dX8_never_5 : decode cX8_never 5 = .ok (.iconst 0, 1) := by decide +kernel
theorem dX8_never_6 : decode cX8_never 6 = .ok (.istore_n 2, 1) := by decide +kernel
theorem dX8_never_7 : decode cX8_never 7 = .ok (.iconst 0, 1) := by decide +kernel
theorem dX8_never_8 : decode cX8_never 8 = .ok (.istore_n 3, 1) := by decide +kernel
theorem dX8_never_9 : decode cX8_never 9 = .ok (.iload_n 3, 1) := by decide +kernel
theorem dX8_never_10 : decode cX8_never 10 = .ok (.aload_n 0, 1) := by decide +kernel
theorem dX8_never_11 : decode cX8_never 11 = .ok (.getfield 12, 3) := by decide +kernel
theorem dX8_never_14 : decode cX8_never 14 = .ok (.getfield 77, 3) := by decide +kernel
theorem dX8_never_17 : decode cX8_never 17 = .ok (.if_icmp .ge 63, 3) := by decide +kernel
theorem dX8_never_20 : decode cX8_never 20 = .ok (.iload_n 3, 1) := by decide +kernel
theorem dX8_never_21 : decode cX8_never 21 = .ok (.aload_n 0, 1) := by decide +kernel
theorem dX8_never_22 : decode cX8_never 22 = .ok (.getfield 12, 3) := by decide +kernel
theorem dX8_never_25 : decode cX8_never 25 = .ok (.getfield 81, 3) := by decide +kernel
theorem dX8_never_28 : decode cX8_never 28 = .ok (.arraylength, 1) := by decide +kernel
theorem dX8_never_29 : decode cX8_never 29 = .ok (.if_icmp .ge 51, 3) := by decide +kernel
theorem dX8_never_32 : decode cX8_never 32 = .ok (.aload_n 0, 1) := by decide +kernel
theorem dX8_never_33 : decode cX8_never 33 = .ok (.getfield 27, 3) := by decide +kernel
theorem dX8_never_36 : decode cX8_never 36 = .ok (.aload_n 0, 1) := by decide +kernel
theorem dX8_never_37 : decode cX8_never 37 = .ok (.getfield 12, 3) := by decide +kernel
theorem dX8_never_40 : decode cX8_never 40 = .ok (.getfield 81, 3) := by decide +kernel
theorem dX8_never_43 : decode cX8_never 43 = .ok (.iload_n 3, 1) := by decide +kernel
theorem dX8_never_44 : decode cX8_never 44 = .ok (.aaload, 1) := by decide +kernel
theorem dX8_never_45 : decode cX8_never 45 = .ok (.invokevirtual 174, 3) := by decide +kernel
theorem dX8_never_48 : decode cX8_never 48 = .ok (.aload_n 0, 1) := by decide +kernel
theorem dX8_never_49 : decode cX8_never 49 = .ok (.getfield 27, 3) := by decide +kernel
theorem dX8_never_52 : decode cX8_never 52 = .ok (.aload_n 1, 1) := by decide +kernel
theorem dX8_never_53 : decode cX8_never 53 = .ok (.aload_n 0, 1) := by decide +kernel
theorem dX8_never_54 : decode cX8_never 54 = .ok (.getfield 12, 3) := by decide +kernel
theorem dX8_never_57 : decode cX8_never 57 = .ok (.getfield 157, 3) := by decide +kernel
theorem dX8_never_60 : decode cX8_never 60 = .ok (.invokevirtual 181, 3) := by decide +kernel
theorem dX8_never_63 : decode cX8_never 63 = .ok (.bipush (-5), 2) := by decide +kernel
theorem dX8_never_65 : decode cX8_never 65 = .ok (.if_icmp .ne 9, 3) := by decide +kernel
theorem dX8_never_68 : decode cX8_never 68 = .ok (.iload_n 2, 1) := by decide +kernel
theorem dX8_never_69 : decode cX8_never 69 = .ok (.iconst 1, 1) := by decide +kernel
theorem dX8_never_70 : decode cX8_never 70 = .ok (.iload_n 3, 1) := by decide +kernel
theorem dX8_never_71 : decode cX8_never 71 = .ok (.ishl, 1) := by decide +kernel
theorem dX8_never_72 : decode cX8_never 72 = .ok (.ior, 1) := by decide +kernel
theorem dX8_never_73 : decode cX8_never 73 = .ok (.istore_n 2, 1) := by decide +kernel
theorem dX8_never_74 : decode cX8_never 74 = .ok (.iinc 3 1, 3) := by decide +kernel
theorem dX8_never_77 : decode cX8_never 77 = .ok (.goto (-68), 3) := by decide +kernel
theorem dX8_never_80 : decode cX8_never 80 = .ok (.iload_n 2, 1) := by decide +kernel
theorem dX8_never_81 : decode cX8_never 81 = .ok (.ireturn, 1) := by decide +kernel
def pX8_never : List (List gm_A) := [[(gm_aload 0), (gm_vcall 8 94 1), (gm_astore 1), (gm_push (.inl 0)), (gm_istore 2), (gm_push (.inl 0)), (gm_istore 3), (gm_goto 1)],
  [(gm_iload 3), (gm_aload 0), (gm_getR 8 800), (gm_getI 7 701), (gm_cge 3), (gm_iload 3), (gm_aload 0), (gm_getR 8 800), (gm_getR 7 700), gm_alen, (gm_cge 3), (gm_aload 0), (gm_getR 8 804), (gm_aload 0), (gm_getR 8 800), (gm_getR 7 700), (gm_iload 3), (gm_aald 24), (gm_vcall 2 13 2), (gm_aload 0), (gm_getR 8 804), (gm_aload 1), (gm_aload 0), (gm_getR 8 800), (gm_getI 7 702), (gm_vcall 2 18 3), (gm_push (.inl (-5))), (gm_cne 2), (gm_iload 2), (gm_push (.inl 1)), (gm_iload 3), (gm_op2 gm_shl), (gm_op2 gm_or), (gm_istore 2), (gm_goto 2)],
  [(gm_iinc 3 1), (gm_goto 1)],
  [(gm_iload 2), gm_iret]]
def bpX8_never : Nat → Nat := fun b => ([0, 9, 74, 80] : List Nat).getD b 0
set_option maxRecDepth 100000 in
theorem tX8_never {D : va_G} {sz : Nat} {ad : Nat → Nat} {cA : Nat → ClassId} {xs : Int → Int} {Ln : Int} {l : Launch} : gm_SB D sz ad cA xs Ln l gm_mt cX8_never "LongNoon" 4 false 1 bpX8_never 0 pX8_never :=
  ⟨gm_cn 1 (gm_m_aload _) (gm_s_aload_n dX8_never_0 rfl) (
    gm_cn 4 (gm_m_vcall _ _ _) (gcl_X8_groundNow gw_152 dX8_never_1) (
    gm_cn 5 (gm_m_astore _) (gm_s_astore_n dX8_never_4 rfl (by decide)) (
    gm_cn 6 (gm_m_push _) (gm_s_iconst dX8_never_5) (
    gm_cn 7 (gm_m_istore _) (gm_s_istore_n dX8_never_6 rfl (by decide)) (
    gm_cn 8 (gm_m_push _) (gm_s_iconst dX8_never_7) (
    gm_cn 9 (gm_m_istore _) (gm_s_istore_n dX8_never_8 rfl (by decide)) (
    gm_cn 0 (gm_m_goto _) (gm_s_fall (bpc := bpX8_never) (b := 1) rfl 0) (
    trivial)))))))),
  gm_cn 10 (gm_m_iload _) (gm_s_iload_n dX8_never_9 rfl) (
    gm_cn 11 (gm_m_aload _) (gm_s_aload_n dX8_never_10 rfl) (
    gm_cn 14 (gm_m_getR _ _) (gf_getR_8_0 gw_130 dX8_never_11) (
    gm_cn 17 (gm_m_getI _ _) (gf_getI_7_1 gw_148 dX8_never_14) (
    gm_cn 20 (gm_m_cge _) (gm_s_cge (bpc := bpX8_never) (b := 3) dX8_never_17 rfl) (
    gm_cn 21 (gm_m_iload _) (gm_s_iload_n dX8_never_20 rfl) (
    gm_cn 22 (gm_m_aload _) (gm_s_aload_n dX8_never_21 rfl) (
    gm_cn 25 (gm_m_getR _ _) (gf_getR_8_0 gw_130 dX8_never_22) (
    gm_cn 28 (gm_m_getR _ _) (gf_getR_7_0 gw_149 dX8_never_25) (
    gm_cn 29 gm_m_alen (gm_s_alen dX8_never_28) (
    gm_cn 32 (gm_m_cge _) (gm_s_cge (bpc := bpX8_never) (b := 3) dX8_never_29 rfl) (
    gm_cn 33 (gm_m_aload _) (gm_s_aload_n dX8_never_32 rfl) (
    gm_cn 36 (gm_m_getR _ _) (gf_getR_8_4 gw_134 dX8_never_33) (
    gm_cn 37 (gm_m_aload _) (gm_s_aload_n dX8_never_36 rfl) (
    gm_cn 40 (gm_m_getR _ _) (gf_getR_8_0 gw_130 dX8_never_37) (
    gm_cn 43 (gm_m_getR _ _) (gf_getR_7_0 gw_149 dX8_never_40) (
    gm_cn 44 (gm_m_iload _) (gm_s_iload_n dX8_never_43 rfl) (
    gm_cn 45 (gm_m_aald _) (gm_s_aald (t0 := 4) (by decide) (fun _ => rfl) dX8_never_44) (
    gm_cn 48 (gm_m_vcall _ _ _) (gcl_X2_become gw_176 dX8_never_45) (
    gm_cn 49 (gm_m_aload _) (gm_s_aload_n dX8_never_48 rfl) (
    gm_cn 52 (gm_m_getR _ _) (gf_getR_8_4 gw_134 dX8_never_49) (
    gm_cn 53 (gm_m_aload _) (gm_s_aload_n dX8_never_52 rfl) (
    gm_cn 54 (gm_m_aload _) (gm_s_aload_n dX8_never_53 rfl) (
    gm_cn 57 (gm_m_getR _ _) (gf_getR_8_0 gw_130 dX8_never_54) (
    gm_cn 60 (gm_m_getI _ _) (gf_getI_7_2 gw_171 dX8_never_57) (
    gm_cn 63 (gm_m_vcall _ _ _) (gcl_X2_firstAmiss gw_178 dX8_never_60) (
    gm_cn 65 (gm_m_push _) (gm_s_bipush dX8_never_63 rfl) (
    gm_cn 68 (gm_m_cne _) (gm_s_cne (bpc := bpX8_never) (b := 2) dX8_never_65 rfl) (
    gm_cn 69 (gm_m_iload _) (gm_s_iload_n dX8_never_68 rfl) (
    gm_cn 70 (gm_m_push _) (gm_s_iconst dX8_never_69) (
    gm_cn 71 (gm_m_iload _) (gm_s_iload_n dX8_never_70 rfl) (
    gm_cn 72 (gm_m_op2 _) (gm_s_ishl dX8_never_71) (
    gm_cn 73 (gm_m_op2 _) (gm_s_ior dX8_never_72) (
    gm_cn 74 (gm_m_istore _) (gm_s_istore_n dX8_never_73 rfl (by decide)) (
    gm_cn 0 (gm_m_goto _) (gm_s_fall (bpc := bpX8_never) (b := 2) rfl 0) (
    trivial))))))))))))))))))))))))))))))))))),
  gm_cn 77 (gm_m_iinc _ _) (gm_s_iinc dX8_never_74 (by decide)) (
    gm_cn 0 (gm_m_goto _) (gm_s_goto (bpc := bpX8_never) (b := 1) dX8_never_77 rfl 0) (
    trivial)),
  gm_cn 81 (gm_m_iload _) (gm_s_iload_n dX8_never_80 rfl) (
    gm_cn 0 gm_m_iret (gm_s_iret dX8_never_81 rfl 0) (
    trivial)), trivial⟩
theorem dX8_cap_0 : decode cX8_cap 0 = .ok (.aload_n 0, 1) := by decide +kernel
theorem dX8_cap_1 : decode cX8_cap 1 = .ok (.iload_n 1, 1) := by decide +kernel
theorem dX8_cap_2 : decode cX8_cap 2 = .ok (.invokevirtual 89, 3) := by decide +kernel
theorem dX8_cap_5 : decode cX8_cap 5 = .ok (.astore_n 2, 1) := by decide +kernel
theorem dX8_cap_6 : decode cX8_cap 6 = .ok (.aload_n 2, 1) := by decide +kernel
theorem dX8_cap_7 : decode cX8_cap 7 = .ok (.ifnonnull 5, 3) := by decide +kernel
theorem dX8_cap_10 : decode cX8_cap 10 = .ok (.iconst (-1), 1) := by decide +kernel
theorem dX8_cap_11 : decode cX8_cap 11 = .ok (.ireturn, 1) := by decide +kernel
theorem dX8_cap_12 : decode cX8_cap 12 = .ok (.aload_n 0, 1) := by decide +kernel
theorem dX8_cap_13 : decode cX8_cap 13 = .ok (.invokevirtual 93, 3) := by decide +kernel
theorem dX8_cap_16 : decode cX8_cap 16 = .ok (.astore_n 3, 1) := by decide +kernel
theorem dX8_cap_17 : decode cX8_cap 17 = .ok (.iconst 0, 1) := by decide +kernel
theorem dX8_cap_18 : decode cX8_cap 18 = .ok (.istore 4, 2) := by decide +kernel
theorem dX8_cap_20 : decode cX8_cap 20 = .ok (.iload 4, 2) := by decide +kernel
theorem dX8_cap_22 : decode cX8_cap 22 = .ok (.bipush 99, 2) := by decide +kernel
theorem dX8_cap_24 : decode cX8_cap 24 = .ok (.if_icmp .gt 49, 3) := by decide +kernel
theorem dX8_cap_27 : decode cX8_cap 27 = .ok (.aload_n 0, 1) := by decide +kernel
theorem dX8_cap_28 : decode cX8_cap 28 = .ok (.getfield 27, 3) := by decide +kernel
theorem dX8_cap_31 : decode cX8_cap 31 = .ok (.aload_n 2, 1) := by decide +kernel
theorem dX8_cap_32 : decode cX8_cap 32 = .ok (.invokevirtual 174, 3) := by decide +kernel
theorem dX8_cap_35 : decode cX8_cap 35 = .ok (.aload_n 0, 1) := by decide +kernel
theorem dX8_cap_36 : decode cX8_cap 36 = .ok (.getfield 27, 3) := by decide +kernel
theorem dX8_cap_39 : decode cX8_cap 39 = .ok (.iload 4, 2) := by decide +kernel
theorem dX8_cap_41 : decode cX8_cap 41 = .ok (.invokevirtual 185, 3) := by decide +kernel
theorem dX8_cap_44 : decode cX8_cap 44 = .ok (.aload_n 0, 1) := by decide +kernel
theorem dX8_cap_45 : decode cX8_cap 45 = .ok (.getfield 27, 3) := by decide +kernel
theorem dX8_cap_48 : decode cX8_cap 48 = .ok (.aload_n 3, 1) := by decide +kernel
theorem dX8_cap_49 : decode cX8_cap 49 = .ok (.aload_n 0, 1) := by decide +kernel
theorem dX8_cap_50 : decode cX8_cap 50 = .ok (.getfield 12, 3) := by decide +kernel
theorem dX8_cap_53 : decode cX8_cap 53 = .ok (.getfield 157, 3) := by decide +kernel
theorem dX8_cap_56 : decode cX8_cap 56 = .ok (.invokevirtual 181, 3) := by decide +kernel
theorem dX8_cap_59 : decode cX8_cap 59 = .ok (.bipush (-5), 2) := by decide +kernel
theorem dX8_cap_61 : decode cX8_cap 61 = .ok (.if_icmp .ne 6, 3) := by decide +kernel
theorem dX8_cap_64 : decode cX8_cap 64 = .ok (.iload 4, 2) := by decide +kernel
theorem dX8_cap_66 : decode cX8_cap 66 = .ok (.ireturn, 1) := by decide +kernel
theorem dX8_cap_67 : decode cX8_cap 67 = .ok (.iinc 4 1, 3) := by decide +kernel
theorem dX8_cap_70 : decode cX8_cap 70 = .ok (.goto (-50), 3) := by decide +kernel
theorem dX8_cap_73 : decode cX8_cap 73 = .ok (.bipush (-5), 2) := by decide +kernel
theorem dX8_cap_75 : decode cX8_cap 75 = .ok (.ireturn, 1) := by decide +kernel
def pX8_cap : List (List gm_A) := [[(gm_aload 0), (gm_iload 1), (gm_vcall 8 92 2), (gm_astore 2), (gm_aload 2), (gm_ifnonnull 1), (gm_push (.inl (-1))), gm_iret],
  [(gm_aload 0), (gm_vcall 8 94 1), (gm_astore 3), (gm_push (.inl 0)), (gm_istore 4), (gm_goto 2)],
  [(gm_iload 4), (gm_push (.inl 99)), (gm_cgt 4), (gm_aload 0), (gm_getR 8 804), (gm_aload 2), (gm_vcall 2 13 2), (gm_aload 0), (gm_getR 8 804), (gm_iload 4), (gm_vcall 2 14 2), (gm_aload 0), (gm_getR 8 804), (gm_aload 3), (gm_aload 0), (gm_getR 8 800), (gm_getI 7 702), (gm_vcall 2 18 3), (gm_push (.inl (-5))), (gm_cne 3), (gm_iload 4), gm_iret],
  [(gm_iinc 4 1), (gm_goto 2)],
  [(gm_push (.inl (-5))), gm_iret]]
def bpX8_cap : Nat → Nat := fun b => ([0, 12, 20, 67, 73] : List Nat).getD b 0
set_option maxRecDepth 100000 in
theorem tX8_cap {D : va_G} {sz : Nat} {ad : Nat → Nat} {cA : Nat → ClassId} {xs : Int → Int} {Ln : Int} {l : Launch} : gm_SB D sz ad cA xs Ln l gm_mt cX8_cap "LongNoon" 5 false 1 bpX8_cap 0 pX8_cap :=
  ⟨gm_cn 1 (gm_m_aload _) (gm_s_aload_n dX8_cap_0 rfl) (
    gm_cn 2 (gm_m_iload _) (gm_s_iload_n dX8_cap_1 rfl) (
    gm_cn 5 (gm_m_vcall _ _ _) (gcl_X8_houseAt gw_151 dX8_cap_2) (
    gm_cn 6 (gm_m_astore _) (gm_s_astore_n dX8_cap_5 rfl (by decide)) (
    gm_cn 7 (gm_m_aload _) (gm_s_aload_n dX8_cap_6 rfl) (
    gm_cn 10 (gm_m_ifnonnull _) (gm_s_ifnonnull (bpc := bpX8_cap) (b := 1) dX8_cap_7 rfl) (
    gm_cn 11 (gm_m_push _) (gm_s_iconst dX8_cap_10) (
    gm_cn 0 gm_m_iret (gm_s_iret dX8_cap_11 rfl 0) (
    trivial)))))))),
  gm_cn 13 (gm_m_aload _) (gm_s_aload_n dX8_cap_12 rfl) (
    gm_cn 16 (gm_m_vcall _ _ _) (gcl_X8_groundNow gw_152 dX8_cap_13) (
    gm_cn 17 (gm_m_astore _) (gm_s_astore_n dX8_cap_16 rfl (by decide)) (
    gm_cn 18 (gm_m_push _) (gm_s_iconst dX8_cap_17) (
    gm_cn 20 (gm_m_istore _) (gm_s_istore dX8_cap_18 (by decide)) (
    gm_cn 0 (gm_m_goto _) (gm_s_fall (bpc := bpX8_cap) (b := 2) rfl 0) (
    trivial)))))),
  gm_cn 22 (gm_m_iload _) (gm_s_iload dX8_cap_20) (
    gm_cn 24 (gm_m_push _) (gm_s_bipush dX8_cap_22 rfl) (
    gm_cn 27 (gm_m_cgt _) (gm_s_cgt (bpc := bpX8_cap) (b := 4) dX8_cap_24 rfl) (
    gm_cn 28 (gm_m_aload _) (gm_s_aload_n dX8_cap_27 rfl) (
    gm_cn 31 (gm_m_getR _ _) (gf_getR_8_4 gw_134 dX8_cap_28) (
    gm_cn 32 (gm_m_aload _) (gm_s_aload_n dX8_cap_31 rfl) (
    gm_cn 35 (gm_m_vcall _ _ _) (gcl_X2_become gw_176 dX8_cap_32) (
    gm_cn 36 (gm_m_aload _) (gm_s_aload_n dX8_cap_35 rfl) (
    gm_cn 39 (gm_m_getR _ _) (gf_getR_8_4 gw_134 dX8_cap_36) (
    gm_cn 41 (gm_m_iload _) (gm_s_iload dX8_cap_39) (
    gm_cn 44 (gm_m_vcall _ _ _) (gcl_X2_holdUpTo gw_179 dX8_cap_41) (
    gm_cn 45 (gm_m_aload _) (gm_s_aload_n dX8_cap_44 rfl) (
    gm_cn 48 (gm_m_getR _ _) (gf_getR_8_4 gw_134 dX8_cap_45) (
    gm_cn 49 (gm_m_aload _) (gm_s_aload_n dX8_cap_48 rfl) (
    gm_cn 50 (gm_m_aload _) (gm_s_aload_n dX8_cap_49 rfl) (
    gm_cn 53 (gm_m_getR _ _) (gf_getR_8_0 gw_130 dX8_cap_50) (
    gm_cn 56 (gm_m_getI _ _) (gf_getI_7_2 gw_171 dX8_cap_53) (
    gm_cn 59 (gm_m_vcall _ _ _) (gcl_X2_firstAmiss gw_178 dX8_cap_56) (
    gm_cn 61 (gm_m_push _) (gm_s_bipush dX8_cap_59 rfl) (
    gm_cn 64 (gm_m_cne _) (gm_s_cne (bpc := bpX8_cap) (b := 3) dX8_cap_61 rfl) (
    gm_cn 66 (gm_m_iload _) (gm_s_iload dX8_cap_64) (
    gm_cn 0 gm_m_iret (gm_s_iret dX8_cap_66 rfl 0) (
    trivial)))))))))))))))))))))),
  gm_cn 70 (gm_m_iinc _ _) (gm_s_iinc dX8_cap_67 (by decide)) (
    gm_cn 0 (gm_m_goto _) (gm_s_goto (bpc := bpX8_cap) (b := 2) dX8_cap_70 rfl 0) (
    trivial)),
  gm_cn 75 (gm_m_push _) (gm_s_bipush dX8_cap_73 rfl) (
    gm_cn 0 gm_m_iret (gm_s_iret dX8_cap_75 rfl 0) (
    trivial)), trivial⟩
theorem dX8_full_0 : decode cX8_full 0 = .ok (.aload_n 0, 1) := by decide +kernel
theorem dX8_full_1 : decode cX8_full 1 = .ok (.iload_n 1, 1) := by decide +kernel
theorem dX8_full_2 : decode cX8_full 2 = .ok (.invokevirtual 89, 3) := by decide +kernel
theorem dX8_full_5 : decode cX8_full 5 = .ok (.astore_n 2, 1) := by decide +kernel
theorem dX8_full_6 : decode cX8_full 6 = .ok (.aload_n 2, 1) := by decide +kernel
theorem dX8_full_7 : decode cX8_full 7 = .ok (.ifnonnull 5, 3) := by decide +kernel
theorem dX8_full_10 : decode cX8_full 10 = .ok (.iconst (-1), 1) := by decide +kernel
theorem dX8_full_11 : decode cX8_full 11 = .ok (.ireturn, 1) := by decide +kernel
theorem dX8_full_12 : decode cX8_full 12 = .ok (.aload_n 0, 1) := by decide +kernel
theorem dX8_full_13 : decode cX8_full 13 = .ok (.invokevirtual 93, 3) := by decide +kernel
theorem dX8_full_16 : decode cX8_full 16 = .ok (.astore_n 3, 1) := by decide +kernel
theorem dX8_full_17 : decode cX8_full 17 = .ok (.iconst 0, 1) := by decide +kernel
theorem dX8_full_18 : decode cX8_full 18 = .ok (.istore 4, 2) := by decide +kernel
theorem dX8_full_20 : decode cX8_full 20 = .ok (.iload 4, 2) := by decide +kernel
theorem dX8_full_22 : decode cX8_full 22 = .ok (.aload_n 2, 1) := by decide +kernel
theorem dX8_full_23 : decode cX8_full 23 = .ok (.getfield 101, 3) := by decide +kernel
theorem dX8_full_26 : decode cX8_full 26 = .ok (.getfield 122, 3) := by decide +kernel
theorem dX8_full_29 : decode cX8_full 29 = .ok (.if_icmp .gt 52, 3) := by decide +kernel
theorem dX8_full_32 : decode cX8_full 32 = .ok (.aload_n 0, 1) := by decide +kernel
theorem dX8_full_33 : decode cX8_full 33 = .ok (.getfield 27, 3) := by decide +kernel
theorem dX8_full_36 : decode cX8_full 36 = .ok (.aload_n 2, 1) := by decide +kernel
theorem dX8_full_37 : decode cX8_full 37 = .ok (.invokevirtual 174, 3) := by decide +kernel
theorem dX8_full_40 : decode cX8_full 40 = .ok (.aload_n 0, 1) := by decide +kernel
theorem dX8_full_41 : decode cX8_full 41 = .ok (.getfield 27, 3) := by decide +kernel
theorem dX8_full_44 : decode cX8_full 44 = .ok (.getfield 101, 3) := by decide +kernel
theorem dX8_full_47 : decode cX8_full 47 = .ok (.iload 4, 2) := by decide +kernel
theorem dX8_full_49 : decode cX8_full 49 = .ok (.putfield 104, 3) := by decide +kernel
theorem dX8_full_52 : decode cX8_full 52 = .ok (.aload_n 0, 1) := by decide +kernel
theorem dX8_full_53 : decode cX8_full 53 = .ok (.getfield 27, 3) := by decide +kernel
theorem dX8_full_56 : decode cX8_full 56 = .ok (.aload_n 3, 1) := by decide +kernel
theorem dX8_full_57 : decode cX8_full 57 = .ok (.aload_n 0, 1) := by decide +kernel
theorem dX8_full_58 : decode cX8_full 58 = .ok (.getfield 12, 3) := by decide +kernel
theorem dX8_full_61 : decode cX8_full 61 = .ok (.getfield 157, 3) := by decide +kernel
theorem dX8_full_64 : decode cX8_full 64 = .ok (.invokevirtual 181, 3) := by decide +kernel
theorem dX8_full_67 : decode cX8_full 67 = .ok (.bipush (-5), 2) := by decide +kernel
theorem dX8_full_69 : decode cX8_full 69 = .ok (.if_icmp .ne 6, 3) := by decide +kernel
theorem dX8_full_72 : decode cX8_full 72 = .ok (.iload 4, 2) := by decide +kernel
theorem dX8_full_74 : decode cX8_full 74 = .ok (.ireturn, 1) := by decide +kernel
theorem dX8_full_75 : decode cX8_full 75 = .ok (.iinc 4 1, 3) := by decide +kernel
theorem dX8_full_78 : decode cX8_full 78 = .ok (.goto (-58), 3) := by decide +kernel
theorem dX8_full_81 : decode cX8_full 81 = .ok (.bipush (-5), 2) := by decide +kernel
theorem dX8_full_83 : decode cX8_full 83 = .ok (.ireturn, 1) := by decide +kernel
def pX8_full : List (List gm_A) := [[(gm_aload 0), (gm_iload 1), (gm_vcall 8 92 2), (gm_astore 2), (gm_aload 2), (gm_ifnonnull 1), (gm_push (.inl (-1))), gm_iret],
  [(gm_aload 0), (gm_vcall 8 94 1), (gm_astore 3), (gm_push (.inl 0)), (gm_istore 4), (gm_goto 2)],
  [(gm_iload 4), (gm_aload 2), (gm_getR 2 205), (gm_getI 5 501), (gm_cgt 4), (gm_aload 0), (gm_getR 8 804), (gm_aload 2), (gm_vcall 2 13 2), (gm_aload 0), (gm_getR 8 804), (gm_getR 2 205), (gm_iload 4), (gm_putI 5 500), (gm_aload 0), (gm_getR 8 804), (gm_aload 3), (gm_aload 0), (gm_getR 8 800), (gm_getI 7 702), (gm_vcall 2 18 3), (gm_push (.inl (-5))), (gm_cne 3), (gm_iload 4), gm_iret],
  [(gm_iinc 4 1), (gm_goto 2)],
  [(gm_push (.inl (-5))), gm_iret]]
def bpX8_full : Nat → Nat := fun b => ([0, 12, 20, 75, 81] : List Nat).getD b 0
set_option maxRecDepth 100000 in
theorem tX8_full {D : va_G} {sz : Nat} {ad : Nat → Nat} {cA : Nat → ClassId} {xs : Int → Int} {Ln : Int} {l : Launch} : gm_SB D sz ad cA xs Ln l gm_mt cX8_full "LongNoon" 5 false 1 bpX8_full 0 pX8_full :=
  ⟨gm_cn 1 (gm_m_aload _) (gm_s_aload_n dX8_full_0 rfl) (
    gm_cn 2 (gm_m_iload _) (gm_s_iload_n dX8_full_1 rfl) (
    gm_cn 5 (gm_m_vcall _ _ _) (gcl_X8_houseAt gw_151 dX8_full_2) (
    gm_cn 6 (gm_m_astore _) (gm_s_astore_n dX8_full_5 rfl (by decide)) (
    gm_cn 7 (gm_m_aload _) (gm_s_aload_n dX8_full_6 rfl) (
    gm_cn 10 (gm_m_ifnonnull _) (gm_s_ifnonnull (bpc := bpX8_full) (b := 1) dX8_full_7 rfl) (
    gm_cn 11 (gm_m_push _) (gm_s_iconst dX8_full_10) (
    gm_cn 0 gm_m_iret (gm_s_iret dX8_full_11 rfl 0) (
    trivial)))))))),
  gm_cn 13 (gm_m_aload _) (gm_s_aload_n dX8_full_12 rfl) (
    gm_cn 16 (gm_m_vcall _ _ _) (gcl_X8_groundNow gw_152 dX8_full_13) (
    gm_cn 17 (gm_m_astore _) (gm_s_astore_n dX8_full_16 rfl (by decide)) (
    gm_cn 18 (gm_m_push _) (gm_s_iconst dX8_full_17) (
    gm_cn 20 (gm_m_istore _) (gm_s_istore dX8_full_18 (by decide)) (
    gm_cn 0 (gm_m_goto _) (gm_s_fall (bpc := bpX8_full) (b := 2) rfl 0) (
    trivial)))))),
  gm_cn 22 (gm_m_iload _) (gm_s_iload dX8_full_20) (
    gm_cn 23 (gm_m_aload _) (gm_s_aload_n dX8_full_22 rfl) (
    gm_cn 26 (gm_m_getR _ _) (gf_getR_2_5 gw_154 dX8_full_23) (
    gm_cn 29 (gm_m_getI _ _) (gf_getI_5_1 gw_161 dX8_full_26) (
    gm_cn 32 (gm_m_cgt _) (gm_s_cgt (bpc := bpX8_full) (b := 4) dX8_full_29 rfl) (
    gm_cn 33 (gm_m_aload _) (gm_s_aload_n dX8_full_32 rfl) (
    gm_cn 36 (gm_m_getR _ _) (gf_getR_8_4 gw_134 dX8_full_33) (
    gm_cn 37 (gm_m_aload _) (gm_s_aload_n dX8_full_36 rfl) (
    gm_cn 40 (gm_m_vcall _ _ _) (gcl_X2_become gw_176 dX8_full_37) (
    gm_cn 41 (gm_m_aload _) (gm_s_aload_n dX8_full_40 rfl) (
    gm_cn 44 (gm_m_getR _ _) (gf_getR_8_4 gw_134 dX8_full_41) (
    gm_cn 47 (gm_m_getR _ _) (gf_getR_2_5 gw_154 dX8_full_44) (
    gm_cn 49 (gm_m_iload _) (gm_s_iload dX8_full_47) (
    gm_cn 52 (gm_m_putI _ _) (gf_putI_5_0 gw_155 dX8_full_49) (
    gm_cn 53 (gm_m_aload _) (gm_s_aload_n dX8_full_52 rfl) (
    gm_cn 56 (gm_m_getR _ _) (gf_getR_8_4 gw_134 dX8_full_53) (
    gm_cn 57 (gm_m_aload _) (gm_s_aload_n dX8_full_56 rfl) (
    gm_cn 58 (gm_m_aload _) (gm_s_aload_n dX8_full_57 rfl) (
    gm_cn 61 (gm_m_getR _ _) (gf_getR_8_0 gw_130 dX8_full_58) (
    gm_cn 64 (gm_m_getI _ _) (gf_getI_7_2 gw_171 dX8_full_61) (
    gm_cn 67 (gm_m_vcall _ _ _) (gcl_X2_firstAmiss gw_178 dX8_full_64) (
    gm_cn 69 (gm_m_push _) (gm_s_bipush dX8_full_67 rfl) (
    gm_cn 72 (gm_m_cne _) (gm_s_cne (bpc := bpX8_full) (b := 3) dX8_full_69 rfl) (
    gm_cn 74 (gm_m_iload _) (gm_s_iload dX8_full_72) (
    gm_cn 0 gm_m_iret (gm_s_iret dX8_full_74 rfl 0) (
    trivial))))))))))))))))))))))))),
  gm_cn 78 (gm_m_iinc _ _) (gm_s_iinc dX8_full_75 (by decide)) (
    gm_cn 0 (gm_m_goto _) (gm_s_goto (bpc := bpX8_full) (b := 2) dX8_full_78 rfl 0) (
    trivial)),
  gm_cn 83 (gm_m_push _) (gm_s_bipush dX8_full_81 rfl) (
    gm_cn 0 gm_m_iret (gm_s_iret dX8_full_83 rfl 0) (
    trivial)), trivial⟩
theorem dX8_heat_0 : decode cX8_heat 0 = .ok (.aload_n 0, 1) := by decide +kernel
theorem dX8_heat_1 : decode cX8_heat 1 = .ok (.iload_n 1, 1) := by decide +kernel
theorem dX8_heat_2 : decode cX8_heat 2 = .ok (.invokevirtual 89, 3) := by decide +kernel
theorem dX8_heat_5 : decode cX8_heat 5 = .ok (.astore_n 3, 1) := by decide +kernel
theorem dX8_heat_6 : decode cX8_heat 6 = .ok (.aload_n 3, 1) := by decide +kernel
theorem dX8_heat_7 : decode cX8_heat 7 = .ok (.ifnull 11, 3) := by decide +kernel
theorem dX8_heat_10 : decode cX8_heat 10 = .ok (.iload_n 2, 1) := by decide +kernel
theorem dX8_heat_11 : decode cX8_heat 11 = .ok (.iconst 1, 1) := by decide +kernel
theorem dX8_heat_12 : decode cX8_heat 12 = .ok (.invokestatic 73, 3) := by decide +kernel
theorem dX8_heat_15 : decode cX8_heat 15 = .ok (.ifCond .ne 5, 3) := by decide +kernel
theorem dX8_heat_18 : decode cX8_heat 18 = .ok (.iconst (-1), 1) := by decide +kernel
theorem dX8_heat_19 : decode cX8_heat 19 = .ok (.ireturn, 1) := by decide +kernel
theorem dX8_heat_20 : decode cX8_heat 20 = .ok (.aload_n 0, 1) := by decide +kernel
theorem dX8_heat_21 : decode cX8_heat 21 = .ok (.invokevirtual 93, 3) := by decide +kernel
theorem dX8_heat_24 : decode cX8_heat 24 = .ok (.astore 4, 2) := by decide +kernel
theorem dX8_heat_26 : decode cX8_heat 26 = .ok (.iconst 0, 1) := by decide +kernel
theorem dX8_heat_27 : decode cX8_heat 27 = .ok (.istore 5, 2) := by decide +kernel
theorem dX8_heat_29 : decode cX8_heat 29 = .ok (.bipush 57, 2) := by decide +kernel
theorem dX8_heat_31 : decode cX8_heat 31 = .ok (.istore 6, 2) := by decide +kernel
theorem dX8_heat_33 : decode cX8_heat 33 = .ok (.iconst 0, 1) := by decide +kernel
theorem dX8_heat_34 : decode cX8_heat 34 = .ok (.istore 7, 2) := by decide +kernel
theorem dX8_heat_36 : decode cX8_heat 36 = .ok (.iload 7, 2) := by decide +kernel
theorem dX8_heat_38 : decode cX8_heat 38 = .ok (.sipush 190, 3) := by decide +kernel
theorem dX8_heat_41 : decode cX8_heat 41 = .ok (.if_icmp .gt 62, 3) := by decide +kernel
theorem dX8_heat_44 : decode cX8_heat 44 = .ok (.aload_n 0, 1) := by decide +kernel
theorem dX8_heat_45 : decode cX8_heat 45 = .ok (.getfield 27, 3) := by decide +kernel
theorem dX8_heat_48 : decode cX8_heat 48 = .ok (.aload_n 3, 1) := by decide +kernel
theorem dX8_heat_49 : decode cX8_heat 49 = .ok (.invokevirtual 174, 3) := by decide +kernel
theorem dX8_heat_52 : decode cX8_heat 52 = .ok (.aload_n 0, 1) := by decide +kernel
theorem dX8_heat_53 : decode cX8_heat 53 = .ok (.getfield 27, 3) := by decide +kernel
theorem dX8_heat_56 : decode cX8_heat 56 = .ok (.iload 7, 2) := by decide +kernel
theorem dX8_heat_58 : decode cX8_heat 58 = .ok (.putfield 113, 3) := by decide +kernel
theorem dX8_heat_61 : decode cX8_heat 61 = .ok (.aload_n 0, 1) := by decide +kernel
theorem dX8_heat_62 : decode cX8_heat 62 = .ok (.getfield 27, 3) := by decide +kernel
theorem dX8_heat_65 : decode cX8_heat 65 = .ok (.aload 4, 2) := by decide +kernel
theorem dX8_heat_67 : decode cX8_heat 67 = .ok (.aload_n 0, 1) := by decide +kernel
theorem dX8_heat_68 : decode cX8_heat 68 = .ok (.getfield 12, 3) := by decide +kernel
theorem dX8_heat_71 : decode cX8_heat 71 = .ok (.getfield 157, 3) := by decide +kernel
theorem dX8_heat_74 : decode cX8_heat 74 = .ok (.bipush 56, 2) := by decide +kernel
theorem dX8_heat_76 : decode cX8_heat 76 = .ok (.iconst 0, 1) := by decide +kernel
theorem dX8_heat_77 : decode cX8_heat 77 = .ok (.invokevirtual 178, 3) := by decide +kernel
theorem dX8_heat_80 : decode cX8_heat 80 = .ok (.istore 8, 2) := by decide +kernel
theorem dX8_heat_82 : decode cX8_heat 82 = .ok (.iload 8, 2) := by decide +kernel
theorem dX8_heat_84 : decode cX8_heat 84 = .ok (.iload 6, 2) := by decide +kernel
theorem dX8_heat_86 : decode cX8_heat 86 = .ok (.if_icmp .ge 11, 3) := by decide +kernel
theorem dX8_heat_89 : decode cX8_heat 89 = .ok (.iload 8, 2) := by decide +kernel
theorem dX8_heat_91 : decode cX8_heat 91 = .ok (.istore 6, 2) := by decide +kernel
theorem dX8_heat_93 : decode cX8_heat 93 = .ok (.iload 7, 2) := by decide +kernel
theorem dX8_heat_95 : decode cX8_heat 95 = .ok (.istore 5, 2) := by decide +kernel
theorem dX8_heat_97 : decode cX8_heat 97 = .ok (.iinc 7 10, 3) := by decide +kernel
theorem dX8_heat_100 : decode cX8_heat 100 = .ok (.goto (-64), 3) := by decide +kernel
theorem dX8_heat_103 : decode cX8_heat 103 = .ok (.iload_n 2, 1) := by decide +kernel
theorem dX8_heat_104 : decode cX8_heat 104 = .ok (.ifCond .ne 8, 3) := by decide +kernel
theorem dX8_heat_107 : decode cX8_heat 107 = .ok (.iload 5, 2) := by decide +kernel
theorem dX8_heat_109 : decode cX8_heat 109 = .ok (.goto 5, 3) := by decide +kernel
theorem dX8_heat_112 : decode cX8_heat 112 = .ok (.iload 6, 2) := by decide +kernel
theorem dX8_heat_114 : decode cX8_heat 114 = .ok (.ireturn, 1) := by decide +kernel
def pX8_heat : List (List gm_A) := [[(gm_aload 0), (gm_iload 1), (gm_vcall 8 92 2), (gm_astore 3), (gm_aload 3), (gm_ifnull 1), (gm_iload 2), (gm_push (.inl 1)), (gm_scall 90 2), (gm_ifne 2), (gm_goto 1)],
  [(gm_push (.inl (-1))), gm_iret],
  [(gm_aload 0), (gm_vcall 8 94 1), (gm_astore 4), (gm_push (.inl 0)), (gm_istore 5), (gm_push (.inl 57)), (gm_istore 6), (gm_push (.inl 0)), (gm_istore 7), (gm_goto 3)],
  [(gm_iload 7), (gm_push (.inl 190)), (gm_cgt 5), (gm_aload 0), (gm_getR 8 804), (gm_aload 3), (gm_vcall 2 13 2), (gm_aload 0), (gm_getR 8 804), (gm_iload 7), (gm_putI 2 203), (gm_aload 0), (gm_getR 8 804), (gm_aload 4), (gm_aload 0), (gm_getR 8 800), (gm_getI 7 702), (gm_push (.inl 56)), (gm_push (.inl 0)), (gm_vcall 2 19 5), (gm_istore 8), (gm_iload 8), (gm_iload 6), (gm_cge 4), (gm_iload 8), (gm_istore 6), (gm_iload 7), (gm_istore 5), (gm_goto 4)],
  [(gm_iinc 7 10), (gm_goto 3)],
  [(gm_iload 2), (gm_ifne 6), (gm_iload 5), (gm_goto 7)],
  [(gm_iload 6), (gm_goto 7)],
  [gm_iret]]
def bpX8_heat : Nat → Nat := fun b => ([0, 18, 20, 36, 97, 103, 112, 114] : List Nat).getD b 0
set_option maxRecDepth 100000 in
theorem tX8_heat {D : va_G} {sz : Nat} {ad : Nat → Nat} {cA : Nat → ClassId} {xs : Int → Int} {Ln : Int} {l : Launch} : gm_SB D sz ad cA xs Ln l gm_mt cX8_heat "LongNoon" 9 false 1 bpX8_heat 0 pX8_heat :=
  ⟨gm_cn 1 (gm_m_aload _) (gm_s_aload_n dX8_heat_0 rfl) (
    gm_cn 2 (gm_m_iload _) (gm_s_iload_n dX8_heat_1 rfl) (
    gm_cn 5 (gm_m_vcall _ _ _) (gcl_X8_houseAt gw_151 dX8_heat_2) (
    gm_cn 6 (gm_m_astore _) (gm_s_astore_n dX8_heat_5 rfl (by decide)) (
    gm_cn 7 (gm_m_aload _) (gm_s_aload_n dX8_heat_6 rfl) (
    gm_cn 10 (gm_m_ifnull _) (gm_s_ifnull (bpc := bpX8_heat) (b := 1) dX8_heat_7 rfl) (
    gm_cn 11 (gm_m_iload _) (gm_s_iload_n dX8_heat_10 rfl) (
    gm_cn 12 (gm_m_push _) (gm_s_iconst dX8_heat_11) (
    gm_cn 15 (gm_m_scall _ _) (gcl_X8_within gw_147 dX8_heat_12) (
    gm_cn 18 (gm_m_ifne _) (gm_s_ifne (bpc := bpX8_heat) (b := 2) dX8_heat_15 rfl) (
    gm_cn 0 (gm_m_goto _) (gm_s_fall (bpc := bpX8_heat) (b := 1) rfl 0) (
    trivial))))))))))),
  gm_cn 19 (gm_m_push _) (gm_s_iconst dX8_heat_18) (
    gm_cn 0 gm_m_iret (gm_s_iret dX8_heat_19 rfl 0) (
    trivial)),
  gm_cn 21 (gm_m_aload _) (gm_s_aload_n dX8_heat_20 rfl) (
    gm_cn 24 (gm_m_vcall _ _ _) (gcl_X8_groundNow gw_152 dX8_heat_21) (
    gm_cn 26 (gm_m_astore _) (gm_s_astore dX8_heat_24 (by decide)) (
    gm_cn 27 (gm_m_push _) (gm_s_iconst dX8_heat_26) (
    gm_cn 29 (gm_m_istore _) (gm_s_istore dX8_heat_27 (by decide)) (
    gm_cn 31 (gm_m_push _) (gm_s_bipush dX8_heat_29 rfl) (
    gm_cn 33 (gm_m_istore _) (gm_s_istore dX8_heat_31 (by decide)) (
    gm_cn 34 (gm_m_push _) (gm_s_iconst dX8_heat_33) (
    gm_cn 36 (gm_m_istore _) (gm_s_istore dX8_heat_34 (by decide)) (
    gm_cn 0 (gm_m_goto _) (gm_s_fall (bpc := bpX8_heat) (b := 3) rfl 0) (
    trivial)))))))))),
  gm_cn 38 (gm_m_iload _) (gm_s_iload dX8_heat_36) (
    gm_cn 41 (gm_m_push _) (gm_s_sipush dX8_heat_38 rfl) (
    gm_cn 44 (gm_m_cgt _) (gm_s_cgt (bpc := bpX8_heat) (b := 5) dX8_heat_41 rfl) (
    gm_cn 45 (gm_m_aload _) (gm_s_aload_n dX8_heat_44 rfl) (
    gm_cn 48 (gm_m_getR _ _) (gf_getR_8_4 gw_134 dX8_heat_45) (
    gm_cn 49 (gm_m_aload _) (gm_s_aload_n dX8_heat_48 rfl) (
    gm_cn 52 (gm_m_vcall _ _ _) (gcl_X2_become gw_176 dX8_heat_49) (
    gm_cn 53 (gm_m_aload _) (gm_s_aload_n dX8_heat_52 rfl) (
    gm_cn 56 (gm_m_getR _ _) (gf_getR_8_4 gw_134 dX8_heat_53) (
    gm_cn 58 (gm_m_iload _) (gm_s_iload dX8_heat_56) (
    gm_cn 61 (gm_m_putI _ _) (gf_putI_2_3 gw_158 dX8_heat_58) (
    gm_cn 62 (gm_m_aload _) (gm_s_aload_n dX8_heat_61 rfl) (
    gm_cn 65 (gm_m_getR _ _) (gf_getR_8_4 gw_134 dX8_heat_62) (
    gm_cn 67 (gm_m_aload _) (gm_s_aload dX8_heat_65) (
    gm_cn 68 (gm_m_aload _) (gm_s_aload_n dX8_heat_67 rfl) (
    gm_cn 71 (gm_m_getR _ _) (gf_getR_8_0 gw_130 dX8_heat_68) (
    gm_cn 74 (gm_m_getI _ _) (gf_getI_7_2 gw_171 dX8_heat_71) (
    gm_cn 76 (gm_m_push _) (gm_s_bipush dX8_heat_74 rfl) (
    gm_cn 77 (gm_m_push _) (gm_s_iconst dX8_heat_76) (
    gm_cn 80 (gm_m_vcall _ _ _) (gcl_X2_amissDays gw_177 dX8_heat_77) (
    gm_cn 82 (gm_m_istore _) (gm_s_istore dX8_heat_80 (by decide)) (
    gm_cn 84 (gm_m_iload _) (gm_s_iload dX8_heat_82) (
    gm_cn 86 (gm_m_iload _) (gm_s_iload dX8_heat_84) (
    gm_cn 89 (gm_m_cge _) (gm_s_cge (bpc := bpX8_heat) (b := 4) dX8_heat_86 rfl) (
    gm_cn 91 (gm_m_iload _) (gm_s_iload dX8_heat_89) (
    gm_cn 93 (gm_m_istore _) (gm_s_istore dX8_heat_91 (by decide)) (
    gm_cn 95 (gm_m_iload _) (gm_s_iload dX8_heat_93) (
    gm_cn 97 (gm_m_istore _) (gm_s_istore dX8_heat_95 (by decide)) (
    gm_cn 0 (gm_m_goto _) (gm_s_fall (bpc := bpX8_heat) (b := 4) rfl 0) (
    trivial))))))))))))))))))))))))))))),
  gm_cn 100 (gm_m_iinc _ _) (gm_s_iinc dX8_heat_97 (by decide)) (
    gm_cn 0 (gm_m_goto _) (gm_s_goto (bpc := bpX8_heat) (b := 3) dX8_heat_100 rfl 0) (
    trivial)),
  gm_cn 104 (gm_m_iload _) (gm_s_iload_n dX8_heat_103 rfl) (
    gm_cn 107 (gm_m_ifne _) (gm_s_ifne (bpc := bpX8_heat) (b := 6) dX8_heat_104 rfl) (
    gm_cn 109 (gm_m_iload _) (gm_s_iload dX8_heat_107) (
    gm_cn 0 (gm_m_goto _) (gm_s_goto (bpc := bpX8_heat) (b := 7) dX8_heat_109 rfl 0) (
    trivial)))),
  gm_cn 114 (gm_m_iload _) (gm_s_iload dX8_heat_112) (
    gm_cn 0 (gm_m_goto _) (gm_s_fall (bpc := bpX8_heat) (b := 7) rfl 0) (
    trivial)),
  gm_cn 0 gm_m_iret (gm_s_iret dX8_heat_114 rfl 0) (
    trivial), trivial⟩
theorem dX8_big_0 : decode cX8_big 0 = .ok (.iload_n 1, 1) := by decide +kernel
theorem dX8_big_1 : decode cX8_big 1 = .ok (.iconst 1, 1) := by decide +kernel
theorem dX8_big_2 : decode cX8_big 2 = .ok (.invokestatic 73, 3) := by decide +kernel
theorem dX8_big_5 : decode cX8_big 5 = .ok (.ifCond .ne 5, 3) := by decide +kernel
theorem dX8_big_8 : decode cX8_big 8 = .ok (.iconst (-1), 1) := by decide +kernel
theorem dX8_big_9 : decode cX8_big 9 = .ok (.ireturn, 1) := by decide +kernel
theorem dX8_big_10 : decode cX8_big 10 = .ok (.aload_n 0, 1) := by decide +kernel
theorem dX8_big_11 : decode cX8_big 11 = .ok (.getfield 21, 3) := by decide +kernel
theorem dX8_big_14 : decode cX8_big 14 = .ok (.aload_n 0, 1) := by decide +kernel
theorem dX8_big_15 : decode cX8_big 15 = .ok (.getfield 12, 3) := by decide +kernel
theorem dX8_big_18 : decode cX8_big 18 = .ok (.invokevirtual 189, 3) := by decide +kernel
theorem dX8_big_21 : decode cX8_big 21 = .ok (.aload_n 0, 1) := by decide +kernel
theorem dX8_big_22 : decode cX8_big 22 = .ok (.getfield 21, 3) := by decide +kernel
theorem dX8_big_25 : decode cX8_big 25 = .ok (.aload_n 0, 1) := by decide +kernel
theorem dX8_big_26 : decode cX8_big 26 = .ok (.getfield 37, 3) := by decide +kernel
theorem dX8_big_29 : decode cX8_big 29 = .ok (.invokevirtual 192, 3) := by decide +kernel
theorem dX8_big_32 : decode cX8_big 32 = .ok (.aload_n 0, 1) := by decide +kernel
theorem dX8_big_33 : decode cX8_big 33 = .ok (.invokevirtual 93, 3) := by decide +kernel
theorem dX8_big_36 : decode cX8_big 36 = .ok (.astore_n 2, 1) := by decide +kernel
theorem dX8_big_37 : decode cX8_big 37 = .ok (.iconst 0, 1) := by decide +kernel
theorem dX8_big_38 : decode cX8_big 38 = .ok (.istore_n 3, 1) := by decide +kernel
theorem dX8_big_39 : decode cX8_big 39 = .ok (.iconst 0, 1) := by decide +kernel
theorem dX8_big_40 : decode cX8_big 40 = .ok (.istore 4, 2) := by decide +kernel
theorem dX8_big_42 : decode cX8_big 42 = .ok (.iload 4, 2) := by decide +kernel
theorem dX8_big_44 : decode cX8_big 44 = .ok (.bipush 28, 2) := by decide +kernel
theorem dX8_big_46 : decode cX8_big 46 = .ok (.if_icmp .ge 27, 3) := by decide +kernel
theorem dX8_big_49 : decode cX8_big 49 = .ok (.aload_n 0, 1) := by decide +kernel
theorem dX8_big_50 : decode cX8_big 50 = .ok (.getfield 21, 3) := by decide +kernel
theorem dX8_big_53 : decode cX8_big 53 = .ok (.aload_n 0, 1) := by decide +kernel
theorem dX8_big_54 : decode cX8_big 54 = .ok (.getfield 37, 3) := by decide +kernel
theorem dX8_big_57 : decode cX8_big 57 = .ok (.aload_n 2, 1) := by decide +kernel
theorem dX8_big_58 : decode cX8_big 58 = .ok (.invokevirtual 196, 3) := by decide +kernel
theorem dX8_big_61 : decode cX8_big 61 = .ok (.ifCond .eq 6, 3) := by decide +kernel
theorem dX8_big_64 : decode cX8_big 64 = .ok (.iinc 3 1, 3) := by decide +kernel
theorem dX8_big_67 : decode cX8_big 67 = .ok (.iinc 4 1, 3) := by decide +kernel
theorem dX8_big_70 : decode cX8_big 70 = .ok (.goto (-28), 3) := by decide +kernel
theorem dX8_big_73 : decode cX8_big 73 = .ok (.iload_n 1, 1) := by decide +kernel
theorem dX8_big_74 : decode cX8_big 74 = .ok (.ifCond .ne 7, 3) := by decide +kernel
theorem dX8_big_77 : decode cX8_big 77 = .ok (.iload_n 3, 1) := by decide +kernel
theorem dX8_big_78 : decode cX8_big 78 = .ok (.goto 10, 3) := by decide +kernel
theorem dX8_big_81 : decode cX8_big 81 = .ok (.aload_n 0, 1) := by decide +kernel
theorem dX8_big_82 : decode cX8_big 82 = .ok (.getfield 37, 3) := by decide +kernel
theorem dX8_big_85 : decode cX8_big 85 = .ok (.getfield 104, 3) := by decide +kernel
theorem dX8_big_88 : decode cX8_big 88 = .ok (.ireturn, 1) := by decide +kernel
def pX8_big : List (List gm_A) := [[(gm_iload 1), (gm_push (.inl 1)), (gm_scall 90 2), (gm_ifne 1), (gm_push (.inl (-1))), gm_iret],
  [(gm_aload 0), (gm_getR 8 803), (gm_aload 0), (gm_getR 8 800), (gm_vcall 7 47 2), (gm_aload 0), (gm_getR 8 803), (gm_aload 0), (gm_getR 8 806), (gm_vcall 7 49 2), (gm_aload 0), (gm_vcall 8 94 1), (gm_astore 2), (gm_push (.inl 0)), (gm_istore 3), (gm_push (.inl 0)), (gm_istore 4), (gm_goto 2)],
  [(gm_iload 4), (gm_push (.inl 28)), (gm_cge 4), (gm_aload 0), (gm_getR 8 803), (gm_aload 0), (gm_getR 8 806), (gm_aload 2), (gm_vcall 7 50 3), (gm_ifeq 3), (gm_iinc 3 1), (gm_goto 3)],
  [(gm_iinc 4 1), (gm_goto 2)],
  [(gm_iload 1), (gm_ifne 5), (gm_iload 3), (gm_goto 6)],
  [(gm_aload 0), (gm_getR 8 806), (gm_getI 5 500), (gm_goto 6)],
  [gm_iret]]
def bpX8_big : Nat → Nat := fun b => ([0, 10, 42, 67, 73, 81, 88] : List Nat).getD b 0
set_option maxRecDepth 100000 in
theorem tX8_big {D : va_G} {sz : Nat} {ad : Nat → Nat} {cA : Nat → ClassId} {xs : Int → Int} {Ln : Int} {l : Launch} : gm_SB D sz ad cA xs Ln l gm_mt cX8_big "LongNoon" 5 false 1 bpX8_big 0 pX8_big :=
  ⟨gm_cn 1 (gm_m_iload _) (gm_s_iload_n dX8_big_0 rfl) (
    gm_cn 2 (gm_m_push _) (gm_s_iconst dX8_big_1) (
    gm_cn 5 (gm_m_scall _ _) (gcl_X8_within gw_147 dX8_big_2) (
    gm_cn 8 (gm_m_ifne _) (gm_s_ifne (bpc := bpX8_big) (b := 1) dX8_big_5 rfl) (
    gm_cn 9 (gm_m_push _) (gm_s_iconst dX8_big_8) (
    gm_cn 0 gm_m_iret (gm_s_iret dX8_big_9 rfl 0) (
    trivial)))))),
  gm_cn 11 (gm_m_aload _) (gm_s_aload_n dX8_big_10 rfl) (
    gm_cn 14 (gm_m_getR _ _) (gf_getR_8_3 gw_132 dX8_big_11) (
    gm_cn 15 (gm_m_aload _) (gm_s_aload_n dX8_big_14 rfl) (
    gm_cn 18 (gm_m_getR _ _) (gf_getR_8_0 gw_130 dX8_big_15) (
    gm_cn 21 (gm_m_vcall _ _ _) (gcl_X7_become gw_180 dX8_big_18) (
    gm_cn 22 (gm_m_aload _) (gm_s_aload_n dX8_big_21 rfl) (
    gm_cn 25 (gm_m_getR _ _) (gf_getR_8_3 gw_132 dX8_big_22) (
    gm_cn 26 (gm_m_aload _) (gm_s_aload_n dX8_big_25 rfl) (
    gm_cn 29 (gm_m_getR _ _) (gf_getR_8_6 gw_137 dX8_big_26) (
    gm_cn 32 (gm_m_vcall _ _ _) (gcl_X7_pool gw_181 dX8_big_29) (
    gm_cn 33 (gm_m_aload _) (gm_s_aload_n dX8_big_32 rfl) (
    gm_cn 36 (gm_m_vcall _ _ _) (gcl_X8_groundNow gw_152 dX8_big_33) (
    gm_cn 37 (gm_m_astore _) (gm_s_astore_n dX8_big_36 rfl (by decide)) (
    gm_cn 38 (gm_m_push _) (gm_s_iconst dX8_big_37) (
    gm_cn 39 (gm_m_istore _) (gm_s_istore_n dX8_big_38 rfl (by decide)) (
    gm_cn 40 (gm_m_push _) (gm_s_iconst dX8_big_39) (
    gm_cn 42 (gm_m_istore _) (gm_s_istore dX8_big_40 (by decide)) (
    gm_cn 0 (gm_m_goto _) (gm_s_fall (bpc := bpX8_big) (b := 2) rfl 0) (
    trivial)))))))))))))))))),
  gm_cn 44 (gm_m_iload _) (gm_s_iload dX8_big_42) (
    gm_cn 46 (gm_m_push _) (gm_s_bipush dX8_big_44 rfl) (
    gm_cn 49 (gm_m_cge _) (gm_s_cge (bpc := bpX8_big) (b := 4) dX8_big_46 rfl) (
    gm_cn 50 (gm_m_aload _) (gm_s_aload_n dX8_big_49 rfl) (
    gm_cn 53 (gm_m_getR _ _) (gf_getR_8_3 gw_132 dX8_big_50) (
    gm_cn 54 (gm_m_aload _) (gm_s_aload_n dX8_big_53 rfl) (
    gm_cn 57 (gm_m_getR _ _) (gf_getR_8_6 gw_137 dX8_big_54) (
    gm_cn 58 (gm_m_aload _) (gm_s_aload_n dX8_big_57 rfl) (
    gm_cn 61 (gm_m_vcall _ _ _) (gcl_X7_passWith gw_182 dX8_big_58) (
    gm_cn 64 (gm_m_ifeq _) (gm_s_ifeq (bpc := bpX8_big) (b := 3) dX8_big_61 rfl) (
    gm_cn 67 (gm_m_iinc _ _) (gm_s_iinc dX8_big_64 (by decide)) (
    gm_cn 0 (gm_m_goto _) (gm_s_fall (bpc := bpX8_big) (b := 3) rfl 0) (
    trivial)))))))))))),
  gm_cn 70 (gm_m_iinc _ _) (gm_s_iinc dX8_big_67 (by decide)) (
    gm_cn 0 (gm_m_goto _) (gm_s_goto (bpc := bpX8_big) (b := 2) dX8_big_70 rfl 0) (
    trivial)),
  gm_cn 74 (gm_m_iload _) (gm_s_iload_n dX8_big_73 rfl) (
    gm_cn 77 (gm_m_ifne _) (gm_s_ifne (bpc := bpX8_big) (b := 5) dX8_big_74 rfl) (
    gm_cn 78 (gm_m_iload _) (gm_s_iload_n dX8_big_77 rfl) (
    gm_cn 0 (gm_m_goto _) (gm_s_goto (bpc := bpX8_big) (b := 6) dX8_big_78 rfl 0) (
    trivial)))),
  gm_cn 82 (gm_m_aload _) (gm_s_aload_n dX8_big_81 rfl) (
    gm_cn 85 (gm_m_getR _ _) (gf_getR_8_6 gw_137 dX8_big_82) (
    gm_cn 88 (gm_m_getI _ _) (gf_getI_5_0 gw_155 dX8_big_85) (
    gm_cn 0 (gm_m_goto _) (gm_s_fall (bpc := bpX8_big) (b := 6) rfl 0) (
    trivial)))),
  gm_cn 0 gm_m_iret (gm_s_iret dX8_big_88 rfl 0) (
    trivial), trivial⟩
theorem dX8_gives_0 : decode cX8_gives 0 = .ok (.aload_n 0, 1) := by decide +kernel
theorem dX8_gives_1 : decode cX8_gives 1 = .ok (.iload_n 1, 1) := by decide +kernel
theorem dX8_gives_2 : decode cX8_gives 2 = .ok (.invokevirtual 89, 3) := by decide +kernel
theorem dX8_gives_5 : decode cX8_gives 5 = .ok (.astore 4, 2) := by decide +kernel
theorem dX8_gives_7 : decode cX8_gives 7 = .ok (.aload_n 0, 1) := by decide +kernel
theorem dX8_gives_8 : decode cX8_gives 8 = .ok (.iload_n 2, 1) := by decide +kernel
theorem dX8_gives_9 : decode cX8_gives 9 = .ok (.invokevirtual 89, 3) := by decide +kernel
theorem dX8_gives_12 : decode cX8_gives 12 = .ok (.astore 5, 2) := by decide +kernel
theorem dX8_gives_14 : decode cX8_gives 14 = .ok (.aload 4, 2) := by decide +kernel
theorem dX8_gives_16 : decode cX8_gives 16 = .ok (.ifnull 8, 3) := by decide +kernel
theorem dX8_gives_19 : decode cX8_gives 19 = .ok (.aload 5, 2) := by decide +kernel
theorem dX8_gives_21 : decode cX8_gives 21 = .ok (.ifnonnull 7, 3) := by decide +kernel
theorem dX8_gives_24 : decode cX8_gives 24 = .ok (.sipush (-1001), 3) := by decide +kernel
theorem dX8_gives_27 : decode cX8_gives 27 = .ok (.ireturn, 1) := by decide +kernel
theorem dX8_gives_28 : decode cX8_gives 28 = .ok (.iload_n 1, 1) := by decide +kernel
theorem dX8_gives_29 : decode cX8_gives 29 = .ok (.iload_n 2, 1) := by decide +kernel
theorem dX8_gives_30 : decode cX8_gives 30 = .ok (.if_icmp .eq 12, 3) := by decide +kernel
theorem dX8_gives_33 : decode cX8_gives 33 = .ok (.iload_n 3, 1) := by decide +kernel
theorem dX8_gives_34 : decode cX8_gives 34 = .ok (.bipush 99, 2) := by decide +kernel
theorem dX8_gives_36 : decode cX8_gives 36 = .ok (.invokestatic 73, 3) := by decide +kernel
theorem dX8_gives_39 : decode cX8_gives 39 = .ok (.ifCond .ne 7, 3) := by decide +kernel
theorem dX8_gives_42 : decode cX8_gives 42 = .ok (.sipush (-1002), 3) := by decide +kernel
theorem dX8_gives_45 : decode cX8_gives 45 = .ok (.ireturn, 1) := by decide +kernel
theorem dX8_gives_46 : decode cX8_gives 46 = .ok (.aload_n 0, 1) := by decide +kernel
theorem dX8_gives_47 : decode cX8_gives 47 = .ok (.aload 4, 2) := by decide +kernel
theorem dX8_gives_49 : decode cX8_gives 49 = .ok (.aload 5, 2) := by decide +kernel
theorem dX8_gives_51 : decode cX8_gives 51 = .ok (.iconst 0, 1) := by decide +kernel
theorem dX8_gives_52 : decode cX8_gives 52 = .ok (.invokevirtual 200, 3) := by decide +kernel
theorem dX8_gives_55 : decode cX8_gives 55 = .ok (.istore 6, 2) := by decide +kernel
theorem dX8_gives_57 : decode cX8_gives 57 = .ok (.iload_n 3, 1) := by decide +kernel
theorem dX8_gives_58 : decode cX8_gives 58 = .ok (.aload 4, 2) := by decide +kernel
theorem dX8_gives_60 : decode cX8_gives 60 = .ok (.getfield 101, 3) := by decide +kernel
theorem dX8_gives_63 : decode cX8_gives 63 = .ok (.getfield 104, 3) := by decide +kernel
theorem dX8_gives_66 : decode cX8_gives 66 = .ok (.aload 5, 2) := by decide +kernel
theorem dX8_gives_68 : decode cX8_gives 68 = .ok (.getfield 101, 3) := by decide +kernel
theorem dX8_gives_71 : decode cX8_gives 71 = .ok (.getfield 122, 3) := by decide +kernel
theorem dX8_gives_74 : decode cX8_gives 74 = .ok (.aload 5, 2) := by decide +kernel
theorem dX8_gives_76 : decode cX8_gives 76 = .ok (.getfield 101, 3) := by decide +kernel
theorem dX8_gives_79 : decode cX8_gives 79 = .ok (.getfield 104, 3) := by decide +kernel
theorem dX8_gives_82 : decode cX8_gives 82 = .ok (.isub, 1) := by decide +kernel
theorem dX8_gives_83 : decode cX8_gives 83 = .ok (.invokestatic 204, 3) := by decide +kernel
theorem dX8_gives_86 : decode cX8_gives 86 = .ok (.invokestatic 204, 3) := by decide +kernel
theorem dX8_gives_89 : decode cX8_gives 89 = .ok (.istore 7, 2) := by decide +kernel
theorem dX8_gives_91 : decode cX8_gives 91 = .ok (.iload 6, 2) := by decide +kernel
theorem dX8_gives_93 : decode cX8_gives 93 = .ok (.aload_n 0, 1) := by decide +kernel
theorem dX8_gives_94 : decode cX8_gives 94 = .ok (.aload 4, 2) := by decide +kernel
theorem dX8_gives_96 : decode cX8_gives 96 = .ok (.aload 5, 2) := by decide +kernel
theorem dX8_gives_98 : decode cX8_gives 98 = .ok (.iload 7, 2) := by decide +kernel
theorem dX8_gives_100 : decode cX8_gives 100 = .ok (.invokevirtual 200, 3) := by decide +kernel
theorem dX8_gives_103 : decode cX8_gives 103 = .ok (.isub, 1) := by decide +kernel
theorem dX8_gives_104 : decode cX8_gives 104 = .ok (.ireturn, 1) := by decide +kernel
def pX8_gives : List (List gm_A) := [[(gm_aload 0), (gm_iload 1), (gm_vcall 8 92 2), (gm_astore 4), (gm_aload 0), (gm_iload 2), (gm_vcall 8 92 2), (gm_astore 5), (gm_aload 4), (gm_ifnull 1), (gm_aload 5), (gm_ifnonnull 2), (gm_goto 1)],
  [(gm_push (.inl (-1001))), gm_iret],
  [(gm_iload 1), (gm_iload 2), (gm_ceq 3), (gm_iload 3), (gm_push (.inl 99)), (gm_scall 90 2), (gm_ifne 4), (gm_goto 3)],
  [(gm_push (.inl (-1002))), gm_iret],
  [(gm_aload 0), (gm_aload 4), (gm_aload 5), (gm_push (.inl 0)), (gm_vcall 8 95 4), (gm_istore 6), (gm_iload 3), (gm_aload 4), (gm_getR 2 205), (gm_getI 5 500), (gm_aload 5), (gm_getR 2 205), (gm_getI 5 501), (gm_aload 5), (gm_getR 2 205), (gm_getI 5 500), (gm_op2 gm_sub), gm_min, gm_min, (gm_istore 7), (gm_iload 6), (gm_aload 0), (gm_aload 4), (gm_aload 5), (gm_iload 7), (gm_vcall 8 95 4), (gm_op2 gm_sub), gm_iret]]
def bpX8_gives : Nat → Nat := fun b => ([0, 24, 28, 42, 46] : List Nat).getD b 0
set_option maxRecDepth 100000 in
theorem tX8_gives {D : va_G} {sz : Nat} {ad : Nat → Nat} {cA : Nat → ClassId} {xs : Int → Int} {Ln : Int} {l : Launch} : gm_SB D sz ad cA xs Ln l gm_mt cX8_gives "LongNoon" 8 false 1 bpX8_gives 0 pX8_gives :=
  ⟨gm_cn 1 (gm_m_aload _) (gm_s_aload_n dX8_gives_0 rfl) (
    gm_cn 2 (gm_m_iload _) (gm_s_iload_n dX8_gives_1 rfl) (
    gm_cn 5 (gm_m_vcall _ _ _) (gcl_X8_houseAt gw_151 dX8_gives_2) (
    gm_cn 7 (gm_m_astore _) (gm_s_astore dX8_gives_5 (by decide)) (
    gm_cn 8 (gm_m_aload _) (gm_s_aload_n dX8_gives_7 rfl) (
    gm_cn 9 (gm_m_iload _) (gm_s_iload_n dX8_gives_8 rfl) (
    gm_cn 12 (gm_m_vcall _ _ _) (gcl_X8_houseAt gw_151 dX8_gives_9) (
    gm_cn 14 (gm_m_astore _) (gm_s_astore dX8_gives_12 (by decide)) (
    gm_cn 16 (gm_m_aload _) (gm_s_aload dX8_gives_14) (
    gm_cn 19 (gm_m_ifnull _) (gm_s_ifnull (bpc := bpX8_gives) (b := 1) dX8_gives_16 rfl) (
    gm_cn 21 (gm_m_aload _) (gm_s_aload dX8_gives_19) (
    gm_cn 24 (gm_m_ifnonnull _) (gm_s_ifnonnull (bpc := bpX8_gives) (b := 2) dX8_gives_21 rfl) (
    gm_cn 0 (gm_m_goto _) (gm_s_fall (bpc := bpX8_gives) (b := 1) rfl 0) (
    trivial))))))))))))),
  gm_cn 27 (gm_m_push _) (gm_s_sipush dX8_gives_24 rfl) (
    gm_cn 0 gm_m_iret (gm_s_iret dX8_gives_27 rfl 0) (
    trivial)),
  gm_cn 29 (gm_m_iload _) (gm_s_iload_n dX8_gives_28 rfl) (
    gm_cn 30 (gm_m_iload _) (gm_s_iload_n dX8_gives_29 rfl) (
    gm_cn 33 (gm_m_ceq _) (gm_s_ceq (bpc := bpX8_gives) (b := 3) dX8_gives_30 rfl) (
    gm_cn 34 (gm_m_iload _) (gm_s_iload_n dX8_gives_33 rfl) (
    gm_cn 36 (gm_m_push _) (gm_s_bipush dX8_gives_34 rfl) (
    gm_cn 39 (gm_m_scall _ _) (gcl_X8_within gw_147 dX8_gives_36) (
    gm_cn 42 (gm_m_ifne _) (gm_s_ifne (bpc := bpX8_gives) (b := 4) dX8_gives_39 rfl) (
    gm_cn 0 (gm_m_goto _) (gm_s_fall (bpc := bpX8_gives) (b := 3) rfl 0) (
    trivial)))))))),
  gm_cn 45 (gm_m_push _) (gm_s_sipush dX8_gives_42 rfl) (
    gm_cn 0 gm_m_iret (gm_s_iret dX8_gives_45 rfl 0) (
    trivial)),
  gm_cn 47 (gm_m_aload _) (gm_s_aload_n dX8_gives_46 rfl) (
    gm_cn 49 (gm_m_aload _) (gm_s_aload dX8_gives_47) (
    gm_cn 51 (gm_m_aload _) (gm_s_aload dX8_gives_49) (
    gm_cn 52 (gm_m_push _) (gm_s_iconst dX8_gives_51) (
    gm_cn 55 (gm_m_vcall _ _ _) (gcl_X8_amissOfBoth gw_183 dX8_gives_52) (
    gm_cn 57 (gm_m_istore _) (gm_s_istore dX8_gives_55 (by decide)) (
    gm_cn 58 (gm_m_iload _) (gm_s_iload_n dX8_gives_57 rfl) (
    gm_cn 60 (gm_m_aload _) (gm_s_aload dX8_gives_58) (
    gm_cn 63 (gm_m_getR _ _) (gf_getR_2_5 gw_154 dX8_gives_60) (
    gm_cn 66 (gm_m_getI _ _) (gf_getI_5_0 gw_155 dX8_gives_63) (
    gm_cn 68 (gm_m_aload _) (gm_s_aload dX8_gives_66) (
    gm_cn 71 (gm_m_getR _ _) (gf_getR_2_5 gw_154 dX8_gives_68) (
    gm_cn 74 (gm_m_getI _ _) (gf_getI_5_1 gw_161 dX8_gives_71) (
    gm_cn 76 (gm_m_aload _) (gm_s_aload dX8_gives_74) (
    gm_cn 79 (gm_m_getR _ _) (gf_getR_2_5 gw_154 dX8_gives_76) (
    gm_cn 82 (gm_m_getI _ _) (gf_getI_5_0 gw_155 dX8_gives_79) (
    gm_cn 83 (gm_m_op2 _) (gm_s_isub dX8_gives_82) (
    gm_cn 86 gm_m_min (gm_s_min gw_184 gw_41 gw_43 gw_42 dX8_gives_83) (
    gm_cn 89 gm_m_min (gm_s_min gw_184 gw_41 gw_43 gw_42 dX8_gives_86) (
    gm_cn 91 (gm_m_istore _) (gm_s_istore dX8_gives_89 (by decide)) (
    gm_cn 93 (gm_m_iload _) (gm_s_iload dX8_gives_91) (
    gm_cn 94 (gm_m_aload _) (gm_s_aload_n dX8_gives_93 rfl) (
    gm_cn 96 (gm_m_aload _) (gm_s_aload dX8_gives_94) (
    gm_cn 98 (gm_m_aload _) (gm_s_aload dX8_gives_96) (
    gm_cn 100 (gm_m_iload _) (gm_s_iload dX8_gives_98) (
    gm_cn 103 (gm_m_vcall _ _ _) (gcl_X8_amissOfBoth gw_183 dX8_gives_100) (
    gm_cn 104 (gm_m_op2 _) (gm_s_isub dX8_gives_103) (
    gm_cn 0 gm_m_iret (gm_s_iret dX8_gives_104 rfl 0) (
    trivial)))))))))))))))))))))))))))), trivial⟩
theorem dX8_turn_0 : decode cX8_turn 0 = .ok (.aload_n 0, 1) := by decide +kernel
theorem dX8_turn_1 : decode cX8_turn 1 = .ok (.iload_n 1, 1) := by decide +kernel
theorem dX8_turn_2 : decode cX8_turn 2 = .ok (.invokevirtual 89, 3) := by decide +kernel
theorem dX8_turn_5 : decode cX8_turn 5 = .ok (.astore_n 3, 1) := by decide +kernel
theorem dX8_turn_6 : decode cX8_turn 6 = .ok (.aload_n 3, 1) := by decide +kernel
theorem dX8_turn_7 : decode cX8_turn 7 = .ok (.ifnull 11, 3) := by decide +kernel
theorem dX8_turn_10 : decode cX8_turn 10 = .ok (.iload_n 2, 1) := by decide +kernel
theorem dX8_turn_11 : decode cX8_turn 11 = .ok (.iconst 1, 1) := by decide +kernel
theorem dX8_turn_12 : decode cX8_turn 12 = .ok (.invokestatic 73, 3) := by decide +kernel
theorem dX8_turn_15 : decode cX8_turn 15 = .ok (.ifCond .ne 5, 3) := by decide +kernel
theorem dX8_turn_18 : decode cX8_turn 18 = .ok (.iconst (-1), 1) := by decide +kernel
theorem dX8_turn_19 : decode cX8_turn 19 = .ok (.ireturn, 1) := by decide +kernel
theorem dX8_turn_20 : decode cX8_turn 20 = .ok (.aload_n 0, 1) := by decide +kernel
theorem dX8_turn_21 : decode cX8_turn 21 = .ok (.invokevirtual 93, 3) := by decide +kernel
theorem dX8_turn_24 : decode cX8_turn 24 = .ok (.astore 4, 2) := by decide +kernel
theorem dX8_turn_26 : decode cX8_turn 26 = .ok (.iconst 1, 1) := by decide +kernel
theorem dX8_turn_27 : decode cX8_turn 27 = .ok (.istore 5, 2) := by decide +kernel
theorem dX8_turn_29 : decode cX8_turn 29 = .ok (.bipush 57, 2) := by decide +kernel
theorem dX8_turn_31 : decode cX8_turn 31 = .ok (.istore 6, 2) := by decide +kernel
theorem dX8_turn_33 : decode cX8_turn 33 = .ok (.iconst 1, 1) := by decide +kernel
theorem dX8_turn_34 : decode cX8_turn 34 = .ok (.istore 7, 2) := by decide +kernel
theorem dX8_turn_36 : decode cX8_turn 36 = .ok (.iload 7, 2) := by decide +kernel
theorem dX8_turn_38 : decode cX8_turn 38 = .ok (.bipush 28, 2) := by decide +kernel
theorem dX8_turn_40 : decode cX8_turn 40 = .ok (.if_icmp .gt 54, 3) := by decide +kernel
theorem dX8_turn_43 : decode cX8_turn 43 = .ok (.aload_n 0, 1) := by decide +kernel
theorem dX8_turn_44 : decode cX8_turn 44 = .ok (.getfield 27, 3) := by decide +kernel
theorem dX8_turn_47 : decode cX8_turn 47 = .ok (.aload_n 3, 1) := by decide +kernel
theorem dX8_turn_48 : decode cX8_turn 48 = .ok (.invokevirtual 174, 3) := by decide +kernel
theorem dX8_turn_51 : decode cX8_turn 51 = .ok (.aload_n 0, 1) := by decide +kernel
theorem dX8_turn_52 : decode cX8_turn 52 = .ok (.getfield 27, 3) := by decide +kernel
theorem dX8_turn_55 : decode cX8_turn 55 = .ok (.aload 4, 2) := by decide +kernel
theorem dX8_turn_57 : decode cX8_turn 57 = .ok (.aload_n 0, 1) := by decide +kernel
theorem dX8_turn_58 : decode cX8_turn 58 = .ok (.getfield 12, 3) := by decide +kernel
theorem dX8_turn_61 : decode cX8_turn 61 = .ok (.getfield 157, 3) := by decide +kernel
theorem dX8_turn_64 : decode cX8_turn 64 = .ok (.bipush 56, 2) := by decide +kernel
theorem dX8_turn_66 : decode cX8_turn 66 = .ok (.iload 7, 2) := by decide +kernel
theorem dX8_turn_68 : decode cX8_turn 68 = .ok (.invokevirtual 178, 3) := by decide +kernel
theorem dX8_turn_71 : decode cX8_turn 71 = .ok (.istore 8, 2) := by decide +kernel
theorem dX8_turn_73 : decode cX8_turn 73 = .ok (.iload 8, 2) := by decide +kernel
theorem dX8_turn_75 : decode cX8_turn 75 = .ok (.iload 6, 2) := by decide +kernel
theorem dX8_turn_77 : decode cX8_turn 77 = .ok (.if_icmp .ge 11, 3) := by decide +kernel
theorem dX8_turn_80 : decode cX8_turn 80 = .ok (.iload 8, 2) := by decide +kernel
theorem dX8_turn_82 : decode cX8_turn 82 = .ok (.istore 6, 2) := by decide +kernel
theorem dX8_turn_84 : decode cX8_turn 84 = .ok (.iload 7, 2) := by decide +kernel
theorem dX8_turn_86 : decode cX8_turn 86 = .ok (.istore 5, 2) := by decide +kernel
theorem dX8_turn_88 : decode cX8_turn 88 = .ok (.iinc 7 1, 3) := by decide +kernel
theorem dX8_turn_91 : decode cX8_turn 91 = .ok (.goto (-55), 3) := by decide +kernel
theorem dX8_turn_94 : decode cX8_turn 94 = .ok (.iload_n 2, 1) := by decide +kernel
theorem dX8_turn_95 : decode cX8_turn 95 = .ok (.ifCond .ne 8, 3) := by decide +kernel
theorem dX8_turn_98 : decode cX8_turn 98 = .ok (.iload 5, 2) := by decide +kernel
theorem dX8_turn_100 : decode cX8_turn 100 = .ok (.goto 5, 3) := by decide +kernel
theorem dX8_turn_103 : decode cX8_turn 103 = .ok (.iload 6, 2) := by decide +kernel
theorem dX8_turn_105 : decode cX8_turn 105 = .ok (.ireturn, 1) := by decide +kernel
def pX8_turn : List (List gm_A) := [[(gm_aload 0), (gm_iload 1), (gm_vcall 8 92 2), (gm_astore 3), (gm_aload 3), (gm_ifnull 1), (gm_iload 2), (gm_push (.inl 1)), (gm_scall 90 2), (gm_ifne 2), (gm_goto 1)],
  [(gm_push (.inl (-1))), gm_iret],
  [(gm_aload 0), (gm_vcall 8 94 1), (gm_astore 4), (gm_push (.inl 1)), (gm_istore 5), (gm_push (.inl 57)), (gm_istore 6), (gm_push (.inl 1)), (gm_istore 7), (gm_goto 3)],
  [(gm_iload 7), (gm_push (.inl 28)), (gm_cgt 5), (gm_aload 0), (gm_getR 8 804), (gm_aload 3), (gm_vcall 2 13 2), (gm_aload 0), (gm_getR 8 804), (gm_aload 4), (gm_aload 0), (gm_getR 8 800), (gm_getI 7 702), (gm_push (.inl 56)), (gm_iload 7), (gm_vcall 2 19 5), (gm_istore 8), (gm_iload 8), (gm_iload 6), (gm_cge 4), (gm_iload 8), (gm_istore 6), (gm_iload 7), (gm_istore 5), (gm_goto 4)],
  [(gm_iinc 7 1), (gm_goto 3)],
  [(gm_iload 2), (gm_ifne 6), (gm_iload 5), (gm_goto 7)],
  [(gm_iload 6), (gm_goto 7)],
  [gm_iret]]
def bpX8_turn : Nat → Nat := fun b => ([0, 18, 20, 36, 88, 94, 103, 105] : List Nat).getD b 0
set_option maxRecDepth 100000 in
theorem tX8_turn {D : va_G} {sz : Nat} {ad : Nat → Nat} {cA : Nat → ClassId} {xs : Int → Int} {Ln : Int} {l : Launch} : gm_SB D sz ad cA xs Ln l gm_mt cX8_turn "LongNoon" 9 false 1 bpX8_turn 0 pX8_turn :=
  ⟨gm_cn 1 (gm_m_aload _) (gm_s_aload_n dX8_turn_0 rfl) (
    gm_cn 2 (gm_m_iload _) (gm_s_iload_n dX8_turn_1 rfl) (
    gm_cn 5 (gm_m_vcall _ _ _) (gcl_X8_houseAt gw_151 dX8_turn_2) (
    gm_cn 6 (gm_m_astore _) (gm_s_astore_n dX8_turn_5 rfl (by decide)) (
    gm_cn 7 (gm_m_aload _) (gm_s_aload_n dX8_turn_6 rfl) (
    gm_cn 10 (gm_m_ifnull _) (gm_s_ifnull (bpc := bpX8_turn) (b := 1) dX8_turn_7 rfl) (
    gm_cn 11 (gm_m_iload _) (gm_s_iload_n dX8_turn_10 rfl) (
    gm_cn 12 (gm_m_push _) (gm_s_iconst dX8_turn_11) (
    gm_cn 15 (gm_m_scall _ _) (gcl_X8_within gw_147 dX8_turn_12) (
    gm_cn 18 (gm_m_ifne _) (gm_s_ifne (bpc := bpX8_turn) (b := 2) dX8_turn_15 rfl) (
    gm_cn 0 (gm_m_goto _) (gm_s_fall (bpc := bpX8_turn) (b := 1) rfl 0) (
    trivial))))))))))),
  gm_cn 19 (gm_m_push _) (gm_s_iconst dX8_turn_18) (
    gm_cn 0 gm_m_iret (gm_s_iret dX8_turn_19 rfl 0) (
    trivial)),
  gm_cn 21 (gm_m_aload _) (gm_s_aload_n dX8_turn_20 rfl) (
    gm_cn 24 (gm_m_vcall _ _ _) (gcl_X8_groundNow gw_152 dX8_turn_21) (
    gm_cn 26 (gm_m_astore _) (gm_s_astore dX8_turn_24 (by decide)) (
    gm_cn 27 (gm_m_push _) (gm_s_iconst dX8_turn_26) (
    gm_cn 29 (gm_m_istore _) (gm_s_istore dX8_turn_27 (by decide)) (
    gm_cn 31 (gm_m_push _) (gm_s_bipush dX8_turn_29 rfl) (
    gm_cn 33 (gm_m_istore _) (gm_s_istore dX8_turn_31 (by decide)) (
    gm_cn 34 (gm_m_push _) (gm_s_iconst dX8_turn_33) (
    gm_cn 36 (gm_m_istore _) (gm_s_istore dX8_turn_34 (by decide)) (
    gm_cn 0 (gm_m_goto _) (gm_s_fall (bpc := bpX8_turn) (b := 3) rfl 0) (
    trivial)))))))))),
  gm_cn 38 (gm_m_iload _) (gm_s_iload dX8_turn_36) (
    gm_cn 40 (gm_m_push _) (gm_s_bipush dX8_turn_38 rfl) (
    gm_cn 43 (gm_m_cgt _) (gm_s_cgt (bpc := bpX8_turn) (b := 5) dX8_turn_40 rfl) (
    gm_cn 44 (gm_m_aload _) (gm_s_aload_n dX8_turn_43 rfl) (
    gm_cn 47 (gm_m_getR _ _) (gf_getR_8_4 gw_134 dX8_turn_44) (
    gm_cn 48 (gm_m_aload _) (gm_s_aload_n dX8_turn_47 rfl) (
    gm_cn 51 (gm_m_vcall _ _ _) (gcl_X2_become gw_176 dX8_turn_48) (
    gm_cn 52 (gm_m_aload _) (gm_s_aload_n dX8_turn_51 rfl) (
    gm_cn 55 (gm_m_getR _ _) (gf_getR_8_4 gw_134 dX8_turn_52) (
    gm_cn 57 (gm_m_aload _) (gm_s_aload dX8_turn_55) (
    gm_cn 58 (gm_m_aload _) (gm_s_aload_n dX8_turn_57 rfl) (
    gm_cn 61 (gm_m_getR _ _) (gf_getR_8_0 gw_130 dX8_turn_58) (
    gm_cn 64 (gm_m_getI _ _) (gf_getI_7_2 gw_171 dX8_turn_61) (
    gm_cn 66 (gm_m_push _) (gm_s_bipush dX8_turn_64 rfl) (
    gm_cn 68 (gm_m_iload _) (gm_s_iload dX8_turn_66) (
    gm_cn 71 (gm_m_vcall _ _ _) (gcl_X2_amissDays gw_177 dX8_turn_68) (
    gm_cn 73 (gm_m_istore _) (gm_s_istore dX8_turn_71 (by decide)) (
    gm_cn 75 (gm_m_iload _) (gm_s_iload dX8_turn_73) (
    gm_cn 77 (gm_m_iload _) (gm_s_iload dX8_turn_75) (
    gm_cn 80 (gm_m_cge _) (gm_s_cge (bpc := bpX8_turn) (b := 4) dX8_turn_77 rfl) (
    gm_cn 82 (gm_m_iload _) (gm_s_iload dX8_turn_80) (
    gm_cn 84 (gm_m_istore _) (gm_s_istore dX8_turn_82 (by decide)) (
    gm_cn 86 (gm_m_iload _) (gm_s_iload dX8_turn_84) (
    gm_cn 88 (gm_m_istore _) (gm_s_istore dX8_turn_86 (by decide)) (
    gm_cn 0 (gm_m_goto _) (gm_s_fall (bpc := bpX8_turn) (b := 4) rfl 0) (
    trivial))))))))))))))))))))))))),
  gm_cn 91 (gm_m_iinc _ _) (gm_s_iinc dX8_turn_88 (by decide)) (
    gm_cn 0 (gm_m_goto _) (gm_s_goto (bpc := bpX8_turn) (b := 3) dX8_turn_91 rfl 0) (
    trivial)),
  gm_cn 95 (gm_m_iload _) (gm_s_iload_n dX8_turn_94 rfl) (
    gm_cn 98 (gm_m_ifne _) (gm_s_ifne (bpc := bpX8_turn) (b := 6) dX8_turn_95 rfl) (
    gm_cn 100 (gm_m_iload _) (gm_s_iload dX8_turn_98) (
    gm_cn 0 (gm_m_goto _) (gm_s_goto (bpc := bpX8_turn) (b := 7) dX8_turn_100 rfl 0) (
    trivial)))),
  gm_cn 105 (gm_m_iload _) (gm_s_iload dX8_turn_103) (
    gm_cn 0 (gm_m_goto _) (gm_s_fall (bpc := bpX8_turn) (b := 7) rfl 0) (
    trivial)),
  gm_cn 0 gm_m_iret (gm_s_iret dX8_turn_105 rfl 0) (
    trivial), trivial⟩
theorem dX8_alike_0 : decode cX8_alike 0 = .ok (.aload_n 0, 1) := by decide +kernel
theorem dX8_alike_1 : decode cX8_alike 1 = .ok (.iload_n 1, 1) := by decide +kernel
theorem dX8_alike_2 : decode cX8_alike 2 = .ok (.invokevirtual 89, 3) := by decide +kernel
theorem dX8_alike_5 : decode cX8_alike 5 = .ok (.astore_n 3, 1) := by decide +kernel
theorem dX8_alike_6 : decode cX8_alike 6 = .ok (.aload_n 0, 1) := by decide +kernel
theorem dX8_alike_7 : decode cX8_alike 7 = .ok (.iload_n 2, 1) := by decide +kernel
theorem dX8_alike_8 : decode cX8_alike 8 = .ok (.invokevirtual 89, 3) := by decide +kernel
theorem dX8_alike_11 : decode cX8_alike 11 = .ok (.astore 4, 2) := by decide +kernel
theorem dX8_alike_13 : decode cX8_alike 13 = .ok (.aload_n 3, 1) := by decide +kernel
theorem dX8_alike_14 : decode cX8_alike 14 = .ok (.ifnull 8, 3) := by decide +kernel
theorem dX8_alike_17 : decode cX8_alike 17 = .ok (.aload 4, 2) := by decide +kernel
theorem dX8_alike_19 : decode cX8_alike 19 = .ok (.ifnonnull 5, 3) := by decide +kernel
theorem dX8_alike_22 : decode cX8_alike 22 = .ok (.iconst (-1), 1) := by decide +kernel
theorem dX8_alike_23 : decode cX8_alike 23 = .ok (.ireturn, 1) := by decide +kernel
theorem dX8_alike_24 : decode cX8_alike 24 = .ok (.iload_n 1, 1) := by decide +kernel
theorem dX8_alike_25 : decode cX8_alike 25 = .ok (.iload_n 2, 1) := by decide +kernel
theorem dX8_alike_26 : decode cX8_alike 26 = .ok (.if_icmp .ne 6, 3) := by decide +kernel
theorem dX8_alike_29 : decode cX8_alike 29 = .ok (.bipush (-2), 2) := by decide +kernel
theorem dX8_alike_31 : decode cX8_alike 31 = .ok (.ireturn, 1) := by decide +kernel
theorem dX8_alike_32 : decode cX8_alike 32 = .ok (.aload_n 0, 1) := by decide +kernel
theorem dX8_alike_33 : decode cX8_alike 33 = .ok (.invokevirtual 93, 3) := by decide +kernel
theorem dX8_alike_36 : decode cX8_alike 36 = .ok (.astore 5, 2) := by decide +kernel
theorem dX8_alike_38 : decode cX8_alike 38 = .ok (.aload_n 0, 1) := by decide +kernel
theorem dX8_alike_39 : decode cX8_alike 39 = .ok (.getfield 27, 3) := by decide +kernel
theorem dX8_alike_42 : decode cX8_alike 42 = .ok (.aload_n 3, 1) := by decide +kernel
theorem dX8_alike_43 : decode cX8_alike 43 = .ok (.invokevirtual 174, 3) := by decide +kernel
theorem dX8_alike_46 : decode cX8_alike 46 = .ok (.aload_n 0, 1) := by decide +kernel
theorem dX8_alike_47 : decode cX8_alike 47 = .ok (.getfield 31, 3) := by decide +kernel
theorem dX8_alike_50 : decode cX8_alike 50 = .ok (.aload 4, 2) := by decide +kernel
theorem dX8_alike_52 : decode cX8_alike 52 = .ok (.invokevirtual 174, 3) := by decide +kernel
theorem dX8_alike_55 : decode cX8_alike 55 = .ok (.iconst 0, 1) := by decide +kernel
theorem dX8_alike_56 : decode cX8_alike 56 = .ok (.istore 6, 2) := by decide +kernel
theorem dX8_alike_58 : decode cX8_alike 58 = .ok (.iconst 0, 1) := by decide +kernel
theorem dX8_alike_59 : decode cX8_alike 59 = .ok (.istore 7, 2) := by decide +kernel
theorem dX8_alike_61 : decode cX8_alike 61 = .ok (.iload 7, 2) := by decide +kernel
theorem dX8_alike_63 : decode cX8_alike 63 = .ok (.bipush 28, 2) := by decide +kernel
theorem dX8_alike_65 : decode cX8_alike 65 = .ok (.if_icmp .ge 55, 3) := by decide +kernel
theorem dX8_alike_68 : decode cX8_alike 68 = .ok (.aload_n 0, 1) := by decide +kernel
theorem dX8_alike_69 : decode cX8_alike 69 = .ok (.getfield 27, 3) := by decide +kernel
theorem dX8_alike_72 : decode cX8_alike 72 = .ok (.aload 5, 2) := by decide +kernel
theorem dX8_alike_74 : decode cX8_alike 74 = .ok (.aload_n 0, 1) := by decide +kernel
theorem dX8_alike_75 : decode cX8_alike 75 = .ok (.getfield 12, 3) := by decide +kernel
theorem dX8_alike_78 : decode cX8_alike 78 = .ok (.getfield 157, 3) := by decide +kernel
theorem dX8_alike_81 : decode cX8_alike 81 = .ok (.iload 7, 2) := by decide +kernel
theorem dX8_alike_83 : decode cX8_alike 83 = .ok (.iadd, 1) := by decide +kernel
theorem dX8_alike_84 : decode cX8_alike 84 = .ok (.iconst 0, 1) := by decide +kernel
theorem dX8_alike_85 : decode cX8_alike 85 = .ok (.invokevirtual 170, 3) := by decide +kernel
theorem dX8_alike_88 : decode cX8_alike 88 = .ok (.aload_n 0, 1) := by decide +kernel
theorem dX8_alike_89 : decode cX8_alike 89 = .ok (.getfield 31, 3) := by decide +kernel
theorem dX8_alike_92 : decode cX8_alike 92 = .ok (.aload 5, 2) := by decide +kernel
theorem dX8_alike_94 : decode cX8_alike 94 = .ok (.aload_n 0, 1) := by decide +kernel
theorem dX8_alike_95 : decode cX8_alike 95 = .ok (.getfield 12, 3) := by decide +kernel
theorem dX8_alike_98 : decode cX8_alike 98 = .ok (.getfield 157, 3) := by decide +kernel
theorem dX8_alike_101 : decode cX8_alike 101 = .ok (.iload 7, 2) := by decide +kernel
theorem dX8_alike_103 : decode cX8_alike 103 = .ok (.iadd, 1) := by decide +kernel
theorem dX8_alike_104 : decode cX8_alike 104 = .ok (.iconst 0, 1) := by decide +kernel
theorem dX8_alike_105 : decode cX8_alike 105 = .ok (.invokevirtual 170, 3) := by decide +kernel
theorem dX8_alike_108 : decode cX8_alike 108 = .ok (.if_icmp .ne 6, 3) := by decide +kernel
theorem dX8_alike_111 : decode cX8_alike 111 = .ok (.iinc 6 1, 3) := by decide +kernel
theorem dX8_alike_114 : decode cX8_alike 114 = .ok (.iinc 7 1, 3) := by decide +kernel
theorem dX8_alike_117 : decode cX8_alike 117 = .ok (.goto (-56), 3) := by decide +kernel
theorem dX8_alike_120 : decode cX8_alike 120 = .ok (.iload 6, 2) := by decide +kernel
theorem dX8_alike_122 : decode cX8_alike 122 = .ok (.ireturn, 1) := by decide +kernel
def pX8_alike : List (List gm_A) := [[(gm_aload 0), (gm_iload 1), (gm_vcall 8 92 2), (gm_astore 3), (gm_aload 0), (gm_iload 2), (gm_vcall 8 92 2), (gm_astore 4), (gm_aload 3), (gm_ifnull 1), (gm_aload 4), (gm_ifnonnull 2), (gm_goto 1)],
  [(gm_push (.inl (-1))), gm_iret],
  [(gm_iload 1), (gm_iload 2), (gm_cne 3), (gm_push (.inl (-2))), gm_iret],
  [(gm_aload 0), (gm_vcall 8 94 1), (gm_astore 5), (gm_aload 0), (gm_getR 8 804), (gm_aload 3), (gm_vcall 2 13 2), (gm_aload 0), (gm_getR 8 805), (gm_aload 4), (gm_vcall 2 13 2), (gm_push (.inl 0)), (gm_istore 6), (gm_push (.inl 0)), (gm_istore 7), (gm_goto 4)],
  [(gm_iload 7), (gm_push (.inl 28)), (gm_cge 6), (gm_aload 0), (gm_getR 8 804), (gm_aload 5), (gm_aload 0), (gm_getR 8 800), (gm_getI 7 702), (gm_iload 7), (gm_op2 gm_add), (gm_push (.inl 0)), (gm_vcall 2 17 4), (gm_aload 0), (gm_getR 8 805), (gm_aload 5), (gm_aload 0), (gm_getR 8 800), (gm_getI 7 702), (gm_iload 7), (gm_op2 gm_add), (gm_push (.inl 0)), (gm_vcall 2 17 4), (gm_cne 5), (gm_iinc 6 1), (gm_goto 5)],
  [(gm_iinc 7 1), (gm_goto 4)],
  [(gm_iload 6), gm_iret]]
def bpX8_alike : Nat → Nat := fun b => ([0, 22, 24, 32, 61, 114, 120] : List Nat).getD b 0
set_option maxRecDepth 100000 in
theorem tX8_alike {D : va_G} {sz : Nat} {ad : Nat → Nat} {cA : Nat → ClassId} {xs : Int → Int} {Ln : Int} {l : Launch} : gm_SB D sz ad cA xs Ln l gm_mt cX8_alike "LongNoon" 8 false 1 bpX8_alike 0 pX8_alike :=
  ⟨gm_cn 1 (gm_m_aload _) (gm_s_aload_n dX8_alike_0 rfl) (
    gm_cn 2 (gm_m_iload _) (gm_s_iload_n dX8_alike_1 rfl) (
    gm_cn 5 (gm_m_vcall _ _ _) (gcl_X8_houseAt gw_151 dX8_alike_2) (
    gm_cn 6 (gm_m_astore _) (gm_s_astore_n dX8_alike_5 rfl (by decide)) (
    gm_cn 7 (gm_m_aload _) (gm_s_aload_n dX8_alike_6 rfl) (
    gm_cn 8 (gm_m_iload _) (gm_s_iload_n dX8_alike_7 rfl) (
    gm_cn 11 (gm_m_vcall _ _ _) (gcl_X8_houseAt gw_151 dX8_alike_8) (
    gm_cn 13 (gm_m_astore _) (gm_s_astore dX8_alike_11 (by decide)) (
    gm_cn 14 (gm_m_aload _) (gm_s_aload_n dX8_alike_13 rfl) (
    gm_cn 17 (gm_m_ifnull _) (gm_s_ifnull (bpc := bpX8_alike) (b := 1) dX8_alike_14 rfl) (
    gm_cn 19 (gm_m_aload _) (gm_s_aload dX8_alike_17) (
    gm_cn 22 (gm_m_ifnonnull _) (gm_s_ifnonnull (bpc := bpX8_alike) (b := 2) dX8_alike_19 rfl) (
    gm_cn 0 (gm_m_goto _) (gm_s_fall (bpc := bpX8_alike) (b := 1) rfl 0) (
    trivial))))))))))))),
  gm_cn 23 (gm_m_push _) (gm_s_iconst dX8_alike_22) (
    gm_cn 0 gm_m_iret (gm_s_iret dX8_alike_23 rfl 0) (
    trivial)),
  gm_cn 25 (gm_m_iload _) (gm_s_iload_n dX8_alike_24 rfl) (
    gm_cn 26 (gm_m_iload _) (gm_s_iload_n dX8_alike_25 rfl) (
    gm_cn 29 (gm_m_cne _) (gm_s_cne (bpc := bpX8_alike) (b := 3) dX8_alike_26 rfl) (
    gm_cn 31 (gm_m_push _) (gm_s_bipush dX8_alike_29 rfl) (
    gm_cn 0 gm_m_iret (gm_s_iret dX8_alike_31 rfl 0) (
    trivial))))),
  gm_cn 33 (gm_m_aload _) (gm_s_aload_n dX8_alike_32 rfl) (
    gm_cn 36 (gm_m_vcall _ _ _) (gcl_X8_groundNow gw_152 dX8_alike_33) (
    gm_cn 38 (gm_m_astore _) (gm_s_astore dX8_alike_36 (by decide)) (
    gm_cn 39 (gm_m_aload _) (gm_s_aload_n dX8_alike_38 rfl) (
    gm_cn 42 (gm_m_getR _ _) (gf_getR_8_4 gw_134 dX8_alike_39) (
    gm_cn 43 (gm_m_aload _) (gm_s_aload_n dX8_alike_42 rfl) (
    gm_cn 46 (gm_m_vcall _ _ _) (gcl_X2_become gw_176 dX8_alike_43) (
    gm_cn 47 (gm_m_aload _) (gm_s_aload_n dX8_alike_46 rfl) (
    gm_cn 50 (gm_m_getR _ _) (gf_getR_8_5 gw_135 dX8_alike_47) (
    gm_cn 52 (gm_m_aload _) (gm_s_aload dX8_alike_50) (
    gm_cn 55 (gm_m_vcall _ _ _) (gcl_X2_become gw_176 dX8_alike_52) (
    gm_cn 56 (gm_m_push _) (gm_s_iconst dX8_alike_55) (
    gm_cn 58 (gm_m_istore _) (gm_s_istore dX8_alike_56 (by decide)) (
    gm_cn 59 (gm_m_push _) (gm_s_iconst dX8_alike_58) (
    gm_cn 61 (gm_m_istore _) (gm_s_istore dX8_alike_59 (by decide)) (
    gm_cn 0 (gm_m_goto _) (gm_s_fall (bpc := bpX8_alike) (b := 4) rfl 0) (
    trivial)))))))))))))))),
  gm_cn 63 (gm_m_iload _) (gm_s_iload dX8_alike_61) (
    gm_cn 65 (gm_m_push _) (gm_s_bipush dX8_alike_63 rfl) (
    gm_cn 68 (gm_m_cge _) (gm_s_cge (bpc := bpX8_alike) (b := 6) dX8_alike_65 rfl) (
    gm_cn 69 (gm_m_aload _) (gm_s_aload_n dX8_alike_68 rfl) (
    gm_cn 72 (gm_m_getR _ _) (gf_getR_8_4 gw_134 dX8_alike_69) (
    gm_cn 74 (gm_m_aload _) (gm_s_aload dX8_alike_72) (
    gm_cn 75 (gm_m_aload _) (gm_s_aload_n dX8_alike_74 rfl) (
    gm_cn 78 (gm_m_getR _ _) (gf_getR_8_0 gw_130 dX8_alike_75) (
    gm_cn 81 (gm_m_getI _ _) (gf_getI_7_2 gw_171 dX8_alike_78) (
    gm_cn 83 (gm_m_iload _) (gm_s_iload dX8_alike_81) (
    gm_cn 84 (gm_m_op2 _) (gm_s_iadd dX8_alike_83) (
    gm_cn 85 (gm_m_push _) (gm_s_iconst dX8_alike_84) (
    gm_cn 88 (gm_m_vcall _ _ _) (gcl_X2_pass gw_175 dX8_alike_85) (
    gm_cn 89 (gm_m_aload _) (gm_s_aload_n dX8_alike_88 rfl) (
    gm_cn 92 (gm_m_getR _ _) (gf_getR_8_5 gw_135 dX8_alike_89) (
    gm_cn 94 (gm_m_aload _) (gm_s_aload dX8_alike_92) (
    gm_cn 95 (gm_m_aload _) (gm_s_aload_n dX8_alike_94 rfl) (
    gm_cn 98 (gm_m_getR _ _) (gf_getR_8_0 gw_130 dX8_alike_95) (
    gm_cn 101 (gm_m_getI _ _) (gf_getI_7_2 gw_171 dX8_alike_98) (
    gm_cn 103 (gm_m_iload _) (gm_s_iload dX8_alike_101) (
    gm_cn 104 (gm_m_op2 _) (gm_s_iadd dX8_alike_103) (
    gm_cn 105 (gm_m_push _) (gm_s_iconst dX8_alike_104) (
    gm_cn 108 (gm_m_vcall _ _ _) (gcl_X2_pass gw_175 dX8_alike_105) (
    gm_cn 111 (gm_m_cne _) (gm_s_cne (bpc := bpX8_alike) (b := 5) dX8_alike_108 rfl) (
    gm_cn 114 (gm_m_iinc _ _) (gm_s_iinc dX8_alike_111 (by decide)) (
    gm_cn 0 (gm_m_goto _) (gm_s_fall (bpc := bpX8_alike) (b := 5) rfl 0) (
    trivial)))))))))))))))))))))))))),
  gm_cn 117 (gm_m_iinc _ _) (gm_s_iinc dX8_alike_114 (by decide)) (
    gm_cn 0 (gm_m_goto _) (gm_s_goto (bpc := bpX8_alike) (b := 4) dX8_alike_117 rfl 0) (
    trivial)),
  gm_cn 122 (gm_m_iload _) (gm_s_iload dX8_alike_120) (
    gm_cn 0 gm_m_iret (gm_s_iret dX8_alike_122 rfl 0) (
    trivial)), trivial⟩
theorem dX8_see_0 : decode cX8_see 0 = .ok (.iload_n 1, 1) := by decide +kernel
theorem dX8_see_1 : decode cX8_see 1 = .ok (.iconst (-1), 1) := by decide +kernel
theorem dX8_see_2 : decode cX8_see 2 = .ok (.if_icmp .ne 13, 3) := by decide +kernel
theorem dX8_see_5 : decode cX8_see 5 = .ok (.aload_n 0, 1) := by decide +kernel
theorem dX8_see_6 : decode cX8_see 6 = .ok (.getfield 12, 3) := by decide +kernel
theorem dX8_see_9 : decode cX8_see 9 = .ok (.iconst 0, 1) := by decide +kernel
theorem dX8_see_10 : decode cX8_see 10 = .ok (.putfield 210, 3) := by decide +kernel
theorem dX8_see_13 : decode cX8_see 13 = .ok (.iconst 0, 1) := by decide +kernel
theorem dX8_see_14 : decode cX8_see 14 = .ok (.ireturn, 1) := by decide +kernel
theorem dX8_see_15 : decode cX8_see 15 = .ok (.aload_n 0, 1) := by decide +kernel
theorem dX8_see_16 : decode cX8_see 16 = .ok (.iload_n 1, 1) := by decide +kernel
theorem dX8_see_17 : decode cX8_see 17 = .ok (.invokevirtual 89, 3) := by decide +kernel
theorem dX8_see_20 : decode cX8_see 20 = .ok (.ifnonnull 5, 3) := by decide +kernel
theorem dX8_see_23 : decode cX8_see 23 = .ok (.iconst (-1), 1) := by decide +kernel
theorem dX8_see_24 : decode cX8_see 24 = .ok (.ireturn, 1) := by decide +kernel
theorem dX8_see_25 : decode cX8_see 25 = .ok (.iload_n 2, 1) := by decide +kernel
theorem dX8_see_26 : decode cX8_see 26 = .ok (.bipush 30, 2) := by decide +kernel
theorem dX8_see_28 : decode cX8_see 28 = .ok (.invokestatic 73, 3) := by decide +kernel
theorem dX8_see_31 : decode cX8_see 31 = .ok (.ifCond .eq 13, 3) := by decide +kernel
theorem dX8_see_34 : decode cX8_see 34 = .ok (.iload_n 3, 1) := by decide +kernel
theorem dX8_see_35 : decode cX8_see 35 = .ok (.sipush 199, 3) := by decide +kernel
theorem dX8_see_38 : decode cX8_see 38 = .ok (.invokestatic 73, 3) := by decide +kernel
theorem dX8_see_41 : decode cX8_see 41 = .ok (.ifCond .ne 6, 3) := by decide +kernel
theorem dX8_see_44 : decode cX8_see 44 = .ok (.bipush (-2), 2) := by decide +kernel
theorem dX8_see_46 : decode cX8_see 46 = .ok (.ireturn, 1) := by decide +kernel
theorem dX8_see_47 : decode cX8_see 47 = .ok (.aload_n 0, 1) := by decide +kernel
theorem dX8_see_48 : decode cX8_see 48 = .ok (.getfield 12, 3) := by decide +kernel
theorem dX8_see_51 : decode cX8_see 51 = .ok (.getfield 210, 3) := by decide +kernel
theorem dX8_see_54 : decode cX8_see 54 = .ok (.bipush 8, 2) := by decide +kernel
theorem dX8_see_56 : decode cX8_see 56 = .ok (.if_icmp .lt 6, 3) := by decide +kernel
theorem dX8_see_59 : decode cX8_see 59 = .ok (.bipush (-4), 2) := by decide +kernel
theorem dX8_see_61 : decode cX8_see 61 = .ok (.ireturn, 1) := by decide +kernel
theorem dX8_see_62 : decode cX8_see 62 = .ok (.aload_n 0, 1) := by decide +kernel
theorem dX8_see_63 : decode cX8_see 63 = .ok (.getfield 12, 3) := by decide +kernel
theorem dX8_see_66 : decode cX8_see 66 = .ok (.getfield 213, 3) := by decide +kernel
theorem dX8_see_69 : decode cX8_see 69 = .ok (.aload_n 0, 1) := by decide +kernel
theorem dX8_see_70 : decode cX8_see 70 = .ok (.getfield 12, 3) := by decide +kernel
theorem dX8_see_73 : decode cX8_see 73 = .ok (.getfield 210, 3) := by decide +kernel
theorem dX8_see_76 : decode cX8_see 76 = .ok (.iload_n 1, 1) := by decide +kernel
theorem dX8_see_77 : decode cX8_see 77 = .ok (.iastore, 1) := by decide +kernel
theorem dX8_see_78 : decode cX8_see 78 = .ok (.aload_n 0, 1) := by decide +kernel
theorem dX8_see_79 : decode cX8_see 79 = .ok (.getfield 12, 3) := by decide +kernel
theorem dX8_see_82 : decode cX8_see 82 = .ok (.getfield 216, 3) := by decide +kernel
theorem dX8_see_85 : decode cX8_see 85 = .ok (.aload_n 0, 1) := by decide +kernel
theorem dX8_see_86 : decode cX8_see 86 = .ok (.getfield 12, 3) := by decide +kernel
theorem dX8_see_89 : decode cX8_see 89 = .ok (.getfield 210, 3) := by decide +kernel
theorem dX8_see_92 : decode cX8_see 92 = .ok (.iload_n 2, 1) := by decide +kernel
theorem dX8_see_93 : decode cX8_see 93 = .ok (.iastore, 1) := by decide +kernel
theorem dX8_see_94 : decode cX8_see 94 = .ok (.aload_n 0, 1) := by decide +kernel
theorem dX8_see_95 : decode cX8_see 95 = .ok (.getfield 12, 3) := by decide +kernel
theorem dX8_see_98 : decode cX8_see 98 = .ok (.getfield 219, 3) := by decide +kernel
theorem dX8_see_101 : decode cX8_see 101 = .ok (.aload_n 0, 1) := by decide +kernel
theorem dX8_see_102 : decode cX8_see 102 = .ok (.getfield 12, 3) := by decide +kernel
theorem dX8_see_105 : decode cX8_see 105 = .ok (.getfield 210, 3) := by decide +kernel
theorem dX8_see_108 : decode cX8_see 108 = .ok (.iload_n 3, 1) := by decide +kernel
theorem dX8_see_109 : decode cX8_see 109 = .ok (.iastore, 1) := by decide +kernel
theorem dX8_see_110 : decode cX8_see 110 = .ok (.aload_n 0, 1) := by decide +kernel
theorem dX8_see_111 : decode cX8_see 111 = .ok (.getfield 12, 3) := by decide +kernel
theorem dX8_see_114 : decode cX8_see 114 = .ok (.dup, 1) := by decide +kernel
theorem dX8_see_115 : decode cX8_see 115 = .ok (.getfield 210, 3) := by decide +kernel
theorem dX8_see_118 : decode cX8_see 118 = .ok (.iconst 1, 1) := by decide +kernel
theorem dX8_see_119 : decode cX8_see 119 = .ok (.iadd, 1) := by decide +kernel
theorem dX8_see_120 : decode cX8_see 120 = .ok (.putfield 210, 3) := by decide +kernel
theorem dX8_see_123 : decode cX8_see 123 = .ok (.aload_n 0, 1) := by decide +kernel
theorem dX8_see_124 : decode cX8_see 124 = .ok (.getfield 12, 3) := by decide +kernel
theorem dX8_see_127 : decode cX8_see 127 = .ok (.getfield 210, 3) := by decide +kernel
theorem dX8_see_130 : decode cX8_see 130 = .ok (.ireturn, 1) := by decide +kernel
def pX8_see : List (List gm_A) := [[(gm_iload 1), (gm_push (.inl (-1))), (gm_cne 1), (gm_aload 0), (gm_getR 8 800), (gm_push (.inl 0)), (gm_putI 7 707), (gm_push (.inl 0)), gm_iret],
  [(gm_aload 0), (gm_iload 1), (gm_vcall 8 92 2), (gm_ifnonnull 2), (gm_push (.inl (-1))), gm_iret],
  [(gm_iload 2), (gm_push (.inl 30)), (gm_scall 90 2), (gm_ifeq 3), (gm_iload 3), (gm_push (.inl 199)), (gm_scall 90 2), (gm_ifne 4), (gm_goto 3)],
  [(gm_push (.inl (-2))), gm_iret],
  [(gm_aload 0), (gm_getR 8 800), (gm_getI 7 707), (gm_push (.inl 8)), (gm_clt 5), (gm_push (.inl (-4))), gm_iret],
  [(gm_aload 0), (gm_getR 8 800), (gm_getR 7 704), (gm_aload 0), (gm_getR 8 800), (gm_getI 7 707), (gm_iload 1), gm_iast, (gm_aload 0), (gm_getR 8 800), (gm_getR 7 705), (gm_aload 0), (gm_getR 8 800), (gm_getI 7 707), (gm_iload 2), gm_iast, (gm_aload 0), (gm_getR 8 800), (gm_getR 7 706), (gm_aload 0), (gm_getR 8 800), (gm_getI 7 707), (gm_iload 3), gm_iast, (gm_aload 0), (gm_getR 8 800), gm_dup, (gm_getI 7 707), (gm_push (.inl 1)), (gm_op2 gm_add), (gm_putI 7 707), (gm_aload 0), (gm_getR 8 800), (gm_getI 7 707), gm_iret]]
def bpX8_see : Nat → Nat := fun b => ([0, 15, 25, 44, 47, 62] : List Nat).getD b 0
set_option maxRecDepth 100000 in
theorem tX8_see {D : va_G} {sz : Nat} {ad : Nat → Nat} {cA : Nat → ClassId} {xs : Int → Int} {Ln : Int} {l : Launch} : gm_SB D sz ad cA xs Ln l gm_mt cX8_see "LongNoon" 4 false 1 bpX8_see 0 pX8_see :=
  ⟨gm_cn 1 (gm_m_iload _) (gm_s_iload_n dX8_see_0 rfl) (
    gm_cn 2 (gm_m_push _) (gm_s_iconst dX8_see_1) (
    gm_cn 5 (gm_m_cne _) (gm_s_cne (bpc := bpX8_see) (b := 1) dX8_see_2 rfl) (
    gm_cn 6 (gm_m_aload _) (gm_s_aload_n dX8_see_5 rfl) (
    gm_cn 9 (gm_m_getR _ _) (gf_getR_8_0 gw_130 dX8_see_6) (
    gm_cn 10 (gm_m_push _) (gm_s_iconst dX8_see_9) (
    gm_cn 13 (gm_m_putI _ _) (gf_putI_7_7 gw_185 dX8_see_10) (
    gm_cn 14 (gm_m_push _) (gm_s_iconst dX8_see_13) (
    gm_cn 0 gm_m_iret (gm_s_iret dX8_see_14 rfl 0) (
    trivial))))))))),
  gm_cn 16 (gm_m_aload _) (gm_s_aload_n dX8_see_15 rfl) (
    gm_cn 17 (gm_m_iload _) (gm_s_iload_n dX8_see_16 rfl) (
    gm_cn 20 (gm_m_vcall _ _ _) (gcl_X8_houseAt gw_151 dX8_see_17) (
    gm_cn 23 (gm_m_ifnonnull _) (gm_s_ifnonnull (bpc := bpX8_see) (b := 2) dX8_see_20 rfl) (
    gm_cn 24 (gm_m_push _) (gm_s_iconst dX8_see_23) (
    gm_cn 0 gm_m_iret (gm_s_iret dX8_see_24 rfl 0) (
    trivial)))))),
  gm_cn 26 (gm_m_iload _) (gm_s_iload_n dX8_see_25 rfl) (
    gm_cn 28 (gm_m_push _) (gm_s_bipush dX8_see_26 rfl) (
    gm_cn 31 (gm_m_scall _ _) (gcl_X8_within gw_147 dX8_see_28) (
    gm_cn 34 (gm_m_ifeq _) (gm_s_ifeq (bpc := bpX8_see) (b := 3) dX8_see_31 rfl) (
    gm_cn 35 (gm_m_iload _) (gm_s_iload_n dX8_see_34 rfl) (
    gm_cn 38 (gm_m_push _) (gm_s_sipush dX8_see_35 rfl) (
    gm_cn 41 (gm_m_scall _ _) (gcl_X8_within gw_147 dX8_see_38) (
    gm_cn 44 (gm_m_ifne _) (gm_s_ifne (bpc := bpX8_see) (b := 4) dX8_see_41 rfl) (
    gm_cn 0 (gm_m_goto _) (gm_s_fall (bpc := bpX8_see) (b := 3) rfl 0) (
    trivial))))))))),
  gm_cn 46 (gm_m_push _) (gm_s_bipush dX8_see_44 rfl) (
    gm_cn 0 gm_m_iret (gm_s_iret dX8_see_46 rfl 0) (
    trivial)),
  gm_cn 48 (gm_m_aload _) (gm_s_aload_n dX8_see_47 rfl) (
    gm_cn 51 (gm_m_getR _ _) (gf_getR_8_0 gw_130 dX8_see_48) (
    gm_cn 54 (gm_m_getI _ _) (gf_getI_7_7 gw_185 dX8_see_51) (
    gm_cn 56 (gm_m_push _) (gm_s_bipush dX8_see_54 rfl) (
    gm_cn 59 (gm_m_clt _) (gm_s_clt (bpc := bpX8_see) (b := 5) dX8_see_56 rfl) (
    gm_cn 61 (gm_m_push _) (gm_s_bipush dX8_see_59 rfl) (
    gm_cn 0 gm_m_iret (gm_s_iret dX8_see_61 rfl 0) (
    trivial))))))),
  gm_cn 63 (gm_m_aload _) (gm_s_aload_n dX8_see_62 rfl) (
    gm_cn 66 (gm_m_getR _ _) (gf_getR_8_0 gw_130 dX8_see_63) (
    gm_cn 69 (gm_m_getR _ _) (gf_getR_7_4 gw_186 dX8_see_66) (
    gm_cn 70 (gm_m_aload _) (gm_s_aload_n dX8_see_69 rfl) (
    gm_cn 73 (gm_m_getR _ _) (gf_getR_8_0 gw_130 dX8_see_70) (
    gm_cn 76 (gm_m_getI _ _) (gf_getI_7_7 gw_185 dX8_see_73) (
    gm_cn 77 (gm_m_iload _) (gm_s_iload_n dX8_see_76 rfl) (
    gm_cn 78 gm_m_iast (gm_s_iast dX8_see_77) (
    gm_cn 79 (gm_m_aload _) (gm_s_aload_n dX8_see_78 rfl) (
    gm_cn 82 (gm_m_getR _ _) (gf_getR_8_0 gw_130 dX8_see_79) (
    gm_cn 85 (gm_m_getR _ _) (gf_getR_7_5 gw_187 dX8_see_82) (
    gm_cn 86 (gm_m_aload _) (gm_s_aload_n dX8_see_85 rfl) (
    gm_cn 89 (gm_m_getR _ _) (gf_getR_8_0 gw_130 dX8_see_86) (
    gm_cn 92 (gm_m_getI _ _) (gf_getI_7_7 gw_185 dX8_see_89) (
    gm_cn 93 (gm_m_iload _) (gm_s_iload_n dX8_see_92 rfl) (
    gm_cn 94 gm_m_iast (gm_s_iast dX8_see_93) (
    gm_cn 95 (gm_m_aload _) (gm_s_aload_n dX8_see_94 rfl) (
    gm_cn 98 (gm_m_getR _ _) (gf_getR_8_0 gw_130 dX8_see_95) (
    gm_cn 101 (gm_m_getR _ _) (gf_getR_7_6 gw_188 dX8_see_98) (
    gm_cn 102 (gm_m_aload _) (gm_s_aload_n dX8_see_101 rfl) (
    gm_cn 105 (gm_m_getR _ _) (gf_getR_8_0 gw_130 dX8_see_102) (
    gm_cn 108 (gm_m_getI _ _) (gf_getI_7_7 gw_185 dX8_see_105) (
    gm_cn 109 (gm_m_iload _) (gm_s_iload_n dX8_see_108 rfl) (
    gm_cn 110 gm_m_iast (gm_s_iast dX8_see_109) (
    gm_cn 111 (gm_m_aload _) (gm_s_aload_n dX8_see_110 rfl) (
    gm_cn 114 (gm_m_getR _ _) (gf_getR_8_0 gw_130 dX8_see_111) (
    gm_cn 115 gm_m_dup (gm_s_dup dX8_see_114) (
    gm_cn 118 (gm_m_getI _ _) (gf_getI_7_7 gw_185 dX8_see_115) (
    gm_cn 119 (gm_m_push _) (gm_s_iconst dX8_see_118) (
    gm_cn 120 (gm_m_op2 _) (gm_s_iadd dX8_see_119) (
    gm_cn 123 (gm_m_putI _ _) (gf_putI_7_7 gw_185 dX8_see_120) (
    gm_cn 124 (gm_m_aload _) (gm_s_aload_n dX8_see_123 rfl) (
    gm_cn 127 (gm_m_getR _ _) (gf_getR_8_0 gw_130 dX8_see_124) (
    gm_cn 130 (gm_m_getI _ _) (gf_getI_7_7 gw_185 dX8_see_127) (
    gm_cn 0 gm_m_iret (gm_s_iret dX8_see_130 rfl 0) (
    trivial))))))))))))))))))))))))))))))))))), trivial⟩
