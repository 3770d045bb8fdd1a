/-! THE JDK'S MEMBERS over the texts -/
theorem gj_iS : Cond.initialized "java/lang/String" ∈ gm_ok := gm_okI 78 (by decide +kernel) rfl
theorem gj_iL : Cond.initialized "java/lang/StringLatin1" ∈ gm_ok := gm_okI 79 (by decide +kernel) rfl
theorem gj_iP : Cond.initialized "jdk/internal/util/Preconditions" ∈ gm_ok := gm_okI 80 (by decide +kernel) rfl
theorem gj_iM : Cond.initialized "java/lang/Math" ∈ gm_ok := gm_okI 77 (by decide +kernel) rfl
theorem gj_fC : Cond.fieldLink "java/lang/String" 38 "java/lang/String" "COMPACT_STRINGS" "Z" ∈ gm_ok := gm_okI 471 (by decide +kernel) rfl
theorem gj_fV : Cond.fieldLink "java/lang/String" 9 "java/lang/String" "value" "[B" ∈ gm_ok := gm_okI 1406 (by decide +kernel) rfl
theorem gj_fK : Cond.fieldLink "java/lang/String" 15 "java/lang/String" "coder" "B" ∈ gm_ok := gm_okI 1407 (by decide +kernel) rfl
theorem gj_fB : Cond.fieldLink "java/lang/String" 1053 "jdk/internal/util/Preconditions" "SIOOBE_FORMATTER" "Ljava/util/function/BiFunction;" ∈ gm_ok := gm_okI 487 (by decide +kernel) rfl
theorem gj_c_coder : Cond.code yJ0_coder_7d493 cJ0_coder_7d493 1 (some .byte) ∈ gm_ok := gm_okI 470 (by decide +kernel) rfl
theorem gj_c_lat : Cond.code yJ0_isLatin1_aae02 cJ0_isLatin1_aae02 1 (some .boolean) ∈ gm_ok := gm_okI 480 (by decide +kernel) rfl
theorem gj_c_len : Cond.code yJ0_length_8abf5 cJ0_length_8abf5 1 (some .int) ∈ gm_ok := gm_okI 466 (by decide +kernel) rfl
theorem gj_c_pci : Cond.code yJ3_checkIndex_8e157 cJ3_checkIndex_8e157 3 (some .int) ∈ gm_ok := gm_okI 491 (by decide +kernel) rfl
theorem gj_c_sci : Cond.code yJ0_checkIndex_df160 cJ0_checkIndex_df160 2 none ∈ gm_ok := gm_okI 486 (by decide +kernel) rfl
theorem gj_c_lch : Cond.code yJ1_charAt_3b067 cJ1_charAt_3b067 2 (some .char) ∈ gm_ok := gm_okI 483 (by decide +kernel) rfl
theorem gj_c_sch : Cond.code yJ0_charAt_5068e cJ0_charAt_5068e 2 (some .char) ∈ gm_ok := gm_okI 476 (by decide +kernel) rfl
theorem gj_c_enc : Cond.code yJ1_canEncode_9a6ad cJ1_canEncode_9a6ad 1 (some .boolean) ∈ gm_ok := gm_okI 547 (by decide +kernel) rfl
theorem gj_c_ioc : Cond.code yJ1_indexOfChar_4cfef cJ1_indexOfChar_4cfef 6 (some .int) ∈ gm_ok := gm_okI 552 (by decide +kernel) rfl
theorem gj_c_lio : Cond.code yJ1_indexOf_4cfef cJ1_indexOf_4cfef 4 (some .int) ∈ gm_ok := gm_okI 544 (by decide +kernel) rfl
theorem gj_c_io2 : Cond.code yJ0_indexOf_7cf53 cJ0_indexOf_7cf53 3 (some .int) ∈ gm_ok := gm_okI 540 (by decide +kernel) rfl
theorem gj_c_io1 : Cond.code yJ0_indexOf_0f7a4 cJ0_indexOf_0f7a4 2 (some .int) ∈ gm_ok := gm_okI 536 (by decide +kernel) rfl
theorem gj_m_coder : Cond.methodLink "java/lang/String" 335 yJ0_coder_7d493 ∈ gm_ok := gm_okI 467 (by decide +kernel) rfl
theorem gj_m_lat : Cond.methodLink "java/lang/String" 492 yJ0_isLatin1_aae02 ∈ gm_ok := gm_okI 477 (by decide +kernel) rfl
theorem gj_m_len : Cond.methodLink "java/lang/String" 505 yJ0_length_8abf5 ∈ gm_ok := gm_okI 541 (by decide +kernel) rfl
theorem gj_m_pci : Cond.methodLink "java/lang/String" 1059 yJ3_checkIndex_8e157 ∈ gm_ok := gm_okI 489 (by decide +kernel) rfl
theorem gj_m_sci : Cond.methodLink "java/lang/StringLatin1" 9 yJ0_checkIndex_df160 ∈ gm_ok := gm_okI 484 (by decide +kernel) rfl
theorem gj_m_lch : Cond.methodLink "java/lang/String" 495 yJ1_charAt_3b067 ∈ gm_ok := gm_okI 481 (by decide +kernel) rfl
theorem gj_m_enc : Cond.methodLink "java/lang/StringLatin1" 88 yJ1_canEncode_9a6ad ∈ gm_ok := gm_okI 545 (by decide +kernel) rfl
theorem gj_m_ioc : Cond.methodLink "java/lang/StringLatin1" 95 yJ1_indexOfChar_4cfef ∈ gm_ok := gm_okI 550 (by decide +kernel) rfl
theorem gj_m_lio : Cond.methodLink "java/lang/String" 637 yJ1_indexOf_4cfef ∈ gm_ok := gm_okI 542 (by decide +kernel) rfl
theorem gj_m_io2 : Cond.methodLink "java/lang/String" 633 yJ0_indexOf_7cf53 ∈ gm_ok := gm_okI 537 (by decide +kernel) rfl
theorem gj_m_max : Cond.methodLink "java/lang/StringLatin1" 92 Lib.Math.max.name ∈ gm_ok := gm_okI 548 (by decide +kernel) rfl
theorem gj_m_min : Cond.methodLink "java/lang/StringLatin1" 38 Lib.Math.min.name ∈ gm_ok := gm_okI 549 (by decide +kernel) rfl
theorem gj_s_max : Cond.static Lib.Math.max.name ∈ gm_ok := gm_okI 412 (by decide +kernel) rfl
theorem gj_s_min : Cond.static Lib.Math.min.name ∈ gm_ok := gm_okI 370 (by decide +kernel) rfl
theorem gj_d_max : Cond.code Lib.Math.max.name Lib.Math.max.code 2 (some .int) ∈ gm_ok := gm_okI 413 (by decide +kernel) rfl
theorem gj_d_min : Cond.code Lib.Math.min.name Lib.Math.min.code 2 (some .int) ∈ gm_ok := gm_okI 371 (by decide +kernel) rfl
theorem gj_n_coder : Cond.instanceMethod yJ0_coder_7d493 ∈ gm_ok := gm_okI 468 (by decide +kernel) rfl
theorem gj_v_coder : Cond.selects "java/lang/String" yJ0_coder_7d493 yJ0_coder_7d493 ∈ gm_ok := gm_okI 469 (by decide +kernel) rfl
theorem gj_n_lat : Cond.instanceMethod yJ0_isLatin1_aae02 ∈ gm_ok := gm_okI 478 (by decide +kernel) rfl
theorem gj_v_lat : Cond.selects "java/lang/String" yJ0_isLatin1_aae02 yJ0_isLatin1_aae02 ∈ gm_ok := gm_okI 479 (by decide +kernel) rfl
theorem gj_n_len : Cond.instanceMethod yJ0_length_8abf5 ∈ gm_ok := gm_okI 464 (by decide +kernel) rfl
theorem gj_v_len : Cond.selects "java/lang/String" yJ0_length_8abf5 yJ0_length_8abf5 ∈ gm_ok := gm_okI 465 (by decide +kernel) rfl
theorem gj_n_sch : Cond.instanceMethod yJ0_charAt_5068e ∈ gm_ok := gm_okI 474 (by decide +kernel) rfl
theorem gj_v_sch : Cond.selects "java/lang/String" yJ0_charAt_5068e yJ0_charAt_5068e ∈ gm_ok := gm_okI 475 (by decide +kernel) rfl
theorem gj_n_io2 : Cond.instanceMethod yJ0_indexOf_7cf53 ∈ gm_ok := gm_okI 538 (by decide +kernel) rfl
theorem gj_v_io2 : Cond.selects "java/lang/String" yJ0_indexOf_7cf53 yJ0_indexOf_7cf53 ∈ gm_ok := gm_okI 539 (by decide +kernel) rfl
theorem gj_n_io1 : Cond.instanceMethod yJ0_indexOf_0f7a4 ∈ gm_ok := gm_okI 534 (by decide +kernel) rfl
theorem gj_v_io1 : Cond.selects "java/lang/String" yJ0_indexOf_0f7a4 yJ0_indexOf_0f7a4 ∈ gm_ok := gm_okI 535 (by decide +kernel) rfl
theorem gj_t_pci : Cond.static yJ3_checkIndex_8e157 ∈ gm_ok := gm_okI 490 (by decide +kernel) rfl
theorem gj_t_sci : Cond.static yJ0_checkIndex_df160 ∈ gm_ok := gm_okI 485 (by decide +kernel) rfl
theorem gj_t_lch : Cond.static yJ1_charAt_3b067 ∈ gm_ok := gm_okI 482 (by decide +kernel) rfl
theorem gj_t_enc : Cond.static yJ1_canEncode_9a6ad ∈ gm_ok := gm_okI 546 (by decide +kernel) rfl
theorem gj_t_ioc : Cond.static yJ1_indexOfChar_4cfef ∈ gm_ok := gm_okI 551 (by decide +kernel) rfl
theorem gj_t_lio : Cond.static yJ1_indexOf_4cfef ∈ gm_ok := gm_okI 543 (by decide +kernel) rfl
theorem gj_coder_0 : decode cJ0_coder_7d493 0 = .ok (.getstatic 38, 3) := by decide +kernel
theorem gj_coder_3 : decode cJ0_coder_7d493 3 = .ok (.ifCond .eq 10, 3) := by decide +kernel
theorem gj_coder_6 : decode cJ0_coder_7d493 6 = .ok (.aload_n 0, 1) := by decide +kernel
theorem gj_coder_7 : decode cJ0_coder_7d493 7 = .ok (.getfield 15, 3) := by decide +kernel
theorem gj_coder_10 : decode cJ0_coder_7d493 10 = .ok (.goto 4, 3) := by decide +kernel
theorem gj_coder_14 : decode cJ0_coder_7d493 14 = .ok (.ireturn, 1) := by decide +kernel
theorem gj_lat_0 : decode cJ0_isLatin1_aae02 0 = .ok (.getstatic 38, 3) := by decide +kernel
theorem gj_lat_3 : decode cJ0_isLatin1_aae02 3 = .ok (.ifCond .eq 14, 3) := by decide +kernel
theorem gj_lat_6 : decode cJ0_isLatin1_aae02 6 = .ok (.aload_n 0, 1) := by decide +kernel
theorem gj_lat_7 : decode cJ0_isLatin1_aae02 7 = .ok (.getfield 15, 3) := by decide +kernel
theorem gj_lat_10 : decode cJ0_isLatin1_aae02 10 = .ok (.ifCond .ne 7, 3) := by decide +kernel
theorem gj_lat_13 : decode cJ0_isLatin1_aae02 13 = .ok (.iconst 1, 1) := by decide +kernel
theorem gj_lat_14 : decode cJ0_isLatin1_aae02 14 = .ok (.goto 4, 3) := by decide +kernel
theorem gj_lat_18 : decode cJ0_isLatin1_aae02 18 = .ok (.ireturn, 1) := by decide +kernel
theorem gj_len_0 : decode cJ0_length_8abf5 0 = .ok (.aload_n 0, 1) := by decide +kernel
theorem gj_len_1 : decode cJ0_length_8abf5 1 = .ok (.getfield 9, 3) := by decide +kernel
theorem gj_len_4 : decode cJ0_length_8abf5 4 = .ok (.arraylength, 1) := by decide +kernel
theorem gj_len_5 : decode cJ0_length_8abf5 5 = .ok (.aload_n 0, 1) := by decide +kernel
theorem gj_len_6 : decode cJ0_length_8abf5 6 = .ok (.invokevirtual 335, 3) := by decide +kernel
theorem gj_len_9 : decode cJ0_length_8abf5 9 = .ok (.ishr, 1) := by decide +kernel
theorem gj_len_10 : decode cJ0_length_8abf5 10 = .ok (.ireturn, 1) := by decide +kernel
theorem gj_pci_0 : decode cJ3_checkIndex_8e157 0 = .ok (.iload_n 0, 1) := by decide +kernel
theorem gj_pci_1 : decode cJ3_checkIndex_8e157 1 = .ok (.ifCond .lt 8, 3) := by decide +kernel
theorem gj_pci_4 : decode cJ3_checkIndex_8e157 4 = .ok (.iload_n 0, 1) := by decide +kernel
theorem gj_pci_5 : decode cJ3_checkIndex_8e157 5 = .ok (.iload_n 1, 1) := by decide +kernel
theorem gj_pci_6 : decode cJ3_checkIndex_8e157 6 = .ok (.if_icmp .lt 10, 3) := by decide +kernel
theorem gj_pci_16 : decode cJ3_checkIndex_8e157 16 = .ok (.iload_n 0, 1) := by decide +kernel
theorem gj_pci_17 : decode cJ3_checkIndex_8e157 17 = .ok (.ireturn, 1) := by decide +kernel
theorem gj_sci_0 : decode cJ0_checkIndex_df160 0 = .ok (.iload_n 0, 1) := by decide +kernel
theorem gj_sci_1 : decode cJ0_checkIndex_df160 1 = .ok (.iload_n 1, 1) := by decide +kernel
theorem gj_sci_2 : decode cJ0_checkIndex_df160 2 = .ok (.getstatic 1053, 3) := by decide +kernel
theorem gj_sci_5 : decode cJ0_checkIndex_df160 5 = .ok (.invokestatic 1059, 3) := by decide +kernel
theorem gj_sci_8 : decode cJ0_checkIndex_df160 8 = .ok (.pop, 1) := by decide +kernel
theorem gj_sci_9 : decode cJ0_checkIndex_df160 9 = .ok (.return_, 1) := by decide +kernel
theorem gj_lch_0 : decode cJ1_charAt_3b067 0 = .ok (.iload_n 1, 1) := by decide +kernel
theorem gj_lch_1 : decode cJ1_charAt_3b067 1 = .ok (.aload_n 0, 1) := by decide +kernel
theorem gj_lch_2 : decode cJ1_charAt_3b067 2 = .ok (.arraylength, 1) := by decide +kernel
theorem gj_lch_3 : decode cJ1_charAt_3b067 3 = .ok (.invokestatic 9, 3) := by decide +kernel
theorem gj_lch_6 : decode cJ1_charAt_3b067 6 = .ok (.aload_n 0, 1) := by decide +kernel
theorem gj_lch_7 : decode cJ1_charAt_3b067 7 = .ok (.iload_n 1, 1) := by decide +kernel
theorem gj_lch_8 : decode cJ1_charAt_3b067 8 = .ok (.baload, 1) := by decide +kernel
theorem gj_lch_9 : decode cJ1_charAt_3b067 9 = .ok (.sipush 255, 3) := by decide +kernel
theorem gj_lch_12 : decode cJ1_charAt_3b067 12 = .ok (.iand, 1) := by decide +kernel
theorem gj_lch_13 : decode cJ1_charAt_3b067 13 = .ok (.i2c, 1) := by decide +kernel
theorem gj_lch_14 : decode cJ1_charAt_3b067 14 = .ok (.ireturn, 1) := by decide +kernel
theorem gj_sch_0 : decode cJ0_charAt_5068e 0 = .ok (.aload_n 0, 1) := by decide +kernel
theorem gj_sch_1 : decode cJ0_charAt_5068e 1 = .ok (.invokevirtual 492, 3) := by decide +kernel
theorem gj_sch_4 : decode cJ0_charAt_5068e 4 = .ok (.ifCond .eq 12, 3) := by decide +kernel
theorem gj_sch_7 : decode cJ0_charAt_5068e 7 = .ok (.aload_n 0, 1) := by decide +kernel
theorem gj_sch_8 : decode cJ0_charAt_5068e 8 = .ok (.getfield 9, 3) := by decide +kernel
theorem gj_sch_11 : decode cJ0_charAt_5068e 11 = .ok (.iload_n 1, 1) := by decide +kernel
theorem gj_sch_12 : decode cJ0_charAt_5068e 12 = .ok (.invokestatic 495, 3) := by decide +kernel
theorem gj_sch_15 : decode cJ0_charAt_5068e 15 = .ok (.ireturn, 1) := by decide +kernel
theorem gj_enc_0 : decode cJ1_canEncode_9a6ad 0 = .ok (.iload_n 0, 1) := by decide +kernel
theorem gj_enc_1 : decode cJ1_canEncode_9a6ad 1 = .ok (.ifCond .lt 14, 3) := by decide +kernel
theorem gj_enc_4 : decode cJ1_canEncode_9a6ad 4 = .ok (.iload_n 0, 1) := by decide +kernel
theorem gj_enc_5 : decode cJ1_canEncode_9a6ad 5 = .ok (.sipush 255, 3) := by decide +kernel
theorem gj_enc_8 : decode cJ1_canEncode_9a6ad 8 = .ok (.if_icmp .gt 7, 3) := by decide +kernel
theorem gj_enc_11 : decode cJ1_canEncode_9a6ad 11 = .ok (.iconst 1, 1) := by decide +kernel
theorem gj_enc_12 : decode cJ1_canEncode_9a6ad 12 = .ok (.goto 4, 3) := by decide +kernel
theorem gj_enc_15 : decode cJ1_canEncode_9a6ad 15 = .ok (.iconst 0, 1) := by decide +kernel
theorem gj_enc_16 : decode cJ1_canEncode_9a6ad 16 = .ok (.ireturn, 1) := by decide +kernel
theorem gj_ioc_0 : decode cJ1_indexOfChar_4cfef 0 = .ok (.iload_n 1, 1) := by decide +kernel
theorem gj_ioc_1 : decode cJ1_indexOfChar_4cfef 1 = .ok (.i2b, 1) := by decide +kernel
theorem gj_ioc_2 : decode cJ1_indexOfChar_4cfef 2 = .ok (.istore 4, 2) := by decide +kernel
theorem gj_ioc_4 : decode cJ1_indexOfChar_4cfef 4 = .ok (.iload_n 2, 1) := by decide +kernel
theorem gj_ioc_5 : decode cJ1_indexOfChar_4cfef 5 = .ok (.istore 5, 2) := by decide +kernel
theorem gj_ioc_7 : decode cJ1_indexOfChar_4cfef 7 = .ok (.iload 5, 2) := by decide +kernel
theorem gj_ioc_9 : decode cJ1_indexOfChar_4cfef 9 = .ok (.iload_n 3, 1) := by decide +kernel
theorem gj_ioc_10 : decode cJ1_indexOfChar_4cfef 10 = .ok (.if_icmp .ge 21, 3) := by decide +kernel
theorem gj_ioc_13 : decode cJ1_indexOfChar_4cfef 13 = .ok (.aload_n 0, 1) := by decide +kernel
theorem gj_ioc_14 : decode cJ1_indexOfChar_4cfef 14 = .ok (.iload 5, 2) := by decide +kernel
theorem gj_ioc_16 : decode cJ1_indexOfChar_4cfef 16 = .ok (.baload, 1) := by decide +kernel
theorem gj_ioc_17 : decode cJ1_indexOfChar_4cfef 17 = .ok (.iload 4, 2) := by decide +kernel
theorem gj_ioc_19 : decode cJ1_indexOfChar_4cfef 19 = .ok (.if_icmp .ne 6, 3) := by decide +kernel
theorem gj_ioc_22 : decode cJ1_indexOfChar_4cfef 22 = .ok (.iload 5, 2) := by decide +kernel
theorem gj_ioc_24 : decode cJ1_indexOfChar_4cfef 24 = .ok (.ireturn, 1) := by decide +kernel
theorem gj_ioc_25 : decode cJ1_indexOfChar_4cfef 25 = .ok (.iinc 5 1, 3) := by decide +kernel
theorem gj_ioc_28 : decode cJ1_indexOfChar_4cfef 28 = .ok (.goto (-21), 3) := by decide +kernel
theorem gj_ioc_31 : decode cJ1_indexOfChar_4cfef 31 = .ok (.iconst (-1), 1) := by decide +kernel
theorem gj_ioc_32 : decode cJ1_indexOfChar_4cfef 32 = .ok (.ireturn, 1) := by decide +kernel
theorem gj_lio_0 : decode cJ1_indexOf_4cfef 0 = .ok (.iload_n 1, 1) := by decide +kernel
theorem gj_lio_1 : decode cJ1_indexOf_4cfef 1 = .ok (.invokestatic 88, 3) := by decide +kernel
theorem gj_lio_4 : decode cJ1_indexOf_4cfef 4 = .ok (.ifCond .ne 5, 3) := by decide +kernel
theorem gj_lio_7 : decode cJ1_indexOf_4cfef 7 = .ok (.iconst (-1), 1) := by decide +kernel
theorem gj_lio_8 : decode cJ1_indexOf_4cfef 8 = .ok (.ireturn, 1) := by decide +kernel
theorem gj_lio_9 : decode cJ1_indexOf_4cfef 9 = .ok (.iload_n 2, 1) := by decide +kernel
theorem gj_lio_10 : decode cJ1_indexOf_4cfef 10 = .ok (.iconst 0, 1) := by decide +kernel
theorem gj_lio_11 : decode cJ1_indexOf_4cfef 11 = .ok (.invokestatic 92, 3) := by decide +kernel
theorem gj_lio_14 : decode cJ1_indexOf_4cfef 14 = .ok (.istore_n 2, 1) := by decide +kernel
theorem gj_lio_15 : decode cJ1_indexOf_4cfef 15 = .ok (.iload_n 3, 1) := by decide +kernel
theorem gj_lio_16 : decode cJ1_indexOf_4cfef 16 = .ok (.aload_n 0, 1) := by decide +kernel
theorem gj_lio_17 : decode cJ1_indexOf_4cfef 17 = .ok (.arraylength, 1) := by decide +kernel
theorem gj_lio_18 : decode cJ1_indexOf_4cfef 18 = .ok (.invokestatic 38, 3) := by decide +kernel
theorem gj_lio_21 : decode cJ1_indexOf_4cfef 21 = .ok (.istore_n 3, 1) := by decide +kernel
theorem gj_lio_22 : decode cJ1_indexOf_4cfef 22 = .ok (.iload_n 2, 1) := by decide +kernel
theorem gj_lio_23 : decode cJ1_indexOf_4cfef 23 = .ok (.iload_n 3, 1) := by decide +kernel
theorem gj_lio_24 : decode cJ1_indexOf_4cfef 24 = .ok (.if_icmp .lt 5, 3) := by decide +kernel
theorem gj_lio_29 : decode cJ1_indexOf_4cfef 29 = .ok (.aload_n 0, 1) := by decide +kernel
theorem gj_lio_30 : decode cJ1_indexOf_4cfef 30 = .ok (.iload_n 1, 1) := by decide +kernel
theorem gj_lio_31 : decode cJ1_indexOf_4cfef 31 = .ok (.iload_n 2, 1) := by decide +kernel
theorem gj_lio_32 : decode cJ1_indexOf_4cfef 32 = .ok (.iload_n 3, 1) := by decide +kernel
theorem gj_lio_33 : decode cJ1_indexOf_4cfef 33 = .ok (.invokestatic 95, 3) := by decide +kernel
theorem gj_lio_36 : decode cJ1_indexOf_4cfef 36 = .ok (.ireturn, 1) := by decide +kernel
theorem gj_io2_0 : decode cJ0_indexOf_7cf53 0 = .ok (.aload_n 0, 1) := by decide +kernel
theorem gj_io2_1 : decode cJ0_indexOf_7cf53 1 = .ok (.invokevirtual 492, 3) := by decide +kernel
theorem gj_io2_4 : decode cJ0_indexOf_7cf53 4 = .ok (.ifCond .eq 19, 3) := by decide +kernel
theorem gj_io2_7 : decode cJ0_indexOf_7cf53 7 = .ok (.aload_n 0, 1) := by decide +kernel
theorem gj_io2_8 : decode cJ0_indexOf_7cf53 8 = .ok (.getfield 9, 3) := by decide +kernel
theorem gj_io2_11 : decode cJ0_indexOf_7cf53 11 = .ok (.iload_n 1, 1) := by decide +kernel
theorem gj_io2_12 : decode cJ0_indexOf_7cf53 12 = .ok (.iload_n 2, 1) := by decide +kernel
theorem gj_io2_13 : decode cJ0_indexOf_7cf53 13 = .ok (.aload_n 0, 1) := by decide +kernel
theorem gj_io2_14 : decode cJ0_indexOf_7cf53 14 = .ok (.invokevirtual 505, 3) := by decide +kernel
theorem gj_io2_17 : decode cJ0_indexOf_7cf53 17 = .ok (.invokestatic 637, 3) := by decide +kernel
theorem gj_io2_20 : decode cJ0_indexOf_7cf53 20 = .ok (.goto 16, 3) := by decide +kernel
theorem gj_io2_36 : decode cJ0_indexOf_7cf53 36 = .ok (.ireturn, 1) := by decide +kernel
theorem gj_io1_0 : decode cJ0_indexOf_0f7a4 0 = .ok (.aload_n 0, 1) := by decide +kernel
theorem gj_io1_1 : decode cJ0_indexOf_0f7a4 1 = .ok (.iload_n 1, 1) := by decide +kernel
theorem gj_io1_2 : decode cJ0_indexOf_0f7a4 2 = .ok (.iconst 0, 1) := by decide +kernel
theorem gj_io1_3 : decode cJ0_indexOf_0f7a4 3 = .ok (.invokevirtual 633, 3) := by decide +kernel
theorem gj_io1_6 : decode cJ0_indexOf_0f7a4 6 = .ok (.ireturn, 1) := by decide +kernel
def gj_Q (D : va_G) (sz : Nat) (ad : Nat → Nat) (cA : Nat → ClassId) (xs : Int → Int) (Ln : Int) (M : gm_M) (rv : Option Value) : Array Value → State → Outcome → State → Prop := fun _ st o t => (o = .returned rv ∧ gm_W D sz ad cA xs Ln M t.heap) ∧ va_F (gm_fr sz) st t
/-- a contract without traces -/
def gj_C (D : va_G) (sz : Nat) (ad : Nat → Nat) (cA : Nat → ClassId) (xs : Int → Int) (Ln : Int) (l : Launch) (M : gm_M) (f : Nat) (y : MethodName) (cc : ByteArray) (n : Nat) (ret : Option FieldType) (as : List Value) (rv : Option Value) : Prop :=
  Met l y (Cond.code y cc n ret :: gm_ok) { frames := f, cells := 0, slots := 0, locals := f * 64 } (va_Pc as (fun U => gm_W D sz ad cA xs Ln M U.heap ∧ gm_St D sz ad cA xs Ln U U.heap)) (gj_Q D sz ad cA xs Ln M rv) 0 0 (gm_fr sz)
def gj_E (D : va_G) (sz : Nat) (ad : Nat → Nat) (cA : Nat → ClassId) (xs : Int → Int) (Ln : Int) (M : gm_M) (cc : ByteArray) (own : String) (n f : Nat) (p : Program) (R : Room) (s : State) (m : MethodId) (args : Array Value) (meth : Method) (c : Code) (H : Heap) (locs : List Loc) : Prop :=
  p.tables.exec = Jvm.exec ∧ c.code = cc ∧ c.maxLocals = n ∧ s.vm.findClass own = some m.cls ∧ (∀ w ∈ gm_ok, w.before args s = true) ∧ gm_St D sz ad cA xs Ln s s.heap ∧ gm_W D sz ad cA xs Ln M H ∧ va_S (gm_fr sz) s.heap H locs ∧ f ≤ R.frames ∧ f * 64 ≤ R.locals
theorem gj_of {D : va_G} {sz : Nat} {ad : Nat → Nat} {cA : Nat → ClassId} {xs : Int → Int} {Ln : Int} {l : Launch} {M : gm_M} {f : Nat} {y : MethodName} {cc : ByteArray} {n : Nat} {ret : Option FieldType} {as : List Value} {rv : Option Value} (hy : plainName y.cls = true) (hn : (lg_sl as).length ≤ n)
    (body : ∀ (p : Program) (e : Env) (R : Room) (s : State) (m : MethodId) (args : Array Value) (below : List Frame) (meth : Method) (c : Code) (ls : Array Slot), gj_E D sz ad cA xs Ln M cc y.cls n f p R s m args meth c s.heap [] → meth.sig.returnType = ret → meth.locks = false → lv_has ls n (lv_args 0 as) → W p l e R s m args below meth c s.heap [] 0 0 (MQ below (gj_Q D sz ad cA xs Ln M rv) args s 0 0 (gm_fr sz)) (F0 m 0 ls [])) : gj_C D sz ad cA xs Ln l M f y cc n ret as rv := by
  refine Met.ofW (cc := cc) (maxL := n) (ret := ret) hy rfl ?_
  intro p e s m args below meth c s₁ Bd hml hv
  obtain ⟨rfl, hW, hSt⟩ := hv
  have hts := atoms_spec (ws := Cond.code y cc n ret :: gm_ok) Bd.pre
  have hown : s.vm.findClass y.cls = some m.cls := findClass_of_methodNamed Bd.named
  rw [lg_entry_eq]
  exact body p e _ s m _ below meth c _ ⟨Bd.exec, Bd.bytes, hml, hown, fun w hw => hts w (List.mem_cons_of_mem _ hw), hSt, hW, va_S.rf, Nat.le_refl _, Nat.le_refl _⟩ Bd.returns Bd.notSynchronized (lv_entry as hn)
theorem gj_iret {D : va_G} {sz : Nat} {ad : Nat → Nat} {cA : Nat → ClassId} {xs : Int → Int} {Ln : Int} {l : Launch} {M : gm_M} {cc : ByteArray} {own : String} {n f pc : Nat} {p : Program} {e : Env} {R : Room} {s : State} {m : MethodId} {args : Array Value} {below : List Frame} {meth : Method} {c : Code} {H : Heap} {locs : List Loc} {ls : Array Slot} {v : Int32} {ty : FieldType} (E : gj_E D sz ad cA xs Ln M cc own n f p R s m args meth c H locs) (hrt : meth.sig.returnType = some ty) (hlocks : meth.locks = false) (hnr : narrow ty (.int v) = .int v) (hdg : decode cc pc = .ok (.ireturn, 1)) : W p l e R s m args below meth c H locs 0 0 (MQ below (gj_Q D sz ad cA xs Ln M (some (.int v))) args s 0 0 (gm_fr sz)) (F0 m pc ls [.int v]) := by
  obtain ⟨hx, hb, hml, hown, hts, hSt, hW, hS, hf, hlo⟩ := E
  exact W.zret hx hb hrt hnr (fun t ht _ => ⟨⟨rfl, by rw [ht]; exact hW⟩, hS.F ht⟩) hS.2.2 hdg
theorem gj_run {D : va_G} {sz : Nat} {ad : Nat → Nat} {cA : Nat → ClassId} {xs : Int → Int} {Ln : Int} {l : Launch} {M : gm_M} {p : Program} {e : Env} {R : Room} {s : State} {m : MethodId} {args : Array Value} {below : List Frame} {meth : Method} {c : Code} {H : Heap} {locs : List Loc} {cells slots : Nat} {Q : State → Prop} {pc : Nat} {ls : Array Slot} {rest : List Value} {rv : Option Value} {st0 : List Value} (hr : va_Run p l e R s m args below meth c H locs cells slots 0 0 (F0 m pc ls st0) rest (gj_Q D sz ad cA xs Ln M rv args) (gm_fr sz)) (hS : va_S (gm_fr sz) s.heap H locs)
    (kk : ∀ (H1 : Heap) (locs1 : List Loc), gm_W D sz ad cA xs Ln M H1 → va_S (gm_fr sz) s.heap H1 locs1 → W p l e R s m args below meth c H1 locs1 cells slots Q (F0 m (pc + 3) ls (rv.toList ++ rest))) : W p l e R s m args below meth c H locs cells slots Q (F0 m pc ls st0) := by
  intro T hT X
  obtain ⟨v, st₀, t, T', L, h0, X', hL, e1, e2, ⟨⟨hv, hWq⟩, hz, hk⟩, st⟩ := hr T hT X
  have hv' : v = rv := Outcome.returned.inj hv
  rw [h0] at hz hk
  obtain ⟨t2, a1, b1⟩ := kk T'.heap (locs ++ L) (by rw [e1]; exact hWq)
    ⟨Nat.le_trans hS.1 (by rw [e1]; exact hz), fun q h1 h2 => by rw [e1, hk q (Nat.lt_of_lt_of_le h1 hS.1) h2]; exact hS.2.1 q h1 h2, fun q hq => by
      rcases List.mem_append.mp hq with h | h
      · exact hS.2.2 q h
      · exact hL q h⟩ T' rfl X'
  refine ⟨t2, st t2 ?_, b1⟩
  rw [hv']
  exact a1
theorem gj_callV {D : va_G} {sz : Nat} {ad : Nat → Nat} {cA : Nat → ClassId} {xs : Int → Int} {Ln : Int} {l : Launch} {M : gm_M} {cc : ByteArray} {own : String} {n f pc : Nat} {p : Program} {e : Env} {R : Room} {s : State} {m : MethodId} {args : Array Value} {below : List Frame} {meth : Method} {c : Code} {H : Heap} {locs : List Loc} {cells slots : Nat} {Q : State → Prop} {ls : Array Slot} {rest : List Value} (E : gj_E D sz ad cA xs Ln M cc own n f p R s m args meth c H locs) {i : Nat} (hi : i < 6) {fc k maxL np : Nat} {y : MethodName} {bytes : ByteArray} {ret : Option FieldType} {as : List Value} {rv : Option Value} (hM : gj_C D sz ad cA xs Ln l M fc y bytes maxL ret (.ref (ad (1003 + i)) :: as) rv) (hcd : Cond.code y bytes maxL ret ∈ gm_ok) (hCy : y.cls = "java/lang/String") (hd : y.cls ≠ "java/lang/invoke/MethodHandle" ∧ y.cls ≠ "java/lang/invoke/VarHandle" ∧ (parseMethodDescriptor y.desc).map (fun d => d.parameters.length) = some np) (hpre : ∀ w ∈ ([.methodLink own k y, .instanceMethod y, .selects "java/lang/String" y y, .initialized "java/lang/String"] : List Cond), w ∈ gm_ok) (hfc : fc + 1 ≤ f) (hmx : maxL ≤ 45) (hlen : as.length = np) (hls : ls.size = n) (hrest : (rest.map fun v => v.category).sum ≤ 8) (hcs : cells ≤ R.cells ∧ slots ≤ R.slots) (hdg : decode cc pc = .ok (.invokevirtual k, 3))
    (kk : ∀ (H1 : Heap) (locs1 : List Loc), gj_E D sz ad cA xs Ln M cc own n f p R s m args meth c H1 locs1 → W p l e R s m args below meth c H1 locs1 cells slots Q (F0 m (pc + 3) ls (rv.toList ++ rest))) : W p l e R s m args below meth c H locs cells slots Q (F0 m pc ls (as.reverse ++ .ref (ad (1003 + i)) :: rest)) := by
  obtain ⟨hx, hb, hml, hown, hts, hSt, hW, hS, hf, hlo⟩ := id E
  refine gj_run (va_runV (As := as) (rest := rest) ⟨hx, hb, hml, hown, hts⟩ hM (cwV np hts (gm_goodC hcd hpre) rfl rfl rfl ⟨hCy, hd⟩ ⟨by show fc + 1 ≤ R.frames; omega, by show 8 + (maxL + 11) + fc * 64 ≤ R.locals; omega⟩) ⟨gm_blind, vk_recv hSt.2.2.2.1.2.2.2.1 hi hS, fun U hU hWU => ⟨rfl, by rw [hU]; exact hW, gm_St_at hSt hS hU hWU⟩⟩ rfl hlen (by rw [show (F0 m pc ls _).locals = ls from rfl]; exact hls) rfl (lv_room hrest) hdg ⟨hcs.1, hcs.2⟩) hS (fun H1 locs1 hW1 hS1 => ?_)
  exact kk H1 locs1 ⟨hx, hb, hml, hown, hts, hSt, hW1, hS1, hf, hlo⟩
theorem gj_callS {D : va_G} {sz : Nat} {ad : Nat → Nat} {cA : Nat → ClassId} {xs : Int → Int} {Ln : Int} {l : Launch} {M : gm_M} {cc : ByteArray} {own : String} {n f pc : Nat} {p : Program} {e : Env} {R : Room} {s : State} {m : MethodId} {args : Array Value} {below : List Frame} {meth : Method} {c : Code} {H : Heap} {locs : List Loc} {cells slots : Nat} {Q : State → Prop} {ls : Array Slot} {rest : List Value} (E : gj_E D sz ad cA xs Ln M cc own n f p R s m args meth c H locs) {fc k maxL np : Nat} {y : MethodName} {bytes : ByteArray} {ret : Option FieldType} {as : List Value} {rv : Option Value} (hM : gj_C D sz ad cA xs Ln l M fc y bytes maxL ret as rv) (hcd : Cond.code y bytes maxL ret ∈ gm_ok) (hd : y.cls ≠ "java/lang/invoke/MethodHandle" ∧ y.cls ≠ "java/lang/invoke/VarHandle" ∧ (parseMethodDescriptor y.desc).map (fun d => d.parameters.length) = some np) (hpre : ∀ w ∈ ([.methodLink own k y, .static y, .initialized y.cls] : List Cond), w ∈ gm_ok) (hfc : fc + 1 ≤ f) (hmx : maxL ≤ 45) (hlen : as.length = np) (hls : ls.size = n) (hrest : (rest.map fun v => v.category).sum ≤ 8) (hcs : cells ≤ R.cells ∧ slots ≤ R.slots) (hdg : decode cc pc = .ok (.invokestatic k, 3))
    (kk : ∀ (H1 : Heap) (locs1 : List Loc), gj_E D sz ad cA xs Ln M cc own n f p R s m args meth c H1 locs1 → W p l e R s m args below meth c H1 locs1 cells slots Q (F0 m (pc + 3) ls (rv.toList ++ rest))) : W p l e R s m args below meth c H locs cells slots Q (F0 m pc ls (as.reverse ++ rest)) := by
  obtain ⟨hx, hb, hml, hown, hts, hSt, hW, hS, hf, hlo⟩ := id E
  refine gj_run (va_runS (As := as) (rest := rest) ⟨hx, hb, hml, hown, hts⟩ hM (va_cwS np hts (gm_goodC hcd hpre) rfl rfl rfl hd ⟨by show fc + 1 ≤ R.frames; omega, by show 8 + (maxL + 11) + fc * 64 ≤ R.locals; omega⟩) ⟨gm_blind, fun U hU hWU => ⟨rfl, by rw [hU]; exact hW, gm_St_at hSt hS hU hWU⟩⟩ rfl hlen (by rw [show (F0 m pc ls _).locals = ls from rfl]; exact hls) rfl (lv_room hrest) hdg ⟨hcs.1, hcs.2⟩) hS (fun H1 locs1 hW1 hS1 => ?_)
  exact kk H1 locs1 ⟨hx, hb, hml, hown, hts, hSt, hW1, hS1, hf, hlo⟩
theorem gj_mem3 {P : Cond → Prop} {a b c : Cond} (h1 : P a) (h2 : P b) (h3 : P c) : ∀ w ∈ [a, b, c], P w := fun w hw => by
  rcases List.mem_cons.mp hw with rfl | hw
  · exact h1
  · rcases List.mem_cons.mp hw with rfl | hw
    · exact h2
    · rcases List.mem_cons.mp hw with rfl | hw
      · exact h3
      · exact absurd hw List.not_mem_nil
theorem gj_mem4 {P : Cond → Prop} {a b c d : Cond} (h1 : P a) (h2 : P b) (h3 : P c) (h4 : P d) : ∀ w ∈ [a, b, c, d], P w := fun w hw => by
  rcases List.mem_cons.mp hw with rfl | hw
  · exact h1
  · exact gj_mem3 h2 h3 h4 w hw
theorem gj_n0 : ∀ k : Fin 8, ¬ Int32.ofNat k.1 < 0 := by decide +kernel
theorem gj_nlt : ∀ k n : Fin 8, k.1 < n.1 → Int32.ofNat k.1 < Int32.ofNat n.1 := by decide +kernel
theorem gj_ncl : ∀ k : Fin 8, (Int32.ofNat k.1).toNatClampNeg = k.1 := by decide +kernel
theorem gj_shr : ∀ k : Fin 8, Int32.ofNat k.1 >>> ((0 : Int32) &&& 31) = Int32.ofNat k.1 := by decide +kernel
theorem gj_l6 : ∀ i : Fin 6, 3 ≤ gm_txL.getD i.1 0 ∧ gm_txL.getD i.1 0 ≤ 6 := by decide
theorem gj_lB : ∀ i : Fin 6, (gm_txB.getD i.1 []).length = gm_txL.getD i.1 0 := by decide

theorem gj_k_coder {D : va_G} {sz : Nat} {ad : Nat → Nat} {cA : Nat → ClassId} {xs : Int → Int} {Ln : Int} {l : Launch} {M : gm_M} {i : Nat} (hi : i < 6) : gj_C D sz ad cA xs Ln l M 0 yJ0_coder_7d493 cJ0_coder_7d493 1 (some .byte) [.ref (ad (1003 + i))] (some (.int 0)) := by
  refine gj_of (by decide +kernel) (Nat.le_of_ble_eq_true rfl) ?_
  intro p e R s m args below meth c ls E hrt hlocks hl
  obtain ⟨hx, hb, hml, hown, hts, hSt, hW, hS, hf, hlo⟩ := id E
  have hown : s.vm.findClass "java/lang/String" = some m.cls := hown
  have hT := hSt.2.2.2.1
  have hl : lv_has ls 1 [(0, .ref (ad (1003 + i)))] := hl
  refine va_gets hx hb hT.2.2.2.2.1 hS hown (hts _ gj_fC) (fun _ h => h) gj_coder_0 ?_
  refine lv_if_eq (tgt := 13) hx hb gj_coder_3 (by decide) (fun q => absurd q (by decide)) (fun _ => ?_)
  refine lv_aload_n hx hb gj_coder_6 rfl (lv_at hl 0 rfl) ?_
  refine vk_getf hx hb (hT.2.2.2.1.1 i hi).2.1 hS hown (hts _ gj_fK) (fun _ h => h) gj_coder_7 ?_
  refine lv_goto (tgt := 14) hx hb gj_coder_10 (by decide) ?_
  exact gj_iret E hrt hlocks rfl gj_coder_14
theorem gj_k_lat {D : va_G} {sz : Nat} {ad : Nat → Nat} {cA : Nat → ClassId} {xs : Int → Int} {Ln : Int} {l : Launch} {M : gm_M} {i : Nat} (hi : i < 6) : gj_C D sz ad cA xs Ln l M 0 yJ0_isLatin1_aae02 cJ0_isLatin1_aae02 1 (some .boolean) [.ref (ad (1003 + i))] (some (.int 1)) := by
  refine gj_of (by decide +kernel) (Nat.le_of_ble_eq_true rfl) ?_
  intro p e R s m args below meth c ls E hrt hlocks hl
  obtain ⟨hx, hb, hml, hown, hts, hSt, hW, hS, hf, hlo⟩ := id E
  have hown : s.vm.findClass "java/lang/String" = some m.cls := hown
  have hT := hSt.2.2.2.1
  have hl : lv_has ls 1 [(0, .ref (ad (1003 + i)))] := hl
  refine va_gets hx hb hT.2.2.2.2.1 hS hown (hts _ gj_fC) (fun _ h => h) gj_lat_0 ?_
  refine lv_if_eq (tgt := 17) hx hb gj_lat_3 (by decide) (fun q => absurd q (by decide)) (fun _ => ?_)
  refine lv_aload_n hx hb gj_lat_6 rfl (lv_at hl 0 rfl) ?_
  refine vk_getf hx hb (hT.2.2.2.1.1 i hi).2.1 hS hown (hts _ gj_fK) (fun _ h => h) gj_lat_7 ?_
  refine lv_if_ne (tgt := 17) hx hb gj_lat_10 (by decide) (fun q => absurd rfl q) (fun _ => ?_)
  refine lv_iconst (v := 1) hx hb gj_lat_13 (by decide) ?_
  refine lv_goto (tgt := 18) hx hb gj_lat_14 (by decide) ?_
  exact gj_iret E hrt hlocks rfl gj_lat_18
theorem gj_k_len {D : va_G} {sz : Nat} {ad : Nat → Nat} {cA : Nat → ClassId} {xs : Int → Int} {Ln : Int} {l : Launch} {M : gm_M} {i : Nat} (hi : i < 6) : gj_C D sz ad cA xs Ln l M 1 yJ0_length_8abf5 cJ0_length_8abf5 1 (some .int) [.ref (ad (1003 + i))] (some (.int (Int32.ofNat (gm_txL.getD i 0)))) := by
  refine gj_of (by decide +kernel) (Nat.le_of_ble_eq_true rfl) ?_
  intro p e R s m args below meth c ls E hrt hlocks hl
  obtain ⟨hx, hb, hml, hown, hts, hSt, hW, hS, hf, hlo⟩ := id E
  have hown : s.vm.findClass "java/lang/String" = some m.cls := hown
  have hT := hSt.2.2.2.1
  have hl : lv_has ls 1 [(0, .ref (ad (1003 + i)))] := hl
  have h6 := gj_l6 ⟨i, hi⟩
  simp only at h6
  refine lv_aload_n hx hb gj_len_0 rfl (lv_at hl 0 rfl) ?_
  refine vk_getf hx hb (hT.2.2.2.1.1 i hi).2.2.1 hS hown (hts _ gj_fV) (fun _ h => h) gj_len_1 ?_
  refine va_tlen hx hb (hT.2.2.2.1.1 i hi).2.2.2 hS rfl gj_len_4 ?_
  refine lv_aload_n hx hb gj_len_5 rfl (lv_at hl 0 rfl) ?_
  refine gj_callV E hi (gj_k_coder hi) gj_c_coder rfl (np := 0) ⟨by decide, by decide, by decide +kernel⟩ (gj_mem4 gj_m_coder gj_n_coder gj_v_coder gj_iS) (by decide) (by decide) rfl hl.1 (Nat.le_of_ble_eq_true rfl) ⟨Nat.zero_le _, Nat.zero_le _⟩ gj_len_6 (fun H1 locs1 E1 => ?_)
  refine lv_ishr hx hb gj_len_9 ?_
  rw [show Int32.ofNat (gm_txL.getD i 0) >>> ((0 : Int32) &&& 31) = Int32.ofNat (gm_txL.getD i 0) from gj_shr ⟨gm_txL.getD i 0, by omega⟩]
  exact gj_iret E1 hrt hlocks rfl gj_len_10
theorem gj_k_pci {D : va_G} {sz : Nat} {ad : Nat → Nat} {cA : Nat → ClassId} {xs : Int → Int} {Ln : Int} {l : Launch} {M : gm_M} {k n : Nat} {v : Value} (hv : (∃ t, v = .ref t) ∨ v = .null) (hn : n < 8) (hk : k < n) : gj_C D sz ad cA xs Ln l M 0 yJ3_checkIndex_8e157 cJ3_checkIndex_8e157 3 (some .int) [.int (Int32.ofNat k), .int (Int32.ofNat n), v] (some (.int (Int32.ofNat k))) := by
  have hw : (lg_sl [Value.int (Int32.ofNat k), .int (Int32.ofNat n), v]).length ≤ 3 := by
    rcases hv with ⟨t, rfl⟩ | rfl <;> exact Nat.le_of_ble_eq_true rfl
  refine gj_of (by decide +kernel) hw ?_
  intro p e R s m args below meth c ls E hrt hlocks hl
  obtain ⟨hx, hb, hml, hown, hts, hSt, hW, hS, hf, hlo⟩ := id E
  have hown : s.vm.findClass "jdk/internal/util/Preconditions" = some m.cls := hown
  have hT := hSt.2.2.2.1
  have hl : lv_has ls 3 [(0, .int (Int32.ofNat k)), (1, .int (Int32.ofNat n))] := by
    rcases hv with ⟨t, rfl⟩ | rfl
    · exact lv_sub hl [0, 1] rfl
    · exact lv_sub hl [0, 1] rfl
  refine lv_iload_n hx hb gj_pci_0 rfl (lv_at hl 0 rfl) ?_
  refine lv_if_lt (tgt := 9) hx hb gj_pci_1 (by decide) (fun q => absurd q (gj_n0 ⟨k, by omega⟩)) (fun _ => ?_)
  refine lv_iload_n hx hb gj_pci_4 rfl (lv_at hl 0 rfl) ?_
  refine lv_iload_n hx hb gj_pci_5 rfl (lv_at hl 1 rfl) ?_
  refine lv_icmp_lt (tgt := 16) hx hb gj_pci_6 (by decide) (fun _ => ?_) (fun q => absurd (gj_nlt ⟨k, by omega⟩ ⟨n, hn⟩ hk) q)
  refine lv_iload_n hx hb gj_pci_16 rfl (lv_at hl 0 rfl) ?_
  exact gj_iret E hrt hlocks rfl gj_pci_17
theorem gj_k_sci {D : va_G} {sz : Nat} {ad : Nat → Nat} {cA : Nat → ClassId} {xs : Int → Int} {Ln : Int} {l : Launch} {M : gm_M} {k n : Nat} (hn : n < 8) (hk : k < n) : gj_C D sz ad cA xs Ln l M 1 yJ0_checkIndex_df160 cJ0_checkIndex_df160 2 none [.int (Int32.ofNat k), .int (Int32.ofNat n)] none := by
  refine gj_of (by decide +kernel) (Nat.le_of_ble_eq_true rfl) ?_
  intro p e R s m args below meth c ls E hrt hlocks hl
  obtain ⟨hx, hb, hml, hown, hts, hSt, hW, hS, hf, hlo⟩ := id E
  have hown : s.vm.findClass "java/lang/String" = some m.cls := hown
  have hT := hSt.2.2.2.1
  have hl : lv_has ls 2 [(0, .int (Int32.ofNat k)), (1, .int (Int32.ofNat n))] := hl
  refine lv_iload_n hx hb gj_sci_0 rfl (lv_at hl 0 rfl) ?_
  refine lv_iload_n hx hb gj_sci_1 rfl (lv_at hl 1 rfl) ?_
  have key : ∀ v : Value, ((∃ t, v = .ref t) ∨ v = .null) → va_Z "jdk/internal/util/Preconditions" "SIOOBE_FORMATTER" "Ljava/util/function/BiFunction;" v (gm_fr sz) s s.heap → W p l e R s m args below meth c s.heap [] 0 0 (MQ below (gj_Q D sz ad cA xs Ln M none) args s 0 0 (gm_fr sz)) (F0 m 2 ls [.int (Int32.ofNat n), .int (Int32.ofNat k)]) := by
    intro v hv hZ
    refine va_gets hx hb hZ hS hown (hts _ gj_fB) (fun _ h => h) gj_sci_2 ?_
    refine gj_callS (as := [.int (Int32.ofNat k), .int (Int32.ofNat n), v]) (rest := []) E (gj_k_pci hv hn hk) gj_c_pci (np := 3) ⟨by decide, by decide, by decide +kernel⟩ (gj_mem3 gj_m_pci gj_t_pci gj_iP) (by decide) (by decide) rfl hl.1 (by decide) ⟨Nat.zero_le _, Nat.zero_le _⟩ gj_sci_5 (fun H1 locs1 E1 => ?_)
    refine lv_pop hx hb gj_sci_8 rfl ?_
    obtain ⟨hx, hb, hml, hown, hts, hSt, hW1, hS1, hf, hlo⟩ := id E1
    exact W.vret hx hb hrt (fun t ht _ => ⟨⟨rfl, by rw [ht]; exact hW1⟩, hS1.F ht⟩) hS1.2.2 gj_sci_9
  rcases hT.2.2.2.2.2 with h | ⟨t, h⟩
  · exact key _ (Or.inr rfl) h
  · exact key _ (Or.inl ⟨t, rfl⟩) h
theorem gj_nar0 (z : UInt32) : narrow .char (.int (z % 65536).toInt32) = .int (z % 65536).toInt32 := by
  have h : z % 65536 % 65536 = z % 65536 := UInt32.toNat_inj.mp (by rw [UInt32.toNat_mod, UInt32.toNat_mod]; exact Nat.mod_mod _ _)
  show Value.int (((z % 65536).toInt32).toUInt32 % 65536).toInt32 = _
  rw [show ((z % 65536).toInt32).toUInt32 = z % 65536 from rfl, h]
theorem gj_nar (b : Int32) : narrow .char (.int ((b &&& 255).toUInt32 % 65536).toInt32) = .int ((b &&& 255).toUInt32 % 65536).toInt32 := by
  exact gj_nar0 _
theorem gj_k_lch {D : va_G} {sz : Nat} {ad : Nat → Nat} {cA : Nat → ClassId} {xs : Int → Int} {Ln : Int} {l : Launch} {M : gm_M} {i k : Nat} (hi : i < 6) (hk : k < gm_txL.getD i 0) : gj_C D sz ad cA xs Ln l M 2 yJ1_charAt_3b067 cJ1_charAt_3b067 2 (some .char) [.ref (ad (1103 + i)), .int (Int32.ofNat k)] (some (.int ((((gm_txB.getD i []).getD k 0) &&& 255).toUInt32 % 65536).toInt32)) := by
  refine gj_of (by decide +kernel) (Nat.le_of_ble_eq_true rfl) ?_
  intro p e R s m args below meth c ls E hrt hlocks hl
  obtain ⟨hx, hb, hml, hown, hts, hSt, hW, hS, hf, hlo⟩ := id E
  have hown : s.vm.findClass "java/lang/StringLatin1" = some m.cls := hown
  have hT := hSt.2.2.2.1
  have hl : lv_has ls 2 [(0, .ref (ad (1103 + i))), (1, .int (Int32.ofNat k))] := hl
  have h6 := gj_l6 ⟨i, hi⟩
  simp only at h6
  have hc := gj_ncl ⟨k, by omega⟩
  simp only at hc
  refine lv_iload_n hx hb gj_lch_0 rfl (lv_at hl 1 rfl) ?_
  refine lv_aload_n hx hb gj_lch_1 rfl (lv_at hl 0 rfl) ?_
  refine va_tlen hx hb (hT.2.2.2.1.1 i hi).2.2.2 hS rfl gj_lch_2 ?_
  refine gj_callS (as := [.int (Int32.ofNat k), .int (Int32.ofNat (gm_txL.getD i 0))]) (rest := []) E (gj_k_sci (by omega) hk) gj_c_sci (np := 2) ⟨by decide, by decide, by decide +kernel⟩ (gj_mem3 gj_m_sci gj_t_sci gj_iS) (by decide) (by decide) rfl hl.1 (by decide) ⟨Nat.zero_le _, Nat.zero_le _⟩ gj_lch_3 (fun H1 locs1 E1 => ?_)
  obtain ⟨-, -, -, -, -, -, hW1, hS1, -, -⟩ := id E1
  refine lv_aload_n hx hb gj_lch_6 rfl (lv_at hl 0 rfl) ?_
  refine lv_iload_n hx hb gj_lch_7 rfl (lv_at hl 1 rfl) ?_
  refine va_tb (v := .int ((gm_txB.getD i []).getD k 0)) hx hb (hT.2.2.2.1.1 i hi).2.2.2 hS1 (fun q => by rcases q with q | q; exact gj_n0 ⟨k, by omega⟩ q; rw [hc] at q; omega) (by rw [hc]) gj_lch_8 ?_
  refine lv_sipush (v := 255) hx hb gj_lch_9 (by decide) ?_
  refine lv_iand hx hb gj_lch_12 ?_
  refine lv_i2c hx hb gj_lch_13 rfl ?_
  exact gj_iret E1 hrt hlocks (gj_nar _) gj_lch_14
theorem gj_k_sch {D : va_G} {sz : Nat} {ad : Nat → Nat} {cA : Nat → ClassId} {xs : Int → Int} {Ln : Int} {l : Launch} {M : gm_M} {i k : Nat} (hi : i < 6) (hk : k < gm_txL.getD i 0) : gj_C D sz ad cA xs Ln l M 3 yJ0_charAt_5068e cJ0_charAt_5068e 2 (some .char) [.ref (ad (1003 + i)), .int (Int32.ofNat k)] (some (.int ((((gm_txB.getD i []).getD k 0) &&& 255).toUInt32 % 65536).toInt32)) := by
  refine gj_of (by decide +kernel) (Nat.le_of_ble_eq_true rfl) ?_
  intro p e R s m args below meth c ls E hrt hlocks hl
  obtain ⟨hx, hb, hml, hown, hts, hSt, hW, hS, hf, hlo⟩ := id E
  have hown : s.vm.findClass "java/lang/String" = some m.cls := hown
  have hT := hSt.2.2.2.1
  have hl : lv_has ls 2 [(0, .ref (ad (1003 + i))), (1, .int (Int32.ofNat k))] := hl
  refine lv_aload_n hx hb gj_sch_0 rfl (lv_at hl 0 rfl) ?_
  refine gj_callV (as := []) (rest := []) E hi (gj_k_lat hi) gj_c_lat rfl (np := 0) ⟨by decide, by decide, by decide +kernel⟩ (gj_mem4 gj_m_lat gj_n_lat gj_v_lat gj_iS) (by decide) (by decide) rfl hl.1 (by decide) ⟨Nat.zero_le _, Nat.zero_le _⟩ gj_sch_1 (fun H1 locs1 E1 => ?_)
  obtain ⟨-, -, -, -, -, -, hW1, hS1, -, -⟩ := id E1
  refine lv_if_eq (tgt := 16) hx hb gj_sch_4 (by decide) (fun q => absurd q (by decide)) (fun _ => ?_)
  refine lv_aload_n hx hb gj_sch_7 rfl (lv_at hl 0 rfl) ?_
  refine vk_getf hx hb (hT.2.2.2.1.1 i hi).2.2.1 hS1 hown (hts _ gj_fV) (fun _ h => h) gj_sch_8 ?_
  refine lv_iload_n hx hb gj_sch_11 rfl (lv_at hl 1 rfl) ?_
  refine gj_callS (as := [.ref (ad (1103 + i)), .int (Int32.ofNat k)]) (rest := []) E1 (gj_k_lch hi hk) gj_c_lch (np := 2) ⟨by decide, by decide, by decide +kernel⟩ (gj_mem3 gj_m_lch gj_t_lch gj_iL) (by decide) (by decide) rfl hl.1 (by decide) ⟨Nat.zero_le _, Nat.zero_le _⟩ gj_sch_12 (fun H2 locs2 E2 => ?_)
  exact gj_iret E2 hrt hlocks (gj_nar _) gj_sch_15
theorem gj_k_enc {D : va_G} {sz : Nat} {ad : Nat → Nat} {cA : Nat → ClassId} {xs : Int → Int} {Ln : Int} {l : Launch} {M : gm_M} {x : Int32} : gj_C D sz ad cA xs Ln l M 0 yJ1_canEncode_9a6ad cJ1_canEncode_9a6ad 1 (some .boolean) [.int x] (some (.int (if x < 0 ∨ 255 < x then 0 else 1))) := by
  refine gj_of (by decide +kernel) (Nat.le_of_ble_eq_true rfl) ?_
  intro p e R s m args below meth c ls E hrt hlocks hl
  obtain ⟨hx, hb, hml, hown, hts, hSt, hW, hS, hf, hlo⟩ := id E
  have hown : s.vm.findClass "java/lang/StringLatin1" = some m.cls := hown
  have hT := hSt.2.2.2.1
  have hl : lv_has ls 1 [(0, .int x)] := hl
  have no : (x < 0 ∨ 255 < x) → W p l e R s m args below meth c s.heap [] 0 0 (MQ below (gj_Q D sz ad cA xs Ln M (some (.int (if x < 0 ∨ 255 < x then 0 else 1)))) args s 0 0 (gm_fr sz)) (F0 m 15 ls []) := fun q => by
    rw [if_pos q]
    refine lv_iconst (v := 0) hx hb gj_enc_15 (by decide) ?_
    exact gj_iret E hrt hlocks rfl gj_enc_16
  refine lv_iload_n hx hb gj_enc_0 rfl (lv_at hl 0 rfl) ?_
  refine lv_if_lt (tgt := 15) hx hb gj_enc_1 (by decide) (fun q => no (Or.inl q)) (fun q1 => ?_)
  refine lv_iload_n hx hb gj_enc_4 rfl (lv_at hl 0 rfl) ?_
  refine lv_sipush (v := 255) hx hb gj_enc_5 (by decide) ?_
  refine lv_icmp_gt (tgt := 15) hx hb gj_enc_8 (by decide) (fun q => no (Or.inr q)) (fun q2 => ?_)
  rw [if_neg (fun z => z.elim (fun z => absurd z (by first | exact q1 | exact Int32.not_lt.mpr q1)) (fun z => absurd z (by first | exact q2 | exact Int32.not_lt.mpr q2)))]
  refine lv_iconst (v := 1) hx hb gj_enc_11 (by decide) ?_
  refine lv_goto (tgt := 16) hx hb gj_enc_12 (by decide) ?_
  exact gj_iret E hrt hlocks rfl gj_enc_16
/-- where a sign stands -/
def gj_ix (b : Int32) : List Int32 → Nat → Int32
  | [], _ => -1
  | x :: l, k => if x = b then Int32.ofNat k else gj_ix b l (k + 1)
theorem gj_inc : ∀ k : Fin 7, Int32.ofNat k.1 + Int32.ofInt 1 = Int32.ofNat (k.1 + 1) := by decide +kernel
theorem gj_k_ioc {D : va_G} {sz : Nat} {ad : Nat → Nat} {cA : Nat → ClassId} {xs : Int → Int} {Ln : Int} {l : Launch} {M : gm_M} {i : Nat} {x : Int32} (hi : i < 6) : gj_C D sz ad cA xs Ln l M 0 yJ1_indexOfChar_4cfef cJ1_indexOfChar_4cfef 6 (some .int) [.ref (ad (1103 + i)), .int x, .int (Int32.ofNat 0), .int (Int32.ofNat (gm_txL.getD i 0))] (some (.int (gj_ix x.toInt8.toInt32 (gm_txB.getD i []) 0))) := by
  refine gj_of (by decide +kernel) (Nat.le_of_ble_eq_true rfl) ?_
  intro p e R s m args below meth c ls E hrt hlocks hl
  obtain ⟨hx, hb, hml, hown, hts, hSt, hW, hS, hf, hlo⟩ := id E
  have hown : s.vm.findClass "java/lang/StringLatin1" = some m.cls := hown
  have hT := hSt.2.2.2.1
  have hl : lv_has ls 6 [(0, .ref (ad (1103 + i))), (1, .int x), (2, .int (Int32.ofNat 0)), (3, .int (Int32.ofNat (gm_txL.getD i 0)))] := hl
  have h6 := gj_l6 ⟨i, hi⟩
  have hB := gj_lB ⟨i, hi⟩
  simp only at h6 hB
  generalize hn : gm_txL.getD i 0 = n at *
  have loop : ∀ (q : List Int32) (k : Nat) (ls : Array Slot), k + q.length = n → (gm_txB.getD i []).drop k = q → lv_has ls 6 [(5, .int (Int32.ofNat k)), (4, .int x.toInt8.toInt32), (3, .int (Int32.ofNat n)), (0, .ref (ad (1103 + i)))] → W p l e R s m args below meth c s.heap [] 0 0 (MQ below (gj_Q D sz ad cA xs Ln M (some (.int (gj_ix x.toInt8.toInt32 q k)))) args s 0 0 (gm_fr sz)) (F0 m 7 ls []) := by
    intro q
    induction q with
    | nil =>
      intro k ls hk hd hl
      simp only [List.length_nil, Nat.add_zero] at hk
      subst hk
      refine lv_iload hx hb gj_ioc_7 (lv_at hl 0 rfl) ?_
      refine lv_iload_n hx hb gj_ioc_9 rfl (lv_at hl 2 rfl) ?_
      refine lv_icmp_ge (tgt := 31) hx hb gj_ioc_10 (by decide) (fun _ => ?_) (fun q => absurd q (by first | exact Int32.lt_irrefl _ | exact fun z => z (Int32.le_refl _)))
      refine lv_iconst (v := -1) hx hb gj_ioc_31 (by decide) ?_
      exact gj_iret E hrt hlocks rfl gj_ioc_32
    | cons y q ih =>
      intro k ls hk hd hl
      simp only [List.length_cons] at hk
      have hlt := gj_nlt ⟨k, by omega⟩ ⟨n, by omega⟩ (by simp only; omega)
      have hc := gj_ncl ⟨k, by omega⟩
      simp only at hlt hc
      have hy : (gm_txB.getD i []).getD k 0 = y := by
        have h9 : ((gm_txB.getD i []).drop k)[0]? = some y := by rw [hd]; rfl
        rw [List.getElem?_drop, Nat.add_zero] at h9
        rw [List.getD_eq_getElem?_getD, h9]
        rfl
      have hd' : (gm_txB.getD i []).drop (k + 1) = q := by
        rw [← List.drop_drop, hd]
        rfl
      refine lv_iload hx hb gj_ioc_7 (lv_at hl 0 rfl) ?_
      refine lv_iload_n hx hb gj_ioc_9 rfl (lv_at hl 2 rfl) ?_
      refine lv_icmp_ge (tgt := 31) hx hb gj_ioc_10 (by decide) (fun q => absurd hlt (by first | exact q | exact Int32.not_lt.mpr q)) (fun _ => ?_)
      refine lv_aload_n hx hb gj_ioc_13 rfl (lv_at hl 3 rfl) ?_
      refine lv_iload hx hb gj_ioc_14 (lv_at hl 0 rfl) ?_
      refine va_tb (v := .int y) hx hb (hT.2.2.2.1.1 i hi).2.2.2 hS (fun q => by rcases q with q | q; exact gj_n0 ⟨k, by omega⟩ q; rw [hc] at q; omega) (by rw [hc, hy]) gj_ioc_16 ?_
      refine lv_iload hx hb gj_ioc_17 (lv_at hl 1 rfl) ?_
      show W _ _ _ _ _ _ _ _ _ _ _ _ _ _ (MQ below (gj_Q D sz ad cA xs Ln M (some (.int (if y = x.toInt8.toInt32 then Int32.ofNat k else gj_ix x.toInt8.toInt32 q (k + 1))))) args s 0 0 (gm_fr sz)) _
      refine lv_icmp_ne (tgt := 25) hx hb gj_ioc_19 (by decide) (fun q1 => ?_) (fun q1 => ?_)
      · rw [if_neg (by first | exact q1 | exact fun z => q1 z.symm)]
        refine lv_iinc (v := Int32.ofNat (k + 1)) (k := 0) (lv' := [(5, .int (Int32.ofNat (k + 1))), (4, .int x.toInt8.toInt32), (3, .int (Int32.ofNat n)), (0, .ref (ad (1103 + i)))]) hx hb gj_ioc_25 hl rfl (gj_inc ⟨k, by omega⟩) (by decide) rfl (fun ls hl => ?_)
        refine lv_goto (tgt := 7) hx hb gj_ioc_28 (by decide) ?_
        exact ih (k + 1) ls (by omega) hd' hl
      · rw [if_pos (by first | exact q1 | exact q1.symm | exact Classical.not_not.mp q1)]
        refine lv_iload hx hb gj_ioc_22 (lv_at hl 0 rfl) ?_
        exact gj_iret E hrt hlocks rfl gj_ioc_24
  refine lv_iload_n hx hb gj_ioc_0 rfl (lv_at hl 1 rfl) ?_
  refine lv_i2b hx hb gj_ioc_1 rfl ?_
  refine lv_istore (lv' := [(4, .int x.toInt8.toInt32), (0, .ref (ad (1103 + i))), (1, .int x), (2, .int (Int32.ofNat 0)), (3, .int (Int32.ofNat n))]) hx hb gj_ioc_2 hl (by decide) rfl (fun ls hl => ?_)
  refine lv_iload_n hx hb gj_ioc_4 rfl (lv_at hl 3 rfl) ?_
  refine lv_istore (lv' := [(5, .int (Int32.ofNat 0)), (4, .int x.toInt8.toInt32), (0, .ref (ad (1103 + i))), (1, .int x), (2, .int (Int32.ofNat 0)), (3, .int (Int32.ofNat n))]) hx hb gj_ioc_5 hl (by decide) rfl (fun ls hl => ?_)
  exact loop (gm_txB.getD i []) 0 ls (by omega) rfl (lv_sub hl [0, 1, 5, 2] rfl)
theorem gj_k_lio {D : va_G} {sz : Nat} {ad : Nat → Nat} {cA : Nat → ClassId} {xs : Int → Int} {Ln : Int} {l : Launch} {M : gm_M} {i : Nat} {x : Int32} (hi : i < 6) : gj_C D sz ad cA xs Ln l M 1 yJ1_indexOf_4cfef cJ1_indexOf_4cfef 4 (some .int) [.ref (ad (1103 + i)), .int x, .int (Int32.ofNat 0), .int (Int32.ofNat (gm_txL.getD i 0))] (some (.int (if x < 0 ∨ 255 < x then -1 else gj_ix x.toInt8.toInt32 (gm_txB.getD i []) 0))) := by
  refine gj_of (by decide +kernel) (Nat.le_of_ble_eq_true rfl) ?_
  intro p e R s m args below meth c ls E hrt hlocks hl
  obtain ⟨hx, hb, hml, hown, hts, hSt, hW, hS, hf, hlo⟩ := id E
  have hown : s.vm.findClass "java/lang/StringLatin1" = some m.cls := hown
  have hT := hSt.2.2.2.1
  have hl : lv_has ls 4 [(0, .ref (ad (1103 + i))), (1, .int x), (2, .int (Int32.ofNat 0)), (3, .int (Int32.ofNat (gm_txL.getD i 0)))] := hl
  have h6 := gj_l6 ⟨i, hi⟩
  simp only at h6
  have hlt := gj_nlt ⟨0, by decide⟩ ⟨gm_txL.getD i 0, by omega⟩ (by simp only; omega)
  simp only at hlt
  refine lv_iload_n hx hb gj_lio_0 rfl (lv_at hl 1 rfl) ?_
  refine gj_callS (as := [.int x]) (rest := []) E gj_k_enc gj_c_enc (np := 1) ⟨by decide, by decide, by decide +kernel⟩ (gj_mem3 gj_m_enc gj_t_enc gj_iL) (by decide) (by decide) rfl hl.1 (by decide) ⟨Nat.zero_le _, Nat.zero_le _⟩ gj_lio_1 (fun H1 locs1 E1 => ?_)
  obtain ⟨-, -, -, -, -, -, hW1, hS1, -, -⟩ := id E1
  show W _ _ _ _ _ _ _ _ _ _ _ _ _ _ _ (F0 m 4 ls [.int (if x < 0 ∨ 255 < x then 0 else 1)])
  by_cases q : x < 0 ∨ 255 < x
  · rw [if_pos q, if_pos q]
    refine lv_if_ne (tgt := 9) hx hb gj_lio_4 (by decide) (fun q => absurd rfl q) (fun _ => ?_)
    refine lv_iconst (v := -1) hx hb gj_lio_7 (by decide) ?_
    exact gj_iret E1 hrt hlocks rfl gj_lio_8
  · rw [if_neg q, if_neg q]
    refine lv_if_ne (tgt := 9) hx hb gj_lio_4 (by decide) (fun _ => ?_) (fun q => absurd q (by decide))
    refine lv_iload_n hx hb gj_lio_9 rfl (lv_at hl 2 rfl) ?_
    refine lv_iconst (v := 0) hx hb gj_lio_10 (by decide) ?_
    refine va_mmax hx hb (by rw [hml]; exact hl.1.symm) hown (hts _ gj_m_max) (hts _ gj_s_max) (hts _ gj_iM) (hts _ gj_d_max) (by omega) (by show 0 + _ ≤ R.locals; omega) (by omega) (by omega) gj_lio_11 ?_
    rw [show (if (Int32.ofNat 0 : Int32) < 0 then (0 : Int32) else Int32.ofNat 0) = Int32.ofNat 0 from rfl]
    refine lv_istore_n (lv' := [(2, .int (Int32.ofNat 0)), (0, .ref (ad (1103 + i))), (1, .int x), (3, .int (Int32.ofNat (gm_txL.getD i 0)))]) hx hb gj_lio_14 rfl hl (by decide) rfl (fun ls hl => ?_)
    refine lv_iload_n hx hb gj_lio_15 rfl (lv_at hl 3 rfl) ?_
    refine lv_aload_n hx hb gj_lio_16 rfl (lv_at hl 1 rfl) ?_
    refine va_tlen hx hb (hT.2.2.2.1.1 i hi).2.2.2 hS1 rfl gj_lio_17 ?_
    refine va_mmin hx hb (by rw [hml]; exact hl.1.symm) hown (hts _ gj_m_min) (hts _ gj_s_min) (hts _ gj_iM) (hts _ gj_d_min) (by omega) (by show 0 + _ ≤ R.locals; omega) (by omega) (by omega) gj_lio_18 ?_
    rw [show ∀ z : Int32, (if z < z then z else z) = z from fun z => by split <;> rfl]
    refine lv_istore_n (lv' := [(3, .int (Int32.ofNat (gm_txL.getD i 0))), (2, .int (Int32.ofNat 0)), (0, .ref (ad (1103 + i))), (1, .int x)]) hx hb gj_lio_21 rfl hl (by decide) rfl (fun ls hl => ?_)
    refine lv_iload_n hx hb gj_lio_22 rfl (lv_at hl 1 rfl) ?_
    refine lv_iload_n hx hb gj_lio_23 rfl (lv_at hl 0 rfl) ?_
    refine lv_icmp_lt (tgt := 29) hx hb gj_lio_24 (by decide) (fun _ => ?_) (fun q => absurd hlt q)
    refine lv_aload_n hx hb gj_lio_29 rfl (lv_at hl 2 rfl) ?_
    refine lv_iload_n hx hb gj_lio_30 rfl (lv_at hl 3 rfl) ?_
    refine lv_iload_n hx hb gj_lio_31 rfl (lv_at hl 1 rfl) ?_
    refine lv_iload_n hx hb gj_lio_32 rfl (lv_at hl 0 rfl) ?_
    refine gj_callS (as := [.ref (ad (1103 + i)), .int x, .int (Int32.ofNat 0), .int (Int32.ofNat (gm_txL.getD i 0))]) (rest := []) E1 (gj_k_ioc hi) gj_c_ioc (np := 4) ⟨by decide, by decide, by decide +kernel⟩ (gj_mem3 gj_m_ioc gj_t_ioc gj_iL) (by decide) (by decide) rfl hl.1 (by decide) ⟨Nat.zero_le _, Nat.zero_le _⟩ gj_lio_33 (fun H2 locs2 E2 => ?_)
    exact gj_iret E2 hrt hlocks rfl gj_lio_36
theorem gj_k_io2 {D : va_G} {sz : Nat} {ad : Nat → Nat} {cA : Nat → ClassId} {xs : Int → Int} {Ln : Int} {l : Launch} {M : gm_M} {i : Nat} {x : Int32} (hi : i < 6) : gj_C D sz ad cA xs Ln l M 2 yJ0_indexOf_7cf53 cJ0_indexOf_7cf53 3 (some .int) [.ref (ad (1003 + i)), .int x, .int (Int32.ofNat 0)] (some (.int (if x < 0 ∨ 255 < x then -1 else gj_ix x.toInt8.toInt32 (gm_txB.getD i []) 0))) := by
  refine gj_of (by decide +kernel) (Nat.le_of_ble_eq_true rfl) ?_
  intro p e R s m args below meth c ls E hrt hlocks hl
  obtain ⟨hx, hb, hml, hown, hts, hSt, hW, hS, hf, hlo⟩ := id E
  have hown : s.vm.findClass "java/lang/String" = some m.cls := hown
  have hT := hSt.2.2.2.1
  have hl : lv_has ls 3 [(0, .ref (ad (1003 + i))), (1, .int x), (2, .int (Int32.ofNat 0))] := hl
  refine lv_aload_n hx hb gj_io2_0 rfl (lv_at hl 0 rfl) ?_
  refine gj_callV (as := []) (rest := []) E hi (gj_k_lat hi) gj_c_lat rfl (np := 0) ⟨by decide, by decide, by decide +kernel⟩ (gj_mem4 gj_m_lat gj_n_lat gj_v_lat gj_iS) (by decide) (by decide) rfl hl.1 (by decide) ⟨Nat.zero_le _, Nat.zero_le _⟩ gj_io2_1 (fun H1 locs1 E1 => ?_)
  obtain ⟨-, -, -, -, -, -, hW1, hS1, -, -⟩ := id E1
  refine lv_if_eq (tgt := 23) hx hb gj_io2_4 (by decide) (fun q => absurd q (by decide)) (fun _ => ?_)
  refine lv_aload_n hx hb gj_io2_7 rfl (lv_at hl 0 rfl) ?_
  refine vk_getf hx hb (hT.2.2.2.1.1 i hi).2.2.1 hS1 hown (hts _ gj_fV) (fun _ h => h) gj_io2_8 ?_
  refine lv_iload_n hx hb gj_io2_11 rfl (lv_at hl 1 rfl) ?_
  refine lv_iload_n hx hb gj_io2_12 rfl (lv_at hl 2 rfl) ?_
  refine lv_aload_n hx hb gj_io2_13 rfl (lv_at hl 0 rfl) ?_
  refine gj_callV (as := []) (rest := [.int (Int32.ofNat 0), .int x, .ref (ad (1103 + i))]) E1 hi (gj_k_len hi) gj_c_len rfl (np := 0) ⟨by decide, by decide, by decide +kernel⟩ (gj_mem4 gj_m_len gj_n_len gj_v_len gj_iS) (by decide) (by decide) rfl hl.1 (by simp [Value.category]) ⟨Nat.zero_le _, Nat.zero_le _⟩ gj_io2_14 (fun H2 locs2 E2 => ?_)
  refine gj_callS (as := [.ref (ad (1103 + i)), .int x, .int (Int32.ofNat 0), .int (Int32.ofNat (gm_txL.getD i 0))]) (rest := []) E2 (gj_k_lio hi) gj_c_lio (np := 4) ⟨by decide, by decide, by decide +kernel⟩ (gj_mem3 gj_m_lio gj_t_lio gj_iL) (by decide) (by decide) rfl hl.1 (by decide) ⟨Nat.zero_le _, Nat.zero_le _⟩ gj_io2_17 (fun H3 locs3 E3 => ?_)
  refine lv_goto (tgt := 36) hx hb gj_io2_20 (by decide) ?_
  exact gj_iret E3 hrt hlocks rfl gj_io2_36
theorem gj_k_io1 {D : va_G} {sz : Nat} {ad : Nat → Nat} {cA : Nat → ClassId} {xs : Int → Int} {Ln : Int} {l : Launch} {M : gm_M} {i : Nat} {x : Int32} (hi : i < 6) : gj_C D sz ad cA xs Ln l M 3 yJ0_indexOf_0f7a4 cJ0_indexOf_0f7a4 2 (some .int) [.ref (ad (1003 + i)), .int x] (some (.int (if x < 0 ∨ 255 < x then -1 else gj_ix x.toInt8.toInt32 (gm_txB.getD i []) 0))) := by
  refine gj_of (by decide +kernel) (Nat.le_of_ble_eq_true rfl) ?_
  intro p e R s m args below meth c ls E hrt hlocks hl
  obtain ⟨hx, hb, hml, hown, hts, hSt, hW, hS, hf, hlo⟩ := id E
  have hown : s.vm.findClass "java/lang/String" = some m.cls := hown
  have hT := hSt.2.2.2.1
  have hl : lv_has ls 2 [(0, .ref (ad (1003 + i))), (1, .int x)] := hl
  refine lv_aload_n hx hb gj_io1_0 rfl (lv_at hl 0 rfl) ?_
  refine lv_iload_n hx hb gj_io1_1 rfl (lv_at hl 1 rfl) ?_
  refine lv_iconst (v := Int32.ofNat 0) hx hb gj_io1_2 (by decide) ?_
  refine gj_callV (as := [.int x, .int (Int32.ofNat 0)]) (rest := []) E hi (gj_k_io2 hi) gj_c_io2 rfl (np := 2) ⟨by decide, by decide, by decide +kernel⟩ (gj_mem4 gj_m_io2 gj_n_io2 gj_v_io2 gj_iS) (by decide) (by decide) rfl hl.1 (by decide) ⟨Nat.zero_le _, Nat.zero_le _⟩ gj_io1_3 (fun H1 locs1 E1 => ?_)
  exact gj_iret E1 hrt hlocks rfl gj_io1_6
theorem gj_X {r : Int} (h : gm_isX r = true) : ∃ i : Nat, i < 6 ∧ r = 1003 + (i : Int) ∧ gm_tx r = gm_txt.getD i [] := by
  simp only [gm_isX, Bool.and_eq_true, decide_eq_true_eq] at h
  refine ⟨(r - 1003).toNat, by omega, by omega, rfl⟩
theorem gj_txl : ∀ i : Fin 6, (gm_txt.getD i.1 []).length = gm_txL.getD i.1 0 := by decide
theorem gj_chv : ∀ i k : Fin 6, k.1 < gm_txL.getD i.1 0 → ((((gm_txB.getD i.1 []).getD k.1 0) &&& 255).toUInt32 % 65536).toInt32 = Int32.ofInt ((gm_txt.getD i.1 []).getD k.1 0) := by decide +kernel
theorem gj_ixv : ∀ (c : Fin 256) (i : Fin 6), gj_ix (Int32.ofNat c.1).toInt8.toInt32 (gm_txB.getD i.1 []) 0 = Int32.ofInt (gm_ixo (c.1 : Int) 0 (gm_txt.getD i.1 [])) := by decide +kernel
theorem gj_txb : ∀ i : Fin 6, ∀ y ∈ gm_txt.getD i.1 [], 0 ≤ y ∧ y ≤ 255 := by decide
theorem gj_ixn {c : Int} (hc : ¬ (0 ≤ c ∧ c ≤ 255)) : ∀ (L : List Int) (k : Int), (∀ y ∈ L, 0 ≤ y ∧ y ≤ 255) → gm_ixo c k L = -1
  | [], _, _ => rfl
  | y :: L, k, h => by
    have := h y (by simp)
    rw [gm_ixo, if_neg (by omega)]
    exact gj_ixn hc L (k + 1) (fun z hz => h z (by simp [hz]))
theorem gj_rest {ad : Nat → Nat} {st : List gm_V} (h : gm_wd st ≤ 8) : ((st.map (gm_rv ad)).map fun v => v.category).sum ≤ 8 := by rw [gm_wd_cat]; exact h
theorem gj_fr {dl F K : Nat} (h1 : dl + 11 ≤ F) (h2 : (dl + 11) * 64 ≤ K) : 4 ≤ F ∧ 4 * 64 ≤ K := by omega
theorem gj_cs {n0 a b C S : Nat} (hM : a ≤ b) (h : b - n0 ≤ C ∧ gm_sl b - gm_sl n0 ≤ S) : a - n0 ≤ C ∧ gm_sl a - gm_sl n0 ≤ S :=
  ⟨Nat.le_trans (Nat.sub_le_sub_right hM _) h.1, Nat.le_trans (Nat.sub_le_sub_right (gm_sl_mono _ _ hM) _) h.2⟩
theorem gj_rr (ad : Nat → Nat) (i : Nat) : gm_rv ad (.inr (.inr (1003 + (i : Int)))) = .ref (ad (1003 + i)) := by
  rw [gm_rv_ref ad (by omega), show (1003 + (i : Int)).toNat = 1003 + i by omega]
theorem gj_k0 {x : Int} (h0 : 0 ≤ gm_w x) : Int32.ofInt x = Int32.ofNat (gm_w x).toNat := by
  have h9 : Int32.ofInt x = Int32.ofInt (gm_w x) := (Int32.ofInt_toInt _).symm
  rw [h9, show gm_w x = (((gm_w x).toNat : Nat) : Int) by omega]
  simp only [Int.toNat_natCast]
  exact Int32.ofInt_eq_ofNat
theorem gj_k1 {x : Int} {n : Nat} (h0 : 0 ≤ gm_w x) (h1 : gm_w x < (n : Int)) : (gm_w x).toNat < n := by omega
theorem gj_cv {x : Int} {i : Nat} (hi : i < 6) (hk : (gm_w x).toNat < gm_txL.getD i 0) : ((((gm_txB.getD i []).getD (gm_w x).toNat 0) &&& 255).toUInt32 % 65536).toInt32 = Int32.ofInt ((gm_txt.getD i []).getD (gm_w x).toNat 0) := by
  have h6 := gj_l6 ⟨i, hi⟩
  simp only at h6
  exact gj_chv ⟨i, hi⟩ ⟨(gm_w x).toNat, by omega⟩ hk
theorem gj_sv {i : Nat} (x : Int) (hi : i < 6) : (if Int32.ofInt x < 0 ∨ 255 < Int32.ofInt x then (-1 : Int32) else gj_ix (Int32.ofInt x).toInt8.toInt32 (gm_txB.getD i []) 0) = Int32.ofInt (gm_ixo (gm_w x) 0 (gm_txt.getD i [])) := by
  have q1 : Int32.ofInt x < 0 ↔ gm_w x < 0 := gm_w_lt0.symm
  have q2 : 255 < Int32.ofInt x ↔ 255 < gm_w x := by
    have : gm_w 255 < gm_w x ↔ Int32.ofInt 255 < Int32.ofInt x := gm_w_lt
    exact this.symm
  by_cases z : 0 ≤ gm_w x ∧ gm_w x ≤ 255
  · rw [if_neg (fun y => y.elim (fun y => by have := q1.mp y; omega) (fun y => by have := q2.mp y; omega))]
    have h8 := gj_ixv ⟨(gm_w x).toNat, by omega⟩ ⟨i, hi⟩
    simp only [show (((gm_w x).toNat : Nat) : Int) = gm_w x by omega] at h8
    rw [gj_k0 z.1]
    exact h8
  · rw [if_pos (by rcases (by omega : gm_w x < 0 ∨ 255 < gm_w x) with y | y; exact Or.inl (q1.mpr y); exact Or.inr (q2.mpr y)), gj_ixn z _ 0 (gj_txb ⟨i, hi⟩)]
    rfl
theorem gm_s_slen {D : va_G} {sz : Nat} {ad : Nat → Nat} {cA : Nat → ClassId} {xs : Int → Int} {Ln : Int} {l : Launch} {mt : gm_MT} {cc : ByteArray} {own : String} {n : Nat} {isI : Bool} {rk : Nat} {bpc : Nat → Nat} {pc k : Nat} (hl : Cond.methodLink own k yJ0_length_8abf5 ∈ gm_ok) (hdg : decode cc pc = .ok (.invokevirtual k, 3)) : gm_S D sz ad cA xs Ln l mt cc own n isI rk bpc pc (pc + 3) gm_slen := by
  intro dl n0 p e R s m args below meth c Q C J N X hcx hr hC hmJ hmN hN hJ L st M h H locs ls hW hS hL hn
  obtain ⟨hx, hb, hml, hown, hts, hSt, hinit, hroom, hfr, hlo⟩ := id hcx
  unfold gm_slen at h
  split at h
  · next r st' =>
    split at h
    · next hO =>
      have hM : M.1 ≤ X.2.1 := hmN _ _ _ _ _ h
      have hcs := gj_cs hM hroom
      have hfl := gj_fr hfr hlo
      have hE : gj_E D sz ad cA xs Ln M cc own n 4 p R s m args meth c H locs := ⟨hx, hb, hml, hown, hts, hSt, hW, hS, hfl.1, hfl.2⟩
      obtain ⟨i, hi, rfl, htx⟩ := gj_X hO.1
      rw [htx, gj_txl ⟨i, hi⟩] at h
      have g := fun H1 locs1 hW1 hS1 => hN L _ M h H1 locs1 ls hW1 hS1 hL hn
      rw [List.map_cons, gj_rr]
      refine gj_callV (as := []) (rest := st'.map (gm_rv ad)) hE hi (gj_k_len hi) gj_c_len rfl (np := 0) ⟨by decide, by decide, by decide +kernel⟩ (gj_mem4 hl gj_n_len gj_v_len gj_iS) (by decide) (by decide) rfl hL.1 (gj_rest hO.2) hcs hdg (fun H1 locs1 E1 => ?_)
      exact g H1 locs1 E1.2.2.2.2.2.2.1 E1.2.2.2.2.2.2.2.1
    · cases h
  · cases h
theorem gm_s_schar {D : va_G} {sz : Nat} {ad : Nat → Nat} {cA : Nat → ClassId} {xs : Int → Int} {Ln : Int} {l : Launch} {mt : gm_MT} {cc : ByteArray} {own : String} {n : Nat} {isI : Bool} {rk : Nat} {bpc : Nat → Nat} {pc k : Nat} (hl : Cond.methodLink own k yJ0_charAt_5068e ∈ gm_ok) (hdg : decode cc pc = .ok (.invokevirtual k, 3)) : gm_S D sz ad cA xs Ln l mt cc own n isI rk bpc pc (pc + 3) gm_schar := by
  intro dl n0 p e R s m args below meth c Q C J N X hcx hr hC hmJ hmN hN hJ L st M h H locs ls hW hS hL hn
  obtain ⟨hx, hb, hml, hown, hts, hSt, hinit, hroom, hfr, hlo⟩ := id hcx
  unfold gm_schar at h
  split at h
  · next x r st' =>
    split at h
    · next hO =>
      have hM : M.1 ≤ X.2.1 := hmN _ _ _ _ _ h
      have hcs := gj_cs hM hroom
      have hfl := gj_fr hfr hlo
      have hE : gj_E D sz ad cA xs Ln M cc own n 4 p R s m args meth c H locs := ⟨hx, hb, hml, hown, hts, hSt, hW, hS, hfl.1, hfl.2⟩
      obtain ⟨hX, hwd, h0, h1⟩ := hO
      obtain ⟨i, hi, rfl, htx⟩ := gj_X hX
      rw [htx, gj_txl ⟨i, hi⟩] at h1
      have hk := gj_k1 h0 h1
      rw [htx] at h
      have g := fun H1 locs1 hW1 hS1 => hN L _ M h H1 locs1 ls hW1 hS1 hL hn
      rw [List.map_cons, List.map_cons, gj_rr, show gm_rv ad (.inl x) = .int (Int32.ofInt x) from rfl, gj_k0 h0]
      refine gj_callV (as := [.int (Int32.ofNat (gm_w x).toNat)]) (rest := st'.map (gm_rv ad)) hE hi (gj_k_sch hi hk) gj_c_sch rfl (np := 1) ⟨by decide, by decide, by decide +kernel⟩ (gj_mem4 hl gj_n_sch gj_v_sch gj_iS) (by decide) (by decide) rfl hL.1 (gj_rest hwd) hcs hdg (fun H1 locs1 E1 => ?_)
      rw [gj_cv hi hk]
      exact g H1 locs1 E1.2.2.2.2.2.2.1 E1.2.2.2.2.2.2.2.1
    · cases h
  · cases h
theorem gm_s_sidx {D : va_G} {sz : Nat} {ad : Nat → Nat} {cA : Nat → ClassId} {xs : Int → Int} {Ln : Int} {l : Launch} {mt : gm_MT} {cc : ByteArray} {own : String} {n : Nat} {isI : Bool} {rk : Nat} {bpc : Nat → Nat} {pc k : Nat} (hl : Cond.methodLink own k yJ0_indexOf_0f7a4 ∈ gm_ok) (hdg : decode cc pc = .ok (.invokevirtual k, 3)) : gm_S D sz ad cA xs Ln l mt cc own n isI rk bpc pc (pc + 3) gm_sidx := by
  intro dl n0 p e R s m args below meth c Q C J N X hcx hr hC hmJ hmN hN hJ L st M h H locs ls hW hS hL hn
  obtain ⟨hx, hb, hml, hown, hts, hSt, hinit, hroom, hfr, hlo⟩ := id hcx
  unfold gm_sidx at h
  split at h
  · next x r st' =>
    split at h
    · next hO =>
      have hM : M.1 ≤ X.2.1 := hmN _ _ _ _ _ h
      have hcs := gj_cs hM hroom
      have hfl := gj_fr hfr hlo
      have hE : gj_E D sz ad cA xs Ln M cc own n 4 p R s m args meth c H locs := ⟨hx, hb, hml, hown, hts, hSt, hW, hS, hfl.1, hfl.2⟩
      obtain ⟨hX, hwd⟩ := hO
      obtain ⟨i, hi, rfl, htx⟩ := gj_X hX
      rw [htx] at h
      have g := fun H1 locs1 hW1 hS1 => hN L _ M h H1 locs1 ls hW1 hS1 hL hn
      rw [List.map_cons, List.map_cons, gj_rr, show gm_rv ad (.inl x) = .int (Int32.ofInt x) from rfl]
      refine gj_callV (as := [.int (Int32.ofInt x)]) (rest := st'.map (gm_rv ad)) hE hi (gj_k_io1 hi) gj_c_io1 rfl (np := 1) ⟨by decide, by decide, by decide +kernel⟩ (gj_mem4 hl gj_n_io1 gj_v_io1 gj_iS) (by decide) (by decide) rfl hL.1 (gj_rest hwd) hcs hdg (fun H1 locs1 E1 => ?_)
      rw [gj_sv x hi]
      exact g H1 locs1 E1.2.2.2.2.2.2.1 E1.2.2.2.2.2.2.2.1
    · cases h
  · cases h
