/-! Decode rows, by program -/
theorem d_mo_init_0 : decode prog_8_method_1_code 0 = .ok (.aload_n 0, 1) := by decide +kernel
theorem d_mo_init_1 : decode prog_8_method_1_code 1 = .ok (.invokespecial 1, 3) := by decide +kernel
theorem d_mo_init_4 : decode prog_8_method_1_code 4 = .ok (.aload_n 0, 1) := by decide +kernel
theorem d_mo_init_5 : decode prog_8_method_1_code 5 = .ok (.bipush 40, 2) := by decide +kernel
theorem d_mo_init_7 : decode prog_8_method_1_code 7 = .ok (.newarray .long, 2) := by decide +kernel
theorem d_mo_init_9 : decode prog_8_method_1_code 9 = .ok (.putfield 7, 3) := by decide +kernel
theorem d_mo_init_12 : decode prog_8_method_1_code 12 = .ok (.aload_n 0, 1) := by decide +kernel
theorem d_mo_init_13 : decode prog_8_method_1_code 13 = .ok (.bipush 20, 2) := by decide +kernel
theorem d_mo_init_15 : decode prog_8_method_1_code 15 = .ok (.newarray .int, 2) := by decide +kernel
theorem d_mo_init_17 : decode prog_8_method_1_code 17 = .ok (.putfield 13, 3) := by decide +kernel
theorem d_mo_init_20 : decode prog_8_method_1_code 20 = .ok (.aload_n 0, 1) := by decide +kernel
theorem d_mo_init_21 : decode prog_8_method_1_code 21 = .ok (.sipush 480, 3) := by decide +kernel
theorem d_mo_init_24 : decode prog_8_method_1_code 24 = .ok (.newarray .long, 2) := by decide +kernel
theorem d_mo_init_26 : decode prog_8_method_1_code 26 = .ok (.putfield 17, 3) := by decide +kernel
theorem d_mo_init_29 : decode prog_8_method_1_code 29 = .ok (.aload_n 0, 1) := by decide +kernel
theorem d_mo_init_30 : decode prog_8_method_1_code 30 = .ok (.sipush 480, 3) := by decide +kernel
theorem d_mo_init_33 : decode prog_8_method_1_code 33 = .ok (.newarray .long, 2) := by decide +kernel
theorem d_mo_init_35 : decode prog_8_method_1_code 35 = .ok (.putfield 20, 3) := by decide +kernel
theorem d_mo_init_38 : decode prog_8_method_1_code 38 = .ok (.aload_n 0, 1) := by decide +kernel
theorem d_mo_init_39 : decode prog_8_method_1_code 39 = .ok (.sipush 2400, 3) := by decide +kernel
theorem d_mo_init_42 : decode prog_8_method_1_code 42 = .ok (.newarray .long, 2) := by decide +kernel
theorem d_mo_init_44 : decode prog_8_method_1_code 44 = .ok (.putfield 23, 3) := by decide +kernel
theorem d_mo_init_47 : decode prog_8_method_1_code 47 = .ok (.aload_n 0, 1) := by decide +kernel
theorem d_mo_init_48 : decode prog_8_method_1_code 48 = .ok (.sipush 2352, 3) := by decide +kernel
theorem d_mo_init_51 : decode prog_8_method_1_code 51 = .ok (.newarray .long, 2) := by decide +kernel
theorem d_mo_init_53 : decode prog_8_method_1_code 53 = .ok (.putfield 26, 3) := by decide +kernel
theorem d_mo_init_56 : decode prog_8_method_1_code 56 = .ok (.aload_n 0, 1) := by decide +kernel
theorem d_mo_init_57 : decode prog_8_method_1_code 57 = .ok (.bipush 48, 2) := by decide +kernel
theorem d_mo_init_59 : decode prog_8_method_1_code 59 = .ok (.newarray .int, 2) := by decide +kernel
theorem d_mo_init_61 : decode prog_8_method_1_code 61 = .ok (.putfield 29, 3) := by decide +kernel
theorem d_mo_init_64 : decode prog_8_method_1_code 64 = .ok (.aload_n 0, 1) := by decide +kernel
theorem d_mo_init_65 : decode prog_8_method_1_code 65 = .ok (.sipush 576, 3) := by decide +kernel
theorem d_mo_init_68 : decode prog_8_method_1_code 68 = .ok (.newarray .long, 2) := by decide +kernel
theorem d_mo_init_70 : decode prog_8_method_1_code 70 = .ok (.putfield 32, 3) := by decide +kernel
theorem d_mo_init_73 : decode prog_8_method_1_code 73 = .ok (.aload_n 0, 1) := by decide +kernel
theorem d_mo_init_74 : decode prog_8_method_1_code 74 = .ok (.sipush 576, 3) := by decide +kernel
theorem d_mo_init_77 : decode prog_8_method_1_code 77 = .ok (.newarray .long, 2) := by decide +kernel
theorem d_mo_init_79 : decode prog_8_method_1_code 79 = .ok (.putfield 35, 3) := by decide +kernel
theorem d_mo_init_82 : decode prog_8_method_1_code 82 = .ok (.aload_n 0, 1) := by decide +kernel
theorem d_mo_init_83 : decode prog_8_method_1_code 83 = .ok (.bipush 24, 2) := by decide +kernel
theorem d_mo_init_85 : decode prog_8_method_1_code 85 = .ok (.newarray .long, 2) := by decide +kernel
theorem d_mo_init_87 : decode prog_8_method_1_code 87 = .ok (.putfield 38, 3) := by decide +kernel
theorem d_mo_init_90 : decode prog_8_method_1_code 90 = .ok (.aload_n 0, 1) := by decide +kernel
theorem d_mo_init_91 : decode prog_8_method_1_code 91 = .ok (.bipush 24, 2) := by decide +kernel
theorem d_mo_init_93 : decode prog_8_method_1_code 93 = .ok (.newarray .long, 2) := by decide +kernel
theorem d_mo_init_95 : decode prog_8_method_1_code 95 = .ok (.putfield 41, 3) := by decide +kernel
theorem d_mo_init_98 : decode prog_8_method_1_code 98 = .ok (.return_, 1) := by decide +kernel
theorem d_mo_number_0 : decode prog_8_method_2_code 0 = .ok (.iload_n 0, 1) := by decide +kernel
theorem d_mo_number_1 : decode prog_8_method_2_code 1 = .ok (.i2l, 1) := by decide +kernel
theorem d_mo_number_2 : decode prog_8_method_2_code 2 = .ok (.ldc2_w 44, 3) := by decide +kernel
theorem d_mo_number_5 : decode prog_8_method_2_code 5 = .ok (.lrem, 1) := by decide +kernel
theorem d_mo_number_6 : decode prog_8_method_2_code 6 = .ok (.lstore_n 1, 1) := by decide +kernel
theorem d_mo_number_7 : decode prog_8_method_2_code 7 = .ok (.lload_n 1, 1) := by decide +kernel
theorem d_mo_number_8 : decode prog_8_method_2_code 8 = .ok (.lconst 0, 1) := by decide +kernel
theorem d_mo_number_9 : decode prog_8_method_2_code 9 = .ok (.lcmp, 1) := by decide +kernel
theorem d_mo_number_10 : decode prog_8_method_2_code 10 = .ok (.ifCond .ge 11, 3) := by decide +kernel
theorem d_mo_number_13 : decode prog_8_method_2_code 13 = .ok (.lload_n 1, 1) := by decide +kernel
theorem d_mo_number_14 : decode prog_8_method_2_code 14 = .ok (.ldc2_w 44, 3) := by decide +kernel
theorem d_mo_number_17 : decode prog_8_method_2_code 17 = .ok (.ladd, 1) := by decide +kernel
theorem d_mo_number_18 : decode prog_8_method_2_code 18 = .ok (.goto 4, 3) := by decide +kernel
theorem d_mo_number_21 : decode prog_8_method_2_code 21 = .ok (.lload_n 1, 1) := by decide +kernel
theorem d_mo_number_22 : decode prog_8_method_2_code 22 = .ok (.lreturn, 1) := by decide +kernel
theorem d_mo_inverse_0 : decode prog_8_method_3_code 0 = .ok (.lconst 1, 1) := by decide +kernel
theorem d_mo_inverse_1 : decode prog_8_method_3_code 1 = .ok (.lstore_n 2, 1) := by decide +kernel
theorem d_mo_inverse_2 : decode prog_8_method_3_code 2 = .ok (.lload_n 0, 1) := by decide +kernel
theorem d_mo_inverse_3 : decode prog_8_method_3_code 3 = .ok (.lstore 4, 2) := by decide +kernel
theorem d_mo_inverse_5 : decode prog_8_method_3_code 5 = .ok (.ldc2_w 46, 3) := by decide +kernel
theorem d_mo_inverse_8 : decode prog_8_method_3_code 8 = .ok (.lstore 6, 2) := by decide +kernel
theorem d_mo_inverse_10 : decode prog_8_method_3_code 10 = .ok (.lload 6, 2) := by decide +kernel
theorem d_mo_inverse_12 : decode prog_8_method_3_code 12 = .ok (.lconst 0, 1) := by decide +kernel
theorem d_mo_inverse_13 : decode prog_8_method_3_code 13 = .ok (.lcmp, 1) := by decide +kernel
theorem d_mo_inverse_14 : decode prog_8_method_3_code 14 = .ok (.ifCond .le 45, 3) := by decide +kernel
theorem d_mo_inverse_17 : decode prog_8_method_3_code 17 = .ok (.lload 6, 2) := by decide +kernel
theorem d_mo_inverse_19 : decode prog_8_method_3_code 19 = .ok (.lconst 1, 1) := by decide +kernel
theorem d_mo_inverse_20 : decode prog_8_method_3_code 20 = .ok (.land, 1) := by decide +kernel
theorem d_mo_inverse_21 : decode prog_8_method_3_code 21 = .ok (.lconst 1, 1) := by decide +kernel
theorem d_mo_inverse_22 : decode prog_8_method_3_code 22 = .ok (.lcmp, 1) := by decide +kernel
theorem d_mo_inverse_23 : decode prog_8_method_3_code 23 = .ok (.ifCond .ne 14, 3) := by decide +kernel
theorem d_mo_inverse_26 : decode prog_8_method_3_code 26 = .ok (.lload_n 2, 1) := by decide +kernel
theorem d_mo_inverse_27 : decode prog_8_method_3_code 27 = .ok (.lload 4, 2) := by decide +kernel
theorem d_mo_inverse_29 : decode prog_8_method_3_code 29 = .ok (.lmul, 1) := by decide +kernel
theorem d_mo_inverse_30 : decode prog_8_method_3_code 30 = .ok (.ldc2_w 44, 3) := by decide +kernel
theorem d_mo_inverse_33 : decode prog_8_method_3_code 33 = .ok (.lrem, 1) := by decide +kernel
theorem d_mo_inverse_34 : decode prog_8_method_3_code 34 = .ok (.goto 4, 3) := by decide +kernel
theorem d_mo_inverse_37 : decode prog_8_method_3_code 37 = .ok (.lload_n 2, 1) := by decide +kernel
theorem d_mo_inverse_38 : decode prog_8_method_3_code 38 = .ok (.lstore_n 2, 1) := by decide +kernel
theorem d_mo_inverse_39 : decode prog_8_method_3_code 39 = .ok (.lload 4, 2) := by decide +kernel
theorem d_mo_inverse_41 : decode prog_8_method_3_code 41 = .ok (.lload 4, 2) := by decide +kernel
theorem d_mo_inverse_43 : decode prog_8_method_3_code 43 = .ok (.lmul, 1) := by decide +kernel
theorem d_mo_inverse_44 : decode prog_8_method_3_code 44 = .ok (.ldc2_w 44, 3) := by decide +kernel
theorem d_mo_inverse_47 : decode prog_8_method_3_code 47 = .ok (.lrem, 1) := by decide +kernel
theorem d_mo_inverse_48 : decode prog_8_method_3_code 48 = .ok (.lstore 4, 2) := by decide +kernel
theorem d_mo_inverse_50 : decode prog_8_method_3_code 50 = .ok (.lload 6, 2) := by decide +kernel
theorem d_mo_inverse_52 : decode prog_8_method_3_code 52 = .ok (.iconst 1, 1) := by decide +kernel
theorem d_mo_inverse_53 : decode prog_8_method_3_code 53 = .ok (.lshr, 1) := by decide +kernel
theorem d_mo_inverse_54 : decode prog_8_method_3_code 54 = .ok (.lstore 6, 2) := by decide +kernel
theorem d_mo_inverse_56 : decode prog_8_method_3_code 56 = .ok (.goto (-46), 3) := by decide +kernel
theorem d_mo_inverse_59 : decode prog_8_method_3_code 59 = .ok (.lload_n 2, 1) := by decide +kernel
theorem d_mo_inverse_60 : decode prog_8_method_3_code 60 = .ok (.lreturn, 1) := by decide +kernel
theorem d_mo_isIn_0 : decode prog_8_method_4_code 0 = .ok (.iload_n 1, 1) := by decide +kernel
theorem d_mo_isIn_1 : decode prog_8_method_4_code 1 = .ok (.ifCond .lt 15, 3) := by decide +kernel
theorem d_mo_isIn_4 : decode prog_8_method_4_code 4 = .ok (.iload_n 1, 1) := by decide +kernel
theorem d_mo_isIn_5 : decode prog_8_method_4_code 5 = .ok (.aload_n 0, 1) := by decide +kernel
theorem d_mo_isIn_6 : decode prog_8_method_4_code 6 = .ok (.getfield 48, 3) := by decide +kernel
theorem d_mo_isIn_9 : decode prog_8_method_4_code 9 = .ok (.if_icmp .ge 7, 3) := by decide +kernel
theorem d_mo_isIn_12 : decode prog_8_method_4_code 12 = .ok (.iconst 1, 1) := by decide +kernel
theorem d_mo_isIn_13 : decode prog_8_method_4_code 13 = .ok (.goto 4, 3) := by decide +kernel
theorem d_mo_isIn_16 : decode prog_8_method_4_code 16 = .ok (.iconst 0, 1) := by decide +kernel
theorem d_mo_isIn_17 : decode prog_8_method_4_code 17 = .ok (.ireturn, 1) := by decide +kernel
theorem d_mo_expand_0 : decode prog_8_method_5_code 0 = .ok (.aload_n 0, 1) := by decide +kernel
theorem d_mo_expand_1 : decode prog_8_method_5_code 1 = .ok (.getfield 13, 3) := by decide +kernel
theorem d_mo_expand_4 : decode prog_8_method_5_code 4 = .ok (.iload_n 2, 1) := by decide +kernel
theorem d_mo_expand_5 : decode prog_8_method_5_code 5 = .ok (.iaload, 1) := by decide +kernel
theorem d_mo_expand_6 : decode prog_8_method_5_code 6 = .ok (.istore 4, 2) := by decide +kernel
theorem d_mo_expand_8 : decode prog_8_method_5_code 8 = .ok (.iconst 0, 1) := by decide +kernel
theorem d_mo_expand_9 : decode prog_8_method_5_code 9 = .ok (.istore 5, 2) := by decide +kernel
theorem d_mo_expand_11 : decode prog_8_method_5_code 11 = .ok (.iload 5, 2) := by decide +kernel
theorem d_mo_expand_13 : decode prog_8_method_5_code 13 = .ok (.iload_n 3, 1) := by decide +kernel
theorem d_mo_expand_14 : decode prog_8_method_5_code 14 = .ok (.if_icmp .ge 104, 3) := by decide +kernel
theorem d_mo_expand_17 : decode prog_8_method_5_code 17 = .ok (.iload 5, 2) := by decide +kernel
theorem d_mo_expand_19 : decode prog_8_method_5_code 19 = .ok (.iload 4, 2) := by decide +kernel
theorem d_mo_expand_21 : decode prog_8_method_5_code 21 = .ok (.if_icmp .ge 18, 3) := by decide +kernel
theorem d_mo_expand_24 : decode prog_8_method_5_code 24 = .ok (.aload_n 0, 1) := by decide +kernel
theorem d_mo_expand_25 : decode prog_8_method_5_code 25 = .ok (.getfield 20, 3) := by decide +kernel
theorem d_mo_expand_28 : decode prog_8_method_5_code 28 = .ok (.bipush 24, 2) := by decide +kernel
theorem d_mo_expand_30 : decode prog_8_method_5_code 30 = .ok (.iload_n 2, 1) := by decide +kernel
theorem d_mo_expand_31 : decode prog_8_method_5_code 31 = .ok (.imul, 1) := by decide +kernel
theorem d_mo_expand_32 : decode prog_8_method_5_code 32 = .ok (.iload 5, 2) := by decide +kernel
theorem d_mo_expand_34 : decode prog_8_method_5_code 34 = .ok (.iadd, 1) := by decide +kernel
theorem d_mo_expand_35 : decode prog_8_method_5_code 35 = .ok (.laload, 1) := by decide +kernel
theorem d_mo_expand_36 : decode prog_8_method_5_code 36 = .ok (.goto 4, 3) := by decide +kernel
theorem d_mo_expand_39 : decode prog_8_method_5_code 39 = .ok (.lconst 0, 1) := by decide +kernel
theorem d_mo_expand_40 : decode prog_8_method_5_code 40 = .ok (.lstore 6, 2) := by decide +kernel
theorem d_mo_expand_42 : decode prog_8_method_5_code 42 = .ok (.iconst 1, 1) := by decide +kernel
theorem d_mo_expand_43 : decode prog_8_method_5_code 43 = .ok (.istore 8, 2) := by decide +kernel
theorem d_mo_expand_45 : decode prog_8_method_5_code 45 = .ok (.iload 8, 2) := by decide +kernel
theorem d_mo_expand_47 : decode prog_8_method_5_code 47 = .ok (.iload 4, 2) := by decide +kernel
theorem d_mo_expand_49 : decode prog_8_method_5_code 49 = .ok (.if_icmp .gt 52, 3) := by decide +kernel
theorem d_mo_expand_52 : decode prog_8_method_5_code 52 = .ok (.iload 5, 2) := by decide +kernel
theorem d_mo_expand_54 : decode prog_8_method_5_code 54 = .ok (.iload 4, 2) := by decide +kernel
theorem d_mo_expand_56 : decode prog_8_method_5_code 56 = .ok (.if_icmp .lt 45, 3) := by decide +kernel
theorem d_mo_expand_59 : decode prog_8_method_5_code 59 = .ok (.lload 6, 2) := by decide +kernel
theorem d_mo_expand_61 : decode prog_8_method_5_code 61 = .ok (.aload_n 0, 1) := by decide +kernel
theorem d_mo_expand_62 : decode prog_8_method_5_code 62 = .ok (.getfield 17, 3) := by decide +kernel
theorem d_mo_expand_65 : decode prog_8_method_5_code 65 = .ok (.bipush 24, 2) := by decide +kernel
theorem d_mo_expand_67 : decode prog_8_method_5_code 67 = .ok (.iload_n 2, 1) := by decide +kernel
theorem d_mo_expand_68 : decode prog_8_method_5_code 68 = .ok (.imul, 1) := by decide +kernel
theorem d_mo_expand_69 : decode prog_8_method_5_code 69 = .ok (.iload 8, 2) := by decide +kernel
theorem d_mo_expand_71 : decode prog_8_method_5_code 71 = .ok (.iadd, 1) := by decide +kernel
theorem d_mo_expand_72 : decode prog_8_method_5_code 72 = .ok (.iconst 1, 1) := by decide +kernel
theorem d_mo_expand_73 : decode prog_8_method_5_code 73 = .ok (.isub, 1) := by decide +kernel
theorem d_mo_expand_74 : decode prog_8_method_5_code 74 = .ok (.laload, 1) := by decide +kernel
theorem d_mo_expand_75 : decode prog_8_method_5_code 75 = .ok (.aload_n 0, 1) := by decide +kernel
theorem d_mo_expand_76 : decode prog_8_method_5_code 76 = .ok (.getfield 23, 3) := by decide +kernel
theorem d_mo_expand_79 : decode prog_8_method_5_code 79 = .ok (.iload_n 1, 1) := by decide +kernel
theorem d_mo_expand_80 : decode prog_8_method_5_code 80 = .ok (.iload 5, 2) := by decide +kernel
theorem d_mo_expand_82 : decode prog_8_method_5_code 82 = .ok (.iadd, 1) := by decide +kernel
theorem d_mo_expand_83 : decode prog_8_method_5_code 83 = .ok (.iload 8, 2) := by decide +kernel
theorem d_mo_expand_85 : decode prog_8_method_5_code 85 = .ok (.isub, 1) := by decide +kernel
theorem d_mo_expand_86 : decode prog_8_method_5_code 86 = .ok (.laload, 1) := by decide +kernel
theorem d_mo_expand_87 : decode prog_8_method_5_code 87 = .ok (.lmul, 1) := by decide +kernel
theorem d_mo_expand_88 : decode prog_8_method_5_code 88 = .ok (.ladd, 1) := by decide +kernel
theorem d_mo_expand_89 : decode prog_8_method_5_code 89 = .ok (.ldc2_w 44, 3) := by decide +kernel
theorem d_mo_expand_92 : decode prog_8_method_5_code 92 = .ok (.lrem, 1) := by decide +kernel
theorem d_mo_expand_93 : decode prog_8_method_5_code 93 = .ok (.lstore 6, 2) := by decide +kernel
theorem d_mo_expand_95 : decode prog_8_method_5_code 95 = .ok (.iinc 8 1, 3) := by decide +kernel
theorem d_mo_expand_98 : decode prog_8_method_5_code 98 = .ok (.goto (-53), 3) := by decide +kernel
theorem d_mo_expand_101 : decode prog_8_method_5_code 101 = .ok (.aload_n 0, 1) := by decide +kernel
theorem d_mo_expand_102 : decode prog_8_method_5_code 102 = .ok (.getfield 23, 3) := by decide +kernel
theorem d_mo_expand_105 : decode prog_8_method_5_code 105 = .ok (.iload_n 1, 1) := by decide +kernel
theorem d_mo_expand_106 : decode prog_8_method_5_code 106 = .ok (.iload 5, 2) := by decide +kernel
theorem d_mo_expand_108 : decode prog_8_method_5_code 108 = .ok (.iadd, 1) := by decide +kernel
theorem d_mo_expand_109 : decode prog_8_method_5_code 109 = .ok (.lload 6, 2) := by decide +kernel
theorem d_mo_expand_111 : decode prog_8_method_5_code 111 = .ok (.lastore, 1) := by decide +kernel
theorem d_mo_expand_112 : decode prog_8_method_5_code 112 = .ok (.iinc 5 1, 3) := by decide +kernel
theorem d_mo_expand_115 : decode prog_8_method_5_code 115 = .ok (.goto (-104), 3) := by decide +kernel
theorem d_mo_expand_118 : decode prog_8_method_5_code 118 = .ok (.return_, 1) := by decide +kernel
theorem d_mo_ask_0 : decode prog_8_method_6_code 0 = .ok (.iconst 0, 1) := by decide +kernel
theorem d_mo_ask_1 : decode prog_8_method_6_code 1 = .ok (.istore 5, 2) := by decide +kernel
theorem d_mo_ask_3 : decode prog_8_method_6_code 3 = .ok (.iload 5, 2) := by decide +kernel
theorem d_mo_ask_5 : decode prog_8_method_6_code 5 = .ok (.iload_n 3, 1) := by decide +kernel
theorem d_mo_ask_6 : decode prog_8_method_6_code 6 = .ok (.if_icmp .ge 83, 3) := by decide +kernel
theorem d_mo_ask_9 : decode prog_8_method_6_code 9 = .ok (.iload_n 1, 1) := by decide +kernel
theorem d_mo_ask_10 : decode prog_8_method_6_code 10 = .ok (.iload 5, 2) := by decide +kernel
theorem d_mo_ask_12 : decode prog_8_method_6_code 12 = .ok (.iadd, 1) := by decide +kernel
theorem d_mo_ask_13 : decode prog_8_method_6_code 13 = .ok (.bipush 49, 2) := by decide +kernel
theorem d_mo_ask_15 : decode prog_8_method_6_code 15 = .ok (.imul, 1) := by decide +kernel
theorem d_mo_ask_16 : decode prog_8_method_6_code 16 = .ok (.istore 6, 2) := by decide +kernel
theorem d_mo_ask_18 : decode prog_8_method_6_code 18 = .ok (.iconst 1, 1) := by decide +kernel
theorem d_mo_ask_19 : decode prog_8_method_6_code 19 = .ok (.istore 7, 2) := by decide +kernel
theorem d_mo_ask_21 : decode prog_8_method_6_code 21 = .ok (.iload 7, 2) := by decide +kernel
theorem d_mo_ask_23 : decode prog_8_method_6_code 23 = .ok (.iload 4, 2) := by decide +kernel
theorem d_mo_ask_25 : decode prog_8_method_6_code 25 = .ok (.if_icmp .gt 36, 3) := by decide +kernel
theorem d_mo_ask_28 : decode prog_8_method_6_code 28 = .ok (.aload_n 0, 1) := by decide +kernel
theorem d_mo_ask_29 : decode prog_8_method_6_code 29 = .ok (.getfield 26, 3) := by decide +kernel
theorem d_mo_ask_32 : decode prog_8_method_6_code 32 = .ok (.iload 6, 2) := by decide +kernel
theorem d_mo_ask_34 : decode prog_8_method_6_code 34 = .ok (.iload 7, 2) := by decide +kernel
theorem d_mo_ask_36 : decode prog_8_method_6_code 36 = .ok (.iadd, 1) := by decide +kernel
theorem d_mo_ask_37 : decode prog_8_method_6_code 37 = .ok (.iconst 1, 1) := by decide +kernel
theorem d_mo_ask_38 : decode prog_8_method_6_code 38 = .ok (.isub, 1) := by decide +kernel
theorem d_mo_ask_39 : decode prog_8_method_6_code 39 = .ok (.aload_n 0, 1) := by decide +kernel
theorem d_mo_ask_40 : decode prog_8_method_6_code 40 = .ok (.getfield 23, 3) := by decide +kernel
theorem d_mo_ask_43 : decode prog_8_method_6_code 43 = .ok (.iload_n 2, 1) := by decide +kernel
theorem d_mo_ask_44 : decode prog_8_method_6_code 44 = .ok (.iload 5, 2) := by decide +kernel
theorem d_mo_ask_46 : decode prog_8_method_6_code 46 = .ok (.iadd, 1) := by decide +kernel
theorem d_mo_ask_47 : decode prog_8_method_6_code 47 = .ok (.iload 4, 2) := by decide +kernel
theorem d_mo_ask_49 : decode prog_8_method_6_code 49 = .ok (.iadd, 1) := by decide +kernel
theorem d_mo_ask_50 : decode prog_8_method_6_code 50 = .ok (.iload 7, 2) := by decide +kernel
theorem d_mo_ask_52 : decode prog_8_method_6_code 52 = .ok (.isub, 1) := by decide +kernel
theorem d_mo_ask_53 : decode prog_8_method_6_code 53 = .ok (.laload, 1) := by decide +kernel
theorem d_mo_ask_54 : decode prog_8_method_6_code 54 = .ok (.lastore, 1) := by decide +kernel
theorem d_mo_ask_55 : decode prog_8_method_6_code 55 = .ok (.iinc 7 1, 3) := by decide +kernel
theorem d_mo_ask_58 : decode prog_8_method_6_code 58 = .ok (.goto (-37), 3) := by decide +kernel
theorem d_mo_ask_61 : decode prog_8_method_6_code 61 = .ok (.aload_n 0, 1) := by decide +kernel
theorem d_mo_ask_62 : decode prog_8_method_6_code 62 = .ok (.getfield 26, 3) := by decide +kernel
theorem d_mo_ask_65 : decode prog_8_method_6_code 65 = .ok (.iload 6, 2) := by decide +kernel
theorem d_mo_ask_67 : decode prog_8_method_6_code 67 = .ok (.iload 4, 2) := by decide +kernel
theorem d_mo_ask_69 : decode prog_8_method_6_code 69 = .ok (.iadd, 1) := by decide +kernel
theorem d_mo_ask_70 : decode prog_8_method_6_code 70 = .ok (.aload_n 0, 1) := by decide +kernel
theorem d_mo_ask_71 : decode prog_8_method_6_code 71 = .ok (.getfield 23, 3) := by decide +kernel
theorem d_mo_ask_74 : decode prog_8_method_6_code 74 = .ok (.iload_n 2, 1) := by decide +kernel
theorem d_mo_ask_75 : decode prog_8_method_6_code 75 = .ok (.iload 5, 2) := by decide +kernel
theorem d_mo_ask_77 : decode prog_8_method_6_code 77 = .ok (.iadd, 1) := by decide +kernel
theorem d_mo_ask_78 : decode prog_8_method_6_code 78 = .ok (.iload 4, 2) := by decide +kernel
theorem d_mo_ask_80 : decode prog_8_method_6_code 80 = .ok (.iadd, 1) := by decide +kernel
theorem d_mo_ask_81 : decode prog_8_method_6_code 81 = .ok (.laload, 1) := by decide +kernel
theorem d_mo_ask_82 : decode prog_8_method_6_code 82 = .ok (.lastore, 1) := by decide +kernel
theorem d_mo_ask_83 : decode prog_8_method_6_code 83 = .ok (.iinc 5 1, 3) := by decide +kernel
theorem d_mo_ask_86 : decode prog_8_method_6_code 86 = .ok (.goto (-83), 3) := by decide +kernel
theorem d_mo_ask_89 : decode prog_8_method_6_code 89 = .ok (.return_, 1) := by decide +kernel
theorem d_mo_swapRows_0 : decode prog_8_method_7_code 0 = .ok (.iconst 0, 1) := by decide +kernel
theorem d_mo_swapRows_1 : decode prog_8_method_7_code 1 = .ok (.istore 4, 2) := by decide +kernel
theorem d_mo_swapRows_3 : decode prog_8_method_7_code 3 = .ok (.iload 4, 2) := by decide +kernel
theorem d_mo_swapRows_5 : decode prog_8_method_7_code 5 = .ok (.iload_n 3, 1) := by decide +kernel
theorem d_mo_swapRows_6 : decode prog_8_method_7_code 6 = .ok (.if_icmp .gt 61, 3) := by decide +kernel
theorem d_mo_swapRows_9 : decode prog_8_method_7_code 9 = .ok (.aload_n 0, 1) := by decide +kernel
theorem d_mo_swapRows_10 : decode prog_8_method_7_code 10 = .ok (.getfield 26, 3) := by decide +kernel
theorem d_mo_swapRows_13 : decode prog_8_method_7_code 13 = .ok (.iload_n 1, 1) := by decide +kernel
theorem d_mo_swapRows_14 : decode prog_8_method_7_code 14 = .ok (.bipush 49, 2) := by decide +kernel
theorem d_mo_swapRows_16 : decode prog_8_method_7_code 16 = .ok (.imul, 1) := by decide +kernel
theorem d_mo_swapRows_17 : decode prog_8_method_7_code 17 = .ok (.iload 4, 2) := by decide +kernel
theorem d_mo_swapRows_19 : decode prog_8_method_7_code 19 = .ok (.iadd, 1) := by decide +kernel
theorem d_mo_swapRows_20 : decode prog_8_method_7_code 20 = .ok (.laload, 1) := by decide +kernel
theorem d_mo_swapRows_21 : decode prog_8_method_7_code 21 = .ok (.lstore 5, 2) := by decide +kernel
theorem d_mo_swapRows_23 : decode prog_8_method_7_code 23 = .ok (.aload_n 0, 1) := by decide +kernel
theorem d_mo_swapRows_24 : decode prog_8_method_7_code 24 = .ok (.getfield 26, 3) := by decide +kernel
theorem d_mo_swapRows_27 : decode prog_8_method_7_code 27 = .ok (.iload_n 1, 1) := by decide +kernel
theorem d_mo_swapRows_28 : decode prog_8_method_7_code 28 = .ok (.bipush 49, 2) := by decide +kernel
theorem d_mo_swapRows_30 : decode prog_8_method_7_code 30 = .ok (.imul, 1) := by decide +kernel
theorem d_mo_swapRows_31 : decode prog_8_method_7_code 31 = .ok (.iload 4, 2) := by decide +kernel
theorem d_mo_swapRows_33 : decode prog_8_method_7_code 33 = .ok (.iadd, 1) := by decide +kernel
theorem d_mo_swapRows_34 : decode prog_8_method_7_code 34 = .ok (.aload_n 0, 1) := by decide +kernel
theorem d_mo_swapRows_35 : decode prog_8_method_7_code 35 = .ok (.getfield 26, 3) := by decide +kernel
theorem d_mo_swapRows_38 : decode prog_8_method_7_code 38 = .ok (.iload_n 2, 1) := by decide +kernel
theorem d_mo_swapRows_39 : decode prog_8_method_7_code 39 = .ok (.bipush 49, 2) := by decide +kernel
theorem d_mo_swapRows_41 : decode prog_8_method_7_code 41 = .ok (.imul, 1) := by decide +kernel
theorem d_mo_swapRows_42 : decode prog_8_method_7_code 42 = .ok (.iload 4, 2) := by decide +kernel
theorem d_mo_swapRows_44 : decode prog_8_method_7_code 44 = .ok (.iadd, 1) := by decide +kernel
theorem d_mo_swapRows_45 : decode prog_8_method_7_code 45 = .ok (.laload, 1) := by decide +kernel
theorem d_mo_swapRows_46 : decode prog_8_method_7_code 46 = .ok (.lastore, 1) := by decide +kernel
theorem d_mo_swapRows_47 : decode prog_8_method_7_code 47 = .ok (.aload_n 0, 1) := by decide +kernel
theorem d_mo_swapRows_48 : decode prog_8_method_7_code 48 = .ok (.getfield 26, 3) := by decide +kernel
theorem d_mo_swapRows_51 : decode prog_8_method_7_code 51 = .ok (.iload_n 2, 1) := by decide +kernel
theorem d_mo_swapRows_52 : decode prog_8_method_7_code 52 = .ok (.bipush 49, 2) := by decide +kernel
theorem d_mo_swapRows_54 : decode prog_8_method_7_code 54 = .ok (.imul, 1) := by decide +kernel
theorem d_mo_swapRows_55 : decode prog_8_method_7_code 55 = .ok (.iload 4, 2) := by decide +kernel
theorem d_mo_swapRows_57 : decode prog_8_method_7_code 57 = .ok (.iadd, 1) := by decide +kernel
theorem d_mo_swapRows_58 : decode prog_8_method_7_code 58 = .ok (.lload 5, 2) := by decide +kernel
theorem d_mo_swapRows_60 : decode prog_8_method_7_code 60 = .ok (.lastore, 1) := by decide +kernel
theorem d_mo_swapRows_61 : decode prog_8_method_7_code 61 = .ok (.iinc 4 1, 3) := by decide +kernel
theorem d_mo_swapRows_64 : decode prog_8_method_7_code 64 = .ok (.goto (-61), 3) := by decide +kernel
theorem d_mo_swapRows_67 : decode prog_8_method_7_code 67 = .ok (.return_, 1) := by decide +kernel
theorem d_mo_clean_0 : decode prog_8_method_8_code 0 = .ok (.aload_n 0, 1) := by decide +kernel
theorem d_mo_clean_1 : decode prog_8_method_8_code 1 = .ok (.getfield 26, 3) := by decide +kernel
theorem d_mo_clean_4 : decode prog_8_method_8_code 4 = .ok (.iload_n 1, 1) := by decide +kernel
theorem d_mo_clean_5 : decode prog_8_method_8_code 5 = .ok (.bipush 49, 2) := by decide +kernel
theorem d_mo_clean_7 : decode prog_8_method_8_code 7 = .ok (.imul, 1) := by decide +kernel
theorem d_mo_clean_8 : decode prog_8_method_8_code 8 = .ok (.iload_n 2, 1) := by decide +kernel
theorem d_mo_clean_9 : decode prog_8_method_8_code 9 = .ok (.iadd, 1) := by decide +kernel
theorem d_mo_clean_10 : decode prog_8_method_8_code 10 = .ok (.laload, 1) := by decide +kernel
theorem d_mo_clean_11 : decode prog_8_method_8_code 11 = .ok (.invokestatic 52, 3) := by decide +kernel
theorem d_mo_clean_14 : decode prog_8_method_8_code 14 = .ok (.lstore 5, 2) := by decide +kernel
theorem d_mo_clean_16 : decode prog_8_method_8_code 16 = .ok (.iconst 0, 1) := by decide +kernel
theorem d_mo_clean_17 : decode prog_8_method_8_code 17 = .ok (.istore 7, 2) := by decide +kernel
theorem d_mo_clean_19 : decode prog_8_method_8_code 19 = .ok (.iload 7, 2) := by decide +kernel
theorem d_mo_clean_21 : decode prog_8_method_8_code 21 = .ok (.iload 4, 2) := by decide +kernel
theorem d_mo_clean_23 : decode prog_8_method_8_code 23 = .ok (.if_icmp .gt 40, 3) := by decide +kernel
theorem d_mo_clean_26 : decode prog_8_method_8_code 26 = .ok (.aload_n 0, 1) := by decide +kernel
theorem d_mo_clean_27 : decode prog_8_method_8_code 27 = .ok (.getfield 26, 3) := by decide +kernel
theorem d_mo_clean_30 : decode prog_8_method_8_code 30 = .ok (.iload_n 1, 1) := by decide +kernel
theorem d_mo_clean_31 : decode prog_8_method_8_code 31 = .ok (.bipush 49, 2) := by decide +kernel
theorem d_mo_clean_33 : decode prog_8_method_8_code 33 = .ok (.imul, 1) := by decide +kernel
theorem d_mo_clean_34 : decode prog_8_method_8_code 34 = .ok (.iload 7, 2) := by decide +kernel
theorem d_mo_clean_36 : decode prog_8_method_8_code 36 = .ok (.iadd, 1) := by decide +kernel
theorem d_mo_clean_37 : decode prog_8_method_8_code 37 = .ok (.aload_n 0, 1) := by decide +kernel
theorem d_mo_clean_38 : decode prog_8_method_8_code 38 = .ok (.getfield 26, 3) := by decide +kernel
theorem d_mo_clean_41 : decode prog_8_method_8_code 41 = .ok (.iload_n 1, 1) := by decide +kernel
theorem d_mo_clean_42 : decode prog_8_method_8_code 42 = .ok (.bipush 49, 2) := by decide +kernel
theorem d_mo_clean_44 : decode prog_8_method_8_code 44 = .ok (.imul, 1) := by decide +kernel
theorem d_mo_clean_45 : decode prog_8_method_8_code 45 = .ok (.iload 7, 2) := by decide +kernel
theorem d_mo_clean_47 : decode prog_8_method_8_code 47 = .ok (.iadd, 1) := by decide +kernel
theorem d_mo_clean_48 : decode prog_8_method_8_code 48 = .ok (.laload, 1) := by decide +kernel
theorem d_mo_clean_49 : decode prog_8_method_8_code 49 = .ok (.lload 5, 2) := by decide +kernel
theorem d_mo_clean_51 : decode prog_8_method_8_code 51 = .ok (.lmul, 1) := by decide +kernel
theorem d_mo_clean_52 : decode prog_8_method_8_code 52 = .ok (.ldc2_w 44, 3) := by decide +kernel
theorem d_mo_clean_55 : decode prog_8_method_8_code 55 = .ok (.lrem, 1) := by decide +kernel
theorem d_mo_clean_56 : decode prog_8_method_8_code 56 = .ok (.lastore, 1) := by decide +kernel
theorem d_mo_clean_57 : decode prog_8_method_8_code 57 = .ok (.iinc 7 1, 3) := by decide +kernel
theorem d_mo_clean_60 : decode prog_8_method_8_code 60 = .ok (.goto (-41), 3) := by decide +kernel
theorem d_mo_clean_63 : decode prog_8_method_8_code 63 = .ok (.iconst 0, 1) := by decide +kernel
theorem d_mo_clean_64 : decode prog_8_method_8_code 64 = .ok (.istore 7, 2) := by decide +kernel
theorem d_mo_clean_66 : decode prog_8_method_8_code 66 = .ok (.iload 7, 2) := by decide +kernel
theorem d_mo_clean_68 : decode prog_8_method_8_code 68 = .ok (.iload_n 3, 1) := by decide +kernel
theorem d_mo_clean_69 : decode prog_8_method_8_code 69 = .ok (.if_icmp .ge 118, 3) := by decide +kernel
theorem d_mo_clean_72 : decode prog_8_method_8_code 72 = .ok (.aload_n 0, 1) := by decide +kernel
theorem d_mo_clean_73 : decode prog_8_method_8_code 73 = .ok (.getfield 26, 3) := by decide +kernel
theorem d_mo_clean_76 : decode prog_8_method_8_code 76 = .ok (.iload 7, 2) := by decide +kernel
theorem d_mo_clean_78 : decode prog_8_method_8_code 78 = .ok (.bipush 49, 2) := by decide +kernel
theorem d_mo_clean_80 : decode prog_8_method_8_code 80 = .ok (.imul, 1) := by decide +kernel
theorem d_mo_clean_81 : decode prog_8_method_8_code 81 = .ok (.iload_n 2, 1) := by decide +kernel
theorem d_mo_clean_82 : decode prog_8_method_8_code 82 = .ok (.iadd, 1) := by decide +kernel
theorem d_mo_clean_83 : decode prog_8_method_8_code 83 = .ok (.laload, 1) := by decide +kernel
theorem d_mo_clean_84 : decode prog_8_method_8_code 84 = .ok (.lstore 8, 2) := by decide +kernel
theorem d_mo_clean_86 : decode prog_8_method_8_code 86 = .ok (.iconst 0, 1) := by decide +kernel
theorem d_mo_clean_87 : decode prog_8_method_8_code 87 = .ok (.istore 10, 2) := by decide +kernel
theorem d_mo_clean_89 : decode prog_8_method_8_code 89 = .ok (.iload 10, 2) := by decide +kernel
theorem d_mo_clean_91 : decode prog_8_method_8_code 91 = .ok (.iload 4, 2) := by decide +kernel
theorem d_mo_clean_93 : decode prog_8_method_8_code 93 = .ok (.if_icmp .gt 88, 3) := by decide +kernel
theorem d_mo_clean_96 : decode prog_8_method_8_code 96 = .ok (.iload 7, 2) := by decide +kernel
theorem d_mo_clean_98 : decode prog_8_method_8_code 98 = .ok (.iload_n 1, 1) := by decide +kernel
theorem d_mo_clean_99 : decode prog_8_method_8_code 99 = .ok (.if_icmp .eq 82, 3) := by decide +kernel
theorem d_mo_clean_102 : decode prog_8_method_8_code 102 = .ok (.lload 8, 2) := by decide +kernel
theorem d_mo_clean_104 : decode prog_8_method_8_code 104 = .ok (.lconst 0, 1) := by decide +kernel
theorem d_mo_clean_105 : decode prog_8_method_8_code 105 = .ok (.lcmp, 1) := by decide +kernel
theorem d_mo_clean_106 : decode prog_8_method_8_code 106 = .ok (.ifCond .eq 75, 3) := by decide +kernel
theorem d_mo_clean_109 : decode prog_8_method_8_code 109 = .ok (.aload_n 0, 1) := by decide +kernel
theorem d_mo_clean_110 : decode prog_8_method_8_code 110 = .ok (.getfield 26, 3) := by decide +kernel
theorem d_mo_clean_113 : decode prog_8_method_8_code 113 = .ok (.iload 7, 2) := by decide +kernel
theorem d_mo_clean_115 : decode prog_8_method_8_code 115 = .ok (.bipush 49, 2) := by decide +kernel
theorem d_mo_clean_117 : decode prog_8_method_8_code 117 = .ok (.imul, 1) := by decide +kernel
theorem d_mo_clean_118 : decode prog_8_method_8_code 118 = .ok (.iload 10, 2) := by decide +kernel
theorem d_mo_clean_120 : decode prog_8_method_8_code 120 = .ok (.iadd, 1) := by decide +kernel
theorem d_mo_clean_121 : decode prog_8_method_8_code 121 = .ok (.laload, 1) := by decide +kernel
theorem d_mo_clean_122 : decode prog_8_method_8_code 122 = .ok (.lload 8, 2) := by decide +kernel
theorem d_mo_clean_124 : decode prog_8_method_8_code 124 = .ok (.aload_n 0, 1) := by decide +kernel
theorem d_mo_clean_125 : decode prog_8_method_8_code 125 = .ok (.getfield 26, 3) := by decide +kernel
theorem d_mo_clean_128 : decode prog_8_method_8_code 128 = .ok (.iload_n 1, 1) := by decide +kernel
theorem d_mo_clean_129 : decode prog_8_method_8_code 129 = .ok (.bipush 49, 2) := by decide +kernel
theorem d_mo_clean_131 : decode prog_8_method_8_code 131 = .ok (.imul, 1) := by decide +kernel
theorem d_mo_clean_132 : decode prog_8_method_8_code 132 = .ok (.iload 10, 2) := by decide +kernel
theorem d_mo_clean_134 : decode prog_8_method_8_code 134 = .ok (.iadd, 1) := by decide +kernel
theorem d_mo_clean_135 : decode prog_8_method_8_code 135 = .ok (.laload, 1) := by decide +kernel
theorem d_mo_clean_136 : decode prog_8_method_8_code 136 = .ok (.lmul, 1) := by decide +kernel
theorem d_mo_clean_137 : decode prog_8_method_8_code 137 = .ok (.lsub, 1) := by decide +kernel
theorem d_mo_clean_138 : decode prog_8_method_8_code 138 = .ok (.ldc2_w 44, 3) := by decide +kernel
theorem d_mo_clean_141 : decode prog_8_method_8_code 141 = .ok (.lrem, 1) := by decide +kernel
theorem d_mo_clean_142 : decode prog_8_method_8_code 142 = .ok (.lstore 11, 2) := by decide +kernel
theorem d_mo_clean_144 : decode prog_8_method_8_code 144 = .ok (.aload_n 0, 1) := by decide +kernel
theorem d_mo_clean_145 : decode prog_8_method_8_code 145 = .ok (.getfield 26, 3) := by decide +kernel
theorem d_mo_clean_148 : decode prog_8_method_8_code 148 = .ok (.iload 7, 2) := by decide +kernel
theorem d_mo_clean_150 : decode prog_8_method_8_code 150 = .ok (.bipush 49, 2) := by decide +kernel
theorem d_mo_clean_152 : decode prog_8_method_8_code 152 = .ok (.imul, 1) := by decide +kernel
theorem d_mo_clean_153 : decode prog_8_method_8_code 153 = .ok (.iload 10, 2) := by decide +kernel
theorem d_mo_clean_155 : decode prog_8_method_8_code 155 = .ok (.iadd, 1) := by decide +kernel
theorem d_mo_clean_156 : decode prog_8_method_8_code 156 = .ok (.lload 11, 2) := by decide +kernel
theorem d_mo_clean_158 : decode prog_8_method_8_code 158 = .ok (.lconst 0, 1) := by decide +kernel
theorem d_mo_clean_159 : decode prog_8_method_8_code 159 = .ok (.lcmp, 1) := by decide +kernel
theorem d_mo_clean_160 : decode prog_8_method_8_code 160 = .ok (.ifCond .ge 12, 3) := by decide +kernel
theorem d_mo_clean_163 : decode prog_8_method_8_code 163 = .ok (.lload 11, 2) := by decide +kernel
theorem d_mo_clean_165 : decode prog_8_method_8_code 165 = .ok (.ldc2_w 44, 3) := by decide +kernel
theorem d_mo_clean_168 : decode prog_8_method_8_code 168 = .ok (.ladd, 1) := by decide +kernel
theorem d_mo_clean_169 : decode prog_8_method_8_code 169 = .ok (.goto 5, 3) := by decide +kernel
theorem d_mo_clean_172 : decode prog_8_method_8_code 172 = .ok (.lload 11, 2) := by decide +kernel
theorem d_mo_clean_174 : decode prog_8_method_8_code 174 = .ok (.lastore, 1) := by decide +kernel
theorem d_mo_clean_175 : decode prog_8_method_8_code 175 = .ok (.iinc 10 1, 3) := by decide +kernel
theorem d_mo_clean_178 : decode prog_8_method_8_code 178 = .ok (.goto (-89), 3) := by decide +kernel
theorem d_mo_clean_181 : decode prog_8_method_8_code 181 = .ok (.iinc 7 1, 3) := by decide +kernel
theorem d_mo_clean_184 : decode prog_8_method_8_code 184 = .ok (.goto (-118), 3) := by decide +kernel
theorem d_mo_clean_187 : decode prog_8_method_8_code 187 = .ok (.return_, 1) := by decide +kernel
theorem d_mo_solve_0 : decode prog_8_method_9_code 0 = .ok (.iconst 0, 1) := by decide +kernel
theorem d_mo_solve_1 : decode prog_8_method_9_code 1 = .ok (.istore_n 3, 1) := by decide +kernel
theorem d_mo_solve_2 : decode prog_8_method_9_code 2 = .ok (.iconst 0, 1) := by decide +kernel
theorem d_mo_solve_3 : decode prog_8_method_9_code 3 = .ok (.istore 4, 2) := by decide +kernel
theorem d_mo_solve_5 : decode prog_8_method_9_code 5 = .ok (.iload 4, 2) := by decide +kernel
theorem d_mo_solve_7 : decode prog_8_method_9_code 7 = .ok (.iload_n 2, 1) := by decide +kernel
theorem d_mo_solve_8 : decode prog_8_method_9_code 8 = .ok (.if_icmp .ge 86, 3) := by decide +kernel
theorem d_mo_solve_11 : decode prog_8_method_9_code 11 = .ok (.iload_n 3, 1) := by decide +kernel
theorem d_mo_solve_12 : decode prog_8_method_9_code 12 = .ok (.istore 5, 2) := by decide +kernel
theorem d_mo_solve_14 : decode prog_8_method_9_code 14 = .ok (.iload 5, 2) := by decide +kernel
theorem d_mo_solve_16 : decode prog_8_method_9_code 16 = .ok (.iload_n 1, 1) := by decide +kernel
theorem d_mo_solve_17 : decode prog_8_method_9_code 17 = .ok (.if_icmp .ge 27, 3) := by decide +kernel
theorem d_mo_solve_20 : decode prog_8_method_9_code 20 = .ok (.aload_n 0, 1) := by decide +kernel
theorem d_mo_solve_21 : decode prog_8_method_9_code 21 = .ok (.getfield 26, 3) := by decide +kernel
theorem d_mo_solve_24 : decode prog_8_method_9_code 24 = .ok (.iload 5, 2) := by decide +kernel
theorem d_mo_solve_26 : decode prog_8_method_9_code 26 = .ok (.bipush 49, 2) := by decide +kernel
theorem d_mo_solve_28 : decode prog_8_method_9_code 28 = .ok (.imul, 1) := by decide +kernel
theorem d_mo_solve_29 : decode prog_8_method_9_code 29 = .ok (.iload 4, 2) := by decide +kernel
theorem d_mo_solve_31 : decode prog_8_method_9_code 31 = .ok (.iadd, 1) := by decide +kernel
theorem d_mo_solve_32 : decode prog_8_method_9_code 32 = .ok (.laload, 1) := by decide +kernel
theorem d_mo_solve_33 : decode prog_8_method_9_code 33 = .ok (.lconst 0, 1) := by decide +kernel
theorem d_mo_solve_34 : decode prog_8_method_9_code 34 = .ok (.lcmp, 1) := by decide +kernel
theorem d_mo_solve_35 : decode prog_8_method_9_code 35 = .ok (.ifCond .ne 9, 3) := by decide +kernel
theorem d_mo_solve_38 : decode prog_8_method_9_code 38 = .ok (.iinc 5 1, 3) := by decide +kernel
theorem d_mo_solve_41 : decode prog_8_method_9_code 41 = .ok (.goto (-27), 3) := by decide +kernel
theorem d_mo_solve_44 : decode prog_8_method_9_code 44 = .ok (.aload_n 0, 1) := by decide +kernel
theorem d_mo_solve_45 : decode prog_8_method_9_code 45 = .ok (.getfield 29, 3) := by decide +kernel
theorem d_mo_solve_48 : decode prog_8_method_9_code 48 = .ok (.iload 4, 2) := by decide +kernel
theorem d_mo_solve_50 : decode prog_8_method_9_code 50 = .ok (.iload 5, 2) := by decide +kernel
theorem d_mo_solve_52 : decode prog_8_method_9_code 52 = .ok (.iload_n 1, 1) := by decide +kernel
theorem d_mo_solve_53 : decode prog_8_method_9_code 53 = .ok (.if_icmp .ge 7, 3) := by decide +kernel
theorem d_mo_solve_56 : decode prog_8_method_9_code 56 = .ok (.iload_n 3, 1) := by decide +kernel
theorem d_mo_solve_57 : decode prog_8_method_9_code 57 = .ok (.goto 4, 3) := by decide +kernel
theorem d_mo_solve_60 : decode prog_8_method_9_code 60 = .ok (.iconst (-1), 1) := by decide +kernel
theorem d_mo_solve_61 : decode prog_8_method_9_code 61 = .ok (.iastore, 1) := by decide +kernel
theorem d_mo_solve_62 : decode prog_8_method_9_code 62 = .ok (.iload 5, 2) := by decide +kernel
theorem d_mo_solve_64 : decode prog_8_method_9_code 64 = .ok (.iload_n 1, 1) := by decide +kernel
theorem d_mo_solve_65 : decode prog_8_method_9_code 65 = .ok (.if_icmp .ge 23, 3) := by decide +kernel
theorem d_mo_solve_68 : decode prog_8_method_9_code 68 = .ok (.aload_n 0, 1) := by decide +kernel
theorem d_mo_solve_69 : decode prog_8_method_9_code 69 = .ok (.iload 5, 2) := by decide +kernel
theorem d_mo_solve_71 : decode prog_8_method_9_code 71 = .ok (.iload_n 3, 1) := by decide +kernel
theorem d_mo_solve_72 : decode prog_8_method_9_code 72 = .ok (.iload_n 2, 1) := by decide +kernel
theorem d_mo_solve_73 : decode prog_8_method_9_code 73 = .ok (.invokevirtual 56, 3) := by decide +kernel
theorem d_mo_solve_76 : decode prog_8_method_9_code 76 = .ok (.aload_n 0, 1) := by decide +kernel
theorem d_mo_solve_77 : decode prog_8_method_9_code 77 = .ok (.iload_n 3, 1) := by decide +kernel
theorem d_mo_solve_78 : decode prog_8_method_9_code 78 = .ok (.iload 4, 2) := by decide +kernel
theorem d_mo_solve_80 : decode prog_8_method_9_code 80 = .ok (.iload_n 1, 1) := by decide +kernel
theorem d_mo_solve_81 : decode prog_8_method_9_code 81 = .ok (.iload_n 2, 1) := by decide +kernel
theorem d_mo_solve_82 : decode prog_8_method_9_code 82 = .ok (.invokevirtual 60, 3) := by decide +kernel
theorem d_mo_solve_85 : decode prog_8_method_9_code 85 = .ok (.iinc 3 1, 3) := by decide +kernel
theorem d_mo_solve_88 : decode prog_8_method_9_code 88 = .ok (.iinc 4 1, 3) := by decide +kernel
theorem d_mo_solve_91 : decode prog_8_method_9_code 91 = .ok (.goto (-86), 3) := by decide +kernel
theorem d_mo_solve_94 : decode prog_8_method_9_code 94 = .ok (.iload_n 3, 1) := by decide +kernel
theorem d_mo_solve_95 : decode prog_8_method_9_code 95 = .ok (.istore 4, 2) := by decide +kernel
theorem d_mo_solve_97 : decode prog_8_method_9_code 97 = .ok (.iload 4, 2) := by decide +kernel
theorem d_mo_solve_99 : decode prog_8_method_9_code 99 = .ok (.iload_n 1, 1) := by decide +kernel
theorem d_mo_solve_100 : decode prog_8_method_9_code 100 = .ok (.if_icmp .ge 28, 3) := by decide +kernel
theorem d_mo_solve_103 : decode prog_8_method_9_code 103 = .ok (.aload_n 0, 1) := by decide +kernel
theorem d_mo_solve_104 : decode prog_8_method_9_code 104 = .ok (.getfield 26, 3) := by decide +kernel
theorem d_mo_solve_107 : decode prog_8_method_9_code 107 = .ok (.iload 4, 2) := by decide +kernel
theorem d_mo_solve_109 : decode prog_8_method_9_code 109 = .ok (.bipush 49, 2) := by decide +kernel
theorem d_mo_solve_111 : decode prog_8_method_9_code 111 = .ok (.imul, 1) := by decide +kernel
theorem d_mo_solve_112 : decode prog_8_method_9_code 112 = .ok (.iload_n 2, 1) := by decide +kernel
theorem d_mo_solve_113 : decode prog_8_method_9_code 113 = .ok (.iadd, 1) := by decide +kernel
theorem d_mo_solve_114 : decode prog_8_method_9_code 114 = .ok (.laload, 1) := by decide +kernel
theorem d_mo_solve_115 : decode prog_8_method_9_code 115 = .ok (.lconst 0, 1) := by decide +kernel
theorem d_mo_solve_116 : decode prog_8_method_9_code 116 = .ok (.lcmp, 1) := by decide +kernel
theorem d_mo_solve_117 : decode prog_8_method_9_code 117 = .ok (.ifCond .eq 5, 3) := by decide +kernel
theorem d_mo_solve_120 : decode prog_8_method_9_code 120 = .ok (.iconst 0, 1) := by decide +kernel
theorem d_mo_solve_121 : decode prog_8_method_9_code 121 = .ok (.ireturn, 1) := by decide +kernel
theorem d_mo_solve_122 : decode prog_8_method_9_code 122 = .ok (.iinc 4 1, 3) := by decide +kernel
theorem d_mo_solve_125 : decode prog_8_method_9_code 125 = .ok (.goto (-28), 3) := by decide +kernel
theorem d_mo_solve_128 : decode prog_8_method_9_code 128 = .ok (.iconst 1, 1) := by decide +kernel
theorem d_mo_solve_129 : decode prog_8_method_9_code 129 = .ok (.ireturn, 1) := by decide +kernel
theorem d_mo_settle_0 : decode prog_8_method_10_code 0 = .ok (.iconst 0, 1) := by decide +kernel
theorem d_mo_settle_1 : decode prog_8_method_10_code 1 = .ok (.istore_n 2, 1) := by decide +kernel
theorem d_mo_settle_2 : decode prog_8_method_10_code 2 = .ok (.aload_n 0, 1) := by decide +kernel
theorem d_mo_settle_3 : decode prog_8_method_10_code 3 = .ok (.iconst 0, 1) := by decide +kernel
theorem d_mo_settle_4 : decode prog_8_method_10_code 4 = .ok (.sipush 2300, 3) := by decide +kernel
theorem d_mo_settle_7 : decode prog_8_method_10_code 7 = .ok (.iload_n 1, 1) := by decide +kernel
theorem d_mo_settle_8 : decode prog_8_method_10_code 8 = .ok (.iconst 0, 1) := by decide +kernel
theorem d_mo_settle_9 : decode prog_8_method_10_code 9 = .ok (.invokevirtual 64, 3) := by decide +kernel
theorem d_mo_settle_12 : decode prog_8_method_10_code 12 = .ok (.iload_n 2, 1) := by decide +kernel
theorem d_mo_settle_13 : decode prog_8_method_10_code 13 = .ok (.iload_n 1, 1) := by decide +kernel
theorem d_mo_settle_14 : decode prog_8_method_10_code 14 = .ok (.if_icmp .ge 28, 3) := by decide +kernel
theorem d_mo_settle_17 : decode prog_8_method_10_code 17 = .ok (.aload_n 0, 1) := by decide +kernel
theorem d_mo_settle_18 : decode prog_8_method_10_code 18 = .ok (.iload_n 1, 1) := by decide +kernel
theorem d_mo_settle_19 : decode prog_8_method_10_code 19 = .ok (.iload_n 2, 1) := by decide +kernel
theorem d_mo_settle_20 : decode prog_8_method_10_code 20 = .ok (.invokevirtual 67, 3) := by decide +kernel
theorem d_mo_settle_23 : decode prog_8_method_10_code 23 = .ok (.ifCond .ne 19, 3) := by decide +kernel
theorem d_mo_settle_26 : decode prog_8_method_10_code 26 = .ok (.iinc 2 1, 3) := by decide +kernel
theorem d_mo_settle_29 : decode prog_8_method_10_code 29 = .ok (.aload_n 0, 1) := by decide +kernel
theorem d_mo_settle_30 : decode prog_8_method_10_code 30 = .ok (.iconst 0, 1) := by decide +kernel
theorem d_mo_settle_31 : decode prog_8_method_10_code 31 = .ok (.sipush 2300, 3) := by decide +kernel
theorem d_mo_settle_34 : decode prog_8_method_10_code 34 = .ok (.iload_n 1, 1) := by decide +kernel
theorem d_mo_settle_35 : decode prog_8_method_10_code 35 = .ok (.iload_n 2, 1) := by decide +kernel
theorem d_mo_settle_36 : decode prog_8_method_10_code 36 = .ok (.invokevirtual 64, 3) := by decide +kernel
theorem d_mo_settle_39 : decode prog_8_method_10_code 39 = .ok (.goto (-27), 3) := by decide +kernel
theorem d_mo_settle_42 : decode prog_8_method_10_code 42 = .ok (.iload_n 2, 1) := by decide +kernel
theorem d_mo_settle_43 : decode prog_8_method_10_code 43 = .ok (.iload_n 1, 1) := by decide +kernel
theorem d_mo_settle_44 : decode prog_8_method_10_code 44 = .ok (.if_icmp .ne 10, 3) := by decide +kernel
theorem d_mo_settle_47 : decode prog_8_method_10_code 47 = .ok (.aload_n 0, 1) := by decide +kernel
theorem d_mo_settle_48 : decode prog_8_method_10_code 48 = .ok (.iload_n 1, 1) := by decide +kernel
theorem d_mo_settle_49 : decode prog_8_method_10_code 49 = .ok (.iload_n 2, 1) := by decide +kernel
theorem d_mo_settle_50 : decode prog_8_method_10_code 50 = .ok (.invokevirtual 67, 3) := by decide +kernel
theorem d_mo_settle_53 : decode prog_8_method_10_code 53 = .ok (.pop, 1) := by decide +kernel
theorem d_mo_settle_54 : decode prog_8_method_10_code 54 = .ok (.aload_n 0, 1) := by decide +kernel
theorem d_mo_settle_55 : decode prog_8_method_10_code 55 = .ok (.getfield 13, 3) := by decide +kernel
theorem d_mo_settle_58 : decode prog_8_method_10_code 58 = .ok (.aload_n 0, 1) := by decide +kernel
theorem d_mo_settle_59 : decode prog_8_method_10_code 59 = .ok (.getfield 48, 3) := by decide +kernel
theorem d_mo_settle_62 : decode prog_8_method_10_code 62 = .ok (.iload_n 2, 1) := by decide +kernel
theorem d_mo_settle_63 : decode prog_8_method_10_code 63 = .ok (.iastore, 1) := by decide +kernel
theorem d_mo_settle_64 : decode prog_8_method_10_code 64 = .ok (.iconst 0, 1) := by decide +kernel
theorem d_mo_settle_65 : decode prog_8_method_10_code 65 = .ok (.istore_n 3, 1) := by decide +kernel
theorem d_mo_settle_66 : decode prog_8_method_10_code 66 = .ok (.iload_n 3, 1) := by decide +kernel
theorem d_mo_settle_67 : decode prog_8_method_10_code 67 = .ok (.iload_n 2, 1) := by decide +kernel
theorem d_mo_settle_68 : decode prog_8_method_10_code 68 = .ok (.if_icmp .ge 76, 3) := by decide +kernel
theorem d_mo_settle_71 : decode prog_8_method_10_code 71 = .ok (.aload_n 0, 1) := by decide +kernel
theorem d_mo_settle_72 : decode prog_8_method_10_code 72 = .ok (.getfield 17, 3) := by decide +kernel
theorem d_mo_settle_75 : decode prog_8_method_10_code 75 = .ok (.bipush 24, 2) := by decide +kernel
theorem d_mo_settle_77 : decode prog_8_method_10_code 77 = .ok (.aload_n 0, 1) := by decide +kernel
theorem d_mo_settle_78 : decode prog_8_method_10_code 78 = .ok (.getfield 48, 3) := by decide +kernel
theorem d_mo_settle_81 : decode prog_8_method_10_code 81 = .ok (.imul, 1) := by decide +kernel
theorem d_mo_settle_82 : decode prog_8_method_10_code 82 = .ok (.iload_n 3, 1) := by decide +kernel
theorem d_mo_settle_83 : decode prog_8_method_10_code 83 = .ok (.iadd, 1) := by decide +kernel
theorem d_mo_settle_84 : decode prog_8_method_10_code 84 = .ok (.aload_n 0, 1) := by decide +kernel
theorem d_mo_settle_85 : decode prog_8_method_10_code 85 = .ok (.getfield 29, 3) := by decide +kernel
theorem d_mo_settle_88 : decode prog_8_method_10_code 88 = .ok (.iload_n 3, 1) := by decide +kernel
theorem d_mo_settle_89 : decode prog_8_method_10_code 89 = .ok (.iaload, 1) := by decide +kernel
theorem d_mo_settle_90 : decode prog_8_method_10_code 90 = .ok (.ifCond .ge 7, 3) := by decide +kernel
theorem d_mo_settle_93 : decode prog_8_method_10_code 93 = .ok (.lconst 0, 1) := by decide +kernel
theorem d_mo_settle_94 : decode prog_8_method_10_code 94 = .ok (.goto 19, 3) := by decide +kernel
theorem d_mo_settle_97 : decode prog_8_method_10_code 97 = .ok (.aload_n 0, 1) := by decide +kernel
theorem d_mo_settle_98 : decode prog_8_method_10_code 98 = .ok (.getfield 26, 3) := by decide +kernel
theorem d_mo_settle_101 : decode prog_8_method_10_code 101 = .ok (.aload_n 0, 1) := by decide +kernel
theorem d_mo_settle_102 : decode prog_8_method_10_code 102 = .ok (.getfield 29, 3) := by decide +kernel
theorem d_mo_settle_105 : decode prog_8_method_10_code 105 = .ok (.iload_n 3, 1) := by decide +kernel
theorem d_mo_settle_106 : decode prog_8_method_10_code 106 = .ok (.iaload, 1) := by decide +kernel
theorem d_mo_settle_107 : decode prog_8_method_10_code 107 = .ok (.bipush 49, 2) := by decide +kernel
theorem d_mo_settle_109 : decode prog_8_method_10_code 109 = .ok (.imul, 1) := by decide +kernel
theorem d_mo_settle_110 : decode prog_8_method_10_code 110 = .ok (.iload_n 2, 1) := by decide +kernel
theorem d_mo_settle_111 : decode prog_8_method_10_code 111 = .ok (.iadd, 1) := by decide +kernel
theorem d_mo_settle_112 : decode prog_8_method_10_code 112 = .ok (.laload, 1) := by decide +kernel
theorem d_mo_settle_113 : decode prog_8_method_10_code 113 = .ok (.lastore, 1) := by decide +kernel
theorem d_mo_settle_114 : decode prog_8_method_10_code 114 = .ok (.aload_n 0, 1) := by decide +kernel
theorem d_mo_settle_115 : decode prog_8_method_10_code 115 = .ok (.getfield 20, 3) := by decide +kernel
theorem d_mo_settle_118 : decode prog_8_method_10_code 118 = .ok (.bipush 24, 2) := by decide +kernel
theorem d_mo_settle_120 : decode prog_8_method_10_code 120 = .ok (.aload_n 0, 1) := by decide +kernel
theorem d_mo_settle_121 : decode prog_8_method_10_code 121 = .ok (.getfield 48, 3) := by decide +kernel
theorem d_mo_settle_124 : decode prog_8_method_10_code 124 = .ok (.imul, 1) := by decide +kernel
theorem d_mo_settle_125 : decode prog_8_method_10_code 125 = .ok (.iload_n 3, 1) := by decide +kernel
theorem d_mo_settle_126 : decode prog_8_method_10_code 126 = .ok (.iadd, 1) := by decide +kernel
theorem d_mo_settle_127 : decode prog_8_method_10_code 127 = .ok (.aload_n 0, 1) := by decide +kernel
theorem d_mo_settle_128 : decode prog_8_method_10_code 128 = .ok (.getfield 23, 3) := by decide +kernel
theorem d_mo_settle_131 : decode prog_8_method_10_code 131 = .ok (.sipush 2300, 3) := by decide +kernel
theorem d_mo_settle_134 : decode prog_8_method_10_code 134 = .ok (.iload_n 3, 1) := by decide +kernel
theorem d_mo_settle_135 : decode prog_8_method_10_code 135 = .ok (.iadd, 1) := by decide +kernel
theorem d_mo_settle_136 : decode prog_8_method_10_code 136 = .ok (.laload, 1) := by decide +kernel
theorem d_mo_settle_137 : decode prog_8_method_10_code 137 = .ok (.lastore, 1) := by decide +kernel
theorem d_mo_settle_138 : decode prog_8_method_10_code 138 = .ok (.iinc 3 1, 3) := by decide +kernel
theorem d_mo_settle_141 : decode prog_8_method_10_code 141 = .ok (.goto (-75), 3) := by decide +kernel
theorem d_mo_settle_144 : decode prog_8_method_10_code 144 = .ok (.aload_n 0, 1) := by decide +kernel
theorem d_mo_settle_145 : decode prog_8_method_10_code 145 = .ok (.dup, 1) := by decide +kernel
theorem d_mo_settle_146 : decode prog_8_method_10_code 146 = .ok (.getfield 48, 3) := by decide +kernel
theorem d_mo_settle_149 : decode prog_8_method_10_code 149 = .ok (.iconst 1, 1) := by decide +kernel
theorem d_mo_settle_150 : decode prog_8_method_10_code 150 = .ok (.iadd, 1) := by decide +kernel
theorem d_mo_settle_151 : decode prog_8_method_10_code 151 = .ok (.putfield 48, 3) := by decide +kernel
theorem d_mo_settle_154 : decode prog_8_method_10_code 154 = .ok (.aload_n 0, 1) := by decide +kernel
theorem d_mo_settle_155 : decode prog_8_method_10_code 155 = .ok (.getfield 48, 3) := by decide +kernel
theorem d_mo_settle_158 : decode prog_8_method_10_code 158 = .ok (.iconst 1, 1) := by decide +kernel
theorem d_mo_settle_159 : decode prog_8_method_10_code 159 = .ok (.isub, 1) := by decide +kernel
theorem d_mo_settle_160 : decode prog_8_method_10_code 160 = .ok (.ireturn, 1) := by decide +kernel
theorem d_mo_give_0 : decode prog_8_method_11_code 0 = .ok (.aload_n 0, 1) := by decide +kernel
theorem d_mo_give_1 : decode prog_8_method_11_code 1 = .ok (.getfield 71, 3) := by decide +kernel
theorem d_mo_give_4 : decode prog_8_method_11_code 4 = .ok (.bipush 40, 2) := by decide +kernel
theorem d_mo_give_6 : decode prog_8_method_11_code 6 = .ok (.if_icmp .lt 5, 3) := by decide +kernel
theorem d_mo_give_9 : decode prog_8_method_11_code 9 = .ok (.iconst 0, 1) := by decide +kernel
theorem d_mo_give_10 : decode prog_8_method_11_code 10 = .ok (.ireturn, 1) := by decide +kernel
theorem d_mo_give_11 : decode prog_8_method_11_code 11 = .ok (.aload_n 0, 1) := by decide +kernel
theorem d_mo_give_12 : decode prog_8_method_11_code 12 = .ok (.getfield 7, 3) := by decide +kernel
theorem d_mo_give_15 : decode prog_8_method_11_code 15 = .ok (.aload_n 0, 1) := by decide +kernel
theorem d_mo_give_16 : decode prog_8_method_11_code 16 = .ok (.getfield 71, 3) := by decide +kernel
theorem d_mo_give_19 : decode prog_8_method_11_code 19 = .ok (.iload_n 1, 1) := by decide +kernel
theorem d_mo_give_20 : decode prog_8_method_11_code 20 = .ok (.invokestatic 74, 3) := by decide +kernel
theorem d_mo_give_23 : decode prog_8_method_11_code 23 = .ok (.lastore, 1) := by decide +kernel
theorem d_mo_give_24 : decode prog_8_method_11_code 24 = .ok (.aload_n 0, 1) := by decide +kernel
theorem d_mo_give_25 : decode prog_8_method_11_code 25 = .ok (.dup, 1) := by decide +kernel
theorem d_mo_give_26 : decode prog_8_method_11_code 26 = .ok (.getfield 71, 3) := by decide +kernel
theorem d_mo_give_29 : decode prog_8_method_11_code 29 = .ok (.iconst 1, 1) := by decide +kernel
theorem d_mo_give_30 : decode prog_8_method_11_code 30 = .ok (.iadd, 1) := by decide +kernel
theorem d_mo_give_31 : decode prog_8_method_11_code 31 = .ok (.putfield 71, 3) := by decide +kernel
theorem d_mo_give_34 : decode prog_8_method_11_code 34 = .ok (.iconst 1, 1) := by decide +kernel
theorem d_mo_give_35 : decode prog_8_method_11_code 35 = .ok (.ireturn, 1) := by decide +kernel
theorem d_mo_clear_0 : decode prog_8_method_12_code 0 = .ok (.aload_n 0, 1) := by decide +kernel
theorem d_mo_clear_1 : decode prog_8_method_12_code 1 = .ok (.getfield 71, 3) := by decide +kernel
theorem d_mo_clear_4 : decode prog_8_method_12_code 4 = .ok (.istore_n 1, 1) := by decide +kernel
theorem d_mo_clear_5 : decode prog_8_method_12_code 5 = .ok (.aload_n 0, 1) := by decide +kernel
theorem d_mo_clear_6 : decode prog_8_method_12_code 6 = .ok (.iconst 0, 1) := by decide +kernel
theorem d_mo_clear_7 : decode prog_8_method_12_code 7 = .ok (.putfield 71, 3) := by decide +kernel
theorem d_mo_clear_10 : decode prog_8_method_12_code 10 = .ok (.iload_n 1, 1) := by decide +kernel
theorem d_mo_clear_11 : decode prog_8_method_12_code 11 = .ok (.ireturn, 1) := by decide +kernel
theorem d_mo_leaf_0 : decode prog_8_method_13_code 0 = .ok (.iload_n 1, 1) := by decide +kernel
theorem d_mo_leaf_1 : decode prog_8_method_13_code 1 = .ok (.ifCond .lt 19, 3) := by decide +kernel
theorem d_mo_leaf_4 : decode prog_8_method_13_code 4 = .ok (.iload_n 1, 1) := by decide +kernel
theorem d_mo_leaf_5 : decode prog_8_method_13_code 5 = .ok (.bipush 12, 2) := by decide +kernel
theorem d_mo_leaf_7 : decode prog_8_method_13_code 7 = .ok (.if_icmp .gt 13, 3) := by decide +kernel
theorem d_mo_leaf_10 : decode prog_8_method_13_code 10 = .ok (.aload_n 0, 1) := by decide +kernel
theorem d_mo_leaf_11 : decode prog_8_method_13_code 11 = .ok (.getfield 71, 3) := by decide +kernel
theorem d_mo_leaf_14 : decode prog_8_method_13_code 14 = .ok (.iconst 2, 1) := by decide +kernel
theorem d_mo_leaf_15 : decode prog_8_method_13_code 15 = .ok (.iload_n 1, 1) := by decide +kernel
theorem d_mo_leaf_16 : decode prog_8_method_13_code 16 = .ok (.imul, 1) := by decide +kernel
theorem d_mo_leaf_17 : decode prog_8_method_13_code 17 = .ok (.if_icmp .ge 5, 3) := by decide +kernel
theorem d_mo_leaf_20 : decode prog_8_method_13_code 20 = .ok (.iconst (-1), 1) := by decide +kernel
theorem d_mo_leaf_21 : decode prog_8_method_13_code 21 = .ok (.ireturn, 1) := by decide +kernel
theorem d_mo_leaf_22 : decode prog_8_method_13_code 22 = .ok (.aload_n 0, 1) := by decide +kernel
theorem d_mo_leaf_23 : decode prog_8_method_13_code 23 = .ok (.getfield 48, 3) := by decide +kernel
theorem d_mo_leaf_26 : decode prog_8_method_13_code 26 = .ok (.bipush 20, 2) := by decide +kernel
theorem d_mo_leaf_28 : decode prog_8_method_13_code 28 = .ok (.if_icmp .lt 6, 3) := by decide +kernel
theorem d_mo_leaf_31 : decode prog_8_method_13_code 31 = .ok (.bipush (-2), 2) := by decide +kernel
theorem d_mo_leaf_33 : decode prog_8_method_13_code 33 = .ok (.ireturn, 1) := by decide +kernel
theorem d_mo_leaf_34 : decode prog_8_method_13_code 34 = .ok (.iconst 0, 1) := by decide +kernel
theorem d_mo_leaf_35 : decode prog_8_method_13_code 35 = .ok (.istore_n 2, 1) := by decide +kernel
theorem d_mo_leaf_36 : decode prog_8_method_13_code 36 = .ok (.iload_n 2, 1) := by decide +kernel
theorem d_mo_leaf_37 : decode prog_8_method_13_code 37 = .ok (.iconst 2, 1) := by decide +kernel
theorem d_mo_leaf_38 : decode prog_8_method_13_code 38 = .ok (.iload_n 1, 1) := by decide +kernel
theorem d_mo_leaf_39 : decode prog_8_method_13_code 39 = .ok (.imul, 1) := by decide +kernel
theorem d_mo_leaf_40 : decode prog_8_method_13_code 40 = .ok (.if_icmp .lt 13, 3) := by decide +kernel
theorem d_mo_leaf_43 : decode prog_8_method_13_code 43 = .ok (.iload_n 2, 1) := by decide +kernel
theorem d_mo_leaf_44 : decode prog_8_method_13_code 44 = .ok (.aload_n 0, 1) := by decide +kernel
theorem d_mo_leaf_45 : decode prog_8_method_13_code 45 = .ok (.getfield 71, 3) := by decide +kernel
theorem d_mo_leaf_48 : decode prog_8_method_13_code 48 = .ok (.iload_n 1, 1) := by decide +kernel
theorem d_mo_leaf_49 : decode prog_8_method_13_code 49 = .ok (.isub, 1) := by decide +kernel
theorem d_mo_leaf_50 : decode prog_8_method_13_code 50 = .ok (.if_icmp .ge 116, 3) := by decide +kernel
theorem d_mo_leaf_53 : decode prog_8_method_13_code 53 = .ok (.lconst 0, 1) := by decide +kernel
theorem d_mo_leaf_54 : decode prog_8_method_13_code 54 = .ok (.lstore_n 3, 1) := by decide +kernel
theorem d_mo_leaf_55 : decode prog_8_method_13_code 55 = .ok (.iconst 1, 1) := by decide +kernel
theorem d_mo_leaf_56 : decode prog_8_method_13_code 56 = .ok (.istore 5, 2) := by decide +kernel
theorem d_mo_leaf_58 : decode prog_8_method_13_code 58 = .ok (.iload 5, 2) := by decide +kernel
theorem d_mo_leaf_60 : decode prog_8_method_13_code 60 = .ok (.iload_n 1, 1) := by decide +kernel
theorem d_mo_leaf_61 : decode prog_8_method_13_code 61 = .ok (.if_icmp .gt 44, 3) := by decide +kernel
theorem d_mo_leaf_64 : decode prog_8_method_13_code 64 = .ok (.iload_n 2, 1) := by decide +kernel
theorem d_mo_leaf_65 : decode prog_8_method_13_code 65 = .ok (.iload_n 1, 1) := by decide +kernel
theorem d_mo_leaf_66 : decode prog_8_method_13_code 66 = .ok (.if_icmp .lt 39, 3) := by decide +kernel
theorem d_mo_leaf_69 : decode prog_8_method_13_code 69 = .ok (.lload_n 3, 1) := by decide +kernel
theorem d_mo_leaf_70 : decode prog_8_method_13_code 70 = .ok (.aload_n 0, 1) := by decide +kernel
theorem d_mo_leaf_71 : decode prog_8_method_13_code 71 = .ok (.getfield 7, 3) := by decide +kernel
theorem d_mo_leaf_74 : decode prog_8_method_13_code 74 = .ok (.iload 5, 2) := by decide +kernel
theorem d_mo_leaf_76 : decode prog_8_method_13_code 76 = .ok (.iconst 1, 1) := by decide +kernel
theorem d_mo_leaf_77 : decode prog_8_method_13_code 77 = .ok (.isub, 1) := by decide +kernel
theorem d_mo_leaf_78 : decode prog_8_method_13_code 78 = .ok (.laload, 1) := by decide +kernel
theorem d_mo_leaf_79 : decode prog_8_method_13_code 79 = .ok (.aload_n 0, 1) := by decide +kernel
theorem d_mo_leaf_80 : decode prog_8_method_13_code 80 = .ok (.getfield 23, 3) := by decide +kernel
theorem d_mo_leaf_83 : decode prog_8_method_13_code 83 = .ok (.sipush 2300, 3) := by decide +kernel
theorem d_mo_leaf_86 : decode prog_8_method_13_code 86 = .ok (.iload_n 2, 1) := by decide +kernel
theorem d_mo_leaf_87 : decode prog_8_method_13_code 87 = .ok (.iadd, 1) := by decide +kernel
theorem d_mo_leaf_88 : decode prog_8_method_13_code 88 = .ok (.iload 5, 2) := by decide +kernel
theorem d_mo_leaf_90 : decode prog_8_method_13_code 90 = .ok (.isub, 1) := by decide +kernel
theorem d_mo_leaf_91 : decode prog_8_method_13_code 91 = .ok (.laload, 1) := by decide +kernel
theorem d_mo_leaf_92 : decode prog_8_method_13_code 92 = .ok (.lmul, 1) := by decide +kernel
theorem d_mo_leaf_93 : decode prog_8_method_13_code 93 = .ok (.ladd, 1) := by decide +kernel
theorem d_mo_leaf_94 : decode prog_8_method_13_code 94 = .ok (.ldc2_w 44, 3) := by decide +kernel
theorem d_mo_leaf_97 : decode prog_8_method_13_code 97 = .ok (.lrem, 1) := by decide +kernel
theorem d_mo_leaf_98 : decode prog_8_method_13_code 98 = .ok (.lstore_n 3, 1) := by decide +kernel
theorem d_mo_leaf_99 : decode prog_8_method_13_code 99 = .ok (.iinc 5 1, 3) := by decide +kernel
theorem d_mo_leaf_102 : decode prog_8_method_13_code 102 = .ok (.goto (-44), 3) := by decide +kernel
theorem d_mo_leaf_105 : decode prog_8_method_13_code 105 = .ok (.iload_n 2, 1) := by decide +kernel
theorem d_mo_leaf_106 : decode prog_8_method_13_code 106 = .ok (.iload_n 1, 1) := by decide +kernel
theorem d_mo_leaf_107 : decode prog_8_method_13_code 107 = .ok (.if_icmp .ge 14, 3) := by decide +kernel
theorem d_mo_leaf_110 : decode prog_8_method_13_code 110 = .ok (.aload_n 0, 1) := by decide +kernel
theorem d_mo_leaf_111 : decode prog_8_method_13_code 111 = .ok (.getfield 7, 3) := by decide +kernel
theorem d_mo_leaf_114 : decode prog_8_method_13_code 114 = .ok (.iload_n 1, 1) := by decide +kernel
theorem d_mo_leaf_115 : decode prog_8_method_13_code 115 = .ok (.iload_n 2, 1) := by decide +kernel
theorem d_mo_leaf_116 : decode prog_8_method_13_code 116 = .ok (.iadd, 1) := by decide +kernel
theorem d_mo_leaf_117 : decode prog_8_method_13_code 117 = .ok (.laload, 1) := by decide +kernel
theorem d_mo_leaf_118 : decode prog_8_method_13_code 118 = .ok (.goto 4, 3) := by decide +kernel
theorem d_mo_leaf_121 : decode prog_8_method_13_code 121 = .ok (.lload_n 3, 1) := by decide +kernel
theorem d_mo_leaf_122 : decode prog_8_method_13_code 122 = .ok (.lstore_n 3, 1) := by decide +kernel
theorem d_mo_leaf_123 : decode prog_8_method_13_code 123 = .ok (.iload_n 2, 1) := by decide +kernel
theorem d_mo_leaf_124 : decode prog_8_method_13_code 124 = .ok (.aload_n 0, 1) := by decide +kernel
theorem d_mo_leaf_125 : decode prog_8_method_13_code 125 = .ok (.getfield 71, 3) := by decide +kernel
theorem d_mo_leaf_128 : decode prog_8_method_13_code 128 = .ok (.iload_n 1, 1) := by decide +kernel
theorem d_mo_leaf_129 : decode prog_8_method_13_code 129 = .ok (.isub, 1) := by decide +kernel
theorem d_mo_leaf_130 : decode prog_8_method_13_code 130 = .ok (.if_icmp .ge 19, 3) := by decide +kernel
theorem d_mo_leaf_133 : decode prog_8_method_13_code 133 = .ok (.aload_n 0, 1) := by decide +kernel
theorem d_mo_leaf_134 : decode prog_8_method_13_code 134 = .ok (.getfield 7, 3) := by decide +kernel
theorem d_mo_leaf_137 : decode prog_8_method_13_code 137 = .ok (.iload_n 1, 1) := by decide +kernel
theorem d_mo_leaf_138 : decode prog_8_method_13_code 138 = .ok (.iload_n 2, 1) := by decide +kernel
theorem d_mo_leaf_139 : decode prog_8_method_13_code 139 = .ok (.iadd, 1) := by decide +kernel
theorem d_mo_leaf_140 : decode prog_8_method_13_code 140 = .ok (.laload, 1) := by decide +kernel
theorem d_mo_leaf_141 : decode prog_8_method_13_code 141 = .ok (.lload_n 3, 1) := by decide +kernel
theorem d_mo_leaf_142 : decode prog_8_method_13_code 142 = .ok (.lcmp, 1) := by decide +kernel
theorem d_mo_leaf_143 : decode prog_8_method_13_code 143 = .ok (.ifCond .eq 6, 3) := by decide +kernel
theorem d_mo_leaf_146 : decode prog_8_method_13_code 146 = .ok (.bipush (-4), 2) := by decide +kernel
theorem d_mo_leaf_148 : decode prog_8_method_13_code 148 = .ok (.ireturn, 1) := by decide +kernel
theorem d_mo_leaf_149 : decode prog_8_method_13_code 149 = .ok (.aload_n 0, 1) := by decide +kernel
theorem d_mo_leaf_150 : decode prog_8_method_13_code 150 = .ok (.getfield 23, 3) := by decide +kernel
theorem d_mo_leaf_153 : decode prog_8_method_13_code 153 = .ok (.sipush 2300, 3) := by decide +kernel
theorem d_mo_leaf_156 : decode prog_8_method_13_code 156 = .ok (.iload_n 2, 1) := by decide +kernel
theorem d_mo_leaf_157 : decode prog_8_method_13_code 157 = .ok (.iadd, 1) := by decide +kernel
theorem d_mo_leaf_158 : decode prog_8_method_13_code 158 = .ok (.lload_n 3, 1) := by decide +kernel
theorem d_mo_leaf_159 : decode prog_8_method_13_code 159 = .ok (.lastore, 1) := by decide +kernel
theorem d_mo_leaf_160 : decode prog_8_method_13_code 160 = .ok (.iinc 2 1, 3) := by decide +kernel
theorem d_mo_leaf_163 : decode prog_8_method_13_code 163 = .ok (.goto (-127), 3) := by decide +kernel
theorem d_mo_leaf_166 : decode prog_8_method_13_code 166 = .ok (.aload_n 0, 1) := by decide +kernel
theorem d_mo_leaf_167 : decode prog_8_method_13_code 167 = .ok (.iconst 0, 1) := by decide +kernel
theorem d_mo_leaf_168 : decode prog_8_method_13_code 168 = .ok (.putfield 71, 3) := by decide +kernel
theorem d_mo_leaf_171 : decode prog_8_method_13_code 171 = .ok (.aload_n 0, 1) := by decide +kernel
theorem d_mo_leaf_172 : decode prog_8_method_13_code 172 = .ok (.iload_n 1, 1) := by decide +kernel
theorem d_mo_leaf_173 : decode prog_8_method_13_code 173 = .ok (.invokevirtual 78, 3) := by decide +kernel
theorem d_mo_leaf_176 : decode prog_8_method_13_code 176 = .ok (.ireturn, 1) := by decide +kernel
theorem d_mo_refusal_0 : decode prog_8_method_14_code 0 = .ok (.iload_n 1, 1) := by decide +kernel
theorem d_mo_refusal_1 : decode prog_8_method_14_code 1 = .ok (.ifCond .ne 7, 3) := by decide +kernel
theorem d_mo_refusal_4 : decode prog_8_method_14_code 4 = .ok (.iconst (-1), 1) := by decide +kernel
theorem d_mo_refusal_5 : decode prog_8_method_14_code 5 = .ok (.goto 29, 3) := by decide +kernel
theorem d_mo_refusal_8 : decode prog_8_method_14_code 8 = .ok (.aload_n 0, 1) := by decide +kernel
theorem d_mo_refusal_9 : decode prog_8_method_14_code 9 = .ok (.getfield 48, 3) := by decide +kernel
theorem d_mo_refusal_12 : decode prog_8_method_14_code 12 = .ok (.bipush 20, 2) := by decide +kernel
theorem d_mo_refusal_14 : decode prog_8_method_14_code 14 = .ok (.if_icmp .lt 8, 3) := by decide +kernel
theorem d_mo_refusal_17 : decode prog_8_method_14_code 17 = .ok (.bipush (-2), 2) := by decide +kernel
theorem d_mo_refusal_19 : decode prog_8_method_14_code 19 = .ok (.goto 15, 3) := by decide +kernel
theorem d_mo_refusal_22 : decode prog_8_method_14_code 22 = .ok (.iload_n 2, 1) := by decide +kernel
theorem d_mo_refusal_23 : decode prog_8_method_14_code 23 = .ok (.bipush 24, 2) := by decide +kernel
theorem d_mo_refusal_25 : decode prog_8_method_14_code 25 = .ok (.if_icmp .le 8, 3) := by decide +kernel
theorem d_mo_refusal_28 : decode prog_8_method_14_code 28 = .ok (.bipush (-3), 2) := by decide +kernel
theorem d_mo_refusal_30 : decode prog_8_method_14_code 30 = .ok (.goto 4, 3) := by decide +kernel
theorem d_mo_refusal_33 : decode prog_8_method_14_code 33 = .ok (.iconst 0, 1) := by decide +kernel
theorem d_mo_refusal_34 : decode prog_8_method_14_code 34 = .ok (.ireturn, 1) := by decide +kernel
theorem d_mo_orderOf_0 : decode prog_8_method_15_code 0 = .ok (.aload_n 0, 1) := by decide +kernel
theorem d_mo_orderOf_1 : decode prog_8_method_15_code 1 = .ok (.iload_n 1, 1) := by decide +kernel
theorem d_mo_orderOf_2 : decode prog_8_method_15_code 2 = .ok (.invokevirtual 82, 3) := by decide +kernel
theorem d_mo_orderOf_5 : decode prog_8_method_15_code 5 = .ok (.ifCond .eq 12, 3) := by decide +kernel
theorem d_mo_orderOf_8 : decode prog_8_method_15_code 8 = .ok (.aload_n 0, 1) := by decide +kernel
theorem d_mo_orderOf_9 : decode prog_8_method_15_code 9 = .ok (.getfield 13, 3) := by decide +kernel
theorem d_mo_orderOf_12 : decode prog_8_method_15_code 12 = .ok (.iload_n 1, 1) := by decide +kernel
theorem d_mo_orderOf_13 : decode prog_8_method_15_code 13 = .ok (.iaload, 1) := by decide +kernel
theorem d_mo_orderOf_14 : decode prog_8_method_15_code 14 = .ok (.goto 4, 3) := by decide +kernel
theorem d_mo_orderOf_17 : decode prog_8_method_15_code 17 = .ok (.iconst 0, 1) := by decide +kernel
theorem d_mo_orderOf_18 : decode prog_8_method_15_code 18 = .ok (.ireturn, 1) := by decide +kernel
theorem d_mo_combine_0 : decode prog_8_method_16_code 0 = .ok (.aload_n 0, 1) := by decide +kernel
theorem d_mo_combine_1 : decode prog_8_method_16_code 1 = .ok (.iload_n 1, 1) := by decide +kernel
theorem d_mo_combine_2 : decode prog_8_method_16_code 2 = .ok (.invokevirtual 86, 3) := by decide +kernel
theorem d_mo_combine_5 : decode prog_8_method_16_code 5 = .ok (.aload_n 0, 1) := by decide +kernel
theorem d_mo_combine_6 : decode prog_8_method_16_code 6 = .ok (.iload_n 2, 1) := by decide +kernel
theorem d_mo_combine_7 : decode prog_8_method_16_code 7 = .ok (.invokevirtual 86, 3) := by decide +kernel
theorem d_mo_combine_10 : decode prog_8_method_16_code 10 = .ok (.iadd, 1) := by decide +kernel
theorem d_mo_combine_11 : decode prog_8_method_16_code 11 = .ok (.istore 5, 2) := by decide +kernel
theorem d_mo_combine_13 : decode prog_8_method_16_code 13 = .ok (.aload_n 0, 1) := by decide +kernel
theorem d_mo_combine_14 : decode prog_8_method_16_code 14 = .ok (.aload_n 0, 1) := by decide +kernel
theorem d_mo_combine_15 : decode prog_8_method_16_code 15 = .ok (.iload_n 1, 1) := by decide +kernel
theorem d_mo_combine_16 : decode prog_8_method_16_code 16 = .ok (.invokevirtual 82, 3) := by decide +kernel
theorem d_mo_combine_19 : decode prog_8_method_16_code 19 = .ok (.ifCond .eq 15, 3) := by decide +kernel
theorem d_mo_combine_22 : decode prog_8_method_16_code 22 = .ok (.aload_n 0, 1) := by decide +kernel
theorem d_mo_combine_23 : decode prog_8_method_16_code 23 = .ok (.iload_n 2, 1) := by decide +kernel
theorem d_mo_combine_24 : decode prog_8_method_16_code 24 = .ok (.invokevirtual 82, 3) := by decide +kernel
theorem d_mo_combine_27 : decode prog_8_method_16_code 27 = .ok (.ifCond .eq 7, 3) := by decide +kernel
theorem d_mo_combine_30 : decode prog_8_method_16_code 30 = .ok (.iconst 1, 1) := by decide +kernel
theorem d_mo_combine_31 : decode prog_8_method_16_code 31 = .ok (.goto 4, 3) := by decide +kernel
theorem d_mo_combine_34 : decode prog_8_method_16_code 34 = .ok (.iconst 0, 1) := by decide +kernel
theorem d_mo_combine_35 : decode prog_8_method_16_code 35 = .ok (.iload 5, 2) := by decide +kernel
theorem d_mo_combine_37 : decode prog_8_method_16_code 37 = .ok (.invokevirtual 89, 3) := by decide +kernel
theorem d_mo_combine_40 : decode prog_8_method_16_code 40 = .ok (.istore 6, 2) := by decide +kernel
theorem d_mo_combine_42 : decode prog_8_method_16_code 42 = .ok (.iload 6, 2) := by decide +kernel
theorem d_mo_combine_44 : decode prog_8_method_16_code 44 = .ok (.ifCond .ge 6, 3) := by decide +kernel
theorem d_mo_combine_47 : decode prog_8_method_16_code 47 = .ok (.iload 6, 2) := by decide +kernel
theorem d_mo_combine_49 : decode prog_8_method_16_code 49 = .ok (.ireturn, 1) := by decide +kernel
theorem d_mo_combine_50 : decode prog_8_method_16_code 50 = .ok (.aload_n 0, 1) := by decide +kernel
theorem d_mo_combine_51 : decode prog_8_method_16_code 51 = .ok (.iconst 0, 1) := by decide +kernel
theorem d_mo_combine_52 : decode prog_8_method_16_code 52 = .ok (.iload_n 1, 1) := by decide +kernel
theorem d_mo_combine_53 : decode prog_8_method_16_code 53 = .ok (.iconst 2, 1) := by decide +kernel
theorem d_mo_combine_54 : decode prog_8_method_16_code 54 = .ok (.iload 5, 2) := by decide +kernel
theorem d_mo_combine_56 : decode prog_8_method_16_code 56 = .ok (.imul, 1) := by decide +kernel
theorem d_mo_combine_57 : decode prog_8_method_16_code 57 = .ok (.invokevirtual 93, 3) := by decide +kernel
theorem d_mo_combine_60 : decode prog_8_method_16_code 60 = .ok (.aload_n 0, 1) := by decide +kernel
theorem d_mo_combine_61 : decode prog_8_method_16_code 61 = .ok (.sipush 2200, 3) := by decide +kernel
theorem d_mo_combine_64 : decode prog_8_method_16_code 64 = .ok (.iload_n 2, 1) := by decide +kernel
theorem d_mo_combine_65 : decode prog_8_method_16_code 65 = .ok (.iconst 2, 1) := by decide +kernel
theorem d_mo_combine_66 : decode prog_8_method_16_code 66 = .ok (.iload 5, 2) := by decide +kernel
theorem d_mo_combine_68 : decode prog_8_method_16_code 68 = .ok (.imul, 1) := by decide +kernel
theorem d_mo_combine_69 : decode prog_8_method_16_code 69 = .ok (.invokevirtual 93, 3) := by decide +kernel
theorem d_mo_combine_72 : decode prog_8_method_16_code 72 = .ok (.iload_n 3, 1) := by decide +kernel
theorem d_mo_combine_73 : decode prog_8_method_16_code 73 = .ok (.invokestatic 74, 3) := by decide +kernel
theorem d_mo_combine_76 : decode prog_8_method_16_code 76 = .ok (.lstore 7, 2) := by decide +kernel
theorem d_mo_combine_78 : decode prog_8_method_16_code 78 = .ok (.iload 4, 2) := by decide +kernel
theorem d_mo_combine_80 : decode prog_8_method_16_code 80 = .ok (.invokestatic 74, 3) := by decide +kernel
theorem d_mo_combine_83 : decode prog_8_method_16_code 83 = .ok (.lstore 9, 2) := by decide +kernel
theorem d_mo_combine_85 : decode prog_8_method_16_code 85 = .ok (.iconst 0, 1) := by decide +kernel
theorem d_mo_combine_86 : decode prog_8_method_16_code 86 = .ok (.istore 11, 2) := by decide +kernel
theorem d_mo_combine_88 : decode prog_8_method_16_code 88 = .ok (.iload 11, 2) := by decide +kernel
theorem d_mo_combine_90 : decode prog_8_method_16_code 90 = .ok (.iconst 2, 1) := by decide +kernel
theorem d_mo_combine_91 : decode prog_8_method_16_code 91 = .ok (.iload 5, 2) := by decide +kernel
theorem d_mo_combine_93 : decode prog_8_method_16_code 93 = .ok (.imul, 1) := by decide +kernel
theorem d_mo_combine_94 : decode prog_8_method_16_code 94 = .ok (.if_icmp .ge 59, 3) := by decide +kernel
theorem d_mo_combine_97 : decode prog_8_method_16_code 97 = .ok (.aload_n 0, 1) := by decide +kernel
theorem d_mo_combine_98 : decode prog_8_method_16_code 98 = .ok (.getfield 23, 3) := by decide +kernel
theorem d_mo_combine_101 : decode prog_8_method_16_code 101 = .ok (.sipush 2300, 3) := by decide +kernel
theorem d_mo_combine_104 : decode prog_8_method_16_code 104 = .ok (.iload 11, 2) := by decide +kernel
theorem d_mo_combine_106 : decode prog_8_method_16_code 106 = .ok (.iadd, 1) := by decide +kernel
theorem d_mo_combine_107 : decode prog_8_method_16_code 107 = .ok (.lload 7, 2) := by decide +kernel
theorem d_mo_combine_109 : decode prog_8_method_16_code 109 = .ok (.aload_n 0, 1) := by decide +kernel
theorem d_mo_combine_110 : decode prog_8_method_16_code 110 = .ok (.getfield 23, 3) := by decide +kernel
theorem d_mo_combine_113 : decode prog_8_method_16_code 113 = .ok (.iconst 0, 1) := by decide +kernel
theorem d_mo_combine_114 : decode prog_8_method_16_code 114 = .ok (.iload 11, 2) := by decide +kernel
theorem d_mo_combine_116 : decode prog_8_method_16_code 116 = .ok (.iadd, 1) := by decide +kernel
theorem d_mo_combine_117 : decode prog_8_method_16_code 117 = .ok (.laload, 1) := by decide +kernel
theorem d_mo_combine_118 : decode prog_8_method_16_code 118 = .ok (.lmul, 1) := by decide +kernel
theorem d_mo_combine_119 : decode prog_8_method_16_code 119 = .ok (.ldc2_w 44, 3) := by decide +kernel
theorem d_mo_combine_122 : decode prog_8_method_16_code 122 = .ok (.lrem, 1) := by decide +kernel
theorem d_mo_combine_123 : decode prog_8_method_16_code 123 = .ok (.lload 9, 2) := by decide +kernel
theorem d_mo_combine_125 : decode prog_8_method_16_code 125 = .ok (.aload_n 0, 1) := by decide +kernel
theorem d_mo_combine_126 : decode prog_8_method_16_code 126 = .ok (.getfield 23, 3) := by decide +kernel
theorem d_mo_combine_129 : decode prog_8_method_16_code 129 = .ok (.sipush 2200, 3) := by decide +kernel
theorem d_mo_combine_132 : decode prog_8_method_16_code 132 = .ok (.iload 11, 2) := by decide +kernel
theorem d_mo_combine_134 : decode prog_8_method_16_code 134 = .ok (.iadd, 1) := by decide +kernel
theorem d_mo_combine_135 : decode prog_8_method_16_code 135 = .ok (.laload, 1) := by decide +kernel
theorem d_mo_combine_136 : decode prog_8_method_16_code 136 = .ok (.lmul, 1) := by decide +kernel
theorem d_mo_combine_137 : decode prog_8_method_16_code 137 = .ok (.ldc2_w 44, 3) := by decide +kernel
theorem d_mo_combine_140 : decode prog_8_method_16_code 140 = .ok (.lrem, 1) := by decide +kernel
theorem d_mo_combine_141 : decode prog_8_method_16_code 141 = .ok (.ladd, 1) := by decide +kernel
theorem d_mo_combine_142 : decode prog_8_method_16_code 142 = .ok (.ldc2_w 44, 3) := by decide +kernel
theorem d_mo_combine_145 : decode prog_8_method_16_code 145 = .ok (.lrem, 1) := by decide +kernel
theorem d_mo_combine_146 : decode prog_8_method_16_code 146 = .ok (.lastore, 1) := by decide +kernel
theorem d_mo_combine_147 : decode prog_8_method_16_code 147 = .ok (.iinc 11 1, 3) := by decide +kernel
theorem d_mo_combine_150 : decode prog_8_method_16_code 150 = .ok (.goto (-62), 3) := by decide +kernel
theorem d_mo_combine_153 : decode prog_8_method_16_code 153 = .ok (.aload_n 0, 1) := by decide +kernel
theorem d_mo_combine_154 : decode prog_8_method_16_code 154 = .ok (.iload 5, 2) := by decide +kernel
theorem d_mo_combine_156 : decode prog_8_method_16_code 156 = .ok (.invokevirtual 78, 3) := by decide +kernel
theorem d_mo_combine_159 : decode prog_8_method_16_code 159 = .ok (.ireturn, 1) := by decide +kernel
theorem d_mo_product_0 : decode prog_8_method_17_code 0 = .ok (.aload_n 0, 1) := by decide +kernel
theorem d_mo_product_1 : decode prog_8_method_17_code 1 = .ok (.iload_n 1, 1) := by decide +kernel
theorem d_mo_product_2 : decode prog_8_method_17_code 2 = .ok (.invokevirtual 86, 3) := by decide +kernel
theorem d_mo_product_5 : decode prog_8_method_17_code 5 = .ok (.aload_n 0, 1) := by decide +kernel
theorem d_mo_product_6 : decode prog_8_method_17_code 6 = .ok (.iload_n 2, 1) := by decide +kernel
theorem d_mo_product_7 : decode prog_8_method_17_code 7 = .ok (.invokevirtual 86, 3) := by decide +kernel
theorem d_mo_product_10 : decode prog_8_method_17_code 10 = .ok (.iadd, 1) := by decide +kernel
theorem d_mo_product_11 : decode prog_8_method_17_code 11 = .ok (.istore_n 3, 1) := by decide +kernel
theorem d_mo_product_12 : decode prog_8_method_17_code 12 = .ok (.aload_n 0, 1) := by decide +kernel
theorem d_mo_product_13 : decode prog_8_method_17_code 13 = .ok (.aload_n 0, 1) := by decide +kernel
theorem d_mo_product_14 : decode prog_8_method_17_code 14 = .ok (.iload_n 1, 1) := by decide +kernel
theorem d_mo_product_15 : decode prog_8_method_17_code 15 = .ok (.invokevirtual 82, 3) := by decide +kernel
theorem d_mo_product_18 : decode prog_8_method_17_code 18 = .ok (.ifCond .eq 15, 3) := by decide +kernel
theorem d_mo_product_21 : decode prog_8_method_17_code 21 = .ok (.aload_n 0, 1) := by decide +kernel
theorem d_mo_product_22 : decode prog_8_method_17_code 22 = .ok (.iload_n 2, 1) := by decide +kernel
theorem d_mo_product_23 : decode prog_8_method_17_code 23 = .ok (.invokevirtual 82, 3) := by decide +kernel
theorem d_mo_product_26 : decode prog_8_method_17_code 26 = .ok (.ifCond .eq 7, 3) := by decide +kernel
theorem d_mo_product_29 : decode prog_8_method_17_code 29 = .ok (.iconst 1, 1) := by decide +kernel
theorem d_mo_product_30 : decode prog_8_method_17_code 30 = .ok (.goto 4, 3) := by decide +kernel
theorem d_mo_product_33 : decode prog_8_method_17_code 33 = .ok (.iconst 0, 1) := by decide +kernel
theorem d_mo_product_34 : decode prog_8_method_17_code 34 = .ok (.iload_n 3, 1) := by decide +kernel
theorem d_mo_product_35 : decode prog_8_method_17_code 35 = .ok (.invokevirtual 89, 3) := by decide +kernel
theorem d_mo_product_38 : decode prog_8_method_17_code 38 = .ok (.istore 4, 2) := by decide +kernel
theorem d_mo_product_40 : decode prog_8_method_17_code 40 = .ok (.iload 4, 2) := by decide +kernel
theorem d_mo_product_42 : decode prog_8_method_17_code 42 = .ok (.ifCond .ge 6, 3) := by decide +kernel
theorem d_mo_product_45 : decode prog_8_method_17_code 45 = .ok (.iload 4, 2) := by decide +kernel
theorem d_mo_product_47 : decode prog_8_method_17_code 47 = .ok (.ireturn, 1) := by decide +kernel
theorem d_mo_product_48 : decode prog_8_method_17_code 48 = .ok (.aload_n 0, 1) := by decide +kernel
theorem d_mo_product_49 : decode prog_8_method_17_code 49 = .ok (.iconst 0, 1) := by decide +kernel
theorem d_mo_product_50 : decode prog_8_method_17_code 50 = .ok (.iload_n 1, 1) := by decide +kernel
theorem d_mo_product_51 : decode prog_8_method_17_code 51 = .ok (.iconst 2, 1) := by decide +kernel
theorem d_mo_product_52 : decode prog_8_method_17_code 52 = .ok (.iload_n 3, 1) := by decide +kernel
theorem d_mo_product_53 : decode prog_8_method_17_code 53 = .ok (.imul, 1) := by decide +kernel
theorem d_mo_product_54 : decode prog_8_method_17_code 54 = .ok (.invokevirtual 93, 3) := by decide +kernel
theorem d_mo_product_57 : decode prog_8_method_17_code 57 = .ok (.aload_n 0, 1) := by decide +kernel
theorem d_mo_product_58 : decode prog_8_method_17_code 58 = .ok (.sipush 2200, 3) := by decide +kernel
theorem d_mo_product_61 : decode prog_8_method_17_code 61 = .ok (.iload_n 2, 1) := by decide +kernel
theorem d_mo_product_62 : decode prog_8_method_17_code 62 = .ok (.iconst 2, 1) := by decide +kernel
theorem d_mo_product_63 : decode prog_8_method_17_code 63 = .ok (.iload_n 3, 1) := by decide +kernel
theorem d_mo_product_64 : decode prog_8_method_17_code 64 = .ok (.imul, 1) := by decide +kernel
theorem d_mo_product_65 : decode prog_8_method_17_code 65 = .ok (.invokevirtual 93, 3) := by decide +kernel
theorem d_mo_product_68 : decode prog_8_method_17_code 68 = .ok (.iconst 0, 1) := by decide +kernel
theorem d_mo_product_69 : decode prog_8_method_17_code 69 = .ok (.istore 5, 2) := by decide +kernel
theorem d_mo_product_71 : decode prog_8_method_17_code 71 = .ok (.iload 5, 2) := by decide +kernel
theorem d_mo_product_73 : decode prog_8_method_17_code 73 = .ok (.iconst 2, 1) := by decide +kernel
theorem d_mo_product_74 : decode prog_8_method_17_code 74 = .ok (.iload_n 3, 1) := by decide +kernel
theorem d_mo_product_75 : decode prog_8_method_17_code 75 = .ok (.imul, 1) := by decide +kernel
theorem d_mo_product_76 : decode prog_8_method_17_code 76 = .ok (.if_icmp .ge 74, 3) := by decide +kernel
theorem d_mo_product_79 : decode prog_8_method_17_code 79 = .ok (.lconst 0, 1) := by decide +kernel
theorem d_mo_product_80 : decode prog_8_method_17_code 80 = .ok (.lstore 6, 2) := by decide +kernel
theorem d_mo_product_82 : decode prog_8_method_17_code 82 = .ok (.iconst 0, 1) := by decide +kernel
theorem d_mo_product_83 : decode prog_8_method_17_code 83 = .ok (.istore 8, 2) := by decide +kernel
theorem d_mo_product_85 : decode prog_8_method_17_code 85 = .ok (.iload 8, 2) := by decide +kernel
theorem d_mo_product_87 : decode prog_8_method_17_code 87 = .ok (.iload 5, 2) := by decide +kernel
theorem d_mo_product_89 : decode prog_8_method_17_code 89 = .ok (.if_icmp .gt 42, 3) := by decide +kernel
theorem d_mo_product_92 : decode prog_8_method_17_code 92 = .ok (.lload 6, 2) := by decide +kernel
theorem d_mo_product_94 : decode prog_8_method_17_code 94 = .ok (.aload_n 0, 1) := by decide +kernel
theorem d_mo_product_95 : decode prog_8_method_17_code 95 = .ok (.getfield 23, 3) := by decide +kernel
theorem d_mo_product_98 : decode prog_8_method_17_code 98 = .ok (.iconst 0, 1) := by decide +kernel
theorem d_mo_product_99 : decode prog_8_method_17_code 99 = .ok (.iload 8, 2) := by decide +kernel
theorem d_mo_product_101 : decode prog_8_method_17_code 101 = .ok (.iadd, 1) := by decide +kernel
theorem d_mo_product_102 : decode prog_8_method_17_code 102 = .ok (.laload, 1) := by decide +kernel
theorem d_mo_product_103 : decode prog_8_method_17_code 103 = .ok (.aload_n 0, 1) := by decide +kernel
theorem d_mo_product_104 : decode prog_8_method_17_code 104 = .ok (.getfield 23, 3) := by decide +kernel
theorem d_mo_product_107 : decode prog_8_method_17_code 107 = .ok (.sipush 2200, 3) := by decide +kernel
theorem d_mo_product_110 : decode prog_8_method_17_code 110 = .ok (.iload 5, 2) := by decide +kernel
theorem d_mo_product_112 : decode prog_8_method_17_code 112 = .ok (.iadd, 1) := by decide +kernel
theorem d_mo_product_113 : decode prog_8_method_17_code 113 = .ok (.iload 8, 2) := by decide +kernel
theorem d_mo_product_115 : decode prog_8_method_17_code 115 = .ok (.isub, 1) := by decide +kernel
theorem d_mo_product_116 : decode prog_8_method_17_code 116 = .ok (.laload, 1) := by decide +kernel
theorem d_mo_product_117 : decode prog_8_method_17_code 117 = .ok (.lmul, 1) := by decide +kernel
theorem d_mo_product_118 : decode prog_8_method_17_code 118 = .ok (.ladd, 1) := by decide +kernel
theorem d_mo_product_119 : decode prog_8_method_17_code 119 = .ok (.ldc2_w 44, 3) := by decide +kernel
theorem d_mo_product_122 : decode prog_8_method_17_code 122 = .ok (.lrem, 1) := by decide +kernel
theorem d_mo_product_123 : decode prog_8_method_17_code 123 = .ok (.lstore 6, 2) := by decide +kernel
theorem d_mo_product_125 : decode prog_8_method_17_code 125 = .ok (.iinc 8 1, 3) := by decide +kernel
theorem d_mo_product_128 : decode prog_8_method_17_code 128 = .ok (.goto (-43), 3) := by decide +kernel
theorem d_mo_product_131 : decode prog_8_method_17_code 131 = .ok (.aload_n 0, 1) := by decide +kernel
theorem d_mo_product_132 : decode prog_8_method_17_code 132 = .ok (.getfield 23, 3) := by decide +kernel
theorem d_mo_product_135 : decode prog_8_method_17_code 135 = .ok (.sipush 2300, 3) := by decide +kernel
theorem d_mo_product_138 : decode prog_8_method_17_code 138 = .ok (.iload 5, 2) := by decide +kernel
theorem d_mo_product_140 : decode prog_8_method_17_code 140 = .ok (.iadd, 1) := by decide +kernel
theorem d_mo_product_141 : decode prog_8_method_17_code 141 = .ok (.lload 6, 2) := by decide +kernel
theorem d_mo_product_143 : decode prog_8_method_17_code 143 = .ok (.lastore, 1) := by decide +kernel
theorem d_mo_product_144 : decode prog_8_method_17_code 144 = .ok (.iinc 5 1, 3) := by decide +kernel
theorem d_mo_product_147 : decode prog_8_method_17_code 147 = .ok (.goto (-76), 3) := by decide +kernel
theorem d_mo_product_150 : decode prog_8_method_17_code 150 = .ok (.aload_n 0, 1) := by decide +kernel
theorem d_mo_product_151 : decode prog_8_method_17_code 151 = .ok (.iload_n 3, 1) := by decide +kernel
theorem d_mo_product_152 : decode prog_8_method_17_code 152 = .ok (.invokevirtual 78, 3) := by decide +kernel
theorem d_mo_product_155 : decode prog_8_method_17_code 155 = .ok (.ireturn, 1) := by decide +kernel
theorem d_mo_pairwise_0 : decode prog_8_method_18_code 0 = .ok (.aload_n 0, 1) := by decide +kernel
theorem d_mo_pairwise_1 : decode prog_8_method_18_code 1 = .ok (.iload_n 1, 1) := by decide +kernel
theorem d_mo_pairwise_2 : decode prog_8_method_18_code 2 = .ok (.invokevirtual 86, 3) := by decide +kernel
theorem d_mo_pairwise_5 : decode prog_8_method_18_code 5 = .ok (.aload_n 0, 1) := by decide +kernel
theorem d_mo_pairwise_6 : decode prog_8_method_18_code 6 = .ok (.iload_n 2, 1) := by decide +kernel
theorem d_mo_pairwise_7 : decode prog_8_method_18_code 7 = .ok (.invokevirtual 86, 3) := by decide +kernel
theorem d_mo_pairwise_10 : decode prog_8_method_18_code 10 = .ok (.imul, 1) := by decide +kernel
theorem d_mo_pairwise_11 : decode prog_8_method_18_code 11 = .ok (.istore_n 3, 1) := by decide +kernel
theorem d_mo_pairwise_12 : decode prog_8_method_18_code 12 = .ok (.aload_n 0, 1) := by decide +kernel
theorem d_mo_pairwise_13 : decode prog_8_method_18_code 13 = .ok (.aload_n 0, 1) := by decide +kernel
theorem d_mo_pairwise_14 : decode prog_8_method_18_code 14 = .ok (.iload_n 1, 1) := by decide +kernel
theorem d_mo_pairwise_15 : decode prog_8_method_18_code 15 = .ok (.invokevirtual 82, 3) := by decide +kernel
theorem d_mo_pairwise_18 : decode prog_8_method_18_code 18 = .ok (.ifCond .eq 15, 3) := by decide +kernel
theorem d_mo_pairwise_21 : decode prog_8_method_18_code 21 = .ok (.aload_n 0, 1) := by decide +kernel
theorem d_mo_pairwise_22 : decode prog_8_method_18_code 22 = .ok (.iload_n 2, 1) := by decide +kernel
theorem d_mo_pairwise_23 : decode prog_8_method_18_code 23 = .ok (.invokevirtual 82, 3) := by decide +kernel
theorem d_mo_pairwise_26 : decode prog_8_method_18_code 26 = .ok (.ifCond .eq 7, 3) := by decide +kernel
theorem d_mo_pairwise_29 : decode prog_8_method_18_code 29 = .ok (.iconst 1, 1) := by decide +kernel
theorem d_mo_pairwise_30 : decode prog_8_method_18_code 30 = .ok (.goto 4, 3) := by decide +kernel
theorem d_mo_pairwise_33 : decode prog_8_method_18_code 33 = .ok (.iconst 0, 1) := by decide +kernel
theorem d_mo_pairwise_34 : decode prog_8_method_18_code 34 = .ok (.iload_n 3, 1) := by decide +kernel
theorem d_mo_pairwise_35 : decode prog_8_method_18_code 35 = .ok (.invokevirtual 89, 3) := by decide +kernel
theorem d_mo_pairwise_38 : decode prog_8_method_18_code 38 = .ok (.istore 4, 2) := by decide +kernel
theorem d_mo_pairwise_40 : decode prog_8_method_18_code 40 = .ok (.iload 4, 2) := by decide +kernel
theorem d_mo_pairwise_42 : decode prog_8_method_18_code 42 = .ok (.ifCond .ge 6, 3) := by decide +kernel
theorem d_mo_pairwise_45 : decode prog_8_method_18_code 45 = .ok (.iload 4, 2) := by decide +kernel
theorem d_mo_pairwise_47 : decode prog_8_method_18_code 47 = .ok (.ireturn, 1) := by decide +kernel
theorem d_mo_pairwise_48 : decode prog_8_method_18_code 48 = .ok (.aload_n 0, 1) := by decide +kernel
theorem d_mo_pairwise_49 : decode prog_8_method_18_code 49 = .ok (.iconst 0, 1) := by decide +kernel
theorem d_mo_pairwise_50 : decode prog_8_method_18_code 50 = .ok (.iload_n 1, 1) := by decide +kernel
theorem d_mo_pairwise_51 : decode prog_8_method_18_code 51 = .ok (.iconst 2, 1) := by decide +kernel
theorem d_mo_pairwise_52 : decode prog_8_method_18_code 52 = .ok (.iload_n 3, 1) := by decide +kernel
theorem d_mo_pairwise_53 : decode prog_8_method_18_code 53 = .ok (.imul, 1) := by decide +kernel
theorem d_mo_pairwise_54 : decode prog_8_method_18_code 54 = .ok (.invokevirtual 93, 3) := by decide +kernel
theorem d_mo_pairwise_57 : decode prog_8_method_18_code 57 = .ok (.aload_n 0, 1) := by decide +kernel
theorem d_mo_pairwise_58 : decode prog_8_method_18_code 58 = .ok (.sipush 2200, 3) := by decide +kernel
theorem d_mo_pairwise_61 : decode prog_8_method_18_code 61 = .ok (.iload_n 2, 1) := by decide +kernel
theorem d_mo_pairwise_62 : decode prog_8_method_18_code 62 = .ok (.iconst 2, 1) := by decide +kernel
theorem d_mo_pairwise_63 : decode prog_8_method_18_code 63 = .ok (.iload_n 3, 1) := by decide +kernel
theorem d_mo_pairwise_64 : decode prog_8_method_18_code 64 = .ok (.imul, 1) := by decide +kernel
theorem d_mo_pairwise_65 : decode prog_8_method_18_code 65 = .ok (.invokevirtual 93, 3) := by decide +kernel
theorem d_mo_pairwise_68 : decode prog_8_method_18_code 68 = .ok (.iconst 0, 1) := by decide +kernel
theorem d_mo_pairwise_69 : decode prog_8_method_18_code 69 = .ok (.istore 5, 2) := by decide +kernel
theorem d_mo_pairwise_71 : decode prog_8_method_18_code 71 = .ok (.iload 5, 2) := by decide +kernel
theorem d_mo_pairwise_73 : decode prog_8_method_18_code 73 = .ok (.iconst 2, 1) := by decide +kernel
theorem d_mo_pairwise_74 : decode prog_8_method_18_code 74 = .ok (.iload_n 3, 1) := by decide +kernel
theorem d_mo_pairwise_75 : decode prog_8_method_18_code 75 = .ok (.imul, 1) := by decide +kernel
theorem d_mo_pairwise_76 : decode prog_8_method_18_code 76 = .ok (.if_icmp .ge 45, 3) := by decide +kernel
theorem d_mo_pairwise_79 : decode prog_8_method_18_code 79 = .ok (.aload_n 0, 1) := by decide +kernel
theorem d_mo_pairwise_80 : decode prog_8_method_18_code 80 = .ok (.getfield 23, 3) := by decide +kernel
theorem d_mo_pairwise_83 : decode prog_8_method_18_code 83 = .ok (.sipush 2300, 3) := by decide +kernel
theorem d_mo_pairwise_86 : decode prog_8_method_18_code 86 = .ok (.iload 5, 2) := by decide +kernel
theorem d_mo_pairwise_88 : decode prog_8_method_18_code 88 = .ok (.iadd, 1) := by decide +kernel
theorem d_mo_pairwise_89 : decode prog_8_method_18_code 89 = .ok (.aload_n 0, 1) := by decide +kernel
theorem d_mo_pairwise_90 : decode prog_8_method_18_code 90 = .ok (.getfield 23, 3) := by decide +kernel
theorem d_mo_pairwise_93 : decode prog_8_method_18_code 93 = .ok (.iconst 0, 1) := by decide +kernel
theorem d_mo_pairwise_94 : decode prog_8_method_18_code 94 = .ok (.iload 5, 2) := by decide +kernel
theorem d_mo_pairwise_96 : decode prog_8_method_18_code 96 = .ok (.iadd, 1) := by decide +kernel
theorem d_mo_pairwise_97 : decode prog_8_method_18_code 97 = .ok (.laload, 1) := by decide +kernel
theorem d_mo_pairwise_98 : decode prog_8_method_18_code 98 = .ok (.aload_n 0, 1) := by decide +kernel
theorem d_mo_pairwise_99 : decode prog_8_method_18_code 99 = .ok (.getfield 23, 3) := by decide +kernel
theorem d_mo_pairwise_102 : decode prog_8_method_18_code 102 = .ok (.sipush 2200, 3) := by decide +kernel
theorem d_mo_pairwise_105 : decode prog_8_method_18_code 105 = .ok (.iload 5, 2) := by decide +kernel
theorem d_mo_pairwise_107 : decode prog_8_method_18_code 107 = .ok (.iadd, 1) := by decide +kernel
theorem d_mo_pairwise_108 : decode prog_8_method_18_code 108 = .ok (.laload, 1) := by decide +kernel
theorem d_mo_pairwise_109 : decode prog_8_method_18_code 109 = .ok (.lmul, 1) := by decide +kernel
theorem d_mo_pairwise_110 : decode prog_8_method_18_code 110 = .ok (.ldc2_w 44, 3) := by decide +kernel
theorem d_mo_pairwise_113 : decode prog_8_method_18_code 113 = .ok (.lrem, 1) := by decide +kernel
theorem d_mo_pairwise_114 : decode prog_8_method_18_code 114 = .ok (.lastore, 1) := by decide +kernel
theorem d_mo_pairwise_115 : decode prog_8_method_18_code 115 = .ok (.iinc 5 1, 3) := by decide +kernel
theorem d_mo_pairwise_118 : decode prog_8_method_18_code 118 = .ok (.goto (-47), 3) := by decide +kernel
theorem d_mo_pairwise_121 : decode prog_8_method_18_code 121 = .ok (.aload_n 0, 1) := by decide +kernel
theorem d_mo_pairwise_122 : decode prog_8_method_18_code 122 = .ok (.iload_n 3, 1) := by decide +kernel
theorem d_mo_pairwise_123 : decode prog_8_method_18_code 123 = .ok (.invokevirtual 78, 3) := by decide +kernel
theorem d_mo_pairwise_126 : decode prog_8_method_18_code 126 = .ok (.ireturn, 1) := by decide +kernel
theorem d_mo_derivative_0 : decode prog_8_method_19_code 0 = .ok (.iconst 2, 1) := by decide +kernel
theorem d_mo_derivative_1 : decode prog_8_method_19_code 1 = .ok (.aload_n 0, 1) := by decide +kernel
theorem d_mo_derivative_2 : decode prog_8_method_19_code 2 = .ok (.iload_n 1, 1) := by decide +kernel
theorem d_mo_derivative_3 : decode prog_8_method_19_code 3 = .ok (.invokevirtual 86, 3) := by decide +kernel
theorem d_mo_derivative_6 : decode prog_8_method_19_code 6 = .ok (.imul, 1) := by decide +kernel
theorem d_mo_derivative_7 : decode prog_8_method_19_code 7 = .ok (.istore_n 2, 1) := by decide +kernel
theorem d_mo_derivative_8 : decode prog_8_method_19_code 8 = .ok (.aload_n 0, 1) := by decide +kernel
theorem d_mo_derivative_9 : decode prog_8_method_19_code 9 = .ok (.aload_n 0, 1) := by decide +kernel
theorem d_mo_derivative_10 : decode prog_8_method_19_code 10 = .ok (.iload_n 1, 1) := by decide +kernel
theorem d_mo_derivative_11 : decode prog_8_method_19_code 11 = .ok (.invokevirtual 82, 3) := by decide +kernel
theorem d_mo_derivative_14 : decode prog_8_method_19_code 14 = .ok (.iload_n 2, 1) := by decide +kernel
theorem d_mo_derivative_15 : decode prog_8_method_19_code 15 = .ok (.invokevirtual 89, 3) := by decide +kernel
theorem d_mo_derivative_18 : decode prog_8_method_19_code 18 = .ok (.istore_n 3, 1) := by decide +kernel
theorem d_mo_derivative_19 : decode prog_8_method_19_code 19 = .ok (.iload_n 3, 1) := by decide +kernel
theorem d_mo_derivative_20 : decode prog_8_method_19_code 20 = .ok (.ifCond .ge 5, 3) := by decide +kernel
theorem d_mo_derivative_23 : decode prog_8_method_19_code 23 = .ok (.iload_n 3, 1) := by decide +kernel
theorem d_mo_derivative_24 : decode prog_8_method_19_code 24 = .ok (.ireturn, 1) := by decide +kernel
theorem d_mo_derivative_25 : decode prog_8_method_19_code 25 = .ok (.aload_n 0, 1) := by decide +kernel
theorem d_mo_derivative_26 : decode prog_8_method_19_code 26 = .ok (.iconst 0, 1) := by decide +kernel
theorem d_mo_derivative_27 : decode prog_8_method_19_code 27 = .ok (.iload_n 1, 1) := by decide +kernel
theorem d_mo_derivative_28 : decode prog_8_method_19_code 28 = .ok (.iconst 2, 1) := by decide +kernel
theorem d_mo_derivative_29 : decode prog_8_method_19_code 29 = .ok (.iload_n 2, 1) := by decide +kernel
theorem d_mo_derivative_30 : decode prog_8_method_19_code 30 = .ok (.imul, 1) := by decide +kernel
theorem d_mo_derivative_31 : decode prog_8_method_19_code 31 = .ok (.iconst 1, 1) := by decide +kernel
theorem d_mo_derivative_32 : decode prog_8_method_19_code 32 = .ok (.iadd, 1) := by decide +kernel
theorem d_mo_derivative_33 : decode prog_8_method_19_code 33 = .ok (.invokevirtual 93, 3) := by decide +kernel
theorem d_mo_derivative_36 : decode prog_8_method_19_code 36 = .ok (.iconst 0, 1) := by decide +kernel
theorem d_mo_derivative_37 : decode prog_8_method_19_code 37 = .ok (.istore 4, 2) := by decide +kernel
theorem d_mo_derivative_39 : decode prog_8_method_19_code 39 = .ok (.iload 4, 2) := by decide +kernel
theorem d_mo_derivative_41 : decode prog_8_method_19_code 41 = .ok (.iconst 2, 1) := by decide +kernel
theorem d_mo_derivative_42 : decode prog_8_method_19_code 42 = .ok (.iload_n 2, 1) := by decide +kernel
theorem d_mo_derivative_43 : decode prog_8_method_19_code 43 = .ok (.imul, 1) := by decide +kernel
theorem d_mo_derivative_44 : decode prog_8_method_19_code 44 = .ok (.if_icmp .ge 41, 3) := by decide +kernel
theorem d_mo_derivative_47 : decode prog_8_method_19_code 47 = .ok (.aload_n 0, 1) := by decide +kernel
theorem d_mo_derivative_48 : decode prog_8_method_19_code 48 = .ok (.getfield 23, 3) := by decide +kernel
theorem d_mo_derivative_51 : decode prog_8_method_19_code 51 = .ok (.sipush 2300, 3) := by decide +kernel
theorem d_mo_derivative_54 : decode prog_8_method_19_code 54 = .ok (.iload 4, 2) := by decide +kernel
theorem d_mo_derivative_56 : decode prog_8_method_19_code 56 = .ok (.iadd, 1) := by decide +kernel
theorem d_mo_derivative_57 : decode prog_8_method_19_code 57 = .ok (.iload 4, 2) := by decide +kernel
theorem d_mo_derivative_59 : decode prog_8_method_19_code 59 = .ok (.iconst 1, 1) := by decide +kernel
theorem d_mo_derivative_60 : decode prog_8_method_19_code 60 = .ok (.iadd, 1) := by decide +kernel
theorem d_mo_derivative_61 : decode prog_8_method_19_code 61 = .ok (.i2l, 1) := by decide +kernel
theorem d_mo_derivative_62 : decode prog_8_method_19_code 62 = .ok (.aload_n 0, 1) := by decide +kernel
theorem d_mo_derivative_63 : decode prog_8_method_19_code 63 = .ok (.getfield 23, 3) := by decide +kernel
theorem d_mo_derivative_66 : decode prog_8_method_19_code 66 = .ok (.iconst 0, 1) := by decide +kernel
theorem d_mo_derivative_67 : decode prog_8_method_19_code 67 = .ok (.iload 4, 2) := by decide +kernel
theorem d_mo_derivative_69 : decode prog_8_method_19_code 69 = .ok (.iadd, 1) := by decide +kernel
theorem d_mo_derivative_70 : decode prog_8_method_19_code 70 = .ok (.iconst 1, 1) := by decide +kernel
theorem d_mo_derivative_71 : decode prog_8_method_19_code 71 = .ok (.iadd, 1) := by decide +kernel
theorem d_mo_derivative_72 : decode prog_8_method_19_code 72 = .ok (.laload, 1) := by decide +kernel
theorem d_mo_derivative_73 : decode prog_8_method_19_code 73 = .ok (.lmul, 1) := by decide +kernel
theorem d_mo_derivative_74 : decode prog_8_method_19_code 74 = .ok (.ldc2_w 44, 3) := by decide +kernel
theorem d_mo_derivative_77 : decode prog_8_method_19_code 77 = .ok (.lrem, 1) := by decide +kernel
theorem d_mo_derivative_78 : decode prog_8_method_19_code 78 = .ok (.lastore, 1) := by decide +kernel
theorem d_mo_derivative_79 : decode prog_8_method_19_code 79 = .ok (.iinc 4 1, 3) := by decide +kernel
theorem d_mo_derivative_82 : decode prog_8_method_19_code 82 = .ok (.goto (-43), 3) := by decide +kernel
theorem d_mo_derivative_85 : decode prog_8_method_19_code 85 = .ok (.aload_n 0, 1) := by decide +kernel
theorem d_mo_derivative_86 : decode prog_8_method_19_code 86 = .ok (.iload_n 2, 1) := by decide +kernel
theorem d_mo_derivative_87 : decode prog_8_method_19_code 87 = .ok (.invokevirtual 78, 3) := by decide +kernel
theorem d_mo_derivative_90 : decode prog_8_method_19_code 90 = .ok (.ireturn, 1) := by decide +kernel
theorem d_mo_tail_0 : decode prog_8_method_20_code 0 = .ok (.aload_n 0, 1) := by decide +kernel
theorem d_mo_tail_1 : decode prog_8_method_20_code 1 = .ok (.iload_n 1, 1) := by decide +kernel
theorem d_mo_tail_2 : decode prog_8_method_20_code 2 = .ok (.iconst 1, 1) := by decide +kernel
theorem d_mo_tail_3 : decode prog_8_method_20_code 3 = .ok (.iconst 1, 1) := by decide +kernel
theorem d_mo_tail_4 : decode prog_8_method_20_code 4 = .ok (.invokevirtual 96, 3) := by decide +kernel
theorem d_mo_tail_7 : decode prog_8_method_20_code 7 = .ok (.ireturn, 1) := by decide +kernel
theorem d_mo_delay_0 : decode prog_8_method_21_code 0 = .ok (.aload_n 0, 1) := by decide +kernel
theorem d_mo_delay_1 : decode prog_8_method_21_code 1 = .ok (.iload_n 1, 1) := by decide +kernel
theorem d_mo_delay_2 : decode prog_8_method_21_code 2 = .ok (.invokevirtual 86, 3) := by decide +kernel
theorem d_mo_delay_5 : decode prog_8_method_21_code 5 = .ok (.iconst 1, 1) := by decide +kernel
theorem d_mo_delay_6 : decode prog_8_method_21_code 6 = .ok (.iadd, 1) := by decide +kernel
theorem d_mo_delay_7 : decode prog_8_method_21_code 7 = .ok (.istore_n 2, 1) := by decide +kernel
theorem d_mo_delay_8 : decode prog_8_method_21_code 8 = .ok (.aload_n 0, 1) := by decide +kernel
theorem d_mo_delay_9 : decode prog_8_method_21_code 9 = .ok (.aload_n 0, 1) := by decide +kernel
theorem d_mo_delay_10 : decode prog_8_method_21_code 10 = .ok (.iload_n 1, 1) := by decide +kernel
theorem d_mo_delay_11 : decode prog_8_method_21_code 11 = .ok (.invokevirtual 82, 3) := by decide +kernel
theorem d_mo_delay_14 : decode prog_8_method_21_code 14 = .ok (.iload_n 2, 1) := by decide +kernel
theorem d_mo_delay_15 : decode prog_8_method_21_code 15 = .ok (.invokevirtual 89, 3) := by decide +kernel
theorem d_mo_delay_18 : decode prog_8_method_21_code 18 = .ok (.istore_n 3, 1) := by decide +kernel
theorem d_mo_delay_19 : decode prog_8_method_21_code 19 = .ok (.iload_n 3, 1) := by decide +kernel
theorem d_mo_delay_20 : decode prog_8_method_21_code 20 = .ok (.ifCond .ge 5, 3) := by decide +kernel
theorem d_mo_delay_23 : decode prog_8_method_21_code 23 = .ok (.iload_n 3, 1) := by decide +kernel
theorem d_mo_delay_24 : decode prog_8_method_21_code 24 = .ok (.ireturn, 1) := by decide +kernel
theorem d_mo_delay_25 : decode prog_8_method_21_code 25 = .ok (.aload_n 0, 1) := by decide +kernel
theorem d_mo_delay_26 : decode prog_8_method_21_code 26 = .ok (.iconst 0, 1) := by decide +kernel
theorem d_mo_delay_27 : decode prog_8_method_21_code 27 = .ok (.iload_n 1, 1) := by decide +kernel
theorem d_mo_delay_28 : decode prog_8_method_21_code 28 = .ok (.iconst 2, 1) := by decide +kernel
theorem d_mo_delay_29 : decode prog_8_method_21_code 29 = .ok (.iload_n 2, 1) := by decide +kernel
theorem d_mo_delay_30 : decode prog_8_method_21_code 30 = .ok (.imul, 1) := by decide +kernel
theorem d_mo_delay_31 : decode prog_8_method_21_code 31 = .ok (.invokevirtual 93, 3) := by decide +kernel
theorem d_mo_delay_34 : decode prog_8_method_21_code 34 = .ok (.aload_n 0, 1) := by decide +kernel
theorem d_mo_delay_35 : decode prog_8_method_21_code 35 = .ok (.getfield 23, 3) := by decide +kernel
theorem d_mo_delay_38 : decode prog_8_method_21_code 38 = .ok (.sipush 2300, 3) := by decide +kernel
theorem d_mo_delay_41 : decode prog_8_method_21_code 41 = .ok (.lconst 0, 1) := by decide +kernel
theorem d_mo_delay_42 : decode prog_8_method_21_code 42 = .ok (.lastore, 1) := by decide +kernel
theorem d_mo_delay_43 : decode prog_8_method_21_code 43 = .ok (.iconst 1, 1) := by decide +kernel
theorem d_mo_delay_44 : decode prog_8_method_21_code 44 = .ok (.istore 4, 2) := by decide +kernel
theorem d_mo_delay_46 : decode prog_8_method_21_code 46 = .ok (.iload 4, 2) := by decide +kernel
theorem d_mo_delay_48 : decode prog_8_method_21_code 48 = .ok (.iconst 2, 1) := by decide +kernel
theorem d_mo_delay_49 : decode prog_8_method_21_code 49 = .ok (.iload_n 2, 1) := by decide +kernel
theorem d_mo_delay_50 : decode prog_8_method_21_code 50 = .ok (.imul, 1) := by decide +kernel
theorem d_mo_delay_51 : decode prog_8_method_21_code 51 = .ok (.if_icmp .ge 31, 3) := by decide +kernel
theorem d_mo_delay_54 : decode prog_8_method_21_code 54 = .ok (.aload_n 0, 1) := by decide +kernel
theorem d_mo_delay_55 : decode prog_8_method_21_code 55 = .ok (.getfield 23, 3) := by decide +kernel
theorem d_mo_delay_58 : decode prog_8_method_21_code 58 = .ok (.sipush 2300, 3) := by decide +kernel
theorem d_mo_delay_61 : decode prog_8_method_21_code 61 = .ok (.iload 4, 2) := by decide +kernel
theorem d_mo_delay_63 : decode prog_8_method_21_code 63 = .ok (.iadd, 1) := by decide +kernel
theorem d_mo_delay_64 : decode prog_8_method_21_code 64 = .ok (.aload_n 0, 1) := by decide +kernel
theorem d_mo_delay_65 : decode prog_8_method_21_code 65 = .ok (.getfield 23, 3) := by decide +kernel
theorem d_mo_delay_68 : decode prog_8_method_21_code 68 = .ok (.iconst 0, 1) := by decide +kernel
theorem d_mo_delay_69 : decode prog_8_method_21_code 69 = .ok (.iload 4, 2) := by decide +kernel
theorem d_mo_delay_71 : decode prog_8_method_21_code 71 = .ok (.iadd, 1) := by decide +kernel
theorem d_mo_delay_72 : decode prog_8_method_21_code 72 = .ok (.iconst 1, 1) := by decide +kernel
theorem d_mo_delay_73 : decode prog_8_method_21_code 73 = .ok (.isub, 1) := by decide +kernel
theorem d_mo_delay_74 : decode prog_8_method_21_code 74 = .ok (.laload, 1) := by decide +kernel
theorem d_mo_delay_75 : decode prog_8_method_21_code 75 = .ok (.lastore, 1) := by decide +kernel
theorem d_mo_delay_76 : decode prog_8_method_21_code 76 = .ok (.iinc 4 1, 3) := by decide +kernel
theorem d_mo_delay_79 : decode prog_8_method_21_code 79 = .ok (.goto (-33), 3) := by decide +kernel
theorem d_mo_delay_82 : decode prog_8_method_21_code 82 = .ok (.aload_n 0, 1) := by decide +kernel
theorem d_mo_delay_83 : decode prog_8_method_21_code 83 = .ok (.iload_n 2, 1) := by decide +kernel
theorem d_mo_delay_84 : decode prog_8_method_21_code 84 = .ok (.invokevirtual 78, 3) := by decide +kernel
theorem d_mo_delay_87 : decode prog_8_method_21_code 87 = .ok (.ireturn, 1) := by decide +kernel
theorem d_mo_sums_0 : decode prog_8_method_22_code 0 = .ok (.aload_n 0, 1) := by decide +kernel
theorem d_mo_sums_1 : decode prog_8_method_22_code 1 = .ok (.iload_n 1, 1) := by decide +kernel
theorem d_mo_sums_2 : decode prog_8_method_22_code 2 = .ok (.invokevirtual 86, 3) := by decide +kernel
theorem d_mo_sums_5 : decode prog_8_method_22_code 5 = .ok (.iconst 1, 1) := by decide +kernel
theorem d_mo_sums_6 : decode prog_8_method_22_code 6 = .ok (.iadd, 1) := by decide +kernel
theorem d_mo_sums_7 : decode prog_8_method_22_code 7 = .ok (.istore_n 2, 1) := by decide +kernel
theorem d_mo_sums_8 : decode prog_8_method_22_code 8 = .ok (.aload_n 0, 1) := by decide +kernel
theorem d_mo_sums_9 : decode prog_8_method_22_code 9 = .ok (.aload_n 0, 1) := by decide +kernel
theorem d_mo_sums_10 : decode prog_8_method_22_code 10 = .ok (.iload_n 1, 1) := by decide +kernel
theorem d_mo_sums_11 : decode prog_8_method_22_code 11 = .ok (.invokevirtual 82, 3) := by decide +kernel
theorem d_mo_sums_14 : decode prog_8_method_22_code 14 = .ok (.iload_n 2, 1) := by decide +kernel
theorem d_mo_sums_15 : decode prog_8_method_22_code 15 = .ok (.invokevirtual 89, 3) := by decide +kernel
theorem d_mo_sums_18 : decode prog_8_method_22_code 18 = .ok (.istore_n 3, 1) := by decide +kernel
theorem d_mo_sums_19 : decode prog_8_method_22_code 19 = .ok (.iload_n 3, 1) := by decide +kernel
theorem d_mo_sums_20 : decode prog_8_method_22_code 20 = .ok (.ifCond .ge 5, 3) := by decide +kernel
theorem d_mo_sums_23 : decode prog_8_method_22_code 23 = .ok (.iload_n 3, 1) := by decide +kernel
theorem d_mo_sums_24 : decode prog_8_method_22_code 24 = .ok (.ireturn, 1) := by decide +kernel
theorem d_mo_sums_25 : decode prog_8_method_22_code 25 = .ok (.aload_n 0, 1) := by decide +kernel
theorem d_mo_sums_26 : decode prog_8_method_22_code 26 = .ok (.iconst 0, 1) := by decide +kernel
theorem d_mo_sums_27 : decode prog_8_method_22_code 27 = .ok (.iload_n 1, 1) := by decide +kernel
theorem d_mo_sums_28 : decode prog_8_method_22_code 28 = .ok (.iconst 2, 1) := by decide +kernel
theorem d_mo_sums_29 : decode prog_8_method_22_code 29 = .ok (.iload_n 2, 1) := by decide +kernel
theorem d_mo_sums_30 : decode prog_8_method_22_code 30 = .ok (.imul, 1) := by decide +kernel
theorem d_mo_sums_31 : decode prog_8_method_22_code 31 = .ok (.invokevirtual 93, 3) := by decide +kernel
theorem d_mo_sums_34 : decode prog_8_method_22_code 34 = .ok (.lconst 0, 1) := by decide +kernel
theorem d_mo_sums_35 : decode prog_8_method_22_code 35 = .ok (.lstore 4, 2) := by decide +kernel
theorem d_mo_sums_37 : decode prog_8_method_22_code 37 = .ok (.iconst 0, 1) := by decide +kernel
theorem d_mo_sums_38 : decode prog_8_method_22_code 38 = .ok (.istore 6, 2) := by decide +kernel
theorem d_mo_sums_40 : decode prog_8_method_22_code 40 = .ok (.iload 6, 2) := by decide +kernel
theorem d_mo_sums_42 : decode prog_8_method_22_code 42 = .ok (.iconst 2, 1) := by decide +kernel
theorem d_mo_sums_43 : decode prog_8_method_22_code 43 = .ok (.iload_n 2, 1) := by decide +kernel
theorem d_mo_sums_44 : decode prog_8_method_22_code 44 = .ok (.imul, 1) := by decide +kernel
theorem d_mo_sums_45 : decode prog_8_method_22_code 45 = .ok (.if_icmp .ge 40, 3) := by decide +kernel
theorem d_mo_sums_48 : decode prog_8_method_22_code 48 = .ok (.lload 4, 2) := by decide +kernel
theorem d_mo_sums_50 : decode prog_8_method_22_code 50 = .ok (.aload_n 0, 1) := by decide +kernel
theorem d_mo_sums_51 : decode prog_8_method_22_code 51 = .ok (.getfield 23, 3) := by decide +kernel
theorem d_mo_sums_54 : decode prog_8_method_22_code 54 = .ok (.iconst 0, 1) := by decide +kernel
theorem d_mo_sums_55 : decode prog_8_method_22_code 55 = .ok (.iload 6, 2) := by decide +kernel
theorem d_mo_sums_57 : decode prog_8_method_22_code 57 = .ok (.iadd, 1) := by decide +kernel
theorem d_mo_sums_58 : decode prog_8_method_22_code 58 = .ok (.laload, 1) := by decide +kernel
theorem d_mo_sums_59 : decode prog_8_method_22_code 59 = .ok (.ladd, 1) := by decide +kernel
theorem d_mo_sums_60 : decode prog_8_method_22_code 60 = .ok (.ldc2_w 44, 3) := by decide +kernel
theorem d_mo_sums_63 : decode prog_8_method_22_code 63 = .ok (.lrem, 1) := by decide +kernel
theorem d_mo_sums_64 : decode prog_8_method_22_code 64 = .ok (.lstore 4, 2) := by decide +kernel
theorem d_mo_sums_66 : decode prog_8_method_22_code 66 = .ok (.aload_n 0, 1) := by decide +kernel
theorem d_mo_sums_67 : decode prog_8_method_22_code 67 = .ok (.getfield 23, 3) := by decide +kernel
theorem d_mo_sums_70 : decode prog_8_method_22_code 70 = .ok (.sipush 2300, 3) := by decide +kernel
theorem d_mo_sums_73 : decode prog_8_method_22_code 73 = .ok (.iload 6, 2) := by decide +kernel
theorem d_mo_sums_75 : decode prog_8_method_22_code 75 = .ok (.iadd, 1) := by decide +kernel
theorem d_mo_sums_76 : decode prog_8_method_22_code 76 = .ok (.lload 4, 2) := by decide +kernel
theorem d_mo_sums_78 : decode prog_8_method_22_code 78 = .ok (.lastore, 1) := by decide +kernel
theorem d_mo_sums_79 : decode prog_8_method_22_code 79 = .ok (.iinc 6 1, 3) := by decide +kernel
theorem d_mo_sums_82 : decode prog_8_method_22_code 82 = .ok (.goto (-42), 3) := by decide +kernel
theorem d_mo_sums_85 : decode prog_8_method_22_code 85 = .ok (.aload_n 0, 1) := by decide +kernel
theorem d_mo_sums_86 : decode prog_8_method_22_code 86 = .ok (.iload_n 2, 1) := by decide +kernel
theorem d_mo_sums_87 : decode prog_8_method_22_code 87 = .ok (.invokevirtual 78, 3) := by decide +kernel
theorem d_mo_sums_90 : decode prog_8_method_22_code 90 = .ok (.ireturn, 1) := by decide +kernel
theorem d_mo_section_0 : decode prog_8_method_23_code 0 = .ok (.aload_n 0, 1) := by decide +kernel
theorem d_mo_section_1 : decode prog_8_method_23_code 1 = .ok (.iload_n 1, 1) := by decide +kernel
theorem d_mo_section_2 : decode prog_8_method_23_code 2 = .ok (.invokevirtual 86, 3) := by decide +kernel
theorem d_mo_section_5 : decode prog_8_method_23_code 5 = .ok (.istore 4, 2) := by decide +kernel
theorem d_mo_section_7 : decode prog_8_method_23_code 7 = .ok (.aload_n 0, 1) := by decide +kernel
theorem d_mo_section_8 : decode prog_8_method_23_code 8 = .ok (.aload_n 0, 1) := by decide +kernel
theorem d_mo_section_9 : decode prog_8_method_23_code 9 = .ok (.iload_n 1, 1) := by decide +kernel
theorem d_mo_section_10 : decode prog_8_method_23_code 10 = .ok (.invokevirtual 82, 3) := by decide +kernel
theorem d_mo_section_13 : decode prog_8_method_23_code 13 = .ok (.ifCond .eq 29, 3) := by decide +kernel
theorem d_mo_section_16 : decode prog_8_method_23_code 16 = .ok (.iload_n 2, 1) := by decide +kernel
theorem d_mo_section_17 : decode prog_8_method_23_code 17 = .ok (.iconst 1, 1) := by decide +kernel
theorem d_mo_section_18 : decode prog_8_method_23_code 18 = .ok (.if_icmp .lt 24, 3) := by decide +kernel
theorem d_mo_section_21 : decode prog_8_method_23_code 21 = .ok (.iload_n 2, 1) := by decide +kernel
theorem d_mo_section_22 : decode prog_8_method_23_code 22 = .ok (.bipush 24, 2) := by decide +kernel
theorem d_mo_section_24 : decode prog_8_method_23_code 24 = .ok (.if_icmp .gt 18, 3) := by decide +kernel
theorem d_mo_section_27 : decode prog_8_method_23_code 27 = .ok (.iload_n 3, 1) := by decide +kernel
theorem d_mo_section_28 : decode prog_8_method_23_code 28 = .ok (.ifCond .lt 14, 3) := by decide +kernel
theorem d_mo_section_31 : decode prog_8_method_23_code 31 = .ok (.iload_n 3, 1) := by decide +kernel
theorem d_mo_section_32 : decode prog_8_method_23_code 32 = .ok (.sipush 1000, 3) := by decide +kernel
theorem d_mo_section_35 : decode prog_8_method_23_code 35 = .ok (.if_icmp .gt 7, 3) := by decide +kernel
theorem d_mo_section_38 : decode prog_8_method_23_code 38 = .ok (.iconst 1, 1) := by decide +kernel
theorem d_mo_section_39 : decode prog_8_method_23_code 39 = .ok (.goto 4, 3) := by decide +kernel
theorem d_mo_section_42 : decode prog_8_method_23_code 42 = .ok (.iconst 0, 1) := by decide +kernel
theorem d_mo_section_43 : decode prog_8_method_23_code 43 = .ok (.iload 4, 2) := by decide +kernel
theorem d_mo_section_45 : decode prog_8_method_23_code 45 = .ok (.invokevirtual 89, 3) := by decide +kernel
theorem d_mo_section_48 : decode prog_8_method_23_code 48 = .ok (.istore 5, 2) := by decide +kernel
theorem d_mo_section_50 : decode prog_8_method_23_code 50 = .ok (.iload 5, 2) := by decide +kernel
theorem d_mo_section_52 : decode prog_8_method_23_code 52 = .ok (.ifCond .ge 6, 3) := by decide +kernel
theorem d_mo_section_55 : decode prog_8_method_23_code 55 = .ok (.iload 5, 2) := by decide +kernel
theorem d_mo_section_57 : decode prog_8_method_23_code 57 = .ok (.ireturn, 1) := by decide +kernel
theorem d_mo_section_58 : decode prog_8_method_23_code 58 = .ok (.aload_n 0, 1) := by decide +kernel
theorem d_mo_section_59 : decode prog_8_method_23_code 59 = .ok (.iconst 0, 1) := by decide +kernel
theorem d_mo_section_60 : decode prog_8_method_23_code 60 = .ok (.iload_n 1, 1) := by decide +kernel
theorem d_mo_section_61 : decode prog_8_method_23_code 61 = .ok (.iload_n 2, 1) := by decide +kernel
theorem d_mo_section_62 : decode prog_8_method_23_code 62 = .ok (.iconst 2, 1) := by decide +kernel
theorem d_mo_section_63 : decode prog_8_method_23_code 63 = .ok (.imul, 1) := by decide +kernel
theorem d_mo_section_64 : decode prog_8_method_23_code 64 = .ok (.iload 4, 2) := by decide +kernel
theorem d_mo_section_66 : decode prog_8_method_23_code 66 = .ok (.imul, 1) := by decide +kernel
theorem d_mo_section_67 : decode prog_8_method_23_code 67 = .ok (.iload_n 3, 1) := by decide +kernel
theorem d_mo_section_68 : decode prog_8_method_23_code 68 = .ok (.iadd, 1) := by decide +kernel
theorem d_mo_section_69 : decode prog_8_method_23_code 69 = .ok (.invokevirtual 93, 3) := by decide +kernel
theorem d_mo_section_72 : decode prog_8_method_23_code 72 = .ok (.iconst 0, 1) := by decide +kernel
theorem d_mo_section_73 : decode prog_8_method_23_code 73 = .ok (.istore 6, 2) := by decide +kernel
theorem d_mo_section_75 : decode prog_8_method_23_code 75 = .ok (.iload 6, 2) := by decide +kernel
theorem d_mo_section_77 : decode prog_8_method_23_code 77 = .ok (.iconst 2, 1) := by decide +kernel
theorem d_mo_section_78 : decode prog_8_method_23_code 78 = .ok (.iload 4, 2) := by decide +kernel
theorem d_mo_section_80 : decode prog_8_method_23_code 80 = .ok (.imul, 1) := by decide +kernel
theorem d_mo_section_81 : decode prog_8_method_23_code 81 = .ok (.if_icmp .ge 33, 3) := by decide +kernel
theorem d_mo_section_84 : decode prog_8_method_23_code 84 = .ok (.aload_n 0, 1) := by decide +kernel
theorem d_mo_section_85 : decode prog_8_method_23_code 85 = .ok (.getfield 23, 3) := by decide +kernel
theorem d_mo_section_88 : decode prog_8_method_23_code 88 = .ok (.sipush 2300, 3) := by decide +kernel
theorem d_mo_section_91 : decode prog_8_method_23_code 91 = .ok (.iload 6, 2) := by decide +kernel
theorem d_mo_section_93 : decode prog_8_method_23_code 93 = .ok (.iadd, 1) := by decide +kernel
theorem d_mo_section_94 : decode prog_8_method_23_code 94 = .ok (.aload_n 0, 1) := by decide +kernel
theorem d_mo_section_95 : decode prog_8_method_23_code 95 = .ok (.getfield 23, 3) := by decide +kernel
theorem d_mo_section_98 : decode prog_8_method_23_code 98 = .ok (.iconst 0, 1) := by decide +kernel
theorem d_mo_section_99 : decode prog_8_method_23_code 99 = .ok (.iload_n 2, 1) := by decide +kernel
theorem d_mo_section_100 : decode prog_8_method_23_code 100 = .ok (.iload 6, 2) := by decide +kernel
theorem d_mo_section_102 : decode prog_8_method_23_code 102 = .ok (.imul, 1) := by decide +kernel
theorem d_mo_section_103 : decode prog_8_method_23_code 103 = .ok (.iadd, 1) := by decide +kernel
theorem d_mo_section_104 : decode prog_8_method_23_code 104 = .ok (.iload_n 3, 1) := by decide +kernel
theorem d_mo_section_105 : decode prog_8_method_23_code 105 = .ok (.iadd, 1) := by decide +kernel
theorem d_mo_section_106 : decode prog_8_method_23_code 106 = .ok (.laload, 1) := by decide +kernel
theorem d_mo_section_107 : decode prog_8_method_23_code 107 = .ok (.lastore, 1) := by decide +kernel
theorem d_mo_section_108 : decode prog_8_method_23_code 108 = .ok (.iinc 6 1, 3) := by decide +kernel
theorem d_mo_section_111 : decode prog_8_method_23_code 111 = .ok (.goto (-36), 3) := by decide +kernel
theorem d_mo_section_114 : decode prog_8_method_23_code 114 = .ok (.aload_n 0, 1) := by decide +kernel
theorem d_mo_section_115 : decode prog_8_method_23_code 115 = .ok (.iload 4, 2) := by decide +kernel
theorem d_mo_section_117 : decode prog_8_method_23_code 117 = .ok (.invokevirtual 78, 3) := by decide +kernel
theorem d_mo_section_120 : decode prog_8_method_23_code 120 = .ok (.ireturn, 1) := by decide +kernel
theorem d_mo_spread_0 : decode prog_8_method_24_code 0 = .ok (.aload_n 0, 1) := by decide +kernel
theorem d_mo_spread_1 : decode prog_8_method_24_code 1 = .ok (.iload_n 1, 1) := by decide +kernel
theorem d_mo_spread_2 : decode prog_8_method_24_code 2 = .ok (.invokevirtual 82, 3) := by decide +kernel
theorem d_mo_spread_5 : decode prog_8_method_24_code 5 = .ok (.ifCond .eq 18, 3) := by decide +kernel
theorem d_mo_spread_8 : decode prog_8_method_24_code 8 = .ok (.iload_n 2, 1) := by decide +kernel
theorem d_mo_spread_9 : decode prog_8_method_24_code 9 = .ok (.iconst 1, 1) := by decide +kernel
theorem d_mo_spread_10 : decode prog_8_method_24_code 10 = .ok (.if_icmp .lt 13, 3) := by decide +kernel
theorem d_mo_spread_13 : decode prog_8_method_24_code 13 = .ok (.iload_n 2, 1) := by decide +kernel
theorem d_mo_spread_14 : decode prog_8_method_24_code 14 = .ok (.bipush 24, 2) := by decide +kernel
theorem d_mo_spread_16 : decode prog_8_method_24_code 16 = .ok (.if_icmp .gt 7, 3) := by decide +kernel
theorem d_mo_spread_19 : decode prog_8_method_24_code 19 = .ok (.iconst 1, 1) := by decide +kernel
theorem d_mo_spread_20 : decode prog_8_method_24_code 20 = .ok (.goto 4, 3) := by decide +kernel
theorem d_mo_spread_23 : decode prog_8_method_24_code 23 = .ok (.iconst 0, 1) := by decide +kernel
theorem d_mo_spread_24 : decode prog_8_method_24_code 24 = .ok (.istore_n 3, 1) := by decide +kernel
theorem d_mo_spread_25 : decode prog_8_method_24_code 25 = .ok (.iload_n 3, 1) := by decide +kernel
theorem d_mo_spread_26 : decode prog_8_method_24_code 26 = .ok (.ifCond .eq 13, 3) := by decide +kernel
theorem d_mo_spread_29 : decode prog_8_method_24_code 29 = .ok (.iload_n 2, 1) := by decide +kernel
theorem d_mo_spread_30 : decode prog_8_method_24_code 30 = .ok (.aload_n 0, 1) := by decide +kernel
theorem d_mo_spread_31 : decode prog_8_method_24_code 31 = .ok (.iload_n 1, 1) := by decide +kernel
theorem d_mo_spread_32 : decode prog_8_method_24_code 32 = .ok (.invokevirtual 86, 3) := by decide +kernel
theorem d_mo_spread_35 : decode prog_8_method_24_code 35 = .ok (.imul, 1) := by decide +kernel
theorem d_mo_spread_36 : decode prog_8_method_24_code 36 = .ok (.goto 4, 3) := by decide +kernel
theorem d_mo_spread_39 : decode prog_8_method_24_code 39 = .ok (.iconst 0, 1) := by decide +kernel
theorem d_mo_spread_40 : decode prog_8_method_24_code 40 = .ok (.istore 4, 2) := by decide +kernel
theorem d_mo_spread_42 : decode prog_8_method_24_code 42 = .ok (.aload_n 0, 1) := by decide +kernel
theorem d_mo_spread_43 : decode prog_8_method_24_code 43 = .ok (.iload_n 3, 1) := by decide +kernel
theorem d_mo_spread_44 : decode prog_8_method_24_code 44 = .ok (.iload 4, 2) := by decide +kernel
theorem d_mo_spread_46 : decode prog_8_method_24_code 46 = .ok (.invokevirtual 89, 3) := by decide +kernel
theorem d_mo_spread_49 : decode prog_8_method_24_code 49 = .ok (.istore 5, 2) := by decide +kernel
theorem d_mo_spread_51 : decode prog_8_method_24_code 51 = .ok (.iload 5, 2) := by decide +kernel
theorem d_mo_spread_53 : decode prog_8_method_24_code 53 = .ok (.ifCond .ge 6, 3) := by decide +kernel
theorem d_mo_spread_56 : decode prog_8_method_24_code 56 = .ok (.iload 5, 2) := by decide +kernel
theorem d_mo_spread_58 : decode prog_8_method_24_code 58 = .ok (.ireturn, 1) := by decide +kernel
theorem d_mo_spread_59 : decode prog_8_method_24_code 59 = .ok (.aload_n 0, 1) := by decide +kernel
theorem d_mo_spread_60 : decode prog_8_method_24_code 60 = .ok (.iconst 0, 1) := by decide +kernel
theorem d_mo_spread_61 : decode prog_8_method_24_code 61 = .ok (.iload_n 1, 1) := by decide +kernel
theorem d_mo_spread_62 : decode prog_8_method_24_code 62 = .ok (.iconst 2, 1) := by decide +kernel
theorem d_mo_spread_63 : decode prog_8_method_24_code 63 = .ok (.iload 4, 2) := by decide +kernel
theorem d_mo_spread_65 : decode prog_8_method_24_code 65 = .ok (.imul, 1) := by decide +kernel
theorem d_mo_spread_66 : decode prog_8_method_24_code 66 = .ok (.invokevirtual 93, 3) := by decide +kernel
theorem d_mo_spread_69 : decode prog_8_method_24_code 69 = .ok (.iconst 0, 1) := by decide +kernel
theorem d_mo_spread_70 : decode prog_8_method_24_code 70 = .ok (.istore 6, 2) := by decide +kernel
theorem d_mo_spread_72 : decode prog_8_method_24_code 72 = .ok (.iload 6, 2) := by decide +kernel
theorem d_mo_spread_74 : decode prog_8_method_24_code 74 = .ok (.iconst 2, 1) := by decide +kernel
theorem d_mo_spread_75 : decode prog_8_method_24_code 75 = .ok (.iload 4, 2) := by decide +kernel
theorem d_mo_spread_77 : decode prog_8_method_24_code 77 = .ok (.imul, 1) := by decide +kernel
theorem d_mo_spread_78 : decode prog_8_method_24_code 78 = .ok (.if_icmp .ge 42, 3) := by decide +kernel
theorem d_mo_spread_81 : decode prog_8_method_24_code 81 = .ok (.aload_n 0, 1) := by decide +kernel
theorem d_mo_spread_82 : decode prog_8_method_24_code 82 = .ok (.getfield 23, 3) := by decide +kernel
theorem d_mo_spread_85 : decode prog_8_method_24_code 85 = .ok (.sipush 2300, 3) := by decide +kernel
theorem d_mo_spread_88 : decode prog_8_method_24_code 88 = .ok (.iload 6, 2) := by decide +kernel
theorem d_mo_spread_90 : decode prog_8_method_24_code 90 = .ok (.iadd, 1) := by decide +kernel
theorem d_mo_spread_91 : decode prog_8_method_24_code 91 = .ok (.iload 6, 2) := by decide +kernel
theorem d_mo_spread_93 : decode prog_8_method_24_code 93 = .ok (.iload_n 2, 1) := by decide +kernel
theorem d_mo_spread_94 : decode prog_8_method_24_code 94 = .ok (.irem, 1) := by decide +kernel
theorem d_mo_spread_95 : decode prog_8_method_24_code 95 = .ok (.ifCond .ne 17, 3) := by decide +kernel
theorem d_mo_spread_98 : decode prog_8_method_24_code 98 = .ok (.aload_n 0, 1) := by decide +kernel
theorem d_mo_spread_99 : decode prog_8_method_24_code 99 = .ok (.getfield 23, 3) := by decide +kernel
theorem d_mo_spread_102 : decode prog_8_method_24_code 102 = .ok (.iconst 0, 1) := by decide +kernel
theorem d_mo_spread_103 : decode prog_8_method_24_code 103 = .ok (.iload 6, 2) := by decide +kernel
theorem d_mo_spread_105 : decode prog_8_method_24_code 105 = .ok (.iload_n 2, 1) := by decide +kernel
theorem d_mo_spread_106 : decode prog_8_method_24_code 106 = .ok (.idiv, 1) := by decide +kernel
theorem d_mo_spread_107 : decode prog_8_method_24_code 107 = .ok (.iadd, 1) := by decide +kernel
theorem d_mo_spread_108 : decode prog_8_method_24_code 108 = .ok (.laload, 1) := by decide +kernel
theorem d_mo_spread_109 : decode prog_8_method_24_code 109 = .ok (.goto 4, 3) := by decide +kernel
theorem d_mo_spread_112 : decode prog_8_method_24_code 112 = .ok (.lconst 0, 1) := by decide +kernel
theorem d_mo_spread_113 : decode prog_8_method_24_code 113 = .ok (.lastore, 1) := by decide +kernel
theorem d_mo_spread_114 : decode prog_8_method_24_code 114 = .ok (.iinc 6 1, 3) := by decide +kernel
theorem d_mo_spread_117 : decode prog_8_method_24_code 117 = .ok (.goto (-45), 3) := by decide +kernel
theorem d_mo_spread_120 : decode prog_8_method_24_code 120 = .ok (.aload_n 0, 1) := by decide +kernel
theorem d_mo_spread_121 : decode prog_8_method_24_code 121 = .ok (.iload 4, 2) := by decide +kernel
theorem d_mo_spread_123 : decode prog_8_method_24_code 123 = .ok (.invokevirtual 78, 3) := by decide +kernel
theorem d_mo_spread_126 : decode prog_8_method_24_code 126 = .ok (.ireturn, 1) := by decide +kernel
theorem d_mo_forget_0 : decode prog_8_method_25_code 0 = .ok (.aload_n 0, 1) := by decide +kernel
theorem d_mo_forget_1 : decode prog_8_method_25_code 1 = .ok (.getfield 48, 3) := by decide +kernel
theorem d_mo_forget_4 : decode prog_8_method_25_code 4 = .ok (.ifCond .ne 5, 3) := by decide +kernel
theorem d_mo_forget_7 : decode prog_8_method_25_code 7 = .ok (.iconst 0, 1) := by decide +kernel
theorem d_mo_forget_8 : decode prog_8_method_25_code 8 = .ok (.ireturn, 1) := by decide +kernel
theorem d_mo_forget_9 : decode prog_8_method_25_code 9 = .ok (.aload_n 0, 1) := by decide +kernel
theorem d_mo_forget_10 : decode prog_8_method_25_code 10 = .ok (.dup, 1) := by decide +kernel
theorem d_mo_forget_11 : decode prog_8_method_25_code 11 = .ok (.getfield 48, 3) := by decide +kernel
theorem d_mo_forget_14 : decode prog_8_method_25_code 14 = .ok (.iconst 1, 1) := by decide +kernel
theorem d_mo_forget_15 : decode prog_8_method_25_code 15 = .ok (.isub, 1) := by decide +kernel
theorem d_mo_forget_16 : decode prog_8_method_25_code 16 = .ok (.putfield 48, 3) := by decide +kernel
theorem d_mo_forget_19 : decode prog_8_method_25_code 19 = .ok (.iconst 1, 1) := by decide +kernel
theorem d_mo_forget_20 : decode prog_8_method_25_code 20 = .ok (.ireturn, 1) := by decide +kernel
theorem d_mo_count_0 : decode prog_8_method_26_code 0 = .ok (.aload_n 0, 1) := by decide +kernel
theorem d_mo_count_1 : decode prog_8_method_26_code 1 = .ok (.getfield 48, 3) := by decide +kernel
theorem d_mo_count_4 : decode prog_8_method_26_code 4 = .ok (.ireturn, 1) := by decide +kernel
theorem d_mo_order_0 : decode prog_8_method_27_code 0 = .ok (.aload_n 0, 1) := by decide +kernel
theorem d_mo_order_1 : decode prog_8_method_27_code 1 = .ok (.iload_n 1, 1) := by decide +kernel
theorem d_mo_order_2 : decode prog_8_method_27_code 2 = .ok (.invokevirtual 82, 3) := by decide +kernel
theorem d_mo_order_5 : decode prog_8_method_27_code 5 = .ok (.ifCond .eq 12, 3) := by decide +kernel
theorem d_mo_order_8 : decode prog_8_method_27_code 8 = .ok (.aload_n 0, 1) := by decide +kernel
theorem d_mo_order_9 : decode prog_8_method_27_code 9 = .ok (.getfield 13, 3) := by decide +kernel
theorem d_mo_order_12 : decode prog_8_method_27_code 12 = .ok (.iload_n 1, 1) := by decide +kernel
theorem d_mo_order_13 : decode prog_8_method_27_code 13 = .ok (.iaload, 1) := by decide +kernel
theorem d_mo_order_14 : decode prog_8_method_27_code 14 = .ok (.goto 4, 3) := by decide +kernel
theorem d_mo_order_17 : decode prog_8_method_27_code 17 = .ok (.iconst (-1), 1) := by decide +kernel
theorem d_mo_order_18 : decode prog_8_method_27_code 18 = .ok (.ireturn, 1) := by decide +kernel
theorem d_mo_coefficient_0 : decode prog_8_method_28_code 0 = .ok (.iload_n 2, 1) := by decide +kernel
theorem d_mo_coefficient_1 : decode prog_8_method_28_code 1 = .ok (.iconst 1, 1) := by decide +kernel
theorem d_mo_coefficient_2 : decode prog_8_method_28_code 2 = .ok (.if_icmp .lt 29, 3) := by decide +kernel
theorem d_mo_coefficient_5 : decode prog_8_method_28_code 5 = .ok (.iload_n 2, 1) := by decide +kernel
theorem d_mo_coefficient_6 : decode prog_8_method_28_code 6 = .ok (.aload_n 0, 1) := by decide +kernel
theorem d_mo_coefficient_7 : decode prog_8_method_28_code 7 = .ok (.iload_n 1, 1) := by decide +kernel
theorem d_mo_coefficient_8 : decode prog_8_method_28_code 8 = .ok (.invokevirtual 86, 3) := by decide +kernel
theorem d_mo_coefficient_11 : decode prog_8_method_28_code 11 = .ok (.if_icmp .gt 20, 3) := by decide +kernel
theorem d_mo_coefficient_14 : decode prog_8_method_28_code 14 = .ok (.aload_n 0, 1) := by decide +kernel
theorem d_mo_coefficient_15 : decode prog_8_method_28_code 15 = .ok (.getfield 17, 3) := by decide +kernel
theorem d_mo_coefficient_18 : decode prog_8_method_28_code 18 = .ok (.bipush 24, 2) := by decide +kernel
theorem d_mo_coefficient_20 : decode prog_8_method_28_code 20 = .ok (.iload_n 1, 1) := by decide +kernel
theorem d_mo_coefficient_21 : decode prog_8_method_28_code 21 = .ok (.imul, 1) := by decide +kernel
theorem d_mo_coefficient_22 : decode prog_8_method_28_code 22 = .ok (.iload_n 2, 1) := by decide +kernel
theorem d_mo_coefficient_23 : decode prog_8_method_28_code 23 = .ok (.iadd, 1) := by decide +kernel
theorem d_mo_coefficient_24 : decode prog_8_method_28_code 24 = .ok (.iconst 1, 1) := by decide +kernel
theorem d_mo_coefficient_25 : decode prog_8_method_28_code 25 = .ok (.isub, 1) := by decide +kernel
theorem d_mo_coefficient_26 : decode prog_8_method_28_code 26 = .ok (.laload, 1) := by decide +kernel
theorem d_mo_coefficient_27 : decode prog_8_method_28_code 27 = .ok (.l2i, 1) := by decide +kernel
theorem d_mo_coefficient_28 : decode prog_8_method_28_code 28 = .ok (.goto 4, 3) := by decide +kernel
theorem d_mo_coefficient_31 : decode prog_8_method_28_code 31 = .ok (.iconst (-1), 1) := by decide +kernel
theorem d_mo_coefficient_32 : decode prog_8_method_28_code 32 = .ok (.ireturn, 1) := by decide +kernel
theorem d_mo_makeStep_0 : decode prog_8_method_29_code 0 = .ok (.iconst 0, 1) := by decide +kernel
theorem d_mo_makeStep_1 : decode prog_8_method_29_code 1 = .ok (.istore_n 3, 1) := by decide +kernel
theorem d_mo_makeStep_2 : decode prog_8_method_29_code 2 = .ok (.iload_n 3, 1) := by decide +kernel
theorem d_mo_makeStep_3 : decode prog_8_method_29_code 3 = .ok (.iload_n 2, 1) := by decide +kernel
theorem d_mo_makeStep_4 : decode prog_8_method_29_code 4 = .ok (.if_icmp .ge 75, 3) := by decide +kernel
theorem d_mo_makeStep_7 : decode prog_8_method_29_code 7 = .ok (.iconst 0, 1) := by decide +kernel
theorem d_mo_makeStep_8 : decode prog_8_method_29_code 8 = .ok (.istore 4, 2) := by decide +kernel
theorem d_mo_makeStep_10 : decode prog_8_method_29_code 10 = .ok (.iload 4, 2) := by decide +kernel
theorem d_mo_makeStep_12 : decode prog_8_method_29_code 12 = .ok (.iload_n 2, 1) := by decide +kernel
theorem d_mo_makeStep_13 : decode prog_8_method_29_code 13 = .ok (.if_icmp .ge 60, 3) := by decide +kernel
theorem d_mo_makeStep_16 : decode prog_8_method_29_code 16 = .ok (.aload_n 0, 1) := by decide +kernel
theorem d_mo_makeStep_17 : decode prog_8_method_29_code 17 = .ok (.getfield 32, 3) := by decide +kernel
theorem d_mo_makeStep_20 : decode prog_8_method_29_code 20 = .ok (.bipush 24, 2) := by decide +kernel
theorem d_mo_makeStep_22 : decode prog_8_method_29_code 22 = .ok (.iload_n 3, 1) := by decide +kernel
theorem d_mo_makeStep_23 : decode prog_8_method_29_code 23 = .ok (.imul, 1) := by decide +kernel
theorem d_mo_makeStep_24 : decode prog_8_method_29_code 24 = .ok (.iload 4, 2) := by decide +kernel
theorem d_mo_makeStep_26 : decode prog_8_method_29_code 26 = .ok (.iadd, 1) := by decide +kernel
theorem d_mo_makeStep_27 : decode prog_8_method_29_code 27 = .ok (.iload_n 3, 1) := by decide +kernel
theorem d_mo_makeStep_28 : decode prog_8_method_29_code 28 = .ok (.iload_n 2, 1) := by decide +kernel
theorem d_mo_makeStep_29 : decode prog_8_method_29_code 29 = .ok (.iconst 1, 1) := by decide +kernel
theorem d_mo_makeStep_30 : decode prog_8_method_29_code 30 = .ok (.isub, 1) := by decide +kernel
theorem d_mo_makeStep_31 : decode prog_8_method_29_code 31 = .ok (.if_icmp .ne 22, 3) := by decide +kernel
theorem d_mo_makeStep_34 : decode prog_8_method_29_code 34 = .ok (.aload_n 0, 1) := by decide +kernel
theorem d_mo_makeStep_35 : decode prog_8_method_29_code 35 = .ok (.getfield 17, 3) := by decide +kernel
theorem d_mo_makeStep_38 : decode prog_8_method_29_code 38 = .ok (.bipush 24, 2) := by decide +kernel
theorem d_mo_makeStep_40 : decode prog_8_method_29_code 40 = .ok (.iload_n 1, 1) := by decide +kernel
theorem d_mo_makeStep_41 : decode prog_8_method_29_code 41 = .ok (.imul, 1) := by decide +kernel
theorem d_mo_makeStep_42 : decode prog_8_method_29_code 42 = .ok (.iload_n 2, 1) := by decide +kernel
theorem d_mo_makeStep_43 : decode prog_8_method_29_code 43 = .ok (.iadd, 1) := by decide +kernel
theorem d_mo_makeStep_44 : decode prog_8_method_29_code 44 = .ok (.iconst 1, 1) := by decide +kernel
theorem d_mo_makeStep_45 : decode prog_8_method_29_code 45 = .ok (.isub, 1) := by decide +kernel
theorem d_mo_makeStep_46 : decode prog_8_method_29_code 46 = .ok (.iload 4, 2) := by decide +kernel
theorem d_mo_makeStep_48 : decode prog_8_method_29_code 48 = .ok (.isub, 1) := by decide +kernel
theorem d_mo_makeStep_49 : decode prog_8_method_29_code 49 = .ok (.laload, 1) := by decide +kernel
theorem d_mo_makeStep_50 : decode prog_8_method_29_code 50 = .ok (.goto 16, 3) := by decide +kernel
theorem d_mo_makeStep_53 : decode prog_8_method_29_code 53 = .ok (.iload 4, 2) := by decide +kernel
theorem d_mo_makeStep_55 : decode prog_8_method_29_code 55 = .ok (.iload_n 3, 1) := by decide +kernel
theorem d_mo_makeStep_56 : decode prog_8_method_29_code 56 = .ok (.iconst 1, 1) := by decide +kernel
theorem d_mo_makeStep_57 : decode prog_8_method_29_code 57 = .ok (.iadd, 1) := by decide +kernel
theorem d_mo_makeStep_58 : decode prog_8_method_29_code 58 = .ok (.if_icmp .ne 7, 3) := by decide +kernel
theorem d_mo_makeStep_61 : decode prog_8_method_29_code 61 = .ok (.lconst 1, 1) := by decide +kernel
theorem d_mo_makeStep_62 : decode prog_8_method_29_code 62 = .ok (.goto 4, 3) := by decide +kernel
theorem d_mo_makeStep_65 : decode prog_8_method_29_code 65 = .ok (.lconst 0, 1) := by decide +kernel
theorem d_mo_makeStep_66 : decode prog_8_method_29_code 66 = .ok (.lastore, 1) := by decide +kernel
theorem d_mo_makeStep_67 : decode prog_8_method_29_code 67 = .ok (.iinc 4 1, 3) := by decide +kernel
theorem d_mo_makeStep_70 : decode prog_8_method_29_code 70 = .ok (.goto (-60), 3) := by decide +kernel
theorem d_mo_makeStep_73 : decode prog_8_method_29_code 73 = .ok (.iinc 3 1, 3) := by decide +kernel
theorem d_mo_makeStep_76 : decode prog_8_method_29_code 76 = .ok (.goto (-74), 3) := by decide +kernel
theorem d_mo_makeStep_79 : decode prog_8_method_29_code 79 = .ok (.return_, 1) := by decide +kernel
theorem d_mo_applyStep_0 : decode prog_8_method_30_code 0 = .ok (.iconst 0, 1) := by decide +kernel
theorem d_mo_applyStep_1 : decode prog_8_method_30_code 1 = .ok (.istore_n 2, 1) := by decide +kernel
theorem d_mo_applyStep_2 : decode prog_8_method_30_code 2 = .ok (.iload_n 2, 1) := by decide +kernel
theorem d_mo_applyStep_3 : decode prog_8_method_30_code 3 = .ok (.iload_n 1, 1) := by decide +kernel
theorem d_mo_applyStep_4 : decode prog_8_method_30_code 4 = .ok (.if_icmp .ge 60, 3) := by decide +kernel
theorem d_mo_applyStep_7 : decode prog_8_method_30_code 7 = .ok (.lconst 0, 1) := by decide +kernel
theorem d_mo_applyStep_8 : decode prog_8_method_30_code 8 = .ok (.lstore_n 3, 1) := by decide +kernel
theorem d_mo_applyStep_9 : decode prog_8_method_30_code 9 = .ok (.iconst 0, 1) := by decide +kernel
theorem d_mo_applyStep_10 : decode prog_8_method_30_code 10 = .ok (.istore 5, 2) := by decide +kernel
theorem d_mo_applyStep_12 : decode prog_8_method_30_code 12 = .ok (.iload 5, 2) := by decide +kernel
theorem d_mo_applyStep_14 : decode prog_8_method_30_code 14 = .ok (.iload_n 1, 1) := by decide +kernel
theorem d_mo_applyStep_15 : decode prog_8_method_30_code 15 = .ok (.if_icmp .ge 36, 3) := by decide +kernel
theorem d_mo_applyStep_18 : decode prog_8_method_30_code 18 = .ok (.lload_n 3, 1) := by decide +kernel
theorem d_mo_applyStep_19 : decode prog_8_method_30_code 19 = .ok (.aload_n 0, 1) := by decide +kernel
theorem d_mo_applyStep_20 : decode prog_8_method_30_code 20 = .ok (.getfield 32, 3) := by decide +kernel
theorem d_mo_applyStep_23 : decode prog_8_method_30_code 23 = .ok (.bipush 24, 2) := by decide +kernel
theorem d_mo_applyStep_25 : decode prog_8_method_30_code 25 = .ok (.iload_n 2, 1) := by decide +kernel
theorem d_mo_applyStep_26 : decode prog_8_method_30_code 26 = .ok (.imul, 1) := by decide +kernel
theorem d_mo_applyStep_27 : decode prog_8_method_30_code 27 = .ok (.iload 5, 2) := by decide +kernel
theorem d_mo_applyStep_29 : decode prog_8_method_30_code 29 = .ok (.iadd, 1) := by decide +kernel
theorem d_mo_applyStep_30 : decode prog_8_method_30_code 30 = .ok (.laload, 1) := by decide +kernel
theorem d_mo_applyStep_31 : decode prog_8_method_30_code 31 = .ok (.aload_n 0, 1) := by decide +kernel
theorem d_mo_applyStep_32 : decode prog_8_method_30_code 32 = .ok (.getfield 38, 3) := by decide +kernel
theorem d_mo_applyStep_35 : decode prog_8_method_30_code 35 = .ok (.iload 5, 2) := by decide +kernel
theorem d_mo_applyStep_37 : decode prog_8_method_30_code 37 = .ok (.laload, 1) := by decide +kernel
theorem d_mo_applyStep_38 : decode prog_8_method_30_code 38 = .ok (.lmul, 1) := by decide +kernel
theorem d_mo_applyStep_39 : decode prog_8_method_30_code 39 = .ok (.ladd, 1) := by decide +kernel
theorem d_mo_applyStep_40 : decode prog_8_method_30_code 40 = .ok (.ldc2_w 44, 3) := by decide +kernel
theorem d_mo_applyStep_43 : decode prog_8_method_30_code 43 = .ok (.lrem, 1) := by decide +kernel
theorem d_mo_applyStep_44 : decode prog_8_method_30_code 44 = .ok (.lstore_n 3, 1) := by decide +kernel
theorem d_mo_applyStep_45 : decode prog_8_method_30_code 45 = .ok (.iinc 5 1, 3) := by decide +kernel
theorem d_mo_applyStep_48 : decode prog_8_method_30_code 48 = .ok (.goto (-36), 3) := by decide +kernel
theorem d_mo_applyStep_51 : decode prog_8_method_30_code 51 = .ok (.aload_n 0, 1) := by decide +kernel
theorem d_mo_applyStep_52 : decode prog_8_method_30_code 52 = .ok (.getfield 41, 3) := by decide +kernel
theorem d_mo_applyStep_55 : decode prog_8_method_30_code 55 = .ok (.iload_n 2, 1) := by decide +kernel
theorem d_mo_applyStep_56 : decode prog_8_method_30_code 56 = .ok (.lload_n 3, 1) := by decide +kernel
theorem d_mo_applyStep_57 : decode prog_8_method_30_code 57 = .ok (.lastore, 1) := by decide +kernel
theorem d_mo_applyStep_58 : decode prog_8_method_30_code 58 = .ok (.iinc 2 1, 3) := by decide +kernel
theorem d_mo_applyStep_61 : decode prog_8_method_30_code 61 = .ok (.goto (-59), 3) := by decide +kernel
theorem d_mo_applyStep_64 : decode prog_8_method_30_code 64 = .ok (.iconst 0, 1) := by decide +kernel
theorem d_mo_applyStep_65 : decode prog_8_method_30_code 65 = .ok (.istore_n 2, 1) := by decide +kernel
theorem d_mo_applyStep_66 : decode prog_8_method_30_code 66 = .ok (.iload_n 2, 1) := by decide +kernel
theorem d_mo_applyStep_67 : decode prog_8_method_30_code 67 = .ok (.iload_n 1, 1) := by decide +kernel
theorem d_mo_applyStep_68 : decode prog_8_method_30_code 68 = .ok (.if_icmp .ge 21, 3) := by decide +kernel
theorem d_mo_applyStep_71 : decode prog_8_method_30_code 71 = .ok (.aload_n 0, 1) := by decide +kernel
theorem d_mo_applyStep_72 : decode prog_8_method_30_code 72 = .ok (.getfield 38, 3) := by decide +kernel
theorem d_mo_applyStep_75 : decode prog_8_method_30_code 75 = .ok (.iload_n 2, 1) := by decide +kernel
theorem d_mo_applyStep_76 : decode prog_8_method_30_code 76 = .ok (.aload_n 0, 1) := by decide +kernel
theorem d_mo_applyStep_77 : decode prog_8_method_30_code 77 = .ok (.getfield 41, 3) := by decide +kernel
theorem d_mo_applyStep_80 : decode prog_8_method_30_code 80 = .ok (.iload_n 2, 1) := by decide +kernel
theorem d_mo_applyStep_81 : decode prog_8_method_30_code 81 = .ok (.laload, 1) := by decide +kernel
theorem d_mo_applyStep_82 : decode prog_8_method_30_code 82 = .ok (.lastore, 1) := by decide +kernel
theorem d_mo_applyStep_83 : decode prog_8_method_30_code 83 = .ok (.iinc 2 1, 3) := by decide +kernel
theorem d_mo_applyStep_86 : decode prog_8_method_30_code 86 = .ok (.goto (-20), 3) := by decide +kernel
theorem d_mo_applyStep_89 : decode prog_8_method_30_code 89 = .ok (.return_, 1) := by decide +kernel
theorem d_mo_squareStep_0 : decode prog_8_method_31_code 0 = .ok (.iconst 0, 1) := by decide +kernel
theorem d_mo_squareStep_1 : decode prog_8_method_31_code 1 = .ok (.istore_n 2, 1) := by decide +kernel
theorem d_mo_squareStep_2 : decode prog_8_method_31_code 2 = .ok (.iload_n 2, 1) := by decide +kernel
theorem d_mo_squareStep_3 : decode prog_8_method_31_code 3 = .ok (.iload_n 1, 1) := by decide +kernel
theorem d_mo_squareStep_4 : decode prog_8_method_31_code 4 = .ok (.if_icmp .ge 87, 3) := by decide +kernel
theorem d_mo_squareStep_7 : decode prog_8_method_31_code 7 = .ok (.iconst 0, 1) := by decide +kernel
theorem d_mo_squareStep_8 : decode prog_8_method_31_code 8 = .ok (.istore_n 3, 1) := by decide +kernel
theorem d_mo_squareStep_9 : decode prog_8_method_31_code 9 = .ok (.iload_n 3, 1) := by decide +kernel
theorem d_mo_squareStep_10 : decode prog_8_method_31_code 10 = .ok (.iload_n 1, 1) := by decide +kernel
theorem d_mo_squareStep_11 : decode prog_8_method_31_code 11 = .ok (.if_icmp .ge 74, 3) := by decide +kernel
theorem d_mo_squareStep_14 : decode prog_8_method_31_code 14 = .ok (.lconst 0, 1) := by decide +kernel
theorem d_mo_squareStep_15 : decode prog_8_method_31_code 15 = .ok (.lstore 4, 2) := by decide +kernel
theorem d_mo_squareStep_17 : decode prog_8_method_31_code 17 = .ok (.iconst 0, 1) := by decide +kernel
theorem d_mo_squareStep_18 : decode prog_8_method_31_code 18 = .ok (.istore 6, 2) := by decide +kernel
theorem d_mo_squareStep_20 : decode prog_8_method_31_code 20 = .ok (.iload 6, 2) := by decide +kernel
theorem d_mo_squareStep_22 : decode prog_8_method_31_code 22 = .ok (.iload_n 1, 1) := by decide +kernel
theorem d_mo_squareStep_23 : decode prog_8_method_31_code 23 = .ok (.if_icmp .ge 43, 3) := by decide +kernel
theorem d_mo_squareStep_26 : decode prog_8_method_31_code 26 = .ok (.lload 4, 2) := by decide +kernel
theorem d_mo_squareStep_28 : decode prog_8_method_31_code 28 = .ok (.aload_n 0, 1) := by decide +kernel
theorem d_mo_squareStep_29 : decode prog_8_method_31_code 29 = .ok (.getfield 32, 3) := by decide +kernel
theorem d_mo_squareStep_32 : decode prog_8_method_31_code 32 = .ok (.bipush 24, 2) := by decide +kernel
theorem d_mo_squareStep_34 : decode prog_8_method_31_code 34 = .ok (.iload_n 2, 1) := by decide +kernel
theorem d_mo_squareStep_35 : decode prog_8_method_31_code 35 = .ok (.imul, 1) := by decide +kernel
theorem d_mo_squareStep_36 : decode prog_8_method_31_code 36 = .ok (.iload 6, 2) := by decide +kernel
theorem d_mo_squareStep_38 : decode prog_8_method_31_code 38 = .ok (.iadd, 1) := by decide +kernel
theorem d_mo_squareStep_39 : decode prog_8_method_31_code 39 = .ok (.laload, 1) := by decide +kernel
theorem d_mo_squareStep_40 : decode prog_8_method_31_code 40 = .ok (.aload_n 0, 1) := by decide +kernel
theorem d_mo_squareStep_41 : decode prog_8_method_31_code 41 = .ok (.getfield 32, 3) := by decide +kernel
theorem d_mo_squareStep_44 : decode prog_8_method_31_code 44 = .ok (.bipush 24, 2) := by decide +kernel
theorem d_mo_squareStep_46 : decode prog_8_method_31_code 46 = .ok (.iload 6, 2) := by decide +kernel
theorem d_mo_squareStep_48 : decode prog_8_method_31_code 48 = .ok (.imul, 1) := by decide +kernel
theorem d_mo_squareStep_49 : decode prog_8_method_31_code 49 = .ok (.iload_n 3, 1) := by decide +kernel
theorem d_mo_squareStep_50 : decode prog_8_method_31_code 50 = .ok (.iadd, 1) := by decide +kernel
theorem d_mo_squareStep_51 : decode prog_8_method_31_code 51 = .ok (.laload, 1) := by decide +kernel
theorem d_mo_squareStep_52 : decode prog_8_method_31_code 52 = .ok (.lmul, 1) := by decide +kernel
theorem d_mo_squareStep_53 : decode prog_8_method_31_code 53 = .ok (.ladd, 1) := by decide +kernel
theorem d_mo_squareStep_54 : decode prog_8_method_31_code 54 = .ok (.ldc2_w 44, 3) := by decide +kernel
theorem d_mo_squareStep_57 : decode prog_8_method_31_code 57 = .ok (.lrem, 1) := by decide +kernel
theorem d_mo_squareStep_58 : decode prog_8_method_31_code 58 = .ok (.lstore 4, 2) := by decide +kernel
theorem d_mo_squareStep_60 : decode prog_8_method_31_code 60 = .ok (.iinc 6 1, 3) := by decide +kernel
theorem d_mo_squareStep_63 : decode prog_8_method_31_code 63 = .ok (.goto (-43), 3) := by decide +kernel
theorem d_mo_squareStep_66 : decode prog_8_method_31_code 66 = .ok (.aload_n 0, 1) := by decide +kernel
theorem d_mo_squareStep_67 : decode prog_8_method_31_code 67 = .ok (.getfield 35, 3) := by decide +kernel
theorem d_mo_squareStep_70 : decode prog_8_method_31_code 70 = .ok (.bipush 24, 2) := by decide +kernel
theorem d_mo_squareStep_72 : decode prog_8_method_31_code 72 = .ok (.iload_n 2, 1) := by decide +kernel
theorem d_mo_squareStep_73 : decode prog_8_method_31_code 73 = .ok (.imul, 1) := by decide +kernel
theorem d_mo_squareStep_74 : decode prog_8_method_31_code 74 = .ok (.iload_n 3, 1) := by decide +kernel
theorem d_mo_squareStep_75 : decode prog_8_method_31_code 75 = .ok (.iadd, 1) := by decide +kernel
theorem d_mo_squareStep_76 : decode prog_8_method_31_code 76 = .ok (.lload 4, 2) := by decide +kernel
theorem d_mo_squareStep_78 : decode prog_8_method_31_code 78 = .ok (.lastore, 1) := by decide +kernel
theorem d_mo_squareStep_79 : decode prog_8_method_31_code 79 = .ok (.iinc 3 1, 3) := by decide +kernel
theorem d_mo_squareStep_82 : decode prog_8_method_31_code 82 = .ok (.goto (-73), 3) := by decide +kernel
theorem d_mo_squareStep_85 : decode prog_8_method_31_code 85 = .ok (.iinc 2 1, 3) := by decide +kernel
theorem d_mo_squareStep_88 : decode prog_8_method_31_code 88 = .ok (.goto (-86), 3) := by decide +kernel
theorem d_mo_squareStep_91 : decode prog_8_method_31_code 91 = .ok (.iconst 0, 1) := by decide +kernel
theorem d_mo_squareStep_92 : decode prog_8_method_31_code 92 = .ok (.istore_n 2, 1) := by decide +kernel
theorem d_mo_squareStep_93 : decode prog_8_method_31_code 93 = .ok (.iload_n 2, 1) := by decide +kernel
theorem d_mo_squareStep_94 : decode prog_8_method_31_code 94 = .ok (.sipush 576, 3) := by decide +kernel
theorem d_mo_squareStep_97 : decode prog_8_method_31_code 97 = .ok (.if_icmp .ge 21, 3) := by decide +kernel
theorem d_mo_squareStep_100 : decode prog_8_method_31_code 100 = .ok (.aload_n 0, 1) := by decide +kernel
theorem d_mo_squareStep_101 : decode prog_8_method_31_code 101 = .ok (.getfield 32, 3) := by decide +kernel
theorem d_mo_squareStep_104 : decode prog_8_method_31_code 104 = .ok (.iload_n 2, 1) := by decide +kernel
theorem d_mo_squareStep_105 : decode prog_8_method_31_code 105 = .ok (.aload_n 0, 1) := by decide +kernel
theorem d_mo_squareStep_106 : decode prog_8_method_31_code 106 = .ok (.getfield 35, 3) := by decide +kernel
theorem d_mo_squareStep_109 : decode prog_8_method_31_code 109 = .ok (.iload_n 2, 1) := by decide +kernel
theorem d_mo_squareStep_110 : decode prog_8_method_31_code 110 = .ok (.laload, 1) := by decide +kernel
theorem d_mo_squareStep_111 : decode prog_8_method_31_code 111 = .ok (.lastore, 1) := by decide +kernel
theorem d_mo_squareStep_112 : decode prog_8_method_31_code 112 = .ok (.iinc 2 1, 3) := by decide +kernel
theorem d_mo_squareStep_115 : decode prog_8_method_31_code 115 = .ok (.goto (-22), 3) := by decide +kernel
theorem d_mo_squareStep_118 : decode prog_8_method_31_code 118 = .ok (.return_, 1) := by decide +kernel
theorem d_mo_term_0 : decode prog_8_method_32_code 0 = .ok (.aload_n 0, 1) := by decide +kernel
theorem d_mo_term_1 : decode prog_8_method_32_code 1 = .ok (.iload_n 1, 1) := by decide +kernel
theorem d_mo_term_2 : decode prog_8_method_32_code 2 = .ok (.invokevirtual 82, 3) := by decide +kernel
theorem d_mo_term_5 : decode prog_8_method_32_code 5 = .ok (.ifCond .eq 9, 3) := by decide +kernel
theorem d_mo_term_8 : decode prog_8_method_32_code 8 = .ok (.lload_n 2, 1) := by decide +kernel
theorem d_mo_term_9 : decode prog_8_method_32_code 9 = .ok (.lconst 0, 1) := by decide +kernel
theorem d_mo_term_10 : decode prog_8_method_32_code 10 = .ok (.lcmp, 1) := by decide +kernel
theorem d_mo_term_11 : decode prog_8_method_32_code 11 = .ok (.ifCond .ge 5, 3) := by decide +kernel
theorem d_mo_term_14 : decode prog_8_method_32_code 14 = .ok (.iconst (-1), 1) := by decide +kernel
theorem d_mo_term_15 : decode prog_8_method_32_code 15 = .ok (.ireturn, 1) := by decide +kernel
theorem d_mo_term_16 : decode prog_8_method_32_code 16 = .ok (.aload_n 0, 1) := by decide +kernel
theorem d_mo_term_17 : decode prog_8_method_32_code 17 = .ok (.getfield 13, 3) := by decide +kernel
theorem d_mo_term_20 : decode prog_8_method_32_code 20 = .ok (.iload_n 1, 1) := by decide +kernel
theorem d_mo_term_21 : decode prog_8_method_32_code 21 = .ok (.iaload, 1) := by decide +kernel
theorem d_mo_term_22 : decode prog_8_method_32_code 22 = .ok (.istore 4, 2) := by decide +kernel
theorem d_mo_term_24 : decode prog_8_method_32_code 24 = .ok (.iload 4, 2) := by decide +kernel
theorem d_mo_term_26 : decode prog_8_method_32_code 26 = .ok (.ifCond .ne 5, 3) := by decide +kernel
theorem d_mo_term_29 : decode prog_8_method_32_code 29 = .ok (.iconst 0, 1) := by decide +kernel
theorem d_mo_term_30 : decode prog_8_method_32_code 30 = .ok (.ireturn, 1) := by decide +kernel
theorem d_mo_term_31 : decode prog_8_method_32_code 31 = .ok (.aload_n 0, 1) := by decide +kernel
theorem d_mo_term_32 : decode prog_8_method_32_code 32 = .ok (.iload_n 1, 1) := by decide +kernel
theorem d_mo_term_33 : decode prog_8_method_32_code 33 = .ok (.iload 4, 2) := by decide +kernel
theorem d_mo_term_35 : decode prog_8_method_32_code 35 = .ok (.invokevirtual 100, 3) := by decide +kernel
theorem d_mo_term_38 : decode prog_8_method_32_code 38 = .ok (.iconst 0, 1) := by decide +kernel
theorem d_mo_term_39 : decode prog_8_method_32_code 39 = .ok (.istore 5, 2) := by decide +kernel
theorem d_mo_term_41 : decode prog_8_method_32_code 41 = .ok (.iload 5, 2) := by decide +kernel
theorem d_mo_term_43 : decode prog_8_method_32_code 43 = .ok (.iload 4, 2) := by decide +kernel
theorem d_mo_term_45 : decode prog_8_method_32_code 45 = .ok (.if_icmp .ge 28, 3) := by decide +kernel
theorem d_mo_term_48 : decode prog_8_method_32_code 48 = .ok (.aload_n 0, 1) := by decide +kernel
theorem d_mo_term_49 : decode prog_8_method_32_code 49 = .ok (.getfield 38, 3) := by decide +kernel
theorem d_mo_term_52 : decode prog_8_method_32_code 52 = .ok (.iload 5, 2) := by decide +kernel
theorem d_mo_term_54 : decode prog_8_method_32_code 54 = .ok (.aload_n 0, 1) := by decide +kernel
theorem d_mo_term_55 : decode prog_8_method_32_code 55 = .ok (.getfield 20, 3) := by decide +kernel
theorem d_mo_term_58 : decode prog_8_method_32_code 58 = .ok (.bipush 24, 2) := by decide +kernel
theorem d_mo_term_60 : decode prog_8_method_32_code 60 = .ok (.iload_n 1, 1) := by decide +kernel
theorem d_mo_term_61 : decode prog_8_method_32_code 61 = .ok (.imul, 1) := by decide +kernel
theorem d_mo_term_62 : decode prog_8_method_32_code 62 = .ok (.iload 5, 2) := by decide +kernel
theorem d_mo_term_64 : decode prog_8_method_32_code 64 = .ok (.iadd, 1) := by decide +kernel
theorem d_mo_term_65 : decode prog_8_method_32_code 65 = .ok (.laload, 1) := by decide +kernel
theorem d_mo_term_66 : decode prog_8_method_32_code 66 = .ok (.lastore, 1) := by decide +kernel
theorem d_mo_term_67 : decode prog_8_method_32_code 67 = .ok (.iinc 5 1, 3) := by decide +kernel
theorem d_mo_term_70 : decode prog_8_method_32_code 70 = .ok (.goto (-29), 3) := by decide +kernel
theorem d_mo_term_73 : decode prog_8_method_32_code 73 = .ok (.lload_n 2, 1) := by decide +kernel
theorem d_mo_term_74 : decode prog_8_method_32_code 74 = .ok (.lstore 5, 2) := by decide +kernel
theorem d_mo_term_76 : decode prog_8_method_32_code 76 = .ok (.lload 5, 2) := by decide +kernel
theorem d_mo_term_78 : decode prog_8_method_32_code 78 = .ok (.lconst 0, 1) := by decide +kernel
theorem d_mo_term_79 : decode prog_8_method_32_code 79 = .ok (.lcmp, 1) := by decide +kernel
theorem d_mo_term_80 : decode prog_8_method_32_code 80 = .ok (.ifCond .le 40, 3) := by decide +kernel
theorem d_mo_term_83 : decode prog_8_method_32_code 83 = .ok (.lload 5, 2) := by decide +kernel
theorem d_mo_term_85 : decode prog_8_method_32_code 85 = .ok (.lconst 1, 1) := by decide +kernel
theorem d_mo_term_86 : decode prog_8_method_32_code 86 = .ok (.land, 1) := by decide +kernel
theorem d_mo_term_87 : decode prog_8_method_32_code 87 = .ok (.lconst 1, 1) := by decide +kernel
theorem d_mo_term_88 : decode prog_8_method_32_code 88 = .ok (.lcmp, 1) := by decide +kernel
theorem d_mo_term_89 : decode prog_8_method_32_code 89 = .ok (.ifCond .ne 9, 3) := by decide +kernel
theorem d_mo_term_92 : decode prog_8_method_32_code 92 = .ok (.aload_n 0, 1) := by decide +kernel
theorem d_mo_term_93 : decode prog_8_method_32_code 93 = .ok (.iload 4, 2) := by decide +kernel
theorem d_mo_term_95 : decode prog_8_method_32_code 95 = .ok (.invokevirtual 104, 3) := by decide +kernel
theorem d_mo_term_98 : decode prog_8_method_32_code 98 = .ok (.lload 5, 2) := by decide +kernel
theorem d_mo_term_100 : decode prog_8_method_32_code 100 = .ok (.lconst 1, 1) := by decide +kernel
theorem d_mo_term_101 : decode prog_8_method_32_code 101 = .ok (.lcmp, 1) := by decide +kernel
theorem d_mo_term_102 : decode prog_8_method_32_code 102 = .ok (.ifCond .le 9, 3) := by decide +kernel
theorem d_mo_term_105 : decode prog_8_method_32_code 105 = .ok (.aload_n 0, 1) := by decide +kernel
theorem d_mo_term_106 : decode prog_8_method_32_code 106 = .ok (.iload 4, 2) := by decide +kernel
theorem d_mo_term_108 : decode prog_8_method_32_code 108 = .ok (.invokevirtual 108, 3) := by decide +kernel
theorem d_mo_term_111 : decode prog_8_method_32_code 111 = .ok (.lload 5, 2) := by decide +kernel
theorem d_mo_term_113 : decode prog_8_method_32_code 113 = .ok (.iconst 1, 1) := by decide +kernel
theorem d_mo_term_114 : decode prog_8_method_32_code 114 = .ok (.lshr, 1) := by decide +kernel
theorem d_mo_term_115 : decode prog_8_method_32_code 115 = .ok (.lstore 5, 2) := by decide +kernel
theorem d_mo_term_117 : decode prog_8_method_32_code 117 = .ok (.goto (-41), 3) := by decide +kernel
theorem d_mo_term_120 : decode prog_8_method_32_code 120 = .ok (.aload_n 0, 1) := by decide +kernel
theorem d_mo_term_121 : decode prog_8_method_32_code 121 = .ok (.getfield 38, 3) := by decide +kernel
theorem d_mo_term_124 : decode prog_8_method_32_code 124 = .ok (.iconst 0, 1) := by decide +kernel
theorem d_mo_term_125 : decode prog_8_method_32_code 125 = .ok (.laload, 1) := by decide +kernel
theorem d_mo_term_126 : decode prog_8_method_32_code 126 = .ok (.l2i, 1) := by decide +kernel
theorem d_mo_term_127 : decode prog_8_method_32_code 127 = .ok (.ireturn, 1) := by decide +kernel
theorem d_mo_differ_0 : decode prog_8_method_33_code 0 = .ok (.aload_n 0, 1) := by decide +kernel
theorem d_mo_differ_1 : decode prog_8_method_33_code 1 = .ok (.iload_n 1, 1) := by decide +kernel
theorem d_mo_differ_2 : decode prog_8_method_33_code 2 = .ok (.invokevirtual 82, 3) := by decide +kernel
theorem d_mo_differ_5 : decode prog_8_method_33_code 5 = .ok (.ifCond .eq 11, 3) := by decide +kernel
theorem d_mo_differ_8 : decode prog_8_method_33_code 8 = .ok (.aload_n 0, 1) := by decide +kernel
theorem d_mo_differ_9 : decode prog_8_method_33_code 9 = .ok (.iload_n 2, 1) := by decide +kernel
theorem d_mo_differ_10 : decode prog_8_method_33_code 10 = .ok (.invokevirtual 82, 3) := by decide +kernel
theorem d_mo_differ_13 : decode prog_8_method_33_code 13 = .ok (.ifCond .ne 6, 3) := by decide +kernel
theorem d_mo_differ_16 : decode prog_8_method_33_code 16 = .ok (.bipush (-2), 2) := by decide +kernel
theorem d_mo_differ_18 : decode prog_8_method_33_code 18 = .ok (.ireturn, 1) := by decide +kernel
theorem d_mo_differ_19 : decode prog_8_method_33_code 19 = .ok (.aload_n 0, 1) := by decide +kernel
theorem d_mo_differ_20 : decode prog_8_method_33_code 20 = .ok (.getfield 13, 3) := by decide +kernel
theorem d_mo_differ_23 : decode prog_8_method_33_code 23 = .ok (.iload_n 1, 1) := by decide +kernel
theorem d_mo_differ_24 : decode prog_8_method_33_code 24 = .ok (.iaload, 1) := by decide +kernel
theorem d_mo_differ_25 : decode prog_8_method_33_code 25 = .ok (.aload_n 0, 1) := by decide +kernel
theorem d_mo_differ_26 : decode prog_8_method_33_code 26 = .ok (.getfield 13, 3) := by decide +kernel
theorem d_mo_differ_29 : decode prog_8_method_33_code 29 = .ok (.iload_n 2, 1) := by decide +kernel
theorem d_mo_differ_30 : decode prog_8_method_33_code 30 = .ok (.iaload, 1) := by decide +kernel
theorem d_mo_differ_31 : decode prog_8_method_33_code 31 = .ok (.iadd, 1) := by decide +kernel
theorem d_mo_differ_32 : decode prog_8_method_33_code 32 = .ok (.istore_n 3, 1) := by decide +kernel
theorem d_mo_differ_33 : decode prog_8_method_33_code 33 = .ok (.aload_n 0, 1) := by decide +kernel
theorem d_mo_differ_34 : decode prog_8_method_33_code 34 = .ok (.iconst 0, 1) := by decide +kernel
theorem d_mo_differ_35 : decode prog_8_method_33_code 35 = .ok (.iload_n 1, 1) := by decide +kernel
theorem d_mo_differ_36 : decode prog_8_method_33_code 36 = .ok (.iload_n 3, 1) := by decide +kernel
theorem d_mo_differ_37 : decode prog_8_method_33_code 37 = .ok (.invokevirtual 93, 3) := by decide +kernel
theorem d_mo_differ_40 : decode prog_8_method_33_code 40 = .ok (.aload_n 0, 1) := by decide +kernel
theorem d_mo_differ_41 : decode prog_8_method_33_code 41 = .ok (.sipush 2200, 3) := by decide +kernel
theorem d_mo_differ_44 : decode prog_8_method_33_code 44 = .ok (.iload_n 2, 1) := by decide +kernel
theorem d_mo_differ_45 : decode prog_8_method_33_code 45 = .ok (.iload_n 3, 1) := by decide +kernel
theorem d_mo_differ_46 : decode prog_8_method_33_code 46 = .ok (.invokevirtual 93, 3) := by decide +kernel
theorem d_mo_differ_49 : decode prog_8_method_33_code 49 = .ok (.iconst 0, 1) := by decide +kernel
theorem d_mo_differ_50 : decode prog_8_method_33_code 50 = .ok (.istore 4, 2) := by decide +kernel
theorem d_mo_differ_52 : decode prog_8_method_33_code 52 = .ok (.iload 4, 2) := by decide +kernel
theorem d_mo_differ_54 : decode prog_8_method_33_code 54 = .ok (.iload_n 3, 1) := by decide +kernel
theorem d_mo_differ_55 : decode prog_8_method_33_code 55 = .ok (.if_icmp .ge 36, 3) := by decide +kernel
theorem d_mo_differ_58 : decode prog_8_method_33_code 58 = .ok (.aload_n 0, 1) := by decide +kernel
theorem d_mo_differ_59 : decode prog_8_method_33_code 59 = .ok (.getfield 23, 3) := by decide +kernel
theorem d_mo_differ_62 : decode prog_8_method_33_code 62 = .ok (.iconst 0, 1) := by decide +kernel
theorem d_mo_differ_63 : decode prog_8_method_33_code 63 = .ok (.iload 4, 2) := by decide +kernel
theorem d_mo_differ_65 : decode prog_8_method_33_code 65 = .ok (.iadd, 1) := by decide +kernel
theorem d_mo_differ_66 : decode prog_8_method_33_code 66 = .ok (.laload, 1) := by decide +kernel
theorem d_mo_differ_67 : decode prog_8_method_33_code 67 = .ok (.aload_n 0, 1) := by decide +kernel
theorem d_mo_differ_68 : decode prog_8_method_33_code 68 = .ok (.getfield 23, 3) := by decide +kernel
theorem d_mo_differ_71 : decode prog_8_method_33_code 71 = .ok (.sipush 2200, 3) := by decide +kernel
theorem d_mo_differ_74 : decode prog_8_method_33_code 74 = .ok (.iload 4, 2) := by decide +kernel
theorem d_mo_differ_76 : decode prog_8_method_33_code 76 = .ok (.iadd, 1) := by decide +kernel
theorem d_mo_differ_77 : decode prog_8_method_33_code 77 = .ok (.laload, 1) := by decide +kernel
theorem d_mo_differ_78 : decode prog_8_method_33_code 78 = .ok (.lcmp, 1) := by decide +kernel
theorem d_mo_differ_79 : decode prog_8_method_33_code 79 = .ok (.ifCond .eq 6, 3) := by decide +kernel
theorem d_mo_differ_82 : decode prog_8_method_33_code 82 = .ok (.iload 4, 2) := by decide +kernel
theorem d_mo_differ_84 : decode prog_8_method_33_code 84 = .ok (.ireturn, 1) := by decide +kernel
theorem d_mo_differ_85 : decode prog_8_method_33_code 85 = .ok (.iinc 4 1, 3) := by decide +kernel
theorem d_mo_differ_88 : decode prog_8_method_33_code 88 = .ok (.goto (-36), 3) := by decide +kernel
theorem d_mo_differ_91 : decode prog_8_method_33_code 91 = .ok (.iconst (-1), 1) := by decide +kernel
theorem d_mo_differ_92 : decode prog_8_method_33_code 92 = .ok (.ireturn, 1) := by decide +kernel
theorem d_mo_obeys_0 : decode prog_8_method_34_code 0 = .ok (.aload_n 0, 1) := by decide +kernel
theorem d_mo_obeys_1 : decode prog_8_method_34_code 1 = .ok (.iload_n 1, 1) := by decide +kernel
theorem d_mo_obeys_2 : decode prog_8_method_34_code 2 = .ok (.invokevirtual 82, 3) := by decide +kernel
theorem d_mo_obeys_5 : decode prog_8_method_34_code 5 = .ok (.ifCond .ne 5, 3) := by decide +kernel
theorem d_mo_obeys_8 : decode prog_8_method_34_code 8 = .ok (.iconst 0, 1) := by decide +kernel
theorem d_mo_obeys_9 : decode prog_8_method_34_code 9 = .ok (.ireturn, 1) := by decide +kernel
theorem d_mo_obeys_10 : decode prog_8_method_34_code 10 = .ok (.aload_n 0, 1) := by decide +kernel
theorem d_mo_obeys_11 : decode prog_8_method_34_code 11 = .ok (.iconst 0, 1) := by decide +kernel
theorem d_mo_obeys_12 : decode prog_8_method_34_code 12 = .ok (.iload_n 1, 1) := by decide +kernel
theorem d_mo_obeys_13 : decode prog_8_method_34_code 13 = .ok (.bipush 24, 2) := by decide +kernel
theorem d_mo_obeys_15 : decode prog_8_method_34_code 15 = .ok (.aload_n 0, 1) := by decide +kernel
theorem d_mo_obeys_16 : decode prog_8_method_34_code 16 = .ok (.getfield 71, 3) := by decide +kernel
theorem d_mo_obeys_19 : decode prog_8_method_34_code 19 = .ok (.iadd, 1) := by decide +kernel
theorem d_mo_obeys_20 : decode prog_8_method_34_code 20 = .ok (.invokevirtual 93, 3) := by decide +kernel
theorem d_mo_obeys_23 : decode prog_8_method_34_code 23 = .ok (.iconst 0, 1) := by decide +kernel
theorem d_mo_obeys_24 : decode prog_8_method_34_code 24 = .ok (.istore_n 2, 1) := by decide +kernel
theorem d_mo_obeys_25 : decode prog_8_method_34_code 25 = .ok (.iload_n 2, 1) := by decide +kernel
theorem d_mo_obeys_26 : decode prog_8_method_34_code 26 = .ok (.aload_n 0, 1) := by decide +kernel
theorem d_mo_obeys_27 : decode prog_8_method_34_code 27 = .ok (.getfield 13, 3) := by decide +kernel
theorem d_mo_obeys_30 : decode prog_8_method_34_code 30 = .ok (.iload_n 1, 1) := by decide +kernel
theorem d_mo_obeys_31 : decode prog_8_method_34_code 31 = .ok (.iaload, 1) := by decide +kernel
theorem d_mo_obeys_32 : decode prog_8_method_34_code 32 = .ok (.if_icmp .ge 82, 3) := by decide +kernel
theorem d_mo_obeys_35 : decode prog_8_method_34_code 35 = .ok (.lconst 0, 1) := by decide +kernel
theorem d_mo_obeys_36 : decode prog_8_method_34_code 36 = .ok (.lstore_n 3, 1) := by decide +kernel
theorem d_mo_obeys_37 : decode prog_8_method_34_code 37 = .ok (.iconst 1, 1) := by decide +kernel
theorem d_mo_obeys_38 : decode prog_8_method_34_code 38 = .ok (.istore 5, 2) := by decide +kernel
theorem d_mo_obeys_40 : decode prog_8_method_34_code 40 = .ok (.iload 5, 2) := by decide +kernel
theorem d_mo_obeys_42 : decode prog_8_method_34_code 42 = .ok (.aload_n 0, 1) := by decide +kernel
theorem d_mo_obeys_43 : decode prog_8_method_34_code 43 = .ok (.getfield 71, 3) := by decide +kernel
theorem d_mo_obeys_46 : decode prog_8_method_34_code 46 = .ok (.if_icmp .gt 42, 3) := by decide +kernel
theorem d_mo_obeys_49 : decode prog_8_method_34_code 49 = .ok (.lload_n 3, 1) := by decide +kernel
theorem d_mo_obeys_50 : decode prog_8_method_34_code 50 = .ok (.aload_n 0, 1) := by decide +kernel
theorem d_mo_obeys_51 : decode prog_8_method_34_code 51 = .ok (.getfield 7, 3) := by decide +kernel
theorem d_mo_obeys_54 : decode prog_8_method_34_code 54 = .ok (.iload 5, 2) := by decide +kernel
theorem d_mo_obeys_56 : decode prog_8_method_34_code 56 = .ok (.iconst 1, 1) := by decide +kernel
theorem d_mo_obeys_57 : decode prog_8_method_34_code 57 = .ok (.isub, 1) := by decide +kernel
theorem d_mo_obeys_58 : decode prog_8_method_34_code 58 = .ok (.laload, 1) := by decide +kernel
theorem d_mo_obeys_59 : decode prog_8_method_34_code 59 = .ok (.aload_n 0, 1) := by decide +kernel
theorem d_mo_obeys_60 : decode prog_8_method_34_code 60 = .ok (.getfield 23, 3) := by decide +kernel
theorem d_mo_obeys_63 : decode prog_8_method_34_code 63 = .ok (.iconst 0, 1) := by decide +kernel
theorem d_mo_obeys_64 : decode prog_8_method_34_code 64 = .ok (.iload_n 2, 1) := by decide +kernel
theorem d_mo_obeys_65 : decode prog_8_method_34_code 65 = .ok (.iadd, 1) := by decide +kernel
theorem d_mo_obeys_66 : decode prog_8_method_34_code 66 = .ok (.aload_n 0, 1) := by decide +kernel
theorem d_mo_obeys_67 : decode prog_8_method_34_code 67 = .ok (.getfield 71, 3) := by decide +kernel
theorem d_mo_obeys_70 : decode prog_8_method_34_code 70 = .ok (.iadd, 1) := by decide +kernel
theorem d_mo_obeys_71 : decode prog_8_method_34_code 71 = .ok (.iload 5, 2) := by decide +kernel
theorem d_mo_obeys_73 : decode prog_8_method_34_code 73 = .ok (.isub, 1) := by decide +kernel
theorem d_mo_obeys_74 : decode prog_8_method_34_code 74 = .ok (.laload, 1) := by decide +kernel
theorem d_mo_obeys_75 : decode prog_8_method_34_code 75 = .ok (.lmul, 1) := by decide +kernel
theorem d_mo_obeys_76 : decode prog_8_method_34_code 76 = .ok (.ladd, 1) := by decide +kernel
theorem d_mo_obeys_77 : decode prog_8_method_34_code 77 = .ok (.ldc2_w 44, 3) := by decide +kernel
theorem d_mo_obeys_80 : decode prog_8_method_34_code 80 = .ok (.lrem, 1) := by decide +kernel
theorem d_mo_obeys_81 : decode prog_8_method_34_code 81 = .ok (.lstore_n 3, 1) := by decide +kernel
theorem d_mo_obeys_82 : decode prog_8_method_34_code 82 = .ok (.iinc 5 1, 3) := by decide +kernel
theorem d_mo_obeys_85 : decode prog_8_method_34_code 85 = .ok (.goto (-45), 3) := by decide +kernel
theorem d_mo_obeys_88 : decode prog_8_method_34_code 88 = .ok (.lload_n 3, 1) := by decide +kernel
theorem d_mo_obeys_89 : decode prog_8_method_34_code 89 = .ok (.aload_n 0, 1) := by decide +kernel
theorem d_mo_obeys_90 : decode prog_8_method_34_code 90 = .ok (.getfield 23, 3) := by decide +kernel
theorem d_mo_obeys_93 : decode prog_8_method_34_code 93 = .ok (.iconst 0, 1) := by decide +kernel
theorem d_mo_obeys_94 : decode prog_8_method_34_code 94 = .ok (.iload_n 2, 1) := by decide +kernel
theorem d_mo_obeys_95 : decode prog_8_method_34_code 95 = .ok (.iadd, 1) := by decide +kernel
theorem d_mo_obeys_96 : decode prog_8_method_34_code 96 = .ok (.aload_n 0, 1) := by decide +kernel
theorem d_mo_obeys_97 : decode prog_8_method_34_code 97 = .ok (.getfield 71, 3) := by decide +kernel
theorem d_mo_obeys_100 : decode prog_8_method_34_code 100 = .ok (.iadd, 1) := by decide +kernel
theorem d_mo_obeys_101 : decode prog_8_method_34_code 101 = .ok (.laload, 1) := by decide +kernel
theorem d_mo_obeys_102 : decode prog_8_method_34_code 102 = .ok (.lcmp, 1) := by decide +kernel
theorem d_mo_obeys_103 : decode prog_8_method_34_code 103 = .ok (.ifCond .eq 5, 3) := by decide +kernel
theorem d_mo_obeys_106 : decode prog_8_method_34_code 106 = .ok (.iconst 0, 1) := by decide +kernel
theorem d_mo_obeys_107 : decode prog_8_method_34_code 107 = .ok (.ireturn, 1) := by decide +kernel
theorem d_mo_obeys_108 : decode prog_8_method_34_code 108 = .ok (.iinc 2 1, 3) := by decide +kernel
theorem d_mo_obeys_111 : decode prog_8_method_34_code 111 = .ok (.goto (-86), 3) := by decide +kernel
theorem d_mo_obeys_114 : decode prog_8_method_34_code 114 = .ok (.iconst 1, 1) := by decide +kernel
theorem d_mo_obeys_115 : decode prog_8_method_34_code 115 = .ok (.ireturn, 1) := by decide +kernel
theorem d_mo_shared_0 : decode prog_8_method_35_code 0 = .ok (.aload_n 0, 1) := by decide +kernel
theorem d_mo_shared_1 : decode prog_8_method_35_code 1 = .ok (.iload_n 1, 1) := by decide +kernel
theorem d_mo_shared_2 : decode prog_8_method_35_code 2 = .ok (.invokevirtual 82, 3) := by decide +kernel
theorem d_mo_shared_5 : decode prog_8_method_35_code 5 = .ok (.ifCond .eq 11, 3) := by decide +kernel
theorem d_mo_shared_8 : decode prog_8_method_35_code 8 = .ok (.aload_n 0, 1) := by decide +kernel
theorem d_mo_shared_9 : decode prog_8_method_35_code 9 = .ok (.iload_n 2, 1) := by decide +kernel
theorem d_mo_shared_10 : decode prog_8_method_35_code 10 = .ok (.invokevirtual 82, 3) := by decide +kernel
theorem d_mo_shared_13 : decode prog_8_method_35_code 13 = .ok (.ifCond .ne 5, 3) := by decide +kernel
theorem d_mo_shared_16 : decode prog_8_method_35_code 16 = .ok (.iconst (-1), 1) := by decide +kernel
theorem d_mo_shared_17 : decode prog_8_method_35_code 17 = .ok (.ireturn, 1) := by decide +kernel
theorem d_mo_shared_18 : decode prog_8_method_35_code 18 = .ok (.aload_n 0, 1) := by decide +kernel
theorem d_mo_shared_19 : decode prog_8_method_35_code 19 = .ok (.getfield 13, 3) := by decide +kernel
theorem d_mo_shared_22 : decode prog_8_method_35_code 22 = .ok (.iload_n 1, 1) := by decide +kernel
theorem d_mo_shared_23 : decode prog_8_method_35_code 23 = .ok (.iaload, 1) := by decide +kernel
theorem d_mo_shared_24 : decode prog_8_method_35_code 24 = .ok (.aload_n 0, 1) := by decide +kernel
theorem d_mo_shared_25 : decode prog_8_method_35_code 25 = .ok (.getfield 13, 3) := by decide +kernel
theorem d_mo_shared_28 : decode prog_8_method_35_code 28 = .ok (.iload_n 2, 1) := by decide +kernel
theorem d_mo_shared_29 : decode prog_8_method_35_code 29 = .ok (.iaload, 1) := by decide +kernel
theorem d_mo_shared_30 : decode prog_8_method_35_code 30 = .ok (.if_icmp .le 12, 3) := by decide +kernel
theorem d_mo_shared_33 : decode prog_8_method_35_code 33 = .ok (.aload_n 0, 1) := by decide +kernel
theorem d_mo_shared_34 : decode prog_8_method_35_code 34 = .ok (.getfield 13, 3) := by decide +kernel
theorem d_mo_shared_37 : decode prog_8_method_35_code 37 = .ok (.iload_n 1, 1) := by decide +kernel
theorem d_mo_shared_38 : decode prog_8_method_35_code 38 = .ok (.iaload, 1) := by decide +kernel
theorem d_mo_shared_39 : decode prog_8_method_35_code 39 = .ok (.goto 9, 3) := by decide +kernel
theorem d_mo_shared_42 : decode prog_8_method_35_code 42 = .ok (.aload_n 0, 1) := by decide +kernel
theorem d_mo_shared_43 : decode prog_8_method_35_code 43 = .ok (.getfield 13, 3) := by decide +kernel
theorem d_mo_shared_46 : decode prog_8_method_35_code 46 = .ok (.iload_n 2, 1) := by decide +kernel
theorem d_mo_shared_47 : decode prog_8_method_35_code 47 = .ok (.iaload, 1) := by decide +kernel
theorem d_mo_shared_48 : decode prog_8_method_35_code 48 = .ok (.istore_n 3, 1) := by decide +kernel
theorem d_mo_shared_49 : decode prog_8_method_35_code 49 = .ok (.aload_n 0, 1) := by decide +kernel
theorem d_mo_shared_50 : decode prog_8_method_35_code 50 = .ok (.getfield 13, 3) := by decide +kernel
theorem d_mo_shared_53 : decode prog_8_method_35_code 53 = .ok (.iload_n 1, 1) := by decide +kernel
theorem d_mo_shared_54 : decode prog_8_method_35_code 54 = .ok (.iaload, 1) := by decide +kernel
theorem d_mo_shared_55 : decode prog_8_method_35_code 55 = .ok (.aload_n 0, 1) := by decide +kernel
theorem d_mo_shared_56 : decode prog_8_method_35_code 56 = .ok (.getfield 13, 3) := by decide +kernel
theorem d_mo_shared_59 : decode prog_8_method_35_code 59 = .ok (.iload_n 2, 1) := by decide +kernel
theorem d_mo_shared_60 : decode prog_8_method_35_code 60 = .ok (.iaload, 1) := by decide +kernel
theorem d_mo_shared_61 : decode prog_8_method_35_code 61 = .ok (.iadd, 1) := by decide +kernel
theorem d_mo_shared_62 : decode prog_8_method_35_code 62 = .ok (.istore 4, 2) := by decide +kernel
theorem d_mo_shared_64 : decode prog_8_method_35_code 64 = .ok (.aload_n 0, 1) := by decide +kernel
theorem d_mo_shared_65 : decode prog_8_method_35_code 65 = .ok (.iconst 0, 1) := by decide +kernel
theorem d_mo_shared_66 : decode prog_8_method_35_code 66 = .ok (.iload_n 1, 1) := by decide +kernel
theorem d_mo_shared_67 : decode prog_8_method_35_code 67 = .ok (.bipush 72, 2) := by decide +kernel
theorem d_mo_shared_69 : decode prog_8_method_35_code 69 = .ok (.invokevirtual 93, 3) := by decide +kernel
theorem d_mo_shared_72 : decode prog_8_method_35_code 72 = .ok (.aload_n 0, 1) := by decide +kernel
theorem d_mo_shared_73 : decode prog_8_method_35_code 73 = .ok (.sipush 2200, 3) := by decide +kernel
theorem d_mo_shared_76 : decode prog_8_method_35_code 76 = .ok (.iload_n 2, 1) := by decide +kernel
theorem d_mo_shared_77 : decode prog_8_method_35_code 77 = .ok (.bipush 72, 2) := by decide +kernel
theorem d_mo_shared_79 : decode prog_8_method_35_code 79 = .ok (.invokevirtual 93, 3) := by decide +kernel
theorem d_mo_shared_82 : decode prog_8_method_35_code 82 = .ok (.iconst 0, 1) := by decide +kernel
theorem d_mo_shared_83 : decode prog_8_method_35_code 83 = .ok (.istore 5, 2) := by decide +kernel
theorem d_mo_shared_85 : decode prog_8_method_35_code 85 = .ok (.iload_n 3, 1) := by decide +kernel
theorem d_mo_shared_86 : decode prog_8_method_35_code 86 = .ok (.iload 4, 2) := by decide +kernel
theorem d_mo_shared_88 : decode prog_8_method_35_code 88 = .ok (.if_icmp .ge 66, 3) := by decide +kernel
theorem d_mo_shared_91 : decode prog_8_method_35_code 91 = .ok (.iload 5, 2) := by decide +kernel
theorem d_mo_shared_93 : decode prog_8_method_35_code 93 = .ok (.ifCond .ne 61, 3) := by decide +kernel
theorem d_mo_shared_96 : decode prog_8_method_35_code 96 = .ok (.aload_n 0, 1) := by decide +kernel
theorem d_mo_shared_97 : decode prog_8_method_35_code 97 = .ok (.iconst 0, 1) := by decide +kernel
theorem d_mo_shared_98 : decode prog_8_method_35_code 98 = .ok (.iconst 0, 1) := by decide +kernel
theorem d_mo_shared_99 : decode prog_8_method_35_code 99 = .ok (.aload_n 0, 1) := by decide +kernel
theorem d_mo_shared_100 : decode prog_8_method_35_code 100 = .ok (.getfield 13, 3) := by decide +kernel
theorem d_mo_shared_103 : decode prog_8_method_35_code 103 = .ok (.iload_n 1, 1) := by decide +kernel
theorem d_mo_shared_104 : decode prog_8_method_35_code 104 = .ok (.iaload, 1) := by decide +kernel
theorem d_mo_shared_105 : decode prog_8_method_35_code 105 = .ok (.iload_n 3, 1) := by decide +kernel
theorem d_mo_shared_106 : decode prog_8_method_35_code 106 = .ok (.invokevirtual 64, 3) := by decide +kernel
theorem d_mo_shared_109 : decode prog_8_method_35_code 109 = .ok (.aload_n 0, 1) := by decide +kernel
theorem d_mo_shared_110 : decode prog_8_method_35_code 110 = .ok (.aload_n 0, 1) := by decide +kernel
theorem d_mo_shared_111 : decode prog_8_method_35_code 111 = .ok (.getfield 13, 3) := by decide +kernel
theorem d_mo_shared_114 : decode prog_8_method_35_code 114 = .ok (.iload_n 1, 1) := by decide +kernel
theorem d_mo_shared_115 : decode prog_8_method_35_code 115 = .ok (.iaload, 1) := by decide +kernel
theorem d_mo_shared_116 : decode prog_8_method_35_code 116 = .ok (.sipush 2200, 3) := by decide +kernel
theorem d_mo_shared_119 : decode prog_8_method_35_code 119 = .ok (.aload_n 0, 1) := by decide +kernel
theorem d_mo_shared_120 : decode prog_8_method_35_code 120 = .ok (.getfield 13, 3) := by decide +kernel
theorem d_mo_shared_123 : decode prog_8_method_35_code 123 = .ok (.iload_n 2, 1) := by decide +kernel
theorem d_mo_shared_124 : decode prog_8_method_35_code 124 = .ok (.iaload, 1) := by decide +kernel
theorem d_mo_shared_125 : decode prog_8_method_35_code 125 = .ok (.iload_n 3, 1) := by decide +kernel
theorem d_mo_shared_126 : decode prog_8_method_35_code 126 = .ok (.invokevirtual 64, 3) := by decide +kernel
theorem d_mo_shared_129 : decode prog_8_method_35_code 129 = .ok (.aload_n 0, 1) := by decide +kernel
theorem d_mo_shared_130 : decode prog_8_method_35_code 130 = .ok (.iload 4, 2) := by decide +kernel
theorem d_mo_shared_132 : decode prog_8_method_35_code 132 = .ok (.iload_n 3, 1) := by decide +kernel
theorem d_mo_shared_133 : decode prog_8_method_35_code 133 = .ok (.invokevirtual 67, 3) := by decide +kernel
theorem d_mo_shared_136 : decode prog_8_method_35_code 136 = .ok (.istore 5, 2) := by decide +kernel
theorem d_mo_shared_138 : decode prog_8_method_35_code 138 = .ok (.iload 5, 2) := by decide +kernel
theorem d_mo_shared_140 : decode prog_8_method_35_code 140 = .ok (.ifCond .eq 7, 3) := by decide +kernel
theorem d_mo_shared_143 : decode prog_8_method_35_code 143 = .ok (.iload_n 3, 1) := by decide +kernel
theorem d_mo_shared_144 : decode prog_8_method_35_code 144 = .ok (.goto 6, 3) := by decide +kernel
theorem d_mo_shared_147 : decode prog_8_method_35_code 147 = .ok (.iload_n 3, 1) := by decide +kernel
theorem d_mo_shared_148 : decode prog_8_method_35_code 148 = .ok (.iconst 1, 1) := by decide +kernel
theorem d_mo_shared_149 : decode prog_8_method_35_code 149 = .ok (.iadd, 1) := by decide +kernel
theorem d_mo_shared_150 : decode prog_8_method_35_code 150 = .ok (.istore_n 3, 1) := by decide +kernel
theorem d_mo_shared_151 : decode prog_8_method_35_code 151 = .ok (.goto (-66), 3) := by decide +kernel
theorem d_mo_shared_154 : decode prog_8_method_35_code 154 = .ok (.iload_n 3, 1) := by decide +kernel
theorem d_mo_shared_155 : decode prog_8_method_35_code 155 = .ok (.ireturn, 1) := by decide +kernel
