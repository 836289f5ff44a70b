/-! Decode rows, by program -/
theorem d_dv_init_0 : decode prog_2_method_1_code 0 = .ok (.aload_n 0, 1) := by decide +kernel
theorem d_dv_init_1 : decode prog_2_method_1_code 1 = .ok (.invokespecial 3, 3) := by decide +kernel
theorem d_dv_init_4 : decode prog_2_method_1_code 4 = .ok (.aload_n 0, 1) := by decide +kernel
theorem d_dv_init_5 : decode prog_2_method_1_code 5 = .ok (.bipush 49, 2) := by decide +kernel
theorem d_dv_init_7 : decode prog_2_method_1_code 7 = .ok (.newarray .long, 2) := by decide +kernel
theorem d_dv_init_9 : decode prog_2_method_1_code 9 = .ok (.putfield 9, 3) := by decide +kernel
theorem d_dv_init_12 : decode prog_2_method_1_code 12 = .ok (.aload_n 0, 1) := by decide +kernel
theorem d_dv_init_13 : decode prog_2_method_1_code 13 = .ok (.bipush 49, 2) := by decide +kernel
theorem d_dv_init_15 : decode prog_2_method_1_code 15 = .ok (.newarray .long, 2) := by decide +kernel
theorem d_dv_init_17 : decode prog_2_method_1_code 17 = .ok (.putfield 15, 3) := by decide +kernel
theorem d_dv_init_20 : decode prog_2_method_1_code 20 = .ok (.return_, 1) := by decide +kernel
theorem d_dv_commonDegree_0 : decode prog_2_method_2_code 0 = .ok (.aload_n 0, 1) := by decide +kernel
theorem d_dv_commonDegree_1 : decode prog_2_method_2_code 1 = .ok (.getfield 9, 3) := by decide +kernel
theorem d_dv_commonDegree_4 : decode prog_2_method_2_code 4 = .ok (.aload_n 1, 1) := by decide +kernel
theorem d_dv_commonDegree_5 : decode prog_2_method_2_code 5 = .ok (.invokestatic 18, 3) := by decide +kernel
theorem d_dv_commonDegree_8 : decode prog_2_method_2_code 8 = .ok (.aload_n 0, 1) := by decide +kernel
theorem d_dv_commonDegree_9 : decode prog_2_method_2_code 9 = .ok (.getfield 15, 3) := by decide +kernel
theorem d_dv_commonDegree_12 : decode prog_2_method_2_code 12 = .ok (.aload_n 2, 1) := by decide +kernel
theorem d_dv_commonDegree_13 : decode prog_2_method_2_code 13 = .ok (.invokestatic 18, 3) := by decide +kernel
theorem d_dv_commonDegree_16 : decode prog_2_method_2_code 16 = .ok (.aload_n 0, 1) := by decide +kernel
theorem d_dv_commonDegree_17 : decode prog_2_method_2_code 17 = .ok (.getfield 9, 3) := by decide +kernel
theorem d_dv_commonDegree_20 : decode prog_2_method_2_code 20 = .ok (.astore_n 3, 1) := by decide +kernel
theorem d_dv_commonDegree_21 : decode prog_2_method_2_code 21 = .ok (.aload_n 0, 1) := by decide +kernel
theorem d_dv_commonDegree_22 : decode prog_2_method_2_code 22 = .ok (.getfield 15, 3) := by decide +kernel
theorem d_dv_commonDegree_25 : decode prog_2_method_2_code 25 = .ok (.astore 4, 2) := by decide +kernel
theorem d_dv_commonDegree_27 : decode prog_2_method_2_code 27 = .ok (.aload_n 1, 1) := by decide +kernel
theorem d_dv_commonDegree_28 : decode prog_2_method_2_code 28 = .ok (.getfield 22, 3) := by decide +kernel
theorem d_dv_commonDegree_31 : decode prog_2_method_2_code 31 = .ok (.istore 5, 2) := by decide +kernel
theorem d_dv_commonDegree_33 : decode prog_2_method_2_code 33 = .ok (.aload_n 2, 1) := by decide +kernel
theorem d_dv_commonDegree_34 : decode prog_2_method_2_code 34 = .ok (.getfield 22, 3) := by decide +kernel
theorem d_dv_commonDegree_37 : decode prog_2_method_2_code 37 = .ok (.istore 6, 2) := by decide +kernel
theorem d_dv_commonDegree_39 : decode prog_2_method_2_code 39 = .ok (.iconst 0, 1) := by decide +kernel
theorem d_dv_commonDegree_40 : decode prog_2_method_2_code 40 = .ok (.istore 7, 2) := by decide +kernel
theorem d_dv_commonDegree_42 : decode prog_2_method_2_code 42 = .ok (.iload 7, 2) := by decide +kernel
theorem d_dv_commonDegree_44 : decode prog_2_method_2_code 44 = .ok (.bipush 49, 2) := by decide +kernel
theorem d_dv_commonDegree_46 : decode prog_2_method_2_code 46 = .ok (.if_icmp .gt 44, 3) := by decide +kernel
theorem d_dv_commonDegree_49 : decode prog_2_method_2_code 49 = .ok (.iload 6, 2) := by decide +kernel
theorem d_dv_commonDegree_51 : decode prog_2_method_2_code 51 = .ok (.ifCond .lt 39, 3) := by decide +kernel
theorem d_dv_commonDegree_54 : decode prog_2_method_2_code 54 = .ok (.aload_n 3, 1) := by decide +kernel
theorem d_dv_commonDegree_55 : decode prog_2_method_2_code 55 = .ok (.iload 5, 2) := by decide +kernel
theorem d_dv_commonDegree_57 : decode prog_2_method_2_code 57 = .ok (.aload 4, 2) := by decide +kernel
theorem d_dv_commonDegree_59 : decode prog_2_method_2_code 59 = .ok (.iload 6, 2) := by decide +kernel
theorem d_dv_commonDegree_61 : decode prog_2_method_2_code 61 = .ok (.invokestatic 28, 3) := by decide +kernel
theorem d_dv_commonDegree_64 : decode prog_2_method_2_code 64 = .ok (.istore 8, 2) := by decide +kernel
theorem d_dv_commonDegree_66 : decode prog_2_method_2_code 66 = .ok (.aload_n 3, 1) := by decide +kernel
theorem d_dv_commonDegree_67 : decode prog_2_method_2_code 67 = .ok (.astore 9, 2) := by decide +kernel
theorem d_dv_commonDegree_69 : decode prog_2_method_2_code 69 = .ok (.aload 4, 2) := by decide +kernel
theorem d_dv_commonDegree_71 : decode prog_2_method_2_code 71 = .ok (.astore_n 3, 1) := by decide +kernel
theorem d_dv_commonDegree_72 : decode prog_2_method_2_code 72 = .ok (.iload 6, 2) := by decide +kernel
theorem d_dv_commonDegree_74 : decode prog_2_method_2_code 74 = .ok (.istore 5, 2) := by decide +kernel
theorem d_dv_commonDegree_76 : decode prog_2_method_2_code 76 = .ok (.aload 9, 2) := by decide +kernel
theorem d_dv_commonDegree_78 : decode prog_2_method_2_code 78 = .ok (.astore 4, 2) := by decide +kernel
theorem d_dv_commonDegree_80 : decode prog_2_method_2_code 80 = .ok (.iload 8, 2) := by decide +kernel
theorem d_dv_commonDegree_82 : decode prog_2_method_2_code 82 = .ok (.istore 6, 2) := by decide +kernel
theorem d_dv_commonDegree_84 : decode prog_2_method_2_code 84 = .ok (.iinc 7 1, 3) := by decide +kernel
theorem d_dv_commonDegree_87 : decode prog_2_method_2_code 87 = .ok (.goto (-45), 3) := by decide +kernel
theorem d_dv_commonDegree_90 : decode prog_2_method_2_code 90 = .ok (.iload 5, 2) := by decide +kernel
theorem d_dv_commonDegree_92 : decode prog_2_method_2_code 92 = .ok (.ireturn, 1) := by decide +kernel
theorem d_dv_load_0 : decode prog_2_method_3_code 0 = .ok (.aload_n 0, 1) := by decide +kernel
theorem d_dv_load_1 : decode prog_2_method_3_code 1 = .ok (.aload_n 1, 1) := by decide +kernel
theorem d_dv_load_2 : decode prog_2_method_3_code 2 = .ok (.getfield 22, 3) := by decide +kernel
theorem d_dv_load_5 : decode prog_2_method_3_code 5 = .ok (.lconst 1, 1) := by decide +kernel
theorem d_dv_load_6 : decode prog_2_method_3_code 6 = .ok (.lastore, 1) := by decide +kernel
theorem d_dv_load_7 : decode prog_2_method_3_code 7 = .ok (.iconst 0, 1) := by decide +kernel
theorem d_dv_load_8 : decode prog_2_method_3_code 8 = .ok (.istore_n 2, 1) := by decide +kernel
theorem d_dv_load_9 : decode prog_2_method_3_code 9 = .ok (.iload_n 2, 1) := by decide +kernel
theorem d_dv_load_10 : decode prog_2_method_3_code 10 = .ok (.aload_n 1, 1) := by decide +kernel
theorem d_dv_load_11 : decode prog_2_method_3_code 11 = .ok (.getfield 22, 3) := by decide +kernel
theorem d_dv_load_14 : decode prog_2_method_3_code 14 = .ok (.if_icmp .ge 29, 3) := by decide +kernel
theorem d_dv_load_17 : decode prog_2_method_3_code 17 = .ok (.aload_n 0, 1) := by decide +kernel
theorem d_dv_load_18 : decode prog_2_method_3_code 18 = .ok (.aload_n 1, 1) := by decide +kernel
theorem d_dv_load_19 : decode prog_2_method_3_code 19 = .ok (.getfield 22, 3) := by decide +kernel
theorem d_dv_load_22 : decode prog_2_method_3_code 22 = .ok (.iconst 1, 1) := by decide +kernel
theorem d_dv_load_23 : decode prog_2_method_3_code 23 = .ok (.isub, 1) := by decide +kernel
theorem d_dv_load_24 : decode prog_2_method_3_code 24 = .ok (.iload_n 2, 1) := by decide +kernel
theorem d_dv_load_25 : decode prog_2_method_3_code 25 = .ok (.isub, 1) := by decide +kernel
theorem d_dv_load_26 : decode prog_2_method_3_code 26 = .ok (.lconst 0, 1) := by decide +kernel
theorem d_dv_load_27 : decode prog_2_method_3_code 27 = .ok (.aload_n 1, 1) := by decide +kernel
theorem d_dv_load_28 : decode prog_2_method_3_code 28 = .ok (.getfield 32, 3) := by decide +kernel
theorem d_dv_load_31 : decode prog_2_method_3_code 31 = .ok (.iload_n 2, 1) := by decide +kernel
theorem d_dv_load_32 : decode prog_2_method_3_code 32 = .ok (.laload, 1) := by decide +kernel
theorem d_dv_load_33 : decode prog_2_method_3_code 33 = .ok (.invokestatic 35, 3) := by decide +kernel
theorem d_dv_load_36 : decode prog_2_method_3_code 36 = .ok (.lastore, 1) := by decide +kernel
theorem d_dv_load_37 : decode prog_2_method_3_code 37 = .ok (.iinc 2 1, 3) := by decide +kernel
theorem d_dv_load_40 : decode prog_2_method_3_code 40 = .ok (.goto (-31), 3) := by decide +kernel
theorem d_dv_load_43 : decode prog_2_method_3_code 43 = .ok (.return_, 1) := by decide +kernel
theorem d_dv_reduce_0 : decode prog_2_method_4_code 0 = .ok (.aload_n 2, 1) := by decide +kernel
theorem d_dv_reduce_1 : decode prog_2_method_4_code 1 = .ok (.iload_n 3, 1) := by decide +kernel
theorem d_dv_reduce_2 : decode prog_2_method_4_code 2 = .ok (.laload, 1) := by decide +kernel
theorem d_dv_reduce_3 : decode prog_2_method_4_code 3 = .ok (.invokestatic 41, 3) := by decide +kernel
theorem d_dv_reduce_6 : decode prog_2_method_4_code 6 = .ok (.lstore 4, 2) := by decide +kernel
theorem d_dv_reduce_8 : decode prog_2_method_4_code 8 = .ok (.iload_n 1, 1) := by decide +kernel
theorem d_dv_reduce_9 : decode prog_2_method_4_code 9 = .ok (.istore 6, 2) := by decide +kernel
theorem d_dv_reduce_11 : decode prog_2_method_4_code 11 = .ok (.iload 6, 2) := by decide +kernel
theorem d_dv_reduce_13 : decode prog_2_method_4_code 13 = .ok (.iload_n 3, 1) := by decide +kernel
theorem d_dv_reduce_14 : decode prog_2_method_4_code 14 = .ok (.if_icmp .lt 67, 3) := by decide +kernel
theorem d_dv_reduce_17 : decode prog_2_method_4_code 17 = .ok (.aload_n 0, 1) := by decide +kernel
theorem d_dv_reduce_18 : decode prog_2_method_4_code 18 = .ok (.iload 6, 2) := by decide +kernel
theorem d_dv_reduce_20 : decode prog_2_method_4_code 20 = .ok (.laload, 1) := by decide +kernel
theorem d_dv_reduce_21 : decode prog_2_method_4_code 21 = .ok (.lload 4, 2) := by decide +kernel
theorem d_dv_reduce_23 : decode prog_2_method_4_code 23 = .ok (.invokestatic 45, 3) := by decide +kernel
theorem d_dv_reduce_26 : decode prog_2_method_4_code 26 = .ok (.lstore 7, 2) := by decide +kernel
theorem d_dv_reduce_28 : decode prog_2_method_4_code 28 = .ok (.iload 6, 2) := by decide +kernel
theorem d_dv_reduce_30 : decode prog_2_method_4_code 30 = .ok (.iload_n 3, 1) := by decide +kernel
theorem d_dv_reduce_31 : decode prog_2_method_4_code 31 = .ok (.isub, 1) := by decide +kernel
theorem d_dv_reduce_32 : decode prog_2_method_4_code 32 = .ok (.istore 9, 2) := by decide +kernel
theorem d_dv_reduce_34 : decode prog_2_method_4_code 34 = .ok (.iconst 0, 1) := by decide +kernel
theorem d_dv_reduce_35 : decode prog_2_method_4_code 35 = .ok (.istore 10, 2) := by decide +kernel
theorem d_dv_reduce_37 : decode prog_2_method_4_code 37 = .ok (.iload 10, 2) := by decide +kernel
theorem d_dv_reduce_39 : decode prog_2_method_4_code 39 = .ok (.iload_n 3, 1) := by decide +kernel
theorem d_dv_reduce_40 : decode prog_2_method_4_code 40 = .ok (.if_icmp .gt 35, 3) := by decide +kernel
theorem d_dv_reduce_43 : decode prog_2_method_4_code 43 = .ok (.aload_n 0, 1) := by decide +kernel
theorem d_dv_reduce_44 : decode prog_2_method_4_code 44 = .ok (.iload 9, 2) := by decide +kernel
theorem d_dv_reduce_46 : decode prog_2_method_4_code 46 = .ok (.iload 10, 2) := by decide +kernel
theorem d_dv_reduce_48 : decode prog_2_method_4_code 48 = .ok (.iadd, 1) := by decide +kernel
theorem d_dv_reduce_49 : decode prog_2_method_4_code 49 = .ok (.aload_n 0, 1) := by decide +kernel
theorem d_dv_reduce_50 : decode prog_2_method_4_code 50 = .ok (.iload 9, 2) := by decide +kernel
theorem d_dv_reduce_52 : decode prog_2_method_4_code 52 = .ok (.iload 10, 2) := by decide +kernel
theorem d_dv_reduce_54 : decode prog_2_method_4_code 54 = .ok (.iadd, 1) := by decide +kernel
theorem d_dv_reduce_55 : decode prog_2_method_4_code 55 = .ok (.laload, 1) := by decide +kernel
theorem d_dv_reduce_56 : decode prog_2_method_4_code 56 = .ok (.lload 7, 2) := by decide +kernel
theorem d_dv_reduce_58 : decode prog_2_method_4_code 58 = .ok (.aload_n 2, 1) := by decide +kernel
theorem d_dv_reduce_59 : decode prog_2_method_4_code 59 = .ok (.iload 10, 2) := by decide +kernel
theorem d_dv_reduce_61 : decode prog_2_method_4_code 61 = .ok (.laload, 1) := by decide +kernel
theorem d_dv_reduce_62 : decode prog_2_method_4_code 62 = .ok (.invokestatic 45, 3) := by decide +kernel
theorem d_dv_reduce_65 : decode prog_2_method_4_code 65 = .ok (.invokestatic 35, 3) := by decide +kernel
theorem d_dv_reduce_68 : decode prog_2_method_4_code 68 = .ok (.lastore, 1) := by decide +kernel
theorem d_dv_reduce_69 : decode prog_2_method_4_code 69 = .ok (.iinc 10 1, 3) := by decide +kernel
theorem d_dv_reduce_72 : decode prog_2_method_4_code 72 = .ok (.goto (-35), 3) := by decide +kernel
theorem d_dv_reduce_75 : decode prog_2_method_4_code 75 = .ok (.iinc 6 (-1), 3) := by decide +kernel
theorem d_dv_reduce_78 : decode prog_2_method_4_code 78 = .ok (.goto (-67), 3) := by decide +kernel
theorem d_dv_reduce_81 : decode prog_2_method_4_code 81 = .ok (.iload_n 1, 1) := by decide +kernel
theorem d_dv_reduce_82 : decode prog_2_method_4_code 82 = .ok (.istore 6, 2) := by decide +kernel
theorem d_dv_reduce_84 : decode prog_2_method_4_code 84 = .ok (.iload 6, 2) := by decide +kernel
theorem d_dv_reduce_86 : decode prog_2_method_4_code 86 = .ok (.ifCond .lt 18, 3) := by decide +kernel
theorem d_dv_reduce_89 : decode prog_2_method_4_code 89 = .ok (.aload_n 0, 1) := by decide +kernel
theorem d_dv_reduce_90 : decode prog_2_method_4_code 90 = .ok (.iload 6, 2) := by decide +kernel
theorem d_dv_reduce_92 : decode prog_2_method_4_code 92 = .ok (.laload, 1) := by decide +kernel
theorem d_dv_reduce_93 : decode prog_2_method_4_code 93 = .ok (.lconst 0, 1) := by decide +kernel
theorem d_dv_reduce_94 : decode prog_2_method_4_code 94 = .ok (.lcmp, 1) := by decide +kernel
theorem d_dv_reduce_95 : decode prog_2_method_4_code 95 = .ok (.ifCond .ne 9, 3) := by decide +kernel
theorem d_dv_reduce_98 : decode prog_2_method_4_code 98 = .ok (.iinc 6 (-1), 3) := by decide +kernel
theorem d_dv_reduce_101 : decode prog_2_method_4_code 101 = .ok (.goto (-17), 3) := by decide +kernel
theorem d_dv_reduce_104 : decode prog_2_method_4_code 104 = .ok (.iload 6, 2) := by decide +kernel
theorem d_dv_reduce_106 : decode prog_2_method_4_code 106 = .ok (.ireturn, 1) := by decide +kernel
theorem d_fi_init_0 : decode prog_3_method_1_code 0 = .ok (.aload_n 0, 1) := by decide +kernel
theorem d_fi_init_1 : decode prog_3_method_1_code 1 = .ok (.invokespecial 3, 3) := by decide +kernel
theorem d_fi_init_4 : decode prog_3_method_1_code 4 = .ok (.aload_n 0, 1) := by decide +kernel
theorem d_fi_init_5 : decode prog_3_method_1_code 5 = .ok (.bipush 48, 2) := by decide +kernel
theorem d_fi_init_7 : decode prog_3_method_1_code 7 = .ok (.newarray .long, 2) := by decide +kernel
theorem d_fi_init_9 : decode prog_3_method_1_code 9 = .ok (.putfield 9, 3) := by decide +kernel
theorem d_fi_init_12 : decode prog_3_method_1_code 12 = .ok (.aload_n 0, 1) := by decide +kernel
theorem d_fi_init_13 : decode prog_3_method_1_code 13 = .ok (.bipush 48, 2) := by decide +kernel
theorem d_fi_init_15 : decode prog_3_method_1_code 15 = .ok (.newarray .long, 2) := by decide +kernel
theorem d_fi_init_17 : decode prog_3_method_1_code 17 = .ok (.putfield 15, 3) := by decide +kernel
theorem d_fi_init_20 : decode prog_3_method_1_code 20 = .ok (.aload_n 0, 1) := by decide +kernel
theorem d_fi_init_21 : decode prog_3_method_1_code 21 = .ok (.bipush 48, 2) := by decide +kernel
theorem d_fi_init_23 : decode prog_3_method_1_code 23 = .ok (.newarray .long, 2) := by decide +kernel
theorem d_fi_init_25 : decode prog_3_method_1_code 25 = .ok (.putfield 18, 3) := by decide +kernel
theorem d_fi_init_28 : decode prog_3_method_1_code 28 = .ok (.return_, 1) := by decide +kernel
theorem d_fi_find_0 : decode prog_3_method_2_code 0 = .ok (.aload_n 0, 1) := by decide +kernel
theorem d_fi_find_1 : decode prog_3_method_2_code 1 = .ok (.getfield 9, 3) := by decide +kernel
theorem d_fi_find_4 : decode prog_3_method_2_code 4 = .ok (.invokestatic 21, 3) := by decide +kernel
theorem d_fi_find_7 : decode prog_3_method_2_code 7 = .ok (.aload_n 0, 1) := by decide +kernel
theorem d_fi_find_8 : decode prog_3_method_2_code 8 = .ok (.getfield 15, 3) := by decide +kernel
theorem d_fi_find_11 : decode prog_3_method_2_code 11 = .ok (.invokestatic 21, 3) := by decide +kernel
theorem d_fi_find_14 : decode prog_3_method_2_code 14 = .ok (.iconst 0, 1) := by decide +kernel
theorem d_fi_find_15 : decode prog_3_method_2_code 15 = .ok (.istore 4, 2) := by decide +kernel
theorem d_fi_find_17 : decode prog_3_method_2_code 17 = .ok (.iconst 1, 1) := by decide +kernel
theorem d_fi_find_18 : decode prog_3_method_2_code 18 = .ok (.istore 5, 2) := by decide +kernel
theorem d_fi_find_20 : decode prog_3_method_2_code 20 = .ok (.lconst 1, 1) := by decide +kernel
theorem d_fi_find_21 : decode prog_3_method_2_code 21 = .ok (.lstore 6, 2) := by decide +kernel
theorem d_fi_find_23 : decode prog_3_method_2_code 23 = .ok (.iconst 0, 1) := by decide +kernel
theorem d_fi_find_24 : decode prog_3_method_2_code 24 = .ok (.istore 8, 2) := by decide +kernel
theorem d_fi_find_26 : decode prog_3_method_2_code 26 = .ok (.iload 8, 2) := by decide +kernel
theorem d_fi_find_28 : decode prog_3_method_2_code 28 = .ok (.iload_n 2, 1) := by decide +kernel
theorem d_fi_find_29 : decode prog_3_method_2_code 29 = .ok (.if_icmp .ge 109, 3) := by decide +kernel
theorem d_fi_find_32 : decode prog_3_method_2_code 32 = .ok (.aload_n 1, 1) := by decide +kernel
theorem d_fi_find_33 : decode prog_3_method_2_code 33 = .ok (.iload 8, 2) := by decide +kernel
theorem d_fi_find_35 : decode prog_3_method_2_code 35 = .ok (.laload, 1) := by decide +kernel
theorem d_fi_find_36 : decode prog_3_method_2_code 36 = .ok (.aload_n 0, 1) := by decide +kernel
theorem d_fi_find_37 : decode prog_3_method_2_code 37 = .ok (.getfield 9, 3) := by decide +kernel
theorem d_fi_find_40 : decode prog_3_method_2_code 40 = .ok (.iload 4, 2) := by decide +kernel
theorem d_fi_find_42 : decode prog_3_method_2_code 42 = .ok (.aload_n 1, 1) := by decide +kernel
theorem d_fi_find_43 : decode prog_3_method_2_code 43 = .ok (.iload 8, 2) := by decide +kernel
theorem d_fi_find_45 : decode prog_3_method_2_code 45 = .ok (.invokestatic 25, 3) := by decide +kernel
theorem d_fi_find_48 : decode prog_3_method_2_code 48 = .ok (.invokestatic 31, 3) := by decide +kernel
theorem d_fi_find_51 : decode prog_3_method_2_code 51 = .ok (.lstore 9, 2) := by decide +kernel
theorem d_fi_find_53 : decode prog_3_method_2_code 53 = .ok (.lload 9, 2) := by decide +kernel
theorem d_fi_find_55 : decode prog_3_method_2_code 55 = .ok (.lconst 0, 1) := by decide +kernel
theorem d_fi_find_56 : decode prog_3_method_2_code 56 = .ok (.lcmp, 1) := by decide +kernel
theorem d_fi_find_57 : decode prog_3_method_2_code 57 = .ok (.ifCond .ne 9, 3) := by decide +kernel
theorem d_fi_find_60 : decode prog_3_method_2_code 60 = .ok (.iinc 5 1, 3) := by decide +kernel
theorem d_fi_find_63 : decode prog_3_method_2_code 63 = .ok (.goto 69, 3) := by decide +kernel
theorem d_fi_find_66 : decode prog_3_method_2_code 66 = .ok (.lload 9, 2) := by decide +kernel
theorem d_fi_find_68 : decode prog_3_method_2_code 68 = .ok (.lload 6, 2) := by decide +kernel
theorem d_fi_find_70 : decode prog_3_method_2_code 70 = .ok (.invokestatic 35, 3) := by decide +kernel
theorem d_fi_find_73 : decode prog_3_method_2_code 73 = .ok (.invokestatic 39, 3) := by decide +kernel
theorem d_fi_find_76 : decode prog_3_method_2_code 76 = .ok (.lstore 11, 2) := by decide +kernel
theorem d_fi_find_78 : decode prog_3_method_2_code 78 = .ok (.iconst 2, 1) := by decide +kernel
theorem d_fi_find_79 : decode prog_3_method_2_code 79 = .ok (.iload 4, 2) := by decide +kernel
theorem d_fi_find_81 : decode prog_3_method_2_code 81 = .ok (.imul, 1) := by decide +kernel
theorem d_fi_find_82 : decode prog_3_method_2_code 82 = .ok (.iload 8, 2) := by decide +kernel
theorem d_fi_find_84 : decode prog_3_method_2_code 84 = .ok (.if_icmp .gt 7, 3) := by decide +kernel
theorem d_fi_find_87 : decode prog_3_method_2_code 87 = .ok (.iconst 1, 1) := by decide +kernel
theorem d_fi_find_88 : decode prog_3_method_2_code 88 = .ok (.goto 4, 3) := by decide +kernel
theorem d_fi_find_91 : decode prog_3_method_2_code 91 = .ok (.iconst 0, 1) := by decide +kernel
theorem d_fi_find_92 : decode prog_3_method_2_code 92 = .ok (.istore 13, 2) := by decide +kernel
theorem d_fi_find_94 : decode prog_3_method_2_code 94 = .ok (.aload_n 0, 1) := by decide +kernel
theorem d_fi_find_95 : decode prog_3_method_2_code 95 = .ok (.lload 11, 2) := by decide +kernel
theorem d_fi_find_97 : decode prog_3_method_2_code 97 = .ok (.iload 5, 2) := by decide +kernel
theorem d_fi_find_99 : decode prog_3_method_2_code 99 = .ok (.iload 8, 2) := by decide +kernel
theorem d_fi_find_101 : decode prog_3_method_2_code 101 = .ok (.invokevirtual 42, 3) := by decide +kernel
theorem d_fi_find_104 : decode prog_3_method_2_code 104 = .ok (.iinc 5 1, 3) := by decide +kernel
theorem d_fi_find_107 : decode prog_3_method_2_code 107 = .ok (.iload 13, 2) := by decide +kernel
theorem d_fi_find_109 : decode prog_3_method_2_code 109 = .ok (.ifCond .eq 23, 3) := by decide +kernel
theorem d_fi_find_112 : decode prog_3_method_2_code 112 = .ok (.aload_n 0, 1) := by decide +kernel
theorem d_fi_find_113 : decode prog_3_method_2_code 113 = .ok (.invokevirtual 46, 3) := by decide +kernel
theorem d_fi_find_116 : decode prog_3_method_2_code 116 = .ok (.iload 8, 2) := by decide +kernel
theorem d_fi_find_118 : decode prog_3_method_2_code 118 = .ok (.iconst 1, 1) := by decide +kernel
theorem d_fi_find_119 : decode prog_3_method_2_code 119 = .ok (.iadd, 1) := by decide +kernel
theorem d_fi_find_120 : decode prog_3_method_2_code 120 = .ok (.iload 4, 2) := by decide +kernel
theorem d_fi_find_122 : decode prog_3_method_2_code 122 = .ok (.isub, 1) := by decide +kernel
theorem d_fi_find_123 : decode prog_3_method_2_code 123 = .ok (.istore 4, 2) := by decide +kernel
theorem d_fi_find_125 : decode prog_3_method_2_code 125 = .ok (.lload 9, 2) := by decide +kernel
theorem d_fi_find_127 : decode prog_3_method_2_code 127 = .ok (.lstore 6, 2) := by decide +kernel
theorem d_fi_find_129 : decode prog_3_method_2_code 129 = .ok (.iconst 1, 1) := by decide +kernel
theorem d_fi_find_130 : decode prog_3_method_2_code 130 = .ok (.istore 5, 2) := by decide +kernel
theorem d_fi_find_132 : decode prog_3_method_2_code 132 = .ok (.iinc 8 1, 3) := by decide +kernel
theorem d_fi_find_135 : decode prog_3_method_2_code 135 = .ok (.goto (-109), 3) := by decide +kernel
theorem d_fi_find_138 : decode prog_3_method_2_code 138 = .ok (.aload_n 3, 1) := by decide +kernel
theorem d_fi_find_139 : decode prog_3_method_2_code 139 = .ok (.iload 4, 2) := by decide +kernel
theorem d_fi_find_141 : decode prog_3_method_2_code 141 = .ok (.putfield 49, 3) := by decide +kernel
theorem d_fi_find_144 : decode prog_3_method_2_code 144 = .ok (.iconst 0, 1) := by decide +kernel
theorem d_fi_find_145 : decode prog_3_method_2_code 145 = .ok (.istore 8, 2) := by decide +kernel
theorem d_fi_find_147 : decode prog_3_method_2_code 147 = .ok (.iload 8, 2) := by decide +kernel
theorem d_fi_find_149 : decode prog_3_method_2_code 149 = .ok (.iload 4, 2) := by decide +kernel
theorem d_fi_find_151 : decode prog_3_method_2_code 151 = .ok (.if_icmp .ge 23, 3) := by decide +kernel
theorem d_fi_find_154 : decode prog_3_method_2_code 154 = .ok (.aload_n 3, 1) := by decide +kernel
theorem d_fi_find_155 : decode prog_3_method_2_code 155 = .ok (.getfield 55, 3) := by decide +kernel
theorem d_fi_find_158 : decode prog_3_method_2_code 158 = .ok (.iload 8, 2) := by decide +kernel
theorem d_fi_find_160 : decode prog_3_method_2_code 160 = .ok (.aload_n 0, 1) := by decide +kernel
theorem d_fi_find_161 : decode prog_3_method_2_code 161 = .ok (.getfield 9, 3) := by decide +kernel
theorem d_fi_find_164 : decode prog_3_method_2_code 164 = .ok (.iload 8, 2) := by decide +kernel
theorem d_fi_find_166 : decode prog_3_method_2_code 166 = .ok (.laload, 1) := by decide +kernel
theorem d_fi_find_167 : decode prog_3_method_2_code 167 = .ok (.lastore, 1) := by decide +kernel
theorem d_fi_find_168 : decode prog_3_method_2_code 168 = .ok (.iinc 8 1, 3) := by decide +kernel
theorem d_fi_find_171 : decode prog_3_method_2_code 171 = .ok (.goto (-24), 3) := by decide +kernel
theorem d_fi_find_174 : decode prog_3_method_2_code 174 = .ok (.return_, 1) := by decide +kernel
theorem d_fi_mend_0 : decode prog_3_method_3_code 0 = .ok (.iconst 0, 1) := by decide +kernel
theorem d_fi_mend_1 : decode prog_3_method_3_code 1 = .ok (.istore 5, 2) := by decide +kernel
theorem d_fi_mend_3 : decode prog_3_method_3_code 3 = .ok (.iload 5, 2) := by decide +kernel
theorem d_fi_mend_5 : decode prog_3_method_3_code 5 = .ok (.bipush 48, 2) := by decide +kernel
theorem d_fi_mend_7 : decode prog_3_method_3_code 7 = .ok (.if_icmp .ge 23, 3) := by decide +kernel
theorem d_fi_mend_10 : decode prog_3_method_3_code 10 = .ok (.aload_n 0, 1) := by decide +kernel
theorem d_fi_mend_11 : decode prog_3_method_3_code 11 = .ok (.getfield 18, 3) := by decide +kernel
theorem d_fi_mend_14 : decode prog_3_method_3_code 14 = .ok (.iload 5, 2) := by decide +kernel
theorem d_fi_mend_16 : decode prog_3_method_3_code 16 = .ok (.aload_n 0, 1) := by decide +kernel
theorem d_fi_mend_17 : decode prog_3_method_3_code 17 = .ok (.getfield 9, 3) := by decide +kernel
theorem d_fi_mend_20 : decode prog_3_method_3_code 20 = .ok (.iload 5, 2) := by decide +kernel
theorem d_fi_mend_22 : decode prog_3_method_3_code 22 = .ok (.laload, 1) := by decide +kernel
theorem d_fi_mend_23 : decode prog_3_method_3_code 23 = .ok (.lastore, 1) := by decide +kernel
theorem d_fi_mend_24 : decode prog_3_method_3_code 24 = .ok (.iinc 5 1, 3) := by decide +kernel
theorem d_fi_mend_27 : decode prog_3_method_3_code 27 = .ok (.goto (-24), 3) := by decide +kernel
theorem d_fi_mend_30 : decode prog_3_method_3_code 30 = .ok (.aload_n 0, 1) := by decide +kernel
theorem d_fi_mend_31 : decode prog_3_method_3_code 31 = .ok (.getfield 9, 3) := by decide +kernel
theorem d_fi_mend_34 : decode prog_3_method_3_code 34 = .ok (.iload_n 3, 1) := by decide +kernel
theorem d_fi_mend_35 : decode prog_3_method_3_code 35 = .ok (.iconst 1, 1) := by decide +kernel
theorem d_fi_mend_36 : decode prog_3_method_3_code 36 = .ok (.isub, 1) := by decide +kernel
theorem d_fi_mend_37 : decode prog_3_method_3_code 37 = .ok (.aload_n 0, 1) := by decide +kernel
theorem d_fi_mend_38 : decode prog_3_method_3_code 38 = .ok (.getfield 9, 3) := by decide +kernel
theorem d_fi_mend_41 : decode prog_3_method_3_code 41 = .ok (.iload_n 3, 1) := by decide +kernel
theorem d_fi_mend_42 : decode prog_3_method_3_code 42 = .ok (.iconst 1, 1) := by decide +kernel
theorem d_fi_mend_43 : decode prog_3_method_3_code 43 = .ok (.isub, 1) := by decide +kernel
theorem d_fi_mend_44 : decode prog_3_method_3_code 44 = .ok (.laload, 1) := by decide +kernel
theorem d_fi_mend_45 : decode prog_3_method_3_code 45 = .ok (.lload_n 1, 1) := by decide +kernel
theorem d_fi_mend_46 : decode prog_3_method_3_code 46 = .ok (.invokestatic 58, 3) := by decide +kernel
theorem d_fi_mend_49 : decode prog_3_method_3_code 49 = .ok (.lastore, 1) := by decide +kernel
theorem d_fi_mend_50 : decode prog_3_method_3_code 50 = .ok (.iload_n 3, 1) := by decide +kernel
theorem d_fi_mend_51 : decode prog_3_method_3_code 51 = .ok (.istore 5, 2) := by decide +kernel
theorem d_fi_mend_53 : decode prog_3_method_3_code 53 = .ok (.iload 5, 2) := by decide +kernel
theorem d_fi_mend_55 : decode prog_3_method_3_code 55 = .ok (.iload 4, 2) := by decide +kernel
theorem d_fi_mend_57 : decode prog_3_method_3_code 57 = .ok (.if_icmp .gt 39, 3) := by decide +kernel
theorem d_fi_mend_60 : decode prog_3_method_3_code 60 = .ok (.aload_n 0, 1) := by decide +kernel
theorem d_fi_mend_61 : decode prog_3_method_3_code 61 = .ok (.getfield 9, 3) := by decide +kernel
theorem d_fi_mend_64 : decode prog_3_method_3_code 64 = .ok (.iload 5, 2) := by decide +kernel
theorem d_fi_mend_66 : decode prog_3_method_3_code 66 = .ok (.aload_n 0, 1) := by decide +kernel
theorem d_fi_mend_67 : decode prog_3_method_3_code 67 = .ok (.getfield 9, 3) := by decide +kernel
theorem d_fi_mend_70 : decode prog_3_method_3_code 70 = .ok (.iload 5, 2) := by decide +kernel
theorem d_fi_mend_72 : decode prog_3_method_3_code 72 = .ok (.laload, 1) := by decide +kernel
theorem d_fi_mend_73 : decode prog_3_method_3_code 73 = .ok (.lload_n 1, 1) := by decide +kernel
theorem d_fi_mend_74 : decode prog_3_method_3_code 74 = .ok (.aload_n 0, 1) := by decide +kernel
theorem d_fi_mend_75 : decode prog_3_method_3_code 75 = .ok (.getfield 15, 3) := by decide +kernel
theorem d_fi_mend_78 : decode prog_3_method_3_code 78 = .ok (.iload 5, 2) := by decide +kernel
theorem d_fi_mend_80 : decode prog_3_method_3_code 80 = .ok (.iload_n 3, 1) := by decide +kernel
theorem d_fi_mend_81 : decode prog_3_method_3_code 81 = .ok (.isub, 1) := by decide +kernel
theorem d_fi_mend_82 : decode prog_3_method_3_code 82 = .ok (.laload, 1) := by decide +kernel
theorem d_fi_mend_83 : decode prog_3_method_3_code 83 = .ok (.invokestatic 39, 3) := by decide +kernel
theorem d_fi_mend_86 : decode prog_3_method_3_code 86 = .ok (.invokestatic 31, 3) := by decide +kernel
theorem d_fi_mend_89 : decode prog_3_method_3_code 89 = .ok (.lastore, 1) := by decide +kernel
theorem d_fi_mend_90 : decode prog_3_method_3_code 90 = .ok (.iinc 5 1, 3) := by decide +kernel
theorem d_fi_mend_93 : decode prog_3_method_3_code 93 = .ok (.goto (-40), 3) := by decide +kernel
theorem d_fi_mend_96 : decode prog_3_method_3_code 96 = .ok (.return_, 1) := by decide +kernel
theorem d_fi_keepUnmended_0 : decode prog_3_method_4_code 0 = .ok (.aload_n 0, 1) := by decide +kernel
theorem d_fi_keepUnmended_1 : decode prog_3_method_4_code 1 = .ok (.getfield 15, 3) := by decide +kernel
theorem d_fi_keepUnmended_4 : decode prog_3_method_4_code 4 = .ok (.astore_n 1, 1) := by decide +kernel
theorem d_fi_keepUnmended_5 : decode prog_3_method_4_code 5 = .ok (.aload_n 0, 1) := by decide +kernel
theorem d_fi_keepUnmended_6 : decode prog_3_method_4_code 6 = .ok (.aload_n 0, 1) := by decide +kernel
theorem d_fi_keepUnmended_7 : decode prog_3_method_4_code 7 = .ok (.getfield 18, 3) := by decide +kernel
theorem d_fi_keepUnmended_10 : decode prog_3_method_4_code 10 = .ok (.putfield 15, 3) := by decide +kernel
theorem d_fi_keepUnmended_13 : decode prog_3_method_4_code 13 = .ok (.aload_n 0, 1) := by decide +kernel
theorem d_fi_keepUnmended_14 : decode prog_3_method_4_code 14 = .ok (.aload_n 1, 1) := by decide +kernel
theorem d_fi_keepUnmended_15 : decode prog_3_method_4_code 15 = .ok (.putfield 18, 3) := by decide +kernel
theorem d_fi_keepUnmended_18 : decode prog_3_method_4_code 18 = .ok (.return_, 1) := by decide +kernel
theorem d_fi_erase_0 : decode prog_3_method_5_code 0 = .ok (.iconst 0, 1) := by decide +kernel
theorem d_fi_erase_1 : decode prog_3_method_5_code 1 = .ok (.istore_n 1, 1) := by decide +kernel
theorem d_fi_erase_2 : decode prog_3_method_5_code 2 = .ok (.iload_n 1, 1) := by decide +kernel
theorem d_fi_erase_3 : decode prog_3_method_5_code 3 = .ok (.bipush 48, 2) := by decide +kernel
theorem d_fi_erase_5 : decode prog_3_method_5_code 5 = .ok (.if_icmp .ge 13, 3) := by decide +kernel
theorem d_fi_erase_8 : decode prog_3_method_5_code 8 = .ok (.aload_n 0, 1) := by decide +kernel
theorem d_fi_erase_9 : decode prog_3_method_5_code 9 = .ok (.iload_n 1, 1) := by decide +kernel
theorem d_fi_erase_10 : decode prog_3_method_5_code 10 = .ok (.lconst 0, 1) := by decide +kernel
theorem d_fi_erase_11 : decode prog_3_method_5_code 11 = .ok (.lastore, 1) := by decide +kernel
theorem d_fi_erase_12 : decode prog_3_method_5_code 12 = .ok (.iinc 1 1, 3) := by decide +kernel
theorem d_fi_erase_15 : decode prog_3_method_5_code 15 = .ok (.goto (-13), 3) := by decide +kernel
theorem d_fi_erase_18 : decode prog_3_method_5_code 18 = .ok (.return_, 1) := by decide +kernel
theorem d_nu_of_0 : decode prog_4_method_2_code 0 = .ok (.iload_n 0, 1) := by decide +kernel
theorem d_nu_of_1 : decode prog_4_method_2_code 1 = .ok (.i2l, 1) := by decide +kernel
theorem d_nu_of_2 : decode prog_4_method_2_code 2 = .ok (.ldc2_w 9, 3) := by decide +kernel
theorem d_nu_of_5 : decode prog_4_method_2_code 5 = .ok (.lrem, 1) := by decide +kernel
theorem d_nu_of_6 : decode prog_4_method_2_code 6 = .ok (.lstore_n 1, 1) := by decide +kernel
theorem d_nu_of_7 : decode prog_4_method_2_code 7 = .ok (.lload_n 1, 1) := by decide +kernel
theorem d_nu_of_8 : decode prog_4_method_2_code 8 = .ok (.lconst 0, 1) := by decide +kernel
theorem d_nu_of_9 : decode prog_4_method_2_code 9 = .ok (.lcmp, 1) := by decide +kernel
theorem d_nu_of_10 : decode prog_4_method_2_code 10 = .ok (.ifCond .ge 11, 3) := by decide +kernel
theorem d_nu_of_13 : decode prog_4_method_2_code 13 = .ok (.lload_n 1, 1) := by decide +kernel
theorem d_nu_of_14 : decode prog_4_method_2_code 14 = .ok (.ldc2_w 9, 3) := by decide +kernel
theorem d_nu_of_17 : decode prog_4_method_2_code 17 = .ok (.ladd, 1) := by decide +kernel
theorem d_nu_of_18 : decode prog_4_method_2_code 18 = .ok (.goto 4, 3) := by decide +kernel
theorem d_nu_of_21 : decode prog_4_method_2_code 21 = .ok (.lload_n 1, 1) := by decide +kernel
theorem d_nu_of_22 : decode prog_4_method_2_code 22 = .ok (.lreturn, 1) := by decide +kernel
theorem d_nu_plus_0 : decode prog_4_method_3_code 0 = .ok (.lload_n 0, 1) := by decide +kernel
theorem d_nu_plus_1 : decode prog_4_method_3_code 1 = .ok (.lload_n 2, 1) := by decide +kernel
theorem d_nu_plus_2 : decode prog_4_method_3_code 2 = .ok (.ladd, 1) := by decide +kernel
theorem d_nu_plus_3 : decode prog_4_method_3_code 3 = .ok (.ldc2_w 9, 3) := by decide +kernel
theorem d_nu_plus_6 : decode prog_4_method_3_code 6 = .ok (.lrem, 1) := by decide +kernel
theorem d_nu_plus_7 : decode prog_4_method_3_code 7 = .ok (.lreturn, 1) := by decide +kernel
theorem d_nu_minus_0 : decode prog_4_method_4_code 0 = .ok (.lload_n 0, 1) := by decide +kernel
theorem d_nu_minus_1 : decode prog_4_method_4_code 1 = .ok (.ldc2_w 9, 3) := by decide +kernel
theorem d_nu_minus_4 : decode prog_4_method_4_code 4 = .ok (.ladd, 1) := by decide +kernel
theorem d_nu_minus_5 : decode prog_4_method_4_code 5 = .ok (.lload_n 2, 1) := by decide +kernel
theorem d_nu_minus_6 : decode prog_4_method_4_code 6 = .ok (.lsub, 1) := by decide +kernel
theorem d_nu_minus_7 : decode prog_4_method_4_code 7 = .ok (.ldc2_w 9, 3) := by decide +kernel
theorem d_nu_minus_10 : decode prog_4_method_4_code 10 = .ok (.lrem, 1) := by decide +kernel
theorem d_nu_minus_11 : decode prog_4_method_4_code 11 = .ok (.lreturn, 1) := by decide +kernel
theorem d_nu_times_0 : decode prog_4_method_5_code 0 = .ok (.lload_n 0, 1) := by decide +kernel
theorem d_nu_times_1 : decode prog_4_method_5_code 1 = .ok (.lload_n 2, 1) := by decide +kernel
theorem d_nu_times_2 : decode prog_4_method_5_code 2 = .ok (.lmul, 1) := by decide +kernel
theorem d_nu_times_3 : decode prog_4_method_5_code 3 = .ok (.ldc2_w 9, 3) := by decide +kernel
theorem d_nu_times_6 : decode prog_4_method_5_code 6 = .ok (.lrem, 1) := by decide +kernel
theorem d_nu_times_7 : decode prog_4_method_5_code 7 = .ok (.lreturn, 1) := by decide +kernel
theorem d_nu_plusTimes_0 : decode prog_4_method_6_code 0 = .ok (.lload_n 0, 1) := by decide +kernel
theorem d_nu_plusTimes_1 : decode prog_4_method_6_code 1 = .ok (.lload_n 2, 1) := by decide +kernel
theorem d_nu_plusTimes_2 : decode prog_4_method_6_code 2 = .ok (.lload 4, 2) := by decide +kernel
theorem d_nu_plusTimes_4 : decode prog_4_method_6_code 4 = .ok (.lmul, 1) := by decide +kernel
theorem d_nu_plusTimes_5 : decode prog_4_method_6_code 5 = .ok (.ladd, 1) := by decide +kernel
theorem d_nu_plusTimes_6 : decode prog_4_method_6_code 6 = .ok (.ldc2_w 9, 3) := by decide +kernel
theorem d_nu_plusTimes_9 : decode prog_4_method_6_code 9 = .ok (.lrem, 1) := by decide +kernel
theorem d_nu_plusTimes_10 : decode prog_4_method_6_code 10 = .ok (.lreturn, 1) := by decide +kernel
theorem d_nu_inverse_0 : decode prog_4_method_7_code 0 = .ok (.lconst 1, 1) := by decide +kernel
theorem d_nu_inverse_1 : decode prog_4_method_7_code 1 = .ok (.lstore_n 2, 1) := by decide +kernel
theorem d_nu_inverse_2 : decode prog_4_method_7_code 2 = .ok (.lload_n 0, 1) := by decide +kernel
theorem d_nu_inverse_3 : decode prog_4_method_7_code 3 = .ok (.lstore 4, 2) := by decide +kernel
theorem d_nu_inverse_5 : decode prog_4_method_7_code 5 = .ok (.ldc2_w 11, 3) := by decide +kernel
theorem d_nu_inverse_8 : decode prog_4_method_7_code 8 = .ok (.lstore 6, 2) := by decide +kernel
theorem d_nu_inverse_10 : decode prog_4_method_7_code 10 = .ok (.lload 6, 2) := by decide +kernel
theorem d_nu_inverse_12 : decode prog_4_method_7_code 12 = .ok (.lconst 0, 1) := by decide +kernel
theorem d_nu_inverse_13 : decode prog_4_method_7_code 13 = .ok (.lcmp, 1) := by decide +kernel
theorem d_nu_inverse_14 : decode prog_4_method_7_code 14 = .ok (.ifCond .le 37, 3) := by decide +kernel
theorem d_nu_inverse_17 : decode prog_4_method_7_code 17 = .ok (.lload 6, 2) := by decide +kernel
theorem d_nu_inverse_19 : decode prog_4_method_7_code 19 = .ok (.lconst 1, 1) := by decide +kernel
theorem d_nu_inverse_20 : decode prog_4_method_7_code 20 = .ok (.land, 1) := by decide +kernel
theorem d_nu_inverse_21 : decode prog_4_method_7_code 21 = .ok (.lconst 1, 1) := by decide +kernel
theorem d_nu_inverse_22 : decode prog_4_method_7_code 22 = .ok (.lcmp, 1) := by decide +kernel
theorem d_nu_inverse_23 : decode prog_4_method_7_code 23 = .ok (.ifCond .ne 10, 3) := by decide +kernel
theorem d_nu_inverse_26 : decode prog_4_method_7_code 26 = .ok (.lload_n 2, 1) := by decide +kernel
theorem d_nu_inverse_27 : decode prog_4_method_7_code 27 = .ok (.lload 4, 2) := by decide +kernel
theorem d_nu_inverse_29 : decode prog_4_method_7_code 29 = .ok (.invokestatic 13, 3) := by decide +kernel
theorem d_nu_inverse_32 : decode prog_4_method_7_code 32 = .ok (.lstore_n 2, 1) := by decide +kernel
theorem d_nu_inverse_33 : decode prog_4_method_7_code 33 = .ok (.lload 4, 2) := by decide +kernel
theorem d_nu_inverse_35 : decode prog_4_method_7_code 35 = .ok (.lload 4, 2) := by decide +kernel
theorem d_nu_inverse_37 : decode prog_4_method_7_code 37 = .ok (.invokestatic 13, 3) := by decide +kernel
theorem d_nu_inverse_40 : decode prog_4_method_7_code 40 = .ok (.lstore 4, 2) := by decide +kernel
theorem d_nu_inverse_42 : decode prog_4_method_7_code 42 = .ok (.lload 6, 2) := by decide +kernel
theorem d_nu_inverse_44 : decode prog_4_method_7_code 44 = .ok (.iconst 1, 1) := by decide +kernel
theorem d_nu_inverse_45 : decode prog_4_method_7_code 45 = .ok (.lshr, 1) := by decide +kernel
theorem d_nu_inverse_46 : decode prog_4_method_7_code 46 = .ok (.lstore 6, 2) := by decide +kernel
theorem d_nu_inverse_48 : decode prog_4_method_7_code 48 = .ok (.goto (-38), 3) := by decide +kernel
theorem d_nu_inverse_51 : decode prog_4_method_7_code 51 = .ok (.lload_n 2, 1) := by decide +kernel
theorem d_nu_inverse_52 : decode prog_4_method_7_code 52 = .ok (.lreturn, 1) := by decide +kernel
theorem d_nu_foretold_0 : decode prog_4_method_8_code 0 = .ok (.lconst 0, 1) := by decide +kernel
theorem d_nu_foretold_1 : decode prog_4_method_8_code 1 = .ok (.lstore 4, 2) := by decide +kernel
theorem d_nu_foretold_3 : decode prog_4_method_8_code 3 = .ok (.iconst 0, 1) := by decide +kernel
theorem d_nu_foretold_4 : decode prog_4_method_8_code 4 = .ok (.istore 6, 2) := by decide +kernel
theorem d_nu_foretold_6 : decode prog_4_method_8_code 6 = .ok (.iload 6, 2) := by decide +kernel
theorem d_nu_foretold_8 : decode prog_4_method_8_code 8 = .ok (.iload_n 1, 1) := by decide +kernel
theorem d_nu_foretold_9 : decode prog_4_method_8_code 9 = .ok (.if_icmp .ge 28, 3) := by decide +kernel
theorem d_nu_foretold_12 : decode prog_4_method_8_code 12 = .ok (.lload 4, 2) := by decide +kernel
theorem d_nu_foretold_14 : decode prog_4_method_8_code 14 = .ok (.aload_n 0, 1) := by decide +kernel
theorem d_nu_foretold_15 : decode prog_4_method_8_code 15 = .ok (.iload 6, 2) := by decide +kernel
theorem d_nu_foretold_17 : decode prog_4_method_8_code 17 = .ok (.laload, 1) := by decide +kernel
theorem d_nu_foretold_18 : decode prog_4_method_8_code 18 = .ok (.aload_n 2, 1) := by decide +kernel
theorem d_nu_foretold_19 : decode prog_4_method_8_code 19 = .ok (.iload_n 3, 1) := by decide +kernel
theorem d_nu_foretold_20 : decode prog_4_method_8_code 20 = .ok (.iconst 1, 1) := by decide +kernel
theorem d_nu_foretold_21 : decode prog_4_method_8_code 21 = .ok (.isub, 1) := by decide +kernel
theorem d_nu_foretold_22 : decode prog_4_method_8_code 22 = .ok (.iload 6, 2) := by decide +kernel
theorem d_nu_foretold_24 : decode prog_4_method_8_code 24 = .ok (.isub, 1) := by decide +kernel
theorem d_nu_foretold_25 : decode prog_4_method_8_code 25 = .ok (.laload, 1) := by decide +kernel
theorem d_nu_foretold_26 : decode prog_4_method_8_code 26 = .ok (.invokestatic 17, 3) := by decide +kernel
theorem d_nu_foretold_29 : decode prog_4_method_8_code 29 = .ok (.lstore 4, 2) := by decide +kernel
theorem d_nu_foretold_31 : decode prog_4_method_8_code 31 = .ok (.iinc 6 1, 3) := by decide +kernel
theorem d_nu_foretold_34 : decode prog_4_method_8_code 34 = .ok (.goto (-28), 3) := by decide +kernel
theorem d_nu_foretold_37 : decode prog_4_method_8_code 37 = .ok (.lload 4, 2) := by decide +kernel
theorem d_nu_foretold_39 : decode prog_4_method_8_code 39 = .ok (.lreturn, 1) := by decide +kernel
theorem d_sk_init_0 : decode prog_5_method_1_code 0 = .ok (.aload_n 0, 1) := by decide +kernel
theorem d_sk_init_1 : decode prog_5_method_1_code 1 = .ok (.invokespecial 3, 3) := by decide +kernel
theorem d_sk_init_4 : decode prog_5_method_1_code 4 = .ok (.aload_n 0, 1) := by decide +kernel
theorem d_sk_init_5 : decode prog_5_method_1_code 5 = .ok (.bipush 49, 2) := by decide +kernel
theorem d_sk_init_7 : decode prog_5_method_1_code 7 = .ok (.newarray .long, 2) := by decide +kernel
theorem d_sk_init_9 : decode prog_5_method_1_code 9 = .ok (.putfield 9, 3) := by decide +kernel
theorem d_sk_init_12 : decode prog_5_method_1_code 12 = .ok (.aload_n 0, 1) := by decide +kernel
theorem d_sk_init_13 : decode prog_5_method_1_code 13 = .ok (.bipush 49, 2) := by decide +kernel
theorem d_sk_init_15 : decode prog_5_method_1_code 15 = .ok (.newarray .long, 2) := by decide +kernel
theorem d_sk_init_17 : decode prog_5_method_1_code 17 = .ok (.putfield 15, 3) := by decide +kernel
theorem d_sk_init_20 : decode prog_5_method_1_code 20 = .ok (.aload_n 0, 1) := by decide +kernel
theorem d_sk_init_21 : decode prog_5_method_1_code 21 = .ok (.bipush 49, 2) := by decide +kernel
theorem d_sk_init_23 : decode prog_5_method_1_code 23 = .ok (.newarray .long, 2) := by decide +kernel
theorem d_sk_init_25 : decode prog_5_method_1_code 25 = .ok (.putfield 18, 3) := by decide +kernel
theorem d_sk_init_28 : decode prog_5_method_1_code 28 = .ok (.aload_n 0, 1) := by decide +kernel
theorem d_sk_init_29 : decode prog_5_method_1_code 29 = .ok (.bipush 49, 2) := by decide +kernel
theorem d_sk_init_31 : decode prog_5_method_1_code 31 = .ok (.newarray .long, 2) := by decide +kernel
theorem d_sk_init_33 : decode prog_5_method_1_code 33 = .ok (.putfield 21, 3) := by decide +kernel
theorem d_sk_init_36 : decode prog_5_method_1_code 36 = .ok (.aload_n 0, 1) := by decide +kernel
theorem d_sk_init_37 : decode prog_5_method_1_code 37 = .ok (.bipush 49, 2) := by decide +kernel
theorem d_sk_init_39 : decode prog_5_method_1_code 39 = .ok (.newarray .long, 2) := by decide +kernel
theorem d_sk_init_41 : decode prog_5_method_1_code 41 = .ok (.putfield 24, 3) := by decide +kernel
theorem d_sk_init_44 : decode prog_5_method_1_code 44 = .ok (.return_, 1) := by decide +kernel
theorem d_sk_seek_0 : decode prog_5_method_2_code 0 = .ok (.aload_n 0, 1) := by decide +kernel
theorem d_sk_seek_1 : decode prog_5_method_2_code 1 = .ok (.aload_n 1, 1) := by decide +kernel
theorem d_sk_seek_2 : decode prog_5_method_2_code 2 = .ok (.invokevirtual 27, 3) := by decide +kernel
theorem d_sk_seek_5 : decode prog_5_method_2_code 5 = .ok (.iconst 0, 1) := by decide +kernel
theorem d_sk_seek_6 : decode prog_5_method_2_code 6 = .ok (.istore 4, 2) := by decide +kernel
theorem d_sk_seek_8 : decode prog_5_method_2_code 8 = .ok (.iload 4, 2) := by decide +kernel
theorem d_sk_seek_10 : decode prog_5_method_2_code 10 = .ok (.bipush 63, 2) := by decide +kernel
theorem d_sk_seek_12 : decode prog_5_method_2_code 12 = .ok (.if_icmp .ge 33, 3) := by decide +kernel
theorem d_sk_seek_15 : decode prog_5_method_2_code 15 = .ok (.lload_n 2, 1) := by decide +kernel
theorem d_sk_seek_16 : decode prog_5_method_2_code 16 = .ok (.iload 4, 2) := by decide +kernel
theorem d_sk_seek_18 : decode prog_5_method_2_code 18 = .ok (.lshr, 1) := by decide +kernel
theorem d_sk_seek_19 : decode prog_5_method_2_code 19 = .ok (.lconst 0, 1) := by decide +kernel
theorem d_sk_seek_20 : decode prog_5_method_2_code 20 = .ok (.lcmp, 1) := by decide +kernel
theorem d_sk_seek_21 : decode prog_5_method_2_code 21 = .ok (.ifCond .eq 24, 3) := by decide +kernel
theorem d_sk_seek_24 : decode prog_5_method_2_code 24 = .ok (.aload_n 0, 1) := by decide +kernel
theorem d_sk_seek_25 : decode prog_5_method_2_code 25 = .ok (.aload_n 1, 1) := by decide +kernel
theorem d_sk_seek_26 : decode prog_5_method_2_code 26 = .ok (.getfield 31, 3) := by decide +kernel
theorem d_sk_seek_29 : decode prog_5_method_2_code 29 = .ok (.lload_n 2, 1) := by decide +kernel
theorem d_sk_seek_30 : decode prog_5_method_2_code 30 = .ok (.iload 4, 2) := by decide +kernel
theorem d_sk_seek_32 : decode prog_5_method_2_code 32 = .ok (.lshr, 1) := by decide +kernel
theorem d_sk_seek_33 : decode prog_5_method_2_code 33 = .ok (.lconst 1, 1) := by decide +kernel
theorem d_sk_seek_34 : decode prog_5_method_2_code 34 = .ok (.land, 1) := by decide +kernel
theorem d_sk_seek_35 : decode prog_5_method_2_code 35 = .ok (.l2i, 1) := by decide +kernel
theorem d_sk_seek_36 : decode prog_5_method_2_code 36 = .ok (.invokevirtual 37, 3) := by decide +kernel
theorem d_sk_seek_39 : decode prog_5_method_2_code 39 = .ok (.iinc 4 1, 3) := by decide +kernel
theorem d_sk_seek_42 : decode prog_5_method_2_code 42 = .ok (.goto (-34), 3) := by decide +kernel
theorem d_sk_seek_45 : decode prog_5_method_2_code 45 = .ok (.aload_n 0, 1) := by decide +kernel
theorem d_sk_seek_46 : decode prog_5_method_2_code 46 = .ok (.getfield 9, 3) := by decide +kernel
theorem d_sk_seek_49 : decode prog_5_method_2_code 49 = .ok (.iconst 0, 1) := by decide +kernel
theorem d_sk_seek_50 : decode prog_5_method_2_code 50 = .ok (.laload, 1) := by decide +kernel
theorem d_sk_seek_51 : decode prog_5_method_2_code 51 = .ok (.lreturn, 1) := by decide +kernel
theorem d_sk_load_0 : decode prog_5_method_3_code 0 = .ok (.aload_n 0, 1) := by decide +kernel
theorem d_sk_load_1 : decode prog_5_method_3_code 1 = .ok (.getfield 15, 3) := by decide +kernel
theorem d_sk_load_4 : decode prog_5_method_3_code 4 = .ok (.iconst 0, 1) := by decide +kernel
theorem d_sk_load_5 : decode prog_5_method_3_code 5 = .ok (.lconst 1, 1) := by decide +kernel
theorem d_sk_load_6 : decode prog_5_method_3_code 6 = .ok (.lastore, 1) := by decide +kernel
theorem d_sk_load_7 : decode prog_5_method_3_code 7 = .ok (.iconst 0, 1) := by decide +kernel
theorem d_sk_load_8 : decode prog_5_method_3_code 8 = .ok (.istore_n 2, 1) := by decide +kernel
theorem d_sk_load_9 : decode prog_5_method_3_code 9 = .ok (.iload_n 2, 1) := by decide +kernel
theorem d_sk_load_10 : decode prog_5_method_3_code 10 = .ok (.aload_n 1, 1) := by decide +kernel
theorem d_sk_load_11 : decode prog_5_method_3_code 11 = .ok (.getfield 31, 3) := by decide +kernel
theorem d_sk_load_14 : decode prog_5_method_3_code 14 = .ok (.if_icmp .ge 57, 3) := by decide +kernel
theorem d_sk_load_17 : decode prog_5_method_3_code 17 = .ok (.aload_n 0, 1) := by decide +kernel
theorem d_sk_load_18 : decode prog_5_method_3_code 18 = .ok (.getfield 15, 3) := by decide +kernel
theorem d_sk_load_21 : decode prog_5_method_3_code 21 = .ok (.iload_n 2, 1) := by decide +kernel
theorem d_sk_load_22 : decode prog_5_method_3_code 22 = .ok (.iconst 1, 1) := by decide +kernel
theorem d_sk_load_23 : decode prog_5_method_3_code 23 = .ok (.iadd, 1) := by decide +kernel
theorem d_sk_load_24 : decode prog_5_method_3_code 24 = .ok (.lconst 0, 1) := by decide +kernel
theorem d_sk_load_25 : decode prog_5_method_3_code 25 = .ok (.aload_n 1, 1) := by decide +kernel
theorem d_sk_load_26 : decode prog_5_method_3_code 26 = .ok (.getfield 41, 3) := by decide +kernel
theorem d_sk_load_29 : decode prog_5_method_3_code 29 = .ok (.iload_n 2, 1) := by decide +kernel
theorem d_sk_load_30 : decode prog_5_method_3_code 30 = .ok (.laload, 1) := by decide +kernel
theorem d_sk_load_31 : decode prog_5_method_3_code 31 = .ok (.invokestatic 44, 3) := by decide +kernel
theorem d_sk_load_34 : decode prog_5_method_3_code 34 = .ok (.lastore, 1) := by decide +kernel
theorem d_sk_load_35 : decode prog_5_method_3_code 35 = .ok (.aload_n 1, 1) := by decide +kernel
theorem d_sk_load_36 : decode prog_5_method_3_code 36 = .ok (.getfield 41, 3) := by decide +kernel
theorem d_sk_load_39 : decode prog_5_method_3_code 39 = .ok (.iload_n 2, 1) := by decide +kernel
theorem d_sk_load_40 : decode prog_5_method_3_code 40 = .ok (.aload_n 1, 1) := by decide +kernel
theorem d_sk_load_41 : decode prog_5_method_3_code 41 = .ok (.getfield 50, 3) := by decide +kernel
theorem d_sk_load_44 : decode prog_5_method_3_code 44 = .ok (.iload_n 2, 1) := by decide +kernel
theorem d_sk_load_45 : decode prog_5_method_3_code 45 = .ok (.invokestatic 53, 3) := by decide +kernel
theorem d_sk_load_48 : decode prog_5_method_3_code 48 = .ok (.lstore_n 3, 1) := by decide +kernel
theorem d_sk_load_49 : decode prog_5_method_3_code 49 = .ok (.aload_n 0, 1) := by decide +kernel
theorem d_sk_load_50 : decode prog_5_method_3_code 50 = .ok (.getfield 9, 3) := by decide +kernel
theorem d_sk_load_53 : decode prog_5_method_3_code 53 = .ok (.iload_n 2, 1) := by decide +kernel
theorem d_sk_load_54 : decode prog_5_method_3_code 54 = .ok (.aload_n 1, 1) := by decide +kernel
theorem d_sk_load_55 : decode prog_5_method_3_code 55 = .ok (.getfield 50, 3) := by decide +kernel
theorem d_sk_load_58 : decode prog_5_method_3_code 58 = .ok (.iload_n 2, 1) := by decide +kernel
theorem d_sk_load_59 : decode prog_5_method_3_code 59 = .ok (.laload, 1) := by decide +kernel
theorem d_sk_load_60 : decode prog_5_method_3_code 60 = .ok (.lload_n 3, 1) := by decide +kernel
theorem d_sk_load_61 : decode prog_5_method_3_code 61 = .ok (.invokestatic 44, 3) := by decide +kernel
theorem d_sk_load_64 : decode prog_5_method_3_code 64 = .ok (.lastore, 1) := by decide +kernel
theorem d_sk_load_65 : decode prog_5_method_3_code 65 = .ok (.iinc 2 1, 3) := by decide +kernel
theorem d_sk_load_68 : decode prog_5_method_3_code 68 = .ok (.goto (-59), 3) := by decide +kernel
theorem d_sk_load_71 : decode prog_5_method_3_code 71 = .ok (.aload_n 0, 1) := by decide +kernel
theorem d_sk_load_72 : decode prog_5_method_3_code 72 = .ok (.getfield 9, 3) := by decide +kernel
theorem d_sk_load_75 : decode prog_5_method_3_code 75 = .ok (.aload_n 1, 1) := by decide +kernel
theorem d_sk_load_76 : decode prog_5_method_3_code 76 = .ok (.getfield 31, 3) := by decide +kernel
theorem d_sk_load_79 : decode prog_5_method_3_code 79 = .ok (.lconst 0, 1) := by decide +kernel
theorem d_sk_load_80 : decode prog_5_method_3_code 80 = .ok (.lastore, 1) := by decide +kernel
theorem d_sk_load_81 : decode prog_5_method_3_code 81 = .ok (.return_, 1) := by decide +kernel
theorem d_sk_halve_0 : decode prog_5_method_4_code 0 = .ok (.iconst 0, 1) := by decide +kernel
theorem d_sk_halve_1 : decode prog_5_method_4_code 1 = .ok (.istore_n 3, 1) := by decide +kernel
theorem d_sk_halve_2 : decode prog_5_method_4_code 2 = .ok (.iload_n 3, 1) := by decide +kernel
theorem d_sk_halve_3 : decode prog_5_method_4_code 3 = .ok (.iload_n 1, 1) := by decide +kernel
theorem d_sk_halve_4 : decode prog_5_method_4_code 4 = .ok (.if_icmp .gt 40, 3) := by decide +kernel
theorem d_sk_halve_7 : decode prog_5_method_4_code 7 = .ok (.aload_n 0, 1) := by decide +kernel
theorem d_sk_halve_8 : decode prog_5_method_4_code 8 = .ok (.getfield 24, 3) := by decide +kernel
theorem d_sk_halve_11 : decode prog_5_method_4_code 11 = .ok (.iload_n 3, 1) := by decide +kernel
theorem d_sk_halve_12 : decode prog_5_method_4_code 12 = .ok (.iload_n 3, 1) := by decide +kernel
theorem d_sk_halve_13 : decode prog_5_method_4_code 13 = .ok (.iconst 1, 1) := by decide +kernel
theorem d_sk_halve_14 : decode prog_5_method_4_code 14 = .ok (.iand, 1) := by decide +kernel
theorem d_sk_halve_15 : decode prog_5_method_4_code 15 = .ok (.ifCond .ne 12, 3) := by decide +kernel
theorem d_sk_halve_18 : decode prog_5_method_4_code 18 = .ok (.aload_n 0, 1) := by decide +kernel
theorem d_sk_halve_19 : decode prog_5_method_4_code 19 = .ok (.getfield 15, 3) := by decide +kernel
theorem d_sk_halve_22 : decode prog_5_method_4_code 22 = .ok (.iload_n 3, 1) := by decide +kernel
theorem d_sk_halve_23 : decode prog_5_method_4_code 23 = .ok (.laload, 1) := by decide +kernel
theorem d_sk_halve_24 : decode prog_5_method_4_code 24 = .ok (.goto 13, 3) := by decide +kernel
theorem d_sk_halve_27 : decode prog_5_method_4_code 27 = .ok (.lconst 0, 1) := by decide +kernel
theorem d_sk_halve_28 : decode prog_5_method_4_code 28 = .ok (.aload_n 0, 1) := by decide +kernel
theorem d_sk_halve_29 : decode prog_5_method_4_code 29 = .ok (.getfield 15, 3) := by decide +kernel
theorem d_sk_halve_32 : decode prog_5_method_4_code 32 = .ok (.iload_n 3, 1) := by decide +kernel
theorem d_sk_halve_33 : decode prog_5_method_4_code 33 = .ok (.laload, 1) := by decide +kernel
theorem d_sk_halve_34 : decode prog_5_method_4_code 34 = .ok (.invokestatic 44, 3) := by decide +kernel
theorem d_sk_halve_37 : decode prog_5_method_4_code 37 = .ok (.lastore, 1) := by decide +kernel
theorem d_sk_halve_38 : decode prog_5_method_4_code 38 = .ok (.iinc 3 1, 3) := by decide +kernel
theorem d_sk_halve_41 : decode prog_5_method_4_code 41 = .ok (.goto (-39), 3) := by decide +kernel
theorem d_sk_halve_44 : decode prog_5_method_4_code 44 = .ok (.iconst 0, 1) := by decide +kernel
theorem d_sk_halve_45 : decode prog_5_method_4_code 45 = .ok (.istore_n 3, 1) := by decide +kernel
theorem d_sk_halve_46 : decode prog_5_method_4_code 46 = .ok (.iload_n 3, 1) := by decide +kernel
theorem d_sk_halve_47 : decode prog_5_method_4_code 47 = .ok (.iload_n 1, 1) := by decide +kernel
theorem d_sk_halve_48 : decode prog_5_method_4_code 48 = .ok (.if_icmp .gt 47, 3) := by decide +kernel
theorem d_sk_halve_51 : decode prog_5_method_4_code 51 = .ok (.aload_n 0, 1) := by decide +kernel
theorem d_sk_halve_52 : decode prog_5_method_4_code 52 = .ok (.getfield 18, 3) := by decide +kernel
theorem d_sk_halve_55 : decode prog_5_method_4_code 55 = .ok (.iload_n 3, 1) := by decide +kernel
theorem d_sk_halve_56 : decode prog_5_method_4_code 56 = .ok (.aload_n 0, 1) := by decide +kernel
theorem d_sk_halve_57 : decode prog_5_method_4_code 57 = .ok (.aload_n 0, 1) := by decide +kernel
theorem d_sk_halve_58 : decode prog_5_method_4_code 58 = .ok (.getfield 9, 3) := by decide +kernel
theorem d_sk_halve_61 : decode prog_5_method_4_code 61 = .ok (.iload_n 1, 1) := by decide +kernel
theorem d_sk_halve_62 : decode prog_5_method_4_code 62 = .ok (.iconst 2, 1) := by decide +kernel
theorem d_sk_halve_63 : decode prog_5_method_4_code 63 = .ok (.iload_n 3, 1) := by decide +kernel
theorem d_sk_halve_64 : decode prog_5_method_4_code 64 = .ok (.imul, 1) := by decide +kernel
theorem d_sk_halve_65 : decode prog_5_method_4_code 65 = .ok (.iload_n 2, 1) := by decide +kernel
theorem d_sk_halve_66 : decode prog_5_method_4_code 66 = .ok (.iadd, 1) := by decide +kernel
theorem d_sk_halve_67 : decode prog_5_method_4_code 67 = .ok (.invokevirtual 57, 3) := by decide +kernel
theorem d_sk_halve_70 : decode prog_5_method_4_code 70 = .ok (.lastore, 1) := by decide +kernel
theorem d_sk_halve_71 : decode prog_5_method_4_code 71 = .ok (.aload_n 0, 1) := by decide +kernel
theorem d_sk_halve_72 : decode prog_5_method_4_code 72 = .ok (.getfield 21, 3) := by decide +kernel
theorem d_sk_halve_75 : decode prog_5_method_4_code 75 = .ok (.iload_n 3, 1) := by decide +kernel
theorem d_sk_halve_76 : decode prog_5_method_4_code 76 = .ok (.aload_n 0, 1) := by decide +kernel
theorem d_sk_halve_77 : decode prog_5_method_4_code 77 = .ok (.aload_n 0, 1) := by decide +kernel
theorem d_sk_halve_78 : decode prog_5_method_4_code 78 = .ok (.getfield 15, 3) := by decide +kernel
theorem d_sk_halve_81 : decode prog_5_method_4_code 81 = .ok (.iload_n 1, 1) := by decide +kernel
theorem d_sk_halve_82 : decode prog_5_method_4_code 82 = .ok (.iconst 2, 1) := by decide +kernel
theorem d_sk_halve_83 : decode prog_5_method_4_code 83 = .ok (.iload_n 3, 1) := by decide +kernel
theorem d_sk_halve_84 : decode prog_5_method_4_code 84 = .ok (.imul, 1) := by decide +kernel
theorem d_sk_halve_85 : decode prog_5_method_4_code 85 = .ok (.invokevirtual 57, 3) := by decide +kernel
theorem d_sk_halve_88 : decode prog_5_method_4_code 88 = .ok (.lastore, 1) := by decide +kernel
theorem d_sk_halve_89 : decode prog_5_method_4_code 89 = .ok (.iinc 3 1, 3) := by decide +kernel
theorem d_sk_halve_92 : decode prog_5_method_4_code 92 = .ok (.goto (-46), 3) := by decide +kernel
theorem d_sk_halve_95 : decode prog_5_method_4_code 95 = .ok (.aload_n 0, 1) := by decide +kernel
theorem d_sk_halve_96 : decode prog_5_method_4_code 96 = .ok (.getfield 9, 3) := by decide +kernel
theorem d_sk_halve_99 : decode prog_5_method_4_code 99 = .ok (.astore_n 3, 1) := by decide +kernel
theorem d_sk_halve_100 : decode prog_5_method_4_code 100 = .ok (.aload_n 0, 1) := by decide +kernel
theorem d_sk_halve_101 : decode prog_5_method_4_code 101 = .ok (.aload_n 0, 1) := by decide +kernel
theorem d_sk_halve_102 : decode prog_5_method_4_code 102 = .ok (.getfield 18, 3) := by decide +kernel
theorem d_sk_halve_105 : decode prog_5_method_4_code 105 = .ok (.putfield 9, 3) := by decide +kernel
theorem d_sk_halve_108 : decode prog_5_method_4_code 108 = .ok (.aload_n 0, 1) := by decide +kernel
theorem d_sk_halve_109 : decode prog_5_method_4_code 109 = .ok (.aload_n 3, 1) := by decide +kernel
theorem d_sk_halve_110 : decode prog_5_method_4_code 110 = .ok (.putfield 18, 3) := by decide +kernel
theorem d_sk_halve_113 : decode prog_5_method_4_code 113 = .ok (.aload_n 0, 1) := by decide +kernel
theorem d_sk_halve_114 : decode prog_5_method_4_code 114 = .ok (.getfield 15, 3) := by decide +kernel
theorem d_sk_halve_117 : decode prog_5_method_4_code 117 = .ok (.astore_n 3, 1) := by decide +kernel
theorem d_sk_halve_118 : decode prog_5_method_4_code 118 = .ok (.aload_n 0, 1) := by decide +kernel
theorem d_sk_halve_119 : decode prog_5_method_4_code 119 = .ok (.aload_n 0, 1) := by decide +kernel
theorem d_sk_halve_120 : decode prog_5_method_4_code 120 = .ok (.getfield 21, 3) := by decide +kernel
theorem d_sk_halve_123 : decode prog_5_method_4_code 123 = .ok (.putfield 15, 3) := by decide +kernel
theorem d_sk_halve_126 : decode prog_5_method_4_code 126 = .ok (.aload_n 0, 1) := by decide +kernel
theorem d_sk_halve_127 : decode prog_5_method_4_code 127 = .ok (.aload_n 3, 1) := by decide +kernel
theorem d_sk_halve_128 : decode prog_5_method_4_code 128 = .ok (.putfield 21, 3) := by decide +kernel
theorem d_sk_halve_131 : decode prog_5_method_4_code 131 = .ok (.return_, 1) := by decide +kernel
theorem d_sk_timesMirrored_0 : decode prog_5_method_5_code 0 = .ok (.lconst 0, 1) := by decide +kernel
theorem d_sk_timesMirrored_1 : decode prog_5_method_5_code 1 = .ok (.lstore 4, 2) := by decide +kernel
theorem d_sk_timesMirrored_3 : decode prog_5_method_5_code 3 = .ok (.iconst 0, 1) := by decide +kernel
theorem d_sk_timesMirrored_4 : decode prog_5_method_5_code 4 = .ok (.iload_n 3, 1) := by decide +kernel
theorem d_sk_timesMirrored_5 : decode prog_5_method_5_code 5 = .ok (.iload_n 2, 1) := by decide +kernel
theorem d_sk_timesMirrored_6 : decode prog_5_method_5_code 6 = .ok (.isub, 1) := by decide +kernel
theorem d_sk_timesMirrored_7 : decode prog_5_method_5_code 7 = .ok (.invokestatic 61, 3) := by decide +kernel
theorem d_sk_timesMirrored_10 : decode prog_5_method_5_code 10 = .ok (.istore 6, 2) := by decide +kernel
theorem d_sk_timesMirrored_12 : decode prog_5_method_5_code 12 = .ok (.iload 6, 2) := by decide +kernel
theorem d_sk_timesMirrored_14 : decode prog_5_method_5_code 14 = .ok (.iload_n 2, 1) := by decide +kernel
theorem d_sk_timesMirrored_15 : decode prog_5_method_5_code 15 = .ok (.if_icmp .gt 35, 3) := by decide +kernel
theorem d_sk_timesMirrored_18 : decode prog_5_method_5_code 18 = .ok (.iload 6, 2) := by decide +kernel
theorem d_sk_timesMirrored_20 : decode prog_5_method_5_code 20 = .ok (.iload_n 3, 1) := by decide +kernel
theorem d_sk_timesMirrored_21 : decode prog_5_method_5_code 21 = .ok (.if_icmp .gt 29, 3) := by decide +kernel
theorem d_sk_timesMirrored_24 : decode prog_5_method_5_code 24 = .ok (.lload 4, 2) := by decide +kernel
theorem d_sk_timesMirrored_26 : decode prog_5_method_5_code 26 = .ok (.aload_n 1, 1) := by decide +kernel
theorem d_sk_timesMirrored_27 : decode prog_5_method_5_code 27 = .ok (.iload 6, 2) := by decide +kernel
theorem d_sk_timesMirrored_29 : decode prog_5_method_5_code 29 = .ok (.laload, 1) := by decide +kernel
theorem d_sk_timesMirrored_30 : decode prog_5_method_5_code 30 = .ok (.aload_n 0, 1) := by decide +kernel
theorem d_sk_timesMirrored_31 : decode prog_5_method_5_code 31 = .ok (.getfield 24, 3) := by decide +kernel
theorem d_sk_timesMirrored_34 : decode prog_5_method_5_code 34 = .ok (.iload_n 3, 1) := by decide +kernel
theorem d_sk_timesMirrored_35 : decode prog_5_method_5_code 35 = .ok (.iload 6, 2) := by decide +kernel
theorem d_sk_timesMirrored_37 : decode prog_5_method_5_code 37 = .ok (.isub, 1) := by decide +kernel
theorem d_sk_timesMirrored_38 : decode prog_5_method_5_code 38 = .ok (.laload, 1) := by decide +kernel
theorem d_sk_timesMirrored_39 : decode prog_5_method_5_code 39 = .ok (.invokestatic 67, 3) := by decide +kernel
theorem d_sk_timesMirrored_42 : decode prog_5_method_5_code 42 = .ok (.lstore 4, 2) := by decide +kernel
theorem d_sk_timesMirrored_44 : decode prog_5_method_5_code 44 = .ok (.iinc 6 1, 3) := by decide +kernel
theorem d_sk_timesMirrored_47 : decode prog_5_method_5_code 47 = .ok (.goto (-35), 3) := by decide +kernel
theorem d_sk_timesMirrored_50 : decode prog_5_method_5_code 50 = .ok (.lload 4, 2) := by decide +kernel
theorem d_sk_timesMirrored_52 : decode prog_5_method_5_code 52 = .ok (.lreturn, 1) := by decide +kernel
theorem d_se_init_0 : decode prog_6_method_1_code 0 = .ok (.aload_n 0, 1) := by decide +kernel
theorem d_se_init_1 : decode prog_6_method_1_code 1 = .ok (.invokespecial 3, 3) := by decide +kernel
theorem d_se_init_4 : decode prog_6_method_1_code 4 = .ok (.aload_n 0, 1) := by decide +kernel
theorem d_se_init_5 : decode prog_6_method_1_code 5 = .ok (.bipush 48, 2) := by decide +kernel
theorem d_se_init_7 : decode prog_6_method_1_code 7 = .ok (.newarray .long, 2) := by decide +kernel
theorem d_se_init_9 : decode prog_6_method_1_code 9 = .ok (.putfield 9, 3) := by decide +kernel
theorem d_se_init_12 : decode prog_6_method_1_code 12 = .ok (.aload_n 0, 1) := by decide +kernel
theorem d_se_init_13 : decode prog_6_method_1_code 13 = .ok (.bipush 88, 2) := by decide +kernel
theorem d_se_init_15 : decode prog_6_method_1_code 15 = .ok (.newarray .long, 2) := by decide +kernel
theorem d_se_init_17 : decode prog_6_method_1_code 17 = .ok (.putfield 15, 3) := by decide +kernel
theorem d_se_init_20 : decode prog_6_method_1_code 20 = .ok (.return_, 1) := by decide +kernel
theorem d_se_writeTerms_0 : decode prog_6_method_2_code 0 = .ok (.iconst 0, 1) := by decide +kernel
theorem d_se_writeTerms_1 : decode prog_6_method_2_code 1 = .ok (.istore_n 3, 1) := by decide +kernel
theorem d_se_writeTerms_2 : decode prog_6_method_2_code 2 = .ok (.iload_n 3, 1) := by decide +kernel
theorem d_se_writeTerms_3 : decode prog_6_method_2_code 3 = .ok (.iload_n 2, 1) := by decide +kernel
theorem d_se_writeTerms_4 : decode prog_6_method_2_code 4 = .ok (.if_icmp .ge 42, 3) := by decide +kernel
theorem d_se_writeTerms_7 : decode prog_6_method_2_code 7 = .ok (.aload_n 1, 1) := by decide +kernel
theorem d_se_writeTerms_8 : decode prog_6_method_2_code 8 = .ok (.iload_n 3, 1) := by decide +kernel
theorem d_se_writeTerms_9 : decode prog_6_method_2_code 9 = .ok (.iload_n 3, 1) := by decide +kernel
theorem d_se_writeTerms_10 : decode prog_6_method_2_code 10 = .ok (.aload_n 0, 1) := by decide +kernel
theorem d_se_writeTerms_11 : decode prog_6_method_2_code 11 = .ok (.getfield 18, 3) := by decide +kernel
theorem d_se_writeTerms_14 : decode prog_6_method_2_code 14 = .ok (.if_icmp .ge 12, 3) := by decide +kernel
theorem d_se_writeTerms_17 : decode prog_6_method_2_code 17 = .ok (.aload_n 0, 1) := by decide +kernel
theorem d_se_writeTerms_18 : decode prog_6_method_2_code 18 = .ok (.getfield 15, 3) := by decide +kernel
theorem d_se_writeTerms_21 : decode prog_6_method_2_code 21 = .ok (.iload_n 3, 1) := by decide +kernel
theorem d_se_writeTerms_22 : decode prog_6_method_2_code 22 = .ok (.laload, 1) := by decide +kernel
theorem d_se_writeTerms_23 : decode prog_6_method_2_code 23 = .ok (.goto 16, 3) := by decide +kernel
theorem d_se_writeTerms_26 : decode prog_6_method_2_code 26 = .ok (.aload_n 0, 1) := by decide +kernel
theorem d_se_writeTerms_27 : decode prog_6_method_2_code 27 = .ok (.getfield 9, 3) := by decide +kernel
theorem d_se_writeTerms_30 : decode prog_6_method_2_code 30 = .ok (.aload_n 0, 1) := by decide +kernel
theorem d_se_writeTerms_31 : decode prog_6_method_2_code 31 = .ok (.getfield 18, 3) := by decide +kernel
theorem d_se_writeTerms_34 : decode prog_6_method_2_code 34 = .ok (.aload_n 1, 1) := by decide +kernel
theorem d_se_writeTerms_35 : decode prog_6_method_2_code 35 = .ok (.iload_n 3, 1) := by decide +kernel
theorem d_se_writeTerms_36 : decode prog_6_method_2_code 36 = .ok (.invokestatic 22, 3) := by decide +kernel
theorem d_se_writeTerms_39 : decode prog_6_method_2_code 39 = .ok (.lastore, 1) := by decide +kernel
theorem d_se_writeTerms_40 : decode prog_6_method_2_code 40 = .ok (.iinc 3 1, 3) := by decide +kernel
theorem d_se_writeTerms_43 : decode prog_6_method_2_code 43 = .ok (.goto (-41), 3) := by decide +kernel
theorem d_se_writeTerms_46 : decode prog_6_method_2_code 46 = .ok (.return_, 1) := by decide +kernel
theorem d_ma_max_0 : decode prog_9_method_65_code 0 = .ok (.iload_n 0, 1) := by decide +kernel
theorem d_ma_max_1 : decode prog_9_method_65_code 1 = .ok (.iload_n 1, 1) := by decide +kernel
theorem d_ma_max_2 : decode prog_9_method_65_code 2 = .ok (.if_icmp .lt 7, 3) := by decide +kernel
theorem d_ma_max_5 : decode prog_9_method_65_code 5 = .ok (.iload_n 0, 1) := by decide +kernel
theorem d_ma_max_6 : decode prog_9_method_65_code 6 = .ok (.goto 4, 3) := by decide +kernel
theorem d_ma_max_9 : decode prog_9_method_65_code 9 = .ok (.iload_n 1, 1) := by decide +kernel
theorem d_ma_max_10 : decode prog_9_method_65_code 10 = .ok (.ireturn, 1) := by decide +kernel
