/-! Decode rows, by program -/
theorem d_rs_init_0 : decode prog_1_method_1_code 0 = .ok (.aload_n 0, 1) := by decide +kernel
theorem d_rs_init_1 : decode prog_1_method_1_code 1 = .ok (.invokespecial 3, 3) := by decide +kernel
theorem d_rs_init_4 : decode prog_1_method_1_code 4 = .ok (.aload_n 0, 1) := by decide +kernel
theorem d_rs_init_5 : decode prog_1_method_1_code 5 = .ok (.bipush 20, 2) := by decide +kernel
theorem d_rs_init_7 : decode prog_1_method_1_code 7 = .ok (.anewarray 9, 3) := by decide +kernel
theorem d_rs_init_10 : decode prog_1_method_1_code 10 = .ok (.putfield 11, 3) := by decide +kernel
theorem d_rs_init_13 : decode prog_1_method_1_code 13 = .ok (.aload_n 0, 1) := by decide +kernel
theorem d_rs_init_14 : decode prog_1_method_1_code 14 = .ok (.bipush 40, 2) := by decide +kernel
theorem d_rs_init_16 : decode prog_1_method_1_code 16 = .ok (.newarray .long, 2) := by decide +kernel
theorem d_rs_init_18 : decode prog_1_method_1_code 18 = .ok (.putfield 15, 3) := by decide +kernel
theorem d_rs_init_21 : decode prog_1_method_1_code 21 = .ok (.aload_n 0, 1) := by decide +kernel
theorem d_rs_init_22 : decode prog_1_method_1_code 22 = .ok (.bipush 48, 2) := by decide +kernel
theorem d_rs_init_24 : decode prog_1_method_1_code 24 = .ok (.newarray .long, 2) := by decide +kernel
theorem d_rs_init_26 : decode prog_1_method_1_code 26 = .ok (.putfield 19, 3) := by decide +kernel
theorem d_rs_init_29 : decode prog_1_method_1_code 29 = .ok (.aload_n 0, 1) := by decide +kernel
theorem d_rs_init_30 : decode prog_1_method_1_code 30 = .ok (.sipush 2129, 3) := by decide +kernel
theorem d_rs_init_33 : decode prog_1_method_1_code 33 = .ok (.newarray .long, 2) := by decide +kernel
theorem d_rs_init_35 : decode prog_1_method_1_code 35 = .ok (.putfield 22, 3) := by decide +kernel
theorem d_rs_init_38 : decode prog_1_method_1_code 38 = .ok (.aload_n 0, 1) := by decide +kernel
theorem d_rs_init_39 : decode prog_1_method_1_code 39 = .ok (.new 25, 3) := by decide +kernel
theorem d_rs_init_42 : decode prog_1_method_1_code 42 = .ok (.dup, 1) := by decide +kernel
theorem d_rs_init_43 : decode prog_1_method_1_code 43 = .ok (.invokespecial 27, 3) := by decide +kernel
theorem d_rs_init_46 : decode prog_1_method_1_code 46 = .ok (.putfield 28, 3) := by decide +kernel
theorem d_rs_init_49 : decode prog_1_method_1_code 49 = .ok (.aload_n 0, 1) := by decide +kernel
theorem d_rs_init_50 : decode prog_1_method_1_code 50 = .ok (.new 32, 3) := by decide +kernel
theorem d_rs_init_53 : decode prog_1_method_1_code 53 = .ok (.dup, 1) := by decide +kernel
theorem d_rs_init_54 : decode prog_1_method_1_code 54 = .ok (.invokespecial 34, 3) := by decide +kernel
theorem d_rs_init_57 : decode prog_1_method_1_code 57 = .ok (.putfield 35, 3) := by decide +kernel
theorem d_rs_init_60 : decode prog_1_method_1_code 60 = .ok (.aload_n 0, 1) := by decide +kernel
theorem d_rs_init_61 : decode prog_1_method_1_code 61 = .ok (.new 39, 3) := by decide +kernel
theorem d_rs_init_64 : decode prog_1_method_1_code 64 = .ok (.dup, 1) := by decide +kernel
theorem d_rs_init_65 : decode prog_1_method_1_code 65 = .ok (.invokespecial 41, 3) := by decide +kernel
theorem d_rs_init_68 : decode prog_1_method_1_code 68 = .ok (.putfield 42, 3) := by decide +kernel
theorem d_rs_init_71 : decode prog_1_method_1_code 71 = .ok (.iconst 0, 1) := by decide +kernel
theorem d_rs_init_72 : decode prog_1_method_1_code 72 = .ok (.istore_n 1, 1) := by decide +kernel
theorem d_rs_init_73 : decode prog_1_method_1_code 73 = .ok (.iload_n 1, 1) := by decide +kernel
theorem d_rs_init_74 : decode prog_1_method_1_code 74 = .ok (.bipush 20, 2) := by decide +kernel
theorem d_rs_init_76 : decode prog_1_method_1_code 76 = .ok (.if_icmp .ge 22, 3) := by decide +kernel
theorem d_rs_init_79 : decode prog_1_method_1_code 79 = .ok (.aload_n 0, 1) := by decide +kernel
theorem d_rs_init_80 : decode prog_1_method_1_code 80 = .ok (.getfield 11, 3) := by decide +kernel
theorem d_rs_init_83 : decode prog_1_method_1_code 83 = .ok (.iload_n 1, 1) := by decide +kernel
theorem d_rs_init_84 : decode prog_1_method_1_code 84 = .ok (.new 9, 3) := by decide +kernel
theorem d_rs_init_87 : decode prog_1_method_1_code 87 = .ok (.dup, 1) := by decide +kernel
theorem d_rs_init_88 : decode prog_1_method_1_code 88 = .ok (.invokespecial 46, 3) := by decide +kernel
theorem d_rs_init_91 : decode prog_1_method_1_code 91 = .ok (.aastore, 1) := by decide +kernel
theorem d_rs_init_92 : decode prog_1_method_1_code 92 = .ok (.iinc 1 1, 3) := by decide +kernel
theorem d_rs_init_95 : decode prog_1_method_1_code 95 = .ok (.goto (-22), 3) := by decide +kernel
theorem d_rs_init_98 : decode prog_1_method_1_code 98 = .ok (.aload_n 0, 1) := by decide +kernel
theorem d_rs_init_99 : decode prog_1_method_1_code 99 = .ok (.iconst 0, 1) := by decide +kernel
theorem d_rs_init_100 : decode prog_1_method_1_code 100 = .ok (.putfield 47, 3) := by decide +kernel
theorem d_rs_init_103 : decode prog_1_method_1_code 103 = .ok (.aload_n 0, 1) := by decide +kernel
theorem d_rs_init_104 : decode prog_1_method_1_code 104 = .ok (.iconst 0, 1) := by decide +kernel
theorem d_rs_init_105 : decode prog_1_method_1_code 105 = .ok (.putfield 51, 3) := by decide +kernel
theorem d_rs_init_108 : decode prog_1_method_1_code 108 = .ok (.return_, 1) := by decide +kernel
theorem d_rs_give_0 : decode prog_1_method_2_code 0 = .ok (.aload_n 0, 1) := by decide +kernel
theorem d_rs_give_1 : decode prog_1_method_2_code 1 = .ok (.getfield 51, 3) := by decide +kernel
theorem d_rs_give_4 : decode prog_1_method_2_code 4 = .ok (.bipush 40, 2) := by decide +kernel
theorem d_rs_give_6 : decode prog_1_method_2_code 6 = .ok (.if_icmp .lt 5, 3) := by decide +kernel
theorem d_rs_give_9 : decode prog_1_method_2_code 9 = .ok (.iconst 0, 1) := by decide +kernel
theorem d_rs_give_10 : decode prog_1_method_2_code 10 = .ok (.ireturn, 1) := by decide +kernel
theorem d_rs_give_11 : decode prog_1_method_2_code 11 = .ok (.aload_n 0, 1) := by decide +kernel
theorem d_rs_give_12 : decode prog_1_method_2_code 12 = .ok (.getfield 15, 3) := by decide +kernel
theorem d_rs_give_15 : decode prog_1_method_2_code 15 = .ok (.aload_n 0, 1) := by decide +kernel
theorem d_rs_give_16 : decode prog_1_method_2_code 16 = .ok (.getfield 51, 3) := by decide +kernel
theorem d_rs_give_19 : decode prog_1_method_2_code 19 = .ok (.iload_n 1, 1) := by decide +kernel
theorem d_rs_give_20 : decode prog_1_method_2_code 20 = .ok (.invokestatic 54, 3) := by decide +kernel
theorem d_rs_give_23 : decode prog_1_method_2_code 23 = .ok (.lastore, 1) := by decide +kernel
theorem d_rs_give_24 : decode prog_1_method_2_code 24 = .ok (.aload_n 0, 1) := by decide +kernel
theorem d_rs_give_25 : decode prog_1_method_2_code 25 = .ok (.dup, 1) := by decide +kernel
theorem d_rs_give_26 : decode prog_1_method_2_code 26 = .ok (.getfield 51, 3) := by decide +kernel
theorem d_rs_give_29 : decode prog_1_method_2_code 29 = .ok (.iconst 1, 1) := by decide +kernel
theorem d_rs_give_30 : decode prog_1_method_2_code 30 = .ok (.iadd, 1) := by decide +kernel
theorem d_rs_give_31 : decode prog_1_method_2_code 31 = .ok (.putfield 51, 3) := by decide +kernel
theorem d_rs_give_34 : decode prog_1_method_2_code 34 = .ok (.iconst 1, 1) := by decide +kernel
theorem d_rs_give_35 : decode prog_1_method_2_code 35 = .ok (.ireturn, 1) := by decide +kernel
theorem d_rs_clear_0 : decode prog_1_method_3_code 0 = .ok (.aload_n 0, 1) := by decide +kernel
theorem d_rs_clear_1 : decode prog_1_method_3_code 1 = .ok (.getfield 51, 3) := by decide +kernel
theorem d_rs_clear_4 : decode prog_1_method_3_code 4 = .ok (.istore_n 1, 1) := by decide +kernel
theorem d_rs_clear_5 : decode prog_1_method_3_code 5 = .ok (.aload_n 0, 1) := by decide +kernel
theorem d_rs_clear_6 : decode prog_1_method_3_code 6 = .ok (.iconst 0, 1) := by decide +kernel
theorem d_rs_clear_7 : decode prog_1_method_3_code 7 = .ok (.putfield 51, 3) := by decide +kernel
theorem d_rs_clear_10 : decode prog_1_method_3_code 10 = .ok (.iload_n 1, 1) := by decide +kernel
theorem d_rs_clear_11 : decode prog_1_method_3_code 11 = .ok (.ireturn, 1) := by decide +kernel
theorem d_rs_leaf_0 : decode prog_1_method_4_code 0 = .ok (.iload_n 1, 1) := by decide +kernel
theorem d_rs_leaf_1 : decode prog_1_method_4_code 1 = .ok (.ifCond .lt 19, 3) := by decide +kernel
theorem d_rs_leaf_4 : decode prog_1_method_4_code 4 = .ok (.iload_n 1, 1) := by decide +kernel
theorem d_rs_leaf_5 : decode prog_1_method_4_code 5 = .ok (.bipush 12, 2) := by decide +kernel
theorem d_rs_leaf_7 : decode prog_1_method_4_code 7 = .ok (.if_icmp .gt 13, 3) := by decide +kernel
theorem d_rs_leaf_10 : decode prog_1_method_4_code 10 = .ok (.aload_n 0, 1) := by decide +kernel
theorem d_rs_leaf_11 : decode prog_1_method_4_code 11 = .ok (.getfield 51, 3) := by decide +kernel
theorem d_rs_leaf_14 : decode prog_1_method_4_code 14 = .ok (.iconst 2, 1) := by decide +kernel
theorem d_rs_leaf_15 : decode prog_1_method_4_code 15 = .ok (.iload_n 1, 1) := by decide +kernel
theorem d_rs_leaf_16 : decode prog_1_method_4_code 16 = .ok (.imul, 1) := by decide +kernel
theorem d_rs_leaf_17 : decode prog_1_method_4_code 17 = .ok (.if_icmp .ge 5, 3) := by decide +kernel
theorem d_rs_leaf_20 : decode prog_1_method_4_code 20 = .ok (.iconst (-1), 1) := by decide +kernel
theorem d_rs_leaf_21 : decode prog_1_method_4_code 21 = .ok (.ireturn, 1) := by decide +kernel
theorem d_rs_leaf_22 : decode prog_1_method_4_code 22 = .ok (.aload_n 0, 1) := by decide +kernel
theorem d_rs_leaf_23 : decode prog_1_method_4_code 23 = .ok (.iload_n 1, 1) := by decide +kernel
theorem d_rs_leaf_24 : decode prog_1_method_4_code 24 = .ok (.invokevirtual 60, 3) := by decide +kernel
theorem d_rs_leaf_27 : decode prog_1_method_4_code 27 = .ok (.istore_n 2, 1) := by decide +kernel
theorem d_rs_leaf_28 : decode prog_1_method_4_code 28 = .ok (.iload_n 2, 1) := by decide +kernel
theorem d_rs_leaf_29 : decode prog_1_method_4_code 29 = .ok (.ifCond .ge 5, 3) := by decide +kernel
theorem d_rs_leaf_32 : decode prog_1_method_4_code 32 = .ok (.iload_n 2, 1) := by decide +kernel
theorem d_rs_leaf_33 : decode prog_1_method_4_code 33 = .ok (.ireturn, 1) := by decide +kernel
theorem d_rs_leaf_34 : decode prog_1_method_4_code 34 = .ok (.aload_n 0, 1) := by decide +kernel
theorem d_rs_leaf_35 : decode prog_1_method_4_code 35 = .ok (.iload_n 1, 1) := by decide +kernel
theorem d_rs_leaf_36 : decode prog_1_method_4_code 36 = .ok (.invokevirtual 64, 3) := by decide +kernel
theorem d_rs_leaf_39 : decode prog_1_method_4_code 39 = .ok (.ifCond .ne 6, 3) := by decide +kernel
theorem d_rs_leaf_42 : decode prog_1_method_4_code 42 = .ok (.bipush (-4), 2) := by decide +kernel
theorem d_rs_leaf_44 : decode prog_1_method_4_code 44 = .ok (.ireturn, 1) := by decide +kernel
theorem d_rs_leaf_45 : decode prog_1_method_4_code 45 = .ok (.iconst 0, 1) := by decide +kernel
theorem d_rs_leaf_46 : decode prog_1_method_4_code 46 = .ok (.istore_n 3, 1) := by decide +kernel
theorem d_rs_leaf_47 : decode prog_1_method_4_code 47 = .ok (.iload_n 3, 1) := by decide +kernel
theorem d_rs_leaf_48 : decode prog_1_method_4_code 48 = .ok (.iload_n 1, 1) := by decide +kernel
theorem d_rs_leaf_49 : decode prog_1_method_4_code 49 = .ok (.if_icmp .ge 23, 3) := by decide +kernel
theorem d_rs_leaf_52 : decode prog_1_method_4_code 52 = .ok (.aload_n 0, 1) := by decide +kernel
theorem d_rs_leaf_53 : decode prog_1_method_4_code 53 = .ok (.getfield 19, 3) := by decide +kernel
theorem d_rs_leaf_56 : decode prog_1_method_4_code 56 = .ok (.iload_n 3, 1) := by decide +kernel
theorem d_rs_leaf_57 : decode prog_1_method_4_code 57 = .ok (.aload_n 0, 1) := by decide +kernel
theorem d_rs_leaf_58 : decode prog_1_method_4_code 58 = .ok (.getfield 15, 3) := by decide +kernel
theorem d_rs_leaf_61 : decode prog_1_method_4_code 61 = .ok (.iload_n 1, 1) := by decide +kernel
theorem d_rs_leaf_62 : decode prog_1_method_4_code 62 = .ok (.iload_n 3, 1) := by decide +kernel
theorem d_rs_leaf_63 : decode prog_1_method_4_code 63 = .ok (.iadd, 1) := by decide +kernel
theorem d_rs_leaf_64 : decode prog_1_method_4_code 64 = .ok (.laload, 1) := by decide +kernel
theorem d_rs_leaf_65 : decode prog_1_method_4_code 65 = .ok (.lastore, 1) := by decide +kernel
theorem d_rs_leaf_66 : decode prog_1_method_4_code 66 = .ok (.iinc 3 1, 3) := by decide +kernel
theorem d_rs_leaf_69 : decode prog_1_method_4_code 69 = .ok (.goto (-22), 3) := by decide +kernel
theorem d_rs_leaf_72 : decode prog_1_method_4_code 72 = .ok (.iload_n 1, 1) := by decide +kernel
theorem d_rs_leaf_73 : decode prog_1_method_4_code 73 = .ok (.istore_n 3, 1) := by decide +kernel
theorem d_rs_leaf_74 : decode prog_1_method_4_code 74 = .ok (.iload_n 3, 1) := by decide +kernel
theorem d_rs_leaf_75 : decode prog_1_method_4_code 75 = .ok (.iconst 2, 1) := by decide +kernel
theorem d_rs_leaf_76 : decode prog_1_method_4_code 76 = .ok (.iload_n 1, 1) := by decide +kernel
theorem d_rs_leaf_77 : decode prog_1_method_4_code 77 = .ok (.imul, 1) := by decide +kernel
theorem d_rs_leaf_78 : decode prog_1_method_4_code 78 = .ok (.if_icmp .ge 28, 3) := by decide +kernel
theorem d_rs_leaf_81 : decode prog_1_method_4_code 81 = .ok (.aload_n 0, 1) := by decide +kernel
theorem d_rs_leaf_82 : decode prog_1_method_4_code 82 = .ok (.getfield 19, 3) := by decide +kernel
theorem d_rs_leaf_85 : decode prog_1_method_4_code 85 = .ok (.iload_n 3, 1) := by decide +kernel
theorem d_rs_leaf_86 : decode prog_1_method_4_code 86 = .ok (.aload_n 0, 1) := by decide +kernel
theorem d_rs_leaf_87 : decode prog_1_method_4_code 87 = .ok (.getfield 15, 3) := by decide +kernel
theorem d_rs_leaf_90 : decode prog_1_method_4_code 90 = .ok (.iload_n 1, 1) := by decide +kernel
theorem d_rs_leaf_91 : decode prog_1_method_4_code 91 = .ok (.aload_n 0, 1) := by decide +kernel
theorem d_rs_leaf_92 : decode prog_1_method_4_code 92 = .ok (.getfield 19, 3) := by decide +kernel
theorem d_rs_leaf_95 : decode prog_1_method_4_code 95 = .ok (.iload_n 3, 1) := by decide +kernel
theorem d_rs_leaf_96 : decode prog_1_method_4_code 96 = .ok (.invokestatic 68, 3) := by decide +kernel
theorem d_rs_leaf_99 : decode prog_1_method_4_code 99 = .ok (.lastore, 1) := by decide +kernel
theorem d_rs_leaf_100 : decode prog_1_method_4_code 100 = .ok (.iinc 3 1, 3) := by decide +kernel
theorem d_rs_leaf_103 : decode prog_1_method_4_code 103 = .ok (.goto (-29), 3) := by decide +kernel
theorem d_rs_leaf_106 : decode prog_1_method_4_code 106 = .ok (.aload_n 0, 1) := by decide +kernel
theorem d_rs_leaf_107 : decode prog_1_method_4_code 107 = .ok (.iconst 0, 1) := by decide +kernel
theorem d_rs_leaf_108 : decode prog_1_method_4_code 108 = .ok (.putfield 51, 3) := by decide +kernel
theorem d_rs_leaf_111 : decode prog_1_method_4_code 111 = .ok (.aload_n 0, 1) := by decide +kernel
theorem d_rs_leaf_112 : decode prog_1_method_4_code 112 = .ok (.iload_n 1, 1) := by decide +kernel
theorem d_rs_leaf_113 : decode prog_1_method_4_code 113 = .ok (.invokevirtual 72, 3) := by decide +kernel
theorem d_rs_leaf_116 : decode prog_1_method_4_code 116 = .ok (.ireturn, 1) := by decide +kernel
theorem d_rs_combine_0 : decode prog_1_method_5_code 0 = .ok (.aload_n 0, 1) := by decide +kernel
theorem d_rs_combine_1 : decode prog_1_method_5_code 1 = .ok (.iload_n 1, 1) := by decide +kernel
theorem d_rs_combine_2 : decode prog_1_method_5_code 2 = .ok (.invokevirtual 75, 3) := by decide +kernel
theorem d_rs_combine_5 : decode prog_1_method_5_code 5 = .ok (.ifCond .eq 11, 3) := by decide +kernel
theorem d_rs_combine_8 : decode prog_1_method_5_code 8 = .ok (.aload_n 0, 1) := by decide +kernel
theorem d_rs_combine_9 : decode prog_1_method_5_code 9 = .ok (.iload_n 2, 1) := by decide +kernel
theorem d_rs_combine_10 : decode prog_1_method_5_code 10 = .ok (.invokevirtual 75, 3) := by decide +kernel
theorem d_rs_combine_13 : decode prog_1_method_5_code 13 = .ok (.ifCond .ne 5, 3) := by decide +kernel
theorem d_rs_combine_16 : decode prog_1_method_5_code 16 = .ok (.iconst (-1), 1) := by decide +kernel
theorem d_rs_combine_17 : decode prog_1_method_5_code 17 = .ok (.ireturn, 1) := by decide +kernel
theorem d_rs_combine_18 : decode prog_1_method_5_code 18 = .ok (.aload_n 0, 1) := by decide +kernel
theorem d_rs_combine_19 : decode prog_1_method_5_code 19 = .ok (.getfield 11, 3) := by decide +kernel
theorem d_rs_combine_22 : decode prog_1_method_5_code 22 = .ok (.iload_n 1, 1) := by decide +kernel
theorem d_rs_combine_23 : decode prog_1_method_5_code 23 = .ok (.aaload, 1) := by decide +kernel
theorem d_rs_combine_24 : decode prog_1_method_5_code 24 = .ok (.astore 5, 2) := by decide +kernel
theorem d_rs_combine_26 : decode prog_1_method_5_code 26 = .ok (.aload_n 0, 1) := by decide +kernel
theorem d_rs_combine_27 : decode prog_1_method_5_code 27 = .ok (.getfield 11, 3) := by decide +kernel
theorem d_rs_combine_30 : decode prog_1_method_5_code 30 = .ok (.iload_n 2, 1) := by decide +kernel
theorem d_rs_combine_31 : decode prog_1_method_5_code 31 = .ok (.aaload, 1) := by decide +kernel
theorem d_rs_combine_32 : decode prog_1_method_5_code 32 = .ok (.astore 6, 2) := by decide +kernel
theorem d_rs_combine_34 : decode prog_1_method_5_code 34 = .ok (.aload 5, 2) := by decide +kernel
theorem d_rs_combine_36 : decode prog_1_method_5_code 36 = .ok (.getfield 78, 3) := by decide +kernel
theorem d_rs_combine_39 : decode prog_1_method_5_code 39 = .ok (.aload 6, 2) := by decide +kernel
theorem d_rs_combine_41 : decode prog_1_method_5_code 41 = .ok (.getfield 78, 3) := by decide +kernel
theorem d_rs_combine_44 : decode prog_1_method_5_code 44 = .ok (.iadd, 1) := by decide +kernel
theorem d_rs_combine_45 : decode prog_1_method_5_code 45 = .ok (.istore 7, 2) := by decide +kernel
theorem d_rs_combine_47 : decode prog_1_method_5_code 47 = .ok (.aload_n 0, 1) := by decide +kernel
theorem d_rs_combine_48 : decode prog_1_method_5_code 48 = .ok (.iload 7, 2) := by decide +kernel
theorem d_rs_combine_50 : decode prog_1_method_5_code 50 = .ok (.invokevirtual 60, 3) := by decide +kernel
theorem d_rs_combine_53 : decode prog_1_method_5_code 53 = .ok (.istore 8, 2) := by decide +kernel
theorem d_rs_combine_55 : decode prog_1_method_5_code 55 = .ok (.iload 8, 2) := by decide +kernel
theorem d_rs_combine_57 : decode prog_1_method_5_code 57 = .ok (.ifCond .ge 6, 3) := by decide +kernel
theorem d_rs_combine_60 : decode prog_1_method_5_code 60 = .ok (.iload 8, 2) := by decide +kernel
theorem d_rs_combine_62 : decode prog_1_method_5_code 62 = .ok (.ireturn, 1) := by decide +kernel
theorem d_rs_combine_63 : decode prog_1_method_5_code 63 = .ok (.iload_n 3, 1) := by decide +kernel
theorem d_rs_combine_64 : decode prog_1_method_5_code 64 = .ok (.invokestatic 54, 3) := by decide +kernel
theorem d_rs_combine_67 : decode prog_1_method_5_code 67 = .ok (.lstore 9, 2) := by decide +kernel
theorem d_rs_combine_69 : decode prog_1_method_5_code 69 = .ok (.iload 4, 2) := by decide +kernel
theorem d_rs_combine_71 : decode prog_1_method_5_code 71 = .ok (.invokestatic 54, 3) := by decide +kernel
theorem d_rs_combine_74 : decode prog_1_method_5_code 74 = .ok (.lstore 11, 2) := by decide +kernel
theorem d_rs_combine_76 : decode prog_1_method_5_code 76 = .ok (.iconst 0, 1) := by decide +kernel
theorem d_rs_combine_77 : decode prog_1_method_5_code 77 = .ok (.istore 13, 2) := by decide +kernel
theorem d_rs_combine_79 : decode prog_1_method_5_code 79 = .ok (.iload 13, 2) := by decide +kernel
theorem d_rs_combine_81 : decode prog_1_method_5_code 81 = .ok (.iconst 2, 1) := by decide +kernel
theorem d_rs_combine_82 : decode prog_1_method_5_code 82 = .ok (.iload 7, 2) := by decide +kernel
theorem d_rs_combine_84 : decode prog_1_method_5_code 84 = .ok (.imul, 1) := by decide +kernel
theorem d_rs_combine_85 : decode prog_1_method_5_code 85 = .ok (.if_icmp .ge 42, 3) := by decide +kernel
theorem d_rs_combine_88 : decode prog_1_method_5_code 88 = .ok (.aload_n 0, 1) := by decide +kernel
theorem d_rs_combine_89 : decode prog_1_method_5_code 89 = .ok (.getfield 19, 3) := by decide +kernel
theorem d_rs_combine_92 : decode prog_1_method_5_code 92 = .ok (.iload 13, 2) := by decide +kernel
theorem d_rs_combine_94 : decode prog_1_method_5_code 94 = .ok (.lload 9, 2) := by decide +kernel
theorem d_rs_combine_96 : decode prog_1_method_5_code 96 = .ok (.aload 5, 2) := by decide +kernel
theorem d_rs_combine_98 : decode prog_1_method_5_code 98 = .ok (.getfield 81, 3) := by decide +kernel
theorem d_rs_combine_101 : decode prog_1_method_5_code 101 = .ok (.iload 13, 2) := by decide +kernel
theorem d_rs_combine_103 : decode prog_1_method_5_code 103 = .ok (.laload, 1) := by decide +kernel
theorem d_rs_combine_104 : decode prog_1_method_5_code 104 = .ok (.invokestatic 84, 3) := by decide +kernel
theorem d_rs_combine_107 : decode prog_1_method_5_code 107 = .ok (.lload 11, 2) := by decide +kernel
theorem d_rs_combine_109 : decode prog_1_method_5_code 109 = .ok (.aload 6, 2) := by decide +kernel
theorem d_rs_combine_111 : decode prog_1_method_5_code 111 = .ok (.getfield 81, 3) := by decide +kernel
theorem d_rs_combine_114 : decode prog_1_method_5_code 114 = .ok (.iload 13, 2) := by decide +kernel
theorem d_rs_combine_116 : decode prog_1_method_5_code 116 = .ok (.laload, 1) := by decide +kernel
theorem d_rs_combine_117 : decode prog_1_method_5_code 117 = .ok (.invokestatic 88, 3) := by decide +kernel
theorem d_rs_combine_120 : decode prog_1_method_5_code 120 = .ok (.lastore, 1) := by decide +kernel
theorem d_rs_combine_121 : decode prog_1_method_5_code 121 = .ok (.iinc 13 1, 3) := by decide +kernel
theorem d_rs_combine_124 : decode prog_1_method_5_code 124 = .ok (.goto (-45), 3) := by decide +kernel
theorem d_rs_combine_127 : decode prog_1_method_5_code 127 = .ok (.aload_n 0, 1) := by decide +kernel
theorem d_rs_combine_128 : decode prog_1_method_5_code 128 = .ok (.iload 7, 2) := by decide +kernel
theorem d_rs_combine_130 : decode prog_1_method_5_code 130 = .ok (.invokevirtual 72, 3) := by decide +kernel
theorem d_rs_combine_133 : decode prog_1_method_5_code 133 = .ok (.ireturn, 1) := by decide +kernel
theorem d_rs_product_0 : decode prog_1_method_6_code 0 = .ok (.aload_n 0, 1) := by decide +kernel
theorem d_rs_product_1 : decode prog_1_method_6_code 1 = .ok (.iload_n 1, 1) := by decide +kernel
theorem d_rs_product_2 : decode prog_1_method_6_code 2 = .ok (.invokevirtual 75, 3) := by decide +kernel
theorem d_rs_product_5 : decode prog_1_method_6_code 5 = .ok (.ifCond .eq 11, 3) := by decide +kernel
theorem d_rs_product_8 : decode prog_1_method_6_code 8 = .ok (.aload_n 0, 1) := by decide +kernel
theorem d_rs_product_9 : decode prog_1_method_6_code 9 = .ok (.iload_n 2, 1) := by decide +kernel
theorem d_rs_product_10 : decode prog_1_method_6_code 10 = .ok (.invokevirtual 75, 3) := by decide +kernel
theorem d_rs_product_13 : decode prog_1_method_6_code 13 = .ok (.ifCond .ne 5, 3) := by decide +kernel
theorem d_rs_product_16 : decode prog_1_method_6_code 16 = .ok (.iconst (-1), 1) := by decide +kernel
theorem d_rs_product_17 : decode prog_1_method_6_code 17 = .ok (.ireturn, 1) := by decide +kernel
theorem d_rs_product_18 : decode prog_1_method_6_code 18 = .ok (.aload_n 0, 1) := by decide +kernel
theorem d_rs_product_19 : decode prog_1_method_6_code 19 = .ok (.getfield 11, 3) := by decide +kernel
theorem d_rs_product_22 : decode prog_1_method_6_code 22 = .ok (.iload_n 1, 1) := by decide +kernel
theorem d_rs_product_23 : decode prog_1_method_6_code 23 = .ok (.aaload, 1) := by decide +kernel
theorem d_rs_product_24 : decode prog_1_method_6_code 24 = .ok (.astore_n 3, 1) := by decide +kernel
theorem d_rs_product_25 : decode prog_1_method_6_code 25 = .ok (.aload_n 0, 1) := by decide +kernel
theorem d_rs_product_26 : decode prog_1_method_6_code 26 = .ok (.getfield 11, 3) := by decide +kernel
theorem d_rs_product_29 : decode prog_1_method_6_code 29 = .ok (.iload_n 2, 1) := by decide +kernel
theorem d_rs_product_30 : decode prog_1_method_6_code 30 = .ok (.aaload, 1) := by decide +kernel
theorem d_rs_product_31 : decode prog_1_method_6_code 31 = .ok (.astore 4, 2) := by decide +kernel
theorem d_rs_product_33 : decode prog_1_method_6_code 33 = .ok (.aload_n 3, 1) := by decide +kernel
theorem d_rs_product_34 : decode prog_1_method_6_code 34 = .ok (.getfield 78, 3) := by decide +kernel
theorem d_rs_product_37 : decode prog_1_method_6_code 37 = .ok (.aload 4, 2) := by decide +kernel
theorem d_rs_product_39 : decode prog_1_method_6_code 39 = .ok (.getfield 78, 3) := by decide +kernel
theorem d_rs_product_42 : decode prog_1_method_6_code 42 = .ok (.iadd, 1) := by decide +kernel
theorem d_rs_product_43 : decode prog_1_method_6_code 43 = .ok (.istore 5, 2) := by decide +kernel
theorem d_rs_product_45 : decode prog_1_method_6_code 45 = .ok (.aload_n 0, 1) := by decide +kernel
theorem d_rs_product_46 : decode prog_1_method_6_code 46 = .ok (.iload 5, 2) := by decide +kernel
theorem d_rs_product_48 : decode prog_1_method_6_code 48 = .ok (.invokevirtual 60, 3) := by decide +kernel
theorem d_rs_product_51 : decode prog_1_method_6_code 51 = .ok (.istore 6, 2) := by decide +kernel
theorem d_rs_product_53 : decode prog_1_method_6_code 53 = .ok (.iload 6, 2) := by decide +kernel
theorem d_rs_product_55 : decode prog_1_method_6_code 55 = .ok (.ifCond .ge 6, 3) := by decide +kernel
theorem d_rs_product_58 : decode prog_1_method_6_code 58 = .ok (.iload 6, 2) := by decide +kernel
theorem d_rs_product_60 : decode prog_1_method_6_code 60 = .ok (.ireturn, 1) := by decide +kernel
theorem d_rs_product_61 : decode prog_1_method_6_code 61 = .ok (.iconst 0, 1) := by decide +kernel
theorem d_rs_product_62 : decode prog_1_method_6_code 62 = .ok (.istore 7, 2) := by decide +kernel
theorem d_rs_product_64 : decode prog_1_method_6_code 64 = .ok (.iload 7, 2) := by decide +kernel
theorem d_rs_product_66 : decode prog_1_method_6_code 66 = .ok (.iconst 2, 1) := by decide +kernel
theorem d_rs_product_67 : decode prog_1_method_6_code 67 = .ok (.iload 5, 2) := by decide +kernel
theorem d_rs_product_69 : decode prog_1_method_6_code 69 = .ok (.imul, 1) := by decide +kernel
theorem d_rs_product_70 : decode prog_1_method_6_code 70 = .ok (.if_icmp .ge 62, 3) := by decide +kernel
theorem d_rs_product_73 : decode prog_1_method_6_code 73 = .ok (.lconst 0, 1) := by decide +kernel
theorem d_rs_product_74 : decode prog_1_method_6_code 74 = .ok (.lstore 8, 2) := by decide +kernel
theorem d_rs_product_76 : decode prog_1_method_6_code 76 = .ok (.iconst 0, 1) := by decide +kernel
theorem d_rs_product_77 : decode prog_1_method_6_code 77 = .ok (.istore 10, 2) := by decide +kernel
theorem d_rs_product_79 : decode prog_1_method_6_code 79 = .ok (.iload 10, 2) := by decide +kernel
theorem d_rs_product_81 : decode prog_1_method_6_code 81 = .ok (.iload 7, 2) := by decide +kernel
theorem d_rs_product_83 : decode prog_1_method_6_code 83 = .ok (.if_icmp .gt 34, 3) := by decide +kernel
theorem d_rs_product_86 : decode prog_1_method_6_code 86 = .ok (.lload 8, 2) := by decide +kernel
theorem d_rs_product_88 : decode prog_1_method_6_code 88 = .ok (.aload_n 3, 1) := by decide +kernel
theorem d_rs_product_89 : decode prog_1_method_6_code 89 = .ok (.getfield 81, 3) := by decide +kernel
theorem d_rs_product_92 : decode prog_1_method_6_code 92 = .ok (.iload 10, 2) := by decide +kernel
theorem d_rs_product_94 : decode prog_1_method_6_code 94 = .ok (.laload, 1) := by decide +kernel
theorem d_rs_product_95 : decode prog_1_method_6_code 95 = .ok (.aload 4, 2) := by decide +kernel
theorem d_rs_product_97 : decode prog_1_method_6_code 97 = .ok (.getfield 81, 3) := by decide +kernel
theorem d_rs_product_100 : decode prog_1_method_6_code 100 = .ok (.iload 7, 2) := by decide +kernel
theorem d_rs_product_102 : decode prog_1_method_6_code 102 = .ok (.iload 10, 2) := by decide +kernel
theorem d_rs_product_104 : decode prog_1_method_6_code 104 = .ok (.isub, 1) := by decide +kernel
theorem d_rs_product_105 : decode prog_1_method_6_code 105 = .ok (.laload, 1) := by decide +kernel
theorem d_rs_product_106 : decode prog_1_method_6_code 106 = .ok (.invokestatic 88, 3) := by decide +kernel
theorem d_rs_product_109 : decode prog_1_method_6_code 109 = .ok (.lstore 8, 2) := by decide +kernel
theorem d_rs_product_111 : decode prog_1_method_6_code 111 = .ok (.iinc 10 1, 3) := by decide +kernel
theorem d_rs_product_114 : decode prog_1_method_6_code 114 = .ok (.goto (-35), 3) := by decide +kernel
theorem d_rs_product_117 : decode prog_1_method_6_code 117 = .ok (.aload_n 0, 1) := by decide +kernel
theorem d_rs_product_118 : decode prog_1_method_6_code 118 = .ok (.getfield 19, 3) := by decide +kernel
theorem d_rs_product_121 : decode prog_1_method_6_code 121 = .ok (.iload 7, 2) := by decide +kernel
theorem d_rs_product_123 : decode prog_1_method_6_code 123 = .ok (.lload 8, 2) := by decide +kernel
theorem d_rs_product_125 : decode prog_1_method_6_code 125 = .ok (.lastore, 1) := by decide +kernel
theorem d_rs_product_126 : decode prog_1_method_6_code 126 = .ok (.iinc 7 1, 3) := by decide +kernel
theorem d_rs_product_129 : decode prog_1_method_6_code 129 = .ok (.goto (-65), 3) := by decide +kernel
theorem d_rs_product_132 : decode prog_1_method_6_code 132 = .ok (.aload_n 0, 1) := by decide +kernel
theorem d_rs_product_133 : decode prog_1_method_6_code 133 = .ok (.iload 5, 2) := by decide +kernel
theorem d_rs_product_135 : decode prog_1_method_6_code 135 = .ok (.invokevirtual 72, 3) := by decide +kernel
theorem d_rs_product_138 : decode prog_1_method_6_code 138 = .ok (.ireturn, 1) := by decide +kernel
theorem d_rs_pairwise_0 : decode prog_1_method_7_code 0 = .ok (.aload_n 0, 1) := by decide +kernel
theorem d_rs_pairwise_1 : decode prog_1_method_7_code 1 = .ok (.iload_n 1, 1) := by decide +kernel
theorem d_rs_pairwise_2 : decode prog_1_method_7_code 2 = .ok (.invokevirtual 75, 3) := by decide +kernel
theorem d_rs_pairwise_5 : decode prog_1_method_7_code 5 = .ok (.ifCond .eq 11, 3) := by decide +kernel
theorem d_rs_pairwise_8 : decode prog_1_method_7_code 8 = .ok (.aload_n 0, 1) := by decide +kernel
theorem d_rs_pairwise_9 : decode prog_1_method_7_code 9 = .ok (.iload_n 2, 1) := by decide +kernel
theorem d_rs_pairwise_10 : decode prog_1_method_7_code 10 = .ok (.invokevirtual 75, 3) := by decide +kernel
theorem d_rs_pairwise_13 : decode prog_1_method_7_code 13 = .ok (.ifCond .ne 5, 3) := by decide +kernel
theorem d_rs_pairwise_16 : decode prog_1_method_7_code 16 = .ok (.iconst (-1), 1) := by decide +kernel
theorem d_rs_pairwise_17 : decode prog_1_method_7_code 17 = .ok (.ireturn, 1) := by decide +kernel
theorem d_rs_pairwise_18 : decode prog_1_method_7_code 18 = .ok (.aload_n 0, 1) := by decide +kernel
theorem d_rs_pairwise_19 : decode prog_1_method_7_code 19 = .ok (.getfield 11, 3) := by decide +kernel
theorem d_rs_pairwise_22 : decode prog_1_method_7_code 22 = .ok (.iload_n 1, 1) := by decide +kernel
theorem d_rs_pairwise_23 : decode prog_1_method_7_code 23 = .ok (.aaload, 1) := by decide +kernel
theorem d_rs_pairwise_24 : decode prog_1_method_7_code 24 = .ok (.astore_n 3, 1) := by decide +kernel
theorem d_rs_pairwise_25 : decode prog_1_method_7_code 25 = .ok (.aload_n 0, 1) := by decide +kernel
theorem d_rs_pairwise_26 : decode prog_1_method_7_code 26 = .ok (.getfield 11, 3) := by decide +kernel
theorem d_rs_pairwise_29 : decode prog_1_method_7_code 29 = .ok (.iload_n 2, 1) := by decide +kernel
theorem d_rs_pairwise_30 : decode prog_1_method_7_code 30 = .ok (.aaload, 1) := by decide +kernel
theorem d_rs_pairwise_31 : decode prog_1_method_7_code 31 = .ok (.astore 4, 2) := by decide +kernel
theorem d_rs_pairwise_33 : decode prog_1_method_7_code 33 = .ok (.aload_n 3, 1) := by decide +kernel
theorem d_rs_pairwise_34 : decode prog_1_method_7_code 34 = .ok (.getfield 78, 3) := by decide +kernel
theorem d_rs_pairwise_37 : decode prog_1_method_7_code 37 = .ok (.aload 4, 2) := by decide +kernel
theorem d_rs_pairwise_39 : decode prog_1_method_7_code 39 = .ok (.getfield 78, 3) := by decide +kernel
theorem d_rs_pairwise_42 : decode prog_1_method_7_code 42 = .ok (.imul, 1) := by decide +kernel
theorem d_rs_pairwise_43 : decode prog_1_method_7_code 43 = .ok (.istore 5, 2) := by decide +kernel
theorem d_rs_pairwise_45 : decode prog_1_method_7_code 45 = .ok (.aload_n 0, 1) := by decide +kernel
theorem d_rs_pairwise_46 : decode prog_1_method_7_code 46 = .ok (.iload 5, 2) := by decide +kernel
theorem d_rs_pairwise_48 : decode prog_1_method_7_code 48 = .ok (.invokevirtual 60, 3) := by decide +kernel
theorem d_rs_pairwise_51 : decode prog_1_method_7_code 51 = .ok (.istore 6, 2) := by decide +kernel
theorem d_rs_pairwise_53 : decode prog_1_method_7_code 53 = .ok (.iload 6, 2) := by decide +kernel
theorem d_rs_pairwise_55 : decode prog_1_method_7_code 55 = .ok (.ifCond .ge 6, 3) := by decide +kernel
theorem d_rs_pairwise_58 : decode prog_1_method_7_code 58 = .ok (.iload 6, 2) := by decide +kernel
theorem d_rs_pairwise_60 : decode prog_1_method_7_code 60 = .ok (.ireturn, 1) := by decide +kernel
theorem d_rs_pairwise_61 : decode prog_1_method_7_code 61 = .ok (.iconst 0, 1) := by decide +kernel
theorem d_rs_pairwise_62 : decode prog_1_method_7_code 62 = .ok (.istore 7, 2) := by decide +kernel
theorem d_rs_pairwise_64 : decode prog_1_method_7_code 64 = .ok (.iload 7, 2) := by decide +kernel
theorem d_rs_pairwise_66 : decode prog_1_method_7_code 66 = .ok (.iconst 2, 1) := by decide +kernel
theorem d_rs_pairwise_67 : decode prog_1_method_7_code 67 = .ok (.iload 5, 2) := by decide +kernel
theorem d_rs_pairwise_69 : decode prog_1_method_7_code 69 = .ok (.imul, 1) := by decide +kernel
theorem d_rs_pairwise_70 : decode prog_1_method_7_code 70 = .ok (.if_icmp .ge 34, 3) := by decide +kernel
theorem d_rs_pairwise_73 : decode prog_1_method_7_code 73 = .ok (.aload_n 0, 1) := by decide +kernel
theorem d_rs_pairwise_74 : decode prog_1_method_7_code 74 = .ok (.getfield 19, 3) := by decide +kernel
theorem d_rs_pairwise_77 : decode prog_1_method_7_code 77 = .ok (.iload 7, 2) := by decide +kernel
theorem d_rs_pairwise_79 : decode prog_1_method_7_code 79 = .ok (.aload_n 3, 1) := by decide +kernel
theorem d_rs_pairwise_80 : decode prog_1_method_7_code 80 = .ok (.getfield 81, 3) := by decide +kernel
theorem d_rs_pairwise_83 : decode prog_1_method_7_code 83 = .ok (.iload 7, 2) := by decide +kernel
theorem d_rs_pairwise_85 : decode prog_1_method_7_code 85 = .ok (.laload, 1) := by decide +kernel
theorem d_rs_pairwise_86 : decode prog_1_method_7_code 86 = .ok (.aload 4, 2) := by decide +kernel
theorem d_rs_pairwise_88 : decode prog_1_method_7_code 88 = .ok (.getfield 81, 3) := by decide +kernel
theorem d_rs_pairwise_91 : decode prog_1_method_7_code 91 = .ok (.iload 7, 2) := by decide +kernel
theorem d_rs_pairwise_93 : decode prog_1_method_7_code 93 = .ok (.laload, 1) := by decide +kernel
theorem d_rs_pairwise_94 : decode prog_1_method_7_code 94 = .ok (.invokestatic 84, 3) := by decide +kernel
theorem d_rs_pairwise_97 : decode prog_1_method_7_code 97 = .ok (.lastore, 1) := by decide +kernel
theorem d_rs_pairwise_98 : decode prog_1_method_7_code 98 = .ok (.iinc 7 1, 3) := by decide +kernel
theorem d_rs_pairwise_101 : decode prog_1_method_7_code 101 = .ok (.goto (-37), 3) := by decide +kernel
theorem d_rs_pairwise_104 : decode prog_1_method_7_code 104 = .ok (.aload_n 0, 1) := by decide +kernel
theorem d_rs_pairwise_105 : decode prog_1_method_7_code 105 = .ok (.iload 5, 2) := by decide +kernel
theorem d_rs_pairwise_107 : decode prog_1_method_7_code 107 = .ok (.invokevirtual 72, 3) := by decide +kernel
theorem d_rs_pairwise_110 : decode prog_1_method_7_code 110 = .ok (.ireturn, 1) := by decide +kernel
theorem d_rs_derivative_0 : decode prog_1_method_8_code 0 = .ok (.aload_n 0, 1) := by decide +kernel
theorem d_rs_derivative_1 : decode prog_1_method_8_code 1 = .ok (.iload_n 1, 1) := by decide +kernel
theorem d_rs_derivative_2 : decode prog_1_method_8_code 2 = .ok (.invokevirtual 75, 3) := by decide +kernel
theorem d_rs_derivative_5 : decode prog_1_method_8_code 5 = .ok (.ifCond .ne 5, 3) := by decide +kernel
theorem d_rs_derivative_8 : decode prog_1_method_8_code 8 = .ok (.iconst (-1), 1) := by decide +kernel
theorem d_rs_derivative_9 : decode prog_1_method_8_code 9 = .ok (.ireturn, 1) := by decide +kernel
theorem d_rs_derivative_10 : decode prog_1_method_8_code 10 = .ok (.aload_n 0, 1) := by decide +kernel
theorem d_rs_derivative_11 : decode prog_1_method_8_code 11 = .ok (.getfield 11, 3) := by decide +kernel
theorem d_rs_derivative_14 : decode prog_1_method_8_code 14 = .ok (.iload_n 1, 1) := by decide +kernel
theorem d_rs_derivative_15 : decode prog_1_method_8_code 15 = .ok (.aaload, 1) := by decide +kernel
theorem d_rs_derivative_16 : decode prog_1_method_8_code 16 = .ok (.astore_n 2, 1) := by decide +kernel
theorem d_rs_derivative_17 : decode prog_1_method_8_code 17 = .ok (.iconst 2, 1) := by decide +kernel
theorem d_rs_derivative_18 : decode prog_1_method_8_code 18 = .ok (.aload_n 2, 1) := by decide +kernel
theorem d_rs_derivative_19 : decode prog_1_method_8_code 19 = .ok (.getfield 78, 3) := by decide +kernel
theorem d_rs_derivative_22 : decode prog_1_method_8_code 22 = .ok (.imul, 1) := by decide +kernel
theorem d_rs_derivative_23 : decode prog_1_method_8_code 23 = .ok (.istore_n 3, 1) := by decide +kernel
theorem d_rs_derivative_24 : decode prog_1_method_8_code 24 = .ok (.aload_n 0, 1) := by decide +kernel
theorem d_rs_derivative_25 : decode prog_1_method_8_code 25 = .ok (.iload_n 3, 1) := by decide +kernel
theorem d_rs_derivative_26 : decode prog_1_method_8_code 26 = .ok (.invokevirtual 60, 3) := by decide +kernel
theorem d_rs_derivative_29 : decode prog_1_method_8_code 29 = .ok (.istore 4, 2) := by decide +kernel
theorem d_rs_derivative_31 : decode prog_1_method_8_code 31 = .ok (.iload 4, 2) := by decide +kernel
theorem d_rs_derivative_33 : decode prog_1_method_8_code 33 = .ok (.ifCond .ge 6, 3) := by decide +kernel
theorem d_rs_derivative_36 : decode prog_1_method_8_code 36 = .ok (.iload 4, 2) := by decide +kernel
theorem d_rs_derivative_38 : decode prog_1_method_8_code 38 = .ok (.ireturn, 1) := by decide +kernel
theorem d_rs_derivative_39 : decode prog_1_method_8_code 39 = .ok (.iconst 0, 1) := by decide +kernel
theorem d_rs_derivative_40 : decode prog_1_method_8_code 40 = .ok (.istore 5, 2) := by decide +kernel
theorem d_rs_derivative_42 : decode prog_1_method_8_code 42 = .ok (.iload 5, 2) := by decide +kernel
theorem d_rs_derivative_44 : decode prog_1_method_8_code 44 = .ok (.iconst 2, 1) := by decide +kernel
theorem d_rs_derivative_45 : decode prog_1_method_8_code 45 = .ok (.iload_n 3, 1) := by decide +kernel
theorem d_rs_derivative_46 : decode prog_1_method_8_code 46 = .ok (.imul, 1) := by decide +kernel
theorem d_rs_derivative_47 : decode prog_1_method_8_code 47 = .ok (.if_icmp .ge 33, 3) := by decide +kernel
theorem d_rs_derivative_50 : decode prog_1_method_8_code 50 = .ok (.aload_n 0, 1) := by decide +kernel
theorem d_rs_derivative_51 : decode prog_1_method_8_code 51 = .ok (.getfield 19, 3) := by decide +kernel
theorem d_rs_derivative_54 : decode prog_1_method_8_code 54 = .ok (.iload 5, 2) := by decide +kernel
theorem d_rs_derivative_56 : decode prog_1_method_8_code 56 = .ok (.iload 5, 2) := by decide +kernel
theorem d_rs_derivative_58 : decode prog_1_method_8_code 58 = .ok (.iconst 1, 1) := by decide +kernel
theorem d_rs_derivative_59 : decode prog_1_method_8_code 59 = .ok (.iadd, 1) := by decide +kernel
theorem d_rs_derivative_60 : decode prog_1_method_8_code 60 = .ok (.i2l, 1) := by decide +kernel
theorem d_rs_derivative_61 : decode prog_1_method_8_code 61 = .ok (.aload_n 2, 1) := by decide +kernel
theorem d_rs_derivative_62 : decode prog_1_method_8_code 62 = .ok (.getfield 81, 3) := by decide +kernel
theorem d_rs_derivative_65 : decode prog_1_method_8_code 65 = .ok (.iload 5, 2) := by decide +kernel
theorem d_rs_derivative_67 : decode prog_1_method_8_code 67 = .ok (.iconst 1, 1) := by decide +kernel
theorem d_rs_derivative_68 : decode prog_1_method_8_code 68 = .ok (.iadd, 1) := by decide +kernel
theorem d_rs_derivative_69 : decode prog_1_method_8_code 69 = .ok (.laload, 1) := by decide +kernel
theorem d_rs_derivative_70 : decode prog_1_method_8_code 70 = .ok (.invokestatic 84, 3) := by decide +kernel
theorem d_rs_derivative_73 : decode prog_1_method_8_code 73 = .ok (.lastore, 1) := by decide +kernel
theorem d_rs_derivative_74 : decode prog_1_method_8_code 74 = .ok (.iinc 5 1, 3) := by decide +kernel
theorem d_rs_derivative_77 : decode prog_1_method_8_code 77 = .ok (.goto (-35), 3) := by decide +kernel
theorem d_rs_derivative_80 : decode prog_1_method_8_code 80 = .ok (.aload_n 0, 1) := by decide +kernel
theorem d_rs_derivative_81 : decode prog_1_method_8_code 81 = .ok (.iload_n 3, 1) := by decide +kernel
theorem d_rs_derivative_82 : decode prog_1_method_8_code 82 = .ok (.invokevirtual 72, 3) := by decide +kernel
theorem d_rs_derivative_85 : decode prog_1_method_8_code 85 = .ok (.ireturn, 1) := by decide +kernel
theorem d_rs_tail_0 : decode prog_1_method_9_code 0 = .ok (.aload_n 0, 1) := by decide +kernel
theorem d_rs_tail_1 : decode prog_1_method_9_code 1 = .ok (.iload_n 1, 1) := by decide +kernel
theorem d_rs_tail_2 : decode prog_1_method_9_code 2 = .ok (.invokevirtual 75, 3) := by decide +kernel
theorem d_rs_tail_5 : decode prog_1_method_9_code 5 = .ok (.ifCond .ne 5, 3) := by decide +kernel
theorem d_rs_tail_8 : decode prog_1_method_9_code 8 = .ok (.iconst (-1), 1) := by decide +kernel
theorem d_rs_tail_9 : decode prog_1_method_9_code 9 = .ok (.ireturn, 1) := by decide +kernel
theorem d_rs_tail_10 : decode prog_1_method_9_code 10 = .ok (.aload_n 0, 1) := by decide +kernel
theorem d_rs_tail_11 : decode prog_1_method_9_code 11 = .ok (.getfield 11, 3) := by decide +kernel
theorem d_rs_tail_14 : decode prog_1_method_9_code 14 = .ok (.iload_n 1, 1) := by decide +kernel
theorem d_rs_tail_15 : decode prog_1_method_9_code 15 = .ok (.aaload, 1) := by decide +kernel
theorem d_rs_tail_16 : decode prog_1_method_9_code 16 = .ok (.astore_n 2, 1) := by decide +kernel
theorem d_rs_tail_17 : decode prog_1_method_9_code 17 = .ok (.aload_n 2, 1) := by decide +kernel
theorem d_rs_tail_18 : decode prog_1_method_9_code 18 = .ok (.getfield 78, 3) := by decide +kernel
theorem d_rs_tail_21 : decode prog_1_method_9_code 21 = .ok (.istore_n 3, 1) := by decide +kernel
theorem d_rs_tail_22 : decode prog_1_method_9_code 22 = .ok (.aload_n 0, 1) := by decide +kernel
theorem d_rs_tail_23 : decode prog_1_method_9_code 23 = .ok (.iload_n 3, 1) := by decide +kernel
theorem d_rs_tail_24 : decode prog_1_method_9_code 24 = .ok (.invokevirtual 60, 3) := by decide +kernel
theorem d_rs_tail_27 : decode prog_1_method_9_code 27 = .ok (.istore 4, 2) := by decide +kernel
theorem d_rs_tail_29 : decode prog_1_method_9_code 29 = .ok (.iload 4, 2) := by decide +kernel
theorem d_rs_tail_31 : decode prog_1_method_9_code 31 = .ok (.ifCond .ge 6, 3) := by decide +kernel
theorem d_rs_tail_34 : decode prog_1_method_9_code 34 = .ok (.iload 4, 2) := by decide +kernel
theorem d_rs_tail_36 : decode prog_1_method_9_code 36 = .ok (.ireturn, 1) := by decide +kernel
theorem d_rs_tail_37 : decode prog_1_method_9_code 37 = .ok (.iconst 0, 1) := by decide +kernel
theorem d_rs_tail_38 : decode prog_1_method_9_code 38 = .ok (.istore 5, 2) := by decide +kernel
theorem d_rs_tail_40 : decode prog_1_method_9_code 40 = .ok (.iload 5, 2) := by decide +kernel
theorem d_rs_tail_42 : decode prog_1_method_9_code 42 = .ok (.iconst 2, 1) := by decide +kernel
theorem d_rs_tail_43 : decode prog_1_method_9_code 43 = .ok (.iload_n 3, 1) := by decide +kernel
theorem d_rs_tail_44 : decode prog_1_method_9_code 44 = .ok (.imul, 1) := by decide +kernel
theorem d_rs_tail_45 : decode prog_1_method_9_code 45 = .ok (.if_icmp .ge 25, 3) := by decide +kernel
theorem d_rs_tail_48 : decode prog_1_method_9_code 48 = .ok (.aload_n 0, 1) := by decide +kernel
theorem d_rs_tail_49 : decode prog_1_method_9_code 49 = .ok (.getfield 19, 3) := by decide +kernel
theorem d_rs_tail_52 : decode prog_1_method_9_code 52 = .ok (.iload 5, 2) := by decide +kernel
theorem d_rs_tail_54 : decode prog_1_method_9_code 54 = .ok (.aload_n 2, 1) := by decide +kernel
theorem d_rs_tail_55 : decode prog_1_method_9_code 55 = .ok (.getfield 81, 3) := by decide +kernel
theorem d_rs_tail_58 : decode prog_1_method_9_code 58 = .ok (.iload 5, 2) := by decide +kernel
theorem d_rs_tail_60 : decode prog_1_method_9_code 60 = .ok (.iconst 1, 1) := by decide +kernel
theorem d_rs_tail_61 : decode prog_1_method_9_code 61 = .ok (.iadd, 1) := by decide +kernel
theorem d_rs_tail_62 : decode prog_1_method_9_code 62 = .ok (.laload, 1) := by decide +kernel
theorem d_rs_tail_63 : decode prog_1_method_9_code 63 = .ok (.lastore, 1) := by decide +kernel
theorem d_rs_tail_64 : decode prog_1_method_9_code 64 = .ok (.iinc 5 1, 3) := by decide +kernel
theorem d_rs_tail_67 : decode prog_1_method_9_code 67 = .ok (.goto (-27), 3) := by decide +kernel
theorem d_rs_tail_70 : decode prog_1_method_9_code 70 = .ok (.aload_n 0, 1) := by decide +kernel
theorem d_rs_tail_71 : decode prog_1_method_9_code 71 = .ok (.iload_n 3, 1) := by decide +kernel
theorem d_rs_tail_72 : decode prog_1_method_9_code 72 = .ok (.invokevirtual 72, 3) := by decide +kernel
theorem d_rs_tail_75 : decode prog_1_method_9_code 75 = .ok (.ireturn, 1) := by decide +kernel
theorem d_rs_delay_0 : decode prog_1_method_10_code 0 = .ok (.aload_n 0, 1) := by decide +kernel
theorem d_rs_delay_1 : decode prog_1_method_10_code 1 = .ok (.iload_n 1, 1) := by decide +kernel
theorem d_rs_delay_2 : decode prog_1_method_10_code 2 = .ok (.invokevirtual 75, 3) := by decide +kernel
theorem d_rs_delay_5 : decode prog_1_method_10_code 5 = .ok (.ifCond .ne 5, 3) := by decide +kernel
theorem d_rs_delay_8 : decode prog_1_method_10_code 8 = .ok (.iconst (-1), 1) := by decide +kernel
theorem d_rs_delay_9 : decode prog_1_method_10_code 9 = .ok (.ireturn, 1) := by decide +kernel
theorem d_rs_delay_10 : decode prog_1_method_10_code 10 = .ok (.aload_n 0, 1) := by decide +kernel
theorem d_rs_delay_11 : decode prog_1_method_10_code 11 = .ok (.getfield 11, 3) := by decide +kernel
theorem d_rs_delay_14 : decode prog_1_method_10_code 14 = .ok (.iload_n 1, 1) := by decide +kernel
theorem d_rs_delay_15 : decode prog_1_method_10_code 15 = .ok (.aaload, 1) := by decide +kernel
theorem d_rs_delay_16 : decode prog_1_method_10_code 16 = .ok (.astore_n 2, 1) := by decide +kernel
theorem d_rs_delay_17 : decode prog_1_method_10_code 17 = .ok (.aload_n 2, 1) := by decide +kernel
theorem d_rs_delay_18 : decode prog_1_method_10_code 18 = .ok (.getfield 78, 3) := by decide +kernel
theorem d_rs_delay_21 : decode prog_1_method_10_code 21 = .ok (.iconst 1, 1) := by decide +kernel
theorem d_rs_delay_22 : decode prog_1_method_10_code 22 = .ok (.iadd, 1) := by decide +kernel
theorem d_rs_delay_23 : decode prog_1_method_10_code 23 = .ok (.istore_n 3, 1) := by decide +kernel
theorem d_rs_delay_24 : decode prog_1_method_10_code 24 = .ok (.aload_n 0, 1) := by decide +kernel
theorem d_rs_delay_25 : decode prog_1_method_10_code 25 = .ok (.iload_n 3, 1) := by decide +kernel
theorem d_rs_delay_26 : decode prog_1_method_10_code 26 = .ok (.invokevirtual 60, 3) := by decide +kernel
theorem d_rs_delay_29 : decode prog_1_method_10_code 29 = .ok (.istore 4, 2) := by decide +kernel
theorem d_rs_delay_31 : decode prog_1_method_10_code 31 = .ok (.iload 4, 2) := by decide +kernel
theorem d_rs_delay_33 : decode prog_1_method_10_code 33 = .ok (.ifCond .ge 6, 3) := by decide +kernel
theorem d_rs_delay_36 : decode prog_1_method_10_code 36 = .ok (.iload 4, 2) := by decide +kernel
theorem d_rs_delay_38 : decode prog_1_method_10_code 38 = .ok (.ireturn, 1) := by decide +kernel
theorem d_rs_delay_39 : decode prog_1_method_10_code 39 = .ok (.aload_n 0, 1) := by decide +kernel
theorem d_rs_delay_40 : decode prog_1_method_10_code 40 = .ok (.getfield 19, 3) := by decide +kernel
theorem d_rs_delay_43 : decode prog_1_method_10_code 43 = .ok (.iconst 0, 1) := by decide +kernel
theorem d_rs_delay_44 : decode prog_1_method_10_code 44 = .ok (.lconst 0, 1) := by decide +kernel
theorem d_rs_delay_45 : decode prog_1_method_10_code 45 = .ok (.lastore, 1) := by decide +kernel
theorem d_rs_delay_46 : decode prog_1_method_10_code 46 = .ok (.iconst 1, 1) := by decide +kernel
theorem d_rs_delay_47 : decode prog_1_method_10_code 47 = .ok (.istore 5, 2) := by decide +kernel
theorem d_rs_delay_49 : decode prog_1_method_10_code 49 = .ok (.iload 5, 2) := by decide +kernel
theorem d_rs_delay_51 : decode prog_1_method_10_code 51 = .ok (.iconst 2, 1) := by decide +kernel
theorem d_rs_delay_52 : decode prog_1_method_10_code 52 = .ok (.iload_n 3, 1) := by decide +kernel
theorem d_rs_delay_53 : decode prog_1_method_10_code 53 = .ok (.imul, 1) := by decide +kernel
theorem d_rs_delay_54 : decode prog_1_method_10_code 54 = .ok (.if_icmp .ge 25, 3) := by decide +kernel
theorem d_rs_delay_57 : decode prog_1_method_10_code 57 = .ok (.aload_n 0, 1) := by decide +kernel
theorem d_rs_delay_58 : decode prog_1_method_10_code 58 = .ok (.getfield 19, 3) := by decide +kernel
theorem d_rs_delay_61 : decode prog_1_method_10_code 61 = .ok (.iload 5, 2) := by decide +kernel
theorem d_rs_delay_63 : decode prog_1_method_10_code 63 = .ok (.aload_n 2, 1) := by decide +kernel
theorem d_rs_delay_64 : decode prog_1_method_10_code 64 = .ok (.getfield 81, 3) := by decide +kernel
theorem d_rs_delay_67 : decode prog_1_method_10_code 67 = .ok (.iload 5, 2) := by decide +kernel
theorem d_rs_delay_69 : decode prog_1_method_10_code 69 = .ok (.iconst 1, 1) := by decide +kernel
theorem d_rs_delay_70 : decode prog_1_method_10_code 70 = .ok (.isub, 1) := by decide +kernel
theorem d_rs_delay_71 : decode prog_1_method_10_code 71 = .ok (.laload, 1) := by decide +kernel
theorem d_rs_delay_72 : decode prog_1_method_10_code 72 = .ok (.lastore, 1) := by decide +kernel
theorem d_rs_delay_73 : decode prog_1_method_10_code 73 = .ok (.iinc 5 1, 3) := by decide +kernel
theorem d_rs_delay_76 : decode prog_1_method_10_code 76 = .ok (.goto (-27), 3) := by decide +kernel
theorem d_rs_delay_79 : decode prog_1_method_10_code 79 = .ok (.aload_n 0, 1) := by decide +kernel
theorem d_rs_delay_80 : decode prog_1_method_10_code 80 = .ok (.iload_n 3, 1) := by decide +kernel
theorem d_rs_delay_81 : decode prog_1_method_10_code 81 = .ok (.invokevirtual 72, 3) := by decide +kernel
theorem d_rs_delay_84 : decode prog_1_method_10_code 84 = .ok (.ireturn, 1) := by decide +kernel
theorem d_rs_sums_0 : decode prog_1_method_11_code 0 = .ok (.aload_n 0, 1) := by decide +kernel
theorem d_rs_sums_1 : decode prog_1_method_11_code 1 = .ok (.iload_n 1, 1) := by decide +kernel
theorem d_rs_sums_2 : decode prog_1_method_11_code 2 = .ok (.invokevirtual 75, 3) := by decide +kernel
theorem d_rs_sums_5 : decode prog_1_method_11_code 5 = .ok (.ifCond .ne 5, 3) := by decide +kernel
theorem d_rs_sums_8 : decode prog_1_method_11_code 8 = .ok (.iconst (-1), 1) := by decide +kernel
theorem d_rs_sums_9 : decode prog_1_method_11_code 9 = .ok (.ireturn, 1) := by decide +kernel
theorem d_rs_sums_10 : decode prog_1_method_11_code 10 = .ok (.aload_n 0, 1) := by decide +kernel
theorem d_rs_sums_11 : decode prog_1_method_11_code 11 = .ok (.getfield 11, 3) := by decide +kernel
theorem d_rs_sums_14 : decode prog_1_method_11_code 14 = .ok (.iload_n 1, 1) := by decide +kernel
theorem d_rs_sums_15 : decode prog_1_method_11_code 15 = .ok (.aaload, 1) := by decide +kernel
theorem d_rs_sums_16 : decode prog_1_method_11_code 16 = .ok (.astore_n 2, 1) := by decide +kernel
theorem d_rs_sums_17 : decode prog_1_method_11_code 17 = .ok (.aload_n 2, 1) := by decide +kernel
theorem d_rs_sums_18 : decode prog_1_method_11_code 18 = .ok (.getfield 78, 3) := by decide +kernel
theorem d_rs_sums_21 : decode prog_1_method_11_code 21 = .ok (.iconst 1, 1) := by decide +kernel
theorem d_rs_sums_22 : decode prog_1_method_11_code 22 = .ok (.iadd, 1) := by decide +kernel
theorem d_rs_sums_23 : decode prog_1_method_11_code 23 = .ok (.istore_n 3, 1) := by decide +kernel
theorem d_rs_sums_24 : decode prog_1_method_11_code 24 = .ok (.aload_n 0, 1) := by decide +kernel
theorem d_rs_sums_25 : decode prog_1_method_11_code 25 = .ok (.iload_n 3, 1) := by decide +kernel
theorem d_rs_sums_26 : decode prog_1_method_11_code 26 = .ok (.invokevirtual 60, 3) := by decide +kernel
theorem d_rs_sums_29 : decode prog_1_method_11_code 29 = .ok (.istore 4, 2) := by decide +kernel
theorem d_rs_sums_31 : decode prog_1_method_11_code 31 = .ok (.iload 4, 2) := by decide +kernel
theorem d_rs_sums_33 : decode prog_1_method_11_code 33 = .ok (.ifCond .ge 6, 3) := by decide +kernel
theorem d_rs_sums_36 : decode prog_1_method_11_code 36 = .ok (.iload 4, 2) := by decide +kernel
theorem d_rs_sums_38 : decode prog_1_method_11_code 38 = .ok (.ireturn, 1) := by decide +kernel
theorem d_rs_sums_39 : decode prog_1_method_11_code 39 = .ok (.lconst 0, 1) := by decide +kernel
theorem d_rs_sums_40 : decode prog_1_method_11_code 40 = .ok (.lstore 5, 2) := by decide +kernel
theorem d_rs_sums_42 : decode prog_1_method_11_code 42 = .ok (.iconst 0, 1) := by decide +kernel
theorem d_rs_sums_43 : decode prog_1_method_11_code 43 = .ok (.istore 7, 2) := by decide +kernel
theorem d_rs_sums_45 : decode prog_1_method_11_code 45 = .ok (.iload 7, 2) := by decide +kernel
theorem d_rs_sums_47 : decode prog_1_method_11_code 47 = .ok (.iconst 2, 1) := by decide +kernel
theorem d_rs_sums_48 : decode prog_1_method_11_code 48 = .ok (.iload_n 3, 1) := by decide +kernel
theorem d_rs_sums_49 : decode prog_1_method_11_code 49 = .ok (.imul, 1) := by decide +kernel
theorem d_rs_sums_50 : decode prog_1_method_11_code 50 = .ok (.if_icmp .ge 32, 3) := by decide +kernel
theorem d_rs_sums_53 : decode prog_1_method_11_code 53 = .ok (.lload 5, 2) := by decide +kernel
theorem d_rs_sums_55 : decode prog_1_method_11_code 55 = .ok (.aload_n 2, 1) := by decide +kernel
theorem d_rs_sums_56 : decode prog_1_method_11_code 56 = .ok (.getfield 81, 3) := by decide +kernel
theorem d_rs_sums_59 : decode prog_1_method_11_code 59 = .ok (.iload 7, 2) := by decide +kernel
theorem d_rs_sums_61 : decode prog_1_method_11_code 61 = .ok (.laload, 1) := by decide +kernel
theorem d_rs_sums_62 : decode prog_1_method_11_code 62 = .ok (.invokestatic 92, 3) := by decide +kernel
theorem d_rs_sums_65 : decode prog_1_method_11_code 65 = .ok (.lstore 5, 2) := by decide +kernel
theorem d_rs_sums_67 : decode prog_1_method_11_code 67 = .ok (.aload_n 0, 1) := by decide +kernel
theorem d_rs_sums_68 : decode prog_1_method_11_code 68 = .ok (.getfield 19, 3) := by decide +kernel
theorem d_rs_sums_71 : decode prog_1_method_11_code 71 = .ok (.iload 7, 2) := by decide +kernel
theorem d_rs_sums_73 : decode prog_1_method_11_code 73 = .ok (.lload 5, 2) := by decide +kernel
theorem d_rs_sums_75 : decode prog_1_method_11_code 75 = .ok (.lastore, 1) := by decide +kernel
theorem d_rs_sums_76 : decode prog_1_method_11_code 76 = .ok (.iinc 7 1, 3) := by decide +kernel
theorem d_rs_sums_79 : decode prog_1_method_11_code 79 = .ok (.goto (-34), 3) := by decide +kernel
theorem d_rs_sums_82 : decode prog_1_method_11_code 82 = .ok (.aload_n 0, 1) := by decide +kernel
theorem d_rs_sums_83 : decode prog_1_method_11_code 83 = .ok (.iload_n 3, 1) := by decide +kernel
theorem d_rs_sums_84 : decode prog_1_method_11_code 84 = .ok (.invokevirtual 72, 3) := by decide +kernel
theorem d_rs_sums_87 : decode prog_1_method_11_code 87 = .ok (.ireturn, 1) := by decide +kernel
theorem d_rs_section_0 : decode prog_1_method_12_code 0 = .ok (.aload_n 0, 1) := by decide +kernel
theorem d_rs_section_1 : decode prog_1_method_12_code 1 = .ok (.iload_n 1, 1) := by decide +kernel
theorem d_rs_section_2 : decode prog_1_method_12_code 2 = .ok (.invokevirtual 75, 3) := by decide +kernel
theorem d_rs_section_5 : decode prog_1_method_12_code 5 = .ok (.ifCond .eq 25, 3) := by decide +kernel
theorem d_rs_section_8 : decode prog_1_method_12_code 8 = .ok (.iload_n 2, 1) := by decide +kernel
theorem d_rs_section_9 : decode prog_1_method_12_code 9 = .ok (.iconst 1, 1) := by decide +kernel
theorem d_rs_section_10 : decode prog_1_method_12_code 10 = .ok (.if_icmp .lt 20, 3) := by decide +kernel
theorem d_rs_section_13 : decode prog_1_method_12_code 13 = .ok (.iload_n 2, 1) := by decide +kernel
theorem d_rs_section_14 : decode prog_1_method_12_code 14 = .ok (.bipush 24, 2) := by decide +kernel
theorem d_rs_section_16 : decode prog_1_method_12_code 16 = .ok (.if_icmp .gt 14, 3) := by decide +kernel
theorem d_rs_section_19 : decode prog_1_method_12_code 19 = .ok (.iload_n 3, 1) := by decide +kernel
theorem d_rs_section_20 : decode prog_1_method_12_code 20 = .ok (.ifCond .lt 10, 3) := by decide +kernel
theorem d_rs_section_23 : decode prog_1_method_12_code 23 = .ok (.iload_n 3, 1) := by decide +kernel
theorem d_rs_section_24 : decode prog_1_method_12_code 24 = .ok (.sipush 1000, 3) := by decide +kernel
theorem d_rs_section_27 : decode prog_1_method_12_code 27 = .ok (.if_icmp .le 5, 3) := by decide +kernel
theorem d_rs_section_30 : decode prog_1_method_12_code 30 = .ok (.iconst (-1), 1) := by decide +kernel
theorem d_rs_section_31 : decode prog_1_method_12_code 31 = .ok (.ireturn, 1) := by decide +kernel
theorem d_rs_section_32 : decode prog_1_method_12_code 32 = .ok (.aload_n 0, 1) := by decide +kernel
theorem d_rs_section_33 : decode prog_1_method_12_code 33 = .ok (.getfield 11, 3) := by decide +kernel
theorem d_rs_section_36 : decode prog_1_method_12_code 36 = .ok (.iload_n 1, 1) := by decide +kernel
theorem d_rs_section_37 : decode prog_1_method_12_code 37 = .ok (.aaload, 1) := by decide +kernel
theorem d_rs_section_38 : decode prog_1_method_12_code 38 = .ok (.astore 4, 2) := by decide +kernel
theorem d_rs_section_40 : decode prog_1_method_12_code 40 = .ok (.aload 4, 2) := by decide +kernel
theorem d_rs_section_42 : decode prog_1_method_12_code 42 = .ok (.getfield 78, 3) := by decide +kernel
theorem d_rs_section_45 : decode prog_1_method_12_code 45 = .ok (.istore 5, 2) := by decide +kernel
theorem d_rs_section_47 : decode prog_1_method_12_code 47 = .ok (.aload_n 0, 1) := by decide +kernel
theorem d_rs_section_48 : decode prog_1_method_12_code 48 = .ok (.iload 5, 2) := by decide +kernel
theorem d_rs_section_50 : decode prog_1_method_12_code 50 = .ok (.invokevirtual 60, 3) := by decide +kernel
theorem d_rs_section_53 : decode prog_1_method_12_code 53 = .ok (.istore 6, 2) := by decide +kernel
theorem d_rs_section_55 : decode prog_1_method_12_code 55 = .ok (.iload 6, 2) := by decide +kernel
theorem d_rs_section_57 : decode prog_1_method_12_code 57 = .ok (.ifCond .ge 6, 3) := by decide +kernel
theorem d_rs_section_60 : decode prog_1_method_12_code 60 = .ok (.iload 6, 2) := by decide +kernel
theorem d_rs_section_62 : decode prog_1_method_12_code 62 = .ok (.ireturn, 1) := by decide +kernel
theorem d_rs_section_63 : decode prog_1_method_12_code 63 = .ok (.aload 4, 2) := by decide +kernel
theorem d_rs_section_65 : decode prog_1_method_12_code 65 = .ok (.aload_n 0, 1) := by decide +kernel
theorem d_rs_section_66 : decode prog_1_method_12_code 66 = .ok (.getfield 22, 3) := by decide +kernel
theorem d_rs_section_69 : decode prog_1_method_12_code 69 = .ok (.iload_n 2, 1) := by decide +kernel
theorem d_rs_section_70 : decode prog_1_method_12_code 70 = .ok (.iconst 2, 1) := by decide +kernel
theorem d_rs_section_71 : decode prog_1_method_12_code 71 = .ok (.iload 5, 2) := by decide +kernel
theorem d_rs_section_73 : decode prog_1_method_12_code 73 = .ok (.imul, 1) := by decide +kernel
theorem d_rs_section_74 : decode prog_1_method_12_code 74 = .ok (.iconst 1, 1) := by decide +kernel
theorem d_rs_section_75 : decode prog_1_method_12_code 75 = .ok (.isub, 1) := by decide +kernel
theorem d_rs_section_76 : decode prog_1_method_12_code 76 = .ok (.imul, 1) := by decide +kernel
theorem d_rs_section_77 : decode prog_1_method_12_code 77 = .ok (.iload_n 3, 1) := by decide +kernel
theorem d_rs_section_78 : decode prog_1_method_12_code 78 = .ok (.iadd, 1) := by decide +kernel
theorem d_rs_section_79 : decode prog_1_method_12_code 79 = .ok (.iconst 1, 1) := by decide +kernel
theorem d_rs_section_80 : decode prog_1_method_12_code 80 = .ok (.iadd, 1) := by decide +kernel
theorem d_rs_section_81 : decode prog_1_method_12_code 81 = .ok (.invokevirtual 95, 3) := by decide +kernel
theorem d_rs_section_84 : decode prog_1_method_12_code 84 = .ok (.iconst 0, 1) := by decide +kernel
theorem d_rs_section_85 : decode prog_1_method_12_code 85 = .ok (.istore 7, 2) := by decide +kernel
theorem d_rs_section_87 : decode prog_1_method_12_code 87 = .ok (.iload 7, 2) := by decide +kernel
theorem d_rs_section_89 : decode prog_1_method_12_code 89 = .ok (.iconst 2, 1) := by decide +kernel
theorem d_rs_section_90 : decode prog_1_method_12_code 90 = .ok (.iload 5, 2) := by decide +kernel
theorem d_rs_section_92 : decode prog_1_method_12_code 92 = .ok (.imul, 1) := by decide +kernel
theorem d_rs_section_93 : decode prog_1_method_12_code 93 = .ok (.if_icmp .ge 27, 3) := by decide +kernel
theorem d_rs_section_96 : decode prog_1_method_12_code 96 = .ok (.aload_n 0, 1) := by decide +kernel
theorem d_rs_section_97 : decode prog_1_method_12_code 97 = .ok (.getfield 19, 3) := by decide +kernel
theorem d_rs_section_100 : decode prog_1_method_12_code 100 = .ok (.iload 7, 2) := by decide +kernel
theorem d_rs_section_102 : decode prog_1_method_12_code 102 = .ok (.aload_n 0, 1) := by decide +kernel
theorem d_rs_section_103 : decode prog_1_method_12_code 103 = .ok (.getfield 22, 3) := by decide +kernel
theorem d_rs_section_106 : decode prog_1_method_12_code 106 = .ok (.iload_n 2, 1) := by decide +kernel
theorem d_rs_section_107 : decode prog_1_method_12_code 107 = .ok (.iload 7, 2) := by decide +kernel
theorem d_rs_section_109 : decode prog_1_method_12_code 109 = .ok (.imul, 1) := by decide +kernel
theorem d_rs_section_110 : decode prog_1_method_12_code 110 = .ok (.iload_n 3, 1) := by decide +kernel
theorem d_rs_section_111 : decode prog_1_method_12_code 111 = .ok (.iadd, 1) := by decide +kernel
theorem d_rs_section_112 : decode prog_1_method_12_code 112 = .ok (.laload, 1) := by decide +kernel
theorem d_rs_section_113 : decode prog_1_method_12_code 113 = .ok (.lastore, 1) := by decide +kernel
theorem d_rs_section_114 : decode prog_1_method_12_code 114 = .ok (.iinc 7 1, 3) := by decide +kernel
theorem d_rs_section_117 : decode prog_1_method_12_code 117 = .ok (.goto (-30), 3) := by decide +kernel
theorem d_rs_section_120 : decode prog_1_method_12_code 120 = .ok (.aload_n 0, 1) := by decide +kernel
theorem d_rs_section_121 : decode prog_1_method_12_code 121 = .ok (.iload 5, 2) := by decide +kernel
theorem d_rs_section_123 : decode prog_1_method_12_code 123 = .ok (.invokevirtual 72, 3) := by decide +kernel
theorem d_rs_section_126 : decode prog_1_method_12_code 126 = .ok (.ireturn, 1) := by decide +kernel
theorem d_rs_spread_0 : decode prog_1_method_13_code 0 = .ok (.aload_n 0, 1) := by decide +kernel
theorem d_rs_spread_1 : decode prog_1_method_13_code 1 = .ok (.iload_n 1, 1) := by decide +kernel
theorem d_rs_spread_2 : decode prog_1_method_13_code 2 = .ok (.invokevirtual 75, 3) := by decide +kernel
theorem d_rs_spread_5 : decode prog_1_method_13_code 5 = .ok (.ifCond .eq 14, 3) := by decide +kernel
theorem d_rs_spread_8 : decode prog_1_method_13_code 8 = .ok (.iload_n 2, 1) := by decide +kernel
theorem d_rs_spread_9 : decode prog_1_method_13_code 9 = .ok (.iconst 1, 1) := by decide +kernel
theorem d_rs_spread_10 : decode prog_1_method_13_code 10 = .ok (.if_icmp .lt 9, 3) := by decide +kernel
theorem d_rs_spread_13 : decode prog_1_method_13_code 13 = .ok (.iload_n 2, 1) := by decide +kernel
theorem d_rs_spread_14 : decode prog_1_method_13_code 14 = .ok (.bipush 24, 2) := by decide +kernel
theorem d_rs_spread_16 : decode prog_1_method_13_code 16 = .ok (.if_icmp .le 5, 3) := by decide +kernel
theorem d_rs_spread_19 : decode prog_1_method_13_code 19 = .ok (.iconst (-1), 1) := by decide +kernel
theorem d_rs_spread_20 : decode prog_1_method_13_code 20 = .ok (.ireturn, 1) := by decide +kernel
theorem d_rs_spread_21 : decode prog_1_method_13_code 21 = .ok (.aload_n 0, 1) := by decide +kernel
theorem d_rs_spread_22 : decode prog_1_method_13_code 22 = .ok (.getfield 11, 3) := by decide +kernel
theorem d_rs_spread_25 : decode prog_1_method_13_code 25 = .ok (.iload_n 1, 1) := by decide +kernel
theorem d_rs_spread_26 : decode prog_1_method_13_code 26 = .ok (.aaload, 1) := by decide +kernel
theorem d_rs_spread_27 : decode prog_1_method_13_code 27 = .ok (.astore_n 3, 1) := by decide +kernel
theorem d_rs_spread_28 : decode prog_1_method_13_code 28 = .ok (.iload_n 2, 1) := by decide +kernel
theorem d_rs_spread_29 : decode prog_1_method_13_code 29 = .ok (.aload_n 3, 1) := by decide +kernel
theorem d_rs_spread_30 : decode prog_1_method_13_code 30 = .ok (.getfield 78, 3) := by decide +kernel
theorem d_rs_spread_33 : decode prog_1_method_13_code 33 = .ok (.imul, 1) := by decide +kernel
theorem d_rs_spread_34 : decode prog_1_method_13_code 34 = .ok (.istore 4, 2) := by decide +kernel
theorem d_rs_spread_36 : decode prog_1_method_13_code 36 = .ok (.aload_n 0, 1) := by decide +kernel
theorem d_rs_spread_37 : decode prog_1_method_13_code 37 = .ok (.iload 4, 2) := by decide +kernel
theorem d_rs_spread_39 : decode prog_1_method_13_code 39 = .ok (.invokevirtual 60, 3) := by decide +kernel
theorem d_rs_spread_42 : decode prog_1_method_13_code 42 = .ok (.istore 5, 2) := by decide +kernel
theorem d_rs_spread_44 : decode prog_1_method_13_code 44 = .ok (.iload 5, 2) := by decide +kernel
theorem d_rs_spread_46 : decode prog_1_method_13_code 46 = .ok (.ifCond .ge 6, 3) := by decide +kernel
theorem d_rs_spread_49 : decode prog_1_method_13_code 49 = .ok (.iload 5, 2) := by decide +kernel
theorem d_rs_spread_51 : decode prog_1_method_13_code 51 = .ok (.ireturn, 1) := by decide +kernel
theorem d_rs_spread_52 : decode prog_1_method_13_code 52 = .ok (.iconst 0, 1) := by decide +kernel
theorem d_rs_spread_53 : decode prog_1_method_13_code 53 = .ok (.istore 6, 2) := by decide +kernel
theorem d_rs_spread_55 : decode prog_1_method_13_code 55 = .ok (.iload 6, 2) := by decide +kernel
theorem d_rs_spread_57 : decode prog_1_method_13_code 57 = .ok (.iconst 2, 1) := by decide +kernel
theorem d_rs_spread_58 : decode prog_1_method_13_code 58 = .ok (.iload 4, 2) := by decide +kernel
theorem d_rs_spread_60 : decode prog_1_method_13_code 60 = .ok (.imul, 1) := by decide +kernel
theorem d_rs_spread_61 : decode prog_1_method_13_code 61 = .ok (.if_icmp .ge 36, 3) := by decide +kernel
theorem d_rs_spread_64 : decode prog_1_method_13_code 64 = .ok (.aload_n 0, 1) := by decide +kernel
theorem d_rs_spread_65 : decode prog_1_method_13_code 65 = .ok (.getfield 19, 3) := by decide +kernel
theorem d_rs_spread_68 : decode prog_1_method_13_code 68 = .ok (.iload 6, 2) := by decide +kernel
theorem d_rs_spread_70 : decode prog_1_method_13_code 70 = .ok (.iload 6, 2) := by decide +kernel
theorem d_rs_spread_72 : decode prog_1_method_13_code 72 = .ok (.iload_n 2, 1) := by decide +kernel
theorem d_rs_spread_73 : decode prog_1_method_13_code 73 = .ok (.irem, 1) := by decide +kernel
theorem d_rs_spread_74 : decode prog_1_method_13_code 74 = .ok (.ifCond .ne 15, 3) := by decide +kernel
theorem d_rs_spread_77 : decode prog_1_method_13_code 77 = .ok (.aload_n 3, 1) := by decide +kernel
theorem d_rs_spread_78 : decode prog_1_method_13_code 78 = .ok (.getfield 81, 3) := by decide +kernel
theorem d_rs_spread_81 : decode prog_1_method_13_code 81 = .ok (.iload 6, 2) := by decide +kernel
theorem d_rs_spread_83 : decode prog_1_method_13_code 83 = .ok (.iload_n 2, 1) := by decide +kernel
theorem d_rs_spread_84 : decode prog_1_method_13_code 84 = .ok (.idiv, 1) := by decide +kernel
theorem d_rs_spread_85 : decode prog_1_method_13_code 85 = .ok (.laload, 1) := by decide +kernel
theorem d_rs_spread_86 : decode prog_1_method_13_code 86 = .ok (.goto 4, 3) := by decide +kernel
theorem d_rs_spread_89 : decode prog_1_method_13_code 89 = .ok (.lconst 0, 1) := by decide +kernel
theorem d_rs_spread_90 : decode prog_1_method_13_code 90 = .ok (.lastore, 1) := by decide +kernel
theorem d_rs_spread_91 : decode prog_1_method_13_code 91 = .ok (.iinc 6 1, 3) := by decide +kernel
theorem d_rs_spread_94 : decode prog_1_method_13_code 94 = .ok (.goto (-39), 3) := by decide +kernel
theorem d_rs_spread_97 : decode prog_1_method_13_code 97 = .ok (.aload_n 0, 1) := by decide +kernel
theorem d_rs_spread_98 : decode prog_1_method_13_code 98 = .ok (.iload 4, 2) := by decide +kernel
theorem d_rs_spread_100 : decode prog_1_method_13_code 100 = .ok (.invokevirtual 72, 3) := by decide +kernel
theorem d_rs_spread_103 : decode prog_1_method_13_code 103 = .ok (.ireturn, 1) := by decide +kernel
theorem d_rs_forget_0 : decode prog_1_method_14_code 0 = .ok (.aload_n 0, 1) := by decide +kernel
theorem d_rs_forget_1 : decode prog_1_method_14_code 1 = .ok (.getfield 47, 3) := by decide +kernel
theorem d_rs_forget_4 : decode prog_1_method_14_code 4 = .ok (.ifCond .ne 5, 3) := by decide +kernel
theorem d_rs_forget_7 : decode prog_1_method_14_code 7 = .ok (.iconst 0, 1) := by decide +kernel
theorem d_rs_forget_8 : decode prog_1_method_14_code 8 = .ok (.ireturn, 1) := by decide +kernel
theorem d_rs_forget_9 : decode prog_1_method_14_code 9 = .ok (.aload_n 0, 1) := by decide +kernel
theorem d_rs_forget_10 : decode prog_1_method_14_code 10 = .ok (.dup, 1) := by decide +kernel
theorem d_rs_forget_11 : decode prog_1_method_14_code 11 = .ok (.getfield 47, 3) := by decide +kernel
theorem d_rs_forget_14 : decode prog_1_method_14_code 14 = .ok (.iconst 1, 1) := by decide +kernel
theorem d_rs_forget_15 : decode prog_1_method_14_code 15 = .ok (.isub, 1) := by decide +kernel
theorem d_rs_forget_16 : decode prog_1_method_14_code 16 = .ok (.putfield 47, 3) := by decide +kernel
theorem d_rs_forget_19 : decode prog_1_method_14_code 19 = .ok (.iconst 1, 1) := by decide +kernel
theorem d_rs_forget_20 : decode prog_1_method_14_code 20 = .ok (.ireturn, 1) := by decide +kernel
theorem d_rs_count_0 : decode prog_1_method_15_code 0 = .ok (.aload_n 0, 1) := by decide +kernel
theorem d_rs_count_1 : decode prog_1_method_15_code 1 = .ok (.getfield 47, 3) := by decide +kernel
theorem d_rs_count_4 : decode prog_1_method_15_code 4 = .ok (.ireturn, 1) := by decide +kernel
theorem d_rs_order_0 : decode prog_1_method_16_code 0 = .ok (.aload_n 0, 1) := by decide +kernel
theorem d_rs_order_1 : decode prog_1_method_16_code 1 = .ok (.iload_n 1, 1) := by decide +kernel
theorem d_rs_order_2 : decode prog_1_method_16_code 2 = .ok (.invokevirtual 75, 3) := by decide +kernel
theorem d_rs_order_5 : decode prog_1_method_16_code 5 = .ok (.ifCond .eq 15, 3) := by decide +kernel
theorem d_rs_order_8 : decode prog_1_method_16_code 8 = .ok (.aload_n 0, 1) := by decide +kernel
theorem d_rs_order_9 : decode prog_1_method_16_code 9 = .ok (.getfield 11, 3) := by decide +kernel
theorem d_rs_order_12 : decode prog_1_method_16_code 12 = .ok (.iload_n 1, 1) := by decide +kernel
theorem d_rs_order_13 : decode prog_1_method_16_code 13 = .ok (.aaload, 1) := by decide +kernel
theorem d_rs_order_14 : decode prog_1_method_16_code 14 = .ok (.getfield 78, 3) := by decide +kernel
theorem d_rs_order_17 : decode prog_1_method_16_code 17 = .ok (.goto 4, 3) := by decide +kernel
theorem d_rs_order_20 : decode prog_1_method_16_code 20 = .ok (.iconst (-1), 1) := by decide +kernel
theorem d_rs_order_21 : decode prog_1_method_16_code 21 = .ok (.ireturn, 1) := by decide +kernel
theorem d_rs_coefficient_0 : decode prog_1_method_17_code 0 = .ok (.aload_n 0, 1) := by decide +kernel
theorem d_rs_coefficient_1 : decode prog_1_method_17_code 1 = .ok (.iload_n 1, 1) := by decide +kernel
theorem d_rs_coefficient_2 : decode prog_1_method_17_code 2 = .ok (.invokevirtual 75, 3) := by decide +kernel
theorem d_rs_coefficient_5 : decode prog_1_method_17_code 5 = .ok (.ifCond .eq 21, 3) := by decide +kernel
theorem d_rs_coefficient_8 : decode prog_1_method_17_code 8 = .ok (.iload_n 2, 1) := by decide +kernel
theorem d_rs_coefficient_9 : decode prog_1_method_17_code 9 = .ok (.iconst 1, 1) := by decide +kernel
theorem d_rs_coefficient_10 : decode prog_1_method_17_code 10 = .ok (.if_icmp .lt 16, 3) := by decide +kernel
theorem d_rs_coefficient_13 : decode prog_1_method_17_code 13 = .ok (.iload_n 2, 1) := by decide +kernel
theorem d_rs_coefficient_14 : decode prog_1_method_17_code 14 = .ok (.aload_n 0, 1) := by decide +kernel
theorem d_rs_coefficient_15 : decode prog_1_method_17_code 15 = .ok (.getfield 11, 3) := by decide +kernel
theorem d_rs_coefficient_18 : decode prog_1_method_17_code 18 = .ok (.iload_n 1, 1) := by decide +kernel
theorem d_rs_coefficient_19 : decode prog_1_method_17_code 19 = .ok (.aaload, 1) := by decide +kernel
theorem d_rs_coefficient_20 : decode prog_1_method_17_code 20 = .ok (.getfield 78, 3) := by decide +kernel
theorem d_rs_coefficient_23 : decode prog_1_method_17_code 23 = .ok (.if_icmp .le 5, 3) := by decide +kernel
theorem d_rs_coefficient_26 : decode prog_1_method_17_code 26 = .ok (.iconst (-1), 1) := by decide +kernel
theorem d_rs_coefficient_27 : decode prog_1_method_17_code 27 = .ok (.ireturn, 1) := by decide +kernel
theorem d_rs_coefficient_28 : decode prog_1_method_17_code 28 = .ok (.aload_n 0, 1) := by decide +kernel
theorem d_rs_coefficient_29 : decode prog_1_method_17_code 29 = .ok (.getfield 11, 3) := by decide +kernel
theorem d_rs_coefficient_32 : decode prog_1_method_17_code 32 = .ok (.iload_n 1, 1) := by decide +kernel
theorem d_rs_coefficient_33 : decode prog_1_method_17_code 33 = .ok (.aaload, 1) := by decide +kernel
theorem d_rs_coefficient_34 : decode prog_1_method_17_code 34 = .ok (.getfield 99, 3) := by decide +kernel
theorem d_rs_coefficient_37 : decode prog_1_method_17_code 37 = .ok (.iload_n 2, 1) := by decide +kernel
theorem d_rs_coefficient_38 : decode prog_1_method_17_code 38 = .ok (.iconst 1, 1) := by decide +kernel
theorem d_rs_coefficient_39 : decode prog_1_method_17_code 39 = .ok (.isub, 1) := by decide +kernel
theorem d_rs_coefficient_40 : decode prog_1_method_17_code 40 = .ok (.laload, 1) := by decide +kernel
theorem d_rs_coefficient_41 : decode prog_1_method_17_code 41 = .ok (.l2i, 1) := by decide +kernel
theorem d_rs_coefficient_42 : decode prog_1_method_17_code 42 = .ok (.ireturn, 1) := by decide +kernel
theorem d_rs_term_0 : decode prog_1_method_18_code 0 = .ok (.aload_n 0, 1) := by decide +kernel
theorem d_rs_term_1 : decode prog_1_method_18_code 1 = .ok (.iload_n 1, 1) := by decide +kernel
theorem d_rs_term_2 : decode prog_1_method_18_code 2 = .ok (.invokevirtual 75, 3) := by decide +kernel
theorem d_rs_term_5 : decode prog_1_method_18_code 5 = .ok (.ifCond .eq 9, 3) := by decide +kernel
theorem d_rs_term_8 : decode prog_1_method_18_code 8 = .ok (.lload_n 2, 1) := by decide +kernel
theorem d_rs_term_9 : decode prog_1_method_18_code 9 = .ok (.lconst 0, 1) := by decide +kernel
theorem d_rs_term_10 : decode prog_1_method_18_code 10 = .ok (.lcmp, 1) := by decide +kernel
theorem d_rs_term_11 : decode prog_1_method_18_code 11 = .ok (.ifCond .ge 5, 3) := by decide +kernel
theorem d_rs_term_14 : decode prog_1_method_18_code 14 = .ok (.iconst (-1), 1) := by decide +kernel
theorem d_rs_term_15 : decode prog_1_method_18_code 15 = .ok (.ireturn, 1) := by decide +kernel
theorem d_rs_term_16 : decode prog_1_method_18_code 16 = .ok (.aload_n 0, 1) := by decide +kernel
theorem d_rs_term_17 : decode prog_1_method_18_code 17 = .ok (.getfield 35, 3) := by decide +kernel
theorem d_rs_term_20 : decode prog_1_method_18_code 20 = .ok (.aload_n 0, 1) := by decide +kernel
theorem d_rs_term_21 : decode prog_1_method_18_code 21 = .ok (.getfield 11, 3) := by decide +kernel
theorem d_rs_term_24 : decode prog_1_method_18_code 24 = .ok (.iload_n 1, 1) := by decide +kernel
theorem d_rs_term_25 : decode prog_1_method_18_code 25 = .ok (.aaload, 1) := by decide +kernel
theorem d_rs_term_26 : decode prog_1_method_18_code 26 = .ok (.lload_n 2, 1) := by decide +kernel
theorem d_rs_term_27 : decode prog_1_method_18_code 27 = .ok (.invokevirtual 102, 3) := by decide +kernel
theorem d_rs_term_30 : decode prog_1_method_18_code 30 = .ok (.l2i, 1) := by decide +kernel
theorem d_rs_term_31 : decode prog_1_method_18_code 31 = .ok (.ireturn, 1) := by decide +kernel
theorem d_rs_differ_0 : decode prog_1_method_19_code 0 = .ok (.aload_n 0, 1) := by decide +kernel
theorem d_rs_differ_1 : decode prog_1_method_19_code 1 = .ok (.iload_n 1, 1) := by decide +kernel
theorem d_rs_differ_2 : decode prog_1_method_19_code 2 = .ok (.invokevirtual 75, 3) := by decide +kernel
theorem d_rs_differ_5 : decode prog_1_method_19_code 5 = .ok (.ifCond .eq 11, 3) := by decide +kernel
theorem d_rs_differ_8 : decode prog_1_method_19_code 8 = .ok (.aload_n 0, 1) := by decide +kernel
theorem d_rs_differ_9 : decode prog_1_method_19_code 9 = .ok (.iload_n 2, 1) := by decide +kernel
theorem d_rs_differ_10 : decode prog_1_method_19_code 10 = .ok (.invokevirtual 75, 3) := by decide +kernel
theorem d_rs_differ_13 : decode prog_1_method_19_code 13 = .ok (.ifCond .ne 6, 3) := by decide +kernel
theorem d_rs_differ_16 : decode prog_1_method_19_code 16 = .ok (.bipush (-2), 2) := by decide +kernel
theorem d_rs_differ_18 : decode prog_1_method_19_code 18 = .ok (.ireturn, 1) := by decide +kernel
theorem d_rs_differ_19 : decode prog_1_method_19_code 19 = .ok (.aload_n 0, 1) := by decide +kernel
theorem d_rs_differ_20 : decode prog_1_method_19_code 20 = .ok (.getfield 11, 3) := by decide +kernel
theorem d_rs_differ_23 : decode prog_1_method_19_code 23 = .ok (.iload_n 1, 1) := by decide +kernel
theorem d_rs_differ_24 : decode prog_1_method_19_code 24 = .ok (.aaload, 1) := by decide +kernel
theorem d_rs_differ_25 : decode prog_1_method_19_code 25 = .ok (.astore_n 3, 1) := by decide +kernel
theorem d_rs_differ_26 : decode prog_1_method_19_code 26 = .ok (.aload_n 0, 1) := by decide +kernel
theorem d_rs_differ_27 : decode prog_1_method_19_code 27 = .ok (.getfield 11, 3) := by decide +kernel
theorem d_rs_differ_30 : decode prog_1_method_19_code 30 = .ok (.iload_n 2, 1) := by decide +kernel
theorem d_rs_differ_31 : decode prog_1_method_19_code 31 = .ok (.aaload, 1) := by decide +kernel
theorem d_rs_differ_32 : decode prog_1_method_19_code 32 = .ok (.astore 4, 2) := by decide +kernel
theorem d_rs_differ_34 : decode prog_1_method_19_code 34 = .ok (.iconst 0, 1) := by decide +kernel
theorem d_rs_differ_35 : decode prog_1_method_19_code 35 = .ok (.istore 5, 2) := by decide +kernel
theorem d_rs_differ_37 : decode prog_1_method_19_code 37 = .ok (.iload 5, 2) := by decide +kernel
theorem d_rs_differ_39 : decode prog_1_method_19_code 39 = .ok (.bipush 48, 2) := by decide +kernel
theorem d_rs_differ_41 : decode prog_1_method_19_code 41 = .ok (.if_icmp .ge 31, 3) := by decide +kernel
theorem d_rs_differ_44 : decode prog_1_method_19_code 44 = .ok (.aload_n 3, 1) := by decide +kernel
theorem d_rs_differ_45 : decode prog_1_method_19_code 45 = .ok (.getfield 81, 3) := by decide +kernel
theorem d_rs_differ_48 : decode prog_1_method_19_code 48 = .ok (.iload 5, 2) := by decide +kernel
theorem d_rs_differ_50 : decode prog_1_method_19_code 50 = .ok (.laload, 1) := by decide +kernel
theorem d_rs_differ_51 : decode prog_1_method_19_code 51 = .ok (.aload 4, 2) := by decide +kernel
theorem d_rs_differ_53 : decode prog_1_method_19_code 53 = .ok (.getfield 81, 3) := by decide +kernel
theorem d_rs_differ_56 : decode prog_1_method_19_code 56 = .ok (.iload 5, 2) := by decide +kernel
theorem d_rs_differ_58 : decode prog_1_method_19_code 58 = .ok (.laload, 1) := by decide +kernel
theorem d_rs_differ_59 : decode prog_1_method_19_code 59 = .ok (.lcmp, 1) := by decide +kernel
theorem d_rs_differ_60 : decode prog_1_method_19_code 60 = .ok (.ifCond .eq 6, 3) := by decide +kernel
theorem d_rs_differ_63 : decode prog_1_method_19_code 63 = .ok (.iload 5, 2) := by decide +kernel
theorem d_rs_differ_65 : decode prog_1_method_19_code 65 = .ok (.ireturn, 1) := by decide +kernel
theorem d_rs_differ_66 : decode prog_1_method_19_code 66 = .ok (.iinc 5 1, 3) := by decide +kernel
theorem d_rs_differ_69 : decode prog_1_method_19_code 69 = .ok (.goto (-32), 3) := by decide +kernel
theorem d_rs_differ_72 : decode prog_1_method_19_code 72 = .ok (.iconst (-1), 1) := by decide +kernel
theorem d_rs_differ_73 : decode prog_1_method_19_code 73 = .ok (.ireturn, 1) := by decide +kernel
theorem d_rs_obeys_0 : decode prog_1_method_20_code 0 = .ok (.aload_n 0, 1) := by decide +kernel
theorem d_rs_obeys_1 : decode prog_1_method_20_code 1 = .ok (.iload_n 1, 1) := by decide +kernel
theorem d_rs_obeys_2 : decode prog_1_method_20_code 2 = .ok (.invokevirtual 75, 3) := by decide +kernel
theorem d_rs_obeys_5 : decode prog_1_method_20_code 5 = .ok (.ifCond .ne 5, 3) := by decide +kernel
theorem d_rs_obeys_8 : decode prog_1_method_20_code 8 = .ok (.iconst 0, 1) := by decide +kernel
theorem d_rs_obeys_9 : decode prog_1_method_20_code 9 = .ok (.ireturn, 1) := by decide +kernel
theorem d_rs_obeys_10 : decode prog_1_method_20_code 10 = .ok (.aload_n 0, 1) := by decide +kernel
theorem d_rs_obeys_11 : decode prog_1_method_20_code 11 = .ok (.getfield 11, 3) := by decide +kernel
theorem d_rs_obeys_14 : decode prog_1_method_20_code 14 = .ok (.iload_n 1, 1) := by decide +kernel
theorem d_rs_obeys_15 : decode prog_1_method_20_code 15 = .ok (.aaload, 1) := by decide +kernel
theorem d_rs_obeys_16 : decode prog_1_method_20_code 16 = .ok (.astore_n 2, 1) := by decide +kernel
theorem d_rs_obeys_17 : decode prog_1_method_20_code 17 = .ok (.aload_n 0, 1) := by decide +kernel
theorem d_rs_obeys_18 : decode prog_1_method_20_code 18 = .ok (.getfield 51, 3) := by decide +kernel
theorem d_rs_obeys_21 : decode prog_1_method_20_code 21 = .ok (.istore_n 3, 1) := by decide +kernel
theorem d_rs_obeys_22 : decode prog_1_method_20_code 22 = .ok (.iload_n 3, 1) := by decide +kernel
theorem d_rs_obeys_23 : decode prog_1_method_20_code 23 = .ok (.aload_n 0, 1) := by decide +kernel
theorem d_rs_obeys_24 : decode prog_1_method_20_code 24 = .ok (.getfield 51, 3) := by decide +kernel
theorem d_rs_obeys_27 : decode prog_1_method_20_code 27 = .ok (.aload_n 2, 1) := by decide +kernel
theorem d_rs_obeys_28 : decode prog_1_method_20_code 28 = .ok (.getfield 78, 3) := by decide +kernel
theorem d_rs_obeys_31 : decode prog_1_method_20_code 31 = .ok (.iadd, 1) := by decide +kernel
theorem d_rs_obeys_32 : decode prog_1_method_20_code 32 = .ok (.if_icmp .ge 37, 3) := by decide +kernel
theorem d_rs_obeys_35 : decode prog_1_method_20_code 35 = .ok (.aload_n 2, 1) := by decide +kernel
theorem d_rs_obeys_36 : decode prog_1_method_20_code 36 = .ok (.getfield 81, 3) := by decide +kernel
theorem d_rs_obeys_39 : decode prog_1_method_20_code 39 = .ok (.iload_n 3, 1) := by decide +kernel
theorem d_rs_obeys_40 : decode prog_1_method_20_code 40 = .ok (.laload, 1) := by decide +kernel
theorem d_rs_obeys_41 : decode prog_1_method_20_code 41 = .ok (.aload_n 0, 1) := by decide +kernel
theorem d_rs_obeys_42 : decode prog_1_method_20_code 42 = .ok (.getfield 15, 3) := by decide +kernel
theorem d_rs_obeys_45 : decode prog_1_method_20_code 45 = .ok (.aload_n 0, 1) := by decide +kernel
theorem d_rs_obeys_46 : decode prog_1_method_20_code 46 = .ok (.getfield 51, 3) := by decide +kernel
theorem d_rs_obeys_49 : decode prog_1_method_20_code 49 = .ok (.aload_n 2, 1) := by decide +kernel
theorem d_rs_obeys_50 : decode prog_1_method_20_code 50 = .ok (.getfield 81, 3) := by decide +kernel
theorem d_rs_obeys_53 : decode prog_1_method_20_code 53 = .ok (.iload_n 3, 1) := by decide +kernel
theorem d_rs_obeys_54 : decode prog_1_method_20_code 54 = .ok (.invokestatic 68, 3) := by decide +kernel
theorem d_rs_obeys_57 : decode prog_1_method_20_code 57 = .ok (.lcmp, 1) := by decide +kernel
theorem d_rs_obeys_58 : decode prog_1_method_20_code 58 = .ok (.ifCond .eq 5, 3) := by decide +kernel
theorem d_rs_obeys_61 : decode prog_1_method_20_code 61 = .ok (.iconst 0, 1) := by decide +kernel
theorem d_rs_obeys_62 : decode prog_1_method_20_code 62 = .ok (.ireturn, 1) := by decide +kernel
theorem d_rs_obeys_63 : decode prog_1_method_20_code 63 = .ok (.iinc 3 1, 3) := by decide +kernel
theorem d_rs_obeys_66 : decode prog_1_method_20_code 66 = .ok (.goto (-44), 3) := by decide +kernel
theorem d_rs_obeys_69 : decode prog_1_method_20_code 69 = .ok (.iconst 1, 1) := by decide +kernel
theorem d_rs_obeys_70 : decode prog_1_method_20_code 70 = .ok (.ireturn, 1) := by decide +kernel
theorem d_rs_shared_0 : decode prog_1_method_21_code 0 = .ok (.aload_n 0, 1) := by decide +kernel
theorem d_rs_shared_1 : decode prog_1_method_21_code 1 = .ok (.iload_n 1, 1) := by decide +kernel
theorem d_rs_shared_2 : decode prog_1_method_21_code 2 = .ok (.invokevirtual 75, 3) := by decide +kernel
theorem d_rs_shared_5 : decode prog_1_method_21_code 5 = .ok (.ifCond .eq 11, 3) := by decide +kernel
theorem d_rs_shared_8 : decode prog_1_method_21_code 8 = .ok (.aload_n 0, 1) := by decide +kernel
theorem d_rs_shared_9 : decode prog_1_method_21_code 9 = .ok (.iload_n 2, 1) := by decide +kernel
theorem d_rs_shared_10 : decode prog_1_method_21_code 10 = .ok (.invokevirtual 75, 3) := by decide +kernel
theorem d_rs_shared_13 : decode prog_1_method_21_code 13 = .ok (.ifCond .ne 5, 3) := by decide +kernel
theorem d_rs_shared_16 : decode prog_1_method_21_code 16 = .ok (.iconst (-1), 1) := by decide +kernel
theorem d_rs_shared_17 : decode prog_1_method_21_code 17 = .ok (.ireturn, 1) := by decide +kernel
theorem d_rs_shared_18 : decode prog_1_method_21_code 18 = .ok (.aload_n 0, 1) := by decide +kernel
theorem d_rs_shared_19 : decode prog_1_method_21_code 19 = .ok (.getfield 11, 3) := by decide +kernel
theorem d_rs_shared_22 : decode prog_1_method_21_code 22 = .ok (.iload_n 1, 1) := by decide +kernel
theorem d_rs_shared_23 : decode prog_1_method_21_code 23 = .ok (.aaload, 1) := by decide +kernel
theorem d_rs_shared_24 : decode prog_1_method_21_code 24 = .ok (.astore_n 3, 1) := by decide +kernel
theorem d_rs_shared_25 : decode prog_1_method_21_code 25 = .ok (.aload_n 0, 1) := by decide +kernel
theorem d_rs_shared_26 : decode prog_1_method_21_code 26 = .ok (.getfield 11, 3) := by decide +kernel
theorem d_rs_shared_29 : decode prog_1_method_21_code 29 = .ok (.iload_n 2, 1) := by decide +kernel
theorem d_rs_shared_30 : decode prog_1_method_21_code 30 = .ok (.aaload, 1) := by decide +kernel
theorem d_rs_shared_31 : decode prog_1_method_21_code 31 = .ok (.astore 4, 2) := by decide +kernel
theorem d_rs_shared_33 : decode prog_1_method_21_code 33 = .ok (.aload_n 3, 1) := by decide +kernel
theorem d_rs_shared_34 : decode prog_1_method_21_code 34 = .ok (.getfield 78, 3) := by decide +kernel
theorem d_rs_shared_37 : decode prog_1_method_21_code 37 = .ok (.aload 4, 2) := by decide +kernel
theorem d_rs_shared_39 : decode prog_1_method_21_code 39 = .ok (.getfield 78, 3) := by decide +kernel
theorem d_rs_shared_42 : decode prog_1_method_21_code 42 = .ok (.iadd, 1) := by decide +kernel
theorem d_rs_shared_43 : decode prog_1_method_21_code 43 = .ok (.aload_n 0, 1) := by decide +kernel
theorem d_rs_shared_44 : decode prog_1_method_21_code 44 = .ok (.getfield 42, 3) := by decide +kernel
theorem d_rs_shared_47 : decode prog_1_method_21_code 47 = .ok (.aload_n 3, 1) := by decide +kernel
theorem d_rs_shared_48 : decode prog_1_method_21_code 48 = .ok (.aload 4, 2) := by decide +kernel
theorem d_rs_shared_50 : decode prog_1_method_21_code 50 = .ok (.invokevirtual 106, 3) := by decide +kernel
theorem d_rs_shared_53 : decode prog_1_method_21_code 53 = .ok (.isub, 1) := by decide +kernel
theorem d_rs_shared_54 : decode prog_1_method_21_code 54 = .ok (.ireturn, 1) := by decide +kernel
theorem d_rs_isListed_0 : decode prog_1_method_22_code 0 = .ok (.iload_n 1, 1) := by decide +kernel
theorem d_rs_isListed_1 : decode prog_1_method_22_code 1 = .ok (.ifCond .lt 15, 3) := by decide +kernel
theorem d_rs_isListed_4 : decode prog_1_method_22_code 4 = .ok (.iload_n 1, 1) := by decide +kernel
theorem d_rs_isListed_5 : decode prog_1_method_22_code 5 = .ok (.aload_n 0, 1) := by decide +kernel
theorem d_rs_isListed_6 : decode prog_1_method_22_code 6 = .ok (.getfield 47, 3) := by decide +kernel
theorem d_rs_isListed_9 : decode prog_1_method_22_code 9 = .ok (.if_icmp .ge 7, 3) := by decide +kernel
theorem d_rs_isListed_12 : decode prog_1_method_22_code 12 = .ok (.iconst 1, 1) := by decide +kernel
theorem d_rs_isListed_13 : decode prog_1_method_22_code 13 = .ok (.goto 4, 3) := by decide +kernel
theorem d_rs_isListed_16 : decode prog_1_method_22_code 16 = .ok (.iconst 0, 1) := by decide +kernel
theorem d_rs_isListed_17 : decode prog_1_method_22_code 17 = .ok (.ireturn, 1) := by decide +kernel
theorem d_rs_numberFor_0 : decode prog_1_method_23_code 0 = .ok (.aload_n 0, 1) := by decide +kernel
theorem d_rs_numberFor_1 : decode prog_1_method_23_code 1 = .ok (.getfield 47, 3) := by decide +kernel
theorem d_rs_numberFor_4 : decode prog_1_method_23_code 4 = .ok (.bipush 20, 2) := by decide +kernel
theorem d_rs_numberFor_6 : decode prog_1_method_23_code 6 = .ok (.if_icmp .lt 6, 3) := by decide +kernel
theorem d_rs_numberFor_9 : decode prog_1_method_23_code 9 = .ok (.bipush (-2), 2) := by decide +kernel
theorem d_rs_numberFor_11 : decode prog_1_method_23_code 11 = .ok (.ireturn, 1) := by decide +kernel
theorem d_rs_numberFor_12 : decode prog_1_method_23_code 12 = .ok (.iload_n 1, 1) := by decide +kernel
theorem d_rs_numberFor_13 : decode prog_1_method_23_code 13 = .ok (.bipush 24, 2) := by decide +kernel
theorem d_rs_numberFor_15 : decode prog_1_method_23_code 15 = .ok (.if_icmp .le 8, 3) := by decide +kernel
theorem d_rs_numberFor_18 : decode prog_1_method_23_code 18 = .ok (.bipush (-3), 2) := by decide +kernel
theorem d_rs_numberFor_20 : decode prog_1_method_23_code 20 = .ok (.goto 7, 3) := by decide +kernel
theorem d_rs_numberFor_23 : decode prog_1_method_23_code 23 = .ok (.aload_n 0, 1) := by decide +kernel
theorem d_rs_numberFor_24 : decode prog_1_method_23_code 24 = .ok (.getfield 47, 3) := by decide +kernel
theorem d_rs_numberFor_27 : decode prog_1_method_23_code 27 = .ok (.ireturn, 1) := by decide +kernel
theorem d_rs_othersFit_0 : decode prog_1_method_24_code 0 = .ok (.iconst 2, 1) := by decide +kernel
theorem d_rs_othersFit_1 : decode prog_1_method_24_code 1 = .ok (.iload_n 1, 1) := by decide +kernel
theorem d_rs_othersFit_2 : decode prog_1_method_24_code 2 = .ok (.imul, 1) := by decide +kernel
theorem d_rs_othersFit_3 : decode prog_1_method_24_code 3 = .ok (.istore_n 2, 1) := by decide +kernel
theorem d_rs_othersFit_4 : decode prog_1_method_24_code 4 = .ok (.iload_n 2, 1) := by decide +kernel
theorem d_rs_othersFit_5 : decode prog_1_method_24_code 5 = .ok (.aload_n 0, 1) := by decide +kernel
theorem d_rs_othersFit_6 : decode prog_1_method_24_code 6 = .ok (.getfield 51, 3) := by decide +kernel
theorem d_rs_othersFit_9 : decode prog_1_method_24_code 9 = .ok (.if_icmp .ge 34, 3) := by decide +kernel
theorem d_rs_othersFit_12 : decode prog_1_method_24_code 12 = .ok (.aload_n 0, 1) := by decide +kernel
theorem d_rs_othersFit_13 : decode prog_1_method_24_code 13 = .ok (.getfield 15, 3) := by decide +kernel
theorem d_rs_othersFit_16 : decode prog_1_method_24_code 16 = .ok (.iload_n 2, 1) := by decide +kernel
theorem d_rs_othersFit_17 : decode prog_1_method_24_code 17 = .ok (.laload, 1) := by decide +kernel
theorem d_rs_othersFit_18 : decode prog_1_method_24_code 18 = .ok (.aload_n 0, 1) := by decide +kernel
theorem d_rs_othersFit_19 : decode prog_1_method_24_code 19 = .ok (.getfield 15, 3) := by decide +kernel
theorem d_rs_othersFit_22 : decode prog_1_method_24_code 22 = .ok (.iload_n 1, 1) := by decide +kernel
theorem d_rs_othersFit_23 : decode prog_1_method_24_code 23 = .ok (.aload_n 0, 1) := by decide +kernel
theorem d_rs_othersFit_24 : decode prog_1_method_24_code 24 = .ok (.getfield 15, 3) := by decide +kernel
theorem d_rs_othersFit_27 : decode prog_1_method_24_code 27 = .ok (.iload_n 2, 1) := by decide +kernel
theorem d_rs_othersFit_28 : decode prog_1_method_24_code 28 = .ok (.invokestatic 68, 3) := by decide +kernel
theorem d_rs_othersFit_31 : decode prog_1_method_24_code 31 = .ok (.lcmp, 1) := by decide +kernel
theorem d_rs_othersFit_32 : decode prog_1_method_24_code 32 = .ok (.ifCond .eq 5, 3) := by decide +kernel
theorem d_rs_othersFit_35 : decode prog_1_method_24_code 35 = .ok (.iconst 0, 1) := by decide +kernel
theorem d_rs_othersFit_36 : decode prog_1_method_24_code 36 = .ok (.ireturn, 1) := by decide +kernel
theorem d_rs_othersFit_37 : decode prog_1_method_24_code 37 = .ok (.iinc 2 1, 3) := by decide +kernel
theorem d_rs_othersFit_40 : decode prog_1_method_24_code 40 = .ok (.goto (-36), 3) := by decide +kernel
theorem d_rs_othersFit_43 : decode prog_1_method_24_code 43 = .ok (.iconst 1, 1) := by decide +kernel
theorem d_rs_othersFit_44 : decode prog_1_method_24_code 44 = .ok (.ireturn, 1) := by decide +kernel
theorem d_rs_enlist_0 : decode prog_1_method_25_code 0 = .ok (.aload_n 0, 1) := by decide +kernel
theorem d_rs_enlist_1 : decode prog_1_method_25_code 1 = .ok (.getfield 11, 3) := by decide +kernel
theorem d_rs_enlist_4 : decode prog_1_method_25_code 4 = .ok (.aload_n 0, 1) := by decide +kernel
theorem d_rs_enlist_5 : decode prog_1_method_25_code 5 = .ok (.getfield 47, 3) := by decide +kernel
theorem d_rs_enlist_8 : decode prog_1_method_25_code 8 = .ok (.aaload, 1) := by decide +kernel
theorem d_rs_enlist_9 : decode prog_1_method_25_code 9 = .ok (.astore_n 2, 1) := by decide +kernel
theorem d_rs_enlist_10 : decode prog_1_method_25_code 10 = .ok (.aload_n 0, 1) := by decide +kernel
theorem d_rs_enlist_11 : decode prog_1_method_25_code 11 = .ok (.getfield 28, 3) := by decide +kernel
theorem d_rs_enlist_14 : decode prog_1_method_25_code 14 = .ok (.aload_n 0, 1) := by decide +kernel
theorem d_rs_enlist_15 : decode prog_1_method_25_code 15 = .ok (.getfield 19, 3) := by decide +kernel
theorem d_rs_enlist_18 : decode prog_1_method_25_code 18 = .ok (.iconst 2, 1) := by decide +kernel
theorem d_rs_enlist_19 : decode prog_1_method_25_code 19 = .ok (.iload_n 1, 1) := by decide +kernel
theorem d_rs_enlist_20 : decode prog_1_method_25_code 20 = .ok (.imul, 1) := by decide +kernel
theorem d_rs_enlist_21 : decode prog_1_method_25_code 21 = .ok (.aload_n 2, 1) := by decide +kernel
theorem d_rs_enlist_22 : decode prog_1_method_25_code 22 = .ok (.invokevirtual 110, 3) := by decide +kernel
theorem d_rs_enlist_25 : decode prog_1_method_25_code 25 = .ok (.iconst 0, 1) := by decide +kernel
theorem d_rs_enlist_26 : decode prog_1_method_25_code 26 = .ok (.istore_n 3, 1) := by decide +kernel
theorem d_rs_enlist_27 : decode prog_1_method_25_code 27 = .ok (.iload_n 3, 1) := by decide +kernel
theorem d_rs_enlist_28 : decode prog_1_method_25_code 28 = .ok (.aload_n 2, 1) := by decide +kernel
theorem d_rs_enlist_29 : decode prog_1_method_25_code 29 = .ok (.getfield 78, 3) := by decide +kernel
theorem d_rs_enlist_32 : decode prog_1_method_25_code 32 = .ok (.if_icmp .ge 21, 3) := by decide +kernel
theorem d_rs_enlist_35 : decode prog_1_method_25_code 35 = .ok (.aload_n 2, 1) := by decide +kernel
theorem d_rs_enlist_36 : decode prog_1_method_25_code 36 = .ok (.getfield 81, 3) := by decide +kernel
theorem d_rs_enlist_39 : decode prog_1_method_25_code 39 = .ok (.iload_n 3, 1) := by decide +kernel
theorem d_rs_enlist_40 : decode prog_1_method_25_code 40 = .ok (.aload_n 0, 1) := by decide +kernel
theorem d_rs_enlist_41 : decode prog_1_method_25_code 41 = .ok (.getfield 19, 3) := by decide +kernel
theorem d_rs_enlist_44 : decode prog_1_method_25_code 44 = .ok (.iload_n 3, 1) := by decide +kernel
theorem d_rs_enlist_45 : decode prog_1_method_25_code 45 = .ok (.laload, 1) := by decide +kernel
theorem d_rs_enlist_46 : decode prog_1_method_25_code 46 = .ok (.lastore, 1) := by decide +kernel
theorem d_rs_enlist_47 : decode prog_1_method_25_code 47 = .ok (.iinc 3 1, 3) := by decide +kernel
theorem d_rs_enlist_50 : decode prog_1_method_25_code 50 = .ok (.goto (-23), 3) := by decide +kernel
theorem d_rs_enlist_53 : decode prog_1_method_25_code 53 = .ok (.aload_n 2, 1) := by decide +kernel
theorem d_rs_enlist_54 : decode prog_1_method_25_code 54 = .ok (.aload_n 2, 1) := by decide +kernel
theorem d_rs_enlist_55 : decode prog_1_method_25_code 55 = .ok (.getfield 81, 3) := by decide +kernel
theorem d_rs_enlist_58 : decode prog_1_method_25_code 58 = .ok (.bipush 88, 2) := by decide +kernel
theorem d_rs_enlist_60 : decode prog_1_method_25_code 60 = .ok (.invokevirtual 95, 3) := by decide +kernel
theorem d_rs_enlist_63 : decode prog_1_method_25_code 63 = .ok (.aload_n 0, 1) := by decide +kernel
theorem d_rs_enlist_64 : decode prog_1_method_25_code 64 = .ok (.dup, 1) := by decide +kernel
theorem d_rs_enlist_65 : decode prog_1_method_25_code 65 = .ok (.getfield 47, 3) := by decide +kernel
theorem d_rs_enlist_68 : decode prog_1_method_25_code 68 = .ok (.iconst 1, 1) := by decide +kernel
theorem d_rs_enlist_69 : decode prog_1_method_25_code 69 = .ok (.iadd, 1) := by decide +kernel
theorem d_rs_enlist_70 : decode prog_1_method_25_code 70 = .ok (.putfield 47, 3) := by decide +kernel
theorem d_rs_enlist_73 : decode prog_1_method_25_code 73 = .ok (.aload_n 0, 1) := by decide +kernel
theorem d_rs_enlist_74 : decode prog_1_method_25_code 74 = .ok (.getfield 47, 3) := by decide +kernel
theorem d_rs_enlist_77 : decode prog_1_method_25_code 77 = .ok (.iconst 1, 1) := by decide +kernel
theorem d_rs_enlist_78 : decode prog_1_method_25_code 78 = .ok (.isub, 1) := by decide +kernel
theorem d_rs_enlist_79 : decode prog_1_method_25_code 79 = .ok (.ireturn, 1) := by decide +kernel
