theorem gm_d_Row_at_0 : decode gm_b_Row_at 0 = .ok (.iload_n 1, 1) := by decide +kernel
theorem gm_d_Row_at_1 : decode gm_b_Row_at 1 = .ok (.ifCond .lt 20, 3) := by decide +kernel
theorem gm_d_Row_at_4 : decode gm_b_Row_at 4 = .ok (.iload_n 1, 1) := by decide +kernel
theorem gm_d_Row_at_5 : decode gm_b_Row_at 5 = .ok (.aload_n 0, 1) := by decide +kernel
theorem gm_d_Row_at_6 : decode gm_b_Row_at 6 = .ok (.getfield 9, 3) := by decide +kernel
theorem gm_d_Row_at_9 : decode gm_b_Row_at 9 = .ok (.if_icmp .ge 12, 3) := by decide +kernel
theorem gm_d_Row_at_12 : decode gm_b_Row_at 12 = .ok (.aload_n 0, 1) := by decide +kernel
theorem gm_d_Row_at_13 : decode gm_b_Row_at 13 = .ok (.getfield 15, 3) := by decide +kernel
theorem gm_d_Row_at_16 : decode gm_b_Row_at 16 = .ok (.iload_n 1, 1) := by decide +kernel
theorem gm_d_Row_at_17 : decode gm_b_Row_at 17 = .ok (.caload, 1) := by decide +kernel
theorem gm_d_Row_at_18 : decode gm_b_Row_at 18 = .ok (.goto 4, 3) := by decide +kernel
theorem gm_d_Row_at_21 : decode gm_b_Row_at 21 = .ok (.iconst (-1), 1) := by decide +kernel
theorem gm_d_Row_at_22 : decode gm_b_Row_at 22 = .ok (.ireturn, 1) := by decide +kernel
theorem gm_d_Reader_isName_0 : decode gm_b_Reader_isName 0 = .ok (.iload_n 0, 1) := by decide +kernel
theorem gm_d_Reader_isName_1 : decode gm_b_Reader_isName 1 = .ok (.bipush 65, 2) := by decide +kernel
theorem gm_d_Reader_isName_3 : decode gm_b_Reader_isName 3 = .ok (.if_icmp .lt 13, 3) := by decide +kernel
theorem gm_d_Reader_isName_6 : decode gm_b_Reader_isName 6 = .ok (.iload_n 0, 1) := by decide +kernel
theorem gm_d_Reader_isName_7 : decode gm_b_Reader_isName 7 = .ok (.bipush 90, 2) := by decide +kernel
theorem gm_d_Reader_isName_9 : decode gm_b_Reader_isName 9 = .ok (.if_icmp .gt 7, 3) := by decide +kernel
theorem gm_d_Reader_isName_12 : decode gm_b_Reader_isName 12 = .ok (.iconst 1, 1) := by decide +kernel
theorem gm_d_Reader_isName_13 : decode gm_b_Reader_isName 13 = .ok (.goto 4, 3) := by decide +kernel
theorem gm_d_Reader_isName_16 : decode gm_b_Reader_isName 16 = .ok (.iconst 0, 1) := by decide +kernel
theorem gm_d_Reader_isName_17 : decode gm_b_Reader_isName 17 = .ok (.ireturn, 1) := by decide +kernel
theorem gm_d_Reader_readRule_0 : decode gm_b_Reader_readRule 0 = .ok (.aload_n 0, 1) := by decide +kernel
theorem gm_d_Reader_readRule_1 : decode gm_b_Reader_readRule 1 = .ok (.getfield 26, 3) := by decide +kernel
theorem gm_d_Reader_readRule_4 : decode gm_b_Reader_readRule 4 = .ok (.aload_n 0, 1) := by decide +kernel
theorem gm_d_Reader_readRule_5 : decode gm_b_Reader_readRule 5 = .ok (.getfield 19, 3) := by decide +kernel
theorem gm_d_Reader_readRule_8 : decode gm_b_Reader_readRule 8 = .ok (.invokevirtual 47, 3) := by decide +kernel
theorem gm_d_Reader_readRule_11 : decode gm_b_Reader_readRule 11 = .ok (.istore_n 1, 1) := by decide +kernel
theorem gm_d_Reader_readRule_12 : decode gm_b_Reader_readRule 12 = .ok (.iload_n 1, 1) := by decide +kernel
theorem gm_d_Reader_readRule_13 : decode gm_b_Reader_readRule 13 = .ok (.invokestatic 51, 3) := by decide +kernel
theorem gm_d_Reader_readRule_16 : decode gm_b_Reader_readRule 16 = .ok (.ifCond .eq 15, 3) := by decide +kernel
theorem gm_d_Reader_readRule_19 : decode gm_b_Reader_readRule 19 = .ok (.aload_n 0, 1) := by decide +kernel
theorem gm_d_Reader_readRule_20 : decode gm_b_Reader_readRule 20 = .ok (.getfield 30, 3) := by decide +kernel
theorem gm_d_Reader_readRule_23 : decode gm_b_Reader_readRule 23 = .ok (.iload_n 1, 1) := by decide +kernel
theorem gm_d_Reader_readRule_24 : decode gm_b_Reader_readRule 24 = .ok (.invokevirtual 55, 3) := by decide +kernel
theorem gm_d_Reader_readRule_27 : decode gm_b_Reader_readRule 27 = .ok (.iconst (-1), 1) := by decide +kernel
theorem gm_d_Reader_readRule_28 : decode gm_b_Reader_readRule 28 = .ok (.if_icmp .eq 9, 3) := by decide +kernel
theorem gm_d_Reader_readRule_31 : decode gm_b_Reader_readRule 31 = .ok (.aload_n 0, 1) := by decide +kernel
theorem gm_d_Reader_readRule_32 : decode gm_b_Reader_readRule 32 = .ok (.iconst 1, 1) := by decide +kernel
theorem gm_d_Reader_readRule_33 : decode gm_b_Reader_readRule 33 = .ok (.putfield 22, 3) := by decide +kernel
theorem gm_d_Reader_readRule_36 : decode gm_b_Reader_readRule 36 = .ok (.return_, 1) := by decide +kernel
theorem gm_d_Reader_readRule_37 : decode gm_b_Reader_readRule 37 = .ok (.aload_n 0, 1) := by decide +kernel
theorem gm_d_Reader_readRule_38 : decode gm_b_Reader_readRule 38 = .ok (.dup, 1) := by decide +kernel
theorem gm_d_Reader_readRule_39 : decode gm_b_Reader_readRule 39 = .ok (.getfield 19, 3) := by decide +kernel
theorem gm_d_Reader_readRule_42 : decode gm_b_Reader_readRule 42 = .ok (.iconst 1, 1) := by decide +kernel
theorem gm_d_Reader_readRule_43 : decode gm_b_Reader_readRule 43 = .ok (.iadd, 1) := by decide +kernel
theorem gm_d_Reader_readRule_44 : decode gm_b_Reader_readRule 44 = .ok (.putfield 19, 3) := by decide +kernel
theorem gm_d_Reader_readRule_47 : decode gm_b_Reader_readRule 47 = .ok (.aload_n 0, 1) := by decide +kernel
theorem gm_d_Reader_readRule_48 : decode gm_b_Reader_readRule 48 = .ok (.bipush 61, 2) := by decide +kernel
theorem gm_d_Reader_readRule_50 : decode gm_b_Reader_readRule 50 = .ok (.invokevirtual 58, 3) := by decide +kernel
theorem gm_d_Reader_readRule_53 : decode gm_b_Reader_readRule 53 = .ok (.aload_n 0, 1) := by decide +kernel
theorem gm_d_Reader_readRule_54 : decode gm_b_Reader_readRule 54 = .ok (.iconst 0, 1) := by decide +kernel
theorem gm_d_Reader_readRule_55 : decode gm_b_Reader_readRule 55 = .ok (.invokevirtual 62, 3) := by decide +kernel
theorem gm_d_Reader_readRule_58 : decode gm_b_Reader_readRule 58 = .ok (.aload_n 0, 1) := by decide +kernel
theorem gm_d_Reader_readRule_59 : decode gm_b_Reader_readRule 59 = .ok (.bipush 59, 2) := by decide +kernel
theorem gm_d_Reader_readRule_61 : decode gm_b_Reader_readRule 61 = .ok (.invokevirtual 58, 3) := by decide +kernel
theorem gm_d_Reader_readRule_64 : decode gm_b_Reader_readRule 64 = .ok (.aload_n 0, 1) := by decide +kernel
theorem gm_d_Reader_readRule_65 : decode gm_b_Reader_readRule 65 = .ok (.getfield 22, 3) := by decide +kernel
theorem gm_d_Reader_readRule_68 : decode gm_b_Reader_readRule 68 = .ok (.ifCond .ne 25, 3) := by decide +kernel
theorem gm_d_Reader_readRule_71 : decode gm_b_Reader_readRule 71 = .ok (.aload_n 0, 1) := by decide +kernel
theorem gm_d_Reader_readRule_72 : decode gm_b_Reader_readRule 72 = .ok (.getfield 30, 3) := by decide +kernel
theorem gm_d_Reader_readRule_75 : decode gm_b_Reader_readRule 75 = .ok (.iload_n 1, 1) := by decide +kernel
theorem gm_d_Reader_readRule_76 : decode gm_b_Reader_readRule 76 = .ok (.aload_n 0, 1) := by decide +kernel
theorem gm_d_Reader_readRule_77 : decode gm_b_Reader_readRule 77 = .ok (.getfield 30, 3) := by decide +kernel
theorem gm_d_Reader_readRule_80 : decode gm_b_Reader_readRule 80 = .ok (.getfield 66, 3) := by decide +kernel
theorem gm_d_Reader_readRule_83 : decode gm_b_Reader_readRule 83 = .ok (.iconst 1, 1) := by decide +kernel
theorem gm_d_Reader_readRule_84 : decode gm_b_Reader_readRule 84 = .ok (.isub, 1) := by decide +kernel
theorem gm_d_Reader_readRule_85 : decode gm_b_Reader_readRule 85 = .ok (.invokevirtual 67, 3) := by decide +kernel
theorem gm_d_Reader_readRule_88 : decode gm_b_Reader_readRule 88 = .ok (.aload_n 0, 1) := by decide +kernel
theorem gm_d_Reader_readRule_89 : decode gm_b_Reader_readRule 89 = .ok (.iconst 0, 1) := by decide +kernel
theorem gm_d_Reader_readRule_90 : decode gm_b_Reader_readRule 90 = .ok (.putfield 15, 3) := by decide +kernel
theorem gm_d_Reader_readRule_93 : decode gm_b_Reader_readRule 93 = .ok (.return_, 1) := by decide +kernel
theorem gm_d_Reader_read_0 : decode gm_b_Reader_read 0 = .ok (.aload_n 0, 1) := by decide +kernel
theorem gm_d_Reader_read_1 : decode gm_b_Reader_read 1 = .ok (.getfield 30, 3) := by decide +kernel
theorem gm_d_Reader_read_4 : decode gm_b_Reader_read 4 = .ok (.invokevirtual 34, 3) := by decide +kernel
theorem gm_d_Reader_read_7 : decode gm_b_Reader_read 7 = .ok (.aload_n 0, 1) := by decide +kernel
theorem gm_d_Reader_read_8 : decode gm_b_Reader_read 8 = .ok (.iconst 0, 1) := by decide +kernel
theorem gm_d_Reader_read_9 : decode gm_b_Reader_read 9 = .ok (.putfield 15, 3) := by decide +kernel
theorem gm_d_Reader_read_12 : decode gm_b_Reader_read 12 = .ok (.aload_n 0, 1) := by decide +kernel
theorem gm_d_Reader_read_13 : decode gm_b_Reader_read 13 = .ok (.iconst 0, 1) := by decide +kernel
theorem gm_d_Reader_read_14 : decode gm_b_Reader_read 14 = .ok (.putfield 19, 3) := by decide +kernel
theorem gm_d_Reader_read_17 : decode gm_b_Reader_read 17 = .ok (.aload_n 0, 1) := by decide +kernel
theorem gm_d_Reader_read_18 : decode gm_b_Reader_read 18 = .ok (.iconst 0, 1) := by decide +kernel
theorem gm_d_Reader_read_19 : decode gm_b_Reader_read 19 = .ok (.putfield 22, 3) := by decide +kernel
theorem gm_d_Reader_read_22 : decode gm_b_Reader_read 22 = .ok (.aload_n 0, 1) := by decide +kernel
theorem gm_d_Reader_read_23 : decode gm_b_Reader_read 23 = .ok (.invokevirtual 39, 3) := by decide +kernel
theorem gm_d_Reader_read_26 : decode gm_b_Reader_read 26 = .ok (.iconst 1, 1) := by decide +kernel
theorem gm_d_Reader_read_27 : decode gm_b_Reader_read 27 = .ok (.istore_n 1, 1) := by decide +kernel
theorem gm_d_Reader_read_28 : decode gm_b_Reader_read 28 = .ok (.iload_n 1, 1) := by decide +kernel
theorem gm_d_Reader_read_29 : decode gm_b_Reader_read 29 = .ok (.bipush 8, 2) := by decide +kernel
theorem gm_d_Reader_read_31 : decode gm_b_Reader_read 31 = .ok (.if_icmp .ge 34, 3) := by decide +kernel
theorem gm_d_Reader_read_34 : decode gm_b_Reader_read 34 = .ok (.aload_n 0, 1) := by decide +kernel
theorem gm_d_Reader_read_35 : decode gm_b_Reader_read 35 = .ok (.getfield 22, 3) := by decide +kernel
theorem gm_d_Reader_read_38 : decode gm_b_Reader_read 38 = .ok (.ifCond .ne 27, 3) := by decide +kernel
theorem gm_d_Reader_read_41 : decode gm_b_Reader_read 41 = .ok (.aload_n 0, 1) := by decide +kernel
theorem gm_d_Reader_read_42 : decode gm_b_Reader_read 42 = .ok (.getfield 19, 3) := by decide +kernel
theorem gm_d_Reader_read_45 : decode gm_b_Reader_read 45 = .ok (.aload_n 0, 1) := by decide +kernel
theorem gm_d_Reader_read_46 : decode gm_b_Reader_read 46 = .ok (.getfield 26, 3) := by decide +kernel
theorem gm_d_Reader_read_49 : decode gm_b_Reader_read 49 = .ok (.getfield 42, 3) := by decide +kernel
theorem gm_d_Reader_read_52 : decode gm_b_Reader_read 52 = .ok (.if_icmp .ge 13, 3) := by decide +kernel
theorem gm_d_Reader_read_55 : decode gm_b_Reader_read 55 = .ok (.aload_n 0, 1) := by decide +kernel
theorem gm_d_Reader_read_56 : decode gm_b_Reader_read 56 = .ok (.invokevirtual 39, 3) := by decide +kernel
theorem gm_d_Reader_read_59 : decode gm_b_Reader_read 59 = .ok (.iinc 1 1, 3) := by decide +kernel
theorem gm_d_Reader_read_62 : decode gm_b_Reader_read 62 = .ok (.goto (-34), 3) := by decide +kernel
theorem gm_d_Reader_read_65 : decode gm_b_Reader_read 65 = .ok (.aload_n 0, 1) := by decide +kernel
theorem gm_d_Reader_read_66 : decode gm_b_Reader_read 66 = .ok (.getfield 22, 3) := by decide +kernel
theorem gm_d_Reader_read_69 : decode gm_b_Reader_read 69 = .ok (.ifCond .ne 17, 3) := by decide +kernel
theorem gm_d_Reader_read_72 : decode gm_b_Reader_read 72 = .ok (.aload_n 0, 1) := by decide +kernel
theorem gm_d_Reader_read_73 : decode gm_b_Reader_read 73 = .ok (.getfield 19, 3) := by decide +kernel
theorem gm_d_Reader_read_76 : decode gm_b_Reader_read 76 = .ok (.aload_n 0, 1) := by decide +kernel
theorem gm_d_Reader_read_77 : decode gm_b_Reader_read 77 = .ok (.getfield 26, 3) := by decide +kernel
theorem gm_d_Reader_read_80 : decode gm_b_Reader_read 80 = .ok (.getfield 42, 3) := by decide +kernel
theorem gm_d_Reader_read_83 : decode gm_b_Reader_read 83 = .ok (.if_icmp .ge 10, 3) := by decide +kernel
theorem gm_d_Reader_read_86 : decode gm_b_Reader_read 86 = .ok (.aload_n 0, 1) := by decide +kernel
theorem gm_d_Reader_read_87 : decode gm_b_Reader_read 87 = .ok (.getfield 19, 3) := by decide +kernel
theorem gm_d_Reader_read_90 : decode gm_b_Reader_read 90 = .ok (.goto 4, 3) := by decide +kernel
theorem gm_d_Reader_read_93 : decode gm_b_Reader_read 93 = .ok (.iconst (-1), 1) := by decide +kernel
theorem gm_d_Reader_read_94 : decode gm_b_Reader_read 94 = .ok (.ireturn, 1) := by decide +kernel
theorem gm_d_Tree_reset_0 : decode gm_b_Tree_reset 0 = .ok (.aload_n 0, 1) := by decide +kernel
theorem gm_d_Tree_reset_1 : decode gm_b_Tree_reset 1 = .ok (.iconst 0, 1) := by decide +kernel
theorem gm_d_Tree_reset_2 : decode gm_b_Tree_reset 2 = .ok (.putfield 47, 3) := by decide +kernel
theorem gm_d_Tree_reset_5 : decode gm_b_Tree_reset 5 = .ok (.aload_n 0, 1) := by decide +kernel
theorem gm_d_Tree_reset_6 : decode gm_b_Tree_reset 6 = .ok (.iconst 0, 1) := by decide +kernel
theorem gm_d_Tree_reset_7 : decode gm_b_Tree_reset 7 = .ok (.putfield 51, 3) := by decide +kernel
theorem gm_d_Tree_reset_10 : decode gm_b_Tree_reset 10 = .ok (.aload_n 0, 1) := by decide +kernel
theorem gm_d_Tree_reset_11 : decode gm_b_Tree_reset 11 = .ok (.iconst 0, 1) := by decide +kernel
theorem gm_d_Tree_reset_12 : decode gm_b_Tree_reset 12 = .ok (.putfield 54, 3) := by decide +kernel
theorem gm_d_Tree_reset_15 : decode gm_b_Tree_reset 15 = .ok (.return_, 1) := by decide +kernel
theorem gm_d_GM_compile_0 : decode gm_b_GM_compile 0 = .ok (.aload_n 0, 1) := by decide +kernel
theorem gm_d_GM_compile_1 : decode gm_b_GM_compile 1 = .ok (.aload_n 0, 1) := by decide +kernel
theorem gm_d_GM_compile_2 : decode gm_b_GM_compile 2 = .ok (.getfield 30, 3) := by decide +kernel
theorem gm_d_GM_compile_5 : decode gm_b_GM_compile 5 = .ok (.getfield 60, 3) := by decide +kernel
theorem gm_d_GM_compile_8 : decode gm_b_GM_compile 8 = .ok (.invokevirtual 64, 3) := by decide +kernel
theorem gm_d_GM_compile_11 : decode gm_b_GM_compile 11 = .ok (.putfield 49, 3) := by decide +kernel
theorem gm_d_GM_compile_14 : decode gm_b_GM_compile 14 = .ok (.aload_n 0, 1) := by decide +kernel
theorem gm_d_GM_compile_15 : decode gm_b_GM_compile 15 = .ok (.getfield 49, 3) := by decide +kernel
theorem gm_d_GM_compile_18 : decode gm_b_GM_compile 18 = .ok (.iconst (-1), 1) := by decide +kernel
theorem gm_d_GM_compile_19 : decode gm_b_GM_compile 19 = .ok (.if_icmp .eq 13, 3) := by decide +kernel
theorem gm_d_GM_compile_22 : decode gm_b_GM_compile 22 = .ok (.new 70, 3) := by decide +kernel
theorem gm_d_GM_compile_25 : decode gm_b_GM_compile 25 = .ok (.dup, 1) := by decide +kernel
theorem gm_d_GM_compile_26 : decode gm_b_GM_compile 26 = .ok (.ldc 72, 2) := by decide +kernel
theorem gm_d_GM_compile_28 : decode gm_b_GM_compile 28 = .ok (.invokespecial 74, 3) := by decide +kernel
theorem gm_d_GM_compile_31 : decode gm_b_GM_compile 31 = .ok (.athrow, 1) := by decide +kernel
theorem gm_d_GM_compile_32 : decode gm_b_GM_compile 32 = .ok (.aload_n 0, 1) := by decide +kernel
theorem gm_d_GM_compile_33 : decode gm_b_GM_compile 33 = .ok (.aload_n 0, 1) := by decide +kernel
theorem gm_d_GM_compile_34 : decode gm_b_GM_compile 34 = .ok (.getfield 30, 3) := by decide +kernel
theorem gm_d_GM_compile_37 : decode gm_b_GM_compile 37 = .ok (.getfield 77, 3) := by decide +kernel
theorem gm_d_GM_compile_40 : decode gm_b_GM_compile 40 = .ok (.invokevirtual 81, 3) := by decide +kernel
theorem gm_d_GM_compile_43 : decode gm_b_GM_compile 43 = .ok (.putfield 49, 3) := by decide +kernel
theorem gm_d_GM_compile_46 : decode gm_b_GM_compile 46 = .ok (.aload_n 0, 1) := by decide +kernel
theorem gm_d_GM_compile_47 : decode gm_b_GM_compile 47 = .ok (.getfield 49, 3) := by decide +kernel
theorem gm_d_GM_compile_50 : decode gm_b_GM_compile 50 = .ok (.iconst (-1), 1) := by decide +kernel
theorem gm_d_GM_compile_51 : decode gm_b_GM_compile 51 = .ok (.if_icmp .eq 13, 3) := by decide +kernel
theorem gm_d_GM_compile_54 : decode gm_b_GM_compile 54 = .ok (.new 86, 3) := by decide +kernel
theorem gm_d_GM_compile_57 : decode gm_b_GM_compile 57 = .ok (.dup, 1) := by decide +kernel
theorem gm_d_GM_compile_58 : decode gm_b_GM_compile 58 = .ok (.ldc 88, 2) := by decide +kernel
theorem gm_d_GM_compile_60 : decode gm_b_GM_compile 60 = .ok (.invokespecial 90, 3) := by decide +kernel
theorem gm_d_GM_compile_63 : decode gm_b_GM_compile 63 = .ok (.athrow, 1) := by decide +kernel
theorem gm_d_GM_compile_64 : decode gm_b_GM_compile 64 = .ok (.aload_n 0, 1) := by decide +kernel
theorem gm_d_GM_compile_65 : decode gm_b_GM_compile 65 = .ok (.aload_n 0, 1) := by decide +kernel
theorem gm_d_GM_compile_66 : decode gm_b_GM_compile 66 = .ok (.getfield 30, 3) := by decide +kernel
theorem gm_d_GM_compile_69 : decode gm_b_GM_compile 69 = .ok (.getfield 77, 3) := by decide +kernel
theorem gm_d_GM_compile_72 : decode gm_b_GM_compile 72 = .ok (.invokevirtual 91, 3) := by decide +kernel
theorem gm_d_GM_compile_75 : decode gm_b_GM_compile 75 = .ok (.putfield 49, 3) := by decide +kernel
theorem gm_d_GM_compile_78 : decode gm_b_GM_compile 78 = .ok (.aload_n 0, 1) := by decide +kernel
theorem gm_d_GM_compile_79 : decode gm_b_GM_compile 79 = .ok (.getfield 49, 3) := by decide +kernel
theorem gm_d_GM_compile_82 : decode gm_b_GM_compile 82 = .ok (.iconst (-1), 1) := by decide +kernel
theorem gm_d_GM_compile_83 : decode gm_b_GM_compile 83 = .ok (.if_icmp .eq 13, 3) := by decide +kernel
theorem gm_d_GM_compile_86 : decode gm_b_GM_compile 86 = .ok (.new 94, 3) := by decide +kernel
theorem gm_d_GM_compile_89 : decode gm_b_GM_compile 89 = .ok (.dup, 1) := by decide +kernel
theorem gm_d_GM_compile_90 : decode gm_b_GM_compile 90 = .ok (.ldc 96, 2) := by decide +kernel
theorem gm_d_GM_compile_92 : decode gm_b_GM_compile 92 = .ok (.invokespecial 98, 3) := by decide +kernel
theorem gm_d_GM_compile_95 : decode gm_b_GM_compile 95 = .ok (.athrow, 1) := by decide +kernel
theorem gm_d_GM_compile_96 : decode gm_b_GM_compile 96 = .ok (.aload_n 0, 1) := by decide +kernel
theorem gm_d_GM_compile_97 : decode gm_b_GM_compile 97 = .ok (.getfield 30, 3) := by decide +kernel
theorem gm_d_GM_compile_100 : decode gm_b_GM_compile 100 = .ok (.getfield 77, 3) := by decide +kernel
theorem gm_d_GM_compile_103 : decode gm_b_GM_compile 103 = .ok (.invokevirtual 99, 3) := by decide +kernel
theorem gm_d_GM_compile_106 : decode gm_b_GM_compile 106 = .ok (.aload_n 0, 1) := by decide +kernel
theorem gm_d_GM_compile_107 : decode gm_b_GM_compile 107 = .ok (.getfield 30, 3) := by decide +kernel
theorem gm_d_GM_compile_110 : decode gm_b_GM_compile 110 = .ok (.getfield 102, 3) := by decide +kernel
theorem gm_d_GM_compile_113 : decode gm_b_GM_compile 113 = .ok (.invokevirtual 106, 3) := by decide +kernel
theorem gm_d_GM_compile_116 : decode gm_b_GM_compile 116 = .ok (.aload_n 0, 1) := by decide +kernel
theorem gm_d_GM_compile_117 : decode gm_b_GM_compile 117 = .ok (.invokevirtual 111, 3) := by decide +kernel
theorem gm_d_GM_compile_120 : decode gm_b_GM_compile 120 = .ok (.aload_n 0, 1) := by decide +kernel
theorem gm_d_GM_compile_121 : decode gm_b_GM_compile 121 = .ok (.getfield 26, 3) := by decide +kernel
theorem gm_d_GM_compile_124 : decode gm_b_GM_compile 124 = .ok (.getfield 114, 3) := by decide +kernel
theorem gm_d_GM_compile_127 : decode gm_b_GM_compile 127 = .ok (.getfield 118, 3) := by decide +kernel
theorem gm_d_GM_compile_130 : decode gm_b_GM_compile 130 = .ok (.ireturn, 1) := by decide +kernel
theorem gm_d_GM_empty_0 : decode gm_b_GM_empty 0 = .ok (.aload_n 0, 1) := by decide +kernel
theorem gm_d_GM_empty_1 : decode gm_b_GM_empty 1 = .ok (.getfield 42, 3) := by decide +kernel
theorem gm_d_GM_empty_4 : decode gm_b_GM_empty 4 = .ok (.ifCond .ne 13, 3) := by decide +kernel
theorem gm_d_GM_empty_7 : decode gm_b_GM_empty 7 = .ok (.new 86, 3) := by decide +kernel
theorem gm_d_GM_empty_10 : decode gm_b_GM_empty 10 = .ok (.dup, 1) := by decide +kernel
theorem gm_d_GM_empty_11 : decode gm_b_GM_empty 11 = .ok (.ldc 123, 2) := by decide +kernel
theorem gm_d_GM_empty_13 : decode gm_b_GM_empty 13 = .ok (.invokespecial 90, 3) := by decide +kernel
theorem gm_d_GM_empty_16 : decode gm_b_GM_empty 16 = .ok (.athrow, 1) := by decide +kernel
theorem gm_d_GM_empty_17 : decode gm_b_GM_empty 17 = .ok (.aload_n 0, 1) := by decide +kernel
theorem gm_d_GM_empty_18 : decode gm_b_GM_empty 18 = .ok (.getfield 26, 3) := by decide +kernel
theorem gm_d_GM_empty_21 : decode gm_b_GM_empty 21 = .ok (.getfield 114, 3) := by decide +kernel
theorem gm_d_GM_empty_24 : decode gm_b_GM_empty 24 = .ok (.iload_n 1, 1) := by decide +kernel
theorem gm_d_GM_empty_25 : decode gm_b_GM_empty 25 = .ok (.invokevirtual 125, 3) := by decide +kernel
theorem gm_d_GM_empty_28 : decode gm_b_GM_empty 28 = .ok (.istore_n 2, 1) := by decide +kernel
theorem gm_d_GM_empty_29 : decode gm_b_GM_empty 29 = .ok (.iload_n 2, 1) := by decide +kernel
theorem gm_d_GM_empty_30 : decode gm_b_GM_empty 30 = .ok (.iconst (-1), 1) := by decide +kernel
theorem gm_d_GM_empty_31 : decode gm_b_GM_empty 31 = .ok (.if_icmp .ne 13, 3) := by decide +kernel
theorem gm_d_GM_empty_34 : decode gm_b_GM_empty 34 = .ok (.new 129, 3) := by decide +kernel
theorem gm_d_GM_empty_37 : decode gm_b_GM_empty 37 = .ok (.dup, 1) := by decide +kernel
theorem gm_d_GM_empty_38 : decode gm_b_GM_empty 38 = .ok (.ldc 131, 2) := by decide +kernel
theorem gm_d_GM_empty_40 : decode gm_b_GM_empty 40 = .ok (.invokespecial 133, 3) := by decide +kernel
theorem gm_d_GM_empty_43 : decode gm_b_GM_empty 43 = .ok (.athrow, 1) := by decide +kernel
theorem gm_d_GM_empty_44 : decode gm_b_GM_empty 44 = .ok (.aload_n 0, 1) := by decide +kernel
theorem gm_d_GM_empty_45 : decode gm_b_GM_empty 45 = .ok (.getfield 26, 3) := by decide +kernel
theorem gm_d_GM_empty_48 : decode gm_b_GM_empty 48 = .ok (.getfield 114, 3) := by decide +kernel
theorem gm_d_GM_empty_51 : decode gm_b_GM_empty 51 = .ok (.getfield 134, 3) := by decide +kernel
theorem gm_d_GM_empty_54 : decode gm_b_GM_empty 54 = .ok (.iload_n 2, 1) := by decide +kernel
theorem gm_d_GM_empty_55 : decode gm_b_GM_empty 55 = .ok (.baload, 1) := by decide +kernel
theorem gm_d_GM_empty_56 : decode gm_b_GM_empty 56 = .ok (.ireturn, 1) := by decide +kernel
theorem gm_d_GM_head_0 : decode gm_b_GM_head 0 = .ok (.aload_n 0, 1) := by decide +kernel
theorem gm_d_GM_head_1 : decode gm_b_GM_head 1 = .ok (.getfield 42, 3) := by decide +kernel
theorem gm_d_GM_head_4 : decode gm_b_GM_head 4 = .ok (.ifCond .ne 13, 3) := by decide +kernel
theorem gm_d_GM_head_7 : decode gm_b_GM_head 7 = .ok (.new 86, 3) := by decide +kernel
theorem gm_d_GM_head_10 : decode gm_b_GM_head 10 = .ok (.dup, 1) := by decide +kernel
theorem gm_d_GM_head_11 : decode gm_b_GM_head 11 = .ok (.ldc 123, 2) := by decide +kernel
theorem gm_d_GM_head_13 : decode gm_b_GM_head 13 = .ok (.invokespecial 90, 3) := by decide +kernel
theorem gm_d_GM_head_16 : decode gm_b_GM_head 16 = .ok (.athrow, 1) := by decide +kernel
theorem gm_d_GM_head_17 : decode gm_b_GM_head 17 = .ok (.aload_n 0, 1) := by decide +kernel
theorem gm_d_GM_head_18 : decode gm_b_GM_head 18 = .ok (.getfield 26, 3) := by decide +kernel
theorem gm_d_GM_head_21 : decode gm_b_GM_head 21 = .ok (.getfield 114, 3) := by decide +kernel
theorem gm_d_GM_head_24 : decode gm_b_GM_head 24 = .ok (.iload_n 1, 1) := by decide +kernel
theorem gm_d_GM_head_25 : decode gm_b_GM_head 25 = .ok (.invokevirtual 125, 3) := by decide +kernel
theorem gm_d_GM_head_28 : decode gm_b_GM_head 28 = .ok (.istore_n 3, 1) := by decide +kernel
theorem gm_d_GM_head_29 : decode gm_b_GM_head 29 = .ok (.iload_n 3, 1) := by decide +kernel
theorem gm_d_GM_head_30 : decode gm_b_GM_head 30 = .ok (.iconst (-1), 1) := by decide +kernel
theorem gm_d_GM_head_31 : decode gm_b_GM_head 31 = .ok (.if_icmp .ne 13, 3) := by decide +kernel
theorem gm_d_GM_head_34 : decode gm_b_GM_head 34 = .ok (.new 129, 3) := by decide +kernel
theorem gm_d_GM_head_37 : decode gm_b_GM_head 37 = .ok (.dup, 1) := by decide +kernel
theorem gm_d_GM_head_38 : decode gm_b_GM_head 38 = .ok (.ldc 131, 2) := by decide +kernel
theorem gm_d_GM_head_40 : decode gm_b_GM_head 40 = .ok (.invokespecial 133, 3) := by decide +kernel
theorem gm_d_GM_head_43 : decode gm_b_GM_head 43 = .ok (.athrow, 1) := by decide +kernel
theorem gm_d_GM_head_44 : decode gm_b_GM_head 44 = .ok (.aload_n 0, 1) := by decide +kernel
theorem gm_d_GM_head_45 : decode gm_b_GM_head 45 = .ok (.getfield 26, 3) := by decide +kernel
theorem gm_d_GM_head_48 : decode gm_b_GM_head 48 = .ok (.getfield 114, 3) := by decide +kernel
theorem gm_d_GM_head_51 : decode gm_b_GM_head 51 = .ok (.iload_n 3, 1) := by decide +kernel
theorem gm_d_GM_head_52 : decode gm_b_GM_head 52 = .ok (.iload_n 2, 1) := by decide +kernel
theorem gm_d_GM_head_53 : decode gm_b_GM_head 53 = .ok (.invokevirtual 138, 3) := by decide +kernel
theorem gm_d_GM_head_56 : decode gm_b_GM_head 56 = .ok (.ireturn, 1) := by decide +kernel
theorem gm_d_GM_match_0 : decode gm_b_GM_match 0 = .ok (.aload_n 0, 1) := by decide +kernel
theorem gm_d_GM_match_1 : decode gm_b_GM_match 1 = .ok (.getfield 42, 3) := by decide +kernel
theorem gm_d_GM_match_4 : decode gm_b_GM_match 4 = .ok (.ifCond .ne 13, 3) := by decide +kernel
theorem gm_d_GM_match_7 : decode gm_b_GM_match 7 = .ok (.new 86, 3) := by decide +kernel
theorem gm_d_GM_match_10 : decode gm_b_GM_match 10 = .ok (.dup, 1) := by decide +kernel
theorem gm_d_GM_match_11 : decode gm_b_GM_match 11 = .ok (.ldc 123, 2) := by decide +kernel
theorem gm_d_GM_match_13 : decode gm_b_GM_match 13 = .ok (.invokespecial 90, 3) := by decide +kernel
theorem gm_d_GM_match_16 : decode gm_b_GM_match 16 = .ok (.athrow, 1) := by decide +kernel
theorem gm_d_GM_match_17 : decode gm_b_GM_match 17 = .ok (.aload_n 0, 1) := by decide +kernel
theorem gm_d_GM_match_18 : decode gm_b_GM_match 18 = .ok (.iconst 1, 1) := by decide +kernel
theorem gm_d_GM_match_19 : decode gm_b_GM_match 19 = .ok (.putfield 46, 3) := by decide +kernel
theorem gm_d_GM_match_22 : decode gm_b_GM_match 22 = .ok (.aload_n 0, 1) := by decide +kernel
theorem gm_d_GM_match_23 : decode gm_b_GM_match 23 = .ok (.getfield 38, 3) := by decide +kernel
theorem gm_d_GM_match_26 : decode gm_b_GM_match 26 = .ok (.aload_n 0, 1) := by decide +kernel
theorem gm_d_GM_match_27 : decode gm_b_GM_match 27 = .ok (.getfield 26, 3) := by decide +kernel
theorem gm_d_GM_match_30 : decode gm_b_GM_match 30 = .ok (.iload_n 1, 1) := by decide +kernel
theorem gm_d_GM_match_31 : decode gm_b_GM_match 31 = .ok (.invokevirtual 142, 3) := by decide +kernel
theorem gm_d_GM_match_34 : decode gm_b_GM_match 34 = .ok (.ireturn, 1) := by decide +kernel
theorem gm_d_GM_node_0 : decode gm_b_GM_node 0 = .ok (.aload_n 0, 1) := by decide +kernel
theorem gm_d_GM_node_1 : decode gm_b_GM_node 1 = .ok (.getfield 46, 3) := by decide +kernel
theorem gm_d_GM_node_4 : decode gm_b_GM_node 4 = .ok (.ifCond .eq 21, 3) := by decide +kernel
theorem gm_d_GM_node_7 : decode gm_b_GM_node 7 = .ok (.iload_n 1, 1) := by decide +kernel
theorem gm_d_GM_node_8 : decode gm_b_GM_node 8 = .ok (.ifCond .lt 17, 3) := by decide +kernel
theorem gm_d_GM_node_11 : decode gm_b_GM_node 11 = .ok (.iload_n 1, 1) := by decide +kernel
theorem gm_d_GM_node_12 : decode gm_b_GM_node 12 = .ok (.aload_n 0, 1) := by decide +kernel
theorem gm_d_GM_node_13 : decode gm_b_GM_node 13 = .ok (.getfield 38, 3) := by decide +kernel
theorem gm_d_GM_node_16 : decode gm_b_GM_node 16 = .ok (.getfield 149, 3) := by decide +kernel
theorem gm_d_GM_node_19 : decode gm_b_GM_node 19 = .ok (.getfield 153, 3) := by decide +kernel
theorem gm_d_GM_node_22 : decode gm_b_GM_node 22 = .ok (.if_icmp .lt 13, 3) := by decide +kernel
theorem gm_d_GM_node_25 : decode gm_b_GM_node 25 = .ok (.new 129, 3) := by decide +kernel
theorem gm_d_GM_node_28 : decode gm_b_GM_node 28 = .ok (.dup, 1) := by decide +kernel
theorem gm_d_GM_node_29 : decode gm_b_GM_node 29 = .ok (.ldc 156, 2) := by decide +kernel
theorem gm_d_GM_node_31 : decode gm_b_GM_node 31 = .ok (.invokespecial 133, 3) := by decide +kernel
theorem gm_d_GM_node_34 : decode gm_b_GM_node 34 = .ok (.athrow, 1) := by decide +kernel
theorem gm_d_GM_node_35 : decode gm_b_GM_node 35 = .ok (.iload_n 2, 1) := by decide +kernel
theorem gm_d_GM_node_36 : decode gm_b_GM_node 36 = .ok (.ifCond .lt 8, 3) := by decide +kernel
theorem gm_d_GM_node_39 : decode gm_b_GM_node 39 = .ok (.iload_n 2, 1) := by decide +kernel
theorem gm_d_GM_node_40 : decode gm_b_GM_node 40 = .ok (.iconst 2, 1) := by decide +kernel
theorem gm_d_GM_node_41 : decode gm_b_GM_node 41 = .ok (.if_icmp .le 13, 3) := by decide +kernel
theorem gm_d_GM_node_44 : decode gm_b_GM_node 44 = .ok (.new 70, 3) := by decide +kernel
theorem gm_d_GM_node_47 : decode gm_b_GM_node 47 = .ok (.dup, 1) := by decide +kernel
theorem gm_d_GM_node_48 : decode gm_b_GM_node 48 = .ok (.ldc 158, 2) := by decide +kernel
theorem gm_d_GM_node_50 : decode gm_b_GM_node 50 = .ok (.invokespecial 74, 3) := by decide +kernel
theorem gm_d_GM_node_53 : decode gm_b_GM_node 53 = .ok (.athrow, 1) := by decide +kernel
theorem gm_d_GM_node_54 : decode gm_b_GM_node 54 = .ok (.iload_n 2, 1) := by decide +kernel
theorem gm_d_GM_node_55 : decode gm_b_GM_node 55 = .ok (.iconst 2, 1) := by decide +kernel
theorem gm_d_GM_node_56 : decode gm_b_GM_node 56 = .ok (.if_icmp .ne 15, 3) := by decide +kernel
theorem gm_d_GM_node_59 : decode gm_b_GM_node 59 = .ok (.aload_n 0, 1) := by decide +kernel
theorem gm_d_GM_node_60 : decode gm_b_GM_node 60 = .ok (.getfield 38, 3) := by decide +kernel
theorem gm_d_GM_node_63 : decode gm_b_GM_node 63 = .ok (.getfield 149, 3) := by decide +kernel
theorem gm_d_GM_node_66 : decode gm_b_GM_node 66 = .ok (.iload_n 1, 1) := by decide +kernel
theorem gm_d_GM_node_67 : decode gm_b_GM_node 67 = .ok (.invokevirtual 160, 3) := by decide +kernel
theorem gm_d_GM_node_70 : decode gm_b_GM_node 70 = .ok (.ireturn, 1) := by decide +kernel
theorem gm_d_GM_node_71 : decode gm_b_GM_node 71 = .ok (.iload_n 2, 1) := by decide +kernel
theorem gm_d_GM_node_72 : decode gm_b_GM_node 72 = .ok (.ifCond .ne 18, 3) := by decide +kernel
theorem gm_d_GM_node_75 : decode gm_b_GM_node 75 = .ok (.aload_n 0, 1) := by decide +kernel
theorem gm_d_GM_node_76 : decode gm_b_GM_node 76 = .ok (.getfield 38, 3) := by decide +kernel
theorem gm_d_GM_node_79 : decode gm_b_GM_node 79 = .ok (.getfield 149, 3) := by decide +kernel
theorem gm_d_GM_node_82 : decode gm_b_GM_node 82 = .ok (.getfield 163, 3) := by decide +kernel
theorem gm_d_GM_node_85 : decode gm_b_GM_node 85 = .ok (.iload_n 1, 1) := by decide +kernel
theorem gm_d_GM_node_86 : decode gm_b_GM_node 86 = .ok (.iaload, 1) := by decide +kernel
theorem gm_d_GM_node_87 : decode gm_b_GM_node 87 = .ok (.goto 15, 3) := by decide +kernel
theorem gm_d_GM_node_90 : decode gm_b_GM_node 90 = .ok (.aload_n 0, 1) := by decide +kernel
theorem gm_d_GM_node_91 : decode gm_b_GM_node 91 = .ok (.getfield 38, 3) := by decide +kernel
theorem gm_d_GM_node_94 : decode gm_b_GM_node 94 = .ok (.getfield 149, 3) := by decide +kernel
theorem gm_d_GM_node_97 : decode gm_b_GM_node 97 = .ok (.getfield 167, 3) := by decide +kernel
theorem gm_d_GM_node_100 : decode gm_b_GM_node 100 = .ok (.iload_n 1, 1) := by decide +kernel
theorem gm_d_GM_node_101 : decode gm_b_GM_node 101 = .ok (.iaload, 1) := by decide +kernel
theorem gm_d_GM_node_102 : decode gm_b_GM_node 102 = .ok (.ireturn, 1) := by decide +kernel
