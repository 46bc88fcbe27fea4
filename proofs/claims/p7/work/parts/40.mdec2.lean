theorem gm_d_MD_create_0 : decode gm_b_MD_create 0 = .ok (.sipush 160, 3) := by decide +kernel
theorem gm_d_MD_create_3 : decode gm_b_MD_create 3 = .ok (.aload_n 0, 1) := by decide +kernel
theorem gm_d_MD_create_4 : decode gm_b_MD_create 4 = .ok (.getfield 116, 3) := by decide +kernel
theorem gm_d_MD_create_7 : decode gm_b_MD_create 7 = .ok (.imul, 1) := by decide +kernel
theorem gm_d_MD_create_8 : decode gm_b_MD_create 8 = .ok (.aload_n 0, 1) := by decide +kernel
theorem gm_d_MD_create_9 : decode gm_b_MD_create 9 = .ok (.getfield 29, 3) := by decide +kernel
theorem gm_d_MD_create_12 : decode gm_b_MD_create 12 = .ok (.aload_n 0, 1) := by decide +kernel
theorem gm_d_MD_create_13 : decode gm_b_MD_create 13 = .ok (.getfield 116, 3) := by decide +kernel
theorem gm_d_MD_create_16 : decode gm_b_MD_create 16 = .ok (.iaload, 1) := by decide +kernel
theorem gm_d_MD_create_17 : decode gm_b_MD_create 17 = .ok (.iadd, 1) := by decide +kernel
theorem gm_d_MD_create_18 : decode gm_b_MD_create 18 = .ok (.istore 4, 2) := by decide +kernel
theorem gm_d_MD_create_20 : decode gm_b_MD_create 20 = .ok (.aload_n 0, 1) := by decide +kernel
theorem gm_d_MD_create_21 : decode gm_b_MD_create 21 = .ok (.getfield 29, 3) := by decide +kernel
theorem gm_d_MD_create_24 : decode gm_b_MD_create 24 = .ok (.aload_n 0, 1) := by decide +kernel
theorem gm_d_MD_create_25 : decode gm_b_MD_create 25 = .ok (.getfield 116, 3) := by decide +kernel
theorem gm_d_MD_create_28 : decode gm_b_MD_create 28 = .ok (.dup2, 1) := by decide +kernel
theorem gm_d_MD_create_29 : decode gm_b_MD_create 29 = .ok (.iaload, 1) := by decide +kernel
theorem gm_d_MD_create_30 : decode gm_b_MD_create 30 = .ok (.iconst 1, 1) := by decide +kernel
theorem gm_d_MD_create_31 : decode gm_b_MD_create 31 = .ok (.iadd, 1) := by decide +kernel
theorem gm_d_MD_create_32 : decode gm_b_MD_create 32 = .ok (.iastore, 1) := by decide +kernel
theorem gm_d_MD_create_33 : decode gm_b_MD_create 33 = .ok (.aload_n 0, 1) := by decide +kernel
theorem gm_d_MD_create_34 : decode gm_b_MD_create 34 = .ok (.getfield 32, 3) := by decide +kernel
theorem gm_d_MD_create_37 : decode gm_b_MD_create 37 = .ok (.iload 4, 2) := by decide +kernel
theorem gm_d_MD_create_39 : decode gm_b_MD_create 39 = .ok (.iload_n 1, 1) := by decide +kernel
theorem gm_d_MD_create_40 : decode gm_b_MD_create 40 = .ok (.iastore, 1) := by decide +kernel
theorem gm_d_MD_create_41 : decode gm_b_MD_create 41 = .ok (.aload_n 0, 1) := by decide +kernel
theorem gm_d_MD_create_42 : decode gm_b_MD_create 42 = .ok (.getfield 35, 3) := by decide +kernel
theorem gm_d_MD_create_45 : decode gm_b_MD_create 45 = .ok (.iload 4, 2) := by decide +kernel
theorem gm_d_MD_create_47 : decode gm_b_MD_create 47 = .ok (.iload_n 2, 1) := by decide +kernel
theorem gm_d_MD_create_48 : decode gm_b_MD_create 48 = .ok (.iastore, 1) := by decide +kernel
theorem gm_d_MD_create_49 : decode gm_b_MD_create 49 = .ok (.aload_n 0, 1) := by decide +kernel
theorem gm_d_MD_create_50 : decode gm_b_MD_create 50 = .ok (.getfield 38, 3) := by decide +kernel
theorem gm_d_MD_create_53 : decode gm_b_MD_create 53 = .ok (.iload 4, 2) := by decide +kernel
theorem gm_d_MD_create_55 : decode gm_b_MD_create 55 = .ok (.iload_n 3, 1) := by decide +kernel
theorem gm_d_MD_create_56 : decode gm_b_MD_create 56 = .ok (.iastore, 1) := by decide +kernel
theorem gm_d_MD_create_57 : decode gm_b_MD_create 57 = .ok (.aload_n 0, 1) := by decide +kernel
theorem gm_d_MD_create_58 : decode gm_b_MD_create 58 = .ok (.getfield 41, 3) := by decide +kernel
theorem gm_d_MD_create_61 : decode gm_b_MD_create 61 = .ok (.iload 4, 2) := by decide +kernel
theorem gm_d_MD_create_63 : decode gm_b_MD_create 63 = .ok (.aload_n 0, 1) := by decide +kernel
theorem gm_d_MD_create_64 : decode gm_b_MD_create 64 = .ok (.getfield 20, 3) := by decide +kernel
theorem gm_d_MD_create_67 : decode gm_b_MD_create 67 = .ok (.aload_n 0, 1) := by decide +kernel
theorem gm_d_MD_create_68 : decode gm_b_MD_create 68 = .ok (.getfield 116, 3) := by decide +kernel
theorem gm_d_MD_create_71 : decode gm_b_MD_create 71 = .ok (.iaload, 1) := by decide +kernel
theorem gm_d_MD_create_72 : decode gm_b_MD_create 72 = .ok (.iastore, 1) := by decide +kernel
theorem gm_d_MD_create_73 : decode gm_b_MD_create 73 = .ok (.aload_n 0, 1) := by decide +kernel
theorem gm_d_MD_create_74 : decode gm_b_MD_create 74 = .ok (.getfield 54, 3) := by decide +kernel
theorem gm_d_MD_create_77 : decode gm_b_MD_create 77 = .ok (.iload 4, 2) := by decide +kernel
theorem gm_d_MD_create_79 : decode gm_b_MD_create 79 = .ok (.lconst 0, 1) := by decide +kernel
theorem gm_d_MD_create_80 : decode gm_b_MD_create 80 = .ok (.lastore, 1) := by decide +kernel
theorem gm_d_MD_create_81 : decode gm_b_MD_create 81 = .ok (.aload_n 0, 1) := by decide +kernel
theorem gm_d_MD_create_82 : decode gm_b_MD_create 82 = .ok (.getfield 58, 3) := by decide +kernel
theorem gm_d_MD_create_85 : decode gm_b_MD_create 85 = .ok (.iload 4, 2) := by decide +kernel
theorem gm_d_MD_create_87 : decode gm_b_MD_create 87 = .ok (.lconst 0, 1) := by decide +kernel
theorem gm_d_MD_create_88 : decode gm_b_MD_create 88 = .ok (.lastore, 1) := by decide +kernel
theorem gm_d_MD_create_89 : decode gm_b_MD_create 89 = .ok (.iload 4, 2) := by decide +kernel
theorem gm_d_MD_create_91 : decode gm_b_MD_create 91 = .ok (.ireturn, 1) := by decide +kernel
theorem gm_d_MD_ruleOf_0 : decode gm_b_MD_ruleOf 0 = .ok (.iconst 0, 1) := by decide +kernel
theorem gm_d_MD_ruleOf_1 : decode gm_b_MD_ruleOf 1 = .ok (.istore_n 3, 1) := by decide +kernel
theorem gm_d_MD_ruleOf_2 : decode gm_b_MD_ruleOf 2 = .ok (.iload_n 3, 1) := by decide +kernel
theorem gm_d_MD_ruleOf_3 : decode gm_b_MD_ruleOf 3 = .ok (.aload_n 0, 1) := by decide +kernel
theorem gm_d_MD_ruleOf_4 : decode gm_b_MD_ruleOf 4 = .ok (.getfield 20, 3) := by decide +kernel
theorem gm_d_MD_ruleOf_7 : decode gm_b_MD_ruleOf 7 = .ok (.iload_n 1, 1) := by decide +kernel
theorem gm_d_MD_ruleOf_8 : decode gm_b_MD_ruleOf 8 = .ok (.iaload, 1) := by decide +kernel
theorem gm_d_MD_ruleOf_9 : decode gm_b_MD_ruleOf 9 = .ok (.if_icmp .ge 26, 3) := by decide +kernel
theorem gm_d_MD_ruleOf_12 : decode gm_b_MD_ruleOf 12 = .ok (.aload_n 0, 1) := by decide +kernel
theorem gm_d_MD_ruleOf_13 : decode gm_b_MD_ruleOf 13 = .ok (.getfield 23, 3) := by decide +kernel
theorem gm_d_MD_ruleOf_16 : decode gm_b_MD_ruleOf 16 = .ok (.bipush 8, 2) := by decide +kernel
theorem gm_d_MD_ruleOf_18 : decode gm_b_MD_ruleOf 18 = .ok (.iload_n 1, 1) := by decide +kernel
theorem gm_d_MD_ruleOf_19 : decode gm_b_MD_ruleOf 19 = .ok (.imul, 1) := by decide +kernel
theorem gm_d_MD_ruleOf_20 : decode gm_b_MD_ruleOf 20 = .ok (.iload_n 3, 1) := by decide +kernel
theorem gm_d_MD_ruleOf_21 : decode gm_b_MD_ruleOf 21 = .ok (.iadd, 1) := by decide +kernel
theorem gm_d_MD_ruleOf_22 : decode gm_b_MD_ruleOf 22 = .ok (.iaload, 1) := by decide +kernel
theorem gm_d_MD_ruleOf_23 : decode gm_b_MD_ruleOf 23 = .ok (.iload_n 2, 1) := by decide +kernel
theorem gm_d_MD_ruleOf_24 : decode gm_b_MD_ruleOf 24 = .ok (.if_icmp .ne 5, 3) := by decide +kernel
theorem gm_d_MD_ruleOf_27 : decode gm_b_MD_ruleOf 27 = .ok (.iload_n 3, 1) := by decide +kernel
theorem gm_d_MD_ruleOf_28 : decode gm_b_MD_ruleOf 28 = .ok (.ireturn, 1) := by decide +kernel
theorem gm_d_MD_ruleOf_29 : decode gm_b_MD_ruleOf 29 = .ok (.iinc 3 1, 3) := by decide +kernel
theorem gm_d_MD_ruleOf_32 : decode gm_b_MD_ruleOf 32 = .ok (.goto (-30), 3) := by decide +kernel
theorem gm_d_MD_ruleOf_35 : decode gm_b_MD_ruleOf 35 = .ok (.iconst (-1), 1) := by decide +kernel
theorem gm_d_MD_ruleOf_36 : decode gm_b_MD_ruleOf 36 = .ok (.ireturn, 1) := by decide +kernel
theorem gm_d_MD_closing_0 : decode gm_b_MD_closing 0 = .ok (.iload_n 0, 1) := by decide +kernel
theorem gm_d_MD_closing_1 : decode gm_b_MD_closing 1 = .ok (.bipush 40, 2) := by decide +kernel
theorem gm_d_MD_closing_3 : decode gm_b_MD_closing 3 = .ok (.if_icmp .ne 8, 3) := by decide +kernel
theorem gm_d_MD_closing_6 : decode gm_b_MD_closing 6 = .ok (.bipush 41, 2) := by decide +kernel
theorem gm_d_MD_closing_8 : decode gm_b_MD_closing 8 = .ok (.goto 16, 3) := by decide +kernel
theorem gm_d_MD_closing_11 : decode gm_b_MD_closing 11 = .ok (.iload_n 0, 1) := by decide +kernel
theorem gm_d_MD_closing_12 : decode gm_b_MD_closing 12 = .ok (.bipush 123, 2) := by decide +kernel
theorem gm_d_MD_closing_14 : decode gm_b_MD_closing 14 = .ok (.if_icmp .ne 8, 3) := by decide +kernel
theorem gm_d_MD_closing_17 : decode gm_b_MD_closing 17 = .ok (.bipush 125, 2) := by decide +kernel
theorem gm_d_MD_closing_19 : decode gm_b_MD_closing 19 = .ok (.goto 5, 3) := by decide +kernel
theorem gm_d_MD_closing_22 : decode gm_b_MD_closing 22 = .ok (.bipush 59, 2) := by decide +kernel
theorem gm_d_MD_closing_24 : decode gm_b_MD_closing 24 = .ok (.ireturn, 1) := by decide +kernel
theorem gm_d_MD_include_0 : decode gm_b_MD_include 0 = .ok (.iload_n 2, 1) := by decide +kernel
theorem gm_d_MD_include_1 : decode gm_b_MD_include 1 = .ok (.istore 4, 2) := by decide +kernel
theorem gm_d_MD_include_3 : decode gm_b_MD_include 3 = .ok (.iload 4, 2) := by decide +kernel
theorem gm_d_MD_include_5 : decode gm_b_MD_include 5 = .ok (.iload_n 3, 1) := by decide +kernel
theorem gm_d_MD_include_6 : decode gm_b_MD_include 6 = .ok (.if_icmp .gt 51, 3) := by decide +kernel
theorem gm_d_MD_include_9 : decode gm_b_MD_include 9 = .ok (.iload 4, 2) := by decide +kernel
theorem gm_d_MD_include_11 : decode gm_b_MD_include 11 = .ok (.bipush 96, 2) := by decide +kernel
theorem gm_d_MD_include_13 : decode gm_b_MD_include 13 = .ok (.if_icmp .ge 22, 3) := by decide +kernel
theorem gm_d_MD_include_16 : decode gm_b_MD_include 16 = .ok (.aload_n 0, 1) := by decide +kernel
theorem gm_d_MD_include_17 : decode gm_b_MD_include 17 = .ok (.getfield 54, 3) := by decide +kernel
theorem gm_d_MD_include_20 : decode gm_b_MD_include 20 = .ok (.iload_n 1, 1) := by decide +kernel
theorem gm_d_MD_include_21 : decode gm_b_MD_include 21 = .ok (.dup2, 1) := by decide +kernel
theorem gm_d_MD_include_22 : decode gm_b_MD_include 22 = .ok (.laload, 1) := by decide +kernel
theorem gm_d_MD_include_23 : decode gm_b_MD_include 23 = .ok (.lconst 1, 1) := by decide +kernel
theorem gm_d_MD_include_24 : decode gm_b_MD_include 24 = .ok (.iload 4, 2) := by decide +kernel
theorem gm_d_MD_include_26 : decode gm_b_MD_include 26 = .ok (.bipush 32, 2) := by decide +kernel
theorem gm_d_MD_include_28 : decode gm_b_MD_include 28 = .ok (.isub, 1) := by decide +kernel
theorem gm_d_MD_include_29 : decode gm_b_MD_include 29 = .ok (.lshl, 1) := by decide +kernel
theorem gm_d_MD_include_30 : decode gm_b_MD_include 30 = .ok (.lor, 1) := by decide +kernel
theorem gm_d_MD_include_31 : decode gm_b_MD_include 31 = .ok (.lastore, 1) := by decide +kernel
theorem gm_d_MD_include_32 : decode gm_b_MD_include 32 = .ok (.goto 19, 3) := by decide +kernel
theorem gm_d_MD_include_35 : decode gm_b_MD_include 35 = .ok (.aload_n 0, 1) := by decide +kernel
theorem gm_d_MD_include_36 : decode gm_b_MD_include 36 = .ok (.getfield 58, 3) := by decide +kernel
theorem gm_d_MD_include_39 : decode gm_b_MD_include 39 = .ok (.iload_n 1, 1) := by decide +kernel
theorem gm_d_MD_include_40 : decode gm_b_MD_include 40 = .ok (.dup2, 1) := by decide +kernel
theorem gm_d_MD_include_41 : decode gm_b_MD_include 41 = .ok (.laload, 1) := by decide +kernel
theorem gm_d_MD_include_42 : decode gm_b_MD_include 42 = .ok (.lconst 1, 1) := by decide +kernel
theorem gm_d_MD_include_43 : decode gm_b_MD_include 43 = .ok (.iload 4, 2) := by decide +kernel
theorem gm_d_MD_include_45 : decode gm_b_MD_include 45 = .ok (.bipush 96, 2) := by decide +kernel
theorem gm_d_MD_include_47 : decode gm_b_MD_include 47 = .ok (.isub, 1) := by decide +kernel
theorem gm_d_MD_include_48 : decode gm_b_MD_include 48 = .ok (.lshl, 1) := by decide +kernel
theorem gm_d_MD_include_49 : decode gm_b_MD_include 49 = .ok (.lor, 1) := by decide +kernel
theorem gm_d_MD_include_50 : decode gm_b_MD_include 50 = .ok (.lastore, 1) := by decide +kernel
theorem gm_d_MD_include_51 : decode gm_b_MD_include 51 = .ok (.iinc 4 1, 3) := by decide +kernel
theorem gm_d_MD_include_54 : decode gm_b_MD_include 54 = .ok (.goto (-51), 3) := by decide +kernel
theorem gm_d_MD_include_57 : decode gm_b_MD_include 57 = .ok (.return_, 1) := by decide +kernel
theorem gm_d_MD_primary_0 : decode gm_b_MD_primary 0 = .ok (.iload_n 1, 1) := by decide +kernel
theorem gm_d_MD_primary_1 : decode gm_b_MD_primary 1 = .ok (.istore_n 2, 1) := by decide +kernel
theorem gm_d_MD_primary_2 : decode gm_b_MD_primary 2 = .ok (.aload_n 0, 1) := by decide +kernel
theorem gm_d_MD_primary_3 : decode gm_b_MD_primary 3 = .ok (.invokevirtual 122, 3) := by decide +kernel
theorem gm_d_MD_primary_6 : decode gm_b_MD_primary 6 = .ok (.istore_n 3, 1) := by decide +kernel
theorem gm_d_MD_primary_7 : decode gm_b_MD_primary 7 = .ok (.iload_n 3, 1) := by decide +kernel
theorem gm_d_MD_primary_8 : decode gm_b_MD_primary 8 = .ok (.bipush 63, 2) := by decide +kernel
theorem gm_d_MD_primary_10 : decode gm_b_MD_primary 10 = .ok (.if_icmp .eq 15, 3) := by decide +kernel
theorem gm_d_MD_primary_13 : decode gm_b_MD_primary 13 = .ok (.iload_n 3, 1) := by decide +kernel
theorem gm_d_MD_primary_14 : decode gm_b_MD_primary 14 = .ok (.bipush 42, 2) := by decide +kernel
theorem gm_d_MD_primary_16 : decode gm_b_MD_primary 16 = .ok (.if_icmp .eq 9, 3) := by decide +kernel
theorem gm_d_MD_primary_19 : decode gm_b_MD_primary 19 = .ok (.iload_n 3, 1) := by decide +kernel
theorem gm_d_MD_primary_20 : decode gm_b_MD_primary 20 = .ok (.bipush 43, 2) := by decide +kernel
theorem gm_d_MD_primary_22 : decode gm_b_MD_primary 22 = .ok (.if_icmp .ne 54, 3) := by decide +kernel
theorem gm_d_MD_primary_25 : decode gm_b_MD_primary 25 = .ok (.aload_n 0, 1) := by decide +kernel
theorem gm_d_MD_primary_26 : decode gm_b_MD_primary 26 = .ok (.dup, 1) := by decide +kernel
theorem gm_d_MD_primary_27 : decode gm_b_MD_primary 27 = .ok (.getfield 109, 3) := by decide +kernel
theorem gm_d_MD_primary_30 : decode gm_b_MD_primary 30 = .ok (.iconst 1, 1) := by decide +kernel
theorem gm_d_MD_primary_31 : decode gm_b_MD_primary 31 = .ok (.iadd, 1) := by decide +kernel
theorem gm_d_MD_primary_32 : decode gm_b_MD_primary 32 = .ok (.putfield 109, 3) := by decide +kernel
theorem gm_d_MD_primary_35 : decode gm_b_MD_primary 35 = .ok (.aload_n 0, 1) := by decide +kernel
theorem gm_d_MD_primary_36 : decode gm_b_MD_primary 36 = .ok (.iload_n 3, 1) := by decide +kernel
theorem gm_d_MD_primary_37 : decode gm_b_MD_primary 37 = .ok (.bipush 63, 2) := by decide +kernel
theorem gm_d_MD_primary_39 : decode gm_b_MD_primary 39 = .ok (.if_icmp .ne 8, 3) := by decide +kernel
theorem gm_d_MD_primary_42 : decode gm_b_MD_primary 42 = .ok (.bipush 6, 2) := by decide +kernel
theorem gm_d_MD_primary_44 : decode gm_b_MD_primary 44 = .ok (.goto 5, 3) := by decide +kernel
theorem gm_d_MD_primary_47 : decode gm_b_MD_primary 47 = .ok (.bipush 7, 2) := by decide +kernel
theorem gm_d_MD_primary_49 : decode gm_b_MD_primary 49 = .ok (.iload_n 2, 1) := by decide +kernel
theorem gm_d_MD_primary_50 : decode gm_b_MD_primary 50 = .ok (.iconst (-1), 1) := by decide +kernel
theorem gm_d_MD_primary_51 : decode gm_b_MD_primary 51 = .ok (.invokevirtual 151, 3) := by decide +kernel
theorem gm_d_MD_primary_54 : decode gm_b_MD_primary 54 = .ok (.istore 4, 2) := by decide +kernel
theorem gm_d_MD_primary_56 : decode gm_b_MD_primary 56 = .ok (.iload_n 3, 1) := by decide +kernel
theorem gm_d_MD_primary_57 : decode gm_b_MD_primary 57 = .ok (.bipush 43, 2) := by decide +kernel
theorem gm_d_MD_primary_59 : decode gm_b_MD_primary 59 = .ok (.if_icmp .ne 14, 3) := by decide +kernel
theorem gm_d_MD_primary_62 : decode gm_b_MD_primary 62 = .ok (.aload_n 0, 1) := by decide +kernel
theorem gm_d_MD_primary_63 : decode gm_b_MD_primary 63 = .ok (.iconst 4, 1) := by decide +kernel
theorem gm_d_MD_primary_64 : decode gm_b_MD_primary 64 = .ok (.iload_n 2, 1) := by decide +kernel
theorem gm_d_MD_primary_65 : decode gm_b_MD_primary 65 = .ok (.iload 4, 2) := by decide +kernel
theorem gm_d_MD_primary_67 : decode gm_b_MD_primary 67 = .ok (.invokevirtual 151, 3) := by decide +kernel
theorem gm_d_MD_primary_70 : decode gm_b_MD_primary 70 = .ok (.goto 5, 3) := by decide +kernel
theorem gm_d_MD_primary_73 : decode gm_b_MD_primary 73 = .ok (.iload 4, 2) := by decide +kernel
theorem gm_d_MD_primary_75 : decode gm_b_MD_primary 75 = .ok (.istore_n 2, 1) := by decide +kernel
theorem gm_d_MD_primary_76 : decode gm_b_MD_primary 76 = .ok (.aload_n 0, 1) := by decide +kernel
theorem gm_d_MD_primary_77 : decode gm_b_MD_primary 77 = .ok (.getfield 142, 3) := by decide +kernel
theorem gm_d_MD_primary_80 : decode gm_b_MD_primary 80 = .ok (.ifCond .eq 26, 3) := by decide +kernel
theorem gm_d_MD_primary_83 : decode gm_b_MD_primary 83 = .ok (.aload_n 0, 1) := by decide +kernel
theorem gm_d_MD_primary_84 : decode gm_b_MD_primary 84 = .ok (.aload_n 0, 1) := by decide +kernel
theorem gm_d_MD_primary_85 : decode gm_b_MD_primary 85 = .ok (.getfield 142, 3) := by decide +kernel
theorem gm_d_MD_primary_88 : decode gm_b_MD_primary 88 = .ok (.bipush 38, 2) := by decide +kernel
theorem gm_d_MD_primary_90 : decode gm_b_MD_primary 90 = .ok (.if_icmp .ne 8, 3) := by decide +kernel
theorem gm_d_MD_primary_93 : decode gm_b_MD_primary 93 = .ok (.bipush 8, 2) := by decide +kernel
theorem gm_d_MD_primary_95 : decode gm_b_MD_primary 95 = .ok (.goto 5, 3) := by decide +kernel
theorem gm_d_MD_primary_98 : decode gm_b_MD_primary 98 = .ok (.bipush 9, 2) := by decide +kernel
theorem gm_d_MD_primary_100 : decode gm_b_MD_primary 100 = .ok (.iload_n 2, 1) := by decide +kernel
theorem gm_d_MD_primary_101 : decode gm_b_MD_primary 101 = .ok (.iconst (-1), 1) := by decide +kernel
theorem gm_d_MD_primary_102 : decode gm_b_MD_primary 102 = .ok (.invokevirtual 151, 3) := by decide +kernel
theorem gm_d_MD_primary_105 : decode gm_b_MD_primary 105 = .ok (.istore_n 2, 1) := by decide +kernel
theorem gm_d_MD_primary_106 : decode gm_b_MD_primary 106 = .ok (.aload_n 0, 1) := by decide +kernel
theorem gm_d_MD_primary_107 : decode gm_b_MD_primary 107 = .ok (.iconst 0, 1) := by decide +kernel
theorem gm_d_MD_primary_108 : decode gm_b_MD_primary 108 = .ok (.putfield 142, 3) := by decide +kernel
theorem gm_d_MD_primary_111 : decode gm_b_MD_primary 111 = .ok (.aload_n 0, 1) := by decide +kernel
theorem gm_d_MD_primary_112 : decode gm_b_MD_primary 112 = .ok (.getfield 73, 3) := by decide +kernel
theorem gm_d_MD_primary_115 : decode gm_b_MD_primary 115 = .ok (.aload_n 0, 1) := by decide +kernel
theorem gm_d_MD_primary_116 : decode gm_b_MD_primary 116 = .ok (.getfield 136, 3) := by decide +kernel
theorem gm_d_MD_primary_119 : decode gm_b_MD_primary 119 = .ok (.iload_n 2, 1) := by decide +kernel
theorem gm_d_MD_primary_120 : decode gm_b_MD_primary 120 = .ok (.iastore, 1) := by decide +kernel
theorem gm_d_MD_primary_121 : decode gm_b_MD_primary 121 = .ok (.aload_n 0, 1) := by decide +kernel
theorem gm_d_MD_primary_122 : decode gm_b_MD_primary 122 = .ok (.dup, 1) := by decide +kernel
theorem gm_d_MD_primary_123 : decode gm_b_MD_primary 123 = .ok (.getfield 136, 3) := by decide +kernel
theorem gm_d_MD_primary_126 : decode gm_b_MD_primary 126 = .ok (.iconst 1, 1) := by decide +kernel
theorem gm_d_MD_primary_127 : decode gm_b_MD_primary 127 = .ok (.iadd, 1) := by decide +kernel
theorem gm_d_MD_primary_128 : decode gm_b_MD_primary 128 = .ok (.putfield 136, 3) := by decide +kernel
theorem gm_d_MD_primary_131 : decode gm_b_MD_primary 131 = .ok (.return_, 1) := by decide +kernel
theorem gm_d_MD_endSequence_0 : decode gm_b_MD_endSequence 0 = .ok (.aload_n 0, 1) := by decide +kernel
theorem gm_d_MD_endSequence_1 : decode gm_b_MD_endSequence 1 = .ok (.getfield 136, 3) := by decide +kernel
theorem gm_d_MD_endSequence_4 : decode gm_b_MD_endSequence 4 = .ok (.aload_n 0, 1) := by decide +kernel
theorem gm_d_MD_endSequence_5 : decode gm_b_MD_endSequence 5 = .ok (.getfield 67, 3) := by decide +kernel
theorem gm_d_MD_endSequence_8 : decode gm_b_MD_endSequence 8 = .ok (.aload_n 0, 1) := by decide +kernel
theorem gm_d_MD_endSequence_9 : decode gm_b_MD_endSequence 9 = .ok (.getfield 133, 3) := by decide +kernel
theorem gm_d_MD_endSequence_12 : decode gm_b_MD_endSequence 12 = .ok (.iaload, 1) := by decide +kernel
theorem gm_d_MD_endSequence_13 : decode gm_b_MD_endSequence 13 = .ok (.if_icmp .ne 13, 3) := by decide +kernel
theorem gm_d_MD_endSequence_16 : decode gm_b_MD_endSequence 16 = .ok (.aload_n 0, 1) := by decide +kernel
theorem gm_d_MD_endSequence_17 : decode gm_b_MD_endSequence 17 = .ok (.iconst 0, 1) := by decide +kernel
theorem gm_d_MD_endSequence_18 : decode gm_b_MD_endSequence 18 = .ok (.iconst (-1), 1) := by decide +kernel
theorem gm_d_MD_endSequence_19 : decode gm_b_MD_endSequence 19 = .ok (.iconst (-1), 1) := by decide +kernel
theorem gm_d_MD_endSequence_20 : decode gm_b_MD_endSequence 20 = .ok (.invokevirtual 151, 3) := by decide +kernel
theorem gm_d_MD_endSequence_23 : decode gm_b_MD_endSequence 23 = .ok (.goto 14, 3) := by decide +kernel
theorem gm_d_MD_endSequence_26 : decode gm_b_MD_endSequence 26 = .ok (.aload_n 0, 1) := by decide +kernel
theorem gm_d_MD_endSequence_27 : decode gm_b_MD_endSequence 27 = .ok (.getfield 73, 3) := by decide +kernel
theorem gm_d_MD_endSequence_30 : decode gm_b_MD_endSequence 30 = .ok (.aload_n 0, 1) := by decide +kernel
theorem gm_d_MD_endSequence_31 : decode gm_b_MD_endSequence 31 = .ok (.getfield 136, 3) := by decide +kernel
theorem gm_d_MD_endSequence_34 : decode gm_b_MD_endSequence 34 = .ok (.iconst 1, 1) := by decide +kernel
theorem gm_d_MD_endSequence_35 : decode gm_b_MD_endSequence 35 = .ok (.isub, 1) := by decide +kernel
theorem gm_d_MD_endSequence_36 : decode gm_b_MD_endSequence 36 = .ok (.iaload, 1) := by decide +kernel
theorem gm_d_MD_endSequence_37 : decode gm_b_MD_endSequence 37 = .ok (.istore_n 1, 1) := by decide +kernel
theorem gm_d_MD_endSequence_38 : decode gm_b_MD_endSequence 38 = .ok (.aload_n 0, 1) := by decide +kernel
theorem gm_d_MD_endSequence_39 : decode gm_b_MD_endSequence 39 = .ok (.getfield 136, 3) := by decide +kernel
theorem gm_d_MD_endSequence_42 : decode gm_b_MD_endSequence 42 = .ok (.iconst 2, 1) := by decide +kernel
theorem gm_d_MD_endSequence_43 : decode gm_b_MD_endSequence 43 = .ok (.isub, 1) := by decide +kernel
theorem gm_d_MD_endSequence_44 : decode gm_b_MD_endSequence 44 = .ok (.istore_n 2, 1) := by decide +kernel
theorem gm_d_MD_endSequence_45 : decode gm_b_MD_endSequence 45 = .ok (.iload_n 2, 1) := by decide +kernel
theorem gm_d_MD_endSequence_46 : decode gm_b_MD_endSequence 46 = .ok (.aload_n 0, 1) := by decide +kernel
theorem gm_d_MD_endSequence_47 : decode gm_b_MD_endSequence 47 = .ok (.getfield 67, 3) := by decide +kernel
theorem gm_d_MD_endSequence_50 : decode gm_b_MD_endSequence 50 = .ok (.aload_n 0, 1) := by decide +kernel
theorem gm_d_MD_endSequence_51 : decode gm_b_MD_endSequence 51 = .ok (.getfield 133, 3) := by decide +kernel
theorem gm_d_MD_endSequence_54 : decode gm_b_MD_endSequence 54 = .ok (.iaload, 1) := by decide +kernel
theorem gm_d_MD_endSequence_55 : decode gm_b_MD_endSequence 55 = .ok (.if_icmp .lt 22, 3) := by decide +kernel
theorem gm_d_MD_endSequence_58 : decode gm_b_MD_endSequence 58 = .ok (.aload_n 0, 1) := by decide +kernel
theorem gm_d_MD_endSequence_59 : decode gm_b_MD_endSequence 59 = .ok (.iconst 4, 1) := by decide +kernel
theorem gm_d_MD_endSequence_60 : decode gm_b_MD_endSequence 60 = .ok (.aload_n 0, 1) := by decide +kernel
theorem gm_d_MD_endSequence_61 : decode gm_b_MD_endSequence 61 = .ok (.getfield 73, 3) := by decide +kernel
theorem gm_d_MD_endSequence_64 : decode gm_b_MD_endSequence 64 = .ok (.iload_n 2, 1) := by decide +kernel
theorem gm_d_MD_endSequence_65 : decode gm_b_MD_endSequence 65 = .ok (.iaload, 1) := by decide +kernel
theorem gm_d_MD_endSequence_66 : decode gm_b_MD_endSequence 66 = .ok (.iload_n 1, 1) := by decide +kernel
theorem gm_d_MD_endSequence_67 : decode gm_b_MD_endSequence 67 = .ok (.invokevirtual 151, 3) := by decide +kernel
theorem gm_d_MD_endSequence_70 : decode gm_b_MD_endSequence 70 = .ok (.istore_n 1, 1) := by decide +kernel
theorem gm_d_MD_endSequence_71 : decode gm_b_MD_endSequence 71 = .ok (.iinc 2 (-1), 3) := by decide +kernel
theorem gm_d_MD_endSequence_74 : decode gm_b_MD_endSequence 74 = .ok (.goto (-29), 3) := by decide +kernel
theorem gm_d_MD_endSequence_77 : decode gm_b_MD_endSequence 77 = .ok (.aload_n 0, 1) := by decide +kernel
theorem gm_d_MD_endSequence_78 : decode gm_b_MD_endSequence 78 = .ok (.aload_n 0, 1) := by decide +kernel
theorem gm_d_MD_endSequence_79 : decode gm_b_MD_endSequence 79 = .ok (.getfield 67, 3) := by decide +kernel
theorem gm_d_MD_endSequence_82 : decode gm_b_MD_endSequence 82 = .ok (.aload_n 0, 1) := by decide +kernel
theorem gm_d_MD_endSequence_83 : decode gm_b_MD_endSequence 83 = .ok (.getfield 133, 3) := by decide +kernel
theorem gm_d_MD_endSequence_86 : decode gm_b_MD_endSequence 86 = .ok (.iaload, 1) := by decide +kernel
theorem gm_d_MD_endSequence_87 : decode gm_b_MD_endSequence 87 = .ok (.putfield 136, 3) := by decide +kernel
theorem gm_d_MD_endSequence_90 : decode gm_b_MD_endSequence 90 = .ok (.aload_n 0, 1) := by decide +kernel
theorem gm_d_MD_endSequence_91 : decode gm_b_MD_endSequence 91 = .ok (.getfield 76, 3) := by decide +kernel
theorem gm_d_MD_endSequence_94 : decode gm_b_MD_endSequence 94 = .ok (.aload_n 0, 1) := by decide +kernel
theorem gm_d_MD_endSequence_95 : decode gm_b_MD_endSequence 95 = .ok (.getfield 139, 3) := by decide +kernel
theorem gm_d_MD_endSequence_98 : decode gm_b_MD_endSequence 98 = .ok (.iload_n 1, 1) := by decide +kernel
theorem gm_d_MD_endSequence_99 : decode gm_b_MD_endSequence 99 = .ok (.iastore, 1) := by decide +kernel
theorem gm_d_MD_endSequence_100 : decode gm_b_MD_endSequence 100 = .ok (.aload_n 0, 1) := by decide +kernel
theorem gm_d_MD_endSequence_101 : decode gm_b_MD_endSequence 101 = .ok (.dup, 1) := by decide +kernel
theorem gm_d_MD_endSequence_102 : decode gm_b_MD_endSequence 102 = .ok (.getfield 139, 3) := by decide +kernel
theorem gm_d_MD_endSequence_105 : decode gm_b_MD_endSequence 105 = .ok (.iconst 1, 1) := by decide +kernel
theorem gm_d_MD_endSequence_106 : decode gm_b_MD_endSequence 106 = .ok (.iadd, 1) := by decide +kernel
theorem gm_d_MD_endSequence_107 : decode gm_b_MD_endSequence 107 = .ok (.putfield 139, 3) := by decide +kernel
theorem gm_d_MD_endSequence_110 : decode gm_b_MD_endSequence 110 = .ok (.return_, 1) := by decide +kernel
theorem gm_d_MD_close_0 : decode gm_b_MD_close 0 = .ok (.aload_n 0, 1) := by decide +kernel
theorem gm_d_MD_close_1 : decode gm_b_MD_close 1 = .ok (.invokevirtual 176, 3) := by decide +kernel
theorem gm_d_MD_close_4 : decode gm_b_MD_close 4 = .ok (.aload_n 0, 1) := by decide +kernel
theorem gm_d_MD_close_5 : decode gm_b_MD_close 5 = .ok (.getfield 76, 3) := by decide +kernel
theorem gm_d_MD_close_8 : decode gm_b_MD_close 8 = .ok (.aload_n 0, 1) := by decide +kernel
theorem gm_d_MD_close_9 : decode gm_b_MD_close 9 = .ok (.getfield 139, 3) := by decide +kernel
theorem gm_d_MD_close_12 : decode gm_b_MD_close 12 = .ok (.iconst 1, 1) := by decide +kernel
theorem gm_d_MD_close_13 : decode gm_b_MD_close 13 = .ok (.isub, 1) := by decide +kernel
theorem gm_d_MD_close_14 : decode gm_b_MD_close 14 = .ok (.iaload, 1) := by decide +kernel
theorem gm_d_MD_close_15 : decode gm_b_MD_close 15 = .ok (.istore_n 1, 1) := by decide +kernel
theorem gm_d_MD_close_16 : decode gm_b_MD_close 16 = .ok (.aload_n 0, 1) := by decide +kernel
theorem gm_d_MD_close_17 : decode gm_b_MD_close 17 = .ok (.getfield 139, 3) := by decide +kernel
theorem gm_d_MD_close_20 : decode gm_b_MD_close 20 = .ok (.iconst 2, 1) := by decide +kernel
theorem gm_d_MD_close_21 : decode gm_b_MD_close 21 = .ok (.isub, 1) := by decide +kernel
theorem gm_d_MD_close_22 : decode gm_b_MD_close 22 = .ok (.istore_n 2, 1) := by decide +kernel
theorem gm_d_MD_close_23 : decode gm_b_MD_close 23 = .ok (.iload_n 2, 1) := by decide +kernel
theorem gm_d_MD_close_24 : decode gm_b_MD_close 24 = .ok (.aload_n 0, 1) := by decide +kernel
theorem gm_d_MD_close_25 : decode gm_b_MD_close 25 = .ok (.getfield 70, 3) := by decide +kernel
theorem gm_d_MD_close_28 : decode gm_b_MD_close 28 = .ok (.aload_n 0, 1) := by decide +kernel
theorem gm_d_MD_close_29 : decode gm_b_MD_close 29 = .ok (.getfield 133, 3) := by decide +kernel
theorem gm_d_MD_close_32 : decode gm_b_MD_close 32 = .ok (.iaload, 1) := by decide +kernel
theorem gm_d_MD_close_33 : decode gm_b_MD_close 33 = .ok (.if_icmp .lt 22, 3) := by decide +kernel
theorem gm_d_MD_close_36 : decode gm_b_MD_close 36 = .ok (.aload_n 0, 1) := by decide +kernel
theorem gm_d_MD_close_37 : decode gm_b_MD_close 37 = .ok (.iconst 5, 1) := by decide +kernel
theorem gm_d_MD_close_38 : decode gm_b_MD_close 38 = .ok (.aload_n 0, 1) := by decide +kernel
theorem gm_d_MD_close_39 : decode gm_b_MD_close 39 = .ok (.getfield 76, 3) := by decide +kernel
theorem gm_d_MD_close_42 : decode gm_b_MD_close 42 = .ok (.iload_n 2, 1) := by decide +kernel
theorem gm_d_MD_close_43 : decode gm_b_MD_close 43 = .ok (.iaload, 1) := by decide +kernel
theorem gm_d_MD_close_44 : decode gm_b_MD_close 44 = .ok (.iload_n 1, 1) := by decide +kernel
theorem gm_d_MD_close_45 : decode gm_b_MD_close 45 = .ok (.invokevirtual 151, 3) := by decide +kernel
theorem gm_d_MD_close_48 : decode gm_b_MD_close 48 = .ok (.istore_n 1, 1) := by decide +kernel
theorem gm_d_MD_close_49 : decode gm_b_MD_close 49 = .ok (.iinc 2 (-1), 3) := by decide +kernel
theorem gm_d_MD_close_52 : decode gm_b_MD_close 52 = .ok (.goto (-29), 3) := by decide +kernel
theorem gm_d_MD_close_55 : decode gm_b_MD_close 55 = .ok (.aload_n 0, 1) := by decide +kernel
theorem gm_d_MD_close_56 : decode gm_b_MD_close 56 = .ok (.aload_n 0, 1) := by decide +kernel
theorem gm_d_MD_close_57 : decode gm_b_MD_close 57 = .ok (.getfield 70, 3) := by decide +kernel
theorem gm_d_MD_close_60 : decode gm_b_MD_close 60 = .ok (.aload_n 0, 1) := by decide +kernel
theorem gm_d_MD_close_61 : decode gm_b_MD_close 61 = .ok (.getfield 133, 3) := by decide +kernel
theorem gm_d_MD_close_64 : decode gm_b_MD_close 64 = .ok (.iaload, 1) := by decide +kernel
theorem gm_d_MD_close_65 : decode gm_b_MD_close 65 = .ok (.putfield 139, 3) := by decide +kernel
theorem gm_d_MD_close_68 : decode gm_b_MD_close 68 = .ok (.aload_n 0, 1) := by decide +kernel
theorem gm_d_MD_close_69 : decode gm_b_MD_close 69 = .ok (.getfield 61, 3) := by decide +kernel
theorem gm_d_MD_close_72 : decode gm_b_MD_close 72 = .ok (.aload_n 0, 1) := by decide +kernel
theorem gm_d_MD_close_73 : decode gm_b_MD_close 73 = .ok (.getfield 133, 3) := by decide +kernel
theorem gm_d_MD_close_76 : decode gm_b_MD_close 76 = .ok (.iaload, 1) := by decide +kernel
theorem gm_d_MD_close_77 : decode gm_b_MD_close 77 = .ok (.bipush 59, 2) := by decide +kernel
theorem gm_d_MD_close_79 : decode gm_b_MD_close 79 = .ok (.if_icmp .ne 32, 3) := by decide +kernel
theorem gm_d_MD_close_82 : decode gm_b_MD_close 82 = .ok (.aload_n 0, 1) := by decide +kernel
theorem gm_d_MD_close_83 : decode gm_b_MD_close 83 = .ok (.getfield 26, 3) := by decide +kernel
theorem gm_d_MD_close_86 : decode gm_b_MD_close 86 = .ok (.bipush 8, 2) := by decide +kernel
theorem gm_d_MD_close_88 : decode gm_b_MD_close 88 = .ok (.aload_n 0, 1) := by decide +kernel
theorem gm_d_MD_close_89 : decode gm_b_MD_close 89 = .ok (.getfield 116, 3) := by decide +kernel
theorem gm_d_MD_close_92 : decode gm_b_MD_close 92 = .ok (.imul, 1) := by decide +kernel
theorem gm_d_MD_close_93 : decode gm_b_MD_close 93 = .ok (.aload_n 0, 1) := by decide +kernel
theorem gm_d_MD_close_94 : decode gm_b_MD_close 94 = .ok (.getfield 20, 3) := by decide +kernel
theorem gm_d_MD_close_97 : decode gm_b_MD_close 97 = .ok (.aload_n 0, 1) := by decide +kernel
theorem gm_d_MD_close_98 : decode gm_b_MD_close 98 = .ok (.getfield 116, 3) := by decide +kernel
theorem gm_d_MD_close_101 : decode gm_b_MD_close 101 = .ok (.iaload, 1) := by decide +kernel
theorem gm_d_MD_close_102 : decode gm_b_MD_close 102 = .ok (.iadd, 1) := by decide +kernel
theorem gm_d_MD_close_103 : decode gm_b_MD_close 103 = .ok (.iload_n 1, 1) := by decide +kernel
theorem gm_d_MD_close_104 : decode gm_b_MD_close 104 = .ok (.iastore, 1) := by decide +kernel
theorem gm_d_MD_close_105 : decode gm_b_MD_close 105 = .ok (.aload_n 0, 1) := by decide +kernel
theorem gm_d_MD_close_106 : decode gm_b_MD_close 106 = .ok (.iconst 0, 1) := by decide +kernel
theorem gm_d_MD_close_107 : decode gm_b_MD_close 107 = .ok (.putfield 145, 3) := by decide +kernel
theorem gm_d_MD_close_110 : decode gm_b_MD_close 110 = .ok (.return_, 1) := by decide +kernel
theorem gm_d_MD_close_111 : decode gm_b_MD_close 111 = .ok (.aload_n 0, 1) := by decide +kernel
theorem gm_d_MD_close_112 : decode gm_b_MD_close 112 = .ok (.getfield 61, 3) := by decide +kernel
theorem gm_d_MD_close_115 : decode gm_b_MD_close 115 = .ok (.aload_n 0, 1) := by decide +kernel
theorem gm_d_MD_close_116 : decode gm_b_MD_close 116 = .ok (.getfield 133, 3) := by decide +kernel
theorem gm_d_MD_close_119 : decode gm_b_MD_close 119 = .ok (.iaload, 1) := by decide +kernel
theorem gm_d_MD_close_120 : decode gm_b_MD_close 120 = .ok (.bipush 123, 2) := by decide +kernel
theorem gm_d_MD_close_122 : decode gm_b_MD_close 122 = .ok (.if_icmp .ne 14, 3) := by decide +kernel
theorem gm_d_MD_close_125 : decode gm_b_MD_close 125 = .ok (.aload_n 0, 1) := by decide +kernel
theorem gm_d_MD_close_126 : decode gm_b_MD_close 126 = .ok (.bipush 10, 2) := by decide +kernel
theorem gm_d_MD_close_128 : decode gm_b_MD_close 128 = .ok (.iload_n 1, 1) := by decide +kernel
theorem gm_d_MD_close_129 : decode gm_b_MD_close 129 = .ok (.iconst (-1), 1) := by decide +kernel
theorem gm_d_MD_close_130 : decode gm_b_MD_close 130 = .ok (.invokevirtual 151, 3) := by decide +kernel
theorem gm_d_MD_close_133 : decode gm_b_MD_close 133 = .ok (.goto 4, 3) := by decide +kernel
theorem gm_d_MD_close_136 : decode gm_b_MD_close 136 = .ok (.iload_n 1, 1) := by decide +kernel
theorem gm_d_MD_close_137 : decode gm_b_MD_close 137 = .ok (.istore_n 2, 1) := by decide +kernel
theorem gm_d_MD_close_138 : decode gm_b_MD_close 138 = .ok (.aload_n 0, 1) := by decide +kernel
theorem gm_d_MD_close_139 : decode gm_b_MD_close 139 = .ok (.aload_n 0, 1) := by decide +kernel
theorem gm_d_MD_close_140 : decode gm_b_MD_close 140 = .ok (.getfield 64, 3) := by decide +kernel
theorem gm_d_MD_close_143 : decode gm_b_MD_close 143 = .ok (.aload_n 0, 1) := by decide +kernel
theorem gm_d_MD_close_144 : decode gm_b_MD_close 144 = .ok (.getfield 133, 3) := by decide +kernel
theorem gm_d_MD_close_147 : decode gm_b_MD_close 147 = .ok (.iaload, 1) := by decide +kernel
theorem gm_d_MD_close_148 : decode gm_b_MD_close 148 = .ok (.putfield 142, 3) := by decide +kernel
theorem gm_d_MD_close_151 : decode gm_b_MD_close 151 = .ok (.aload_n 0, 1) := by decide +kernel
theorem gm_d_MD_close_152 : decode gm_b_MD_close 152 = .ok (.dup, 1) := by decide +kernel
theorem gm_d_MD_close_153 : decode gm_b_MD_close 153 = .ok (.getfield 133, 3) := by decide +kernel
theorem gm_d_MD_close_156 : decode gm_b_MD_close 156 = .ok (.iconst 1, 1) := by decide +kernel
theorem gm_d_MD_close_157 : decode gm_b_MD_close 157 = .ok (.isub, 1) := by decide +kernel
theorem gm_d_MD_close_158 : decode gm_b_MD_close 158 = .ok (.putfield 133, 3) := by decide +kernel
theorem gm_d_MD_close_161 : decode gm_b_MD_close 161 = .ok (.aload_n 0, 1) := by decide +kernel
theorem gm_d_MD_close_162 : decode gm_b_MD_close 162 = .ok (.iload_n 2, 1) := by decide +kernel
theorem gm_d_MD_close_163 : decode gm_b_MD_close 163 = .ok (.invokevirtual 155, 3) := by decide +kernel
theorem gm_d_MD_close_166 : decode gm_b_MD_close 166 = .ok (.return_, 1) := by decide +kernel
theorem gm_d_MD_readRow_0 : decode gm_b_MD_readRow 0 = .ok (.aload_n 0, 1) := by decide +kernel
theorem gm_d_MD_readRow_1 : decode gm_b_MD_readRow 1 = .ok (.getfield 109, 3) := by decide +kernel
theorem gm_d_MD_readRow_4 : decode gm_b_MD_readRow 4 = .ok (.iconst 1, 1) := by decide +kernel
theorem gm_d_MD_readRow_5 : decode gm_b_MD_readRow 5 = .ok (.iadd, 1) := by decide +kernel
theorem gm_d_MD_readRow_6 : decode gm_b_MD_readRow 6 = .ok (.istore_n 1, 1) := by decide +kernel
theorem gm_d_MD_readRow_7 : decode gm_b_MD_readRow 7 = .ok (.aload_n 0, 1) := by decide +kernel
theorem gm_d_MD_readRow_8 : decode gm_b_MD_readRow 8 = .ok (.dup, 1) := by decide +kernel
theorem gm_d_MD_readRow_9 : decode gm_b_MD_readRow 9 = .ok (.getfield 109, 3) := by decide +kernel
theorem gm_d_MD_readRow_12 : decode gm_b_MD_readRow 12 = .ok (.iconst 1, 1) := by decide +kernel
theorem gm_d_MD_readRow_13 : decode gm_b_MD_readRow 13 = .ok (.iadd, 1) := by decide +kernel
theorem gm_d_MD_readRow_14 : decode gm_b_MD_readRow 14 = .ok (.putfield 109, 3) := by decide +kernel
theorem gm_d_MD_readRow_17 : decode gm_b_MD_readRow 17 = .ok (.aload_n 0, 1) := by decide +kernel
theorem gm_d_MD_readRow_18 : decode gm_b_MD_readRow 18 = .ok (.invokevirtual 122, 3) := by decide +kernel
theorem gm_d_MD_readRow_21 : decode gm_b_MD_readRow 21 = .ok (.bipush 39, 2) := by decide +kernel
theorem gm_d_MD_readRow_23 : decode gm_b_MD_readRow 23 = .ok (.if_icmp .eq 23, 3) := by decide +kernel
theorem gm_d_MD_readRow_26 : decode gm_b_MD_readRow 26 = .ok (.aload_n 0, 1) := by decide +kernel
theorem gm_d_MD_readRow_27 : decode gm_b_MD_readRow 27 = .ok (.invokevirtual 122, 3) := by decide +kernel
theorem gm_d_MD_readRow_30 : decode gm_b_MD_readRow 30 = .ok (.ifCond .eq 16, 3) := by decide +kernel
theorem gm_d_MD_readRow_33 : decode gm_b_MD_readRow 33 = .ok (.aload_n 0, 1) := by decide +kernel
theorem gm_d_MD_readRow_34 : decode gm_b_MD_readRow 34 = .ok (.dup, 1) := by decide +kernel
theorem gm_d_MD_readRow_35 : decode gm_b_MD_readRow 35 = .ok (.getfield 109, 3) := by decide +kernel
theorem gm_d_MD_readRow_38 : decode gm_b_MD_readRow 38 = .ok (.iconst 1, 1) := by decide +kernel
theorem gm_d_MD_readRow_39 : decode gm_b_MD_readRow 39 = .ok (.iadd, 1) := by decide +kernel
theorem gm_d_MD_readRow_40 : decode gm_b_MD_readRow 40 = .ok (.putfield 109, 3) := by decide +kernel
theorem gm_d_MD_readRow_43 : decode gm_b_MD_readRow 43 = .ok (.goto (-26), 3) := by decide +kernel
theorem gm_d_MD_readRow_46 : decode gm_b_MD_readRow 46 = .ok (.aload_n 0, 1) := by decide +kernel
theorem gm_d_MD_readRow_47 : decode gm_b_MD_readRow 47 = .ok (.invokevirtual 122, 3) := by decide +kernel
theorem gm_d_MD_readRow_50 : decode gm_b_MD_readRow 50 = .ok (.ifCond .eq 11, 3) := by decide +kernel
theorem gm_d_MD_readRow_53 : decode gm_b_MD_readRow 53 = .ok (.aload_n 0, 1) := by decide +kernel
theorem gm_d_MD_readRow_54 : decode gm_b_MD_readRow 54 = .ok (.getfield 109, 3) := by decide +kernel
theorem gm_d_MD_readRow_57 : decode gm_b_MD_readRow 57 = .ok (.iload_n 1, 1) := by decide +kernel
theorem gm_d_MD_readRow_58 : decode gm_b_MD_readRow 58 = .ok (.if_icmp .ne 8, 3) := by decide +kernel
theorem gm_d_MD_readRow_61 : decode gm_b_MD_readRow 61 = .ok (.aload_n 0, 1) := by decide +kernel
theorem gm_d_MD_readRow_62 : decode gm_b_MD_readRow 62 = .ok (.invokevirtual 130, 3) := by decide +kernel
theorem gm_d_MD_readRow_65 : decode gm_b_MD_readRow 65 = .ok (.return_, 1) := by decide +kernel
theorem gm_d_MD_readRow_66 : decode gm_b_MD_readRow 66 = .ok (.aload_n 0, 1) := by decide +kernel
theorem gm_d_MD_readRow_67 : decode gm_b_MD_readRow 67 = .ok (.iconst 1, 1) := by decide +kernel
theorem gm_d_MD_readRow_68 : decode gm_b_MD_readRow 68 = .ok (.iload_n 1, 1) := by decide +kernel
theorem gm_d_MD_readRow_69 : decode gm_b_MD_readRow 69 = .ok (.aload_n 0, 1) := by decide +kernel
theorem gm_d_MD_readRow_70 : decode gm_b_MD_readRow 70 = .ok (.getfield 109, 3) := by decide +kernel
theorem gm_d_MD_readRow_73 : decode gm_b_MD_readRow 73 = .ok (.iload_n 1, 1) := by decide +kernel
theorem gm_d_MD_readRow_74 : decode gm_b_MD_readRow 74 = .ok (.isub, 1) := by decide +kernel
theorem gm_d_MD_readRow_75 : decode gm_b_MD_readRow 75 = .ok (.invokevirtual 151, 3) := by decide +kernel
theorem gm_d_MD_readRow_78 : decode gm_b_MD_readRow 78 = .ok (.istore_n 2, 1) := by decide +kernel
theorem gm_d_MD_readRow_79 : decode gm_b_MD_readRow 79 = .ok (.aload_n 0, 1) := by decide +kernel
theorem gm_d_MD_readRow_80 : decode gm_b_MD_readRow 80 = .ok (.dup, 1) := by decide +kernel
theorem gm_d_MD_readRow_81 : decode gm_b_MD_readRow 81 = .ok (.getfield 109, 3) := by decide +kernel
theorem gm_d_MD_readRow_84 : decode gm_b_MD_readRow 84 = .ok (.iconst 1, 1) := by decide +kernel
theorem gm_d_MD_readRow_85 : decode gm_b_MD_readRow 85 = .ok (.iadd, 1) := by decide +kernel
theorem gm_d_MD_readRow_86 : decode gm_b_MD_readRow 86 = .ok (.putfield 109, 3) := by decide +kernel
theorem gm_d_MD_readRow_89 : decode gm_b_MD_readRow 89 = .ok (.aload_n 0, 1) := by decide +kernel
theorem gm_d_MD_readRow_90 : decode gm_b_MD_readRow 90 = .ok (.iload_n 2, 1) := by decide +kernel
theorem gm_d_MD_readRow_91 : decode gm_b_MD_readRow 91 = .ok (.invokevirtual 155, 3) := by decide +kernel
theorem gm_d_MD_readRow_94 : decode gm_b_MD_readRow 94 = .ok (.return_, 1) := by decide +kernel
theorem gm_d_MD_readClass_0 : decode gm_b_MD_readClass 0 = .ok (.aload_n 0, 1) := by decide +kernel
theorem gm_d_MD_readClass_1 : decode gm_b_MD_readClass 1 = .ok (.iconst 2, 1) := by decide +kernel
theorem gm_d_MD_readClass_2 : decode gm_b_MD_readClass 2 = .ok (.iconst (-1), 1) := by decide +kernel
theorem gm_d_MD_readClass_3 : decode gm_b_MD_readClass 3 = .ok (.iconst (-1), 1) := by decide +kernel
theorem gm_d_MD_readClass_4 : decode gm_b_MD_readClass 4 = .ok (.invokevirtual 151, 3) := by decide +kernel
theorem gm_d_MD_readClass_7 : decode gm_b_MD_readClass 7 = .ok (.istore_n 1, 1) := by decide +kernel
theorem gm_d_MD_readClass_8 : decode gm_b_MD_readClass 8 = .ok (.aload_n 0, 1) := by decide +kernel
theorem gm_d_MD_readClass_9 : decode gm_b_MD_readClass 9 = .ok (.dup, 1) := by decide +kernel
theorem gm_d_MD_readClass_10 : decode gm_b_MD_readClass 10 = .ok (.getfield 109, 3) := by decide +kernel
theorem gm_d_MD_readClass_13 : decode gm_b_MD_readClass 13 = .ok (.iconst 1, 1) := by decide +kernel
theorem gm_d_MD_readClass_14 : decode gm_b_MD_readClass 14 = .ok (.iadd, 1) := by decide +kernel
theorem gm_d_MD_readClass_15 : decode gm_b_MD_readClass 15 = .ok (.putfield 109, 3) := by decide +kernel
theorem gm_d_MD_readClass_18 : decode gm_b_MD_readClass 18 = .ok (.iconst 0, 1) := by decide +kernel
theorem gm_d_MD_readClass_19 : decode gm_b_MD_readClass 19 = .ok (.istore_n 2, 1) := by decide +kernel
theorem gm_d_MD_readClass_20 : decode gm_b_MD_readClass 20 = .ok (.aload_n 0, 1) := by decide +kernel
theorem gm_d_MD_readClass_21 : decode gm_b_MD_readClass 21 = .ok (.invokevirtual 122, 3) := by decide +kernel
theorem gm_d_MD_readClass_24 : decode gm_b_MD_readClass 24 = .ok (.ifCond .eq 119, 3) := by decide +kernel
theorem gm_d_MD_readClass_27 : decode gm_b_MD_readClass 27 = .ok (.aload_n 0, 1) := by decide +kernel
theorem gm_d_MD_readClass_28 : decode gm_b_MD_readClass 28 = .ok (.invokevirtual 122, 3) := by decide +kernel
theorem gm_d_MD_readClass_31 : decode gm_b_MD_readClass 31 = .ok (.bipush 93, 2) := by decide +kernel
theorem gm_d_MD_readClass_33 : decode gm_b_MD_readClass 33 = .ok (.if_icmp .eq 110, 3) := by decide +kernel
theorem gm_d_MD_readClass_36 : decode gm_b_MD_readClass 36 = .ok (.aload_n 0, 1) := by decide +kernel
theorem gm_d_MD_readClass_37 : decode gm_b_MD_readClass 37 = .ok (.invokevirtual 122, 3) := by decide +kernel
theorem gm_d_MD_readClass_40 : decode gm_b_MD_readClass 40 = .ok (.istore_n 3, 1) := by decide +kernel
theorem gm_d_MD_readClass_41 : decode gm_b_MD_readClass 41 = .ok (.iload_n 3, 1) := by decide +kernel
theorem gm_d_MD_readClass_42 : decode gm_b_MD_readClass 42 = .ok (.istore 4, 2) := by decide +kernel
theorem gm_d_MD_readClass_44 : decode gm_b_MD_readClass 44 = .ok (.aload_n 0, 1) := by decide +kernel
theorem gm_d_MD_readClass_45 : decode gm_b_MD_readClass 45 = .ok (.dup, 1) := by decide +kernel
theorem gm_d_MD_readClass_46 : decode gm_b_MD_readClass 46 = .ok (.getfield 109, 3) := by decide +kernel
theorem gm_d_MD_readClass_49 : decode gm_b_MD_readClass 49 = .ok (.iconst 1, 1) := by decide +kernel
theorem gm_d_MD_readClass_50 : decode gm_b_MD_readClass 50 = .ok (.iadd, 1) := by decide +kernel
theorem gm_d_MD_readClass_51 : decode gm_b_MD_readClass 51 = .ok (.putfield 109, 3) := by decide +kernel
theorem gm_d_MD_readClass_54 : decode gm_b_MD_readClass 54 = .ok (.aload_n 0, 1) := by decide +kernel
theorem gm_d_MD_readClass_55 : decode gm_b_MD_readClass 55 = .ok (.invokevirtual 122, 3) := by decide +kernel
theorem gm_d_MD_readClass_58 : decode gm_b_MD_readClass 58 = .ok (.bipush 45, 2) := by decide +kernel
theorem gm_d_MD_readClass_60 : decode gm_b_MD_readClass 60 = .ok (.if_icmp .ne 70, 3) := by decide +kernel
theorem gm_d_MD_readClass_63 : decode gm_b_MD_readClass 63 = .ok (.aload_n 0, 1) := by decide +kernel
theorem gm_d_MD_readClass_64 : decode gm_b_MD_readClass 64 = .ok (.getfield 109, 3) := by decide +kernel
theorem gm_d_MD_readClass_67 : decode gm_b_MD_readClass 67 = .ok (.iconst 1, 1) := by decide +kernel
theorem gm_d_MD_readClass_68 : decode gm_b_MD_readClass 68 = .ok (.iadd, 1) := by decide +kernel
theorem gm_d_MD_readClass_69 : decode gm_b_MD_readClass 69 = .ok (.aload_n 0, 1) := by decide +kernel
theorem gm_d_MD_readClass_70 : decode gm_b_MD_readClass 70 = .ok (.getfield 106, 3) := by decide +kernel
theorem gm_d_MD_readClass_73 : decode gm_b_MD_readClass 73 = .ok (.if_icmp .ge 57, 3) := by decide +kernel
theorem gm_d_MD_readClass_76 : decode gm_b_MD_readClass 76 = .ok (.aload_n 0, 1) := by decide +kernel
theorem gm_d_MD_readClass_77 : decode gm_b_MD_readClass 77 = .ok (.getfield 13, 3) := by decide +kernel
theorem gm_d_MD_readClass_80 : decode gm_b_MD_readClass 80 = .ok (.aload_n 0, 1) := by decide +kernel
theorem gm_d_MD_readClass_81 : decode gm_b_MD_readClass 81 = .ok (.getfield 109, 3) := by decide +kernel
theorem gm_d_MD_readClass_84 : decode gm_b_MD_readClass 84 = .ok (.iconst 1, 1) := by decide +kernel
theorem gm_d_MD_readClass_85 : decode gm_b_MD_readClass 85 = .ok (.iadd, 1) := by decide +kernel
theorem gm_d_MD_readClass_86 : decode gm_b_MD_readClass 86 = .ok (.iaload, 1) := by decide +kernel
theorem gm_d_MD_readClass_87 : decode gm_b_MD_readClass 87 = .ok (.bipush 93, 2) := by decide +kernel
theorem gm_d_MD_readClass_89 : decode gm_b_MD_readClass 89 = .ok (.if_icmp .eq 41, 3) := by decide +kernel
theorem gm_d_MD_readClass_92 : decode gm_b_MD_readClass 92 = .ok (.aload_n 0, 1) := by decide +kernel
theorem gm_d_MD_readClass_93 : decode gm_b_MD_readClass 93 = .ok (.getfield 13, 3) := by decide +kernel
theorem gm_d_MD_readClass_96 : decode gm_b_MD_readClass 96 = .ok (.aload_n 0, 1) := by decide +kernel
theorem gm_d_MD_readClass_97 : decode gm_b_MD_readClass 97 = .ok (.getfield 109, 3) := by decide +kernel
theorem gm_d_MD_readClass_100 : decode gm_b_MD_readClass 100 = .ok (.iconst 1, 1) := by decide +kernel
theorem gm_d_MD_readClass_101 : decode gm_b_MD_readClass 101 = .ok (.iadd, 1) := by decide +kernel
theorem gm_d_MD_readClass_102 : decode gm_b_MD_readClass 102 = .ok (.iaload, 1) := by decide +kernel
theorem gm_d_MD_readClass_103 : decode gm_b_MD_readClass 103 = .ok (.iload_n 3, 1) := by decide +kernel
theorem gm_d_MD_readClass_104 : decode gm_b_MD_readClass 104 = .ok (.if_icmp .lt 26, 3) := by decide +kernel
theorem gm_d_MD_readClass_107 : decode gm_b_MD_readClass 107 = .ok (.aload_n 0, 1) := by decide +kernel
theorem gm_d_MD_readClass_108 : decode gm_b_MD_readClass 108 = .ok (.getfield 13, 3) := by decide +kernel
theorem gm_d_MD_readClass_111 : decode gm_b_MD_readClass 111 = .ok (.aload_n 0, 1) := by decide +kernel
theorem gm_d_MD_readClass_112 : decode gm_b_MD_readClass 112 = .ok (.getfield 109, 3) := by decide +kernel
theorem gm_d_MD_readClass_115 : decode gm_b_MD_readClass 115 = .ok (.iconst 1, 1) := by decide +kernel
theorem gm_d_MD_readClass_116 : decode gm_b_MD_readClass 116 = .ok (.iadd, 1) := by decide +kernel
theorem gm_d_MD_readClass_117 : decode gm_b_MD_readClass 117 = .ok (.iaload, 1) := by decide +kernel
theorem gm_d_MD_readClass_118 : decode gm_b_MD_readClass 118 = .ok (.istore 4, 2) := by decide +kernel
theorem gm_d_MD_readClass_120 : decode gm_b_MD_readClass 120 = .ok (.aload_n 0, 1) := by decide +kernel
theorem gm_d_MD_readClass_121 : decode gm_b_MD_readClass 121 = .ok (.dup, 1) := by decide +kernel
theorem gm_d_MD_readClass_122 : decode gm_b_MD_readClass 122 = .ok (.getfield 109, 3) := by decide +kernel
theorem gm_d_MD_readClass_125 : decode gm_b_MD_readClass 125 = .ok (.iconst 2, 1) := by decide +kernel
theorem gm_d_MD_readClass_126 : decode gm_b_MD_readClass 126 = .ok (.iadd, 1) := by decide +kernel
theorem gm_d_MD_readClass_127 : decode gm_b_MD_readClass 127 = .ok (.putfield 109, 3) := by decide +kernel
theorem gm_d_MD_readClass_130 : decode gm_b_MD_readClass 130 = .ok (.aload_n 0, 1) := by decide +kernel
theorem gm_d_MD_readClass_131 : decode gm_b_MD_readClass 131 = .ok (.iload_n 1, 1) := by decide +kernel
theorem gm_d_MD_readClass_132 : decode gm_b_MD_readClass 132 = .ok (.iload_n 3, 1) := by decide +kernel
theorem gm_d_MD_readClass_133 : decode gm_b_MD_readClass 133 = .ok (.iload 4, 2) := by decide +kernel
theorem gm_d_MD_readClass_135 : decode gm_b_MD_readClass 135 = .ok (.invokevirtual 159, 3) := by decide +kernel
theorem gm_d_MD_readClass_138 : decode gm_b_MD_readClass 138 = .ok (.iconst 1, 1) := by decide +kernel
theorem gm_d_MD_readClass_139 : decode gm_b_MD_readClass 139 = .ok (.istore_n 2, 1) := by decide +kernel
theorem gm_d_MD_readClass_140 : decode gm_b_MD_readClass 140 = .ok (.goto (-120), 3) := by decide +kernel
theorem gm_d_MD_readClass_143 : decode gm_b_MD_readClass 143 = .ok (.iload_n 2, 1) := by decide +kernel
theorem gm_d_MD_readClass_144 : decode gm_b_MD_readClass 144 = .ok (.ifCond .eq 10, 3) := by decide +kernel
theorem gm_d_MD_readClass_147 : decode gm_b_MD_readClass 147 = .ok (.aload_n 0, 1) := by decide +kernel
theorem gm_d_MD_readClass_148 : decode gm_b_MD_readClass 148 = .ok (.invokevirtual 122, 3) := by decide +kernel
theorem gm_d_MD_readClass_151 : decode gm_b_MD_readClass 151 = .ok (.ifCond .ne 8, 3) := by decide +kernel
theorem gm_d_MD_readClass_154 : decode gm_b_MD_readClass 154 = .ok (.aload_n 0, 1) := by decide +kernel
theorem gm_d_MD_readClass_155 : decode gm_b_MD_readClass 155 = .ok (.invokevirtual 130, 3) := by decide +kernel
theorem gm_d_MD_readClass_158 : decode gm_b_MD_readClass 158 = .ok (.return_, 1) := by decide +kernel
theorem gm_d_MD_readClass_159 : decode gm_b_MD_readClass 159 = .ok (.aload_n 0, 1) := by decide +kernel
theorem gm_d_MD_readClass_160 : decode gm_b_MD_readClass 160 = .ok (.dup, 1) := by decide +kernel
theorem gm_d_MD_readClass_161 : decode gm_b_MD_readClass 161 = .ok (.getfield 109, 3) := by decide +kernel
theorem gm_d_MD_readClass_164 : decode gm_b_MD_readClass 164 = .ok (.iconst 1, 1) := by decide +kernel
theorem gm_d_MD_readClass_165 : decode gm_b_MD_readClass 165 = .ok (.iadd, 1) := by decide +kernel
theorem gm_d_MD_readClass_166 : decode gm_b_MD_readClass 166 = .ok (.putfield 109, 3) := by decide +kernel
theorem gm_d_MD_readClass_169 : decode gm_b_MD_readClass 169 = .ok (.aload_n 0, 1) := by decide +kernel
theorem gm_d_MD_readClass_170 : decode gm_b_MD_readClass 170 = .ok (.iload_n 1, 1) := by decide +kernel
theorem gm_d_MD_readClass_171 : decode gm_b_MD_readClass 171 = .ok (.invokevirtual 155, 3) := by decide +kernel
theorem gm_d_MD_readClass_174 : decode gm_b_MD_readClass 174 = .ok (.return_, 1) := by decide +kernel
theorem gm_d_MD_readSign_0 : decode gm_b_MD_readSign 0 = .ok (.iload_n 1, 1) := by decide +kernel
theorem gm_d_MD_readSign_1 : decode gm_b_MD_readSign 1 = .ok (.bipush 38, 2) := by decide +kernel
theorem gm_d_MD_readSign_3 : decode gm_b_MD_readSign 3 = .ok (.if_icmp .eq 36, 3) := by decide +kernel
theorem gm_d_MD_readSign_6 : decode gm_b_MD_readSign 6 = .ok (.iload_n 1, 1) := by decide +kernel
theorem gm_d_MD_readSign_7 : decode gm_b_MD_readSign 7 = .ok (.bipush 33, 2) := by decide +kernel
theorem gm_d_MD_readSign_9 : decode gm_b_MD_readSign 9 = .ok (.if_icmp .eq 30, 3) := by decide +kernel
theorem gm_d_MD_readSign_12 : decode gm_b_MD_readSign 12 = .ok (.iload_n 1, 1) := by decide +kernel
theorem gm_d_MD_readSign_13 : decode gm_b_MD_readSign 13 = .ok (.bipush 47, 2) := by decide +kernel
theorem gm_d_MD_readSign_15 : decode gm_b_MD_readSign 15 = .ok (.if_icmp .eq 24, 3) := by decide +kernel
theorem gm_d_MD_readSign_18 : decode gm_b_MD_readSign 18 = .ok (.iload_n 1, 1) := by decide +kernel
theorem gm_d_MD_readSign_19 : decode gm_b_MD_readSign 19 = .ok (.aload_n 0, 1) := by decide +kernel
theorem gm_d_MD_readSign_20 : decode gm_b_MD_readSign 20 = .ok (.getfield 61, 3) := by decide +kernel
theorem gm_d_MD_readSign_23 : decode gm_b_MD_readSign 23 = .ok (.aload_n 0, 1) := by decide +kernel
theorem gm_d_MD_readSign_24 : decode gm_b_MD_readSign 24 = .ok (.getfield 133, 3) := by decide +kernel
theorem gm_d_MD_readSign_27 : decode gm_b_MD_readSign 27 = .ok (.iaload, 1) := by decide +kernel
theorem gm_d_MD_readSign_28 : decode gm_b_MD_readSign 28 = .ok (.invokestatic 172, 3) := by decide +kernel
theorem gm_d_MD_readSign_31 : decode gm_b_MD_readSign 31 = .ok (.if_icmp .eq 8, 3) := by decide +kernel
theorem gm_d_MD_readSign_34 : decode gm_b_MD_readSign 34 = .ok (.aload_n 0, 1) := by decide +kernel
theorem gm_d_MD_readSign_35 : decode gm_b_MD_readSign 35 = .ok (.invokevirtual 130, 3) := by decide +kernel
theorem gm_d_MD_readSign_38 : decode gm_b_MD_readSign 38 = .ok (.return_, 1) := by decide +kernel
theorem gm_d_MD_readSign_39 : decode gm_b_MD_readSign 39 = .ok (.aload_n 0, 1) := by decide +kernel
theorem gm_d_MD_readSign_40 : decode gm_b_MD_readSign 40 = .ok (.dup, 1) := by decide +kernel
theorem gm_d_MD_readSign_41 : decode gm_b_MD_readSign 41 = .ok (.getfield 109, 3) := by decide +kernel
theorem gm_d_MD_readSign_44 : decode gm_b_MD_readSign 44 = .ok (.iconst 1, 1) := by decide +kernel
theorem gm_d_MD_readSign_45 : decode gm_b_MD_readSign 45 = .ok (.iadd, 1) := by decide +kernel
theorem gm_d_MD_readSign_46 : decode gm_b_MD_readSign 46 = .ok (.putfield 109, 3) := by decide +kernel
theorem gm_d_MD_readSign_49 : decode gm_b_MD_readSign 49 = .ok (.iload_n 1, 1) := by decide +kernel
theorem gm_d_MD_readSign_50 : decode gm_b_MD_readSign 50 = .ok (.bipush 38, 2) := by decide +kernel
theorem gm_d_MD_readSign_52 : decode gm_b_MD_readSign 52 = .ok (.if_icmp .eq 9, 3) := by decide +kernel
theorem gm_d_MD_readSign_55 : decode gm_b_MD_readSign 55 = .ok (.iload_n 1, 1) := by decide +kernel
theorem gm_d_MD_readSign_56 : decode gm_b_MD_readSign 56 = .ok (.bipush 33, 2) := by decide +kernel
theorem gm_d_MD_readSign_58 : decode gm_b_MD_readSign 58 = .ok (.if_icmp .ne 11, 3) := by decide +kernel
theorem gm_d_MD_readSign_61 : decode gm_b_MD_readSign 61 = .ok (.aload_n 0, 1) := by decide +kernel
theorem gm_d_MD_readSign_62 : decode gm_b_MD_readSign 62 = .ok (.iload_n 1, 1) := by decide +kernel
theorem gm_d_MD_readSign_63 : decode gm_b_MD_readSign 63 = .ok (.putfield 142, 3) := by decide +kernel
theorem gm_d_MD_readSign_66 : decode gm_b_MD_readSign 66 = .ok (.goto 20, 3) := by decide +kernel
theorem gm_d_MD_readSign_69 : decode gm_b_MD_readSign 69 = .ok (.iload_n 1, 1) := by decide +kernel
theorem gm_d_MD_readSign_70 : decode gm_b_MD_readSign 70 = .ok (.bipush 47, 2) := by decide +kernel
theorem gm_d_MD_readSign_72 : decode gm_b_MD_readSign 72 = .ok (.if_icmp .ne 10, 3) := by decide +kernel
theorem gm_d_MD_readSign_75 : decode gm_b_MD_readSign 75 = .ok (.aload_n 0, 1) := by decide +kernel
theorem gm_d_MD_readSign_76 : decode gm_b_MD_readSign 76 = .ok (.invokevirtual 176, 3) := by decide +kernel
theorem gm_d_MD_readSign_79 : decode gm_b_MD_readSign 79 = .ok (.goto 7, 3) := by decide +kernel
theorem gm_d_MD_readSign_82 : decode gm_b_MD_readSign 82 = .ok (.aload_n 0, 1) := by decide +kernel
theorem gm_d_MD_readSign_83 : decode gm_b_MD_readSign 83 = .ok (.invokevirtual 179, 3) := by decide +kernel
theorem gm_d_MD_readSign_86 : decode gm_b_MD_readSign 86 = .ok (.return_, 1) := by decide +kernel
theorem gm_d_MD_readPart_0 : decode gm_b_MD_readPart 0 = .ok (.aload_n 0, 1) := by decide +kernel
theorem gm_d_MD_readPart_1 : decode gm_b_MD_readPart 1 = .ok (.invokevirtual 122, 3) := by decide +kernel
theorem gm_d_MD_readPart_4 : decode gm_b_MD_readPart 4 = .ok (.istore_n 1, 1) := by decide +kernel
theorem gm_d_MD_readPart_5 : decode gm_b_MD_readPart 5 = .ok (.iload_n 1, 1) := by decide +kernel
theorem gm_d_MD_readPart_6 : decode gm_b_MD_readPart 6 = .ok (.bipush 65, 2) := by decide +kernel
theorem gm_d_MD_readPart_8 : decode gm_b_MD_readPart 8 = .ok (.if_icmp .lt 33, 3) := by decide +kernel
theorem gm_d_MD_readPart_11 : decode gm_b_MD_readPart 11 = .ok (.iload_n 1, 1) := by decide +kernel
theorem gm_d_MD_readPart_12 : decode gm_b_MD_readPart 12 = .ok (.bipush 90, 2) := by decide +kernel
theorem gm_d_MD_readPart_14 : decode gm_b_MD_readPart 14 = .ok (.if_icmp .gt 27, 3) := by decide +kernel
theorem gm_d_MD_readPart_17 : decode gm_b_MD_readPart 17 = .ok (.aload_n 0, 1) := by decide +kernel
theorem gm_d_MD_readPart_18 : decode gm_b_MD_readPart 18 = .ok (.dup, 1) := by decide +kernel
theorem gm_d_MD_readPart_19 : decode gm_b_MD_readPart 19 = .ok (.getfield 109, 3) := by decide +kernel
theorem gm_d_MD_readPart_22 : decode gm_b_MD_readPart 22 = .ok (.iconst 1, 1) := by decide +kernel
theorem gm_d_MD_readPart_23 : decode gm_b_MD_readPart 23 = .ok (.iadd, 1) := by decide +kernel
theorem gm_d_MD_readPart_24 : decode gm_b_MD_readPart 24 = .ok (.putfield 109, 3) := by decide +kernel
theorem gm_d_MD_readPart_27 : decode gm_b_MD_readPart 27 = .ok (.aload_n 0, 1) := by decide +kernel
theorem gm_d_MD_readPart_28 : decode gm_b_MD_readPart 28 = .ok (.aload_n 0, 1) := by decide +kernel
theorem gm_d_MD_readPart_29 : decode gm_b_MD_readPart 29 = .ok (.iconst 3, 1) := by decide +kernel
theorem gm_d_MD_readPart_30 : decode gm_b_MD_readPart 30 = .ok (.iload_n 1, 1) := by decide +kernel
theorem gm_d_MD_readPart_31 : decode gm_b_MD_readPart 31 = .ok (.iconst (-1), 1) := by decide +kernel
theorem gm_d_MD_readPart_32 : decode gm_b_MD_readPart 32 = .ok (.invokevirtual 151, 3) := by decide +kernel
theorem gm_d_MD_readPart_35 : decode gm_b_MD_readPart 35 = .ok (.invokevirtual 155, 3) := by decide +kernel
theorem gm_d_MD_readPart_38 : decode gm_b_MD_readPart 38 = .ok (.goto 187, 3) := by decide +kernel
theorem gm_d_MD_readPart_41 : decode gm_b_MD_readPart 41 = .ok (.iload_n 1, 1) := by decide +kernel
theorem gm_d_MD_readPart_42 : decode gm_b_MD_readPart 42 = .ok (.bipush 46, 2) := by decide +kernel
theorem gm_d_MD_readPart_44 : decode gm_b_MD_readPart 44 = .ok (.if_icmp .ne 38, 3) := by decide +kernel
theorem gm_d_MD_readPart_47 : decode gm_b_MD_readPart 47 = .ok (.aload_n 0, 1) := by decide +kernel
theorem gm_d_MD_readPart_48 : decode gm_b_MD_readPart 48 = .ok (.dup, 1) := by decide +kernel
theorem gm_d_MD_readPart_49 : decode gm_b_MD_readPart 49 = .ok (.getfield 109, 3) := by decide +kernel
theorem gm_d_MD_readPart_52 : decode gm_b_MD_readPart 52 = .ok (.iconst 1, 1) := by decide +kernel
theorem gm_d_MD_readPart_53 : decode gm_b_MD_readPart 53 = .ok (.iadd, 1) := by decide +kernel
theorem gm_d_MD_readPart_54 : decode gm_b_MD_readPart 54 = .ok (.putfield 109, 3) := by decide +kernel
theorem gm_d_MD_readPart_57 : decode gm_b_MD_readPart 57 = .ok (.aload_n 0, 1) := by decide +kernel
theorem gm_d_MD_readPart_58 : decode gm_b_MD_readPart 58 = .ok (.iconst 2, 1) := by decide +kernel
theorem gm_d_MD_readPart_59 : decode gm_b_MD_readPart 59 = .ok (.iconst (-1), 1) := by decide +kernel
theorem gm_d_MD_readPart_60 : decode gm_b_MD_readPart 60 = .ok (.iconst (-1), 1) := by decide +kernel
theorem gm_d_MD_readPart_61 : decode gm_b_MD_readPart 61 = .ok (.invokevirtual 151, 3) := by decide +kernel
theorem gm_d_MD_readPart_64 : decode gm_b_MD_readPart 64 = .ok (.istore_n 2, 1) := by decide +kernel
theorem gm_d_MD_readPart_65 : decode gm_b_MD_readPart 65 = .ok (.aload_n 0, 1) := by decide +kernel
theorem gm_d_MD_readPart_66 : decode gm_b_MD_readPart 66 = .ok (.iload_n 2, 1) := by decide +kernel
theorem gm_d_MD_readPart_67 : decode gm_b_MD_readPart 67 = .ok (.bipush 32, 2) := by decide +kernel
theorem gm_d_MD_readPart_69 : decode gm_b_MD_readPart 69 = .ok (.bipush 126, 2) := by decide +kernel
theorem gm_d_MD_readPart_71 : decode gm_b_MD_readPart 71 = .ok (.invokevirtual 159, 3) := by decide +kernel
theorem gm_d_MD_readPart_74 : decode gm_b_MD_readPart 74 = .ok (.aload_n 0, 1) := by decide +kernel
theorem gm_d_MD_readPart_75 : decode gm_b_MD_readPart 75 = .ok (.iload_n 2, 1) := by decide +kernel
theorem gm_d_MD_readPart_76 : decode gm_b_MD_readPart 76 = .ok (.invokevirtual 155, 3) := by decide +kernel
theorem gm_d_MD_readPart_79 : decode gm_b_MD_readPart 79 = .ok (.goto 146, 3) := by decide +kernel
theorem gm_d_MD_readPart_82 : decode gm_b_MD_readPart 82 = .ok (.iload_n 1, 1) := by decide +kernel
theorem gm_d_MD_readPart_83 : decode gm_b_MD_readPart 83 = .ok (.bipush 39, 2) := by decide +kernel
theorem gm_d_MD_readPart_85 : decode gm_b_MD_readPart 85 = .ok (.if_icmp .ne 10, 3) := by decide +kernel
theorem gm_d_MD_readPart_88 : decode gm_b_MD_readPart 88 = .ok (.aload_n 0, 1) := by decide +kernel
theorem gm_d_MD_readPart_89 : decode gm_b_MD_readPart 89 = .ok (.invokevirtual 163, 3) := by decide +kernel
theorem gm_d_MD_readPart_92 : decode gm_b_MD_readPart 92 = .ok (.goto 133, 3) := by decide +kernel
theorem gm_d_MD_readPart_95 : decode gm_b_MD_readPart 95 = .ok (.iload_n 1, 1) := by decide +kernel
theorem gm_d_MD_readPart_96 : decode gm_b_MD_readPart 96 = .ok (.bipush 91, 2) := by decide +kernel
theorem gm_d_MD_readPart_98 : decode gm_b_MD_readPart 98 = .ok (.if_icmp .ne 10, 3) := by decide +kernel
theorem gm_d_MD_readPart_101 : decode gm_b_MD_readPart 101 = .ok (.aload_n 0, 1) := by decide +kernel
theorem gm_d_MD_readPart_102 : decode gm_b_MD_readPart 102 = .ok (.invokevirtual 166, 3) := by decide +kernel
theorem gm_d_MD_readPart_105 : decode gm_b_MD_readPart 105 = .ok (.goto 120, 3) := by decide +kernel
theorem gm_d_MD_readPart_108 : decode gm_b_MD_readPart 108 = .ok (.iload_n 1, 1) := by decide +kernel
theorem gm_d_MD_readPart_109 : decode gm_b_MD_readPart 109 = .ok (.bipush 40, 2) := by decide +kernel
theorem gm_d_MD_readPart_111 : decode gm_b_MD_readPart 111 = .ok (.if_icmp .eq 9, 3) := by decide +kernel
theorem gm_d_MD_readPart_114 : decode gm_b_MD_readPart 114 = .ok (.iload_n 1, 1) := by decide +kernel
theorem gm_d_MD_readPart_115 : decode gm_b_MD_readPart 115 = .ok (.bipush 123, 2) := by decide +kernel
theorem gm_d_MD_readPart_117 : decode gm_b_MD_readPart 117 = .ok (.if_icmp .ne 89, 3) := by decide +kernel
theorem gm_d_MD_readPart_120 : decode gm_b_MD_readPart 120 = .ok (.aload_n 0, 1) := by decide +kernel
theorem gm_d_MD_readPart_121 : decode gm_b_MD_readPart 121 = .ok (.getfield 133, 3) := by decide +kernel
theorem gm_d_MD_readPart_124 : decode gm_b_MD_readPart 124 = .ok (.bipush 6, 2) := by decide +kernel
theorem gm_d_MD_readPart_126 : decode gm_b_MD_readPart 126 = .ok (.if_icmp .ge 80, 3) := by decide +kernel
theorem gm_d_MD_readPart_129 : decode gm_b_MD_readPart 129 = .ok (.aload_n 0, 1) := by decide +kernel
theorem gm_d_MD_readPart_130 : decode gm_b_MD_readPart 130 = .ok (.dup, 1) := by decide +kernel
theorem gm_d_MD_readPart_131 : decode gm_b_MD_readPart 131 = .ok (.getfield 109, 3) := by decide +kernel
theorem gm_d_MD_readPart_134 : decode gm_b_MD_readPart 134 = .ok (.iconst 1, 1) := by decide +kernel
theorem gm_d_MD_readPart_135 : decode gm_b_MD_readPart 135 = .ok (.iadd, 1) := by decide +kernel
theorem gm_d_MD_readPart_136 : decode gm_b_MD_readPart 136 = .ok (.putfield 109, 3) := by decide +kernel
theorem gm_d_MD_readPart_139 : decode gm_b_MD_readPart 139 = .ok (.aload_n 0, 1) := by decide +kernel
theorem gm_d_MD_readPart_140 : decode gm_b_MD_readPart 140 = .ok (.dup, 1) := by decide +kernel
theorem gm_d_MD_readPart_141 : decode gm_b_MD_readPart 141 = .ok (.getfield 133, 3) := by decide +kernel
theorem gm_d_MD_readPart_144 : decode gm_b_MD_readPart 144 = .ok (.iconst 1, 1) := by decide +kernel
theorem gm_d_MD_readPart_145 : decode gm_b_MD_readPart 145 = .ok (.iadd, 1) := by decide +kernel
theorem gm_d_MD_readPart_146 : decode gm_b_MD_readPart 146 = .ok (.putfield 133, 3) := by decide +kernel
theorem gm_d_MD_readPart_149 : decode gm_b_MD_readPart 149 = .ok (.aload_n 0, 1) := by decide +kernel
theorem gm_d_MD_readPart_150 : decode gm_b_MD_readPart 150 = .ok (.getfield 61, 3) := by decide +kernel
theorem gm_d_MD_readPart_153 : decode gm_b_MD_readPart 153 = .ok (.aload_n 0, 1) := by decide +kernel
theorem gm_d_MD_readPart_154 : decode gm_b_MD_readPart 154 = .ok (.getfield 133, 3) := by decide +kernel
theorem gm_d_MD_readPart_157 : decode gm_b_MD_readPart 157 = .ok (.iload_n 1, 1) := by decide +kernel
theorem gm_d_MD_readPart_158 : decode gm_b_MD_readPart 158 = .ok (.iastore, 1) := by decide +kernel
theorem gm_d_MD_readPart_159 : decode gm_b_MD_readPart 159 = .ok (.aload_n 0, 1) := by decide +kernel
theorem gm_d_MD_readPart_160 : decode gm_b_MD_readPart 160 = .ok (.getfield 64, 3) := by decide +kernel
theorem gm_d_MD_readPart_163 : decode gm_b_MD_readPart 163 = .ok (.aload_n 0, 1) := by decide +kernel
theorem gm_d_MD_readPart_164 : decode gm_b_MD_readPart 164 = .ok (.getfield 133, 3) := by decide +kernel
theorem gm_d_MD_readPart_167 : decode gm_b_MD_readPart 167 = .ok (.aload_n 0, 1) := by decide +kernel
theorem gm_d_MD_readPart_168 : decode gm_b_MD_readPart 168 = .ok (.getfield 142, 3) := by decide +kernel
theorem gm_d_MD_readPart_171 : decode gm_b_MD_readPart 171 = .ok (.iastore, 1) := by decide +kernel
theorem gm_d_MD_readPart_172 : decode gm_b_MD_readPart 172 = .ok (.aload_n 0, 1) := by decide +kernel
theorem gm_d_MD_readPart_173 : decode gm_b_MD_readPart 173 = .ok (.getfield 67, 3) := by decide +kernel
theorem gm_d_MD_readPart_176 : decode gm_b_MD_readPart 176 = .ok (.aload_n 0, 1) := by decide +kernel
theorem gm_d_MD_readPart_177 : decode gm_b_MD_readPart 177 = .ok (.getfield 133, 3) := by decide +kernel
theorem gm_d_MD_readPart_180 : decode gm_b_MD_readPart 180 = .ok (.aload_n 0, 1) := by decide +kernel
theorem gm_d_MD_readPart_181 : decode gm_b_MD_readPart 181 = .ok (.getfield 136, 3) := by decide +kernel
theorem gm_d_MD_readPart_184 : decode gm_b_MD_readPart 184 = .ok (.iastore, 1) := by decide +kernel
theorem gm_d_MD_readPart_185 : decode gm_b_MD_readPart 185 = .ok (.aload_n 0, 1) := by decide +kernel
theorem gm_d_MD_readPart_186 : decode gm_b_MD_readPart 186 = .ok (.getfield 70, 3) := by decide +kernel
theorem gm_d_MD_readPart_189 : decode gm_b_MD_readPart 189 = .ok (.aload_n 0, 1) := by decide +kernel
theorem gm_d_MD_readPart_190 : decode gm_b_MD_readPart 190 = .ok (.getfield 133, 3) := by decide +kernel
theorem gm_d_MD_readPart_193 : decode gm_b_MD_readPart 193 = .ok (.aload_n 0, 1) := by decide +kernel
theorem gm_d_MD_readPart_194 : decode gm_b_MD_readPart 194 = .ok (.getfield 139, 3) := by decide +kernel
theorem gm_d_MD_readPart_197 : decode gm_b_MD_readPart 197 = .ok (.iastore, 1) := by decide +kernel
theorem gm_d_MD_readPart_198 : decode gm_b_MD_readPart 198 = .ok (.aload_n 0, 1) := by decide +kernel
theorem gm_d_MD_readPart_199 : decode gm_b_MD_readPart 199 = .ok (.iconst 0, 1) := by decide +kernel
theorem gm_d_MD_readPart_200 : decode gm_b_MD_readPart 200 = .ok (.putfield 142, 3) := by decide +kernel
theorem gm_d_MD_readPart_203 : decode gm_b_MD_readPart 203 = .ok (.goto 22, 3) := by decide +kernel
theorem gm_d_MD_readPart_206 : decode gm_b_MD_readPart 206 = .ok (.aload_n 0, 1) := by decide +kernel
theorem gm_d_MD_readPart_207 : decode gm_b_MD_readPart 207 = .ok (.getfield 142, 3) := by decide +kernel
theorem gm_d_MD_readPart_210 : decode gm_b_MD_readPart 210 = .ok (.ifCond .ne 11, 3) := by decide +kernel
theorem gm_d_MD_readPart_213 : decode gm_b_MD_readPart 213 = .ok (.aload_n 0, 1) := by decide +kernel
theorem gm_d_MD_readPart_214 : decode gm_b_MD_readPart 214 = .ok (.iload_n 1, 1) := by decide +kernel
theorem gm_d_MD_readPart_215 : decode gm_b_MD_readPart 215 = .ok (.invokevirtual 169, 3) := by decide +kernel
theorem gm_d_MD_readPart_218 : decode gm_b_MD_readPart 218 = .ok (.goto 7, 3) := by decide +kernel
theorem gm_d_MD_readPart_221 : decode gm_b_MD_readPart 221 = .ok (.aload_n 0, 1) := by decide +kernel
theorem gm_d_MD_readPart_222 : decode gm_b_MD_readPart 222 = .ok (.invokevirtual 130, 3) := by decide +kernel
theorem gm_d_MD_readPart_225 : decode gm_b_MD_readPart 225 = .ok (.return_, 1) := by decide +kernel
theorem gm_d_MD_meant_0 : decode gm_b_MD_meant 0 = .ok (.aload_n 0, 1) := by decide +kernel
theorem gm_d_MD_meant_1 : decode gm_b_MD_meant 1 = .ok (.iload_n 1, 1) := by decide +kernel
theorem gm_d_MD_meant_2 : decode gm_b_MD_meant 2 = .ok (.sipush 160, 3) := by decide +kernel
theorem gm_d_MD_meant_5 : decode gm_b_MD_meant 5 = .ok (.idiv, 1) := by decide +kernel
theorem gm_d_MD_meant_6 : decode gm_b_MD_meant 6 = .ok (.aload_n 0, 1) := by decide +kernel
theorem gm_d_MD_meant_7 : decode gm_b_MD_meant 7 = .ok (.getfield 35, 3) := by decide +kernel
theorem gm_d_MD_meant_10 : decode gm_b_MD_meant 10 = .ok (.iload_n 1, 1) := by decide +kernel
theorem gm_d_MD_meant_11 : decode gm_b_MD_meant 11 = .ok (.iaload, 1) := by decide +kernel
theorem gm_d_MD_meant_12 : decode gm_b_MD_meant 12 = .ok (.invokevirtual 126, 3) := by decide +kernel
theorem gm_d_MD_meant_15 : decode gm_b_MD_meant 15 = .ok (.istore_n 2, 1) := by decide +kernel
theorem gm_d_MD_meant_16 : decode gm_b_MD_meant 16 = .ok (.iload_n 2, 1) := by decide +kernel
theorem gm_d_MD_meant_17 : decode gm_b_MD_meant 17 = .ok (.iconst (-1), 1) := by decide +kernel
theorem gm_d_MD_meant_18 : decode gm_b_MD_meant 18 = .ok (.if_icmp .ne 7, 3) := by decide +kernel
theorem gm_d_MD_meant_21 : decode gm_b_MD_meant 21 = .ok (.iconst (-1), 1) := by decide +kernel
theorem gm_d_MD_meant_22 : decode gm_b_MD_meant 22 = .ok (.goto 18, 3) := by decide +kernel
theorem gm_d_MD_meant_25 : decode gm_b_MD_meant 25 = .ok (.aload_n 0, 1) := by decide +kernel
theorem gm_d_MD_meant_26 : decode gm_b_MD_meant 26 = .ok (.getfield 26, 3) := by decide +kernel
theorem gm_d_MD_meant_29 : decode gm_b_MD_meant 29 = .ok (.bipush 8, 2) := by decide +kernel
theorem gm_d_MD_meant_31 : decode gm_b_MD_meant 31 = .ok (.iload_n 1, 1) := by decide +kernel
theorem gm_d_MD_meant_32 : decode gm_b_MD_meant 32 = .ok (.sipush 160, 3) := by decide +kernel
theorem gm_d_MD_meant_35 : decode gm_b_MD_meant 35 = .ok (.idiv, 1) := by decide +kernel
theorem gm_d_MD_meant_36 : decode gm_b_MD_meant 36 = .ok (.imul, 1) := by decide +kernel
theorem gm_d_MD_meant_37 : decode gm_b_MD_meant 37 = .ok (.iload_n 2, 1) := by decide +kernel
theorem gm_d_MD_meant_38 : decode gm_b_MD_meant 38 = .ok (.iadd, 1) := by decide +kernel
theorem gm_d_MD_meant_39 : decode gm_b_MD_meant 39 = .ok (.iaload, 1) := by decide +kernel
theorem gm_d_MD_meant_40 : decode gm_b_MD_meant 40 = .ok (.ireturn, 1) := by decide +kernel
theorem gm_d_MD_isEmpty_0 : decode gm_b_MD_isEmpty 0 = .ok (.aload_n 0, 1) := by decide +kernel
theorem gm_d_MD_isEmpty_1 : decode gm_b_MD_isEmpty 1 = .ok (.getfield 32, 3) := by decide +kernel
theorem gm_d_MD_isEmpty_4 : decode gm_b_MD_isEmpty 4 = .ok (.iload_n 1, 1) := by decide +kernel
theorem gm_d_MD_isEmpty_5 : decode gm_b_MD_isEmpty 5 = .ok (.iaload, 1) := by decide +kernel
theorem gm_d_MD_isEmpty_6 : decode gm_b_MD_isEmpty 6 = .ok (.tableswitch 147 1 10 #[54, 54, 56, 67, 101, 147, 147, 147, 147, 135], 54) := by decide +kernel
theorem gm_d_MD_isEmpty_60 : decode gm_b_MD_isEmpty 60 = .ok (.iconst 0, 1) := by decide +kernel
theorem gm_d_MD_isEmpty_61 : decode gm_b_MD_isEmpty 61 = .ok (.ireturn, 1) := by decide +kernel
theorem gm_d_MD_isEmpty_62 : decode gm_b_MD_isEmpty 62 = .ok (.aload_n 0, 1) := by decide +kernel
theorem gm_d_MD_isEmpty_63 : decode gm_b_MD_isEmpty 63 = .ok (.getfield 47, 3) := by decide +kernel
theorem gm_d_MD_isEmpty_66 : decode gm_b_MD_isEmpty 66 = .ok (.aload_n 0, 1) := by decide +kernel
theorem gm_d_MD_isEmpty_67 : decode gm_b_MD_isEmpty 67 = .ok (.iload_n 1, 1) := by decide +kernel
theorem gm_d_MD_isEmpty_68 : decode gm_b_MD_isEmpty 68 = .ok (.invokevirtual 182, 3) := by decide +kernel
theorem gm_d_MD_isEmpty_71 : decode gm_b_MD_isEmpty 71 = .ok (.baload, 1) := by decide +kernel
theorem gm_d_MD_isEmpty_72 : decode gm_b_MD_isEmpty 72 = .ok (.ireturn, 1) := by decide +kernel
theorem gm_d_MD_isEmpty_73 : decode gm_b_MD_isEmpty 73 = .ok (.aload_n 0, 1) := by decide +kernel
theorem gm_d_MD_isEmpty_74 : decode gm_b_MD_isEmpty 74 = .ok (.getfield 47, 3) := by decide +kernel
theorem gm_d_MD_isEmpty_77 : decode gm_b_MD_isEmpty 77 = .ok (.aload_n 0, 1) := by decide +kernel
theorem gm_d_MD_isEmpty_78 : decode gm_b_MD_isEmpty 78 = .ok (.getfield 35, 3) := by decide +kernel
theorem gm_d_MD_isEmpty_81 : decode gm_b_MD_isEmpty 81 = .ok (.iload_n 1, 1) := by decide +kernel
theorem gm_d_MD_isEmpty_82 : decode gm_b_MD_isEmpty 82 = .ok (.iaload, 1) := by decide +kernel
theorem gm_d_MD_isEmpty_83 : decode gm_b_MD_isEmpty 83 = .ok (.baload, 1) := by decide +kernel
theorem gm_d_MD_isEmpty_84 : decode gm_b_MD_isEmpty 84 = .ok (.ifCond .eq 21, 3) := by decide +kernel
theorem gm_d_MD_isEmpty_87 : decode gm_b_MD_isEmpty 87 = .ok (.aload_n 0, 1) := by decide +kernel
theorem gm_d_MD_isEmpty_88 : decode gm_b_MD_isEmpty 88 = .ok (.getfield 47, 3) := by decide +kernel
theorem gm_d_MD_isEmpty_91 : decode gm_b_MD_isEmpty 91 = .ok (.aload_n 0, 1) := by decide +kernel
theorem gm_d_MD_isEmpty_92 : decode gm_b_MD_isEmpty 92 = .ok (.getfield 38, 3) := by decide +kernel
theorem gm_d_MD_isEmpty_95 : decode gm_b_MD_isEmpty 95 = .ok (.iload_n 1, 1) := by decide +kernel
theorem gm_d_MD_isEmpty_96 : decode gm_b_MD_isEmpty 96 = .ok (.iaload, 1) := by decide +kernel
theorem gm_d_MD_isEmpty_97 : decode gm_b_MD_isEmpty 97 = .ok (.baload, 1) := by decide +kernel
theorem gm_d_MD_isEmpty_98 : decode gm_b_MD_isEmpty 98 = .ok (.ifCond .eq 7, 3) := by decide +kernel
theorem gm_d_MD_isEmpty_101 : decode gm_b_MD_isEmpty 101 = .ok (.iconst 1, 1) := by decide +kernel
theorem gm_d_MD_isEmpty_102 : decode gm_b_MD_isEmpty 102 = .ok (.goto 4, 3) := by decide +kernel
theorem gm_d_MD_isEmpty_105 : decode gm_b_MD_isEmpty 105 = .ok (.iconst 0, 1) := by decide +kernel
theorem gm_d_MD_isEmpty_106 : decode gm_b_MD_isEmpty 106 = .ok (.ireturn, 1) := by decide +kernel
theorem gm_d_MD_isEmpty_107 : decode gm_b_MD_isEmpty 107 = .ok (.aload_n 0, 1) := by decide +kernel
theorem gm_d_MD_isEmpty_108 : decode gm_b_MD_isEmpty 108 = .ok (.getfield 47, 3) := by decide +kernel
theorem gm_d_MD_isEmpty_111 : decode gm_b_MD_isEmpty 111 = .ok (.aload_n 0, 1) := by decide +kernel
theorem gm_d_MD_isEmpty_112 : decode gm_b_MD_isEmpty 112 = .ok (.getfield 35, 3) := by decide +kernel
theorem gm_d_MD_isEmpty_115 : decode gm_b_MD_isEmpty 115 = .ok (.iload_n 1, 1) := by decide +kernel
theorem gm_d_MD_isEmpty_116 : decode gm_b_MD_isEmpty 116 = .ok (.iaload, 1) := by decide +kernel
theorem gm_d_MD_isEmpty_117 : decode gm_b_MD_isEmpty 117 = .ok (.baload, 1) := by decide +kernel
theorem gm_d_MD_isEmpty_118 : decode gm_b_MD_isEmpty 118 = .ok (.ifCond .ne 17, 3) := by decide +kernel
theorem gm_d_MD_isEmpty_121 : decode gm_b_MD_isEmpty 121 = .ok (.aload_n 0, 1) := by decide +kernel
theorem gm_d_MD_isEmpty_122 : decode gm_b_MD_isEmpty 122 = .ok (.getfield 47, 3) := by decide +kernel
theorem gm_d_MD_isEmpty_125 : decode gm_b_MD_isEmpty 125 = .ok (.aload_n 0, 1) := by decide +kernel
theorem gm_d_MD_isEmpty_126 : decode gm_b_MD_isEmpty 126 = .ok (.getfield 38, 3) := by decide +kernel
theorem gm_d_MD_isEmpty_129 : decode gm_b_MD_isEmpty 129 = .ok (.iload_n 1, 1) := by decide +kernel
theorem gm_d_MD_isEmpty_130 : decode gm_b_MD_isEmpty 130 = .ok (.iaload, 1) := by decide +kernel
theorem gm_d_MD_isEmpty_131 : decode gm_b_MD_isEmpty 131 = .ok (.baload, 1) := by decide +kernel
theorem gm_d_MD_isEmpty_132 : decode gm_b_MD_isEmpty 132 = .ok (.ifCond .eq 7, 3) := by decide +kernel
theorem gm_d_MD_isEmpty_135 : decode gm_b_MD_isEmpty 135 = .ok (.iconst 1, 1) := by decide +kernel
theorem gm_d_MD_isEmpty_136 : decode gm_b_MD_isEmpty 136 = .ok (.goto 4, 3) := by decide +kernel
theorem gm_d_MD_isEmpty_139 : decode gm_b_MD_isEmpty 139 = .ok (.iconst 0, 1) := by decide +kernel
theorem gm_d_MD_isEmpty_140 : decode gm_b_MD_isEmpty 140 = .ok (.ireturn, 1) := by decide +kernel
theorem gm_d_MD_isEmpty_141 : decode gm_b_MD_isEmpty 141 = .ok (.aload_n 0, 1) := by decide +kernel
theorem gm_d_MD_isEmpty_142 : decode gm_b_MD_isEmpty 142 = .ok (.getfield 47, 3) := by decide +kernel
theorem gm_d_MD_isEmpty_145 : decode gm_b_MD_isEmpty 145 = .ok (.aload_n 0, 1) := by decide +kernel
theorem gm_d_MD_isEmpty_146 : decode gm_b_MD_isEmpty 146 = .ok (.getfield 35, 3) := by decide +kernel
theorem gm_d_MD_isEmpty_149 : decode gm_b_MD_isEmpty 149 = .ok (.iload_n 1, 1) := by decide +kernel
theorem gm_d_MD_isEmpty_150 : decode gm_b_MD_isEmpty 150 = .ok (.iaload, 1) := by decide +kernel
theorem gm_d_MD_isEmpty_151 : decode gm_b_MD_isEmpty 151 = .ok (.baload, 1) := by decide +kernel
theorem gm_d_MD_isEmpty_152 : decode gm_b_MD_isEmpty 152 = .ok (.ireturn, 1) := by decide +kernel
theorem gm_d_MD_isEmpty_153 : decode gm_b_MD_isEmpty 153 = .ok (.iconst 1, 1) := by decide +kernel
theorem gm_d_MD_isEmpty_154 : decode gm_b_MD_isEmpty 154 = .ok (.ireturn, 1) := by decide +kernel
theorem gm_d_MD_beginsOf_0 : decode gm_b_MD_beginsOf 0 = .ok (.aload_n 0, 1) := by decide +kernel
theorem gm_d_MD_beginsOf_1 : decode gm_b_MD_beginsOf 1 = .ok (.getfield 32, 3) := by decide +kernel
theorem gm_d_MD_beginsOf_4 : decode gm_b_MD_beginsOf 4 = .ok (.iload_n 1, 1) := by decide +kernel
theorem gm_d_MD_beginsOf_5 : decode gm_b_MD_beginsOf 5 = .ok (.iaload, 1) := by decide +kernel
theorem gm_d_MD_beginsOf_6 : decode gm_b_MD_beginsOf 6 = .ok (.tableswitch 135 0 5 #[38, 38, 38, 40, 69, 111], 38) := by decide +kernel
theorem gm_d_MD_beginsOf_44 : decode gm_b_MD_beginsOf 44 = .ok (.iconst 0, 1) := by decide +kernel
theorem gm_d_MD_beginsOf_45 : decode gm_b_MD_beginsOf 45 = .ok (.ireturn, 1) := by decide +kernel
theorem gm_d_MD_beginsOf_46 : decode gm_b_MD_beginsOf 46 = .ok (.iconst 1, 1) := by decide +kernel
theorem gm_d_MD_beginsOf_47 : decode gm_b_MD_beginsOf 47 = .ok (.aload_n 0, 1) := by decide +kernel
theorem gm_d_MD_beginsOf_48 : decode gm_b_MD_beginsOf 48 = .ok (.iload_n 1, 1) := by decide +kernel
theorem gm_d_MD_beginsOf_49 : decode gm_b_MD_beginsOf 49 = .ok (.sipush 160, 3) := by decide +kernel
theorem gm_d_MD_beginsOf_52 : decode gm_b_MD_beginsOf 52 = .ok (.idiv, 1) := by decide +kernel
theorem gm_d_MD_beginsOf_53 : decode gm_b_MD_beginsOf 53 = .ok (.aload_n 0, 1) := by decide +kernel
theorem gm_d_MD_beginsOf_54 : decode gm_b_MD_beginsOf 54 = .ok (.getfield 35, 3) := by decide +kernel
theorem gm_d_MD_beginsOf_57 : decode gm_b_MD_beginsOf 57 = .ok (.iload_n 1, 1) := by decide +kernel
theorem gm_d_MD_beginsOf_58 : decode gm_b_MD_beginsOf 58 = .ok (.iaload, 1) := by decide +kernel
theorem gm_d_MD_beginsOf_59 : decode gm_b_MD_beginsOf 59 = .ok (.invokevirtual 126, 3) := by decide +kernel
theorem gm_d_MD_beginsOf_62 : decode gm_b_MD_beginsOf 62 = .ok (.ishl, 1) := by decide +kernel
theorem gm_d_MD_beginsOf_63 : decode gm_b_MD_beginsOf 63 = .ok (.aload_n 0, 1) := by decide +kernel
theorem gm_d_MD_beginsOf_64 : decode gm_b_MD_beginsOf 64 = .ok (.getfield 51, 3) := by decide +kernel
theorem gm_d_MD_beginsOf_67 : decode gm_b_MD_beginsOf 67 = .ok (.aload_n 0, 1) := by decide +kernel
theorem gm_d_MD_beginsOf_68 : decode gm_b_MD_beginsOf 68 = .ok (.iload_n 1, 1) := by decide +kernel
theorem gm_d_MD_beginsOf_69 : decode gm_b_MD_beginsOf 69 = .ok (.invokevirtual 182, 3) := by decide +kernel
theorem gm_d_MD_beginsOf_72 : decode gm_b_MD_beginsOf 72 = .ok (.iaload, 1) := by decide +kernel
theorem gm_d_MD_beginsOf_73 : decode gm_b_MD_beginsOf 73 = .ok (.ior, 1) := by decide +kernel
theorem gm_d_MD_beginsOf_74 : decode gm_b_MD_beginsOf 74 = .ok (.ireturn, 1) := by decide +kernel
theorem gm_d_MD_beginsOf_75 : decode gm_b_MD_beginsOf 75 = .ok (.aload_n 0, 1) := by decide +kernel
theorem gm_d_MD_beginsOf_76 : decode gm_b_MD_beginsOf 76 = .ok (.getfield 51, 3) := by decide +kernel
theorem gm_d_MD_beginsOf_79 : decode gm_b_MD_beginsOf 79 = .ok (.aload_n 0, 1) := by decide +kernel
theorem gm_d_MD_beginsOf_80 : decode gm_b_MD_beginsOf 80 = .ok (.getfield 35, 3) := by decide +kernel
theorem gm_d_MD_beginsOf_83 : decode gm_b_MD_beginsOf 83 = .ok (.iload_n 1, 1) := by decide +kernel
theorem gm_d_MD_beginsOf_84 : decode gm_b_MD_beginsOf 84 = .ok (.iaload, 1) := by decide +kernel
theorem gm_d_MD_beginsOf_85 : decode gm_b_MD_beginsOf 85 = .ok (.iaload, 1) := by decide +kernel
theorem gm_d_MD_beginsOf_86 : decode gm_b_MD_beginsOf 86 = .ok (.aload_n 0, 1) := by decide +kernel
theorem gm_d_MD_beginsOf_87 : decode gm_b_MD_beginsOf 87 = .ok (.getfield 47, 3) := by decide +kernel
theorem gm_d_MD_beginsOf_90 : decode gm_b_MD_beginsOf 90 = .ok (.aload_n 0, 1) := by decide +kernel
theorem gm_d_MD_beginsOf_91 : decode gm_b_MD_beginsOf 91 = .ok (.getfield 35, 3) := by decide +kernel
theorem gm_d_MD_beginsOf_94 : decode gm_b_MD_beginsOf 94 = .ok (.iload_n 1, 1) := by decide +kernel
theorem gm_d_MD_beginsOf_95 : decode gm_b_MD_beginsOf 95 = .ok (.iaload, 1) := by decide +kernel
theorem gm_d_MD_beginsOf_96 : decode gm_b_MD_beginsOf 96 = .ok (.baload, 1) := by decide +kernel
theorem gm_d_MD_beginsOf_97 : decode gm_b_MD_beginsOf 97 = .ok (.ifCond .eq 17, 3) := by decide +kernel
theorem gm_d_MD_beginsOf_100 : decode gm_b_MD_beginsOf 100 = .ok (.aload_n 0, 1) := by decide +kernel
theorem gm_d_MD_beginsOf_101 : decode gm_b_MD_beginsOf 101 = .ok (.getfield 51, 3) := by decide +kernel
theorem gm_d_MD_beginsOf_104 : decode gm_b_MD_beginsOf 104 = .ok (.aload_n 0, 1) := by decide +kernel
theorem gm_d_MD_beginsOf_105 : decode gm_b_MD_beginsOf 105 = .ok (.getfield 38, 3) := by decide +kernel
theorem gm_d_MD_beginsOf_108 : decode gm_b_MD_beginsOf 108 = .ok (.iload_n 1, 1) := by decide +kernel
theorem gm_d_MD_beginsOf_109 : decode gm_b_MD_beginsOf 109 = .ok (.iaload, 1) := by decide +kernel
theorem gm_d_MD_beginsOf_110 : decode gm_b_MD_beginsOf 110 = .ok (.iaload, 1) := by decide +kernel
theorem gm_d_MD_beginsOf_111 : decode gm_b_MD_beginsOf 111 = .ok (.goto 4, 3) := by decide +kernel
theorem gm_d_MD_beginsOf_114 : decode gm_b_MD_beginsOf 114 = .ok (.iconst 0, 1) := by decide +kernel
theorem gm_d_MD_beginsOf_115 : decode gm_b_MD_beginsOf 115 = .ok (.ior, 1) := by decide +kernel
theorem gm_d_MD_beginsOf_116 : decode gm_b_MD_beginsOf 116 = .ok (.ireturn, 1) := by decide +kernel
theorem gm_d_MD_beginsOf_117 : decode gm_b_MD_beginsOf 117 = .ok (.aload_n 0, 1) := by decide +kernel
theorem gm_d_MD_beginsOf_118 : decode gm_b_MD_beginsOf 118 = .ok (.getfield 51, 3) := by decide +kernel
theorem gm_d_MD_beginsOf_121 : decode gm_b_MD_beginsOf 121 = .ok (.aload_n 0, 1) := by decide +kernel
theorem gm_d_MD_beginsOf_122 : decode gm_b_MD_beginsOf 122 = .ok (.getfield 35, 3) := by decide +kernel
theorem gm_d_MD_beginsOf_125 : decode gm_b_MD_beginsOf 125 = .ok (.iload_n 1, 1) := by decide +kernel
theorem gm_d_MD_beginsOf_126 : decode gm_b_MD_beginsOf 126 = .ok (.iaload, 1) := by decide +kernel
theorem gm_d_MD_beginsOf_127 : decode gm_b_MD_beginsOf 127 = .ok (.iaload, 1) := by decide +kernel
theorem gm_d_MD_beginsOf_128 : decode gm_b_MD_beginsOf 128 = .ok (.aload_n 0, 1) := by decide +kernel
theorem gm_d_MD_beginsOf_129 : decode gm_b_MD_beginsOf 129 = .ok (.getfield 51, 3) := by decide +kernel
theorem gm_d_MD_beginsOf_132 : decode gm_b_MD_beginsOf 132 = .ok (.aload_n 0, 1) := by decide +kernel
theorem gm_d_MD_beginsOf_133 : decode gm_b_MD_beginsOf 133 = .ok (.getfield 38, 3) := by decide +kernel
theorem gm_d_MD_beginsOf_136 : decode gm_b_MD_beginsOf 136 = .ok (.iload_n 1, 1) := by decide +kernel
theorem gm_d_MD_beginsOf_137 : decode gm_b_MD_beginsOf 137 = .ok (.iaload, 1) := by decide +kernel
theorem gm_d_MD_beginsOf_138 : decode gm_b_MD_beginsOf 138 = .ok (.iaload, 1) := by decide +kernel
theorem gm_d_MD_beginsOf_139 : decode gm_b_MD_beginsOf 139 = .ok (.ior, 1) := by decide +kernel
theorem gm_d_MD_beginsOf_140 : decode gm_b_MD_beginsOf 140 = .ok (.ireturn, 1) := by decide +kernel
theorem gm_d_MD_beginsOf_141 : decode gm_b_MD_beginsOf 141 = .ok (.aload_n 0, 1) := by decide +kernel
theorem gm_d_MD_beginsOf_142 : decode gm_b_MD_beginsOf 142 = .ok (.getfield 51, 3) := by decide +kernel
theorem gm_d_MD_beginsOf_145 : decode gm_b_MD_beginsOf 145 = .ok (.aload_n 0, 1) := by decide +kernel
theorem gm_d_MD_beginsOf_146 : decode gm_b_MD_beginsOf 146 = .ok (.getfield 35, 3) := by decide +kernel
theorem gm_d_MD_beginsOf_149 : decode gm_b_MD_beginsOf 149 = .ok (.iload_n 1, 1) := by decide +kernel
theorem gm_d_MD_beginsOf_150 : decode gm_b_MD_beginsOf 150 = .ok (.iaload, 1) := by decide +kernel
theorem gm_d_MD_beginsOf_151 : decode gm_b_MD_beginsOf 151 = .ok (.iaload, 1) := by decide +kernel
theorem gm_d_MD_beginsOf_152 : decode gm_b_MD_beginsOf 152 = .ok (.ireturn, 1) := by decide +kernel
theorem gm_d_MD_addHead_0 : decode gm_b_MD_addHead 0 = .ok (.aload_n 0, 1) := by decide +kernel
theorem gm_d_MD_addHead_1 : decode gm_b_MD_addHead 1 = .ok (.getfield 54, 3) := by decide +kernel
theorem gm_d_MD_addHead_4 : decode gm_b_MD_addHead 4 = .ok (.iload_n 1, 1) := by decide +kernel
theorem gm_d_MD_addHead_5 : decode gm_b_MD_addHead 5 = .ok (.dup2, 1) := by decide +kernel
theorem gm_d_MD_addHead_6 : decode gm_b_MD_addHead 6 = .ok (.laload, 1) := by decide +kernel
theorem gm_d_MD_addHead_7 : decode gm_b_MD_addHead 7 = .ok (.aload_n 0, 1) := by decide +kernel
theorem gm_d_MD_addHead_8 : decode gm_b_MD_addHead 8 = .ok (.getfield 54, 3) := by decide +kernel
theorem gm_d_MD_addHead_11 : decode gm_b_MD_addHead 11 = .ok (.iload_n 2, 1) := by decide +kernel
theorem gm_d_MD_addHead_12 : decode gm_b_MD_addHead 12 = .ok (.laload, 1) := by decide +kernel
theorem gm_d_MD_addHead_13 : decode gm_b_MD_addHead 13 = .ok (.lor, 1) := by decide +kernel
theorem gm_d_MD_addHead_14 : decode gm_b_MD_addHead 14 = .ok (.lastore, 1) := by decide +kernel
theorem gm_d_MD_addHead_15 : decode gm_b_MD_addHead 15 = .ok (.aload_n 0, 1) := by decide +kernel
theorem gm_d_MD_addHead_16 : decode gm_b_MD_addHead 16 = .ok (.getfield 58, 3) := by decide +kernel
theorem gm_d_MD_addHead_19 : decode gm_b_MD_addHead 19 = .ok (.iload_n 1, 1) := by decide +kernel
theorem gm_d_MD_addHead_20 : decode gm_b_MD_addHead 20 = .ok (.dup2, 1) := by decide +kernel
theorem gm_d_MD_addHead_21 : decode gm_b_MD_addHead 21 = .ok (.laload, 1) := by decide +kernel
theorem gm_d_MD_addHead_22 : decode gm_b_MD_addHead 22 = .ok (.aload_n 0, 1) := by decide +kernel
theorem gm_d_MD_addHead_23 : decode gm_b_MD_addHead 23 = .ok (.getfield 58, 3) := by decide +kernel
theorem gm_d_MD_addHead_26 : decode gm_b_MD_addHead 26 = .ok (.iload_n 2, 1) := by decide +kernel
theorem gm_d_MD_addHead_27 : decode gm_b_MD_addHead 27 = .ok (.laload, 1) := by decide +kernel
theorem gm_d_MD_addHead_28 : decode gm_b_MD_addHead 28 = .ok (.lor, 1) := by decide +kernel
theorem gm_d_MD_addHead_29 : decode gm_b_MD_addHead 29 = .ok (.lastore, 1) := by decide +kernel
theorem gm_d_MD_addHead_30 : decode gm_b_MD_addHead 30 = .ok (.return_, 1) := by decide +kernel
theorem gm_d_MD_findHead_0 : decode gm_b_MD_findHead 0 = .ok (.aload_n 0, 1) := by decide +kernel
theorem gm_d_MD_findHead_1 : decode gm_b_MD_findHead 1 = .ok (.getfield 32, 3) := by decide +kernel
theorem gm_d_MD_findHead_4 : decode gm_b_MD_findHead 4 = .ok (.iload_n 1, 1) := by decide +kernel
theorem gm_d_MD_findHead_5 : decode gm_b_MD_findHead 5 = .ok (.iaload, 1) := by decide +kernel
theorem gm_d_MD_findHead_6 : decode gm_b_MD_findHead 6 = .ok (.tableswitch 208 1 10 #[54, 208, 181, 117, 156, 194, 194, 208, 208, 194], 54) := by decide +kernel
theorem gm_d_MD_findHead_60 : decode gm_b_MD_findHead 60 = .ok (.aload_n 0, 1) := by decide +kernel
theorem gm_d_MD_findHead_61 : decode gm_b_MD_findHead 61 = .ok (.getfield 44, 3) := by decide +kernel
theorem gm_d_MD_findHead_64 : decode gm_b_MD_findHead 64 = .ok (.bipush 50, 2) := by decide +kernel
theorem gm_d_MD_findHead_66 : decode gm_b_MD_findHead 66 = .ok (.iload_n 1, 1) := by decide +kernel
theorem gm_d_MD_findHead_67 : decode gm_b_MD_findHead 67 = .ok (.sipush 160, 3) := by decide +kernel
theorem gm_d_MD_findHead_70 : decode gm_b_MD_findHead 70 = .ok (.idiv, 1) := by decide +kernel
theorem gm_d_MD_findHead_71 : decode gm_b_MD_findHead 71 = .ok (.imul, 1) := by decide +kernel
theorem gm_d_MD_findHead_72 : decode gm_b_MD_findHead 72 = .ok (.aload_n 0, 1) := by decide +kernel
theorem gm_d_MD_findHead_73 : decode gm_b_MD_findHead 73 = .ok (.getfield 35, 3) := by decide +kernel
theorem gm_d_MD_findHead_76 : decode gm_b_MD_findHead 76 = .ok (.iload_n 1, 1) := by decide +kernel
theorem gm_d_MD_findHead_77 : decode gm_b_MD_findHead 77 = .ok (.iaload, 1) := by decide +kernel
theorem gm_d_MD_findHead_78 : decode gm_b_MD_findHead 78 = .ok (.iadd, 1) := by decide +kernel
theorem gm_d_MD_findHead_79 : decode gm_b_MD_findHead 79 = .ok (.iaload, 1) := by decide +kernel
theorem gm_d_MD_findHead_80 : decode gm_b_MD_findHead 80 = .ok (.istore_n 2, 1) := by decide +kernel
theorem gm_d_MD_findHead_81 : decode gm_b_MD_findHead 81 = .ok (.iload_n 2, 1) := by decide +kernel
theorem gm_d_MD_findHead_82 : decode gm_b_MD_findHead 82 = .ok (.bipush 96, 2) := by decide +kernel
theorem gm_d_MD_findHead_84 : decode gm_b_MD_findHead 84 = .ok (.if_icmp .ge 21, 3) := by decide +kernel
theorem gm_d_MD_findHead_87 : decode gm_b_MD_findHead 87 = .ok (.aload_n 0, 1) := by decide +kernel
theorem gm_d_MD_findHead_88 : decode gm_b_MD_findHead 88 = .ok (.getfield 54, 3) := by decide +kernel
theorem gm_d_MD_findHead_91 : decode gm_b_MD_findHead 91 = .ok (.iload_n 1, 1) := by decide +kernel
theorem gm_d_MD_findHead_92 : decode gm_b_MD_findHead 92 = .ok (.dup2, 1) := by decide +kernel
theorem gm_d_MD_findHead_93 : decode gm_b_MD_findHead 93 = .ok (.laload, 1) := by decide +kernel
theorem gm_d_MD_findHead_94 : decode gm_b_MD_findHead 94 = .ok (.lconst 1, 1) := by decide +kernel
theorem gm_d_MD_findHead_95 : decode gm_b_MD_findHead 95 = .ok (.iload_n 2, 1) := by decide +kernel
theorem gm_d_MD_findHead_96 : decode gm_b_MD_findHead 96 = .ok (.bipush 32, 2) := by decide +kernel
theorem gm_d_MD_findHead_98 : decode gm_b_MD_findHead 98 = .ok (.isub, 1) := by decide +kernel
theorem gm_d_MD_findHead_99 : decode gm_b_MD_findHead 99 = .ok (.lshl, 1) := by decide +kernel
theorem gm_d_MD_findHead_100 : decode gm_b_MD_findHead 100 = .ok (.lor, 1) := by decide +kernel
theorem gm_d_MD_findHead_101 : decode gm_b_MD_findHead 101 = .ok (.lastore, 1) := by decide +kernel
theorem gm_d_MD_findHead_102 : decode gm_b_MD_findHead 102 = .ok (.goto 112, 3) := by decide +kernel
theorem gm_d_MD_findHead_105 : decode gm_b_MD_findHead 105 = .ok (.aload_n 0, 1) := by decide +kernel
theorem gm_d_MD_findHead_106 : decode gm_b_MD_findHead 106 = .ok (.getfield 58, 3) := by decide +kernel
theorem gm_d_MD_findHead_109 : decode gm_b_MD_findHead 109 = .ok (.iload_n 1, 1) := by decide +kernel
theorem gm_d_MD_findHead_110 : decode gm_b_MD_findHead 110 = .ok (.dup2, 1) := by decide +kernel
theorem gm_d_MD_findHead_111 : decode gm_b_MD_findHead 111 = .ok (.laload, 1) := by decide +kernel
theorem gm_d_MD_findHead_112 : decode gm_b_MD_findHead 112 = .ok (.lconst 1, 1) := by decide +kernel
theorem gm_d_MD_findHead_113 : decode gm_b_MD_findHead 113 = .ok (.iload_n 2, 1) := by decide +kernel
theorem gm_d_MD_findHead_114 : decode gm_b_MD_findHead 114 = .ok (.bipush 96, 2) := by decide +kernel
theorem gm_d_MD_findHead_116 : decode gm_b_MD_findHead 116 = .ok (.isub, 1) := by decide +kernel
theorem gm_d_MD_findHead_117 : decode gm_b_MD_findHead 117 = .ok (.lshl, 1) := by decide +kernel
theorem gm_d_MD_findHead_118 : decode gm_b_MD_findHead 118 = .ok (.lor, 1) := by decide +kernel
theorem gm_d_MD_findHead_119 : decode gm_b_MD_findHead 119 = .ok (.lastore, 1) := by decide +kernel
theorem gm_d_MD_findHead_120 : decode gm_b_MD_findHead 120 = .ok (.goto 94, 3) := by decide +kernel
theorem gm_d_MD_findHead_123 : decode gm_b_MD_findHead 123 = .ok (.aload_n 0, 1) := by decide +kernel
theorem gm_d_MD_findHead_124 : decode gm_b_MD_findHead 124 = .ok (.iload_n 1, 1) := by decide +kernel
theorem gm_d_MD_findHead_125 : decode gm_b_MD_findHead 125 = .ok (.aload_n 0, 1) := by decide +kernel
theorem gm_d_MD_findHead_126 : decode gm_b_MD_findHead 126 = .ok (.getfield 35, 3) := by decide +kernel
theorem gm_d_MD_findHead_129 : decode gm_b_MD_findHead 129 = .ok (.iload_n 1, 1) := by decide +kernel
theorem gm_d_MD_findHead_130 : decode gm_b_MD_findHead 130 = .ok (.iaload, 1) := by decide +kernel
theorem gm_d_MD_findHead_131 : decode gm_b_MD_findHead 131 = .ok (.invokevirtual 185, 3) := by decide +kernel
theorem gm_d_MD_findHead_134 : decode gm_b_MD_findHead 134 = .ok (.aload_n 0, 1) := by decide +kernel
theorem gm_d_MD_findHead_135 : decode gm_b_MD_findHead 135 = .ok (.getfield 47, 3) := by decide +kernel
theorem gm_d_MD_findHead_138 : decode gm_b_MD_findHead 138 = .ok (.aload_n 0, 1) := by decide +kernel
theorem gm_d_MD_findHead_139 : decode gm_b_MD_findHead 139 = .ok (.getfield 35, 3) := by decide +kernel
theorem gm_d_MD_findHead_142 : decode gm_b_MD_findHead 142 = .ok (.iload_n 1, 1) := by decide +kernel
theorem gm_d_MD_findHead_143 : decode gm_b_MD_findHead 143 = .ok (.iaload, 1) := by decide +kernel
theorem gm_d_MD_findHead_144 : decode gm_b_MD_findHead 144 = .ok (.baload, 1) := by decide +kernel
theorem gm_d_MD_findHead_145 : decode gm_b_MD_findHead 145 = .ok (.ifCond .eq 69, 3) := by decide +kernel
theorem gm_d_MD_findHead_148 : decode gm_b_MD_findHead 148 = .ok (.aload_n 0, 1) := by decide +kernel
theorem gm_d_MD_findHead_149 : decode gm_b_MD_findHead 149 = .ok (.iload_n 1, 1) := by decide +kernel
theorem gm_d_MD_findHead_150 : decode gm_b_MD_findHead 150 = .ok (.aload_n 0, 1) := by decide +kernel
theorem gm_d_MD_findHead_151 : decode gm_b_MD_findHead 151 = .ok (.getfield 38, 3) := by decide +kernel
theorem gm_d_MD_findHead_154 : decode gm_b_MD_findHead 154 = .ok (.iload_n 1, 1) := by decide +kernel
theorem gm_d_MD_findHead_155 : decode gm_b_MD_findHead 155 = .ok (.iaload, 1) := by decide +kernel
theorem gm_d_MD_findHead_156 : decode gm_b_MD_findHead 156 = .ok (.invokevirtual 185, 3) := by decide +kernel
theorem gm_d_MD_findHead_159 : decode gm_b_MD_findHead 159 = .ok (.goto 55, 3) := by decide +kernel
theorem gm_d_MD_findHead_162 : decode gm_b_MD_findHead 162 = .ok (.aload_n 0, 1) := by decide +kernel
theorem gm_d_MD_findHead_163 : decode gm_b_MD_findHead 163 = .ok (.iload_n 1, 1) := by decide +kernel
theorem gm_d_MD_findHead_164 : decode gm_b_MD_findHead 164 = .ok (.aload_n 0, 1) := by decide +kernel
theorem gm_d_MD_findHead_165 : decode gm_b_MD_findHead 165 = .ok (.getfield 35, 3) := by decide +kernel
theorem gm_d_MD_findHead_168 : decode gm_b_MD_findHead 168 = .ok (.iload_n 1, 1) := by decide +kernel
theorem gm_d_MD_findHead_169 : decode gm_b_MD_findHead 169 = .ok (.iaload, 1) := by decide +kernel
theorem gm_d_MD_findHead_170 : decode gm_b_MD_findHead 170 = .ok (.invokevirtual 185, 3) := by decide +kernel
theorem gm_d_MD_findHead_173 : decode gm_b_MD_findHead 173 = .ok (.aload_n 0, 1) := by decide +kernel
theorem gm_d_MD_findHead_174 : decode gm_b_MD_findHead 174 = .ok (.iload_n 1, 1) := by decide +kernel
theorem gm_d_MD_findHead_175 : decode gm_b_MD_findHead 175 = .ok (.aload_n 0, 1) := by decide +kernel
theorem gm_d_MD_findHead_176 : decode gm_b_MD_findHead 176 = .ok (.getfield 38, 3) := by decide +kernel
theorem gm_d_MD_findHead_179 : decode gm_b_MD_findHead 179 = .ok (.iload_n 1, 1) := by decide +kernel
theorem gm_d_MD_findHead_180 : decode gm_b_MD_findHead 180 = .ok (.iaload, 1) := by decide +kernel
theorem gm_d_MD_findHead_181 : decode gm_b_MD_findHead 181 = .ok (.invokevirtual 185, 3) := by decide +kernel
theorem gm_d_MD_findHead_184 : decode gm_b_MD_findHead 184 = .ok (.goto 30, 3) := by decide +kernel
theorem gm_d_MD_findHead_187 : decode gm_b_MD_findHead 187 = .ok (.aload_n 0, 1) := by decide +kernel
theorem gm_d_MD_findHead_188 : decode gm_b_MD_findHead 188 = .ok (.iload_n 1, 1) := by decide +kernel
theorem gm_d_MD_findHead_189 : decode gm_b_MD_findHead 189 = .ok (.aload_n 0, 1) := by decide +kernel
theorem gm_d_MD_findHead_190 : decode gm_b_MD_findHead 190 = .ok (.iload_n 1, 1) := by decide +kernel
theorem gm_d_MD_findHead_191 : decode gm_b_MD_findHead 191 = .ok (.invokevirtual 182, 3) := by decide +kernel
theorem gm_d_MD_findHead_194 : decode gm_b_MD_findHead 194 = .ok (.invokevirtual 185, 3) := by decide +kernel
theorem gm_d_MD_findHead_197 : decode gm_b_MD_findHead 197 = .ok (.goto 17, 3) := by decide +kernel
theorem gm_d_MD_findHead_200 : decode gm_b_MD_findHead 200 = .ok (.aload_n 0, 1) := by decide +kernel
theorem gm_d_MD_findHead_201 : decode gm_b_MD_findHead 201 = .ok (.iload_n 1, 1) := by decide +kernel
theorem gm_d_MD_findHead_202 : decode gm_b_MD_findHead 202 = .ok (.aload_n 0, 1) := by decide +kernel
theorem gm_d_MD_findHead_203 : decode gm_b_MD_findHead 203 = .ok (.getfield 35, 3) := by decide +kernel
theorem gm_d_MD_findHead_206 : decode gm_b_MD_findHead 206 = .ok (.iload_n 1, 1) := by decide +kernel
theorem gm_d_MD_findHead_207 : decode gm_b_MD_findHead 207 = .ok (.iaload, 1) := by decide +kernel
theorem gm_d_MD_findHead_208 : decode gm_b_MD_findHead 208 = .ok (.invokevirtual 185, 3) := by decide +kernel
theorem gm_d_MD_findHead_211 : decode gm_b_MD_findHead 211 = .ok (.goto 3, 3) := by decide +kernel
theorem gm_d_MD_findHead_214 : decode gm_b_MD_findHead 214 = .ok (.return_, 1) := by decide +kernel
theorem gm_d_MD_study_0 : decode gm_b_MD_study 0 = .ok (.sipush 160, 3) := by decide +kernel
theorem gm_d_MD_study_3 : decode gm_b_MD_study 3 = .ok (.aload_n 0, 1) := by decide +kernel
theorem gm_d_MD_study_4 : decode gm_b_MD_study 4 = .ok (.getfield 116, 3) := by decide +kernel
theorem gm_d_MD_study_7 : decode gm_b_MD_study 7 = .ok (.imul, 1) := by decide +kernel
theorem gm_d_MD_study_8 : decode gm_b_MD_study 8 = .ok (.istore_n 1, 1) := by decide +kernel
theorem gm_d_MD_study_9 : decode gm_b_MD_study 9 = .ok (.iload_n 1, 1) := by decide +kernel
theorem gm_d_MD_study_10 : decode gm_b_MD_study 10 = .ok (.aload_n 0, 1) := by decide +kernel
theorem gm_d_MD_study_11 : decode gm_b_MD_study 11 = .ok (.getfield 29, 3) := by decide +kernel
theorem gm_d_MD_study_14 : decode gm_b_MD_study 14 = .ok (.aload_n 0, 1) := by decide +kernel
theorem gm_d_MD_study_15 : decode gm_b_MD_study 15 = .ok (.getfield 116, 3) := by decide +kernel
theorem gm_d_MD_study_18 : decode gm_b_MD_study 18 = .ok (.iaload, 1) := by decide +kernel
theorem gm_d_MD_study_19 : decode gm_b_MD_study 19 = .ok (.iadd, 1) := by decide +kernel
theorem gm_d_MD_study_20 : decode gm_b_MD_study 20 = .ok (.istore_n 2, 1) := by decide +kernel
theorem gm_d_MD_study_21 : decode gm_b_MD_study 21 = .ok (.iconst 0, 1) := by decide +kernel
theorem gm_d_MD_study_22 : decode gm_b_MD_study 22 = .ok (.istore_n 3, 1) := by decide +kernel
theorem gm_d_MD_study_23 : decode gm_b_MD_study 23 = .ok (.iload_n 3, 1) := by decide +kernel
theorem gm_d_MD_study_24 : decode gm_b_MD_study 24 = .ok (.aload_n 0, 1) := by decide +kernel
theorem gm_d_MD_study_25 : decode gm_b_MD_study 25 = .ok (.getfield 106, 3) := by decide +kernel
theorem gm_d_MD_study_28 : decode gm_b_MD_study 28 = .ok (.if_icmp .ge 29, 3) := by decide +kernel
theorem gm_d_MD_study_31 : decode gm_b_MD_study 31 = .ok (.aload_n 0, 1) := by decide +kernel
theorem gm_d_MD_study_32 : decode gm_b_MD_study 32 = .ok (.getfield 44, 3) := by decide +kernel
theorem gm_d_MD_study_35 : decode gm_b_MD_study 35 = .ok (.bipush 50, 2) := by decide +kernel
theorem gm_d_MD_study_37 : decode gm_b_MD_study 37 = .ok (.aload_n 0, 1) := by decide +kernel
theorem gm_d_MD_study_38 : decode gm_b_MD_study 38 = .ok (.getfield 116, 3) := by decide +kernel
theorem gm_d_MD_study_41 : decode gm_b_MD_study 41 = .ok (.imul, 1) := by decide +kernel
theorem gm_d_MD_study_42 : decode gm_b_MD_study 42 = .ok (.iload_n 3, 1) := by decide +kernel
theorem gm_d_MD_study_43 : decode gm_b_MD_study 43 = .ok (.iadd, 1) := by decide +kernel
theorem gm_d_MD_study_44 : decode gm_b_MD_study 44 = .ok (.aload_n 0, 1) := by decide +kernel
theorem gm_d_MD_study_45 : decode gm_b_MD_study 45 = .ok (.getfield 13, 3) := by decide +kernel
theorem gm_d_MD_study_48 : decode gm_b_MD_study 48 = .ok (.iload_n 3, 1) := by decide +kernel
theorem gm_d_MD_study_49 : decode gm_b_MD_study 49 = .ok (.iaload, 1) := by decide +kernel
theorem gm_d_MD_study_50 : decode gm_b_MD_study 50 = .ok (.iastore, 1) := by decide +kernel
theorem gm_d_MD_study_51 : decode gm_b_MD_study 51 = .ok (.iinc 3 1, 3) := by decide +kernel
theorem gm_d_MD_study_54 : decode gm_b_MD_study 54 = .ok (.goto (-31), 3) := by decide +kernel
theorem gm_d_MD_study_57 : decode gm_b_MD_study 57 = .ok (.iload_n 1, 1) := by decide +kernel
theorem gm_d_MD_study_58 : decode gm_b_MD_study 58 = .ok (.istore_n 3, 1) := by decide +kernel
theorem gm_d_MD_study_59 : decode gm_b_MD_study 59 = .ok (.iload_n 3, 1) := by decide +kernel
theorem gm_d_MD_study_60 : decode gm_b_MD_study 60 = .ok (.iload_n 2, 1) := by decide +kernel
theorem gm_d_MD_study_61 : decode gm_b_MD_study 61 = .ok (.if_icmp .ge 23, 3) := by decide +kernel
theorem gm_d_MD_study_64 : decode gm_b_MD_study 64 = .ok (.aload_n 0, 1) := by decide +kernel
theorem gm_d_MD_study_65 : decode gm_b_MD_study 65 = .ok (.getfield 47, 3) := by decide +kernel
theorem gm_d_MD_study_68 : decode gm_b_MD_study 68 = .ok (.iload_n 3, 1) := by decide +kernel
theorem gm_d_MD_study_69 : decode gm_b_MD_study 69 = .ok (.iconst 0, 1) := by decide +kernel
theorem gm_d_MD_study_70 : decode gm_b_MD_study 70 = .ok (.bastore, 1) := by decide +kernel
theorem gm_d_MD_study_71 : decode gm_b_MD_study 71 = .ok (.aload_n 0, 1) := by decide +kernel
theorem gm_d_MD_study_72 : decode gm_b_MD_study 72 = .ok (.getfield 51, 3) := by decide +kernel
theorem gm_d_MD_study_75 : decode gm_b_MD_study 75 = .ok (.iload_n 3, 1) := by decide +kernel
theorem gm_d_MD_study_76 : decode gm_b_MD_study 76 = .ok (.iconst 0, 1) := by decide +kernel
theorem gm_d_MD_study_77 : decode gm_b_MD_study 77 = .ok (.iastore, 1) := by decide +kernel
theorem gm_d_MD_study_78 : decode gm_b_MD_study 78 = .ok (.iinc 3 1, 3) := by decide +kernel
theorem gm_d_MD_study_81 : decode gm_b_MD_study 81 = .ok (.goto (-22), 3) := by decide +kernel
theorem gm_d_MD_study_84 : decode gm_b_MD_study 84 = .ok (.iload_n 1, 1) := by decide +kernel
theorem gm_d_MD_study_85 : decode gm_b_MD_study 85 = .ok (.istore_n 3, 1) := by decide +kernel
theorem gm_d_MD_study_86 : decode gm_b_MD_study 86 = .ok (.iload_n 3, 1) := by decide +kernel
theorem gm_d_MD_study_87 : decode gm_b_MD_study 87 = .ok (.iload_n 2, 1) := by decide +kernel
theorem gm_d_MD_study_88 : decode gm_b_MD_study 88 = .ok (.if_icmp .ge 37, 3) := by decide +kernel
theorem gm_d_MD_study_91 : decode gm_b_MD_study 91 = .ok (.iload_n 1, 1) := by decide +kernel
theorem gm_d_MD_study_92 : decode gm_b_MD_study 92 = .ok (.istore 4, 2) := by decide +kernel
theorem gm_d_MD_study_94 : decode gm_b_MD_study 94 = .ok (.iload 4, 2) := by decide +kernel
theorem gm_d_MD_study_96 : decode gm_b_MD_study 96 = .ok (.iload_n 2, 1) := by decide +kernel
theorem gm_d_MD_study_97 : decode gm_b_MD_study 97 = .ok (.if_icmp .ge 22, 3) := by decide +kernel
theorem gm_d_MD_study_100 : decode gm_b_MD_study 100 = .ok (.aload_n 0, 1) := by decide +kernel
theorem gm_d_MD_study_101 : decode gm_b_MD_study 101 = .ok (.getfield 47, 3) := by decide +kernel
theorem gm_d_MD_study_104 : decode gm_b_MD_study 104 = .ok (.iload 4, 2) := by decide +kernel
theorem gm_d_MD_study_106 : decode gm_b_MD_study 106 = .ok (.aload_n 0, 1) := by decide +kernel
theorem gm_d_MD_study_107 : decode gm_b_MD_study 107 = .ok (.iload 4, 2) := by decide +kernel
theorem gm_d_MD_study_109 : decode gm_b_MD_study 109 = .ok (.invokevirtual 189, 3) := by decide +kernel
theorem gm_d_MD_study_112 : decode gm_b_MD_study 112 = .ok (.bastore, 1) := by decide +kernel
theorem gm_d_MD_study_113 : decode gm_b_MD_study 113 = .ok (.iinc 4 1, 3) := by decide +kernel
theorem gm_d_MD_study_116 : decode gm_b_MD_study 116 = .ok (.goto (-22), 3) := by decide +kernel
theorem gm_d_MD_study_119 : decode gm_b_MD_study 119 = .ok (.iinc 3 1, 3) := by decide +kernel
theorem gm_d_MD_study_122 : decode gm_b_MD_study 122 = .ok (.goto (-36), 3) := by decide +kernel
theorem gm_d_MD_study_125 : decode gm_b_MD_study 125 = .ok (.iload_n 1, 1) := by decide +kernel
theorem gm_d_MD_study_126 : decode gm_b_MD_study 126 = .ok (.istore_n 3, 1) := by decide +kernel
theorem gm_d_MD_study_127 : decode gm_b_MD_study 127 = .ok (.iload_n 3, 1) := by decide +kernel
theorem gm_d_MD_study_128 : decode gm_b_MD_study 128 = .ok (.iload_n 2, 1) := by decide +kernel
theorem gm_d_MD_study_129 : decode gm_b_MD_study 129 = .ok (.if_icmp .ge 43, 3) := by decide +kernel
theorem gm_d_MD_study_132 : decode gm_b_MD_study 132 = .ok (.iload_n 1, 1) := by decide +kernel
theorem gm_d_MD_study_133 : decode gm_b_MD_study 133 = .ok (.istore 4, 2) := by decide +kernel
theorem gm_d_MD_study_135 : decode gm_b_MD_study 135 = .ok (.iload 4, 2) := by decide +kernel
theorem gm_d_MD_study_137 : decode gm_b_MD_study 137 = .ok (.iload_n 2, 1) := by decide +kernel
theorem gm_d_MD_study_138 : decode gm_b_MD_study 138 = .ok (.if_icmp .ge 28, 3) := by decide +kernel
theorem gm_d_MD_study_141 : decode gm_b_MD_study 141 = .ok (.aload_n 0, 1) := by decide +kernel
theorem gm_d_MD_study_142 : decode gm_b_MD_study 142 = .ok (.getfield 51, 3) := by decide +kernel
theorem gm_d_MD_study_145 : decode gm_b_MD_study 145 = .ok (.iload 4, 2) := by decide +kernel
theorem gm_d_MD_study_147 : decode gm_b_MD_study 147 = .ok (.aload_n 0, 1) := by decide +kernel
theorem gm_d_MD_study_148 : decode gm_b_MD_study 148 = .ok (.iload 4, 2) := by decide +kernel
theorem gm_d_MD_study_150 : decode gm_b_MD_study 150 = .ok (.invokevirtual 193, 3) := by decide +kernel
theorem gm_d_MD_study_153 : decode gm_b_MD_study 153 = .ok (.iastore, 1) := by decide +kernel
theorem gm_d_MD_study_154 : decode gm_b_MD_study 154 = .ok (.aload_n 0, 1) := by decide +kernel
theorem gm_d_MD_study_155 : decode gm_b_MD_study 155 = .ok (.iload 4, 2) := by decide +kernel
theorem gm_d_MD_study_157 : decode gm_b_MD_study 157 = .ok (.invokevirtual 196, 3) := by decide +kernel
theorem gm_d_MD_study_160 : decode gm_b_MD_study 160 = .ok (.iinc 4 1, 3) := by decide +kernel
theorem gm_d_MD_study_163 : decode gm_b_MD_study 163 = .ok (.goto (-28), 3) := by decide +kernel
theorem gm_d_MD_study_166 : decode gm_b_MD_study 166 = .ok (.iinc 3 1, 3) := by decide +kernel
theorem gm_d_MD_study_169 : decode gm_b_MD_study 169 = .ok (.goto (-42), 3) := by decide +kernel
theorem gm_d_MD_study_172 : decode gm_b_MD_study 172 = .ok (.return_, 1) := by decide +kernel
theorem gm_d_MD_isUndefined_0 : decode gm_b_MD_isUndefined 0 = .ok (.iconst 0, 1) := by decide +kernel
theorem gm_d_MD_isUndefined_1 : decode gm_b_MD_isUndefined 1 = .ok (.istore_n 2, 1) := by decide +kernel
theorem gm_d_MD_isUndefined_2 : decode gm_b_MD_isUndefined 2 = .ok (.sipush 160, 3) := by decide +kernel
theorem gm_d_MD_isUndefined_5 : decode gm_b_MD_isUndefined 5 = .ok (.aload_n 0, 1) := by decide +kernel
theorem gm_d_MD_isUndefined_6 : decode gm_b_MD_isUndefined 6 = .ok (.getfield 116, 3) := by decide +kernel
theorem gm_d_MD_isUndefined_9 : decode gm_b_MD_isUndefined 9 = .ok (.imul, 1) := by decide +kernel
theorem gm_d_MD_isUndefined_10 : decode gm_b_MD_isUndefined 10 = .ok (.istore_n 3, 1) := by decide +kernel
theorem gm_d_MD_isUndefined_11 : decode gm_b_MD_isUndefined 11 = .ok (.iload_n 3, 1) := by decide +kernel
theorem gm_d_MD_isUndefined_12 : decode gm_b_MD_isUndefined 12 = .ok (.sipush 160, 3) := by decide +kernel
theorem gm_d_MD_isUndefined_15 : decode gm_b_MD_isUndefined 15 = .ok (.aload_n 0, 1) := by decide +kernel
theorem gm_d_MD_isUndefined_16 : decode gm_b_MD_isUndefined 16 = .ok (.getfield 116, 3) := by decide +kernel
theorem gm_d_MD_isUndefined_19 : decode gm_b_MD_isUndefined 19 = .ok (.imul, 1) := by decide +kernel
theorem gm_d_MD_isUndefined_20 : decode gm_b_MD_isUndefined 20 = .ok (.aload_n 0, 1) := by decide +kernel
theorem gm_d_MD_isUndefined_21 : decode gm_b_MD_isUndefined 21 = .ok (.getfield 29, 3) := by decide +kernel
theorem gm_d_MD_isUndefined_24 : decode gm_b_MD_isUndefined 24 = .ok (.aload_n 0, 1) := by decide +kernel
theorem gm_d_MD_isUndefined_25 : decode gm_b_MD_isUndefined 25 = .ok (.getfield 116, 3) := by decide +kernel
theorem gm_d_MD_isUndefined_28 : decode gm_b_MD_isUndefined 28 = .ok (.iaload, 1) := by decide +kernel
theorem gm_d_MD_isUndefined_29 : decode gm_b_MD_isUndefined 29 = .ok (.iadd, 1) := by decide +kernel
theorem gm_d_MD_isUndefined_30 : decode gm_b_MD_isUndefined 30 = .ok (.if_icmp .ge 48, 3) := by decide +kernel
theorem gm_d_MD_isUndefined_33 : decode gm_b_MD_isUndefined 33 = .ok (.iload_n 2, 1) := by decide +kernel
theorem gm_d_MD_isUndefined_34 : decode gm_b_MD_isUndefined 34 = .ok (.ifCond .ne 32, 3) := by decide +kernel
theorem gm_d_MD_isUndefined_37 : decode gm_b_MD_isUndefined 37 = .ok (.aload_n 0, 1) := by decide +kernel
theorem gm_d_MD_isUndefined_38 : decode gm_b_MD_isUndefined 38 = .ok (.getfield 41, 3) := by decide +kernel
theorem gm_d_MD_isUndefined_41 : decode gm_b_MD_isUndefined 41 = .ok (.iload_n 3, 1) := by decide +kernel
theorem gm_d_MD_isUndefined_42 : decode gm_b_MD_isUndefined 42 = .ok (.iaload, 1) := by decide +kernel
theorem gm_d_MD_isUndefined_43 : decode gm_b_MD_isUndefined 43 = .ok (.iload_n 1, 1) := by decide +kernel
theorem gm_d_MD_isUndefined_44 : decode gm_b_MD_isUndefined 44 = .ok (.if_icmp .ne 26, 3) := by decide +kernel
theorem gm_d_MD_isUndefined_47 : decode gm_b_MD_isUndefined 47 = .ok (.aload_n 0, 1) := by decide +kernel
theorem gm_d_MD_isUndefined_48 : decode gm_b_MD_isUndefined 48 = .ok (.getfield 32, 3) := by decide +kernel
theorem gm_d_MD_isUndefined_51 : decode gm_b_MD_isUndefined 51 = .ok (.iload_n 3, 1) := by decide +kernel
theorem gm_d_MD_isUndefined_52 : decode gm_b_MD_isUndefined 52 = .ok (.iaload, 1) := by decide +kernel
theorem gm_d_MD_isUndefined_53 : decode gm_b_MD_isUndefined 53 = .ok (.iconst 3, 1) := by decide +kernel
theorem gm_d_MD_isUndefined_54 : decode gm_b_MD_isUndefined 54 = .ok (.if_icmp .ne 16, 3) := by decide +kernel
theorem gm_d_MD_isUndefined_57 : decode gm_b_MD_isUndefined 57 = .ok (.aload_n 0, 1) := by decide +kernel
theorem gm_d_MD_isUndefined_58 : decode gm_b_MD_isUndefined 58 = .ok (.iload_n 3, 1) := by decide +kernel
theorem gm_d_MD_isUndefined_59 : decode gm_b_MD_isUndefined 59 = .ok (.invokevirtual 182, 3) := by decide +kernel
theorem gm_d_MD_isUndefined_62 : decode gm_b_MD_isUndefined 62 = .ok (.iconst (-1), 1) := by decide +kernel
theorem gm_d_MD_isUndefined_63 : decode gm_b_MD_isUndefined 63 = .ok (.if_icmp .ne 7, 3) := by decide +kernel
theorem gm_d_MD_isUndefined_66 : decode gm_b_MD_isUndefined 66 = .ok (.iconst 1, 1) := by decide +kernel
theorem gm_d_MD_isUndefined_67 : decode gm_b_MD_isUndefined 67 = .ok (.goto 4, 3) := by decide +kernel
theorem gm_d_MD_isUndefined_70 : decode gm_b_MD_isUndefined 70 = .ok (.iconst 0, 1) := by decide +kernel
theorem gm_d_MD_isUndefined_71 : decode gm_b_MD_isUndefined 71 = .ok (.istore_n 2, 1) := by decide +kernel
theorem gm_d_MD_isUndefined_72 : decode gm_b_MD_isUndefined 72 = .ok (.iinc 3 1, 3) := by decide +kernel
theorem gm_d_MD_isUndefined_75 : decode gm_b_MD_isUndefined 75 = .ok (.goto (-64), 3) := by decide +kernel
theorem gm_d_MD_isUndefined_78 : decode gm_b_MD_isUndefined 78 = .ok (.iload_n 2, 1) := by decide +kernel
theorem gm_d_MD_isUndefined_79 : decode gm_b_MD_isUndefined 79 = .ok (.ireturn, 1) := by decide +kernel
theorem gm_d_MD_isWild_0 : decode gm_b_MD_isWild 0 = .ok (.aload_n 0, 1) := by decide +kernel
theorem gm_d_MD_isWild_1 : decode gm_b_MD_isWild 1 = .ok (.getfield 51, 3) := by decide +kernel
theorem gm_d_MD_isWild_4 : decode gm_b_MD_isWild 4 = .ok (.aload_n 0, 1) := by decide +kernel
theorem gm_d_MD_isWild_5 : decode gm_b_MD_isWild 5 = .ok (.getfield 26, 3) := by decide +kernel
theorem gm_d_MD_isWild_8 : decode gm_b_MD_isWild 8 = .ok (.bipush 8, 2) := by decide +kernel
theorem gm_d_MD_isWild_10 : decode gm_b_MD_isWild 10 = .ok (.aload_n 0, 1) := by decide +kernel
theorem gm_d_MD_isWild_11 : decode gm_b_MD_isWild 11 = .ok (.getfield 116, 3) := by decide +kernel
theorem gm_d_MD_isWild_14 : decode gm_b_MD_isWild 14 = .ok (.imul, 1) := by decide +kernel
theorem gm_d_MD_isWild_15 : decode gm_b_MD_isWild 15 = .ok (.iload_n 1, 1) := by decide +kernel
theorem gm_d_MD_isWild_16 : decode gm_b_MD_isWild 16 = .ok (.iadd, 1) := by decide +kernel
theorem gm_d_MD_isWild_17 : decode gm_b_MD_isWild 17 = .ok (.iaload, 1) := by decide +kernel
theorem gm_d_MD_isWild_18 : decode gm_b_MD_isWild 18 = .ok (.iaload, 1) := by decide +kernel
theorem gm_d_MD_isWild_19 : decode gm_b_MD_isWild 19 = .ok (.iload_n 1, 1) := by decide +kernel
theorem gm_d_MD_isWild_20 : decode gm_b_MD_isWild 20 = .ok (.ishr, 1) := by decide +kernel
theorem gm_d_MD_isWild_21 : decode gm_b_MD_isWild 21 = .ok (.iconst 1, 1) := by decide +kernel
theorem gm_d_MD_isWild_22 : decode gm_b_MD_isWild 22 = .ok (.iand, 1) := by decide +kernel
theorem gm_d_MD_isWild_23 : decode gm_b_MD_isWild 23 = .ok (.iconst 1, 1) := by decide +kernel
theorem gm_d_MD_isWild_24 : decode gm_b_MD_isWild 24 = .ok (.if_icmp .ne 7, 3) := by decide +kernel
theorem gm_d_MD_isWild_27 : decode gm_b_MD_isWild 27 = .ok (.iconst 1, 1) := by decide +kernel
theorem gm_d_MD_isWild_28 : decode gm_b_MD_isWild 28 = .ok (.goto 4, 3) := by decide +kernel
theorem gm_d_MD_isWild_31 : decode gm_b_MD_isWild 31 = .ok (.iconst 0, 1) := by decide +kernel
theorem gm_d_MD_isWild_32 : decode gm_b_MD_isWild 32 = .ok (.istore_n 2, 1) := by decide +kernel
theorem gm_d_MD_isWild_33 : decode gm_b_MD_isWild 33 = .ok (.sipush 160, 3) := by decide +kernel
theorem gm_d_MD_isWild_36 : decode gm_b_MD_isWild 36 = .ok (.aload_n 0, 1) := by decide +kernel
theorem gm_d_MD_isWild_37 : decode gm_b_MD_isWild 37 = .ok (.getfield 116, 3) := by decide +kernel
theorem gm_d_MD_isWild_40 : decode gm_b_MD_isWild 40 = .ok (.imul, 1) := by decide +kernel
theorem gm_d_MD_isWild_41 : decode gm_b_MD_isWild 41 = .ok (.istore_n 3, 1) := by decide +kernel
theorem gm_d_MD_isWild_42 : decode gm_b_MD_isWild 42 = .ok (.iload_n 3, 1) := by decide +kernel
theorem gm_d_MD_isWild_43 : decode gm_b_MD_isWild 43 = .ok (.sipush 160, 3) := by decide +kernel
theorem gm_d_MD_isWild_46 : decode gm_b_MD_isWild 46 = .ok (.aload_n 0, 1) := by decide +kernel
theorem gm_d_MD_isWild_47 : decode gm_b_MD_isWild 47 = .ok (.getfield 116, 3) := by decide +kernel
theorem gm_d_MD_isWild_50 : decode gm_b_MD_isWild 50 = .ok (.imul, 1) := by decide +kernel
theorem gm_d_MD_isWild_51 : decode gm_b_MD_isWild 51 = .ok (.aload_n 0, 1) := by decide +kernel
theorem gm_d_MD_isWild_52 : decode gm_b_MD_isWild 52 = .ok (.getfield 29, 3) := by decide +kernel
theorem gm_d_MD_isWild_55 : decode gm_b_MD_isWild 55 = .ok (.aload_n 0, 1) := by decide +kernel
theorem gm_d_MD_isWild_56 : decode gm_b_MD_isWild 56 = .ok (.getfield 116, 3) := by decide +kernel
theorem gm_d_MD_isWild_59 : decode gm_b_MD_isWild 59 = .ok (.iaload, 1) := by decide +kernel
theorem gm_d_MD_isWild_60 : decode gm_b_MD_isWild 60 = .ok (.iadd, 1) := by decide +kernel
theorem gm_d_MD_isWild_61 : decode gm_b_MD_isWild 61 = .ok (.if_icmp .ge 65, 3) := by decide +kernel
theorem gm_d_MD_isWild_64 : decode gm_b_MD_isWild 64 = .ok (.iload_n 2, 1) := by decide +kernel
theorem gm_d_MD_isWild_65 : decode gm_b_MD_isWild 65 = .ok (.ifCond .ne 49, 3) := by decide +kernel
theorem gm_d_MD_isWild_68 : decode gm_b_MD_isWild 68 = .ok (.aload_n 0, 1) := by decide +kernel
theorem gm_d_MD_isWild_69 : decode gm_b_MD_isWild 69 = .ok (.getfield 41, 3) := by decide +kernel
theorem gm_d_MD_isWild_72 : decode gm_b_MD_isWild 72 = .ok (.iload_n 3, 1) := by decide +kernel
theorem gm_d_MD_isWild_73 : decode gm_b_MD_isWild 73 = .ok (.iaload, 1) := by decide +kernel
theorem gm_d_MD_isWild_74 : decode gm_b_MD_isWild 74 = .ok (.iload_n 1, 1) := by decide +kernel
theorem gm_d_MD_isWild_75 : decode gm_b_MD_isWild 75 = .ok (.if_icmp .ne 43, 3) := by decide +kernel
theorem gm_d_MD_isWild_78 : decode gm_b_MD_isWild 78 = .ok (.aload_n 0, 1) := by decide +kernel
theorem gm_d_MD_isWild_79 : decode gm_b_MD_isWild 79 = .ok (.getfield 32, 3) := by decide +kernel
theorem gm_d_MD_isWild_82 : decode gm_b_MD_isWild 82 = .ok (.iload_n 3, 1) := by decide +kernel
theorem gm_d_MD_isWild_83 : decode gm_b_MD_isWild 83 = .ok (.iaload, 1) := by decide +kernel
theorem gm_d_MD_isWild_84 : decode gm_b_MD_isWild 84 = .ok (.bipush 7, 2) := by decide +kernel
theorem gm_d_MD_isWild_86 : decode gm_b_MD_isWild 86 = .ok (.if_icmp .eq 14, 3) := by decide +kernel
theorem gm_d_MD_isWild_89 : decode gm_b_MD_isWild 89 = .ok (.aload_n 0, 1) := by decide +kernel
theorem gm_d_MD_isWild_90 : decode gm_b_MD_isWild 90 = .ok (.getfield 32, 3) := by decide +kernel
theorem gm_d_MD_isWild_93 : decode gm_b_MD_isWild 93 = .ok (.iload_n 3, 1) := by decide +kernel
theorem gm_d_MD_isWild_94 : decode gm_b_MD_isWild 94 = .ok (.iaload, 1) := by decide +kernel
theorem gm_d_MD_isWild_95 : decode gm_b_MD_isWild 95 = .ok (.bipush 10, 2) := by decide +kernel
theorem gm_d_MD_isWild_97 : decode gm_b_MD_isWild 97 = .ok (.if_icmp .ne 21, 3) := by decide +kernel
theorem gm_d_MD_isWild_100 : decode gm_b_MD_isWild 100 = .ok (.aload_n 0, 1) := by decide +kernel
theorem gm_d_MD_isWild_101 : decode gm_b_MD_isWild 101 = .ok (.getfield 47, 3) := by decide +kernel
theorem gm_d_MD_isWild_104 : decode gm_b_MD_isWild 104 = .ok (.aload_n 0, 1) := by decide +kernel
theorem gm_d_MD_isWild_105 : decode gm_b_MD_isWild 105 = .ok (.getfield 35, 3) := by decide +kernel
theorem gm_d_MD_isWild_108 : decode gm_b_MD_isWild 108 = .ok (.iload_n 3, 1) := by decide +kernel
theorem gm_d_MD_isWild_109 : decode gm_b_MD_isWild 109 = .ok (.iaload, 1) := by decide +kernel
theorem gm_d_MD_isWild_110 : decode gm_b_MD_isWild 110 = .ok (.baload, 1) := by decide +kernel
theorem gm_d_MD_isWild_111 : decode gm_b_MD_isWild 111 = .ok (.ifCond .eq 7, 3) := by decide +kernel
theorem gm_d_MD_isWild_114 : decode gm_b_MD_isWild 114 = .ok (.iconst 1, 1) := by decide +kernel
theorem gm_d_MD_isWild_115 : decode gm_b_MD_isWild 115 = .ok (.goto 4, 3) := by decide +kernel
theorem gm_d_MD_isWild_118 : decode gm_b_MD_isWild 118 = .ok (.iconst 0, 1) := by decide +kernel
theorem gm_d_MD_isWild_119 : decode gm_b_MD_isWild 119 = .ok (.istore_n 2, 1) := by decide +kernel
theorem gm_d_MD_isWild_120 : decode gm_b_MD_isWild 120 = .ok (.iinc 3 1, 3) := by decide +kernel
theorem gm_d_MD_isWild_123 : decode gm_b_MD_isWild 123 = .ok (.goto (-81), 3) := by decide +kernel
theorem gm_d_MD_isWild_126 : decode gm_b_MD_isWild 126 = .ok (.iload_n 2, 1) := by decide +kernel
theorem gm_d_MD_isWild_127 : decode gm_b_MD_isWild 127 = .ok (.ireturn, 1) := by decide +kernel
theorem gm_d_MD_isInHead_0 : decode gm_b_MD_isInHead 0 = .ok (.iload_n 2, 1) := by decide +kernel
theorem gm_d_MD_isInHead_1 : decode gm_b_MD_isInHead 1 = .ok (.bipush 32, 2) := by decide +kernel
theorem gm_d_MD_isInHead_3 : decode gm_b_MD_isInHead 3 = .ok (.if_icmp .lt 9, 3) := by decide +kernel
theorem gm_d_MD_isInHead_6 : decode gm_b_MD_isInHead 6 = .ok (.iload_n 2, 1) := by decide +kernel
theorem gm_d_MD_isInHead_7 : decode gm_b_MD_isInHead 7 = .ok (.bipush 126, 2) := by decide +kernel
theorem gm_d_MD_isInHead_9 : decode gm_b_MD_isInHead 9 = .ok (.if_icmp .le 5, 3) := by decide +kernel
theorem gm_d_MD_isInHead_12 : decode gm_b_MD_isInHead 12 = .ok (.iconst 0, 1) := by decide +kernel
theorem gm_d_MD_isInHead_13 : decode gm_b_MD_isInHead 13 = .ok (.ireturn, 1) := by decide +kernel
theorem gm_d_MD_isInHead_14 : decode gm_b_MD_isInHead 14 = .ok (.iload_n 2, 1) := by decide +kernel
theorem gm_d_MD_isInHead_15 : decode gm_b_MD_isInHead 15 = .ok (.bipush 96, 2) := by decide +kernel
theorem gm_d_MD_isInHead_17 : decode gm_b_MD_isInHead 17 = .ok (.if_icmp .ge 19, 3) := by decide +kernel
theorem gm_d_MD_isInHead_20 : decode gm_b_MD_isInHead 20 = .ok (.aload_n 0, 1) := by decide +kernel
theorem gm_d_MD_isInHead_21 : decode gm_b_MD_isInHead 21 = .ok (.getfield 54, 3) := by decide +kernel
theorem gm_d_MD_isInHead_24 : decode gm_b_MD_isInHead 24 = .ok (.iload_n 1, 1) := by decide +kernel
theorem gm_d_MD_isInHead_25 : decode gm_b_MD_isInHead 25 = .ok (.laload, 1) := by decide +kernel
theorem gm_d_MD_isInHead_26 : decode gm_b_MD_isInHead 26 = .ok (.iload_n 2, 1) := by decide +kernel
theorem gm_d_MD_isInHead_27 : decode gm_b_MD_isInHead 27 = .ok (.bipush 32, 2) := by decide +kernel
theorem gm_d_MD_isInHead_29 : decode gm_b_MD_isInHead 29 = .ok (.isub, 1) := by decide +kernel
theorem gm_d_MD_isInHead_30 : decode gm_b_MD_isInHead 30 = .ok (.lshr, 1) := by decide +kernel
theorem gm_d_MD_isInHead_31 : decode gm_b_MD_isInHead 31 = .ok (.lconst 1, 1) := by decide +kernel
theorem gm_d_MD_isInHead_32 : decode gm_b_MD_isInHead 32 = .ok (.land, 1) := by decide +kernel
theorem gm_d_MD_isInHead_33 : decode gm_b_MD_isInHead 33 = .ok (.goto 16, 3) := by decide +kernel
theorem gm_d_MD_isInHead_36 : decode gm_b_MD_isInHead 36 = .ok (.aload_n 0, 1) := by decide +kernel
theorem gm_d_MD_isInHead_37 : decode gm_b_MD_isInHead 37 = .ok (.getfield 58, 3) := by decide +kernel
theorem gm_d_MD_isInHead_40 : decode gm_b_MD_isInHead 40 = .ok (.iload_n 1, 1) := by decide +kernel
theorem gm_d_MD_isInHead_41 : decode gm_b_MD_isInHead 41 = .ok (.laload, 1) := by decide +kernel
theorem gm_d_MD_isInHead_42 : decode gm_b_MD_isInHead 42 = .ok (.iload_n 2, 1) := by decide +kernel
theorem gm_d_MD_isInHead_43 : decode gm_b_MD_isInHead 43 = .ok (.bipush 96, 2) := by decide +kernel
theorem gm_d_MD_isInHead_45 : decode gm_b_MD_isInHead 45 = .ok (.isub, 1) := by decide +kernel
theorem gm_d_MD_isInHead_46 : decode gm_b_MD_isInHead 46 = .ok (.lshr, 1) := by decide +kernel
theorem gm_d_MD_isInHead_47 : decode gm_b_MD_isInHead 47 = .ok (.lconst 1, 1) := by decide +kernel
theorem gm_d_MD_isInHead_48 : decode gm_b_MD_isInHead 48 = .ok (.land, 1) := by decide +kernel
theorem gm_d_MD_isInHead_49 : decode gm_b_MD_isInHead 49 = .ok (.lconst 1, 1) := by decide +kernel
theorem gm_d_MD_isInHead_50 : decode gm_b_MD_isInHead 50 = .ok (.lcmp, 1) := by decide +kernel
theorem gm_d_MD_isInHead_51 : decode gm_b_MD_isInHead 51 = .ok (.ifCond .ne 7, 3) := by decide +kernel
theorem gm_d_MD_isInHead_54 : decode gm_b_MD_isInHead 54 = .ok (.iconst 1, 1) := by decide +kernel
theorem gm_d_MD_isInHead_55 : decode gm_b_MD_isInHead 55 = .ok (.goto 4, 3) := by decide +kernel
theorem gm_d_MD_isInHead_58 : decode gm_b_MD_isInHead 58 = .ok (.iconst 0, 1) := by decide +kernel
theorem gm_d_MD_isInHead_59 : decode gm_b_MD_isInHead 59 = .ok (.ireturn, 1) := by decide +kernel
theorem gm_d_MD_cell_0 : decode gm_b_MD_cell 0 = .ok (.bipush 11, 2) := by decide +kernel
theorem gm_d_MD_cell_2 : decode gm_b_MD_cell 2 = .ok (.iload_n 1, 1) := by decide +kernel
theorem gm_d_MD_cell_3 : decode gm_b_MD_cell 3 = .ok (.sipush 160, 3) := by decide +kernel
theorem gm_d_MD_cell_6 : decode gm_b_MD_cell 6 = .ok (.aload_n 0, 1) := by decide +kernel
theorem gm_d_MD_cell_7 : decode gm_b_MD_cell 7 = .ok (.getfield 17, 3) := by decide +kernel
theorem gm_d_MD_cell_10 : decode gm_b_MD_cell 10 = .ok (.imul, 1) := by decide +kernel
theorem gm_d_MD_cell_11 : decode gm_b_MD_cell 11 = .ok (.isub, 1) := by decide +kernel
theorem gm_d_MD_cell_12 : decode gm_b_MD_cell 12 = .ok (.imul, 1) := by decide +kernel
theorem gm_d_MD_cell_13 : decode gm_b_MD_cell 13 = .ok (.iload_n 2, 1) := by decide +kernel
theorem gm_d_MD_cell_14 : decode gm_b_MD_cell 14 = .ok (.iadd, 1) := by decide +kernel
theorem gm_d_MD_cell_15 : decode gm_b_MD_cell 15 = .ok (.ireturn, 1) := by decide +kernel
theorem gm_d_MD_taken_0 : decode gm_b_MD_taken 0 = .ok (.aload_n 0, 1) := by decide +kernel
theorem gm_d_MD_taken_1 : decode gm_b_MD_taken 1 = .ok (.getfield 82, 3) := by decide +kernel
theorem gm_d_MD_taken_4 : decode gm_b_MD_taken 4 = .ok (.aload_n 0, 1) := by decide +kernel
theorem gm_d_MD_taken_5 : decode gm_b_MD_taken 5 = .ok (.iload_n 1, 1) := by decide +kernel
theorem gm_d_MD_taken_6 : decode gm_b_MD_taken 6 = .ok (.iload_n 2, 1) := by decide +kernel
theorem gm_d_MD_taken_7 : decode gm_b_MD_taken 7 = .ok (.invokevirtual 231, 3) := by decide +kernel
theorem gm_d_MD_taken_10 : decode gm_b_MD_taken 10 = .ok (.iaload, 1) := by decide +kernel
theorem gm_d_MD_taken_11 : decode gm_b_MD_taken 11 = .ok (.ireturn, 1) := by decide +kernel
theorem gm_d_MD_costOf_0 : decode gm_b_MD_costOf 0 = .ok (.aload_n 0, 1) := by decide +kernel
theorem gm_d_MD_costOf_1 : decode gm_b_MD_costOf 1 = .ok (.getfield 85, 3) := by decide +kernel
theorem gm_d_MD_costOf_4 : decode gm_b_MD_costOf 4 = .ok (.aload_n 0, 1) := by decide +kernel
theorem gm_d_MD_costOf_5 : decode gm_b_MD_costOf 5 = .ok (.iload_n 1, 1) := by decide +kernel
theorem gm_d_MD_costOf_6 : decode gm_b_MD_costOf 6 = .ok (.iload_n 2, 1) := by decide +kernel
theorem gm_d_MD_costOf_7 : decode gm_b_MD_costOf 7 = .ok (.invokevirtual 231, 3) := by decide +kernel
theorem gm_d_MD_costOf_10 : decode gm_b_MD_costOf 10 = .ok (.iaload, 1) := by decide +kernel
theorem gm_d_MD_costOf_11 : decode gm_b_MD_costOf 11 = .ok (.ireturn, 1) := by decide +kernel
theorem gm_d_MD_isOut_0 : decode gm_b_MD_isOut 0 = .ok (.aload_n 0, 1) := by decide +kernel
theorem gm_d_MD_isOut_1 : decode gm_b_MD_isOut 1 = .ok (.getfield 47, 3) := by decide +kernel
theorem gm_d_MD_isOut_4 : decode gm_b_MD_isOut 4 = .ok (.iload_n 1, 1) := by decide +kernel
theorem gm_d_MD_isOut_5 : decode gm_b_MD_isOut 5 = .ok (.baload, 1) := by decide +kernel
theorem gm_d_MD_isOut_6 : decode gm_b_MD_isOut 6 = .ok (.ifCond .ne 29, 3) := by decide +kernel
theorem gm_d_MD_isOut_9 : decode gm_b_MD_isOut 9 = .ok (.iload_n 2, 1) := by decide +kernel
theorem gm_d_MD_isOut_10 : decode gm_b_MD_isOut 10 = .ok (.aload_n 0, 1) := by decide +kernel
theorem gm_d_MD_isOut_11 : decode gm_b_MD_isOut 11 = .ok (.getfield 228, 3) := by decide +kernel
theorem gm_d_MD_isOut_14 : decode gm_b_MD_isOut 14 = .ok (.if_icmp .eq 17, 3) := by decide +kernel
theorem gm_d_MD_isOut_17 : decode gm_b_MD_isOut 17 = .ok (.aload_n 0, 1) := by decide +kernel
theorem gm_d_MD_isOut_18 : decode gm_b_MD_isOut 18 = .ok (.iload_n 1, 1) := by decide +kernel
theorem gm_d_MD_isOut_19 : decode gm_b_MD_isOut 19 = .ok (.aload_n 0, 1) := by decide +kernel
theorem gm_d_MD_isOut_20 : decode gm_b_MD_isOut 20 = .ok (.getfield 79, 3) := by decide +kernel
theorem gm_d_MD_isOut_23 : decode gm_b_MD_isOut 23 = .ok (.iload_n 2, 1) := by decide +kernel
theorem gm_d_MD_isOut_24 : decode gm_b_MD_isOut 24 = .ok (.iaload, 1) := by decide +kernel
theorem gm_d_MD_isOut_25 : decode gm_b_MD_isOut 25 = .ok (.invokevirtual 224, 3) := by decide +kernel
theorem gm_d_MD_isOut_28 : decode gm_b_MD_isOut 28 = .ok (.ifCond .ne 7, 3) := by decide +kernel
theorem gm_d_MD_isOut_31 : decode gm_b_MD_isOut 31 = .ok (.iconst 1, 1) := by decide +kernel
theorem gm_d_MD_isOut_32 : decode gm_b_MD_isOut 32 = .ok (.goto 4, 3) := by decide +kernel
theorem gm_d_MD_isOut_35 : decode gm_b_MD_isOut 35 = .ok (.iconst 0, 1) := by decide +kernel
theorem gm_d_MD_isOut_36 : decode gm_b_MD_isOut 36 = .ok (.ireturn, 1) := by decide +kernel
theorem gm_d_MD_set_0 : decode gm_b_MD_set 0 = .ok (.aload_n 0, 1) := by decide +kernel
theorem gm_d_MD_set_1 : decode gm_b_MD_set 1 = .ok (.getfield 82, 3) := by decide +kernel
theorem gm_d_MD_set_4 : decode gm_b_MD_set 4 = .ok (.aload_n 0, 1) := by decide +kernel
theorem gm_d_MD_set_5 : decode gm_b_MD_set 5 = .ok (.iload_n 1, 1) := by decide +kernel
theorem gm_d_MD_set_6 : decode gm_b_MD_set 6 = .ok (.iload_n 2, 1) := by decide +kernel
theorem gm_d_MD_set_7 : decode gm_b_MD_set 7 = .ok (.invokevirtual 231, 3) := by decide +kernel
theorem gm_d_MD_set_10 : decode gm_b_MD_set 10 = .ok (.iload_n 3, 1) := by decide +kernel
theorem gm_d_MD_set_11 : decode gm_b_MD_set 11 = .ok (.iastore, 1) := by decide +kernel
theorem gm_d_MD_set_12 : decode gm_b_MD_set 12 = .ok (.aload_n 0, 1) := by decide +kernel
theorem gm_d_MD_set_13 : decode gm_b_MD_set 13 = .ok (.getfield 85, 3) := by decide +kernel
theorem gm_d_MD_set_16 : decode gm_b_MD_set 16 = .ok (.aload_n 0, 1) := by decide +kernel
theorem gm_d_MD_set_17 : decode gm_b_MD_set 17 = .ok (.iload_n 1, 1) := by decide +kernel
theorem gm_d_MD_set_18 : decode gm_b_MD_set 18 = .ok (.iload_n 2, 1) := by decide +kernel
theorem gm_d_MD_set_19 : decode gm_b_MD_set 19 = .ok (.invokevirtual 231, 3) := by decide +kernel
theorem gm_d_MD_set_22 : decode gm_b_MD_set 22 = .ok (.iload 4, 2) := by decide +kernel
theorem gm_d_MD_set_24 : decode gm_b_MD_set 24 = .ok (.sipush 1000, 3) := by decide +kernel
theorem gm_d_MD_set_27 : decode gm_b_MD_set 27 = .ok (.if_icmp .le 9, 3) := by decide +kernel
theorem gm_d_MD_set_30 : decode gm_b_MD_set 30 = .ok (.sipush 1001, 3) := by decide +kernel
theorem gm_d_MD_set_33 : decode gm_b_MD_set 33 = .ok (.goto 5, 3) := by decide +kernel
theorem gm_d_MD_set_36 : decode gm_b_MD_set 36 = .ok (.iload 4, 2) := by decide +kernel
theorem gm_d_MD_set_38 : decode gm_b_MD_set 38 = .ok (.iastore, 1) := by decide +kernel
theorem gm_d_MD_set_39 : decode gm_b_MD_set 39 = .ok (.iconst 1, 1) := by decide +kernel
theorem gm_d_MD_set_40 : decode gm_b_MD_set 40 = .ok (.ireturn, 1) := by decide +kernel
theorem gm_d_MD_isRow_0 : decode gm_b_MD_isRow 0 = .ok (.iload_n 2, 1) := by decide +kernel
theorem gm_d_MD_isRow_1 : decode gm_b_MD_isRow 1 = .ok (.aload_n 0, 1) := by decide +kernel
theorem gm_d_MD_isRow_2 : decode gm_b_MD_isRow 2 = .ok (.getfield 38, 3) := by decide +kernel
theorem gm_d_MD_isRow_5 : decode gm_b_MD_isRow 5 = .ok (.iload_n 1, 1) := by decide +kernel
theorem gm_d_MD_isRow_6 : decode gm_b_MD_isRow 6 = .ok (.iaload, 1) := by decide +kernel
theorem gm_d_MD_isRow_7 : decode gm_b_MD_isRow 7 = .ok (.iadd, 1) := by decide +kernel
theorem gm_d_MD_isRow_8 : decode gm_b_MD_isRow 8 = .ok (.aload_n 0, 1) := by decide +kernel
theorem gm_d_MD_isRow_9 : decode gm_b_MD_isRow 9 = .ok (.getfield 228, 3) := by decide +kernel
theorem gm_d_MD_isRow_12 : decode gm_b_MD_isRow 12 = .ok (.if_icmp .gt 7, 3) := by decide +kernel
theorem gm_d_MD_isRow_15 : decode gm_b_MD_isRow 15 = .ok (.iconst 1, 1) := by decide +kernel
theorem gm_d_MD_isRow_16 : decode gm_b_MD_isRow 16 = .ok (.goto 4, 3) := by decide +kernel
theorem gm_d_MD_isRow_19 : decode gm_b_MD_isRow 19 = .ok (.iconst 0, 1) := by decide +kernel
theorem gm_d_MD_isRow_20 : decode gm_b_MD_isRow 20 = .ok (.istore_n 3, 1) := by decide +kernel
theorem gm_d_MD_isRow_21 : decode gm_b_MD_isRow 21 = .ok (.iconst 0, 1) := by decide +kernel
theorem gm_d_MD_isRow_22 : decode gm_b_MD_isRow 22 = .ok (.istore 4, 2) := by decide +kernel
theorem gm_d_MD_isRow_24 : decode gm_b_MD_isRow 24 = .ok (.iload 4, 2) := by decide +kernel
theorem gm_d_MD_isRow_26 : decode gm_b_MD_isRow 26 = .ok (.aload_n 0, 1) := by decide +kernel
theorem gm_d_MD_isRow_27 : decode gm_b_MD_isRow 27 = .ok (.getfield 38, 3) := by decide +kernel
theorem gm_d_MD_isRow_30 : decode gm_b_MD_isRow 30 = .ok (.iload_n 1, 1) := by decide +kernel
theorem gm_d_MD_isRow_31 : decode gm_b_MD_isRow 31 = .ok (.iaload, 1) := by decide +kernel
theorem gm_d_MD_isRow_32 : decode gm_b_MD_isRow 32 = .ok (.if_icmp .ge 53, 3) := by decide +kernel
theorem gm_d_MD_isRow_35 : decode gm_b_MD_isRow 35 = .ok (.iload_n 3, 1) := by decide +kernel
theorem gm_d_MD_isRow_36 : decode gm_b_MD_isRow 36 = .ok (.ifCond .eq 49, 3) := by decide +kernel
theorem gm_d_MD_isRow_39 : decode gm_b_MD_isRow 39 = .ok (.aload_n 0, 1) := by decide +kernel
theorem gm_d_MD_isRow_40 : decode gm_b_MD_isRow 40 = .ok (.getfield 79, 3) := by decide +kernel
theorem gm_d_MD_isRow_43 : decode gm_b_MD_isRow 43 = .ok (.iload_n 2, 1) := by decide +kernel
theorem gm_d_MD_isRow_44 : decode gm_b_MD_isRow 44 = .ok (.iload 4, 2) := by decide +kernel
theorem gm_d_MD_isRow_46 : decode gm_b_MD_isRow 46 = .ok (.iadd, 1) := by decide +kernel
theorem gm_d_MD_isRow_47 : decode gm_b_MD_isRow 47 = .ok (.iaload, 1) := by decide +kernel
theorem gm_d_MD_isRow_48 : decode gm_b_MD_isRow 48 = .ok (.aload_n 0, 1) := by decide +kernel
theorem gm_d_MD_isRow_49 : decode gm_b_MD_isRow 49 = .ok (.getfield 44, 3) := by decide +kernel
theorem gm_d_MD_isRow_52 : decode gm_b_MD_isRow 52 = .ok (.bipush 50, 2) := by decide +kernel
theorem gm_d_MD_isRow_54 : decode gm_b_MD_isRow 54 = .ok (.aload_n 0, 1) := by decide +kernel
theorem gm_d_MD_isRow_55 : decode gm_b_MD_isRow 55 = .ok (.getfield 17, 3) := by decide +kernel
theorem gm_d_MD_isRow_58 : decode gm_b_MD_isRow 58 = .ok (.imul, 1) := by decide +kernel
theorem gm_d_MD_isRow_59 : decode gm_b_MD_isRow 59 = .ok (.aload_n 0, 1) := by decide +kernel
theorem gm_d_MD_isRow_60 : decode gm_b_MD_isRow 60 = .ok (.getfield 35, 3) := by decide +kernel
theorem gm_d_MD_isRow_63 : decode gm_b_MD_isRow 63 = .ok (.iload_n 1, 1) := by decide +kernel
theorem gm_d_MD_isRow_64 : decode gm_b_MD_isRow 64 = .ok (.iaload, 1) := by decide +kernel
theorem gm_d_MD_isRow_65 : decode gm_b_MD_isRow 65 = .ok (.iadd, 1) := by decide +kernel
theorem gm_d_MD_isRow_66 : decode gm_b_MD_isRow 66 = .ok (.iload 4, 2) := by decide +kernel
theorem gm_d_MD_isRow_68 : decode gm_b_MD_isRow 68 = .ok (.iadd, 1) := by decide +kernel
theorem gm_d_MD_isRow_69 : decode gm_b_MD_isRow 69 = .ok (.iaload, 1) := by decide +kernel
theorem gm_d_MD_isRow_70 : decode gm_b_MD_isRow 70 = .ok (.if_icmp .ne 7, 3) := by decide +kernel
theorem gm_d_MD_isRow_73 : decode gm_b_MD_isRow 73 = .ok (.iconst 1, 1) := by decide +kernel
theorem gm_d_MD_isRow_74 : decode gm_b_MD_isRow 74 = .ok (.goto 4, 3) := by decide +kernel
theorem gm_d_MD_isRow_77 : decode gm_b_MD_isRow 77 = .ok (.iconst 0, 1) := by decide +kernel
theorem gm_d_MD_isRow_78 : decode gm_b_MD_isRow 78 = .ok (.istore_n 3, 1) := by decide +kernel
theorem gm_d_MD_isRow_79 : decode gm_b_MD_isRow 79 = .ok (.iinc 4 1, 3) := by decide +kernel
theorem gm_d_MD_isRow_82 : decode gm_b_MD_isRow 82 = .ok (.goto (-58), 3) := by decide +kernel
theorem gm_d_MD_isRow_85 : decode gm_b_MD_isRow 85 = .ok (.iload_n 3, 1) := by decide +kernel
theorem gm_d_MD_isRow_86 : decode gm_b_MD_isRow 86 = .ok (.ireturn, 1) := by decide +kernel
theorem gm_d_MD_workLike_0 : decode gm_b_MD_workLike 0 = .ok (.aload_n 0, 1) := by decide +kernel
theorem gm_d_MD_workLike_1 : decode gm_b_MD_workLike 1 = .ok (.iload_n 2, 1) := by decide +kernel
theorem gm_d_MD_workLike_2 : decode gm_b_MD_workLike 2 = .ok (.iload_n 3, 1) := by decide +kernel
theorem gm_d_MD_workLike_3 : decode gm_b_MD_workLike 3 = .ok (.invokevirtual 257, 3) := by decide +kernel
theorem gm_d_MD_workLike_6 : decode gm_b_MD_workLike 6 = .ok (.bipush (-3), 2) := by decide +kernel
theorem gm_d_MD_workLike_8 : decode gm_b_MD_workLike 8 = .ok (.if_icmp .eq 28, 3) := by decide +kernel
theorem gm_d_MD_workLike_11 : decode gm_b_MD_workLike 11 = .ok (.aload_n 0, 1) := by decide +kernel
theorem gm_d_MD_workLike_12 : decode gm_b_MD_workLike 12 = .ok (.iload_n 1, 1) := by decide +kernel
theorem gm_d_MD_workLike_13 : decode gm_b_MD_workLike 13 = .ok (.iload_n 3, 1) := by decide +kernel
theorem gm_d_MD_workLike_14 : decode gm_b_MD_workLike 14 = .ok (.aload_n 0, 1) := by decide +kernel
theorem gm_d_MD_workLike_15 : decode gm_b_MD_workLike 15 = .ok (.iload_n 2, 1) := by decide +kernel
theorem gm_d_MD_workLike_16 : decode gm_b_MD_workLike 16 = .ok (.iload_n 3, 1) := by decide +kernel
theorem gm_d_MD_workLike_17 : decode gm_b_MD_workLike 17 = .ok (.invokevirtual 257, 3) := by decide +kernel
theorem gm_d_MD_workLike_20 : decode gm_b_MD_workLike 20 = .ok (.aload_n 0, 1) := by decide +kernel
theorem gm_d_MD_workLike_21 : decode gm_b_MD_workLike 21 = .ok (.iload_n 2, 1) := by decide +kernel
theorem gm_d_MD_workLike_22 : decode gm_b_MD_workLike 22 = .ok (.iload_n 3, 1) := by decide +kernel
theorem gm_d_MD_workLike_23 : decode gm_b_MD_workLike 23 = .ok (.invokevirtual 260, 3) := by decide +kernel
theorem gm_d_MD_workLike_26 : decode gm_b_MD_workLike 26 = .ok (.invokevirtual 234, 3) := by decide +kernel
theorem gm_d_MD_workLike_29 : decode gm_b_MD_workLike 29 = .ok (.ifCond .eq 7, 3) := by decide +kernel
theorem gm_d_MD_workLike_32 : decode gm_b_MD_workLike 32 = .ok (.iconst 1, 1) := by decide +kernel
theorem gm_d_MD_workLike_33 : decode gm_b_MD_workLike 33 = .ok (.goto 4, 3) := by decide +kernel
theorem gm_d_MD_workLike_36 : decode gm_b_MD_workLike 36 = .ok (.iconst 0, 1) := by decide +kernel
theorem gm_d_MD_workLike_37 : decode gm_b_MD_workLike 37 = .ok (.ireturn, 1) := by decide +kernel
theorem gm_d_MD_workPair_0 : decode gm_b_MD_workPair 0 = .ok (.aload_n 0, 1) := by decide +kernel
theorem gm_d_MD_workPair_1 : decode gm_b_MD_workPair 1 = .ok (.aload_n 0, 1) := by decide +kernel
theorem gm_d_MD_workPair_2 : decode gm_b_MD_workPair 2 = .ok (.getfield 35, 3) := by decide +kernel
theorem gm_d_MD_workPair_5 : decode gm_b_MD_workPair 5 = .ok (.iload_n 1, 1) := by decide +kernel
theorem gm_d_MD_workPair_6 : decode gm_b_MD_workPair 6 = .ok (.iaload, 1) := by decide +kernel
theorem gm_d_MD_workPair_7 : decode gm_b_MD_workPair 7 = .ok (.iload_n 2, 1) := by decide +kernel
theorem gm_d_MD_workPair_8 : decode gm_b_MD_workPair 8 = .ok (.invokevirtual 257, 3) := by decide +kernel
theorem gm_d_MD_workPair_11 : decode gm_b_MD_workPair 11 = .ok (.istore_n 3, 1) := by decide +kernel
theorem gm_d_MD_workPair_12 : decode gm_b_MD_workPair 12 = .ok (.iload_n 3, 1) := by decide +kernel
theorem gm_d_MD_workPair_13 : decode gm_b_MD_workPair 13 = .ok (.bipush (-3), 2) := by decide +kernel
theorem gm_d_MD_workPair_15 : decode gm_b_MD_workPair 15 = .ok (.if_icmp .ne 5, 3) := by decide +kernel
theorem gm_d_MD_workPair_18 : decode gm_b_MD_workPair 18 = .ok (.iconst 0, 1) := by decide +kernel
theorem gm_d_MD_workPair_19 : decode gm_b_MD_workPair 19 = .ok (.ireturn, 1) := by decide +kernel
theorem gm_d_MD_workPair_20 : decode gm_b_MD_workPair 20 = .ok (.aload_n 0, 1) := by decide +kernel
theorem gm_d_MD_workPair_21 : decode gm_b_MD_workPair 21 = .ok (.aload_n 0, 1) := by decide +kernel
theorem gm_d_MD_workPair_22 : decode gm_b_MD_workPair 22 = .ok (.getfield 35, 3) := by decide +kernel
theorem gm_d_MD_workPair_25 : decode gm_b_MD_workPair 25 = .ok (.iload_n 1, 1) := by decide +kernel
theorem gm_d_MD_workPair_26 : decode gm_b_MD_workPair 26 = .ok (.iaload, 1) := by decide +kernel
theorem gm_d_MD_workPair_27 : decode gm_b_MD_workPair 27 = .ok (.iload_n 2, 1) := by decide +kernel
theorem gm_d_MD_workPair_28 : decode gm_b_MD_workPair 28 = .ok (.invokevirtual 260, 3) := by decide +kernel
theorem gm_d_MD_workPair_31 : decode gm_b_MD_workPair 31 = .ok (.istore 4, 2) := by decide +kernel
theorem gm_d_MD_workPair_33 : decode gm_b_MD_workPair 33 = .ok (.iload_n 3, 1) := by decide +kernel
theorem gm_d_MD_workPair_34 : decode gm_b_MD_workPair 34 = .ok (.iconst (-1), 1) := by decide +kernel
theorem gm_d_MD_workPair_35 : decode gm_b_MD_workPair 35 = .ok (.if_icmp .ne 13, 3) := by decide +kernel
theorem gm_d_MD_workPair_38 : decode gm_b_MD_workPair 38 = .ok (.aload_n 0, 1) := by decide +kernel
theorem gm_d_MD_workPair_39 : decode gm_b_MD_workPair 39 = .ok (.iload_n 1, 1) := by decide +kernel
theorem gm_d_MD_workPair_40 : decode gm_b_MD_workPair 40 = .ok (.iload_n 2, 1) := by decide +kernel
theorem gm_d_MD_workPair_41 : decode gm_b_MD_workPair 41 = .ok (.iconst (-1), 1) := by decide +kernel
theorem gm_d_MD_workPair_42 : decode gm_b_MD_workPair 42 = .ok (.iload 4, 2) := by decide +kernel
theorem gm_d_MD_workPair_44 : decode gm_b_MD_workPair 44 = .ok (.invokevirtual 234, 3) := by decide +kernel
theorem gm_d_MD_workPair_47 : decode gm_b_MD_workPair 47 = .ok (.ireturn, 1) := by decide +kernel
theorem gm_d_MD_workPair_48 : decode gm_b_MD_workPair 48 = .ok (.aload_n 0, 1) := by decide +kernel
theorem gm_d_MD_workPair_49 : decode gm_b_MD_workPair 49 = .ok (.aload_n 0, 1) := by decide +kernel
theorem gm_d_MD_workPair_50 : decode gm_b_MD_workPair 50 = .ok (.getfield 38, 3) := by decide +kernel
theorem gm_d_MD_workPair_53 : decode gm_b_MD_workPair 53 = .ok (.iload_n 1, 1) := by decide +kernel
theorem gm_d_MD_workPair_54 : decode gm_b_MD_workPair 54 = .ok (.iaload, 1) := by decide +kernel
theorem gm_d_MD_workPair_55 : decode gm_b_MD_workPair 55 = .ok (.iload_n 2, 1) := by decide +kernel
theorem gm_d_MD_workPair_56 : decode gm_b_MD_workPair 56 = .ok (.iload_n 3, 1) := by decide +kernel
theorem gm_d_MD_workPair_57 : decode gm_b_MD_workPair 57 = .ok (.iadd, 1) := by decide +kernel
theorem gm_d_MD_workPair_58 : decode gm_b_MD_workPair 58 = .ok (.invokevirtual 257, 3) := by decide +kernel
theorem gm_d_MD_workPair_61 : decode gm_b_MD_workPair 61 = .ok (.istore 5, 2) := by decide +kernel
theorem gm_d_MD_workPair_63 : decode gm_b_MD_workPair 63 = .ok (.iload 5, 2) := by decide +kernel
theorem gm_d_MD_workPair_65 : decode gm_b_MD_workPair 65 = .ok (.bipush (-3), 2) := by decide +kernel
theorem gm_d_MD_workPair_67 : decode gm_b_MD_workPair 67 = .ok (.if_icmp .ne 5, 3) := by decide +kernel
theorem gm_d_MD_workPair_70 : decode gm_b_MD_workPair 70 = .ok (.iconst 0, 1) := by decide +kernel
theorem gm_d_MD_workPair_71 : decode gm_b_MD_workPair 71 = .ok (.ireturn, 1) := by decide +kernel
theorem gm_d_MD_workPair_72 : decode gm_b_MD_workPair 72 = .ok (.aload_n 0, 1) := by decide +kernel
theorem gm_d_MD_workPair_73 : decode gm_b_MD_workPair 73 = .ok (.iload_n 1, 1) := by decide +kernel
theorem gm_d_MD_workPair_74 : decode gm_b_MD_workPair 74 = .ok (.iload_n 2, 1) := by decide +kernel
theorem gm_d_MD_workPair_75 : decode gm_b_MD_workPair 75 = .ok (.iload 5, 2) := by decide +kernel
theorem gm_d_MD_workPair_77 : decode gm_b_MD_workPair 77 = .ok (.iconst (-1), 1) := by decide +kernel
theorem gm_d_MD_workPair_78 : decode gm_b_MD_workPair 78 = .ok (.if_icmp .ne 7, 3) := by decide +kernel
theorem gm_d_MD_workPair_81 : decode gm_b_MD_workPair 81 = .ok (.iconst (-1), 1) := by decide +kernel
theorem gm_d_MD_workPair_82 : decode gm_b_MD_workPair 82 = .ok (.goto 7, 3) := by decide +kernel
theorem gm_d_MD_workPair_85 : decode gm_b_MD_workPair 85 = .ok (.iload_n 3, 1) := by decide +kernel
theorem gm_d_MD_workPair_86 : decode gm_b_MD_workPair 86 = .ok (.iload 5, 2) := by decide +kernel
theorem gm_d_MD_workPair_88 : decode gm_b_MD_workPair 88 = .ok (.iadd, 1) := by decide +kernel
theorem gm_d_MD_workPair_89 : decode gm_b_MD_workPair 89 = .ok (.iload 4, 2) := by decide +kernel
theorem gm_d_MD_workPair_91 : decode gm_b_MD_workPair 91 = .ok (.aload_n 0, 1) := by decide +kernel
theorem gm_d_MD_workPair_92 : decode gm_b_MD_workPair 92 = .ok (.aload_n 0, 1) := by decide +kernel
theorem gm_d_MD_workPair_93 : decode gm_b_MD_workPair 93 = .ok (.getfield 38, 3) := by decide +kernel
theorem gm_d_MD_workPair_96 : decode gm_b_MD_workPair 96 = .ok (.iload_n 1, 1) := by decide +kernel
theorem gm_d_MD_workPair_97 : decode gm_b_MD_workPair 97 = .ok (.iaload, 1) := by decide +kernel
theorem gm_d_MD_workPair_98 : decode gm_b_MD_workPair 98 = .ok (.iload_n 2, 1) := by decide +kernel
theorem gm_d_MD_workPair_99 : decode gm_b_MD_workPair 99 = .ok (.iload_n 3, 1) := by decide +kernel
theorem gm_d_MD_workPair_100 : decode gm_b_MD_workPair 100 = .ok (.iadd, 1) := by decide +kernel
theorem gm_d_MD_workPair_101 : decode gm_b_MD_workPair 101 = .ok (.invokevirtual 260, 3) := by decide +kernel
theorem gm_d_MD_workPair_104 : decode gm_b_MD_workPair 104 = .ok (.iadd, 1) := by decide +kernel
theorem gm_d_MD_workPair_105 : decode gm_b_MD_workPair 105 = .ok (.invokevirtual 234, 3) := by decide +kernel
theorem gm_d_MD_workPair_108 : decode gm_b_MD_workPair 108 = .ok (.ireturn, 1) := by decide +kernel
theorem gm_d_MD_workChoice_0 : decode gm_b_MD_workChoice 0 = .ok (.iconst 0, 1) := by decide +kernel
theorem gm_d_MD_workChoice_1 : decode gm_b_MD_workChoice 1 = .ok (.istore_n 3, 1) := by decide +kernel
theorem gm_d_MD_workChoice_2 : decode gm_b_MD_workChoice 2 = .ok (.aload_n 0, 1) := by decide +kernel
theorem gm_d_MD_workChoice_3 : decode gm_b_MD_workChoice 3 = .ok (.aload_n 0, 1) := by decide +kernel
theorem gm_d_MD_workChoice_4 : decode gm_b_MD_workChoice 4 = .ok (.getfield 35, 3) := by decide +kernel
theorem gm_d_MD_workChoice_7 : decode gm_b_MD_workChoice 7 = .ok (.iload_n 1, 1) := by decide +kernel
theorem gm_d_MD_workChoice_8 : decode gm_b_MD_workChoice 8 = .ok (.iaload, 1) := by decide +kernel
theorem gm_d_MD_workChoice_9 : decode gm_b_MD_workChoice 9 = .ok (.iload_n 2, 1) := by decide +kernel
theorem gm_d_MD_workChoice_10 : decode gm_b_MD_workChoice 10 = .ok (.invokevirtual 241, 3) := by decide +kernel
theorem gm_d_MD_workChoice_13 : decode gm_b_MD_workChoice 13 = .ok (.ifCond .ne 55, 3) := by decide +kernel
theorem gm_d_MD_workChoice_16 : decode gm_b_MD_workChoice 16 = .ok (.aload_n 0, 1) := by decide +kernel
theorem gm_d_MD_workChoice_17 : decode gm_b_MD_workChoice 17 = .ok (.aload_n 0, 1) := by decide +kernel
theorem gm_d_MD_workChoice_18 : decode gm_b_MD_workChoice 18 = .ok (.getfield 35, 3) := by decide +kernel
theorem gm_d_MD_workChoice_21 : decode gm_b_MD_workChoice 21 = .ok (.iload_n 1, 1) := by decide +kernel
theorem gm_d_MD_workChoice_22 : decode gm_b_MD_workChoice 22 = .ok (.iaload, 1) := by decide +kernel
theorem gm_d_MD_workChoice_23 : decode gm_b_MD_workChoice 23 = .ok (.iload_n 2, 1) := by decide +kernel
theorem gm_d_MD_workChoice_24 : decode gm_b_MD_workChoice 24 = .ok (.invokevirtual 257, 3) := by decide +kernel
theorem gm_d_MD_workChoice_27 : decode gm_b_MD_workChoice 27 = .ok (.istore 4, 2) := by decide +kernel
theorem gm_d_MD_workChoice_29 : decode gm_b_MD_workChoice 29 = .ok (.iload 4, 2) := by decide +kernel
theorem gm_d_MD_workChoice_31 : decode gm_b_MD_workChoice 31 = .ok (.bipush (-3), 2) := by decide +kernel
theorem gm_d_MD_workChoice_33 : decode gm_b_MD_workChoice 33 = .ok (.if_icmp .ne 5, 3) := by decide +kernel
theorem gm_d_MD_workChoice_36 : decode gm_b_MD_workChoice 36 = .ok (.iconst 0, 1) := by decide +kernel
theorem gm_d_MD_workChoice_37 : decode gm_b_MD_workChoice 37 = .ok (.ireturn, 1) := by decide +kernel
theorem gm_d_MD_workChoice_38 : decode gm_b_MD_workChoice 38 = .ok (.iconst 1, 1) := by decide +kernel
theorem gm_d_MD_workChoice_39 : decode gm_b_MD_workChoice 39 = .ok (.aload_n 0, 1) := by decide +kernel
theorem gm_d_MD_workChoice_40 : decode gm_b_MD_workChoice 40 = .ok (.aload_n 0, 1) := by decide +kernel
theorem gm_d_MD_workChoice_41 : decode gm_b_MD_workChoice 41 = .ok (.getfield 35, 3) := by decide +kernel
theorem gm_d_MD_workChoice_44 : decode gm_b_MD_workChoice 44 = .ok (.iload_n 1, 1) := by decide +kernel
theorem gm_d_MD_workChoice_45 : decode gm_b_MD_workChoice 45 = .ok (.iaload, 1) := by decide +kernel
theorem gm_d_MD_workChoice_46 : decode gm_b_MD_workChoice 46 = .ok (.iload_n 2, 1) := by decide +kernel
theorem gm_d_MD_workChoice_47 : decode gm_b_MD_workChoice 47 = .ok (.invokevirtual 260, 3) := by decide +kernel
theorem gm_d_MD_workChoice_50 : decode gm_b_MD_workChoice 50 = .ok (.iadd, 1) := by decide +kernel
theorem gm_d_MD_workChoice_51 : decode gm_b_MD_workChoice 51 = .ok (.istore_n 3, 1) := by decide +kernel
theorem gm_d_MD_workChoice_52 : decode gm_b_MD_workChoice 52 = .ok (.iload 4, 2) := by decide +kernel
theorem gm_d_MD_workChoice_54 : decode gm_b_MD_workChoice 54 = .ok (.iconst (-1), 1) := by decide +kernel
theorem gm_d_MD_workChoice_55 : decode gm_b_MD_workChoice 55 = .ok (.if_icmp .eq 13, 3) := by decide +kernel
theorem gm_d_MD_workChoice_58 : decode gm_b_MD_workChoice 58 = .ok (.aload_n 0, 1) := by decide +kernel
theorem gm_d_MD_workChoice_59 : decode gm_b_MD_workChoice 59 = .ok (.iload_n 1, 1) := by decide +kernel
theorem gm_d_MD_workChoice_60 : decode gm_b_MD_workChoice 60 = .ok (.iload_n 2, 1) := by decide +kernel
theorem gm_d_MD_workChoice_61 : decode gm_b_MD_workChoice 61 = .ok (.iload 4, 2) := by decide +kernel
theorem gm_d_MD_workChoice_63 : decode gm_b_MD_workChoice 63 = .ok (.iload_n 3, 1) := by decide +kernel
theorem gm_d_MD_workChoice_64 : decode gm_b_MD_workChoice 64 = .ok (.invokevirtual 234, 3) := by decide +kernel
theorem gm_d_MD_workChoice_67 : decode gm_b_MD_workChoice 67 = .ok (.ireturn, 1) := by decide +kernel
theorem gm_d_MD_workChoice_68 : decode gm_b_MD_workChoice 68 = .ok (.aload_n 0, 1) := by decide +kernel
theorem gm_d_MD_workChoice_69 : decode gm_b_MD_workChoice 69 = .ok (.aload_n 0, 1) := by decide +kernel
theorem gm_d_MD_workChoice_70 : decode gm_b_MD_workChoice 70 = .ok (.getfield 38, 3) := by decide +kernel
theorem gm_d_MD_workChoice_73 : decode gm_b_MD_workChoice 73 = .ok (.iload_n 1, 1) := by decide +kernel
theorem gm_d_MD_workChoice_74 : decode gm_b_MD_workChoice 74 = .ok (.iaload, 1) := by decide +kernel
theorem gm_d_MD_workChoice_75 : decode gm_b_MD_workChoice 75 = .ok (.iload_n 2, 1) := by decide +kernel
theorem gm_d_MD_workChoice_76 : decode gm_b_MD_workChoice 76 = .ok (.invokevirtual 257, 3) := by decide +kernel
theorem gm_d_MD_workChoice_79 : decode gm_b_MD_workChoice 79 = .ok (.istore 4, 2) := by decide +kernel
theorem gm_d_MD_workChoice_81 : decode gm_b_MD_workChoice 81 = .ok (.iload 4, 2) := by decide +kernel
theorem gm_d_MD_workChoice_83 : decode gm_b_MD_workChoice 83 = .ok (.bipush (-3), 2) := by decide +kernel
theorem gm_d_MD_workChoice_85 : decode gm_b_MD_workChoice 85 = .ok (.if_icmp .eq 31, 3) := by decide +kernel
theorem gm_d_MD_workChoice_88 : decode gm_b_MD_workChoice 88 = .ok (.aload_n 0, 1) := by decide +kernel
theorem gm_d_MD_workChoice_89 : decode gm_b_MD_workChoice 89 = .ok (.iload_n 1, 1) := by decide +kernel
theorem gm_d_MD_workChoice_90 : decode gm_b_MD_workChoice 90 = .ok (.iload_n 2, 1) := by decide +kernel
theorem gm_d_MD_workChoice_91 : decode gm_b_MD_workChoice 91 = .ok (.iload 4, 2) := by decide +kernel
theorem gm_d_MD_workChoice_93 : decode gm_b_MD_workChoice 93 = .ok (.iload_n 3, 1) := by decide +kernel
theorem gm_d_MD_workChoice_94 : decode gm_b_MD_workChoice 94 = .ok (.aload_n 0, 1) := by decide +kernel
theorem gm_d_MD_workChoice_95 : decode gm_b_MD_workChoice 95 = .ok (.aload_n 0, 1) := by decide +kernel
theorem gm_d_MD_workChoice_96 : decode gm_b_MD_workChoice 96 = .ok (.getfield 38, 3) := by decide +kernel
theorem gm_d_MD_workChoice_99 : decode gm_b_MD_workChoice 99 = .ok (.iload_n 1, 1) := by decide +kernel
theorem gm_d_MD_workChoice_100 : decode gm_b_MD_workChoice 100 = .ok (.iaload, 1) := by decide +kernel
theorem gm_d_MD_workChoice_101 : decode gm_b_MD_workChoice 101 = .ok (.iload_n 2, 1) := by decide +kernel
theorem gm_d_MD_workChoice_102 : decode gm_b_MD_workChoice 102 = .ok (.invokevirtual 260, 3) := by decide +kernel
theorem gm_d_MD_workChoice_105 : decode gm_b_MD_workChoice 105 = .ok (.iadd, 1) := by decide +kernel
theorem gm_d_MD_workChoice_106 : decode gm_b_MD_workChoice 106 = .ok (.invokevirtual 234, 3) := by decide +kernel
theorem gm_d_MD_workChoice_109 : decode gm_b_MD_workChoice 109 = .ok (.ifCond .eq 7, 3) := by decide +kernel
theorem gm_d_MD_workChoice_112 : decode gm_b_MD_workChoice 112 = .ok (.iconst 1, 1) := by decide +kernel
theorem gm_d_MD_workChoice_113 : decode gm_b_MD_workChoice 113 = .ok (.goto 4, 3) := by decide +kernel
theorem gm_d_MD_workChoice_116 : decode gm_b_MD_workChoice 116 = .ok (.iconst 0, 1) := by decide +kernel
theorem gm_d_MD_workChoice_117 : decode gm_b_MD_workChoice 117 = .ok (.ireturn, 1) := by decide +kernel
theorem gm_d_MD_workLoop_0 : decode gm_b_MD_workLoop 0 = .ok (.aload_n 0, 1) := by decide +kernel
theorem gm_d_MD_workLoop_1 : decode gm_b_MD_workLoop 1 = .ok (.getfield 35, 3) := by decide +kernel
theorem gm_d_MD_workLoop_4 : decode gm_b_MD_workLoop 4 = .ok (.iload_n 1, 1) := by decide +kernel
theorem gm_d_MD_workLoop_5 : decode gm_b_MD_workLoop 5 = .ok (.iaload, 1) := by decide +kernel
theorem gm_d_MD_workLoop_6 : decode gm_b_MD_workLoop 6 = .ok (.istore_n 3, 1) := by decide +kernel
theorem gm_d_MD_workLoop_7 : decode gm_b_MD_workLoop 7 = .ok (.aload_n 0, 1) := by decide +kernel
theorem gm_d_MD_workLoop_8 : decode gm_b_MD_workLoop 8 = .ok (.iload_n 3, 1) := by decide +kernel
theorem gm_d_MD_workLoop_9 : decode gm_b_MD_workLoop 9 = .ok (.iload_n 2, 1) := by decide +kernel
theorem gm_d_MD_workLoop_10 : decode gm_b_MD_workLoop 10 = .ok (.invokevirtual 241, 3) := by decide +kernel
theorem gm_d_MD_workLoop_13 : decode gm_b_MD_workLoop 13 = .ok (.ifCond .eq 12, 3) := by decide +kernel
theorem gm_d_MD_workLoop_16 : decode gm_b_MD_workLoop 16 = .ok (.aload_n 0, 1) := by decide +kernel
theorem gm_d_MD_workLoop_17 : decode gm_b_MD_workLoop 17 = .ok (.iload_n 1, 1) := by decide +kernel
theorem gm_d_MD_workLoop_18 : decode gm_b_MD_workLoop 18 = .ok (.iload_n 2, 1) := by decide +kernel
theorem gm_d_MD_workLoop_19 : decode gm_b_MD_workLoop 19 = .ok (.iconst 0, 1) := by decide +kernel
theorem gm_d_MD_workLoop_20 : decode gm_b_MD_workLoop 20 = .ok (.iconst 0, 1) := by decide +kernel
theorem gm_d_MD_workLoop_21 : decode gm_b_MD_workLoop 21 = .ok (.invokevirtual 234, 3) := by decide +kernel
theorem gm_d_MD_workLoop_24 : decode gm_b_MD_workLoop 24 = .ok (.ireturn, 1) := by decide +kernel
theorem gm_d_MD_workLoop_25 : decode gm_b_MD_workLoop 25 = .ok (.aload_n 0, 1) := by decide +kernel
theorem gm_d_MD_workLoop_26 : decode gm_b_MD_workLoop 26 = .ok (.iload_n 3, 1) := by decide +kernel
theorem gm_d_MD_workLoop_27 : decode gm_b_MD_workLoop 27 = .ok (.iload_n 2, 1) := by decide +kernel
theorem gm_d_MD_workLoop_28 : decode gm_b_MD_workLoop 28 = .ok (.invokevirtual 257, 3) := by decide +kernel
theorem gm_d_MD_workLoop_31 : decode gm_b_MD_workLoop 31 = .ok (.istore 4, 2) := by decide +kernel
theorem gm_d_MD_workLoop_33 : decode gm_b_MD_workLoop 33 = .ok (.iload 4, 2) := by decide +kernel
theorem gm_d_MD_workLoop_35 : decode gm_b_MD_workLoop 35 = .ok (.bipush (-3), 2) := by decide +kernel
theorem gm_d_MD_workLoop_37 : decode gm_b_MD_workLoop 37 = .ok (.if_icmp .ne 5, 3) := by decide +kernel
theorem gm_d_MD_workLoop_40 : decode gm_b_MD_workLoop 40 = .ok (.iconst 0, 1) := by decide +kernel
theorem gm_d_MD_workLoop_41 : decode gm_b_MD_workLoop 41 = .ok (.ireturn, 1) := by decide +kernel
theorem gm_d_MD_workLoop_42 : decode gm_b_MD_workLoop 42 = .ok (.iconst 1, 1) := by decide +kernel
theorem gm_d_MD_workLoop_43 : decode gm_b_MD_workLoop 43 = .ok (.aload_n 0, 1) := by decide +kernel
theorem gm_d_MD_workLoop_44 : decode gm_b_MD_workLoop 44 = .ok (.iload_n 3, 1) := by decide +kernel
theorem gm_d_MD_workLoop_45 : decode gm_b_MD_workLoop 45 = .ok (.iload_n 2, 1) := by decide +kernel
theorem gm_d_MD_workLoop_46 : decode gm_b_MD_workLoop 46 = .ok (.invokevirtual 260, 3) := by decide +kernel
theorem gm_d_MD_workLoop_49 : decode gm_b_MD_workLoop 49 = .ok (.iadd, 1) := by decide +kernel
theorem gm_d_MD_workLoop_50 : decode gm_b_MD_workLoop 50 = .ok (.istore 5, 2) := by decide +kernel
theorem gm_d_MD_workLoop_52 : decode gm_b_MD_workLoop 52 = .ok (.iload 4, 2) := by decide +kernel
theorem gm_d_MD_workLoop_54 : decode gm_b_MD_workLoop 54 = .ok (.iconst (-1), 1) := by decide +kernel
theorem gm_d_MD_workLoop_55 : decode gm_b_MD_workLoop 55 = .ok (.if_icmp .ne 13, 3) := by decide +kernel
theorem gm_d_MD_workLoop_58 : decode gm_b_MD_workLoop 58 = .ok (.aload_n 0, 1) := by decide +kernel
theorem gm_d_MD_workLoop_59 : decode gm_b_MD_workLoop 59 = .ok (.iload_n 1, 1) := by decide +kernel
theorem gm_d_MD_workLoop_60 : decode gm_b_MD_workLoop 60 = .ok (.iload_n 2, 1) := by decide +kernel
theorem gm_d_MD_workLoop_61 : decode gm_b_MD_workLoop 61 = .ok (.iconst 0, 1) := by decide +kernel
theorem gm_d_MD_workLoop_62 : decode gm_b_MD_workLoop 62 = .ok (.iload 5, 2) := by decide +kernel
theorem gm_d_MD_workLoop_64 : decode gm_b_MD_workLoop 64 = .ok (.invokevirtual 234, 3) := by decide +kernel
theorem gm_d_MD_workLoop_67 : decode gm_b_MD_workLoop 67 = .ok (.ireturn, 1) := by decide +kernel
theorem gm_d_MD_workLoop_68 : decode gm_b_MD_workLoop 68 = .ok (.aload_n 0, 1) := by decide +kernel
theorem gm_d_MD_workLoop_69 : decode gm_b_MD_workLoop 69 = .ok (.getfield 32, 3) := by decide +kernel
theorem gm_d_MD_workLoop_72 : decode gm_b_MD_workLoop 72 = .ok (.iload_n 1, 1) := by decide +kernel
theorem gm_d_MD_workLoop_73 : decode gm_b_MD_workLoop 73 = .ok (.iaload, 1) := by decide +kernel
theorem gm_d_MD_workLoop_74 : decode gm_b_MD_workLoop 74 = .ok (.bipush 6, 2) := by decide +kernel
theorem gm_d_MD_workLoop_76 : decode gm_b_MD_workLoop 76 = .ok (.if_icmp .ne 14, 3) := by decide +kernel
theorem gm_d_MD_workLoop_79 : decode gm_b_MD_workLoop 79 = .ok (.aload_n 0, 1) := by decide +kernel
theorem gm_d_MD_workLoop_80 : decode gm_b_MD_workLoop 80 = .ok (.iload_n 1, 1) := by decide +kernel
theorem gm_d_MD_workLoop_81 : decode gm_b_MD_workLoop 81 = .ok (.iload_n 2, 1) := by decide +kernel
theorem gm_d_MD_workLoop_82 : decode gm_b_MD_workLoop 82 = .ok (.iload 4, 2) := by decide +kernel
theorem gm_d_MD_workLoop_84 : decode gm_b_MD_workLoop 84 = .ok (.iload 5, 2) := by decide +kernel
theorem gm_d_MD_workLoop_86 : decode gm_b_MD_workLoop 86 = .ok (.invokevirtual 234, 3) := by decide +kernel
theorem gm_d_MD_workLoop_89 : decode gm_b_MD_workLoop 89 = .ok (.ireturn, 1) := by decide +kernel
theorem gm_d_MD_workLoop_90 : decode gm_b_MD_workLoop 90 = .ok (.aload_n 0, 1) := by decide +kernel
theorem gm_d_MD_workLoop_91 : decode gm_b_MD_workLoop 91 = .ok (.iload_n 1, 1) := by decide +kernel
theorem gm_d_MD_workLoop_92 : decode gm_b_MD_workLoop 92 = .ok (.iload_n 2, 1) := by decide +kernel
theorem gm_d_MD_workLoop_93 : decode gm_b_MD_workLoop 93 = .ok (.iload 4, 2) := by decide +kernel
theorem gm_d_MD_workLoop_95 : decode gm_b_MD_workLoop 95 = .ok (.iadd, 1) := by decide +kernel
theorem gm_d_MD_workLoop_96 : decode gm_b_MD_workLoop 96 = .ok (.invokevirtual 257, 3) := by decide +kernel
theorem gm_d_MD_workLoop_99 : decode gm_b_MD_workLoop 99 = .ok (.istore 6, 2) := by decide +kernel
theorem gm_d_MD_workLoop_101 : decode gm_b_MD_workLoop 101 = .ok (.iload 6, 2) := by decide +kernel
theorem gm_d_MD_workLoop_103 : decode gm_b_MD_workLoop 103 = .ok (.bipush (-3), 2) := by decide +kernel
theorem gm_d_MD_workLoop_105 : decode gm_b_MD_workLoop 105 = .ok (.if_icmp .eq 33, 3) := by decide +kernel
theorem gm_d_MD_workLoop_108 : decode gm_b_MD_workLoop 108 = .ok (.aload_n 0, 1) := by decide +kernel
theorem gm_d_MD_workLoop_109 : decode gm_b_MD_workLoop 109 = .ok (.iload_n 1, 1) := by decide +kernel
theorem gm_d_MD_workLoop_110 : decode gm_b_MD_workLoop 110 = .ok (.iload_n 2, 1) := by decide +kernel
theorem gm_d_MD_workLoop_111 : decode gm_b_MD_workLoop 111 = .ok (.iload 4, 2) := by decide +kernel
theorem gm_d_MD_workLoop_113 : decode gm_b_MD_workLoop 113 = .ok (.iload 6, 2) := by decide +kernel
theorem gm_d_MD_workLoop_115 : decode gm_b_MD_workLoop 115 = .ok (.iadd, 1) := by decide +kernel
theorem gm_d_MD_workLoop_116 : decode gm_b_MD_workLoop 116 = .ok (.iload 5, 2) := by decide +kernel
theorem gm_d_MD_workLoop_118 : decode gm_b_MD_workLoop 118 = .ok (.aload_n 0, 1) := by decide +kernel
theorem gm_d_MD_workLoop_119 : decode gm_b_MD_workLoop 119 = .ok (.iload_n 1, 1) := by decide +kernel
theorem gm_d_MD_workLoop_120 : decode gm_b_MD_workLoop 120 = .ok (.iload_n 2, 1) := by decide +kernel
theorem gm_d_MD_workLoop_121 : decode gm_b_MD_workLoop 121 = .ok (.iload 4, 2) := by decide +kernel
theorem gm_d_MD_workLoop_123 : decode gm_b_MD_workLoop 123 = .ok (.iadd, 1) := by decide +kernel
theorem gm_d_MD_workLoop_124 : decode gm_b_MD_workLoop 124 = .ok (.invokevirtual 260, 3) := by decide +kernel
theorem gm_d_MD_workLoop_127 : decode gm_b_MD_workLoop 127 = .ok (.iadd, 1) := by decide +kernel
theorem gm_d_MD_workLoop_128 : decode gm_b_MD_workLoop 128 = .ok (.invokevirtual 234, 3) := by decide +kernel
theorem gm_d_MD_workLoop_131 : decode gm_b_MD_workLoop 131 = .ok (.ifCond .eq 7, 3) := by decide +kernel
theorem gm_d_MD_workLoop_134 : decode gm_b_MD_workLoop 134 = .ok (.iconst 1, 1) := by decide +kernel
theorem gm_d_MD_workLoop_135 : decode gm_b_MD_workLoop 135 = .ok (.goto 4, 3) := by decide +kernel
theorem gm_d_MD_workLoop_138 : decode gm_b_MD_workLoop 138 = .ok (.iconst 0, 1) := by decide +kernel
theorem gm_d_MD_workLoop_139 : decode gm_b_MD_workLoop 139 = .ok (.ireturn, 1) := by decide +kernel
theorem gm_d_MD_workOut_0 : decode gm_b_MD_workOut 0 = .ok (.aload_n 0, 1) := by decide +kernel
theorem gm_d_MD_workOut_1 : decode gm_b_MD_workOut 1 = .ok (.getfield 35, 3) := by decide +kernel
theorem gm_d_MD_workOut_4 : decode gm_b_MD_workOut 4 = .ok (.iload_n 1, 1) := by decide +kernel
theorem gm_d_MD_workOut_5 : decode gm_b_MD_workOut 5 = .ok (.iaload, 1) := by decide +kernel
theorem gm_d_MD_workOut_6 : decode gm_b_MD_workOut 6 = .ok (.istore_n 3, 1) := by decide +kernel
theorem gm_d_MD_workOut_7 : decode gm_b_MD_workOut 7 = .ok (.aload_n 0, 1) := by decide +kernel
theorem gm_d_MD_workOut_8 : decode gm_b_MD_workOut 8 = .ok (.getfield 32, 3) := by decide +kernel
theorem gm_d_MD_workOut_11 : decode gm_b_MD_workOut 11 = .ok (.iload_n 1, 1) := by decide +kernel
theorem gm_d_MD_workOut_12 : decode gm_b_MD_workOut 12 = .ok (.iaload, 1) := by decide +kernel
theorem gm_d_MD_workOut_13 : decode gm_b_MD_workOut 13 = .ok (.tableswitch 158 0 10 #[59, 68, 95, 117, 137, 144, 151, 151, 158, 158, 129], 59) := by decide +kernel
theorem gm_d_MD_workOut_72 : decode gm_b_MD_workOut 72 = .ok (.aload_n 0, 1) := by decide +kernel
theorem gm_d_MD_workOut_73 : decode gm_b_MD_workOut 73 = .ok (.iload_n 1, 1) := by decide +kernel
theorem gm_d_MD_workOut_74 : decode gm_b_MD_workOut 74 = .ok (.iload_n 2, 1) := by decide +kernel
theorem gm_d_MD_workOut_75 : decode gm_b_MD_workOut 75 = .ok (.iconst 0, 1) := by decide +kernel
theorem gm_d_MD_workOut_76 : decode gm_b_MD_workOut 76 = .ok (.iconst 0, 1) := by decide +kernel
theorem gm_d_MD_workOut_77 : decode gm_b_MD_workOut 77 = .ok (.invokevirtual 234, 3) := by decide +kernel
theorem gm_d_MD_workOut_80 : decode gm_b_MD_workOut 80 = .ok (.ireturn, 1) := by decide +kernel
theorem gm_d_MD_workOut_81 : decode gm_b_MD_workOut 81 = .ok (.aload_n 0, 1) := by decide +kernel
theorem gm_d_MD_workOut_82 : decode gm_b_MD_workOut 82 = .ok (.iload_n 1, 1) := by decide +kernel
theorem gm_d_MD_workOut_83 : decode gm_b_MD_workOut 83 = .ok (.iload_n 2, 1) := by decide +kernel
theorem gm_d_MD_workOut_84 : decode gm_b_MD_workOut 84 = .ok (.aload_n 0, 1) := by decide +kernel
theorem gm_d_MD_workOut_85 : decode gm_b_MD_workOut 85 = .ok (.iload_n 1, 1) := by decide +kernel
theorem gm_d_MD_workOut_86 : decode gm_b_MD_workOut 86 = .ok (.iload_n 2, 1) := by decide +kernel
theorem gm_d_MD_workOut_87 : decode gm_b_MD_workOut 87 = .ok (.invokevirtual 238, 3) := by decide +kernel
theorem gm_d_MD_workOut_90 : decode gm_b_MD_workOut 90 = .ok (.ifCond .eq 12, 3) := by decide +kernel
theorem gm_d_MD_workOut_93 : decode gm_b_MD_workOut 93 = .ok (.aload_n 0, 1) := by decide +kernel
theorem gm_d_MD_workOut_94 : decode gm_b_MD_workOut 94 = .ok (.getfield 38, 3) := by decide +kernel
theorem gm_d_MD_workOut_97 : decode gm_b_MD_workOut 97 = .ok (.iload_n 1, 1) := by decide +kernel
theorem gm_d_MD_workOut_98 : decode gm_b_MD_workOut 98 = .ok (.iaload, 1) := by decide +kernel
theorem gm_d_MD_workOut_99 : decode gm_b_MD_workOut 99 = .ok (.goto 4, 3) := by decide +kernel
theorem gm_d_MD_workOut_102 : decode gm_b_MD_workOut 102 = .ok (.iconst (-1), 1) := by decide +kernel
theorem gm_d_MD_workOut_103 : decode gm_b_MD_workOut 103 = .ok (.iconst 0, 1) := by decide +kernel
theorem gm_d_MD_workOut_104 : decode gm_b_MD_workOut 104 = .ok (.invokevirtual 234, 3) := by decide +kernel
theorem gm_d_MD_workOut_107 : decode gm_b_MD_workOut 107 = .ok (.ireturn, 1) := by decide +kernel
theorem gm_d_MD_workOut_108 : decode gm_b_MD_workOut 108 = .ok (.aload_n 0, 1) := by decide +kernel
theorem gm_d_MD_workOut_109 : decode gm_b_MD_workOut 109 = .ok (.iload_n 1, 1) := by decide +kernel
theorem gm_d_MD_workOut_110 : decode gm_b_MD_workOut 110 = .ok (.iload_n 2, 1) := by decide +kernel
theorem gm_d_MD_workOut_111 : decode gm_b_MD_workOut 111 = .ok (.aload_n 0, 1) := by decide +kernel
theorem gm_d_MD_workOut_112 : decode gm_b_MD_workOut 112 = .ok (.iload_n 1, 1) := by decide +kernel
theorem gm_d_MD_workOut_113 : decode gm_b_MD_workOut 113 = .ok (.iload_n 2, 1) := by decide +kernel
theorem gm_d_MD_workOut_114 : decode gm_b_MD_workOut 114 = .ok (.invokevirtual 241, 3) := by decide +kernel
theorem gm_d_MD_workOut_117 : decode gm_b_MD_workOut 117 = .ok (.ifCond .eq 7, 3) := by decide +kernel
theorem gm_d_MD_workOut_120 : decode gm_b_MD_workOut 120 = .ok (.iconst (-1), 1) := by decide +kernel
theorem gm_d_MD_workOut_121 : decode gm_b_MD_workOut 121 = .ok (.goto 4, 3) := by decide +kernel
theorem gm_d_MD_workOut_124 : decode gm_b_MD_workOut 124 = .ok (.iconst 1, 1) := by decide +kernel
theorem gm_d_MD_workOut_125 : decode gm_b_MD_workOut 125 = .ok (.iconst 0, 1) := by decide +kernel
theorem gm_d_MD_workOut_126 : decode gm_b_MD_workOut 126 = .ok (.invokevirtual 234, 3) := by decide +kernel
theorem gm_d_MD_workOut_129 : decode gm_b_MD_workOut 129 = .ok (.ireturn, 1) := by decide +kernel
theorem gm_d_MD_workOut_130 : decode gm_b_MD_workOut 130 = .ok (.aload_n 0, 1) := by decide +kernel
theorem gm_d_MD_workOut_131 : decode gm_b_MD_workOut 131 = .ok (.iload_n 1, 1) := by decide +kernel
theorem gm_d_MD_workOut_132 : decode gm_b_MD_workOut 132 = .ok (.aload_n 0, 1) := by decide +kernel
theorem gm_d_MD_workOut_133 : decode gm_b_MD_workOut 133 = .ok (.iload_n 1, 1) := by decide +kernel
theorem gm_d_MD_workOut_134 : decode gm_b_MD_workOut 134 = .ok (.invokevirtual 182, 3) := by decide +kernel
theorem gm_d_MD_workOut_137 : decode gm_b_MD_workOut 137 = .ok (.iload_n 2, 1) := by decide +kernel
theorem gm_d_MD_workOut_138 : decode gm_b_MD_workOut 138 = .ok (.invokevirtual 244, 3) := by decide +kernel
theorem gm_d_MD_workOut_141 : decode gm_b_MD_workOut 141 = .ok (.ireturn, 1) := by decide +kernel
theorem gm_d_MD_workOut_142 : decode gm_b_MD_workOut 142 = .ok (.aload_n 0, 1) := by decide +kernel
theorem gm_d_MD_workOut_143 : decode gm_b_MD_workOut 143 = .ok (.iload_n 1, 1) := by decide +kernel
theorem gm_d_MD_workOut_144 : decode gm_b_MD_workOut 144 = .ok (.iload_n 3, 1) := by decide +kernel
theorem gm_d_MD_workOut_145 : decode gm_b_MD_workOut 145 = .ok (.iload_n 2, 1) := by decide +kernel
theorem gm_d_MD_workOut_146 : decode gm_b_MD_workOut 146 = .ok (.invokevirtual 244, 3) := by decide +kernel
theorem gm_d_MD_workOut_149 : decode gm_b_MD_workOut 149 = .ok (.ireturn, 1) := by decide +kernel
theorem gm_d_MD_workOut_150 : decode gm_b_MD_workOut 150 = .ok (.aload_n 0, 1) := by decide +kernel
theorem gm_d_MD_workOut_151 : decode gm_b_MD_workOut 151 = .ok (.iload_n 1, 1) := by decide +kernel
theorem gm_d_MD_workOut_152 : decode gm_b_MD_workOut 152 = .ok (.iload_n 2, 1) := by decide +kernel
theorem gm_d_MD_workOut_153 : decode gm_b_MD_workOut 153 = .ok (.invokevirtual 248, 3) := by decide +kernel
theorem gm_d_MD_workOut_156 : decode gm_b_MD_workOut 156 = .ok (.ireturn, 1) := by decide +kernel
theorem gm_d_MD_workOut_157 : decode gm_b_MD_workOut 157 = .ok (.aload_n 0, 1) := by decide +kernel
theorem gm_d_MD_workOut_158 : decode gm_b_MD_workOut 158 = .ok (.iload_n 1, 1) := by decide +kernel
theorem gm_d_MD_workOut_159 : decode gm_b_MD_workOut 159 = .ok (.iload_n 2, 1) := by decide +kernel
theorem gm_d_MD_workOut_160 : decode gm_b_MD_workOut 160 = .ok (.invokevirtual 251, 3) := by decide +kernel
theorem gm_d_MD_workOut_163 : decode gm_b_MD_workOut 163 = .ok (.ireturn, 1) := by decide +kernel
theorem gm_d_MD_workOut_164 : decode gm_b_MD_workOut 164 = .ok (.aload_n 0, 1) := by decide +kernel
theorem gm_d_MD_workOut_165 : decode gm_b_MD_workOut 165 = .ok (.iload_n 1, 1) := by decide +kernel
theorem gm_d_MD_workOut_166 : decode gm_b_MD_workOut 166 = .ok (.iload_n 2, 1) := by decide +kernel
theorem gm_d_MD_workOut_167 : decode gm_b_MD_workOut 167 = .ok (.invokevirtual 254, 3) := by decide +kernel
theorem gm_d_MD_workOut_170 : decode gm_b_MD_workOut 170 = .ok (.ireturn, 1) := by decide +kernel
theorem gm_d_MD_workOut_171 : decode gm_b_MD_workOut 171 = .ok (.aload_n 0, 1) := by decide +kernel
theorem gm_d_MD_workOut_172 : decode gm_b_MD_workOut 172 = .ok (.iload_n 3, 1) := by decide +kernel
theorem gm_d_MD_workOut_173 : decode gm_b_MD_workOut 173 = .ok (.iload_n 2, 1) := by decide +kernel
theorem gm_d_MD_workOut_174 : decode gm_b_MD_workOut 174 = .ok (.invokevirtual 257, 3) := by decide +kernel
theorem gm_d_MD_workOut_177 : decode gm_b_MD_workOut 177 = .ok (.bipush (-3), 2) := by decide +kernel
theorem gm_d_MD_workOut_179 : decode gm_b_MD_workOut 179 = .ok (.if_icmp .ne 5, 3) := by decide +kernel
theorem gm_d_MD_workOut_182 : decode gm_b_MD_workOut 182 = .ok (.iconst 0, 1) := by decide +kernel
theorem gm_d_MD_workOut_183 : decode gm_b_MD_workOut 183 = .ok (.ireturn, 1) := by decide +kernel
theorem gm_d_MD_workOut_184 : decode gm_b_MD_workOut 184 = .ok (.aload_n 0, 1) := by decide +kernel
theorem gm_d_MD_workOut_185 : decode gm_b_MD_workOut 185 = .ok (.iload_n 1, 1) := by decide +kernel
theorem gm_d_MD_workOut_186 : decode gm_b_MD_workOut 186 = .ok (.iload_n 2, 1) := by decide +kernel
theorem gm_d_MD_workOut_187 : decode gm_b_MD_workOut 187 = .ok (.aload_n 0, 1) := by decide +kernel
theorem gm_d_MD_workOut_188 : decode gm_b_MD_workOut 188 = .ok (.iload_n 3, 1) := by decide +kernel
theorem gm_d_MD_workOut_189 : decode gm_b_MD_workOut 189 = .ok (.iload_n 2, 1) := by decide +kernel
theorem gm_d_MD_workOut_190 : decode gm_b_MD_workOut 190 = .ok (.invokevirtual 257, 3) := by decide +kernel
theorem gm_d_MD_workOut_193 : decode gm_b_MD_workOut 193 = .ok (.iconst (-1), 1) := by decide +kernel
theorem gm_d_MD_workOut_194 : decode gm_b_MD_workOut 194 = .ok (.if_icmp .ne 7, 3) := by decide +kernel
theorem gm_d_MD_workOut_197 : decode gm_b_MD_workOut 197 = .ok (.iconst 1, 1) := by decide +kernel
theorem gm_d_MD_workOut_198 : decode gm_b_MD_workOut 198 = .ok (.goto 4, 3) := by decide +kernel
theorem gm_d_MD_workOut_201 : decode gm_b_MD_workOut 201 = .ok (.iconst 0, 1) := by decide +kernel
theorem gm_d_MD_workOut_202 : decode gm_b_MD_workOut 202 = .ok (.aload_n 0, 1) := by decide +kernel
theorem gm_d_MD_workOut_203 : decode gm_b_MD_workOut 203 = .ok (.getfield 32, 3) := by decide +kernel
theorem gm_d_MD_workOut_206 : decode gm_b_MD_workOut 206 = .ok (.iload_n 1, 1) := by decide +kernel
theorem gm_d_MD_workOut_207 : decode gm_b_MD_workOut 207 = .ok (.iaload, 1) := by decide +kernel
theorem gm_d_MD_workOut_208 : decode gm_b_MD_workOut 208 = .ok (.bipush 9, 2) := by decide +kernel
theorem gm_d_MD_workOut_210 : decode gm_b_MD_workOut 210 = .ok (.if_icmp .ne 7, 3) := by decide +kernel
theorem gm_d_MD_workOut_213 : decode gm_b_MD_workOut 213 = .ok (.iconst 1, 1) := by decide +kernel
theorem gm_d_MD_workOut_214 : decode gm_b_MD_workOut 214 = .ok (.goto 4, 3) := by decide +kernel
theorem gm_d_MD_workOut_217 : decode gm_b_MD_workOut 217 = .ok (.iconst 0, 1) := by decide +kernel
theorem gm_d_MD_workOut_218 : decode gm_b_MD_workOut 218 = .ok (.if_icmp .ne 7, 3) := by decide +kernel
theorem gm_d_MD_workOut_221 : decode gm_b_MD_workOut 221 = .ok (.iconst 0, 1) := by decide +kernel
theorem gm_d_MD_workOut_222 : decode gm_b_MD_workOut 222 = .ok (.goto 4, 3) := by decide +kernel
theorem gm_d_MD_workOut_225 : decode gm_b_MD_workOut 225 = .ok (.iconst (-1), 1) := by decide +kernel
theorem gm_d_MD_workOut_226 : decode gm_b_MD_workOut 226 = .ok (.iconst 1, 1) := by decide +kernel
theorem gm_d_MD_workOut_227 : decode gm_b_MD_workOut 227 = .ok (.aload_n 0, 1) := by decide +kernel
theorem gm_d_MD_workOut_228 : decode gm_b_MD_workOut 228 = .ok (.iload_n 3, 1) := by decide +kernel
theorem gm_d_MD_workOut_229 : decode gm_b_MD_workOut 229 = .ok (.iload_n 2, 1) := by decide +kernel
theorem gm_d_MD_workOut_230 : decode gm_b_MD_workOut 230 = .ok (.invokevirtual 260, 3) := by decide +kernel
theorem gm_d_MD_workOut_233 : decode gm_b_MD_workOut 233 = .ok (.iadd, 1) := by decide +kernel
theorem gm_d_MD_workOut_234 : decode gm_b_MD_workOut 234 = .ok (.invokevirtual 234, 3) := by decide +kernel
theorem gm_d_MD_workOut_237 : decode gm_b_MD_workOut 237 = .ok (.ireturn, 1) := by decide +kernel
theorem gm_d_MD_fill_0 : decode gm_b_MD_fill 0 = .ok (.sipush 160, 3) := by decide +kernel
theorem gm_d_MD_fill_3 : decode gm_b_MD_fill 3 = .ok (.aload_n 0, 1) := by decide +kernel
theorem gm_d_MD_fill_4 : decode gm_b_MD_fill 4 = .ok (.getfield 17, 3) := by decide +kernel
theorem gm_d_MD_fill_7 : decode gm_b_MD_fill 7 = .ok (.imul, 1) := by decide +kernel
theorem gm_d_MD_fill_8 : decode gm_b_MD_fill 8 = .ok (.istore_n 1, 1) := by decide +kernel
theorem gm_d_MD_fill_9 : decode gm_b_MD_fill 9 = .ok (.aload_n 0, 1) := by decide +kernel
theorem gm_d_MD_fill_10 : decode gm_b_MD_fill 10 = .ok (.getfield 29, 3) := by decide +kernel
theorem gm_d_MD_fill_13 : decode gm_b_MD_fill 13 = .ok (.aload_n 0, 1) := by decide +kernel
theorem gm_d_MD_fill_14 : decode gm_b_MD_fill 14 = .ok (.getfield 17, 3) := by decide +kernel
theorem gm_d_MD_fill_17 : decode gm_b_MD_fill 17 = .ok (.iaload, 1) := by decide +kernel
theorem gm_d_MD_fill_18 : decode gm_b_MD_fill 18 = .ok (.istore_n 2, 1) := by decide +kernel
theorem gm_d_MD_fill_19 : decode gm_b_MD_fill 19 = .ok (.iconst 0, 1) := by decide +kernel
theorem gm_d_MD_fill_20 : decode gm_b_MD_fill 20 = .ok (.istore_n 3, 1) := by decide +kernel
theorem gm_d_MD_fill_21 : decode gm_b_MD_fill 21 = .ok (.iload_n 3, 1) := by decide +kernel
theorem gm_d_MD_fill_22 : decode gm_b_MD_fill 22 = .ok (.bipush 11, 2) := by decide +kernel
theorem gm_d_MD_fill_24 : decode gm_b_MD_fill 24 = .ok (.iload_n 2, 1) := by decide +kernel
theorem gm_d_MD_fill_25 : decode gm_b_MD_fill 25 = .ok (.imul, 1) := by decide +kernel
theorem gm_d_MD_fill_26 : decode gm_b_MD_fill 26 = .ok (.if_icmp .ge 17, 3) := by decide +kernel
theorem gm_d_MD_fill_29 : decode gm_b_MD_fill 29 = .ok (.aload_n 0, 1) := by decide +kernel
theorem gm_d_MD_fill_30 : decode gm_b_MD_fill 30 = .ok (.getfield 82, 3) := by decide +kernel
theorem gm_d_MD_fill_33 : decode gm_b_MD_fill 33 = .ok (.iload_n 3, 1) := by decide +kernel
theorem gm_d_MD_fill_34 : decode gm_b_MD_fill 34 = .ok (.bipush (-3), 2) := by decide +kernel
theorem gm_d_MD_fill_36 : decode gm_b_MD_fill 36 = .ok (.iastore, 1) := by decide +kernel
theorem gm_d_MD_fill_37 : decode gm_b_MD_fill 37 = .ok (.iinc 3 1, 3) := by decide +kernel
theorem gm_d_MD_fill_40 : decode gm_b_MD_fill 40 = .ok (.goto (-19), 3) := by decide +kernel
theorem gm_d_MD_fill_43 : decode gm_b_MD_fill 43 = .ok (.aload_n 0, 1) := by decide +kernel
theorem gm_d_MD_fill_44 : decode gm_b_MD_fill 44 = .ok (.getfield 228, 3) := by decide +kernel
theorem gm_d_MD_fill_47 : decode gm_b_MD_fill 47 = .ok (.istore_n 3, 1) := by decide +kernel
theorem gm_d_MD_fill_48 : decode gm_b_MD_fill 48 = .ok (.iload_n 3, 1) := by decide +kernel
theorem gm_d_MD_fill_49 : decode gm_b_MD_fill 49 = .ok (.ifCond .lt 85, 3) := by decide +kernel
theorem gm_d_MD_fill_52 : decode gm_b_MD_fill 52 = .ok (.iconst 0, 1) := by decide +kernel
theorem gm_d_MD_fill_53 : decode gm_b_MD_fill 53 = .ok (.istore 4, 2) := by decide +kernel
theorem gm_d_MD_fill_55 : decode gm_b_MD_fill 55 = .ok (.iconst 0, 1) := by decide +kernel
theorem gm_d_MD_fill_56 : decode gm_b_MD_fill 56 = .ok (.istore 5, 2) := by decide +kernel
theorem gm_d_MD_fill_58 : decode gm_b_MD_fill 58 = .ok (.iload 5, 2) := by decide +kernel
theorem gm_d_MD_fill_60 : decode gm_b_MD_fill 60 = .ok (.iload_n 2, 1) := by decide +kernel
theorem gm_d_MD_fill_61 : decode gm_b_MD_fill 61 = .ok (.if_icmp .gt 67, 3) := by decide +kernel
theorem gm_d_MD_fill_64 : decode gm_b_MD_fill 64 = .ok (.iload 4, 2) := by decide +kernel
theorem gm_d_MD_fill_66 : decode gm_b_MD_fill 66 = .ok (.iload_n 2, 1) := by decide +kernel
theorem gm_d_MD_fill_67 : decode gm_b_MD_fill 67 = .ok (.if_icmp .ge 61, 3) := by decide +kernel
theorem gm_d_MD_fill_70 : decode gm_b_MD_fill 70 = .ok (.iconst 0, 1) := by decide +kernel
theorem gm_d_MD_fill_71 : decode gm_b_MD_fill 71 = .ok (.istore 4, 2) := by decide +kernel
theorem gm_d_MD_fill_73 : decode gm_b_MD_fill 73 = .ok (.iload_n 1, 1) := by decide +kernel
theorem gm_d_MD_fill_74 : decode gm_b_MD_fill 74 = .ok (.istore 6, 2) := by decide +kernel
theorem gm_d_MD_fill_76 : decode gm_b_MD_fill 76 = .ok (.iload 6, 2) := by decide +kernel
theorem gm_d_MD_fill_78 : decode gm_b_MD_fill 78 = .ok (.iload_n 1, 1) := by decide +kernel
theorem gm_d_MD_fill_79 : decode gm_b_MD_fill 79 = .ok (.iload_n 2, 1) := by decide +kernel
theorem gm_d_MD_fill_80 : decode gm_b_MD_fill 80 = .ok (.iadd, 1) := by decide +kernel
theorem gm_d_MD_fill_81 : decode gm_b_MD_fill 81 = .ok (.if_icmp .ge 41, 3) := by decide +kernel
theorem gm_d_MD_fill_84 : decode gm_b_MD_fill 84 = .ok (.iload 4, 2) := by decide +kernel
theorem gm_d_MD_fill_86 : decode gm_b_MD_fill 86 = .ok (.aload_n 0, 1) := by decide +kernel
theorem gm_d_MD_fill_87 : decode gm_b_MD_fill 87 = .ok (.iload 6, 2) := by decide +kernel
theorem gm_d_MD_fill_89 : decode gm_b_MD_fill 89 = .ok (.iload_n 3, 1) := by decide +kernel
theorem gm_d_MD_fill_90 : decode gm_b_MD_fill 90 = .ok (.invokevirtual 257, 3) := by decide +kernel
theorem gm_d_MD_fill_93 : decode gm_b_MD_fill 93 = .ok (.bipush (-3), 2) := by decide +kernel
theorem gm_d_MD_fill_95 : decode gm_b_MD_fill 95 = .ok (.if_icmp .ne 13, 3) := by decide +kernel
theorem gm_d_MD_fill_98 : decode gm_b_MD_fill 98 = .ok (.aload_n 0, 1) := by decide +kernel
theorem gm_d_MD_fill_99 : decode gm_b_MD_fill 99 = .ok (.iload 6, 2) := by decide +kernel
theorem gm_d_MD_fill_101 : decode gm_b_MD_fill 101 = .ok (.iload_n 3, 1) := by decide +kernel
theorem gm_d_MD_fill_102 : decode gm_b_MD_fill 102 = .ok (.invokevirtual 263, 3) := by decide +kernel
theorem gm_d_MD_fill_105 : decode gm_b_MD_fill 105 = .ok (.ifCond .eq 7, 3) := by decide +kernel
theorem gm_d_MD_fill_108 : decode gm_b_MD_fill 108 = .ok (.iconst 1, 1) := by decide +kernel
theorem gm_d_MD_fill_109 : decode gm_b_MD_fill 109 = .ok (.goto 4, 3) := by decide +kernel
theorem gm_d_MD_fill_112 : decode gm_b_MD_fill 112 = .ok (.iconst 0, 1) := by decide +kernel
theorem gm_d_MD_fill_113 : decode gm_b_MD_fill 113 = .ok (.iadd, 1) := by decide +kernel
theorem gm_d_MD_fill_114 : decode gm_b_MD_fill 114 = .ok (.istore 4, 2) := by decide +kernel
theorem gm_d_MD_fill_116 : decode gm_b_MD_fill 116 = .ok (.iinc 6 1, 3) := by decide +kernel
theorem gm_d_MD_fill_119 : decode gm_b_MD_fill 119 = .ok (.goto (-43), 3) := by decide +kernel
theorem gm_d_MD_fill_122 : decode gm_b_MD_fill 122 = .ok (.iinc 5 1, 3) := by decide +kernel
theorem gm_d_MD_fill_125 : decode gm_b_MD_fill 125 = .ok (.goto (-67), 3) := by decide +kernel
theorem gm_d_MD_fill_128 : decode gm_b_MD_fill 128 = .ok (.iinc 3 (-1), 3) := by decide +kernel
theorem gm_d_MD_fill_131 : decode gm_b_MD_fill 131 = .ok (.goto (-83), 3) := by decide +kernel
theorem gm_d_MD_fill_134 : decode gm_b_MD_fill 134 = .ok (.return_, 1) := by decide +kernel
theorem gm_d_MD_come_0 : decode gm_b_MD_come 0 = .ok (.aload_n 0, 1) := by decide +kernel
theorem gm_d_MD_come_1 : decode gm_b_MD_come 1 = .ok (.iload_n 1, 1) := by decide +kernel
theorem gm_d_MD_come_2 : decode gm_b_MD_come 2 = .ok (.iload_n 2, 1) := by decide +kernel
theorem gm_d_MD_come_3 : decode gm_b_MD_come 3 = .ok (.invokevirtual 231, 3) := by decide +kernel
theorem gm_d_MD_come_6 : decode gm_b_MD_come 6 = .ok (.istore_n 3, 1) := by decide +kernel
theorem gm_d_MD_come_7 : decode gm_b_MD_come 7 = .ok (.aload_n 0, 1) := by decide +kernel
theorem gm_d_MD_come_8 : decode gm_b_MD_come 8 = .ok (.getfield 88, 3) := by decide +kernel
theorem gm_d_MD_come_11 : decode gm_b_MD_come 11 = .ok (.iload_n 3, 1) := by decide +kernel
theorem gm_d_MD_come_12 : decode gm_b_MD_come 12 = .ok (.baload, 1) := by decide +kernel
theorem gm_d_MD_come_13 : decode gm_b_MD_come 13 = .ok (.ifCond .eq 4, 3) := by decide +kernel
theorem gm_d_MD_come_16 : decode gm_b_MD_come 16 = .ok (.return_, 1) := by decide +kernel
theorem gm_d_MD_come_17 : decode gm_b_MD_come 17 = .ok (.aload_n 0, 1) := by decide +kernel
theorem gm_d_MD_come_18 : decode gm_b_MD_come 18 = .ok (.getfield 88, 3) := by decide +kernel
theorem gm_d_MD_come_21 : decode gm_b_MD_come 21 = .ok (.iload_n 3, 1) := by decide +kernel
theorem gm_d_MD_come_22 : decode gm_b_MD_come 22 = .ok (.iconst 1, 1) := by decide +kernel
theorem gm_d_MD_come_23 : decode gm_b_MD_come 23 = .ok (.bastore, 1) := by decide +kernel
theorem gm_d_MD_come_24 : decode gm_b_MD_come 24 = .ok (.aload_n 0, 1) := by decide +kernel
theorem gm_d_MD_come_25 : decode gm_b_MD_come 25 = .ok (.getfield 91, 3) := by decide +kernel
theorem gm_d_MD_come_28 : decode gm_b_MD_come 28 = .ok (.aload_n 0, 1) := by decide +kernel
theorem gm_d_MD_come_29 : decode gm_b_MD_come 29 = .ok (.getfield 266, 3) := by decide +kernel
theorem gm_d_MD_come_32 : decode gm_b_MD_come 32 = .ok (.iload_n 3, 1) := by decide +kernel
theorem gm_d_MD_come_33 : decode gm_b_MD_come 33 = .ok (.iastore, 1) := by decide +kernel
theorem gm_d_MD_come_34 : decode gm_b_MD_come 34 = .ok (.aload_n 0, 1) := by decide +kernel
theorem gm_d_MD_come_35 : decode gm_b_MD_come 35 = .ok (.dup, 1) := by decide +kernel
theorem gm_d_MD_come_36 : decode gm_b_MD_come 36 = .ok (.getfield 266, 3) := by decide +kernel
theorem gm_d_MD_come_39 : decode gm_b_MD_come 39 = .ok (.iconst 1, 1) := by decide +kernel
theorem gm_d_MD_come_40 : decode gm_b_MD_come 40 = .ok (.iadd, 1) := by decide +kernel
theorem gm_d_MD_come_41 : decode gm_b_MD_come 41 = .ok (.putfield 266, 3) := by decide +kernel
theorem gm_d_MD_come_44 : decode gm_b_MD_come 44 = .ok (.return_, 1) := by decide +kernel
theorem gm_d_MD_isRuled_0 : decode gm_b_MD_isRuled 0 = .ok (.iconst 0, 1) := by decide +kernel
theorem gm_d_MD_isRuled_1 : decode gm_b_MD_isRuled 1 = .ok (.istore_n 3, 1) := by decide +kernel
theorem gm_d_MD_isRuled_2 : decode gm_b_MD_isRuled 2 = .ok (.sipush 160, 3) := by decide +kernel
theorem gm_d_MD_isRuled_5 : decode gm_b_MD_isRuled 5 = .ok (.aload_n 0, 1) := by decide +kernel
theorem gm_d_MD_isRuled_6 : decode gm_b_MD_isRuled 6 = .ok (.getfield 17, 3) := by decide +kernel
theorem gm_d_MD_isRuled_9 : decode gm_b_MD_isRuled 9 = .ok (.imul, 1) := by decide +kernel
theorem gm_d_MD_isRuled_10 : decode gm_b_MD_isRuled 10 = .ok (.istore 4, 2) := by decide +kernel
theorem gm_d_MD_isRuled_12 : decode gm_b_MD_isRuled 12 = .ok (.iload 4, 2) := by decide +kernel
theorem gm_d_MD_isRuled_14 : decode gm_b_MD_isRuled 14 = .ok (.sipush 160, 3) := by decide +kernel
theorem gm_d_MD_isRuled_17 : decode gm_b_MD_isRuled 17 = .ok (.aload_n 0, 1) := by decide +kernel
theorem gm_d_MD_isRuled_18 : decode gm_b_MD_isRuled 18 = .ok (.getfield 17, 3) := by decide +kernel
theorem gm_d_MD_isRuled_21 : decode gm_b_MD_isRuled 21 = .ok (.imul, 1) := by decide +kernel
theorem gm_d_MD_isRuled_22 : decode gm_b_MD_isRuled 22 = .ok (.aload_n 0, 1) := by decide +kernel
theorem gm_d_MD_isRuled_23 : decode gm_b_MD_isRuled 23 = .ok (.getfield 29, 3) := by decide +kernel
theorem gm_d_MD_isRuled_26 : decode gm_b_MD_isRuled 26 = .ok (.aload_n 0, 1) := by decide +kernel
theorem gm_d_MD_isRuled_27 : decode gm_b_MD_isRuled 27 = .ok (.getfield 17, 3) := by decide +kernel
theorem gm_d_MD_isRuled_30 : decode gm_b_MD_isRuled 30 = .ok (.iaload, 1) := by decide +kernel
theorem gm_d_MD_isRuled_31 : decode gm_b_MD_isRuled 31 = .ok (.iadd, 1) := by decide +kernel
theorem gm_d_MD_isRuled_32 : decode gm_b_MD_isRuled 32 = .ok (.if_icmp .ge 64, 3) := by decide +kernel
theorem gm_d_MD_isRuled_35 : decode gm_b_MD_isRuled 35 = .ok (.iload_n 3, 1) := by decide +kernel
theorem gm_d_MD_isRuled_36 : decode gm_b_MD_isRuled 36 = .ok (.ifCond .ne 48, 3) := by decide +kernel
theorem gm_d_MD_isRuled_39 : decode gm_b_MD_isRuled 39 = .ok (.aload_n 0, 1) := by decide +kernel
theorem gm_d_MD_isRuled_40 : decode gm_b_MD_isRuled 40 = .ok (.getfield 32, 3) := by decide +kernel
theorem gm_d_MD_isRuled_43 : decode gm_b_MD_isRuled 43 = .ok (.iload 4, 2) := by decide +kernel
theorem gm_d_MD_isRuled_45 : decode gm_b_MD_isRuled 45 = .ok (.iaload, 1) := by decide +kernel
theorem gm_d_MD_isRuled_46 : decode gm_b_MD_isRuled 46 = .ok (.iconst 3, 1) := by decide +kernel
theorem gm_d_MD_isRuled_47 : decode gm_b_MD_isRuled 47 = .ok (.if_icmp .ne 41, 3) := by decide +kernel
theorem gm_d_MD_isRuled_50 : decode gm_b_MD_isRuled 50 = .ok (.aload_n 0, 1) := by decide +kernel
theorem gm_d_MD_isRuled_51 : decode gm_b_MD_isRuled 51 = .ok (.aload_n 0, 1) := by decide +kernel
theorem gm_d_MD_isRuled_52 : decode gm_b_MD_isRuled 52 = .ok (.getfield 17, 3) := by decide +kernel
theorem gm_d_MD_isRuled_55 : decode gm_b_MD_isRuled 55 = .ok (.aload_n 0, 1) := by decide +kernel
theorem gm_d_MD_isRuled_56 : decode gm_b_MD_isRuled 56 = .ok (.getfield 35, 3) := by decide +kernel
theorem gm_d_MD_isRuled_59 : decode gm_b_MD_isRuled 59 = .ok (.iload 4, 2) := by decide +kernel
theorem gm_d_MD_isRuled_61 : decode gm_b_MD_isRuled 61 = .ok (.iaload, 1) := by decide +kernel
theorem gm_d_MD_isRuled_62 : decode gm_b_MD_isRuled 62 = .ok (.invokevirtual 126, 3) := by decide +kernel
theorem gm_d_MD_isRuled_65 : decode gm_b_MD_isRuled 65 = .ok (.iload_n 1, 1) := by decide +kernel
theorem gm_d_MD_isRuled_66 : decode gm_b_MD_isRuled 66 = .ok (.if_icmp .ne 22, 3) := by decide +kernel
theorem gm_d_MD_isRuled_69 : decode gm_b_MD_isRuled 69 = .ok (.aload_n 0, 1) := by decide +kernel
theorem gm_d_MD_isRuled_70 : decode gm_b_MD_isRuled 70 = .ok (.getfield 88, 3) := by decide +kernel
theorem gm_d_MD_isRuled_73 : decode gm_b_MD_isRuled 73 = .ok (.aload_n 0, 1) := by decide +kernel
theorem gm_d_MD_isRuled_74 : decode gm_b_MD_isRuled 74 = .ok (.iload 4, 2) := by decide +kernel
theorem gm_d_MD_isRuled_76 : decode gm_b_MD_isRuled 76 = .ok (.iload_n 2, 1) := by decide +kernel
theorem gm_d_MD_isRuled_77 : decode gm_b_MD_isRuled 77 = .ok (.invokevirtual 231, 3) := by decide +kernel
theorem gm_d_MD_isRuled_80 : decode gm_b_MD_isRuled 80 = .ok (.baload, 1) := by decide +kernel
theorem gm_d_MD_isRuled_81 : decode gm_b_MD_isRuled 81 = .ok (.ifCond .eq 7, 3) := by decide +kernel
theorem gm_d_MD_isRuled_84 : decode gm_b_MD_isRuled 84 = .ok (.iconst 1, 1) := by decide +kernel
theorem gm_d_MD_isRuled_85 : decode gm_b_MD_isRuled 85 = .ok (.goto 4, 3) := by decide +kernel
theorem gm_d_MD_isRuled_88 : decode gm_b_MD_isRuled 88 = .ok (.iconst 0, 1) := by decide +kernel
theorem gm_d_MD_isRuled_89 : decode gm_b_MD_isRuled 89 = .ok (.istore_n 3, 1) := by decide +kernel
theorem gm_d_MD_isRuled_90 : decode gm_b_MD_isRuled 90 = .ok (.iinc 4 1, 3) := by decide +kernel
theorem gm_d_MD_isRuled_93 : decode gm_b_MD_isRuled 93 = .ok (.goto (-81), 3) := by decide +kernel
theorem gm_d_MD_isRuled_96 : decode gm_b_MD_isRuled 96 = .ok (.iload_n 3, 1) := by decide +kernel
theorem gm_d_MD_isRuled_97 : decode gm_b_MD_isRuled 97 = .ok (.ireturn, 1) := by decide +kernel
theorem gm_d_MD_ruled_0 : decode gm_b_MD_ruled 0 = .ok (.iconst 0, 1) := by decide +kernel
theorem gm_d_MD_ruled_1 : decode gm_b_MD_ruled 1 = .ok (.istore_n 2, 1) := by decide +kernel
theorem gm_d_MD_ruled_2 : decode gm_b_MD_ruled 2 = .ok (.iconst 0, 1) := by decide +kernel
theorem gm_d_MD_ruled_3 : decode gm_b_MD_ruled 3 = .ok (.istore_n 3, 1) := by decide +kernel
theorem gm_d_MD_ruled_4 : decode gm_b_MD_ruled 4 = .ok (.iload_n 3, 1) := by decide +kernel
theorem gm_d_MD_ruled_5 : decode gm_b_MD_ruled 5 = .ok (.aload_n 0, 1) := by decide +kernel
theorem gm_d_MD_ruled_6 : decode gm_b_MD_ruled 6 = .ok (.getfield 20, 3) := by decide +kernel
theorem gm_d_MD_ruled_9 : decode gm_b_MD_ruled 9 = .ok (.aload_n 0, 1) := by decide +kernel
theorem gm_d_MD_ruled_10 : decode gm_b_MD_ruled 10 = .ok (.getfield 17, 3) := by decide +kernel
theorem gm_d_MD_ruled_13 : decode gm_b_MD_ruled 13 = .ok (.iaload, 1) := by decide +kernel
theorem gm_d_MD_ruled_14 : decode gm_b_MD_ruled 14 = .ok (.if_icmp .ge 68, 3) := by decide +kernel
theorem gm_d_MD_ruled_17 : decode gm_b_MD_ruled 17 = .ok (.iconst 0, 1) := by decide +kernel
theorem gm_d_MD_ruled_18 : decode gm_b_MD_ruled 18 = .ok (.istore 4, 2) := by decide +kernel
theorem gm_d_MD_ruled_20 : decode gm_b_MD_ruled 20 = .ok (.iload 4, 2) := by decide +kernel
theorem gm_d_MD_ruled_22 : decode gm_b_MD_ruled 22 = .ok (.aload_n 0, 1) := by decide +kernel
theorem gm_d_MD_ruled_23 : decode gm_b_MD_ruled 23 = .ok (.getfield 228, 3) := by decide +kernel
theorem gm_d_MD_ruled_26 : decode gm_b_MD_ruled 26 = .ok (.if_icmp .gt 50, 3) := by decide +kernel
theorem gm_d_MD_ruled_29 : decode gm_b_MD_ruled 29 = .ok (.iload_n 2, 1) := by decide +kernel
theorem gm_d_MD_ruled_30 : decode gm_b_MD_ruled 30 = .ok (.aload_n 0, 1) := by decide +kernel
theorem gm_d_MD_ruled_31 : decode gm_b_MD_ruled 31 = .ok (.iload_n 3, 1) := by decide +kernel
theorem gm_d_MD_ruled_32 : decode gm_b_MD_ruled 32 = .ok (.iload 4, 2) := by decide +kernel
theorem gm_d_MD_ruled_34 : decode gm_b_MD_ruled 34 = .ok (.invokevirtual 275, 3) := by decide +kernel
theorem gm_d_MD_ruled_37 : decode gm_b_MD_ruled 37 = .ok (.ifCond .ne 26, 3) := by decide +kernel
theorem gm_d_MD_ruled_40 : decode gm_b_MD_ruled 40 = .ok (.aload_n 0, 1) := by decide +kernel
theorem gm_d_MD_ruled_41 : decode gm_b_MD_ruled 41 = .ok (.getfield 26, 3) := by decide +kernel
theorem gm_d_MD_ruled_44 : decode gm_b_MD_ruled 44 = .ok (.bipush 8, 2) := by decide +kernel
theorem gm_d_MD_ruled_46 : decode gm_b_MD_ruled 46 = .ok (.aload_n 0, 1) := by decide +kernel
theorem gm_d_MD_ruled_47 : decode gm_b_MD_ruled 47 = .ok (.getfield 17, 3) := by decide +kernel
theorem gm_d_MD_ruled_50 : decode gm_b_MD_ruled 50 = .ok (.imul, 1) := by decide +kernel
theorem gm_d_MD_ruled_51 : decode gm_b_MD_ruled 51 = .ok (.iload_n 3, 1) := by decide +kernel
theorem gm_d_MD_ruled_52 : decode gm_b_MD_ruled 52 = .ok (.iadd, 1) := by decide +kernel
theorem gm_d_MD_ruled_53 : decode gm_b_MD_ruled 53 = .ok (.iaload, 1) := by decide +kernel
theorem gm_d_MD_ruled_54 : decode gm_b_MD_ruled 54 = .ok (.iload_n 1, 1) := by decide +kernel
theorem gm_d_MD_ruled_55 : decode gm_b_MD_ruled 55 = .ok (.if_icmp .ne 12, 3) := by decide +kernel
theorem gm_d_MD_ruled_58 : decode gm_b_MD_ruled 58 = .ok (.iload 4, 2) := by decide +kernel
theorem gm_d_MD_ruled_60 : decode gm_b_MD_ruled 60 = .ok (.ifCond .ne 7, 3) := by decide +kernel
theorem gm_d_MD_ruled_63 : decode gm_b_MD_ruled 63 = .ok (.iconst 1, 1) := by decide +kernel
theorem gm_d_MD_ruled_64 : decode gm_b_MD_ruled 64 = .ok (.goto 4, 3) := by decide +kernel
theorem gm_d_MD_ruled_67 : decode gm_b_MD_ruled 67 = .ok (.iconst 0, 1) := by decide +kernel
theorem gm_d_MD_ruled_68 : decode gm_b_MD_ruled 68 = .ok (.iadd, 1) := by decide +kernel
theorem gm_d_MD_ruled_69 : decode gm_b_MD_ruled 69 = .ok (.istore_n 2, 1) := by decide +kernel
theorem gm_d_MD_ruled_70 : decode gm_b_MD_ruled 70 = .ok (.iinc 4 1, 3) := by decide +kernel
theorem gm_d_MD_ruled_73 : decode gm_b_MD_ruled 73 = .ok (.goto (-53), 3) := by decide +kernel
theorem gm_d_MD_ruled_76 : decode gm_b_MD_ruled 76 = .ok (.iinc 3 1, 3) := by decide +kernel
theorem gm_d_MD_ruled_79 : decode gm_b_MD_ruled 79 = .ok (.goto (-75), 3) := by decide +kernel
theorem gm_d_MD_ruled_82 : decode gm_b_MD_ruled 82 = .ok (.iload_n 2, 1) := by decide +kernel
theorem gm_d_MD_ruled_83 : decode gm_b_MD_ruled 83 = .ok (.ireturn, 1) := by decide +kernel
theorem gm_d_MD_evaluations_0 : decode gm_b_MD_evaluations 0 = .ok (.iconst 0, 1) := by decide +kernel
theorem gm_d_MD_evaluations_1 : decode gm_b_MD_evaluations 1 = .ok (.istore_n 2, 1) := by decide +kernel
theorem gm_d_MD_evaluations_2 : decode gm_b_MD_evaluations 2 = .ok (.iload_n 2, 1) := by decide +kernel
theorem gm_d_MD_evaluations_3 : decode gm_b_MD_evaluations 3 = .ok (.bipush 11, 2) := by decide +kernel
theorem gm_d_MD_evaluations_5 : decode gm_b_MD_evaluations 5 = .ok (.aload_n 0, 1) := by decide +kernel
theorem gm_d_MD_evaluations_6 : decode gm_b_MD_evaluations 6 = .ok (.getfield 29, 3) := by decide +kernel
theorem gm_d_MD_evaluations_9 : decode gm_b_MD_evaluations 9 = .ok (.aload_n 0, 1) := by decide +kernel
theorem gm_d_MD_evaluations_10 : decode gm_b_MD_evaluations 10 = .ok (.getfield 17, 3) := by decide +kernel
theorem gm_d_MD_evaluations_13 : decode gm_b_MD_evaluations 13 = .ok (.iaload, 1) := by decide +kernel
theorem gm_d_MD_evaluations_14 : decode gm_b_MD_evaluations 14 = .ok (.imul, 1) := by decide +kernel
theorem gm_d_MD_evaluations_15 : decode gm_b_MD_evaluations 15 = .ok (.if_icmp .ge 16, 3) := by decide +kernel
theorem gm_d_MD_evaluations_18 : decode gm_b_MD_evaluations 18 = .ok (.aload_n 0, 1) := by decide +kernel
theorem gm_d_MD_evaluations_19 : decode gm_b_MD_evaluations 19 = .ok (.getfield 88, 3) := by decide +kernel
theorem gm_d_MD_evaluations_22 : decode gm_b_MD_evaluations 22 = .ok (.iload_n 2, 1) := by decide +kernel
theorem gm_d_MD_evaluations_23 : decode gm_b_MD_evaluations 23 = .ok (.iconst 0, 1) := by decide +kernel
theorem gm_d_MD_evaluations_24 : decode gm_b_MD_evaluations 24 = .ok (.bastore, 1) := by decide +kernel
theorem gm_d_MD_evaluations_25 : decode gm_b_MD_evaluations 25 = .ok (.iinc 2 1, 3) := by decide +kernel
theorem gm_d_MD_evaluations_28 : decode gm_b_MD_evaluations 28 = .ok (.goto (-26), 3) := by decide +kernel
theorem gm_d_MD_evaluations_31 : decode gm_b_MD_evaluations 31 = .ok (.aload_n 0, 1) := by decide +kernel
theorem gm_d_MD_evaluations_32 : decode gm_b_MD_evaluations 32 = .ok (.iconst 0, 1) := by decide +kernel
theorem gm_d_MD_evaluations_33 : decode gm_b_MD_evaluations 33 = .ok (.putfield 266, 3) := by decide +kernel
theorem gm_d_MD_evaluations_36 : decode gm_b_MD_evaluations 36 = .ok (.aload_n 0, 1) := by decide +kernel
theorem gm_d_MD_evaluations_37 : decode gm_b_MD_evaluations 37 = .ok (.iload_n 1, 1) := by decide +kernel
theorem gm_d_MD_evaluations_38 : decode gm_b_MD_evaluations 38 = .ok (.iconst 0, 1) := by decide +kernel
theorem gm_d_MD_evaluations_39 : decode gm_b_MD_evaluations 39 = .ok (.invokevirtual 269, 3) := by decide +kernel
theorem gm_d_MD_evaluations_42 : decode gm_b_MD_evaluations 42 = .ok (.iconst 0, 1) := by decide +kernel
theorem gm_d_MD_evaluations_43 : decode gm_b_MD_evaluations 43 = .ok (.istore_n 2, 1) := by decide +kernel
theorem gm_d_MD_evaluations_44 : decode gm_b_MD_evaluations 44 = .ok (.iload_n 2, 1) := by decide +kernel
theorem gm_d_MD_evaluations_45 : decode gm_b_MD_evaluations 45 = .ok (.aload_n 0, 1) := by decide +kernel
theorem gm_d_MD_evaluations_46 : decode gm_b_MD_evaluations 46 = .ok (.getfield 266, 3) := by decide +kernel
theorem gm_d_MD_evaluations_49 : decode gm_b_MD_evaluations 49 = .ok (.if_icmp .ge 200, 3) := by decide +kernel
theorem gm_d_MD_evaluations_52 : decode gm_b_MD_evaluations 52 = .ok (.sipush 160, 3) := by decide +kernel
theorem gm_d_MD_evaluations_55 : decode gm_b_MD_evaluations 55 = .ok (.aload_n 0, 1) := by decide +kernel
theorem gm_d_MD_evaluations_56 : decode gm_b_MD_evaluations 56 = .ok (.getfield 17, 3) := by decide +kernel
theorem gm_d_MD_evaluations_59 : decode gm_b_MD_evaluations 59 = .ok (.imul, 1) := by decide +kernel
theorem gm_d_MD_evaluations_60 : decode gm_b_MD_evaluations 60 = .ok (.aload_n 0, 1) := by decide +kernel
theorem gm_d_MD_evaluations_61 : decode gm_b_MD_evaluations 61 = .ok (.getfield 91, 3) := by decide +kernel
theorem gm_d_MD_evaluations_64 : decode gm_b_MD_evaluations 64 = .ok (.iload_n 2, 1) := by decide +kernel
theorem gm_d_MD_evaluations_65 : decode gm_b_MD_evaluations 65 = .ok (.iaload, 1) := by decide +kernel
theorem gm_d_MD_evaluations_66 : decode gm_b_MD_evaluations 66 = .ok (.bipush 11, 2) := by decide +kernel
theorem gm_d_MD_evaluations_68 : decode gm_b_MD_evaluations 68 = .ok (.idiv, 1) := by decide +kernel
theorem gm_d_MD_evaluations_69 : decode gm_b_MD_evaluations 69 = .ok (.iadd, 1) := by decide +kernel
theorem gm_d_MD_evaluations_70 : decode gm_b_MD_evaluations 70 = .ok (.istore_n 3, 1) := by decide +kernel
theorem gm_d_MD_evaluations_71 : decode gm_b_MD_evaluations 71 = .ok (.aload_n 0, 1) := by decide +kernel
theorem gm_d_MD_evaluations_72 : decode gm_b_MD_evaluations 72 = .ok (.getfield 91, 3) := by decide +kernel
theorem gm_d_MD_evaluations_75 : decode gm_b_MD_evaluations 75 = .ok (.iload_n 2, 1) := by decide +kernel
theorem gm_d_MD_evaluations_76 : decode gm_b_MD_evaluations 76 = .ok (.iaload, 1) := by decide +kernel
theorem gm_d_MD_evaluations_77 : decode gm_b_MD_evaluations 77 = .ok (.bipush 11, 2) := by decide +kernel
theorem gm_d_MD_evaluations_79 : decode gm_b_MD_evaluations 79 = .ok (.irem, 1) := by decide +kernel
theorem gm_d_MD_evaluations_80 : decode gm_b_MD_evaluations 80 = .ok (.istore 4, 2) := by decide +kernel
theorem gm_d_MD_evaluations_82 : decode gm_b_MD_evaluations 82 = .ok (.aload_n 0, 1) := by decide +kernel
theorem gm_d_MD_evaluations_83 : decode gm_b_MD_evaluations 83 = .ok (.getfield 35, 3) := by decide +kernel
theorem gm_d_MD_evaluations_86 : decode gm_b_MD_evaluations 86 = .ok (.iload_n 3, 1) := by decide +kernel
theorem gm_d_MD_evaluations_87 : decode gm_b_MD_evaluations 87 = .ok (.iaload, 1) := by decide +kernel
theorem gm_d_MD_evaluations_88 : decode gm_b_MD_evaluations 88 = .ok (.istore 5, 2) := by decide +kernel
theorem gm_d_MD_evaluations_90 : decode gm_b_MD_evaluations 90 = .ok (.aload_n 0, 1) := by decide +kernel
theorem gm_d_MD_evaluations_91 : decode gm_b_MD_evaluations 91 = .ok (.getfield 32, 3) := by decide +kernel
theorem gm_d_MD_evaluations_94 : decode gm_b_MD_evaluations 94 = .ok (.iload_n 3, 1) := by decide +kernel
theorem gm_d_MD_evaluations_95 : decode gm_b_MD_evaluations 95 = .ok (.iaload, 1) := by decide +kernel
theorem gm_d_MD_evaluations_96 : decode gm_b_MD_evaluations 96 = .ok (.iconst 3, 1) := by decide +kernel
theorem gm_d_MD_evaluations_97 : decode gm_b_MD_evaluations 97 = .ok (.if_icmp .ne 14, 3) := by decide +kernel
theorem gm_d_MD_evaluations_100 : decode gm_b_MD_evaluations 100 = .ok (.aload_n 0, 1) := by decide +kernel
theorem gm_d_MD_evaluations_101 : decode gm_b_MD_evaluations 101 = .ok (.aload_n 0, 1) := by decide +kernel
theorem gm_d_MD_evaluations_102 : decode gm_b_MD_evaluations 102 = .ok (.iload_n 3, 1) := by decide +kernel
theorem gm_d_MD_evaluations_103 : decode gm_b_MD_evaluations 103 = .ok (.invokevirtual 182, 3) := by decide +kernel
theorem gm_d_MD_evaluations_106 : decode gm_b_MD_evaluations 106 = .ok (.iload 4, 2) := by decide +kernel
theorem gm_d_MD_evaluations_108 : decode gm_b_MD_evaluations 108 = .ok (.invokevirtual 269, 3) := by decide +kernel
theorem gm_d_MD_evaluations_111 : decode gm_b_MD_evaluations 111 = .ok (.aload_n 0, 1) := by decide +kernel
theorem gm_d_MD_evaluations_112 : decode gm_b_MD_evaluations 112 = .ok (.getfield 32, 3) := by decide +kernel
theorem gm_d_MD_evaluations_115 : decode gm_b_MD_evaluations 115 = .ok (.iload_n 3, 1) := by decide +kernel
theorem gm_d_MD_evaluations_116 : decode gm_b_MD_evaluations 116 = .ok (.iaload, 1) := by decide +kernel
theorem gm_d_MD_evaluations_117 : decode gm_b_MD_evaluations 117 = .ok (.iconst 3, 1) := by decide +kernel
theorem gm_d_MD_evaluations_118 : decode gm_b_MD_evaluations 118 = .ok (.if_icmp .le 11, 3) := by decide +kernel
theorem gm_d_MD_evaluations_121 : decode gm_b_MD_evaluations 121 = .ok (.aload_n 0, 1) := by decide +kernel
theorem gm_d_MD_evaluations_122 : decode gm_b_MD_evaluations 122 = .ok (.iload 5, 2) := by decide +kernel
theorem gm_d_MD_evaluations_124 : decode gm_b_MD_evaluations 124 = .ok (.iload 4, 2) := by decide +kernel
theorem gm_d_MD_evaluations_126 : decode gm_b_MD_evaluations 126 = .ok (.invokevirtual 269, 3) := by decide +kernel
theorem gm_d_MD_evaluations_129 : decode gm_b_MD_evaluations 129 = .ok (.aload_n 0, 1) := by decide +kernel
theorem gm_d_MD_evaluations_130 : decode gm_b_MD_evaluations 130 = .ok (.getfield 32, 3) := by decide +kernel
theorem gm_d_MD_evaluations_133 : decode gm_b_MD_evaluations 133 = .ok (.iload_n 3, 1) := by decide +kernel
theorem gm_d_MD_evaluations_134 : decode gm_b_MD_evaluations 134 = .ok (.iaload, 1) := by decide +kernel
theorem gm_d_MD_evaluations_135 : decode gm_b_MD_evaluations 135 = .ok (.iconst 4, 1) := by decide +kernel
theorem gm_d_MD_evaluations_136 : decode gm_b_MD_evaluations 136 = .ok (.if_icmp .ne 35, 3) := by decide +kernel
theorem gm_d_MD_evaluations_139 : decode gm_b_MD_evaluations 139 = .ok (.aload_n 0, 1) := by decide +kernel
theorem gm_d_MD_evaluations_140 : decode gm_b_MD_evaluations 140 = .ok (.iload 5, 2) := by decide +kernel
theorem gm_d_MD_evaluations_142 : decode gm_b_MD_evaluations 142 = .ok (.iload 4, 2) := by decide +kernel
theorem gm_d_MD_evaluations_144 : decode gm_b_MD_evaluations 144 = .ok (.invokevirtual 257, 3) := by decide +kernel
theorem gm_d_MD_evaluations_147 : decode gm_b_MD_evaluations 147 = .ok (.ifCond .lt 24, 3) := by decide +kernel
theorem gm_d_MD_evaluations_150 : decode gm_b_MD_evaluations 150 = .ok (.aload_n 0, 1) := by decide +kernel
theorem gm_d_MD_evaluations_151 : decode gm_b_MD_evaluations 151 = .ok (.aload_n 0, 1) := by decide +kernel
theorem gm_d_MD_evaluations_152 : decode gm_b_MD_evaluations 152 = .ok (.getfield 38, 3) := by decide +kernel
theorem gm_d_MD_evaluations_155 : decode gm_b_MD_evaluations 155 = .ok (.iload_n 3, 1) := by decide +kernel
theorem gm_d_MD_evaluations_156 : decode gm_b_MD_evaluations 156 = .ok (.iaload, 1) := by decide +kernel
theorem gm_d_MD_evaluations_157 : decode gm_b_MD_evaluations 157 = .ok (.iload 4, 2) := by decide +kernel
theorem gm_d_MD_evaluations_159 : decode gm_b_MD_evaluations 159 = .ok (.aload_n 0, 1) := by decide +kernel
theorem gm_d_MD_evaluations_160 : decode gm_b_MD_evaluations 160 = .ok (.iload 5, 2) := by decide +kernel
theorem gm_d_MD_evaluations_162 : decode gm_b_MD_evaluations 162 = .ok (.iload 4, 2) := by decide +kernel
theorem gm_d_MD_evaluations_164 : decode gm_b_MD_evaluations 164 = .ok (.invokevirtual 257, 3) := by decide +kernel
theorem gm_d_MD_evaluations_167 : decode gm_b_MD_evaluations 167 = .ok (.iadd, 1) := by decide +kernel
theorem gm_d_MD_evaluations_168 : decode gm_b_MD_evaluations 168 = .ok (.invokevirtual 269, 3) := by decide +kernel
theorem gm_d_MD_evaluations_171 : decode gm_b_MD_evaluations 171 = .ok (.aload_n 0, 1) := by decide +kernel
theorem gm_d_MD_evaluations_172 : decode gm_b_MD_evaluations 172 = .ok (.getfield 32, 3) := by decide +kernel
theorem gm_d_MD_evaluations_175 : decode gm_b_MD_evaluations 175 = .ok (.iload_n 3, 1) := by decide +kernel
theorem gm_d_MD_evaluations_176 : decode gm_b_MD_evaluations 176 = .ok (.iaload, 1) := by decide +kernel
theorem gm_d_MD_evaluations_177 : decode gm_b_MD_evaluations 177 = .ok (.iconst 5, 1) := by decide +kernel
theorem gm_d_MD_evaluations_178 : decode gm_b_MD_evaluations 178 = .ok (.if_icmp .ne 27, 3) := by decide +kernel
theorem gm_d_MD_evaluations_181 : decode gm_b_MD_evaluations 181 = .ok (.aload_n 0, 1) := by decide +kernel
theorem gm_d_MD_evaluations_182 : decode gm_b_MD_evaluations 182 = .ok (.iload 5, 2) := by decide +kernel
theorem gm_d_MD_evaluations_184 : decode gm_b_MD_evaluations 184 = .ok (.iload 4, 2) := by decide +kernel
theorem gm_d_MD_evaluations_186 : decode gm_b_MD_evaluations 186 = .ok (.invokevirtual 257, 3) := by decide +kernel
theorem gm_d_MD_evaluations_189 : decode gm_b_MD_evaluations 189 = .ok (.iconst (-1), 1) := by decide +kernel
theorem gm_d_MD_evaluations_190 : decode gm_b_MD_evaluations 190 = .ok (.if_icmp .ne 15, 3) := by decide +kernel
theorem gm_d_MD_evaluations_193 : decode gm_b_MD_evaluations 193 = .ok (.aload_n 0, 1) := by decide +kernel
theorem gm_d_MD_evaluations_194 : decode gm_b_MD_evaluations 194 = .ok (.aload_n 0, 1) := by decide +kernel
theorem gm_d_MD_evaluations_195 : decode gm_b_MD_evaluations 195 = .ok (.getfield 38, 3) := by decide +kernel
theorem gm_d_MD_evaluations_198 : decode gm_b_MD_evaluations 198 = .ok (.iload_n 3, 1) := by decide +kernel
theorem gm_d_MD_evaluations_199 : decode gm_b_MD_evaluations 199 = .ok (.iaload, 1) := by decide +kernel
theorem gm_d_MD_evaluations_200 : decode gm_b_MD_evaluations 200 = .ok (.iload 4, 2) := by decide +kernel
theorem gm_d_MD_evaluations_202 : decode gm_b_MD_evaluations 202 = .ok (.invokevirtual 269, 3) := by decide +kernel
theorem gm_d_MD_evaluations_205 : decode gm_b_MD_evaluations 205 = .ok (.aload_n 0, 1) := by decide +kernel
theorem gm_d_MD_evaluations_206 : decode gm_b_MD_evaluations 206 = .ok (.getfield 32, 3) := by decide +kernel
theorem gm_d_MD_evaluations_209 : decode gm_b_MD_evaluations 209 = .ok (.iload_n 3, 1) := by decide +kernel
theorem gm_d_MD_evaluations_210 : decode gm_b_MD_evaluations 210 = .ok (.iaload, 1) := by decide +kernel
theorem gm_d_MD_evaluations_211 : decode gm_b_MD_evaluations 211 = .ok (.bipush 7, 2) := by decide +kernel
theorem gm_d_MD_evaluations_213 : decode gm_b_MD_evaluations 213 = .ok (.if_icmp .ne 30, 3) := by decide +kernel
theorem gm_d_MD_evaluations_216 : decode gm_b_MD_evaluations 216 = .ok (.aload_n 0, 1) := by decide +kernel
theorem gm_d_MD_evaluations_217 : decode gm_b_MD_evaluations 217 = .ok (.iload 5, 2) := by decide +kernel
theorem gm_d_MD_evaluations_219 : decode gm_b_MD_evaluations 219 = .ok (.iload 4, 2) := by decide +kernel
theorem gm_d_MD_evaluations_221 : decode gm_b_MD_evaluations 221 = .ok (.invokevirtual 257, 3) := by decide +kernel
theorem gm_d_MD_evaluations_224 : decode gm_b_MD_evaluations 224 = .ok (.ifCond .le 19, 3) := by decide +kernel
theorem gm_d_MD_evaluations_227 : decode gm_b_MD_evaluations 227 = .ok (.aload_n 0, 1) := by decide +kernel
theorem gm_d_MD_evaluations_228 : decode gm_b_MD_evaluations 228 = .ok (.iload_n 3, 1) := by decide +kernel
theorem gm_d_MD_evaluations_229 : decode gm_b_MD_evaluations 229 = .ok (.iload 4, 2) := by decide +kernel
theorem gm_d_MD_evaluations_231 : decode gm_b_MD_evaluations 231 = .ok (.aload_n 0, 1) := by decide +kernel
theorem gm_d_MD_evaluations_232 : decode gm_b_MD_evaluations 232 = .ok (.iload 5, 2) := by decide +kernel
theorem gm_d_MD_evaluations_234 : decode gm_b_MD_evaluations 234 = .ok (.iload 4, 2) := by decide +kernel
theorem gm_d_MD_evaluations_236 : decode gm_b_MD_evaluations 236 = .ok (.invokevirtual 257, 3) := by decide +kernel
theorem gm_d_MD_evaluations_239 : decode gm_b_MD_evaluations 239 = .ok (.iadd, 1) := by decide +kernel
theorem gm_d_MD_evaluations_240 : decode gm_b_MD_evaluations 240 = .ok (.invokevirtual 269, 3) := by decide +kernel
theorem gm_d_MD_evaluations_243 : decode gm_b_MD_evaluations 243 = .ok (.iinc 2 1, 3) := by decide +kernel
theorem gm_d_MD_evaluations_246 : decode gm_b_MD_evaluations 246 = .ok (.goto (-202), 3) := by decide +kernel
theorem gm_d_MD_evaluations_249 : decode gm_b_MD_evaluations 249 = .ok (.aload_n 0, 1) := by decide +kernel
theorem gm_d_MD_evaluations_250 : decode gm_b_MD_evaluations 250 = .ok (.iload_n 1, 1) := by decide +kernel
theorem gm_d_MD_evaluations_251 : decode gm_b_MD_evaluations 251 = .ok (.invokevirtual 272, 3) := by decide +kernel
theorem gm_d_MD_evaluations_254 : decode gm_b_MD_evaluations 254 = .ok (.ireturn, 1) := by decide +kernel
theorem gm_d_MD_hold_0 : decode gm_b_MD_hold 0 = .ok (.aload_n 0, 1) := by decide +kernel
theorem gm_d_MD_hold_1 : decode gm_b_MD_hold 1 = .ok (.getfield 91, 3) := by decide +kernel
theorem gm_d_MD_hold_4 : decode gm_b_MD_hold 4 = .ok (.aload_n 0, 1) := by decide +kernel
theorem gm_d_MD_hold_5 : decode gm_b_MD_hold 5 = .ok (.getfield 266, 3) := by decide +kernel
theorem gm_d_MD_hold_8 : decode gm_b_MD_hold 8 = .ok (.aload_n 0, 1) := by decide +kernel
theorem gm_d_MD_hold_9 : decode gm_b_MD_hold 9 = .ok (.iload_n 1, 1) := by decide +kernel
theorem gm_d_MD_hold_10 : decode gm_b_MD_hold 10 = .ok (.iload_n 2, 1) := by decide +kernel
theorem gm_d_MD_hold_11 : decode gm_b_MD_hold 11 = .ok (.invokevirtual 231, 3) := by decide +kernel
theorem gm_d_MD_hold_14 : decode gm_b_MD_hold 14 = .ok (.iastore, 1) := by decide +kernel
theorem gm_d_MD_hold_15 : decode gm_b_MD_hold 15 = .ok (.aload_n 0, 1) := by decide +kernel
theorem gm_d_MD_hold_16 : decode gm_b_MD_hold 16 = .ok (.getfield 91, 3) := by decide +kernel
theorem gm_d_MD_hold_19 : decode gm_b_MD_hold 19 = .ok (.aload_n 0, 1) := by decide +kernel
theorem gm_d_MD_hold_20 : decode gm_b_MD_hold 20 = .ok (.getfield 266, 3) := by decide +kernel
theorem gm_d_MD_hold_23 : decode gm_b_MD_hold 23 = .ok (.iconst 1, 1) := by decide +kernel
theorem gm_d_MD_hold_24 : decode gm_b_MD_hold 24 = .ok (.iadd, 1) := by decide +kernel
theorem gm_d_MD_hold_25 : decode gm_b_MD_hold 25 = .ok (.iload_n 3, 1) := by decide +kernel
theorem gm_d_MD_hold_26 : decode gm_b_MD_hold 26 = .ok (.iastore, 1) := by decide +kernel
theorem gm_d_MD_hold_27 : decode gm_b_MD_hold 27 = .ok (.aload_n 0, 1) := by decide +kernel
theorem gm_d_MD_hold_28 : decode gm_b_MD_hold 28 = .ok (.dup, 1) := by decide +kernel
theorem gm_d_MD_hold_29 : decode gm_b_MD_hold 29 = .ok (.getfield 266, 3) := by decide +kernel
theorem gm_d_MD_hold_32 : decode gm_b_MD_hold 32 = .ok (.iconst 2, 1) := by decide +kernel
theorem gm_d_MD_hold_33 : decode gm_b_MD_hold 33 = .ok (.iadd, 1) := by decide +kernel
theorem gm_d_MD_hold_34 : decode gm_b_MD_hold 34 = .ok (.putfield 266, 3) := by decide +kernel
theorem gm_d_MD_hold_37 : decode gm_b_MD_hold 37 = .ok (.return_, 1) := by decide +kernel
theorem gm_d_MD_gather_0 : decode gm_b_MD_gather 0 = .ok (.aload_n 0, 1) := by decide +kernel
theorem gm_d_MD_gather_1 : decode gm_b_MD_gather 1 = .ok (.iconst 0, 1) := by decide +kernel
theorem gm_d_MD_gather_2 : decode gm_b_MD_gather 2 = .ok (.putfield 278, 3) := by decide +kernel
theorem gm_d_MD_gather_5 : decode gm_b_MD_gather 5 = .ok (.aload_n 0, 1) := by decide +kernel
theorem gm_d_MD_gather_6 : decode gm_b_MD_gather 6 = .ok (.iconst 0, 1) := by decide +kernel
theorem gm_d_MD_gather_7 : decode gm_b_MD_gather 7 = .ok (.putfield 266, 3) := by decide +kernel
theorem gm_d_MD_gather_10 : decode gm_b_MD_gather 10 = .ok (.aload_n 0, 1) := by decide +kernel
theorem gm_d_MD_gather_11 : decode gm_b_MD_gather 11 = .ok (.iload_n 1, 1) := by decide +kernel
theorem gm_d_MD_gather_12 : decode gm_b_MD_gather 12 = .ok (.iconst 0, 1) := by decide +kernel
theorem gm_d_MD_gather_13 : decode gm_b_MD_gather 13 = .ok (.iconst (-1), 1) := by decide +kernel
theorem gm_d_MD_gather_14 : decode gm_b_MD_gather 14 = .ok (.invokevirtual 281, 3) := by decide +kernel
theorem gm_d_MD_gather_17 : decode gm_b_MD_gather 17 = .ok (.aload_n 0, 1) := by decide +kernel
theorem gm_d_MD_gather_18 : decode gm_b_MD_gather 18 = .ok (.getfield 266, 3) := by decide +kernel
theorem gm_d_MD_gather_21 : decode gm_b_MD_gather 21 = .ok (.ifCond .le 333, 3) := by decide +kernel
theorem gm_d_MD_gather_24 : decode gm_b_MD_gather 24 = .ok (.aload_n 0, 1) := by decide +kernel
theorem gm_d_MD_gather_25 : decode gm_b_MD_gather 25 = .ok (.dup, 1) := by decide +kernel
theorem gm_d_MD_gather_26 : decode gm_b_MD_gather 26 = .ok (.getfield 266, 3) := by decide +kernel
theorem gm_d_MD_gather_29 : decode gm_b_MD_gather 29 = .ok (.iconst 2, 1) := by decide +kernel
theorem gm_d_MD_gather_30 : decode gm_b_MD_gather 30 = .ok (.isub, 1) := by decide +kernel
theorem gm_d_MD_gather_31 : decode gm_b_MD_gather 31 = .ok (.putfield 266, 3) := by decide +kernel
theorem gm_d_MD_gather_34 : decode gm_b_MD_gather 34 = .ok (.sipush 160, 3) := by decide +kernel
theorem gm_d_MD_gather_37 : decode gm_b_MD_gather 37 = .ok (.aload_n 0, 1) := by decide +kernel
theorem gm_d_MD_gather_38 : decode gm_b_MD_gather 38 = .ok (.getfield 17, 3) := by decide +kernel
theorem gm_d_MD_gather_41 : decode gm_b_MD_gather 41 = .ok (.imul, 1) := by decide +kernel
theorem gm_d_MD_gather_42 : decode gm_b_MD_gather 42 = .ok (.aload_n 0, 1) := by decide +kernel
theorem gm_d_MD_gather_43 : decode gm_b_MD_gather 43 = .ok (.getfield 91, 3) := by decide +kernel
theorem gm_d_MD_gather_46 : decode gm_b_MD_gather 46 = .ok (.aload_n 0, 1) := by decide +kernel
theorem gm_d_MD_gather_47 : decode gm_b_MD_gather 47 = .ok (.getfield 266, 3) := by decide +kernel
theorem gm_d_MD_gather_50 : decode gm_b_MD_gather 50 = .ok (.iaload, 1) := by decide +kernel
theorem gm_d_MD_gather_51 : decode gm_b_MD_gather 51 = .ok (.bipush 11, 2) := by decide +kernel
theorem gm_d_MD_gather_53 : decode gm_b_MD_gather 53 = .ok (.idiv, 1) := by decide +kernel
theorem gm_d_MD_gather_54 : decode gm_b_MD_gather 54 = .ok (.iadd, 1) := by decide +kernel
theorem gm_d_MD_gather_55 : decode gm_b_MD_gather 55 = .ok (.istore_n 2, 1) := by decide +kernel
theorem gm_d_MD_gather_56 : decode gm_b_MD_gather 56 = .ok (.aload_n 0, 1) := by decide +kernel
theorem gm_d_MD_gather_57 : decode gm_b_MD_gather 57 = .ok (.getfield 91, 3) := by decide +kernel
theorem gm_d_MD_gather_60 : decode gm_b_MD_gather 60 = .ok (.aload_n 0, 1) := by decide +kernel
theorem gm_d_MD_gather_61 : decode gm_b_MD_gather 61 = .ok (.getfield 266, 3) := by decide +kernel
theorem gm_d_MD_gather_64 : decode gm_b_MD_gather 64 = .ok (.iaload, 1) := by decide +kernel
theorem gm_d_MD_gather_65 : decode gm_b_MD_gather 65 = .ok (.bipush 11, 2) := by decide +kernel
theorem gm_d_MD_gather_67 : decode gm_b_MD_gather 67 = .ok (.irem, 1) := by decide +kernel
theorem gm_d_MD_gather_68 : decode gm_b_MD_gather 68 = .ok (.istore_n 3, 1) := by decide +kernel
theorem gm_d_MD_gather_69 : decode gm_b_MD_gather 69 = .ok (.aload_n 0, 1) := by decide +kernel
theorem gm_d_MD_gather_70 : decode gm_b_MD_gather 70 = .ok (.getfield 91, 3) := by decide +kernel
theorem gm_d_MD_gather_73 : decode gm_b_MD_gather 73 = .ok (.aload_n 0, 1) := by decide +kernel
theorem gm_d_MD_gather_74 : decode gm_b_MD_gather 74 = .ok (.getfield 266, 3) := by decide +kernel
theorem gm_d_MD_gather_77 : decode gm_b_MD_gather 77 = .ok (.iconst 1, 1) := by decide +kernel
theorem gm_d_MD_gather_78 : decode gm_b_MD_gather 78 = .ok (.iadd, 1) := by decide +kernel
theorem gm_d_MD_gather_79 : decode gm_b_MD_gather 79 = .ok (.iaload, 1) := by decide +kernel
theorem gm_d_MD_gather_80 : decode gm_b_MD_gather 80 = .ok (.istore 4, 2) := by decide +kernel
theorem gm_d_MD_gather_82 : decode gm_b_MD_gather 82 = .ok (.aload_n 0, 1) := by decide +kernel
theorem gm_d_MD_gather_83 : decode gm_b_MD_gather 83 = .ok (.getfield 35, 3) := by decide +kernel
theorem gm_d_MD_gather_86 : decode gm_b_MD_gather 86 = .ok (.iload_n 2, 1) := by decide +kernel
theorem gm_d_MD_gather_87 : decode gm_b_MD_gather 87 = .ok (.iaload, 1) := by decide +kernel
theorem gm_d_MD_gather_88 : decode gm_b_MD_gather 88 = .ok (.istore 5, 2) := by decide +kernel
theorem gm_d_MD_gather_90 : decode gm_b_MD_gather 90 = .ok (.aload_n 0, 1) := by decide +kernel
theorem gm_d_MD_gather_91 : decode gm_b_MD_gather 91 = .ok (.getfield 32, 3) := by decide +kernel
theorem gm_d_MD_gather_94 : decode gm_b_MD_gather 94 = .ok (.iload_n 2, 1) := by decide +kernel
theorem gm_d_MD_gather_95 : decode gm_b_MD_gather 95 = .ok (.iaload, 1) := by decide +kernel
theorem gm_d_MD_gather_96 : decode gm_b_MD_gather 96 = .ok (.tableswitch 255 3 10 #[48, 63, 96, 128, 150, 255, 255, 191], 48) := by decide +kernel
theorem gm_d_MD_gather_144 : decode gm_b_MD_gather 144 = .ok (.aload_n 0, 1) := by decide +kernel
theorem gm_d_MD_gather_145 : decode gm_b_MD_gather 145 = .ok (.aload_n 0, 1) := by decide +kernel
theorem gm_d_MD_gather_146 : decode gm_b_MD_gather 146 = .ok (.iload_n 2, 1) := by decide +kernel
theorem gm_d_MD_gather_147 : decode gm_b_MD_gather 147 = .ok (.invokevirtual 182, 3) := by decide +kernel
theorem gm_d_MD_gather_150 : decode gm_b_MD_gather 150 = .ok (.iload_n 3, 1) := by decide +kernel
theorem gm_d_MD_gather_151 : decode gm_b_MD_gather 151 = .ok (.iload 4, 2) := by decide +kernel
theorem gm_d_MD_gather_153 : decode gm_b_MD_gather 153 = .ok (.invokevirtual 281, 3) := by decide +kernel
theorem gm_d_MD_gather_156 : decode gm_b_MD_gather 156 = .ok (.goto 195, 3) := by decide +kernel
theorem gm_d_MD_gather_159 : decode gm_b_MD_gather 159 = .ok (.aload_n 0, 1) := by decide +kernel
theorem gm_d_MD_gather_160 : decode gm_b_MD_gather 160 = .ok (.aload_n 0, 1) := by decide +kernel
theorem gm_d_MD_gather_161 : decode gm_b_MD_gather 161 = .ok (.getfield 38, 3) := by decide +kernel
theorem gm_d_MD_gather_164 : decode gm_b_MD_gather 164 = .ok (.iload_n 2, 1) := by decide +kernel
theorem gm_d_MD_gather_165 : decode gm_b_MD_gather 165 = .ok (.iaload, 1) := by decide +kernel
theorem gm_d_MD_gather_166 : decode gm_b_MD_gather 166 = .ok (.iload_n 3, 1) := by decide +kernel
theorem gm_d_MD_gather_167 : decode gm_b_MD_gather 167 = .ok (.aload_n 0, 1) := by decide +kernel
theorem gm_d_MD_gather_168 : decode gm_b_MD_gather 168 = .ok (.iload 5, 2) := by decide +kernel
theorem gm_d_MD_gather_170 : decode gm_b_MD_gather 170 = .ok (.iload_n 3, 1) := by decide +kernel
theorem gm_d_MD_gather_171 : decode gm_b_MD_gather 171 = .ok (.invokevirtual 257, 3) := by decide +kernel
theorem gm_d_MD_gather_174 : decode gm_b_MD_gather 174 = .ok (.iadd, 1) := by decide +kernel
theorem gm_d_MD_gather_175 : decode gm_b_MD_gather 175 = .ok (.iload 4, 2) := by decide +kernel
theorem gm_d_MD_gather_177 : decode gm_b_MD_gather 177 = .ok (.invokevirtual 281, 3) := by decide +kernel
theorem gm_d_MD_gather_180 : decode gm_b_MD_gather 180 = .ok (.aload_n 0, 1) := by decide +kernel
theorem gm_d_MD_gather_181 : decode gm_b_MD_gather 181 = .ok (.iload 5, 2) := by decide +kernel
theorem gm_d_MD_gather_183 : decode gm_b_MD_gather 183 = .ok (.iload_n 3, 1) := by decide +kernel
theorem gm_d_MD_gather_184 : decode gm_b_MD_gather 184 = .ok (.iload 4, 2) := by decide +kernel
theorem gm_d_MD_gather_186 : decode gm_b_MD_gather 186 = .ok (.invokevirtual 281, 3) := by decide +kernel
theorem gm_d_MD_gather_189 : decode gm_b_MD_gather 189 = .ok (.goto 162, 3) := by decide +kernel
theorem gm_d_MD_gather_192 : decode gm_b_MD_gather 192 = .ok (.aload_n 0, 1) := by decide +kernel
theorem gm_d_MD_gather_193 : decode gm_b_MD_gather 193 = .ok (.aload_n 0, 1) := by decide +kernel
theorem gm_d_MD_gather_194 : decode gm_b_MD_gather 194 = .ok (.iload 5, 2) := by decide +kernel
theorem gm_d_MD_gather_196 : decode gm_b_MD_gather 196 = .ok (.iload_n 3, 1) := by decide +kernel
theorem gm_d_MD_gather_197 : decode gm_b_MD_gather 197 = .ok (.invokevirtual 257, 3) := by decide +kernel
theorem gm_d_MD_gather_200 : decode gm_b_MD_gather 200 = .ok (.iconst (-1), 1) := by decide +kernel
theorem gm_d_MD_gather_201 : decode gm_b_MD_gather 201 = .ok (.if_icmp .ne 12, 3) := by decide +kernel
theorem gm_d_MD_gather_204 : decode gm_b_MD_gather 204 = .ok (.aload_n 0, 1) := by decide +kernel
theorem gm_d_MD_gather_205 : decode gm_b_MD_gather 205 = .ok (.getfield 38, 3) := by decide +kernel
theorem gm_d_MD_gather_208 : decode gm_b_MD_gather 208 = .ok (.iload_n 2, 1) := by decide +kernel
theorem gm_d_MD_gather_209 : decode gm_b_MD_gather 209 = .ok (.iaload, 1) := by decide +kernel
theorem gm_d_MD_gather_210 : decode gm_b_MD_gather 210 = .ok (.goto 5, 3) := by decide +kernel
theorem gm_d_MD_gather_213 : decode gm_b_MD_gather 213 = .ok (.iload 5, 2) := by decide +kernel
theorem gm_d_MD_gather_215 : decode gm_b_MD_gather 215 = .ok (.iload_n 3, 1) := by decide +kernel
theorem gm_d_MD_gather_216 : decode gm_b_MD_gather 216 = .ok (.iload 4, 2) := by decide +kernel
theorem gm_d_MD_gather_218 : decode gm_b_MD_gather 218 = .ok (.invokevirtual 281, 3) := by decide +kernel
theorem gm_d_MD_gather_221 : decode gm_b_MD_gather 221 = .ok (.goto 130, 3) := by decide +kernel
theorem gm_d_MD_gather_224 : decode gm_b_MD_gather 224 = .ok (.aload_n 0, 1) := by decide +kernel
theorem gm_d_MD_gather_225 : decode gm_b_MD_gather 225 = .ok (.iload 5, 2) := by decide +kernel
theorem gm_d_MD_gather_227 : decode gm_b_MD_gather 227 = .ok (.iload_n 3, 1) := by decide +kernel
theorem gm_d_MD_gather_228 : decode gm_b_MD_gather 228 = .ok (.invokevirtual 257, 3) := by decide +kernel
theorem gm_d_MD_gather_231 : decode gm_b_MD_gather 231 = .ok (.ifCond .lt 120, 3) := by decide +kernel
theorem gm_d_MD_gather_234 : decode gm_b_MD_gather 234 = .ok (.aload_n 0, 1) := by decide +kernel
theorem gm_d_MD_gather_235 : decode gm_b_MD_gather 235 = .ok (.iload 5, 2) := by decide +kernel
theorem gm_d_MD_gather_237 : decode gm_b_MD_gather 237 = .ok (.iload_n 3, 1) := by decide +kernel
theorem gm_d_MD_gather_238 : decode gm_b_MD_gather 238 = .ok (.iload 4, 2) := by decide +kernel
theorem gm_d_MD_gather_240 : decode gm_b_MD_gather 240 = .ok (.invokevirtual 281, 3) := by decide +kernel
theorem gm_d_MD_gather_243 : decode gm_b_MD_gather 243 = .ok (.goto 108, 3) := by decide +kernel
theorem gm_d_MD_gather_246 : decode gm_b_MD_gather 246 = .ok (.aload_n 0, 1) := by decide +kernel
theorem gm_d_MD_gather_247 : decode gm_b_MD_gather 247 = .ok (.iload 5, 2) := by decide +kernel
theorem gm_d_MD_gather_249 : decode gm_b_MD_gather 249 = .ok (.iload_n 3, 1) := by decide +kernel
theorem gm_d_MD_gather_250 : decode gm_b_MD_gather 250 = .ok (.invokevirtual 257, 3) := by decide +kernel
theorem gm_d_MD_gather_253 : decode gm_b_MD_gather 253 = .ok (.ifCond .gt 6, 3) := by decide +kernel
theorem gm_d_MD_gather_256 : decode gm_b_MD_gather 256 = .ok (.goto 95, 3) := by decide +kernel
theorem gm_d_MD_gather_259 : decode gm_b_MD_gather 259 = .ok (.aload_n 0, 1) := by decide +kernel
theorem gm_d_MD_gather_260 : decode gm_b_MD_gather 260 = .ok (.iload_n 2, 1) := by decide +kernel
theorem gm_d_MD_gather_261 : decode gm_b_MD_gather 261 = .ok (.iload_n 3, 1) := by decide +kernel
theorem gm_d_MD_gather_262 : decode gm_b_MD_gather 262 = .ok (.aload_n 0, 1) := by decide +kernel
theorem gm_d_MD_gather_263 : decode gm_b_MD_gather 263 = .ok (.iload 5, 2) := by decide +kernel
theorem gm_d_MD_gather_265 : decode gm_b_MD_gather 265 = .ok (.iload_n 3, 1) := by decide +kernel
theorem gm_d_MD_gather_266 : decode gm_b_MD_gather 266 = .ok (.invokevirtual 257, 3) := by decide +kernel
theorem gm_d_MD_gather_269 : decode gm_b_MD_gather 269 = .ok (.iadd, 1) := by decide +kernel
theorem gm_d_MD_gather_270 : decode gm_b_MD_gather 270 = .ok (.iload 4, 2) := by decide +kernel
theorem gm_d_MD_gather_272 : decode gm_b_MD_gather 272 = .ok (.invokevirtual 281, 3) := by decide +kernel
theorem gm_d_MD_gather_275 : decode gm_b_MD_gather 275 = .ok (.aload_n 0, 1) := by decide +kernel
theorem gm_d_MD_gather_276 : decode gm_b_MD_gather 276 = .ok (.iload 5, 2) := by decide +kernel
theorem gm_d_MD_gather_278 : decode gm_b_MD_gather 278 = .ok (.iload_n 3, 1) := by decide +kernel
theorem gm_d_MD_gather_279 : decode gm_b_MD_gather 279 = .ok (.iload 4, 2) := by decide +kernel
theorem gm_d_MD_gather_281 : decode gm_b_MD_gather 281 = .ok (.invokevirtual 281, 3) := by decide +kernel
theorem gm_d_MD_gather_284 : decode gm_b_MD_gather 284 = .ok (.goto 67, 3) := by decide +kernel
theorem gm_d_MD_gather_287 : decode gm_b_MD_gather 287 = .ok (.aload_n 0, 1) := by decide +kernel
theorem gm_d_MD_gather_288 : decode gm_b_MD_gather 288 = .ok (.getfield 94, 3) := by decide +kernel
theorem gm_d_MD_gather_291 : decode gm_b_MD_gather 291 = .ok (.aload_n 0, 1) := by decide +kernel
theorem gm_d_MD_gather_292 : decode gm_b_MD_gather 292 = .ok (.getfield 278, 3) := by decide +kernel
theorem gm_d_MD_gather_295 : decode gm_b_MD_gather 295 = .ok (.iload_n 3, 1) := by decide +kernel
theorem gm_d_MD_gather_296 : decode gm_b_MD_gather 296 = .ok (.iastore, 1) := by decide +kernel
theorem gm_d_MD_gather_297 : decode gm_b_MD_gather 297 = .ok (.aload_n 0, 1) := by decide +kernel
theorem gm_d_MD_gather_298 : decode gm_b_MD_gather 298 = .ok (.getfield 97, 3) := by decide +kernel
theorem gm_d_MD_gather_301 : decode gm_b_MD_gather 301 = .ok (.aload_n 0, 1) := by decide +kernel
theorem gm_d_MD_gather_302 : decode gm_b_MD_gather 302 = .ok (.getfield 278, 3) := by decide +kernel
theorem gm_d_MD_gather_305 : decode gm_b_MD_gather 305 = .ok (.iload_n 3, 1) := by decide +kernel
theorem gm_d_MD_gather_306 : decode gm_b_MD_gather 306 = .ok (.aload_n 0, 1) := by decide +kernel
theorem gm_d_MD_gather_307 : decode gm_b_MD_gather 307 = .ok (.iload_n 2, 1) := by decide +kernel
theorem gm_d_MD_gather_308 : decode gm_b_MD_gather 308 = .ok (.iload_n 3, 1) := by decide +kernel
theorem gm_d_MD_gather_309 : decode gm_b_MD_gather 309 = .ok (.invokevirtual 257, 3) := by decide +kernel
theorem gm_d_MD_gather_312 : decode gm_b_MD_gather 312 = .ok (.iadd, 1) := by decide +kernel
theorem gm_d_MD_gather_313 : decode gm_b_MD_gather 313 = .ok (.iastore, 1) := by decide +kernel
theorem gm_d_MD_gather_314 : decode gm_b_MD_gather 314 = .ok (.aload_n 0, 1) := by decide +kernel
theorem gm_d_MD_gather_315 : decode gm_b_MD_gather 315 = .ok (.getfield 100, 3) := by decide +kernel
theorem gm_d_MD_gather_318 : decode gm_b_MD_gather 318 = .ok (.aload_n 0, 1) := by decide +kernel
theorem gm_d_MD_gather_319 : decode gm_b_MD_gather 319 = .ok (.getfield 278, 3) := by decide +kernel
theorem gm_d_MD_gather_322 : decode gm_b_MD_gather 322 = .ok (.iload 4, 2) := by decide +kernel
theorem gm_d_MD_gather_324 : decode gm_b_MD_gather 324 = .ok (.iastore, 1) := by decide +kernel
theorem gm_d_MD_gather_325 : decode gm_b_MD_gather 325 = .ok (.aload_n 0, 1) := by decide +kernel
theorem gm_d_MD_gather_326 : decode gm_b_MD_gather 326 = .ok (.dup, 1) := by decide +kernel
theorem gm_d_MD_gather_327 : decode gm_b_MD_gather 327 = .ok (.getfield 278, 3) := by decide +kernel
theorem gm_d_MD_gather_330 : decode gm_b_MD_gather 330 = .ok (.iconst 1, 1) := by decide +kernel
theorem gm_d_MD_gather_331 : decode gm_b_MD_gather 331 = .ok (.iadd, 1) := by decide +kernel
theorem gm_d_MD_gather_332 : decode gm_b_MD_gather 332 = .ok (.putfield 278, 3) := by decide +kernel
theorem gm_d_MD_gather_335 : decode gm_b_MD_gather 335 = .ok (.aload_n 0, 1) := by decide +kernel
theorem gm_d_MD_gather_336 : decode gm_b_MD_gather 336 = .ok (.iload 5, 2) := by decide +kernel
theorem gm_d_MD_gather_338 : decode gm_b_MD_gather 338 = .ok (.iload_n 3, 1) := by decide +kernel
theorem gm_d_MD_gather_339 : decode gm_b_MD_gather 339 = .ok (.aload_n 0, 1) := by decide +kernel
theorem gm_d_MD_gather_340 : decode gm_b_MD_gather 340 = .ok (.getfield 278, 3) := by decide +kernel
theorem gm_d_MD_gather_343 : decode gm_b_MD_gather 343 = .ok (.iconst 1, 1) := by decide +kernel
theorem gm_d_MD_gather_344 : decode gm_b_MD_gather 344 = .ok (.isub, 1) := by decide +kernel
theorem gm_d_MD_gather_345 : decode gm_b_MD_gather 345 = .ok (.invokevirtual 281, 3) := by decide +kernel
theorem gm_d_MD_gather_348 : decode gm_b_MD_gather 348 = .ok (.goto 3, 3) := by decide +kernel
theorem gm_d_MD_gather_351 : decode gm_b_MD_gather 351 = .ok (.goto (-334), 3) := by decide +kernel
theorem gm_d_MD_gather_354 : decode gm_b_MD_gather 354 = .ok (.return_, 1) := by decide +kernel
