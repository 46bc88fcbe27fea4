theorem gm_d_Tree_add_0 : decode gm_b_Tree_add 0 = .ok (.aload_n 0, 1) := by decide +kernel
theorem gm_d_Tree_add_1 : decode gm_b_Tree_add 1 = .ok (.getfield 47, 3) := by decide +kernel
theorem gm_d_Tree_add_4 : decode gm_b_Tree_add 4 = .ok (.bipush 75, 2) := by decide +kernel
theorem gm_d_Tree_add_6 : decode gm_b_Tree_add 6 = .ok (.if_icmp .lt 5, 3) := by decide +kernel
theorem gm_d_Tree_add_9 : decode gm_b_Tree_add 9 = .ok (.iconst (-1), 1) := by decide +kernel
theorem gm_d_Tree_add_10 : decode gm_b_Tree_add 10 = .ok (.ireturn, 1) := by decide +kernel
theorem gm_d_Tree_add_11 : decode gm_b_Tree_add 11 = .ok (.aload_n 0, 1) := by decide +kernel
theorem gm_d_Tree_add_12 : decode gm_b_Tree_add 12 = .ok (.getfield 9, 3) := by decide +kernel
theorem gm_d_Tree_add_15 : decode gm_b_Tree_add 15 = .ok (.aload_n 0, 1) := by decide +kernel
theorem gm_d_Tree_add_16 : decode gm_b_Tree_add 16 = .ok (.getfield 47, 3) := by decide +kernel
theorem gm_d_Tree_add_19 : decode gm_b_Tree_add 19 = .ok (.iload_n 1, 1) := by decide +kernel
theorem gm_d_Tree_add_20 : decode gm_b_Tree_add 20 = .ok (.iastore, 1) := by decide +kernel
theorem gm_d_Tree_add_21 : decode gm_b_Tree_add 21 = .ok (.aload_n 0, 1) := by decide +kernel
theorem gm_d_Tree_add_22 : decode gm_b_Tree_add 22 = .ok (.getfield 15, 3) := by decide +kernel
theorem gm_d_Tree_add_25 : decode gm_b_Tree_add 25 = .ok (.aload_n 0, 1) := by decide +kernel
theorem gm_d_Tree_add_26 : decode gm_b_Tree_add 26 = .ok (.getfield 47, 3) := by decide +kernel
theorem gm_d_Tree_add_29 : decode gm_b_Tree_add 29 = .ok (.iload_n 2, 1) := by decide +kernel
theorem gm_d_Tree_add_30 : decode gm_b_Tree_add 30 = .ok (.iastore, 1) := by decide +kernel
theorem gm_d_Tree_add_31 : decode gm_b_Tree_add 31 = .ok (.aload_n 0, 1) := by decide +kernel
theorem gm_d_Tree_add_32 : decode gm_b_Tree_add 32 = .ok (.getfield 18, 3) := by decide +kernel
theorem gm_d_Tree_add_35 : decode gm_b_Tree_add 35 = .ok (.aload_n 0, 1) := by decide +kernel
theorem gm_d_Tree_add_36 : decode gm_b_Tree_add 36 = .ok (.getfield 47, 3) := by decide +kernel
theorem gm_d_Tree_add_39 : decode gm_b_Tree_add 39 = .ok (.aload_n 0, 1) := by decide +kernel
theorem gm_d_Tree_add_40 : decode gm_b_Tree_add 40 = .ok (.getfield 51, 3) := by decide +kernel
theorem gm_d_Tree_add_43 : decode gm_b_Tree_add 43 = .ok (.iastore, 1) := by decide +kernel
theorem gm_d_Tree_add_44 : decode gm_b_Tree_add 44 = .ok (.aload_n 0, 1) := by decide +kernel
theorem gm_d_Tree_add_45 : decode gm_b_Tree_add 45 = .ok (.getfield 21, 3) := by decide +kernel
theorem gm_d_Tree_add_48 : decode gm_b_Tree_add 48 = .ok (.aload_n 0, 1) := by decide +kernel
theorem gm_d_Tree_add_49 : decode gm_b_Tree_add 49 = .ok (.getfield 47, 3) := by decide +kernel
theorem gm_d_Tree_add_52 : decode gm_b_Tree_add 52 = .ok (.aload_n 0, 1) := by decide +kernel
theorem gm_d_Tree_add_53 : decode gm_b_Tree_add 53 = .ok (.getfield 51, 3) := by decide +kernel
theorem gm_d_Tree_add_56 : decode gm_b_Tree_add 56 = .ok (.iastore, 1) := by decide +kernel
theorem gm_d_Tree_add_57 : decode gm_b_Tree_add 57 = .ok (.aload_n 0, 1) := by decide +kernel
theorem gm_d_Tree_add_58 : decode gm_b_Tree_add 58 = .ok (.getfield 27, 3) := by decide +kernel
theorem gm_d_Tree_add_61 : decode gm_b_Tree_add 61 = .ok (.aload_n 0, 1) := by decide +kernel
theorem gm_d_Tree_add_62 : decode gm_b_Tree_add 62 = .ok (.getfield 47, 3) := by decide +kernel
theorem gm_d_Tree_add_65 : decode gm_b_Tree_add 65 = .ok (.iconst 0, 1) := by decide +kernel
theorem gm_d_Tree_add_66 : decode gm_b_Tree_add 66 = .ok (.bastore, 1) := by decide +kernel
theorem gm_d_Tree_add_67 : decode gm_b_Tree_add 67 = .ok (.aload_n 0, 1) := by decide +kernel
theorem gm_d_Tree_add_68 : decode gm_b_Tree_add 68 = .ok (.getfield 31, 3) := by decide +kernel
theorem gm_d_Tree_add_71 : decode gm_b_Tree_add 71 = .ok (.aload_n 0, 1) := by decide +kernel
theorem gm_d_Tree_add_72 : decode gm_b_Tree_add 72 = .ok (.getfield 47, 3) := by decide +kernel
theorem gm_d_Tree_add_75 : decode gm_b_Tree_add 75 = .ok (.iconst 0, 1) := by decide +kernel
theorem gm_d_Tree_add_76 : decode gm_b_Tree_add 76 = .ok (.iastore, 1) := by decide +kernel
theorem gm_d_Tree_add_77 : decode gm_b_Tree_add 77 = .ok (.aload_n 0, 1) := by decide +kernel
theorem gm_d_Tree_add_78 : decode gm_b_Tree_add 78 = .ok (.getfield 34, 3) := by decide +kernel
theorem gm_d_Tree_add_81 : decode gm_b_Tree_add 81 = .ok (.aload_n 0, 1) := by decide +kernel
theorem gm_d_Tree_add_82 : decode gm_b_Tree_add 82 = .ok (.getfield 47, 3) := by decide +kernel
theorem gm_d_Tree_add_85 : decode gm_b_Tree_add 85 = .ok (.lconst 0, 1) := by decide +kernel
theorem gm_d_Tree_add_86 : decode gm_b_Tree_add 86 = .ok (.lastore, 1) := by decide +kernel
theorem gm_d_Tree_add_87 : decode gm_b_Tree_add 87 = .ok (.aload_n 0, 1) := by decide +kernel
theorem gm_d_Tree_add_88 : decode gm_b_Tree_add 88 = .ok (.getfield 38, 3) := by decide +kernel
theorem gm_d_Tree_add_91 : decode gm_b_Tree_add 91 = .ok (.aload_n 0, 1) := by decide +kernel
theorem gm_d_Tree_add_92 : decode gm_b_Tree_add 92 = .ok (.getfield 47, 3) := by decide +kernel
theorem gm_d_Tree_add_95 : decode gm_b_Tree_add 95 = .ok (.lconst 0, 1) := by decide +kernel
theorem gm_d_Tree_add_96 : decode gm_b_Tree_add 96 = .ok (.lastore, 1) := by decide +kernel
theorem gm_d_Tree_add_97 : decode gm_b_Tree_add 97 = .ok (.aload_n 0, 1) := by decide +kernel
theorem gm_d_Tree_add_98 : decode gm_b_Tree_add 98 = .ok (.dup, 1) := by decide +kernel
theorem gm_d_Tree_add_99 : decode gm_b_Tree_add 99 = .ok (.getfield 47, 3) := by decide +kernel
theorem gm_d_Tree_add_102 : decode gm_b_Tree_add 102 = .ok (.iconst 1, 1) := by decide +kernel
theorem gm_d_Tree_add_103 : decode gm_b_Tree_add 103 = .ok (.iadd, 1) := by decide +kernel
theorem gm_d_Tree_add_104 : decode gm_b_Tree_add 104 = .ok (.putfield 47, 3) := by decide +kernel
theorem gm_d_Tree_add_107 : decode gm_b_Tree_add 107 = .ok (.aload_n 0, 1) := by decide +kernel
theorem gm_d_Tree_add_108 : decode gm_b_Tree_add 108 = .ok (.getfield 47, 3) := by decide +kernel
theorem gm_d_Tree_add_111 : decode gm_b_Tree_add 111 = .ok (.iconst 1, 1) := by decide +kernel
theorem gm_d_Tree_add_112 : decode gm_b_Tree_add 112 = .ok (.isub, 1) := by decide +kernel
theorem gm_d_Tree_add_113 : decode gm_b_Tree_add 113 = .ok (.ireturn, 1) := by decide +kernel
theorem gm_d_Tree_givePart_0 : decode gm_b_Tree_givePart 0 = .ok (.iload_n 1, 1) := by decide +kernel
theorem gm_d_Tree_givePart_1 : decode gm_b_Tree_givePart 1 = .ok (.ifCond .lt 59, 3) := by decide +kernel
theorem gm_d_Tree_givePart_4 : decode gm_b_Tree_givePart 4 = .ok (.iload_n 1, 1) := by decide +kernel
theorem gm_d_Tree_givePart_5 : decode gm_b_Tree_givePart 5 = .ok (.aload_n 0, 1) := by decide +kernel
theorem gm_d_Tree_givePart_6 : decode gm_b_Tree_givePart 6 = .ok (.getfield 47, 3) := by decide +kernel
theorem gm_d_Tree_givePart_9 : decode gm_b_Tree_givePart 9 = .ok (.if_icmp .ge 51, 3) := by decide +kernel
theorem gm_d_Tree_givePart_12 : decode gm_b_Tree_givePart 12 = .ok (.iload_n 2, 1) := by decide +kernel
theorem gm_d_Tree_givePart_13 : decode gm_b_Tree_givePart 13 = .ok (.ifCond .lt 47, 3) := by decide +kernel
theorem gm_d_Tree_givePart_16 : decode gm_b_Tree_givePart 16 = .ok (.iload_n 2, 1) := by decide +kernel
theorem gm_d_Tree_givePart_17 : decode gm_b_Tree_givePart 17 = .ok (.iload_n 1, 1) := by decide +kernel
theorem gm_d_Tree_givePart_18 : decode gm_b_Tree_givePart 18 = .ok (.if_icmp .ge 42, 3) := by decide +kernel
theorem gm_d_Tree_givePart_21 : decode gm_b_Tree_givePart 21 = .ok (.aload_n 0, 1) := by decide +kernel
theorem gm_d_Tree_givePart_22 : decode gm_b_Tree_givePart 22 = .ok (.getfield 51, 3) := by decide +kernel
theorem gm_d_Tree_givePart_25 : decode gm_b_Tree_givePart 25 = .ok (.bipush 75, 2) := by decide +kernel
theorem gm_d_Tree_givePart_27 : decode gm_b_Tree_givePart 27 = .ok (.if_icmp .ge 33, 3) := by decide +kernel
theorem gm_d_Tree_givePart_30 : decode gm_b_Tree_givePart 30 = .ok (.aload_n 0, 1) := by decide +kernel
theorem gm_d_Tree_givePart_31 : decode gm_b_Tree_givePart 31 = .ok (.getfield 24, 3) := by decide +kernel
theorem gm_d_Tree_givePart_34 : decode gm_b_Tree_givePart 34 = .ok (.aload_n 0, 1) := by decide +kernel
theorem gm_d_Tree_givePart_35 : decode gm_b_Tree_givePart 35 = .ok (.getfield 51, 3) := by decide +kernel
theorem gm_d_Tree_givePart_38 : decode gm_b_Tree_givePart 38 = .ok (.iload_n 2, 1) := by decide +kernel
theorem gm_d_Tree_givePart_39 : decode gm_b_Tree_givePart 39 = .ok (.iastore, 1) := by decide +kernel
theorem gm_d_Tree_givePart_40 : decode gm_b_Tree_givePart 40 = .ok (.aload_n 0, 1) := by decide +kernel
theorem gm_d_Tree_givePart_41 : decode gm_b_Tree_givePart 41 = .ok (.dup, 1) := by decide +kernel
theorem gm_d_Tree_givePart_42 : decode gm_b_Tree_givePart 42 = .ok (.getfield 51, 3) := by decide +kernel
theorem gm_d_Tree_givePart_45 : decode gm_b_Tree_givePart 45 = .ok (.iconst 1, 1) := by decide +kernel
theorem gm_d_Tree_givePart_46 : decode gm_b_Tree_givePart 46 = .ok (.iadd, 1) := by decide +kernel
theorem gm_d_Tree_givePart_47 : decode gm_b_Tree_givePart 47 = .ok (.putfield 51, 3) := by decide +kernel
theorem gm_d_Tree_givePart_50 : decode gm_b_Tree_givePart 50 = .ok (.aload_n 0, 1) := by decide +kernel
theorem gm_d_Tree_givePart_51 : decode gm_b_Tree_givePart 51 = .ok (.getfield 21, 3) := by decide +kernel
theorem gm_d_Tree_givePart_54 : decode gm_b_Tree_givePart 54 = .ok (.iload_n 1, 1) := by decide +kernel
theorem gm_d_Tree_givePart_55 : decode gm_b_Tree_givePart 55 = .ok (.aload_n 0, 1) := by decide +kernel
theorem gm_d_Tree_givePart_56 : decode gm_b_Tree_givePart 56 = .ok (.getfield 51, 3) := by decide +kernel
theorem gm_d_Tree_givePart_59 : decode gm_b_Tree_givePart 59 = .ok (.iastore, 1) := by decide +kernel
theorem gm_d_Tree_givePart_60 : decode gm_b_Tree_givePart 60 = .ok (.return_, 1) := by decide +kernel
theorem gm_d_Tree_addRule_0 : decode gm_b_Tree_addRule 0 = .ok (.aload_n 0, 1) := by decide +kernel
theorem gm_d_Tree_addRule_1 : decode gm_b_Tree_addRule 1 = .ok (.getfield 54, 3) := by decide +kernel
theorem gm_d_Tree_addRule_4 : decode gm_b_Tree_addRule 4 = .ok (.bipush 8, 2) := by decide +kernel
theorem gm_d_Tree_addRule_6 : decode gm_b_Tree_addRule 6 = .ok (.if_icmp .ge 45, 3) := by decide +kernel
theorem gm_d_Tree_addRule_9 : decode gm_b_Tree_addRule 9 = .ok (.iload_n 2, 1) := by decide +kernel
theorem gm_d_Tree_addRule_10 : decode gm_b_Tree_addRule 10 = .ok (.ifCond .lt 41, 3) := by decide +kernel
theorem gm_d_Tree_addRule_13 : decode gm_b_Tree_addRule 13 = .ok (.iload_n 2, 1) := by decide +kernel
theorem gm_d_Tree_addRule_14 : decode gm_b_Tree_addRule 14 = .ok (.aload_n 0, 1) := by decide +kernel
theorem gm_d_Tree_addRule_15 : decode gm_b_Tree_addRule 15 = .ok (.getfield 47, 3) := by decide +kernel
theorem gm_d_Tree_addRule_18 : decode gm_b_Tree_addRule 18 = .ok (.if_icmp .ge 33, 3) := by decide +kernel
theorem gm_d_Tree_addRule_21 : decode gm_b_Tree_addRule 21 = .ok (.aload_n 0, 1) := by decide +kernel
theorem gm_d_Tree_addRule_22 : decode gm_b_Tree_addRule 22 = .ok (.getfield 41, 3) := by decide +kernel
theorem gm_d_Tree_addRule_25 : decode gm_b_Tree_addRule 25 = .ok (.aload_n 0, 1) := by decide +kernel
theorem gm_d_Tree_addRule_26 : decode gm_b_Tree_addRule 26 = .ok (.getfield 54, 3) := by decide +kernel
theorem gm_d_Tree_addRule_29 : decode gm_b_Tree_addRule 29 = .ok (.iload_n 1, 1) := by decide +kernel
theorem gm_d_Tree_addRule_30 : decode gm_b_Tree_addRule 30 = .ok (.iastore, 1) := by decide +kernel
theorem gm_d_Tree_addRule_31 : decode gm_b_Tree_addRule 31 = .ok (.aload_n 0, 1) := by decide +kernel
theorem gm_d_Tree_addRule_32 : decode gm_b_Tree_addRule 32 = .ok (.getfield 44, 3) := by decide +kernel
theorem gm_d_Tree_addRule_35 : decode gm_b_Tree_addRule 35 = .ok (.aload_n 0, 1) := by decide +kernel
theorem gm_d_Tree_addRule_36 : decode gm_b_Tree_addRule 36 = .ok (.getfield 54, 3) := by decide +kernel
theorem gm_d_Tree_addRule_39 : decode gm_b_Tree_addRule 39 = .ok (.iload_n 2, 1) := by decide +kernel
theorem gm_d_Tree_addRule_40 : decode gm_b_Tree_addRule 40 = .ok (.iastore, 1) := by decide +kernel
theorem gm_d_Tree_addRule_41 : decode gm_b_Tree_addRule 41 = .ok (.aload_n 0, 1) := by decide +kernel
theorem gm_d_Tree_addRule_42 : decode gm_b_Tree_addRule 42 = .ok (.dup, 1) := by decide +kernel
theorem gm_d_Tree_addRule_43 : decode gm_b_Tree_addRule 43 = .ok (.getfield 54, 3) := by decide +kernel
theorem gm_d_Tree_addRule_46 : decode gm_b_Tree_addRule 46 = .ok (.iconst 1, 1) := by decide +kernel
theorem gm_d_Tree_addRule_47 : decode gm_b_Tree_addRule 47 = .ok (.iadd, 1) := by decide +kernel
theorem gm_d_Tree_addRule_48 : decode gm_b_Tree_addRule 48 = .ok (.putfield 54, 3) := by decide +kernel
theorem gm_d_Tree_addRule_51 : decode gm_b_Tree_addRule 51 = .ok (.return_, 1) := by decide +kernel
theorem gm_d_Tree_ruleOf_0 : decode gm_b_Tree_ruleOf 0 = .ok (.iconst 0, 1) := by decide +kernel
theorem gm_d_Tree_ruleOf_1 : decode gm_b_Tree_ruleOf 1 = .ok (.istore_n 2, 1) := by decide +kernel
theorem gm_d_Tree_ruleOf_2 : decode gm_b_Tree_ruleOf 2 = .ok (.iload_n 2, 1) := by decide +kernel
theorem gm_d_Tree_ruleOf_3 : decode gm_b_Tree_ruleOf 3 = .ok (.aload_n 0, 1) := by decide +kernel
theorem gm_d_Tree_ruleOf_4 : decode gm_b_Tree_ruleOf 4 = .ok (.getfield 54, 3) := by decide +kernel
theorem gm_d_Tree_ruleOf_7 : decode gm_b_Tree_ruleOf 7 = .ok (.if_icmp .ge 21, 3) := by decide +kernel
theorem gm_d_Tree_ruleOf_10 : decode gm_b_Tree_ruleOf 10 = .ok (.aload_n 0, 1) := by decide +kernel
theorem gm_d_Tree_ruleOf_11 : decode gm_b_Tree_ruleOf 11 = .ok (.getfield 41, 3) := by decide +kernel
theorem gm_d_Tree_ruleOf_14 : decode gm_b_Tree_ruleOf 14 = .ok (.iload_n 2, 1) := by decide +kernel
theorem gm_d_Tree_ruleOf_15 : decode gm_b_Tree_ruleOf 15 = .ok (.iaload, 1) := by decide +kernel
theorem gm_d_Tree_ruleOf_16 : decode gm_b_Tree_ruleOf 16 = .ok (.iload_n 1, 1) := by decide +kernel
theorem gm_d_Tree_ruleOf_17 : decode gm_b_Tree_ruleOf 17 = .ok (.if_icmp .ne 5, 3) := by decide +kernel
theorem gm_d_Tree_ruleOf_20 : decode gm_b_Tree_ruleOf 20 = .ok (.iload_n 2, 1) := by decide +kernel
theorem gm_d_Tree_ruleOf_21 : decode gm_b_Tree_ruleOf 21 = .ok (.ireturn, 1) := by decide +kernel
theorem gm_d_Tree_ruleOf_22 : decode gm_b_Tree_ruleOf 22 = .ok (.iinc 2 1, 3) := by decide +kernel
theorem gm_d_Tree_ruleOf_25 : decode gm_b_Tree_ruleOf 25 = .ok (.goto (-23), 3) := by decide +kernel
theorem gm_d_Tree_ruleOf_28 : decode gm_b_Tree_ruleOf 28 = .ok (.iconst (-1), 1) := by decide +kernel
theorem gm_d_Tree_ruleOf_29 : decode gm_b_Tree_ruleOf 29 = .ok (.ireturn, 1) := by decide +kernel
theorem gm_d_Tree_rootOf_0 : decode gm_b_Tree_rootOf 0 = .ok (.aload_n 0, 1) := by decide +kernel
theorem gm_d_Tree_rootOf_1 : decode gm_b_Tree_rootOf 1 = .ok (.iload_n 1, 1) := by decide +kernel
theorem gm_d_Tree_rootOf_2 : decode gm_b_Tree_rootOf 2 = .ok (.invokevirtual 57, 3) := by decide +kernel
theorem gm_d_Tree_rootOf_5 : decode gm_b_Tree_rootOf 5 = .ok (.istore_n 2, 1) := by decide +kernel
theorem gm_d_Tree_rootOf_6 : decode gm_b_Tree_rootOf 6 = .ok (.iload_n 2, 1) := by decide +kernel
theorem gm_d_Tree_rootOf_7 : decode gm_b_Tree_rootOf 7 = .ok (.iconst (-1), 1) := by decide +kernel
theorem gm_d_Tree_rootOf_8 : decode gm_b_Tree_rootOf 8 = .ok (.if_icmp .ne 7, 3) := by decide +kernel
theorem gm_d_Tree_rootOf_11 : decode gm_b_Tree_rootOf 11 = .ok (.iconst (-1), 1) := by decide +kernel
theorem gm_d_Tree_rootOf_12 : decode gm_b_Tree_rootOf 12 = .ok (.goto 9, 3) := by decide +kernel
theorem gm_d_Tree_rootOf_15 : decode gm_b_Tree_rootOf 15 = .ok (.aload_n 0, 1) := by decide +kernel
theorem gm_d_Tree_rootOf_16 : decode gm_b_Tree_rootOf 16 = .ok (.getfield 44, 3) := by decide +kernel
theorem gm_d_Tree_rootOf_19 : decode gm_b_Tree_rootOf 19 = .ok (.iload_n 2, 1) := by decide +kernel
theorem gm_d_Tree_rootOf_20 : decode gm_b_Tree_rootOf 20 = .ok (.iaload, 1) := by decide +kernel
theorem gm_d_Tree_rootOf_21 : decode gm_b_Tree_rootOf 21 = .ok (.ireturn, 1) := by decide +kernel
theorem gm_d_Tree_firstNodeOf_0 : decode gm_b_Tree_firstNodeOf 0 = .ok (.iload_n 1, 1) := by decide +kernel
theorem gm_d_Tree_firstNodeOf_1 : decode gm_b_Tree_firstNodeOf 1 = .ok (.ifCond .le 11, 3) := by decide +kernel
theorem gm_d_Tree_firstNodeOf_4 : decode gm_b_Tree_firstNodeOf 4 = .ok (.iload_n 1, 1) := by decide +kernel
theorem gm_d_Tree_firstNodeOf_5 : decode gm_b_Tree_firstNodeOf 5 = .ok (.aload_n 0, 1) := by decide +kernel
theorem gm_d_Tree_firstNodeOf_6 : decode gm_b_Tree_firstNodeOf 6 = .ok (.getfield 54, 3) := by decide +kernel
theorem gm_d_Tree_firstNodeOf_9 : decode gm_b_Tree_firstNodeOf 9 = .ok (.if_icmp .lt 7, 3) := by decide +kernel
theorem gm_d_Tree_firstNodeOf_12 : decode gm_b_Tree_firstNodeOf 12 = .ok (.iconst 0, 1) := by decide +kernel
theorem gm_d_Tree_firstNodeOf_13 : decode gm_b_Tree_firstNodeOf 13 = .ok (.goto 13, 3) := by decide +kernel
theorem gm_d_Tree_firstNodeOf_16 : decode gm_b_Tree_firstNodeOf 16 = .ok (.aload_n 0, 1) := by decide +kernel
theorem gm_d_Tree_firstNodeOf_17 : decode gm_b_Tree_firstNodeOf 17 = .ok (.getfield 44, 3) := by decide +kernel
theorem gm_d_Tree_firstNodeOf_20 : decode gm_b_Tree_firstNodeOf 20 = .ok (.iload_n 1, 1) := by decide +kernel
theorem gm_d_Tree_firstNodeOf_21 : decode gm_b_Tree_firstNodeOf 21 = .ok (.iconst 1, 1) := by decide +kernel
theorem gm_d_Tree_firstNodeOf_22 : decode gm_b_Tree_firstNodeOf 22 = .ok (.isub, 1) := by decide +kernel
theorem gm_d_Tree_firstNodeOf_23 : decode gm_b_Tree_firstNodeOf 23 = .ok (.iaload, 1) := by decide +kernel
theorem gm_d_Tree_firstNodeOf_24 : decode gm_b_Tree_firstNodeOf 24 = .ok (.iconst 1, 1) := by decide +kernel
theorem gm_d_Tree_firstNodeOf_25 : decode gm_b_Tree_firstNodeOf 25 = .ok (.iadd, 1) := by decide +kernel
theorem gm_d_Tree_firstNodeOf_26 : decode gm_b_Tree_firstNodeOf 26 = .ok (.ireturn, 1) := by decide +kernel
theorem gm_d_Tree_partOf_0 : decode gm_b_Tree_partOf 0 = .ok (.aload_n 0, 1) := by decide +kernel
theorem gm_d_Tree_partOf_1 : decode gm_b_Tree_partOf 1 = .ok (.getfield 18, 3) := by decide +kernel
theorem gm_d_Tree_partOf_4 : decode gm_b_Tree_partOf 4 = .ok (.iload_n 1, 1) := by decide +kernel
theorem gm_d_Tree_partOf_5 : decode gm_b_Tree_partOf 5 = .ok (.iaload, 1) := by decide +kernel
theorem gm_d_Tree_partOf_6 : decode gm_b_Tree_partOf 6 = .ok (.aload_n 0, 1) := by decide +kernel
theorem gm_d_Tree_partOf_7 : decode gm_b_Tree_partOf 7 = .ok (.getfield 21, 3) := by decide +kernel
theorem gm_d_Tree_partOf_10 : decode gm_b_Tree_partOf 10 = .ok (.iload_n 1, 1) := by decide +kernel
theorem gm_d_Tree_partOf_11 : decode gm_b_Tree_partOf 11 = .ok (.iaload, 1) := by decide +kernel
theorem gm_d_Tree_partOf_12 : decode gm_b_Tree_partOf 12 = .ok (.if_icmp .ge 17, 3) := by decide +kernel
theorem gm_d_Tree_partOf_15 : decode gm_b_Tree_partOf 15 = .ok (.aload_n 0, 1) := by decide +kernel
theorem gm_d_Tree_partOf_16 : decode gm_b_Tree_partOf 16 = .ok (.getfield 24, 3) := by decide +kernel
theorem gm_d_Tree_partOf_19 : decode gm_b_Tree_partOf 19 = .ok (.aload_n 0, 1) := by decide +kernel
theorem gm_d_Tree_partOf_20 : decode gm_b_Tree_partOf 20 = .ok (.getfield 18, 3) := by decide +kernel
theorem gm_d_Tree_partOf_23 : decode gm_b_Tree_partOf 23 = .ok (.iload_n 1, 1) := by decide +kernel
theorem gm_d_Tree_partOf_24 : decode gm_b_Tree_partOf 24 = .ok (.iaload, 1) := by decide +kernel
theorem gm_d_Tree_partOf_25 : decode gm_b_Tree_partOf 25 = .ok (.iaload, 1) := by decide +kernel
theorem gm_d_Tree_partOf_26 : decode gm_b_Tree_partOf 26 = .ok (.goto 4, 3) := by decide +kernel
theorem gm_d_Tree_partOf_29 : decode gm_b_Tree_partOf 29 = .ok (.iconst 0, 1) := by decide +kernel
theorem gm_d_Tree_partOf_30 : decode gm_b_Tree_partOf 30 = .ok (.ireturn, 1) := by decide +kernel
theorem gm_d_Tree_include_0 : decode gm_b_Tree_include 0 = .ok (.iload_n 1, 1) := by decide +kernel
theorem gm_d_Tree_include_1 : decode gm_b_Tree_include 1 = .ok (.ifCond .lt 11, 3) := by decide +kernel
theorem gm_d_Tree_include_4 : decode gm_b_Tree_include 4 = .ok (.iload_n 1, 1) := by decide +kernel
theorem gm_d_Tree_include_5 : decode gm_b_Tree_include 5 = .ok (.aload_n 0, 1) := by decide +kernel
theorem gm_d_Tree_include_6 : decode gm_b_Tree_include 6 = .ok (.getfield 47, 3) := by decide +kernel
theorem gm_d_Tree_include_9 : decode gm_b_Tree_include 9 = .ok (.if_icmp .lt 4, 3) := by decide +kernel
theorem gm_d_Tree_include_12 : decode gm_b_Tree_include 12 = .ok (.return_, 1) := by decide +kernel
theorem gm_d_Tree_include_13 : decode gm_b_Tree_include 13 = .ok (.iload_n 2, 1) := by decide +kernel
theorem gm_d_Tree_include_14 : decode gm_b_Tree_include 14 = .ok (.bipush 32, 2) := by decide +kernel
theorem gm_d_Tree_include_16 : decode gm_b_Tree_include 16 = .ok (.isub, 1) := by decide +kernel
theorem gm_d_Tree_include_17 : decode gm_b_Tree_include 17 = .ok (.istore 4, 2) := by decide +kernel
theorem gm_d_Tree_include_19 : decode gm_b_Tree_include 19 = .ok (.iload 4, 2) := by decide +kernel
theorem gm_d_Tree_include_21 : decode gm_b_Tree_include 21 = .ok (.iload_n 3, 1) := by decide +kernel
theorem gm_d_Tree_include_22 : decode gm_b_Tree_include 22 = .ok (.bipush 32, 2) := by decide +kernel
theorem gm_d_Tree_include_24 : decode gm_b_Tree_include 24 = .ok (.isub, 1) := by decide +kernel
theorem gm_d_Tree_include_25 : decode gm_b_Tree_include 25 = .ok (.if_icmp .gt 48, 3) := by decide +kernel
theorem gm_d_Tree_include_28 : decode gm_b_Tree_include 28 = .ok (.iload 4, 2) := by decide +kernel
theorem gm_d_Tree_include_30 : decode gm_b_Tree_include 30 = .ok (.bipush 64, 2) := by decide +kernel
theorem gm_d_Tree_include_32 : decode gm_b_Tree_include 32 = .ok (.if_icmp .ge 19, 3) := by decide +kernel
theorem gm_d_Tree_include_35 : decode gm_b_Tree_include 35 = .ok (.aload_n 0, 1) := by decide +kernel
theorem gm_d_Tree_include_36 : decode gm_b_Tree_include 36 = .ok (.getfield 34, 3) := by decide +kernel
theorem gm_d_Tree_include_39 : decode gm_b_Tree_include 39 = .ok (.iload_n 1, 1) := by decide +kernel
theorem gm_d_Tree_include_40 : decode gm_b_Tree_include 40 = .ok (.dup2, 1) := by decide +kernel
theorem gm_d_Tree_include_41 : decode gm_b_Tree_include 41 = .ok (.laload, 1) := by decide +kernel
theorem gm_d_Tree_include_42 : decode gm_b_Tree_include 42 = .ok (.lconst 1, 1) := by decide +kernel
theorem gm_d_Tree_include_43 : decode gm_b_Tree_include 43 = .ok (.iload 4, 2) := by decide +kernel
theorem gm_d_Tree_include_45 : decode gm_b_Tree_include 45 = .ok (.lshl, 1) := by decide +kernel
theorem gm_d_Tree_include_46 : decode gm_b_Tree_include 46 = .ok (.lor, 1) := by decide +kernel
theorem gm_d_Tree_include_47 : decode gm_b_Tree_include 47 = .ok (.lastore, 1) := by decide +kernel
theorem gm_d_Tree_include_48 : decode gm_b_Tree_include 48 = .ok (.goto 19, 3) := by decide +kernel
theorem gm_d_Tree_include_51 : decode gm_b_Tree_include 51 = .ok (.aload_n 0, 1) := by decide +kernel
theorem gm_d_Tree_include_52 : decode gm_b_Tree_include 52 = .ok (.getfield 38, 3) := by decide +kernel
theorem gm_d_Tree_include_55 : decode gm_b_Tree_include 55 = .ok (.iload_n 1, 1) := by decide +kernel
theorem gm_d_Tree_include_56 : decode gm_b_Tree_include 56 = .ok (.dup2, 1) := by decide +kernel
theorem gm_d_Tree_include_57 : decode gm_b_Tree_include 57 = .ok (.laload, 1) := by decide +kernel
theorem gm_d_Tree_include_58 : decode gm_b_Tree_include 58 = .ok (.lconst 1, 1) := by decide +kernel
theorem gm_d_Tree_include_59 : decode gm_b_Tree_include 59 = .ok (.iload 4, 2) := by decide +kernel
theorem gm_d_Tree_include_61 : decode gm_b_Tree_include 61 = .ok (.bipush 64, 2) := by decide +kernel
theorem gm_d_Tree_include_63 : decode gm_b_Tree_include 63 = .ok (.isub, 1) := by decide +kernel
theorem gm_d_Tree_include_64 : decode gm_b_Tree_include 64 = .ok (.lshl, 1) := by decide +kernel
theorem gm_d_Tree_include_65 : decode gm_b_Tree_include 65 = .ok (.lor, 1) := by decide +kernel
theorem gm_d_Tree_include_66 : decode gm_b_Tree_include 66 = .ok (.lastore, 1) := by decide +kernel
theorem gm_d_Tree_include_67 : decode gm_b_Tree_include 67 = .ok (.iinc 4 1, 3) := by decide +kernel
theorem gm_d_Tree_include_70 : decode gm_b_Tree_include 70 = .ok (.goto (-51), 3) := by decide +kernel
theorem gm_d_Tree_include_73 : decode gm_b_Tree_include 73 = .ok (.return_, 1) := by decide +kernel
theorem gm_d_Tree_holds_0 : decode gm_b_Tree_holds 0 = .ok (.iload_n 1, 1) := by decide +kernel
theorem gm_d_Tree_holds_1 : decode gm_b_Tree_holds 1 = .ok (.ifCond .lt 23, 3) := by decide +kernel
theorem gm_d_Tree_holds_4 : decode gm_b_Tree_holds 4 = .ok (.iload_n 1, 1) := by decide +kernel
theorem gm_d_Tree_holds_5 : decode gm_b_Tree_holds 5 = .ok (.aload_n 0, 1) := by decide +kernel
theorem gm_d_Tree_holds_6 : decode gm_b_Tree_holds 6 = .ok (.getfield 47, 3) := by decide +kernel
theorem gm_d_Tree_holds_9 : decode gm_b_Tree_holds 9 = .ok (.if_icmp .ge 15, 3) := by decide +kernel
theorem gm_d_Tree_holds_12 : decode gm_b_Tree_holds 12 = .ok (.iload_n 2, 1) := by decide +kernel
theorem gm_d_Tree_holds_13 : decode gm_b_Tree_holds 13 = .ok (.bipush 32, 2) := by decide +kernel
theorem gm_d_Tree_holds_15 : decode gm_b_Tree_holds 15 = .ok (.if_icmp .lt 9, 3) := by decide +kernel
theorem gm_d_Tree_holds_18 : decode gm_b_Tree_holds 18 = .ok (.iload_n 2, 1) := by decide +kernel
theorem gm_d_Tree_holds_19 : decode gm_b_Tree_holds 19 = .ok (.bipush 126, 2) := by decide +kernel
theorem gm_d_Tree_holds_21 : decode gm_b_Tree_holds 21 = .ok (.if_icmp .le 5, 3) := by decide +kernel
theorem gm_d_Tree_holds_24 : decode gm_b_Tree_holds 24 = .ok (.iconst 0, 1) := by decide +kernel
theorem gm_d_Tree_holds_25 : decode gm_b_Tree_holds 25 = .ok (.ireturn, 1) := by decide +kernel
theorem gm_d_Tree_holds_26 : decode gm_b_Tree_holds 26 = .ok (.iload_n 2, 1) := by decide +kernel
theorem gm_d_Tree_holds_27 : decode gm_b_Tree_holds 27 = .ok (.bipush 32, 2) := by decide +kernel
theorem gm_d_Tree_holds_29 : decode gm_b_Tree_holds 29 = .ok (.isub, 1) := by decide +kernel
theorem gm_d_Tree_holds_30 : decode gm_b_Tree_holds 30 = .ok (.istore_n 3, 1) := by decide +kernel
theorem gm_d_Tree_holds_31 : decode gm_b_Tree_holds 31 = .ok (.iload_n 3, 1) := by decide +kernel
theorem gm_d_Tree_holds_32 : decode gm_b_Tree_holds 32 = .ok (.bipush 64, 2) := by decide +kernel
theorem gm_d_Tree_holds_34 : decode gm_b_Tree_holds 34 = .ok (.if_icmp .ge 14, 3) := by decide +kernel
theorem gm_d_Tree_holds_37 : decode gm_b_Tree_holds 37 = .ok (.aload_n 0, 1) := by decide +kernel
theorem gm_d_Tree_holds_38 : decode gm_b_Tree_holds 38 = .ok (.getfield 34, 3) := by decide +kernel
theorem gm_d_Tree_holds_41 : decode gm_b_Tree_holds 41 = .ok (.iload_n 1, 1) := by decide +kernel
theorem gm_d_Tree_holds_42 : decode gm_b_Tree_holds 42 = .ok (.laload, 1) := by decide +kernel
theorem gm_d_Tree_holds_43 : decode gm_b_Tree_holds 43 = .ok (.iload_n 3, 1) := by decide +kernel
theorem gm_d_Tree_holds_44 : decode gm_b_Tree_holds 44 = .ok (.lushr, 1) := by decide +kernel
theorem gm_d_Tree_holds_45 : decode gm_b_Tree_holds 45 = .ok (.goto 14, 3) := by decide +kernel
theorem gm_d_Tree_holds_48 : decode gm_b_Tree_holds 48 = .ok (.aload_n 0, 1) := by decide +kernel
theorem gm_d_Tree_holds_49 : decode gm_b_Tree_holds 49 = .ok (.getfield 38, 3) := by decide +kernel
theorem gm_d_Tree_holds_52 : decode gm_b_Tree_holds 52 = .ok (.iload_n 1, 1) := by decide +kernel
theorem gm_d_Tree_holds_53 : decode gm_b_Tree_holds 53 = .ok (.laload, 1) := by decide +kernel
theorem gm_d_Tree_holds_54 : decode gm_b_Tree_holds 54 = .ok (.iload_n 3, 1) := by decide +kernel
theorem gm_d_Tree_holds_55 : decode gm_b_Tree_holds 55 = .ok (.bipush 64, 2) := by decide +kernel
theorem gm_d_Tree_holds_57 : decode gm_b_Tree_holds 57 = .ok (.isub, 1) := by decide +kernel
theorem gm_d_Tree_holds_58 : decode gm_b_Tree_holds 58 = .ok (.lushr, 1) := by decide +kernel
theorem gm_d_Tree_holds_59 : decode gm_b_Tree_holds 59 = .ok (.lstore 4, 2) := by decide +kernel
theorem gm_d_Tree_holds_61 : decode gm_b_Tree_holds 61 = .ok (.lload 4, 2) := by decide +kernel
theorem gm_d_Tree_holds_63 : decode gm_b_Tree_holds 63 = .ok (.lconst 1, 1) := by decide +kernel
theorem gm_d_Tree_holds_64 : decode gm_b_Tree_holds 64 = .ok (.land, 1) := by decide +kernel
theorem gm_d_Tree_holds_65 : decode gm_b_Tree_holds 65 = .ok (.lconst 0, 1) := by decide +kernel
theorem gm_d_Tree_holds_66 : decode gm_b_Tree_holds 66 = .ok (.lcmp, 1) := by decide +kernel
theorem gm_d_Tree_holds_67 : decode gm_b_Tree_holds 67 = .ok (.ifCond .eq 7, 3) := by decide +kernel
theorem gm_d_Tree_holds_70 : decode gm_b_Tree_holds 70 = .ok (.iconst 1, 1) := by decide +kernel
theorem gm_d_Tree_holds_71 : decode gm_b_Tree_holds 71 = .ok (.goto 4, 3) := by decide +kernel
theorem gm_d_Tree_holds_74 : decode gm_b_Tree_holds 74 = .ok (.iconst 0, 1) := by decide +kernel
theorem gm_d_Tree_holds_75 : decode gm_b_Tree_holds 75 = .ok (.ireturn, 1) := by decide +kernel
