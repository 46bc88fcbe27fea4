theorem gm_d_Reader_readExpression_0 : decode gm_b_Reader_readExpression 0 = .ok (.aload_n 0, 1) := by decide +kernel
theorem gm_d_Reader_readExpression_1 : decode gm_b_Reader_readExpression 1 = .ok (.getfield 15, 3) := by decide +kernel
theorem gm_d_Reader_readExpression_4 : decode gm_b_Reader_readExpression 4 = .ok (.istore_n 2, 1) := by decide +kernel
theorem gm_d_Reader_readExpression_5 : decode gm_b_Reader_readExpression 5 = .ok (.aload_n 0, 1) := by decide +kernel
theorem gm_d_Reader_readExpression_6 : decode gm_b_Reader_readExpression 6 = .ok (.iload_n 1, 1) := by decide +kernel
theorem gm_d_Reader_readExpression_7 : decode gm_b_Reader_readExpression 7 = .ok (.invokevirtual 71, 3) := by decide +kernel
theorem gm_d_Reader_readExpression_10 : decode gm_b_Reader_readExpression 10 = .ok (.iconst 0, 1) := by decide +kernel
theorem gm_d_Reader_readExpression_11 : decode gm_b_Reader_readExpression 11 = .ok (.istore_n 3, 1) := by decide +kernel
theorem gm_d_Reader_readExpression_12 : decode gm_b_Reader_readExpression 12 = .ok (.iload_n 3, 1) := by decide +kernel
theorem gm_d_Reader_readExpression_13 : decode gm_b_Reader_readExpression 13 = .ok (.bipush 50, 2) := by decide +kernel
theorem gm_d_Reader_readExpression_15 : decode gm_b_Reader_readExpression 15 = .ok (.if_icmp .ge 23, 3) := by decide +kernel
theorem gm_d_Reader_readExpression_18 : decode gm_b_Reader_readExpression 18 = .ok (.aload_n 0, 1) := by decide +kernel
theorem gm_d_Reader_readExpression_19 : decode gm_b_Reader_readExpression 19 = .ok (.bipush 47, 2) := by decide +kernel
theorem gm_d_Reader_readExpression_21 : decode gm_b_Reader_readExpression 21 = .ok (.invokevirtual 74, 3) := by decide +kernel
theorem gm_d_Reader_readExpression_24 : decode gm_b_Reader_readExpression 24 = .ok (.ifCond .eq 14, 3) := by decide +kernel
theorem gm_d_Reader_readExpression_27 : decode gm_b_Reader_readExpression 27 = .ok (.aload_n 0, 1) := by decide +kernel
theorem gm_d_Reader_readExpression_28 : decode gm_b_Reader_readExpression 28 = .ok (.iload_n 1, 1) := by decide +kernel
theorem gm_d_Reader_readExpression_29 : decode gm_b_Reader_readExpression 29 = .ok (.invokevirtual 71, 3) := by decide +kernel
theorem gm_d_Reader_readExpression_32 : decode gm_b_Reader_readExpression 32 = .ok (.iinc 3 1, 3) := by decide +kernel
theorem gm_d_Reader_readExpression_35 : decode gm_b_Reader_readExpression 35 = .ok (.goto (-23), 3) := by decide +kernel
theorem gm_d_Reader_readExpression_38 : decode gm_b_Reader_readExpression 38 = .ok (.aload_n 0, 1) := by decide +kernel
theorem gm_d_Reader_readExpression_39 : decode gm_b_Reader_readExpression 39 = .ok (.iconst 3, 1) := by decide +kernel
theorem gm_d_Reader_readExpression_40 : decode gm_b_Reader_readExpression 40 = .ok (.iload_n 2, 1) := by decide +kernel
theorem gm_d_Reader_readExpression_41 : decode gm_b_Reader_readExpression 41 = .ok (.invokevirtual 78, 3) := by decide +kernel
theorem gm_d_Reader_readExpression_44 : decode gm_b_Reader_readExpression 44 = .ok (.return_, 1) := by decide +kernel
theorem gm_d_Reader_readSequence_0 : decode gm_b_Reader_readSequence 0 = .ok (.aload_n 0, 1) := by decide +kernel
theorem gm_d_Reader_readSequence_1 : decode gm_b_Reader_readSequence 1 = .ok (.getfield 15, 3) := by decide +kernel
theorem gm_d_Reader_readSequence_4 : decode gm_b_Reader_readSequence 4 = .ok (.istore_n 2, 1) := by decide +kernel
theorem gm_d_Reader_readSequence_5 : decode gm_b_Reader_readSequence 5 = .ok (.iconst 0, 1) := by decide +kernel
theorem gm_d_Reader_readSequence_6 : decode gm_b_Reader_readSequence 6 = .ok (.istore_n 3, 1) := by decide +kernel
theorem gm_d_Reader_readSequence_7 : decode gm_b_Reader_readSequence 7 = .ok (.iload_n 3, 1) := by decide +kernel
theorem gm_d_Reader_readSequence_8 : decode gm_b_Reader_readSequence 8 = .ok (.bipush 50, 2) := by decide +kernel
theorem gm_d_Reader_readSequence_10 : decode gm_b_Reader_readSequence 10 = .ok (.if_icmp .ge 38, 3) := by decide +kernel
theorem gm_d_Reader_readSequence_13 : decode gm_b_Reader_readSequence 13 = .ok (.aload_n 0, 1) := by decide +kernel
theorem gm_d_Reader_readSequence_14 : decode gm_b_Reader_readSequence 14 = .ok (.getfield 22, 3) := by decide +kernel
theorem gm_d_Reader_readSequence_17 : decode gm_b_Reader_readSequence 17 = .ok (.ifCond .ne 31, 3) := by decide +kernel
theorem gm_d_Reader_readSequence_20 : decode gm_b_Reader_readSequence 20 = .ok (.aload_n 0, 1) := by decide +kernel
theorem gm_d_Reader_readSequence_21 : decode gm_b_Reader_readSequence 21 = .ok (.getfield 26, 3) := by decide +kernel
theorem gm_d_Reader_readSequence_24 : decode gm_b_Reader_readSequence 24 = .ok (.aload_n 0, 1) := by decide +kernel
theorem gm_d_Reader_readSequence_25 : decode gm_b_Reader_readSequence 25 = .ok (.getfield 19, 3) := by decide +kernel
theorem gm_d_Reader_readSequence_28 : decode gm_b_Reader_readSequence 28 = .ok (.invokevirtual 47, 3) := by decide +kernel
theorem gm_d_Reader_readSequence_31 : decode gm_b_Reader_readSequence 31 = .ok (.invokestatic 81, 3) := by decide +kernel
theorem gm_d_Reader_readSequence_34 : decode gm_b_Reader_readSequence 34 = .ok (.ifCond .eq 14, 3) := by decide +kernel
theorem gm_d_Reader_readSequence_37 : decode gm_b_Reader_readSequence 37 = .ok (.aload_n 0, 1) := by decide +kernel
theorem gm_d_Reader_readSequence_38 : decode gm_b_Reader_readSequence 38 = .ok (.iload_n 1, 1) := by decide +kernel
theorem gm_d_Reader_readSequence_39 : decode gm_b_Reader_readSequence 39 = .ok (.invokevirtual 84, 3) := by decide +kernel
theorem gm_d_Reader_readSequence_42 : decode gm_b_Reader_readSequence 42 = .ok (.iinc 3 1, 3) := by decide +kernel
theorem gm_d_Reader_readSequence_45 : decode gm_b_Reader_readSequence 45 = .ok (.goto (-38), 3) := by decide +kernel
theorem gm_d_Reader_readSequence_48 : decode gm_b_Reader_readSequence 48 = .ok (.aload_n 0, 1) := by decide +kernel
theorem gm_d_Reader_readSequence_49 : decode gm_b_Reader_readSequence 49 = .ok (.iconst 2, 1) := by decide +kernel
theorem gm_d_Reader_readSequence_50 : decode gm_b_Reader_readSequence 50 = .ok (.iload_n 2, 1) := by decide +kernel
theorem gm_d_Reader_readSequence_51 : decode gm_b_Reader_readSequence 51 = .ok (.invokevirtual 78, 3) := by decide +kernel
theorem gm_d_Reader_readSequence_54 : decode gm_b_Reader_readSequence 54 = .ok (.return_, 1) := by decide +kernel
theorem gm_d_Reader_readPiece_0 : decode gm_b_Reader_readPiece 0 = .ok (.aload_n 0, 1) := by decide +kernel
theorem gm_d_Reader_readPiece_1 : decode gm_b_Reader_readPiece 1 = .ok (.getfield 15, 3) := by decide +kernel
theorem gm_d_Reader_readPiece_4 : decode gm_b_Reader_readPiece 4 = .ok (.istore_n 2, 1) := by decide +kernel
theorem gm_d_Reader_readPiece_5 : decode gm_b_Reader_readPiece 5 = .ok (.aload_n 0, 1) := by decide +kernel
theorem gm_d_Reader_readPiece_6 : decode gm_b_Reader_readPiece 6 = .ok (.bipush 38, 2) := by decide +kernel
theorem gm_d_Reader_readPiece_8 : decode gm_b_Reader_readPiece 8 = .ok (.invokevirtual 74, 3) := by decide +kernel
theorem gm_d_Reader_readPiece_11 : decode gm_b_Reader_readPiece 11 = .ok (.ifCond .eq 8, 3) := by decide +kernel
theorem gm_d_Reader_readPiece_14 : decode gm_b_Reader_readPiece 14 = .ok (.bipush 7, 2) := by decide +kernel
theorem gm_d_Reader_readPiece_16 : decode gm_b_Reader_readPiece 16 = .ok (.goto 18, 3) := by decide +kernel
theorem gm_d_Reader_readPiece_19 : decode gm_b_Reader_readPiece 19 = .ok (.aload_n 0, 1) := by decide +kernel
theorem gm_d_Reader_readPiece_20 : decode gm_b_Reader_readPiece 20 = .ok (.bipush 33, 2) := by decide +kernel
theorem gm_d_Reader_readPiece_22 : decode gm_b_Reader_readPiece 22 = .ok (.invokevirtual 74, 3) := by decide +kernel
theorem gm_d_Reader_readPiece_25 : decode gm_b_Reader_readPiece 25 = .ok (.ifCond .eq 8, 3) := by decide +kernel
theorem gm_d_Reader_readPiece_28 : decode gm_b_Reader_readPiece 28 = .ok (.bipush 8, 2) := by decide +kernel
theorem gm_d_Reader_readPiece_30 : decode gm_b_Reader_readPiece 30 = .ok (.goto 4, 3) := by decide +kernel
theorem gm_d_Reader_readPiece_33 : decode gm_b_Reader_readPiece 33 = .ok (.iconst (-1), 1) := by decide +kernel
theorem gm_d_Reader_readPiece_34 : decode gm_b_Reader_readPiece 34 = .ok (.istore_n 3, 1) := by decide +kernel
theorem gm_d_Reader_readPiece_35 : decode gm_b_Reader_readPiece 35 = .ok (.aload_n 0, 1) := by decide +kernel
theorem gm_d_Reader_readPiece_36 : decode gm_b_Reader_readPiece 36 = .ok (.iload_n 1, 1) := by decide +kernel
theorem gm_d_Reader_readPiece_37 : decode gm_b_Reader_readPiece 37 = .ok (.invokevirtual 87, 3) := by decide +kernel
theorem gm_d_Reader_readPiece_40 : decode gm_b_Reader_readPiece 40 = .ok (.aload_n 0, 1) := by decide +kernel
theorem gm_d_Reader_readPiece_41 : decode gm_b_Reader_readPiece 41 = .ok (.bipush 63, 2) := by decide +kernel
theorem gm_d_Reader_readPiece_43 : decode gm_b_Reader_readPiece 43 = .ok (.invokevirtual 74, 3) := by decide +kernel
theorem gm_d_Reader_readPiece_46 : decode gm_b_Reader_readPiece 46 = .ok (.ifCond .eq 12, 3) := by decide +kernel
theorem gm_d_Reader_readPiece_49 : decode gm_b_Reader_readPiece 49 = .ok (.aload_n 0, 1) := by decide +kernel
theorem gm_d_Reader_readPiece_50 : decode gm_b_Reader_readPiece 50 = .ok (.iconst 4, 1) := by decide +kernel
theorem gm_d_Reader_readPiece_51 : decode gm_b_Reader_readPiece 51 = .ok (.iload_n 2, 1) := by decide +kernel
theorem gm_d_Reader_readPiece_52 : decode gm_b_Reader_readPiece 52 = .ok (.invokevirtual 78, 3) := by decide +kernel
theorem gm_d_Reader_readPiece_55 : decode gm_b_Reader_readPiece 55 = .ok (.goto 37, 3) := by decide +kernel
theorem gm_d_Reader_readPiece_58 : decode gm_b_Reader_readPiece 58 = .ok (.aload_n 0, 1) := by decide +kernel
theorem gm_d_Reader_readPiece_59 : decode gm_b_Reader_readPiece 59 = .ok (.bipush 42, 2) := by decide +kernel
theorem gm_d_Reader_readPiece_61 : decode gm_b_Reader_readPiece 61 = .ok (.invokevirtual 74, 3) := by decide +kernel
theorem gm_d_Reader_readPiece_64 : decode gm_b_Reader_readPiece 64 = .ok (.ifCond .eq 12, 3) := by decide +kernel
theorem gm_d_Reader_readPiece_67 : decode gm_b_Reader_readPiece 67 = .ok (.aload_n 0, 1) := by decide +kernel
theorem gm_d_Reader_readPiece_68 : decode gm_b_Reader_readPiece 68 = .ok (.iconst 5, 1) := by decide +kernel
theorem gm_d_Reader_readPiece_69 : decode gm_b_Reader_readPiece 69 = .ok (.iload_n 2, 1) := by decide +kernel
theorem gm_d_Reader_readPiece_70 : decode gm_b_Reader_readPiece 70 = .ok (.invokevirtual 78, 3) := by decide +kernel
theorem gm_d_Reader_readPiece_73 : decode gm_b_Reader_readPiece 73 = .ok (.goto 19, 3) := by decide +kernel
theorem gm_d_Reader_readPiece_76 : decode gm_b_Reader_readPiece 76 = .ok (.aload_n 0, 1) := by decide +kernel
theorem gm_d_Reader_readPiece_77 : decode gm_b_Reader_readPiece 77 = .ok (.bipush 43, 2) := by decide +kernel
theorem gm_d_Reader_readPiece_79 : decode gm_b_Reader_readPiece 79 = .ok (.invokevirtual 74, 3) := by decide +kernel
theorem gm_d_Reader_readPiece_82 : decode gm_b_Reader_readPiece 82 = .ok (.ifCond .eq 10, 3) := by decide +kernel
theorem gm_d_Reader_readPiece_85 : decode gm_b_Reader_readPiece 85 = .ok (.aload_n 0, 1) := by decide +kernel
theorem gm_d_Reader_readPiece_86 : decode gm_b_Reader_readPiece 86 = .ok (.bipush 6, 2) := by decide +kernel
theorem gm_d_Reader_readPiece_88 : decode gm_b_Reader_readPiece 88 = .ok (.iload_n 2, 1) := by decide +kernel
theorem gm_d_Reader_readPiece_89 : decode gm_b_Reader_readPiece 89 = .ok (.invokevirtual 78, 3) := by decide +kernel
theorem gm_d_Reader_readPiece_92 : decode gm_b_Reader_readPiece 92 = .ok (.iload_n 3, 1) := by decide +kernel
theorem gm_d_Reader_readPiece_93 : decode gm_b_Reader_readPiece 93 = .ok (.iconst (-1), 1) := by decide +kernel
theorem gm_d_Reader_readPiece_94 : decode gm_b_Reader_readPiece 94 = .ok (.if_icmp .eq 9, 3) := by decide +kernel
theorem gm_d_Reader_readPiece_97 : decode gm_b_Reader_readPiece 97 = .ok (.aload_n 0, 1) := by decide +kernel
theorem gm_d_Reader_readPiece_98 : decode gm_b_Reader_readPiece 98 = .ok (.iload_n 3, 1) := by decide +kernel
theorem gm_d_Reader_readPiece_99 : decode gm_b_Reader_readPiece 99 = .ok (.iload_n 2, 1) := by decide +kernel
theorem gm_d_Reader_readPiece_100 : decode gm_b_Reader_readPiece 100 = .ok (.invokevirtual 78, 3) := by decide +kernel
theorem gm_d_Reader_readPiece_103 : decode gm_b_Reader_readPiece 103 = .ok (.return_, 1) := by decide +kernel
theorem gm_d_Reader_readPrimary_0 : decode gm_b_Reader_readPrimary 0 = .ok (.aload_n 0, 1) := by decide +kernel
theorem gm_d_Reader_readPrimary_1 : decode gm_b_Reader_readPrimary 1 = .ok (.getfield 26, 3) := by decide +kernel
theorem gm_d_Reader_readPrimary_4 : decode gm_b_Reader_readPrimary 4 = .ok (.aload_n 0, 1) := by decide +kernel
theorem gm_d_Reader_readPrimary_5 : decode gm_b_Reader_readPrimary 5 = .ok (.getfield 19, 3) := by decide +kernel
theorem gm_d_Reader_readPrimary_8 : decode gm_b_Reader_readPrimary 8 = .ok (.invokevirtual 47, 3) := by decide +kernel
theorem gm_d_Reader_readPrimary_11 : decode gm_b_Reader_readPrimary 11 = .ok (.istore_n 2, 1) := by decide +kernel
theorem gm_d_Reader_readPrimary_12 : decode gm_b_Reader_readPrimary 12 = .ok (.iload_n 2, 1) := by decide +kernel
theorem gm_d_Reader_readPrimary_13 : decode gm_b_Reader_readPrimary 13 = .ok (.invokestatic 51, 3) := by decide +kernel
theorem gm_d_Reader_readPrimary_16 : decode gm_b_Reader_readPrimary 16 = .ok (.ifCond .eq 29, 3) := by decide +kernel
theorem gm_d_Reader_readPrimary_19 : decode gm_b_Reader_readPrimary 19 = .ok (.aload_n 0, 1) := by decide +kernel
theorem gm_d_Reader_readPrimary_20 : decode gm_b_Reader_readPrimary 20 = .ok (.dup, 1) := by decide +kernel
theorem gm_d_Reader_readPrimary_21 : decode gm_b_Reader_readPrimary 21 = .ok (.getfield 19, 3) := by decide +kernel
theorem gm_d_Reader_readPrimary_24 : decode gm_b_Reader_readPrimary 24 = .ok (.iconst 1, 1) := by decide +kernel
theorem gm_d_Reader_readPrimary_25 : decode gm_b_Reader_readPrimary 25 = .ok (.iadd, 1) := by decide +kernel
theorem gm_d_Reader_readPrimary_26 : decode gm_b_Reader_readPrimary 26 = .ok (.putfield 19, 3) := by decide +kernel
theorem gm_d_Reader_readPrimary_29 : decode gm_b_Reader_readPrimary 29 = .ok (.aload_n 0, 1) := by decide +kernel
theorem gm_d_Reader_readPrimary_30 : decode gm_b_Reader_readPrimary 30 = .ok (.aload_n 0, 1) := by decide +kernel
theorem gm_d_Reader_readPrimary_31 : decode gm_b_Reader_readPrimary 31 = .ok (.getfield 30, 3) := by decide +kernel
theorem gm_d_Reader_readPrimary_34 : decode gm_b_Reader_readPrimary 34 = .ok (.iconst 1, 1) := by decide +kernel
theorem gm_d_Reader_readPrimary_35 : decode gm_b_Reader_readPrimary 35 = .ok (.iload_n 2, 1) := by decide +kernel
theorem gm_d_Reader_readPrimary_36 : decode gm_b_Reader_readPrimary 36 = .ok (.invokevirtual 90, 3) := by decide +kernel
theorem gm_d_Reader_readPrimary_39 : decode gm_b_Reader_readPrimary 39 = .ok (.invokevirtual 94, 3) := by decide +kernel
theorem gm_d_Reader_readPrimary_42 : decode gm_b_Reader_readPrimary 42 = .ok (.goto 134, 3) := by decide +kernel
theorem gm_d_Reader_readPrimary_45 : decode gm_b_Reader_readPrimary 45 = .ok (.aload_n 0, 1) := by decide +kernel
theorem gm_d_Reader_readPrimary_46 : decode gm_b_Reader_readPrimary 46 = .ok (.bipush 46, 2) := by decide +kernel
theorem gm_d_Reader_readPrimary_48 : decode gm_b_Reader_readPrimary 48 = .ok (.invokevirtual 74, 3) := by decide +kernel
theorem gm_d_Reader_readPrimary_51 : decode gm_b_Reader_readPrimary 51 = .ok (.ifCond .eq 14, 3) := by decide +kernel
theorem gm_d_Reader_readPrimary_54 : decode gm_b_Reader_readPrimary 54 = .ok (.aload_n 0, 1) := by decide +kernel
theorem gm_d_Reader_readPrimary_55 : decode gm_b_Reader_readPrimary 55 = .ok (.bipush 32, 2) := by decide +kernel
theorem gm_d_Reader_readPrimary_57 : decode gm_b_Reader_readPrimary 57 = .ok (.bipush 126, 2) := by decide +kernel
theorem gm_d_Reader_readPrimary_59 : decode gm_b_Reader_readPrimary 59 = .ok (.invokevirtual 97, 3) := by decide +kernel
theorem gm_d_Reader_readPrimary_62 : decode gm_b_Reader_readPrimary 62 = .ok (.goto 114, 3) := by decide +kernel
theorem gm_d_Reader_readPrimary_65 : decode gm_b_Reader_readPrimary 65 = .ok (.aload_n 0, 1) := by decide +kernel
theorem gm_d_Reader_readPrimary_66 : decode gm_b_Reader_readPrimary 66 = .ok (.bipush 39, 2) := by decide +kernel
theorem gm_d_Reader_readPrimary_68 : decode gm_b_Reader_readPrimary 68 = .ok (.invokevirtual 74, 3) := by decide +kernel
theorem gm_d_Reader_readPrimary_71 : decode gm_b_Reader_readPrimary 71 = .ok (.ifCond .eq 10, 3) := by decide +kernel
theorem gm_d_Reader_readPrimary_74 : decode gm_b_Reader_readPrimary 74 = .ok (.aload_n 0, 1) := by decide +kernel
theorem gm_d_Reader_readPrimary_75 : decode gm_b_Reader_readPrimary 75 = .ok (.invokevirtual 100, 3) := by decide +kernel
theorem gm_d_Reader_readPrimary_78 : decode gm_b_Reader_readPrimary 78 = .ok (.goto 98, 3) := by decide +kernel
theorem gm_d_Reader_readPrimary_81 : decode gm_b_Reader_readPrimary 81 = .ok (.aload_n 0, 1) := by decide +kernel
theorem gm_d_Reader_readPrimary_82 : decode gm_b_Reader_readPrimary 82 = .ok (.bipush 91, 2) := by decide +kernel
theorem gm_d_Reader_readPrimary_84 : decode gm_b_Reader_readPrimary 84 = .ok (.invokevirtual 74, 3) := by decide +kernel
theorem gm_d_Reader_readPrimary_87 : decode gm_b_Reader_readPrimary 87 = .ok (.ifCond .eq 10, 3) := by decide +kernel
theorem gm_d_Reader_readPrimary_90 : decode gm_b_Reader_readPrimary 90 = .ok (.aload_n 0, 1) := by decide +kernel
theorem gm_d_Reader_readPrimary_91 : decode gm_b_Reader_readPrimary 91 = .ok (.invokevirtual 103, 3) := by decide +kernel
theorem gm_d_Reader_readPrimary_94 : decode gm_b_Reader_readPrimary 94 = .ok (.goto 82, 3) := by decide +kernel
theorem gm_d_Reader_readPrimary_97 : decode gm_b_Reader_readPrimary 97 = .ok (.iload_n 1, 1) := by decide +kernel
theorem gm_d_Reader_readPrimary_98 : decode gm_b_Reader_readPrimary 98 = .ok (.bipush 6, 2) := by decide +kernel
theorem gm_d_Reader_readPrimary_100 : decode gm_b_Reader_readPrimary 100 = .ok (.if_icmp .ge 28, 3) := by decide +kernel
theorem gm_d_Reader_readPrimary_103 : decode gm_b_Reader_readPrimary 103 = .ok (.aload_n 0, 1) := by decide +kernel
theorem gm_d_Reader_readPrimary_104 : decode gm_b_Reader_readPrimary 104 = .ok (.bipush 40, 2) := by decide +kernel
theorem gm_d_Reader_readPrimary_106 : decode gm_b_Reader_readPrimary 106 = .ok (.invokevirtual 74, 3) := by decide +kernel
theorem gm_d_Reader_readPrimary_109 : decode gm_b_Reader_readPrimary 109 = .ok (.ifCond .eq 19, 3) := by decide +kernel
theorem gm_d_Reader_readPrimary_112 : decode gm_b_Reader_readPrimary 112 = .ok (.aload_n 0, 1) := by decide +kernel
theorem gm_d_Reader_readPrimary_113 : decode gm_b_Reader_readPrimary 113 = .ok (.iload_n 1, 1) := by decide +kernel
theorem gm_d_Reader_readPrimary_114 : decode gm_b_Reader_readPrimary 114 = .ok (.iconst 1, 1) := by decide +kernel
theorem gm_d_Reader_readPrimary_115 : decode gm_b_Reader_readPrimary 115 = .ok (.iadd, 1) := by decide +kernel
theorem gm_d_Reader_readPrimary_116 : decode gm_b_Reader_readPrimary 116 = .ok (.invokevirtual 62, 3) := by decide +kernel
theorem gm_d_Reader_readPrimary_119 : decode gm_b_Reader_readPrimary 119 = .ok (.aload_n 0, 1) := by decide +kernel
theorem gm_d_Reader_readPrimary_120 : decode gm_b_Reader_readPrimary 120 = .ok (.bipush 41, 2) := by decide +kernel
theorem gm_d_Reader_readPrimary_122 : decode gm_b_Reader_readPrimary 122 = .ok (.invokevirtual 58, 3) := by decide +kernel
theorem gm_d_Reader_readPrimary_125 : decode gm_b_Reader_readPrimary 125 = .ok (.goto 51, 3) := by decide +kernel
theorem gm_d_Reader_readPrimary_128 : decode gm_b_Reader_readPrimary 128 = .ok (.iload_n 1, 1) := by decide +kernel
theorem gm_d_Reader_readPrimary_129 : decode gm_b_Reader_readPrimary 129 = .ok (.bipush 6, 2) := by decide +kernel
theorem gm_d_Reader_readPrimary_131 : decode gm_b_Reader_readPrimary 131 = .ok (.if_icmp .ge 40, 3) := by decide +kernel
theorem gm_d_Reader_readPrimary_134 : decode gm_b_Reader_readPrimary 134 = .ok (.aload_n 0, 1) := by decide +kernel
theorem gm_d_Reader_readPrimary_135 : decode gm_b_Reader_readPrimary 135 = .ok (.bipush 123, 2) := by decide +kernel
theorem gm_d_Reader_readPrimary_137 : decode gm_b_Reader_readPrimary 137 = .ok (.invokevirtual 74, 3) := by decide +kernel
theorem gm_d_Reader_readPrimary_140 : decode gm_b_Reader_readPrimary 140 = .ok (.ifCond .eq 31, 3) := by decide +kernel
theorem gm_d_Reader_readPrimary_143 : decode gm_b_Reader_readPrimary 143 = .ok (.aload_n 0, 1) := by decide +kernel
theorem gm_d_Reader_readPrimary_144 : decode gm_b_Reader_readPrimary 144 = .ok (.getfield 15, 3) := by decide +kernel
theorem gm_d_Reader_readPrimary_147 : decode gm_b_Reader_readPrimary 147 = .ok (.istore_n 3, 1) := by decide +kernel
theorem gm_d_Reader_readPrimary_148 : decode gm_b_Reader_readPrimary 148 = .ok (.aload_n 0, 1) := by decide +kernel
theorem gm_d_Reader_readPrimary_149 : decode gm_b_Reader_readPrimary 149 = .ok (.iload_n 1, 1) := by decide +kernel
theorem gm_d_Reader_readPrimary_150 : decode gm_b_Reader_readPrimary 150 = .ok (.iconst 1, 1) := by decide +kernel
theorem gm_d_Reader_readPrimary_151 : decode gm_b_Reader_readPrimary 151 = .ok (.iadd, 1) := by decide +kernel
theorem gm_d_Reader_readPrimary_152 : decode gm_b_Reader_readPrimary 152 = .ok (.invokevirtual 62, 3) := by decide +kernel
theorem gm_d_Reader_readPrimary_155 : decode gm_b_Reader_readPrimary 155 = .ok (.aload_n 0, 1) := by decide +kernel
theorem gm_d_Reader_readPrimary_156 : decode gm_b_Reader_readPrimary 156 = .ok (.bipush 125, 2) := by decide +kernel
theorem gm_d_Reader_readPrimary_158 : decode gm_b_Reader_readPrimary 158 = .ok (.invokevirtual 58, 3) := by decide +kernel
theorem gm_d_Reader_readPrimary_161 : decode gm_b_Reader_readPrimary 161 = .ok (.aload_n 0, 1) := by decide +kernel
theorem gm_d_Reader_readPrimary_162 : decode gm_b_Reader_readPrimary 162 = .ok (.bipush 9, 2) := by decide +kernel
theorem gm_d_Reader_readPrimary_164 : decode gm_b_Reader_readPrimary 164 = .ok (.iload_n 3, 1) := by decide +kernel
theorem gm_d_Reader_readPrimary_165 : decode gm_b_Reader_readPrimary 165 = .ok (.invokevirtual 78, 3) := by decide +kernel
theorem gm_d_Reader_readPrimary_168 : decode gm_b_Reader_readPrimary 168 = .ok (.goto 8, 3) := by decide +kernel
theorem gm_d_Reader_readPrimary_171 : decode gm_b_Reader_readPrimary 171 = .ok (.aload_n 0, 1) := by decide +kernel
theorem gm_d_Reader_readPrimary_172 : decode gm_b_Reader_readPrimary 172 = .ok (.iconst 1, 1) := by decide +kernel
theorem gm_d_Reader_readPrimary_173 : decode gm_b_Reader_readPrimary 173 = .ok (.putfield 22, 3) := by decide +kernel
theorem gm_d_Reader_readPrimary_176 : decode gm_b_Reader_readPrimary 176 = .ok (.return_, 1) := by decide +kernel
