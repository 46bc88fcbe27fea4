theorem gm_d_Code_writeBetween_0 : decode gm_b_Code_writeBetween 0 = .ok (.aload_n 0, 1) := by decide +kernel
theorem gm_d_Code_writeBetween_1 : decode gm_b_Code_writeBetween 1 = .ok (.iload_n 1, 1) := by decide +kernel
theorem gm_d_Code_writeBetween_2 : decode gm_b_Code_writeBetween 2 = .ok (.iconst (-1), 1) := by decide +kernel
theorem gm_d_Code_writeBetween_3 : decode gm_b_Code_writeBetween 3 = .ok (.invokevirtual 37, 3) := by decide +kernel
theorem gm_d_Code_writeBetween_6 : decode gm_b_Code_writeBetween 6 = .ok (.istore 5, 2) := by decide +kernel
theorem gm_d_Code_writeBetween_8 : decode gm_b_Code_writeBetween 8 = .ok (.aload_n 0, 1) := by decide +kernel
theorem gm_d_Code_writeBetween_9 : decode gm_b_Code_writeBetween 9 = .ok (.iload_n 2, 1) := by decide +kernel
theorem gm_d_Code_writeBetween_10 : decode gm_b_Code_writeBetween 10 = .ok (.iload 4, 2) := by decide +kernel
theorem gm_d_Code_writeBetween_12 : decode gm_b_Code_writeBetween 12 = .ok (.iconst 1, 1) := by decide +kernel
theorem gm_d_Code_writeBetween_13 : decode gm_b_Code_writeBetween 13 = .ok (.iadd, 1) := by decide +kernel
theorem gm_d_Code_writeBetween_14 : decode gm_b_Code_writeBetween 14 = .ok (.invokevirtual 44, 3) := by decide +kernel
theorem gm_d_Code_writeBetween_17 : decode gm_b_Code_writeBetween 17 = .ok (.aload_n 0, 1) := by decide +kernel
theorem gm_d_Code_writeBetween_18 : decode gm_b_Code_writeBetween 18 = .ok (.iload_n 3, 1) := by decide +kernel
theorem gm_d_Code_writeBetween_19 : decode gm_b_Code_writeBetween 19 = .ok (.iconst (-1), 1) := by decide +kernel
theorem gm_d_Code_writeBetween_20 : decode gm_b_Code_writeBetween 20 = .ok (.invokevirtual 37, 3) := by decide +kernel
theorem gm_d_Code_writeBetween_23 : decode gm_b_Code_writeBetween 23 = .ok (.pop, 1) := by decide +kernel
theorem gm_d_Code_writeBetween_24 : decode gm_b_Code_writeBetween 24 = .ok (.iload 5, 2) := by decide +kernel
theorem gm_d_Code_writeBetween_26 : decode gm_b_Code_writeBetween 26 = .ok (.ireturn, 1) := by decide +kernel
theorem gm_d_Code_writeTried_0 : decode gm_b_Code_writeTried 0 = .ok (.aload_n 0, 1) := by decide +kernel
theorem gm_d_Code_writeTried_1 : decode gm_b_Code_writeTried 1 = .ok (.iload_n 1, 1) := by decide +kernel
theorem gm_d_Code_writeTried_2 : decode gm_b_Code_writeTried 2 = .ok (.invokevirtual 97, 3) := by decide +kernel
theorem gm_d_Code_writeTried_5 : decode gm_b_Code_writeTried 5 = .ok (.istore_n 3, 1) := by decide +kernel
theorem gm_d_Code_writeTried_6 : decode gm_b_Code_writeTried 6 = .ok (.aload_n 0, 1) := by decide +kernel
theorem gm_d_Code_writeTried_7 : decode gm_b_Code_writeTried 7 = .ok (.iconst 2, 1) := by decide +kernel
theorem gm_d_Code_writeTried_8 : decode gm_b_Code_writeTried 8 = .ok (.iload_n 1, 1) := by decide +kernel
theorem gm_d_Code_writeTried_9 : decode gm_b_Code_writeTried 9 = .ok (.iconst 5, 1) := by decide +kernel
theorem gm_d_Code_writeTried_10 : decode gm_b_Code_writeTried 10 = .ok (.iload_n 2, 1) := by decide +kernel
theorem gm_d_Code_writeTried_11 : decode gm_b_Code_writeTried 11 = .ok (.invokevirtual 74, 3) := by decide +kernel
theorem gm_d_Code_writeTried_14 : decode gm_b_Code_writeTried 14 = .ok (.istore 4, 2) := by decide +kernel
theorem gm_d_Code_writeTried_16 : decode gm_b_Code_writeTried 16 = .ok (.aload_n 0, 1) := by decide +kernel
theorem gm_d_Code_writeTried_17 : decode gm_b_Code_writeTried 17 = .ok (.iload_n 3, 1) := by decide +kernel
theorem gm_d_Code_writeTried_18 : decode gm_b_Code_writeTried 18 = .ok (.invokevirtual 78, 3) := by decide +kernel
theorem gm_d_Code_writeTried_21 : decode gm_b_Code_writeTried 21 = .ok (.aload_n 0, 1) := by decide +kernel
theorem gm_d_Code_writeTried_22 : decode gm_b_Code_writeTried 22 = .ok (.iload 4, 2) := by decide +kernel
theorem gm_d_Code_writeTried_24 : decode gm_b_Code_writeTried 24 = .ok (.invokevirtual 78, 3) := by decide +kernel
theorem gm_d_Code_writeTried_27 : decode gm_b_Code_writeTried 27 = .ok (.return_, 1) := by decide +kernel
theorem gm_d_Code_writeOption_0 : decode gm_b_Code_writeOption 0 = .ok (.aload_n 0, 1) := by decide +kernel
theorem gm_d_Code_writeOption_1 : decode gm_b_Code_writeOption 1 = .ok (.iload_n 1, 1) := by decide +kernel
theorem gm_d_Code_writeOption_2 : decode gm_b_Code_writeOption 2 = .ok (.iload_n 2, 1) := by decide +kernel
theorem gm_d_Code_writeOption_3 : decode gm_b_Code_writeOption 3 = .ok (.invokevirtual 91, 3) := by decide +kernel
theorem gm_d_Code_writeOption_6 : decode gm_b_Code_writeOption 6 = .ok (.aload_n 0, 1) := by decide +kernel
theorem gm_d_Code_writeOption_7 : decode gm_b_Code_writeOption 7 = .ok (.aload_n 0, 1) := by decide +kernel
theorem gm_d_Code_writeOption_8 : decode gm_b_Code_writeOption 8 = .ok (.getfield 24, 3) := by decide +kernel
theorem gm_d_Code_writeOption_11 : decode gm_b_Code_writeOption 11 = .ok (.iconst 1, 1) := by decide +kernel
theorem gm_d_Code_writeOption_12 : decode gm_b_Code_writeOption 12 = .ok (.isub, 1) := by decide +kernel
theorem gm_d_Code_writeOption_13 : decode gm_b_Code_writeOption 13 = .ok (.invokevirtual 78, 3) := by decide +kernel
theorem gm_d_Code_writeOption_16 : decode gm_b_Code_writeOption 16 = .ok (.return_, 1) := by decide +kernel
theorem gm_d_Code_writeLoop_0 : decode gm_b_Code_writeLoop 0 = .ok (.aload_n 0, 1) := by decide +kernel
theorem gm_d_Code_writeLoop_1 : decode gm_b_Code_writeLoop 1 = .ok (.getfield 24, 3) := by decide +kernel
theorem gm_d_Code_writeLoop_4 : decode gm_b_Code_writeLoop 4 = .ok (.istore 4, 2) := by decide +kernel
theorem gm_d_Code_writeLoop_6 : decode gm_b_Code_writeLoop 6 = .ok (.aload_n 0, 1) := by decide +kernel
theorem gm_d_Code_writeLoop_7 : decode gm_b_Code_writeLoop 7 = .ok (.iload_n 1, 1) := by decide +kernel
theorem gm_d_Code_writeLoop_8 : decode gm_b_Code_writeLoop 8 = .ok (.invokevirtual 97, 3) := by decide +kernel
theorem gm_d_Code_writeLoop_11 : decode gm_b_Code_writeLoop 11 = .ok (.istore 5, 2) := by decide +kernel
theorem gm_d_Code_writeLoop_13 : decode gm_b_Code_writeLoop 13 = .ok (.aload_n 0, 1) := by decide +kernel
theorem gm_d_Code_writeLoop_14 : decode gm_b_Code_writeLoop 14 = .ok (.iconst 2, 1) := by decide +kernel
theorem gm_d_Code_writeLoop_15 : decode gm_b_Code_writeLoop 15 = .ok (.iconst (-1), 1) := by decide +kernel
theorem gm_d_Code_writeLoop_16 : decode gm_b_Code_writeLoop 16 = .ok (.invokevirtual 37, 3) := by decide +kernel
theorem gm_d_Code_writeLoop_19 : decode gm_b_Code_writeLoop 19 = .ok (.istore 6, 2) := by decide +kernel
theorem gm_d_Code_writeLoop_21 : decode gm_b_Code_writeLoop 21 = .ok (.aload_n 0, 1) := by decide +kernel
theorem gm_d_Code_writeLoop_22 : decode gm_b_Code_writeLoop 22 = .ok (.iload_n 3, 1) := by decide +kernel
theorem gm_d_Code_writeLoop_23 : decode gm_b_Code_writeLoop 23 = .ok (.invokevirtual 78, 3) := by decide +kernel
theorem gm_d_Code_writeLoop_26 : decode gm_b_Code_writeLoop 26 = .ok (.aload_n 0, 1) := by decide +kernel
theorem gm_d_Code_writeLoop_27 : decode gm_b_Code_writeLoop 27 = .ok (.iload_n 1, 1) := by decide +kernel
theorem gm_d_Code_writeLoop_28 : decode gm_b_Code_writeLoop 28 = .ok (.iload_n 2, 1) := by decide +kernel
theorem gm_d_Code_writeLoop_29 : decode gm_b_Code_writeLoop 29 = .ok (.iconst 1, 1) := by decide +kernel
theorem gm_d_Code_writeLoop_30 : decode gm_b_Code_writeLoop 30 = .ok (.iadd, 1) := by decide +kernel
theorem gm_d_Code_writeLoop_31 : decode gm_b_Code_writeLoop 31 = .ok (.invokevirtual 44, 3) := by decide +kernel
theorem gm_d_Code_writeLoop_34 : decode gm_b_Code_writeLoop 34 = .ok (.aload_n 0, 1) := by decide +kernel
theorem gm_d_Code_writeLoop_35 : decode gm_b_Code_writeLoop 35 = .ok (.iconst 5, 1) := by decide +kernel
theorem gm_d_Code_writeLoop_36 : decode gm_b_Code_writeLoop 36 = .ok (.iconst (-1), 1) := by decide +kernel
theorem gm_d_Code_writeLoop_37 : decode gm_b_Code_writeLoop 37 = .ok (.invokevirtual 37, 3) := by decide +kernel
theorem gm_d_Code_writeLoop_40 : decode gm_b_Code_writeLoop 40 = .ok (.istore 7, 2) := by decide +kernel
theorem gm_d_Code_writeLoop_42 : decode gm_b_Code_writeLoop 42 = .ok (.aload_n 0, 1) := by decide +kernel
theorem gm_d_Code_writeLoop_43 : decode gm_b_Code_writeLoop 43 = .ok (.iload 5, 2) := by decide +kernel
theorem gm_d_Code_writeLoop_45 : decode gm_b_Code_writeLoop 45 = .ok (.invokevirtual 78, 3) := by decide +kernel
theorem gm_d_Code_writeLoop_48 : decode gm_b_Code_writeLoop 48 = .ok (.aload_n 0, 1) := by decide +kernel
theorem gm_d_Code_writeLoop_49 : decode gm_b_Code_writeLoop 49 = .ok (.iload 6, 2) := by decide +kernel
theorem gm_d_Code_writeLoop_51 : decode gm_b_Code_writeLoop 51 = .ok (.invokevirtual 78, 3) := by decide +kernel
theorem gm_d_Code_writeLoop_54 : decode gm_b_Code_writeLoop 54 = .ok (.iload 7, 2) := by decide +kernel
theorem gm_d_Code_writeLoop_56 : decode gm_b_Code_writeLoop 56 = .ok (.iconst (-1), 1) := by decide +kernel
theorem gm_d_Code_writeLoop_57 : decode gm_b_Code_writeLoop 57 = .ok (.if_icmp .eq 12, 3) := by decide +kernel
theorem gm_d_Code_writeLoop_60 : decode gm_b_Code_writeLoop 60 = .ok (.aload_n 0, 1) := by decide +kernel
theorem gm_d_Code_writeLoop_61 : decode gm_b_Code_writeLoop 61 = .ok (.getfield 18, 3) := by decide +kernel
theorem gm_d_Code_writeLoop_64 : decode gm_b_Code_writeLoop 64 = .ok (.iload 7, 2) := by decide +kernel
theorem gm_d_Code_writeLoop_66 : decode gm_b_Code_writeLoop 66 = .ok (.iload 4, 2) := by decide +kernel
theorem gm_d_Code_writeLoop_68 : decode gm_b_Code_writeLoop 68 = .ok (.iastore, 1) := by decide +kernel
theorem gm_d_Code_writeLoop_69 : decode gm_b_Code_writeLoop 69 = .ok (.return_, 1) := by decide +kernel
theorem gm_d_Code_writeSequence_0 : decode gm_b_Code_writeSequence 0 = .ok (.aload_n 0, 1) := by decide +kernel
theorem gm_d_Code_writeSequence_1 : decode gm_b_Code_writeSequence 1 = .ok (.getfield 28, 3) := by decide +kernel
theorem gm_d_Code_writeSequence_4 : decode gm_b_Code_writeSequence 4 = .ok (.getfield 82, 3) := by decide +kernel
theorem gm_d_Code_writeSequence_7 : decode gm_b_Code_writeSequence 7 = .ok (.iload_n 1, 1) := by decide +kernel
theorem gm_d_Code_writeSequence_8 : decode gm_b_Code_writeSequence 8 = .ok (.iaload, 1) := by decide +kernel
theorem gm_d_Code_writeSequence_9 : decode gm_b_Code_writeSequence 9 = .ok (.istore_n 3, 1) := by decide +kernel
theorem gm_d_Code_writeSequence_10 : decode gm_b_Code_writeSequence 10 = .ok (.iload_n 3, 1) := by decide +kernel
theorem gm_d_Code_writeSequence_11 : decode gm_b_Code_writeSequence 11 = .ok (.aload_n 0, 1) := by decide +kernel
theorem gm_d_Code_writeSequence_12 : decode gm_b_Code_writeSequence 12 = .ok (.getfield 28, 3) := by decide +kernel
theorem gm_d_Code_writeSequence_15 : decode gm_b_Code_writeSequence 15 = .ok (.getfield 85, 3) := by decide +kernel
theorem gm_d_Code_writeSequence_18 : decode gm_b_Code_writeSequence 18 = .ok (.iload_n 1, 1) := by decide +kernel
theorem gm_d_Code_writeSequence_19 : decode gm_b_Code_writeSequence 19 = .ok (.iaload, 1) := by decide +kernel
theorem gm_d_Code_writeSequence_20 : decode gm_b_Code_writeSequence 20 = .ok (.if_icmp .ge 25, 3) := by decide +kernel
theorem gm_d_Code_writeSequence_23 : decode gm_b_Code_writeSequence 23 = .ok (.aload_n 0, 1) := by decide +kernel
theorem gm_d_Code_writeSequence_24 : decode gm_b_Code_writeSequence 24 = .ok (.aload_n 0, 1) := by decide +kernel
theorem gm_d_Code_writeSequence_25 : decode gm_b_Code_writeSequence 25 = .ok (.getfield 28, 3) := by decide +kernel
theorem gm_d_Code_writeSequence_28 : decode gm_b_Code_writeSequence 28 = .ok (.getfield 88, 3) := by decide +kernel
theorem gm_d_Code_writeSequence_31 : decode gm_b_Code_writeSequence 31 = .ok (.iload_n 3, 1) := by decide +kernel
theorem gm_d_Code_writeSequence_32 : decode gm_b_Code_writeSequence 32 = .ok (.iaload, 1) := by decide +kernel
theorem gm_d_Code_writeSequence_33 : decode gm_b_Code_writeSequence 33 = .ok (.iload_n 2, 1) := by decide +kernel
theorem gm_d_Code_writeSequence_34 : decode gm_b_Code_writeSequence 34 = .ok (.iconst 1, 1) := by decide +kernel
theorem gm_d_Code_writeSequence_35 : decode gm_b_Code_writeSequence 35 = .ok (.iadd, 1) := by decide +kernel
theorem gm_d_Code_writeSequence_36 : decode gm_b_Code_writeSequence 36 = .ok (.invokevirtual 44, 3) := by decide +kernel
theorem gm_d_Code_writeSequence_39 : decode gm_b_Code_writeSequence 39 = .ok (.iinc 3 1, 3) := by decide +kernel
theorem gm_d_Code_writeSequence_42 : decode gm_b_Code_writeSequence 42 = .ok (.goto (-32), 3) := by decide +kernel
theorem gm_d_Code_writeSequence_45 : decode gm_b_Code_writeSequence 45 = .ok (.return_, 1) := by decide +kernel
theorem gm_d_Code_writeChoice_0 : decode gm_b_Code_writeChoice 0 = .ok (.aload_n 0, 1) := by decide +kernel
theorem gm_d_Code_writeChoice_1 : decode gm_b_Code_writeChoice 1 = .ok (.getfield 24, 3) := by decide +kernel
theorem gm_d_Code_writeChoice_4 : decode gm_b_Code_writeChoice 4 = .ok (.istore_n 3, 1) := by decide +kernel
theorem gm_d_Code_writeChoice_5 : decode gm_b_Code_writeChoice 5 = .ok (.aload_n 0, 1) := by decide +kernel
theorem gm_d_Code_writeChoice_6 : decode gm_b_Code_writeChoice 6 = .ok (.getfield 28, 3) := by decide +kernel
theorem gm_d_Code_writeChoice_9 : decode gm_b_Code_writeChoice 9 = .ok (.getfield 85, 3) := by decide +kernel
theorem gm_d_Code_writeChoice_12 : decode gm_b_Code_writeChoice 12 = .ok (.iload_n 1, 1) := by decide +kernel
theorem gm_d_Code_writeChoice_13 : decode gm_b_Code_writeChoice 13 = .ok (.iaload, 1) := by decide +kernel
theorem gm_d_Code_writeChoice_14 : decode gm_b_Code_writeChoice 14 = .ok (.iconst 1, 1) := by decide +kernel
theorem gm_d_Code_writeChoice_15 : decode gm_b_Code_writeChoice 15 = .ok (.isub, 1) := by decide +kernel
theorem gm_d_Code_writeChoice_16 : decode gm_b_Code_writeChoice 16 = .ok (.istore 4, 2) := by decide +kernel
theorem gm_d_Code_writeChoice_18 : decode gm_b_Code_writeChoice 18 = .ok (.aload_n 0, 1) := by decide +kernel
theorem gm_d_Code_writeChoice_19 : decode gm_b_Code_writeChoice 19 = .ok (.getfield 28, 3) := by decide +kernel
theorem gm_d_Code_writeChoice_22 : decode gm_b_Code_writeChoice 22 = .ok (.getfield 82, 3) := by decide +kernel
theorem gm_d_Code_writeChoice_25 : decode gm_b_Code_writeChoice 25 = .ok (.iload_n 1, 1) := by decide +kernel
theorem gm_d_Code_writeChoice_26 : decode gm_b_Code_writeChoice 26 = .ok (.iaload, 1) := by decide +kernel
theorem gm_d_Code_writeChoice_27 : decode gm_b_Code_writeChoice 27 = .ok (.istore 5, 2) := by decide +kernel
theorem gm_d_Code_writeChoice_29 : decode gm_b_Code_writeChoice 29 = .ok (.iload 5, 2) := by decide +kernel
theorem gm_d_Code_writeChoice_31 : decode gm_b_Code_writeChoice 31 = .ok (.iload 4, 2) := by decide +kernel
theorem gm_d_Code_writeChoice_33 : decode gm_b_Code_writeChoice 33 = .ok (.if_icmp .gt 51, 3) := by decide +kernel
theorem gm_d_Code_writeChoice_36 : decode gm_b_Code_writeChoice 36 = .ok (.iload 5, 2) := by decide +kernel
theorem gm_d_Code_writeChoice_38 : decode gm_b_Code_writeChoice 38 = .ok (.iload 4, 2) := by decide +kernel
theorem gm_d_Code_writeChoice_40 : decode gm_b_Code_writeChoice 40 = .ok (.if_icmp .ge 21, 3) := by decide +kernel
theorem gm_d_Code_writeChoice_43 : decode gm_b_Code_writeChoice 43 = .ok (.aload_n 0, 1) := by decide +kernel
theorem gm_d_Code_writeChoice_44 : decode gm_b_Code_writeChoice 44 = .ok (.aload_n 0, 1) := by decide +kernel
theorem gm_d_Code_writeChoice_45 : decode gm_b_Code_writeChoice 45 = .ok (.getfield 28, 3) := by decide +kernel
theorem gm_d_Code_writeChoice_48 : decode gm_b_Code_writeChoice 48 = .ok (.getfield 88, 3) := by decide +kernel
theorem gm_d_Code_writeChoice_51 : decode gm_b_Code_writeChoice 51 = .ok (.iload 5, 2) := by decide +kernel
theorem gm_d_Code_writeChoice_53 : decode gm_b_Code_writeChoice 53 = .ok (.iaload, 1) := by decide +kernel
theorem gm_d_Code_writeChoice_54 : decode gm_b_Code_writeChoice 54 = .ok (.iload_n 2, 1) := by decide +kernel
theorem gm_d_Code_writeChoice_55 : decode gm_b_Code_writeChoice 55 = .ok (.invokevirtual 91, 3) := by decide +kernel
theorem gm_d_Code_writeChoice_58 : decode gm_b_Code_writeChoice 58 = .ok (.goto 20, 3) := by decide +kernel
theorem gm_d_Code_writeChoice_61 : decode gm_b_Code_writeChoice 61 = .ok (.aload_n 0, 1) := by decide +kernel
theorem gm_d_Code_writeChoice_62 : decode gm_b_Code_writeChoice 62 = .ok (.aload_n 0, 1) := by decide +kernel
theorem gm_d_Code_writeChoice_63 : decode gm_b_Code_writeChoice 63 = .ok (.getfield 28, 3) := by decide +kernel
theorem gm_d_Code_writeChoice_66 : decode gm_b_Code_writeChoice 66 = .ok (.getfield 88, 3) := by decide +kernel
theorem gm_d_Code_writeChoice_69 : decode gm_b_Code_writeChoice 69 = .ok (.iload 5, 2) := by decide +kernel
theorem gm_d_Code_writeChoice_71 : decode gm_b_Code_writeChoice 71 = .ok (.iaload, 1) := by decide +kernel
theorem gm_d_Code_writeChoice_72 : decode gm_b_Code_writeChoice 72 = .ok (.iload_n 2, 1) := by decide +kernel
theorem gm_d_Code_writeChoice_73 : decode gm_b_Code_writeChoice 73 = .ok (.iconst 1, 1) := by decide +kernel
theorem gm_d_Code_writeChoice_74 : decode gm_b_Code_writeChoice 74 = .ok (.iadd, 1) := by decide +kernel
theorem gm_d_Code_writeChoice_75 : decode gm_b_Code_writeChoice 75 = .ok (.invokevirtual 44, 3) := by decide +kernel
theorem gm_d_Code_writeChoice_78 : decode gm_b_Code_writeChoice 78 = .ok (.iinc 5 1, 3) := by decide +kernel
theorem gm_d_Code_writeChoice_81 : decode gm_b_Code_writeChoice 81 = .ok (.goto (-52), 3) := by decide +kernel
theorem gm_d_Code_writeChoice_84 : decode gm_b_Code_writeChoice 84 = .ok (.aload_n 0, 1) := by decide +kernel
theorem gm_d_Code_writeChoice_85 : decode gm_b_Code_writeChoice 85 = .ok (.iload_n 3, 1) := by decide +kernel
theorem gm_d_Code_writeChoice_86 : decode gm_b_Code_writeChoice 86 = .ok (.invokevirtual 94, 3) := by decide +kernel
theorem gm_d_Code_writeChoice_89 : decode gm_b_Code_writeChoice 89 = .ok (.return_, 1) := by decide +kernel
theorem gm_d_Code_writeNode_0 : decode gm_b_Code_writeNode 0 = .ok (.iload_n 2, 1) := by decide +kernel
theorem gm_d_Code_writeNode_1 : decode gm_b_Code_writeNode 1 = .ok (.bipush 40, 2) := by decide +kernel
theorem gm_d_Code_writeNode_3 : decode gm_b_Code_writeNode 3 = .ok (.if_icmp .lt 4, 3) := by decide +kernel
theorem gm_d_Code_writeNode_6 : decode gm_b_Code_writeNode 6 = .ok (.return_, 1) := by decide +kernel
theorem gm_d_Code_writeNode_7 : decode gm_b_Code_writeNode 7 = .ok (.aload_n 0, 1) := by decide +kernel
theorem gm_d_Code_writeNode_8 : decode gm_b_Code_writeNode 8 = .ok (.getfield 28, 3) := by decide +kernel
theorem gm_d_Code_writeNode_11 : decode gm_b_Code_writeNode 11 = .ok (.iload_n 1, 1) := by decide +kernel
theorem gm_d_Code_writeNode_12 : decode gm_b_Code_writeNode 12 = .ok (.invokevirtual 48, 3) := by decide +kernel
theorem gm_d_Code_writeNode_15 : decode gm_b_Code_writeNode 15 = .ok (.istore_n 3, 1) := by decide +kernel
theorem gm_d_Code_writeNode_16 : decode gm_b_Code_writeNode 16 = .ok (.aload_n 0, 1) := by decide +kernel
theorem gm_d_Code_writeNode_17 : decode gm_b_Code_writeNode 17 = .ok (.getfield 28, 3) := by decide +kernel
theorem gm_d_Code_writeNode_20 : decode gm_b_Code_writeNode 20 = .ok (.getfield 52, 3) := by decide +kernel
theorem gm_d_Code_writeNode_23 : decode gm_b_Code_writeNode 23 = .ok (.iload_n 1, 1) := by decide +kernel
theorem gm_d_Code_writeNode_24 : decode gm_b_Code_writeNode 24 = .ok (.iaload, 1) := by decide +kernel
theorem gm_d_Code_writeNode_25 : decode gm_b_Code_writeNode 25 = .ok (.tableswitch 177 0 9 #[55, 65, 91, 100, 109, 118, 128, 164, 177, 150], 55) := by decide +kernel
theorem gm_d_Code_writeNode_80 : decode gm_b_Code_writeNode 80 = .ok (.aload_n 0, 1) := by decide +kernel
theorem gm_d_Code_writeNode_81 : decode gm_b_Code_writeNode 81 = .ok (.iconst 0, 1) := by decide +kernel
theorem gm_d_Code_writeNode_82 : decode gm_b_Code_writeNode 82 = .ok (.iload_n 1, 1) := by decide +kernel
theorem gm_d_Code_writeNode_83 : decode gm_b_Code_writeNode 83 = .ok (.invokevirtual 37, 3) := by decide +kernel
theorem gm_d_Code_writeNode_86 : decode gm_b_Code_writeNode 86 = .ok (.pop, 1) := by decide +kernel
theorem gm_d_Code_writeNode_87 : decode gm_b_Code_writeNode 87 = .ok (.goto 128, 3) := by decide +kernel
theorem gm_d_Code_writeNode_90 : decode gm_b_Code_writeNode 90 = .ok (.aload_n 0, 1) := by decide +kernel
theorem gm_d_Code_writeNode_91 : decode gm_b_Code_writeNode 91 = .ok (.bipush 8, 2) := by decide +kernel
theorem gm_d_Code_writeNode_93 : decode gm_b_Code_writeNode 93 = .ok (.aload_n 0, 1) := by decide +kernel
theorem gm_d_Code_writeNode_94 : decode gm_b_Code_writeNode 94 = .ok (.getfield 28, 3) := by decide +kernel
theorem gm_d_Code_writeNode_97 : decode gm_b_Code_writeNode 97 = .ok (.aload_n 0, 1) := by decide +kernel
theorem gm_d_Code_writeNode_98 : decode gm_b_Code_writeNode 98 = .ok (.getfield 28, 3) := by decide +kernel
theorem gm_d_Code_writeNode_101 : decode gm_b_Code_writeNode 101 = .ok (.getfield 55, 3) := by decide +kernel
theorem gm_d_Code_writeNode_104 : decode gm_b_Code_writeNode 104 = .ok (.iload_n 1, 1) := by decide +kernel
theorem gm_d_Code_writeNode_105 : decode gm_b_Code_writeNode 105 = .ok (.iaload, 1) := by decide +kernel
theorem gm_d_Code_writeNode_106 : decode gm_b_Code_writeNode 106 = .ok (.invokevirtual 58, 3) := by decide +kernel
theorem gm_d_Code_writeNode_109 : decode gm_b_Code_writeNode 109 = .ok (.invokevirtual 37, 3) := by decide +kernel
theorem gm_d_Code_writeNode_112 : decode gm_b_Code_writeNode 112 = .ok (.pop, 1) := by decide +kernel
theorem gm_d_Code_writeNode_113 : decode gm_b_Code_writeNode 113 = .ok (.goto 102, 3) := by decide +kernel
theorem gm_d_Code_writeNode_116 : decode gm_b_Code_writeNode 116 = .ok (.aload_n 0, 1) := by decide +kernel
theorem gm_d_Code_writeNode_117 : decode gm_b_Code_writeNode 117 = .ok (.iload_n 1, 1) := by decide +kernel
theorem gm_d_Code_writeNode_118 : decode gm_b_Code_writeNode 118 = .ok (.iload_n 2, 1) := by decide +kernel
theorem gm_d_Code_writeNode_119 : decode gm_b_Code_writeNode 119 = .ok (.invokevirtual 61, 3) := by decide +kernel
theorem gm_d_Code_writeNode_122 : decode gm_b_Code_writeNode 122 = .ok (.goto 93, 3) := by decide +kernel
theorem gm_d_Code_writeNode_125 : decode gm_b_Code_writeNode 125 = .ok (.aload_n 0, 1) := by decide +kernel
theorem gm_d_Code_writeNode_126 : decode gm_b_Code_writeNode 126 = .ok (.iload_n 1, 1) := by decide +kernel
theorem gm_d_Code_writeNode_127 : decode gm_b_Code_writeNode 127 = .ok (.iload_n 2, 1) := by decide +kernel
theorem gm_d_Code_writeNode_128 : decode gm_b_Code_writeNode 128 = .ok (.invokevirtual 64, 3) := by decide +kernel
theorem gm_d_Code_writeNode_131 : decode gm_b_Code_writeNode 131 = .ok (.goto 84, 3) := by decide +kernel
theorem gm_d_Code_writeNode_134 : decode gm_b_Code_writeNode 134 = .ok (.aload_n 0, 1) := by decide +kernel
theorem gm_d_Code_writeNode_135 : decode gm_b_Code_writeNode 135 = .ok (.iload_n 3, 1) := by decide +kernel
theorem gm_d_Code_writeNode_136 : decode gm_b_Code_writeNode 136 = .ok (.iload_n 2, 1) := by decide +kernel
theorem gm_d_Code_writeNode_137 : decode gm_b_Code_writeNode 137 = .ok (.invokevirtual 67, 3) := by decide +kernel
theorem gm_d_Code_writeNode_140 : decode gm_b_Code_writeNode 140 = .ok (.goto 75, 3) := by decide +kernel
theorem gm_d_Code_writeNode_143 : decode gm_b_Code_writeNode 143 = .ok (.aload_n 0, 1) := by decide +kernel
theorem gm_d_Code_writeNode_144 : decode gm_b_Code_writeNode 144 = .ok (.iload_n 3, 1) := by decide +kernel
theorem gm_d_Code_writeNode_145 : decode gm_b_Code_writeNode 145 = .ok (.iload_n 2, 1) := by decide +kernel
theorem gm_d_Code_writeNode_146 : decode gm_b_Code_writeNode 146 = .ok (.iconst (-1), 1) := by decide +kernel
theorem gm_d_Code_writeNode_147 : decode gm_b_Code_writeNode 147 = .ok (.invokevirtual 70, 3) := by decide +kernel
theorem gm_d_Code_writeNode_150 : decode gm_b_Code_writeNode 150 = .ok (.goto 65, 3) := by decide +kernel
theorem gm_d_Code_writeNode_153 : decode gm_b_Code_writeNode 153 = .ok (.aload_n 0, 1) := by decide +kernel
theorem gm_d_Code_writeNode_154 : decode gm_b_Code_writeNode 154 = .ok (.iconst 3, 1) := by decide +kernel
theorem gm_d_Code_writeNode_155 : decode gm_b_Code_writeNode 155 = .ok (.iconst (-1), 1) := by decide +kernel
theorem gm_d_Code_writeNode_156 : decode gm_b_Code_writeNode 156 = .ok (.invokevirtual 37, 3) := by decide +kernel
theorem gm_d_Code_writeNode_159 : decode gm_b_Code_writeNode 159 = .ok (.pop, 1) := by decide +kernel
theorem gm_d_Code_writeNode_160 : decode gm_b_Code_writeNode 160 = .ok (.aload_n 0, 1) := by decide +kernel
theorem gm_d_Code_writeNode_161 : decode gm_b_Code_writeNode 161 = .ok (.iload_n 3, 1) := by decide +kernel
theorem gm_d_Code_writeNode_162 : decode gm_b_Code_writeNode 162 = .ok (.iload_n 2, 1) := by decide +kernel
theorem gm_d_Code_writeNode_163 : decode gm_b_Code_writeNode 163 = .ok (.aload_n 0, 1) := by decide +kernel
theorem gm_d_Code_writeNode_164 : decode gm_b_Code_writeNode 164 = .ok (.iconst 4, 1) := by decide +kernel
theorem gm_d_Code_writeNode_165 : decode gm_b_Code_writeNode 165 = .ok (.iconst (-1), 1) := by decide +kernel
theorem gm_d_Code_writeNode_166 : decode gm_b_Code_writeNode 166 = .ok (.invokevirtual 37, 3) := by decide +kernel
theorem gm_d_Code_writeNode_169 : decode gm_b_Code_writeNode 169 = .ok (.invokevirtual 70, 3) := by decide +kernel
theorem gm_d_Code_writeNode_172 : decode gm_b_Code_writeNode 172 = .ok (.goto 43, 3) := by decide +kernel
theorem gm_d_Code_writeNode_175 : decode gm_b_Code_writeNode 175 = .ok (.aload_n 0, 1) := by decide +kernel
theorem gm_d_Code_writeNode_176 : decode gm_b_Code_writeNode 176 = .ok (.bipush 10, 2) := by decide +kernel
theorem gm_d_Code_writeNode_178 : decode gm_b_Code_writeNode 178 = .ok (.iload_n 3, 1) := by decide +kernel
theorem gm_d_Code_writeNode_179 : decode gm_b_Code_writeNode 179 = .ok (.bipush 11, 2) := by decide +kernel
theorem gm_d_Code_writeNode_181 : decode gm_b_Code_writeNode 181 = .ok (.iload_n 2, 1) := by decide +kernel
theorem gm_d_Code_writeNode_182 : decode gm_b_Code_writeNode 182 = .ok (.invokevirtual 74, 3) := by decide +kernel
theorem gm_d_Code_writeNode_185 : decode gm_b_Code_writeNode 185 = .ok (.pop, 1) := by decide +kernel
theorem gm_d_Code_writeNode_186 : decode gm_b_Code_writeNode 186 = .ok (.goto 29, 3) := by decide +kernel
theorem gm_d_Code_writeNode_189 : decode gm_b_Code_writeNode 189 = .ok (.aload_n 0, 1) := by decide +kernel
theorem gm_d_Code_writeNode_190 : decode gm_b_Code_writeNode 190 = .ok (.iconst 2, 1) := by decide +kernel
theorem gm_d_Code_writeNode_191 : decode gm_b_Code_writeNode 191 = .ok (.iload_n 3, 1) := by decide +kernel
theorem gm_d_Code_writeNode_192 : decode gm_b_Code_writeNode 192 = .ok (.bipush 6, 2) := by decide +kernel
theorem gm_d_Code_writeNode_194 : decode gm_b_Code_writeNode 194 = .ok (.iload_n 2, 1) := by decide +kernel
theorem gm_d_Code_writeNode_195 : decode gm_b_Code_writeNode 195 = .ok (.invokevirtual 74, 3) := by decide +kernel
theorem gm_d_Code_writeNode_198 : decode gm_b_Code_writeNode 198 = .ok (.pop, 1) := by decide +kernel
theorem gm_d_Code_writeNode_199 : decode gm_b_Code_writeNode 199 = .ok (.goto 16, 3) := by decide +kernel
theorem gm_d_Code_writeNode_202 : decode gm_b_Code_writeNode 202 = .ok (.aload_n 0, 1) := by decide +kernel
theorem gm_d_Code_writeNode_203 : decode gm_b_Code_writeNode 203 = .ok (.aload_n 0, 1) := by decide +kernel
theorem gm_d_Code_writeNode_204 : decode gm_b_Code_writeNode 204 = .ok (.iconst 2, 1) := by decide +kernel
theorem gm_d_Code_writeNode_205 : decode gm_b_Code_writeNode 205 = .ok (.iload_n 3, 1) := by decide +kernel
theorem gm_d_Code_writeNode_206 : decode gm_b_Code_writeNode 206 = .ok (.bipush 7, 2) := by decide +kernel
theorem gm_d_Code_writeNode_208 : decode gm_b_Code_writeNode 208 = .ok (.iload_n 2, 1) := by decide +kernel
theorem gm_d_Code_writeNode_209 : decode gm_b_Code_writeNode 209 = .ok (.invokevirtual 74, 3) := by decide +kernel
theorem gm_d_Code_writeNode_212 : decode gm_b_Code_writeNode 212 = .ok (.invokevirtual 78, 3) := by decide +kernel
theorem gm_d_Code_writeNode_215 : decode gm_b_Code_writeNode 215 = .ok (.return_, 1) := by decide +kernel
theorem gm_d_Code_write_0 : decode gm_b_Code_write 0 = .ok (.aload_n 0, 1) := by decide +kernel
theorem gm_d_Code_write_1 : decode gm_b_Code_write 1 = .ok (.iconst 0, 1) := by decide +kernel
theorem gm_d_Code_write_2 : decode gm_b_Code_write 2 = .ok (.putfield 24, 3) := by decide +kernel
theorem gm_d_Code_write_5 : decode gm_b_Code_write 5 = .ok (.aload_n 0, 1) := by decide +kernel
theorem gm_d_Code_write_6 : decode gm_b_Code_write 6 = .ok (.bipush 8, 2) := by decide +kernel
theorem gm_d_Code_write_8 : decode gm_b_Code_write 8 = .ok (.iconst 0, 1) := by decide +kernel
theorem gm_d_Code_write_9 : decode gm_b_Code_write 9 = .ok (.invokevirtual 37, 3) := by decide +kernel
theorem gm_d_Code_write_12 : decode gm_b_Code_write 12 = .ok (.pop, 1) := by decide +kernel
theorem gm_d_Code_write_13 : decode gm_b_Code_write 13 = .ok (.aload_n 0, 1) := by decide +kernel
theorem gm_d_Code_write_14 : decode gm_b_Code_write 14 = .ok (.bipush 12, 2) := by decide +kernel
theorem gm_d_Code_write_16 : decode gm_b_Code_write 16 = .ok (.iconst (-1), 1) := by decide +kernel
theorem gm_d_Code_write_17 : decode gm_b_Code_write 17 = .ok (.invokevirtual 37, 3) := by decide +kernel
theorem gm_d_Code_write_20 : decode gm_b_Code_write 20 = .ok (.pop, 1) := by decide +kernel
theorem gm_d_Code_write_21 : decode gm_b_Code_write 21 = .ok (.iconst 0, 1) := by decide +kernel
theorem gm_d_Code_write_22 : decode gm_b_Code_write 22 = .ok (.istore_n 1, 1) := by decide +kernel
theorem gm_d_Code_write_23 : decode gm_b_Code_write 23 = .ok (.iload_n 1, 1) := by decide +kernel
theorem gm_d_Code_write_24 : decode gm_b_Code_write 24 = .ok (.aload_n 0, 1) := by decide +kernel
theorem gm_d_Code_write_25 : decode gm_b_Code_write 25 = .ok (.getfield 28, 3) := by decide +kernel
theorem gm_d_Code_write_28 : decode gm_b_Code_write 28 = .ok (.getfield 32, 3) := by decide +kernel
theorem gm_d_Code_write_31 : decode gm_b_Code_write 31 = .ok (.if_icmp .ge 41, 3) := by decide +kernel
theorem gm_d_Code_write_34 : decode gm_b_Code_write 34 = .ok (.aload_n 0, 1) := by decide +kernel
theorem gm_d_Code_write_35 : decode gm_b_Code_write 35 = .ok (.getfield 21, 3) := by decide +kernel
theorem gm_d_Code_write_38 : decode gm_b_Code_write 38 = .ok (.iload_n 1, 1) := by decide +kernel
theorem gm_d_Code_write_39 : decode gm_b_Code_write 39 = .ok (.aload_n 0, 1) := by decide +kernel
theorem gm_d_Code_write_40 : decode gm_b_Code_write 40 = .ok (.getfield 24, 3) := by decide +kernel
theorem gm_d_Code_write_43 : decode gm_b_Code_write 43 = .ok (.iastore, 1) := by decide +kernel
theorem gm_d_Code_write_44 : decode gm_b_Code_write 44 = .ok (.aload_n 0, 1) := by decide +kernel
theorem gm_d_Code_write_45 : decode gm_b_Code_write 45 = .ok (.aload_n 0, 1) := by decide +kernel
theorem gm_d_Code_write_46 : decode gm_b_Code_write 46 = .ok (.getfield 28, 3) := by decide +kernel
theorem gm_d_Code_write_49 : decode gm_b_Code_write 49 = .ok (.getfield 41, 3) := by decide +kernel
theorem gm_d_Code_write_52 : decode gm_b_Code_write 52 = .ok (.iload_n 1, 1) := by decide +kernel
theorem gm_d_Code_write_53 : decode gm_b_Code_write 53 = .ok (.iaload, 1) := by decide +kernel
theorem gm_d_Code_write_54 : decode gm_b_Code_write 54 = .ok (.iconst 0, 1) := by decide +kernel
theorem gm_d_Code_write_55 : decode gm_b_Code_write 55 = .ok (.invokevirtual 44, 3) := by decide +kernel
theorem gm_d_Code_write_58 : decode gm_b_Code_write 58 = .ok (.aload_n 0, 1) := by decide +kernel
theorem gm_d_Code_write_59 : decode gm_b_Code_write 59 = .ok (.bipush 9, 2) := by decide +kernel
theorem gm_d_Code_write_61 : decode gm_b_Code_write 61 = .ok (.iconst (-1), 1) := by decide +kernel
theorem gm_d_Code_write_62 : decode gm_b_Code_write 62 = .ok (.invokevirtual 37, 3) := by decide +kernel
theorem gm_d_Code_write_65 : decode gm_b_Code_write 65 = .ok (.pop, 1) := by decide +kernel
theorem gm_d_Code_write_66 : decode gm_b_Code_write 66 = .ok (.iinc 1 1, 3) := by decide +kernel
theorem gm_d_Code_write_69 : decode gm_b_Code_write 69 = .ok (.goto (-46), 3) := by decide +kernel
theorem gm_d_Code_write_72 : decode gm_b_Code_write 72 = .ok (.return_, 1) := by decide +kernel
