theorem gm_d_Captures_add_0 : decode gm_b_Captures_add 0 = .ok (.aload_n 0, 1) := by decide +kernel
theorem gm_d_Captures_add_1 : decode gm_b_Captures_add 1 = .ok (.getfield 9, 3) := by decide +kernel
theorem gm_d_Captures_add_4 : decode gm_b_Captures_add 4 = .ok (.aload_n 0, 1) := by decide +kernel
theorem gm_d_Captures_add_5 : decode gm_b_Captures_add 5 = .ok (.getfield 15, 3) := by decide +kernel
theorem gm_d_Captures_add_8 : decode gm_b_Captures_add 8 = .ok (.arraylength, 1) := by decide +kernel
theorem gm_d_Captures_add_9 : decode gm_b_Captures_add 9 = .ok (.if_icmp .ge 33, 3) := by decide +kernel
theorem gm_d_Captures_add_12 : decode gm_b_Captures_add 12 = .ok (.aload_n 0, 1) := by decide +kernel
theorem gm_d_Captures_add_13 : decode gm_b_Captures_add 13 = .ok (.getfield 15, 3) := by decide +kernel
theorem gm_d_Captures_add_16 : decode gm_b_Captures_add 16 = .ok (.aload_n 0, 1) := by decide +kernel
theorem gm_d_Captures_add_17 : decode gm_b_Captures_add 17 = .ok (.getfield 9, 3) := by decide +kernel
theorem gm_d_Captures_add_20 : decode gm_b_Captures_add 20 = .ok (.iload_n 1, 1) := by decide +kernel
theorem gm_d_Captures_add_21 : decode gm_b_Captures_add 21 = .ok (.iastore, 1) := by decide +kernel
theorem gm_d_Captures_add_22 : decode gm_b_Captures_add 22 = .ok (.aload_n 0, 1) := by decide +kernel
theorem gm_d_Captures_add_23 : decode gm_b_Captures_add 23 = .ok (.getfield 19, 3) := by decide +kernel
theorem gm_d_Captures_add_26 : decode gm_b_Captures_add 26 = .ok (.aload_n 0, 1) := by decide +kernel
theorem gm_d_Captures_add_27 : decode gm_b_Captures_add 27 = .ok (.getfield 9, 3) := by decide +kernel
theorem gm_d_Captures_add_30 : decode gm_b_Captures_add 30 = .ok (.iload_n 2, 1) := by decide +kernel
theorem gm_d_Captures_add_31 : decode gm_b_Captures_add 31 = .ok (.iastore, 1) := by decide +kernel
theorem gm_d_Captures_add_32 : decode gm_b_Captures_add 32 = .ok (.aload_n 0, 1) := by decide +kernel
theorem gm_d_Captures_add_33 : decode gm_b_Captures_add 33 = .ok (.dup, 1) := by decide +kernel
theorem gm_d_Captures_add_34 : decode gm_b_Captures_add 34 = .ok (.getfield 9, 3) := by decide +kernel
theorem gm_d_Captures_add_37 : decode gm_b_Captures_add 37 = .ok (.iconst 1, 1) := by decide +kernel
theorem gm_d_Captures_add_38 : decode gm_b_Captures_add 38 = .ok (.iadd, 1) := by decide +kernel
theorem gm_d_Captures_add_39 : decode gm_b_Captures_add 39 = .ok (.putfield 9, 3) := by decide +kernel
theorem gm_d_Captures_add_42 : decode gm_b_Captures_add 42 = .ok (.return_, 1) := by decide +kernel
theorem gm_d_Captures_closeLatest_0 : decode gm_b_Captures_closeLatest 0 = .ok (.aload_n 0, 1) := by decide +kernel
theorem gm_d_Captures_closeLatest_1 : decode gm_b_Captures_closeLatest 1 = .ok (.getfield 9, 3) := by decide +kernel
theorem gm_d_Captures_closeLatest_4 : decode gm_b_Captures_closeLatest 4 = .ok (.iconst 1, 1) := by decide +kernel
theorem gm_d_Captures_closeLatest_5 : decode gm_b_Captures_closeLatest 5 = .ok (.isub, 1) := by decide +kernel
theorem gm_d_Captures_closeLatest_6 : decode gm_b_Captures_closeLatest 6 = .ok (.istore_n 2, 1) := by decide +kernel
theorem gm_d_Captures_closeLatest_7 : decode gm_b_Captures_closeLatest 7 = .ok (.iload_n 2, 1) := by decide +kernel
theorem gm_d_Captures_closeLatest_8 : decode gm_b_Captures_closeLatest 8 = .ok (.ifCond .lt 27, 3) := by decide +kernel
theorem gm_d_Captures_closeLatest_11 : decode gm_b_Captures_closeLatest 11 = .ok (.aload_n 0, 1) := by decide +kernel
theorem gm_d_Captures_closeLatest_12 : decode gm_b_Captures_closeLatest 12 = .ok (.getfield 19, 3) := by decide +kernel
theorem gm_d_Captures_closeLatest_15 : decode gm_b_Captures_closeLatest 15 = .ok (.iload_n 2, 1) := by decide +kernel
theorem gm_d_Captures_closeLatest_16 : decode gm_b_Captures_closeLatest 16 = .ok (.iaload, 1) := by decide +kernel
theorem gm_d_Captures_closeLatest_17 : decode gm_b_Captures_closeLatest 17 = .ok (.iconst (-1), 1) := by decide +kernel
theorem gm_d_Captures_closeLatest_18 : decode gm_b_Captures_closeLatest 18 = .ok (.if_icmp .ne 11, 3) := by decide +kernel
theorem gm_d_Captures_closeLatest_21 : decode gm_b_Captures_closeLatest 21 = .ok (.aload_n 0, 1) := by decide +kernel
theorem gm_d_Captures_closeLatest_22 : decode gm_b_Captures_closeLatest 22 = .ok (.getfield 19, 3) := by decide +kernel
theorem gm_d_Captures_closeLatest_25 : decode gm_b_Captures_closeLatest 25 = .ok (.iload_n 2, 1) := by decide +kernel
theorem gm_d_Captures_closeLatest_26 : decode gm_b_Captures_closeLatest 26 = .ok (.iload_n 1, 1) := by decide +kernel
theorem gm_d_Captures_closeLatest_27 : decode gm_b_Captures_closeLatest 27 = .ok (.iastore, 1) := by decide +kernel
theorem gm_d_Captures_closeLatest_28 : decode gm_b_Captures_closeLatest 28 = .ok (.return_, 1) := by decide +kernel
theorem gm_d_Captures_closeLatest_29 : decode gm_b_Captures_closeLatest 29 = .ok (.iinc 2 (-1), 3) := by decide +kernel
theorem gm_d_Captures_closeLatest_32 : decode gm_b_Captures_closeLatest 32 = .ok (.goto (-25), 3) := by decide +kernel
theorem gm_d_Captures_closeLatest_35 : decode gm_b_Captures_closeLatest 35 = .ok (.return_, 1) := by decide +kernel
theorem gm_d_Captures_cutTo_0 : decode gm_b_Captures_cutTo 0 = .ok (.iload_n 1, 1) := by decide +kernel
theorem gm_d_Captures_cutTo_1 : decode gm_b_Captures_cutTo 1 = .ok (.ifCond .lt 16, 3) := by decide +kernel
theorem gm_d_Captures_cutTo_4 : decode gm_b_Captures_cutTo 4 = .ok (.iload_n 1, 1) := by decide +kernel
theorem gm_d_Captures_cutTo_5 : decode gm_b_Captures_cutTo 5 = .ok (.aload_n 0, 1) := by decide +kernel
theorem gm_d_Captures_cutTo_6 : decode gm_b_Captures_cutTo 6 = .ok (.getfield 9, 3) := by decide +kernel
theorem gm_d_Captures_cutTo_9 : decode gm_b_Captures_cutTo 9 = .ok (.if_icmp .ge 8, 3) := by decide +kernel
theorem gm_d_Captures_cutTo_12 : decode gm_b_Captures_cutTo 12 = .ok (.aload_n 0, 1) := by decide +kernel
theorem gm_d_Captures_cutTo_13 : decode gm_b_Captures_cutTo 13 = .ok (.iload_n 1, 1) := by decide +kernel
theorem gm_d_Captures_cutTo_14 : decode gm_b_Captures_cutTo 14 = .ok (.putfield 9, 3) := by decide +kernel
theorem gm_d_Captures_cutTo_17 : decode gm_b_Captures_cutTo 17 = .ok (.return_, 1) := by decide +kernel
theorem gm_d_Captures_outerOf_0 : decode gm_b_Captures_outerOf 0 = .ok (.iload_n 1, 1) := by decide +kernel
theorem gm_d_Captures_outerOf_1 : decode gm_b_Captures_outerOf 1 = .ok (.iconst 1, 1) := by decide +kernel
theorem gm_d_Captures_outerOf_2 : decode gm_b_Captures_outerOf 2 = .ok (.isub, 1) := by decide +kernel
theorem gm_d_Captures_outerOf_3 : decode gm_b_Captures_outerOf 3 = .ok (.istore_n 2, 1) := by decide +kernel
theorem gm_d_Captures_outerOf_4 : decode gm_b_Captures_outerOf 4 = .ok (.iload_n 2, 1) := by decide +kernel
theorem gm_d_Captures_outerOf_5 : decode gm_b_Captures_outerOf 5 = .ok (.ifCond .lt 26, 3) := by decide +kernel
theorem gm_d_Captures_outerOf_8 : decode gm_b_Captures_outerOf 8 = .ok (.aload_n 0, 1) := by decide +kernel
theorem gm_d_Captures_outerOf_9 : decode gm_b_Captures_outerOf 9 = .ok (.getfield 19, 3) := by decide +kernel
theorem gm_d_Captures_outerOf_12 : decode gm_b_Captures_outerOf 12 = .ok (.iload_n 2, 1) := by decide +kernel
theorem gm_d_Captures_outerOf_13 : decode gm_b_Captures_outerOf 13 = .ok (.iaload, 1) := by decide +kernel
theorem gm_d_Captures_outerOf_14 : decode gm_b_Captures_outerOf 14 = .ok (.aload_n 0, 1) := by decide +kernel
theorem gm_d_Captures_outerOf_15 : decode gm_b_Captures_outerOf 15 = .ok (.getfield 19, 3) := by decide +kernel
theorem gm_d_Captures_outerOf_18 : decode gm_b_Captures_outerOf 18 = .ok (.iload_n 1, 1) := by decide +kernel
theorem gm_d_Captures_outerOf_19 : decode gm_b_Captures_outerOf 19 = .ok (.iaload, 1) := by decide +kernel
theorem gm_d_Captures_outerOf_20 : decode gm_b_Captures_outerOf 20 = .ok (.if_icmp .lt 5, 3) := by decide +kernel
theorem gm_d_Captures_outerOf_23 : decode gm_b_Captures_outerOf 23 = .ok (.iload_n 2, 1) := by decide +kernel
theorem gm_d_Captures_outerOf_24 : decode gm_b_Captures_outerOf 24 = .ok (.ireturn, 1) := by decide +kernel
theorem gm_d_Captures_outerOf_25 : decode gm_b_Captures_outerOf 25 = .ok (.iinc 2 (-1), 3) := by decide +kernel
theorem gm_d_Captures_outerOf_28 : decode gm_b_Captures_outerOf 28 = .ok (.goto (-24), 3) := by decide +kernel
theorem gm_d_Captures_outerOf_31 : decode gm_b_Captures_outerOf 31 = .ok (.iconst (-1), 1) := by decide +kernel
theorem gm_d_Captures_outerOf_32 : decode gm_b_Captures_outerOf 32 = .ok (.ireturn, 1) := by decide +kernel
theorem gm_d_Captures_addFrom_0 : decode gm_b_Captures_addFrom 0 = .ok (.iload_n 2, 1) := by decide +kernel
theorem gm_d_Captures_addFrom_1 : decode gm_b_Captures_addFrom 1 = .ok (.istore 4, 2) := by decide +kernel
theorem gm_d_Captures_addFrom_3 : decode gm_b_Captures_addFrom 3 = .ok (.iload 4, 2) := by decide +kernel
theorem gm_d_Captures_addFrom_5 : decode gm_b_Captures_addFrom 5 = .ok (.iload_n 3, 1) := by decide +kernel
theorem gm_d_Captures_addFrom_6 : decode gm_b_Captures_addFrom 6 = .ok (.if_icmp .ge 41, 3) := by decide +kernel
theorem gm_d_Captures_addFrom_9 : decode gm_b_Captures_addFrom 9 = .ok (.iload 4, 2) := by decide +kernel
theorem gm_d_Captures_addFrom_11 : decode gm_b_Captures_addFrom 11 = .ok (.ifCond .lt 36, 3) := by decide +kernel
theorem gm_d_Captures_addFrom_14 : decode gm_b_Captures_addFrom 14 = .ok (.iload 4, 2) := by decide +kernel
theorem gm_d_Captures_addFrom_16 : decode gm_b_Captures_addFrom 16 = .ok (.aload_n 1, 1) := by decide +kernel
theorem gm_d_Captures_addFrom_17 : decode gm_b_Captures_addFrom 17 = .ok (.getfield 9, 3) := by decide +kernel
theorem gm_d_Captures_addFrom_20 : decode gm_b_Captures_addFrom 20 = .ok (.if_icmp .ge 27, 3) := by decide +kernel
theorem gm_d_Captures_addFrom_23 : decode gm_b_Captures_addFrom 23 = .ok (.aload_n 0, 1) := by decide +kernel
theorem gm_d_Captures_addFrom_24 : decode gm_b_Captures_addFrom 24 = .ok (.aload_n 1, 1) := by decide +kernel
theorem gm_d_Captures_addFrom_25 : decode gm_b_Captures_addFrom 25 = .ok (.getfield 15, 3) := by decide +kernel
theorem gm_d_Captures_addFrom_28 : decode gm_b_Captures_addFrom 28 = .ok (.iload 4, 2) := by decide +kernel
theorem gm_d_Captures_addFrom_30 : decode gm_b_Captures_addFrom 30 = .ok (.iaload, 1) := by decide +kernel
theorem gm_d_Captures_addFrom_31 : decode gm_b_Captures_addFrom 31 = .ok (.aload_n 1, 1) := by decide +kernel
theorem gm_d_Captures_addFrom_32 : decode gm_b_Captures_addFrom 32 = .ok (.getfield 19, 3) := by decide +kernel
theorem gm_d_Captures_addFrom_35 : decode gm_b_Captures_addFrom 35 = .ok (.iload 4, 2) := by decide +kernel
theorem gm_d_Captures_addFrom_37 : decode gm_b_Captures_addFrom 37 = .ok (.iaload, 1) := by decide +kernel
theorem gm_d_Captures_addFrom_38 : decode gm_b_Captures_addFrom 38 = .ok (.invokevirtual 22, 3) := by decide +kernel
theorem gm_d_Captures_addFrom_41 : decode gm_b_Captures_addFrom 41 = .ok (.iinc 4 1, 3) := by decide +kernel
theorem gm_d_Captures_addFrom_44 : decode gm_b_Captures_addFrom 44 = .ok (.goto (-41), 3) := by decide +kernel
theorem gm_d_Captures_addFrom_47 : decode gm_b_Captures_addFrom 47 = .ok (.return_, 1) := by decide +kernel
theorem gm_d_Memory_slotOf_0 : decode gm_b_Memory_slotOf 0 = .ok (.iload_n 0, 1) := by decide +kernel
theorem gm_d_Memory_slotOf_1 : decode gm_b_Memory_slotOf 1 = .ok (.ifCond .lt 23, 3) := by decide +kernel
theorem gm_d_Memory_slotOf_4 : decode gm_b_Memory_slotOf 4 = .ok (.iload_n 0, 1) := by decide +kernel
theorem gm_d_Memory_slotOf_5 : decode gm_b_Memory_slotOf 5 = .ok (.bipush 8, 2) := by decide +kernel
theorem gm_d_Memory_slotOf_7 : decode gm_b_Memory_slotOf 7 = .ok (.if_icmp .ge 17, 3) := by decide +kernel
theorem gm_d_Memory_slotOf_10 : decode gm_b_Memory_slotOf 10 = .ok (.iload_n 1, 1) := by decide +kernel
theorem gm_d_Memory_slotOf_11 : decode gm_b_Memory_slotOf 11 = .ok (.ifCond .lt 13, 3) := by decide +kernel
theorem gm_d_Memory_slotOf_14 : decode gm_b_Memory_slotOf 14 = .ok (.iload_n 1, 1) := by decide +kernel
theorem gm_d_Memory_slotOf_15 : decode gm_b_Memory_slotOf 15 = .ok (.bipush 11, 2) := by decide +kernel
theorem gm_d_Memory_slotOf_17 : decode gm_b_Memory_slotOf 17 = .ok (.if_icmp .ge 7, 3) := by decide +kernel
theorem gm_d_Memory_slotOf_20 : decode gm_b_Memory_slotOf 20 = .ok (.iconst 1, 1) := by decide +kernel
theorem gm_d_Memory_slotOf_21 : decode gm_b_Memory_slotOf 21 = .ok (.goto 4, 3) := by decide +kernel
theorem gm_d_Memory_slotOf_24 : decode gm_b_Memory_slotOf 24 = .ok (.iconst 0, 1) := by decide +kernel
theorem gm_d_Memory_slotOf_25 : decode gm_b_Memory_slotOf 25 = .ok (.istore_n 2, 1) := by decide +kernel
theorem gm_d_Memory_slotOf_26 : decode gm_b_Memory_slotOf 26 = .ok (.iload_n 2, 1) := by decide +kernel
theorem gm_d_Memory_slotOf_27 : decode gm_b_Memory_slotOf 27 = .ok (.ifCond .eq 12, 3) := by decide +kernel
theorem gm_d_Memory_slotOf_30 : decode gm_b_Memory_slotOf 30 = .ok (.iload_n 0, 1) := by decide +kernel
theorem gm_d_Memory_slotOf_31 : decode gm_b_Memory_slotOf 31 = .ok (.bipush 11, 2) := by decide +kernel
theorem gm_d_Memory_slotOf_33 : decode gm_b_Memory_slotOf 33 = .ok (.imul, 1) := by decide +kernel
theorem gm_d_Memory_slotOf_34 : decode gm_b_Memory_slotOf 34 = .ok (.iload_n 1, 1) := by decide +kernel
theorem gm_d_Memory_slotOf_35 : decode gm_b_Memory_slotOf 35 = .ok (.iadd, 1) := by decide +kernel
theorem gm_d_Memory_slotOf_36 : decode gm_b_Memory_slotOf 36 = .ok (.goto 4, 3) := by decide +kernel
theorem gm_d_Memory_slotOf_39 : decode gm_b_Memory_slotOf 39 = .ok (.iconst (-1), 1) := by decide +kernel
theorem gm_d_Memory_slotOf_40 : decode gm_b_Memory_slotOf 40 = .ok (.ireturn, 1) := by decide +kernel
theorem gm_d_Memory_result_0 : decode gm_b_Memory_result 0 = .ok (.iload_n 1, 1) := by decide +kernel
theorem gm_d_Memory_result_1 : decode gm_b_Memory_result 1 = .ok (.iload_n 2, 1) := by decide +kernel
theorem gm_d_Memory_result_2 : decode gm_b_Memory_result 2 = .ok (.invokestatic 40, 3) := by decide +kernel
theorem gm_d_Memory_result_5 : decode gm_b_Memory_result 5 = .ok (.istore_n 3, 1) := by decide +kernel
theorem gm_d_Memory_result_6 : decode gm_b_Memory_result 6 = .ok (.iload_n 3, 1) := by decide +kernel
theorem gm_d_Memory_result_7 : decode gm_b_Memory_result 7 = .ok (.iconst (-1), 1) := by decide +kernel
theorem gm_d_Memory_result_8 : decode gm_b_Memory_result 8 = .ok (.if_icmp .ne 7, 3) := by decide +kernel
theorem gm_d_Memory_result_11 : decode gm_b_Memory_result 11 = .ok (.iconst (-1), 1) := by decide +kernel
theorem gm_d_Memory_result_12 : decode gm_b_Memory_result 12 = .ok (.goto 9, 3) := by decide +kernel
theorem gm_d_Memory_result_15 : decode gm_b_Memory_result 15 = .ok (.aload_n 0, 1) := by decide +kernel
theorem gm_d_Memory_result_16 : decode gm_b_Memory_result 16 = .ok (.getfield 9, 3) := by decide +kernel
theorem gm_d_Memory_result_19 : decode gm_b_Memory_result 19 = .ok (.iload_n 3, 1) := by decide +kernel
theorem gm_d_Memory_result_20 : decode gm_b_Memory_result 20 = .ok (.iaload, 1) := by decide +kernel
theorem gm_d_Memory_result_21 : decode gm_b_Memory_result 21 = .ok (.ireturn, 1) := by decide +kernel
theorem gm_d_Memory_keepFailure_0 : decode gm_b_Memory_keepFailure 0 = .ok (.iload_n 1, 1) := by decide +kernel
theorem gm_d_Memory_keepFailure_1 : decode gm_b_Memory_keepFailure 1 = .ok (.iload_n 2, 1) := by decide +kernel
theorem gm_d_Memory_keepFailure_2 : decode gm_b_Memory_keepFailure 2 = .ok (.invokestatic 40, 3) := by decide +kernel
theorem gm_d_Memory_keepFailure_5 : decode gm_b_Memory_keepFailure 5 = .ok (.istore_n 3, 1) := by decide +kernel
theorem gm_d_Memory_keepFailure_6 : decode gm_b_Memory_keepFailure 6 = .ok (.iload_n 3, 1) := by decide +kernel
theorem gm_d_Memory_keepFailure_7 : decode gm_b_Memory_keepFailure 7 = .ok (.iconst (-1), 1) := by decide +kernel
theorem gm_d_Memory_keepFailure_8 : decode gm_b_Memory_keepFailure 8 = .ok (.if_icmp .eq 10, 3) := by decide +kernel
theorem gm_d_Memory_keepFailure_11 : decode gm_b_Memory_keepFailure 11 = .ok (.aload_n 0, 1) := by decide +kernel
theorem gm_d_Memory_keepFailure_12 : decode gm_b_Memory_keepFailure 12 = .ok (.getfield 9, 3) := by decide +kernel
theorem gm_d_Memory_keepFailure_15 : decode gm_b_Memory_keepFailure 15 = .ok (.iload_n 3, 1) := by decide +kernel
theorem gm_d_Memory_keepFailure_16 : decode gm_b_Memory_keepFailure 16 = .ok (.iconst (-1), 1) := by decide +kernel
theorem gm_d_Memory_keepFailure_17 : decode gm_b_Memory_keepFailure 17 = .ok (.iastore, 1) := by decide +kernel
theorem gm_d_Memory_keepFailure_18 : decode gm_b_Memory_keepFailure 18 = .ok (.return_, 1) := by decide +kernel
theorem gm_d_Memory_keepMatch_0 : decode gm_b_Memory_keepMatch 0 = .ok (.iload_n 1, 1) := by decide +kernel
theorem gm_d_Memory_keepMatch_1 : decode gm_b_Memory_keepMatch 1 = .ok (.iload_n 2, 1) := by decide +kernel
theorem gm_d_Memory_keepMatch_2 : decode gm_b_Memory_keepMatch 2 = .ok (.invokestatic 40, 3) := by decide +kernel
theorem gm_d_Memory_keepMatch_5 : decode gm_b_Memory_keepMatch 5 = .ok (.istore 6, 2) := by decide +kernel
theorem gm_d_Memory_keepMatch_7 : decode gm_b_Memory_keepMatch 7 = .ok (.iload 6, 2) := by decide +kernel
theorem gm_d_Memory_keepMatch_9 : decode gm_b_Memory_keepMatch 9 = .ok (.iconst (-1), 1) := by decide +kernel
theorem gm_d_Memory_keepMatch_10 : decode gm_b_Memory_keepMatch 10 = .ok (.if_icmp .eq 55, 3) := by decide +kernel
theorem gm_d_Memory_keepMatch_13 : decode gm_b_Memory_keepMatch 13 = .ok (.aload_n 0, 1) := by decide +kernel
theorem gm_d_Memory_keepMatch_14 : decode gm_b_Memory_keepMatch 14 = .ok (.getfield 9, 3) := by decide +kernel
theorem gm_d_Memory_keepMatch_17 : decode gm_b_Memory_keepMatch 17 = .ok (.iload 6, 2) := by decide +kernel
theorem gm_d_Memory_keepMatch_19 : decode gm_b_Memory_keepMatch 19 = .ok (.iload_n 3, 1) := by decide +kernel
theorem gm_d_Memory_keepMatch_20 : decode gm_b_Memory_keepMatch 20 = .ok (.iastore, 1) := by decide +kernel
theorem gm_d_Memory_keepMatch_21 : decode gm_b_Memory_keepMatch 21 = .ok (.aload_n 0, 1) := by decide +kernel
theorem gm_d_Memory_keepMatch_22 : decode gm_b_Memory_keepMatch 22 = .ok (.getfield 15, 3) := by decide +kernel
theorem gm_d_Memory_keepMatch_25 : decode gm_b_Memory_keepMatch 25 = .ok (.iload 6, 2) := by decide +kernel
theorem gm_d_Memory_keepMatch_27 : decode gm_b_Memory_keepMatch 27 = .ok (.aload_n 0, 1) := by decide +kernel
theorem gm_d_Memory_keepMatch_28 : decode gm_b_Memory_keepMatch 28 = .ok (.getfield 26, 3) := by decide +kernel
theorem gm_d_Memory_keepMatch_31 : decode gm_b_Memory_keepMatch 31 = .ok (.getfield 36, 3) := by decide +kernel
theorem gm_d_Memory_keepMatch_34 : decode gm_b_Memory_keepMatch 34 = .ok (.iastore, 1) := by decide +kernel
theorem gm_d_Memory_keepMatch_35 : decode gm_b_Memory_keepMatch 35 = .ok (.aload_n 0, 1) := by decide +kernel
theorem gm_d_Memory_keepMatch_36 : decode gm_b_Memory_keepMatch 36 = .ok (.getfield 26, 3) := by decide +kernel
theorem gm_d_Memory_keepMatch_39 : decode gm_b_Memory_keepMatch 39 = .ok (.aload 4, 2) := by decide +kernel
theorem gm_d_Memory_keepMatch_41 : decode gm_b_Memory_keepMatch 41 = .ok (.iload 5, 2) := by decide +kernel
theorem gm_d_Memory_keepMatch_43 : decode gm_b_Memory_keepMatch 43 = .ok (.aload 4, 2) := by decide +kernel
theorem gm_d_Memory_keepMatch_45 : decode gm_b_Memory_keepMatch 45 = .ok (.getfield 36, 3) := by decide +kernel
theorem gm_d_Memory_keepMatch_48 : decode gm_b_Memory_keepMatch 48 = .ok (.invokevirtual 44, 3) := by decide +kernel
theorem gm_d_Memory_keepMatch_51 : decode gm_b_Memory_keepMatch 51 = .ok (.aload_n 0, 1) := by decide +kernel
theorem gm_d_Memory_keepMatch_52 : decode gm_b_Memory_keepMatch 52 = .ok (.getfield 18, 3) := by decide +kernel
theorem gm_d_Memory_keepMatch_55 : decode gm_b_Memory_keepMatch 55 = .ok (.iload 6, 2) := by decide +kernel
theorem gm_d_Memory_keepMatch_57 : decode gm_b_Memory_keepMatch 57 = .ok (.aload_n 0, 1) := by decide +kernel
theorem gm_d_Memory_keepMatch_58 : decode gm_b_Memory_keepMatch 58 = .ok (.getfield 26, 3) := by decide +kernel
theorem gm_d_Memory_keepMatch_61 : decode gm_b_Memory_keepMatch 61 = .ok (.getfield 36, 3) := by decide +kernel
theorem gm_d_Memory_keepMatch_64 : decode gm_b_Memory_keepMatch 64 = .ok (.iastore, 1) := by decide +kernel
theorem gm_d_Memory_keepMatch_65 : decode gm_b_Memory_keepMatch 65 = .ok (.return_, 1) := by decide +kernel
theorem gm_d_Memory_recallCaptures_0 : decode gm_b_Memory_recallCaptures 0 = .ok (.iload_n 1, 1) := by decide +kernel
theorem gm_d_Memory_recallCaptures_1 : decode gm_b_Memory_recallCaptures 1 = .ok (.iload_n 2, 1) := by decide +kernel
theorem gm_d_Memory_recallCaptures_2 : decode gm_b_Memory_recallCaptures 2 = .ok (.invokestatic 40, 3) := by decide +kernel
theorem gm_d_Memory_recallCaptures_5 : decode gm_b_Memory_recallCaptures 5 = .ok (.istore 4, 2) := by decide +kernel
theorem gm_d_Memory_recallCaptures_7 : decode gm_b_Memory_recallCaptures 7 = .ok (.iload 4, 2) := by decide +kernel
theorem gm_d_Memory_recallCaptures_9 : decode gm_b_Memory_recallCaptures 9 = .ok (.iconst (-1), 1) := by decide +kernel
theorem gm_d_Memory_recallCaptures_10 : decode gm_b_Memory_recallCaptures 10 = .ok (.if_icmp .eq 25, 3) := by decide +kernel
theorem gm_d_Memory_recallCaptures_13 : decode gm_b_Memory_recallCaptures 13 = .ok (.aload_n 3, 1) := by decide +kernel
theorem gm_d_Memory_recallCaptures_14 : decode gm_b_Memory_recallCaptures 14 = .ok (.aload_n 0, 1) := by decide +kernel
theorem gm_d_Memory_recallCaptures_15 : decode gm_b_Memory_recallCaptures 15 = .ok (.getfield 26, 3) := by decide +kernel
theorem gm_d_Memory_recallCaptures_18 : decode gm_b_Memory_recallCaptures 18 = .ok (.aload_n 0, 1) := by decide +kernel
theorem gm_d_Memory_recallCaptures_19 : decode gm_b_Memory_recallCaptures 19 = .ok (.getfield 15, 3) := by decide +kernel
theorem gm_d_Memory_recallCaptures_22 : decode gm_b_Memory_recallCaptures 22 = .ok (.iload 4, 2) := by decide +kernel
theorem gm_d_Memory_recallCaptures_24 : decode gm_b_Memory_recallCaptures 24 = .ok (.iaload, 1) := by decide +kernel
theorem gm_d_Memory_recallCaptures_25 : decode gm_b_Memory_recallCaptures 25 = .ok (.aload_n 0, 1) := by decide +kernel
theorem gm_d_Memory_recallCaptures_26 : decode gm_b_Memory_recallCaptures 26 = .ok (.getfield 18, 3) := by decide +kernel
theorem gm_d_Memory_recallCaptures_29 : decode gm_b_Memory_recallCaptures 29 = .ok (.iload 4, 2) := by decide +kernel
theorem gm_d_Memory_recallCaptures_31 : decode gm_b_Memory_recallCaptures 31 = .ok (.iaload, 1) := by decide +kernel
theorem gm_d_Memory_recallCaptures_32 : decode gm_b_Memory_recallCaptures 32 = .ok (.invokevirtual 44, 3) := by decide +kernel
theorem gm_d_Memory_recallCaptures_35 : decode gm_b_Memory_recallCaptures 35 = .ok (.return_, 1) := by decide +kernel
theorem gm_d_Judge_hidesTheRest_0 : decode gm_b_Judge_hidesTheRest 0 = .ok (.aload_n 0, 1) := by decide +kernel
theorem gm_d_Judge_hidesTheRest_1 : decode gm_b_Judge_hidesTheRest 1 = .ok (.getfield 9, 3) := by decide +kernel
theorem gm_d_Judge_hidesTheRest_4 : decode gm_b_Judge_hidesTheRest 4 = .ok (.getfield 36, 3) := by decide +kernel
theorem gm_d_Judge_hidesTheRest_7 : decode gm_b_Judge_hidesTheRest 7 = .ok (.iload_n 1, 1) := by decide +kernel
theorem gm_d_Judge_hidesTheRest_8 : decode gm_b_Judge_hidesTheRest 8 = .ok (.iaload, 1) := by decide +kernel
theorem gm_d_Judge_hidesTheRest_9 : decode gm_b_Judge_hidesTheRest 9 = .ok (.iconst 2, 1) := by decide +kernel
theorem gm_d_Judge_hidesTheRest_10 : decode gm_b_Judge_hidesTheRest 10 = .ok (.if_icmp .ne 19, 3) := by decide +kernel
theorem gm_d_Judge_hidesTheRest_13 : decode gm_b_Judge_hidesTheRest 13 = .ok (.aload_n 0, 1) := by decide +kernel
theorem gm_d_Judge_hidesTheRest_14 : decode gm_b_Judge_hidesTheRest 14 = .ok (.getfield 9, 3) := by decide +kernel
theorem gm_d_Judge_hidesTheRest_17 : decode gm_b_Judge_hidesTheRest 17 = .ok (.getfield 57, 3) := by decide +kernel
theorem gm_d_Judge_hidesTheRest_20 : decode gm_b_Judge_hidesTheRest 20 = .ok (.iload_n 2, 1) := by decide +kernel
theorem gm_d_Judge_hidesTheRest_21 : decode gm_b_Judge_hidesTheRest 21 = .ok (.baload, 1) := by decide +kernel
theorem gm_d_Judge_hidesTheRest_22 : decode gm_b_Judge_hidesTheRest 22 = .ok (.ifCond .ne 7, 3) := by decide +kernel
theorem gm_d_Judge_hidesTheRest_25 : decode gm_b_Judge_hidesTheRest 25 = .ok (.iconst 1, 1) := by decide +kernel
theorem gm_d_Judge_hidesTheRest_26 : decode gm_b_Judge_hidesTheRest 26 = .ok (.goto 4, 3) := by decide +kernel
theorem gm_d_Judge_hidesTheRest_29 : decode gm_b_Judge_hidesTheRest 29 = .ok (.iconst 0, 1) := by decide +kernel
theorem gm_d_Judge_hidesTheRest_30 : decode gm_b_Judge_hidesTheRest 30 = .ok (.ireturn, 1) := by decide +kernel
theorem gm_d_Judge_rootBehind_0 : decode gm_b_Judge_rootBehind 0 = .ok (.aload_n 0, 1) := by decide +kernel
theorem gm_d_Judge_rootBehind_1 : decode gm_b_Judge_rootBehind 1 = .ok (.getfield 9, 3) := by decide +kernel
theorem gm_d_Judge_rootBehind_4 : decode gm_b_Judge_rootBehind 4 = .ok (.aload_n 0, 1) := by decide +kernel
theorem gm_d_Judge_rootBehind_5 : decode gm_b_Judge_rootBehind 5 = .ok (.getfield 9, 3) := by decide +kernel
theorem gm_d_Judge_rootBehind_8 : decode gm_b_Judge_rootBehind 8 = .ok (.getfield 39, 3) := by decide +kernel
theorem gm_d_Judge_rootBehind_11 : decode gm_b_Judge_rootBehind 11 = .ok (.iload_n 1, 1) := by decide +kernel
theorem gm_d_Judge_rootBehind_12 : decode gm_b_Judge_rootBehind 12 = .ok (.iaload, 1) := by decide +kernel
theorem gm_d_Judge_rootBehind_13 : decode gm_b_Judge_rootBehind 13 = .ok (.invokevirtual 107, 3) := by decide +kernel
theorem gm_d_Judge_rootBehind_16 : decode gm_b_Judge_rootBehind 16 = .ok (.istore_n 2, 1) := by decide +kernel
theorem gm_d_Judge_rootBehind_17 : decode gm_b_Judge_rootBehind 17 = .ok (.iload_n 2, 1) := by decide +kernel
theorem gm_d_Judge_rootBehind_18 : decode gm_b_Judge_rootBehind 18 = .ok (.iconst (-1), 1) := by decide +kernel
theorem gm_d_Judge_rootBehind_19 : decode gm_b_Judge_rootBehind 19 = .ok (.if_icmp .ne 7, 3) := by decide +kernel
theorem gm_d_Judge_rootBehind_22 : decode gm_b_Judge_rootBehind 22 = .ok (.iconst 0, 1) := by decide +kernel
theorem gm_d_Judge_rootBehind_23 : decode gm_b_Judge_rootBehind 23 = .ok (.goto 4, 3) := by decide +kernel
theorem gm_d_Judge_rootBehind_26 : decode gm_b_Judge_rootBehind 26 = .ok (.iload_n 2, 1) := by decide +kernel
theorem gm_d_Judge_rootBehind_27 : decode gm_b_Judge_rootBehind 27 = .ok (.ireturn, 1) := by decide +kernel
theorem gm_d_Judge_addHead_0 : decode gm_b_Judge_addHead 0 = .ok (.aload_n 0, 1) := by decide +kernel
theorem gm_d_Judge_addHead_1 : decode gm_b_Judge_addHead 1 = .ok (.getfield 9, 3) := by decide +kernel
theorem gm_d_Judge_addHead_4 : decode gm_b_Judge_addHead 4 = .ok (.getfield 100, 3) := by decide +kernel
theorem gm_d_Judge_addHead_7 : decode gm_b_Judge_addHead 7 = .ok (.iload_n 1, 1) := by decide +kernel
theorem gm_d_Judge_addHead_8 : decode gm_b_Judge_addHead 8 = .ok (.dup2, 1) := by decide +kernel
theorem gm_d_Judge_addHead_9 : decode gm_b_Judge_addHead 9 = .ok (.laload, 1) := by decide +kernel
theorem gm_d_Judge_addHead_10 : decode gm_b_Judge_addHead 10 = .ok (.aload_n 0, 1) := by decide +kernel
theorem gm_d_Judge_addHead_11 : decode gm_b_Judge_addHead 11 = .ok (.getfield 9, 3) := by decide +kernel
theorem gm_d_Judge_addHead_14 : decode gm_b_Judge_addHead 14 = .ok (.getfield 100, 3) := by decide +kernel
theorem gm_d_Judge_addHead_17 : decode gm_b_Judge_addHead 17 = .ok (.iload_n 2, 1) := by decide +kernel
theorem gm_d_Judge_addHead_18 : decode gm_b_Judge_addHead 18 = .ok (.laload, 1) := by decide +kernel
theorem gm_d_Judge_addHead_19 : decode gm_b_Judge_addHead 19 = .ok (.lor, 1) := by decide +kernel
theorem gm_d_Judge_addHead_20 : decode gm_b_Judge_addHead 20 = .ok (.lastore, 1) := by decide +kernel
theorem gm_d_Judge_addHead_21 : decode gm_b_Judge_addHead 21 = .ok (.aload_n 0, 1) := by decide +kernel
theorem gm_d_Judge_addHead_22 : decode gm_b_Judge_addHead 22 = .ok (.getfield 9, 3) := by decide +kernel
theorem gm_d_Judge_addHead_25 : decode gm_b_Judge_addHead 25 = .ok (.getfield 104, 3) := by decide +kernel
theorem gm_d_Judge_addHead_28 : decode gm_b_Judge_addHead 28 = .ok (.iload_n 1, 1) := by decide +kernel
theorem gm_d_Judge_addHead_29 : decode gm_b_Judge_addHead 29 = .ok (.dup2, 1) := by decide +kernel
theorem gm_d_Judge_addHead_30 : decode gm_b_Judge_addHead 30 = .ok (.laload, 1) := by decide +kernel
theorem gm_d_Judge_addHead_31 : decode gm_b_Judge_addHead 31 = .ok (.aload_n 0, 1) := by decide +kernel
theorem gm_d_Judge_addHead_32 : decode gm_b_Judge_addHead 32 = .ok (.getfield 9, 3) := by decide +kernel
theorem gm_d_Judge_addHead_35 : decode gm_b_Judge_addHead 35 = .ok (.getfield 104, 3) := by decide +kernel
theorem gm_d_Judge_addHead_38 : decode gm_b_Judge_addHead 38 = .ok (.iload_n 2, 1) := by decide +kernel
theorem gm_d_Judge_addHead_39 : decode gm_b_Judge_addHead 39 = .ok (.laload, 1) := by decide +kernel
theorem gm_d_Judge_addHead_40 : decode gm_b_Judge_addHead 40 = .ok (.lor, 1) := by decide +kernel
theorem gm_d_Judge_addHead_41 : decode gm_b_Judge_addHead 41 = .ok (.lastore, 1) := by decide +kernel
theorem gm_d_Judge_addHead_42 : decode gm_b_Judge_addHead 42 = .ok (.return_, 1) := by decide +kernel
theorem gm_d_Judge_settleHead_0 : decode gm_b_Judge_settleHead 0 = .ok (.aload_n 0, 1) := by decide +kernel
theorem gm_d_Judge_settleHead_1 : decode gm_b_Judge_settleHead 1 = .ok (.getfield 9, 3) := by decide +kernel
theorem gm_d_Judge_settleHead_4 : decode gm_b_Judge_settleHead 4 = .ok (.getfield 36, 3) := by decide +kernel
theorem gm_d_Judge_settleHead_7 : decode gm_b_Judge_settleHead 7 = .ok (.iload_n 1, 1) := by decide +kernel
theorem gm_d_Judge_settleHead_8 : decode gm_b_Judge_settleHead 8 = .ok (.iaload, 1) := by decide +kernel
theorem gm_d_Judge_settleHead_9 : decode gm_b_Judge_settleHead 9 = .ok (.istore_n 2, 1) := by decide +kernel
theorem gm_d_Judge_settleHead_10 : decode gm_b_Judge_settleHead 10 = .ok (.iload_n 2, 1) := by decide +kernel
theorem gm_d_Judge_settleHead_11 : decode gm_b_Judge_settleHead 11 = .ok (.iconst 1, 1) := by decide +kernel
theorem gm_d_Judge_settleHead_12 : decode gm_b_Judge_settleHead 12 = .ok (.if_icmp .ne 13, 3) := by decide +kernel
theorem gm_d_Judge_settleHead_15 : decode gm_b_Judge_settleHead 15 = .ok (.aload_n 0, 1) := by decide +kernel
theorem gm_d_Judge_settleHead_16 : decode gm_b_Judge_settleHead 16 = .ok (.iload_n 1, 1) := by decide +kernel
theorem gm_d_Judge_settleHead_17 : decode gm_b_Judge_settleHead 17 = .ok (.aload_n 0, 1) := by decide +kernel
theorem gm_d_Judge_settleHead_18 : decode gm_b_Judge_settleHead 18 = .ok (.iload_n 1, 1) := by decide +kernel
theorem gm_d_Judge_settleHead_19 : decode gm_b_Judge_settleHead 19 = .ok (.invokevirtual 70, 3) := by decide +kernel
theorem gm_d_Judge_settleHead_22 : decode gm_b_Judge_settleHead 22 = .ok (.invokevirtual 96, 3) := by decide +kernel
theorem gm_d_Judge_settleHead_25 : decode gm_b_Judge_settleHead 25 = .ok (.iload_n 2, 1) := by decide +kernel
theorem gm_d_Judge_settleHead_26 : decode gm_b_Judge_settleHead 26 = .ok (.ifCond .eq 20, 3) := by decide +kernel
theorem gm_d_Judge_settleHead_29 : decode gm_b_Judge_settleHead 29 = .ok (.iload_n 2, 1) := by decide +kernel
theorem gm_d_Judge_settleHead_30 : decode gm_b_Judge_settleHead 30 = .ok (.iconst 1, 1) := by decide +kernel
theorem gm_d_Judge_settleHead_31 : decode gm_b_Judge_settleHead 31 = .ok (.if_icmp .eq 15, 3) := by decide +kernel
theorem gm_d_Judge_settleHead_34 : decode gm_b_Judge_settleHead 34 = .ok (.iload_n 2, 1) := by decide +kernel
theorem gm_d_Judge_settleHead_35 : decode gm_b_Judge_settleHead 35 = .ok (.bipush 7, 2) := by decide +kernel
theorem gm_d_Judge_settleHead_37 : decode gm_b_Judge_settleHead 37 = .ok (.if_icmp .eq 9, 3) := by decide +kernel
theorem gm_d_Judge_settleHead_40 : decode gm_b_Judge_settleHead 40 = .ok (.iload_n 2, 1) := by decide +kernel
theorem gm_d_Judge_settleHead_41 : decode gm_b_Judge_settleHead 41 = .ok (.bipush 8, 2) := by decide +kernel
theorem gm_d_Judge_settleHead_43 : decode gm_b_Judge_settleHead 43 = .ok (.if_icmp .ne 4, 3) := by decide +kernel
theorem gm_d_Judge_settleHead_46 : decode gm_b_Judge_settleHead 46 = .ok (.return_, 1) := by decide +kernel
theorem gm_d_Judge_settleHead_47 : decode gm_b_Judge_settleHead 47 = .ok (.aload_n 0, 1) := by decide +kernel
theorem gm_d_Judge_settleHead_48 : decode gm_b_Judge_settleHead 48 = .ok (.getfield 9, 3) := by decide +kernel
theorem gm_d_Judge_settleHead_51 : decode gm_b_Judge_settleHead 51 = .ok (.getfield 79, 3) := by decide +kernel
theorem gm_d_Judge_settleHead_54 : decode gm_b_Judge_settleHead 54 = .ok (.iload_n 1, 1) := by decide +kernel
theorem gm_d_Judge_settleHead_55 : decode gm_b_Judge_settleHead 55 = .ok (.iaload, 1) := by decide +kernel
theorem gm_d_Judge_settleHead_56 : decode gm_b_Judge_settleHead 56 = .ok (.istore_n 3, 1) := by decide +kernel
theorem gm_d_Judge_settleHead_57 : decode gm_b_Judge_settleHead 57 = .ok (.iload_n 3, 1) := by decide +kernel
theorem gm_d_Judge_settleHead_58 : decode gm_b_Judge_settleHead 58 = .ok (.aload_n 0, 1) := by decide +kernel
theorem gm_d_Judge_settleHead_59 : decode gm_b_Judge_settleHead 59 = .ok (.getfield 9, 3) := by decide +kernel
theorem gm_d_Judge_settleHead_62 : decode gm_b_Judge_settleHead 62 = .ok (.getfield 76, 3) := by decide +kernel
theorem gm_d_Judge_settleHead_65 : decode gm_b_Judge_settleHead 65 = .ok (.iload_n 1, 1) := by decide +kernel
theorem gm_d_Judge_settleHead_66 : decode gm_b_Judge_settleHead 66 = .ok (.iaload, 1) := by decide +kernel
theorem gm_d_Judge_settleHead_67 : decode gm_b_Judge_settleHead 67 = .ok (.if_icmp .ge 41, 3) := by decide +kernel
theorem gm_d_Judge_settleHead_70 : decode gm_b_Judge_settleHead 70 = .ok (.aload_n 0, 1) := by decide +kernel
theorem gm_d_Judge_settleHead_71 : decode gm_b_Judge_settleHead 71 = .ok (.iload_n 1, 1) := by decide +kernel
theorem gm_d_Judge_settleHead_72 : decode gm_b_Judge_settleHead 72 = .ok (.aload_n 0, 1) := by decide +kernel
theorem gm_d_Judge_settleHead_73 : decode gm_b_Judge_settleHead 73 = .ok (.getfield 9, 3) := by decide +kernel
theorem gm_d_Judge_settleHead_76 : decode gm_b_Judge_settleHead 76 = .ok (.getfield 82, 3) := by decide +kernel
theorem gm_d_Judge_settleHead_79 : decode gm_b_Judge_settleHead 79 = .ok (.iload_n 3, 1) := by decide +kernel
theorem gm_d_Judge_settleHead_80 : decode gm_b_Judge_settleHead 80 = .ok (.iaload, 1) := by decide +kernel
theorem gm_d_Judge_settleHead_81 : decode gm_b_Judge_settleHead 81 = .ok (.invokevirtual 96, 3) := by decide +kernel
theorem gm_d_Judge_settleHead_84 : decode gm_b_Judge_settleHead 84 = .ok (.aload_n 0, 1) := by decide +kernel
theorem gm_d_Judge_settleHead_85 : decode gm_b_Judge_settleHead 85 = .ok (.iload_n 1, 1) := by decide +kernel
theorem gm_d_Judge_settleHead_86 : decode gm_b_Judge_settleHead 86 = .ok (.aload_n 0, 1) := by decide +kernel
theorem gm_d_Judge_settleHead_87 : decode gm_b_Judge_settleHead 87 = .ok (.getfield 9, 3) := by decide +kernel
theorem gm_d_Judge_settleHead_90 : decode gm_b_Judge_settleHead 90 = .ok (.getfield 82, 3) := by decide +kernel
theorem gm_d_Judge_settleHead_93 : decode gm_b_Judge_settleHead 93 = .ok (.iload_n 3, 1) := by decide +kernel
theorem gm_d_Judge_settleHead_94 : decode gm_b_Judge_settleHead 94 = .ok (.iaload, 1) := by decide +kernel
theorem gm_d_Judge_settleHead_95 : decode gm_b_Judge_settleHead 95 = .ok (.invokevirtual 88, 3) := by decide +kernel
theorem gm_d_Judge_settleHead_98 : decode gm_b_Judge_settleHead 98 = .ok (.ifCond .eq 4, 3) := by decide +kernel
theorem gm_d_Judge_settleHead_101 : decode gm_b_Judge_settleHead 101 = .ok (.return_, 1) := by decide +kernel
theorem gm_d_Judge_settleHead_102 : decode gm_b_Judge_settleHead 102 = .ok (.iinc 3 1, 3) := by decide +kernel
theorem gm_d_Judge_settleHead_105 : decode gm_b_Judge_settleHead 105 = .ok (.goto (-48), 3) := by decide +kernel
theorem gm_d_Judge_settleHead_108 : decode gm_b_Judge_settleHead 108 = .ok (.return_, 1) := by decide +kernel
theorem gm_d_Judge_emptyParts_0 : decode gm_b_Judge_emptyParts 0 = .ok (.iconst 0, 1) := by decide +kernel
theorem gm_d_Judge_emptyParts_1 : decode gm_b_Judge_emptyParts 1 = .ok (.istore_n 2, 1) := by decide +kernel
theorem gm_d_Judge_emptyParts_2 : decode gm_b_Judge_emptyParts 2 = .ok (.aload_n 0, 1) := by decide +kernel
theorem gm_d_Judge_emptyParts_3 : decode gm_b_Judge_emptyParts 3 = .ok (.getfield 9, 3) := by decide +kernel
theorem gm_d_Judge_emptyParts_6 : decode gm_b_Judge_emptyParts 6 = .ok (.getfield 79, 3) := by decide +kernel
theorem gm_d_Judge_emptyParts_9 : decode gm_b_Judge_emptyParts 9 = .ok (.iload_n 1, 1) := by decide +kernel
theorem gm_d_Judge_emptyParts_10 : decode gm_b_Judge_emptyParts 10 = .ok (.iaload, 1) := by decide +kernel
theorem gm_d_Judge_emptyParts_11 : decode gm_b_Judge_emptyParts 11 = .ok (.istore_n 3, 1) := by decide +kernel
theorem gm_d_Judge_emptyParts_12 : decode gm_b_Judge_emptyParts 12 = .ok (.iload_n 3, 1) := by decide +kernel
theorem gm_d_Judge_emptyParts_13 : decode gm_b_Judge_emptyParts 13 = .ok (.aload_n 0, 1) := by decide +kernel
theorem gm_d_Judge_emptyParts_14 : decode gm_b_Judge_emptyParts 14 = .ok (.getfield 9, 3) := by decide +kernel
theorem gm_d_Judge_emptyParts_17 : decode gm_b_Judge_emptyParts 17 = .ok (.getfield 76, 3) := by decide +kernel
theorem gm_d_Judge_emptyParts_20 : decode gm_b_Judge_emptyParts 20 = .ok (.iload_n 1, 1) := by decide +kernel
theorem gm_d_Judge_emptyParts_21 : decode gm_b_Judge_emptyParts 21 = .ok (.iaload, 1) := by decide +kernel
theorem gm_d_Judge_emptyParts_22 : decode gm_b_Judge_emptyParts 22 = .ok (.if_icmp .ge 32, 3) := by decide +kernel
theorem gm_d_Judge_emptyParts_25 : decode gm_b_Judge_emptyParts 25 = .ok (.aload_n 0, 1) := by decide +kernel
theorem gm_d_Judge_emptyParts_26 : decode gm_b_Judge_emptyParts 26 = .ok (.getfield 9, 3) := by decide +kernel
theorem gm_d_Judge_emptyParts_29 : decode gm_b_Judge_emptyParts 29 = .ok (.getfield 57, 3) := by decide +kernel
theorem gm_d_Judge_emptyParts_32 : decode gm_b_Judge_emptyParts 32 = .ok (.aload_n 0, 1) := by decide +kernel
theorem gm_d_Judge_emptyParts_33 : decode gm_b_Judge_emptyParts 33 = .ok (.getfield 9, 3) := by decide +kernel
theorem gm_d_Judge_emptyParts_36 : decode gm_b_Judge_emptyParts 36 = .ok (.getfield 82, 3) := by decide +kernel
theorem gm_d_Judge_emptyParts_39 : decode gm_b_Judge_emptyParts 39 = .ok (.iload_n 3, 1) := by decide +kernel
theorem gm_d_Judge_emptyParts_40 : decode gm_b_Judge_emptyParts 40 = .ok (.iaload, 1) := by decide +kernel
theorem gm_d_Judge_emptyParts_41 : decode gm_b_Judge_emptyParts 41 = .ok (.baload, 1) := by decide +kernel
theorem gm_d_Judge_emptyParts_42 : decode gm_b_Judge_emptyParts 42 = .ok (.ifCond .eq 6, 3) := by decide +kernel
theorem gm_d_Judge_emptyParts_45 : decode gm_b_Judge_emptyParts 45 = .ok (.iinc 2 1, 3) := by decide +kernel
theorem gm_d_Judge_emptyParts_48 : decode gm_b_Judge_emptyParts 48 = .ok (.iinc 3 1, 3) := by decide +kernel
theorem gm_d_Judge_emptyParts_51 : decode gm_b_Judge_emptyParts 51 = .ok (.goto (-39), 3) := by decide +kernel
theorem gm_d_Judge_emptyParts_54 : decode gm_b_Judge_emptyParts 54 = .ok (.iload_n 2, 1) := by decide +kernel
theorem gm_d_Judge_emptyParts_55 : decode gm_b_Judge_emptyParts 55 = .ok (.ireturn, 1) := by decide +kernel
theorem gm_d_Judge_beginningsByParts_0 : decode gm_b_Judge_beginningsByParts 0 = .ok (.aload_n 0, 1) := by decide +kernel
theorem gm_d_Judge_beginningsByParts_1 : decode gm_b_Judge_beginningsByParts 1 = .ok (.getfield 9, 3) := by decide +kernel
theorem gm_d_Judge_beginningsByParts_4 : decode gm_b_Judge_beginningsByParts 4 = .ok (.getfield 36, 3) := by decide +kernel
theorem gm_d_Judge_beginningsByParts_7 : decode gm_b_Judge_beginningsByParts 7 = .ok (.iload_n 1, 1) := by decide +kernel
theorem gm_d_Judge_beginningsByParts_8 : decode gm_b_Judge_beginningsByParts 8 = .ok (.iaload, 1) := by decide +kernel
theorem gm_d_Judge_beginningsByParts_9 : decode gm_b_Judge_beginningsByParts 9 = .ok (.iconst 1, 1) := by decide +kernel
theorem gm_d_Judge_beginningsByParts_10 : decode gm_b_Judge_beginningsByParts 10 = .ok (.if_icmp .ne 36, 3) := by decide +kernel
theorem gm_d_Judge_beginningsByParts_13 : decode gm_b_Judge_beginningsByParts 13 = .ok (.aload_n 0, 1) := by decide +kernel
theorem gm_d_Judge_beginningsByParts_14 : decode gm_b_Judge_beginningsByParts 14 = .ok (.getfield 9, 3) := by decide +kernel
theorem gm_d_Judge_beginningsByParts_17 : decode gm_b_Judge_beginningsByParts 17 = .ok (.getfield 51, 3) := by decide +kernel
theorem gm_d_Judge_beginningsByParts_20 : decode gm_b_Judge_beginningsByParts 20 = .ok (.aload_n 0, 1) := by decide +kernel
theorem gm_d_Judge_beginningsByParts_21 : decode gm_b_Judge_beginningsByParts 21 = .ok (.iload_n 1, 1) := by decide +kernel
theorem gm_d_Judge_beginningsByParts_22 : decode gm_b_Judge_beginningsByParts 22 = .ok (.invokevirtual 70, 3) := by decide +kernel
theorem gm_d_Judge_beginningsByParts_25 : decode gm_b_Judge_beginningsByParts 25 = .ok (.iaload, 1) := by decide +kernel
theorem gm_d_Judge_beginningsByParts_26 : decode gm_b_Judge_beginningsByParts 26 = .ok (.iconst 1, 1) := by decide +kernel
theorem gm_d_Judge_beginningsByParts_27 : decode gm_b_Judge_beginningsByParts 27 = .ok (.aload_n 0, 1) := by decide +kernel
theorem gm_d_Judge_beginningsByParts_28 : decode gm_b_Judge_beginningsByParts 28 = .ok (.getfield 9, 3) := by decide +kernel
theorem gm_d_Judge_beginningsByParts_31 : decode gm_b_Judge_beginningsByParts 31 = .ok (.aload_n 0, 1) := by decide +kernel
theorem gm_d_Judge_beginningsByParts_32 : decode gm_b_Judge_beginningsByParts 32 = .ok (.getfield 9, 3) := by decide +kernel
theorem gm_d_Judge_beginningsByParts_35 : decode gm_b_Judge_beginningsByParts 35 = .ok (.getfield 39, 3) := by decide +kernel
theorem gm_d_Judge_beginningsByParts_38 : decode gm_b_Judge_beginningsByParts 38 = .ok (.iload_n 1, 1) := by decide +kernel
theorem gm_d_Judge_beginningsByParts_39 : decode gm_b_Judge_beginningsByParts 39 = .ok (.iaload, 1) := by decide +kernel
theorem gm_d_Judge_beginningsByParts_40 : decode gm_b_Judge_beginningsByParts 40 = .ok (.invokevirtual 42, 3) := by decide +kernel
theorem gm_d_Judge_beginningsByParts_43 : decode gm_b_Judge_beginningsByParts 43 = .ok (.ishl, 1) := by decide +kernel
theorem gm_d_Judge_beginningsByParts_44 : decode gm_b_Judge_beginningsByParts 44 = .ok (.ior, 1) := by decide +kernel
theorem gm_d_Judge_beginningsByParts_45 : decode gm_b_Judge_beginningsByParts 45 = .ok (.ireturn, 1) := by decide +kernel
theorem gm_d_Judge_beginningsByParts_46 : decode gm_b_Judge_beginningsByParts 46 = .ok (.iconst 0, 1) := by decide +kernel
theorem gm_d_Judge_beginningsByParts_47 : decode gm_b_Judge_beginningsByParts 47 = .ok (.istore_n 2, 1) := by decide +kernel
theorem gm_d_Judge_beginningsByParts_48 : decode gm_b_Judge_beginningsByParts 48 = .ok (.aload_n 0, 1) := by decide +kernel
theorem gm_d_Judge_beginningsByParts_49 : decode gm_b_Judge_beginningsByParts 49 = .ok (.getfield 9, 3) := by decide +kernel
theorem gm_d_Judge_beginningsByParts_52 : decode gm_b_Judge_beginningsByParts 52 = .ok (.getfield 79, 3) := by decide +kernel
theorem gm_d_Judge_beginningsByParts_55 : decode gm_b_Judge_beginningsByParts 55 = .ok (.iload_n 1, 1) := by decide +kernel
theorem gm_d_Judge_beginningsByParts_56 : decode gm_b_Judge_beginningsByParts 56 = .ok (.iaload, 1) := by decide +kernel
theorem gm_d_Judge_beginningsByParts_57 : decode gm_b_Judge_beginningsByParts 57 = .ok (.istore_n 3, 1) := by decide +kernel
theorem gm_d_Judge_beginningsByParts_58 : decode gm_b_Judge_beginningsByParts 58 = .ok (.iload_n 3, 1) := by decide +kernel
theorem gm_d_Judge_beginningsByParts_59 : decode gm_b_Judge_beginningsByParts 59 = .ok (.aload_n 0, 1) := by decide +kernel
theorem gm_d_Judge_beginningsByParts_60 : decode gm_b_Judge_beginningsByParts 60 = .ok (.getfield 9, 3) := by decide +kernel
theorem gm_d_Judge_beginningsByParts_63 : decode gm_b_Judge_beginningsByParts 63 = .ok (.getfield 76, 3) := by decide +kernel
theorem gm_d_Judge_beginningsByParts_66 : decode gm_b_Judge_beginningsByParts 66 = .ok (.iload_n 1, 1) := by decide +kernel
theorem gm_d_Judge_beginningsByParts_67 : decode gm_b_Judge_beginningsByParts 67 = .ok (.iaload, 1) := by decide +kernel
theorem gm_d_Judge_beginningsByParts_68 : decode gm_b_Judge_beginningsByParts 68 = .ok (.if_icmp .ge 48, 3) := by decide +kernel
theorem gm_d_Judge_beginningsByParts_71 : decode gm_b_Judge_beginningsByParts 71 = .ok (.iload_n 2, 1) := by decide +kernel
theorem gm_d_Judge_beginningsByParts_72 : decode gm_b_Judge_beginningsByParts 72 = .ok (.aload_n 0, 1) := by decide +kernel
theorem gm_d_Judge_beginningsByParts_73 : decode gm_b_Judge_beginningsByParts 73 = .ok (.getfield 9, 3) := by decide +kernel
theorem gm_d_Judge_beginningsByParts_76 : decode gm_b_Judge_beginningsByParts 76 = .ok (.getfield 51, 3) := by decide +kernel
theorem gm_d_Judge_beginningsByParts_79 : decode gm_b_Judge_beginningsByParts 79 = .ok (.aload_n 0, 1) := by decide +kernel
theorem gm_d_Judge_beginningsByParts_80 : decode gm_b_Judge_beginningsByParts 80 = .ok (.getfield 9, 3) := by decide +kernel
theorem gm_d_Judge_beginningsByParts_83 : decode gm_b_Judge_beginningsByParts 83 = .ok (.getfield 82, 3) := by decide +kernel
theorem gm_d_Judge_beginningsByParts_86 : decode gm_b_Judge_beginningsByParts 86 = .ok (.iload_n 3, 1) := by decide +kernel
theorem gm_d_Judge_beginningsByParts_87 : decode gm_b_Judge_beginningsByParts 87 = .ok (.iaload, 1) := by decide +kernel
theorem gm_d_Judge_beginningsByParts_88 : decode gm_b_Judge_beginningsByParts 88 = .ok (.iaload, 1) := by decide +kernel
theorem gm_d_Judge_beginningsByParts_89 : decode gm_b_Judge_beginningsByParts 89 = .ok (.ior, 1) := by decide +kernel
theorem gm_d_Judge_beginningsByParts_90 : decode gm_b_Judge_beginningsByParts 90 = .ok (.istore_n 2, 1) := by decide +kernel
theorem gm_d_Judge_beginningsByParts_91 : decode gm_b_Judge_beginningsByParts 91 = .ok (.aload_n 0, 1) := by decide +kernel
theorem gm_d_Judge_beginningsByParts_92 : decode gm_b_Judge_beginningsByParts 92 = .ok (.iload_n 1, 1) := by decide +kernel
theorem gm_d_Judge_beginningsByParts_93 : decode gm_b_Judge_beginningsByParts 93 = .ok (.aload_n 0, 1) := by decide +kernel
theorem gm_d_Judge_beginningsByParts_94 : decode gm_b_Judge_beginningsByParts 94 = .ok (.getfield 9, 3) := by decide +kernel
theorem gm_d_Judge_beginningsByParts_97 : decode gm_b_Judge_beginningsByParts 97 = .ok (.getfield 82, 3) := by decide +kernel
theorem gm_d_Judge_beginningsByParts_100 : decode gm_b_Judge_beginningsByParts 100 = .ok (.iload_n 3, 1) := by decide +kernel
theorem gm_d_Judge_beginningsByParts_101 : decode gm_b_Judge_beginningsByParts 101 = .ok (.iaload, 1) := by decide +kernel
theorem gm_d_Judge_beginningsByParts_102 : decode gm_b_Judge_beginningsByParts 102 = .ok (.invokevirtual 88, 3) := by decide +kernel
theorem gm_d_Judge_beginningsByParts_105 : decode gm_b_Judge_beginningsByParts 105 = .ok (.ifCond .eq 5, 3) := by decide +kernel
theorem gm_d_Judge_beginningsByParts_108 : decode gm_b_Judge_beginningsByParts 108 = .ok (.iload_n 2, 1) := by decide +kernel
theorem gm_d_Judge_beginningsByParts_109 : decode gm_b_Judge_beginningsByParts 109 = .ok (.ireturn, 1) := by decide +kernel
theorem gm_d_Judge_beginningsByParts_110 : decode gm_b_Judge_beginningsByParts 110 = .ok (.iinc 3 1, 3) := by decide +kernel
theorem gm_d_Judge_beginningsByParts_113 : decode gm_b_Judge_beginningsByParts 113 = .ok (.goto (-55), 3) := by decide +kernel
theorem gm_d_Judge_beginningsByParts_116 : decode gm_b_Judge_beginningsByParts 116 = .ok (.iload_n 2, 1) := by decide +kernel
theorem gm_d_Judge_beginningsByParts_117 : decode gm_b_Judge_beginningsByParts 117 = .ok (.ireturn, 1) := by decide +kernel
theorem gm_d_Judge_isEmptyByParts_0 : decode gm_b_Judge_isEmptyByParts 0 = .ok (.aload_n 0, 1) := by decide +kernel
theorem gm_d_Judge_isEmptyByParts_1 : decode gm_b_Judge_isEmptyByParts 1 = .ok (.getfield 9, 3) := by decide +kernel
theorem gm_d_Judge_isEmptyByParts_4 : decode gm_b_Judge_isEmptyByParts 4 = .ok (.getfield 36, 3) := by decide +kernel
theorem gm_d_Judge_isEmptyByParts_7 : decode gm_b_Judge_isEmptyByParts 7 = .ok (.iload_n 1, 1) := by decide +kernel
theorem gm_d_Judge_isEmptyByParts_8 : decode gm_b_Judge_isEmptyByParts 8 = .ok (.iaload, 1) := by decide +kernel
theorem gm_d_Judge_isEmptyByParts_9 : decode gm_b_Judge_isEmptyByParts 9 = .ok (.tableswitch 135 0 9 #[55, 57, 71, 104, 135, 135, 118, 135, 135, 118], 55) := by decide +kernel
theorem gm_d_Judge_isEmptyByParts_64 : decode gm_b_Judge_isEmptyByParts 64 = .ok (.iconst 0, 1) := by decide +kernel
theorem gm_d_Judge_isEmptyByParts_65 : decode gm_b_Judge_isEmptyByParts 65 = .ok (.ireturn, 1) := by decide +kernel
theorem gm_d_Judge_isEmptyByParts_66 : decode gm_b_Judge_isEmptyByParts 66 = .ok (.aload_n 0, 1) := by decide +kernel
theorem gm_d_Judge_isEmptyByParts_67 : decode gm_b_Judge_isEmptyByParts 67 = .ok (.getfield 9, 3) := by decide +kernel
theorem gm_d_Judge_isEmptyByParts_70 : decode gm_b_Judge_isEmptyByParts 70 = .ok (.getfield 57, 3) := by decide +kernel
theorem gm_d_Judge_isEmptyByParts_73 : decode gm_b_Judge_isEmptyByParts 73 = .ok (.aload_n 0, 1) := by decide +kernel
theorem gm_d_Judge_isEmptyByParts_74 : decode gm_b_Judge_isEmptyByParts 74 = .ok (.iload_n 1, 1) := by decide +kernel
theorem gm_d_Judge_isEmptyByParts_75 : decode gm_b_Judge_isEmptyByParts 75 = .ok (.invokevirtual 70, 3) := by decide +kernel
theorem gm_d_Judge_isEmptyByParts_78 : decode gm_b_Judge_isEmptyByParts 78 = .ok (.baload, 1) := by decide +kernel
theorem gm_d_Judge_isEmptyByParts_79 : decode gm_b_Judge_isEmptyByParts 79 = .ok (.ireturn, 1) := by decide +kernel
theorem gm_d_Judge_isEmptyByParts_80 : decode gm_b_Judge_isEmptyByParts 80 = .ok (.aload_n 0, 1) := by decide +kernel
theorem gm_d_Judge_isEmptyByParts_81 : decode gm_b_Judge_isEmptyByParts 81 = .ok (.iload_n 1, 1) := by decide +kernel
theorem gm_d_Judge_isEmptyByParts_82 : decode gm_b_Judge_isEmptyByParts 82 = .ok (.invokevirtual 73, 3) := by decide +kernel
theorem gm_d_Judge_isEmptyByParts_85 : decode gm_b_Judge_isEmptyByParts 85 = .ok (.aload_n 0, 1) := by decide +kernel
theorem gm_d_Judge_isEmptyByParts_86 : decode gm_b_Judge_isEmptyByParts 86 = .ok (.getfield 9, 3) := by decide +kernel
theorem gm_d_Judge_isEmptyByParts_89 : decode gm_b_Judge_isEmptyByParts 89 = .ok (.getfield 76, 3) := by decide +kernel
theorem gm_d_Judge_isEmptyByParts_92 : decode gm_b_Judge_isEmptyByParts 92 = .ok (.iload_n 1, 1) := by decide +kernel
theorem gm_d_Judge_isEmptyByParts_93 : decode gm_b_Judge_isEmptyByParts 93 = .ok (.iaload, 1) := by decide +kernel
theorem gm_d_Judge_isEmptyByParts_94 : decode gm_b_Judge_isEmptyByParts 94 = .ok (.aload_n 0, 1) := by decide +kernel
theorem gm_d_Judge_isEmptyByParts_95 : decode gm_b_Judge_isEmptyByParts 95 = .ok (.getfield 9, 3) := by decide +kernel
theorem gm_d_Judge_isEmptyByParts_98 : decode gm_b_Judge_isEmptyByParts 98 = .ok (.getfield 79, 3) := by decide +kernel
theorem gm_d_Judge_isEmptyByParts_101 : decode gm_b_Judge_isEmptyByParts 101 = .ok (.iload_n 1, 1) := by decide +kernel
theorem gm_d_Judge_isEmptyByParts_102 : decode gm_b_Judge_isEmptyByParts 102 = .ok (.iaload, 1) := by decide +kernel
theorem gm_d_Judge_isEmptyByParts_103 : decode gm_b_Judge_isEmptyByParts 103 = .ok (.isub, 1) := by decide +kernel
theorem gm_d_Judge_isEmptyByParts_104 : decode gm_b_Judge_isEmptyByParts 104 = .ok (.if_icmp .ne 7, 3) := by decide +kernel
theorem gm_d_Judge_isEmptyByParts_107 : decode gm_b_Judge_isEmptyByParts 107 = .ok (.iconst 1, 1) := by decide +kernel
theorem gm_d_Judge_isEmptyByParts_108 : decode gm_b_Judge_isEmptyByParts 108 = .ok (.goto 4, 3) := by decide +kernel
theorem gm_d_Judge_isEmptyByParts_111 : decode gm_b_Judge_isEmptyByParts 111 = .ok (.iconst 0, 1) := by decide +kernel
theorem gm_d_Judge_isEmptyByParts_112 : decode gm_b_Judge_isEmptyByParts 112 = .ok (.ireturn, 1) := by decide +kernel
theorem gm_d_Judge_isEmptyByParts_113 : decode gm_b_Judge_isEmptyByParts 113 = .ok (.aload_n 0, 1) := by decide +kernel
theorem gm_d_Judge_isEmptyByParts_114 : decode gm_b_Judge_isEmptyByParts 114 = .ok (.iload_n 1, 1) := by decide +kernel
theorem gm_d_Judge_isEmptyByParts_115 : decode gm_b_Judge_isEmptyByParts 115 = .ok (.invokevirtual 73, 3) := by decide +kernel
theorem gm_d_Judge_isEmptyByParts_118 : decode gm_b_Judge_isEmptyByParts 118 = .ok (.ifCond .le 7, 3) := by decide +kernel
theorem gm_d_Judge_isEmptyByParts_121 : decode gm_b_Judge_isEmptyByParts 121 = .ok (.iconst 1, 1) := by decide +kernel
theorem gm_d_Judge_isEmptyByParts_122 : decode gm_b_Judge_isEmptyByParts 122 = .ok (.goto 4, 3) := by decide +kernel
theorem gm_d_Judge_isEmptyByParts_125 : decode gm_b_Judge_isEmptyByParts 125 = .ok (.iconst 0, 1) := by decide +kernel
theorem gm_d_Judge_isEmptyByParts_126 : decode gm_b_Judge_isEmptyByParts 126 = .ok (.ireturn, 1) := by decide +kernel
theorem gm_d_Judge_isEmptyByParts_127 : decode gm_b_Judge_isEmptyByParts 127 = .ok (.aload_n 0, 1) := by decide +kernel
theorem gm_d_Judge_isEmptyByParts_128 : decode gm_b_Judge_isEmptyByParts 128 = .ok (.getfield 9, 3) := by decide +kernel
theorem gm_d_Judge_isEmptyByParts_131 : decode gm_b_Judge_isEmptyByParts 131 = .ok (.getfield 57, 3) := by decide +kernel
theorem gm_d_Judge_isEmptyByParts_134 : decode gm_b_Judge_isEmptyByParts 134 = .ok (.aload_n 0, 1) := by decide +kernel
theorem gm_d_Judge_isEmptyByParts_135 : decode gm_b_Judge_isEmptyByParts 135 = .ok (.getfield 9, 3) := by decide +kernel
theorem gm_d_Judge_isEmptyByParts_138 : decode gm_b_Judge_isEmptyByParts 138 = .ok (.iload_n 1, 1) := by decide +kernel
theorem gm_d_Judge_isEmptyByParts_139 : decode gm_b_Judge_isEmptyByParts 139 = .ok (.invokevirtual 61, 3) := by decide +kernel
theorem gm_d_Judge_isEmptyByParts_142 : decode gm_b_Judge_isEmptyByParts 142 = .ok (.baload, 1) := by decide +kernel
theorem gm_d_Judge_isEmptyByParts_143 : decode gm_b_Judge_isEmptyByParts 143 = .ok (.ireturn, 1) := by decide +kernel
theorem gm_d_Judge_isEmptyByParts_144 : decode gm_b_Judge_isEmptyByParts 144 = .ok (.iconst 1, 1) := by decide +kernel
theorem gm_d_Judge_isEmptyByParts_145 : decode gm_b_Judge_isEmptyByParts 145 = .ok (.ireturn, 1) := by decide +kernel
theorem gm_d_Judge_isEndless_0 : decode gm_b_Judge_isEndless 0 = .ok (.aload_n 0, 1) := by decide +kernel
theorem gm_d_Judge_isEndless_1 : decode gm_b_Judge_isEndless 1 = .ok (.getfield 9, 3) := by decide +kernel
theorem gm_d_Judge_isEndless_4 : decode gm_b_Judge_isEndless 4 = .ok (.iload_n 1, 1) := by decide +kernel
theorem gm_d_Judge_isEndless_5 : decode gm_b_Judge_isEndless 5 = .ok (.invokevirtual 29, 3) := by decide +kernel
theorem gm_d_Judge_isEndless_8 : decode gm_b_Judge_isEndless 8 = .ok (.istore_n 2, 1) := by decide +kernel
theorem gm_d_Judge_isEndless_9 : decode gm_b_Judge_isEndless 9 = .ok (.iload_n 2, 1) := by decide +kernel
theorem gm_d_Judge_isEndless_10 : decode gm_b_Judge_isEndless 10 = .ok (.aload_n 0, 1) := by decide +kernel
theorem gm_d_Judge_isEndless_11 : decode gm_b_Judge_isEndless 11 = .ok (.getfield 9, 3) := by decide +kernel
theorem gm_d_Judge_isEndless_14 : decode gm_b_Judge_isEndless 14 = .ok (.getfield 33, 3) := by decide +kernel
theorem gm_d_Judge_isEndless_17 : decode gm_b_Judge_isEndless 17 = .ok (.iload_n 1, 1) := by decide +kernel
theorem gm_d_Judge_isEndless_18 : decode gm_b_Judge_isEndless 18 = .ok (.iaload, 1) := by decide +kernel
theorem gm_d_Judge_isEndless_19 : decode gm_b_Judge_isEndless 19 = .ok (.if_icmp .gt 69, 3) := by decide +kernel
theorem gm_d_Judge_isEndless_22 : decode gm_b_Judge_isEndless 22 = .ok (.aload_n 0, 1) := by decide +kernel
theorem gm_d_Judge_isEndless_23 : decode gm_b_Judge_isEndless 23 = .ok (.getfield 9, 3) := by decide +kernel
theorem gm_d_Judge_isEndless_26 : decode gm_b_Judge_isEndless 26 = .ok (.getfield 36, 3) := by decide +kernel
theorem gm_d_Judge_isEndless_29 : decode gm_b_Judge_isEndless 29 = .ok (.iload_n 2, 1) := by decide +kernel
theorem gm_d_Judge_isEndless_30 : decode gm_b_Judge_isEndless 30 = .ok (.iaload, 1) := by decide +kernel
theorem gm_d_Judge_isEndless_31 : decode gm_b_Judge_isEndless 31 = .ok (.istore_n 3, 1) := by decide +kernel
theorem gm_d_Judge_isEndless_32 : decode gm_b_Judge_isEndless 32 = .ok (.iload_n 3, 1) := by decide +kernel
theorem gm_d_Judge_isEndless_33 : decode gm_b_Judge_isEndless 33 = .ok (.iconst 5, 1) := by decide +kernel
theorem gm_d_Judge_isEndless_34 : decode gm_b_Judge_isEndless 34 = .ok (.if_icmp .eq 15, 3) := by decide +kernel
theorem gm_d_Judge_isEndless_37 : decode gm_b_Judge_isEndless 37 = .ok (.iload_n 3, 1) := by decide +kernel
theorem gm_d_Judge_isEndless_38 : decode gm_b_Judge_isEndless 38 = .ok (.bipush 6, 2) := by decide +kernel
theorem gm_d_Judge_isEndless_40 : decode gm_b_Judge_isEndless 40 = .ok (.if_icmp .eq 9, 3) := by decide +kernel
theorem gm_d_Judge_isEndless_43 : decode gm_b_Judge_isEndless 43 = .ok (.iload_n 3, 1) := by decide +kernel
theorem gm_d_Judge_isEndless_44 : decode gm_b_Judge_isEndless 44 = .ok (.bipush 9, 2) := by decide +kernel
theorem gm_d_Judge_isEndless_46 : decode gm_b_Judge_isEndless 46 = .ok (.if_icmp .ne 7, 3) := by decide +kernel
theorem gm_d_Judge_isEndless_49 : decode gm_b_Judge_isEndless 49 = .ok (.iconst 1, 1) := by decide +kernel
theorem gm_d_Judge_isEndless_50 : decode gm_b_Judge_isEndless 50 = .ok (.goto 4, 3) := by decide +kernel
theorem gm_d_Judge_isEndless_53 : decode gm_b_Judge_isEndless 53 = .ok (.iconst 0, 1) := by decide +kernel
theorem gm_d_Judge_isEndless_54 : decode gm_b_Judge_isEndless 54 = .ok (.istore 4, 2) := by decide +kernel
theorem gm_d_Judge_isEndless_56 : decode gm_b_Judge_isEndless 56 = .ok (.iload 4, 2) := by decide +kernel
theorem gm_d_Judge_isEndless_58 : decode gm_b_Judge_isEndless 58 = .ok (.ifCond .eq 24, 3) := by decide +kernel
theorem gm_d_Judge_isEndless_61 : decode gm_b_Judge_isEndless 61 = .ok (.aload_n 0, 1) := by decide +kernel
theorem gm_d_Judge_isEndless_62 : decode gm_b_Judge_isEndless 62 = .ok (.getfield 9, 3) := by decide +kernel
theorem gm_d_Judge_isEndless_65 : decode gm_b_Judge_isEndless 65 = .ok (.getfield 57, 3) := by decide +kernel
theorem gm_d_Judge_isEndless_68 : decode gm_b_Judge_isEndless 68 = .ok (.aload_n 0, 1) := by decide +kernel
theorem gm_d_Judge_isEndless_69 : decode gm_b_Judge_isEndless 69 = .ok (.getfield 9, 3) := by decide +kernel
theorem gm_d_Judge_isEndless_72 : decode gm_b_Judge_isEndless 72 = .ok (.iload_n 2, 1) := by decide +kernel
theorem gm_d_Judge_isEndless_73 : decode gm_b_Judge_isEndless 73 = .ok (.invokevirtual 61, 3) := by decide +kernel
theorem gm_d_Judge_isEndless_76 : decode gm_b_Judge_isEndless 76 = .ok (.baload, 1) := by decide +kernel
theorem gm_d_Judge_isEndless_77 : decode gm_b_Judge_isEndless 77 = .ok (.ifCond .eq 5, 3) := by decide +kernel
theorem gm_d_Judge_isEndless_80 : decode gm_b_Judge_isEndless 80 = .ok (.iconst 1, 1) := by decide +kernel
theorem gm_d_Judge_isEndless_81 : decode gm_b_Judge_isEndless 81 = .ok (.ireturn, 1) := by decide +kernel
theorem gm_d_Judge_isEndless_82 : decode gm_b_Judge_isEndless 82 = .ok (.iinc 2 1, 3) := by decide +kernel
theorem gm_d_Judge_isEndless_85 : decode gm_b_Judge_isEndless 85 = .ok (.goto (-76), 3) := by decide +kernel
theorem gm_d_Judge_isEndless_88 : decode gm_b_Judge_isEndless 88 = .ok (.iconst 0, 1) := by decide +kernel
theorem gm_d_Judge_isEndless_89 : decode gm_b_Judge_isEndless 89 = .ok (.ireturn, 1) := by decide +kernel
theorem gm_d_Judge_hasUnknownName_0 : decode gm_b_Judge_hasUnknownName 0 = .ok (.aload_n 0, 1) := by decide +kernel
theorem gm_d_Judge_hasUnknownName_1 : decode gm_b_Judge_hasUnknownName 1 = .ok (.getfield 9, 3) := by decide +kernel
theorem gm_d_Judge_hasUnknownName_4 : decode gm_b_Judge_hasUnknownName 4 = .ok (.iload_n 1, 1) := by decide +kernel
theorem gm_d_Judge_hasUnknownName_5 : decode gm_b_Judge_hasUnknownName 5 = .ok (.invokevirtual 29, 3) := by decide +kernel
theorem gm_d_Judge_hasUnknownName_8 : decode gm_b_Judge_hasUnknownName 8 = .ok (.istore_n 2, 1) := by decide +kernel
theorem gm_d_Judge_hasUnknownName_9 : decode gm_b_Judge_hasUnknownName 9 = .ok (.iload_n 2, 1) := by decide +kernel
theorem gm_d_Judge_hasUnknownName_10 : decode gm_b_Judge_hasUnknownName 10 = .ok (.aload_n 0, 1) := by decide +kernel
theorem gm_d_Judge_hasUnknownName_11 : decode gm_b_Judge_hasUnknownName 11 = .ok (.getfield 9, 3) := by decide +kernel
theorem gm_d_Judge_hasUnknownName_14 : decode gm_b_Judge_hasUnknownName 14 = .ok (.getfield 33, 3) := by decide +kernel
theorem gm_d_Judge_hasUnknownName_17 : decode gm_b_Judge_hasUnknownName 17 = .ok (.iload_n 1, 1) := by decide +kernel
theorem gm_d_Judge_hasUnknownName_18 : decode gm_b_Judge_hasUnknownName 18 = .ok (.iaload, 1) := by decide +kernel
theorem gm_d_Judge_hasUnknownName_19 : decode gm_b_Judge_hasUnknownName 19 = .ok (.if_icmp .gt 44, 3) := by decide +kernel
theorem gm_d_Judge_hasUnknownName_22 : decode gm_b_Judge_hasUnknownName 22 = .ok (.aload_n 0, 1) := by decide +kernel
theorem gm_d_Judge_hasUnknownName_23 : decode gm_b_Judge_hasUnknownName 23 = .ok (.getfield 9, 3) := by decide +kernel
theorem gm_d_Judge_hasUnknownName_26 : decode gm_b_Judge_hasUnknownName 26 = .ok (.getfield 36, 3) := by decide +kernel
theorem gm_d_Judge_hasUnknownName_29 : decode gm_b_Judge_hasUnknownName 29 = .ok (.iload_n 2, 1) := by decide +kernel
theorem gm_d_Judge_hasUnknownName_30 : decode gm_b_Judge_hasUnknownName 30 = .ok (.iaload, 1) := by decide +kernel
theorem gm_d_Judge_hasUnknownName_31 : decode gm_b_Judge_hasUnknownName 31 = .ok (.iconst 1, 1) := by decide +kernel
theorem gm_d_Judge_hasUnknownName_32 : decode gm_b_Judge_hasUnknownName 32 = .ok (.if_icmp .ne 25, 3) := by decide +kernel
theorem gm_d_Judge_hasUnknownName_35 : decode gm_b_Judge_hasUnknownName 35 = .ok (.aload_n 0, 1) := by decide +kernel
theorem gm_d_Judge_hasUnknownName_36 : decode gm_b_Judge_hasUnknownName 36 = .ok (.getfield 9, 3) := by decide +kernel
theorem gm_d_Judge_hasUnknownName_39 : decode gm_b_Judge_hasUnknownName 39 = .ok (.aload_n 0, 1) := by decide +kernel
theorem gm_d_Judge_hasUnknownName_40 : decode gm_b_Judge_hasUnknownName 40 = .ok (.getfield 9, 3) := by decide +kernel
theorem gm_d_Judge_hasUnknownName_43 : decode gm_b_Judge_hasUnknownName 43 = .ok (.getfield 39, 3) := by decide +kernel
theorem gm_d_Judge_hasUnknownName_46 : decode gm_b_Judge_hasUnknownName 46 = .ok (.iload_n 2, 1) := by decide +kernel
theorem gm_d_Judge_hasUnknownName_47 : decode gm_b_Judge_hasUnknownName 47 = .ok (.iaload, 1) := by decide +kernel
theorem gm_d_Judge_hasUnknownName_48 : decode gm_b_Judge_hasUnknownName 48 = .ok (.invokevirtual 42, 3) := by decide +kernel
theorem gm_d_Judge_hasUnknownName_51 : decode gm_b_Judge_hasUnknownName 51 = .ok (.iconst (-1), 1) := by decide +kernel
theorem gm_d_Judge_hasUnknownName_52 : decode gm_b_Judge_hasUnknownName 52 = .ok (.if_icmp .ne 5, 3) := by decide +kernel
theorem gm_d_Judge_hasUnknownName_55 : decode gm_b_Judge_hasUnknownName 55 = .ok (.iconst 1, 1) := by decide +kernel
theorem gm_d_Judge_hasUnknownName_56 : decode gm_b_Judge_hasUnknownName 56 = .ok (.ireturn, 1) := by decide +kernel
theorem gm_d_Judge_hasUnknownName_57 : decode gm_b_Judge_hasUnknownName 57 = .ok (.iinc 2 1, 3) := by decide +kernel
theorem gm_d_Judge_hasUnknownName_60 : decode gm_b_Judge_hasUnknownName 60 = .ok (.goto (-51), 3) := by decide +kernel
theorem gm_d_Judge_hasUnknownName_63 : decode gm_b_Judge_hasUnknownName 63 = .ok (.iconst 0, 1) := by decide +kernel
theorem gm_d_Judge_hasUnknownName_64 : decode gm_b_Judge_hasUnknownName 64 = .ok (.ireturn, 1) := by decide +kernel
theorem gm_d_Judge_firstUndefined_0 : decode gm_b_Judge_firstUndefined 0 = .ok (.iconst 0, 1) := by decide +kernel
theorem gm_d_Judge_firstUndefined_1 : decode gm_b_Judge_firstUndefined 1 = .ok (.istore_n 1, 1) := by decide +kernel
theorem gm_d_Judge_firstUndefined_2 : decode gm_b_Judge_firstUndefined 2 = .ok (.iload_n 1, 1) := by decide +kernel
theorem gm_d_Judge_firstUndefined_3 : decode gm_b_Judge_firstUndefined 3 = .ok (.aload_n 0, 1) := by decide +kernel
theorem gm_d_Judge_firstUndefined_4 : decode gm_b_Judge_firstUndefined 4 = .ok (.getfield 9, 3) := by decide +kernel
theorem gm_d_Judge_firstUndefined_7 : decode gm_b_Judge_firstUndefined 7 = .ok (.getfield 15, 3) := by decide +kernel
theorem gm_d_Judge_firstUndefined_10 : decode gm_b_Judge_firstUndefined 10 = .ok (.if_icmp .ge 27, 3) := by decide +kernel
theorem gm_d_Judge_firstUndefined_13 : decode gm_b_Judge_firstUndefined 13 = .ok (.aload_n 0, 1) := by decide +kernel
theorem gm_d_Judge_firstUndefined_14 : decode gm_b_Judge_firstUndefined 14 = .ok (.iload_n 1, 1) := by decide +kernel
theorem gm_d_Judge_firstUndefined_15 : decode gm_b_Judge_firstUndefined 15 = .ok (.invokevirtual 21, 3) := by decide +kernel
theorem gm_d_Judge_firstUndefined_18 : decode gm_b_Judge_firstUndefined 18 = .ok (.ifCond .eq 13, 3) := by decide +kernel
theorem gm_d_Judge_firstUndefined_21 : decode gm_b_Judge_firstUndefined 21 = .ok (.aload_n 0, 1) := by decide +kernel
theorem gm_d_Judge_firstUndefined_22 : decode gm_b_Judge_firstUndefined 22 = .ok (.getfield 9, 3) := by decide +kernel
theorem gm_d_Judge_firstUndefined_25 : decode gm_b_Judge_firstUndefined 25 = .ok (.getfield 25, 3) := by decide +kernel
theorem gm_d_Judge_firstUndefined_28 : decode gm_b_Judge_firstUndefined 28 = .ok (.iload_n 1, 1) := by decide +kernel
theorem gm_d_Judge_firstUndefined_29 : decode gm_b_Judge_firstUndefined 29 = .ok (.iaload, 1) := by decide +kernel
theorem gm_d_Judge_firstUndefined_30 : decode gm_b_Judge_firstUndefined 30 = .ok (.ireturn, 1) := by decide +kernel
theorem gm_d_Judge_firstUndefined_31 : decode gm_b_Judge_firstUndefined 31 = .ok (.iinc 1 1, 3) := by decide +kernel
theorem gm_d_Judge_firstUndefined_34 : decode gm_b_Judge_firstUndefined 34 = .ok (.goto (-32), 3) := by decide +kernel
theorem gm_d_Judge_firstUndefined_37 : decode gm_b_Judge_firstUndefined 37 = .ok (.iconst (-1), 1) := by decide +kernel
theorem gm_d_Judge_firstUndefined_38 : decode gm_b_Judge_firstUndefined 38 = .ok (.ireturn, 1) := by decide +kernel
theorem gm_d_Judge_settleEmptiness_0 : decode gm_b_Judge_settleEmptiness 0 = .ok (.iconst 0, 1) := by decide +kernel
theorem gm_d_Judge_settleEmptiness_1 : decode gm_b_Judge_settleEmptiness 1 = .ok (.istore_n 1, 1) := by decide +kernel
theorem gm_d_Judge_settleEmptiness_2 : decode gm_b_Judge_settleEmptiness 2 = .ok (.iload_n 1, 1) := by decide +kernel
theorem gm_d_Judge_settleEmptiness_3 : decode gm_b_Judge_settleEmptiness 3 = .ok (.aload_n 0, 1) := by decide +kernel
theorem gm_d_Judge_settleEmptiness_4 : decode gm_b_Judge_settleEmptiness 4 = .ok (.getfield 9, 3) := by decide +kernel
theorem gm_d_Judge_settleEmptiness_7 : decode gm_b_Judge_settleEmptiness 7 = .ok (.getfield 15, 3) := by decide +kernel
theorem gm_d_Judge_settleEmptiness_10 : decode gm_b_Judge_settleEmptiness 10 = .ok (.if_icmp .gt 42, 3) := by decide +kernel
theorem gm_d_Judge_settleEmptiness_13 : decode gm_b_Judge_settleEmptiness 13 = .ok (.iconst 0, 1) := by decide +kernel
theorem gm_d_Judge_settleEmptiness_14 : decode gm_b_Judge_settleEmptiness 14 = .ok (.istore_n 2, 1) := by decide +kernel
theorem gm_d_Judge_settleEmptiness_15 : decode gm_b_Judge_settleEmptiness 15 = .ok (.iload_n 2, 1) := by decide +kernel
theorem gm_d_Judge_settleEmptiness_16 : decode gm_b_Judge_settleEmptiness 16 = .ok (.aload_n 0, 1) := by decide +kernel
theorem gm_d_Judge_settleEmptiness_17 : decode gm_b_Judge_settleEmptiness 17 = .ok (.getfield 9, 3) := by decide +kernel
theorem gm_d_Judge_settleEmptiness_20 : decode gm_b_Judge_settleEmptiness 20 = .ok (.getfield 64, 3) := by decide +kernel
theorem gm_d_Judge_settleEmptiness_23 : decode gm_b_Judge_settleEmptiness 23 = .ok (.if_icmp .ge 23, 3) := by decide +kernel
theorem gm_d_Judge_settleEmptiness_26 : decode gm_b_Judge_settleEmptiness 26 = .ok (.aload_n 0, 1) := by decide +kernel
theorem gm_d_Judge_settleEmptiness_27 : decode gm_b_Judge_settleEmptiness 27 = .ok (.getfield 9, 3) := by decide +kernel
theorem gm_d_Judge_settleEmptiness_30 : decode gm_b_Judge_settleEmptiness 30 = .ok (.getfield 57, 3) := by decide +kernel
theorem gm_d_Judge_settleEmptiness_33 : decode gm_b_Judge_settleEmptiness 33 = .ok (.iload_n 2, 1) := by decide +kernel
theorem gm_d_Judge_settleEmptiness_34 : decode gm_b_Judge_settleEmptiness 34 = .ok (.aload_n 0, 1) := by decide +kernel
theorem gm_d_Judge_settleEmptiness_35 : decode gm_b_Judge_settleEmptiness 35 = .ok (.iload_n 2, 1) := by decide +kernel
theorem gm_d_Judge_settleEmptiness_36 : decode gm_b_Judge_settleEmptiness 36 = .ok (.invokevirtual 67, 3) := by decide +kernel
theorem gm_d_Judge_settleEmptiness_39 : decode gm_b_Judge_settleEmptiness 39 = .ok (.bastore, 1) := by decide +kernel
theorem gm_d_Judge_settleEmptiness_40 : decode gm_b_Judge_settleEmptiness 40 = .ok (.iinc 2 1, 3) := by decide +kernel
theorem gm_d_Judge_settleEmptiness_43 : decode gm_b_Judge_settleEmptiness 43 = .ok (.goto (-28), 3) := by decide +kernel
theorem gm_d_Judge_settleEmptiness_46 : decode gm_b_Judge_settleEmptiness 46 = .ok (.iinc 1 1, 3) := by decide +kernel
theorem gm_d_Judge_settleEmptiness_49 : decode gm_b_Judge_settleEmptiness 49 = .ok (.goto (-47), 3) := by decide +kernel
theorem gm_d_Judge_settleEmptiness_52 : decode gm_b_Judge_settleEmptiness 52 = .ok (.return_, 1) := by decide +kernel
theorem gm_d_Judge_settleBeginnings_0 : decode gm_b_Judge_settleBeginnings 0 = .ok (.iconst 0, 1) := by decide +kernel
theorem gm_d_Judge_settleBeginnings_1 : decode gm_b_Judge_settleBeginnings 1 = .ok (.istore_n 1, 1) := by decide +kernel
theorem gm_d_Judge_settleBeginnings_2 : decode gm_b_Judge_settleBeginnings 2 = .ok (.iload_n 1, 1) := by decide +kernel
theorem gm_d_Judge_settleBeginnings_3 : decode gm_b_Judge_settleBeginnings 3 = .ok (.aload_n 0, 1) := by decide +kernel
theorem gm_d_Judge_settleBeginnings_4 : decode gm_b_Judge_settleBeginnings 4 = .ok (.getfield 9, 3) := by decide +kernel
theorem gm_d_Judge_settleBeginnings_7 : decode gm_b_Judge_settleBeginnings 7 = .ok (.getfield 15, 3) := by decide +kernel
theorem gm_d_Judge_settleBeginnings_10 : decode gm_b_Judge_settleBeginnings 10 = .ok (.if_icmp .gt 42, 3) := by decide +kernel
theorem gm_d_Judge_settleBeginnings_13 : decode gm_b_Judge_settleBeginnings 13 = .ok (.iconst 0, 1) := by decide +kernel
theorem gm_d_Judge_settleBeginnings_14 : decode gm_b_Judge_settleBeginnings 14 = .ok (.istore_n 2, 1) := by decide +kernel
theorem gm_d_Judge_settleBeginnings_15 : decode gm_b_Judge_settleBeginnings 15 = .ok (.iload_n 2, 1) := by decide +kernel
theorem gm_d_Judge_settleBeginnings_16 : decode gm_b_Judge_settleBeginnings 16 = .ok (.aload_n 0, 1) := by decide +kernel
theorem gm_d_Judge_settleBeginnings_17 : decode gm_b_Judge_settleBeginnings 17 = .ok (.getfield 9, 3) := by decide +kernel
theorem gm_d_Judge_settleBeginnings_20 : decode gm_b_Judge_settleBeginnings 20 = .ok (.getfield 64, 3) := by decide +kernel
theorem gm_d_Judge_settleBeginnings_23 : decode gm_b_Judge_settleBeginnings 23 = .ok (.if_icmp .ge 23, 3) := by decide +kernel
theorem gm_d_Judge_settleBeginnings_26 : decode gm_b_Judge_settleBeginnings 26 = .ok (.aload_n 0, 1) := by decide +kernel
theorem gm_d_Judge_settleBeginnings_27 : decode gm_b_Judge_settleBeginnings 27 = .ok (.getfield 9, 3) := by decide +kernel
theorem gm_d_Judge_settleBeginnings_30 : decode gm_b_Judge_settleBeginnings 30 = .ok (.getfield 51, 3) := by decide +kernel
theorem gm_d_Judge_settleBeginnings_33 : decode gm_b_Judge_settleBeginnings 33 = .ok (.iload_n 2, 1) := by decide +kernel
theorem gm_d_Judge_settleBeginnings_34 : decode gm_b_Judge_settleBeginnings 34 = .ok (.aload_n 0, 1) := by decide +kernel
theorem gm_d_Judge_settleBeginnings_35 : decode gm_b_Judge_settleBeginnings 35 = .ok (.iload_n 2, 1) := by decide +kernel
theorem gm_d_Judge_settleBeginnings_36 : decode gm_b_Judge_settleBeginnings 36 = .ok (.invokevirtual 85, 3) := by decide +kernel
theorem gm_d_Judge_settleBeginnings_39 : decode gm_b_Judge_settleBeginnings 39 = .ok (.iastore, 1) := by decide +kernel
theorem gm_d_Judge_settleBeginnings_40 : decode gm_b_Judge_settleBeginnings 40 = .ok (.iinc 2 1, 3) := by decide +kernel
theorem gm_d_Judge_settleBeginnings_43 : decode gm_b_Judge_settleBeginnings 43 = .ok (.goto (-28), 3) := by decide +kernel
theorem gm_d_Judge_settleBeginnings_46 : decode gm_b_Judge_settleBeginnings 46 = .ok (.iinc 1 1, 3) := by decide +kernel
theorem gm_d_Judge_settleBeginnings_49 : decode gm_b_Judge_settleBeginnings 49 = .ok (.goto (-47), 3) := by decide +kernel
theorem gm_d_Judge_settleBeginnings_52 : decode gm_b_Judge_settleBeginnings 52 = .ok (.return_, 1) := by decide +kernel
theorem gm_d_Judge_settleHeads_0 : decode gm_b_Judge_settleHeads 0 = .ok (.iconst 0, 1) := by decide +kernel
theorem gm_d_Judge_settleHeads_1 : decode gm_b_Judge_settleHeads 1 = .ok (.istore_n 1, 1) := by decide +kernel
theorem gm_d_Judge_settleHeads_2 : decode gm_b_Judge_settleHeads 2 = .ok (.iload_n 1, 1) := by decide +kernel
theorem gm_d_Judge_settleHeads_3 : decode gm_b_Judge_settleHeads 3 = .ok (.aload_n 0, 1) := by decide +kernel
theorem gm_d_Judge_settleHeads_4 : decode gm_b_Judge_settleHeads 4 = .ok (.getfield 9, 3) := by decide +kernel
theorem gm_d_Judge_settleHeads_7 : decode gm_b_Judge_settleHeads 7 = .ok (.getfield 15, 3) := by decide +kernel
theorem gm_d_Judge_settleHeads_10 : decode gm_b_Judge_settleHeads 10 = .ok (.if_icmp .gt 33, 3) := by decide +kernel
theorem gm_d_Judge_settleHeads_13 : decode gm_b_Judge_settleHeads 13 = .ok (.iconst 0, 1) := by decide +kernel
theorem gm_d_Judge_settleHeads_14 : decode gm_b_Judge_settleHeads 14 = .ok (.istore_n 2, 1) := by decide +kernel
theorem gm_d_Judge_settleHeads_15 : decode gm_b_Judge_settleHeads 15 = .ok (.iload_n 2, 1) := by decide +kernel
theorem gm_d_Judge_settleHeads_16 : decode gm_b_Judge_settleHeads 16 = .ok (.aload_n 0, 1) := by decide +kernel
theorem gm_d_Judge_settleHeads_17 : decode gm_b_Judge_settleHeads 17 = .ok (.getfield 9, 3) := by decide +kernel
theorem gm_d_Judge_settleHeads_20 : decode gm_b_Judge_settleHeads 20 = .ok (.getfield 64, 3) := by decide +kernel
theorem gm_d_Judge_settleHeads_23 : decode gm_b_Judge_settleHeads 23 = .ok (.if_icmp .ge 14, 3) := by decide +kernel
theorem gm_d_Judge_settleHeads_26 : decode gm_b_Judge_settleHeads 26 = .ok (.aload_n 0, 1) := by decide +kernel
theorem gm_d_Judge_settleHeads_27 : decode gm_b_Judge_settleHeads 27 = .ok (.iload_n 2, 1) := by decide +kernel
theorem gm_d_Judge_settleHeads_28 : decode gm_b_Judge_settleHeads 28 = .ok (.invokevirtual 92, 3) := by decide +kernel
theorem gm_d_Judge_settleHeads_31 : decode gm_b_Judge_settleHeads 31 = .ok (.iinc 2 1, 3) := by decide +kernel
theorem gm_d_Judge_settleHeads_34 : decode gm_b_Judge_settleHeads 34 = .ok (.goto (-19), 3) := by decide +kernel
theorem gm_d_Judge_settleHeads_37 : decode gm_b_Judge_settleHeads 37 = .ok (.iinc 1 1, 3) := by decide +kernel
theorem gm_d_Judge_settleHeads_40 : decode gm_b_Judge_settleHeads 40 = .ok (.goto (-38), 3) := by decide +kernel
theorem gm_d_Judge_settleHeads_43 : decode gm_b_Judge_settleHeads 43 = .ok (.return_, 1) := by decide +kernel
theorem gm_d_Judge_firstRunaway_0 : decode gm_b_Judge_firstRunaway 0 = .ok (.aload_n 0, 1) := by decide +kernel
theorem gm_d_Judge_firstRunaway_1 : decode gm_b_Judge_firstRunaway 1 = .ok (.invokevirtual 45, 3) := by decide +kernel
theorem gm_d_Judge_firstRunaway_4 : decode gm_b_Judge_firstRunaway 4 = .ok (.aload_n 0, 1) := by decide +kernel
theorem gm_d_Judge_firstRunaway_5 : decode gm_b_Judge_firstRunaway 5 = .ok (.invokevirtual 48, 3) := by decide +kernel
theorem gm_d_Judge_firstRunaway_8 : decode gm_b_Judge_firstRunaway 8 = .ok (.iconst 0, 1) := by decide +kernel
theorem gm_d_Judge_firstRunaway_9 : decode gm_b_Judge_firstRunaway 9 = .ok (.istore_n 1, 1) := by decide +kernel
theorem gm_d_Judge_firstRunaway_10 : decode gm_b_Judge_firstRunaway 10 = .ok (.iload_n 1, 1) := by decide +kernel
theorem gm_d_Judge_firstRunaway_11 : decode gm_b_Judge_firstRunaway 11 = .ok (.aload_n 0, 1) := by decide +kernel
theorem gm_d_Judge_firstRunaway_12 : decode gm_b_Judge_firstRunaway 12 = .ok (.getfield 9, 3) := by decide +kernel
theorem gm_d_Judge_firstRunaway_15 : decode gm_b_Judge_firstRunaway 15 = .ok (.getfield 15, 3) := by decide +kernel
theorem gm_d_Judge_firstRunaway_18 : decode gm_b_Judge_firstRunaway 18 = .ok (.if_icmp .ge 61, 3) := by decide +kernel
theorem gm_d_Judge_firstRunaway_21 : decode gm_b_Judge_firstRunaway 21 = .ok (.aload_n 0, 1) := by decide +kernel
theorem gm_d_Judge_firstRunaway_22 : decode gm_b_Judge_firstRunaway 22 = .ok (.getfield 9, 3) := by decide +kernel
theorem gm_d_Judge_firstRunaway_25 : decode gm_b_Judge_firstRunaway 25 = .ok (.getfield 51, 3) := by decide +kernel
theorem gm_d_Judge_firstRunaway_28 : decode gm_b_Judge_firstRunaway 28 = .ok (.aload_n 0, 1) := by decide +kernel
theorem gm_d_Judge_firstRunaway_29 : decode gm_b_Judge_firstRunaway 29 = .ok (.getfield 9, 3) := by decide +kernel
theorem gm_d_Judge_firstRunaway_32 : decode gm_b_Judge_firstRunaway 32 = .ok (.getfield 33, 3) := by decide +kernel
theorem gm_d_Judge_firstRunaway_35 : decode gm_b_Judge_firstRunaway 35 = .ok (.iload_n 1, 1) := by decide +kernel
theorem gm_d_Judge_firstRunaway_36 : decode gm_b_Judge_firstRunaway 36 = .ok (.iaload, 1) := by decide +kernel
theorem gm_d_Judge_firstRunaway_37 : decode gm_b_Judge_firstRunaway 37 = .ok (.iaload, 1) := by decide +kernel
theorem gm_d_Judge_firstRunaway_38 : decode gm_b_Judge_firstRunaway 38 = .ok (.iload_n 1, 1) := by decide +kernel
theorem gm_d_Judge_firstRunaway_39 : decode gm_b_Judge_firstRunaway 39 = .ok (.ishr, 1) := by decide +kernel
theorem gm_d_Judge_firstRunaway_40 : decode gm_b_Judge_firstRunaway 40 = .ok (.iconst 1, 1) := by decide +kernel
theorem gm_d_Judge_firstRunaway_41 : decode gm_b_Judge_firstRunaway 41 = .ok (.iand, 1) := by decide +kernel
theorem gm_d_Judge_firstRunaway_42 : decode gm_b_Judge_firstRunaway 42 = .ok (.ifCond .eq 7, 3) := by decide +kernel
theorem gm_d_Judge_firstRunaway_45 : decode gm_b_Judge_firstRunaway 45 = .ok (.iconst 1, 1) := by decide +kernel
theorem gm_d_Judge_firstRunaway_46 : decode gm_b_Judge_firstRunaway 46 = .ok (.goto 4, 3) := by decide +kernel
theorem gm_d_Judge_firstRunaway_49 : decode gm_b_Judge_firstRunaway 49 = .ok (.iconst 0, 1) := by decide +kernel
theorem gm_d_Judge_firstRunaway_50 : decode gm_b_Judge_firstRunaway 50 = .ok (.istore_n 2, 1) := by decide +kernel
theorem gm_d_Judge_firstRunaway_51 : decode gm_b_Judge_firstRunaway 51 = .ok (.iload_n 2, 1) := by decide +kernel
theorem gm_d_Judge_firstRunaway_52 : decode gm_b_Judge_firstRunaway 52 = .ok (.ifCond .ne 11, 3) := by decide +kernel
theorem gm_d_Judge_firstRunaway_55 : decode gm_b_Judge_firstRunaway 55 = .ok (.aload_n 0, 1) := by decide +kernel
theorem gm_d_Judge_firstRunaway_56 : decode gm_b_Judge_firstRunaway 56 = .ok (.iload_n 1, 1) := by decide +kernel
theorem gm_d_Judge_firstRunaway_57 : decode gm_b_Judge_firstRunaway 57 = .ok (.invokevirtual 54, 3) := by decide +kernel
theorem gm_d_Judge_firstRunaway_60 : decode gm_b_Judge_firstRunaway 60 = .ok (.ifCond .eq 13, 3) := by decide +kernel
theorem gm_d_Judge_firstRunaway_63 : decode gm_b_Judge_firstRunaway 63 = .ok (.aload_n 0, 1) := by decide +kernel
theorem gm_d_Judge_firstRunaway_64 : decode gm_b_Judge_firstRunaway 64 = .ok (.getfield 9, 3) := by decide +kernel
theorem gm_d_Judge_firstRunaway_67 : decode gm_b_Judge_firstRunaway 67 = .ok (.getfield 25, 3) := by decide +kernel
theorem gm_d_Judge_firstRunaway_70 : decode gm_b_Judge_firstRunaway 70 = .ok (.iload_n 1, 1) := by decide +kernel
theorem gm_d_Judge_firstRunaway_71 : decode gm_b_Judge_firstRunaway 71 = .ok (.iaload, 1) := by decide +kernel
theorem gm_d_Judge_firstRunaway_72 : decode gm_b_Judge_firstRunaway 72 = .ok (.ireturn, 1) := by decide +kernel
theorem gm_d_Judge_firstRunaway_73 : decode gm_b_Judge_firstRunaway 73 = .ok (.iinc 1 1, 3) := by decide +kernel
theorem gm_d_Judge_firstRunaway_76 : decode gm_b_Judge_firstRunaway 76 = .ok (.goto (-66), 3) := by decide +kernel
theorem gm_d_Judge_firstRunaway_79 : decode gm_b_Judge_firstRunaway 79 = .ok (.iconst (-1), 1) := by decide +kernel
theorem gm_d_Judge_firstRunaway_80 : decode gm_b_Judge_firstRunaway 80 = .ok (.ireturn, 1) := by decide +kernel
theorem gm_d_Code_operation_0 : decode gm_b_Code_operation 0 = .ok (.iload_n 1, 1) := by decide +kernel
theorem gm_d_Code_operation_1 : decode gm_b_Code_operation 1 = .ok (.ifCond .lt 20, 3) := by decide +kernel
theorem gm_d_Code_operation_4 : decode gm_b_Code_operation 4 = .ok (.iload_n 1, 1) := by decide +kernel
theorem gm_d_Code_operation_5 : decode gm_b_Code_operation 5 = .ok (.aload_n 0, 1) := by decide +kernel
theorem gm_d_Code_operation_6 : decode gm_b_Code_operation 6 = .ok (.getfield 24, 3) := by decide +kernel
theorem gm_d_Code_operation_9 : decode gm_b_Code_operation 9 = .ok (.if_icmp .ge 12, 3) := by decide +kernel
theorem gm_d_Code_operation_12 : decode gm_b_Code_operation 12 = .ok (.aload_n 0, 1) := by decide +kernel
theorem gm_d_Code_operation_13 : decode gm_b_Code_operation 13 = .ok (.getfield 9, 3) := by decide +kernel
theorem gm_d_Code_operation_16 : decode gm_b_Code_operation 16 = .ok (.iload_n 1, 1) := by decide +kernel
theorem gm_d_Code_operation_17 : decode gm_b_Code_operation 17 = .ok (.iaload, 1) := by decide +kernel
theorem gm_d_Code_operation_18 : decode gm_b_Code_operation 18 = .ok (.goto 5, 3) := by decide +kernel
theorem gm_d_Code_operation_21 : decode gm_b_Code_operation 21 = .ok (.bipush 12, 2) := by decide +kernel
theorem gm_d_Code_operation_23 : decode gm_b_Code_operation 23 = .ok (.ireturn, 1) := by decide +kernel
theorem gm_d_Code_operand_0 : decode gm_b_Code_operand 0 = .ok (.iload_n 1, 1) := by decide +kernel
theorem gm_d_Code_operand_1 : decode gm_b_Code_operand 1 = .ok (.ifCond .lt 20, 3) := by decide +kernel
theorem gm_d_Code_operand_4 : decode gm_b_Code_operand 4 = .ok (.iload_n 1, 1) := by decide +kernel
theorem gm_d_Code_operand_5 : decode gm_b_Code_operand 5 = .ok (.aload_n 0, 1) := by decide +kernel
theorem gm_d_Code_operand_6 : decode gm_b_Code_operand 6 = .ok (.getfield 24, 3) := by decide +kernel
theorem gm_d_Code_operand_9 : decode gm_b_Code_operand 9 = .ok (.if_icmp .ge 12, 3) := by decide +kernel
theorem gm_d_Code_operand_12 : decode gm_b_Code_operand 12 = .ok (.aload_n 0, 1) := by decide +kernel
theorem gm_d_Code_operand_13 : decode gm_b_Code_operand 13 = .ok (.getfield 15, 3) := by decide +kernel
theorem gm_d_Code_operand_16 : decode gm_b_Code_operand 16 = .ok (.iload_n 1, 1) := by decide +kernel
theorem gm_d_Code_operand_17 : decode gm_b_Code_operand 17 = .ok (.iaload, 1) := by decide +kernel
theorem gm_d_Code_operand_18 : decode gm_b_Code_operand 18 = .ok (.goto 4, 3) := by decide +kernel
theorem gm_d_Code_operand_21 : decode gm_b_Code_operand 21 = .ok (.iconst (-1), 1) := by decide +kernel
theorem gm_d_Code_operand_22 : decode gm_b_Code_operand 22 = .ok (.ireturn, 1) := by decide +kernel
theorem gm_d_Code_target_0 : decode gm_b_Code_target 0 = .ok (.iload_n 1, 1) := by decide +kernel
theorem gm_d_Code_target_1 : decode gm_b_Code_target 1 = .ok (.ifCond .lt 20, 3) := by decide +kernel
theorem gm_d_Code_target_4 : decode gm_b_Code_target 4 = .ok (.iload_n 1, 1) := by decide +kernel
theorem gm_d_Code_target_5 : decode gm_b_Code_target 5 = .ok (.aload_n 0, 1) := by decide +kernel
theorem gm_d_Code_target_6 : decode gm_b_Code_target 6 = .ok (.getfield 24, 3) := by decide +kernel
theorem gm_d_Code_target_9 : decode gm_b_Code_target 9 = .ok (.if_icmp .ge 12, 3) := by decide +kernel
theorem gm_d_Code_target_12 : decode gm_b_Code_target 12 = .ok (.aload_n 0, 1) := by decide +kernel
theorem gm_d_Code_target_13 : decode gm_b_Code_target 13 = .ok (.getfield 18, 3) := by decide +kernel
theorem gm_d_Code_target_16 : decode gm_b_Code_target 16 = .ok (.iload_n 1, 1) := by decide +kernel
theorem gm_d_Code_target_17 : decode gm_b_Code_target 17 = .ok (.iaload, 1) := by decide +kernel
theorem gm_d_Code_target_18 : decode gm_b_Code_target 18 = .ok (.goto 4, 3) := by decide +kernel
theorem gm_d_Code_target_21 : decode gm_b_Code_target 21 = .ok (.iconst (-1), 1) := by decide +kernel
theorem gm_d_Code_target_22 : decode gm_b_Code_target 22 = .ok (.ireturn, 1) := by decide +kernel
theorem gm_d_Code_start_0 : decode gm_b_Code_start 0 = .ok (.iload_n 1, 1) := by decide +kernel
theorem gm_d_Code_start_1 : decode gm_b_Code_start 1 = .ok (.ifCond .lt 23, 3) := by decide +kernel
theorem gm_d_Code_start_4 : decode gm_b_Code_start 4 = .ok (.iload_n 1, 1) := by decide +kernel
theorem gm_d_Code_start_5 : decode gm_b_Code_start 5 = .ok (.aload_n 0, 1) := by decide +kernel
theorem gm_d_Code_start_6 : decode gm_b_Code_start 6 = .ok (.getfield 28, 3) := by decide +kernel
theorem gm_d_Code_start_9 : decode gm_b_Code_start 9 = .ok (.getfield 32, 3) := by decide +kernel
theorem gm_d_Code_start_12 : decode gm_b_Code_start 12 = .ok (.if_icmp .ge 12, 3) := by decide +kernel
theorem gm_d_Code_start_15 : decode gm_b_Code_start 15 = .ok (.aload_n 0, 1) := by decide +kernel
theorem gm_d_Code_start_16 : decode gm_b_Code_start 16 = .ok (.getfield 21, 3) := by decide +kernel
theorem gm_d_Code_start_19 : decode gm_b_Code_start 19 = .ok (.iload_n 1, 1) := by decide +kernel
theorem gm_d_Code_start_20 : decode gm_b_Code_start 20 = .ok (.iaload, 1) := by decide +kernel
theorem gm_d_Code_start_21 : decode gm_b_Code_start 21 = .ok (.goto 4, 3) := by decide +kernel
theorem gm_d_Code_start_24 : decode gm_b_Code_start 24 = .ok (.iconst (-1), 1) := by decide +kernel
theorem gm_d_Code_start_25 : decode gm_b_Code_start 25 = .ok (.ireturn, 1) := by decide +kernel
theorem gm_d_Code_add_0 : decode gm_b_Code_add 0 = .ok (.aload_n 0, 1) := by decide +kernel
theorem gm_d_Code_add_1 : decode gm_b_Code_add 1 = .ok (.getfield 24, 3) := by decide +kernel
theorem gm_d_Code_add_4 : decode gm_b_Code_add 4 = .ok (.sipush 200, 3) := by decide +kernel
theorem gm_d_Code_add_7 : decode gm_b_Code_add 7 = .ok (.if_icmp .lt 5, 3) := by decide +kernel
theorem gm_d_Code_add_10 : decode gm_b_Code_add 10 = .ok (.iconst (-1), 1) := by decide +kernel
theorem gm_d_Code_add_11 : decode gm_b_Code_add 11 = .ok (.ireturn, 1) := by decide +kernel
theorem gm_d_Code_add_12 : decode gm_b_Code_add 12 = .ok (.aload_n 0, 1) := by decide +kernel
theorem gm_d_Code_add_13 : decode gm_b_Code_add 13 = .ok (.getfield 9, 3) := by decide +kernel
theorem gm_d_Code_add_16 : decode gm_b_Code_add 16 = .ok (.aload_n 0, 1) := by decide +kernel
theorem gm_d_Code_add_17 : decode gm_b_Code_add 17 = .ok (.getfield 24, 3) := by decide +kernel
theorem gm_d_Code_add_20 : decode gm_b_Code_add 20 = .ok (.iload_n 1, 1) := by decide +kernel
theorem gm_d_Code_add_21 : decode gm_b_Code_add 21 = .ok (.iastore, 1) := by decide +kernel
theorem gm_d_Code_add_22 : decode gm_b_Code_add 22 = .ok (.aload_n 0, 1) := by decide +kernel
theorem gm_d_Code_add_23 : decode gm_b_Code_add 23 = .ok (.getfield 15, 3) := by decide +kernel
theorem gm_d_Code_add_26 : decode gm_b_Code_add 26 = .ok (.aload_n 0, 1) := by decide +kernel
theorem gm_d_Code_add_27 : decode gm_b_Code_add 27 = .ok (.getfield 24, 3) := by decide +kernel
theorem gm_d_Code_add_30 : decode gm_b_Code_add 30 = .ok (.iload_n 2, 1) := by decide +kernel
theorem gm_d_Code_add_31 : decode gm_b_Code_add 31 = .ok (.iastore, 1) := by decide +kernel
theorem gm_d_Code_add_32 : decode gm_b_Code_add 32 = .ok (.aload_n 0, 1) := by decide +kernel
theorem gm_d_Code_add_33 : decode gm_b_Code_add 33 = .ok (.getfield 18, 3) := by decide +kernel
theorem gm_d_Code_add_36 : decode gm_b_Code_add 36 = .ok (.aload_n 0, 1) := by decide +kernel
theorem gm_d_Code_add_37 : decode gm_b_Code_add 37 = .ok (.getfield 24, 3) := by decide +kernel
theorem gm_d_Code_add_40 : decode gm_b_Code_add 40 = .ok (.iconst (-1), 1) := by decide +kernel
theorem gm_d_Code_add_41 : decode gm_b_Code_add 41 = .ok (.iastore, 1) := by decide +kernel
theorem gm_d_Code_add_42 : decode gm_b_Code_add 42 = .ok (.aload_n 0, 1) := by decide +kernel
theorem gm_d_Code_add_43 : decode gm_b_Code_add 43 = .ok (.dup, 1) := by decide +kernel
theorem gm_d_Code_add_44 : decode gm_b_Code_add 44 = .ok (.getfield 24, 3) := by decide +kernel
theorem gm_d_Code_add_47 : decode gm_b_Code_add 47 = .ok (.iconst 1, 1) := by decide +kernel
theorem gm_d_Code_add_48 : decode gm_b_Code_add 48 = .ok (.iadd, 1) := by decide +kernel
theorem gm_d_Code_add_49 : decode gm_b_Code_add 49 = .ok (.putfield 24, 3) := by decide +kernel
theorem gm_d_Code_add_52 : decode gm_b_Code_add 52 = .ok (.aload_n 0, 1) := by decide +kernel
theorem gm_d_Code_add_53 : decode gm_b_Code_add 53 = .ok (.getfield 24, 3) := by decide +kernel
theorem gm_d_Code_add_56 : decode gm_b_Code_add 56 = .ok (.iconst 1, 1) := by decide +kernel
theorem gm_d_Code_add_57 : decode gm_b_Code_add 57 = .ok (.isub, 1) := by decide +kernel
theorem gm_d_Code_add_58 : decode gm_b_Code_add 58 = .ok (.ireturn, 1) := by decide +kernel
theorem gm_d_Code_aim_0 : decode gm_b_Code_aim 0 = .ok (.iload_n 1, 1) := by decide +kernel
theorem gm_d_Code_aim_1 : decode gm_b_Code_aim 1 = .ok (.ifCond .lt 21, 3) := by decide +kernel
theorem gm_d_Code_aim_4 : decode gm_b_Code_aim 4 = .ok (.iload_n 1, 1) := by decide +kernel
theorem gm_d_Code_aim_5 : decode gm_b_Code_aim 5 = .ok (.aload_n 0, 1) := by decide +kernel
theorem gm_d_Code_aim_6 : decode gm_b_Code_aim 6 = .ok (.getfield 24, 3) := by decide +kernel
theorem gm_d_Code_aim_9 : decode gm_b_Code_aim 9 = .ok (.if_icmp .ge 13, 3) := by decide +kernel
theorem gm_d_Code_aim_12 : decode gm_b_Code_aim 12 = .ok (.aload_n 0, 1) := by decide +kernel
theorem gm_d_Code_aim_13 : decode gm_b_Code_aim 13 = .ok (.getfield 18, 3) := by decide +kernel
theorem gm_d_Code_aim_16 : decode gm_b_Code_aim 16 = .ok (.iload_n 1, 1) := by decide +kernel
theorem gm_d_Code_aim_17 : decode gm_b_Code_aim 17 = .ok (.aload_n 0, 1) := by decide +kernel
theorem gm_d_Code_aim_18 : decode gm_b_Code_aim 18 = .ok (.getfield 24, 3) := by decide +kernel
theorem gm_d_Code_aim_21 : decode gm_b_Code_aim 21 = .ok (.iastore, 1) := by decide +kernel
theorem gm_d_Code_aim_22 : decode gm_b_Code_aim 22 = .ok (.return_, 1) := by decide +kernel
theorem gm_d_Code_writeLook_0 : decode gm_b_Code_writeLook 0 = .ok (.aload_n 0, 1) := by decide +kernel
theorem gm_d_Code_writeLook_1 : decode gm_b_Code_writeLook 1 = .ok (.getfield 28, 3) := by decide +kernel
theorem gm_d_Code_writeLook_4 : decode gm_b_Code_writeLook 4 = .ok (.getfield 100, 3) := by decide +kernel
theorem gm_d_Code_writeLook_7 : decode gm_b_Code_writeLook 7 = .ok (.iload_n 1, 1) := by decide +kernel
theorem gm_d_Code_writeLook_8 : decode gm_b_Code_writeLook 8 = .ok (.baload, 1) := by decide +kernel
theorem gm_d_Code_writeLook_9 : decode gm_b_Code_writeLook 9 = .ok (.ifCond .eq 7, 3) := by decide +kernel
theorem gm_d_Code_writeLook_12 : decode gm_b_Code_writeLook 12 = .ok (.iconst (-1), 1) := by decide +kernel
theorem gm_d_Code_writeLook_13 : decode gm_b_Code_writeLook 13 = .ok (.goto 9, 3) := by decide +kernel
theorem gm_d_Code_writeLook_16 : decode gm_b_Code_writeLook 16 = .ok (.aload_n 0, 1) := by decide +kernel
theorem gm_d_Code_writeLook_17 : decode gm_b_Code_writeLook 17 = .ok (.iconst 1, 1) := by decide +kernel
theorem gm_d_Code_writeLook_18 : decode gm_b_Code_writeLook 18 = .ok (.iload_n 1, 1) := by decide +kernel
theorem gm_d_Code_writeLook_19 : decode gm_b_Code_writeLook 19 = .ok (.invokevirtual 37, 3) := by decide +kernel
theorem gm_d_Code_writeLook_22 : decode gm_b_Code_writeLook 22 = .ok (.ireturn, 1) := by decide +kernel
theorem gm_d_Code_aimCommitsFrom_0 : decode gm_b_Code_aimCommitsFrom 0 = .ok (.iload_n 1, 1) := by decide +kernel
theorem gm_d_Code_aimCommitsFrom_1 : decode gm_b_Code_aimCommitsFrom 1 = .ok (.istore_n 2, 1) := by decide +kernel
theorem gm_d_Code_aimCommitsFrom_2 : decode gm_b_Code_aimCommitsFrom 2 = .ok (.iload_n 2, 1) := by decide +kernel
theorem gm_d_Code_aimCommitsFrom_3 : decode gm_b_Code_aimCommitsFrom 3 = .ok (.aload_n 0, 1) := by decide +kernel
theorem gm_d_Code_aimCommitsFrom_4 : decode gm_b_Code_aimCommitsFrom 4 = .ok (.getfield 24, 3) := by decide +kernel
theorem gm_d_Code_aimCommitsFrom_7 : decode gm_b_Code_aimCommitsFrom 7 = .ok (.if_icmp .ge 34, 3) := by decide +kernel
theorem gm_d_Code_aimCommitsFrom_10 : decode gm_b_Code_aimCommitsFrom 10 = .ok (.aload_n 0, 1) := by decide +kernel
theorem gm_d_Code_aimCommitsFrom_11 : decode gm_b_Code_aimCommitsFrom 11 = .ok (.getfield 9, 3) := by decide +kernel
theorem gm_d_Code_aimCommitsFrom_14 : decode gm_b_Code_aimCommitsFrom 14 = .ok (.iload_n 2, 1) := by decide +kernel
theorem gm_d_Code_aimCommitsFrom_15 : decode gm_b_Code_aimCommitsFrom 15 = .ok (.iaload, 1) := by decide +kernel
theorem gm_d_Code_aimCommitsFrom_16 : decode gm_b_Code_aimCommitsFrom 16 = .ok (.iconst 5, 1) := by decide +kernel
theorem gm_d_Code_aimCommitsFrom_17 : decode gm_b_Code_aimCommitsFrom 17 = .ok (.if_icmp .ne 18, 3) := by decide +kernel
theorem gm_d_Code_aimCommitsFrom_20 : decode gm_b_Code_aimCommitsFrom 20 = .ok (.aload_n 0, 1) := by decide +kernel
theorem gm_d_Code_aimCommitsFrom_21 : decode gm_b_Code_aimCommitsFrom 21 = .ok (.getfield 18, 3) := by decide +kernel
theorem gm_d_Code_aimCommitsFrom_24 : decode gm_b_Code_aimCommitsFrom 24 = .ok (.iload_n 2, 1) := by decide +kernel
theorem gm_d_Code_aimCommitsFrom_25 : decode gm_b_Code_aimCommitsFrom 25 = .ok (.iaload, 1) := by decide +kernel
theorem gm_d_Code_aimCommitsFrom_26 : decode gm_b_Code_aimCommitsFrom 26 = .ok (.iconst (-1), 1) := by decide +kernel
theorem gm_d_Code_aimCommitsFrom_27 : decode gm_b_Code_aimCommitsFrom 27 = .ok (.if_icmp .ne 8, 3) := by decide +kernel
theorem gm_d_Code_aimCommitsFrom_30 : decode gm_b_Code_aimCommitsFrom 30 = .ok (.aload_n 0, 1) := by decide +kernel
theorem gm_d_Code_aimCommitsFrom_31 : decode gm_b_Code_aimCommitsFrom 31 = .ok (.iload_n 2, 1) := by decide +kernel
theorem gm_d_Code_aimCommitsFrom_32 : decode gm_b_Code_aimCommitsFrom 32 = .ok (.invokevirtual 78, 3) := by decide +kernel
theorem gm_d_Code_aimCommitsFrom_35 : decode gm_b_Code_aimCommitsFrom 35 = .ok (.iinc 2 1, 3) := by decide +kernel
theorem gm_d_Code_aimCommitsFrom_38 : decode gm_b_Code_aimCommitsFrom 38 = .ok (.goto (-36), 3) := by decide +kernel
theorem gm_d_Code_aimCommitsFrom_41 : decode gm_b_Code_aimCommitsFrom 41 = .ok (.return_, 1) := by decide +kernel
theorem gm_d_Reader_beginsPiece_0 : decode gm_b_Reader_beginsPiece 0 = .ok (.iload_n 0, 1) := by decide +kernel
theorem gm_d_Reader_beginsPiece_1 : decode gm_b_Reader_beginsPiece 1 = .ok (.invokestatic 51, 3) := by decide +kernel
theorem gm_d_Reader_beginsPiece_4 : decode gm_b_Reader_beginsPiece 4 = .ok (.ifCond .ne 45, 3) := by decide +kernel
theorem gm_d_Reader_beginsPiece_7 : decode gm_b_Reader_beginsPiece 7 = .ok (.iload_n 0, 1) := by decide +kernel
theorem gm_d_Reader_beginsPiece_8 : decode gm_b_Reader_beginsPiece 8 = .ok (.bipush 38, 2) := by decide +kernel
theorem gm_d_Reader_beginsPiece_10 : decode gm_b_Reader_beginsPiece 10 = .ok (.if_icmp .eq 39, 3) := by decide +kernel
theorem gm_d_Reader_beginsPiece_13 : decode gm_b_Reader_beginsPiece 13 = .ok (.iload_n 0, 1) := by decide +kernel
theorem gm_d_Reader_beginsPiece_14 : decode gm_b_Reader_beginsPiece 14 = .ok (.bipush 33, 2) := by decide +kernel
theorem gm_d_Reader_beginsPiece_16 : decode gm_b_Reader_beginsPiece 16 = .ok (.if_icmp .eq 33, 3) := by decide +kernel
theorem gm_d_Reader_beginsPiece_19 : decode gm_b_Reader_beginsPiece 19 = .ok (.iload_n 0, 1) := by decide +kernel
theorem gm_d_Reader_beginsPiece_20 : decode gm_b_Reader_beginsPiece 20 = .ok (.bipush 39, 2) := by decide +kernel
theorem gm_d_Reader_beginsPiece_22 : decode gm_b_Reader_beginsPiece 22 = .ok (.if_icmp .eq 27, 3) := by decide +kernel
theorem gm_d_Reader_beginsPiece_25 : decode gm_b_Reader_beginsPiece 25 = .ok (.iload_n 0, 1) := by decide +kernel
theorem gm_d_Reader_beginsPiece_26 : decode gm_b_Reader_beginsPiece 26 = .ok (.bipush 91, 2) := by decide +kernel
theorem gm_d_Reader_beginsPiece_28 : decode gm_b_Reader_beginsPiece 28 = .ok (.if_icmp .eq 21, 3) := by decide +kernel
theorem gm_d_Reader_beginsPiece_31 : decode gm_b_Reader_beginsPiece 31 = .ok (.iload_n 0, 1) := by decide +kernel
theorem gm_d_Reader_beginsPiece_32 : decode gm_b_Reader_beginsPiece 32 = .ok (.bipush 46, 2) := by decide +kernel
theorem gm_d_Reader_beginsPiece_34 : decode gm_b_Reader_beginsPiece 34 = .ok (.if_icmp .eq 15, 3) := by decide +kernel
theorem gm_d_Reader_beginsPiece_37 : decode gm_b_Reader_beginsPiece 37 = .ok (.iload_n 0, 1) := by decide +kernel
theorem gm_d_Reader_beginsPiece_38 : decode gm_b_Reader_beginsPiece 38 = .ok (.bipush 40, 2) := by decide +kernel
theorem gm_d_Reader_beginsPiece_40 : decode gm_b_Reader_beginsPiece 40 = .ok (.if_icmp .eq 9, 3) := by decide +kernel
theorem gm_d_Reader_beginsPiece_43 : decode gm_b_Reader_beginsPiece 43 = .ok (.iload_n 0, 1) := by decide +kernel
theorem gm_d_Reader_beginsPiece_44 : decode gm_b_Reader_beginsPiece 44 = .ok (.bipush 123, 2) := by decide +kernel
theorem gm_d_Reader_beginsPiece_46 : decode gm_b_Reader_beginsPiece 46 = .ok (.if_icmp .ne 7, 3) := by decide +kernel
theorem gm_d_Reader_beginsPiece_49 : decode gm_b_Reader_beginsPiece 49 = .ok (.iconst 1, 1) := by decide +kernel
theorem gm_d_Reader_beginsPiece_50 : decode gm_b_Reader_beginsPiece 50 = .ok (.goto 4, 3) := by decide +kernel
theorem gm_d_Reader_beginsPiece_53 : decode gm_b_Reader_beginsPiece 53 = .ok (.iconst 0, 1) := by decide +kernel
theorem gm_d_Reader_beginsPiece_54 : decode gm_b_Reader_beginsPiece 54 = .ok (.ireturn, 1) := by decide +kernel
theorem gm_d_Reader_push_0 : decode gm_b_Reader_push 0 = .ok (.aload_n 0, 1) := by decide +kernel
theorem gm_d_Reader_push_1 : decode gm_b_Reader_push 1 = .ok (.getfield 15, 3) := by decide +kernel
theorem gm_d_Reader_push_4 : decode gm_b_Reader_push 4 = .ok (.bipush 75, 2) := by decide +kernel
theorem gm_d_Reader_push_6 : decode gm_b_Reader_push 6 = .ok (.if_icmp .ge 23, 3) := by decide +kernel
theorem gm_d_Reader_push_9 : decode gm_b_Reader_push 9 = .ok (.aload_n 0, 1) := by decide +kernel
theorem gm_d_Reader_push_10 : decode gm_b_Reader_push 10 = .ok (.getfield 9, 3) := by decide +kernel
theorem gm_d_Reader_push_13 : decode gm_b_Reader_push 13 = .ok (.aload_n 0, 1) := by decide +kernel
theorem gm_d_Reader_push_14 : decode gm_b_Reader_push 14 = .ok (.getfield 15, 3) := by decide +kernel
theorem gm_d_Reader_push_17 : decode gm_b_Reader_push 17 = .ok (.iload_n 1, 1) := by decide +kernel
theorem gm_d_Reader_push_18 : decode gm_b_Reader_push 18 = .ok (.iastore, 1) := by decide +kernel
theorem gm_d_Reader_push_19 : decode gm_b_Reader_push 19 = .ok (.aload_n 0, 1) := by decide +kernel
theorem gm_d_Reader_push_20 : decode gm_b_Reader_push 20 = .ok (.dup, 1) := by decide +kernel
theorem gm_d_Reader_push_21 : decode gm_b_Reader_push 21 = .ok (.getfield 15, 3) := by decide +kernel
theorem gm_d_Reader_push_24 : decode gm_b_Reader_push 24 = .ok (.iconst 1, 1) := by decide +kernel
theorem gm_d_Reader_push_25 : decode gm_b_Reader_push 25 = .ok (.iadd, 1) := by decide +kernel
theorem gm_d_Reader_push_26 : decode gm_b_Reader_push 26 = .ok (.putfield 15, 3) := by decide +kernel
theorem gm_d_Reader_push_29 : decode gm_b_Reader_push 29 = .ok (.return_, 1) := by decide +kernel
theorem gm_d_Reader_pushSet_0 : decode gm_b_Reader_pushSet 0 = .ok (.aload_n 0, 1) := by decide +kernel
theorem gm_d_Reader_pushSet_1 : decode gm_b_Reader_pushSet 1 = .ok (.getfield 30, 3) := by decide +kernel
theorem gm_d_Reader_pushSet_4 : decode gm_b_Reader_pushSet 4 = .ok (.iconst 0, 1) := by decide +kernel
theorem gm_d_Reader_pushSet_5 : decode gm_b_Reader_pushSet 5 = .ok (.iconst (-1), 1) := by decide +kernel
theorem gm_d_Reader_pushSet_6 : decode gm_b_Reader_pushSet 6 = .ok (.invokevirtual 90, 3) := by decide +kernel
theorem gm_d_Reader_pushSet_9 : decode gm_b_Reader_pushSet 9 = .ok (.istore_n 3, 1) := by decide +kernel
theorem gm_d_Reader_pushSet_10 : decode gm_b_Reader_pushSet 10 = .ok (.aload_n 0, 1) := by decide +kernel
theorem gm_d_Reader_pushSet_11 : decode gm_b_Reader_pushSet 11 = .ok (.getfield 30, 3) := by decide +kernel
theorem gm_d_Reader_pushSet_14 : decode gm_b_Reader_pushSet 14 = .ok (.iload_n 3, 1) := by decide +kernel
theorem gm_d_Reader_pushSet_15 : decode gm_b_Reader_pushSet 15 = .ok (.iload_n 1, 1) := by decide +kernel
theorem gm_d_Reader_pushSet_16 : decode gm_b_Reader_pushSet 16 = .ok (.iload_n 2, 1) := by decide +kernel
theorem gm_d_Reader_pushSet_17 : decode gm_b_Reader_pushSet 17 = .ok (.invokevirtual 106, 3) := by decide +kernel
theorem gm_d_Reader_pushSet_20 : decode gm_b_Reader_pushSet 20 = .ok (.aload_n 0, 1) := by decide +kernel
theorem gm_d_Reader_pushSet_21 : decode gm_b_Reader_pushSet 21 = .ok (.iload_n 3, 1) := by decide +kernel
theorem gm_d_Reader_pushSet_22 : decode gm_b_Reader_pushSet 22 = .ok (.invokevirtual 94, 3) := by decide +kernel
theorem gm_d_Reader_pushSet_25 : decode gm_b_Reader_pushSet 25 = .ok (.return_, 1) := by decide +kernel
theorem gm_d_Reader_take_0 : decode gm_b_Reader_take 0 = .ok (.aload_n 0, 1) := by decide +kernel
theorem gm_d_Reader_take_1 : decode gm_b_Reader_take 1 = .ok (.getfield 22, 3) := by decide +kernel
theorem gm_d_Reader_take_4 : decode gm_b_Reader_take 4 = .ok (.ifCond .ne 18, 3) := by decide +kernel
theorem gm_d_Reader_take_7 : decode gm_b_Reader_take 7 = .ok (.aload_n 0, 1) := by decide +kernel
theorem gm_d_Reader_take_8 : decode gm_b_Reader_take 8 = .ok (.getfield 26, 3) := by decide +kernel
theorem gm_d_Reader_take_11 : decode gm_b_Reader_take 11 = .ok (.aload_n 0, 1) := by decide +kernel
theorem gm_d_Reader_take_12 : decode gm_b_Reader_take 12 = .ok (.getfield 19, 3) := by decide +kernel
theorem gm_d_Reader_take_15 : decode gm_b_Reader_take 15 = .ok (.invokevirtual 47, 3) := by decide +kernel
theorem gm_d_Reader_take_18 : decode gm_b_Reader_take 18 = .ok (.iload_n 1, 1) := by decide +kernel
theorem gm_d_Reader_take_19 : decode gm_b_Reader_take 19 = .ok (.if_icmp .eq 5, 3) := by decide +kernel
theorem gm_d_Reader_take_22 : decode gm_b_Reader_take 22 = .ok (.iconst 0, 1) := by decide +kernel
theorem gm_d_Reader_take_23 : decode gm_b_Reader_take 23 = .ok (.ireturn, 1) := by decide +kernel
theorem gm_d_Reader_take_24 : decode gm_b_Reader_take 24 = .ok (.aload_n 0, 1) := by decide +kernel
theorem gm_d_Reader_take_25 : decode gm_b_Reader_take 25 = .ok (.dup, 1) := by decide +kernel
theorem gm_d_Reader_take_26 : decode gm_b_Reader_take 26 = .ok (.getfield 19, 3) := by decide +kernel
theorem gm_d_Reader_take_29 : decode gm_b_Reader_take 29 = .ok (.iconst 1, 1) := by decide +kernel
theorem gm_d_Reader_take_30 : decode gm_b_Reader_take 30 = .ok (.iadd, 1) := by decide +kernel
theorem gm_d_Reader_take_31 : decode gm_b_Reader_take 31 = .ok (.putfield 19, 3) := by decide +kernel
theorem gm_d_Reader_take_34 : decode gm_b_Reader_take 34 = .ok (.iconst 1, 1) := by decide +kernel
theorem gm_d_Reader_take_35 : decode gm_b_Reader_take 35 = .ok (.ireturn, 1) := by decide +kernel
theorem gm_d_Reader_need_0 : decode gm_b_Reader_need 0 = .ok (.aload_n 0, 1) := by decide +kernel
theorem gm_d_Reader_need_1 : decode gm_b_Reader_need 1 = .ok (.iload_n 1, 1) := by decide +kernel
theorem gm_d_Reader_need_2 : decode gm_b_Reader_need 2 = .ok (.invokevirtual 74, 3) := by decide +kernel
theorem gm_d_Reader_need_5 : decode gm_b_Reader_need 5 = .ok (.ifCond .ne 8, 3) := by decide +kernel
theorem gm_d_Reader_need_8 : decode gm_b_Reader_need 8 = .ok (.aload_n 0, 1) := by decide +kernel
theorem gm_d_Reader_need_9 : decode gm_b_Reader_need 9 = .ok (.iconst 1, 1) := by decide +kernel
theorem gm_d_Reader_need_10 : decode gm_b_Reader_need 10 = .ok (.putfield 22, 3) := by decide +kernel
theorem gm_d_Reader_need_13 : decode gm_b_Reader_need 13 = .ok (.return_, 1) := by decide +kernel
theorem gm_d_Reader_join_0 : decode gm_b_Reader_join 0 = .ok (.aload_n 0, 1) := by decide +kernel
theorem gm_d_Reader_join_1 : decode gm_b_Reader_join 1 = .ok (.getfield 30, 3) := by decide +kernel
theorem gm_d_Reader_join_4 : decode gm_b_Reader_join 4 = .ok (.iload_n 1, 1) := by decide +kernel
theorem gm_d_Reader_join_5 : decode gm_b_Reader_join 5 = .ok (.iconst (-1), 1) := by decide +kernel
theorem gm_d_Reader_join_6 : decode gm_b_Reader_join 6 = .ok (.invokevirtual 90, 3) := by decide +kernel
theorem gm_d_Reader_join_9 : decode gm_b_Reader_join 9 = .ok (.istore_n 3, 1) := by decide +kernel
theorem gm_d_Reader_join_10 : decode gm_b_Reader_join 10 = .ok (.iload_n 2, 1) := by decide +kernel
theorem gm_d_Reader_join_11 : decode gm_b_Reader_join 11 = .ok (.istore 4, 2) := by decide +kernel
theorem gm_d_Reader_join_13 : decode gm_b_Reader_join 13 = .ok (.iload 4, 2) := by decide +kernel
theorem gm_d_Reader_join_15 : decode gm_b_Reader_join 15 = .ok (.aload_n 0, 1) := by decide +kernel
theorem gm_d_Reader_join_16 : decode gm_b_Reader_join 16 = .ok (.getfield 15, 3) := by decide +kernel
theorem gm_d_Reader_join_19 : decode gm_b_Reader_join 19 = .ok (.if_icmp .ge 24, 3) := by decide +kernel
theorem gm_d_Reader_join_22 : decode gm_b_Reader_join 22 = .ok (.aload_n 0, 1) := by decide +kernel
theorem gm_d_Reader_join_23 : decode gm_b_Reader_join 23 = .ok (.getfield 30, 3) := by decide +kernel
theorem gm_d_Reader_join_26 : decode gm_b_Reader_join 26 = .ok (.iload_n 3, 1) := by decide +kernel
theorem gm_d_Reader_join_27 : decode gm_b_Reader_join 27 = .ok (.aload_n 0, 1) := by decide +kernel
theorem gm_d_Reader_join_28 : decode gm_b_Reader_join 28 = .ok (.getfield 9, 3) := by decide +kernel
theorem gm_d_Reader_join_31 : decode gm_b_Reader_join 31 = .ok (.iload 4, 2) := by decide +kernel
theorem gm_d_Reader_join_33 : decode gm_b_Reader_join 33 = .ok (.iaload, 1) := by decide +kernel
theorem gm_d_Reader_join_34 : decode gm_b_Reader_join 34 = .ok (.invokevirtual 110, 3) := by decide +kernel
theorem gm_d_Reader_join_37 : decode gm_b_Reader_join 37 = .ok (.iinc 4 1, 3) := by decide +kernel
theorem gm_d_Reader_join_40 : decode gm_b_Reader_join 40 = .ok (.goto (-27), 3) := by decide +kernel
theorem gm_d_Reader_join_43 : decode gm_b_Reader_join 43 = .ok (.aload_n 0, 1) := by decide +kernel
theorem gm_d_Reader_join_44 : decode gm_b_Reader_join 44 = .ok (.iload_n 2, 1) := by decide +kernel
theorem gm_d_Reader_join_45 : decode gm_b_Reader_join 45 = .ok (.putfield 15, 3) := by decide +kernel
theorem gm_d_Reader_join_48 : decode gm_b_Reader_join 48 = .ok (.aload_n 0, 1) := by decide +kernel
theorem gm_d_Reader_join_49 : decode gm_b_Reader_join 49 = .ok (.iload_n 3, 1) := by decide +kernel
theorem gm_d_Reader_join_50 : decode gm_b_Reader_join 50 = .ok (.invokevirtual 94, 3) := by decide +kernel
theorem gm_d_Reader_join_53 : decode gm_b_Reader_join 53 = .ok (.return_, 1) := by decide +kernel
theorem gm_d_Reader_readRow_0 : decode gm_b_Reader_readRow 0 = .ok (.aload_n 0, 1) := by decide +kernel
theorem gm_d_Reader_readRow_1 : decode gm_b_Reader_readRow 1 = .ok (.getfield 15, 3) := by decide +kernel
theorem gm_d_Reader_readRow_4 : decode gm_b_Reader_readRow 4 = .ok (.istore_n 1, 1) := by decide +kernel
theorem gm_d_Reader_readRow_5 : decode gm_b_Reader_readRow 5 = .ok (.iconst 0, 1) := by decide +kernel
theorem gm_d_Reader_readRow_6 : decode gm_b_Reader_readRow 6 = .ok (.istore_n 2, 1) := by decide +kernel
theorem gm_d_Reader_readRow_7 : decode gm_b_Reader_readRow 7 = .ok (.iload_n 2, 1) := by decide +kernel
theorem gm_d_Reader_readRow_8 : decode gm_b_Reader_readRow 8 = .ok (.bipush 50, 2) := by decide +kernel
theorem gm_d_Reader_readRow_10 : decode gm_b_Reader_readRow 10 = .ok (.if_icmp .ge 76, 3) := by decide +kernel
theorem gm_d_Reader_readRow_13 : decode gm_b_Reader_readRow 13 = .ok (.aload_n 0, 1) := by decide +kernel
theorem gm_d_Reader_readRow_14 : decode gm_b_Reader_readRow 14 = .ok (.getfield 26, 3) := by decide +kernel
theorem gm_d_Reader_readRow_17 : decode gm_b_Reader_readRow 17 = .ok (.aload_n 0, 1) := by decide +kernel
theorem gm_d_Reader_readRow_18 : decode gm_b_Reader_readRow 18 = .ok (.getfield 19, 3) := by decide +kernel
theorem gm_d_Reader_readRow_21 : decode gm_b_Reader_readRow 21 = .ok (.invokevirtual 47, 3) := by decide +kernel
theorem gm_d_Reader_readRow_24 : decode gm_b_Reader_readRow 24 = .ok (.iconst (-1), 1) := by decide +kernel
theorem gm_d_Reader_readRow_25 : decode gm_b_Reader_readRow 25 = .ok (.if_icmp .eq 61, 3) := by decide +kernel
theorem gm_d_Reader_readRow_28 : decode gm_b_Reader_readRow 28 = .ok (.aload_n 0, 1) := by decide +kernel
theorem gm_d_Reader_readRow_29 : decode gm_b_Reader_readRow 29 = .ok (.getfield 26, 3) := by decide +kernel
theorem gm_d_Reader_readRow_32 : decode gm_b_Reader_readRow 32 = .ok (.aload_n 0, 1) := by decide +kernel
theorem gm_d_Reader_readRow_33 : decode gm_b_Reader_readRow 33 = .ok (.getfield 19, 3) := by decide +kernel
theorem gm_d_Reader_readRow_36 : decode gm_b_Reader_readRow 36 = .ok (.invokevirtual 47, 3) := by decide +kernel
theorem gm_d_Reader_readRow_39 : decode gm_b_Reader_readRow 39 = .ok (.bipush 39, 2) := by decide +kernel
theorem gm_d_Reader_readRow_41 : decode gm_b_Reader_readRow 41 = .ok (.if_icmp .eq 45, 3) := by decide +kernel
theorem gm_d_Reader_readRow_44 : decode gm_b_Reader_readRow 44 = .ok (.aload_n 0, 1) := by decide +kernel
theorem gm_d_Reader_readRow_45 : decode gm_b_Reader_readRow 45 = .ok (.aload_n 0, 1) := by decide +kernel
theorem gm_d_Reader_readRow_46 : decode gm_b_Reader_readRow 46 = .ok (.getfield 26, 3) := by decide +kernel
theorem gm_d_Reader_readRow_49 : decode gm_b_Reader_readRow 49 = .ok (.aload_n 0, 1) := by decide +kernel
theorem gm_d_Reader_readRow_50 : decode gm_b_Reader_readRow 50 = .ok (.getfield 19, 3) := by decide +kernel
theorem gm_d_Reader_readRow_53 : decode gm_b_Reader_readRow 53 = .ok (.invokevirtual 47, 3) := by decide +kernel
theorem gm_d_Reader_readRow_56 : decode gm_b_Reader_readRow 56 = .ok (.aload_n 0, 1) := by decide +kernel
theorem gm_d_Reader_readRow_57 : decode gm_b_Reader_readRow 57 = .ok (.getfield 26, 3) := by decide +kernel
theorem gm_d_Reader_readRow_60 : decode gm_b_Reader_readRow 60 = .ok (.aload_n 0, 1) := by decide +kernel
theorem gm_d_Reader_readRow_61 : decode gm_b_Reader_readRow 61 = .ok (.getfield 19, 3) := by decide +kernel
theorem gm_d_Reader_readRow_64 : decode gm_b_Reader_readRow 64 = .ok (.invokevirtual 47, 3) := by decide +kernel
theorem gm_d_Reader_readRow_67 : decode gm_b_Reader_readRow 67 = .ok (.invokevirtual 97, 3) := by decide +kernel
theorem gm_d_Reader_readRow_70 : decode gm_b_Reader_readRow 70 = .ok (.aload_n 0, 1) := by decide +kernel
theorem gm_d_Reader_readRow_71 : decode gm_b_Reader_readRow 71 = .ok (.dup, 1) := by decide +kernel
theorem gm_d_Reader_readRow_72 : decode gm_b_Reader_readRow 72 = .ok (.getfield 19, 3) := by decide +kernel
theorem gm_d_Reader_readRow_75 : decode gm_b_Reader_readRow 75 = .ok (.iconst 1, 1) := by decide +kernel
theorem gm_d_Reader_readRow_76 : decode gm_b_Reader_readRow 76 = .ok (.iadd, 1) := by decide +kernel
theorem gm_d_Reader_readRow_77 : decode gm_b_Reader_readRow 77 = .ok (.putfield 19, 3) := by decide +kernel
theorem gm_d_Reader_readRow_80 : decode gm_b_Reader_readRow 80 = .ok (.iinc 2 1, 3) := by decide +kernel
theorem gm_d_Reader_readRow_83 : decode gm_b_Reader_readRow 83 = .ok (.goto (-76), 3) := by decide +kernel
theorem gm_d_Reader_readRow_86 : decode gm_b_Reader_readRow 86 = .ok (.aload_n 0, 1) := by decide +kernel
theorem gm_d_Reader_readRow_87 : decode gm_b_Reader_readRow 87 = .ok (.getfield 15, 3) := by decide +kernel
theorem gm_d_Reader_readRow_90 : decode gm_b_Reader_readRow 90 = .ok (.iload_n 1, 1) := by decide +kernel
theorem gm_d_Reader_readRow_91 : decode gm_b_Reader_readRow 91 = .ok (.if_icmp .ne 8, 3) := by decide +kernel
theorem gm_d_Reader_readRow_94 : decode gm_b_Reader_readRow 94 = .ok (.aload_n 0, 1) := by decide +kernel
theorem gm_d_Reader_readRow_95 : decode gm_b_Reader_readRow 95 = .ok (.iconst 1, 1) := by decide +kernel
theorem gm_d_Reader_readRow_96 : decode gm_b_Reader_readRow 96 = .ok (.putfield 22, 3) := by decide +kernel
theorem gm_d_Reader_readRow_99 : decode gm_b_Reader_readRow 99 = .ok (.aload_n 0, 1) := by decide +kernel
theorem gm_d_Reader_readRow_100 : decode gm_b_Reader_readRow 100 = .ok (.bipush 39, 2) := by decide +kernel
theorem gm_d_Reader_readRow_102 : decode gm_b_Reader_readRow 102 = .ok (.invokevirtual 58, 3) := by decide +kernel
theorem gm_d_Reader_readRow_105 : decode gm_b_Reader_readRow 105 = .ok (.aload_n 0, 1) := by decide +kernel
theorem gm_d_Reader_readRow_106 : decode gm_b_Reader_readRow 106 = .ok (.iconst 2, 1) := by decide +kernel
theorem gm_d_Reader_readRow_107 : decode gm_b_Reader_readRow 107 = .ok (.iload_n 1, 1) := by decide +kernel
theorem gm_d_Reader_readRow_108 : decode gm_b_Reader_readRow 108 = .ok (.invokevirtual 78, 3) := by decide +kernel
theorem gm_d_Reader_readRow_111 : decode gm_b_Reader_readRow 111 = .ok (.return_, 1) := by decide +kernel
theorem gm_d_Reader_readClass_0 : decode gm_b_Reader_readClass 0 = .ok (.aload_n 0, 1) := by decide +kernel
theorem gm_d_Reader_readClass_1 : decode gm_b_Reader_readClass 1 = .ok (.getfield 30, 3) := by decide +kernel
theorem gm_d_Reader_readClass_4 : decode gm_b_Reader_readClass 4 = .ok (.iconst 0, 1) := by decide +kernel
theorem gm_d_Reader_readClass_5 : decode gm_b_Reader_readClass 5 = .ok (.iconst (-1), 1) := by decide +kernel
theorem gm_d_Reader_readClass_6 : decode gm_b_Reader_readClass 6 = .ok (.invokevirtual 90, 3) := by decide +kernel
theorem gm_d_Reader_readClass_9 : decode gm_b_Reader_readClass 9 = .ok (.istore_n 1, 1) := by decide +kernel
theorem gm_d_Reader_readClass_10 : decode gm_b_Reader_readClass 10 = .ok (.iconst 0, 1) := by decide +kernel
theorem gm_d_Reader_readClass_11 : decode gm_b_Reader_readClass 11 = .ok (.istore_n 2, 1) := by decide +kernel
theorem gm_d_Reader_readClass_12 : decode gm_b_Reader_readClass 12 = .ok (.iload_n 2, 1) := by decide +kernel
theorem gm_d_Reader_readClass_13 : decode gm_b_Reader_readClass 13 = .ok (.bipush 50, 2) := by decide +kernel
theorem gm_d_Reader_readClass_15 : decode gm_b_Reader_readClass 15 = .ok (.if_icmp .ge 142, 3) := by decide +kernel
theorem gm_d_Reader_readClass_18 : decode gm_b_Reader_readClass 18 = .ok (.aload_n 0, 1) := by decide +kernel
theorem gm_d_Reader_readClass_19 : decode gm_b_Reader_readClass 19 = .ok (.getfield 26, 3) := by decide +kernel
theorem gm_d_Reader_readClass_22 : decode gm_b_Reader_readClass 22 = .ok (.aload_n 0, 1) := by decide +kernel
theorem gm_d_Reader_readClass_23 : decode gm_b_Reader_readClass 23 = .ok (.getfield 19, 3) := by decide +kernel
theorem gm_d_Reader_readClass_26 : decode gm_b_Reader_readClass 26 = .ok (.invokevirtual 47, 3) := by decide +kernel
theorem gm_d_Reader_readClass_29 : decode gm_b_Reader_readClass 29 = .ok (.iconst (-1), 1) := by decide +kernel
theorem gm_d_Reader_readClass_30 : decode gm_b_Reader_readClass 30 = .ok (.if_icmp .eq 127, 3) := by decide +kernel
theorem gm_d_Reader_readClass_33 : decode gm_b_Reader_readClass 33 = .ok (.aload_n 0, 1) := by decide +kernel
theorem gm_d_Reader_readClass_34 : decode gm_b_Reader_readClass 34 = .ok (.getfield 26, 3) := by decide +kernel
theorem gm_d_Reader_readClass_37 : decode gm_b_Reader_readClass 37 = .ok (.aload_n 0, 1) := by decide +kernel
theorem gm_d_Reader_readClass_38 : decode gm_b_Reader_readClass 38 = .ok (.getfield 19, 3) := by decide +kernel
theorem gm_d_Reader_readClass_41 : decode gm_b_Reader_readClass 41 = .ok (.invokevirtual 47, 3) := by decide +kernel
theorem gm_d_Reader_readClass_44 : decode gm_b_Reader_readClass 44 = .ok (.bipush 93, 2) := by decide +kernel
theorem gm_d_Reader_readClass_46 : decode gm_b_Reader_readClass 46 = .ok (.if_icmp .eq 111, 3) := by decide +kernel
theorem gm_d_Reader_readClass_49 : decode gm_b_Reader_readClass 49 = .ok (.aload_n 0, 1) := by decide +kernel
theorem gm_d_Reader_readClass_50 : decode gm_b_Reader_readClass 50 = .ok (.getfield 26, 3) := by decide +kernel
theorem gm_d_Reader_readClass_53 : decode gm_b_Reader_readClass 53 = .ok (.aload_n 0, 1) := by decide +kernel
theorem gm_d_Reader_readClass_54 : decode gm_b_Reader_readClass 54 = .ok (.getfield 19, 3) := by decide +kernel
theorem gm_d_Reader_readClass_57 : decode gm_b_Reader_readClass 57 = .ok (.invokevirtual 47, 3) := by decide +kernel
theorem gm_d_Reader_readClass_60 : decode gm_b_Reader_readClass 60 = .ok (.istore_n 3, 1) := by decide +kernel
theorem gm_d_Reader_readClass_61 : decode gm_b_Reader_readClass 61 = .ok (.aload_n 0, 1) := by decide +kernel
theorem gm_d_Reader_readClass_62 : decode gm_b_Reader_readClass 62 = .ok (.getfield 26, 3) := by decide +kernel
theorem gm_d_Reader_readClass_65 : decode gm_b_Reader_readClass 65 = .ok (.aload_n 0, 1) := by decide +kernel
theorem gm_d_Reader_readClass_66 : decode gm_b_Reader_readClass 66 = .ok (.getfield 19, 3) := by decide +kernel
theorem gm_d_Reader_readClass_69 : decode gm_b_Reader_readClass 69 = .ok (.iconst 2, 1) := by decide +kernel
theorem gm_d_Reader_readClass_70 : decode gm_b_Reader_readClass 70 = .ok (.iadd, 1) := by decide +kernel
theorem gm_d_Reader_readClass_71 : decode gm_b_Reader_readClass 71 = .ok (.invokevirtual 47, 3) := by decide +kernel
theorem gm_d_Reader_readClass_74 : decode gm_b_Reader_readClass 74 = .ok (.istore 4, 2) := by decide +kernel
theorem gm_d_Reader_readClass_76 : decode gm_b_Reader_readClass 76 = .ok (.aload_n 0, 1) := by decide +kernel
theorem gm_d_Reader_readClass_77 : decode gm_b_Reader_readClass 77 = .ok (.getfield 26, 3) := by decide +kernel
theorem gm_d_Reader_readClass_80 : decode gm_b_Reader_readClass 80 = .ok (.aload_n 0, 1) := by decide +kernel
theorem gm_d_Reader_readClass_81 : decode gm_b_Reader_readClass 81 = .ok (.getfield 19, 3) := by decide +kernel
theorem gm_d_Reader_readClass_84 : decode gm_b_Reader_readClass 84 = .ok (.iconst 1, 1) := by decide +kernel
theorem gm_d_Reader_readClass_85 : decode gm_b_Reader_readClass 85 = .ok (.iadd, 1) := by decide +kernel
theorem gm_d_Reader_readClass_86 : decode gm_b_Reader_readClass 86 = .ok (.invokevirtual 47, 3) := by decide +kernel
theorem gm_d_Reader_readClass_89 : decode gm_b_Reader_readClass 89 = .ok (.bipush 45, 2) := by decide +kernel
theorem gm_d_Reader_readClass_91 : decode gm_b_Reader_readClass 91 = .ok (.if_icmp .ne 40, 3) := by decide +kernel
theorem gm_d_Reader_readClass_94 : decode gm_b_Reader_readClass 94 = .ok (.iload 4, 2) := by decide +kernel
theorem gm_d_Reader_readClass_96 : decode gm_b_Reader_readClass 96 = .ok (.bipush 93, 2) := by decide +kernel
theorem gm_d_Reader_readClass_98 : decode gm_b_Reader_readClass 98 = .ok (.if_icmp .eq 33, 3) := by decide +kernel
theorem gm_d_Reader_readClass_101 : decode gm_b_Reader_readClass 101 = .ok (.iload 4, 2) := by decide +kernel
theorem gm_d_Reader_readClass_103 : decode gm_b_Reader_readClass 103 = .ok (.iload_n 3, 1) := by decide +kernel
theorem gm_d_Reader_readClass_104 : decode gm_b_Reader_readClass 104 = .ok (.if_icmp .lt 27, 3) := by decide +kernel
theorem gm_d_Reader_readClass_107 : decode gm_b_Reader_readClass 107 = .ok (.aload_n 0, 1) := by decide +kernel
theorem gm_d_Reader_readClass_108 : decode gm_b_Reader_readClass 108 = .ok (.getfield 30, 3) := by decide +kernel
theorem gm_d_Reader_readClass_111 : decode gm_b_Reader_readClass 111 = .ok (.iload_n 1, 1) := by decide +kernel
theorem gm_d_Reader_readClass_112 : decode gm_b_Reader_readClass 112 = .ok (.iload_n 3, 1) := by decide +kernel
theorem gm_d_Reader_readClass_113 : decode gm_b_Reader_readClass 113 = .ok (.iload 4, 2) := by decide +kernel
theorem gm_d_Reader_readClass_115 : decode gm_b_Reader_readClass 115 = .ok (.invokevirtual 106, 3) := by decide +kernel
theorem gm_d_Reader_readClass_118 : decode gm_b_Reader_readClass 118 = .ok (.aload_n 0, 1) := by decide +kernel
theorem gm_d_Reader_readClass_119 : decode gm_b_Reader_readClass 119 = .ok (.dup, 1) := by decide +kernel
theorem gm_d_Reader_readClass_120 : decode gm_b_Reader_readClass 120 = .ok (.getfield 19, 3) := by decide +kernel
theorem gm_d_Reader_readClass_123 : decode gm_b_Reader_readClass 123 = .ok (.iconst 3, 1) := by decide +kernel
theorem gm_d_Reader_readClass_124 : decode gm_b_Reader_readClass 124 = .ok (.iadd, 1) := by decide +kernel
theorem gm_d_Reader_readClass_125 : decode gm_b_Reader_readClass 125 = .ok (.putfield 19, 3) := by decide +kernel
theorem gm_d_Reader_readClass_128 : decode gm_b_Reader_readClass 128 = .ok (.goto 23, 3) := by decide +kernel
theorem gm_d_Reader_readClass_131 : decode gm_b_Reader_readClass 131 = .ok (.aload_n 0, 1) := by decide +kernel
theorem gm_d_Reader_readClass_132 : decode gm_b_Reader_readClass 132 = .ok (.getfield 30, 3) := by decide +kernel
theorem gm_d_Reader_readClass_135 : decode gm_b_Reader_readClass 135 = .ok (.iload_n 1, 1) := by decide +kernel
theorem gm_d_Reader_readClass_136 : decode gm_b_Reader_readClass 136 = .ok (.iload_n 3, 1) := by decide +kernel
theorem gm_d_Reader_readClass_137 : decode gm_b_Reader_readClass 137 = .ok (.iload_n 3, 1) := by decide +kernel
theorem gm_d_Reader_readClass_138 : decode gm_b_Reader_readClass 138 = .ok (.invokevirtual 106, 3) := by decide +kernel
theorem gm_d_Reader_readClass_141 : decode gm_b_Reader_readClass 141 = .ok (.aload_n 0, 1) := by decide +kernel
theorem gm_d_Reader_readClass_142 : decode gm_b_Reader_readClass 142 = .ok (.dup, 1) := by decide +kernel
theorem gm_d_Reader_readClass_143 : decode gm_b_Reader_readClass 143 = .ok (.getfield 19, 3) := by decide +kernel
theorem gm_d_Reader_readClass_146 : decode gm_b_Reader_readClass 146 = .ok (.iconst 1, 1) := by decide +kernel
theorem gm_d_Reader_readClass_147 : decode gm_b_Reader_readClass 147 = .ok (.iadd, 1) := by decide +kernel
theorem gm_d_Reader_readClass_148 : decode gm_b_Reader_readClass 148 = .ok (.putfield 19, 3) := by decide +kernel
theorem gm_d_Reader_readClass_151 : decode gm_b_Reader_readClass 151 = .ok (.iinc 2 1, 3) := by decide +kernel
theorem gm_d_Reader_readClass_154 : decode gm_b_Reader_readClass 154 = .ok (.goto (-142), 3) := by decide +kernel
theorem gm_d_Reader_readClass_157 : decode gm_b_Reader_readClass 157 = .ok (.iload_n 2, 1) := by decide +kernel
theorem gm_d_Reader_readClass_158 : decode gm_b_Reader_readClass 158 = .ok (.ifCond .ne 8, 3) := by decide +kernel
theorem gm_d_Reader_readClass_161 : decode gm_b_Reader_readClass 161 = .ok (.aload_n 0, 1) := by decide +kernel
theorem gm_d_Reader_readClass_162 : decode gm_b_Reader_readClass 162 = .ok (.iconst 1, 1) := by decide +kernel
theorem gm_d_Reader_readClass_163 : decode gm_b_Reader_readClass 163 = .ok (.putfield 22, 3) := by decide +kernel
theorem gm_d_Reader_readClass_166 : decode gm_b_Reader_readClass 166 = .ok (.aload_n 0, 1) := by decide +kernel
theorem gm_d_Reader_readClass_167 : decode gm_b_Reader_readClass 167 = .ok (.bipush 93, 2) := by decide +kernel
theorem gm_d_Reader_readClass_169 : decode gm_b_Reader_readClass 169 = .ok (.invokevirtual 58, 3) := by decide +kernel
theorem gm_d_Reader_readClass_172 : decode gm_b_Reader_readClass 172 = .ok (.aload_n 0, 1) := by decide +kernel
theorem gm_d_Reader_readClass_173 : decode gm_b_Reader_readClass 173 = .ok (.iload_n 1, 1) := by decide +kernel
theorem gm_d_Reader_readClass_174 : decode gm_b_Reader_readClass 174 = .ok (.invokevirtual 94, 3) := by decide +kernel
theorem gm_d_Reader_readClass_177 : decode gm_b_Reader_readClass 177 = .ok (.return_, 1) := by decide +kernel
