theorem gm_d_Runner_nextIsIn_0 : decode gm_b_Runner_nextIsIn 0 = .ok (.aload_n 0, 1) := by decide +kernel
theorem gm_d_Runner_nextIsIn_1 : decode gm_b_Runner_nextIsIn 1 = .ok (.getfield 70, 3) := by decide +kernel
theorem gm_d_Runner_nextIsIn_4 : decode gm_b_Runner_nextIsIn 4 = .ok (.iload_n 1, 1) := by decide +kernel
theorem gm_d_Runner_nextIsIn_5 : decode gm_b_Runner_nextIsIn 5 = .ok (.aload_n 0, 1) := by decide +kernel
theorem gm_d_Runner_nextIsIn_6 : decode gm_b_Runner_nextIsIn 6 = .ok (.getfield 60, 3) := by decide +kernel
theorem gm_d_Runner_nextIsIn_9 : decode gm_b_Runner_nextIsIn 9 = .ok (.aload_n 0, 1) := by decide +kernel
theorem gm_d_Runner_nextIsIn_10 : decode gm_b_Runner_nextIsIn 10 = .ok (.getfield 54, 3) := by decide +kernel
theorem gm_d_Runner_nextIsIn_13 : decode gm_b_Runner_nextIsIn 13 = .ok (.invokevirtual 136, 3) := by decide +kernel
theorem gm_d_Runner_nextIsIn_16 : decode gm_b_Runner_nextIsIn 16 = .ok (.invokevirtual 140, 3) := by decide +kernel
theorem gm_d_Runner_nextIsIn_19 : decode gm_b_Runner_nextIsIn 19 = .ok (.ireturn, 1) := by decide +kernel
theorem gm_d_Runner_pop_0 : decode gm_b_Runner_pop 0 = .ok (.aload_n 0, 1) := by decide +kernel
theorem gm_d_Runner_pop_1 : decode gm_b_Runner_pop 1 = .ok (.getfield 40, 3) := by decide +kernel
theorem gm_d_Runner_pop_4 : decode gm_b_Runner_pop 4 = .ok (.ifCond .le 13, 3) := by decide +kernel
theorem gm_d_Runner_pop_7 : decode gm_b_Runner_pop 7 = .ok (.aload_n 0, 1) := by decide +kernel
theorem gm_d_Runner_pop_8 : decode gm_b_Runner_pop 8 = .ok (.dup, 1) := by decide +kernel
theorem gm_d_Runner_pop_9 : decode gm_b_Runner_pop 9 = .ok (.getfield 40, 3) := by decide +kernel
theorem gm_d_Runner_pop_12 : decode gm_b_Runner_pop 12 = .ok (.iconst 1, 1) := by decide +kernel
theorem gm_d_Runner_pop_13 : decode gm_b_Runner_pop 13 = .ok (.isub, 1) := by decide +kernel
theorem gm_d_Runner_pop_14 : decode gm_b_Runner_pop 14 = .ok (.putfield 40, 3) := by decide +kernel
theorem gm_d_Runner_pop_17 : decode gm_b_Runner_pop 17 = .ok (.return_, 1) := by decide +kernel
theorem gm_d_Runner_push_0 : decode gm_b_Runner_push 0 = .ok (.aload_n 0, 1) := by decide +kernel
theorem gm_d_Runner_push_1 : decode gm_b_Runner_push 1 = .ok (.getfield 40, 3) := by decide +kernel
theorem gm_d_Runner_push_4 : decode gm_b_Runner_push 4 = .ok (.sipush 550, 3) := by decide +kernel
theorem gm_d_Runner_push_7 : decode gm_b_Runner_push 7 = .ok (.if_icmp .lt 9, 3) := by decide +kernel
theorem gm_d_Runner_push_10 : decode gm_b_Runner_push 10 = .ok (.aload_n 0, 1) := by decide +kernel
theorem gm_d_Runner_push_11 : decode gm_b_Runner_push 11 = .ok (.iconst 3, 1) := by decide +kernel
theorem gm_d_Runner_push_12 : decode gm_b_Runner_push 12 = .ok (.putfield 48, 3) := by decide +kernel
theorem gm_d_Runner_push_15 : decode gm_b_Runner_push 15 = .ok (.return_, 1) := by decide +kernel
theorem gm_d_Runner_push_16 : decode gm_b_Runner_push 16 = .ok (.aload_n 0, 1) := by decide +kernel
theorem gm_d_Runner_push_17 : decode gm_b_Runner_push 17 = .ok (.getfield 27, 3) := by decide +kernel
theorem gm_d_Runner_push_20 : decode gm_b_Runner_push 20 = .ok (.aload_n 0, 1) := by decide +kernel
theorem gm_d_Runner_push_21 : decode gm_b_Runner_push 21 = .ok (.getfield 40, 3) := by decide +kernel
theorem gm_d_Runner_push_24 : decode gm_b_Runner_push 24 = .ok (.iload_n 1, 1) := by decide +kernel
theorem gm_d_Runner_push_25 : decode gm_b_Runner_push 25 = .ok (.iastore, 1) := by decide +kernel
theorem gm_d_Runner_push_26 : decode gm_b_Runner_push 26 = .ok (.aload_n 0, 1) := by decide +kernel
theorem gm_d_Runner_push_27 : decode gm_b_Runner_push 27 = .ok (.getfield 31, 3) := by decide +kernel
theorem gm_d_Runner_push_30 : decode gm_b_Runner_push 30 = .ok (.aload_n 0, 1) := by decide +kernel
theorem gm_d_Runner_push_31 : decode gm_b_Runner_push 31 = .ok (.getfield 40, 3) := by decide +kernel
theorem gm_d_Runner_push_34 : decode gm_b_Runner_push 34 = .ok (.aload_n 0, 1) := by decide +kernel
theorem gm_d_Runner_push_35 : decode gm_b_Runner_push 35 = .ok (.getfield 54, 3) := by decide +kernel
theorem gm_d_Runner_push_38 : decode gm_b_Runner_push 38 = .ok (.iastore, 1) := by decide +kernel
theorem gm_d_Runner_push_39 : decode gm_b_Runner_push 39 = .ok (.aload_n 0, 1) := by decide +kernel
theorem gm_d_Runner_push_40 : decode gm_b_Runner_push 40 = .ok (.getfield 34, 3) := by decide +kernel
theorem gm_d_Runner_push_43 : decode gm_b_Runner_push 43 = .ok (.aload_n 0, 1) := by decide +kernel
theorem gm_d_Runner_push_44 : decode gm_b_Runner_push 44 = .ok (.getfield 40, 3) := by decide +kernel
theorem gm_d_Runner_push_47 : decode gm_b_Runner_push 47 = .ok (.aload_n 0, 1) := by decide +kernel
theorem gm_d_Runner_push_48 : decode gm_b_Runner_push 48 = .ok (.getfield 14, 3) := by decide +kernel
theorem gm_d_Runner_push_51 : decode gm_b_Runner_push 51 = .ok (.getfield 84, 3) := by decide +kernel
theorem gm_d_Runner_push_54 : decode gm_b_Runner_push 54 = .ok (.iastore, 1) := by decide +kernel
theorem gm_d_Runner_push_55 : decode gm_b_Runner_push 55 = .ok (.aload_n 0, 1) := by decide +kernel
theorem gm_d_Runner_push_56 : decode gm_b_Runner_push 56 = .ok (.getfield 37, 3) := by decide +kernel
theorem gm_d_Runner_push_59 : decode gm_b_Runner_push 59 = .ok (.aload_n 0, 1) := by decide +kernel
theorem gm_d_Runner_push_60 : decode gm_b_Runner_push 60 = .ok (.getfield 40, 3) := by decide +kernel
theorem gm_d_Runner_push_63 : decode gm_b_Runner_push 63 = .ok (.iload_n 2, 1) := by decide +kernel
theorem gm_d_Runner_push_64 : decode gm_b_Runner_push 64 = .ok (.iastore, 1) := by decide +kernel
theorem gm_d_Runner_push_65 : decode gm_b_Runner_push 65 = .ok (.aload_n 0, 1) := by decide +kernel
theorem gm_d_Runner_push_66 : decode gm_b_Runner_push 66 = .ok (.dup, 1) := by decide +kernel
theorem gm_d_Runner_push_67 : decode gm_b_Runner_push 67 = .ok (.getfield 40, 3) := by decide +kernel
theorem gm_d_Runner_push_70 : decode gm_b_Runner_push 70 = .ok (.iconst 1, 1) := by decide +kernel
theorem gm_d_Runner_push_71 : decode gm_b_Runner_push 71 = .ok (.iadd, 1) := by decide +kernel
theorem gm_d_Runner_push_72 : decode gm_b_Runner_push 72 = .ok (.putfield 40, 3) := by decide +kernel
theorem gm_d_Runner_push_75 : decode gm_b_Runner_push 75 = .ok (.return_, 1) := by decide +kernel
theorem gm_d_Runner_restore_0 : decode gm_b_Runner_restore 0 = .ok (.aload_n 0, 1) := by decide +kernel
theorem gm_d_Runner_restore_1 : decode gm_b_Runner_restore 1 = .ok (.aload_n 0, 1) := by decide +kernel
theorem gm_d_Runner_restore_2 : decode gm_b_Runner_restore 2 = .ok (.getfield 31, 3) := by decide +kernel
theorem gm_d_Runner_restore_5 : decode gm_b_Runner_restore 5 = .ok (.aload_n 0, 1) := by decide +kernel
theorem gm_d_Runner_restore_6 : decode gm_b_Runner_restore 6 = .ok (.getfield 40, 3) := by decide +kernel
theorem gm_d_Runner_restore_9 : decode gm_b_Runner_restore 9 = .ok (.iaload, 1) := by decide +kernel
theorem gm_d_Runner_restore_10 : decode gm_b_Runner_restore 10 = .ok (.putfield 54, 3) := by decide +kernel
theorem gm_d_Runner_restore_13 : decode gm_b_Runner_restore 13 = .ok (.aload_n 0, 1) := by decide +kernel
theorem gm_d_Runner_restore_14 : decode gm_b_Runner_restore 14 = .ok (.getfield 14, 3) := by decide +kernel
theorem gm_d_Runner_restore_17 : decode gm_b_Runner_restore 17 = .ok (.aload_n 0, 1) := by decide +kernel
theorem gm_d_Runner_restore_18 : decode gm_b_Runner_restore 18 = .ok (.getfield 34, 3) := by decide +kernel
theorem gm_d_Runner_restore_21 : decode gm_b_Runner_restore 21 = .ok (.aload_n 0, 1) := by decide +kernel
theorem gm_d_Runner_restore_22 : decode gm_b_Runner_restore 22 = .ok (.getfield 40, 3) := by decide +kernel
theorem gm_d_Runner_restore_25 : decode gm_b_Runner_restore 25 = .ok (.iaload, 1) := by decide +kernel
theorem gm_d_Runner_restore_26 : decode gm_b_Runner_restore 26 = .ok (.invokevirtual 171, 3) := by decide +kernel
theorem gm_d_Runner_restore_29 : decode gm_b_Runner_restore 29 = .ok (.return_, 1) := by decide +kernel
theorem gm_d_Runner_failRule_0 : decode gm_b_Runner_failRule 0 = .ok (.aload_n 0, 1) := by decide +kernel
theorem gm_d_Runner_failRule_1 : decode gm_b_Runner_failRule 1 = .ok (.getfield 44, 3) := by decide +kernel
theorem gm_d_Runner_failRule_4 : decode gm_b_Runner_failRule 4 = .ok (.ifCond .ne 28, 3) := by decide +kernel
theorem gm_d_Runner_failRule_7 : decode gm_b_Runner_failRule 7 = .ok (.aload_n 0, 1) := by decide +kernel
theorem gm_d_Runner_failRule_8 : decode gm_b_Runner_failRule 8 = .ok (.getfield 23, 3) := by decide +kernel
theorem gm_d_Runner_failRule_11 : decode gm_b_Runner_failRule 11 = .ok (.aload_n 0, 1) := by decide +kernel
theorem gm_d_Runner_failRule_12 : decode gm_b_Runner_failRule 12 = .ok (.getfield 37, 3) := by decide +kernel
theorem gm_d_Runner_failRule_15 : decode gm_b_Runner_failRule 15 = .ok (.aload_n 0, 1) := by decide +kernel
theorem gm_d_Runner_failRule_16 : decode gm_b_Runner_failRule 16 = .ok (.getfield 40, 3) := by decide +kernel
theorem gm_d_Runner_failRule_19 : decode gm_b_Runner_failRule 19 = .ok (.iaload, 1) := by decide +kernel
theorem gm_d_Runner_failRule_20 : decode gm_b_Runner_failRule 20 = .ok (.aload_n 0, 1) := by decide +kernel
theorem gm_d_Runner_failRule_21 : decode gm_b_Runner_failRule 21 = .ok (.getfield 31, 3) := by decide +kernel
theorem gm_d_Runner_failRule_24 : decode gm_b_Runner_failRule 24 = .ok (.aload_n 0, 1) := by decide +kernel
theorem gm_d_Runner_failRule_25 : decode gm_b_Runner_failRule 25 = .ok (.getfield 40, 3) := by decide +kernel
theorem gm_d_Runner_failRule_28 : decode gm_b_Runner_failRule 28 = .ok (.iaload, 1) := by decide +kernel
theorem gm_d_Runner_failRule_29 : decode gm_b_Runner_failRule 29 = .ok (.invokevirtual 168, 3) := by decide +kernel
theorem gm_d_Runner_failRule_32 : decode gm_b_Runner_failRule 32 = .ok (.return_, 1) := by decide +kernel
theorem gm_d_Runner_fail_0 : decode gm_b_Runner_fail 0 = .ok (.aload_n 0, 1) := by decide +kernel
theorem gm_d_Runner_fail_1 : decode gm_b_Runner_fail 1 = .ok (.getfield 40, 3) := by decide +kernel
theorem gm_d_Runner_fail_4 : decode gm_b_Runner_fail 4 = .ok (.istore_n 1, 1) := by decide +kernel
theorem gm_d_Runner_fail_5 : decode gm_b_Runner_fail 5 = .ok (.iload_n 1, 1) := by decide +kernel
theorem gm_d_Runner_fail_6 : decode gm_b_Runner_fail 6 = .ok (.ifCond .le 64, 3) := by decide +kernel
theorem gm_d_Runner_fail_9 : decode gm_b_Runner_fail 9 = .ok (.aload_n 0, 1) := by decide +kernel
theorem gm_d_Runner_fail_10 : decode gm_b_Runner_fail 10 = .ok (.invokevirtual 112, 3) := by decide +kernel
theorem gm_d_Runner_fail_13 : decode gm_b_Runner_fail 13 = .ok (.aload_n 0, 1) := by decide +kernel
theorem gm_d_Runner_fail_14 : decode gm_b_Runner_fail 14 = .ok (.getfield 37, 3) := by decide +kernel
theorem gm_d_Runner_fail_17 : decode gm_b_Runner_fail 17 = .ok (.aload_n 0, 1) := by decide +kernel
theorem gm_d_Runner_fail_18 : decode gm_b_Runner_fail 18 = .ok (.getfield 40, 3) := by decide +kernel
theorem gm_d_Runner_fail_21 : decode gm_b_Runner_fail 21 = .ok (.iaload, 1) := by decide +kernel
theorem gm_d_Runner_fail_22 : decode gm_b_Runner_fail 22 = .ok (.iconst (-1), 1) := by decide +kernel
theorem gm_d_Runner_fail_23 : decode gm_b_Runner_fail 23 = .ok (.if_icmp .eq 10, 3) := by decide +kernel
theorem gm_d_Runner_fail_26 : decode gm_b_Runner_fail 26 = .ok (.aload_n 0, 1) := by decide +kernel
theorem gm_d_Runner_fail_27 : decode gm_b_Runner_fail 27 = .ok (.invokevirtual 165, 3) := by decide +kernel
theorem gm_d_Runner_fail_30 : decode gm_b_Runner_fail 30 = .ok (.goto 34, 3) := by decide +kernel
theorem gm_d_Runner_fail_33 : decode gm_b_Runner_fail 33 = .ok (.aload_n 0, 1) := by decide +kernel
theorem gm_d_Runner_fail_34 : decode gm_b_Runner_fail 34 = .ok (.getfield 27, 3) := by decide +kernel
theorem gm_d_Runner_fail_37 : decode gm_b_Runner_fail 37 = .ok (.aload_n 0, 1) := by decide +kernel
theorem gm_d_Runner_fail_38 : decode gm_b_Runner_fail 38 = .ok (.getfield 40, 3) := by decide +kernel
theorem gm_d_Runner_fail_41 : decode gm_b_Runner_fail 41 = .ok (.iaload, 1) := by decide +kernel
theorem gm_d_Runner_fail_42 : decode gm_b_Runner_fail 42 = .ok (.iconst (-1), 1) := by decide +kernel
theorem gm_d_Runner_fail_43 : decode gm_b_Runner_fail 43 = .ok (.if_icmp .eq 21, 3) := by decide +kernel
theorem gm_d_Runner_fail_46 : decode gm_b_Runner_fail 46 = .ok (.aload_n 0, 1) := by decide +kernel
theorem gm_d_Runner_fail_47 : decode gm_b_Runner_fail 47 = .ok (.invokevirtual 115, 3) := by decide +kernel
theorem gm_d_Runner_fail_50 : decode gm_b_Runner_fail 50 = .ok (.aload_n 0, 1) := by decide +kernel
theorem gm_d_Runner_fail_51 : decode gm_b_Runner_fail 51 = .ok (.aload_n 0, 1) := by decide +kernel
theorem gm_d_Runner_fail_52 : decode gm_b_Runner_fail 52 = .ok (.getfield 27, 3) := by decide +kernel
theorem gm_d_Runner_fail_55 : decode gm_b_Runner_fail 55 = .ok (.aload_n 0, 1) := by decide +kernel
theorem gm_d_Runner_fail_56 : decode gm_b_Runner_fail 56 = .ok (.getfield 40, 3) := by decide +kernel
theorem gm_d_Runner_fail_59 : decode gm_b_Runner_fail 59 = .ok (.iaload, 1) := by decide +kernel
theorem gm_d_Runner_fail_60 : decode gm_b_Runner_fail 60 = .ok (.putfield 51, 3) := by decide +kernel
theorem gm_d_Runner_fail_63 : decode gm_b_Runner_fail 63 = .ok (.return_, 1) := by decide +kernel
theorem gm_d_Runner_fail_64 : decode gm_b_Runner_fail 64 = .ok (.iinc 1 (-1), 3) := by decide +kernel
theorem gm_d_Runner_fail_67 : decode gm_b_Runner_fail 67 = .ok (.goto (-62), 3) := by decide +kernel
theorem gm_d_Runner_fail_70 : decode gm_b_Runner_fail 70 = .ok (.aload_n 0, 1) := by decide +kernel
theorem gm_d_Runner_fail_71 : decode gm_b_Runner_fail 71 = .ok (.iconst 2, 1) := by decide +kernel
theorem gm_d_Runner_fail_72 : decode gm_b_Runner_fail 72 = .ok (.putfield 48, 3) := by decide +kernel
theorem gm_d_Runner_fail_75 : decode gm_b_Runner_fail 75 = .ok (.return_, 1) := by decide +kernel
theorem gm_d_Runner_takeCharacter_0 : decode gm_b_Runner_takeCharacter 0 = .ok (.aload_n 0, 1) := by decide +kernel
theorem gm_d_Runner_takeCharacter_1 : decode gm_b_Runner_takeCharacter 1 = .ok (.aload_n 0, 1) := by decide +kernel
theorem gm_d_Runner_takeCharacter_2 : decode gm_b_Runner_takeCharacter 2 = .ok (.getfield 75, 3) := by decide +kernel
theorem gm_d_Runner_takeCharacter_5 : decode gm_b_Runner_takeCharacter 5 = .ok (.aload_n 0, 1) := by decide +kernel
theorem gm_d_Runner_takeCharacter_6 : decode gm_b_Runner_takeCharacter 6 = .ok (.getfield 51, 3) := by decide +kernel
theorem gm_d_Runner_takeCharacter_9 : decode gm_b_Runner_takeCharacter 9 = .ok (.invokevirtual 121, 3) := by decide +kernel
theorem gm_d_Runner_takeCharacter_12 : decode gm_b_Runner_takeCharacter 12 = .ok (.invokevirtual 146, 3) := by decide +kernel
theorem gm_d_Runner_takeCharacter_15 : decode gm_b_Runner_takeCharacter 15 = .ok (.ifCond .eq 26, 3) := by decide +kernel
theorem gm_d_Runner_takeCharacter_18 : decode gm_b_Runner_takeCharacter 18 = .ok (.aload_n 0, 1) := by decide +kernel
theorem gm_d_Runner_takeCharacter_19 : decode gm_b_Runner_takeCharacter 19 = .ok (.dup, 1) := by decide +kernel
theorem gm_d_Runner_takeCharacter_20 : decode gm_b_Runner_takeCharacter 20 = .ok (.getfield 54, 3) := by decide +kernel
theorem gm_d_Runner_takeCharacter_23 : decode gm_b_Runner_takeCharacter 23 = .ok (.iconst 1, 1) := by decide +kernel
theorem gm_d_Runner_takeCharacter_24 : decode gm_b_Runner_takeCharacter 24 = .ok (.iadd, 1) := by decide +kernel
theorem gm_d_Runner_takeCharacter_25 : decode gm_b_Runner_takeCharacter 25 = .ok (.putfield 54, 3) := by decide +kernel
theorem gm_d_Runner_takeCharacter_28 : decode gm_b_Runner_takeCharacter 28 = .ok (.aload_n 0, 1) := by decide +kernel
theorem gm_d_Runner_takeCharacter_29 : decode gm_b_Runner_takeCharacter 29 = .ok (.dup, 1) := by decide +kernel
theorem gm_d_Runner_takeCharacter_30 : decode gm_b_Runner_takeCharacter 30 = .ok (.getfield 51, 3) := by decide +kernel
theorem gm_d_Runner_takeCharacter_33 : decode gm_b_Runner_takeCharacter 33 = .ok (.iconst 1, 1) := by decide +kernel
theorem gm_d_Runner_takeCharacter_34 : decode gm_b_Runner_takeCharacter 34 = .ok (.iadd, 1) := by decide +kernel
theorem gm_d_Runner_takeCharacter_35 : decode gm_b_Runner_takeCharacter 35 = .ok (.putfield 51, 3) := by decide +kernel
theorem gm_d_Runner_takeCharacter_38 : decode gm_b_Runner_takeCharacter 38 = .ok (.goto 7, 3) := by decide +kernel
theorem gm_d_Runner_takeCharacter_41 : decode gm_b_Runner_takeCharacter 41 = .ok (.aload_n 0, 1) := by decide +kernel
theorem gm_d_Runner_takeCharacter_42 : decode gm_b_Runner_takeCharacter 42 = .ok (.invokevirtual 118, 3) := by decide +kernel
theorem gm_d_Runner_takeCharacter_45 : decode gm_b_Runner_takeCharacter 45 = .ok (.return_, 1) := by decide +kernel
theorem gm_d_Runner_look_0 : decode gm_b_Runner_look 0 = .ok (.aload_n 0, 1) := by decide +kernel
theorem gm_d_Runner_look_1 : decode gm_b_Runner_look 1 = .ok (.getfield 44, 3) := by decide +kernel
theorem gm_d_Runner_look_4 : decode gm_b_Runner_look 4 = .ok (.ifCond .eq 25, 3) := by decide +kernel
theorem gm_d_Runner_look_7 : decode gm_b_Runner_look 7 = .ok (.aload_n 0, 1) := by decide +kernel
theorem gm_d_Runner_look_8 : decode gm_b_Runner_look 8 = .ok (.aload_n 0, 1) := by decide +kernel
theorem gm_d_Runner_look_9 : decode gm_b_Runner_look 9 = .ok (.getfield 75, 3) := by decide +kernel
theorem gm_d_Runner_look_12 : decode gm_b_Runner_look 12 = .ok (.aload_n 0, 1) := by decide +kernel
theorem gm_d_Runner_look_13 : decode gm_b_Runner_look 13 = .ok (.getfield 51, 3) := by decide +kernel
theorem gm_d_Runner_look_16 : decode gm_b_Runner_look 16 = .ok (.invokevirtual 121, 3) := by decide +kernel
theorem gm_d_Runner_look_19 : decode gm_b_Runner_look 19 = .ok (.invokevirtual 146, 3) := by decide +kernel
theorem gm_d_Runner_look_22 : decode gm_b_Runner_look 22 = .ok (.ifCond .ne 7, 3) := by decide +kernel
theorem gm_d_Runner_look_25 : decode gm_b_Runner_look 25 = .ok (.iconst 1, 1) := by decide +kernel
theorem gm_d_Runner_look_26 : decode gm_b_Runner_look 26 = .ok (.goto 4, 3) := by decide +kernel
theorem gm_d_Runner_look_29 : decode gm_b_Runner_look 29 = .ok (.iconst 0, 1) := by decide +kernel
theorem gm_d_Runner_look_30 : decode gm_b_Runner_look 30 = .ok (.istore_n 1, 1) := by decide +kernel
theorem gm_d_Runner_look_31 : decode gm_b_Runner_look 31 = .ok (.aload_n 0, 1) := by decide +kernel
theorem gm_d_Runner_look_32 : decode gm_b_Runner_look 32 = .ok (.iload_n 1, 1) := by decide +kernel
theorem gm_d_Runner_look_33 : decode gm_b_Runner_look 33 = .ok (.ifCond .eq 17, 3) := by decide +kernel
theorem gm_d_Runner_look_36 : decode gm_b_Runner_look 36 = .ok (.aload_n 0, 1) := by decide +kernel
theorem gm_d_Runner_look_37 : decode gm_b_Runner_look 37 = .ok (.getfield 75, 3) := by decide +kernel
theorem gm_d_Runner_look_40 : decode gm_b_Runner_look 40 = .ok (.aload_n 0, 1) := by decide +kernel
theorem gm_d_Runner_look_41 : decode gm_b_Runner_look 41 = .ok (.getfield 51, 3) := by decide +kernel
theorem gm_d_Runner_look_44 : decode gm_b_Runner_look 44 = .ok (.invokevirtual 109, 3) := by decide +kernel
theorem gm_d_Runner_look_47 : decode gm_b_Runner_look 47 = .ok (.goto 9, 3) := by decide +kernel
theorem gm_d_Runner_look_50 : decode gm_b_Runner_look 50 = .ok (.aload_n 0, 1) := by decide +kernel
theorem gm_d_Runner_look_51 : decode gm_b_Runner_look 51 = .ok (.getfield 51, 3) := by decide +kernel
theorem gm_d_Runner_look_54 : decode gm_b_Runner_look 54 = .ok (.iconst 1, 1) := by decide +kernel
theorem gm_d_Runner_look_55 : decode gm_b_Runner_look 55 = .ok (.iadd, 1) := by decide +kernel
theorem gm_d_Runner_look_56 : decode gm_b_Runner_look 56 = .ok (.putfield 51, 3) := by decide +kernel
theorem gm_d_Runner_look_59 : decode gm_b_Runner_look 59 = .ok (.return_, 1) := by decide +kernel
theorem gm_d_Runner_beginTry_0 : decode gm_b_Runner_beginTry 0 = .ok (.aload_n 0, 1) := by decide +kernel
theorem gm_d_Runner_beginTry_1 : decode gm_b_Runner_beginTry 1 = .ok (.getfield 44, 3) := by decide +kernel
theorem gm_d_Runner_beginTry_4 : decode gm_b_Runner_beginTry 4 = .ok (.ifCond .eq 19, 3) := by decide +kernel
theorem gm_d_Runner_beginTry_7 : decode gm_b_Runner_beginTry 7 = .ok (.aload_n 0, 1) := by decide +kernel
theorem gm_d_Runner_beginTry_8 : decode gm_b_Runner_beginTry 8 = .ok (.getfield 57, 3) := by decide +kernel
theorem gm_d_Runner_beginTry_11 : decode gm_b_Runner_beginTry 11 = .ok (.sipush 1000, 3) := by decide +kernel
theorem gm_d_Runner_beginTry_14 : decode gm_b_Runner_beginTry 14 = .ok (.if_icmp .lt 9, 3) := by decide +kernel
theorem gm_d_Runner_beginTry_17 : decode gm_b_Runner_beginTry 17 = .ok (.aload_n 0, 1) := by decide +kernel
theorem gm_d_Runner_beginTry_18 : decode gm_b_Runner_beginTry 18 = .ok (.iconst 3, 1) := by decide +kernel
theorem gm_d_Runner_beginTry_19 : decode gm_b_Runner_beginTry 19 = .ok (.putfield 48, 3) := by decide +kernel
theorem gm_d_Runner_beginTry_22 : decode gm_b_Runner_beginTry 22 = .ok (.return_, 1) := by decide +kernel
theorem gm_d_Runner_beginTry_23 : decode gm_b_Runner_beginTry 23 = .ok (.aload_n 0, 1) := by decide +kernel
theorem gm_d_Runner_beginTry_24 : decode gm_b_Runner_beginTry 24 = .ok (.getfield 44, 3) := by decide +kernel
theorem gm_d_Runner_beginTry_27 : decode gm_b_Runner_beginTry 27 = .ok (.ifCond .eq 13, 3) := by decide +kernel
theorem gm_d_Runner_beginTry_30 : decode gm_b_Runner_beginTry 30 = .ok (.aload_n 0, 1) := by decide +kernel
theorem gm_d_Runner_beginTry_31 : decode gm_b_Runner_beginTry 31 = .ok (.dup, 1) := by decide +kernel
theorem gm_d_Runner_beginTry_32 : decode gm_b_Runner_beginTry 32 = .ok (.getfield 57, 3) := by decide +kernel
theorem gm_d_Runner_beginTry_35 : decode gm_b_Runner_beginTry 35 = .ok (.iconst 1, 1) := by decide +kernel
theorem gm_d_Runner_beginTry_36 : decode gm_b_Runner_beginTry 36 = .ok (.iadd, 1) := by decide +kernel
theorem gm_d_Runner_beginTry_37 : decode gm_b_Runner_beginTry 37 = .ok (.putfield 57, 3) := by decide +kernel
theorem gm_d_Runner_beginTry_40 : decode gm_b_Runner_beginTry 40 = .ok (.aload_n 0, 1) := by decide +kernel
theorem gm_d_Runner_beginTry_41 : decode gm_b_Runner_beginTry 41 = .ok (.aload_n 0, 1) := by decide +kernel
theorem gm_d_Runner_beginTry_42 : decode gm_b_Runner_beginTry 42 = .ok (.getfield 75, 3) := by decide +kernel
theorem gm_d_Runner_beginTry_45 : decode gm_b_Runner_beginTry 45 = .ok (.aload_n 0, 1) := by decide +kernel
theorem gm_d_Runner_beginTry_46 : decode gm_b_Runner_beginTry 46 = .ok (.getfield 51, 3) := by decide +kernel
theorem gm_d_Runner_beginTry_49 : decode gm_b_Runner_beginTry 49 = .ok (.invokevirtual 109, 3) := by decide +kernel
theorem gm_d_Runner_beginTry_52 : decode gm_b_Runner_beginTry 52 = .ok (.iconst (-1), 1) := by decide +kernel
theorem gm_d_Runner_beginTry_53 : decode gm_b_Runner_beginTry 53 = .ok (.invokevirtual 105, 3) := by decide +kernel
theorem gm_d_Runner_beginTry_56 : decode gm_b_Runner_beginTry 56 = .ok (.aload_n 0, 1) := by decide +kernel
theorem gm_d_Runner_beginTry_57 : decode gm_b_Runner_beginTry 57 = .ok (.dup, 1) := by decide +kernel
theorem gm_d_Runner_beginTry_58 : decode gm_b_Runner_beginTry 58 = .ok (.getfield 51, 3) := by decide +kernel
theorem gm_d_Runner_beginTry_61 : decode gm_b_Runner_beginTry 61 = .ok (.iconst 1, 1) := by decide +kernel
theorem gm_d_Runner_beginTry_62 : decode gm_b_Runner_beginTry 62 = .ok (.iadd, 1) := by decide +kernel
theorem gm_d_Runner_beginTry_63 : decode gm_b_Runner_beginTry 63 = .ok (.putfield 51, 3) := by decide +kernel
theorem gm_d_Runner_beginTry_66 : decode gm_b_Runner_beginTry 66 = .ok (.return_, 1) := by decide +kernel
theorem gm_d_Runner_callRule_0 : decode gm_b_Runner_callRule 0 = .ok (.aload_n 0, 1) := by decide +kernel
theorem gm_d_Runner_callRule_1 : decode gm_b_Runner_callRule 1 = .ok (.getfield 44, 3) := by decide +kernel
theorem gm_d_Runner_callRule_4 : decode gm_b_Runner_callRule 4 = .ok (.ifCond .eq 8, 3) := by decide +kernel
theorem gm_d_Runner_callRule_7 : decode gm_b_Runner_callRule 7 = .ok (.bipush (-2), 2) := by decide +kernel
theorem gm_d_Runner_callRule_9 : decode gm_b_Runner_callRule 9 = .ok (.goto 15, 3) := by decide +kernel
theorem gm_d_Runner_callRule_12 : decode gm_b_Runner_callRule 12 = .ok (.aload_n 0, 1) := by decide +kernel
theorem gm_d_Runner_callRule_13 : decode gm_b_Runner_callRule 13 = .ok (.getfield 23, 3) := by decide +kernel
theorem gm_d_Runner_callRule_16 : decode gm_b_Runner_callRule 16 = .ok (.iload_n 1, 1) := by decide +kernel
theorem gm_d_Runner_callRule_17 : decode gm_b_Runner_callRule 17 = .ok (.aload_n 0, 1) := by decide +kernel
theorem gm_d_Runner_callRule_18 : decode gm_b_Runner_callRule 18 = .ok (.getfield 54, 3) := by decide +kernel
theorem gm_d_Runner_callRule_21 : decode gm_b_Runner_callRule 21 = .ok (.invokevirtual 150, 3) := by decide +kernel
theorem gm_d_Runner_callRule_24 : decode gm_b_Runner_callRule 24 = .ok (.istore_n 2, 1) := by decide +kernel
theorem gm_d_Runner_callRule_25 : decode gm_b_Runner_callRule 25 = .ok (.iload_n 2, 1) := by decide +kernel
theorem gm_d_Runner_callRule_26 : decode gm_b_Runner_callRule 26 = .ok (.iconst (-1), 1) := by decide +kernel
theorem gm_d_Runner_callRule_27 : decode gm_b_Runner_callRule 27 = .ok (.if_icmp .ne 10, 3) := by decide +kernel
theorem gm_d_Runner_callRule_30 : decode gm_b_Runner_callRule 30 = .ok (.aload_n 0, 1) := by decide +kernel
theorem gm_d_Runner_callRule_31 : decode gm_b_Runner_callRule 31 = .ok (.invokevirtual 118, 3) := by decide +kernel
theorem gm_d_Runner_callRule_34 : decode gm_b_Runner_callRule 34 = .ok (.goto 83, 3) := by decide +kernel
theorem gm_d_Runner_callRule_37 : decode gm_b_Runner_callRule 37 = .ok (.iload_n 2, 1) := by decide +kernel
theorem gm_d_Runner_callRule_38 : decode gm_b_Runner_callRule 38 = .ok (.bipush (-2), 2) := by decide +kernel
theorem gm_d_Runner_callRule_40 : decode gm_b_Runner_callRule 40 = .ok (.if_icmp .ne 46, 3) := by decide +kernel
theorem gm_d_Runner_callRule_43 : decode gm_b_Runner_callRule 43 = .ok (.aload_n 0, 1) := by decide +kernel
theorem gm_d_Runner_callRule_44 : decode gm_b_Runner_callRule 44 = .ok (.getfield 44, 3) := by decide +kernel
theorem gm_d_Runner_callRule_47 : decode gm_b_Runner_callRule 47 = .ok (.ifCond .ne 13, 3) := by decide +kernel
theorem gm_d_Runner_callRule_50 : decode gm_b_Runner_callRule 50 = .ok (.aload_n 0, 1) := by decide +kernel
theorem gm_d_Runner_callRule_51 : decode gm_b_Runner_callRule 51 = .ok (.dup, 1) := by decide +kernel
theorem gm_d_Runner_callRule_52 : decode gm_b_Runner_callRule 52 = .ok (.getfield 57, 3) := by decide +kernel
theorem gm_d_Runner_callRule_55 : decode gm_b_Runner_callRule 55 = .ok (.iconst 1, 1) := by decide +kernel
theorem gm_d_Runner_callRule_56 : decode gm_b_Runner_callRule 56 = .ok (.iadd, 1) := by decide +kernel
theorem gm_d_Runner_callRule_57 : decode gm_b_Runner_callRule 57 = .ok (.putfield 57, 3) := by decide +kernel
theorem gm_d_Runner_callRule_60 : decode gm_b_Runner_callRule 60 = .ok (.aload_n 0, 1) := by decide +kernel
theorem gm_d_Runner_callRule_61 : decode gm_b_Runner_callRule 61 = .ok (.aload_n 0, 1) := by decide +kernel
theorem gm_d_Runner_callRule_62 : decode gm_b_Runner_callRule 62 = .ok (.getfield 51, 3) := by decide +kernel
theorem gm_d_Runner_callRule_65 : decode gm_b_Runner_callRule 65 = .ok (.iconst 1, 1) := by decide +kernel
theorem gm_d_Runner_callRule_66 : decode gm_b_Runner_callRule 66 = .ok (.iadd, 1) := by decide +kernel
theorem gm_d_Runner_callRule_67 : decode gm_b_Runner_callRule 67 = .ok (.iload_n 1, 1) := by decide +kernel
theorem gm_d_Runner_callRule_68 : decode gm_b_Runner_callRule 68 = .ok (.invokevirtual 105, 3) := by decide +kernel
theorem gm_d_Runner_callRule_71 : decode gm_b_Runner_callRule 71 = .ok (.aload_n 0, 1) := by decide +kernel
theorem gm_d_Runner_callRule_72 : decode gm_b_Runner_callRule 72 = .ok (.aload_n 0, 1) := by decide +kernel
theorem gm_d_Runner_callRule_73 : decode gm_b_Runner_callRule 73 = .ok (.getfield 75, 3) := by decide +kernel
theorem gm_d_Runner_callRule_76 : decode gm_b_Runner_callRule 76 = .ok (.iload_n 1, 1) := by decide +kernel
theorem gm_d_Runner_callRule_77 : decode gm_b_Runner_callRule 77 = .ok (.invokevirtual 154, 3) := by decide +kernel
theorem gm_d_Runner_callRule_80 : decode gm_b_Runner_callRule 80 = .ok (.putfield 51, 3) := by decide +kernel
theorem gm_d_Runner_callRule_83 : decode gm_b_Runner_callRule 83 = .ok (.goto 34, 3) := by decide +kernel
theorem gm_d_Runner_callRule_86 : decode gm_b_Runner_callRule 86 = .ok (.aload_n 0, 1) := by decide +kernel
theorem gm_d_Runner_callRule_87 : decode gm_b_Runner_callRule 87 = .ok (.getfield 23, 3) := by decide +kernel
theorem gm_d_Runner_callRule_90 : decode gm_b_Runner_callRule 90 = .ok (.iload_n 1, 1) := by decide +kernel
theorem gm_d_Runner_callRule_91 : decode gm_b_Runner_callRule 91 = .ok (.aload_n 0, 1) := by decide +kernel
theorem gm_d_Runner_callRule_92 : decode gm_b_Runner_callRule 92 = .ok (.getfield 54, 3) := by decide +kernel
theorem gm_d_Runner_callRule_95 : decode gm_b_Runner_callRule 95 = .ok (.aload_n 0, 1) := by decide +kernel
theorem gm_d_Runner_callRule_96 : decode gm_b_Runner_callRule 96 = .ok (.getfield 14, 3) := by decide +kernel
theorem gm_d_Runner_callRule_99 : decode gm_b_Runner_callRule 99 = .ok (.invokevirtual 157, 3) := by decide +kernel
theorem gm_d_Runner_callRule_102 : decode gm_b_Runner_callRule 102 = .ok (.aload_n 0, 1) := by decide +kernel
theorem gm_d_Runner_callRule_103 : decode gm_b_Runner_callRule 103 = .ok (.iload_n 2, 1) := by decide +kernel
theorem gm_d_Runner_callRule_104 : decode gm_b_Runner_callRule 104 = .ok (.putfield 54, 3) := by decide +kernel
theorem gm_d_Runner_callRule_107 : decode gm_b_Runner_callRule 107 = .ok (.aload_n 0, 1) := by decide +kernel
theorem gm_d_Runner_callRule_108 : decode gm_b_Runner_callRule 108 = .ok (.dup, 1) := by decide +kernel
theorem gm_d_Runner_callRule_109 : decode gm_b_Runner_callRule 109 = .ok (.getfield 51, 3) := by decide +kernel
theorem gm_d_Runner_callRule_112 : decode gm_b_Runner_callRule 112 = .ok (.iconst 1, 1) := by decide +kernel
theorem gm_d_Runner_callRule_113 : decode gm_b_Runner_callRule 113 = .ok (.iadd, 1) := by decide +kernel
theorem gm_d_Runner_callRule_114 : decode gm_b_Runner_callRule 114 = .ok (.putfield 51, 3) := by decide +kernel
theorem gm_d_Runner_callRule_117 : decode gm_b_Runner_callRule 117 = .ok (.return_, 1) := by decide +kernel
theorem gm_d_Runner_returnFromRule_0 : decode gm_b_Runner_returnFromRule 0 = .ok (.aload_n 0, 1) := by decide +kernel
theorem gm_d_Runner_returnFromRule_1 : decode gm_b_Runner_returnFromRule 1 = .ok (.invokevirtual 112, 3) := by decide +kernel
theorem gm_d_Runner_returnFromRule_4 : decode gm_b_Runner_returnFromRule 4 = .ok (.aload_n 0, 1) := by decide +kernel
theorem gm_d_Runner_returnFromRule_5 : decode gm_b_Runner_returnFromRule 5 = .ok (.getfield 44, 3) := by decide +kernel
theorem gm_d_Runner_returnFromRule_8 : decode gm_b_Runner_returnFromRule 8 = .ok (.ifCond .ne 45, 3) := by decide +kernel
theorem gm_d_Runner_returnFromRule_11 : decode gm_b_Runner_returnFromRule 11 = .ok (.aload_n 0, 1) := by decide +kernel
theorem gm_d_Runner_returnFromRule_12 : decode gm_b_Runner_returnFromRule 12 = .ok (.getfield 23, 3) := by decide +kernel
theorem gm_d_Runner_returnFromRule_15 : decode gm_b_Runner_returnFromRule 15 = .ok (.aload_n 0, 1) := by decide +kernel
theorem gm_d_Runner_returnFromRule_16 : decode gm_b_Runner_returnFromRule 16 = .ok (.getfield 37, 3) := by decide +kernel
theorem gm_d_Runner_returnFromRule_19 : decode gm_b_Runner_returnFromRule 19 = .ok (.aload_n 0, 1) := by decide +kernel
theorem gm_d_Runner_returnFromRule_20 : decode gm_b_Runner_returnFromRule 20 = .ok (.getfield 40, 3) := by decide +kernel
theorem gm_d_Runner_returnFromRule_23 : decode gm_b_Runner_returnFromRule 23 = .ok (.iaload, 1) := by decide +kernel
theorem gm_d_Runner_returnFromRule_24 : decode gm_b_Runner_returnFromRule 24 = .ok (.aload_n 0, 1) := by decide +kernel
theorem gm_d_Runner_returnFromRule_25 : decode gm_b_Runner_returnFromRule 25 = .ok (.getfield 31, 3) := by decide +kernel
theorem gm_d_Runner_returnFromRule_28 : decode gm_b_Runner_returnFromRule 28 = .ok (.aload_n 0, 1) := by decide +kernel
theorem gm_d_Runner_returnFromRule_29 : decode gm_b_Runner_returnFromRule 29 = .ok (.getfield 40, 3) := by decide +kernel
theorem gm_d_Runner_returnFromRule_32 : decode gm_b_Runner_returnFromRule 32 = .ok (.iaload, 1) := by decide +kernel
theorem gm_d_Runner_returnFromRule_33 : decode gm_b_Runner_returnFromRule 33 = .ok (.aload_n 0, 1) := by decide +kernel
theorem gm_d_Runner_returnFromRule_34 : decode gm_b_Runner_returnFromRule 34 = .ok (.getfield 54, 3) := by decide +kernel
theorem gm_d_Runner_returnFromRule_37 : decode gm_b_Runner_returnFromRule 37 = .ok (.aload_n 0, 1) := by decide +kernel
theorem gm_d_Runner_returnFromRule_38 : decode gm_b_Runner_returnFromRule 38 = .ok (.getfield 14, 3) := by decide +kernel
theorem gm_d_Runner_returnFromRule_41 : decode gm_b_Runner_returnFromRule 41 = .ok (.aload_n 0, 1) := by decide +kernel
theorem gm_d_Runner_returnFromRule_42 : decode gm_b_Runner_returnFromRule 42 = .ok (.getfield 34, 3) := by decide +kernel
theorem gm_d_Runner_returnFromRule_45 : decode gm_b_Runner_returnFromRule 45 = .ok (.aload_n 0, 1) := by decide +kernel
theorem gm_d_Runner_returnFromRule_46 : decode gm_b_Runner_returnFromRule 46 = .ok (.getfield 40, 3) := by decide +kernel
theorem gm_d_Runner_returnFromRule_49 : decode gm_b_Runner_returnFromRule 49 = .ok (.iaload, 1) := by decide +kernel
theorem gm_d_Runner_returnFromRule_50 : decode gm_b_Runner_returnFromRule 50 = .ok (.invokevirtual 161, 3) := by decide +kernel
theorem gm_d_Runner_returnFromRule_53 : decode gm_b_Runner_returnFromRule 53 = .ok (.aload_n 0, 1) := by decide +kernel
theorem gm_d_Runner_returnFromRule_54 : decode gm_b_Runner_returnFromRule 54 = .ok (.aload_n 0, 1) := by decide +kernel
theorem gm_d_Runner_returnFromRule_55 : decode gm_b_Runner_returnFromRule 55 = .ok (.getfield 27, 3) := by decide +kernel
theorem gm_d_Runner_returnFromRule_58 : decode gm_b_Runner_returnFromRule 58 = .ok (.aload_n 0, 1) := by decide +kernel
theorem gm_d_Runner_returnFromRule_59 : decode gm_b_Runner_returnFromRule 59 = .ok (.getfield 40, 3) := by decide +kernel
theorem gm_d_Runner_returnFromRule_62 : decode gm_b_Runner_returnFromRule 62 = .ok (.iaload, 1) := by decide +kernel
theorem gm_d_Runner_returnFromRule_63 : decode gm_b_Runner_returnFromRule 63 = .ok (.putfield 51, 3) := by decide +kernel
theorem gm_d_Runner_returnFromRule_66 : decode gm_b_Runner_returnFromRule 66 = .ok (.return_, 1) := by decide +kernel
theorem gm_d_Runner_step_0 : decode gm_b_Runner_step 0 = .ok (.aload_n 0, 1) := by decide +kernel
theorem gm_d_Runner_step_1 : decode gm_b_Runner_step 1 = .ok (.getfield 75, 3) := by decide +kernel
theorem gm_d_Runner_step_4 : decode gm_b_Runner_step 4 = .ok (.aload_n 0, 1) := by decide +kernel
theorem gm_d_Runner_step_5 : decode gm_b_Runner_step 5 = .ok (.getfield 51, 3) := by decide +kernel
theorem gm_d_Runner_step_8 : decode gm_b_Runner_step 8 = .ok (.invokevirtual 90, 3) := by decide +kernel
theorem gm_d_Runner_step_11 : decode gm_b_Runner_step 11 = .ok (.tableswitch 247 0 11 #[61, 68, 75, 82, 101, 119, 141, 162, 173, 191, 198, 223], 61) := by decide +kernel
theorem gm_d_Runner_step_72 : decode gm_b_Runner_step 72 = .ok (.aload_n 0, 1) := by decide +kernel
theorem gm_d_Runner_step_73 : decode gm_b_Runner_step 73 = .ok (.invokevirtual 96, 3) := by decide +kernel
theorem gm_d_Runner_step_76 : decode gm_b_Runner_step 76 = .ok (.goto 187, 3) := by decide +kernel
theorem gm_d_Runner_step_79 : decode gm_b_Runner_step 79 = .ok (.aload_n 0, 1) := by decide +kernel
theorem gm_d_Runner_step_80 : decode gm_b_Runner_step 80 = .ok (.invokevirtual 99, 3) := by decide +kernel
theorem gm_d_Runner_step_83 : decode gm_b_Runner_step 83 = .ok (.goto 180, 3) := by decide +kernel
theorem gm_d_Runner_step_86 : decode gm_b_Runner_step 86 = .ok (.aload_n 0, 1) := by decide +kernel
theorem gm_d_Runner_step_87 : decode gm_b_Runner_step 87 = .ok (.invokevirtual 102, 3) := by decide +kernel
theorem gm_d_Runner_step_90 : decode gm_b_Runner_step 90 = .ok (.goto 173, 3) := by decide +kernel
theorem gm_d_Runner_step_93 : decode gm_b_Runner_step 93 = .ok (.aload_n 0, 1) := by decide +kernel
theorem gm_d_Runner_step_94 : decode gm_b_Runner_step 94 = .ok (.iconst (-1), 1) := by decide +kernel
theorem gm_d_Runner_step_95 : decode gm_b_Runner_step 95 = .ok (.iconst (-1), 1) := by decide +kernel
theorem gm_d_Runner_step_96 : decode gm_b_Runner_step 96 = .ok (.invokevirtual 105, 3) := by decide +kernel
theorem gm_d_Runner_step_99 : decode gm_b_Runner_step 99 = .ok (.aload_n 0, 1) := by decide +kernel
theorem gm_d_Runner_step_100 : decode gm_b_Runner_step 100 = .ok (.dup, 1) := by decide +kernel
theorem gm_d_Runner_step_101 : decode gm_b_Runner_step 101 = .ok (.getfield 51, 3) := by decide +kernel
theorem gm_d_Runner_step_104 : decode gm_b_Runner_step 104 = .ok (.iconst 1, 1) := by decide +kernel
theorem gm_d_Runner_step_105 : decode gm_b_Runner_step 105 = .ok (.iadd, 1) := by decide +kernel
theorem gm_d_Runner_step_106 : decode gm_b_Runner_step 106 = .ok (.putfield 51, 3) := by decide +kernel
theorem gm_d_Runner_step_109 : decode gm_b_Runner_step 109 = .ok (.goto 154, 3) := by decide +kernel
theorem gm_d_Runner_step_112 : decode gm_b_Runner_step 112 = .ok (.aload_n 0, 1) := by decide +kernel
theorem gm_d_Runner_step_113 : decode gm_b_Runner_step 113 = .ok (.aload_n 0, 1) := by decide +kernel
theorem gm_d_Runner_step_114 : decode gm_b_Runner_step 114 = .ok (.getfield 75, 3) := by decide +kernel
theorem gm_d_Runner_step_117 : decode gm_b_Runner_step 117 = .ok (.aload_n 0, 1) := by decide +kernel
theorem gm_d_Runner_step_118 : decode gm_b_Runner_step 118 = .ok (.getfield 51, 3) := by decide +kernel
theorem gm_d_Runner_step_121 : decode gm_b_Runner_step 121 = .ok (.invokevirtual 109, 3) := by decide +kernel
theorem gm_d_Runner_step_124 : decode gm_b_Runner_step 124 = .ok (.putfield 51, 3) := by decide +kernel
theorem gm_d_Runner_step_127 : decode gm_b_Runner_step 127 = .ok (.goto 136, 3) := by decide +kernel
theorem gm_d_Runner_step_130 : decode gm_b_Runner_step 130 = .ok (.aload_n 0, 1) := by decide +kernel
theorem gm_d_Runner_step_131 : decode gm_b_Runner_step 131 = .ok (.invokevirtual 112, 3) := by decide +kernel
theorem gm_d_Runner_step_134 : decode gm_b_Runner_step 134 = .ok (.aload_n 0, 1) := by decide +kernel
theorem gm_d_Runner_step_135 : decode gm_b_Runner_step 135 = .ok (.aload_n 0, 1) := by decide +kernel
theorem gm_d_Runner_step_136 : decode gm_b_Runner_step 136 = .ok (.getfield 75, 3) := by decide +kernel
theorem gm_d_Runner_step_139 : decode gm_b_Runner_step 139 = .ok (.aload_n 0, 1) := by decide +kernel
theorem gm_d_Runner_step_140 : decode gm_b_Runner_step 140 = .ok (.getfield 51, 3) := by decide +kernel
theorem gm_d_Runner_step_143 : decode gm_b_Runner_step 143 = .ok (.invokevirtual 109, 3) := by decide +kernel
theorem gm_d_Runner_step_146 : decode gm_b_Runner_step 146 = .ok (.putfield 51, 3) := by decide +kernel
theorem gm_d_Runner_step_149 : decode gm_b_Runner_step 149 = .ok (.goto 114, 3) := by decide +kernel
theorem gm_d_Runner_step_152 : decode gm_b_Runner_step 152 = .ok (.aload_n 0, 1) := by decide +kernel
theorem gm_d_Runner_step_153 : decode gm_b_Runner_step 153 = .ok (.invokevirtual 112, 3) := by decide +kernel
theorem gm_d_Runner_step_156 : decode gm_b_Runner_step 156 = .ok (.aload_n 0, 1) := by decide +kernel
theorem gm_d_Runner_step_157 : decode gm_b_Runner_step 157 = .ok (.invokevirtual 115, 3) := by decide +kernel
theorem gm_d_Runner_step_160 : decode gm_b_Runner_step 160 = .ok (.aload_n 0, 1) := by decide +kernel
theorem gm_d_Runner_step_161 : decode gm_b_Runner_step 161 = .ok (.dup, 1) := by decide +kernel
theorem gm_d_Runner_step_162 : decode gm_b_Runner_step 162 = .ok (.getfield 51, 3) := by decide +kernel
theorem gm_d_Runner_step_165 : decode gm_b_Runner_step 165 = .ok (.iconst 1, 1) := by decide +kernel
theorem gm_d_Runner_step_166 : decode gm_b_Runner_step 166 = .ok (.iadd, 1) := by decide +kernel
theorem gm_d_Runner_step_167 : decode gm_b_Runner_step 167 = .ok (.putfield 51, 3) := by decide +kernel
theorem gm_d_Runner_step_170 : decode gm_b_Runner_step 170 = .ok (.goto 93, 3) := by decide +kernel
theorem gm_d_Runner_step_173 : decode gm_b_Runner_step 173 = .ok (.aload_n 0, 1) := by decide +kernel
theorem gm_d_Runner_step_174 : decode gm_b_Runner_step 174 = .ok (.invokevirtual 112, 3) := by decide +kernel
theorem gm_d_Runner_step_177 : decode gm_b_Runner_step 177 = .ok (.aload_n 0, 1) := by decide +kernel
theorem gm_d_Runner_step_178 : decode gm_b_Runner_step 178 = .ok (.invokevirtual 118, 3) := by decide +kernel
theorem gm_d_Runner_step_181 : decode gm_b_Runner_step 181 = .ok (.goto 82, 3) := by decide +kernel
theorem gm_d_Runner_step_184 : decode gm_b_Runner_step 184 = .ok (.aload_n 0, 1) := by decide +kernel
theorem gm_d_Runner_step_185 : decode gm_b_Runner_step 185 = .ok (.aload_n 0, 1) := by decide +kernel
theorem gm_d_Runner_step_186 : decode gm_b_Runner_step 186 = .ok (.getfield 75, 3) := by decide +kernel
theorem gm_d_Runner_step_189 : decode gm_b_Runner_step 189 = .ok (.aload_n 0, 1) := by decide +kernel
theorem gm_d_Runner_step_190 : decode gm_b_Runner_step 190 = .ok (.getfield 51, 3) := by decide +kernel
theorem gm_d_Runner_step_193 : decode gm_b_Runner_step 193 = .ok (.invokevirtual 121, 3) := by decide +kernel
theorem gm_d_Runner_step_196 : decode gm_b_Runner_step 196 = .ok (.invokevirtual 124, 3) := by decide +kernel
theorem gm_d_Runner_step_199 : decode gm_b_Runner_step 199 = .ok (.goto 64, 3) := by decide +kernel
theorem gm_d_Runner_step_202 : decode gm_b_Runner_step 202 = .ok (.aload_n 0, 1) := by decide +kernel
theorem gm_d_Runner_step_203 : decode gm_b_Runner_step 203 = .ok (.invokevirtual 127, 3) := by decide +kernel
theorem gm_d_Runner_step_206 : decode gm_b_Runner_step 206 = .ok (.goto 57, 3) := by decide +kernel
theorem gm_d_Runner_step_209 : decode gm_b_Runner_step 209 = .ok (.aload_n 0, 1) := by decide +kernel
theorem gm_d_Runner_step_210 : decode gm_b_Runner_step 210 = .ok (.getfield 14, 3) := by decide +kernel
theorem gm_d_Runner_step_213 : decode gm_b_Runner_step 213 = .ok (.aload_n 0, 1) := by decide +kernel
theorem gm_d_Runner_step_214 : decode gm_b_Runner_step 214 = .ok (.getfield 54, 3) := by decide +kernel
theorem gm_d_Runner_step_217 : decode gm_b_Runner_step 217 = .ok (.iconst (-1), 1) := by decide +kernel
theorem gm_d_Runner_step_218 : decode gm_b_Runner_step 218 = .ok (.invokevirtual 130, 3) := by decide +kernel
theorem gm_d_Runner_step_221 : decode gm_b_Runner_step 221 = .ok (.aload_n 0, 1) := by decide +kernel
theorem gm_d_Runner_step_222 : decode gm_b_Runner_step 222 = .ok (.dup, 1) := by decide +kernel
theorem gm_d_Runner_step_223 : decode gm_b_Runner_step 223 = .ok (.getfield 51, 3) := by decide +kernel
theorem gm_d_Runner_step_226 : decode gm_b_Runner_step 226 = .ok (.iconst 1, 1) := by decide +kernel
theorem gm_d_Runner_step_227 : decode gm_b_Runner_step 227 = .ok (.iadd, 1) := by decide +kernel
theorem gm_d_Runner_step_228 : decode gm_b_Runner_step 228 = .ok (.putfield 51, 3) := by decide +kernel
theorem gm_d_Runner_step_231 : decode gm_b_Runner_step 231 = .ok (.goto 32, 3) := by decide +kernel
theorem gm_d_Runner_step_234 : decode gm_b_Runner_step 234 = .ok (.aload_n 0, 1) := by decide +kernel
theorem gm_d_Runner_step_235 : decode gm_b_Runner_step 235 = .ok (.getfield 14, 3) := by decide +kernel
theorem gm_d_Runner_step_238 : decode gm_b_Runner_step 238 = .ok (.aload_n 0, 1) := by decide +kernel
theorem gm_d_Runner_step_239 : decode gm_b_Runner_step 239 = .ok (.getfield 54, 3) := by decide +kernel
theorem gm_d_Runner_step_242 : decode gm_b_Runner_step 242 = .ok (.invokevirtual 133, 3) := by decide +kernel
theorem gm_d_Runner_step_245 : decode gm_b_Runner_step 245 = .ok (.aload_n 0, 1) := by decide +kernel
theorem gm_d_Runner_step_246 : decode gm_b_Runner_step 246 = .ok (.dup, 1) := by decide +kernel
theorem gm_d_Runner_step_247 : decode gm_b_Runner_step 247 = .ok (.getfield 51, 3) := by decide +kernel
theorem gm_d_Runner_step_250 : decode gm_b_Runner_step 250 = .ok (.iconst 1, 1) := by decide +kernel
theorem gm_d_Runner_step_251 : decode gm_b_Runner_step 251 = .ok (.iadd, 1) := by decide +kernel
theorem gm_d_Runner_step_252 : decode gm_b_Runner_step 252 = .ok (.putfield 51, 3) := by decide +kernel
theorem gm_d_Runner_step_255 : decode gm_b_Runner_step 255 = .ok (.goto 8, 3) := by decide +kernel
theorem gm_d_Runner_step_258 : decode gm_b_Runner_step 258 = .ok (.aload_n 0, 1) := by decide +kernel
theorem gm_d_Runner_step_259 : decode gm_b_Runner_step 259 = .ok (.iconst 1, 1) := by decide +kernel
theorem gm_d_Runner_step_260 : decode gm_b_Runner_step 260 = .ok (.putfield 48, 3) := by decide +kernel
theorem gm_d_Runner_step_263 : decode gm_b_Runner_step 263 = .ok (.return_, 1) := by decide +kernel
