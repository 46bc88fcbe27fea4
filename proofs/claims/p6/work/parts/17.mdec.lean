theorem gm_d_MD_thrown_0 : decode gm_b_MD_thrown 0 = .ok (.aload_n 0, 1) := by decide +kernel
theorem gm_d_MD_thrown_1 : decode gm_b_MD_thrown 1 = .ok (.getfield 103, 3) := by decide +kernel
theorem gm_d_MD_thrown_4 : decode gm_b_MD_thrown 4 = .ok (.ireturn, 1) := by decide +kernel
theorem gm_d_MD_fail_0 : decode gm_b_MD_fail 0 = .ok (.aload_n 0, 1) := by decide +kernel
theorem gm_d_MD_fail_1 : decode gm_b_MD_fail 1 = .ok (.iload_n 1, 1) := by decide +kernel
theorem gm_d_MD_fail_2 : decode gm_b_MD_fail 2 = .ok (.putfield 103, 3) := by decide +kernel
theorem gm_d_MD_fail_5 : decode gm_b_MD_fail 5 = .ok (.iconst 0, 1) := by decide +kernel
theorem gm_d_MD_fail_6 : decode gm_b_MD_fail 6 = .ok (.ireturn, 1) := by decide +kernel
theorem gm_d_MD_refuse_0 : decode gm_b_MD_refuse 0 = .ok (.aload_n 0, 1) := by decide +kernel
theorem gm_d_MD_refuse_1 : decode gm_b_MD_refuse 1 = .ok (.iconst 1, 1) := by decide +kernel
theorem gm_d_MD_refuse_2 : decode gm_b_MD_refuse 2 = .ok (.putfield 112, 3) := by decide +kernel
theorem gm_d_MD_refuse_5 : decode gm_b_MD_refuse 5 = .ok (.return_, 1) := by decide +kernel
theorem gm_d_MD_tell_0 : decode gm_b_MD_tell 0 = .ok (.aload_n 0, 1) := by decide +kernel
theorem gm_d_MD_tell_1 : decode gm_b_MD_tell 1 = .ok (.iload_n 1, 1) := by decide +kernel
theorem gm_d_MD_tell_2 : decode gm_b_MD_tell 2 = .ok (.putfield 9, 3) := by decide +kernel
theorem gm_d_MD_tell_5 : decode gm_b_MD_tell 5 = .ok (.aload_n 0, 1) := by decide +kernel
theorem gm_d_MD_tell_6 : decode gm_b_MD_tell 6 = .ok (.iload_n 2, 1) := by decide +kernel
theorem gm_d_MD_tell_7 : decode gm_b_MD_tell 7 = .ok (.invokevirtual 199, 3) := by decide +kernel
theorem gm_d_MD_tell_10 : decode gm_b_MD_tell 10 = .ok (.ireturn, 1) := by decide +kernel
theorem gm_d_MD_type_0 : decode gm_b_MD_type 0 = .ok (.aload_n 0, 1) := by decide +kernel
theorem gm_d_MD_type_1 : decode gm_b_MD_type 1 = .ok (.iconst 0, 1) := by decide +kernel
theorem gm_d_MD_type_2 : decode gm_b_MD_type 2 = .ok (.putfield 103, 3) := by decide +kernel
theorem gm_d_MD_type_5 : decode gm_b_MD_type 5 = .ok (.iload_n 1, 1) := by decide +kernel
theorem gm_d_MD_type_6 : decode gm_b_MD_type 6 = .ok (.bipush 32, 2) := by decide +kernel
theorem gm_d_MD_type_8 : decode gm_b_MD_type 8 = .ok (.if_icmp .lt 18, 3) := by decide +kernel
theorem gm_d_MD_type_11 : decode gm_b_MD_type 11 = .ok (.iload_n 1, 1) := by decide +kernel
theorem gm_d_MD_type_12 : decode gm_b_MD_type 12 = .ok (.bipush 126, 2) := by decide +kernel
theorem gm_d_MD_type_14 : decode gm_b_MD_type 14 = .ok (.if_icmp .gt 12, 3) := by decide +kernel
theorem gm_d_MD_type_17 : decode gm_b_MD_type 17 = .ok (.aload_n 0, 1) := by decide +kernel
theorem gm_d_MD_type_18 : decode gm_b_MD_type 18 = .ok (.getfield 106, 3) := by decide +kernel
theorem gm_d_MD_type_21 : decode gm_b_MD_type 21 = .ok (.bipush 50, 2) := by decide +kernel
theorem gm_d_MD_type_23 : decode gm_b_MD_type 23 = .ok (.if_icmp .ne 5, 3) := by decide +kernel
theorem gm_d_MD_type_26 : decode gm_b_MD_type 26 = .ok (.iconst 0, 1) := by decide +kernel
theorem gm_d_MD_type_27 : decode gm_b_MD_type 27 = .ok (.ireturn, 1) := by decide +kernel
theorem gm_d_MD_type_28 : decode gm_b_MD_type 28 = .ok (.aload_n 0, 1) := by decide +kernel
theorem gm_d_MD_type_29 : decode gm_b_MD_type 29 = .ok (.getfield 13, 3) := by decide +kernel
theorem gm_d_MD_type_32 : decode gm_b_MD_type 32 = .ok (.aload_n 0, 1) := by decide +kernel
theorem gm_d_MD_type_33 : decode gm_b_MD_type 33 = .ok (.getfield 106, 3) := by decide +kernel
theorem gm_d_MD_type_36 : decode gm_b_MD_type 36 = .ok (.iload_n 1, 1) := by decide +kernel
theorem gm_d_MD_type_37 : decode gm_b_MD_type 37 = .ok (.iastore, 1) := by decide +kernel
theorem gm_d_MD_type_38 : decode gm_b_MD_type 38 = .ok (.aload_n 0, 1) := by decide +kernel
theorem gm_d_MD_type_39 : decode gm_b_MD_type 39 = .ok (.dup, 1) := by decide +kernel
theorem gm_d_MD_type_40 : decode gm_b_MD_type 40 = .ok (.getfield 106, 3) := by decide +kernel
theorem gm_d_MD_type_43 : decode gm_b_MD_type 43 = .ok (.iconst 1, 1) := by decide +kernel
theorem gm_d_MD_type_44 : decode gm_b_MD_type 44 = .ok (.iadd, 1) := by decide +kernel
theorem gm_d_MD_type_45 : decode gm_b_MD_type 45 = .ok (.putfield 106, 3) := by decide +kernel
theorem gm_d_MD_type_48 : decode gm_b_MD_type 48 = .ok (.iconst 1, 1) := by decide +kernel
theorem gm_d_MD_type_49 : decode gm_b_MD_type 49 = .ok (.ireturn, 1) := by decide +kernel
theorem gm_d_MD_feed_0 : decode gm_b_MD_feed 0 = .ok (.aload_n 0, 1) := by decide +kernel
theorem gm_d_MD_feed_1 : decode gm_b_MD_feed 1 = .ok (.iconst 0, 1) := by decide +kernel
theorem gm_d_MD_feed_2 : decode gm_b_MD_feed 2 = .ok (.putfield 103, 3) := by decide +kernel
theorem gm_d_MD_feed_5 : decode gm_b_MD_feed 5 = .ok (.iload_n 1, 1) := by decide +kernel
theorem gm_d_MD_feed_6 : decode gm_b_MD_feed 6 = .ok (.bipush 32, 2) := by decide +kernel
theorem gm_d_MD_feed_8 : decode gm_b_MD_feed 8 = .ok (.if_icmp .lt 18, 3) := by decide +kernel
theorem gm_d_MD_feed_11 : decode gm_b_MD_feed 11 = .ok (.iload_n 1, 1) := by decide +kernel
theorem gm_d_MD_feed_12 : decode gm_b_MD_feed 12 = .ok (.bipush 126, 2) := by decide +kernel
theorem gm_d_MD_feed_14 : decode gm_b_MD_feed 14 = .ok (.if_icmp .gt 12, 3) := by decide +kernel
theorem gm_d_MD_feed_17 : decode gm_b_MD_feed 17 = .ok (.aload_n 0, 1) := by decide +kernel
theorem gm_d_MD_feed_18 : decode gm_b_MD_feed 18 = .ok (.getfield 228, 3) := by decide +kernel
theorem gm_d_MD_feed_21 : decode gm_b_MD_feed 21 = .ok (.bipush 10, 2) := by decide +kernel
theorem gm_d_MD_feed_23 : decode gm_b_MD_feed 23 = .ok (.if_icmp .ne 5, 3) := by decide +kernel
theorem gm_d_MD_feed_26 : decode gm_b_MD_feed 26 = .ok (.iconst 0, 1) := by decide +kernel
theorem gm_d_MD_feed_27 : decode gm_b_MD_feed 27 = .ok (.ireturn, 1) := by decide +kernel
theorem gm_d_MD_feed_28 : decode gm_b_MD_feed 28 = .ok (.aload_n 0, 1) := by decide +kernel
theorem gm_d_MD_feed_29 : decode gm_b_MD_feed 29 = .ok (.getfield 79, 3) := by decide +kernel
theorem gm_d_MD_feed_32 : decode gm_b_MD_feed 32 = .ok (.aload_n 0, 1) := by decide +kernel
theorem gm_d_MD_feed_33 : decode gm_b_MD_feed 33 = .ok (.getfield 228, 3) := by decide +kernel
theorem gm_d_MD_feed_36 : decode gm_b_MD_feed 36 = .ok (.iload_n 1, 1) := by decide +kernel
theorem gm_d_MD_feed_37 : decode gm_b_MD_feed 37 = .ok (.iastore, 1) := by decide +kernel
theorem gm_d_MD_feed_38 : decode gm_b_MD_feed 38 = .ok (.aload_n 0, 1) := by decide +kernel
theorem gm_d_MD_feed_39 : decode gm_b_MD_feed 39 = .ok (.dup, 1) := by decide +kernel
theorem gm_d_MD_feed_40 : decode gm_b_MD_feed 40 = .ok (.getfield 228, 3) := by decide +kernel
theorem gm_d_MD_feed_43 : decode gm_b_MD_feed 43 = .ok (.iconst 1, 1) := by decide +kernel
theorem gm_d_MD_feed_44 : decode gm_b_MD_feed 44 = .ok (.iadd, 1) := by decide +kernel
theorem gm_d_MD_feed_45 : decode gm_b_MD_feed 45 = .ok (.putfield 228, 3) := by decide +kernel
theorem gm_d_MD_feed_48 : decode gm_b_MD_feed 48 = .ok (.aload_n 0, 1) := by decide +kernel
theorem gm_d_MD_feed_49 : decode gm_b_MD_feed 49 = .ok (.iconst 0, 1) := by decide +kernel
theorem gm_d_MD_feed_50 : decode gm_b_MD_feed 50 = .ok (.putfield 218, 3) := by decide +kernel
theorem gm_d_MD_feed_53 : decode gm_b_MD_feed 53 = .ok (.iconst 1, 1) := by decide +kernel
theorem gm_d_MD_feed_54 : decode gm_b_MD_feed 54 = .ok (.ireturn, 1) := by decide +kernel
theorem gm_d_MD_wipe_0 : decode gm_b_MD_wipe 0 = .ok (.aload_n 0, 1) := by decide +kernel
theorem gm_d_MD_wipe_1 : decode gm_b_MD_wipe 1 = .ok (.iconst 0, 1) := by decide +kernel
theorem gm_d_MD_wipe_2 : decode gm_b_MD_wipe 2 = .ok (.putfield 103, 3) := by decide +kernel
theorem gm_d_MD_wipe_5 : decode gm_b_MD_wipe 5 = .ok (.aload_n 0, 1) := by decide +kernel
theorem gm_d_MD_wipe_6 : decode gm_b_MD_wipe 6 = .ok (.iconst 0, 1) := by decide +kernel
theorem gm_d_MD_wipe_7 : decode gm_b_MD_wipe 7 = .ok (.putfield 106, 3) := by decide +kernel
theorem gm_d_MD_wipe_10 : decode gm_b_MD_wipe 10 = .ok (.return_, 1) := by decide +kernel
theorem gm_d_MD_clear_0 : decode gm_b_MD_clear 0 = .ok (.aload_n 0, 1) := by decide +kernel
theorem gm_d_MD_clear_1 : decode gm_b_MD_clear 1 = .ok (.iconst 0, 1) := by decide +kernel
theorem gm_d_MD_clear_2 : decode gm_b_MD_clear 2 = .ok (.putfield 103, 3) := by decide +kernel
theorem gm_d_MD_clear_5 : decode gm_b_MD_clear 5 = .ok (.aload_n 0, 1) := by decide +kernel
theorem gm_d_MD_clear_6 : decode gm_b_MD_clear 6 = .ok (.iconst 0, 1) := by decide +kernel
theorem gm_d_MD_clear_7 : decode gm_b_MD_clear 7 = .ok (.putfield 228, 3) := by decide +kernel
theorem gm_d_MD_clear_10 : decode gm_b_MD_clear 10 = .ok (.aload_n 0, 1) := by decide +kernel
theorem gm_d_MD_clear_11 : decode gm_b_MD_clear 11 = .ok (.iconst 0, 1) := by decide +kernel
theorem gm_d_MD_clear_12 : decode gm_b_MD_clear 12 = .ok (.putfield 218, 3) := by decide +kernel
theorem gm_d_MD_clear_15 : decode gm_b_MD_clear 15 = .ok (.return_, 1) := by decide +kernel
theorem gm_d_MD_fault_0 : decode gm_b_MD_fault 0 = .ok (.aload_n 0, 1) := by decide +kernel
theorem gm_d_MD_fault_1 : decode gm_b_MD_fault 1 = .ok (.iconst 0, 1) := by decide +kernel
theorem gm_d_MD_fault_2 : decode gm_b_MD_fault 2 = .ok (.putfield 103, 3) := by decide +kernel
theorem gm_d_MD_fault_5 : decode gm_b_MD_fault 5 = .ok (.aload_n 0, 1) := by decide +kernel
theorem gm_d_MD_fault_6 : decode gm_b_MD_fault 6 = .ok (.getfield 9, 3) := by decide +kernel
theorem gm_d_MD_fault_9 : decode gm_b_MD_fault 9 = .ok (.ireturn, 1) := by decide +kernel
theorem gm_d_MD_work_0 : decode gm_b_MD_work 0 = .ok (.aload_n 0, 1) := by decide +kernel
theorem gm_d_MD_work_1 : decode gm_b_MD_work 1 = .ok (.iconst 0, 1) := by decide +kernel
theorem gm_d_MD_work_2 : decode gm_b_MD_work 2 = .ok (.putfield 103, 3) := by decide +kernel
theorem gm_d_MD_work_5 : decode gm_b_MD_work 5 = .ok (.aload_n 0, 1) := by decide +kernel
theorem gm_d_MD_work_6 : decode gm_b_MD_work 6 = .ok (.getfield 218, 3) := by decide +kernel
theorem gm_d_MD_work_9 : decode gm_b_MD_work 9 = .ok (.ifCond .eq 10, 3) := by decide +kernel
theorem gm_d_MD_work_12 : decode gm_b_MD_work 12 = .ok (.aload_n 0, 1) := by decide +kernel
theorem gm_d_MD_work_13 : decode gm_b_MD_work 13 = .ok (.getfield 290, 3) := by decide +kernel
theorem gm_d_MD_work_16 : decode gm_b_MD_work 16 = .ok (.goto 4, 3) := by decide +kernel
theorem gm_d_MD_work_19 : decode gm_b_MD_work 19 = .ok (.iconst (-1), 1) := by decide +kernel
theorem gm_d_MD_work_20 : decode gm_b_MD_work 20 = .ok (.ireturn, 1) := by decide +kernel
theorem gm_d_MD_nodes_0 : decode gm_b_MD_nodes 0 = .ok (.aload_n 0, 1) := by decide +kernel
theorem gm_d_MD_nodes_1 : decode gm_b_MD_nodes 1 = .ok (.iconst 0, 1) := by decide +kernel
theorem gm_d_MD_nodes_2 : decode gm_b_MD_nodes 2 = .ok (.putfield 103, 3) := by decide +kernel
theorem gm_d_MD_nodes_5 : decode gm_b_MD_nodes 5 = .ok (.aload_n 0, 1) := by decide +kernel
theorem gm_d_MD_nodes_6 : decode gm_b_MD_nodes 6 = .ok (.getfield 218, 3) := by decide +kernel
theorem gm_d_MD_nodes_9 : decode gm_b_MD_nodes 9 = .ok (.ifCond .eq 10, 3) := by decide +kernel
theorem gm_d_MD_nodes_12 : decode gm_b_MD_nodes 12 = .ok (.aload_n 0, 1) := by decide +kernel
theorem gm_d_MD_nodes_13 : decode gm_b_MD_nodes 13 = .ok (.getfield 278, 3) := by decide +kernel
theorem gm_d_MD_nodes_16 : decode gm_b_MD_nodes 16 = .ok (.goto 4, 3) := by decide +kernel
theorem gm_d_MD_nodes_19 : decode gm_b_MD_nodes 19 = .ok (.iconst (-1), 1) := by decide +kernel
theorem gm_d_MD_nodes_20 : decode gm_b_MD_nodes 20 = .ok (.ireturn, 1) := by decide +kernel
theorem gm_d_MD_peek_0 : decode gm_b_MD_peek 0 = .ok (.aload_n 0, 1) := by decide +kernel
theorem gm_d_MD_peek_1 : decode gm_b_MD_peek 1 = .ok (.getfield 109, 3) := by decide +kernel
theorem gm_d_MD_peek_4 : decode gm_b_MD_peek 4 = .ok (.aload_n 0, 1) := by decide +kernel
theorem gm_d_MD_peek_5 : decode gm_b_MD_peek 5 = .ok (.getfield 106, 3) := by decide +kernel
theorem gm_d_MD_peek_8 : decode gm_b_MD_peek 8 = .ok (.if_icmp .ge 15, 3) := by decide +kernel
theorem gm_d_MD_peek_11 : decode gm_b_MD_peek 11 = .ok (.aload_n 0, 1) := by decide +kernel
theorem gm_d_MD_peek_12 : decode gm_b_MD_peek 12 = .ok (.getfield 13, 3) := by decide +kernel
theorem gm_d_MD_peek_15 : decode gm_b_MD_peek 15 = .ok (.aload_n 0, 1) := by decide +kernel
theorem gm_d_MD_peek_16 : decode gm_b_MD_peek 16 = .ok (.getfield 109, 3) := by decide +kernel
theorem gm_d_MD_peek_19 : decode gm_b_MD_peek 19 = .ok (.iaload, 1) := by decide +kernel
theorem gm_d_MD_peek_20 : decode gm_b_MD_peek 20 = .ok (.goto 4, 3) := by decide +kernel
theorem gm_d_MD_peek_23 : decode gm_b_MD_peek 23 = .ok (.iconst 0, 1) := by decide +kernel
theorem gm_d_MD_peek_24 : decode gm_b_MD_peek 24 = .ok (.ireturn, 1) := by decide +kernel
theorem gm_d_MD_readRule_0 : decode gm_b_MD_readRule 0 = .ok (.aload_n 0, 1) := by decide +kernel
theorem gm_d_MD_readRule_1 : decode gm_b_MD_readRule 1 = .ok (.invokevirtual 122, 3) := by decide +kernel
theorem gm_d_MD_readRule_4 : decode gm_b_MD_readRule 4 = .ok (.istore_n 1, 1) := by decide +kernel
theorem gm_d_MD_readRule_5 : decode gm_b_MD_readRule 5 = .ok (.iload_n 1, 1) := by decide +kernel
theorem gm_d_MD_readRule_6 : decode gm_b_MD_readRule 6 = .ok (.bipush 65, 2) := by decide +kernel
theorem gm_d_MD_readRule_8 : decode gm_b_MD_readRule 8 = .ok (.if_icmp .lt 36, 3) := by decide +kernel
theorem gm_d_MD_readRule_11 : decode gm_b_MD_readRule 11 = .ok (.iload_n 1, 1) := by decide +kernel
theorem gm_d_MD_readRule_12 : decode gm_b_MD_readRule 12 = .ok (.bipush 90, 2) := by decide +kernel
theorem gm_d_MD_readRule_14 : decode gm_b_MD_readRule 14 = .ok (.if_icmp .gt 30, 3) := by decide +kernel
theorem gm_d_MD_readRule_17 : decode gm_b_MD_readRule 17 = .ok (.aload_n 0, 1) := by decide +kernel
theorem gm_d_MD_readRule_18 : decode gm_b_MD_readRule 18 = .ok (.getfield 20, 3) := by decide +kernel
theorem gm_d_MD_readRule_21 : decode gm_b_MD_readRule 21 = .ok (.aload_n 0, 1) := by decide +kernel
theorem gm_d_MD_readRule_22 : decode gm_b_MD_readRule 22 = .ok (.getfield 116, 3) := by decide +kernel
theorem gm_d_MD_readRule_25 : decode gm_b_MD_readRule 25 = .ok (.iaload, 1) := by decide +kernel
theorem gm_d_MD_readRule_26 : decode gm_b_MD_readRule 26 = .ok (.bipush 8, 2) := by decide +kernel
theorem gm_d_MD_readRule_28 : decode gm_b_MD_readRule 28 = .ok (.if_icmp .eq 16, 3) := by decide +kernel
theorem gm_d_MD_readRule_31 : decode gm_b_MD_readRule 31 = .ok (.aload_n 0, 1) := by decide +kernel
theorem gm_d_MD_readRule_32 : decode gm_b_MD_readRule 32 = .ok (.aload_n 0, 1) := by decide +kernel
theorem gm_d_MD_readRule_33 : decode gm_b_MD_readRule 33 = .ok (.getfield 116, 3) := by decide +kernel
theorem gm_d_MD_readRule_36 : decode gm_b_MD_readRule 36 = .ok (.iload_n 1, 1) := by decide +kernel
theorem gm_d_MD_readRule_37 : decode gm_b_MD_readRule 37 = .ok (.invokevirtual 126, 3) := by decide +kernel
theorem gm_d_MD_readRule_40 : decode gm_b_MD_readRule 40 = .ok (.iconst (-1), 1) := by decide +kernel
theorem gm_d_MD_readRule_41 : decode gm_b_MD_readRule 41 = .ok (.if_icmp .eq 8, 3) := by decide +kernel
theorem gm_d_MD_readRule_44 : decode gm_b_MD_readRule 44 = .ok (.aload_n 0, 1) := by decide +kernel
theorem gm_d_MD_readRule_45 : decode gm_b_MD_readRule 45 = .ok (.invokevirtual 130, 3) := by decide +kernel
theorem gm_d_MD_readRule_48 : decode gm_b_MD_readRule 48 = .ok (.return_, 1) := by decide +kernel
theorem gm_d_MD_readRule_49 : decode gm_b_MD_readRule 49 = .ok (.aload_n 0, 1) := by decide +kernel
theorem gm_d_MD_readRule_50 : decode gm_b_MD_readRule 50 = .ok (.dup, 1) := by decide +kernel
theorem gm_d_MD_readRule_51 : decode gm_b_MD_readRule 51 = .ok (.getfield 109, 3) := by decide +kernel
theorem gm_d_MD_readRule_54 : decode gm_b_MD_readRule 54 = .ok (.iconst 1, 1) := by decide +kernel
theorem gm_d_MD_readRule_55 : decode gm_b_MD_readRule 55 = .ok (.iadd, 1) := by decide +kernel
theorem gm_d_MD_readRule_56 : decode gm_b_MD_readRule 56 = .ok (.putfield 109, 3) := by decide +kernel
theorem gm_d_MD_readRule_59 : decode gm_b_MD_readRule 59 = .ok (.aload_n 0, 1) := by decide +kernel
theorem gm_d_MD_readRule_60 : decode gm_b_MD_readRule 60 = .ok (.invokevirtual 122, 3) := by decide +kernel
theorem gm_d_MD_readRule_63 : decode gm_b_MD_readRule 63 = .ok (.bipush 61, 2) := by decide +kernel
theorem gm_d_MD_readRule_65 : decode gm_b_MD_readRule 65 = .ok (.if_icmp .eq 8, 3) := by decide +kernel
theorem gm_d_MD_readRule_68 : decode gm_b_MD_readRule 68 = .ok (.aload_n 0, 1) := by decide +kernel
theorem gm_d_MD_readRule_69 : decode gm_b_MD_readRule 69 = .ok (.invokevirtual 130, 3) := by decide +kernel
theorem gm_d_MD_readRule_72 : decode gm_b_MD_readRule 72 = .ok (.return_, 1) := by decide +kernel
theorem gm_d_MD_readRule_73 : decode gm_b_MD_readRule 73 = .ok (.aload_n 0, 1) := by decide +kernel
theorem gm_d_MD_readRule_74 : decode gm_b_MD_readRule 74 = .ok (.dup, 1) := by decide +kernel
theorem gm_d_MD_readRule_75 : decode gm_b_MD_readRule 75 = .ok (.getfield 109, 3) := by decide +kernel
theorem gm_d_MD_readRule_78 : decode gm_b_MD_readRule 78 = .ok (.iconst 1, 1) := by decide +kernel
theorem gm_d_MD_readRule_79 : decode gm_b_MD_readRule 79 = .ok (.iadd, 1) := by decide +kernel
theorem gm_d_MD_readRule_80 : decode gm_b_MD_readRule 80 = .ok (.putfield 109, 3) := by decide +kernel
theorem gm_d_MD_readRule_83 : decode gm_b_MD_readRule 83 = .ok (.aload_n 0, 1) := by decide +kernel
theorem gm_d_MD_readRule_84 : decode gm_b_MD_readRule 84 = .ok (.iconst 0, 1) := by decide +kernel
theorem gm_d_MD_readRule_85 : decode gm_b_MD_readRule 85 = .ok (.putfield 133, 3) := by decide +kernel
theorem gm_d_MD_readRule_88 : decode gm_b_MD_readRule 88 = .ok (.aload_n 0, 1) := by decide +kernel
theorem gm_d_MD_readRule_89 : decode gm_b_MD_readRule 89 = .ok (.iconst 0, 1) := by decide +kernel
theorem gm_d_MD_readRule_90 : decode gm_b_MD_readRule 90 = .ok (.putfield 136, 3) := by decide +kernel
theorem gm_d_MD_readRule_93 : decode gm_b_MD_readRule 93 = .ok (.aload_n 0, 1) := by decide +kernel
theorem gm_d_MD_readRule_94 : decode gm_b_MD_readRule 94 = .ok (.iconst 0, 1) := by decide +kernel
theorem gm_d_MD_readRule_95 : decode gm_b_MD_readRule 95 = .ok (.putfield 139, 3) := by decide +kernel
theorem gm_d_MD_readRule_98 : decode gm_b_MD_readRule 98 = .ok (.aload_n 0, 1) := by decide +kernel
theorem gm_d_MD_readRule_99 : decode gm_b_MD_readRule 99 = .ok (.iconst 0, 1) := by decide +kernel
theorem gm_d_MD_readRule_100 : decode gm_b_MD_readRule 100 = .ok (.putfield 142, 3) := by decide +kernel
theorem gm_d_MD_readRule_103 : decode gm_b_MD_readRule 103 = .ok (.aload_n 0, 1) := by decide +kernel
theorem gm_d_MD_readRule_104 : decode gm_b_MD_readRule 104 = .ok (.getfield 61, 3) := by decide +kernel
theorem gm_d_MD_readRule_107 : decode gm_b_MD_readRule 107 = .ok (.iconst 0, 1) := by decide +kernel
theorem gm_d_MD_readRule_108 : decode gm_b_MD_readRule 108 = .ok (.bipush 59, 2) := by decide +kernel
theorem gm_d_MD_readRule_110 : decode gm_b_MD_readRule 110 = .ok (.iastore, 1) := by decide +kernel
theorem gm_d_MD_readRule_111 : decode gm_b_MD_readRule 111 = .ok (.aload_n 0, 1) := by decide +kernel
theorem gm_d_MD_readRule_112 : decode gm_b_MD_readRule 112 = .ok (.getfield 67, 3) := by decide +kernel
theorem gm_d_MD_readRule_115 : decode gm_b_MD_readRule 115 = .ok (.iconst 0, 1) := by decide +kernel
theorem gm_d_MD_readRule_116 : decode gm_b_MD_readRule 116 = .ok (.iconst 0, 1) := by decide +kernel
theorem gm_d_MD_readRule_117 : decode gm_b_MD_readRule 117 = .ok (.iastore, 1) := by decide +kernel
theorem gm_d_MD_readRule_118 : decode gm_b_MD_readRule 118 = .ok (.aload_n 0, 1) := by decide +kernel
theorem gm_d_MD_readRule_119 : decode gm_b_MD_readRule 119 = .ok (.getfield 70, 3) := by decide +kernel
theorem gm_d_MD_readRule_122 : decode gm_b_MD_readRule 122 = .ok (.iconst 0, 1) := by decide +kernel
theorem gm_d_MD_readRule_123 : decode gm_b_MD_readRule 123 = .ok (.iconst 0, 1) := by decide +kernel
theorem gm_d_MD_readRule_124 : decode gm_b_MD_readRule 124 = .ok (.iastore, 1) := by decide +kernel
theorem gm_d_MD_readRule_125 : decode gm_b_MD_readRule 125 = .ok (.aload_n 0, 1) := by decide +kernel
theorem gm_d_MD_readRule_126 : decode gm_b_MD_readRule 126 = .ok (.iconst 1, 1) := by decide +kernel
theorem gm_d_MD_readRule_127 : decode gm_b_MD_readRule 127 = .ok (.putfield 145, 3) := by decide +kernel
theorem gm_d_MD_readRule_130 : decode gm_b_MD_readRule 130 = .ok (.aload_n 0, 1) := by decide +kernel
theorem gm_d_MD_readRule_131 : decode gm_b_MD_readRule 131 = .ok (.getfield 112, 3) := by decide +kernel
theorem gm_d_MD_readRule_134 : decode gm_b_MD_readRule 134 = .ok (.ifCond .ne 17, 3) := by decide +kernel
theorem gm_d_MD_readRule_137 : decode gm_b_MD_readRule 137 = .ok (.aload_n 0, 1) := by decide +kernel
theorem gm_d_MD_readRule_138 : decode gm_b_MD_readRule 138 = .ok (.getfield 145, 3) := by decide +kernel
theorem gm_d_MD_readRule_141 : decode gm_b_MD_readRule 141 = .ok (.ifCond .eq 10, 3) := by decide +kernel
theorem gm_d_MD_readRule_144 : decode gm_b_MD_readRule 144 = .ok (.aload_n 0, 1) := by decide +kernel
theorem gm_d_MD_readRule_145 : decode gm_b_MD_readRule 145 = .ok (.invokevirtual 148, 3) := by decide +kernel
theorem gm_d_MD_readRule_148 : decode gm_b_MD_readRule 148 = .ok (.goto (-18), 3) := by decide +kernel
theorem gm_d_MD_readRule_151 : decode gm_b_MD_readRule 151 = .ok (.aload_n 0, 1) := by decide +kernel
theorem gm_d_MD_readRule_152 : decode gm_b_MD_readRule 152 = .ok (.getfield 112, 3) := by decide +kernel
theorem gm_d_MD_readRule_155 : decode gm_b_MD_readRule 155 = .ok (.ifCond .eq 4, 3) := by decide +kernel
theorem gm_d_MD_readRule_158 : decode gm_b_MD_readRule 158 = .ok (.return_, 1) := by decide +kernel
theorem gm_d_MD_readRule_159 : decode gm_b_MD_readRule 159 = .ok (.aload_n 0, 1) := by decide +kernel
theorem gm_d_MD_readRule_160 : decode gm_b_MD_readRule 160 = .ok (.getfield 23, 3) := by decide +kernel
theorem gm_d_MD_readRule_163 : decode gm_b_MD_readRule 163 = .ok (.bipush 8, 2) := by decide +kernel
theorem gm_d_MD_readRule_165 : decode gm_b_MD_readRule 165 = .ok (.aload_n 0, 1) := by decide +kernel
theorem gm_d_MD_readRule_166 : decode gm_b_MD_readRule 166 = .ok (.getfield 116, 3) := by decide +kernel
theorem gm_d_MD_readRule_169 : decode gm_b_MD_readRule 169 = .ok (.imul, 1) := by decide +kernel
theorem gm_d_MD_readRule_170 : decode gm_b_MD_readRule 170 = .ok (.aload_n 0, 1) := by decide +kernel
theorem gm_d_MD_readRule_171 : decode gm_b_MD_readRule 171 = .ok (.getfield 20, 3) := by decide +kernel
theorem gm_d_MD_readRule_174 : decode gm_b_MD_readRule 174 = .ok (.aload_n 0, 1) := by decide +kernel
theorem gm_d_MD_readRule_175 : decode gm_b_MD_readRule 175 = .ok (.getfield 116, 3) := by decide +kernel
theorem gm_d_MD_readRule_178 : decode gm_b_MD_readRule 178 = .ok (.iaload, 1) := by decide +kernel
theorem gm_d_MD_readRule_179 : decode gm_b_MD_readRule 179 = .ok (.iadd, 1) := by decide +kernel
theorem gm_d_MD_readRule_180 : decode gm_b_MD_readRule 180 = .ok (.iload_n 1, 1) := by decide +kernel
theorem gm_d_MD_readRule_181 : decode gm_b_MD_readRule 181 = .ok (.iastore, 1) := by decide +kernel
theorem gm_d_MD_readRule_182 : decode gm_b_MD_readRule 182 = .ok (.aload_n 0, 1) := by decide +kernel
theorem gm_d_MD_readRule_183 : decode gm_b_MD_readRule 183 = .ok (.getfield 20, 3) := by decide +kernel
theorem gm_d_MD_readRule_186 : decode gm_b_MD_readRule 186 = .ok (.aload_n 0, 1) := by decide +kernel
theorem gm_d_MD_readRule_187 : decode gm_b_MD_readRule 187 = .ok (.getfield 116, 3) := by decide +kernel
theorem gm_d_MD_readRule_190 : decode gm_b_MD_readRule 190 = .ok (.dup2, 1) := by decide +kernel
theorem gm_d_MD_readRule_191 : decode gm_b_MD_readRule 191 = .ok (.iaload, 1) := by decide +kernel
theorem gm_d_MD_readRule_192 : decode gm_b_MD_readRule 192 = .ok (.iconst 1, 1) := by decide +kernel
theorem gm_d_MD_readRule_193 : decode gm_b_MD_readRule 193 = .ok (.iadd, 1) := by decide +kernel
theorem gm_d_MD_readRule_194 : decode gm_b_MD_readRule 194 = .ok (.iastore, 1) := by decide +kernel
theorem gm_d_MD_readRule_195 : decode gm_b_MD_readRule 195 = .ok (.return_, 1) := by decide +kernel
theorem gm_d_MD_read_0 : decode gm_b_MD_read 0 = .ok (.aload_n 0, 1) := by decide +kernel
theorem gm_d_MD_read_1 : decode gm_b_MD_read 1 = .ok (.aload_n 0, 1) := by decide +kernel
theorem gm_d_MD_read_2 : decode gm_b_MD_read 2 = .ok (.getfield 17, 3) := by decide +kernel
theorem gm_d_MD_read_5 : decode gm_b_MD_read 5 = .ok (.ifCond .ne 7, 3) := by decide +kernel
theorem gm_d_MD_read_8 : decode gm_b_MD_read 8 = .ok (.iconst 1, 1) := by decide +kernel
theorem gm_d_MD_read_9 : decode gm_b_MD_read 9 = .ok (.goto 4, 3) := by decide +kernel
theorem gm_d_MD_read_12 : decode gm_b_MD_read 12 = .ok (.iconst 0, 1) := by decide +kernel
theorem gm_d_MD_read_13 : decode gm_b_MD_read 13 = .ok (.putfield 116, 3) := by decide +kernel
theorem gm_d_MD_read_16 : decode gm_b_MD_read 16 = .ok (.aload_n 0, 1) := by decide +kernel
theorem gm_d_MD_read_17 : decode gm_b_MD_read 17 = .ok (.getfield 20, 3) := by decide +kernel
theorem gm_d_MD_read_20 : decode gm_b_MD_read 20 = .ok (.aload_n 0, 1) := by decide +kernel
theorem gm_d_MD_read_21 : decode gm_b_MD_read 21 = .ok (.getfield 116, 3) := by decide +kernel
theorem gm_d_MD_read_24 : decode gm_b_MD_read 24 = .ok (.iconst 0, 1) := by decide +kernel
theorem gm_d_MD_read_25 : decode gm_b_MD_read 25 = .ok (.iastore, 1) := by decide +kernel
theorem gm_d_MD_read_26 : decode gm_b_MD_read 26 = .ok (.aload_n 0, 1) := by decide +kernel
theorem gm_d_MD_read_27 : decode gm_b_MD_read 27 = .ok (.getfield 29, 3) := by decide +kernel
theorem gm_d_MD_read_30 : decode gm_b_MD_read 30 = .ok (.aload_n 0, 1) := by decide +kernel
theorem gm_d_MD_read_31 : decode gm_b_MD_read 31 = .ok (.getfield 116, 3) := by decide +kernel
theorem gm_d_MD_read_34 : decode gm_b_MD_read 34 = .ok (.iconst 0, 1) := by decide +kernel
theorem gm_d_MD_read_35 : decode gm_b_MD_read 35 = .ok (.iastore, 1) := by decide +kernel
theorem gm_d_MD_read_36 : decode gm_b_MD_read 36 = .ok (.aload_n 0, 1) := by decide +kernel
theorem gm_d_MD_read_37 : decode gm_b_MD_read 37 = .ok (.iconst 0, 1) := by decide +kernel
theorem gm_d_MD_read_38 : decode gm_b_MD_read 38 = .ok (.putfield 109, 3) := by decide +kernel
theorem gm_d_MD_read_41 : decode gm_b_MD_read 41 = .ok (.aload_n 0, 1) := by decide +kernel
theorem gm_d_MD_read_42 : decode gm_b_MD_read 42 = .ok (.iconst 0, 1) := by decide +kernel
theorem gm_d_MD_read_43 : decode gm_b_MD_read 43 = .ok (.putfield 112, 3) := by decide +kernel
theorem gm_d_MD_read_46 : decode gm_b_MD_read 46 = .ok (.aload_n 0, 1) := by decide +kernel
theorem gm_d_MD_read_47 : decode gm_b_MD_read 47 = .ok (.getfield 112, 3) := by decide +kernel
theorem gm_d_MD_read_50 : decode gm_b_MD_read 50 = .ok (.ifCond .ne 33, 3) := by decide +kernel
theorem gm_d_MD_read_53 : decode gm_b_MD_read 53 = .ok (.aload_n 0, 1) := by decide +kernel
theorem gm_d_MD_read_54 : decode gm_b_MD_read 54 = .ok (.getfield 109, 3) := by decide +kernel
theorem gm_d_MD_read_57 : decode gm_b_MD_read 57 = .ok (.aload_n 0, 1) := by decide +kernel
theorem gm_d_MD_read_58 : decode gm_b_MD_read 58 = .ok (.getfield 106, 3) := by decide +kernel
theorem gm_d_MD_read_61 : decode gm_b_MD_read 61 = .ok (.if_icmp .lt 15, 3) := by decide +kernel
theorem gm_d_MD_read_64 : decode gm_b_MD_read 64 = .ok (.aload_n 0, 1) := by decide +kernel
theorem gm_d_MD_read_65 : decode gm_b_MD_read 65 = .ok (.getfield 20, 3) := by decide +kernel
theorem gm_d_MD_read_68 : decode gm_b_MD_read 68 = .ok (.aload_n 0, 1) := by decide +kernel
theorem gm_d_MD_read_69 : decode gm_b_MD_read 69 = .ok (.getfield 116, 3) := by decide +kernel
theorem gm_d_MD_read_72 : decode gm_b_MD_read 72 = .ok (.iaload, 1) := by decide +kernel
theorem gm_d_MD_read_73 : decode gm_b_MD_read 73 = .ok (.ifCond .ne 10, 3) := by decide +kernel
theorem gm_d_MD_read_76 : decode gm_b_MD_read 76 = .ok (.aload_n 0, 1) := by decide +kernel
theorem gm_d_MD_read_77 : decode gm_b_MD_read 77 = .ok (.invokevirtual 119, 3) := by decide +kernel
theorem gm_d_MD_read_80 : decode gm_b_MD_read 80 = .ok (.goto (-34), 3) := by decide +kernel
theorem gm_d_MD_read_83 : decode gm_b_MD_read 83 = .ok (.aload_n 0, 1) := by decide +kernel
theorem gm_d_MD_read_84 : decode gm_b_MD_read 84 = .ok (.getfield 112, 3) := by decide +kernel
theorem gm_d_MD_read_87 : decode gm_b_MD_read 87 = .ok (.ifCond .ne 7, 3) := by decide +kernel
theorem gm_d_MD_read_90 : decode gm_b_MD_read 90 = .ok (.iconst 1, 1) := by decide +kernel
theorem gm_d_MD_read_91 : decode gm_b_MD_read 91 = .ok (.goto 4, 3) := by decide +kernel
theorem gm_d_MD_read_94 : decode gm_b_MD_read 94 = .ok (.iconst 0, 1) := by decide +kernel
theorem gm_d_MD_read_95 : decode gm_b_MD_read 95 = .ok (.ireturn, 1) := by decide +kernel
theorem gm_d_MD_compile_0 : decode gm_b_MD_compile 0 = .ok (.aload_n 0, 1) := by decide +kernel
theorem gm_d_MD_compile_1 : decode gm_b_MD_compile 1 = .ok (.iconst 0, 1) := by decide +kernel
theorem gm_d_MD_compile_2 : decode gm_b_MD_compile 2 = .ok (.putfield 103, 3) := by decide +kernel
theorem gm_d_MD_compile_5 : decode gm_b_MD_compile 5 = .ok (.aload_n 0, 1) := by decide +kernel
theorem gm_d_MD_compile_6 : decode gm_b_MD_compile 6 = .ok (.invokevirtual 202, 3) := by decide +kernel
theorem gm_d_MD_compile_9 : decode gm_b_MD_compile 9 = .ok (.ifCond .ne 13, 3) := by decide +kernel
theorem gm_d_MD_compile_12 : decode gm_b_MD_compile 12 = .ok (.aload_n 0, 1) := by decide +kernel
theorem gm_d_MD_compile_13 : decode gm_b_MD_compile 13 = .ok (.aload_n 0, 1) := by decide +kernel
theorem gm_d_MD_compile_14 : decode gm_b_MD_compile 14 = .ok (.getfield 109, 3) := by decide +kernel
theorem gm_d_MD_compile_17 : decode gm_b_MD_compile 17 = .ok (.iconst 1, 1) := by decide +kernel
theorem gm_d_MD_compile_18 : decode gm_b_MD_compile 18 = .ok (.invokevirtual 206, 3) := by decide +kernel
theorem gm_d_MD_compile_21 : decode gm_b_MD_compile 21 = .ok (.ireturn, 1) := by decide +kernel
theorem gm_d_MD_compile_22 : decode gm_b_MD_compile 22 = .ok (.iconst 0, 1) := by decide +kernel
theorem gm_d_MD_compile_23 : decode gm_b_MD_compile 23 = .ok (.istore_n 1, 1) := by decide +kernel
theorem gm_d_MD_compile_24 : decode gm_b_MD_compile 24 = .ok (.iload_n 1, 1) := by decide +kernel
theorem gm_d_MD_compile_25 : decode gm_b_MD_compile 25 = .ok (.aload_n 0, 1) := by decide +kernel
theorem gm_d_MD_compile_26 : decode gm_b_MD_compile 26 = .ok (.getfield 20, 3) := by decide +kernel
theorem gm_d_MD_compile_29 : decode gm_b_MD_compile 29 = .ok (.aload_n 0, 1) := by decide +kernel
theorem gm_d_MD_compile_30 : decode gm_b_MD_compile 30 = .ok (.getfield 116, 3) := by decide +kernel
theorem gm_d_MD_compile_33 : decode gm_b_MD_compile 33 = .ok (.iaload, 1) := by decide +kernel
theorem gm_d_MD_compile_34 : decode gm_b_MD_compile 34 = .ok (.if_icmp .ge 37, 3) := by decide +kernel
theorem gm_d_MD_compile_37 : decode gm_b_MD_compile 37 = .ok (.aload_n 0, 1) := by decide +kernel
theorem gm_d_MD_compile_38 : decode gm_b_MD_compile 38 = .ok (.iload_n 1, 1) := by decide +kernel
theorem gm_d_MD_compile_39 : decode gm_b_MD_compile 39 = .ok (.invokevirtual 209, 3) := by decide +kernel
theorem gm_d_MD_compile_42 : decode gm_b_MD_compile 42 = .ok (.ifCond .eq 23, 3) := by decide +kernel
theorem gm_d_MD_compile_45 : decode gm_b_MD_compile 45 = .ok (.aload_n 0, 1) := by decide +kernel
theorem gm_d_MD_compile_46 : decode gm_b_MD_compile 46 = .ok (.aload_n 0, 1) := by decide +kernel
theorem gm_d_MD_compile_47 : decode gm_b_MD_compile 47 = .ok (.getfield 23, 3) := by decide +kernel
theorem gm_d_MD_compile_50 : decode gm_b_MD_compile 50 = .ok (.bipush 8, 2) := by decide +kernel
theorem gm_d_MD_compile_52 : decode gm_b_MD_compile 52 = .ok (.aload_n 0, 1) := by decide +kernel
theorem gm_d_MD_compile_53 : decode gm_b_MD_compile 53 = .ok (.getfield 116, 3) := by decide +kernel
theorem gm_d_MD_compile_56 : decode gm_b_MD_compile 56 = .ok (.imul, 1) := by decide +kernel
theorem gm_d_MD_compile_57 : decode gm_b_MD_compile 57 = .ok (.iload_n 1, 1) := by decide +kernel
theorem gm_d_MD_compile_58 : decode gm_b_MD_compile 58 = .ok (.iadd, 1) := by decide +kernel
theorem gm_d_MD_compile_59 : decode gm_b_MD_compile 59 = .ok (.iaload, 1) := by decide +kernel
theorem gm_d_MD_compile_60 : decode gm_b_MD_compile 60 = .ok (.iconst 2, 1) := by decide +kernel
theorem gm_d_MD_compile_61 : decode gm_b_MD_compile 61 = .ok (.invokevirtual 206, 3) := by decide +kernel
theorem gm_d_MD_compile_64 : decode gm_b_MD_compile 64 = .ok (.ireturn, 1) := by decide +kernel
theorem gm_d_MD_compile_65 : decode gm_b_MD_compile 65 = .ok (.iinc 1 1, 3) := by decide +kernel
theorem gm_d_MD_compile_68 : decode gm_b_MD_compile 68 = .ok (.goto (-44), 3) := by decide +kernel
theorem gm_d_MD_compile_71 : decode gm_b_MD_compile 71 = .ok (.aload_n 0, 1) := by decide +kernel
theorem gm_d_MD_compile_72 : decode gm_b_MD_compile 72 = .ok (.invokevirtual 212, 3) := by decide +kernel
theorem gm_d_MD_compile_75 : decode gm_b_MD_compile 75 = .ok (.iconst 0, 1) := by decide +kernel
theorem gm_d_MD_compile_76 : decode gm_b_MD_compile 76 = .ok (.istore_n 1, 1) := by decide +kernel
theorem gm_d_MD_compile_77 : decode gm_b_MD_compile 77 = .ok (.iload_n 1, 1) := by decide +kernel
theorem gm_d_MD_compile_78 : decode gm_b_MD_compile 78 = .ok (.aload_n 0, 1) := by decide +kernel
theorem gm_d_MD_compile_79 : decode gm_b_MD_compile 79 = .ok (.getfield 20, 3) := by decide +kernel
theorem gm_d_MD_compile_82 : decode gm_b_MD_compile 82 = .ok (.aload_n 0, 1) := by decide +kernel
theorem gm_d_MD_compile_83 : decode gm_b_MD_compile 83 = .ok (.getfield 116, 3) := by decide +kernel
theorem gm_d_MD_compile_86 : decode gm_b_MD_compile 86 = .ok (.iaload, 1) := by decide +kernel
theorem gm_d_MD_compile_87 : decode gm_b_MD_compile 87 = .ok (.if_icmp .ge 37, 3) := by decide +kernel
theorem gm_d_MD_compile_90 : decode gm_b_MD_compile 90 = .ok (.aload_n 0, 1) := by decide +kernel
theorem gm_d_MD_compile_91 : decode gm_b_MD_compile 91 = .ok (.iload_n 1, 1) := by decide +kernel
theorem gm_d_MD_compile_92 : decode gm_b_MD_compile 92 = .ok (.invokevirtual 215, 3) := by decide +kernel
theorem gm_d_MD_compile_95 : decode gm_b_MD_compile 95 = .ok (.ifCond .eq 23, 3) := by decide +kernel
theorem gm_d_MD_compile_98 : decode gm_b_MD_compile 98 = .ok (.aload_n 0, 1) := by decide +kernel
theorem gm_d_MD_compile_99 : decode gm_b_MD_compile 99 = .ok (.aload_n 0, 1) := by decide +kernel
theorem gm_d_MD_compile_100 : decode gm_b_MD_compile 100 = .ok (.getfield 23, 3) := by decide +kernel
theorem gm_d_MD_compile_103 : decode gm_b_MD_compile 103 = .ok (.bipush 8, 2) := by decide +kernel
theorem gm_d_MD_compile_105 : decode gm_b_MD_compile 105 = .ok (.aload_n 0, 1) := by decide +kernel
theorem gm_d_MD_compile_106 : decode gm_b_MD_compile 106 = .ok (.getfield 116, 3) := by decide +kernel
theorem gm_d_MD_compile_109 : decode gm_b_MD_compile 109 = .ok (.imul, 1) := by decide +kernel
theorem gm_d_MD_compile_110 : decode gm_b_MD_compile 110 = .ok (.iload_n 1, 1) := by decide +kernel
theorem gm_d_MD_compile_111 : decode gm_b_MD_compile 111 = .ok (.iadd, 1) := by decide +kernel
theorem gm_d_MD_compile_112 : decode gm_b_MD_compile 112 = .ok (.iaload, 1) := by decide +kernel
theorem gm_d_MD_compile_113 : decode gm_b_MD_compile 113 = .ok (.iconst 3, 1) := by decide +kernel
theorem gm_d_MD_compile_114 : decode gm_b_MD_compile 114 = .ok (.invokevirtual 206, 3) := by decide +kernel
theorem gm_d_MD_compile_117 : decode gm_b_MD_compile 117 = .ok (.ireturn, 1) := by decide +kernel
theorem gm_d_MD_compile_118 : decode gm_b_MD_compile 118 = .ok (.iinc 1 1, 3) := by decide +kernel
theorem gm_d_MD_compile_121 : decode gm_b_MD_compile 121 = .ok (.goto (-44), 3) := by decide +kernel
theorem gm_d_MD_compile_124 : decode gm_b_MD_compile 124 = .ok (.aload_n 0, 1) := by decide +kernel
theorem gm_d_MD_compile_125 : decode gm_b_MD_compile 125 = .ok (.iconst (-1), 1) := by decide +kernel
theorem gm_d_MD_compile_126 : decode gm_b_MD_compile 126 = .ok (.putfield 9, 3) := by decide +kernel
theorem gm_d_MD_compile_129 : decode gm_b_MD_compile 129 = .ok (.aload_n 0, 1) := by decide +kernel
theorem gm_d_MD_compile_130 : decode gm_b_MD_compile 130 = .ok (.aload_n 0, 1) := by decide +kernel
theorem gm_d_MD_compile_131 : decode gm_b_MD_compile 131 = .ok (.getfield 116, 3) := by decide +kernel
theorem gm_d_MD_compile_134 : decode gm_b_MD_compile 134 = .ok (.putfield 17, 3) := by decide +kernel
theorem gm_d_MD_compile_137 : decode gm_b_MD_compile 137 = .ok (.aload_n 0, 1) := by decide +kernel
theorem gm_d_MD_compile_138 : decode gm_b_MD_compile 138 = .ok (.iconst 0, 1) := by decide +kernel
theorem gm_d_MD_compile_139 : decode gm_b_MD_compile 139 = .ok (.putfield 218, 3) := by decide +kernel
theorem gm_d_MD_compile_142 : decode gm_b_MD_compile 142 = .ok (.aload_n 0, 1) := by decide +kernel
theorem gm_d_MD_compile_143 : decode gm_b_MD_compile 143 = .ok (.getfield 20, 3) := by decide +kernel
theorem gm_d_MD_compile_146 : decode gm_b_MD_compile 146 = .ok (.aload_n 0, 1) := by decide +kernel
theorem gm_d_MD_compile_147 : decode gm_b_MD_compile 147 = .ok (.getfield 17, 3) := by decide +kernel
theorem gm_d_MD_compile_150 : decode gm_b_MD_compile 150 = .ok (.iaload, 1) := by decide +kernel
theorem gm_d_MD_compile_151 : decode gm_b_MD_compile 151 = .ok (.ireturn, 1) := by decide +kernel
theorem gm_d_MD_asked_0 : decode gm_b_MD_asked 0 = .ok (.aload_n 0, 1) := by decide +kernel
theorem gm_d_MD_asked_1 : decode gm_b_MD_asked 1 = .ok (.getfield 17, 3) := by decide +kernel
theorem gm_d_MD_asked_4 : decode gm_b_MD_asked 4 = .ok (.iconst (-1), 1) := by decide +kernel
theorem gm_d_MD_asked_5 : decode gm_b_MD_asked 5 = .ok (.if_icmp .ne 7, 3) := by decide +kernel
theorem gm_d_MD_asked_8 : decode gm_b_MD_asked 8 = .ok (.iconst (-1), 1) := by decide +kernel
theorem gm_d_MD_asked_9 : decode gm_b_MD_asked 9 = .ok (.goto 12, 3) := by decide +kernel
theorem gm_d_MD_asked_12 : decode gm_b_MD_asked 12 = .ok (.aload_n 0, 1) := by decide +kernel
theorem gm_d_MD_asked_13 : decode gm_b_MD_asked 13 = .ok (.aload_n 0, 1) := by decide +kernel
theorem gm_d_MD_asked_14 : decode gm_b_MD_asked 14 = .ok (.getfield 17, 3) := by decide +kernel
theorem gm_d_MD_asked_17 : decode gm_b_MD_asked 17 = .ok (.iload_n 1, 1) := by decide +kernel
theorem gm_d_MD_asked_18 : decode gm_b_MD_asked 18 = .ok (.invokevirtual 126, 3) := by decide +kernel
theorem gm_d_MD_asked_21 : decode gm_b_MD_asked 21 = .ok (.istore_n 2, 1) := by decide +kernel
theorem gm_d_MD_asked_22 : decode gm_b_MD_asked 22 = .ok (.aload_n 0, 1) := by decide +kernel
theorem gm_d_MD_asked_23 : decode gm_b_MD_asked 23 = .ok (.aload_n 0, 1) := by decide +kernel
theorem gm_d_MD_asked_24 : decode gm_b_MD_asked 24 = .ok (.getfield 17, 3) := by decide +kernel
theorem gm_d_MD_asked_27 : decode gm_b_MD_asked 27 = .ok (.iconst (-1), 1) := by decide +kernel
theorem gm_d_MD_asked_28 : decode gm_b_MD_asked 28 = .ok (.if_icmp .ne 7, 3) := by decide +kernel
theorem gm_d_MD_asked_31 : decode gm_b_MD_asked 31 = .ok (.iconst 1, 1) := by decide +kernel
theorem gm_d_MD_asked_32 : decode gm_b_MD_asked 32 = .ok (.goto 13, 3) := by decide +kernel
theorem gm_d_MD_asked_35 : decode gm_b_MD_asked 35 = .ok (.iload_n 2, 1) := by decide +kernel
theorem gm_d_MD_asked_36 : decode gm_b_MD_asked 36 = .ok (.iconst (-1), 1) := by decide +kernel
theorem gm_d_MD_asked_37 : decode gm_b_MD_asked 37 = .ok (.if_icmp .ne 7, 3) := by decide +kernel
theorem gm_d_MD_asked_40 : decode gm_b_MD_asked 40 = .ok (.iconst 2, 1) := by decide +kernel
theorem gm_d_MD_asked_41 : decode gm_b_MD_asked 41 = .ok (.goto 4, 3) := by decide +kernel
theorem gm_d_MD_asked_44 : decode gm_b_MD_asked 44 = .ok (.iconst 0, 1) := by decide +kernel
theorem gm_d_MD_asked_45 : decode gm_b_MD_asked 45 = .ok (.putfield 103, 3) := by decide +kernel
theorem gm_d_MD_asked_48 : decode gm_b_MD_asked 48 = .ok (.aload_n 0, 1) := by decide +kernel
theorem gm_d_MD_asked_49 : decode gm_b_MD_asked 49 = .ok (.getfield 103, 3) := by decide +kernel
theorem gm_d_MD_asked_52 : decode gm_b_MD_asked 52 = .ok (.ifCond .le 7, 3) := by decide +kernel
theorem gm_d_MD_asked_55 : decode gm_b_MD_asked 55 = .ok (.iconst (-1), 1) := by decide +kernel
theorem gm_d_MD_asked_56 : decode gm_b_MD_asked 56 = .ok (.goto 17, 3) := by decide +kernel
theorem gm_d_MD_asked_59 : decode gm_b_MD_asked 59 = .ok (.aload_n 0, 1) := by decide +kernel
theorem gm_d_MD_asked_60 : decode gm_b_MD_asked 60 = .ok (.getfield 26, 3) := by decide +kernel
theorem gm_d_MD_asked_63 : decode gm_b_MD_asked 63 = .ok (.bipush 8, 2) := by decide +kernel
theorem gm_d_MD_asked_65 : decode gm_b_MD_asked 65 = .ok (.aload_n 0, 1) := by decide +kernel
theorem gm_d_MD_asked_66 : decode gm_b_MD_asked 66 = .ok (.getfield 17, 3) := by decide +kernel
theorem gm_d_MD_asked_69 : decode gm_b_MD_asked 69 = .ok (.imul, 1) := by decide +kernel
theorem gm_d_MD_asked_70 : decode gm_b_MD_asked 70 = .ok (.iload_n 2, 1) := by decide +kernel
theorem gm_d_MD_asked_71 : decode gm_b_MD_asked 71 = .ok (.iadd, 1) := by decide +kernel
theorem gm_d_MD_asked_72 : decode gm_b_MD_asked 72 = .ok (.iaload, 1) := by decide +kernel
theorem gm_d_MD_asked_73 : decode gm_b_MD_asked 73 = .ok (.ireturn, 1) := by decide +kernel
theorem gm_d_MD_empty_0 : decode gm_b_MD_empty 0 = .ok (.aload_n 0, 1) := by decide +kernel
theorem gm_d_MD_empty_1 : decode gm_b_MD_empty 1 = .ok (.iload_n 1, 1) := by decide +kernel
theorem gm_d_MD_empty_2 : decode gm_b_MD_empty 2 = .ok (.invokevirtual 221, 3) := by decide +kernel
theorem gm_d_MD_empty_5 : decode gm_b_MD_empty 5 = .ok (.istore_n 2, 1) := by decide +kernel
theorem gm_d_MD_empty_6 : decode gm_b_MD_empty 6 = .ok (.aload_n 0, 1) := by decide +kernel
theorem gm_d_MD_empty_7 : decode gm_b_MD_empty 7 = .ok (.getfield 103, 3) := by decide +kernel
theorem gm_d_MD_empty_10 : decode gm_b_MD_empty 10 = .ok (.ifCond .ne 16, 3) := by decide +kernel
theorem gm_d_MD_empty_13 : decode gm_b_MD_empty 13 = .ok (.aload_n 0, 1) := by decide +kernel
theorem gm_d_MD_empty_14 : decode gm_b_MD_empty 14 = .ok (.getfield 47, 3) := by decide +kernel
theorem gm_d_MD_empty_17 : decode gm_b_MD_empty 17 = .ok (.iload_n 2, 1) := by decide +kernel
theorem gm_d_MD_empty_18 : decode gm_b_MD_empty 18 = .ok (.baload, 1) := by decide +kernel
theorem gm_d_MD_empty_19 : decode gm_b_MD_empty 19 = .ok (.ifCond .eq 7, 3) := by decide +kernel
theorem gm_d_MD_empty_22 : decode gm_b_MD_empty 22 = .ok (.iconst 1, 1) := by decide +kernel
theorem gm_d_MD_empty_23 : decode gm_b_MD_empty 23 = .ok (.goto 4, 3) := by decide +kernel
theorem gm_d_MD_empty_26 : decode gm_b_MD_empty 26 = .ok (.iconst 0, 1) := by decide +kernel
theorem gm_d_MD_empty_27 : decode gm_b_MD_empty 27 = .ok (.ireturn, 1) := by decide +kernel
theorem gm_d_MD_head_0 : decode gm_b_MD_head 0 = .ok (.aload_n 0, 1) := by decide +kernel
theorem gm_d_MD_head_1 : decode gm_b_MD_head 1 = .ok (.iload_n 1, 1) := by decide +kernel
theorem gm_d_MD_head_2 : decode gm_b_MD_head 2 = .ok (.invokevirtual 221, 3) := by decide +kernel
theorem gm_d_MD_head_5 : decode gm_b_MD_head 5 = .ok (.istore_n 3, 1) := by decide +kernel
theorem gm_d_MD_head_6 : decode gm_b_MD_head 6 = .ok (.aload_n 0, 1) := by decide +kernel
theorem gm_d_MD_head_7 : decode gm_b_MD_head 7 = .ok (.getfield 103, 3) := by decide +kernel
theorem gm_d_MD_head_10 : decode gm_b_MD_head 10 = .ok (.ifCond .ne 16, 3) := by decide +kernel
theorem gm_d_MD_head_13 : decode gm_b_MD_head 13 = .ok (.aload_n 0, 1) := by decide +kernel
theorem gm_d_MD_head_14 : decode gm_b_MD_head 14 = .ok (.iload_n 3, 1) := by decide +kernel
theorem gm_d_MD_head_15 : decode gm_b_MD_head 15 = .ok (.iload_n 2, 1) := by decide +kernel
theorem gm_d_MD_head_16 : decode gm_b_MD_head 16 = .ok (.invokevirtual 224, 3) := by decide +kernel
theorem gm_d_MD_head_19 : decode gm_b_MD_head 19 = .ok (.ifCond .eq 7, 3) := by decide +kernel
theorem gm_d_MD_head_22 : decode gm_b_MD_head 22 = .ok (.iconst 1, 1) := by decide +kernel
theorem gm_d_MD_head_23 : decode gm_b_MD_head 23 = .ok (.goto 4, 3) := by decide +kernel
theorem gm_d_MD_head_26 : decode gm_b_MD_head 26 = .ok (.iconst 0, 1) := by decide +kernel
theorem gm_d_MD_head_27 : decode gm_b_MD_head 27 = .ok (.ireturn, 1) := by decide +kernel
theorem gm_d_MD_match_0 : decode gm_b_MD_match 0 = .ok (.aload_n 0, 1) := by decide +kernel
theorem gm_d_MD_match_1 : decode gm_b_MD_match 1 = .ok (.iconst 0, 1) := by decide +kernel
theorem gm_d_MD_match_2 : decode gm_b_MD_match 2 = .ok (.putfield 103, 3) := by decide +kernel
theorem gm_d_MD_match_5 : decode gm_b_MD_match 5 = .ok (.aload_n 0, 1) := by decide +kernel
theorem gm_d_MD_match_6 : decode gm_b_MD_match 6 = .ok (.getfield 17, 3) := by decide +kernel
theorem gm_d_MD_match_9 : decode gm_b_MD_match 9 = .ok (.iconst (-1), 1) := by decide +kernel
theorem gm_d_MD_match_10 : decode gm_b_MD_match 10 = .ok (.if_icmp .ne 9, 3) := by decide +kernel
theorem gm_d_MD_match_13 : decode gm_b_MD_match 13 = .ok (.aload_n 0, 1) := by decide +kernel
theorem gm_d_MD_match_14 : decode gm_b_MD_match 14 = .ok (.iconst 1, 1) := by decide +kernel
theorem gm_d_MD_match_15 : decode gm_b_MD_match 15 = .ok (.invokevirtual 199, 3) := by decide +kernel
theorem gm_d_MD_match_18 : decode gm_b_MD_match 18 = .ok (.ireturn, 1) := by decide +kernel
theorem gm_d_MD_match_19 : decode gm_b_MD_match 19 = .ok (.aload_n 0, 1) := by decide +kernel
theorem gm_d_MD_match_20 : decode gm_b_MD_match 20 = .ok (.getfield 26, 3) := by decide +kernel
theorem gm_d_MD_match_23 : decode gm_b_MD_match 23 = .ok (.bipush 8, 2) := by decide +kernel
theorem gm_d_MD_match_25 : decode gm_b_MD_match 25 = .ok (.aload_n 0, 1) := by decide +kernel
theorem gm_d_MD_match_26 : decode gm_b_MD_match 26 = .ok (.getfield 17, 3) := by decide +kernel
theorem gm_d_MD_match_29 : decode gm_b_MD_match 29 = .ok (.imul, 1) := by decide +kernel
theorem gm_d_MD_match_30 : decode gm_b_MD_match 30 = .ok (.iaload, 1) := by decide +kernel
theorem gm_d_MD_match_31 : decode gm_b_MD_match 31 = .ok (.istore_n 2, 1) := by decide +kernel
theorem gm_d_MD_match_32 : decode gm_b_MD_match 32 = .ok (.aload_n 0, 1) := by decide +kernel
theorem gm_d_MD_match_33 : decode gm_b_MD_match 33 = .ok (.invokevirtual 284, 3) := by decide +kernel
theorem gm_d_MD_match_36 : decode gm_b_MD_match 36 = .ok (.aload_n 0, 1) := by decide +kernel
theorem gm_d_MD_match_37 : decode gm_b_MD_match 37 = .ok (.iconst 1, 1) := by decide +kernel
theorem gm_d_MD_match_38 : decode gm_b_MD_match 38 = .ok (.putfield 218, 3) := by decide +kernel
theorem gm_d_MD_match_41 : decode gm_b_MD_match 41 = .ok (.aload_n 0, 1) := by decide +kernel
theorem gm_d_MD_match_42 : decode gm_b_MD_match 42 = .ok (.iconst 0, 1) := by decide +kernel
theorem gm_d_MD_match_43 : decode gm_b_MD_match 43 = .ok (.putfield 278, 3) := by decide +kernel
theorem gm_d_MD_match_46 : decode gm_b_MD_match 46 = .ok (.aload_n 0, 1) := by decide +kernel
theorem gm_d_MD_match_47 : decode gm_b_MD_match 47 = .ok (.iload_n 2, 1) := by decide +kernel
theorem gm_d_MD_match_48 : decode gm_b_MD_match 48 = .ok (.iconst 0, 1) := by decide +kernel
theorem gm_d_MD_match_49 : decode gm_b_MD_match 49 = .ok (.invokevirtual 260, 3) := by decide +kernel
theorem gm_d_MD_match_52 : decode gm_b_MD_match 52 = .ok (.istore_n 3, 1) := by decide +kernel
theorem gm_d_MD_match_53 : decode gm_b_MD_match 53 = .ok (.aload_n 0, 1) := by decide +kernel
theorem gm_d_MD_match_54 : decode gm_b_MD_match 54 = .ok (.iload_n 1, 1) := by decide +kernel
theorem gm_d_MD_match_55 : decode gm_b_MD_match 55 = .ok (.ifCond .eq 20, 3) := by decide +kernel
theorem gm_d_MD_match_58 : decode gm_b_MD_match 58 = .ok (.iload_n 3, 1) := by decide +kernel
theorem gm_d_MD_match_59 : decode gm_b_MD_match 59 = .ok (.sipush 1000, 3) := by decide +kernel
theorem gm_d_MD_match_62 : decode gm_b_MD_match 62 = .ok (.if_icmp .le 9, 3) := by decide +kernel
theorem gm_d_MD_match_65 : decode gm_b_MD_match 65 = .ok (.sipush 1000, 3) := by decide +kernel
theorem gm_d_MD_match_68 : decode gm_b_MD_match 68 = .ok (.goto 12, 3) := by decide +kernel
theorem gm_d_MD_match_71 : decode gm_b_MD_match 71 = .ok (.iload_n 3, 1) := by decide +kernel
theorem gm_d_MD_match_72 : decode gm_b_MD_match 72 = .ok (.goto 8, 3) := by decide +kernel
theorem gm_d_MD_match_75 : decode gm_b_MD_match 75 = .ok (.aload_n 0, 1) := by decide +kernel
theorem gm_d_MD_match_76 : decode gm_b_MD_match 76 = .ok (.iload_n 2, 1) := by decide +kernel
theorem gm_d_MD_match_77 : decode gm_b_MD_match 77 = .ok (.invokevirtual 287, 3) := by decide +kernel
theorem gm_d_MD_match_80 : decode gm_b_MD_match 80 = .ok (.putfield 290, 3) := by decide +kernel
theorem gm_d_MD_match_83 : decode gm_b_MD_match 83 = .ok (.iload_n 1, 1) := by decide +kernel
theorem gm_d_MD_match_84 : decode gm_b_MD_match 84 = .ok (.ifCond .eq 13, 3) := by decide +kernel
theorem gm_d_MD_match_87 : decode gm_b_MD_match 87 = .ok (.iload_n 3, 1) := by decide +kernel
theorem gm_d_MD_match_88 : decode gm_b_MD_match 88 = .ok (.sipush 1000, 3) := by decide +kernel
theorem gm_d_MD_match_91 : decode gm_b_MD_match 91 = .ok (.if_icmp .le 6, 3) := by decide +kernel
theorem gm_d_MD_match_94 : decode gm_b_MD_match 94 = .ok (.bipush (-2), 2) := by decide +kernel
theorem gm_d_MD_match_96 : decode gm_b_MD_match 96 = .ok (.ireturn, 1) := by decide +kernel
theorem gm_d_MD_match_97 : decode gm_b_MD_match 97 = .ok (.aload_n 0, 1) := by decide +kernel
theorem gm_d_MD_match_98 : decode gm_b_MD_match 98 = .ok (.iload_n 2, 1) := by decide +kernel
theorem gm_d_MD_match_99 : decode gm_b_MD_match 99 = .ok (.iconst 0, 1) := by decide +kernel
theorem gm_d_MD_match_100 : decode gm_b_MD_match 100 = .ok (.invokevirtual 257, 3) := by decide +kernel
theorem gm_d_MD_match_103 : decode gm_b_MD_match 103 = .ok (.istore 4, 2) := by decide +kernel
theorem gm_d_MD_match_105 : decode gm_b_MD_match 105 = .ok (.iload 4, 2) := by decide +kernel
theorem gm_d_MD_match_107 : decode gm_b_MD_match 107 = .ok (.ifCond .lt 8, 3) := by decide +kernel
theorem gm_d_MD_match_110 : decode gm_b_MD_match 110 = .ok (.aload_n 0, 1) := by decide +kernel
theorem gm_d_MD_match_111 : decode gm_b_MD_match 111 = .ok (.iload_n 2, 1) := by decide +kernel
theorem gm_d_MD_match_112 : decode gm_b_MD_match 112 = .ok (.invokevirtual 293, 3) := by decide +kernel
theorem gm_d_MD_match_115 : decode gm_b_MD_match 115 = .ok (.iload 4, 2) := by decide +kernel
theorem gm_d_MD_match_117 : decode gm_b_MD_match 117 = .ok (.ireturn, 1) := by decide +kernel
theorem gm_d_MD_node_0 : decode gm_b_MD_node 0 = .ok (.aload_n 0, 1) := by decide +kernel
theorem gm_d_MD_node_1 : decode gm_b_MD_node 1 = .ok (.iconst 0, 1) := by decide +kernel
theorem gm_d_MD_node_2 : decode gm_b_MD_node 2 = .ok (.putfield 103, 3) := by decide +kernel
theorem gm_d_MD_node_5 : decode gm_b_MD_node 5 = .ok (.aload_n 0, 1) := by decide +kernel
theorem gm_d_MD_node_6 : decode gm_b_MD_node 6 = .ok (.getfield 218, 3) := by decide +kernel
theorem gm_d_MD_node_9 : decode gm_b_MD_node 9 = .ok (.ifCond .eq 15, 3) := by decide +kernel
theorem gm_d_MD_node_12 : decode gm_b_MD_node 12 = .ok (.iload_n 1, 1) := by decide +kernel
theorem gm_d_MD_node_13 : decode gm_b_MD_node 13 = .ok (.ifCond .lt 11, 3) := by decide +kernel
theorem gm_d_MD_node_16 : decode gm_b_MD_node 16 = .ok (.iload_n 1, 1) := by decide +kernel
theorem gm_d_MD_node_17 : decode gm_b_MD_node 17 = .ok (.aload_n 0, 1) := by decide +kernel
theorem gm_d_MD_node_18 : decode gm_b_MD_node 18 = .ok (.getfield 278, 3) := by decide +kernel
theorem gm_d_MD_node_21 : decode gm_b_MD_node 21 = .ok (.if_icmp .lt 9, 3) := by decide +kernel
theorem gm_d_MD_node_24 : decode gm_b_MD_node 24 = .ok (.aload_n 0, 1) := by decide +kernel
theorem gm_d_MD_node_25 : decode gm_b_MD_node 25 = .ok (.iconst 1, 1) := by decide +kernel
theorem gm_d_MD_node_26 : decode gm_b_MD_node 26 = .ok (.invokevirtual 199, 3) := by decide +kernel
theorem gm_d_MD_node_29 : decode gm_b_MD_node 29 = .ok (.ireturn, 1) := by decide +kernel
theorem gm_d_MD_node_30 : decode gm_b_MD_node 30 = .ok (.iload_n 2, 1) := by decide +kernel
theorem gm_d_MD_node_31 : decode gm_b_MD_node 31 = .ok (.tableswitch 46 0 2 #[25, 32, 39], 25) := by decide +kernel
theorem gm_d_MD_node_56 : decode gm_b_MD_node 56 = .ok (.aload_n 0, 1) := by decide +kernel
theorem gm_d_MD_node_57 : decode gm_b_MD_node 57 = .ok (.getfield 94, 3) := by decide +kernel
theorem gm_d_MD_node_60 : decode gm_b_MD_node 60 = .ok (.iload_n 1, 1) := by decide +kernel
theorem gm_d_MD_node_61 : decode gm_b_MD_node 61 = .ok (.iaload, 1) := by decide +kernel
theorem gm_d_MD_node_62 : decode gm_b_MD_node 62 = .ok (.ireturn, 1) := by decide +kernel
theorem gm_d_MD_node_63 : decode gm_b_MD_node 63 = .ok (.aload_n 0, 1) := by decide +kernel
theorem gm_d_MD_node_64 : decode gm_b_MD_node 64 = .ok (.getfield 97, 3) := by decide +kernel
theorem gm_d_MD_node_67 : decode gm_b_MD_node 67 = .ok (.iload_n 1, 1) := by decide +kernel
theorem gm_d_MD_node_68 : decode gm_b_MD_node 68 = .ok (.iaload, 1) := by decide +kernel
theorem gm_d_MD_node_69 : decode gm_b_MD_node 69 = .ok (.ireturn, 1) := by decide +kernel
theorem gm_d_MD_node_70 : decode gm_b_MD_node 70 = .ok (.aload_n 0, 1) := by decide +kernel
theorem gm_d_MD_node_71 : decode gm_b_MD_node 71 = .ok (.getfield 100, 3) := by decide +kernel
theorem gm_d_MD_node_74 : decode gm_b_MD_node 74 = .ok (.iload_n 1, 1) := by decide +kernel
theorem gm_d_MD_node_75 : decode gm_b_MD_node 75 = .ok (.iaload, 1) := by decide +kernel
theorem gm_d_MD_node_76 : decode gm_b_MD_node 76 = .ok (.ireturn, 1) := by decide +kernel
theorem gm_d_MD_node_77 : decode gm_b_MD_node 77 = .ok (.aload_n 0, 1) := by decide +kernel
theorem gm_d_MD_node_78 : decode gm_b_MD_node 78 = .ok (.iconst 2, 1) := by decide +kernel
theorem gm_d_MD_node_79 : decode gm_b_MD_node 79 = .ok (.invokevirtual 199, 3) := by decide +kernel
theorem gm_d_MD_node_82 : decode gm_b_MD_node 82 = .ok (.ireturn, 1) := by decide +kernel
