theorem gm_d_Row_append_0 : decode gm_b_Row_append 0 = .ok (.iload_n 1, 1) := by decide +kernel
theorem gm_d_Row_append_1 : decode gm_b_Row_append 1 = .ok (.bipush 32, 2) := by decide +kernel
theorem gm_d_Row_append_3 : decode gm_b_Row_append 3 = .ok (.if_icmp .lt 21, 3) := by decide +kernel
theorem gm_d_Row_append_6 : decode gm_b_Row_append 6 = .ok (.iload_n 1, 1) := by decide +kernel
theorem gm_d_Row_append_7 : decode gm_b_Row_append 7 = .ok (.bipush 126, 2) := by decide +kernel
theorem gm_d_Row_append_9 : decode gm_b_Row_append 9 = .ok (.if_icmp .gt 15, 3) := by decide +kernel
theorem gm_d_Row_append_12 : decode gm_b_Row_append 12 = .ok (.aload_n 0, 1) := by decide +kernel
theorem gm_d_Row_append_13 : decode gm_b_Row_append 13 = .ok (.getfield 9, 3) := by decide +kernel
theorem gm_d_Row_append_16 : decode gm_b_Row_append 16 = .ok (.aload_n 0, 1) := by decide +kernel
theorem gm_d_Row_append_17 : decode gm_b_Row_append 17 = .ok (.getfield 15, 3) := by decide +kernel
theorem gm_d_Row_append_20 : decode gm_b_Row_append 20 = .ok (.arraylength, 1) := by decide +kernel
theorem gm_d_Row_append_21 : decode gm_b_Row_append 21 = .ok (.if_icmp .lt 5, 3) := by decide +kernel
theorem gm_d_Row_append_24 : decode gm_b_Row_append 24 = .ok (.iconst 0, 1) := by decide +kernel
theorem gm_d_Row_append_25 : decode gm_b_Row_append 25 = .ok (.ireturn, 1) := by decide +kernel
theorem gm_d_Row_append_26 : decode gm_b_Row_append 26 = .ok (.aload_n 0, 1) := by decide +kernel
theorem gm_d_Row_append_27 : decode gm_b_Row_append 27 = .ok (.getfield 15, 3) := by decide +kernel
theorem gm_d_Row_append_30 : decode gm_b_Row_append 30 = .ok (.aload_n 0, 1) := by decide +kernel
theorem gm_d_Row_append_31 : decode gm_b_Row_append 31 = .ok (.getfield 9, 3) := by decide +kernel
theorem gm_d_Row_append_34 : decode gm_b_Row_append 34 = .ok (.iload_n 1, 1) := by decide +kernel
theorem gm_d_Row_append_35 : decode gm_b_Row_append 35 = .ok (.castore, 1) := by decide +kernel
theorem gm_d_Row_append_36 : decode gm_b_Row_append 36 = .ok (.aload_n 0, 1) := by decide +kernel
theorem gm_d_Row_append_37 : decode gm_b_Row_append 37 = .ok (.dup, 1) := by decide +kernel
theorem gm_d_Row_append_38 : decode gm_b_Row_append 38 = .ok (.getfield 9, 3) := by decide +kernel
theorem gm_d_Row_append_41 : decode gm_b_Row_append 41 = .ok (.iconst 1, 1) := by decide +kernel
theorem gm_d_Row_append_42 : decode gm_b_Row_append 42 = .ok (.iadd, 1) := by decide +kernel
theorem gm_d_Row_append_43 : decode gm_b_Row_append 43 = .ok (.putfield 9, 3) := by decide +kernel
theorem gm_d_Row_append_46 : decode gm_b_Row_append 46 = .ok (.iconst 1, 1) := by decide +kernel
theorem gm_d_Row_append_47 : decode gm_b_Row_append 47 = .ok (.ireturn, 1) := by decide +kernel
theorem gm_d_GM_type_0 : decode gm_b_GM_type 0 = .ok (.aload_n 0, 1) := by decide +kernel
theorem gm_d_GM_type_1 : decode gm_b_GM_type 1 = .ok (.getfield 14, 3) := by decide +kernel
theorem gm_d_GM_type_4 : decode gm_b_GM_type 4 = .ok (.iload_n 1, 1) := by decide +kernel
theorem gm_d_GM_type_5 : decode gm_b_GM_type 5 = .ok (.invokevirtual 53, 3) := by decide +kernel
theorem gm_d_GM_type_8 : decode gm_b_GM_type 8 = .ok (.ireturn, 1) := by decide +kernel
theorem gm_d_GM_wipe_0 : decode gm_b_GM_wipe 0 = .ok (.aload_n 0, 1) := by decide +kernel
theorem gm_d_GM_wipe_1 : decode gm_b_GM_wipe 1 = .ok (.getfield 14, 3) := by decide +kernel
theorem gm_d_GM_wipe_4 : decode gm_b_GM_wipe 4 = .ok (.iconst 0, 1) := by decide +kernel
theorem gm_d_GM_wipe_5 : decode gm_b_GM_wipe 5 = .ok (.putfield 57, 3) := by decide +kernel
theorem gm_d_GM_wipe_8 : decode gm_b_GM_wipe 8 = .ok (.return_, 1) := by decide +kernel
theorem gm_d_GM_fault_0 : decode gm_b_GM_fault 0 = .ok (.aload_n 0, 1) := by decide +kernel
theorem gm_d_GM_fault_1 : decode gm_b_GM_fault 1 = .ok (.getfield 49, 3) := by decide +kernel
theorem gm_d_GM_fault_4 : decode gm_b_GM_fault 4 = .ok (.ireturn, 1) := by decide +kernel
theorem gm_d_GM_feed_0 : decode gm_b_GM_feed 0 = .ok (.aload_n 0, 1) := by decide +kernel
theorem gm_d_GM_feed_1 : decode gm_b_GM_feed 1 = .ok (.getfield 18, 3) := by decide +kernel
theorem gm_d_GM_feed_4 : decode gm_b_GM_feed 4 = .ok (.iload_n 1, 1) := by decide +kernel
theorem gm_d_GM_feed_5 : decode gm_b_GM_feed 5 = .ok (.invokevirtual 53, 3) := by decide +kernel
theorem gm_d_GM_feed_8 : decode gm_b_GM_feed 8 = .ok (.istore_n 2, 1) := by decide +kernel
theorem gm_d_GM_feed_9 : decode gm_b_GM_feed 9 = .ok (.iload_n 2, 1) := by decide +kernel
theorem gm_d_GM_feed_10 : decode gm_b_GM_feed 10 = .ok (.ifCond .eq 8, 3) := by decide +kernel
theorem gm_d_GM_feed_13 : decode gm_b_GM_feed 13 = .ok (.aload_n 0, 1) := by decide +kernel
theorem gm_d_GM_feed_14 : decode gm_b_GM_feed 14 = .ok (.iconst 0, 1) := by decide +kernel
theorem gm_d_GM_feed_15 : decode gm_b_GM_feed 15 = .ok (.putfield 46, 3) := by decide +kernel
theorem gm_d_GM_feed_18 : decode gm_b_GM_feed 18 = .ok (.iload_n 2, 1) := by decide +kernel
theorem gm_d_GM_feed_19 : decode gm_b_GM_feed 19 = .ok (.ireturn, 1) := by decide +kernel
theorem gm_d_GM_clear_0 : decode gm_b_GM_clear 0 = .ok (.aload_n 0, 1) := by decide +kernel
theorem gm_d_GM_clear_1 : decode gm_b_GM_clear 1 = .ok (.getfield 18, 3) := by decide +kernel
theorem gm_d_GM_clear_4 : decode gm_b_GM_clear 4 = .ok (.iconst 0, 1) := by decide +kernel
theorem gm_d_GM_clear_5 : decode gm_b_GM_clear 5 = .ok (.putfield 57, 3) := by decide +kernel
theorem gm_d_GM_clear_8 : decode gm_b_GM_clear 8 = .ok (.aload_n 0, 1) := by decide +kernel
theorem gm_d_GM_clear_9 : decode gm_b_GM_clear 9 = .ok (.iconst 0, 1) := by decide +kernel
theorem gm_d_GM_clear_10 : decode gm_b_GM_clear 10 = .ok (.putfield 46, 3) := by decide +kernel
theorem gm_d_GM_clear_13 : decode gm_b_GM_clear 13 = .ok (.return_, 1) := by decide +kernel
theorem gm_d_GM_work_0 : decode gm_b_GM_work 0 = .ok (.aload_n 0, 1) := by decide +kernel
theorem gm_d_GM_work_1 : decode gm_b_GM_work 1 = .ok (.getfield 46, 3) := by decide +kernel
theorem gm_d_GM_work_4 : decode gm_b_GM_work 4 = .ok (.ifCond .eq 13, 3) := by decide +kernel
theorem gm_d_GM_work_7 : decode gm_b_GM_work 7 = .ok (.aload_n 0, 1) := by decide +kernel
theorem gm_d_GM_work_8 : decode gm_b_GM_work 8 = .ok (.getfield 38, 3) := by decide +kernel
theorem gm_d_GM_work_11 : decode gm_b_GM_work 11 = .ok (.getfield 146, 3) := by decide +kernel
theorem gm_d_GM_work_14 : decode gm_b_GM_work 14 = .ok (.goto 4, 3) := by decide +kernel
theorem gm_d_GM_work_17 : decode gm_b_GM_work 17 = .ok (.iconst (-1), 1) := by decide +kernel
theorem gm_d_GM_work_18 : decode gm_b_GM_work 18 = .ok (.ireturn, 1) := by decide +kernel
theorem gm_d_GM_nodes_0 : decode gm_b_GM_nodes 0 = .ok (.aload_n 0, 1) := by decide +kernel
theorem gm_d_GM_nodes_1 : decode gm_b_GM_nodes 1 = .ok (.getfield 46, 3) := by decide +kernel
theorem gm_d_GM_nodes_4 : decode gm_b_GM_nodes 4 = .ok (.ifCond .eq 16, 3) := by decide +kernel
theorem gm_d_GM_nodes_7 : decode gm_b_GM_nodes 7 = .ok (.aload_n 0, 1) := by decide +kernel
theorem gm_d_GM_nodes_8 : decode gm_b_GM_nodes 8 = .ok (.getfield 38, 3) := by decide +kernel
theorem gm_d_GM_nodes_11 : decode gm_b_GM_nodes 11 = .ok (.getfield 149, 3) := by decide +kernel
theorem gm_d_GM_nodes_14 : decode gm_b_GM_nodes 14 = .ok (.getfield 153, 3) := by decide +kernel
theorem gm_d_GM_nodes_17 : decode gm_b_GM_nodes 17 = .ok (.goto 4, 3) := by decide +kernel
theorem gm_d_GM_nodes_20 : decode gm_b_GM_nodes 20 = .ok (.iconst (-1), 1) := by decide +kernel
theorem gm_d_GM_nodes_21 : decode gm_b_GM_nodes 21 = .ok (.ireturn, 1) := by decide +kernel
