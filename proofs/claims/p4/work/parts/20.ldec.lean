theorem gm_l_LW_13 : Cond.classLink gm_R_LW 13 gm_xIAE ∈ gm_W := gm_in (List.mem_append_right _ (List.mem_append_right _ (List.mem_append_left _ (List.mem_of_getElem? (i := 121) rfl)))) rfl
theorem gm_ca_IAE : Cond.castable gm_xIAE gm_xIAE ∈ gm_Xw := gm_xin (List.mem_append_right _ (List.mem_append_right _ (List.mem_append_left _ (List.mem_of_getElem? (i := 216) rfl)))) rfl
theorem gm_l_LW_15 : Cond.classLink gm_R_LW 15 gm_xISE ∈ gm_W := gm_in (List.mem_append_right _ (List.mem_append_right _ (List.mem_append_left _ (List.mem_of_getElem? (i := 122) rfl)))) rfl
theorem gm_ca_ISE : Cond.castable gm_xISE gm_xISE ∈ gm_Xw := gm_xin (List.mem_append_right _ (List.mem_append_right _ (List.mem_append_right _ (List.mem_append_left _ (List.mem_of_getElem? (i := 58) rfl))))) rfl
theorem gm_l_LW_17 : Cond.classLink gm_R_LW 17 gm_xUOE ∈ gm_W := gm_in (List.mem_append_right _ (List.mem_append_right _ (List.mem_append_left _ (List.mem_of_getElem? (i := 123) rfl)))) rfl
theorem gm_ca_UOE : Cond.castable gm_xUOE gm_xUOE ∈ gm_Xw := gm_xin (List.mem_append_right _ (List.mem_append_right _ (List.mem_append_right _ (List.mem_append_left _ (List.mem_of_getElem? (i := 119) rfl))))) rfl
theorem gm_l_LW_23 : Cond.classLink gm_R_LW 23 gm_xIOE ∈ gm_W := gm_in (List.mem_append_right _ (List.mem_append_right _ (List.mem_append_right _ (List.mem_append_left _ (List.mem_of_getElem? (i := 202) rfl))))) rfl
theorem gm_ca_IOE : Cond.castable gm_xIOE gm_xIOE ∈ gm_Xw := gm_xin (List.mem_append_right _ (List.mem_append_right _ (List.mem_append_right _ (List.mem_append_left _ (List.mem_of_getElem? (i := 211) rfl))))) rfl
theorem gm_i_LW : Cond.initialized gm_R_LW ∈ gm_W := gm_in (List.mem_append_right _ (List.mem_append_left _ (List.mem_of_getElem? (i := 0) rfl))) rfl
theorem gm_d_LW_compile_0 : decode gm_b_LW_compile 0 = .ok (.aload_n 1, 1) := by decide +kernel
theorem gm_d_LW_compile_1 : decode gm_b_LW_compile 1 = .ok (.iconst 0, 1) := by decide +kernel
theorem gm_d_LW_compile_2 : decode gm_b_LW_compile 2 = .ok (.aload_n 0, 1) := by decide +kernel
theorem gm_d_LW_compile_3 : decode gm_b_LW_compile 3 = .ok (.invokevirtual 7, 3) := by decide +kernel
theorem gm_d_LW_compile_6 : decode gm_b_LW_compile 6 = .ok (.i2l, 1) := by decide +kernel
theorem gm_d_LW_compile_7 : decode gm_b_LW_compile 7 = .ok (.lastore, 1) := by decide +kernel
theorem gm_d_LW_compile_8 : decode gm_b_LW_compile 8 = .ok (.goto 12, 3) := by decide +kernel
theorem gm_d_LW_compile_11 : decode gm_b_LW_compile 11 = .ok (.astore_n 2, 1) := by decide +kernel
theorem gm_d_LW_compile_12 : decode gm_b_LW_compile 12 = .ok (.iconst 1, 1) := by decide +kernel
theorem gm_d_LW_compile_13 : decode gm_b_LW_compile 13 = .ok (.ireturn, 1) := by decide +kernel
theorem gm_d_LW_compile_14 : decode gm_b_LW_compile 14 = .ok (.astore_n 2, 1) := by decide +kernel
theorem gm_d_LW_compile_15 : decode gm_b_LW_compile 15 = .ok (.iconst 2, 1) := by decide +kernel
theorem gm_d_LW_compile_16 : decode gm_b_LW_compile 16 = .ok (.ireturn, 1) := by decide +kernel
theorem gm_d_LW_compile_17 : decode gm_b_LW_compile 17 = .ok (.astore_n 2, 1) := by decide +kernel
theorem gm_d_LW_compile_18 : decode gm_b_LW_compile 18 = .ok (.iconst 3, 1) := by decide +kernel
theorem gm_d_LW_compile_19 : decode gm_b_LW_compile 19 = .ok (.ireturn, 1) := by decide +kernel
theorem gm_d_LW_compile_20 : decode gm_b_LW_compile 20 = .ok (.iconst 0, 1) := by decide +kernel
theorem gm_d_LW_compile_21 : decode gm_b_LW_compile 21 = .ok (.ireturn, 1) := by decide +kernel
theorem gm_d_LW_empty_0 : decode gm_b_LW_empty 0 = .ok (.aload_n 2, 1) := by decide +kernel
theorem gm_d_LW_empty_1 : decode gm_b_LW_empty 1 = .ok (.iconst 0, 1) := by decide +kernel
theorem gm_d_LW_empty_2 : decode gm_b_LW_empty 2 = .ok (.aload_n 0, 1) := by decide +kernel
theorem gm_d_LW_empty_3 : decode gm_b_LW_empty 3 = .ok (.iload_n 1, 1) := by decide +kernel
theorem gm_d_LW_empty_4 : decode gm_b_LW_empty 4 = .ok (.invokevirtual 19, 3) := by decide +kernel
theorem gm_d_LW_empty_7 : decode gm_b_LW_empty 7 = .ok (.ifCond .eq 7, 3) := by decide +kernel
theorem gm_d_LW_empty_10 : decode gm_b_LW_empty 10 = .ok (.lconst 1, 1) := by decide +kernel
theorem gm_d_LW_empty_11 : decode gm_b_LW_empty 11 = .ok (.goto 4, 3) := by decide +kernel
theorem gm_d_LW_empty_14 : decode gm_b_LW_empty 14 = .ok (.lconst 0, 1) := by decide +kernel
theorem gm_d_LW_empty_15 : decode gm_b_LW_empty 15 = .ok (.lastore, 1) := by decide +kernel
theorem gm_d_LW_empty_16 : decode gm_b_LW_empty 16 = .ok (.goto 9, 3) := by decide +kernel
theorem gm_d_LW_empty_19 : decode gm_b_LW_empty 19 = .ok (.astore_n 3, 1) := by decide +kernel
theorem gm_d_LW_empty_20 : decode gm_b_LW_empty 20 = .ok (.iconst 1, 1) := by decide +kernel
theorem gm_d_LW_empty_21 : decode gm_b_LW_empty 21 = .ok (.ireturn, 1) := by decide +kernel
theorem gm_d_LW_empty_22 : decode gm_b_LW_empty 22 = .ok (.astore_n 3, 1) := by decide +kernel
theorem gm_d_LW_empty_23 : decode gm_b_LW_empty 23 = .ok (.iconst 2, 1) := by decide +kernel
theorem gm_d_LW_empty_24 : decode gm_b_LW_empty 24 = .ok (.ireturn, 1) := by decide +kernel
theorem gm_d_LW_empty_25 : decode gm_b_LW_empty 25 = .ok (.iconst 0, 1) := by decide +kernel
theorem gm_d_LW_empty_26 : decode gm_b_LW_empty 26 = .ok (.ireturn, 1) := by decide +kernel
theorem gm_d_LW_head_0 : decode gm_b_LW_head 0 = .ok (.aload_n 3, 1) := by decide +kernel
theorem gm_d_LW_head_1 : decode gm_b_LW_head 1 = .ok (.iconst 0, 1) := by decide +kernel
theorem gm_d_LW_head_2 : decode gm_b_LW_head 2 = .ok (.aload_n 0, 1) := by decide +kernel
theorem gm_d_LW_head_3 : decode gm_b_LW_head 3 = .ok (.iload_n 1, 1) := by decide +kernel
theorem gm_d_LW_head_4 : decode gm_b_LW_head 4 = .ok (.iload_n 2, 1) := by decide +kernel
theorem gm_d_LW_head_5 : decode gm_b_LW_head 5 = .ok (.invokevirtual 25, 3) := by decide +kernel
theorem gm_d_LW_head_8 : decode gm_b_LW_head 8 = .ok (.ifCond .eq 7, 3) := by decide +kernel
theorem gm_d_LW_head_11 : decode gm_b_LW_head 11 = .ok (.lconst 1, 1) := by decide +kernel
theorem gm_d_LW_head_12 : decode gm_b_LW_head 12 = .ok (.goto 4, 3) := by decide +kernel
theorem gm_d_LW_head_15 : decode gm_b_LW_head 15 = .ok (.lconst 0, 1) := by decide +kernel
theorem gm_d_LW_head_16 : decode gm_b_LW_head 16 = .ok (.lastore, 1) := by decide +kernel
theorem gm_d_LW_head_17 : decode gm_b_LW_head 17 = .ok (.goto 11, 3) := by decide +kernel
theorem gm_d_LW_head_20 : decode gm_b_LW_head 20 = .ok (.astore 4, 2) := by decide +kernel
theorem gm_d_LW_head_22 : decode gm_b_LW_head 22 = .ok (.iconst 1, 1) := by decide +kernel
theorem gm_d_LW_head_23 : decode gm_b_LW_head 23 = .ok (.ireturn, 1) := by decide +kernel
theorem gm_d_LW_head_24 : decode gm_b_LW_head 24 = .ok (.astore 4, 2) := by decide +kernel
theorem gm_d_LW_head_26 : decode gm_b_LW_head 26 = .ok (.iconst 2, 1) := by decide +kernel
theorem gm_d_LW_head_27 : decode gm_b_LW_head 27 = .ok (.ireturn, 1) := by decide +kernel
theorem gm_d_LW_head_28 : decode gm_b_LW_head 28 = .ok (.iconst 0, 1) := by decide +kernel
theorem gm_d_LW_head_29 : decode gm_b_LW_head 29 = .ok (.ireturn, 1) := by decide +kernel
theorem gm_d_LW_match_0 : decode gm_b_LW_match 0 = .ok (.aload_n 2, 1) := by decide +kernel
theorem gm_d_LW_match_1 : decode gm_b_LW_match 1 = .ok (.iconst 0, 1) := by decide +kernel
theorem gm_d_LW_match_2 : decode gm_b_LW_match 2 = .ok (.aload_n 0, 1) := by decide +kernel
theorem gm_d_LW_match_3 : decode gm_b_LW_match 3 = .ok (.iload_n 1, 1) := by decide +kernel
theorem gm_d_LW_match_4 : decode gm_b_LW_match 4 = .ok (.invokevirtual 29, 3) := by decide +kernel
theorem gm_d_LW_match_7 : decode gm_b_LW_match 7 = .ok (.i2l, 1) := by decide +kernel
theorem gm_d_LW_match_8 : decode gm_b_LW_match 8 = .ok (.lastore, 1) := by decide +kernel
theorem gm_d_LW_match_9 : decode gm_b_LW_match 9 = .ok (.goto 6, 3) := by decide +kernel
theorem gm_d_LW_match_12 : decode gm_b_LW_match 12 = .ok (.astore_n 3, 1) := by decide +kernel
theorem gm_d_LW_match_13 : decode gm_b_LW_match 13 = .ok (.iconst 1, 1) := by decide +kernel
theorem gm_d_LW_match_14 : decode gm_b_LW_match 14 = .ok (.ireturn, 1) := by decide +kernel
theorem gm_d_LW_match_15 : decode gm_b_LW_match 15 = .ok (.iconst 0, 1) := by decide +kernel
theorem gm_d_LW_match_16 : decode gm_b_LW_match 16 = .ok (.ireturn, 1) := by decide +kernel
theorem gm_d_LW_node_0 : decode gm_b_LW_node 0 = .ok (.aload_n 3, 1) := by decide +kernel
theorem gm_d_LW_node_1 : decode gm_b_LW_node 1 = .ok (.iconst 0, 1) := by decide +kernel
theorem gm_d_LW_node_2 : decode gm_b_LW_node 2 = .ok (.aload_n 0, 1) := by decide +kernel
theorem gm_d_LW_node_3 : decode gm_b_LW_node 3 = .ok (.iload_n 1, 1) := by decide +kernel
theorem gm_d_LW_node_4 : decode gm_b_LW_node 4 = .ok (.iload_n 2, 1) := by decide +kernel
theorem gm_d_LW_node_5 : decode gm_b_LW_node 5 = .ok (.invokevirtual 33, 3) := by decide +kernel
theorem gm_d_LW_node_8 : decode gm_b_LW_node 8 = .ok (.i2l, 1) := by decide +kernel
theorem gm_d_LW_node_9 : decode gm_b_LW_node 9 = .ok (.lastore, 1) := by decide +kernel
theorem gm_d_LW_node_10 : decode gm_b_LW_node 10 = .ok (.goto 11, 3) := by decide +kernel
theorem gm_d_LW_node_13 : decode gm_b_LW_node 13 = .ok (.astore 4, 2) := by decide +kernel
theorem gm_d_LW_node_15 : decode gm_b_LW_node 15 = .ok (.iconst 1, 1) := by decide +kernel
theorem gm_d_LW_node_16 : decode gm_b_LW_node 16 = .ok (.ireturn, 1) := by decide +kernel
theorem gm_d_LW_node_17 : decode gm_b_LW_node 17 = .ok (.astore 4, 2) := by decide +kernel
theorem gm_d_LW_node_19 : decode gm_b_LW_node 19 = .ok (.iconst 2, 1) := by decide +kernel
theorem gm_d_LW_node_20 : decode gm_b_LW_node 20 = .ok (.ireturn, 1) := by decide +kernel
theorem gm_d_LW_node_21 : decode gm_b_LW_node 21 = .ok (.iconst 0, 1) := by decide +kernel
theorem gm_d_LW_node_22 : decode gm_b_LW_node 22 = .ok (.ireturn, 1) := by decide +kernel
