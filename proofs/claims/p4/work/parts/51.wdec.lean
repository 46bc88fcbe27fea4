theorem gm_l_LW_8 : Cond.classLink gm_R_LW 8 gm_R_GM ∈ gm_W := gm_in (List.mem_append_right _ (List.mem_append_left _ (List.mem_of_getElem? (i := 20) rfl))) rfl
theorem gm_l_LW_37 : Cond.methodLink gm_R_LW 37 gm_y_GM_init ∈ gm_W := gm_in (List.mem_append_right _ (List.mem_append_left _ (List.mem_of_getElem? (i := 22) rfl))) rfl
theorem gm_l_LW_38 : Cond.classLink gm_R_LW 38 gm_R_MD ∈ gm_W := gm_in (List.mem_append_right _ (List.mem_append_right _ (List.mem_append_right _ (List.mem_append_right _ (List.mem_append_left _ (List.mem_of_getElem? (i := 134) rfl)))))) rfl
theorem gm_l_LW_40 : Cond.methodLink gm_R_LW 40 gm_y_MD_init ∈ gm_W := gm_in (List.mem_append_right _ (List.mem_append_right _ (List.mem_append_right _ (List.mem_append_right _ (List.mem_append_left _ (List.mem_of_getElem? (i := 136) rfl)))))) rfl
theorem gm_l_LW_41 : Cond.methodLink gm_R_LW 41 gm_y_GM_type ∈ gm_W := gm_in (List.mem_append_right _ (List.mem_append_right _ (List.mem_append_left _ (List.mem_of_getElem? (i := 86) rfl)))) rfl
theorem gm_l_LW_44 : Cond.methodLink gm_R_LW 44 gm_y_MD_type ∈ gm_W := gm_in (List.mem_append_right _ (List.mem_append_right _ (List.mem_append_right _ (List.mem_append_right _ (List.mem_append_right _ (List.mem_append_left _ (List.mem_of_getElem? (i := 40) rfl))))))) rfl
theorem gm_l_LW_45 : Cond.methodLink gm_R_LW 45 gm_y_GM_wipe ∈ gm_W := gm_in (List.mem_append_right _ (List.mem_append_right _ (List.mem_append_left _ (List.mem_of_getElem? (i := 94) rfl)))) rfl
theorem gm_l_LW_48 : Cond.methodLink gm_R_LW 48 gm_y_MD_wipe ∈ gm_W := gm_in (List.mem_append_right _ (List.mem_append_right _ (List.mem_append_right _ (List.mem_append_right _ (List.mem_append_right _ (List.mem_append_left _ (List.mem_of_getElem? (i := 44) rfl))))))) rfl
theorem gm_l_LW_49 : Cond.methodLink gm_R_LW 49 gm_y_LW_compile ∈ gm_W := gm_in (List.mem_append_right _ (List.mem_append_right _ (List.mem_append_left _ (List.mem_of_getElem? (i := 118) rfl)))) rfl
theorem gm_l_LW_54 : Cond.methodLink gm_R_LW 54 gm_y_MD_compile ∈ gm_W := gm_in (List.mem_append_right _ (List.mem_append_right _ (List.mem_append_right _ (List.mem_append_right _ (List.mem_append_right _ (List.mem_append_left _ (List.mem_of_getElem? (i := 48) rfl))))))) rfl
theorem gm_l_LW_55 : Cond.methodLink gm_R_LW 55 gm_y_MD_thrown ∈ gm_W := gm_in (List.mem_append_right _ (List.mem_append_right _ (List.mem_append_right _ (List.mem_append_right _ (List.mem_append_right _ (List.mem_append_left _ (List.mem_of_getElem? (i := 36) rfl))))))) rfl
theorem gm_l_LW_58 : Cond.methodLink gm_R_LW 58 gm_y_GM_fault ∈ gm_W := gm_in (List.mem_append_right _ (List.mem_append_right _ (List.mem_append_left _ (List.mem_of_getElem? (i := 98) rfl)))) rfl
theorem gm_l_LW_61 : Cond.methodLink gm_R_LW 61 gm_y_MD_fault ∈ gm_W := gm_in (List.mem_append_right _ (List.mem_append_right _ (List.mem_append_right _ (List.mem_append_right _ (List.mem_append_right _ (List.mem_append_left _ (List.mem_of_getElem? (i := 151) rfl))))))) rfl
theorem gm_l_LW_62 : Cond.methodLink gm_R_LW 62 gm_y_LW_empty ∈ gm_W := gm_in (List.mem_append_right _ (List.mem_append_right _ (List.mem_append_right _ (List.mem_append_left _ (List.mem_of_getElem? (i := 199) rfl))))) rfl
theorem gm_l_LW_65 : Cond.methodLink gm_R_LW 65 gm_y_MD_empty ∈ gm_W := gm_in (List.mem_append_right _ (List.mem_append_right _ (List.mem_append_right _ (List.mem_append_right _ (List.mem_append_right _ (List.mem_append_left _ (List.mem_of_getElem? (i := 155) rfl))))))) rfl
theorem gm_l_LW_66 : Cond.methodLink gm_R_LW 66 gm_y_LW_head ∈ gm_W := gm_in (List.mem_append_right _ (List.mem_append_right _ (List.mem_append_right _ (List.mem_append_left _ (List.mem_of_getElem? (i := 225) rfl))))) rfl
theorem gm_l_LW_69 : Cond.methodLink gm_R_LW 69 gm_y_MD_head ∈ gm_W := gm_in (List.mem_append_right _ (List.mem_append_right _ (List.mem_append_right _ (List.mem_append_right _ (List.mem_append_right _ (List.mem_append_left _ (List.mem_of_getElem? (i := 163) rfl))))))) rfl
theorem gm_l_LW_70 : Cond.methodLink gm_R_LW 70 gm_y_GM_feed ∈ gm_W := gm_in (List.mem_append_right _ (List.mem_append_right _ (List.mem_append_left _ (List.mem_of_getElem? (i := 102) rfl)))) rfl
theorem gm_l_LW_73 : Cond.methodLink gm_R_LW 73 gm_y_MD_feed ∈ gm_W := gm_in (List.mem_append_right _ (List.mem_append_right _ (List.mem_append_right _ (List.mem_append_right _ (List.mem_append_right _ (List.mem_append_left _ (List.mem_of_getElem? (i := 171) rfl))))))) rfl
theorem gm_l_LW_74 : Cond.methodLink gm_R_LW 74 gm_y_GM_clear ∈ gm_W := gm_in (List.mem_append_right _ (List.mem_append_right _ (List.mem_append_left _ (List.mem_of_getElem? (i := 106) rfl)))) rfl
theorem gm_l_LW_77 : Cond.methodLink gm_R_LW 77 gm_y_MD_clear ∈ gm_W := gm_in (List.mem_append_right _ (List.mem_append_right _ (List.mem_append_right _ (List.mem_append_right _ (List.mem_append_right _ (List.mem_append_left _ (List.mem_of_getElem? (i := 175) rfl))))))) rfl
theorem gm_l_LW_78 : Cond.methodLink gm_R_LW 78 gm_y_LW_match ∈ gm_W := gm_in (List.mem_append_right _ (List.mem_append_right _ (List.mem_append_right _ (List.mem_append_left _ (List.mem_of_getElem? (i := 236) rfl))))) rfl
theorem gm_l_LW_81 : Cond.methodLink gm_R_LW 81 gm_y_MD_match ∈ gm_W := gm_in (List.mem_append_right _ (List.mem_append_right _ (List.mem_append_right _ (List.mem_append_right _ (List.mem_append_right _ (List.mem_append_left _ (List.mem_of_getElem? (i := 179) rfl))))))) rfl
theorem gm_l_LW_82 : Cond.methodLink gm_R_LW 82 gm_y_GM_work ∈ gm_W := gm_in (List.mem_append_right _ (List.mem_append_right _ (List.mem_append_left _ (List.mem_of_getElem? (i := 110) rfl)))) rfl
theorem gm_l_LW_85 : Cond.methodLink gm_R_LW 85 gm_y_MD_work ∈ gm_W := gm_in (List.mem_append_right _ (List.mem_append_right _ (List.mem_append_right _ (List.mem_append_right _ (List.mem_append_right _ (List.mem_append_right _ (List.mem_of_getElem? (i := 15) rfl))))))) rfl
theorem gm_l_LW_86 : Cond.methodLink gm_R_LW 86 gm_y_GM_nodes ∈ gm_W := gm_in (List.mem_append_right _ (List.mem_append_right _ (List.mem_append_left _ (List.mem_of_getElem? (i := 114) rfl)))) rfl
theorem gm_l_LW_89 : Cond.methodLink gm_R_LW 89 gm_y_MD_nodes ∈ gm_W := gm_in (List.mem_append_right _ (List.mem_append_right _ (List.mem_append_right _ (List.mem_append_right _ (List.mem_append_right _ (List.mem_append_right _ (List.mem_of_getElem? (i := 19) rfl))))))) rfl
theorem gm_l_LW_90 : Cond.methodLink gm_R_LW 90 gm_y_LW_node ∈ gm_W := gm_in (List.mem_append_right _ (List.mem_append_right _ (List.mem_append_right _ (List.mem_append_right _ (List.mem_append_left _ (List.mem_of_getElem? (i := 121) rfl)))))) rfl
theorem gm_l_LW_93 : Cond.methodLink gm_R_LW 93 gm_y_MD_node ∈ gm_W := gm_in (List.mem_append_right _ (List.mem_append_right _ (List.mem_append_right _ (List.mem_append_right _ (List.mem_append_right _ (List.mem_append_right _ (List.mem_of_getElem? (i := 23) rfl))))))) rfl
theorem gm_d_LW_law_0 : decode gm_b_LW_law 0 = .ok (.new 8, 3) := by decide +kernel
theorem gm_d_LW_law_3 : decode gm_b_LW_law 3 = .ok (.dup, 1) := by decide +kernel
theorem gm_d_LW_law_4 : decode gm_b_LW_law 4 = .ok (.invokespecial 37, 3) := by decide +kernel
theorem gm_d_LW_law_7 : decode gm_b_LW_law 7 = .ok (.astore_n 1, 1) := by decide +kernel
theorem gm_d_LW_law_8 : decode gm_b_LW_law 8 = .ok (.new 38, 3) := by decide +kernel
theorem gm_d_LW_law_11 : decode gm_b_LW_law 11 = .ok (.dup, 1) := by decide +kernel
theorem gm_d_LW_law_12 : decode gm_b_LW_law 12 = .ok (.invokespecial 40, 3) := by decide +kernel
theorem gm_d_LW_law_15 : decode gm_b_LW_law 15 = .ok (.astore_n 2, 1) := by decide +kernel
theorem gm_d_LW_law_16 : decode gm_b_LW_law 16 = .ok (.iconst 1, 1) := by decide +kernel
theorem gm_d_LW_law_17 : decode gm_b_LW_law 17 = .ok (.newarray .long, 2) := by decide +kernel
theorem gm_d_LW_law_19 : decode gm_b_LW_law 19 = .ok (.astore_n 3, 1) := by decide +kernel
theorem gm_d_LW_law_20 : decode gm_b_LW_law 20 = .ok (.iconst 0, 1) := by decide +kernel
theorem gm_d_LW_law_21 : decode gm_b_LW_law 21 = .ok (.istore 4, 2) := by decide +kernel
theorem gm_d_LW_law_23 : decode gm_b_LW_law 23 = .ok (.iload 4, 2) := by decide +kernel
theorem gm_d_LW_law_25 : decode gm_b_LW_law 25 = .ok (.aload_n 0, 1) := by decide +kernel
theorem gm_d_LW_law_26 : decode gm_b_LW_law 26 = .ok (.arraylength, 1) := by decide +kernel
theorem gm_d_LW_law_27 : decode gm_b_LW_law 27 = .ok (.iconst 3, 1) := by decide +kernel
theorem gm_d_LW_law_28 : decode gm_b_LW_law 28 = .ok (.isub, 1) := by decide +kernel
theorem gm_d_LW_law_29 : decode gm_b_LW_law 29 = .ok (.if_icmp .gt 394, 3) := by decide +kernel
theorem gm_d_LW_law_32 : decode gm_b_LW_law 32 = .ok (.aload_n 0, 1) := by decide +kernel
theorem gm_d_LW_law_33 : decode gm_b_LW_law 33 = .ok (.iload 4, 2) := by decide +kernel
theorem gm_d_LW_law_35 : decode gm_b_LW_law 35 = .ok (.iaload, 1) := by decide +kernel
theorem gm_d_LW_law_36 : decode gm_b_LW_law 36 = .ok (.bipush 15, 2) := by decide +kernel
theorem gm_d_LW_law_38 : decode gm_b_LW_law 38 = .ok (.iand, 1) := by decide +kernel
theorem gm_d_LW_law_39 : decode gm_b_LW_law 39 = .ok (.tableswitch 378 0 11 #[61, 88, 99, 143, 156, 186, 230, 257, 268, 312, 325, 338], 61) := by decide +kernel
theorem gm_d_LW_law_100 : decode gm_b_LW_law 100 = .ok (.aload_n 1, 1) := by decide +kernel
theorem gm_d_LW_law_101 : decode gm_b_LW_law 101 = .ok (.aload_n 0, 1) := by decide +kernel
theorem gm_d_LW_law_102 : decode gm_b_LW_law 102 = .ok (.iload 4, 2) := by decide +kernel
theorem gm_d_LW_law_104 : decode gm_b_LW_law 104 = .ok (.iconst 1, 1) := by decide +kernel
theorem gm_d_LW_law_105 : decode gm_b_LW_law 105 = .ok (.iadd, 1) := by decide +kernel
theorem gm_d_LW_law_106 : decode gm_b_LW_law 106 = .ok (.iaload, 1) := by decide +kernel
theorem gm_d_LW_law_107 : decode gm_b_LW_law 107 = .ok (.i2c, 1) := by decide +kernel
theorem gm_d_LW_law_108 : decode gm_b_LW_law 108 = .ok (.invokevirtual 41, 3) := by decide +kernel
theorem gm_d_LW_law_111 : decode gm_b_LW_law 111 = .ok (.pop, 1) := by decide +kernel
theorem gm_d_LW_law_112 : decode gm_b_LW_law 112 = .ok (.aload_n 2, 1) := by decide +kernel
theorem gm_d_LW_law_113 : decode gm_b_LW_law 113 = .ok (.aload_n 0, 1) := by decide +kernel
theorem gm_d_LW_law_114 : decode gm_b_LW_law 114 = .ok (.iload 4, 2) := by decide +kernel
theorem gm_d_LW_law_116 : decode gm_b_LW_law 116 = .ok (.iconst 1, 1) := by decide +kernel
theorem gm_d_LW_law_117 : decode gm_b_LW_law 117 = .ok (.iadd, 1) := by decide +kernel
theorem gm_d_LW_law_118 : decode gm_b_LW_law 118 = .ok (.iaload, 1) := by decide +kernel
theorem gm_d_LW_law_119 : decode gm_b_LW_law 119 = .ok (.i2c, 1) := by decide +kernel
theorem gm_d_LW_law_120 : decode gm_b_LW_law 120 = .ok (.invokevirtual 44, 3) := by decide +kernel
theorem gm_d_LW_law_123 : decode gm_b_LW_law 123 = .ok (.pop, 1) := by decide +kernel
theorem gm_d_LW_law_124 : decode gm_b_LW_law 124 = .ok (.goto 293, 3) := by decide +kernel
theorem gm_d_LW_law_127 : decode gm_b_LW_law 127 = .ok (.aload_n 1, 1) := by decide +kernel
theorem gm_d_LW_law_128 : decode gm_b_LW_law 128 = .ok (.invokevirtual 45, 3) := by decide +kernel
theorem gm_d_LW_law_131 : decode gm_b_LW_law 131 = .ok (.aload_n 2, 1) := by decide +kernel
theorem gm_d_LW_law_132 : decode gm_b_LW_law 132 = .ok (.invokevirtual 48, 3) := by decide +kernel
theorem gm_d_LW_law_135 : decode gm_b_LW_law 135 = .ok (.goto 282, 3) := by decide +kernel
theorem gm_d_LW_law_138 : decode gm_b_LW_law 138 = .ok (.aload_n 1, 1) := by decide +kernel
theorem gm_d_LW_law_139 : decode gm_b_LW_law 139 = .ok (.aload_n 3, 1) := by decide +kernel
theorem gm_d_LW_law_140 : decode gm_b_LW_law 140 = .ok (.invokestatic 49, 3) := by decide +kernel
theorem gm_d_LW_law_143 : decode gm_b_LW_law 143 = .ok (.istore 5, 2) := by decide +kernel
theorem gm_d_LW_law_145 : decode gm_b_LW_law 145 = .ok (.aload_n 2, 1) := by decide +kernel
theorem gm_d_LW_law_146 : decode gm_b_LW_law 146 = .ok (.invokevirtual 54, 3) := by decide +kernel
theorem gm_d_LW_law_149 : decode gm_b_LW_law 149 = .ok (.istore 6, 2) := by decide +kernel
theorem gm_d_LW_law_151 : decode gm_b_LW_law 151 = .ok (.aload_n 2, 1) := by decide +kernel
theorem gm_d_LW_law_152 : decode gm_b_LW_law 152 = .ok (.invokevirtual 55, 3) := by decide +kernel
theorem gm_d_LW_law_155 : decode gm_b_LW_law 155 = .ok (.iload 5, 2) := by decide +kernel
theorem gm_d_LW_law_157 : decode gm_b_LW_law 157 = .ok (.if_icmp .eq 5, 3) := by decide +kernel
theorem gm_d_LW_law_160 : decode gm_b_LW_law 160 = .ok (.iconst 0, 1) := by decide +kernel
theorem gm_d_LW_law_161 : decode gm_b_LW_law 161 = .ok (.ireturn, 1) := by decide +kernel
theorem gm_d_LW_law_162 : decode gm_b_LW_law 162 = .ok (.iload 5, 2) := by decide +kernel
theorem gm_d_LW_law_164 : decode gm_b_LW_law 164 = .ok (.ifCond .ne 15, 3) := by decide +kernel
theorem gm_d_LW_law_167 : decode gm_b_LW_law 167 = .ok (.aload_n 3, 1) := by decide +kernel
theorem gm_d_LW_law_168 : decode gm_b_LW_law 168 = .ok (.iconst 0, 1) := by decide +kernel
theorem gm_d_LW_law_169 : decode gm_b_LW_law 169 = .ok (.laload, 1) := by decide +kernel
theorem gm_d_LW_law_170 : decode gm_b_LW_law 170 = .ok (.iload 6, 2) := by decide +kernel
theorem gm_d_LW_law_172 : decode gm_b_LW_law 172 = .ok (.i2l, 1) := by decide +kernel
theorem gm_d_LW_law_173 : decode gm_b_LW_law 173 = .ok (.lcmp, 1) := by decide +kernel
theorem gm_d_LW_law_174 : decode gm_b_LW_law 174 = .ok (.ifCond .eq 5, 3) := by decide +kernel
theorem gm_d_LW_law_177 : decode gm_b_LW_law 177 = .ok (.iconst 0, 1) := by decide +kernel
theorem gm_d_LW_law_178 : decode gm_b_LW_law 178 = .ok (.ireturn, 1) := by decide +kernel
theorem gm_d_LW_law_179 : decode gm_b_LW_law 179 = .ok (.goto 238, 3) := by decide +kernel
theorem gm_d_LW_law_182 : decode gm_b_LW_law 182 = .ok (.aload_n 1, 1) := by decide +kernel
theorem gm_d_LW_law_183 : decode gm_b_LW_law 183 = .ok (.invokevirtual 58, 3) := by decide +kernel
theorem gm_d_LW_law_186 : decode gm_b_LW_law 186 = .ok (.pop, 1) := by decide +kernel
theorem gm_d_LW_law_187 : decode gm_b_LW_law 187 = .ok (.aload_n 2, 1) := by decide +kernel
theorem gm_d_LW_law_188 : decode gm_b_LW_law 188 = .ok (.invokevirtual 61, 3) := by decide +kernel
theorem gm_d_LW_law_191 : decode gm_b_LW_law 191 = .ok (.pop, 1) := by decide +kernel
theorem gm_d_LW_law_192 : decode gm_b_LW_law 192 = .ok (.goto 225, 3) := by decide +kernel
theorem gm_d_LW_law_195 : decode gm_b_LW_law 195 = .ok (.aload_n 1, 1) := by decide +kernel
theorem gm_d_LW_law_196 : decode gm_b_LW_law 196 = .ok (.aload_n 0, 1) := by decide +kernel
theorem gm_d_LW_law_197 : decode gm_b_LW_law 197 = .ok (.iload 4, 2) := by decide +kernel
theorem gm_d_LW_law_199 : decode gm_b_LW_law 199 = .ok (.iconst 1, 1) := by decide +kernel
theorem gm_d_LW_law_200 : decode gm_b_LW_law 200 = .ok (.iadd, 1) := by decide +kernel
theorem gm_d_LW_law_201 : decode gm_b_LW_law 201 = .ok (.iaload, 1) := by decide +kernel
theorem gm_d_LW_law_202 : decode gm_b_LW_law 202 = .ok (.i2c, 1) := by decide +kernel
theorem gm_d_LW_law_203 : decode gm_b_LW_law 203 = .ok (.aload_n 3, 1) := by decide +kernel
theorem gm_d_LW_law_204 : decode gm_b_LW_law 204 = .ok (.invokestatic 62, 3) := by decide +kernel
theorem gm_d_LW_law_207 : decode gm_b_LW_law 207 = .ok (.istore 5, 2) := by decide +kernel
theorem gm_d_LW_law_209 : decode gm_b_LW_law 209 = .ok (.aload_n 2, 1) := by decide +kernel
theorem gm_d_LW_law_210 : decode gm_b_LW_law 210 = .ok (.aload_n 0, 1) := by decide +kernel
theorem gm_d_LW_law_211 : decode gm_b_LW_law 211 = .ok (.iload 4, 2) := by decide +kernel
theorem gm_d_LW_law_213 : decode gm_b_LW_law 213 = .ok (.iconst 1, 1) := by decide +kernel
theorem gm_d_LW_law_214 : decode gm_b_LW_law 214 = .ok (.iadd, 1) := by decide +kernel
theorem gm_d_LW_law_215 : decode gm_b_LW_law 215 = .ok (.iaload, 1) := by decide +kernel
theorem gm_d_LW_law_216 : decode gm_b_LW_law 216 = .ok (.i2c, 1) := by decide +kernel
theorem gm_d_LW_law_217 : decode gm_b_LW_law 217 = .ok (.invokevirtual 65, 3) := by decide +kernel
theorem gm_d_LW_law_220 : decode gm_b_LW_law 220 = .ok (.istore 6, 2) := by decide +kernel
theorem gm_d_LW_law_222 : decode gm_b_LW_law 222 = .ok (.goto 195, 3) := by decide +kernel
theorem gm_d_LW_law_225 : decode gm_b_LW_law 225 = .ok (.aload_n 1, 1) := by decide +kernel
theorem gm_d_LW_law_226 : decode gm_b_LW_law 226 = .ok (.aload_n 0, 1) := by decide +kernel
theorem gm_d_LW_law_227 : decode gm_b_LW_law 227 = .ok (.iload 4, 2) := by decide +kernel
theorem gm_d_LW_law_229 : decode gm_b_LW_law 229 = .ok (.iconst 1, 1) := by decide +kernel
theorem gm_d_LW_law_230 : decode gm_b_LW_law 230 = .ok (.iadd, 1) := by decide +kernel
theorem gm_d_LW_law_231 : decode gm_b_LW_law 231 = .ok (.iaload, 1) := by decide +kernel
theorem gm_d_LW_law_232 : decode gm_b_LW_law 232 = .ok (.i2c, 1) := by decide +kernel
theorem gm_d_LW_law_233 : decode gm_b_LW_law 233 = .ok (.aload_n 0, 1) := by decide +kernel
theorem gm_d_LW_law_234 : decode gm_b_LW_law 234 = .ok (.iload 4, 2) := by decide +kernel
theorem gm_d_LW_law_236 : decode gm_b_LW_law 236 = .ok (.iconst 2, 1) := by decide +kernel
theorem gm_d_LW_law_237 : decode gm_b_LW_law 237 = .ok (.iadd, 1) := by decide +kernel
theorem gm_d_LW_law_238 : decode gm_b_LW_law 238 = .ok (.iaload, 1) := by decide +kernel
theorem gm_d_LW_law_239 : decode gm_b_LW_law 239 = .ok (.i2c, 1) := by decide +kernel
theorem gm_d_LW_law_240 : decode gm_b_LW_law 240 = .ok (.aload_n 3, 1) := by decide +kernel
theorem gm_d_LW_law_241 : decode gm_b_LW_law 241 = .ok (.invokestatic 66, 3) := by decide +kernel
theorem gm_d_LW_law_244 : decode gm_b_LW_law 244 = .ok (.istore 5, 2) := by decide +kernel
theorem gm_d_LW_law_246 : decode gm_b_LW_law 246 = .ok (.aload_n 2, 1) := by decide +kernel
theorem gm_d_LW_law_247 : decode gm_b_LW_law 247 = .ok (.aload_n 0, 1) := by decide +kernel
theorem gm_d_LW_law_248 : decode gm_b_LW_law 248 = .ok (.iload 4, 2) := by decide +kernel
theorem gm_d_LW_law_250 : decode gm_b_LW_law 250 = .ok (.iconst 1, 1) := by decide +kernel
theorem gm_d_LW_law_251 : decode gm_b_LW_law 251 = .ok (.iadd, 1) := by decide +kernel
theorem gm_d_LW_law_252 : decode gm_b_LW_law 252 = .ok (.iaload, 1) := by decide +kernel
theorem gm_d_LW_law_253 : decode gm_b_LW_law 253 = .ok (.i2c, 1) := by decide +kernel
theorem gm_d_LW_law_254 : decode gm_b_LW_law 254 = .ok (.aload_n 0, 1) := by decide +kernel
theorem gm_d_LW_law_255 : decode gm_b_LW_law 255 = .ok (.iload 4, 2) := by decide +kernel
theorem gm_d_LW_law_257 : decode gm_b_LW_law 257 = .ok (.iconst 2, 1) := by decide +kernel
theorem gm_d_LW_law_258 : decode gm_b_LW_law 258 = .ok (.iadd, 1) := by decide +kernel
theorem gm_d_LW_law_259 : decode gm_b_LW_law 259 = .ok (.iaload, 1) := by decide +kernel
theorem gm_d_LW_law_260 : decode gm_b_LW_law 260 = .ok (.i2c, 1) := by decide +kernel
theorem gm_d_LW_law_261 : decode gm_b_LW_law 261 = .ok (.invokevirtual 69, 3) := by decide +kernel
theorem gm_d_LW_law_264 : decode gm_b_LW_law 264 = .ok (.istore 6, 2) := by decide +kernel
theorem gm_d_LW_law_266 : decode gm_b_LW_law 266 = .ok (.goto 151, 3) := by decide +kernel
theorem gm_d_LW_law_269 : decode gm_b_LW_law 269 = .ok (.aload_n 1, 1) := by decide +kernel
theorem gm_d_LW_law_270 : decode gm_b_LW_law 270 = .ok (.aload_n 0, 1) := by decide +kernel
theorem gm_d_LW_law_271 : decode gm_b_LW_law 271 = .ok (.iload 4, 2) := by decide +kernel
theorem gm_d_LW_law_273 : decode gm_b_LW_law 273 = .ok (.iconst 1, 1) := by decide +kernel
theorem gm_d_LW_law_274 : decode gm_b_LW_law 274 = .ok (.iadd, 1) := by decide +kernel
theorem gm_d_LW_law_275 : decode gm_b_LW_law 275 = .ok (.iaload, 1) := by decide +kernel
theorem gm_d_LW_law_276 : decode gm_b_LW_law 276 = .ok (.i2c, 1) := by decide +kernel
theorem gm_d_LW_law_277 : decode gm_b_LW_law 277 = .ok (.invokevirtual 70, 3) := by decide +kernel
theorem gm_d_LW_law_280 : decode gm_b_LW_law 280 = .ok (.pop, 1) := by decide +kernel
theorem gm_d_LW_law_281 : decode gm_b_LW_law 281 = .ok (.aload_n 2, 1) := by decide +kernel
theorem gm_d_LW_law_282 : decode gm_b_LW_law 282 = .ok (.aload_n 0, 1) := by decide +kernel
theorem gm_d_LW_law_283 : decode gm_b_LW_law 283 = .ok (.iload 4, 2) := by decide +kernel
theorem gm_d_LW_law_285 : decode gm_b_LW_law 285 = .ok (.iconst 1, 1) := by decide +kernel
theorem gm_d_LW_law_286 : decode gm_b_LW_law 286 = .ok (.iadd, 1) := by decide +kernel
theorem gm_d_LW_law_287 : decode gm_b_LW_law 287 = .ok (.iaload, 1) := by decide +kernel
theorem gm_d_LW_law_288 : decode gm_b_LW_law 288 = .ok (.i2c, 1) := by decide +kernel
theorem gm_d_LW_law_289 : decode gm_b_LW_law 289 = .ok (.invokevirtual 73, 3) := by decide +kernel
theorem gm_d_LW_law_292 : decode gm_b_LW_law 292 = .ok (.pop, 1) := by decide +kernel
theorem gm_d_LW_law_293 : decode gm_b_LW_law 293 = .ok (.goto 124, 3) := by decide +kernel
theorem gm_d_LW_law_296 : decode gm_b_LW_law 296 = .ok (.aload_n 1, 1) := by decide +kernel
theorem gm_d_LW_law_297 : decode gm_b_LW_law 297 = .ok (.invokevirtual 74, 3) := by decide +kernel
theorem gm_d_LW_law_300 : decode gm_b_LW_law 300 = .ok (.aload_n 2, 1) := by decide +kernel
theorem gm_d_LW_law_301 : decode gm_b_LW_law 301 = .ok (.invokevirtual 77, 3) := by decide +kernel
theorem gm_d_LW_law_304 : decode gm_b_LW_law 304 = .ok (.goto 113, 3) := by decide +kernel
theorem gm_d_LW_law_307 : decode gm_b_LW_law 307 = .ok (.aload_n 1, 1) := by decide +kernel
theorem gm_d_LW_law_308 : decode gm_b_LW_law 308 = .ok (.aload_n 0, 1) := by decide +kernel
theorem gm_d_LW_law_309 : decode gm_b_LW_law 309 = .ok (.iload 4, 2) := by decide +kernel
theorem gm_d_LW_law_311 : decode gm_b_LW_law 311 = .ok (.iconst 1, 1) := by decide +kernel
theorem gm_d_LW_law_312 : decode gm_b_LW_law 312 = .ok (.iadd, 1) := by decide +kernel
theorem gm_d_LW_law_313 : decode gm_b_LW_law 313 = .ok (.iaload, 1) := by decide +kernel
theorem gm_d_LW_law_314 : decode gm_b_LW_law 314 = .ok (.ifCond .eq 7, 3) := by decide +kernel
theorem gm_d_LW_law_317 : decode gm_b_LW_law 317 = .ok (.iconst 1, 1) := by decide +kernel
theorem gm_d_LW_law_318 : decode gm_b_LW_law 318 = .ok (.goto 4, 3) := by decide +kernel
theorem gm_d_LW_law_321 : decode gm_b_LW_law 321 = .ok (.iconst 0, 1) := by decide +kernel
theorem gm_d_LW_law_322 : decode gm_b_LW_law 322 = .ok (.aload_n 3, 1) := by decide +kernel
theorem gm_d_LW_law_323 : decode gm_b_LW_law 323 = .ok (.invokestatic 78, 3) := by decide +kernel
theorem gm_d_LW_law_326 : decode gm_b_LW_law 326 = .ok (.istore 5, 2) := by decide +kernel
theorem gm_d_LW_law_328 : decode gm_b_LW_law 328 = .ok (.aload_n 2, 1) := by decide +kernel
theorem gm_d_LW_law_329 : decode gm_b_LW_law 329 = .ok (.aload_n 0, 1) := by decide +kernel
theorem gm_d_LW_law_330 : decode gm_b_LW_law 330 = .ok (.iload 4, 2) := by decide +kernel
theorem gm_d_LW_law_332 : decode gm_b_LW_law 332 = .ok (.iconst 1, 1) := by decide +kernel
theorem gm_d_LW_law_333 : decode gm_b_LW_law 333 = .ok (.iadd, 1) := by decide +kernel
theorem gm_d_LW_law_334 : decode gm_b_LW_law 334 = .ok (.iaload, 1) := by decide +kernel
theorem gm_d_LW_law_335 : decode gm_b_LW_law 335 = .ok (.ifCond .eq 7, 3) := by decide +kernel
theorem gm_d_LW_law_338 : decode gm_b_LW_law 338 = .ok (.iconst 1, 1) := by decide +kernel
theorem gm_d_LW_law_339 : decode gm_b_LW_law 339 = .ok (.goto 4, 3) := by decide +kernel
theorem gm_d_LW_law_342 : decode gm_b_LW_law 342 = .ok (.iconst 0, 1) := by decide +kernel
theorem gm_d_LW_law_343 : decode gm_b_LW_law 343 = .ok (.invokevirtual 81, 3) := by decide +kernel
theorem gm_d_LW_law_346 : decode gm_b_LW_law 346 = .ok (.istore 6, 2) := by decide +kernel
theorem gm_d_LW_law_348 : decode gm_b_LW_law 348 = .ok (.goto 69, 3) := by decide +kernel
theorem gm_d_LW_law_351 : decode gm_b_LW_law 351 = .ok (.aload_n 1, 1) := by decide +kernel
theorem gm_d_LW_law_352 : decode gm_b_LW_law 352 = .ok (.invokevirtual 82, 3) := by decide +kernel
theorem gm_d_LW_law_355 : decode gm_b_LW_law 355 = .ok (.pop, 1) := by decide +kernel
theorem gm_d_LW_law_356 : decode gm_b_LW_law 356 = .ok (.aload_n 2, 1) := by decide +kernel
theorem gm_d_LW_law_357 : decode gm_b_LW_law 357 = .ok (.invokevirtual 85, 3) := by decide +kernel
theorem gm_d_LW_law_360 : decode gm_b_LW_law 360 = .ok (.pop, 1) := by decide +kernel
theorem gm_d_LW_law_361 : decode gm_b_LW_law 361 = .ok (.goto 56, 3) := by decide +kernel
theorem gm_d_LW_law_364 : decode gm_b_LW_law 364 = .ok (.aload_n 1, 1) := by decide +kernel
theorem gm_d_LW_law_365 : decode gm_b_LW_law 365 = .ok (.invokevirtual 86, 3) := by decide +kernel
theorem gm_d_LW_law_368 : decode gm_b_LW_law 368 = .ok (.pop, 1) := by decide +kernel
theorem gm_d_LW_law_369 : decode gm_b_LW_law 369 = .ok (.aload_n 2, 1) := by decide +kernel
theorem gm_d_LW_law_370 : decode gm_b_LW_law 370 = .ok (.invokevirtual 89, 3) := by decide +kernel
theorem gm_d_LW_law_373 : decode gm_b_LW_law 373 = .ok (.pop, 1) := by decide +kernel
theorem gm_d_LW_law_374 : decode gm_b_LW_law 374 = .ok (.goto 43, 3) := by decide +kernel
theorem gm_d_LW_law_377 : decode gm_b_LW_law 377 = .ok (.aload_n 1, 1) := by decide +kernel
theorem gm_d_LW_law_378 : decode gm_b_LW_law 378 = .ok (.aload_n 0, 1) := by decide +kernel
theorem gm_d_LW_law_379 : decode gm_b_LW_law 379 = .ok (.iload 4, 2) := by decide +kernel
theorem gm_d_LW_law_381 : decode gm_b_LW_law 381 = .ok (.iconst 1, 1) := by decide +kernel
theorem gm_d_LW_law_382 : decode gm_b_LW_law 382 = .ok (.iadd, 1) := by decide +kernel
theorem gm_d_LW_law_383 : decode gm_b_LW_law 383 = .ok (.iaload, 1) := by decide +kernel
theorem gm_d_LW_law_384 : decode gm_b_LW_law 384 = .ok (.aload_n 0, 1) := by decide +kernel
theorem gm_d_LW_law_385 : decode gm_b_LW_law 385 = .ok (.iload 4, 2) := by decide +kernel
theorem gm_d_LW_law_387 : decode gm_b_LW_law 387 = .ok (.iconst 2, 1) := by decide +kernel
theorem gm_d_LW_law_388 : decode gm_b_LW_law 388 = .ok (.iadd, 1) := by decide +kernel
theorem gm_d_LW_law_389 : decode gm_b_LW_law 389 = .ok (.iaload, 1) := by decide +kernel
theorem gm_d_LW_law_390 : decode gm_b_LW_law 390 = .ok (.aload_n 3, 1) := by decide +kernel
theorem gm_d_LW_law_391 : decode gm_b_LW_law 391 = .ok (.invokestatic 90, 3) := by decide +kernel
theorem gm_d_LW_law_394 : decode gm_b_LW_law 394 = .ok (.istore 5, 2) := by decide +kernel
theorem gm_d_LW_law_396 : decode gm_b_LW_law 396 = .ok (.aload_n 2, 1) := by decide +kernel
theorem gm_d_LW_law_397 : decode gm_b_LW_law 397 = .ok (.aload_n 0, 1) := by decide +kernel
theorem gm_d_LW_law_398 : decode gm_b_LW_law 398 = .ok (.iload 4, 2) := by decide +kernel
theorem gm_d_LW_law_400 : decode gm_b_LW_law 400 = .ok (.iconst 1, 1) := by decide +kernel
theorem gm_d_LW_law_401 : decode gm_b_LW_law 401 = .ok (.iadd, 1) := by decide +kernel
theorem gm_d_LW_law_402 : decode gm_b_LW_law 402 = .ok (.iaload, 1) := by decide +kernel
theorem gm_d_LW_law_403 : decode gm_b_LW_law 403 = .ok (.aload_n 0, 1) := by decide +kernel
theorem gm_d_LW_law_404 : decode gm_b_LW_law 404 = .ok (.iload 4, 2) := by decide +kernel
theorem gm_d_LW_law_406 : decode gm_b_LW_law 406 = .ok (.iconst 2, 1) := by decide +kernel
theorem gm_d_LW_law_407 : decode gm_b_LW_law 407 = .ok (.iadd, 1) := by decide +kernel
theorem gm_d_LW_law_408 : decode gm_b_LW_law 408 = .ok (.iaload, 1) := by decide +kernel
theorem gm_d_LW_law_409 : decode gm_b_LW_law 409 = .ok (.invokevirtual 93, 3) := by decide +kernel
theorem gm_d_LW_law_412 : decode gm_b_LW_law 412 = .ok (.istore 6, 2) := by decide +kernel
theorem gm_d_LW_law_414 : decode gm_b_LW_law 414 = .ok (.goto 3, 3) := by decide +kernel
theorem gm_d_LW_law_417 : decode gm_b_LW_law 417 = .ok (.iinc 4 3, 3) := by decide +kernel
theorem gm_d_LW_law_420 : decode gm_b_LW_law 420 = .ok (.goto (-397), 3) := by decide +kernel
theorem gm_d_LW_law_423 : decode gm_b_LW_law 423 = .ok (.iconst 1, 1) := by decide +kernel
theorem gm_d_LW_law_424 : decode gm_b_LW_law 424 = .ok (.ireturn, 1) := by decide +kernel
