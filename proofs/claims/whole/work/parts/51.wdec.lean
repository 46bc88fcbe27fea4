theorem gm_l_LW_8 : Cond.classLink gm_R_LW 8 gm_R_GM ∈ gm_W := gm_in (List.mem_append_right _ (List.mem_append_left _ (List.mem_of_getElem? (i := 20) rfl))) rfl
theorem gm_l_LW_37 : Cond.methodLink gm_R_LW 37 gm_y_GM_init ∈ gm_W := gm_in (List.mem_append_right _ (List.mem_append_left _ (List.mem_of_getElem? (i := 22) rfl))) rfl
theorem gm_l_LW_38 : Cond.classLink gm_R_LW 38 gm_R_MD ∈ gm_W := gm_in (List.mem_append_right _ (List.mem_append_right _ (List.mem_append_right _ (List.mem_append_right _ (List.mem_append_left _ (List.mem_of_getElem? (i := 134) rfl)))))) rfl
theorem gm_l_LW_40 : Cond.methodLink gm_R_LW 40 gm_y_MD_init ∈ gm_W := gm_in (List.mem_append_right _ (List.mem_append_right _ (List.mem_append_right _ (List.mem_append_right _ (List.mem_append_left _ (List.mem_of_getElem? (i := 136) rfl)))))) rfl
theorem gm_l_LW_41 : Cond.methodLink gm_R_LW 41 gm_y_GM_type ∈ gm_W := gm_in (List.mem_append_right _ (List.mem_append_right _ (List.mem_append_left _ (List.mem_of_getElem? (i := 86) rfl)))) rfl
theorem gm_l_LW_44 : Cond.methodLink gm_R_LW 44 gm_y_MD_type ∈ gm_W := gm_in (List.mem_append_right _ (List.mem_append_right _ (List.mem_append_right _ (List.mem_append_right _ (List.mem_append_right _ (List.mem_append_left _ (List.mem_of_getElem? (i := 40) rfl))))))) rfl
theorem gm_l_LW_45 : Cond.methodLink gm_R_LW 45 gm_y_GM_wipe ∈ gm_W := gm_in (List.mem_append_right _ (List.mem_append_right _ (List.mem_append_left _ (List.mem_of_getElem? (i := 94) rfl)))) rfl
theorem gm_l_LW_48 : Cond.methodLink gm_R_LW 48 gm_y_MD_wipe ∈ gm_W := gm_in (List.mem_append_right _ (List.mem_append_right _ (List.mem_append_right _ (List.mem_append_right _ (List.mem_append_right _ (List.mem_append_left _ (List.mem_of_getElem? (i := 44) rfl))))))) rfl
theorem gm_l_LW_49 : Cond.methodLink gm_R_LW 49 gm_y_LW_compile ∈ gm_W := gm_in (List.mem_append_right _ (List.mem_append_right _ (List.mem_append_left _ (List.mem_of_getElem? (i := 118) rfl)))) rfl
theorem gm_l_LW_54 : Cond.methodLink gm_R_LW 54 gm_y_MD_compile ∈ gm_W := gm_in (List.mem_append_right _ (List.mem_append_right _ (List.mem_append_right _ (List.mem_append_right _ (List.mem_append_right _ (List.mem_append_left _ (List.mem_of_getElem? (i := 48) rfl))))))) rfl
theorem gm_l_LW_55 : Cond.methodLink gm_R_LW 55 gm_y_MD_thrown ∈ gm_W := gm_in (List.mem_append_right _ (List.mem_append_right _ (List.mem_append_right _ (List.mem_append_right _ (List.mem_append_right _ (List.mem_append_left _ (List.mem_of_getElem? (i := 36) rfl))))))) rfl
theorem gm_l_LW_58 : Cond.methodLink gm_R_LW 58 gm_y_GM_fault ∈ gm_W := gm_in (List.mem_append_right _ (List.mem_append_right _ (List.mem_append_left _ (List.mem_of_getElem? (i := 98) rfl)))) rfl
theorem gm_l_LW_61 : Cond.methodLink gm_R_LW 61 gm_y_MD_fault ∈ gm_W := gm_in (List.mem_append_right _ (List.mem_append_right _ (List.mem_append_right _ (List.mem_append_right _ (List.mem_append_right _ (List.mem_append_left _ (List.mem_of_getElem? (i := 151) rfl))))))) rfl
theorem gm_l_LW_62 : Cond.methodLink gm_R_LW 62 gm_y_LW_empty ∈ gm_W := gm_in (List.mem_append_right _ (List.mem_append_right _ (List.mem_append_right _ (List.mem_append_left _ (List.mem_of_getElem? (i := 199) rfl))))) rfl
theorem gm_l_LW_65 : Cond.methodLink gm_R_LW 65 gm_y_MD_empty ∈ gm_W := gm_in (List.mem_append_right _ (List.mem_append_right _ (List.mem_append_right _ (List.mem_append_right _ (List.mem_append_right _ (List.mem_append_left _ (List.mem_of_getElem? (i := 155) rfl))))))) rfl
theorem gm_l_LW_66 : Cond.methodLink gm_R_LW 66 gm_y_LW_head ∈ gm_W := gm_in (List.mem_append_right _ (List.mem_append_right _ (List.mem_append_right _ (List.mem_append_left _ (List.mem_of_getElem? (i := 225) rfl))))) rfl
theorem gm_l_LW_69 : Cond.methodLink gm_R_LW 69 gm_y_MD_head ∈ gm_W := gm_in (List.mem_append_right _ (List.mem_append_right _ (List.mem_append_right _ (List.mem_append_right _ (List.mem_append_right _ (List.mem_append_left _ (List.mem_of_getElem? (i := 163) rfl))))))) rfl
theorem gm_l_LW_70 : Cond.methodLink gm_R_LW 70 gm_y_GM_feed ∈ gm_W := gm_in (List.mem_append_right _ (List.mem_append_right _ (List.mem_append_left _ (List.mem_of_getElem? (i := 102) rfl)))) rfl
theorem gm_l_LW_73 : Cond.methodLink gm_R_LW 73 gm_y_MD_feed ∈ gm_W := gm_in (List.mem_append_right _ (List.mem_append_right _ (List.mem_append_right _ (List.mem_append_right _ (List.mem_append_right _ (List.mem_append_left _ (List.mem_of_getElem? (i := 171) rfl))))))) rfl
theorem gm_l_LW_74 : Cond.methodLink gm_R_LW 74 gm_y_GM_clear ∈ gm_W := gm_in (List.mem_append_right _ (List.mem_append_right _ (List.mem_append_left _ (List.mem_of_getElem? (i := 106) rfl)))) rfl
theorem gm_l_LW_77 : Cond.methodLink gm_R_LW 77 gm_y_MD_clear ∈ gm_W := gm_in (List.mem_append_right _ (List.mem_append_right _ (List.mem_append_right _ (List.mem_append_right _ (List.mem_append_right _ (List.mem_append_left _ (List.mem_of_getElem? (i := 175) rfl))))))) rfl
theorem gm_l_LW_78 : Cond.methodLink gm_R_LW 78 gm_y_LW_match ∈ gm_W := gm_in (List.mem_append_right _ (List.mem_append_right _ (List.mem_append_right _ (List.mem_append_left _ (List.mem_of_getElem? (i := 236) rfl))))) rfl
theorem gm_l_LW_81 : Cond.methodLink gm_R_LW 81 gm_y_MD_match ∈ gm_W := gm_in (List.mem_append_right _ (List.mem_append_right _ (List.mem_append_right _ (List.mem_append_right _ (List.mem_append_right _ (List.mem_append_left _ (List.mem_of_getElem? (i := 179) rfl))))))) rfl
theorem gm_l_LW_82 : Cond.methodLink gm_R_LW 82 gm_y_GM_work ∈ gm_W := gm_in (List.mem_append_right _ (List.mem_append_right _ (List.mem_append_left _ (List.mem_of_getElem? (i := 110) rfl)))) rfl
theorem gm_l_LW_85 : Cond.methodLink gm_R_LW 85 gm_y_MD_work ∈ gm_W := gm_in (List.mem_append_right _ (List.mem_append_right _ (List.mem_append_right _ (List.mem_append_right _ (List.mem_append_right _ (List.mem_append_right _ (List.mem_of_getElem? (i := 15) rfl))))))) rfl
theorem gm_l_LW_86 : Cond.methodLink gm_R_LW 86 gm_y_GM_nodes ∈ gm_W := gm_in (List.mem_append_right _ (List.mem_append_right _ (List.mem_append_left _ (List.mem_of_getElem? (i := 114) rfl)))) rfl
theorem gm_l_LW_89 : Cond.methodLink gm_R_LW 89 gm_y_MD_nodes ∈ gm_W := gm_in (List.mem_append_right _ (List.mem_append_right _ (List.mem_append_right _ (List.mem_append_right _ (List.mem_append_right _ (List.mem_append_right _ (List.mem_of_getElem? (i := 19) rfl))))))) rfl
theorem gm_l_LW_90 : Cond.methodLink gm_R_LW 90 gm_y_LW_node ∈ gm_W := gm_in (List.mem_append_right _ (List.mem_append_right _ (List.mem_append_right _ (List.mem_append_right _ (List.mem_append_left _ (List.mem_of_getElem? (i := 121) rfl)))))) rfl
theorem gm_l_LW_93 : Cond.methodLink gm_R_LW 93 gm_y_MD_node ∈ gm_W := gm_in (List.mem_append_right _ (List.mem_append_right _ (List.mem_append_right _ (List.mem_append_right _ (List.mem_append_right _ (List.mem_append_right _ (List.mem_of_getElem? (i := 23) rfl))))))) rfl
theorem gm_d_LW_law_0 : decode gm_b_LW_law 0 = .ok (.new 8, 3) := by decide +kernel
theorem gm_d_LW_law_3 : decode gm_b_LW_law 3 = .ok (.dup, 1) := by decide +kernel
theorem gm_d_LW_law_4 : decode gm_b_LW_law 4 = .ok (.invokespecial 37, 3) := by decide +kernel
theorem gm_d_LW_law_7 : decode gm_b_LW_law 7 = .ok (.astore_n 1, 1) := by decide +kernel
theorem gm_d_LW_law_8 : decode gm_b_LW_law 8 = .ok (.new 38, 3) := by decide +kernel
theorem gm_d_LW_law_11 : decode gm_b_LW_law 11 = .ok (.dup, 1) := by decide +kernel
theorem gm_d_LW_law_12 : decode gm_b_LW_law 12 = .ok (.invokespecial 40, 3) := by decide +kernel
theorem gm_d_LW_law_15 : decode gm_b_LW_law 15 = .ok (.astore_n 2, 1) := by decide +kernel
theorem gm_d_LW_law_16 : decode gm_b_LW_law 16 = .ok (.iconst 1, 1) := by decide +kernel
theorem gm_d_LW_law_17 : decode gm_b_LW_law 17 = .ok (.newarray .long, 2) := by decide +kernel
theorem gm_d_LW_law_19 : decode gm_b_LW_law 19 = .ok (.astore_n 3, 1) := by decide +kernel
theorem gm_d_LW_law_20 : decode gm_b_LW_law 20 = .ok (.iconst 0, 1) := by decide +kernel
theorem gm_d_LW_law_21 : decode gm_b_LW_law 21 = .ok (.istore 4, 2) := by decide +kernel
theorem gm_d_LW_law_23 : decode gm_b_LW_law 23 = .ok (.iload 4, 2) := by decide +kernel
theorem gm_d_LW_law_25 : decode gm_b_LW_law 25 = .ok (.aload_n 0, 1) := by decide +kernel
theorem gm_d_LW_law_26 : decode gm_b_LW_law 26 = .ok (.arraylength, 1) := by decide +kernel
theorem gm_d_LW_law_27 : decode gm_b_LW_law 27 = .ok (.iconst 3, 1) := by decide +kernel
theorem gm_d_LW_law_28 : decode gm_b_LW_law 28 = .ok (.isub, 1) := by decide +kernel
theorem gm_d_LW_law_29 : decode gm_b_LW_law 29 = .ok (.if_icmp .gt 520, 3) := by decide +kernel
theorem gm_d_LW_law_32 : decode gm_b_LW_law 32 = .ok (.aload_n 0, 1) := by decide +kernel
theorem gm_d_LW_law_33 : decode gm_b_LW_law 33 = .ok (.iload 4, 2) := by decide +kernel
theorem gm_d_LW_law_35 : decode gm_b_LW_law 35 = .ok (.iaload, 1) := by decide +kernel
theorem gm_d_LW_law_36 : decode gm_b_LW_law 36 = .ok (.bipush 15, 2) := by decide +kernel
theorem gm_d_LW_law_38 : decode gm_b_LW_law 38 = .ok (.iand, 1) := by decide +kernel
theorem gm_d_LW_law_39 : decode gm_b_LW_law 39 = .ok (.tableswitch 504 0 11 #[61, 88, 99, 143, 156, 221, 300, 327, 338, 410, 423, 436], 61) := by decide +kernel
theorem gm_d_LW_law_100 : decode gm_b_LW_law 100 = .ok (.aload_n 1, 1) := by decide +kernel
theorem gm_d_LW_law_101 : decode gm_b_LW_law 101 = .ok (.aload_n 0, 1) := by decide +kernel
theorem gm_d_LW_law_102 : decode gm_b_LW_law 102 = .ok (.iload 4, 2) := by decide +kernel
theorem gm_d_LW_law_104 : decode gm_b_LW_law 104 = .ok (.iconst 1, 1) := by decide +kernel
theorem gm_d_LW_law_105 : decode gm_b_LW_law 105 = .ok (.iadd, 1) := by decide +kernel
theorem gm_d_LW_law_106 : decode gm_b_LW_law 106 = .ok (.iaload, 1) := by decide +kernel
theorem gm_d_LW_law_107 : decode gm_b_LW_law 107 = .ok (.i2c, 1) := by decide +kernel
theorem gm_d_LW_law_108 : decode gm_b_LW_law 108 = .ok (.invokevirtual 41, 3) := by decide +kernel
theorem gm_d_LW_law_111 : decode gm_b_LW_law 111 = .ok (.aload_n 2, 1) := by decide +kernel
theorem gm_d_LW_law_112 : decode gm_b_LW_law 112 = .ok (.aload_n 0, 1) := by decide +kernel
theorem gm_d_LW_law_113 : decode gm_b_LW_law 113 = .ok (.iload 4, 2) := by decide +kernel
theorem gm_d_LW_law_115 : decode gm_b_LW_law 115 = .ok (.iconst 1, 1) := by decide +kernel
theorem gm_d_LW_law_116 : decode gm_b_LW_law 116 = .ok (.iadd, 1) := by decide +kernel
theorem gm_d_LW_law_117 : decode gm_b_LW_law 117 = .ok (.iaload, 1) := by decide +kernel
theorem gm_d_LW_law_118 : decode gm_b_LW_law 118 = .ok (.i2c, 1) := by decide +kernel
theorem gm_d_LW_law_119 : decode gm_b_LW_law 119 = .ok (.invokevirtual 44, 3) := by decide +kernel
theorem gm_d_LW_law_122 : decode gm_b_LW_law 122 = .ok (.if_icmp .eq 421, 3) := by decide +kernel
theorem gm_d_LW_law_125 : decode gm_b_LW_law 125 = .ok (.iconst 0, 1) := by decide +kernel
theorem gm_d_LW_law_126 : decode gm_b_LW_law 126 = .ok (.ireturn, 1) := by decide +kernel
theorem gm_d_LW_law_127 : decode gm_b_LW_law 127 = .ok (.aload_n 1, 1) := by decide +kernel
theorem gm_d_LW_law_128 : decode gm_b_LW_law 128 = .ok (.invokevirtual 45, 3) := by decide +kernel
theorem gm_d_LW_law_131 : decode gm_b_LW_law 131 = .ok (.aload_n 2, 1) := by decide +kernel
theorem gm_d_LW_law_132 : decode gm_b_LW_law 132 = .ok (.invokevirtual 48, 3) := by decide +kernel
theorem gm_d_LW_law_135 : decode gm_b_LW_law 135 = .ok (.goto 408, 3) := by decide +kernel
theorem gm_d_LW_law_138 : decode gm_b_LW_law 138 = .ok (.aload_n 1, 1) := by decide +kernel
theorem gm_d_LW_law_139 : decode gm_b_LW_law 139 = .ok (.aload_n 3, 1) := by decide +kernel
theorem gm_d_LW_law_140 : decode gm_b_LW_law 140 = .ok (.invokestatic 49, 3) := by decide +kernel
theorem gm_d_LW_law_143 : decode gm_b_LW_law 143 = .ok (.istore 5, 2) := by decide +kernel
theorem gm_d_LW_law_145 : decode gm_b_LW_law 145 = .ok (.aload_n 2, 1) := by decide +kernel
theorem gm_d_LW_law_146 : decode gm_b_LW_law 146 = .ok (.invokevirtual 54, 3) := by decide +kernel
theorem gm_d_LW_law_149 : decode gm_b_LW_law 149 = .ok (.istore 6, 2) := by decide +kernel
theorem gm_d_LW_law_151 : decode gm_b_LW_law 151 = .ok (.aload_n 2, 1) := by decide +kernel
theorem gm_d_LW_law_152 : decode gm_b_LW_law 152 = .ok (.invokevirtual 55, 3) := by decide +kernel
theorem gm_d_LW_law_155 : decode gm_b_LW_law 155 = .ok (.iload 5, 2) := by decide +kernel
theorem gm_d_LW_law_157 : decode gm_b_LW_law 157 = .ok (.if_icmp .eq 5, 3) := by decide +kernel
theorem gm_d_LW_law_160 : decode gm_b_LW_law 160 = .ok (.iconst 0, 1) := by decide +kernel
theorem gm_d_LW_law_161 : decode gm_b_LW_law 161 = .ok (.ireturn, 1) := by decide +kernel
theorem gm_d_LW_law_162 : decode gm_b_LW_law 162 = .ok (.iload 5, 2) := by decide +kernel
theorem gm_d_LW_law_164 : decode gm_b_LW_law 164 = .ok (.ifCond .ne 15, 3) := by decide +kernel
theorem gm_d_LW_law_167 : decode gm_b_LW_law 167 = .ok (.aload_n 3, 1) := by decide +kernel
theorem gm_d_LW_law_168 : decode gm_b_LW_law 168 = .ok (.iconst 0, 1) := by decide +kernel
theorem gm_d_LW_law_169 : decode gm_b_LW_law 169 = .ok (.laload, 1) := by decide +kernel
theorem gm_d_LW_law_170 : decode gm_b_LW_law 170 = .ok (.iload 6, 2) := by decide +kernel
theorem gm_d_LW_law_172 : decode gm_b_LW_law 172 = .ok (.i2l, 1) := by decide +kernel
theorem gm_d_LW_law_173 : decode gm_b_LW_law 173 = .ok (.lcmp, 1) := by decide +kernel
theorem gm_d_LW_law_174 : decode gm_b_LW_law 174 = .ok (.ifCond .eq 5, 3) := by decide +kernel
theorem gm_d_LW_law_177 : decode gm_b_LW_law 177 = .ok (.iconst 0, 1) := by decide +kernel
theorem gm_d_LW_law_178 : decode gm_b_LW_law 178 = .ok (.ireturn, 1) := by decide +kernel
theorem gm_d_LW_law_179 : decode gm_b_LW_law 179 = .ok (.goto 364, 3) := by decide +kernel
theorem gm_d_LW_law_182 : decode gm_b_LW_law 182 = .ok (.aload_n 1, 1) := by decide +kernel
theorem gm_d_LW_law_183 : decode gm_b_LW_law 183 = .ok (.invokevirtual 58, 3) := by decide +kernel
theorem gm_d_LW_law_186 : decode gm_b_LW_law 186 = .ok (.aload_n 2, 1) := by decide +kernel
theorem gm_d_LW_law_187 : decode gm_b_LW_law 187 = .ok (.invokevirtual 61, 3) := by decide +kernel
theorem gm_d_LW_law_190 : decode gm_b_LW_law 190 = .ok (.if_icmp .eq 353, 3) := by decide +kernel
theorem gm_d_LW_law_193 : decode gm_b_LW_law 193 = .ok (.iconst 0, 1) := by decide +kernel
theorem gm_d_LW_law_194 : decode gm_b_LW_law 194 = .ok (.ireturn, 1) := by decide +kernel
theorem gm_d_LW_law_195 : decode gm_b_LW_law 195 = .ok (.aload_n 1, 1) := by decide +kernel
theorem gm_d_LW_law_196 : decode gm_b_LW_law 196 = .ok (.aload_n 0, 1) := by decide +kernel
theorem gm_d_LW_law_197 : decode gm_b_LW_law 197 = .ok (.iload 4, 2) := by decide +kernel
theorem gm_d_LW_law_199 : decode gm_b_LW_law 199 = .ok (.iconst 1, 1) := by decide +kernel
theorem gm_d_LW_law_200 : decode gm_b_LW_law 200 = .ok (.iadd, 1) := by decide +kernel
theorem gm_d_LW_law_201 : decode gm_b_LW_law 201 = .ok (.iaload, 1) := by decide +kernel
theorem gm_d_LW_law_202 : decode gm_b_LW_law 202 = .ok (.i2c, 1) := by decide +kernel
theorem gm_d_LW_law_203 : decode gm_b_LW_law 203 = .ok (.aload_n 3, 1) := by decide +kernel
theorem gm_d_LW_law_204 : decode gm_b_LW_law 204 = .ok (.invokestatic 62, 3) := by decide +kernel
theorem gm_d_LW_law_207 : decode gm_b_LW_law 207 = .ok (.istore 5, 2) := by decide +kernel
theorem gm_d_LW_law_209 : decode gm_b_LW_law 209 = .ok (.aload_n 2, 1) := by decide +kernel
theorem gm_d_LW_law_210 : decode gm_b_LW_law 210 = .ok (.aload_n 0, 1) := by decide +kernel
theorem gm_d_LW_law_211 : decode gm_b_LW_law 211 = .ok (.iload 4, 2) := by decide +kernel
theorem gm_d_LW_law_213 : decode gm_b_LW_law 213 = .ok (.iconst 1, 1) := by decide +kernel
theorem gm_d_LW_law_214 : decode gm_b_LW_law 214 = .ok (.iadd, 1) := by decide +kernel
theorem gm_d_LW_law_215 : decode gm_b_LW_law 215 = .ok (.iaload, 1) := by decide +kernel
theorem gm_d_LW_law_216 : decode gm_b_LW_law 216 = .ok (.i2c, 1) := by decide +kernel
theorem gm_d_LW_law_217 : decode gm_b_LW_law 217 = .ok (.invokevirtual 65, 3) := by decide +kernel
theorem gm_d_LW_law_220 : decode gm_b_LW_law 220 = .ok (.istore 6, 2) := by decide +kernel
theorem gm_d_LW_law_222 : decode gm_b_LW_law 222 = .ok (.aload_n 2, 1) := by decide +kernel
theorem gm_d_LW_law_223 : decode gm_b_LW_law 223 = .ok (.invokevirtual 55, 3) := by decide +kernel
theorem gm_d_LW_law_226 : decode gm_b_LW_law 226 = .ok (.iload 5, 2) := by decide +kernel
theorem gm_d_LW_law_228 : decode gm_b_LW_law 228 = .ok (.if_icmp .eq 5, 3) := by decide +kernel
theorem gm_d_LW_law_231 : decode gm_b_LW_law 231 = .ok (.iconst 0, 1) := by decide +kernel
theorem gm_d_LW_law_232 : decode gm_b_LW_law 232 = .ok (.ireturn, 1) := by decide +kernel
theorem gm_d_LW_law_233 : decode gm_b_LW_law 233 = .ok (.iload 5, 2) := by decide +kernel
theorem gm_d_LW_law_235 : decode gm_b_LW_law 235 = .ok (.ifCond .ne 22, 3) := by decide +kernel
theorem gm_d_LW_law_238 : decode gm_b_LW_law 238 = .ok (.aload_n 3, 1) := by decide +kernel
theorem gm_d_LW_law_239 : decode gm_b_LW_law 239 = .ok (.iconst 0, 1) := by decide +kernel
theorem gm_d_LW_law_240 : decode gm_b_LW_law 240 = .ok (.laload, 1) := by decide +kernel
theorem gm_d_LW_law_241 : decode gm_b_LW_law 241 = .ok (.iload 6, 2) := by decide +kernel
theorem gm_d_LW_law_243 : decode gm_b_LW_law 243 = .ok (.ifCond .eq 7, 3) := by decide +kernel
theorem gm_d_LW_law_246 : decode gm_b_LW_law 246 = .ok (.lconst 1, 1) := by decide +kernel
theorem gm_d_LW_law_247 : decode gm_b_LW_law 247 = .ok (.goto 4, 3) := by decide +kernel
theorem gm_d_LW_law_250 : decode gm_b_LW_law 250 = .ok (.lconst 0, 1) := by decide +kernel
theorem gm_d_LW_law_251 : decode gm_b_LW_law 251 = .ok (.lcmp, 1) := by decide +kernel
theorem gm_d_LW_law_252 : decode gm_b_LW_law 252 = .ok (.ifCond .eq 5, 3) := by decide +kernel
theorem gm_d_LW_law_255 : decode gm_b_LW_law 255 = .ok (.iconst 0, 1) := by decide +kernel
theorem gm_d_LW_law_256 : decode gm_b_LW_law 256 = .ok (.ireturn, 1) := by decide +kernel
theorem gm_d_LW_law_257 : decode gm_b_LW_law 257 = .ok (.goto 286, 3) := by decide +kernel
theorem gm_d_LW_law_260 : decode gm_b_LW_law 260 = .ok (.aload_n 1, 1) := by decide +kernel
theorem gm_d_LW_law_261 : decode gm_b_LW_law 261 = .ok (.aload_n 0, 1) := by decide +kernel
theorem gm_d_LW_law_262 : decode gm_b_LW_law 262 = .ok (.iload 4, 2) := by decide +kernel
theorem gm_d_LW_law_264 : decode gm_b_LW_law 264 = .ok (.iconst 1, 1) := by decide +kernel
theorem gm_d_LW_law_265 : decode gm_b_LW_law 265 = .ok (.iadd, 1) := by decide +kernel
theorem gm_d_LW_law_266 : decode gm_b_LW_law 266 = .ok (.iaload, 1) := by decide +kernel
theorem gm_d_LW_law_267 : decode gm_b_LW_law 267 = .ok (.i2c, 1) := by decide +kernel
theorem gm_d_LW_law_268 : decode gm_b_LW_law 268 = .ok (.aload_n 0, 1) := by decide +kernel
theorem gm_d_LW_law_269 : decode gm_b_LW_law 269 = .ok (.iload 4, 2) := by decide +kernel
theorem gm_d_LW_law_271 : decode gm_b_LW_law 271 = .ok (.iconst 2, 1) := by decide +kernel
theorem gm_d_LW_law_272 : decode gm_b_LW_law 272 = .ok (.iadd, 1) := by decide +kernel
theorem gm_d_LW_law_273 : decode gm_b_LW_law 273 = .ok (.iaload, 1) := by decide +kernel
theorem gm_d_LW_law_274 : decode gm_b_LW_law 274 = .ok (.i2c, 1) := by decide +kernel
theorem gm_d_LW_law_275 : decode gm_b_LW_law 275 = .ok (.aload_n 3, 1) := by decide +kernel
theorem gm_d_LW_law_276 : decode gm_b_LW_law 276 = .ok (.invokestatic 66, 3) := by decide +kernel
theorem gm_d_LW_law_279 : decode gm_b_LW_law 279 = .ok (.istore 5, 2) := by decide +kernel
theorem gm_d_LW_law_281 : decode gm_b_LW_law 281 = .ok (.aload_n 2, 1) := by decide +kernel
theorem gm_d_LW_law_282 : decode gm_b_LW_law 282 = .ok (.aload_n 0, 1) := by decide +kernel
theorem gm_d_LW_law_283 : decode gm_b_LW_law 283 = .ok (.iload 4, 2) := by decide +kernel
theorem gm_d_LW_law_285 : decode gm_b_LW_law 285 = .ok (.iconst 1, 1) := by decide +kernel
theorem gm_d_LW_law_286 : decode gm_b_LW_law 286 = .ok (.iadd, 1) := by decide +kernel
theorem gm_d_LW_law_287 : decode gm_b_LW_law 287 = .ok (.iaload, 1) := by decide +kernel
theorem gm_d_LW_law_288 : decode gm_b_LW_law 288 = .ok (.i2c, 1) := by decide +kernel
theorem gm_d_LW_law_289 : decode gm_b_LW_law 289 = .ok (.aload_n 0, 1) := by decide +kernel
theorem gm_d_LW_law_290 : decode gm_b_LW_law 290 = .ok (.iload 4, 2) := by decide +kernel
theorem gm_d_LW_law_292 : decode gm_b_LW_law 292 = .ok (.iconst 2, 1) := by decide +kernel
theorem gm_d_LW_law_293 : decode gm_b_LW_law 293 = .ok (.iadd, 1) := by decide +kernel
theorem gm_d_LW_law_294 : decode gm_b_LW_law 294 = .ok (.iaload, 1) := by decide +kernel
theorem gm_d_LW_law_295 : decode gm_b_LW_law 295 = .ok (.i2c, 1) := by decide +kernel
theorem gm_d_LW_law_296 : decode gm_b_LW_law 296 = .ok (.invokevirtual 69, 3) := by decide +kernel
theorem gm_d_LW_law_299 : decode gm_b_LW_law 299 = .ok (.istore 6, 2) := by decide +kernel
theorem gm_d_LW_law_301 : decode gm_b_LW_law 301 = .ok (.aload_n 2, 1) := by decide +kernel
theorem gm_d_LW_law_302 : decode gm_b_LW_law 302 = .ok (.invokevirtual 55, 3) := by decide +kernel
theorem gm_d_LW_law_305 : decode gm_b_LW_law 305 = .ok (.iload 5, 2) := by decide +kernel
theorem gm_d_LW_law_307 : decode gm_b_LW_law 307 = .ok (.if_icmp .eq 5, 3) := by decide +kernel
theorem gm_d_LW_law_310 : decode gm_b_LW_law 310 = .ok (.iconst 0, 1) := by decide +kernel
theorem gm_d_LW_law_311 : decode gm_b_LW_law 311 = .ok (.ireturn, 1) := by decide +kernel
theorem gm_d_LW_law_312 : decode gm_b_LW_law 312 = .ok (.iload 5, 2) := by decide +kernel
theorem gm_d_LW_law_314 : decode gm_b_LW_law 314 = .ok (.ifCond .ne 22, 3) := by decide +kernel
theorem gm_d_LW_law_317 : decode gm_b_LW_law 317 = .ok (.aload_n 3, 1) := by decide +kernel
theorem gm_d_LW_law_318 : decode gm_b_LW_law 318 = .ok (.iconst 0, 1) := by decide +kernel
theorem gm_d_LW_law_319 : decode gm_b_LW_law 319 = .ok (.laload, 1) := by decide +kernel
theorem gm_d_LW_law_320 : decode gm_b_LW_law 320 = .ok (.iload 6, 2) := by decide +kernel
theorem gm_d_LW_law_322 : decode gm_b_LW_law 322 = .ok (.ifCond .eq 7, 3) := by decide +kernel
theorem gm_d_LW_law_325 : decode gm_b_LW_law 325 = .ok (.lconst 1, 1) := by decide +kernel
theorem gm_d_LW_law_326 : decode gm_b_LW_law 326 = .ok (.goto 4, 3) := by decide +kernel
theorem gm_d_LW_law_329 : decode gm_b_LW_law 329 = .ok (.lconst 0, 1) := by decide +kernel
theorem gm_d_LW_law_330 : decode gm_b_LW_law 330 = .ok (.lcmp, 1) := by decide +kernel
theorem gm_d_LW_law_331 : decode gm_b_LW_law 331 = .ok (.ifCond .eq 5, 3) := by decide +kernel
theorem gm_d_LW_law_334 : decode gm_b_LW_law 334 = .ok (.iconst 0, 1) := by decide +kernel
theorem gm_d_LW_law_335 : decode gm_b_LW_law 335 = .ok (.ireturn, 1) := by decide +kernel
theorem gm_d_LW_law_336 : decode gm_b_LW_law 336 = .ok (.goto 207, 3) := by decide +kernel
theorem gm_d_LW_law_339 : decode gm_b_LW_law 339 = .ok (.aload_n 1, 1) := by decide +kernel
theorem gm_d_LW_law_340 : decode gm_b_LW_law 340 = .ok (.aload_n 0, 1) := by decide +kernel
theorem gm_d_LW_law_341 : decode gm_b_LW_law 341 = .ok (.iload 4, 2) := by decide +kernel
theorem gm_d_LW_law_343 : decode gm_b_LW_law 343 = .ok (.iconst 1, 1) := by decide +kernel
theorem gm_d_LW_law_344 : decode gm_b_LW_law 344 = .ok (.iadd, 1) := by decide +kernel
theorem gm_d_LW_law_345 : decode gm_b_LW_law 345 = .ok (.iaload, 1) := by decide +kernel
theorem gm_d_LW_law_346 : decode gm_b_LW_law 346 = .ok (.i2c, 1) := by decide +kernel
theorem gm_d_LW_law_347 : decode gm_b_LW_law 347 = .ok (.invokevirtual 70, 3) := by decide +kernel
theorem gm_d_LW_law_350 : decode gm_b_LW_law 350 = .ok (.aload_n 2, 1) := by decide +kernel
theorem gm_d_LW_law_351 : decode gm_b_LW_law 351 = .ok (.aload_n 0, 1) := by decide +kernel
theorem gm_d_LW_law_352 : decode gm_b_LW_law 352 = .ok (.iload 4, 2) := by decide +kernel
theorem gm_d_LW_law_354 : decode gm_b_LW_law 354 = .ok (.iconst 1, 1) := by decide +kernel
theorem gm_d_LW_law_355 : decode gm_b_LW_law 355 = .ok (.iadd, 1) := by decide +kernel
theorem gm_d_LW_law_356 : decode gm_b_LW_law 356 = .ok (.iaload, 1) := by decide +kernel
theorem gm_d_LW_law_357 : decode gm_b_LW_law 357 = .ok (.i2c, 1) := by decide +kernel
theorem gm_d_LW_law_358 : decode gm_b_LW_law 358 = .ok (.invokevirtual 73, 3) := by decide +kernel
theorem gm_d_LW_law_361 : decode gm_b_LW_law 361 = .ok (.if_icmp .eq 182, 3) := by decide +kernel
theorem gm_d_LW_law_364 : decode gm_b_LW_law 364 = .ok (.iconst 0, 1) := by decide +kernel
theorem gm_d_LW_law_365 : decode gm_b_LW_law 365 = .ok (.ireturn, 1) := by decide +kernel
theorem gm_d_LW_law_366 : decode gm_b_LW_law 366 = .ok (.aload_n 1, 1) := by decide +kernel
theorem gm_d_LW_law_367 : decode gm_b_LW_law 367 = .ok (.invokevirtual 74, 3) := by decide +kernel
theorem gm_d_LW_law_370 : decode gm_b_LW_law 370 = .ok (.aload_n 2, 1) := by decide +kernel
theorem gm_d_LW_law_371 : decode gm_b_LW_law 371 = .ok (.invokevirtual 77, 3) := by decide +kernel
theorem gm_d_LW_law_374 : decode gm_b_LW_law 374 = .ok (.goto 169, 3) := by decide +kernel
theorem gm_d_LW_law_377 : decode gm_b_LW_law 377 = .ok (.aload_n 1, 1) := by decide +kernel
theorem gm_d_LW_law_378 : decode gm_b_LW_law 378 = .ok (.aload_n 0, 1) := by decide +kernel
theorem gm_d_LW_law_379 : decode gm_b_LW_law 379 = .ok (.iload 4, 2) := by decide +kernel
theorem gm_d_LW_law_381 : decode gm_b_LW_law 381 = .ok (.iconst 1, 1) := by decide +kernel
theorem gm_d_LW_law_382 : decode gm_b_LW_law 382 = .ok (.iadd, 1) := by decide +kernel
theorem gm_d_LW_law_383 : decode gm_b_LW_law 383 = .ok (.iaload, 1) := by decide +kernel
theorem gm_d_LW_law_384 : decode gm_b_LW_law 384 = .ok (.ifCond .eq 7, 3) := by decide +kernel
theorem gm_d_LW_law_387 : decode gm_b_LW_law 387 = .ok (.iconst 1, 1) := by decide +kernel
theorem gm_d_LW_law_388 : decode gm_b_LW_law 388 = .ok (.goto 4, 3) := by decide +kernel
theorem gm_d_LW_law_391 : decode gm_b_LW_law 391 = .ok (.iconst 0, 1) := by decide +kernel
theorem gm_d_LW_law_392 : decode gm_b_LW_law 392 = .ok (.aload_n 3, 1) := by decide +kernel
theorem gm_d_LW_law_393 : decode gm_b_LW_law 393 = .ok (.invokestatic 78, 3) := by decide +kernel
theorem gm_d_LW_law_396 : decode gm_b_LW_law 396 = .ok (.istore 5, 2) := by decide +kernel
theorem gm_d_LW_law_398 : decode gm_b_LW_law 398 = .ok (.aload_n 2, 1) := by decide +kernel
theorem gm_d_LW_law_399 : decode gm_b_LW_law 399 = .ok (.aload_n 0, 1) := by decide +kernel
theorem gm_d_LW_law_400 : decode gm_b_LW_law 400 = .ok (.iload 4, 2) := by decide +kernel
theorem gm_d_LW_law_402 : decode gm_b_LW_law 402 = .ok (.iconst 1, 1) := by decide +kernel
theorem gm_d_LW_law_403 : decode gm_b_LW_law 403 = .ok (.iadd, 1) := by decide +kernel
theorem gm_d_LW_law_404 : decode gm_b_LW_law 404 = .ok (.iaload, 1) := by decide +kernel
theorem gm_d_LW_law_405 : decode gm_b_LW_law 405 = .ok (.ifCond .eq 7, 3) := by decide +kernel
theorem gm_d_LW_law_408 : decode gm_b_LW_law 408 = .ok (.iconst 1, 1) := by decide +kernel
theorem gm_d_LW_law_409 : decode gm_b_LW_law 409 = .ok (.goto 4, 3) := by decide +kernel
theorem gm_d_LW_law_412 : decode gm_b_LW_law 412 = .ok (.iconst 0, 1) := by decide +kernel
theorem gm_d_LW_law_413 : decode gm_b_LW_law 413 = .ok (.invokevirtual 81, 3) := by decide +kernel
theorem gm_d_LW_law_416 : decode gm_b_LW_law 416 = .ok (.istore 6, 2) := by decide +kernel
theorem gm_d_LW_law_418 : decode gm_b_LW_law 418 = .ok (.aload_n 2, 1) := by decide +kernel
theorem gm_d_LW_law_419 : decode gm_b_LW_law 419 = .ok (.invokevirtual 55, 3) := by decide +kernel
theorem gm_d_LW_law_422 : decode gm_b_LW_law 422 = .ok (.iload 5, 2) := by decide +kernel
theorem gm_d_LW_law_424 : decode gm_b_LW_law 424 = .ok (.if_icmp .eq 5, 3) := by decide +kernel
theorem gm_d_LW_law_427 : decode gm_b_LW_law 427 = .ok (.iconst 0, 1) := by decide +kernel
theorem gm_d_LW_law_428 : decode gm_b_LW_law 428 = .ok (.ireturn, 1) := by decide +kernel
theorem gm_d_LW_law_429 : decode gm_b_LW_law 429 = .ok (.iload 5, 2) := by decide +kernel
theorem gm_d_LW_law_431 : decode gm_b_LW_law 431 = .ok (.ifCond .ne 15, 3) := by decide +kernel
theorem gm_d_LW_law_434 : decode gm_b_LW_law 434 = .ok (.aload_n 3, 1) := by decide +kernel
theorem gm_d_LW_law_435 : decode gm_b_LW_law 435 = .ok (.iconst 0, 1) := by decide +kernel
theorem gm_d_LW_law_436 : decode gm_b_LW_law 436 = .ok (.laload, 1) := by decide +kernel
theorem gm_d_LW_law_437 : decode gm_b_LW_law 437 = .ok (.iload 6, 2) := by decide +kernel
theorem gm_d_LW_law_439 : decode gm_b_LW_law 439 = .ok (.i2l, 1) := by decide +kernel
theorem gm_d_LW_law_440 : decode gm_b_LW_law 440 = .ok (.lcmp, 1) := by decide +kernel
theorem gm_d_LW_law_441 : decode gm_b_LW_law 441 = .ok (.ifCond .eq 5, 3) := by decide +kernel
theorem gm_d_LW_law_444 : decode gm_b_LW_law 444 = .ok (.iconst 0, 1) := by decide +kernel
theorem gm_d_LW_law_445 : decode gm_b_LW_law 445 = .ok (.ireturn, 1) := by decide +kernel
theorem gm_d_LW_law_446 : decode gm_b_LW_law 446 = .ok (.goto 97, 3) := by decide +kernel
theorem gm_d_LW_law_449 : decode gm_b_LW_law 449 = .ok (.aload_n 1, 1) := by decide +kernel
theorem gm_d_LW_law_450 : decode gm_b_LW_law 450 = .ok (.invokevirtual 82, 3) := by decide +kernel
theorem gm_d_LW_law_453 : decode gm_b_LW_law 453 = .ok (.aload_n 2, 1) := by decide +kernel
theorem gm_d_LW_law_454 : decode gm_b_LW_law 454 = .ok (.invokevirtual 85, 3) := by decide +kernel
theorem gm_d_LW_law_457 : decode gm_b_LW_law 457 = .ok (.if_icmp .eq 86, 3) := by decide +kernel
theorem gm_d_LW_law_460 : decode gm_b_LW_law 460 = .ok (.iconst 0, 1) := by decide +kernel
theorem gm_d_LW_law_461 : decode gm_b_LW_law 461 = .ok (.ireturn, 1) := by decide +kernel
theorem gm_d_LW_law_462 : decode gm_b_LW_law 462 = .ok (.aload_n 1, 1) := by decide +kernel
theorem gm_d_LW_law_463 : decode gm_b_LW_law 463 = .ok (.invokevirtual 86, 3) := by decide +kernel
theorem gm_d_LW_law_466 : decode gm_b_LW_law 466 = .ok (.aload_n 2, 1) := by decide +kernel
theorem gm_d_LW_law_467 : decode gm_b_LW_law 467 = .ok (.invokevirtual 89, 3) := by decide +kernel
theorem gm_d_LW_law_470 : decode gm_b_LW_law 470 = .ok (.if_icmp .eq 73, 3) := by decide +kernel
theorem gm_d_LW_law_473 : decode gm_b_LW_law 473 = .ok (.iconst 0, 1) := by decide +kernel
theorem gm_d_LW_law_474 : decode gm_b_LW_law 474 = .ok (.ireturn, 1) := by decide +kernel
theorem gm_d_LW_law_475 : decode gm_b_LW_law 475 = .ok (.aload_n 1, 1) := by decide +kernel
theorem gm_d_LW_law_476 : decode gm_b_LW_law 476 = .ok (.aload_n 0, 1) := by decide +kernel
theorem gm_d_LW_law_477 : decode gm_b_LW_law 477 = .ok (.iload 4, 2) := by decide +kernel
theorem gm_d_LW_law_479 : decode gm_b_LW_law 479 = .ok (.iconst 1, 1) := by decide +kernel
theorem gm_d_LW_law_480 : decode gm_b_LW_law 480 = .ok (.iadd, 1) := by decide +kernel
theorem gm_d_LW_law_481 : decode gm_b_LW_law 481 = .ok (.iaload, 1) := by decide +kernel
theorem gm_d_LW_law_482 : decode gm_b_LW_law 482 = .ok (.aload_n 0, 1) := by decide +kernel
theorem gm_d_LW_law_483 : decode gm_b_LW_law 483 = .ok (.iload 4, 2) := by decide +kernel
theorem gm_d_LW_law_485 : decode gm_b_LW_law 485 = .ok (.iconst 2, 1) := by decide +kernel
theorem gm_d_LW_law_486 : decode gm_b_LW_law 486 = .ok (.iadd, 1) := by decide +kernel
theorem gm_d_LW_law_487 : decode gm_b_LW_law 487 = .ok (.iaload, 1) := by decide +kernel
theorem gm_d_LW_law_488 : decode gm_b_LW_law 488 = .ok (.aload_n 3, 1) := by decide +kernel
theorem gm_d_LW_law_489 : decode gm_b_LW_law 489 = .ok (.invokestatic 90, 3) := by decide +kernel
theorem gm_d_LW_law_492 : decode gm_b_LW_law 492 = .ok (.istore 5, 2) := by decide +kernel
theorem gm_d_LW_law_494 : decode gm_b_LW_law 494 = .ok (.aload_n 2, 1) := by decide +kernel
theorem gm_d_LW_law_495 : decode gm_b_LW_law 495 = .ok (.aload_n 0, 1) := by decide +kernel
theorem gm_d_LW_law_496 : decode gm_b_LW_law 496 = .ok (.iload 4, 2) := by decide +kernel
theorem gm_d_LW_law_498 : decode gm_b_LW_law 498 = .ok (.iconst 1, 1) := by decide +kernel
theorem gm_d_LW_law_499 : decode gm_b_LW_law 499 = .ok (.iadd, 1) := by decide +kernel
theorem gm_d_LW_law_500 : decode gm_b_LW_law 500 = .ok (.iaload, 1) := by decide +kernel
theorem gm_d_LW_law_501 : decode gm_b_LW_law 501 = .ok (.aload_n 0, 1) := by decide +kernel
theorem gm_d_LW_law_502 : decode gm_b_LW_law 502 = .ok (.iload 4, 2) := by decide +kernel
theorem gm_d_LW_law_504 : decode gm_b_LW_law 504 = .ok (.iconst 2, 1) := by decide +kernel
theorem gm_d_LW_law_505 : decode gm_b_LW_law 505 = .ok (.iadd, 1) := by decide +kernel
theorem gm_d_LW_law_506 : decode gm_b_LW_law 506 = .ok (.iaload, 1) := by decide +kernel
theorem gm_d_LW_law_507 : decode gm_b_LW_law 507 = .ok (.invokevirtual 93, 3) := by decide +kernel
theorem gm_d_LW_law_510 : decode gm_b_LW_law 510 = .ok (.istore 6, 2) := by decide +kernel
theorem gm_d_LW_law_512 : decode gm_b_LW_law 512 = .ok (.aload_n 2, 1) := by decide +kernel
theorem gm_d_LW_law_513 : decode gm_b_LW_law 513 = .ok (.invokevirtual 55, 3) := by decide +kernel
theorem gm_d_LW_law_516 : decode gm_b_LW_law 516 = .ok (.iload 5, 2) := by decide +kernel
theorem gm_d_LW_law_518 : decode gm_b_LW_law 518 = .ok (.if_icmp .eq 5, 3) := by decide +kernel
theorem gm_d_LW_law_521 : decode gm_b_LW_law 521 = .ok (.iconst 0, 1) := by decide +kernel
theorem gm_d_LW_law_522 : decode gm_b_LW_law 522 = .ok (.ireturn, 1) := by decide +kernel
theorem gm_d_LW_law_523 : decode gm_b_LW_law 523 = .ok (.iload 5, 2) := by decide +kernel
theorem gm_d_LW_law_525 : decode gm_b_LW_law 525 = .ok (.ifCond .ne 15, 3) := by decide +kernel
theorem gm_d_LW_law_528 : decode gm_b_LW_law 528 = .ok (.aload_n 3, 1) := by decide +kernel
theorem gm_d_LW_law_529 : decode gm_b_LW_law 529 = .ok (.iconst 0, 1) := by decide +kernel
theorem gm_d_LW_law_530 : decode gm_b_LW_law 530 = .ok (.laload, 1) := by decide +kernel
theorem gm_d_LW_law_531 : decode gm_b_LW_law 531 = .ok (.iload 6, 2) := by decide +kernel
theorem gm_d_LW_law_533 : decode gm_b_LW_law 533 = .ok (.i2l, 1) := by decide +kernel
theorem gm_d_LW_law_534 : decode gm_b_LW_law 534 = .ok (.lcmp, 1) := by decide +kernel
theorem gm_d_LW_law_535 : decode gm_b_LW_law 535 = .ok (.ifCond .eq 5, 3) := by decide +kernel
theorem gm_d_LW_law_538 : decode gm_b_LW_law 538 = .ok (.iconst 0, 1) := by decide +kernel
theorem gm_d_LW_law_539 : decode gm_b_LW_law 539 = .ok (.ireturn, 1) := by decide +kernel
theorem gm_d_LW_law_540 : decode gm_b_LW_law 540 = .ok (.goto 3, 3) := by decide +kernel
theorem gm_d_LW_law_543 : decode gm_b_LW_law 543 = .ok (.iinc 4 3, 3) := by decide +kernel
theorem gm_d_LW_law_546 : decode gm_b_LW_law 546 = .ok (.goto (-523), 3) := by decide +kernel
theorem gm_d_LW_law_549 : decode gm_b_LW_law 549 = .ok (.iconst 1, 1) := by decide +kernel
theorem gm_d_LW_law_550 : decode gm_b_LW_law 550 = .ok (.ireturn, 1) := by decide +kernel
