theorem gm_l_LW_8 : Cond.classLink gm_R_LW 8 gm_R_GM ∈ gm_W := gm_in (List.mem_append_right _ (List.mem_append_left _ (List.mem_of_getElem? (i := 20) rfl))) rfl
theorem gm_l_LW_37 : Cond.methodLink gm_R_LW 37 gm_y_GM_init ∈ gm_W := gm_in (List.mem_append_right _ (List.mem_append_left _ (List.mem_of_getElem? (i := 22) rfl))) rfl
theorem gm_l_LW_38 : Cond.classLink gm_R_LW 38 gm_R_MD ∈ gm_W := gm_in (List.mem_append_right _ (List.mem_append_right _ (List.mem_append_right _ (List.mem_append_right _ (List.mem_append_left _ (List.mem_of_getElem? (i := 134) rfl)))))) rfl
theorem gm_l_LW_40 : Cond.methodLink gm_R_LW 40 gm_y_MD_init ∈ gm_W := gm_in (List.mem_append_right _ (List.mem_append_right _ (List.mem_append_right _ (List.mem_append_right _ (List.mem_append_left _ (List.mem_of_getElem? (i := 136) rfl)))))) rfl
theorem gm_l_LW_41 : Cond.methodLink gm_R_LW 41 gm_y_GM_type ∈ gm_W := gm_in (List.mem_append_right _ (List.mem_append_right _ (List.mem_append_left _ (List.mem_of_getElem? (i := 86) rfl)))) rfl
theorem gm_l_LW_44 : Cond.methodLink gm_R_LW 44 gm_y_MD_type ∈ gm_W := gm_in (List.mem_append_right _ (List.mem_append_right _ (List.mem_append_right _ (List.mem_append_right _ (List.mem_append_right _ (List.mem_append_left _ (List.mem_of_getElem? (i := 40) rfl))))))) rfl
theorem gm_l_LW_45 : Cond.methodLink gm_R_LW 45 gm_y_GM_wipe ∈ gm_W := gm_in (List.mem_append_right _ (List.mem_append_right _ (List.mem_append_left _ (List.mem_of_getElem? (i := 94) rfl)))) rfl
theorem gm_l_LW_48 : Cond.methodLink gm_R_LW 48 gm_y_MD_wipe ∈ gm_W := gm_in (List.mem_append_right _ (List.mem_append_right _ (List.mem_append_right _ (List.mem_append_right _ (List.mem_append_right _ (List.mem_append_left _ (List.mem_of_getElem? (i := 44) rfl))))))) rfl
theorem gm_l_LW_49 : Cond.methodLink gm_R_LW 49 gm_y_LW_compile ∈ gm_W := gm_in (List.mem_append_right _ (List.mem_append_right _ (List.mem_append_left _ (List.mem_of_getElem? (i := 118) rfl)))) rfl
theorem gm_l_LW_54 : Cond.methodLink gm_R_LW 54 gm_y_MD_compile ∈ gm_W := gm_in (List.mem_append_right _ (List.mem_append_right _ (List.mem_append_right _ (List.mem_append_right _ (List.mem_append_right _ (List.mem_append_left _ (List.mem_of_getElem? (i := 48) rfl))))))) rfl
theorem gm_l_LW_55 : Cond.methodLink gm_R_LW 55 gm_y_GM_fault ∈ gm_W := gm_in (List.mem_append_right _ (List.mem_append_right _ (List.mem_append_left _ (List.mem_of_getElem? (i := 98) rfl)))) rfl
theorem gm_l_LW_58 : Cond.methodLink gm_R_LW 58 gm_y_MD_fault ∈ gm_W := gm_in (List.mem_append_right _ (List.mem_append_right _ (List.mem_append_right _ (List.mem_append_right _ (List.mem_append_right _ (List.mem_append_left _ (List.mem_of_getElem? (i := 151) rfl))))))) rfl
theorem gm_l_LW_59 : Cond.methodLink gm_R_LW 59 gm_y_LW_empty ∈ gm_W := gm_in (List.mem_append_right _ (List.mem_append_right _ (List.mem_append_right _ (List.mem_append_left _ (List.mem_of_getElem? (i := 199) rfl))))) rfl
theorem gm_l_LW_62 : Cond.methodLink gm_R_LW 62 gm_y_MD_empty ∈ gm_W := gm_in (List.mem_append_right _ (List.mem_append_right _ (List.mem_append_right _ (List.mem_append_right _ (List.mem_append_right _ (List.mem_append_left _ (List.mem_of_getElem? (i := 155) rfl))))))) rfl
theorem gm_l_LW_63 : Cond.methodLink gm_R_LW 63 gm_y_MD_thrown ∈ gm_W := gm_in (List.mem_append_right _ (List.mem_append_right _ (List.mem_append_right _ (List.mem_append_right _ (List.mem_append_right _ (List.mem_append_left _ (List.mem_of_getElem? (i := 36) rfl))))))) rfl
theorem gm_l_LW_66 : Cond.methodLink gm_R_LW 66 gm_y_LW_head ∈ gm_W := gm_in (List.mem_append_right _ (List.mem_append_right _ (List.mem_append_right _ (List.mem_append_left _ (List.mem_of_getElem? (i := 225) rfl))))) rfl
theorem gm_l_LW_69 : Cond.methodLink gm_R_LW 69 gm_y_MD_head ∈ gm_W := gm_in (List.mem_append_right _ (List.mem_append_right _ (List.mem_append_right _ (List.mem_append_right _ (List.mem_append_right _ (List.mem_append_left _ (List.mem_of_getElem? (i := 163) rfl))))))) rfl
theorem gm_l_LW_70 : Cond.methodLink gm_R_LW 70 gm_y_GM_feed ∈ gm_W := gm_in (List.mem_append_right _ (List.mem_append_right _ (List.mem_append_left _ (List.mem_of_getElem? (i := 102) rfl)))) rfl
theorem gm_l_LW_73 : Cond.methodLink gm_R_LW 73 gm_y_MD_feed ∈ gm_W := gm_in (List.mem_append_right _ (List.mem_append_right _ (List.mem_append_right _ (List.mem_append_right _ (List.mem_append_right _ (List.mem_append_left _ (List.mem_of_getElem? (i := 171) rfl))))))) rfl
theorem gm_l_LW_74 : Cond.methodLink gm_R_LW 74 gm_y_GM_clear ∈ gm_W := gm_in (List.mem_append_right _ (List.mem_append_right _ (List.mem_append_left _ (List.mem_of_getElem? (i := 106) rfl)))) rfl
theorem gm_l_LW_77 : Cond.methodLink gm_R_LW 77 gm_y_MD_clear ∈ gm_W := gm_in (List.mem_append_right _ (List.mem_append_right _ (List.mem_append_right _ (List.mem_append_right _ (List.mem_append_right _ (List.mem_append_left _ (List.mem_of_getElem? (i := 175) rfl))))))) rfl
theorem gm_l_LW_78 : Cond.methodLink gm_R_LW 78 gm_y_LW_match ∈ gm_W := gm_in (List.mem_append_right _ (List.mem_append_right _ (List.mem_append_right _ (List.mem_append_left _ (List.mem_of_getElem? (i := 236) rfl))))) rfl
theorem gm_l_LW_81 : Cond.methodLink gm_R_LW 81 gm_y_MD_match ∈ gm_W := gm_in (List.mem_append_right _ (List.mem_append_right _ (List.mem_append_right _ (List.mem_append_right _ (List.mem_append_right _ (List.mem_append_left _ (List.mem_of_getElem? (i := 179) rfl))))))) rfl
theorem gm_l_LW_82 : Cond.methodLink gm_R_LW 82 gm_y_GM_work ∈ gm_W := gm_in (List.mem_append_right _ (List.mem_append_right _ (List.mem_append_left _ (List.mem_of_getElem? (i := 110) rfl)))) rfl
theorem gm_l_LW_85 : Cond.methodLink gm_R_LW 85 gm_y_MD_work ∈ gm_W := gm_in (List.mem_append_right _ (List.mem_append_right _ (List.mem_append_right _ (List.mem_append_right _ (List.mem_append_right _ (List.mem_append_right _ (List.mem_of_getElem? (i := 15) rfl))))))) rfl
theorem gm_l_LW_86 : Cond.methodLink gm_R_LW 86 gm_y_GM_nodes ∈ gm_W := gm_in (List.mem_append_right _ (List.mem_append_right _ (List.mem_append_left _ (List.mem_of_getElem? (i := 114) rfl)))) rfl
theorem gm_l_LW_89 : Cond.methodLink gm_R_LW 89 gm_y_MD_nodes ∈ gm_W := gm_in (List.mem_append_right _ (List.mem_append_right _ (List.mem_append_right _ (List.mem_append_right _ (List.mem_append_right _ (List.mem_append_right _ (List.mem_of_getElem? (i := 19) rfl))))))) rfl
theorem gm_l_LW_90 : Cond.methodLink gm_R_LW 90 gm_y_LW_node ∈ gm_W := gm_in (List.mem_append_right _ (List.mem_append_right _ (List.mem_append_right _ (List.mem_append_right _ (List.mem_append_left _ (List.mem_of_getElem? (i := 121) rfl)))))) rfl
theorem gm_l_LW_93 : Cond.methodLink gm_R_LW 93 gm_y_MD_node ∈ gm_W := gm_in (List.mem_append_right _ (List.mem_append_right _ (List.mem_append_right _ (List.mem_append_right _ (List.mem_append_right _ (List.mem_append_right _ (List.mem_of_getElem? (i := 23) rfl))))))) rfl
theorem gm_d_LW_law_0 : decode gm_b_LW_law 0 = .ok (.new 8, 3) := by decide +kernel
theorem gm_d_LW_law_3 : decode gm_b_LW_law 3 = .ok (.dup, 1) := by decide +kernel
theorem gm_d_LW_law_4 : decode gm_b_LW_law 4 = .ok (.invokespecial 37, 3) := by decide +kernel
theorem gm_d_LW_law_7 : decode gm_b_LW_law 7 = .ok (.astore_n 1, 1) := by decide +kernel
theorem gm_d_LW_law_8 : decode gm_b_LW_law 8 = .ok (.new 38, 3) := by decide +kernel
theorem gm_d_LW_law_11 : decode gm_b_LW_law 11 = .ok (.dup, 1) := by decide +kernel
theorem gm_d_LW_law_12 : decode gm_b_LW_law 12 = .ok (.invokespecial 40, 3) := by decide +kernel
theorem gm_d_LW_law_15 : decode gm_b_LW_law 15 = .ok (.astore_n 2, 1) := by decide +kernel
theorem gm_d_LW_law_16 : decode gm_b_LW_law 16 = .ok (.iconst 1, 1) := by decide +kernel
theorem gm_d_LW_law_17 : decode gm_b_LW_law 17 = .ok (.newarray .long, 2) := by decide +kernel
theorem gm_d_LW_law_19 : decode gm_b_LW_law 19 = .ok (.astore_n 3, 1) := by decide +kernel
theorem gm_d_LW_law_20 : decode gm_b_LW_law 20 = .ok (.iconst 0, 1) := by decide +kernel
theorem gm_d_LW_law_21 : decode gm_b_LW_law 21 = .ok (.istore 4, 2) := by decide +kernel
theorem gm_d_LW_law_23 : decode gm_b_LW_law 23 = .ok (.iload 4, 2) := by decide +kernel
theorem gm_d_LW_law_25 : decode gm_b_LW_law 25 = .ok (.aload_n 0, 1) := by decide +kernel
theorem gm_d_LW_law_26 : decode gm_b_LW_law 26 = .ok (.arraylength, 1) := by decide +kernel
theorem gm_d_LW_law_27 : decode gm_b_LW_law 27 = .ok (.iconst 3, 1) := by decide +kernel
theorem gm_d_LW_law_28 : decode gm_b_LW_law 28 = .ok (.isub, 1) := by decide +kernel
theorem gm_d_LW_law_29 : decode gm_b_LW_law 29 = .ok (.if_icmp .gt 401, 3) := by decide +kernel
theorem gm_d_LW_law_32 : decode gm_b_LW_law 32 = .ok (.aload_n 0, 1) := by decide +kernel
theorem gm_d_LW_law_33 : decode gm_b_LW_law 33 = .ok (.iload 4, 2) := by decide +kernel
theorem gm_d_LW_law_35 : decode gm_b_LW_law 35 = .ok (.iaload, 1) := by decide +kernel
theorem gm_d_LW_law_36 : decode gm_b_LW_law 36 = .ok (.bipush 15, 2) := by decide +kernel
theorem gm_d_LW_law_38 : decode gm_b_LW_law 38 = .ok (.iand, 1) := by decide +kernel
theorem gm_d_LW_law_39 : decode gm_b_LW_law 39 = .ok (.tableswitch 385 0 11 #[61, 88, 99, 115, 128, 193, 237, 264, 275, 319, 332, 345], 61) := by decide +kernel
theorem gm_d_LW_law_100 : decode gm_b_LW_law 100 = .ok (.aload_n 1, 1) := by decide +kernel
theorem gm_d_LW_law_101 : decode gm_b_LW_law 101 = .ok (.aload_n 0, 1) := by decide +kernel
theorem gm_d_LW_law_102 : decode gm_b_LW_law 102 = .ok (.iload 4, 2) := by decide +kernel
theorem gm_d_LW_law_104 : decode gm_b_LW_law 104 = .ok (.iconst 1, 1) := by decide +kernel
theorem gm_d_LW_law_105 : decode gm_b_LW_law 105 = .ok (.iadd, 1) := by decide +kernel
theorem gm_d_LW_law_106 : decode gm_b_LW_law 106 = .ok (.iaload, 1) := by decide +kernel
theorem gm_d_LW_law_107 : decode gm_b_LW_law 107 = .ok (.i2c, 1) := by decide +kernel
theorem gm_d_LW_law_108 : decode gm_b_LW_law 108 = .ok (.invokevirtual 41, 3) := by decide +kernel
theorem gm_d_LW_law_111 : decode gm_b_LW_law 111 = .ok (.pop, 1) := by decide +kernel
theorem gm_d_LW_law_112 : decode gm_b_LW_law 112 = .ok (.aload_n 2, 1) := by decide +kernel
theorem gm_d_LW_law_113 : decode gm_b_LW_law 113 = .ok (.aload_n 0, 1) := by decide +kernel
theorem gm_d_LW_law_114 : decode gm_b_LW_law 114 = .ok (.iload 4, 2) := by decide +kernel
theorem gm_d_LW_law_116 : decode gm_b_LW_law 116 = .ok (.iconst 1, 1) := by decide +kernel
theorem gm_d_LW_law_117 : decode gm_b_LW_law 117 = .ok (.iadd, 1) := by decide +kernel
theorem gm_d_LW_law_118 : decode gm_b_LW_law 118 = .ok (.iaload, 1) := by decide +kernel
theorem gm_d_LW_law_119 : decode gm_b_LW_law 119 = .ok (.i2c, 1) := by decide +kernel
theorem gm_d_LW_law_120 : decode gm_b_LW_law 120 = .ok (.invokevirtual 44, 3) := by decide +kernel
theorem gm_d_LW_law_123 : decode gm_b_LW_law 123 = .ok (.pop, 1) := by decide +kernel
theorem gm_d_LW_law_124 : decode gm_b_LW_law 124 = .ok (.goto 300, 3) := by decide +kernel
theorem gm_d_LW_law_127 : decode gm_b_LW_law 127 = .ok (.aload_n 1, 1) := by decide +kernel
theorem gm_d_LW_law_128 : decode gm_b_LW_law 128 = .ok (.invokevirtual 45, 3) := by decide +kernel
theorem gm_d_LW_law_131 : decode gm_b_LW_law 131 = .ok (.aload_n 2, 1) := by decide +kernel
theorem gm_d_LW_law_132 : decode gm_b_LW_law 132 = .ok (.invokevirtual 48, 3) := by decide +kernel
theorem gm_d_LW_law_135 : decode gm_b_LW_law 135 = .ok (.goto 289, 3) := by decide +kernel
theorem gm_d_LW_law_138 : decode gm_b_LW_law 138 = .ok (.aload_n 1, 1) := by decide +kernel
theorem gm_d_LW_law_139 : decode gm_b_LW_law 139 = .ok (.aload_n 3, 1) := by decide +kernel
theorem gm_d_LW_law_140 : decode gm_b_LW_law 140 = .ok (.invokestatic 49, 3) := by decide +kernel
theorem gm_d_LW_law_143 : decode gm_b_LW_law 143 = .ok (.istore 5, 2) := by decide +kernel
theorem gm_d_LW_law_145 : decode gm_b_LW_law 145 = .ok (.aload_n 2, 1) := by decide +kernel
theorem gm_d_LW_law_146 : decode gm_b_LW_law 146 = .ok (.invokevirtual 54, 3) := by decide +kernel
theorem gm_d_LW_law_149 : decode gm_b_LW_law 149 = .ok (.istore 6, 2) := by decide +kernel
theorem gm_d_LW_law_151 : decode gm_b_LW_law 151 = .ok (.goto 273, 3) := by decide +kernel
theorem gm_d_LW_law_154 : decode gm_b_LW_law 154 = .ok (.aload_n 1, 1) := by decide +kernel
theorem gm_d_LW_law_155 : decode gm_b_LW_law 155 = .ok (.invokevirtual 55, 3) := by decide +kernel
theorem gm_d_LW_law_158 : decode gm_b_LW_law 158 = .ok (.pop, 1) := by decide +kernel
theorem gm_d_LW_law_159 : decode gm_b_LW_law 159 = .ok (.aload_n 2, 1) := by decide +kernel
theorem gm_d_LW_law_160 : decode gm_b_LW_law 160 = .ok (.invokevirtual 58, 3) := by decide +kernel
theorem gm_d_LW_law_163 : decode gm_b_LW_law 163 = .ok (.pop, 1) := by decide +kernel
theorem gm_d_LW_law_164 : decode gm_b_LW_law 164 = .ok (.goto 260, 3) := by decide +kernel
theorem gm_d_LW_law_167 : decode gm_b_LW_law 167 = .ok (.aload_n 1, 1) := by decide +kernel
theorem gm_d_LW_law_168 : decode gm_b_LW_law 168 = .ok (.aload_n 0, 1) := by decide +kernel
theorem gm_d_LW_law_169 : decode gm_b_LW_law 169 = .ok (.iload 4, 2) := by decide +kernel
theorem gm_d_LW_law_171 : decode gm_b_LW_law 171 = .ok (.iconst 1, 1) := by decide +kernel
theorem gm_d_LW_law_172 : decode gm_b_LW_law 172 = .ok (.iadd, 1) := by decide +kernel
theorem gm_d_LW_law_173 : decode gm_b_LW_law 173 = .ok (.iaload, 1) := by decide +kernel
theorem gm_d_LW_law_174 : decode gm_b_LW_law 174 = .ok (.i2c, 1) := by decide +kernel
theorem gm_d_LW_law_175 : decode gm_b_LW_law 175 = .ok (.aload_n 3, 1) := by decide +kernel
theorem gm_d_LW_law_176 : decode gm_b_LW_law 176 = .ok (.invokestatic 59, 3) := by decide +kernel
theorem gm_d_LW_law_179 : decode gm_b_LW_law 179 = .ok (.istore 5, 2) := by decide +kernel
theorem gm_d_LW_law_181 : decode gm_b_LW_law 181 = .ok (.aload_n 2, 1) := by decide +kernel
theorem gm_d_LW_law_182 : decode gm_b_LW_law 182 = .ok (.aload_n 0, 1) := by decide +kernel
theorem gm_d_LW_law_183 : decode gm_b_LW_law 183 = .ok (.iload 4, 2) := by decide +kernel
theorem gm_d_LW_law_185 : decode gm_b_LW_law 185 = .ok (.iconst 1, 1) := by decide +kernel
theorem gm_d_LW_law_186 : decode gm_b_LW_law 186 = .ok (.iadd, 1) := by decide +kernel
theorem gm_d_LW_law_187 : decode gm_b_LW_law 187 = .ok (.iaload, 1) := by decide +kernel
theorem gm_d_LW_law_188 : decode gm_b_LW_law 188 = .ok (.i2c, 1) := by decide +kernel
theorem gm_d_LW_law_189 : decode gm_b_LW_law 189 = .ok (.invokevirtual 62, 3) := by decide +kernel
theorem gm_d_LW_law_192 : decode gm_b_LW_law 192 = .ok (.istore 6, 2) := by decide +kernel
theorem gm_d_LW_law_194 : decode gm_b_LW_law 194 = .ok (.aload_n 2, 1) := by decide +kernel
theorem gm_d_LW_law_195 : decode gm_b_LW_law 195 = .ok (.invokevirtual 63, 3) := by decide +kernel
theorem gm_d_LW_law_198 : decode gm_b_LW_law 198 = .ok (.iload 5, 2) := by decide +kernel
theorem gm_d_LW_law_200 : decode gm_b_LW_law 200 = .ok (.if_icmp .eq 5, 3) := by decide +kernel
theorem gm_d_LW_law_203 : decode gm_b_LW_law 203 = .ok (.iconst 0, 1) := by decide +kernel
theorem gm_d_LW_law_204 : decode gm_b_LW_law 204 = .ok (.ireturn, 1) := by decide +kernel
theorem gm_d_LW_law_205 : decode gm_b_LW_law 205 = .ok (.iload 5, 2) := by decide +kernel
theorem gm_d_LW_law_207 : decode gm_b_LW_law 207 = .ok (.ifCond .ne 22, 3) := by decide +kernel
theorem gm_d_LW_law_210 : decode gm_b_LW_law 210 = .ok (.aload_n 3, 1) := by decide +kernel
theorem gm_d_LW_law_211 : decode gm_b_LW_law 211 = .ok (.iconst 0, 1) := by decide +kernel
theorem gm_d_LW_law_212 : decode gm_b_LW_law 212 = .ok (.laload, 1) := by decide +kernel
theorem gm_d_LW_law_213 : decode gm_b_LW_law 213 = .ok (.iload 6, 2) := by decide +kernel
theorem gm_d_LW_law_215 : decode gm_b_LW_law 215 = .ok (.ifCond .eq 7, 3) := by decide +kernel
theorem gm_d_LW_law_218 : decode gm_b_LW_law 218 = .ok (.lconst 1, 1) := by decide +kernel
theorem gm_d_LW_law_219 : decode gm_b_LW_law 219 = .ok (.goto 4, 3) := by decide +kernel
theorem gm_d_LW_law_222 : decode gm_b_LW_law 222 = .ok (.lconst 0, 1) := by decide +kernel
theorem gm_d_LW_law_223 : decode gm_b_LW_law 223 = .ok (.lcmp, 1) := by decide +kernel
theorem gm_d_LW_law_224 : decode gm_b_LW_law 224 = .ok (.ifCond .eq 5, 3) := by decide +kernel
theorem gm_d_LW_law_227 : decode gm_b_LW_law 227 = .ok (.iconst 0, 1) := by decide +kernel
theorem gm_d_LW_law_228 : decode gm_b_LW_law 228 = .ok (.ireturn, 1) := by decide +kernel
theorem gm_d_LW_law_229 : decode gm_b_LW_law 229 = .ok (.goto 195, 3) := by decide +kernel
theorem gm_d_LW_law_232 : decode gm_b_LW_law 232 = .ok (.aload_n 1, 1) := by decide +kernel
theorem gm_d_LW_law_233 : decode gm_b_LW_law 233 = .ok (.aload_n 0, 1) := by decide +kernel
theorem gm_d_LW_law_234 : decode gm_b_LW_law 234 = .ok (.iload 4, 2) := by decide +kernel
theorem gm_d_LW_law_236 : decode gm_b_LW_law 236 = .ok (.iconst 1, 1) := by decide +kernel
theorem gm_d_LW_law_237 : decode gm_b_LW_law 237 = .ok (.iadd, 1) := by decide +kernel
theorem gm_d_LW_law_238 : decode gm_b_LW_law 238 = .ok (.iaload, 1) := by decide +kernel
theorem gm_d_LW_law_239 : decode gm_b_LW_law 239 = .ok (.i2c, 1) := by decide +kernel
theorem gm_d_LW_law_240 : decode gm_b_LW_law 240 = .ok (.aload_n 0, 1) := by decide +kernel
theorem gm_d_LW_law_241 : decode gm_b_LW_law 241 = .ok (.iload 4, 2) := by decide +kernel
theorem gm_d_LW_law_243 : decode gm_b_LW_law 243 = .ok (.iconst 2, 1) := by decide +kernel
theorem gm_d_LW_law_244 : decode gm_b_LW_law 244 = .ok (.iadd, 1) := by decide +kernel
theorem gm_d_LW_law_245 : decode gm_b_LW_law 245 = .ok (.iaload, 1) := by decide +kernel
theorem gm_d_LW_law_246 : decode gm_b_LW_law 246 = .ok (.i2c, 1) := by decide +kernel
theorem gm_d_LW_law_247 : decode gm_b_LW_law 247 = .ok (.aload_n 3, 1) := by decide +kernel
theorem gm_d_LW_law_248 : decode gm_b_LW_law 248 = .ok (.invokestatic 66, 3) := by decide +kernel
theorem gm_d_LW_law_251 : decode gm_b_LW_law 251 = .ok (.istore 5, 2) := by decide +kernel
theorem gm_d_LW_law_253 : decode gm_b_LW_law 253 = .ok (.aload_n 2, 1) := by decide +kernel
theorem gm_d_LW_law_254 : decode gm_b_LW_law 254 = .ok (.aload_n 0, 1) := by decide +kernel
theorem gm_d_LW_law_255 : decode gm_b_LW_law 255 = .ok (.iload 4, 2) := by decide +kernel
theorem gm_d_LW_law_257 : decode gm_b_LW_law 257 = .ok (.iconst 1, 1) := by decide +kernel
theorem gm_d_LW_law_258 : decode gm_b_LW_law 258 = .ok (.iadd, 1) := by decide +kernel
theorem gm_d_LW_law_259 : decode gm_b_LW_law 259 = .ok (.iaload, 1) := by decide +kernel
theorem gm_d_LW_law_260 : decode gm_b_LW_law 260 = .ok (.i2c, 1) := by decide +kernel
theorem gm_d_LW_law_261 : decode gm_b_LW_law 261 = .ok (.aload_n 0, 1) := by decide +kernel
theorem gm_d_LW_law_262 : decode gm_b_LW_law 262 = .ok (.iload 4, 2) := by decide +kernel
theorem gm_d_LW_law_264 : decode gm_b_LW_law 264 = .ok (.iconst 2, 1) := by decide +kernel
theorem gm_d_LW_law_265 : decode gm_b_LW_law 265 = .ok (.iadd, 1) := by decide +kernel
theorem gm_d_LW_law_266 : decode gm_b_LW_law 266 = .ok (.iaload, 1) := by decide +kernel
theorem gm_d_LW_law_267 : decode gm_b_LW_law 267 = .ok (.i2c, 1) := by decide +kernel
theorem gm_d_LW_law_268 : decode gm_b_LW_law 268 = .ok (.invokevirtual 69, 3) := by decide +kernel
theorem gm_d_LW_law_271 : decode gm_b_LW_law 271 = .ok (.istore 6, 2) := by decide +kernel
theorem gm_d_LW_law_273 : decode gm_b_LW_law 273 = .ok (.goto 151, 3) := by decide +kernel
theorem gm_d_LW_law_276 : decode gm_b_LW_law 276 = .ok (.aload_n 1, 1) := by decide +kernel
theorem gm_d_LW_law_277 : decode gm_b_LW_law 277 = .ok (.aload_n 0, 1) := by decide +kernel
theorem gm_d_LW_law_278 : decode gm_b_LW_law 278 = .ok (.iload 4, 2) := by decide +kernel
theorem gm_d_LW_law_280 : decode gm_b_LW_law 280 = .ok (.iconst 1, 1) := by decide +kernel
theorem gm_d_LW_law_281 : decode gm_b_LW_law 281 = .ok (.iadd, 1) := by decide +kernel
theorem gm_d_LW_law_282 : decode gm_b_LW_law 282 = .ok (.iaload, 1) := by decide +kernel
theorem gm_d_LW_law_283 : decode gm_b_LW_law 283 = .ok (.i2c, 1) := by decide +kernel
theorem gm_d_LW_law_284 : decode gm_b_LW_law 284 = .ok (.invokevirtual 70, 3) := by decide +kernel
theorem gm_d_LW_law_287 : decode gm_b_LW_law 287 = .ok (.pop, 1) := by decide +kernel
theorem gm_d_LW_law_288 : decode gm_b_LW_law 288 = .ok (.aload_n 2, 1) := by decide +kernel
theorem gm_d_LW_law_289 : decode gm_b_LW_law 289 = .ok (.aload_n 0, 1) := by decide +kernel
theorem gm_d_LW_law_290 : decode gm_b_LW_law 290 = .ok (.iload 4, 2) := by decide +kernel
theorem gm_d_LW_law_292 : decode gm_b_LW_law 292 = .ok (.iconst 1, 1) := by decide +kernel
theorem gm_d_LW_law_293 : decode gm_b_LW_law 293 = .ok (.iadd, 1) := by decide +kernel
theorem gm_d_LW_law_294 : decode gm_b_LW_law 294 = .ok (.iaload, 1) := by decide +kernel
theorem gm_d_LW_law_295 : decode gm_b_LW_law 295 = .ok (.i2c, 1) := by decide +kernel
theorem gm_d_LW_law_296 : decode gm_b_LW_law 296 = .ok (.invokevirtual 73, 3) := by decide +kernel
theorem gm_d_LW_law_299 : decode gm_b_LW_law 299 = .ok (.pop, 1) := by decide +kernel
theorem gm_d_LW_law_300 : decode gm_b_LW_law 300 = .ok (.goto 124, 3) := by decide +kernel
theorem gm_d_LW_law_303 : decode gm_b_LW_law 303 = .ok (.aload_n 1, 1) := by decide +kernel
theorem gm_d_LW_law_304 : decode gm_b_LW_law 304 = .ok (.invokevirtual 74, 3) := by decide +kernel
theorem gm_d_LW_law_307 : decode gm_b_LW_law 307 = .ok (.aload_n 2, 1) := by decide +kernel
theorem gm_d_LW_law_308 : decode gm_b_LW_law 308 = .ok (.invokevirtual 77, 3) := by decide +kernel
theorem gm_d_LW_law_311 : decode gm_b_LW_law 311 = .ok (.goto 113, 3) := by decide +kernel
theorem gm_d_LW_law_314 : decode gm_b_LW_law 314 = .ok (.aload_n 1, 1) := by decide +kernel
theorem gm_d_LW_law_315 : decode gm_b_LW_law 315 = .ok (.aload_n 0, 1) := by decide +kernel
theorem gm_d_LW_law_316 : decode gm_b_LW_law 316 = .ok (.iload 4, 2) := by decide +kernel
theorem gm_d_LW_law_318 : decode gm_b_LW_law 318 = .ok (.iconst 1, 1) := by decide +kernel
theorem gm_d_LW_law_319 : decode gm_b_LW_law 319 = .ok (.iadd, 1) := by decide +kernel
theorem gm_d_LW_law_320 : decode gm_b_LW_law 320 = .ok (.iaload, 1) := by decide +kernel
theorem gm_d_LW_law_321 : decode gm_b_LW_law 321 = .ok (.ifCond .eq 7, 3) := by decide +kernel
theorem gm_d_LW_law_324 : decode gm_b_LW_law 324 = .ok (.iconst 1, 1) := by decide +kernel
theorem gm_d_LW_law_325 : decode gm_b_LW_law 325 = .ok (.goto 4, 3) := by decide +kernel
theorem gm_d_LW_law_328 : decode gm_b_LW_law 328 = .ok (.iconst 0, 1) := by decide +kernel
theorem gm_d_LW_law_329 : decode gm_b_LW_law 329 = .ok (.aload_n 3, 1) := by decide +kernel
theorem gm_d_LW_law_330 : decode gm_b_LW_law 330 = .ok (.invokestatic 78, 3) := by decide +kernel
theorem gm_d_LW_law_333 : decode gm_b_LW_law 333 = .ok (.istore 5, 2) := by decide +kernel
theorem gm_d_LW_law_335 : decode gm_b_LW_law 335 = .ok (.aload_n 2, 1) := by decide +kernel
theorem gm_d_LW_law_336 : decode gm_b_LW_law 336 = .ok (.aload_n 0, 1) := by decide +kernel
theorem gm_d_LW_law_337 : decode gm_b_LW_law 337 = .ok (.iload 4, 2) := by decide +kernel
theorem gm_d_LW_law_339 : decode gm_b_LW_law 339 = .ok (.iconst 1, 1) := by decide +kernel
theorem gm_d_LW_law_340 : decode gm_b_LW_law 340 = .ok (.iadd, 1) := by decide +kernel
theorem gm_d_LW_law_341 : decode gm_b_LW_law 341 = .ok (.iaload, 1) := by decide +kernel
theorem gm_d_LW_law_342 : decode gm_b_LW_law 342 = .ok (.ifCond .eq 7, 3) := by decide +kernel
theorem gm_d_LW_law_345 : decode gm_b_LW_law 345 = .ok (.iconst 1, 1) := by decide +kernel
theorem gm_d_LW_law_346 : decode gm_b_LW_law 346 = .ok (.goto 4, 3) := by decide +kernel
theorem gm_d_LW_law_349 : decode gm_b_LW_law 349 = .ok (.iconst 0, 1) := by decide +kernel
theorem gm_d_LW_law_350 : decode gm_b_LW_law 350 = .ok (.invokevirtual 81, 3) := by decide +kernel
theorem gm_d_LW_law_353 : decode gm_b_LW_law 353 = .ok (.istore 6, 2) := by decide +kernel
theorem gm_d_LW_law_355 : decode gm_b_LW_law 355 = .ok (.goto 69, 3) := by decide +kernel
theorem gm_d_LW_law_358 : decode gm_b_LW_law 358 = .ok (.aload_n 1, 1) := by decide +kernel
theorem gm_d_LW_law_359 : decode gm_b_LW_law 359 = .ok (.invokevirtual 82, 3) := by decide +kernel
theorem gm_d_LW_law_362 : decode gm_b_LW_law 362 = .ok (.pop, 1) := by decide +kernel
theorem gm_d_LW_law_363 : decode gm_b_LW_law 363 = .ok (.aload_n 2, 1) := by decide +kernel
theorem gm_d_LW_law_364 : decode gm_b_LW_law 364 = .ok (.invokevirtual 85, 3) := by decide +kernel
theorem gm_d_LW_law_367 : decode gm_b_LW_law 367 = .ok (.pop, 1) := by decide +kernel
theorem gm_d_LW_law_368 : decode gm_b_LW_law 368 = .ok (.goto 56, 3) := by decide +kernel
theorem gm_d_LW_law_371 : decode gm_b_LW_law 371 = .ok (.aload_n 1, 1) := by decide +kernel
theorem gm_d_LW_law_372 : decode gm_b_LW_law 372 = .ok (.invokevirtual 86, 3) := by decide +kernel
theorem gm_d_LW_law_375 : decode gm_b_LW_law 375 = .ok (.pop, 1) := by decide +kernel
theorem gm_d_LW_law_376 : decode gm_b_LW_law 376 = .ok (.aload_n 2, 1) := by decide +kernel
theorem gm_d_LW_law_377 : decode gm_b_LW_law 377 = .ok (.invokevirtual 89, 3) := by decide +kernel
theorem gm_d_LW_law_380 : decode gm_b_LW_law 380 = .ok (.pop, 1) := by decide +kernel
theorem gm_d_LW_law_381 : decode gm_b_LW_law 381 = .ok (.goto 43, 3) := by decide +kernel
theorem gm_d_LW_law_384 : decode gm_b_LW_law 384 = .ok (.aload_n 1, 1) := by decide +kernel
theorem gm_d_LW_law_385 : decode gm_b_LW_law 385 = .ok (.aload_n 0, 1) := by decide +kernel
theorem gm_d_LW_law_386 : decode gm_b_LW_law 386 = .ok (.iload 4, 2) := by decide +kernel
theorem gm_d_LW_law_388 : decode gm_b_LW_law 388 = .ok (.iconst 1, 1) := by decide +kernel
theorem gm_d_LW_law_389 : decode gm_b_LW_law 389 = .ok (.iadd, 1) := by decide +kernel
theorem gm_d_LW_law_390 : decode gm_b_LW_law 390 = .ok (.iaload, 1) := by decide +kernel
theorem gm_d_LW_law_391 : decode gm_b_LW_law 391 = .ok (.aload_n 0, 1) := by decide +kernel
theorem gm_d_LW_law_392 : decode gm_b_LW_law 392 = .ok (.iload 4, 2) := by decide +kernel
theorem gm_d_LW_law_394 : decode gm_b_LW_law 394 = .ok (.iconst 2, 1) := by decide +kernel
theorem gm_d_LW_law_395 : decode gm_b_LW_law 395 = .ok (.iadd, 1) := by decide +kernel
theorem gm_d_LW_law_396 : decode gm_b_LW_law 396 = .ok (.iaload, 1) := by decide +kernel
theorem gm_d_LW_law_397 : decode gm_b_LW_law 397 = .ok (.aload_n 3, 1) := by decide +kernel
theorem gm_d_LW_law_398 : decode gm_b_LW_law 398 = .ok (.invokestatic 90, 3) := by decide +kernel
theorem gm_d_LW_law_401 : decode gm_b_LW_law 401 = .ok (.istore 5, 2) := by decide +kernel
theorem gm_d_LW_law_403 : decode gm_b_LW_law 403 = .ok (.aload_n 2, 1) := by decide +kernel
theorem gm_d_LW_law_404 : decode gm_b_LW_law 404 = .ok (.aload_n 0, 1) := by decide +kernel
theorem gm_d_LW_law_405 : decode gm_b_LW_law 405 = .ok (.iload 4, 2) := by decide +kernel
theorem gm_d_LW_law_407 : decode gm_b_LW_law 407 = .ok (.iconst 1, 1) := by decide +kernel
theorem gm_d_LW_law_408 : decode gm_b_LW_law 408 = .ok (.iadd, 1) := by decide +kernel
theorem gm_d_LW_law_409 : decode gm_b_LW_law 409 = .ok (.iaload, 1) := by decide +kernel
theorem gm_d_LW_law_410 : decode gm_b_LW_law 410 = .ok (.aload_n 0, 1) := by decide +kernel
theorem gm_d_LW_law_411 : decode gm_b_LW_law 411 = .ok (.iload 4, 2) := by decide +kernel
theorem gm_d_LW_law_413 : decode gm_b_LW_law 413 = .ok (.iconst 2, 1) := by decide +kernel
theorem gm_d_LW_law_414 : decode gm_b_LW_law 414 = .ok (.iadd, 1) := by decide +kernel
theorem gm_d_LW_law_415 : decode gm_b_LW_law 415 = .ok (.iaload, 1) := by decide +kernel
theorem gm_d_LW_law_416 : decode gm_b_LW_law 416 = .ok (.invokevirtual 93, 3) := by decide +kernel
theorem gm_d_LW_law_419 : decode gm_b_LW_law 419 = .ok (.istore 6, 2) := by decide +kernel
theorem gm_d_LW_law_421 : decode gm_b_LW_law 421 = .ok (.goto 3, 3) := by decide +kernel
theorem gm_d_LW_law_424 : decode gm_b_LW_law 424 = .ok (.iinc 4 3, 3) := by decide +kernel
theorem gm_d_LW_law_427 : decode gm_b_LW_law 427 = .ok (.goto (-404), 3) := by decide +kernel
theorem gm_d_LW_law_430 : decode gm_b_LW_law 430 = .ok (.iconst 1, 1) := by decide +kernel
theorem gm_d_LW_law_431 : decode gm_b_LW_law 431 = .ok (.ireturn, 1) := by decide +kernel
