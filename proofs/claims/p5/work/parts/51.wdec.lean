theorem gm_l_LW_8 : Cond.classLink gm_R_LW 8 gm_R_GM ∈ gm_W := gm_in (List.mem_append_right _ (List.mem_append_left _ (List.mem_of_getElem? (i := 20) rfl))) rfl
theorem gm_l_LW_37 : Cond.methodLink gm_R_LW 37 gm_y_GM_init ∈ gm_W := gm_in (List.mem_append_right _ (List.mem_append_left _ (List.mem_of_getElem? (i := 22) rfl))) rfl
theorem gm_l_LW_38 : Cond.classLink gm_R_LW 38 gm_R_MD ∈ gm_W := gm_in (List.mem_append_right _ (List.mem_append_right _ (List.mem_append_right _ (List.mem_append_right _ (List.mem_append_left _ (List.mem_of_getElem? (i := 134) rfl)))))) rfl
theorem gm_l_LW_40 : Cond.methodLink gm_R_LW 40 gm_y_MD_init ∈ gm_W := gm_in (List.mem_append_right _ (List.mem_append_right _ (List.mem_append_right _ (List.mem_append_right _ (List.mem_append_left _ (List.mem_of_getElem? (i := 136) rfl)))))) rfl
theorem gm_l_LW_41 : Cond.methodLink gm_R_LW 41 gm_y_GM_type ∈ gm_W := gm_in (List.mem_append_right _ (List.mem_append_right _ (List.mem_append_left _ (List.mem_of_getElem? (i := 86) rfl)))) rfl
theorem gm_l_LW_44 : Cond.methodLink gm_R_LW 44 gm_y_MD_type ∈ gm_W := gm_in (List.mem_append_right _ (List.mem_append_right _ (List.mem_append_right _ (List.mem_append_right _ (List.mem_append_right _ (List.mem_append_left _ (List.mem_of_getElem? (i := 36) rfl))))))) rfl
theorem gm_l_LW_45 : Cond.methodLink gm_R_LW 45 gm_y_GM_wipe ∈ gm_W := gm_in (List.mem_append_right _ (List.mem_append_right _ (List.mem_append_left _ (List.mem_of_getElem? (i := 94) rfl)))) rfl
theorem gm_l_LW_48 : Cond.methodLink gm_R_LW 48 gm_y_MD_wipe ∈ gm_W := gm_in (List.mem_append_right _ (List.mem_append_right _ (List.mem_append_right _ (List.mem_append_right _ (List.mem_append_right _ (List.mem_append_left _ (List.mem_of_getElem? (i := 40) rfl))))))) rfl
theorem gm_l_LW_49 : Cond.methodLink gm_R_LW 49 gm_y_LW_compile ∈ gm_W := gm_in (List.mem_append_right _ (List.mem_append_right _ (List.mem_append_left _ (List.mem_of_getElem? (i := 118) rfl)))) rfl
theorem gm_l_LW_54 : Cond.methodLink gm_R_LW 54 gm_y_MD_compile ∈ gm_W := gm_in (List.mem_append_right _ (List.mem_append_right _ (List.mem_append_right _ (List.mem_append_right _ (List.mem_append_right _ (List.mem_append_left _ (List.mem_of_getElem? (i := 44) rfl))))))) rfl
theorem gm_l_LW_55 : Cond.methodLink gm_R_LW 55 gm_y_GM_fault ∈ gm_W := gm_in (List.mem_append_right _ (List.mem_append_right _ (List.mem_append_left _ (List.mem_of_getElem? (i := 98) rfl)))) rfl
theorem gm_l_LW_58 : Cond.methodLink gm_R_LW 58 gm_y_MD_fault ∈ gm_W := gm_in (List.mem_append_right _ (List.mem_append_right _ (List.mem_append_right _ (List.mem_append_right _ (List.mem_append_right _ (List.mem_append_left _ (List.mem_of_getElem? (i := 147) rfl))))))) rfl
theorem gm_l_LW_59 : Cond.methodLink gm_R_LW 59 gm_y_LW_empty ∈ gm_W := gm_in (List.mem_append_right _ (List.mem_append_right _ (List.mem_append_right _ (List.mem_append_left _ (List.mem_of_getElem? (i := 199) rfl))))) rfl
theorem gm_l_LW_62 : Cond.methodLink gm_R_LW 62 gm_y_MD_empty ∈ gm_W := gm_in (List.mem_append_right _ (List.mem_append_right _ (List.mem_append_right _ (List.mem_append_right _ (List.mem_append_right _ (List.mem_append_left _ (List.mem_of_getElem? (i := 151) rfl))))))) rfl
theorem gm_l_LW_63 : Cond.methodLink gm_R_LW 63 gm_y_LW_head ∈ gm_W := gm_in (List.mem_append_right _ (List.mem_append_right _ (List.mem_append_right _ (List.mem_append_left _ (List.mem_of_getElem? (i := 225) rfl))))) rfl
theorem gm_l_LW_66 : Cond.methodLink gm_R_LW 66 gm_y_MD_head ∈ gm_W := gm_in (List.mem_append_right _ (List.mem_append_right _ (List.mem_append_right _ (List.mem_append_right _ (List.mem_append_right _ (List.mem_append_left _ (List.mem_of_getElem? (i := 159) rfl))))))) rfl
theorem gm_l_LW_67 : Cond.methodLink gm_R_LW 67 gm_y_GM_feed ∈ gm_W := gm_in (List.mem_append_right _ (List.mem_append_right _ (List.mem_append_left _ (List.mem_of_getElem? (i := 102) rfl)))) rfl
theorem gm_l_LW_70 : Cond.methodLink gm_R_LW 70 gm_y_MD_feed ∈ gm_W := gm_in (List.mem_append_right _ (List.mem_append_right _ (List.mem_append_right _ (List.mem_append_right _ (List.mem_append_right _ (List.mem_append_left _ (List.mem_of_getElem? (i := 167) rfl))))))) rfl
theorem gm_l_LW_71 : Cond.methodLink gm_R_LW 71 gm_y_GM_clear ∈ gm_W := gm_in (List.mem_append_right _ (List.mem_append_right _ (List.mem_append_left _ (List.mem_of_getElem? (i := 106) rfl)))) rfl
theorem gm_l_LW_74 : Cond.methodLink gm_R_LW 74 gm_y_MD_clear ∈ gm_W := gm_in (List.mem_append_right _ (List.mem_append_right _ (List.mem_append_right _ (List.mem_append_right _ (List.mem_append_right _ (List.mem_append_left _ (List.mem_of_getElem? (i := 171) rfl))))))) rfl
theorem gm_l_LW_75 : Cond.methodLink gm_R_LW 75 gm_y_LW_match ∈ gm_W := gm_in (List.mem_append_right _ (List.mem_append_right _ (List.mem_append_right _ (List.mem_append_left _ (List.mem_of_getElem? (i := 236) rfl))))) rfl
theorem gm_l_LW_78 : Cond.methodLink gm_R_LW 78 gm_y_MD_match ∈ gm_W := gm_in (List.mem_append_right _ (List.mem_append_right _ (List.mem_append_right _ (List.mem_append_right _ (List.mem_append_right _ (List.mem_append_left _ (List.mem_of_getElem? (i := 175) rfl))))))) rfl
theorem gm_l_LW_79 : Cond.methodLink gm_R_LW 79 gm_y_GM_work ∈ gm_W := gm_in (List.mem_append_right _ (List.mem_append_right _ (List.mem_append_left _ (List.mem_of_getElem? (i := 110) rfl)))) rfl
theorem gm_l_LW_82 : Cond.methodLink gm_R_LW 82 gm_y_MD_work ∈ gm_W := gm_in (List.mem_append_right _ (List.mem_append_right _ (List.mem_append_right _ (List.mem_append_right _ (List.mem_append_right _ (List.mem_append_right _ (List.mem_of_getElem? (i := 11) rfl))))))) rfl
theorem gm_l_LW_83 : Cond.methodLink gm_R_LW 83 gm_y_GM_nodes ∈ gm_W := gm_in (List.mem_append_right _ (List.mem_append_right _ (List.mem_append_left _ (List.mem_of_getElem? (i := 114) rfl)))) rfl
theorem gm_l_LW_86 : Cond.methodLink gm_R_LW 86 gm_y_MD_nodes ∈ gm_W := gm_in (List.mem_append_right _ (List.mem_append_right _ (List.mem_append_right _ (List.mem_append_right _ (List.mem_append_right _ (List.mem_append_right _ (List.mem_of_getElem? (i := 15) rfl))))))) rfl
theorem gm_l_LW_87 : Cond.methodLink gm_R_LW 87 gm_y_LW_node ∈ gm_W := gm_in (List.mem_append_right _ (List.mem_append_right _ (List.mem_append_right _ (List.mem_append_right _ (List.mem_append_left _ (List.mem_of_getElem? (i := 121) rfl)))))) rfl
theorem gm_l_LW_90 : Cond.methodLink gm_R_LW 90 gm_y_MD_node ∈ gm_W := gm_in (List.mem_append_right _ (List.mem_append_right _ (List.mem_append_right _ (List.mem_append_right _ (List.mem_append_right _ (List.mem_append_right _ (List.mem_of_getElem? (i := 19) rfl))))))) rfl
theorem gm_d_LW_law_0 : decode gm_b_LW_law 0 = .ok (.new 8, 3) := by decide +kernel
theorem gm_d_LW_law_3 : decode gm_b_LW_law 3 = .ok (.dup, 1) := by decide +kernel
theorem gm_d_LW_law_4 : decode gm_b_LW_law 4 = .ok (.invokespecial 37, 3) := by decide +kernel
theorem gm_d_LW_law_7 : decode gm_b_LW_law 7 = .ok (.astore_n 1, 1) := by decide +kernel
theorem gm_d_LW_law_8 : decode gm_b_LW_law 8 = .ok (.new 38, 3) := by decide +kernel
theorem gm_d_LW_law_11 : decode gm_b_LW_law 11 = .ok (.dup, 1) := by decide +kernel
theorem gm_d_LW_law_12 : decode gm_b_LW_law 12 = .ok (.invokespecial 40, 3) := by decide +kernel
theorem gm_d_LW_law_15 : decode gm_b_LW_law 15 = .ok (.astore_n 2, 1) := by decide +kernel
theorem gm_d_LW_law_16 : decode gm_b_LW_law 16 = .ok (.iconst 1, 1) := by decide +kernel
theorem gm_d_LW_law_17 : decode gm_b_LW_law 17 = .ok (.newarray .long, 2) := by decide +kernel
theorem gm_d_LW_law_19 : decode gm_b_LW_law 19 = .ok (.astore_n 3, 1) := by decide +kernel
theorem gm_d_LW_law_20 : decode gm_b_LW_law 20 = .ok (.iconst 0, 1) := by decide +kernel
theorem gm_d_LW_law_21 : decode gm_b_LW_law 21 = .ok (.istore 4, 2) := by decide +kernel
theorem gm_d_LW_law_23 : decode gm_b_LW_law 23 = .ok (.iload 4, 2) := by decide +kernel
theorem gm_d_LW_law_25 : decode gm_b_LW_law 25 = .ok (.aload_n 0, 1) := by decide +kernel
theorem gm_d_LW_law_26 : decode gm_b_LW_law 26 = .ok (.arraylength, 1) := by decide +kernel
theorem gm_d_LW_law_27 : decode gm_b_LW_law 27 = .ok (.iconst 3, 1) := by decide +kernel
theorem gm_d_LW_law_28 : decode gm_b_LW_law 28 = .ok (.isub, 1) := by decide +kernel
theorem gm_d_LW_law_29 : decode gm_b_LW_law 29 = .ok (.if_icmp .gt 366, 3) := by decide +kernel
theorem gm_d_LW_law_32 : decode gm_b_LW_law 32 = .ok (.aload_n 0, 1) := by decide +kernel
theorem gm_d_LW_law_33 : decode gm_b_LW_law 33 = .ok (.iload 4, 2) := by decide +kernel
theorem gm_d_LW_law_35 : decode gm_b_LW_law 35 = .ok (.iaload, 1) := by decide +kernel
theorem gm_d_LW_law_36 : decode gm_b_LW_law 36 = .ok (.bipush 15, 2) := by decide +kernel
theorem gm_d_LW_law_38 : decode gm_b_LW_law 38 = .ok (.iand, 1) := by decide +kernel
theorem gm_d_LW_law_39 : decode gm_b_LW_law 39 = .ok (.tableswitch 350 0 11 #[61, 88, 99, 115, 128, 158, 202, 229, 240, 284, 297, 310], 61) := by decide +kernel
theorem gm_d_LW_law_100 : decode gm_b_LW_law 100 = .ok (.aload_n 1, 1) := by decide +kernel
theorem gm_d_LW_law_101 : decode gm_b_LW_law 101 = .ok (.aload_n 0, 1) := by decide +kernel
theorem gm_d_LW_law_102 : decode gm_b_LW_law 102 = .ok (.iload 4, 2) := by decide +kernel
theorem gm_d_LW_law_104 : decode gm_b_LW_law 104 = .ok (.iconst 1, 1) := by decide +kernel
theorem gm_d_LW_law_105 : decode gm_b_LW_law 105 = .ok (.iadd, 1) := by decide +kernel
theorem gm_d_LW_law_106 : decode gm_b_LW_law 106 = .ok (.iaload, 1) := by decide +kernel
theorem gm_d_LW_law_107 : decode gm_b_LW_law 107 = .ok (.i2c, 1) := by decide +kernel
theorem gm_d_LW_law_108 : decode gm_b_LW_law 108 = .ok (.invokevirtual 41, 3) := by decide +kernel
theorem gm_d_LW_law_111 : decode gm_b_LW_law 111 = .ok (.pop, 1) := by decide +kernel
theorem gm_d_LW_law_112 : decode gm_b_LW_law 112 = .ok (.aload_n 2, 1) := by decide +kernel
theorem gm_d_LW_law_113 : decode gm_b_LW_law 113 = .ok (.aload_n 0, 1) := by decide +kernel
theorem gm_d_LW_law_114 : decode gm_b_LW_law 114 = .ok (.iload 4, 2) := by decide +kernel
theorem gm_d_LW_law_116 : decode gm_b_LW_law 116 = .ok (.iconst 1, 1) := by decide +kernel
theorem gm_d_LW_law_117 : decode gm_b_LW_law 117 = .ok (.iadd, 1) := by decide +kernel
theorem gm_d_LW_law_118 : decode gm_b_LW_law 118 = .ok (.iaload, 1) := by decide +kernel
theorem gm_d_LW_law_119 : decode gm_b_LW_law 119 = .ok (.i2c, 1) := by decide +kernel
theorem gm_d_LW_law_120 : decode gm_b_LW_law 120 = .ok (.invokevirtual 44, 3) := by decide +kernel
theorem gm_d_LW_law_123 : decode gm_b_LW_law 123 = .ok (.pop, 1) := by decide +kernel
theorem gm_d_LW_law_124 : decode gm_b_LW_law 124 = .ok (.goto 265, 3) := by decide +kernel
theorem gm_d_LW_law_127 : decode gm_b_LW_law 127 = .ok (.aload_n 1, 1) := by decide +kernel
theorem gm_d_LW_law_128 : decode gm_b_LW_law 128 = .ok (.invokevirtual 45, 3) := by decide +kernel
theorem gm_d_LW_law_131 : decode gm_b_LW_law 131 = .ok (.aload_n 2, 1) := by decide +kernel
theorem gm_d_LW_law_132 : decode gm_b_LW_law 132 = .ok (.invokevirtual 48, 3) := by decide +kernel
theorem gm_d_LW_law_135 : decode gm_b_LW_law 135 = .ok (.goto 254, 3) := by decide +kernel
theorem gm_d_LW_law_138 : decode gm_b_LW_law 138 = .ok (.aload_n 1, 1) := by decide +kernel
theorem gm_d_LW_law_139 : decode gm_b_LW_law 139 = .ok (.aload_n 3, 1) := by decide +kernel
theorem gm_d_LW_law_140 : decode gm_b_LW_law 140 = .ok (.invokestatic 49, 3) := by decide +kernel
theorem gm_d_LW_law_143 : decode gm_b_LW_law 143 = .ok (.istore 5, 2) := by decide +kernel
theorem gm_d_LW_law_145 : decode gm_b_LW_law 145 = .ok (.aload_n 2, 1) := by decide +kernel
theorem gm_d_LW_law_146 : decode gm_b_LW_law 146 = .ok (.invokevirtual 54, 3) := by decide +kernel
theorem gm_d_LW_law_149 : decode gm_b_LW_law 149 = .ok (.istore 6, 2) := by decide +kernel
theorem gm_d_LW_law_151 : decode gm_b_LW_law 151 = .ok (.goto 238, 3) := by decide +kernel
theorem gm_d_LW_law_154 : decode gm_b_LW_law 154 = .ok (.aload_n 1, 1) := by decide +kernel
theorem gm_d_LW_law_155 : decode gm_b_LW_law 155 = .ok (.invokevirtual 55, 3) := by decide +kernel
theorem gm_d_LW_law_158 : decode gm_b_LW_law 158 = .ok (.aload_n 2, 1) := by decide +kernel
theorem gm_d_LW_law_159 : decode gm_b_LW_law 159 = .ok (.invokevirtual 58, 3) := by decide +kernel
theorem gm_d_LW_law_162 : decode gm_b_LW_law 162 = .ok (.if_icmp .eq 227, 3) := by decide +kernel
theorem gm_d_LW_law_165 : decode gm_b_LW_law 165 = .ok (.iconst 0, 1) := by decide +kernel
theorem gm_d_LW_law_166 : decode gm_b_LW_law 166 = .ok (.ireturn, 1) := by decide +kernel
theorem gm_d_LW_law_167 : decode gm_b_LW_law 167 = .ok (.aload_n 1, 1) := by decide +kernel
theorem gm_d_LW_law_168 : decode gm_b_LW_law 168 = .ok (.aload_n 0, 1) := by decide +kernel
theorem gm_d_LW_law_169 : decode gm_b_LW_law 169 = .ok (.iload 4, 2) := by decide +kernel
theorem gm_d_LW_law_171 : decode gm_b_LW_law 171 = .ok (.iconst 1, 1) := by decide +kernel
theorem gm_d_LW_law_172 : decode gm_b_LW_law 172 = .ok (.iadd, 1) := by decide +kernel
theorem gm_d_LW_law_173 : decode gm_b_LW_law 173 = .ok (.iaload, 1) := by decide +kernel
theorem gm_d_LW_law_174 : decode gm_b_LW_law 174 = .ok (.i2c, 1) := by decide +kernel
theorem gm_d_LW_law_175 : decode gm_b_LW_law 175 = .ok (.aload_n 3, 1) := by decide +kernel
theorem gm_d_LW_law_176 : decode gm_b_LW_law 176 = .ok (.invokestatic 59, 3) := by decide +kernel
theorem gm_d_LW_law_179 : decode gm_b_LW_law 179 = .ok (.istore 5, 2) := by decide +kernel
theorem gm_d_LW_law_181 : decode gm_b_LW_law 181 = .ok (.aload_n 2, 1) := by decide +kernel
theorem gm_d_LW_law_182 : decode gm_b_LW_law 182 = .ok (.aload_n 0, 1) := by decide +kernel
theorem gm_d_LW_law_183 : decode gm_b_LW_law 183 = .ok (.iload 4, 2) := by decide +kernel
theorem gm_d_LW_law_185 : decode gm_b_LW_law 185 = .ok (.iconst 1, 1) := by decide +kernel
theorem gm_d_LW_law_186 : decode gm_b_LW_law 186 = .ok (.iadd, 1) := by decide +kernel
theorem gm_d_LW_law_187 : decode gm_b_LW_law 187 = .ok (.iaload, 1) := by decide +kernel
theorem gm_d_LW_law_188 : decode gm_b_LW_law 188 = .ok (.i2c, 1) := by decide +kernel
theorem gm_d_LW_law_189 : decode gm_b_LW_law 189 = .ok (.invokevirtual 62, 3) := by decide +kernel
theorem gm_d_LW_law_192 : decode gm_b_LW_law 192 = .ok (.istore 6, 2) := by decide +kernel
theorem gm_d_LW_law_194 : decode gm_b_LW_law 194 = .ok (.goto 195, 3) := by decide +kernel
theorem gm_d_LW_law_197 : decode gm_b_LW_law 197 = .ok (.aload_n 1, 1) := by decide +kernel
theorem gm_d_LW_law_198 : decode gm_b_LW_law 198 = .ok (.aload_n 0, 1) := by decide +kernel
theorem gm_d_LW_law_199 : decode gm_b_LW_law 199 = .ok (.iload 4, 2) := by decide +kernel
theorem gm_d_LW_law_201 : decode gm_b_LW_law 201 = .ok (.iconst 1, 1) := by decide +kernel
theorem gm_d_LW_law_202 : decode gm_b_LW_law 202 = .ok (.iadd, 1) := by decide +kernel
theorem gm_d_LW_law_203 : decode gm_b_LW_law 203 = .ok (.iaload, 1) := by decide +kernel
theorem gm_d_LW_law_204 : decode gm_b_LW_law 204 = .ok (.i2c, 1) := by decide +kernel
theorem gm_d_LW_law_205 : decode gm_b_LW_law 205 = .ok (.aload_n 0, 1) := by decide +kernel
theorem gm_d_LW_law_206 : decode gm_b_LW_law 206 = .ok (.iload 4, 2) := by decide +kernel
theorem gm_d_LW_law_208 : decode gm_b_LW_law 208 = .ok (.iconst 2, 1) := by decide +kernel
theorem gm_d_LW_law_209 : decode gm_b_LW_law 209 = .ok (.iadd, 1) := by decide +kernel
theorem gm_d_LW_law_210 : decode gm_b_LW_law 210 = .ok (.iaload, 1) := by decide +kernel
theorem gm_d_LW_law_211 : decode gm_b_LW_law 211 = .ok (.i2c, 1) := by decide +kernel
theorem gm_d_LW_law_212 : decode gm_b_LW_law 212 = .ok (.aload_n 3, 1) := by decide +kernel
theorem gm_d_LW_law_213 : decode gm_b_LW_law 213 = .ok (.invokestatic 63, 3) := by decide +kernel
theorem gm_d_LW_law_216 : decode gm_b_LW_law 216 = .ok (.istore 5, 2) := by decide +kernel
theorem gm_d_LW_law_218 : decode gm_b_LW_law 218 = .ok (.aload_n 2, 1) := by decide +kernel
theorem gm_d_LW_law_219 : decode gm_b_LW_law 219 = .ok (.aload_n 0, 1) := by decide +kernel
theorem gm_d_LW_law_220 : decode gm_b_LW_law 220 = .ok (.iload 4, 2) := by decide +kernel
theorem gm_d_LW_law_222 : decode gm_b_LW_law 222 = .ok (.iconst 1, 1) := by decide +kernel
theorem gm_d_LW_law_223 : decode gm_b_LW_law 223 = .ok (.iadd, 1) := by decide +kernel
theorem gm_d_LW_law_224 : decode gm_b_LW_law 224 = .ok (.iaload, 1) := by decide +kernel
theorem gm_d_LW_law_225 : decode gm_b_LW_law 225 = .ok (.i2c, 1) := by decide +kernel
theorem gm_d_LW_law_226 : decode gm_b_LW_law 226 = .ok (.aload_n 0, 1) := by decide +kernel
theorem gm_d_LW_law_227 : decode gm_b_LW_law 227 = .ok (.iload 4, 2) := by decide +kernel
theorem gm_d_LW_law_229 : decode gm_b_LW_law 229 = .ok (.iconst 2, 1) := by decide +kernel
theorem gm_d_LW_law_230 : decode gm_b_LW_law 230 = .ok (.iadd, 1) := by decide +kernel
theorem gm_d_LW_law_231 : decode gm_b_LW_law 231 = .ok (.iaload, 1) := by decide +kernel
theorem gm_d_LW_law_232 : decode gm_b_LW_law 232 = .ok (.i2c, 1) := by decide +kernel
theorem gm_d_LW_law_233 : decode gm_b_LW_law 233 = .ok (.invokevirtual 66, 3) := by decide +kernel
theorem gm_d_LW_law_236 : decode gm_b_LW_law 236 = .ok (.istore 6, 2) := by decide +kernel
theorem gm_d_LW_law_238 : decode gm_b_LW_law 238 = .ok (.goto 151, 3) := by decide +kernel
theorem gm_d_LW_law_241 : decode gm_b_LW_law 241 = .ok (.aload_n 1, 1) := by decide +kernel
theorem gm_d_LW_law_242 : decode gm_b_LW_law 242 = .ok (.aload_n 0, 1) := by decide +kernel
theorem gm_d_LW_law_243 : decode gm_b_LW_law 243 = .ok (.iload 4, 2) := by decide +kernel
theorem gm_d_LW_law_245 : decode gm_b_LW_law 245 = .ok (.iconst 1, 1) := by decide +kernel
theorem gm_d_LW_law_246 : decode gm_b_LW_law 246 = .ok (.iadd, 1) := by decide +kernel
theorem gm_d_LW_law_247 : decode gm_b_LW_law 247 = .ok (.iaload, 1) := by decide +kernel
theorem gm_d_LW_law_248 : decode gm_b_LW_law 248 = .ok (.i2c, 1) := by decide +kernel
theorem gm_d_LW_law_249 : decode gm_b_LW_law 249 = .ok (.invokevirtual 67, 3) := by decide +kernel
theorem gm_d_LW_law_252 : decode gm_b_LW_law 252 = .ok (.pop, 1) := by decide +kernel
theorem gm_d_LW_law_253 : decode gm_b_LW_law 253 = .ok (.aload_n 2, 1) := by decide +kernel
theorem gm_d_LW_law_254 : decode gm_b_LW_law 254 = .ok (.aload_n 0, 1) := by decide +kernel
theorem gm_d_LW_law_255 : decode gm_b_LW_law 255 = .ok (.iload 4, 2) := by decide +kernel
theorem gm_d_LW_law_257 : decode gm_b_LW_law 257 = .ok (.iconst 1, 1) := by decide +kernel
theorem gm_d_LW_law_258 : decode gm_b_LW_law 258 = .ok (.iadd, 1) := by decide +kernel
theorem gm_d_LW_law_259 : decode gm_b_LW_law 259 = .ok (.iaload, 1) := by decide +kernel
theorem gm_d_LW_law_260 : decode gm_b_LW_law 260 = .ok (.i2c, 1) := by decide +kernel
theorem gm_d_LW_law_261 : decode gm_b_LW_law 261 = .ok (.invokevirtual 70, 3) := by decide +kernel
theorem gm_d_LW_law_264 : decode gm_b_LW_law 264 = .ok (.pop, 1) := by decide +kernel
theorem gm_d_LW_law_265 : decode gm_b_LW_law 265 = .ok (.goto 124, 3) := by decide +kernel
theorem gm_d_LW_law_268 : decode gm_b_LW_law 268 = .ok (.aload_n 1, 1) := by decide +kernel
theorem gm_d_LW_law_269 : decode gm_b_LW_law 269 = .ok (.invokevirtual 71, 3) := by decide +kernel
theorem gm_d_LW_law_272 : decode gm_b_LW_law 272 = .ok (.aload_n 2, 1) := by decide +kernel
theorem gm_d_LW_law_273 : decode gm_b_LW_law 273 = .ok (.invokevirtual 74, 3) := by decide +kernel
theorem gm_d_LW_law_276 : decode gm_b_LW_law 276 = .ok (.goto 113, 3) := by decide +kernel
theorem gm_d_LW_law_279 : decode gm_b_LW_law 279 = .ok (.aload_n 1, 1) := by decide +kernel
theorem gm_d_LW_law_280 : decode gm_b_LW_law 280 = .ok (.aload_n 0, 1) := by decide +kernel
theorem gm_d_LW_law_281 : decode gm_b_LW_law 281 = .ok (.iload 4, 2) := by decide +kernel
theorem gm_d_LW_law_283 : decode gm_b_LW_law 283 = .ok (.iconst 1, 1) := by decide +kernel
theorem gm_d_LW_law_284 : decode gm_b_LW_law 284 = .ok (.iadd, 1) := by decide +kernel
theorem gm_d_LW_law_285 : decode gm_b_LW_law 285 = .ok (.iaload, 1) := by decide +kernel
theorem gm_d_LW_law_286 : decode gm_b_LW_law 286 = .ok (.ifCond .eq 7, 3) := by decide +kernel
theorem gm_d_LW_law_289 : decode gm_b_LW_law 289 = .ok (.iconst 1, 1) := by decide +kernel
theorem gm_d_LW_law_290 : decode gm_b_LW_law 290 = .ok (.goto 4, 3) := by decide +kernel
theorem gm_d_LW_law_293 : decode gm_b_LW_law 293 = .ok (.iconst 0, 1) := by decide +kernel
theorem gm_d_LW_law_294 : decode gm_b_LW_law 294 = .ok (.aload_n 3, 1) := by decide +kernel
theorem gm_d_LW_law_295 : decode gm_b_LW_law 295 = .ok (.invokestatic 75, 3) := by decide +kernel
theorem gm_d_LW_law_298 : decode gm_b_LW_law 298 = .ok (.istore 5, 2) := by decide +kernel
theorem gm_d_LW_law_300 : decode gm_b_LW_law 300 = .ok (.aload_n 2, 1) := by decide +kernel
theorem gm_d_LW_law_301 : decode gm_b_LW_law 301 = .ok (.aload_n 0, 1) := by decide +kernel
theorem gm_d_LW_law_302 : decode gm_b_LW_law 302 = .ok (.iload 4, 2) := by decide +kernel
theorem gm_d_LW_law_304 : decode gm_b_LW_law 304 = .ok (.iconst 1, 1) := by decide +kernel
theorem gm_d_LW_law_305 : decode gm_b_LW_law 305 = .ok (.iadd, 1) := by decide +kernel
theorem gm_d_LW_law_306 : decode gm_b_LW_law 306 = .ok (.iaload, 1) := by decide +kernel
theorem gm_d_LW_law_307 : decode gm_b_LW_law 307 = .ok (.ifCond .eq 7, 3) := by decide +kernel
theorem gm_d_LW_law_310 : decode gm_b_LW_law 310 = .ok (.iconst 1, 1) := by decide +kernel
theorem gm_d_LW_law_311 : decode gm_b_LW_law 311 = .ok (.goto 4, 3) := by decide +kernel
theorem gm_d_LW_law_314 : decode gm_b_LW_law 314 = .ok (.iconst 0, 1) := by decide +kernel
theorem gm_d_LW_law_315 : decode gm_b_LW_law 315 = .ok (.invokevirtual 78, 3) := by decide +kernel
theorem gm_d_LW_law_318 : decode gm_b_LW_law 318 = .ok (.istore 6, 2) := by decide +kernel
theorem gm_d_LW_law_320 : decode gm_b_LW_law 320 = .ok (.goto 69, 3) := by decide +kernel
theorem gm_d_LW_law_323 : decode gm_b_LW_law 323 = .ok (.aload_n 1, 1) := by decide +kernel
theorem gm_d_LW_law_324 : decode gm_b_LW_law 324 = .ok (.invokevirtual 79, 3) := by decide +kernel
theorem gm_d_LW_law_327 : decode gm_b_LW_law 327 = .ok (.pop, 1) := by decide +kernel
theorem gm_d_LW_law_328 : decode gm_b_LW_law 328 = .ok (.aload_n 2, 1) := by decide +kernel
theorem gm_d_LW_law_329 : decode gm_b_LW_law 329 = .ok (.invokevirtual 82, 3) := by decide +kernel
theorem gm_d_LW_law_332 : decode gm_b_LW_law 332 = .ok (.pop, 1) := by decide +kernel
theorem gm_d_LW_law_333 : decode gm_b_LW_law 333 = .ok (.goto 56, 3) := by decide +kernel
theorem gm_d_LW_law_336 : decode gm_b_LW_law 336 = .ok (.aload_n 1, 1) := by decide +kernel
theorem gm_d_LW_law_337 : decode gm_b_LW_law 337 = .ok (.invokevirtual 83, 3) := by decide +kernel
theorem gm_d_LW_law_340 : decode gm_b_LW_law 340 = .ok (.pop, 1) := by decide +kernel
theorem gm_d_LW_law_341 : decode gm_b_LW_law 341 = .ok (.aload_n 2, 1) := by decide +kernel
theorem gm_d_LW_law_342 : decode gm_b_LW_law 342 = .ok (.invokevirtual 86, 3) := by decide +kernel
theorem gm_d_LW_law_345 : decode gm_b_LW_law 345 = .ok (.pop, 1) := by decide +kernel
theorem gm_d_LW_law_346 : decode gm_b_LW_law 346 = .ok (.goto 43, 3) := by decide +kernel
theorem gm_d_LW_law_349 : decode gm_b_LW_law 349 = .ok (.aload_n 1, 1) := by decide +kernel
theorem gm_d_LW_law_350 : decode gm_b_LW_law 350 = .ok (.aload_n 0, 1) := by decide +kernel
theorem gm_d_LW_law_351 : decode gm_b_LW_law 351 = .ok (.iload 4, 2) := by decide +kernel
theorem gm_d_LW_law_353 : decode gm_b_LW_law 353 = .ok (.iconst 1, 1) := by decide +kernel
theorem gm_d_LW_law_354 : decode gm_b_LW_law 354 = .ok (.iadd, 1) := by decide +kernel
theorem gm_d_LW_law_355 : decode gm_b_LW_law 355 = .ok (.iaload, 1) := by decide +kernel
theorem gm_d_LW_law_356 : decode gm_b_LW_law 356 = .ok (.aload_n 0, 1) := by decide +kernel
theorem gm_d_LW_law_357 : decode gm_b_LW_law 357 = .ok (.iload 4, 2) := by decide +kernel
theorem gm_d_LW_law_359 : decode gm_b_LW_law 359 = .ok (.iconst 2, 1) := by decide +kernel
theorem gm_d_LW_law_360 : decode gm_b_LW_law 360 = .ok (.iadd, 1) := by decide +kernel
theorem gm_d_LW_law_361 : decode gm_b_LW_law 361 = .ok (.iaload, 1) := by decide +kernel
theorem gm_d_LW_law_362 : decode gm_b_LW_law 362 = .ok (.aload_n 3, 1) := by decide +kernel
theorem gm_d_LW_law_363 : decode gm_b_LW_law 363 = .ok (.invokestatic 87, 3) := by decide +kernel
theorem gm_d_LW_law_366 : decode gm_b_LW_law 366 = .ok (.istore 5, 2) := by decide +kernel
theorem gm_d_LW_law_368 : decode gm_b_LW_law 368 = .ok (.aload_n 2, 1) := by decide +kernel
theorem gm_d_LW_law_369 : decode gm_b_LW_law 369 = .ok (.aload_n 0, 1) := by decide +kernel
theorem gm_d_LW_law_370 : decode gm_b_LW_law 370 = .ok (.iload 4, 2) := by decide +kernel
theorem gm_d_LW_law_372 : decode gm_b_LW_law 372 = .ok (.iconst 1, 1) := by decide +kernel
theorem gm_d_LW_law_373 : decode gm_b_LW_law 373 = .ok (.iadd, 1) := by decide +kernel
theorem gm_d_LW_law_374 : decode gm_b_LW_law 374 = .ok (.iaload, 1) := by decide +kernel
theorem gm_d_LW_law_375 : decode gm_b_LW_law 375 = .ok (.aload_n 0, 1) := by decide +kernel
theorem gm_d_LW_law_376 : decode gm_b_LW_law 376 = .ok (.iload 4, 2) := by decide +kernel
theorem gm_d_LW_law_378 : decode gm_b_LW_law 378 = .ok (.iconst 2, 1) := by decide +kernel
theorem gm_d_LW_law_379 : decode gm_b_LW_law 379 = .ok (.iadd, 1) := by decide +kernel
theorem gm_d_LW_law_380 : decode gm_b_LW_law 380 = .ok (.iaload, 1) := by decide +kernel
theorem gm_d_LW_law_381 : decode gm_b_LW_law 381 = .ok (.invokevirtual 90, 3) := by decide +kernel
theorem gm_d_LW_law_384 : decode gm_b_LW_law 384 = .ok (.istore 6, 2) := by decide +kernel
theorem gm_d_LW_law_386 : decode gm_b_LW_law 386 = .ok (.goto 3, 3) := by decide +kernel
theorem gm_d_LW_law_389 : decode gm_b_LW_law 389 = .ok (.iinc 4 3, 3) := by decide +kernel
theorem gm_d_LW_law_392 : decode gm_b_LW_law 392 = .ok (.goto (-369), 3) := by decide +kernel
theorem gm_d_LW_law_395 : decode gm_b_LW_law 395 = .ok (.iconst 1, 1) := by decide +kernel
theorem gm_d_LW_law_396 : decode gm_b_LW_law 396 = .ok (.ireturn, 1) := by decide +kernel
