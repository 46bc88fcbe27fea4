abbrev gm_b_MD_init : ByteArray := prog_12_method_1_code
def gm_y_MD_init : MethodName := ⟨gm_R_MD, "<init>", "()V"⟩
theorem gm_k_MD_init : Cond.code gm_y_MD_init gm_b_MD_init 1 none ∈ gm_W := gm_in (List.mem_append_right _ (List.mem_append_right _ (List.mem_append_right _ (List.mem_append_right _ (List.mem_append_left _ (List.mem_of_getElem? (i := 138) rfl)))))) rfl
theorem gm_q_MD_init : Cond.instanceMethod gm_y_MD_init ∈ gm_W := gm_in (List.mem_append_right _ (List.mem_append_right _ (List.mem_append_right _ (List.mem_append_right _ (List.mem_append_left _ (List.mem_of_getElem? (i := 137) rfl)))))) rfl
theorem gm_d_MD_init_0 : decode gm_b_MD_init 0 = .ok (.aload_n 0, 1) := by decide +kernel
theorem gm_d_MD_init_1 : decode gm_b_MD_init 1 = .ok (.invokespecial 1, 3) := by decide +kernel
theorem gm_d_MD_init_4 : decode gm_b_MD_init 4 = .ok (.aload_n 0, 1) := by decide +kernel
theorem gm_d_MD_init_5 : decode gm_b_MD_init 5 = .ok (.iconst (-1), 1) := by decide +kernel
theorem gm_d_MD_init_6 : decode gm_b_MD_init 6 = .ok (.putfield 9, 3) := by decide +kernel
theorem gm_d_MD_init_9 : decode gm_b_MD_init 9 = .ok (.aload_n 0, 1) := by decide +kernel
theorem gm_d_MD_init_10 : decode gm_b_MD_init 10 = .ok (.bipush 50, 2) := by decide +kernel
theorem gm_d_MD_init_12 : decode gm_b_MD_init 12 = .ok (.newarray .int, 2) := by decide +kernel
theorem gm_d_MD_init_14 : decode gm_b_MD_init 14 = .ok (.putfield 13, 3) := by decide +kernel
theorem gm_d_MD_init_17 : decode gm_b_MD_init 17 = .ok (.aload_n 0, 1) := by decide +kernel
theorem gm_d_MD_init_18 : decode gm_b_MD_init 18 = .ok (.iconst (-1), 1) := by decide +kernel
theorem gm_d_MD_init_19 : decode gm_b_MD_init 19 = .ok (.putfield 17, 3) := by decide +kernel
theorem gm_d_MD_init_22 : decode gm_b_MD_init 22 = .ok (.aload_n 0, 1) := by decide +kernel
theorem gm_d_MD_init_23 : decode gm_b_MD_init 23 = .ok (.iconst 2, 1) := by decide +kernel
theorem gm_d_MD_init_24 : decode gm_b_MD_init 24 = .ok (.newarray .int, 2) := by decide +kernel
theorem gm_d_MD_init_26 : decode gm_b_MD_init 26 = .ok (.putfield 20, 3) := by decide +kernel
theorem gm_d_MD_init_29 : decode gm_b_MD_init 29 = .ok (.aload_n 0, 1) := by decide +kernel
theorem gm_d_MD_init_30 : decode gm_b_MD_init 30 = .ok (.bipush 16, 2) := by decide +kernel
theorem gm_d_MD_init_32 : decode gm_b_MD_init 32 = .ok (.newarray .int, 2) := by decide +kernel
theorem gm_d_MD_init_34 : decode gm_b_MD_init 34 = .ok (.putfield 23, 3) := by decide +kernel
theorem gm_d_MD_init_37 : decode gm_b_MD_init 37 = .ok (.aload_n 0, 1) := by decide +kernel
theorem gm_d_MD_init_38 : decode gm_b_MD_init 38 = .ok (.bipush 16, 2) := by decide +kernel
theorem gm_d_MD_init_40 : decode gm_b_MD_init 40 = .ok (.newarray .int, 2) := by decide +kernel
theorem gm_d_MD_init_42 : decode gm_b_MD_init 42 = .ok (.putfield 26, 3) := by decide +kernel
theorem gm_d_MD_init_45 : decode gm_b_MD_init 45 = .ok (.aload_n 0, 1) := by decide +kernel
theorem gm_d_MD_init_46 : decode gm_b_MD_init 46 = .ok (.iconst 2, 1) := by decide +kernel
theorem gm_d_MD_init_47 : decode gm_b_MD_init 47 = .ok (.newarray .int, 2) := by decide +kernel
theorem gm_d_MD_init_49 : decode gm_b_MD_init 49 = .ok (.putfield 29, 3) := by decide +kernel
theorem gm_d_MD_init_52 : decode gm_b_MD_init 52 = .ok (.aload_n 0, 1) := by decide +kernel
theorem gm_d_MD_init_53 : decode gm_b_MD_init 53 = .ok (.sipush 320, 3) := by decide +kernel
theorem gm_d_MD_init_56 : decode gm_b_MD_init 56 = .ok (.newarray .int, 2) := by decide +kernel
theorem gm_d_MD_init_58 : decode gm_b_MD_init 58 = .ok (.putfield 32, 3) := by decide +kernel
theorem gm_d_MD_init_61 : decode gm_b_MD_init 61 = .ok (.aload_n 0, 1) := by decide +kernel
theorem gm_d_MD_init_62 : decode gm_b_MD_init 62 = .ok (.sipush 320, 3) := by decide +kernel
theorem gm_d_MD_init_65 : decode gm_b_MD_init 65 = .ok (.newarray .int, 2) := by decide +kernel
theorem gm_d_MD_init_67 : decode gm_b_MD_init 67 = .ok (.putfield 35, 3) := by decide +kernel
theorem gm_d_MD_init_70 : decode gm_b_MD_init 70 = .ok (.aload_n 0, 1) := by decide +kernel
theorem gm_d_MD_init_71 : decode gm_b_MD_init 71 = .ok (.sipush 320, 3) := by decide +kernel
theorem gm_d_MD_init_74 : decode gm_b_MD_init 74 = .ok (.newarray .int, 2) := by decide +kernel
theorem gm_d_MD_init_76 : decode gm_b_MD_init 76 = .ok (.putfield 38, 3) := by decide +kernel
theorem gm_d_MD_init_79 : decode gm_b_MD_init 79 = .ok (.aload_n 0, 1) := by decide +kernel
theorem gm_d_MD_init_80 : decode gm_b_MD_init 80 = .ok (.sipush 320, 3) := by decide +kernel
theorem gm_d_MD_init_83 : decode gm_b_MD_init 83 = .ok (.newarray .int, 2) := by decide +kernel
theorem gm_d_MD_init_85 : decode gm_b_MD_init 85 = .ok (.putfield 41, 3) := by decide +kernel
theorem gm_d_MD_init_88 : decode gm_b_MD_init 88 = .ok (.aload_n 0, 1) := by decide +kernel
theorem gm_d_MD_init_89 : decode gm_b_MD_init 89 = .ok (.bipush 100, 2) := by decide +kernel
theorem gm_d_MD_init_91 : decode gm_b_MD_init 91 = .ok (.newarray .int, 2) := by decide +kernel
theorem gm_d_MD_init_93 : decode gm_b_MD_init 93 = .ok (.putfield 44, 3) := by decide +kernel
theorem gm_d_MD_init_96 : decode gm_b_MD_init 96 = .ok (.aload_n 0, 1) := by decide +kernel
theorem gm_d_MD_init_97 : decode gm_b_MD_init 97 = .ok (.sipush 320, 3) := by decide +kernel
theorem gm_d_MD_init_100 : decode gm_b_MD_init 100 = .ok (.newarray .boolean, 2) := by decide +kernel
theorem gm_d_MD_init_102 : decode gm_b_MD_init 102 = .ok (.putfield 47, 3) := by decide +kernel
theorem gm_d_MD_init_105 : decode gm_b_MD_init 105 = .ok (.aload_n 0, 1) := by decide +kernel
theorem gm_d_MD_init_106 : decode gm_b_MD_init 106 = .ok (.sipush 320, 3) := by decide +kernel
theorem gm_d_MD_init_109 : decode gm_b_MD_init 109 = .ok (.newarray .int, 2) := by decide +kernel
theorem gm_d_MD_init_111 : decode gm_b_MD_init 111 = .ok (.putfield 51, 3) := by decide +kernel
theorem gm_d_MD_init_114 : decode gm_b_MD_init 114 = .ok (.aload_n 0, 1) := by decide +kernel
theorem gm_d_MD_init_115 : decode gm_b_MD_init 115 = .ok (.sipush 320, 3) := by decide +kernel
theorem gm_d_MD_init_118 : decode gm_b_MD_init 118 = .ok (.newarray .long, 2) := by decide +kernel
theorem gm_d_MD_init_120 : decode gm_b_MD_init 120 = .ok (.putfield 54, 3) := by decide +kernel
theorem gm_d_MD_init_123 : decode gm_b_MD_init 123 = .ok (.aload_n 0, 1) := by decide +kernel
theorem gm_d_MD_init_124 : decode gm_b_MD_init 124 = .ok (.sipush 320, 3) := by decide +kernel
theorem gm_d_MD_init_127 : decode gm_b_MD_init 127 = .ok (.newarray .long, 2) := by decide +kernel
theorem gm_d_MD_init_129 : decode gm_b_MD_init 129 = .ok (.putfield 58, 3) := by decide +kernel
theorem gm_d_MD_init_132 : decode gm_b_MD_init 132 = .ok (.aload_n 0, 1) := by decide +kernel
theorem gm_d_MD_init_133 : decode gm_b_MD_init 133 = .ok (.bipush 8, 2) := by decide +kernel
theorem gm_d_MD_init_135 : decode gm_b_MD_init 135 = .ok (.newarray .int, 2) := by decide +kernel
theorem gm_d_MD_init_137 : decode gm_b_MD_init 137 = .ok (.putfield 61, 3) := by decide +kernel
theorem gm_d_MD_init_140 : decode gm_b_MD_init 140 = .ok (.aload_n 0, 1) := by decide +kernel
theorem gm_d_MD_init_141 : decode gm_b_MD_init 141 = .ok (.bipush 8, 2) := by decide +kernel
theorem gm_d_MD_init_143 : decode gm_b_MD_init 143 = .ok (.newarray .int, 2) := by decide +kernel
theorem gm_d_MD_init_145 : decode gm_b_MD_init 145 = .ok (.putfield 64, 3) := by decide +kernel
theorem gm_d_MD_init_148 : decode gm_b_MD_init 148 = .ok (.aload_n 0, 1) := by decide +kernel
theorem gm_d_MD_init_149 : decode gm_b_MD_init 149 = .ok (.bipush 8, 2) := by decide +kernel
theorem gm_d_MD_init_151 : decode gm_b_MD_init 151 = .ok (.newarray .int, 2) := by decide +kernel
theorem gm_d_MD_init_153 : decode gm_b_MD_init 153 = .ok (.putfield 67, 3) := by decide +kernel
theorem gm_d_MD_init_156 : decode gm_b_MD_init 156 = .ok (.aload_n 0, 1) := by decide +kernel
theorem gm_d_MD_init_157 : decode gm_b_MD_init 157 = .ok (.bipush 8, 2) := by decide +kernel
theorem gm_d_MD_init_159 : decode gm_b_MD_init 159 = .ok (.newarray .int, 2) := by decide +kernel
theorem gm_d_MD_init_161 : decode gm_b_MD_init 161 = .ok (.putfield 70, 3) := by decide +kernel
theorem gm_d_MD_init_164 : decode gm_b_MD_init 164 = .ok (.aload_n 0, 1) := by decide +kernel
theorem gm_d_MD_init_165 : decode gm_b_MD_init 165 = .ok (.bipush 60, 2) := by decide +kernel
theorem gm_d_MD_init_167 : decode gm_b_MD_init 167 = .ok (.newarray .int, 2) := by decide +kernel
theorem gm_d_MD_init_169 : decode gm_b_MD_init 169 = .ok (.putfield 73, 3) := by decide +kernel
theorem gm_d_MD_init_172 : decode gm_b_MD_init 172 = .ok (.aload_n 0, 1) := by decide +kernel
theorem gm_d_MD_init_173 : decode gm_b_MD_init 173 = .ok (.bipush 60, 2) := by decide +kernel
theorem gm_d_MD_init_175 : decode gm_b_MD_init 175 = .ok (.newarray .int, 2) := by decide +kernel
theorem gm_d_MD_init_177 : decode gm_b_MD_init 177 = .ok (.putfield 76, 3) := by decide +kernel
theorem gm_d_MD_init_180 : decode gm_b_MD_init 180 = .ok (.aload_n 0, 1) := by decide +kernel
theorem gm_d_MD_init_181 : decode gm_b_MD_init 181 = .ok (.bipush 10, 2) := by decide +kernel
theorem gm_d_MD_init_183 : decode gm_b_MD_init 183 = .ok (.newarray .int, 2) := by decide +kernel
theorem gm_d_MD_init_185 : decode gm_b_MD_init 185 = .ok (.putfield 79, 3) := by decide +kernel
theorem gm_d_MD_init_188 : decode gm_b_MD_init 188 = .ok (.aload_n 0, 1) := by decide +kernel
theorem gm_d_MD_init_189 : decode gm_b_MD_init 189 = .ok (.sipush 1760, 3) := by decide +kernel
theorem gm_d_MD_init_192 : decode gm_b_MD_init 192 = .ok (.newarray .int, 2) := by decide +kernel
theorem gm_d_MD_init_194 : decode gm_b_MD_init 194 = .ok (.putfield 82, 3) := by decide +kernel
theorem gm_d_MD_init_197 : decode gm_b_MD_init 197 = .ok (.aload_n 0, 1) := by decide +kernel
theorem gm_d_MD_init_198 : decode gm_b_MD_init 198 = .ok (.sipush 1760, 3) := by decide +kernel
theorem gm_d_MD_init_201 : decode gm_b_MD_init 201 = .ok (.newarray .int, 2) := by decide +kernel
theorem gm_d_MD_init_203 : decode gm_b_MD_init 203 = .ok (.putfield 85, 3) := by decide +kernel
theorem gm_d_MD_init_206 : decode gm_b_MD_init 206 = .ok (.aload_n 0, 1) := by decide +kernel
theorem gm_d_MD_init_207 : decode gm_b_MD_init 207 = .ok (.sipush 1760, 3) := by decide +kernel
theorem gm_d_MD_init_210 : decode gm_b_MD_init 210 = .ok (.newarray .boolean, 2) := by decide +kernel
theorem gm_d_MD_init_212 : decode gm_b_MD_init 212 = .ok (.putfield 88, 3) := by decide +kernel
theorem gm_d_MD_init_215 : decode gm_b_MD_init 215 = .ok (.aload_n 0, 1) := by decide +kernel
theorem gm_d_MD_init_216 : decode gm_b_MD_init 216 = .ok (.sipush 1760, 3) := by decide +kernel
theorem gm_d_MD_init_219 : decode gm_b_MD_init 219 = .ok (.newarray .int, 2) := by decide +kernel
theorem gm_d_MD_init_221 : decode gm_b_MD_init 221 = .ok (.putfield 91, 3) := by decide +kernel
theorem gm_d_MD_init_224 : decode gm_b_MD_init 224 = .ok (.aload_n 0, 1) := by decide +kernel
theorem gm_d_MD_init_225 : decode gm_b_MD_init 225 = .ok (.sipush 200, 3) := by decide +kernel
theorem gm_d_MD_init_228 : decode gm_b_MD_init 228 = .ok (.newarray .int, 2) := by decide +kernel
theorem gm_d_MD_init_230 : decode gm_b_MD_init 230 = .ok (.putfield 94, 3) := by decide +kernel
theorem gm_d_MD_init_233 : decode gm_b_MD_init 233 = .ok (.aload_n 0, 1) := by decide +kernel
theorem gm_d_MD_init_234 : decode gm_b_MD_init 234 = .ok (.sipush 200, 3) := by decide +kernel
theorem gm_d_MD_init_237 : decode gm_b_MD_init 237 = .ok (.newarray .int, 2) := by decide +kernel
theorem gm_d_MD_init_239 : decode gm_b_MD_init 239 = .ok (.putfield 97, 3) := by decide +kernel
theorem gm_d_MD_init_242 : decode gm_b_MD_init 242 = .ok (.aload_n 0, 1) := by decide +kernel
theorem gm_d_MD_init_243 : decode gm_b_MD_init 243 = .ok (.sipush 200, 3) := by decide +kernel
theorem gm_d_MD_init_246 : decode gm_b_MD_init 246 = .ok (.newarray .int, 2) := by decide +kernel
theorem gm_d_MD_init_248 : decode gm_b_MD_init 248 = .ok (.putfield 100, 3) := by decide +kernel
theorem gm_d_MD_init_251 : decode gm_b_MD_init 251 = .ok (.return_, 1) := by decide +kernel
theorem gm_l_MD_1 : Cond.methodLink gm_R_MD 1 objectInit ∈ gm_W := gm_in (List.mem_append_right _ (List.mem_append_right _ (List.mem_append_right _ (List.mem_append_right _ (List.mem_append_left _ (List.mem_of_getElem? (i := 139) rfl)))))) rfl
theorem gm_l_MD_9 : Cond.fieldLink gm_R_MD 9 "GrammarMachineModel" "fault" "I" ∈ gm_W := gm_in (List.mem_append_right _ (List.mem_append_right _ (List.mem_append_right _ (List.mem_append_right _ (List.mem_append_left _ (List.mem_of_getElem? (i := 141) rfl)))))) rfl
theorem gm_l_MD_13 : Cond.fieldLink gm_R_MD 13 "GrammarMachineModel" "text" "[I" ∈ gm_W := gm_in (List.mem_append_right _ (List.mem_append_right _ (List.mem_append_right _ (List.mem_append_right _ (List.mem_append_left _ (List.mem_of_getElem? (i := 143) rfl)))))) rfl
theorem gm_l_MD_17 : Cond.fieldLink gm_R_MD 17 "GrammarMachineModel" "base" "I" ∈ gm_W := gm_in (List.mem_append_right _ (List.mem_append_right _ (List.mem_append_right _ (List.mem_append_right _ (List.mem_append_left _ (List.mem_of_getElem? (i := 144) rfl)))))) rfl
theorem gm_l_MD_20 : Cond.fieldLink gm_R_MD 20 "GrammarMachineModel" "ruleCount" "[I" ∈ gm_W := gm_in (List.mem_append_right _ (List.mem_append_right _ (List.mem_append_right _ (List.mem_append_right _ (List.mem_append_left _ (List.mem_of_getElem? (i := 146) rfl)))))) rfl
theorem gm_l_MD_23 : Cond.fieldLink gm_R_MD 23 "GrammarMachineModel" "name" "[I" ∈ gm_W := gm_in (List.mem_append_right _ (List.mem_append_right _ (List.mem_append_right _ (List.mem_append_right _ (List.mem_append_left _ (List.mem_of_getElem? (i := 147) rfl)))))) rfl
theorem gm_l_MD_26 : Cond.fieldLink gm_R_MD 26 "GrammarMachineModel" "whole" "[I" ∈ gm_W := gm_in (List.mem_append_right _ (List.mem_append_right _ (List.mem_append_right _ (List.mem_append_right _ (List.mem_append_left _ (List.mem_of_getElem? (i := 148) rfl)))))) rfl
theorem gm_l_MD_29 : Cond.fieldLink gm_R_MD 29 "GrammarMachineModel" "parts" "[I" ∈ gm_W := gm_in (List.mem_append_right _ (List.mem_append_right _ (List.mem_append_right _ (List.mem_append_right _ (List.mem_append_left _ (List.mem_of_getElem? (i := 149) rfl)))))) rfl
theorem gm_l_MD_32 : Cond.fieldLink gm_R_MD 32 "GrammarMachineModel" "kind" "[I" ∈ gm_W := gm_in (List.mem_append_right _ (List.mem_append_right _ (List.mem_append_right _ (List.mem_append_right _ (List.mem_append_left _ (List.mem_of_getElem? (i := 150) rfl)))))) rfl
theorem gm_l_MD_35 : Cond.fieldLink gm_R_MD 35 "GrammarMachineModel" "one" "[I" ∈ gm_W := gm_in (List.mem_append_right _ (List.mem_append_right _ (List.mem_append_right _ (List.mem_append_right _ (List.mem_append_left _ (List.mem_of_getElem? (i := 151) rfl)))))) rfl
theorem gm_l_MD_38 : Cond.fieldLink gm_R_MD 38 "GrammarMachineModel" "two" "[I" ∈ gm_W := gm_in (List.mem_append_right _ (List.mem_append_right _ (List.mem_append_right _ (List.mem_append_right _ (List.mem_append_left _ (List.mem_of_getElem? (i := 152) rfl)))))) rfl
theorem gm_l_MD_41 : Cond.fieldLink gm_R_MD 41 "GrammarMachineModel" "owner" "[I" ∈ gm_W := gm_in (List.mem_append_right _ (List.mem_append_right _ (List.mem_append_right _ (List.mem_append_right _ (List.mem_append_left _ (List.mem_of_getElem? (i := 153) rfl)))))) rfl
theorem gm_l_MD_44 : Cond.fieldLink gm_R_MD 44 "GrammarMachineModel" "kept" "[I" ∈ gm_W := gm_in (List.mem_append_right _ (List.mem_append_right _ (List.mem_append_right _ (List.mem_append_right _ (List.mem_append_left _ (List.mem_of_getElem? (i := 154) rfl)))))) rfl
theorem gm_l_MD_47 : Cond.fieldLink gm_R_MD 47 "GrammarMachineModel" "empty" "[Z" ∈ gm_W := gm_in (List.mem_append_right _ (List.mem_append_right _ (List.mem_append_right _ (List.mem_append_right _ (List.mem_append_left _ (List.mem_of_getElem? (i := 155) rfl)))))) rfl
theorem gm_l_MD_51 : Cond.fieldLink gm_R_MD 51 "GrammarMachineModel" "begins" "[I" ∈ gm_W := gm_in (List.mem_append_right _ (List.mem_append_right _ (List.mem_append_right _ (List.mem_append_right _ (List.mem_append_left _ (List.mem_of_getElem? (i := 156) rfl)))))) rfl
theorem gm_l_MD_54 : Cond.fieldLink gm_R_MD 54 "GrammarMachineModel" "low" "[J" ∈ gm_W := gm_in (List.mem_append_right _ (List.mem_append_right _ (List.mem_append_right _ (List.mem_append_right _ (List.mem_append_left _ (List.mem_of_getElem? (i := 157) rfl)))))) rfl
theorem gm_l_MD_58 : Cond.fieldLink gm_R_MD 58 "GrammarMachineModel" "high" "[J" ∈ gm_W := gm_in (List.mem_append_right _ (List.mem_append_right _ (List.mem_append_right _ (List.mem_append_right _ (List.mem_append_left _ (List.mem_of_getElem? (i := 158) rfl)))))) rfl
theorem gm_l_MD_61 : Cond.fieldLink gm_R_MD 61 "GrammarMachineModel" "bracket" "[I" ∈ gm_W := gm_in (List.mem_append_right _ (List.mem_append_right _ (List.mem_append_right _ (List.mem_append_right _ (List.mem_append_left _ (List.mem_of_getElem? (i := 166) rfl)))))) rfl
theorem gm_l_MD_64 : Cond.fieldLink gm_R_MD 64 "GrammarMachineModel" "before" "[I" ∈ gm_W := gm_in (List.mem_append_right _ (List.mem_append_right _ (List.mem_append_right _ (List.mem_append_right _ (List.mem_append_left _ (List.mem_of_getElem? (i := 167) rfl)))))) rfl
theorem gm_l_MD_67 : Cond.fieldLink gm_R_MD 67 "GrammarMachineModel" "itemBase" "[I" ∈ gm_W := gm_in (List.mem_append_right _ (List.mem_append_right _ (List.mem_append_right _ (List.mem_append_right _ (List.mem_append_left _ (List.mem_of_getElem? (i := 168) rfl)))))) rfl
theorem gm_l_MD_70 : Cond.fieldLink gm_R_MD 70 "GrammarMachineModel" "alternativeBase" "[I" ∈ gm_W := gm_in (List.mem_append_right _ (List.mem_append_right _ (List.mem_append_right _ (List.mem_append_right _ (List.mem_append_left _ (List.mem_of_getElem? (i := 169) rfl)))))) rfl
theorem gm_l_MD_73 : Cond.fieldLink gm_R_MD 73 "GrammarMachineModel" "item" "[I" ∈ gm_W := gm_in (List.mem_append_right _ (List.mem_append_right _ (List.mem_append_right _ (List.mem_append_right _ (List.mem_append_left _ (List.mem_of_getElem? (i := 170) rfl)))))) rfl
theorem gm_l_MD_76 : Cond.fieldLink gm_R_MD 76 "GrammarMachineModel" "alternative" "[I" ∈ gm_W := gm_in (List.mem_append_right _ (List.mem_append_right _ (List.mem_append_right _ (List.mem_append_right _ (List.mem_append_left _ (List.mem_of_getElem? (i := 171) rfl)))))) rfl
theorem gm_l_MD_79 : Cond.fieldLink gm_R_MD 79 "GrammarMachineModel" "subject" "[I" ∈ gm_W := gm_in (List.mem_append_right _ (List.mem_append_right _ (List.mem_append_right _ (List.mem_append_right _ (List.mem_append_left _ (List.mem_of_getElem? (i := 173) rfl)))))) rfl
theorem gm_l_MD_82 : Cond.fieldLink gm_R_MD 82 "GrammarMachineModel" "takes" "[I" ∈ gm_W := gm_in (List.mem_append_right _ (List.mem_append_right _ (List.mem_append_right _ (List.mem_append_right _ (List.mem_append_left _ (List.mem_of_getElem? (i := 174) rfl)))))) rfl
theorem gm_l_MD_85 : Cond.fieldLink gm_R_MD 85 "GrammarMachineModel" "costs" "[I" ∈ gm_W := gm_in (List.mem_append_right _ (List.mem_append_right _ (List.mem_append_right _ (List.mem_append_right _ (List.mem_append_left _ (List.mem_of_getElem? (i := 175) rfl)))))) rfl
theorem gm_l_MD_88 : Cond.fieldLink gm_R_MD 88 "GrammarMachineModel" "met" "[Z" ∈ gm_W := gm_in (List.mem_append_right _ (List.mem_append_right _ (List.mem_append_right _ (List.mem_append_right _ (List.mem_append_left _ (List.mem_of_getElem? (i := 176) rfl)))))) rfl
theorem gm_l_MD_91 : Cond.fieldLink gm_R_MD 91 "GrammarMachineModel" "waiting" "[I" ∈ gm_W := gm_in (List.mem_append_right _ (List.mem_append_right _ (List.mem_append_right _ (List.mem_append_right _ (List.mem_append_left _ (List.mem_of_getElem? (i := 177) rfl)))))) rfl
theorem gm_l_MD_94 : Cond.fieldLink gm_R_MD 94 "GrammarMachineModel" "begin" "[I" ∈ gm_W := gm_in (List.mem_append_right _ (List.mem_append_right _ (List.mem_append_right _ (List.mem_append_right _ (List.mem_append_left _ (List.mem_of_getElem? (i := 182) rfl)))))) rfl
theorem gm_l_MD_97 : Cond.fieldLink gm_R_MD 97 "GrammarMachineModel" "end" "[I" ∈ gm_W := gm_in (List.mem_append_right _ (List.mem_append_right _ (List.mem_append_right _ (List.mem_append_right _ (List.mem_append_left _ (List.mem_of_getElem? (i := 183) rfl)))))) rfl
theorem gm_l_MD_100 : Cond.fieldLink gm_R_MD 100 "GrammarMachineModel" "inside" "[I" ∈ gm_W := gm_in (List.mem_append_right _ (List.mem_append_right _ (List.mem_append_right _ (List.mem_append_right _ (List.mem_append_left _ (List.mem_of_getElem? (i := 184) rfl)))))) rfl
