abbrev gm_b_GM_init : ByteArray := prog_1_method_1_code
def gm_y_GM_init : MethodName := ⟨gm_R_GM, "<init>", "()V"⟩
theorem gm_k_GM_init : Cond.code gm_y_GM_init gm_b_GM_init 1 none ∈ gm_W := gm_in (List.mem_append_right _ (List.mem_append_left _ (List.mem_of_getElem? (i := 24) rfl))) rfl
theorem gm_q_GM_init : Cond.instanceMethod gm_y_GM_init ∈ gm_W := gm_in (List.mem_append_right _ (List.mem_append_left _ (List.mem_of_getElem? (i := 23) rfl))) rfl
abbrev gm_b_Row_init : ByteArray := prog_8_method_1_code
def gm_y_Row_init : MethodName := ⟨gm_R_Row, "<init>", "(I)V"⟩
theorem gm_k_Row_init : Cond.code gm_y_Row_init gm_b_Row_init 2 none ∈ gm_W := gm_in (List.mem_append_right _ (List.mem_append_left _ (List.mem_of_getElem? (i := 32) rfl))) rfl
theorem gm_q_Row_init : Cond.instanceMethod gm_y_Row_init ∈ gm_W := gm_in (List.mem_append_right _ (List.mem_append_left _ (List.mem_of_getElem? (i := 31) rfl))) rfl
abbrev gm_b_Grammar_init : ByteArray := prog_4_method_1_code
def gm_y_Grammar_init : MethodName := ⟨gm_R_Grammar, "<init>", "(LGrammarMachine$Row;)V"⟩
theorem gm_k_Grammar_init : Cond.code gm_y_Grammar_init gm_b_Grammar_init 2 none ∈ gm_W := gm_in (List.mem_append_right _ (List.mem_append_left _ (List.mem_of_getElem? (i := 48) rfl))) rfl
theorem gm_q_Grammar_init : Cond.instanceMethod gm_y_Grammar_init ∈ gm_W := gm_in (List.mem_append_right _ (List.mem_append_left _ (List.mem_of_getElem? (i := 47) rfl))) rfl
abbrev gm_b_Tree_init : ByteArray := prog_10_method_1_code
def gm_y_Tree_init : MethodName := ⟨gm_R_Tree, "<init>", "()V"⟩
theorem gm_k_Tree_init : Cond.code gm_y_Tree_init gm_b_Tree_init 1 none ∈ gm_W := gm_in (List.mem_append_right _ (List.mem_append_left _ (List.mem_of_getElem? (i := 54) rfl))) rfl
theorem gm_q_Tree_init : Cond.instanceMethod gm_y_Tree_init ∈ gm_W := gm_in (List.mem_append_right _ (List.mem_append_left _ (List.mem_of_getElem? (i := 53) rfl))) rfl
abbrev gm_b_Judge_init : ByteArray := prog_5_method_1_code
def gm_y_Judge_init : MethodName := ⟨gm_R_Judge, "<init>", "(LGrammarMachine$Tree;)V"⟩
theorem gm_k_Judge_init : Cond.code gm_y_Judge_init gm_b_Judge_init 2 none ∈ gm_W := gm_in (List.mem_append_right _ (List.mem_append_left _ (List.mem_of_getElem? (i := 130) rfl))) rfl
theorem gm_q_Judge_init : Cond.instanceMethod gm_y_Judge_init ∈ gm_W := gm_in (List.mem_append_right _ (List.mem_append_left _ (List.mem_of_getElem? (i := 129) rfl))) rfl
abbrev gm_b_Code_init : ByteArray := prog_3_method_1_code
def gm_y_Code_init : MethodName := ⟨gm_R_Code, "<init>", "(LGrammarMachine$Tree;)V"⟩
theorem gm_k_Code_init : Cond.code gm_y_Code_init gm_b_Code_init 2 none ∈ gm_W := gm_in (List.mem_append_right _ (List.mem_append_left _ (List.mem_of_getElem? (i := 140) rfl))) rfl
theorem gm_q_Code_init : Cond.instanceMethod gm_y_Code_init ∈ gm_W := gm_in (List.mem_append_right _ (List.mem_append_left _ (List.mem_of_getElem? (i := 139) rfl))) rfl
abbrev gm_b_Reader_init : ByteArray := prog_7_method_1_code
def gm_y_Reader_init : MethodName := ⟨gm_R_Reader, "<init>", "(LGrammarMachine$Row;LGrammarMachine$Tree;)V"⟩
theorem gm_k_Reader_init : Cond.code gm_y_Reader_init gm_b_Reader_init 3 none ∈ gm_W := gm_in (List.mem_append_right _ (List.mem_append_left _ (List.mem_of_getElem? (i := 165) rfl))) rfl
theorem gm_q_Reader_init : Cond.instanceMethod gm_y_Reader_init ∈ gm_W := gm_in (List.mem_append_right _ (List.mem_append_left _ (List.mem_of_getElem? (i := 164) rfl))) rfl
abbrev gm_b_Runner_init : ByteArray := prog_9_method_1_code
def gm_y_Runner_init : MethodName := ⟨gm_R_Runner, "<init>", "(LGrammarMachine$Row;LGrammarMachine$Grammar;)V"⟩
theorem gm_k_Runner_init : Cond.code gm_y_Runner_init gm_b_Runner_init 3 none ∈ gm_W := gm_in (List.mem_append_right _ (List.mem_append_left _ (List.mem_of_getElem? (i := 209) rfl))) rfl
theorem gm_q_Runner_init : Cond.instanceMethod gm_y_Runner_init ∈ gm_W := gm_in (List.mem_append_right _ (List.mem_append_left _ (List.mem_of_getElem? (i := 208) rfl))) rfl
abbrev gm_b_Captures_init : ByteArray := prog_2_method_1_code
def gm_y_Captures_init : MethodName := ⟨gm_R_Captures, "<init>", "(I)V"⟩
theorem gm_k_Captures_init : Cond.code gm_y_Captures_init gm_b_Captures_init 2 none ∈ gm_W := gm_in (List.mem_append_right _ (List.mem_append_left _ (List.mem_of_getElem? (i := 215) rfl))) rfl
theorem gm_q_Captures_init : Cond.instanceMethod gm_y_Captures_init ∈ gm_W := gm_in (List.mem_append_right _ (List.mem_append_left _ (List.mem_of_getElem? (i := 214) rfl))) rfl
abbrev gm_b_Memory_init : ByteArray := prog_6_method_1_code
def gm_y_Memory_init : MethodName := ⟨gm_R_Memory, "<init>", "()V"⟩
theorem gm_k_Memory_init : Cond.code gm_y_Memory_init gm_b_Memory_init 1 none ∈ gm_W := gm_in (List.mem_append_right _ (List.mem_append_left _ (List.mem_of_getElem? (i := 236) rfl))) rfl
theorem gm_q_Memory_init : Cond.instanceMethod gm_y_Memory_init ∈ gm_W := gm_in (List.mem_append_right _ (List.mem_append_left _ (List.mem_of_getElem? (i := 235) rfl))) rfl
abbrev gm_b_GM_type : ByteArray := prog_1_method_2_code
def gm_y_GM_type : MethodName := ⟨gm_R_GM, "type", "(C)Z"⟩
theorem gm_k_GM_type : Cond.code gm_y_GM_type gm_b_GM_type 2 (some .boolean) ∈ gm_W := gm_in (List.mem_append_right _ (List.mem_append_right _ (List.mem_append_left _ (List.mem_of_getElem? (i := 89) rfl)))) rfl
theorem gm_q_GM_type : Cond.instanceMethod gm_y_GM_type ∈ gm_W := gm_in (List.mem_append_right _ (List.mem_append_right _ (List.mem_append_left _ (List.mem_of_getElem? (i := 87) rfl)))) rfl
theorem gm_s_GM_type : Cond.selects gm_R_GM gm_y_GM_type gm_y_GM_type ∈ gm_W := gm_in (List.mem_append_right _ (List.mem_append_right _ (List.mem_append_left _ (List.mem_of_getElem? (i := 88) rfl)))) rfl
abbrev gm_b_Row_append : ByteArray := prog_8_method_2_code
def gm_y_Row_append : MethodName := ⟨gm_R_Row, "append", "(C)Z"⟩
theorem gm_k_Row_append : Cond.code gm_y_Row_append gm_b_Row_append 2 (some .boolean) ∈ gm_W := gm_in (List.mem_append_right _ (List.mem_append_right _ (List.mem_append_left _ (List.mem_of_getElem? (i := 93) rfl)))) rfl
theorem gm_q_Row_append : Cond.instanceMethod gm_y_Row_append ∈ gm_W := gm_in (List.mem_append_right _ (List.mem_append_right _ (List.mem_append_left _ (List.mem_of_getElem? (i := 91) rfl)))) rfl
theorem gm_s_Row_append : Cond.selects gm_R_Row gm_y_Row_append gm_y_Row_append ∈ gm_W := gm_in (List.mem_append_right _ (List.mem_append_right _ (List.mem_append_left _ (List.mem_of_getElem? (i := 92) rfl)))) rfl
abbrev gm_b_GM_wipe : ByteArray := prog_1_method_3_code
def gm_y_GM_wipe : MethodName := ⟨gm_R_GM, "wipe", "()V"⟩
theorem gm_k_GM_wipe : Cond.code gm_y_GM_wipe gm_b_GM_wipe 1 none ∈ gm_W := gm_in (List.mem_append_right _ (List.mem_append_right _ (List.mem_append_left _ (List.mem_of_getElem? (i := 97) rfl)))) rfl
theorem gm_q_GM_wipe : Cond.instanceMethod gm_y_GM_wipe ∈ gm_W := gm_in (List.mem_append_right _ (List.mem_append_right _ (List.mem_append_left _ (List.mem_of_getElem? (i := 95) rfl)))) rfl
theorem gm_s_GM_wipe : Cond.selects gm_R_GM gm_y_GM_wipe gm_y_GM_wipe ∈ gm_W := gm_in (List.mem_append_right _ (List.mem_append_right _ (List.mem_append_left _ (List.mem_of_getElem? (i := 96) rfl)))) rfl
abbrev gm_b_GM_fault : ByteArray := prog_1_method_6_code
def gm_y_GM_fault : MethodName := ⟨gm_R_GM, "fault", "()I"⟩
theorem gm_k_GM_fault : Cond.code gm_y_GM_fault gm_b_GM_fault 1 (some .int) ∈ gm_W := gm_in (List.mem_append_right _ (List.mem_append_right _ (List.mem_append_left _ (List.mem_of_getElem? (i := 101) rfl)))) rfl
theorem gm_q_GM_fault : Cond.instanceMethod gm_y_GM_fault ∈ gm_W := gm_in (List.mem_append_right _ (List.mem_append_right _ (List.mem_append_left _ (List.mem_of_getElem? (i := 99) rfl)))) rfl
theorem gm_s_GM_fault : Cond.selects gm_R_GM gm_y_GM_fault gm_y_GM_fault ∈ gm_W := gm_in (List.mem_append_right _ (List.mem_append_right _ (List.mem_append_left _ (List.mem_of_getElem? (i := 100) rfl)))) rfl
abbrev gm_b_GM_feed : ByteArray := prog_1_method_9_code
def gm_y_GM_feed : MethodName := ⟨gm_R_GM, "feed", "(C)Z"⟩
theorem gm_k_GM_feed : Cond.code gm_y_GM_feed gm_b_GM_feed 3 (some .boolean) ∈ gm_W := gm_in (List.mem_append_right _ (List.mem_append_right _ (List.mem_append_left _ (List.mem_of_getElem? (i := 105) rfl)))) rfl
theorem gm_q_GM_feed : Cond.instanceMethod gm_y_GM_feed ∈ gm_W := gm_in (List.mem_append_right _ (List.mem_append_right _ (List.mem_append_left _ (List.mem_of_getElem? (i := 103) rfl)))) rfl
theorem gm_s_GM_feed : Cond.selects gm_R_GM gm_y_GM_feed gm_y_GM_feed ∈ gm_W := gm_in (List.mem_append_right _ (List.mem_append_right _ (List.mem_append_left _ (List.mem_of_getElem? (i := 104) rfl)))) rfl
abbrev gm_b_GM_clear : ByteArray := prog_1_method_10_code
def gm_y_GM_clear : MethodName := ⟨gm_R_GM, "clear", "()V"⟩
theorem gm_k_GM_clear : Cond.code gm_y_GM_clear gm_b_GM_clear 1 none ∈ gm_W := gm_in (List.mem_append_right _ (List.mem_append_right _ (List.mem_append_left _ (List.mem_of_getElem? (i := 109) rfl)))) rfl
theorem gm_q_GM_clear : Cond.instanceMethod gm_y_GM_clear ∈ gm_W := gm_in (List.mem_append_right _ (List.mem_append_right _ (List.mem_append_left _ (List.mem_of_getElem? (i := 107) rfl)))) rfl
theorem gm_s_GM_clear : Cond.selects gm_R_GM gm_y_GM_clear gm_y_GM_clear ∈ gm_W := gm_in (List.mem_append_right _ (List.mem_append_right _ (List.mem_append_left _ (List.mem_of_getElem? (i := 108) rfl)))) rfl
abbrev gm_b_GM_work : ByteArray := prog_1_method_12_code
def gm_y_GM_work : MethodName := ⟨gm_R_GM, "work", "()I"⟩
theorem gm_k_GM_work : Cond.code gm_y_GM_work gm_b_GM_work 1 (some .int) ∈ gm_W := gm_in (List.mem_append_right _ (List.mem_append_right _ (List.mem_append_left _ (List.mem_of_getElem? (i := 113) rfl)))) rfl
theorem gm_q_GM_work : Cond.instanceMethod gm_y_GM_work ∈ gm_W := gm_in (List.mem_append_right _ (List.mem_append_right _ (List.mem_append_left _ (List.mem_of_getElem? (i := 111) rfl)))) rfl
theorem gm_s_GM_work : Cond.selects gm_R_GM gm_y_GM_work gm_y_GM_work ∈ gm_W := gm_in (List.mem_append_right _ (List.mem_append_right _ (List.mem_append_left _ (List.mem_of_getElem? (i := 112) rfl)))) rfl
abbrev gm_b_GM_nodes : ByteArray := prog_1_method_13_code
def gm_y_GM_nodes : MethodName := ⟨gm_R_GM, "nodes", "()I"⟩
theorem gm_k_GM_nodes : Cond.code gm_y_GM_nodes gm_b_GM_nodes 1 (some .int) ∈ gm_W := gm_in (List.mem_append_right _ (List.mem_append_right _ (List.mem_append_left _ (List.mem_of_getElem? (i := 117) rfl)))) rfl
theorem gm_q_GM_nodes : Cond.instanceMethod gm_y_GM_nodes ∈ gm_W := gm_in (List.mem_append_right _ (List.mem_append_right _ (List.mem_append_left _ (List.mem_of_getElem? (i := 115) rfl)))) rfl
theorem gm_s_GM_nodes : Cond.selects gm_R_GM gm_y_GM_nodes gm_y_GM_nodes ∈ gm_W := gm_in (List.mem_append_right _ (List.mem_append_right _ (List.mem_append_left _ (List.mem_of_getElem? (i := 116) rfl)))) rfl
abbrev gm_b_LW_compile : ByteArray := method_3_code
def gm_y_LW_compile : MethodName := ⟨gm_R_LW, "compile", "(LGrammarMachine;[J)I"⟩
abbrev gm_h_LW_compile : List (Nat × Nat × Nat × Nat) := [(0, 8, 11, 13), (0, 8, 14, 15), (0, 8, 17, 17)]
theorem gm_k_LW_compile : Cond.codeWith gm_y_LW_compile gm_b_LW_compile 3 (some .int) gm_h_LW_compile ∈ gm_W := gm_in (List.mem_append_right _ (List.mem_append_right _ (List.mem_append_left _ (List.mem_of_getElem? (i := 120) rfl)))) rfl
theorem gm_q_LW_compile : Cond.static gm_y_LW_compile ∈ gm_W := gm_in (List.mem_append_right _ (List.mem_append_right _ (List.mem_append_left _ (List.mem_of_getElem? (i := 119) rfl)))) rfl
abbrev gm_b_GM_compile : ByteArray := prog_1_method_4_code
def gm_y_GM_compile : MethodName := ⟨gm_R_GM, "compile", "()I"⟩
theorem gm_k_GM_compile : Cond.code gm_y_GM_compile gm_b_GM_compile 1 (some .int) ∈ gm_W := gm_in (List.mem_append_right _ (List.mem_append_right _ (List.mem_append_left _ (List.mem_of_getElem? (i := 127) rfl)))) rfl
theorem gm_q_GM_compile : Cond.instanceMethod gm_y_GM_compile ∈ gm_W := gm_in (List.mem_append_right _ (List.mem_append_right _ (List.mem_append_left _ (List.mem_of_getElem? (i := 125) rfl)))) rfl
theorem gm_s_GM_compile : Cond.selects gm_R_GM gm_y_GM_compile gm_y_GM_compile ∈ gm_W := gm_in (List.mem_append_right _ (List.mem_append_right _ (List.mem_append_left _ (List.mem_of_getElem? (i := 126) rfl)))) rfl
abbrev gm_b_Reader_read : ByteArray := prog_7_method_2_code
def gm_y_Reader_read : MethodName := ⟨gm_R_Reader, "read", "()I"⟩
theorem gm_k_Reader_read : Cond.code gm_y_Reader_read gm_b_Reader_read 2 (some .int) ∈ gm_W := gm_in (List.mem_append_right _ (List.mem_append_right _ (List.mem_append_left _ (List.mem_of_getElem? (i := 131) rfl)))) rfl
theorem gm_q_Reader_read : Cond.instanceMethod gm_y_Reader_read ∈ gm_W := gm_in (List.mem_append_right _ (List.mem_append_right _ (List.mem_append_left _ (List.mem_of_getElem? (i := 129) rfl)))) rfl
theorem gm_s_Reader_read : Cond.selects gm_R_Reader gm_y_Reader_read gm_y_Reader_read ∈ gm_W := gm_in (List.mem_append_right _ (List.mem_append_right _ (List.mem_append_left _ (List.mem_of_getElem? (i := 130) rfl)))) rfl
abbrev gm_b_Tree_reset : ByteArray := prog_10_method_2_code
def gm_y_Tree_reset : MethodName := ⟨gm_R_Tree, "reset", "()V"⟩
theorem gm_k_Tree_reset : Cond.code gm_y_Tree_reset gm_b_Tree_reset 1 none ∈ gm_W := gm_in (List.mem_append_right _ (List.mem_append_right _ (List.mem_append_left _ (List.mem_of_getElem? (i := 135) rfl)))) rfl
theorem gm_q_Tree_reset : Cond.instanceMethod gm_y_Tree_reset ∈ gm_W := gm_in (List.mem_append_right _ (List.mem_append_right _ (List.mem_append_left _ (List.mem_of_getElem? (i := 133) rfl)))) rfl
theorem gm_s_Tree_reset : Cond.selects gm_R_Tree gm_y_Tree_reset gm_y_Tree_reset ∈ gm_W := gm_in (List.mem_append_right _ (List.mem_append_right _ (List.mem_append_left _ (List.mem_of_getElem? (i := 134) rfl)))) rfl
abbrev gm_b_Reader_readRule : ByteArray := prog_7_method_3_code
def gm_y_Reader_readRule : MethodName := ⟨gm_R_Reader, "readRule", "()V"⟩
theorem gm_k_Reader_readRule : Cond.code gm_y_Reader_readRule gm_b_Reader_readRule 2 none ∈ gm_W := gm_in (List.mem_append_right _ (List.mem_append_right _ (List.mem_append_left _ (List.mem_of_getElem? (i := 139) rfl)))) rfl
theorem gm_q_Reader_readRule : Cond.instanceMethod gm_y_Reader_readRule ∈ gm_W := gm_in (List.mem_append_right _ (List.mem_append_right _ (List.mem_append_left _ (List.mem_of_getElem? (i := 138) rfl)))) rfl
theorem gm_s_Reader_readRule : Cond.selects gm_R_Reader gm_y_Reader_readRule gm_y_Reader_readRule ∈ gm_W := gm_in (List.mem_append_left _ (List.mem_map.mpr ⟨(gm_y_Reader_readRule, 6), (List.mem_append_left _ (List.mem_of_getElem? (i := 0) rfl)), rfl⟩)) rfl
abbrev gm_b_Row_at : ByteArray := prog_8_method_3_code
def gm_y_Row_at : MethodName := ⟨gm_R_Row, "at", "(I)I"⟩
theorem gm_k_Row_at : Cond.code gm_y_Row_at gm_b_Row_at 2 (some .int) ∈ gm_W := gm_in (List.mem_append_right _ (List.mem_append_right _ (List.mem_append_left _ (List.mem_of_getElem? (i := 143) rfl)))) rfl
theorem gm_q_Row_at : Cond.instanceMethod gm_y_Row_at ∈ gm_W := gm_in (List.mem_append_right _ (List.mem_append_right _ (List.mem_append_left _ (List.mem_of_getElem? (i := 141) rfl)))) rfl
theorem gm_s_Row_at : Cond.selects gm_R_Row gm_y_Row_at gm_y_Row_at ∈ gm_W := gm_in (List.mem_append_right _ (List.mem_append_right _ (List.mem_append_left _ (List.mem_of_getElem? (i := 142) rfl)))) rfl
abbrev gm_b_Reader_isName : ByteArray := prog_7_method_15_code
def gm_y_Reader_isName : MethodName := ⟨gm_R_Reader, "isName", "(I)Z"⟩
theorem gm_k_Reader_isName : Cond.code gm_y_Reader_isName gm_b_Reader_isName 1 (some .boolean) ∈ gm_W := gm_in (List.mem_append_right _ (List.mem_append_right _ (List.mem_append_left _ (List.mem_of_getElem? (i := 146) rfl)))) rfl
theorem gm_q_Reader_isName : Cond.static gm_y_Reader_isName ∈ gm_W := gm_in (List.mem_append_right _ (List.mem_append_right _ (List.mem_append_left _ (List.mem_of_getElem? (i := 145) rfl)))) rfl
abbrev gm_b_Tree_ruleOf : ByteArray := prog_10_method_6_code
def gm_y_Tree_ruleOf : MethodName := ⟨gm_R_Tree, "ruleOf", "(I)I"⟩
theorem gm_k_Tree_ruleOf : Cond.code gm_y_Tree_ruleOf gm_b_Tree_ruleOf 3 (some .int) ∈ gm_W := gm_in (List.mem_append_right _ (List.mem_append_right _ (List.mem_append_left _ (List.mem_of_getElem? (i := 150) rfl)))) rfl
theorem gm_q_Tree_ruleOf : Cond.instanceMethod gm_y_Tree_ruleOf ∈ gm_W := gm_in (List.mem_append_right _ (List.mem_append_right _ (List.mem_append_left _ (List.mem_of_getElem? (i := 148) rfl)))) rfl
theorem gm_s_Tree_ruleOf : Cond.selects gm_R_Tree gm_y_Tree_ruleOf gm_y_Tree_ruleOf ∈ gm_W := gm_in (List.mem_append_right _ (List.mem_append_right _ (List.mem_append_left _ (List.mem_of_getElem? (i := 149) rfl)))) rfl
abbrev gm_b_Reader_need : ByteArray := prog_7_method_14_code
def gm_y_Reader_need : MethodName := ⟨gm_R_Reader, "need", "(C)V"⟩
theorem gm_k_Reader_need : Cond.code gm_y_Reader_need gm_b_Reader_need 2 none ∈ gm_W := gm_in (List.mem_append_right _ (List.mem_append_right _ (List.mem_append_left _ (List.mem_of_getElem? (i := 154) rfl)))) rfl
theorem gm_q_Reader_need : Cond.instanceMethod gm_y_Reader_need ∈ gm_W := gm_in (List.mem_append_right _ (List.mem_append_right _ (List.mem_append_left _ (List.mem_of_getElem? (i := 153) rfl)))) rfl
theorem gm_s_Reader_need : Cond.selects gm_R_Reader gm_y_Reader_need gm_y_Reader_need ∈ gm_W := gm_in (List.mem_append_left _ (List.mem_map.mpr ⟨(gm_y_Reader_need, 6), (List.mem_append_left _ (List.mem_of_getElem? (i := 1) rfl)), rfl⟩)) rfl
abbrev gm_b_Reader_take : ByteArray := prog_7_method_13_code
def gm_y_Reader_take : MethodName := ⟨gm_R_Reader, "take", "(C)Z"⟩
theorem gm_k_Reader_take : Cond.code gm_y_Reader_take gm_b_Reader_take 2 (some .boolean) ∈ gm_W := gm_in (List.mem_append_right _ (List.mem_append_right _ (List.mem_append_left _ (List.mem_of_getElem? (i := 158) rfl)))) rfl
theorem gm_q_Reader_take : Cond.instanceMethod gm_y_Reader_take ∈ gm_W := gm_in (List.mem_append_right _ (List.mem_append_right _ (List.mem_append_left _ (List.mem_of_getElem? (i := 157) rfl)))) rfl
theorem gm_s_Reader_take : Cond.selects gm_R_Reader gm_y_Reader_take gm_y_Reader_take ∈ gm_W := gm_in (List.mem_append_left _ (List.mem_map.mpr ⟨(gm_y_Reader_take, 6), (List.mem_append_left _ (List.mem_of_getElem? (i := 2) rfl)), rfl⟩)) rfl
abbrev gm_b_Reader_readExpression : ByteArray := prog_7_method_4_code
def gm_y_Reader_readExpression : MethodName := ⟨gm_R_Reader, "readExpression", "(I)V"⟩
theorem gm_k_Reader_readExpression : Cond.code gm_y_Reader_readExpression gm_b_Reader_readExpression 4 none ∈ gm_W := gm_in (List.mem_append_right _ (List.mem_append_right _ (List.mem_append_left _ (List.mem_of_getElem? (i := 162) rfl)))) rfl
theorem gm_q_Reader_readExpression : Cond.instanceMethod gm_y_Reader_readExpression ∈ gm_W := gm_in (List.mem_append_right _ (List.mem_append_right _ (List.mem_append_left _ (List.mem_of_getElem? (i := 161) rfl)))) rfl
theorem gm_s_Reader_readExpression : Cond.selects gm_R_Reader gm_y_Reader_readExpression gm_y_Reader_readExpression ∈ gm_W := gm_in (List.mem_append_left _ (List.mem_map.mpr ⟨(gm_y_Reader_readExpression, 6), (List.mem_append_left _ (List.mem_of_getElem? (i := 3) rfl)), rfl⟩)) rfl
abbrev gm_b_Reader_readSequence : ByteArray := prog_7_method_5_code
def gm_y_Reader_readSequence : MethodName := ⟨gm_R_Reader, "readSequence", "(I)V"⟩
theorem gm_k_Reader_readSequence : Cond.code gm_y_Reader_readSequence gm_b_Reader_readSequence 4 none ∈ gm_W := gm_in (List.mem_append_right _ (List.mem_append_right _ (List.mem_append_left _ (List.mem_of_getElem? (i := 166) rfl)))) rfl
theorem gm_q_Reader_readSequence : Cond.instanceMethod gm_y_Reader_readSequence ∈ gm_W := gm_in (List.mem_append_right _ (List.mem_append_right _ (List.mem_append_left _ (List.mem_of_getElem? (i := 165) rfl)))) rfl
theorem gm_s_Reader_readSequence : Cond.selects gm_R_Reader gm_y_Reader_readSequence gm_y_Reader_readSequence ∈ gm_W := gm_in (List.mem_append_left _ (List.mem_map.mpr ⟨(gm_y_Reader_readSequence, 6), (List.mem_append_left _ (List.mem_of_getElem? (i := 4) rfl)), rfl⟩)) rfl
abbrev gm_b_Reader_beginsPiece : ByteArray := prog_7_method_16_code
def gm_y_Reader_beginsPiece : MethodName := ⟨gm_R_Reader, "beginsPiece", "(I)Z"⟩
theorem gm_k_Reader_beginsPiece : Cond.code gm_y_Reader_beginsPiece gm_b_Reader_beginsPiece 1 (some .boolean) ∈ gm_W := gm_in (List.mem_append_right _ (List.mem_append_right _ (List.mem_append_left _ (List.mem_of_getElem? (i := 169) rfl)))) rfl
theorem gm_q_Reader_beginsPiece : Cond.static gm_y_Reader_beginsPiece ∈ gm_W := gm_in (List.mem_append_right _ (List.mem_append_right _ (List.mem_append_left _ (List.mem_of_getElem? (i := 168) rfl)))) rfl
abbrev gm_b_Reader_readPiece : ByteArray := prog_7_method_6_code
def gm_y_Reader_readPiece : MethodName := ⟨gm_R_Reader, "readPiece", "(I)V"⟩
theorem gm_k_Reader_readPiece : Cond.code gm_y_Reader_readPiece gm_b_Reader_readPiece 4 none ∈ gm_W := gm_in (List.mem_append_right _ (List.mem_append_right _ (List.mem_append_left _ (List.mem_of_getElem? (i := 173) rfl)))) rfl
theorem gm_q_Reader_readPiece : Cond.instanceMethod gm_y_Reader_readPiece ∈ gm_W := gm_in (List.mem_append_right _ (List.mem_append_right _ (List.mem_append_left _ (List.mem_of_getElem? (i := 172) rfl)))) rfl
theorem gm_s_Reader_readPiece : Cond.selects gm_R_Reader gm_y_Reader_readPiece gm_y_Reader_readPiece ∈ gm_W := gm_in (List.mem_append_left _ (List.mem_map.mpr ⟨(gm_y_Reader_readPiece, 6), (List.mem_append_left _ (List.mem_of_getElem? (i := 5) rfl)), rfl⟩)) rfl
abbrev gm_b_Reader_readPrimary : ByteArray := prog_7_method_7_code
def gm_y_Reader_readPrimary : MethodName := ⟨gm_R_Reader, "readPrimary", "(I)V"⟩
theorem gm_k_Reader_readPrimary : Cond.code gm_y_Reader_readPrimary gm_b_Reader_readPrimary 4 none ∈ gm_W := gm_in (List.mem_append_right _ (List.mem_append_right _ (List.mem_append_left _ (List.mem_of_getElem? (i := 177) rfl)))) rfl
theorem gm_q_Reader_readPrimary : Cond.instanceMethod gm_y_Reader_readPrimary ∈ gm_W := gm_in (List.mem_append_right _ (List.mem_append_right _ (List.mem_append_left _ (List.mem_of_getElem? (i := 176) rfl)))) rfl
theorem gm_s_Reader_readPrimary : Cond.selects gm_R_Reader gm_y_Reader_readPrimary gm_y_Reader_readPrimary ∈ gm_W := gm_in (List.mem_append_left _ (List.mem_map.mpr ⟨(gm_y_Reader_readPrimary, 6), (List.mem_append_left _ (List.mem_of_getElem? (i := 6) rfl)), rfl⟩)) rfl
abbrev gm_b_Tree_add : ByteArray := prog_10_method_3_code
def gm_y_Tree_add : MethodName := ⟨gm_R_Tree, "add", "(II)I"⟩
theorem gm_k_Tree_add : Cond.code gm_y_Tree_add gm_b_Tree_add 3 (some .int) ∈ gm_W := gm_in (List.mem_append_right _ (List.mem_append_right _ (List.mem_append_left _ (List.mem_of_getElem? (i := 181) rfl)))) rfl
theorem gm_q_Tree_add : Cond.instanceMethod gm_y_Tree_add ∈ gm_W := gm_in (List.mem_append_right _ (List.mem_append_right _ (List.mem_append_left _ (List.mem_of_getElem? (i := 179) rfl)))) rfl
theorem gm_s_Tree_add : Cond.selects gm_R_Tree gm_y_Tree_add gm_y_Tree_add ∈ gm_W := gm_in (List.mem_append_right _ (List.mem_append_right _ (List.mem_append_left _ (List.mem_of_getElem? (i := 180) rfl)))) rfl
abbrev gm_b_Reader_push : ByteArray := prog_7_method_11_code
def gm_y_Reader_push : MethodName := ⟨gm_R_Reader, "push", "(I)V"⟩
theorem gm_k_Reader_push : Cond.code gm_y_Reader_push gm_b_Reader_push 2 none ∈ gm_W := gm_in (List.mem_append_right _ (List.mem_append_right _ (List.mem_append_left _ (List.mem_of_getElem? (i := 185) rfl)))) rfl
theorem gm_q_Reader_push : Cond.instanceMethod gm_y_Reader_push ∈ gm_W := gm_in (List.mem_append_right _ (List.mem_append_right _ (List.mem_append_left _ (List.mem_of_getElem? (i := 184) rfl)))) rfl
theorem gm_s_Reader_push : Cond.selects gm_R_Reader gm_y_Reader_push gm_y_Reader_push ∈ gm_W := gm_in (List.mem_append_left _ (List.mem_map.mpr ⟨(gm_y_Reader_push, 6), (List.mem_append_left _ (List.mem_of_getElem? (i := 7) rfl)), rfl⟩)) rfl
abbrev gm_b_Reader_pushSet : ByteArray := prog_7_method_10_code
def gm_y_Reader_pushSet : MethodName := ⟨gm_R_Reader, "pushSet", "(II)V"⟩
theorem gm_k_Reader_pushSet : Cond.code gm_y_Reader_pushSet gm_b_Reader_pushSet 4 none ∈ gm_W := gm_in (List.mem_append_right _ (List.mem_append_right _ (List.mem_append_left _ (List.mem_of_getElem? (i := 189) rfl)))) rfl
theorem gm_q_Reader_pushSet : Cond.instanceMethod gm_y_Reader_pushSet ∈ gm_W := gm_in (List.mem_append_right _ (List.mem_append_right _ (List.mem_append_left _ (List.mem_of_getElem? (i := 188) rfl)))) rfl
theorem gm_s_Reader_pushSet : Cond.selects gm_R_Reader gm_y_Reader_pushSet gm_y_Reader_pushSet ∈ gm_W := gm_in (List.mem_append_left _ (List.mem_map.mpr ⟨(gm_y_Reader_pushSet, 6), (List.mem_append_left _ (List.mem_of_getElem? (i := 8) rfl)), rfl⟩)) rfl
abbrev gm_b_Tree_include : ByteArray := prog_10_method_10_code
def gm_y_Tree_include : MethodName := ⟨gm_R_Tree, "include", "(III)V"⟩
theorem gm_k_Tree_include : Cond.code gm_y_Tree_include gm_b_Tree_include 5 none ∈ gm_W := gm_in (List.mem_append_right _ (List.mem_append_right _ (List.mem_append_left _ (List.mem_of_getElem? (i := 193) rfl)))) rfl
theorem gm_q_Tree_include : Cond.instanceMethod gm_y_Tree_include ∈ gm_W := gm_in (List.mem_append_right _ (List.mem_append_right _ (List.mem_append_left _ (List.mem_of_getElem? (i := 191) rfl)))) rfl
theorem gm_s_Tree_include : Cond.selects gm_R_Tree gm_y_Tree_include gm_y_Tree_include ∈ gm_W := gm_in (List.mem_append_right _ (List.mem_append_right _ (List.mem_append_left _ (List.mem_of_getElem? (i := 192) rfl)))) rfl
abbrev gm_b_Reader_readRow : ByteArray := prog_7_method_8_code
def gm_y_Reader_readRow : MethodName := ⟨gm_R_Reader, "readRow", "()V"⟩
theorem gm_k_Reader_readRow : Cond.code gm_y_Reader_readRow gm_b_Reader_readRow 3 none ∈ gm_W := gm_in (List.mem_append_right _ (List.mem_append_right _ (List.mem_append_left _ (List.mem_of_getElem? (i := 197) rfl)))) rfl
theorem gm_q_Reader_readRow : Cond.instanceMethod gm_y_Reader_readRow ∈ gm_W := gm_in (List.mem_append_right _ (List.mem_append_right _ (List.mem_append_left _ (List.mem_of_getElem? (i := 196) rfl)))) rfl
theorem gm_s_Reader_readRow : Cond.selects gm_R_Reader gm_y_Reader_readRow gm_y_Reader_readRow ∈ gm_W := gm_in (List.mem_append_left _ (List.mem_map.mpr ⟨(gm_y_Reader_readRow, 6), (List.mem_append_left _ (List.mem_of_getElem? (i := 9) rfl)), rfl⟩)) rfl
abbrev gm_b_Reader_join : ByteArray := prog_7_method_12_code
def gm_y_Reader_join : MethodName := ⟨gm_R_Reader, "join", "(II)V"⟩
theorem gm_k_Reader_join : Cond.code gm_y_Reader_join gm_b_Reader_join 5 none ∈ gm_W := gm_in (List.mem_append_right _ (List.mem_append_right _ (List.mem_append_left _ (List.mem_of_getElem? (i := 201) rfl)))) rfl
theorem gm_q_Reader_join : Cond.instanceMethod gm_y_Reader_join ∈ gm_W := gm_in (List.mem_append_right _ (List.mem_append_right _ (List.mem_append_left _ (List.mem_of_getElem? (i := 200) rfl)))) rfl
theorem gm_s_Reader_join : Cond.selects gm_R_Reader gm_y_Reader_join gm_y_Reader_join ∈ gm_W := gm_in (List.mem_append_left _ (List.mem_map.mpr ⟨(gm_y_Reader_join, 6), (List.mem_append_left _ (List.mem_of_getElem? (i := 10) rfl)), rfl⟩)) rfl
abbrev gm_b_Tree_givePart : ByteArray := prog_10_method_4_code
def gm_y_Tree_givePart : MethodName := ⟨gm_R_Tree, "givePart", "(II)V"⟩
theorem gm_k_Tree_givePart : Cond.code gm_y_Tree_givePart gm_b_Tree_givePart 3 none ∈ gm_W := gm_in (List.mem_append_right _ (List.mem_append_right _ (List.mem_append_left _ (List.mem_of_getElem? (i := 205) rfl)))) rfl
theorem gm_q_Tree_givePart : Cond.instanceMethod gm_y_Tree_givePart ∈ gm_W := gm_in (List.mem_append_right _ (List.mem_append_right _ (List.mem_append_left _ (List.mem_of_getElem? (i := 203) rfl)))) rfl
theorem gm_s_Tree_givePart : Cond.selects gm_R_Tree gm_y_Tree_givePart gm_y_Tree_givePart ∈ gm_W := gm_in (List.mem_append_right _ (List.mem_append_right _ (List.mem_append_left _ (List.mem_of_getElem? (i := 204) rfl)))) rfl
abbrev gm_b_Reader_readClass : ByteArray := prog_7_method_9_code
def gm_y_Reader_readClass : MethodName := ⟨gm_R_Reader, "readClass", "()V"⟩
theorem gm_k_Reader_readClass : Cond.code gm_y_Reader_readClass gm_b_Reader_readClass 5 none ∈ gm_W := gm_in (List.mem_append_right _ (List.mem_append_right _ (List.mem_append_left _ (List.mem_of_getElem? (i := 209) rfl)))) rfl
theorem gm_q_Reader_readClass : Cond.instanceMethod gm_y_Reader_readClass ∈ gm_W := gm_in (List.mem_append_right _ (List.mem_append_right _ (List.mem_append_left _ (List.mem_of_getElem? (i := 208) rfl)))) rfl
theorem gm_s_Reader_readClass : Cond.selects gm_R_Reader gm_y_Reader_readClass gm_y_Reader_readClass ∈ gm_W := gm_in (List.mem_append_left _ (List.mem_map.mpr ⟨(gm_y_Reader_readClass, 6), (List.mem_append_left _ (List.mem_of_getElem? (i := 11) rfl)), rfl⟩)) rfl
abbrev gm_b_Tree_addRule : ByteArray := prog_10_method_5_code
def gm_y_Tree_addRule : MethodName := ⟨gm_R_Tree, "addRule", "(II)V"⟩
theorem gm_k_Tree_addRule : Cond.code gm_y_Tree_addRule gm_b_Tree_addRule 3 none ∈ gm_W := gm_in (List.mem_append_right _ (List.mem_append_right _ (List.mem_append_left _ (List.mem_of_getElem? (i := 213) rfl)))) rfl
theorem gm_q_Tree_addRule : Cond.instanceMethod gm_y_Tree_addRule ∈ gm_W := gm_in (List.mem_append_right _ (List.mem_append_right _ (List.mem_append_left _ (List.mem_of_getElem? (i := 211) rfl)))) rfl
theorem gm_s_Tree_addRule : Cond.selects gm_R_Tree gm_y_Tree_addRule gm_y_Tree_addRule ∈ gm_W := gm_in (List.mem_append_right _ (List.mem_append_right _ (List.mem_append_left _ (List.mem_of_getElem? (i := 212) rfl)))) rfl
abbrev gm_b_Judge_firstUndefined : ByteArray := prog_5_method_2_code
def gm_y_Judge_firstUndefined : MethodName := ⟨gm_R_Judge, "firstUndefined", "()I"⟩
theorem gm_k_Judge_firstUndefined : Cond.code gm_y_Judge_firstUndefined gm_b_Judge_firstUndefined 2 (some .int) ∈ gm_W := gm_in (List.mem_append_right _ (List.mem_append_right _ (List.mem_append_right _ (List.mem_append_left _ (List.mem_of_getElem? (i := 46) rfl))))) rfl
theorem gm_q_Judge_firstUndefined : Cond.instanceMethod gm_y_Judge_firstUndefined ∈ gm_W := gm_in (List.mem_append_right _ (List.mem_append_right _ (List.mem_append_right _ (List.mem_append_left _ (List.mem_of_getElem? (i := 44) rfl))))) rfl
theorem gm_s_Judge_firstUndefined : Cond.selects gm_R_Judge gm_y_Judge_firstUndefined gm_y_Judge_firstUndefined ∈ gm_W := gm_in (List.mem_append_right _ (List.mem_append_right _ (List.mem_append_right _ (List.mem_append_left _ (List.mem_of_getElem? (i := 45) rfl))))) rfl
abbrev gm_b_Judge_hasUnknownName : ByteArray := prog_5_method_3_code
def gm_y_Judge_hasUnknownName : MethodName := ⟨gm_R_Judge, "hasUnknownName", "(I)Z"⟩
theorem gm_k_Judge_hasUnknownName : Cond.code gm_y_Judge_hasUnknownName gm_b_Judge_hasUnknownName 3 (some .boolean) ∈ gm_W := gm_in (List.mem_append_right _ (List.mem_append_right _ (List.mem_append_right _ (List.mem_append_left _ (List.mem_of_getElem? (i := 50) rfl))))) rfl
theorem gm_q_Judge_hasUnknownName : Cond.instanceMethod gm_y_Judge_hasUnknownName ∈ gm_W := gm_in (List.mem_append_right _ (List.mem_append_right _ (List.mem_append_right _ (List.mem_append_left _ (List.mem_of_getElem? (i := 49) rfl))))) rfl
theorem gm_s_Judge_hasUnknownName : Cond.selects gm_R_Judge gm_y_Judge_hasUnknownName gm_y_Judge_hasUnknownName ∈ gm_W := gm_in (List.mem_append_left _ (List.mem_map.mpr ⟨(gm_y_Judge_hasUnknownName, 1), (List.mem_append_left _ (List.mem_of_getElem? (i := 13) rfl)), rfl⟩)) rfl
abbrev gm_b_Tree_firstNodeOf : ByteArray := prog_10_method_8_code
def gm_y_Tree_firstNodeOf : MethodName := ⟨gm_R_Tree, "firstNodeOf", "(I)I"⟩
theorem gm_k_Tree_firstNodeOf : Cond.code gm_y_Tree_firstNodeOf gm_b_Tree_firstNodeOf 2 (some .int) ∈ gm_W := gm_in (List.mem_append_right _ (List.mem_append_right _ (List.mem_append_right _ (List.mem_append_left _ (List.mem_of_getElem? (i := 54) rfl))))) rfl
theorem gm_q_Tree_firstNodeOf : Cond.instanceMethod gm_y_Tree_firstNodeOf ∈ gm_W := gm_in (List.mem_append_right _ (List.mem_append_right _ (List.mem_append_right _ (List.mem_append_left _ (List.mem_of_getElem? (i := 52) rfl))))) rfl
theorem gm_s_Tree_firstNodeOf : Cond.selects gm_R_Tree gm_y_Tree_firstNodeOf gm_y_Tree_firstNodeOf ∈ gm_W := gm_in (List.mem_append_right _ (List.mem_append_right _ (List.mem_append_right _ (List.mem_append_left _ (List.mem_of_getElem? (i := 53) rfl))))) rfl
abbrev gm_b_Judge_firstRunaway : ByteArray := prog_5_method_4_code
def gm_y_Judge_firstRunaway : MethodName := ⟨gm_R_Judge, "firstRunaway", "()I"⟩
theorem gm_k_Judge_firstRunaway : Cond.code gm_y_Judge_firstRunaway gm_b_Judge_firstRunaway 3 (some .int) ∈ gm_W := gm_in (List.mem_append_right _ (List.mem_append_right _ (List.mem_append_right _ (List.mem_append_left _ (List.mem_of_getElem? (i := 75) rfl))))) rfl
theorem gm_q_Judge_firstRunaway : Cond.instanceMethod gm_y_Judge_firstRunaway ∈ gm_W := gm_in (List.mem_append_right _ (List.mem_append_right _ (List.mem_append_right _ (List.mem_append_left _ (List.mem_of_getElem? (i := 73) rfl))))) rfl
theorem gm_s_Judge_firstRunaway : Cond.selects gm_R_Judge gm_y_Judge_firstRunaway gm_y_Judge_firstRunaway ∈ gm_W := gm_in (List.mem_append_right _ (List.mem_append_right _ (List.mem_append_right _ (List.mem_append_left _ (List.mem_of_getElem? (i := 74) rfl))))) rfl
abbrev gm_b_Judge_settleEmptiness : ByteArray := prog_5_method_6_code
def gm_y_Judge_settleEmptiness : MethodName := ⟨gm_R_Judge, "settleEmptiness", "()V"⟩
theorem gm_k_Judge_settleEmptiness : Cond.code gm_y_Judge_settleEmptiness gm_b_Judge_settleEmptiness 3 none ∈ gm_W := gm_in (List.mem_append_right _ (List.mem_append_right _ (List.mem_append_right _ (List.mem_append_left _ (List.mem_of_getElem? (i := 79) rfl))))) rfl
theorem gm_q_Judge_settleEmptiness : Cond.instanceMethod gm_y_Judge_settleEmptiness ∈ gm_W := gm_in (List.mem_append_right _ (List.mem_append_right _ (List.mem_append_right _ (List.mem_append_left _ (List.mem_of_getElem? (i := 78) rfl))))) rfl
theorem gm_s_Judge_settleEmptiness : Cond.selects gm_R_Judge gm_y_Judge_settleEmptiness gm_y_Judge_settleEmptiness ∈ gm_W := gm_in (List.mem_append_left _ (List.mem_map.mpr ⟨(gm_y_Judge_settleEmptiness, 1), (List.mem_append_left _ (List.mem_of_getElem? (i := 14) rfl)), rfl⟩)) rfl
abbrev gm_b_Judge_isEmptyByParts : ByteArray := prog_5_method_7_code
def gm_y_Judge_isEmptyByParts : MethodName := ⟨gm_R_Judge, "isEmptyByParts", "(I)Z"⟩
theorem gm_k_Judge_isEmptyByParts : Cond.code gm_y_Judge_isEmptyByParts gm_b_Judge_isEmptyByParts 2 (some .boolean) ∈ gm_W := gm_in (List.mem_append_right _ (List.mem_append_right _ (List.mem_append_right _ (List.mem_append_left _ (List.mem_of_getElem? (i := 83) rfl))))) rfl
theorem gm_q_Judge_isEmptyByParts : Cond.instanceMethod gm_y_Judge_isEmptyByParts ∈ gm_W := gm_in (List.mem_append_right _ (List.mem_append_right _ (List.mem_append_right _ (List.mem_append_left _ (List.mem_of_getElem? (i := 82) rfl))))) rfl
theorem gm_s_Judge_isEmptyByParts : Cond.selects gm_R_Judge gm_y_Judge_isEmptyByParts gm_y_Judge_isEmptyByParts ∈ gm_W := gm_in (List.mem_append_left _ (List.mem_map.mpr ⟨(gm_y_Judge_isEmptyByParts, 1), (List.mem_append_left _ (List.mem_of_getElem? (i := 15) rfl)), rfl⟩)) rfl
abbrev gm_b_Judge_rootBehind : ByteArray := prog_5_method_15_code
def gm_y_Judge_rootBehind : MethodName := ⟨gm_R_Judge, "rootBehind", "(I)I"⟩
theorem gm_k_Judge_rootBehind : Cond.code gm_y_Judge_rootBehind gm_b_Judge_rootBehind 3 (some .int) ∈ gm_W := gm_in (List.mem_append_right _ (List.mem_append_right _ (List.mem_append_right _ (List.mem_append_left _ (List.mem_of_getElem? (i := 87) rfl))))) rfl
theorem gm_q_Judge_rootBehind : Cond.instanceMethod gm_y_Judge_rootBehind ∈ gm_W := gm_in (List.mem_append_right _ (List.mem_append_right _ (List.mem_append_right _ (List.mem_append_left _ (List.mem_of_getElem? (i := 86) rfl))))) rfl
theorem gm_s_Judge_rootBehind : Cond.selects gm_R_Judge gm_y_Judge_rootBehind gm_y_Judge_rootBehind ∈ gm_W := gm_in (List.mem_append_left _ (List.mem_map.mpr ⟨(gm_y_Judge_rootBehind, 1), (List.mem_append_right _ (List.mem_append_left _ (List.mem_of_getElem? (i := 0) rfl))), rfl⟩)) rfl
abbrev gm_b_Tree_rootOf : ByteArray := prog_10_method_7_code
def gm_y_Tree_rootOf : MethodName := ⟨gm_R_Tree, "rootOf", "(I)I"⟩
theorem gm_k_Tree_rootOf : Cond.code gm_y_Tree_rootOf gm_b_Tree_rootOf 3 (some .int) ∈ gm_W := gm_in (List.mem_append_right _ (List.mem_append_right _ (List.mem_append_right _ (List.mem_append_left _ (List.mem_of_getElem? (i := 91) rfl))))) rfl
theorem gm_q_Tree_rootOf : Cond.instanceMethod gm_y_Tree_rootOf ∈ gm_W := gm_in (List.mem_append_right _ (List.mem_append_right _ (List.mem_append_right _ (List.mem_append_left _ (List.mem_of_getElem? (i := 89) rfl))))) rfl
theorem gm_s_Tree_rootOf : Cond.selects gm_R_Tree gm_y_Tree_rootOf gm_y_Tree_rootOf ∈ gm_W := gm_in (List.mem_append_right _ (List.mem_append_right _ (List.mem_append_right _ (List.mem_append_left _ (List.mem_of_getElem? (i := 90) rfl))))) rfl
abbrev gm_b_Judge_emptyParts : ByteArray := prog_5_method_8_code
def gm_y_Judge_emptyParts : MethodName := ⟨gm_R_Judge, "emptyParts", "(I)I"⟩
theorem gm_k_Judge_emptyParts : Cond.code gm_y_Judge_emptyParts gm_b_Judge_emptyParts 4 (some .int) ∈ gm_W := gm_in (List.mem_append_right _ (List.mem_append_right _ (List.mem_append_right _ (List.mem_append_left _ (List.mem_of_getElem? (i := 96) rfl))))) rfl
theorem gm_q_Judge_emptyParts : Cond.instanceMethod gm_y_Judge_emptyParts ∈ gm_W := gm_in (List.mem_append_right _ (List.mem_append_right _ (List.mem_append_right _ (List.mem_append_left _ (List.mem_of_getElem? (i := 95) rfl))))) rfl
theorem gm_s_Judge_emptyParts : Cond.selects gm_R_Judge gm_y_Judge_emptyParts gm_y_Judge_emptyParts ∈ gm_W := gm_in (List.mem_append_left _ (List.mem_map.mpr ⟨(gm_y_Judge_emptyParts, 1), (List.mem_append_right _ (List.mem_append_left _ (List.mem_of_getElem? (i := 1) rfl))), rfl⟩)) rfl
abbrev gm_b_Tree_partOf : ByteArray := prog_10_method_9_code
def gm_y_Tree_partOf : MethodName := ⟨gm_R_Tree, "partOf", "(I)I"⟩
theorem gm_k_Tree_partOf : Cond.code gm_y_Tree_partOf gm_b_Tree_partOf 2 (some .int) ∈ gm_W := gm_in (List.mem_append_right _ (List.mem_append_right _ (List.mem_append_right _ (List.mem_append_left _ (List.mem_of_getElem? (i := 100) rfl))))) rfl
theorem gm_q_Tree_partOf : Cond.instanceMethod gm_y_Tree_partOf ∈ gm_W := gm_in (List.mem_append_right _ (List.mem_append_right _ (List.mem_append_right _ (List.mem_append_left _ (List.mem_of_getElem? (i := 98) rfl))))) rfl
theorem gm_s_Tree_partOf : Cond.selects gm_R_Tree gm_y_Tree_partOf gm_y_Tree_partOf ∈ gm_W := gm_in (List.mem_append_right _ (List.mem_append_right _ (List.mem_append_right _ (List.mem_append_left _ (List.mem_of_getElem? (i := 99) rfl))))) rfl
abbrev gm_b_Judge_settleBeginnings : ByteArray := prog_5_method_9_code
def gm_y_Judge_settleBeginnings : MethodName := ⟨gm_R_Judge, "settleBeginnings", "()V"⟩
theorem gm_k_Judge_settleBeginnings : Cond.code gm_y_Judge_settleBeginnings gm_b_Judge_settleBeginnings 3 none ∈ gm_W := gm_in (List.mem_append_right _ (List.mem_append_right _ (List.mem_append_right _ (List.mem_append_left _ (List.mem_of_getElem? (i := 104) rfl))))) rfl
theorem gm_q_Judge_settleBeginnings : Cond.instanceMethod gm_y_Judge_settleBeginnings ∈ gm_W := gm_in (List.mem_append_right _ (List.mem_append_right _ (List.mem_append_right _ (List.mem_append_left _ (List.mem_of_getElem? (i := 103) rfl))))) rfl
theorem gm_s_Judge_settleBeginnings : Cond.selects gm_R_Judge gm_y_Judge_settleBeginnings gm_y_Judge_settleBeginnings ∈ gm_W := gm_in (List.mem_append_left _ (List.mem_map.mpr ⟨(gm_y_Judge_settleBeginnings, 1), (List.mem_append_right _ (List.mem_append_left _ (List.mem_of_getElem? (i := 2) rfl))), rfl⟩)) rfl
abbrev gm_b_Judge_beginningsByParts : ByteArray := prog_5_method_10_code
def gm_y_Judge_beginningsByParts : MethodName := ⟨gm_R_Judge, "beginningsByParts", "(I)I"⟩
theorem gm_k_Judge_beginningsByParts : Cond.code gm_y_Judge_beginningsByParts gm_b_Judge_beginningsByParts 4 (some .int) ∈ gm_W := gm_in (List.mem_append_right _ (List.mem_append_right _ (List.mem_append_right _ (List.mem_append_left _ (List.mem_of_getElem? (i := 108) rfl))))) rfl
theorem gm_q_Judge_beginningsByParts : Cond.instanceMethod gm_y_Judge_beginningsByParts ∈ gm_W := gm_in (List.mem_append_right _ (List.mem_append_right _ (List.mem_append_right _ (List.mem_append_left _ (List.mem_of_getElem? (i := 107) rfl))))) rfl
theorem gm_s_Judge_beginningsByParts : Cond.selects gm_R_Judge gm_y_Judge_beginningsByParts gm_y_Judge_beginningsByParts ∈ gm_W := gm_in (List.mem_append_left _ (List.mem_map.mpr ⟨(gm_y_Judge_beginningsByParts, 1), (List.mem_append_right _ (List.mem_append_left _ (List.mem_of_getElem? (i := 3) rfl))), rfl⟩)) rfl
abbrev gm_b_Judge_hidesTheRest : ByteArray := prog_5_method_14_code
def gm_y_Judge_hidesTheRest : MethodName := ⟨gm_R_Judge, "hidesTheRest", "(II)Z"⟩
theorem gm_k_Judge_hidesTheRest : Cond.code gm_y_Judge_hidesTheRest gm_b_Judge_hidesTheRest 3 (some .boolean) ∈ gm_W := gm_in (List.mem_append_right _ (List.mem_append_right _ (List.mem_append_right _ (List.mem_append_left _ (List.mem_of_getElem? (i := 112) rfl))))) rfl
theorem gm_q_Judge_hidesTheRest : Cond.instanceMethod gm_y_Judge_hidesTheRest ∈ gm_W := gm_in (List.mem_append_right _ (List.mem_append_right _ (List.mem_append_right _ (List.mem_append_left _ (List.mem_of_getElem? (i := 111) rfl))))) rfl
theorem gm_s_Judge_hidesTheRest : Cond.selects gm_R_Judge gm_y_Judge_hidesTheRest gm_y_Judge_hidesTheRest ∈ gm_W := gm_in (List.mem_append_left _ (List.mem_map.mpr ⟨(gm_y_Judge_hidesTheRest, 1), (List.mem_append_right _ (List.mem_append_left _ (List.mem_of_getElem? (i := 4) rfl))), rfl⟩)) rfl
abbrev gm_b_Judge_isEndless : ByteArray := prog_5_method_5_code
def gm_y_Judge_isEndless : MethodName := ⟨gm_R_Judge, "isEndless", "(I)Z"⟩
theorem gm_k_Judge_isEndless : Cond.code gm_y_Judge_isEndless gm_b_Judge_isEndless 5 (some .boolean) ∈ gm_W := gm_in (List.mem_append_right _ (List.mem_append_right _ (List.mem_append_right _ (List.mem_append_left _ (List.mem_of_getElem? (i := 116) rfl))))) rfl
theorem gm_q_Judge_isEndless : Cond.instanceMethod gm_y_Judge_isEndless ∈ gm_W := gm_in (List.mem_append_right _ (List.mem_append_right _ (List.mem_append_right _ (List.mem_append_left _ (List.mem_of_getElem? (i := 115) rfl))))) rfl
theorem gm_s_Judge_isEndless : Cond.selects gm_R_Judge gm_y_Judge_isEndless gm_y_Judge_isEndless ∈ gm_W := gm_in (List.mem_append_left _ (List.mem_map.mpr ⟨(gm_y_Judge_isEndless, 1), (List.mem_append_right _ (List.mem_append_left _ (List.mem_of_getElem? (i := 5) rfl))), rfl⟩)) rfl
abbrev gm_b_Judge_settleHeads : ByteArray := prog_5_method_11_code
def gm_y_Judge_settleHeads : MethodName := ⟨gm_R_Judge, "settleHeads", "()V"⟩
theorem gm_k_Judge_settleHeads : Cond.code gm_y_Judge_settleHeads gm_b_Judge_settleHeads 3 none ∈ gm_W := gm_in (List.mem_append_right _ (List.mem_append_right _ (List.mem_append_right _ (List.mem_append_left _ (List.mem_of_getElem? (i := 136) rfl))))) rfl
theorem gm_q_Judge_settleHeads : Cond.instanceMethod gm_y_Judge_settleHeads ∈ gm_W := gm_in (List.mem_append_right _ (List.mem_append_right _ (List.mem_append_right _ (List.mem_append_left _ (List.mem_of_getElem? (i := 134) rfl))))) rfl
theorem gm_s_Judge_settleHeads : Cond.selects gm_R_Judge gm_y_Judge_settleHeads gm_y_Judge_settleHeads ∈ gm_W := gm_in (List.mem_append_right _ (List.mem_append_right _ (List.mem_append_right _ (List.mem_append_left _ (List.mem_of_getElem? (i := 135) rfl))))) rfl
abbrev gm_b_Judge_settleHead : ByteArray := prog_5_method_12_code
def gm_y_Judge_settleHead : MethodName := ⟨gm_R_Judge, "settleHead", "(I)V"⟩
theorem gm_k_Judge_settleHead : Cond.code gm_y_Judge_settleHead gm_b_Judge_settleHead 4 none ∈ gm_W := gm_in (List.mem_append_right _ (List.mem_append_right _ (List.mem_append_right _ (List.mem_append_left _ (List.mem_of_getElem? (i := 140) rfl))))) rfl
theorem gm_q_Judge_settleHead : Cond.instanceMethod gm_y_Judge_settleHead ∈ gm_W := gm_in (List.mem_append_right _ (List.mem_append_right _ (List.mem_append_right _ (List.mem_append_left _ (List.mem_of_getElem? (i := 139) rfl))))) rfl
theorem gm_s_Judge_settleHead : Cond.selects gm_R_Judge gm_y_Judge_settleHead gm_y_Judge_settleHead ∈ gm_W := gm_in (List.mem_append_left _ (List.mem_map.mpr ⟨(gm_y_Judge_settleHead, 1), (List.mem_append_right _ (List.mem_append_left _ (List.mem_of_getElem? (i := 6) rfl))), rfl⟩)) rfl
abbrev gm_b_Judge_addHead : ByteArray := prog_5_method_13_code
def gm_y_Judge_addHead : MethodName := ⟨gm_R_Judge, "addHead", "(II)V"⟩
theorem gm_k_Judge_addHead : Cond.code gm_y_Judge_addHead gm_b_Judge_addHead 3 none ∈ gm_W := gm_in (List.mem_append_right _ (List.mem_append_right _ (List.mem_append_right _ (List.mem_append_left _ (List.mem_of_getElem? (i := 144) rfl))))) rfl
theorem gm_q_Judge_addHead : Cond.instanceMethod gm_y_Judge_addHead ∈ gm_W := gm_in (List.mem_append_right _ (List.mem_append_right _ (List.mem_append_right _ (List.mem_append_left _ (List.mem_of_getElem? (i := 143) rfl))))) rfl
theorem gm_s_Judge_addHead : Cond.selects gm_R_Judge gm_y_Judge_addHead gm_y_Judge_addHead ∈ gm_W := gm_in (List.mem_append_left _ (List.mem_map.mpr ⟨(gm_y_Judge_addHead, 1), (List.mem_append_right _ (List.mem_append_left _ (List.mem_of_getElem? (i := 7) rfl))), rfl⟩)) rfl
abbrev gm_b_Code_write : ByteArray := prog_3_method_6_code
def gm_y_Code_write : MethodName := ⟨gm_R_Code, "write", "()V"⟩
theorem gm_k_Code_write : Cond.code gm_y_Code_write gm_b_Code_write 2 none ∈ gm_W := gm_in (List.mem_append_right _ (List.mem_append_right _ (List.mem_append_right _ (List.mem_append_left _ (List.mem_of_getElem? (i := 148) rfl))))) rfl
theorem gm_q_Code_write : Cond.instanceMethod gm_y_Code_write ∈ gm_W := gm_in (List.mem_append_right _ (List.mem_append_right _ (List.mem_append_right _ (List.mem_append_left _ (List.mem_of_getElem? (i := 146) rfl))))) rfl
theorem gm_s_Code_write : Cond.selects gm_R_Code gm_y_Code_write gm_y_Code_write ∈ gm_W := gm_in (List.mem_append_right _ (List.mem_append_right _ (List.mem_append_right _ (List.mem_append_left _ (List.mem_of_getElem? (i := 147) rfl))))) rfl
abbrev gm_b_Code_add : ByteArray := prog_3_method_16_code
def gm_y_Code_add : MethodName := ⟨gm_R_Code, "add", "(II)I"⟩
theorem gm_k_Code_add : Cond.code gm_y_Code_add gm_b_Code_add 3 (some .int) ∈ gm_W := gm_in (List.mem_append_right _ (List.mem_append_right _ (List.mem_append_right _ (List.mem_append_left _ (List.mem_of_getElem? (i := 152) rfl))))) rfl
theorem gm_q_Code_add : Cond.instanceMethod gm_y_Code_add ∈ gm_W := gm_in (List.mem_append_right _ (List.mem_append_right _ (List.mem_append_right _ (List.mem_append_left _ (List.mem_of_getElem? (i := 151) rfl))))) rfl
theorem gm_s_Code_add : Cond.selects gm_R_Code gm_y_Code_add gm_y_Code_add ∈ gm_W := gm_in (List.mem_append_left _ (List.mem_map.mpr ⟨(gm_y_Code_add, 6), (List.mem_append_right _ (List.mem_append_left _ (List.mem_of_getElem? (i := 8) rfl))), rfl⟩)) rfl
abbrev gm_b_Code_writeNode : ByteArray := prog_3_method_7_code
def gm_y_Code_writeNode : MethodName := ⟨gm_R_Code, "writeNode", "(II)V"⟩
theorem gm_k_Code_writeNode : Cond.code gm_y_Code_writeNode gm_b_Code_writeNode 4 none ∈ gm_W := gm_in (List.mem_append_right _ (List.mem_append_right _ (List.mem_append_right _ (List.mem_append_left _ (List.mem_of_getElem? (i := 156) rfl))))) rfl
theorem gm_q_Code_writeNode : Cond.instanceMethod gm_y_Code_writeNode ∈ gm_W := gm_in (List.mem_append_right _ (List.mem_append_right _ (List.mem_append_right _ (List.mem_append_left _ (List.mem_of_getElem? (i := 155) rfl))))) rfl
theorem gm_s_Code_writeNode : Cond.selects gm_R_Code gm_y_Code_writeNode gm_y_Code_writeNode ∈ gm_W := gm_in (List.mem_append_left _ (List.mem_map.mpr ⟨(gm_y_Code_writeNode, 6), (List.mem_append_right _ (List.mem_append_left _ (List.mem_of_getElem? (i := 9) rfl))), rfl⟩)) rfl
abbrev gm_b_Code_writeSequence : ByteArray := prog_3_method_8_code
def gm_y_Code_writeSequence : MethodName := ⟨gm_R_Code, "writeSequence", "(II)V"⟩
theorem gm_k_Code_writeSequence : Cond.code gm_y_Code_writeSequence gm_b_Code_writeSequence 4 none ∈ gm_W := gm_in (List.mem_append_right _ (List.mem_append_right _ (List.mem_append_right _ (List.mem_append_left _ (List.mem_of_getElem? (i := 162) rfl))))) rfl
theorem gm_q_Code_writeSequence : Cond.instanceMethod gm_y_Code_writeSequence ∈ gm_W := gm_in (List.mem_append_right _ (List.mem_append_right _ (List.mem_append_right _ (List.mem_append_left _ (List.mem_of_getElem? (i := 161) rfl))))) rfl
theorem gm_s_Code_writeSequence : Cond.selects gm_R_Code gm_y_Code_writeSequence gm_y_Code_writeSequence ∈ gm_W := gm_in (List.mem_append_left _ (List.mem_map.mpr ⟨(gm_y_Code_writeSequence, 6), (List.mem_append_right _ (List.mem_append_left _ (List.mem_of_getElem? (i := 10) rfl))), rfl⟩)) rfl
abbrev gm_b_Code_writeChoice : ByteArray := prog_3_method_9_code
def gm_y_Code_writeChoice : MethodName := ⟨gm_R_Code, "writeChoice", "(II)V"⟩
theorem gm_k_Code_writeChoice : Cond.code gm_y_Code_writeChoice gm_b_Code_writeChoice 6 none ∈ gm_W := gm_in (List.mem_append_right _ (List.mem_append_right _ (List.mem_append_right _ (List.mem_append_left _ (List.mem_of_getElem? (i := 166) rfl))))) rfl
theorem gm_q_Code_writeChoice : Cond.instanceMethod gm_y_Code_writeChoice ∈ gm_W := gm_in (List.mem_append_right _ (List.mem_append_right _ (List.mem_append_right _ (List.mem_append_left _ (List.mem_of_getElem? (i := 165) rfl))))) rfl
theorem gm_s_Code_writeChoice : Cond.selects gm_R_Code gm_y_Code_writeChoice gm_y_Code_writeChoice ∈ gm_W := gm_in (List.mem_append_left _ (List.mem_map.mpr ⟨(gm_y_Code_writeChoice, 6), (List.mem_append_right _ (List.mem_append_left _ (List.mem_of_getElem? (i := 11) rfl))), rfl⟩)) rfl
abbrev gm_b_Code_writeTried : ByteArray := prog_3_method_10_code
def gm_y_Code_writeTried : MethodName := ⟨gm_R_Code, "writeTried", "(II)V"⟩
theorem gm_k_Code_writeTried : Cond.code gm_y_Code_writeTried gm_b_Code_writeTried 5 none ∈ gm_W := gm_in (List.mem_append_right _ (List.mem_append_right _ (List.mem_append_right _ (List.mem_append_left _ (List.mem_of_getElem? (i := 170) rfl))))) rfl
theorem gm_q_Code_writeTried : Cond.instanceMethod gm_y_Code_writeTried ∈ gm_W := gm_in (List.mem_append_right _ (List.mem_append_right _ (List.mem_append_right _ (List.mem_append_left _ (List.mem_of_getElem? (i := 169) rfl))))) rfl
theorem gm_s_Code_writeTried : Cond.selects gm_R_Code gm_y_Code_writeTried gm_y_Code_writeTried ∈ gm_W := gm_in (List.mem_append_left _ (List.mem_map.mpr ⟨(gm_y_Code_writeTried, 6), (List.mem_append_right _ (List.mem_append_left _ (List.mem_of_getElem? (i := 12) rfl))), rfl⟩)) rfl
abbrev gm_b_Code_writeLook : ByteArray := prog_3_method_15_code
def gm_y_Code_writeLook : MethodName := ⟨gm_R_Code, "writeLook", "(I)I"⟩
theorem gm_k_Code_writeLook : Cond.code gm_y_Code_writeLook gm_b_Code_writeLook 2 (some .int) ∈ gm_W := gm_in (List.mem_append_right _ (List.mem_append_right _ (List.mem_append_right _ (List.mem_append_left _ (List.mem_of_getElem? (i := 174) rfl))))) rfl
theorem gm_q_Code_writeLook : Cond.instanceMethod gm_y_Code_writeLook ∈ gm_W := gm_in (List.mem_append_right _ (List.mem_append_right _ (List.mem_append_right _ (List.mem_append_left _ (List.mem_of_getElem? (i := 173) rfl))))) rfl
theorem gm_s_Code_writeLook : Cond.selects gm_R_Code gm_y_Code_writeLook gm_y_Code_writeLook ∈ gm_W := gm_in (List.mem_append_left _ (List.mem_map.mpr ⟨(gm_y_Code_writeLook, 6), (List.mem_append_right _ (List.mem_append_left _ (List.mem_of_getElem? (i := 13) rfl))), rfl⟩)) rfl
abbrev gm_b_Code_writeBetween : ByteArray := prog_3_method_14_code
def gm_y_Code_writeBetween : MethodName := ⟨gm_R_Code, "writeBetween", "(IIII)I"⟩
theorem gm_k_Code_writeBetween : Cond.code gm_y_Code_writeBetween gm_b_Code_writeBetween 6 (some .int) ∈ gm_W := gm_in (List.mem_append_right _ (List.mem_append_right _ (List.mem_append_right _ (List.mem_append_left _ (List.mem_of_getElem? (i := 178) rfl))))) rfl
theorem gm_q_Code_writeBetween : Cond.instanceMethod gm_y_Code_writeBetween ∈ gm_W := gm_in (List.mem_append_right _ (List.mem_append_right _ (List.mem_append_right _ (List.mem_append_left _ (List.mem_of_getElem? (i := 177) rfl))))) rfl
theorem gm_s_Code_writeBetween : Cond.selects gm_R_Code gm_y_Code_writeBetween gm_y_Code_writeBetween ∈ gm_W := gm_in (List.mem_append_left _ (List.mem_map.mpr ⟨(gm_y_Code_writeBetween, 6), (List.mem_append_right _ (List.mem_append_left _ (List.mem_of_getElem? (i := 14) rfl))), rfl⟩)) rfl
abbrev gm_b_Code_aim : ByteArray := prog_3_method_17_code
def gm_y_Code_aim : MethodName := ⟨gm_R_Code, "aim", "(I)V"⟩
theorem gm_k_Code_aim : Cond.code gm_y_Code_aim gm_b_Code_aim 2 none ∈ gm_W := gm_in (List.mem_append_right _ (List.mem_append_right _ (List.mem_append_right _ (List.mem_append_left _ (List.mem_of_getElem? (i := 182) rfl))))) rfl
theorem gm_q_Code_aim : Cond.instanceMethod gm_y_Code_aim ∈ gm_W := gm_in (List.mem_append_right _ (List.mem_append_right _ (List.mem_append_right _ (List.mem_append_left _ (List.mem_of_getElem? (i := 181) rfl))))) rfl
theorem gm_s_Code_aim : Cond.selects gm_R_Code gm_y_Code_aim gm_y_Code_aim ∈ gm_W := gm_in (List.mem_append_left _ (List.mem_map.mpr ⟨(gm_y_Code_aim, 6), (List.mem_append_right _ (List.mem_append_left _ (List.mem_of_getElem? (i := 15) rfl))), rfl⟩)) rfl
abbrev gm_b_Code_aimCommitsFrom : ByteArray := prog_3_method_11_code
def gm_y_Code_aimCommitsFrom : MethodName := ⟨gm_R_Code, "aimCommitsFrom", "(I)V"⟩
theorem gm_k_Code_aimCommitsFrom : Cond.code gm_y_Code_aimCommitsFrom gm_b_Code_aimCommitsFrom 3 none ∈ gm_W := gm_in (List.mem_append_right _ (List.mem_append_right _ (List.mem_append_right _ (List.mem_append_left _ (List.mem_of_getElem? (i := 186) rfl))))) rfl
theorem gm_q_Code_aimCommitsFrom : Cond.instanceMethod gm_y_Code_aimCommitsFrom ∈ gm_W := gm_in (List.mem_append_right _ (List.mem_append_right _ (List.mem_append_right _ (List.mem_append_left _ (List.mem_of_getElem? (i := 185) rfl))))) rfl
theorem gm_s_Code_aimCommitsFrom : Cond.selects gm_R_Code gm_y_Code_aimCommitsFrom gm_y_Code_aimCommitsFrom ∈ gm_W := gm_in (List.mem_append_left _ (List.mem_map.mpr ⟨(gm_y_Code_aimCommitsFrom, 6), (List.mem_append_right _ (List.mem_append_right _ (List.mem_append_left _ (List.mem_of_getElem? (i := 0) rfl)))), rfl⟩)) rfl
abbrev gm_b_Code_writeOption : ByteArray := prog_3_method_12_code
def gm_y_Code_writeOption : MethodName := ⟨gm_R_Code, "writeOption", "(II)V"⟩
theorem gm_k_Code_writeOption : Cond.code gm_y_Code_writeOption gm_b_Code_writeOption 3 none ∈ gm_W := gm_in (List.mem_append_right _ (List.mem_append_right _ (List.mem_append_right _ (List.mem_append_left _ (List.mem_of_getElem? (i := 190) rfl))))) rfl
theorem gm_q_Code_writeOption : Cond.instanceMethod gm_y_Code_writeOption ∈ gm_W := gm_in (List.mem_append_right _ (List.mem_append_right _ (List.mem_append_right _ (List.mem_append_left _ (List.mem_of_getElem? (i := 189) rfl))))) rfl
theorem gm_s_Code_writeOption : Cond.selects gm_R_Code gm_y_Code_writeOption gm_y_Code_writeOption ∈ gm_W := gm_in (List.mem_append_left _ (List.mem_map.mpr ⟨(gm_y_Code_writeOption, 6), (List.mem_append_right _ (List.mem_append_right _ (List.mem_append_left _ (List.mem_of_getElem? (i := 1) rfl)))), rfl⟩)) rfl
abbrev gm_b_Code_writeLoop : ByteArray := prog_3_method_13_code
def gm_y_Code_writeLoop : MethodName := ⟨gm_R_Code, "writeLoop", "(III)V"⟩
theorem gm_k_Code_writeLoop : Cond.code gm_y_Code_writeLoop gm_b_Code_writeLoop 8 none ∈ gm_W := gm_in (List.mem_append_right _ (List.mem_append_right _ (List.mem_append_right _ (List.mem_append_left _ (List.mem_of_getElem? (i := 194) rfl))))) rfl
theorem gm_q_Code_writeLoop : Cond.instanceMethod gm_y_Code_writeLoop ∈ gm_W := gm_in (List.mem_append_right _ (List.mem_append_right _ (List.mem_append_right _ (List.mem_append_left _ (List.mem_of_getElem? (i := 193) rfl))))) rfl
theorem gm_s_Code_writeLoop : Cond.selects gm_R_Code gm_y_Code_writeLoop gm_y_Code_writeLoop ∈ gm_W := gm_in (List.mem_append_left _ (List.mem_map.mpr ⟨(gm_y_Code_writeLoop, 6), (List.mem_append_right _ (List.mem_append_right _ (List.mem_append_left _ (List.mem_of_getElem? (i := 2) rfl)))), rfl⟩)) rfl
abbrev gm_b_GM_exchangeGrammars : ByteArray := prog_1_method_5_code
def gm_y_GM_exchangeGrammars : MethodName := ⟨gm_R_GM, "exchangeGrammars", "()V"⟩
theorem gm_k_GM_exchangeGrammars : Cond.code gm_y_GM_exchangeGrammars gm_b_GM_exchangeGrammars 2 none ∈ gm_W := gm_in (List.mem_append_right _ (List.mem_append_right _ (List.mem_append_right _ (List.mem_append_left _ (List.mem_of_getElem? (i := 198) rfl))))) rfl
theorem gm_q_GM_exchangeGrammars : Cond.instanceMethod gm_y_GM_exchangeGrammars ∈ gm_W := gm_in (List.mem_append_right _ (List.mem_append_right _ (List.mem_append_right _ (List.mem_append_left _ (List.mem_of_getElem? (i := 197) rfl))))) rfl
theorem gm_s_GM_exchangeGrammars : Cond.selects gm_R_GM gm_y_GM_exchangeGrammars gm_y_GM_exchangeGrammars ∈ gm_W := gm_in (List.mem_append_left _ (List.mem_map.mpr ⟨(gm_y_GM_exchangeGrammars, 8), (List.mem_append_right _ (List.mem_append_right _ (List.mem_append_left _ (List.mem_of_getElem? (i := 3) rfl)))), rfl⟩)) rfl
abbrev gm_b_LW_empty : ByteArray := method_4_code
def gm_y_LW_empty : MethodName := ⟨gm_R_LW, "empty", "(LGrammarMachine;C[J)I"⟩
abbrev gm_h_LW_empty : List (Nat × Nat × Nat × Nat) := [(0, 16, 19, 15), (0, 16, 22, 23)]
theorem gm_k_LW_empty : Cond.codeWith gm_y_LW_empty gm_b_LW_empty 4 (some .int) gm_h_LW_empty ∈ gm_W := gm_in (List.mem_append_right _ (List.mem_append_right _ (List.mem_append_right _ (List.mem_append_left _ (List.mem_of_getElem? (i := 201) rfl))))) rfl
theorem gm_q_LW_empty : Cond.static gm_y_LW_empty ∈ gm_W := gm_in (List.mem_append_right _ (List.mem_append_right _ (List.mem_append_right _ (List.mem_append_left _ (List.mem_of_getElem? (i := 200) rfl))))) rfl
abbrev gm_b_GM_empty : ByteArray := prog_1_method_7_code
def gm_y_GM_empty : MethodName := ⟨gm_R_GM, "empty", "(C)Z"⟩
theorem gm_k_GM_empty : Cond.code gm_y_GM_empty gm_b_GM_empty 3 (some .boolean) ∈ gm_W := gm_in (List.mem_append_right _ (List.mem_append_right _ (List.mem_append_right _ (List.mem_append_left _ (List.mem_of_getElem? (i := 206) rfl))))) rfl
theorem gm_q_GM_empty : Cond.instanceMethod gm_y_GM_empty ∈ gm_W := gm_in (List.mem_append_right _ (List.mem_append_right _ (List.mem_append_right _ (List.mem_append_left _ (List.mem_of_getElem? (i := 204) rfl))))) rfl
theorem gm_s_GM_empty : Cond.selects gm_R_GM gm_y_GM_empty gm_y_GM_empty ∈ gm_W := gm_in (List.mem_append_right _ (List.mem_append_right _ (List.mem_append_right _ (List.mem_append_left _ (List.mem_of_getElem? (i := 205) rfl))))) rfl
abbrev gm_b_LW_head : ByteArray := method_5_code
def gm_y_LW_head : MethodName := ⟨gm_R_LW, "head", "(LGrammarMachine;CC[J)I"⟩
abbrev gm_h_LW_head : List (Nat × Nat × Nat × Nat) := [(0, 17, 20, 15), (0, 17, 24, 23)]
theorem gm_k_LW_head : Cond.codeWith gm_y_LW_head gm_b_LW_head 5 (some .int) gm_h_LW_head ∈ gm_W := gm_in (List.mem_append_right _ (List.mem_append_right _ (List.mem_append_right _ (List.mem_append_left _ (List.mem_of_getElem? (i := 227) rfl))))) rfl
theorem gm_q_LW_head : Cond.static gm_y_LW_head ∈ gm_W := gm_in (List.mem_append_right _ (List.mem_append_right _ (List.mem_append_right _ (List.mem_append_left _ (List.mem_of_getElem? (i := 226) rfl))))) rfl
abbrev gm_b_GM_head : ByteArray := prog_1_method_8_code
def gm_y_GM_head : MethodName := ⟨gm_R_GM, "head", "(CC)Z"⟩
theorem gm_k_GM_head : Cond.code gm_y_GM_head gm_b_GM_head 4 (some .boolean) ∈ gm_W := gm_in (List.mem_append_right _ (List.mem_append_right _ (List.mem_append_right _ (List.mem_append_left _ (List.mem_of_getElem? (i := 231) rfl))))) rfl
theorem gm_q_GM_head : Cond.instanceMethod gm_y_GM_head ∈ gm_W := gm_in (List.mem_append_right _ (List.mem_append_right _ (List.mem_append_right _ (List.mem_append_left _ (List.mem_of_getElem? (i := 229) rfl))))) rfl
theorem gm_s_GM_head : Cond.selects gm_R_GM gm_y_GM_head gm_y_GM_head ∈ gm_W := gm_in (List.mem_append_right _ (List.mem_append_right _ (List.mem_append_right _ (List.mem_append_left _ (List.mem_of_getElem? (i := 230) rfl))))) rfl
abbrev gm_b_Tree_holds : ByteArray := prog_10_method_11_code
def gm_y_Tree_holds : MethodName := ⟨gm_R_Tree, "holds", "(II)Z"⟩
theorem gm_k_Tree_holds : Cond.code gm_y_Tree_holds gm_b_Tree_holds 6 (some .boolean) ∈ gm_W := gm_in (List.mem_append_right _ (List.mem_append_right _ (List.mem_append_right _ (List.mem_append_left _ (List.mem_of_getElem? (i := 235) rfl))))) rfl
theorem gm_q_Tree_holds : Cond.instanceMethod gm_y_Tree_holds ∈ gm_W := gm_in (List.mem_append_right _ (List.mem_append_right _ (List.mem_append_right _ (List.mem_append_left _ (List.mem_of_getElem? (i := 233) rfl))))) rfl
theorem gm_s_Tree_holds : Cond.selects gm_R_Tree gm_y_Tree_holds gm_y_Tree_holds ∈ gm_W := gm_in (List.mem_append_right _ (List.mem_append_right _ (List.mem_append_right _ (List.mem_append_left _ (List.mem_of_getElem? (i := 234) rfl))))) rfl
abbrev gm_b_LW_match : ByteArray := method_6_code
def gm_y_LW_match : MethodName := ⟨gm_R_LW, "match", "(LGrammarMachine;Z[J)I"⟩
abbrev gm_h_LW_match : List (Nat × Nat × Nat × Nat) := [(0, 9, 12, 15)]
theorem gm_k_LW_match : Cond.codeWith gm_y_LW_match gm_b_LW_match 4 (some .int) gm_h_LW_match ∈ gm_W := gm_in (List.mem_append_right _ (List.mem_append_right _ (List.mem_append_right _ (List.mem_append_left _ (List.mem_of_getElem? (i := 238) rfl))))) rfl
theorem gm_q_LW_match : Cond.static gm_y_LW_match ∈ gm_W := gm_in (List.mem_append_right _ (List.mem_append_right _ (List.mem_append_right _ (List.mem_append_left _ (List.mem_of_getElem? (i := 237) rfl))))) rfl
abbrev gm_b_GM_match : ByteArray := prog_1_method_11_code
def gm_y_GM_match : MethodName := ⟨gm_R_GM, "match", "(Z)I"⟩
theorem gm_k_GM_match : Cond.code gm_y_GM_match gm_b_GM_match 2 (some .int) ∈ gm_W := gm_in (List.mem_append_right _ (List.mem_append_right _ (List.mem_append_right _ (List.mem_append_right _ (List.mem_append_left _ (List.mem_of_getElem? (i := 2) rfl)))))) rfl
theorem gm_q_GM_match : Cond.instanceMethod gm_y_GM_match ∈ gm_W := gm_in (List.mem_append_right _ (List.mem_append_right _ (List.mem_append_right _ (List.mem_append_right _ (List.mem_append_left _ (List.mem_of_getElem? (i := 0) rfl)))))) rfl
theorem gm_s_GM_match : Cond.selects gm_R_GM gm_y_GM_match gm_y_GM_match ∈ gm_W := gm_in (List.mem_append_right _ (List.mem_append_right _ (List.mem_append_right _ (List.mem_append_right _ (List.mem_append_left _ (List.mem_of_getElem? (i := 1) rfl)))))) rfl
abbrev gm_b_Runner_run : ByteArray := prog_9_method_2_code
def gm_y_Runner_run : MethodName := ⟨gm_R_Runner, "run", "(LGrammarMachine$Grammar;Z)I"⟩
theorem gm_k_Runner_run : Cond.code gm_y_Runner_run gm_b_Runner_run 4 (some .int) ∈ gm_W := gm_in (List.mem_append_right _ (List.mem_append_right _ (List.mem_append_right _ (List.mem_append_right _ (List.mem_append_left _ (List.mem_of_getElem? (i := 6) rfl)))))) rfl
theorem gm_q_Runner_run : Cond.instanceMethod gm_y_Runner_run ∈ gm_W := gm_in (List.mem_append_right _ (List.mem_append_right _ (List.mem_append_right _ (List.mem_append_right _ (List.mem_append_left _ (List.mem_of_getElem? (i := 4) rfl)))))) rfl
theorem gm_s_Runner_run : Cond.selects gm_R_Runner gm_y_Runner_run gm_y_Runner_run ∈ gm_W := gm_in (List.mem_append_right _ (List.mem_append_right _ (List.mem_append_right _ (List.mem_append_right _ (List.mem_append_left _ (List.mem_of_getElem? (i := 5) rfl)))))) rfl
abbrev gm_b_Runner_begin : ByteArray := prog_9_method_3_code
def gm_y_Runner_begin : MethodName := ⟨gm_R_Runner, "begin", "(LGrammarMachine$Grammar;Z)V"⟩
theorem gm_k_Runner_begin : Cond.code gm_y_Runner_begin gm_b_Runner_begin 3 none ∈ gm_W := gm_in (List.mem_append_right _ (List.mem_append_right _ (List.mem_append_right _ (List.mem_append_right _ (List.mem_append_left _ (List.mem_of_getElem? (i := 10) rfl)))))) rfl
theorem gm_q_Runner_begin : Cond.instanceMethod gm_y_Runner_begin ∈ gm_W := gm_in (List.mem_append_right _ (List.mem_append_right _ (List.mem_append_right _ (List.mem_append_right _ (List.mem_append_left _ (List.mem_of_getElem? (i := 9) rfl)))))) rfl
theorem gm_s_Runner_begin : Cond.selects gm_R_Runner gm_y_Runner_begin gm_y_Runner_begin ∈ gm_W := gm_in (List.mem_append_left _ (List.mem_map.mpr ⟨(gm_y_Runner_begin, 15), (List.mem_append_right _ (List.mem_append_right _ (List.mem_append_left _ (List.mem_of_getElem? (i := 4) rfl)))), rfl⟩)) rfl
abbrev gm_b_Memory_forget : ByteArray := prog_6_method_2_code
def gm_y_Memory_forget : MethodName := ⟨gm_R_Memory, "forget", "()V"⟩
theorem gm_k_Memory_forget : Cond.code gm_y_Memory_forget gm_b_Memory_forget 1 none ∈ gm_W := gm_in (List.mem_append_right _ (List.mem_append_right _ (List.mem_append_right _ (List.mem_append_right _ (List.mem_append_left _ (List.mem_of_getElem? (i := 14) rfl)))))) rfl
theorem gm_q_Memory_forget : Cond.instanceMethod gm_y_Memory_forget ∈ gm_W := gm_in (List.mem_append_right _ (List.mem_append_right _ (List.mem_append_right _ (List.mem_append_right _ (List.mem_append_left _ (List.mem_of_getElem? (i := 12) rfl)))))) rfl
theorem gm_s_Memory_forget : Cond.selects gm_R_Memory gm_y_Memory_forget gm_y_Memory_forget ∈ gm_W := gm_in (List.mem_append_right _ (List.mem_append_right _ (List.mem_append_right _ (List.mem_append_right _ (List.mem_append_left _ (List.mem_of_getElem? (i := 13) rfl)))))) rfl
abbrev gm_b_Runner_step : ByteArray := prog_9_method_4_code
def gm_y_Runner_step : MethodName := ⟨gm_R_Runner, "step", "()V"⟩
theorem gm_k_Runner_step : Cond.code gm_y_Runner_step gm_b_Runner_step 1 none ∈ gm_W := gm_in (List.mem_append_right _ (List.mem_append_right _ (List.mem_append_right _ (List.mem_append_right _ (List.mem_append_left _ (List.mem_of_getElem? (i := 22) rfl)))))) rfl
theorem gm_q_Runner_step : Cond.instanceMethod gm_y_Runner_step ∈ gm_W := gm_in (List.mem_append_right _ (List.mem_append_right _ (List.mem_append_right _ (List.mem_append_right _ (List.mem_append_left _ (List.mem_of_getElem? (i := 21) rfl)))))) rfl
theorem gm_s_Runner_step : Cond.selects gm_R_Runner gm_y_Runner_step gm_y_Runner_step ∈ gm_W := gm_in (List.mem_append_left _ (List.mem_map.mpr ⟨(gm_y_Runner_step, 15), (List.mem_append_right _ (List.mem_append_right _ (List.mem_append_left _ (List.mem_of_getElem? (i := 5) rfl)))), rfl⟩)) rfl
abbrev gm_b_Code_operation : ByteArray := prog_3_method_2_code
def gm_y_Code_operation : MethodName := ⟨gm_R_Code, "operation", "(I)I"⟩
theorem gm_k_Code_operation : Cond.code gm_y_Code_operation gm_b_Code_operation 2 (some .int) ∈ gm_W := gm_in (List.mem_append_right _ (List.mem_append_right _ (List.mem_append_right _ (List.mem_append_right _ (List.mem_append_left _ (List.mem_of_getElem? (i := 26) rfl)))))) rfl
theorem gm_q_Code_operation : Cond.instanceMethod gm_y_Code_operation ∈ gm_W := gm_in (List.mem_append_right _ (List.mem_append_right _ (List.mem_append_right _ (List.mem_append_right _ (List.mem_append_left _ (List.mem_of_getElem? (i := 24) rfl)))))) rfl
theorem gm_s_Code_operation : Cond.selects gm_R_Code gm_y_Code_operation gm_y_Code_operation ∈ gm_W := gm_in (List.mem_append_right _ (List.mem_append_right _ (List.mem_append_right _ (List.mem_append_right _ (List.mem_append_left _ (List.mem_of_getElem? (i := 25) rfl)))))) rfl
abbrev gm_b_Runner_takeCharacter : ByteArray := prog_9_method_6_code
def gm_y_Runner_takeCharacter : MethodName := ⟨gm_R_Runner, "takeCharacter", "()V"⟩
theorem gm_k_Runner_takeCharacter : Cond.code gm_y_Runner_takeCharacter gm_b_Runner_takeCharacter 1 none ∈ gm_W := gm_in (List.mem_append_right _ (List.mem_append_right _ (List.mem_append_right _ (List.mem_append_right _ (List.mem_append_left _ (List.mem_of_getElem? (i := 30) rfl)))))) rfl
theorem gm_q_Runner_takeCharacter : Cond.instanceMethod gm_y_Runner_takeCharacter ∈ gm_W := gm_in (List.mem_append_right _ (List.mem_append_right _ (List.mem_append_right _ (List.mem_append_right _ (List.mem_append_left _ (List.mem_of_getElem? (i := 29) rfl)))))) rfl
theorem gm_s_Runner_takeCharacter : Cond.selects gm_R_Runner gm_y_Runner_takeCharacter gm_y_Runner_takeCharacter ∈ gm_W := gm_in (List.mem_append_left _ (List.mem_map.mpr ⟨(gm_y_Runner_takeCharacter, 15), (List.mem_append_right _ (List.mem_append_right _ (List.mem_append_left _ (List.mem_of_getElem? (i := 6) rfl)))), rfl⟩)) rfl
abbrev gm_b_Code_operand : ByteArray := prog_3_method_3_code
def gm_y_Code_operand : MethodName := ⟨gm_R_Code, "operand", "(I)I"⟩
theorem gm_k_Code_operand : Cond.code gm_y_Code_operand gm_b_Code_operand 2 (some .int) ∈ gm_W := gm_in (List.mem_append_right _ (List.mem_append_right _ (List.mem_append_right _ (List.mem_append_right _ (List.mem_append_left _ (List.mem_of_getElem? (i := 34) rfl)))))) rfl
theorem gm_q_Code_operand : Cond.instanceMethod gm_y_Code_operand ∈ gm_W := gm_in (List.mem_append_right _ (List.mem_append_right _ (List.mem_append_right _ (List.mem_append_right _ (List.mem_append_left _ (List.mem_of_getElem? (i := 32) rfl)))))) rfl
theorem gm_s_Code_operand : Cond.selects gm_R_Code gm_y_Code_operand gm_y_Code_operand ∈ gm_W := gm_in (List.mem_append_right _ (List.mem_append_right _ (List.mem_append_right _ (List.mem_append_right _ (List.mem_append_left _ (List.mem_of_getElem? (i := 33) rfl)))))) rfl
abbrev gm_b_Runner_nextIsIn : ByteArray := prog_9_method_5_code
def gm_y_Runner_nextIsIn : MethodName := ⟨gm_R_Runner, "nextIsIn", "(I)Z"⟩
theorem gm_k_Runner_nextIsIn : Cond.code gm_y_Runner_nextIsIn gm_b_Runner_nextIsIn 2 (some .boolean) ∈ gm_W := gm_in (List.mem_append_right _ (List.mem_append_right _ (List.mem_append_right _ (List.mem_append_right _ (List.mem_append_left _ (List.mem_of_getElem? (i := 38) rfl)))))) rfl
theorem gm_q_Runner_nextIsIn : Cond.instanceMethod gm_y_Runner_nextIsIn ∈ gm_W := gm_in (List.mem_append_right _ (List.mem_append_right _ (List.mem_append_right _ (List.mem_append_right _ (List.mem_append_left _ (List.mem_of_getElem? (i := 37) rfl)))))) rfl
theorem gm_s_Runner_nextIsIn : Cond.selects gm_R_Runner gm_y_Runner_nextIsIn gm_y_Runner_nextIsIn ∈ gm_W := gm_in (List.mem_append_left _ (List.mem_map.mpr ⟨(gm_y_Runner_nextIsIn, 15), (List.mem_append_right _ (List.mem_append_right _ (List.mem_append_left _ (List.mem_of_getElem? (i := 7) rfl)))), rfl⟩)) rfl
abbrev gm_b_Runner_fail : ByteArray := prog_9_method_11_code
def gm_y_Runner_fail : MethodName := ⟨gm_R_Runner, "fail", "()V"⟩
theorem gm_k_Runner_fail : Cond.code gm_y_Runner_fail gm_b_Runner_fail 2 none ∈ gm_W := gm_in (List.mem_append_right _ (List.mem_append_right _ (List.mem_append_right _ (List.mem_append_right _ (List.mem_append_left _ (List.mem_of_getElem? (i := 44) rfl)))))) rfl
theorem gm_q_Runner_fail : Cond.instanceMethod gm_y_Runner_fail ∈ gm_W := gm_in (List.mem_append_right _ (List.mem_append_right _ (List.mem_append_right _ (List.mem_append_right _ (List.mem_append_left _ (List.mem_of_getElem? (i := 43) rfl)))))) rfl
theorem gm_s_Runner_fail : Cond.selects gm_R_Runner gm_y_Runner_fail gm_y_Runner_fail ∈ gm_W := gm_in (List.mem_append_left _ (List.mem_map.mpr ⟨(gm_y_Runner_fail, 15), (List.mem_append_right _ (List.mem_append_right _ (List.mem_append_left _ (List.mem_of_getElem? (i := 8) rfl)))), rfl⟩)) rfl
abbrev gm_b_Runner_pop : ByteArray := prog_9_method_14_code
def gm_y_Runner_pop : MethodName := ⟨gm_R_Runner, "pop", "()V"⟩
theorem gm_k_Runner_pop : Cond.code gm_y_Runner_pop gm_b_Runner_pop 1 none ∈ gm_W := gm_in (List.mem_append_right _ (List.mem_append_right _ (List.mem_append_right _ (List.mem_append_right _ (List.mem_append_left _ (List.mem_of_getElem? (i := 48) rfl)))))) rfl
theorem gm_q_Runner_pop : Cond.instanceMethod gm_y_Runner_pop ∈ gm_W := gm_in (List.mem_append_right _ (List.mem_append_right _ (List.mem_append_right _ (List.mem_append_right _ (List.mem_append_left _ (List.mem_of_getElem? (i := 47) rfl)))))) rfl
theorem gm_s_Runner_pop : Cond.selects gm_R_Runner gm_y_Runner_pop gm_y_Runner_pop ∈ gm_W := gm_in (List.mem_append_left _ (List.mem_map.mpr ⟨(gm_y_Runner_pop, 15), (List.mem_append_right _ (List.mem_append_right _ (List.mem_append_left _ (List.mem_of_getElem? (i := 9) rfl)))), rfl⟩)) rfl
abbrev gm_b_Runner_failRule : ByteArray := prog_9_method_12_code
def gm_y_Runner_failRule : MethodName := ⟨gm_R_Runner, "failRule", "()V"⟩
theorem gm_k_Runner_failRule : Cond.code gm_y_Runner_failRule gm_b_Runner_failRule 1 none ∈ gm_W := gm_in (List.mem_append_right _ (List.mem_append_right _ (List.mem_append_right _ (List.mem_append_right _ (List.mem_append_left _ (List.mem_of_getElem? (i := 52) rfl)))))) rfl
theorem gm_q_Runner_failRule : Cond.instanceMethod gm_y_Runner_failRule ∈ gm_W := gm_in (List.mem_append_right _ (List.mem_append_right _ (List.mem_append_right _ (List.mem_append_right _ (List.mem_append_left _ (List.mem_of_getElem? (i := 51) rfl)))))) rfl
theorem gm_s_Runner_failRule : Cond.selects gm_R_Runner gm_y_Runner_failRule gm_y_Runner_failRule ∈ gm_W := gm_in (List.mem_append_left _ (List.mem_map.mpr ⟨(gm_y_Runner_failRule, 15), (List.mem_append_right _ (List.mem_append_right _ (List.mem_append_left _ (List.mem_of_getElem? (i := 10) rfl)))), rfl⟩)) rfl
abbrev gm_b_Memory_keepFailure : ByteArray := prog_6_method_4_code
def gm_y_Memory_keepFailure : MethodName := ⟨gm_R_Memory, "keepFailure", "(II)V"⟩
theorem gm_k_Memory_keepFailure : Cond.code gm_y_Memory_keepFailure gm_b_Memory_keepFailure 4 none ∈ gm_W := gm_in (List.mem_append_right _ (List.mem_append_right _ (List.mem_append_right _ (List.mem_append_right _ (List.mem_append_left _ (List.mem_of_getElem? (i := 56) rfl)))))) rfl
theorem gm_q_Memory_keepFailure : Cond.instanceMethod gm_y_Memory_keepFailure ∈ gm_W := gm_in (List.mem_append_right _ (List.mem_append_right _ (List.mem_append_right _ (List.mem_append_right _ (List.mem_append_left _ (List.mem_of_getElem? (i := 54) rfl)))))) rfl
theorem gm_s_Memory_keepFailure : Cond.selects gm_R_Memory gm_y_Memory_keepFailure gm_y_Memory_keepFailure ∈ gm_W := gm_in (List.mem_append_right _ (List.mem_append_right _ (List.mem_append_right _ (List.mem_append_right _ (List.mem_append_left _ (List.mem_of_getElem? (i := 55) rfl)))))) rfl
abbrev gm_b_Memory_slotOf : ByteArray := prog_6_method_7_code
def gm_y_Memory_slotOf : MethodName := ⟨gm_R_Memory, "slotOf", "(II)I"⟩
theorem gm_k_Memory_slotOf : Cond.code gm_y_Memory_slotOf gm_b_Memory_slotOf 3 (some .int) ∈ gm_W := gm_in (List.mem_append_right _ (List.mem_append_right _ (List.mem_append_right _ (List.mem_append_right _ (List.mem_append_left _ (List.mem_of_getElem? (i := 59) rfl)))))) rfl
theorem gm_q_Memory_slotOf : Cond.static gm_y_Memory_slotOf ∈ gm_W := gm_in (List.mem_append_right _ (List.mem_append_right _ (List.mem_append_right _ (List.mem_append_right _ (List.mem_append_left _ (List.mem_of_getElem? (i := 58) rfl)))))) rfl
abbrev gm_b_Runner_restore : ByteArray := prog_9_method_15_code
def gm_y_Runner_restore : MethodName := ⟨gm_R_Runner, "restore", "()V"⟩
theorem gm_k_Runner_restore : Cond.code gm_y_Runner_restore gm_b_Runner_restore 1 none ∈ gm_W := gm_in (List.mem_append_right _ (List.mem_append_right _ (List.mem_append_right _ (List.mem_append_right _ (List.mem_append_left _ (List.mem_of_getElem? (i := 63) rfl)))))) rfl
theorem gm_q_Runner_restore : Cond.instanceMethod gm_y_Runner_restore ∈ gm_W := gm_in (List.mem_append_right _ (List.mem_append_right _ (List.mem_append_right _ (List.mem_append_right _ (List.mem_append_left _ (List.mem_of_getElem? (i := 62) rfl)))))) rfl
theorem gm_s_Runner_restore : Cond.selects gm_R_Runner gm_y_Runner_restore gm_y_Runner_restore ∈ gm_W := gm_in (List.mem_append_left _ (List.mem_map.mpr ⟨(gm_y_Runner_restore, 15), (List.mem_append_right _ (List.mem_append_right _ (List.mem_append_left _ (List.mem_of_getElem? (i := 11) rfl)))), rfl⟩)) rfl
abbrev gm_b_Captures_cutTo : ByteArray := prog_2_method_4_code
def gm_y_Captures_cutTo : MethodName := ⟨gm_R_Captures, "cutTo", "(I)V"⟩
theorem gm_k_Captures_cutTo : Cond.code gm_y_Captures_cutTo gm_b_Captures_cutTo 2 none ∈ gm_W := gm_in (List.mem_append_right _ (List.mem_append_right _ (List.mem_append_right _ (List.mem_append_right _ (List.mem_append_left _ (List.mem_of_getElem? (i := 67) rfl)))))) rfl
theorem gm_q_Captures_cutTo : Cond.instanceMethod gm_y_Captures_cutTo ∈ gm_W := gm_in (List.mem_append_right _ (List.mem_append_right _ (List.mem_append_right _ (List.mem_append_right _ (List.mem_append_left _ (List.mem_of_getElem? (i := 65) rfl)))))) rfl
theorem gm_s_Captures_cutTo : Cond.selects gm_R_Captures gm_y_Captures_cutTo gm_y_Captures_cutTo ∈ gm_W := gm_in (List.mem_append_right _ (List.mem_append_right _ (List.mem_append_right _ (List.mem_append_right _ (List.mem_append_left _ (List.mem_of_getElem? (i := 66) rfl)))))) rfl
abbrev gm_b_Runner_look : ByteArray := prog_9_method_7_code
def gm_y_Runner_look : MethodName := ⟨gm_R_Runner, "look", "()V"⟩
theorem gm_k_Runner_look : Cond.code gm_y_Runner_look gm_b_Runner_look 2 none ∈ gm_W := gm_in (List.mem_append_right _ (List.mem_append_right _ (List.mem_append_right _ (List.mem_append_right _ (List.mem_append_left _ (List.mem_of_getElem? (i := 71) rfl)))))) rfl
theorem gm_q_Runner_look : Cond.instanceMethod gm_y_Runner_look ∈ gm_W := gm_in (List.mem_append_right _ (List.mem_append_right _ (List.mem_append_right _ (List.mem_append_right _ (List.mem_append_left _ (List.mem_of_getElem? (i := 70) rfl)))))) rfl
theorem gm_s_Runner_look : Cond.selects gm_R_Runner gm_y_Runner_look gm_y_Runner_look ∈ gm_W := gm_in (List.mem_append_left _ (List.mem_map.mpr ⟨(gm_y_Runner_look, 15), (List.mem_append_right _ (List.mem_append_right _ (List.mem_append_left _ (List.mem_of_getElem? (i := 12) rfl)))), rfl⟩)) rfl
abbrev gm_b_Code_target : ByteArray := prog_3_method_4_code
def gm_y_Code_target : MethodName := ⟨gm_R_Code, "target", "(I)I"⟩
theorem gm_k_Code_target : Cond.code gm_y_Code_target gm_b_Code_target 2 (some .int) ∈ gm_W := gm_in (List.mem_append_right _ (List.mem_append_right _ (List.mem_append_right _ (List.mem_append_right _ (List.mem_append_left _ (List.mem_of_getElem? (i := 75) rfl)))))) rfl
theorem gm_q_Code_target : Cond.instanceMethod gm_y_Code_target ∈ gm_W := gm_in (List.mem_append_right _ (List.mem_append_right _ (List.mem_append_right _ (List.mem_append_right _ (List.mem_append_left _ (List.mem_of_getElem? (i := 73) rfl)))))) rfl
theorem gm_s_Code_target : Cond.selects gm_R_Code gm_y_Code_target gm_y_Code_target ∈ gm_W := gm_in (List.mem_append_right _ (List.mem_append_right _ (List.mem_append_right _ (List.mem_append_right _ (List.mem_append_left _ (List.mem_of_getElem? (i := 74) rfl)))))) rfl
abbrev gm_b_Runner_beginTry : ByteArray := prog_9_method_8_code
def gm_y_Runner_beginTry : MethodName := ⟨gm_R_Runner, "beginTry", "()V"⟩
theorem gm_k_Runner_beginTry : Cond.code gm_y_Runner_beginTry gm_b_Runner_beginTry 1 none ∈ gm_W := gm_in (List.mem_append_right _ (List.mem_append_right _ (List.mem_append_right _ (List.mem_append_right _ (List.mem_append_left _ (List.mem_of_getElem? (i := 79) rfl)))))) rfl
theorem gm_q_Runner_beginTry : Cond.instanceMethod gm_y_Runner_beginTry ∈ gm_W := gm_in (List.mem_append_right _ (List.mem_append_right _ (List.mem_append_right _ (List.mem_append_right _ (List.mem_append_left _ (List.mem_of_getElem? (i := 78) rfl)))))) rfl
theorem gm_s_Runner_beginTry : Cond.selects gm_R_Runner gm_y_Runner_beginTry gm_y_Runner_beginTry ∈ gm_W := gm_in (List.mem_append_left _ (List.mem_map.mpr ⟨(gm_y_Runner_beginTry, 15), (List.mem_append_right _ (List.mem_append_right _ (List.mem_append_left _ (List.mem_of_getElem? (i := 13) rfl)))), rfl⟩)) rfl
abbrev gm_b_Runner_push : ByteArray := prog_9_method_13_code
def gm_y_Runner_push : MethodName := ⟨gm_R_Runner, "push", "(II)V"⟩
theorem gm_k_Runner_push : Cond.code gm_y_Runner_push gm_b_Runner_push 3 none ∈ gm_W := gm_in (List.mem_append_right _ (List.mem_append_right _ (List.mem_append_right _ (List.mem_append_right _ (List.mem_append_left _ (List.mem_of_getElem? (i := 83) rfl)))))) rfl
theorem gm_q_Runner_push : Cond.instanceMethod gm_y_Runner_push ∈ gm_W := gm_in (List.mem_append_right _ (List.mem_append_right _ (List.mem_append_right _ (List.mem_append_right _ (List.mem_append_left _ (List.mem_of_getElem? (i := 82) rfl)))))) rfl
theorem gm_s_Runner_push : Cond.selects gm_R_Runner gm_y_Runner_push gm_y_Runner_push ∈ gm_W := gm_in (List.mem_append_left _ (List.mem_map.mpr ⟨(gm_y_Runner_push, 15), (List.mem_append_right _ (List.mem_append_right _ (List.mem_append_left _ (List.mem_of_getElem? (i := 14) rfl)))), rfl⟩)) rfl
abbrev gm_b_Runner_callRule : ByteArray := prog_9_method_9_code
def gm_y_Runner_callRule : MethodName := ⟨gm_R_Runner, "callRule", "(I)V"⟩
theorem gm_k_Runner_callRule : Cond.code gm_y_Runner_callRule gm_b_Runner_callRule 3 none ∈ gm_W := gm_in (List.mem_append_right _ (List.mem_append_right _ (List.mem_append_right _ (List.mem_append_right _ (List.mem_append_left _ (List.mem_of_getElem? (i := 87) rfl)))))) rfl
theorem gm_q_Runner_callRule : Cond.instanceMethod gm_y_Runner_callRule ∈ gm_W := gm_in (List.mem_append_right _ (List.mem_append_right _ (List.mem_append_right _ (List.mem_append_right _ (List.mem_append_left _ (List.mem_of_getElem? (i := 86) rfl)))))) rfl
theorem gm_s_Runner_callRule : Cond.selects gm_R_Runner gm_y_Runner_callRule gm_y_Runner_callRule ∈ gm_W := gm_in (List.mem_append_left _ (List.mem_map.mpr ⟨(gm_y_Runner_callRule, 15), (List.mem_append_right _ (List.mem_append_right _ (List.mem_append_left _ (List.mem_of_getElem? (i := 15) rfl)))), rfl⟩)) rfl
abbrev gm_b_Memory_result : ByteArray := prog_6_method_3_code
def gm_y_Memory_result : MethodName := ⟨gm_R_Memory, "result", "(II)I"⟩
theorem gm_k_Memory_result : Cond.code gm_y_Memory_result gm_b_Memory_result 4 (some .int) ∈ gm_W := gm_in (List.mem_append_right _ (List.mem_append_right _ (List.mem_append_right _ (List.mem_append_right _ (List.mem_append_left _ (List.mem_of_getElem? (i := 91) rfl)))))) rfl
theorem gm_q_Memory_result : Cond.instanceMethod gm_y_Memory_result ∈ gm_W := gm_in (List.mem_append_right _ (List.mem_append_right _ (List.mem_append_right _ (List.mem_append_right _ (List.mem_append_left _ (List.mem_of_getElem? (i := 89) rfl)))))) rfl
theorem gm_s_Memory_result : Cond.selects gm_R_Memory gm_y_Memory_result gm_y_Memory_result ∈ gm_W := gm_in (List.mem_append_right _ (List.mem_append_right _ (List.mem_append_right _ (List.mem_append_right _ (List.mem_append_left _ (List.mem_of_getElem? (i := 90) rfl)))))) rfl
abbrev gm_b_Code_start : ByteArray := prog_3_method_5_code
def gm_y_Code_start : MethodName := ⟨gm_R_Code, "start", "(I)I"⟩
theorem gm_k_Code_start : Cond.code gm_y_Code_start gm_b_Code_start 2 (some .int) ∈ gm_W := gm_in (List.mem_append_right _ (List.mem_append_right _ (List.mem_append_right _ (List.mem_append_right _ (List.mem_append_left _ (List.mem_of_getElem? (i := 95) rfl)))))) rfl
theorem gm_q_Code_start : Cond.instanceMethod gm_y_Code_start ∈ gm_W := gm_in (List.mem_append_right _ (List.mem_append_right _ (List.mem_append_right _ (List.mem_append_right _ (List.mem_append_left _ (List.mem_of_getElem? (i := 93) rfl)))))) rfl
theorem gm_s_Code_start : Cond.selects gm_R_Code gm_y_Code_start gm_y_Code_start ∈ gm_W := gm_in (List.mem_append_right _ (List.mem_append_right _ (List.mem_append_right _ (List.mem_append_right _ (List.mem_append_left _ (List.mem_of_getElem? (i := 94) rfl)))))) rfl
abbrev gm_b_Memory_recallCaptures : ByteArray := prog_6_method_6_code
def gm_y_Memory_recallCaptures : MethodName := ⟨gm_R_Memory, "recallCaptures", "(IILGrammarMachine$Captures;)V"⟩
theorem gm_k_Memory_recallCaptures : Cond.code gm_y_Memory_recallCaptures gm_b_Memory_recallCaptures 5 none ∈ gm_W := gm_in (List.mem_append_right _ (List.mem_append_right _ (List.mem_append_right _ (List.mem_append_right _ (List.mem_append_left _ (List.mem_of_getElem? (i := 99) rfl)))))) rfl
theorem gm_q_Memory_recallCaptures : Cond.instanceMethod gm_y_Memory_recallCaptures ∈ gm_W := gm_in (List.mem_append_right _ (List.mem_append_right _ (List.mem_append_right _ (List.mem_append_right _ (List.mem_append_left _ (List.mem_of_getElem? (i := 97) rfl)))))) rfl
theorem gm_s_Memory_recallCaptures : Cond.selects gm_R_Memory gm_y_Memory_recallCaptures gm_y_Memory_recallCaptures ∈ gm_W := gm_in (List.mem_append_right _ (List.mem_append_right _ (List.mem_append_right _ (List.mem_append_right _ (List.mem_append_left _ (List.mem_of_getElem? (i := 98) rfl)))))) rfl
abbrev gm_b_Captures_addFrom : ByteArray := prog_2_method_5_code
def gm_y_Captures_addFrom : MethodName := ⟨gm_R_Captures, "addFrom", "(LGrammarMachine$Captures;II)V"⟩
theorem gm_k_Captures_addFrom : Cond.code gm_y_Captures_addFrom gm_b_Captures_addFrom 5 none ∈ gm_W := gm_in (List.mem_append_right _ (List.mem_append_right _ (List.mem_append_right _ (List.mem_append_right _ (List.mem_append_left _ (List.mem_of_getElem? (i := 103) rfl)))))) rfl
theorem gm_q_Captures_addFrom : Cond.instanceMethod gm_y_Captures_addFrom ∈ gm_W := gm_in (List.mem_append_right _ (List.mem_append_right _ (List.mem_append_right _ (List.mem_append_right _ (List.mem_append_left _ (List.mem_of_getElem? (i := 101) rfl)))))) rfl
theorem gm_s_Captures_addFrom : Cond.selects gm_R_Captures gm_y_Captures_addFrom gm_y_Captures_addFrom ∈ gm_W := gm_in (List.mem_append_right _ (List.mem_append_right _ (List.mem_append_right _ (List.mem_append_right _ (List.mem_append_left _ (List.mem_of_getElem? (i := 102) rfl)))))) rfl
abbrev gm_b_Captures_add : ByteArray := prog_2_method_2_code
def gm_y_Captures_add : MethodName := ⟨gm_R_Captures, "add", "(II)V"⟩
theorem gm_k_Captures_add : Cond.code gm_y_Captures_add gm_b_Captures_add 3 none ∈ gm_W := gm_in (List.mem_append_right _ (List.mem_append_right _ (List.mem_append_right _ (List.mem_append_right _ (List.mem_append_left _ (List.mem_of_getElem? (i := 107) rfl)))))) rfl
theorem gm_q_Captures_add : Cond.instanceMethod gm_y_Captures_add ∈ gm_W := gm_in (List.mem_append_right _ (List.mem_append_right _ (List.mem_append_right _ (List.mem_append_right _ (List.mem_append_left _ (List.mem_of_getElem? (i := 105) rfl)))))) rfl
theorem gm_s_Captures_add : Cond.selects gm_R_Captures gm_y_Captures_add gm_y_Captures_add ∈ gm_W := gm_in (List.mem_append_right _ (List.mem_append_right _ (List.mem_append_right _ (List.mem_append_right _ (List.mem_append_left _ (List.mem_of_getElem? (i := 106) rfl)))))) rfl
abbrev gm_b_Runner_returnFromRule : ByteArray := prog_9_method_10_code
def gm_y_Runner_returnFromRule : MethodName := ⟨gm_R_Runner, "returnFromRule", "()V"⟩
theorem gm_k_Runner_returnFromRule : Cond.code gm_y_Runner_returnFromRule gm_b_Runner_returnFromRule 1 none ∈ gm_W := gm_in (List.mem_append_right _ (List.mem_append_right _ (List.mem_append_right _ (List.mem_append_right _ (List.mem_append_left _ (List.mem_of_getElem? (i := 111) rfl)))))) rfl
theorem gm_q_Runner_returnFromRule : Cond.instanceMethod gm_y_Runner_returnFromRule ∈ gm_W := gm_in (List.mem_append_right _ (List.mem_append_right _ (List.mem_append_right _ (List.mem_append_right _ (List.mem_append_left _ (List.mem_of_getElem? (i := 110) rfl)))))) rfl
theorem gm_s_Runner_returnFromRule : Cond.selects gm_R_Runner gm_y_Runner_returnFromRule gm_y_Runner_returnFromRule ∈ gm_W := gm_in (List.mem_append_left _ (List.mem_map.mpr ⟨(gm_y_Runner_returnFromRule, 15), (List.mem_append_right _ (List.mem_append_right _ (List.mem_append_right _ (List.mem_append_left _ (List.mem_of_getElem? (i := 0) rfl))))), rfl⟩)) rfl
abbrev gm_b_Memory_keepMatch : ByteArray := prog_6_method_5_code
def gm_y_Memory_keepMatch : MethodName := ⟨gm_R_Memory, "keepMatch", "(IIILGrammarMachine$Captures;I)V"⟩
theorem gm_k_Memory_keepMatch : Cond.code gm_y_Memory_keepMatch gm_b_Memory_keepMatch 7 none ∈ gm_W := gm_in (List.mem_append_right _ (List.mem_append_right _ (List.mem_append_right _ (List.mem_append_right _ (List.mem_append_left _ (List.mem_of_getElem? (i := 115) rfl)))))) rfl
theorem gm_q_Memory_keepMatch : Cond.instanceMethod gm_y_Memory_keepMatch ∈ gm_W := gm_in (List.mem_append_right _ (List.mem_append_right _ (List.mem_append_right _ (List.mem_append_right _ (List.mem_append_left _ (List.mem_of_getElem? (i := 113) rfl)))))) rfl
theorem gm_s_Memory_keepMatch : Cond.selects gm_R_Memory gm_y_Memory_keepMatch gm_y_Memory_keepMatch ∈ gm_W := gm_in (List.mem_append_right _ (List.mem_append_right _ (List.mem_append_right _ (List.mem_append_right _ (List.mem_append_left _ (List.mem_of_getElem? (i := 114) rfl)))))) rfl
abbrev gm_b_Captures_closeLatest : ByteArray := prog_2_method_3_code
def gm_y_Captures_closeLatest : MethodName := ⟨gm_R_Captures, "closeLatest", "(I)V"⟩
theorem gm_k_Captures_closeLatest : Cond.code gm_y_Captures_closeLatest gm_b_Captures_closeLatest 3 none ∈ gm_W := gm_in (List.mem_append_right _ (List.mem_append_right _ (List.mem_append_right _ (List.mem_append_right _ (List.mem_append_left _ (List.mem_of_getElem? (i := 120) rfl)))))) rfl
theorem gm_q_Captures_closeLatest : Cond.instanceMethod gm_y_Captures_closeLatest ∈ gm_W := gm_in (List.mem_append_right _ (List.mem_append_right _ (List.mem_append_right _ (List.mem_append_right _ (List.mem_append_left _ (List.mem_of_getElem? (i := 118) rfl)))))) rfl
theorem gm_s_Captures_closeLatest : Cond.selects gm_R_Captures gm_y_Captures_closeLatest gm_y_Captures_closeLatest ∈ gm_W := gm_in (List.mem_append_right _ (List.mem_append_right _ (List.mem_append_right _ (List.mem_append_right _ (List.mem_append_left _ (List.mem_of_getElem? (i := 119) rfl)))))) rfl
abbrev gm_b_LW_node : ByteArray := method_7_code
def gm_y_LW_node : MethodName := ⟨gm_R_LW, "node", "(LGrammarMachine;II[J)I"⟩
abbrev gm_h_LW_node : List (Nat × Nat × Nat × Nat) := [(0, 10, 13, 23), (0, 10, 17, 13)]
theorem gm_k_LW_node : Cond.codeWith gm_y_LW_node gm_b_LW_node 5 (some .int) gm_h_LW_node ∈ gm_W := gm_in (List.mem_append_right _ (List.mem_append_right _ (List.mem_append_right _ (List.mem_append_right _ (List.mem_append_left _ (List.mem_of_getElem? (i := 123) rfl)))))) rfl
theorem gm_q_LW_node : Cond.static gm_y_LW_node ∈ gm_W := gm_in (List.mem_append_right _ (List.mem_append_right _ (List.mem_append_right _ (List.mem_append_right _ (List.mem_append_left _ (List.mem_of_getElem? (i := 122) rfl)))))) rfl
abbrev gm_b_GM_node : ByteArray := prog_1_method_14_code
def gm_y_GM_node : MethodName := ⟨gm_R_GM, "node", "(II)I"⟩
theorem gm_k_GM_node : Cond.code gm_y_GM_node gm_b_GM_node 3 (some .int) ∈ gm_W := gm_in (List.mem_append_right _ (List.mem_append_right _ (List.mem_append_right _ (List.mem_append_right _ (List.mem_append_left _ (List.mem_of_getElem? (i := 127) rfl)))))) rfl
theorem gm_q_GM_node : Cond.instanceMethod gm_y_GM_node ∈ gm_W := gm_in (List.mem_append_right _ (List.mem_append_right _ (List.mem_append_right _ (List.mem_append_right _ (List.mem_append_left _ (List.mem_of_getElem? (i := 125) rfl)))))) rfl
theorem gm_s_GM_node : Cond.selects gm_R_GM gm_y_GM_node gm_y_GM_node ∈ gm_W := gm_in (List.mem_append_right _ (List.mem_append_right _ (List.mem_append_right _ (List.mem_append_right _ (List.mem_append_left _ (List.mem_of_getElem? (i := 126) rfl)))))) rfl
abbrev gm_b_Captures_outerOf : ByteArray := prog_2_method_6_code
def gm_y_Captures_outerOf : MethodName := ⟨gm_R_Captures, "outerOf", "(I)I"⟩
theorem gm_k_Captures_outerOf : Cond.code gm_y_Captures_outerOf gm_b_Captures_outerOf 3 (some .int) ∈ gm_W := gm_in (List.mem_append_right _ (List.mem_append_right _ (List.mem_append_right _ (List.mem_append_right _ (List.mem_append_left _ (List.mem_of_getElem? (i := 133) rfl)))))) rfl
theorem gm_q_Captures_outerOf : Cond.instanceMethod gm_y_Captures_outerOf ∈ gm_W := gm_in (List.mem_append_right _ (List.mem_append_right _ (List.mem_append_right _ (List.mem_append_right _ (List.mem_append_left _ (List.mem_of_getElem? (i := 131) rfl)))))) rfl
theorem gm_s_Captures_outerOf : Cond.selects gm_R_Captures gm_y_Captures_outerOf gm_y_Captures_outerOf ∈ gm_W := gm_in (List.mem_append_right _ (List.mem_append_right _ (List.mem_append_right _ (List.mem_append_right _ (List.mem_append_left _ (List.mem_of_getElem? (i := 132) rfl)))))) rfl
abbrev gm_b_MD_init : ByteArray := prog_12_method_1_code
def gm_y_MD_init : MethodName := ⟨gm_R_MD, "<init>", "()V"⟩
theorem gm_k_MD_init : Cond.code gm_y_MD_init gm_b_MD_init 1 none ∈ gm_W := gm_in (List.mem_append_right _ (List.mem_append_right _ (List.mem_append_right _ (List.mem_append_right _ (List.mem_append_left _ (List.mem_of_getElem? (i := 138) rfl)))))) rfl
theorem gm_q_MD_init : Cond.instanceMethod gm_y_MD_init ∈ gm_W := gm_in (List.mem_append_right _ (List.mem_append_right _ (List.mem_append_right _ (List.mem_append_right _ (List.mem_append_left _ (List.mem_of_getElem? (i := 137) rfl)))))) rfl
abbrev gm_b_MD_thrown : ByteArray := prog_12_method_2_code
def gm_y_MD_thrown : MethodName := ⟨gm_R_MD, "thrown", "()I"⟩
theorem gm_k_MD_thrown : Cond.code gm_y_MD_thrown gm_b_MD_thrown 1 (some .int) ∈ gm_W := gm_in (List.mem_append_right _ (List.mem_append_right _ (List.mem_append_right _ (List.mem_append_right _ (List.mem_append_right _ (List.mem_append_left _ (List.mem_of_getElem? (i := 39) rfl))))))) rfl
theorem gm_q_MD_thrown : Cond.instanceMethod gm_y_MD_thrown ∈ gm_W := gm_in (List.mem_append_right _ (List.mem_append_right _ (List.mem_append_right _ (List.mem_append_right _ (List.mem_append_right _ (List.mem_append_left _ (List.mem_of_getElem? (i := 37) rfl))))))) rfl
theorem gm_s_MD_thrown : Cond.selects gm_R_MD gm_y_MD_thrown gm_y_MD_thrown ∈ gm_W := gm_in (List.mem_append_right _ (List.mem_append_right _ (List.mem_append_right _ (List.mem_append_right _ (List.mem_append_right _ (List.mem_append_left _ (List.mem_of_getElem? (i := 38) rfl))))))) rfl
abbrev gm_b_MD_type : ByteArray := prog_12_method_4_code
def gm_y_MD_type : MethodName := ⟨gm_R_MD, "type", "(C)Z"⟩
theorem gm_k_MD_type : Cond.code gm_y_MD_type gm_b_MD_type 2 (some .boolean) ∈ gm_W := gm_in (List.mem_append_right _ (List.mem_append_right _ (List.mem_append_right _ (List.mem_append_right _ (List.mem_append_right _ (List.mem_append_left _ (List.mem_of_getElem? (i := 43) rfl))))))) rfl
theorem gm_q_MD_type : Cond.instanceMethod gm_y_MD_type ∈ gm_W := gm_in (List.mem_append_right _ (List.mem_append_right _ (List.mem_append_right _ (List.mem_append_right _ (List.mem_append_right _ (List.mem_append_left _ (List.mem_of_getElem? (i := 41) rfl))))))) rfl
theorem gm_s_MD_type : Cond.selects gm_R_MD gm_y_MD_type gm_y_MD_type ∈ gm_W := gm_in (List.mem_append_right _ (List.mem_append_right _ (List.mem_append_right _ (List.mem_append_right _ (List.mem_append_right _ (List.mem_append_left _ (List.mem_of_getElem? (i := 42) rfl))))))) rfl
abbrev gm_b_MD_wipe : ByteArray := prog_12_method_5_code
def gm_y_MD_wipe : MethodName := ⟨gm_R_MD, "wipe", "()V"⟩
theorem gm_k_MD_wipe : Cond.code gm_y_MD_wipe gm_b_MD_wipe 1 none ∈ gm_W := gm_in (List.mem_append_right _ (List.mem_append_right _ (List.mem_append_right _ (List.mem_append_right _ (List.mem_append_right _ (List.mem_append_left _ (List.mem_of_getElem? (i := 47) rfl))))))) rfl
theorem gm_q_MD_wipe : Cond.instanceMethod gm_y_MD_wipe ∈ gm_W := gm_in (List.mem_append_right _ (List.mem_append_right _ (List.mem_append_right _ (List.mem_append_right _ (List.mem_append_right _ (List.mem_append_left _ (List.mem_of_getElem? (i := 45) rfl))))))) rfl
theorem gm_s_MD_wipe : Cond.selects gm_R_MD gm_y_MD_wipe gm_y_MD_wipe ∈ gm_W := gm_in (List.mem_append_right _ (List.mem_append_right _ (List.mem_append_right _ (List.mem_append_right _ (List.mem_append_right _ (List.mem_append_left _ (List.mem_of_getElem? (i := 46) rfl))))))) rfl
abbrev gm_b_MD_compile : ByteArray := prog_12_method_30_code
def gm_y_MD_compile : MethodName := ⟨gm_R_MD, "compile", "()I"⟩
theorem gm_k_MD_compile : Cond.code gm_y_MD_compile gm_b_MD_compile 2 (some .int) ∈ gm_W := gm_in (List.mem_append_right _ (List.mem_append_right _ (List.mem_append_right _ (List.mem_append_right _ (List.mem_append_right _ (List.mem_append_left _ (List.mem_of_getElem? (i := 51) rfl))))))) rfl
theorem gm_q_MD_compile : Cond.instanceMethod gm_y_MD_compile ∈ gm_W := gm_in (List.mem_append_right _ (List.mem_append_right _ (List.mem_append_right _ (List.mem_append_right _ (List.mem_append_right _ (List.mem_append_left _ (List.mem_of_getElem? (i := 49) rfl))))))) rfl
theorem gm_s_MD_compile : Cond.selects gm_R_MD gm_y_MD_compile gm_y_MD_compile ∈ gm_W := gm_in (List.mem_append_right _ (List.mem_append_right _ (List.mem_append_right _ (List.mem_append_right _ (List.mem_append_right _ (List.mem_append_left _ (List.mem_of_getElem? (i := 50) rfl))))))) rfl
abbrev gm_b_MD_read : ByteArray := prog_12_method_10_code
def gm_y_MD_read : MethodName := ⟨gm_R_MD, "read", "()Z"⟩
theorem gm_k_MD_read : Cond.code gm_y_MD_read gm_b_MD_read 1 (some .boolean) ∈ gm_W := gm_in (List.mem_append_right _ (List.mem_append_right _ (List.mem_append_right _ (List.mem_append_right _ (List.mem_append_right _ (List.mem_append_left _ (List.mem_of_getElem? (i := 55) rfl))))))) rfl
theorem gm_q_MD_read : Cond.instanceMethod gm_y_MD_read ∈ gm_W := gm_in (List.mem_append_right _ (List.mem_append_right _ (List.mem_append_right _ (List.mem_append_right _ (List.mem_append_right _ (List.mem_append_left _ (List.mem_of_getElem? (i := 54) rfl))))))) rfl
theorem gm_s_MD_read : Cond.selects gm_R_MD gm_y_MD_read gm_y_MD_read ∈ gm_W := gm_in (List.mem_append_left _ (List.mem_map.mpr ⟨(gm_y_MD_read, 45), (List.mem_append_right _ (List.mem_append_right _ (List.mem_append_right _ (List.mem_append_left _ (List.mem_of_getElem? (i := 1) rfl))))), rfl⟩)) rfl
abbrev gm_b_MD_readRule : ByteArray := prog_12_method_11_code
def gm_y_MD_readRule : MethodName := ⟨gm_R_MD, "readRule", "()V"⟩
theorem gm_k_MD_readRule : Cond.code gm_y_MD_readRule gm_b_MD_readRule 2 none ∈ gm_W := gm_in (List.mem_append_right _ (List.mem_append_right _ (List.mem_append_right _ (List.mem_append_right _ (List.mem_append_right _ (List.mem_append_left _ (List.mem_of_getElem? (i := 59) rfl))))))) rfl
theorem gm_q_MD_readRule : Cond.instanceMethod gm_y_MD_readRule ∈ gm_W := gm_in (List.mem_append_right _ (List.mem_append_right _ (List.mem_append_right _ (List.mem_append_right _ (List.mem_append_right _ (List.mem_append_left _ (List.mem_of_getElem? (i := 58) rfl))))))) rfl
theorem gm_s_MD_readRule : Cond.selects gm_R_MD gm_y_MD_readRule gm_y_MD_readRule ∈ gm_W := gm_in (List.mem_append_left _ (List.mem_map.mpr ⟨(gm_y_MD_readRule, 45), (List.mem_append_right _ (List.mem_append_right _ (List.mem_append_right _ (List.mem_append_left _ (List.mem_of_getElem? (i := 2) rfl))))), rfl⟩)) rfl
abbrev gm_b_MD_peek : ByteArray := prog_12_method_6_code
def gm_y_MD_peek : MethodName := ⟨gm_R_MD, "peek", "()I"⟩
theorem gm_k_MD_peek : Cond.code gm_y_MD_peek gm_b_MD_peek 1 (some .int) ∈ gm_W := gm_in (List.mem_append_right _ (List.mem_append_right _ (List.mem_append_right _ (List.mem_append_right _ (List.mem_append_right _ (List.mem_append_left _ (List.mem_of_getElem? (i := 63) rfl))))))) rfl
theorem gm_q_MD_peek : Cond.instanceMethod gm_y_MD_peek ∈ gm_W := gm_in (List.mem_append_right _ (List.mem_append_right _ (List.mem_append_right _ (List.mem_append_right _ (List.mem_append_right _ (List.mem_append_left _ (List.mem_of_getElem? (i := 62) rfl))))))) rfl
theorem gm_s_MD_peek : Cond.selects gm_R_MD gm_y_MD_peek gm_y_MD_peek ∈ gm_W := gm_in (List.mem_append_left _ (List.mem_map.mpr ⟨(gm_y_MD_peek, 45), (List.mem_append_right _ (List.mem_append_right _ (List.mem_append_right _ (List.mem_append_left _ (List.mem_of_getElem? (i := 3) rfl))))), rfl⟩)) rfl
abbrev gm_b_MD_ruleOf : ByteArray := prog_12_method_9_code
def gm_y_MD_ruleOf : MethodName := ⟨gm_R_MD, "ruleOf", "(II)I"⟩
theorem gm_k_MD_ruleOf : Cond.code gm_y_MD_ruleOf gm_b_MD_ruleOf 4 (some .int) ∈ gm_W := gm_in (List.mem_append_right _ (List.mem_append_right _ (List.mem_append_right _ (List.mem_append_right _ (List.mem_append_right _ (List.mem_append_left _ (List.mem_of_getElem? (i := 67) rfl))))))) rfl
theorem gm_q_MD_ruleOf : Cond.instanceMethod gm_y_MD_ruleOf ∈ gm_W := gm_in (List.mem_append_right _ (List.mem_append_right _ (List.mem_append_right _ (List.mem_append_right _ (List.mem_append_right _ (List.mem_append_left _ (List.mem_of_getElem? (i := 66) rfl))))))) rfl
theorem gm_s_MD_ruleOf : Cond.selects gm_R_MD gm_y_MD_ruleOf gm_y_MD_ruleOf ∈ gm_W := gm_in (List.mem_append_left _ (List.mem_map.mpr ⟨(gm_y_MD_ruleOf, 45), (List.mem_append_right _ (List.mem_append_right _ (List.mem_append_right _ (List.mem_append_left _ (List.mem_of_getElem? (i := 4) rfl))))), rfl⟩)) rfl
abbrev gm_b_MD_refuse : ByteArray := prog_12_method_7_code
def gm_y_MD_refuse : MethodName := ⟨gm_R_MD, "refuse", "()V"⟩
theorem gm_k_MD_refuse : Cond.code gm_y_MD_refuse gm_b_MD_refuse 1 none ∈ gm_W := gm_in (List.mem_append_right _ (List.mem_append_right _ (List.mem_append_right _ (List.mem_append_right _ (List.mem_append_right _ (List.mem_append_left _ (List.mem_of_getElem? (i := 71) rfl))))))) rfl
theorem gm_q_MD_refuse : Cond.instanceMethod gm_y_MD_refuse ∈ gm_W := gm_in (List.mem_append_right _ (List.mem_append_right _ (List.mem_append_right _ (List.mem_append_right _ (List.mem_append_right _ (List.mem_append_left _ (List.mem_of_getElem? (i := 70) rfl))))))) rfl
theorem gm_s_MD_refuse : Cond.selects gm_R_MD gm_y_MD_refuse gm_y_MD_refuse ∈ gm_W := gm_in (List.mem_append_left _ (List.mem_map.mpr ⟨(gm_y_MD_refuse, 45), (List.mem_append_right _ (List.mem_append_right _ (List.mem_append_right _ (List.mem_append_left _ (List.mem_of_getElem? (i := 5) rfl))))), rfl⟩)) rfl
abbrev gm_b_MD_readPart : ByteArray := prog_12_method_13_code
def gm_y_MD_readPart : MethodName := ⟨gm_R_MD, "readPart", "()V"⟩
theorem gm_k_MD_readPart : Cond.code gm_y_MD_readPart gm_b_MD_readPart 3 none ∈ gm_W := gm_in (List.mem_append_right _ (List.mem_append_right _ (List.mem_append_right _ (List.mem_append_right _ (List.mem_append_right _ (List.mem_append_left _ (List.mem_of_getElem? (i := 75) rfl))))))) rfl
theorem gm_q_MD_readPart : Cond.instanceMethod gm_y_MD_readPart ∈ gm_W := gm_in (List.mem_append_right _ (List.mem_append_right _ (List.mem_append_right _ (List.mem_append_right _ (List.mem_append_right _ (List.mem_append_left _ (List.mem_of_getElem? (i := 74) rfl))))))) rfl
theorem gm_s_MD_readPart : Cond.selects gm_R_MD gm_y_MD_readPart gm_y_MD_readPart ∈ gm_W := gm_in (List.mem_append_left _ (List.mem_map.mpr ⟨(gm_y_MD_readPart, 45), (List.mem_append_right _ (List.mem_append_right _ (List.mem_append_right _ (List.mem_append_left _ (List.mem_of_getElem? (i := 6) rfl))))), rfl⟩)) rfl
abbrev gm_b_MD_create : ByteArray := prog_12_method_8_code
def gm_y_MD_create : MethodName := ⟨gm_R_MD, "create", "(III)I"⟩
theorem gm_k_MD_create : Cond.code gm_y_MD_create gm_b_MD_create 5 (some .int) ∈ gm_W := gm_in (List.mem_append_right _ (List.mem_append_right _ (List.mem_append_right _ (List.mem_append_right _ (List.mem_append_right _ (List.mem_append_left _ (List.mem_of_getElem? (i := 79) rfl))))))) rfl
theorem gm_q_MD_create : Cond.instanceMethod gm_y_MD_create ∈ gm_W := gm_in (List.mem_append_right _ (List.mem_append_right _ (List.mem_append_right _ (List.mem_append_right _ (List.mem_append_right _ (List.mem_append_left _ (List.mem_of_getElem? (i := 78) rfl))))))) rfl
theorem gm_s_MD_create : Cond.selects gm_R_MD gm_y_MD_create gm_y_MD_create ∈ gm_W := gm_in (List.mem_append_left _ (List.mem_map.mpr ⟨(gm_y_MD_create, 45), (List.mem_append_right _ (List.mem_append_right _ (List.mem_append_right _ (List.mem_append_left _ (List.mem_of_getElem? (i := 7) rfl))))), rfl⟩)) rfl
abbrev gm_b_MD_primary : ByteArray := prog_12_method_18_code
def gm_y_MD_primary : MethodName := ⟨gm_R_MD, "primary", "(I)V"⟩
theorem gm_k_MD_primary : Cond.code gm_y_MD_primary gm_b_MD_primary 5 none ∈ gm_W := gm_in (List.mem_append_right _ (List.mem_append_right _ (List.mem_append_right _ (List.mem_append_right _ (List.mem_append_right _ (List.mem_append_left _ (List.mem_of_getElem? (i := 83) rfl))))))) rfl
theorem gm_q_MD_primary : Cond.instanceMethod gm_y_MD_primary ∈ gm_W := gm_in (List.mem_append_right _ (List.mem_append_right _ (List.mem_append_right _ (List.mem_append_right _ (List.mem_append_right _ (List.mem_append_left _ (List.mem_of_getElem? (i := 82) rfl))))))) rfl
theorem gm_s_MD_primary : Cond.selects gm_R_MD gm_y_MD_primary gm_y_MD_primary ∈ gm_W := gm_in (List.mem_append_left _ (List.mem_map.mpr ⟨(gm_y_MD_primary, 45), (List.mem_append_right _ (List.mem_append_right _ (List.mem_append_right _ (List.mem_append_left _ (List.mem_of_getElem? (i := 8) rfl))))), rfl⟩)) rfl
abbrev gm_b_MD_include : ByteArray := prog_12_method_16_code
def gm_y_MD_include : MethodName := ⟨gm_R_MD, "include", "(III)V"⟩
theorem gm_k_MD_include : Cond.code gm_y_MD_include gm_b_MD_include 5 none ∈ gm_W := gm_in (List.mem_append_right _ (List.mem_append_right _ (List.mem_append_right _ (List.mem_append_right _ (List.mem_append_right _ (List.mem_append_left _ (List.mem_of_getElem? (i := 87) rfl))))))) rfl
theorem gm_q_MD_include : Cond.instanceMethod gm_y_MD_include ∈ gm_W := gm_in (List.mem_append_right _ (List.mem_append_right _ (List.mem_append_right _ (List.mem_append_right _ (List.mem_append_right _ (List.mem_append_left _ (List.mem_of_getElem? (i := 86) rfl))))))) rfl
theorem gm_s_MD_include : Cond.selects gm_R_MD gm_y_MD_include gm_y_MD_include ∈ gm_W := gm_in (List.mem_append_left _ (List.mem_map.mpr ⟨(gm_y_MD_include, 45), (List.mem_append_right _ (List.mem_append_right _ (List.mem_append_right _ (List.mem_append_left _ (List.mem_of_getElem? (i := 9) rfl))))), rfl⟩)) rfl
abbrev gm_b_MD_readRow : ByteArray := prog_12_method_15_code
def gm_y_MD_readRow : MethodName := ⟨gm_R_MD, "readRow", "()V"⟩
theorem gm_k_MD_readRow : Cond.code gm_y_MD_readRow gm_b_MD_readRow 3 none ∈ gm_W := gm_in (List.mem_append_right _ (List.mem_append_right _ (List.mem_append_right _ (List.mem_append_right _ (List.mem_append_right _ (List.mem_append_left _ (List.mem_of_getElem? (i := 91) rfl))))))) rfl
theorem gm_q_MD_readRow : Cond.instanceMethod gm_y_MD_readRow ∈ gm_W := gm_in (List.mem_append_right _ (List.mem_append_right _ (List.mem_append_right _ (List.mem_append_right _ (List.mem_append_right _ (List.mem_append_left _ (List.mem_of_getElem? (i := 90) rfl))))))) rfl
theorem gm_s_MD_readRow : Cond.selects gm_R_MD gm_y_MD_readRow gm_y_MD_readRow ∈ gm_W := gm_in (List.mem_append_left _ (List.mem_map.mpr ⟨(gm_y_MD_readRow, 45), (List.mem_append_right _ (List.mem_append_right _ (List.mem_append_right _ (List.mem_append_left _ (List.mem_of_getElem? (i := 10) rfl))))), rfl⟩)) rfl
abbrev gm_b_MD_readClass : ByteArray := prog_12_method_17_code
def gm_y_MD_readClass : MethodName := ⟨gm_R_MD, "readClass", "()V"⟩
theorem gm_k_MD_readClass : Cond.code gm_y_MD_readClass gm_b_MD_readClass 5 none ∈ gm_W := gm_in (List.mem_append_right _ (List.mem_append_right _ (List.mem_append_right _ (List.mem_append_right _ (List.mem_append_right _ (List.mem_append_left _ (List.mem_of_getElem? (i := 95) rfl))))))) rfl
theorem gm_q_MD_readClass : Cond.instanceMethod gm_y_MD_readClass ∈ gm_W := gm_in (List.mem_append_right _ (List.mem_append_right _ (List.mem_append_right _ (List.mem_append_right _ (List.mem_append_right _ (List.mem_append_left _ (List.mem_of_getElem? (i := 94) rfl))))))) rfl
theorem gm_s_MD_readClass : Cond.selects gm_R_MD gm_y_MD_readClass gm_y_MD_readClass ∈ gm_W := gm_in (List.mem_append_left _ (List.mem_map.mpr ⟨(gm_y_MD_readClass, 45), (List.mem_append_right _ (List.mem_append_right _ (List.mem_append_right _ (List.mem_append_left _ (List.mem_of_getElem? (i := 11) rfl))))), rfl⟩)) rfl
abbrev gm_b_MD_readSign : ByteArray := prog_12_method_14_code
def gm_y_MD_readSign : MethodName := ⟨gm_R_MD, "readSign", "(I)V"⟩
theorem gm_k_MD_readSign : Cond.code gm_y_MD_readSign gm_b_MD_readSign 2 none ∈ gm_W := gm_in (List.mem_append_right _ (List.mem_append_right _ (List.mem_append_right _ (List.mem_append_right _ (List.mem_append_right _ (List.mem_append_left _ (List.mem_of_getElem? (i := 99) rfl))))))) rfl
theorem gm_q_MD_readSign : Cond.instanceMethod gm_y_MD_readSign ∈ gm_W := gm_in (List.mem_append_right _ (List.mem_append_right _ (List.mem_append_right _ (List.mem_append_right _ (List.mem_append_right _ (List.mem_append_left _ (List.mem_of_getElem? (i := 98) rfl))))))) rfl
theorem gm_s_MD_readSign : Cond.selects gm_R_MD gm_y_MD_readSign gm_y_MD_readSign ∈ gm_W := gm_in (List.mem_append_left _ (List.mem_map.mpr ⟨(gm_y_MD_readSign, 45), (List.mem_append_right _ (List.mem_append_right _ (List.mem_append_right _ (List.mem_append_left _ (List.mem_of_getElem? (i := 12) rfl))))), rfl⟩)) rfl
abbrev gm_b_MD_closing : ByteArray := prog_12_method_12_code
def gm_y_MD_closing : MethodName := ⟨gm_R_MD, "closing", "(I)I"⟩
theorem gm_k_MD_closing : Cond.code gm_y_MD_closing gm_b_MD_closing 1 (some .int) ∈ gm_W := gm_in (List.mem_append_right _ (List.mem_append_right _ (List.mem_append_right _ (List.mem_append_right _ (List.mem_append_right _ (List.mem_append_left _ (List.mem_of_getElem? (i := 102) rfl))))))) rfl
theorem gm_q_MD_closing : Cond.static gm_y_MD_closing ∈ gm_W := gm_in (List.mem_append_right _ (List.mem_append_right _ (List.mem_append_right _ (List.mem_append_right _ (List.mem_append_right _ (List.mem_append_left _ (List.mem_of_getElem? (i := 101) rfl))))))) rfl
abbrev gm_b_MD_endSequence : ByteArray := prog_12_method_19_code
def gm_y_MD_endSequence : MethodName := ⟨gm_R_MD, "endSequence", "()V"⟩
theorem gm_k_MD_endSequence : Cond.code gm_y_MD_endSequence gm_b_MD_endSequence 3 none ∈ gm_W := gm_in (List.mem_append_right _ (List.mem_append_right _ (List.mem_append_right _ (List.mem_append_right _ (List.mem_append_right _ (List.mem_append_left _ (List.mem_of_getElem? (i := 106) rfl))))))) rfl
theorem gm_q_MD_endSequence : Cond.instanceMethod gm_y_MD_endSequence ∈ gm_W := gm_in (List.mem_append_right _ (List.mem_append_right _ (List.mem_append_right _ (List.mem_append_right _ (List.mem_append_right _ (List.mem_append_left _ (List.mem_of_getElem? (i := 105) rfl))))))) rfl
theorem gm_s_MD_endSequence : Cond.selects gm_R_MD gm_y_MD_endSequence gm_y_MD_endSequence ∈ gm_W := gm_in (List.mem_append_left _ (List.mem_map.mpr ⟨(gm_y_MD_endSequence, 45), (List.mem_append_right _ (List.mem_append_right _ (List.mem_append_right _ (List.mem_append_left _ (List.mem_of_getElem? (i := 13) rfl))))), rfl⟩)) rfl
abbrev gm_b_MD_close : ByteArray := prog_12_method_20_code
def gm_y_MD_close : MethodName := ⟨gm_R_MD, "close", "()V"⟩
theorem gm_k_MD_close : Cond.code gm_y_MD_close gm_b_MD_close 3 none ∈ gm_W := gm_in (List.mem_append_right _ (List.mem_append_right _ (List.mem_append_right _ (List.mem_append_right _ (List.mem_append_right _ (List.mem_append_left _ (List.mem_of_getElem? (i := 110) rfl))))))) rfl
theorem gm_q_MD_close : Cond.instanceMethod gm_y_MD_close ∈ gm_W := gm_in (List.mem_append_right _ (List.mem_append_right _ (List.mem_append_right _ (List.mem_append_right _ (List.mem_append_right _ (List.mem_append_left _ (List.mem_of_getElem? (i := 109) rfl))))))) rfl
theorem gm_s_MD_close : Cond.selects gm_R_MD gm_y_MD_close gm_y_MD_close ∈ gm_W := gm_in (List.mem_append_left _ (List.mem_map.mpr ⟨(gm_y_MD_close, 45), (List.mem_append_right _ (List.mem_append_right _ (List.mem_append_right _ (List.mem_append_left _ (List.mem_of_getElem? (i := 14) rfl))))), rfl⟩)) rfl
abbrev gm_b_MD_tell : ByteArray := prog_12_method_29_code
def gm_y_MD_tell : MethodName := ⟨gm_R_MD, "tell", "(II)I"⟩
theorem gm_k_MD_tell : Cond.code gm_y_MD_tell gm_b_MD_tell 3 (some .int) ∈ gm_W := gm_in (List.mem_append_right _ (List.mem_append_right _ (List.mem_append_right _ (List.mem_append_right _ (List.mem_append_right _ (List.mem_append_left _ (List.mem_of_getElem? (i := 114) rfl))))))) rfl
theorem gm_q_MD_tell : Cond.instanceMethod gm_y_MD_tell ∈ gm_W := gm_in (List.mem_append_right _ (List.mem_append_right _ (List.mem_append_right _ (List.mem_append_right _ (List.mem_append_right _ (List.mem_append_left _ (List.mem_of_getElem? (i := 113) rfl))))))) rfl
theorem gm_s_MD_tell : Cond.selects gm_R_MD gm_y_MD_tell gm_y_MD_tell ∈ gm_W := gm_in (List.mem_append_left _ (List.mem_map.mpr ⟨(gm_y_MD_tell, 45), (List.mem_append_right _ (List.mem_append_right _ (List.mem_append_right _ (List.mem_append_left _ (List.mem_of_getElem? (i := 15) rfl))))), rfl⟩)) rfl
abbrev gm_b_MD_fail : ByteArray := prog_12_method_3_code
def gm_y_MD_fail : MethodName := ⟨gm_R_MD, "fail", "(I)I"⟩
theorem gm_k_MD_fail : Cond.code gm_y_MD_fail gm_b_MD_fail 2 (some .int) ∈ gm_W := gm_in (List.mem_append_right _ (List.mem_append_right _ (List.mem_append_right _ (List.mem_append_right _ (List.mem_append_right _ (List.mem_append_left _ (List.mem_of_getElem? (i := 118) rfl))))))) rfl
theorem gm_q_MD_fail : Cond.instanceMethod gm_y_MD_fail ∈ gm_W := gm_in (List.mem_append_right _ (List.mem_append_right _ (List.mem_append_right _ (List.mem_append_right _ (List.mem_append_right _ (List.mem_append_left _ (List.mem_of_getElem? (i := 117) rfl))))))) rfl
theorem gm_s_MD_fail : Cond.selects gm_R_MD gm_y_MD_fail gm_y_MD_fail ∈ gm_W := gm_in (List.mem_append_left _ (List.mem_map.mpr ⟨(gm_y_MD_fail, 45), (List.mem_append_right _ (List.mem_append_right _ (List.mem_append_right _ (List.mem_append_right _ (List.mem_append_left _ (List.mem_of_getElem? (i := 0) rfl)))))), rfl⟩)) rfl
abbrev gm_b_MD_isUndefined : ByteArray := prog_12_method_27_code
def gm_y_MD_isUndefined : MethodName := ⟨gm_R_MD, "isUndefined", "(I)Z"⟩
theorem gm_k_MD_isUndefined : Cond.code gm_y_MD_isUndefined gm_b_MD_isUndefined 4 (some .boolean) ∈ gm_W := gm_in (List.mem_append_right _ (List.mem_append_right _ (List.mem_append_right _ (List.mem_append_right _ (List.mem_append_right _ (List.mem_append_left _ (List.mem_of_getElem? (i := 122) rfl))))))) rfl
theorem gm_q_MD_isUndefined : Cond.instanceMethod gm_y_MD_isUndefined ∈ gm_W := gm_in (List.mem_append_right _ (List.mem_append_right _ (List.mem_append_right _ (List.mem_append_right _ (List.mem_append_right _ (List.mem_append_left _ (List.mem_of_getElem? (i := 121) rfl))))))) rfl
theorem gm_s_MD_isUndefined : Cond.selects gm_R_MD gm_y_MD_isUndefined gm_y_MD_isUndefined ∈ gm_W := gm_in (List.mem_append_left _ (List.mem_map.mpr ⟨(gm_y_MD_isUndefined, 45), (List.mem_append_right _ (List.mem_append_right _ (List.mem_append_right _ (List.mem_append_right _ (List.mem_append_left _ (List.mem_of_getElem? (i := 1) rfl)))))), rfl⟩)) rfl
abbrev gm_b_MD_meant : ByteArray := prog_12_method_21_code
def gm_y_MD_meant : MethodName := ⟨gm_R_MD, "meant", "(I)I"⟩
theorem gm_k_MD_meant : Cond.code gm_y_MD_meant gm_b_MD_meant 3 (some .int) ∈ gm_W := gm_in (List.mem_append_right _ (List.mem_append_right _ (List.mem_append_right _ (List.mem_append_right _ (List.mem_append_right _ (List.mem_append_left _ (List.mem_of_getElem? (i := 126) rfl))))))) rfl
theorem gm_q_MD_meant : Cond.instanceMethod gm_y_MD_meant ∈ gm_W := gm_in (List.mem_append_right _ (List.mem_append_right _ (List.mem_append_right _ (List.mem_append_right _ (List.mem_append_right _ (List.mem_append_left _ (List.mem_of_getElem? (i := 125) rfl))))))) rfl
theorem gm_s_MD_meant : Cond.selects gm_R_MD gm_y_MD_meant gm_y_MD_meant ∈ gm_W := gm_in (List.mem_append_left _ (List.mem_map.mpr ⟨(gm_y_MD_meant, 45), (List.mem_append_right _ (List.mem_append_right _ (List.mem_append_right _ (List.mem_append_right _ (List.mem_append_left _ (List.mem_of_getElem? (i := 2) rfl)))))), rfl⟩)) rfl
abbrev gm_b_MD_study : ByteArray := prog_12_method_26_code
def gm_y_MD_study : MethodName := ⟨gm_R_MD, "study", "()V"⟩
theorem gm_k_MD_study : Cond.code gm_y_MD_study gm_b_MD_study 5 none ∈ gm_W := gm_in (List.mem_append_right _ (List.mem_append_right _ (List.mem_append_right _ (List.mem_append_right _ (List.mem_append_right _ (List.mem_append_left _ (List.mem_of_getElem? (i := 130) rfl))))))) rfl
theorem gm_q_MD_study : Cond.instanceMethod gm_y_MD_study ∈ gm_W := gm_in (List.mem_append_right _ (List.mem_append_right _ (List.mem_append_right _ (List.mem_append_right _ (List.mem_append_right _ (List.mem_append_left _ (List.mem_of_getElem? (i := 129) rfl))))))) rfl
theorem gm_s_MD_study : Cond.selects gm_R_MD gm_y_MD_study gm_y_MD_study ∈ gm_W := gm_in (List.mem_append_left _ (List.mem_map.mpr ⟨(gm_y_MD_study, 45), (List.mem_append_right _ (List.mem_append_right _ (List.mem_append_right _ (List.mem_append_right _ (List.mem_append_left _ (List.mem_of_getElem? (i := 3) rfl)))))), rfl⟩)) rfl
abbrev gm_b_MD_isEmpty : ByteArray := prog_12_method_22_code
def gm_y_MD_isEmpty : MethodName := ⟨gm_R_MD, "isEmpty", "(I)Z"⟩
theorem gm_k_MD_isEmpty : Cond.code gm_y_MD_isEmpty gm_b_MD_isEmpty 2 (some .boolean) ∈ gm_W := gm_in (List.mem_append_right _ (List.mem_append_right _ (List.mem_append_right _ (List.mem_append_right _ (List.mem_append_right _ (List.mem_append_left _ (List.mem_of_getElem? (i := 134) rfl))))))) rfl
theorem gm_q_MD_isEmpty : Cond.instanceMethod gm_y_MD_isEmpty ∈ gm_W := gm_in (List.mem_append_right _ (List.mem_append_right _ (List.mem_append_right _ (List.mem_append_right _ (List.mem_append_right _ (List.mem_append_left _ (List.mem_of_getElem? (i := 133) rfl))))))) rfl
theorem gm_s_MD_isEmpty : Cond.selects gm_R_MD gm_y_MD_isEmpty gm_y_MD_isEmpty ∈ gm_W := gm_in (List.mem_append_left _ (List.mem_map.mpr ⟨(gm_y_MD_isEmpty, 45), (List.mem_append_right _ (List.mem_append_right _ (List.mem_append_right _ (List.mem_append_right _ (List.mem_append_left _ (List.mem_of_getElem? (i := 4) rfl)))))), rfl⟩)) rfl
abbrev gm_b_MD_beginsOf : ByteArray := prog_12_method_23_code
def gm_y_MD_beginsOf : MethodName := ⟨gm_R_MD, "beginsOf", "(I)I"⟩
theorem gm_k_MD_beginsOf : Cond.code gm_y_MD_beginsOf gm_b_MD_beginsOf 2 (some .int) ∈ gm_W := gm_in (List.mem_append_right _ (List.mem_append_right _ (List.mem_append_right _ (List.mem_append_right _ (List.mem_append_right _ (List.mem_append_left _ (List.mem_of_getElem? (i := 138) rfl))))))) rfl
theorem gm_q_MD_beginsOf : Cond.instanceMethod gm_y_MD_beginsOf ∈ gm_W := gm_in (List.mem_append_right _ (List.mem_append_right _ (List.mem_append_right _ (List.mem_append_right _ (List.mem_append_right _ (List.mem_append_left _ (List.mem_of_getElem? (i := 137) rfl))))))) rfl
theorem gm_s_MD_beginsOf : Cond.selects gm_R_MD gm_y_MD_beginsOf gm_y_MD_beginsOf ∈ gm_W := gm_in (List.mem_append_left _ (List.mem_map.mpr ⟨(gm_y_MD_beginsOf, 45), (List.mem_append_right _ (List.mem_append_right _ (List.mem_append_right _ (List.mem_append_right _ (List.mem_append_left _ (List.mem_of_getElem? (i := 5) rfl)))))), rfl⟩)) rfl
abbrev gm_b_MD_findHead : ByteArray := prog_12_method_24_code
def gm_y_MD_findHead : MethodName := ⟨gm_R_MD, "findHead", "(I)V"⟩
theorem gm_k_MD_findHead : Cond.code gm_y_MD_findHead gm_b_MD_findHead 3 none ∈ gm_W := gm_in (List.mem_append_right _ (List.mem_append_right _ (List.mem_append_right _ (List.mem_append_right _ (List.mem_append_right _ (List.mem_append_left _ (List.mem_of_getElem? (i := 142) rfl))))))) rfl
theorem gm_q_MD_findHead : Cond.instanceMethod gm_y_MD_findHead ∈ gm_W := gm_in (List.mem_append_right _ (List.mem_append_right _ (List.mem_append_right _ (List.mem_append_right _ (List.mem_append_right _ (List.mem_append_left _ (List.mem_of_getElem? (i := 141) rfl))))))) rfl
theorem gm_s_MD_findHead : Cond.selects gm_R_MD gm_y_MD_findHead gm_y_MD_findHead ∈ gm_W := gm_in (List.mem_append_left _ (List.mem_map.mpr ⟨(gm_y_MD_findHead, 45), (List.mem_append_right _ (List.mem_append_right _ (List.mem_append_right _ (List.mem_append_right _ (List.mem_append_left _ (List.mem_of_getElem? (i := 6) rfl)))))), rfl⟩)) rfl
abbrev gm_b_MD_addHead : ByteArray := prog_12_method_25_code
def gm_y_MD_addHead : MethodName := ⟨gm_R_MD, "addHead", "(II)V"⟩
theorem gm_k_MD_addHead : Cond.code gm_y_MD_addHead gm_b_MD_addHead 3 none ∈ gm_W := gm_in (List.mem_append_right _ (List.mem_append_right _ (List.mem_append_right _ (List.mem_append_right _ (List.mem_append_right _ (List.mem_append_left _ (List.mem_of_getElem? (i := 146) rfl))))))) rfl
theorem gm_q_MD_addHead : Cond.instanceMethod gm_y_MD_addHead ∈ gm_W := gm_in (List.mem_append_right _ (List.mem_append_right _ (List.mem_append_right _ (List.mem_append_right _ (List.mem_append_right _ (List.mem_append_left _ (List.mem_of_getElem? (i := 145) rfl))))))) rfl
theorem gm_s_MD_addHead : Cond.selects gm_R_MD gm_y_MD_addHead gm_y_MD_addHead ∈ gm_W := gm_in (List.mem_append_left _ (List.mem_map.mpr ⟨(gm_y_MD_addHead, 45), (List.mem_append_right _ (List.mem_append_right _ (List.mem_append_right _ (List.mem_append_right _ (List.mem_append_left _ (List.mem_of_getElem? (i := 7) rfl)))))), rfl⟩)) rfl
abbrev gm_b_MD_isWild : ByteArray := prog_12_method_28_code
def gm_y_MD_isWild : MethodName := ⟨gm_R_MD, "isWild", "(I)Z"⟩
theorem gm_k_MD_isWild : Cond.code gm_y_MD_isWild gm_b_MD_isWild 4 (some .boolean) ∈ gm_W := gm_in (List.mem_append_right _ (List.mem_append_right _ (List.mem_append_right _ (List.mem_append_right _ (List.mem_append_right _ (List.mem_append_left _ (List.mem_of_getElem? (i := 150) rfl))))))) rfl
theorem gm_q_MD_isWild : Cond.instanceMethod gm_y_MD_isWild ∈ gm_W := gm_in (List.mem_append_right _ (List.mem_append_right _ (List.mem_append_right _ (List.mem_append_right _ (List.mem_append_right _ (List.mem_append_left _ (List.mem_of_getElem? (i := 149) rfl))))))) rfl
theorem gm_s_MD_isWild : Cond.selects gm_R_MD gm_y_MD_isWild gm_y_MD_isWild ∈ gm_W := gm_in (List.mem_append_left _ (List.mem_map.mpr ⟨(gm_y_MD_isWild, 45), (List.mem_append_right _ (List.mem_append_right _ (List.mem_append_right _ (List.mem_append_right _ (List.mem_append_left _ (List.mem_of_getElem? (i := 8) rfl)))))), rfl⟩)) rfl
abbrev gm_b_MD_fault : ByteArray := prog_12_method_31_code
def gm_y_MD_fault : MethodName := ⟨gm_R_MD, "fault", "()I"⟩
theorem gm_k_MD_fault : Cond.code gm_y_MD_fault gm_b_MD_fault 1 (some .int) ∈ gm_W := gm_in (List.mem_append_right _ (List.mem_append_right _ (List.mem_append_right _ (List.mem_append_right _ (List.mem_append_right _ (List.mem_append_left _ (List.mem_of_getElem? (i := 154) rfl))))))) rfl
theorem gm_q_MD_fault : Cond.instanceMethod gm_y_MD_fault ∈ gm_W := gm_in (List.mem_append_right _ (List.mem_append_right _ (List.mem_append_right _ (List.mem_append_right _ (List.mem_append_right _ (List.mem_append_left _ (List.mem_of_getElem? (i := 152) rfl))))))) rfl
theorem gm_s_MD_fault : Cond.selects gm_R_MD gm_y_MD_fault gm_y_MD_fault ∈ gm_W := gm_in (List.mem_append_right _ (List.mem_append_right _ (List.mem_append_right _ (List.mem_append_right _ (List.mem_append_right _ (List.mem_append_left _ (List.mem_of_getElem? (i := 153) rfl))))))) rfl
abbrev gm_b_MD_empty : ByteArray := prog_12_method_33_code
def gm_y_MD_empty : MethodName := ⟨gm_R_MD, "empty", "(C)Z"⟩
theorem gm_k_MD_empty : Cond.code gm_y_MD_empty gm_b_MD_empty 3 (some .boolean) ∈ gm_W := gm_in (List.mem_append_right _ (List.mem_append_right _ (List.mem_append_right _ (List.mem_append_right _ (List.mem_append_right _ (List.mem_append_left _ (List.mem_of_getElem? (i := 158) rfl))))))) rfl
theorem gm_q_MD_empty : Cond.instanceMethod gm_y_MD_empty ∈ gm_W := gm_in (List.mem_append_right _ (List.mem_append_right _ (List.mem_append_right _ (List.mem_append_right _ (List.mem_append_right _ (List.mem_append_left _ (List.mem_of_getElem? (i := 156) rfl))))))) rfl
theorem gm_s_MD_empty : Cond.selects gm_R_MD gm_y_MD_empty gm_y_MD_empty ∈ gm_W := gm_in (List.mem_append_right _ (List.mem_append_right _ (List.mem_append_right _ (List.mem_append_right _ (List.mem_append_right _ (List.mem_append_left _ (List.mem_of_getElem? (i := 157) rfl))))))) rfl
abbrev gm_b_MD_asked : ByteArray := prog_12_method_32_code
def gm_y_MD_asked : MethodName := ⟨gm_R_MD, "asked", "(I)I"⟩
theorem gm_k_MD_asked : Cond.code gm_y_MD_asked gm_b_MD_asked 3 (some .int) ∈ gm_W := gm_in (List.mem_append_right _ (List.mem_append_right _ (List.mem_append_right _ (List.mem_append_right _ (List.mem_append_right _ (List.mem_append_left _ (List.mem_of_getElem? (i := 162) rfl))))))) rfl
theorem gm_q_MD_asked : Cond.instanceMethod gm_y_MD_asked ∈ gm_W := gm_in (List.mem_append_right _ (List.mem_append_right _ (List.mem_append_right _ (List.mem_append_right _ (List.mem_append_right _ (List.mem_append_left _ (List.mem_of_getElem? (i := 161) rfl))))))) rfl
theorem gm_s_MD_asked : Cond.selects gm_R_MD gm_y_MD_asked gm_y_MD_asked ∈ gm_W := gm_in (List.mem_append_left _ (List.mem_map.mpr ⟨(gm_y_MD_asked, 45), (List.mem_append_right _ (List.mem_append_right _ (List.mem_append_right _ (List.mem_append_right _ (List.mem_append_left _ (List.mem_of_getElem? (i := 9) rfl)))))), rfl⟩)) rfl
abbrev gm_b_MD_head : ByteArray := prog_12_method_35_code
def gm_y_MD_head : MethodName := ⟨gm_R_MD, "head", "(CC)Z"⟩
theorem gm_k_MD_head : Cond.code gm_y_MD_head gm_b_MD_head 4 (some .boolean) ∈ gm_W := gm_in (List.mem_append_right _ (List.mem_append_right _ (List.mem_append_right _ (List.mem_append_right _ (List.mem_append_right _ (List.mem_append_left _ (List.mem_of_getElem? (i := 166) rfl))))))) rfl
theorem gm_q_MD_head : Cond.instanceMethod gm_y_MD_head ∈ gm_W := gm_in (List.mem_append_right _ (List.mem_append_right _ (List.mem_append_right _ (List.mem_append_right _ (List.mem_append_right _ (List.mem_append_left _ (List.mem_of_getElem? (i := 164) rfl))))))) rfl
theorem gm_s_MD_head : Cond.selects gm_R_MD gm_y_MD_head gm_y_MD_head ∈ gm_W := gm_in (List.mem_append_right _ (List.mem_append_right _ (List.mem_append_right _ (List.mem_append_right _ (List.mem_append_right _ (List.mem_append_left _ (List.mem_of_getElem? (i := 165) rfl))))))) rfl
abbrev gm_b_MD_isInHead : ByteArray := prog_12_method_34_code
def gm_y_MD_isInHead : MethodName := ⟨gm_R_MD, "isInHead", "(II)Z"⟩
theorem gm_k_MD_isInHead : Cond.code gm_y_MD_isInHead gm_b_MD_isInHead 3 (some .boolean) ∈ gm_W := gm_in (List.mem_append_right _ (List.mem_append_right _ (List.mem_append_right _ (List.mem_append_right _ (List.mem_append_right _ (List.mem_append_left _ (List.mem_of_getElem? (i := 170) rfl))))))) rfl
theorem gm_q_MD_isInHead : Cond.instanceMethod gm_y_MD_isInHead ∈ gm_W := gm_in (List.mem_append_right _ (List.mem_append_right _ (List.mem_append_right _ (List.mem_append_right _ (List.mem_append_right _ (List.mem_append_left _ (List.mem_of_getElem? (i := 169) rfl))))))) rfl
theorem gm_s_MD_isInHead : Cond.selects gm_R_MD gm_y_MD_isInHead gm_y_MD_isInHead ∈ gm_W := gm_in (List.mem_append_left _ (List.mem_map.mpr ⟨(gm_y_MD_isInHead, 45), (List.mem_append_right _ (List.mem_append_right _ (List.mem_append_right _ (List.mem_append_right _ (List.mem_append_left _ (List.mem_of_getElem? (i := 10) rfl)))))), rfl⟩)) rfl
abbrev gm_b_MD_feed : ByteArray := prog_12_method_36_code
def gm_y_MD_feed : MethodName := ⟨gm_R_MD, "feed", "(C)Z"⟩
theorem gm_k_MD_feed : Cond.code gm_y_MD_feed gm_b_MD_feed 2 (some .boolean) ∈ gm_W := gm_in (List.mem_append_right _ (List.mem_append_right _ (List.mem_append_right _ (List.mem_append_right _ (List.mem_append_right _ (List.mem_append_left _ (List.mem_of_getElem? (i := 174) rfl))))))) rfl
theorem gm_q_MD_feed : Cond.instanceMethod gm_y_MD_feed ∈ gm_W := gm_in (List.mem_append_right _ (List.mem_append_right _ (List.mem_append_right _ (List.mem_append_right _ (List.mem_append_right _ (List.mem_append_left _ (List.mem_of_getElem? (i := 172) rfl))))))) rfl
theorem gm_s_MD_feed : Cond.selects gm_R_MD gm_y_MD_feed gm_y_MD_feed ∈ gm_W := gm_in (List.mem_append_right _ (List.mem_append_right _ (List.mem_append_right _ (List.mem_append_right _ (List.mem_append_right _ (List.mem_append_left _ (List.mem_of_getElem? (i := 173) rfl))))))) rfl
abbrev gm_b_MD_clear : ByteArray := prog_12_method_37_code
def gm_y_MD_clear : MethodName := ⟨gm_R_MD, "clear", "()V"⟩
theorem gm_k_MD_clear : Cond.code gm_y_MD_clear gm_b_MD_clear 1 none ∈ gm_W := gm_in (List.mem_append_right _ (List.mem_append_right _ (List.mem_append_right _ (List.mem_append_right _ (List.mem_append_right _ (List.mem_append_left _ (List.mem_of_getElem? (i := 178) rfl))))))) rfl
theorem gm_q_MD_clear : Cond.instanceMethod gm_y_MD_clear ∈ gm_W := gm_in (List.mem_append_right _ (List.mem_append_right _ (List.mem_append_right _ (List.mem_append_right _ (List.mem_append_right _ (List.mem_append_left _ (List.mem_of_getElem? (i := 176) rfl))))))) rfl
theorem gm_s_MD_clear : Cond.selects gm_R_MD gm_y_MD_clear gm_y_MD_clear ∈ gm_W := gm_in (List.mem_append_right _ (List.mem_append_right _ (List.mem_append_right _ (List.mem_append_right _ (List.mem_append_right _ (List.mem_append_left _ (List.mem_of_getElem? (i := 177) rfl))))))) rfl
abbrev gm_b_MD_match : ByteArray := prog_12_method_56_code
def gm_y_MD_match : MethodName := ⟨gm_R_MD, "match", "(Z)I"⟩
theorem gm_k_MD_match : Cond.code gm_y_MD_match gm_b_MD_match 5 (some .int) ∈ gm_W := gm_in (List.mem_append_right _ (List.mem_append_right _ (List.mem_append_right _ (List.mem_append_right _ (List.mem_append_right _ (List.mem_append_left _ (List.mem_of_getElem? (i := 182) rfl))))))) rfl
theorem gm_q_MD_match : Cond.instanceMethod gm_y_MD_match ∈ gm_W := gm_in (List.mem_append_right _ (List.mem_append_right _ (List.mem_append_right _ (List.mem_append_right _ (List.mem_append_right _ (List.mem_append_left _ (List.mem_of_getElem? (i := 180) rfl))))))) rfl
theorem gm_s_MD_match : Cond.selects gm_R_MD gm_y_MD_match gm_y_MD_match ∈ gm_W := gm_in (List.mem_append_right _ (List.mem_append_right _ (List.mem_append_right _ (List.mem_append_right _ (List.mem_append_right _ (List.mem_append_left _ (List.mem_of_getElem? (i := 181) rfl))))))) rfl
abbrev gm_b_MD_fill : ByteArray := prog_12_method_49_code
def gm_y_MD_fill : MethodName := ⟨gm_R_MD, "fill", "()V"⟩
theorem gm_k_MD_fill : Cond.code gm_y_MD_fill gm_b_MD_fill 7 none ∈ gm_W := gm_in (List.mem_append_right _ (List.mem_append_right _ (List.mem_append_right _ (List.mem_append_right _ (List.mem_append_right _ (List.mem_append_left _ (List.mem_of_getElem? (i := 186) rfl))))))) rfl
theorem gm_q_MD_fill : Cond.instanceMethod gm_y_MD_fill ∈ gm_W := gm_in (List.mem_append_right _ (List.mem_append_right _ (List.mem_append_right _ (List.mem_append_right _ (List.mem_append_right _ (List.mem_append_left _ (List.mem_of_getElem? (i := 185) rfl))))))) rfl
theorem gm_s_MD_fill : Cond.selects gm_R_MD gm_y_MD_fill gm_y_MD_fill ∈ gm_W := gm_in (List.mem_append_left _ (List.mem_map.mpr ⟨(gm_y_MD_fill, 45), (List.mem_append_right _ (List.mem_append_right _ (List.mem_append_right _ (List.mem_append_right _ (List.mem_append_left _ (List.mem_of_getElem? (i := 11) rfl)))))), rfl⟩)) rfl
abbrev gm_b_MD_taken : ByteArray := prog_12_method_39_code
def gm_y_MD_taken : MethodName := ⟨gm_R_MD, "taken", "(II)I"⟩
theorem gm_k_MD_taken : Cond.code gm_y_MD_taken gm_b_MD_taken 3 (some .int) ∈ gm_W := gm_in (List.mem_append_right _ (List.mem_append_right _ (List.mem_append_right _ (List.mem_append_right _ (List.mem_append_right _ (List.mem_append_left _ (List.mem_of_getElem? (i := 190) rfl))))))) rfl
theorem gm_q_MD_taken : Cond.instanceMethod gm_y_MD_taken ∈ gm_W := gm_in (List.mem_append_right _ (List.mem_append_right _ (List.mem_append_right _ (List.mem_append_right _ (List.mem_append_right _ (List.mem_append_left _ (List.mem_of_getElem? (i := 189) rfl))))))) rfl
theorem gm_s_MD_taken : Cond.selects gm_R_MD gm_y_MD_taken gm_y_MD_taken ∈ gm_W := gm_in (List.mem_append_left _ (List.mem_map.mpr ⟨(gm_y_MD_taken, 45), (List.mem_append_right _ (List.mem_append_right _ (List.mem_append_right _ (List.mem_append_right _ (List.mem_append_left _ (List.mem_of_getElem? (i := 12) rfl)))))), rfl⟩)) rfl
abbrev gm_b_MD_cell : ByteArray := prog_12_method_38_code
def gm_y_MD_cell : MethodName := ⟨gm_R_MD, "cell", "(II)I"⟩
theorem gm_k_MD_cell : Cond.code gm_y_MD_cell gm_b_MD_cell 3 (some .int) ∈ gm_W := gm_in (List.mem_append_right _ (List.mem_append_right _ (List.mem_append_right _ (List.mem_append_right _ (List.mem_append_right _ (List.mem_append_left _ (List.mem_of_getElem? (i := 194) rfl))))))) rfl
theorem gm_q_MD_cell : Cond.instanceMethod gm_y_MD_cell ∈ gm_W := gm_in (List.mem_append_right _ (List.mem_append_right _ (List.mem_append_right _ (List.mem_append_right _ (List.mem_append_right _ (List.mem_append_left _ (List.mem_of_getElem? (i := 193) rfl))))))) rfl
theorem gm_s_MD_cell : Cond.selects gm_R_MD gm_y_MD_cell gm_y_MD_cell ∈ gm_W := gm_in (List.mem_append_left _ (List.mem_map.mpr ⟨(gm_y_MD_cell, 45), (List.mem_append_right _ (List.mem_append_right _ (List.mem_append_right _ (List.mem_append_right _ (List.mem_append_left _ (List.mem_of_getElem? (i := 13) rfl)))))), rfl⟩)) rfl
abbrev gm_b_MD_workOut : ByteArray := prog_12_method_44_code
def gm_y_MD_workOut : MethodName := ⟨gm_R_MD, "workOut", "(II)Z"⟩
theorem gm_k_MD_workOut : Cond.code gm_y_MD_workOut gm_b_MD_workOut 4 (some .boolean) ∈ gm_W := gm_in (List.mem_append_right _ (List.mem_append_right _ (List.mem_append_right _ (List.mem_append_right _ (List.mem_append_right _ (List.mem_append_left _ (List.mem_of_getElem? (i := 198) rfl))))))) rfl
theorem gm_q_MD_workOut : Cond.instanceMethod gm_y_MD_workOut ∈ gm_W := gm_in (List.mem_append_right _ (List.mem_append_right _ (List.mem_append_right _ (List.mem_append_right _ (List.mem_append_right _ (List.mem_append_left _ (List.mem_of_getElem? (i := 197) rfl))))))) rfl
theorem gm_s_MD_workOut : Cond.selects gm_R_MD gm_y_MD_workOut gm_y_MD_workOut ∈ gm_W := gm_in (List.mem_append_left _ (List.mem_map.mpr ⟨(gm_y_MD_workOut, 45), (List.mem_append_right _ (List.mem_append_right _ (List.mem_append_right _ (List.mem_append_right _ (List.mem_append_left _ (List.mem_of_getElem? (i := 14) rfl)))))), rfl⟩)) rfl
abbrev gm_b_MD_set : ByteArray := prog_12_method_42_code
def gm_y_MD_set : MethodName := ⟨gm_R_MD, "set", "(IIII)Z"⟩
theorem gm_k_MD_set : Cond.code gm_y_MD_set gm_b_MD_set 5 (some .boolean) ∈ gm_W := gm_in (List.mem_append_right _ (List.mem_append_right _ (List.mem_append_right _ (List.mem_append_right _ (List.mem_append_right _ (List.mem_append_left _ (List.mem_of_getElem? (i := 202) rfl))))))) rfl
theorem gm_q_MD_set : Cond.instanceMethod gm_y_MD_set ∈ gm_W := gm_in (List.mem_append_right _ (List.mem_append_right _ (List.mem_append_right _ (List.mem_append_right _ (List.mem_append_right _ (List.mem_append_left _ (List.mem_of_getElem? (i := 201) rfl))))))) rfl
theorem gm_s_MD_set : Cond.selects gm_R_MD gm_y_MD_set gm_y_MD_set ∈ gm_W := gm_in (List.mem_append_left _ (List.mem_map.mpr ⟨(gm_y_MD_set, 45), (List.mem_append_right _ (List.mem_append_right _ (List.mem_append_right _ (List.mem_append_right _ (List.mem_append_left _ (List.mem_of_getElem? (i := 15) rfl)))))), rfl⟩)) rfl
abbrev gm_b_MD_isRow : ByteArray := prog_12_method_43_code
def gm_y_MD_isRow : MethodName := ⟨gm_R_MD, "isRow", "(II)Z"⟩
theorem gm_k_MD_isRow : Cond.code gm_y_MD_isRow gm_b_MD_isRow 5 (some .boolean) ∈ gm_W := gm_in (List.mem_append_right _ (List.mem_append_right _ (List.mem_append_right _ (List.mem_append_right _ (List.mem_append_right _ (List.mem_append_left _ (List.mem_of_getElem? (i := 206) rfl))))))) rfl
theorem gm_q_MD_isRow : Cond.instanceMethod gm_y_MD_isRow ∈ gm_W := gm_in (List.mem_append_right _ (List.mem_append_right _ (List.mem_append_right _ (List.mem_append_right _ (List.mem_append_right _ (List.mem_append_left _ (List.mem_of_getElem? (i := 205) rfl))))))) rfl
theorem gm_s_MD_isRow : Cond.selects gm_R_MD gm_y_MD_isRow gm_y_MD_isRow ∈ gm_W := gm_in (List.mem_append_left _ (List.mem_map.mpr ⟨(gm_y_MD_isRow, 45), (List.mem_append_right _ (List.mem_append_right _ (List.mem_append_right _ (List.mem_append_right _ (List.mem_append_right _ (List.mem_of_getElem? (i := 0) rfl)))))), rfl⟩)) rfl
abbrev gm_b_MD_isOut : ByteArray := prog_12_method_41_code
def gm_y_MD_isOut : MethodName := ⟨gm_R_MD, "isOut", "(II)Z"⟩
theorem gm_k_MD_isOut : Cond.code gm_y_MD_isOut gm_b_MD_isOut 3 (some .boolean) ∈ gm_W := gm_in (List.mem_append_right _ (List.mem_append_right _ (List.mem_append_right _ (List.mem_append_right _ (List.mem_append_right _ (List.mem_append_left _ (List.mem_of_getElem? (i := 210) rfl))))))) rfl
theorem gm_q_MD_isOut : Cond.instanceMethod gm_y_MD_isOut ∈ gm_W := gm_in (List.mem_append_right _ (List.mem_append_right _ (List.mem_append_right _ (List.mem_append_right _ (List.mem_append_right _ (List.mem_append_left _ (List.mem_of_getElem? (i := 209) rfl))))))) rfl
theorem gm_s_MD_isOut : Cond.selects gm_R_MD gm_y_MD_isOut gm_y_MD_isOut ∈ gm_W := gm_in (List.mem_append_left _ (List.mem_map.mpr ⟨(gm_y_MD_isOut, 45), (List.mem_append_right _ (List.mem_append_right _ (List.mem_append_right _ (List.mem_append_right _ (List.mem_append_right _ (List.mem_of_getElem? (i := 1) rfl)))))), rfl⟩)) rfl
abbrev gm_b_MD_workLike : ByteArray := prog_12_method_45_code
def gm_y_MD_workLike : MethodName := ⟨gm_R_MD, "workLike", "(III)Z"⟩
theorem gm_k_MD_workLike : Cond.code gm_y_MD_workLike gm_b_MD_workLike 4 (some .boolean) ∈ gm_W := gm_in (List.mem_append_right _ (List.mem_append_right _ (List.mem_append_right _ (List.mem_append_right _ (List.mem_append_right _ (List.mem_append_left _ (List.mem_of_getElem? (i := 214) rfl))))))) rfl
theorem gm_q_MD_workLike : Cond.instanceMethod gm_y_MD_workLike ∈ gm_W := gm_in (List.mem_append_right _ (List.mem_append_right _ (List.mem_append_right _ (List.mem_append_right _ (List.mem_append_right _ (List.mem_append_left _ (List.mem_of_getElem? (i := 213) rfl))))))) rfl
theorem gm_s_MD_workLike : Cond.selects gm_R_MD gm_y_MD_workLike gm_y_MD_workLike ∈ gm_W := gm_in (List.mem_append_left _ (List.mem_map.mpr ⟨(gm_y_MD_workLike, 45), (List.mem_append_right _ (List.mem_append_right _ (List.mem_append_right _ (List.mem_append_right _ (List.mem_append_right _ (List.mem_of_getElem? (i := 2) rfl)))))), rfl⟩)) rfl
abbrev gm_b_MD_costOf : ByteArray := prog_12_method_40_code
def gm_y_MD_costOf : MethodName := ⟨gm_R_MD, "costOf", "(II)I"⟩
theorem gm_k_MD_costOf : Cond.code gm_y_MD_costOf gm_b_MD_costOf 3 (some .int) ∈ gm_W := gm_in (List.mem_append_right _ (List.mem_append_right _ (List.mem_append_right _ (List.mem_append_right _ (List.mem_append_right _ (List.mem_append_left _ (List.mem_of_getElem? (i := 218) rfl))))))) rfl
theorem gm_q_MD_costOf : Cond.instanceMethod gm_y_MD_costOf ∈ gm_W := gm_in (List.mem_append_right _ (List.mem_append_right _ (List.mem_append_right _ (List.mem_append_right _ (List.mem_append_right _ (List.mem_append_left _ (List.mem_of_getElem? (i := 217) rfl))))))) rfl
theorem gm_s_MD_costOf : Cond.selects gm_R_MD gm_y_MD_costOf gm_y_MD_costOf ∈ gm_W := gm_in (List.mem_append_left _ (List.mem_map.mpr ⟨(gm_y_MD_costOf, 45), (List.mem_append_right _ (List.mem_append_right _ (List.mem_append_right _ (List.mem_append_right _ (List.mem_append_right _ (List.mem_of_getElem? (i := 3) rfl)))))), rfl⟩)) rfl
abbrev gm_b_MD_workPair : ByteArray := prog_12_method_46_code
def gm_y_MD_workPair : MethodName := ⟨gm_R_MD, "workPair", "(II)Z"⟩
theorem gm_k_MD_workPair : Cond.code gm_y_MD_workPair gm_b_MD_workPair 6 (some .boolean) ∈ gm_W := gm_in (List.mem_append_right _ (List.mem_append_right _ (List.mem_append_right _ (List.mem_append_right _ (List.mem_append_right _ (List.mem_append_left _ (List.mem_of_getElem? (i := 222) rfl))))))) rfl
theorem gm_q_MD_workPair : Cond.instanceMethod gm_y_MD_workPair ∈ gm_W := gm_in (List.mem_append_right _ (List.mem_append_right _ (List.mem_append_right _ (List.mem_append_right _ (List.mem_append_right _ (List.mem_append_left _ (List.mem_of_getElem? (i := 221) rfl))))))) rfl
theorem gm_s_MD_workPair : Cond.selects gm_R_MD gm_y_MD_workPair gm_y_MD_workPair ∈ gm_W := gm_in (List.mem_append_left _ (List.mem_map.mpr ⟨(gm_y_MD_workPair, 45), (List.mem_append_right _ (List.mem_append_right _ (List.mem_append_right _ (List.mem_append_right _ (List.mem_append_right _ (List.mem_of_getElem? (i := 4) rfl)))))), rfl⟩)) rfl
abbrev gm_b_MD_workChoice : ByteArray := prog_12_method_47_code
def gm_y_MD_workChoice : MethodName := ⟨gm_R_MD, "workChoice", "(II)Z"⟩
theorem gm_k_MD_workChoice : Cond.code gm_y_MD_workChoice gm_b_MD_workChoice 5 (some .boolean) ∈ gm_W := gm_in (List.mem_append_right _ (List.mem_append_right _ (List.mem_append_right _ (List.mem_append_right _ (List.mem_append_right _ (List.mem_append_left _ (List.mem_of_getElem? (i := 226) rfl))))))) rfl
theorem gm_q_MD_workChoice : Cond.instanceMethod gm_y_MD_workChoice ∈ gm_W := gm_in (List.mem_append_right _ (List.mem_append_right _ (List.mem_append_right _ (List.mem_append_right _ (List.mem_append_right _ (List.mem_append_left _ (List.mem_of_getElem? (i := 225) rfl))))))) rfl
theorem gm_s_MD_workChoice : Cond.selects gm_R_MD gm_y_MD_workChoice gm_y_MD_workChoice ∈ gm_W := gm_in (List.mem_append_left _ (List.mem_map.mpr ⟨(gm_y_MD_workChoice, 45), (List.mem_append_right _ (List.mem_append_right _ (List.mem_append_right _ (List.mem_append_right _ (List.mem_append_right _ (List.mem_of_getElem? (i := 5) rfl)))))), rfl⟩)) rfl
abbrev gm_b_MD_workLoop : ByteArray := prog_12_method_48_code
def gm_y_MD_workLoop : MethodName := ⟨gm_R_MD, "workLoop", "(II)Z"⟩
theorem gm_k_MD_workLoop : Cond.code gm_y_MD_workLoop gm_b_MD_workLoop 7 (some .boolean) ∈ gm_W := gm_in (List.mem_append_right _ (List.mem_append_right _ (List.mem_append_right _ (List.mem_append_right _ (List.mem_append_right _ (List.mem_append_left _ (List.mem_of_getElem? (i := 230) rfl))))))) rfl
theorem gm_q_MD_workLoop : Cond.instanceMethod gm_y_MD_workLoop ∈ gm_W := gm_in (List.mem_append_right _ (List.mem_append_right _ (List.mem_append_right _ (List.mem_append_right _ (List.mem_append_right _ (List.mem_append_left _ (List.mem_of_getElem? (i := 229) rfl))))))) rfl
theorem gm_s_MD_workLoop : Cond.selects gm_R_MD gm_y_MD_workLoop gm_y_MD_workLoop ∈ gm_W := gm_in (List.mem_append_left _ (List.mem_map.mpr ⟨(gm_y_MD_workLoop, 45), (List.mem_append_right _ (List.mem_append_right _ (List.mem_append_right _ (List.mem_append_right _ (List.mem_append_right _ (List.mem_of_getElem? (i := 6) rfl)))))), rfl⟩)) rfl
abbrev gm_b_MD_evaluations : ByteArray := prog_12_method_51_code
def gm_y_MD_evaluations : MethodName := ⟨gm_R_MD, "evaluations", "(I)I"⟩
theorem gm_k_MD_evaluations : Cond.code gm_y_MD_evaluations gm_b_MD_evaluations 6 (some .int) ∈ gm_W := gm_in (List.mem_append_right _ (List.mem_append_right _ (List.mem_append_right _ (List.mem_append_right _ (List.mem_append_right _ (List.mem_append_left _ (List.mem_of_getElem? (i := 234) rfl))))))) rfl
theorem gm_q_MD_evaluations : Cond.instanceMethod gm_y_MD_evaluations ∈ gm_W := gm_in (List.mem_append_right _ (List.mem_append_right _ (List.mem_append_right _ (List.mem_append_right _ (List.mem_append_right _ (List.mem_append_left _ (List.mem_of_getElem? (i := 233) rfl))))))) rfl
theorem gm_s_MD_evaluations : Cond.selects gm_R_MD gm_y_MD_evaluations gm_y_MD_evaluations ∈ gm_W := gm_in (List.mem_append_left _ (List.mem_map.mpr ⟨(gm_y_MD_evaluations, 45), (List.mem_append_right _ (List.mem_append_right _ (List.mem_append_right _ (List.mem_append_right _ (List.mem_append_right _ (List.mem_of_getElem? (i := 7) rfl)))))), rfl⟩)) rfl
abbrev gm_b_MD_come : ByteArray := prog_12_method_50_code
def gm_y_MD_come : MethodName := ⟨gm_R_MD, "come", "(II)V"⟩
theorem gm_k_MD_come : Cond.code gm_y_MD_come gm_b_MD_come 4 none ∈ gm_W := gm_in (List.mem_append_right _ (List.mem_append_right _ (List.mem_append_right _ (List.mem_append_right _ (List.mem_append_right _ (List.mem_append_left _ (List.mem_of_getElem? (i := 238) rfl))))))) rfl
theorem gm_q_MD_come : Cond.instanceMethod gm_y_MD_come ∈ gm_W := gm_in (List.mem_append_right _ (List.mem_append_right _ (List.mem_append_right _ (List.mem_append_right _ (List.mem_append_right _ (List.mem_append_left _ (List.mem_of_getElem? (i := 237) rfl))))))) rfl
theorem gm_s_MD_come : Cond.selects gm_R_MD gm_y_MD_come gm_y_MD_come ∈ gm_W := gm_in (List.mem_append_left _ (List.mem_map.mpr ⟨(gm_y_MD_come, 45), (List.mem_append_right _ (List.mem_append_right _ (List.mem_append_right _ (List.mem_append_right _ (List.mem_append_right _ (List.mem_of_getElem? (i := 8) rfl)))))), rfl⟩)) rfl
abbrev gm_b_MD_ruled : ByteArray := prog_12_method_52_code
def gm_y_MD_ruled : MethodName := ⟨gm_R_MD, "ruled", "(I)I"⟩
theorem gm_k_MD_ruled : Cond.code gm_y_MD_ruled gm_b_MD_ruled 5 (some .int) ∈ gm_W := gm_in (List.mem_append_right _ (List.mem_append_right _ (List.mem_append_right _ (List.mem_append_right _ (List.mem_append_right _ (List.mem_append_right _ (List.mem_of_getElem? (i := 2) rfl))))))) rfl
theorem gm_q_MD_ruled : Cond.instanceMethod gm_y_MD_ruled ∈ gm_W := gm_in (List.mem_append_right _ (List.mem_append_right _ (List.mem_append_right _ (List.mem_append_right _ (List.mem_append_right _ (List.mem_append_right _ (List.mem_of_getElem? (i := 1) rfl))))))) rfl
theorem gm_s_MD_ruled : Cond.selects gm_R_MD gm_y_MD_ruled gm_y_MD_ruled ∈ gm_W := gm_in (List.mem_append_left _ (List.mem_map.mpr ⟨(gm_y_MD_ruled, 45), (List.mem_append_right _ (List.mem_append_right _ (List.mem_append_right _ (List.mem_append_right _ (List.mem_append_right _ (List.mem_of_getElem? (i := 9) rfl)))))), rfl⟩)) rfl
abbrev gm_b_MD_isRuled : ByteArray := prog_12_method_53_code
def gm_y_MD_isRuled : MethodName := ⟨gm_R_MD, "isRuled", "(II)Z"⟩
theorem gm_k_MD_isRuled : Cond.code gm_y_MD_isRuled gm_b_MD_isRuled 5 (some .boolean) ∈ gm_W := gm_in (List.mem_append_right _ (List.mem_append_right _ (List.mem_append_right _ (List.mem_append_right _ (List.mem_append_right _ (List.mem_append_right _ (List.mem_of_getElem? (i := 6) rfl))))))) rfl
theorem gm_q_MD_isRuled : Cond.instanceMethod gm_y_MD_isRuled ∈ gm_W := gm_in (List.mem_append_right _ (List.mem_append_right _ (List.mem_append_right _ (List.mem_append_right _ (List.mem_append_right _ (List.mem_append_right _ (List.mem_of_getElem? (i := 5) rfl))))))) rfl
theorem gm_s_MD_isRuled : Cond.selects gm_R_MD gm_y_MD_isRuled gm_y_MD_isRuled ∈ gm_W := gm_in (List.mem_append_left _ (List.mem_map.mpr ⟨(gm_y_MD_isRuled, 45), (List.mem_append_right _ (List.mem_append_right _ (List.mem_append_right _ (List.mem_append_right _ (List.mem_append_right _ (List.mem_of_getElem? (i := 10) rfl)))))), rfl⟩)) rfl
abbrev gm_b_MD_gather : ByteArray := prog_12_method_54_code
def gm_y_MD_gather : MethodName := ⟨gm_R_MD, "gather", "(I)V"⟩
theorem gm_k_MD_gather : Cond.code gm_y_MD_gather gm_b_MD_gather 6 none ∈ gm_W := gm_in (List.mem_append_right _ (List.mem_append_right _ (List.mem_append_right _ (List.mem_append_right _ (List.mem_append_right _ (List.mem_append_right _ (List.mem_of_getElem? (i := 10) rfl))))))) rfl
theorem gm_q_MD_gather : Cond.instanceMethod gm_y_MD_gather ∈ gm_W := gm_in (List.mem_append_right _ (List.mem_append_right _ (List.mem_append_right _ (List.mem_append_right _ (List.mem_append_right _ (List.mem_append_right _ (List.mem_of_getElem? (i := 9) rfl))))))) rfl
theorem gm_s_MD_gather : Cond.selects gm_R_MD gm_y_MD_gather gm_y_MD_gather ∈ gm_W := gm_in (List.mem_append_left _ (List.mem_map.mpr ⟨(gm_y_MD_gather, 45), (List.mem_append_right _ (List.mem_append_right _ (List.mem_append_right _ (List.mem_append_right _ (List.mem_append_right _ (List.mem_of_getElem? (i := 11) rfl)))))), rfl⟩)) rfl
abbrev gm_b_MD_hold : ByteArray := prog_12_method_55_code
def gm_y_MD_hold : MethodName := ⟨gm_R_MD, "hold", "(III)V"⟩
theorem gm_k_MD_hold : Cond.code gm_y_MD_hold gm_b_MD_hold 4 none ∈ gm_W := gm_in (List.mem_append_right _ (List.mem_append_right _ (List.mem_append_right _ (List.mem_append_right _ (List.mem_append_right _ (List.mem_append_right _ (List.mem_of_getElem? (i := 14) rfl))))))) rfl
theorem gm_q_MD_hold : Cond.instanceMethod gm_y_MD_hold ∈ gm_W := gm_in (List.mem_append_right _ (List.mem_append_right _ (List.mem_append_right _ (List.mem_append_right _ (List.mem_append_right _ (List.mem_append_right _ (List.mem_of_getElem? (i := 13) rfl))))))) rfl
theorem gm_s_MD_hold : Cond.selects gm_R_MD gm_y_MD_hold gm_y_MD_hold ∈ gm_W := gm_in (List.mem_append_left _ (List.mem_map.mpr ⟨(gm_y_MD_hold, 45), (List.mem_append_right _ (List.mem_append_right _ (List.mem_append_right _ (List.mem_append_right _ (List.mem_append_right _ (List.mem_of_getElem? (i := 12) rfl)))))), rfl⟩)) rfl
abbrev gm_b_MD_work : ByteArray := prog_12_method_57_code
def gm_y_MD_work : MethodName := ⟨gm_R_MD, "work", "()I"⟩
theorem gm_k_MD_work : Cond.code gm_y_MD_work gm_b_MD_work 1 (some .int) ∈ gm_W := gm_in (List.mem_append_right _ (List.mem_append_right _ (List.mem_append_right _ (List.mem_append_right _ (List.mem_append_right _ (List.mem_append_right _ (List.mem_of_getElem? (i := 18) rfl))))))) rfl
theorem gm_q_MD_work : Cond.instanceMethod gm_y_MD_work ∈ gm_W := gm_in (List.mem_append_right _ (List.mem_append_right _ (List.mem_append_right _ (List.mem_append_right _ (List.mem_append_right _ (List.mem_append_right _ (List.mem_of_getElem? (i := 16) rfl))))))) rfl
theorem gm_s_MD_work : Cond.selects gm_R_MD gm_y_MD_work gm_y_MD_work ∈ gm_W := gm_in (List.mem_append_right _ (List.mem_append_right _ (List.mem_append_right _ (List.mem_append_right _ (List.mem_append_right _ (List.mem_append_right _ (List.mem_of_getElem? (i := 17) rfl))))))) rfl
abbrev gm_b_MD_nodes : ByteArray := prog_12_method_58_code
def gm_y_MD_nodes : MethodName := ⟨gm_R_MD, "nodes", "()I"⟩
theorem gm_k_MD_nodes : Cond.code gm_y_MD_nodes gm_b_MD_nodes 1 (some .int) ∈ gm_W := gm_in (List.mem_append_right _ (List.mem_append_right _ (List.mem_append_right _ (List.mem_append_right _ (List.mem_append_right _ (List.mem_append_right _ (List.mem_of_getElem? (i := 22) rfl))))))) rfl
theorem gm_q_MD_nodes : Cond.instanceMethod gm_y_MD_nodes ∈ gm_W := gm_in (List.mem_append_right _ (List.mem_append_right _ (List.mem_append_right _ (List.mem_append_right _ (List.mem_append_right _ (List.mem_append_right _ (List.mem_of_getElem? (i := 20) rfl))))))) rfl
theorem gm_s_MD_nodes : Cond.selects gm_R_MD gm_y_MD_nodes gm_y_MD_nodes ∈ gm_W := gm_in (List.mem_append_right _ (List.mem_append_right _ (List.mem_append_right _ (List.mem_append_right _ (List.mem_append_right _ (List.mem_append_right _ (List.mem_of_getElem? (i := 21) rfl))))))) rfl
abbrev gm_b_MD_node : ByteArray := prog_12_method_59_code
def gm_y_MD_node : MethodName := ⟨gm_R_MD, "node", "(II)I"⟩
theorem gm_k_MD_node : Cond.code gm_y_MD_node gm_b_MD_node 3 (some .int) ∈ gm_W := gm_in (List.mem_append_right _ (List.mem_append_right _ (List.mem_append_right _ (List.mem_append_right _ (List.mem_append_right _ (List.mem_append_right _ (List.mem_of_getElem? (i := 26) rfl))))))) rfl
theorem gm_q_MD_node : Cond.instanceMethod gm_y_MD_node ∈ gm_W := gm_in (List.mem_append_right _ (List.mem_append_right _ (List.mem_append_right _ (List.mem_append_right _ (List.mem_append_right _ (List.mem_append_right _ (List.mem_of_getElem? (i := 24) rfl))))))) rfl
theorem gm_s_MD_node : Cond.selects gm_R_MD gm_y_MD_node gm_y_MD_node ∈ gm_W := gm_in (List.mem_append_right _ (List.mem_append_right _ (List.mem_append_right _ (List.mem_append_right _ (List.mem_append_right _ (List.mem_append_right _ (List.mem_of_getElem? (i := 25) rfl))))))) rfl
theorem gm_l_GM_3 : Cond.methodLink gm_R_GM 3 objectInit ∈ gm_W := gm_in (List.mem_append_right _ (List.mem_append_left _ (List.mem_of_getElem? (i := 25) rfl))) rfl
theorem gm_l_GM_9 : Cond.classLink gm_R_GM 9 gm_R_Row ∈ gm_W := gm_in (List.mem_append_right _ (List.mem_append_left _ (List.mem_of_getElem? (i := 28) rfl))) rfl
theorem gm_l_GM_11 : Cond.methodLink gm_R_GM 11 gm_y_Row_init ∈ gm_W := gm_in (List.mem_append_right _ (List.mem_append_left _ (List.mem_of_getElem? (i := 30) rfl))) rfl
theorem gm_l_GM_14 : Cond.fieldLink gm_R_GM 14 "GrammarMachine" "text" "LGrammarMachine$Row;" ∈ gm_W := gm_in (List.mem_append_right _ (List.mem_append_right _ (List.mem_append_left _ (List.mem_of_getElem? (i := 61) rfl)))) rfl
theorem gm_l_GM_18 : Cond.fieldLink gm_R_GM 18 "GrammarMachine" "subject" "LGrammarMachine$Row;" ∈ gm_W := gm_in (List.mem_append_right _ (List.mem_append_right _ (List.mem_append_left _ (List.mem_of_getElem? (i := 62) rfl)))) rfl
theorem gm_l_GM_21 : Cond.classLink gm_R_GM 21 gm_R_Grammar ∈ gm_W := gm_in (List.mem_append_right _ (List.mem_append_left _ (List.mem_of_getElem? (i := 44) rfl))) rfl
theorem gm_l_GM_23 : Cond.methodLink gm_R_GM 23 gm_y_Grammar_init ∈ gm_W := gm_in (List.mem_append_right _ (List.mem_append_left _ (List.mem_of_getElem? (i := 46) rfl))) rfl
theorem gm_l_GM_26 : Cond.fieldLink gm_R_GM 26 "GrammarMachine" "grammar" "LGrammarMachine$Grammar;" ∈ gm_W := gm_in (List.mem_append_right _ (List.mem_append_right _ (List.mem_append_left _ (List.mem_of_getElem? (i := 63) rfl)))) rfl
theorem gm_l_GM_30 : Cond.fieldLink gm_R_GM 30 "GrammarMachine" "spare" "LGrammarMachine$Grammar;" ∈ gm_W := gm_in (List.mem_append_right _ (List.mem_append_right _ (List.mem_append_left _ (List.mem_of_getElem? (i := 64) rfl)))) rfl
theorem gm_l_GM_33 : Cond.classLink gm_R_GM 33 gm_R_Runner ∈ gm_W := gm_in (List.mem_append_right _ (List.mem_append_left _ (List.mem_of_getElem? (i := 205) rfl))) rfl
theorem gm_l_GM_35 : Cond.methodLink gm_R_GM 35 gm_y_Runner_init ∈ gm_W := gm_in (List.mem_append_right _ (List.mem_append_left _ (List.mem_of_getElem? (i := 207) rfl))) rfl
theorem gm_l_GM_38 : Cond.fieldLink gm_R_GM 38 "GrammarMachine" "runner" "LGrammarMachine$Runner;" ∈ gm_W := gm_in (List.mem_append_right _ (List.mem_append_right _ (List.mem_append_left _ (List.mem_of_getElem? (i := 65) rfl)))) rfl
theorem gm_l_GM_42 : Cond.fieldLink gm_R_GM 42 "GrammarMachine" "compiled" "Z" ∈ gm_W := gm_in (List.mem_append_right _ (List.mem_append_right _ (List.mem_append_left _ (List.mem_of_getElem? (i := 66) rfl)))) rfl
theorem gm_l_GM_46 : Cond.fieldLink gm_R_GM 46 "GrammarMachine" "matched" "Z" ∈ gm_W := gm_in (List.mem_append_right _ (List.mem_append_right _ (List.mem_append_left _ (List.mem_of_getElem? (i := 67) rfl)))) rfl
theorem gm_l_GM_49 : Cond.fieldLink gm_R_GM 49 "GrammarMachine" "reason" "I" ∈ gm_W := gm_in (List.mem_append_right _ (List.mem_append_right _ (List.mem_append_left _ (List.mem_of_getElem? (i := 68) rfl)))) rfl
theorem gm_l_Row_3 : Cond.methodLink gm_R_Row 3 objectInit ∈ gm_W := gm_in (List.mem_append_right _ (List.mem_append_left _ (List.mem_of_getElem? (i := 33) rfl))) rfl
theorem gm_l_Row_9 : Cond.fieldLink gm_R_Row 9 "GrammarMachine$Row" "size" "I" ∈ gm_W := gm_in (List.mem_append_right _ (List.mem_append_left _ (List.mem_of_getElem? (i := 35) rfl))) rfl
theorem gm_l_Row_15 : Cond.fieldLink gm_R_Row 15 "GrammarMachine$Row" "characters" "[C" ∈ gm_W := gm_in (List.mem_append_right _ (List.mem_append_left _ (List.mem_of_getElem? (i := 34) rfl))) rfl
theorem gm_l_Grammar_1 : Cond.methodLink gm_R_Grammar 1 objectInit ∈ gm_W := gm_in (List.mem_append_right _ (List.mem_append_left _ (List.mem_of_getElem? (i := 49) rfl))) rfl
theorem gm_l_Grammar_7 : Cond.classLink gm_R_Grammar 7 gm_R_Tree ∈ gm_W := gm_in (List.mem_append_right _ (List.mem_append_left _ (List.mem_of_getElem? (i := 50) rfl))) rfl
theorem gm_l_Grammar_9 : Cond.methodLinkNest gm_R_Grammar 9 gm_y_Tree_init "GrammarMachine" ∈ lw_tbl := (List.mem_append_right _ (List.mem_append_left _ (List.mem_of_getElem? (i := 52) rfl)))
theorem gm_l_Grammar_10 : Cond.fieldLink gm_R_Grammar 10 "GrammarMachine$Grammar" "tree" "LGrammarMachine$Tree;" ∈ gm_W := gm_in (List.mem_append_right _ (List.mem_append_left _ (List.mem_of_getElem? (i := 186) rfl))) rfl
theorem gm_l_Grammar_16 : Cond.classLink gm_R_Grammar 16 gm_R_Judge ∈ gm_W := gm_in (List.mem_append_right _ (List.mem_append_left _ (List.mem_of_getElem? (i := 126) rfl))) rfl
theorem gm_l_Grammar_18 : Cond.methodLink gm_R_Grammar 18 gm_y_Judge_init ∈ gm_W := gm_in (List.mem_append_right _ (List.mem_append_left _ (List.mem_of_getElem? (i := 128) rfl))) rfl
theorem gm_l_Grammar_21 : Cond.fieldLink gm_R_Grammar 21 "GrammarMachine$Grammar" "judge" "LGrammarMachine$Judge;" ∈ gm_W := gm_in (List.mem_append_right _ (List.mem_append_left _ (List.mem_of_getElem? (i := 189) rfl))) rfl
theorem gm_l_Grammar_25 : Cond.classLink gm_R_Grammar 25 gm_R_Code ∈ gm_W := gm_in (List.mem_append_right _ (List.mem_append_left _ (List.mem_of_getElem? (i := 136) rfl))) rfl
theorem gm_l_Grammar_27 : Cond.methodLink gm_R_Grammar 27 gm_y_Code_init ∈ gm_W := gm_in (List.mem_append_right _ (List.mem_append_left _ (List.mem_of_getElem? (i := 138) rfl))) rfl
theorem gm_l_Grammar_28 : Cond.fieldLink gm_R_Grammar 28 "GrammarMachine$Grammar" "code" "LGrammarMachine$Code;" ∈ gm_W := gm_in (List.mem_append_right _ (List.mem_append_left _ (List.mem_of_getElem? (i := 191) rfl))) rfl
theorem gm_l_Grammar_32 : Cond.classLink gm_R_Grammar 32 gm_R_Reader ∈ gm_W := gm_in (List.mem_append_right _ (List.mem_append_left _ (List.mem_of_getElem? (i := 161) rfl))) rfl
theorem gm_l_Grammar_34 : Cond.methodLink gm_R_Grammar 34 gm_y_Reader_init ∈ gm_W := gm_in (List.mem_append_right _ (List.mem_append_left _ (List.mem_of_getElem? (i := 163) rfl))) rfl
theorem gm_l_Grammar_37 : Cond.fieldLink gm_R_Grammar 37 "GrammarMachine$Grammar" "reader" "LGrammarMachine$Reader;" ∈ gm_W := gm_in (List.mem_append_right _ (List.mem_append_left _ (List.mem_of_getElem? (i := 194) rfl))) rfl
theorem gm_l_Tree_3 : Cond.methodLink gm_R_Tree 3 objectInit ∈ gm_W := gm_in (List.mem_append_right _ (List.mem_append_left _ (List.mem_of_getElem? (i := 55) rfl))) rfl
theorem gm_l_Tree_9 : Cond.fieldLink gm_R_Tree 9 "GrammarMachine$Tree" "kinds" "[I" ∈ gm_W := gm_in (List.mem_append_right _ (List.mem_append_left _ (List.mem_of_getElem? (i := 56) rfl))) rfl
theorem gm_l_Tree_15 : Cond.fieldLink gm_R_Tree 15 "GrammarMachine$Tree" "letters" "[I" ∈ gm_W := gm_in (List.mem_append_right _ (List.mem_append_left _ (List.mem_of_getElem? (i := 59) rfl))) rfl
theorem gm_l_Tree_18 : Cond.fieldLink gm_R_Tree 18 "GrammarMachine$Tree" "partsFrom" "[I" ∈ gm_W := gm_in (List.mem_append_right _ (List.mem_append_left _ (List.mem_of_getElem? (i := 62) rfl))) rfl
theorem gm_l_Tree_21 : Cond.fieldLink gm_R_Tree 21 "GrammarMachine$Tree" "partsTo" "[I" ∈ gm_W := gm_in (List.mem_append_right _ (List.mem_append_left _ (List.mem_of_getElem? (i := 65) rfl))) rfl
theorem gm_l_Tree_24 : Cond.fieldLink gm_R_Tree 24 "GrammarMachine$Tree" "parts" "[I" ∈ gm_W := gm_in (List.mem_append_right _ (List.mem_append_left _ (List.mem_of_getElem? (i := 68) rfl))) rfl
theorem gm_l_Tree_27 : Cond.fieldLink gm_R_Tree 27 "GrammarMachine$Tree" "canBeEmpty" "[Z" ∈ gm_W := gm_in (List.mem_append_right _ (List.mem_append_left _ (List.mem_of_getElem? (i := 71) rfl))) rfl
theorem gm_l_Tree_31 : Cond.fieldLink gm_R_Tree 31 "GrammarMachine$Tree" "beginnings" "[I" ∈ gm_W := gm_in (List.mem_append_right _ (List.mem_append_left _ (List.mem_of_getElem? (i := 75) rfl))) rfl
theorem gm_l_Tree_34 : Cond.fieldLink gm_R_Tree 34 "GrammarMachine$Tree" "lowHeads" "[J" ∈ gm_W := gm_in (List.mem_append_right _ (List.mem_append_left _ (List.mem_of_getElem? (i := 77) rfl))) rfl
theorem gm_l_Tree_38 : Cond.fieldLink gm_R_Tree 38 "GrammarMachine$Tree" "highHeads" "[J" ∈ gm_W := gm_in (List.mem_append_right _ (List.mem_append_left _ (List.mem_of_getElem? (i := 79) rfl))) rfl
theorem gm_l_Tree_41 : Cond.fieldLink gm_R_Tree 41 "GrammarMachine$Tree" "ruleNames" "[I" ∈ gm_W := gm_in (List.mem_append_right _ (List.mem_append_left _ (List.mem_of_getElem? (i := 81) rfl))) rfl
theorem gm_l_Tree_44 : Cond.fieldLink gm_R_Tree 44 "GrammarMachine$Tree" "roots" "[I" ∈ gm_W := gm_in (List.mem_append_right _ (List.mem_append_left _ (List.mem_of_getElem? (i := 83) rfl))) rfl
theorem gm_l_Tree_47 : Cond.fieldLink gm_R_Tree 47 "GrammarMachine$Tree" "size" "I" ∈ gm_W := gm_in (List.mem_append_right _ (List.mem_append_left _ (List.mem_of_getElem? (i := 86) rfl))) rfl
theorem gm_l_Tree_51 : Cond.fieldLink gm_R_Tree 51 "GrammarMachine$Tree" "partsSize" "I" ∈ gm_W := gm_in (List.mem_append_right _ (List.mem_append_left _ (List.mem_of_getElem? (i := 89) rfl))) rfl
theorem gm_l_Tree_54 : Cond.fieldLink gm_R_Tree 54 "GrammarMachine$Tree" "rules" "I" ∈ gm_W := gm_in (List.mem_append_right _ (List.mem_append_left _ (List.mem_of_getElem? (i := 90) rfl))) rfl
theorem gm_l_Judge_3 : Cond.methodLink gm_R_Judge 3 objectInit ∈ gm_W := gm_in (List.mem_append_right _ (List.mem_append_left _ (List.mem_of_getElem? (i := 131) rfl))) rfl
theorem gm_l_Judge_9 : Cond.fieldLink gm_R_Judge 9 "GrammarMachine$Judge" "tree" "LGrammarMachine$Tree;" ∈ gm_W := gm_in (List.mem_append_right _ (List.mem_append_left _ (List.mem_of_getElem? (i := 132) rfl))) rfl
theorem gm_l_Code_3 : Cond.methodLink gm_R_Code 3 objectInit ∈ gm_W := gm_in (List.mem_append_right _ (List.mem_append_left _ (List.mem_of_getElem? (i := 141) rfl))) rfl
theorem gm_l_Code_9 : Cond.fieldLink gm_R_Code 9 "GrammarMachine$Code" "operations" "[I" ∈ gm_W := gm_in (List.mem_append_right _ (List.mem_append_left _ (List.mem_of_getElem? (i := 143) rfl))) rfl
theorem gm_l_Code_15 : Cond.fieldLink gm_R_Code 15 "GrammarMachine$Code" "operands" "[I" ∈ gm_W := gm_in (List.mem_append_right _ (List.mem_append_left _ (List.mem_of_getElem? (i := 144) rfl))) rfl
theorem gm_l_Code_18 : Cond.fieldLink gm_R_Code 18 "GrammarMachine$Code" "targets" "[I" ∈ gm_W := gm_in (List.mem_append_right _ (List.mem_append_left _ (List.mem_of_getElem? (i := 145) rfl))) rfl
theorem gm_l_Code_21 : Cond.fieldLink gm_R_Code 21 "GrammarMachine$Code" "starts" "[I" ∈ gm_W := gm_in (List.mem_append_right _ (List.mem_append_left _ (List.mem_of_getElem? (i := 146) rfl))) rfl
theorem gm_l_Code_24 : Cond.fieldLink gm_R_Code 24 "GrammarMachine$Code" "size" "I" ∈ gm_W := gm_in (List.mem_append_right _ (List.mem_append_left _ (List.mem_of_getElem? (i := 147) rfl))) rfl
theorem gm_l_Code_28 : Cond.fieldLink gm_R_Code 28 "GrammarMachine$Code" "tree" "LGrammarMachine$Tree;" ∈ gm_W := gm_in (List.mem_append_right _ (List.mem_append_left _ (List.mem_of_getElem? (i := 142) rfl))) rfl
theorem gm_l_Reader_3 : Cond.methodLink gm_R_Reader 3 objectInit ∈ gm_W := gm_in (List.mem_append_right _ (List.mem_append_left _ (List.mem_of_getElem? (i := 166) rfl))) rfl
theorem gm_l_Reader_9 : Cond.fieldLink gm_R_Reader 9 "GrammarMachine$Reader" "open" "[I" ∈ gm_W := gm_in (List.mem_append_right _ (List.mem_append_left _ (List.mem_of_getElem? (i := 169) rfl))) rfl
theorem gm_l_Reader_15 : Cond.fieldLink gm_R_Reader 15 "GrammarMachine$Reader" "opened" "I" ∈ gm_W := gm_in (List.mem_append_right _ (List.mem_append_left _ (List.mem_of_getElem? (i := 170) rfl))) rfl
theorem gm_l_Reader_19 : Cond.fieldLink gm_R_Reader 19 "GrammarMachine$Reader" "place" "I" ∈ gm_W := gm_in (List.mem_append_right _ (List.mem_append_left _ (List.mem_of_getElem? (i := 171) rfl))) rfl
theorem gm_l_Reader_22 : Cond.fieldLink gm_R_Reader 22 "GrammarMachine$Reader" "wrong" "Z" ∈ gm_W := gm_in (List.mem_append_right _ (List.mem_append_left _ (List.mem_of_getElem? (i := 172) rfl))) rfl
theorem gm_l_Reader_26 : Cond.fieldLink gm_R_Reader 26 "GrammarMachine$Reader" "text" "LGrammarMachine$Row;" ∈ gm_W := gm_in (List.mem_append_right _ (List.mem_append_left _ (List.mem_of_getElem? (i := 167) rfl))) rfl
theorem gm_l_Reader_30 : Cond.fieldLink gm_R_Reader 30 "GrammarMachine$Reader" "tree" "LGrammarMachine$Tree;" ∈ gm_W := gm_in (List.mem_append_right _ (List.mem_append_left _ (List.mem_of_getElem? (i := 168) rfl))) rfl
theorem gm_l_Runner_3 : Cond.methodLink gm_R_Runner 3 objectInit ∈ gm_W := gm_in (List.mem_append_right _ (List.mem_append_left _ (List.mem_of_getElem? (i := 210) rfl))) rfl
theorem gm_l_Runner_9 : Cond.classLink gm_R_Runner 9 gm_R_Captures ∈ gm_W := gm_in (List.mem_append_right _ (List.mem_append_left _ (List.mem_of_getElem? (i := 211) rfl))) rfl
theorem gm_l_Runner_11 : Cond.methodLink gm_R_Runner 11 gm_y_Captures_init ∈ gm_W := gm_in (List.mem_append_right _ (List.mem_append_left _ (List.mem_of_getElem? (i := 213) rfl))) rfl
theorem gm_l_Runner_14 : Cond.fieldLink gm_R_Runner 14 "GrammarMachine$Runner" "captures" "LGrammarMachine$Captures;" ∈ gm_W := gm_in (List.mem_append_right _ (List.mem_append_right _ (List.mem_append_left _ (List.mem_of_getElem? (i := 14) rfl)))) rfl
theorem gm_l_Runner_20 : Cond.classLink gm_R_Runner 20 gm_R_Memory ∈ gm_W := gm_in (List.mem_append_right _ (List.mem_append_left _ (List.mem_of_getElem? (i := 232) rfl))) rfl
theorem gm_l_Runner_22 : Cond.methodLinkNest gm_R_Runner 22 gm_y_Memory_init "GrammarMachine" ∈ lw_tbl := (List.mem_append_right _ (List.mem_append_left _ (List.mem_of_getElem? (i := 234) rfl)))
theorem gm_l_Runner_23 : Cond.fieldLink gm_R_Runner 23 "GrammarMachine$Runner" "memory" "LGrammarMachine$Memory;" ∈ gm_W := gm_in (List.mem_append_right _ (List.mem_append_right _ (List.mem_append_left _ (List.mem_of_getElem? (i := 16) rfl)))) rfl
theorem gm_l_Runner_27 : Cond.fieldLink gm_R_Runner 27 "GrammarMachine$Runner" "frameTargets" "[I" ∈ gm_W := gm_in (List.mem_append_right _ (List.mem_append_right _ (List.mem_append_left _ (List.mem_of_getElem? (i := 17) rfl)))) rfl
theorem gm_l_Runner_31 : Cond.fieldLink gm_R_Runner 31 "GrammarMachine$Runner" "framePlaces" "[I" ∈ gm_W := gm_in (List.mem_append_right _ (List.mem_append_right _ (List.mem_append_left _ (List.mem_of_getElem? (i := 18) rfl)))) rfl
theorem gm_l_Runner_34 : Cond.fieldLink gm_R_Runner 34 "GrammarMachine$Runner" "frameCaptures" "[I" ∈ gm_W := gm_in (List.mem_append_right _ (List.mem_append_right _ (List.mem_append_left _ (List.mem_of_getElem? (i := 19) rfl)))) rfl
theorem gm_l_Runner_37 : Cond.fieldLink gm_R_Runner 37 "GrammarMachine$Runner" "frameRules" "[I" ∈ gm_W := gm_in (List.mem_append_right _ (List.mem_append_right _ (List.mem_append_left _ (List.mem_of_getElem? (i := 20) rfl)))) rfl
theorem gm_l_Runner_40 : Cond.fieldLink gm_R_Runner 40 "GrammarMachine$Runner" "frames" "I" ∈ gm_W := gm_in (List.mem_append_right _ (List.mem_append_right _ (List.mem_append_left _ (List.mem_of_getElem? (i := 21) rfl)))) rfl
theorem gm_l_Runner_44 : Cond.fieldLink gm_R_Runner 44 "GrammarMachine$Runner" "looking" "Z" ∈ gm_W := gm_in (List.mem_append_right _ (List.mem_append_right _ (List.mem_append_left _ (List.mem_of_getElem? (i := 24) rfl)))) rfl
theorem gm_l_Runner_48 : Cond.fieldLink gm_R_Runner 48 "GrammarMachine$Runner" "state" "I" ∈ gm_W := gm_in (List.mem_append_right _ (List.mem_append_right _ (List.mem_append_left _ (List.mem_of_getElem? (i := 25) rfl)))) rfl
theorem gm_l_Runner_51 : Cond.fieldLink gm_R_Runner 51 "GrammarMachine$Runner" "at" "I" ∈ gm_W := gm_in (List.mem_append_right _ (List.mem_append_right _ (List.mem_append_left _ (List.mem_of_getElem? (i := 26) rfl)))) rfl
theorem gm_l_Runner_54 : Cond.fieldLink gm_R_Runner 54 "GrammarMachine$Runner" "place" "I" ∈ gm_W := gm_in (List.mem_append_right _ (List.mem_append_right _ (List.mem_append_left _ (List.mem_of_getElem? (i := 27) rfl)))) rfl
theorem gm_l_Runner_57 : Cond.fieldLink gm_R_Runner 57 "GrammarMachine$Runner" "effort" "I" ∈ gm_W := gm_in (List.mem_append_right _ (List.mem_append_right _ (List.mem_append_left _ (List.mem_of_getElem? (i := 28) rfl)))) rfl
theorem gm_l_Runner_60 : Cond.fieldLink gm_R_Runner 60 "GrammarMachine$Runner" "subject" "LGrammarMachine$Row;" ∈ gm_W := gm_in (List.mem_append_right _ (List.mem_append_right _ (List.mem_append_left _ (List.mem_of_getElem? (i := 13) rfl)))) rfl
theorem gm_l_Runner_64 : Cond.fieldLink gm_R_Runner 64 "GrammarMachine$Grammar" "tree" "LGrammarMachine$Tree;" ∈ gm_W := gm_in (List.mem_append_right _ (List.mem_append_left _ (List.mem_of_getElem? (i := 187) rfl))) rfl
theorem gm_l_Runner_70 : Cond.fieldLink gm_R_Runner 70 "GrammarMachine$Runner" "tree" "LGrammarMachine$Tree;" ∈ gm_W := gm_in (List.mem_append_right _ (List.mem_append_right _ (List.mem_append_left _ (List.mem_of_getElem? (i := 22) rfl)))) rfl
theorem gm_l_Runner_71 : Cond.fieldLink gm_R_Runner 71 "GrammarMachine$Grammar" "code" "LGrammarMachine$Code;" ∈ gm_W := gm_in (List.mem_append_right _ (List.mem_append_left _ (List.mem_of_getElem? (i := 192) rfl))) rfl
theorem gm_l_Runner_75 : Cond.fieldLink gm_R_Runner 75 "GrammarMachine$Runner" "code" "LGrammarMachine$Code;" ∈ gm_W := gm_in (List.mem_append_right _ (List.mem_append_right _ (List.mem_append_left _ (List.mem_of_getElem? (i := 23) rfl)))) rfl
theorem gm_l_Captures_3 : Cond.methodLink gm_R_Captures 3 objectInit ∈ gm_W := gm_in (List.mem_append_right _ (List.mem_append_left _ (List.mem_of_getElem? (i := 216) rfl))) rfl
theorem gm_l_Captures_9 : Cond.fieldLink gm_R_Captures 9 "GrammarMachine$Captures" "size" "I" ∈ gm_W := gm_in (List.mem_append_right _ (List.mem_append_left _ (List.mem_of_getElem? (i := 221) rfl))) rfl
theorem gm_l_Captures_15 : Cond.fieldLink gm_R_Captures 15 "GrammarMachine$Captures" "begins" "[I" ∈ gm_W := gm_in (List.mem_append_right _ (List.mem_append_left _ (List.mem_of_getElem? (i := 217) rfl))) rfl
theorem gm_l_Captures_19 : Cond.fieldLink gm_R_Captures 19 "GrammarMachine$Captures" "ends" "[I" ∈ gm_W := gm_in (List.mem_append_right _ (List.mem_append_left _ (List.mem_of_getElem? (i := 219) rfl))) rfl
theorem gm_l_Memory_3 : Cond.methodLink gm_R_Memory 3 objectInit ∈ gm_W := gm_in (List.mem_append_right _ (List.mem_append_left _ (List.mem_of_getElem? (i := 237) rfl))) rfl
theorem gm_l_Memory_9 : Cond.fieldLink gm_R_Memory 9 "GrammarMachine$Memory" "results" "[I" ∈ gm_W := gm_in (List.mem_append_right _ (List.mem_append_right _ (List.mem_append_left _ (List.mem_of_getElem? (i := 0) rfl)))) rfl
theorem gm_l_Memory_15 : Cond.fieldLink gm_R_Memory 15 "GrammarMachine$Memory" "keptFrom" "[I" ∈ gm_W := gm_in (List.mem_append_right _ (List.mem_append_right _ (List.mem_append_left _ (List.mem_of_getElem? (i := 1) rfl)))) rfl
theorem gm_l_Memory_18 : Cond.fieldLink gm_R_Memory 18 "GrammarMachine$Memory" "keptTo" "[I" ∈ gm_W := gm_in (List.mem_append_right _ (List.mem_append_right _ (List.mem_append_left _ (List.mem_of_getElem? (i := 2) rfl)))) rfl
theorem gm_l_Memory_21 : Cond.classLink gm_R_Memory 21 gm_R_Captures ∈ gm_W := gm_in (List.mem_append_right _ (List.mem_append_left _ (List.mem_of_getElem? (i := 238) rfl))) rfl
theorem gm_l_Memory_23 : Cond.methodLink gm_R_Memory 23 gm_y_Captures_init ∈ gm_W := gm_in (List.mem_append_right _ (List.mem_append_left _ (List.mem_of_getElem? (i := 239) rfl))) rfl
theorem gm_l_Memory_26 : Cond.fieldLink gm_R_Memory 26 "GrammarMachine$Memory" "kept" "LGrammarMachine$Captures;" ∈ gm_W := gm_in (List.mem_append_right _ (List.mem_append_right _ (List.mem_append_left _ (List.mem_of_getElem? (i := 3) rfl)))) rfl
theorem gm_l_GM_53 : Cond.methodLink gm_R_GM 53 gm_y_Row_append ∈ gm_W := gm_in (List.mem_append_right _ (List.mem_append_right _ (List.mem_append_left _ (List.mem_of_getElem? (i := 90) rfl)))) rfl
theorem gm_l_GM_57 : Cond.fieldLink gm_R_GM 57 "GrammarMachine$Row" "size" "I" ∈ gm_W := gm_in (List.mem_append_right _ (List.mem_append_left _ (List.mem_of_getElem? (i := 37) rfl))) rfl
theorem gm_l_GM_146 : Cond.fieldLink gm_R_GM 146 "GrammarMachine$Runner" "effort" "I" ∈ gm_W := gm_in (List.mem_append_right _ (List.mem_append_right _ (List.mem_append_left _ (List.mem_of_getElem? (i := 29) rfl)))) rfl
theorem gm_l_GM_149 : Cond.fieldLink gm_R_GM 149 "GrammarMachine$Runner" "captures" "LGrammarMachine$Captures;" ∈ gm_W := gm_in (List.mem_append_right _ (List.mem_append_right _ (List.mem_append_left _ (List.mem_of_getElem? (i := 15) rfl)))) rfl
theorem gm_l_GM_153 : Cond.fieldLink gm_R_GM 153 "GrammarMachine$Captures" "size" "I" ∈ gm_W := gm_in (List.mem_append_right _ (List.mem_append_left _ (List.mem_of_getElem? (i := 224) rfl))) rfl
theorem gm_l_LW_7 : Cond.methodLink gm_R_LW 7 gm_y_GM_compile ∈ gm_W := gm_in (List.mem_append_right _ (List.mem_append_right _ (List.mem_append_left _ (List.mem_of_getElem? (i := 124) rfl)))) rfl
theorem gm_l_GM_60 : Cond.fieldLink gm_R_GM 60 "GrammarMachine$Grammar" "reader" "LGrammarMachine$Reader;" ∈ gm_W := gm_in (List.mem_append_right _ (List.mem_append_left _ (List.mem_of_getElem? (i := 195) rfl))) rfl
theorem gm_l_GM_64 : Cond.methodLink gm_R_GM 64 gm_y_Reader_read ∈ gm_W := gm_in (List.mem_append_right _ (List.mem_append_right _ (List.mem_append_left _ (List.mem_of_getElem? (i := 128) rfl)))) rfl
theorem gm_l_GM_70 : Cond.classLink gm_R_GM 70 "java/lang/IllegalArgumentException" ∈ gm_W := gm_in (List.mem_append_right _ (List.mem_append_right _ (List.mem_append_left _ (List.mem_of_getElem? (i := 214) rfl)))) rfl
theorem gm_l_GM_72 : Cond.stringRef gm_R_GM 72 "the text is no grammar" ∈ lw_tbl := (List.mem_append_right _ (List.mem_append_right _ (List.mem_append_right _ (List.mem_append_left _ (List.mem_of_getElem? (i := 16) rfl)))))
theorem gm_l_GM_74 : Cond.methodLink gm_R_GM 74 ⟨"java/lang/IllegalArgumentException", "<init>", "(Ljava/lang/String;)V"⟩ ∈ gm_W := gm_in (List.mem_append_right _ (List.mem_append_right _ (List.mem_append_right _ (List.mem_append_left _ (List.mem_of_getElem? (i := 17) rfl))))) rfl
theorem gm_l_GM_77 : Cond.fieldLink gm_R_GM 77 "GrammarMachine$Grammar" "judge" "LGrammarMachine$Judge;" ∈ gm_W := gm_in (List.mem_append_right _ (List.mem_append_left _ (List.mem_of_getElem? (i := 190) rfl))) rfl
theorem gm_l_GM_81 : Cond.methodLink gm_R_GM 81 gm_y_Judge_firstUndefined ∈ gm_W := gm_in (List.mem_append_right _ (List.mem_append_right _ (List.mem_append_right _ (List.mem_append_left _ (List.mem_of_getElem? (i := 43) rfl))))) rfl
theorem gm_l_GM_86 : Cond.classLink gm_R_GM 86 "java/lang/IllegalStateException" ∈ gm_W := gm_in (List.mem_append_right _ (List.mem_append_right _ (List.mem_append_right _ (List.mem_append_left _ (List.mem_of_getElem? (i := 56) rfl))))) rfl
theorem gm_l_GM_88 : Cond.stringRef gm_R_GM 88 "a rule is undefined" ∈ lw_tbl := (List.mem_append_right _ (List.mem_append_right _ (List.mem_append_right _ (List.mem_append_left _ (List.mem_of_getElem? (i := 65) rfl)))))
theorem gm_l_GM_90 : Cond.methodLink gm_R_GM 90 ⟨"java/lang/IllegalStateException", "<init>", "(Ljava/lang/String;)V"⟩ ∈ gm_W := gm_in (List.mem_append_right _ (List.mem_append_right _ (List.mem_append_right _ (List.mem_append_left _ (List.mem_of_getElem? (i := 66) rfl))))) rfl
theorem gm_l_GM_91 : Cond.methodLink gm_R_GM 91 gm_y_Judge_firstRunaway ∈ gm_W := gm_in (List.mem_append_right _ (List.mem_append_right _ (List.mem_append_right _ (List.mem_append_left _ (List.mem_of_getElem? (i := 72) rfl))))) rfl
theorem gm_l_GM_94 : Cond.classLink gm_R_GM 94 "java/lang/UnsupportedOperationException" ∈ gm_W := gm_in (List.mem_append_right _ (List.mem_append_right _ (List.mem_append_right _ (List.mem_append_left _ (List.mem_of_getElem? (i := 117) rfl))))) rfl
theorem gm_l_GM_96 : Cond.stringRef gm_R_GM 96 "a rule is left recursive or endless" ∈ lw_tbl := (List.mem_append_right _ (List.mem_append_right _ (List.mem_append_right _ (List.mem_append_left _ (List.mem_of_getElem? (i := 126) rfl)))))
theorem gm_l_GM_98 : Cond.methodLink gm_R_GM 98 ⟨"java/lang/UnsupportedOperationException", "<init>", "(Ljava/lang/String;)V"⟩ ∈ gm_W := gm_in (List.mem_append_right _ (List.mem_append_right _ (List.mem_append_right _ (List.mem_append_left _ (List.mem_of_getElem? (i := 127) rfl))))) rfl
theorem gm_l_GM_99 : Cond.methodLink gm_R_GM 99 gm_y_Judge_settleHeads ∈ gm_W := gm_in (List.mem_append_right _ (List.mem_append_right _ (List.mem_append_right _ (List.mem_append_left _ (List.mem_of_getElem? (i := 133) rfl))))) rfl
theorem gm_l_GM_102 : Cond.fieldLink gm_R_GM 102 "GrammarMachine$Grammar" "code" "LGrammarMachine$Code;" ∈ gm_W := gm_in (List.mem_append_right _ (List.mem_append_left _ (List.mem_of_getElem? (i := 193) rfl))) rfl
theorem gm_l_GM_106 : Cond.methodLink gm_R_GM 106 gm_y_Code_write ∈ gm_W := gm_in (List.mem_append_right _ (List.mem_append_right _ (List.mem_append_right _ (List.mem_append_left _ (List.mem_of_getElem? (i := 145) rfl))))) rfl
theorem gm_l_GM_111 : Cond.methodLink gm_R_GM 111 gm_y_GM_exchangeGrammars ∈ gm_W := gm_in (List.mem_append_right _ (List.mem_append_right _ (List.mem_append_right _ (List.mem_append_left _ (List.mem_of_getElem? (i := 195) rfl))))) rfl
theorem gm_l_GM_114 : Cond.fieldLink gm_R_GM 114 "GrammarMachine$Grammar" "tree" "LGrammarMachine$Tree;" ∈ gm_W := gm_in (List.mem_append_right _ (List.mem_append_left _ (List.mem_of_getElem? (i := 188) rfl))) rfl
theorem gm_l_GM_118 : Cond.fieldLink gm_R_GM 118 "GrammarMachine$Tree" "rules" "I" ∈ gm_W := gm_in (List.mem_append_right _ (List.mem_append_left _ (List.mem_of_getElem? (i := 92) rfl))) rfl
theorem gm_l_Reader_34 : Cond.methodLink gm_R_Reader 34 gm_y_Tree_reset ∈ gm_W := gm_in (List.mem_append_right _ (List.mem_append_right _ (List.mem_append_left _ (List.mem_of_getElem? (i := 132) rfl)))) rfl
theorem gm_l_Reader_39 : Cond.methodLink gm_R_Reader 39 gm_y_Reader_readRule ∈ gm_W := gm_in (List.mem_append_right _ (List.mem_append_right _ (List.mem_append_left _ (List.mem_of_getElem? (i := 136) rfl)))) rfl
theorem gm_l_Reader_42 : Cond.fieldLink gm_R_Reader 42 "GrammarMachine$Row" "size" "I" ∈ gm_W := gm_in (List.mem_append_right _ (List.mem_append_left _ (List.mem_of_getElem? (i := 36) rfl))) rfl
theorem gm_l_Reader_47 : Cond.methodLink gm_R_Reader 47 gm_y_Row_at ∈ gm_W := gm_in (List.mem_append_right _ (List.mem_append_right _ (List.mem_append_left _ (List.mem_of_getElem? (i := 140) rfl)))) rfl
theorem gm_l_Reader_51 : Cond.methodLink gm_R_Reader 51 gm_y_Reader_isName ∈ gm_W := gm_in (List.mem_append_right _ (List.mem_append_right _ (List.mem_append_left _ (List.mem_of_getElem? (i := 144) rfl)))) rfl
theorem gm_l_Reader_55 : Cond.methodLink gm_R_Reader 55 gm_y_Tree_ruleOf ∈ gm_W := gm_in (List.mem_append_right _ (List.mem_append_right _ (List.mem_append_left _ (List.mem_of_getElem? (i := 147) rfl)))) rfl
theorem gm_l_Reader_58 : Cond.methodLink gm_R_Reader 58 gm_y_Reader_need ∈ gm_W := gm_in (List.mem_append_right _ (List.mem_append_right _ (List.mem_append_left _ (List.mem_of_getElem? (i := 151) rfl)))) rfl
theorem gm_l_Reader_62 : Cond.methodLink gm_R_Reader 62 gm_y_Reader_readExpression ∈ gm_W := gm_in (List.mem_append_right _ (List.mem_append_right _ (List.mem_append_left _ (List.mem_of_getElem? (i := 159) rfl)))) rfl
theorem gm_l_Reader_66 : Cond.fieldLink gm_R_Reader 66 "GrammarMachine$Tree" "size" "I" ∈ gm_W := gm_in (List.mem_append_right _ (List.mem_append_left _ (List.mem_of_getElem? (i := 87) rfl))) rfl
theorem gm_l_Reader_67 : Cond.methodLink gm_R_Reader 67 gm_y_Tree_addRule ∈ gm_W := gm_in (List.mem_append_right _ (List.mem_append_right _ (List.mem_append_left _ (List.mem_of_getElem? (i := 210) rfl)))) rfl
theorem gm_l_Reader_74 : Cond.methodLink gm_R_Reader 74 gm_y_Reader_take ∈ gm_W := gm_in (List.mem_append_right _ (List.mem_append_right _ (List.mem_append_left _ (List.mem_of_getElem? (i := 155) rfl)))) rfl
theorem gm_l_Reader_71 : Cond.methodLink gm_R_Reader 71 gm_y_Reader_readSequence ∈ gm_W := gm_in (List.mem_append_right _ (List.mem_append_right _ (List.mem_append_left _ (List.mem_of_getElem? (i := 163) rfl)))) rfl
theorem gm_l_Reader_78 : Cond.methodLink gm_R_Reader 78 gm_y_Reader_join ∈ gm_W := gm_in (List.mem_append_right _ (List.mem_append_right _ (List.mem_append_left _ (List.mem_of_getElem? (i := 198) rfl)))) rfl
theorem gm_l_Reader_81 : Cond.methodLink gm_R_Reader 81 gm_y_Reader_beginsPiece ∈ gm_W := gm_in (List.mem_append_right _ (List.mem_append_right _ (List.mem_append_left _ (List.mem_of_getElem? (i := 167) rfl)))) rfl
theorem gm_l_Reader_84 : Cond.methodLink gm_R_Reader 84 gm_y_Reader_readPiece ∈ gm_W := gm_in (List.mem_append_right _ (List.mem_append_right _ (List.mem_append_left _ (List.mem_of_getElem? (i := 170) rfl)))) rfl
theorem gm_l_Reader_87 : Cond.methodLink gm_R_Reader 87 gm_y_Reader_readPrimary ∈ gm_W := gm_in (List.mem_append_right _ (List.mem_append_right _ (List.mem_append_left _ (List.mem_of_getElem? (i := 174) rfl)))) rfl
theorem gm_l_Reader_90 : Cond.methodLink gm_R_Reader 90 gm_y_Tree_add ∈ gm_W := gm_in (List.mem_append_right _ (List.mem_append_right _ (List.mem_append_left _ (List.mem_of_getElem? (i := 178) rfl)))) rfl
theorem gm_l_Reader_94 : Cond.methodLink gm_R_Reader 94 gm_y_Reader_push ∈ gm_W := gm_in (List.mem_append_right _ (List.mem_append_right _ (List.mem_append_left _ (List.mem_of_getElem? (i := 182) rfl)))) rfl
theorem gm_l_Reader_97 : Cond.methodLink gm_R_Reader 97 gm_y_Reader_pushSet ∈ gm_W := gm_in (List.mem_append_right _ (List.mem_append_right _ (List.mem_append_left _ (List.mem_of_getElem? (i := 186) rfl)))) rfl
theorem gm_l_Reader_100 : Cond.methodLink gm_R_Reader 100 gm_y_Reader_readRow ∈ gm_W := gm_in (List.mem_append_right _ (List.mem_append_right _ (List.mem_append_left _ (List.mem_of_getElem? (i := 194) rfl)))) rfl
theorem gm_l_Reader_103 : Cond.methodLink gm_R_Reader 103 gm_y_Reader_readClass ∈ gm_W := gm_in (List.mem_append_right _ (List.mem_append_right _ (List.mem_append_left _ (List.mem_of_getElem? (i := 206) rfl)))) rfl
theorem gm_l_Reader_106 : Cond.methodLink gm_R_Reader 106 gm_y_Tree_include ∈ gm_W := gm_in (List.mem_append_right _ (List.mem_append_right _ (List.mem_append_left _ (List.mem_of_getElem? (i := 190) rfl)))) rfl
theorem gm_l_Reader_110 : Cond.methodLink gm_R_Reader 110 gm_y_Tree_givePart ∈ gm_W := gm_in (List.mem_append_right _ (List.mem_append_right _ (List.mem_append_left _ (List.mem_of_getElem? (i := 202) rfl)))) rfl
theorem gm_l_Judge_15 : Cond.fieldLink gm_R_Judge 15 "GrammarMachine$Tree" "rules" "I" ∈ gm_W := gm_in (List.mem_append_right _ (List.mem_append_left _ (List.mem_of_getElem? (i := 91) rfl))) rfl
theorem gm_l_Judge_21 : Cond.methodLink gm_R_Judge 21 gm_y_Judge_hasUnknownName ∈ gm_W := gm_in (List.mem_append_right _ (List.mem_append_right _ (List.mem_append_right _ (List.mem_append_left _ (List.mem_of_getElem? (i := 47) rfl))))) rfl
theorem gm_l_Judge_25 : Cond.fieldLink gm_R_Judge 25 "GrammarMachine$Tree" "ruleNames" "[I" ∈ gm_W := gm_in (List.mem_append_right _ (List.mem_append_left _ (List.mem_of_getElem? (i := 82) rfl))) rfl
theorem gm_l_Judge_29 : Cond.methodLink gm_R_Judge 29 gm_y_Tree_firstNodeOf ∈ gm_W := gm_in (List.mem_append_right _ (List.mem_append_right _ (List.mem_append_right _ (List.mem_append_left _ (List.mem_of_getElem? (i := 51) rfl))))) rfl
theorem gm_l_Judge_33 : Cond.fieldLink gm_R_Judge 33 "GrammarMachine$Tree" "roots" "[I" ∈ gm_W := gm_in (List.mem_append_right _ (List.mem_append_left _ (List.mem_of_getElem? (i := 84) rfl))) rfl
theorem gm_l_Judge_36 : Cond.fieldLink gm_R_Judge 36 "GrammarMachine$Tree" "kinds" "[I" ∈ gm_W := gm_in (List.mem_append_right _ (List.mem_append_left _ (List.mem_of_getElem? (i := 57) rfl))) rfl
theorem gm_l_Judge_39 : Cond.fieldLink gm_R_Judge 39 "GrammarMachine$Tree" "letters" "[I" ∈ gm_W := gm_in (List.mem_append_right _ (List.mem_append_left _ (List.mem_of_getElem? (i := 60) rfl))) rfl
theorem gm_l_Judge_42 : Cond.methodLink gm_R_Judge 42 gm_y_Tree_ruleOf ∈ gm_W := gm_in (List.mem_append_right _ (List.mem_append_right _ (List.mem_append_right _ (List.mem_append_left _ (List.mem_of_getElem? (i := 55) rfl))))) rfl
theorem gm_l_Judge_45 : Cond.methodLink gm_R_Judge 45 gm_y_Judge_settleEmptiness ∈ gm_W := gm_in (List.mem_append_right _ (List.mem_append_right _ (List.mem_append_right _ (List.mem_append_left _ (List.mem_of_getElem? (i := 76) rfl))))) rfl
theorem gm_l_Judge_48 : Cond.methodLink gm_R_Judge 48 gm_y_Judge_settleBeginnings ∈ gm_W := gm_in (List.mem_append_right _ (List.mem_append_right _ (List.mem_append_right _ (List.mem_append_left _ (List.mem_of_getElem? (i := 101) rfl))))) rfl
theorem gm_l_Judge_51 : Cond.fieldLink gm_R_Judge 51 "GrammarMachine$Tree" "beginnings" "[I" ∈ gm_W := gm_in (List.mem_append_right _ (List.mem_append_left _ (List.mem_of_getElem? (i := 76) rfl))) rfl
theorem gm_l_Judge_54 : Cond.methodLink gm_R_Judge 54 gm_y_Judge_isEndless ∈ gm_W := gm_in (List.mem_append_right _ (List.mem_append_right _ (List.mem_append_right _ (List.mem_append_left _ (List.mem_of_getElem? (i := 113) rfl))))) rfl
theorem gm_l_Judge_64 : Cond.fieldLink gm_R_Judge 64 "GrammarMachine$Tree" "size" "I" ∈ gm_W := gm_in (List.mem_append_right _ (List.mem_append_left _ (List.mem_of_getElem? (i := 88) rfl))) rfl
theorem gm_l_Judge_57 : Cond.fieldLink gm_R_Judge 57 "GrammarMachine$Tree" "canBeEmpty" "[Z" ∈ gm_W := gm_in (List.mem_append_right _ (List.mem_append_left _ (List.mem_of_getElem? (i := 72) rfl))) rfl
theorem gm_l_Judge_67 : Cond.methodLink gm_R_Judge 67 gm_y_Judge_isEmptyByParts ∈ gm_W := gm_in (List.mem_append_right _ (List.mem_append_right _ (List.mem_append_right _ (List.mem_append_left _ (List.mem_of_getElem? (i := 80) rfl))))) rfl
theorem gm_l_Judge_70 : Cond.methodLink gm_R_Judge 70 gm_y_Judge_rootBehind ∈ gm_W := gm_in (List.mem_append_right _ (List.mem_append_right _ (List.mem_append_right _ (List.mem_append_left _ (List.mem_of_getElem? (i := 84) rfl))))) rfl
theorem gm_l_Judge_73 : Cond.methodLink gm_R_Judge 73 gm_y_Judge_emptyParts ∈ gm_W := gm_in (List.mem_append_right _ (List.mem_append_right _ (List.mem_append_right _ (List.mem_append_left _ (List.mem_of_getElem? (i := 93) rfl))))) rfl
theorem gm_l_Judge_76 : Cond.fieldLink gm_R_Judge 76 "GrammarMachine$Tree" "partsTo" "[I" ∈ gm_W := gm_in (List.mem_append_right _ (List.mem_append_left _ (List.mem_of_getElem? (i := 66) rfl))) rfl
theorem gm_l_Judge_79 : Cond.fieldLink gm_R_Judge 79 "GrammarMachine$Tree" "partsFrom" "[I" ∈ gm_W := gm_in (List.mem_append_right _ (List.mem_append_left _ (List.mem_of_getElem? (i := 63) rfl))) rfl
theorem gm_l_Judge_61 : Cond.methodLink gm_R_Judge 61 gm_y_Tree_partOf ∈ gm_W := gm_in (List.mem_append_right _ (List.mem_append_right _ (List.mem_append_right _ (List.mem_append_left _ (List.mem_of_getElem? (i := 97) rfl))))) rfl
theorem gm_l_Judge_107 : Cond.methodLink gm_R_Judge 107 gm_y_Tree_rootOf ∈ gm_W := gm_in (List.mem_append_right _ (List.mem_append_right _ (List.mem_append_right _ (List.mem_append_left _ (List.mem_of_getElem? (i := 88) rfl))))) rfl
theorem gm_l_Tree_57 : Cond.methodLink gm_R_Tree 57 gm_y_Tree_ruleOf ∈ gm_W := gm_in (List.mem_append_right _ (List.mem_append_right _ (List.mem_append_right _ (List.mem_append_left _ (List.mem_of_getElem? (i := 92) rfl))))) rfl
theorem gm_l_Judge_82 : Cond.fieldLink gm_R_Judge 82 "GrammarMachine$Tree" "parts" "[I" ∈ gm_W := gm_in (List.mem_append_right _ (List.mem_append_left _ (List.mem_of_getElem? (i := 70) rfl))) rfl
theorem gm_l_Judge_85 : Cond.methodLink gm_R_Judge 85 gm_y_Judge_beginningsByParts ∈ gm_W := gm_in (List.mem_append_right _ (List.mem_append_right _ (List.mem_append_right _ (List.mem_append_left _ (List.mem_of_getElem? (i := 105) rfl))))) rfl
theorem gm_l_Judge_88 : Cond.methodLink gm_R_Judge 88 gm_y_Judge_hidesTheRest ∈ gm_W := gm_in (List.mem_append_right _ (List.mem_append_right _ (List.mem_append_right _ (List.mem_append_left _ (List.mem_of_getElem? (i := 109) rfl))))) rfl
theorem gm_l_Judge_92 : Cond.methodLink gm_R_Judge 92 gm_y_Judge_settleHead ∈ gm_W := gm_in (List.mem_append_right _ (List.mem_append_right _ (List.mem_append_right _ (List.mem_append_left _ (List.mem_of_getElem? (i := 137) rfl))))) rfl
theorem gm_l_Judge_96 : Cond.methodLink gm_R_Judge 96 gm_y_Judge_addHead ∈ gm_W := gm_in (List.mem_append_right _ (List.mem_append_right _ (List.mem_append_right _ (List.mem_append_left _ (List.mem_of_getElem? (i := 141) rfl))))) rfl
theorem gm_l_Judge_100 : Cond.fieldLink gm_R_Judge 100 "GrammarMachine$Tree" "lowHeads" "[J" ∈ gm_W := gm_in (List.mem_append_right _ (List.mem_append_left _ (List.mem_of_getElem? (i := 78) rfl))) rfl
theorem gm_l_Judge_104 : Cond.fieldLink gm_R_Judge 104 "GrammarMachine$Tree" "highHeads" "[J" ∈ gm_W := gm_in (List.mem_append_right _ (List.mem_append_left _ (List.mem_of_getElem? (i := 80) rfl))) rfl
theorem gm_l_Code_37 : Cond.methodLink gm_R_Code 37 gm_y_Code_add ∈ gm_W := gm_in (List.mem_append_right _ (List.mem_append_right _ (List.mem_append_right _ (List.mem_append_left _ (List.mem_of_getElem? (i := 149) rfl))))) rfl
theorem gm_l_Code_32 : Cond.fieldLink gm_R_Code 32 "GrammarMachine$Tree" "rules" "I" ∈ gm_W := gm_in (List.mem_append_right _ (List.mem_append_left _ (List.mem_of_getElem? (i := 93) rfl))) rfl
theorem gm_l_Code_41 : Cond.fieldLink gm_R_Code 41 "GrammarMachine$Tree" "roots" "[I" ∈ gm_W := gm_in (List.mem_append_right _ (List.mem_append_left _ (List.mem_of_getElem? (i := 85) rfl))) rfl
theorem gm_l_Code_44 : Cond.methodLink gm_R_Code 44 gm_y_Code_writeNode ∈ gm_W := gm_in (List.mem_append_right _ (List.mem_append_right _ (List.mem_append_right _ (List.mem_append_left _ (List.mem_of_getElem? (i := 153) rfl))))) rfl
theorem gm_l_Code_48 : Cond.methodLink gm_R_Code 48 gm_y_Tree_partOf ∈ gm_W := gm_in (List.mem_append_right _ (List.mem_append_right _ (List.mem_append_right _ (List.mem_append_left _ (List.mem_of_getElem? (i := 157) rfl))))) rfl
theorem gm_l_Code_52 : Cond.fieldLink gm_R_Code 52 "GrammarMachine$Tree" "kinds" "[I" ∈ gm_W := gm_in (List.mem_append_right _ (List.mem_append_left _ (List.mem_of_getElem? (i := 58) rfl))) rfl
theorem gm_l_Code_55 : Cond.fieldLink gm_R_Code 55 "GrammarMachine$Tree" "letters" "[I" ∈ gm_W := gm_in (List.mem_append_right _ (List.mem_append_left _ (List.mem_of_getElem? (i := 61) rfl))) rfl
theorem gm_l_Code_58 : Cond.methodLink gm_R_Code 58 gm_y_Tree_ruleOf ∈ gm_W := gm_in (List.mem_append_right _ (List.mem_append_right _ (List.mem_append_right _ (List.mem_append_left _ (List.mem_of_getElem? (i := 158) rfl))))) rfl
theorem gm_l_Code_61 : Cond.methodLink gm_R_Code 61 gm_y_Code_writeSequence ∈ gm_W := gm_in (List.mem_append_right _ (List.mem_append_right _ (List.mem_append_right _ (List.mem_append_left _ (List.mem_of_getElem? (i := 159) rfl))))) rfl
theorem gm_l_Code_64 : Cond.methodLink gm_R_Code 64 gm_y_Code_writeChoice ∈ gm_W := gm_in (List.mem_append_right _ (List.mem_append_right _ (List.mem_append_right _ (List.mem_append_left _ (List.mem_of_getElem? (i := 163) rfl))))) rfl
theorem gm_l_Code_67 : Cond.methodLink gm_R_Code 67 gm_y_Code_writeOption ∈ gm_W := gm_in (List.mem_append_right _ (List.mem_append_right _ (List.mem_append_right _ (List.mem_append_left _ (List.mem_of_getElem? (i := 187) rfl))))) rfl
theorem gm_l_Code_70 : Cond.methodLink gm_R_Code 70 gm_y_Code_writeLoop ∈ gm_W := gm_in (List.mem_append_right _ (List.mem_append_right _ (List.mem_append_right _ (List.mem_append_left _ (List.mem_of_getElem? (i := 191) rfl))))) rfl
theorem gm_l_Code_74 : Cond.methodLink gm_R_Code 74 gm_y_Code_writeBetween ∈ gm_W := gm_in (List.mem_append_right _ (List.mem_append_right _ (List.mem_append_right _ (List.mem_append_left _ (List.mem_of_getElem? (i := 175) rfl))))) rfl
theorem gm_l_Code_78 : Cond.methodLink gm_R_Code 78 gm_y_Code_aim ∈ gm_W := gm_in (List.mem_append_right _ (List.mem_append_right _ (List.mem_append_right _ (List.mem_append_left _ (List.mem_of_getElem? (i := 179) rfl))))) rfl
theorem gm_l_Code_82 : Cond.fieldLink gm_R_Code 82 "GrammarMachine$Tree" "partsFrom" "[I" ∈ gm_W := gm_in (List.mem_append_right _ (List.mem_append_left _ (List.mem_of_getElem? (i := 64) rfl))) rfl
theorem gm_l_Code_85 : Cond.fieldLink gm_R_Code 85 "GrammarMachine$Tree" "partsTo" "[I" ∈ gm_W := gm_in (List.mem_append_right _ (List.mem_append_left _ (List.mem_of_getElem? (i := 67) rfl))) rfl
theorem gm_l_Code_88 : Cond.fieldLink gm_R_Code 88 "GrammarMachine$Tree" "parts" "[I" ∈ gm_W := gm_in (List.mem_append_right _ (List.mem_append_left _ (List.mem_of_getElem? (i := 69) rfl))) rfl
theorem gm_l_Code_91 : Cond.methodLink gm_R_Code 91 gm_y_Code_writeTried ∈ gm_W := gm_in (List.mem_append_right _ (List.mem_append_right _ (List.mem_append_right _ (List.mem_append_left _ (List.mem_of_getElem? (i := 167) rfl))))) rfl
theorem gm_l_Code_94 : Cond.methodLink gm_R_Code 94 gm_y_Code_aimCommitsFrom ∈ gm_W := gm_in (List.mem_append_right _ (List.mem_append_right _ (List.mem_append_right _ (List.mem_append_left _ (List.mem_of_getElem? (i := 183) rfl))))) rfl
theorem gm_l_Code_97 : Cond.methodLink gm_R_Code 97 gm_y_Code_writeLook ∈ gm_W := gm_in (List.mem_append_right _ (List.mem_append_right _ (List.mem_append_right _ (List.mem_append_left _ (List.mem_of_getElem? (i := 171) rfl))))) rfl
theorem gm_l_Code_100 : Cond.fieldLink gm_R_Code 100 "GrammarMachine$Tree" "canBeEmpty" "[Z" ∈ gm_W := gm_in (List.mem_append_right _ (List.mem_append_left _ (List.mem_of_getElem? (i := 74) rfl))) rfl
theorem gm_l_LW_19 : Cond.methodLink gm_R_LW 19 gm_y_GM_empty ∈ gm_W := gm_in (List.mem_append_right _ (List.mem_append_right _ (List.mem_append_right _ (List.mem_append_left _ (List.mem_of_getElem? (i := 203) rfl))))) rfl
theorem gm_l_GM_123 : Cond.stringRef gm_R_GM 123 "there is no grammar" ∈ lw_tbl := (List.mem_append_right _ (List.mem_append_right _ (List.mem_append_right _ (List.mem_append_left _ (List.mem_of_getElem? (i := 207) rfl)))))
theorem gm_l_GM_125 : Cond.methodLink gm_R_GM 125 gm_y_Tree_rootOf ∈ gm_W := gm_in (List.mem_append_right _ (List.mem_append_right _ (List.mem_append_right _ (List.mem_append_left _ (List.mem_of_getElem? (i := 208) rfl))))) rfl
theorem gm_l_GM_129 : Cond.classLink gm_R_GM 129 "java/lang/IndexOutOfBoundsException" ∈ gm_W := gm_in (List.mem_append_right _ (List.mem_append_right _ (List.mem_append_right _ (List.mem_append_left _ (List.mem_of_getElem? (i := 209) rfl))))) rfl
theorem gm_l_GM_131 : Cond.stringRef gm_R_GM 131 "no rule has this name" ∈ lw_tbl := (List.mem_append_right _ (List.mem_append_right _ (List.mem_append_right _ (List.mem_append_left _ (List.mem_of_getElem? (i := 218) rfl)))))
theorem gm_l_GM_133 : Cond.methodLink gm_R_GM 133 ⟨"java/lang/IndexOutOfBoundsException", "<init>", "(Ljava/lang/String;)V"⟩ ∈ gm_W := gm_in (List.mem_append_right _ (List.mem_append_right _ (List.mem_append_right _ (List.mem_append_left _ (List.mem_of_getElem? (i := 219) rfl))))) rfl
theorem gm_l_GM_134 : Cond.fieldLink gm_R_GM 134 "GrammarMachine$Tree" "canBeEmpty" "[Z" ∈ gm_W := gm_in (List.mem_append_right _ (List.mem_append_left _ (List.mem_of_getElem? (i := 73) rfl))) rfl
theorem gm_l_LW_25 : Cond.methodLink gm_R_LW 25 gm_y_GM_head ∈ gm_W := gm_in (List.mem_append_right _ (List.mem_append_right _ (List.mem_append_right _ (List.mem_append_left _ (List.mem_of_getElem? (i := 228) rfl))))) rfl
theorem gm_l_GM_138 : Cond.methodLink gm_R_GM 138 gm_y_Tree_holds ∈ gm_W := gm_in (List.mem_append_right _ (List.mem_append_right _ (List.mem_append_right _ (List.mem_append_left _ (List.mem_of_getElem? (i := 232) rfl))))) rfl
theorem gm_l_LW_29 : Cond.methodLink gm_R_LW 29 gm_y_GM_match ∈ gm_W := gm_in (List.mem_append_right _ (List.mem_append_right _ (List.mem_append_right _ (List.mem_append_left _ (List.mem_of_getElem? (i := 239) rfl))))) rfl
theorem gm_l_GM_142 : Cond.methodLink gm_R_GM 142 gm_y_Runner_run ∈ gm_W := gm_in (List.mem_append_right _ (List.mem_append_right _ (List.mem_append_right _ (List.mem_append_right _ (List.mem_append_left _ (List.mem_of_getElem? (i := 3) rfl)))))) rfl
theorem gm_l_Runner_76 : Cond.methodLink gm_R_Runner 76 gm_y_Runner_begin ∈ gm_W := gm_in (List.mem_append_right _ (List.mem_append_right _ (List.mem_append_right _ (List.mem_append_right _ (List.mem_append_left _ (List.mem_of_getElem? (i := 7) rfl)))))) rfl
theorem gm_l_Runner_80 : Cond.constant gm_R_Runner 80 1000000000 ∈ gm_W := gm_in (List.mem_append_right _ (List.mem_append_right _ (List.mem_append_right _ (List.mem_append_right _ (List.mem_append_left _ (List.mem_of_getElem? (i := 18) rfl)))))) rfl
theorem gm_l_Runner_81 : Cond.methodLink gm_R_Runner 81 gm_y_Runner_step ∈ gm_W := gm_in (List.mem_append_right _ (List.mem_append_right _ (List.mem_append_right _ (List.mem_append_right _ (List.mem_append_left _ (List.mem_of_getElem? (i := 19) rfl)))))) rfl
theorem gm_l_Runner_84 : Cond.fieldLink gm_R_Runner 84 "GrammarMachine$Captures" "size" "I" ∈ gm_W := gm_in (List.mem_append_right _ (List.mem_append_left _ (List.mem_of_getElem? (i := 223) rfl))) rfl
theorem gm_l_Runner_87 : Cond.methodLink gm_R_Runner 87 gm_y_Memory_forget ∈ gm_W := gm_in (List.mem_append_right _ (List.mem_append_right _ (List.mem_append_right _ (List.mem_append_right _ (List.mem_append_left _ (List.mem_of_getElem? (i := 11) rfl)))))) rfl
theorem gm_l_Memory_30 : Cond.methodLink gm_R_Memory 30 ⟨"java/util/Arrays", "fill", "([II)V"⟩ ∈ gm_W := gm_in (List.mem_append_right _ (List.mem_append_right _ (List.mem_append_right _ (List.mem_append_right _ (List.mem_append_left _ (List.mem_of_getElem? (i := 15) rfl)))))) rfl
theorem gm_l_Memory_36 : Cond.fieldLink gm_R_Memory 36 "GrammarMachine$Captures" "size" "I" ∈ gm_W := gm_in (List.mem_append_right _ (List.mem_append_left _ (List.mem_of_getElem? (i := 222) rfl))) rfl
theorem gm_l_Runner_90 : Cond.methodLink gm_R_Runner 90 gm_y_Code_operation ∈ gm_W := gm_in (List.mem_append_right _ (List.mem_append_right _ (List.mem_append_right _ (List.mem_append_right _ (List.mem_append_left _ (List.mem_of_getElem? (i := 23) rfl)))))) rfl
theorem gm_l_Runner_96 : Cond.methodLink gm_R_Runner 96 gm_y_Runner_takeCharacter ∈ gm_W := gm_in (List.mem_append_right _ (List.mem_append_right _ (List.mem_append_right _ (List.mem_append_right _ (List.mem_append_left _ (List.mem_of_getElem? (i := 27) rfl)))))) rfl
theorem gm_l_Runner_99 : Cond.methodLink gm_R_Runner 99 gm_y_Runner_look ∈ gm_W := gm_in (List.mem_append_right _ (List.mem_append_right _ (List.mem_append_right _ (List.mem_append_right _ (List.mem_append_left _ (List.mem_of_getElem? (i := 68) rfl)))))) rfl
theorem gm_l_Runner_102 : Cond.methodLink gm_R_Runner 102 gm_y_Runner_beginTry ∈ gm_W := gm_in (List.mem_append_right _ (List.mem_append_right _ (List.mem_append_right _ (List.mem_append_right _ (List.mem_append_left _ (List.mem_of_getElem? (i := 76) rfl)))))) rfl
theorem gm_l_Runner_105 : Cond.methodLink gm_R_Runner 105 gm_y_Runner_push ∈ gm_W := gm_in (List.mem_append_right _ (List.mem_append_right _ (List.mem_append_right _ (List.mem_append_right _ (List.mem_append_left _ (List.mem_of_getElem? (i := 80) rfl)))))) rfl
theorem gm_l_Runner_109 : Cond.methodLink gm_R_Runner 109 gm_y_Code_target ∈ gm_W := gm_in (List.mem_append_right _ (List.mem_append_right _ (List.mem_append_right _ (List.mem_append_right _ (List.mem_append_left _ (List.mem_of_getElem? (i := 72) rfl)))))) rfl
theorem gm_l_Runner_112 : Cond.methodLink gm_R_Runner 112 gm_y_Runner_pop ∈ gm_W := gm_in (List.mem_append_right _ (List.mem_append_right _ (List.mem_append_right _ (List.mem_append_right _ (List.mem_append_left _ (List.mem_of_getElem? (i := 45) rfl)))))) rfl
theorem gm_l_Runner_115 : Cond.methodLink gm_R_Runner 115 gm_y_Runner_restore ∈ gm_W := gm_in (List.mem_append_right _ (List.mem_append_right _ (List.mem_append_right _ (List.mem_append_right _ (List.mem_append_left _ (List.mem_of_getElem? (i := 60) rfl)))))) rfl
theorem gm_l_Runner_118 : Cond.methodLink gm_R_Runner 118 gm_y_Runner_fail ∈ gm_W := gm_in (List.mem_append_right _ (List.mem_append_right _ (List.mem_append_right _ (List.mem_append_right _ (List.mem_append_left _ (List.mem_of_getElem? (i := 41) rfl)))))) rfl
theorem gm_l_Runner_121 : Cond.methodLink gm_R_Runner 121 gm_y_Code_operand ∈ gm_W := gm_in (List.mem_append_right _ (List.mem_append_right _ (List.mem_append_right _ (List.mem_append_right _ (List.mem_append_left _ (List.mem_of_getElem? (i := 31) rfl)))))) rfl
theorem gm_l_Runner_124 : Cond.methodLink gm_R_Runner 124 gm_y_Runner_callRule ∈ gm_W := gm_in (List.mem_append_right _ (List.mem_append_right _ (List.mem_append_right _ (List.mem_append_right _ (List.mem_append_left _ (List.mem_of_getElem? (i := 84) rfl)))))) rfl
theorem gm_l_Runner_127 : Cond.methodLink gm_R_Runner 127 gm_y_Runner_returnFromRule ∈ gm_W := gm_in (List.mem_append_right _ (List.mem_append_right _ (List.mem_append_right _ (List.mem_append_right _ (List.mem_append_left _ (List.mem_of_getElem? (i := 108) rfl)))))) rfl
theorem gm_l_Runner_130 : Cond.methodLink gm_R_Runner 130 gm_y_Captures_add ∈ gm_W := gm_in (List.mem_append_right _ (List.mem_append_right _ (List.mem_append_right _ (List.mem_append_right _ (List.mem_append_left _ (List.mem_of_getElem? (i := 116) rfl)))))) rfl
theorem gm_l_Runner_133 : Cond.methodLink gm_R_Runner 133 gm_y_Captures_closeLatest ∈ gm_W := gm_in (List.mem_append_right _ (List.mem_append_right _ (List.mem_append_right _ (List.mem_append_right _ (List.mem_append_left _ (List.mem_of_getElem? (i := 117) rfl)))))) rfl
theorem gm_l_Runner_146 : Cond.methodLink gm_R_Runner 146 gm_y_Runner_nextIsIn ∈ gm_W := gm_in (List.mem_append_right _ (List.mem_append_right _ (List.mem_append_right _ (List.mem_append_right _ (List.mem_append_left _ (List.mem_of_getElem? (i := 35) rfl)))))) rfl
theorem gm_l_Runner_136 : Cond.methodLink gm_R_Runner 136 gm_y_Row_at ∈ gm_W := gm_in (List.mem_append_right _ (List.mem_append_right _ (List.mem_append_right _ (List.mem_append_right _ (List.mem_append_left _ (List.mem_of_getElem? (i := 39) rfl)))))) rfl
theorem gm_l_Runner_140 : Cond.methodLink gm_R_Runner 140 gm_y_Tree_holds ∈ gm_W := gm_in (List.mem_append_right _ (List.mem_append_right _ (List.mem_append_right _ (List.mem_append_right _ (List.mem_append_left _ (List.mem_of_getElem? (i := 40) rfl)))))) rfl
theorem gm_l_Runner_165 : Cond.methodLink gm_R_Runner 165 gm_y_Runner_failRule ∈ gm_W := gm_in (List.mem_append_right _ (List.mem_append_right _ (List.mem_append_right _ (List.mem_append_right _ (List.mem_append_left _ (List.mem_of_getElem? (i := 49) rfl)))))) rfl
theorem gm_l_Runner_168 : Cond.methodLink gm_R_Runner 168 gm_y_Memory_keepFailure ∈ gm_W := gm_in (List.mem_append_right _ (List.mem_append_right _ (List.mem_append_right _ (List.mem_append_right _ (List.mem_append_left _ (List.mem_of_getElem? (i := 53) rfl)))))) rfl
theorem gm_l_Memory_40 : Cond.methodLink gm_R_Memory 40 gm_y_Memory_slotOf ∈ gm_W := gm_in (List.mem_append_right _ (List.mem_append_right _ (List.mem_append_right _ (List.mem_append_right _ (List.mem_append_left _ (List.mem_of_getElem? (i := 57) rfl)))))) rfl
theorem gm_l_Runner_171 : Cond.methodLink gm_R_Runner 171 gm_y_Captures_cutTo ∈ gm_W := gm_in (List.mem_append_right _ (List.mem_append_right _ (List.mem_append_right _ (List.mem_append_right _ (List.mem_append_left _ (List.mem_of_getElem? (i := 64) rfl)))))) rfl
theorem gm_l_Runner_150 : Cond.methodLink gm_R_Runner 150 gm_y_Memory_result ∈ gm_W := gm_in (List.mem_append_right _ (List.mem_append_right _ (List.mem_append_right _ (List.mem_append_right _ (List.mem_append_left _ (List.mem_of_getElem? (i := 88) rfl)))))) rfl
theorem gm_l_Runner_154 : Cond.methodLink gm_R_Runner 154 gm_y_Code_start ∈ gm_W := gm_in (List.mem_append_right _ (List.mem_append_right _ (List.mem_append_right _ (List.mem_append_right _ (List.mem_append_left _ (List.mem_of_getElem? (i := 92) rfl)))))) rfl
theorem gm_l_Runner_157 : Cond.methodLink gm_R_Runner 157 gm_y_Memory_recallCaptures ∈ gm_W := gm_in (List.mem_append_right _ (List.mem_append_right _ (List.mem_append_right _ (List.mem_append_right _ (List.mem_append_left _ (List.mem_of_getElem? (i := 96) rfl)))))) rfl
theorem gm_l_Memory_44 : Cond.methodLink gm_R_Memory 44 gm_y_Captures_addFrom ∈ gm_W := gm_in (List.mem_append_right _ (List.mem_append_right _ (List.mem_append_right _ (List.mem_append_right _ (List.mem_append_left _ (List.mem_of_getElem? (i := 100) rfl)))))) rfl
theorem gm_l_Captures_22 : Cond.methodLink gm_R_Captures 22 gm_y_Captures_add ∈ gm_W := gm_in (List.mem_append_right _ (List.mem_append_right _ (List.mem_append_right _ (List.mem_append_right _ (List.mem_append_left _ (List.mem_of_getElem? (i := 104) rfl)))))) rfl
theorem gm_l_Runner_161 : Cond.methodLink gm_R_Runner 161 gm_y_Memory_keepMatch ∈ gm_W := gm_in (List.mem_append_right _ (List.mem_append_right _ (List.mem_append_right _ (List.mem_append_right _ (List.mem_append_left _ (List.mem_of_getElem? (i := 112) rfl)))))) rfl
theorem gm_l_LW_33 : Cond.methodLink gm_R_LW 33 gm_y_GM_node ∈ gm_W := gm_in (List.mem_append_right _ (List.mem_append_right _ (List.mem_append_right _ (List.mem_append_right _ (List.mem_append_left _ (List.mem_of_getElem? (i := 124) rfl)))))) rfl
theorem gm_l_GM_156 : Cond.stringRef gm_R_GM 156 "there is no such node" ∈ lw_tbl := (List.mem_append_right _ (List.mem_append_right _ (List.mem_append_right _ (List.mem_append_right _ (List.mem_append_left _ (List.mem_of_getElem? (i := 128) rfl))))))
theorem gm_l_GM_158 : Cond.stringRef gm_R_GM 158 "what is 0, 1 or 2" ∈ lw_tbl := (List.mem_append_right _ (List.mem_append_right _ (List.mem_append_right _ (List.mem_append_right _ (List.mem_append_left _ (List.mem_of_getElem? (i := 129) rfl))))))
theorem gm_l_GM_160 : Cond.methodLink gm_R_GM 160 gm_y_Captures_outerOf ∈ gm_W := gm_in (List.mem_append_right _ (List.mem_append_right _ (List.mem_append_right _ (List.mem_append_right _ (List.mem_append_left _ (List.mem_of_getElem? (i := 130) rfl)))))) rfl
theorem gm_l_GM_163 : Cond.fieldLink gm_R_GM 163 "GrammarMachine$Captures" "begins" "[I" ∈ gm_W := gm_in (List.mem_append_right _ (List.mem_append_left _ (List.mem_of_getElem? (i := 218) rfl))) rfl
theorem gm_l_GM_167 : Cond.fieldLink gm_R_GM 167 "GrammarMachine$Captures" "ends" "[I" ∈ gm_W := gm_in (List.mem_append_right _ (List.mem_append_left _ (List.mem_of_getElem? (i := 220) rfl))) rfl
theorem gm_l_MD_1 : Cond.methodLink gm_R_MD 1 objectInit ∈ gm_W := gm_in (List.mem_append_right _ (List.mem_append_right _ (List.mem_append_right _ (List.mem_append_right _ (List.mem_append_left _ (List.mem_of_getElem? (i := 139) rfl)))))) rfl
theorem gm_l_MD_9 : Cond.fieldLink gm_R_MD 9 "GrammarMachineModel" "fault" "I" ∈ gm_W := gm_in (List.mem_append_right _ (List.mem_append_right _ (List.mem_append_right _ (List.mem_append_right _ (List.mem_append_left _ (List.mem_of_getElem? (i := 141) rfl)))))) rfl
theorem gm_l_MD_13 : Cond.fieldLink gm_R_MD 13 "GrammarMachineModel" "text" "[I" ∈ gm_W := gm_in (List.mem_append_right _ (List.mem_append_right _ (List.mem_append_right _ (List.mem_append_right _ (List.mem_append_left _ (List.mem_of_getElem? (i := 143) rfl)))))) rfl
theorem gm_l_MD_17 : Cond.fieldLink gm_R_MD 17 "GrammarMachineModel" "base" "I" ∈ gm_W := gm_in (List.mem_append_right _ (List.mem_append_right _ (List.mem_append_right _ (List.mem_append_right _ (List.mem_append_left _ (List.mem_of_getElem? (i := 144) rfl)))))) rfl
theorem gm_l_MD_20 : Cond.fieldLink gm_R_MD 20 "GrammarMachineModel" "ruleCount" "[I" ∈ gm_W := gm_in (List.mem_append_right _ (List.mem_append_right _ (List.mem_append_right _ (List.mem_append_right _ (List.mem_append_left _ (List.mem_of_getElem? (i := 146) rfl)))))) rfl
theorem gm_l_MD_23 : Cond.fieldLink gm_R_MD 23 "GrammarMachineModel" "name" "[I" ∈ gm_W := gm_in (List.mem_append_right _ (List.mem_append_right _ (List.mem_append_right _ (List.mem_append_right _ (List.mem_append_left _ (List.mem_of_getElem? (i := 147) rfl)))))) rfl
theorem gm_l_MD_26 : Cond.fieldLink gm_R_MD 26 "GrammarMachineModel" "whole" "[I" ∈ gm_W := gm_in (List.mem_append_right _ (List.mem_append_right _ (List.mem_append_right _ (List.mem_append_right _ (List.mem_append_left _ (List.mem_of_getElem? (i := 148) rfl)))))) rfl
theorem gm_l_MD_29 : Cond.fieldLink gm_R_MD 29 "GrammarMachineModel" "parts" "[I" ∈ gm_W := gm_in (List.mem_append_right _ (List.mem_append_right _ (List.mem_append_right _ (List.mem_append_right _ (List.mem_append_left _ (List.mem_of_getElem? (i := 149) rfl)))))) rfl
theorem gm_l_MD_32 : Cond.fieldLink gm_R_MD 32 "GrammarMachineModel" "kind" "[I" ∈ gm_W := gm_in (List.mem_append_right _ (List.mem_append_right _ (List.mem_append_right _ (List.mem_append_right _ (List.mem_append_left _ (List.mem_of_getElem? (i := 150) rfl)))))) rfl
theorem gm_l_MD_35 : Cond.fieldLink gm_R_MD 35 "GrammarMachineModel" "one" "[I" ∈ gm_W := gm_in (List.mem_append_right _ (List.mem_append_right _ (List.mem_append_right _ (List.mem_append_right _ (List.mem_append_left _ (List.mem_of_getElem? (i := 151) rfl)))))) rfl
theorem gm_l_MD_38 : Cond.fieldLink gm_R_MD 38 "GrammarMachineModel" "two" "[I" ∈ gm_W := gm_in (List.mem_append_right _ (List.mem_append_right _ (List.mem_append_right _ (List.mem_append_right _ (List.mem_append_left _ (List.mem_of_getElem? (i := 152) rfl)))))) rfl
theorem gm_l_MD_41 : Cond.fieldLink gm_R_MD 41 "GrammarMachineModel" "owner" "[I" ∈ gm_W := gm_in (List.mem_append_right _ (List.mem_append_right _ (List.mem_append_right _ (List.mem_append_right _ (List.mem_append_left _ (List.mem_of_getElem? (i := 153) rfl)))))) rfl
theorem gm_l_MD_44 : Cond.fieldLink gm_R_MD 44 "GrammarMachineModel" "kept" "[I" ∈ gm_W := gm_in (List.mem_append_right _ (List.mem_append_right _ (List.mem_append_right _ (List.mem_append_right _ (List.mem_append_left _ (List.mem_of_getElem? (i := 154) rfl)))))) rfl
theorem gm_l_MD_47 : Cond.fieldLink gm_R_MD 47 "GrammarMachineModel" "empty" "[Z" ∈ gm_W := gm_in (List.mem_append_right _ (List.mem_append_right _ (List.mem_append_right _ (List.mem_append_right _ (List.mem_append_left _ (List.mem_of_getElem? (i := 155) rfl)))))) rfl
theorem gm_l_MD_51 : Cond.fieldLink gm_R_MD 51 "GrammarMachineModel" "begins" "[I" ∈ gm_W := gm_in (List.mem_append_right _ (List.mem_append_right _ (List.mem_append_right _ (List.mem_append_right _ (List.mem_append_left _ (List.mem_of_getElem? (i := 156) rfl)))))) rfl
theorem gm_l_MD_54 : Cond.fieldLink gm_R_MD 54 "GrammarMachineModel" "low" "[J" ∈ gm_W := gm_in (List.mem_append_right _ (List.mem_append_right _ (List.mem_append_right _ (List.mem_append_right _ (List.mem_append_left _ (List.mem_of_getElem? (i := 157) rfl)))))) rfl
theorem gm_l_MD_58 : Cond.fieldLink gm_R_MD 58 "GrammarMachineModel" "high" "[J" ∈ gm_W := gm_in (List.mem_append_right _ (List.mem_append_right _ (List.mem_append_right _ (List.mem_append_right _ (List.mem_append_left _ (List.mem_of_getElem? (i := 158) rfl)))))) rfl
theorem gm_l_MD_61 : Cond.fieldLink gm_R_MD 61 "GrammarMachineModel" "bracket" "[I" ∈ gm_W := gm_in (List.mem_append_right _ (List.mem_append_right _ (List.mem_append_right _ (List.mem_append_right _ (List.mem_append_left _ (List.mem_of_getElem? (i := 166) rfl)))))) rfl
theorem gm_l_MD_64 : Cond.fieldLink gm_R_MD 64 "GrammarMachineModel" "before" "[I" ∈ gm_W := gm_in (List.mem_append_right _ (List.mem_append_right _ (List.mem_append_right _ (List.mem_append_right _ (List.mem_append_left _ (List.mem_of_getElem? (i := 167) rfl)))))) rfl
theorem gm_l_MD_67 : Cond.fieldLink gm_R_MD 67 "GrammarMachineModel" "itemBase" "[I" ∈ gm_W := gm_in (List.mem_append_right _ (List.mem_append_right _ (List.mem_append_right _ (List.mem_append_right _ (List.mem_append_left _ (List.mem_of_getElem? (i := 168) rfl)))))) rfl
theorem gm_l_MD_70 : Cond.fieldLink gm_R_MD 70 "GrammarMachineModel" "alternativeBase" "[I" ∈ gm_W := gm_in (List.mem_append_right _ (List.mem_append_right _ (List.mem_append_right _ (List.mem_append_right _ (List.mem_append_left _ (List.mem_of_getElem? (i := 169) rfl)))))) rfl
theorem gm_l_MD_73 : Cond.fieldLink gm_R_MD 73 "GrammarMachineModel" "item" "[I" ∈ gm_W := gm_in (List.mem_append_right _ (List.mem_append_right _ (List.mem_append_right _ (List.mem_append_right _ (List.mem_append_left _ (List.mem_of_getElem? (i := 170) rfl)))))) rfl
theorem gm_l_MD_76 : Cond.fieldLink gm_R_MD 76 "GrammarMachineModel" "alternative" "[I" ∈ gm_W := gm_in (List.mem_append_right _ (List.mem_append_right _ (List.mem_append_right _ (List.mem_append_right _ (List.mem_append_left _ (List.mem_of_getElem? (i := 171) rfl)))))) rfl
theorem gm_l_MD_79 : Cond.fieldLink gm_R_MD 79 "GrammarMachineModel" "subject" "[I" ∈ gm_W := gm_in (List.mem_append_right _ (List.mem_append_right _ (List.mem_append_right _ (List.mem_append_right _ (List.mem_append_left _ (List.mem_of_getElem? (i := 173) rfl)))))) rfl
theorem gm_l_MD_82 : Cond.fieldLink gm_R_MD 82 "GrammarMachineModel" "takes" "[I" ∈ gm_W := gm_in (List.mem_append_right _ (List.mem_append_right _ (List.mem_append_right _ (List.mem_append_right _ (List.mem_append_left _ (List.mem_of_getElem? (i := 174) rfl)))))) rfl
theorem gm_l_MD_85 : Cond.fieldLink gm_R_MD 85 "GrammarMachineModel" "costs" "[I" ∈ gm_W := gm_in (List.mem_append_right _ (List.mem_append_right _ (List.mem_append_right _ (List.mem_append_right _ (List.mem_append_left _ (List.mem_of_getElem? (i := 175) rfl)))))) rfl
theorem gm_l_MD_88 : Cond.fieldLink gm_R_MD 88 "GrammarMachineModel" "met" "[Z" ∈ gm_W := gm_in (List.mem_append_right _ (List.mem_append_right _ (List.mem_append_right _ (List.mem_append_right _ (List.mem_append_left _ (List.mem_of_getElem? (i := 176) rfl)))))) rfl
theorem gm_l_MD_91 : Cond.fieldLink gm_R_MD 91 "GrammarMachineModel" "waiting" "[I" ∈ gm_W := gm_in (List.mem_append_right _ (List.mem_append_right _ (List.mem_append_right _ (List.mem_append_right _ (List.mem_append_left _ (List.mem_of_getElem? (i := 177) rfl)))))) rfl
theorem gm_l_MD_94 : Cond.fieldLink gm_R_MD 94 "GrammarMachineModel" "begin" "[I" ∈ gm_W := gm_in (List.mem_append_right _ (List.mem_append_right _ (List.mem_append_right _ (List.mem_append_right _ (List.mem_append_left _ (List.mem_of_getElem? (i := 182) rfl)))))) rfl
theorem gm_l_MD_97 : Cond.fieldLink gm_R_MD 97 "GrammarMachineModel" "end" "[I" ∈ gm_W := gm_in (List.mem_append_right _ (List.mem_append_right _ (List.mem_append_right _ (List.mem_append_right _ (List.mem_append_left _ (List.mem_of_getElem? (i := 183) rfl)))))) rfl
theorem gm_l_MD_100 : Cond.fieldLink gm_R_MD 100 "GrammarMachineModel" "inside" "[I" ∈ gm_W := gm_in (List.mem_append_right _ (List.mem_append_right _ (List.mem_append_right _ (List.mem_append_right _ (List.mem_append_left _ (List.mem_of_getElem? (i := 184) rfl)))))) rfl
theorem gm_l_MD_103 : Cond.fieldLink gm_R_MD 103 "GrammarMachineModel" "code" "I" ∈ gm_W := gm_in (List.mem_append_right _ (List.mem_append_right _ (List.mem_append_right _ (List.mem_append_right _ (List.mem_append_left _ (List.mem_of_getElem? (i := 140) rfl)))))) rfl
theorem gm_l_MD_106 : Cond.fieldLink gm_R_MD 106 "GrammarMachineModel" "typed" "I" ∈ gm_W := gm_in (List.mem_append_right _ (List.mem_append_right _ (List.mem_append_right _ (List.mem_append_right _ (List.mem_append_left _ (List.mem_of_getElem? (i := 142) rfl)))))) rfl
theorem gm_l_MD_202 : Cond.methodLink gm_R_MD 202 gm_y_MD_read ∈ gm_W := gm_in (List.mem_append_right _ (List.mem_append_right _ (List.mem_append_right _ (List.mem_append_right _ (List.mem_append_right _ (List.mem_append_left _ (List.mem_of_getElem? (i := 52) rfl))))))) rfl
theorem gm_l_MD_109 : Cond.fieldLink gm_R_MD 109 "GrammarMachineModel" "at" "I" ∈ gm_W := gm_in (List.mem_append_right _ (List.mem_append_right _ (List.mem_append_right _ (List.mem_append_right _ (List.mem_append_left _ (List.mem_of_getElem? (i := 159) rfl)))))) rfl
theorem gm_l_MD_206 : Cond.methodLink gm_R_MD 206 gm_y_MD_tell ∈ gm_W := gm_in (List.mem_append_right _ (List.mem_append_right _ (List.mem_append_right _ (List.mem_append_right _ (List.mem_append_right _ (List.mem_append_left _ (List.mem_of_getElem? (i := 111) rfl))))))) rfl
theorem gm_l_MD_116 : Cond.fieldLink gm_R_MD 116 "GrammarMachineModel" "fresh" "I" ∈ gm_W := gm_in (List.mem_append_right _ (List.mem_append_right _ (List.mem_append_right _ (List.mem_append_right _ (List.mem_append_left _ (List.mem_of_getElem? (i := 145) rfl)))))) rfl
theorem gm_l_MD_209 : Cond.methodLink gm_R_MD 209 gm_y_MD_isUndefined ∈ gm_W := gm_in (List.mem_append_right _ (List.mem_append_right _ (List.mem_append_right _ (List.mem_append_right _ (List.mem_append_right _ (List.mem_append_left _ (List.mem_of_getElem? (i := 119) rfl))))))) rfl
theorem gm_l_MD_212 : Cond.methodLink gm_R_MD 212 gm_y_MD_study ∈ gm_W := gm_in (List.mem_append_right _ (List.mem_append_right _ (List.mem_append_right _ (List.mem_append_right _ (List.mem_append_right _ (List.mem_append_left _ (List.mem_of_getElem? (i := 127) rfl))))))) rfl
theorem gm_l_MD_215 : Cond.methodLink gm_R_MD 215 gm_y_MD_isWild ∈ gm_W := gm_in (List.mem_append_right _ (List.mem_append_right _ (List.mem_append_right _ (List.mem_append_right _ (List.mem_append_right _ (List.mem_append_left _ (List.mem_of_getElem? (i := 147) rfl))))))) rfl
theorem gm_l_MD_218 : Cond.fieldLink gm_R_MD 218 "GrammarMachineModel" "matched" "Z" ∈ gm_W := gm_in (List.mem_append_right _ (List.mem_append_right _ (List.mem_append_right _ (List.mem_append_right _ (List.mem_append_left _ (List.mem_of_getElem? (i := 179) rfl)))))) rfl
theorem gm_l_MD_112 : Cond.fieldLink gm_R_MD 112 "GrammarMachineModel" "wrong" "Z" ∈ gm_W := gm_in (List.mem_append_right _ (List.mem_append_right _ (List.mem_append_right _ (List.mem_append_right _ (List.mem_append_left _ (List.mem_of_getElem? (i := 164) rfl)))))) rfl
theorem gm_l_MD_119 : Cond.methodLink gm_R_MD 119 gm_y_MD_readRule ∈ gm_W := gm_in (List.mem_append_right _ (List.mem_append_right _ (List.mem_append_right _ (List.mem_append_right _ (List.mem_append_right _ (List.mem_append_left _ (List.mem_of_getElem? (i := 56) rfl))))))) rfl
theorem gm_l_MD_122 : Cond.methodLink gm_R_MD 122 gm_y_MD_peek ∈ gm_W := gm_in (List.mem_append_right _ (List.mem_append_right _ (List.mem_append_right _ (List.mem_append_right _ (List.mem_append_right _ (List.mem_append_left _ (List.mem_of_getElem? (i := 60) rfl))))))) rfl
theorem gm_l_MD_126 : Cond.methodLink gm_R_MD 126 gm_y_MD_ruleOf ∈ gm_W := gm_in (List.mem_append_right _ (List.mem_append_right _ (List.mem_append_right _ (List.mem_append_right _ (List.mem_append_right _ (List.mem_append_left _ (List.mem_of_getElem? (i := 64) rfl))))))) rfl
theorem gm_l_MD_130 : Cond.methodLink gm_R_MD 130 gm_y_MD_refuse ∈ gm_W := gm_in (List.mem_append_right _ (List.mem_append_right _ (List.mem_append_right _ (List.mem_append_right _ (List.mem_append_right _ (List.mem_append_left _ (List.mem_of_getElem? (i := 68) rfl))))))) rfl
theorem gm_l_MD_133 : Cond.fieldLink gm_R_MD 133 "GrammarMachineModel" "depth" "I" ∈ gm_W := gm_in (List.mem_append_right _ (List.mem_append_right _ (List.mem_append_right _ (List.mem_append_right _ (List.mem_append_left _ (List.mem_of_getElem? (i := 160) rfl)))))) rfl
theorem gm_l_MD_136 : Cond.fieldLink gm_R_MD 136 "GrammarMachineModel" "items" "I" ∈ gm_W := gm_in (List.mem_append_right _ (List.mem_append_right _ (List.mem_append_right _ (List.mem_append_right _ (List.mem_append_left _ (List.mem_of_getElem? (i := 161) rfl)))))) rfl
theorem gm_l_MD_139 : Cond.fieldLink gm_R_MD 139 "GrammarMachineModel" "alternatives" "I" ∈ gm_W := gm_in (List.mem_append_right _ (List.mem_append_right _ (List.mem_append_right _ (List.mem_append_right _ (List.mem_append_left _ (List.mem_of_getElem? (i := 162) rfl)))))) rfl
theorem gm_l_MD_142 : Cond.fieldLink gm_R_MD 142 "GrammarMachineModel" "prefix" "I" ∈ gm_W := gm_in (List.mem_append_right _ (List.mem_append_right _ (List.mem_append_right _ (List.mem_append_right _ (List.mem_append_left _ (List.mem_of_getElem? (i := 163) rfl)))))) rfl
theorem gm_l_MD_145 : Cond.fieldLink gm_R_MD 145 "GrammarMachineModel" "open" "Z" ∈ gm_W := gm_in (List.mem_append_right _ (List.mem_append_right _ (List.mem_append_right _ (List.mem_append_right _ (List.mem_append_left _ (List.mem_of_getElem? (i := 165) rfl)))))) rfl
theorem gm_l_MD_148 : Cond.methodLink gm_R_MD 148 gm_y_MD_readPart ∈ gm_W := gm_in (List.mem_append_right _ (List.mem_append_right _ (List.mem_append_right _ (List.mem_append_right _ (List.mem_append_right _ (List.mem_append_left _ (List.mem_of_getElem? (i := 72) rfl))))))) rfl
theorem gm_l_MD_151 : Cond.methodLink gm_R_MD 151 gm_y_MD_create ∈ gm_W := gm_in (List.mem_append_right _ (List.mem_append_right _ (List.mem_append_right _ (List.mem_append_right _ (List.mem_append_right _ (List.mem_append_left _ (List.mem_of_getElem? (i := 76) rfl))))))) rfl
theorem gm_l_MD_155 : Cond.methodLink gm_R_MD 155 gm_y_MD_primary ∈ gm_W := gm_in (List.mem_append_right _ (List.mem_append_right _ (List.mem_append_right _ (List.mem_append_right _ (List.mem_append_right _ (List.mem_append_left _ (List.mem_of_getElem? (i := 80) rfl))))))) rfl
theorem gm_l_MD_159 : Cond.methodLink gm_R_MD 159 gm_y_MD_include ∈ gm_W := gm_in (List.mem_append_right _ (List.mem_append_right _ (List.mem_append_right _ (List.mem_append_right _ (List.mem_append_right _ (List.mem_append_left _ (List.mem_of_getElem? (i := 84) rfl))))))) rfl
theorem gm_l_MD_163 : Cond.methodLink gm_R_MD 163 gm_y_MD_readRow ∈ gm_W := gm_in (List.mem_append_right _ (List.mem_append_right _ (List.mem_append_right _ (List.mem_append_right _ (List.mem_append_right _ (List.mem_append_left _ (List.mem_of_getElem? (i := 88) rfl))))))) rfl
theorem gm_l_MD_166 : Cond.methodLink gm_R_MD 166 gm_y_MD_readClass ∈ gm_W := gm_in (List.mem_append_right _ (List.mem_append_right _ (List.mem_append_right _ (List.mem_append_right _ (List.mem_append_right _ (List.mem_append_left _ (List.mem_of_getElem? (i := 92) rfl))))))) rfl
theorem gm_l_MD_169 : Cond.methodLink gm_R_MD 169 gm_y_MD_readSign ∈ gm_W := gm_in (List.mem_append_right _ (List.mem_append_right _ (List.mem_append_right _ (List.mem_append_right _ (List.mem_append_right _ (List.mem_append_left _ (List.mem_of_getElem? (i := 96) rfl))))))) rfl
theorem gm_l_MD_172 : Cond.methodLink gm_R_MD 172 gm_y_MD_closing ∈ gm_W := gm_in (List.mem_append_right _ (List.mem_append_right _ (List.mem_append_right _ (List.mem_append_right _ (List.mem_append_right _ (List.mem_append_left _ (List.mem_of_getElem? (i := 100) rfl))))))) rfl
theorem gm_l_MD_176 : Cond.methodLink gm_R_MD 176 gm_y_MD_endSequence ∈ gm_W := gm_in (List.mem_append_right _ (List.mem_append_right _ (List.mem_append_right _ (List.mem_append_right _ (List.mem_append_right _ (List.mem_append_left _ (List.mem_of_getElem? (i := 103) rfl))))))) rfl
theorem gm_l_MD_179 : Cond.methodLink gm_R_MD 179 gm_y_MD_close ∈ gm_W := gm_in (List.mem_append_right _ (List.mem_append_right _ (List.mem_append_right _ (List.mem_append_right _ (List.mem_append_right _ (List.mem_append_left _ (List.mem_of_getElem? (i := 107) rfl))))))) rfl
theorem gm_l_MD_199 : Cond.methodLink gm_R_MD 199 gm_y_MD_fail ∈ gm_W := gm_in (List.mem_append_right _ (List.mem_append_right _ (List.mem_append_right _ (List.mem_append_right _ (List.mem_append_right _ (List.mem_append_left _ (List.mem_of_getElem? (i := 115) rfl))))))) rfl
theorem gm_l_MD_182 : Cond.methodLink gm_R_MD 182 gm_y_MD_meant ∈ gm_W := gm_in (List.mem_append_right _ (List.mem_append_right _ (List.mem_append_right _ (List.mem_append_right _ (List.mem_append_right _ (List.mem_append_left _ (List.mem_of_getElem? (i := 123) rfl))))))) rfl
theorem gm_l_MD_189 : Cond.methodLink gm_R_MD 189 gm_y_MD_isEmpty ∈ gm_W := gm_in (List.mem_append_right _ (List.mem_append_right _ (List.mem_append_right _ (List.mem_append_right _ (List.mem_append_right _ (List.mem_append_left _ (List.mem_of_getElem? (i := 131) rfl))))))) rfl
theorem gm_l_MD_193 : Cond.methodLink gm_R_MD 193 gm_y_MD_beginsOf ∈ gm_W := gm_in (List.mem_append_right _ (List.mem_append_right _ (List.mem_append_right _ (List.mem_append_right _ (List.mem_append_right _ (List.mem_append_left _ (List.mem_of_getElem? (i := 135) rfl))))))) rfl
theorem gm_l_MD_196 : Cond.methodLink gm_R_MD 196 gm_y_MD_findHead ∈ gm_W := gm_in (List.mem_append_right _ (List.mem_append_right _ (List.mem_append_right _ (List.mem_append_right _ (List.mem_append_right _ (List.mem_append_left _ (List.mem_of_getElem? (i := 139) rfl))))))) rfl
theorem gm_l_MD_185 : Cond.methodLink gm_R_MD 185 gm_y_MD_addHead ∈ gm_W := gm_in (List.mem_append_right _ (List.mem_append_right _ (List.mem_append_right _ (List.mem_append_right _ (List.mem_append_right _ (List.mem_append_left _ (List.mem_of_getElem? (i := 143) rfl))))))) rfl
theorem gm_l_MD_221 : Cond.methodLink gm_R_MD 221 gm_y_MD_asked ∈ gm_W := gm_in (List.mem_append_right _ (List.mem_append_right _ (List.mem_append_right _ (List.mem_append_right _ (List.mem_append_right _ (List.mem_append_left _ (List.mem_of_getElem? (i := 159) rfl))))))) rfl
theorem gm_l_MD_224 : Cond.methodLink gm_R_MD 224 gm_y_MD_isInHead ∈ gm_W := gm_in (List.mem_append_right _ (List.mem_append_right _ (List.mem_append_right _ (List.mem_append_right _ (List.mem_append_right _ (List.mem_append_left _ (List.mem_of_getElem? (i := 167) rfl))))))) rfl
theorem gm_l_MD_228 : Cond.fieldLink gm_R_MD 228 "GrammarMachineModel" "fed" "I" ∈ gm_W := gm_in (List.mem_append_right _ (List.mem_append_right _ (List.mem_append_right _ (List.mem_append_right _ (List.mem_append_left _ (List.mem_of_getElem? (i := 172) rfl)))))) rfl
theorem gm_l_MD_284 : Cond.methodLink gm_R_MD 284 gm_y_MD_fill ∈ gm_W := gm_in (List.mem_append_right _ (List.mem_append_right _ (List.mem_append_right _ (List.mem_append_right _ (List.mem_append_right _ (List.mem_append_left _ (List.mem_of_getElem? (i := 183) rfl))))))) rfl
theorem gm_l_MD_278 : Cond.fieldLink gm_R_MD 278 "GrammarMachineModel" "nodes" "I" ∈ gm_W := gm_in (List.mem_append_right _ (List.mem_append_right _ (List.mem_append_right _ (List.mem_append_right _ (List.mem_append_left _ (List.mem_of_getElem? (i := 181) rfl)))))) rfl
theorem gm_l_MD_260 : Cond.methodLink gm_R_MD 260 gm_y_MD_costOf ∈ gm_W := gm_in (List.mem_append_right _ (List.mem_append_right _ (List.mem_append_right _ (List.mem_append_right _ (List.mem_append_right _ (List.mem_append_left _ (List.mem_of_getElem? (i := 215) rfl))))))) rfl
theorem gm_l_MD_287 : Cond.methodLink gm_R_MD 287 gm_y_MD_evaluations ∈ gm_W := gm_in (List.mem_append_right _ (List.mem_append_right _ (List.mem_append_right _ (List.mem_append_right _ (List.mem_append_right _ (List.mem_append_left _ (List.mem_of_getElem? (i := 231) rfl))))))) rfl
theorem gm_l_MD_290 : Cond.fieldLink gm_R_MD 290 "GrammarMachineModel" "work" "I" ∈ gm_W := gm_in (List.mem_append_right _ (List.mem_append_right _ (List.mem_append_right _ (List.mem_append_right _ (List.mem_append_left _ (List.mem_of_getElem? (i := 180) rfl)))))) rfl
theorem gm_l_MD_257 : Cond.methodLink gm_R_MD 257 gm_y_MD_taken ∈ gm_W := gm_in (List.mem_append_right _ (List.mem_append_right _ (List.mem_append_right _ (List.mem_append_right _ (List.mem_append_right _ (List.mem_append_left _ (List.mem_of_getElem? (i := 187) rfl))))))) rfl
theorem gm_l_MD_293 : Cond.methodLink gm_R_MD 293 gm_y_MD_gather ∈ gm_W := gm_in (List.mem_append_right _ (List.mem_append_right _ (List.mem_append_right _ (List.mem_append_right _ (List.mem_append_right _ (List.mem_append_right _ (List.mem_of_getElem? (i := 7) rfl))))))) rfl
theorem gm_l_MD_263 : Cond.methodLink gm_R_MD 263 gm_y_MD_workOut ∈ gm_W := gm_in (List.mem_append_right _ (List.mem_append_right _ (List.mem_append_right _ (List.mem_append_right _ (List.mem_append_right _ (List.mem_append_left _ (List.mem_of_getElem? (i := 195) rfl))))))) rfl
theorem gm_l_MD_231 : Cond.methodLink gm_R_MD 231 gm_y_MD_cell ∈ gm_W := gm_in (List.mem_append_right _ (List.mem_append_right _ (List.mem_append_right _ (List.mem_append_right _ (List.mem_append_right _ (List.mem_append_left _ (List.mem_of_getElem? (i := 191) rfl))))))) rfl
theorem gm_l_MD_234 : Cond.methodLink gm_R_MD 234 gm_y_MD_set ∈ gm_W := gm_in (List.mem_append_right _ (List.mem_append_right _ (List.mem_append_right _ (List.mem_append_right _ (List.mem_append_right _ (List.mem_append_left _ (List.mem_of_getElem? (i := 199) rfl))))))) rfl
theorem gm_l_MD_238 : Cond.methodLink gm_R_MD 238 gm_y_MD_isRow ∈ gm_W := gm_in (List.mem_append_right _ (List.mem_append_right _ (List.mem_append_right _ (List.mem_append_right _ (List.mem_append_right _ (List.mem_append_left _ (List.mem_of_getElem? (i := 203) rfl))))))) rfl
theorem gm_l_MD_241 : Cond.methodLink gm_R_MD 241 gm_y_MD_isOut ∈ gm_W := gm_in (List.mem_append_right _ (List.mem_append_right _ (List.mem_append_right _ (List.mem_append_right _ (List.mem_append_right _ (List.mem_append_left _ (List.mem_of_getElem? (i := 207) rfl))))))) rfl
theorem gm_l_MD_244 : Cond.methodLink gm_R_MD 244 gm_y_MD_workLike ∈ gm_W := gm_in (List.mem_append_right _ (List.mem_append_right _ (List.mem_append_right _ (List.mem_append_right _ (List.mem_append_right _ (List.mem_append_left _ (List.mem_of_getElem? (i := 211) rfl))))))) rfl
theorem gm_l_MD_248 : Cond.methodLink gm_R_MD 248 gm_y_MD_workPair ∈ gm_W := gm_in (List.mem_append_right _ (List.mem_append_right _ (List.mem_append_right _ (List.mem_append_right _ (List.mem_append_right _ (List.mem_append_left _ (List.mem_of_getElem? (i := 219) rfl))))))) rfl
theorem gm_l_MD_251 : Cond.methodLink gm_R_MD 251 gm_y_MD_workChoice ∈ gm_W := gm_in (List.mem_append_right _ (List.mem_append_right _ (List.mem_append_right _ (List.mem_append_right _ (List.mem_append_right _ (List.mem_append_left _ (List.mem_of_getElem? (i := 223) rfl))))))) rfl
theorem gm_l_MD_254 : Cond.methodLink gm_R_MD 254 gm_y_MD_workLoop ∈ gm_W := gm_in (List.mem_append_right _ (List.mem_append_right _ (List.mem_append_right _ (List.mem_append_right _ (List.mem_append_right _ (List.mem_append_left _ (List.mem_of_getElem? (i := 227) rfl))))))) rfl
theorem gm_l_MD_266 : Cond.fieldLink gm_R_MD 266 "GrammarMachineModel" "waits" "I" ∈ gm_W := gm_in (List.mem_append_right _ (List.mem_append_right _ (List.mem_append_right _ (List.mem_append_right _ (List.mem_append_left _ (List.mem_of_getElem? (i := 178) rfl)))))) rfl
theorem gm_l_MD_269 : Cond.methodLink gm_R_MD 269 gm_y_MD_come ∈ gm_W := gm_in (List.mem_append_right _ (List.mem_append_right _ (List.mem_append_right _ (List.mem_append_right _ (List.mem_append_right _ (List.mem_append_left _ (List.mem_of_getElem? (i := 235) rfl))))))) rfl
theorem gm_l_MD_272 : Cond.methodLink gm_R_MD 272 gm_y_MD_ruled ∈ gm_W := gm_in (List.mem_append_right _ (List.mem_append_right _ (List.mem_append_right _ (List.mem_append_right _ (List.mem_append_right _ (List.mem_append_left _ (List.mem_of_getElem? (i := 239) rfl))))))) rfl
theorem gm_l_MD_275 : Cond.methodLink gm_R_MD 275 gm_y_MD_isRuled ∈ gm_W := gm_in (List.mem_append_right _ (List.mem_append_right _ (List.mem_append_right _ (List.mem_append_right _ (List.mem_append_right _ (List.mem_append_right _ (List.mem_of_getElem? (i := 3) rfl))))))) rfl
theorem gm_l_MD_281 : Cond.methodLink gm_R_MD 281 gm_y_MD_hold ∈ gm_W := gm_in (List.mem_append_right _ (List.mem_append_right _ (List.mem_append_right _ (List.mem_append_right _ (List.mem_append_right _ (List.mem_append_right _ (List.mem_of_getElem? (i := 11) rfl))))))) rfl
