abbrev gm_b_Row_init : ByteArray := prog_8_method_1_code
def gm_y_Row_init : MethodName := ⟨gm_R_Row, "<init>", "(I)V"⟩
theorem gm_k_Row_init : Cond.code gm_y_Row_init gm_b_Row_init 2 none ∈ gm_W := gm_in (List.mem_append_right _ (List.mem_append_left _ (List.mem_of_getElem? (i := 32) rfl))) rfl
theorem gm_q_Row_init : Cond.instanceMethod gm_y_Row_init ∈ gm_W := gm_in (List.mem_append_right _ (List.mem_append_left _ (List.mem_of_getElem? (i := 31) rfl))) rfl
theorem gm_d_Row_init_0 : decode gm_b_Row_init 0 = .ok (.aload_n 0, 1) := by decide +kernel
theorem gm_d_Row_init_1 : decode gm_b_Row_init 1 = .ok (.invokespecial 3, 3) := by decide +kernel
theorem gm_d_Row_init_4 : decode gm_b_Row_init 4 = .ok (.aload_n 0, 1) := by decide +kernel
theorem gm_d_Row_init_5 : decode gm_b_Row_init 5 = .ok (.iconst 0, 1) := by decide +kernel
theorem gm_d_Row_init_6 : decode gm_b_Row_init 6 = .ok (.putfield 9, 3) := by decide +kernel
theorem gm_d_Row_init_9 : decode gm_b_Row_init 9 = .ok (.aload_n 0, 1) := by decide +kernel
theorem gm_d_Row_init_10 : decode gm_b_Row_init 10 = .ok (.iload_n 1, 1) := by decide +kernel
theorem gm_d_Row_init_11 : decode gm_b_Row_init 11 = .ok (.newarray .char, 2) := by decide +kernel
theorem gm_d_Row_init_13 : decode gm_b_Row_init 13 = .ok (.putfield 15, 3) := by decide +kernel
theorem gm_d_Row_init_16 : decode gm_b_Row_init 16 = .ok (.return_, 1) := by decide +kernel
abbrev gm_b_Captures_init : ByteArray := prog_2_method_1_code
def gm_y_Captures_init : MethodName := ⟨gm_R_Captures, "<init>", "(I)V"⟩
theorem gm_k_Captures_init : Cond.code gm_y_Captures_init gm_b_Captures_init 2 none ∈ gm_W := gm_in (List.mem_append_right _ (List.mem_append_left _ (List.mem_of_getElem? (i := 215) rfl))) rfl
theorem gm_q_Captures_init : Cond.instanceMethod gm_y_Captures_init ∈ gm_W := gm_in (List.mem_append_right _ (List.mem_append_left _ (List.mem_of_getElem? (i := 214) rfl))) rfl
theorem gm_d_Captures_init_0 : decode gm_b_Captures_init 0 = .ok (.aload_n 0, 1) := by decide +kernel
theorem gm_d_Captures_init_1 : decode gm_b_Captures_init 1 = .ok (.invokespecial 3, 3) := by decide +kernel
theorem gm_d_Captures_init_4 : decode gm_b_Captures_init 4 = .ok (.aload_n 0, 1) := by decide +kernel
theorem gm_d_Captures_init_5 : decode gm_b_Captures_init 5 = .ok (.iconst 0, 1) := by decide +kernel
theorem gm_d_Captures_init_6 : decode gm_b_Captures_init 6 = .ok (.putfield 9, 3) := by decide +kernel
theorem gm_d_Captures_init_9 : decode gm_b_Captures_init 9 = .ok (.aload_n 0, 1) := by decide +kernel
theorem gm_d_Captures_init_10 : decode gm_b_Captures_init 10 = .ok (.iload_n 1, 1) := by decide +kernel
theorem gm_d_Captures_init_11 : decode gm_b_Captures_init 11 = .ok (.newarray .int, 2) := by decide +kernel
theorem gm_d_Captures_init_13 : decode gm_b_Captures_init 13 = .ok (.putfield 15, 3) := by decide +kernel
theorem gm_d_Captures_init_16 : decode gm_b_Captures_init 16 = .ok (.aload_n 0, 1) := by decide +kernel
theorem gm_d_Captures_init_17 : decode gm_b_Captures_init 17 = .ok (.iload_n 1, 1) := by decide +kernel
theorem gm_d_Captures_init_18 : decode gm_b_Captures_init 18 = .ok (.newarray .int, 2) := by decide +kernel
theorem gm_d_Captures_init_20 : decode gm_b_Captures_init 20 = .ok (.putfield 19, 3) := by decide +kernel
theorem gm_d_Captures_init_23 : decode gm_b_Captures_init 23 = .ok (.return_, 1) := by decide +kernel
abbrev gm_b_Tree_init : ByteArray := prog_10_method_1_code
def gm_y_Tree_init : MethodName := ⟨gm_R_Tree, "<init>", "()V"⟩
theorem gm_k_Tree_init : Cond.code gm_y_Tree_init gm_b_Tree_init 1 none ∈ gm_W := gm_in (List.mem_append_right _ (List.mem_append_left _ (List.mem_of_getElem? (i := 54) rfl))) rfl
theorem gm_q_Tree_init : Cond.instanceMethod gm_y_Tree_init ∈ gm_W := gm_in (List.mem_append_right _ (List.mem_append_left _ (List.mem_of_getElem? (i := 53) rfl))) rfl
theorem gm_d_Tree_init_0 : decode gm_b_Tree_init 0 = .ok (.aload_n 0, 1) := by decide +kernel
theorem gm_d_Tree_init_1 : decode gm_b_Tree_init 1 = .ok (.invokespecial 3, 3) := by decide +kernel
theorem gm_d_Tree_init_4 : decode gm_b_Tree_init 4 = .ok (.aload_n 0, 1) := by decide +kernel
theorem gm_d_Tree_init_5 : decode gm_b_Tree_init 5 = .ok (.bipush 75, 2) := by decide +kernel
theorem gm_d_Tree_init_7 : decode gm_b_Tree_init 7 = .ok (.newarray .int, 2) := by decide +kernel
theorem gm_d_Tree_init_9 : decode gm_b_Tree_init 9 = .ok (.putfield 9, 3) := by decide +kernel
theorem gm_d_Tree_init_12 : decode gm_b_Tree_init 12 = .ok (.aload_n 0, 1) := by decide +kernel
theorem gm_d_Tree_init_13 : decode gm_b_Tree_init 13 = .ok (.bipush 75, 2) := by decide +kernel
theorem gm_d_Tree_init_15 : decode gm_b_Tree_init 15 = .ok (.newarray .int, 2) := by decide +kernel
theorem gm_d_Tree_init_17 : decode gm_b_Tree_init 17 = .ok (.putfield 15, 3) := by decide +kernel
theorem gm_d_Tree_init_20 : decode gm_b_Tree_init 20 = .ok (.aload_n 0, 1) := by decide +kernel
theorem gm_d_Tree_init_21 : decode gm_b_Tree_init 21 = .ok (.bipush 75, 2) := by decide +kernel
theorem gm_d_Tree_init_23 : decode gm_b_Tree_init 23 = .ok (.newarray .int, 2) := by decide +kernel
theorem gm_d_Tree_init_25 : decode gm_b_Tree_init 25 = .ok (.putfield 18, 3) := by decide +kernel
theorem gm_d_Tree_init_28 : decode gm_b_Tree_init 28 = .ok (.aload_n 0, 1) := by decide +kernel
theorem gm_d_Tree_init_29 : decode gm_b_Tree_init 29 = .ok (.bipush 75, 2) := by decide +kernel
theorem gm_d_Tree_init_31 : decode gm_b_Tree_init 31 = .ok (.newarray .int, 2) := by decide +kernel
theorem gm_d_Tree_init_33 : decode gm_b_Tree_init 33 = .ok (.putfield 21, 3) := by decide +kernel
theorem gm_d_Tree_init_36 : decode gm_b_Tree_init 36 = .ok (.aload_n 0, 1) := by decide +kernel
theorem gm_d_Tree_init_37 : decode gm_b_Tree_init 37 = .ok (.bipush 75, 2) := by decide +kernel
theorem gm_d_Tree_init_39 : decode gm_b_Tree_init 39 = .ok (.newarray .int, 2) := by decide +kernel
theorem gm_d_Tree_init_41 : decode gm_b_Tree_init 41 = .ok (.putfield 24, 3) := by decide +kernel
theorem gm_d_Tree_init_44 : decode gm_b_Tree_init 44 = .ok (.aload_n 0, 1) := by decide +kernel
theorem gm_d_Tree_init_45 : decode gm_b_Tree_init 45 = .ok (.bipush 75, 2) := by decide +kernel
theorem gm_d_Tree_init_47 : decode gm_b_Tree_init 47 = .ok (.newarray .boolean, 2) := by decide +kernel
theorem gm_d_Tree_init_49 : decode gm_b_Tree_init 49 = .ok (.putfield 27, 3) := by decide +kernel
theorem gm_d_Tree_init_52 : decode gm_b_Tree_init 52 = .ok (.aload_n 0, 1) := by decide +kernel
theorem gm_d_Tree_init_53 : decode gm_b_Tree_init 53 = .ok (.bipush 75, 2) := by decide +kernel
theorem gm_d_Tree_init_55 : decode gm_b_Tree_init 55 = .ok (.newarray .int, 2) := by decide +kernel
theorem gm_d_Tree_init_57 : decode gm_b_Tree_init 57 = .ok (.putfield 31, 3) := by decide +kernel
theorem gm_d_Tree_init_60 : decode gm_b_Tree_init 60 = .ok (.aload_n 0, 1) := by decide +kernel
theorem gm_d_Tree_init_61 : decode gm_b_Tree_init 61 = .ok (.bipush 75, 2) := by decide +kernel
theorem gm_d_Tree_init_63 : decode gm_b_Tree_init 63 = .ok (.newarray .long, 2) := by decide +kernel
theorem gm_d_Tree_init_65 : decode gm_b_Tree_init 65 = .ok (.putfield 34, 3) := by decide +kernel
theorem gm_d_Tree_init_68 : decode gm_b_Tree_init 68 = .ok (.aload_n 0, 1) := by decide +kernel
theorem gm_d_Tree_init_69 : decode gm_b_Tree_init 69 = .ok (.bipush 75, 2) := by decide +kernel
theorem gm_d_Tree_init_71 : decode gm_b_Tree_init 71 = .ok (.newarray .long, 2) := by decide +kernel
theorem gm_d_Tree_init_73 : decode gm_b_Tree_init 73 = .ok (.putfield 38, 3) := by decide +kernel
theorem gm_d_Tree_init_76 : decode gm_b_Tree_init 76 = .ok (.aload_n 0, 1) := by decide +kernel
theorem gm_d_Tree_init_77 : decode gm_b_Tree_init 77 = .ok (.bipush 8, 2) := by decide +kernel
theorem gm_d_Tree_init_79 : decode gm_b_Tree_init 79 = .ok (.newarray .int, 2) := by decide +kernel
theorem gm_d_Tree_init_81 : decode gm_b_Tree_init 81 = .ok (.putfield 41, 3) := by decide +kernel
theorem gm_d_Tree_init_84 : decode gm_b_Tree_init 84 = .ok (.aload_n 0, 1) := by decide +kernel
theorem gm_d_Tree_init_85 : decode gm_b_Tree_init 85 = .ok (.bipush 8, 2) := by decide +kernel
theorem gm_d_Tree_init_87 : decode gm_b_Tree_init 87 = .ok (.newarray .int, 2) := by decide +kernel
theorem gm_d_Tree_init_89 : decode gm_b_Tree_init 89 = .ok (.putfield 44, 3) := by decide +kernel
theorem gm_d_Tree_init_92 : decode gm_b_Tree_init 92 = .ok (.aload_n 0, 1) := by decide +kernel
theorem gm_d_Tree_init_93 : decode gm_b_Tree_init 93 = .ok (.iconst 0, 1) := by decide +kernel
theorem gm_d_Tree_init_94 : decode gm_b_Tree_init 94 = .ok (.putfield 47, 3) := by decide +kernel
theorem gm_d_Tree_init_97 : decode gm_b_Tree_init 97 = .ok (.aload_n 0, 1) := by decide +kernel
theorem gm_d_Tree_init_98 : decode gm_b_Tree_init 98 = .ok (.iconst 0, 1) := by decide +kernel
theorem gm_d_Tree_init_99 : decode gm_b_Tree_init 99 = .ok (.putfield 51, 3) := by decide +kernel
theorem gm_d_Tree_init_102 : decode gm_b_Tree_init 102 = .ok (.aload_n 0, 1) := by decide +kernel
theorem gm_d_Tree_init_103 : decode gm_b_Tree_init 103 = .ok (.iconst 0, 1) := by decide +kernel
theorem gm_d_Tree_init_104 : decode gm_b_Tree_init 104 = .ok (.putfield 54, 3) := by decide +kernel
theorem gm_d_Tree_init_107 : decode gm_b_Tree_init 107 = .ok (.return_, 1) := by decide +kernel
abbrev gm_b_Judge_init : ByteArray := prog_5_method_1_code
def gm_y_Judge_init : MethodName := ⟨gm_R_Judge, "<init>", "(LGrammarMachine$Tree;)V"⟩
theorem gm_k_Judge_init : Cond.code gm_y_Judge_init gm_b_Judge_init 2 none ∈ gm_W := gm_in (List.mem_append_right _ (List.mem_append_left _ (List.mem_of_getElem? (i := 130) rfl))) rfl
theorem gm_q_Judge_init : Cond.instanceMethod gm_y_Judge_init ∈ gm_W := gm_in (List.mem_append_right _ (List.mem_append_left _ (List.mem_of_getElem? (i := 129) rfl))) rfl
theorem gm_d_Judge_init_0 : decode gm_b_Judge_init 0 = .ok (.aload_n 0, 1) := by decide +kernel
theorem gm_d_Judge_init_1 : decode gm_b_Judge_init 1 = .ok (.invokespecial 3, 3) := by decide +kernel
theorem gm_d_Judge_init_4 : decode gm_b_Judge_init 4 = .ok (.aload_n 0, 1) := by decide +kernel
theorem gm_d_Judge_init_5 : decode gm_b_Judge_init 5 = .ok (.aload_n 1, 1) := by decide +kernel
theorem gm_d_Judge_init_6 : decode gm_b_Judge_init 6 = .ok (.putfield 9, 3) := by decide +kernel
theorem gm_d_Judge_init_9 : decode gm_b_Judge_init 9 = .ok (.return_, 1) := by decide +kernel
abbrev gm_b_Code_init : ByteArray := prog_3_method_1_code
def gm_y_Code_init : MethodName := ⟨gm_R_Code, "<init>", "(LGrammarMachine$Tree;)V"⟩
theorem gm_k_Code_init : Cond.code gm_y_Code_init gm_b_Code_init 2 none ∈ gm_W := gm_in (List.mem_append_right _ (List.mem_append_left _ (List.mem_of_getElem? (i := 140) rfl))) rfl
theorem gm_q_Code_init : Cond.instanceMethod gm_y_Code_init ∈ gm_W := gm_in (List.mem_append_right _ (List.mem_append_left _ (List.mem_of_getElem? (i := 139) rfl))) rfl
theorem gm_d_Code_init_0 : decode gm_b_Code_init 0 = .ok (.aload_n 0, 1) := by decide +kernel
theorem gm_d_Code_init_1 : decode gm_b_Code_init 1 = .ok (.invokespecial 3, 3) := by decide +kernel
theorem gm_d_Code_init_4 : decode gm_b_Code_init 4 = .ok (.aload_n 0, 1) := by decide +kernel
theorem gm_d_Code_init_5 : decode gm_b_Code_init 5 = .ok (.sipush 200, 3) := by decide +kernel
theorem gm_d_Code_init_8 : decode gm_b_Code_init 8 = .ok (.newarray .int, 2) := by decide +kernel
theorem gm_d_Code_init_10 : decode gm_b_Code_init 10 = .ok (.putfield 9, 3) := by decide +kernel
theorem gm_d_Code_init_13 : decode gm_b_Code_init 13 = .ok (.aload_n 0, 1) := by decide +kernel
theorem gm_d_Code_init_14 : decode gm_b_Code_init 14 = .ok (.sipush 200, 3) := by decide +kernel
theorem gm_d_Code_init_17 : decode gm_b_Code_init 17 = .ok (.newarray .int, 2) := by decide +kernel
theorem gm_d_Code_init_19 : decode gm_b_Code_init 19 = .ok (.putfield 15, 3) := by decide +kernel
theorem gm_d_Code_init_22 : decode gm_b_Code_init 22 = .ok (.aload_n 0, 1) := by decide +kernel
theorem gm_d_Code_init_23 : decode gm_b_Code_init 23 = .ok (.sipush 200, 3) := by decide +kernel
theorem gm_d_Code_init_26 : decode gm_b_Code_init 26 = .ok (.newarray .int, 2) := by decide +kernel
theorem gm_d_Code_init_28 : decode gm_b_Code_init 28 = .ok (.putfield 18, 3) := by decide +kernel
theorem gm_d_Code_init_31 : decode gm_b_Code_init 31 = .ok (.aload_n 0, 1) := by decide +kernel
theorem gm_d_Code_init_32 : decode gm_b_Code_init 32 = .ok (.bipush 8, 2) := by decide +kernel
theorem gm_d_Code_init_34 : decode gm_b_Code_init 34 = .ok (.newarray .int, 2) := by decide +kernel
theorem gm_d_Code_init_36 : decode gm_b_Code_init 36 = .ok (.putfield 21, 3) := by decide +kernel
theorem gm_d_Code_init_39 : decode gm_b_Code_init 39 = .ok (.aload_n 0, 1) := by decide +kernel
theorem gm_d_Code_init_40 : decode gm_b_Code_init 40 = .ok (.iconst 0, 1) := by decide +kernel
theorem gm_d_Code_init_41 : decode gm_b_Code_init 41 = .ok (.putfield 24, 3) := by decide +kernel
theorem gm_d_Code_init_44 : decode gm_b_Code_init 44 = .ok (.aload_n 0, 1) := by decide +kernel
theorem gm_d_Code_init_45 : decode gm_b_Code_init 45 = .ok (.aload_n 1, 1) := by decide +kernel
theorem gm_d_Code_init_46 : decode gm_b_Code_init 46 = .ok (.putfield 28, 3) := by decide +kernel
theorem gm_d_Code_init_49 : decode gm_b_Code_init 49 = .ok (.return_, 1) := by decide +kernel
abbrev gm_b_Reader_init : ByteArray := prog_7_method_1_code
def gm_y_Reader_init : MethodName := ⟨gm_R_Reader, "<init>", "(LGrammarMachine$Row;LGrammarMachine$Tree;)V"⟩
theorem gm_k_Reader_init : Cond.code gm_y_Reader_init gm_b_Reader_init 3 none ∈ gm_W := gm_in (List.mem_append_right _ (List.mem_append_left _ (List.mem_of_getElem? (i := 165) rfl))) rfl
theorem gm_q_Reader_init : Cond.instanceMethod gm_y_Reader_init ∈ gm_W := gm_in (List.mem_append_right _ (List.mem_append_left _ (List.mem_of_getElem? (i := 164) rfl))) rfl
theorem gm_d_Reader_init_0 : decode gm_b_Reader_init 0 = .ok (.aload_n 0, 1) := by decide +kernel
theorem gm_d_Reader_init_1 : decode gm_b_Reader_init 1 = .ok (.invokespecial 3, 3) := by decide +kernel
theorem gm_d_Reader_init_4 : decode gm_b_Reader_init 4 = .ok (.aload_n 0, 1) := by decide +kernel
theorem gm_d_Reader_init_5 : decode gm_b_Reader_init 5 = .ok (.bipush 75, 2) := by decide +kernel
theorem gm_d_Reader_init_7 : decode gm_b_Reader_init 7 = .ok (.newarray .int, 2) := by decide +kernel
theorem gm_d_Reader_init_9 : decode gm_b_Reader_init 9 = .ok (.putfield 9, 3) := by decide +kernel
theorem gm_d_Reader_init_12 : decode gm_b_Reader_init 12 = .ok (.aload_n 0, 1) := by decide +kernel
theorem gm_d_Reader_init_13 : decode gm_b_Reader_init 13 = .ok (.iconst 0, 1) := by decide +kernel
theorem gm_d_Reader_init_14 : decode gm_b_Reader_init 14 = .ok (.putfield 15, 3) := by decide +kernel
theorem gm_d_Reader_init_17 : decode gm_b_Reader_init 17 = .ok (.aload_n 0, 1) := by decide +kernel
theorem gm_d_Reader_init_18 : decode gm_b_Reader_init 18 = .ok (.iconst 0, 1) := by decide +kernel
theorem gm_d_Reader_init_19 : decode gm_b_Reader_init 19 = .ok (.putfield 19, 3) := by decide +kernel
theorem gm_d_Reader_init_22 : decode gm_b_Reader_init 22 = .ok (.aload_n 0, 1) := by decide +kernel
theorem gm_d_Reader_init_23 : decode gm_b_Reader_init 23 = .ok (.iconst 0, 1) := by decide +kernel
theorem gm_d_Reader_init_24 : decode gm_b_Reader_init 24 = .ok (.putfield 22, 3) := by decide +kernel
theorem gm_d_Reader_init_27 : decode gm_b_Reader_init 27 = .ok (.aload_n 0, 1) := by decide +kernel
theorem gm_d_Reader_init_28 : decode gm_b_Reader_init 28 = .ok (.aload_n 1, 1) := by decide +kernel
theorem gm_d_Reader_init_29 : decode gm_b_Reader_init 29 = .ok (.putfield 26, 3) := by decide +kernel
theorem gm_d_Reader_init_32 : decode gm_b_Reader_init 32 = .ok (.aload_n 0, 1) := by decide +kernel
theorem gm_d_Reader_init_33 : decode gm_b_Reader_init 33 = .ok (.aload_n 2, 1) := by decide +kernel
theorem gm_d_Reader_init_34 : decode gm_b_Reader_init 34 = .ok (.putfield 30, 3) := by decide +kernel
theorem gm_d_Reader_init_37 : decode gm_b_Reader_init 37 = .ok (.return_, 1) := by decide +kernel
abbrev gm_b_Grammar_init : ByteArray := prog_4_method_1_code
def gm_y_Grammar_init : MethodName := ⟨gm_R_Grammar, "<init>", "(LGrammarMachine$Row;)V"⟩
theorem gm_k_Grammar_init : Cond.code gm_y_Grammar_init gm_b_Grammar_init 2 none ∈ gm_W := gm_in (List.mem_append_right _ (List.mem_append_left _ (List.mem_of_getElem? (i := 48) rfl))) rfl
theorem gm_q_Grammar_init : Cond.instanceMethod gm_y_Grammar_init ∈ gm_W := gm_in (List.mem_append_right _ (List.mem_append_left _ (List.mem_of_getElem? (i := 47) rfl))) rfl
theorem gm_d_Grammar_init_0 : decode gm_b_Grammar_init 0 = .ok (.aload_n 0, 1) := by decide +kernel
theorem gm_d_Grammar_init_1 : decode gm_b_Grammar_init 1 = .ok (.invokespecial 1, 3) := by decide +kernel
theorem gm_d_Grammar_init_4 : decode gm_b_Grammar_init 4 = .ok (.aload_n 0, 1) := by decide +kernel
theorem gm_d_Grammar_init_5 : decode gm_b_Grammar_init 5 = .ok (.new 7, 3) := by decide +kernel
theorem gm_d_Grammar_init_8 : decode gm_b_Grammar_init 8 = .ok (.dup, 1) := by decide +kernel
theorem gm_d_Grammar_init_9 : decode gm_b_Grammar_init 9 = .ok (.invokespecial 9, 3) := by decide +kernel
theorem gm_d_Grammar_init_12 : decode gm_b_Grammar_init 12 = .ok (.putfield 10, 3) := by decide +kernel
theorem gm_d_Grammar_init_15 : decode gm_b_Grammar_init 15 = .ok (.aload_n 0, 1) := by decide +kernel
theorem gm_d_Grammar_init_16 : decode gm_b_Grammar_init 16 = .ok (.new 16, 3) := by decide +kernel
theorem gm_d_Grammar_init_19 : decode gm_b_Grammar_init 19 = .ok (.dup, 1) := by decide +kernel
theorem gm_d_Grammar_init_20 : decode gm_b_Grammar_init 20 = .ok (.aload_n 0, 1) := by decide +kernel
theorem gm_d_Grammar_init_21 : decode gm_b_Grammar_init 21 = .ok (.getfield 10, 3) := by decide +kernel
theorem gm_d_Grammar_init_24 : decode gm_b_Grammar_init 24 = .ok (.invokespecial 18, 3) := by decide +kernel
theorem gm_d_Grammar_init_27 : decode gm_b_Grammar_init 27 = .ok (.putfield 21, 3) := by decide +kernel
theorem gm_d_Grammar_init_30 : decode gm_b_Grammar_init 30 = .ok (.aload_n 0, 1) := by decide +kernel
theorem gm_d_Grammar_init_31 : decode gm_b_Grammar_init 31 = .ok (.new 25, 3) := by decide +kernel
theorem gm_d_Grammar_init_34 : decode gm_b_Grammar_init 34 = .ok (.dup, 1) := by decide +kernel
theorem gm_d_Grammar_init_35 : decode gm_b_Grammar_init 35 = .ok (.aload_n 0, 1) := by decide +kernel
theorem gm_d_Grammar_init_36 : decode gm_b_Grammar_init 36 = .ok (.getfield 10, 3) := by decide +kernel
theorem gm_d_Grammar_init_39 : decode gm_b_Grammar_init 39 = .ok (.invokespecial 27, 3) := by decide +kernel
theorem gm_d_Grammar_init_42 : decode gm_b_Grammar_init 42 = .ok (.putfield 28, 3) := by decide +kernel
theorem gm_d_Grammar_init_45 : decode gm_b_Grammar_init 45 = .ok (.aload_n 0, 1) := by decide +kernel
theorem gm_d_Grammar_init_46 : decode gm_b_Grammar_init 46 = .ok (.new 32, 3) := by decide +kernel
theorem gm_d_Grammar_init_49 : decode gm_b_Grammar_init 49 = .ok (.dup, 1) := by decide +kernel
theorem gm_d_Grammar_init_50 : decode gm_b_Grammar_init 50 = .ok (.aload_n 1, 1) := by decide +kernel
theorem gm_d_Grammar_init_51 : decode gm_b_Grammar_init 51 = .ok (.aload_n 0, 1) := by decide +kernel
theorem gm_d_Grammar_init_52 : decode gm_b_Grammar_init 52 = .ok (.getfield 10, 3) := by decide +kernel
theorem gm_d_Grammar_init_55 : decode gm_b_Grammar_init 55 = .ok (.invokespecial 34, 3) := by decide +kernel
theorem gm_d_Grammar_init_58 : decode gm_b_Grammar_init 58 = .ok (.putfield 37, 3) := by decide +kernel
theorem gm_d_Grammar_init_61 : decode gm_b_Grammar_init 61 = .ok (.return_, 1) := by decide +kernel
abbrev gm_b_Memory_init : ByteArray := prog_6_method_1_code
def gm_y_Memory_init : MethodName := ⟨gm_R_Memory, "<init>", "()V"⟩
theorem gm_k_Memory_init : Cond.code gm_y_Memory_init gm_b_Memory_init 1 none ∈ gm_W := gm_in (List.mem_append_right _ (List.mem_append_left _ (List.mem_of_getElem? (i := 236) rfl))) rfl
theorem gm_q_Memory_init : Cond.instanceMethod gm_y_Memory_init ∈ gm_W := gm_in (List.mem_append_right _ (List.mem_append_left _ (List.mem_of_getElem? (i := 235) rfl))) rfl
theorem gm_d_Memory_init_0 : decode gm_b_Memory_init 0 = .ok (.aload_n 0, 1) := by decide +kernel
theorem gm_d_Memory_init_1 : decode gm_b_Memory_init 1 = .ok (.invokespecial 3, 3) := by decide +kernel
theorem gm_d_Memory_init_4 : decode gm_b_Memory_init 4 = .ok (.aload_n 0, 1) := by decide +kernel
theorem gm_d_Memory_init_5 : decode gm_b_Memory_init 5 = .ok (.bipush 88, 2) := by decide +kernel
theorem gm_d_Memory_init_7 : decode gm_b_Memory_init 7 = .ok (.newarray .int, 2) := by decide +kernel
theorem gm_d_Memory_init_9 : decode gm_b_Memory_init 9 = .ok (.putfield 9, 3) := by decide +kernel
theorem gm_d_Memory_init_12 : decode gm_b_Memory_init 12 = .ok (.aload_n 0, 1) := by decide +kernel
theorem gm_d_Memory_init_13 : decode gm_b_Memory_init 13 = .ok (.bipush 88, 2) := by decide +kernel
theorem gm_d_Memory_init_15 : decode gm_b_Memory_init 15 = .ok (.newarray .int, 2) := by decide +kernel
theorem gm_d_Memory_init_17 : decode gm_b_Memory_init 17 = .ok (.putfield 15, 3) := by decide +kernel
theorem gm_d_Memory_init_20 : decode gm_b_Memory_init 20 = .ok (.aload_n 0, 1) := by decide +kernel
theorem gm_d_Memory_init_21 : decode gm_b_Memory_init 21 = .ok (.bipush 88, 2) := by decide +kernel
theorem gm_d_Memory_init_23 : decode gm_b_Memory_init 23 = .ok (.newarray .int, 2) := by decide +kernel
theorem gm_d_Memory_init_25 : decode gm_b_Memory_init 25 = .ok (.putfield 18, 3) := by decide +kernel
theorem gm_d_Memory_init_28 : decode gm_b_Memory_init 28 = .ok (.aload_n 0, 1) := by decide +kernel
theorem gm_d_Memory_init_29 : decode gm_b_Memory_init 29 = .ok (.new 21, 3) := by decide +kernel
theorem gm_d_Memory_init_32 : decode gm_b_Memory_init 32 = .ok (.dup, 1) := by decide +kernel
theorem gm_d_Memory_init_33 : decode gm_b_Memory_init 33 = .ok (.sipush 5720, 3) := by decide +kernel
theorem gm_d_Memory_init_36 : decode gm_b_Memory_init 36 = .ok (.invokespecial 23, 3) := by decide +kernel
theorem gm_d_Memory_init_39 : decode gm_b_Memory_init 39 = .ok (.putfield 26, 3) := by decide +kernel
theorem gm_d_Memory_init_42 : decode gm_b_Memory_init 42 = .ok (.return_, 1) := by decide +kernel
abbrev gm_b_Runner_init : ByteArray := prog_9_method_1_code
def gm_y_Runner_init : MethodName := ⟨gm_R_Runner, "<init>", "(LGrammarMachine$Row;LGrammarMachine$Grammar;)V"⟩
theorem gm_k_Runner_init : Cond.code gm_y_Runner_init gm_b_Runner_init 3 none ∈ gm_W := gm_in (List.mem_append_right _ (List.mem_append_left _ (List.mem_of_getElem? (i := 209) rfl))) rfl
theorem gm_q_Runner_init : Cond.instanceMethod gm_y_Runner_init ∈ gm_W := gm_in (List.mem_append_right _ (List.mem_append_left _ (List.mem_of_getElem? (i := 208) rfl))) rfl
theorem gm_d_Runner_init_0 : decode gm_b_Runner_init 0 = .ok (.aload_n 0, 1) := by decide +kernel
theorem gm_d_Runner_init_1 : decode gm_b_Runner_init 1 = .ok (.invokespecial 3, 3) := by decide +kernel
theorem gm_d_Runner_init_4 : decode gm_b_Runner_init 4 = .ok (.aload_n 0, 1) := by decide +kernel
theorem gm_d_Runner_init_5 : decode gm_b_Runner_init 5 = .ok (.new 9, 3) := by decide +kernel
theorem gm_d_Runner_init_8 : decode gm_b_Runner_init 8 = .ok (.dup, 1) := by decide +kernel
theorem gm_d_Runner_init_9 : decode gm_b_Runner_init 9 = .ok (.sipush 275, 3) := by decide +kernel
theorem gm_d_Runner_init_12 : decode gm_b_Runner_init 12 = .ok (.invokespecial 11, 3) := by decide +kernel
theorem gm_d_Runner_init_15 : decode gm_b_Runner_init 15 = .ok (.putfield 14, 3) := by decide +kernel
theorem gm_d_Runner_init_18 : decode gm_b_Runner_init 18 = .ok (.aload_n 0, 1) := by decide +kernel
theorem gm_d_Runner_init_19 : decode gm_b_Runner_init 19 = .ok (.new 20, 3) := by decide +kernel
theorem gm_d_Runner_init_22 : decode gm_b_Runner_init 22 = .ok (.dup, 1) := by decide +kernel
theorem gm_d_Runner_init_23 : decode gm_b_Runner_init 23 = .ok (.invokespecial 22, 3) := by decide +kernel
theorem gm_d_Runner_init_26 : decode gm_b_Runner_init 26 = .ok (.putfield 23, 3) := by decide +kernel
theorem gm_d_Runner_init_29 : decode gm_b_Runner_init 29 = .ok (.aload_n 0, 1) := by decide +kernel
theorem gm_d_Runner_init_30 : decode gm_b_Runner_init 30 = .ok (.sipush 550, 3) := by decide +kernel
theorem gm_d_Runner_init_33 : decode gm_b_Runner_init 33 = .ok (.newarray .int, 2) := by decide +kernel
theorem gm_d_Runner_init_35 : decode gm_b_Runner_init 35 = .ok (.putfield 27, 3) := by decide +kernel
theorem gm_d_Runner_init_38 : decode gm_b_Runner_init 38 = .ok (.aload_n 0, 1) := by decide +kernel
theorem gm_d_Runner_init_39 : decode gm_b_Runner_init 39 = .ok (.sipush 550, 3) := by decide +kernel
theorem gm_d_Runner_init_42 : decode gm_b_Runner_init 42 = .ok (.newarray .int, 2) := by decide +kernel
theorem gm_d_Runner_init_44 : decode gm_b_Runner_init 44 = .ok (.putfield 31, 3) := by decide +kernel
theorem gm_d_Runner_init_47 : decode gm_b_Runner_init 47 = .ok (.aload_n 0, 1) := by decide +kernel
theorem gm_d_Runner_init_48 : decode gm_b_Runner_init 48 = .ok (.sipush 550, 3) := by decide +kernel
theorem gm_d_Runner_init_51 : decode gm_b_Runner_init 51 = .ok (.newarray .int, 2) := by decide +kernel
theorem gm_d_Runner_init_53 : decode gm_b_Runner_init 53 = .ok (.putfield 34, 3) := by decide +kernel
theorem gm_d_Runner_init_56 : decode gm_b_Runner_init 56 = .ok (.aload_n 0, 1) := by decide +kernel
theorem gm_d_Runner_init_57 : decode gm_b_Runner_init 57 = .ok (.sipush 550, 3) := by decide +kernel
theorem gm_d_Runner_init_60 : decode gm_b_Runner_init 60 = .ok (.newarray .int, 2) := by decide +kernel
theorem gm_d_Runner_init_62 : decode gm_b_Runner_init 62 = .ok (.putfield 37, 3) := by decide +kernel
theorem gm_d_Runner_init_65 : decode gm_b_Runner_init 65 = .ok (.aload_n 0, 1) := by decide +kernel
theorem gm_d_Runner_init_66 : decode gm_b_Runner_init 66 = .ok (.iconst 0, 1) := by decide +kernel
theorem gm_d_Runner_init_67 : decode gm_b_Runner_init 67 = .ok (.putfield 40, 3) := by decide +kernel
theorem gm_d_Runner_init_70 : decode gm_b_Runner_init 70 = .ok (.aload_n 0, 1) := by decide +kernel
theorem gm_d_Runner_init_71 : decode gm_b_Runner_init 71 = .ok (.iconst 0, 1) := by decide +kernel
theorem gm_d_Runner_init_72 : decode gm_b_Runner_init 72 = .ok (.putfield 44, 3) := by decide +kernel
theorem gm_d_Runner_init_75 : decode gm_b_Runner_init 75 = .ok (.aload_n 0, 1) := by decide +kernel
theorem gm_d_Runner_init_76 : decode gm_b_Runner_init 76 = .ok (.iconst 2, 1) := by decide +kernel
theorem gm_d_Runner_init_77 : decode gm_b_Runner_init 77 = .ok (.putfield 48, 3) := by decide +kernel
theorem gm_d_Runner_init_80 : decode gm_b_Runner_init 80 = .ok (.aload_n 0, 1) := by decide +kernel
theorem gm_d_Runner_init_81 : decode gm_b_Runner_init 81 = .ok (.iconst 0, 1) := by decide +kernel
theorem gm_d_Runner_init_82 : decode gm_b_Runner_init 82 = .ok (.putfield 51, 3) := by decide +kernel
theorem gm_d_Runner_init_85 : decode gm_b_Runner_init 85 = .ok (.aload_n 0, 1) := by decide +kernel
theorem gm_d_Runner_init_86 : decode gm_b_Runner_init 86 = .ok (.iconst 0, 1) := by decide +kernel
theorem gm_d_Runner_init_87 : decode gm_b_Runner_init 87 = .ok (.putfield 54, 3) := by decide +kernel
theorem gm_d_Runner_init_90 : decode gm_b_Runner_init 90 = .ok (.aload_n 0, 1) := by decide +kernel
theorem gm_d_Runner_init_91 : decode gm_b_Runner_init 91 = .ok (.iconst 0, 1) := by decide +kernel
theorem gm_d_Runner_init_92 : decode gm_b_Runner_init 92 = .ok (.putfield 57, 3) := by decide +kernel
theorem gm_d_Runner_init_95 : decode gm_b_Runner_init 95 = .ok (.aload_n 0, 1) := by decide +kernel
theorem gm_d_Runner_init_96 : decode gm_b_Runner_init 96 = .ok (.aload_n 1, 1) := by decide +kernel
theorem gm_d_Runner_init_97 : decode gm_b_Runner_init 97 = .ok (.putfield 60, 3) := by decide +kernel
theorem gm_d_Runner_init_100 : decode gm_b_Runner_init 100 = .ok (.aload_n 0, 1) := by decide +kernel
theorem gm_d_Runner_init_101 : decode gm_b_Runner_init 101 = .ok (.aload_n 2, 1) := by decide +kernel
theorem gm_d_Runner_init_102 : decode gm_b_Runner_init 102 = .ok (.getfield 64, 3) := by decide +kernel
theorem gm_d_Runner_init_105 : decode gm_b_Runner_init 105 = .ok (.putfield 70, 3) := by decide +kernel
theorem gm_d_Runner_init_108 : decode gm_b_Runner_init 108 = .ok (.aload_n 0, 1) := by decide +kernel
theorem gm_d_Runner_init_109 : decode gm_b_Runner_init 109 = .ok (.aload_n 2, 1) := by decide +kernel
theorem gm_d_Runner_init_110 : decode gm_b_Runner_init 110 = .ok (.getfield 71, 3) := by decide +kernel
theorem gm_d_Runner_init_113 : decode gm_b_Runner_init 113 = .ok (.putfield 75, 3) := by decide +kernel
theorem gm_d_Runner_init_116 : decode gm_b_Runner_init 116 = .ok (.return_, 1) := by decide +kernel
abbrev gm_b_GM_init : ByteArray := prog_1_method_1_code
def gm_y_GM_init : MethodName := ⟨gm_R_GM, "<init>", "()V"⟩
theorem gm_k_GM_init : Cond.code gm_y_GM_init gm_b_GM_init 1 none ∈ gm_W := gm_in (List.mem_append_right _ (List.mem_append_left _ (List.mem_of_getElem? (i := 24) rfl))) rfl
theorem gm_q_GM_init : Cond.instanceMethod gm_y_GM_init ∈ gm_W := gm_in (List.mem_append_right _ (List.mem_append_left _ (List.mem_of_getElem? (i := 23) rfl))) rfl
theorem gm_d_GM_init_0 : decode gm_b_GM_init 0 = .ok (.aload_n 0, 1) := by decide +kernel
theorem gm_d_GM_init_1 : decode gm_b_GM_init 1 = .ok (.invokespecial 3, 3) := by decide +kernel
theorem gm_d_GM_init_4 : decode gm_b_GM_init 4 = .ok (.aload_n 0, 1) := by decide +kernel
theorem gm_d_GM_init_5 : decode gm_b_GM_init 5 = .ok (.new 9, 3) := by decide +kernel
theorem gm_d_GM_init_8 : decode gm_b_GM_init 8 = .ok (.dup, 1) := by decide +kernel
theorem gm_d_GM_init_9 : decode gm_b_GM_init 9 = .ok (.bipush 50, 2) := by decide +kernel
theorem gm_d_GM_init_11 : decode gm_b_GM_init 11 = .ok (.invokespecial 11, 3) := by decide +kernel
theorem gm_d_GM_init_14 : decode gm_b_GM_init 14 = .ok (.putfield 14, 3) := by decide +kernel
theorem gm_d_GM_init_17 : decode gm_b_GM_init 17 = .ok (.aload_n 0, 1) := by decide +kernel
theorem gm_d_GM_init_18 : decode gm_b_GM_init 18 = .ok (.new 9, 3) := by decide +kernel
theorem gm_d_GM_init_21 : decode gm_b_GM_init 21 = .ok (.dup, 1) := by decide +kernel
theorem gm_d_GM_init_22 : decode gm_b_GM_init 22 = .ok (.bipush 10, 2) := by decide +kernel
theorem gm_d_GM_init_24 : decode gm_b_GM_init 24 = .ok (.invokespecial 11, 3) := by decide +kernel
theorem gm_d_GM_init_27 : decode gm_b_GM_init 27 = .ok (.putfield 18, 3) := by decide +kernel
theorem gm_d_GM_init_30 : decode gm_b_GM_init 30 = .ok (.aload_n 0, 1) := by decide +kernel
theorem gm_d_GM_init_31 : decode gm_b_GM_init 31 = .ok (.new 21, 3) := by decide +kernel
theorem gm_d_GM_init_34 : decode gm_b_GM_init 34 = .ok (.dup, 1) := by decide +kernel
theorem gm_d_GM_init_35 : decode gm_b_GM_init 35 = .ok (.aload_n 0, 1) := by decide +kernel
theorem gm_d_GM_init_36 : decode gm_b_GM_init 36 = .ok (.getfield 14, 3) := by decide +kernel
theorem gm_d_GM_init_39 : decode gm_b_GM_init 39 = .ok (.invokespecial 23, 3) := by decide +kernel
theorem gm_d_GM_init_42 : decode gm_b_GM_init 42 = .ok (.putfield 26, 3) := by decide +kernel
theorem gm_d_GM_init_45 : decode gm_b_GM_init 45 = .ok (.aload_n 0, 1) := by decide +kernel
theorem gm_d_GM_init_46 : decode gm_b_GM_init 46 = .ok (.new 21, 3) := by decide +kernel
theorem gm_d_GM_init_49 : decode gm_b_GM_init 49 = .ok (.dup, 1) := by decide +kernel
theorem gm_d_GM_init_50 : decode gm_b_GM_init 50 = .ok (.aload_n 0, 1) := by decide +kernel
theorem gm_d_GM_init_51 : decode gm_b_GM_init 51 = .ok (.getfield 14, 3) := by decide +kernel
theorem gm_d_GM_init_54 : decode gm_b_GM_init 54 = .ok (.invokespecial 23, 3) := by decide +kernel
theorem gm_d_GM_init_57 : decode gm_b_GM_init 57 = .ok (.putfield 30, 3) := by decide +kernel
theorem gm_d_GM_init_60 : decode gm_b_GM_init 60 = .ok (.aload_n 0, 1) := by decide +kernel
theorem gm_d_GM_init_61 : decode gm_b_GM_init 61 = .ok (.new 33, 3) := by decide +kernel
theorem gm_d_GM_init_64 : decode gm_b_GM_init 64 = .ok (.dup, 1) := by decide +kernel
theorem gm_d_GM_init_65 : decode gm_b_GM_init 65 = .ok (.aload_n 0, 1) := by decide +kernel
theorem gm_d_GM_init_66 : decode gm_b_GM_init 66 = .ok (.getfield 18, 3) := by decide +kernel
theorem gm_d_GM_init_69 : decode gm_b_GM_init 69 = .ok (.aload_n 0, 1) := by decide +kernel
theorem gm_d_GM_init_70 : decode gm_b_GM_init 70 = .ok (.getfield 26, 3) := by decide +kernel
theorem gm_d_GM_init_73 : decode gm_b_GM_init 73 = .ok (.invokespecial 35, 3) := by decide +kernel
theorem gm_d_GM_init_76 : decode gm_b_GM_init 76 = .ok (.putfield 38, 3) := by decide +kernel
theorem gm_d_GM_init_79 : decode gm_b_GM_init 79 = .ok (.aload_n 0, 1) := by decide +kernel
theorem gm_d_GM_init_80 : decode gm_b_GM_init 80 = .ok (.iconst 0, 1) := by decide +kernel
theorem gm_d_GM_init_81 : decode gm_b_GM_init 81 = .ok (.putfield 42, 3) := by decide +kernel
theorem gm_d_GM_init_84 : decode gm_b_GM_init 84 = .ok (.aload_n 0, 1) := by decide +kernel
theorem gm_d_GM_init_85 : decode gm_b_GM_init 85 = .ok (.iconst 0, 1) := by decide +kernel
theorem gm_d_GM_init_86 : decode gm_b_GM_init 86 = .ok (.putfield 46, 3) := by decide +kernel
theorem gm_d_GM_init_89 : decode gm_b_GM_init 89 = .ok (.aload_n 0, 1) := by decide +kernel
theorem gm_d_GM_init_90 : decode gm_b_GM_init 90 = .ok (.iconst (-1), 1) := by decide +kernel
theorem gm_d_GM_init_91 : decode gm_b_GM_init 91 = .ok (.putfield 49, 3) := by decide +kernel
theorem gm_d_GM_init_94 : decode gm_b_GM_init 94 = .ok (.return_, 1) := by decide +kernel
theorem gm_l_Row_3 : Cond.methodLink gm_R_Row 3 objectInit ∈ gm_W := gm_in (List.mem_append_right _ (List.mem_append_left _ (List.mem_of_getElem? (i := 33) rfl))) rfl
theorem gm_l_Row_9 : Cond.fieldLink gm_R_Row 9 "GrammarMachine$Row" "size" "I" ∈ gm_W := gm_in (List.mem_append_right _ (List.mem_append_left _ (List.mem_of_getElem? (i := 35) rfl))) rfl
theorem gm_l_Row_15 : Cond.fieldLink gm_R_Row 15 "GrammarMachine$Row" "characters" "[C" ∈ gm_W := gm_in (List.mem_append_right _ (List.mem_append_left _ (List.mem_of_getElem? (i := 34) rfl))) rfl
theorem gm_l_Captures_3 : Cond.methodLink gm_R_Captures 3 objectInit ∈ gm_W := gm_in (List.mem_append_right _ (List.mem_append_left _ (List.mem_of_getElem? (i := 216) rfl))) rfl
theorem gm_l_Captures_9 : Cond.fieldLink gm_R_Captures 9 "GrammarMachine$Captures" "size" "I" ∈ gm_W := gm_in (List.mem_append_right _ (List.mem_append_left _ (List.mem_of_getElem? (i := 221) rfl))) rfl
theorem gm_l_Captures_15 : Cond.fieldLink gm_R_Captures 15 "GrammarMachine$Captures" "begins" "[I" ∈ gm_W := gm_in (List.mem_append_right _ (List.mem_append_left _ (List.mem_of_getElem? (i := 217) rfl))) rfl
theorem gm_l_Captures_19 : Cond.fieldLink gm_R_Captures 19 "GrammarMachine$Captures" "ends" "[I" ∈ gm_W := gm_in (List.mem_append_right _ (List.mem_append_left _ (List.mem_of_getElem? (i := 219) rfl))) rfl
theorem gm_l_Tree_3 : Cond.methodLink gm_R_Tree 3 objectInit ∈ gm_W := gm_in (List.mem_append_right _ (List.mem_append_left _ (List.mem_of_getElem? (i := 55) rfl))) rfl
theorem gm_l_Tree_9 : Cond.fieldLink gm_R_Tree 9 "GrammarMachine$Tree" "kinds" "[I" ∈ gm_W := gm_in (List.mem_append_right _ (List.mem_append_left _ (List.mem_of_getElem? (i := 56) rfl))) rfl
theorem gm_l_Tree_15 : Cond.fieldLink gm_R_Tree 15 "GrammarMachine$Tree" "letters" "[I" ∈ gm_W := gm_in (List.mem_append_right _ (List.mem_append_left _ (List.mem_of_getElem? (i := 59) rfl))) rfl
theorem gm_l_Tree_18 : Cond.fieldLink gm_R_Tree 18 "GrammarMachine$Tree" "partsFrom" "[I" ∈ gm_W := gm_in (List.mem_append_right _ (List.mem_append_left _ (List.mem_of_getElem? (i := 62) rfl))) rfl
theorem gm_l_Tree_21 : Cond.fieldLink gm_R_Tree 21 "GrammarMachine$Tree" "partsTo" "[I" ∈ gm_W := gm_in (List.mem_append_right _ (List.mem_append_left _ (List.mem_of_getElem? (i := 65) rfl))) rfl
theorem gm_l_Tree_24 : Cond.fieldLink gm_R_Tree 24 "GrammarMachine$Tree" "parts" "[I" ∈ gm_W := gm_in (List.mem_append_right _ (List.mem_append_left _ (List.mem_of_getElem? (i := 68) rfl))) rfl
theorem gm_l_Tree_27 : Cond.fieldLink gm_R_Tree 27 "GrammarMachine$Tree" "canBeEmpty" "[Z" ∈ gm_W := gm_in (List.mem_append_right _ (List.mem_append_left _ (List.mem_of_getElem? (i := 71) rfl))) rfl
theorem gm_l_Tree_31 : Cond.fieldLink gm_R_Tree 31 "GrammarMachine$Tree" "beginnings" "[I" ∈ gm_W := gm_in (List.mem_append_right _ (List.mem_append_left _ (List.mem_of_getElem? (i := 75) rfl))) rfl
theorem gm_l_Tree_34 : Cond.fieldLink gm_R_Tree 34 "GrammarMachine$Tree" "lowHeads" "[J" ∈ gm_W := gm_in (List.mem_append_right _ (List.mem_append_left _ (List.mem_of_getElem? (i := 77) rfl))) rfl
theorem gm_l_Tree_38 : Cond.fieldLink gm_R_Tree 38 "GrammarMachine$Tree" "highHeads" "[J" ∈ gm_W := gm_in (List.mem_append_right _ (List.mem_append_left _ (List.mem_of_getElem? (i := 79) rfl))) rfl
theorem gm_l_Tree_41 : Cond.fieldLink gm_R_Tree 41 "GrammarMachine$Tree" "ruleNames" "[I" ∈ gm_W := gm_in (List.mem_append_right _ (List.mem_append_left _ (List.mem_of_getElem? (i := 81) rfl))) rfl
theorem gm_l_Tree_44 : Cond.fieldLink gm_R_Tree 44 "GrammarMachine$Tree" "roots" "[I" ∈ gm_W := gm_in (List.mem_append_right _ (List.mem_append_left _ (List.mem_of_getElem? (i := 83) rfl))) rfl
theorem gm_l_Tree_47 : Cond.fieldLink gm_R_Tree 47 "GrammarMachine$Tree" "size" "I" ∈ gm_W := gm_in (List.mem_append_right _ (List.mem_append_left _ (List.mem_of_getElem? (i := 86) rfl))) rfl
theorem gm_l_Tree_51 : Cond.fieldLink gm_R_Tree 51 "GrammarMachine$Tree" "partsSize" "I" ∈ gm_W := gm_in (List.mem_append_right _ (List.mem_append_left _ (List.mem_of_getElem? (i := 89) rfl))) rfl
theorem gm_l_Tree_54 : Cond.fieldLink gm_R_Tree 54 "GrammarMachine$Tree" "rules" "I" ∈ gm_W := gm_in (List.mem_append_right _ (List.mem_append_left _ (List.mem_of_getElem? (i := 90) rfl))) rfl
theorem gm_l_Judge_3 : Cond.methodLink gm_R_Judge 3 objectInit ∈ gm_W := gm_in (List.mem_append_right _ (List.mem_append_left _ (List.mem_of_getElem? (i := 131) rfl))) rfl
theorem gm_l_Judge_9 : Cond.fieldLink gm_R_Judge 9 "GrammarMachine$Judge" "tree" "LGrammarMachine$Tree;" ∈ gm_W := gm_in (List.mem_append_right _ (List.mem_append_left _ (List.mem_of_getElem? (i := 132) rfl))) rfl
theorem gm_l_Code_3 : Cond.methodLink gm_R_Code 3 objectInit ∈ gm_W := gm_in (List.mem_append_right _ (List.mem_append_left _ (List.mem_of_getElem? (i := 141) rfl))) rfl
theorem gm_l_Code_9 : Cond.fieldLink gm_R_Code 9 "GrammarMachine$Code" "operations" "[I" ∈ gm_W := gm_in (List.mem_append_right _ (List.mem_append_left _ (List.mem_of_getElem? (i := 143) rfl))) rfl
theorem gm_l_Code_15 : Cond.fieldLink gm_R_Code 15 "GrammarMachine$Code" "operands" "[I" ∈ gm_W := gm_in (List.mem_append_right _ (List.mem_append_left _ (List.mem_of_getElem? (i := 144) rfl))) rfl
theorem gm_l_Code_18 : Cond.fieldLink gm_R_Code 18 "GrammarMachine$Code" "targets" "[I" ∈ gm_W := gm_in (List.mem_append_right _ (List.mem_append_left _ (List.mem_of_getElem? (i := 145) rfl))) rfl
theorem gm_l_Code_21 : Cond.fieldLink gm_R_Code 21 "GrammarMachine$Code" "starts" "[I" ∈ gm_W := gm_in (List.mem_append_right _ (List.mem_append_left _ (List.mem_of_getElem? (i := 146) rfl))) rfl
theorem gm_l_Code_24 : Cond.fieldLink gm_R_Code 24 "GrammarMachine$Code" "size" "I" ∈ gm_W := gm_in (List.mem_append_right _ (List.mem_append_left _ (List.mem_of_getElem? (i := 147) rfl))) rfl
theorem gm_l_Code_28 : Cond.fieldLink gm_R_Code 28 "GrammarMachine$Code" "tree" "LGrammarMachine$Tree;" ∈ gm_W := gm_in (List.mem_append_right _ (List.mem_append_left _ (List.mem_of_getElem? (i := 142) rfl))) rfl
theorem gm_l_Reader_3 : Cond.methodLink gm_R_Reader 3 objectInit ∈ gm_W := gm_in (List.mem_append_right _ (List.mem_append_left _ (List.mem_of_getElem? (i := 166) rfl))) rfl
theorem gm_l_Reader_9 : Cond.fieldLink gm_R_Reader 9 "GrammarMachine$Reader" "open" "[I" ∈ gm_W := gm_in (List.mem_append_right _ (List.mem_append_left _ (List.mem_of_getElem? (i := 169) rfl))) rfl
theorem gm_l_Reader_15 : Cond.fieldLink gm_R_Reader 15 "GrammarMachine$Reader" "opened" "I" ∈ gm_W := gm_in (List.mem_append_right _ (List.mem_append_left _ (List.mem_of_getElem? (i := 170) rfl))) rfl
theorem gm_l_Reader_19 : Cond.fieldLink gm_R_Reader 19 "GrammarMachine$Reader" "place" "I" ∈ gm_W := gm_in (List.mem_append_right _ (List.mem_append_left _ (List.mem_of_getElem? (i := 171) rfl))) rfl
theorem gm_l_Reader_22 : Cond.fieldLink gm_R_Reader 22 "GrammarMachine$Reader" "wrong" "Z" ∈ gm_W := gm_in (List.mem_append_right _ (List.mem_append_left _ (List.mem_of_getElem? (i := 172) rfl))) rfl
theorem gm_l_Reader_26 : Cond.fieldLink gm_R_Reader 26 "GrammarMachine$Reader" "text" "LGrammarMachine$Row;" ∈ gm_W := gm_in (List.mem_append_right _ (List.mem_append_left _ (List.mem_of_getElem? (i := 167) rfl))) rfl
theorem gm_l_Reader_30 : Cond.fieldLink gm_R_Reader 30 "GrammarMachine$Reader" "tree" "LGrammarMachine$Tree;" ∈ gm_W := gm_in (List.mem_append_right _ (List.mem_append_left _ (List.mem_of_getElem? (i := 168) rfl))) rfl
theorem gm_l_Grammar_1 : Cond.methodLink gm_R_Grammar 1 objectInit ∈ gm_W := gm_in (List.mem_append_right _ (List.mem_append_left _ (List.mem_of_getElem? (i := 49) rfl))) rfl
theorem gm_l_Grammar_7 : Cond.classLink gm_R_Grammar 7 gm_R_Tree ∈ gm_W := gm_in (List.mem_append_right _ (List.mem_append_left _ (List.mem_of_getElem? (i := 50) rfl))) rfl
theorem gm_l_Grammar_9 : Cond.methodLinkNest gm_R_Grammar 9 gm_y_Tree_init "GrammarMachine" ∈ lw_tbl := (List.mem_append_right _ (List.mem_append_left _ (List.mem_of_getElem? (i := 52) rfl)))
theorem gm_l_Grammar_10 : Cond.fieldLink gm_R_Grammar 10 "GrammarMachine$Grammar" "tree" "LGrammarMachine$Tree;" ∈ gm_W := gm_in (List.mem_append_right _ (List.mem_append_left _ (List.mem_of_getElem? (i := 186) rfl))) rfl
theorem gm_l_Grammar_16 : Cond.classLink gm_R_Grammar 16 gm_R_Judge ∈ gm_W := gm_in (List.mem_append_right _ (List.mem_append_left _ (List.mem_of_getElem? (i := 126) rfl))) rfl
theorem gm_l_Grammar_18 : Cond.methodLink gm_R_Grammar 18 gm_y_Judge_init ∈ gm_W := gm_in (List.mem_append_right _ (List.mem_append_left _ (List.mem_of_getElem? (i := 128) rfl))) rfl
theorem gm_l_Grammar_21 : Cond.fieldLink gm_R_Grammar 21 "GrammarMachine$Grammar" "judge" "LGrammarMachine$Judge;" ∈ gm_W := gm_in (List.mem_append_right _ (List.mem_append_left _ (List.mem_of_getElem? (i := 189) rfl))) rfl
theorem gm_l_Grammar_25 : Cond.classLink gm_R_Grammar 25 gm_R_Code ∈ gm_W := gm_in (List.mem_append_right _ (List.mem_append_left _ (List.mem_of_getElem? (i := 136) rfl))) rfl
theorem gm_l_Grammar_27 : Cond.methodLink gm_R_Grammar 27 gm_y_Code_init ∈ gm_W := gm_in (List.mem_append_right _ (List.mem_append_left _ (List.mem_of_getElem? (i := 138) rfl))) rfl
theorem gm_l_Grammar_28 : Cond.fieldLink gm_R_Grammar 28 "GrammarMachine$Grammar" "code" "LGrammarMachine$Code;" ∈ gm_W := gm_in (List.mem_append_right _ (List.mem_append_left _ (List.mem_of_getElem? (i := 191) rfl))) rfl
theorem gm_l_Grammar_32 : Cond.classLink gm_R_Grammar 32 gm_R_Reader ∈ gm_W := gm_in (List.mem_append_right _ (List.mem_append_left _ (List.mem_of_getElem? (i := 161) rfl))) rfl
theorem gm_l_Grammar_34 : Cond.methodLink gm_R_Grammar 34 gm_y_Reader_init ∈ gm_W := gm_in (List.mem_append_right _ (List.mem_append_left _ (List.mem_of_getElem? (i := 163) rfl))) rfl
theorem gm_l_Grammar_37 : Cond.fieldLink gm_R_Grammar 37 "GrammarMachine$Grammar" "reader" "LGrammarMachine$Reader;" ∈ gm_W := gm_in (List.mem_append_right _ (List.mem_append_left _ (List.mem_of_getElem? (i := 194) rfl))) rfl
theorem gm_l_Memory_3 : Cond.methodLink gm_R_Memory 3 objectInit ∈ gm_W := gm_in (List.mem_append_right _ (List.mem_append_left _ (List.mem_of_getElem? (i := 237) rfl))) rfl
theorem gm_l_Memory_9 : Cond.fieldLink gm_R_Memory 9 "GrammarMachine$Memory" "results" "[I" ∈ gm_W := gm_in (List.mem_append_right _ (List.mem_append_right _ (List.mem_append_left _ (List.mem_of_getElem? (i := 0) rfl)))) rfl
theorem gm_l_Memory_15 : Cond.fieldLink gm_R_Memory 15 "GrammarMachine$Memory" "keptFrom" "[I" ∈ gm_W := gm_in (List.mem_append_right _ (List.mem_append_right _ (List.mem_append_left _ (List.mem_of_getElem? (i := 1) rfl)))) rfl
theorem gm_l_Memory_18 : Cond.fieldLink gm_R_Memory 18 "GrammarMachine$Memory" "keptTo" "[I" ∈ gm_W := gm_in (List.mem_append_right _ (List.mem_append_right _ (List.mem_append_left _ (List.mem_of_getElem? (i := 2) rfl)))) rfl
theorem gm_l_Memory_21 : Cond.classLink gm_R_Memory 21 gm_R_Captures ∈ gm_W := gm_in (List.mem_append_right _ (List.mem_append_left _ (List.mem_of_getElem? (i := 238) rfl))) rfl
theorem gm_l_Memory_23 : Cond.methodLink gm_R_Memory 23 gm_y_Captures_init ∈ gm_W := gm_in (List.mem_append_right _ (List.mem_append_left _ (List.mem_of_getElem? (i := 239) rfl))) rfl
theorem gm_l_Memory_26 : Cond.fieldLink gm_R_Memory 26 "GrammarMachine$Memory" "kept" "LGrammarMachine$Captures;" ∈ gm_W := gm_in (List.mem_append_right _ (List.mem_append_right _ (List.mem_append_left _ (List.mem_of_getElem? (i := 3) rfl)))) rfl
theorem gm_l_Runner_3 : Cond.methodLink gm_R_Runner 3 objectInit ∈ gm_W := gm_in (List.mem_append_right _ (List.mem_append_left _ (List.mem_of_getElem? (i := 210) rfl))) rfl
theorem gm_l_Runner_9 : Cond.classLink gm_R_Runner 9 gm_R_Captures ∈ gm_W := gm_in (List.mem_append_right _ (List.mem_append_left _ (List.mem_of_getElem? (i := 211) rfl))) rfl
theorem gm_l_Runner_11 : Cond.methodLink gm_R_Runner 11 gm_y_Captures_init ∈ gm_W := gm_in (List.mem_append_right _ (List.mem_append_left _ (List.mem_of_getElem? (i := 213) rfl))) rfl
theorem gm_l_Runner_14 : Cond.fieldLink gm_R_Runner 14 "GrammarMachine$Runner" "captures" "LGrammarMachine$Captures;" ∈ gm_W := gm_in (List.mem_append_right _ (List.mem_append_right _ (List.mem_append_left _ (List.mem_of_getElem? (i := 14) rfl)))) rfl
theorem gm_l_Runner_20 : Cond.classLink gm_R_Runner 20 gm_R_Memory ∈ gm_W := gm_in (List.mem_append_right _ (List.mem_append_left _ (List.mem_of_getElem? (i := 232) rfl))) rfl
theorem gm_l_Runner_22 : Cond.methodLinkNest gm_R_Runner 22 gm_y_Memory_init "GrammarMachine" ∈ lw_tbl := (List.mem_append_right _ (List.mem_append_left _ (List.mem_of_getElem? (i := 234) rfl)))
theorem gm_l_Runner_23 : Cond.fieldLink gm_R_Runner 23 "GrammarMachine$Runner" "memory" "LGrammarMachine$Memory;" ∈ gm_W := gm_in (List.mem_append_right _ (List.mem_append_right _ (List.mem_append_left _ (List.mem_of_getElem? (i := 16) rfl)))) rfl
theorem gm_l_Runner_27 : Cond.fieldLink gm_R_Runner 27 "GrammarMachine$Runner" "frameTargets" "[I" ∈ gm_W := gm_in (List.mem_append_right _ (List.mem_append_right _ (List.mem_append_left _ (List.mem_of_getElem? (i := 17) rfl)))) rfl
theorem gm_l_Runner_31 : Cond.fieldLink gm_R_Runner 31 "GrammarMachine$Runner" "framePlaces" "[I" ∈ gm_W := gm_in (List.mem_append_right _ (List.mem_append_right _ (List.mem_append_left _ (List.mem_of_getElem? (i := 18) rfl)))) rfl
theorem gm_l_Runner_34 : Cond.fieldLink gm_R_Runner 34 "GrammarMachine$Runner" "frameCaptures" "[I" ∈ gm_W := gm_in (List.mem_append_right _ (List.mem_append_right _ (List.mem_append_left _ (List.mem_of_getElem? (i := 19) rfl)))) rfl
theorem gm_l_Runner_37 : Cond.fieldLink gm_R_Runner 37 "GrammarMachine$Runner" "frameRules" "[I" ∈ gm_W := gm_in (List.mem_append_right _ (List.mem_append_right _ (List.mem_append_left _ (List.mem_of_getElem? (i := 20) rfl)))) rfl
theorem gm_l_Runner_40 : Cond.fieldLink gm_R_Runner 40 "GrammarMachine$Runner" "frames" "I" ∈ gm_W := gm_in (List.mem_append_right _ (List.mem_append_right _ (List.mem_append_left _ (List.mem_of_getElem? (i := 21) rfl)))) rfl
theorem gm_l_Runner_44 : Cond.fieldLink gm_R_Runner 44 "GrammarMachine$Runner" "looking" "Z" ∈ gm_W := gm_in (List.mem_append_right _ (List.mem_append_right _ (List.mem_append_left _ (List.mem_of_getElem? (i := 24) rfl)))) rfl
theorem gm_l_Runner_48 : Cond.fieldLink gm_R_Runner 48 "GrammarMachine$Runner" "state" "I" ∈ gm_W := gm_in (List.mem_append_right _ (List.mem_append_right _ (List.mem_append_left _ (List.mem_of_getElem? (i := 25) rfl)))) rfl
theorem gm_l_Runner_51 : Cond.fieldLink gm_R_Runner 51 "GrammarMachine$Runner" "at" "I" ∈ gm_W := gm_in (List.mem_append_right _ (List.mem_append_right _ (List.mem_append_left _ (List.mem_of_getElem? (i := 26) rfl)))) rfl
theorem gm_l_Runner_54 : Cond.fieldLink gm_R_Runner 54 "GrammarMachine$Runner" "place" "I" ∈ gm_W := gm_in (List.mem_append_right _ (List.mem_append_right _ (List.mem_append_left _ (List.mem_of_getElem? (i := 27) rfl)))) rfl
theorem gm_l_Runner_57 : Cond.fieldLink gm_R_Runner 57 "GrammarMachine$Runner" "effort" "I" ∈ gm_W := gm_in (List.mem_append_right _ (List.mem_append_right _ (List.mem_append_left _ (List.mem_of_getElem? (i := 28) rfl)))) rfl
theorem gm_l_Runner_60 : Cond.fieldLink gm_R_Runner 60 "GrammarMachine$Runner" "subject" "LGrammarMachine$Row;" ∈ gm_W := gm_in (List.mem_append_right _ (List.mem_append_right _ (List.mem_append_left _ (List.mem_of_getElem? (i := 13) rfl)))) rfl
theorem gm_l_Runner_64 : Cond.fieldLink gm_R_Runner 64 "GrammarMachine$Grammar" "tree" "LGrammarMachine$Tree;" ∈ gm_W := gm_in (List.mem_append_right _ (List.mem_append_left _ (List.mem_of_getElem? (i := 187) rfl))) rfl
theorem gm_l_Runner_70 : Cond.fieldLink gm_R_Runner 70 "GrammarMachine$Runner" "tree" "LGrammarMachine$Tree;" ∈ gm_W := gm_in (List.mem_append_right _ (List.mem_append_right _ (List.mem_append_left _ (List.mem_of_getElem? (i := 22) rfl)))) rfl
theorem gm_l_Runner_71 : Cond.fieldLink gm_R_Runner 71 "GrammarMachine$Grammar" "code" "LGrammarMachine$Code;" ∈ gm_W := gm_in (List.mem_append_right _ (List.mem_append_left _ (List.mem_of_getElem? (i := 192) rfl))) rfl
theorem gm_l_Runner_75 : Cond.fieldLink gm_R_Runner 75 "GrammarMachine$Runner" "code" "LGrammarMachine$Code;" ∈ gm_W := gm_in (List.mem_append_right _ (List.mem_append_right _ (List.mem_append_left _ (List.mem_of_getElem? (i := 23) rfl)))) rfl
theorem gm_l_GM_3 : Cond.methodLink gm_R_GM 3 objectInit ∈ gm_W := gm_in (List.mem_append_right _ (List.mem_append_left _ (List.mem_of_getElem? (i := 25) rfl))) rfl
theorem gm_l_GM_9 : Cond.classLink gm_R_GM 9 gm_R_Row ∈ gm_W := gm_in (List.mem_append_right _ (List.mem_append_left _ (List.mem_of_getElem? (i := 28) rfl))) rfl
theorem gm_l_GM_11 : Cond.methodLink gm_R_GM 11 gm_y_Row_init ∈ gm_W := gm_in (List.mem_append_right _ (List.mem_append_left _ (List.mem_of_getElem? (i := 30) rfl))) rfl
theorem gm_l_GM_14 : Cond.fieldLink gm_R_GM 14 "GrammarMachine" "text" "LGrammarMachine$Row;" ∈ gm_W := gm_in (List.mem_append_right _ (List.mem_append_right _ (List.mem_append_left _ (List.mem_of_getElem? (i := 61) rfl)))) rfl
theorem gm_l_GM_18 : Cond.fieldLink gm_R_GM 18 "GrammarMachine" "subject" "LGrammarMachine$Row;" ∈ gm_W := gm_in (List.mem_append_right _ (List.mem_append_right _ (List.mem_append_left _ (List.mem_of_getElem? (i := 62) rfl)))) rfl
theorem gm_l_GM_21 : Cond.classLink gm_R_GM 21 gm_R_Grammar ∈ gm_W := gm_in (List.mem_append_right _ (List.mem_append_left _ (List.mem_of_getElem? (i := 44) rfl))) rfl
theorem gm_l_GM_23 : Cond.methodLink gm_R_GM 23 gm_y_Grammar_init ∈ gm_W := gm_in (List.mem_append_right _ (List.mem_append_left _ (List.mem_of_getElem? (i := 46) rfl))) rfl
theorem gm_l_GM_26 : Cond.fieldLink gm_R_GM 26 "GrammarMachine" "grammar" "LGrammarMachine$Grammar;" ∈ gm_W := gm_in (List.mem_append_right _ (List.mem_append_right _ (List.mem_append_left _ (List.mem_of_getElem? (i := 63) rfl)))) rfl
theorem gm_l_GM_30 : Cond.fieldLink gm_R_GM 30 "GrammarMachine" "spare" "LGrammarMachine$Grammar;" ∈ gm_W := gm_in (List.mem_append_right _ (List.mem_append_right _ (List.mem_append_left _ (List.mem_of_getElem? (i := 64) rfl)))) rfl
theorem gm_l_GM_33 : Cond.classLink gm_R_GM 33 gm_R_Runner ∈ gm_W := gm_in (List.mem_append_right _ (List.mem_append_left _ (List.mem_of_getElem? (i := 205) rfl))) rfl
theorem gm_l_GM_35 : Cond.methodLink gm_R_GM 35 gm_y_Runner_init ∈ gm_W := gm_in (List.mem_append_right _ (List.mem_append_left _ (List.mem_of_getElem? (i := 207) rfl))) rfl
theorem gm_l_GM_38 : Cond.fieldLink gm_R_GM 38 "GrammarMachine" "runner" "LGrammarMachine$Runner;" ∈ gm_W := gm_in (List.mem_append_right _ (List.mem_append_right _ (List.mem_append_left _ (List.mem_of_getElem? (i := 65) rfl)))) rfl
theorem gm_l_GM_42 : Cond.fieldLink gm_R_GM 42 "GrammarMachine" "compiled" "Z" ∈ gm_W := gm_in (List.mem_append_right _ (List.mem_append_right _ (List.mem_append_left _ (List.mem_of_getElem? (i := 66) rfl)))) rfl
theorem gm_l_GM_46 : Cond.fieldLink gm_R_GM 46 "GrammarMachine" "matched" "Z" ∈ gm_W := gm_in (List.mem_append_right _ (List.mem_append_right _ (List.mem_append_left _ (List.mem_of_getElem? (i := 67) rfl)))) rfl
theorem gm_l_GM_49 : Cond.fieldLink gm_R_GM 49 "GrammarMachine" "reason" "I" ∈ gm_W := gm_in (List.mem_append_right _ (List.mem_append_right _ (List.mem_append_left _ (List.mem_of_getElem? (i := 68) rfl)))) rfl
