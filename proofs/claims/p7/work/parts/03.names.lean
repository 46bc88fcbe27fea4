-- classes: name, fields in the order of the slots, their types
def gm_R_GM : String := "GrammarMachine"
def gm_F_GM : u_T := fun k => match k with
  | 0 => ("GrammarMachine", "text", "LGrammarMachine$Row;", true)
  | 1 => ("GrammarMachine", "subject", "LGrammarMachine$Row;", true)
  | 2 => ("GrammarMachine", "grammar", "LGrammarMachine$Grammar;", false)
  | 3 => ("GrammarMachine", "spare", "LGrammarMachine$Grammar;", false)
  | 4 => ("GrammarMachine", "runner", "LGrammarMachine$Runner;", true)
  | 5 => ("GrammarMachine", "compiled", "Z", false)
  | 6 => ("GrammarMachine", "matched", "Z", false)
  | _ => ("GrammarMachine", "reason", "I", false)
def gm_t_GM : Nat → FieldType := fun k => match k with
  | 0 => .object "GrammarMachine$Row"
  | 1 => .object "GrammarMachine$Row"
  | 2 => .object "GrammarMachine$Grammar"
  | 3 => .object "GrammarMachine$Grammar"
  | 4 => .object "GrammarMachine$Runner"
  | 5 => .boolean
  | 6 => .boolean
  | _ => .int
theorem gm_n_GM : ∀ a, a < 8 → ∀ b, b < 8 → a ≠ b → (gm_F_GM a).2.1 ≠ (gm_F_GM b).2.1 := by decide +kernel
theorem gm_o_GM : ∀ k, k < 8 → parseFieldDescriptor (gm_F_GM k).2.2.1 = some (gm_t_GM k) := by decide +kernel
set_option maxRecDepth 20000 in
theorem gm_u_GM : ∀ w ∈ u_ws gm_R_GM gm_F_GM 8, w ∈ gm_W := show ∀ w ∈ ([.laysFinal "GrammarMachine" "GrammarMachine" "text" "LGrammarMachine$Row;", .laysFinal "GrammarMachine" "GrammarMachine" "subject" "LGrammarMachine$Row;", .lays "GrammarMachine" "GrammarMachine" "grammar" "LGrammarMachine$Grammar;", .lays "GrammarMachine" "GrammarMachine" "spare" "LGrammarMachine$Grammar;", .laysFinal "GrammarMachine" "GrammarMachine" "runner" "LGrammarMachine$Runner;", .lays "GrammarMachine" "GrammarMachine" "compiled" "Z", .lays "GrammarMachine" "GrammarMachine" "matched" "Z", .lays "GrammarMachine" "GrammarMachine" "reason" "I"] : List Cond), w ∈ gm_W from List.forall_mem_cons.mpr ⟨gm_in (List.mem_append_right _ (List.mem_append_right _ (List.mem_append_left _ (List.mem_of_getElem? (i := 69) rfl)))) rfl, List.forall_mem_cons.mpr ⟨gm_in (List.mem_append_right _ (List.mem_append_right _ (List.mem_append_left _ (List.mem_of_getElem? (i := 71) rfl)))) rfl, List.forall_mem_cons.mpr ⟨gm_in (List.mem_append_right _ (List.mem_append_right _ (List.mem_append_left _ (List.mem_of_getElem? (i := 73) rfl)))) rfl, List.forall_mem_cons.mpr ⟨gm_in (List.mem_append_right _ (List.mem_append_right _ (List.mem_append_left _ (List.mem_of_getElem? (i := 75) rfl)))) rfl, List.forall_mem_cons.mpr ⟨gm_in (List.mem_append_right _ (List.mem_append_right _ (List.mem_append_left _ (List.mem_of_getElem? (i := 77) rfl)))) rfl, List.forall_mem_cons.mpr ⟨gm_in (List.mem_append_right _ (List.mem_append_right _ (List.mem_append_left _ (List.mem_of_getElem? (i := 79) rfl)))) rfl, List.forall_mem_cons.mpr ⟨gm_in (List.mem_append_right _ (List.mem_append_right _ (List.mem_append_left _ (List.mem_of_getElem? (i := 81) rfl)))) rfl, List.forall_mem_cons.mpr ⟨gm_in (List.mem_append_right _ (List.mem_append_right _ (List.mem_append_left _ (List.mem_of_getElem? (i := 83) rfl)))) rfl, fun _ h => absurd h List.not_mem_nil⟩⟩⟩⟩⟩⟩⟩⟩
theorem gm_i_GM : Cond.initialized gm_R_GM ∈ gm_W := gm_in (List.mem_append_right _ (List.mem_append_left _ (List.mem_of_getElem? (i := 1) rfl))) rfl
theorem gm_m_GM : Cond.instantiable gm_R_GM 8 ∈ gm_W := gm_in (List.mem_append_right _ (List.mem_append_left _ (List.mem_of_getElem? (i := 21) rfl))) rfl
def gm_R_Row : String := "GrammarMachine$Row"
def gm_F_Row : u_T := fun k => match k with
  | 0 => ("GrammarMachine$Row", "characters", "[C", true)
  | _ => ("GrammarMachine$Row", "size", "I", false)
def gm_t_Row : Nat → FieldType := fun k => match k with
  | 0 => .array .char
  | _ => .int
theorem gm_n_Row : ∀ a, a < 2 → ∀ b, b < 2 → a ≠ b → (gm_F_Row a).2.1 ≠ (gm_F_Row b).2.1 := by decide +kernel
theorem gm_o_Row : ∀ k, k < 2 → parseFieldDescriptor (gm_F_Row k).2.2.1 = some (gm_t_Row k) := by decide +kernel
set_option maxRecDepth 20000 in
theorem gm_u_Row : ∀ w ∈ u_ws gm_R_Row gm_F_Row 2, w ∈ gm_W := show ∀ w ∈ ([.laysFinal "GrammarMachine$Row" "GrammarMachine$Row" "characters" "[C", .lays "GrammarMachine$Row" "GrammarMachine$Row" "size" "I"] : List Cond), w ∈ gm_W from List.forall_mem_cons.mpr ⟨gm_in (List.mem_append_right _ (List.mem_append_left _ (List.mem_of_getElem? (i := 38) rfl))) rfl, List.forall_mem_cons.mpr ⟨gm_in (List.mem_append_right _ (List.mem_append_left _ (List.mem_of_getElem? (i := 40) rfl))) rfl, fun _ h => absurd h List.not_mem_nil⟩⟩
theorem gm_i_Row : Cond.initialized gm_R_Row ∈ gm_W := gm_in (List.mem_append_right _ (List.mem_append_left _ (List.mem_of_getElem? (i := 2) rfl))) rfl
theorem gm_m_Row : Cond.instantiable gm_R_Row 2 ∈ gm_W := gm_in (List.mem_append_right _ (List.mem_append_left _ (List.mem_of_getElem? (i := 29) rfl))) rfl
def gm_R_Grammar : String := "GrammarMachine$Grammar"
def gm_F_Grammar : u_T := fun k => match k with
  | 0 => ("GrammarMachine$Grammar", "tree", "LGrammarMachine$Tree;", true)
  | 1 => ("GrammarMachine$Grammar", "judge", "LGrammarMachine$Judge;", true)
  | 2 => ("GrammarMachine$Grammar", "code", "LGrammarMachine$Code;", true)
  | _ => ("GrammarMachine$Grammar", "reader", "LGrammarMachine$Reader;", true)
def gm_t_Grammar : Nat → FieldType := fun k => match k with
  | 0 => .object "GrammarMachine$Tree"
  | 1 => .object "GrammarMachine$Judge"
  | 2 => .object "GrammarMachine$Code"
  | _ => .object "GrammarMachine$Reader"
theorem gm_n_Grammar : ∀ a, a < 4 → ∀ b, b < 4 → a ≠ b → (gm_F_Grammar a).2.1 ≠ (gm_F_Grammar b).2.1 := by decide +kernel
theorem gm_o_Grammar : ∀ k, k < 4 → parseFieldDescriptor (gm_F_Grammar k).2.2.1 = some (gm_t_Grammar k) := by decide +kernel
set_option maxRecDepth 20000 in
theorem gm_u_Grammar : ∀ w ∈ u_ws gm_R_Grammar gm_F_Grammar 4, w ∈ gm_W := show ∀ w ∈ ([.laysFinal "GrammarMachine$Grammar" "GrammarMachine$Grammar" "tree" "LGrammarMachine$Tree;", .laysFinal "GrammarMachine$Grammar" "GrammarMachine$Grammar" "judge" "LGrammarMachine$Judge;", .laysFinal "GrammarMachine$Grammar" "GrammarMachine$Grammar" "code" "LGrammarMachine$Code;", .laysFinal "GrammarMachine$Grammar" "GrammarMachine$Grammar" "reader" "LGrammarMachine$Reader;"] : List Cond), w ∈ gm_W from List.forall_mem_cons.mpr ⟨gm_in (List.mem_append_right _ (List.mem_append_left _ (List.mem_of_getElem? (i := 196) rfl))) rfl, List.forall_mem_cons.mpr ⟨gm_in (List.mem_append_right _ (List.mem_append_left _ (List.mem_of_getElem? (i := 198) rfl))) rfl, List.forall_mem_cons.mpr ⟨gm_in (List.mem_append_right _ (List.mem_append_left _ (List.mem_of_getElem? (i := 200) rfl))) rfl, List.forall_mem_cons.mpr ⟨gm_in (List.mem_append_right _ (List.mem_append_left _ (List.mem_of_getElem? (i := 202) rfl))) rfl, fun _ h => absurd h List.not_mem_nil⟩⟩⟩⟩
theorem gm_i_Grammar : Cond.initialized gm_R_Grammar ∈ gm_W := gm_in (List.mem_append_right _ (List.mem_append_left _ (List.mem_of_getElem? (i := 3) rfl))) rfl
theorem gm_m_Grammar : Cond.instantiable gm_R_Grammar 4 ∈ gm_W := gm_in (List.mem_append_right _ (List.mem_append_left _ (List.mem_of_getElem? (i := 45) rfl))) rfl
def gm_R_Tree : String := "GrammarMachine$Tree"
def gm_F_Tree : u_T := fun k => match k with
  | 0 => ("GrammarMachine$Tree", "kinds", "[I", true)
  | 1 => ("GrammarMachine$Tree", "letters", "[I", true)
  | 2 => ("GrammarMachine$Tree", "partsFrom", "[I", true)
  | 3 => ("GrammarMachine$Tree", "partsTo", "[I", true)
  | 4 => ("GrammarMachine$Tree", "parts", "[I", true)
  | 5 => ("GrammarMachine$Tree", "canBeEmpty", "[Z", true)
  | 6 => ("GrammarMachine$Tree", "beginnings", "[I", true)
  | 7 => ("GrammarMachine$Tree", "lowHeads", "[J", true)
  | 8 => ("GrammarMachine$Tree", "highHeads", "[J", true)
  | 9 => ("GrammarMachine$Tree", "ruleNames", "[I", true)
  | 10 => ("GrammarMachine$Tree", "roots", "[I", true)
  | 11 => ("GrammarMachine$Tree", "size", "I", false)
  | 12 => ("GrammarMachine$Tree", "partsSize", "I", false)
  | _ => ("GrammarMachine$Tree", "rules", "I", false)
def gm_t_Tree : Nat → FieldType := fun k => match k with
  | 0 => .array .int
  | 1 => .array .int
  | 2 => .array .int
  | 3 => .array .int
  | 4 => .array .int
  | 5 => .array .boolean
  | 6 => .array .int
  | 7 => .array .long
  | 8 => .array .long
  | 9 => .array .int
  | 10 => .array .int
  | 11 => .int
  | 12 => .int
  | _ => .int
theorem gm_n_Tree : ∀ a, a < 14 → ∀ b, b < 14 → a ≠ b → (gm_F_Tree a).2.1 ≠ (gm_F_Tree b).2.1 := by decide +kernel
theorem gm_o_Tree : ∀ k, k < 14 → parseFieldDescriptor (gm_F_Tree k).2.2.1 = some (gm_t_Tree k) := by decide +kernel
set_option maxRecDepth 20000 in
theorem gm_u_Tree : ∀ w ∈ u_ws gm_R_Tree gm_F_Tree 14, w ∈ gm_W := show ∀ w ∈ ([.laysFinal "GrammarMachine$Tree" "GrammarMachine$Tree" "kinds" "[I", .laysFinal "GrammarMachine$Tree" "GrammarMachine$Tree" "letters" "[I", .laysFinal "GrammarMachine$Tree" "GrammarMachine$Tree" "partsFrom" "[I", .laysFinal "GrammarMachine$Tree" "GrammarMachine$Tree" "partsTo" "[I", .laysFinal "GrammarMachine$Tree" "GrammarMachine$Tree" "parts" "[I", .laysFinal "GrammarMachine$Tree" "GrammarMachine$Tree" "canBeEmpty" "[Z", .laysFinal "GrammarMachine$Tree" "GrammarMachine$Tree" "beginnings" "[I", .laysFinal "GrammarMachine$Tree" "GrammarMachine$Tree" "lowHeads" "[J", .laysFinal "GrammarMachine$Tree" "GrammarMachine$Tree" "highHeads" "[J", .laysFinal "GrammarMachine$Tree" "GrammarMachine$Tree" "ruleNames" "[I", .laysFinal "GrammarMachine$Tree" "GrammarMachine$Tree" "roots" "[I", .lays "GrammarMachine$Tree" "GrammarMachine$Tree" "size" "I", .lays "GrammarMachine$Tree" "GrammarMachine$Tree" "partsSize" "I", .lays "GrammarMachine$Tree" "GrammarMachine$Tree" "rules" "I"] : List Cond), w ∈ gm_W from List.forall_mem_cons.mpr ⟨gm_in (List.mem_append_right _ (List.mem_append_left _ (List.mem_of_getElem? (i := 94) rfl))) rfl, List.forall_mem_cons.mpr ⟨gm_in (List.mem_append_right _ (List.mem_append_left _ (List.mem_of_getElem? (i := 96) rfl))) rfl, List.forall_mem_cons.mpr ⟨gm_in (List.mem_append_right _ (List.mem_append_left _ (List.mem_of_getElem? (i := 98) rfl))) rfl, List.forall_mem_cons.mpr ⟨gm_in (List.mem_append_right _ (List.mem_append_left _ (List.mem_of_getElem? (i := 100) rfl))) rfl, List.forall_mem_cons.mpr ⟨gm_in (List.mem_append_right _ (List.mem_append_left _ (List.mem_of_getElem? (i := 102) rfl))) rfl, List.forall_mem_cons.mpr ⟨gm_in (List.mem_append_right _ (List.mem_append_left _ (List.mem_of_getElem? (i := 104) rfl))) rfl, List.forall_mem_cons.mpr ⟨gm_in (List.mem_append_right _ (List.mem_append_left _ (List.mem_of_getElem? (i := 106) rfl))) rfl, List.forall_mem_cons.mpr ⟨gm_in (List.mem_append_right _ (List.mem_append_left _ (List.mem_of_getElem? (i := 108) rfl))) rfl, List.forall_mem_cons.mpr ⟨gm_in (List.mem_append_right _ (List.mem_append_left _ (List.mem_of_getElem? (i := 110) rfl))) rfl, List.forall_mem_cons.mpr ⟨gm_in (List.mem_append_right _ (List.mem_append_left _ (List.mem_of_getElem? (i := 112) rfl))) rfl, List.forall_mem_cons.mpr ⟨gm_in (List.mem_append_right _ (List.mem_append_left _ (List.mem_of_getElem? (i := 114) rfl))) rfl, List.forall_mem_cons.mpr ⟨gm_in (List.mem_append_right _ (List.mem_append_left _ (List.mem_of_getElem? (i := 116) rfl))) rfl, List.forall_mem_cons.mpr ⟨gm_in (List.mem_append_right _ (List.mem_append_left _ (List.mem_of_getElem? (i := 118) rfl))) rfl, List.forall_mem_cons.mpr ⟨gm_in (List.mem_append_right _ (List.mem_append_left _ (List.mem_of_getElem? (i := 120) rfl))) rfl, fun _ h => absurd h List.not_mem_nil⟩⟩⟩⟩⟩⟩⟩⟩⟩⟩⟩⟩⟩⟩
theorem gm_i_Tree : Cond.initialized gm_R_Tree ∈ gm_W := gm_in (List.mem_append_right _ (List.mem_append_left _ (List.mem_of_getElem? (i := 4) rfl))) rfl
theorem gm_m_Tree : Cond.instantiable gm_R_Tree 14 ∈ gm_W := gm_in (List.mem_append_right _ (List.mem_append_left _ (List.mem_of_getElem? (i := 51) rfl))) rfl
def gm_R_Judge : String := "GrammarMachine$Judge"
def gm_F_Judge : u_T := fun k => match k with
  | _ => ("GrammarMachine$Judge", "tree", "LGrammarMachine$Tree;", true)
def gm_t_Judge : Nat → FieldType := fun k => match k with
  | _ => .object "GrammarMachine$Tree"
theorem gm_n_Judge : ∀ a, a < 1 → ∀ b, b < 1 → a ≠ b → (gm_F_Judge a).2.1 ≠ (gm_F_Judge b).2.1 := by decide +kernel
theorem gm_o_Judge : ∀ k, k < 1 → parseFieldDescriptor (gm_F_Judge k).2.2.1 = some (gm_t_Judge k) := by decide +kernel
set_option maxRecDepth 20000 in
theorem gm_u_Judge : ∀ w ∈ u_ws gm_R_Judge gm_F_Judge 1, w ∈ gm_W := show ∀ w ∈ ([.laysFinal "GrammarMachine$Judge" "GrammarMachine$Judge" "tree" "LGrammarMachine$Tree;"] : List Cond), w ∈ gm_W from List.forall_mem_cons.mpr ⟨gm_in (List.mem_append_right _ (List.mem_append_left _ (List.mem_of_getElem? (i := 133) rfl))) rfl, fun _ h => absurd h List.not_mem_nil⟩
theorem gm_i_Judge : Cond.initialized gm_R_Judge ∈ gm_W := gm_in (List.mem_append_right _ (List.mem_append_left _ (List.mem_of_getElem? (i := 5) rfl))) rfl
theorem gm_m_Judge : Cond.instantiable gm_R_Judge 1 ∈ gm_W := gm_in (List.mem_append_right _ (List.mem_append_left _ (List.mem_of_getElem? (i := 127) rfl))) rfl
def gm_R_Code : String := "GrammarMachine$Code"
def gm_F_Code : u_T := fun k => match k with
  | 0 => ("GrammarMachine$Code", "tree", "LGrammarMachine$Tree;", true)
  | 1 => ("GrammarMachine$Code", "operations", "[I", true)
  | 2 => ("GrammarMachine$Code", "operands", "[I", true)
  | 3 => ("GrammarMachine$Code", "targets", "[I", true)
  | 4 => ("GrammarMachine$Code", "starts", "[I", true)
  | _ => ("GrammarMachine$Code", "size", "I", false)
def gm_t_Code : Nat → FieldType := fun k => match k with
  | 0 => .object "GrammarMachine$Tree"
  | 1 => .array .int
  | 2 => .array .int
  | 3 => .array .int
  | 4 => .array .int
  | _ => .int
theorem gm_n_Code : ∀ a, a < 6 → ∀ b, b < 6 → a ≠ b → (gm_F_Code a).2.1 ≠ (gm_F_Code b).2.1 := by decide +kernel
theorem gm_o_Code : ∀ k, k < 6 → parseFieldDescriptor (gm_F_Code k).2.2.1 = some (gm_t_Code k) := by decide +kernel
set_option maxRecDepth 20000 in
theorem gm_u_Code : ∀ w ∈ u_ws gm_R_Code gm_F_Code 6, w ∈ gm_W := show ∀ w ∈ ([.laysFinal "GrammarMachine$Code" "GrammarMachine$Code" "tree" "LGrammarMachine$Tree;", .laysFinal "GrammarMachine$Code" "GrammarMachine$Code" "operations" "[I", .laysFinal "GrammarMachine$Code" "GrammarMachine$Code" "operands" "[I", .laysFinal "GrammarMachine$Code" "GrammarMachine$Code" "targets" "[I", .laysFinal "GrammarMachine$Code" "GrammarMachine$Code" "starts" "[I", .lays "GrammarMachine$Code" "GrammarMachine$Code" "size" "I"] : List Cond), w ∈ gm_W from List.forall_mem_cons.mpr ⟨gm_in (List.mem_append_right _ (List.mem_append_left _ (List.mem_of_getElem? (i := 148) rfl))) rfl, List.forall_mem_cons.mpr ⟨gm_in (List.mem_append_right _ (List.mem_append_left _ (List.mem_of_getElem? (i := 150) rfl))) rfl, List.forall_mem_cons.mpr ⟨gm_in (List.mem_append_right _ (List.mem_append_left _ (List.mem_of_getElem? (i := 152) rfl))) rfl, List.forall_mem_cons.mpr ⟨gm_in (List.mem_append_right _ (List.mem_append_left _ (List.mem_of_getElem? (i := 154) rfl))) rfl, List.forall_mem_cons.mpr ⟨gm_in (List.mem_append_right _ (List.mem_append_left _ (List.mem_of_getElem? (i := 156) rfl))) rfl, List.forall_mem_cons.mpr ⟨gm_in (List.mem_append_right _ (List.mem_append_left _ (List.mem_of_getElem? (i := 158) rfl))) rfl, fun _ h => absurd h List.not_mem_nil⟩⟩⟩⟩⟩⟩
theorem gm_i_Code : Cond.initialized gm_R_Code ∈ gm_W := gm_in (List.mem_append_right _ (List.mem_append_left _ (List.mem_of_getElem? (i := 6) rfl))) rfl
theorem gm_m_Code : Cond.instantiable gm_R_Code 6 ∈ gm_W := gm_in (List.mem_append_right _ (List.mem_append_left _ (List.mem_of_getElem? (i := 137) rfl))) rfl
def gm_R_Reader : String := "GrammarMachine$Reader"
def gm_F_Reader : u_T := fun k => match k with
  | 0 => ("GrammarMachine$Reader", "text", "LGrammarMachine$Row;", true)
  | 1 => ("GrammarMachine$Reader", "tree", "LGrammarMachine$Tree;", true)
  | 2 => ("GrammarMachine$Reader", "open", "[I", true)
  | 3 => ("GrammarMachine$Reader", "opened", "I", false)
  | 4 => ("GrammarMachine$Reader", "place", "I", false)
  | _ => ("GrammarMachine$Reader", "wrong", "Z", false)
def gm_t_Reader : Nat → FieldType := fun k => match k with
  | 0 => .object "GrammarMachine$Row"
  | 1 => .object "GrammarMachine$Tree"
  | 2 => .array .int
  | 3 => .int
  | 4 => .int
  | _ => .boolean
theorem gm_n_Reader : ∀ a, a < 6 → ∀ b, b < 6 → a ≠ b → (gm_F_Reader a).2.1 ≠ (gm_F_Reader b).2.1 := by decide +kernel
theorem gm_o_Reader : ∀ k, k < 6 → parseFieldDescriptor (gm_F_Reader k).2.2.1 = some (gm_t_Reader k) := by decide +kernel
set_option maxRecDepth 20000 in
theorem gm_u_Reader : ∀ w ∈ u_ws gm_R_Reader gm_F_Reader 6, w ∈ gm_W := show ∀ w ∈ ([.laysFinal "GrammarMachine$Reader" "GrammarMachine$Reader" "text" "LGrammarMachine$Row;", .laysFinal "GrammarMachine$Reader" "GrammarMachine$Reader" "tree" "LGrammarMachine$Tree;", .laysFinal "GrammarMachine$Reader" "GrammarMachine$Reader" "open" "[I", .lays "GrammarMachine$Reader" "GrammarMachine$Reader" "opened" "I", .lays "GrammarMachine$Reader" "GrammarMachine$Reader" "place" "I", .lays "GrammarMachine$Reader" "GrammarMachine$Reader" "wrong" "Z"] : List Cond), w ∈ gm_W from List.forall_mem_cons.mpr ⟨gm_in (List.mem_append_right _ (List.mem_append_left _ (List.mem_of_getElem? (i := 173) rfl))) rfl, List.forall_mem_cons.mpr ⟨gm_in (List.mem_append_right _ (List.mem_append_left _ (List.mem_of_getElem? (i := 175) rfl))) rfl, List.forall_mem_cons.mpr ⟨gm_in (List.mem_append_right _ (List.mem_append_left _ (List.mem_of_getElem? (i := 177) rfl))) rfl, List.forall_mem_cons.mpr ⟨gm_in (List.mem_append_right _ (List.mem_append_left _ (List.mem_of_getElem? (i := 179) rfl))) rfl, List.forall_mem_cons.mpr ⟨gm_in (List.mem_append_right _ (List.mem_append_left _ (List.mem_of_getElem? (i := 181) rfl))) rfl, List.forall_mem_cons.mpr ⟨gm_in (List.mem_append_right _ (List.mem_append_left _ (List.mem_of_getElem? (i := 183) rfl))) rfl, fun _ h => absurd h List.not_mem_nil⟩⟩⟩⟩⟩⟩
theorem gm_i_Reader : Cond.initialized gm_R_Reader ∈ gm_W := gm_in (List.mem_append_right _ (List.mem_append_left _ (List.mem_of_getElem? (i := 7) rfl))) rfl
theorem gm_m_Reader : Cond.instantiable gm_R_Reader 6 ∈ gm_W := gm_in (List.mem_append_right _ (List.mem_append_left _ (List.mem_of_getElem? (i := 162) rfl))) rfl
def gm_R_Runner : String := "GrammarMachine$Runner"
def gm_F_Runner : u_T := fun k => match k with
  | 0 => ("GrammarMachine$Runner", "subject", "LGrammarMachine$Row;", true)
  | 1 => ("GrammarMachine$Runner", "captures", "LGrammarMachine$Captures;", true)
  | 2 => ("GrammarMachine$Runner", "memory", "LGrammarMachine$Memory;", true)
  | 3 => ("GrammarMachine$Runner", "frameTargets", "[I", true)
  | 4 => ("GrammarMachine$Runner", "framePlaces", "[I", true)
  | 5 => ("GrammarMachine$Runner", "frameCaptures", "[I", true)
  | 6 => ("GrammarMachine$Runner", "frameRules", "[I", true)
  | 7 => ("GrammarMachine$Runner", "frames", "I", false)
  | 8 => ("GrammarMachine$Runner", "tree", "LGrammarMachine$Tree;", false)
  | 9 => ("GrammarMachine$Runner", "code", "LGrammarMachine$Code;", false)
  | 10 => ("GrammarMachine$Runner", "looking", "Z", false)
  | 11 => ("GrammarMachine$Runner", "state", "I", false)
  | 12 => ("GrammarMachine$Runner", "at", "I", false)
  | 13 => ("GrammarMachine$Runner", "place", "I", false)
  | _ => ("GrammarMachine$Runner", "effort", "I", false)
def gm_t_Runner : Nat → FieldType := fun k => match k with
  | 0 => .object "GrammarMachine$Row"
  | 1 => .object "GrammarMachine$Captures"
  | 2 => .object "GrammarMachine$Memory"
  | 3 => .array .int
  | 4 => .array .int
  | 5 => .array .int
  | 6 => .array .int
  | 7 => .int
  | 8 => .object "GrammarMachine$Tree"
  | 9 => .object "GrammarMachine$Code"
  | 10 => .boolean
  | 11 => .int
  | 12 => .int
  | 13 => .int
  | _ => .int
theorem gm_n_Runner : ∀ a, a < 15 → ∀ b, b < 15 → a ≠ b → (gm_F_Runner a).2.1 ≠ (gm_F_Runner b).2.1 := by decide +kernel
theorem gm_o_Runner : ∀ k, k < 15 → parseFieldDescriptor (gm_F_Runner k).2.2.1 = some (gm_t_Runner k) := by decide +kernel
set_option maxRecDepth 20000 in
theorem gm_u_Runner : ∀ w ∈ u_ws gm_R_Runner gm_F_Runner 15, w ∈ gm_W := show ∀ w ∈ ([.laysFinal "GrammarMachine$Runner" "GrammarMachine$Runner" "subject" "LGrammarMachine$Row;", .laysFinal "GrammarMachine$Runner" "GrammarMachine$Runner" "captures" "LGrammarMachine$Captures;", .laysFinal "GrammarMachine$Runner" "GrammarMachine$Runner" "memory" "LGrammarMachine$Memory;", .laysFinal "GrammarMachine$Runner" "GrammarMachine$Runner" "frameTargets" "[I", .laysFinal "GrammarMachine$Runner" "GrammarMachine$Runner" "framePlaces" "[I", .laysFinal "GrammarMachine$Runner" "GrammarMachine$Runner" "frameCaptures" "[I", .laysFinal "GrammarMachine$Runner" "GrammarMachine$Runner" "frameRules" "[I", .lays "GrammarMachine$Runner" "GrammarMachine$Runner" "frames" "I", .lays "GrammarMachine$Runner" "GrammarMachine$Runner" "tree" "LGrammarMachine$Tree;", .lays "GrammarMachine$Runner" "GrammarMachine$Runner" "code" "LGrammarMachine$Code;", .lays "GrammarMachine$Runner" "GrammarMachine$Runner" "looking" "Z", .lays "GrammarMachine$Runner" "GrammarMachine$Runner" "state" "I", .lays "GrammarMachine$Runner" "GrammarMachine$Runner" "at" "I", .lays "GrammarMachine$Runner" "GrammarMachine$Runner" "place" "I", .lays "GrammarMachine$Runner" "GrammarMachine$Runner" "effort" "I"] : List Cond), w ∈ gm_W from List.forall_mem_cons.mpr ⟨gm_in (List.mem_append_right _ (List.mem_append_right _ (List.mem_append_left _ (List.mem_of_getElem? (i := 30) rfl)))) rfl, List.forall_mem_cons.mpr ⟨gm_in (List.mem_append_right _ (List.mem_append_right _ (List.mem_append_left _ (List.mem_of_getElem? (i := 32) rfl)))) rfl, List.forall_mem_cons.mpr ⟨gm_in (List.mem_append_right _ (List.mem_append_right _ (List.mem_append_left _ (List.mem_of_getElem? (i := 34) rfl)))) rfl, List.forall_mem_cons.mpr ⟨gm_in (List.mem_append_right _ (List.mem_append_right _ (List.mem_append_left _ (List.mem_of_getElem? (i := 36) rfl)))) rfl, List.forall_mem_cons.mpr ⟨gm_in (List.mem_append_right _ (List.mem_append_right _ (List.mem_append_left _ (List.mem_of_getElem? (i := 38) rfl)))) rfl, List.forall_mem_cons.mpr ⟨gm_in (List.mem_append_right _ (List.mem_append_right _ (List.mem_append_left _ (List.mem_of_getElem? (i := 40) rfl)))) rfl, List.forall_mem_cons.mpr ⟨gm_in (List.mem_append_right _ (List.mem_append_right _ (List.mem_append_left _ (List.mem_of_getElem? (i := 42) rfl)))) rfl, List.forall_mem_cons.mpr ⟨gm_in (List.mem_append_right _ (List.mem_append_right _ (List.mem_append_left _ (List.mem_of_getElem? (i := 44) rfl)))) rfl, List.forall_mem_cons.mpr ⟨gm_in (List.mem_append_right _ (List.mem_append_right _ (List.mem_append_left _ (List.mem_of_getElem? (i := 46) rfl)))) rfl, List.forall_mem_cons.mpr ⟨gm_in (List.mem_append_right _ (List.mem_append_right _ (List.mem_append_left _ (List.mem_of_getElem? (i := 48) rfl)))) rfl, List.forall_mem_cons.mpr ⟨gm_in (List.mem_append_right _ (List.mem_append_right _ (List.mem_append_left _ (List.mem_of_getElem? (i := 50) rfl)))) rfl, List.forall_mem_cons.mpr ⟨gm_in (List.mem_append_right _ (List.mem_append_right _ (List.mem_append_left _ (List.mem_of_getElem? (i := 52) rfl)))) rfl, List.forall_mem_cons.mpr ⟨gm_in (List.mem_append_right _ (List.mem_append_right _ (List.mem_append_left _ (List.mem_of_getElem? (i := 54) rfl)))) rfl, List.forall_mem_cons.mpr ⟨gm_in (List.mem_append_right _ (List.mem_append_right _ (List.mem_append_left _ (List.mem_of_getElem? (i := 56) rfl)))) rfl, List.forall_mem_cons.mpr ⟨gm_in (List.mem_append_right _ (List.mem_append_right _ (List.mem_append_left _ (List.mem_of_getElem? (i := 58) rfl)))) rfl, fun _ h => absurd h List.not_mem_nil⟩⟩⟩⟩⟩⟩⟩⟩⟩⟩⟩⟩⟩⟩⟩
theorem gm_i_Runner : Cond.initialized gm_R_Runner ∈ gm_W := gm_in (List.mem_append_right _ (List.mem_append_left _ (List.mem_of_getElem? (i := 8) rfl))) rfl
theorem gm_m_Runner : Cond.instantiable gm_R_Runner 15 ∈ gm_W := gm_in (List.mem_append_right _ (List.mem_append_left _ (List.mem_of_getElem? (i := 206) rfl))) rfl
def gm_R_Captures : String := "GrammarMachine$Captures"
def gm_F_Captures : u_T := fun k => match k with
  | 0 => ("GrammarMachine$Captures", "begins", "[I", true)
  | 1 => ("GrammarMachine$Captures", "ends", "[I", true)
  | _ => ("GrammarMachine$Captures", "size", "I", false)
def gm_t_Captures : Nat → FieldType := fun k => match k with
  | 0 => .array .int
  | 1 => .array .int
  | _ => .int
theorem gm_n_Captures : ∀ a, a < 3 → ∀ b, b < 3 → a ≠ b → (gm_F_Captures a).2.1 ≠ (gm_F_Captures b).2.1 := by decide +kernel
theorem gm_o_Captures : ∀ k, k < 3 → parseFieldDescriptor (gm_F_Captures k).2.2.1 = some (gm_t_Captures k) := by decide +kernel
set_option maxRecDepth 20000 in
theorem gm_u_Captures : ∀ w ∈ u_ws gm_R_Captures gm_F_Captures 3, w ∈ gm_W := show ∀ w ∈ ([.laysFinal "GrammarMachine$Captures" "GrammarMachine$Captures" "begins" "[I", .laysFinal "GrammarMachine$Captures" "GrammarMachine$Captures" "ends" "[I", .lays "GrammarMachine$Captures" "GrammarMachine$Captures" "size" "I"] : List Cond), w ∈ gm_W from List.forall_mem_cons.mpr ⟨gm_in (List.mem_append_right _ (List.mem_append_left _ (List.mem_of_getElem? (i := 225) rfl))) rfl, List.forall_mem_cons.mpr ⟨gm_in (List.mem_append_right _ (List.mem_append_left _ (List.mem_of_getElem? (i := 227) rfl))) rfl, List.forall_mem_cons.mpr ⟨gm_in (List.mem_append_right _ (List.mem_append_left _ (List.mem_of_getElem? (i := 229) rfl))) rfl, fun _ h => absurd h List.not_mem_nil⟩⟩⟩
theorem gm_i_Captures : Cond.initialized gm_R_Captures ∈ gm_W := gm_in (List.mem_append_right _ (List.mem_append_left _ (List.mem_of_getElem? (i := 9) rfl))) rfl
theorem gm_m_Captures : Cond.instantiable gm_R_Captures 3 ∈ gm_W := gm_in (List.mem_append_right _ (List.mem_append_left _ (List.mem_of_getElem? (i := 212) rfl))) rfl
def gm_R_Memory : String := "GrammarMachine$Memory"
def gm_F_Memory : u_T := fun k => match k with
  | 0 => ("GrammarMachine$Memory", "results", "[I", true)
  | 1 => ("GrammarMachine$Memory", "keptFrom", "[I", true)
  | 2 => ("GrammarMachine$Memory", "keptTo", "[I", true)
  | _ => ("GrammarMachine$Memory", "kept", "LGrammarMachine$Captures;", true)
def gm_t_Memory : Nat → FieldType := fun k => match k with
  | 0 => .array .int
  | 1 => .array .int
  | 2 => .array .int
  | _ => .object "GrammarMachine$Captures"
theorem gm_n_Memory : ∀ a, a < 4 → ∀ b, b < 4 → a ≠ b → (gm_F_Memory a).2.1 ≠ (gm_F_Memory b).2.1 := by decide +kernel
theorem gm_o_Memory : ∀ k, k < 4 → parseFieldDescriptor (gm_F_Memory k).2.2.1 = some (gm_t_Memory k) := by decide +kernel
set_option maxRecDepth 20000 in
theorem gm_u_Memory : ∀ w ∈ u_ws gm_R_Memory gm_F_Memory 4, w ∈ gm_W := show ∀ w ∈ ([.laysFinal "GrammarMachine$Memory" "GrammarMachine$Memory" "results" "[I", .laysFinal "GrammarMachine$Memory" "GrammarMachine$Memory" "keptFrom" "[I", .laysFinal "GrammarMachine$Memory" "GrammarMachine$Memory" "keptTo" "[I", .laysFinal "GrammarMachine$Memory" "GrammarMachine$Memory" "kept" "LGrammarMachine$Captures;"] : List Cond), w ∈ gm_W from List.forall_mem_cons.mpr ⟨gm_in (List.mem_append_right _ (List.mem_append_right _ (List.mem_append_left _ (List.mem_of_getElem? (i := 4) rfl)))) rfl, List.forall_mem_cons.mpr ⟨gm_in (List.mem_append_right _ (List.mem_append_right _ (List.mem_append_left _ (List.mem_of_getElem? (i := 6) rfl)))) rfl, List.forall_mem_cons.mpr ⟨gm_in (List.mem_append_right _ (List.mem_append_right _ (List.mem_append_left _ (List.mem_of_getElem? (i := 8) rfl)))) rfl, List.forall_mem_cons.mpr ⟨gm_in (List.mem_append_right _ (List.mem_append_right _ (List.mem_append_left _ (List.mem_of_getElem? (i := 10) rfl)))) rfl, fun _ h => absurd h List.not_mem_nil⟩⟩⟩⟩
theorem gm_i_Memory : Cond.initialized gm_R_Memory ∈ gm_W := gm_in (List.mem_append_right _ (List.mem_append_left _ (List.mem_of_getElem? (i := 10) rfl))) rfl
theorem gm_m_Memory : Cond.instantiable gm_R_Memory 4 ∈ gm_W := gm_in (List.mem_append_right _ (List.mem_append_left _ (List.mem_of_getElem? (i := 233) rfl))) rfl
def gm_R_MD : String := "GrammarMachineModel"
def gm_F_MD : u_T := fun k => match k with
  | 0 => ("GrammarMachineModel", "code", "I", false)
  | 1 => ("GrammarMachineModel", "fault", "I", false)
  | 2 => ("GrammarMachineModel", "typed", "I", false)
  | 3 => ("GrammarMachineModel", "text", "[I", true)
  | 4 => ("GrammarMachineModel", "base", "I", false)
  | 5 => ("GrammarMachineModel", "fresh", "I", false)
  | 6 => ("GrammarMachineModel", "ruleCount", "[I", true)
  | 7 => ("GrammarMachineModel", "name", "[I", true)
  | 8 => ("GrammarMachineModel", "whole", "[I", true)
  | 9 => ("GrammarMachineModel", "parts", "[I", true)
  | 10 => ("GrammarMachineModel", "kind", "[I", true)
  | 11 => ("GrammarMachineModel", "one", "[I", true)
  | 12 => ("GrammarMachineModel", "two", "[I", true)
  | 13 => ("GrammarMachineModel", "owner", "[I", true)
  | 14 => ("GrammarMachineModel", "kept", "[I", true)
  | 15 => ("GrammarMachineModel", "empty", "[Z", true)
  | 16 => ("GrammarMachineModel", "begins", "[I", true)
  | 17 => ("GrammarMachineModel", "low", "[J", true)
  | 18 => ("GrammarMachineModel", "high", "[J", true)
  | 19 => ("GrammarMachineModel", "at", "I", false)
  | 20 => ("GrammarMachineModel", "depth", "I", false)
  | 21 => ("GrammarMachineModel", "items", "I", false)
  | 22 => ("GrammarMachineModel", "alternatives", "I", false)
  | 23 => ("GrammarMachineModel", "prefix", "I", false)
  | 24 => ("GrammarMachineModel", "wrong", "Z", false)
  | 25 => ("GrammarMachineModel", "open", "Z", false)
  | 26 => ("GrammarMachineModel", "bracket", "[I", true)
  | 27 => ("GrammarMachineModel", "before", "[I", true)
  | 28 => ("GrammarMachineModel", "itemBase", "[I", true)
  | 29 => ("GrammarMachineModel", "alternativeBase", "[I", true)
  | 30 => ("GrammarMachineModel", "item", "[I", true)
  | 31 => ("GrammarMachineModel", "alternative", "[I", true)
  | 32 => ("GrammarMachineModel", "fed", "I", false)
  | 33 => ("GrammarMachineModel", "subject", "[I", true)
  | 34 => ("GrammarMachineModel", "takes", "[I", true)
  | 35 => ("GrammarMachineModel", "costs", "[I", true)
  | 36 => ("GrammarMachineModel", "met", "[Z", true)
  | 37 => ("GrammarMachineModel", "waiting", "[I", true)
  | 38 => ("GrammarMachineModel", "waits", "I", false)
  | 39 => ("GrammarMachineModel", "matched", "Z", false)
  | 40 => ("GrammarMachineModel", "work", "I", false)
  | 41 => ("GrammarMachineModel", "nodes", "I", false)
  | 42 => ("GrammarMachineModel", "begin", "[I", true)
  | 43 => ("GrammarMachineModel", "end", "[I", true)
  | _ => ("GrammarMachineModel", "inside", "[I", true)
def gm_t_MD : Nat → FieldType := fun k => match k with
  | 0 => .int
  | 1 => .int
  | 2 => .int
  | 3 => .array .int
  | 4 => .int
  | 5 => .int
  | 6 => .array .int
  | 7 => .array .int
  | 8 => .array .int
  | 9 => .array .int
  | 10 => .array .int
  | 11 => .array .int
  | 12 => .array .int
  | 13 => .array .int
  | 14 => .array .int
  | 15 => .array .boolean
  | 16 => .array .int
  | 17 => .array .long
  | 18 => .array .long
  | 19 => .int
  | 20 => .int
  | 21 => .int
  | 22 => .int
  | 23 => .int
  | 24 => .boolean
  | 25 => .boolean
  | 26 => .array .int
  | 27 => .array .int
  | 28 => .array .int
  | 29 => .array .int
  | 30 => .array .int
  | 31 => .array .int
  | 32 => .int
  | 33 => .array .int
  | 34 => .array .int
  | 35 => .array .int
  | 36 => .array .boolean
  | 37 => .array .int
  | 38 => .int
  | 39 => .boolean
  | 40 => .int
  | 41 => .int
  | 42 => .array .int
  | 43 => .array .int
  | _ => .array .int
theorem gm_n_MD : ∀ a, a < 45 → ∀ b, b < 45 → a ≠ b → (gm_F_MD a).2.1 ≠ (gm_F_MD b).2.1 := by decide +kernel
theorem gm_o_MD : ∀ k, k < 45 → parseFieldDescriptor (gm_F_MD k).2.2.1 = some (gm_t_MD k) := by decide +kernel
set_option maxRecDepth 20000 in
theorem gm_u_MD : ∀ w ∈ u_ws gm_R_MD gm_F_MD 45, w ∈ gm_W := show ∀ w ∈ ([.lays "GrammarMachineModel" "GrammarMachineModel" "code" "I", .lays "GrammarMachineModel" "GrammarMachineModel" "fault" "I", .lays "GrammarMachineModel" "GrammarMachineModel" "typed" "I", .laysFinal "GrammarMachineModel" "GrammarMachineModel" "text" "[I", .lays "GrammarMachineModel" "GrammarMachineModel" "base" "I", .lays "GrammarMachineModel" "GrammarMachineModel" "fresh" "I", .laysFinal "GrammarMachineModel" "GrammarMachineModel" "ruleCount" "[I", .laysFinal "GrammarMachineModel" "GrammarMachineModel" "name" "[I", .laysFinal "GrammarMachineModel" "GrammarMachineModel" "whole" "[I", .laysFinal "GrammarMachineModel" "GrammarMachineModel" "parts" "[I", .laysFinal "GrammarMachineModel" "GrammarMachineModel" "kind" "[I", .laysFinal "GrammarMachineModel" "GrammarMachineModel" "one" "[I", .laysFinal "GrammarMachineModel" "GrammarMachineModel" "two" "[I", .laysFinal "GrammarMachineModel" "GrammarMachineModel" "owner" "[I", .laysFinal "GrammarMachineModel" "GrammarMachineModel" "kept" "[I", .laysFinal "GrammarMachineModel" "GrammarMachineModel" "empty" "[Z", .laysFinal "GrammarMachineModel" "GrammarMachineModel" "begins" "[I", .laysFinal "GrammarMachineModel" "GrammarMachineModel" "low" "[J", .laysFinal "GrammarMachineModel" "GrammarMachineModel" "high" "[J", .lays "GrammarMachineModel" "GrammarMachineModel" "at" "I", .lays "GrammarMachineModel" "GrammarMachineModel" "depth" "I", .lays "GrammarMachineModel" "GrammarMachineModel" "items" "I", .lays "GrammarMachineModel" "GrammarMachineModel" "alternatives" "I", .lays "GrammarMachineModel" "GrammarMachineModel" "prefix" "I", .lays "GrammarMachineModel" "GrammarMachineModel" "wrong" "Z", .lays "GrammarMachineModel" "GrammarMachineModel" "open" "Z", .laysFinal "GrammarMachineModel" "GrammarMachineModel" "bracket" "[I", .laysFinal "GrammarMachineModel" "GrammarMachineModel" "before" "[I", .laysFinal "GrammarMachineModel" "GrammarMachineModel" "itemBase" "[I", .laysFinal "GrammarMachineModel" "GrammarMachineModel" "alternativeBase" "[I", .laysFinal "GrammarMachineModel" "GrammarMachineModel" "item" "[I", .laysFinal "GrammarMachineModel" "GrammarMachineModel" "alternative" "[I", .lays "GrammarMachineModel" "GrammarMachineModel" "fed" "I", .laysFinal "GrammarMachineModel" "GrammarMachineModel" "subject" "[I", .laysFinal "GrammarMachineModel" "GrammarMachineModel" "takes" "[I", .laysFinal "GrammarMachineModel" "GrammarMachineModel" "costs" "[I", .laysFinal "GrammarMachineModel" "GrammarMachineModel" "met" "[Z", .laysFinal "GrammarMachineModel" "GrammarMachineModel" "waiting" "[I", .lays "GrammarMachineModel" "GrammarMachineModel" "waits" "I", .lays "GrammarMachineModel" "GrammarMachineModel" "matched" "Z", .lays "GrammarMachineModel" "GrammarMachineModel" "work" "I", .lays "GrammarMachineModel" "GrammarMachineModel" "nodes" "I", .laysFinal "GrammarMachineModel" "GrammarMachineModel" "begin" "[I", .laysFinal "GrammarMachineModel" "GrammarMachineModel" "end" "[I", .laysFinal "GrammarMachineModel" "GrammarMachineModel" "inside" "[I"] : List Cond), w ∈ gm_W from List.forall_mem_cons.mpr ⟨gm_in (List.mem_append_right _ (List.mem_append_right _ (List.mem_append_right _ (List.mem_append_right _ (List.mem_append_left _ (List.mem_of_getElem? (i := 185) rfl)))))) rfl, List.forall_mem_cons.mpr ⟨gm_in (List.mem_append_right _ (List.mem_append_right _ (List.mem_append_right _ (List.mem_append_right _ (List.mem_append_left _ (List.mem_of_getElem? (i := 187) rfl)))))) rfl, List.forall_mem_cons.mpr ⟨gm_in (List.mem_append_right _ (List.mem_append_right _ (List.mem_append_right _ (List.mem_append_right _ (List.mem_append_left _ (List.mem_of_getElem? (i := 189) rfl)))))) rfl, List.forall_mem_cons.mpr ⟨gm_in (List.mem_append_right _ (List.mem_append_right _ (List.mem_append_right _ (List.mem_append_right _ (List.mem_append_left _ (List.mem_of_getElem? (i := 191) rfl)))))) rfl, List.forall_mem_cons.mpr ⟨gm_in (List.mem_append_right _ (List.mem_append_right _ (List.mem_append_right _ (List.mem_append_right _ (List.mem_append_left _ (List.mem_of_getElem? (i := 193) rfl)))))) rfl, List.forall_mem_cons.mpr ⟨gm_in (List.mem_append_right _ (List.mem_append_right _ (List.mem_append_right _ (List.mem_append_right _ (List.mem_append_left _ (List.mem_of_getElem? (i := 195) rfl)))))) rfl, List.forall_mem_cons.mpr ⟨gm_in (List.mem_append_right _ (List.mem_append_right _ (List.mem_append_right _ (List.mem_append_right _ (List.mem_append_left _ (List.mem_of_getElem? (i := 197) rfl)))))) rfl, List.forall_mem_cons.mpr ⟨gm_in (List.mem_append_right _ (List.mem_append_right _ (List.mem_append_right _ (List.mem_append_right _ (List.mem_append_left _ (List.mem_of_getElem? (i := 199) rfl)))))) rfl, List.forall_mem_cons.mpr ⟨gm_in (List.mem_append_right _ (List.mem_append_right _ (List.mem_append_right _ (List.mem_append_right _ (List.mem_append_left _ (List.mem_of_getElem? (i := 201) rfl)))))) rfl, List.forall_mem_cons.mpr ⟨gm_in (List.mem_append_right _ (List.mem_append_right _ (List.mem_append_right _ (List.mem_append_right _ (List.mem_append_left _ (List.mem_of_getElem? (i := 203) rfl)))))) rfl, List.forall_mem_cons.mpr ⟨gm_in (List.mem_append_right _ (List.mem_append_right _ (List.mem_append_right _ (List.mem_append_right _ (List.mem_append_left _ (List.mem_of_getElem? (i := 205) rfl)))))) rfl, List.forall_mem_cons.mpr ⟨gm_in (List.mem_append_right _ (List.mem_append_right _ (List.mem_append_right _ (List.mem_append_right _ (List.mem_append_left _ (List.mem_of_getElem? (i := 207) rfl)))))) rfl, List.forall_mem_cons.mpr ⟨gm_in (List.mem_append_right _ (List.mem_append_right _ (List.mem_append_right _ (List.mem_append_right _ (List.mem_append_left _ (List.mem_of_getElem? (i := 209) rfl)))))) rfl, List.forall_mem_cons.mpr ⟨gm_in (List.mem_append_right _ (List.mem_append_right _ (List.mem_append_right _ (List.mem_append_right _ (List.mem_append_left _ (List.mem_of_getElem? (i := 211) rfl)))))) rfl, List.forall_mem_cons.mpr ⟨gm_in (List.mem_append_right _ (List.mem_append_right _ (List.mem_append_right _ (List.mem_append_right _ (List.mem_append_left _ (List.mem_of_getElem? (i := 213) rfl)))))) rfl, List.forall_mem_cons.mpr ⟨gm_in (List.mem_append_right _ (List.mem_append_right _ (List.mem_append_right _ (List.mem_append_right _ (List.mem_append_left _ (List.mem_of_getElem? (i := 215) rfl)))))) rfl, List.forall_mem_cons.mpr ⟨gm_in (List.mem_append_right _ (List.mem_append_right _ (List.mem_append_right _ (List.mem_append_right _ (List.mem_append_left _ (List.mem_of_getElem? (i := 217) rfl)))))) rfl, List.forall_mem_cons.mpr ⟨gm_in (List.mem_append_right _ (List.mem_append_right _ (List.mem_append_right _ (List.mem_append_right _ (List.mem_append_left _ (List.mem_of_getElem? (i := 219) rfl)))))) rfl, List.forall_mem_cons.mpr ⟨gm_in (List.mem_append_right _ (List.mem_append_right _ (List.mem_append_right _ (List.mem_append_right _ (List.mem_append_left _ (List.mem_of_getElem? (i := 221) rfl)))))) rfl, List.forall_mem_cons.mpr ⟨gm_in (List.mem_append_right _ (List.mem_append_right _ (List.mem_append_right _ (List.mem_append_right _ (List.mem_append_left _ (List.mem_of_getElem? (i := 223) rfl)))))) rfl, List.forall_mem_cons.mpr ⟨gm_in (List.mem_append_right _ (List.mem_append_right _ (List.mem_append_right _ (List.mem_append_right _ (List.mem_append_left _ (List.mem_of_getElem? (i := 225) rfl)))))) rfl, List.forall_mem_cons.mpr ⟨gm_in (List.mem_append_right _ (List.mem_append_right _ (List.mem_append_right _ (List.mem_append_right _ (List.mem_append_left _ (List.mem_of_getElem? (i := 227) rfl)))))) rfl, List.forall_mem_cons.mpr ⟨gm_in (List.mem_append_right _ (List.mem_append_right _ (List.mem_append_right _ (List.mem_append_right _ (List.mem_append_left _ (List.mem_of_getElem? (i := 229) rfl)))))) rfl, List.forall_mem_cons.mpr ⟨gm_in (List.mem_append_right _ (List.mem_append_right _ (List.mem_append_right _ (List.mem_append_right _ (List.mem_append_left _ (List.mem_of_getElem? (i := 231) rfl)))))) rfl, List.forall_mem_cons.mpr ⟨gm_in (List.mem_append_right _ (List.mem_append_right _ (List.mem_append_right _ (List.mem_append_right _ (List.mem_append_left _ (List.mem_of_getElem? (i := 233) rfl)))))) rfl, List.forall_mem_cons.mpr ⟨gm_in (List.mem_append_right _ (List.mem_append_right _ (List.mem_append_right _ (List.mem_append_right _ (List.mem_append_left _ (List.mem_of_getElem? (i := 235) rfl)))))) rfl, List.forall_mem_cons.mpr ⟨gm_in (List.mem_append_right _ (List.mem_append_right _ (List.mem_append_right _ (List.mem_append_right _ (List.mem_append_left _ (List.mem_of_getElem? (i := 237) rfl)))))) rfl, List.forall_mem_cons.mpr ⟨gm_in (List.mem_append_right _ (List.mem_append_right _ (List.mem_append_right _ (List.mem_append_right _ (List.mem_append_left _ (List.mem_of_getElem? (i := 239) rfl)))))) rfl, List.forall_mem_cons.mpr ⟨gm_in (List.mem_append_right _ (List.mem_append_right _ (List.mem_append_right _ (List.mem_append_right _ (List.mem_append_right _ (List.mem_append_left _ (List.mem_of_getElem? (i := 1) rfl))))))) rfl, List.forall_mem_cons.mpr ⟨gm_in (List.mem_append_right _ (List.mem_append_right _ (List.mem_append_right _ (List.mem_append_right _ (List.mem_append_right _ (List.mem_append_left _ (List.mem_of_getElem? (i := 3) rfl))))))) rfl, List.forall_mem_cons.mpr ⟨gm_in (List.mem_append_right _ (List.mem_append_right _ (List.mem_append_right _ (List.mem_append_right _ (List.mem_append_right _ (List.mem_append_left _ (List.mem_of_getElem? (i := 5) rfl))))))) rfl, List.forall_mem_cons.mpr ⟨gm_in (List.mem_append_right _ (List.mem_append_right _ (List.mem_append_right _ (List.mem_append_right _ (List.mem_append_right _ (List.mem_append_left _ (List.mem_of_getElem? (i := 7) rfl))))))) rfl, List.forall_mem_cons.mpr ⟨gm_in (List.mem_append_right _ (List.mem_append_right _ (List.mem_append_right _ (List.mem_append_right _ (List.mem_append_right _ (List.mem_append_left _ (List.mem_of_getElem? (i := 9) rfl))))))) rfl, List.forall_mem_cons.mpr ⟨gm_in (List.mem_append_right _ (List.mem_append_right _ (List.mem_append_right _ (List.mem_append_right _ (List.mem_append_right _ (List.mem_append_left _ (List.mem_of_getElem? (i := 11) rfl))))))) rfl, List.forall_mem_cons.mpr ⟨gm_in (List.mem_append_right _ (List.mem_append_right _ (List.mem_append_right _ (List.mem_append_right _ (List.mem_append_right _ (List.mem_append_left _ (List.mem_of_getElem? (i := 13) rfl))))))) rfl, List.forall_mem_cons.mpr ⟨gm_in (List.mem_append_right _ (List.mem_append_right _ (List.mem_append_right _ (List.mem_append_right _ (List.mem_append_right _ (List.mem_append_left _ (List.mem_of_getElem? (i := 15) rfl))))))) rfl, List.forall_mem_cons.mpr ⟨gm_in (List.mem_append_right _ (List.mem_append_right _ (List.mem_append_right _ (List.mem_append_right _ (List.mem_append_right _ (List.mem_append_left _ (List.mem_of_getElem? (i := 17) rfl))))))) rfl, List.forall_mem_cons.mpr ⟨gm_in (List.mem_append_right _ (List.mem_append_right _ (List.mem_append_right _ (List.mem_append_right _ (List.mem_append_right _ (List.mem_append_left _ (List.mem_of_getElem? (i := 19) rfl))))))) rfl, List.forall_mem_cons.mpr ⟨gm_in (List.mem_append_right _ (List.mem_append_right _ (List.mem_append_right _ (List.mem_append_right _ (List.mem_append_right _ (List.mem_append_left _ (List.mem_of_getElem? (i := 21) rfl))))))) rfl, List.forall_mem_cons.mpr ⟨gm_in (List.mem_append_right _ (List.mem_append_right _ (List.mem_append_right _ (List.mem_append_right _ (List.mem_append_right _ (List.mem_append_left _ (List.mem_of_getElem? (i := 23) rfl))))))) rfl, List.forall_mem_cons.mpr ⟨gm_in (List.mem_append_right _ (List.mem_append_right _ (List.mem_append_right _ (List.mem_append_right _ (List.mem_append_right _ (List.mem_append_left _ (List.mem_of_getElem? (i := 25) rfl))))))) rfl, List.forall_mem_cons.mpr ⟨gm_in (List.mem_append_right _ (List.mem_append_right _ (List.mem_append_right _ (List.mem_append_right _ (List.mem_append_right _ (List.mem_append_left _ (List.mem_of_getElem? (i := 27) rfl))))))) rfl, List.forall_mem_cons.mpr ⟨gm_in (List.mem_append_right _ (List.mem_append_right _ (List.mem_append_right _ (List.mem_append_right _ (List.mem_append_right _ (List.mem_append_left _ (List.mem_of_getElem? (i := 29) rfl))))))) rfl, List.forall_mem_cons.mpr ⟨gm_in (List.mem_append_right _ (List.mem_append_right _ (List.mem_append_right _ (List.mem_append_right _ (List.mem_append_right _ (List.mem_append_left _ (List.mem_of_getElem? (i := 31) rfl))))))) rfl, List.forall_mem_cons.mpr ⟨gm_in (List.mem_append_right _ (List.mem_append_right _ (List.mem_append_right _ (List.mem_append_right _ (List.mem_append_right _ (List.mem_append_left _ (List.mem_of_getElem? (i := 33) rfl))))))) rfl, fun _ h => absurd h List.not_mem_nil⟩⟩⟩⟩⟩⟩⟩⟩⟩⟩⟩⟩⟩⟩⟩⟩⟩⟩⟩⟩⟩⟩⟩⟩⟩⟩⟩⟩⟩⟩⟩⟩⟩⟩⟩⟩⟩⟩⟩⟩⟩⟩⟩⟩⟩
theorem gm_i_MD : Cond.initialized gm_R_MD ∈ gm_W := gm_in (List.mem_append_right _ (List.mem_append_left _ (List.mem_of_getElem? (i := 11) rfl))) rfl
theorem gm_m_MD : Cond.instantiable gm_R_MD 45 ∈ gm_W := gm_in (List.mem_append_right _ (List.mem_append_right _ (List.mem_append_right _ (List.mem_append_right _ (List.mem_append_left _ (List.mem_of_getElem? (i := 135) rfl)))))) rfl
def gm_R_LW : String := "GrammarMachineLaw"
/-- the classes whose objects the worlds hold -/
abbrev gm_cl : List vw_C := [(gm_R_GM, gm_F_GM, 8), (gm_R_Row, gm_F_Row, 2), (gm_R_Grammar, gm_F_Grammar, 4), (gm_R_Tree, gm_F_Tree, 14), (gm_R_Judge, gm_F_Judge, 1), (gm_R_Code, gm_F_Code, 6), (gm_R_Reader, gm_F_Reader, 6), (gm_R_Runner, gm_F_Runner, 15), (gm_R_Captures, gm_F_Captures, 3), (gm_R_Memory, gm_F_Memory, 4), (gm_R_MD, gm_F_MD, 45)]
/-- a world at the end of a method -/
abbrev gm_at (D : va_G) (A : Nat → Prop) (ws : va_W) (tys : List (ClassId × FieldType)) (t : State) : Prop := va_P D gm_cl ws t.heap ∧ va_K D gm_cl tys t ∧ va_D A ws
theorem gm_aI : Cond.arrayClass .int ∈ gm_W := gm_in (List.mem_append_right _ (List.mem_append_left _ (List.mem_of_getElem? (i := 123) rfl))) rfl
theorem gm_aJ : Cond.arrayClass .long ∈ gm_W := gm_in (List.mem_append_right _ (List.mem_append_left _ (List.mem_of_getElem? (i := 125) rfl))) rfl
theorem gm_aC : Cond.arrayClass .char ∈ gm_W := gm_in (List.mem_append_right _ (List.mem_append_left _ (List.mem_of_getElem? (i := 43) rfl))) rfl
theorem gm_aZ : Cond.arrayClass .boolean ∈ gm_W := gm_in (List.mem_append_right _ (List.mem_append_left _ (List.mem_of_getElem? (i := 124) rfl))) rfl
theorem gm_oi1 : Cond.instanceMethod objectInit ∈ gm_W := gm_in (List.mem_append_right _ (List.mem_append_left _ (List.mem_of_getElem? (i := 26) rfl))) rfl
theorem gm_oi2 : Cond.code objectInit ⟨#[0xb1]⟩ 1 none ∈ gm_W := gm_in (List.mem_append_right _ (List.mem_append_left _ (List.mem_of_getElem? (i := 27) rfl))) rfl
