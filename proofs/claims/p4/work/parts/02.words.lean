/-- the good words of the tables: every contract here stands on these -/
def gm_W : List Cond := lw_tbl.filter goodWord
theorem gm_in {w : Cond} (h : w ∈ lw_tbl) (g : goodWord w = true) : w ∈ gm_W := List.mem_filter.mpr ⟨h, g⟩
theorem gm_gw {w : Cond} (h : w ∈ gm_W) : goodWord w = true := (List.mem_filter.mp h).2
theorem gm_tb {w : Cond} (h : w ∈ gm_W) : w ∈ lw_tbl := (List.mem_filter.mp h).1
theorem gm_gI {ws : List Cond} (h : ∀ w ∈ ws, w ∈ gm_W) : GoodIn gm_W ws := fun w hw => ⟨h w hw, good_of_word (gm_gw (h w hw))⟩
theorem gm_gd {c : Cond} (h : c ∈ gm_W) : GoodIn gm_W (c :: gm_W) := gm_gI (fun _ hw => (List.mem_cons.mp hw).elim (fun e => e ▸ h) id)
theorem gm_gV {own C : String} {idx : Nat} {y : MethodName} {ws : List Cond} (h1 : Cond.methodLink own idx y ∈ gm_W) (h2 : Cond.instanceMethod y ∈ gm_W) (h3 : Cond.selects C y y ∈ gm_W) (h4 : Cond.initialized C ∈ gm_W) (h : GoodIn gm_W ws) : GoodIn gm_W (wsV own idx C y ws) := fun w hw => by
  rcases List.mem_append.mp hw with h9 | h9
  · have h8 : w ∈ gm_W := by
      rcases List.mem_cons.mp h9 with e | h9
      · exact e ▸ h1
      · rcases List.mem_cons.mp h9 with e | h9
        · exact e ▸ h2
        · rcases List.mem_cons.mp h9 with e | h9
          · exact e ▸ h3
          · exact (List.mem_singleton.mp h9) ▸ h4
    exact ⟨h8, good_of_word (gm_gw h8)⟩
  · exact h w h9
theorem gm_gS {own : String} {idx : Nat} {y : MethodName} {ws : List Cond} (h1 : Cond.methodLink own idx y ∈ gm_W) (h2 : Cond.static y ∈ gm_W) (h4 : Cond.initialized own ∈ gm_W) (h : GoodIn gm_W ws) : GoodIn gm_W (wsS own idx y ws) := fun w hw => by
  rcases List.mem_append.mp hw with h9 | h9
  · have h8 : w ∈ gm_W := by
      rcases List.mem_cons.mp h9 with e | h9
      · exact e ▸ h1
      · rcases List.mem_cons.mp h9 with e | h9
        · exact e ▸ h2
        · exact (List.mem_singleton.mp h9) ▸ h4
    exact ⟨h8, good_of_word (gm_gw h8)⟩
  · exact h w h9
/-- the classes of the arrays: one of a kind -/
abbrev gm_T (cI cJ cC cZ : ClassId) : List (ClassId × FieldType) := [(cI, .int), (cJ, .long), (cC, .char), (cZ, .boolean)]
theorem gm_sI {D : va_G} {cl : List vw_C} {tys : List (ClassId × FieldType)} {s : State} {a b : ClassId} {i j : Nat} (hK : va_K D cl tys s) (h1 : tys[i]? = some (a, .int)) (h2 : tys[j]? = some (b, .int)) : a = b := by
  have x : s.vm.findClass ("[" ++ (FieldType.int).toString) = some a := (hK.2 i _ h1).2
  have y : s.vm.findClass ("[" ++ (FieldType.int).toString) = some b := (hK.2 j _ h2).2
  exact Option.some.inj (x.symm.trans y)
theorem gm_sJ {D : va_G} {cl : List vw_C} {tys : List (ClassId × FieldType)} {s : State} {a b : ClassId} {i j : Nat} (hK : va_K D cl tys s) (h1 : tys[i]? = some (a, .long)) (h2 : tys[j]? = some (b, .long)) : a = b := by
  have x : s.vm.findClass ("[" ++ (FieldType.long).toString) = some a := (hK.2 i _ h1).2
  have y : s.vm.findClass ("[" ++ (FieldType.long).toString) = some b := (hK.2 j _ h2).2
  exact Option.some.inj (x.symm.trans y)
theorem gm_sC {D : va_G} {cl : List vw_C} {tys : List (ClassId × FieldType)} {s : State} {a b : ClassId} {i j : Nat} (hK : va_K D cl tys s) (h1 : tys[i]? = some (a, .char)) (h2 : tys[j]? = some (b, .char)) : a = b := by
  have x : s.vm.findClass ("[" ++ (FieldType.char).toString) = some a := (hK.2 i _ h1).2
  have y : s.vm.findClass ("[" ++ (FieldType.char).toString) = some b := (hK.2 j _ h2).2
  exact Option.some.inj (x.symm.trans y)
theorem gm_sZ {D : va_G} {cl : List vw_C} {tys : List (ClassId × FieldType)} {s : State} {a b : ClassId} {i j : Nat} (hK : va_K D cl tys s) (h1 : tys[i]? = some (a, .boolean)) (h2 : tys[j]? = some (b, .boolean)) : a = b := by
  have x : s.vm.findClass ("[" ++ (FieldType.boolean).toString) = some a := (hK.2 i _ h1).2
  have y : s.vm.findClass ("[" ++ (FieldType.boolean).toString) = some b := (hK.2 j _ h2).2
  exact Option.some.inj (x.symm.trans y)
