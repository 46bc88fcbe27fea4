/-! What holds at the law's entry, in the words of the contracts. -/
theorem gm_arr {args : Array Value} {s : State} {t : FieldType} (h : (Cond.arrayClass t).before args s = true) : ∃ cA : ClassId, ArrOfT s cA t ∧ s.vm.findClass ("[" ++ t.toString) = some cA := by
  obtain ⟨cA, kA, comp, h1, h2, h3⟩ := Cond.arrayClass_spec h
  exact ⟨cA, fun n z => ⟨fun k h => (by cases h), kA, h2, comp, h3⟩, h1⟩
theorem gm_known {args : Array Value} {s : State} (hw : ∀ w ∈ gm_W, w.before args s = true) : ∃ D : va_G, ∀ (c : Nat) (q : vw_C), gm_cl[c]? = some q → u_Kn s q.1 q.2.1 q.2.2 (D.1 c) (D.2 c) := by
  have h : ∀ c : Nat, ∃ x : ClassId × (Nat → Nat), ∀ q : vw_C, gm_cl[c]? = some q → u_Kn s q.1 q.2.1 q.2.2 x.1 x.2 := by
    have mk : ∀ {C : String} {T : u_T} {N : Nat}, (∀ w ∈ u_ws C T N, w ∈ gm_W) → Cond.instantiable C N ∈ gm_W → ∃ x : ClassId × (Nat → Nat), ∀ q : vw_C, some (C, T, N) = some q → u_Kn s q.1 q.2.1 q.2.2 x.1 x.2 := fun hu hi => by
      obtain ⟨a, b, h⟩ := u_known hw hu (hw _ hi)
      exact ⟨(a, b), fun q hq => by cases hq; exact h⟩
    intro c
    match c with
    | 0 => exact mk gm_u_GM gm_m_GM
    | 1 => exact mk gm_u_Row gm_m_Row
    | 2 => exact mk gm_u_Grammar gm_m_Grammar
    | 3 => exact mk gm_u_Tree gm_m_Tree
    | 4 => exact mk gm_u_Judge gm_m_Judge
    | 5 => exact mk gm_u_Code gm_m_Code
    | 6 => exact mk gm_u_Reader gm_m_Reader
    | 7 => exact mk gm_u_Runner gm_m_Runner
    | 8 => exact mk gm_u_Captures gm_m_Captures
    | 9 => exact mk gm_u_Memory gm_m_Memory
    | 10 => exact mk gm_u_MD gm_m_MD
    | n + 11 => exact ⟨(0, fun _ => 0), fun q hq => by cases hq⟩
  obtain ⟨f, hf⟩ := Classical.axiomOfChoice h
  exact ⟨(fun c => (f c).1, fun c => (f c).2), fun c q hq => hf c q hq⟩
theorem gm_tables {args : Array Value} {s : State} (hw : ∀ w ∈ gm_W, w.before args s = true) : ∃ (D : va_G) (cI cJ cC cZ : ClassId), va_K D gm_cl (gm_T cI cJ cC cZ) s := by
  obtain ⟨D, hD⟩ := gm_known hw
  obtain ⟨cI, i1, i2⟩ := gm_arr (hw _ gm_aI)
  obtain ⟨cJ, j1, j2⟩ := gm_arr (hw _ gm_aJ)
  obtain ⟨cC, c1, c2⟩ := gm_arr (hw _ gm_aC)
  obtain ⟨cZ, z1, z2⟩ := gm_arr (hw _ gm_aZ)
  refine ⟨D, cI, cJ, cC, cZ, hD, fun k q hk => ?_⟩
  match k with
  | 0 => cases hk; exact ⟨i1, i2⟩
  | 1 => cases hk; exact ⟨j1, j2⟩
  | 2 => cases hk; exact ⟨c1, c2⟩
  | 3 => cases hk; exact ⟨z1, z2⟩
  | n + 4 => cases hk
set_option maxRecDepth 100000 in
/-- the surroundings of the throws, at the law's entry -/
theorem gm_startE {b : Nat} {s : State} (hts : ∀ w ∈ lw_tbl, w.before #[Value.ref b] s = true) (hgv : (Jvm.Cond.and given_1 narrow_1).before #[Value.ref b] s = true) : gm_E (fun q => s.heap.size ≤ q) s := by
  have hs := flat_of_before _ hgv
  have hA : ∀ a : Nat, a < s.heap.size → ¬ s.heap.size ≤ a := fun a h => by omega
  refine ⟨fun w hw => ?_, ?_, ?_, ?_⟩
  · have hp : (w.onTables && w.keepsFace) = true := (List.mem_filter.mp hw).2
    rw [Bool.and_eq_true] at hp
    exact va_tabs hp.1 rfl (hts w (List.mem_filter.mp hw).1)
  · exact gm_Z.of (hts _ (List.mem_append_right _ (List.mem_append_right _ (List.mem_append_right _ (List.mem_append_left _ (List.mem_of_getElem? (i := 1) rfl)))))) (hts _ (List.mem_append_right _ (List.mem_append_left _ (List.mem_of_getElem? (i := 12) rfl)))) (hs _ (by decide +kernel)) hA
  · exact gm_Z.of (hts _ (List.mem_append_right _ (List.mem_append_right _ (List.mem_append_right _ (List.mem_append_left _ (List.mem_of_getElem? (i := 3) rfl)))))) (hts _ (List.mem_append_right _ (List.mem_append_left _ (List.mem_of_getElem? (i := 12) rfl)))) (hs _ (by decide +kernel)) hA
  · have key : ∀ (k : Nat) (tx : String), Cond.stringRef gm_R_GM k tx ∈ lw_tbl → Cond.exactly (.string gm_R_GM k) "java/lang/String" ∈ flatC (Jvm.Cond.and given_1 narrow_1) → ∃ a, vk_R gm_R_GM k tx a s := fun k tx h1 h2 => by
      obtain ⟨a, c, ce, kk, e1, -⟩ := Cond.exactly_spec (hs _ h2)
      exact ⟨a, vk_R.of (hts _ h1) e1⟩
    refine List.forall_mem_cons.mpr ⟨key _ _ gm_l_GM_72 (by decide +kernel), List.forall_mem_cons.mpr ⟨key _ _ gm_l_GM_88 (by decide +kernel), List.forall_mem_cons.mpr ⟨key _ _ gm_l_GM_96 (by decide +kernel), List.forall_mem_cons.mpr ⟨key _ _ gm_l_GM_123 (by decide +kernel), List.forall_mem_cons.mpr ⟨key _ _ gm_l_GM_131 (by decide +kernel), List.forall_mem_cons.mpr ⟨key _ _ gm_l_GM_156 (by decide +kernel), List.forall_mem_cons.mpr ⟨key _ _ gm_l_GM_158 (by decide +kernel), fun _ h => absurd h List.not_mem_nil⟩⟩⟩⟩⟩⟩⟩
