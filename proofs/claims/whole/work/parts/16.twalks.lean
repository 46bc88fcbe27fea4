theorem gm_keep {D : va_G} {cl : List vw_C} {ws : va_W} {H H1 : Heap} (h : va_P D cl ws H) (hk : ∀ q : Nat, q < H.size → H1[q]? = H[q]?) : va_P D cl ws H1 := fun k q hq => (h k q hq).kept (hk q.1 (h k q hq).lt)
/-- the end of a road that throws: the world stays as it stands -/
theorem gm_thr {p : Program} {l : Launch} {e : Env} {R : Room} {s : State} {m : MethodId} {args : Array Value} {below : List Frame} {meth : Method} {c : Code} {H : Heap} {locs : List Loc} {cells slots : Nat} {Qc : Array Value → State → Outcome → State → Prop} {ls : Array Slot} {rest : List Value} {mc ms : Nat} {D : va_G} {A : Nat → Prop} {ws : va_W} {tys : List (ClassId × FieldType)}
    {cc : ByteArray} {pc : Nat} (hexec : p.tables.exec = Jvm.exec) (hb : c.code = cc) (hl : l.stackTraces = false) {cls text : String} {ik is ic : Nat}
    (hown : s.vm.findClass gm_R_GM = some m.cls) (hw : ∀ w ∈ gm_W, w.before args s = true) (hE : gm_E A s) (hP : va_P D gm_cl ws H) (hK : va_K D gm_cl tys s) (hD : va_D A ws) (hS : va_S A s.heap H locs)
    (hcls : Bundle.fit cls = true) (hstr : (is, text) ∈ gm_strs) (hk : Cond.classLink gm_R_GM ik cls ∈ gm_W) (hi : Cond.initialized cls ∈ gm_W) (hat : ∀ w ∈ Bundle.ownAtoms gm_R_GM ic cls ["java/lang/RuntimeException", "java/lang/Exception"], gm_ok w) (hsize : ls.size = c.maxLocals)
    (d0 : decode cc pc = .ok (.new ik, 3)) (d3 : decode cc (pc + 3) = .ok (.dup, 1)) (d4 : decode cc (pc + 4) = .ok (.ldc is, 2)) (d6 : decode cc (pc + 6) = .ok (.invokespecial ic, 3)) (d9 : decode cc (pc + 9) = .ok (.athrow, 1))
    (hout : ∀ x ∈ c.exceptionTable.toList, False) (hRf : 5 < R.frames) (hRl : (rest.map fun v => v.category).sum + 82 ≤ R.locals) (hRc : cells + 1 ≤ R.cells) (hRs : slots + 6 ≤ R.slots) (hlocks : meth.locks = false) (hc : cells + 1 ≤ mc) (hs : slots + 6 ≤ ms) :
    W p l e R s m args below meth c H locs cells slots (gm_MX below Qc (fun E st t => (E = cls ∧ gm_at D A ws tys t) ∧ va_F A st t) args s mc ms A) (F0 m pc ls rest) := by
  obtain ⟨sa, hsa⟩ := hE.2.2.2 (is, text) hstr
  have tab : ∀ {w : Cond} {s' : State}, s'.vm = s.vm → w ∈ gm_W → w.onTables = true → w.before args s' = true := fun hv hm ho => va_tabs ho hv.symm (hw _ hm)
  refine gm_throw hexec hb hl hown hcls (by decide) hsa (fun s' hv hh => ⟨tab hv hk rfl, tab hv hi rfl, fun w hw => hE.ok hS hv hh (hat w hw)⟩) hsize d0 d3 d4 d6 d9 (fun x hx => (hout x hx).elim) hRf hRl hRc hRs hlocks (fun t ha hz hk9 => ⟨⟨rfl, gm_keep hP hk9, va_K.moved ha hK, hD⟩, Nat.le_trans hS.1 hz, fun q h1 h2 => ?_⟩) hS.2.2 hc hs
  rw [hk9 q (Nat.lt_of_lt_of_le h1 hS.1)]
  exact hS.2.1 q h1 h2
def gm_rat (k : Nat) (f : Nat → Int32) (x : Int32) : Int32 := if x < 0 ∨ nI k ≤ x then -1 else f x.toNatClampNeg
def gm_isN (x : Int32) : Int32 := if x < 65 ∨ 90 < x then 0 else 1
theorem gm_isN_01 (x : Int32) : gm_isN x = 0 ∨ gm_isN x = 1 := by unfold gm_isN; split; exact Or.inl rfl; exact Or.inr rfl
set_option maxHeartbeats 4000000 in
set_option maxRecDepth 100000 in
theorem gm_c_Row_at (l : Launch) (D : va_G) (cI cJ cC cZ : ClassId) (h0 q0 n k : Nat) (f : Nat → Int32) (x : Int32) (sz : Nat) (hn : n ≤ 50) (hk : k ≤ n) : Met l gm_y_Row_at (Cond.code gm_y_Row_at gm_b_Row_at 2 (some .int) :: gm_W) { frames := 4, cells := 0, slots := 0, locals := 64 } (va_Pc [.ref h0, .int x] (fun U => U.heap.size = sz ∧ va_P D gm_cl [(h0, .inr (1, [.ref q0, .int (nI k)])), (q0, .inl (cC, n, .inl f))] U.heap ∧ va_K D gm_cl (gm_T cI cJ cC cZ) U ∧ va_D (fun _ => True) [(h0, .inr (1, [.ref q0, .int (nI k)])), (q0, .inl (cC, n, .inl f))])) (va_Qi (fun r (_ : Unit) => r = gm_rat k f x) (fun _ t => gm_at D (va_A [(h0, .inr (1, [.ref q0, .int (nI k)])), (q0, .inl (cC, n, .inl f))] sz) (gm_oRow h0 q0 cC n f (nI k)) (gm_T cI cJ cC cZ) t) (va_A [(h0, .inr (1, [.ref q0, .int (nI k)])), (q0, .inl (cC, n, .inl f))] sz)) 0 0 (va_A [(h0, .inr (1, [.ref q0, .int (nI k)])), (q0, .inl (cC, n, .inl f))] sz) := by
  refine Met.ofW (cc := gm_b_Row_at) (maxL := 2) (ret := (some .int)) (by decide) rfl ?_
  intro p e s m args below meth c s₁ B hml hv
  obtain ⟨rfl, hsz, hP, hK, hD0⟩ := hv
  have hx := B.exec
  have hb := B.bytes
  have hr := B.returns
  have hw : ∀ w ∈ gm_W, w.before _ s = true := fun w h => atoms_spec B.pre w (List.mem_cons_of_mem _ h)
  have hown : s.vm.findClass gm_R_Row = some m.cls := findClass_of_methodNamed B.named
  subst hsz
  have hD := hD0.self (sz := s.heap.size)
  generalize hAe : va_A [(h0, .inr (1, [.ref q0, .int (nI k)])), (q0, .inl (cC, n, .inl f))] s.heap.size = A at hD ⊢
  have hA : ∀ q : Nat, s.heap.size ≤ q → A q := fun q h => by rw [← hAe]; exact Or.inr h
  have hS : va_S A s.heap s.heap [] := va_S.rf
  have hl := lv_entry ([.ref h0, .int x]) (n := 2) (Nat.le_of_ble_eq_true rfl)
  rw [lg_entry_eq]
  generalize (lg_sl ([.ref h0, .int x]) ++ List.replicate (2 - (lg_sl ([.ref h0, .int x])).length) Slot.unset).toArray = ls at hl ⊢
  have hl : lv_has ls 2 [(0, .ref h0), (1, .int x)] := hl
  refine lv_iload_n hx hb gm_d_Row_at_0 rfl (lv_at hl 1 rfl) ?_
  refine lv_if_lt (tgt := 21) hx hb gm_d_Row_at_1 (by decide) (fun c1 => ?_) (fun c1 => ?_)
  · skip
    refine lv_iconst (v := (-1)) hx hb gm_d_Row_at_21 (by decide) ?_
    have hP9 := hP.sub (ws' := gm_oRow h0 q0 cC n f (nI k)) [0, 1] rfl
    have hD9 := hD.sub (ws' := gm_oRow h0 q0 cC n f (nI k)) [0, 1] (by decide) rfl
    exact W.iret (v := (-1)) hx hb hr (fun t ht hW => ⟨⟨(-1), (), rfl, (if_pos (Or.inl c1)).symm, by rw [ht]; exact hP9, va_K.moved hW.alike hK, hD9⟩, hS.F ht⟩) hS.2.2 gm_d_Row_at_22
  · skip
    refine lv_iload_n hx hb gm_d_Row_at_4 rfl (lv_at hl 1 rfl) ?_
    refine lv_aload_n hx hb gm_d_Row_at_5 rfl (lv_at hl 0 rfl) ?_
    refine va_get (D := D) (ci := 1) (v := .int (nI k)) (C := gm_R_Row) (T := gm_F_Row) (N := 2) hx hb hw gm_u_Row hown hK hP 0 rfl rfl 1 (by decide) (hw _ gm_l_Row_9) (fun _ h9 => h9) rfl gm_d_Row_at_6 ?_
    refine lv_icmp_ge (tgt := 21) hx hb gm_d_Row_at_9 (by decide) (fun c9 => ?_) (fun c9 => ?_)
    · skip
      refine lv_iconst (v := (-1)) hx hb gm_d_Row_at_21 (by decide) ?_
      have hP9 := hP.sub (ws' := gm_oRow h0 q0 cC n f (nI k)) [0, 1] rfl
      have hD9 := hD.sub (ws' := gm_oRow h0 q0 cC n f (nI k)) [0, 1] (by decide) rfl
      exact W.iret (v := (-1)) hx hb hr (fun t ht hW => ⟨⟨(-1), (), rfl, (if_pos (Or.inr c9)).symm, by rw [ht]; exact hP9, va_K.moved hW.alike hK, hD9⟩, hS.F ht⟩) hS.2.2 gm_d_Row_at_22
    · skip
      obtain ⟨j9, hj9, ej9, -, -, -⟩ := pk_mu c1 c9 (by omega)
      refine lv_aload_n hx hb gm_d_Row_at_12 rfl (lv_at hl 0 rfl) ?_
      refine va_get (D := D) (ci := 1) (v := .ref q0) (C := gm_R_Row) (T := gm_F_Row) (N := 2) hx hb hw gm_u_Row hown hK hP 0 rfl rfl 0 (by decide) (hw _ gm_l_Row_15) (fun _ h9 => h9) rfl gm_d_Row_at_13 ?_
      refine lv_iload_n hx hb gm_d_Row_at_16 rfl (lv_at hl 1 rfl) ?_
      refine va_cald hx hb hK hP 1 2 rfl rfl (by rw [ej9]; exact vp_in_nI (by omega) (by omega)) gm_d_Row_at_17 ?_
      refine lv_goto (tgt := 22) hx hb gm_d_Row_at_18 (by decide) ?_
      have hP9 := hP.sub (ws' := gm_oRow h0 q0 cC n f (nI k)) [0, 1] rfl
      have hD9 := hD.sub (ws' := gm_oRow h0 q0 cC n f (nI k)) [0, 1] (by decide) rfl
      exact W.iret (v := (f (Int32.toNatClampNeg x))) hx hb hr (fun t ht hW => ⟨⟨(f (Int32.toNatClampNeg x)), (), rfl, (if_neg (fun z => z.elim c1 c9)).symm, by rw [ht]; exact hP9, va_K.moved hW.alike hK, hD9⟩, hS.F ht⟩) hS.2.2 gm_d_Row_at_22
set_option maxHeartbeats 4000000 in
set_option maxRecDepth 100000 in
theorem gm_c_Reader_isName (l : Launch) (D : va_G) (cI cJ cC cZ : ClassId) (x : Int32) (sz : Nat) : Met l gm_y_Reader_isName (Cond.code gm_y_Reader_isName gm_b_Reader_isName 1 (some .boolean) :: gm_W) { frames := 4, cells := 0, slots := 0, locals := 64 } (va_Pc [.int x] (fun U => U.heap.size = sz ∧ va_P D gm_cl [] U.heap ∧ va_K D gm_cl (gm_T cI cJ cC cZ) U ∧ va_D (fun _ => True) [])) (va_Qi (fun r (_ : Unit) => r = gm_isN x) (fun _ t => gm_at D (va_A [] sz) [] (gm_T cI cJ cC cZ) t) (va_A [] sz)) 0 0 (va_A [] sz) := by
  refine Met.ofW (cc := gm_b_Reader_isName) (maxL := 1) (ret := (some .boolean)) (by decide) rfl ?_
  intro p e s m args below meth c s₁ B hml hv
  obtain ⟨rfl, hsz, hP, hK, hD0⟩ := hv
  have hx := B.exec
  have hb := B.bytes
  have hr := B.returns
  have hw : ∀ w ∈ gm_W, w.before _ s = true := fun w h => atoms_spec B.pre w (List.mem_cons_of_mem _ h)
  have hown : s.vm.findClass gm_R_Reader = some m.cls := findClass_of_methodNamed B.named
  subst hsz
  have hD := hD0.self (sz := s.heap.size)
  generalize hAe : va_A [] s.heap.size = A at hD ⊢
  have hA : ∀ q : Nat, s.heap.size ≤ q → A q := fun q h => by rw [← hAe]; exact Or.inr h
  have hS : va_S A s.heap s.heap [] := va_S.rf
  have hl := lv_entry ([.int x]) (n := 1) (Nat.le_of_ble_eq_true rfl)
  rw [lg_entry_eq]
  generalize (lg_sl ([.int x]) ++ List.replicate (1 - (lg_sl ([.int x])).length) Slot.unset).toArray = ls at hl ⊢
  have hl : lv_has ls 1 [(0, .int x)] := hl
  refine lv_iload_n hx hb gm_d_Reader_isName_0 rfl (lv_at hl 0 rfl) ?_
  refine lv_bipush (v := 65) hx hb gm_d_Reader_isName_1 (by decide) ?_
  refine lv_icmp_lt (tgt := 16) hx hb gm_d_Reader_isName_3 (by decide) (fun c3 => ?_) (fun c3 => ?_)
  · skip
    refine lv_iconst (v := 0) hx hb gm_d_Reader_isName_16 (by decide) ?_
    have hP9 := hP.sub (ws' := []) [] rfl
    have hD9 := hD.sub (ws' := []) [] (by decide) rfl
    exact W.zret (v := 0) hx hb hr rfl (fun t ht hW => ⟨⟨0, (), rfl, (if_pos (Or.inl c3)).symm, by rw [ht]; exact hP9, va_K.moved hW.alike hK, hD9⟩, hS.F ht⟩) hS.2.2 gm_d_Reader_isName_17
  · skip
    refine lv_iload_n hx hb gm_d_Reader_isName_6 rfl (lv_at hl 0 rfl) ?_
    refine lv_bipush (v := 90) hx hb gm_d_Reader_isName_7 (by decide) ?_
    refine lv_icmp_gt (tgt := 16) hx hb gm_d_Reader_isName_9 (by decide) (fun c9 => ?_) (fun c9 => ?_)
    · skip
      refine lv_iconst (v := 0) hx hb gm_d_Reader_isName_16 (by decide) ?_
      have hP9 := hP.sub (ws' := []) [] rfl
      have hD9 := hD.sub (ws' := []) [] (by decide) rfl
      exact W.zret (v := 0) hx hb hr rfl (fun t ht hW => ⟨⟨0, (), rfl, (if_pos (Or.inr c9)).symm, by rw [ht]; exact hP9, va_K.moved hW.alike hK, hD9⟩, hS.F ht⟩) hS.2.2 gm_d_Reader_isName_17
    · skip
      refine lv_iconst (v := 1) hx hb gm_d_Reader_isName_12 (by decide) ?_
      refine lv_goto (tgt := 17) hx hb gm_d_Reader_isName_13 (by decide) ?_
      have hP9 := hP.sub (ws' := []) [] rfl
      have hD9 := hD.sub (ws' := []) [] (by decide) rfl
      exact W.zret (v := 1) hx hb hr rfl (fun t ht hW => ⟨⟨1, (), rfl, (if_neg (fun z => z.elim c3 c9)).symm, by rw [ht]; exact hP9, va_K.moved hW.alike hK, hD9⟩, hS.F ht⟩) hS.2.2 gm_d_Reader_isName_17
set_option maxHeartbeats 4000000 in
set_option maxRecDepth 100000 in
theorem gm_c_Tree_reset (l : Launch) (D : va_G) (cI cJ cC cZ : ClassId) (t0 : Nat) (q : Nat → Nat) (z1 z2 z3 : Int32) (sz : Nat) : Met l gm_y_Tree_reset (Cond.code gm_y_Tree_reset gm_b_Tree_reset 1 none :: gm_W) { frames := 4, cells := 0, slots := 0, locals := 64 } (va_Pc [.ref t0] (fun U => U.heap.size = sz ∧ va_P D gm_cl [(t0, .inr (3, [.ref (q 0), .ref (q 1), .ref (q 2), .ref (q 3), .ref (q 4), .ref (q 5), .ref (q 6), .ref (q 7), .ref (q 8), .ref (q 9), .ref (q 10), .int z1, .int z2, .int z3]))] U.heap ∧ va_K D gm_cl (gm_T cI cJ cC cZ) U ∧ va_D (fun _ => True) [(t0, .inr (3, [.ref (q 0), .ref (q 1), .ref (q 2), .ref (q 3), .ref (q 4), .ref (q 5), .ref (q 6), .ref (q 7), .ref (q 8), .ref (q 9), .ref (q 10), .int z1, .int z2, .int z3]))])) (va_Qv (fun _ : Unit => True) (fun _ t => gm_at D (va_A [(t0, .inr (3, [.ref (q 0), .ref (q 1), .ref (q 2), .ref (q 3), .ref (q 4), .ref (q 5), .ref (q 6), .ref (q 7), .ref (q 8), .ref (q 9), .ref (q 10), .int z1, .int z2, .int z3]))] sz) [(t0, .inr (3, [.ref (q 0), .ref (q 1), .ref (q 2), .ref (q 3), .ref (q 4), .ref (q 5), .ref (q 6), .ref (q 7), .ref (q 8), .ref (q 9), .ref (q 10), .int 0, .int 0, .int 0]))] (gm_T cI cJ cC cZ) t) (va_A [(t0, .inr (3, [.ref (q 0), .ref (q 1), .ref (q 2), .ref (q 3), .ref (q 4), .ref (q 5), .ref (q 6), .ref (q 7), .ref (q 8), .ref (q 9), .ref (q 10), .int z1, .int z2, .int z3]))] sz)) 0 0 (va_A [(t0, .inr (3, [.ref (q 0), .ref (q 1), .ref (q 2), .ref (q 3), .ref (q 4), .ref (q 5), .ref (q 6), .ref (q 7), .ref (q 8), .ref (q 9), .ref (q 10), .int z1, .int z2, .int z3]))] sz) := by
  refine Met.ofW (cc := gm_b_Tree_reset) (maxL := 1) (ret := none) (by decide) rfl ?_
  intro p e s m args below meth c s₁ B hml hv
  obtain ⟨rfl, hsz, hP, hK, hD0⟩ := hv
  have hx := B.exec
  have hb := B.bytes
  have hr := B.returns
  have hw : ∀ w ∈ gm_W, w.before _ s = true := fun w h => atoms_spec B.pre w (List.mem_cons_of_mem _ h)
  have hown : s.vm.findClass gm_R_Tree = some m.cls := findClass_of_methodNamed B.named
  subst hsz
  have hD := hD0.self (sz := s.heap.size)
  generalize hAe : va_A [(t0, .inr (3, [.ref (q 0), .ref (q 1), .ref (q 2), .ref (q 3), .ref (q 4), .ref (q 5), .ref (q 6), .ref (q 7), .ref (q 8), .ref (q 9), .ref (q 10), .int z1, .int z2, .int z3]))] s.heap.size = A at hD ⊢
  have hA : ∀ q : Nat, s.heap.size ≤ q → A q := fun q h => by rw [← hAe]; exact Or.inr h
  have hS : va_S A s.heap s.heap [] := va_S.rf
  have hl := lv_entry ([.ref t0]) (n := 1) (Nat.le_of_ble_eq_true rfl)
  rw [lg_entry_eq]
  generalize (lg_sl ([.ref t0]) ++ List.replicate (1 - (lg_sl ([.ref t0])).length) Slot.unset).toArray = ls at hl ⊢
  have hl : lv_has ls 1 [(0, .ref t0)] := hl
  refine lv_aload_n hx hb gm_d_Tree_reset_0 rfl (lv_at hl 0 rfl) ?_
  refine lv_iconst (v := 0) hx hb gm_d_Tree_reset_1 (by decide) ?_
  refine va_put (D := D) (ci := 3) (v := .int 0) (ty := .int) (C := gm_R_Tree) (T := gm_F_Tree) (N := 14) hx hb hw gm_u_Tree gm_t_Tree gm_o_Tree gm_n_Tree hown hK hP hD hS 0 rfl rfl 11 (by decide) (hw _ gm_l_Tree_47) (fun _ h9 => h9) rfl (by decide +kernel) rfl rfl (Nat.le_of_ble_eq_true rfl) gm_d_Tree_reset_2 (fun H locs hP hD hS => ?_)
  have hP : va_P D gm_cl [(t0, .inr (3, [.ref (q 0), .ref (q 1), .ref (q 2), .ref (q 3), .ref (q 4), .ref (q 5), .ref (q 6), .ref (q 7), .ref (q 8), .ref (q 9), .ref (q 10), .int 0, .int z2, .int z3]))] H := hP
  have hD : va_D A [(t0, .inr (3, [.ref (q 0), .ref (q 1), .ref (q 2), .ref (q 3), .ref (q 4), .ref (q 5), .ref (q 6), .ref (q 7), .ref (q 8), .ref (q 9), .ref (q 10), .int 0, .int z2, .int z3]))] := hD
  refine lv_aload_n hx hb gm_d_Tree_reset_5 rfl (lv_at hl 0 rfl) ?_
  refine lv_iconst (v := 0) hx hb gm_d_Tree_reset_6 (by decide) ?_
  refine va_put (D := D) (ci := 3) (v := .int 0) (ty := .int) (C := gm_R_Tree) (T := gm_F_Tree) (N := 14) hx hb hw gm_u_Tree gm_t_Tree gm_o_Tree gm_n_Tree hown hK hP hD hS 0 rfl rfl 12 (by decide) (hw _ gm_l_Tree_51) (fun _ h9 => h9) rfl (by decide +kernel) rfl rfl (Nat.le_of_ble_eq_true rfl) gm_d_Tree_reset_7 (fun H locs hP hD hS => ?_)
  have hP : va_P D gm_cl [(t0, .inr (3, [.ref (q 0), .ref (q 1), .ref (q 2), .ref (q 3), .ref (q 4), .ref (q 5), .ref (q 6), .ref (q 7), .ref (q 8), .ref (q 9), .ref (q 10), .int 0, .int 0, .int z3]))] H := hP
  have hD : va_D A [(t0, .inr (3, [.ref (q 0), .ref (q 1), .ref (q 2), .ref (q 3), .ref (q 4), .ref (q 5), .ref (q 6), .ref (q 7), .ref (q 8), .ref (q 9), .ref (q 10), .int 0, .int 0, .int z3]))] := hD
  refine lv_aload_n hx hb gm_d_Tree_reset_10 rfl (lv_at hl 0 rfl) ?_
  refine lv_iconst (v := 0) hx hb gm_d_Tree_reset_11 (by decide) ?_
  refine va_put (D := D) (ci := 3) (v := .int 0) (ty := .int) (C := gm_R_Tree) (T := gm_F_Tree) (N := 14) hx hb hw gm_u_Tree gm_t_Tree gm_o_Tree gm_n_Tree hown hK hP hD hS 0 rfl rfl 13 (by decide) (hw _ gm_l_Tree_54) (fun _ h9 => h9) rfl (by decide +kernel) rfl rfl (Nat.le_of_ble_eq_true rfl) gm_d_Tree_reset_12 (fun H locs hP hD hS => ?_)
  have hP : va_P D gm_cl [(t0, .inr (3, [.ref (q 0), .ref (q 1), .ref (q 2), .ref (q 3), .ref (q 4), .ref (q 5), .ref (q 6), .ref (q 7), .ref (q 8), .ref (q 9), .ref (q 10), .int 0, .int 0, .int 0]))] H := hP
  have hD : va_D A [(t0, .inr (3, [.ref (q 0), .ref (q 1), .ref (q 2), .ref (q 3), .ref (q 4), .ref (q 5), .ref (q 6), .ref (q 7), .ref (q 8), .ref (q 9), .ref (q 10), .int 0, .int 0, .int 0]))] := hD
  have hP9 := hP.sub (ws' := [(t0, .inr (3, [.ref (q 0), .ref (q 1), .ref (q 2), .ref (q 3), .ref (q 4), .ref (q 5), .ref (q 6), .ref (q 7), .ref (q 8), .ref (q 9), .ref (q 10), .int 0, .int 0, .int 0]))]) [0] rfl
  have hD9 := hD.sub (ws' := [(t0, .inr (3, [.ref (q 0), .ref (q 1), .ref (q 2), .ref (q 3), .ref (q 4), .ref (q 5), .ref (q 6), .ref (q 7), .ref (q 8), .ref (q 9), .ref (q 10), .int 0, .int 0, .int 0]))]) [0] (by decide) rfl
  exact W.vret hx hb hr (fun t ht hW => ⟨⟨(), rfl, trivial, by rw [ht]; exact hP9, va_K.moved hW.alike hK, hD9⟩, hS.F ht⟩) hS.2.2 gm_d_Tree_reset_15
set_option maxHeartbeats 4000000 in
set_option maxRecDepth 100000 in
theorem gm_c_Reader_readRule_0 (l : Launch) (D : va_G) (cI cJ cC cZ : ClassId) (h0 x0 t0 r0 q0 : Nat) (f : Nat → Int32) (sz : Nat) : Met l gm_y_Reader_readRule (Cond.code gm_y_Reader_readRule gm_b_Reader_readRule 2 none :: gm_W) { frames := 8, cells := 0, slots := 0, locals := 128 } (va_Pc [.ref h0] (fun U => U.heap.size = sz ∧ va_P D gm_cl [(h0, .inr (6, [.ref x0, .ref t0, .ref r0, .int 0, .int 0, .int 0])), (x0, .inr (1, [.ref q0, .int (nI 0)])), (q0, .inl (cC, 50, .inl f))] U.heap ∧ va_K D gm_cl (gm_T cI cJ cC cZ) U ∧ va_D (fun _ => True) [(h0, .inr (6, [.ref x0, .ref t0, .ref r0, .int 0, .int 0, .int 0])), (x0, .inr (1, [.ref q0, .int (nI 0)])), (q0, .inl (cC, 50, .inl f))])) (va_Qv (fun _ : Unit => True) (fun _ t => gm_at D (va_A [(h0, .inr (6, [.ref x0, .ref t0, .ref r0, .int 0, .int 0, .int 0])), (x0, .inr (1, [.ref q0, .int (nI 0)])), (q0, .inl (cC, 50, .inl f))] sz) ((h0, .inr (6, [.ref x0, .ref t0, .ref r0, .int 0, .int 0, .int 1])) :: gm_oRow x0 q0 cC 50 f (nI 0)) (gm_T cI cJ cC cZ) t) (va_A [(h0, .inr (6, [.ref x0, .ref t0, .ref r0, .int 0, .int 0, .int 0])), (x0, .inr (1, [.ref q0, .int (nI 0)])), (q0, .inl (cC, 50, .inl f))] sz)) 0 0 (va_A [(h0, .inr (6, [.ref x0, .ref t0, .ref r0, .int 0, .int 0, .int 0])), (x0, .inr (1, [.ref q0, .int (nI 0)])), (q0, .inl (cC, 50, .inl f))] sz) := by
  refine Met.ofW (cc := gm_b_Reader_readRule) (maxL := 2) (ret := none) (by decide) rfl ?_
  intro p e s m args below meth c s₁ B hml hv
  obtain ⟨rfl, hsz, hP, hK, hD0⟩ := hv
  have hx := B.exec
  have hb := B.bytes
  have hr := B.returns
  have hw : ∀ w ∈ gm_W, w.before _ s = true := fun w h => atoms_spec B.pre w (List.mem_cons_of_mem _ h)
  have hown : s.vm.findClass gm_R_Reader = some m.cls := findClass_of_methodNamed B.named
  subst hsz
  have hD := hD0.self (sz := s.heap.size)
  generalize hAe : va_A [(h0, .inr (6, [.ref x0, .ref t0, .ref r0, .int 0, .int 0, .int 0])), (x0, .inr (1, [.ref q0, .int (nI 0)])), (q0, .inl (cC, 50, .inl f))] s.heap.size = A at hD ⊢
  have hA : ∀ q : Nat, s.heap.size ≤ q → A q := fun q h => by rw [← hAe]; exact Or.inr h
  have hS : va_S A s.heap s.heap [] := va_S.rf
  have hl := lv_entry ([.ref h0]) (n := 2) (Nat.le_of_ble_eq_true rfl)
  rw [lg_entry_eq]
  generalize (lg_sl ([.ref h0]) ++ List.replicate (2 - (lg_sl ([.ref h0])).length) Slot.unset).toArray = ls at hl ⊢
  have hl : lv_has ls 2 [(0, .ref h0)] := hl
  refine lv_aload_n hx hb gm_d_Reader_readRule_0 rfl (lv_at hl 0 rfl) ?_
  refine va_get (D := D) (ci := 6) (v := .ref x0) (C := gm_R_Reader) (T := gm_F_Reader) (N := 6) hx hb hw gm_u_Reader hown hK hP 0 rfl rfl 0 (by decide) (hw _ gm_l_Reader_26) (fun _ h9 => h9) rfl gm_d_Reader_readRule_1 ?_
  refine lv_aload_n hx hb gm_d_Reader_readRule_4 rfl (lv_at hl 0 rfl) ?_
  refine va_get (D := D) (ci := 6) (v := .int 0) (C := gm_R_Reader) (T := gm_F_Reader) (N := 6) hx hb hw gm_u_Reader hown hK hP 0 rfl rfl 4 (by decide) (hw _ gm_l_Reader_19) (fun _ h9 => h9) rfl gm_d_Reader_readRule_5 ?_
  have hPc := hP.sub (ws' := [(x0, .inr (1, [.ref q0, .int (nI 0)])), (q0, .inl (cC, 50, .inl f))]) [1, 2] rfl
  have hDc := hD.sub (ws' := [(x0, .inr (1, [.ref q0, .int (nI 0)])), (q0, .inl (cC, 50, .inl f))]) [1, 2] (by decide) rfl
  have hFc := va_free (wc := [(x0, .inr (1, [.ref q0, .int (nI 0)])), (q0, .inl (cC, 50, .inl f))]) hD hS hA [1, 2] rfl
  refine va_calli (va_runV (As := [.int 0]) (rest := []) ⟨hx, hb, hml, hown, hw⟩ (gm_c_Row_at l D cI cJ cC cZ x0 q0 50 0 f 0 s.heap.size (by decide) (by decide)) (cwV 1 hw (gm_gV gm_l_Reader_47 gm_q_Row_at gm_s_Row_at gm_i_Row (gm_gd gm_k_Row_at)) rfl rfl rfl (by decide +kernel) ⟨Nat.le_of_ble_eq_true rfl, Nat.le_of_ble_eq_true rfl⟩) ⟨fun a U g mk q => by obtain ⟨q0, q1, qP, qK, qD⟩ := q; exact ⟨q0, q1, qP, va_K.moved (u := U) (U := U.calling g mk a) (Vm.Alike.refl U.vm) qK, qD⟩, va_recv hK hP (ci := 1) rfl (q0 := 1) rfl, fun U hU hW => ⟨rfl, by rw [hU], by rw [hU]; exact hPc, va_K.moved hW.alike hK, hDc.weaken (fun _ _ _ _ => trivial)⟩⟩ rfl rfl hl.1 rfl (lv_room (Nat.le_of_ble_eq_true rfl)) gm_d_Reader_readRule_8 ⟨Nat.le_of_ble_eq_true rfl, Nat.le_of_ble_eq_true rfl⟩) hS (fun q _ h => hFc q h) hFc (fun r8 _ t H1 locs ht hvm h8 hB hz1 hk1 hS => ?_)
  obtain ⟨hP1, -, hD1⟩ := hB
  rw [ht] at hP1
  have h8 : r8 = -1 := h8.trans rfl
  subst h8
  have hP1 : va_P D gm_cl [(x0, .inr (1, [.ref q0, .int (nI 0)])), (q0, .inl (cC, 50, .inl f))] H1 := hP1
  have hD1 : va_D (va_A [(x0, .inr (1, [.ref q0, .int (nI 0)])), (q0, .inl (cC, 50, .inl f))] s.heap.size) [(x0, .inr (1, [.ref q0, .int (nI 0)])), (q0, .inl (cC, 50, .inl f))] := hD1
  obtain ⟨hP, hD⟩ := va_join (wr := [(h0, .inr (6, [.ref x0, .ref t0, .ref r0, .int 0, .int 0, .int 0]))]) hP hD [1, 2] [0] rfl rfl (by decide) (by decide) hk1 hFc hP1 hD1
  generalize H1 = H at hP hS ⊢
  have hP : va_P D gm_cl [(h0, .inr (6, [.ref x0, .ref t0, .ref r0, .int 0, .int 0, .int 0])), (x0, .inr (1, [.ref q0, .int (nI 0)])), (q0, .inl (cC, 50, .inl f))] H := hP
  have hD : va_D A [(h0, .inr (6, [.ref x0, .ref t0, .ref r0, .int 0, .int 0, .int 0])), (x0, .inr (1, [.ref q0, .int (nI 0)])), (q0, .inl (cC, 50, .inl f))] := hD
  refine lv_istore_n (lv' := [(1, .int (-1)), (0, .ref h0)]) hx hb gm_d_Reader_readRule_11 rfl hl (Nat.le_of_ble_eq_true rfl) rfl (fun ls hl => ?_)
  refine lv_iload_n hx hb gm_d_Reader_readRule_12 rfl (lv_at hl 0 rfl) ?_
  have hPc := hP.sub (ws' := []) [] rfl
  have hDc := hD.sub (ws' := []) [] (by decide) rfl
  have hFc := va_free (wc := []) hD hS hA [] rfl
  refine va_calli (va_runS (As := [.int (-1)]) (rest := []) ⟨hx, hb, hml, hown, hw⟩ (gm_c_Reader_isName l D cI cJ cC cZ (-1) H.size) (cwS 1 hw (gm_gS gm_l_Reader_51 gm_q_Reader_isName gm_i_Reader (gm_gd gm_k_Reader_isName)) rfl rfl rfl (by decide +kernel) ⟨Nat.le_of_ble_eq_true rfl, Nat.le_of_ble_eq_true rfl⟩) ⟨fun a U g mk q => by obtain ⟨q0, q1, qP, qK, qD⟩ := q; exact ⟨q0, q1, qP, va_K.moved (u := U) (U := U.calling g mk a) (Vm.Alike.refl U.vm) qK, qD⟩, fun U hU hW => ⟨rfl, by rw [hU], by rw [hU]; exact hPc, va_K.moved hW.alike hK, hDc.weaken (fun _ _ _ _ => trivial)⟩⟩ rfl rfl hl.1 rfl (lv_room (Nat.le_of_ble_eq_true rfl)) gm_d_Reader_readRule_13 ⟨Nat.le_of_ble_eq_true rfl, Nat.le_of_ble_eq_true rfl⟩) hS (fun q _ h => hFc q h) hFc (fun r13 _ t H1 locs ht hvm h13 hB hz1 hk1 hS => ?_)
  obtain ⟨hP1, -, hD1⟩ := hB
  rw [ht] at hP1
  have h13 : r13 = 0 := h13.trans (by decide)
  subst h13
  have hP1 : va_P D gm_cl [] H1 := hP1
  have hD1 : va_D (va_A [] H.size) [] := hD1
  obtain ⟨hP, hD⟩ := va_join (wr := [(h0, .inr (6, [.ref x0, .ref t0, .ref r0, .int 0, .int 0, .int 0])), (x0, .inr (1, [.ref q0, .int (nI 0)])), (q0, .inl (cC, 50, .inl f))]) hP hD [] [0, 1, 2] rfl rfl (by decide) (by decide) hk1 hFc hP1 hD1
  generalize H1 = H at hP hS ⊢
  have hP : va_P D gm_cl [(h0, .inr (6, [.ref x0, .ref t0, .ref r0, .int 0, .int 0, .int 0])), (x0, .inr (1, [.ref q0, .int (nI 0)])), (q0, .inl (cC, 50, .inl f))] H := hP
  have hD : va_D A [(h0, .inr (6, [.ref x0, .ref t0, .ref r0, .int 0, .int 0, .int 0])), (x0, .inr (1, [.ref q0, .int (nI 0)])), (q0, .inl (cC, 50, .inl f))] := hD
  refine lv_if_eq (tgt := 31) hx hb gm_d_Reader_readRule_16 (by decide) (fun _ => ?_) (fun h9 => absurd rfl h9)
  refine lv_aload_n hx hb gm_d_Reader_readRule_31 rfl (lv_at hl 1 rfl) ?_
  refine lv_iconst (v := 1) hx hb gm_d_Reader_readRule_32 (by decide) ?_
  refine va_put (D := D) (ci := 6) (v := .int 1) (ty := .boolean) (C := gm_R_Reader) (T := gm_F_Reader) (N := 6) hx hb hw gm_u_Reader gm_t_Reader gm_o_Reader gm_n_Reader hown hK hP hD hS 0 rfl rfl 5 (by decide) (hw _ gm_l_Reader_22) (fun _ h9 => h9) rfl (by decide +kernel) rfl rfl (Nat.le_of_ble_eq_true rfl) gm_d_Reader_readRule_33 (fun H locs hP hD hS => ?_)
  have hP : va_P D gm_cl [(h0, .inr (6, [.ref x0, .ref t0, .ref r0, .int 0, .int 0, .int 1])), (x0, .inr (1, [.ref q0, .int (nI 0)])), (q0, .inl (cC, 50, .inl f))] H := hP
  have hD : va_D A [(h0, .inr (6, [.ref x0, .ref t0, .ref r0, .int 0, .int 0, .int 1])), (x0, .inr (1, [.ref q0, .int (nI 0)])), (q0, .inl (cC, 50, .inl f))] := hD
  have hP9 := hP.sub (ws' := (h0, .inr (6, [.ref x0, .ref t0, .ref r0, .int 0, .int 0, .int 1])) :: gm_oRow x0 q0 cC 50 f (nI 0)) [0, 1, 2] rfl
  have hD9 := hD.sub (ws' := (h0, .inr (6, [.ref x0, .ref t0, .ref r0, .int 0, .int 0, .int 1])) :: gm_oRow x0 q0 cC 50 f (nI 0)) [0, 1, 2] (by decide) rfl
  exact W.vret hx hb hr (fun t ht hW => ⟨⟨(), rfl, trivial, by rw [ht]; exact hP9, va_K.moved hW.alike hK, hD9⟩, hS.F ht⟩) hS.2.2 gm_d_Reader_readRule_36
set_option maxHeartbeats 4000000 in
set_option maxRecDepth 100000 in
theorem gm_c_Reader_read_0 (l : Launch) (D : va_G) (cI cJ cC cZ : ClassId) (h0 x0 t0 r0 q0 : Nat) (f : Nat → Int32) (q : Nat → Nat) (o1 p1 w1 z1 z2 z3 : Int32) (sz : Nat) : Met l gm_y_Reader_read (Cond.code gm_y_Reader_read gm_b_Reader_read 2 (some .int) :: gm_W) { frames := 12, cells := 0, slots := 0, locals := 192 } (va_Pc [.ref h0] (fun U => U.heap.size = sz ∧ va_P D gm_cl [(h0, .inr (6, [.ref x0, .ref t0, .ref r0, .int o1, .int p1, .int w1])), (x0, .inr (1, [.ref q0, .int (nI 0)])), (q0, .inl (cC, 50, .inl f)), (t0, .inr (3, [.ref (q 0), .ref (q 1), .ref (q 2), .ref (q 3), .ref (q 4), .ref (q 5), .ref (q 6), .ref (q 7), .ref (q 8), .ref (q 9), .ref (q 10), .int z1, .int z2, .int z3]))] U.heap ∧ va_K D gm_cl (gm_T cI cJ cC cZ) U ∧ va_D (fun _ => True) [(h0, .inr (6, [.ref x0, .ref t0, .ref r0, .int o1, .int p1, .int w1])), (x0, .inr (1, [.ref q0, .int (nI 0)])), (q0, .inl (cC, 50, .inl f)), (t0, .inr (3, [.ref (q 0), .ref (q 1), .ref (q 2), .ref (q 3), .ref (q 4), .ref (q 5), .ref (q 6), .ref (q 7), .ref (q 8), .ref (q 9), .ref (q 10), .int z1, .int z2, .int z3]))])) (va_Qi (fun r (_ : Unit) => r = 0) (fun _ t => gm_at D (va_A [(h0, .inr (6, [.ref x0, .ref t0, .ref r0, .int o1, .int p1, .int w1])), (x0, .inr (1, [.ref q0, .int (nI 0)])), (q0, .inl (cC, 50, .inl f)), (t0, .inr (3, [.ref (q 0), .ref (q 1), .ref (q 2), .ref (q 3), .ref (q 4), .ref (q 5), .ref (q 6), .ref (q 7), .ref (q 8), .ref (q 9), .ref (q 10), .int z1, .int z2, .int z3]))] sz) ((h0, .inr (6, [.ref x0, .ref t0, .ref r0, .int 0, .int 0, .int 1])) :: gm_oRow x0 q0 cC 50 f (nI 0) ++ [(t0, .inr (3, [.ref (q 0), .ref (q 1), .ref (q 2), .ref (q 3), .ref (q 4), .ref (q 5), .ref (q 6), .ref (q 7), .ref (q 8), .ref (q 9), .ref (q 10), .int 0, .int 0, .int 0]))]) (gm_T cI cJ cC cZ) t) (va_A [(h0, .inr (6, [.ref x0, .ref t0, .ref r0, .int o1, .int p1, .int w1])), (x0, .inr (1, [.ref q0, .int (nI 0)])), (q0, .inl (cC, 50, .inl f)), (t0, .inr (3, [.ref (q 0), .ref (q 1), .ref (q 2), .ref (q 3), .ref (q 4), .ref (q 5), .ref (q 6), .ref (q 7), .ref (q 8), .ref (q 9), .ref (q 10), .int z1, .int z2, .int z3]))] sz)) 0 0 (va_A [(h0, .inr (6, [.ref x0, .ref t0, .ref r0, .int o1, .int p1, .int w1])), (x0, .inr (1, [.ref q0, .int (nI 0)])), (q0, .inl (cC, 50, .inl f)), (t0, .inr (3, [.ref (q 0), .ref (q 1), .ref (q 2), .ref (q 3), .ref (q 4), .ref (q 5), .ref (q 6), .ref (q 7), .ref (q 8), .ref (q 9), .ref (q 10), .int z1, .int z2, .int z3]))] sz) := by
  refine Met.ofW (cc := gm_b_Reader_read) (maxL := 2) (ret := (some .int)) (by decide) rfl ?_
  intro p e s m args below meth c s₁ B hml hv
  obtain ⟨rfl, hsz, hP, hK, hD0⟩ := hv
  have hx := B.exec
  have hb := B.bytes
  have hr := B.returns
  have hw : ∀ w ∈ gm_W, w.before _ s = true := fun w h => atoms_spec B.pre w (List.mem_cons_of_mem _ h)
  have hown : s.vm.findClass gm_R_Reader = some m.cls := findClass_of_methodNamed B.named
  subst hsz
  have hD := hD0.self (sz := s.heap.size)
  generalize hAe : va_A [(h0, .inr (6, [.ref x0, .ref t0, .ref r0, .int o1, .int p1, .int w1])), (x0, .inr (1, [.ref q0, .int (nI 0)])), (q0, .inl (cC, 50, .inl f)), (t0, .inr (3, [.ref (q 0), .ref (q 1), .ref (q 2), .ref (q 3), .ref (q 4), .ref (q 5), .ref (q 6), .ref (q 7), .ref (q 8), .ref (q 9), .ref (q 10), .int z1, .int z2, .int z3]))] s.heap.size = A at hD ⊢
  have hA : ∀ q : Nat, s.heap.size ≤ q → A q := fun q h => by rw [← hAe]; exact Or.inr h
  have hS : va_S A s.heap s.heap [] := va_S.rf
  have hl := lv_entry ([.ref h0]) (n := 2) (Nat.le_of_ble_eq_true rfl)
  rw [lg_entry_eq]
  generalize (lg_sl ([.ref h0]) ++ List.replicate (2 - (lg_sl ([.ref h0])).length) Slot.unset).toArray = ls at hl ⊢
  have hl : lv_has ls 2 [(0, .ref h0)] := hl
  refine lv_aload_n hx hb gm_d_Reader_read_0 rfl (lv_at hl 0 rfl) ?_
  refine va_get (D := D) (ci := 6) (v := .ref t0) (C := gm_R_Reader) (T := gm_F_Reader) (N := 6) hx hb hw gm_u_Reader hown hK hP 0 rfl rfl 1 (by decide) (hw _ gm_l_Reader_30) (fun _ h9 => h9) rfl gm_d_Reader_read_1 ?_
  have hPc := hP.sub (ws' := [(t0, .inr (3, [.ref (q 0), .ref (q 1), .ref (q 2), .ref (q 3), .ref (q 4), .ref (q 5), .ref (q 6), .ref (q 7), .ref (q 8), .ref (q 9), .ref (q 10), .int z1, .int z2, .int z3]))]) [3] rfl
  have hDc := hD.sub (ws' := [(t0, .inr (3, [.ref (q 0), .ref (q 1), .ref (q 2), .ref (q 3), .ref (q 4), .ref (q 5), .ref (q 6), .ref (q 7), .ref (q 8), .ref (q 9), .ref (q 10), .int z1, .int z2, .int z3]))]) [3] (by decide) rfl
  have hFc := va_free (wc := [(t0, .inr (3, [.ref (q 0), .ref (q 1), .ref (q 2), .ref (q 3), .ref (q 4), .ref (q 5), .ref (q 6), .ref (q 7), .ref (q 8), .ref (q 9), .ref (q 10), .int z1, .int z2, .int z3]))]) hD hS hA [3] rfl
  refine va_callv (va_runV (As := []) (rest := []) ⟨hx, hb, hml, hown, hw⟩ (gm_c_Tree_reset l D cI cJ cC cZ t0 q z1 z2 z3 s.heap.size) (cwV 0 hw (gm_gV gm_l_Reader_34 gm_q_Tree_reset gm_s_Tree_reset gm_i_Tree (gm_gd gm_k_Tree_reset)) rfl rfl rfl (by decide +kernel) ⟨Nat.le_of_ble_eq_true rfl, Nat.le_of_ble_eq_true rfl⟩) ⟨fun a U g mk q => by obtain ⟨q0, q1, qP, qK, qD⟩ := q; exact ⟨q0, q1, qP, va_K.moved (u := U) (U := U.calling g mk a) (Vm.Alike.refl U.vm) qK, qD⟩, va_recv hK hP (ci := 3) rfl (q0 := 3) rfl, fun U hU hW => ⟨rfl, by rw [hU], by rw [hU]; exact hPc, va_K.moved hW.alike hK, hDc.weaken (fun _ _ _ _ => trivial)⟩⟩ rfl rfl hl.1 rfl (lv_room (Nat.le_of_ble_eq_true rfl)) gm_d_Reader_read_4 ⟨Nat.le_of_ble_eq_true rfl, Nat.le_of_ble_eq_true rfl⟩) hS (fun q _ h => hFc q h) hFc (fun _ t H1 locs ht hvm hpo hB hz1 hk1 hS => ?_)
  obtain ⟨hP1, -, hD1⟩ := hB
  rw [ht] at hP1
  have hP1 : va_P D gm_cl [(t0, .inr (3, [.ref (q 0), .ref (q 1), .ref (q 2), .ref (q 3), .ref (q 4), .ref (q 5), .ref (q 6), .ref (q 7), .ref (q 8), .ref (q 9), .ref (q 10), .int 0, .int 0, .int 0]))] H1 := hP1
  have hD1 : va_D (va_A [(t0, .inr (3, [.ref (q 0), .ref (q 1), .ref (q 2), .ref (q 3), .ref (q 4), .ref (q 5), .ref (q 6), .ref (q 7), .ref (q 8), .ref (q 9), .ref (q 10), .int z1, .int z2, .int z3]))] s.heap.size) [(t0, .inr (3, [.ref (q 0), .ref (q 1), .ref (q 2), .ref (q 3), .ref (q 4), .ref (q 5), .ref (q 6), .ref (q 7), .ref (q 8), .ref (q 9), .ref (q 10), .int 0, .int 0, .int 0]))] := hD1
  obtain ⟨hP, hD⟩ := va_join (wr := [(h0, .inr (6, [.ref x0, .ref t0, .ref r0, .int o1, .int p1, .int w1])), (x0, .inr (1, [.ref q0, .int (nI 0)])), (q0, .inl (cC, 50, .inl f))]) hP hD [3] [0, 1, 2] rfl rfl (by decide) (by decide) hk1 hFc hP1 hD1
  generalize H1 = H at hP hS ⊢
  have hP : va_P D gm_cl [(h0, .inr (6, [.ref x0, .ref t0, .ref r0, .int o1, .int p1, .int w1])), (x0, .inr (1, [.ref q0, .int (nI 0)])), (q0, .inl (cC, 50, .inl f)), (t0, .inr (3, [.ref (q 0), .ref (q 1), .ref (q 2), .ref (q 3), .ref (q 4), .ref (q 5), .ref (q 6), .ref (q 7), .ref (q 8), .ref (q 9), .ref (q 10), .int 0, .int 0, .int 0]))] H := hP
  have hD : va_D A [(h0, .inr (6, [.ref x0, .ref t0, .ref r0, .int o1, .int p1, .int w1])), (x0, .inr (1, [.ref q0, .int (nI 0)])), (q0, .inl (cC, 50, .inl f)), (t0, .inr (3, [.ref (q 0), .ref (q 1), .ref (q 2), .ref (q 3), .ref (q 4), .ref (q 5), .ref (q 6), .ref (q 7), .ref (q 8), .ref (q 9), .ref (q 10), .int 0, .int 0, .int 0]))] := hD
  refine lv_aload_n hx hb gm_d_Reader_read_7 rfl (lv_at hl 0 rfl) ?_
  refine lv_iconst (v := 0) hx hb gm_d_Reader_read_8 (by decide) ?_
  refine va_put (D := D) (ci := 6) (v := .int 0) (ty := .int) (C := gm_R_Reader) (T := gm_F_Reader) (N := 6) hx hb hw gm_u_Reader gm_t_Reader gm_o_Reader gm_n_Reader hown hK hP hD hS 0 rfl rfl 3 (by decide) (hw _ gm_l_Reader_15) (fun _ h9 => h9) rfl (by decide +kernel) rfl rfl (Nat.le_of_ble_eq_true rfl) gm_d_Reader_read_9 (fun H locs hP hD hS => ?_)
  have hP : va_P D gm_cl [(h0, .inr (6, [.ref x0, .ref t0, .ref r0, .int 0, .int p1, .int w1])), (x0, .inr (1, [.ref q0, .int (nI 0)])), (q0, .inl (cC, 50, .inl f)), (t0, .inr (3, [.ref (q 0), .ref (q 1), .ref (q 2), .ref (q 3), .ref (q 4), .ref (q 5), .ref (q 6), .ref (q 7), .ref (q 8), .ref (q 9), .ref (q 10), .int 0, .int 0, .int 0]))] H := hP
  have hD : va_D A [(h0, .inr (6, [.ref x0, .ref t0, .ref r0, .int 0, .int p1, .int w1])), (x0, .inr (1, [.ref q0, .int (nI 0)])), (q0, .inl (cC, 50, .inl f)), (t0, .inr (3, [.ref (q 0), .ref (q 1), .ref (q 2), .ref (q 3), .ref (q 4), .ref (q 5), .ref (q 6), .ref (q 7), .ref (q 8), .ref (q 9), .ref (q 10), .int 0, .int 0, .int 0]))] := hD
  refine lv_aload_n hx hb gm_d_Reader_read_12 rfl (lv_at hl 0 rfl) ?_
  refine lv_iconst (v := 0) hx hb gm_d_Reader_read_13 (by decide) ?_
  refine va_put (D := D) (ci := 6) (v := .int 0) (ty := .int) (C := gm_R_Reader) (T := gm_F_Reader) (N := 6) hx hb hw gm_u_Reader gm_t_Reader gm_o_Reader gm_n_Reader hown hK hP hD hS 0 rfl rfl 4 (by decide) (hw _ gm_l_Reader_19) (fun _ h9 => h9) rfl (by decide +kernel) rfl rfl (Nat.le_of_ble_eq_true rfl) gm_d_Reader_read_14 (fun H locs hP hD hS => ?_)
  have hP : va_P D gm_cl [(h0, .inr (6, [.ref x0, .ref t0, .ref r0, .int 0, .int 0, .int w1])), (x0, .inr (1, [.ref q0, .int (nI 0)])), (q0, .inl (cC, 50, .inl f)), (t0, .inr (3, [.ref (q 0), .ref (q 1), .ref (q 2), .ref (q 3), .ref (q 4), .ref (q 5), .ref (q 6), .ref (q 7), .ref (q 8), .ref (q 9), .ref (q 10), .int 0, .int 0, .int 0]))] H := hP
  have hD : va_D A [(h0, .inr (6, [.ref x0, .ref t0, .ref r0, .int 0, .int 0, .int w1])), (x0, .inr (1, [.ref q0, .int (nI 0)])), (q0, .inl (cC, 50, .inl f)), (t0, .inr (3, [.ref (q 0), .ref (q 1), .ref (q 2), .ref (q 3), .ref (q 4), .ref (q 5), .ref (q 6), .ref (q 7), .ref (q 8), .ref (q 9), .ref (q 10), .int 0, .int 0, .int 0]))] := hD
  refine lv_aload_n hx hb gm_d_Reader_read_17 rfl (lv_at hl 0 rfl) ?_
  refine lv_iconst (v := 0) hx hb gm_d_Reader_read_18 (by decide) ?_
  refine va_put (D := D) (ci := 6) (v := .int 0) (ty := .boolean) (C := gm_R_Reader) (T := gm_F_Reader) (N := 6) hx hb hw gm_u_Reader gm_t_Reader gm_o_Reader gm_n_Reader hown hK hP hD hS 0 rfl rfl 5 (by decide) (hw _ gm_l_Reader_22) (fun _ h9 => h9) rfl (by decide +kernel) rfl rfl (Nat.le_of_ble_eq_true rfl) gm_d_Reader_read_19 (fun H locs hP hD hS => ?_)
  have hP : va_P D gm_cl [(h0, .inr (6, [.ref x0, .ref t0, .ref r0, .int 0, .int 0, .int 0])), (x0, .inr (1, [.ref q0, .int (nI 0)])), (q0, .inl (cC, 50, .inl f)), (t0, .inr (3, [.ref (q 0), .ref (q 1), .ref (q 2), .ref (q 3), .ref (q 4), .ref (q 5), .ref (q 6), .ref (q 7), .ref (q 8), .ref (q 9), .ref (q 10), .int 0, .int 0, .int 0]))] H := hP
  have hD : va_D A [(h0, .inr (6, [.ref x0, .ref t0, .ref r0, .int 0, .int 0, .int 0])), (x0, .inr (1, [.ref q0, .int (nI 0)])), (q0, .inl (cC, 50, .inl f)), (t0, .inr (3, [.ref (q 0), .ref (q 1), .ref (q 2), .ref (q 3), .ref (q 4), .ref (q 5), .ref (q 6), .ref (q 7), .ref (q 8), .ref (q 9), .ref (q 10), .int 0, .int 0, .int 0]))] := hD
  refine lv_aload_n hx hb gm_d_Reader_read_22 rfl (lv_at hl 0 rfl) ?_
  have hPc := hP.sub (ws' := [(h0, .inr (6, [.ref x0, .ref t0, .ref r0, .int 0, .int 0, .int 0])), (x0, .inr (1, [.ref q0, .int (nI 0)])), (q0, .inl (cC, 50, .inl f))]) [0, 1, 2] rfl
  have hDc := hD.sub (ws' := [(h0, .inr (6, [.ref x0, .ref t0, .ref r0, .int 0, .int 0, .int 0])), (x0, .inr (1, [.ref q0, .int (nI 0)])), (q0, .inl (cC, 50, .inl f))]) [0, 1, 2] (by decide) rfl
  have hFc := va_free (wc := [(h0, .inr (6, [.ref x0, .ref t0, .ref r0, .int 0, .int 0, .int 0])), (x0, .inr (1, [.ref q0, .int (nI 0)])), (q0, .inl (cC, 50, .inl f))]) hD hS hA [0, 1, 2] rfl
  refine va_callv (va_runV (As := []) (rest := []) ⟨hx, hb, hml, hown, hw⟩ (gm_c_Reader_readRule_0 l D cI cJ cC cZ h0 x0 t0 r0 q0 f H.size) (cwV 0 hw (gm_gV gm_l_Reader_39 gm_q_Reader_readRule gm_s_Reader_readRule gm_i_Reader (gm_gd gm_k_Reader_readRule)) rfl rfl rfl (by decide +kernel) ⟨Nat.le_of_ble_eq_true rfl, Nat.le_of_ble_eq_true rfl⟩) ⟨fun a U g mk q => by obtain ⟨q0, q1, qP, qK, qD⟩ := q; exact ⟨q0, q1, qP, va_K.moved (u := U) (U := U.calling g mk a) (Vm.Alike.refl U.vm) qK, qD⟩, va_recv hK hP (ci := 6) rfl (q0 := 0) rfl, fun U hU hW => ⟨rfl, by rw [hU], by rw [hU]; exact hPc, va_K.moved hW.alike hK, hDc.weaken (fun _ _ _ _ => trivial)⟩⟩ rfl rfl hl.1 rfl (lv_room (Nat.le_of_ble_eq_true rfl)) gm_d_Reader_read_23 ⟨Nat.le_of_ble_eq_true rfl, Nat.le_of_ble_eq_true rfl⟩) hS (fun q _ h => hFc q h) hFc (fun _ t H1 locs ht hvm hpo hB hz1 hk1 hS => ?_)
  obtain ⟨hP1, -, hD1⟩ := hB
  rw [ht] at hP1
  have hP1 : va_P D gm_cl [(h0, .inr (6, [.ref x0, .ref t0, .ref r0, .int 0, .int 0, .int 1])), (x0, .inr (1, [.ref q0, .int (nI 0)])), (q0, .inl (cC, 50, .inl f))] H1 := hP1
  have hD1 : va_D (va_A [(h0, .inr (6, [.ref x0, .ref t0, .ref r0, .int 0, .int 0, .int 0])), (x0, .inr (1, [.ref q0, .int (nI 0)])), (q0, .inl (cC, 50, .inl f))] H.size) [(h0, .inr (6, [.ref x0, .ref t0, .ref r0, .int 0, .int 0, .int 1])), (x0, .inr (1, [.ref q0, .int (nI 0)])), (q0, .inl (cC, 50, .inl f))] := hD1
  obtain ⟨hP, hD⟩ := va_join (wr := [(t0, .inr (3, [.ref (q 0), .ref (q 1), .ref (q 2), .ref (q 3), .ref (q 4), .ref (q 5), .ref (q 6), .ref (q 7), .ref (q 8), .ref (q 9), .ref (q 10), .int 0, .int 0, .int 0]))]) hP hD [0, 1, 2] [3] rfl rfl (by decide) (by decide) hk1 hFc hP1 hD1
  generalize H1 = H at hP hS ⊢
  have hP : va_P D gm_cl [(t0, .inr (3, [.ref (q 0), .ref (q 1), .ref (q 2), .ref (q 3), .ref (q 4), .ref (q 5), .ref (q 6), .ref (q 7), .ref (q 8), .ref (q 9), .ref (q 10), .int 0, .int 0, .int 0])), (h0, .inr (6, [.ref x0, .ref t0, .ref r0, .int 0, .int 0, .int 1])), (x0, .inr (1, [.ref q0, .int (nI 0)])), (q0, .inl (cC, 50, .inl f))] H := hP
  have hD : va_D A [(t0, .inr (3, [.ref (q 0), .ref (q 1), .ref (q 2), .ref (q 3), .ref (q 4), .ref (q 5), .ref (q 6), .ref (q 7), .ref (q 8), .ref (q 9), .ref (q 10), .int 0, .int 0, .int 0])), (h0, .inr (6, [.ref x0, .ref t0, .ref r0, .int 0, .int 0, .int 1])), (x0, .inr (1, [.ref q0, .int (nI 0)])), (q0, .inl (cC, 50, .inl f))] := hD
  refine lv_iconst (v := 1) hx hb gm_d_Reader_read_26 (by decide) ?_
  refine lv_istore_n (lv' := [(1, .int 1), (0, .ref h0)]) hx hb gm_d_Reader_read_27 rfl hl (Nat.le_of_ble_eq_true rfl) rfl (fun ls hl => ?_)
  refine lv_iload_n hx hb gm_d_Reader_read_28 rfl (lv_at hl 0 rfl) ?_
  refine lv_bipush (v := 8) hx hb gm_d_Reader_read_29 (by decide) ?_
  refine lv_icmp_ge (tgt := 65) hx hb gm_d_Reader_read_31 (by decide) (fun h9 => absurd h9 (by decide)) (fun h9 => ?_)
  refine lv_aload_n hx hb gm_d_Reader_read_34 rfl (lv_at hl 1 rfl) ?_
  refine va_get (D := D) (ci := 6) (v := .int 1) (C := gm_R_Reader) (T := gm_F_Reader) (N := 6) hx hb hw gm_u_Reader hown hK hP 1 rfl rfl 5 (by decide) (hw _ gm_l_Reader_22) (fun _ h9 => h9) rfl gm_d_Reader_read_35 ?_
  refine lv_if_ne (tgt := 65) hx hb gm_d_Reader_read_38 (by decide) (fun _ => ?_) (fun h9 => absurd h9 (by decide))
  refine lv_aload_n hx hb gm_d_Reader_read_65 rfl (lv_at hl 1 rfl) ?_
  refine va_get (D := D) (ci := 6) (v := .int 1) (C := gm_R_Reader) (T := gm_F_Reader) (N := 6) hx hb hw gm_u_Reader hown hK hP 1 rfl rfl 5 (by decide) (hw _ gm_l_Reader_22) (fun _ h9 => h9) rfl gm_d_Reader_read_66 ?_
  refine lv_if_ne (tgt := 86) hx hb gm_d_Reader_read_69 (by decide) (fun _ => ?_) (fun h9 => absurd h9 (by decide))
  refine lv_aload_n hx hb gm_d_Reader_read_86 rfl (lv_at hl 1 rfl) ?_
  refine va_get (D := D) (ci := 6) (v := .int 0) (C := gm_R_Reader) (T := gm_F_Reader) (N := 6) hx hb hw gm_u_Reader hown hK hP 1 rfl rfl 4 (by decide) (hw _ gm_l_Reader_19) (fun _ h9 => h9) rfl gm_d_Reader_read_87 ?_
  refine lv_goto (tgt := 94) hx hb gm_d_Reader_read_90 (by decide) ?_
  have hP9 := hP.sub (ws' := (h0, .inr (6, [.ref x0, .ref t0, .ref r0, .int 0, .int 0, .int 1])) :: gm_oRow x0 q0 cC 50 f (nI 0) ++ [(t0, .inr (3, [.ref (q 0), .ref (q 1), .ref (q 2), .ref (q 3), .ref (q 4), .ref (q 5), .ref (q 6), .ref (q 7), .ref (q 8), .ref (q 9), .ref (q 10), .int 0, .int 0, .int 0]))]) [1, 2, 3, 0] rfl
  have hD9 := hD.sub (ws' := (h0, .inr (6, [.ref x0, .ref t0, .ref r0, .int 0, .int 0, .int 1])) :: gm_oRow x0 q0 cC 50 f (nI 0) ++ [(t0, .inr (3, [.ref (q 0), .ref (q 1), .ref (q 2), .ref (q 3), .ref (q 4), .ref (q 5), .ref (q 6), .ref (q 7), .ref (q 8), .ref (q 9), .ref (q 10), .int 0, .int 0, .int 0]))]) [1, 2, 3, 0] (by decide) rfl
  exact W.iret (v := 0) hx hb hr (fun t ht hW => ⟨⟨0, (), rfl, rfl, by rw [ht]; exact hP9, va_K.moved hW.alike hK, hD9⟩, hS.F ht⟩) hS.2.2 gm_d_Reader_read_94
set_option maxHeartbeats 4000000 in
set_option maxRecDepth 100000 in
theorem gm_x_GM_compile_0 (l : Launch) (hst : l.stackTraces = false) (D : va_G) (cI cJ cC cZ : ClassId) (h0 tx sb ga gb ru : Nat) (co ma re : Int32) (t0 j0 c0 h1 r0 q0 : Nat) (f : Nat → Int32) (q : Nat → Nat) (o1 p1 w1 z1 z2 z3 : Int32) (sz : Nat) : gm_MetX l gm_y_GM_compile (Cond.code gm_y_GM_compile gm_b_GM_compile 1 (some .int) :: gm_W) { frames := 16, cells := 1, slots := 6, locals := 256 } (va_Pc [.ref h0] (fun U => U.heap.size = sz ∧ va_P D gm_cl [(h0, .inr (0, [.ref tx, .ref sb, .ref ga, .ref gb, .ref ru, .int co, .int ma, .int re])), (gb, .inr (2, [.ref t0, .ref j0, .ref c0, .ref h1])), (h1, .inr (6, [.ref tx, .ref t0, .ref r0, .int o1, .int p1, .int w1])), (tx, .inr (1, [.ref q0, .int (nI 0)])), (q0, .inl (cC, 50, .inl f)), (t0, .inr (3, [.ref (q 0), .ref (q 1), .ref (q 2), .ref (q 3), .ref (q 4), .ref (q 5), .ref (q 6), .ref (q 7), .ref (q 8), .ref (q 9), .ref (q 10), .int z1, .int z2, .int z3]))] U.heap ∧ va_K D gm_cl (gm_T cI cJ cC cZ) U ∧ va_D (fun _ => True) [(h0, .inr (0, [.ref tx, .ref sb, .ref ga, .ref gb, .ref ru, .int co, .int ma, .int re])), (gb, .inr (2, [.ref t0, .ref j0, .ref c0, .ref h1])), (h1, .inr (6, [.ref tx, .ref t0, .ref r0, .int o1, .int p1, .int w1])), (tx, .inr (1, [.ref q0, .int (nI 0)])), (q0, .inl (cC, 50, .inl f)), (t0, .inr (3, [.ref (q 0), .ref (q 1), .ref (q 2), .ref (q 3), .ref (q 4), .ref (q 5), .ref (q 6), .ref (q 7), .ref (q 8), .ref (q 9), .ref (q 10), .int z1, .int z2, .int z3]))] ∧ gm_E (va_A [(h0, .inr (0, [.ref tx, .ref sb, .ref ga, .ref gb, .ref ru, .int co, .int ma, .int re])), (gb, .inr (2, [.ref t0, .ref j0, .ref c0, .ref h1])), (h1, .inr (6, [.ref tx, .ref t0, .ref r0, .int o1, .int p1, .int w1])), (tx, .inr (1, [.ref q0, .int (nI 0)])), (q0, .inl (cC, 50, .inl f)), (t0, .inr (3, [.ref (q 0), .ref (q 1), .ref (q 2), .ref (q 3), .ref (q 4), .ref (q 5), .ref (q 6), .ref (q 7), .ref (q 8), .ref (q 9), .ref (q 10), .int z1, .int z2, .int z3]))] sz) U)) (va_Qi (fun (_ : Int32) (_ : Unit) => False) (fun _ _ => True) (va_A [(h0, .inr (0, [.ref tx, .ref sb, .ref ga, .ref gb, .ref ru, .int co, .int ma, .int re])), (gb, .inr (2, [.ref t0, .ref j0, .ref c0, .ref h1])), (h1, .inr (6, [.ref tx, .ref t0, .ref r0, .int o1, .int p1, .int w1])), (tx, .inr (1, [.ref q0, .int (nI 0)])), (q0, .inl (cC, 50, .inl f)), (t0, .inr (3, [.ref (q 0), .ref (q 1), .ref (q 2), .ref (q 3), .ref (q 4), .ref (q 5), .ref (q 6), .ref (q 7), .ref (q 8), .ref (q 9), .ref (q 10), .int z1, .int z2, .int z3]))] sz)) (fun E st t => (E = gm_xIAE ∧ gm_at D (va_A [(h0, .inr (0, [.ref tx, .ref sb, .ref ga, .ref gb, .ref ru, .int co, .int ma, .int re])), (gb, .inr (2, [.ref t0, .ref j0, .ref c0, .ref h1])), (h1, .inr (6, [.ref tx, .ref t0, .ref r0, .int o1, .int p1, .int w1])), (tx, .inr (1, [.ref q0, .int (nI 0)])), (q0, .inl (cC, 50, .inl f)), (t0, .inr (3, [.ref (q 0), .ref (q 1), .ref (q 2), .ref (q 3), .ref (q 4), .ref (q 5), .ref (q 6), .ref (q 7), .ref (q 8), .ref (q 9), .ref (q 10), .int z1, .int z2, .int z3]))] sz) (gm_oO h0 tx sb ga gb ru co ma 0 :: (gb, .inr (2, [.ref t0, .ref j0, .ref c0, .ref h1])) :: (h1, .inr (6, [.ref tx, .ref t0, .ref r0, .int 0, .int 0, .int 1])) :: gm_oRow tx q0 cC 50 f (nI 0) ++ [(t0, .inr (3, [.ref (q 0), .ref (q 1), .ref (q 2), .ref (q 3), .ref (q 4), .ref (q 5), .ref (q 6), .ref (q 7), .ref (q 8), .ref (q 9), .ref (q 10), .int 0, .int 0, .int 0]))]) (gm_T cI cJ cC cZ) t) ∧ va_F (va_A [(h0, .inr (0, [.ref tx, .ref sb, .ref ga, .ref gb, .ref ru, .int co, .int ma, .int re])), (gb, .inr (2, [.ref t0, .ref j0, .ref c0, .ref h1])), (h1, .inr (6, [.ref tx, .ref t0, .ref r0, .int o1, .int p1, .int w1])), (tx, .inr (1, [.ref q0, .int (nI 0)])), (q0, .inl (cC, 50, .inl f)), (t0, .inr (3, [.ref (q 0), .ref (q 1), .ref (q 2), .ref (q 3), .ref (q 4), .ref (q 5), .ref (q 6), .ref (q 7), .ref (q 8), .ref (q 9), .ref (q 10), .int z1, .int z2, .int z3]))] sz) st t) 1 6 (va_A [(h0, .inr (0, [.ref tx, .ref sb, .ref ga, .ref gb, .ref ru, .int co, .int ma, .int re])), (gb, .inr (2, [.ref t0, .ref j0, .ref c0, .ref h1])), (h1, .inr (6, [.ref tx, .ref t0, .ref r0, .int o1, .int p1, .int w1])), (tx, .inr (1, [.ref q0, .int (nI 0)])), (q0, .inl (cC, 50, .inl f)), (t0, .inr (3, [.ref (q 0), .ref (q 1), .ref (q 2), .ref (q 3), .ref (q 4), .ref (q 5), .ref (q 6), .ref (q 7), .ref (q 8), .ref (q 9), .ref (q 10), .int z1, .int z2, .int z3]))] sz) := by
  refine gm_ofX (cc := gm_b_GM_compile) (maxL := 1) (ret := (some .int)) (by decide) rfl ?_
  intro p e s m args below meth c s₁ B hml htab hv
  obtain ⟨rfl, hsz, hP, hK, hD0, hE⟩ := hv
  have hx := B.exec
  have hb := B.bytes
  have hr := B.returns
  have hlocks := B.notSynchronized
  have hw : ∀ w ∈ gm_W, w.before _ s = true := fun w h => atoms_spec B.pre w (List.mem_cons_of_mem _ h)
  have hown : s.vm.findClass gm_R_GM = some m.cls := findClass_of_methodNamed B.named
  subst hsz
  have hD := hD0.self (sz := s.heap.size)
  generalize hAe : va_A [(h0, .inr (0, [.ref tx, .ref sb, .ref ga, .ref gb, .ref ru, .int co, .int ma, .int re])), (gb, .inr (2, [.ref t0, .ref j0, .ref c0, .ref h1])), (h1, .inr (6, [.ref tx, .ref t0, .ref r0, .int o1, .int p1, .int w1])), (tx, .inr (1, [.ref q0, .int (nI 0)])), (q0, .inl (cC, 50, .inl f)), (t0, .inr (3, [.ref (q 0), .ref (q 1), .ref (q 2), .ref (q 3), .ref (q 4), .ref (q 5), .ref (q 6), .ref (q 7), .ref (q 8), .ref (q 9), .ref (q 10), .int z1, .int z2, .int z3]))] s.heap.size = A at hD hE ⊢
  have hA : ∀ q : Nat, s.heap.size ≤ q → A q := fun q h => by rw [← hAe]; exact Or.inr h
  have hS : va_S A s.heap s.heap [] := va_S.rf
  have hl := lv_entry ([.ref h0]) (n := 1) (Nat.le_of_ble_eq_true rfl)
  rw [lg_entry_eq]
  generalize (lg_sl ([.ref h0]) ++ List.replicate (1 - (lg_sl ([.ref h0])).length) Slot.unset).toArray = ls at hl ⊢
  have hl : lv_has ls 1 [(0, .ref h0)] := hl
  refine lv_aload_n hx hb gm_d_GM_compile_0 rfl (lv_at hl 0 rfl) ?_
  refine lv_aload_n hx hb gm_d_GM_compile_1 rfl (lv_at hl 0 rfl) ?_
  refine va_get (D := D) (ci := 0) (v := .ref gb) (C := gm_R_GM) (T := gm_F_GM) (N := 8) hx hb hw gm_u_GM hown hK hP 0 rfl rfl 3 (by decide) (hw _ gm_l_GM_30) (fun _ h9 => h9) rfl gm_d_GM_compile_2 ?_
  refine va_get (D := D) (ci := 2) (v := .ref h1) (C := gm_R_Grammar) (T := gm_F_Grammar) (N := 4) hx hb hw gm_u_Grammar hown hK hP 1 rfl rfl 3 (by decide) (hw _ gm_l_GM_60) (fun _ h9 => h9) rfl gm_d_GM_compile_5 ?_
  have hPc := hP.sub (ws' := [(h1, .inr (6, [.ref tx, .ref t0, .ref r0, .int o1, .int p1, .int w1])), (tx, .inr (1, [.ref q0, .int (nI 0)])), (q0, .inl (cC, 50, .inl f)), (t0, .inr (3, [.ref (q 0), .ref (q 1), .ref (q 2), .ref (q 3), .ref (q 4), .ref (q 5), .ref (q 6), .ref (q 7), .ref (q 8), .ref (q 9), .ref (q 10), .int z1, .int z2, .int z3]))]) [2, 3, 4, 5] rfl
  have hDc := hD.sub (ws' := [(h1, .inr (6, [.ref tx, .ref t0, .ref r0, .int o1, .int p1, .int w1])), (tx, .inr (1, [.ref q0, .int (nI 0)])), (q0, .inl (cC, 50, .inl f)), (t0, .inr (3, [.ref (q 0), .ref (q 1), .ref (q 2), .ref (q 3), .ref (q 4), .ref (q 5), .ref (q 6), .ref (q 7), .ref (q 8), .ref (q 9), .ref (q 10), .int z1, .int z2, .int z3]))]) [2, 3, 4, 5] (by decide) rfl
  have hFc := va_free (wc := [(h1, .inr (6, [.ref tx, .ref t0, .ref r0, .int o1, .int p1, .int w1])), (tx, .inr (1, [.ref q0, .int (nI 0)])), (q0, .inl (cC, 50, .inl f)), (t0, .inr (3, [.ref (q 0), .ref (q 1), .ref (q 2), .ref (q 3), .ref (q 4), .ref (q 5), .ref (q 6), .ref (q 7), .ref (q 8), .ref (q 9), .ref (q 10), .int z1, .int z2, .int z3]))]) hD hS hA [2, 3, 4, 5] rfl
  refine va_calli (va_runV (As := []) (rest := [.ref h0]) ⟨hx, hb, hml, hown, hw⟩ (gm_c_Reader_read_0 l D cI cJ cC cZ h1 tx t0 r0 q0 f q o1 p1 w1 z1 z2 z3 s.heap.size) (cwV 0 hw (gm_gV gm_l_GM_64 gm_q_Reader_read gm_s_Reader_read gm_i_Reader (gm_gd gm_k_Reader_read)) rfl rfl rfl (by decide +kernel) ⟨Nat.le_of_ble_eq_true rfl, Nat.le_of_ble_eq_true rfl⟩) ⟨fun a U g mk q => by obtain ⟨q0, q1, qP, qK, qD⟩ := q; exact ⟨q0, q1, qP, va_K.moved (u := U) (U := U.calling g mk a) (Vm.Alike.refl U.vm) qK, qD⟩, va_recv hK hP (ci := 6) rfl (q0 := 2) rfl, fun U hU hW => ⟨rfl, by rw [hU], by rw [hU]; exact hPc, va_K.moved hW.alike hK, hDc.weaken (fun _ _ _ _ => trivial)⟩⟩ rfl rfl hl.1 rfl (lv_room (Nat.le_of_ble_eq_true rfl)) gm_d_GM_compile_8 ⟨Nat.le_of_ble_eq_true rfl, Nat.le_of_ble_eq_true rfl⟩) hS (fun q _ h => hFc q h) hFc (fun r8 _ t H1 locs ht hvm h8 hB hz1 hk1 hS => ?_)
  obtain ⟨hP1, -, hD1⟩ := hB
  rw [ht] at hP1
  subst h8
  have hP1 : va_P D gm_cl [(h1, .inr (6, [.ref tx, .ref t0, .ref r0, .int 0, .int 0, .int 1])), (tx, .inr (1, [.ref q0, .int (nI 0)])), (q0, .inl (cC, 50, .inl f)), (t0, .inr (3, [.ref (q 0), .ref (q 1), .ref (q 2), .ref (q 3), .ref (q 4), .ref (q 5), .ref (q 6), .ref (q 7), .ref (q 8), .ref (q 9), .ref (q 10), .int 0, .int 0, .int 0]))] H1 := hP1
  have hD1 : va_D (va_A [(h1, .inr (6, [.ref tx, .ref t0, .ref r0, .int o1, .int p1, .int w1])), (tx, .inr (1, [.ref q0, .int (nI 0)])), (q0, .inl (cC, 50, .inl f)), (t0, .inr (3, [.ref (q 0), .ref (q 1), .ref (q 2), .ref (q 3), .ref (q 4), .ref (q 5), .ref (q 6), .ref (q 7), .ref (q 8), .ref (q 9), .ref (q 10), .int z1, .int z2, .int z3]))] s.heap.size) [(h1, .inr (6, [.ref tx, .ref t0, .ref r0, .int 0, .int 0, .int 1])), (tx, .inr (1, [.ref q0, .int (nI 0)])), (q0, .inl (cC, 50, .inl f)), (t0, .inr (3, [.ref (q 0), .ref (q 1), .ref (q 2), .ref (q 3), .ref (q 4), .ref (q 5), .ref (q 6), .ref (q 7), .ref (q 8), .ref (q 9), .ref (q 10), .int 0, .int 0, .int 0]))] := hD1
  obtain ⟨hP, hD⟩ := va_join (wr := [(h0, .inr (0, [.ref tx, .ref sb, .ref ga, .ref gb, .ref ru, .int co, .int ma, .int re])), (gb, .inr (2, [.ref t0, .ref j0, .ref c0, .ref h1]))]) hP hD [2, 3, 4, 5] [0, 1] rfl rfl (by decide) (by decide) hk1 hFc hP1 hD1
  generalize H1 = H at hP hS ⊢
  have hP : va_P D gm_cl [(h0, .inr (0, [.ref tx, .ref sb, .ref ga, .ref gb, .ref ru, .int co, .int ma, .int re])), (gb, .inr (2, [.ref t0, .ref j0, .ref c0, .ref h1])), (h1, .inr (6, [.ref tx, .ref t0, .ref r0, .int 0, .int 0, .int 1])), (tx, .inr (1, [.ref q0, .int (nI 0)])), (q0, .inl (cC, 50, .inl f)), (t0, .inr (3, [.ref (q 0), .ref (q 1), .ref (q 2), .ref (q 3), .ref (q 4), .ref (q 5), .ref (q 6), .ref (q 7), .ref (q 8), .ref (q 9), .ref (q 10), .int 0, .int 0, .int 0]))] H := hP
  have hD : va_D A [(h0, .inr (0, [.ref tx, .ref sb, .ref ga, .ref gb, .ref ru, .int co, .int ma, .int re])), (gb, .inr (2, [.ref t0, .ref j0, .ref c0, .ref h1])), (h1, .inr (6, [.ref tx, .ref t0, .ref r0, .int 0, .int 0, .int 1])), (tx, .inr (1, [.ref q0, .int (nI 0)])), (q0, .inl (cC, 50, .inl f)), (t0, .inr (3, [.ref (q 0), .ref (q 1), .ref (q 2), .ref (q 3), .ref (q 4), .ref (q 5), .ref (q 6), .ref (q 7), .ref (q 8), .ref (q 9), .ref (q 10), .int 0, .int 0, .int 0]))] := hD
  refine va_put (D := D) (ci := 0) (v := .int 0) (ty := .int) (C := gm_R_GM) (T := gm_F_GM) (N := 8) hx hb hw gm_u_GM gm_t_GM gm_o_GM gm_n_GM hown hK hP hD hS 0 rfl rfl 7 (by decide) (hw _ gm_l_GM_49) (fun _ h9 => h9) rfl (by decide +kernel) rfl rfl (Nat.le_of_ble_eq_true rfl) gm_d_GM_compile_11 (fun H locs hP hD hS => ?_)
  have hP : va_P D gm_cl [(h0, .inr (0, [.ref tx, .ref sb, .ref ga, .ref gb, .ref ru, .int co, .int ma, .int 0])), (gb, .inr (2, [.ref t0, .ref j0, .ref c0, .ref h1])), (h1, .inr (6, [.ref tx, .ref t0, .ref r0, .int 0, .int 0, .int 1])), (tx, .inr (1, [.ref q0, .int (nI 0)])), (q0, .inl (cC, 50, .inl f)), (t0, .inr (3, [.ref (q 0), .ref (q 1), .ref (q 2), .ref (q 3), .ref (q 4), .ref (q 5), .ref (q 6), .ref (q 7), .ref (q 8), .ref (q 9), .ref (q 10), .int 0, .int 0, .int 0]))] H := hP
  have hD : va_D A [(h0, .inr (0, [.ref tx, .ref sb, .ref ga, .ref gb, .ref ru, .int co, .int ma, .int 0])), (gb, .inr (2, [.ref t0, .ref j0, .ref c0, .ref h1])), (h1, .inr (6, [.ref tx, .ref t0, .ref r0, .int 0, .int 0, .int 1])), (tx, .inr (1, [.ref q0, .int (nI 0)])), (q0, .inl (cC, 50, .inl f)), (t0, .inr (3, [.ref (q 0), .ref (q 1), .ref (q 2), .ref (q 3), .ref (q 4), .ref (q 5), .ref (q 6), .ref (q 7), .ref (q 8), .ref (q 9), .ref (q 10), .int 0, .int 0, .int 0]))] := hD
  refine lv_aload_n hx hb gm_d_GM_compile_14 rfl (lv_at hl 0 rfl) ?_
  refine va_get (D := D) (ci := 0) (v := .int 0) (C := gm_R_GM) (T := gm_F_GM) (N := 8) hx hb hw gm_u_GM hown hK hP 0 rfl rfl 7 (by decide) (hw _ gm_l_GM_49) (fun _ h9 => h9) rfl gm_d_GM_compile_15 ?_
  refine lv_iconst (v := (-1)) hx hb gm_d_GM_compile_18 (by decide) ?_
  refine lv_icmp_eq (tgt := 32) hx hb gm_d_GM_compile_19 (by decide) (fun h9 => absurd h9 (by decide)) (fun h9 => ?_)
  have hP9 := hP.sub (ws' := (gm_oO h0 tx sb ga gb ru co ma 0 :: (gb, .inr (2, [.ref t0, .ref j0, .ref c0, .ref h1])) :: (h1, .inr (6, [.ref tx, .ref t0, .ref r0, .int 0, .int 0, .int 1])) :: gm_oRow tx q0 cC 50 f (nI 0) ++ [(t0, .inr (3, [.ref (q 0), .ref (q 1), .ref (q 2), .ref (q 3), .ref (q 4), .ref (q 5), .ref (q 6), .ref (q 7), .ref (q 8), .ref (q 9), .ref (q 10), .int 0, .int 0, .int 0]))])) [0, 1, 2, 3, 4, 5] rfl
  have hD9 := hD.sub (ws' := (gm_oO h0 tx sb ga gb ru co ma 0 :: (gb, .inr (2, [.ref t0, .ref j0, .ref c0, .ref h1])) :: (h1, .inr (6, [.ref tx, .ref t0, .ref r0, .int 0, .int 0, .int 1])) :: gm_oRow tx q0 cC 50 f (nI 0) ++ [(t0, .inr (3, [.ref (q 0), .ref (q 1), .ref (q 2), .ref (q 3), .ref (q 4), .ref (q 5), .ref (q 6), .ref (q 7), .ref (q 8), .ref (q 9), .ref (q 10), .int 0, .int 0, .int 0]))])) [0, 1, 2, 3, 4, 5] (by decide) rfl
  exact gm_thr (cls := gm_xIAE) (text := "the text is no grammar") hx hb hst hown hw hE hP9 hK hD9 hS (by decide) (by decide) gm_l_GM_70 gm_i_IAE gm_okIAE (by rw [hml]; exact hl.1) gm_d_GM_compile_22 gm_d_GM_compile_25 gm_d_GM_compile_26 gm_d_GM_compile_28 gm_d_GM_compile_31 htab (Nat.le_of_ble_eq_true rfl) (Nat.le_of_ble_eq_true rfl) (Nat.le_of_ble_eq_true rfl) (Nat.le_of_ble_eq_true rfl) hlocks (Nat.le_of_ble_eq_true rfl) (Nat.le_of_ble_eq_true rfl)
set_option maxHeartbeats 4000000 in
set_option maxRecDepth 100000 in
theorem gm_x_GM_empty_0 (l : Launch) (hst : l.stackTraces = false) (D : va_G) (cI cJ cC cZ : ClassId) (h0 tx sb ga gb ru : Nat) (ma re : Int32) (x : Int32) (sz : Nat) : gm_MetX l gm_y_GM_empty (Cond.code gm_y_GM_empty gm_b_GM_empty 3 (some .boolean) :: gm_W) { frames := 8, cells := 1, slots := 6, locals := 128 } (va_Pc [.ref h0, .int x] (fun U => U.heap.size = sz ∧ va_P D gm_cl [(h0, .inr (0, [.ref tx, .ref sb, .ref ga, .ref gb, .ref ru, .int 0, .int ma, .int re]))] U.heap ∧ va_K D gm_cl (gm_T cI cJ cC cZ) U ∧ va_D (fun _ => True) [(h0, .inr (0, [.ref tx, .ref sb, .ref ga, .ref gb, .ref ru, .int 0, .int ma, .int re]))] ∧ gm_E (va_A [(h0, .inr (0, [.ref tx, .ref sb, .ref ga, .ref gb, .ref ru, .int 0, .int ma, .int re]))] sz) U)) (va_Qi (fun (_ : Int32) (_ : Unit) => False) (fun _ _ => True) (va_A [(h0, .inr (0, [.ref tx, .ref sb, .ref ga, .ref gb, .ref ru, .int 0, .int ma, .int re]))] sz)) (fun E st t => (E = gm_xISE ∧ gm_at D (va_A [(h0, .inr (0, [.ref tx, .ref sb, .ref ga, .ref gb, .ref ru, .int 0, .int ma, .int re]))] sz) [gm_oO h0 tx sb ga gb ru 0 ma re] (gm_T cI cJ cC cZ) t) ∧ va_F (va_A [(h0, .inr (0, [.ref tx, .ref sb, .ref ga, .ref gb, .ref ru, .int 0, .int ma, .int re]))] sz) st t) 1 6 (va_A [(h0, .inr (0, [.ref tx, .ref sb, .ref ga, .ref gb, .ref ru, .int 0, .int ma, .int re]))] sz) := by
  refine gm_ofX (cc := gm_b_GM_empty) (maxL := 3) (ret := (some .boolean)) (by decide) rfl ?_
  intro p e s m args below meth c s₁ B hml htab hv
  obtain ⟨rfl, hsz, hP, hK, hD0, hE⟩ := hv
  have hx := B.exec
  have hb := B.bytes
  have hr := B.returns
  have hlocks := B.notSynchronized
  have hw : ∀ w ∈ gm_W, w.before _ s = true := fun w h => atoms_spec B.pre w (List.mem_cons_of_mem _ h)
  have hown : s.vm.findClass gm_R_GM = some m.cls := findClass_of_methodNamed B.named
  subst hsz
  have hD := hD0.self (sz := s.heap.size)
  generalize hAe : va_A [(h0, .inr (0, [.ref tx, .ref sb, .ref ga, .ref gb, .ref ru, .int 0, .int ma, .int re]))] s.heap.size = A at hD hE ⊢
  have hA : ∀ q : Nat, s.heap.size ≤ q → A q := fun q h => by rw [← hAe]; exact Or.inr h
  have hS : va_S A s.heap s.heap [] := va_S.rf
  have hl := lv_entry ([.ref h0, .int x]) (n := 3) (Nat.le_of_ble_eq_true rfl)
  rw [lg_entry_eq]
  generalize (lg_sl ([.ref h0, .int x]) ++ List.replicate (3 - (lg_sl ([.ref h0, .int x])).length) Slot.unset).toArray = ls at hl ⊢
  have hl : lv_has ls 3 [(0, .ref h0), (1, .int x)] := hl
  refine lv_aload_n hx hb gm_d_GM_empty_0 rfl (lv_at hl 0 rfl) ?_
  refine va_get (D := D) (ci := 0) (v := .int 0) (C := gm_R_GM) (T := gm_F_GM) (N := 8) hx hb hw gm_u_GM hown hK hP 0 rfl rfl 5 (by decide) (hw _ gm_l_GM_42) (fun _ h9 => h9) rfl gm_d_GM_empty_1 ?_
  refine lv_if_ne (tgt := 17) hx hb gm_d_GM_empty_4 (by decide) (fun h9 => absurd rfl h9) (fun _ => ?_)
  have hP9 := hP.sub (ws' := [gm_oO h0 tx sb ga gb ru 0 ma re]) [0] rfl
  have hD9 := hD.sub (ws' := [gm_oO h0 tx sb ga gb ru 0 ma re]) [0] (by decide) rfl
  exact gm_thr (cls := gm_xISE) (text := "there is no grammar") hx hb hst hown hw hE hP9 hK hD9 hS (by decide) (by decide) gm_l_GM_86 gm_i_ISE gm_okISE (by rw [hml]; exact hl.1) gm_d_GM_empty_7 gm_d_GM_empty_10 gm_d_GM_empty_11 gm_d_GM_empty_13 gm_d_GM_empty_16 htab (Nat.le_of_ble_eq_true rfl) (Nat.le_of_ble_eq_true rfl) (Nat.le_of_ble_eq_true rfl) (Nat.le_of_ble_eq_true rfl) hlocks (Nat.le_of_ble_eq_true rfl) (Nat.le_of_ble_eq_true rfl)
set_option maxHeartbeats 4000000 in
set_option maxRecDepth 100000 in
theorem gm_x_GM_head_0 (l : Launch) (hst : l.stackTraces = false) (D : va_G) (cI cJ cC cZ : ClassId) (h0 tx sb ga gb ru : Nat) (ma re : Int32) (x y : Int32) (sz : Nat) : gm_MetX l gm_y_GM_head (Cond.code gm_y_GM_head gm_b_GM_head 4 (some .boolean) :: gm_W) { frames := 8, cells := 1, slots := 6, locals := 128 } (va_Pc [.ref h0, .int x, .int y] (fun U => U.heap.size = sz ∧ va_P D gm_cl [(h0, .inr (0, [.ref tx, .ref sb, .ref ga, .ref gb, .ref ru, .int 0, .int ma, .int re]))] U.heap ∧ va_K D gm_cl (gm_T cI cJ cC cZ) U ∧ va_D (fun _ => True) [(h0, .inr (0, [.ref tx, .ref sb, .ref ga, .ref gb, .ref ru, .int 0, .int ma, .int re]))] ∧ gm_E (va_A [(h0, .inr (0, [.ref tx, .ref sb, .ref ga, .ref gb, .ref ru, .int 0, .int ma, .int re]))] sz) U)) (va_Qi (fun (_ : Int32) (_ : Unit) => False) (fun _ _ => True) (va_A [(h0, .inr (0, [.ref tx, .ref sb, .ref ga, .ref gb, .ref ru, .int 0, .int ma, .int re]))] sz)) (fun E st t => (E = gm_xISE ∧ gm_at D (va_A [(h0, .inr (0, [.ref tx, .ref sb, .ref ga, .ref gb, .ref ru, .int 0, .int ma, .int re]))] sz) [gm_oO h0 tx sb ga gb ru 0 ma re] (gm_T cI cJ cC cZ) t) ∧ va_F (va_A [(h0, .inr (0, [.ref tx, .ref sb, .ref ga, .ref gb, .ref ru, .int 0, .int ma, .int re]))] sz) st t) 1 6 (va_A [(h0, .inr (0, [.ref tx, .ref sb, .ref ga, .ref gb, .ref ru, .int 0, .int ma, .int re]))] sz) := by
  refine gm_ofX (cc := gm_b_GM_head) (maxL := 4) (ret := (some .boolean)) (by decide) rfl ?_
  intro p e s m args below meth c s₁ B hml htab hv
  obtain ⟨rfl, hsz, hP, hK, hD0, hE⟩ := hv
  have hx := B.exec
  have hb := B.bytes
  have hr := B.returns
  have hlocks := B.notSynchronized
  have hw : ∀ w ∈ gm_W, w.before _ s = true := fun w h => atoms_spec B.pre w (List.mem_cons_of_mem _ h)
  have hown : s.vm.findClass gm_R_GM = some m.cls := findClass_of_methodNamed B.named
  subst hsz
  have hD := hD0.self (sz := s.heap.size)
  generalize hAe : va_A [(h0, .inr (0, [.ref tx, .ref sb, .ref ga, .ref gb, .ref ru, .int 0, .int ma, .int re]))] s.heap.size = A at hD hE ⊢
  have hA : ∀ q : Nat, s.heap.size ≤ q → A q := fun q h => by rw [← hAe]; exact Or.inr h
  have hS : va_S A s.heap s.heap [] := va_S.rf
  have hl := lv_entry ([.ref h0, .int x, .int y]) (n := 4) (Nat.le_of_ble_eq_true rfl)
  rw [lg_entry_eq]
  generalize (lg_sl ([.ref h0, .int x, .int y]) ++ List.replicate (4 - (lg_sl ([.ref h0, .int x, .int y])).length) Slot.unset).toArray = ls at hl ⊢
  have hl : lv_has ls 4 [(0, .ref h0), (1, .int x), (2, .int y)] := hl
  refine lv_aload_n hx hb gm_d_GM_head_0 rfl (lv_at hl 0 rfl) ?_
  refine va_get (D := D) (ci := 0) (v := .int 0) (C := gm_R_GM) (T := gm_F_GM) (N := 8) hx hb hw gm_u_GM hown hK hP 0 rfl rfl 5 (by decide) (hw _ gm_l_GM_42) (fun _ h9 => h9) rfl gm_d_GM_head_1 ?_
  refine lv_if_ne (tgt := 17) hx hb gm_d_GM_head_4 (by decide) (fun h9 => absurd rfl h9) (fun _ => ?_)
  have hP9 := hP.sub (ws' := [gm_oO h0 tx sb ga gb ru 0 ma re]) [0] rfl
  have hD9 := hD.sub (ws' := [gm_oO h0 tx sb ga gb ru 0 ma re]) [0] (by decide) rfl
  exact gm_thr (cls := gm_xISE) (text := "there is no grammar") hx hb hst hown hw hE hP9 hK hD9 hS (by decide) (by decide) gm_l_GM_86 gm_i_ISE gm_okISE (by rw [hml]; exact hl.1) gm_d_GM_head_7 gm_d_GM_head_10 gm_d_GM_head_11 gm_d_GM_head_13 gm_d_GM_head_16 htab (Nat.le_of_ble_eq_true rfl) (Nat.le_of_ble_eq_true rfl) (Nat.le_of_ble_eq_true rfl) (Nat.le_of_ble_eq_true rfl) hlocks (Nat.le_of_ble_eq_true rfl) (Nat.le_of_ble_eq_true rfl)
set_option maxHeartbeats 4000000 in
set_option maxRecDepth 100000 in
theorem gm_x_GM_match_0 (l : Launch) (hst : l.stackTraces = false) (D : va_G) (cI cJ cC cZ : ClassId) (h0 tx sb ga gb ru : Nat) (ma re : Int32) (x : Int32) (sz : Nat) : gm_MetX l gm_y_GM_match (Cond.code gm_y_GM_match gm_b_GM_match 2 (some .int) :: gm_W) { frames := 8, cells := 1, slots := 6, locals := 128 } (va_Pc [.ref h0, .int x] (fun U => U.heap.size = sz ∧ va_P D gm_cl [(h0, .inr (0, [.ref tx, .ref sb, .ref ga, .ref gb, .ref ru, .int 0, .int ma, .int re]))] U.heap ∧ va_K D gm_cl (gm_T cI cJ cC cZ) U ∧ va_D (fun _ => True) [(h0, .inr (0, [.ref tx, .ref sb, .ref ga, .ref gb, .ref ru, .int 0, .int ma, .int re]))] ∧ gm_E (va_A [(h0, .inr (0, [.ref tx, .ref sb, .ref ga, .ref gb, .ref ru, .int 0, .int ma, .int re]))] sz) U)) (va_Qi (fun (_ : Int32) (_ : Unit) => False) (fun _ _ => True) (va_A [(h0, .inr (0, [.ref tx, .ref sb, .ref ga, .ref gb, .ref ru, .int 0, .int ma, .int re]))] sz)) (fun E st t => (E = gm_xISE ∧ gm_at D (va_A [(h0, .inr (0, [.ref tx, .ref sb, .ref ga, .ref gb, .ref ru, .int 0, .int ma, .int re]))] sz) [gm_oO h0 tx sb ga gb ru 0 ma re] (gm_T cI cJ cC cZ) t) ∧ va_F (va_A [(h0, .inr (0, [.ref tx, .ref sb, .ref ga, .ref gb, .ref ru, .int 0, .int ma, .int re]))] sz) st t) 1 6 (va_A [(h0, .inr (0, [.ref tx, .ref sb, .ref ga, .ref gb, .ref ru, .int 0, .int ma, .int re]))] sz) := by
  refine gm_ofX (cc := gm_b_GM_match) (maxL := 2) (ret := (some .int)) (by decide) rfl ?_
  intro p e s m args below meth c s₁ B hml htab hv
  obtain ⟨rfl, hsz, hP, hK, hD0, hE⟩ := hv
  have hx := B.exec
  have hb := B.bytes
  have hr := B.returns
  have hlocks := B.notSynchronized
  have hw : ∀ w ∈ gm_W, w.before _ s = true := fun w h => atoms_spec B.pre w (List.mem_cons_of_mem _ h)
  have hown : s.vm.findClass gm_R_GM = some m.cls := findClass_of_methodNamed B.named
  subst hsz
  have hD := hD0.self (sz := s.heap.size)
  generalize hAe : va_A [(h0, .inr (0, [.ref tx, .ref sb, .ref ga, .ref gb, .ref ru, .int 0, .int ma, .int re]))] s.heap.size = A at hD hE ⊢
  have hA : ∀ q : Nat, s.heap.size ≤ q → A q := fun q h => by rw [← hAe]; exact Or.inr h
  have hS : va_S A s.heap s.heap [] := va_S.rf
  have hl := lv_entry ([.ref h0, .int x]) (n := 2) (Nat.le_of_ble_eq_true rfl)
  rw [lg_entry_eq]
  generalize (lg_sl ([.ref h0, .int x]) ++ List.replicate (2 - (lg_sl ([.ref h0, .int x])).length) Slot.unset).toArray = ls at hl ⊢
  have hl : lv_has ls 2 [(0, .ref h0), (1, .int x)] := hl
  refine lv_aload_n hx hb gm_d_GM_match_0 rfl (lv_at hl 0 rfl) ?_
  refine va_get (D := D) (ci := 0) (v := .int 0) (C := gm_R_GM) (T := gm_F_GM) (N := 8) hx hb hw gm_u_GM hown hK hP 0 rfl rfl 5 (by decide) (hw _ gm_l_GM_42) (fun _ h9 => h9) rfl gm_d_GM_match_1 ?_
  refine lv_if_ne (tgt := 17) hx hb gm_d_GM_match_4 (by decide) (fun h9 => absurd rfl h9) (fun _ => ?_)
  have hP9 := hP.sub (ws' := [gm_oO h0 tx sb ga gb ru 0 ma re]) [0] rfl
  have hD9 := hD.sub (ws' := [gm_oO h0 tx sb ga gb ru 0 ma re]) [0] (by decide) rfl
  exact gm_thr (cls := gm_xISE) (text := "there is no grammar") hx hb hst hown hw hE hP9 hK hD9 hS (by decide) (by decide) gm_l_GM_86 gm_i_ISE gm_okISE (by rw [hml]; exact hl.1) gm_d_GM_match_7 gm_d_GM_match_10 gm_d_GM_match_11 gm_d_GM_match_13 gm_d_GM_match_16 htab (Nat.le_of_ble_eq_true rfl) (Nat.le_of_ble_eq_true rfl) (Nat.le_of_ble_eq_true rfl) (Nat.le_of_ble_eq_true rfl) hlocks (Nat.le_of_ble_eq_true rfl) (Nat.le_of_ble_eq_true rfl)
set_option maxHeartbeats 4000000 in
set_option maxRecDepth 100000 in
theorem gm_x_GM_node_0 (l : Launch) (hst : l.stackTraces = false) (D : va_G) (cI cJ cC cZ : ClassId) (h0 tx sb ga gb ru : Nat) (co re x y : Int32) (sz : Nat) : gm_MetX l gm_y_GM_node (Cond.code gm_y_GM_node gm_b_GM_node 3 (some .int) :: gm_W) { frames := 8, cells := 1, slots := 6, locals := 128 } (va_Pc [.ref h0, .int x, .int y] (fun U => U.heap.size = sz ∧ va_P D gm_cl [(h0, .inr (0, [.ref tx, .ref sb, .ref ga, .ref gb, .ref ru, .int co, .int 0, .int re]))] U.heap ∧ va_K D gm_cl (gm_T cI cJ cC cZ) U ∧ va_D (fun _ => True) [(h0, .inr (0, [.ref tx, .ref sb, .ref ga, .ref gb, .ref ru, .int co, .int 0, .int re]))] ∧ gm_E (va_A [(h0, .inr (0, [.ref tx, .ref sb, .ref ga, .ref gb, .ref ru, .int co, .int 0, .int re]))] sz) U)) (va_Qi (fun (_ : Int32) (_ : Unit) => False) (fun _ _ => True) (va_A [(h0, .inr (0, [.ref tx, .ref sb, .ref ga, .ref gb, .ref ru, .int co, .int 0, .int re]))] sz)) (fun E st t => (E = gm_xIOE ∧ gm_at D (va_A [(h0, .inr (0, [.ref tx, .ref sb, .ref ga, .ref gb, .ref ru, .int co, .int 0, .int re]))] sz) [gm_oO h0 tx sb ga gb ru co 0 re] (gm_T cI cJ cC cZ) t) ∧ va_F (va_A [(h0, .inr (0, [.ref tx, .ref sb, .ref ga, .ref gb, .ref ru, .int co, .int 0, .int re]))] sz) st t) 1 6 (va_A [(h0, .inr (0, [.ref tx, .ref sb, .ref ga, .ref gb, .ref ru, .int co, .int 0, .int re]))] sz) := by
  refine gm_ofX (cc := gm_b_GM_node) (maxL := 3) (ret := (some .int)) (by decide) rfl ?_
  intro p e s m args below meth c s₁ B hml htab hv
  obtain ⟨rfl, hsz, hP, hK, hD0, hE⟩ := hv
  have hx := B.exec
  have hb := B.bytes
  have hr := B.returns
  have hlocks := B.notSynchronized
  have hw : ∀ w ∈ gm_W, w.before _ s = true := fun w h => atoms_spec B.pre w (List.mem_cons_of_mem _ h)
  have hown : s.vm.findClass gm_R_GM = some m.cls := findClass_of_methodNamed B.named
  subst hsz
  have hD := hD0.self (sz := s.heap.size)
  generalize hAe : va_A [(h0, .inr (0, [.ref tx, .ref sb, .ref ga, .ref gb, .ref ru, .int co, .int 0, .int re]))] s.heap.size = A at hD hE ⊢
  have hA : ∀ q : Nat, s.heap.size ≤ q → A q := fun q h => by rw [← hAe]; exact Or.inr h
  have hS : va_S A s.heap s.heap [] := va_S.rf
  have hl := lv_entry ([.ref h0, .int x, .int y]) (n := 3) (Nat.le_of_ble_eq_true rfl)
  rw [lg_entry_eq]
  generalize (lg_sl ([.ref h0, .int x, .int y]) ++ List.replicate (3 - (lg_sl ([.ref h0, .int x, .int y])).length) Slot.unset).toArray = ls at hl ⊢
  have hl : lv_has ls 3 [(0, .ref h0), (1, .int x), (2, .int y)] := hl
  refine lv_aload_n hx hb gm_d_GM_node_0 rfl (lv_at hl 0 rfl) ?_
  refine va_get (D := D) (ci := 0) (v := .int 0) (C := gm_R_GM) (T := gm_F_GM) (N := 8) hx hb hw gm_u_GM hown hK hP 0 rfl rfl 6 (by decide) (hw _ gm_l_GM_46) (fun _ h9 => h9) rfl gm_d_GM_node_1 ?_
  refine lv_if_eq (tgt := 25) hx hb gm_d_GM_node_4 (by decide) (fun _ => ?_) (fun h9 => absurd rfl h9)
  have hP9 := hP.sub (ws' := [gm_oO h0 tx sb ga gb ru co 0 re]) [0] rfl
  have hD9 := hD.sub (ws' := [gm_oO h0 tx sb ga gb ru co 0 re]) [0] (by decide) rfl
  exact gm_thr (cls := gm_xIOE) (text := "there is no such node") hx hb hst hown hw hE hP9 hK hD9 hS (by decide) (by decide) gm_l_GM_129 gm_i_IOE gm_okIOE (by rw [hml]; exact hl.1) gm_d_GM_node_25 gm_d_GM_node_28 gm_d_GM_node_29 gm_d_GM_node_31 gm_d_GM_node_34 htab (Nat.le_of_ble_eq_true rfl) (Nat.le_of_ble_eq_true rfl) (Nat.le_of_ble_eq_true rfl) (Nat.le_of_ble_eq_true rfl) hlocks (Nat.le_of_ble_eq_true rfl) (Nat.le_of_ble_eq_true rfl)
