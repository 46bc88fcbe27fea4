set_option maxHeartbeats 4000000 in
set_option maxRecDepth 100000 in
theorem gm_c_Row_init_50 (l : Launch) (D : va_G) (cI cJ cC cZ : ClassId) (h0 : Nat) (sz : Nat) : Met l gm_y_Row_init (Cond.code gm_y_Row_init gm_b_Row_init 2 none :: gm_W) { frames := 4, cells := 1, slots := 50, locals := 64 } (va_Pc [.ref h0, .int 50] (fun U => U.heap.size = sz ∧ va_P D gm_cl [(h0, .inr (1, [.null, .int 0]))] U.heap ∧ va_K D gm_cl (gm_T cI cJ cC cZ) U ∧ va_D (fun _ => True) [(h0, .inr (1, [.null, .int 0]))])) (va_Qv (fun _ : Nat => True) (fun q t => gm_at D (va_A [(h0, .inr (1, [.null, .int 0]))] sz) (gm_oRow h0 q cC 50 (fun _ => 0) 0) (gm_T cI cJ cC cZ) t) (va_A [(h0, .inr (1, [.null, .int 0]))] sz)) 1 50 (va_A [(h0, .inr (1, [.null, .int 0]))] sz) := by
  refine Met.ofW (cc := gm_b_Row_init) (maxL := 2) (ret := none) (by decide) rfl ?_
  intro p e s m args below meth c s₁ B hml hv
  obtain ⟨rfl, hsz, hP, hK, hD0⟩ := hv
  have hx := B.exec
  have hb := B.bytes
  have hr := B.returns
  have hw : ∀ w ∈ gm_W, w.before _ s = true := fun w h => atoms_spec B.pre w (List.mem_cons_of_mem _ h)
  have hown : s.vm.findClass gm_R_Row = some m.cls := findClass_of_methodNamed B.named
  have hin : meth.name = "<init>" := (name_of_methodNamed B.named B.method).1
  subst hsz
  have hD := hD0.self (sz := s.heap.size)
  generalize hAe : va_A [(h0, .inr (1, [.null, .int 0]))] s.heap.size = A at hD ⊢
  have hA : ∀ q : Nat, s.heap.size ≤ q → A q := fun q h => by rw [← hAe]; exact Or.inr h
  have hS : va_S A s.heap s.heap [] := va_S.rf
  have hl := lv_entry ([.ref h0, .int 50]) (n := 2) (Nat.le_of_ble_eq_true rfl)
  rw [lg_entry_eq]
  generalize (lg_sl ([.ref h0, .int 50]) ++ List.replicate (2 - (lg_sl ([.ref h0, .int 50])).length) Slot.unset).toArray = ls at hl ⊢
  have hl : lv_has ls 2 [(0, .ref h0), (1, .int 50)] := hl
  refine lv_aload_n hx hb gm_d_Row_init_0 rfl (lv_at hl 0 rfl) ?_
  refine W.objInit hx hb hown (hw _ gm_l_Row_3) (hw _ gm_oi1) (hw _ gm_oi2) rfl (by rw [hml]; exact hl.1) rfl gm_d_Row_init_1 (Nat.le_of_ble_eq_true rfl) (Nat.le_of_ble_eq_true rfl) ?_
  refine W.eq (g2 := F0 m 4 ls []) rfl ?_
  refine lv_aload_n hx hb gm_d_Row_init_4 rfl (lv_at hl 0 rfl) ?_
  refine lv_iconst (v := 0) hx hb gm_d_Row_init_5 (by decide) ?_
  refine va_put (D := D) (ci := 1) (v := .int 0) (ty := .int) (C := gm_R_Row) (T := gm_F_Row) (N := 2) hx hb hw gm_u_Row gm_t_Row gm_o_Row gm_n_Row hown hK hP hD hS 0 rfl rfl 1 (by decide) (hw _ gm_l_Row_9) (fun _ h9 => h9) rfl (by decide +kernel) rfl rfl (Nat.le_of_ble_eq_true rfl) gm_d_Row_init_6 (fun H locs hP hD hS => ?_)
  have hP : va_P D gm_cl [(h0, .inr (1, [.null, .int 0]))] H := hP
  have hD : va_D A [(h0, .inr (1, [.null, .int 0]))] := hD
  refine lv_aload_n hx hb gm_d_Row_init_9 rfl (lv_at hl 0 rfl) ?_
  refine lv_iload_n hx hb gm_d_Row_init_10 rfl (lv_at hl 1 rfl) ?_
  refine va_newa (atype := .char) (ty := .char) (N' := 50) (a0 := (50, .inl (fun _ => 0))) hx hb (hw _ gm_aC) rfl hK hP hD hS hA (fun _ => rfl) (by decide) (by decide) (by decide) (Nat.le_of_ble_eq_true rfl) (Nat.le_of_ble_eq_true rfl) gm_d_Row_init_11 (fun q11 cA H hKn hP hD hS => ?_)
  have e9 := gm_sC (i := 2) (j := 4) hKn rfl rfl
  subst e9
  have hP : va_P D gm_cl [(h0, .inr (1, [.null, .int 0])), (q11, .inl (cC, 50, .inl (fun _ => 0)))] H := hP
  have hD : va_D A [(h0, .inr (1, [.null, .int 0])), (q11, .inl (cC, 50, .inl (fun _ => 0)))] := hD
  refine W.widen (k := 1) (n := 50) (Nat.le_of_ble_eq_true rfl) (Nat.le_of_ble_eq_true rfl) ?_
  refine va_putF (D := D) (ci := 1) (v := .ref q11) (ty := .array .char) (C := gm_R_Row) (T := gm_F_Row) (N := 2) hx hb hw gm_u_Row gm_t_Row gm_o_Row gm_n_Row hown hK hP hD hS 0 rfl rfl 0 (by decide) (hw _ gm_l_Row_15) (fun _ h9 => h9) rfl hin rfl (by decide +kernel) rfl rfl (Nat.le_of_ble_eq_true rfl) gm_d_Row_init_13 (fun H locs hP hD hS => ?_)
  have hP : va_P D gm_cl [(h0, .inr (1, [.ref q11, .int 0])), (q11, .inl (cC, 50, .inl (fun _ => 0)))] H := hP
  have hD : va_D A [(h0, .inr (1, [.ref q11, .int 0])), (q11, .inl (cC, 50, .inl (fun _ => 0)))] := hD
  have hP9 := hP.sub (ws' := gm_oRow h0 q11 cC 50 (fun _ => 0) 0) [0, 1] rfl
  have hD9 := hD.sub (ws' := gm_oRow h0 q11 cC 50 (fun _ => 0) 0) [0, 1] (by decide) rfl
  exact W.vret hx hb hr (fun t ht hW => ⟨⟨q11, rfl, trivial, by rw [ht]; exact hP9, va_K.moved hW.alike hK, hD9⟩, hS.F ht⟩) hS.2.2 gm_d_Row_init_16
set_option maxHeartbeats 4000000 in
set_option maxRecDepth 100000 in
theorem gm_c_Row_init_10 (l : Launch) (D : va_G) (cI cJ cC cZ : ClassId) (h0 : Nat) (sz : Nat) : Met l gm_y_Row_init (Cond.code gm_y_Row_init gm_b_Row_init 2 none :: gm_W) { frames := 4, cells := 1, slots := 10, locals := 64 } (va_Pc [.ref h0, .int 10] (fun U => U.heap.size = sz ∧ va_P D gm_cl [(h0, .inr (1, [.null, .int 0]))] U.heap ∧ va_K D gm_cl (gm_T cI cJ cC cZ) U ∧ va_D (fun _ => True) [(h0, .inr (1, [.null, .int 0]))])) (va_Qv (fun _ : Nat => True) (fun q t => gm_at D (va_A [(h0, .inr (1, [.null, .int 0]))] sz) (gm_oRow h0 q cC 10 (fun _ => 0) 0) (gm_T cI cJ cC cZ) t) (va_A [(h0, .inr (1, [.null, .int 0]))] sz)) 1 10 (va_A [(h0, .inr (1, [.null, .int 0]))] sz) := by
  refine Met.ofW (cc := gm_b_Row_init) (maxL := 2) (ret := none) (by decide) rfl ?_
  intro p e s m args below meth c s₁ B hml hv
  obtain ⟨rfl, hsz, hP, hK, hD0⟩ := hv
  have hx := B.exec
  have hb := B.bytes
  have hr := B.returns
  have hw : ∀ w ∈ gm_W, w.before _ s = true := fun w h => atoms_spec B.pre w (List.mem_cons_of_mem _ h)
  have hown : s.vm.findClass gm_R_Row = some m.cls := findClass_of_methodNamed B.named
  have hin : meth.name = "<init>" := (name_of_methodNamed B.named B.method).1
  subst hsz
  have hD := hD0.self (sz := s.heap.size)
  generalize hAe : va_A [(h0, .inr (1, [.null, .int 0]))] s.heap.size = A at hD ⊢
  have hA : ∀ q : Nat, s.heap.size ≤ q → A q := fun q h => by rw [← hAe]; exact Or.inr h
  have hS : va_S A s.heap s.heap [] := va_S.rf
  have hl := lv_entry ([.ref h0, .int 10]) (n := 2) (Nat.le_of_ble_eq_true rfl)
  rw [lg_entry_eq]
  generalize (lg_sl ([.ref h0, .int 10]) ++ List.replicate (2 - (lg_sl ([.ref h0, .int 10])).length) Slot.unset).toArray = ls at hl ⊢
  have hl : lv_has ls 2 [(0, .ref h0), (1, .int 10)] := hl
  refine lv_aload_n hx hb gm_d_Row_init_0 rfl (lv_at hl 0 rfl) ?_
  refine W.objInit hx hb hown (hw _ gm_l_Row_3) (hw _ gm_oi1) (hw _ gm_oi2) rfl (by rw [hml]; exact hl.1) rfl gm_d_Row_init_1 (Nat.le_of_ble_eq_true rfl) (Nat.le_of_ble_eq_true rfl) ?_
  refine W.eq (g2 := F0 m 4 ls []) rfl ?_
  refine lv_aload_n hx hb gm_d_Row_init_4 rfl (lv_at hl 0 rfl) ?_
  refine lv_iconst (v := 0) hx hb gm_d_Row_init_5 (by decide) ?_
  refine va_put (D := D) (ci := 1) (v := .int 0) (ty := .int) (C := gm_R_Row) (T := gm_F_Row) (N := 2) hx hb hw gm_u_Row gm_t_Row gm_o_Row gm_n_Row hown hK hP hD hS 0 rfl rfl 1 (by decide) (hw _ gm_l_Row_9) (fun _ h9 => h9) rfl (by decide +kernel) rfl rfl (Nat.le_of_ble_eq_true rfl) gm_d_Row_init_6 (fun H locs hP hD hS => ?_)
  have hP : va_P D gm_cl [(h0, .inr (1, [.null, .int 0]))] H := hP
  have hD : va_D A [(h0, .inr (1, [.null, .int 0]))] := hD
  refine lv_aload_n hx hb gm_d_Row_init_9 rfl (lv_at hl 0 rfl) ?_
  refine lv_iload_n hx hb gm_d_Row_init_10 rfl (lv_at hl 1 rfl) ?_
  refine va_newa (atype := .char) (ty := .char) (N' := 10) (a0 := (10, .inl (fun _ => 0))) hx hb (hw _ gm_aC) rfl hK hP hD hS hA (fun _ => rfl) (by decide) (by decide) (by decide) (Nat.le_of_ble_eq_true rfl) (Nat.le_of_ble_eq_true rfl) gm_d_Row_init_11 (fun q11 cA H hKn hP hD hS => ?_)
  have e9 := gm_sC (i := 2) (j := 4) hKn rfl rfl
  subst e9
  have hP : va_P D gm_cl [(h0, .inr (1, [.null, .int 0])), (q11, .inl (cC, 10, .inl (fun _ => 0)))] H := hP
  have hD : va_D A [(h0, .inr (1, [.null, .int 0])), (q11, .inl (cC, 10, .inl (fun _ => 0)))] := hD
  refine W.widen (k := 1) (n := 10) (Nat.le_of_ble_eq_true rfl) (Nat.le_of_ble_eq_true rfl) ?_
  refine va_putF (D := D) (ci := 1) (v := .ref q11) (ty := .array .char) (C := gm_R_Row) (T := gm_F_Row) (N := 2) hx hb hw gm_u_Row gm_t_Row gm_o_Row gm_n_Row hown hK hP hD hS 0 rfl rfl 0 (by decide) (hw _ gm_l_Row_15) (fun _ h9 => h9) rfl hin rfl (by decide +kernel) rfl rfl (Nat.le_of_ble_eq_true rfl) gm_d_Row_init_13 (fun H locs hP hD hS => ?_)
  have hP : va_P D gm_cl [(h0, .inr (1, [.ref q11, .int 0])), (q11, .inl (cC, 10, .inl (fun _ => 0)))] H := hP
  have hD : va_D A [(h0, .inr (1, [.ref q11, .int 0])), (q11, .inl (cC, 10, .inl (fun _ => 0)))] := hD
  have hP9 := hP.sub (ws' := gm_oRow h0 q11 cC 10 (fun _ => 0) 0) [0, 1] rfl
  have hD9 := hD.sub (ws' := gm_oRow h0 q11 cC 10 (fun _ => 0) 0) [0, 1] (by decide) rfl
  exact W.vret hx hb hr (fun t ht hW => ⟨⟨q11, rfl, trivial, by rw [ht]; exact hP9, va_K.moved hW.alike hK, hD9⟩, hS.F ht⟩) hS.2.2 gm_d_Row_init_16
set_option maxHeartbeats 4000000 in
set_option maxRecDepth 100000 in
theorem gm_c_Captures_init_275 (l : Launch) (D : va_G) (cI cJ cC cZ : ClassId) (h0 : Nat) (sz : Nat) : Met l gm_y_Captures_init (Cond.code gm_y_Captures_init gm_b_Captures_init 2 none :: gm_W) { frames := 4, cells := 2, slots := 550, locals := 64 } (va_Pc [.ref h0, .int 275] (fun U => U.heap.size = sz ∧ va_P D gm_cl [(h0, .inr (8, [.null, .null, .int 0]))] U.heap ∧ va_K D gm_cl (gm_T cI cJ cC cZ) U ∧ va_D (fun _ => True) [(h0, .inr (8, [.null, .null, .int 0]))])) (va_Qv (fun _ : Nat × Nat => True) (fun q t => gm_at D (va_A [(h0, .inr (8, [.null, .null, .int 0]))] sz) (gm_oCaptures h0 q.1 q.2 cI 275 (fun _ => 0) (fun _ => 0) 0) (gm_T cI cJ cC cZ) t) (va_A [(h0, .inr (8, [.null, .null, .int 0]))] sz)) 2 550 (va_A [(h0, .inr (8, [.null, .null, .int 0]))] sz) := by
  refine Met.ofW (cc := gm_b_Captures_init) (maxL := 2) (ret := none) (by decide) rfl ?_
  intro p e s m args below meth c s₁ B hml hv
  obtain ⟨rfl, hsz, hP, hK, hD0⟩ := hv
  have hx := B.exec
  have hb := B.bytes
  have hr := B.returns
  have hw : ∀ w ∈ gm_W, w.before _ s = true := fun w h => atoms_spec B.pre w (List.mem_cons_of_mem _ h)
  have hown : s.vm.findClass gm_R_Captures = some m.cls := findClass_of_methodNamed B.named
  have hin : meth.name = "<init>" := (name_of_methodNamed B.named B.method).1
  subst hsz
  have hD := hD0.self (sz := s.heap.size)
  generalize hAe : va_A [(h0, .inr (8, [.null, .null, .int 0]))] s.heap.size = A at hD ⊢
  have hA : ∀ q : Nat, s.heap.size ≤ q → A q := fun q h => by rw [← hAe]; exact Or.inr h
  have hS : va_S A s.heap s.heap [] := va_S.rf
  have hl := lv_entry ([.ref h0, .int 275]) (n := 2) (Nat.le_of_ble_eq_true rfl)
  rw [lg_entry_eq]
  generalize (lg_sl ([.ref h0, .int 275]) ++ List.replicate (2 - (lg_sl ([.ref h0, .int 275])).length) Slot.unset).toArray = ls at hl ⊢
  have hl : lv_has ls 2 [(0, .ref h0), (1, .int 275)] := hl
  refine lv_aload_n hx hb gm_d_Captures_init_0 rfl (lv_at hl 0 rfl) ?_
  refine W.objInit hx hb hown (hw _ gm_l_Captures_3) (hw _ gm_oi1) (hw _ gm_oi2) rfl (by rw [hml]; exact hl.1) rfl gm_d_Captures_init_1 (Nat.le_of_ble_eq_true rfl) (Nat.le_of_ble_eq_true rfl) ?_
  refine W.eq (g2 := F0 m 4 ls []) rfl ?_
  refine lv_aload_n hx hb gm_d_Captures_init_4 rfl (lv_at hl 0 rfl) ?_
  refine lv_iconst (v := 0) hx hb gm_d_Captures_init_5 (by decide) ?_
  refine va_put (D := D) (ci := 8) (v := .int 0) (ty := .int) (C := gm_R_Captures) (T := gm_F_Captures) (N := 3) hx hb hw gm_u_Captures gm_t_Captures gm_o_Captures gm_n_Captures hown hK hP hD hS 0 rfl rfl 2 (by decide) (hw _ gm_l_Captures_9) (fun _ h9 => h9) rfl (by decide +kernel) rfl rfl (Nat.le_of_ble_eq_true rfl) gm_d_Captures_init_6 (fun H locs hP hD hS => ?_)
  have hP : va_P D gm_cl [(h0, .inr (8, [.null, .null, .int 0]))] H := hP
  have hD : va_D A [(h0, .inr (8, [.null, .null, .int 0]))] := hD
  refine lv_aload_n hx hb gm_d_Captures_init_9 rfl (lv_at hl 0 rfl) ?_
  refine lv_iload_n hx hb gm_d_Captures_init_10 rfl (lv_at hl 1 rfl) ?_
  refine va_newa (atype := .int) (ty := .int) (N' := 275) (a0 := (275, .inl (fun _ => 0))) hx hb (hw _ gm_aI) rfl hK hP hD hS hA (fun _ => rfl) (by decide) (by decide) (by decide) (Nat.le_of_ble_eq_true rfl) (Nat.le_of_ble_eq_true rfl) gm_d_Captures_init_11 (fun q11 cA H hKn hP hD hS => ?_)
  have e9 := gm_sI (i := 0) (j := 4) hKn rfl rfl
  subst e9
  have hP : va_P D gm_cl [(h0, .inr (8, [.null, .null, .int 0])), (q11, .inl (cI, 275, .inl (fun _ => 0)))] H := hP
  have hD : va_D A [(h0, .inr (8, [.null, .null, .int 0])), (q11, .inl (cI, 275, .inl (fun _ => 0)))] := hD
  refine W.widen (k := 1) (n := 275) (Nat.le_of_ble_eq_true rfl) (Nat.le_of_ble_eq_true rfl) ?_
  refine va_putF (D := D) (ci := 8) (v := .ref q11) (ty := .array .int) (C := gm_R_Captures) (T := gm_F_Captures) (N := 3) hx hb hw gm_u_Captures gm_t_Captures gm_o_Captures gm_n_Captures hown hK hP hD hS 0 rfl rfl 0 (by decide) (hw _ gm_l_Captures_15) (fun _ h9 => h9) rfl hin rfl (by decide +kernel) rfl rfl (Nat.le_of_ble_eq_true rfl) gm_d_Captures_init_13 (fun H locs hP hD hS => ?_)
  have hP : va_P D gm_cl [(h0, .inr (8, [.ref q11, .null, .int 0])), (q11, .inl (cI, 275, .inl (fun _ => 0)))] H := hP
  have hD : va_D A [(h0, .inr (8, [.ref q11, .null, .int 0])), (q11, .inl (cI, 275, .inl (fun _ => 0)))] := hD
  refine lv_aload_n hx hb gm_d_Captures_init_16 rfl (lv_at hl 0 rfl) ?_
  refine lv_iload_n hx hb gm_d_Captures_init_17 rfl (lv_at hl 1 rfl) ?_
  refine va_newa (atype := .int) (ty := .int) (N' := 275) (a0 := (275, .inl (fun _ => 0))) hx hb (hw _ gm_aI) rfl hK hP hD hS hA (fun _ => rfl) (by decide) (by decide) (by decide) (Nat.le_of_ble_eq_true rfl) (Nat.le_of_ble_eq_true rfl) gm_d_Captures_init_18 (fun q18 cA H hKn hP hD hS => ?_)
  have e9 := gm_sI (i := 0) (j := 4) hKn rfl rfl
  subst e9
  have hP : va_P D gm_cl [(h0, .inr (8, [.ref q11, .null, .int 0])), (q11, .inl (cI, 275, .inl (fun _ => 0))), (q18, .inl (cI, 275, .inl (fun _ => 0)))] H := hP
  have hD : va_D A [(h0, .inr (8, [.ref q11, .null, .int 0])), (q11, .inl (cI, 275, .inl (fun _ => 0))), (q18, .inl (cI, 275, .inl (fun _ => 0)))] := hD
  refine W.widen (k := 2) (n := 550) (Nat.le_of_ble_eq_true rfl) (Nat.le_of_ble_eq_true rfl) ?_
  refine va_putF (D := D) (ci := 8) (v := .ref q18) (ty := .array .int) (C := gm_R_Captures) (T := gm_F_Captures) (N := 3) hx hb hw gm_u_Captures gm_t_Captures gm_o_Captures gm_n_Captures hown hK hP hD hS 0 rfl rfl 1 (by decide) (hw _ gm_l_Captures_19) (fun _ h9 => h9) rfl hin rfl (by decide +kernel) rfl rfl (Nat.le_of_ble_eq_true rfl) gm_d_Captures_init_20 (fun H locs hP hD hS => ?_)
  have hP : va_P D gm_cl [(h0, .inr (8, [.ref q11, .ref q18, .int 0])), (q11, .inl (cI, 275, .inl (fun _ => 0))), (q18, .inl (cI, 275, .inl (fun _ => 0)))] H := hP
  have hD : va_D A [(h0, .inr (8, [.ref q11, .ref q18, .int 0])), (q11, .inl (cI, 275, .inl (fun _ => 0))), (q18, .inl (cI, 275, .inl (fun _ => 0)))] := hD
  have hP9 := hP.sub (ws' := gm_oCaptures h0 q11 q18 cI 275 (fun _ => 0) (fun _ => 0) 0) [0, 1, 2] rfl
  have hD9 := hD.sub (ws' := gm_oCaptures h0 q11 q18 cI 275 (fun _ => 0) (fun _ => 0) 0) [0, 1, 2] (by decide) rfl
  exact W.vret hx hb hr (fun t ht hW => ⟨⟨(q11, q18), rfl, trivial, by rw [ht]; exact hP9, va_K.moved hW.alike hK, hD9⟩, hS.F ht⟩) hS.2.2 gm_d_Captures_init_23
set_option maxHeartbeats 4000000 in
set_option maxRecDepth 100000 in
theorem gm_c_Captures_init_5720 (l : Launch) (D : va_G) (cI cJ cC cZ : ClassId) (h0 : Nat) (sz : Nat) : Met l gm_y_Captures_init (Cond.code gm_y_Captures_init gm_b_Captures_init 2 none :: gm_W) { frames := 4, cells := 2, slots := 11440, locals := 64 } (va_Pc [.ref h0, .int 5720] (fun U => U.heap.size = sz ∧ va_P D gm_cl [(h0, .inr (8, [.null, .null, .int 0]))] U.heap ∧ va_K D gm_cl (gm_T cI cJ cC cZ) U ∧ va_D (fun _ => True) [(h0, .inr (8, [.null, .null, .int 0]))])) (va_Qv (fun _ : Nat × Nat => True) (fun q t => gm_at D (va_A [(h0, .inr (8, [.null, .null, .int 0]))] sz) (gm_oCaptures h0 q.1 q.2 cI 5720 (fun _ => 0) (fun _ => 0) 0) (gm_T cI cJ cC cZ) t) (va_A [(h0, .inr (8, [.null, .null, .int 0]))] sz)) 2 11440 (va_A [(h0, .inr (8, [.null, .null, .int 0]))] sz) := by
  refine Met.ofW (cc := gm_b_Captures_init) (maxL := 2) (ret := none) (by decide) rfl ?_
  intro p e s m args below meth c s₁ B hml hv
  obtain ⟨rfl, hsz, hP, hK, hD0⟩ := hv
  have hx := B.exec
  have hb := B.bytes
  have hr := B.returns
  have hw : ∀ w ∈ gm_W, w.before _ s = true := fun w h => atoms_spec B.pre w (List.mem_cons_of_mem _ h)
  have hown : s.vm.findClass gm_R_Captures = some m.cls := findClass_of_methodNamed B.named
  have hin : meth.name = "<init>" := (name_of_methodNamed B.named B.method).1
  subst hsz
  have hD := hD0.self (sz := s.heap.size)
  generalize hAe : va_A [(h0, .inr (8, [.null, .null, .int 0]))] s.heap.size = A at hD ⊢
  have hA : ∀ q : Nat, s.heap.size ≤ q → A q := fun q h => by rw [← hAe]; exact Or.inr h
  have hS : va_S A s.heap s.heap [] := va_S.rf
  have hl := lv_entry ([.ref h0, .int 5720]) (n := 2) (Nat.le_of_ble_eq_true rfl)
  rw [lg_entry_eq]
  generalize (lg_sl ([.ref h0, .int 5720]) ++ List.replicate (2 - (lg_sl ([.ref h0, .int 5720])).length) Slot.unset).toArray = ls at hl ⊢
  have hl : lv_has ls 2 [(0, .ref h0), (1, .int 5720)] := hl
  refine lv_aload_n hx hb gm_d_Captures_init_0 rfl (lv_at hl 0 rfl) ?_
  refine W.objInit hx hb hown (hw _ gm_l_Captures_3) (hw _ gm_oi1) (hw _ gm_oi2) rfl (by rw [hml]; exact hl.1) rfl gm_d_Captures_init_1 (Nat.le_of_ble_eq_true rfl) (Nat.le_of_ble_eq_true rfl) ?_
  refine W.eq (g2 := F0 m 4 ls []) rfl ?_
  refine lv_aload_n hx hb gm_d_Captures_init_4 rfl (lv_at hl 0 rfl) ?_
  refine lv_iconst (v := 0) hx hb gm_d_Captures_init_5 (by decide) ?_
  refine va_put (D := D) (ci := 8) (v := .int 0) (ty := .int) (C := gm_R_Captures) (T := gm_F_Captures) (N := 3) hx hb hw gm_u_Captures gm_t_Captures gm_o_Captures gm_n_Captures hown hK hP hD hS 0 rfl rfl 2 (by decide) (hw _ gm_l_Captures_9) (fun _ h9 => h9) rfl (by decide +kernel) rfl rfl (Nat.le_of_ble_eq_true rfl) gm_d_Captures_init_6 (fun H locs hP hD hS => ?_)
  have hP : va_P D gm_cl [(h0, .inr (8, [.null, .null, .int 0]))] H := hP
  have hD : va_D A [(h0, .inr (8, [.null, .null, .int 0]))] := hD
  refine lv_aload_n hx hb gm_d_Captures_init_9 rfl (lv_at hl 0 rfl) ?_
  refine lv_iload_n hx hb gm_d_Captures_init_10 rfl (lv_at hl 1 rfl) ?_
  refine va_newa (atype := .int) (ty := .int) (N' := 5720) (a0 := (5720, .inl (fun _ => 0))) hx hb (hw _ gm_aI) rfl hK hP hD hS hA (fun _ => rfl) (by decide) (by decide) (by decide) (Nat.le_of_ble_eq_true rfl) (Nat.le_of_ble_eq_true rfl) gm_d_Captures_init_11 (fun q11 cA H hKn hP hD hS => ?_)
  have e9 := gm_sI (i := 0) (j := 4) hKn rfl rfl
  subst e9
  have hP : va_P D gm_cl [(h0, .inr (8, [.null, .null, .int 0])), (q11, .inl (cI, 5720, .inl (fun _ => 0)))] H := hP
  have hD : va_D A [(h0, .inr (8, [.null, .null, .int 0])), (q11, .inl (cI, 5720, .inl (fun _ => 0)))] := hD
  refine W.widen (k := 1) (n := 5720) (Nat.le_of_ble_eq_true rfl) (Nat.le_of_ble_eq_true rfl) ?_
  refine va_putF (D := D) (ci := 8) (v := .ref q11) (ty := .array .int) (C := gm_R_Captures) (T := gm_F_Captures) (N := 3) hx hb hw gm_u_Captures gm_t_Captures gm_o_Captures gm_n_Captures hown hK hP hD hS 0 rfl rfl 0 (by decide) (hw _ gm_l_Captures_15) (fun _ h9 => h9) rfl hin rfl (by decide +kernel) rfl rfl (Nat.le_of_ble_eq_true rfl) gm_d_Captures_init_13 (fun H locs hP hD hS => ?_)
  have hP : va_P D gm_cl [(h0, .inr (8, [.ref q11, .null, .int 0])), (q11, .inl (cI, 5720, .inl (fun _ => 0)))] H := hP
  have hD : va_D A [(h0, .inr (8, [.ref q11, .null, .int 0])), (q11, .inl (cI, 5720, .inl (fun _ => 0)))] := hD
  refine lv_aload_n hx hb gm_d_Captures_init_16 rfl (lv_at hl 0 rfl) ?_
  refine lv_iload_n hx hb gm_d_Captures_init_17 rfl (lv_at hl 1 rfl) ?_
  refine va_newa (atype := .int) (ty := .int) (N' := 5720) (a0 := (5720, .inl (fun _ => 0))) hx hb (hw _ gm_aI) rfl hK hP hD hS hA (fun _ => rfl) (by decide) (by decide) (by decide) (Nat.le_of_ble_eq_true rfl) (Nat.le_of_ble_eq_true rfl) gm_d_Captures_init_18 (fun q18 cA H hKn hP hD hS => ?_)
  have e9 := gm_sI (i := 0) (j := 4) hKn rfl rfl
  subst e9
  have hP : va_P D gm_cl [(h0, .inr (8, [.ref q11, .null, .int 0])), (q11, .inl (cI, 5720, .inl (fun _ => 0))), (q18, .inl (cI, 5720, .inl (fun _ => 0)))] H := hP
  have hD : va_D A [(h0, .inr (8, [.ref q11, .null, .int 0])), (q11, .inl (cI, 5720, .inl (fun _ => 0))), (q18, .inl (cI, 5720, .inl (fun _ => 0)))] := hD
  refine W.widen (k := 2) (n := 11440) (Nat.le_of_ble_eq_true rfl) (Nat.le_of_ble_eq_true rfl) ?_
  refine va_putF (D := D) (ci := 8) (v := .ref q18) (ty := .array .int) (C := gm_R_Captures) (T := gm_F_Captures) (N := 3) hx hb hw gm_u_Captures gm_t_Captures gm_o_Captures gm_n_Captures hown hK hP hD hS 0 rfl rfl 1 (by decide) (hw _ gm_l_Captures_19) (fun _ h9 => h9) rfl hin rfl (by decide +kernel) rfl rfl (Nat.le_of_ble_eq_true rfl) gm_d_Captures_init_20 (fun H locs hP hD hS => ?_)
  have hP : va_P D gm_cl [(h0, .inr (8, [.ref q11, .ref q18, .int 0])), (q11, .inl (cI, 5720, .inl (fun _ => 0))), (q18, .inl (cI, 5720, .inl (fun _ => 0)))] H := hP
  have hD : va_D A [(h0, .inr (8, [.ref q11, .ref q18, .int 0])), (q11, .inl (cI, 5720, .inl (fun _ => 0))), (q18, .inl (cI, 5720, .inl (fun _ => 0)))] := hD
  have hP9 := hP.sub (ws' := gm_oCaptures h0 q11 q18 cI 5720 (fun _ => 0) (fun _ => 0) 0) [0, 1, 2] rfl
  have hD9 := hD.sub (ws' := gm_oCaptures h0 q11 q18 cI 5720 (fun _ => 0) (fun _ => 0) 0) [0, 1, 2] (by decide) rfl
  exact W.vret hx hb hr (fun t ht hW => ⟨⟨(q11, q18), rfl, trivial, by rw [ht]; exact hP9, va_K.moved hW.alike hK, hD9⟩, hS.F ht⟩) hS.2.2 gm_d_Captures_init_23
set_option maxHeartbeats 4000000 in
set_option maxRecDepth 100000 in
theorem gm_c_Tree_init (l : Launch) (D : va_G) (cI cJ cC cZ : ClassId) (h0 : Nat) (sz : Nat) : Met l gm_y_Tree_init (Cond.code gm_y_Tree_init gm_b_Tree_init 1 none :: gm_W) { frames := 4, cells := 11, slots := 691, locals := 64 } (va_Pc [.ref h0] (fun U => U.heap.size = sz ∧ va_P D gm_cl [(h0, .inr (3, [.null, .null, .null, .null, .null, .null, .null, .null, .null, .null, .null, .int 0, .int 0, .int 0]))] U.heap ∧ va_K D gm_cl (gm_T cI cJ cC cZ) U ∧ va_D (fun _ => True) [(h0, .inr (3, [.null, .null, .null, .null, .null, .null, .null, .null, .null, .null, .null, .int 0, .int 0, .int 0]))])) (va_Qv (fun _ : Nat → Nat => True) (fun q t => gm_at D (va_A [(h0, .inr (3, [.null, .null, .null, .null, .null, .null, .null, .null, .null, .null, .null, .int 0, .int 0, .int 0]))] sz) (gm_oTree h0 q cI cJ cZ (fun _ _ => 0) (fun _ _ => 0) (fun _ => 0)) (gm_T cI cJ cC cZ) t) (va_A [(h0, .inr (3, [.null, .null, .null, .null, .null, .null, .null, .null, .null, .null, .null, .int 0, .int 0, .int 0]))] sz)) 11 691 (va_A [(h0, .inr (3, [.null, .null, .null, .null, .null, .null, .null, .null, .null, .null, .null, .int 0, .int 0, .int 0]))] sz) := by
  refine Met.ofW (cc := gm_b_Tree_init) (maxL := 1) (ret := none) (by decide) rfl ?_
  intro p e s m args below meth c s₁ B hml hv
  obtain ⟨rfl, hsz, hP, hK, hD0⟩ := hv
  have hx := B.exec
  have hb := B.bytes
  have hr := B.returns
  have hw : ∀ w ∈ gm_W, w.before _ s = true := fun w h => atoms_spec B.pre w (List.mem_cons_of_mem _ h)
  have hown : s.vm.findClass gm_R_Tree = some m.cls := findClass_of_methodNamed B.named
  have hin : meth.name = "<init>" := (name_of_methodNamed B.named B.method).1
  subst hsz
  have hD := hD0.self (sz := s.heap.size)
  generalize hAe : va_A [(h0, .inr (3, [.null, .null, .null, .null, .null, .null, .null, .null, .null, .null, .null, .int 0, .int 0, .int 0]))] s.heap.size = A at hD ⊢
  have hA : ∀ q : Nat, s.heap.size ≤ q → A q := fun q h => by rw [← hAe]; exact Or.inr h
  have hS : va_S A s.heap s.heap [] := va_S.rf
  have hl := lv_entry ([.ref h0]) (n := 1) (Nat.le_of_ble_eq_true rfl)
  rw [lg_entry_eq]
  generalize (lg_sl ([.ref h0]) ++ List.replicate (1 - (lg_sl ([.ref h0])).length) Slot.unset).toArray = ls at hl ⊢
  have hl : lv_has ls 1 [(0, .ref h0)] := hl
  refine lv_aload_n hx hb gm_d_Tree_init_0 rfl (lv_at hl 0 rfl) ?_
  refine W.objInit hx hb hown (hw _ gm_l_Tree_3) (hw _ gm_oi1) (hw _ gm_oi2) rfl (by rw [hml]; exact hl.1) rfl gm_d_Tree_init_1 (Nat.le_of_ble_eq_true rfl) (Nat.le_of_ble_eq_true rfl) ?_
  refine W.eq (g2 := F0 m 4 ls []) rfl ?_
  refine lv_aload_n hx hb gm_d_Tree_init_4 rfl (lv_at hl 0 rfl) ?_
  refine lv_bipush (v := 75) hx hb gm_d_Tree_init_5 (by decide) ?_
  refine va_newa (atype := .int) (ty := .int) (N' := 75) (a0 := (75, .inl (fun _ => 0))) hx hb (hw _ gm_aI) rfl hK hP hD hS hA (fun _ => rfl) (by decide) (by decide) (by decide) (Nat.le_of_ble_eq_true rfl) (Nat.le_of_ble_eq_true rfl) gm_d_Tree_init_7 (fun q7 cA H hKn hP hD hS => ?_)
  have e9 := gm_sI (i := 0) (j := 4) hKn rfl rfl
  subst e9
  have hP : va_P D gm_cl [(h0, .inr (3, [.null, .null, .null, .null, .null, .null, .null, .null, .null, .null, .null, .int 0, .int 0, .int 0])), (q7, .inl (cI, 75, .inl (fun _ => 0)))] H := hP
  have hD : va_D A [(h0, .inr (3, [.null, .null, .null, .null, .null, .null, .null, .null, .null, .null, .null, .int 0, .int 0, .int 0])), (q7, .inl (cI, 75, .inl (fun _ => 0)))] := hD
  refine W.widen (k := 1) (n := 75) (Nat.le_of_ble_eq_true rfl) (Nat.le_of_ble_eq_true rfl) ?_
  refine va_putF (D := D) (ci := 3) (v := .ref q7) (ty := .array .int) (C := gm_R_Tree) (T := gm_F_Tree) (N := 14) hx hb hw gm_u_Tree gm_t_Tree gm_o_Tree gm_n_Tree hown hK hP hD hS 0 rfl rfl 0 (by decide) (hw _ gm_l_Tree_9) (fun _ h9 => h9) rfl hin rfl (by decide +kernel) rfl rfl (Nat.le_of_ble_eq_true rfl) gm_d_Tree_init_9 (fun H locs hP hD hS => ?_)
  have hP : va_P D gm_cl [(h0, .inr (3, [.ref q7, .null, .null, .null, .null, .null, .null, .null, .null, .null, .null, .int 0, .int 0, .int 0])), (q7, .inl (cI, 75, .inl (fun _ => 0)))] H := hP
  have hD : va_D A [(h0, .inr (3, [.ref q7, .null, .null, .null, .null, .null, .null, .null, .null, .null, .null, .int 0, .int 0, .int 0])), (q7, .inl (cI, 75, .inl (fun _ => 0)))] := hD
  refine lv_aload_n hx hb gm_d_Tree_init_12 rfl (lv_at hl 0 rfl) ?_
  refine lv_bipush (v := 75) hx hb gm_d_Tree_init_13 (by decide) ?_
  refine va_newa (atype := .int) (ty := .int) (N' := 75) (a0 := (75, .inl (fun _ => 0))) hx hb (hw _ gm_aI) rfl hK hP hD hS hA (fun _ => rfl) (by decide) (by decide) (by decide) (Nat.le_of_ble_eq_true rfl) (Nat.le_of_ble_eq_true rfl) gm_d_Tree_init_15 (fun q15 cA H hKn hP hD hS => ?_)
  have e9 := gm_sI (i := 0) (j := 4) hKn rfl rfl
  subst e9
  have hP : va_P D gm_cl [(h0, .inr (3, [.ref q7, .null, .null, .null, .null, .null, .null, .null, .null, .null, .null, .int 0, .int 0, .int 0])), (q7, .inl (cI, 75, .inl (fun _ => 0))), (q15, .inl (cI, 75, .inl (fun _ => 0)))] H := hP
  have hD : va_D A [(h0, .inr (3, [.ref q7, .null, .null, .null, .null, .null, .null, .null, .null, .null, .null, .int 0, .int 0, .int 0])), (q7, .inl (cI, 75, .inl (fun _ => 0))), (q15, .inl (cI, 75, .inl (fun _ => 0)))] := hD
  refine W.widen (k := 2) (n := 150) (Nat.le_of_ble_eq_true rfl) (Nat.le_of_ble_eq_true rfl) ?_
  refine va_putF (D := D) (ci := 3) (v := .ref q15) (ty := .array .int) (C := gm_R_Tree) (T := gm_F_Tree) (N := 14) hx hb hw gm_u_Tree gm_t_Tree gm_o_Tree gm_n_Tree hown hK hP hD hS 0 rfl rfl 1 (by decide) (hw _ gm_l_Tree_15) (fun _ h9 => h9) rfl hin rfl (by decide +kernel) rfl rfl (Nat.le_of_ble_eq_true rfl) gm_d_Tree_init_17 (fun H locs hP hD hS => ?_)
  have hP : va_P D gm_cl [(h0, .inr (3, [.ref q7, .ref q15, .null, .null, .null, .null, .null, .null, .null, .null, .null, .int 0, .int 0, .int 0])), (q7, .inl (cI, 75, .inl (fun _ => 0))), (q15, .inl (cI, 75, .inl (fun _ => 0)))] H := hP
  have hD : va_D A [(h0, .inr (3, [.ref q7, .ref q15, .null, .null, .null, .null, .null, .null, .null, .null, .null, .int 0, .int 0, .int 0])), (q7, .inl (cI, 75, .inl (fun _ => 0))), (q15, .inl (cI, 75, .inl (fun _ => 0)))] := hD
  refine lv_aload_n hx hb gm_d_Tree_init_20 rfl (lv_at hl 0 rfl) ?_
  refine lv_bipush (v := 75) hx hb gm_d_Tree_init_21 (by decide) ?_
  refine va_newa (atype := .int) (ty := .int) (N' := 75) (a0 := (75, .inl (fun _ => 0))) hx hb (hw _ gm_aI) rfl hK hP hD hS hA (fun _ => rfl) (by decide) (by decide) (by decide) (Nat.le_of_ble_eq_true rfl) (Nat.le_of_ble_eq_true rfl) gm_d_Tree_init_23 (fun q23 cA H hKn hP hD hS => ?_)
  have e9 := gm_sI (i := 0) (j := 4) hKn rfl rfl
  subst e9
  have hP : va_P D gm_cl [(h0, .inr (3, [.ref q7, .ref q15, .null, .null, .null, .null, .null, .null, .null, .null, .null, .int 0, .int 0, .int 0])), (q7, .inl (cI, 75, .inl (fun _ => 0))), (q15, .inl (cI, 75, .inl (fun _ => 0))), (q23, .inl (cI, 75, .inl (fun _ => 0)))] H := hP
  have hD : va_D A [(h0, .inr (3, [.ref q7, .ref q15, .null, .null, .null, .null, .null, .null, .null, .null, .null, .int 0, .int 0, .int 0])), (q7, .inl (cI, 75, .inl (fun _ => 0))), (q15, .inl (cI, 75, .inl (fun _ => 0))), (q23, .inl (cI, 75, .inl (fun _ => 0)))] := hD
  refine W.widen (k := 3) (n := 225) (Nat.le_of_ble_eq_true rfl) (Nat.le_of_ble_eq_true rfl) ?_
  refine va_putF (D := D) (ci := 3) (v := .ref q23) (ty := .array .int) (C := gm_R_Tree) (T := gm_F_Tree) (N := 14) hx hb hw gm_u_Tree gm_t_Tree gm_o_Tree gm_n_Tree hown hK hP hD hS 0 rfl rfl 2 (by decide) (hw _ gm_l_Tree_18) (fun _ h9 => h9) rfl hin rfl (by decide +kernel) rfl rfl (Nat.le_of_ble_eq_true rfl) gm_d_Tree_init_25 (fun H locs hP hD hS => ?_)
  have hP : va_P D gm_cl [(h0, .inr (3, [.ref q7, .ref q15, .ref q23, .null, .null, .null, .null, .null, .null, .null, .null, .int 0, .int 0, .int 0])), (q7, .inl (cI, 75, .inl (fun _ => 0))), (q15, .inl (cI, 75, .inl (fun _ => 0))), (q23, .inl (cI, 75, .inl (fun _ => 0)))] H := hP
  have hD : va_D A [(h0, .inr (3, [.ref q7, .ref q15, .ref q23, .null, .null, .null, .null, .null, .null, .null, .null, .int 0, .int 0, .int 0])), (q7, .inl (cI, 75, .inl (fun _ => 0))), (q15, .inl (cI, 75, .inl (fun _ => 0))), (q23, .inl (cI, 75, .inl (fun _ => 0)))] := hD
  refine lv_aload_n hx hb gm_d_Tree_init_28 rfl (lv_at hl 0 rfl) ?_
  refine lv_bipush (v := 75) hx hb gm_d_Tree_init_29 (by decide) ?_
  refine va_newa (atype := .int) (ty := .int) (N' := 75) (a0 := (75, .inl (fun _ => 0))) hx hb (hw _ gm_aI) rfl hK hP hD hS hA (fun _ => rfl) (by decide) (by decide) (by decide) (Nat.le_of_ble_eq_true rfl) (Nat.le_of_ble_eq_true rfl) gm_d_Tree_init_31 (fun q31 cA H hKn hP hD hS => ?_)
  have e9 := gm_sI (i := 0) (j := 4) hKn rfl rfl
  subst e9
  have hP : va_P D gm_cl [(h0, .inr (3, [.ref q7, .ref q15, .ref q23, .null, .null, .null, .null, .null, .null, .null, .null, .int 0, .int 0, .int 0])), (q7, .inl (cI, 75, .inl (fun _ => 0))), (q15, .inl (cI, 75, .inl (fun _ => 0))), (q23, .inl (cI, 75, .inl (fun _ => 0))), (q31, .inl (cI, 75, .inl (fun _ => 0)))] H := hP
  have hD : va_D A [(h0, .inr (3, [.ref q7, .ref q15, .ref q23, .null, .null, .null, .null, .null, .null, .null, .null, .int 0, .int 0, .int 0])), (q7, .inl (cI, 75, .inl (fun _ => 0))), (q15, .inl (cI, 75, .inl (fun _ => 0))), (q23, .inl (cI, 75, .inl (fun _ => 0))), (q31, .inl (cI, 75, .inl (fun _ => 0)))] := hD
  refine W.widen (k := 4) (n := 300) (Nat.le_of_ble_eq_true rfl) (Nat.le_of_ble_eq_true rfl) ?_
  refine va_putF (D := D) (ci := 3) (v := .ref q31) (ty := .array .int) (C := gm_R_Tree) (T := gm_F_Tree) (N := 14) hx hb hw gm_u_Tree gm_t_Tree gm_o_Tree gm_n_Tree hown hK hP hD hS 0 rfl rfl 3 (by decide) (hw _ gm_l_Tree_21) (fun _ h9 => h9) rfl hin rfl (by decide +kernel) rfl rfl (Nat.le_of_ble_eq_true rfl) gm_d_Tree_init_33 (fun H locs hP hD hS => ?_)
  have hP : va_P D gm_cl [(h0, .inr (3, [.ref q7, .ref q15, .ref q23, .ref q31, .null, .null, .null, .null, .null, .null, .null, .int 0, .int 0, .int 0])), (q7, .inl (cI, 75, .inl (fun _ => 0))), (q15, .inl (cI, 75, .inl (fun _ => 0))), (q23, .inl (cI, 75, .inl (fun _ => 0))), (q31, .inl (cI, 75, .inl (fun _ => 0)))] H := hP
  have hD : va_D A [(h0, .inr (3, [.ref q7, .ref q15, .ref q23, .ref q31, .null, .null, .null, .null, .null, .null, .null, .int 0, .int 0, .int 0])), (q7, .inl (cI, 75, .inl (fun _ => 0))), (q15, .inl (cI, 75, .inl (fun _ => 0))), (q23, .inl (cI, 75, .inl (fun _ => 0))), (q31, .inl (cI, 75, .inl (fun _ => 0)))] := hD
  refine lv_aload_n hx hb gm_d_Tree_init_36 rfl (lv_at hl 0 rfl) ?_
  refine lv_bipush (v := 75) hx hb gm_d_Tree_init_37 (by decide) ?_
  refine va_newa (atype := .int) (ty := .int) (N' := 75) (a0 := (75, .inl (fun _ => 0))) hx hb (hw _ gm_aI) rfl hK hP hD hS hA (fun _ => rfl) (by decide) (by decide) (by decide) (Nat.le_of_ble_eq_true rfl) (Nat.le_of_ble_eq_true rfl) gm_d_Tree_init_39 (fun q39 cA H hKn hP hD hS => ?_)
  have e9 := gm_sI (i := 0) (j := 4) hKn rfl rfl
  subst e9
  have hP : va_P D gm_cl [(h0, .inr (3, [.ref q7, .ref q15, .ref q23, .ref q31, .null, .null, .null, .null, .null, .null, .null, .int 0, .int 0, .int 0])), (q7, .inl (cI, 75, .inl (fun _ => 0))), (q15, .inl (cI, 75, .inl (fun _ => 0))), (q23, .inl (cI, 75, .inl (fun _ => 0))), (q31, .inl (cI, 75, .inl (fun _ => 0))), (q39, .inl (cI, 75, .inl (fun _ => 0)))] H := hP
  have hD : va_D A [(h0, .inr (3, [.ref q7, .ref q15, .ref q23, .ref q31, .null, .null, .null, .null, .null, .null, .null, .int 0, .int 0, .int 0])), (q7, .inl (cI, 75, .inl (fun _ => 0))), (q15, .inl (cI, 75, .inl (fun _ => 0))), (q23, .inl (cI, 75, .inl (fun _ => 0))), (q31, .inl (cI, 75, .inl (fun _ => 0))), (q39, .inl (cI, 75, .inl (fun _ => 0)))] := hD
  refine W.widen (k := 5) (n := 375) (Nat.le_of_ble_eq_true rfl) (Nat.le_of_ble_eq_true rfl) ?_
  refine va_putF (D := D) (ci := 3) (v := .ref q39) (ty := .array .int) (C := gm_R_Tree) (T := gm_F_Tree) (N := 14) hx hb hw gm_u_Tree gm_t_Tree gm_o_Tree gm_n_Tree hown hK hP hD hS 0 rfl rfl 4 (by decide) (hw _ gm_l_Tree_24) (fun _ h9 => h9) rfl hin rfl (by decide +kernel) rfl rfl (Nat.le_of_ble_eq_true rfl) gm_d_Tree_init_41 (fun H locs hP hD hS => ?_)
  have hP : va_P D gm_cl [(h0, .inr (3, [.ref q7, .ref q15, .ref q23, .ref q31, .ref q39, .null, .null, .null, .null, .null, .null, .int 0, .int 0, .int 0])), (q7, .inl (cI, 75, .inl (fun _ => 0))), (q15, .inl (cI, 75, .inl (fun _ => 0))), (q23, .inl (cI, 75, .inl (fun _ => 0))), (q31, .inl (cI, 75, .inl (fun _ => 0))), (q39, .inl (cI, 75, .inl (fun _ => 0)))] H := hP
  have hD : va_D A [(h0, .inr (3, [.ref q7, .ref q15, .ref q23, .ref q31, .ref q39, .null, .null, .null, .null, .null, .null, .int 0, .int 0, .int 0])), (q7, .inl (cI, 75, .inl (fun _ => 0))), (q15, .inl (cI, 75, .inl (fun _ => 0))), (q23, .inl (cI, 75, .inl (fun _ => 0))), (q31, .inl (cI, 75, .inl (fun _ => 0))), (q39, .inl (cI, 75, .inl (fun _ => 0)))] := hD
  refine lv_aload_n hx hb gm_d_Tree_init_44 rfl (lv_at hl 0 rfl) ?_
  refine lv_bipush (v := 75) hx hb gm_d_Tree_init_45 (by decide) ?_
  refine va_newa (atype := .boolean) (ty := .boolean) (N' := 75) (a0 := (75, .inl (fun _ => 0))) hx hb (hw _ gm_aZ) rfl hK hP hD hS hA (fun _ => rfl) (by decide) (by decide) (by decide) (Nat.le_of_ble_eq_true rfl) (Nat.le_of_ble_eq_true rfl) gm_d_Tree_init_47 (fun q47 cA H hKn hP hD hS => ?_)
  have e9 := gm_sZ (i := 3) (j := 4) hKn rfl rfl
  subst e9
  have hP : va_P D gm_cl [(h0, .inr (3, [.ref q7, .ref q15, .ref q23, .ref q31, .ref q39, .null, .null, .null, .null, .null, .null, .int 0, .int 0, .int 0])), (q7, .inl (cI, 75, .inl (fun _ => 0))), (q15, .inl (cI, 75, .inl (fun _ => 0))), (q23, .inl (cI, 75, .inl (fun _ => 0))), (q31, .inl (cI, 75, .inl (fun _ => 0))), (q39, .inl (cI, 75, .inl (fun _ => 0))), (q47, .inl (cZ, 75, .inl (fun _ => 0)))] H := hP
  have hD : va_D A [(h0, .inr (3, [.ref q7, .ref q15, .ref q23, .ref q31, .ref q39, .null, .null, .null, .null, .null, .null, .int 0, .int 0, .int 0])), (q7, .inl (cI, 75, .inl (fun _ => 0))), (q15, .inl (cI, 75, .inl (fun _ => 0))), (q23, .inl (cI, 75, .inl (fun _ => 0))), (q31, .inl (cI, 75, .inl (fun _ => 0))), (q39, .inl (cI, 75, .inl (fun _ => 0))), (q47, .inl (cZ, 75, .inl (fun _ => 0)))] := hD
  refine W.widen (k := 6) (n := 450) (Nat.le_of_ble_eq_true rfl) (Nat.le_of_ble_eq_true rfl) ?_
  refine va_putF (D := D) (ci := 3) (v := .ref q47) (ty := .array .boolean) (C := gm_R_Tree) (T := gm_F_Tree) (N := 14) hx hb hw gm_u_Tree gm_t_Tree gm_o_Tree gm_n_Tree hown hK hP hD hS 0 rfl rfl 5 (by decide) (hw _ gm_l_Tree_27) (fun _ h9 => h9) rfl hin rfl (by decide +kernel) rfl rfl (Nat.le_of_ble_eq_true rfl) gm_d_Tree_init_49 (fun H locs hP hD hS => ?_)
  have hP : va_P D gm_cl [(h0, .inr (3, [.ref q7, .ref q15, .ref q23, .ref q31, .ref q39, .ref q47, .null, .null, .null, .null, .null, .int 0, .int 0, .int 0])), (q7, .inl (cI, 75, .inl (fun _ => 0))), (q15, .inl (cI, 75, .inl (fun _ => 0))), (q23, .inl (cI, 75, .inl (fun _ => 0))), (q31, .inl (cI, 75, .inl (fun _ => 0))), (q39, .inl (cI, 75, .inl (fun _ => 0))), (q47, .inl (cZ, 75, .inl (fun _ => 0)))] H := hP
  have hD : va_D A [(h0, .inr (3, [.ref q7, .ref q15, .ref q23, .ref q31, .ref q39, .ref q47, .null, .null, .null, .null, .null, .int 0, .int 0, .int 0])), (q7, .inl (cI, 75, .inl (fun _ => 0))), (q15, .inl (cI, 75, .inl (fun _ => 0))), (q23, .inl (cI, 75, .inl (fun _ => 0))), (q31, .inl (cI, 75, .inl (fun _ => 0))), (q39, .inl (cI, 75, .inl (fun _ => 0))), (q47, .inl (cZ, 75, .inl (fun _ => 0)))] := hD
  refine lv_aload_n hx hb gm_d_Tree_init_52 rfl (lv_at hl 0 rfl) ?_
  refine lv_bipush (v := 75) hx hb gm_d_Tree_init_53 (by decide) ?_
  refine va_newa (atype := .int) (ty := .int) (N' := 75) (a0 := (75, .inl (fun _ => 0))) hx hb (hw _ gm_aI) rfl hK hP hD hS hA (fun _ => rfl) (by decide) (by decide) (by decide) (Nat.le_of_ble_eq_true rfl) (Nat.le_of_ble_eq_true rfl) gm_d_Tree_init_55 (fun q55 cA H hKn hP hD hS => ?_)
  have e9 := gm_sI (i := 0) (j := 4) hKn rfl rfl
  subst e9
  have hP : va_P D gm_cl [(h0, .inr (3, [.ref q7, .ref q15, .ref q23, .ref q31, .ref q39, .ref q47, .null, .null, .null, .null, .null, .int 0, .int 0, .int 0])), (q7, .inl (cI, 75, .inl (fun _ => 0))), (q15, .inl (cI, 75, .inl (fun _ => 0))), (q23, .inl (cI, 75, .inl (fun _ => 0))), (q31, .inl (cI, 75, .inl (fun _ => 0))), (q39, .inl (cI, 75, .inl (fun _ => 0))), (q47, .inl (cZ, 75, .inl (fun _ => 0))), (q55, .inl (cI, 75, .inl (fun _ => 0)))] H := hP
  have hD : va_D A [(h0, .inr (3, [.ref q7, .ref q15, .ref q23, .ref q31, .ref q39, .ref q47, .null, .null, .null, .null, .null, .int 0, .int 0, .int 0])), (q7, .inl (cI, 75, .inl (fun _ => 0))), (q15, .inl (cI, 75, .inl (fun _ => 0))), (q23, .inl (cI, 75, .inl (fun _ => 0))), (q31, .inl (cI, 75, .inl (fun _ => 0))), (q39, .inl (cI, 75, .inl (fun _ => 0))), (q47, .inl (cZ, 75, .inl (fun _ => 0))), (q55, .inl (cI, 75, .inl (fun _ => 0)))] := hD
  refine W.widen (k := 7) (n := 525) (Nat.le_of_ble_eq_true rfl) (Nat.le_of_ble_eq_true rfl) ?_
  refine va_putF (D := D) (ci := 3) (v := .ref q55) (ty := .array .int) (C := gm_R_Tree) (T := gm_F_Tree) (N := 14) hx hb hw gm_u_Tree gm_t_Tree gm_o_Tree gm_n_Tree hown hK hP hD hS 0 rfl rfl 6 (by decide) (hw _ gm_l_Tree_31) (fun _ h9 => h9) rfl hin rfl (by decide +kernel) rfl rfl (Nat.le_of_ble_eq_true rfl) gm_d_Tree_init_57 (fun H locs hP hD hS => ?_)
  have hP : va_P D gm_cl [(h0, .inr (3, [.ref q7, .ref q15, .ref q23, .ref q31, .ref q39, .ref q47, .ref q55, .null, .null, .null, .null, .int 0, .int 0, .int 0])), (q7, .inl (cI, 75, .inl (fun _ => 0))), (q15, .inl (cI, 75, .inl (fun _ => 0))), (q23, .inl (cI, 75, .inl (fun _ => 0))), (q31, .inl (cI, 75, .inl (fun _ => 0))), (q39, .inl (cI, 75, .inl (fun _ => 0))), (q47, .inl (cZ, 75, .inl (fun _ => 0))), (q55, .inl (cI, 75, .inl (fun _ => 0)))] H := hP
  have hD : va_D A [(h0, .inr (3, [.ref q7, .ref q15, .ref q23, .ref q31, .ref q39, .ref q47, .ref q55, .null, .null, .null, .null, .int 0, .int 0, .int 0])), (q7, .inl (cI, 75, .inl (fun _ => 0))), (q15, .inl (cI, 75, .inl (fun _ => 0))), (q23, .inl (cI, 75, .inl (fun _ => 0))), (q31, .inl (cI, 75, .inl (fun _ => 0))), (q39, .inl (cI, 75, .inl (fun _ => 0))), (q47, .inl (cZ, 75, .inl (fun _ => 0))), (q55, .inl (cI, 75, .inl (fun _ => 0)))] := hD
  refine lv_aload_n hx hb gm_d_Tree_init_60 rfl (lv_at hl 0 rfl) ?_
  refine lv_bipush (v := 75) hx hb gm_d_Tree_init_61 (by decide) ?_
  refine va_newa (atype := .long) (ty := .long) (N' := 75) (a0 := (75, .inr (.inl (fun _ => 0)))) hx hb (hw _ gm_aJ) rfl hK hP hD hS hA (fun _ => rfl) (by decide) (by decide) (by decide) (Nat.le_of_ble_eq_true rfl) (Nat.le_of_ble_eq_true rfl) gm_d_Tree_init_63 (fun q63 cA H hKn hP hD hS => ?_)
  have e9 := gm_sJ (i := 1) (j := 4) hKn rfl rfl
  subst e9
  have hP : va_P D gm_cl [(h0, .inr (3, [.ref q7, .ref q15, .ref q23, .ref q31, .ref q39, .ref q47, .ref q55, .null, .null, .null, .null, .int 0, .int 0, .int 0])), (q7, .inl (cI, 75, .inl (fun _ => 0))), (q15, .inl (cI, 75, .inl (fun _ => 0))), (q23, .inl (cI, 75, .inl (fun _ => 0))), (q31, .inl (cI, 75, .inl (fun _ => 0))), (q39, .inl (cI, 75, .inl (fun _ => 0))), (q47, .inl (cZ, 75, .inl (fun _ => 0))), (q55, .inl (cI, 75, .inl (fun _ => 0))), (q63, .inl (cJ, 75, .inr (.inl (fun _ => 0))))] H := hP
  have hD : va_D A [(h0, .inr (3, [.ref q7, .ref q15, .ref q23, .ref q31, .ref q39, .ref q47, .ref q55, .null, .null, .null, .null, .int 0, .int 0, .int 0])), (q7, .inl (cI, 75, .inl (fun _ => 0))), (q15, .inl (cI, 75, .inl (fun _ => 0))), (q23, .inl (cI, 75, .inl (fun _ => 0))), (q31, .inl (cI, 75, .inl (fun _ => 0))), (q39, .inl (cI, 75, .inl (fun _ => 0))), (q47, .inl (cZ, 75, .inl (fun _ => 0))), (q55, .inl (cI, 75, .inl (fun _ => 0))), (q63, .inl (cJ, 75, .inr (.inl (fun _ => 0))))] := hD
  refine W.widen (k := 8) (n := 600) (Nat.le_of_ble_eq_true rfl) (Nat.le_of_ble_eq_true rfl) ?_
  refine va_putF (D := D) (ci := 3) (v := .ref q63) (ty := .array .long) (C := gm_R_Tree) (T := gm_F_Tree) (N := 14) hx hb hw gm_u_Tree gm_t_Tree gm_o_Tree gm_n_Tree hown hK hP hD hS 0 rfl rfl 7 (by decide) (hw _ gm_l_Tree_34) (fun _ h9 => h9) rfl hin rfl (by decide +kernel) rfl rfl (Nat.le_of_ble_eq_true rfl) gm_d_Tree_init_65 (fun H locs hP hD hS => ?_)
  have hP : va_P D gm_cl [(h0, .inr (3, [.ref q7, .ref q15, .ref q23, .ref q31, .ref q39, .ref q47, .ref q55, .ref q63, .null, .null, .null, .int 0, .int 0, .int 0])), (q7, .inl (cI, 75, .inl (fun _ => 0))), (q15, .inl (cI, 75, .inl (fun _ => 0))), (q23, .inl (cI, 75, .inl (fun _ => 0))), (q31, .inl (cI, 75, .inl (fun _ => 0))), (q39, .inl (cI, 75, .inl (fun _ => 0))), (q47, .inl (cZ, 75, .inl (fun _ => 0))), (q55, .inl (cI, 75, .inl (fun _ => 0))), (q63, .inl (cJ, 75, .inr (.inl (fun _ => 0))))] H := hP
  have hD : va_D A [(h0, .inr (3, [.ref q7, .ref q15, .ref q23, .ref q31, .ref q39, .ref q47, .ref q55, .ref q63, .null, .null, .null, .int 0, .int 0, .int 0])), (q7, .inl (cI, 75, .inl (fun _ => 0))), (q15, .inl (cI, 75, .inl (fun _ => 0))), (q23, .inl (cI, 75, .inl (fun _ => 0))), (q31, .inl (cI, 75, .inl (fun _ => 0))), (q39, .inl (cI, 75, .inl (fun _ => 0))), (q47, .inl (cZ, 75, .inl (fun _ => 0))), (q55, .inl (cI, 75, .inl (fun _ => 0))), (q63, .inl (cJ, 75, .inr (.inl (fun _ => 0))))] := hD
  refine lv_aload_n hx hb gm_d_Tree_init_68 rfl (lv_at hl 0 rfl) ?_
  refine lv_bipush (v := 75) hx hb gm_d_Tree_init_69 (by decide) ?_
  refine va_newa (atype := .long) (ty := .long) (N' := 75) (a0 := (75, .inr (.inl (fun _ => 0)))) hx hb (hw _ gm_aJ) rfl hK hP hD hS hA (fun _ => rfl) (by decide) (by decide) (by decide) (Nat.le_of_ble_eq_true rfl) (Nat.le_of_ble_eq_true rfl) gm_d_Tree_init_71 (fun q71 cA H hKn hP hD hS => ?_)
  have e9 := gm_sJ (i := 1) (j := 4) hKn rfl rfl
  subst e9
  have hP : va_P D gm_cl [(h0, .inr (3, [.ref q7, .ref q15, .ref q23, .ref q31, .ref q39, .ref q47, .ref q55, .ref q63, .null, .null, .null, .int 0, .int 0, .int 0])), (q7, .inl (cI, 75, .inl (fun _ => 0))), (q15, .inl (cI, 75, .inl (fun _ => 0))), (q23, .inl (cI, 75, .inl (fun _ => 0))), (q31, .inl (cI, 75, .inl (fun _ => 0))), (q39, .inl (cI, 75, .inl (fun _ => 0))), (q47, .inl (cZ, 75, .inl (fun _ => 0))), (q55, .inl (cI, 75, .inl (fun _ => 0))), (q63, .inl (cJ, 75, .inr (.inl (fun _ => 0)))), (q71, .inl (cJ, 75, .inr (.inl (fun _ => 0))))] H := hP
  have hD : va_D A [(h0, .inr (3, [.ref q7, .ref q15, .ref q23, .ref q31, .ref q39, .ref q47, .ref q55, .ref q63, .null, .null, .null, .int 0, .int 0, .int 0])), (q7, .inl (cI, 75, .inl (fun _ => 0))), (q15, .inl (cI, 75, .inl (fun _ => 0))), (q23, .inl (cI, 75, .inl (fun _ => 0))), (q31, .inl (cI, 75, .inl (fun _ => 0))), (q39, .inl (cI, 75, .inl (fun _ => 0))), (q47, .inl (cZ, 75, .inl (fun _ => 0))), (q55, .inl (cI, 75, .inl (fun _ => 0))), (q63, .inl (cJ, 75, .inr (.inl (fun _ => 0)))), (q71, .inl (cJ, 75, .inr (.inl (fun _ => 0))))] := hD
  refine W.widen (k := 9) (n := 675) (Nat.le_of_ble_eq_true rfl) (Nat.le_of_ble_eq_true rfl) ?_
  refine va_putF (D := D) (ci := 3) (v := .ref q71) (ty := .array .long) (C := gm_R_Tree) (T := gm_F_Tree) (N := 14) hx hb hw gm_u_Tree gm_t_Tree gm_o_Tree gm_n_Tree hown hK hP hD hS 0 rfl rfl 8 (by decide) (hw _ gm_l_Tree_38) (fun _ h9 => h9) rfl hin rfl (by decide +kernel) rfl rfl (Nat.le_of_ble_eq_true rfl) gm_d_Tree_init_73 (fun H locs hP hD hS => ?_)
  have hP : va_P D gm_cl [(h0, .inr (3, [.ref q7, .ref q15, .ref q23, .ref q31, .ref q39, .ref q47, .ref q55, .ref q63, .ref q71, .null, .null, .int 0, .int 0, .int 0])), (q7, .inl (cI, 75, .inl (fun _ => 0))), (q15, .inl (cI, 75, .inl (fun _ => 0))), (q23, .inl (cI, 75, .inl (fun _ => 0))), (q31, .inl (cI, 75, .inl (fun _ => 0))), (q39, .inl (cI, 75, .inl (fun _ => 0))), (q47, .inl (cZ, 75, .inl (fun _ => 0))), (q55, .inl (cI, 75, .inl (fun _ => 0))), (q63, .inl (cJ, 75, .inr (.inl (fun _ => 0)))), (q71, .inl (cJ, 75, .inr (.inl (fun _ => 0))))] H := hP
  have hD : va_D A [(h0, .inr (3, [.ref q7, .ref q15, .ref q23, .ref q31, .ref q39, .ref q47, .ref q55, .ref q63, .ref q71, .null, .null, .int 0, .int 0, .int 0])), (q7, .inl (cI, 75, .inl (fun _ => 0))), (q15, .inl (cI, 75, .inl (fun _ => 0))), (q23, .inl (cI, 75, .inl (fun _ => 0))), (q31, .inl (cI, 75, .inl (fun _ => 0))), (q39, .inl (cI, 75, .inl (fun _ => 0))), (q47, .inl (cZ, 75, .inl (fun _ => 0))), (q55, .inl (cI, 75, .inl (fun _ => 0))), (q63, .inl (cJ, 75, .inr (.inl (fun _ => 0)))), (q71, .inl (cJ, 75, .inr (.inl (fun _ => 0))))] := hD
  refine lv_aload_n hx hb gm_d_Tree_init_76 rfl (lv_at hl 0 rfl) ?_
  refine lv_bipush (v := 8) hx hb gm_d_Tree_init_77 (by decide) ?_
  refine va_newa (atype := .int) (ty := .int) (N' := 8) (a0 := (8, .inl (fun _ => 0))) hx hb (hw _ gm_aI) rfl hK hP hD hS hA (fun _ => rfl) (by decide) (by decide) (by decide) (Nat.le_of_ble_eq_true rfl) (Nat.le_of_ble_eq_true rfl) gm_d_Tree_init_79 (fun q79 cA H hKn hP hD hS => ?_)
  have e9 := gm_sI (i := 0) (j := 4) hKn rfl rfl
  subst e9
  have hP : va_P D gm_cl [(h0, .inr (3, [.ref q7, .ref q15, .ref q23, .ref q31, .ref q39, .ref q47, .ref q55, .ref q63, .ref q71, .null, .null, .int 0, .int 0, .int 0])), (q7, .inl (cI, 75, .inl (fun _ => 0))), (q15, .inl (cI, 75, .inl (fun _ => 0))), (q23, .inl (cI, 75, .inl (fun _ => 0))), (q31, .inl (cI, 75, .inl (fun _ => 0))), (q39, .inl (cI, 75, .inl (fun _ => 0))), (q47, .inl (cZ, 75, .inl (fun _ => 0))), (q55, .inl (cI, 75, .inl (fun _ => 0))), (q63, .inl (cJ, 75, .inr (.inl (fun _ => 0)))), (q71, .inl (cJ, 75, .inr (.inl (fun _ => 0)))), (q79, .inl (cI, 8, .inl (fun _ => 0)))] H := hP
  have hD : va_D A [(h0, .inr (3, [.ref q7, .ref q15, .ref q23, .ref q31, .ref q39, .ref q47, .ref q55, .ref q63, .ref q71, .null, .null, .int 0, .int 0, .int 0])), (q7, .inl (cI, 75, .inl (fun _ => 0))), (q15, .inl (cI, 75, .inl (fun _ => 0))), (q23, .inl (cI, 75, .inl (fun _ => 0))), (q31, .inl (cI, 75, .inl (fun _ => 0))), (q39, .inl (cI, 75, .inl (fun _ => 0))), (q47, .inl (cZ, 75, .inl (fun _ => 0))), (q55, .inl (cI, 75, .inl (fun _ => 0))), (q63, .inl (cJ, 75, .inr (.inl (fun _ => 0)))), (q71, .inl (cJ, 75, .inr (.inl (fun _ => 0)))), (q79, .inl (cI, 8, .inl (fun _ => 0)))] := hD
  refine W.widen (k := 10) (n := 683) (Nat.le_of_ble_eq_true rfl) (Nat.le_of_ble_eq_true rfl) ?_
  refine va_putF (D := D) (ci := 3) (v := .ref q79) (ty := .array .int) (C := gm_R_Tree) (T := gm_F_Tree) (N := 14) hx hb hw gm_u_Tree gm_t_Tree gm_o_Tree gm_n_Tree hown hK hP hD hS 0 rfl rfl 9 (by decide) (hw _ gm_l_Tree_41) (fun _ h9 => h9) rfl hin rfl (by decide +kernel) rfl rfl (Nat.le_of_ble_eq_true rfl) gm_d_Tree_init_81 (fun H locs hP hD hS => ?_)
  have hP : va_P D gm_cl [(h0, .inr (3, [.ref q7, .ref q15, .ref q23, .ref q31, .ref q39, .ref q47, .ref q55, .ref q63, .ref q71, .ref q79, .null, .int 0, .int 0, .int 0])), (q7, .inl (cI, 75, .inl (fun _ => 0))), (q15, .inl (cI, 75, .inl (fun _ => 0))), (q23, .inl (cI, 75, .inl (fun _ => 0))), (q31, .inl (cI, 75, .inl (fun _ => 0))), (q39, .inl (cI, 75, .inl (fun _ => 0))), (q47, .inl (cZ, 75, .inl (fun _ => 0))), (q55, .inl (cI, 75, .inl (fun _ => 0))), (q63, .inl (cJ, 75, .inr (.inl (fun _ => 0)))), (q71, .inl (cJ, 75, .inr (.inl (fun _ => 0)))), (q79, .inl (cI, 8, .inl (fun _ => 0)))] H := hP
  have hD : va_D A [(h0, .inr (3, [.ref q7, .ref q15, .ref q23, .ref q31, .ref q39, .ref q47, .ref q55, .ref q63, .ref q71, .ref q79, .null, .int 0, .int 0, .int 0])), (q7, .inl (cI, 75, .inl (fun _ => 0))), (q15, .inl (cI, 75, .inl (fun _ => 0))), (q23, .inl (cI, 75, .inl (fun _ => 0))), (q31, .inl (cI, 75, .inl (fun _ => 0))), (q39, .inl (cI, 75, .inl (fun _ => 0))), (q47, .inl (cZ, 75, .inl (fun _ => 0))), (q55, .inl (cI, 75, .inl (fun _ => 0))), (q63, .inl (cJ, 75, .inr (.inl (fun _ => 0)))), (q71, .inl (cJ, 75, .inr (.inl (fun _ => 0)))), (q79, .inl (cI, 8, .inl (fun _ => 0)))] := hD
  refine lv_aload_n hx hb gm_d_Tree_init_84 rfl (lv_at hl 0 rfl) ?_
  refine lv_bipush (v := 8) hx hb gm_d_Tree_init_85 (by decide) ?_
  refine va_newa (atype := .int) (ty := .int) (N' := 8) (a0 := (8, .inl (fun _ => 0))) hx hb (hw _ gm_aI) rfl hK hP hD hS hA (fun _ => rfl) (by decide) (by decide) (by decide) (Nat.le_of_ble_eq_true rfl) (Nat.le_of_ble_eq_true rfl) gm_d_Tree_init_87 (fun q87 cA H hKn hP hD hS => ?_)
  have e9 := gm_sI (i := 0) (j := 4) hKn rfl rfl
  subst e9
  have hP : va_P D gm_cl [(h0, .inr (3, [.ref q7, .ref q15, .ref q23, .ref q31, .ref q39, .ref q47, .ref q55, .ref q63, .ref q71, .ref q79, .null, .int 0, .int 0, .int 0])), (q7, .inl (cI, 75, .inl (fun _ => 0))), (q15, .inl (cI, 75, .inl (fun _ => 0))), (q23, .inl (cI, 75, .inl (fun _ => 0))), (q31, .inl (cI, 75, .inl (fun _ => 0))), (q39, .inl (cI, 75, .inl (fun _ => 0))), (q47, .inl (cZ, 75, .inl (fun _ => 0))), (q55, .inl (cI, 75, .inl (fun _ => 0))), (q63, .inl (cJ, 75, .inr (.inl (fun _ => 0)))), (q71, .inl (cJ, 75, .inr (.inl (fun _ => 0)))), (q79, .inl (cI, 8, .inl (fun _ => 0))), (q87, .inl (cI, 8, .inl (fun _ => 0)))] H := hP
  have hD : va_D A [(h0, .inr (3, [.ref q7, .ref q15, .ref q23, .ref q31, .ref q39, .ref q47, .ref q55, .ref q63, .ref q71, .ref q79, .null, .int 0, .int 0, .int 0])), (q7, .inl (cI, 75, .inl (fun _ => 0))), (q15, .inl (cI, 75, .inl (fun _ => 0))), (q23, .inl (cI, 75, .inl (fun _ => 0))), (q31, .inl (cI, 75, .inl (fun _ => 0))), (q39, .inl (cI, 75, .inl (fun _ => 0))), (q47, .inl (cZ, 75, .inl (fun _ => 0))), (q55, .inl (cI, 75, .inl (fun _ => 0))), (q63, .inl (cJ, 75, .inr (.inl (fun _ => 0)))), (q71, .inl (cJ, 75, .inr (.inl (fun _ => 0)))), (q79, .inl (cI, 8, .inl (fun _ => 0))), (q87, .inl (cI, 8, .inl (fun _ => 0)))] := hD
  refine W.widen (k := 11) (n := 691) (Nat.le_of_ble_eq_true rfl) (Nat.le_of_ble_eq_true rfl) ?_
  refine va_putF (D := D) (ci := 3) (v := .ref q87) (ty := .array .int) (C := gm_R_Tree) (T := gm_F_Tree) (N := 14) hx hb hw gm_u_Tree gm_t_Tree gm_o_Tree gm_n_Tree hown hK hP hD hS 0 rfl rfl 10 (by decide) (hw _ gm_l_Tree_44) (fun _ h9 => h9) rfl hin rfl (by decide +kernel) rfl rfl (Nat.le_of_ble_eq_true rfl) gm_d_Tree_init_89 (fun H locs hP hD hS => ?_)
  have hP : va_P D gm_cl [(h0, .inr (3, [.ref q7, .ref q15, .ref q23, .ref q31, .ref q39, .ref q47, .ref q55, .ref q63, .ref q71, .ref q79, .ref q87, .int 0, .int 0, .int 0])), (q7, .inl (cI, 75, .inl (fun _ => 0))), (q15, .inl (cI, 75, .inl (fun _ => 0))), (q23, .inl (cI, 75, .inl (fun _ => 0))), (q31, .inl (cI, 75, .inl (fun _ => 0))), (q39, .inl (cI, 75, .inl (fun _ => 0))), (q47, .inl (cZ, 75, .inl (fun _ => 0))), (q55, .inl (cI, 75, .inl (fun _ => 0))), (q63, .inl (cJ, 75, .inr (.inl (fun _ => 0)))), (q71, .inl (cJ, 75, .inr (.inl (fun _ => 0)))), (q79, .inl (cI, 8, .inl (fun _ => 0))), (q87, .inl (cI, 8, .inl (fun _ => 0)))] H := hP
  have hD : va_D A [(h0, .inr (3, [.ref q7, .ref q15, .ref q23, .ref q31, .ref q39, .ref q47, .ref q55, .ref q63, .ref q71, .ref q79, .ref q87, .int 0, .int 0, .int 0])), (q7, .inl (cI, 75, .inl (fun _ => 0))), (q15, .inl (cI, 75, .inl (fun _ => 0))), (q23, .inl (cI, 75, .inl (fun _ => 0))), (q31, .inl (cI, 75, .inl (fun _ => 0))), (q39, .inl (cI, 75, .inl (fun _ => 0))), (q47, .inl (cZ, 75, .inl (fun _ => 0))), (q55, .inl (cI, 75, .inl (fun _ => 0))), (q63, .inl (cJ, 75, .inr (.inl (fun _ => 0)))), (q71, .inl (cJ, 75, .inr (.inl (fun _ => 0)))), (q79, .inl (cI, 8, .inl (fun _ => 0))), (q87, .inl (cI, 8, .inl (fun _ => 0)))] := hD
  refine lv_aload_n hx hb gm_d_Tree_init_92 rfl (lv_at hl 0 rfl) ?_
  refine lv_iconst (v := 0) hx hb gm_d_Tree_init_93 (by decide) ?_
  refine va_put (D := D) (ci := 3) (v := .int 0) (ty := .int) (C := gm_R_Tree) (T := gm_F_Tree) (N := 14) hx hb hw gm_u_Tree gm_t_Tree gm_o_Tree gm_n_Tree hown hK hP hD hS 0 rfl rfl 11 (by decide) (hw _ gm_l_Tree_47) (fun _ h9 => h9) rfl (by decide +kernel) rfl rfl (Nat.le_of_ble_eq_true rfl) gm_d_Tree_init_94 (fun H locs hP hD hS => ?_)
  have hP : va_P D gm_cl [(h0, .inr (3, [.ref q7, .ref q15, .ref q23, .ref q31, .ref q39, .ref q47, .ref q55, .ref q63, .ref q71, .ref q79, .ref q87, .int 0, .int 0, .int 0])), (q7, .inl (cI, 75, .inl (fun _ => 0))), (q15, .inl (cI, 75, .inl (fun _ => 0))), (q23, .inl (cI, 75, .inl (fun _ => 0))), (q31, .inl (cI, 75, .inl (fun _ => 0))), (q39, .inl (cI, 75, .inl (fun _ => 0))), (q47, .inl (cZ, 75, .inl (fun _ => 0))), (q55, .inl (cI, 75, .inl (fun _ => 0))), (q63, .inl (cJ, 75, .inr (.inl (fun _ => 0)))), (q71, .inl (cJ, 75, .inr (.inl (fun _ => 0)))), (q79, .inl (cI, 8, .inl (fun _ => 0))), (q87, .inl (cI, 8, .inl (fun _ => 0)))] H := hP
  have hD : va_D A [(h0, .inr (3, [.ref q7, .ref q15, .ref q23, .ref q31, .ref q39, .ref q47, .ref q55, .ref q63, .ref q71, .ref q79, .ref q87, .int 0, .int 0, .int 0])), (q7, .inl (cI, 75, .inl (fun _ => 0))), (q15, .inl (cI, 75, .inl (fun _ => 0))), (q23, .inl (cI, 75, .inl (fun _ => 0))), (q31, .inl (cI, 75, .inl (fun _ => 0))), (q39, .inl (cI, 75, .inl (fun _ => 0))), (q47, .inl (cZ, 75, .inl (fun _ => 0))), (q55, .inl (cI, 75, .inl (fun _ => 0))), (q63, .inl (cJ, 75, .inr (.inl (fun _ => 0)))), (q71, .inl (cJ, 75, .inr (.inl (fun _ => 0)))), (q79, .inl (cI, 8, .inl (fun _ => 0))), (q87, .inl (cI, 8, .inl (fun _ => 0)))] := hD
  refine lv_aload_n hx hb gm_d_Tree_init_97 rfl (lv_at hl 0 rfl) ?_
  refine lv_iconst (v := 0) hx hb gm_d_Tree_init_98 (by decide) ?_
  refine va_put (D := D) (ci := 3) (v := .int 0) (ty := .int) (C := gm_R_Tree) (T := gm_F_Tree) (N := 14) hx hb hw gm_u_Tree gm_t_Tree gm_o_Tree gm_n_Tree hown hK hP hD hS 0 rfl rfl 12 (by decide) (hw _ gm_l_Tree_51) (fun _ h9 => h9) rfl (by decide +kernel) rfl rfl (Nat.le_of_ble_eq_true rfl) gm_d_Tree_init_99 (fun H locs hP hD hS => ?_)
  have hP : va_P D gm_cl [(h0, .inr (3, [.ref q7, .ref q15, .ref q23, .ref q31, .ref q39, .ref q47, .ref q55, .ref q63, .ref q71, .ref q79, .ref q87, .int 0, .int 0, .int 0])), (q7, .inl (cI, 75, .inl (fun _ => 0))), (q15, .inl (cI, 75, .inl (fun _ => 0))), (q23, .inl (cI, 75, .inl (fun _ => 0))), (q31, .inl (cI, 75, .inl (fun _ => 0))), (q39, .inl (cI, 75, .inl (fun _ => 0))), (q47, .inl (cZ, 75, .inl (fun _ => 0))), (q55, .inl (cI, 75, .inl (fun _ => 0))), (q63, .inl (cJ, 75, .inr (.inl (fun _ => 0)))), (q71, .inl (cJ, 75, .inr (.inl (fun _ => 0)))), (q79, .inl (cI, 8, .inl (fun _ => 0))), (q87, .inl (cI, 8, .inl (fun _ => 0)))] H := hP
  have hD : va_D A [(h0, .inr (3, [.ref q7, .ref q15, .ref q23, .ref q31, .ref q39, .ref q47, .ref q55, .ref q63, .ref q71, .ref q79, .ref q87, .int 0, .int 0, .int 0])), (q7, .inl (cI, 75, .inl (fun _ => 0))), (q15, .inl (cI, 75, .inl (fun _ => 0))), (q23, .inl (cI, 75, .inl (fun _ => 0))), (q31, .inl (cI, 75, .inl (fun _ => 0))), (q39, .inl (cI, 75, .inl (fun _ => 0))), (q47, .inl (cZ, 75, .inl (fun _ => 0))), (q55, .inl (cI, 75, .inl (fun _ => 0))), (q63, .inl (cJ, 75, .inr (.inl (fun _ => 0)))), (q71, .inl (cJ, 75, .inr (.inl (fun _ => 0)))), (q79, .inl (cI, 8, .inl (fun _ => 0))), (q87, .inl (cI, 8, .inl (fun _ => 0)))] := hD
  refine lv_aload_n hx hb gm_d_Tree_init_102 rfl (lv_at hl 0 rfl) ?_
  refine lv_iconst (v := 0) hx hb gm_d_Tree_init_103 (by decide) ?_
  refine va_put (D := D) (ci := 3) (v := .int 0) (ty := .int) (C := gm_R_Tree) (T := gm_F_Tree) (N := 14) hx hb hw gm_u_Tree gm_t_Tree gm_o_Tree gm_n_Tree hown hK hP hD hS 0 rfl rfl 13 (by decide) (hw _ gm_l_Tree_54) (fun _ h9 => h9) rfl (by decide +kernel) rfl rfl (Nat.le_of_ble_eq_true rfl) gm_d_Tree_init_104 (fun H locs hP hD hS => ?_)
  have hP : va_P D gm_cl [(h0, .inr (3, [.ref q7, .ref q15, .ref q23, .ref q31, .ref q39, .ref q47, .ref q55, .ref q63, .ref q71, .ref q79, .ref q87, .int 0, .int 0, .int 0])), (q7, .inl (cI, 75, .inl (fun _ => 0))), (q15, .inl (cI, 75, .inl (fun _ => 0))), (q23, .inl (cI, 75, .inl (fun _ => 0))), (q31, .inl (cI, 75, .inl (fun _ => 0))), (q39, .inl (cI, 75, .inl (fun _ => 0))), (q47, .inl (cZ, 75, .inl (fun _ => 0))), (q55, .inl (cI, 75, .inl (fun _ => 0))), (q63, .inl (cJ, 75, .inr (.inl (fun _ => 0)))), (q71, .inl (cJ, 75, .inr (.inl (fun _ => 0)))), (q79, .inl (cI, 8, .inl (fun _ => 0))), (q87, .inl (cI, 8, .inl (fun _ => 0)))] H := hP
  have hD : va_D A [(h0, .inr (3, [.ref q7, .ref q15, .ref q23, .ref q31, .ref q39, .ref q47, .ref q55, .ref q63, .ref q71, .ref q79, .ref q87, .int 0, .int 0, .int 0])), (q7, .inl (cI, 75, .inl (fun _ => 0))), (q15, .inl (cI, 75, .inl (fun _ => 0))), (q23, .inl (cI, 75, .inl (fun _ => 0))), (q31, .inl (cI, 75, .inl (fun _ => 0))), (q39, .inl (cI, 75, .inl (fun _ => 0))), (q47, .inl (cZ, 75, .inl (fun _ => 0))), (q55, .inl (cI, 75, .inl (fun _ => 0))), (q63, .inl (cJ, 75, .inr (.inl (fun _ => 0)))), (q71, .inl (cJ, 75, .inr (.inl (fun _ => 0)))), (q79, .inl (cI, 8, .inl (fun _ => 0))), (q87, .inl (cI, 8, .inl (fun _ => 0)))] := hD
  have hP9 := hP.sub (ws' := gm_oTree h0 (fun k => [q7, q15, q23, q31, q39, q47, q55, q63, q71, q79, q87].getD k 0) cI cJ cZ (fun _ _ => 0) (fun _ _ => 0) (fun _ => 0)) [0, 1, 2, 3, 4, 5, 6, 7, 8, 9, 10, 11] rfl
  have hD9 := hD.sub (ws' := gm_oTree h0 (fun k => [q7, q15, q23, q31, q39, q47, q55, q63, q71, q79, q87].getD k 0) cI cJ cZ (fun _ _ => 0) (fun _ _ => 0) (fun _ => 0)) [0, 1, 2, 3, 4, 5, 6, 7, 8, 9, 10, 11] (by decide) rfl
  exact W.vret hx hb hr (fun t ht hW => ⟨⟨(fun k => [q7, q15, q23, q31, q39, q47, q55, q63, q71, q79, q87].getD k 0), rfl, trivial, by rw [ht]; exact hP9, va_K.moved hW.alike hK, hD9⟩, hS.F ht⟩) hS.2.2 gm_d_Tree_init_107
set_option maxHeartbeats 4000000 in
set_option maxRecDepth 100000 in
theorem gm_c_Judge_init (l : Launch) (D : va_G) (cI cJ cC cZ : ClassId) (h0 t0 : Nat) (sz : Nat) : Met l gm_y_Judge_init (Cond.code gm_y_Judge_init gm_b_Judge_init 2 none :: gm_W) { frames := 4, cells := 0, slots := 0, locals := 64 } (va_Pc [.ref h0, .ref t0] (fun U => U.heap.size = sz ∧ va_P D gm_cl [(h0, .inr (4, [.null]))] U.heap ∧ va_K D gm_cl (gm_T cI cJ cC cZ) U ∧ va_D (fun _ => True) [(h0, .inr (4, [.null]))])) (va_Qv (fun _ : Unit => True) (fun _ t => gm_at D (va_A [(h0, .inr (4, [.null]))] sz) (gm_oJudge h0 t0) (gm_T cI cJ cC cZ) t) (va_A [(h0, .inr (4, [.null]))] sz)) 0 0 (va_A [(h0, .inr (4, [.null]))] sz) := by
  refine Met.ofW (cc := gm_b_Judge_init) (maxL := 2) (ret := none) (by decide) rfl ?_
  intro p e s m args below meth c s₁ B hml hv
  obtain ⟨rfl, hsz, hP, hK, hD0⟩ := hv
  have hx := B.exec
  have hb := B.bytes
  have hr := B.returns
  have hw : ∀ w ∈ gm_W, w.before _ s = true := fun w h => atoms_spec B.pre w (List.mem_cons_of_mem _ h)
  have hown : s.vm.findClass gm_R_Judge = some m.cls := findClass_of_methodNamed B.named
  have hin : meth.name = "<init>" := (name_of_methodNamed B.named B.method).1
  subst hsz
  have hD := hD0.self (sz := s.heap.size)
  generalize hAe : va_A [(h0, .inr (4, [.null]))] s.heap.size = A at hD ⊢
  have hA : ∀ q : Nat, s.heap.size ≤ q → A q := fun q h => by rw [← hAe]; exact Or.inr h
  have hS : va_S A s.heap s.heap [] := va_S.rf
  have hl := lv_entry ([.ref h0, .ref t0]) (n := 2) (Nat.le_of_ble_eq_true rfl)
  rw [lg_entry_eq]
  generalize (lg_sl ([.ref h0, .ref t0]) ++ List.replicate (2 - (lg_sl ([.ref h0, .ref t0])).length) Slot.unset).toArray = ls at hl ⊢
  have hl : lv_has ls 2 [(0, .ref h0), (1, .ref t0)] := hl
  refine lv_aload_n hx hb gm_d_Judge_init_0 rfl (lv_at hl 0 rfl) ?_
  refine W.objInit hx hb hown (hw _ gm_l_Judge_3) (hw _ gm_oi1) (hw _ gm_oi2) rfl (by rw [hml]; exact hl.1) rfl gm_d_Judge_init_1 (Nat.le_of_ble_eq_true rfl) (Nat.le_of_ble_eq_true rfl) ?_
  refine W.eq (g2 := F0 m 4 ls []) rfl ?_
  refine lv_aload_n hx hb gm_d_Judge_init_4 rfl (lv_at hl 0 rfl) ?_
  refine lv_aload_n hx hb gm_d_Judge_init_5 rfl (lv_at hl 1 rfl) ?_
  refine va_putF (D := D) (ci := 4) (v := .ref t0) (ty := .object "GrammarMachine$Tree") (C := gm_R_Judge) (T := gm_F_Judge) (N := 1) hx hb hw gm_u_Judge gm_t_Judge gm_o_Judge gm_n_Judge hown hK hP hD hS 0 rfl rfl 0 (by decide) (hw _ gm_l_Judge_9) (fun _ h9 => h9) rfl hin rfl (by decide +kernel) rfl rfl (Nat.le_of_ble_eq_true rfl) gm_d_Judge_init_6 (fun H locs hP hD hS => ?_)
  have hP : va_P D gm_cl [(h0, .inr (4, [.ref t0]))] H := hP
  have hD : va_D A [(h0, .inr (4, [.ref t0]))] := hD
  have hP9 := hP.sub (ws' := gm_oJudge h0 t0) [0] rfl
  have hD9 := hD.sub (ws' := gm_oJudge h0 t0) [0] (by decide) rfl
  exact W.vret hx hb hr (fun t ht hW => ⟨⟨(), rfl, trivial, by rw [ht]; exact hP9, va_K.moved hW.alike hK, hD9⟩, hS.F ht⟩) hS.2.2 gm_d_Judge_init_9
set_option maxHeartbeats 4000000 in
set_option maxRecDepth 100000 in
theorem gm_c_Code_init (l : Launch) (D : va_G) (cI cJ cC cZ : ClassId) (h0 t0 : Nat) (sz : Nat) : Met l gm_y_Code_init (Cond.code gm_y_Code_init gm_b_Code_init 2 none :: gm_W) { frames := 4, cells := 4, slots := 608, locals := 64 } (va_Pc [.ref h0, .ref t0] (fun U => U.heap.size = sz ∧ va_P D gm_cl [(h0, .inr (5, [.null, .null, .null, .null, .null, .int 0]))] U.heap ∧ va_K D gm_cl (gm_T cI cJ cC cZ) U ∧ va_D (fun _ => True) [(h0, .inr (5, [.null, .null, .null, .null, .null, .int 0]))])) (va_Qv (fun _ : Nat → Nat => True) (fun q t => gm_at D (va_A [(h0, .inr (5, [.null, .null, .null, .null, .null, .int 0]))] sz) (gm_oCode h0 t0 q cI (fun _ _ => 0) 0) (gm_T cI cJ cC cZ) t) (va_A [(h0, .inr (5, [.null, .null, .null, .null, .null, .int 0]))] sz)) 4 608 (va_A [(h0, .inr (5, [.null, .null, .null, .null, .null, .int 0]))] sz) := by
  refine Met.ofW (cc := gm_b_Code_init) (maxL := 2) (ret := none) (by decide) rfl ?_
  intro p e s m args below meth c s₁ B hml hv
  obtain ⟨rfl, hsz, hP, hK, hD0⟩ := hv
  have hx := B.exec
  have hb := B.bytes
  have hr := B.returns
  have hw : ∀ w ∈ gm_W, w.before _ s = true := fun w h => atoms_spec B.pre w (List.mem_cons_of_mem _ h)
  have hown : s.vm.findClass gm_R_Code = some m.cls := findClass_of_methodNamed B.named
  have hin : meth.name = "<init>" := (name_of_methodNamed B.named B.method).1
  subst hsz
  have hD := hD0.self (sz := s.heap.size)
  generalize hAe : va_A [(h0, .inr (5, [.null, .null, .null, .null, .null, .int 0]))] s.heap.size = A at hD ⊢
  have hA : ∀ q : Nat, s.heap.size ≤ q → A q := fun q h => by rw [← hAe]; exact Or.inr h
  have hS : va_S A s.heap s.heap [] := va_S.rf
  have hl := lv_entry ([.ref h0, .ref t0]) (n := 2) (Nat.le_of_ble_eq_true rfl)
  rw [lg_entry_eq]
  generalize (lg_sl ([.ref h0, .ref t0]) ++ List.replicate (2 - (lg_sl ([.ref h0, .ref t0])).length) Slot.unset).toArray = ls at hl ⊢
  have hl : lv_has ls 2 [(0, .ref h0), (1, .ref t0)] := hl
  refine lv_aload_n hx hb gm_d_Code_init_0 rfl (lv_at hl 0 rfl) ?_
  refine W.objInit hx hb hown (hw _ gm_l_Code_3) (hw _ gm_oi1) (hw _ gm_oi2) rfl (by rw [hml]; exact hl.1) rfl gm_d_Code_init_1 (Nat.le_of_ble_eq_true rfl) (Nat.le_of_ble_eq_true rfl) ?_
  refine W.eq (g2 := F0 m 4 ls []) rfl ?_
  refine lv_aload_n hx hb gm_d_Code_init_4 rfl (lv_at hl 0 rfl) ?_
  refine lv_sipush (v := 200) hx hb gm_d_Code_init_5 (by decide) ?_
  refine va_newa (atype := .int) (ty := .int) (N' := 200) (a0 := (200, .inl (fun _ => 0))) hx hb (hw _ gm_aI) rfl hK hP hD hS hA (fun _ => rfl) (by decide) (by decide) (by decide) (Nat.le_of_ble_eq_true rfl) (Nat.le_of_ble_eq_true rfl) gm_d_Code_init_8 (fun q8 cA H hKn hP hD hS => ?_)
  have e9 := gm_sI (i := 0) (j := 4) hKn rfl rfl
  subst e9
  have hP : va_P D gm_cl [(h0, .inr (5, [.null, .null, .null, .null, .null, .int 0])), (q8, .inl (cI, 200, .inl (fun _ => 0)))] H := hP
  have hD : va_D A [(h0, .inr (5, [.null, .null, .null, .null, .null, .int 0])), (q8, .inl (cI, 200, .inl (fun _ => 0)))] := hD
  refine W.widen (k := 1) (n := 200) (Nat.le_of_ble_eq_true rfl) (Nat.le_of_ble_eq_true rfl) ?_
  refine va_putF (D := D) (ci := 5) (v := .ref q8) (ty := .array .int) (C := gm_R_Code) (T := gm_F_Code) (N := 6) hx hb hw gm_u_Code gm_t_Code gm_o_Code gm_n_Code hown hK hP hD hS 0 rfl rfl 1 (by decide) (hw _ gm_l_Code_9) (fun _ h9 => h9) rfl hin rfl (by decide +kernel) rfl rfl (Nat.le_of_ble_eq_true rfl) gm_d_Code_init_10 (fun H locs hP hD hS => ?_)
  have hP : va_P D gm_cl [(h0, .inr (5, [.null, .ref q8, .null, .null, .null, .int 0])), (q8, .inl (cI, 200, .inl (fun _ => 0)))] H := hP
  have hD : va_D A [(h0, .inr (5, [.null, .ref q8, .null, .null, .null, .int 0])), (q8, .inl (cI, 200, .inl (fun _ => 0)))] := hD
  refine lv_aload_n hx hb gm_d_Code_init_13 rfl (lv_at hl 0 rfl) ?_
  refine lv_sipush (v := 200) hx hb gm_d_Code_init_14 (by decide) ?_
  refine va_newa (atype := .int) (ty := .int) (N' := 200) (a0 := (200, .inl (fun _ => 0))) hx hb (hw _ gm_aI) rfl hK hP hD hS hA (fun _ => rfl) (by decide) (by decide) (by decide) (Nat.le_of_ble_eq_true rfl) (Nat.le_of_ble_eq_true rfl) gm_d_Code_init_17 (fun q17 cA H hKn hP hD hS => ?_)
  have e9 := gm_sI (i := 0) (j := 4) hKn rfl rfl
  subst e9
  have hP : va_P D gm_cl [(h0, .inr (5, [.null, .ref q8, .null, .null, .null, .int 0])), (q8, .inl (cI, 200, .inl (fun _ => 0))), (q17, .inl (cI, 200, .inl (fun _ => 0)))] H := hP
  have hD : va_D A [(h0, .inr (5, [.null, .ref q8, .null, .null, .null, .int 0])), (q8, .inl (cI, 200, .inl (fun _ => 0))), (q17, .inl (cI, 200, .inl (fun _ => 0)))] := hD
  refine W.widen (k := 2) (n := 400) (Nat.le_of_ble_eq_true rfl) (Nat.le_of_ble_eq_true rfl) ?_
  refine va_putF (D := D) (ci := 5) (v := .ref q17) (ty := .array .int) (C := gm_R_Code) (T := gm_F_Code) (N := 6) hx hb hw gm_u_Code gm_t_Code gm_o_Code gm_n_Code hown hK hP hD hS 0 rfl rfl 2 (by decide) (hw _ gm_l_Code_15) (fun _ h9 => h9) rfl hin rfl (by decide +kernel) rfl rfl (Nat.le_of_ble_eq_true rfl) gm_d_Code_init_19 (fun H locs hP hD hS => ?_)
  have hP : va_P D gm_cl [(h0, .inr (5, [.null, .ref q8, .ref q17, .null, .null, .int 0])), (q8, .inl (cI, 200, .inl (fun _ => 0))), (q17, .inl (cI, 200, .inl (fun _ => 0)))] H := hP
  have hD : va_D A [(h0, .inr (5, [.null, .ref q8, .ref q17, .null, .null, .int 0])), (q8, .inl (cI, 200, .inl (fun _ => 0))), (q17, .inl (cI, 200, .inl (fun _ => 0)))] := hD
  refine lv_aload_n hx hb gm_d_Code_init_22 rfl (lv_at hl 0 rfl) ?_
  refine lv_sipush (v := 200) hx hb gm_d_Code_init_23 (by decide) ?_
  refine va_newa (atype := .int) (ty := .int) (N' := 200) (a0 := (200, .inl (fun _ => 0))) hx hb (hw _ gm_aI) rfl hK hP hD hS hA (fun _ => rfl) (by decide) (by decide) (by decide) (Nat.le_of_ble_eq_true rfl) (Nat.le_of_ble_eq_true rfl) gm_d_Code_init_26 (fun q26 cA H hKn hP hD hS => ?_)
  have e9 := gm_sI (i := 0) (j := 4) hKn rfl rfl
  subst e9
  have hP : va_P D gm_cl [(h0, .inr (5, [.null, .ref q8, .ref q17, .null, .null, .int 0])), (q8, .inl (cI, 200, .inl (fun _ => 0))), (q17, .inl (cI, 200, .inl (fun _ => 0))), (q26, .inl (cI, 200, .inl (fun _ => 0)))] H := hP
  have hD : va_D A [(h0, .inr (5, [.null, .ref q8, .ref q17, .null, .null, .int 0])), (q8, .inl (cI, 200, .inl (fun _ => 0))), (q17, .inl (cI, 200, .inl (fun _ => 0))), (q26, .inl (cI, 200, .inl (fun _ => 0)))] := hD
  refine W.widen (k := 3) (n := 600) (Nat.le_of_ble_eq_true rfl) (Nat.le_of_ble_eq_true rfl) ?_
  refine va_putF (D := D) (ci := 5) (v := .ref q26) (ty := .array .int) (C := gm_R_Code) (T := gm_F_Code) (N := 6) hx hb hw gm_u_Code gm_t_Code gm_o_Code gm_n_Code hown hK hP hD hS 0 rfl rfl 3 (by decide) (hw _ gm_l_Code_18) (fun _ h9 => h9) rfl hin rfl (by decide +kernel) rfl rfl (Nat.le_of_ble_eq_true rfl) gm_d_Code_init_28 (fun H locs hP hD hS => ?_)
  have hP : va_P D gm_cl [(h0, .inr (5, [.null, .ref q8, .ref q17, .ref q26, .null, .int 0])), (q8, .inl (cI, 200, .inl (fun _ => 0))), (q17, .inl (cI, 200, .inl (fun _ => 0))), (q26, .inl (cI, 200, .inl (fun _ => 0)))] H := hP
  have hD : va_D A [(h0, .inr (5, [.null, .ref q8, .ref q17, .ref q26, .null, .int 0])), (q8, .inl (cI, 200, .inl (fun _ => 0))), (q17, .inl (cI, 200, .inl (fun _ => 0))), (q26, .inl (cI, 200, .inl (fun _ => 0)))] := hD
  refine lv_aload_n hx hb gm_d_Code_init_31 rfl (lv_at hl 0 rfl) ?_
  refine lv_bipush (v := 8) hx hb gm_d_Code_init_32 (by decide) ?_
  refine va_newa (atype := .int) (ty := .int) (N' := 8) (a0 := (8, .inl (fun _ => 0))) hx hb (hw _ gm_aI) rfl hK hP hD hS hA (fun _ => rfl) (by decide) (by decide) (by decide) (Nat.le_of_ble_eq_true rfl) (Nat.le_of_ble_eq_true rfl) gm_d_Code_init_34 (fun q34 cA H hKn hP hD hS => ?_)
  have e9 := gm_sI (i := 0) (j := 4) hKn rfl rfl
  subst e9
  have hP : va_P D gm_cl [(h0, .inr (5, [.null, .ref q8, .ref q17, .ref q26, .null, .int 0])), (q8, .inl (cI, 200, .inl (fun _ => 0))), (q17, .inl (cI, 200, .inl (fun _ => 0))), (q26, .inl (cI, 200, .inl (fun _ => 0))), (q34, .inl (cI, 8, .inl (fun _ => 0)))] H := hP
  have hD : va_D A [(h0, .inr (5, [.null, .ref q8, .ref q17, .ref q26, .null, .int 0])), (q8, .inl (cI, 200, .inl (fun _ => 0))), (q17, .inl (cI, 200, .inl (fun _ => 0))), (q26, .inl (cI, 200, .inl (fun _ => 0))), (q34, .inl (cI, 8, .inl (fun _ => 0)))] := hD
  refine W.widen (k := 4) (n := 608) (Nat.le_of_ble_eq_true rfl) (Nat.le_of_ble_eq_true rfl) ?_
  refine va_putF (D := D) (ci := 5) (v := .ref q34) (ty := .array .int) (C := gm_R_Code) (T := gm_F_Code) (N := 6) hx hb hw gm_u_Code gm_t_Code gm_o_Code gm_n_Code hown hK hP hD hS 0 rfl rfl 4 (by decide) (hw _ gm_l_Code_21) (fun _ h9 => h9) rfl hin rfl (by decide +kernel) rfl rfl (Nat.le_of_ble_eq_true rfl) gm_d_Code_init_36 (fun H locs hP hD hS => ?_)
  have hP : va_P D gm_cl [(h0, .inr (5, [.null, .ref q8, .ref q17, .ref q26, .ref q34, .int 0])), (q8, .inl (cI, 200, .inl (fun _ => 0))), (q17, .inl (cI, 200, .inl (fun _ => 0))), (q26, .inl (cI, 200, .inl (fun _ => 0))), (q34, .inl (cI, 8, .inl (fun _ => 0)))] H := hP
  have hD : va_D A [(h0, .inr (5, [.null, .ref q8, .ref q17, .ref q26, .ref q34, .int 0])), (q8, .inl (cI, 200, .inl (fun _ => 0))), (q17, .inl (cI, 200, .inl (fun _ => 0))), (q26, .inl (cI, 200, .inl (fun _ => 0))), (q34, .inl (cI, 8, .inl (fun _ => 0)))] := hD
  refine lv_aload_n hx hb gm_d_Code_init_39 rfl (lv_at hl 0 rfl) ?_
  refine lv_iconst (v := 0) hx hb gm_d_Code_init_40 (by decide) ?_
  refine va_put (D := D) (ci := 5) (v := .int 0) (ty := .int) (C := gm_R_Code) (T := gm_F_Code) (N := 6) hx hb hw gm_u_Code gm_t_Code gm_o_Code gm_n_Code hown hK hP hD hS 0 rfl rfl 5 (by decide) (hw _ gm_l_Code_24) (fun _ h9 => h9) rfl (by decide +kernel) rfl rfl (Nat.le_of_ble_eq_true rfl) gm_d_Code_init_41 (fun H locs hP hD hS => ?_)
  have hP : va_P D gm_cl [(h0, .inr (5, [.null, .ref q8, .ref q17, .ref q26, .ref q34, .int 0])), (q8, .inl (cI, 200, .inl (fun _ => 0))), (q17, .inl (cI, 200, .inl (fun _ => 0))), (q26, .inl (cI, 200, .inl (fun _ => 0))), (q34, .inl (cI, 8, .inl (fun _ => 0)))] H := hP
  have hD : va_D A [(h0, .inr (5, [.null, .ref q8, .ref q17, .ref q26, .ref q34, .int 0])), (q8, .inl (cI, 200, .inl (fun _ => 0))), (q17, .inl (cI, 200, .inl (fun _ => 0))), (q26, .inl (cI, 200, .inl (fun _ => 0))), (q34, .inl (cI, 8, .inl (fun _ => 0)))] := hD
  refine lv_aload_n hx hb gm_d_Code_init_44 rfl (lv_at hl 0 rfl) ?_
  refine lv_aload_n hx hb gm_d_Code_init_45 rfl (lv_at hl 1 rfl) ?_
  refine va_putF (D := D) (ci := 5) (v := .ref t0) (ty := .object "GrammarMachine$Tree") (C := gm_R_Code) (T := gm_F_Code) (N := 6) hx hb hw gm_u_Code gm_t_Code gm_o_Code gm_n_Code hown hK hP hD hS 0 rfl rfl 0 (by decide) (hw _ gm_l_Code_28) (fun _ h9 => h9) rfl hin rfl (by decide +kernel) rfl rfl (Nat.le_of_ble_eq_true rfl) gm_d_Code_init_46 (fun H locs hP hD hS => ?_)
  have hP : va_P D gm_cl [(h0, .inr (5, [.ref t0, .ref q8, .ref q17, .ref q26, .ref q34, .int 0])), (q8, .inl (cI, 200, .inl (fun _ => 0))), (q17, .inl (cI, 200, .inl (fun _ => 0))), (q26, .inl (cI, 200, .inl (fun _ => 0))), (q34, .inl (cI, 8, .inl (fun _ => 0)))] H := hP
  have hD : va_D A [(h0, .inr (5, [.ref t0, .ref q8, .ref q17, .ref q26, .ref q34, .int 0])), (q8, .inl (cI, 200, .inl (fun _ => 0))), (q17, .inl (cI, 200, .inl (fun _ => 0))), (q26, .inl (cI, 200, .inl (fun _ => 0))), (q34, .inl (cI, 8, .inl (fun _ => 0)))] := hD
  have hP9 := hP.sub (ws' := gm_oCode h0 t0 (fun k => [q8, q17, q26, q34].getD k 0) cI (fun _ _ => 0) 0) [0, 1, 2, 3, 4] rfl
  have hD9 := hD.sub (ws' := gm_oCode h0 t0 (fun k => [q8, q17, q26, q34].getD k 0) cI (fun _ _ => 0) 0) [0, 1, 2, 3, 4] (by decide) rfl
  exact W.vret hx hb hr (fun t ht hW => ⟨⟨(fun k => [q8, q17, q26, q34].getD k 0), rfl, trivial, by rw [ht]; exact hP9, va_K.moved hW.alike hK, hD9⟩, hS.F ht⟩) hS.2.2 gm_d_Code_init_49
set_option maxHeartbeats 4000000 in
set_option maxRecDepth 100000 in
theorem gm_c_Reader_init (l : Launch) (D : va_G) (cI cJ cC cZ : ClassId) (h0 x0 t0 : Nat) (sz : Nat) : Met l gm_y_Reader_init (Cond.code gm_y_Reader_init gm_b_Reader_init 3 none :: gm_W) { frames := 4, cells := 1, slots := 75, locals := 64 } (va_Pc [.ref h0, .ref x0, .ref t0] (fun U => U.heap.size = sz ∧ va_P D gm_cl [(h0, .inr (6, [.null, .null, .null, .int 0, .int 0, .int 0]))] U.heap ∧ va_K D gm_cl (gm_T cI cJ cC cZ) U ∧ va_D (fun _ => True) [(h0, .inr (6, [.null, .null, .null, .int 0, .int 0, .int 0]))])) (va_Qv (fun _ : Nat => True) (fun q t => gm_at D (va_A [(h0, .inr (6, [.null, .null, .null, .int 0, .int 0, .int 0]))] sz) (gm_oReader h0 x0 t0 q cI (fun _ => 0) 0 0 0) (gm_T cI cJ cC cZ) t) (va_A [(h0, .inr (6, [.null, .null, .null, .int 0, .int 0, .int 0]))] sz)) 1 75 (va_A [(h0, .inr (6, [.null, .null, .null, .int 0, .int 0, .int 0]))] sz) := by
  refine Met.ofW (cc := gm_b_Reader_init) (maxL := 3) (ret := none) (by decide) rfl ?_
  intro p e s m args below meth c s₁ B hml hv
  obtain ⟨rfl, hsz, hP, hK, hD0⟩ := hv
  have hx := B.exec
  have hb := B.bytes
  have hr := B.returns
  have hw : ∀ w ∈ gm_W, w.before _ s = true := fun w h => atoms_spec B.pre w (List.mem_cons_of_mem _ h)
  have hown : s.vm.findClass gm_R_Reader = some m.cls := findClass_of_methodNamed B.named
  have hin : meth.name = "<init>" := (name_of_methodNamed B.named B.method).1
  subst hsz
  have hD := hD0.self (sz := s.heap.size)
  generalize hAe : va_A [(h0, .inr (6, [.null, .null, .null, .int 0, .int 0, .int 0]))] s.heap.size = A at hD ⊢
  have hA : ∀ q : Nat, s.heap.size ≤ q → A q := fun q h => by rw [← hAe]; exact Or.inr h
  have hS : va_S A s.heap s.heap [] := va_S.rf
  have hl := lv_entry ([.ref h0, .ref x0, .ref t0]) (n := 3) (Nat.le_of_ble_eq_true rfl)
  rw [lg_entry_eq]
  generalize (lg_sl ([.ref h0, .ref x0, .ref t0]) ++ List.replicate (3 - (lg_sl ([.ref h0, .ref x0, .ref t0])).length) Slot.unset).toArray = ls at hl ⊢
  have hl : lv_has ls 3 [(0, .ref h0), (1, .ref x0), (2, .ref t0)] := hl
  refine lv_aload_n hx hb gm_d_Reader_init_0 rfl (lv_at hl 0 rfl) ?_
  refine W.objInit hx hb hown (hw _ gm_l_Reader_3) (hw _ gm_oi1) (hw _ gm_oi2) rfl (by rw [hml]; exact hl.1) rfl gm_d_Reader_init_1 (Nat.le_of_ble_eq_true rfl) (Nat.le_of_ble_eq_true rfl) ?_
  refine W.eq (g2 := F0 m 4 ls []) rfl ?_
  refine lv_aload_n hx hb gm_d_Reader_init_4 rfl (lv_at hl 0 rfl) ?_
  refine lv_bipush (v := 75) hx hb gm_d_Reader_init_5 (by decide) ?_
  refine va_newa (atype := .int) (ty := .int) (N' := 75) (a0 := (75, .inl (fun _ => 0))) hx hb (hw _ gm_aI) rfl hK hP hD hS hA (fun _ => rfl) (by decide) (by decide) (by decide) (Nat.le_of_ble_eq_true rfl) (Nat.le_of_ble_eq_true rfl) gm_d_Reader_init_7 (fun q7 cA H hKn hP hD hS => ?_)
  have e9 := gm_sI (i := 0) (j := 4) hKn rfl rfl
  subst e9
  have hP : va_P D gm_cl [(h0, .inr (6, [.null, .null, .null, .int 0, .int 0, .int 0])), (q7, .inl (cI, 75, .inl (fun _ => 0)))] H := hP
  have hD : va_D A [(h0, .inr (6, [.null, .null, .null, .int 0, .int 0, .int 0])), (q7, .inl (cI, 75, .inl (fun _ => 0)))] := hD
  refine W.widen (k := 1) (n := 75) (Nat.le_of_ble_eq_true rfl) (Nat.le_of_ble_eq_true rfl) ?_
  refine va_putF (D := D) (ci := 6) (v := .ref q7) (ty := .array .int) (C := gm_R_Reader) (T := gm_F_Reader) (N := 6) hx hb hw gm_u_Reader gm_t_Reader gm_o_Reader gm_n_Reader hown hK hP hD hS 0 rfl rfl 2 (by decide) (hw _ gm_l_Reader_9) (fun _ h9 => h9) rfl hin rfl (by decide +kernel) rfl rfl (Nat.le_of_ble_eq_true rfl) gm_d_Reader_init_9 (fun H locs hP hD hS => ?_)
  have hP : va_P D gm_cl [(h0, .inr (6, [.null, .null, .ref q7, .int 0, .int 0, .int 0])), (q7, .inl (cI, 75, .inl (fun _ => 0)))] H := hP
  have hD : va_D A [(h0, .inr (6, [.null, .null, .ref q7, .int 0, .int 0, .int 0])), (q7, .inl (cI, 75, .inl (fun _ => 0)))] := hD
  refine lv_aload_n hx hb gm_d_Reader_init_12 rfl (lv_at hl 0 rfl) ?_
  refine lv_iconst (v := 0) hx hb gm_d_Reader_init_13 (by decide) ?_
  refine va_put (D := D) (ci := 6) (v := .int 0) (ty := .int) (C := gm_R_Reader) (T := gm_F_Reader) (N := 6) hx hb hw gm_u_Reader gm_t_Reader gm_o_Reader gm_n_Reader hown hK hP hD hS 0 rfl rfl 3 (by decide) (hw _ gm_l_Reader_15) (fun _ h9 => h9) rfl (by decide +kernel) rfl rfl (Nat.le_of_ble_eq_true rfl) gm_d_Reader_init_14 (fun H locs hP hD hS => ?_)
  have hP : va_P D gm_cl [(h0, .inr (6, [.null, .null, .ref q7, .int 0, .int 0, .int 0])), (q7, .inl (cI, 75, .inl (fun _ => 0)))] H := hP
  have hD : va_D A [(h0, .inr (6, [.null, .null, .ref q7, .int 0, .int 0, .int 0])), (q7, .inl (cI, 75, .inl (fun _ => 0)))] := hD
  refine lv_aload_n hx hb gm_d_Reader_init_17 rfl (lv_at hl 0 rfl) ?_
  refine lv_iconst (v := 0) hx hb gm_d_Reader_init_18 (by decide) ?_
  refine va_put (D := D) (ci := 6) (v := .int 0) (ty := .int) (C := gm_R_Reader) (T := gm_F_Reader) (N := 6) hx hb hw gm_u_Reader gm_t_Reader gm_o_Reader gm_n_Reader hown hK hP hD hS 0 rfl rfl 4 (by decide) (hw _ gm_l_Reader_19) (fun _ h9 => h9) rfl (by decide +kernel) rfl rfl (Nat.le_of_ble_eq_true rfl) gm_d_Reader_init_19 (fun H locs hP hD hS => ?_)
  have hP : va_P D gm_cl [(h0, .inr (6, [.null, .null, .ref q7, .int 0, .int 0, .int 0])), (q7, .inl (cI, 75, .inl (fun _ => 0)))] H := hP
  have hD : va_D A [(h0, .inr (6, [.null, .null, .ref q7, .int 0, .int 0, .int 0])), (q7, .inl (cI, 75, .inl (fun _ => 0)))] := hD
  refine lv_aload_n hx hb gm_d_Reader_init_22 rfl (lv_at hl 0 rfl) ?_
  refine lv_iconst (v := 0) hx hb gm_d_Reader_init_23 (by decide) ?_
  refine va_put (D := D) (ci := 6) (v := .int 0) (ty := .boolean) (C := gm_R_Reader) (T := gm_F_Reader) (N := 6) hx hb hw gm_u_Reader gm_t_Reader gm_o_Reader gm_n_Reader hown hK hP hD hS 0 rfl rfl 5 (by decide) (hw _ gm_l_Reader_22) (fun _ h9 => h9) rfl (by decide +kernel) rfl rfl (Nat.le_of_ble_eq_true rfl) gm_d_Reader_init_24 (fun H locs hP hD hS => ?_)
  have hP : va_P D gm_cl [(h0, .inr (6, [.null, .null, .ref q7, .int 0, .int 0, .int 0])), (q7, .inl (cI, 75, .inl (fun _ => 0)))] H := hP
  have hD : va_D A [(h0, .inr (6, [.null, .null, .ref q7, .int 0, .int 0, .int 0])), (q7, .inl (cI, 75, .inl (fun _ => 0)))] := hD
  refine lv_aload_n hx hb gm_d_Reader_init_27 rfl (lv_at hl 0 rfl) ?_
  refine lv_aload_n hx hb gm_d_Reader_init_28 rfl (lv_at hl 1 rfl) ?_
  refine va_putF (D := D) (ci := 6) (v := .ref x0) (ty := .object "GrammarMachine$Row") (C := gm_R_Reader) (T := gm_F_Reader) (N := 6) hx hb hw gm_u_Reader gm_t_Reader gm_o_Reader gm_n_Reader hown hK hP hD hS 0 rfl rfl 0 (by decide) (hw _ gm_l_Reader_26) (fun _ h9 => h9) rfl hin rfl (by decide +kernel) rfl rfl (Nat.le_of_ble_eq_true rfl) gm_d_Reader_init_29 (fun H locs hP hD hS => ?_)
  have hP : va_P D gm_cl [(h0, .inr (6, [.ref x0, .null, .ref q7, .int 0, .int 0, .int 0])), (q7, .inl (cI, 75, .inl (fun _ => 0)))] H := hP
  have hD : va_D A [(h0, .inr (6, [.ref x0, .null, .ref q7, .int 0, .int 0, .int 0])), (q7, .inl (cI, 75, .inl (fun _ => 0)))] := hD
  refine lv_aload_n hx hb gm_d_Reader_init_32 rfl (lv_at hl 0 rfl) ?_
  refine lv_aload_n hx hb gm_d_Reader_init_33 rfl (lv_at hl 2 rfl) ?_
  refine va_putF (D := D) (ci := 6) (v := .ref t0) (ty := .object "GrammarMachine$Tree") (C := gm_R_Reader) (T := gm_F_Reader) (N := 6) hx hb hw gm_u_Reader gm_t_Reader gm_o_Reader gm_n_Reader hown hK hP hD hS 0 rfl rfl 1 (by decide) (hw _ gm_l_Reader_30) (fun _ h9 => h9) rfl hin rfl (by decide +kernel) rfl rfl (Nat.le_of_ble_eq_true rfl) gm_d_Reader_init_34 (fun H locs hP hD hS => ?_)
  have hP : va_P D gm_cl [(h0, .inr (6, [.ref x0, .ref t0, .ref q7, .int 0, .int 0, .int 0])), (q7, .inl (cI, 75, .inl (fun _ => 0)))] H := hP
  have hD : va_D A [(h0, .inr (6, [.ref x0, .ref t0, .ref q7, .int 0, .int 0, .int 0])), (q7, .inl (cI, 75, .inl (fun _ => 0)))] := hD
  have hP9 := hP.sub (ws' := gm_oReader h0 x0 t0 q7 cI (fun _ => 0) 0 0 0) [0, 1] rfl
  have hD9 := hD.sub (ws' := gm_oReader h0 x0 t0 q7 cI (fun _ => 0) 0 0 0) [0, 1] (by decide) rfl
  exact W.vret hx hb hr (fun t ht hW => ⟨⟨q7, rfl, trivial, by rw [ht]; exact hP9, va_K.moved hW.alike hK, hD9⟩, hS.F ht⟩) hS.2.2 gm_d_Reader_init_37
