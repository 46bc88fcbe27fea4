def gm_f_Code_operation (x : Int32) (S : gm_S × gm_S) : Int32 × (gm_S × gm_S) := (if x < 0 then (12, (S.1, S.2)) else (if (S.1.2.2 5) ≤ x then (12, (S.1, S.2)) else (((S.1.1 1) (Int32.toNatClampNeg x)), (S.1, S.2))))
def gm_p_Code_operation (x : Int32) (S : gm_S × gm_S) : Prop := ((x < 0 → True) ∧ (¬ (x < 0) → (((S.1.2.2 5) ≤ x → True) ∧ (¬ ((S.1.2.2 5) ≤ x) → (vp_in x 200 ∧ True)))))
set_option maxHeartbeats 4000000 in
set_option maxRecDepth 100000 in
theorem gm_a_Code_operation (l : Launch) (D : va_G) (cI cJ cC cZ : ClassId) (c0 : Nat) (qc : Nat → Nat) (q : Nat → Nat) (x : Int32) (S : gm_S × gm_S) (sz : Nat) (hok : gm_p_Code_operation x S) : Met l gm_y_Code_operation (Cond.code gm_y_Code_operation gm_b_Code_operation 2 (some .int) :: gm_W) { frames := 4, cells := 0, slots := 0, locals := 64 } (va_Pc [.ref c0, .int x] (fun U => U.heap.size = sz ∧ va_P D gm_cl [(c0, .inr (5, [.ref (qc 0), .ref (qc 1), .ref (qc 2), .ref (qc 3), .ref (qc 4), .int (S.1.2.2 5)])), ((qc 1), .inl (cI, 200, .inl (S.1.1 1))), ((qc 0), .inr (3, [.ref (q 0), .ref (q 1), .ref (q 2), .ref (q 3), .ref (q 4), .ref (q 5), .ref (q 6), .ref (q 7), .ref (q 8), .ref (q 9), .ref (q 10), .int (S.2.2.2 11), .int (S.2.2.2 12), .int (S.2.2.2 13)]))] U.heap ∧ va_K D gm_cl (gm_T cI cJ cC cZ) U ∧ va_D (fun _ => True) [(c0, .inr (5, [.ref (qc 0), .ref (qc 1), .ref (qc 2), .ref (qc 3), .ref (qc 4), .int (S.1.2.2 5)])), ((qc 1), .inl (cI, 200, .inl (S.1.1 1))), ((qc 0), .inr (3, [.ref (q 0), .ref (q 1), .ref (q 2), .ref (q 3), .ref (q 4), .ref (q 5), .ref (q 6), .ref (q 7), .ref (q 8), .ref (q 9), .ref (q 10), .int (S.2.2.2 11), .int (S.2.2.2 12), .int (S.2.2.2 13)]))])) (va_Qi (fun (r : Int32) (u : gm_S × gm_S) => (r, u) = gm_f_Code_operation x S) (fun u t => gm_at D (va_A [(c0, .inr (5, [.ref (qc 0), .ref (qc 1), .ref (qc 2), .ref (qc 3), .ref (qc 4), .int (S.1.2.2 5)])), ((qc 1), .inl (cI, 200, .inl (S.1.1 1))), ((qc 0), .inr (3, [.ref (q 0), .ref (q 1), .ref (q 2), .ref (q 3), .ref (q 4), .ref (q 5), .ref (q 6), .ref (q 7), .ref (q 8), .ref (q 9), .ref (q 10), .int (S.2.2.2 11), .int (S.2.2.2 12), .int (S.2.2.2 13)]))] sz) [(c0, .inr (5, [.ref (qc 0), .ref (qc 1), .ref (qc 2), .ref (qc 3), .ref (qc 4), .int (S.1.2.2 5)])), ((qc 1), .inl (cI, 200, .inl (S.1.1 1))), ((qc 0), .inr (3, [.ref (q 0), .ref (q 1), .ref (q 2), .ref (q 3), .ref (q 4), .ref (q 5), .ref (q 6), .ref (q 7), .ref (q 8), .ref (q 9), .ref (q 10), .int (S.2.2.2 11), .int (S.2.2.2 12), .int (S.2.2.2 13)]))] (gm_T cI cJ cC cZ) t) (va_A [(c0, .inr (5, [.ref (qc 0), .ref (qc 1), .ref (qc 2), .ref (qc 3), .ref (qc 4), .int (S.1.2.2 5)])), ((qc 1), .inl (cI, 200, .inl (S.1.1 1))), ((qc 0), .inr (3, [.ref (q 0), .ref (q 1), .ref (q 2), .ref (q 3), .ref (q 4), .ref (q 5), .ref (q 6), .ref (q 7), .ref (q 8), .ref (q 9), .ref (q 10), .int (S.2.2.2 11), .int (S.2.2.2 12), .int (S.2.2.2 13)]))] sz)) 0 0 (va_A [(c0, .inr (5, [.ref (qc 0), .ref (qc 1), .ref (qc 2), .ref (qc 3), .ref (qc 4), .int (S.1.2.2 5)])), ((qc 1), .inl (cI, 200, .inl (S.1.1 1))), ((qc 0), .inr (3, [.ref (q 0), .ref (q 1), .ref (q 2), .ref (q 3), .ref (q 4), .ref (q 5), .ref (q 6), .ref (q 7), .ref (q 8), .ref (q 9), .ref (q 10), .int (S.2.2.2 11), .int (S.2.2.2 12), .int (S.2.2.2 13)]))] sz) := by
  refine Met.ofW (cc := gm_b_Code_operation) (maxL := 2) (ret := (some .int)) (by decide) rfl ?_
  intro p e s m args below meth c s₁ B hml hv
  obtain ⟨rfl, hsz, hP, hK, hD0⟩ := hv
  have hx := B.exec
  have hb := B.bytes
  have hr := B.returns
  have hw : ∀ w ∈ gm_W, w.before _ s = true := fun w h => atoms_spec B.pre w (List.mem_cons_of_mem _ h)
  have hown : s.vm.findClass gm_R_Code = some m.cls := findClass_of_methodNamed B.named
  subst hsz
  have hD := hD0.self (sz := s.heap.size)
  generalize hAe : va_A [(c0, .inr (5, [.ref (qc 0), .ref (qc 1), .ref (qc 2), .ref (qc 3), .ref (qc 4), .int (S.1.2.2 5)])), ((qc 1), .inl (cI, 200, .inl (S.1.1 1))), ((qc 0), .inr (3, [.ref (q 0), .ref (q 1), .ref (q 2), .ref (q 3), .ref (q 4), .ref (q 5), .ref (q 6), .ref (q 7), .ref (q 8), .ref (q 9), .ref (q 10), .int (S.2.2.2 11), .int (S.2.2.2 12), .int (S.2.2.2 13)]))] s.heap.size = A at hD ⊢
  have hA : ∀ q : Nat, s.heap.size ≤ q → A q := fun q h => by rw [← hAe]; exact Or.inr h
  have hS : va_S A s.heap s.heap [] := va_S.rf
  have hl := lv_entry ([.ref c0, .int x]) (n := 2) (Nat.le_of_ble_eq_true rfl)
  rw [lg_entry_eq]
  generalize (lg_sl ([.ref c0, .int x]) ++ List.replicate (2 - (lg_sl ([.ref c0, .int x])).length) Slot.unset).toArray = ls at hl ⊢
  have hl : lv_has ls 2 [(0, .ref c0), (1, .int x)] := hl
  have hF := gm_f_Code_operation.eq_1 x S
  unfold gm_p_Code_operation at hok
  refine lv_iload_n hx hb gm_d_Code_operation_0 rfl (lv_at hl 1 rfl) ?_
  refine lv_if_lt (tgt := 21) hx hb gm_d_Code_operation_1 (by decide) (fun c1 => ?_) (fun c1 => ?_)
  · skip
    have hF := hF.trans (if_pos c1)
    have hok := hok.1 c1
    refine lv_bipush (v := 12) hx hb gm_d_Code_operation_21 (by decide) ?_
    exact W.iret (v := 12) hx hb hr (fun t ht hW => ⟨⟨12, (S.1, S.2), rfl, hF.symm, by rw [ht]; exact hP, va_K.moved hW.alike hK, hD⟩, hS.F ht⟩) hS.2.2 gm_d_Code_operation_23
  · skip
    have hF := hF.trans (if_neg c1)
    have hok := hok.2 c1
    refine lv_iload_n hx hb gm_d_Code_operation_4 rfl (lv_at hl 1 rfl) ?_
    refine lv_aload_n hx hb gm_d_Code_operation_5 rfl (lv_at hl 0 rfl) ?_
    refine va_get (D := D) (ci := 5) (v := .int (S.1.2.2 5)) (C := gm_R_Code) (T := gm_F_Code) (N := 6) hx hb hw gm_u_Code hown hK hP 0 rfl rfl 5 (by decide) (hw _ gm_l_Code_24) (fun _ h9 => h9) rfl gm_d_Code_operation_6 ?_
    refine lv_icmp_ge (tgt := 21) hx hb gm_d_Code_operation_9 (by decide) (fun c9 => ?_) (fun c9 => ?_)
    · skip
      have hF := hF.trans (if_pos c9)
      have hok := hok.1 c9
      refine lv_bipush (v := 12) hx hb gm_d_Code_operation_21 (by decide) ?_
      exact W.iret (v := 12) hx hb hr (fun t ht hW => ⟨⟨12, (S.1, S.2), rfl, hF.symm, by rw [ht]; exact hP, va_K.moved hW.alike hK, hD⟩, hS.F ht⟩) hS.2.2 gm_d_Code_operation_23
    · skip
      have hF := hF.trans (if_neg c9)
      have hok := hok.2 c9
      refine lv_aload_n hx hb gm_d_Code_operation_12 rfl (lv_at hl 0 rfl) ?_
      refine va_get (D := D) (ci := 5) (v := .ref (qc 1)) (C := gm_R_Code) (T := gm_F_Code) (N := 6) hx hb hw gm_u_Code hown hK hP 0 rfl rfl 1 (by decide) (hw _ gm_l_Code_9) (fun _ h9 => h9) rfl gm_d_Code_operation_13 ?_
      refine lv_iload_n hx hb gm_d_Code_operation_16 rfl (lv_at hl 1 rfl) ?_
      have i17 := hok.1
      have hok := hok.2
      refine va_iald hx hb hK hP 1 0 rfl rfl i17 gm_d_Code_operation_17 ?_
      refine lv_goto (tgt := 23) hx hb gm_d_Code_operation_18 (by decide) ?_
      exact W.iret (v := ((S.1.1 1) (Int32.toNatClampNeg x))) hx hb hr (fun t ht hW => ⟨⟨((S.1.1 1) (Int32.toNatClampNeg x)), (S.1, S.2), rfl, hF.symm, by rw [ht]; exact hP, va_K.moved hW.alike hK, hD⟩, hS.F ht⟩) hS.2.2 gm_d_Code_operation_23
def gm_f_Code_operand (x : Int32) (S : gm_S × gm_S) : Int32 × (gm_S × gm_S) := (if x < 0 then ((-1), (S.1, S.2)) else (if (S.1.2.2 5) ≤ x then ((-1), (S.1, S.2)) else (((S.1.1 2) (Int32.toNatClampNeg x)), (S.1, S.2))))
def gm_p_Code_operand (x : Int32) (S : gm_S × gm_S) : Prop := ((x < 0 → True) ∧ (¬ (x < 0) → (((S.1.2.2 5) ≤ x → True) ∧ (¬ ((S.1.2.2 5) ≤ x) → (vp_in x 200 ∧ True)))))
set_option maxHeartbeats 4000000 in
set_option maxRecDepth 100000 in
theorem gm_a_Code_operand (l : Launch) (D : va_G) (cI cJ cC cZ : ClassId) (c0 : Nat) (qc : Nat → Nat) (q : Nat → Nat) (x : Int32) (S : gm_S × gm_S) (sz : Nat) (hok : gm_p_Code_operand x S) : Met l gm_y_Code_operand (Cond.code gm_y_Code_operand gm_b_Code_operand 2 (some .int) :: gm_W) { frames := 4, cells := 0, slots := 0, locals := 64 } (va_Pc [.ref c0, .int x] (fun U => U.heap.size = sz ∧ va_P D gm_cl [(c0, .inr (5, [.ref (qc 0), .ref (qc 1), .ref (qc 2), .ref (qc 3), .ref (qc 4), .int (S.1.2.2 5)])), ((qc 2), .inl (cI, 200, .inl (S.1.1 2))), ((qc 0), .inr (3, [.ref (q 0), .ref (q 1), .ref (q 2), .ref (q 3), .ref (q 4), .ref (q 5), .ref (q 6), .ref (q 7), .ref (q 8), .ref (q 9), .ref (q 10), .int (S.2.2.2 11), .int (S.2.2.2 12), .int (S.2.2.2 13)]))] U.heap ∧ va_K D gm_cl (gm_T cI cJ cC cZ) U ∧ va_D (fun _ => True) [(c0, .inr (5, [.ref (qc 0), .ref (qc 1), .ref (qc 2), .ref (qc 3), .ref (qc 4), .int (S.1.2.2 5)])), ((qc 2), .inl (cI, 200, .inl (S.1.1 2))), ((qc 0), .inr (3, [.ref (q 0), .ref (q 1), .ref (q 2), .ref (q 3), .ref (q 4), .ref (q 5), .ref (q 6), .ref (q 7), .ref (q 8), .ref (q 9), .ref (q 10), .int (S.2.2.2 11), .int (S.2.2.2 12), .int (S.2.2.2 13)]))])) (va_Qi (fun (r : Int32) (u : gm_S × gm_S) => (r, u) = gm_f_Code_operand x S) (fun u t => gm_at D (va_A [(c0, .inr (5, [.ref (qc 0), .ref (qc 1), .ref (qc 2), .ref (qc 3), .ref (qc 4), .int (S.1.2.2 5)])), ((qc 2), .inl (cI, 200, .inl (S.1.1 2))), ((qc 0), .inr (3, [.ref (q 0), .ref (q 1), .ref (q 2), .ref (q 3), .ref (q 4), .ref (q 5), .ref (q 6), .ref (q 7), .ref (q 8), .ref (q 9), .ref (q 10), .int (S.2.2.2 11), .int (S.2.2.2 12), .int (S.2.2.2 13)]))] sz) [(c0, .inr (5, [.ref (qc 0), .ref (qc 1), .ref (qc 2), .ref (qc 3), .ref (qc 4), .int (S.1.2.2 5)])), ((qc 2), .inl (cI, 200, .inl (S.1.1 2))), ((qc 0), .inr (3, [.ref (q 0), .ref (q 1), .ref (q 2), .ref (q 3), .ref (q 4), .ref (q 5), .ref (q 6), .ref (q 7), .ref (q 8), .ref (q 9), .ref (q 10), .int (S.2.2.2 11), .int (S.2.2.2 12), .int (S.2.2.2 13)]))] (gm_T cI cJ cC cZ) t) (va_A [(c0, .inr (5, [.ref (qc 0), .ref (qc 1), .ref (qc 2), .ref (qc 3), .ref (qc 4), .int (S.1.2.2 5)])), ((qc 2), .inl (cI, 200, .inl (S.1.1 2))), ((qc 0), .inr (3, [.ref (q 0), .ref (q 1), .ref (q 2), .ref (q 3), .ref (q 4), .ref (q 5), .ref (q 6), .ref (q 7), .ref (q 8), .ref (q 9), .ref (q 10), .int (S.2.2.2 11), .int (S.2.2.2 12), .int (S.2.2.2 13)]))] sz)) 0 0 (va_A [(c0, .inr (5, [.ref (qc 0), .ref (qc 1), .ref (qc 2), .ref (qc 3), .ref (qc 4), .int (S.1.2.2 5)])), ((qc 2), .inl (cI, 200, .inl (S.1.1 2))), ((qc 0), .inr (3, [.ref (q 0), .ref (q 1), .ref (q 2), .ref (q 3), .ref (q 4), .ref (q 5), .ref (q 6), .ref (q 7), .ref (q 8), .ref (q 9), .ref (q 10), .int (S.2.2.2 11), .int (S.2.2.2 12), .int (S.2.2.2 13)]))] sz) := by
  refine Met.ofW (cc := gm_b_Code_operand) (maxL := 2) (ret := (some .int)) (by decide) rfl ?_
  intro p e s m args below meth c s₁ B hml hv
  obtain ⟨rfl, hsz, hP, hK, hD0⟩ := hv
  have hx := B.exec
  have hb := B.bytes
  have hr := B.returns
  have hw : ∀ w ∈ gm_W, w.before _ s = true := fun w h => atoms_spec B.pre w (List.mem_cons_of_mem _ h)
  have hown : s.vm.findClass gm_R_Code = some m.cls := findClass_of_methodNamed B.named
  subst hsz
  have hD := hD0.self (sz := s.heap.size)
  generalize hAe : va_A [(c0, .inr (5, [.ref (qc 0), .ref (qc 1), .ref (qc 2), .ref (qc 3), .ref (qc 4), .int (S.1.2.2 5)])), ((qc 2), .inl (cI, 200, .inl (S.1.1 2))), ((qc 0), .inr (3, [.ref (q 0), .ref (q 1), .ref (q 2), .ref (q 3), .ref (q 4), .ref (q 5), .ref (q 6), .ref (q 7), .ref (q 8), .ref (q 9), .ref (q 10), .int (S.2.2.2 11), .int (S.2.2.2 12), .int (S.2.2.2 13)]))] s.heap.size = A at hD ⊢
  have hA : ∀ q : Nat, s.heap.size ≤ q → A q := fun q h => by rw [← hAe]; exact Or.inr h
  have hS : va_S A s.heap s.heap [] := va_S.rf
  have hl := lv_entry ([.ref c0, .int x]) (n := 2) (Nat.le_of_ble_eq_true rfl)
  rw [lg_entry_eq]
  generalize (lg_sl ([.ref c0, .int x]) ++ List.replicate (2 - (lg_sl ([.ref c0, .int x])).length) Slot.unset).toArray = ls at hl ⊢
  have hl : lv_has ls 2 [(0, .ref c0), (1, .int x)] := hl
  have hF := gm_f_Code_operand.eq_1 x S
  unfold gm_p_Code_operand at hok
  refine lv_iload_n hx hb gm_d_Code_operand_0 rfl (lv_at hl 1 rfl) ?_
  refine lv_if_lt (tgt := 21) hx hb gm_d_Code_operand_1 (by decide) (fun c1 => ?_) (fun c1 => ?_)
  · skip
    have hF := hF.trans (if_pos c1)
    have hok := hok.1 c1
    refine lv_iconst (v := (-1)) hx hb gm_d_Code_operand_21 (by decide) ?_
    exact W.iret (v := (-1)) hx hb hr (fun t ht hW => ⟨⟨(-1), (S.1, S.2), rfl, hF.symm, by rw [ht]; exact hP, va_K.moved hW.alike hK, hD⟩, hS.F ht⟩) hS.2.2 gm_d_Code_operand_22
  · skip
    have hF := hF.trans (if_neg c1)
    have hok := hok.2 c1
    refine lv_iload_n hx hb gm_d_Code_operand_4 rfl (lv_at hl 1 rfl) ?_
    refine lv_aload_n hx hb gm_d_Code_operand_5 rfl (lv_at hl 0 rfl) ?_
    refine va_get (D := D) (ci := 5) (v := .int (S.1.2.2 5)) (C := gm_R_Code) (T := gm_F_Code) (N := 6) hx hb hw gm_u_Code hown hK hP 0 rfl rfl 5 (by decide) (hw _ gm_l_Code_24) (fun _ h9 => h9) rfl gm_d_Code_operand_6 ?_
    refine lv_icmp_ge (tgt := 21) hx hb gm_d_Code_operand_9 (by decide) (fun c9 => ?_) (fun c9 => ?_)
    · skip
      have hF := hF.trans (if_pos c9)
      have hok := hok.1 c9
      refine lv_iconst (v := (-1)) hx hb gm_d_Code_operand_21 (by decide) ?_
      exact W.iret (v := (-1)) hx hb hr (fun t ht hW => ⟨⟨(-1), (S.1, S.2), rfl, hF.symm, by rw [ht]; exact hP, va_K.moved hW.alike hK, hD⟩, hS.F ht⟩) hS.2.2 gm_d_Code_operand_22
    · skip
      have hF := hF.trans (if_neg c9)
      have hok := hok.2 c9
      refine lv_aload_n hx hb gm_d_Code_operand_12 rfl (lv_at hl 0 rfl) ?_
      refine va_get (D := D) (ci := 5) (v := .ref (qc 2)) (C := gm_R_Code) (T := gm_F_Code) (N := 6) hx hb hw gm_u_Code hown hK hP 0 rfl rfl 2 (by decide) (hw _ gm_l_Code_15) (fun _ h9 => h9) rfl gm_d_Code_operand_13 ?_
      refine lv_iload_n hx hb gm_d_Code_operand_16 rfl (lv_at hl 1 rfl) ?_
      have i17 := hok.1
      have hok := hok.2
      refine va_iald hx hb hK hP 1 0 rfl rfl i17 gm_d_Code_operand_17 ?_
      refine lv_goto (tgt := 22) hx hb gm_d_Code_operand_18 (by decide) ?_
      exact W.iret (v := ((S.1.1 2) (Int32.toNatClampNeg x))) hx hb hr (fun t ht hW => ⟨⟨((S.1.1 2) (Int32.toNatClampNeg x)), (S.1, S.2), rfl, hF.symm, by rw [ht]; exact hP, va_K.moved hW.alike hK, hD⟩, hS.F ht⟩) hS.2.2 gm_d_Code_operand_22
def gm_f_Code_target (x : Int32) (S : gm_S × gm_S) : Int32 × (gm_S × gm_S) := (if x < 0 then ((-1), (S.1, S.2)) else (if (S.1.2.2 5) ≤ x then ((-1), (S.1, S.2)) else (((S.1.1 3) (Int32.toNatClampNeg x)), (S.1, S.2))))
def gm_p_Code_target (x : Int32) (S : gm_S × gm_S) : Prop := ((x < 0 → True) ∧ (¬ (x < 0) → (((S.1.2.2 5) ≤ x → True) ∧ (¬ ((S.1.2.2 5) ≤ x) → (vp_in x 200 ∧ True)))))
set_option maxHeartbeats 4000000 in
set_option maxRecDepth 100000 in
theorem gm_a_Code_target (l : Launch) (D : va_G) (cI cJ cC cZ : ClassId) (c0 : Nat) (qc : Nat → Nat) (q : Nat → Nat) (x : Int32) (S : gm_S × gm_S) (sz : Nat) (hok : gm_p_Code_target x S) : Met l gm_y_Code_target (Cond.code gm_y_Code_target gm_b_Code_target 2 (some .int) :: gm_W) { frames := 4, cells := 0, slots := 0, locals := 64 } (va_Pc [.ref c0, .int x] (fun U => U.heap.size = sz ∧ va_P D gm_cl [(c0, .inr (5, [.ref (qc 0), .ref (qc 1), .ref (qc 2), .ref (qc 3), .ref (qc 4), .int (S.1.2.2 5)])), ((qc 3), .inl (cI, 200, .inl (S.1.1 3))), ((qc 0), .inr (3, [.ref (q 0), .ref (q 1), .ref (q 2), .ref (q 3), .ref (q 4), .ref (q 5), .ref (q 6), .ref (q 7), .ref (q 8), .ref (q 9), .ref (q 10), .int (S.2.2.2 11), .int (S.2.2.2 12), .int (S.2.2.2 13)]))] U.heap ∧ va_K D gm_cl (gm_T cI cJ cC cZ) U ∧ va_D (fun _ => True) [(c0, .inr (5, [.ref (qc 0), .ref (qc 1), .ref (qc 2), .ref (qc 3), .ref (qc 4), .int (S.1.2.2 5)])), ((qc 3), .inl (cI, 200, .inl (S.1.1 3))), ((qc 0), .inr (3, [.ref (q 0), .ref (q 1), .ref (q 2), .ref (q 3), .ref (q 4), .ref (q 5), .ref (q 6), .ref (q 7), .ref (q 8), .ref (q 9), .ref (q 10), .int (S.2.2.2 11), .int (S.2.2.2 12), .int (S.2.2.2 13)]))])) (va_Qi (fun (r : Int32) (u : gm_S × gm_S) => (r, u) = gm_f_Code_target x S) (fun u t => gm_at D (va_A [(c0, .inr (5, [.ref (qc 0), .ref (qc 1), .ref (qc 2), .ref (qc 3), .ref (qc 4), .int (S.1.2.2 5)])), ((qc 3), .inl (cI, 200, .inl (S.1.1 3))), ((qc 0), .inr (3, [.ref (q 0), .ref (q 1), .ref (q 2), .ref (q 3), .ref (q 4), .ref (q 5), .ref (q 6), .ref (q 7), .ref (q 8), .ref (q 9), .ref (q 10), .int (S.2.2.2 11), .int (S.2.2.2 12), .int (S.2.2.2 13)]))] sz) [(c0, .inr (5, [.ref (qc 0), .ref (qc 1), .ref (qc 2), .ref (qc 3), .ref (qc 4), .int (S.1.2.2 5)])), ((qc 3), .inl (cI, 200, .inl (S.1.1 3))), ((qc 0), .inr (3, [.ref (q 0), .ref (q 1), .ref (q 2), .ref (q 3), .ref (q 4), .ref (q 5), .ref (q 6), .ref (q 7), .ref (q 8), .ref (q 9), .ref (q 10), .int (S.2.2.2 11), .int (S.2.2.2 12), .int (S.2.2.2 13)]))] (gm_T cI cJ cC cZ) t) (va_A [(c0, .inr (5, [.ref (qc 0), .ref (qc 1), .ref (qc 2), .ref (qc 3), .ref (qc 4), .int (S.1.2.2 5)])), ((qc 3), .inl (cI, 200, .inl (S.1.1 3))), ((qc 0), .inr (3, [.ref (q 0), .ref (q 1), .ref (q 2), .ref (q 3), .ref (q 4), .ref (q 5), .ref (q 6), .ref (q 7), .ref (q 8), .ref (q 9), .ref (q 10), .int (S.2.2.2 11), .int (S.2.2.2 12), .int (S.2.2.2 13)]))] sz)) 0 0 (va_A [(c0, .inr (5, [.ref (qc 0), .ref (qc 1), .ref (qc 2), .ref (qc 3), .ref (qc 4), .int (S.1.2.2 5)])), ((qc 3), .inl (cI, 200, .inl (S.1.1 3))), ((qc 0), .inr (3, [.ref (q 0), .ref (q 1), .ref (q 2), .ref (q 3), .ref (q 4), .ref (q 5), .ref (q 6), .ref (q 7), .ref (q 8), .ref (q 9), .ref (q 10), .int (S.2.2.2 11), .int (S.2.2.2 12), .int (S.2.2.2 13)]))] sz) := by
  refine Met.ofW (cc := gm_b_Code_target) (maxL := 2) (ret := (some .int)) (by decide) rfl ?_
  intro p e s m args below meth c s₁ B hml hv
  obtain ⟨rfl, hsz, hP, hK, hD0⟩ := hv
  have hx := B.exec
  have hb := B.bytes
  have hr := B.returns
  have hw : ∀ w ∈ gm_W, w.before _ s = true := fun w h => atoms_spec B.pre w (List.mem_cons_of_mem _ h)
  have hown : s.vm.findClass gm_R_Code = some m.cls := findClass_of_methodNamed B.named
  subst hsz
  have hD := hD0.self (sz := s.heap.size)
  generalize hAe : va_A [(c0, .inr (5, [.ref (qc 0), .ref (qc 1), .ref (qc 2), .ref (qc 3), .ref (qc 4), .int (S.1.2.2 5)])), ((qc 3), .inl (cI, 200, .inl (S.1.1 3))), ((qc 0), .inr (3, [.ref (q 0), .ref (q 1), .ref (q 2), .ref (q 3), .ref (q 4), .ref (q 5), .ref (q 6), .ref (q 7), .ref (q 8), .ref (q 9), .ref (q 10), .int (S.2.2.2 11), .int (S.2.2.2 12), .int (S.2.2.2 13)]))] s.heap.size = A at hD ⊢
  have hA : ∀ q : Nat, s.heap.size ≤ q → A q := fun q h => by rw [← hAe]; exact Or.inr h
  have hS : va_S A s.heap s.heap [] := va_S.rf
  have hl := lv_entry ([.ref c0, .int x]) (n := 2) (Nat.le_of_ble_eq_true rfl)
  rw [lg_entry_eq]
  generalize (lg_sl ([.ref c0, .int x]) ++ List.replicate (2 - (lg_sl ([.ref c0, .int x])).length) Slot.unset).toArray = ls at hl ⊢
  have hl : lv_has ls 2 [(0, .ref c0), (1, .int x)] := hl
  have hF := gm_f_Code_target.eq_1 x S
  unfold gm_p_Code_target at hok
  refine lv_iload_n hx hb gm_d_Code_target_0 rfl (lv_at hl 1 rfl) ?_
  refine lv_if_lt (tgt := 21) hx hb gm_d_Code_target_1 (by decide) (fun c1 => ?_) (fun c1 => ?_)
  · skip
    have hF := hF.trans (if_pos c1)
    have hok := hok.1 c1
    refine lv_iconst (v := (-1)) hx hb gm_d_Code_target_21 (by decide) ?_
    exact W.iret (v := (-1)) hx hb hr (fun t ht hW => ⟨⟨(-1), (S.1, S.2), rfl, hF.symm, by rw [ht]; exact hP, va_K.moved hW.alike hK, hD⟩, hS.F ht⟩) hS.2.2 gm_d_Code_target_22
  · skip
    have hF := hF.trans (if_neg c1)
    have hok := hok.2 c1
    refine lv_iload_n hx hb gm_d_Code_target_4 rfl (lv_at hl 1 rfl) ?_
    refine lv_aload_n hx hb gm_d_Code_target_5 rfl (lv_at hl 0 rfl) ?_
    refine va_get (D := D) (ci := 5) (v := .int (S.1.2.2 5)) (C := gm_R_Code) (T := gm_F_Code) (N := 6) hx hb hw gm_u_Code hown hK hP 0 rfl rfl 5 (by decide) (hw _ gm_l_Code_24) (fun _ h9 => h9) rfl gm_d_Code_target_6 ?_
    refine lv_icmp_ge (tgt := 21) hx hb gm_d_Code_target_9 (by decide) (fun c9 => ?_) (fun c9 => ?_)
    · skip
      have hF := hF.trans (if_pos c9)
      have hok := hok.1 c9
      refine lv_iconst (v := (-1)) hx hb gm_d_Code_target_21 (by decide) ?_
      exact W.iret (v := (-1)) hx hb hr (fun t ht hW => ⟨⟨(-1), (S.1, S.2), rfl, hF.symm, by rw [ht]; exact hP, va_K.moved hW.alike hK, hD⟩, hS.F ht⟩) hS.2.2 gm_d_Code_target_22
    · skip
      have hF := hF.trans (if_neg c9)
      have hok := hok.2 c9
      refine lv_aload_n hx hb gm_d_Code_target_12 rfl (lv_at hl 0 rfl) ?_
      refine va_get (D := D) (ci := 5) (v := .ref (qc 3)) (C := gm_R_Code) (T := gm_F_Code) (N := 6) hx hb hw gm_u_Code hown hK hP 0 rfl rfl 3 (by decide) (hw _ gm_l_Code_18) (fun _ h9 => h9) rfl gm_d_Code_target_13 ?_
      refine lv_iload_n hx hb gm_d_Code_target_16 rfl (lv_at hl 1 rfl) ?_
      have i17 := hok.1
      have hok := hok.2
      refine va_iald hx hb hK hP 1 0 rfl rfl i17 gm_d_Code_target_17 ?_
      refine lv_goto (tgt := 22) hx hb gm_d_Code_target_18 (by decide) ?_
      exact W.iret (v := ((S.1.1 3) (Int32.toNatClampNeg x))) hx hb hr (fun t ht hW => ⟨⟨((S.1.1 3) (Int32.toNatClampNeg x)), (S.1, S.2), rfl, hF.symm, by rw [ht]; exact hP, va_K.moved hW.alike hK, hD⟩, hS.F ht⟩) hS.2.2 gm_d_Code_target_22
def gm_f_Code_start (x : Int32) (S : gm_S × gm_S) : Int32 × (gm_S × gm_S) := (if x < 0 then ((-1), (S.1, S.2)) else (if (S.2.2.2 13) ≤ x then ((-1), (S.1, S.2)) else (((S.1.1 4) (Int32.toNatClampNeg x)), (S.1, S.2))))
def gm_p_Code_start (x : Int32) (S : gm_S × gm_S) : Prop := ((x < 0 → True) ∧ (¬ (x < 0) → (((S.2.2.2 13) ≤ x → True) ∧ (¬ ((S.2.2.2 13) ≤ x) → (vp_in x 8 ∧ True)))))
set_option maxHeartbeats 4000000 in
set_option maxRecDepth 100000 in
theorem gm_a_Code_start (l : Launch) (D : va_G) (cI cJ cC cZ : ClassId) (c0 : Nat) (qc : Nat → Nat) (q : Nat → Nat) (x : Int32) (S : gm_S × gm_S) (sz : Nat) (hok : gm_p_Code_start x S) : Met l gm_y_Code_start (Cond.code gm_y_Code_start gm_b_Code_start 2 (some .int) :: gm_W) { frames := 4, cells := 0, slots := 0, locals := 64 } (va_Pc [.ref c0, .int x] (fun U => U.heap.size = sz ∧ va_P D gm_cl [(c0, .inr (5, [.ref (qc 0), .ref (qc 1), .ref (qc 2), .ref (qc 3), .ref (qc 4), .int (S.1.2.2 5)])), ((qc 4), .inl (cI, 8, .inl (S.1.1 4))), ((qc 0), .inr (3, [.ref (q 0), .ref (q 1), .ref (q 2), .ref (q 3), .ref (q 4), .ref (q 5), .ref (q 6), .ref (q 7), .ref (q 8), .ref (q 9), .ref (q 10), .int (S.2.2.2 11), .int (S.2.2.2 12), .int (S.2.2.2 13)]))] U.heap ∧ va_K D gm_cl (gm_T cI cJ cC cZ) U ∧ va_D (fun _ => True) [(c0, .inr (5, [.ref (qc 0), .ref (qc 1), .ref (qc 2), .ref (qc 3), .ref (qc 4), .int (S.1.2.2 5)])), ((qc 4), .inl (cI, 8, .inl (S.1.1 4))), ((qc 0), .inr (3, [.ref (q 0), .ref (q 1), .ref (q 2), .ref (q 3), .ref (q 4), .ref (q 5), .ref (q 6), .ref (q 7), .ref (q 8), .ref (q 9), .ref (q 10), .int (S.2.2.2 11), .int (S.2.2.2 12), .int (S.2.2.2 13)]))])) (va_Qi (fun (r : Int32) (u : gm_S × gm_S) => (r, u) = gm_f_Code_start x S) (fun u t => gm_at D (va_A [(c0, .inr (5, [.ref (qc 0), .ref (qc 1), .ref (qc 2), .ref (qc 3), .ref (qc 4), .int (S.1.2.2 5)])), ((qc 4), .inl (cI, 8, .inl (S.1.1 4))), ((qc 0), .inr (3, [.ref (q 0), .ref (q 1), .ref (q 2), .ref (q 3), .ref (q 4), .ref (q 5), .ref (q 6), .ref (q 7), .ref (q 8), .ref (q 9), .ref (q 10), .int (S.2.2.2 11), .int (S.2.2.2 12), .int (S.2.2.2 13)]))] sz) [(c0, .inr (5, [.ref (qc 0), .ref (qc 1), .ref (qc 2), .ref (qc 3), .ref (qc 4), .int (S.1.2.2 5)])), ((qc 4), .inl (cI, 8, .inl (S.1.1 4))), ((qc 0), .inr (3, [.ref (q 0), .ref (q 1), .ref (q 2), .ref (q 3), .ref (q 4), .ref (q 5), .ref (q 6), .ref (q 7), .ref (q 8), .ref (q 9), .ref (q 10), .int (S.2.2.2 11), .int (S.2.2.2 12), .int (S.2.2.2 13)]))] (gm_T cI cJ cC cZ) t) (va_A [(c0, .inr (5, [.ref (qc 0), .ref (qc 1), .ref (qc 2), .ref (qc 3), .ref (qc 4), .int (S.1.2.2 5)])), ((qc 4), .inl (cI, 8, .inl (S.1.1 4))), ((qc 0), .inr (3, [.ref (q 0), .ref (q 1), .ref (q 2), .ref (q 3), .ref (q 4), .ref (q 5), .ref (q 6), .ref (q 7), .ref (q 8), .ref (q 9), .ref (q 10), .int (S.2.2.2 11), .int (S.2.2.2 12), .int (S.2.2.2 13)]))] sz)) 0 0 (va_A [(c0, .inr (5, [.ref (qc 0), .ref (qc 1), .ref (qc 2), .ref (qc 3), .ref (qc 4), .int (S.1.2.2 5)])), ((qc 4), .inl (cI, 8, .inl (S.1.1 4))), ((qc 0), .inr (3, [.ref (q 0), .ref (q 1), .ref (q 2), .ref (q 3), .ref (q 4), .ref (q 5), .ref (q 6), .ref (q 7), .ref (q 8), .ref (q 9), .ref (q 10), .int (S.2.2.2 11), .int (S.2.2.2 12), .int (S.2.2.2 13)]))] sz) := by
  refine Met.ofW (cc := gm_b_Code_start) (maxL := 2) (ret := (some .int)) (by decide) rfl ?_
  intro p e s m args below meth c s₁ B hml hv
  obtain ⟨rfl, hsz, hP, hK, hD0⟩ := hv
  have hx := B.exec
  have hb := B.bytes
  have hr := B.returns
  have hw : ∀ w ∈ gm_W, w.before _ s = true := fun w h => atoms_spec B.pre w (List.mem_cons_of_mem _ h)
  have hown : s.vm.findClass gm_R_Code = some m.cls := findClass_of_methodNamed B.named
  subst hsz
  have hD := hD0.self (sz := s.heap.size)
  generalize hAe : va_A [(c0, .inr (5, [.ref (qc 0), .ref (qc 1), .ref (qc 2), .ref (qc 3), .ref (qc 4), .int (S.1.2.2 5)])), ((qc 4), .inl (cI, 8, .inl (S.1.1 4))), ((qc 0), .inr (3, [.ref (q 0), .ref (q 1), .ref (q 2), .ref (q 3), .ref (q 4), .ref (q 5), .ref (q 6), .ref (q 7), .ref (q 8), .ref (q 9), .ref (q 10), .int (S.2.2.2 11), .int (S.2.2.2 12), .int (S.2.2.2 13)]))] s.heap.size = A at hD ⊢
  have hA : ∀ q : Nat, s.heap.size ≤ q → A q := fun q h => by rw [← hAe]; exact Or.inr h
  have hS : va_S A s.heap s.heap [] := va_S.rf
  have hl := lv_entry ([.ref c0, .int x]) (n := 2) (Nat.le_of_ble_eq_true rfl)
  rw [lg_entry_eq]
  generalize (lg_sl ([.ref c0, .int x]) ++ List.replicate (2 - (lg_sl ([.ref c0, .int x])).length) Slot.unset).toArray = ls at hl ⊢
  have hl : lv_has ls 2 [(0, .ref c0), (1, .int x)] := hl
  have hF := gm_f_Code_start.eq_1 x S
  unfold gm_p_Code_start at hok
  refine lv_iload_n hx hb gm_d_Code_start_0 rfl (lv_at hl 1 rfl) ?_
  refine lv_if_lt (tgt := 24) hx hb gm_d_Code_start_1 (by decide) (fun c1 => ?_) (fun c1 => ?_)
  · skip
    have hF := hF.trans (if_pos c1)
    have hok := hok.1 c1
    refine lv_iconst (v := (-1)) hx hb gm_d_Code_start_24 (by decide) ?_
    exact W.iret (v := (-1)) hx hb hr (fun t ht hW => ⟨⟨(-1), (S.1, S.2), rfl, hF.symm, by rw [ht]; exact hP, va_K.moved hW.alike hK, hD⟩, hS.F ht⟩) hS.2.2 gm_d_Code_start_25
  · skip
    have hF := hF.trans (if_neg c1)
    have hok := hok.2 c1
    refine lv_iload_n hx hb gm_d_Code_start_4 rfl (lv_at hl 1 rfl) ?_
    refine lv_aload_n hx hb gm_d_Code_start_5 rfl (lv_at hl 0 rfl) ?_
    refine va_get (D := D) (ci := 5) (v := .ref (qc 0)) (C := gm_R_Code) (T := gm_F_Code) (N := 6) hx hb hw gm_u_Code hown hK hP 0 rfl rfl 0 (by decide) (hw _ gm_l_Code_28) (fun _ h9 => h9) rfl gm_d_Code_start_6 ?_
    refine va_get (D := D) (ci := 3) (v := .int (S.2.2.2 13)) (C := gm_R_Tree) (T := gm_F_Tree) (N := 14) hx hb hw gm_u_Tree hown hK hP 2 rfl rfl 13 (by decide) (hw _ gm_l_Code_32) (fun _ h9 => h9) rfl gm_d_Code_start_9 ?_
    refine lv_icmp_ge (tgt := 24) hx hb gm_d_Code_start_12 (by decide) (fun c12 => ?_) (fun c12 => ?_)
    · skip
      have hF := hF.trans (if_pos c12)
      have hok := hok.1 c12
      refine lv_iconst (v := (-1)) hx hb gm_d_Code_start_24 (by decide) ?_
      exact W.iret (v := (-1)) hx hb hr (fun t ht hW => ⟨⟨(-1), (S.1, S.2), rfl, hF.symm, by rw [ht]; exact hP, va_K.moved hW.alike hK, hD⟩, hS.F ht⟩) hS.2.2 gm_d_Code_start_25
    · skip
      have hF := hF.trans (if_neg c12)
      have hok := hok.2 c12
      refine lv_aload_n hx hb gm_d_Code_start_15 rfl (lv_at hl 0 rfl) ?_
      refine va_get (D := D) (ci := 5) (v := .ref (qc 4)) (C := gm_R_Code) (T := gm_F_Code) (N := 6) hx hb hw gm_u_Code hown hK hP 0 rfl rfl 4 (by decide) (hw _ gm_l_Code_21) (fun _ h9 => h9) rfl gm_d_Code_start_16 ?_
      refine lv_iload_n hx hb gm_d_Code_start_19 rfl (lv_at hl 1 rfl) ?_
      have i20 := hok.1
      have hok := hok.2
      refine va_iald hx hb hK hP 1 0 rfl rfl i20 gm_d_Code_start_20 ?_
      refine lv_goto (tgt := 25) hx hb gm_d_Code_start_21 (by decide) ?_
      exact W.iret (v := ((S.1.1 4) (Int32.toNatClampNeg x))) hx hb hr (fun t ht hW => ⟨⟨((S.1.1 4) (Int32.toNatClampNeg x)), (S.1, S.2), rfl, hF.symm, by rw [ht]; exact hP, va_K.moved hW.alike hK, hD⟩, hS.F ht⟩) hS.2.2 gm_d_Code_start_25
def gm_f_Code_add (x : Int32) (y : Int32) (S : gm_S × gm_S) : Int32 × (gm_S × gm_S) := (if (S.1.2.2 5) < 200 then ((((S.1.2.2 5) + 1) - 1), (((va_up (va_up (va_up S.1.1 1 (upd (S.1.1 1) (Int32.toNatClampNeg (S.1.2.2 5)) x)) 2 (upd (S.1.1 2) (Int32.toNatClampNeg (S.1.2.2 5)) y)) 3 (upd (S.1.1 3) (Int32.toNatClampNeg (S.1.2.2 5)) (-1))), S.1.2.1, (va_up S.1.2.2 5 ((S.1.2.2 5) + 1))), S.2)) else ((-1), (S.1, S.2)))
def gm_p_Code_add (x : Int32) (y : Int32) (S : gm_S × gm_S) : Prop := (((S.1.2.2 5) < 200 → (vp_in (S.1.2.2 5) 200 ∧ (vp_in (S.1.2.2 5) 200 ∧ (vp_in (S.1.2.2 5) 200 ∧ True)))) ∧ (¬ ((S.1.2.2 5) < 200) → True))
set_option maxHeartbeats 4000000 in
set_option maxRecDepth 100000 in
theorem gm_a_Code_add (l : Launch) (D : va_G) (cI cJ cC cZ : ClassId) (c0 : Nat) (qc : Nat → Nat) (q : Nat → Nat) (x : Int32) (y : Int32) (S : gm_S × gm_S) (sz : Nat) (hok : gm_p_Code_add x y S) : Met l gm_y_Code_add (Cond.code gm_y_Code_add gm_b_Code_add 3 (some .int) :: gm_W) { frames := 4, cells := 0, slots := 0, locals := 64 } (va_Pc [.ref c0, .int x, .int y] (fun U => U.heap.size = sz ∧ va_P D gm_cl [(c0, .inr (5, [.ref (qc 0), .ref (qc 1), .ref (qc 2), .ref (qc 3), .ref (qc 4), .int (S.1.2.2 5)])), ((qc 1), .inl (cI, 200, .inl (S.1.1 1))), ((qc 2), .inl (cI, 200, .inl (S.1.1 2))), ((qc 3), .inl (cI, 200, .inl (S.1.1 3))), ((qc 0), .inr (3, [.ref (q 0), .ref (q 1), .ref (q 2), .ref (q 3), .ref (q 4), .ref (q 5), .ref (q 6), .ref (q 7), .ref (q 8), .ref (q 9), .ref (q 10), .int (S.2.2.2 11), .int (S.2.2.2 12), .int (S.2.2.2 13)]))] U.heap ∧ va_K D gm_cl (gm_T cI cJ cC cZ) U ∧ va_D (fun _ => True) [(c0, .inr (5, [.ref (qc 0), .ref (qc 1), .ref (qc 2), .ref (qc 3), .ref (qc 4), .int (S.1.2.2 5)])), ((qc 1), .inl (cI, 200, .inl (S.1.1 1))), ((qc 2), .inl (cI, 200, .inl (S.1.1 2))), ((qc 3), .inl (cI, 200, .inl (S.1.1 3))), ((qc 0), .inr (3, [.ref (q 0), .ref (q 1), .ref (q 2), .ref (q 3), .ref (q 4), .ref (q 5), .ref (q 6), .ref (q 7), .ref (q 8), .ref (q 9), .ref (q 10), .int (S.2.2.2 11), .int (S.2.2.2 12), .int (S.2.2.2 13)]))])) (va_Qi (fun (r : Int32) (u : gm_S × gm_S) => (r, u) = gm_f_Code_add x y S) (fun u t => gm_at D (va_A [(c0, .inr (5, [.ref (qc 0), .ref (qc 1), .ref (qc 2), .ref (qc 3), .ref (qc 4), .int (S.1.2.2 5)])), ((qc 1), .inl (cI, 200, .inl (S.1.1 1))), ((qc 2), .inl (cI, 200, .inl (S.1.1 2))), ((qc 3), .inl (cI, 200, .inl (S.1.1 3))), ((qc 0), .inr (3, [.ref (q 0), .ref (q 1), .ref (q 2), .ref (q 3), .ref (q 4), .ref (q 5), .ref (q 6), .ref (q 7), .ref (q 8), .ref (q 9), .ref (q 10), .int (S.2.2.2 11), .int (S.2.2.2 12), .int (S.2.2.2 13)]))] sz) [(c0, .inr (5, [.ref (qc 0), .ref (qc 1), .ref (qc 2), .ref (qc 3), .ref (qc 4), .int (u.1.2.2 5)])), ((qc 1), .inl (cI, 200, .inl (u.1.1 1))), ((qc 2), .inl (cI, 200, .inl (u.1.1 2))), ((qc 3), .inl (cI, 200, .inl (u.1.1 3))), ((qc 0), .inr (3, [.ref (q 0), .ref (q 1), .ref (q 2), .ref (q 3), .ref (q 4), .ref (q 5), .ref (q 6), .ref (q 7), .ref (q 8), .ref (q 9), .ref (q 10), .int (S.2.2.2 11), .int (S.2.2.2 12), .int (S.2.2.2 13)]))] (gm_T cI cJ cC cZ) t) (va_A [(c0, .inr (5, [.ref (qc 0), .ref (qc 1), .ref (qc 2), .ref (qc 3), .ref (qc 4), .int (S.1.2.2 5)])), ((qc 1), .inl (cI, 200, .inl (S.1.1 1))), ((qc 2), .inl (cI, 200, .inl (S.1.1 2))), ((qc 3), .inl (cI, 200, .inl (S.1.1 3))), ((qc 0), .inr (3, [.ref (q 0), .ref (q 1), .ref (q 2), .ref (q 3), .ref (q 4), .ref (q 5), .ref (q 6), .ref (q 7), .ref (q 8), .ref (q 9), .ref (q 10), .int (S.2.2.2 11), .int (S.2.2.2 12), .int (S.2.2.2 13)]))] sz)) 0 0 (va_A [(c0, .inr (5, [.ref (qc 0), .ref (qc 1), .ref (qc 2), .ref (qc 3), .ref (qc 4), .int (S.1.2.2 5)])), ((qc 1), .inl (cI, 200, .inl (S.1.1 1))), ((qc 2), .inl (cI, 200, .inl (S.1.1 2))), ((qc 3), .inl (cI, 200, .inl (S.1.1 3))), ((qc 0), .inr (3, [.ref (q 0), .ref (q 1), .ref (q 2), .ref (q 3), .ref (q 4), .ref (q 5), .ref (q 6), .ref (q 7), .ref (q 8), .ref (q 9), .ref (q 10), .int (S.2.2.2 11), .int (S.2.2.2 12), .int (S.2.2.2 13)]))] sz) := by
  refine Met.ofW (cc := gm_b_Code_add) (maxL := 3) (ret := (some .int)) (by decide) rfl ?_
  intro p e s m args below meth c s₁ B hml hv
  obtain ⟨rfl, hsz, hP, hK, hD0⟩ := hv
  have hx := B.exec
  have hb := B.bytes
  have hr := B.returns
  have hw : ∀ w ∈ gm_W, w.before _ s = true := fun w h => atoms_spec B.pre w (List.mem_cons_of_mem _ h)
  have hown : s.vm.findClass gm_R_Code = some m.cls := findClass_of_methodNamed B.named
  subst hsz
  have hD := hD0.self (sz := s.heap.size)
  generalize hAe : va_A [(c0, .inr (5, [.ref (qc 0), .ref (qc 1), .ref (qc 2), .ref (qc 3), .ref (qc 4), .int (S.1.2.2 5)])), ((qc 1), .inl (cI, 200, .inl (S.1.1 1))), ((qc 2), .inl (cI, 200, .inl (S.1.1 2))), ((qc 3), .inl (cI, 200, .inl (S.1.1 3))), ((qc 0), .inr (3, [.ref (q 0), .ref (q 1), .ref (q 2), .ref (q 3), .ref (q 4), .ref (q 5), .ref (q 6), .ref (q 7), .ref (q 8), .ref (q 9), .ref (q 10), .int (S.2.2.2 11), .int (S.2.2.2 12), .int (S.2.2.2 13)]))] s.heap.size = A at hD ⊢
  have hA : ∀ q : Nat, s.heap.size ≤ q → A q := fun q h => by rw [← hAe]; exact Or.inr h
  have hS : va_S A s.heap s.heap [] := va_S.rf
  have hl := lv_entry ([.ref c0, .int x, .int y]) (n := 3) (Nat.le_of_ble_eq_true rfl)
  rw [lg_entry_eq]
  generalize (lg_sl ([.ref c0, .int x, .int y]) ++ List.replicate (3 - (lg_sl ([.ref c0, .int x, .int y])).length) Slot.unset).toArray = ls at hl ⊢
  have hl : lv_has ls 3 [(0, .ref c0), (1, .int x), (2, .int y)] := hl
  have hF := gm_f_Code_add.eq_1 x y S
  unfold gm_p_Code_add at hok
  refine lv_aload_n hx hb gm_d_Code_add_0 rfl (lv_at hl 0 rfl) ?_
  refine va_get (D := D) (ci := 5) (v := .int (S.1.2.2 5)) (C := gm_R_Code) (T := gm_F_Code) (N := 6) hx hb hw gm_u_Code hown hK hP 0 rfl rfl 5 (by decide) (hw _ gm_l_Code_24) (fun _ h9 => h9) rfl gm_d_Code_add_1 ?_
  refine lv_sipush (v := 200) hx hb gm_d_Code_add_4 (by decide) ?_
  refine lv_icmp_lt (tgt := 12) hx hb gm_d_Code_add_7 (by decide) (fun c7 => ?_) (fun c7 => ?_)
  · skip
    have hF := hF.trans (if_pos c7)
    have hok := hok.1 c7
    refine lv_aload_n hx hb gm_d_Code_add_12 rfl (lv_at hl 0 rfl) ?_
    refine va_get (D := D) (ci := 5) (v := .ref (qc 1)) (C := gm_R_Code) (T := gm_F_Code) (N := 6) hx hb hw gm_u_Code hown hK hP 0 rfl rfl 1 (by decide) (hw _ gm_l_Code_9) (fun _ h9 => h9) rfl gm_d_Code_add_13 ?_
    refine lv_aload_n hx hb gm_d_Code_add_16 rfl (lv_at hl 0 rfl) ?_
    refine va_get (D := D) (ci := 5) (v := .int (S.1.2.2 5)) (C := gm_R_Code) (T := gm_F_Code) (N := 6) hx hb hw gm_u_Code hown hK hP 0 rfl rfl 5 (by decide) (hw _ gm_l_Code_24) (fun _ h9 => h9) rfl gm_d_Code_add_17 ?_
    refine lv_iload_n hx hb gm_d_Code_add_20 rfl (lv_at hl 1 rfl) ?_
    have i21 := hok.1
    have hok := hok.2
    refine va_iast hx hb hK hP hD hS 1 0 rfl rfl i21 gm_d_Code_add_21 (fun H locs hP hD hS => ?_)
    have hP : va_P D gm_cl [(c0, .inr (5, [.ref (qc 0), .ref (qc 1), .ref (qc 2), .ref (qc 3), .ref (qc 4), .int (S.1.2.2 5)])), ((qc 1), .inl (cI, 200, .inl (upd (S.1.1 1) (Int32.toNatClampNeg (S.1.2.2 5)) x))), ((qc 2), .inl (cI, 200, .inl (S.1.1 2))), ((qc 3), .inl (cI, 200, .inl (S.1.1 3))), ((qc 0), .inr (3, [.ref (q 0), .ref (q 1), .ref (q 2), .ref (q 3), .ref (q 4), .ref (q 5), .ref (q 6), .ref (q 7), .ref (q 8), .ref (q 9), .ref (q 10), .int (S.2.2.2 11), .int (S.2.2.2 12), .int (S.2.2.2 13)]))] H := hP
    have hD : va_D A [(c0, .inr (5, [.ref (qc 0), .ref (qc 1), .ref (qc 2), .ref (qc 3), .ref (qc 4), .int (S.1.2.2 5)])), ((qc 1), .inl (cI, 200, .inl (upd (S.1.1 1) (Int32.toNatClampNeg (S.1.2.2 5)) x))), ((qc 2), .inl (cI, 200, .inl (S.1.1 2))), ((qc 3), .inl (cI, 200, .inl (S.1.1 3))), ((qc 0), .inr (3, [.ref (q 0), .ref (q 1), .ref (q 2), .ref (q 3), .ref (q 4), .ref (q 5), .ref (q 6), .ref (q 7), .ref (q 8), .ref (q 9), .ref (q 10), .int (S.2.2.2 11), .int (S.2.2.2 12), .int (S.2.2.2 13)]))] := hD
    refine lv_aload_n hx hb gm_d_Code_add_22 rfl (lv_at hl 0 rfl) ?_
    refine va_get (D := D) (ci := 5) (v := .ref (qc 2)) (C := gm_R_Code) (T := gm_F_Code) (N := 6) hx hb hw gm_u_Code hown hK hP 0 rfl rfl 2 (by decide) (hw _ gm_l_Code_15) (fun _ h9 => h9) rfl gm_d_Code_add_23 ?_
    refine lv_aload_n hx hb gm_d_Code_add_26 rfl (lv_at hl 0 rfl) ?_
    refine va_get (D := D) (ci := 5) (v := .int (S.1.2.2 5)) (C := gm_R_Code) (T := gm_F_Code) (N := 6) hx hb hw gm_u_Code hown hK hP 0 rfl rfl 5 (by decide) (hw _ gm_l_Code_24) (fun _ h9 => h9) rfl gm_d_Code_add_27 ?_
    refine lv_iload_n hx hb gm_d_Code_add_30 rfl (lv_at hl 2 rfl) ?_
    have i31 := hok.1
    have hok := hok.2
    refine va_iast hx hb hK hP hD hS 2 0 rfl rfl i31 gm_d_Code_add_31 (fun H locs hP hD hS => ?_)
    have hP : va_P D gm_cl [(c0, .inr (5, [.ref (qc 0), .ref (qc 1), .ref (qc 2), .ref (qc 3), .ref (qc 4), .int (S.1.2.2 5)])), ((qc 1), .inl (cI, 200, .inl (upd (S.1.1 1) (Int32.toNatClampNeg (S.1.2.2 5)) x))), ((qc 2), .inl (cI, 200, .inl (upd (S.1.1 2) (Int32.toNatClampNeg (S.1.2.2 5)) y))), ((qc 3), .inl (cI, 200, .inl (S.1.1 3))), ((qc 0), .inr (3, [.ref (q 0), .ref (q 1), .ref (q 2), .ref (q 3), .ref (q 4), .ref (q 5), .ref (q 6), .ref (q 7), .ref (q 8), .ref (q 9), .ref (q 10), .int (S.2.2.2 11), .int (S.2.2.2 12), .int (S.2.2.2 13)]))] H := hP
    have hD : va_D A [(c0, .inr (5, [.ref (qc 0), .ref (qc 1), .ref (qc 2), .ref (qc 3), .ref (qc 4), .int (S.1.2.2 5)])), ((qc 1), .inl (cI, 200, .inl (upd (S.1.1 1) (Int32.toNatClampNeg (S.1.2.2 5)) x))), ((qc 2), .inl (cI, 200, .inl (upd (S.1.1 2) (Int32.toNatClampNeg (S.1.2.2 5)) y))), ((qc 3), .inl (cI, 200, .inl (S.1.1 3))), ((qc 0), .inr (3, [.ref (q 0), .ref (q 1), .ref (q 2), .ref (q 3), .ref (q 4), .ref (q 5), .ref (q 6), .ref (q 7), .ref (q 8), .ref (q 9), .ref (q 10), .int (S.2.2.2 11), .int (S.2.2.2 12), .int (S.2.2.2 13)]))] := hD
    refine lv_aload_n hx hb gm_d_Code_add_32 rfl (lv_at hl 0 rfl) ?_
    refine va_get (D := D) (ci := 5) (v := .ref (qc 3)) (C := gm_R_Code) (T := gm_F_Code) (N := 6) hx hb hw gm_u_Code hown hK hP 0 rfl rfl 3 (by decide) (hw _ gm_l_Code_18) (fun _ h9 => h9) rfl gm_d_Code_add_33 ?_
    refine lv_aload_n hx hb gm_d_Code_add_36 rfl (lv_at hl 0 rfl) ?_
    refine va_get (D := D) (ci := 5) (v := .int (S.1.2.2 5)) (C := gm_R_Code) (T := gm_F_Code) (N := 6) hx hb hw gm_u_Code hown hK hP 0 rfl rfl 5 (by decide) (hw _ gm_l_Code_24) (fun _ h9 => h9) rfl gm_d_Code_add_37 ?_
    refine lv_iconst (v := (-1)) hx hb gm_d_Code_add_40 (by decide) ?_
    have i41 := hok.1
    have hok := hok.2
    refine va_iast hx hb hK hP hD hS 3 0 rfl rfl i41 gm_d_Code_add_41 (fun H locs hP hD hS => ?_)
    have hP : va_P D gm_cl [(c0, .inr (5, [.ref (qc 0), .ref (qc 1), .ref (qc 2), .ref (qc 3), .ref (qc 4), .int (S.1.2.2 5)])), ((qc 1), .inl (cI, 200, .inl (upd (S.1.1 1) (Int32.toNatClampNeg (S.1.2.2 5)) x))), ((qc 2), .inl (cI, 200, .inl (upd (S.1.1 2) (Int32.toNatClampNeg (S.1.2.2 5)) y))), ((qc 3), .inl (cI, 200, .inl (upd (S.1.1 3) (Int32.toNatClampNeg (S.1.2.2 5)) (-1)))), ((qc 0), .inr (3, [.ref (q 0), .ref (q 1), .ref (q 2), .ref (q 3), .ref (q 4), .ref (q 5), .ref (q 6), .ref (q 7), .ref (q 8), .ref (q 9), .ref (q 10), .int (S.2.2.2 11), .int (S.2.2.2 12), .int (S.2.2.2 13)]))] H := hP
    have hD : va_D A [(c0, .inr (5, [.ref (qc 0), .ref (qc 1), .ref (qc 2), .ref (qc 3), .ref (qc 4), .int (S.1.2.2 5)])), ((qc 1), .inl (cI, 200, .inl (upd (S.1.1 1) (Int32.toNatClampNeg (S.1.2.2 5)) x))), ((qc 2), .inl (cI, 200, .inl (upd (S.1.1 2) (Int32.toNatClampNeg (S.1.2.2 5)) y))), ((qc 3), .inl (cI, 200, .inl (upd (S.1.1 3) (Int32.toNatClampNeg (S.1.2.2 5)) (-1)))), ((qc 0), .inr (3, [.ref (q 0), .ref (q 1), .ref (q 2), .ref (q 3), .ref (q 4), .ref (q 5), .ref (q 6), .ref (q 7), .ref (q 8), .ref (q 9), .ref (q 10), .int (S.2.2.2 11), .int (S.2.2.2 12), .int (S.2.2.2 13)]))] := hD
    refine lv_aload_n hx hb gm_d_Code_add_42 rfl (lv_at hl 0 rfl) ?_
    refine lv_dup hx hb gm_d_Code_add_43 rfl ?_
    refine va_get (D := D) (ci := 5) (v := .int (S.1.2.2 5)) (C := gm_R_Code) (T := gm_F_Code) (N := 6) hx hb hw gm_u_Code hown hK hP 0 rfl rfl 5 (by decide) (hw _ gm_l_Code_24) (fun _ h9 => h9) rfl gm_d_Code_add_44 ?_
    refine lv_iconst (v := 1) hx hb gm_d_Code_add_47 (by decide) ?_
    refine lv_iadd hx hb gm_d_Code_add_48 ?_
    refine va_put (D := D) (ci := 5) (v := .int ((S.1.2.2 5) + 1)) (ty := .int) (C := gm_R_Code) (T := gm_F_Code) (N := 6) hx hb hw gm_u_Code gm_t_Code gm_o_Code gm_n_Code hown hK hP hD hS 0 rfl rfl 5 (by decide) (hw _ gm_l_Code_24) (fun _ h9 => h9) rfl (by decide +kernel) rfl rfl (Nat.le_of_ble_eq_true rfl) gm_d_Code_add_49 (fun H locs hP hD hS => ?_)
    have hP : va_P D gm_cl [(c0, .inr (5, [.ref (qc 0), .ref (qc 1), .ref (qc 2), .ref (qc 3), .ref (qc 4), .int ((S.1.2.2 5) + 1)])), ((qc 1), .inl (cI, 200, .inl (upd (S.1.1 1) (Int32.toNatClampNeg (S.1.2.2 5)) x))), ((qc 2), .inl (cI, 200, .inl (upd (S.1.1 2) (Int32.toNatClampNeg (S.1.2.2 5)) y))), ((qc 3), .inl (cI, 200, .inl (upd (S.1.1 3) (Int32.toNatClampNeg (S.1.2.2 5)) (-1)))), ((qc 0), .inr (3, [.ref (q 0), .ref (q 1), .ref (q 2), .ref (q 3), .ref (q 4), .ref (q 5), .ref (q 6), .ref (q 7), .ref (q 8), .ref (q 9), .ref (q 10), .int (S.2.2.2 11), .int (S.2.2.2 12), .int (S.2.2.2 13)]))] H := hP
    have hD : va_D A [(c0, .inr (5, [.ref (qc 0), .ref (qc 1), .ref (qc 2), .ref (qc 3), .ref (qc 4), .int ((S.1.2.2 5) + 1)])), ((qc 1), .inl (cI, 200, .inl (upd (S.1.1 1) (Int32.toNatClampNeg (S.1.2.2 5)) x))), ((qc 2), .inl (cI, 200, .inl (upd (S.1.1 2) (Int32.toNatClampNeg (S.1.2.2 5)) y))), ((qc 3), .inl (cI, 200, .inl (upd (S.1.1 3) (Int32.toNatClampNeg (S.1.2.2 5)) (-1)))), ((qc 0), .inr (3, [.ref (q 0), .ref (q 1), .ref (q 2), .ref (q 3), .ref (q 4), .ref (q 5), .ref (q 6), .ref (q 7), .ref (q 8), .ref (q 9), .ref (q 10), .int (S.2.2.2 11), .int (S.2.2.2 12), .int (S.2.2.2 13)]))] := hD
    have hP : va_P D gm_cl [(c0, .inr (5, [.ref (qc 0), .ref (qc 1), .ref (qc 2), .ref (qc 3), .ref (qc 4), .int ((S.1.2.2 5) + 1)])), ((qc 1), .inl (cI, 200, .inl (upd (S.1.1 1) (Int32.toNatClampNeg (S.1.2.2 5)) x))), ((qc 2), .inl (cI, 200, .inl (upd (S.1.1 2) (Int32.toNatClampNeg (S.1.2.2 5)) y))), ((qc 3), .inl (cI, 200, .inl (upd (S.1.1 3) (Int32.toNatClampNeg (S.1.2.2 5)) (-1)))), ((qc 0), .inr (3, [.ref (q 0), .ref (q 1), .ref (q 2), .ref (q 3), .ref (q 4), .ref (q 5), .ref (q 6), .ref (q 7), .ref (q 8), .ref (q 9), .ref (q 10), .int (S.2.2.2 11), .int (S.2.2.2 12), .int (S.2.2.2 13)]))] H := hP
    have hD : va_D A [(c0, .inr (5, [.ref (qc 0), .ref (qc 1), .ref (qc 2), .ref (qc 3), .ref (qc 4), .int ((S.1.2.2 5) + 1)])), ((qc 1), .inl (cI, 200, .inl (upd (S.1.1 1) (Int32.toNatClampNeg (S.1.2.2 5)) x))), ((qc 2), .inl (cI, 200, .inl (upd (S.1.1 2) (Int32.toNatClampNeg (S.1.2.2 5)) y))), ((qc 3), .inl (cI, 200, .inl (upd (S.1.1 3) (Int32.toNatClampNeg (S.1.2.2 5)) (-1)))), ((qc 0), .inr (3, [.ref (q 0), .ref (q 1), .ref (q 2), .ref (q 3), .ref (q 4), .ref (q 5), .ref (q 6), .ref (q 7), .ref (q 8), .ref (q 9), .ref (q 10), .int (S.2.2.2 11), .int (S.2.2.2 12), .int (S.2.2.2 13)]))] := hD
    refine lv_aload_n hx hb gm_d_Code_add_52 rfl (lv_at hl 0 rfl) ?_
    refine va_get (D := D) (ci := 5) (v := .int ((S.1.2.2 5) + 1)) (C := gm_R_Code) (T := gm_F_Code) (N := 6) hx hb hw gm_u_Code hown hK hP 0 rfl rfl 5 (by decide) (hw _ gm_l_Code_24) (fun _ h9 => h9) rfl gm_d_Code_add_53 ?_
    refine lv_iconst (v := 1) hx hb gm_d_Code_add_56 (by decide) ?_
    refine lv_isub hx hb gm_d_Code_add_57 ?_
    exact W.iret (v := (((S.1.2.2 5) + 1) - 1)) hx hb hr (fun t ht hW => ⟨⟨(((S.1.2.2 5) + 1) - 1), (((va_up (va_up (va_up S.1.1 1 (upd (S.1.1 1) (Int32.toNatClampNeg (S.1.2.2 5)) x)) 2 (upd (S.1.1 2) (Int32.toNatClampNeg (S.1.2.2 5)) y)) 3 (upd (S.1.1 3) (Int32.toNatClampNeg (S.1.2.2 5)) (-1))), S.1.2.1, (va_up S.1.2.2 5 ((S.1.2.2 5) + 1))), S.2), rfl, hF.symm, by rw [ht]; exact hP, va_K.moved hW.alike hK, hD⟩, hS.F ht⟩) hS.2.2 gm_d_Code_add_58
  · skip
    have hF := hF.trans (if_neg c7)
    have hok := hok.2 c7
    refine lv_iconst (v := (-1)) hx hb gm_d_Code_add_10 (by decide) ?_
    exact W.iret (v := (-1)) hx hb hr (fun t ht hW => ⟨⟨(-1), (S.1, S.2), rfl, hF.symm, by rw [ht]; exact hP, va_K.moved hW.alike hK, hD⟩, hS.F ht⟩) hS.2.2 gm_d_Code_add_11
def gm_f_Code_aim (x : Int32) (S : gm_S × gm_S) : Int32 × (gm_S × gm_S) := (if x < 0 then (0, (S.1, S.2)) else (if (S.1.2.2 5) ≤ x then (0, (S.1, S.2)) else (0, (((va_up S.1.1 3 (upd (S.1.1 3) (Int32.toNatClampNeg x) (S.1.2.2 5))), S.1.2.1, S.1.2.2), S.2))))
def gm_p_Code_aim (x : Int32) (S : gm_S × gm_S) : Prop := ((x < 0 → True) ∧ (¬ (x < 0) → (((S.1.2.2 5) ≤ x → True) ∧ (¬ ((S.1.2.2 5) ≤ x) → (vp_in x 200 ∧ True)))))
set_option maxHeartbeats 4000000 in
set_option maxRecDepth 100000 in
theorem gm_a_Code_aim (l : Launch) (D : va_G) (cI cJ cC cZ : ClassId) (c0 : Nat) (qc : Nat → Nat) (q : Nat → Nat) (x : Int32) (S : gm_S × gm_S) (sz : Nat) (hok : gm_p_Code_aim x S) : Met l gm_y_Code_aim (Cond.code gm_y_Code_aim gm_b_Code_aim 2 none :: gm_W) { frames := 4, cells := 0, slots := 0, locals := 64 } (va_Pc [.ref c0, .int x] (fun U => U.heap.size = sz ∧ va_P D gm_cl [(c0, .inr (5, [.ref (qc 0), .ref (qc 1), .ref (qc 2), .ref (qc 3), .ref (qc 4), .int (S.1.2.2 5)])), ((qc 3), .inl (cI, 200, .inl (S.1.1 3))), ((qc 0), .inr (3, [.ref (q 0), .ref (q 1), .ref (q 2), .ref (q 3), .ref (q 4), .ref (q 5), .ref (q 6), .ref (q 7), .ref (q 8), .ref (q 9), .ref (q 10), .int (S.2.2.2 11), .int (S.2.2.2 12), .int (S.2.2.2 13)]))] U.heap ∧ va_K D gm_cl (gm_T cI cJ cC cZ) U ∧ va_D (fun _ => True) [(c0, .inr (5, [.ref (qc 0), .ref (qc 1), .ref (qc 2), .ref (qc 3), .ref (qc 4), .int (S.1.2.2 5)])), ((qc 3), .inl (cI, 200, .inl (S.1.1 3))), ((qc 0), .inr (3, [.ref (q 0), .ref (q 1), .ref (q 2), .ref (q 3), .ref (q 4), .ref (q 5), .ref (q 6), .ref (q 7), .ref (q 8), .ref (q 9), .ref (q 10), .int (S.2.2.2 11), .int (S.2.2.2 12), .int (S.2.2.2 13)]))])) (va_Qv (fun u : gm_S × gm_S => (0, u) = gm_f_Code_aim x S) (fun u t => gm_at D (va_A [(c0, .inr (5, [.ref (qc 0), .ref (qc 1), .ref (qc 2), .ref (qc 3), .ref (qc 4), .int (S.1.2.2 5)])), ((qc 3), .inl (cI, 200, .inl (S.1.1 3))), ((qc 0), .inr (3, [.ref (q 0), .ref (q 1), .ref (q 2), .ref (q 3), .ref (q 4), .ref (q 5), .ref (q 6), .ref (q 7), .ref (q 8), .ref (q 9), .ref (q 10), .int (S.2.2.2 11), .int (S.2.2.2 12), .int (S.2.2.2 13)]))] sz) [(c0, .inr (5, [.ref (qc 0), .ref (qc 1), .ref (qc 2), .ref (qc 3), .ref (qc 4), .int (S.1.2.2 5)])), ((qc 3), .inl (cI, 200, .inl (u.1.1 3))), ((qc 0), .inr (3, [.ref (q 0), .ref (q 1), .ref (q 2), .ref (q 3), .ref (q 4), .ref (q 5), .ref (q 6), .ref (q 7), .ref (q 8), .ref (q 9), .ref (q 10), .int (S.2.2.2 11), .int (S.2.2.2 12), .int (S.2.2.2 13)]))] (gm_T cI cJ cC cZ) t) (va_A [(c0, .inr (5, [.ref (qc 0), .ref (qc 1), .ref (qc 2), .ref (qc 3), .ref (qc 4), .int (S.1.2.2 5)])), ((qc 3), .inl (cI, 200, .inl (S.1.1 3))), ((qc 0), .inr (3, [.ref (q 0), .ref (q 1), .ref (q 2), .ref (q 3), .ref (q 4), .ref (q 5), .ref (q 6), .ref (q 7), .ref (q 8), .ref (q 9), .ref (q 10), .int (S.2.2.2 11), .int (S.2.2.2 12), .int (S.2.2.2 13)]))] sz)) 0 0 (va_A [(c0, .inr (5, [.ref (qc 0), .ref (qc 1), .ref (qc 2), .ref (qc 3), .ref (qc 4), .int (S.1.2.2 5)])), ((qc 3), .inl (cI, 200, .inl (S.1.1 3))), ((qc 0), .inr (3, [.ref (q 0), .ref (q 1), .ref (q 2), .ref (q 3), .ref (q 4), .ref (q 5), .ref (q 6), .ref (q 7), .ref (q 8), .ref (q 9), .ref (q 10), .int (S.2.2.2 11), .int (S.2.2.2 12), .int (S.2.2.2 13)]))] sz) := by
  refine Met.ofW (cc := gm_b_Code_aim) (maxL := 2) (ret := none) (by decide) rfl ?_
  intro p e s m args below meth c s₁ B hml hv
  obtain ⟨rfl, hsz, hP, hK, hD0⟩ := hv
  have hx := B.exec
  have hb := B.bytes
  have hr := B.returns
  have hw : ∀ w ∈ gm_W, w.before _ s = true := fun w h => atoms_spec B.pre w (List.mem_cons_of_mem _ h)
  have hown : s.vm.findClass gm_R_Code = some m.cls := findClass_of_methodNamed B.named
  subst hsz
  have hD := hD0.self (sz := s.heap.size)
  generalize hAe : va_A [(c0, .inr (5, [.ref (qc 0), .ref (qc 1), .ref (qc 2), .ref (qc 3), .ref (qc 4), .int (S.1.2.2 5)])), ((qc 3), .inl (cI, 200, .inl (S.1.1 3))), ((qc 0), .inr (3, [.ref (q 0), .ref (q 1), .ref (q 2), .ref (q 3), .ref (q 4), .ref (q 5), .ref (q 6), .ref (q 7), .ref (q 8), .ref (q 9), .ref (q 10), .int (S.2.2.2 11), .int (S.2.2.2 12), .int (S.2.2.2 13)]))] s.heap.size = A at hD ⊢
  have hA : ∀ q : Nat, s.heap.size ≤ q → A q := fun q h => by rw [← hAe]; exact Or.inr h
  have hS : va_S A s.heap s.heap [] := va_S.rf
  have hl := lv_entry ([.ref c0, .int x]) (n := 2) (Nat.le_of_ble_eq_true rfl)
  rw [lg_entry_eq]
  generalize (lg_sl ([.ref c0, .int x]) ++ List.replicate (2 - (lg_sl ([.ref c0, .int x])).length) Slot.unset).toArray = ls at hl ⊢
  have hl : lv_has ls 2 [(0, .ref c0), (1, .int x)] := hl
  have hF := gm_f_Code_aim.eq_1 x S
  unfold gm_p_Code_aim at hok
  refine lv_iload_n hx hb gm_d_Code_aim_0 rfl (lv_at hl 1 rfl) ?_
  refine lv_if_lt (tgt := 22) hx hb gm_d_Code_aim_1 (by decide) (fun c1 => ?_) (fun c1 => ?_)
  · skip
    have hF := hF.trans (if_pos c1)
    have hok := hok.1 c1
    exact W.vret hx hb hr (fun t ht hW => ⟨⟨(S.1, S.2), rfl, hF.symm, by rw [ht]; exact hP, va_K.moved hW.alike hK, hD⟩, hS.F ht⟩) hS.2.2 gm_d_Code_aim_22
  · skip
    have hF := hF.trans (if_neg c1)
    have hok := hok.2 c1
    refine lv_iload_n hx hb gm_d_Code_aim_4 rfl (lv_at hl 1 rfl) ?_
    refine lv_aload_n hx hb gm_d_Code_aim_5 rfl (lv_at hl 0 rfl) ?_
    refine va_get (D := D) (ci := 5) (v := .int (S.1.2.2 5)) (C := gm_R_Code) (T := gm_F_Code) (N := 6) hx hb hw gm_u_Code hown hK hP 0 rfl rfl 5 (by decide) (hw _ gm_l_Code_24) (fun _ h9 => h9) rfl gm_d_Code_aim_6 ?_
    refine lv_icmp_ge (tgt := 22) hx hb gm_d_Code_aim_9 (by decide) (fun c9 => ?_) (fun c9 => ?_)
    · skip
      have hF := hF.trans (if_pos c9)
      have hok := hok.1 c9
      exact W.vret hx hb hr (fun t ht hW => ⟨⟨(S.1, S.2), rfl, hF.symm, by rw [ht]; exact hP, va_K.moved hW.alike hK, hD⟩, hS.F ht⟩) hS.2.2 gm_d_Code_aim_22
    · skip
      have hF := hF.trans (if_neg c9)
      have hok := hok.2 c9
      refine lv_aload_n hx hb gm_d_Code_aim_12 rfl (lv_at hl 0 rfl) ?_
      refine va_get (D := D) (ci := 5) (v := .ref (qc 3)) (C := gm_R_Code) (T := gm_F_Code) (N := 6) hx hb hw gm_u_Code hown hK hP 0 rfl rfl 3 (by decide) (hw _ gm_l_Code_18) (fun _ h9 => h9) rfl gm_d_Code_aim_13 ?_
      refine lv_iload_n hx hb gm_d_Code_aim_16 rfl (lv_at hl 1 rfl) ?_
      refine lv_aload_n hx hb gm_d_Code_aim_17 rfl (lv_at hl 0 rfl) ?_
      refine va_get (D := D) (ci := 5) (v := .int (S.1.2.2 5)) (C := gm_R_Code) (T := gm_F_Code) (N := 6) hx hb hw gm_u_Code hown hK hP 0 rfl rfl 5 (by decide) (hw _ gm_l_Code_24) (fun _ h9 => h9) rfl gm_d_Code_aim_18 ?_
      have i21 := hok.1
      have hok := hok.2
      refine va_iast hx hb hK hP hD hS 1 0 rfl rfl i21 gm_d_Code_aim_21 (fun H locs hP hD hS => ?_)
      have hP : va_P D gm_cl [(c0, .inr (5, [.ref (qc 0), .ref (qc 1), .ref (qc 2), .ref (qc 3), .ref (qc 4), .int (S.1.2.2 5)])), ((qc 3), .inl (cI, 200, .inl (upd (S.1.1 3) (Int32.toNatClampNeg x) (S.1.2.2 5)))), ((qc 0), .inr (3, [.ref (q 0), .ref (q 1), .ref (q 2), .ref (q 3), .ref (q 4), .ref (q 5), .ref (q 6), .ref (q 7), .ref (q 8), .ref (q 9), .ref (q 10), .int (S.2.2.2 11), .int (S.2.2.2 12), .int (S.2.2.2 13)]))] H := hP
      have hD : va_D A [(c0, .inr (5, [.ref (qc 0), .ref (qc 1), .ref (qc 2), .ref (qc 3), .ref (qc 4), .int (S.1.2.2 5)])), ((qc 3), .inl (cI, 200, .inl (upd (S.1.1 3) (Int32.toNatClampNeg x) (S.1.2.2 5)))), ((qc 0), .inr (3, [.ref (q 0), .ref (q 1), .ref (q 2), .ref (q 3), .ref (q 4), .ref (q 5), .ref (q 6), .ref (q 7), .ref (q 8), .ref (q 9), .ref (q 10), .int (S.2.2.2 11), .int (S.2.2.2 12), .int (S.2.2.2 13)]))] := hD
      exact W.vret hx hb hr (fun t ht hW => ⟨⟨(((va_up S.1.1 3 (upd (S.1.1 3) (Int32.toNatClampNeg x) (S.1.2.2 5))), S.1.2.1, S.1.2.2), S.2), rfl, hF.symm, by rw [ht]; exact hP, va_K.moved hW.alike hK, hD⟩, hS.F ht⟩) hS.2.2 gm_d_Code_aim_22
def gm_f_Code_writeLook (x : Int32) (S : gm_S × gm_S) : Int32 × (gm_S × gm_S) := (if ((S.2.1 5) (Int32.toNatClampNeg x)) = 0 then (gm_bd (gm_f_Code_add 1 x (S.1, S.2)) (fun r19 u19 => (r19, (((va_up (va_up (va_up S.1.1 1 (u19.1.1 1)) 2 (u19.1.1 2)) 3 (u19.1.1 3)), S.1.2.1, (va_up S.1.2.2 5 (u19.1.2.2 5))), S.2)))) else ((-1), (S.1, S.2)))
def gm_p_Code_writeLook (x : Int32) (S : gm_S × gm_S) : Prop := (vp_in x 75 ∧ ((((S.2.1 5) (Int32.toNatClampNeg x)) = 0 → (gm_p_Code_add 1 x (S.1, S.2) ∧ gm_bd (gm_f_Code_add 1 x (S.1, S.2)) (fun r19 u19 => True))) ∧ (¬ (((S.2.1 5) (Int32.toNatClampNeg x)) = 0) → True)))
set_option maxHeartbeats 4000000 in
set_option maxRecDepth 100000 in
theorem gm_a_Code_writeLook (l : Launch) (D : va_G) (cI cJ cC cZ : ClassId) (c0 : Nat) (qc : Nat → Nat) (q : Nat → Nat) (x : Int32) (S : gm_S × gm_S) (sz : Nat) (hok : gm_p_Code_writeLook x S) : Met l gm_y_Code_writeLook (Cond.code gm_y_Code_writeLook gm_b_Code_writeLook 2 (some .int) :: gm_W) { frames := 8, cells := 0, slots := 0, locals := 128 } (va_Pc [.ref c0, .int x] (fun U => U.heap.size = sz ∧ va_P D gm_cl [(c0, .inr (5, [.ref (qc 0), .ref (qc 1), .ref (qc 2), .ref (qc 3), .ref (qc 4), .int (S.1.2.2 5)])), ((qc 1), .inl (cI, 200, .inl (S.1.1 1))), ((qc 2), .inl (cI, 200, .inl (S.1.1 2))), ((qc 3), .inl (cI, 200, .inl (S.1.1 3))), ((qc 0), .inr (3, [.ref (q 0), .ref (q 1), .ref (q 2), .ref (q 3), .ref (q 4), .ref (q 5), .ref (q 6), .ref (q 7), .ref (q 8), .ref (q 9), .ref (q 10), .int (S.2.2.2 11), .int (S.2.2.2 12), .int (S.2.2.2 13)])), ((q 5), .inl (cZ, 75, .inl (S.2.1 5)))] U.heap ∧ va_K D gm_cl (gm_T cI cJ cC cZ) U ∧ va_D (fun _ => True) [(c0, .inr (5, [.ref (qc 0), .ref (qc 1), .ref (qc 2), .ref (qc 3), .ref (qc 4), .int (S.1.2.2 5)])), ((qc 1), .inl (cI, 200, .inl (S.1.1 1))), ((qc 2), .inl (cI, 200, .inl (S.1.1 2))), ((qc 3), .inl (cI, 200, .inl (S.1.1 3))), ((qc 0), .inr (3, [.ref (q 0), .ref (q 1), .ref (q 2), .ref (q 3), .ref (q 4), .ref (q 5), .ref (q 6), .ref (q 7), .ref (q 8), .ref (q 9), .ref (q 10), .int (S.2.2.2 11), .int (S.2.2.2 12), .int (S.2.2.2 13)])), ((q 5), .inl (cZ, 75, .inl (S.2.1 5)))])) (va_Qi (fun (r : Int32) (u : gm_S × gm_S) => (r, u) = gm_f_Code_writeLook x S) (fun u t => gm_at D (va_A [(c0, .inr (5, [.ref (qc 0), .ref (qc 1), .ref (qc 2), .ref (qc 3), .ref (qc 4), .int (S.1.2.2 5)])), ((qc 1), .inl (cI, 200, .inl (S.1.1 1))), ((qc 2), .inl (cI, 200, .inl (S.1.1 2))), ((qc 3), .inl (cI, 200, .inl (S.1.1 3))), ((qc 0), .inr (3, [.ref (q 0), .ref (q 1), .ref (q 2), .ref (q 3), .ref (q 4), .ref (q 5), .ref (q 6), .ref (q 7), .ref (q 8), .ref (q 9), .ref (q 10), .int (S.2.2.2 11), .int (S.2.2.2 12), .int (S.2.2.2 13)])), ((q 5), .inl (cZ, 75, .inl (S.2.1 5)))] sz) [(c0, .inr (5, [.ref (qc 0), .ref (qc 1), .ref (qc 2), .ref (qc 3), .ref (qc 4), .int (u.1.2.2 5)])), ((qc 1), .inl (cI, 200, .inl (u.1.1 1))), ((qc 2), .inl (cI, 200, .inl (u.1.1 2))), ((qc 3), .inl (cI, 200, .inl (u.1.1 3))), ((qc 0), .inr (3, [.ref (q 0), .ref (q 1), .ref (q 2), .ref (q 3), .ref (q 4), .ref (q 5), .ref (q 6), .ref (q 7), .ref (q 8), .ref (q 9), .ref (q 10), .int (S.2.2.2 11), .int (S.2.2.2 12), .int (S.2.2.2 13)])), ((q 5), .inl (cZ, 75, .inl (S.2.1 5)))] (gm_T cI cJ cC cZ) t) (va_A [(c0, .inr (5, [.ref (qc 0), .ref (qc 1), .ref (qc 2), .ref (qc 3), .ref (qc 4), .int (S.1.2.2 5)])), ((qc 1), .inl (cI, 200, .inl (S.1.1 1))), ((qc 2), .inl (cI, 200, .inl (S.1.1 2))), ((qc 3), .inl (cI, 200, .inl (S.1.1 3))), ((qc 0), .inr (3, [.ref (q 0), .ref (q 1), .ref (q 2), .ref (q 3), .ref (q 4), .ref (q 5), .ref (q 6), .ref (q 7), .ref (q 8), .ref (q 9), .ref (q 10), .int (S.2.2.2 11), .int (S.2.2.2 12), .int (S.2.2.2 13)])), ((q 5), .inl (cZ, 75, .inl (S.2.1 5)))] sz)) 0 0 (va_A [(c0, .inr (5, [.ref (qc 0), .ref (qc 1), .ref (qc 2), .ref (qc 3), .ref (qc 4), .int (S.1.2.2 5)])), ((qc 1), .inl (cI, 200, .inl (S.1.1 1))), ((qc 2), .inl (cI, 200, .inl (S.1.1 2))), ((qc 3), .inl (cI, 200, .inl (S.1.1 3))), ((qc 0), .inr (3, [.ref (q 0), .ref (q 1), .ref (q 2), .ref (q 3), .ref (q 4), .ref (q 5), .ref (q 6), .ref (q 7), .ref (q 8), .ref (q 9), .ref (q 10), .int (S.2.2.2 11), .int (S.2.2.2 12), .int (S.2.2.2 13)])), ((q 5), .inl (cZ, 75, .inl (S.2.1 5)))] sz) := by
  refine Met.ofW (cc := gm_b_Code_writeLook) (maxL := 2) (ret := (some .int)) (by decide) rfl ?_
  intro p e s m args below meth c s₁ B hml hv
  obtain ⟨rfl, hsz, hP, hK, hD0⟩ := hv
  have hx := B.exec
  have hb := B.bytes
  have hr := B.returns
  have hw : ∀ w ∈ gm_W, w.before _ s = true := fun w h => atoms_spec B.pre w (List.mem_cons_of_mem _ h)
  have hown : s.vm.findClass gm_R_Code = some m.cls := findClass_of_methodNamed B.named
  subst hsz
  have hD := hD0.self (sz := s.heap.size)
  generalize hAe : va_A [(c0, .inr (5, [.ref (qc 0), .ref (qc 1), .ref (qc 2), .ref (qc 3), .ref (qc 4), .int (S.1.2.2 5)])), ((qc 1), .inl (cI, 200, .inl (S.1.1 1))), ((qc 2), .inl (cI, 200, .inl (S.1.1 2))), ((qc 3), .inl (cI, 200, .inl (S.1.1 3))), ((qc 0), .inr (3, [.ref (q 0), .ref (q 1), .ref (q 2), .ref (q 3), .ref (q 4), .ref (q 5), .ref (q 6), .ref (q 7), .ref (q 8), .ref (q 9), .ref (q 10), .int (S.2.2.2 11), .int (S.2.2.2 12), .int (S.2.2.2 13)])), ((q 5), .inl (cZ, 75, .inl (S.2.1 5)))] s.heap.size = A at hD ⊢
  have hA : ∀ q : Nat, s.heap.size ≤ q → A q := fun q h => by rw [← hAe]; exact Or.inr h
  have hS : va_S A s.heap s.heap [] := va_S.rf
  have hl := lv_entry ([.ref c0, .int x]) (n := 2) (Nat.le_of_ble_eq_true rfl)
  rw [lg_entry_eq]
  generalize (lg_sl ([.ref c0, .int x]) ++ List.replicate (2 - (lg_sl ([.ref c0, .int x])).length) Slot.unset).toArray = ls at hl ⊢
  have hl : lv_has ls 2 [(0, .ref c0), (1, .int x)] := hl
  have hF := gm_f_Code_writeLook.eq_1 x S
  unfold gm_p_Code_writeLook at hok
  refine lv_aload_n hx hb gm_d_Code_writeLook_0 rfl (lv_at hl 0 rfl) ?_
  refine va_get (D := D) (ci := 5) (v := .ref (qc 0)) (C := gm_R_Code) (T := gm_F_Code) (N := 6) hx hb hw gm_u_Code hown hK hP 0 rfl rfl 0 (by decide) (hw _ gm_l_Code_28) (fun _ h9 => h9) rfl gm_d_Code_writeLook_1 ?_
  refine va_get (D := D) (ci := 3) (v := .ref (q 5)) (C := gm_R_Tree) (T := gm_F_Tree) (N := 14) hx hb hw gm_u_Tree hown hK hP 4 rfl rfl 5 (by decide) (hw _ gm_l_Code_100) (fun _ h9 => h9) rfl gm_d_Code_writeLook_4 ?_
  refine lv_iload_n hx hb gm_d_Code_writeLook_7 rfl (lv_at hl 1 rfl) ?_
  have i8 := hok.1
  have hok := hok.2
  refine va_zald hx hb hK hP 5 3 rfl rfl i8 gm_d_Code_writeLook_8 ?_
  refine lv_if_eq (tgt := 16) hx hb gm_d_Code_writeLook_9 (by decide) (fun c9 => ?_) (fun c9 => ?_)
  · skip
    have hF := hF.trans (if_pos c9)
    have hok := hok.1 c9
    refine lv_aload_n hx hb gm_d_Code_writeLook_16 rfl (lv_at hl 0 rfl) ?_
    refine lv_iconst (v := 1) hx hb gm_d_Code_writeLook_17 (by decide) ?_
    refine lv_iload_n hx hb gm_d_Code_writeLook_18 rfl (lv_at hl 1 rfl) ?_
    have hPc := hP.sub (ws' := [(c0, .inr (5, [.ref (qc 0), .ref (qc 1), .ref (qc 2), .ref (qc 3), .ref (qc 4), .int (S.1.2.2 5)])), ((qc 1), .inl (cI, 200, .inl (S.1.1 1))), ((qc 2), .inl (cI, 200, .inl (S.1.1 2))), ((qc 3), .inl (cI, 200, .inl (S.1.1 3))), ((qc 0), .inr (3, [.ref (q 0), .ref (q 1), .ref (q 2), .ref (q 3), .ref (q 4), .ref (q 5), .ref (q 6), .ref (q 7), .ref (q 8), .ref (q 9), .ref (q 10), .int (S.2.2.2 11), .int (S.2.2.2 12), .int (S.2.2.2 13)]))]) [0, 1, 2, 3, 4] rfl
    have hDc := hD.sub (ws' := [(c0, .inr (5, [.ref (qc 0), .ref (qc 1), .ref (qc 2), .ref (qc 3), .ref (qc 4), .int (S.1.2.2 5)])), ((qc 1), .inl (cI, 200, .inl (S.1.1 1))), ((qc 2), .inl (cI, 200, .inl (S.1.1 2))), ((qc 3), .inl (cI, 200, .inl (S.1.1 3))), ((qc 0), .inr (3, [.ref (q 0), .ref (q 1), .ref (q 2), .ref (q 3), .ref (q 4), .ref (q 5), .ref (q 6), .ref (q 7), .ref (q 8), .ref (q 9), .ref (q 10), .int (S.2.2.2 11), .int (S.2.2.2 12), .int (S.2.2.2 13)]))]) [0, 1, 2, 3, 4] (by decide) rfl
    have hFc := va_free (wc := [(c0, .inr (5, [.ref (qc 0), .ref (qc 1), .ref (qc 2), .ref (qc 3), .ref (qc 4), .int (S.1.2.2 5)])), ((qc 1), .inl (cI, 200, .inl (S.1.1 1))), ((qc 2), .inl (cI, 200, .inl (S.1.1 2))), ((qc 3), .inl (cI, 200, .inl (S.1.1 3))), ((qc 0), .inr (3, [.ref (q 0), .ref (q 1), .ref (q 2), .ref (q 3), .ref (q 4), .ref (q 5), .ref (q 6), .ref (q 7), .ref (q 8), .ref (q 9), .ref (q 10), .int (S.2.2.2 11), .int (S.2.2.2 12), .int (S.2.2.2 13)]))]) hD hS hA [0, 1, 2, 3, 4] rfl
    refine va_calli (va_runV (As := [.int 1, .int x]) (rest := []) ⟨hx, hb, hml, hown, hw⟩ (gm_a_Code_add l D cI cJ cC cZ c0 qc q  1 x (S.1, S.2) s.heap.size  hok.1) (cwV 2 hw (gm_gV gm_l_Code_37 gm_q_Code_add gm_s_Code_add gm_i_Code (gm_gd gm_k_Code_add)) rfl rfl rfl (by decide +kernel) ⟨Nat.le_of_ble_eq_true rfl, Nat.le_of_ble_eq_true rfl⟩) ⟨fun a U g mk q => by obtain ⟨q0, q1, qP, qK, qD⟩ := q; exact ⟨q0, q1, qP, va_K.moved (u := U) (U := U.calling g mk a) (Vm.Alike.refl U.vm) qK, qD⟩, va_recv hK hP (ci := 5) rfl (q0 := 0) rfl, fun U hU hW => ⟨rfl, by rw [hU], by rw [hU]; exact hPc, va_K.moved hW.alike hK, hDc.weaken (fun _ _ _ _ => trivial)⟩⟩ rfl rfl hl.1 rfl (lv_room (Nat.le_of_ble_eq_true rfl)) gm_d_Code_writeLook_19 ⟨Nat.le_of_ble_eq_true rfl, Nat.le_of_ble_eq_true rfl⟩) hS (fun q _ h => hFc q h) hFc (fun r19 u19 t H1 locs ht hvm h19 hB hz1 hk1 hS => ?_)
    obtain ⟨hP1, -, hD1⟩ := hB
    rw [ht] at hP1
    have hP1 : va_P D gm_cl [(c0, .inr (5, [.ref (qc 0), .ref (qc 1), .ref (qc 2), .ref (qc 3), .ref (qc 4), .int (u19.1.2.2 5)])), ((qc 1), .inl (cI, 200, .inl (u19.1.1 1))), ((qc 2), .inl (cI, 200, .inl (u19.1.1 2))), ((qc 3), .inl (cI, 200, .inl (u19.1.1 3))), ((qc 0), .inr (3, [.ref (q 0), .ref (q 1), .ref (q 2), .ref (q 3), .ref (q 4), .ref (q 5), .ref (q 6), .ref (q 7), .ref (q 8), .ref (q 9), .ref (q 10), .int (S.2.2.2 11), .int (S.2.2.2 12), .int (S.2.2.2 13)]))] H1 := hP1
    have hD1 : va_D (va_A [(c0, .inr (5, [.ref (qc 0), .ref (qc 1), .ref (qc 2), .ref (qc 3), .ref (qc 4), .int (S.1.2.2 5)])), ((qc 1), .inl (cI, 200, .inl (S.1.1 1))), ((qc 2), .inl (cI, 200, .inl (S.1.1 2))), ((qc 3), .inl (cI, 200, .inl (S.1.1 3))), ((qc 0), .inr (3, [.ref (q 0), .ref (q 1), .ref (q 2), .ref (q 3), .ref (q 4), .ref (q 5), .ref (q 6), .ref (q 7), .ref (q 8), .ref (q 9), .ref (q 10), .int (S.2.2.2 11), .int (S.2.2.2 12), .int (S.2.2.2 13)]))] s.heap.size) [(c0, .inr (5, [.ref (qc 0), .ref (qc 1), .ref (qc 2), .ref (qc 3), .ref (qc 4), .int (u19.1.2.2 5)])), ((qc 1), .inl (cI, 200, .inl (u19.1.1 1))), ((qc 2), .inl (cI, 200, .inl (u19.1.1 2))), ((qc 3), .inl (cI, 200, .inl (u19.1.1 3))), ((qc 0), .inr (3, [.ref (q 0), .ref (q 1), .ref (q 2), .ref (q 3), .ref (q 4), .ref (q 5), .ref (q 6), .ref (q 7), .ref (q 8), .ref (q 9), .ref (q 10), .int (S.2.2.2 11), .int (S.2.2.2 12), .int (S.2.2.2 13)]))] := hD1
    obtain ⟨hP, hD⟩ := va_join (wr := [((q 5), .inl (cZ, 75, .inl (S.2.1 5)))]) hP hD [0, 1, 2, 3, 4] [5] rfl rfl (by decide) (by decide) hk1 hFc hP1 hD1
    generalize H1 = H at hP hS ⊢
    have hP : va_P D gm_cl [((q 5), .inl (cZ, 75, .inl (S.2.1 5))), (c0, .inr (5, [.ref (qc 0), .ref (qc 1), .ref (qc 2), .ref (qc 3), .ref (qc 4), .int (u19.1.2.2 5)])), ((qc 1), .inl (cI, 200, .inl (u19.1.1 1))), ((qc 2), .inl (cI, 200, .inl (u19.1.1 2))), ((qc 3), .inl (cI, 200, .inl (u19.1.1 3))), ((qc 0), .inr (3, [.ref (q 0), .ref (q 1), .ref (q 2), .ref (q 3), .ref (q 4), .ref (q 5), .ref (q 6), .ref (q 7), .ref (q 8), .ref (q 9), .ref (q 10), .int (S.2.2.2 11), .int (S.2.2.2 12), .int (S.2.2.2 13)]))] H := hP
    have hD : va_D A [((q 5), .inl (cZ, 75, .inl (S.2.1 5))), (c0, .inr (5, [.ref (qc 0), .ref (qc 1), .ref (qc 2), .ref (qc 3), .ref (qc 4), .int (u19.1.2.2 5)])), ((qc 1), .inl (cI, 200, .inl (u19.1.1 1))), ((qc 2), .inl (cI, 200, .inl (u19.1.1 2))), ((qc 3), .inl (cI, 200, .inl (u19.1.1 3))), ((qc 0), .inr (3, [.ref (q 0), .ref (q 1), .ref (q 2), .ref (q 3), .ref (q 4), .ref (q 5), .ref (q 6), .ref (q 7), .ref (q 8), .ref (q 9), .ref (q 10), .int (S.2.2.2 11), .int (S.2.2.2 12), .int (S.2.2.2 13)]))] := hD
    have hP := hP.sub (ws' := [(c0, .inr (5, [.ref (qc 0), .ref (qc 1), .ref (qc 2), .ref (qc 3), .ref (qc 4), .int (u19.1.2.2 5)])), ((qc 1), .inl (cI, 200, .inl (u19.1.1 1))), ((qc 2), .inl (cI, 200, .inl (u19.1.1 2))), ((qc 3), .inl (cI, 200, .inl (u19.1.1 3))), ((qc 0), .inr (3, [.ref (q 0), .ref (q 1), .ref (q 2), .ref (q 3), .ref (q 4), .ref (q 5), .ref (q 6), .ref (q 7), .ref (q 8), .ref (q 9), .ref (q 10), .int (S.2.2.2 11), .int (S.2.2.2 12), .int (S.2.2.2 13)])), ((q 5), .inl (cZ, 75, .inl (S.2.1 5)))]) [1, 2, 3, 4, 5, 0] rfl
    have hD := hD.sub (ws' := [(c0, .inr (5, [.ref (qc 0), .ref (qc 1), .ref (qc 2), .ref (qc 3), .ref (qc 4), .int (u19.1.2.2 5)])), ((qc 1), .inl (cI, 200, .inl (u19.1.1 1))), ((qc 2), .inl (cI, 200, .inl (u19.1.1 2))), ((qc 3), .inl (cI, 200, .inl (u19.1.1 3))), ((qc 0), .inr (3, [.ref (q 0), .ref (q 1), .ref (q 2), .ref (q 3), .ref (q 4), .ref (q 5), .ref (q 6), .ref (q 7), .ref (q 8), .ref (q 9), .ref (q 10), .int (S.2.2.2 11), .int (S.2.2.2 12), .int (S.2.2.2 13)])), ((q 5), .inl (cZ, 75, .inl (S.2.1 5)))]) [1, 2, 3, 4, 5, 0] (by decide) rfl
    have hF := hF.trans (gm_bd_eq h19)
    have hok := gm_bd_ok h19 hok.2
    exact W.iret (v := r19) hx hb hr (fun t ht hW => ⟨⟨r19, (((va_up (va_up (va_up S.1.1 1 (u19.1.1 1)) 2 (u19.1.1 2)) 3 (u19.1.1 3)), S.1.2.1, (va_up S.1.2.2 5 (u19.1.2.2 5))), S.2), rfl, hF.symm, by rw [ht]; exact hP, va_K.moved hW.alike hK, hD⟩, hS.F ht⟩) hS.2.2 gm_d_Code_writeLook_22
  · skip
    have hF := hF.trans (if_neg c9)
    have hok := hok.2 c9
    refine lv_iconst (v := (-1)) hx hb gm_d_Code_writeLook_12 (by decide) ?_
    refine lv_goto (tgt := 22) hx hb gm_d_Code_writeLook_13 (by decide) ?_
    exact W.iret (v := (-1)) hx hb hr (fun t ht hW => ⟨⟨(-1), (S.1, S.2), rfl, hF.symm, by rw [ht]; exact hP, va_K.moved hW.alike hK, hD⟩, hS.F ht⟩) hS.2.2 gm_d_Code_writeLook_22
def gm_f_Code_aimCommitsFrom_2 (x : Int32) (S : gm_S × gm_S) : Nat → Int32 → gm_S × gm_S → Int32 × (gm_S × gm_S)
  | 0, _, S_2 => (0, S_2)
  | n2 + 1, v2_2, S_2 => (if (S.1.2.2 5) ≤ v2_2 then (0, (((va_up S.1.1 3 (S_2.1.1 3)), S.1.2.1, S.1.2.2), S.2)) else (if ((S.1.1 1) (Int32.toNatClampNeg v2_2)) = 5 then (if ((S_2.1.1 3) (Int32.toNatClampNeg v2_2)) = (-1) then (gm_bd (gm_f_Code_aim v2_2 (((va_up S.1.1 3 (S_2.1.1 3)), S.1.2.1, S.1.2.2), S.2)) (fun _ u32 => (gm_f_Code_aimCommitsFrom_2 x S n2 (v2_2 + 1) (((va_up S.1.1 3 (u32.1.1 3)), S.1.2.1, S.1.2.2), S.2)))) else (gm_f_Code_aimCommitsFrom_2 x S n2 (v2_2 + 1) (((va_up S.1.1 3 (S_2.1.1 3)), S.1.2.1, S.1.2.2), S.2))) else (gm_f_Code_aimCommitsFrom_2 x S n2 (v2_2 + 1) (((va_up S.1.1 3 (S_2.1.1 3)), S.1.2.1, S.1.2.2), S.2))))
def gm_p_Code_aimCommitsFrom_2 (x : Int32) (S : gm_S × gm_S) : Nat → Int32 → gm_S × gm_S → Prop
  | 0, _, _ => False
  | n2 + 1, v2_2, S_2 => (((S.1.2.2 5) ≤ v2_2 → True) ∧ (¬ ((S.1.2.2 5) ≤ v2_2) → (vp_in v2_2 200 ∧ ((((S.1.1 1) (Int32.toNatClampNeg v2_2)) = 5 → (vp_in v2_2 200 ∧ ((((S_2.1.1 3) (Int32.toNatClampNeg v2_2)) = (-1) → (gm_p_Code_aim v2_2 (((va_up S.1.1 3 (S_2.1.1 3)), S.1.2.1, S.1.2.2), S.2) ∧ gm_bd (gm_f_Code_aim v2_2 (((va_up S.1.1 3 (S_2.1.1 3)), S.1.2.1, S.1.2.2), S.2)) (fun _ u32 => (gm_p_Code_aimCommitsFrom_2 x S n2 (v2_2 + 1) (((va_up S.1.1 3 (u32.1.1 3)), S.1.2.1, S.1.2.2), S.2))))) ∧ (¬ (((S_2.1.1 3) (Int32.toNatClampNeg v2_2)) = (-1)) → (gm_p_Code_aimCommitsFrom_2 x S n2 (v2_2 + 1) (((va_up S.1.1 3 (S_2.1.1 3)), S.1.2.1, S.1.2.2), S.2)))))) ∧ (¬ (((S.1.1 1) (Int32.toNatClampNeg v2_2)) = 5) → (gm_p_Code_aimCommitsFrom_2 x S n2 (v2_2 + 1) (((va_up S.1.1 3 (S_2.1.1 3)), S.1.2.1, S.1.2.2), S.2)))))))
def gm_f_Code_aimCommitsFrom (x : Int32) (S : gm_S × gm_S) : Int32 × (gm_S × gm_S) := (gm_f_Code_aimCommitsFrom_2 x S 300 x (S.1, S.2))
def gm_p_Code_aimCommitsFrom (x : Int32) (S : gm_S × gm_S) : Prop := (gm_p_Code_aimCommitsFrom_2 x S 300 x (S.1, S.2))
set_option maxHeartbeats 4000000 in
set_option maxRecDepth 100000 in
theorem gm_a_Code_aimCommitsFrom (l : Launch) (D : va_G) (cI cJ cC cZ : ClassId) (c0 : Nat) (qc : Nat → Nat) (q : Nat → Nat) (x : Int32) (S : gm_S × gm_S) (sz : Nat) (hok : gm_p_Code_aimCommitsFrom x S) : Met l gm_y_Code_aimCommitsFrom (Cond.code gm_y_Code_aimCommitsFrom gm_b_Code_aimCommitsFrom 3 none :: gm_W) { frames := 8, cells := 0, slots := 0, locals := 128 } (va_Pc [.ref c0, .int x] (fun U => U.heap.size = sz ∧ va_P D gm_cl [(c0, .inr (5, [.ref (qc 0), .ref (qc 1), .ref (qc 2), .ref (qc 3), .ref (qc 4), .int (S.1.2.2 5)])), ((qc 1), .inl (cI, 200, .inl (S.1.1 1))), ((qc 3), .inl (cI, 200, .inl (S.1.1 3))), ((qc 0), .inr (3, [.ref (q 0), .ref (q 1), .ref (q 2), .ref (q 3), .ref (q 4), .ref (q 5), .ref (q 6), .ref (q 7), .ref (q 8), .ref (q 9), .ref (q 10), .int (S.2.2.2 11), .int (S.2.2.2 12), .int (S.2.2.2 13)]))] U.heap ∧ va_K D gm_cl (gm_T cI cJ cC cZ) U ∧ va_D (fun _ => True) [(c0, .inr (5, [.ref (qc 0), .ref (qc 1), .ref (qc 2), .ref (qc 3), .ref (qc 4), .int (S.1.2.2 5)])), ((qc 1), .inl (cI, 200, .inl (S.1.1 1))), ((qc 3), .inl (cI, 200, .inl (S.1.1 3))), ((qc 0), .inr (3, [.ref (q 0), .ref (q 1), .ref (q 2), .ref (q 3), .ref (q 4), .ref (q 5), .ref (q 6), .ref (q 7), .ref (q 8), .ref (q 9), .ref (q 10), .int (S.2.2.2 11), .int (S.2.2.2 12), .int (S.2.2.2 13)]))])) (va_Qv (fun u : gm_S × gm_S => (0, u) = gm_f_Code_aimCommitsFrom x S) (fun u t => gm_at D (va_A [(c0, .inr (5, [.ref (qc 0), .ref (qc 1), .ref (qc 2), .ref (qc 3), .ref (qc 4), .int (S.1.2.2 5)])), ((qc 1), .inl (cI, 200, .inl (S.1.1 1))), ((qc 3), .inl (cI, 200, .inl (S.1.1 3))), ((qc 0), .inr (3, [.ref (q 0), .ref (q 1), .ref (q 2), .ref (q 3), .ref (q 4), .ref (q 5), .ref (q 6), .ref (q 7), .ref (q 8), .ref (q 9), .ref (q 10), .int (S.2.2.2 11), .int (S.2.2.2 12), .int (S.2.2.2 13)]))] sz) [(c0, .inr (5, [.ref (qc 0), .ref (qc 1), .ref (qc 2), .ref (qc 3), .ref (qc 4), .int (S.1.2.2 5)])), ((qc 1), .inl (cI, 200, .inl (S.1.1 1))), ((qc 3), .inl (cI, 200, .inl (u.1.1 3))), ((qc 0), .inr (3, [.ref (q 0), .ref (q 1), .ref (q 2), .ref (q 3), .ref (q 4), .ref (q 5), .ref (q 6), .ref (q 7), .ref (q 8), .ref (q 9), .ref (q 10), .int (S.2.2.2 11), .int (S.2.2.2 12), .int (S.2.2.2 13)]))] (gm_T cI cJ cC cZ) t) (va_A [(c0, .inr (5, [.ref (qc 0), .ref (qc 1), .ref (qc 2), .ref (qc 3), .ref (qc 4), .int (S.1.2.2 5)])), ((qc 1), .inl (cI, 200, .inl (S.1.1 1))), ((qc 3), .inl (cI, 200, .inl (S.1.1 3))), ((qc 0), .inr (3, [.ref (q 0), .ref (q 1), .ref (q 2), .ref (q 3), .ref (q 4), .ref (q 5), .ref (q 6), .ref (q 7), .ref (q 8), .ref (q 9), .ref (q 10), .int (S.2.2.2 11), .int (S.2.2.2 12), .int (S.2.2.2 13)]))] sz)) 0 0 (va_A [(c0, .inr (5, [.ref (qc 0), .ref (qc 1), .ref (qc 2), .ref (qc 3), .ref (qc 4), .int (S.1.2.2 5)])), ((qc 1), .inl (cI, 200, .inl (S.1.1 1))), ((qc 3), .inl (cI, 200, .inl (S.1.1 3))), ((qc 0), .inr (3, [.ref (q 0), .ref (q 1), .ref (q 2), .ref (q 3), .ref (q 4), .ref (q 5), .ref (q 6), .ref (q 7), .ref (q 8), .ref (q 9), .ref (q 10), .int (S.2.2.2 11), .int (S.2.2.2 12), .int (S.2.2.2 13)]))] sz) := by
  refine Met.ofW (cc := gm_b_Code_aimCommitsFrom) (maxL := 3) (ret := none) (by decide) rfl ?_
  intro p e s m args below meth c s₁ B hml hv
  obtain ⟨rfl, hsz, hP, hK, hD0⟩ := hv
  have hx := B.exec
  have hb := B.bytes
  have hr := B.returns
  have hw : ∀ w ∈ gm_W, w.before _ s = true := fun w h => atoms_spec B.pre w (List.mem_cons_of_mem _ h)
  have hown : s.vm.findClass gm_R_Code = some m.cls := findClass_of_methodNamed B.named
  subst hsz
  have hD := hD0.self (sz := s.heap.size)
  generalize hAe : va_A [(c0, .inr (5, [.ref (qc 0), .ref (qc 1), .ref (qc 2), .ref (qc 3), .ref (qc 4), .int (S.1.2.2 5)])), ((qc 1), .inl (cI, 200, .inl (S.1.1 1))), ((qc 3), .inl (cI, 200, .inl (S.1.1 3))), ((qc 0), .inr (3, [.ref (q 0), .ref (q 1), .ref (q 2), .ref (q 3), .ref (q 4), .ref (q 5), .ref (q 6), .ref (q 7), .ref (q 8), .ref (q 9), .ref (q 10), .int (S.2.2.2 11), .int (S.2.2.2 12), .int (S.2.2.2 13)]))] s.heap.size = A at hD ⊢
  have hA : ∀ q : Nat, s.heap.size ≤ q → A q := fun q h => by rw [← hAe]; exact Or.inr h
  have hS : va_S A s.heap s.heap [] := va_S.rf
  have hl := lv_entry ([.ref c0, .int x]) (n := 3) (Nat.le_of_ble_eq_true rfl)
  rw [lg_entry_eq]
  generalize (lg_sl ([.ref c0, .int x]) ++ List.replicate (3 - (lg_sl ([.ref c0, .int x])).length) Slot.unset).toArray = ls at hl ⊢
  have hl : lv_has ls 3 [(0, .ref c0), (1, .int x)] := hl
  have hF := gm_f_Code_aimCommitsFrom.eq_1 x S
  unfold gm_p_Code_aimCommitsFrom at hok
  refine lv_iload_n hx hb gm_d_Code_aimCommitsFrom_0 rfl (lv_at hl 1 rfl) ?_
  refine lv_istore_n (lv' := [(2, .int x), (0, .ref c0), (1, .int x)]) hx hb gm_d_Code_aimCommitsFrom_1 rfl hl (Nat.le_of_ble_eq_true rfl) rfl (fun ls hl => ?_)
  refine (?_ : ∀ (n2 : Nat) (v2_2 : Int32) (S_2 : gm_S × gm_S) (H : Heap) (locs : List Loc) (ls : Array Slot), lv_has ls 3 [(2, .int v2_2), (0, .ref c0), (1, .int x)] → va_P D gm_cl [(c0, .inr (5, [.ref (qc 0), .ref (qc 1), .ref (qc 2), .ref (qc 3), .ref (qc 4), .int (S.1.2.2 5)])), ((qc 1), .inl (cI, 200, .inl (S.1.1 1))), ((qc 3), .inl (cI, 200, .inl (S_2.1.1 3))), ((qc 0), .inr (3, [.ref (q 0), .ref (q 1), .ref (q 2), .ref (q 3), .ref (q 4), .ref (q 5), .ref (q 6), .ref (q 7), .ref (q 8), .ref (q 9), .ref (q 10), .int (S.2.2.2 11), .int (S.2.2.2 12), .int (S.2.2.2 13)]))] H → va_D A [(c0, .inr (5, [.ref (qc 0), .ref (qc 1), .ref (qc 2), .ref (qc 3), .ref (qc 4), .int (S.1.2.2 5)])), ((qc 1), .inl (cI, 200, .inl (S.1.1 1))), ((qc 3), .inl (cI, 200, .inl (S_2.1.1 3))), ((qc 0), .inr (3, [.ref (q 0), .ref (q 1), .ref (q 2), .ref (q 3), .ref (q 4), .ref (q 5), .ref (q 6), .ref (q 7), .ref (q 8), .ref (q 9), .ref (q 10), .int (S.2.2.2 11), .int (S.2.2.2 12), .int (S.2.2.2 13)]))] → va_S A s.heap H locs → gm_f_Code_aimCommitsFrom x S = gm_f_Code_aimCommitsFrom_2 x S n2 v2_2 S_2 → gm_p_Code_aimCommitsFrom_2 x S n2 v2_2 S_2 → W p l e (headSpec (Cond.code gm_y_Code_aimCommitsFrom gm_b_Code_aimCommitsFrom 3 none :: gm_W) { frames := 8, cells := 0, slots := 0, locals := 128 }).room s m ([.ref c0, .int x] : List Value).toArray below meth c H locs 0 0 (MQ below (va_Qv (fun u : gm_S × gm_S => (0, u) = gm_f_Code_aimCommitsFrom x S) (fun u t => gm_at D A [(c0, .inr (5, [.ref (qc 0), .ref (qc 1), .ref (qc 2), .ref (qc 3), .ref (qc 4), .int (S.1.2.2 5)])), ((qc 1), .inl (cI, 200, .inl (S.1.1 1))), ((qc 3), .inl (cI, 200, .inl (u.1.1 3))), ((qc 0), .inr (3, [.ref (q 0), .ref (q 1), .ref (q 2), .ref (q 3), .ref (q 4), .ref (q 5), .ref (q 6), .ref (q 7), .ref (q 8), .ref (q 9), .ref (q 10), .int (S.2.2.2 11), .int (S.2.2.2 12), .int (S.2.2.2 13)]))] (gm_T cI cJ cC cZ) t) A) ([.ref c0, .int x] : List Value).toArray s 0 0 A) (F0 m 2 ls [])) 300 x (S.1, S.2) _ _ _ hl hP hD hS hF hok
  clear hok hF hP hD hS hl
  intro n2
  induction n2 with
  | zero => intro v2_2 S_2 H locs ls hl hP hD hS hF hok; exact hok.elim
  | succ n2 ih2 =>
    intro v2_2 S_2 H locs ls hl hP hD hS hF hok
    rw [gm_f_Code_aimCommitsFrom_2] at hF
    rw [gm_p_Code_aimCommitsFrom_2] at hok
    refine lv_iload_n hx hb gm_d_Code_aimCommitsFrom_2 rfl (lv_at hl 0 rfl) ?_
    refine lv_aload_n hx hb gm_d_Code_aimCommitsFrom_3 rfl (lv_at hl 1 rfl) ?_
    refine va_get (D := D) (ci := 5) (v := .int (S.1.2.2 5)) (C := gm_R_Code) (T := gm_F_Code) (N := 6) hx hb hw gm_u_Code hown hK hP 0 rfl rfl 5 (by decide) (hw _ gm_l_Code_24) (fun _ h9 => h9) rfl gm_d_Code_aimCommitsFrom_4 ?_
    refine lv_icmp_ge (tgt := 41) hx hb gm_d_Code_aimCommitsFrom_7 (by decide) (fun c7 => ?_) (fun c7 => ?_)
    · skip
      have hF := hF.trans (if_pos c7)
      have hok := hok.1 c7
      exact W.vret hx hb hr (fun t ht hW => ⟨⟨(((va_up S.1.1 3 (S_2.1.1 3)), S.1.2.1, S.1.2.2), S.2), rfl, hF.symm, by rw [ht]; exact hP, va_K.moved hW.alike hK, hD⟩, hS.F ht⟩) hS.2.2 gm_d_Code_aimCommitsFrom_41
    · skip
      have hF := hF.trans (if_neg c7)
      have hok := hok.2 c7
      refine lv_aload_n hx hb gm_d_Code_aimCommitsFrom_10 rfl (lv_at hl 1 rfl) ?_
      refine va_get (D := D) (ci := 5) (v := .ref (qc 1)) (C := gm_R_Code) (T := gm_F_Code) (N := 6) hx hb hw gm_u_Code hown hK hP 0 rfl rfl 1 (by decide) (hw _ gm_l_Code_9) (fun _ h9 => h9) rfl gm_d_Code_aimCommitsFrom_11 ?_
      refine lv_iload_n hx hb gm_d_Code_aimCommitsFrom_14 rfl (lv_at hl 0 rfl) ?_
      have i15 := hok.1
      have hok := hok.2
      refine va_iald hx hb hK hP 1 0 rfl rfl i15 gm_d_Code_aimCommitsFrom_15 ?_
      refine lv_iconst (v := 5) hx hb gm_d_Code_aimCommitsFrom_16 (by decide) ?_
      refine lv_icmp_ne (tgt := 35) hx hb gm_d_Code_aimCommitsFrom_17 (by decide) (fun c17 => ?_) (fun c17 => ?_)
      · skip
        have hF := hF.trans (if_neg c17)
        have hok := hok.2 c17
        refine lv_iinc (lv' := [(2, .int (v2_2 + 1)), (0, .ref c0), (1, .int x)]) (k := 0) (v := (v2_2 + 1)) hx hb gm_d_Code_aimCommitsFrom_35 hl rfl rfl (Nat.le_of_ble_eq_true rfl) rfl (fun ls hl => ?_)
        refine lv_goto (tgt := 2) hx hb gm_d_Code_aimCommitsFrom_38 (by decide) ?_
        exact ih2 (v2_2 + 1) (((va_up S.1.1 3 (S_2.1.1 3)), S.1.2.1, S.1.2.2), S.2) _ _ _ (lv_sub hl [0, 1, 2] rfl) hP hD hS hF hok
      · skip
        have hF := hF.trans (if_pos c17)
        have hok := hok.1 c17
        refine lv_aload_n hx hb gm_d_Code_aimCommitsFrom_20 rfl (lv_at hl 1 rfl) ?_
        refine va_get (D := D) (ci := 5) (v := .ref (qc 3)) (C := gm_R_Code) (T := gm_F_Code) (N := 6) hx hb hw gm_u_Code hown hK hP 0 rfl rfl 3 (by decide) (hw _ gm_l_Code_18) (fun _ h9 => h9) rfl gm_d_Code_aimCommitsFrom_21 ?_
        refine lv_iload_n hx hb gm_d_Code_aimCommitsFrom_24 rfl (lv_at hl 0 rfl) ?_
        have i25 := hok.1
        have hok := hok.2
        refine va_iald hx hb hK hP 2 0 rfl rfl i25 gm_d_Code_aimCommitsFrom_25 ?_
        refine lv_iconst (v := (-1)) hx hb gm_d_Code_aimCommitsFrom_26 (by decide) ?_
        refine lv_icmp_ne (tgt := 35) hx hb gm_d_Code_aimCommitsFrom_27 (by decide) (fun c27 => ?_) (fun c27 => ?_)
        · skip
          have hF := hF.trans (if_neg c27)
          have hok := hok.2 c27
          refine lv_iinc (lv' := [(2, .int (v2_2 + 1)), (0, .ref c0), (1, .int x)]) (k := 0) (v := (v2_2 + 1)) hx hb gm_d_Code_aimCommitsFrom_35 hl rfl rfl (Nat.le_of_ble_eq_true rfl) rfl (fun ls hl => ?_)
          refine lv_goto (tgt := 2) hx hb gm_d_Code_aimCommitsFrom_38 (by decide) ?_
          exact ih2 (v2_2 + 1) (((va_up S.1.1 3 (S_2.1.1 3)), S.1.2.1, S.1.2.2), S.2) _ _ _ (lv_sub hl [0, 1, 2] rfl) hP hD hS hF hok
        · skip
          have hF := hF.trans (if_pos c27)
          have hok := hok.1 c27
          refine lv_aload_n hx hb gm_d_Code_aimCommitsFrom_30 rfl (lv_at hl 1 rfl) ?_
          refine lv_iload_n hx hb gm_d_Code_aimCommitsFrom_31 rfl (lv_at hl 0 rfl) ?_
          have hPc := hP.sub (ws' := [(c0, .inr (5, [.ref (qc 0), .ref (qc 1), .ref (qc 2), .ref (qc 3), .ref (qc 4), .int (S.1.2.2 5)])), ((qc 3), .inl (cI, 200, .inl (S_2.1.1 3))), ((qc 0), .inr (3, [.ref (q 0), .ref (q 1), .ref (q 2), .ref (q 3), .ref (q 4), .ref (q 5), .ref (q 6), .ref (q 7), .ref (q 8), .ref (q 9), .ref (q 10), .int (S.2.2.2 11), .int (S.2.2.2 12), .int (S.2.2.2 13)]))]) [0, 2, 3] rfl
          have hDc := hD.sub (ws' := [(c0, .inr (5, [.ref (qc 0), .ref (qc 1), .ref (qc 2), .ref (qc 3), .ref (qc 4), .int (S.1.2.2 5)])), ((qc 3), .inl (cI, 200, .inl (S_2.1.1 3))), ((qc 0), .inr (3, [.ref (q 0), .ref (q 1), .ref (q 2), .ref (q 3), .ref (q 4), .ref (q 5), .ref (q 6), .ref (q 7), .ref (q 8), .ref (q 9), .ref (q 10), .int (S.2.2.2 11), .int (S.2.2.2 12), .int (S.2.2.2 13)]))]) [0, 2, 3] (by decide) rfl
          have hFc := va_free (wc := [(c0, .inr (5, [.ref (qc 0), .ref (qc 1), .ref (qc 2), .ref (qc 3), .ref (qc 4), .int (S.1.2.2 5)])), ((qc 3), .inl (cI, 200, .inl (S_2.1.1 3))), ((qc 0), .inr (3, [.ref (q 0), .ref (q 1), .ref (q 2), .ref (q 3), .ref (q 4), .ref (q 5), .ref (q 6), .ref (q 7), .ref (q 8), .ref (q 9), .ref (q 10), .int (S.2.2.2 11), .int (S.2.2.2 12), .int (S.2.2.2 13)]))]) hD hS hA [0, 2, 3] rfl
          refine va_callv (va_runV (As := [.int v2_2]) (rest := []) ⟨hx, hb, hml, hown, hw⟩ (gm_a_Code_aim l D cI cJ cC cZ c0 qc q  v2_2 (((va_up S.1.1 3 (S_2.1.1 3)), S.1.2.1, S.1.2.2), S.2) H.size  hok.1) (cwV 1 hw (gm_gV gm_l_Code_78 gm_q_Code_aim gm_s_Code_aim gm_i_Code (gm_gd gm_k_Code_aim)) rfl rfl rfl (by decide +kernel) ⟨Nat.le_of_ble_eq_true rfl, Nat.le_of_ble_eq_true rfl⟩) ⟨fun a U g mk q => by obtain ⟨q0, q1, qP, qK, qD⟩ := q; exact ⟨q0, q1, qP, va_K.moved (u := U) (U := U.calling g mk a) (Vm.Alike.refl U.vm) qK, qD⟩, va_recv hK hP (ci := 5) rfl (q0 := 0) rfl, fun U hU hW => ⟨rfl, by rw [hU], by rw [hU]; exact hPc, va_K.moved hW.alike hK, hDc.weaken (fun _ _ _ _ => trivial)⟩⟩ rfl rfl hl.1 rfl (lv_room (Nat.le_of_ble_eq_true rfl)) gm_d_Code_aimCommitsFrom_32 ⟨Nat.le_of_ble_eq_true rfl, Nat.le_of_ble_eq_true rfl⟩) hS (fun q _ h => hFc q h) hFc (fun u32 t H1 locs ht hvm h32 hB hz1 hk1 hS => ?_)
          obtain ⟨hP1, -, hD1⟩ := hB
          rw [ht] at hP1
          have hP1 : va_P D gm_cl [(c0, .inr (5, [.ref (qc 0), .ref (qc 1), .ref (qc 2), .ref (qc 3), .ref (qc 4), .int (S.1.2.2 5)])), ((qc 3), .inl (cI, 200, .inl (u32.1.1 3))), ((qc 0), .inr (3, [.ref (q 0), .ref (q 1), .ref (q 2), .ref (q 3), .ref (q 4), .ref (q 5), .ref (q 6), .ref (q 7), .ref (q 8), .ref (q 9), .ref (q 10), .int (S.2.2.2 11), .int (S.2.2.2 12), .int (S.2.2.2 13)]))] H1 := hP1
          have hD1 : va_D (va_A [(c0, .inr (5, [.ref (qc 0), .ref (qc 1), .ref (qc 2), .ref (qc 3), .ref (qc 4), .int (S.1.2.2 5)])), ((qc 3), .inl (cI, 200, .inl (S_2.1.1 3))), ((qc 0), .inr (3, [.ref (q 0), .ref (q 1), .ref (q 2), .ref (q 3), .ref (q 4), .ref (q 5), .ref (q 6), .ref (q 7), .ref (q 8), .ref (q 9), .ref (q 10), .int (S.2.2.2 11), .int (S.2.2.2 12), .int (S.2.2.2 13)]))] H.size) [(c0, .inr (5, [.ref (qc 0), .ref (qc 1), .ref (qc 2), .ref (qc 3), .ref (qc 4), .int (S.1.2.2 5)])), ((qc 3), .inl (cI, 200, .inl (u32.1.1 3))), ((qc 0), .inr (3, [.ref (q 0), .ref (q 1), .ref (q 2), .ref (q 3), .ref (q 4), .ref (q 5), .ref (q 6), .ref (q 7), .ref (q 8), .ref (q 9), .ref (q 10), .int (S.2.2.2 11), .int (S.2.2.2 12), .int (S.2.2.2 13)]))] := hD1
          obtain ⟨hP, hD⟩ := va_join (wr := [((qc 1), .inl (cI, 200, .inl (S.1.1 1)))]) hP hD [0, 2, 3] [1] rfl rfl (by decide) (by decide) hk1 hFc hP1 hD1
          generalize H1 = H at hP hS ⊢
          have hP : va_P D gm_cl [((qc 1), .inl (cI, 200, .inl (S.1.1 1))), (c0, .inr (5, [.ref (qc 0), .ref (qc 1), .ref (qc 2), .ref (qc 3), .ref (qc 4), .int (S.1.2.2 5)])), ((qc 3), .inl (cI, 200, .inl (u32.1.1 3))), ((qc 0), .inr (3, [.ref (q 0), .ref (q 1), .ref (q 2), .ref (q 3), .ref (q 4), .ref (q 5), .ref (q 6), .ref (q 7), .ref (q 8), .ref (q 9), .ref (q 10), .int (S.2.2.2 11), .int (S.2.2.2 12), .int (S.2.2.2 13)]))] H := hP
          have hD : va_D A [((qc 1), .inl (cI, 200, .inl (S.1.1 1))), (c0, .inr (5, [.ref (qc 0), .ref (qc 1), .ref (qc 2), .ref (qc 3), .ref (qc 4), .int (S.1.2.2 5)])), ((qc 3), .inl (cI, 200, .inl (u32.1.1 3))), ((qc 0), .inr (3, [.ref (q 0), .ref (q 1), .ref (q 2), .ref (q 3), .ref (q 4), .ref (q 5), .ref (q 6), .ref (q 7), .ref (q 8), .ref (q 9), .ref (q 10), .int (S.2.2.2 11), .int (S.2.2.2 12), .int (S.2.2.2 13)]))] := hD
          have hP := hP.sub (ws' := [(c0, .inr (5, [.ref (qc 0), .ref (qc 1), .ref (qc 2), .ref (qc 3), .ref (qc 4), .int (S.1.2.2 5)])), ((qc 1), .inl (cI, 200, .inl (S.1.1 1))), ((qc 3), .inl (cI, 200, .inl (u32.1.1 3))), ((qc 0), .inr (3, [.ref (q 0), .ref (q 1), .ref (q 2), .ref (q 3), .ref (q 4), .ref (q 5), .ref (q 6), .ref (q 7), .ref (q 8), .ref (q 9), .ref (q 10), .int (S.2.2.2 11), .int (S.2.2.2 12), .int (S.2.2.2 13)]))]) [1, 0, 2, 3] rfl
          have hD := hD.sub (ws' := [(c0, .inr (5, [.ref (qc 0), .ref (qc 1), .ref (qc 2), .ref (qc 3), .ref (qc 4), .int (S.1.2.2 5)])), ((qc 1), .inl (cI, 200, .inl (S.1.1 1))), ((qc 3), .inl (cI, 200, .inl (u32.1.1 3))), ((qc 0), .inr (3, [.ref (q 0), .ref (q 1), .ref (q 2), .ref (q 3), .ref (q 4), .ref (q 5), .ref (q 6), .ref (q 7), .ref (q 8), .ref (q 9), .ref (q 10), .int (S.2.2.2 11), .int (S.2.2.2 12), .int (S.2.2.2 13)]))]) [1, 0, 2, 3] (by decide) rfl
          have hF := hF.trans (gm_bd_eq h32)
          have hok := gm_bd_ok h32 hok.2
          refine lv_iinc (lv' := [(2, .int (v2_2 + 1)), (0, .ref c0), (1, .int x)]) (k := 0) (v := (v2_2 + 1)) hx hb gm_d_Code_aimCommitsFrom_35 hl rfl rfl (Nat.le_of_ble_eq_true rfl) rfl (fun ls hl => ?_)
          refine lv_goto (tgt := 2) hx hb gm_d_Code_aimCommitsFrom_38 (by decide) ?_
          exact ih2 (v2_2 + 1) (((va_up S.1.1 3 (u32.1.1 3)), S.1.2.1, S.1.2.2), S.2) _ _ _ (lv_sub hl [0, 1, 2] rfl) hP hD hS hF hok
