def gm_f_Tree_reset (S : gm_S) : Int32 × (gm_S) := (0, (S.1, S.2.1, (va_up (va_up (va_up S.2.2 11 0) 12 0) 13 0)))
def gm_p_Tree_reset (S : gm_S) : Prop := True
set_option maxHeartbeats 4000000 in
set_option maxRecDepth 100000 in
theorem gm_a_Tree_reset (l : Launch) (D : va_G) (cI cJ cC cZ : ClassId) (t0 : Nat) (q : Nat → Nat) (S : gm_S) (sz : Nat) (hok : gm_p_Tree_reset S) : Met l gm_y_Tree_reset (Cond.code gm_y_Tree_reset gm_b_Tree_reset 1 none :: gm_W) { frames := 4, cells := 0, slots := 0, locals := 64 } (va_Pc [.ref t0] (fun U => U.heap.size = sz ∧ va_P D gm_cl [(t0, .inr (3, [.ref (q 0), .ref (q 1), .ref (q 2), .ref (q 3), .ref (q 4), .ref (q 5), .ref (q 6), .ref (q 7), .ref (q 8), .ref (q 9), .ref (q 10), .int (S.2.2 11), .int (S.2.2 12), .int (S.2.2 13)]))] U.heap ∧ va_K D gm_cl (gm_T cI cJ cC cZ) U ∧ va_D (fun _ => True) [(t0, .inr (3, [.ref (q 0), .ref (q 1), .ref (q 2), .ref (q 3), .ref (q 4), .ref (q 5), .ref (q 6), .ref (q 7), .ref (q 8), .ref (q 9), .ref (q 10), .int (S.2.2 11), .int (S.2.2 12), .int (S.2.2 13)]))])) (va_Qv (fun u : gm_S => (0, u) = gm_f_Tree_reset S) (fun u t => gm_at D (va_A [(t0, .inr (3, [.ref (q 0), .ref (q 1), .ref (q 2), .ref (q 3), .ref (q 4), .ref (q 5), .ref (q 6), .ref (q 7), .ref (q 8), .ref (q 9), .ref (q 10), .int (S.2.2 11), .int (S.2.2 12), .int (S.2.2 13)]))] sz) [(t0, .inr (3, [.ref (q 0), .ref (q 1), .ref (q 2), .ref (q 3), .ref (q 4), .ref (q 5), .ref (q 6), .ref (q 7), .ref (q 8), .ref (q 9), .ref (q 10), .int (u.2.2 11), .int (u.2.2 12), .int (u.2.2 13)]))] (gm_T cI cJ cC cZ) t) (va_A [(t0, .inr (3, [.ref (q 0), .ref (q 1), .ref (q 2), .ref (q 3), .ref (q 4), .ref (q 5), .ref (q 6), .ref (q 7), .ref (q 8), .ref (q 9), .ref (q 10), .int (S.2.2 11), .int (S.2.2 12), .int (S.2.2 13)]))] sz)) 0 0 (va_A [(t0, .inr (3, [.ref (q 0), .ref (q 1), .ref (q 2), .ref (q 3), .ref (q 4), .ref (q 5), .ref (q 6), .ref (q 7), .ref (q 8), .ref (q 9), .ref (q 10), .int (S.2.2 11), .int (S.2.2 12), .int (S.2.2 13)]))] sz) := by
  refine Met.ofW (cc := gm_b_Tree_reset) (maxL := 1) (ret := none) (by decide) rfl ?_
  intro p e s m args below meth c s₁ B hml hv
  obtain ⟨rfl, hsz, hP, hK, hD0⟩ := hv
  have hx := B.exec
  have hb := B.bytes
  have hr := B.returns
  have hw : ∀ w ∈ gm_W, w.before _ s = true := fun w h => atoms_spec B.pre w (List.mem_cons_of_mem _ h)
  have hown : s.vm.findClass gm_R_Tree = some m.cls := findClass_of_methodNamed B.named
  subst hsz
  have hD := hD0.self (sz := s.heap.size)
  generalize hAe : va_A [(t0, .inr (3, [.ref (q 0), .ref (q 1), .ref (q 2), .ref (q 3), .ref (q 4), .ref (q 5), .ref (q 6), .ref (q 7), .ref (q 8), .ref (q 9), .ref (q 10), .int (S.2.2 11), .int (S.2.2 12), .int (S.2.2 13)]))] s.heap.size = A at hD ⊢
  have hA : ∀ q : Nat, s.heap.size ≤ q → A q := fun q h => by rw [← hAe]; exact Or.inr h
  have hS : va_S A s.heap s.heap [] := va_S.rf
  have hl := lv_entry ([.ref t0]) (n := 1) (Nat.le_of_ble_eq_true rfl)
  rw [lg_entry_eq]
  generalize (lg_sl ([.ref t0]) ++ List.replicate (1 - (lg_sl ([.ref t0])).length) Slot.unset).toArray = ls at hl ⊢
  have hl : lv_has ls 1 [(0, .ref t0)] := hl
  have hF := gm_f_Tree_reset.eq_1 S
  unfold gm_p_Tree_reset at hok
  refine lv_aload_n hx hb gm_d_Tree_reset_0 rfl (lv_at hl 0 rfl) ?_
  refine lv_iconst (v := 0) hx hb gm_d_Tree_reset_1 (by decide) ?_
  refine va_put (D := D) (ci := 3) (v := .int 0) (ty := .int) (C := gm_R_Tree) (T := gm_F_Tree) (N := 14) hx hb hw gm_u_Tree gm_t_Tree gm_o_Tree gm_n_Tree hown hK hP hD hS 0 rfl rfl 11 (by decide) (hw _ gm_l_Tree_47) (fun _ h9 => h9) rfl (by decide +kernel) rfl rfl (Nat.le_of_ble_eq_true rfl) gm_d_Tree_reset_2 (fun H locs hP hD hS => ?_)
  have hP : va_P D gm_cl [(t0, .inr (3, [.ref (q 0), .ref (q 1), .ref (q 2), .ref (q 3), .ref (q 4), .ref (q 5), .ref (q 6), .ref (q 7), .ref (q 8), .ref (q 9), .ref (q 10), .int 0, .int (S.2.2 12), .int (S.2.2 13)]))] H := hP
  have hD : va_D A [(t0, .inr (3, [.ref (q 0), .ref (q 1), .ref (q 2), .ref (q 3), .ref (q 4), .ref (q 5), .ref (q 6), .ref (q 7), .ref (q 8), .ref (q 9), .ref (q 10), .int 0, .int (S.2.2 12), .int (S.2.2 13)]))] := hD
  have hP : va_P D gm_cl [(t0, .inr (3, [.ref (q 0), .ref (q 1), .ref (q 2), .ref (q 3), .ref (q 4), .ref (q 5), .ref (q 6), .ref (q 7), .ref (q 8), .ref (q 9), .ref (q 10), .int 0, .int (S.2.2 12), .int (S.2.2 13)]))] H := hP
  have hD : va_D A [(t0, .inr (3, [.ref (q 0), .ref (q 1), .ref (q 2), .ref (q 3), .ref (q 4), .ref (q 5), .ref (q 6), .ref (q 7), .ref (q 8), .ref (q 9), .ref (q 10), .int 0, .int (S.2.2 12), .int (S.2.2 13)]))] := hD
  refine lv_aload_n hx hb gm_d_Tree_reset_5 rfl (lv_at hl 0 rfl) ?_
  refine lv_iconst (v := 0) hx hb gm_d_Tree_reset_6 (by decide) ?_
  refine va_put (D := D) (ci := 3) (v := .int 0) (ty := .int) (C := gm_R_Tree) (T := gm_F_Tree) (N := 14) hx hb hw gm_u_Tree gm_t_Tree gm_o_Tree gm_n_Tree hown hK hP hD hS 0 rfl rfl 12 (by decide) (hw _ gm_l_Tree_51) (fun _ h9 => h9) rfl (by decide +kernel) rfl rfl (Nat.le_of_ble_eq_true rfl) gm_d_Tree_reset_7 (fun H locs hP hD hS => ?_)
  have hP : va_P D gm_cl [(t0, .inr (3, [.ref (q 0), .ref (q 1), .ref (q 2), .ref (q 3), .ref (q 4), .ref (q 5), .ref (q 6), .ref (q 7), .ref (q 8), .ref (q 9), .ref (q 10), .int 0, .int 0, .int (S.2.2 13)]))] H := hP
  have hD : va_D A [(t0, .inr (3, [.ref (q 0), .ref (q 1), .ref (q 2), .ref (q 3), .ref (q 4), .ref (q 5), .ref (q 6), .ref (q 7), .ref (q 8), .ref (q 9), .ref (q 10), .int 0, .int 0, .int (S.2.2 13)]))] := hD
  have hP : va_P D gm_cl [(t0, .inr (3, [.ref (q 0), .ref (q 1), .ref (q 2), .ref (q 3), .ref (q 4), .ref (q 5), .ref (q 6), .ref (q 7), .ref (q 8), .ref (q 9), .ref (q 10), .int 0, .int 0, .int (S.2.2 13)]))] H := hP
  have hD : va_D A [(t0, .inr (3, [.ref (q 0), .ref (q 1), .ref (q 2), .ref (q 3), .ref (q 4), .ref (q 5), .ref (q 6), .ref (q 7), .ref (q 8), .ref (q 9), .ref (q 10), .int 0, .int 0, .int (S.2.2 13)]))] := hD
  refine lv_aload_n hx hb gm_d_Tree_reset_10 rfl (lv_at hl 0 rfl) ?_
  refine lv_iconst (v := 0) hx hb gm_d_Tree_reset_11 (by decide) ?_
  refine va_put (D := D) (ci := 3) (v := .int 0) (ty := .int) (C := gm_R_Tree) (T := gm_F_Tree) (N := 14) hx hb hw gm_u_Tree gm_t_Tree gm_o_Tree gm_n_Tree hown hK hP hD hS 0 rfl rfl 13 (by decide) (hw _ gm_l_Tree_54) (fun _ h9 => h9) rfl (by decide +kernel) rfl rfl (Nat.le_of_ble_eq_true rfl) gm_d_Tree_reset_12 (fun H locs hP hD hS => ?_)
  have hP : va_P D gm_cl [(t0, .inr (3, [.ref (q 0), .ref (q 1), .ref (q 2), .ref (q 3), .ref (q 4), .ref (q 5), .ref (q 6), .ref (q 7), .ref (q 8), .ref (q 9), .ref (q 10), .int 0, .int 0, .int 0]))] H := hP
  have hD : va_D A [(t0, .inr (3, [.ref (q 0), .ref (q 1), .ref (q 2), .ref (q 3), .ref (q 4), .ref (q 5), .ref (q 6), .ref (q 7), .ref (q 8), .ref (q 9), .ref (q 10), .int 0, .int 0, .int 0]))] := hD
  have hP : va_P D gm_cl [(t0, .inr (3, [.ref (q 0), .ref (q 1), .ref (q 2), .ref (q 3), .ref (q 4), .ref (q 5), .ref (q 6), .ref (q 7), .ref (q 8), .ref (q 9), .ref (q 10), .int 0, .int 0, .int 0]))] H := hP
  have hD : va_D A [(t0, .inr (3, [.ref (q 0), .ref (q 1), .ref (q 2), .ref (q 3), .ref (q 4), .ref (q 5), .ref (q 6), .ref (q 7), .ref (q 8), .ref (q 9), .ref (q 10), .int 0, .int 0, .int 0]))] := hD
  exact W.vret hx hb hr (fun t ht hW => ⟨⟨(S.1, S.2.1, (va_up (va_up (va_up S.2.2 11 0) 12 0) 13 0)), rfl, hF.symm, by rw [ht]; exact hP, va_K.moved hW.alike hK, hD⟩, hS.F ht⟩) hS.2.2 gm_d_Tree_reset_15
def gm_f_Row_append (n : Nat) (x : Int32) (S : gm_S) : Int32 × (gm_S) := (if x < 32 then (0, S) else (if 126 < x then (0, S) else (if (S.2.2 1) < (Int32.ofNat n) then (1, ((va_up S.1 0 (upd (S.1 0) (Int32.toNatClampNeg (S.2.2 1)) (vp_nar .char x))), S.2.1, (va_up S.2.2 1 ((S.2.2 1) + 1)))) else (0, S))))
def gm_p_Row_append (n : Nat) (x : Int32) (S : gm_S) : Prop := ((x < 32 → True) ∧ (¬ (x < 32) → ((126 < x → True) ∧ (¬ (126 < x) → (((S.2.2 1) < (Int32.ofNat n) → (vp_in (S.2.2 1) n ∧ True)) ∧ (¬ ((S.2.2 1) < (Int32.ofNat n)) → True))))))
set_option maxHeartbeats 4000000 in
set_option maxRecDepth 100000 in
theorem gm_a_Row_append (l : Launch) (D : va_G) (cI cJ cC cZ : ClassId) (w0 : Nat) (q : Nat → Nat) (n : Nat) (x : Int32) (S : gm_S) (sz : Nat) (hok : gm_p_Row_append n x S) : Met l gm_y_Row_append (Cond.code gm_y_Row_append gm_b_Row_append 2 (some .boolean) :: gm_W) { frames := 4, cells := 0, slots := 0, locals := 64 } (va_Pc [.ref w0, .int x] (fun U => U.heap.size = sz ∧ va_P D gm_cl [(w0, .inr (1, [.ref (q 0), .int (S.2.2 1)])), ((q 0), .inl (cC, n, .inl (S.1 0)))] U.heap ∧ va_K D gm_cl (gm_T cI cJ cC cZ) U ∧ va_D (fun _ => True) [(w0, .inr (1, [.ref (q 0), .int (S.2.2 1)])), ((q 0), .inl (cC, n, .inl (S.1 0)))])) (va_Qi (fun (r : Int32) (u : gm_S) => (r, u) = gm_f_Row_append n x S) (fun u t => gm_at D (va_A [(w0, .inr (1, [.ref (q 0), .int (S.2.2 1)])), ((q 0), .inl (cC, n, .inl (S.1 0)))] sz) [(w0, .inr (1, [.ref (q 0), .int (u.2.2 1)])), ((q 0), .inl (cC, n, .inl (u.1 0)))] (gm_T cI cJ cC cZ) t) (va_A [(w0, .inr (1, [.ref (q 0), .int (S.2.2 1)])), ((q 0), .inl (cC, n, .inl (S.1 0)))] sz)) 0 0 (va_A [(w0, .inr (1, [.ref (q 0), .int (S.2.2 1)])), ((q 0), .inl (cC, n, .inl (S.1 0)))] sz) := by
  refine Met.ofW (cc := gm_b_Row_append) (maxL := 2) (ret := (some .boolean)) (by decide) rfl ?_
  intro p e s m args below meth c s₁ B hml hv
  obtain ⟨rfl, hsz, hP, hK, hD0⟩ := hv
  have hx := B.exec
  have hb := B.bytes
  have hr := B.returns
  have hw : ∀ w ∈ gm_W, w.before _ s = true := fun w h => atoms_spec B.pre w (List.mem_cons_of_mem _ h)
  have hown : s.vm.findClass gm_R_Row = some m.cls := findClass_of_methodNamed B.named
  subst hsz
  have hD := hD0.self (sz := s.heap.size)
  generalize hAe : va_A [(w0, .inr (1, [.ref (q 0), .int (S.2.2 1)])), ((q 0), .inl (cC, n, .inl (S.1 0)))] s.heap.size = A at hD ⊢
  have hA : ∀ q : Nat, s.heap.size ≤ q → A q := fun q h => by rw [← hAe]; exact Or.inr h
  have hS : va_S A s.heap s.heap [] := va_S.rf
  have hl := lv_entry ([.ref w0, .int x]) (n := 2) (Nat.le_of_ble_eq_true rfl)
  rw [lg_entry_eq]
  generalize (lg_sl ([.ref w0, .int x]) ++ List.replicate (2 - (lg_sl ([.ref w0, .int x])).length) Slot.unset).toArray = ls at hl ⊢
  have hl : lv_has ls 2 [(0, .ref w0), (1, .int x)] := hl
  have hF := gm_f_Row_append.eq_1 n x S
  unfold gm_p_Row_append at hok
  refine lv_iload_n hx hb gm_d_Row_append_0 rfl (lv_at hl 1 rfl) ?_
  refine lv_bipush (v := 32) hx hb gm_d_Row_append_1 (by decide) ?_
  refine lv_icmp_lt (tgt := 24) hx hb gm_d_Row_append_3 (by decide) (fun c3 => ?_) (fun c3 => ?_)
  · skip
    have hF := hF.trans (if_pos c3)
    have hok := hok.1 c3
    refine lv_iconst (v := 0) hx hb gm_d_Row_append_24 (by decide) ?_
    exact W.zret (v := 0) hx hb hr rfl (fun t ht hW => ⟨⟨0, S, rfl, hF.symm, by rw [ht]; exact hP, va_K.moved hW.alike hK, hD⟩, hS.F ht⟩) hS.2.2 gm_d_Row_append_25
  · skip
    have hF := hF.trans (if_neg c3)
    have hok := hok.2 c3
    refine lv_iload_n hx hb gm_d_Row_append_6 rfl (lv_at hl 1 rfl) ?_
    refine lv_bipush (v := 126) hx hb gm_d_Row_append_7 (by decide) ?_
    refine lv_icmp_gt (tgt := 24) hx hb gm_d_Row_append_9 (by decide) (fun c9 => ?_) (fun c9 => ?_)
    · skip
      have hF := hF.trans (if_pos c9)
      have hok := hok.1 c9
      refine lv_iconst (v := 0) hx hb gm_d_Row_append_24 (by decide) ?_
      exact W.zret (v := 0) hx hb hr rfl (fun t ht hW => ⟨⟨0, S, rfl, hF.symm, by rw [ht]; exact hP, va_K.moved hW.alike hK, hD⟩, hS.F ht⟩) hS.2.2 gm_d_Row_append_25
    · skip
      have hF := hF.trans (if_neg c9)
      have hok := hok.2 c9
      refine lv_aload_n hx hb gm_d_Row_append_12 rfl (lv_at hl 0 rfl) ?_
      refine va_get (D := D) (ci := 1) (v := .int (S.2.2 1)) (C := gm_R_Row) (T := gm_F_Row) (N := 2) hx hb hw gm_u_Row hown hK hP 0 rfl rfl 1 (by decide) (hw _ gm_l_Row_9) (fun _ h9 => h9) rfl gm_d_Row_append_13 ?_
      refine lv_aload_n hx hb gm_d_Row_append_16 rfl (lv_at hl 0 rfl) ?_
      refine va_get (D := D) (ci := 1) (v := .ref (q 0)) (C := gm_R_Row) (T := gm_F_Row) (N := 2) hx hb hw gm_u_Row hown hK hP 0 rfl rfl 0 (by decide) (hw _ gm_l_Row_15) (fun _ h9 => h9) rfl gm_d_Row_append_17 ?_
      refine va_alen (v := (Int32.ofNat n)) hx hb hK hP 1 2 rfl rfl rfl gm_d_Row_append_20 ?_
      refine lv_icmp_lt (tgt := 26) hx hb gm_d_Row_append_21 (by decide) (fun c21 => ?_) (fun c21 => ?_)
      · skip
        have hF := hF.trans (if_pos c21)
        have hok := hok.1 c21
        refine lv_aload_n hx hb gm_d_Row_append_26 rfl (lv_at hl 0 rfl) ?_
        refine va_get (D := D) (ci := 1) (v := .ref (q 0)) (C := gm_R_Row) (T := gm_F_Row) (N := 2) hx hb hw gm_u_Row hown hK hP 0 rfl rfl 0 (by decide) (hw _ gm_l_Row_15) (fun _ h9 => h9) rfl gm_d_Row_append_27 ?_
        refine lv_aload_n hx hb gm_d_Row_append_30 rfl (lv_at hl 0 rfl) ?_
        refine va_get (D := D) (ci := 1) (v := .int (S.2.2 1)) (C := gm_R_Row) (T := gm_F_Row) (N := 2) hx hb hw gm_u_Row hown hK hP 0 rfl rfl 1 (by decide) (hw _ gm_l_Row_9) (fun _ h9 => h9) rfl gm_d_Row_append_31 ?_
        refine lv_iload_n hx hb gm_d_Row_append_34 rfl (lv_at hl 1 rfl) ?_
        have i35 := hok.1
        have hok := hok.2
        refine va_cast hx hb hK hP hD hS 1 2 rfl rfl i35 gm_d_Row_append_35 (fun H locs hP hD hS => ?_)
        have hP : va_P D gm_cl [(w0, .inr (1, [.ref (q 0), .int (S.2.2 1)])), ((q 0), .inl (cC, n, .inl (upd (S.1 0) (Int32.toNatClampNeg (S.2.2 1)) (vp_nar .char x))))] H := hP
        have hD : va_D A [(w0, .inr (1, [.ref (q 0), .int (S.2.2 1)])), ((q 0), .inl (cC, n, .inl (upd (S.1 0) (Int32.toNatClampNeg (S.2.2 1)) (vp_nar .char x))))] := hD
        refine lv_aload_n hx hb gm_d_Row_append_36 rfl (lv_at hl 0 rfl) ?_
        refine lv_dup hx hb gm_d_Row_append_37 rfl ?_
        refine va_get (D := D) (ci := 1) (v := .int (S.2.2 1)) (C := gm_R_Row) (T := gm_F_Row) (N := 2) hx hb hw gm_u_Row hown hK hP 0 rfl rfl 1 (by decide) (hw _ gm_l_Row_9) (fun _ h9 => h9) rfl gm_d_Row_append_38 ?_
        refine lv_iconst (v := 1) hx hb gm_d_Row_append_41 (by decide) ?_
        refine lv_iadd hx hb gm_d_Row_append_42 ?_
        refine va_put (D := D) (ci := 1) (v := .int ((S.2.2 1) + 1)) (ty := .int) (C := gm_R_Row) (T := gm_F_Row) (N := 2) hx hb hw gm_u_Row gm_t_Row gm_o_Row gm_n_Row hown hK hP hD hS 0 rfl rfl 1 (by decide) (hw _ gm_l_Row_9) (fun _ h9 => h9) rfl (by decide +kernel) rfl rfl (Nat.le_of_ble_eq_true rfl) gm_d_Row_append_43 (fun H locs hP hD hS => ?_)
        have hP : va_P D gm_cl [(w0, .inr (1, [.ref (q 0), .int ((S.2.2 1) + 1)])), ((q 0), .inl (cC, n, .inl (upd (S.1 0) (Int32.toNatClampNeg (S.2.2 1)) (vp_nar .char x))))] H := hP
        have hD : va_D A [(w0, .inr (1, [.ref (q 0), .int ((S.2.2 1) + 1)])), ((q 0), .inl (cC, n, .inl (upd (S.1 0) (Int32.toNatClampNeg (S.2.2 1)) (vp_nar .char x))))] := hD
        have hP : va_P D gm_cl [(w0, .inr (1, [.ref (q 0), .int ((S.2.2 1) + 1)])), ((q 0), .inl (cC, n, .inl (upd (S.1 0) (Int32.toNatClampNeg (S.2.2 1)) (vp_nar .char x))))] H := hP
        have hD : va_D A [(w0, .inr (1, [.ref (q 0), .int ((S.2.2 1) + 1)])), ((q 0), .inl (cC, n, .inl (upd (S.1 0) (Int32.toNatClampNeg (S.2.2 1)) (vp_nar .char x))))] := hD
        refine lv_iconst (v := 1) hx hb gm_d_Row_append_46 (by decide) ?_
        exact W.zret (v := 1) hx hb hr rfl (fun t ht hW => ⟨⟨1, ((va_up S.1 0 (upd (S.1 0) (Int32.toNatClampNeg (S.2.2 1)) (vp_nar .char x))), S.2.1, (va_up S.2.2 1 ((S.2.2 1) + 1))), rfl, hF.symm, by rw [ht]; exact hP, va_K.moved hW.alike hK, hD⟩, hS.F ht⟩) hS.2.2 gm_d_Row_append_47
      · skip
        have hF := hF.trans (if_neg c21)
        have hok := hok.2 c21
        refine lv_iconst (v := 0) hx hb gm_d_Row_append_24 (by decide) ?_
        exact W.zret (v := 0) hx hb hr rfl (fun t ht hW => ⟨⟨0, S, rfl, hF.symm, by rw [ht]; exact hP, va_K.moved hW.alike hK, hD⟩, hS.F ht⟩) hS.2.2 gm_d_Row_append_25
def gm_f_Row_at (n : Nat) (x : Int32) (S : gm_S) : Int32 × (gm_S) := (if x < 0 then ((-1), S) else (if (S.2.2 1) ≤ x then ((-1), S) else (((S.1 0) (Int32.toNatClampNeg x)), S)))
def gm_p_Row_at (n : Nat) (x : Int32) (S : gm_S) : Prop := ((x < 0 → True) ∧ (¬ (x < 0) → (((S.2.2 1) ≤ x → True) ∧ (¬ ((S.2.2 1) ≤ x) → (vp_in x n ∧ True)))))
set_option maxHeartbeats 4000000 in
set_option maxRecDepth 100000 in
theorem gm_a_Row_at (l : Launch) (D : va_G) (cI cJ cC cZ : ClassId) (w0 : Nat) (q : Nat → Nat) (n : Nat) (x : Int32) (S : gm_S) (sz : Nat) (hok : gm_p_Row_at n x S) : Met l gm_y_Row_at (Cond.code gm_y_Row_at gm_b_Row_at 2 (some .int) :: gm_W) { frames := 4, cells := 0, slots := 0, locals := 64 } (va_Pc [.ref w0, .int x] (fun U => U.heap.size = sz ∧ va_P D gm_cl [(w0, .inr (1, [.ref (q 0), .int (S.2.2 1)])), ((q 0), .inl (cC, n, .inl (S.1 0)))] U.heap ∧ va_K D gm_cl (gm_T cI cJ cC cZ) U ∧ va_D (fun _ => True) [(w0, .inr (1, [.ref (q 0), .int (S.2.2 1)])), ((q 0), .inl (cC, n, .inl (S.1 0)))])) (va_Qi (fun (r : Int32) (u : gm_S) => (r, u) = gm_f_Row_at n x S) (fun u t => gm_at D (va_A [(w0, .inr (1, [.ref (q 0), .int (S.2.2 1)])), ((q 0), .inl (cC, n, .inl (S.1 0)))] sz) [(w0, .inr (1, [.ref (q 0), .int (S.2.2 1)])), ((q 0), .inl (cC, n, .inl (S.1 0)))] (gm_T cI cJ cC cZ) t) (va_A [(w0, .inr (1, [.ref (q 0), .int (S.2.2 1)])), ((q 0), .inl (cC, n, .inl (S.1 0)))] sz)) 0 0 (va_A [(w0, .inr (1, [.ref (q 0), .int (S.2.2 1)])), ((q 0), .inl (cC, n, .inl (S.1 0)))] sz) := by
  refine Met.ofW (cc := gm_b_Row_at) (maxL := 2) (ret := (some .int)) (by decide) rfl ?_
  intro p e s m args below meth c s₁ B hml hv
  obtain ⟨rfl, hsz, hP, hK, hD0⟩ := hv
  have hx := B.exec
  have hb := B.bytes
  have hr := B.returns
  have hw : ∀ w ∈ gm_W, w.before _ s = true := fun w h => atoms_spec B.pre w (List.mem_cons_of_mem _ h)
  have hown : s.vm.findClass gm_R_Row = some m.cls := findClass_of_methodNamed B.named
  subst hsz
  have hD := hD0.self (sz := s.heap.size)
  generalize hAe : va_A [(w0, .inr (1, [.ref (q 0), .int (S.2.2 1)])), ((q 0), .inl (cC, n, .inl (S.1 0)))] s.heap.size = A at hD ⊢
  have hA : ∀ q : Nat, s.heap.size ≤ q → A q := fun q h => by rw [← hAe]; exact Or.inr h
  have hS : va_S A s.heap s.heap [] := va_S.rf
  have hl := lv_entry ([.ref w0, .int x]) (n := 2) (Nat.le_of_ble_eq_true rfl)
  rw [lg_entry_eq]
  generalize (lg_sl ([.ref w0, .int x]) ++ List.replicate (2 - (lg_sl ([.ref w0, .int x])).length) Slot.unset).toArray = ls at hl ⊢
  have hl : lv_has ls 2 [(0, .ref w0), (1, .int x)] := hl
  have hF := gm_f_Row_at.eq_1 n x S
  unfold gm_p_Row_at at hok
  refine lv_iload_n hx hb gm_d_Row_at_0 rfl (lv_at hl 1 rfl) ?_
  refine lv_if_lt (tgt := 21) hx hb gm_d_Row_at_1 (by decide) (fun c1 => ?_) (fun c1 => ?_)
  · skip
    have hF := hF.trans (if_pos c1)
    have hok := hok.1 c1
    refine lv_iconst (v := (-1)) hx hb gm_d_Row_at_21 (by decide) ?_
    exact W.iret (v := (-1)) hx hb hr (fun t ht hW => ⟨⟨(-1), S, rfl, hF.symm, by rw [ht]; exact hP, va_K.moved hW.alike hK, hD⟩, hS.F ht⟩) hS.2.2 gm_d_Row_at_22
  · skip
    have hF := hF.trans (if_neg c1)
    have hok := hok.2 c1
    refine lv_iload_n hx hb gm_d_Row_at_4 rfl (lv_at hl 1 rfl) ?_
    refine lv_aload_n hx hb gm_d_Row_at_5 rfl (lv_at hl 0 rfl) ?_
    refine va_get (D := D) (ci := 1) (v := .int (S.2.2 1)) (C := gm_R_Row) (T := gm_F_Row) (N := 2) hx hb hw gm_u_Row hown hK hP 0 rfl rfl 1 (by decide) (hw _ gm_l_Row_9) (fun _ h9 => h9) rfl gm_d_Row_at_6 ?_
    refine lv_icmp_ge (tgt := 21) hx hb gm_d_Row_at_9 (by decide) (fun c9 => ?_) (fun c9 => ?_)
    · skip
      have hF := hF.trans (if_pos c9)
      have hok := hok.1 c9
      refine lv_iconst (v := (-1)) hx hb gm_d_Row_at_21 (by decide) ?_
      exact W.iret (v := (-1)) hx hb hr (fun t ht hW => ⟨⟨(-1), S, rfl, hF.symm, by rw [ht]; exact hP, va_K.moved hW.alike hK, hD⟩, hS.F ht⟩) hS.2.2 gm_d_Row_at_22
    · skip
      have hF := hF.trans (if_neg c9)
      have hok := hok.2 c9
      refine lv_aload_n hx hb gm_d_Row_at_12 rfl (lv_at hl 0 rfl) ?_
      refine va_get (D := D) (ci := 1) (v := .ref (q 0)) (C := gm_R_Row) (T := gm_F_Row) (N := 2) hx hb hw gm_u_Row hown hK hP 0 rfl rfl 0 (by decide) (hw _ gm_l_Row_15) (fun _ h9 => h9) rfl gm_d_Row_at_13 ?_
      refine lv_iload_n hx hb gm_d_Row_at_16 rfl (lv_at hl 1 rfl) ?_
      have i17 := hok.1
      have hok := hok.2
      refine va_cald hx hb hK hP 1 2 rfl rfl i17 gm_d_Row_at_17 ?_
      refine lv_goto (tgt := 22) hx hb gm_d_Row_at_18 (by decide) ?_
      exact W.iret (v := ((S.1 0) (Int32.toNatClampNeg x))) hx hb hr (fun t ht hW => ⟨⟨((S.1 0) (Int32.toNatClampNeg x)), S, rfl, hF.symm, by rw [ht]; exact hP, va_K.moved hW.alike hK, hD⟩, hS.F ht⟩) hS.2.2 gm_d_Row_at_22
def gm_f_Captures_add (n : Nat) (x : Int32) (y : Int32) (S : gm_S) : Int32 × (gm_S) := (if (Int32.ofNat n) ≤ (S.2.2 2) then (0, S) else (0, ((va_up (va_up S.1 0 (upd (S.1 0) (Int32.toNatClampNeg (S.2.2 2)) x)) 1 (upd (S.1 1) (Int32.toNatClampNeg (S.2.2 2)) y)), S.2.1, (va_up S.2.2 2 ((S.2.2 2) + 1)))))
def gm_p_Captures_add (n : Nat) (x : Int32) (y : Int32) (S : gm_S) : Prop := (((Int32.ofNat n) ≤ (S.2.2 2) → True) ∧ (¬ ((Int32.ofNat n) ≤ (S.2.2 2)) → (vp_in (S.2.2 2) n ∧ (vp_in (S.2.2 2) n ∧ True))))
set_option maxHeartbeats 4000000 in
set_option maxRecDepth 100000 in
theorem gm_a_Captures_add (l : Launch) (D : va_G) (cI cJ cC cZ : ClassId) (h0 : Nat) (q : Nat → Nat) (n : Nat) (x : Int32) (y : Int32) (S : gm_S) (sz : Nat) (hok : gm_p_Captures_add n x y S) : Met l gm_y_Captures_add (Cond.code gm_y_Captures_add gm_b_Captures_add 3 none :: gm_W) { frames := 4, cells := 0, slots := 0, locals := 64 } (va_Pc [.ref h0, .int x, .int y] (fun U => U.heap.size = sz ∧ va_P D gm_cl [(h0, .inr (8, [.ref (q 0), .ref (q 1), .int (S.2.2 2)])), ((q 0), .inl (cI, n, .inl (S.1 0))), ((q 1), .inl (cI, n, .inl (S.1 1)))] U.heap ∧ va_K D gm_cl (gm_T cI cJ cC cZ) U ∧ va_D (fun _ => True) [(h0, .inr (8, [.ref (q 0), .ref (q 1), .int (S.2.2 2)])), ((q 0), .inl (cI, n, .inl (S.1 0))), ((q 1), .inl (cI, n, .inl (S.1 1)))])) (va_Qv (fun u : gm_S => (0, u) = gm_f_Captures_add n x y S) (fun u t => gm_at D (va_A [(h0, .inr (8, [.ref (q 0), .ref (q 1), .int (S.2.2 2)])), ((q 0), .inl (cI, n, .inl (S.1 0))), ((q 1), .inl (cI, n, .inl (S.1 1)))] sz) [(h0, .inr (8, [.ref (q 0), .ref (q 1), .int (u.2.2 2)])), ((q 0), .inl (cI, n, .inl (u.1 0))), ((q 1), .inl (cI, n, .inl (u.1 1)))] (gm_T cI cJ cC cZ) t) (va_A [(h0, .inr (8, [.ref (q 0), .ref (q 1), .int (S.2.2 2)])), ((q 0), .inl (cI, n, .inl (S.1 0))), ((q 1), .inl (cI, n, .inl (S.1 1)))] sz)) 0 0 (va_A [(h0, .inr (8, [.ref (q 0), .ref (q 1), .int (S.2.2 2)])), ((q 0), .inl (cI, n, .inl (S.1 0))), ((q 1), .inl (cI, n, .inl (S.1 1)))] sz) := by
  refine Met.ofW (cc := gm_b_Captures_add) (maxL := 3) (ret := none) (by decide) rfl ?_
  intro p e s m args below meth c s₁ B hml hv
  obtain ⟨rfl, hsz, hP, hK, hD0⟩ := hv
  have hx := B.exec
  have hb := B.bytes
  have hr := B.returns
  have hw : ∀ w ∈ gm_W, w.before _ s = true := fun w h => atoms_spec B.pre w (List.mem_cons_of_mem _ h)
  have hown : s.vm.findClass gm_R_Captures = some m.cls := findClass_of_methodNamed B.named
  subst hsz
  have hD := hD0.self (sz := s.heap.size)
  generalize hAe : va_A [(h0, .inr (8, [.ref (q 0), .ref (q 1), .int (S.2.2 2)])), ((q 0), .inl (cI, n, .inl (S.1 0))), ((q 1), .inl (cI, n, .inl (S.1 1)))] s.heap.size = A at hD ⊢
  have hA : ∀ q : Nat, s.heap.size ≤ q → A q := fun q h => by rw [← hAe]; exact Or.inr h
  have hS : va_S A s.heap s.heap [] := va_S.rf
  have hl := lv_entry ([.ref h0, .int x, .int y]) (n := 3) (Nat.le_of_ble_eq_true rfl)
  rw [lg_entry_eq]
  generalize (lg_sl ([.ref h0, .int x, .int y]) ++ List.replicate (3 - (lg_sl ([.ref h0, .int x, .int y])).length) Slot.unset).toArray = ls at hl ⊢
  have hl : lv_has ls 3 [(0, .ref h0), (1, .int x), (2, .int y)] := hl
  have hF := gm_f_Captures_add.eq_1 n x y S
  unfold gm_p_Captures_add at hok
  refine lv_aload_n hx hb gm_d_Captures_add_0 rfl (lv_at hl 0 rfl) ?_
  refine va_get (D := D) (ci := 8) (v := .int (S.2.2 2)) (C := gm_R_Captures) (T := gm_F_Captures) (N := 3) hx hb hw gm_u_Captures hown hK hP 0 rfl rfl 2 (by decide) (hw _ gm_l_Captures_9) (fun _ h9 => h9) rfl gm_d_Captures_add_1 ?_
  refine lv_aload_n hx hb gm_d_Captures_add_4 rfl (lv_at hl 0 rfl) ?_
  refine va_get (D := D) (ci := 8) (v := .ref (q 0)) (C := gm_R_Captures) (T := gm_F_Captures) (N := 3) hx hb hw gm_u_Captures hown hK hP 0 rfl rfl 0 (by decide) (hw _ gm_l_Captures_15) (fun _ h9 => h9) rfl gm_d_Captures_add_5 ?_
  refine va_alen (v := (Int32.ofNat n)) hx hb hK hP 1 0 rfl rfl rfl gm_d_Captures_add_8 ?_
  refine lv_icmp_ge (tgt := 42) hx hb gm_d_Captures_add_9 (by decide) (fun c9 => ?_) (fun c9 => ?_)
  · skip
    have hF := hF.trans (if_pos c9)
    have hok := hok.1 c9
    exact W.vret hx hb hr (fun t ht hW => ⟨⟨S, rfl, hF.symm, by rw [ht]; exact hP, va_K.moved hW.alike hK, hD⟩, hS.F ht⟩) hS.2.2 gm_d_Captures_add_42
  · skip
    have hF := hF.trans (if_neg c9)
    have hok := hok.2 c9
    refine lv_aload_n hx hb gm_d_Captures_add_12 rfl (lv_at hl 0 rfl) ?_
    refine va_get (D := D) (ci := 8) (v := .ref (q 0)) (C := gm_R_Captures) (T := gm_F_Captures) (N := 3) hx hb hw gm_u_Captures hown hK hP 0 rfl rfl 0 (by decide) (hw _ gm_l_Captures_15) (fun _ h9 => h9) rfl gm_d_Captures_add_13 ?_
    refine lv_aload_n hx hb gm_d_Captures_add_16 rfl (lv_at hl 0 rfl) ?_
    refine va_get (D := D) (ci := 8) (v := .int (S.2.2 2)) (C := gm_R_Captures) (T := gm_F_Captures) (N := 3) hx hb hw gm_u_Captures hown hK hP 0 rfl rfl 2 (by decide) (hw _ gm_l_Captures_9) (fun _ h9 => h9) rfl gm_d_Captures_add_17 ?_
    refine lv_iload_n hx hb gm_d_Captures_add_20 rfl (lv_at hl 1 rfl) ?_
    have i21 := hok.1
    have hok := hok.2
    refine va_iast hx hb hK hP hD hS 1 0 rfl rfl i21 gm_d_Captures_add_21 (fun H locs hP hD hS => ?_)
    have hP : va_P D gm_cl [(h0, .inr (8, [.ref (q 0), .ref (q 1), .int (S.2.2 2)])), ((q 0), .inl (cI, n, .inl (upd (S.1 0) (Int32.toNatClampNeg (S.2.2 2)) x))), ((q 1), .inl (cI, n, .inl (S.1 1)))] H := hP
    have hD : va_D A [(h0, .inr (8, [.ref (q 0), .ref (q 1), .int (S.2.2 2)])), ((q 0), .inl (cI, n, .inl (upd (S.1 0) (Int32.toNatClampNeg (S.2.2 2)) x))), ((q 1), .inl (cI, n, .inl (S.1 1)))] := hD
    refine lv_aload_n hx hb gm_d_Captures_add_22 rfl (lv_at hl 0 rfl) ?_
    refine va_get (D := D) (ci := 8) (v := .ref (q 1)) (C := gm_R_Captures) (T := gm_F_Captures) (N := 3) hx hb hw gm_u_Captures hown hK hP 0 rfl rfl 1 (by decide) (hw _ gm_l_Captures_19) (fun _ h9 => h9) rfl gm_d_Captures_add_23 ?_
    refine lv_aload_n hx hb gm_d_Captures_add_26 rfl (lv_at hl 0 rfl) ?_
    refine va_get (D := D) (ci := 8) (v := .int (S.2.2 2)) (C := gm_R_Captures) (T := gm_F_Captures) (N := 3) hx hb hw gm_u_Captures hown hK hP 0 rfl rfl 2 (by decide) (hw _ gm_l_Captures_9) (fun _ h9 => h9) rfl gm_d_Captures_add_27 ?_
    refine lv_iload_n hx hb gm_d_Captures_add_30 rfl (lv_at hl 2 rfl) ?_
    have i31 := hok.1
    have hok := hok.2
    refine va_iast hx hb hK hP hD hS 2 0 rfl rfl i31 gm_d_Captures_add_31 (fun H locs hP hD hS => ?_)
    have hP : va_P D gm_cl [(h0, .inr (8, [.ref (q 0), .ref (q 1), .int (S.2.2 2)])), ((q 0), .inl (cI, n, .inl (upd (S.1 0) (Int32.toNatClampNeg (S.2.2 2)) x))), ((q 1), .inl (cI, n, .inl (upd (S.1 1) (Int32.toNatClampNeg (S.2.2 2)) y)))] H := hP
    have hD : va_D A [(h0, .inr (8, [.ref (q 0), .ref (q 1), .int (S.2.2 2)])), ((q 0), .inl (cI, n, .inl (upd (S.1 0) (Int32.toNatClampNeg (S.2.2 2)) x))), ((q 1), .inl (cI, n, .inl (upd (S.1 1) (Int32.toNatClampNeg (S.2.2 2)) y)))] := hD
    refine lv_aload_n hx hb gm_d_Captures_add_32 rfl (lv_at hl 0 rfl) ?_
    refine lv_dup hx hb gm_d_Captures_add_33 rfl ?_
    refine va_get (D := D) (ci := 8) (v := .int (S.2.2 2)) (C := gm_R_Captures) (T := gm_F_Captures) (N := 3) hx hb hw gm_u_Captures hown hK hP 0 rfl rfl 2 (by decide) (hw _ gm_l_Captures_9) (fun _ h9 => h9) rfl gm_d_Captures_add_34 ?_
    refine lv_iconst (v := 1) hx hb gm_d_Captures_add_37 (by decide) ?_
    refine lv_iadd hx hb gm_d_Captures_add_38 ?_
    refine va_put (D := D) (ci := 8) (v := .int ((S.2.2 2) + 1)) (ty := .int) (C := gm_R_Captures) (T := gm_F_Captures) (N := 3) hx hb hw gm_u_Captures gm_t_Captures gm_o_Captures gm_n_Captures hown hK hP hD hS 0 rfl rfl 2 (by decide) (hw _ gm_l_Captures_9) (fun _ h9 => h9) rfl (by decide +kernel) rfl rfl (Nat.le_of_ble_eq_true rfl) gm_d_Captures_add_39 (fun H locs hP hD hS => ?_)
    have hP : va_P D gm_cl [(h0, .inr (8, [.ref (q 0), .ref (q 1), .int ((S.2.2 2) + 1)])), ((q 0), .inl (cI, n, .inl (upd (S.1 0) (Int32.toNatClampNeg (S.2.2 2)) x))), ((q 1), .inl (cI, n, .inl (upd (S.1 1) (Int32.toNatClampNeg (S.2.2 2)) y)))] H := hP
    have hD : va_D A [(h0, .inr (8, [.ref (q 0), .ref (q 1), .int ((S.2.2 2) + 1)])), ((q 0), .inl (cI, n, .inl (upd (S.1 0) (Int32.toNatClampNeg (S.2.2 2)) x))), ((q 1), .inl (cI, n, .inl (upd (S.1 1) (Int32.toNatClampNeg (S.2.2 2)) y)))] := hD
    have hP : va_P D gm_cl [(h0, .inr (8, [.ref (q 0), .ref (q 1), .int ((S.2.2 2) + 1)])), ((q 0), .inl (cI, n, .inl (upd (S.1 0) (Int32.toNatClampNeg (S.2.2 2)) x))), ((q 1), .inl (cI, n, .inl (upd (S.1 1) (Int32.toNatClampNeg (S.2.2 2)) y)))] H := hP
    have hD : va_D A [(h0, .inr (8, [.ref (q 0), .ref (q 1), .int ((S.2.2 2) + 1)])), ((q 0), .inl (cI, n, .inl (upd (S.1 0) (Int32.toNatClampNeg (S.2.2 2)) x))), ((q 1), .inl (cI, n, .inl (upd (S.1 1) (Int32.toNatClampNeg (S.2.2 2)) y)))] := hD
    exact W.vret hx hb hr (fun t ht hW => ⟨⟨((va_up (va_up S.1 0 (upd (S.1 0) (Int32.toNatClampNeg (S.2.2 2)) x)) 1 (upd (S.1 1) (Int32.toNatClampNeg (S.2.2 2)) y)), S.2.1, (va_up S.2.2 2 ((S.2.2 2) + 1))), rfl, hF.symm, by rw [ht]; exact hP, va_K.moved hW.alike hK, hD⟩, hS.F ht⟩) hS.2.2 gm_d_Captures_add_42
def gm_f_Captures_closeLatest_7 (n : Nat) (x : Int32) (S : gm_S) : Nat → Int32 → gm_S → Int32 × (gm_S)
  | 0, _, S_7 => (0, S_7)
  | n7 + 1, v2_7, S_7 => (if v2_7 < 0 then (0, ((va_up S.1 1 (S_7.1 1)), S.2.1, S.2.2)) else (if ((S_7.1 1) (Int32.toNatClampNeg v2_7)) = (-1) then (0, ((va_up S.1 1 (upd (S_7.1 1) (Int32.toNatClampNeg v2_7) x)), S.2.1, S.2.2)) else (gm_f_Captures_closeLatest_7 n x S n7 (v2_7 + (-1)) ((va_up S.1 1 (S_7.1 1)), S.2.1, S.2.2))))
def gm_p_Captures_closeLatest_7 (n : Nat) (x : Int32) (S : gm_S) : Nat → Int32 → gm_S → Prop
  | 0, _, _ => False
  | n7 + 1, v2_7, S_7 => ((v2_7 < 0 → True) ∧ (¬ (v2_7 < 0) → (vp_in v2_7 n ∧ ((((S_7.1 1) (Int32.toNatClampNeg v2_7)) = (-1) → (vp_in v2_7 n ∧ True)) ∧ (¬ (((S_7.1 1) (Int32.toNatClampNeg v2_7)) = (-1)) → (gm_p_Captures_closeLatest_7 n x S n7 (v2_7 + (-1)) ((va_up S.1 1 (S_7.1 1)), S.2.1, S.2.2)))))))
def gm_f_Captures_closeLatest (n : Nat) (x : Int32) (S : gm_S) : Int32 × (gm_S) := (gm_f_Captures_closeLatest_7 n x S 6000 ((S.2.2 2) - 1) S)
def gm_p_Captures_closeLatest (n : Nat) (x : Int32) (S : gm_S) : Prop := (gm_p_Captures_closeLatest_7 n x S 6000 ((S.2.2 2) - 1) S)
set_option maxHeartbeats 4000000 in
set_option maxRecDepth 100000 in
theorem gm_a_Captures_closeLatest (l : Launch) (D : va_G) (cI cJ cC cZ : ClassId) (h0 : Nat) (q : Nat → Nat) (n : Nat) (x : Int32) (S : gm_S) (sz : Nat) (hok : gm_p_Captures_closeLatest n x S) : Met l gm_y_Captures_closeLatest (Cond.code gm_y_Captures_closeLatest gm_b_Captures_closeLatest 3 none :: gm_W) { frames := 4, cells := 0, slots := 0, locals := 64 } (va_Pc [.ref h0, .int x] (fun U => U.heap.size = sz ∧ va_P D gm_cl [(h0, .inr (8, [.ref (q 0), .ref (q 1), .int (S.2.2 2)])), ((q 1), .inl (cI, n, .inl (S.1 1)))] U.heap ∧ va_K D gm_cl (gm_T cI cJ cC cZ) U ∧ va_D (fun _ => True) [(h0, .inr (8, [.ref (q 0), .ref (q 1), .int (S.2.2 2)])), ((q 1), .inl (cI, n, .inl (S.1 1)))])) (va_Qv (fun u : gm_S => (0, u) = gm_f_Captures_closeLatest n x S) (fun u t => gm_at D (va_A [(h0, .inr (8, [.ref (q 0), .ref (q 1), .int (S.2.2 2)])), ((q 1), .inl (cI, n, .inl (S.1 1)))] sz) [(h0, .inr (8, [.ref (q 0), .ref (q 1), .int (S.2.2 2)])), ((q 1), .inl (cI, n, .inl (u.1 1)))] (gm_T cI cJ cC cZ) t) (va_A [(h0, .inr (8, [.ref (q 0), .ref (q 1), .int (S.2.2 2)])), ((q 1), .inl (cI, n, .inl (S.1 1)))] sz)) 0 0 (va_A [(h0, .inr (8, [.ref (q 0), .ref (q 1), .int (S.2.2 2)])), ((q 1), .inl (cI, n, .inl (S.1 1)))] sz) := by
  refine Met.ofW (cc := gm_b_Captures_closeLatest) (maxL := 3) (ret := none) (by decide) rfl ?_
  intro p e s m args below meth c s₁ B hml hv
  obtain ⟨rfl, hsz, hP, hK, hD0⟩ := hv
  have hx := B.exec
  have hb := B.bytes
  have hr := B.returns
  have hw : ∀ w ∈ gm_W, w.before _ s = true := fun w h => atoms_spec B.pre w (List.mem_cons_of_mem _ h)
  have hown : s.vm.findClass gm_R_Captures = some m.cls := findClass_of_methodNamed B.named
  subst hsz
  have hD := hD0.self (sz := s.heap.size)
  generalize hAe : va_A [(h0, .inr (8, [.ref (q 0), .ref (q 1), .int (S.2.2 2)])), ((q 1), .inl (cI, n, .inl (S.1 1)))] s.heap.size = A at hD ⊢
  have hA : ∀ q : Nat, s.heap.size ≤ q → A q := fun q h => by rw [← hAe]; exact Or.inr h
  have hS : va_S A s.heap s.heap [] := va_S.rf
  have hl := lv_entry ([.ref h0, .int x]) (n := 3) (Nat.le_of_ble_eq_true rfl)
  rw [lg_entry_eq]
  generalize (lg_sl ([.ref h0, .int x]) ++ List.replicate (3 - (lg_sl ([.ref h0, .int x])).length) Slot.unset).toArray = ls at hl ⊢
  have hl : lv_has ls 3 [(0, .ref h0), (1, .int x)] := hl
  have hF := gm_f_Captures_closeLatest.eq_1 n x S
  unfold gm_p_Captures_closeLatest at hok
  refine lv_aload_n hx hb gm_d_Captures_closeLatest_0 rfl (lv_at hl 0 rfl) ?_
  refine va_get (D := D) (ci := 8) (v := .int (S.2.2 2)) (C := gm_R_Captures) (T := gm_F_Captures) (N := 3) hx hb hw gm_u_Captures hown hK hP 0 rfl rfl 2 (by decide) (hw _ gm_l_Captures_9) (fun _ h9 => h9) rfl gm_d_Captures_closeLatest_1 ?_
  refine lv_iconst (v := 1) hx hb gm_d_Captures_closeLatest_4 (by decide) ?_
  refine lv_isub hx hb gm_d_Captures_closeLatest_5 ?_
  refine lv_istore_n (lv' := [(2, .int ((S.2.2 2) - 1)), (0, .ref h0), (1, .int x)]) hx hb gm_d_Captures_closeLatest_6 rfl hl (Nat.le_of_ble_eq_true rfl) rfl (fun ls hl => ?_)
  refine (?_ : ∀ (n7 : Nat) (v2_7 : Int32) (S_7 : gm_S) (H : Heap) (locs : List Loc) (ls : Array Slot), lv_has ls 3 [(2, .int v2_7), (0, .ref h0), (1, .int x)] → va_P D gm_cl [(h0, .inr (8, [.ref (q 0), .ref (q 1), .int (S.2.2 2)])), ((q 1), .inl (cI, n, .inl (S_7.1 1)))] H → va_D A [(h0, .inr (8, [.ref (q 0), .ref (q 1), .int (S.2.2 2)])), ((q 1), .inl (cI, n, .inl (S_7.1 1)))] → va_S A s.heap H locs → gm_f_Captures_closeLatest n x S = gm_f_Captures_closeLatest_7 n x S n7 v2_7 S_7 → gm_p_Captures_closeLatest_7 n x S n7 v2_7 S_7 → W p l e (headSpec (Cond.code gm_y_Captures_closeLatest gm_b_Captures_closeLatest 3 none :: gm_W) { frames := 4, cells := 0, slots := 0, locals := 64 }).room s m ([.ref h0, .int x] : List Value).toArray below meth c H locs 0 0 (MQ below (va_Qv (fun u : gm_S => (0, u) = gm_f_Captures_closeLatest n x S) (fun u t => gm_at D A [(h0, .inr (8, [.ref (q 0), .ref (q 1), .int (S.2.2 2)])), ((q 1), .inl (cI, n, .inl (u.1 1)))] (gm_T cI cJ cC cZ) t) A) ([.ref h0, .int x] : List Value).toArray s 0 0 A) (F0 m 7 ls [])) 6000 ((S.2.2 2) - 1) S _ _ _ hl hP hD hS hF hok
  clear hok hF hP hD hS hl
  intro n7
  induction n7 with
  | zero => intro v2_7 S_7 H locs ls hl hP hD hS hF hok; exact hok.elim
  | succ n7 ih7 =>
    intro v2_7 S_7 H locs ls hl hP hD hS hF hok
    rw [gm_f_Captures_closeLatest_7] at hF
    rw [gm_p_Captures_closeLatest_7] at hok
    refine lv_iload_n hx hb gm_d_Captures_closeLatest_7 rfl (lv_at hl 0 rfl) ?_
    refine lv_if_lt (tgt := 35) hx hb gm_d_Captures_closeLatest_8 (by decide) (fun c8 => ?_) (fun c8 => ?_)
    · skip
      have hF := hF.trans (if_pos c8)
      have hok := hok.1 c8
      exact W.vret hx hb hr (fun t ht hW => ⟨⟨((va_up S.1 1 (S_7.1 1)), S.2.1, S.2.2), rfl, hF.symm, by rw [ht]; exact hP, va_K.moved hW.alike hK, hD⟩, hS.F ht⟩) hS.2.2 gm_d_Captures_closeLatest_35
    · skip
      have hF := hF.trans (if_neg c8)
      have hok := hok.2 c8
      refine lv_aload_n hx hb gm_d_Captures_closeLatest_11 rfl (lv_at hl 1 rfl) ?_
      refine va_get (D := D) (ci := 8) (v := .ref (q 1)) (C := gm_R_Captures) (T := gm_F_Captures) (N := 3) hx hb hw gm_u_Captures hown hK hP 0 rfl rfl 1 (by decide) (hw _ gm_l_Captures_19) (fun _ h9 => h9) rfl gm_d_Captures_closeLatest_12 ?_
      refine lv_iload_n hx hb gm_d_Captures_closeLatest_15 rfl (lv_at hl 0 rfl) ?_
      have i16 := hok.1
      have hok := hok.2
      refine va_iald hx hb hK hP 1 0 rfl rfl i16 gm_d_Captures_closeLatest_16 ?_
      refine lv_iconst (v := (-1)) hx hb gm_d_Captures_closeLatest_17 (by decide) ?_
      refine lv_icmp_ne (tgt := 29) hx hb gm_d_Captures_closeLatest_18 (by decide) (fun c18 => ?_) (fun c18 => ?_)
      · skip
        have hF := hF.trans (if_neg c18)
        have hok := hok.2 c18
        refine lv_iinc (lv' := [(2, .int (v2_7 + (-1))), (0, .ref h0), (1, .int x)]) (k := 0) (v := (v2_7 + (-1))) hx hb gm_d_Captures_closeLatest_29 hl rfl rfl (Nat.le_of_ble_eq_true rfl) rfl (fun ls hl => ?_)
        refine lv_goto (tgt := 7) hx hb gm_d_Captures_closeLatest_32 (by decide) ?_
        exact ih7 (v2_7 + (-1)) ((va_up S.1 1 (S_7.1 1)), S.2.1, S.2.2) _ _ _ (lv_sub hl [0, 1, 2] rfl) hP hD hS hF hok
      · skip
        have hF := hF.trans (if_pos c18)
        have hok := hok.1 c18
        refine lv_aload_n hx hb gm_d_Captures_closeLatest_21 rfl (lv_at hl 1 rfl) ?_
        refine va_get (D := D) (ci := 8) (v := .ref (q 1)) (C := gm_R_Captures) (T := gm_F_Captures) (N := 3) hx hb hw gm_u_Captures hown hK hP 0 rfl rfl 1 (by decide) (hw _ gm_l_Captures_19) (fun _ h9 => h9) rfl gm_d_Captures_closeLatest_22 ?_
        refine lv_iload_n hx hb gm_d_Captures_closeLatest_25 rfl (lv_at hl 0 rfl) ?_
        refine lv_iload_n hx hb gm_d_Captures_closeLatest_26 rfl (lv_at hl 2 rfl) ?_
        have i27 := hok.1
        have hok := hok.2
        refine va_iast hx hb hK hP hD hS 1 0 rfl rfl i27 gm_d_Captures_closeLatest_27 (fun H locs hP hD hS => ?_)
        have hP : va_P D gm_cl [(h0, .inr (8, [.ref (q 0), .ref (q 1), .int (S.2.2 2)])), ((q 1), .inl (cI, n, .inl (upd (S_7.1 1) (Int32.toNatClampNeg v2_7) x)))] H := hP
        have hD : va_D A [(h0, .inr (8, [.ref (q 0), .ref (q 1), .int (S.2.2 2)])), ((q 1), .inl (cI, n, .inl (upd (S_7.1 1) (Int32.toNatClampNeg v2_7) x)))] := hD
        exact W.vret hx hb hr (fun t ht hW => ⟨⟨((va_up S.1 1 (upd (S_7.1 1) (Int32.toNatClampNeg v2_7) x)), S.2.1, S.2.2), rfl, hF.symm, by rw [ht]; exact hP, va_K.moved hW.alike hK, hD⟩, hS.F ht⟩) hS.2.2 gm_d_Captures_closeLatest_28
def gm_f_Captures_cutTo (n : Nat) (x : Int32) (S : gm_S) : Int32 × (gm_S) := (if x < 0 then (0, S) else (if (S.2.2 2) ≤ x then (0, S) else (0, (S.1, S.2.1, (va_up S.2.2 2 x)))))
def gm_p_Captures_cutTo (n : Nat) (x : Int32) (S : gm_S) : Prop := ((x < 0 → True) ∧ (¬ (x < 0) → (((S.2.2 2) ≤ x → True) ∧ (¬ ((S.2.2 2) ≤ x) → True))))
set_option maxHeartbeats 4000000 in
set_option maxRecDepth 100000 in
theorem gm_a_Captures_cutTo (l : Launch) (D : va_G) (cI cJ cC cZ : ClassId) (h0 : Nat) (q : Nat → Nat) (n : Nat) (x : Int32) (S : gm_S) (sz : Nat) (hok : gm_p_Captures_cutTo n x S) : Met l gm_y_Captures_cutTo (Cond.code gm_y_Captures_cutTo gm_b_Captures_cutTo 2 none :: gm_W) { frames := 4, cells := 0, slots := 0, locals := 64 } (va_Pc [.ref h0, .int x] (fun U => U.heap.size = sz ∧ va_P D gm_cl [(h0, .inr (8, [.ref (q 0), .ref (q 1), .int (S.2.2 2)]))] U.heap ∧ va_K D gm_cl (gm_T cI cJ cC cZ) U ∧ va_D (fun _ => True) [(h0, .inr (8, [.ref (q 0), .ref (q 1), .int (S.2.2 2)]))])) (va_Qv (fun u : gm_S => (0, u) = gm_f_Captures_cutTo n x S) (fun u t => gm_at D (va_A [(h0, .inr (8, [.ref (q 0), .ref (q 1), .int (S.2.2 2)]))] sz) [(h0, .inr (8, [.ref (q 0), .ref (q 1), .int (u.2.2 2)]))] (gm_T cI cJ cC cZ) t) (va_A [(h0, .inr (8, [.ref (q 0), .ref (q 1), .int (S.2.2 2)]))] sz)) 0 0 (va_A [(h0, .inr (8, [.ref (q 0), .ref (q 1), .int (S.2.2 2)]))] sz) := by
  refine Met.ofW (cc := gm_b_Captures_cutTo) (maxL := 2) (ret := none) (by decide) rfl ?_
  intro p e s m args below meth c s₁ B hml hv
  obtain ⟨rfl, hsz, hP, hK, hD0⟩ := hv
  have hx := B.exec
  have hb := B.bytes
  have hr := B.returns
  have hw : ∀ w ∈ gm_W, w.before _ s = true := fun w h => atoms_spec B.pre w (List.mem_cons_of_mem _ h)
  have hown : s.vm.findClass gm_R_Captures = some m.cls := findClass_of_methodNamed B.named
  subst hsz
  have hD := hD0.self (sz := s.heap.size)
  generalize hAe : va_A [(h0, .inr (8, [.ref (q 0), .ref (q 1), .int (S.2.2 2)]))] s.heap.size = A at hD ⊢
  have hA : ∀ q : Nat, s.heap.size ≤ q → A q := fun q h => by rw [← hAe]; exact Or.inr h
  have hS : va_S A s.heap s.heap [] := va_S.rf
  have hl := lv_entry ([.ref h0, .int x]) (n := 2) (Nat.le_of_ble_eq_true rfl)
  rw [lg_entry_eq]
  generalize (lg_sl ([.ref h0, .int x]) ++ List.replicate (2 - (lg_sl ([.ref h0, .int x])).length) Slot.unset).toArray = ls at hl ⊢
  have hl : lv_has ls 2 [(0, .ref h0), (1, .int x)] := hl
  have hF := gm_f_Captures_cutTo.eq_1 n x S
  unfold gm_p_Captures_cutTo at hok
  refine lv_iload_n hx hb gm_d_Captures_cutTo_0 rfl (lv_at hl 1 rfl) ?_
  refine lv_if_lt (tgt := 17) hx hb gm_d_Captures_cutTo_1 (by decide) (fun c1 => ?_) (fun c1 => ?_)
  · skip
    have hF := hF.trans (if_pos c1)
    have hok := hok.1 c1
    exact W.vret hx hb hr (fun t ht hW => ⟨⟨S, rfl, hF.symm, by rw [ht]; exact hP, va_K.moved hW.alike hK, hD⟩, hS.F ht⟩) hS.2.2 gm_d_Captures_cutTo_17
  · skip
    have hF := hF.trans (if_neg c1)
    have hok := hok.2 c1
    refine lv_iload_n hx hb gm_d_Captures_cutTo_4 rfl (lv_at hl 1 rfl) ?_
    refine lv_aload_n hx hb gm_d_Captures_cutTo_5 rfl (lv_at hl 0 rfl) ?_
    refine va_get (D := D) (ci := 8) (v := .int (S.2.2 2)) (C := gm_R_Captures) (T := gm_F_Captures) (N := 3) hx hb hw gm_u_Captures hown hK hP 0 rfl rfl 2 (by decide) (hw _ gm_l_Captures_9) (fun _ h9 => h9) rfl gm_d_Captures_cutTo_6 ?_
    refine lv_icmp_ge (tgt := 17) hx hb gm_d_Captures_cutTo_9 (by decide) (fun c9 => ?_) (fun c9 => ?_)
    · skip
      have hF := hF.trans (if_pos c9)
      have hok := hok.1 c9
      exact W.vret hx hb hr (fun t ht hW => ⟨⟨S, rfl, hF.symm, by rw [ht]; exact hP, va_K.moved hW.alike hK, hD⟩, hS.F ht⟩) hS.2.2 gm_d_Captures_cutTo_17
    · skip
      have hF := hF.trans (if_neg c9)
      have hok := hok.2 c9
      refine lv_aload_n hx hb gm_d_Captures_cutTo_12 rfl (lv_at hl 0 rfl) ?_
      refine lv_iload_n hx hb gm_d_Captures_cutTo_13 rfl (lv_at hl 1 rfl) ?_
      refine va_put (D := D) (ci := 8) (v := .int x) (ty := .int) (C := gm_R_Captures) (T := gm_F_Captures) (N := 3) hx hb hw gm_u_Captures gm_t_Captures gm_o_Captures gm_n_Captures hown hK hP hD hS 0 rfl rfl 2 (by decide) (hw _ gm_l_Captures_9) (fun _ h9 => h9) rfl (by decide +kernel) rfl rfl (Nat.le_of_ble_eq_true rfl) gm_d_Captures_cutTo_14 (fun H locs hP hD hS => ?_)
      have hP : va_P D gm_cl [(h0, .inr (8, [.ref (q 0), .ref (q 1), .int x]))] H := hP
      have hD : va_D A [(h0, .inr (8, [.ref (q 0), .ref (q 1), .int x]))] := hD
      have hP : va_P D gm_cl [(h0, .inr (8, [.ref (q 0), .ref (q 1), .int x]))] H := hP
      have hD : va_D A [(h0, .inr (8, [.ref (q 0), .ref (q 1), .int x]))] := hD
      exact W.vret hx hb hr (fun t ht hW => ⟨⟨(S.1, S.2.1, (va_up S.2.2 2 x)), rfl, hF.symm, by rw [ht]; exact hP, va_K.moved hW.alike hK, hD⟩, hS.F ht⟩) hS.2.2 gm_d_Captures_cutTo_17
def gm_f_Captures_outerOf_4 (n : Nat) (x : Int32) (S : gm_S) : Nat → Int32 → gm_S → Int32 × (gm_S)
  | 0, _, S_4 => (0, S_4)
  | n4 + 1, v2_4, S_4 => (if v2_4 < 0 then ((-1), S) else (if ((S.1 1) (Int32.toNatClampNeg v2_4)) < ((S.1 1) (Int32.toNatClampNeg x)) then (gm_f_Captures_outerOf_4 n x S n4 (v2_4 + (-1)) S) else (v2_4, S)))
def gm_p_Captures_outerOf_4 (n : Nat) (x : Int32) (S : gm_S) : Nat → Int32 → gm_S → Prop
  | 0, _, _ => False
  | n4 + 1, v2_4, S_4 => ((v2_4 < 0 → True) ∧ (¬ (v2_4 < 0) → (vp_in v2_4 n ∧ (vp_in x n ∧ ((((S.1 1) (Int32.toNatClampNeg v2_4)) < ((S.1 1) (Int32.toNatClampNeg x)) → (gm_p_Captures_outerOf_4 n x S n4 (v2_4 + (-1)) S)) ∧ (¬ (((S.1 1) (Int32.toNatClampNeg v2_4)) < ((S.1 1) (Int32.toNatClampNeg x))) → True))))))
def gm_f_Captures_outerOf (n : Nat) (x : Int32) (S : gm_S) : Int32 × (gm_S) := (gm_f_Captures_outerOf_4 n x S 6000 (x - 1) S)
def gm_p_Captures_outerOf (n : Nat) (x : Int32) (S : gm_S) : Prop := (gm_p_Captures_outerOf_4 n x S 6000 (x - 1) S)
set_option maxHeartbeats 4000000 in
set_option maxRecDepth 100000 in
theorem gm_a_Captures_outerOf (l : Launch) (D : va_G) (cI cJ cC cZ : ClassId) (h0 : Nat) (q : Nat → Nat) (n : Nat) (x : Int32) (S : gm_S) (sz : Nat) (hok : gm_p_Captures_outerOf n x S) : Met l gm_y_Captures_outerOf (Cond.code gm_y_Captures_outerOf gm_b_Captures_outerOf 3 (some .int) :: gm_W) { frames := 4, cells := 0, slots := 0, locals := 64 } (va_Pc [.ref h0, .int x] (fun U => U.heap.size = sz ∧ va_P D gm_cl [(h0, .inr (8, [.ref (q 0), .ref (q 1), .int (S.2.2 2)])), ((q 1), .inl (cI, n, .inl (S.1 1)))] U.heap ∧ va_K D gm_cl (gm_T cI cJ cC cZ) U ∧ va_D (fun _ => True) [(h0, .inr (8, [.ref (q 0), .ref (q 1), .int (S.2.2 2)])), ((q 1), .inl (cI, n, .inl (S.1 1)))])) (va_Qi (fun (r : Int32) (u : gm_S) => (r, u) = gm_f_Captures_outerOf n x S) (fun u t => gm_at D (va_A [(h0, .inr (8, [.ref (q 0), .ref (q 1), .int (S.2.2 2)])), ((q 1), .inl (cI, n, .inl (S.1 1)))] sz) [(h0, .inr (8, [.ref (q 0), .ref (q 1), .int (S.2.2 2)])), ((q 1), .inl (cI, n, .inl (S.1 1)))] (gm_T cI cJ cC cZ) t) (va_A [(h0, .inr (8, [.ref (q 0), .ref (q 1), .int (S.2.2 2)])), ((q 1), .inl (cI, n, .inl (S.1 1)))] sz)) 0 0 (va_A [(h0, .inr (8, [.ref (q 0), .ref (q 1), .int (S.2.2 2)])), ((q 1), .inl (cI, n, .inl (S.1 1)))] sz) := by
  refine Met.ofW (cc := gm_b_Captures_outerOf) (maxL := 3) (ret := (some .int)) (by decide) rfl ?_
  intro p e s m args below meth c s₁ B hml hv
  obtain ⟨rfl, hsz, hP, hK, hD0⟩ := hv
  have hx := B.exec
  have hb := B.bytes
  have hr := B.returns
  have hw : ∀ w ∈ gm_W, w.before _ s = true := fun w h => atoms_spec B.pre w (List.mem_cons_of_mem _ h)
  have hown : s.vm.findClass gm_R_Captures = some m.cls := findClass_of_methodNamed B.named
  subst hsz
  have hD := hD0.self (sz := s.heap.size)
  generalize hAe : va_A [(h0, .inr (8, [.ref (q 0), .ref (q 1), .int (S.2.2 2)])), ((q 1), .inl (cI, n, .inl (S.1 1)))] s.heap.size = A at hD ⊢
  have hA : ∀ q : Nat, s.heap.size ≤ q → A q := fun q h => by rw [← hAe]; exact Or.inr h
  have hS : va_S A s.heap s.heap [] := va_S.rf
  have hl := lv_entry ([.ref h0, .int x]) (n := 3) (Nat.le_of_ble_eq_true rfl)
  rw [lg_entry_eq]
  generalize (lg_sl ([.ref h0, .int x]) ++ List.replicate (3 - (lg_sl ([.ref h0, .int x])).length) Slot.unset).toArray = ls at hl ⊢
  have hl : lv_has ls 3 [(0, .ref h0), (1, .int x)] := hl
  have hF := gm_f_Captures_outerOf.eq_1 n x S
  unfold gm_p_Captures_outerOf at hok
  refine lv_iload_n hx hb gm_d_Captures_outerOf_0 rfl (lv_at hl 1 rfl) ?_
  refine lv_iconst (v := 1) hx hb gm_d_Captures_outerOf_1 (by decide) ?_
  refine lv_isub hx hb gm_d_Captures_outerOf_2 ?_
  refine lv_istore_n (lv' := [(2, .int (x - 1)), (0, .ref h0), (1, .int x)]) hx hb gm_d_Captures_outerOf_3 rfl hl (Nat.le_of_ble_eq_true rfl) rfl (fun ls hl => ?_)
  refine (?_ : ∀ (n4 : Nat) (v2_4 : Int32) (S_4 : gm_S) (H : Heap) (locs : List Loc) (ls : Array Slot), lv_has ls 3 [(2, .int v2_4), (0, .ref h0), (1, .int x)] → va_P D gm_cl [(h0, .inr (8, [.ref (q 0), .ref (q 1), .int (S.2.2 2)])), ((q 1), .inl (cI, n, .inl (S.1 1)))] H → va_D A [(h0, .inr (8, [.ref (q 0), .ref (q 1), .int (S.2.2 2)])), ((q 1), .inl (cI, n, .inl (S.1 1)))] → va_S A s.heap H locs → gm_f_Captures_outerOf n x S = gm_f_Captures_outerOf_4 n x S n4 v2_4 S_4 → gm_p_Captures_outerOf_4 n x S n4 v2_4 S_4 → W p l e (headSpec (Cond.code gm_y_Captures_outerOf gm_b_Captures_outerOf 3 (some .int) :: gm_W) { frames := 4, cells := 0, slots := 0, locals := 64 }).room s m ([.ref h0, .int x] : List Value).toArray below meth c H locs 0 0 (MQ below (va_Qi (fun (r : Int32) (u : gm_S) => (r, u) = gm_f_Captures_outerOf n x S) (fun u t => gm_at D A [(h0, .inr (8, [.ref (q 0), .ref (q 1), .int (S.2.2 2)])), ((q 1), .inl (cI, n, .inl (S.1 1)))] (gm_T cI cJ cC cZ) t) A) ([.ref h0, .int x] : List Value).toArray s 0 0 A) (F0 m 4 ls [])) 6000 (x - 1) S _ _ _ hl hP hD hS hF hok
  clear hok hF hP hD hS hl
  intro n4
  induction n4 with
  | zero => intro v2_4 S_4 H locs ls hl hP hD hS hF hok; exact hok.elim
  | succ n4 ih4 =>
    intro v2_4 S_4 H locs ls hl hP hD hS hF hok
    rw [gm_f_Captures_outerOf_4] at hF
    rw [gm_p_Captures_outerOf_4] at hok
    refine lv_iload_n hx hb gm_d_Captures_outerOf_4 rfl (lv_at hl 0 rfl) ?_
    refine lv_if_lt (tgt := 31) hx hb gm_d_Captures_outerOf_5 (by decide) (fun c5 => ?_) (fun c5 => ?_)
    · skip
      have hF := hF.trans (if_pos c5)
      have hok := hok.1 c5
      refine lv_iconst (v := (-1)) hx hb gm_d_Captures_outerOf_31 (by decide) ?_
      exact W.iret (v := (-1)) hx hb hr (fun t ht hW => ⟨⟨(-1), S, rfl, hF.symm, by rw [ht]; exact hP, va_K.moved hW.alike hK, hD⟩, hS.F ht⟩) hS.2.2 gm_d_Captures_outerOf_32
    · skip
      have hF := hF.trans (if_neg c5)
      have hok := hok.2 c5
      refine lv_aload_n hx hb gm_d_Captures_outerOf_8 rfl (lv_at hl 1 rfl) ?_
      refine va_get (D := D) (ci := 8) (v := .ref (q 1)) (C := gm_R_Captures) (T := gm_F_Captures) (N := 3) hx hb hw gm_u_Captures hown hK hP 0 rfl rfl 1 (by decide) (hw _ gm_l_Captures_19) (fun _ h9 => h9) rfl gm_d_Captures_outerOf_9 ?_
      refine lv_iload_n hx hb gm_d_Captures_outerOf_12 rfl (lv_at hl 0 rfl) ?_
      have i13 := hok.1
      have hok := hok.2
      refine va_iald hx hb hK hP 1 0 rfl rfl i13 gm_d_Captures_outerOf_13 ?_
      refine lv_aload_n hx hb gm_d_Captures_outerOf_14 rfl (lv_at hl 1 rfl) ?_
      refine va_get (D := D) (ci := 8) (v := .ref (q 1)) (C := gm_R_Captures) (T := gm_F_Captures) (N := 3) hx hb hw gm_u_Captures hown hK hP 0 rfl rfl 1 (by decide) (hw _ gm_l_Captures_19) (fun _ h9 => h9) rfl gm_d_Captures_outerOf_15 ?_
      refine lv_iload_n hx hb gm_d_Captures_outerOf_18 rfl (lv_at hl 2 rfl) ?_
      have i19 := hok.1
      have hok := hok.2
      refine va_iald hx hb hK hP 1 0 rfl rfl i19 gm_d_Captures_outerOf_19 ?_
      refine lv_icmp_lt (tgt := 25) hx hb gm_d_Captures_outerOf_20 (by decide) (fun c20 => ?_) (fun c20 => ?_)
      · skip
        have hF := hF.trans (if_pos c20)
        have hok := hok.1 c20
        refine lv_iinc (lv' := [(2, .int (v2_4 + (-1))), (0, .ref h0), (1, .int x)]) (k := 0) (v := (v2_4 + (-1))) hx hb gm_d_Captures_outerOf_25 hl rfl rfl (Nat.le_of_ble_eq_true rfl) rfl (fun ls hl => ?_)
        refine lv_goto (tgt := 4) hx hb gm_d_Captures_outerOf_28 (by decide) ?_
        exact ih4 (v2_4 + (-1)) S _ _ _ (lv_sub hl [0, 1, 2] rfl) hP hD hS hF hok
      · skip
        have hF := hF.trans (if_neg c20)
        have hok := hok.2 c20
        refine lv_iload_n hx hb gm_d_Captures_outerOf_23 rfl (lv_at hl 0 rfl) ?_
        exact W.iret (v := v2_4) hx hb hr (fun t ht hW => ⟨⟨v2_4, S, rfl, hF.symm, by rw [ht]; exact hP, va_K.moved hW.alike hK, hD⟩, hS.F ht⟩) hS.2.2 gm_d_Captures_outerOf_24
def gm_f_Captures_addFrom_3 (n : Nat) (n1 : Nat) (x : Int32) (y : Int32) (S : gm_S × gm_S) : Nat → Int32 → gm_S × gm_S → Int32 × (gm_S × gm_S)
  | 0, _, S_3 => (0, S_3)
  | n3 + 1, v4_3, S_3 => (if y ≤ v4_3 then (0, (((va_up (va_up S.1.1 0 (S_3.1.1 0)) 1 (S_3.1.1 1)), S.1.2.1, (va_up S.1.2.2 2 (S_3.1.2.2 2))), S.2)) else (if v4_3 < 0 then (0, (((va_up (va_up S.1.1 0 (S_3.1.1 0)) 1 (S_3.1.1 1)), S.1.2.1, (va_up S.1.2.2 2 (S_3.1.2.2 2))), S.2)) else (if (S.2.2.2 2) ≤ v4_3 then (0, (((va_up (va_up S.1.1 0 (S_3.1.1 0)) 1 (S_3.1.1 1)), S.1.2.1, (va_up S.1.2.2 2 (S_3.1.2.2 2))), S.2)) else (gm_bd (gm_f_Captures_add n ((S.2.1 0) (Int32.toNatClampNeg v4_3)) ((S.2.1 1) (Int32.toNatClampNeg v4_3)) ((va_up (va_up S.1.1 0 (S_3.1.1 0)) 1 (S_3.1.1 1)), S.1.2.1, (va_up S.1.2.2 2 (S_3.1.2.2 2)))) (fun _ u38 => (gm_f_Captures_addFrom_3 n n1 x y S n3 (v4_3 + 1) (((va_up (va_up S.1.1 0 (u38.1 0)) 1 (u38.1 1)), S.1.2.1, (va_up S.1.2.2 2 (u38.2.2 2))), S.2)))))))
def gm_p_Captures_addFrom_3 (n : Nat) (n1 : Nat) (x : Int32) (y : Int32) (S : gm_S × gm_S) : Nat → Int32 → gm_S × gm_S → Prop
  | 0, _, _ => False
  | n3 + 1, v4_3, S_3 => ((y ≤ v4_3 → True) ∧ (¬ (y ≤ v4_3) → ((v4_3 < 0 → True) ∧ (¬ (v4_3 < 0) → (((S.2.2.2 2) ≤ v4_3 → True) ∧ (¬ ((S.2.2.2 2) ≤ v4_3) → (vp_in v4_3 n1 ∧ (vp_in v4_3 n1 ∧ (gm_p_Captures_add n ((S.2.1 0) (Int32.toNatClampNeg v4_3)) ((S.2.1 1) (Int32.toNatClampNeg v4_3)) ((va_up (va_up S.1.1 0 (S_3.1.1 0)) 1 (S_3.1.1 1)), S.1.2.1, (va_up S.1.2.2 2 (S_3.1.2.2 2))) ∧ gm_bd (gm_f_Captures_add n ((S.2.1 0) (Int32.toNatClampNeg v4_3)) ((S.2.1 1) (Int32.toNatClampNeg v4_3)) ((va_up (va_up S.1.1 0 (S_3.1.1 0)) 1 (S_3.1.1 1)), S.1.2.1, (va_up S.1.2.2 2 (S_3.1.2.2 2)))) (fun _ u38 => (gm_p_Captures_addFrom_3 n n1 x y S n3 (v4_3 + 1) (((va_up (va_up S.1.1 0 (u38.1 0)) 1 (u38.1 1)), S.1.2.1, (va_up S.1.2.2 2 (u38.2.2 2))), S.2))))))))))))
def gm_f_Captures_addFrom (n : Nat) (n1 : Nat) (x : Int32) (y : Int32) (S : gm_S × gm_S) : Int32 × (gm_S × gm_S) := (gm_f_Captures_addFrom_3 n n1 x y S 6000 x (S.1, S.2))
def gm_p_Captures_addFrom (n : Nat) (n1 : Nat) (x : Int32) (y : Int32) (S : gm_S × gm_S) : Prop := (gm_p_Captures_addFrom_3 n n1 x y S 6000 x (S.1, S.2))
set_option maxHeartbeats 4000000 in
set_option maxRecDepth 100000 in
theorem gm_a_Captures_addFrom (l : Launch) (D : va_G) (cI cJ cC cZ : ClassId) (h0 : Nat) (q : Nat → Nat) (h1 : Nat) (q1 : Nat → Nat) (n : Nat) (n1 : Nat) (x : Int32) (y : Int32) (S : gm_S × gm_S) (sz : Nat) (hok : gm_p_Captures_addFrom n n1 x y S) : Met l gm_y_Captures_addFrom (Cond.code gm_y_Captures_addFrom gm_b_Captures_addFrom 5 none :: gm_W) { frames := 8, cells := 0, slots := 0, locals := 128 } (va_Pc [.ref h0, .ref h1, .int x, .int y] (fun U => U.heap.size = sz ∧ va_P D gm_cl [(h0, .inr (8, [.ref (q 0), .ref (q 1), .int (S.1.2.2 2)])), ((q 0), .inl (cI, n, .inl (S.1.1 0))), ((q 1), .inl (cI, n, .inl (S.1.1 1))), (h1, .inr (8, [.ref (q1 0), .ref (q1 1), .int (S.2.2.2 2)])), ((q1 0), .inl (cI, n1, .inl (S.2.1 0))), ((q1 1), .inl (cI, n1, .inl (S.2.1 1)))] U.heap ∧ va_K D gm_cl (gm_T cI cJ cC cZ) U ∧ va_D (fun _ => True) [(h0, .inr (8, [.ref (q 0), .ref (q 1), .int (S.1.2.2 2)])), ((q 0), .inl (cI, n, .inl (S.1.1 0))), ((q 1), .inl (cI, n, .inl (S.1.1 1))), (h1, .inr (8, [.ref (q1 0), .ref (q1 1), .int (S.2.2.2 2)])), ((q1 0), .inl (cI, n1, .inl (S.2.1 0))), ((q1 1), .inl (cI, n1, .inl (S.2.1 1)))])) (va_Qv (fun u : gm_S × gm_S => (0, u) = gm_f_Captures_addFrom n n1 x y S) (fun u t => gm_at D (va_A [(h0, .inr (8, [.ref (q 0), .ref (q 1), .int (S.1.2.2 2)])), ((q 0), .inl (cI, n, .inl (S.1.1 0))), ((q 1), .inl (cI, n, .inl (S.1.1 1))), (h1, .inr (8, [.ref (q1 0), .ref (q1 1), .int (S.2.2.2 2)])), ((q1 0), .inl (cI, n1, .inl (S.2.1 0))), ((q1 1), .inl (cI, n1, .inl (S.2.1 1)))] sz) [(h0, .inr (8, [.ref (q 0), .ref (q 1), .int (u.1.2.2 2)])), ((q 0), .inl (cI, n, .inl (u.1.1 0))), ((q 1), .inl (cI, n, .inl (u.1.1 1))), (h1, .inr (8, [.ref (q1 0), .ref (q1 1), .int (S.2.2.2 2)])), ((q1 0), .inl (cI, n1, .inl (S.2.1 0))), ((q1 1), .inl (cI, n1, .inl (S.2.1 1)))] (gm_T cI cJ cC cZ) t) (va_A [(h0, .inr (8, [.ref (q 0), .ref (q 1), .int (S.1.2.2 2)])), ((q 0), .inl (cI, n, .inl (S.1.1 0))), ((q 1), .inl (cI, n, .inl (S.1.1 1))), (h1, .inr (8, [.ref (q1 0), .ref (q1 1), .int (S.2.2.2 2)])), ((q1 0), .inl (cI, n1, .inl (S.2.1 0))), ((q1 1), .inl (cI, n1, .inl (S.2.1 1)))] sz)) 0 0 (va_A [(h0, .inr (8, [.ref (q 0), .ref (q 1), .int (S.1.2.2 2)])), ((q 0), .inl (cI, n, .inl (S.1.1 0))), ((q 1), .inl (cI, n, .inl (S.1.1 1))), (h1, .inr (8, [.ref (q1 0), .ref (q1 1), .int (S.2.2.2 2)])), ((q1 0), .inl (cI, n1, .inl (S.2.1 0))), ((q1 1), .inl (cI, n1, .inl (S.2.1 1)))] sz) := by
  refine Met.ofW (cc := gm_b_Captures_addFrom) (maxL := 5) (ret := none) (by decide) rfl ?_
  intro p e s m args below meth c s₁ B hml hv
  obtain ⟨rfl, hsz, hP, hK, hD0⟩ := hv
  have hx := B.exec
  have hb := B.bytes
  have hr := B.returns
  have hw : ∀ w ∈ gm_W, w.before _ s = true := fun w h => atoms_spec B.pre w (List.mem_cons_of_mem _ h)
  have hown : s.vm.findClass gm_R_Captures = some m.cls := findClass_of_methodNamed B.named
  subst hsz
  have hD := hD0.self (sz := s.heap.size)
  generalize hAe : va_A [(h0, .inr (8, [.ref (q 0), .ref (q 1), .int (S.1.2.2 2)])), ((q 0), .inl (cI, n, .inl (S.1.1 0))), ((q 1), .inl (cI, n, .inl (S.1.1 1))), (h1, .inr (8, [.ref (q1 0), .ref (q1 1), .int (S.2.2.2 2)])), ((q1 0), .inl (cI, n1, .inl (S.2.1 0))), ((q1 1), .inl (cI, n1, .inl (S.2.1 1)))] s.heap.size = A at hD ⊢
  have hA : ∀ q : Nat, s.heap.size ≤ q → A q := fun q h => by rw [← hAe]; exact Or.inr h
  have hS : va_S A s.heap s.heap [] := va_S.rf
  have hl := lv_entry ([.ref h0, .ref h1, .int x, .int y]) (n := 5) (Nat.le_of_ble_eq_true rfl)
  rw [lg_entry_eq]
  generalize (lg_sl ([.ref h0, .ref h1, .int x, .int y]) ++ List.replicate (5 - (lg_sl ([.ref h0, .ref h1, .int x, .int y])).length) Slot.unset).toArray = ls at hl ⊢
  have hl : lv_has ls 5 [(0, .ref h0), (1, .ref h1), (2, .int x), (3, .int y)] := hl
  have hF := gm_f_Captures_addFrom.eq_1 n n1 x y S
  unfold gm_p_Captures_addFrom at hok
  refine lv_iload_n hx hb gm_d_Captures_addFrom_0 rfl (lv_at hl 2 rfl) ?_
  refine lv_istore (lv' := [(4, .int x), (0, .ref h0), (1, .ref h1), (2, .int x), (3, .int y)]) hx hb gm_d_Captures_addFrom_1 hl (Nat.le_of_ble_eq_true rfl) rfl (fun ls hl => ?_)
  refine (?_ : ∀ (n3 : Nat) (v4_3 : Int32) (S_3 : gm_S × gm_S) (H : Heap) (locs : List Loc) (ls : Array Slot), lv_has ls 5 [(4, .int v4_3), (0, .ref h0), (1, .ref h1), (2, .int x), (3, .int y)] → va_P D gm_cl [(h0, .inr (8, [.ref (q 0), .ref (q 1), .int (S_3.1.2.2 2)])), ((q 0), .inl (cI, n, .inl (S_3.1.1 0))), ((q 1), .inl (cI, n, .inl (S_3.1.1 1))), (h1, .inr (8, [.ref (q1 0), .ref (q1 1), .int (S.2.2.2 2)])), ((q1 0), .inl (cI, n1, .inl (S.2.1 0))), ((q1 1), .inl (cI, n1, .inl (S.2.1 1)))] H → va_D A [(h0, .inr (8, [.ref (q 0), .ref (q 1), .int (S_3.1.2.2 2)])), ((q 0), .inl (cI, n, .inl (S_3.1.1 0))), ((q 1), .inl (cI, n, .inl (S_3.1.1 1))), (h1, .inr (8, [.ref (q1 0), .ref (q1 1), .int (S.2.2.2 2)])), ((q1 0), .inl (cI, n1, .inl (S.2.1 0))), ((q1 1), .inl (cI, n1, .inl (S.2.1 1)))] → va_S A s.heap H locs → gm_f_Captures_addFrom n n1 x y S = gm_f_Captures_addFrom_3 n n1 x y S n3 v4_3 S_3 → gm_p_Captures_addFrom_3 n n1 x y S n3 v4_3 S_3 → W p l e (headSpec (Cond.code gm_y_Captures_addFrom gm_b_Captures_addFrom 5 none :: gm_W) { frames := 8, cells := 0, slots := 0, locals := 128 }).room s m ([.ref h0, .ref h1, .int x, .int y] : List Value).toArray below meth c H locs 0 0 (MQ below (va_Qv (fun u : gm_S × gm_S => (0, u) = gm_f_Captures_addFrom n n1 x y S) (fun u t => gm_at D A [(h0, .inr (8, [.ref (q 0), .ref (q 1), .int (u.1.2.2 2)])), ((q 0), .inl (cI, n, .inl (u.1.1 0))), ((q 1), .inl (cI, n, .inl (u.1.1 1))), (h1, .inr (8, [.ref (q1 0), .ref (q1 1), .int (S.2.2.2 2)])), ((q1 0), .inl (cI, n1, .inl (S.2.1 0))), ((q1 1), .inl (cI, n1, .inl (S.2.1 1)))] (gm_T cI cJ cC cZ) t) A) ([.ref h0, .ref h1, .int x, .int y] : List Value).toArray s 0 0 A) (F0 m 3 ls [])) 6000 x (S.1, S.2) _ _ _ hl hP hD hS hF hok
  clear hok hF hP hD hS hl
  intro n3
  induction n3 with
  | zero => intro v4_3 S_3 H locs ls hl hP hD hS hF hok; exact hok.elim
  | succ n3 ih3 =>
    intro v4_3 S_3 H locs ls hl hP hD hS hF hok
    rw [gm_f_Captures_addFrom_3] at hF
    rw [gm_p_Captures_addFrom_3] at hok
    refine lv_iload hx hb gm_d_Captures_addFrom_3 (lv_at hl 0 rfl) ?_
    refine lv_iload_n hx hb gm_d_Captures_addFrom_5 rfl (lv_at hl 4 rfl) ?_
    refine lv_icmp_ge (tgt := 47) hx hb gm_d_Captures_addFrom_6 (by decide) (fun c6 => ?_) (fun c6 => ?_)
    · skip
      have hF := hF.trans (if_pos c6)
      have hok := hok.1 c6
      exact W.vret hx hb hr (fun t ht hW => ⟨⟨(((va_up (va_up S.1.1 0 (S_3.1.1 0)) 1 (S_3.1.1 1)), S.1.2.1, (va_up S.1.2.2 2 (S_3.1.2.2 2))), S.2), rfl, hF.symm, by rw [ht]; exact hP, va_K.moved hW.alike hK, hD⟩, hS.F ht⟩) hS.2.2 gm_d_Captures_addFrom_47
    · skip
      have hF := hF.trans (if_neg c6)
      have hok := hok.2 c6
      refine lv_iload hx hb gm_d_Captures_addFrom_9 (lv_at hl 0 rfl) ?_
      refine lv_if_lt (tgt := 47) hx hb gm_d_Captures_addFrom_11 (by decide) (fun c11 => ?_) (fun c11 => ?_)
      · skip
        have hF := hF.trans (if_pos c11)
        have hok := hok.1 c11
        exact W.vret hx hb hr (fun t ht hW => ⟨⟨(((va_up (va_up S.1.1 0 (S_3.1.1 0)) 1 (S_3.1.1 1)), S.1.2.1, (va_up S.1.2.2 2 (S_3.1.2.2 2))), S.2), rfl, hF.symm, by rw [ht]; exact hP, va_K.moved hW.alike hK, hD⟩, hS.F ht⟩) hS.2.2 gm_d_Captures_addFrom_47
      · skip
        have hF := hF.trans (if_neg c11)
        have hok := hok.2 c11
        refine lv_iload hx hb gm_d_Captures_addFrom_14 (lv_at hl 0 rfl) ?_
        refine lv_aload_n hx hb gm_d_Captures_addFrom_16 rfl (lv_at hl 2 rfl) ?_
        refine va_get (D := D) (ci := 8) (v := .int (S.2.2.2 2)) (C := gm_R_Captures) (T := gm_F_Captures) (N := 3) hx hb hw gm_u_Captures hown hK hP 3 rfl rfl 2 (by decide) (hw _ gm_l_Captures_9) (fun _ h9 => h9) rfl gm_d_Captures_addFrom_17 ?_
        refine lv_icmp_ge (tgt := 47) hx hb gm_d_Captures_addFrom_20 (by decide) (fun c20 => ?_) (fun c20 => ?_)
        · skip
          have hF := hF.trans (if_pos c20)
          have hok := hok.1 c20
          exact W.vret hx hb hr (fun t ht hW => ⟨⟨(((va_up (va_up S.1.1 0 (S_3.1.1 0)) 1 (S_3.1.1 1)), S.1.2.1, (va_up S.1.2.2 2 (S_3.1.2.2 2))), S.2), rfl, hF.symm, by rw [ht]; exact hP, va_K.moved hW.alike hK, hD⟩, hS.F ht⟩) hS.2.2 gm_d_Captures_addFrom_47
        · skip
          have hF := hF.trans (if_neg c20)
          have hok := hok.2 c20
          refine lv_aload_n hx hb gm_d_Captures_addFrom_23 rfl (lv_at hl 1 rfl) ?_
          refine lv_aload_n hx hb gm_d_Captures_addFrom_24 rfl (lv_at hl 2 rfl) ?_
          refine va_get (D := D) (ci := 8) (v := .ref (q1 0)) (C := gm_R_Captures) (T := gm_F_Captures) (N := 3) hx hb hw gm_u_Captures hown hK hP 3 rfl rfl 0 (by decide) (hw _ gm_l_Captures_15) (fun _ h9 => h9) rfl gm_d_Captures_addFrom_25 ?_
          refine lv_iload hx hb gm_d_Captures_addFrom_28 (lv_at hl 0 rfl) ?_
          have i30 := hok.1
          have hok := hok.2
          refine va_iald hx hb hK hP 4 0 rfl rfl i30 gm_d_Captures_addFrom_30 ?_
          refine lv_aload_n hx hb gm_d_Captures_addFrom_31 rfl (lv_at hl 2 rfl) ?_
          refine va_get (D := D) (ci := 8) (v := .ref (q1 1)) (C := gm_R_Captures) (T := gm_F_Captures) (N := 3) hx hb hw gm_u_Captures hown hK hP 3 rfl rfl 1 (by decide) (hw _ gm_l_Captures_19) (fun _ h9 => h9) rfl gm_d_Captures_addFrom_32 ?_
          refine lv_iload hx hb gm_d_Captures_addFrom_35 (lv_at hl 0 rfl) ?_
          have i37 := hok.1
          have hok := hok.2
          refine va_iald hx hb hK hP 5 0 rfl rfl i37 gm_d_Captures_addFrom_37 ?_
          have hPc := hP.sub (ws' := [(h0, .inr (8, [.ref (q 0), .ref (q 1), .int (S_3.1.2.2 2)])), ((q 0), .inl (cI, n, .inl (S_3.1.1 0))), ((q 1), .inl (cI, n, .inl (S_3.1.1 1)))]) [0, 1, 2] rfl
          have hDc := hD.sub (ws' := [(h0, .inr (8, [.ref (q 0), .ref (q 1), .int (S_3.1.2.2 2)])), ((q 0), .inl (cI, n, .inl (S_3.1.1 0))), ((q 1), .inl (cI, n, .inl (S_3.1.1 1)))]) [0, 1, 2] (by decide) rfl
          have hFc := va_free (wc := [(h0, .inr (8, [.ref (q 0), .ref (q 1), .int (S_3.1.2.2 2)])), ((q 0), .inl (cI, n, .inl (S_3.1.1 0))), ((q 1), .inl (cI, n, .inl (S_3.1.1 1)))]) hD hS hA [0, 1, 2] rfl
          refine va_callv (va_runV (As := [.int ((S.2.1 0) (Int32.toNatClampNeg v4_3)), .int ((S.2.1 1) (Int32.toNatClampNeg v4_3))]) (rest := []) ⟨hx, hb, hml, hown, hw⟩ (gm_a_Captures_add l D cI cJ cC cZ h0 q   n ((S.2.1 0) (Int32.toNatClampNeg v4_3)) ((S.2.1 1) (Int32.toNatClampNeg v4_3)) ((va_up (va_up S.1.1 0 (S_3.1.1 0)) 1 (S_3.1.1 1)), S.1.2.1, (va_up S.1.2.2 2 (S_3.1.2.2 2))) H.size  hok.1) (cwV 2 hw (gm_gV gm_l_Captures_22 gm_q_Captures_add gm_s_Captures_add gm_i_Captures (gm_gd gm_k_Captures_add)) rfl rfl rfl (by decide +kernel) ⟨Nat.le_of_ble_eq_true rfl, Nat.le_of_ble_eq_true rfl⟩) ⟨fun a U g mk q => by obtain ⟨q0, q1, qP, qK, qD⟩ := q; exact ⟨q0, q1, qP, va_K.moved (u := U) (U := U.calling g mk a) (Vm.Alike.refl U.vm) qK, qD⟩, va_recv hK hP (ci := 8) rfl (q0 := 0) rfl, fun U hU hW => ⟨rfl, by rw [hU], by rw [hU]; exact hPc, va_K.moved hW.alike hK, hDc.weaken (fun _ _ _ _ => trivial)⟩⟩ rfl rfl hl.1 rfl (lv_room (Nat.le_of_ble_eq_true rfl)) gm_d_Captures_addFrom_38 ⟨Nat.le_of_ble_eq_true rfl, Nat.le_of_ble_eq_true rfl⟩) hS (fun q _ h => hFc q h) hFc (fun u38 t H1 locs ht hvm h38 hB hz1 hk1 hS => ?_)
          obtain ⟨hP1, -, hD1⟩ := hB
          rw [ht] at hP1
          have hP1 : va_P D gm_cl [(h0, .inr (8, [.ref (q 0), .ref (q 1), .int (u38.2.2 2)])), ((q 0), .inl (cI, n, .inl (u38.1 0))), ((q 1), .inl (cI, n, .inl (u38.1 1)))] H1 := hP1
          have hD1 : va_D (va_A [(h0, .inr (8, [.ref (q 0), .ref (q 1), .int (S_3.1.2.2 2)])), ((q 0), .inl (cI, n, .inl (S_3.1.1 0))), ((q 1), .inl (cI, n, .inl (S_3.1.1 1)))] H.size) [(h0, .inr (8, [.ref (q 0), .ref (q 1), .int (u38.2.2 2)])), ((q 0), .inl (cI, n, .inl (u38.1 0))), ((q 1), .inl (cI, n, .inl (u38.1 1)))] := hD1
          obtain ⟨hP, hD⟩ := va_join (wr := [(h1, .inr (8, [.ref (q1 0), .ref (q1 1), .int (S.2.2.2 2)])), ((q1 0), .inl (cI, n1, .inl (S.2.1 0))), ((q1 1), .inl (cI, n1, .inl (S.2.1 1)))]) hP hD [0, 1, 2] [3, 4, 5] rfl rfl (by decide) (by decide) hk1 hFc hP1 hD1
          generalize H1 = H at hP hS ⊢
          have hP : va_P D gm_cl [(h1, .inr (8, [.ref (q1 0), .ref (q1 1), .int (S.2.2.2 2)])), ((q1 0), .inl (cI, n1, .inl (S.2.1 0))), ((q1 1), .inl (cI, n1, .inl (S.2.1 1))), (h0, .inr (8, [.ref (q 0), .ref (q 1), .int (u38.2.2 2)])), ((q 0), .inl (cI, n, .inl (u38.1 0))), ((q 1), .inl (cI, n, .inl (u38.1 1)))] H := hP
          have hD : va_D A [(h1, .inr (8, [.ref (q1 0), .ref (q1 1), .int (S.2.2.2 2)])), ((q1 0), .inl (cI, n1, .inl (S.2.1 0))), ((q1 1), .inl (cI, n1, .inl (S.2.1 1))), (h0, .inr (8, [.ref (q 0), .ref (q 1), .int (u38.2.2 2)])), ((q 0), .inl (cI, n, .inl (u38.1 0))), ((q 1), .inl (cI, n, .inl (u38.1 1)))] := hD
          have hP := hP.sub (ws' := [(h0, .inr (8, [.ref (q 0), .ref (q 1), .int (u38.2.2 2)])), ((q 0), .inl (cI, n, .inl (u38.1 0))), ((q 1), .inl (cI, n, .inl (u38.1 1))), (h1, .inr (8, [.ref (q1 0), .ref (q1 1), .int (S.2.2.2 2)])), ((q1 0), .inl (cI, n1, .inl (S.2.1 0))), ((q1 1), .inl (cI, n1, .inl (S.2.1 1)))]) [3, 4, 5, 0, 1, 2] rfl
          have hD := hD.sub (ws' := [(h0, .inr (8, [.ref (q 0), .ref (q 1), .int (u38.2.2 2)])), ((q 0), .inl (cI, n, .inl (u38.1 0))), ((q 1), .inl (cI, n, .inl (u38.1 1))), (h1, .inr (8, [.ref (q1 0), .ref (q1 1), .int (S.2.2.2 2)])), ((q1 0), .inl (cI, n1, .inl (S.2.1 0))), ((q1 1), .inl (cI, n1, .inl (S.2.1 1)))]) [3, 4, 5, 0, 1, 2] (by decide) rfl
          have hF := hF.trans (gm_bd_eq h38)
          have hok := gm_bd_ok h38 hok.2
          refine lv_iinc (lv' := [(4, .int (v4_3 + 1)), (0, .ref h0), (1, .ref h1), (2, .int x), (3, .int y)]) (k := 0) (v := (v4_3 + 1)) hx hb gm_d_Captures_addFrom_41 hl rfl rfl (Nat.le_of_ble_eq_true rfl) rfl (fun ls hl => ?_)
          refine lv_goto (tgt := 3) hx hb gm_d_Captures_addFrom_44 (by decide) ?_
          exact ih3 (v4_3 + 1) (((va_up (va_up S.1.1 0 (u38.1 0)) 1 (u38.1 1)), S.1.2.1, (va_up S.1.2.2 2 (u38.2.2 2))), S.2) _ _ _ (lv_sub hl [0, 1, 2, 3, 4] rfl) hP hD hS hF hok
def gm_f_Memory_slotOf (x : Int32) (y : Int32) : Int32 × (Unit) := (if x < 0 then ((-1), ()) else (if 8 ≤ x then ((-1), ()) else (if y < 0 then ((-1), ()) else (if 11 ≤ y then ((-1), ()) else (((x * 11) + y), ())))))
def gm_p_Memory_slotOf (x : Int32) (y : Int32) : Prop := ((x < 0 → True) ∧ (¬ (x < 0) → ((8 ≤ x → True) ∧ (¬ (8 ≤ x) → ((y < 0 → True) ∧ (¬ (y < 0) → ((11 ≤ y → True) ∧ (¬ (11 ≤ y) → True))))))))
set_option maxHeartbeats 4000000 in
set_option maxRecDepth 100000 in
theorem gm_a_Memory_slotOf (l : Launch) (D : va_G) (cI cJ cC cZ : ClassId)  (x : Int32) (y : Int32) (sz : Nat) (hok : gm_p_Memory_slotOf x y) : Met l gm_y_Memory_slotOf (Cond.code gm_y_Memory_slotOf gm_b_Memory_slotOf 3 (some .int) :: gm_W) { frames := 4, cells := 0, slots := 0, locals := 64 } (va_Pc [.int x, .int y] (fun U => U.heap.size = sz ∧ va_P D gm_cl [] U.heap ∧ va_K D gm_cl (gm_T cI cJ cC cZ) U ∧ va_D (fun _ => True) [])) (va_Qi (fun (r : Int32) (_ : Unit) => (r, ()) = gm_f_Memory_slotOf x y) (fun _ t => gm_at D (va_A [] sz) [] (gm_T cI cJ cC cZ) t) (va_A [] sz)) 0 0 (va_A [] sz) := by
  refine Met.ofW (cc := gm_b_Memory_slotOf) (maxL := 3) (ret := (some .int)) (by decide) rfl ?_
  intro p e s m args below meth c s₁ B hml hv
  obtain ⟨rfl, hsz, hP, hK, hD0⟩ := hv
  have hx := B.exec
  have hb := B.bytes
  have hr := B.returns
  have hw : ∀ w ∈ gm_W, w.before _ s = true := fun w h => atoms_spec B.pre w (List.mem_cons_of_mem _ h)
  have hown : s.vm.findClass gm_R_Memory = some m.cls := findClass_of_methodNamed B.named
  subst hsz
  have hD := hD0.self (sz := s.heap.size)
  generalize hAe : va_A [] s.heap.size = A at hD ⊢
  have hA : ∀ q : Nat, s.heap.size ≤ q → A q := fun q h => by rw [← hAe]; exact Or.inr h
  have hS : va_S A s.heap s.heap [] := va_S.rf
  have hl := lv_entry ([.int x, .int y]) (n := 3) (Nat.le_of_ble_eq_true rfl)
  rw [lg_entry_eq]
  generalize (lg_sl ([.int x, .int y]) ++ List.replicate (3 - (lg_sl ([.int x, .int y])).length) Slot.unset).toArray = ls at hl ⊢
  have hl : lv_has ls 3 [(0, .int x), (1, .int y)] := hl
  have hF := gm_f_Memory_slotOf.eq_1 x y
  unfold gm_p_Memory_slotOf at hok
  refine lv_iload_n hx hb gm_d_Memory_slotOf_0 rfl (lv_at hl 0 rfl) ?_
  refine lv_if_lt (tgt := 24) hx hb gm_d_Memory_slotOf_1 (by decide) (fun c1 => ?_) (fun c1 => ?_)
  · skip
    have hF := hF.trans (if_pos c1)
    have hok := hok.1 c1
    refine lv_iconst (v := 0) hx hb gm_d_Memory_slotOf_24 (by decide) ?_
    refine lv_istore_n (lv' := [(2, .int 0), (0, .int x), (1, .int y)]) hx hb gm_d_Memory_slotOf_25 rfl hl (Nat.le_of_ble_eq_true rfl) rfl (fun ls hl => ?_)
    refine lv_iload_n hx hb gm_d_Memory_slotOf_26 rfl (lv_at hl 0 rfl) ?_
    refine lv_if_eq (tgt := 39) hx hb gm_d_Memory_slotOf_27 (by decide) (fun _ => ?_) (fun h9 => absurd h9 (by decide))
    refine lv_iconst (v := (-1)) hx hb gm_d_Memory_slotOf_39 (by decide) ?_
    exact W.iret (v := (-1)) hx hb hr (fun t ht hW => ⟨⟨(-1), (), rfl, hF.symm, by rw [ht]; exact hP, va_K.moved hW.alike hK, hD⟩, hS.F ht⟩) hS.2.2 gm_d_Memory_slotOf_40
  · skip
    have hF := hF.trans (if_neg c1)
    have hok := hok.2 c1
    refine lv_iload_n hx hb gm_d_Memory_slotOf_4 rfl (lv_at hl 0 rfl) ?_
    refine lv_bipush (v := 8) hx hb gm_d_Memory_slotOf_5 (by decide) ?_
    refine lv_icmp_ge (tgt := 24) hx hb gm_d_Memory_slotOf_7 (by decide) (fun c7 => ?_) (fun c7 => ?_)
    · skip
      have hF := hF.trans (if_pos c7)
      have hok := hok.1 c7
      refine lv_iconst (v := 0) hx hb gm_d_Memory_slotOf_24 (by decide) ?_
      refine lv_istore_n (lv' := [(2, .int 0), (0, .int x), (1, .int y)]) hx hb gm_d_Memory_slotOf_25 rfl hl (Nat.le_of_ble_eq_true rfl) rfl (fun ls hl => ?_)
      refine lv_iload_n hx hb gm_d_Memory_slotOf_26 rfl (lv_at hl 0 rfl) ?_
      refine lv_if_eq (tgt := 39) hx hb gm_d_Memory_slotOf_27 (by decide) (fun _ => ?_) (fun h9 => absurd h9 (by decide))
      refine lv_iconst (v := (-1)) hx hb gm_d_Memory_slotOf_39 (by decide) ?_
      exact W.iret (v := (-1)) hx hb hr (fun t ht hW => ⟨⟨(-1), (), rfl, hF.symm, by rw [ht]; exact hP, va_K.moved hW.alike hK, hD⟩, hS.F ht⟩) hS.2.2 gm_d_Memory_slotOf_40
    · skip
      have hF := hF.trans (if_neg c7)
      have hok := hok.2 c7
      refine lv_iload_n hx hb gm_d_Memory_slotOf_10 rfl (lv_at hl 1 rfl) ?_
      refine lv_if_lt (tgt := 24) hx hb gm_d_Memory_slotOf_11 (by decide) (fun c11 => ?_) (fun c11 => ?_)
      · skip
        have hF := hF.trans (if_pos c11)
        have hok := hok.1 c11
        refine lv_iconst (v := 0) hx hb gm_d_Memory_slotOf_24 (by decide) ?_
        refine lv_istore_n (lv' := [(2, .int 0), (0, .int x), (1, .int y)]) hx hb gm_d_Memory_slotOf_25 rfl hl (Nat.le_of_ble_eq_true rfl) rfl (fun ls hl => ?_)
        refine lv_iload_n hx hb gm_d_Memory_slotOf_26 rfl (lv_at hl 0 rfl) ?_
        refine lv_if_eq (tgt := 39) hx hb gm_d_Memory_slotOf_27 (by decide) (fun _ => ?_) (fun h9 => absurd h9 (by decide))
        refine lv_iconst (v := (-1)) hx hb gm_d_Memory_slotOf_39 (by decide) ?_
        exact W.iret (v := (-1)) hx hb hr (fun t ht hW => ⟨⟨(-1), (), rfl, hF.symm, by rw [ht]; exact hP, va_K.moved hW.alike hK, hD⟩, hS.F ht⟩) hS.2.2 gm_d_Memory_slotOf_40
      · skip
        have hF := hF.trans (if_neg c11)
        have hok := hok.2 c11
        refine lv_iload_n hx hb gm_d_Memory_slotOf_14 rfl (lv_at hl 1 rfl) ?_
        refine lv_bipush (v := 11) hx hb gm_d_Memory_slotOf_15 (by decide) ?_
        refine lv_icmp_ge (tgt := 24) hx hb gm_d_Memory_slotOf_17 (by decide) (fun c17 => ?_) (fun c17 => ?_)
        · skip
          have hF := hF.trans (if_pos c17)
          have hok := hok.1 c17
          refine lv_iconst (v := 0) hx hb gm_d_Memory_slotOf_24 (by decide) ?_
          refine lv_istore_n (lv' := [(2, .int 0), (0, .int x), (1, .int y)]) hx hb gm_d_Memory_slotOf_25 rfl hl (Nat.le_of_ble_eq_true rfl) rfl (fun ls hl => ?_)
          refine lv_iload_n hx hb gm_d_Memory_slotOf_26 rfl (lv_at hl 0 rfl) ?_
          refine lv_if_eq (tgt := 39) hx hb gm_d_Memory_slotOf_27 (by decide) (fun _ => ?_) (fun h9 => absurd h9 (by decide))
          refine lv_iconst (v := (-1)) hx hb gm_d_Memory_slotOf_39 (by decide) ?_
          exact W.iret (v := (-1)) hx hb hr (fun t ht hW => ⟨⟨(-1), (), rfl, hF.symm, by rw [ht]; exact hP, va_K.moved hW.alike hK, hD⟩, hS.F ht⟩) hS.2.2 gm_d_Memory_slotOf_40
        · skip
          have hF := hF.trans (if_neg c17)
          have hok := hok.2 c17
          refine lv_iconst (v := 1) hx hb gm_d_Memory_slotOf_20 (by decide) ?_
          refine lv_goto (tgt := 25) hx hb gm_d_Memory_slotOf_21 (by decide) ?_
          refine lv_istore_n (lv' := [(2, .int 1), (0, .int x), (1, .int y)]) hx hb gm_d_Memory_slotOf_25 rfl hl (Nat.le_of_ble_eq_true rfl) rfl (fun ls hl => ?_)
          refine lv_iload_n hx hb gm_d_Memory_slotOf_26 rfl (lv_at hl 0 rfl) ?_
          refine lv_if_eq (tgt := 39) hx hb gm_d_Memory_slotOf_27 (by decide) (fun h9 => absurd h9 (by decide)) (fun _ => ?_)
          refine lv_iload_n hx hb gm_d_Memory_slotOf_30 rfl (lv_at hl 1 rfl) ?_
          refine lv_bipush (v := 11) hx hb gm_d_Memory_slotOf_31 (by decide) ?_
          refine lv_imul hx hb gm_d_Memory_slotOf_33 ?_
          refine lv_iload_n hx hb gm_d_Memory_slotOf_34 rfl (lv_at hl 2 rfl) ?_
          refine lv_iadd hx hb gm_d_Memory_slotOf_35 ?_
          refine lv_goto (tgt := 40) hx hb gm_d_Memory_slotOf_36 (by decide) ?_
          exact W.iret (v := ((x * 11) + y)) hx hb hr (fun t ht hW => ⟨⟨((x * 11) + y), (), rfl, hF.symm, by rw [ht]; exact hP, va_K.moved hW.alike hK, hD⟩, hS.F ht⟩) hS.2.2 gm_d_Memory_slotOf_40
def gm_f_Memory_result (x : Int32) (y : Int32) (S : gm_S × gm_S) : Int32 × (gm_S × gm_S) := (gm_bd (gm_f_Memory_slotOf x y) (fun r2 _ => (if r2 = (-1) then ((-1), (S.1, S.2)) else (((S.1.1 0) (Int32.toNatClampNeg r2)), (S.1, S.2)))))
def gm_p_Memory_result (x : Int32) (y : Int32) (S : gm_S × gm_S) : Prop := (gm_p_Memory_slotOf x y ∧ gm_bd (gm_f_Memory_slotOf x y) (fun r2 _ => ((r2 = (-1) → True) ∧ (¬ (r2 = (-1)) → (vp_in r2 88 ∧ True)))))
set_option maxHeartbeats 4000000 in
set_option maxRecDepth 100000 in
theorem gm_a_Memory_result (l : Launch) (D : va_G) (cI cJ cC cZ : ClassId) (m0 : Nat) (q : Nat → Nat) (qk : Nat → Nat) (x : Int32) (y : Int32) (S : gm_S × gm_S) (sz : Nat) (hok : gm_p_Memory_result x y S) : Met l gm_y_Memory_result (Cond.code gm_y_Memory_result gm_b_Memory_result 4 (some .int) :: gm_W) { frames := 8, cells := 0, slots := 0, locals := 128 } (va_Pc [.ref m0, .int x, .int y] (fun U => U.heap.size = sz ∧ va_P D gm_cl [(m0, .inr (9, [.ref (q 0), .ref (q 1), .ref (q 2), .ref (q 3)])), ((q 0), .inl (cI, 88, .inl (S.1.1 0))), ((q 3), .inr (8, [.ref (qk 0), .ref (qk 1), .int (S.2.2.2 2)]))] U.heap ∧ va_K D gm_cl (gm_T cI cJ cC cZ) U ∧ va_D (fun _ => True) [(m0, .inr (9, [.ref (q 0), .ref (q 1), .ref (q 2), .ref (q 3)])), ((q 0), .inl (cI, 88, .inl (S.1.1 0))), ((q 3), .inr (8, [.ref (qk 0), .ref (qk 1), .int (S.2.2.2 2)]))])) (va_Qi (fun (r : Int32) (u : gm_S × gm_S) => (r, u) = gm_f_Memory_result x y S) (fun u t => gm_at D (va_A [(m0, .inr (9, [.ref (q 0), .ref (q 1), .ref (q 2), .ref (q 3)])), ((q 0), .inl (cI, 88, .inl (S.1.1 0))), ((q 3), .inr (8, [.ref (qk 0), .ref (qk 1), .int (S.2.2.2 2)]))] sz) [(m0, .inr (9, [.ref (q 0), .ref (q 1), .ref (q 2), .ref (q 3)])), ((q 0), .inl (cI, 88, .inl (S.1.1 0))), ((q 3), .inr (8, [.ref (qk 0), .ref (qk 1), .int (S.2.2.2 2)]))] (gm_T cI cJ cC cZ) t) (va_A [(m0, .inr (9, [.ref (q 0), .ref (q 1), .ref (q 2), .ref (q 3)])), ((q 0), .inl (cI, 88, .inl (S.1.1 0))), ((q 3), .inr (8, [.ref (qk 0), .ref (qk 1), .int (S.2.2.2 2)]))] sz)) 0 0 (va_A [(m0, .inr (9, [.ref (q 0), .ref (q 1), .ref (q 2), .ref (q 3)])), ((q 0), .inl (cI, 88, .inl (S.1.1 0))), ((q 3), .inr (8, [.ref (qk 0), .ref (qk 1), .int (S.2.2.2 2)]))] sz) := by
  refine Met.ofW (cc := gm_b_Memory_result) (maxL := 4) (ret := (some .int)) (by decide) rfl ?_
  intro p e s m args below meth c s₁ B hml hv
  obtain ⟨rfl, hsz, hP, hK, hD0⟩ := hv
  have hx := B.exec
  have hb := B.bytes
  have hr := B.returns
  have hw : ∀ w ∈ gm_W, w.before _ s = true := fun w h => atoms_spec B.pre w (List.mem_cons_of_mem _ h)
  have hown : s.vm.findClass gm_R_Memory = some m.cls := findClass_of_methodNamed B.named
  subst hsz
  have hD := hD0.self (sz := s.heap.size)
  generalize hAe : va_A [(m0, .inr (9, [.ref (q 0), .ref (q 1), .ref (q 2), .ref (q 3)])), ((q 0), .inl (cI, 88, .inl (S.1.1 0))), ((q 3), .inr (8, [.ref (qk 0), .ref (qk 1), .int (S.2.2.2 2)]))] s.heap.size = A at hD ⊢
  have hA : ∀ q : Nat, s.heap.size ≤ q → A q := fun q h => by rw [← hAe]; exact Or.inr h
  have hS : va_S A s.heap s.heap [] := va_S.rf
  have hl := lv_entry ([.ref m0, .int x, .int y]) (n := 4) (Nat.le_of_ble_eq_true rfl)
  rw [lg_entry_eq]
  generalize (lg_sl ([.ref m0, .int x, .int y]) ++ List.replicate (4 - (lg_sl ([.ref m0, .int x, .int y])).length) Slot.unset).toArray = ls at hl ⊢
  have hl : lv_has ls 4 [(0, .ref m0), (1, .int x), (2, .int y)] := hl
  have hF := gm_f_Memory_result.eq_1 x y S
  unfold gm_p_Memory_result at hok
  refine lv_iload_n hx hb gm_d_Memory_result_0 rfl (lv_at hl 1 rfl) ?_
  refine lv_iload_n hx hb gm_d_Memory_result_1 rfl (lv_at hl 2 rfl) ?_
  have hP0 : va_P D gm_cl [] s.heap := fun k q hq => by cases hq
  have hPc := hP.sub (ws' := []) [] rfl
  have hDc := hD.sub (ws' := []) [] (by decide) rfl
  have hFc := va_free (wc := []) hD hS hA [] rfl
  refine va_calli (va_runS (As := [.int x, .int y]) (rest := []) ⟨hx, hb, hml, hown, hw⟩ (gm_a_Memory_slotOf l D cI cJ cC cZ    x y s.heap.size  hok.1) (cwS 2 hw (gm_gS gm_l_Memory_40 gm_q_Memory_slotOf gm_i_Memory (gm_gd gm_k_Memory_slotOf)) rfl rfl rfl (by decide +kernel) ⟨Nat.le_of_ble_eq_true rfl, Nat.le_of_ble_eq_true rfl⟩) ⟨fun a U g mk q => by obtain ⟨q0, q1, qP, qK, qD⟩ := q; exact ⟨q0, q1, qP, va_K.moved (u := U) (U := U.calling g mk a) (Vm.Alike.refl U.vm) qK, qD⟩, fun U hU hW => ⟨rfl, by rw [hU], by rw [hU]; exact hPc, va_K.moved hW.alike hK, hDc.weaken (fun _ _ _ _ => trivial)⟩⟩ rfl rfl hl.1 rfl (lv_room (Nat.le_of_ble_eq_true rfl)) gm_d_Memory_result_2 ⟨Nat.le_of_ble_eq_true rfl, Nat.le_of_ble_eq_true rfl⟩) hS (fun q _ h => hFc q h) hFc (fun r2 _ t H1 locs ht hvm h2 hB hz1 hk1 hS => ?_)
  obtain ⟨hP1, -, hD1⟩ := hB
  rw [ht] at hP1
  have hP1 : va_P D gm_cl [] H1 := hP1
  have hD1 : va_D (va_A [] s.heap.size) [] := hD1
  obtain ⟨hP, hD⟩ := va_join (wr := [(m0, .inr (9, [.ref (q 0), .ref (q 1), .ref (q 2), .ref (q 3)])), ((q 0), .inl (cI, 88, .inl (S.1.1 0))), ((q 3), .inr (8, [.ref (qk 0), .ref (qk 1), .int (S.2.2.2 2)]))]) hP hD [] [0, 1, 2] rfl rfl (by decide) (by decide) hk1 hFc hP1 hD1
  generalize H1 = H at hP hS ⊢
  have hP : va_P D gm_cl [(m0, .inr (9, [.ref (q 0), .ref (q 1), .ref (q 2), .ref (q 3)])), ((q 0), .inl (cI, 88, .inl (S.1.1 0))), ((q 3), .inr (8, [.ref (qk 0), .ref (qk 1), .int (S.2.2.2 2)]))] H := hP
  have hD : va_D A [(m0, .inr (9, [.ref (q 0), .ref (q 1), .ref (q 2), .ref (q 3)])), ((q 0), .inl (cI, 88, .inl (S.1.1 0))), ((q 3), .inr (8, [.ref (qk 0), .ref (qk 1), .int (S.2.2.2 2)]))] := hD
  have hF := hF.trans (gm_bd_eq h2)
  have hok := gm_bd_ok h2 hok.2
  refine lv_istore_n (lv' := [(3, .int r2), (0, .ref m0), (1, .int x), (2, .int y)]) hx hb gm_d_Memory_result_5 rfl hl (Nat.le_of_ble_eq_true rfl) rfl (fun ls hl => ?_)
  refine lv_iload_n hx hb gm_d_Memory_result_6 rfl (lv_at hl 0 rfl) ?_
  refine lv_iconst (v := (-1)) hx hb gm_d_Memory_result_7 (by decide) ?_
  refine lv_icmp_ne (tgt := 15) hx hb gm_d_Memory_result_8 (by decide) (fun c8 => ?_) (fun c8 => ?_)
  · skip
    have hF := hF.trans (if_neg c8)
    have hok := hok.2 c8
    refine lv_aload_n hx hb gm_d_Memory_result_15 rfl (lv_at hl 1 rfl) ?_
    refine va_get (D := D) (ci := 9) (v := .ref (q 0)) (C := gm_R_Memory) (T := gm_F_Memory) (N := 4) hx hb hw gm_u_Memory hown hK hP 0 rfl rfl 0 (by decide) (hw _ gm_l_Memory_9) (fun _ h9 => h9) rfl gm_d_Memory_result_16 ?_
    refine lv_iload_n hx hb gm_d_Memory_result_19 rfl (lv_at hl 0 rfl) ?_
    have i20 := hok.1
    have hok := hok.2
    refine va_iald hx hb hK hP 1 0 rfl rfl i20 gm_d_Memory_result_20 ?_
    exact W.iret (v := ((S.1.1 0) (Int32.toNatClampNeg r2))) hx hb hr (fun t ht hW => ⟨⟨((S.1.1 0) (Int32.toNatClampNeg r2)), (S.1, S.2), rfl, hF.symm, by rw [ht]; exact hP, va_K.moved hW.alike hK, hD⟩, hS.F ht⟩) hS.2.2 gm_d_Memory_result_21
  · skip
    have hF := hF.trans (if_pos c8)
    have hok := hok.1 c8
    refine lv_iconst (v := (-1)) hx hb gm_d_Memory_result_11 (by decide) ?_
    refine lv_goto (tgt := 21) hx hb gm_d_Memory_result_12 (by decide) ?_
    exact W.iret (v := (-1)) hx hb hr (fun t ht hW => ⟨⟨(-1), (S.1, S.2), rfl, hF.symm, by rw [ht]; exact hP, va_K.moved hW.alike hK, hD⟩, hS.F ht⟩) hS.2.2 gm_d_Memory_result_21
def gm_f_Memory_keepFailure (x : Int32) (y : Int32) (S : gm_S × gm_S) : Int32 × (gm_S × gm_S) := (gm_bd (gm_f_Memory_slotOf x y) (fun r2 _ => (if r2 = (-1) then (0, (S.1, S.2)) else (0, (((va_up S.1.1 0 (upd (S.1.1 0) (Int32.toNatClampNeg r2) (-1))), S.1.2.1, S.1.2.2), S.2)))))
def gm_p_Memory_keepFailure (x : Int32) (y : Int32) (S : gm_S × gm_S) : Prop := (gm_p_Memory_slotOf x y ∧ gm_bd (gm_f_Memory_slotOf x y) (fun r2 _ => ((r2 = (-1) → True) ∧ (¬ (r2 = (-1)) → (vp_in r2 88 ∧ True)))))
set_option maxHeartbeats 4000000 in
set_option maxRecDepth 100000 in
theorem gm_a_Memory_keepFailure (l : Launch) (D : va_G) (cI cJ cC cZ : ClassId) (m0 : Nat) (q : Nat → Nat) (qk : Nat → Nat) (x : Int32) (y : Int32) (S : gm_S × gm_S) (sz : Nat) (hok : gm_p_Memory_keepFailure x y S) : Met l gm_y_Memory_keepFailure (Cond.code gm_y_Memory_keepFailure gm_b_Memory_keepFailure 4 none :: gm_W) { frames := 8, cells := 0, slots := 0, locals := 128 } (va_Pc [.ref m0, .int x, .int y] (fun U => U.heap.size = sz ∧ va_P D gm_cl [(m0, .inr (9, [.ref (q 0), .ref (q 1), .ref (q 2), .ref (q 3)])), ((q 0), .inl (cI, 88, .inl (S.1.1 0))), ((q 3), .inr (8, [.ref (qk 0), .ref (qk 1), .int (S.2.2.2 2)]))] U.heap ∧ va_K D gm_cl (gm_T cI cJ cC cZ) U ∧ va_D (fun _ => True) [(m0, .inr (9, [.ref (q 0), .ref (q 1), .ref (q 2), .ref (q 3)])), ((q 0), .inl (cI, 88, .inl (S.1.1 0))), ((q 3), .inr (8, [.ref (qk 0), .ref (qk 1), .int (S.2.2.2 2)]))])) (va_Qv (fun u : gm_S × gm_S => (0, u) = gm_f_Memory_keepFailure x y S) (fun u t => gm_at D (va_A [(m0, .inr (9, [.ref (q 0), .ref (q 1), .ref (q 2), .ref (q 3)])), ((q 0), .inl (cI, 88, .inl (S.1.1 0))), ((q 3), .inr (8, [.ref (qk 0), .ref (qk 1), .int (S.2.2.2 2)]))] sz) [(m0, .inr (9, [.ref (q 0), .ref (q 1), .ref (q 2), .ref (q 3)])), ((q 0), .inl (cI, 88, .inl (u.1.1 0))), ((q 3), .inr (8, [.ref (qk 0), .ref (qk 1), .int (S.2.2.2 2)]))] (gm_T cI cJ cC cZ) t) (va_A [(m0, .inr (9, [.ref (q 0), .ref (q 1), .ref (q 2), .ref (q 3)])), ((q 0), .inl (cI, 88, .inl (S.1.1 0))), ((q 3), .inr (8, [.ref (qk 0), .ref (qk 1), .int (S.2.2.2 2)]))] sz)) 0 0 (va_A [(m0, .inr (9, [.ref (q 0), .ref (q 1), .ref (q 2), .ref (q 3)])), ((q 0), .inl (cI, 88, .inl (S.1.1 0))), ((q 3), .inr (8, [.ref (qk 0), .ref (qk 1), .int (S.2.2.2 2)]))] sz) := by
  refine Met.ofW (cc := gm_b_Memory_keepFailure) (maxL := 4) (ret := none) (by decide) rfl ?_
  intro p e s m args below meth c s₁ B hml hv
  obtain ⟨rfl, hsz, hP, hK, hD0⟩ := hv
  have hx := B.exec
  have hb := B.bytes
  have hr := B.returns
  have hw : ∀ w ∈ gm_W, w.before _ s = true := fun w h => atoms_spec B.pre w (List.mem_cons_of_mem _ h)
  have hown : s.vm.findClass gm_R_Memory = some m.cls := findClass_of_methodNamed B.named
  subst hsz
  have hD := hD0.self (sz := s.heap.size)
  generalize hAe : va_A [(m0, .inr (9, [.ref (q 0), .ref (q 1), .ref (q 2), .ref (q 3)])), ((q 0), .inl (cI, 88, .inl (S.1.1 0))), ((q 3), .inr (8, [.ref (qk 0), .ref (qk 1), .int (S.2.2.2 2)]))] s.heap.size = A at hD ⊢
  have hA : ∀ q : Nat, s.heap.size ≤ q → A q := fun q h => by rw [← hAe]; exact Or.inr h
  have hS : va_S A s.heap s.heap [] := va_S.rf
  have hl := lv_entry ([.ref m0, .int x, .int y]) (n := 4) (Nat.le_of_ble_eq_true rfl)
  rw [lg_entry_eq]
  generalize (lg_sl ([.ref m0, .int x, .int y]) ++ List.replicate (4 - (lg_sl ([.ref m0, .int x, .int y])).length) Slot.unset).toArray = ls at hl ⊢
  have hl : lv_has ls 4 [(0, .ref m0), (1, .int x), (2, .int y)] := hl
  have hF := gm_f_Memory_keepFailure.eq_1 x y S
  unfold gm_p_Memory_keepFailure at hok
  refine lv_iload_n hx hb gm_d_Memory_keepFailure_0 rfl (lv_at hl 1 rfl) ?_
  refine lv_iload_n hx hb gm_d_Memory_keepFailure_1 rfl (lv_at hl 2 rfl) ?_
  have hP0 : va_P D gm_cl [] s.heap := fun k q hq => by cases hq
  have hPc := hP.sub (ws' := []) [] rfl
  have hDc := hD.sub (ws' := []) [] (by decide) rfl
  have hFc := va_free (wc := []) hD hS hA [] rfl
  refine va_calli (va_runS (As := [.int x, .int y]) (rest := []) ⟨hx, hb, hml, hown, hw⟩ (gm_a_Memory_slotOf l D cI cJ cC cZ    x y s.heap.size  hok.1) (cwS 2 hw (gm_gS gm_l_Memory_40 gm_q_Memory_slotOf gm_i_Memory (gm_gd gm_k_Memory_slotOf)) rfl rfl rfl (by decide +kernel) ⟨Nat.le_of_ble_eq_true rfl, Nat.le_of_ble_eq_true rfl⟩) ⟨fun a U g mk q => by obtain ⟨q0, q1, qP, qK, qD⟩ := q; exact ⟨q0, q1, qP, va_K.moved (u := U) (U := U.calling g mk a) (Vm.Alike.refl U.vm) qK, qD⟩, fun U hU hW => ⟨rfl, by rw [hU], by rw [hU]; exact hPc, va_K.moved hW.alike hK, hDc.weaken (fun _ _ _ _ => trivial)⟩⟩ rfl rfl hl.1 rfl (lv_room (Nat.le_of_ble_eq_true rfl)) gm_d_Memory_keepFailure_2 ⟨Nat.le_of_ble_eq_true rfl, Nat.le_of_ble_eq_true rfl⟩) hS (fun q _ h => hFc q h) hFc (fun r2 _ t H1 locs ht hvm h2 hB hz1 hk1 hS => ?_)
  obtain ⟨hP1, -, hD1⟩ := hB
  rw [ht] at hP1
  have hP1 : va_P D gm_cl [] H1 := hP1
  have hD1 : va_D (va_A [] s.heap.size) [] := hD1
  obtain ⟨hP, hD⟩ := va_join (wr := [(m0, .inr (9, [.ref (q 0), .ref (q 1), .ref (q 2), .ref (q 3)])), ((q 0), .inl (cI, 88, .inl (S.1.1 0))), ((q 3), .inr (8, [.ref (qk 0), .ref (qk 1), .int (S.2.2.2 2)]))]) hP hD [] [0, 1, 2] rfl rfl (by decide) (by decide) hk1 hFc hP1 hD1
  generalize H1 = H at hP hS ⊢
  have hP : va_P D gm_cl [(m0, .inr (9, [.ref (q 0), .ref (q 1), .ref (q 2), .ref (q 3)])), ((q 0), .inl (cI, 88, .inl (S.1.1 0))), ((q 3), .inr (8, [.ref (qk 0), .ref (qk 1), .int (S.2.2.2 2)]))] H := hP
  have hD : va_D A [(m0, .inr (9, [.ref (q 0), .ref (q 1), .ref (q 2), .ref (q 3)])), ((q 0), .inl (cI, 88, .inl (S.1.1 0))), ((q 3), .inr (8, [.ref (qk 0), .ref (qk 1), .int (S.2.2.2 2)]))] := hD
  have hF := hF.trans (gm_bd_eq h2)
  have hok := gm_bd_ok h2 hok.2
  refine lv_istore_n (lv' := [(3, .int r2), (0, .ref m0), (1, .int x), (2, .int y)]) hx hb gm_d_Memory_keepFailure_5 rfl hl (Nat.le_of_ble_eq_true rfl) rfl (fun ls hl => ?_)
  refine lv_iload_n hx hb gm_d_Memory_keepFailure_6 rfl (lv_at hl 0 rfl) ?_
  refine lv_iconst (v := (-1)) hx hb gm_d_Memory_keepFailure_7 (by decide) ?_
  refine lv_icmp_eq (tgt := 18) hx hb gm_d_Memory_keepFailure_8 (by decide) (fun c8 => ?_) (fun c8 => ?_)
  · skip
    have hF := hF.trans (if_pos c8)
    have hok := hok.1 c8
    exact W.vret hx hb hr (fun t ht hW => ⟨⟨(S.1, S.2), rfl, hF.symm, by rw [ht]; exact hP, va_K.moved hW.alike hK, hD⟩, hS.F ht⟩) hS.2.2 gm_d_Memory_keepFailure_18
  · skip
    have hF := hF.trans (if_neg c8)
    have hok := hok.2 c8
    refine lv_aload_n hx hb gm_d_Memory_keepFailure_11 rfl (lv_at hl 1 rfl) ?_
    refine va_get (D := D) (ci := 9) (v := .ref (q 0)) (C := gm_R_Memory) (T := gm_F_Memory) (N := 4) hx hb hw gm_u_Memory hown hK hP 0 rfl rfl 0 (by decide) (hw _ gm_l_Memory_9) (fun _ h9 => h9) rfl gm_d_Memory_keepFailure_12 ?_
    refine lv_iload_n hx hb gm_d_Memory_keepFailure_15 rfl (lv_at hl 0 rfl) ?_
    refine lv_iconst (v := (-1)) hx hb gm_d_Memory_keepFailure_16 (by decide) ?_
    have i17 := hok.1
    have hok := hok.2
    refine va_iast hx hb hK hP hD hS 1 0 rfl rfl i17 gm_d_Memory_keepFailure_17 (fun H locs hP hD hS => ?_)
    have hP : va_P D gm_cl [(m0, .inr (9, [.ref (q 0), .ref (q 1), .ref (q 2), .ref (q 3)])), ((q 0), .inl (cI, 88, .inl (upd (S.1.1 0) (Int32.toNatClampNeg r2) (-1)))), ((q 3), .inr (8, [.ref (qk 0), .ref (qk 1), .int (S.2.2.2 2)]))] H := hP
    have hD : va_D A [(m0, .inr (9, [.ref (q 0), .ref (q 1), .ref (q 2), .ref (q 3)])), ((q 0), .inl (cI, 88, .inl (upd (S.1.1 0) (Int32.toNatClampNeg r2) (-1)))), ((q 3), .inr (8, [.ref (qk 0), .ref (qk 1), .int (S.2.2.2 2)]))] := hD
    exact W.vret hx hb hr (fun t ht hW => ⟨⟨(((va_up S.1.1 0 (upd (S.1.1 0) (Int32.toNatClampNeg r2) (-1))), S.1.2.1, S.1.2.2), S.2), rfl, hF.symm, by rw [ht]; exact hP, va_K.moved hW.alike hK, hD⟩, hS.F ht⟩) hS.2.2 gm_d_Memory_keepFailure_18
def gm_f_Memory_keepMatch (x : Int32) (y : Int32) (w : Int32) (v : Int32) (S : gm_S × gm_S × gm_S) : Int32 × (gm_S × gm_S × gm_S) := (gm_bd (gm_f_Memory_slotOf x y) (fun r2 _ => (if r2 = (-1) then (0, (S.1, S.2.1, S.2.2)) else (gm_bd (gm_f_Captures_addFrom 5720 275 v (S.2.2.2.2 2) (S.2.1, S.2.2)) (fun _ u48 => (0, (((va_up (va_up (va_up S.1.1 0 (upd (S.1.1 0) (Int32.toNatClampNeg r2) w)) 1 (upd (S.1.1 1) (Int32.toNatClampNeg r2) (S.2.1.2.2 2))) 2 (upd (S.1.1 2) (Int32.toNatClampNeg r2) (u48.1.2.2 2))), S.1.2.1, S.1.2.2), ((va_up (va_up S.2.1.1 0 (u48.1.1 0)) 1 (u48.1.1 1)), S.2.1.2.1, (va_up S.2.1.2.2 2 (u48.1.2.2 2))), S.2.2)))))))
def gm_p_Memory_keepMatch (x : Int32) (y : Int32) (w : Int32) (v : Int32) (S : gm_S × gm_S × gm_S) : Prop := (gm_p_Memory_slotOf x y ∧ gm_bd (gm_f_Memory_slotOf x y) (fun r2 _ => ((r2 = (-1) → True) ∧ (¬ (r2 = (-1)) → (vp_in r2 88 ∧ (vp_in r2 88 ∧ (gm_p_Captures_addFrom 5720 275 v (S.2.2.2.2 2) (S.2.1, S.2.2) ∧ gm_bd (gm_f_Captures_addFrom 5720 275 v (S.2.2.2.2 2) (S.2.1, S.2.2)) (fun _ u48 => (vp_in r2 88 ∧ True)))))))))
set_option maxHeartbeats 4000000 in
set_option maxRecDepth 100000 in
theorem gm_a_Memory_keepMatch (l : Launch) (D : va_G) (cI cJ cC cZ : ClassId) (m0 : Nat) (q : Nat → Nat) (h1 : Nat) (q1 : Nat → Nat) (qk : Nat → Nat) (x : Int32) (y : Int32) (w : Int32) (v : Int32) (S : gm_S × gm_S × gm_S) (sz : Nat) (hok : gm_p_Memory_keepMatch x y w v S) : Met l gm_y_Memory_keepMatch (Cond.code gm_y_Memory_keepMatch gm_b_Memory_keepMatch 7 none :: gm_W) { frames := 12, cells := 0, slots := 0, locals := 192 } (va_Pc [.ref m0, .int x, .int y, .int w, .ref h1, .int v] (fun U => U.heap.size = sz ∧ va_P D gm_cl [(m0, .inr (9, [.ref (q 0), .ref (q 1), .ref (q 2), .ref (q 3)])), ((q 0), .inl (cI, 88, .inl (S.1.1 0))), ((q 1), .inl (cI, 88, .inl (S.1.1 1))), ((q 2), .inl (cI, 88, .inl (S.1.1 2))), ((q 3), .inr (8, [.ref (qk 0), .ref (qk 1), .int (S.2.1.2.2 2)])), ((qk 0), .inl (cI, 5720, .inl (S.2.1.1 0))), ((qk 1), .inl (cI, 5720, .inl (S.2.1.1 1))), (h1, .inr (8, [.ref (q1 0), .ref (q1 1), .int (S.2.2.2.2 2)])), ((q1 0), .inl (cI, 275, .inl (S.2.2.1 0))), ((q1 1), .inl (cI, 275, .inl (S.2.2.1 1)))] U.heap ∧ va_K D gm_cl (gm_T cI cJ cC cZ) U ∧ va_D (fun _ => True) [(m0, .inr (9, [.ref (q 0), .ref (q 1), .ref (q 2), .ref (q 3)])), ((q 0), .inl (cI, 88, .inl (S.1.1 0))), ((q 1), .inl (cI, 88, .inl (S.1.1 1))), ((q 2), .inl (cI, 88, .inl (S.1.1 2))), ((q 3), .inr (8, [.ref (qk 0), .ref (qk 1), .int (S.2.1.2.2 2)])), ((qk 0), .inl (cI, 5720, .inl (S.2.1.1 0))), ((qk 1), .inl (cI, 5720, .inl (S.2.1.1 1))), (h1, .inr (8, [.ref (q1 0), .ref (q1 1), .int (S.2.2.2.2 2)])), ((q1 0), .inl (cI, 275, .inl (S.2.2.1 0))), ((q1 1), .inl (cI, 275, .inl (S.2.2.1 1)))])) (va_Qv (fun u : gm_S × gm_S × gm_S => (0, u) = gm_f_Memory_keepMatch x y w v S) (fun u t => gm_at D (va_A [(m0, .inr (9, [.ref (q 0), .ref (q 1), .ref (q 2), .ref (q 3)])), ((q 0), .inl (cI, 88, .inl (S.1.1 0))), ((q 1), .inl (cI, 88, .inl (S.1.1 1))), ((q 2), .inl (cI, 88, .inl (S.1.1 2))), ((q 3), .inr (8, [.ref (qk 0), .ref (qk 1), .int (S.2.1.2.2 2)])), ((qk 0), .inl (cI, 5720, .inl (S.2.1.1 0))), ((qk 1), .inl (cI, 5720, .inl (S.2.1.1 1))), (h1, .inr (8, [.ref (q1 0), .ref (q1 1), .int (S.2.2.2.2 2)])), ((q1 0), .inl (cI, 275, .inl (S.2.2.1 0))), ((q1 1), .inl (cI, 275, .inl (S.2.2.1 1)))] sz) [(m0, .inr (9, [.ref (q 0), .ref (q 1), .ref (q 2), .ref (q 3)])), ((q 0), .inl (cI, 88, .inl (u.1.1 0))), ((q 1), .inl (cI, 88, .inl (u.1.1 1))), ((q 2), .inl (cI, 88, .inl (u.1.1 2))), ((q 3), .inr (8, [.ref (qk 0), .ref (qk 1), .int (u.2.1.2.2 2)])), ((qk 0), .inl (cI, 5720, .inl (u.2.1.1 0))), ((qk 1), .inl (cI, 5720, .inl (u.2.1.1 1))), (h1, .inr (8, [.ref (q1 0), .ref (q1 1), .int (S.2.2.2.2 2)])), ((q1 0), .inl (cI, 275, .inl (S.2.2.1 0))), ((q1 1), .inl (cI, 275, .inl (S.2.2.1 1)))] (gm_T cI cJ cC cZ) t) (va_A [(m0, .inr (9, [.ref (q 0), .ref (q 1), .ref (q 2), .ref (q 3)])), ((q 0), .inl (cI, 88, .inl (S.1.1 0))), ((q 1), .inl (cI, 88, .inl (S.1.1 1))), ((q 2), .inl (cI, 88, .inl (S.1.1 2))), ((q 3), .inr (8, [.ref (qk 0), .ref (qk 1), .int (S.2.1.2.2 2)])), ((qk 0), .inl (cI, 5720, .inl (S.2.1.1 0))), ((qk 1), .inl (cI, 5720, .inl (S.2.1.1 1))), (h1, .inr (8, [.ref (q1 0), .ref (q1 1), .int (S.2.2.2.2 2)])), ((q1 0), .inl (cI, 275, .inl (S.2.2.1 0))), ((q1 1), .inl (cI, 275, .inl (S.2.2.1 1)))] sz)) 0 0 (va_A [(m0, .inr (9, [.ref (q 0), .ref (q 1), .ref (q 2), .ref (q 3)])), ((q 0), .inl (cI, 88, .inl (S.1.1 0))), ((q 1), .inl (cI, 88, .inl (S.1.1 1))), ((q 2), .inl (cI, 88, .inl (S.1.1 2))), ((q 3), .inr (8, [.ref (qk 0), .ref (qk 1), .int (S.2.1.2.2 2)])), ((qk 0), .inl (cI, 5720, .inl (S.2.1.1 0))), ((qk 1), .inl (cI, 5720, .inl (S.2.1.1 1))), (h1, .inr (8, [.ref (q1 0), .ref (q1 1), .int (S.2.2.2.2 2)])), ((q1 0), .inl (cI, 275, .inl (S.2.2.1 0))), ((q1 1), .inl (cI, 275, .inl (S.2.2.1 1)))] sz) := by
  refine Met.ofW (cc := gm_b_Memory_keepMatch) (maxL := 7) (ret := none) (by decide) rfl ?_
  intro p e s m args below meth c s₁ B hml hv
  obtain ⟨rfl, hsz, hP, hK, hD0⟩ := hv
  have hx := B.exec
  have hb := B.bytes
  have hr := B.returns
  have hw : ∀ w ∈ gm_W, w.before _ s = true := fun w h => atoms_spec B.pre w (List.mem_cons_of_mem _ h)
  have hown : s.vm.findClass gm_R_Memory = some m.cls := findClass_of_methodNamed B.named
  subst hsz
  have hD := hD0.self (sz := s.heap.size)
  generalize hAe : va_A [(m0, .inr (9, [.ref (q 0), .ref (q 1), .ref (q 2), .ref (q 3)])), ((q 0), .inl (cI, 88, .inl (S.1.1 0))), ((q 1), .inl (cI, 88, .inl (S.1.1 1))), ((q 2), .inl (cI, 88, .inl (S.1.1 2))), ((q 3), .inr (8, [.ref (qk 0), .ref (qk 1), .int (S.2.1.2.2 2)])), ((qk 0), .inl (cI, 5720, .inl (S.2.1.1 0))), ((qk 1), .inl (cI, 5720, .inl (S.2.1.1 1))), (h1, .inr (8, [.ref (q1 0), .ref (q1 1), .int (S.2.2.2.2 2)])), ((q1 0), .inl (cI, 275, .inl (S.2.2.1 0))), ((q1 1), .inl (cI, 275, .inl (S.2.2.1 1)))] s.heap.size = A at hD ⊢
  have hA : ∀ q : Nat, s.heap.size ≤ q → A q := fun q h => by rw [← hAe]; exact Or.inr h
  have hS : va_S A s.heap s.heap [] := va_S.rf
  have hl := lv_entry ([.ref m0, .int x, .int y, .int w, .ref h1, .int v]) (n := 7) (Nat.le_of_ble_eq_true rfl)
  rw [lg_entry_eq]
  generalize (lg_sl ([.ref m0, .int x, .int y, .int w, .ref h1, .int v]) ++ List.replicate (7 - (lg_sl ([.ref m0, .int x, .int y, .int w, .ref h1, .int v])).length) Slot.unset).toArray = ls at hl ⊢
  have hl : lv_has ls 7 [(0, .ref m0), (1, .int x), (2, .int y), (3, .int w), (4, .ref h1), (5, .int v)] := hl
  have hF := gm_f_Memory_keepMatch.eq_1 x y w v S
  unfold gm_p_Memory_keepMatch at hok
  refine lv_iload_n hx hb gm_d_Memory_keepMatch_0 rfl (lv_at hl 1 rfl) ?_
  refine lv_iload_n hx hb gm_d_Memory_keepMatch_1 rfl (lv_at hl 2 rfl) ?_
  have hP0 : va_P D gm_cl [] s.heap := fun k q hq => by cases hq
  have hPc := hP.sub (ws' := []) [] rfl
  have hDc := hD.sub (ws' := []) [] (by decide) rfl
  have hFc := va_free (wc := []) hD hS hA [] rfl
  refine va_calli (va_runS (As := [.int x, .int y]) (rest := []) ⟨hx, hb, hml, hown, hw⟩ (gm_a_Memory_slotOf l D cI cJ cC cZ    x y s.heap.size  hok.1) (cwS 2 hw (gm_gS gm_l_Memory_40 gm_q_Memory_slotOf gm_i_Memory (gm_gd gm_k_Memory_slotOf)) rfl rfl rfl (by decide +kernel) ⟨Nat.le_of_ble_eq_true rfl, Nat.le_of_ble_eq_true rfl⟩) ⟨fun a U g mk q => by obtain ⟨q0, q1, qP, qK, qD⟩ := q; exact ⟨q0, q1, qP, va_K.moved (u := U) (U := U.calling g mk a) (Vm.Alike.refl U.vm) qK, qD⟩, fun U hU hW => ⟨rfl, by rw [hU], by rw [hU]; exact hPc, va_K.moved hW.alike hK, hDc.weaken (fun _ _ _ _ => trivial)⟩⟩ rfl rfl hl.1 rfl (lv_room (Nat.le_of_ble_eq_true rfl)) gm_d_Memory_keepMatch_2 ⟨Nat.le_of_ble_eq_true rfl, Nat.le_of_ble_eq_true rfl⟩) hS (fun q _ h => hFc q h) hFc (fun r2 _ t H1 locs ht hvm h2 hB hz1 hk1 hS => ?_)
  obtain ⟨hP1, -, hD1⟩ := hB
  rw [ht] at hP1
  have hP1 : va_P D gm_cl [] H1 := hP1
  have hD1 : va_D (va_A [] s.heap.size) [] := hD1
  obtain ⟨hP, hD⟩ := va_join (wr := [(m0, .inr (9, [.ref (q 0), .ref (q 1), .ref (q 2), .ref (q 3)])), ((q 0), .inl (cI, 88, .inl (S.1.1 0))), ((q 1), .inl (cI, 88, .inl (S.1.1 1))), ((q 2), .inl (cI, 88, .inl (S.1.1 2))), ((q 3), .inr (8, [.ref (qk 0), .ref (qk 1), .int (S.2.1.2.2 2)])), ((qk 0), .inl (cI, 5720, .inl (S.2.1.1 0))), ((qk 1), .inl (cI, 5720, .inl (S.2.1.1 1))), (h1, .inr (8, [.ref (q1 0), .ref (q1 1), .int (S.2.2.2.2 2)])), ((q1 0), .inl (cI, 275, .inl (S.2.2.1 0))), ((q1 1), .inl (cI, 275, .inl (S.2.2.1 1)))]) hP hD [] [0, 1, 2, 3, 4, 5, 6, 7, 8, 9] rfl rfl (by decide) (by decide) hk1 hFc hP1 hD1
  generalize H1 = H at hP hS ⊢
  have hP : va_P D gm_cl [(m0, .inr (9, [.ref (q 0), .ref (q 1), .ref (q 2), .ref (q 3)])), ((q 0), .inl (cI, 88, .inl (S.1.1 0))), ((q 1), .inl (cI, 88, .inl (S.1.1 1))), ((q 2), .inl (cI, 88, .inl (S.1.1 2))), ((q 3), .inr (8, [.ref (qk 0), .ref (qk 1), .int (S.2.1.2.2 2)])), ((qk 0), .inl (cI, 5720, .inl (S.2.1.1 0))), ((qk 1), .inl (cI, 5720, .inl (S.2.1.1 1))), (h1, .inr (8, [.ref (q1 0), .ref (q1 1), .int (S.2.2.2.2 2)])), ((q1 0), .inl (cI, 275, .inl (S.2.2.1 0))), ((q1 1), .inl (cI, 275, .inl (S.2.2.1 1)))] H := hP
  have hD : va_D A [(m0, .inr (9, [.ref (q 0), .ref (q 1), .ref (q 2), .ref (q 3)])), ((q 0), .inl (cI, 88, .inl (S.1.1 0))), ((q 1), .inl (cI, 88, .inl (S.1.1 1))), ((q 2), .inl (cI, 88, .inl (S.1.1 2))), ((q 3), .inr (8, [.ref (qk 0), .ref (qk 1), .int (S.2.1.2.2 2)])), ((qk 0), .inl (cI, 5720, .inl (S.2.1.1 0))), ((qk 1), .inl (cI, 5720, .inl (S.2.1.1 1))), (h1, .inr (8, [.ref (q1 0), .ref (q1 1), .int (S.2.2.2.2 2)])), ((q1 0), .inl (cI, 275, .inl (S.2.2.1 0))), ((q1 1), .inl (cI, 275, .inl (S.2.2.1 1)))] := hD
  have hF := hF.trans (gm_bd_eq h2)
  have hok := gm_bd_ok h2 hok.2
  refine lv_istore (lv' := [(6, .int r2), (0, .ref m0), (1, .int x), (2, .int y), (3, .int w), (4, .ref h1), (5, .int v)]) hx hb gm_d_Memory_keepMatch_5 hl (Nat.le_of_ble_eq_true rfl) rfl (fun ls hl => ?_)
  refine lv_iload hx hb gm_d_Memory_keepMatch_7 (lv_at hl 0 rfl) ?_
  refine lv_iconst (v := (-1)) hx hb gm_d_Memory_keepMatch_9 (by decide) ?_
  refine lv_icmp_eq (tgt := 65) hx hb gm_d_Memory_keepMatch_10 (by decide) (fun c10 => ?_) (fun c10 => ?_)
  · skip
    have hF := hF.trans (if_pos c10)
    have hok := hok.1 c10
    exact W.vret hx hb hr (fun t ht hW => ⟨⟨(S.1, S.2.1, S.2.2), rfl, hF.symm, by rw [ht]; exact hP, va_K.moved hW.alike hK, hD⟩, hS.F ht⟩) hS.2.2 gm_d_Memory_keepMatch_65
  · skip
    have hF := hF.trans (if_neg c10)
    have hok := hok.2 c10
    refine lv_aload_n hx hb gm_d_Memory_keepMatch_13 rfl (lv_at hl 1 rfl) ?_
    refine va_get (D := D) (ci := 9) (v := .ref (q 0)) (C := gm_R_Memory) (T := gm_F_Memory) (N := 4) hx hb hw gm_u_Memory hown hK hP 0 rfl rfl 0 (by decide) (hw _ gm_l_Memory_9) (fun _ h9 => h9) rfl gm_d_Memory_keepMatch_14 ?_
    refine lv_iload hx hb gm_d_Memory_keepMatch_17 (lv_at hl 0 rfl) ?_
    refine lv_iload_n hx hb gm_d_Memory_keepMatch_19 rfl (lv_at hl 4 rfl) ?_
    have i20 := hok.1
    have hok := hok.2
    refine va_iast hx hb hK hP hD hS 1 0 rfl rfl i20 gm_d_Memory_keepMatch_20 (fun H locs hP hD hS => ?_)
    have hP : va_P D gm_cl [(m0, .inr (9, [.ref (q 0), .ref (q 1), .ref (q 2), .ref (q 3)])), ((q 0), .inl (cI, 88, .inl (upd (S.1.1 0) (Int32.toNatClampNeg r2) w))), ((q 1), .inl (cI, 88, .inl (S.1.1 1))), ((q 2), .inl (cI, 88, .inl (S.1.1 2))), ((q 3), .inr (8, [.ref (qk 0), .ref (qk 1), .int (S.2.1.2.2 2)])), ((qk 0), .inl (cI, 5720, .inl (S.2.1.1 0))), ((qk 1), .inl (cI, 5720, .inl (S.2.1.1 1))), (h1, .inr (8, [.ref (q1 0), .ref (q1 1), .int (S.2.2.2.2 2)])), ((q1 0), .inl (cI, 275, .inl (S.2.2.1 0))), ((q1 1), .inl (cI, 275, .inl (S.2.2.1 1)))] H := hP
    have hD : va_D A [(m0, .inr (9, [.ref (q 0), .ref (q 1), .ref (q 2), .ref (q 3)])), ((q 0), .inl (cI, 88, .inl (upd (S.1.1 0) (Int32.toNatClampNeg r2) w))), ((q 1), .inl (cI, 88, .inl (S.1.1 1))), ((q 2), .inl (cI, 88, .inl (S.1.1 2))), ((q 3), .inr (8, [.ref (qk 0), .ref (qk 1), .int (S.2.1.2.2 2)])), ((qk 0), .inl (cI, 5720, .inl (S.2.1.1 0))), ((qk 1), .inl (cI, 5720, .inl (S.2.1.1 1))), (h1, .inr (8, [.ref (q1 0), .ref (q1 1), .int (S.2.2.2.2 2)])), ((q1 0), .inl (cI, 275, .inl (S.2.2.1 0))), ((q1 1), .inl (cI, 275, .inl (S.2.2.1 1)))] := hD
    refine lv_aload_n hx hb gm_d_Memory_keepMatch_21 rfl (lv_at hl 1 rfl) ?_
    refine va_get (D := D) (ci := 9) (v := .ref (q 1)) (C := gm_R_Memory) (T := gm_F_Memory) (N := 4) hx hb hw gm_u_Memory hown hK hP 0 rfl rfl 1 (by decide) (hw _ gm_l_Memory_15) (fun _ h9 => h9) rfl gm_d_Memory_keepMatch_22 ?_
    refine lv_iload hx hb gm_d_Memory_keepMatch_25 (lv_at hl 0 rfl) ?_
    refine lv_aload_n hx hb gm_d_Memory_keepMatch_27 rfl (lv_at hl 1 rfl) ?_
    refine va_get (D := D) (ci := 9) (v := .ref (q 3)) (C := gm_R_Memory) (T := gm_F_Memory) (N := 4) hx hb hw gm_u_Memory hown hK hP 0 rfl rfl 3 (by decide) (hw _ gm_l_Memory_26) (fun _ h9 => h9) rfl gm_d_Memory_keepMatch_28 ?_
    refine va_get (D := D) (ci := 8) (v := .int (S.2.1.2.2 2)) (C := gm_R_Captures) (T := gm_F_Captures) (N := 3) hx hb hw gm_u_Captures hown hK hP 4 rfl rfl 2 (by decide) (hw _ gm_l_Memory_36) (fun _ h9 => h9) rfl gm_d_Memory_keepMatch_31 ?_
    have i34 := hok.1
    have hok := hok.2
    refine va_iast hx hb hK hP hD hS 2 0 rfl rfl i34 gm_d_Memory_keepMatch_34 (fun H locs hP hD hS => ?_)
    have hP : va_P D gm_cl [(m0, .inr (9, [.ref (q 0), .ref (q 1), .ref (q 2), .ref (q 3)])), ((q 0), .inl (cI, 88, .inl (upd (S.1.1 0) (Int32.toNatClampNeg r2) w))), ((q 1), .inl (cI, 88, .inl (upd (S.1.1 1) (Int32.toNatClampNeg r2) (S.2.1.2.2 2)))), ((q 2), .inl (cI, 88, .inl (S.1.1 2))), ((q 3), .inr (8, [.ref (qk 0), .ref (qk 1), .int (S.2.1.2.2 2)])), ((qk 0), .inl (cI, 5720, .inl (S.2.1.1 0))), ((qk 1), .inl (cI, 5720, .inl (S.2.1.1 1))), (h1, .inr (8, [.ref (q1 0), .ref (q1 1), .int (S.2.2.2.2 2)])), ((q1 0), .inl (cI, 275, .inl (S.2.2.1 0))), ((q1 1), .inl (cI, 275, .inl (S.2.2.1 1)))] H := hP
    have hD : va_D A [(m0, .inr (9, [.ref (q 0), .ref (q 1), .ref (q 2), .ref (q 3)])), ((q 0), .inl (cI, 88, .inl (upd (S.1.1 0) (Int32.toNatClampNeg r2) w))), ((q 1), .inl (cI, 88, .inl (upd (S.1.1 1) (Int32.toNatClampNeg r2) (S.2.1.2.2 2)))), ((q 2), .inl (cI, 88, .inl (S.1.1 2))), ((q 3), .inr (8, [.ref (qk 0), .ref (qk 1), .int (S.2.1.2.2 2)])), ((qk 0), .inl (cI, 5720, .inl (S.2.1.1 0))), ((qk 1), .inl (cI, 5720, .inl (S.2.1.1 1))), (h1, .inr (8, [.ref (q1 0), .ref (q1 1), .int (S.2.2.2.2 2)])), ((q1 0), .inl (cI, 275, .inl (S.2.2.1 0))), ((q1 1), .inl (cI, 275, .inl (S.2.2.1 1)))] := hD
    refine lv_aload_n hx hb gm_d_Memory_keepMatch_35 rfl (lv_at hl 1 rfl) ?_
    refine va_get (D := D) (ci := 9) (v := .ref (q 3)) (C := gm_R_Memory) (T := gm_F_Memory) (N := 4) hx hb hw gm_u_Memory hown hK hP 0 rfl rfl 3 (by decide) (hw _ gm_l_Memory_26) (fun _ h9 => h9) rfl gm_d_Memory_keepMatch_36 ?_
    refine lv_aload hx hb gm_d_Memory_keepMatch_39 (lv_at hl 5 rfl) ?_
    refine lv_iload hx hb gm_d_Memory_keepMatch_41 (lv_at hl 6 rfl) ?_
    refine lv_aload hx hb gm_d_Memory_keepMatch_43 (lv_at hl 5 rfl) ?_
    refine va_get (D := D) (ci := 8) (v := .int (S.2.2.2.2 2)) (C := gm_R_Captures) (T := gm_F_Captures) (N := 3) hx hb hw gm_u_Captures hown hK hP 7 rfl rfl 2 (by decide) (hw _ gm_l_Memory_36) (fun _ h9 => h9) rfl gm_d_Memory_keepMatch_45 ?_
    have hPc := hP.sub (ws' := [((q 3), .inr (8, [.ref (qk 0), .ref (qk 1), .int (S.2.1.2.2 2)])), ((qk 0), .inl (cI, 5720, .inl (S.2.1.1 0))), ((qk 1), .inl (cI, 5720, .inl (S.2.1.1 1))), (h1, .inr (8, [.ref (q1 0), .ref (q1 1), .int (S.2.2.2.2 2)])), ((q1 0), .inl (cI, 275, .inl (S.2.2.1 0))), ((q1 1), .inl (cI, 275, .inl (S.2.2.1 1)))]) [4, 5, 6, 7, 8, 9] rfl
    have hDc := hD.sub (ws' := [((q 3), .inr (8, [.ref (qk 0), .ref (qk 1), .int (S.2.1.2.2 2)])), ((qk 0), .inl (cI, 5720, .inl (S.2.1.1 0))), ((qk 1), .inl (cI, 5720, .inl (S.2.1.1 1))), (h1, .inr (8, [.ref (q1 0), .ref (q1 1), .int (S.2.2.2.2 2)])), ((q1 0), .inl (cI, 275, .inl (S.2.2.1 0))), ((q1 1), .inl (cI, 275, .inl (S.2.2.1 1)))]) [4, 5, 6, 7, 8, 9] (by decide) rfl
    have hFc := va_free (wc := [((q 3), .inr (8, [.ref (qk 0), .ref (qk 1), .int (S.2.1.2.2 2)])), ((qk 0), .inl (cI, 5720, .inl (S.2.1.1 0))), ((qk 1), .inl (cI, 5720, .inl (S.2.1.1 1))), (h1, .inr (8, [.ref (q1 0), .ref (q1 1), .int (S.2.2.2.2 2)])), ((q1 0), .inl (cI, 275, .inl (S.2.2.1 0))), ((q1 1), .inl (cI, 275, .inl (S.2.2.1 1)))]) hD hS hA [4, 5, 6, 7, 8, 9] rfl
    refine va_callv (va_runV (As := [.ref h1, .int v, .int (S.2.2.2.2 2)]) (rest := []) ⟨hx, hb, hml, hown, hw⟩ (gm_a_Captures_addFrom l D cI cJ cC cZ (q 3) qk h1 q1   5720 275 v (S.2.2.2.2 2) (S.2.1, S.2.2) H.size  hok.1) (cwV 3 hw (gm_gV gm_l_Memory_44 gm_q_Captures_addFrom gm_s_Captures_addFrom gm_i_Captures (gm_gd gm_k_Captures_addFrom)) rfl rfl rfl (by decide +kernel) ⟨Nat.le_of_ble_eq_true rfl, Nat.le_of_ble_eq_true rfl⟩) ⟨fun a U g mk q => by obtain ⟨q0, q1, qP, qK, qD⟩ := q; exact ⟨q0, q1, qP, va_K.moved (u := U) (U := U.calling g mk a) (Vm.Alike.refl U.vm) qK, qD⟩, va_recv hK hP (ci := 8) rfl (q0 := 4) rfl, fun U hU hW => ⟨rfl, by rw [hU], by rw [hU]; exact hPc, va_K.moved hW.alike hK, hDc.weaken (fun _ _ _ _ => trivial)⟩⟩ rfl rfl hl.1 rfl (lv_room (Nat.le_of_ble_eq_true rfl)) gm_d_Memory_keepMatch_48 ⟨Nat.le_of_ble_eq_true rfl, Nat.le_of_ble_eq_true rfl⟩) hS (fun q _ h => hFc q h) hFc (fun u48 t H1 locs ht hvm h48 hB hz1 hk1 hS => ?_)
    obtain ⟨hP1, -, hD1⟩ := hB
    rw [ht] at hP1
    have hP1 : va_P D gm_cl [((q 3), .inr (8, [.ref (qk 0), .ref (qk 1), .int (u48.1.2.2 2)])), ((qk 0), .inl (cI, 5720, .inl (u48.1.1 0))), ((qk 1), .inl (cI, 5720, .inl (u48.1.1 1))), (h1, .inr (8, [.ref (q1 0), .ref (q1 1), .int (S.2.2.2.2 2)])), ((q1 0), .inl (cI, 275, .inl (S.2.2.1 0))), ((q1 1), .inl (cI, 275, .inl (S.2.2.1 1)))] H1 := hP1
    have hD1 : va_D (va_A [((q 3), .inr (8, [.ref (qk 0), .ref (qk 1), .int (S.2.1.2.2 2)])), ((qk 0), .inl (cI, 5720, .inl (S.2.1.1 0))), ((qk 1), .inl (cI, 5720, .inl (S.2.1.1 1))), (h1, .inr (8, [.ref (q1 0), .ref (q1 1), .int (S.2.2.2.2 2)])), ((q1 0), .inl (cI, 275, .inl (S.2.2.1 0))), ((q1 1), .inl (cI, 275, .inl (S.2.2.1 1)))] H.size) [((q 3), .inr (8, [.ref (qk 0), .ref (qk 1), .int (u48.1.2.2 2)])), ((qk 0), .inl (cI, 5720, .inl (u48.1.1 0))), ((qk 1), .inl (cI, 5720, .inl (u48.1.1 1))), (h1, .inr (8, [.ref (q1 0), .ref (q1 1), .int (S.2.2.2.2 2)])), ((q1 0), .inl (cI, 275, .inl (S.2.2.1 0))), ((q1 1), .inl (cI, 275, .inl (S.2.2.1 1)))] := hD1
    obtain ⟨hP, hD⟩ := va_join (wr := [(m0, .inr (9, [.ref (q 0), .ref (q 1), .ref (q 2), .ref (q 3)])), ((q 0), .inl (cI, 88, .inl (upd (S.1.1 0) (Int32.toNatClampNeg r2) w))), ((q 1), .inl (cI, 88, .inl (upd (S.1.1 1) (Int32.toNatClampNeg r2) (S.2.1.2.2 2)))), ((q 2), .inl (cI, 88, .inl (S.1.1 2)))]) hP hD [4, 5, 6, 7, 8, 9] [0, 1, 2, 3] rfl rfl (by decide) (by decide) hk1 hFc hP1 hD1
    generalize H1 = H at hP hS ⊢
    have hP : va_P D gm_cl [(m0, .inr (9, [.ref (q 0), .ref (q 1), .ref (q 2), .ref (q 3)])), ((q 0), .inl (cI, 88, .inl (upd (S.1.1 0) (Int32.toNatClampNeg r2) w))), ((q 1), .inl (cI, 88, .inl (upd (S.1.1 1) (Int32.toNatClampNeg r2) (S.2.1.2.2 2)))), ((q 2), .inl (cI, 88, .inl (S.1.1 2))), ((q 3), .inr (8, [.ref (qk 0), .ref (qk 1), .int (u48.1.2.2 2)])), ((qk 0), .inl (cI, 5720, .inl (u48.1.1 0))), ((qk 1), .inl (cI, 5720, .inl (u48.1.1 1))), (h1, .inr (8, [.ref (q1 0), .ref (q1 1), .int (S.2.2.2.2 2)])), ((q1 0), .inl (cI, 275, .inl (S.2.2.1 0))), ((q1 1), .inl (cI, 275, .inl (S.2.2.1 1)))] H := hP
    have hD : va_D A [(m0, .inr (9, [.ref (q 0), .ref (q 1), .ref (q 2), .ref (q 3)])), ((q 0), .inl (cI, 88, .inl (upd (S.1.1 0) (Int32.toNatClampNeg r2) w))), ((q 1), .inl (cI, 88, .inl (upd (S.1.1 1) (Int32.toNatClampNeg r2) (S.2.1.2.2 2)))), ((q 2), .inl (cI, 88, .inl (S.1.1 2))), ((q 3), .inr (8, [.ref (qk 0), .ref (qk 1), .int (u48.1.2.2 2)])), ((qk 0), .inl (cI, 5720, .inl (u48.1.1 0))), ((qk 1), .inl (cI, 5720, .inl (u48.1.1 1))), (h1, .inr (8, [.ref (q1 0), .ref (q1 1), .int (S.2.2.2.2 2)])), ((q1 0), .inl (cI, 275, .inl (S.2.2.1 0))), ((q1 1), .inl (cI, 275, .inl (S.2.2.1 1)))] := hD
    have hF := hF.trans (gm_bd_eq h48)
    have hok := gm_bd_ok h48 hok.2
    refine lv_aload_n hx hb gm_d_Memory_keepMatch_51 rfl (lv_at hl 1 rfl) ?_
    refine va_get (D := D) (ci := 9) (v := .ref (q 2)) (C := gm_R_Memory) (T := gm_F_Memory) (N := 4) hx hb hw gm_u_Memory hown hK hP 0 rfl rfl 2 (by decide) (hw _ gm_l_Memory_18) (fun _ h9 => h9) rfl gm_d_Memory_keepMatch_52 ?_
    refine lv_iload hx hb gm_d_Memory_keepMatch_55 (lv_at hl 0 rfl) ?_
    refine lv_aload_n hx hb gm_d_Memory_keepMatch_57 rfl (lv_at hl 1 rfl) ?_
    refine va_get (D := D) (ci := 9) (v := .ref (q 3)) (C := gm_R_Memory) (T := gm_F_Memory) (N := 4) hx hb hw gm_u_Memory hown hK hP 0 rfl rfl 3 (by decide) (hw _ gm_l_Memory_26) (fun _ h9 => h9) rfl gm_d_Memory_keepMatch_58 ?_
    refine va_get (D := D) (ci := 8) (v := .int (u48.1.2.2 2)) (C := gm_R_Captures) (T := gm_F_Captures) (N := 3) hx hb hw gm_u_Captures hown hK hP 4 rfl rfl 2 (by decide) (hw _ gm_l_Memory_36) (fun _ h9 => h9) rfl gm_d_Memory_keepMatch_61 ?_
    have i64 := hok.1
    have hok := hok.2
    refine va_iast hx hb hK hP hD hS 3 0 rfl rfl i64 gm_d_Memory_keepMatch_64 (fun H locs hP hD hS => ?_)
    have hP : va_P D gm_cl [(m0, .inr (9, [.ref (q 0), .ref (q 1), .ref (q 2), .ref (q 3)])), ((q 0), .inl (cI, 88, .inl (upd (S.1.1 0) (Int32.toNatClampNeg r2) w))), ((q 1), .inl (cI, 88, .inl (upd (S.1.1 1) (Int32.toNatClampNeg r2) (S.2.1.2.2 2)))), ((q 2), .inl (cI, 88, .inl (upd (S.1.1 2) (Int32.toNatClampNeg r2) (u48.1.2.2 2)))), ((q 3), .inr (8, [.ref (qk 0), .ref (qk 1), .int (u48.1.2.2 2)])), ((qk 0), .inl (cI, 5720, .inl (u48.1.1 0))), ((qk 1), .inl (cI, 5720, .inl (u48.1.1 1))), (h1, .inr (8, [.ref (q1 0), .ref (q1 1), .int (S.2.2.2.2 2)])), ((q1 0), .inl (cI, 275, .inl (S.2.2.1 0))), ((q1 1), .inl (cI, 275, .inl (S.2.2.1 1)))] H := hP
    have hD : va_D A [(m0, .inr (9, [.ref (q 0), .ref (q 1), .ref (q 2), .ref (q 3)])), ((q 0), .inl (cI, 88, .inl (upd (S.1.1 0) (Int32.toNatClampNeg r2) w))), ((q 1), .inl (cI, 88, .inl (upd (S.1.1 1) (Int32.toNatClampNeg r2) (S.2.1.2.2 2)))), ((q 2), .inl (cI, 88, .inl (upd (S.1.1 2) (Int32.toNatClampNeg r2) (u48.1.2.2 2)))), ((q 3), .inr (8, [.ref (qk 0), .ref (qk 1), .int (u48.1.2.2 2)])), ((qk 0), .inl (cI, 5720, .inl (u48.1.1 0))), ((qk 1), .inl (cI, 5720, .inl (u48.1.1 1))), (h1, .inr (8, [.ref (q1 0), .ref (q1 1), .int (S.2.2.2.2 2)])), ((q1 0), .inl (cI, 275, .inl (S.2.2.1 0))), ((q1 1), .inl (cI, 275, .inl (S.2.2.1 1)))] := hD
    exact W.vret hx hb hr (fun t ht hW => ⟨⟨(((va_up (va_up (va_up S.1.1 0 (upd (S.1.1 0) (Int32.toNatClampNeg r2) w)) 1 (upd (S.1.1 1) (Int32.toNatClampNeg r2) (S.2.1.2.2 2))) 2 (upd (S.1.1 2) (Int32.toNatClampNeg r2) (u48.1.2.2 2))), S.1.2.1, S.1.2.2), ((va_up (va_up S.2.1.1 0 (u48.1.1 0)) 1 (u48.1.1 1)), S.2.1.2.1, (va_up S.2.1.2.2 2 (u48.1.2.2 2))), S.2.2), rfl, hF.symm, by rw [ht]; exact hP, va_K.moved hW.alike hK, hD⟩, hS.F ht⟩) hS.2.2 gm_d_Memory_keepMatch_65
def gm_f_Memory_recallCaptures (x : Int32) (y : Int32) (S : gm_S × gm_S × gm_S) : Int32 × (gm_S × gm_S × gm_S) := (gm_bd (gm_f_Memory_slotOf x y) (fun r2 _ => (if r2 = (-1) then (0, (S.1, S.2.1, S.2.2)) else (gm_bd (gm_f_Captures_addFrom 275 5720 ((S.1.1 1) (Int32.toNatClampNeg r2)) ((S.1.1 2) (Int32.toNatClampNeg r2)) (S.2.2, S.2.1)) (fun _ u32 => (0, (S.1, S.2.1, ((va_up (va_up S.2.2.1 0 (u32.1.1 0)) 1 (u32.1.1 1)), S.2.2.2.1, (va_up S.2.2.2.2 2 (u32.1.2.2 2))))))))))
def gm_p_Memory_recallCaptures (x : Int32) (y : Int32) (S : gm_S × gm_S × gm_S) : Prop := (gm_p_Memory_slotOf x y ∧ gm_bd (gm_f_Memory_slotOf x y) (fun r2 _ => ((r2 = (-1) → True) ∧ (¬ (r2 = (-1)) → (vp_in r2 88 ∧ (vp_in r2 88 ∧ (gm_p_Captures_addFrom 275 5720 ((S.1.1 1) (Int32.toNatClampNeg r2)) ((S.1.1 2) (Int32.toNatClampNeg r2)) (S.2.2, S.2.1) ∧ gm_bd (gm_f_Captures_addFrom 275 5720 ((S.1.1 1) (Int32.toNatClampNeg r2)) ((S.1.1 2) (Int32.toNatClampNeg r2)) (S.2.2, S.2.1)) (fun _ u32 => True))))))))
set_option maxHeartbeats 4000000 in
set_option maxRecDepth 100000 in
theorem gm_a_Memory_recallCaptures (l : Launch) (D : va_G) (cI cJ cC cZ : ClassId) (m0 : Nat) (q : Nat → Nat) (h1 : Nat) (q1 : Nat → Nat) (qk : Nat → Nat) (x : Int32) (y : Int32) (S : gm_S × gm_S × gm_S) (sz : Nat) (hok : gm_p_Memory_recallCaptures x y S) : Met l gm_y_Memory_recallCaptures (Cond.code gm_y_Memory_recallCaptures gm_b_Memory_recallCaptures 5 none :: gm_W) { frames := 12, cells := 0, slots := 0, locals := 192 } (va_Pc [.ref m0, .int x, .int y, .ref h1] (fun U => U.heap.size = sz ∧ va_P D gm_cl [(m0, .inr (9, [.ref (q 0), .ref (q 1), .ref (q 2), .ref (q 3)])), ((q 1), .inl (cI, 88, .inl (S.1.1 1))), ((q 2), .inl (cI, 88, .inl (S.1.1 2))), ((q 3), .inr (8, [.ref (qk 0), .ref (qk 1), .int (S.2.1.2.2 2)])), ((qk 0), .inl (cI, 5720, .inl (S.2.1.1 0))), ((qk 1), .inl (cI, 5720, .inl (S.2.1.1 1))), (h1, .inr (8, [.ref (q1 0), .ref (q1 1), .int (S.2.2.2.2 2)])), ((q1 0), .inl (cI, 275, .inl (S.2.2.1 0))), ((q1 1), .inl (cI, 275, .inl (S.2.2.1 1)))] U.heap ∧ va_K D gm_cl (gm_T cI cJ cC cZ) U ∧ va_D (fun _ => True) [(m0, .inr (9, [.ref (q 0), .ref (q 1), .ref (q 2), .ref (q 3)])), ((q 1), .inl (cI, 88, .inl (S.1.1 1))), ((q 2), .inl (cI, 88, .inl (S.1.1 2))), ((q 3), .inr (8, [.ref (qk 0), .ref (qk 1), .int (S.2.1.2.2 2)])), ((qk 0), .inl (cI, 5720, .inl (S.2.1.1 0))), ((qk 1), .inl (cI, 5720, .inl (S.2.1.1 1))), (h1, .inr (8, [.ref (q1 0), .ref (q1 1), .int (S.2.2.2.2 2)])), ((q1 0), .inl (cI, 275, .inl (S.2.2.1 0))), ((q1 1), .inl (cI, 275, .inl (S.2.2.1 1)))])) (va_Qv (fun u : gm_S × gm_S × gm_S => (0, u) = gm_f_Memory_recallCaptures x y S) (fun u t => gm_at D (va_A [(m0, .inr (9, [.ref (q 0), .ref (q 1), .ref (q 2), .ref (q 3)])), ((q 1), .inl (cI, 88, .inl (S.1.1 1))), ((q 2), .inl (cI, 88, .inl (S.1.1 2))), ((q 3), .inr (8, [.ref (qk 0), .ref (qk 1), .int (S.2.1.2.2 2)])), ((qk 0), .inl (cI, 5720, .inl (S.2.1.1 0))), ((qk 1), .inl (cI, 5720, .inl (S.2.1.1 1))), (h1, .inr (8, [.ref (q1 0), .ref (q1 1), .int (S.2.2.2.2 2)])), ((q1 0), .inl (cI, 275, .inl (S.2.2.1 0))), ((q1 1), .inl (cI, 275, .inl (S.2.2.1 1)))] sz) [(m0, .inr (9, [.ref (q 0), .ref (q 1), .ref (q 2), .ref (q 3)])), ((q 1), .inl (cI, 88, .inl (S.1.1 1))), ((q 2), .inl (cI, 88, .inl (S.1.1 2))), ((q 3), .inr (8, [.ref (qk 0), .ref (qk 1), .int (S.2.1.2.2 2)])), ((qk 0), .inl (cI, 5720, .inl (S.2.1.1 0))), ((qk 1), .inl (cI, 5720, .inl (S.2.1.1 1))), (h1, .inr (8, [.ref (q1 0), .ref (q1 1), .int (u.2.2.2.2 2)])), ((q1 0), .inl (cI, 275, .inl (u.2.2.1 0))), ((q1 1), .inl (cI, 275, .inl (u.2.2.1 1)))] (gm_T cI cJ cC cZ) t) (va_A [(m0, .inr (9, [.ref (q 0), .ref (q 1), .ref (q 2), .ref (q 3)])), ((q 1), .inl (cI, 88, .inl (S.1.1 1))), ((q 2), .inl (cI, 88, .inl (S.1.1 2))), ((q 3), .inr (8, [.ref (qk 0), .ref (qk 1), .int (S.2.1.2.2 2)])), ((qk 0), .inl (cI, 5720, .inl (S.2.1.1 0))), ((qk 1), .inl (cI, 5720, .inl (S.2.1.1 1))), (h1, .inr (8, [.ref (q1 0), .ref (q1 1), .int (S.2.2.2.2 2)])), ((q1 0), .inl (cI, 275, .inl (S.2.2.1 0))), ((q1 1), .inl (cI, 275, .inl (S.2.2.1 1)))] sz)) 0 0 (va_A [(m0, .inr (9, [.ref (q 0), .ref (q 1), .ref (q 2), .ref (q 3)])), ((q 1), .inl (cI, 88, .inl (S.1.1 1))), ((q 2), .inl (cI, 88, .inl (S.1.1 2))), ((q 3), .inr (8, [.ref (qk 0), .ref (qk 1), .int (S.2.1.2.2 2)])), ((qk 0), .inl (cI, 5720, .inl (S.2.1.1 0))), ((qk 1), .inl (cI, 5720, .inl (S.2.1.1 1))), (h1, .inr (8, [.ref (q1 0), .ref (q1 1), .int (S.2.2.2.2 2)])), ((q1 0), .inl (cI, 275, .inl (S.2.2.1 0))), ((q1 1), .inl (cI, 275, .inl (S.2.2.1 1)))] sz) := by
  refine Met.ofW (cc := gm_b_Memory_recallCaptures) (maxL := 5) (ret := none) (by decide) rfl ?_
  intro p e s m args below meth c s₁ B hml hv
  obtain ⟨rfl, hsz, hP, hK, hD0⟩ := hv
  have hx := B.exec
  have hb := B.bytes
  have hr := B.returns
  have hw : ∀ w ∈ gm_W, w.before _ s = true := fun w h => atoms_spec B.pre w (List.mem_cons_of_mem _ h)
  have hown : s.vm.findClass gm_R_Memory = some m.cls := findClass_of_methodNamed B.named
  subst hsz
  have hD := hD0.self (sz := s.heap.size)
  generalize hAe : va_A [(m0, .inr (9, [.ref (q 0), .ref (q 1), .ref (q 2), .ref (q 3)])), ((q 1), .inl (cI, 88, .inl (S.1.1 1))), ((q 2), .inl (cI, 88, .inl (S.1.1 2))), ((q 3), .inr (8, [.ref (qk 0), .ref (qk 1), .int (S.2.1.2.2 2)])), ((qk 0), .inl (cI, 5720, .inl (S.2.1.1 0))), ((qk 1), .inl (cI, 5720, .inl (S.2.1.1 1))), (h1, .inr (8, [.ref (q1 0), .ref (q1 1), .int (S.2.2.2.2 2)])), ((q1 0), .inl (cI, 275, .inl (S.2.2.1 0))), ((q1 1), .inl (cI, 275, .inl (S.2.2.1 1)))] s.heap.size = A at hD ⊢
  have hA : ∀ q : Nat, s.heap.size ≤ q → A q := fun q h => by rw [← hAe]; exact Or.inr h
  have hS : va_S A s.heap s.heap [] := va_S.rf
  have hl := lv_entry ([.ref m0, .int x, .int y, .ref h1]) (n := 5) (Nat.le_of_ble_eq_true rfl)
  rw [lg_entry_eq]
  generalize (lg_sl ([.ref m0, .int x, .int y, .ref h1]) ++ List.replicate (5 - (lg_sl ([.ref m0, .int x, .int y, .ref h1])).length) Slot.unset).toArray = ls at hl ⊢
  have hl : lv_has ls 5 [(0, .ref m0), (1, .int x), (2, .int y), (3, .ref h1)] := hl
  have hF := gm_f_Memory_recallCaptures.eq_1 x y S
  unfold gm_p_Memory_recallCaptures at hok
  refine lv_iload_n hx hb gm_d_Memory_recallCaptures_0 rfl (lv_at hl 1 rfl) ?_
  refine lv_iload_n hx hb gm_d_Memory_recallCaptures_1 rfl (lv_at hl 2 rfl) ?_
  have hP0 : va_P D gm_cl [] s.heap := fun k q hq => by cases hq
  have hPc := hP.sub (ws' := []) [] rfl
  have hDc := hD.sub (ws' := []) [] (by decide) rfl
  have hFc := va_free (wc := []) hD hS hA [] rfl
  refine va_calli (va_runS (As := [.int x, .int y]) (rest := []) ⟨hx, hb, hml, hown, hw⟩ (gm_a_Memory_slotOf l D cI cJ cC cZ    x y s.heap.size  hok.1) (cwS 2 hw (gm_gS gm_l_Memory_40 gm_q_Memory_slotOf gm_i_Memory (gm_gd gm_k_Memory_slotOf)) rfl rfl rfl (by decide +kernel) ⟨Nat.le_of_ble_eq_true rfl, Nat.le_of_ble_eq_true rfl⟩) ⟨fun a U g mk q => by obtain ⟨q0, q1, qP, qK, qD⟩ := q; exact ⟨q0, q1, qP, va_K.moved (u := U) (U := U.calling g mk a) (Vm.Alike.refl U.vm) qK, qD⟩, fun U hU hW => ⟨rfl, by rw [hU], by rw [hU]; exact hPc, va_K.moved hW.alike hK, hDc.weaken (fun _ _ _ _ => trivial)⟩⟩ rfl rfl hl.1 rfl (lv_room (Nat.le_of_ble_eq_true rfl)) gm_d_Memory_recallCaptures_2 ⟨Nat.le_of_ble_eq_true rfl, Nat.le_of_ble_eq_true rfl⟩) hS (fun q _ h => hFc q h) hFc (fun r2 _ t H1 locs ht hvm h2 hB hz1 hk1 hS => ?_)
  obtain ⟨hP1, -, hD1⟩ := hB
  rw [ht] at hP1
  have hP1 : va_P D gm_cl [] H1 := hP1
  have hD1 : va_D (va_A [] s.heap.size) [] := hD1
  obtain ⟨hP, hD⟩ := va_join (wr := [(m0, .inr (9, [.ref (q 0), .ref (q 1), .ref (q 2), .ref (q 3)])), ((q 1), .inl (cI, 88, .inl (S.1.1 1))), ((q 2), .inl (cI, 88, .inl (S.1.1 2))), ((q 3), .inr (8, [.ref (qk 0), .ref (qk 1), .int (S.2.1.2.2 2)])), ((qk 0), .inl (cI, 5720, .inl (S.2.1.1 0))), ((qk 1), .inl (cI, 5720, .inl (S.2.1.1 1))), (h1, .inr (8, [.ref (q1 0), .ref (q1 1), .int (S.2.2.2.2 2)])), ((q1 0), .inl (cI, 275, .inl (S.2.2.1 0))), ((q1 1), .inl (cI, 275, .inl (S.2.2.1 1)))]) hP hD [] [0, 1, 2, 3, 4, 5, 6, 7, 8] rfl rfl (by decide) (by decide) hk1 hFc hP1 hD1
  generalize H1 = H at hP hS ⊢
  have hP : va_P D gm_cl [(m0, .inr (9, [.ref (q 0), .ref (q 1), .ref (q 2), .ref (q 3)])), ((q 1), .inl (cI, 88, .inl (S.1.1 1))), ((q 2), .inl (cI, 88, .inl (S.1.1 2))), ((q 3), .inr (8, [.ref (qk 0), .ref (qk 1), .int (S.2.1.2.2 2)])), ((qk 0), .inl (cI, 5720, .inl (S.2.1.1 0))), ((qk 1), .inl (cI, 5720, .inl (S.2.1.1 1))), (h1, .inr (8, [.ref (q1 0), .ref (q1 1), .int (S.2.2.2.2 2)])), ((q1 0), .inl (cI, 275, .inl (S.2.2.1 0))), ((q1 1), .inl (cI, 275, .inl (S.2.2.1 1)))] H := hP
  have hD : va_D A [(m0, .inr (9, [.ref (q 0), .ref (q 1), .ref (q 2), .ref (q 3)])), ((q 1), .inl (cI, 88, .inl (S.1.1 1))), ((q 2), .inl (cI, 88, .inl (S.1.1 2))), ((q 3), .inr (8, [.ref (qk 0), .ref (qk 1), .int (S.2.1.2.2 2)])), ((qk 0), .inl (cI, 5720, .inl (S.2.1.1 0))), ((qk 1), .inl (cI, 5720, .inl (S.2.1.1 1))), (h1, .inr (8, [.ref (q1 0), .ref (q1 1), .int (S.2.2.2.2 2)])), ((q1 0), .inl (cI, 275, .inl (S.2.2.1 0))), ((q1 1), .inl (cI, 275, .inl (S.2.2.1 1)))] := hD
  have hF := hF.trans (gm_bd_eq h2)
  have hok := gm_bd_ok h2 hok.2
  refine lv_istore (lv' := [(4, .int r2), (0, .ref m0), (1, .int x), (2, .int y), (3, .ref h1)]) hx hb gm_d_Memory_recallCaptures_5 hl (Nat.le_of_ble_eq_true rfl) rfl (fun ls hl => ?_)
  refine lv_iload hx hb gm_d_Memory_recallCaptures_7 (lv_at hl 0 rfl) ?_
  refine lv_iconst (v := (-1)) hx hb gm_d_Memory_recallCaptures_9 (by decide) ?_
  refine lv_icmp_eq (tgt := 35) hx hb gm_d_Memory_recallCaptures_10 (by decide) (fun c10 => ?_) (fun c10 => ?_)
  · skip
    have hF := hF.trans (if_pos c10)
    have hok := hok.1 c10
    exact W.vret hx hb hr (fun t ht hW => ⟨⟨(S.1, S.2.1, S.2.2), rfl, hF.symm, by rw [ht]; exact hP, va_K.moved hW.alike hK, hD⟩, hS.F ht⟩) hS.2.2 gm_d_Memory_recallCaptures_35
  · skip
    have hF := hF.trans (if_neg c10)
    have hok := hok.2 c10
    refine lv_aload_n hx hb gm_d_Memory_recallCaptures_13 rfl (lv_at hl 4 rfl) ?_
    refine lv_aload_n hx hb gm_d_Memory_recallCaptures_14 rfl (lv_at hl 1 rfl) ?_
    refine va_get (D := D) (ci := 9) (v := .ref (q 3)) (C := gm_R_Memory) (T := gm_F_Memory) (N := 4) hx hb hw gm_u_Memory hown hK hP 0 rfl rfl 3 (by decide) (hw _ gm_l_Memory_26) (fun _ h9 => h9) rfl gm_d_Memory_recallCaptures_15 ?_
    refine lv_aload_n hx hb gm_d_Memory_recallCaptures_18 rfl (lv_at hl 1 rfl) ?_
    refine va_get (D := D) (ci := 9) (v := .ref (q 1)) (C := gm_R_Memory) (T := gm_F_Memory) (N := 4) hx hb hw gm_u_Memory hown hK hP 0 rfl rfl 1 (by decide) (hw _ gm_l_Memory_15) (fun _ h9 => h9) rfl gm_d_Memory_recallCaptures_19 ?_
    refine lv_iload hx hb gm_d_Memory_recallCaptures_22 (lv_at hl 0 rfl) ?_
    have i24 := hok.1
    have hok := hok.2
    refine va_iald hx hb hK hP 1 0 rfl rfl i24 gm_d_Memory_recallCaptures_24 ?_
    refine lv_aload_n hx hb gm_d_Memory_recallCaptures_25 rfl (lv_at hl 1 rfl) ?_
    refine va_get (D := D) (ci := 9) (v := .ref (q 2)) (C := gm_R_Memory) (T := gm_F_Memory) (N := 4) hx hb hw gm_u_Memory hown hK hP 0 rfl rfl 2 (by decide) (hw _ gm_l_Memory_18) (fun _ h9 => h9) rfl gm_d_Memory_recallCaptures_26 ?_
    refine lv_iload hx hb gm_d_Memory_recallCaptures_29 (lv_at hl 0 rfl) ?_
    have i31 := hok.1
    have hok := hok.2
    refine va_iald hx hb hK hP 2 0 rfl rfl i31 gm_d_Memory_recallCaptures_31 ?_
    have hPc := hP.sub (ws' := [(h1, .inr (8, [.ref (q1 0), .ref (q1 1), .int (S.2.2.2.2 2)])), ((q1 0), .inl (cI, 275, .inl (S.2.2.1 0))), ((q1 1), .inl (cI, 275, .inl (S.2.2.1 1))), ((q 3), .inr (8, [.ref (qk 0), .ref (qk 1), .int (S.2.1.2.2 2)])), ((qk 0), .inl (cI, 5720, .inl (S.2.1.1 0))), ((qk 1), .inl (cI, 5720, .inl (S.2.1.1 1)))]) [6, 7, 8, 3, 4, 5] rfl
    have hDc := hD.sub (ws' := [(h1, .inr (8, [.ref (q1 0), .ref (q1 1), .int (S.2.2.2.2 2)])), ((q1 0), .inl (cI, 275, .inl (S.2.2.1 0))), ((q1 1), .inl (cI, 275, .inl (S.2.2.1 1))), ((q 3), .inr (8, [.ref (qk 0), .ref (qk 1), .int (S.2.1.2.2 2)])), ((qk 0), .inl (cI, 5720, .inl (S.2.1.1 0))), ((qk 1), .inl (cI, 5720, .inl (S.2.1.1 1)))]) [6, 7, 8, 3, 4, 5] (by decide) rfl
    have hFc := va_free (wc := [(h1, .inr (8, [.ref (q1 0), .ref (q1 1), .int (S.2.2.2.2 2)])), ((q1 0), .inl (cI, 275, .inl (S.2.2.1 0))), ((q1 1), .inl (cI, 275, .inl (S.2.2.1 1))), ((q 3), .inr (8, [.ref (qk 0), .ref (qk 1), .int (S.2.1.2.2 2)])), ((qk 0), .inl (cI, 5720, .inl (S.2.1.1 0))), ((qk 1), .inl (cI, 5720, .inl (S.2.1.1 1)))]) hD hS hA [6, 7, 8, 3, 4, 5] rfl
    refine va_callv (va_runV (As := [.ref (q 3), .int ((S.1.1 1) (Int32.toNatClampNeg r2)), .int ((S.1.1 2) (Int32.toNatClampNeg r2))]) (rest := []) ⟨hx, hb, hml, hown, hw⟩ (gm_a_Captures_addFrom l D cI cJ cC cZ h1 q1 (q 3) qk   275 5720 ((S.1.1 1) (Int32.toNatClampNeg r2)) ((S.1.1 2) (Int32.toNatClampNeg r2)) (S.2.2, S.2.1) H.size  hok.1) (cwV 3 hw (gm_gV gm_l_Memory_44 gm_q_Captures_addFrom gm_s_Captures_addFrom gm_i_Captures (gm_gd gm_k_Captures_addFrom)) rfl rfl rfl (by decide +kernel) ⟨Nat.le_of_ble_eq_true rfl, Nat.le_of_ble_eq_true rfl⟩) ⟨fun a U g mk q => by obtain ⟨q0, q1, qP, qK, qD⟩ := q; exact ⟨q0, q1, qP, va_K.moved (u := U) (U := U.calling g mk a) (Vm.Alike.refl U.vm) qK, qD⟩, va_recv hK hP (ci := 8) rfl (q0 := 6) rfl, fun U hU hW => ⟨rfl, by rw [hU], by rw [hU]; exact hPc, va_K.moved hW.alike hK, hDc.weaken (fun _ _ _ _ => trivial)⟩⟩ rfl rfl hl.1 rfl (lv_room (Nat.le_of_ble_eq_true rfl)) gm_d_Memory_recallCaptures_32 ⟨Nat.le_of_ble_eq_true rfl, Nat.le_of_ble_eq_true rfl⟩) hS (fun q _ h => hFc q h) hFc (fun u32 t H1 locs ht hvm h32 hB hz1 hk1 hS => ?_)
    obtain ⟨hP1, -, hD1⟩ := hB
    rw [ht] at hP1
    have hP1 : va_P D gm_cl [(h1, .inr (8, [.ref (q1 0), .ref (q1 1), .int (u32.1.2.2 2)])), ((q1 0), .inl (cI, 275, .inl (u32.1.1 0))), ((q1 1), .inl (cI, 275, .inl (u32.1.1 1))), ((q 3), .inr (8, [.ref (qk 0), .ref (qk 1), .int (S.2.1.2.2 2)])), ((qk 0), .inl (cI, 5720, .inl (S.2.1.1 0))), ((qk 1), .inl (cI, 5720, .inl (S.2.1.1 1)))] H1 := hP1
    have hD1 : va_D (va_A [(h1, .inr (8, [.ref (q1 0), .ref (q1 1), .int (S.2.2.2.2 2)])), ((q1 0), .inl (cI, 275, .inl (S.2.2.1 0))), ((q1 1), .inl (cI, 275, .inl (S.2.2.1 1))), ((q 3), .inr (8, [.ref (qk 0), .ref (qk 1), .int (S.2.1.2.2 2)])), ((qk 0), .inl (cI, 5720, .inl (S.2.1.1 0))), ((qk 1), .inl (cI, 5720, .inl (S.2.1.1 1)))] H.size) [(h1, .inr (8, [.ref (q1 0), .ref (q1 1), .int (u32.1.2.2 2)])), ((q1 0), .inl (cI, 275, .inl (u32.1.1 0))), ((q1 1), .inl (cI, 275, .inl (u32.1.1 1))), ((q 3), .inr (8, [.ref (qk 0), .ref (qk 1), .int (S.2.1.2.2 2)])), ((qk 0), .inl (cI, 5720, .inl (S.2.1.1 0))), ((qk 1), .inl (cI, 5720, .inl (S.2.1.1 1)))] := hD1
    obtain ⟨hP, hD⟩ := va_join (wr := [(m0, .inr (9, [.ref (q 0), .ref (q 1), .ref (q 2), .ref (q 3)])), ((q 1), .inl (cI, 88, .inl (S.1.1 1))), ((q 2), .inl (cI, 88, .inl (S.1.1 2)))]) hP hD [6, 7, 8, 3, 4, 5] [0, 1, 2] rfl rfl (by decide) (by decide) hk1 hFc hP1 hD1
    generalize H1 = H at hP hS ⊢
    have hP : va_P D gm_cl [(m0, .inr (9, [.ref (q 0), .ref (q 1), .ref (q 2), .ref (q 3)])), ((q 1), .inl (cI, 88, .inl (S.1.1 1))), ((q 2), .inl (cI, 88, .inl (S.1.1 2))), (h1, .inr (8, [.ref (q1 0), .ref (q1 1), .int (u32.1.2.2 2)])), ((q1 0), .inl (cI, 275, .inl (u32.1.1 0))), ((q1 1), .inl (cI, 275, .inl (u32.1.1 1))), ((q 3), .inr (8, [.ref (qk 0), .ref (qk 1), .int (S.2.1.2.2 2)])), ((qk 0), .inl (cI, 5720, .inl (S.2.1.1 0))), ((qk 1), .inl (cI, 5720, .inl (S.2.1.1 1)))] H := hP
    have hD : va_D A [(m0, .inr (9, [.ref (q 0), .ref (q 1), .ref (q 2), .ref (q 3)])), ((q 1), .inl (cI, 88, .inl (S.1.1 1))), ((q 2), .inl (cI, 88, .inl (S.1.1 2))), (h1, .inr (8, [.ref (q1 0), .ref (q1 1), .int (u32.1.2.2 2)])), ((q1 0), .inl (cI, 275, .inl (u32.1.1 0))), ((q1 1), .inl (cI, 275, .inl (u32.1.1 1))), ((q 3), .inr (8, [.ref (qk 0), .ref (qk 1), .int (S.2.1.2.2 2)])), ((qk 0), .inl (cI, 5720, .inl (S.2.1.1 0))), ((qk 1), .inl (cI, 5720, .inl (S.2.1.1 1)))] := hD
    have hP := hP.sub (ws' := [(m0, .inr (9, [.ref (q 0), .ref (q 1), .ref (q 2), .ref (q 3)])), ((q 1), .inl (cI, 88, .inl (S.1.1 1))), ((q 2), .inl (cI, 88, .inl (S.1.1 2))), ((q 3), .inr (8, [.ref (qk 0), .ref (qk 1), .int (S.2.1.2.2 2)])), ((qk 0), .inl (cI, 5720, .inl (S.2.1.1 0))), ((qk 1), .inl (cI, 5720, .inl (S.2.1.1 1))), (h1, .inr (8, [.ref (q1 0), .ref (q1 1), .int (u32.1.2.2 2)])), ((q1 0), .inl (cI, 275, .inl (u32.1.1 0))), ((q1 1), .inl (cI, 275, .inl (u32.1.1 1)))]) [0, 1, 2, 6, 7, 8, 3, 4, 5] rfl
    have hD := hD.sub (ws' := [(m0, .inr (9, [.ref (q 0), .ref (q 1), .ref (q 2), .ref (q 3)])), ((q 1), .inl (cI, 88, .inl (S.1.1 1))), ((q 2), .inl (cI, 88, .inl (S.1.1 2))), ((q 3), .inr (8, [.ref (qk 0), .ref (qk 1), .int (S.2.1.2.2 2)])), ((qk 0), .inl (cI, 5720, .inl (S.2.1.1 0))), ((qk 1), .inl (cI, 5720, .inl (S.2.1.1 1))), (h1, .inr (8, [.ref (q1 0), .ref (q1 1), .int (u32.1.2.2 2)])), ((q1 0), .inl (cI, 275, .inl (u32.1.1 0))), ((q1 1), .inl (cI, 275, .inl (u32.1.1 1)))]) [0, 1, 2, 6, 7, 8, 3, 4, 5] (by decide) rfl
    have hF := hF.trans (gm_bd_eq h32)
    have hok := gm_bd_ok h32 hok.2
    exact W.vret hx hb hr (fun t ht hW => ⟨⟨(S.1, S.2.1, ((va_up (va_up S.2.2.1 0 (u32.1.1 0)) 1 (u32.1.1 1)), S.2.2.2.1, (va_up S.2.2.2.2 2 (u32.1.2.2 2)))), rfl, hF.symm, by rw [ht]; exact hP, va_K.moved hW.alike hK, hD⟩, hS.F ht⟩) hS.2.2 gm_d_Memory_recallCaptures_35
