abbrev gm_b_LW_law : ByteArray := code
def gm_f_GM_type (x : Int32) (S : gm_S × gm_S) : Int32 × (gm_S × gm_S) := (gm_bd (gm_f_Row_append 50 x S.2) (fun r5 u5 => (r5, (S.1, ((va_up S.2.1 0 (u5.1 0)), S.2.2.1, (va_up S.2.2.2 1 (u5.2.2 1)))))))
def gm_p_GM_type (x : Int32) (S : gm_S × gm_S) : Prop := (gm_p_Row_append 50 x S.2 ∧ gm_bd (gm_f_Row_append 50 x S.2) (fun r5 u5 => ((r5 = 0 ∨ r5 = 1) ∧ True)))
set_option maxHeartbeats 4000000 in
set_option maxRecDepth 100000 in
theorem gm_a_GM_type (l : Launch) (D : va_G) (cI cJ cC cZ : ClassId) (m0 : Nat) (qm : Nat → Nat) (qt : Nat → Nat) (x : Int32) (S : gm_S × gm_S) (sz : Nat) (hok : gm_p_GM_type x S) : Met l gm_y_GM_type (Cond.code gm_y_GM_type gm_b_GM_type 2 (some .boolean) :: gm_W) { frames := 8, cells := 0, slots := 0, locals := 128 } (va_Pc [.ref m0, .int x] (fun U => U.heap.size = sz ∧ va_P D gm_cl [(m0, .inr (0, [.ref (qm 0), .ref (qm 1), .ref (qm 2), .ref (qm 3), .ref (qm 4), .int (S.1.2.2 5), .int (S.1.2.2 6), .int (S.1.2.2 7)])), ((qm 0), .inr (1, [.ref (qt 0), .int (S.2.2.2 1)])), ((qt 0), .inl (cC, 50, .inl (S.2.1 0)))] U.heap ∧ va_K D gm_cl (gm_T cI cJ cC cZ) U ∧ va_D (fun _ => True) [(m0, .inr (0, [.ref (qm 0), .ref (qm 1), .ref (qm 2), .ref (qm 3), .ref (qm 4), .int (S.1.2.2 5), .int (S.1.2.2 6), .int (S.1.2.2 7)])), ((qm 0), .inr (1, [.ref (qt 0), .int (S.2.2.2 1)])), ((qt 0), .inl (cC, 50, .inl (S.2.1 0)))])) (va_Qi (fun (r : Int32) (u : gm_S × gm_S) => (r, u) = gm_f_GM_type x S) (fun u t => gm_at D (va_A [(m0, .inr (0, [.ref (qm 0), .ref (qm 1), .ref (qm 2), .ref (qm 3), .ref (qm 4), .int (S.1.2.2 5), .int (S.1.2.2 6), .int (S.1.2.2 7)])), ((qm 0), .inr (1, [.ref (qt 0), .int (S.2.2.2 1)])), ((qt 0), .inl (cC, 50, .inl (S.2.1 0)))] sz) [(m0, .inr (0, [.ref (qm 0), .ref (qm 1), .ref (qm 2), .ref (qm 3), .ref (qm 4), .int (S.1.2.2 5), .int (S.1.2.2 6), .int (S.1.2.2 7)])), ((qm 0), .inr (1, [.ref (qt 0), .int (u.2.2.2 1)])), ((qt 0), .inl (cC, 50, .inl (u.2.1 0)))] (gm_T cI cJ cC cZ) t) (va_A [(m0, .inr (0, [.ref (qm 0), .ref (qm 1), .ref (qm 2), .ref (qm 3), .ref (qm 4), .int (S.1.2.2 5), .int (S.1.2.2 6), .int (S.1.2.2 7)])), ((qm 0), .inr (1, [.ref (qt 0), .int (S.2.2.2 1)])), ((qt 0), .inl (cC, 50, .inl (S.2.1 0)))] sz)) 0 0 (va_A [(m0, .inr (0, [.ref (qm 0), .ref (qm 1), .ref (qm 2), .ref (qm 3), .ref (qm 4), .int (S.1.2.2 5), .int (S.1.2.2 6), .int (S.1.2.2 7)])), ((qm 0), .inr (1, [.ref (qt 0), .int (S.2.2.2 1)])), ((qt 0), .inl (cC, 50, .inl (S.2.1 0)))] sz) := by
  refine Met.ofW (cc := gm_b_GM_type) (maxL := 2) (ret := (some .boolean)) (by decide) rfl ?_
  intro p e s m args below meth c s₁ B hml hv
  obtain ⟨rfl, hsz, hP, hK, hD0⟩ := hv
  have hx := B.exec
  have hb := B.bytes
  have hr := B.returns
  have hw : ∀ w ∈ gm_W, w.before _ s = true := fun w h => atoms_spec B.pre w (List.mem_cons_of_mem _ h)
  have hown : s.vm.findClass gm_R_GM = some m.cls := findClass_of_methodNamed B.named
  subst hsz
  have hD := hD0.self (sz := s.heap.size)
  generalize hAe : va_A [(m0, .inr (0, [.ref (qm 0), .ref (qm 1), .ref (qm 2), .ref (qm 3), .ref (qm 4), .int (S.1.2.2 5), .int (S.1.2.2 6), .int (S.1.2.2 7)])), ((qm 0), .inr (1, [.ref (qt 0), .int (S.2.2.2 1)])), ((qt 0), .inl (cC, 50, .inl (S.2.1 0)))] s.heap.size = A at hD ⊢
  have hA : ∀ q : Nat, s.heap.size ≤ q → A q := fun q h => by rw [← hAe]; exact Or.inr h
  have hS : va_S A s.heap s.heap [] := va_S.rf
  have hl := lv_entry ([.ref m0, .int x]) (n := 2) (Nat.le_of_ble_eq_true rfl)
  rw [lg_entry_eq]
  generalize (lg_sl ([.ref m0, .int x]) ++ List.replicate (2 - (lg_sl ([.ref m0, .int x])).length) Slot.unset).toArray = ls at hl ⊢
  have hl : lv_has ls 2 [(0, .ref m0), (1, .int x)] := hl
  have hF := gm_f_GM_type.eq_1 x S
  unfold gm_p_GM_type at hok
  refine lv_aload_n hx hb gm_d_GM_type_0 rfl (lv_at hl 0 rfl) ?_
  refine va_get (D := D) (ci := 0) (v := .ref (qm 0)) (C := gm_R_GM) (T := gm_F_GM) (N := 8) hx hb hw gm_u_GM hown hK hP 0 rfl rfl 0 (by decide) (hw _ gm_l_GM_14) (fun _ h9 => h9) rfl gm_d_GM_type_1 ?_
  refine lv_iload_n hx hb gm_d_GM_type_4 rfl (lv_at hl 1 rfl) ?_
  have hPc := hP.sub (ws' := [((qm 0), .inr (1, [.ref (qt 0), .int (S.2.2.2 1)])), ((qt 0), .inl (cC, 50, .inl (S.2.1 0)))]) [1, 2] rfl
  have hDc := hD.sub (ws' := [((qm 0), .inr (1, [.ref (qt 0), .int (S.2.2.2 1)])), ((qt 0), .inl (cC, 50, .inl (S.2.1 0)))]) [1, 2] (by decide) rfl
  have hFc := va_free (wc := [((qm 0), .inr (1, [.ref (qt 0), .int (S.2.2.2 1)])), ((qt 0), .inl (cC, 50, .inl (S.2.1 0)))]) hD hS hA [1, 2] rfl
  refine va_calli (va_runV (As := [.int x]) (rest := []) ⟨hx, hb, hml, hown, hw⟩ (gm_a_Row_append l D cI cJ cC cZ (qm 0) qt   50 x S.2 s.heap.size  hok.1) (cwV 1 hw (gm_gV gm_l_GM_53 gm_q_Row_append gm_s_Row_append gm_i_Row (gm_gd gm_k_Row_append)) rfl rfl rfl (by decide +kernel) ⟨Nat.le_of_ble_eq_true rfl, Nat.le_of_ble_eq_true rfl⟩) ⟨fun a U g mk q => by obtain ⟨q0, q1, qP, qK, qD⟩ := q; exact ⟨q0, q1, qP, va_K.moved (u := U) (U := U.calling g mk a) (Vm.Alike.refl U.vm) qK, qD⟩, va_recv hK hP (ci := 1) rfl (q0 := 1) rfl, fun U hU hW => ⟨rfl, by rw [hU], by rw [hU]; exact hPc, va_K.moved hW.alike hK, hDc.weaken (fun _ _ _ _ => trivial)⟩⟩ rfl rfl hl.1 rfl (lv_room (Nat.le_of_ble_eq_true rfl)) gm_d_GM_type_5 ⟨Nat.le_of_ble_eq_true rfl, Nat.le_of_ble_eq_true rfl⟩) hS (fun q _ h => hFc q h) hFc (fun r5 u5 t H1 locs ht hvm h5 hB hz1 hk1 hS => ?_)
  obtain ⟨hP1, -, hD1⟩ := hB
  rw [ht] at hP1
  have hP1 : va_P D gm_cl [((qm 0), .inr (1, [.ref (qt 0), .int (u5.2.2 1)])), ((qt 0), .inl (cC, 50, .inl (u5.1 0)))] H1 := hP1
  have hD1 : va_D (va_A [((qm 0), .inr (1, [.ref (qt 0), .int (S.2.2.2 1)])), ((qt 0), .inl (cC, 50, .inl (S.2.1 0)))] s.heap.size) [((qm 0), .inr (1, [.ref (qt 0), .int (u5.2.2 1)])), ((qt 0), .inl (cC, 50, .inl (u5.1 0)))] := hD1
  obtain ⟨hP, hD⟩ := va_join (wr := [(m0, .inr (0, [.ref (qm 0), .ref (qm 1), .ref (qm 2), .ref (qm 3), .ref (qm 4), .int (S.1.2.2 5), .int (S.1.2.2 6), .int (S.1.2.2 7)]))]) hP hD [1, 2] [0] rfl rfl (by decide) (by decide) hk1 hFc hP1 hD1
  generalize H1 = H at hP hS ⊢
  have hP : va_P D gm_cl [(m0, .inr (0, [.ref (qm 0), .ref (qm 1), .ref (qm 2), .ref (qm 3), .ref (qm 4), .int (S.1.2.2 5), .int (S.1.2.2 6), .int (S.1.2.2 7)])), ((qm 0), .inr (1, [.ref (qt 0), .int (u5.2.2 1)])), ((qt 0), .inl (cC, 50, .inl (u5.1 0)))] H := hP
  have hD : va_D A [(m0, .inr (0, [.ref (qm 0), .ref (qm 1), .ref (qm 2), .ref (qm 3), .ref (qm 4), .int (S.1.2.2 5), .int (S.1.2.2 6), .int (S.1.2.2 7)])), ((qm 0), .inr (1, [.ref (qt 0), .int (u5.2.2 1)])), ((qt 0), .inl (cC, 50, .inl (u5.1 0)))] := hD
  have hF := hF.trans (gm_bd_eq h5)
  have hok := gm_bd_ok h5 hok.2
  exact W.zret (v := r5) hx hb hr (gm_nb hok.1) (fun t ht hW => ⟨⟨r5, (S.1, ((va_up S.2.1 0 (u5.1 0)), S.2.2.1, (va_up S.2.2.2 1 (u5.2.2 1)))), rfl, hF.symm, by rw [ht]; exact hP, va_K.moved hW.alike hK, hD⟩, hS.F ht⟩) hS.2.2 gm_d_GM_type_8
def gm_f_GM_wipe (S : gm_S × gm_S) : Int32 × (gm_S × gm_S) := (0, (S.1, (S.2.1, S.2.2.1, (va_up S.2.2.2 1 0))))
def gm_p_GM_wipe (S : gm_S × gm_S) : Prop := True
set_option maxHeartbeats 4000000 in
set_option maxRecDepth 100000 in
theorem gm_a_GM_wipe (l : Launch) (D : va_G) (cI cJ cC cZ : ClassId) (m0 : Nat) (qm : Nat → Nat) (qt : Nat → Nat) (S : gm_S × gm_S) (sz : Nat) (hok : gm_p_GM_wipe S) : Met l gm_y_GM_wipe (Cond.code gm_y_GM_wipe gm_b_GM_wipe 1 none :: gm_W) { frames := 4, cells := 0, slots := 0, locals := 64 } (va_Pc [.ref m0] (fun U => U.heap.size = sz ∧ va_P D gm_cl [(m0, .inr (0, [.ref (qm 0), .ref (qm 1), .ref (qm 2), .ref (qm 3), .ref (qm 4), .int (S.1.2.2 5), .int (S.1.2.2 6), .int (S.1.2.2 7)])), ((qm 0), .inr (1, [.ref (qt 0), .int (S.2.2.2 1)]))] U.heap ∧ va_K D gm_cl (gm_T cI cJ cC cZ) U ∧ va_D (fun _ => True) [(m0, .inr (0, [.ref (qm 0), .ref (qm 1), .ref (qm 2), .ref (qm 3), .ref (qm 4), .int (S.1.2.2 5), .int (S.1.2.2 6), .int (S.1.2.2 7)])), ((qm 0), .inr (1, [.ref (qt 0), .int (S.2.2.2 1)]))])) (va_Qv (fun u : gm_S × gm_S => (0, u) = gm_f_GM_wipe S) (fun u t => gm_at D (va_A [(m0, .inr (0, [.ref (qm 0), .ref (qm 1), .ref (qm 2), .ref (qm 3), .ref (qm 4), .int (S.1.2.2 5), .int (S.1.2.2 6), .int (S.1.2.2 7)])), ((qm 0), .inr (1, [.ref (qt 0), .int (S.2.2.2 1)]))] sz) [(m0, .inr (0, [.ref (qm 0), .ref (qm 1), .ref (qm 2), .ref (qm 3), .ref (qm 4), .int (S.1.2.2 5), .int (S.1.2.2 6), .int (S.1.2.2 7)])), ((qm 0), .inr (1, [.ref (qt 0), .int (u.2.2.2 1)]))] (gm_T cI cJ cC cZ) t) (va_A [(m0, .inr (0, [.ref (qm 0), .ref (qm 1), .ref (qm 2), .ref (qm 3), .ref (qm 4), .int (S.1.2.2 5), .int (S.1.2.2 6), .int (S.1.2.2 7)])), ((qm 0), .inr (1, [.ref (qt 0), .int (S.2.2.2 1)]))] sz)) 0 0 (va_A [(m0, .inr (0, [.ref (qm 0), .ref (qm 1), .ref (qm 2), .ref (qm 3), .ref (qm 4), .int (S.1.2.2 5), .int (S.1.2.2 6), .int (S.1.2.2 7)])), ((qm 0), .inr (1, [.ref (qt 0), .int (S.2.2.2 1)]))] sz) := by
  refine Met.ofW (cc := gm_b_GM_wipe) (maxL := 1) (ret := none) (by decide) rfl ?_
  intro p e s m args below meth c s₁ B hml hv
  obtain ⟨rfl, hsz, hP, hK, hD0⟩ := hv
  have hx := B.exec
  have hb := B.bytes
  have hr := B.returns
  have hw : ∀ w ∈ gm_W, w.before _ s = true := fun w h => atoms_spec B.pre w (List.mem_cons_of_mem _ h)
  have hown : s.vm.findClass gm_R_GM = some m.cls := findClass_of_methodNamed B.named
  subst hsz
  have hD := hD0.self (sz := s.heap.size)
  generalize hAe : va_A [(m0, .inr (0, [.ref (qm 0), .ref (qm 1), .ref (qm 2), .ref (qm 3), .ref (qm 4), .int (S.1.2.2 5), .int (S.1.2.2 6), .int (S.1.2.2 7)])), ((qm 0), .inr (1, [.ref (qt 0), .int (S.2.2.2 1)]))] s.heap.size = A at hD ⊢
  have hA : ∀ q : Nat, s.heap.size ≤ q → A q := fun q h => by rw [← hAe]; exact Or.inr h
  have hS : va_S A s.heap s.heap [] := va_S.rf
  have hl := lv_entry ([.ref m0]) (n := 1) (Nat.le_of_ble_eq_true rfl)
  rw [lg_entry_eq]
  generalize (lg_sl ([.ref m0]) ++ List.replicate (1 - (lg_sl ([.ref m0])).length) Slot.unset).toArray = ls at hl ⊢
  have hl : lv_has ls 1 [(0, .ref m0)] := hl
  have hF := gm_f_GM_wipe.eq_1 S
  unfold gm_p_GM_wipe at hok
  refine lv_aload_n hx hb gm_d_GM_wipe_0 rfl (lv_at hl 0 rfl) ?_
  refine va_get (D := D) (ci := 0) (v := .ref (qm 0)) (C := gm_R_GM) (T := gm_F_GM) (N := 8) hx hb hw gm_u_GM hown hK hP 0 rfl rfl 0 (by decide) (hw _ gm_l_GM_14) (fun _ h9 => h9) rfl gm_d_GM_wipe_1 ?_
  refine lv_iconst (v := 0) hx hb gm_d_GM_wipe_4 (by decide) ?_
  refine va_put (D := D) (ci := 1) (v := .int 0) (ty := .int) (C := gm_R_Row) (T := gm_F_Row) (N := 2) hx hb hw gm_u_Row gm_t_Row gm_o_Row gm_n_Row hown hK hP hD hS 1 rfl rfl 1 (by decide) (hw _ gm_l_GM_57) (fun _ h9 => h9) rfl (by decide +kernel) rfl rfl (Nat.le_of_ble_eq_true rfl) gm_d_GM_wipe_5 (fun H locs hP hD hS => ?_)
  have hP : va_P D gm_cl [(m0, .inr (0, [.ref (qm 0), .ref (qm 1), .ref (qm 2), .ref (qm 3), .ref (qm 4), .int (S.1.2.2 5), .int (S.1.2.2 6), .int (S.1.2.2 7)])), ((qm 0), .inr (1, [.ref (qt 0), .int 0]))] H := hP
  have hD : va_D A [(m0, .inr (0, [.ref (qm 0), .ref (qm 1), .ref (qm 2), .ref (qm 3), .ref (qm 4), .int (S.1.2.2 5), .int (S.1.2.2 6), .int (S.1.2.2 7)])), ((qm 0), .inr (1, [.ref (qt 0), .int 0]))] := hD
  have hP : va_P D gm_cl [(m0, .inr (0, [.ref (qm 0), .ref (qm 1), .ref (qm 2), .ref (qm 3), .ref (qm 4), .int (S.1.2.2 5), .int (S.1.2.2 6), .int (S.1.2.2 7)])), ((qm 0), .inr (1, [.ref (qt 0), .int 0]))] H := hP
  have hD : va_D A [(m0, .inr (0, [.ref (qm 0), .ref (qm 1), .ref (qm 2), .ref (qm 3), .ref (qm 4), .int (S.1.2.2 5), .int (S.1.2.2 6), .int (S.1.2.2 7)])), ((qm 0), .inr (1, [.ref (qt 0), .int 0]))] := hD
  exact W.vret hx hb hr (fun t ht hW => ⟨⟨(S.1, (S.2.1, S.2.2.1, (va_up S.2.2.2 1 0))), rfl, hF.symm, by rw [ht]; exact hP, va_K.moved hW.alike hK, hD⟩, hS.F ht⟩) hS.2.2 gm_d_GM_wipe_8
def gm_f_GM_fault (S : gm_S) : Int32 × (gm_S) := ((S.2.2 7), S)
def gm_p_GM_fault (S : gm_S) : Prop := True
set_option maxHeartbeats 4000000 in
set_option maxRecDepth 100000 in
theorem gm_a_GM_fault (l : Launch) (D : va_G) (cI cJ cC cZ : ClassId) (m0 : Nat) (qm : Nat → Nat) (S : gm_S) (sz : Nat) (hok : gm_p_GM_fault S) : Met l gm_y_GM_fault (Cond.code gm_y_GM_fault gm_b_GM_fault 1 (some .int) :: gm_W) { frames := 4, cells := 0, slots := 0, locals := 64 } (va_Pc [.ref m0] (fun U => U.heap.size = sz ∧ va_P D gm_cl [(m0, .inr (0, [.ref (qm 0), .ref (qm 1), .ref (qm 2), .ref (qm 3), .ref (qm 4), .int (S.2.2 5), .int (S.2.2 6), .int (S.2.2 7)]))] U.heap ∧ va_K D gm_cl (gm_T cI cJ cC cZ) U ∧ va_D (fun _ => True) [(m0, .inr (0, [.ref (qm 0), .ref (qm 1), .ref (qm 2), .ref (qm 3), .ref (qm 4), .int (S.2.2 5), .int (S.2.2 6), .int (S.2.2 7)]))])) (va_Qi (fun (r : Int32) (u : gm_S) => (r, u) = gm_f_GM_fault S) (fun u t => gm_at D (va_A [(m0, .inr (0, [.ref (qm 0), .ref (qm 1), .ref (qm 2), .ref (qm 3), .ref (qm 4), .int (S.2.2 5), .int (S.2.2 6), .int (S.2.2 7)]))] sz) [(m0, .inr (0, [.ref (qm 0), .ref (qm 1), .ref (qm 2), .ref (qm 3), .ref (qm 4), .int (S.2.2 5), .int (S.2.2 6), .int (S.2.2 7)]))] (gm_T cI cJ cC cZ) t) (va_A [(m0, .inr (0, [.ref (qm 0), .ref (qm 1), .ref (qm 2), .ref (qm 3), .ref (qm 4), .int (S.2.2 5), .int (S.2.2 6), .int (S.2.2 7)]))] sz)) 0 0 (va_A [(m0, .inr (0, [.ref (qm 0), .ref (qm 1), .ref (qm 2), .ref (qm 3), .ref (qm 4), .int (S.2.2 5), .int (S.2.2 6), .int (S.2.2 7)]))] sz) := by
  refine Met.ofW (cc := gm_b_GM_fault) (maxL := 1) (ret := (some .int)) (by decide) rfl ?_
  intro p e s m args below meth c s₁ B hml hv
  obtain ⟨rfl, hsz, hP, hK, hD0⟩ := hv
  have hx := B.exec
  have hb := B.bytes
  have hr := B.returns
  have hw : ∀ w ∈ gm_W, w.before _ s = true := fun w h => atoms_spec B.pre w (List.mem_cons_of_mem _ h)
  have hown : s.vm.findClass gm_R_GM = some m.cls := findClass_of_methodNamed B.named
  subst hsz
  have hD := hD0.self (sz := s.heap.size)
  generalize hAe : va_A [(m0, .inr (0, [.ref (qm 0), .ref (qm 1), .ref (qm 2), .ref (qm 3), .ref (qm 4), .int (S.2.2 5), .int (S.2.2 6), .int (S.2.2 7)]))] s.heap.size = A at hD ⊢
  have hA : ∀ q : Nat, s.heap.size ≤ q → A q := fun q h => by rw [← hAe]; exact Or.inr h
  have hS : va_S A s.heap s.heap [] := va_S.rf
  have hl := lv_entry ([.ref m0]) (n := 1) (Nat.le_of_ble_eq_true rfl)
  rw [lg_entry_eq]
  generalize (lg_sl ([.ref m0]) ++ List.replicate (1 - (lg_sl ([.ref m0])).length) Slot.unset).toArray = ls at hl ⊢
  have hl : lv_has ls 1 [(0, .ref m0)] := hl
  have hF := gm_f_GM_fault.eq_1 S
  unfold gm_p_GM_fault at hok
  refine lv_aload_n hx hb gm_d_GM_fault_0 rfl (lv_at hl 0 rfl) ?_
  refine va_get (D := D) (ci := 0) (v := .int (S.2.2 7)) (C := gm_R_GM) (T := gm_F_GM) (N := 8) hx hb hw gm_u_GM hown hK hP 0 rfl rfl 7 (by decide) (hw _ gm_l_GM_49) (fun _ h9 => h9) rfl gm_d_GM_fault_1 ?_
  exact W.iret (v := (S.2.2 7)) hx hb hr (fun t ht hW => ⟨⟨(S.2.2 7), S, rfl, hF.symm, by rw [ht]; exact hP, va_K.moved hW.alike hK, hD⟩, hS.F ht⟩) hS.2.2 gm_d_GM_fault_4
def gm_f_GM_feed (x : Int32) (S : gm_S × gm_S) : Int32 × (gm_S × gm_S) := (gm_bd (gm_f_Row_append 10 x S.2) (fun r5 u5 => (if r5 = 0 then (r5, (S.1, ((va_up S.2.1 0 (u5.1 0)), S.2.2.1, (va_up S.2.2.2 1 (u5.2.2 1))))) else (r5, ((S.1.1, S.1.2.1, (va_up S.1.2.2 6 0)), ((va_up S.2.1 0 (u5.1 0)), S.2.2.1, (va_up S.2.2.2 1 (u5.2.2 1))))))))
def gm_p_GM_feed (x : Int32) (S : gm_S × gm_S) : Prop := (gm_p_Row_append 10 x S.2 ∧ gm_bd (gm_f_Row_append 10 x S.2) (fun r5 u5 => ((r5 = 0 → ((r5 = 0 ∨ r5 = 1) ∧ True)) ∧ (¬ (r5 = 0) → ((r5 = 0 ∨ r5 = 1) ∧ True)))))
set_option maxHeartbeats 4000000 in
set_option maxRecDepth 100000 in
theorem gm_a_GM_feed (l : Launch) (D : va_G) (cI cJ cC cZ : ClassId) (m0 : Nat) (qm : Nat → Nat) (qw : Nat → Nat) (x : Int32) (S : gm_S × gm_S) (sz : Nat) (hok : gm_p_GM_feed x S) : Met l gm_y_GM_feed (Cond.code gm_y_GM_feed gm_b_GM_feed 3 (some .boolean) :: gm_W) { frames := 8, cells := 0, slots := 0, locals := 128 } (va_Pc [.ref m0, .int x] (fun U => U.heap.size = sz ∧ va_P D gm_cl [(m0, .inr (0, [.ref (qm 0), .ref (qm 1), .ref (qm 2), .ref (qm 3), .ref (qm 4), .int (S.1.2.2 5), .int (S.1.2.2 6), .int (S.1.2.2 7)])), ((qm 1), .inr (1, [.ref (qw 0), .int (S.2.2.2 1)])), ((qw 0), .inl (cC, 10, .inl (S.2.1 0)))] U.heap ∧ va_K D gm_cl (gm_T cI cJ cC cZ) U ∧ va_D (fun _ => True) [(m0, .inr (0, [.ref (qm 0), .ref (qm 1), .ref (qm 2), .ref (qm 3), .ref (qm 4), .int (S.1.2.2 5), .int (S.1.2.2 6), .int (S.1.2.2 7)])), ((qm 1), .inr (1, [.ref (qw 0), .int (S.2.2.2 1)])), ((qw 0), .inl (cC, 10, .inl (S.2.1 0)))])) (va_Qi (fun (r : Int32) (u : gm_S × gm_S) => (r, u) = gm_f_GM_feed x S) (fun u t => gm_at D (va_A [(m0, .inr (0, [.ref (qm 0), .ref (qm 1), .ref (qm 2), .ref (qm 3), .ref (qm 4), .int (S.1.2.2 5), .int (S.1.2.2 6), .int (S.1.2.2 7)])), ((qm 1), .inr (1, [.ref (qw 0), .int (S.2.2.2 1)])), ((qw 0), .inl (cC, 10, .inl (S.2.1 0)))] sz) [(m0, .inr (0, [.ref (qm 0), .ref (qm 1), .ref (qm 2), .ref (qm 3), .ref (qm 4), .int (S.1.2.2 5), .int (u.1.2.2 6), .int (S.1.2.2 7)])), ((qm 1), .inr (1, [.ref (qw 0), .int (u.2.2.2 1)])), ((qw 0), .inl (cC, 10, .inl (u.2.1 0)))] (gm_T cI cJ cC cZ) t) (va_A [(m0, .inr (0, [.ref (qm 0), .ref (qm 1), .ref (qm 2), .ref (qm 3), .ref (qm 4), .int (S.1.2.2 5), .int (S.1.2.2 6), .int (S.1.2.2 7)])), ((qm 1), .inr (1, [.ref (qw 0), .int (S.2.2.2 1)])), ((qw 0), .inl (cC, 10, .inl (S.2.1 0)))] sz)) 0 0 (va_A [(m0, .inr (0, [.ref (qm 0), .ref (qm 1), .ref (qm 2), .ref (qm 3), .ref (qm 4), .int (S.1.2.2 5), .int (S.1.2.2 6), .int (S.1.2.2 7)])), ((qm 1), .inr (1, [.ref (qw 0), .int (S.2.2.2 1)])), ((qw 0), .inl (cC, 10, .inl (S.2.1 0)))] sz) := by
  refine Met.ofW (cc := gm_b_GM_feed) (maxL := 3) (ret := (some .boolean)) (by decide) rfl ?_
  intro p e s m args below meth c s₁ B hml hv
  obtain ⟨rfl, hsz, hP, hK, hD0⟩ := hv
  have hx := B.exec
  have hb := B.bytes
  have hr := B.returns
  have hw : ∀ w ∈ gm_W, w.before _ s = true := fun w h => atoms_spec B.pre w (List.mem_cons_of_mem _ h)
  have hown : s.vm.findClass gm_R_GM = some m.cls := findClass_of_methodNamed B.named
  subst hsz
  have hD := hD0.self (sz := s.heap.size)
  generalize hAe : va_A [(m0, .inr (0, [.ref (qm 0), .ref (qm 1), .ref (qm 2), .ref (qm 3), .ref (qm 4), .int (S.1.2.2 5), .int (S.1.2.2 6), .int (S.1.2.2 7)])), ((qm 1), .inr (1, [.ref (qw 0), .int (S.2.2.2 1)])), ((qw 0), .inl (cC, 10, .inl (S.2.1 0)))] s.heap.size = A at hD ⊢
  have hA : ∀ q : Nat, s.heap.size ≤ q → A q := fun q h => by rw [← hAe]; exact Or.inr h
  have hS : va_S A s.heap s.heap [] := va_S.rf
  have hl := lv_entry ([.ref m0, .int x]) (n := 3) (Nat.le_of_ble_eq_true rfl)
  rw [lg_entry_eq]
  generalize (lg_sl ([.ref m0, .int x]) ++ List.replicate (3 - (lg_sl ([.ref m0, .int x])).length) Slot.unset).toArray = ls at hl ⊢
  have hl : lv_has ls 3 [(0, .ref m0), (1, .int x)] := hl
  have hF := gm_f_GM_feed.eq_1 x S
  unfold gm_p_GM_feed at hok
  refine lv_aload_n hx hb gm_d_GM_feed_0 rfl (lv_at hl 0 rfl) ?_
  refine va_get (D := D) (ci := 0) (v := .ref (qm 1)) (C := gm_R_GM) (T := gm_F_GM) (N := 8) hx hb hw gm_u_GM hown hK hP 0 rfl rfl 1 (by decide) (hw _ gm_l_GM_18) (fun _ h9 => h9) rfl gm_d_GM_feed_1 ?_
  refine lv_iload_n hx hb gm_d_GM_feed_4 rfl (lv_at hl 1 rfl) ?_
  have hPc := hP.sub (ws' := [((qm 1), .inr (1, [.ref (qw 0), .int (S.2.2.2 1)])), ((qw 0), .inl (cC, 10, .inl (S.2.1 0)))]) [1, 2] rfl
  have hDc := hD.sub (ws' := [((qm 1), .inr (1, [.ref (qw 0), .int (S.2.2.2 1)])), ((qw 0), .inl (cC, 10, .inl (S.2.1 0)))]) [1, 2] (by decide) rfl
  have hFc := va_free (wc := [((qm 1), .inr (1, [.ref (qw 0), .int (S.2.2.2 1)])), ((qw 0), .inl (cC, 10, .inl (S.2.1 0)))]) hD hS hA [1, 2] rfl
  refine va_calli (va_runV (As := [.int x]) (rest := []) ⟨hx, hb, hml, hown, hw⟩ (gm_a_Row_append l D cI cJ cC cZ (qm 1) qw   10 x S.2 s.heap.size  hok.1) (cwV 1 hw (gm_gV gm_l_GM_53 gm_q_Row_append gm_s_Row_append gm_i_Row (gm_gd gm_k_Row_append)) rfl rfl rfl (by decide +kernel) ⟨Nat.le_of_ble_eq_true rfl, Nat.le_of_ble_eq_true rfl⟩) ⟨fun a U g mk q => by obtain ⟨q0, q1, qP, qK, qD⟩ := q; exact ⟨q0, q1, qP, va_K.moved (u := U) (U := U.calling g mk a) (Vm.Alike.refl U.vm) qK, qD⟩, va_recv hK hP (ci := 1) rfl (q0 := 1) rfl, fun U hU hW => ⟨rfl, by rw [hU], by rw [hU]; exact hPc, va_K.moved hW.alike hK, hDc.weaken (fun _ _ _ _ => trivial)⟩⟩ rfl rfl hl.1 rfl (lv_room (Nat.le_of_ble_eq_true rfl)) gm_d_GM_feed_5 ⟨Nat.le_of_ble_eq_true rfl, Nat.le_of_ble_eq_true rfl⟩) hS (fun q _ h => hFc q h) hFc (fun r5 u5 t H1 locs ht hvm h5 hB hz1 hk1 hS => ?_)
  obtain ⟨hP1, -, hD1⟩ := hB
  rw [ht] at hP1
  have hP1 : va_P D gm_cl [((qm 1), .inr (1, [.ref (qw 0), .int (u5.2.2 1)])), ((qw 0), .inl (cC, 10, .inl (u5.1 0)))] H1 := hP1
  have hD1 : va_D (va_A [((qm 1), .inr (1, [.ref (qw 0), .int (S.2.2.2 1)])), ((qw 0), .inl (cC, 10, .inl (S.2.1 0)))] s.heap.size) [((qm 1), .inr (1, [.ref (qw 0), .int (u5.2.2 1)])), ((qw 0), .inl (cC, 10, .inl (u5.1 0)))] := hD1
  obtain ⟨hP, hD⟩ := va_join (wr := [(m0, .inr (0, [.ref (qm 0), .ref (qm 1), .ref (qm 2), .ref (qm 3), .ref (qm 4), .int (S.1.2.2 5), .int (S.1.2.2 6), .int (S.1.2.2 7)]))]) hP hD [1, 2] [0] rfl rfl (by decide) (by decide) hk1 hFc hP1 hD1
  generalize H1 = H at hP hS ⊢
  have hP : va_P D gm_cl [(m0, .inr (0, [.ref (qm 0), .ref (qm 1), .ref (qm 2), .ref (qm 3), .ref (qm 4), .int (S.1.2.2 5), .int (S.1.2.2 6), .int (S.1.2.2 7)])), ((qm 1), .inr (1, [.ref (qw 0), .int (u5.2.2 1)])), ((qw 0), .inl (cC, 10, .inl (u5.1 0)))] H := hP
  have hD : va_D A [(m0, .inr (0, [.ref (qm 0), .ref (qm 1), .ref (qm 2), .ref (qm 3), .ref (qm 4), .int (S.1.2.2 5), .int (S.1.2.2 6), .int (S.1.2.2 7)])), ((qm 1), .inr (1, [.ref (qw 0), .int (u5.2.2 1)])), ((qw 0), .inl (cC, 10, .inl (u5.1 0)))] := hD
  have hF := hF.trans (gm_bd_eq h5)
  have hok := gm_bd_ok h5 hok.2
  refine lv_istore_n (lv' := [(2, .int r5), (0, .ref m0), (1, .int x)]) hx hb gm_d_GM_feed_8 rfl hl (Nat.le_of_ble_eq_true rfl) rfl (fun ls hl => ?_)
  refine lv_iload_n hx hb gm_d_GM_feed_9 rfl (lv_at hl 0 rfl) ?_
  refine lv_if_eq (tgt := 18) hx hb gm_d_GM_feed_10 (by decide) (fun c10 => ?_) (fun c10 => ?_)
  · skip
    have hF := hF.trans (if_pos c10)
    have hok := hok.1 c10
    refine lv_iload_n hx hb gm_d_GM_feed_18 rfl (lv_at hl 0 rfl) ?_
    exact W.zret (v := r5) hx hb hr (gm_nb hok.1) (fun t ht hW => ⟨⟨r5, (S.1, ((va_up S.2.1 0 (u5.1 0)), S.2.2.1, (va_up S.2.2.2 1 (u5.2.2 1)))), rfl, hF.symm, by rw [ht]; exact hP, va_K.moved hW.alike hK, hD⟩, hS.F ht⟩) hS.2.2 gm_d_GM_feed_19
  · skip
    have hF := hF.trans (if_neg c10)
    have hok := hok.2 c10
    refine lv_aload_n hx hb gm_d_GM_feed_13 rfl (lv_at hl 1 rfl) ?_
    refine lv_iconst (v := 0) hx hb gm_d_GM_feed_14 (by decide) ?_
    refine va_put (D := D) (ci := 0) (v := .int 0) (ty := .boolean) (C := gm_R_GM) (T := gm_F_GM) (N := 8) hx hb hw gm_u_GM gm_t_GM gm_o_GM gm_n_GM hown hK hP hD hS 0 rfl rfl 6 (by decide) (hw _ gm_l_GM_46) (fun _ h9 => h9) rfl (by decide +kernel) rfl rfl (Nat.le_of_ble_eq_true rfl) gm_d_GM_feed_15 (fun H locs hP hD hS => ?_)
    have hP : va_P D gm_cl [(m0, .inr (0, [.ref (qm 0), .ref (qm 1), .ref (qm 2), .ref (qm 3), .ref (qm 4), .int (S.1.2.2 5), .int 0, .int (S.1.2.2 7)])), ((qm 1), .inr (1, [.ref (qw 0), .int (u5.2.2 1)])), ((qw 0), .inl (cC, 10, .inl (u5.1 0)))] H := hP
    have hD : va_D A [(m0, .inr (0, [.ref (qm 0), .ref (qm 1), .ref (qm 2), .ref (qm 3), .ref (qm 4), .int (S.1.2.2 5), .int 0, .int (S.1.2.2 7)])), ((qm 1), .inr (1, [.ref (qw 0), .int (u5.2.2 1)])), ((qw 0), .inl (cC, 10, .inl (u5.1 0)))] := hD
    have hP : va_P D gm_cl [(m0, .inr (0, [.ref (qm 0), .ref (qm 1), .ref (qm 2), .ref (qm 3), .ref (qm 4), .int (S.1.2.2 5), .int 0, .int (S.1.2.2 7)])), ((qm 1), .inr (1, [.ref (qw 0), .int (u5.2.2 1)])), ((qw 0), .inl (cC, 10, .inl (u5.1 0)))] H := hP
    have hD : va_D A [(m0, .inr (0, [.ref (qm 0), .ref (qm 1), .ref (qm 2), .ref (qm 3), .ref (qm 4), .int (S.1.2.2 5), .int 0, .int (S.1.2.2 7)])), ((qm 1), .inr (1, [.ref (qw 0), .int (u5.2.2 1)])), ((qw 0), .inl (cC, 10, .inl (u5.1 0)))] := hD
    refine lv_iload_n hx hb gm_d_GM_feed_18 rfl (lv_at hl 0 rfl) ?_
    exact W.zret (v := r5) hx hb hr (gm_nb hok.1) (fun t ht hW => ⟨⟨r5, ((S.1.1, S.1.2.1, (va_up S.1.2.2 6 0)), ((va_up S.2.1 0 (u5.1 0)), S.2.2.1, (va_up S.2.2.2 1 (u5.2.2 1)))), rfl, hF.symm, by rw [ht]; exact hP, va_K.moved hW.alike hK, hD⟩, hS.F ht⟩) hS.2.2 gm_d_GM_feed_19
def gm_f_GM_clear (S : gm_S × gm_S) : Int32 × (gm_S × gm_S) := (0, ((S.1.1, S.1.2.1, (va_up S.1.2.2 6 0)), (S.2.1, S.2.2.1, (va_up S.2.2.2 1 0))))
def gm_p_GM_clear (S : gm_S × gm_S) : Prop := True
set_option maxHeartbeats 4000000 in
set_option maxRecDepth 100000 in
theorem gm_a_GM_clear (l : Launch) (D : va_G) (cI cJ cC cZ : ClassId) (m0 : Nat) (qm : Nat → Nat) (qw : Nat → Nat) (S : gm_S × gm_S) (sz : Nat) (hok : gm_p_GM_clear S) : Met l gm_y_GM_clear (Cond.code gm_y_GM_clear gm_b_GM_clear 1 none :: gm_W) { frames := 4, cells := 0, slots := 0, locals := 64 } (va_Pc [.ref m0] (fun U => U.heap.size = sz ∧ va_P D gm_cl [(m0, .inr (0, [.ref (qm 0), .ref (qm 1), .ref (qm 2), .ref (qm 3), .ref (qm 4), .int (S.1.2.2 5), .int (S.1.2.2 6), .int (S.1.2.2 7)])), ((qm 1), .inr (1, [.ref (qw 0), .int (S.2.2.2 1)]))] U.heap ∧ va_K D gm_cl (gm_T cI cJ cC cZ) U ∧ va_D (fun _ => True) [(m0, .inr (0, [.ref (qm 0), .ref (qm 1), .ref (qm 2), .ref (qm 3), .ref (qm 4), .int (S.1.2.2 5), .int (S.1.2.2 6), .int (S.1.2.2 7)])), ((qm 1), .inr (1, [.ref (qw 0), .int (S.2.2.2 1)]))])) (va_Qv (fun u : gm_S × gm_S => (0, u) = gm_f_GM_clear S) (fun u t => gm_at D (va_A [(m0, .inr (0, [.ref (qm 0), .ref (qm 1), .ref (qm 2), .ref (qm 3), .ref (qm 4), .int (S.1.2.2 5), .int (S.1.2.2 6), .int (S.1.2.2 7)])), ((qm 1), .inr (1, [.ref (qw 0), .int (S.2.2.2 1)]))] sz) [(m0, .inr (0, [.ref (qm 0), .ref (qm 1), .ref (qm 2), .ref (qm 3), .ref (qm 4), .int (S.1.2.2 5), .int (u.1.2.2 6), .int (S.1.2.2 7)])), ((qm 1), .inr (1, [.ref (qw 0), .int (u.2.2.2 1)]))] (gm_T cI cJ cC cZ) t) (va_A [(m0, .inr (0, [.ref (qm 0), .ref (qm 1), .ref (qm 2), .ref (qm 3), .ref (qm 4), .int (S.1.2.2 5), .int (S.1.2.2 6), .int (S.1.2.2 7)])), ((qm 1), .inr (1, [.ref (qw 0), .int (S.2.2.2 1)]))] sz)) 0 0 (va_A [(m0, .inr (0, [.ref (qm 0), .ref (qm 1), .ref (qm 2), .ref (qm 3), .ref (qm 4), .int (S.1.2.2 5), .int (S.1.2.2 6), .int (S.1.2.2 7)])), ((qm 1), .inr (1, [.ref (qw 0), .int (S.2.2.2 1)]))] sz) := by
  refine Met.ofW (cc := gm_b_GM_clear) (maxL := 1) (ret := none) (by decide) rfl ?_
  intro p e s m args below meth c s₁ B hml hv
  obtain ⟨rfl, hsz, hP, hK, hD0⟩ := hv
  have hx := B.exec
  have hb := B.bytes
  have hr := B.returns
  have hw : ∀ w ∈ gm_W, w.before _ s = true := fun w h => atoms_spec B.pre w (List.mem_cons_of_mem _ h)
  have hown : s.vm.findClass gm_R_GM = some m.cls := findClass_of_methodNamed B.named
  subst hsz
  have hD := hD0.self (sz := s.heap.size)
  generalize hAe : va_A [(m0, .inr (0, [.ref (qm 0), .ref (qm 1), .ref (qm 2), .ref (qm 3), .ref (qm 4), .int (S.1.2.2 5), .int (S.1.2.2 6), .int (S.1.2.2 7)])), ((qm 1), .inr (1, [.ref (qw 0), .int (S.2.2.2 1)]))] s.heap.size = A at hD ⊢
  have hA : ∀ q : Nat, s.heap.size ≤ q → A q := fun q h => by rw [← hAe]; exact Or.inr h
  have hS : va_S A s.heap s.heap [] := va_S.rf
  have hl := lv_entry ([.ref m0]) (n := 1) (Nat.le_of_ble_eq_true rfl)
  rw [lg_entry_eq]
  generalize (lg_sl ([.ref m0]) ++ List.replicate (1 - (lg_sl ([.ref m0])).length) Slot.unset).toArray = ls at hl ⊢
  have hl : lv_has ls 1 [(0, .ref m0)] := hl
  have hF := gm_f_GM_clear.eq_1 S
  unfold gm_p_GM_clear at hok
  refine lv_aload_n hx hb gm_d_GM_clear_0 rfl (lv_at hl 0 rfl) ?_
  refine va_get (D := D) (ci := 0) (v := .ref (qm 1)) (C := gm_R_GM) (T := gm_F_GM) (N := 8) hx hb hw gm_u_GM hown hK hP 0 rfl rfl 1 (by decide) (hw _ gm_l_GM_18) (fun _ h9 => h9) rfl gm_d_GM_clear_1 ?_
  refine lv_iconst (v := 0) hx hb gm_d_GM_clear_4 (by decide) ?_
  refine va_put (D := D) (ci := 1) (v := .int 0) (ty := .int) (C := gm_R_Row) (T := gm_F_Row) (N := 2) hx hb hw gm_u_Row gm_t_Row gm_o_Row gm_n_Row hown hK hP hD hS 1 rfl rfl 1 (by decide) (hw _ gm_l_GM_57) (fun _ h9 => h9) rfl (by decide +kernel) rfl rfl (Nat.le_of_ble_eq_true rfl) gm_d_GM_clear_5 (fun H locs hP hD hS => ?_)
  have hP : va_P D gm_cl [(m0, .inr (0, [.ref (qm 0), .ref (qm 1), .ref (qm 2), .ref (qm 3), .ref (qm 4), .int (S.1.2.2 5), .int (S.1.2.2 6), .int (S.1.2.2 7)])), ((qm 1), .inr (1, [.ref (qw 0), .int 0]))] H := hP
  have hD : va_D A [(m0, .inr (0, [.ref (qm 0), .ref (qm 1), .ref (qm 2), .ref (qm 3), .ref (qm 4), .int (S.1.2.2 5), .int (S.1.2.2 6), .int (S.1.2.2 7)])), ((qm 1), .inr (1, [.ref (qw 0), .int 0]))] := hD
  have hP : va_P D gm_cl [(m0, .inr (0, [.ref (qm 0), .ref (qm 1), .ref (qm 2), .ref (qm 3), .ref (qm 4), .int (S.1.2.2 5), .int (S.1.2.2 6), .int (S.1.2.2 7)])), ((qm 1), .inr (1, [.ref (qw 0), .int 0]))] H := hP
  have hD : va_D A [(m0, .inr (0, [.ref (qm 0), .ref (qm 1), .ref (qm 2), .ref (qm 3), .ref (qm 4), .int (S.1.2.2 5), .int (S.1.2.2 6), .int (S.1.2.2 7)])), ((qm 1), .inr (1, [.ref (qw 0), .int 0]))] := hD
  refine lv_aload_n hx hb gm_d_GM_clear_8 rfl (lv_at hl 0 rfl) ?_
  refine lv_iconst (v := 0) hx hb gm_d_GM_clear_9 (by decide) ?_
  refine va_put (D := D) (ci := 0) (v := .int 0) (ty := .boolean) (C := gm_R_GM) (T := gm_F_GM) (N := 8) hx hb hw gm_u_GM gm_t_GM gm_o_GM gm_n_GM hown hK hP hD hS 0 rfl rfl 6 (by decide) (hw _ gm_l_GM_46) (fun _ h9 => h9) rfl (by decide +kernel) rfl rfl (Nat.le_of_ble_eq_true rfl) gm_d_GM_clear_10 (fun H locs hP hD hS => ?_)
  have hP : va_P D gm_cl [(m0, .inr (0, [.ref (qm 0), .ref (qm 1), .ref (qm 2), .ref (qm 3), .ref (qm 4), .int (S.1.2.2 5), .int 0, .int (S.1.2.2 7)])), ((qm 1), .inr (1, [.ref (qw 0), .int 0]))] H := hP
  have hD : va_D A [(m0, .inr (0, [.ref (qm 0), .ref (qm 1), .ref (qm 2), .ref (qm 3), .ref (qm 4), .int (S.1.2.2 5), .int 0, .int (S.1.2.2 7)])), ((qm 1), .inr (1, [.ref (qw 0), .int 0]))] := hD
  have hP : va_P D gm_cl [(m0, .inr (0, [.ref (qm 0), .ref (qm 1), .ref (qm 2), .ref (qm 3), .ref (qm 4), .int (S.1.2.2 5), .int 0, .int (S.1.2.2 7)])), ((qm 1), .inr (1, [.ref (qw 0), .int 0]))] H := hP
  have hD : va_D A [(m0, .inr (0, [.ref (qm 0), .ref (qm 1), .ref (qm 2), .ref (qm 3), .ref (qm 4), .int (S.1.2.2 5), .int 0, .int (S.1.2.2 7)])), ((qm 1), .inr (1, [.ref (qw 0), .int 0]))] := hD
  exact W.vret hx hb hr (fun t ht hW => ⟨⟨((S.1.1, S.1.2.1, (va_up S.1.2.2 6 0)), (S.2.1, S.2.2.1, (va_up S.2.2.2 1 0))), rfl, hF.symm, by rw [ht]; exact hP, va_K.moved hW.alike hK, hD⟩, hS.F ht⟩) hS.2.2 gm_d_GM_clear_13
def gm_f_GM_work (S : gm_S × gm_S) : Int32 × (gm_S × gm_S) := (if (S.1.2.2 6) = 0 then ((-1), (S.1, S.2)) else ((S.2.2.2 14), (S.1, S.2)))
def gm_p_GM_work (S : gm_S × gm_S) : Prop := (((S.1.2.2 6) = 0 → True) ∧ (¬ ((S.1.2.2 6) = 0) → True))
set_option maxHeartbeats 4000000 in
set_option maxRecDepth 100000 in
theorem gm_a_GM_work (l : Launch) (D : va_G) (cI cJ cC cZ : ClassId) (m0 : Nat) (qm : Nat → Nat) (qr : Nat → Nat) (S : gm_S × gm_S) (sz : Nat) (hok : gm_p_GM_work S) : Met l gm_y_GM_work (Cond.code gm_y_GM_work gm_b_GM_work 1 (some .int) :: gm_W) { frames := 4, cells := 0, slots := 0, locals := 64 } (va_Pc [.ref m0] (fun U => U.heap.size = sz ∧ va_P D gm_cl [(m0, .inr (0, [.ref (qm 0), .ref (qm 1), .ref (qm 2), .ref (qm 3), .ref (qm 4), .int (S.1.2.2 5), .int (S.1.2.2 6), .int (S.1.2.2 7)])), ((qm 4), .inr (7, [.ref (qr 0), .ref (qr 1), .ref (qr 2), .ref (qr 3), .ref (qr 4), .ref (qr 5), .ref (qr 6), .int (S.2.2.2 7), .ref (qr 8), .ref (qr 9), .int (S.2.2.2 10), .int (S.2.2.2 11), .int (S.2.2.2 12), .int (S.2.2.2 13), .int (S.2.2.2 14)]))] U.heap ∧ va_K D gm_cl (gm_T cI cJ cC cZ) U ∧ va_D (fun _ => True) [(m0, .inr (0, [.ref (qm 0), .ref (qm 1), .ref (qm 2), .ref (qm 3), .ref (qm 4), .int (S.1.2.2 5), .int (S.1.2.2 6), .int (S.1.2.2 7)])), ((qm 4), .inr (7, [.ref (qr 0), .ref (qr 1), .ref (qr 2), .ref (qr 3), .ref (qr 4), .ref (qr 5), .ref (qr 6), .int (S.2.2.2 7), .ref (qr 8), .ref (qr 9), .int (S.2.2.2 10), .int (S.2.2.2 11), .int (S.2.2.2 12), .int (S.2.2.2 13), .int (S.2.2.2 14)]))])) (va_Qi (fun (r : Int32) (u : gm_S × gm_S) => (r, u) = gm_f_GM_work S) (fun u t => gm_at D (va_A [(m0, .inr (0, [.ref (qm 0), .ref (qm 1), .ref (qm 2), .ref (qm 3), .ref (qm 4), .int (S.1.2.2 5), .int (S.1.2.2 6), .int (S.1.2.2 7)])), ((qm 4), .inr (7, [.ref (qr 0), .ref (qr 1), .ref (qr 2), .ref (qr 3), .ref (qr 4), .ref (qr 5), .ref (qr 6), .int (S.2.2.2 7), .ref (qr 8), .ref (qr 9), .int (S.2.2.2 10), .int (S.2.2.2 11), .int (S.2.2.2 12), .int (S.2.2.2 13), .int (S.2.2.2 14)]))] sz) [(m0, .inr (0, [.ref (qm 0), .ref (qm 1), .ref (qm 2), .ref (qm 3), .ref (qm 4), .int (S.1.2.2 5), .int (S.1.2.2 6), .int (S.1.2.2 7)])), ((qm 4), .inr (7, [.ref (qr 0), .ref (qr 1), .ref (qr 2), .ref (qr 3), .ref (qr 4), .ref (qr 5), .ref (qr 6), .int (S.2.2.2 7), .ref (qr 8), .ref (qr 9), .int (S.2.2.2 10), .int (S.2.2.2 11), .int (S.2.2.2 12), .int (S.2.2.2 13), .int (S.2.2.2 14)]))] (gm_T cI cJ cC cZ) t) (va_A [(m0, .inr (0, [.ref (qm 0), .ref (qm 1), .ref (qm 2), .ref (qm 3), .ref (qm 4), .int (S.1.2.2 5), .int (S.1.2.2 6), .int (S.1.2.2 7)])), ((qm 4), .inr (7, [.ref (qr 0), .ref (qr 1), .ref (qr 2), .ref (qr 3), .ref (qr 4), .ref (qr 5), .ref (qr 6), .int (S.2.2.2 7), .ref (qr 8), .ref (qr 9), .int (S.2.2.2 10), .int (S.2.2.2 11), .int (S.2.2.2 12), .int (S.2.2.2 13), .int (S.2.2.2 14)]))] sz)) 0 0 (va_A [(m0, .inr (0, [.ref (qm 0), .ref (qm 1), .ref (qm 2), .ref (qm 3), .ref (qm 4), .int (S.1.2.2 5), .int (S.1.2.2 6), .int (S.1.2.2 7)])), ((qm 4), .inr (7, [.ref (qr 0), .ref (qr 1), .ref (qr 2), .ref (qr 3), .ref (qr 4), .ref (qr 5), .ref (qr 6), .int (S.2.2.2 7), .ref (qr 8), .ref (qr 9), .int (S.2.2.2 10), .int (S.2.2.2 11), .int (S.2.2.2 12), .int (S.2.2.2 13), .int (S.2.2.2 14)]))] sz) := by
  refine Met.ofW (cc := gm_b_GM_work) (maxL := 1) (ret := (some .int)) (by decide) rfl ?_
  intro p e s m args below meth c s₁ B hml hv
  obtain ⟨rfl, hsz, hP, hK, hD0⟩ := hv
  have hx := B.exec
  have hb := B.bytes
  have hr := B.returns
  have hw : ∀ w ∈ gm_W, w.before _ s = true := fun w h => atoms_spec B.pre w (List.mem_cons_of_mem _ h)
  have hown : s.vm.findClass gm_R_GM = some m.cls := findClass_of_methodNamed B.named
  subst hsz
  have hD := hD0.self (sz := s.heap.size)
  generalize hAe : va_A [(m0, .inr (0, [.ref (qm 0), .ref (qm 1), .ref (qm 2), .ref (qm 3), .ref (qm 4), .int (S.1.2.2 5), .int (S.1.2.2 6), .int (S.1.2.2 7)])), ((qm 4), .inr (7, [.ref (qr 0), .ref (qr 1), .ref (qr 2), .ref (qr 3), .ref (qr 4), .ref (qr 5), .ref (qr 6), .int (S.2.2.2 7), .ref (qr 8), .ref (qr 9), .int (S.2.2.2 10), .int (S.2.2.2 11), .int (S.2.2.2 12), .int (S.2.2.2 13), .int (S.2.2.2 14)]))] s.heap.size = A at hD ⊢
  have hA : ∀ q : Nat, s.heap.size ≤ q → A q := fun q h => by rw [← hAe]; exact Or.inr h
  have hS : va_S A s.heap s.heap [] := va_S.rf
  have hl := lv_entry ([.ref m0]) (n := 1) (Nat.le_of_ble_eq_true rfl)
  rw [lg_entry_eq]
  generalize (lg_sl ([.ref m0]) ++ List.replicate (1 - (lg_sl ([.ref m0])).length) Slot.unset).toArray = ls at hl ⊢
  have hl : lv_has ls 1 [(0, .ref m0)] := hl
  have hF := gm_f_GM_work.eq_1 S
  unfold gm_p_GM_work at hok
  refine lv_aload_n hx hb gm_d_GM_work_0 rfl (lv_at hl 0 rfl) ?_
  refine va_get (D := D) (ci := 0) (v := .int (S.1.2.2 6)) (C := gm_R_GM) (T := gm_F_GM) (N := 8) hx hb hw gm_u_GM hown hK hP 0 rfl rfl 6 (by decide) (hw _ gm_l_GM_46) (fun _ h9 => h9) rfl gm_d_GM_work_1 ?_
  refine lv_if_eq (tgt := 17) hx hb gm_d_GM_work_4 (by decide) (fun c4 => ?_) (fun c4 => ?_)
  · skip
    have hF := hF.trans (if_pos c4)
    have hok := hok.1 c4
    refine lv_iconst (v := (-1)) hx hb gm_d_GM_work_17 (by decide) ?_
    exact W.iret (v := (-1)) hx hb hr (fun t ht hW => ⟨⟨(-1), (S.1, S.2), rfl, hF.symm, by rw [ht]; exact hP, va_K.moved hW.alike hK, hD⟩, hS.F ht⟩) hS.2.2 gm_d_GM_work_18
  · skip
    have hF := hF.trans (if_neg c4)
    have hok := hok.2 c4
    refine lv_aload_n hx hb gm_d_GM_work_7 rfl (lv_at hl 0 rfl) ?_
    refine va_get (D := D) (ci := 0) (v := .ref (qm 4)) (C := gm_R_GM) (T := gm_F_GM) (N := 8) hx hb hw gm_u_GM hown hK hP 0 rfl rfl 4 (by decide) (hw _ gm_l_GM_38) (fun _ h9 => h9) rfl gm_d_GM_work_8 ?_
    refine va_get (D := D) (ci := 7) (v := .int (S.2.2.2 14)) (C := gm_R_Runner) (T := gm_F_Runner) (N := 15) hx hb hw gm_u_Runner hown hK hP 1 rfl rfl 14 (by decide) (hw _ gm_l_GM_146) (fun _ h9 => h9) rfl gm_d_GM_work_11 ?_
    refine lv_goto (tgt := 18) hx hb gm_d_GM_work_14 (by decide) ?_
    exact W.iret (v := (S.2.2.2 14)) hx hb hr (fun t ht hW => ⟨⟨(S.2.2.2 14), (S.1, S.2), rfl, hF.symm, by rw [ht]; exact hP, va_K.moved hW.alike hK, hD⟩, hS.F ht⟩) hS.2.2 gm_d_GM_work_18
def gm_f_GM_nodes (S : gm_S × gm_S × gm_S) : Int32 × (gm_S × gm_S × gm_S) := (if (S.1.2.2 6) = 0 then ((-1), (S.1, S.2.1, S.2.2)) else ((S.2.2.2.2 2), (S.1, S.2.1, S.2.2)))
def gm_p_GM_nodes (S : gm_S × gm_S × gm_S) : Prop := (((S.1.2.2 6) = 0 → True) ∧ (¬ ((S.1.2.2 6) = 0) → True))
set_option maxHeartbeats 4000000 in
set_option maxRecDepth 100000 in
theorem gm_a_GM_nodes (l : Launch) (D : va_G) (cI cJ cC cZ : ClassId) (m0 : Nat) (qm : Nat → Nat) (qr : Nat → Nat) (qk : Nat → Nat) (S : gm_S × gm_S × gm_S) (sz : Nat) (hok : gm_p_GM_nodes S) : Met l gm_y_GM_nodes (Cond.code gm_y_GM_nodes gm_b_GM_nodes 1 (some .int) :: gm_W) { frames := 4, cells := 0, slots := 0, locals := 64 } (va_Pc [.ref m0] (fun U => U.heap.size = sz ∧ va_P D gm_cl [(m0, .inr (0, [.ref (qm 0), .ref (qm 1), .ref (qm 2), .ref (qm 3), .ref (qm 4), .int (S.1.2.2 5), .int (S.1.2.2 6), .int (S.1.2.2 7)])), ((qm 4), .inr (7, [.ref (qr 0), .ref (qr 1), .ref (qr 2), .ref (qr 3), .ref (qr 4), .ref (qr 5), .ref (qr 6), .int (S.2.1.2.2 7), .ref (qr 8), .ref (qr 9), .int (S.2.1.2.2 10), .int (S.2.1.2.2 11), .int (S.2.1.2.2 12), .int (S.2.1.2.2 13), .int (S.2.1.2.2 14)])), ((qr 1), .inr (8, [.ref (qk 0), .ref (qk 1), .int (S.2.2.2.2 2)]))] U.heap ∧ va_K D gm_cl (gm_T cI cJ cC cZ) U ∧ va_D (fun _ => True) [(m0, .inr (0, [.ref (qm 0), .ref (qm 1), .ref (qm 2), .ref (qm 3), .ref (qm 4), .int (S.1.2.2 5), .int (S.1.2.2 6), .int (S.1.2.2 7)])), ((qm 4), .inr (7, [.ref (qr 0), .ref (qr 1), .ref (qr 2), .ref (qr 3), .ref (qr 4), .ref (qr 5), .ref (qr 6), .int (S.2.1.2.2 7), .ref (qr 8), .ref (qr 9), .int (S.2.1.2.2 10), .int (S.2.1.2.2 11), .int (S.2.1.2.2 12), .int (S.2.1.2.2 13), .int (S.2.1.2.2 14)])), ((qr 1), .inr (8, [.ref (qk 0), .ref (qk 1), .int (S.2.2.2.2 2)]))])) (va_Qi (fun (r : Int32) (u : gm_S × gm_S × gm_S) => (r, u) = gm_f_GM_nodes S) (fun u t => gm_at D (va_A [(m0, .inr (0, [.ref (qm 0), .ref (qm 1), .ref (qm 2), .ref (qm 3), .ref (qm 4), .int (S.1.2.2 5), .int (S.1.2.2 6), .int (S.1.2.2 7)])), ((qm 4), .inr (7, [.ref (qr 0), .ref (qr 1), .ref (qr 2), .ref (qr 3), .ref (qr 4), .ref (qr 5), .ref (qr 6), .int (S.2.1.2.2 7), .ref (qr 8), .ref (qr 9), .int (S.2.1.2.2 10), .int (S.2.1.2.2 11), .int (S.2.1.2.2 12), .int (S.2.1.2.2 13), .int (S.2.1.2.2 14)])), ((qr 1), .inr (8, [.ref (qk 0), .ref (qk 1), .int (S.2.2.2.2 2)]))] sz) [(m0, .inr (0, [.ref (qm 0), .ref (qm 1), .ref (qm 2), .ref (qm 3), .ref (qm 4), .int (S.1.2.2 5), .int (S.1.2.2 6), .int (S.1.2.2 7)])), ((qm 4), .inr (7, [.ref (qr 0), .ref (qr 1), .ref (qr 2), .ref (qr 3), .ref (qr 4), .ref (qr 5), .ref (qr 6), .int (S.2.1.2.2 7), .ref (qr 8), .ref (qr 9), .int (S.2.1.2.2 10), .int (S.2.1.2.2 11), .int (S.2.1.2.2 12), .int (S.2.1.2.2 13), .int (S.2.1.2.2 14)])), ((qr 1), .inr (8, [.ref (qk 0), .ref (qk 1), .int (S.2.2.2.2 2)]))] (gm_T cI cJ cC cZ) t) (va_A [(m0, .inr (0, [.ref (qm 0), .ref (qm 1), .ref (qm 2), .ref (qm 3), .ref (qm 4), .int (S.1.2.2 5), .int (S.1.2.2 6), .int (S.1.2.2 7)])), ((qm 4), .inr (7, [.ref (qr 0), .ref (qr 1), .ref (qr 2), .ref (qr 3), .ref (qr 4), .ref (qr 5), .ref (qr 6), .int (S.2.1.2.2 7), .ref (qr 8), .ref (qr 9), .int (S.2.1.2.2 10), .int (S.2.1.2.2 11), .int (S.2.1.2.2 12), .int (S.2.1.2.2 13), .int (S.2.1.2.2 14)])), ((qr 1), .inr (8, [.ref (qk 0), .ref (qk 1), .int (S.2.2.2.2 2)]))] sz)) 0 0 (va_A [(m0, .inr (0, [.ref (qm 0), .ref (qm 1), .ref (qm 2), .ref (qm 3), .ref (qm 4), .int (S.1.2.2 5), .int (S.1.2.2 6), .int (S.1.2.2 7)])), ((qm 4), .inr (7, [.ref (qr 0), .ref (qr 1), .ref (qr 2), .ref (qr 3), .ref (qr 4), .ref (qr 5), .ref (qr 6), .int (S.2.1.2.2 7), .ref (qr 8), .ref (qr 9), .int (S.2.1.2.2 10), .int (S.2.1.2.2 11), .int (S.2.1.2.2 12), .int (S.2.1.2.2 13), .int (S.2.1.2.2 14)])), ((qr 1), .inr (8, [.ref (qk 0), .ref (qk 1), .int (S.2.2.2.2 2)]))] sz) := by
  refine Met.ofW (cc := gm_b_GM_nodes) (maxL := 1) (ret := (some .int)) (by decide) rfl ?_
  intro p e s m args below meth c s₁ B hml hv
  obtain ⟨rfl, hsz, hP, hK, hD0⟩ := hv
  have hx := B.exec
  have hb := B.bytes
  have hr := B.returns
  have hw : ∀ w ∈ gm_W, w.before _ s = true := fun w h => atoms_spec B.pre w (List.mem_cons_of_mem _ h)
  have hown : s.vm.findClass gm_R_GM = some m.cls := findClass_of_methodNamed B.named
  subst hsz
  have hD := hD0.self (sz := s.heap.size)
  generalize hAe : va_A [(m0, .inr (0, [.ref (qm 0), .ref (qm 1), .ref (qm 2), .ref (qm 3), .ref (qm 4), .int (S.1.2.2 5), .int (S.1.2.2 6), .int (S.1.2.2 7)])), ((qm 4), .inr (7, [.ref (qr 0), .ref (qr 1), .ref (qr 2), .ref (qr 3), .ref (qr 4), .ref (qr 5), .ref (qr 6), .int (S.2.1.2.2 7), .ref (qr 8), .ref (qr 9), .int (S.2.1.2.2 10), .int (S.2.1.2.2 11), .int (S.2.1.2.2 12), .int (S.2.1.2.2 13), .int (S.2.1.2.2 14)])), ((qr 1), .inr (8, [.ref (qk 0), .ref (qk 1), .int (S.2.2.2.2 2)]))] s.heap.size = A at hD ⊢
  have hA : ∀ q : Nat, s.heap.size ≤ q → A q := fun q h => by rw [← hAe]; exact Or.inr h
  have hS : va_S A s.heap s.heap [] := va_S.rf
  have hl := lv_entry ([.ref m0]) (n := 1) (Nat.le_of_ble_eq_true rfl)
  rw [lg_entry_eq]
  generalize (lg_sl ([.ref m0]) ++ List.replicate (1 - (lg_sl ([.ref m0])).length) Slot.unset).toArray = ls at hl ⊢
  have hl : lv_has ls 1 [(0, .ref m0)] := hl
  have hF := gm_f_GM_nodes.eq_1 S
  unfold gm_p_GM_nodes at hok
  refine lv_aload_n hx hb gm_d_GM_nodes_0 rfl (lv_at hl 0 rfl) ?_
  refine va_get (D := D) (ci := 0) (v := .int (S.1.2.2 6)) (C := gm_R_GM) (T := gm_F_GM) (N := 8) hx hb hw gm_u_GM hown hK hP 0 rfl rfl 6 (by decide) (hw _ gm_l_GM_46) (fun _ h9 => h9) rfl gm_d_GM_nodes_1 ?_
  refine lv_if_eq (tgt := 20) hx hb gm_d_GM_nodes_4 (by decide) (fun c4 => ?_) (fun c4 => ?_)
  · skip
    have hF := hF.trans (if_pos c4)
    have hok := hok.1 c4
    refine lv_iconst (v := (-1)) hx hb gm_d_GM_nodes_20 (by decide) ?_
    exact W.iret (v := (-1)) hx hb hr (fun t ht hW => ⟨⟨(-1), (S.1, S.2.1, S.2.2), rfl, hF.symm, by rw [ht]; exact hP, va_K.moved hW.alike hK, hD⟩, hS.F ht⟩) hS.2.2 gm_d_GM_nodes_21
  · skip
    have hF := hF.trans (if_neg c4)
    have hok := hok.2 c4
    refine lv_aload_n hx hb gm_d_GM_nodes_7 rfl (lv_at hl 0 rfl) ?_
    refine va_get (D := D) (ci := 0) (v := .ref (qm 4)) (C := gm_R_GM) (T := gm_F_GM) (N := 8) hx hb hw gm_u_GM hown hK hP 0 rfl rfl 4 (by decide) (hw _ gm_l_GM_38) (fun _ h9 => h9) rfl gm_d_GM_nodes_8 ?_
    refine va_get (D := D) (ci := 7) (v := .ref (qr 1)) (C := gm_R_Runner) (T := gm_F_Runner) (N := 15) hx hb hw gm_u_Runner hown hK hP 1 rfl rfl 1 (by decide) (hw _ gm_l_GM_149) (fun _ h9 => h9) rfl gm_d_GM_nodes_11 ?_
    refine va_get (D := D) (ci := 8) (v := .int (S.2.2.2.2 2)) (C := gm_R_Captures) (T := gm_F_Captures) (N := 3) hx hb hw gm_u_Captures hown hK hP 2 rfl rfl 2 (by decide) (hw _ gm_l_GM_153) (fun _ h9 => h9) rfl gm_d_GM_nodes_14 ?_
    refine lv_goto (tgt := 21) hx hb gm_d_GM_nodes_17 (by decide) ?_
    exact W.iret (v := (S.2.2.2.2 2)) hx hb hr (fun t ht hW => ⟨⟨(S.2.2.2.2 2), (S.1, S.2.1, S.2.2), rfl, hF.symm, by rw [ht]; exact hP, va_K.moved hW.alike hK, hD⟩, hS.F ht⟩) hS.2.2 gm_d_GM_nodes_21
