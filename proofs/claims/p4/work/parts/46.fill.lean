/-- places, one of them another -/
abbrev gm_q0 (q : Nat → Nat) (k v : Nat) : Nat → Nat := fun j => cond (Nat.beq j k) v (q j)
theorem gm_gT {own : String} {idx : Nat} {y : MethodName} {ws : List Cond} (h1 : Cond.methodLink own idx y ∈ gm_W) (h2 : Cond.static y ∈ gm_W) (h4 : Cond.initialized y.cls ∈ gm_W) (h : GoodIn gm_W ws) : GoodIn gm_W (va_wsS own idx y ws) := fun w hw => by
  rcases List.mem_append.mp hw with h9 | h9
  · have h8 : w ∈ gm_W := by
      rcases List.mem_cons.mp h9 with e | h9
      · exact e ▸ h1
      · rcases List.mem_cons.mp h9 with e | h9
        · exact e ▸ h2
        · exact (List.mem_singleton.mp h9) ▸ h4
    exact ⟨h8, good_of_word (gm_gw h8)⟩
  · exact h w h9
def gm_R_Arrays : String := "java/util/Arrays"
theorem gm_i_Arrays : Cond.initialized gm_R_Arrays ∈ gm_W := gm_in (List.mem_append_right _ (List.mem_append_left _ (List.mem_of_getElem? (i := 19) rfl))) rfl
abbrev gm_b_Arrays_fill : ByteArray := prog_21_method_103_code
def gm_y_Arrays_fill : MethodName := ⟨gm_R_Arrays, "fill", "([II)V"⟩
theorem gm_k_Arrays_fill : Cond.code gm_y_Arrays_fill gm_b_Arrays_fill 4 none ∈ gm_W := gm_in (List.mem_append_right _ (List.mem_append_right _ (List.mem_append_right _ (List.mem_append_right _ (List.mem_append_left _ (List.mem_of_getElem? (i := 17) rfl)))))) rfl
theorem gm_q_Arrays_fill : Cond.static gm_y_Arrays_fill ∈ gm_W := gm_in (List.mem_append_right _ (List.mem_append_right _ (List.mem_append_right _ (List.mem_append_right _ (List.mem_append_left _ (List.mem_of_getElem? (i := 16) rfl)))))) rfl
theorem gm_d_Arrays_fill_0 : decode gm_b_Arrays_fill 0 = .ok (.iconst 0, 1) := by decide +kernel
theorem gm_d_Arrays_fill_1 : decode gm_b_Arrays_fill 1 = .ok (.istore_n 2, 1) := by decide +kernel
theorem gm_d_Arrays_fill_2 : decode gm_b_Arrays_fill 2 = .ok (.aload_n 0, 1) := by decide +kernel
theorem gm_d_Arrays_fill_3 : decode gm_b_Arrays_fill 3 = .ok (.arraylength, 1) := by decide +kernel
theorem gm_d_Arrays_fill_4 : decode gm_b_Arrays_fill 4 = .ok (.istore_n 3, 1) := by decide +kernel
theorem gm_d_Arrays_fill_5 : decode gm_b_Arrays_fill 5 = .ok (.iload_n 2, 1) := by decide +kernel
theorem gm_d_Arrays_fill_6 : decode gm_b_Arrays_fill 6 = .ok (.iload_n 3, 1) := by decide +kernel
theorem gm_d_Arrays_fill_7 : decode gm_b_Arrays_fill 7 = .ok (.if_icmp .ge 13, 3) := by decide +kernel
theorem gm_d_Arrays_fill_10 : decode gm_b_Arrays_fill 10 = .ok (.aload_n 0, 1) := by decide +kernel
theorem gm_d_Arrays_fill_11 : decode gm_b_Arrays_fill 11 = .ok (.iload_n 2, 1) := by decide +kernel
theorem gm_d_Arrays_fill_12 : decode gm_b_Arrays_fill 12 = .ok (.iload_n 1, 1) := by decide +kernel
theorem gm_d_Arrays_fill_13 : decode gm_b_Arrays_fill 13 = .ok (.iastore, 1) := by decide +kernel
theorem gm_d_Arrays_fill_14 : decode gm_b_Arrays_fill 14 = .ok (.iinc 2 1, 3) := by decide +kernel
theorem gm_d_Arrays_fill_17 : decode gm_b_Arrays_fill 17 = .ok (.goto (-12), 3) := by decide +kernel
theorem gm_d_Arrays_fill_20 : decode gm_b_Arrays_fill 20 = .ok (.return_, 1) := by decide +kernel
theorem gm_d_Memory_forget_0 : decode gm_b_Memory_forget 0 = .ok (.aload_n 0, 1) := by decide +kernel
theorem gm_d_Memory_forget_1 : decode gm_b_Memory_forget 1 = .ok (.getfield 9, 3) := by decide +kernel
theorem gm_d_Memory_forget_4 : decode gm_b_Memory_forget 4 = .ok (.bipush (-2), 2) := by decide +kernel
theorem gm_d_Memory_forget_6 : decode gm_b_Memory_forget 6 = .ok (.invokestatic 30, 3) := by decide +kernel
theorem gm_d_Memory_forget_9 : decode gm_b_Memory_forget 9 = .ok (.aload_n 0, 1) := by decide +kernel
theorem gm_d_Memory_forget_10 : decode gm_b_Memory_forget 10 = .ok (.getfield 26, 3) := by decide +kernel
theorem gm_d_Memory_forget_13 : decode gm_b_Memory_forget 13 = .ok (.iconst 0, 1) := by decide +kernel
theorem gm_d_Memory_forget_14 : decode gm_b_Memory_forget 14 = .ok (.putfield 36, 3) := by decide +kernel
theorem gm_d_Memory_forget_17 : decode gm_b_Memory_forget 17 = .ok (.return_, 1) := by decide +kernel
def gm_f_Arrays_fill_5 (n : Nat) (x : Int32) (S : gm_S) : Nat → Int32 → gm_S → Int32 × (gm_S)
  | 0, _, S_5 => (0, S_5)
  | n5 + 1, v2_5, S_5 => (if (Int32.ofNat n) ≤ v2_5 then (0, ((va_up S.1 0 (S_5.1 0)), S.2.1, S.2.2)) else (gm_f_Arrays_fill_5 n x S n5 (v2_5 + 1) ((va_up S.1 0 (upd (S_5.1 0) (Int32.toNatClampNeg v2_5) x)), S.2.1, S.2.2)))
def gm_p_Arrays_fill_5 (n : Nat) (x : Int32) (S : gm_S) : Nat → Int32 → gm_S → Prop
  | 0, _, _ => False
  | n5 + 1, v2_5, S_5 => (((Int32.ofNat n) ≤ v2_5 → True) ∧ (¬ ((Int32.ofNat n) ≤ v2_5) → (vp_in v2_5 n ∧ (gm_p_Arrays_fill_5 n x S n5 (v2_5 + 1) ((va_up S.1 0 (upd (S_5.1 0) (Int32.toNatClampNeg v2_5) x)), S.2.1, S.2.2)))))
def gm_f_Arrays_fill (n : Nat) (x : Int32) (S : gm_S) : Int32 × (gm_S) := (gm_f_Arrays_fill_5 n x S 100 0 S)
def gm_p_Arrays_fill (n : Nat) (x : Int32) (S : gm_S) : Prop := (gm_p_Arrays_fill_5 n x S 100 0 S)
set_option maxHeartbeats 4000000 in
set_option maxRecDepth 100000 in
theorem gm_a_Arrays_fill (l : Launch) (D : va_G) (cI cJ cC cZ : ClassId) (a0 : Nat) (qa : Nat → Nat) (n : Nat) (x : Int32) (S : gm_S) (sz : Nat) (hok : gm_p_Arrays_fill n x S) : Met l gm_y_Arrays_fill (Cond.code gm_y_Arrays_fill gm_b_Arrays_fill 4 none :: gm_W) { frames := 4, cells := 0, slots := 0, locals := 64 } (va_Pc [.ref a0, .int x] (fun U => U.heap.size = sz ∧ va_P D gm_cl [(a0, .inl (cI, n, .inl (S.1 0)))] U.heap ∧ va_K D gm_cl (gm_T cI cJ cC cZ) U ∧ va_D (fun _ => True) [(a0, .inl (cI, n, .inl (S.1 0)))])) (va_Qv (fun u : gm_S => (0, u) = gm_f_Arrays_fill n x S) (fun u t => gm_at D (va_A [(a0, .inl (cI, n, .inl (S.1 0)))] sz) [(a0, .inl (cI, n, .inl (u.1 0)))] (gm_T cI cJ cC cZ) t) (va_A [(a0, .inl (cI, n, .inl (S.1 0)))] sz)) 0 0 (va_A [(a0, .inl (cI, n, .inl (S.1 0)))] sz) := by
  refine Met.ofW (cc := gm_b_Arrays_fill) (maxL := 4) (ret := none) (by decide) rfl ?_
  intro p e s m args below meth c s₁ B hml hv
  obtain ⟨rfl, hsz, hP, hK, hD0⟩ := hv
  have hx := B.exec
  have hb := B.bytes
  have hr := B.returns
  have hw : ∀ w ∈ gm_W, w.before _ s = true := fun w h => atoms_spec B.pre w (List.mem_cons_of_mem _ h)
  have hown : s.vm.findClass gm_R_Arrays = some m.cls := findClass_of_methodNamed B.named
  subst hsz
  have hD := hD0.self (sz := s.heap.size)
  generalize hAe : va_A [(a0, .inl (cI, n, .inl (S.1 0)))] s.heap.size = A at hD ⊢
  have hA : ∀ q : Nat, s.heap.size ≤ q → A q := fun q h => by rw [← hAe]; exact Or.inr h
  have hS : va_S A s.heap s.heap [] := va_S.rf
  have hl := lv_entry ([.ref a0, .int x]) (n := 4) (Nat.le_of_ble_eq_true rfl)
  rw [lg_entry_eq]
  generalize (lg_sl ([.ref a0, .int x]) ++ List.replicate (4 - (lg_sl ([.ref a0, .int x])).length) Slot.unset).toArray = ls at hl ⊢
  have hl : lv_has ls 4 [(0, .ref a0), (1, .int x)] := hl
  have hF := gm_f_Arrays_fill.eq_1 n x S
  unfold gm_p_Arrays_fill at hok
  refine lv_iconst (v := 0) hx hb gm_d_Arrays_fill_0 (by decide) ?_
  refine lv_istore_n (lv' := [(2, .int 0), (0, .ref a0), (1, .int x)]) hx hb gm_d_Arrays_fill_1 rfl hl (Nat.le_of_ble_eq_true rfl) rfl (fun ls hl => ?_)
  refine lv_aload_n hx hb gm_d_Arrays_fill_2 rfl (lv_at hl 1 rfl) ?_
  refine va_alen (v := (Int32.ofNat n)) hx hb hK hP 0 0 rfl rfl rfl gm_d_Arrays_fill_3 ?_
  refine lv_istore_n (lv' := [(3, .int (Int32.ofNat n)), (2, .int 0), (0, .ref a0), (1, .int x)]) hx hb gm_d_Arrays_fill_4 rfl hl (Nat.le_of_ble_eq_true rfl) rfl (fun ls hl => ?_)
  refine (?_ : ∀ (n5 : Nat) (v2_5 : Int32) (S_5 : gm_S) (H : Heap) (locs : List Loc) (ls : Array Slot), lv_has ls 4 [(3, .int (Int32.ofNat n)), (2, .int v2_5), (0, .ref a0), (1, .int x)] → va_P D gm_cl [(a0, .inl (cI, n, .inl (S_5.1 0)))] H → va_D A [(a0, .inl (cI, n, .inl (S_5.1 0)))] → va_S A s.heap H locs → gm_f_Arrays_fill n x S = gm_f_Arrays_fill_5 n x S n5 v2_5 S_5 → gm_p_Arrays_fill_5 n x S n5 v2_5 S_5 → W p l e (headSpec (Cond.code gm_y_Arrays_fill gm_b_Arrays_fill 4 none :: gm_W) { frames := 4, cells := 0, slots := 0, locals := 64 }).room s m ([.ref a0, .int x] : List Value).toArray below meth c H locs 0 0 (MQ below (va_Qv (fun u : gm_S => (0, u) = gm_f_Arrays_fill n x S) (fun u t => gm_at D A [(a0, .inl (cI, n, .inl (u.1 0)))] (gm_T cI cJ cC cZ) t) A) ([.ref a0, .int x] : List Value).toArray s 0 0 A) (F0 m 5 ls [])) 100 0 S _ _ _ hl hP hD hS hF hok
  clear hok hF hP hD hS hl
  intro n5
  induction n5 with
  | zero => intro v2_5 S_5 H locs ls hl hP hD hS hF hok; exact hok.elim
  | succ n5 ih5 =>
    intro v2_5 S_5 H locs ls hl hP hD hS hF hok
    rw [gm_f_Arrays_fill_5] at hF
    rw [gm_p_Arrays_fill_5] at hok
    refine lv_iload_n hx hb gm_d_Arrays_fill_5 rfl (lv_at hl 1 rfl) ?_
    refine lv_iload_n hx hb gm_d_Arrays_fill_6 rfl (lv_at hl 0 rfl) ?_
    refine lv_icmp_ge (tgt := 20) hx hb gm_d_Arrays_fill_7 (by decide) (fun c7 => ?_) (fun c7 => ?_)
    · skip
      have hF := hF.trans (if_pos c7)
      have hok := hok.1 c7
      exact W.vret hx hb hr (fun t ht hW => ⟨⟨((va_up S.1 0 (S_5.1 0)), S.2.1, S.2.2), rfl, hF.symm, by rw [ht]; exact hP, va_K.moved hW.alike hK, hD⟩, hS.F ht⟩) hS.2.2 gm_d_Arrays_fill_20
    · skip
      have hF := hF.trans (if_neg c7)
      have hok := hok.2 c7
      refine lv_aload_n hx hb gm_d_Arrays_fill_10 rfl (lv_at hl 2 rfl) ?_
      refine lv_iload_n hx hb gm_d_Arrays_fill_11 rfl (lv_at hl 1 rfl) ?_
      refine lv_iload_n hx hb gm_d_Arrays_fill_12 rfl (lv_at hl 3 rfl) ?_
      have i13 := hok.1
      have hok := hok.2
      refine va_iast hx hb hK hP hD hS 0 0 rfl rfl i13 gm_d_Arrays_fill_13 (fun H locs hP hD hS => ?_)
      have hP : va_P D gm_cl [(a0, .inl (cI, n, .inl (upd (S_5.1 0) (Int32.toNatClampNeg v2_5) x)))] H := hP
      have hD : va_D A [(a0, .inl (cI, n, .inl (upd (S_5.1 0) (Int32.toNatClampNeg v2_5) x)))] := hD
      refine lv_iinc (lv' := [(2, .int (v2_5 + 1)), (3, .int (Int32.ofNat n)), (0, .ref a0), (1, .int x)]) (k := 1) (v := (v2_5 + 1)) hx hb gm_d_Arrays_fill_14 hl rfl rfl (Nat.le_of_ble_eq_true rfl) rfl (fun ls hl => ?_)
      refine lv_goto (tgt := 5) hx hb gm_d_Arrays_fill_17 (by decide) ?_
      exact ih5 (v2_5 + 1) ((va_up S.1 0 (upd (S_5.1 0) (Int32.toNatClampNeg v2_5) x)), S.2.1, S.2.2) _ _ _ (lv_sub hl [1, 0, 2, 3] rfl) hP hD hS hF hok
def gm_f_Memory_forget (S : gm_S × gm_S) : Int32 × (gm_S × gm_S) := (gm_bd (gm_f_Arrays_fill 88 (-2) ((fun _ => (S.1.1 0)), (fun _ _ => 0), (fun _ => 0))) (fun _ u6 => (0, (((va_up S.1.1 0 (u6.1 0)), S.1.2.1, S.1.2.2), (S.2.1, S.2.2.1, (va_up S.2.2.2 2 0))))))
def gm_p_Memory_forget (S : gm_S × gm_S) : Prop := (gm_p_Arrays_fill 88 (-2) ((fun _ => (S.1.1 0)), (fun _ _ => 0), (fun _ => 0)) ∧ gm_bd (gm_f_Arrays_fill 88 (-2) ((fun _ => (S.1.1 0)), (fun _ _ => 0), (fun _ => 0))) (fun _ u6 => True))
set_option maxHeartbeats 4000000 in
set_option maxRecDepth 100000 in
theorem gm_a_Memory_forget (l : Launch) (D : va_G) (cI cJ cC cZ : ClassId) (m0 : Nat) (q : Nat → Nat) (qk : Nat → Nat) (S : gm_S × gm_S) (sz : Nat) (hok : gm_p_Memory_forget S) : Met l gm_y_Memory_forget (Cond.code gm_y_Memory_forget gm_b_Memory_forget 1 none :: gm_W) { frames := 8, cells := 0, slots := 0, locals := 128 } (va_Pc [.ref m0] (fun U => U.heap.size = sz ∧ va_P D gm_cl [(m0, .inr (9, [.ref (q 0), .ref (q 1), .ref (q 2), .ref (q 3)])), ((q 0), .inl (cI, 88, .inl (S.1.1 0))), ((q 3), .inr (8, [.ref (qk 0), .ref (qk 1), .int (S.2.2.2 2)]))] U.heap ∧ va_K D gm_cl (gm_T cI cJ cC cZ) U ∧ va_D (fun _ => True) [(m0, .inr (9, [.ref (q 0), .ref (q 1), .ref (q 2), .ref (q 3)])), ((q 0), .inl (cI, 88, .inl (S.1.1 0))), ((q 3), .inr (8, [.ref (qk 0), .ref (qk 1), .int (S.2.2.2 2)]))])) (va_Qv (fun u : gm_S × gm_S => (0, u) = gm_f_Memory_forget S) (fun u t => gm_at D (va_A [(m0, .inr (9, [.ref (q 0), .ref (q 1), .ref (q 2), .ref (q 3)])), ((q 0), .inl (cI, 88, .inl (S.1.1 0))), ((q 3), .inr (8, [.ref (qk 0), .ref (qk 1), .int (S.2.2.2 2)]))] sz) [(m0, .inr (9, [.ref (q 0), .ref (q 1), .ref (q 2), .ref (q 3)])), ((q 0), .inl (cI, 88, .inl (u.1.1 0))), ((q 3), .inr (8, [.ref (qk 0), .ref (qk 1), .int (u.2.2.2 2)]))] (gm_T cI cJ cC cZ) t) (va_A [(m0, .inr (9, [.ref (q 0), .ref (q 1), .ref (q 2), .ref (q 3)])), ((q 0), .inl (cI, 88, .inl (S.1.1 0))), ((q 3), .inr (8, [.ref (qk 0), .ref (qk 1), .int (S.2.2.2 2)]))] sz)) 0 0 (va_A [(m0, .inr (9, [.ref (q 0), .ref (q 1), .ref (q 2), .ref (q 3)])), ((q 0), .inl (cI, 88, .inl (S.1.1 0))), ((q 3), .inr (8, [.ref (qk 0), .ref (qk 1), .int (S.2.2.2 2)]))] sz) := by
  refine Met.ofW (cc := gm_b_Memory_forget) (maxL := 1) (ret := none) (by decide) rfl ?_
  intro p e s m args below meth c s₁ B hml hv
  obtain ⟨rfl, hsz, hP, hK, hD0⟩ := hv
  have hx := B.exec
  have hb := B.bytes
  have hr := B.returns
  have hw : ∀ w ∈ gm_W, w.before _ s = true := fun w h => atoms_spec B.pre w (List.mem_cons_of_mem _ h)
  have hown : s.vm.findClass gm_R_Memory = some m.cls := findClass_of_methodNamed B.named
  subst hsz
  have hD := hD0.self (sz := s.heap.size)
  generalize hAe : va_A [(m0, .inr (9, [.ref (q 0), .ref (q 1), .ref (q 2), .ref (q 3)])), ((q 0), .inl (cI, 88, .inl (S.1.1 0))), ((q 3), .inr (8, [.ref (qk 0), .ref (qk 1), .int (S.2.2.2 2)]))] s.heap.size = A at hD ⊢
  have hA : ∀ q : Nat, s.heap.size ≤ q → A q := fun q h => by rw [← hAe]; exact Or.inr h
  have hS : va_S A s.heap s.heap [] := va_S.rf
  have hl := lv_entry ([.ref m0]) (n := 1) (Nat.le_of_ble_eq_true rfl)
  rw [lg_entry_eq]
  generalize (lg_sl ([.ref m0]) ++ List.replicate (1 - (lg_sl ([.ref m0])).length) Slot.unset).toArray = ls at hl ⊢
  have hl : lv_has ls 1 [(0, .ref m0)] := hl
  have hF := gm_f_Memory_forget.eq_1 S
  unfold gm_p_Memory_forget at hok
  refine lv_aload_n hx hb gm_d_Memory_forget_0 rfl (lv_at hl 0 rfl) ?_
  refine va_get (D := D) (ci := 9) (v := .ref (q 0)) (C := gm_R_Memory) (T := gm_F_Memory) (N := 4) hx hb hw gm_u_Memory hown hK hP 0 rfl rfl 0 (by decide) (hw _ gm_l_Memory_9) (fun _ h9 => h9) rfl gm_d_Memory_forget_1 ?_
  refine lv_bipush (v := (-2)) hx hb gm_d_Memory_forget_4 (by decide) ?_
  have hPc := hP.sub (ws' := [((q 0), .inl (cI, 88, .inl (S.1.1 0)))]) [1] rfl
  have hDc := hD.sub (ws' := [((q 0), .inl (cI, 88, .inl (S.1.1 0)))]) [1] (by decide) rfl
  have hFc := va_free (wc := [((q 0), .inl (cI, 88, .inl (S.1.1 0)))]) hD hS hA [1] rfl
  refine va_callv (va_runS (As := [.ref (q 0), .int (-2)]) (rest := []) ⟨hx, hb, hml, hown, hw⟩ (gm_a_Arrays_fill l D cI cJ cC cZ (q 0) (fun _ => 0) 88 (-2) ((fun _ => (S.1.1 0)), (fun _ _ => 0), (fun _ => 0)) s.heap.size hok.1) (va_cwS 2 hw (gm_gT gm_l_Memory_30 gm_q_Arrays_fill gm_i_Arrays (gm_gd gm_k_Arrays_fill)) rfl rfl rfl (show gm_y_Arrays_fill.cls ≠ "java/lang/invoke/MethodHandle" ∧ gm_y_Arrays_fill.cls ≠ "java/lang/invoke/VarHandle" ∧ (parseMethodDescriptor gm_y_Arrays_fill.desc).map (fun d => d.parameters.length) = some 2 by decide +kernel) ⟨Nat.le_of_ble_eq_true rfl, Nat.le_of_ble_eq_true rfl⟩) ⟨fun a U g mk q => by obtain ⟨q0, q1, qP, qK, qD⟩ := q; exact ⟨q0, q1, qP, va_K.moved (u := U) (U := U.calling g mk a) (Vm.Alike.refl U.vm) qK, qD⟩, fun U hU hW => ⟨rfl, by rw [hU], by rw [hU]; exact hPc, va_K.moved hW.alike hK, hDc.weaken (fun _ _ _ _ => trivial)⟩⟩ rfl rfl hl.1 rfl (lv_room (Nat.le_of_ble_eq_true rfl)) gm_d_Memory_forget_6 ⟨Nat.le_of_ble_eq_true rfl, Nat.le_of_ble_eq_true rfl⟩) hS (fun q _ h => hFc q h) hFc (fun u6 t H1 locs ht hvm h6 hB hz1 hk1 hS => ?_)
  obtain ⟨hP1, -, hD1⟩ := hB
  rw [ht] at hP1
  have hP1 : va_P D gm_cl [((q 0), .inl (cI, 88, .inl (u6.1 0)))] H1 := hP1
  have hD1 : va_D (va_A [((q 0), .inl (cI, 88, .inl (S.1.1 0)))] s.heap.size) [((q 0), .inl (cI, 88, .inl (u6.1 0)))] := hD1
  obtain ⟨hP, hD⟩ := va_join (wr := [(m0, .inr (9, [.ref (q 0), .ref (q 1), .ref (q 2), .ref (q 3)])), ((q 3), .inr (8, [.ref (qk 0), .ref (qk 1), .int (S.2.2.2 2)]))]) hP hD [1] [0, 2] rfl rfl (by decide) (by decide) hk1 hFc hP1 hD1
  generalize H1 = H at hP hS ⊢
  have hP : va_P D gm_cl [(m0, .inr (9, [.ref (q 0), .ref (q 1), .ref (q 2), .ref (q 3)])), ((q 3), .inr (8, [.ref (qk 0), .ref (qk 1), .int (S.2.2.2 2)])), ((q 0), .inl (cI, 88, .inl (u6.1 0)))] H := hP
  have hD : va_D A [(m0, .inr (9, [.ref (q 0), .ref (q 1), .ref (q 2), .ref (q 3)])), ((q 3), .inr (8, [.ref (qk 0), .ref (qk 1), .int (S.2.2.2 2)])), ((q 0), .inl (cI, 88, .inl (u6.1 0)))] := hD
  have hP := hP.sub (ws' := [(m0, .inr (9, [.ref (q 0), .ref (q 1), .ref (q 2), .ref (q 3)])), ((q 0), .inl (cI, 88, .inl (u6.1 0))), ((q 3), .inr (8, [.ref (qk 0), .ref (qk 1), .int (S.2.2.2 2)]))]) [0, 2, 1] rfl
  have hD := hD.sub (ws' := [(m0, .inr (9, [.ref (q 0), .ref (q 1), .ref (q 2), .ref (q 3)])), ((q 0), .inl (cI, 88, .inl (u6.1 0))), ((q 3), .inr (8, [.ref (qk 0), .ref (qk 1), .int (S.2.2.2 2)]))]) [0, 2, 1] (by decide) rfl
  have hF := hF.trans (gm_bd_eq h6)
  have hok := gm_bd_ok h6 hok.2
  refine lv_aload_n hx hb gm_d_Memory_forget_9 rfl (lv_at hl 0 rfl) ?_
  refine va_get (D := D) (ci := 9) (v := .ref (q 3)) (C := gm_R_Memory) (T := gm_F_Memory) (N := 4) hx hb hw gm_u_Memory hown hK hP 0 rfl rfl 3 (by decide) (hw _ gm_l_Memory_26) (fun _ h9 => h9) rfl gm_d_Memory_forget_10 ?_
  refine lv_iconst (v := 0) hx hb gm_d_Memory_forget_13 (by decide) ?_
  refine va_put (D := D) (ci := 8) (v := .int 0) (ty := .int) (C := gm_R_Captures) (T := gm_F_Captures) (N := 3) hx hb hw gm_u_Captures gm_t_Captures gm_o_Captures gm_n_Captures hown hK hP hD hS 2 rfl rfl 2 (by decide) (hw _ gm_l_Memory_36) (fun _ h9 => h9) rfl (by decide +kernel) rfl rfl (Nat.le_of_ble_eq_true rfl) gm_d_Memory_forget_14 (fun H locs hP hD hS => ?_)
  have hP : va_P D gm_cl [(m0, .inr (9, [.ref (q 0), .ref (q 1), .ref (q 2), .ref (q 3)])), ((q 0), .inl (cI, 88, .inl (u6.1 0))), ((q 3), .inr (8, [.ref (qk 0), .ref (qk 1), .int 0]))] H := hP
  have hD : va_D A [(m0, .inr (9, [.ref (q 0), .ref (q 1), .ref (q 2), .ref (q 3)])), ((q 0), .inl (cI, 88, .inl (u6.1 0))), ((q 3), .inr (8, [.ref (qk 0), .ref (qk 1), .int 0]))] := hD
  have hP : va_P D gm_cl [(m0, .inr (9, [.ref (q 0), .ref (q 1), .ref (q 2), .ref (q 3)])), ((q 0), .inl (cI, 88, .inl (u6.1 0))), ((q 3), .inr (8, [.ref (qk 0), .ref (qk 1), .int 0]))] H := hP
  have hD : va_D A [(m0, .inr (9, [.ref (q 0), .ref (q 1), .ref (q 2), .ref (q 3)])), ((q 0), .inl (cI, 88, .inl (u6.1 0))), ((q 3), .inr (8, [.ref (qk 0), .ref (qk 1), .int 0]))] := hD
  exact W.vret hx hb hr (fun t ht hW => ⟨⟨(((va_up S.1.1 0 (u6.1 0)), S.1.2.1, S.1.2.2), (S.2.1, S.2.2.1, (va_up S.2.2.2 2 0))), rfl, hF.symm, by rw [ht]; exact hP, va_K.moved hW.alike hK, hD⟩, hS.F ht⟩) hS.2.2 gm_d_Memory_forget_17
