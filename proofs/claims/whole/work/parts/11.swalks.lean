/-- a character is appended to a row of n places, k of them in use -/
def gm_app (n k : Nat) (f : Nat → Int32) (w : Nat) : Int32 × (Nat → Int32) × Nat := if 32 ≤ w ∧ w ≤ 126 ∧ k < n then (1, upd f k (nI w), k + 1) else (0, f, k)
theorem gm_app_ok {n k w : Nat} {f : Nat → Int32} (h : 32 ≤ w ∧ w ≤ 126 ∧ k < n) : gm_app n k f w = (1, upd f k (nI w), k + 1) := if_pos h
theorem gm_app_no {n k w : Nat} {f : Nat → Int32} (h : ¬ (32 ≤ w ∧ w ≤ 126 ∧ k < n)) : gm_app n k f w = (0, f, k) := if_neg h
theorem gm_app_01 (n k : Nat) (f : Nat → Int32) (w : Nat) : (gm_app n k f w).1 = 0 ∨ (gm_app n k f w).1 = 1 := by
  by_cases h : 32 ≤ w ∧ w ≤ 126 ∧ k < n
  · rw [gm_app_ok h]; exact Or.inr rfl
  · rw [gm_app_no h]; exact Or.inl rfl
theorem gm_app_le (n k : Nat) (f : Nat → Int32) (w : Nat) (hk : k ≤ n) : (gm_app n k f w).2.2 ≤ n := by
  by_cases h : 32 ≤ w ∧ w ≤ 126 ∧ k < n
  · rw [gm_app_ok h]; exact h.2.2
  · rw [gm_app_no h]; exact hk
theorem gm_lt {a b : Nat} {y : Int32} (hy : y = nI b) (ha : a < 2 ^ 31) (hb : b < 2 ^ 31) : nI a < y ↔ a < b := by subst hy; exact nI_ltI ha hb
theorem gm_gt {a b : Nat} {y : Int32} (hy : y = nI b) (ha : a < 2 ^ 31) (hb : b < 2 ^ 31) : y < nI a ↔ b < a := by subst hy; exact nI_ltI hb ha
theorem gm_eq {a b : Nat} {y : Int32} (hy : y = nI b) (ha : a < 2 ^ 31) (hb : b < 2 ^ 31) : nI a = y ↔ a = b := by subst hy; exact nI_eq ha hb
theorem gm_nc {w : Nat} (h : w < 65536) : vp_nar .char (nI w) = nI w := by
  unfold vp_nar
  rw [(pk_charN h).1]
theorem gm_nb {r : Int32} (h : r = 0 ∨ r = 1) : narrow .boolean (.int r) = .int r := by rcases h with rfl | rfl <;> rfl
/-- the reference's own object -/
abbrev gm_mO (h : Nat) (q : Nat → Nat) (z : Nat → Int32) : Nat × va_E := (h, .inr (10, [.int (z 0), .int (z 1), .int (z 2), .ref (q 3), .int (z 4), .int (z 5), .ref (q 6), .ref (q 7), .ref (q 8), .ref (q 9), .ref (q 10), .ref (q 11), .ref (q 12), .ref (q 13), .ref (q 14), .ref (q 15), .ref (q 16), .ref (q 17), .ref (q 18), .int (z 19), .int (z 20), .int (z 21), .int (z 22), .int (z 23), .int (z 24), .int (z 25), .ref (q 26), .ref (q 27), .ref (q 28), .ref (q 29), .ref (q 30), .ref (q 31), .int (z 32), .ref (q 33), .ref (q 34), .ref (q 35), .ref (q 36), .ref (q 37), .int (z 38), .int (z 39), .int (z 40), .int (z 41), .ref (q 42), .ref (q 43), .ref (q 44)]))
/-- a GrammarMachine's own object -/
abbrev gm_oO (h tx sb ga gb ru : Nat) (co ma re : Int32) : Nat × va_E := (h, .inr (0, [.ref tx, .ref sb, .ref ga, .ref gb, .ref ru, .int co, .int ma, .int re]))
set_option maxHeartbeats 4000000 in
set_option maxRecDepth 100000 in
theorem gm_c_Row_append (l : Launch) (D : va_G) (cI cJ cC cZ : ClassId) (h0 q0 n k w : Nat) (f : Nat → Int32) (sz : Nat) (hn : n ≤ 50) (hk : k ≤ n) (hw6 : w < 65536) : Met l gm_y_Row_append (Cond.code gm_y_Row_append gm_b_Row_append 2 (some .boolean) :: gm_W) { frames := 4, cells := 0, slots := 0, locals := 64 } (va_Pc [.ref h0, .int (nI w)] (fun U => U.heap.size = sz ∧ va_P D gm_cl [(h0, .inr (1, [.ref q0, .int (nI k)])), (q0, .inl (cC, n, .inl f))] U.heap ∧ va_K D gm_cl (gm_T cI cJ cC cZ) U ∧ va_D (fun _ => True) [(h0, .inr (1, [.ref q0, .int (nI k)])), (q0, .inl (cC, n, .inl f))])) (va_Qi (fun r (u : (Nat → Int32) × Nat) => r = (gm_app n k f w).1 ∧ u = (gm_app n k f w).2) (fun u t => gm_at D (va_A [(h0, .inr (1, [.ref q0, .int (nI k)])), (q0, .inl (cC, n, .inl f))] sz) (gm_oRow h0 q0 cC n u.1 (nI u.2)) (gm_T cI cJ cC cZ) t) (va_A [(h0, .inr (1, [.ref q0, .int (nI k)])), (q0, .inl (cC, n, .inl f))] sz)) 0 0 (va_A [(h0, .inr (1, [.ref q0, .int (nI k)])), (q0, .inl (cC, n, .inl f))] sz) := by
  refine Met.ofW (cc := gm_b_Row_append) (maxL := 2) (ret := (some .boolean)) (by decide) rfl ?_
  intro p e s m args below meth c s₁ B hml hv
  obtain ⟨rfl, hsz, hP, hK, hD0⟩ := hv
  have hx := B.exec
  have hb := B.bytes
  have hr := B.returns
  have hw : ∀ w ∈ gm_W, w.before _ s = true := fun w h => atoms_spec B.pre w (List.mem_cons_of_mem _ h)
  have hown : s.vm.findClass gm_R_Row = some m.cls := findClass_of_methodNamed B.named
  subst hsz
  have hD := hD0.self (sz := s.heap.size)
  generalize hAe : va_A [(h0, .inr (1, [.ref q0, .int (nI k)])), (q0, .inl (cC, n, .inl f))] s.heap.size = A at hD ⊢
  have hA : ∀ q : Nat, s.heap.size ≤ q → A q := fun q h => by rw [← hAe]; exact Or.inr h
  have hS : va_S A s.heap s.heap [] := va_S.rf
  have hl := lv_entry ([.ref h0, .int (nI w)]) (n := 2) (Nat.le_of_ble_eq_true rfl)
  rw [lg_entry_eq]
  generalize (lg_sl ([.ref h0, .int (nI w)]) ++ List.replicate (2 - (lg_sl ([.ref h0, .int (nI w)])).length) Slot.unset).toArray = ls at hl ⊢
  have hl : lv_has ls 2 [(0, .ref h0), (1, .int (nI w))] := hl
  refine lv_iload_n hx hb gm_d_Row_append_0 rfl (lv_at hl 1 rfl) ?_
  refine lv_bipush (v := 32) hx hb gm_d_Row_append_1 (by decide) ?_
  refine lv_icmp_lt (tgt := 24) hx hb gm_d_Row_append_3 (by decide) (fun c3 => ?_) (fun c3 => ?_)
  · skip
    have ac3 : w < 32 := (gm_lt (b := 32) rfl (by omega) (by omega)).mp c3
    refine lv_iconst (v := 0) hx hb gm_d_Row_append_24 (by decide) ?_
    have e8 := gm_app_no (n := n) (k := k) (w := w) (f := f) (by omega)
    have hP9 := hP.sub (ws' := gm_oRow h0 q0 cC n f (nI k)) [0, 1] rfl
    have hD9 := hD.sub (ws' := gm_oRow h0 q0 cC n f (nI k)) [0, 1] (by decide) rfl
    exact W.zret (v := 0) hx hb hr rfl (fun t ht hW => ⟨⟨0, (f, k), rfl, ⟨by rw [e8], by rw [e8]⟩, by rw [ht]; exact hP9, va_K.moved hW.alike hK, hD9⟩, hS.F ht⟩) hS.2.2 gm_d_Row_append_25
  · skip
    have ac3 : ¬ w < 32 := fun z => c3 ((gm_lt (b := 32) rfl (by omega) (by omega)).mpr z)
    refine lv_iload_n hx hb gm_d_Row_append_6 rfl (lv_at hl 1 rfl) ?_
    refine lv_bipush (v := 126) hx hb gm_d_Row_append_7 (by decide) ?_
    refine lv_icmp_gt (tgt := 24) hx hb gm_d_Row_append_9 (by decide) (fun c9 => ?_) (fun c9 => ?_)
    · skip
      have ac9 : 126 < w := (gm_gt (b := 126) rfl (by omega) (by omega)).mp c9
      refine lv_iconst (v := 0) hx hb gm_d_Row_append_24 (by decide) ?_
      have e8 := gm_app_no (n := n) (k := k) (w := w) (f := f) (by omega)
      have hP9 := hP.sub (ws' := gm_oRow h0 q0 cC n f (nI k)) [0, 1] rfl
      have hD9 := hD.sub (ws' := gm_oRow h0 q0 cC n f (nI k)) [0, 1] (by decide) rfl
      exact W.zret (v := 0) hx hb hr rfl (fun t ht hW => ⟨⟨0, (f, k), rfl, ⟨by rw [e8], by rw [e8]⟩, by rw [ht]; exact hP9, va_K.moved hW.alike hK, hD9⟩, hS.F ht⟩) hS.2.2 gm_d_Row_append_25
    · skip
      have ac9 : ¬ 126 < w := fun z => c9 ((gm_gt (b := 126) rfl (by omega) (by omega)).mpr z)
      refine lv_aload_n hx hb gm_d_Row_append_12 rfl (lv_at hl 0 rfl) ?_
      refine va_get (D := D) (ci := 1) (v := .int (nI k)) (C := gm_R_Row) (T := gm_F_Row) (N := 2) hx hb hw gm_u_Row hown hK hP 0 rfl rfl 1 (by decide) (hw _ gm_l_Row_9) (fun _ h9 => h9) rfl gm_d_Row_append_13 ?_
      refine lv_aload_n hx hb gm_d_Row_append_16 rfl (lv_at hl 0 rfl) ?_
      refine va_get (D := D) (ci := 1) (v := .ref q0) (C := gm_R_Row) (T := gm_F_Row) (N := 2) hx hb hw gm_u_Row hown hK hP 0 rfl rfl 0 (by decide) (hw _ gm_l_Row_15) (fun _ h9 => h9) rfl gm_d_Row_append_17 ?_
      refine va_alen (v := (nI n)) hx hb hK hP 1 2 rfl rfl rfl gm_d_Row_append_20 ?_
      refine lv_icmp_lt (tgt := 26) hx hb gm_d_Row_append_21 (by decide) (fun c21 => ?_) (fun c21 => ?_)
      · skip
        have ac21 : k < n := (gm_lt (b := n) rfl (by omega) (by omega)).mp c21
        refine lv_aload_n hx hb gm_d_Row_append_26 rfl (lv_at hl 0 rfl) ?_
        refine va_get (D := D) (ci := 1) (v := .ref q0) (C := gm_R_Row) (T := gm_F_Row) (N := 2) hx hb hw gm_u_Row hown hK hP 0 rfl rfl 0 (by decide) (hw _ gm_l_Row_15) (fun _ h9 => h9) rfl gm_d_Row_append_27 ?_
        refine lv_aload_n hx hb gm_d_Row_append_30 rfl (lv_at hl 0 rfl) ?_
        refine va_get (D := D) (ci := 1) (v := .int (nI k)) (C := gm_R_Row) (T := gm_F_Row) (N := 2) hx hb hw gm_u_Row hown hK hP 0 rfl rfl 1 (by decide) (hw _ gm_l_Row_9) (fun _ h9 => h9) rfl gm_d_Row_append_31 ?_
        refine lv_iload_n hx hb gm_d_Row_append_34 rfl (lv_at hl 1 rfl) ?_
        refine va_cast hx hb hK hP hD hS 1 2 rfl rfl (vp_in_nI (by omega) (by omega)) gm_d_Row_append_35 (fun H locs hP hD hS => ?_)
        have e9 : ([(h0, .inr (1, [.ref q0, .int (nI k)])), (q0, .inl (cC, n, .inl (upd f (Int32.toNatClampNeg (nI k)) (vp_nar .char (nI w)))))] : va_W) = [(h0, .inr (1, [.ref q0, .int (nI k)])), (q0, .inl (cC, n, .inl (upd f k (nI w))))] := by rw [gm_nc hw6, nI_clamp (by omega)]
        have hP : va_P D gm_cl [(h0, .inr (1, [.ref q0, .int (nI k)])), (q0, .inl (cC, n, .inl (upd f k (nI w))))] H := e9 ▸ hP
        have hD : va_D A [(h0, .inr (1, [.ref q0, .int (nI k)])), (q0, .inl (cC, n, .inl (upd f k (nI w))))] := e9 ▸ hD
        refine lv_aload_n hx hb gm_d_Row_append_36 rfl (lv_at hl 0 rfl) ?_
        refine lv_dup hx hb gm_d_Row_append_37 rfl ?_
        refine va_get (D := D) (ci := 1) (v := .int (nI k)) (C := gm_R_Row) (T := gm_F_Row) (N := 2) hx hb hw gm_u_Row hown hK hP 0 rfl rfl 1 (by decide) (hw _ gm_l_Row_9) (fun _ h9 => h9) rfl gm_d_Row_append_38 ?_
        refine lv_iconst (v := 1) hx hb gm_d_Row_append_41 (by decide) ?_
        refine lv_iadd hx hb gm_d_Row_append_42 ?_
        refine gm_toi (y := nI (k + 1)) (nI_1 k) ?_
        refine va_put (D := D) (ci := 1) (v := .int (nI (k + 1))) (ty := .int) (C := gm_R_Row) (T := gm_F_Row) (N := 2) hx hb hw gm_u_Row gm_t_Row gm_o_Row gm_n_Row hown hK hP hD hS 0 rfl rfl 1 (by decide) (hw _ gm_l_Row_9) (fun _ h9 => h9) rfl (by decide +kernel) rfl rfl (Nat.le_of_ble_eq_true rfl) gm_d_Row_append_43 (fun H locs hP hD hS => ?_)
        have hP : va_P D gm_cl [(h0, .inr (1, [.ref q0, .int (nI (k + 1))])), (q0, .inl (cC, n, .inl (upd f k (nI w))))] H := hP
        have hD : va_D A [(h0, .inr (1, [.ref q0, .int (nI (k + 1))])), (q0, .inl (cC, n, .inl (upd f k (nI w))))] := hD
        refine lv_iconst (v := 1) hx hb gm_d_Row_append_46 (by decide) ?_
        have e8 := gm_app_ok (n := n) (k := k) (w := w) (f := f) (by omega)
        have hP9 := hP.sub (ws' := gm_oRow h0 q0 cC n (upd f k (nI w)) (nI (k + 1))) [0, 1] rfl
        have hD9 := hD.sub (ws' := gm_oRow h0 q0 cC n (upd f k (nI w)) (nI (k + 1))) [0, 1] (by decide) rfl
        exact W.zret (v := 1) hx hb hr rfl (fun t ht hW => ⟨⟨1, (upd f k (nI w), k + 1), rfl, ⟨by rw [e8], by rw [e8]⟩, by rw [ht]; exact hP9, va_K.moved hW.alike hK, hD9⟩, hS.F ht⟩) hS.2.2 gm_d_Row_append_47
      · skip
        have ac21 : ¬ k < n := fun z => c21 ((gm_lt (b := n) rfl (by omega) (by omega)).mpr z)
        refine lv_iconst (v := 0) hx hb gm_d_Row_append_24 (by decide) ?_
        have e8 := gm_app_no (n := n) (k := k) (w := w) (f := f) (by omega)
        have hP9 := hP.sub (ws' := gm_oRow h0 q0 cC n f (nI k)) [0, 1] rfl
        have hD9 := hD.sub (ws' := gm_oRow h0 q0 cC n f (nI k)) [0, 1] (by decide) rfl
        exact W.zret (v := 0) hx hb hr rfl (fun t ht hW => ⟨⟨0, (f, k), rfl, ⟨by rw [e8], by rw [e8]⟩, by rw [ht]; exact hP9, va_K.moved hW.alike hK, hD9⟩, hS.F ht⟩) hS.2.2 gm_d_Row_append_25
set_option maxHeartbeats 4000000 in
set_option maxRecDepth 100000 in
theorem gm_c_GM_type (l : Launch) (D : va_G) (cI cJ cC cZ : ClassId) (h0 tx sb ga gb ru : Nat) (co ma re : Int32) (q0 k w : Nat) (f : Nat → Int32) (sz : Nat) (hk : k ≤ 50) (hw6 : w < 65536) : Met l gm_y_GM_type (Cond.code gm_y_GM_type gm_b_GM_type 2 (some .boolean) :: gm_W) { frames := 8, cells := 0, slots := 0, locals := 128 } (va_Pc [.ref h0, .int (nI w)] (fun U => U.heap.size = sz ∧ va_P D gm_cl [(h0, .inr (0, [.ref tx, .ref sb, .ref ga, .ref gb, .ref ru, .int co, .int ma, .int re])), (tx, .inr (1, [.ref q0, .int (nI k)])), (q0, .inl (cC, 50, .inl f))] U.heap ∧ va_K D gm_cl (gm_T cI cJ cC cZ) U ∧ va_D (fun _ => True) [(h0, .inr (0, [.ref tx, .ref sb, .ref ga, .ref gb, .ref ru, .int co, .int ma, .int re])), (tx, .inr (1, [.ref q0, .int (nI k)])), (q0, .inl (cC, 50, .inl f))])) (va_Qi (fun r (u : (Nat → Int32) × Nat) => r = (gm_app 50 k f w).1 ∧ u = (gm_app 50 k f w).2) (fun u t => gm_at D (va_A [(h0, .inr (0, [.ref tx, .ref sb, .ref ga, .ref gb, .ref ru, .int co, .int ma, .int re])), (tx, .inr (1, [.ref q0, .int (nI k)])), (q0, .inl (cC, 50, .inl f))] sz) (gm_oO h0 tx sb ga gb ru co ma re :: gm_oRow tx q0 cC 50 u.1 (nI u.2)) (gm_T cI cJ cC cZ) t) (va_A [(h0, .inr (0, [.ref tx, .ref sb, .ref ga, .ref gb, .ref ru, .int co, .int ma, .int re])), (tx, .inr (1, [.ref q0, .int (nI k)])), (q0, .inl (cC, 50, .inl f))] sz)) 0 0 (va_A [(h0, .inr (0, [.ref tx, .ref sb, .ref ga, .ref gb, .ref ru, .int co, .int ma, .int re])), (tx, .inr (1, [.ref q0, .int (nI k)])), (q0, .inl (cC, 50, .inl f))] sz) := by
  refine Met.ofW (cc := gm_b_GM_type) (maxL := 2) (ret := (some .boolean)) (by decide) rfl ?_
  intro p e s m args below meth c s₁ B hml hv
  obtain ⟨rfl, hsz, hP, hK, hD0⟩ := hv
  have hx := B.exec
  have hb := B.bytes
  have hr := B.returns
  have hw : ∀ w ∈ gm_W, w.before _ s = true := fun w h => atoms_spec B.pre w (List.mem_cons_of_mem _ h)
  have hown : s.vm.findClass gm_R_GM = some m.cls := findClass_of_methodNamed B.named
  subst hsz
  have hD := hD0.self (sz := s.heap.size)
  generalize hAe : va_A [(h0, .inr (0, [.ref tx, .ref sb, .ref ga, .ref gb, .ref ru, .int co, .int ma, .int re])), (tx, .inr (1, [.ref q0, .int (nI k)])), (q0, .inl (cC, 50, .inl f))] s.heap.size = A at hD ⊢
  have hA : ∀ q : Nat, s.heap.size ≤ q → A q := fun q h => by rw [← hAe]; exact Or.inr h
  have hS : va_S A s.heap s.heap [] := va_S.rf
  have hl := lv_entry ([.ref h0, .int (nI w)]) (n := 2) (Nat.le_of_ble_eq_true rfl)
  rw [lg_entry_eq]
  generalize (lg_sl ([.ref h0, .int (nI w)]) ++ List.replicate (2 - (lg_sl ([.ref h0, .int (nI w)])).length) Slot.unset).toArray = ls at hl ⊢
  have hl : lv_has ls 2 [(0, .ref h0), (1, .int (nI w))] := hl
  refine lv_aload_n hx hb gm_d_GM_type_0 rfl (lv_at hl 0 rfl) ?_
  refine va_get (D := D) (ci := 0) (v := .ref tx) (C := gm_R_GM) (T := gm_F_GM) (N := 8) hx hb hw gm_u_GM hown hK hP 0 rfl rfl 0 (by decide) (hw _ gm_l_GM_14) (fun _ h9 => h9) rfl gm_d_GM_type_1 ?_
  refine lv_iload_n hx hb gm_d_GM_type_4 rfl (lv_at hl 1 rfl) ?_
  have hPc := hP.sub (ws' := [(tx, .inr (1, [.ref q0, .int (nI k)])), (q0, .inl (cC, 50, .inl f))]) [1, 2] rfl
  have hDc := hD.sub (ws' := [(tx, .inr (1, [.ref q0, .int (nI k)])), (q0, .inl (cC, 50, .inl f))]) [1, 2] (by decide) rfl
  have hFc := va_free (wc := [(tx, .inr (1, [.ref q0, .int (nI k)])), (q0, .inl (cC, 50, .inl f))]) hD hS hA [1, 2] rfl
  refine va_calli (va_runV (As := [.int (nI w)]) (rest := []) ⟨hx, hb, hml, hown, hw⟩ (gm_c_Row_append l D cI cJ cC cZ tx q0 50 k w f s.heap.size (by decide) hk hw6) (cwV 1 hw (gm_gV gm_l_GM_53 gm_q_Row_append gm_s_Row_append gm_i_Row (gm_gd gm_k_Row_append)) rfl rfl rfl (by decide +kernel) ⟨Nat.le_of_ble_eq_true rfl, Nat.le_of_ble_eq_true rfl⟩) ⟨fun a U g mk q => by obtain ⟨q0, q1, qP, qK, qD⟩ := q; exact ⟨q0, q1, qP, va_K.moved (u := U) (U := U.calling g mk a) (Vm.Alike.refl U.vm) qK, qD⟩, va_recv hK hP (ci := 1) rfl (q0 := 1) rfl, fun U hU hW => ⟨rfl, by rw [hU], by rw [hU]; exact hPc, va_K.moved hW.alike hK, hDc.weaken (fun _ _ _ _ => trivial)⟩⟩ rfl rfl hl.1 rfl (lv_room (Nat.le_of_ble_eq_true rfl)) gm_d_GM_type_5 ⟨Nat.le_of_ble_eq_true rfl, Nat.le_of_ble_eq_true rfl⟩) hS (fun q _ h => hFc q h) hFc (fun r5 u5 t H1 locs ht hvm h5 hB hz1 hk1 hS => ?_)
  obtain ⟨hP1, -, hD1⟩ := hB
  rw [ht] at hP1
  have hP1 : va_P D gm_cl [(tx, .inr (1, [.ref q0, .int (nI u5.2)])), (q0, .inl (cC, 50, .inl u5.1))] H1 := hP1
  have hD1 : va_D (va_A [(tx, .inr (1, [.ref q0, .int (nI k)])), (q0, .inl (cC, 50, .inl f))] s.heap.size) [(tx, .inr (1, [.ref q0, .int (nI u5.2)])), (q0, .inl (cC, 50, .inl u5.1))] := hD1
  obtain ⟨hP, hD⟩ := va_join (wr := [(h0, .inr (0, [.ref tx, .ref sb, .ref ga, .ref gb, .ref ru, .int co, .int ma, .int re]))]) hP hD [1, 2] [0] rfl rfl (by decide) (by decide) hk1 hFc hP1 hD1
  generalize H1 = H at hP hS ⊢
  have hP : va_P D gm_cl [(h0, .inr (0, [.ref tx, .ref sb, .ref ga, .ref gb, .ref ru, .int co, .int ma, .int re])), (tx, .inr (1, [.ref q0, .int (nI u5.2)])), (q0, .inl (cC, 50, .inl u5.1))] H := hP
  have hD : va_D A [(h0, .inr (0, [.ref tx, .ref sb, .ref ga, .ref gb, .ref ru, .int co, .int ma, .int re])), (tx, .inr (1, [.ref q0, .int (nI u5.2)])), (q0, .inl (cC, 50, .inl u5.1))] := hD
  have hP9 := hP.sub (ws' := gm_oO h0 tx sb ga gb ru co ma re :: gm_oRow tx q0 cC 50 u5.1 (nI u5.2)) [0, 1, 2] rfl
  have hD9 := hD.sub (ws' := gm_oO h0 tx sb ga gb ru co ma re :: gm_oRow tx q0 cC 50 u5.1 (nI u5.2)) [0, 1, 2] (by decide) rfl
  exact W.zret (v := r5) hx hb hr (gm_nb (h5.1 ▸ gm_app_01 _ _ _ _)) (fun t ht hW => ⟨⟨r5, u5, rfl, h5, by rw [ht]; exact hP9, va_K.moved hW.alike hK, hD9⟩, hS.F ht⟩) hS.2.2 gm_d_GM_type_8
set_option maxHeartbeats 4000000 in
set_option maxRecDepth 100000 in
theorem gm_c_GM_wipe (l : Launch) (D : va_G) (cI cJ cC cZ : ClassId) (h0 tx sb ga gb ru : Nat) (co ma re : Int32) (q0 : Nat) (k0 : Int32) (sz : Nat) : Met l gm_y_GM_wipe (Cond.code gm_y_GM_wipe gm_b_GM_wipe 1 none :: gm_W) { frames := 4, cells := 0, slots := 0, locals := 64 } (va_Pc [.ref h0] (fun U => U.heap.size = sz ∧ va_P D gm_cl [(h0, .inr (0, [.ref tx, .ref sb, .ref ga, .ref gb, .ref ru, .int co, .int ma, .int re])), (tx, .inr (1, [.ref q0, .int k0]))] U.heap ∧ va_K D gm_cl (gm_T cI cJ cC cZ) U ∧ va_D (fun _ => True) [(h0, .inr (0, [.ref tx, .ref sb, .ref ga, .ref gb, .ref ru, .int co, .int ma, .int re])), (tx, .inr (1, [.ref q0, .int k0]))])) (va_Qv (fun _ : Unit => True) (fun _ t => gm_at D (va_A [(h0, .inr (0, [.ref tx, .ref sb, .ref ga, .ref gb, .ref ru, .int co, .int ma, .int re])), (tx, .inr (1, [.ref q0, .int k0]))] sz) [gm_oO h0 tx sb ga gb ru co ma re, (tx, .inr (1, [.ref q0, .int 0]))] (gm_T cI cJ cC cZ) t) (va_A [(h0, .inr (0, [.ref tx, .ref sb, .ref ga, .ref gb, .ref ru, .int co, .int ma, .int re])), (tx, .inr (1, [.ref q0, .int k0]))] sz)) 0 0 (va_A [(h0, .inr (0, [.ref tx, .ref sb, .ref ga, .ref gb, .ref ru, .int co, .int ma, .int re])), (tx, .inr (1, [.ref q0, .int k0]))] sz) := by
  refine Met.ofW (cc := gm_b_GM_wipe) (maxL := 1) (ret := none) (by decide) rfl ?_
  intro p e s m args below meth c s₁ B hml hv
  obtain ⟨rfl, hsz, hP, hK, hD0⟩ := hv
  have hx := B.exec
  have hb := B.bytes
  have hr := B.returns
  have hw : ∀ w ∈ gm_W, w.before _ s = true := fun w h => atoms_spec B.pre w (List.mem_cons_of_mem _ h)
  have hown : s.vm.findClass gm_R_GM = some m.cls := findClass_of_methodNamed B.named
  subst hsz
  have hD := hD0.self (sz := s.heap.size)
  generalize hAe : va_A [(h0, .inr (0, [.ref tx, .ref sb, .ref ga, .ref gb, .ref ru, .int co, .int ma, .int re])), (tx, .inr (1, [.ref q0, .int k0]))] s.heap.size = A at hD ⊢
  have hA : ∀ q : Nat, s.heap.size ≤ q → A q := fun q h => by rw [← hAe]; exact Or.inr h
  have hS : va_S A s.heap s.heap [] := va_S.rf
  have hl := lv_entry ([.ref h0]) (n := 1) (Nat.le_of_ble_eq_true rfl)
  rw [lg_entry_eq]
  generalize (lg_sl ([.ref h0]) ++ List.replicate (1 - (lg_sl ([.ref h0])).length) Slot.unset).toArray = ls at hl ⊢
  have hl : lv_has ls 1 [(0, .ref h0)] := hl
  refine lv_aload_n hx hb gm_d_GM_wipe_0 rfl (lv_at hl 0 rfl) ?_
  refine va_get (D := D) (ci := 0) (v := .ref tx) (C := gm_R_GM) (T := gm_F_GM) (N := 8) hx hb hw gm_u_GM hown hK hP 0 rfl rfl 0 (by decide) (hw _ gm_l_GM_14) (fun _ h9 => h9) rfl gm_d_GM_wipe_1 ?_
  refine lv_iconst (v := 0) hx hb gm_d_GM_wipe_4 (by decide) ?_
  refine va_put (D := D) (ci := 1) (v := .int 0) (ty := .int) (C := gm_R_Row) (T := gm_F_Row) (N := 2) hx hb hw gm_u_Row gm_t_Row gm_o_Row gm_n_Row hown hK hP hD hS 1 rfl rfl 1 (by decide) (hw _ gm_l_GM_57) (fun _ h9 => h9) rfl (by decide +kernel) rfl rfl (Nat.le_of_ble_eq_true rfl) gm_d_GM_wipe_5 (fun H locs hP hD hS => ?_)
  have hP : va_P D gm_cl [(h0, .inr (0, [.ref tx, .ref sb, .ref ga, .ref gb, .ref ru, .int co, .int ma, .int re])), (tx, .inr (1, [.ref q0, .int 0]))] H := hP
  have hD : va_D A [(h0, .inr (0, [.ref tx, .ref sb, .ref ga, .ref gb, .ref ru, .int co, .int ma, .int re])), (tx, .inr (1, [.ref q0, .int 0]))] := hD
  have hP9 := hP.sub (ws' := [gm_oO h0 tx sb ga gb ru co ma re, (tx, .inr (1, [.ref q0, .int 0]))]) [0, 1] rfl
  have hD9 := hD.sub (ws' := [gm_oO h0 tx sb ga gb ru co ma re, (tx, .inr (1, [.ref q0, .int 0]))]) [0, 1] (by decide) rfl
  exact W.vret hx hb hr (fun t ht hW => ⟨⟨(), rfl, trivial, by rw [ht]; exact hP9, va_K.moved hW.alike hK, hD9⟩, hS.F ht⟩) hS.2.2 gm_d_GM_wipe_8
set_option maxHeartbeats 4000000 in
set_option maxRecDepth 100000 in
theorem gm_c_GM_fault (l : Launch) (D : va_G) (cI cJ cC cZ : ClassId) (h0 tx sb ga gb ru : Nat) (co ma re : Int32) (sz : Nat) : Met l gm_y_GM_fault (Cond.code gm_y_GM_fault gm_b_GM_fault 1 (some .int) :: gm_W) { frames := 4, cells := 0, slots := 0, locals := 64 } (va_Pc [.ref h0] (fun U => U.heap.size = sz ∧ va_P D gm_cl [(h0, .inr (0, [.ref tx, .ref sb, .ref ga, .ref gb, .ref ru, .int co, .int ma, .int re]))] U.heap ∧ va_K D gm_cl (gm_T cI cJ cC cZ) U ∧ va_D (fun _ => True) [(h0, .inr (0, [.ref tx, .ref sb, .ref ga, .ref gb, .ref ru, .int co, .int ma, .int re]))])) (va_Qi (fun r (_ : Unit) => r = re) (fun _ t => gm_at D (va_A [(h0, .inr (0, [.ref tx, .ref sb, .ref ga, .ref gb, .ref ru, .int co, .int ma, .int re]))] sz) [gm_oO h0 tx sb ga gb ru co ma re] (gm_T cI cJ cC cZ) t) (va_A [(h0, .inr (0, [.ref tx, .ref sb, .ref ga, .ref gb, .ref ru, .int co, .int ma, .int re]))] sz)) 0 0 (va_A [(h0, .inr (0, [.ref tx, .ref sb, .ref ga, .ref gb, .ref ru, .int co, .int ma, .int re]))] sz) := by
  refine Met.ofW (cc := gm_b_GM_fault) (maxL := 1) (ret := (some .int)) (by decide) rfl ?_
  intro p e s m args below meth c s₁ B hml hv
  obtain ⟨rfl, hsz, hP, hK, hD0⟩ := hv
  have hx := B.exec
  have hb := B.bytes
  have hr := B.returns
  have hw : ∀ w ∈ gm_W, w.before _ s = true := fun w h => atoms_spec B.pre w (List.mem_cons_of_mem _ h)
  have hown : s.vm.findClass gm_R_GM = some m.cls := findClass_of_methodNamed B.named
  subst hsz
  have hD := hD0.self (sz := s.heap.size)
  generalize hAe : va_A [(h0, .inr (0, [.ref tx, .ref sb, .ref ga, .ref gb, .ref ru, .int co, .int ma, .int re]))] s.heap.size = A at hD ⊢
  have hA : ∀ q : Nat, s.heap.size ≤ q → A q := fun q h => by rw [← hAe]; exact Or.inr h
  have hS : va_S A s.heap s.heap [] := va_S.rf
  have hl := lv_entry ([.ref h0]) (n := 1) (Nat.le_of_ble_eq_true rfl)
  rw [lg_entry_eq]
  generalize (lg_sl ([.ref h0]) ++ List.replicate (1 - (lg_sl ([.ref h0])).length) Slot.unset).toArray = ls at hl ⊢
  have hl : lv_has ls 1 [(0, .ref h0)] := hl
  refine lv_aload_n hx hb gm_d_GM_fault_0 rfl (lv_at hl 0 rfl) ?_
  refine va_get (D := D) (ci := 0) (v := .int re) (C := gm_R_GM) (T := gm_F_GM) (N := 8) hx hb hw gm_u_GM hown hK hP 0 rfl rfl 7 (by decide) (hw _ gm_l_GM_49) (fun _ h9 => h9) rfl gm_d_GM_fault_1 ?_
  have hP9 := hP.sub (ws' := [gm_oO h0 tx sb ga gb ru co ma re]) [0] rfl
  have hD9 := hD.sub (ws' := [gm_oO h0 tx sb ga gb ru co ma re]) [0] (by decide) rfl
  exact W.iret (v := re) hx hb hr (fun t ht hW => ⟨⟨re, (), rfl, rfl, by rw [ht]; exact hP9, va_K.moved hW.alike hK, hD9⟩, hS.F ht⟩) hS.2.2 gm_d_GM_fault_4
set_option maxHeartbeats 4000000 in
set_option maxRecDepth 100000 in
theorem gm_c_GM_clear (l : Launch) (D : va_G) (cI cJ cC cZ : ClassId) (h0 tx sb ga gb ru : Nat) (co ma re : Int32) (q0 : Nat) (k0 : Int32) (sz : Nat) : Met l gm_y_GM_clear (Cond.code gm_y_GM_clear gm_b_GM_clear 1 none :: gm_W) { frames := 4, cells := 0, slots := 0, locals := 64 } (va_Pc [.ref h0] (fun U => U.heap.size = sz ∧ va_P D gm_cl [(h0, .inr (0, [.ref tx, .ref sb, .ref ga, .ref gb, .ref ru, .int co, .int ma, .int re])), (sb, .inr (1, [.ref q0, .int k0]))] U.heap ∧ va_K D gm_cl (gm_T cI cJ cC cZ) U ∧ va_D (fun _ => True) [(h0, .inr (0, [.ref tx, .ref sb, .ref ga, .ref gb, .ref ru, .int co, .int ma, .int re])), (sb, .inr (1, [.ref q0, .int k0]))])) (va_Qv (fun _ : Unit => True) (fun _ t => gm_at D (va_A [(h0, .inr (0, [.ref tx, .ref sb, .ref ga, .ref gb, .ref ru, .int co, .int ma, .int re])), (sb, .inr (1, [.ref q0, .int k0]))] sz) [gm_oO h0 tx sb ga gb ru co 0 re, (sb, .inr (1, [.ref q0, .int 0]))] (gm_T cI cJ cC cZ) t) (va_A [(h0, .inr (0, [.ref tx, .ref sb, .ref ga, .ref gb, .ref ru, .int co, .int ma, .int re])), (sb, .inr (1, [.ref q0, .int k0]))] sz)) 0 0 (va_A [(h0, .inr (0, [.ref tx, .ref sb, .ref ga, .ref gb, .ref ru, .int co, .int ma, .int re])), (sb, .inr (1, [.ref q0, .int k0]))] sz) := by
  refine Met.ofW (cc := gm_b_GM_clear) (maxL := 1) (ret := none) (by decide) rfl ?_
  intro p e s m args below meth c s₁ B hml hv
  obtain ⟨rfl, hsz, hP, hK, hD0⟩ := hv
  have hx := B.exec
  have hb := B.bytes
  have hr := B.returns
  have hw : ∀ w ∈ gm_W, w.before _ s = true := fun w h => atoms_spec B.pre w (List.mem_cons_of_mem _ h)
  have hown : s.vm.findClass gm_R_GM = some m.cls := findClass_of_methodNamed B.named
  subst hsz
  have hD := hD0.self (sz := s.heap.size)
  generalize hAe : va_A [(h0, .inr (0, [.ref tx, .ref sb, .ref ga, .ref gb, .ref ru, .int co, .int ma, .int re])), (sb, .inr (1, [.ref q0, .int k0]))] s.heap.size = A at hD ⊢
  have hA : ∀ q : Nat, s.heap.size ≤ q → A q := fun q h => by rw [← hAe]; exact Or.inr h
  have hS : va_S A s.heap s.heap [] := va_S.rf
  have hl := lv_entry ([.ref h0]) (n := 1) (Nat.le_of_ble_eq_true rfl)
  rw [lg_entry_eq]
  generalize (lg_sl ([.ref h0]) ++ List.replicate (1 - (lg_sl ([.ref h0])).length) Slot.unset).toArray = ls at hl ⊢
  have hl : lv_has ls 1 [(0, .ref h0)] := hl
  refine lv_aload_n hx hb gm_d_GM_clear_0 rfl (lv_at hl 0 rfl) ?_
  refine va_get (D := D) (ci := 0) (v := .ref sb) (C := gm_R_GM) (T := gm_F_GM) (N := 8) hx hb hw gm_u_GM hown hK hP 0 rfl rfl 1 (by decide) (hw _ gm_l_GM_18) (fun _ h9 => h9) rfl gm_d_GM_clear_1 ?_
  refine lv_iconst (v := 0) hx hb gm_d_GM_clear_4 (by decide) ?_
  refine va_put (D := D) (ci := 1) (v := .int 0) (ty := .int) (C := gm_R_Row) (T := gm_F_Row) (N := 2) hx hb hw gm_u_Row gm_t_Row gm_o_Row gm_n_Row hown hK hP hD hS 1 rfl rfl 1 (by decide) (hw _ gm_l_GM_57) (fun _ h9 => h9) rfl (by decide +kernel) rfl rfl (Nat.le_of_ble_eq_true rfl) gm_d_GM_clear_5 (fun H locs hP hD hS => ?_)
  have hP : va_P D gm_cl [(h0, .inr (0, [.ref tx, .ref sb, .ref ga, .ref gb, .ref ru, .int co, .int ma, .int re])), (sb, .inr (1, [.ref q0, .int 0]))] H := hP
  have hD : va_D A [(h0, .inr (0, [.ref tx, .ref sb, .ref ga, .ref gb, .ref ru, .int co, .int ma, .int re])), (sb, .inr (1, [.ref q0, .int 0]))] := hD
  refine lv_aload_n hx hb gm_d_GM_clear_8 rfl (lv_at hl 0 rfl) ?_
  refine lv_iconst (v := 0) hx hb gm_d_GM_clear_9 (by decide) ?_
  refine va_put (D := D) (ci := 0) (v := .int 0) (ty := .boolean) (C := gm_R_GM) (T := gm_F_GM) (N := 8) hx hb hw gm_u_GM gm_t_GM gm_o_GM gm_n_GM hown hK hP hD hS 0 rfl rfl 6 (by decide) (hw _ gm_l_GM_46) (fun _ h9 => h9) rfl (by decide +kernel) rfl rfl (Nat.le_of_ble_eq_true rfl) gm_d_GM_clear_10 (fun H locs hP hD hS => ?_)
  have hP : va_P D gm_cl [(h0, .inr (0, [.ref tx, .ref sb, .ref ga, .ref gb, .ref ru, .int co, .int 0, .int re])), (sb, .inr (1, [.ref q0, .int 0]))] H := hP
  have hD : va_D A [(h0, .inr (0, [.ref tx, .ref sb, .ref ga, .ref gb, .ref ru, .int co, .int 0, .int re])), (sb, .inr (1, [.ref q0, .int 0]))] := hD
  have hP9 := hP.sub (ws' := [gm_oO h0 tx sb ga gb ru co 0 re, (sb, .inr (1, [.ref q0, .int 0]))]) [0, 1] rfl
  have hD9 := hD.sub (ws' := [gm_oO h0 tx sb ga gb ru co 0 re, (sb, .inr (1, [.ref q0, .int 0]))]) [0, 1] (by decide) rfl
  exact W.vret hx hb hr (fun t ht hW => ⟨⟨(), rfl, trivial, by rw [ht]; exact hP9, va_K.moved hW.alike hK, hD9⟩, hS.F ht⟩) hS.2.2 gm_d_GM_clear_13
set_option maxHeartbeats 4000000 in
set_option maxRecDepth 100000 in
theorem gm_c_GM_feed (l : Launch) (D : va_G) (cI cJ cC cZ : ClassId) (h0 tx sb ga gb ru : Nat) (co ma re : Int32) (q0 k w : Nat) (f : Nat → Int32) (sz : Nat) (hk : k ≤ 10) (hw6 : w < 65536) : Met l gm_y_GM_feed (Cond.code gm_y_GM_feed gm_b_GM_feed 3 (some .boolean) :: gm_W) { frames := 8, cells := 0, slots := 0, locals := 128 } (va_Pc [.ref h0, .int (nI w)] (fun U => U.heap.size = sz ∧ va_P D gm_cl [(h0, .inr (0, [.ref tx, .ref sb, .ref ga, .ref gb, .ref ru, .int co, .int ma, .int re])), (sb, .inr (1, [.ref q0, .int (nI k)])), (q0, .inl (cC, 10, .inl f))] U.heap ∧ va_K D gm_cl (gm_T cI cJ cC cZ) U ∧ va_D (fun _ => True) [(h0, .inr (0, [.ref tx, .ref sb, .ref ga, .ref gb, .ref ru, .int co, .int ma, .int re])), (sb, .inr (1, [.ref q0, .int (nI k)])), (q0, .inl (cC, 10, .inl f))])) (va_Qi (fun r (u : (Nat → Int32) × Nat × Int32) => r = (gm_app 10 k f w).1 ∧ (u.1, u.2.1) = (gm_app 10 k f w).2 ∧ u.2.2 = if r = 0 then ma else 0) (fun u t => gm_at D (va_A [(h0, .inr (0, [.ref tx, .ref sb, .ref ga, .ref gb, .ref ru, .int co, .int ma, .int re])), (sb, .inr (1, [.ref q0, .int (nI k)])), (q0, .inl (cC, 10, .inl f))] sz) (gm_oO h0 tx sb ga gb ru co u.2.2 re :: gm_oRow sb q0 cC 10 u.1 (nI u.2.1)) (gm_T cI cJ cC cZ) t) (va_A [(h0, .inr (0, [.ref tx, .ref sb, .ref ga, .ref gb, .ref ru, .int co, .int ma, .int re])), (sb, .inr (1, [.ref q0, .int (nI k)])), (q0, .inl (cC, 10, .inl f))] sz)) 0 0 (va_A [(h0, .inr (0, [.ref tx, .ref sb, .ref ga, .ref gb, .ref ru, .int co, .int ma, .int re])), (sb, .inr (1, [.ref q0, .int (nI k)])), (q0, .inl (cC, 10, .inl f))] sz) := by
  refine Met.ofW (cc := gm_b_GM_feed) (maxL := 3) (ret := (some .boolean)) (by decide) rfl ?_
  intro p e s m args below meth c s₁ B hml hv
  obtain ⟨rfl, hsz, hP, hK, hD0⟩ := hv
  have hx := B.exec
  have hb := B.bytes
  have hr := B.returns
  have hw : ∀ w ∈ gm_W, w.before _ s = true := fun w h => atoms_spec B.pre w (List.mem_cons_of_mem _ h)
  have hown : s.vm.findClass gm_R_GM = some m.cls := findClass_of_methodNamed B.named
  subst hsz
  have hD := hD0.self (sz := s.heap.size)
  generalize hAe : va_A [(h0, .inr (0, [.ref tx, .ref sb, .ref ga, .ref gb, .ref ru, .int co, .int ma, .int re])), (sb, .inr (1, [.ref q0, .int (nI k)])), (q0, .inl (cC, 10, .inl f))] s.heap.size = A at hD ⊢
  have hA : ∀ q : Nat, s.heap.size ≤ q → A q := fun q h => by rw [← hAe]; exact Or.inr h
  have hS : va_S A s.heap s.heap [] := va_S.rf
  have hl := lv_entry ([.ref h0, .int (nI w)]) (n := 3) (Nat.le_of_ble_eq_true rfl)
  rw [lg_entry_eq]
  generalize (lg_sl ([.ref h0, .int (nI w)]) ++ List.replicate (3 - (lg_sl ([.ref h0, .int (nI w)])).length) Slot.unset).toArray = ls at hl ⊢
  have hl : lv_has ls 3 [(0, .ref h0), (1, .int (nI w))] := hl
  refine lv_aload_n hx hb gm_d_GM_feed_0 rfl (lv_at hl 0 rfl) ?_
  refine va_get (D := D) (ci := 0) (v := .ref sb) (C := gm_R_GM) (T := gm_F_GM) (N := 8) hx hb hw gm_u_GM hown hK hP 0 rfl rfl 1 (by decide) (hw _ gm_l_GM_18) (fun _ h9 => h9) rfl gm_d_GM_feed_1 ?_
  refine lv_iload_n hx hb gm_d_GM_feed_4 rfl (lv_at hl 1 rfl) ?_
  have hPc := hP.sub (ws' := [(sb, .inr (1, [.ref q0, .int (nI k)])), (q0, .inl (cC, 10, .inl f))]) [1, 2] rfl
  have hDc := hD.sub (ws' := [(sb, .inr (1, [.ref q0, .int (nI k)])), (q0, .inl (cC, 10, .inl f))]) [1, 2] (by decide) rfl
  have hFc := va_free (wc := [(sb, .inr (1, [.ref q0, .int (nI k)])), (q0, .inl (cC, 10, .inl f))]) hD hS hA [1, 2] rfl
  refine va_calli (va_runV (As := [.int (nI w)]) (rest := []) ⟨hx, hb, hml, hown, hw⟩ (gm_c_Row_append l D cI cJ cC cZ sb q0 10 k w f s.heap.size (by decide) hk hw6) (cwV 1 hw (gm_gV gm_l_GM_53 gm_q_Row_append gm_s_Row_append gm_i_Row (gm_gd gm_k_Row_append)) rfl rfl rfl (by decide +kernel) ⟨Nat.le_of_ble_eq_true rfl, Nat.le_of_ble_eq_true rfl⟩) ⟨fun a U g mk q => by obtain ⟨q0, q1, qP, qK, qD⟩ := q; exact ⟨q0, q1, qP, va_K.moved (u := U) (U := U.calling g mk a) (Vm.Alike.refl U.vm) qK, qD⟩, va_recv hK hP (ci := 1) rfl (q0 := 1) rfl, fun U hU hW => ⟨rfl, by rw [hU], by rw [hU]; exact hPc, va_K.moved hW.alike hK, hDc.weaken (fun _ _ _ _ => trivial)⟩⟩ rfl rfl hl.1 rfl (lv_room (Nat.le_of_ble_eq_true rfl)) gm_d_GM_feed_5 ⟨Nat.le_of_ble_eq_true rfl, Nat.le_of_ble_eq_true rfl⟩) hS (fun q _ h => hFc q h) hFc (fun r5 u5 t H1 locs ht hvm h5 hB hz1 hk1 hS => ?_)
  obtain ⟨hP1, -, hD1⟩ := hB
  rw [ht] at hP1
  have hP1 : va_P D gm_cl [(sb, .inr (1, [.ref q0, .int (nI u5.2)])), (q0, .inl (cC, 10, .inl u5.1))] H1 := hP1
  have hD1 : va_D (va_A [(sb, .inr (1, [.ref q0, .int (nI k)])), (q0, .inl (cC, 10, .inl f))] s.heap.size) [(sb, .inr (1, [.ref q0, .int (nI u5.2)])), (q0, .inl (cC, 10, .inl u5.1))] := hD1
  obtain ⟨hP, hD⟩ := va_join (wr := [(h0, .inr (0, [.ref tx, .ref sb, .ref ga, .ref gb, .ref ru, .int co, .int ma, .int re]))]) hP hD [1, 2] [0] rfl rfl (by decide) (by decide) hk1 hFc hP1 hD1
  generalize H1 = H at hP hS ⊢
  have hP : va_P D gm_cl [(h0, .inr (0, [.ref tx, .ref sb, .ref ga, .ref gb, .ref ru, .int co, .int ma, .int re])), (sb, .inr (1, [.ref q0, .int (nI u5.2)])), (q0, .inl (cC, 10, .inl u5.1))] H := hP
  have hD : va_D A [(h0, .inr (0, [.ref tx, .ref sb, .ref ga, .ref gb, .ref ru, .int co, .int ma, .int re])), (sb, .inr (1, [.ref q0, .int (nI u5.2)])), (q0, .inl (cC, 10, .inl u5.1))] := hD
  refine lv_istore_n (lv' := [(2, .int r5), (0, .ref h0), (1, .int (nI w))]) hx hb gm_d_GM_feed_8 rfl hl (Nat.le_of_ble_eq_true rfl) rfl (fun ls hl => ?_)
  refine lv_iload_n hx hb gm_d_GM_feed_9 rfl (lv_at hl 0 rfl) ?_
  refine lv_if_eq (tgt := 18) hx hb gm_d_GM_feed_10 (by decide) (fun c10 => ?_) (fun c10 => ?_)
  · skip
    refine lv_iload_n hx hb gm_d_GM_feed_18 rfl (lv_at hl 0 rfl) ?_
    have hP9 := hP.sub (ws' := gm_oO h0 tx sb ga gb ru co ma re :: gm_oRow sb q0 cC 10 u5.1 (nI u5.2)) [0, 1, 2] rfl
    have hD9 := hD.sub (ws' := gm_oO h0 tx sb ga gb ru co ma re :: gm_oRow sb q0 cC 10 u5.1 (nI u5.2)) [0, 1, 2] (by decide) rfl
    exact W.zret (v := r5) hx hb hr (gm_nb (h5.1 ▸ gm_app_01 _ _ _ _)) (fun t ht hW => ⟨⟨r5, (u5.1, u5.2, ma), rfl, ⟨h5.1, h5.2, (if_pos c10).symm⟩, by rw [ht]; exact hP9, va_K.moved hW.alike hK, hD9⟩, hS.F ht⟩) hS.2.2 gm_d_GM_feed_19
  · skip
    refine lv_aload_n hx hb gm_d_GM_feed_13 rfl (lv_at hl 1 rfl) ?_
    refine lv_iconst (v := 0) hx hb gm_d_GM_feed_14 (by decide) ?_
    refine va_put (D := D) (ci := 0) (v := .int 0) (ty := .boolean) (C := gm_R_GM) (T := gm_F_GM) (N := 8) hx hb hw gm_u_GM gm_t_GM gm_o_GM gm_n_GM hown hK hP hD hS 0 rfl rfl 6 (by decide) (hw _ gm_l_GM_46) (fun _ h9 => h9) rfl (by decide +kernel) rfl rfl (Nat.le_of_ble_eq_true rfl) gm_d_GM_feed_15 (fun H locs hP hD hS => ?_)
    have hP : va_P D gm_cl [(h0, .inr (0, [.ref tx, .ref sb, .ref ga, .ref gb, .ref ru, .int co, .int 0, .int re])), (sb, .inr (1, [.ref q0, .int (nI u5.2)])), (q0, .inl (cC, 10, .inl u5.1))] H := hP
    have hD : va_D A [(h0, .inr (0, [.ref tx, .ref sb, .ref ga, .ref gb, .ref ru, .int co, .int 0, .int re])), (sb, .inr (1, [.ref q0, .int (nI u5.2)])), (q0, .inl (cC, 10, .inl u5.1))] := hD
    refine lv_iload_n hx hb gm_d_GM_feed_18 rfl (lv_at hl 0 rfl) ?_
    have hP9 := hP.sub (ws' := gm_oO h0 tx sb ga gb ru co 0 re :: gm_oRow sb q0 cC 10 u5.1 (nI u5.2)) [0, 1, 2] rfl
    have hD9 := hD.sub (ws' := gm_oO h0 tx sb ga gb ru co 0 re :: gm_oRow sb q0 cC 10 u5.1 (nI u5.2)) [0, 1, 2] (by decide) rfl
    exact W.zret (v := r5) hx hb hr (gm_nb (h5.1 ▸ gm_app_01 _ _ _ _)) (fun t ht hW => ⟨⟨r5, (u5.1, u5.2, 0), rfl, ⟨h5.1, h5.2, (if_neg c10).symm⟩, by rw [ht]; exact hP9, va_K.moved hW.alike hK, hD9⟩, hS.F ht⟩) hS.2.2 gm_d_GM_feed_19
set_option maxHeartbeats 4000000 in
set_option maxRecDepth 100000 in
theorem gm_c_GM_work (l : Launch) (D : va_G) (cI cJ cC cZ : ClassId) (h0 tx sb ga gb ru : Nat) (co ma re : Int32) (ra rb rc rd re1 rf rg rh ri : Nat) (z0 z1 z2 z3 z4 z5 : Int32) (sz : Nat) : Met l gm_y_GM_work (Cond.code gm_y_GM_work gm_b_GM_work 1 (some .int) :: gm_W) { frames := 4, cells := 0, slots := 0, locals := 64 } (va_Pc [.ref h0] (fun U => U.heap.size = sz ∧ va_P D gm_cl [(h0, .inr (0, [.ref tx, .ref sb, .ref ga, .ref gb, .ref ru, .int co, .int ma, .int re])), (ru, .inr (7, [.ref ra, .ref rb, .ref rc, .ref rd, .ref re1, .ref rf, .ref rg, .int z0, .ref rh, .ref ri, .int z1, .int z2, .int z3, .int z4, .int z5]))] U.heap ∧ va_K D gm_cl (gm_T cI cJ cC cZ) U ∧ va_D (fun _ => True) [(h0, .inr (0, [.ref tx, .ref sb, .ref ga, .ref gb, .ref ru, .int co, .int ma, .int re])), (ru, .inr (7, [.ref ra, .ref rb, .ref rc, .ref rd, .ref re1, .ref rf, .ref rg, .int z0, .ref rh, .ref ri, .int z1, .int z2, .int z3, .int z4, .int z5]))])) (va_Qi (fun r (_ : Unit) => r = if ma = 0 then -1 else z5) (fun _ t => gm_at D (va_A [(h0, .inr (0, [.ref tx, .ref sb, .ref ga, .ref gb, .ref ru, .int co, .int ma, .int re])), (ru, .inr (7, [.ref ra, .ref rb, .ref rc, .ref rd, .ref re1, .ref rf, .ref rg, .int z0, .ref rh, .ref ri, .int z1, .int z2, .int z3, .int z4, .int z5]))] sz) [gm_oO h0 tx sb ga gb ru co ma re, (ru, .inr (7, [.ref ra, .ref rb, .ref rc, .ref rd, .ref re1, .ref rf, .ref rg, .int z0, .ref rh, .ref ri, .int z1, .int z2, .int z3, .int z4, .int z5]))] (gm_T cI cJ cC cZ) t) (va_A [(h0, .inr (0, [.ref tx, .ref sb, .ref ga, .ref gb, .ref ru, .int co, .int ma, .int re])), (ru, .inr (7, [.ref ra, .ref rb, .ref rc, .ref rd, .ref re1, .ref rf, .ref rg, .int z0, .ref rh, .ref ri, .int z1, .int z2, .int z3, .int z4, .int z5]))] sz)) 0 0 (va_A [(h0, .inr (0, [.ref tx, .ref sb, .ref ga, .ref gb, .ref ru, .int co, .int ma, .int re])), (ru, .inr (7, [.ref ra, .ref rb, .ref rc, .ref rd, .ref re1, .ref rf, .ref rg, .int z0, .ref rh, .ref ri, .int z1, .int z2, .int z3, .int z4, .int z5]))] sz) := by
  refine Met.ofW (cc := gm_b_GM_work) (maxL := 1) (ret := (some .int)) (by decide) rfl ?_
  intro p e s m args below meth c s₁ B hml hv
  obtain ⟨rfl, hsz, hP, hK, hD0⟩ := hv
  have hx := B.exec
  have hb := B.bytes
  have hr := B.returns
  have hw : ∀ w ∈ gm_W, w.before _ s = true := fun w h => atoms_spec B.pre w (List.mem_cons_of_mem _ h)
  have hown : s.vm.findClass gm_R_GM = some m.cls := findClass_of_methodNamed B.named
  subst hsz
  have hD := hD0.self (sz := s.heap.size)
  generalize hAe : va_A [(h0, .inr (0, [.ref tx, .ref sb, .ref ga, .ref gb, .ref ru, .int co, .int ma, .int re])), (ru, .inr (7, [.ref ra, .ref rb, .ref rc, .ref rd, .ref re1, .ref rf, .ref rg, .int z0, .ref rh, .ref ri, .int z1, .int z2, .int z3, .int z4, .int z5]))] s.heap.size = A at hD ⊢
  have hA : ∀ q : Nat, s.heap.size ≤ q → A q := fun q h => by rw [← hAe]; exact Or.inr h
  have hS : va_S A s.heap s.heap [] := va_S.rf
  have hl := lv_entry ([.ref h0]) (n := 1) (Nat.le_of_ble_eq_true rfl)
  rw [lg_entry_eq]
  generalize (lg_sl ([.ref h0]) ++ List.replicate (1 - (lg_sl ([.ref h0])).length) Slot.unset).toArray = ls at hl ⊢
  have hl : lv_has ls 1 [(0, .ref h0)] := hl
  refine lv_aload_n hx hb gm_d_GM_work_0 rfl (lv_at hl 0 rfl) ?_
  refine va_get (D := D) (ci := 0) (v := .int ma) (C := gm_R_GM) (T := gm_F_GM) (N := 8) hx hb hw gm_u_GM hown hK hP 0 rfl rfl 6 (by decide) (hw _ gm_l_GM_46) (fun _ h9 => h9) rfl gm_d_GM_work_1 ?_
  refine lv_if_eq (tgt := 17) hx hb gm_d_GM_work_4 (by decide) (fun c4 => ?_) (fun c4 => ?_)
  · skip
    refine lv_iconst (v := (-1)) hx hb gm_d_GM_work_17 (by decide) ?_
    have hP9 := hP.sub (ws' := [gm_oO h0 tx sb ga gb ru co ma re, (ru, .inr (7, [.ref ra, .ref rb, .ref rc, .ref rd, .ref re1, .ref rf, .ref rg, .int z0, .ref rh, .ref ri, .int z1, .int z2, .int z3, .int z4, .int z5]))]) [0, 1] rfl
    have hD9 := hD.sub (ws' := [gm_oO h0 tx sb ga gb ru co ma re, (ru, .inr (7, [.ref ra, .ref rb, .ref rc, .ref rd, .ref re1, .ref rf, .ref rg, .int z0, .ref rh, .ref ri, .int z1, .int z2, .int z3, .int z4, .int z5]))]) [0, 1] (by decide) rfl
    exact W.iret (v := (-1)) hx hb hr (fun t ht hW => ⟨⟨(-1), (), rfl, (if_pos c4).symm, by rw [ht]; exact hP9, va_K.moved hW.alike hK, hD9⟩, hS.F ht⟩) hS.2.2 gm_d_GM_work_18
  · skip
    refine lv_aload_n hx hb gm_d_GM_work_7 rfl (lv_at hl 0 rfl) ?_
    refine va_get (D := D) (ci := 0) (v := .ref ru) (C := gm_R_GM) (T := gm_F_GM) (N := 8) hx hb hw gm_u_GM hown hK hP 0 rfl rfl 4 (by decide) (hw _ gm_l_GM_38) (fun _ h9 => h9) rfl gm_d_GM_work_8 ?_
    refine va_get (D := D) (ci := 7) (v := .int z5) (C := gm_R_Runner) (T := gm_F_Runner) (N := 15) hx hb hw gm_u_Runner hown hK hP 1 rfl rfl 14 (by decide) (hw _ gm_l_GM_146) (fun _ h9 => h9) rfl gm_d_GM_work_11 ?_
    refine lv_goto (tgt := 18) hx hb gm_d_GM_work_14 (by decide) ?_
    have hP9 := hP.sub (ws' := [gm_oO h0 tx sb ga gb ru co ma re, (ru, .inr (7, [.ref ra, .ref rb, .ref rc, .ref rd, .ref re1, .ref rf, .ref rg, .int z0, .ref rh, .ref ri, .int z1, .int z2, .int z3, .int z4, .int z5]))]) [0, 1] rfl
    have hD9 := hD.sub (ws' := [gm_oO h0 tx sb ga gb ru co ma re, (ru, .inr (7, [.ref ra, .ref rb, .ref rc, .ref rd, .ref re1, .ref rf, .ref rg, .int z0, .ref rh, .ref ri, .int z1, .int z2, .int z3, .int z4, .int z5]))]) [0, 1] (by decide) rfl
    exact W.iret (v := z5) hx hb hr (fun t ht hW => ⟨⟨z5, (), rfl, (if_neg c4).symm, by rw [ht]; exact hP9, va_K.moved hW.alike hK, hD9⟩, hS.F ht⟩) hS.2.2 gm_d_GM_work_18
set_option maxHeartbeats 4000000 in
set_option maxRecDepth 100000 in
theorem gm_c_GM_nodes (l : Launch) (D : va_G) (cI cJ cC cZ : ClassId) (h0 tx sb ga gb ru : Nat) (co ma re : Int32) (ra rb rc rd re1 rf rg rh ri : Nat) (z0 z1 z2 z3 z4 z5 : Int32) (cb ce : Nat) (ck : Int32) (sz : Nat) : Met l gm_y_GM_nodes (Cond.code gm_y_GM_nodes gm_b_GM_nodes 1 (some .int) :: gm_W) { frames := 4, cells := 0, slots := 0, locals := 64 } (va_Pc [.ref h0] (fun U => U.heap.size = sz ∧ va_P D gm_cl [(h0, .inr (0, [.ref tx, .ref sb, .ref ga, .ref gb, .ref ru, .int co, .int ma, .int re])), (ru, .inr (7, [.ref ra, .ref rb, .ref rc, .ref rd, .ref re1, .ref rf, .ref rg, .int z0, .ref rh, .ref ri, .int z1, .int z2, .int z3, .int z4, .int z5])), (rb, .inr (8, [.ref cb, .ref ce, .int ck]))] U.heap ∧ va_K D gm_cl (gm_T cI cJ cC cZ) U ∧ va_D (fun _ => True) [(h0, .inr (0, [.ref tx, .ref sb, .ref ga, .ref gb, .ref ru, .int co, .int ma, .int re])), (ru, .inr (7, [.ref ra, .ref rb, .ref rc, .ref rd, .ref re1, .ref rf, .ref rg, .int z0, .ref rh, .ref ri, .int z1, .int z2, .int z3, .int z4, .int z5])), (rb, .inr (8, [.ref cb, .ref ce, .int ck]))])) (va_Qi (fun r (_ : Unit) => r = if ma = 0 then -1 else ck) (fun _ t => gm_at D (va_A [(h0, .inr (0, [.ref tx, .ref sb, .ref ga, .ref gb, .ref ru, .int co, .int ma, .int re])), (ru, .inr (7, [.ref ra, .ref rb, .ref rc, .ref rd, .ref re1, .ref rf, .ref rg, .int z0, .ref rh, .ref ri, .int z1, .int z2, .int z3, .int z4, .int z5])), (rb, .inr (8, [.ref cb, .ref ce, .int ck]))] sz) [gm_oO h0 tx sb ga gb ru co ma re, (ru, .inr (7, [.ref ra, .ref rb, .ref rc, .ref rd, .ref re1, .ref rf, .ref rg, .int z0, .ref rh, .ref ri, .int z1, .int z2, .int z3, .int z4, .int z5])), (rb, .inr (8, [.ref cb, .ref ce, .int ck]))] (gm_T cI cJ cC cZ) t) (va_A [(h0, .inr (0, [.ref tx, .ref sb, .ref ga, .ref gb, .ref ru, .int co, .int ma, .int re])), (ru, .inr (7, [.ref ra, .ref rb, .ref rc, .ref rd, .ref re1, .ref rf, .ref rg, .int z0, .ref rh, .ref ri, .int z1, .int z2, .int z3, .int z4, .int z5])), (rb, .inr (8, [.ref cb, .ref ce, .int ck]))] sz)) 0 0 (va_A [(h0, .inr (0, [.ref tx, .ref sb, .ref ga, .ref gb, .ref ru, .int co, .int ma, .int re])), (ru, .inr (7, [.ref ra, .ref rb, .ref rc, .ref rd, .ref re1, .ref rf, .ref rg, .int z0, .ref rh, .ref ri, .int z1, .int z2, .int z3, .int z4, .int z5])), (rb, .inr (8, [.ref cb, .ref ce, .int ck]))] sz) := by
  refine Met.ofW (cc := gm_b_GM_nodes) (maxL := 1) (ret := (some .int)) (by decide) rfl ?_
  intro p e s m args below meth c s₁ B hml hv
  obtain ⟨rfl, hsz, hP, hK, hD0⟩ := hv
  have hx := B.exec
  have hb := B.bytes
  have hr := B.returns
  have hw : ∀ w ∈ gm_W, w.before _ s = true := fun w h => atoms_spec B.pre w (List.mem_cons_of_mem _ h)
  have hown : s.vm.findClass gm_R_GM = some m.cls := findClass_of_methodNamed B.named
  subst hsz
  have hD := hD0.self (sz := s.heap.size)
  generalize hAe : va_A [(h0, .inr (0, [.ref tx, .ref sb, .ref ga, .ref gb, .ref ru, .int co, .int ma, .int re])), (ru, .inr (7, [.ref ra, .ref rb, .ref rc, .ref rd, .ref re1, .ref rf, .ref rg, .int z0, .ref rh, .ref ri, .int z1, .int z2, .int z3, .int z4, .int z5])), (rb, .inr (8, [.ref cb, .ref ce, .int ck]))] s.heap.size = A at hD ⊢
  have hA : ∀ q : Nat, s.heap.size ≤ q → A q := fun q h => by rw [← hAe]; exact Or.inr h
  have hS : va_S A s.heap s.heap [] := va_S.rf
  have hl := lv_entry ([.ref h0]) (n := 1) (Nat.le_of_ble_eq_true rfl)
  rw [lg_entry_eq]
  generalize (lg_sl ([.ref h0]) ++ List.replicate (1 - (lg_sl ([.ref h0])).length) Slot.unset).toArray = ls at hl ⊢
  have hl : lv_has ls 1 [(0, .ref h0)] := hl
  refine lv_aload_n hx hb gm_d_GM_nodes_0 rfl (lv_at hl 0 rfl) ?_
  refine va_get (D := D) (ci := 0) (v := .int ma) (C := gm_R_GM) (T := gm_F_GM) (N := 8) hx hb hw gm_u_GM hown hK hP 0 rfl rfl 6 (by decide) (hw _ gm_l_GM_46) (fun _ h9 => h9) rfl gm_d_GM_nodes_1 ?_
  refine lv_if_eq (tgt := 20) hx hb gm_d_GM_nodes_4 (by decide) (fun c4 => ?_) (fun c4 => ?_)
  · skip
    refine lv_iconst (v := (-1)) hx hb gm_d_GM_nodes_20 (by decide) ?_
    have hP9 := hP.sub (ws' := [gm_oO h0 tx sb ga gb ru co ma re, (ru, .inr (7, [.ref ra, .ref rb, .ref rc, .ref rd, .ref re1, .ref rf, .ref rg, .int z0, .ref rh, .ref ri, .int z1, .int z2, .int z3, .int z4, .int z5])), (rb, .inr (8, [.ref cb, .ref ce, .int ck]))]) [0, 1, 2] rfl
    have hD9 := hD.sub (ws' := [gm_oO h0 tx sb ga gb ru co ma re, (ru, .inr (7, [.ref ra, .ref rb, .ref rc, .ref rd, .ref re1, .ref rf, .ref rg, .int z0, .ref rh, .ref ri, .int z1, .int z2, .int z3, .int z4, .int z5])), (rb, .inr (8, [.ref cb, .ref ce, .int ck]))]) [0, 1, 2] (by decide) rfl
    exact W.iret (v := (-1)) hx hb hr (fun t ht hW => ⟨⟨(-1), (), rfl, (if_pos c4).symm, by rw [ht]; exact hP9, va_K.moved hW.alike hK, hD9⟩, hS.F ht⟩) hS.2.2 gm_d_GM_nodes_21
  · skip
    refine lv_aload_n hx hb gm_d_GM_nodes_7 rfl (lv_at hl 0 rfl) ?_
    refine va_get (D := D) (ci := 0) (v := .ref ru) (C := gm_R_GM) (T := gm_F_GM) (N := 8) hx hb hw gm_u_GM hown hK hP 0 rfl rfl 4 (by decide) (hw _ gm_l_GM_38) (fun _ h9 => h9) rfl gm_d_GM_nodes_8 ?_
    refine va_get (D := D) (ci := 7) (v := .ref rb) (C := gm_R_Runner) (T := gm_F_Runner) (N := 15) hx hb hw gm_u_Runner hown hK hP 1 rfl rfl 1 (by decide) (hw _ gm_l_GM_149) (fun _ h9 => h9) rfl gm_d_GM_nodes_11 ?_
    refine va_get (D := D) (ci := 8) (v := .int ck) (C := gm_R_Captures) (T := gm_F_Captures) (N := 3) hx hb hw gm_u_Captures hown hK hP 2 rfl rfl 2 (by decide) (hw _ gm_l_GM_153) (fun _ h9 => h9) rfl gm_d_GM_nodes_14 ?_
    refine lv_goto (tgt := 21) hx hb gm_d_GM_nodes_17 (by decide) ?_
    have hP9 := hP.sub (ws' := [gm_oO h0 tx sb ga gb ru co ma re, (ru, .inr (7, [.ref ra, .ref rb, .ref rc, .ref rd, .ref re1, .ref rf, .ref rg, .int z0, .ref rh, .ref ri, .int z1, .int z2, .int z3, .int z4, .int z5])), (rb, .inr (8, [.ref cb, .ref ce, .int ck]))]) [0, 1, 2] rfl
    have hD9 := hD.sub (ws' := [gm_oO h0 tx sb ga gb ru co ma re, (ru, .inr (7, [.ref ra, .ref rb, .ref rc, .ref rd, .ref re1, .ref rf, .ref rg, .int z0, .ref rh, .ref ri, .int z1, .int z2, .int z3, .int z4, .int z5])), (rb, .inr (8, [.ref cb, .ref ce, .int ck]))]) [0, 1, 2] (by decide) rfl
    exact W.iret (v := ck) hx hb hr (fun t ht hW => ⟨⟨ck, (), rfl, (if_neg c4).symm, by rw [ht]; exact hP9, va_K.moved hW.alike hK, hD9⟩, hS.F ht⟩) hS.2.2 gm_d_GM_nodes_21
