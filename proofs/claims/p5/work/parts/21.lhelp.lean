set_option maxHeartbeats 4000000 in
set_option maxRecDepth 100000 in
theorem gm_c_LW_compile_0 (l : Launch) (hst : l.stackTraces = false) (D : va_G) (cI cJ cC cZ : ClassId) (o0 : Nat) (h0 tx sb ga gb ru : Nat) (co ma re : Int32) (t0 j0 c0 h1 r0 q0 : Nat) (f : Nat → Int32) (q : Nat → Nat) (o1 p1 w1 z1 z2 z3 : Int32) (sz : Nat) : Met l gm_y_LW_compile (Cond.codeWith gm_y_LW_compile gm_b_LW_compile 3 (some .int) gm_h_LW_compile :: gm_W) { frames := 20, cells := 1, slots := 6, locals := 320 } (va_Pc [.ref h0, .ref o0] (fun U => U.heap.size = sz ∧ va_P D gm_cl [(h0, .inr (0, [.ref tx, .ref sb, .ref ga, .ref gb, .ref ru, .int co, .int ma, .int re])), (gb, .inr (2, [.ref t0, .ref j0, .ref c0, .ref h1])), (h1, .inr (6, [.ref tx, .ref t0, .ref r0, .int o1, .int p1, .int w1])), (tx, .inr (1, [.ref q0, .int (nI 0)])), (q0, .inl (cC, 50, .inl f)), (t0, .inr (3, [.ref (q 0), .ref (q 1), .ref (q 2), .ref (q 3), .ref (q 4), .ref (q 5), .ref (q 6), .ref (q 7), .ref (q 8), .ref (q 9), .ref (q 10), .int z1, .int z2, .int z3]))] U.heap ∧ va_K D gm_cl (gm_T cI cJ cC cZ) U ∧ va_D (fun _ => True) [(h0, .inr (0, [.ref tx, .ref sb, .ref ga, .ref gb, .ref ru, .int co, .int ma, .int re])), (gb, .inr (2, [.ref t0, .ref j0, .ref c0, .ref h1])), (h1, .inr (6, [.ref tx, .ref t0, .ref r0, .int o1, .int p1, .int w1])), (tx, .inr (1, [.ref q0, .int (nI 0)])), (q0, .inl (cC, 50, .inl f)), (t0, .inr (3, [.ref (q 0), .ref (q 1), .ref (q 2), .ref (q 3), .ref (q 4), .ref (q 5), .ref (q 6), .ref (q 7), .ref (q 8), .ref (q 9), .ref (q 10), .int z1, .int z2, .int z3]))] ∧ gm_E (va_A [(h0, .inr (0, [.ref tx, .ref sb, .ref ga, .ref gb, .ref ru, .int co, .int ma, .int re])), (gb, .inr (2, [.ref t0, .ref j0, .ref c0, .ref h1])), (h1, .inr (6, [.ref tx, .ref t0, .ref r0, .int o1, .int p1, .int w1])), (tx, .inr (1, [.ref q0, .int (nI 0)])), (q0, .inl (cC, 50, .inl f)), (t0, .inr (3, [.ref (q 0), .ref (q 1), .ref (q 2), .ref (q 3), .ref (q 4), .ref (q 5), .ref (q 6), .ref (q 7), .ref (q 8), .ref (q 9), .ref (q 10), .int z1, .int z2, .int z3]))] sz) U)) (va_Qi (fun r (_ : Unit) => r = 1) (fun _ t => gm_at D (va_A [(h0, .inr (0, [.ref tx, .ref sb, .ref ga, .ref gb, .ref ru, .int co, .int ma, .int re])), (gb, .inr (2, [.ref t0, .ref j0, .ref c0, .ref h1])), (h1, .inr (6, [.ref tx, .ref t0, .ref r0, .int o1, .int p1, .int w1])), (tx, .inr (1, [.ref q0, .int (nI 0)])), (q0, .inl (cC, 50, .inl f)), (t0, .inr (3, [.ref (q 0), .ref (q 1), .ref (q 2), .ref (q 3), .ref (q 4), .ref (q 5), .ref (q 6), .ref (q 7), .ref (q 8), .ref (q 9), .ref (q 10), .int z1, .int z2, .int z3]))] sz) [(h0, .inr (0, [.ref tx, .ref sb, .ref ga, .ref gb, .ref ru, .int co, .int ma, .int 0])), (gb, .inr (2, [.ref t0, .ref j0, .ref c0, .ref h1])), (h1, .inr (6, [.ref tx, .ref t0, .ref r0, .int 0, .int 0, .int 1])), (tx, .inr (1, [.ref q0, .int (nI 0)])), (q0, .inl (cC, 50, .inl f)), (t0, .inr (3, [.ref (q 0), .ref (q 1), .ref (q 2), .ref (q 3), .ref (q 4), .ref (q 5), .ref (q 6), .ref (q 7), .ref (q 8), .ref (q 9), .ref (q 10), .int 0, .int 0, .int 0]))] (gm_T cI cJ cC cZ) t) (va_A [(h0, .inr (0, [.ref tx, .ref sb, .ref ga, .ref gb, .ref ru, .int co, .int ma, .int re])), (gb, .inr (2, [.ref t0, .ref j0, .ref c0, .ref h1])), (h1, .inr (6, [.ref tx, .ref t0, .ref r0, .int o1, .int p1, .int w1])), (tx, .inr (1, [.ref q0, .int (nI 0)])), (q0, .inl (cC, 50, .inl f)), (t0, .inr (3, [.ref (q 0), .ref (q 1), .ref (q 2), .ref (q 3), .ref (q 4), .ref (q 5), .ref (q 6), .ref (q 7), .ref (q 8), .ref (q 9), .ref (q 10), .int z1, .int z2, .int z3]))] sz)) 1 6 (va_A [(h0, .inr (0, [.ref tx, .ref sb, .ref ga, .ref gb, .ref ru, .int co, .int ma, .int re])), (gb, .inr (2, [.ref t0, .ref j0, .ref c0, .ref h1])), (h1, .inr (6, [.ref tx, .ref t0, .ref r0, .int o1, .int p1, .int w1])), (tx, .inr (1, [.ref q0, .int (nI 0)])), (q0, .inl (cC, 50, .inl f)), (t0, .inr (3, [.ref (q 0), .ref (q 1), .ref (q 2), .ref (q 3), .ref (q 4), .ref (q 5), .ref (q 6), .ref (q 7), .ref (q 8), .ref (q 9), .ref (q 10), .int z1, .int z2, .int z3]))] sz) := by
  refine va_MetW (cc := gm_b_LW_compile) (maxL := 3) (ret := (some .int)) (hh := gm_h_LW_compile) (by decide) rfl ?_
  intro p e s m args below meth c s₁ B hml hv
  obtain ⟨rfl, hsz, hP, hK, hD0, hE⟩ := hv
  have hx := B.exec
  have hb := B.bytes
  have hr := B.returns
  have hlocks := B.notSynchronized
  have hw : ∀ w ∈ gm_W, w.before _ s = true := fun w h => atoms_spec B.pre w (List.mem_cons_of_mem _ h)
  have hown : s.vm.findClass gm_R_LW = some m.cls := findClass_of_methodNamed B.named
  have htb : c.exceptionTable.toList = tableOf gm_h_LW_compile := gm_tab B (hw _ gm_k_LW_compile)
  subst hsz
  have hD := hD0.self (sz := s.heap.size)
  generalize hAe : va_A [(h0, .inr (0, [.ref tx, .ref sb, .ref ga, .ref gb, .ref ru, .int co, .int ma, .int re])), (gb, .inr (2, [.ref t0, .ref j0, .ref c0, .ref h1])), (h1, .inr (6, [.ref tx, .ref t0, .ref r0, .int o1, .int p1, .int w1])), (tx, .inr (1, [.ref q0, .int (nI 0)])), (q0, .inl (cC, 50, .inl f)), (t0, .inr (3, [.ref (q 0), .ref (q 1), .ref (q 2), .ref (q 3), .ref (q 4), .ref (q 5), .ref (q 6), .ref (q 7), .ref (q 8), .ref (q 9), .ref (q 10), .int z1, .int z2, .int z3]))] s.heap.size = A at hD hE ⊢
  have hA : ∀ q : Nat, s.heap.size ≤ q → A q := fun q h => by rw [← hAe]; exact Or.inr h
  have hS : va_S A s.heap s.heap [] := va_S.rf
  have hl := lv_entry ([.ref h0, .ref o0]) (n := 3) (Nat.le_of_ble_eq_true rfl)
  rw [lg_entry_eq]
  generalize (lg_sl ([.ref h0, .ref o0]) ++ List.replicate (3 - (lg_sl ([.ref h0, .ref o0])).length) Slot.unset).toArray = ls at hl ⊢
  have hl : lv_has ls 3 [(0, .ref h0), (1, .ref o0)] := hl
  refine lv_aload_n hx hb gm_d_LW_compile_0 rfl (lv_at hl 1 rfl) ?_
  refine lv_iconst (v := 0) hx hb gm_d_LW_compile_1 (by decide) ?_
  refine lv_aload_n hx hb gm_d_LW_compile_2 rfl (lv_at hl 0 rfl) ?_
  have hPc := hP.sub (ws' := [(h0, .inr (0, [.ref tx, .ref sb, .ref ga, .ref gb, .ref ru, .int co, .int ma, .int re])), (gb, .inr (2, [.ref t0, .ref j0, .ref c0, .ref h1])), (h1, .inr (6, [.ref tx, .ref t0, .ref r0, .int o1, .int p1, .int w1])), (tx, .inr (1, [.ref q0, .int (nI 0)])), (q0, .inl (cC, 50, .inl f)), (t0, .inr (3, [.ref (q 0), .ref (q 1), .ref (q 2), .ref (q 3), .ref (q 4), .ref (q 5), .ref (q 6), .ref (q 7), .ref (q 8), .ref (q 9), .ref (q 10), .int z1, .int z2, .int z3]))]) [0, 1, 2, 3, 4, 5] rfl
  have hDc := hD.sub (ws' := [(h0, .inr (0, [.ref tx, .ref sb, .ref ga, .ref gb, .ref ru, .int co, .int ma, .int re])), (gb, .inr (2, [.ref t0, .ref j0, .ref c0, .ref h1])), (h1, .inr (6, [.ref tx, .ref t0, .ref r0, .int o1, .int p1, .int w1])), (tx, .inr (1, [.ref q0, .int (nI 0)])), (q0, .inl (cC, 50, .inl f)), (t0, .inr (3, [.ref (q 0), .ref (q 1), .ref (q 2), .ref (q 3), .ref (q 4), .ref (q 5), .ref (q 6), .ref (q 7), .ref (q 8), .ref (q 9), .ref (q 10), .int z1, .int z2, .int z3]))]) [0, 1, 2, 3, 4, 5] (by decide) rfl
  have hFc := va_free (wc := [(h0, .inr (0, [.ref tx, .ref sb, .ref ga, .ref gb, .ref ru, .int co, .int ma, .int re])), (gb, .inr (2, [.ref t0, .ref j0, .ref c0, .ref h1])), (h1, .inr (6, [.ref tx, .ref t0, .ref r0, .int o1, .int p1, .int w1])), (tx, .inr (1, [.ref q0, .int (nI 0)])), (q0, .inl (cC, 50, .inl f)), (t0, .inr (3, [.ref (q 0), .ref (q 1), .ref (q 2), .ref (q 3), .ref (q 4), .ref (q 5), .ref (q 6), .ref (q 7), .ref (q 8), .ref (q 9), .ref (q 10), .int z1, .int z2, .int z3]))]) hD hS hA [0, 1, 2, 3, 4, 5] rfl
  refine gm_callXi (gm_runX (As := []) (rest := [.int 0, .ref o0]) ⟨hx, hb, hml, hown, hw⟩ (gm_x_GM_compile_0 l hst D cI cJ cC cZ h0 tx sb ga gb ru co ma re t0 j0 c0 h1 r0 q0 f q o1 p1 w1 z1 z2 z3 s.heap.size) (cwV 0 hw (gm_gV gm_l_LW_7 gm_q_GM_compile gm_s_GM_compile gm_i_GM (gm_gd gm_k_GM_compile)) rfl rfl rfl (by decide +kernel) ⟨Nat.le_of_ble_eq_true rfl, Nat.le_of_ble_eq_true rfl⟩) ⟨fun a U g mk q => by obtain ⟨q0, q1, qP, qK, qD, qE⟩ := q; exact ⟨q0, q1, qP, va_K.moved (u := U) (U := U.calling g mk a) (Vm.Alike.refl U.vm) qK, qD, gm_E.same (u := U) (U := U.calling g mk a) rfl rfl qE⟩, va_recv hK hP (ci := 0) rfl (q0 := 0) rfl, fun U hU hW => ⟨rfl, by rw [hU], by rw [hU]; exact hPc, va_K.moved hW.alike hK, hDc.weaken (fun _ _ _ _ => trivial), gm_E.go hS hU hW hFc hE⟩⟩ rfl rfl hl.1 rfl (lv_room (Nat.le_of_ble_eq_true rfl)) gm_d_LW_compile_3 ⟨Nat.le_of_ble_eq_true rfl, Nat.le_of_ble_eq_true rfl⟩) hS (fun q _ h => hFc q h) hFc (fun r u t H1 locs ht hvm hpo hB hz1 hk1 hS => hpo.elim) (fun E ce q9 t H1 locs ht hvm hXB hz1 hk1 hS hce hcv hcl => ?_)
  obtain ⟨rfl, hP1, -, hD1⟩ := hXB
  rw [ht] at hP1
  have hP1 : va_P D gm_cl [(h0, .inr (0, [.ref tx, .ref sb, .ref ga, .ref gb, .ref ru, .int co, .int ma, .int 0])), (gb, .inr (2, [.ref t0, .ref j0, .ref c0, .ref h1])), (h1, .inr (6, [.ref tx, .ref t0, .ref r0, .int 0, .int 0, .int 1])), (tx, .inr (1, [.ref q0, .int (nI 0)])), (q0, .inl (cC, 50, .inl f)), (t0, .inr (3, [.ref (q 0), .ref (q 1), .ref (q 2), .ref (q 3), .ref (q 4), .ref (q 5), .ref (q 6), .ref (q 7), .ref (q 8), .ref (q 9), .ref (q 10), .int 0, .int 0, .int 0]))] H1 := hP1
  have hD1 : va_D (va_A [(h0, .inr (0, [.ref tx, .ref sb, .ref ga, .ref gb, .ref ru, .int co, .int ma, .int re])), (gb, .inr (2, [.ref t0, .ref j0, .ref c0, .ref h1])), (h1, .inr (6, [.ref tx, .ref t0, .ref r0, .int o1, .int p1, .int w1])), (tx, .inr (1, [.ref q0, .int (nI 0)])), (q0, .inl (cC, 50, .inl f)), (t0, .inr (3, [.ref (q 0), .ref (q 1), .ref (q 2), .ref (q 3), .ref (q 4), .ref (q 5), .ref (q 6), .ref (q 7), .ref (q 8), .ref (q 9), .ref (q 10), .int z1, .int z2, .int z3]))] s.heap.size) [(h0, .inr (0, [.ref tx, .ref sb, .ref ga, .ref gb, .ref ru, .int co, .int ma, .int 0])), (gb, .inr (2, [.ref t0, .ref j0, .ref c0, .ref h1])), (h1, .inr (6, [.ref tx, .ref t0, .ref r0, .int 0, .int 0, .int 1])), (tx, .inr (1, [.ref q0, .int (nI 0)])), (q0, .inl (cC, 50, .inl f)), (t0, .inr (3, [.ref (q 0), .ref (q 1), .ref (q 2), .ref (q 3), .ref (q 4), .ref (q 5), .ref (q 6), .ref (q 7), .ref (q 8), .ref (q 9), .ref (q 10), .int 0, .int 0, .int 0]))] := hD1
  obtain ⟨hP, hD⟩ := va_join (wr := []) hP hD [0, 1, 2, 3, 4, 5] [] rfl rfl (by decide) (by decide) hk1 hFc hP1 hD1
  generalize H1 = H at hP hS hce ⊢
  have hP : va_P D gm_cl [(h0, .inr (0, [.ref tx, .ref sb, .ref ga, .ref gb, .ref ru, .int co, .int ma, .int 0])), (gb, .inr (2, [.ref t0, .ref j0, .ref c0, .ref h1])), (h1, .inr (6, [.ref tx, .ref t0, .ref r0, .int 0, .int 0, .int 1])), (tx, .inr (1, [.ref q0, .int (nI 0)])), (q0, .inl (cC, 50, .inl f)), (t0, .inr (3, [.ref (q 0), .ref (q 1), .ref (q 2), .ref (q 3), .ref (q 4), .ref (q 5), .ref (q 6), .ref (q 7), .ref (q 8), .ref (q 9), .ref (q 10), .int 0, .int 0, .int 0]))] H := hP
  have hD : va_D A [(h0, .inr (0, [.ref tx, .ref sb, .ref ga, .ref gb, .ref ru, .int co, .int ma, .int 0])), (gb, .inr (2, [.ref t0, .ref j0, .ref c0, .ref h1])), (h1, .inr (6, [.ref tx, .ref t0, .ref r0, .int 0, .int 0, .int 1])), (tx, .inr (1, [.ref q0, .int (nI 0)])), (q0, .inl (cC, 50, .inl f)), (t0, .inr (3, [.ref (q 0), .ref (q 1), .ref (q 2), .ref (q 3), .ref (q 4), .ref (q 5), .ref (q 6), .ref (q 7), .ref (q 8), .ref (q 9), .ref (q 10), .int 0, .int 0, .int 0]))] := hD
  refine gm_catch (name := gm_xIAE) hown [] ⟨0, 8, 11, 13⟩ [⟨0, 8, 14, 15⟩, ⟨0, 8, 17, 17⟩] (htb.trans rfl) (fun z hz => absurd hz List.not_mem_nil) rfl (by decide) (hw _ gm_l_LW_13) (hE.1.use rfl gm_ca_IAE) hce hcv hcl ?_
  refine W.eq (g2 := F0 m 11 ls [.ref q9]) rfl ?_
  refine W.widen (k := 1) (n := 6) (Nat.le_of_ble_eq_true rfl) (Nat.le_of_ble_eq_true rfl) ?_
  refine lv_astore_n (lv' := [(2, .ref q9), (0, .ref h0), (1, .ref o0)]) hx hb gm_d_LW_compile_11 rfl hl (Nat.le_of_ble_eq_true rfl) rfl (fun ls hl => ?_)
  refine lv_iconst (v := 1) hx hb gm_d_LW_compile_12 (by decide) ?_
  have hP9 := hP.sub (ws' := [(h0, .inr (0, [.ref tx, .ref sb, .ref ga, .ref gb, .ref ru, .int co, .int ma, .int 0])), (gb, .inr (2, [.ref t0, .ref j0, .ref c0, .ref h1])), (h1, .inr (6, [.ref tx, .ref t0, .ref r0, .int 0, .int 0, .int 1])), (tx, .inr (1, [.ref q0, .int (nI 0)])), (q0, .inl (cC, 50, .inl f)), (t0, .inr (3, [.ref (q 0), .ref (q 1), .ref (q 2), .ref (q 3), .ref (q 4), .ref (q 5), .ref (q 6), .ref (q 7), .ref (q 8), .ref (q 9), .ref (q 10), .int 0, .int 0, .int 0]))]) [0, 1, 2, 3, 4, 5] rfl
  have hD9 := hD.sub (ws' := [(h0, .inr (0, [.ref tx, .ref sb, .ref ga, .ref gb, .ref ru, .int co, .int ma, .int 0])), (gb, .inr (2, [.ref t0, .ref j0, .ref c0, .ref h1])), (h1, .inr (6, [.ref tx, .ref t0, .ref r0, .int 0, .int 0, .int 1])), (tx, .inr (1, [.ref q0, .int (nI 0)])), (q0, .inl (cC, 50, .inl f)), (t0, .inr (3, [.ref (q 0), .ref (q 1), .ref (q 2), .ref (q 3), .ref (q 4), .ref (q 5), .ref (q 6), .ref (q 7), .ref (q 8), .ref (q 9), .ref (q 10), .int 0, .int 0, .int 0]))]) [0, 1, 2, 3, 4, 5] (by decide) rfl
  exact W.iret (v := 1) hx hb hr (fun t ht hW => ⟨⟨1, (), rfl, rfl, by rw [ht]; exact hP9, va_K.moved hW.alike hK, hD9⟩, hS.F ht⟩) hS.2.2 gm_d_LW_compile_13
set_option maxHeartbeats 4000000 in
set_option maxRecDepth 100000 in
theorem gm_c_LW_empty_0 (l : Launch) (hst : l.stackTraces = false) (D : va_G) (cI cJ cC cZ : ClassId) (o0 : Nat) (h0 tx sb ga gb ru : Nat) (ma re : Int32) (x : Int32) (sz : Nat) : Met l gm_y_LW_empty (Cond.codeWith gm_y_LW_empty gm_b_LW_empty 4 (some .int) gm_h_LW_empty :: gm_W) { frames := 12, cells := 1, slots := 6, locals := 192 } (va_Pc [.ref h0, .int x, .ref o0] (fun U => U.heap.size = sz ∧ va_P D gm_cl [(h0, .inr (0, [.ref tx, .ref sb, .ref ga, .ref gb, .ref ru, .int 0, .int ma, .int re]))] U.heap ∧ va_K D gm_cl (gm_T cI cJ cC cZ) U ∧ va_D (fun _ => True) [(h0, .inr (0, [.ref tx, .ref sb, .ref ga, .ref gb, .ref ru, .int 0, .int ma, .int re]))] ∧ gm_E (va_A [(h0, .inr (0, [.ref tx, .ref sb, .ref ga, .ref gb, .ref ru, .int 0, .int ma, .int re]))] sz) U)) (va_Qi (fun r (_ : Unit) => r = 1) (fun _ t => gm_at D (va_A [(h0, .inr (0, [.ref tx, .ref sb, .ref ga, .ref gb, .ref ru, .int 0, .int ma, .int re]))] sz) [(h0, .inr (0, [.ref tx, .ref sb, .ref ga, .ref gb, .ref ru, .int 0, .int ma, .int re]))] (gm_T cI cJ cC cZ) t) (va_A [(h0, .inr (0, [.ref tx, .ref sb, .ref ga, .ref gb, .ref ru, .int 0, .int ma, .int re]))] sz)) 1 6 (va_A [(h0, .inr (0, [.ref tx, .ref sb, .ref ga, .ref gb, .ref ru, .int 0, .int ma, .int re]))] sz) := by
  refine va_MetW (cc := gm_b_LW_empty) (maxL := 4) (ret := (some .int)) (hh := gm_h_LW_empty) (by decide) rfl ?_
  intro p e s m args below meth c s₁ B hml hv
  obtain ⟨rfl, hsz, hP, hK, hD0, hE⟩ := hv
  have hx := B.exec
  have hb := B.bytes
  have hr := B.returns
  have hlocks := B.notSynchronized
  have hw : ∀ w ∈ gm_W, w.before _ s = true := fun w h => atoms_spec B.pre w (List.mem_cons_of_mem _ h)
  have hown : s.vm.findClass gm_R_LW = some m.cls := findClass_of_methodNamed B.named
  have htb : c.exceptionTable.toList = tableOf gm_h_LW_empty := gm_tab B (hw _ gm_k_LW_empty)
  subst hsz
  have hD := hD0.self (sz := s.heap.size)
  generalize hAe : va_A [(h0, .inr (0, [.ref tx, .ref sb, .ref ga, .ref gb, .ref ru, .int 0, .int ma, .int re]))] s.heap.size = A at hD hE ⊢
  have hA : ∀ q : Nat, s.heap.size ≤ q → A q := fun q h => by rw [← hAe]; exact Or.inr h
  have hS : va_S A s.heap s.heap [] := va_S.rf
  have hl := lv_entry ([.ref h0, .int x, .ref o0]) (n := 4) (Nat.le_of_ble_eq_true rfl)
  rw [lg_entry_eq]
  generalize (lg_sl ([.ref h0, .int x, .ref o0]) ++ List.replicate (4 - (lg_sl ([.ref h0, .int x, .ref o0])).length) Slot.unset).toArray = ls at hl ⊢
  have hl : lv_has ls 4 [(0, .ref h0), (1, .int x), (2, .ref o0)] := hl
  refine lv_aload_n hx hb gm_d_LW_empty_0 rfl (lv_at hl 2 rfl) ?_
  refine lv_iconst (v := 0) hx hb gm_d_LW_empty_1 (by decide) ?_
  refine lv_aload_n hx hb gm_d_LW_empty_2 rfl (lv_at hl 0 rfl) ?_
  refine lv_iload_n hx hb gm_d_LW_empty_3 rfl (lv_at hl 1 rfl) ?_
  have hPc := hP.sub (ws' := [(h0, .inr (0, [.ref tx, .ref sb, .ref ga, .ref gb, .ref ru, .int 0, .int ma, .int re]))]) [0] rfl
  have hDc := hD.sub (ws' := [(h0, .inr (0, [.ref tx, .ref sb, .ref ga, .ref gb, .ref ru, .int 0, .int ma, .int re]))]) [0] (by decide) rfl
  have hFc := va_free (wc := [(h0, .inr (0, [.ref tx, .ref sb, .ref ga, .ref gb, .ref ru, .int 0, .int ma, .int re]))]) hD hS hA [0] rfl
  refine gm_callXi (gm_runX (As := [.int x]) (rest := [.int 0, .ref o0]) ⟨hx, hb, hml, hown, hw⟩ (gm_x_GM_empty_0 l hst D cI cJ cC cZ h0 tx sb ga gb ru ma re x s.heap.size) (cwV 1 hw (gm_gV gm_l_LW_19 gm_q_GM_empty gm_s_GM_empty gm_i_GM (gm_gd gm_k_GM_empty)) rfl rfl rfl (by decide +kernel) ⟨Nat.le_of_ble_eq_true rfl, Nat.le_of_ble_eq_true rfl⟩) ⟨fun a U g mk q => by obtain ⟨q0, q1, qP, qK, qD, qE⟩ := q; exact ⟨q0, q1, qP, va_K.moved (u := U) (U := U.calling g mk a) (Vm.Alike.refl U.vm) qK, qD, gm_E.same (u := U) (U := U.calling g mk a) rfl rfl qE⟩, va_recv hK hP (ci := 0) rfl (q0 := 0) rfl, fun U hU hW => ⟨rfl, by rw [hU], by rw [hU]; exact hPc, va_K.moved hW.alike hK, hDc.weaken (fun _ _ _ _ => trivial), gm_E.go hS hU hW hFc hE⟩⟩ rfl rfl hl.1 rfl (lv_room (Nat.le_of_ble_eq_true rfl)) gm_d_LW_empty_4 ⟨Nat.le_of_ble_eq_true rfl, Nat.le_of_ble_eq_true rfl⟩) hS (fun q _ h => hFc q h) hFc (fun r u t H1 locs ht hvm hpo hB hz1 hk1 hS => hpo.elim) (fun E ce q9 t H1 locs ht hvm hXB hz1 hk1 hS hce hcv hcl => ?_)
  obtain ⟨rfl, hP1, -, hD1⟩ := hXB
  rw [ht] at hP1
  have hP1 : va_P D gm_cl [(h0, .inr (0, [.ref tx, .ref sb, .ref ga, .ref gb, .ref ru, .int 0, .int ma, .int re]))] H1 := hP1
  have hD1 : va_D (va_A [(h0, .inr (0, [.ref tx, .ref sb, .ref ga, .ref gb, .ref ru, .int 0, .int ma, .int re]))] s.heap.size) [(h0, .inr (0, [.ref tx, .ref sb, .ref ga, .ref gb, .ref ru, .int 0, .int ma, .int re]))] := hD1
  obtain ⟨hP, hD⟩ := va_join (wr := []) hP hD [0] [] rfl rfl (by decide) (by decide) hk1 hFc hP1 hD1
  generalize H1 = H at hP hS hce ⊢
  have hP : va_P D gm_cl [(h0, .inr (0, [.ref tx, .ref sb, .ref ga, .ref gb, .ref ru, .int 0, .int ma, .int re]))] H := hP
  have hD : va_D A [(h0, .inr (0, [.ref tx, .ref sb, .ref ga, .ref gb, .ref ru, .int 0, .int ma, .int re]))] := hD
  refine gm_catch (name := gm_xISE) hown [] ⟨0, 16, 19, 15⟩ [⟨0, 16, 22, 23⟩] (htb.trans rfl) (fun z hz => absurd hz List.not_mem_nil) rfl (by decide) (hw _ gm_l_LW_15) (hE.1.use rfl gm_ca_ISE) hce hcv hcl ?_
  refine W.eq (g2 := F0 m 19 ls [.ref q9]) rfl ?_
  refine W.widen (k := 1) (n := 6) (Nat.le_of_ble_eq_true rfl) (Nat.le_of_ble_eq_true rfl) ?_
  refine lv_astore_n (lv' := [(3, .ref q9), (0, .ref h0), (1, .int x), (2, .ref o0)]) hx hb gm_d_LW_empty_19 rfl hl (Nat.le_of_ble_eq_true rfl) rfl (fun ls hl => ?_)
  refine lv_iconst (v := 1) hx hb gm_d_LW_empty_20 (by decide) ?_
  have hP9 := hP.sub (ws' := [(h0, .inr (0, [.ref tx, .ref sb, .ref ga, .ref gb, .ref ru, .int 0, .int ma, .int re]))]) [0] rfl
  have hD9 := hD.sub (ws' := [(h0, .inr (0, [.ref tx, .ref sb, .ref ga, .ref gb, .ref ru, .int 0, .int ma, .int re]))]) [0] (by decide) rfl
  exact W.iret (v := 1) hx hb hr (fun t ht hW => ⟨⟨1, (), rfl, rfl, by rw [ht]; exact hP9, va_K.moved hW.alike hK, hD9⟩, hS.F ht⟩) hS.2.2 gm_d_LW_empty_21
set_option maxHeartbeats 4000000 in
set_option maxRecDepth 100000 in
theorem gm_c_LW_head_0 (l : Launch) (hst : l.stackTraces = false) (D : va_G) (cI cJ cC cZ : ClassId) (o0 : Nat) (h0 tx sb ga gb ru : Nat) (ma re : Int32) (x y : Int32) (sz : Nat) : Met l gm_y_LW_head (Cond.codeWith gm_y_LW_head gm_b_LW_head 5 (some .int) gm_h_LW_head :: gm_W) { frames := 12, cells := 1, slots := 6, locals := 192 } (va_Pc [.ref h0, .int x, .int y, .ref o0] (fun U => U.heap.size = sz ∧ va_P D gm_cl [(h0, .inr (0, [.ref tx, .ref sb, .ref ga, .ref gb, .ref ru, .int 0, .int ma, .int re]))] U.heap ∧ va_K D gm_cl (gm_T cI cJ cC cZ) U ∧ va_D (fun _ => True) [(h0, .inr (0, [.ref tx, .ref sb, .ref ga, .ref gb, .ref ru, .int 0, .int ma, .int re]))] ∧ gm_E (va_A [(h0, .inr (0, [.ref tx, .ref sb, .ref ga, .ref gb, .ref ru, .int 0, .int ma, .int re]))] sz) U)) (va_Qi (fun r (_ : Unit) => r = 1) (fun _ t => gm_at D (va_A [(h0, .inr (0, [.ref tx, .ref sb, .ref ga, .ref gb, .ref ru, .int 0, .int ma, .int re]))] sz) [(h0, .inr (0, [.ref tx, .ref sb, .ref ga, .ref gb, .ref ru, .int 0, .int ma, .int re]))] (gm_T cI cJ cC cZ) t) (va_A [(h0, .inr (0, [.ref tx, .ref sb, .ref ga, .ref gb, .ref ru, .int 0, .int ma, .int re]))] sz)) 1 6 (va_A [(h0, .inr (0, [.ref tx, .ref sb, .ref ga, .ref gb, .ref ru, .int 0, .int ma, .int re]))] sz) := by
  refine va_MetW (cc := gm_b_LW_head) (maxL := 5) (ret := (some .int)) (hh := gm_h_LW_head) (by decide) rfl ?_
  intro p e s m args below meth c s₁ B hml hv
  obtain ⟨rfl, hsz, hP, hK, hD0, hE⟩ := hv
  have hx := B.exec
  have hb := B.bytes
  have hr := B.returns
  have hlocks := B.notSynchronized
  have hw : ∀ w ∈ gm_W, w.before _ s = true := fun w h => atoms_spec B.pre w (List.mem_cons_of_mem _ h)
  have hown : s.vm.findClass gm_R_LW = some m.cls := findClass_of_methodNamed B.named
  have htb : c.exceptionTable.toList = tableOf gm_h_LW_head := gm_tab B (hw _ gm_k_LW_head)
  subst hsz
  have hD := hD0.self (sz := s.heap.size)
  generalize hAe : va_A [(h0, .inr (0, [.ref tx, .ref sb, .ref ga, .ref gb, .ref ru, .int 0, .int ma, .int re]))] s.heap.size = A at hD hE ⊢
  have hA : ∀ q : Nat, s.heap.size ≤ q → A q := fun q h => by rw [← hAe]; exact Or.inr h
  have hS : va_S A s.heap s.heap [] := va_S.rf
  have hl := lv_entry ([.ref h0, .int x, .int y, .ref o0]) (n := 5) (Nat.le_of_ble_eq_true rfl)
  rw [lg_entry_eq]
  generalize (lg_sl ([.ref h0, .int x, .int y, .ref o0]) ++ List.replicate (5 - (lg_sl ([.ref h0, .int x, .int y, .ref o0])).length) Slot.unset).toArray = ls at hl ⊢
  have hl : lv_has ls 5 [(0, .ref h0), (1, .int x), (2, .int y), (3, .ref o0)] := hl
  refine lv_aload_n hx hb gm_d_LW_head_0 rfl (lv_at hl 3 rfl) ?_
  refine lv_iconst (v := 0) hx hb gm_d_LW_head_1 (by decide) ?_
  refine lv_aload_n hx hb gm_d_LW_head_2 rfl (lv_at hl 0 rfl) ?_
  refine lv_iload_n hx hb gm_d_LW_head_3 rfl (lv_at hl 1 rfl) ?_
  refine lv_iload_n hx hb gm_d_LW_head_4 rfl (lv_at hl 2 rfl) ?_
  have hPc := hP.sub (ws' := [(h0, .inr (0, [.ref tx, .ref sb, .ref ga, .ref gb, .ref ru, .int 0, .int ma, .int re]))]) [0] rfl
  have hDc := hD.sub (ws' := [(h0, .inr (0, [.ref tx, .ref sb, .ref ga, .ref gb, .ref ru, .int 0, .int ma, .int re]))]) [0] (by decide) rfl
  have hFc := va_free (wc := [(h0, .inr (0, [.ref tx, .ref sb, .ref ga, .ref gb, .ref ru, .int 0, .int ma, .int re]))]) hD hS hA [0] rfl
  refine gm_callXi (gm_runX (As := [.int x, .int y]) (rest := [.int 0, .ref o0]) ⟨hx, hb, hml, hown, hw⟩ (gm_x_GM_head_0 l hst D cI cJ cC cZ h0 tx sb ga gb ru ma re x y s.heap.size) (cwV 2 hw (gm_gV gm_l_LW_25 gm_q_GM_head gm_s_GM_head gm_i_GM (gm_gd gm_k_GM_head)) rfl rfl rfl (by decide +kernel) ⟨Nat.le_of_ble_eq_true rfl, Nat.le_of_ble_eq_true rfl⟩) ⟨fun a U g mk q => by obtain ⟨q0, q1, qP, qK, qD, qE⟩ := q; exact ⟨q0, q1, qP, va_K.moved (u := U) (U := U.calling g mk a) (Vm.Alike.refl U.vm) qK, qD, gm_E.same (u := U) (U := U.calling g mk a) rfl rfl qE⟩, va_recv hK hP (ci := 0) rfl (q0 := 0) rfl, fun U hU hW => ⟨rfl, by rw [hU], by rw [hU]; exact hPc, va_K.moved hW.alike hK, hDc.weaken (fun _ _ _ _ => trivial), gm_E.go hS hU hW hFc hE⟩⟩ rfl rfl hl.1 rfl (lv_room (Nat.le_of_ble_eq_true rfl)) gm_d_LW_head_5 ⟨Nat.le_of_ble_eq_true rfl, Nat.le_of_ble_eq_true rfl⟩) hS (fun q _ h => hFc q h) hFc (fun r u t H1 locs ht hvm hpo hB hz1 hk1 hS => hpo.elim) (fun E ce q9 t H1 locs ht hvm hXB hz1 hk1 hS hce hcv hcl => ?_)
  obtain ⟨rfl, hP1, -, hD1⟩ := hXB
  rw [ht] at hP1
  have hP1 : va_P D gm_cl [(h0, .inr (0, [.ref tx, .ref sb, .ref ga, .ref gb, .ref ru, .int 0, .int ma, .int re]))] H1 := hP1
  have hD1 : va_D (va_A [(h0, .inr (0, [.ref tx, .ref sb, .ref ga, .ref gb, .ref ru, .int 0, .int ma, .int re]))] s.heap.size) [(h0, .inr (0, [.ref tx, .ref sb, .ref ga, .ref gb, .ref ru, .int 0, .int ma, .int re]))] := hD1
  obtain ⟨hP, hD⟩ := va_join (wr := []) hP hD [0] [] rfl rfl (by decide) (by decide) hk1 hFc hP1 hD1
  generalize H1 = H at hP hS hce ⊢
  have hP : va_P D gm_cl [(h0, .inr (0, [.ref tx, .ref sb, .ref ga, .ref gb, .ref ru, .int 0, .int ma, .int re]))] H := hP
  have hD : va_D A [(h0, .inr (0, [.ref tx, .ref sb, .ref ga, .ref gb, .ref ru, .int 0, .int ma, .int re]))] := hD
  refine gm_catch (name := gm_xISE) hown [] ⟨0, 17, 20, 15⟩ [⟨0, 17, 24, 23⟩] (htb.trans rfl) (fun z hz => absurd hz List.not_mem_nil) rfl (by decide) (hw _ gm_l_LW_15) (hE.1.use rfl gm_ca_ISE) hce hcv hcl ?_
  refine W.eq (g2 := F0 m 20 ls [.ref q9]) rfl ?_
  refine W.widen (k := 1) (n := 6) (Nat.le_of_ble_eq_true rfl) (Nat.le_of_ble_eq_true rfl) ?_
  refine lv_astore (lv' := [(4, .ref q9), (0, .ref h0), (1, .int x), (2, .int y), (3, .ref o0)]) hx hb gm_d_LW_head_20 hl (Nat.le_of_ble_eq_true rfl) rfl (fun ls hl => ?_)
  refine lv_iconst (v := 1) hx hb gm_d_LW_head_22 (by decide) ?_
  have hP9 := hP.sub (ws' := [(h0, .inr (0, [.ref tx, .ref sb, .ref ga, .ref gb, .ref ru, .int 0, .int ma, .int re]))]) [0] rfl
  have hD9 := hD.sub (ws' := [(h0, .inr (0, [.ref tx, .ref sb, .ref ga, .ref gb, .ref ru, .int 0, .int ma, .int re]))]) [0] (by decide) rfl
  exact W.iret (v := 1) hx hb hr (fun t ht hW => ⟨⟨1, (), rfl, rfl, by rw [ht]; exact hP9, va_K.moved hW.alike hK, hD9⟩, hS.F ht⟩) hS.2.2 gm_d_LW_head_23
set_option maxHeartbeats 4000000 in
set_option maxRecDepth 100000 in
theorem gm_c_LW_match_0 (l : Launch) (hst : l.stackTraces = false) (D : va_G) (cI cJ cC cZ : ClassId) (o0 : Nat) (h0 tx sb ga gb ru : Nat) (ma re : Int32) (x : Int32) (sz : Nat) : Met l gm_y_LW_match (Cond.codeWith gm_y_LW_match gm_b_LW_match 4 (some .int) gm_h_LW_match :: gm_W) { frames := 12, cells := 1, slots := 6, locals := 192 } (va_Pc [.ref h0, .int x, .ref o0] (fun U => U.heap.size = sz ∧ va_P D gm_cl [(h0, .inr (0, [.ref tx, .ref sb, .ref ga, .ref gb, .ref ru, .int 0, .int ma, .int re]))] U.heap ∧ va_K D gm_cl (gm_T cI cJ cC cZ) U ∧ va_D (fun _ => True) [(h0, .inr (0, [.ref tx, .ref sb, .ref ga, .ref gb, .ref ru, .int 0, .int ma, .int re]))] ∧ gm_E (va_A [(h0, .inr (0, [.ref tx, .ref sb, .ref ga, .ref gb, .ref ru, .int 0, .int ma, .int re]))] sz) U)) (va_Qi (fun r (_ : Unit) => r = 1) (fun _ t => gm_at D (va_A [(h0, .inr (0, [.ref tx, .ref sb, .ref ga, .ref gb, .ref ru, .int 0, .int ma, .int re]))] sz) [(h0, .inr (0, [.ref tx, .ref sb, .ref ga, .ref gb, .ref ru, .int 0, .int ma, .int re]))] (gm_T cI cJ cC cZ) t) (va_A [(h0, .inr (0, [.ref tx, .ref sb, .ref ga, .ref gb, .ref ru, .int 0, .int ma, .int re]))] sz)) 1 6 (va_A [(h0, .inr (0, [.ref tx, .ref sb, .ref ga, .ref gb, .ref ru, .int 0, .int ma, .int re]))] sz) := by
  refine va_MetW (cc := gm_b_LW_match) (maxL := 4) (ret := (some .int)) (hh := gm_h_LW_match) (by decide) rfl ?_
  intro p e s m args below meth c s₁ B hml hv
  obtain ⟨rfl, hsz, hP, hK, hD0, hE⟩ := hv
  have hx := B.exec
  have hb := B.bytes
  have hr := B.returns
  have hlocks := B.notSynchronized
  have hw : ∀ w ∈ gm_W, w.before _ s = true := fun w h => atoms_spec B.pre w (List.mem_cons_of_mem _ h)
  have hown : s.vm.findClass gm_R_LW = some m.cls := findClass_of_methodNamed B.named
  have htb : c.exceptionTable.toList = tableOf gm_h_LW_match := gm_tab B (hw _ gm_k_LW_match)
  subst hsz
  have hD := hD0.self (sz := s.heap.size)
  generalize hAe : va_A [(h0, .inr (0, [.ref tx, .ref sb, .ref ga, .ref gb, .ref ru, .int 0, .int ma, .int re]))] s.heap.size = A at hD hE ⊢
  have hA : ∀ q : Nat, s.heap.size ≤ q → A q := fun q h => by rw [← hAe]; exact Or.inr h
  have hS : va_S A s.heap s.heap [] := va_S.rf
  have hl := lv_entry ([.ref h0, .int x, .ref o0]) (n := 4) (Nat.le_of_ble_eq_true rfl)
  rw [lg_entry_eq]
  generalize (lg_sl ([.ref h0, .int x, .ref o0]) ++ List.replicate (4 - (lg_sl ([.ref h0, .int x, .ref o0])).length) Slot.unset).toArray = ls at hl ⊢
  have hl : lv_has ls 4 [(0, .ref h0), (1, .int x), (2, .ref o0)] := hl
  refine lv_aload_n hx hb gm_d_LW_match_0 rfl (lv_at hl 2 rfl) ?_
  refine lv_iconst (v := 0) hx hb gm_d_LW_match_1 (by decide) ?_
  refine lv_aload_n hx hb gm_d_LW_match_2 rfl (lv_at hl 0 rfl) ?_
  refine lv_iload_n hx hb gm_d_LW_match_3 rfl (lv_at hl 1 rfl) ?_
  have hPc := hP.sub (ws' := [(h0, .inr (0, [.ref tx, .ref sb, .ref ga, .ref gb, .ref ru, .int 0, .int ma, .int re]))]) [0] rfl
  have hDc := hD.sub (ws' := [(h0, .inr (0, [.ref tx, .ref sb, .ref ga, .ref gb, .ref ru, .int 0, .int ma, .int re]))]) [0] (by decide) rfl
  have hFc := va_free (wc := [(h0, .inr (0, [.ref tx, .ref sb, .ref ga, .ref gb, .ref ru, .int 0, .int ma, .int re]))]) hD hS hA [0] rfl
  refine gm_callXi (gm_runX (As := [.int x]) (rest := [.int 0, .ref o0]) ⟨hx, hb, hml, hown, hw⟩ (gm_x_GM_match_0 l hst D cI cJ cC cZ h0 tx sb ga gb ru ma re x s.heap.size) (cwV 1 hw (gm_gV gm_l_LW_29 gm_q_GM_match gm_s_GM_match gm_i_GM (gm_gd gm_k_GM_match)) rfl rfl rfl (by decide +kernel) ⟨Nat.le_of_ble_eq_true rfl, Nat.le_of_ble_eq_true rfl⟩) ⟨fun a U g mk q => by obtain ⟨q0, q1, qP, qK, qD, qE⟩ := q; exact ⟨q0, q1, qP, va_K.moved (u := U) (U := U.calling g mk a) (Vm.Alike.refl U.vm) qK, qD, gm_E.same (u := U) (U := U.calling g mk a) rfl rfl qE⟩, va_recv hK hP (ci := 0) rfl (q0 := 0) rfl, fun U hU hW => ⟨rfl, by rw [hU], by rw [hU]; exact hPc, va_K.moved hW.alike hK, hDc.weaken (fun _ _ _ _ => trivial), gm_E.go hS hU hW hFc hE⟩⟩ rfl rfl hl.1 rfl (lv_room (Nat.le_of_ble_eq_true rfl)) gm_d_LW_match_4 ⟨Nat.le_of_ble_eq_true rfl, Nat.le_of_ble_eq_true rfl⟩) hS (fun q _ h => hFc q h) hFc (fun r u t H1 locs ht hvm hpo hB hz1 hk1 hS => hpo.elim) (fun E ce q9 t H1 locs ht hvm hXB hz1 hk1 hS hce hcv hcl => ?_)
  obtain ⟨rfl, hP1, -, hD1⟩ := hXB
  rw [ht] at hP1
  have hP1 : va_P D gm_cl [(h0, .inr (0, [.ref tx, .ref sb, .ref ga, .ref gb, .ref ru, .int 0, .int ma, .int re]))] H1 := hP1
  have hD1 : va_D (va_A [(h0, .inr (0, [.ref tx, .ref sb, .ref ga, .ref gb, .ref ru, .int 0, .int ma, .int re]))] s.heap.size) [(h0, .inr (0, [.ref tx, .ref sb, .ref ga, .ref gb, .ref ru, .int 0, .int ma, .int re]))] := hD1
  obtain ⟨hP, hD⟩ := va_join (wr := []) hP hD [0] [] rfl rfl (by decide) (by decide) hk1 hFc hP1 hD1
  generalize H1 = H at hP hS hce ⊢
  have hP : va_P D gm_cl [(h0, .inr (0, [.ref tx, .ref sb, .ref ga, .ref gb, .ref ru, .int 0, .int ma, .int re]))] H := hP
  have hD : va_D A [(h0, .inr (0, [.ref tx, .ref sb, .ref ga, .ref gb, .ref ru, .int 0, .int ma, .int re]))] := hD
  refine gm_catch (name := gm_xISE) hown [] ⟨0, 9, 12, 15⟩ [] (htb.trans rfl) (fun z hz => absurd hz List.not_mem_nil) rfl (by decide) (hw _ gm_l_LW_15) (hE.1.use rfl gm_ca_ISE) hce hcv hcl ?_
  refine W.eq (g2 := F0 m 12 ls [.ref q9]) rfl ?_
  refine W.widen (k := 1) (n := 6) (Nat.le_of_ble_eq_true rfl) (Nat.le_of_ble_eq_true rfl) ?_
  refine lv_astore_n (lv' := [(3, .ref q9), (0, .ref h0), (1, .int x), (2, .ref o0)]) hx hb gm_d_LW_match_12 rfl hl (Nat.le_of_ble_eq_true rfl) rfl (fun ls hl => ?_)
  refine lv_iconst (v := 1) hx hb gm_d_LW_match_13 (by decide) ?_
  have hP9 := hP.sub (ws' := [(h0, .inr (0, [.ref tx, .ref sb, .ref ga, .ref gb, .ref ru, .int 0, .int ma, .int re]))]) [0] rfl
  have hD9 := hD.sub (ws' := [(h0, .inr (0, [.ref tx, .ref sb, .ref ga, .ref gb, .ref ru, .int 0, .int ma, .int re]))]) [0] (by decide) rfl
  exact W.iret (v := 1) hx hb hr (fun t ht hW => ⟨⟨1, (), rfl, rfl, by rw [ht]; exact hP9, va_K.moved hW.alike hK, hD9⟩, hS.F ht⟩) hS.2.2 gm_d_LW_match_14
set_option maxHeartbeats 4000000 in
set_option maxRecDepth 100000 in
theorem gm_c_LW_node_0 (l : Launch) (hst : l.stackTraces = false) (D : va_G) (cI cJ cC cZ : ClassId) (o0 h0 tx sb ga gb ru : Nat) (co re x y : Int32) (sz : Nat) : Met l gm_y_LW_node (Cond.codeWith gm_y_LW_node gm_b_LW_node 5 (some .int) gm_h_LW_node :: gm_W) { frames := 12, cells := 1, slots := 6, locals := 192 } (va_Pc [.ref h0, .int x, .int y, .ref o0] (fun U => U.heap.size = sz ∧ va_P D gm_cl [(h0, .inr (0, [.ref tx, .ref sb, .ref ga, .ref gb, .ref ru, .int co, .int 0, .int re]))] U.heap ∧ va_K D gm_cl (gm_T cI cJ cC cZ) U ∧ va_D (fun _ => True) [(h0, .inr (0, [.ref tx, .ref sb, .ref ga, .ref gb, .ref ru, .int co, .int 0, .int re]))] ∧ gm_E (va_A [(h0, .inr (0, [.ref tx, .ref sb, .ref ga, .ref gb, .ref ru, .int co, .int 0, .int re]))] sz) U)) (va_Qi (fun r (_ : Unit) => r = 1) (fun _ t => gm_at D (va_A [(h0, .inr (0, [.ref tx, .ref sb, .ref ga, .ref gb, .ref ru, .int co, .int 0, .int re]))] sz) [(h0, .inr (0, [.ref tx, .ref sb, .ref ga, .ref gb, .ref ru, .int co, .int 0, .int re]))] (gm_T cI cJ cC cZ) t) (va_A [(h0, .inr (0, [.ref tx, .ref sb, .ref ga, .ref gb, .ref ru, .int co, .int 0, .int re]))] sz)) 1 6 (va_A [(h0, .inr (0, [.ref tx, .ref sb, .ref ga, .ref gb, .ref ru, .int co, .int 0, .int re]))] sz) := by
  refine va_MetW (cc := gm_b_LW_node) (maxL := 5) (ret := (some .int)) (hh := gm_h_LW_node) (by decide) rfl ?_
  intro p e s m args below meth c s₁ B hml hv
  obtain ⟨rfl, hsz, hP, hK, hD0, hE⟩ := hv
  have hx := B.exec
  have hb := B.bytes
  have hr := B.returns
  have hlocks := B.notSynchronized
  have hw : ∀ w ∈ gm_W, w.before _ s = true := fun w h => atoms_spec B.pre w (List.mem_cons_of_mem _ h)
  have hown : s.vm.findClass gm_R_LW = some m.cls := findClass_of_methodNamed B.named
  have htb : c.exceptionTable.toList = tableOf gm_h_LW_node := gm_tab B (hw _ gm_k_LW_node)
  subst hsz
  have hD := hD0.self (sz := s.heap.size)
  generalize hAe : va_A [(h0, .inr (0, [.ref tx, .ref sb, .ref ga, .ref gb, .ref ru, .int co, .int 0, .int re]))] s.heap.size = A at hD hE ⊢
  have hA : ∀ q : Nat, s.heap.size ≤ q → A q := fun q h => by rw [← hAe]; exact Or.inr h
  have hS : va_S A s.heap s.heap [] := va_S.rf
  have hl := lv_entry ([.ref h0, .int x, .int y, .ref o0]) (n := 5) (Nat.le_of_ble_eq_true rfl)
  rw [lg_entry_eq]
  generalize (lg_sl ([.ref h0, .int x, .int y, .ref o0]) ++ List.replicate (5 - (lg_sl ([.ref h0, .int x, .int y, .ref o0])).length) Slot.unset).toArray = ls at hl ⊢
  have hl : lv_has ls 5 [(0, .ref h0), (1, .int x), (2, .int y), (3, .ref o0)] := hl
  refine lv_aload_n hx hb gm_d_LW_node_0 rfl (lv_at hl 3 rfl) ?_
  refine lv_iconst (v := 0) hx hb gm_d_LW_node_1 (by decide) ?_
  refine lv_aload_n hx hb gm_d_LW_node_2 rfl (lv_at hl 0 rfl) ?_
  refine lv_iload_n hx hb gm_d_LW_node_3 rfl (lv_at hl 1 rfl) ?_
  refine lv_iload_n hx hb gm_d_LW_node_4 rfl (lv_at hl 2 rfl) ?_
  have hPc := hP.sub (ws' := [(h0, .inr (0, [.ref tx, .ref sb, .ref ga, .ref gb, .ref ru, .int co, .int 0, .int re]))]) [0] rfl
  have hDc := hD.sub (ws' := [(h0, .inr (0, [.ref tx, .ref sb, .ref ga, .ref gb, .ref ru, .int co, .int 0, .int re]))]) [0] (by decide) rfl
  have hFc := va_free (wc := [(h0, .inr (0, [.ref tx, .ref sb, .ref ga, .ref gb, .ref ru, .int co, .int 0, .int re]))]) hD hS hA [0] rfl
  refine gm_callXi (gm_runX (As := [.int x, .int y]) (rest := [.int 0, .ref o0]) ⟨hx, hb, hml, hown, hw⟩ (gm_x_GM_node_0 l hst D cI cJ cC cZ h0 tx sb ga gb ru co re x y s.heap.size) (cwV 2 hw (gm_gV gm_l_LW_33 gm_q_GM_node gm_s_GM_node gm_i_GM (gm_gd gm_k_GM_node)) rfl rfl rfl (by decide +kernel) ⟨Nat.le_of_ble_eq_true rfl, Nat.le_of_ble_eq_true rfl⟩) ⟨fun a U g mk q => by obtain ⟨q0, q1, qP, qK, qD, qE⟩ := q; exact ⟨q0, q1, qP, va_K.moved (u := U) (U := U.calling g mk a) (Vm.Alike.refl U.vm) qK, qD, gm_E.same (u := U) (U := U.calling g mk a) rfl rfl qE⟩, va_recv hK hP (ci := 0) rfl (q0 := 0) rfl, fun U hU hW => ⟨rfl, by rw [hU], by rw [hU]; exact hPc, va_K.moved hW.alike hK, hDc.weaken (fun _ _ _ _ => trivial), gm_E.go hS hU hW hFc hE⟩⟩ rfl rfl hl.1 rfl (lv_room (Nat.le_of_ble_eq_true rfl)) gm_d_LW_node_5 ⟨Nat.le_of_ble_eq_true rfl, Nat.le_of_ble_eq_true rfl⟩) hS (fun q _ h => hFc q h) hFc (fun r u t H1 locs ht hvm hpo hB hz1 hk1 hS => hpo.elim) (fun E ce q9 t H1 locs ht hvm hXB hz1 hk1 hS hce hcv hcl => ?_)
  obtain ⟨rfl, hP1, -, hD1⟩ := hXB
  rw [ht] at hP1
  have hP1 : va_P D gm_cl [(h0, .inr (0, [.ref tx, .ref sb, .ref ga, .ref gb, .ref ru, .int co, .int 0, .int re]))] H1 := hP1
  have hD1 : va_D (va_A [(h0, .inr (0, [.ref tx, .ref sb, .ref ga, .ref gb, .ref ru, .int co, .int 0, .int re]))] s.heap.size) [(h0, .inr (0, [.ref tx, .ref sb, .ref ga, .ref gb, .ref ru, .int co, .int 0, .int re]))] := hD1
  obtain ⟨hP, hD⟩ := va_join (wr := []) hP hD [0] [] rfl rfl (by decide) (by decide) hk1 hFc hP1 hD1
  generalize H1 = H at hP hS hce ⊢
  have hP : va_P D gm_cl [(h0, .inr (0, [.ref tx, .ref sb, .ref ga, .ref gb, .ref ru, .int co, .int 0, .int re]))] H := hP
  have hD : va_D A [(h0, .inr (0, [.ref tx, .ref sb, .ref ga, .ref gb, .ref ru, .int co, .int 0, .int re]))] := hD
  refine gm_catch (name := gm_xIOE) hown [] ⟨0, 10, 13, 23⟩ [⟨0, 10, 17, 13⟩] (htb.trans rfl) (fun z hz => absurd hz List.not_mem_nil) rfl (by decide) (hw _ gm_l_LW_23) (hE.1.use rfl gm_ca_IOE) hce hcv hcl ?_
  refine W.eq (g2 := F0 m 13 ls [.ref q9]) rfl ?_
  refine W.widen (k := 1) (n := 6) (Nat.le_of_ble_eq_true rfl) (Nat.le_of_ble_eq_true rfl) ?_
  refine lv_astore (lv' := [(4, .ref q9), (0, .ref h0), (1, .int x), (2, .int y), (3, .ref o0)]) hx hb gm_d_LW_node_13 hl (Nat.le_of_ble_eq_true rfl) rfl (fun ls hl => ?_)
  refine lv_iconst (v := 1) hx hb gm_d_LW_node_15 (by decide) ?_
  have hP9 := hP.sub (ws' := [(h0, .inr (0, [.ref tx, .ref sb, .ref ga, .ref gb, .ref ru, .int co, .int 0, .int re]))]) [0] rfl
  have hD9 := hD.sub (ws' := [(h0, .inr (0, [.ref tx, .ref sb, .ref ga, .ref gb, .ref ru, .int co, .int 0, .int re]))]) [0] (by decide) rfl
  exact W.iret (v := 1) hx hb hr (fun t ht hW => ⟨⟨1, (), rfl, rfl, by rw [ht]; exact hP9, va_K.moved hW.alike hK, hD9⟩, hS.F ht⟩) hS.2.2 gm_d_LW_node_16
