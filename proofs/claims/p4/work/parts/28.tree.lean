/-- the value of a component, by the numbers of its fields: int, char, boolean arrays; long arrays; numbers -/
abbrev gm_S : Type := (Nat → Nat → Int32) × (Nat → Nat → Int64) × (Nat → Int32)
def gm_bd {R S : Type} {B : Sort _} (x : R × S) (k : R → S → B) : B := k x.1 x.2
theorem gm_bd_eq {R S B : Type} {x : R × S} {k : R → S → B} {r : R} {u : S} (h : (r, u) = x) : gm_bd x k = k r u := by subst h; rfl
theorem gm_bd_ok {R S : Type} {x : R × S} {k : R → S → Prop} {r : R} {u : S} (h : (r, u) = x) (hp : gm_bd x k) : k r u := by subst h; exact hp
theorem gm_fb {r : Int32} (h : r = 0 ∨ r = 1) : fits .boolean (.int r) = true := by rcases h with rfl | rfl <;> rfl
def gm_f_Tree_add (x : Int32) (y : Int32) (S : gm_S) : Int32 × (gm_S) := (if (S.2.2 11) < 75 then ((((S.2.2 11) + 1) - 1), ((va_up (va_up (va_up (va_up (va_up (va_up S.1 0 (upd (S.1 0) (Int32.toNatClampNeg (S.2.2 11)) x)) 1 (upd (S.1 1) (Int32.toNatClampNeg (S.2.2 11)) y)) 2 (upd (S.1 2) (Int32.toNatClampNeg (S.2.2 11)) (S.2.2 12))) 3 (upd (S.1 3) (Int32.toNatClampNeg (S.2.2 11)) (S.2.2 12))) 5 (upd (S.1 5) (Int32.toNatClampNeg (S.2.2 11)) (vp_nar .boolean 0))) 6 (upd (S.1 6) (Int32.toNatClampNeg (S.2.2 11)) 0)), (va_up (va_up S.2.1 7 (vp_updL (S.2.1 7) (Int32.toNatClampNeg (S.2.2 11)) 0)) 8 (vp_updL (S.2.1 8) (Int32.toNatClampNeg (S.2.2 11)) 0)), (va_up S.2.2 11 ((S.2.2 11) + 1)))) else ((-1), S))
def gm_p_Tree_add (x : Int32) (y : Int32) (S : gm_S) : Prop := (((S.2.2 11) < 75 → (vp_in (S.2.2 11) 75 ∧ (vp_in (S.2.2 11) 75 ∧ (vp_in (S.2.2 11) 75 ∧ (vp_in (S.2.2 11) 75 ∧ (vp_in (S.2.2 11) 75 ∧ (vp_in (S.2.2 11) 75 ∧ (vp_in (S.2.2 11) 75 ∧ (vp_in (S.2.2 11) 75 ∧ True))))))))) ∧ (¬ ((S.2.2 11) < 75) → True))
set_option maxHeartbeats 4000000 in
set_option maxRecDepth 100000 in
theorem gm_a_Tree_add (l : Launch) (D : va_G) (cI cJ cC cZ : ClassId) (t0 : Nat) (q : Nat → Nat) (x : Int32) (y : Int32) (S : gm_S) (sz : Nat) (hok : gm_p_Tree_add x y S) : Met l gm_y_Tree_add (Cond.code gm_y_Tree_add gm_b_Tree_add 3 (some .int) :: gm_W) { frames := 4, cells := 0, slots := 0, locals := 64 } (va_Pc [.ref t0, .int x, .int y] (fun U => U.heap.size = sz ∧ va_P D gm_cl [(t0, .inr (3, [.ref (q 0), .ref (q 1), .ref (q 2), .ref (q 3), .ref (q 4), .ref (q 5), .ref (q 6), .ref (q 7), .ref (q 8), .ref (q 9), .ref (q 10), .int (S.2.2 11), .int (S.2.2 12), .int (S.2.2 13)])), ((q 0), .inl (cI, 75, .inl (S.1 0))), ((q 1), .inl (cI, 75, .inl (S.1 1))), ((q 2), .inl (cI, 75, .inl (S.1 2))), ((q 3), .inl (cI, 75, .inl (S.1 3))), ((q 5), .inl (cZ, 75, .inl (S.1 5))), ((q 6), .inl (cI, 75, .inl (S.1 6))), ((q 7), .inl (cJ, 75, .inr (.inl (S.2.1 7)))), ((q 8), .inl (cJ, 75, .inr (.inl (S.2.1 8))))] U.heap ∧ va_K D gm_cl (gm_T cI cJ cC cZ) U ∧ va_D (fun _ => True) [(t0, .inr (3, [.ref (q 0), .ref (q 1), .ref (q 2), .ref (q 3), .ref (q 4), .ref (q 5), .ref (q 6), .ref (q 7), .ref (q 8), .ref (q 9), .ref (q 10), .int (S.2.2 11), .int (S.2.2 12), .int (S.2.2 13)])), ((q 0), .inl (cI, 75, .inl (S.1 0))), ((q 1), .inl (cI, 75, .inl (S.1 1))), ((q 2), .inl (cI, 75, .inl (S.1 2))), ((q 3), .inl (cI, 75, .inl (S.1 3))), ((q 5), .inl (cZ, 75, .inl (S.1 5))), ((q 6), .inl (cI, 75, .inl (S.1 6))), ((q 7), .inl (cJ, 75, .inr (.inl (S.2.1 7)))), ((q 8), .inl (cJ, 75, .inr (.inl (S.2.1 8))))])) (va_Qi (fun (r : Int32) (u : gm_S) => (r, u) = gm_f_Tree_add x y S) (fun u t => gm_at D (va_A [(t0, .inr (3, [.ref (q 0), .ref (q 1), .ref (q 2), .ref (q 3), .ref (q 4), .ref (q 5), .ref (q 6), .ref (q 7), .ref (q 8), .ref (q 9), .ref (q 10), .int (S.2.2 11), .int (S.2.2 12), .int (S.2.2 13)])), ((q 0), .inl (cI, 75, .inl (S.1 0))), ((q 1), .inl (cI, 75, .inl (S.1 1))), ((q 2), .inl (cI, 75, .inl (S.1 2))), ((q 3), .inl (cI, 75, .inl (S.1 3))), ((q 5), .inl (cZ, 75, .inl (S.1 5))), ((q 6), .inl (cI, 75, .inl (S.1 6))), ((q 7), .inl (cJ, 75, .inr (.inl (S.2.1 7)))), ((q 8), .inl (cJ, 75, .inr (.inl (S.2.1 8))))] sz) [(t0, .inr (3, [.ref (q 0), .ref (q 1), .ref (q 2), .ref (q 3), .ref (q 4), .ref (q 5), .ref (q 6), .ref (q 7), .ref (q 8), .ref (q 9), .ref (q 10), .int (u.2.2 11), .int (S.2.2 12), .int (S.2.2 13)])), ((q 0), .inl (cI, 75, .inl (u.1 0))), ((q 1), .inl (cI, 75, .inl (u.1 1))), ((q 2), .inl (cI, 75, .inl (u.1 2))), ((q 3), .inl (cI, 75, .inl (u.1 3))), ((q 5), .inl (cZ, 75, .inl (u.1 5))), ((q 6), .inl (cI, 75, .inl (u.1 6))), ((q 7), .inl (cJ, 75, .inr (.inl (u.2.1 7)))), ((q 8), .inl (cJ, 75, .inr (.inl (u.2.1 8))))] (gm_T cI cJ cC cZ) t) (va_A [(t0, .inr (3, [.ref (q 0), .ref (q 1), .ref (q 2), .ref (q 3), .ref (q 4), .ref (q 5), .ref (q 6), .ref (q 7), .ref (q 8), .ref (q 9), .ref (q 10), .int (S.2.2 11), .int (S.2.2 12), .int (S.2.2 13)])), ((q 0), .inl (cI, 75, .inl (S.1 0))), ((q 1), .inl (cI, 75, .inl (S.1 1))), ((q 2), .inl (cI, 75, .inl (S.1 2))), ((q 3), .inl (cI, 75, .inl (S.1 3))), ((q 5), .inl (cZ, 75, .inl (S.1 5))), ((q 6), .inl (cI, 75, .inl (S.1 6))), ((q 7), .inl (cJ, 75, .inr (.inl (S.2.1 7)))), ((q 8), .inl (cJ, 75, .inr (.inl (S.2.1 8))))] sz)) 0 0 (va_A [(t0, .inr (3, [.ref (q 0), .ref (q 1), .ref (q 2), .ref (q 3), .ref (q 4), .ref (q 5), .ref (q 6), .ref (q 7), .ref (q 8), .ref (q 9), .ref (q 10), .int (S.2.2 11), .int (S.2.2 12), .int (S.2.2 13)])), ((q 0), .inl (cI, 75, .inl (S.1 0))), ((q 1), .inl (cI, 75, .inl (S.1 1))), ((q 2), .inl (cI, 75, .inl (S.1 2))), ((q 3), .inl (cI, 75, .inl (S.1 3))), ((q 5), .inl (cZ, 75, .inl (S.1 5))), ((q 6), .inl (cI, 75, .inl (S.1 6))), ((q 7), .inl (cJ, 75, .inr (.inl (S.2.1 7)))), ((q 8), .inl (cJ, 75, .inr (.inl (S.2.1 8))))] sz) := by
  refine Met.ofW (cc := gm_b_Tree_add) (maxL := 3) (ret := (some .int)) (by decide) rfl ?_
  intro p e s m args below meth c s₁ B hml hv
  obtain ⟨rfl, hsz, hP, hK, hD0⟩ := hv
  have hx := B.exec
  have hb := B.bytes
  have hr := B.returns
  have hw : ∀ w ∈ gm_W, w.before _ s = true := fun w h => atoms_spec B.pre w (List.mem_cons_of_mem _ h)
  have hown : s.vm.findClass gm_R_Tree = some m.cls := findClass_of_methodNamed B.named
  subst hsz
  have hD := hD0.self (sz := s.heap.size)
  generalize hAe : va_A [(t0, .inr (3, [.ref (q 0), .ref (q 1), .ref (q 2), .ref (q 3), .ref (q 4), .ref (q 5), .ref (q 6), .ref (q 7), .ref (q 8), .ref (q 9), .ref (q 10), .int (S.2.2 11), .int (S.2.2 12), .int (S.2.2 13)])), ((q 0), .inl (cI, 75, .inl (S.1 0))), ((q 1), .inl (cI, 75, .inl (S.1 1))), ((q 2), .inl (cI, 75, .inl (S.1 2))), ((q 3), .inl (cI, 75, .inl (S.1 3))), ((q 5), .inl (cZ, 75, .inl (S.1 5))), ((q 6), .inl (cI, 75, .inl (S.1 6))), ((q 7), .inl (cJ, 75, .inr (.inl (S.2.1 7)))), ((q 8), .inl (cJ, 75, .inr (.inl (S.2.1 8))))] s.heap.size = A at hD ⊢
  have hA : ∀ q : Nat, s.heap.size ≤ q → A q := fun q h => by rw [← hAe]; exact Or.inr h
  have hS : va_S A s.heap s.heap [] := va_S.rf
  have hl := lv_entry ([.ref t0, .int x, .int y]) (n := 3) (Nat.le_of_ble_eq_true rfl)
  rw [lg_entry_eq]
  generalize (lg_sl ([.ref t0, .int x, .int y]) ++ List.replicate (3 - (lg_sl ([.ref t0, .int x, .int y])).length) Slot.unset).toArray = ls at hl ⊢
  have hl : lv_has ls 3 [(0, .ref t0), (1, .int x), (2, .int y)] := hl
  have hF := gm_f_Tree_add.eq_1 x y S
  unfold gm_p_Tree_add at hok
  refine lv_aload_n hx hb gm_d_Tree_add_0 rfl (lv_at hl 0 rfl) ?_
  refine va_get (D := D) (ci := 3) (v := .int (S.2.2 11)) (C := gm_R_Tree) (T := gm_F_Tree) (N := 14) hx hb hw gm_u_Tree hown hK hP 0 rfl rfl 11 (by decide) (hw _ gm_l_Tree_47) (fun _ h9 => h9) rfl gm_d_Tree_add_1 ?_
  refine lv_bipush (v := 75) hx hb gm_d_Tree_add_4 (by decide) ?_
  refine lv_icmp_lt (tgt := 11) hx hb gm_d_Tree_add_6 (by decide) (fun c6 => ?_) (fun c6 => ?_)
  · skip
    have hF := hF.trans (if_pos c6)
    have hok := hok.1 c6
    refine lv_aload_n hx hb gm_d_Tree_add_11 rfl (lv_at hl 0 rfl) ?_
    refine va_get (D := D) (ci := 3) (v := .ref (q 0)) (C := gm_R_Tree) (T := gm_F_Tree) (N := 14) hx hb hw gm_u_Tree hown hK hP 0 rfl rfl 0 (by decide) (hw _ gm_l_Tree_9) (fun _ h9 => h9) rfl gm_d_Tree_add_12 ?_
    refine lv_aload_n hx hb gm_d_Tree_add_15 rfl (lv_at hl 0 rfl) ?_
    refine va_get (D := D) (ci := 3) (v := .int (S.2.2 11)) (C := gm_R_Tree) (T := gm_F_Tree) (N := 14) hx hb hw gm_u_Tree hown hK hP 0 rfl rfl 11 (by decide) (hw _ gm_l_Tree_47) (fun _ h9 => h9) rfl gm_d_Tree_add_16 ?_
    refine lv_iload_n hx hb gm_d_Tree_add_19 rfl (lv_at hl 1 rfl) ?_
    have i20 := hok.1
    have hok := hok.2
    refine va_iast hx hb hK hP hD hS 1 0 rfl rfl i20 gm_d_Tree_add_20 (fun H locs hP hD hS => ?_)
    have hP : va_P D gm_cl [(t0, .inr (3, [.ref (q 0), .ref (q 1), .ref (q 2), .ref (q 3), .ref (q 4), .ref (q 5), .ref (q 6), .ref (q 7), .ref (q 8), .ref (q 9), .ref (q 10), .int (S.2.2 11), .int (S.2.2 12), .int (S.2.2 13)])), ((q 0), .inl (cI, 75, .inl (upd (S.1 0) (Int32.toNatClampNeg (S.2.2 11)) x))), ((q 1), .inl (cI, 75, .inl (S.1 1))), ((q 2), .inl (cI, 75, .inl (S.1 2))), ((q 3), .inl (cI, 75, .inl (S.1 3))), ((q 5), .inl (cZ, 75, .inl (S.1 5))), ((q 6), .inl (cI, 75, .inl (S.1 6))), ((q 7), .inl (cJ, 75, .inr (.inl (S.2.1 7)))), ((q 8), .inl (cJ, 75, .inr (.inl (S.2.1 8))))] H := hP
    have hD : va_D A [(t0, .inr (3, [.ref (q 0), .ref (q 1), .ref (q 2), .ref (q 3), .ref (q 4), .ref (q 5), .ref (q 6), .ref (q 7), .ref (q 8), .ref (q 9), .ref (q 10), .int (S.2.2 11), .int (S.2.2 12), .int (S.2.2 13)])), ((q 0), .inl (cI, 75, .inl (upd (S.1 0) (Int32.toNatClampNeg (S.2.2 11)) x))), ((q 1), .inl (cI, 75, .inl (S.1 1))), ((q 2), .inl (cI, 75, .inl (S.1 2))), ((q 3), .inl (cI, 75, .inl (S.1 3))), ((q 5), .inl (cZ, 75, .inl (S.1 5))), ((q 6), .inl (cI, 75, .inl (S.1 6))), ((q 7), .inl (cJ, 75, .inr (.inl (S.2.1 7)))), ((q 8), .inl (cJ, 75, .inr (.inl (S.2.1 8))))] := hD
    refine lv_aload_n hx hb gm_d_Tree_add_21 rfl (lv_at hl 0 rfl) ?_
    refine va_get (D := D) (ci := 3) (v := .ref (q 1)) (C := gm_R_Tree) (T := gm_F_Tree) (N := 14) hx hb hw gm_u_Tree hown hK hP 0 rfl rfl 1 (by decide) (hw _ gm_l_Tree_15) (fun _ h9 => h9) rfl gm_d_Tree_add_22 ?_
    refine lv_aload_n hx hb gm_d_Tree_add_25 rfl (lv_at hl 0 rfl) ?_
    refine va_get (D := D) (ci := 3) (v := .int (S.2.2 11)) (C := gm_R_Tree) (T := gm_F_Tree) (N := 14) hx hb hw gm_u_Tree hown hK hP 0 rfl rfl 11 (by decide) (hw _ gm_l_Tree_47) (fun _ h9 => h9) rfl gm_d_Tree_add_26 ?_
    refine lv_iload_n hx hb gm_d_Tree_add_29 rfl (lv_at hl 2 rfl) ?_
    have i30 := hok.1
    have hok := hok.2
    refine va_iast hx hb hK hP hD hS 2 0 rfl rfl i30 gm_d_Tree_add_30 (fun H locs hP hD hS => ?_)
    have hP : va_P D gm_cl [(t0, .inr (3, [.ref (q 0), .ref (q 1), .ref (q 2), .ref (q 3), .ref (q 4), .ref (q 5), .ref (q 6), .ref (q 7), .ref (q 8), .ref (q 9), .ref (q 10), .int (S.2.2 11), .int (S.2.2 12), .int (S.2.2 13)])), ((q 0), .inl (cI, 75, .inl (upd (S.1 0) (Int32.toNatClampNeg (S.2.2 11)) x))), ((q 1), .inl (cI, 75, .inl (upd (S.1 1) (Int32.toNatClampNeg (S.2.2 11)) y))), ((q 2), .inl (cI, 75, .inl (S.1 2))), ((q 3), .inl (cI, 75, .inl (S.1 3))), ((q 5), .inl (cZ, 75, .inl (S.1 5))), ((q 6), .inl (cI, 75, .inl (S.1 6))), ((q 7), .inl (cJ, 75, .inr (.inl (S.2.1 7)))), ((q 8), .inl (cJ, 75, .inr (.inl (S.2.1 8))))] H := hP
    have hD : va_D A [(t0, .inr (3, [.ref (q 0), .ref (q 1), .ref (q 2), .ref (q 3), .ref (q 4), .ref (q 5), .ref (q 6), .ref (q 7), .ref (q 8), .ref (q 9), .ref (q 10), .int (S.2.2 11), .int (S.2.2 12), .int (S.2.2 13)])), ((q 0), .inl (cI, 75, .inl (upd (S.1 0) (Int32.toNatClampNeg (S.2.2 11)) x))), ((q 1), .inl (cI, 75, .inl (upd (S.1 1) (Int32.toNatClampNeg (S.2.2 11)) y))), ((q 2), .inl (cI, 75, .inl (S.1 2))), ((q 3), .inl (cI, 75, .inl (S.1 3))), ((q 5), .inl (cZ, 75, .inl (S.1 5))), ((q 6), .inl (cI, 75, .inl (S.1 6))), ((q 7), .inl (cJ, 75, .inr (.inl (S.2.1 7)))), ((q 8), .inl (cJ, 75, .inr (.inl (S.2.1 8))))] := hD
    refine lv_aload_n hx hb gm_d_Tree_add_31 rfl (lv_at hl 0 rfl) ?_
    refine va_get (D := D) (ci := 3) (v := .ref (q 2)) (C := gm_R_Tree) (T := gm_F_Tree) (N := 14) hx hb hw gm_u_Tree hown hK hP 0 rfl rfl 2 (by decide) (hw _ gm_l_Tree_18) (fun _ h9 => h9) rfl gm_d_Tree_add_32 ?_
    refine lv_aload_n hx hb gm_d_Tree_add_35 rfl (lv_at hl 0 rfl) ?_
    refine va_get (D := D) (ci := 3) (v := .int (S.2.2 11)) (C := gm_R_Tree) (T := gm_F_Tree) (N := 14) hx hb hw gm_u_Tree hown hK hP 0 rfl rfl 11 (by decide) (hw _ gm_l_Tree_47) (fun _ h9 => h9) rfl gm_d_Tree_add_36 ?_
    refine lv_aload_n hx hb gm_d_Tree_add_39 rfl (lv_at hl 0 rfl) ?_
    refine va_get (D := D) (ci := 3) (v := .int (S.2.2 12)) (C := gm_R_Tree) (T := gm_F_Tree) (N := 14) hx hb hw gm_u_Tree hown hK hP 0 rfl rfl 12 (by decide) (hw _ gm_l_Tree_51) (fun _ h9 => h9) rfl gm_d_Tree_add_40 ?_
    have i43 := hok.1
    have hok := hok.2
    refine va_iast hx hb hK hP hD hS 3 0 rfl rfl i43 gm_d_Tree_add_43 (fun H locs hP hD hS => ?_)
    have hP : va_P D gm_cl [(t0, .inr (3, [.ref (q 0), .ref (q 1), .ref (q 2), .ref (q 3), .ref (q 4), .ref (q 5), .ref (q 6), .ref (q 7), .ref (q 8), .ref (q 9), .ref (q 10), .int (S.2.2 11), .int (S.2.2 12), .int (S.2.2 13)])), ((q 0), .inl (cI, 75, .inl (upd (S.1 0) (Int32.toNatClampNeg (S.2.2 11)) x))), ((q 1), .inl (cI, 75, .inl (upd (S.1 1) (Int32.toNatClampNeg (S.2.2 11)) y))), ((q 2), .inl (cI, 75, .inl (upd (S.1 2) (Int32.toNatClampNeg (S.2.2 11)) (S.2.2 12)))), ((q 3), .inl (cI, 75, .inl (S.1 3))), ((q 5), .inl (cZ, 75, .inl (S.1 5))), ((q 6), .inl (cI, 75, .inl (S.1 6))), ((q 7), .inl (cJ, 75, .inr (.inl (S.2.1 7)))), ((q 8), .inl (cJ, 75, .inr (.inl (S.2.1 8))))] H := hP
    have hD : va_D A [(t0, .inr (3, [.ref (q 0), .ref (q 1), .ref (q 2), .ref (q 3), .ref (q 4), .ref (q 5), .ref (q 6), .ref (q 7), .ref (q 8), .ref (q 9), .ref (q 10), .int (S.2.2 11), .int (S.2.2 12), .int (S.2.2 13)])), ((q 0), .inl (cI, 75, .inl (upd (S.1 0) (Int32.toNatClampNeg (S.2.2 11)) x))), ((q 1), .inl (cI, 75, .inl (upd (S.1 1) (Int32.toNatClampNeg (S.2.2 11)) y))), ((q 2), .inl (cI, 75, .inl (upd (S.1 2) (Int32.toNatClampNeg (S.2.2 11)) (S.2.2 12)))), ((q 3), .inl (cI, 75, .inl (S.1 3))), ((q 5), .inl (cZ, 75, .inl (S.1 5))), ((q 6), .inl (cI, 75, .inl (S.1 6))), ((q 7), .inl (cJ, 75, .inr (.inl (S.2.1 7)))), ((q 8), .inl (cJ, 75, .inr (.inl (S.2.1 8))))] := hD
    refine lv_aload_n hx hb gm_d_Tree_add_44 rfl (lv_at hl 0 rfl) ?_
    refine va_get (D := D) (ci := 3) (v := .ref (q 3)) (C := gm_R_Tree) (T := gm_F_Tree) (N := 14) hx hb hw gm_u_Tree hown hK hP 0 rfl rfl 3 (by decide) (hw _ gm_l_Tree_21) (fun _ h9 => h9) rfl gm_d_Tree_add_45 ?_
    refine lv_aload_n hx hb gm_d_Tree_add_48 rfl (lv_at hl 0 rfl) ?_
    refine va_get (D := D) (ci := 3) (v := .int (S.2.2 11)) (C := gm_R_Tree) (T := gm_F_Tree) (N := 14) hx hb hw gm_u_Tree hown hK hP 0 rfl rfl 11 (by decide) (hw _ gm_l_Tree_47) (fun _ h9 => h9) rfl gm_d_Tree_add_49 ?_
    refine lv_aload_n hx hb gm_d_Tree_add_52 rfl (lv_at hl 0 rfl) ?_
    refine va_get (D := D) (ci := 3) (v := .int (S.2.2 12)) (C := gm_R_Tree) (T := gm_F_Tree) (N := 14) hx hb hw gm_u_Tree hown hK hP 0 rfl rfl 12 (by decide) (hw _ gm_l_Tree_51) (fun _ h9 => h9) rfl gm_d_Tree_add_53 ?_
    have i56 := hok.1
    have hok := hok.2
    refine va_iast hx hb hK hP hD hS 4 0 rfl rfl i56 gm_d_Tree_add_56 (fun H locs hP hD hS => ?_)
    have hP : va_P D gm_cl [(t0, .inr (3, [.ref (q 0), .ref (q 1), .ref (q 2), .ref (q 3), .ref (q 4), .ref (q 5), .ref (q 6), .ref (q 7), .ref (q 8), .ref (q 9), .ref (q 10), .int (S.2.2 11), .int (S.2.2 12), .int (S.2.2 13)])), ((q 0), .inl (cI, 75, .inl (upd (S.1 0) (Int32.toNatClampNeg (S.2.2 11)) x))), ((q 1), .inl (cI, 75, .inl (upd (S.1 1) (Int32.toNatClampNeg (S.2.2 11)) y))), ((q 2), .inl (cI, 75, .inl (upd (S.1 2) (Int32.toNatClampNeg (S.2.2 11)) (S.2.2 12)))), ((q 3), .inl (cI, 75, .inl (upd (S.1 3) (Int32.toNatClampNeg (S.2.2 11)) (S.2.2 12)))), ((q 5), .inl (cZ, 75, .inl (S.1 5))), ((q 6), .inl (cI, 75, .inl (S.1 6))), ((q 7), .inl (cJ, 75, .inr (.inl (S.2.1 7)))), ((q 8), .inl (cJ, 75, .inr (.inl (S.2.1 8))))] H := hP
    have hD : va_D A [(t0, .inr (3, [.ref (q 0), .ref (q 1), .ref (q 2), .ref (q 3), .ref (q 4), .ref (q 5), .ref (q 6), .ref (q 7), .ref (q 8), .ref (q 9), .ref (q 10), .int (S.2.2 11), .int (S.2.2 12), .int (S.2.2 13)])), ((q 0), .inl (cI, 75, .inl (upd (S.1 0) (Int32.toNatClampNeg (S.2.2 11)) x))), ((q 1), .inl (cI, 75, .inl (upd (S.1 1) (Int32.toNatClampNeg (S.2.2 11)) y))), ((q 2), .inl (cI, 75, .inl (upd (S.1 2) (Int32.toNatClampNeg (S.2.2 11)) (S.2.2 12)))), ((q 3), .inl (cI, 75, .inl (upd (S.1 3) (Int32.toNatClampNeg (S.2.2 11)) (S.2.2 12)))), ((q 5), .inl (cZ, 75, .inl (S.1 5))), ((q 6), .inl (cI, 75, .inl (S.1 6))), ((q 7), .inl (cJ, 75, .inr (.inl (S.2.1 7)))), ((q 8), .inl (cJ, 75, .inr (.inl (S.2.1 8))))] := hD
    refine lv_aload_n hx hb gm_d_Tree_add_57 rfl (lv_at hl 0 rfl) ?_
    refine va_get (D := D) (ci := 3) (v := .ref (q 5)) (C := gm_R_Tree) (T := gm_F_Tree) (N := 14) hx hb hw gm_u_Tree hown hK hP 0 rfl rfl 5 (by decide) (hw _ gm_l_Tree_27) (fun _ h9 => h9) rfl gm_d_Tree_add_58 ?_
    refine lv_aload_n hx hb gm_d_Tree_add_61 rfl (lv_at hl 0 rfl) ?_
    refine va_get (D := D) (ci := 3) (v := .int (S.2.2 11)) (C := gm_R_Tree) (T := gm_F_Tree) (N := 14) hx hb hw gm_u_Tree hown hK hP 0 rfl rfl 11 (by decide) (hw _ gm_l_Tree_47) (fun _ h9 => h9) rfl gm_d_Tree_add_62 ?_
    refine lv_iconst (v := 0) hx hb gm_d_Tree_add_65 (by decide) ?_
    have i66 := hok.1
    have hok := hok.2
    refine va_zast hx hb hK hP hD hS 5 3 rfl rfl i66 gm_d_Tree_add_66 (fun H locs hP hD hS => ?_)
    have hP : va_P D gm_cl [(t0, .inr (3, [.ref (q 0), .ref (q 1), .ref (q 2), .ref (q 3), .ref (q 4), .ref (q 5), .ref (q 6), .ref (q 7), .ref (q 8), .ref (q 9), .ref (q 10), .int (S.2.2 11), .int (S.2.2 12), .int (S.2.2 13)])), ((q 0), .inl (cI, 75, .inl (upd (S.1 0) (Int32.toNatClampNeg (S.2.2 11)) x))), ((q 1), .inl (cI, 75, .inl (upd (S.1 1) (Int32.toNatClampNeg (S.2.2 11)) y))), ((q 2), .inl (cI, 75, .inl (upd (S.1 2) (Int32.toNatClampNeg (S.2.2 11)) (S.2.2 12)))), ((q 3), .inl (cI, 75, .inl (upd (S.1 3) (Int32.toNatClampNeg (S.2.2 11)) (S.2.2 12)))), ((q 5), .inl (cZ, 75, .inl (upd (S.1 5) (Int32.toNatClampNeg (S.2.2 11)) (vp_nar .boolean 0)))), ((q 6), .inl (cI, 75, .inl (S.1 6))), ((q 7), .inl (cJ, 75, .inr (.inl (S.2.1 7)))), ((q 8), .inl (cJ, 75, .inr (.inl (S.2.1 8))))] H := hP
    have hD : va_D A [(t0, .inr (3, [.ref (q 0), .ref (q 1), .ref (q 2), .ref (q 3), .ref (q 4), .ref (q 5), .ref (q 6), .ref (q 7), .ref (q 8), .ref (q 9), .ref (q 10), .int (S.2.2 11), .int (S.2.2 12), .int (S.2.2 13)])), ((q 0), .inl (cI, 75, .inl (upd (S.1 0) (Int32.toNatClampNeg (S.2.2 11)) x))), ((q 1), .inl (cI, 75, .inl (upd (S.1 1) (Int32.toNatClampNeg (S.2.2 11)) y))), ((q 2), .inl (cI, 75, .inl (upd (S.1 2) (Int32.toNatClampNeg (S.2.2 11)) (S.2.2 12)))), ((q 3), .inl (cI, 75, .inl (upd (S.1 3) (Int32.toNatClampNeg (S.2.2 11)) (S.2.2 12)))), ((q 5), .inl (cZ, 75, .inl (upd (S.1 5) (Int32.toNatClampNeg (S.2.2 11)) (vp_nar .boolean 0)))), ((q 6), .inl (cI, 75, .inl (S.1 6))), ((q 7), .inl (cJ, 75, .inr (.inl (S.2.1 7)))), ((q 8), .inl (cJ, 75, .inr (.inl (S.2.1 8))))] := hD
    refine lv_aload_n hx hb gm_d_Tree_add_67 rfl (lv_at hl 0 rfl) ?_
    refine va_get (D := D) (ci := 3) (v := .ref (q 6)) (C := gm_R_Tree) (T := gm_F_Tree) (N := 14) hx hb hw gm_u_Tree hown hK hP 0 rfl rfl 6 (by decide) (hw _ gm_l_Tree_31) (fun _ h9 => h9) rfl gm_d_Tree_add_68 ?_
    refine lv_aload_n hx hb gm_d_Tree_add_71 rfl (lv_at hl 0 rfl) ?_
    refine va_get (D := D) (ci := 3) (v := .int (S.2.2 11)) (C := gm_R_Tree) (T := gm_F_Tree) (N := 14) hx hb hw gm_u_Tree hown hK hP 0 rfl rfl 11 (by decide) (hw _ gm_l_Tree_47) (fun _ h9 => h9) rfl gm_d_Tree_add_72 ?_
    refine lv_iconst (v := 0) hx hb gm_d_Tree_add_75 (by decide) ?_
    have i76 := hok.1
    have hok := hok.2
    refine va_iast hx hb hK hP hD hS 6 0 rfl rfl i76 gm_d_Tree_add_76 (fun H locs hP hD hS => ?_)
    have hP : va_P D gm_cl [(t0, .inr (3, [.ref (q 0), .ref (q 1), .ref (q 2), .ref (q 3), .ref (q 4), .ref (q 5), .ref (q 6), .ref (q 7), .ref (q 8), .ref (q 9), .ref (q 10), .int (S.2.2 11), .int (S.2.2 12), .int (S.2.2 13)])), ((q 0), .inl (cI, 75, .inl (upd (S.1 0) (Int32.toNatClampNeg (S.2.2 11)) x))), ((q 1), .inl (cI, 75, .inl (upd (S.1 1) (Int32.toNatClampNeg (S.2.2 11)) y))), ((q 2), .inl (cI, 75, .inl (upd (S.1 2) (Int32.toNatClampNeg (S.2.2 11)) (S.2.2 12)))), ((q 3), .inl (cI, 75, .inl (upd (S.1 3) (Int32.toNatClampNeg (S.2.2 11)) (S.2.2 12)))), ((q 5), .inl (cZ, 75, .inl (upd (S.1 5) (Int32.toNatClampNeg (S.2.2 11)) (vp_nar .boolean 0)))), ((q 6), .inl (cI, 75, .inl (upd (S.1 6) (Int32.toNatClampNeg (S.2.2 11)) 0))), ((q 7), .inl (cJ, 75, .inr (.inl (S.2.1 7)))), ((q 8), .inl (cJ, 75, .inr (.inl (S.2.1 8))))] H := hP
    have hD : va_D A [(t0, .inr (3, [.ref (q 0), .ref (q 1), .ref (q 2), .ref (q 3), .ref (q 4), .ref (q 5), .ref (q 6), .ref (q 7), .ref (q 8), .ref (q 9), .ref (q 10), .int (S.2.2 11), .int (S.2.2 12), .int (S.2.2 13)])), ((q 0), .inl (cI, 75, .inl (upd (S.1 0) (Int32.toNatClampNeg (S.2.2 11)) x))), ((q 1), .inl (cI, 75, .inl (upd (S.1 1) (Int32.toNatClampNeg (S.2.2 11)) y))), ((q 2), .inl (cI, 75, .inl (upd (S.1 2) (Int32.toNatClampNeg (S.2.2 11)) (S.2.2 12)))), ((q 3), .inl (cI, 75, .inl (upd (S.1 3) (Int32.toNatClampNeg (S.2.2 11)) (S.2.2 12)))), ((q 5), .inl (cZ, 75, .inl (upd (S.1 5) (Int32.toNatClampNeg (S.2.2 11)) (vp_nar .boolean 0)))), ((q 6), .inl (cI, 75, .inl (upd (S.1 6) (Int32.toNatClampNeg (S.2.2 11)) 0))), ((q 7), .inl (cJ, 75, .inr (.inl (S.2.1 7)))), ((q 8), .inl (cJ, 75, .inr (.inl (S.2.1 8))))] := hD
    refine lv_aload_n hx hb gm_d_Tree_add_77 rfl (lv_at hl 0 rfl) ?_
    refine va_get (D := D) (ci := 3) (v := .ref (q 7)) (C := gm_R_Tree) (T := gm_F_Tree) (N := 14) hx hb hw gm_u_Tree hown hK hP 0 rfl rfl 7 (by decide) (hw _ gm_l_Tree_34) (fun _ h9 => h9) rfl gm_d_Tree_add_78 ?_
    refine lv_aload_n hx hb gm_d_Tree_add_81 rfl (lv_at hl 0 rfl) ?_
    refine va_get (D := D) (ci := 3) (v := .int (S.2.2 11)) (C := gm_R_Tree) (T := gm_F_Tree) (N := 14) hx hb hw gm_u_Tree hown hK hP 0 rfl rfl 11 (by decide) (hw _ gm_l_Tree_47) (fun _ h9 => h9) rfl gm_d_Tree_add_82 ?_
    refine lv_lconst (v := 0) hx hb gm_d_Tree_add_85 (by decide) ?_
    have i86 := hok.1
    have hok := hok.2
    refine va_last hx hb hK hP hD hS 7 1 rfl rfl i86 gm_d_Tree_add_86 (fun H locs hP hD hS => ?_)
    have hP : va_P D gm_cl [(t0, .inr (3, [.ref (q 0), .ref (q 1), .ref (q 2), .ref (q 3), .ref (q 4), .ref (q 5), .ref (q 6), .ref (q 7), .ref (q 8), .ref (q 9), .ref (q 10), .int (S.2.2 11), .int (S.2.2 12), .int (S.2.2 13)])), ((q 0), .inl (cI, 75, .inl (upd (S.1 0) (Int32.toNatClampNeg (S.2.2 11)) x))), ((q 1), .inl (cI, 75, .inl (upd (S.1 1) (Int32.toNatClampNeg (S.2.2 11)) y))), ((q 2), .inl (cI, 75, .inl (upd (S.1 2) (Int32.toNatClampNeg (S.2.2 11)) (S.2.2 12)))), ((q 3), .inl (cI, 75, .inl (upd (S.1 3) (Int32.toNatClampNeg (S.2.2 11)) (S.2.2 12)))), ((q 5), .inl (cZ, 75, .inl (upd (S.1 5) (Int32.toNatClampNeg (S.2.2 11)) (vp_nar .boolean 0)))), ((q 6), .inl (cI, 75, .inl (upd (S.1 6) (Int32.toNatClampNeg (S.2.2 11)) 0))), ((q 7), .inl (cJ, 75, .inr (.inl (vp_updL (S.2.1 7) (Int32.toNatClampNeg (S.2.2 11)) 0)))), ((q 8), .inl (cJ, 75, .inr (.inl (S.2.1 8))))] H := hP
    have hD : va_D A [(t0, .inr (3, [.ref (q 0), .ref (q 1), .ref (q 2), .ref (q 3), .ref (q 4), .ref (q 5), .ref (q 6), .ref (q 7), .ref (q 8), .ref (q 9), .ref (q 10), .int (S.2.2 11), .int (S.2.2 12), .int (S.2.2 13)])), ((q 0), .inl (cI, 75, .inl (upd (S.1 0) (Int32.toNatClampNeg (S.2.2 11)) x))), ((q 1), .inl (cI, 75, .inl (upd (S.1 1) (Int32.toNatClampNeg (S.2.2 11)) y))), ((q 2), .inl (cI, 75, .inl (upd (S.1 2) (Int32.toNatClampNeg (S.2.2 11)) (S.2.2 12)))), ((q 3), .inl (cI, 75, .inl (upd (S.1 3) (Int32.toNatClampNeg (S.2.2 11)) (S.2.2 12)))), ((q 5), .inl (cZ, 75, .inl (upd (S.1 5) (Int32.toNatClampNeg (S.2.2 11)) (vp_nar .boolean 0)))), ((q 6), .inl (cI, 75, .inl (upd (S.1 6) (Int32.toNatClampNeg (S.2.2 11)) 0))), ((q 7), .inl (cJ, 75, .inr (.inl (vp_updL (S.2.1 7) (Int32.toNatClampNeg (S.2.2 11)) 0)))), ((q 8), .inl (cJ, 75, .inr (.inl (S.2.1 8))))] := hD
    refine lv_aload_n hx hb gm_d_Tree_add_87 rfl (lv_at hl 0 rfl) ?_
    refine va_get (D := D) (ci := 3) (v := .ref (q 8)) (C := gm_R_Tree) (T := gm_F_Tree) (N := 14) hx hb hw gm_u_Tree hown hK hP 0 rfl rfl 8 (by decide) (hw _ gm_l_Tree_38) (fun _ h9 => h9) rfl gm_d_Tree_add_88 ?_
    refine lv_aload_n hx hb gm_d_Tree_add_91 rfl (lv_at hl 0 rfl) ?_
    refine va_get (D := D) (ci := 3) (v := .int (S.2.2 11)) (C := gm_R_Tree) (T := gm_F_Tree) (N := 14) hx hb hw gm_u_Tree hown hK hP 0 rfl rfl 11 (by decide) (hw _ gm_l_Tree_47) (fun _ h9 => h9) rfl gm_d_Tree_add_92 ?_
    refine lv_lconst (v := 0) hx hb gm_d_Tree_add_95 (by decide) ?_
    have i96 := hok.1
    have hok := hok.2
    refine va_last hx hb hK hP hD hS 8 1 rfl rfl i96 gm_d_Tree_add_96 (fun H locs hP hD hS => ?_)
    have hP : va_P D gm_cl [(t0, .inr (3, [.ref (q 0), .ref (q 1), .ref (q 2), .ref (q 3), .ref (q 4), .ref (q 5), .ref (q 6), .ref (q 7), .ref (q 8), .ref (q 9), .ref (q 10), .int (S.2.2 11), .int (S.2.2 12), .int (S.2.2 13)])), ((q 0), .inl (cI, 75, .inl (upd (S.1 0) (Int32.toNatClampNeg (S.2.2 11)) x))), ((q 1), .inl (cI, 75, .inl (upd (S.1 1) (Int32.toNatClampNeg (S.2.2 11)) y))), ((q 2), .inl (cI, 75, .inl (upd (S.1 2) (Int32.toNatClampNeg (S.2.2 11)) (S.2.2 12)))), ((q 3), .inl (cI, 75, .inl (upd (S.1 3) (Int32.toNatClampNeg (S.2.2 11)) (S.2.2 12)))), ((q 5), .inl (cZ, 75, .inl (upd (S.1 5) (Int32.toNatClampNeg (S.2.2 11)) (vp_nar .boolean 0)))), ((q 6), .inl (cI, 75, .inl (upd (S.1 6) (Int32.toNatClampNeg (S.2.2 11)) 0))), ((q 7), .inl (cJ, 75, .inr (.inl (vp_updL (S.2.1 7) (Int32.toNatClampNeg (S.2.2 11)) 0)))), ((q 8), .inl (cJ, 75, .inr (.inl (vp_updL (S.2.1 8) (Int32.toNatClampNeg (S.2.2 11)) 0))))] H := hP
    have hD : va_D A [(t0, .inr (3, [.ref (q 0), .ref (q 1), .ref (q 2), .ref (q 3), .ref (q 4), .ref (q 5), .ref (q 6), .ref (q 7), .ref (q 8), .ref (q 9), .ref (q 10), .int (S.2.2 11), .int (S.2.2 12), .int (S.2.2 13)])), ((q 0), .inl (cI, 75, .inl (upd (S.1 0) (Int32.toNatClampNeg (S.2.2 11)) x))), ((q 1), .inl (cI, 75, .inl (upd (S.1 1) (Int32.toNatClampNeg (S.2.2 11)) y))), ((q 2), .inl (cI, 75, .inl (upd (S.1 2) (Int32.toNatClampNeg (S.2.2 11)) (S.2.2 12)))), ((q 3), .inl (cI, 75, .inl (upd (S.1 3) (Int32.toNatClampNeg (S.2.2 11)) (S.2.2 12)))), ((q 5), .inl (cZ, 75, .inl (upd (S.1 5) (Int32.toNatClampNeg (S.2.2 11)) (vp_nar .boolean 0)))), ((q 6), .inl (cI, 75, .inl (upd (S.1 6) (Int32.toNatClampNeg (S.2.2 11)) 0))), ((q 7), .inl (cJ, 75, .inr (.inl (vp_updL (S.2.1 7) (Int32.toNatClampNeg (S.2.2 11)) 0)))), ((q 8), .inl (cJ, 75, .inr (.inl (vp_updL (S.2.1 8) (Int32.toNatClampNeg (S.2.2 11)) 0))))] := hD
    refine lv_aload_n hx hb gm_d_Tree_add_97 rfl (lv_at hl 0 rfl) ?_
    refine lv_dup hx hb gm_d_Tree_add_98 rfl ?_
    refine va_get (D := D) (ci := 3) (v := .int (S.2.2 11)) (C := gm_R_Tree) (T := gm_F_Tree) (N := 14) hx hb hw gm_u_Tree hown hK hP 0 rfl rfl 11 (by decide) (hw _ gm_l_Tree_47) (fun _ h9 => h9) rfl gm_d_Tree_add_99 ?_
    refine lv_iconst (v := 1) hx hb gm_d_Tree_add_102 (by decide) ?_
    refine lv_iadd hx hb gm_d_Tree_add_103 ?_
    refine va_put (D := D) (ci := 3) (v := .int ((S.2.2 11) + 1)) (ty := .int) (C := gm_R_Tree) (T := gm_F_Tree) (N := 14) hx hb hw gm_u_Tree gm_t_Tree gm_o_Tree gm_n_Tree hown hK hP hD hS 0 rfl rfl 11 (by decide) (hw _ gm_l_Tree_47) (fun _ h9 => h9) rfl (by decide +kernel) rfl rfl (Nat.le_of_ble_eq_true rfl) gm_d_Tree_add_104 (fun H locs hP hD hS => ?_)
    have hP : va_P D gm_cl [(t0, .inr (3, [.ref (q 0), .ref (q 1), .ref (q 2), .ref (q 3), .ref (q 4), .ref (q 5), .ref (q 6), .ref (q 7), .ref (q 8), .ref (q 9), .ref (q 10), .int ((S.2.2 11) + 1), .int (S.2.2 12), .int (S.2.2 13)])), ((q 0), .inl (cI, 75, .inl (upd (S.1 0) (Int32.toNatClampNeg (S.2.2 11)) x))), ((q 1), .inl (cI, 75, .inl (upd (S.1 1) (Int32.toNatClampNeg (S.2.2 11)) y))), ((q 2), .inl (cI, 75, .inl (upd (S.1 2) (Int32.toNatClampNeg (S.2.2 11)) (S.2.2 12)))), ((q 3), .inl (cI, 75, .inl (upd (S.1 3) (Int32.toNatClampNeg (S.2.2 11)) (S.2.2 12)))), ((q 5), .inl (cZ, 75, .inl (upd (S.1 5) (Int32.toNatClampNeg (S.2.2 11)) (vp_nar .boolean 0)))), ((q 6), .inl (cI, 75, .inl (upd (S.1 6) (Int32.toNatClampNeg (S.2.2 11)) 0))), ((q 7), .inl (cJ, 75, .inr (.inl (vp_updL (S.2.1 7) (Int32.toNatClampNeg (S.2.2 11)) 0)))), ((q 8), .inl (cJ, 75, .inr (.inl (vp_updL (S.2.1 8) (Int32.toNatClampNeg (S.2.2 11)) 0))))] H := hP
    have hD : va_D A [(t0, .inr (3, [.ref (q 0), .ref (q 1), .ref (q 2), .ref (q 3), .ref (q 4), .ref (q 5), .ref (q 6), .ref (q 7), .ref (q 8), .ref (q 9), .ref (q 10), .int ((S.2.2 11) + 1), .int (S.2.2 12), .int (S.2.2 13)])), ((q 0), .inl (cI, 75, .inl (upd (S.1 0) (Int32.toNatClampNeg (S.2.2 11)) x))), ((q 1), .inl (cI, 75, .inl (upd (S.1 1) (Int32.toNatClampNeg (S.2.2 11)) y))), ((q 2), .inl (cI, 75, .inl (upd (S.1 2) (Int32.toNatClampNeg (S.2.2 11)) (S.2.2 12)))), ((q 3), .inl (cI, 75, .inl (upd (S.1 3) (Int32.toNatClampNeg (S.2.2 11)) (S.2.2 12)))), ((q 5), .inl (cZ, 75, .inl (upd (S.1 5) (Int32.toNatClampNeg (S.2.2 11)) (vp_nar .boolean 0)))), ((q 6), .inl (cI, 75, .inl (upd (S.1 6) (Int32.toNatClampNeg (S.2.2 11)) 0))), ((q 7), .inl (cJ, 75, .inr (.inl (vp_updL (S.2.1 7) (Int32.toNatClampNeg (S.2.2 11)) 0)))), ((q 8), .inl (cJ, 75, .inr (.inl (vp_updL (S.2.1 8) (Int32.toNatClampNeg (S.2.2 11)) 0))))] := hD
    have hP : va_P D gm_cl [(t0, .inr (3, [.ref (q 0), .ref (q 1), .ref (q 2), .ref (q 3), .ref (q 4), .ref (q 5), .ref (q 6), .ref (q 7), .ref (q 8), .ref (q 9), .ref (q 10), .int ((S.2.2 11) + 1), .int (S.2.2 12), .int (S.2.2 13)])), ((q 0), .inl (cI, 75, .inl (upd (S.1 0) (Int32.toNatClampNeg (S.2.2 11)) x))), ((q 1), .inl (cI, 75, .inl (upd (S.1 1) (Int32.toNatClampNeg (S.2.2 11)) y))), ((q 2), .inl (cI, 75, .inl (upd (S.1 2) (Int32.toNatClampNeg (S.2.2 11)) (S.2.2 12)))), ((q 3), .inl (cI, 75, .inl (upd (S.1 3) (Int32.toNatClampNeg (S.2.2 11)) (S.2.2 12)))), ((q 5), .inl (cZ, 75, .inl (upd (S.1 5) (Int32.toNatClampNeg (S.2.2 11)) (vp_nar .boolean 0)))), ((q 6), .inl (cI, 75, .inl (upd (S.1 6) (Int32.toNatClampNeg (S.2.2 11)) 0))), ((q 7), .inl (cJ, 75, .inr (.inl (vp_updL (S.2.1 7) (Int32.toNatClampNeg (S.2.2 11)) 0)))), ((q 8), .inl (cJ, 75, .inr (.inl (vp_updL (S.2.1 8) (Int32.toNatClampNeg (S.2.2 11)) 0))))] H := hP
    have hD : va_D A [(t0, .inr (3, [.ref (q 0), .ref (q 1), .ref (q 2), .ref (q 3), .ref (q 4), .ref (q 5), .ref (q 6), .ref (q 7), .ref (q 8), .ref (q 9), .ref (q 10), .int ((S.2.2 11) + 1), .int (S.2.2 12), .int (S.2.2 13)])), ((q 0), .inl (cI, 75, .inl (upd (S.1 0) (Int32.toNatClampNeg (S.2.2 11)) x))), ((q 1), .inl (cI, 75, .inl (upd (S.1 1) (Int32.toNatClampNeg (S.2.2 11)) y))), ((q 2), .inl (cI, 75, .inl (upd (S.1 2) (Int32.toNatClampNeg (S.2.2 11)) (S.2.2 12)))), ((q 3), .inl (cI, 75, .inl (upd (S.1 3) (Int32.toNatClampNeg (S.2.2 11)) (S.2.2 12)))), ((q 5), .inl (cZ, 75, .inl (upd (S.1 5) (Int32.toNatClampNeg (S.2.2 11)) (vp_nar .boolean 0)))), ((q 6), .inl (cI, 75, .inl (upd (S.1 6) (Int32.toNatClampNeg (S.2.2 11)) 0))), ((q 7), .inl (cJ, 75, .inr (.inl (vp_updL (S.2.1 7) (Int32.toNatClampNeg (S.2.2 11)) 0)))), ((q 8), .inl (cJ, 75, .inr (.inl (vp_updL (S.2.1 8) (Int32.toNatClampNeg (S.2.2 11)) 0))))] := hD
    refine lv_aload_n hx hb gm_d_Tree_add_107 rfl (lv_at hl 0 rfl) ?_
    refine va_get (D := D) (ci := 3) (v := .int ((S.2.2 11) + 1)) (C := gm_R_Tree) (T := gm_F_Tree) (N := 14) hx hb hw gm_u_Tree hown hK hP 0 rfl rfl 11 (by decide) (hw _ gm_l_Tree_47) (fun _ h9 => h9) rfl gm_d_Tree_add_108 ?_
    refine lv_iconst (v := 1) hx hb gm_d_Tree_add_111 (by decide) ?_
    refine lv_isub hx hb gm_d_Tree_add_112 ?_
    exact W.iret (v := (((S.2.2 11) + 1) - 1)) hx hb hr (fun t ht hW => ⟨⟨(((S.2.2 11) + 1) - 1), ((va_up (va_up (va_up (va_up (va_up (va_up S.1 0 (upd (S.1 0) (Int32.toNatClampNeg (S.2.2 11)) x)) 1 (upd (S.1 1) (Int32.toNatClampNeg (S.2.2 11)) y)) 2 (upd (S.1 2) (Int32.toNatClampNeg (S.2.2 11)) (S.2.2 12))) 3 (upd (S.1 3) (Int32.toNatClampNeg (S.2.2 11)) (S.2.2 12))) 5 (upd (S.1 5) (Int32.toNatClampNeg (S.2.2 11)) (vp_nar .boolean 0))) 6 (upd (S.1 6) (Int32.toNatClampNeg (S.2.2 11)) 0)), (va_up (va_up S.2.1 7 (vp_updL (S.2.1 7) (Int32.toNatClampNeg (S.2.2 11)) 0)) 8 (vp_updL (S.2.1 8) (Int32.toNatClampNeg (S.2.2 11)) 0)), (va_up S.2.2 11 ((S.2.2 11) + 1))), rfl, hF.symm, by rw [ht]; exact hP, va_K.moved hW.alike hK, hD⟩, hS.F ht⟩) hS.2.2 gm_d_Tree_add_113
  · skip
    have hF := hF.trans (if_neg c6)
    have hok := hok.2 c6
    refine lv_iconst (v := (-1)) hx hb gm_d_Tree_add_9 (by decide) ?_
    exact W.iret (v := (-1)) hx hb hr (fun t ht hW => ⟨⟨(-1), S, rfl, hF.symm, by rw [ht]; exact hP, va_K.moved hW.alike hK, hD⟩, hS.F ht⟩) hS.2.2 gm_d_Tree_add_10
def gm_f_Tree_givePart (x : Int32) (y : Int32) (S : gm_S) : Int32 × (gm_S) := (if x < 0 then (0, S) else (if (S.2.2 11) ≤ x then (0, S) else (if y < 0 then (0, S) else (if x ≤ y then (0, S) else (if 75 ≤ (S.2.2 12) then (0, S) else (0, ((va_up (va_up S.1 4 (upd (S.1 4) (Int32.toNatClampNeg (S.2.2 12)) y)) 3 (upd (S.1 3) (Int32.toNatClampNeg x) ((S.2.2 12) + 1))), S.2.1, (va_up S.2.2 12 ((S.2.2 12) + 1)))))))))
def gm_p_Tree_givePart (x : Int32) (y : Int32) (S : gm_S) : Prop := ((x < 0 → True) ∧ (¬ (x < 0) → (((S.2.2 11) ≤ x → True) ∧ (¬ ((S.2.2 11) ≤ x) → ((y < 0 → True) ∧ (¬ (y < 0) → ((x ≤ y → True) ∧ (¬ (x ≤ y) → ((75 ≤ (S.2.2 12) → True) ∧ (¬ (75 ≤ (S.2.2 12)) → (vp_in (S.2.2 12) 75 ∧ (vp_in x 75 ∧ True))))))))))))
set_option maxHeartbeats 4000000 in
set_option maxRecDepth 100000 in
theorem gm_a_Tree_givePart (l : Launch) (D : va_G) (cI cJ cC cZ : ClassId) (t0 : Nat) (q : Nat → Nat) (x : Int32) (y : Int32) (S : gm_S) (sz : Nat) (hok : gm_p_Tree_givePart x y S) : Met l gm_y_Tree_givePart (Cond.code gm_y_Tree_givePart gm_b_Tree_givePart 3 none :: gm_W) { frames := 4, cells := 0, slots := 0, locals := 64 } (va_Pc [.ref t0, .int x, .int y] (fun U => U.heap.size = sz ∧ va_P D gm_cl [(t0, .inr (3, [.ref (q 0), .ref (q 1), .ref (q 2), .ref (q 3), .ref (q 4), .ref (q 5), .ref (q 6), .ref (q 7), .ref (q 8), .ref (q 9), .ref (q 10), .int (S.2.2 11), .int (S.2.2 12), .int (S.2.2 13)])), ((q 3), .inl (cI, 75, .inl (S.1 3))), ((q 4), .inl (cI, 75, .inl (S.1 4)))] U.heap ∧ va_K D gm_cl (gm_T cI cJ cC cZ) U ∧ va_D (fun _ => True) [(t0, .inr (3, [.ref (q 0), .ref (q 1), .ref (q 2), .ref (q 3), .ref (q 4), .ref (q 5), .ref (q 6), .ref (q 7), .ref (q 8), .ref (q 9), .ref (q 10), .int (S.2.2 11), .int (S.2.2 12), .int (S.2.2 13)])), ((q 3), .inl (cI, 75, .inl (S.1 3))), ((q 4), .inl (cI, 75, .inl (S.1 4)))])) (va_Qv (fun u : gm_S => (0, u) = gm_f_Tree_givePart x y S) (fun u t => gm_at D (va_A [(t0, .inr (3, [.ref (q 0), .ref (q 1), .ref (q 2), .ref (q 3), .ref (q 4), .ref (q 5), .ref (q 6), .ref (q 7), .ref (q 8), .ref (q 9), .ref (q 10), .int (S.2.2 11), .int (S.2.2 12), .int (S.2.2 13)])), ((q 3), .inl (cI, 75, .inl (S.1 3))), ((q 4), .inl (cI, 75, .inl (S.1 4)))] sz) [(t0, .inr (3, [.ref (q 0), .ref (q 1), .ref (q 2), .ref (q 3), .ref (q 4), .ref (q 5), .ref (q 6), .ref (q 7), .ref (q 8), .ref (q 9), .ref (q 10), .int (S.2.2 11), .int (u.2.2 12), .int (S.2.2 13)])), ((q 3), .inl (cI, 75, .inl (u.1 3))), ((q 4), .inl (cI, 75, .inl (u.1 4)))] (gm_T cI cJ cC cZ) t) (va_A [(t0, .inr (3, [.ref (q 0), .ref (q 1), .ref (q 2), .ref (q 3), .ref (q 4), .ref (q 5), .ref (q 6), .ref (q 7), .ref (q 8), .ref (q 9), .ref (q 10), .int (S.2.2 11), .int (S.2.2 12), .int (S.2.2 13)])), ((q 3), .inl (cI, 75, .inl (S.1 3))), ((q 4), .inl (cI, 75, .inl (S.1 4)))] sz)) 0 0 (va_A [(t0, .inr (3, [.ref (q 0), .ref (q 1), .ref (q 2), .ref (q 3), .ref (q 4), .ref (q 5), .ref (q 6), .ref (q 7), .ref (q 8), .ref (q 9), .ref (q 10), .int (S.2.2 11), .int (S.2.2 12), .int (S.2.2 13)])), ((q 3), .inl (cI, 75, .inl (S.1 3))), ((q 4), .inl (cI, 75, .inl (S.1 4)))] sz) := by
  refine Met.ofW (cc := gm_b_Tree_givePart) (maxL := 3) (ret := none) (by decide) rfl ?_
  intro p e s m args below meth c s₁ B hml hv
  obtain ⟨rfl, hsz, hP, hK, hD0⟩ := hv
  have hx := B.exec
  have hb := B.bytes
  have hr := B.returns
  have hw : ∀ w ∈ gm_W, w.before _ s = true := fun w h => atoms_spec B.pre w (List.mem_cons_of_mem _ h)
  have hown : s.vm.findClass gm_R_Tree = some m.cls := findClass_of_methodNamed B.named
  subst hsz
  have hD := hD0.self (sz := s.heap.size)
  generalize hAe : va_A [(t0, .inr (3, [.ref (q 0), .ref (q 1), .ref (q 2), .ref (q 3), .ref (q 4), .ref (q 5), .ref (q 6), .ref (q 7), .ref (q 8), .ref (q 9), .ref (q 10), .int (S.2.2 11), .int (S.2.2 12), .int (S.2.2 13)])), ((q 3), .inl (cI, 75, .inl (S.1 3))), ((q 4), .inl (cI, 75, .inl (S.1 4)))] s.heap.size = A at hD ⊢
  have hA : ∀ q : Nat, s.heap.size ≤ q → A q := fun q h => by rw [← hAe]; exact Or.inr h
  have hS : va_S A s.heap s.heap [] := va_S.rf
  have hl := lv_entry ([.ref t0, .int x, .int y]) (n := 3) (Nat.le_of_ble_eq_true rfl)
  rw [lg_entry_eq]
  generalize (lg_sl ([.ref t0, .int x, .int y]) ++ List.replicate (3 - (lg_sl ([.ref t0, .int x, .int y])).length) Slot.unset).toArray = ls at hl ⊢
  have hl : lv_has ls 3 [(0, .ref t0), (1, .int x), (2, .int y)] := hl
  have hF := gm_f_Tree_givePart.eq_1 x y S
  unfold gm_p_Tree_givePart at hok
  refine lv_iload_n hx hb gm_d_Tree_givePart_0 rfl (lv_at hl 1 rfl) ?_
  refine lv_if_lt (tgt := 60) hx hb gm_d_Tree_givePart_1 (by decide) (fun c1 => ?_) (fun c1 => ?_)
  · skip
    have hF := hF.trans (if_pos c1)
    have hok := hok.1 c1
    exact W.vret hx hb hr (fun t ht hW => ⟨⟨S, rfl, hF.symm, by rw [ht]; exact hP, va_K.moved hW.alike hK, hD⟩, hS.F ht⟩) hS.2.2 gm_d_Tree_givePart_60
  · skip
    have hF := hF.trans (if_neg c1)
    have hok := hok.2 c1
    refine lv_iload_n hx hb gm_d_Tree_givePart_4 rfl (lv_at hl 1 rfl) ?_
    refine lv_aload_n hx hb gm_d_Tree_givePart_5 rfl (lv_at hl 0 rfl) ?_
    refine va_get (D := D) (ci := 3) (v := .int (S.2.2 11)) (C := gm_R_Tree) (T := gm_F_Tree) (N := 14) hx hb hw gm_u_Tree hown hK hP 0 rfl rfl 11 (by decide) (hw _ gm_l_Tree_47) (fun _ h9 => h9) rfl gm_d_Tree_givePart_6 ?_
    refine lv_icmp_ge (tgt := 60) hx hb gm_d_Tree_givePart_9 (by decide) (fun c9 => ?_) (fun c9 => ?_)
    · skip
      have hF := hF.trans (if_pos c9)
      have hok := hok.1 c9
      exact W.vret hx hb hr (fun t ht hW => ⟨⟨S, rfl, hF.symm, by rw [ht]; exact hP, va_K.moved hW.alike hK, hD⟩, hS.F ht⟩) hS.2.2 gm_d_Tree_givePart_60
    · skip
      have hF := hF.trans (if_neg c9)
      have hok := hok.2 c9
      refine lv_iload_n hx hb gm_d_Tree_givePart_12 rfl (lv_at hl 2 rfl) ?_
      refine lv_if_lt (tgt := 60) hx hb gm_d_Tree_givePart_13 (by decide) (fun c13 => ?_) (fun c13 => ?_)
      · skip
        have hF := hF.trans (if_pos c13)
        have hok := hok.1 c13
        exact W.vret hx hb hr (fun t ht hW => ⟨⟨S, rfl, hF.symm, by rw [ht]; exact hP, va_K.moved hW.alike hK, hD⟩, hS.F ht⟩) hS.2.2 gm_d_Tree_givePart_60
      · skip
        have hF := hF.trans (if_neg c13)
        have hok := hok.2 c13
        refine lv_iload_n hx hb gm_d_Tree_givePart_16 rfl (lv_at hl 2 rfl) ?_
        refine lv_iload_n hx hb gm_d_Tree_givePart_17 rfl (lv_at hl 1 rfl) ?_
        refine lv_icmp_ge (tgt := 60) hx hb gm_d_Tree_givePart_18 (by decide) (fun c18 => ?_) (fun c18 => ?_)
        · skip
          have hF := hF.trans (if_pos c18)
          have hok := hok.1 c18
          exact W.vret hx hb hr (fun t ht hW => ⟨⟨S, rfl, hF.symm, by rw [ht]; exact hP, va_K.moved hW.alike hK, hD⟩, hS.F ht⟩) hS.2.2 gm_d_Tree_givePart_60
        · skip
          have hF := hF.trans (if_neg c18)
          have hok := hok.2 c18
          refine lv_aload_n hx hb gm_d_Tree_givePart_21 rfl (lv_at hl 0 rfl) ?_
          refine va_get (D := D) (ci := 3) (v := .int (S.2.2 12)) (C := gm_R_Tree) (T := gm_F_Tree) (N := 14) hx hb hw gm_u_Tree hown hK hP 0 rfl rfl 12 (by decide) (hw _ gm_l_Tree_51) (fun _ h9 => h9) rfl gm_d_Tree_givePart_22 ?_
          refine lv_bipush (v := 75) hx hb gm_d_Tree_givePart_25 (by decide) ?_
          refine lv_icmp_ge (tgt := 60) hx hb gm_d_Tree_givePart_27 (by decide) (fun c27 => ?_) (fun c27 => ?_)
          · skip
            have hF := hF.trans (if_pos c27)
            have hok := hok.1 c27
            exact W.vret hx hb hr (fun t ht hW => ⟨⟨S, rfl, hF.symm, by rw [ht]; exact hP, va_K.moved hW.alike hK, hD⟩, hS.F ht⟩) hS.2.2 gm_d_Tree_givePart_60
          · skip
            have hF := hF.trans (if_neg c27)
            have hok := hok.2 c27
            refine lv_aload_n hx hb gm_d_Tree_givePart_30 rfl (lv_at hl 0 rfl) ?_
            refine va_get (D := D) (ci := 3) (v := .ref (q 4)) (C := gm_R_Tree) (T := gm_F_Tree) (N := 14) hx hb hw gm_u_Tree hown hK hP 0 rfl rfl 4 (by decide) (hw _ gm_l_Tree_24) (fun _ h9 => h9) rfl gm_d_Tree_givePart_31 ?_
            refine lv_aload_n hx hb gm_d_Tree_givePart_34 rfl (lv_at hl 0 rfl) ?_
            refine va_get (D := D) (ci := 3) (v := .int (S.2.2 12)) (C := gm_R_Tree) (T := gm_F_Tree) (N := 14) hx hb hw gm_u_Tree hown hK hP 0 rfl rfl 12 (by decide) (hw _ gm_l_Tree_51) (fun _ h9 => h9) rfl gm_d_Tree_givePart_35 ?_
            refine lv_iload_n hx hb gm_d_Tree_givePart_38 rfl (lv_at hl 2 rfl) ?_
            have i39 := hok.1
            have hok := hok.2
            refine va_iast hx hb hK hP hD hS 2 0 rfl rfl i39 gm_d_Tree_givePart_39 (fun H locs hP hD hS => ?_)
            have hP : va_P D gm_cl [(t0, .inr (3, [.ref (q 0), .ref (q 1), .ref (q 2), .ref (q 3), .ref (q 4), .ref (q 5), .ref (q 6), .ref (q 7), .ref (q 8), .ref (q 9), .ref (q 10), .int (S.2.2 11), .int (S.2.2 12), .int (S.2.2 13)])), ((q 3), .inl (cI, 75, .inl (S.1 3))), ((q 4), .inl (cI, 75, .inl (upd (S.1 4) (Int32.toNatClampNeg (S.2.2 12)) y)))] H := hP
            have hD : va_D A [(t0, .inr (3, [.ref (q 0), .ref (q 1), .ref (q 2), .ref (q 3), .ref (q 4), .ref (q 5), .ref (q 6), .ref (q 7), .ref (q 8), .ref (q 9), .ref (q 10), .int (S.2.2 11), .int (S.2.2 12), .int (S.2.2 13)])), ((q 3), .inl (cI, 75, .inl (S.1 3))), ((q 4), .inl (cI, 75, .inl (upd (S.1 4) (Int32.toNatClampNeg (S.2.2 12)) y)))] := hD
            refine lv_aload_n hx hb gm_d_Tree_givePart_40 rfl (lv_at hl 0 rfl) ?_
            refine lv_dup hx hb gm_d_Tree_givePart_41 rfl ?_
            refine va_get (D := D) (ci := 3) (v := .int (S.2.2 12)) (C := gm_R_Tree) (T := gm_F_Tree) (N := 14) hx hb hw gm_u_Tree hown hK hP 0 rfl rfl 12 (by decide) (hw _ gm_l_Tree_51) (fun _ h9 => h9) rfl gm_d_Tree_givePart_42 ?_
            refine lv_iconst (v := 1) hx hb gm_d_Tree_givePart_45 (by decide) ?_
            refine lv_iadd hx hb gm_d_Tree_givePart_46 ?_
            refine va_put (D := D) (ci := 3) (v := .int ((S.2.2 12) + 1)) (ty := .int) (C := gm_R_Tree) (T := gm_F_Tree) (N := 14) hx hb hw gm_u_Tree gm_t_Tree gm_o_Tree gm_n_Tree hown hK hP hD hS 0 rfl rfl 12 (by decide) (hw _ gm_l_Tree_51) (fun _ h9 => h9) rfl (by decide +kernel) rfl rfl (Nat.le_of_ble_eq_true rfl) gm_d_Tree_givePart_47 (fun H locs hP hD hS => ?_)
            have hP : va_P D gm_cl [(t0, .inr (3, [.ref (q 0), .ref (q 1), .ref (q 2), .ref (q 3), .ref (q 4), .ref (q 5), .ref (q 6), .ref (q 7), .ref (q 8), .ref (q 9), .ref (q 10), .int (S.2.2 11), .int ((S.2.2 12) + 1), .int (S.2.2 13)])), ((q 3), .inl (cI, 75, .inl (S.1 3))), ((q 4), .inl (cI, 75, .inl (upd (S.1 4) (Int32.toNatClampNeg (S.2.2 12)) y)))] H := hP
            have hD : va_D A [(t0, .inr (3, [.ref (q 0), .ref (q 1), .ref (q 2), .ref (q 3), .ref (q 4), .ref (q 5), .ref (q 6), .ref (q 7), .ref (q 8), .ref (q 9), .ref (q 10), .int (S.2.2 11), .int ((S.2.2 12) + 1), .int (S.2.2 13)])), ((q 3), .inl (cI, 75, .inl (S.1 3))), ((q 4), .inl (cI, 75, .inl (upd (S.1 4) (Int32.toNatClampNeg (S.2.2 12)) y)))] := hD
            have hP : va_P D gm_cl [(t0, .inr (3, [.ref (q 0), .ref (q 1), .ref (q 2), .ref (q 3), .ref (q 4), .ref (q 5), .ref (q 6), .ref (q 7), .ref (q 8), .ref (q 9), .ref (q 10), .int (S.2.2 11), .int ((S.2.2 12) + 1), .int (S.2.2 13)])), ((q 3), .inl (cI, 75, .inl (S.1 3))), ((q 4), .inl (cI, 75, .inl (upd (S.1 4) (Int32.toNatClampNeg (S.2.2 12)) y)))] H := hP
            have hD : va_D A [(t0, .inr (3, [.ref (q 0), .ref (q 1), .ref (q 2), .ref (q 3), .ref (q 4), .ref (q 5), .ref (q 6), .ref (q 7), .ref (q 8), .ref (q 9), .ref (q 10), .int (S.2.2 11), .int ((S.2.2 12) + 1), .int (S.2.2 13)])), ((q 3), .inl (cI, 75, .inl (S.1 3))), ((q 4), .inl (cI, 75, .inl (upd (S.1 4) (Int32.toNatClampNeg (S.2.2 12)) y)))] := hD
            refine lv_aload_n hx hb gm_d_Tree_givePart_50 rfl (lv_at hl 0 rfl) ?_
            refine va_get (D := D) (ci := 3) (v := .ref (q 3)) (C := gm_R_Tree) (T := gm_F_Tree) (N := 14) hx hb hw gm_u_Tree hown hK hP 0 rfl rfl 3 (by decide) (hw _ gm_l_Tree_21) (fun _ h9 => h9) rfl gm_d_Tree_givePart_51 ?_
            refine lv_iload_n hx hb gm_d_Tree_givePart_54 rfl (lv_at hl 1 rfl) ?_
            refine lv_aload_n hx hb gm_d_Tree_givePart_55 rfl (lv_at hl 0 rfl) ?_
            refine va_get (D := D) (ci := 3) (v := .int ((S.2.2 12) + 1)) (C := gm_R_Tree) (T := gm_F_Tree) (N := 14) hx hb hw gm_u_Tree hown hK hP 0 rfl rfl 12 (by decide) (hw _ gm_l_Tree_51) (fun _ h9 => h9) rfl gm_d_Tree_givePart_56 ?_
            have i59 := hok.1
            have hok := hok.2
            refine va_iast hx hb hK hP hD hS 1 0 rfl rfl i59 gm_d_Tree_givePart_59 (fun H locs hP hD hS => ?_)
            have hP : va_P D gm_cl [(t0, .inr (3, [.ref (q 0), .ref (q 1), .ref (q 2), .ref (q 3), .ref (q 4), .ref (q 5), .ref (q 6), .ref (q 7), .ref (q 8), .ref (q 9), .ref (q 10), .int (S.2.2 11), .int ((S.2.2 12) + 1), .int (S.2.2 13)])), ((q 3), .inl (cI, 75, .inl (upd (S.1 3) (Int32.toNatClampNeg x) ((S.2.2 12) + 1)))), ((q 4), .inl (cI, 75, .inl (upd (S.1 4) (Int32.toNatClampNeg (S.2.2 12)) y)))] H := hP
            have hD : va_D A [(t0, .inr (3, [.ref (q 0), .ref (q 1), .ref (q 2), .ref (q 3), .ref (q 4), .ref (q 5), .ref (q 6), .ref (q 7), .ref (q 8), .ref (q 9), .ref (q 10), .int (S.2.2 11), .int ((S.2.2 12) + 1), .int (S.2.2 13)])), ((q 3), .inl (cI, 75, .inl (upd (S.1 3) (Int32.toNatClampNeg x) ((S.2.2 12) + 1)))), ((q 4), .inl (cI, 75, .inl (upd (S.1 4) (Int32.toNatClampNeg (S.2.2 12)) y)))] := hD
            exact W.vret hx hb hr (fun t ht hW => ⟨⟨((va_up (va_up S.1 4 (upd (S.1 4) (Int32.toNatClampNeg (S.2.2 12)) y)) 3 (upd (S.1 3) (Int32.toNatClampNeg x) ((S.2.2 12) + 1))), S.2.1, (va_up S.2.2 12 ((S.2.2 12) + 1))), rfl, hF.symm, by rw [ht]; exact hP, va_K.moved hW.alike hK, hD⟩, hS.F ht⟩) hS.2.2 gm_d_Tree_givePart_60
def gm_f_Tree_addRule (x : Int32) (y : Int32) (S : gm_S) : Int32 × (gm_S) := (if 8 ≤ (S.2.2 13) then (0, S) else (if y < 0 then (0, S) else (if (S.2.2 11) ≤ y then (0, S) else (0, ((va_up (va_up S.1 9 (upd (S.1 9) (Int32.toNatClampNeg (S.2.2 13)) x)) 10 (upd (S.1 10) (Int32.toNatClampNeg (S.2.2 13)) y)), S.2.1, (va_up S.2.2 13 ((S.2.2 13) + 1)))))))
def gm_p_Tree_addRule (x : Int32) (y : Int32) (S : gm_S) : Prop := ((8 ≤ (S.2.2 13) → True) ∧ (¬ (8 ≤ (S.2.2 13)) → ((y < 0 → True) ∧ (¬ (y < 0) → (((S.2.2 11) ≤ y → True) ∧ (¬ ((S.2.2 11) ≤ y) → (vp_in (S.2.2 13) 8 ∧ (vp_in (S.2.2 13) 8 ∧ True))))))))
set_option maxHeartbeats 4000000 in
set_option maxRecDepth 100000 in
theorem gm_a_Tree_addRule (l : Launch) (D : va_G) (cI cJ cC cZ : ClassId) (t0 : Nat) (q : Nat → Nat) (x : Int32) (y : Int32) (S : gm_S) (sz : Nat) (hok : gm_p_Tree_addRule x y S) : Met l gm_y_Tree_addRule (Cond.code gm_y_Tree_addRule gm_b_Tree_addRule 3 none :: gm_W) { frames := 4, cells := 0, slots := 0, locals := 64 } (va_Pc [.ref t0, .int x, .int y] (fun U => U.heap.size = sz ∧ va_P D gm_cl [(t0, .inr (3, [.ref (q 0), .ref (q 1), .ref (q 2), .ref (q 3), .ref (q 4), .ref (q 5), .ref (q 6), .ref (q 7), .ref (q 8), .ref (q 9), .ref (q 10), .int (S.2.2 11), .int (S.2.2 12), .int (S.2.2 13)])), ((q 9), .inl (cI, 8, .inl (S.1 9))), ((q 10), .inl (cI, 8, .inl (S.1 10)))] U.heap ∧ va_K D gm_cl (gm_T cI cJ cC cZ) U ∧ va_D (fun _ => True) [(t0, .inr (3, [.ref (q 0), .ref (q 1), .ref (q 2), .ref (q 3), .ref (q 4), .ref (q 5), .ref (q 6), .ref (q 7), .ref (q 8), .ref (q 9), .ref (q 10), .int (S.2.2 11), .int (S.2.2 12), .int (S.2.2 13)])), ((q 9), .inl (cI, 8, .inl (S.1 9))), ((q 10), .inl (cI, 8, .inl (S.1 10)))])) (va_Qv (fun u : gm_S => (0, u) = gm_f_Tree_addRule x y S) (fun u t => gm_at D (va_A [(t0, .inr (3, [.ref (q 0), .ref (q 1), .ref (q 2), .ref (q 3), .ref (q 4), .ref (q 5), .ref (q 6), .ref (q 7), .ref (q 8), .ref (q 9), .ref (q 10), .int (S.2.2 11), .int (S.2.2 12), .int (S.2.2 13)])), ((q 9), .inl (cI, 8, .inl (S.1 9))), ((q 10), .inl (cI, 8, .inl (S.1 10)))] sz) [(t0, .inr (3, [.ref (q 0), .ref (q 1), .ref (q 2), .ref (q 3), .ref (q 4), .ref (q 5), .ref (q 6), .ref (q 7), .ref (q 8), .ref (q 9), .ref (q 10), .int (S.2.2 11), .int (S.2.2 12), .int (u.2.2 13)])), ((q 9), .inl (cI, 8, .inl (u.1 9))), ((q 10), .inl (cI, 8, .inl (u.1 10)))] (gm_T cI cJ cC cZ) t) (va_A [(t0, .inr (3, [.ref (q 0), .ref (q 1), .ref (q 2), .ref (q 3), .ref (q 4), .ref (q 5), .ref (q 6), .ref (q 7), .ref (q 8), .ref (q 9), .ref (q 10), .int (S.2.2 11), .int (S.2.2 12), .int (S.2.2 13)])), ((q 9), .inl (cI, 8, .inl (S.1 9))), ((q 10), .inl (cI, 8, .inl (S.1 10)))] sz)) 0 0 (va_A [(t0, .inr (3, [.ref (q 0), .ref (q 1), .ref (q 2), .ref (q 3), .ref (q 4), .ref (q 5), .ref (q 6), .ref (q 7), .ref (q 8), .ref (q 9), .ref (q 10), .int (S.2.2 11), .int (S.2.2 12), .int (S.2.2 13)])), ((q 9), .inl (cI, 8, .inl (S.1 9))), ((q 10), .inl (cI, 8, .inl (S.1 10)))] sz) := by
  refine Met.ofW (cc := gm_b_Tree_addRule) (maxL := 3) (ret := none) (by decide) rfl ?_
  intro p e s m args below meth c s₁ B hml hv
  obtain ⟨rfl, hsz, hP, hK, hD0⟩ := hv
  have hx := B.exec
  have hb := B.bytes
  have hr := B.returns
  have hw : ∀ w ∈ gm_W, w.before _ s = true := fun w h => atoms_spec B.pre w (List.mem_cons_of_mem _ h)
  have hown : s.vm.findClass gm_R_Tree = some m.cls := findClass_of_methodNamed B.named
  subst hsz
  have hD := hD0.self (sz := s.heap.size)
  generalize hAe : va_A [(t0, .inr (3, [.ref (q 0), .ref (q 1), .ref (q 2), .ref (q 3), .ref (q 4), .ref (q 5), .ref (q 6), .ref (q 7), .ref (q 8), .ref (q 9), .ref (q 10), .int (S.2.2 11), .int (S.2.2 12), .int (S.2.2 13)])), ((q 9), .inl (cI, 8, .inl (S.1 9))), ((q 10), .inl (cI, 8, .inl (S.1 10)))] s.heap.size = A at hD ⊢
  have hA : ∀ q : Nat, s.heap.size ≤ q → A q := fun q h => by rw [← hAe]; exact Or.inr h
  have hS : va_S A s.heap s.heap [] := va_S.rf
  have hl := lv_entry ([.ref t0, .int x, .int y]) (n := 3) (Nat.le_of_ble_eq_true rfl)
  rw [lg_entry_eq]
  generalize (lg_sl ([.ref t0, .int x, .int y]) ++ List.replicate (3 - (lg_sl ([.ref t0, .int x, .int y])).length) Slot.unset).toArray = ls at hl ⊢
  have hl : lv_has ls 3 [(0, .ref t0), (1, .int x), (2, .int y)] := hl
  have hF := gm_f_Tree_addRule.eq_1 x y S
  unfold gm_p_Tree_addRule at hok
  refine lv_aload_n hx hb gm_d_Tree_addRule_0 rfl (lv_at hl 0 rfl) ?_
  refine va_get (D := D) (ci := 3) (v := .int (S.2.2 13)) (C := gm_R_Tree) (T := gm_F_Tree) (N := 14) hx hb hw gm_u_Tree hown hK hP 0 rfl rfl 13 (by decide) (hw _ gm_l_Tree_54) (fun _ h9 => h9) rfl gm_d_Tree_addRule_1 ?_
  refine lv_bipush (v := 8) hx hb gm_d_Tree_addRule_4 (by decide) ?_
  refine lv_icmp_ge (tgt := 51) hx hb gm_d_Tree_addRule_6 (by decide) (fun c6 => ?_) (fun c6 => ?_)
  · skip
    have hF := hF.trans (if_pos c6)
    have hok := hok.1 c6
    exact W.vret hx hb hr (fun t ht hW => ⟨⟨S, rfl, hF.symm, by rw [ht]; exact hP, va_K.moved hW.alike hK, hD⟩, hS.F ht⟩) hS.2.2 gm_d_Tree_addRule_51
  · skip
    have hF := hF.trans (if_neg c6)
    have hok := hok.2 c6
    refine lv_iload_n hx hb gm_d_Tree_addRule_9 rfl (lv_at hl 2 rfl) ?_
    refine lv_if_lt (tgt := 51) hx hb gm_d_Tree_addRule_10 (by decide) (fun c10 => ?_) (fun c10 => ?_)
    · skip
      have hF := hF.trans (if_pos c10)
      have hok := hok.1 c10
      exact W.vret hx hb hr (fun t ht hW => ⟨⟨S, rfl, hF.symm, by rw [ht]; exact hP, va_K.moved hW.alike hK, hD⟩, hS.F ht⟩) hS.2.2 gm_d_Tree_addRule_51
    · skip
      have hF := hF.trans (if_neg c10)
      have hok := hok.2 c10
      refine lv_iload_n hx hb gm_d_Tree_addRule_13 rfl (lv_at hl 2 rfl) ?_
      refine lv_aload_n hx hb gm_d_Tree_addRule_14 rfl (lv_at hl 0 rfl) ?_
      refine va_get (D := D) (ci := 3) (v := .int (S.2.2 11)) (C := gm_R_Tree) (T := gm_F_Tree) (N := 14) hx hb hw gm_u_Tree hown hK hP 0 rfl rfl 11 (by decide) (hw _ gm_l_Tree_47) (fun _ h9 => h9) rfl gm_d_Tree_addRule_15 ?_
      refine lv_icmp_ge (tgt := 51) hx hb gm_d_Tree_addRule_18 (by decide) (fun c18 => ?_) (fun c18 => ?_)
      · skip
        have hF := hF.trans (if_pos c18)
        have hok := hok.1 c18
        exact W.vret hx hb hr (fun t ht hW => ⟨⟨S, rfl, hF.symm, by rw [ht]; exact hP, va_K.moved hW.alike hK, hD⟩, hS.F ht⟩) hS.2.2 gm_d_Tree_addRule_51
      · skip
        have hF := hF.trans (if_neg c18)
        have hok := hok.2 c18
        refine lv_aload_n hx hb gm_d_Tree_addRule_21 rfl (lv_at hl 0 rfl) ?_
        refine va_get (D := D) (ci := 3) (v := .ref (q 9)) (C := gm_R_Tree) (T := gm_F_Tree) (N := 14) hx hb hw gm_u_Tree hown hK hP 0 rfl rfl 9 (by decide) (hw _ gm_l_Tree_41) (fun _ h9 => h9) rfl gm_d_Tree_addRule_22 ?_
        refine lv_aload_n hx hb gm_d_Tree_addRule_25 rfl (lv_at hl 0 rfl) ?_
        refine va_get (D := D) (ci := 3) (v := .int (S.2.2 13)) (C := gm_R_Tree) (T := gm_F_Tree) (N := 14) hx hb hw gm_u_Tree hown hK hP 0 rfl rfl 13 (by decide) (hw _ gm_l_Tree_54) (fun _ h9 => h9) rfl gm_d_Tree_addRule_26 ?_
        refine lv_iload_n hx hb gm_d_Tree_addRule_29 rfl (lv_at hl 1 rfl) ?_
        have i30 := hok.1
        have hok := hok.2
        refine va_iast hx hb hK hP hD hS 1 0 rfl rfl i30 gm_d_Tree_addRule_30 (fun H locs hP hD hS => ?_)
        have hP : va_P D gm_cl [(t0, .inr (3, [.ref (q 0), .ref (q 1), .ref (q 2), .ref (q 3), .ref (q 4), .ref (q 5), .ref (q 6), .ref (q 7), .ref (q 8), .ref (q 9), .ref (q 10), .int (S.2.2 11), .int (S.2.2 12), .int (S.2.2 13)])), ((q 9), .inl (cI, 8, .inl (upd (S.1 9) (Int32.toNatClampNeg (S.2.2 13)) x))), ((q 10), .inl (cI, 8, .inl (S.1 10)))] H := hP
        have hD : va_D A [(t0, .inr (3, [.ref (q 0), .ref (q 1), .ref (q 2), .ref (q 3), .ref (q 4), .ref (q 5), .ref (q 6), .ref (q 7), .ref (q 8), .ref (q 9), .ref (q 10), .int (S.2.2 11), .int (S.2.2 12), .int (S.2.2 13)])), ((q 9), .inl (cI, 8, .inl (upd (S.1 9) (Int32.toNatClampNeg (S.2.2 13)) x))), ((q 10), .inl (cI, 8, .inl (S.1 10)))] := hD
        refine lv_aload_n hx hb gm_d_Tree_addRule_31 rfl (lv_at hl 0 rfl) ?_
        refine va_get (D := D) (ci := 3) (v := .ref (q 10)) (C := gm_R_Tree) (T := gm_F_Tree) (N := 14) hx hb hw gm_u_Tree hown hK hP 0 rfl rfl 10 (by decide) (hw _ gm_l_Tree_44) (fun _ h9 => h9) rfl gm_d_Tree_addRule_32 ?_
        refine lv_aload_n hx hb gm_d_Tree_addRule_35 rfl (lv_at hl 0 rfl) ?_
        refine va_get (D := D) (ci := 3) (v := .int (S.2.2 13)) (C := gm_R_Tree) (T := gm_F_Tree) (N := 14) hx hb hw gm_u_Tree hown hK hP 0 rfl rfl 13 (by decide) (hw _ gm_l_Tree_54) (fun _ h9 => h9) rfl gm_d_Tree_addRule_36 ?_
        refine lv_iload_n hx hb gm_d_Tree_addRule_39 rfl (lv_at hl 2 rfl) ?_
        have i40 := hok.1
        have hok := hok.2
        refine va_iast hx hb hK hP hD hS 2 0 rfl rfl i40 gm_d_Tree_addRule_40 (fun H locs hP hD hS => ?_)
        have hP : va_P D gm_cl [(t0, .inr (3, [.ref (q 0), .ref (q 1), .ref (q 2), .ref (q 3), .ref (q 4), .ref (q 5), .ref (q 6), .ref (q 7), .ref (q 8), .ref (q 9), .ref (q 10), .int (S.2.2 11), .int (S.2.2 12), .int (S.2.2 13)])), ((q 9), .inl (cI, 8, .inl (upd (S.1 9) (Int32.toNatClampNeg (S.2.2 13)) x))), ((q 10), .inl (cI, 8, .inl (upd (S.1 10) (Int32.toNatClampNeg (S.2.2 13)) y)))] H := hP
        have hD : va_D A [(t0, .inr (3, [.ref (q 0), .ref (q 1), .ref (q 2), .ref (q 3), .ref (q 4), .ref (q 5), .ref (q 6), .ref (q 7), .ref (q 8), .ref (q 9), .ref (q 10), .int (S.2.2 11), .int (S.2.2 12), .int (S.2.2 13)])), ((q 9), .inl (cI, 8, .inl (upd (S.1 9) (Int32.toNatClampNeg (S.2.2 13)) x))), ((q 10), .inl (cI, 8, .inl (upd (S.1 10) (Int32.toNatClampNeg (S.2.2 13)) y)))] := hD
        refine lv_aload_n hx hb gm_d_Tree_addRule_41 rfl (lv_at hl 0 rfl) ?_
        refine lv_dup hx hb gm_d_Tree_addRule_42 rfl ?_
        refine va_get (D := D) (ci := 3) (v := .int (S.2.2 13)) (C := gm_R_Tree) (T := gm_F_Tree) (N := 14) hx hb hw gm_u_Tree hown hK hP 0 rfl rfl 13 (by decide) (hw _ gm_l_Tree_54) (fun _ h9 => h9) rfl gm_d_Tree_addRule_43 ?_
        refine lv_iconst (v := 1) hx hb gm_d_Tree_addRule_46 (by decide) ?_
        refine lv_iadd hx hb gm_d_Tree_addRule_47 ?_
        refine va_put (D := D) (ci := 3) (v := .int ((S.2.2 13) + 1)) (ty := .int) (C := gm_R_Tree) (T := gm_F_Tree) (N := 14) hx hb hw gm_u_Tree gm_t_Tree gm_o_Tree gm_n_Tree hown hK hP hD hS 0 rfl rfl 13 (by decide) (hw _ gm_l_Tree_54) (fun _ h9 => h9) rfl (by decide +kernel) rfl rfl (Nat.le_of_ble_eq_true rfl) gm_d_Tree_addRule_48 (fun H locs hP hD hS => ?_)
        have hP : va_P D gm_cl [(t0, .inr (3, [.ref (q 0), .ref (q 1), .ref (q 2), .ref (q 3), .ref (q 4), .ref (q 5), .ref (q 6), .ref (q 7), .ref (q 8), .ref (q 9), .ref (q 10), .int (S.2.2 11), .int (S.2.2 12), .int ((S.2.2 13) + 1)])), ((q 9), .inl (cI, 8, .inl (upd (S.1 9) (Int32.toNatClampNeg (S.2.2 13)) x))), ((q 10), .inl (cI, 8, .inl (upd (S.1 10) (Int32.toNatClampNeg (S.2.2 13)) y)))] H := hP
        have hD : va_D A [(t0, .inr (3, [.ref (q 0), .ref (q 1), .ref (q 2), .ref (q 3), .ref (q 4), .ref (q 5), .ref (q 6), .ref (q 7), .ref (q 8), .ref (q 9), .ref (q 10), .int (S.2.2 11), .int (S.2.2 12), .int ((S.2.2 13) + 1)])), ((q 9), .inl (cI, 8, .inl (upd (S.1 9) (Int32.toNatClampNeg (S.2.2 13)) x))), ((q 10), .inl (cI, 8, .inl (upd (S.1 10) (Int32.toNatClampNeg (S.2.2 13)) y)))] := hD
        have hP : va_P D gm_cl [(t0, .inr (3, [.ref (q 0), .ref (q 1), .ref (q 2), .ref (q 3), .ref (q 4), .ref (q 5), .ref (q 6), .ref (q 7), .ref (q 8), .ref (q 9), .ref (q 10), .int (S.2.2 11), .int (S.2.2 12), .int ((S.2.2 13) + 1)])), ((q 9), .inl (cI, 8, .inl (upd (S.1 9) (Int32.toNatClampNeg (S.2.2 13)) x))), ((q 10), .inl (cI, 8, .inl (upd (S.1 10) (Int32.toNatClampNeg (S.2.2 13)) y)))] H := hP
        have hD : va_D A [(t0, .inr (3, [.ref (q 0), .ref (q 1), .ref (q 2), .ref (q 3), .ref (q 4), .ref (q 5), .ref (q 6), .ref (q 7), .ref (q 8), .ref (q 9), .ref (q 10), .int (S.2.2 11), .int (S.2.2 12), .int ((S.2.2 13) + 1)])), ((q 9), .inl (cI, 8, .inl (upd (S.1 9) (Int32.toNatClampNeg (S.2.2 13)) x))), ((q 10), .inl (cI, 8, .inl (upd (S.1 10) (Int32.toNatClampNeg (S.2.2 13)) y)))] := hD
        exact W.vret hx hb hr (fun t ht hW => ⟨⟨((va_up (va_up S.1 9 (upd (S.1 9) (Int32.toNatClampNeg (S.2.2 13)) x)) 10 (upd (S.1 10) (Int32.toNatClampNeg (S.2.2 13)) y)), S.2.1, (va_up S.2.2 13 ((S.2.2 13) + 1))), rfl, hF.symm, by rw [ht]; exact hP, va_K.moved hW.alike hK, hD⟩, hS.F ht⟩) hS.2.2 gm_d_Tree_addRule_51
def gm_f_Tree_ruleOf_2 (x : Int32) (S : gm_S) : Nat → Int32 → gm_S → Int32 × (gm_S)
  | 0, _, S_2 => (0, S_2)
  | n2 + 1, v2_2, S_2 => (if (S.2.2 13) ≤ v2_2 then ((-1), S) else (if ((S.1 9) (Int32.toNatClampNeg v2_2)) = x then (v2_2, S) else (gm_f_Tree_ruleOf_2 x S n2 (v2_2 + 1) S)))
def gm_p_Tree_ruleOf_2 (x : Int32) (S : gm_S) : Nat → Int32 → gm_S → Prop
  | 0, _, _ => False
  | n2 + 1, v2_2, S_2 => (((S.2.2 13) ≤ v2_2 → True) ∧ (¬ ((S.2.2 13) ≤ v2_2) → (vp_in v2_2 8 ∧ ((((S.1 9) (Int32.toNatClampNeg v2_2)) = x → True) ∧ (¬ (((S.1 9) (Int32.toNatClampNeg v2_2)) = x) → (gm_p_Tree_ruleOf_2 x S n2 (v2_2 + 1) S))))))
def gm_f_Tree_ruleOf (x : Int32) (S : gm_S) : Int32 × (gm_S) := (gm_f_Tree_ruleOf_2 x S 9 0 S)
def gm_p_Tree_ruleOf (x : Int32) (S : gm_S) : Prop := (gm_p_Tree_ruleOf_2 x S 9 0 S)
set_option maxHeartbeats 4000000 in
set_option maxRecDepth 100000 in
theorem gm_a_Tree_ruleOf (l : Launch) (D : va_G) (cI cJ cC cZ : ClassId) (t0 : Nat) (q : Nat → Nat) (x : Int32) (S : gm_S) (sz : Nat) (hok : gm_p_Tree_ruleOf x S) : Met l gm_y_Tree_ruleOf (Cond.code gm_y_Tree_ruleOf gm_b_Tree_ruleOf 3 (some .int) :: gm_W) { frames := 4, cells := 0, slots := 0, locals := 64 } (va_Pc [.ref t0, .int x] (fun U => U.heap.size = sz ∧ va_P D gm_cl [(t0, .inr (3, [.ref (q 0), .ref (q 1), .ref (q 2), .ref (q 3), .ref (q 4), .ref (q 5), .ref (q 6), .ref (q 7), .ref (q 8), .ref (q 9), .ref (q 10), .int (S.2.2 11), .int (S.2.2 12), .int (S.2.2 13)])), ((q 9), .inl (cI, 8, .inl (S.1 9)))] U.heap ∧ va_K D gm_cl (gm_T cI cJ cC cZ) U ∧ va_D (fun _ => True) [(t0, .inr (3, [.ref (q 0), .ref (q 1), .ref (q 2), .ref (q 3), .ref (q 4), .ref (q 5), .ref (q 6), .ref (q 7), .ref (q 8), .ref (q 9), .ref (q 10), .int (S.2.2 11), .int (S.2.2 12), .int (S.2.2 13)])), ((q 9), .inl (cI, 8, .inl (S.1 9)))])) (va_Qi (fun (r : Int32) (u : gm_S) => (r, u) = gm_f_Tree_ruleOf x S) (fun u t => gm_at D (va_A [(t0, .inr (3, [.ref (q 0), .ref (q 1), .ref (q 2), .ref (q 3), .ref (q 4), .ref (q 5), .ref (q 6), .ref (q 7), .ref (q 8), .ref (q 9), .ref (q 10), .int (S.2.2 11), .int (S.2.2 12), .int (S.2.2 13)])), ((q 9), .inl (cI, 8, .inl (S.1 9)))] sz) [(t0, .inr (3, [.ref (q 0), .ref (q 1), .ref (q 2), .ref (q 3), .ref (q 4), .ref (q 5), .ref (q 6), .ref (q 7), .ref (q 8), .ref (q 9), .ref (q 10), .int (S.2.2 11), .int (S.2.2 12), .int (S.2.2 13)])), ((q 9), .inl (cI, 8, .inl (S.1 9)))] (gm_T cI cJ cC cZ) t) (va_A [(t0, .inr (3, [.ref (q 0), .ref (q 1), .ref (q 2), .ref (q 3), .ref (q 4), .ref (q 5), .ref (q 6), .ref (q 7), .ref (q 8), .ref (q 9), .ref (q 10), .int (S.2.2 11), .int (S.2.2 12), .int (S.2.2 13)])), ((q 9), .inl (cI, 8, .inl (S.1 9)))] sz)) 0 0 (va_A [(t0, .inr (3, [.ref (q 0), .ref (q 1), .ref (q 2), .ref (q 3), .ref (q 4), .ref (q 5), .ref (q 6), .ref (q 7), .ref (q 8), .ref (q 9), .ref (q 10), .int (S.2.2 11), .int (S.2.2 12), .int (S.2.2 13)])), ((q 9), .inl (cI, 8, .inl (S.1 9)))] sz) := by
  refine Met.ofW (cc := gm_b_Tree_ruleOf) (maxL := 3) (ret := (some .int)) (by decide) rfl ?_
  intro p e s m args below meth c s₁ B hml hv
  obtain ⟨rfl, hsz, hP, hK, hD0⟩ := hv
  have hx := B.exec
  have hb := B.bytes
  have hr := B.returns
  have hw : ∀ w ∈ gm_W, w.before _ s = true := fun w h => atoms_spec B.pre w (List.mem_cons_of_mem _ h)
  have hown : s.vm.findClass gm_R_Tree = some m.cls := findClass_of_methodNamed B.named
  subst hsz
  have hD := hD0.self (sz := s.heap.size)
  generalize hAe : va_A [(t0, .inr (3, [.ref (q 0), .ref (q 1), .ref (q 2), .ref (q 3), .ref (q 4), .ref (q 5), .ref (q 6), .ref (q 7), .ref (q 8), .ref (q 9), .ref (q 10), .int (S.2.2 11), .int (S.2.2 12), .int (S.2.2 13)])), ((q 9), .inl (cI, 8, .inl (S.1 9)))] s.heap.size = A at hD ⊢
  have hA : ∀ q : Nat, s.heap.size ≤ q → A q := fun q h => by rw [← hAe]; exact Or.inr h
  have hS : va_S A s.heap s.heap [] := va_S.rf
  have hl := lv_entry ([.ref t0, .int x]) (n := 3) (Nat.le_of_ble_eq_true rfl)
  rw [lg_entry_eq]
  generalize (lg_sl ([.ref t0, .int x]) ++ List.replicate (3 - (lg_sl ([.ref t0, .int x])).length) Slot.unset).toArray = ls at hl ⊢
  have hl : lv_has ls 3 [(0, .ref t0), (1, .int x)] := hl
  have hF := gm_f_Tree_ruleOf.eq_1 x S
  unfold gm_p_Tree_ruleOf at hok
  refine lv_iconst (v := 0) hx hb gm_d_Tree_ruleOf_0 (by decide) ?_
  refine lv_istore_n (lv' := [(2, .int 0), (0, .ref t0), (1, .int x)]) hx hb gm_d_Tree_ruleOf_1 rfl hl (Nat.le_of_ble_eq_true rfl) rfl (fun ls hl => ?_)
  refine (?_ : ∀ (n2 : Nat) (v2_2 : Int32) (S_2 : gm_S) (H : Heap) (locs : List Loc) (ls : Array Slot), lv_has ls 3 [(2, .int v2_2), (0, .ref t0), (1, .int x)] → va_P D gm_cl [(t0, .inr (3, [.ref (q 0), .ref (q 1), .ref (q 2), .ref (q 3), .ref (q 4), .ref (q 5), .ref (q 6), .ref (q 7), .ref (q 8), .ref (q 9), .ref (q 10), .int (S.2.2 11), .int (S.2.2 12), .int (S.2.2 13)])), ((q 9), .inl (cI, 8, .inl (S.1 9)))] H → va_D A [(t0, .inr (3, [.ref (q 0), .ref (q 1), .ref (q 2), .ref (q 3), .ref (q 4), .ref (q 5), .ref (q 6), .ref (q 7), .ref (q 8), .ref (q 9), .ref (q 10), .int (S.2.2 11), .int (S.2.2 12), .int (S.2.2 13)])), ((q 9), .inl (cI, 8, .inl (S.1 9)))] → va_S A s.heap H locs → gm_f_Tree_ruleOf x S = gm_f_Tree_ruleOf_2 x S n2 v2_2 S_2 → gm_p_Tree_ruleOf_2 x S n2 v2_2 S_2 → W p l e (headSpec (Cond.code gm_y_Tree_ruleOf gm_b_Tree_ruleOf 3 (some .int) :: gm_W) { frames := 4, cells := 0, slots := 0, locals := 64 }).room s m ([.ref t0, .int x] : List Value).toArray below meth c H locs 0 0 (MQ below (va_Qi (fun (r : Int32) (u : gm_S) => (r, u) = gm_f_Tree_ruleOf x S) (fun u t => gm_at D A [(t0, .inr (3, [.ref (q 0), .ref (q 1), .ref (q 2), .ref (q 3), .ref (q 4), .ref (q 5), .ref (q 6), .ref (q 7), .ref (q 8), .ref (q 9), .ref (q 10), .int (S.2.2 11), .int (S.2.2 12), .int (S.2.2 13)])), ((q 9), .inl (cI, 8, .inl (S.1 9)))] (gm_T cI cJ cC cZ) t) A) ([.ref t0, .int x] : List Value).toArray s 0 0 A) (F0 m 2 ls [])) 9 0 S _ _ _ hl hP hD hS hF hok
  clear hok hF hP hD hS hl
  intro n2
  induction n2 with
  | zero => intro v2_2 S_2 H locs ls hl hP hD hS hF hok; exact hok.elim
  | succ n2 ih2 =>
    intro v2_2 S_2 H locs ls hl hP hD hS hF hok
    rw [gm_f_Tree_ruleOf_2] at hF
    rw [gm_p_Tree_ruleOf_2] at hok
    refine lv_iload_n hx hb gm_d_Tree_ruleOf_2 rfl (lv_at hl 0 rfl) ?_
    refine lv_aload_n hx hb gm_d_Tree_ruleOf_3 rfl (lv_at hl 1 rfl) ?_
    refine va_get (D := D) (ci := 3) (v := .int (S.2.2 13)) (C := gm_R_Tree) (T := gm_F_Tree) (N := 14) hx hb hw gm_u_Tree hown hK hP 0 rfl rfl 13 (by decide) (hw _ gm_l_Tree_54) (fun _ h9 => h9) rfl gm_d_Tree_ruleOf_4 ?_
    refine lv_icmp_ge (tgt := 28) hx hb gm_d_Tree_ruleOf_7 (by decide) (fun c7 => ?_) (fun c7 => ?_)
    · skip
      have hF := hF.trans (if_pos c7)
      have hok := hok.1 c7
      refine lv_iconst (v := (-1)) hx hb gm_d_Tree_ruleOf_28 (by decide) ?_
      exact W.iret (v := (-1)) hx hb hr (fun t ht hW => ⟨⟨(-1), S, rfl, hF.symm, by rw [ht]; exact hP, va_K.moved hW.alike hK, hD⟩, hS.F ht⟩) hS.2.2 gm_d_Tree_ruleOf_29
    · skip
      have hF := hF.trans (if_neg c7)
      have hok := hok.2 c7
      refine lv_aload_n hx hb gm_d_Tree_ruleOf_10 rfl (lv_at hl 1 rfl) ?_
      refine va_get (D := D) (ci := 3) (v := .ref (q 9)) (C := gm_R_Tree) (T := gm_F_Tree) (N := 14) hx hb hw gm_u_Tree hown hK hP 0 rfl rfl 9 (by decide) (hw _ gm_l_Tree_41) (fun _ h9 => h9) rfl gm_d_Tree_ruleOf_11 ?_
      refine lv_iload_n hx hb gm_d_Tree_ruleOf_14 rfl (lv_at hl 0 rfl) ?_
      have i15 := hok.1
      have hok := hok.2
      refine va_iald hx hb hK hP 1 0 rfl rfl i15 gm_d_Tree_ruleOf_15 ?_
      refine lv_iload_n hx hb gm_d_Tree_ruleOf_16 rfl (lv_at hl 2 rfl) ?_
      refine lv_icmp_ne (tgt := 22) hx hb gm_d_Tree_ruleOf_17 (by decide) (fun c17 => ?_) (fun c17 => ?_)
      · skip
        have hF := hF.trans (if_neg c17)
        have hok := hok.2 c17
        refine lv_iinc (lv' := [(2, .int (v2_2 + 1)), (0, .ref t0), (1, .int x)]) (k := 0) (v := (v2_2 + 1)) hx hb gm_d_Tree_ruleOf_22 hl rfl rfl (Nat.le_of_ble_eq_true rfl) rfl (fun ls hl => ?_)
        refine lv_goto (tgt := 2) hx hb gm_d_Tree_ruleOf_25 (by decide) ?_
        exact ih2 (v2_2 + 1) S _ _ _ (lv_sub hl [0, 1, 2] rfl) hP hD hS hF hok
      · skip
        have hF := hF.trans (if_pos c17)
        have hok := hok.1 c17
        refine lv_iload_n hx hb gm_d_Tree_ruleOf_20 rfl (lv_at hl 0 rfl) ?_
        exact W.iret (v := v2_2) hx hb hr (fun t ht hW => ⟨⟨v2_2, S, rfl, hF.symm, by rw [ht]; exact hP, va_K.moved hW.alike hK, hD⟩, hS.F ht⟩) hS.2.2 gm_d_Tree_ruleOf_21
def gm_f_Tree_rootOf (x : Int32) (S : gm_S) : Int32 × (gm_S) := (gm_bd (gm_f_Tree_ruleOf x S) (fun r2 u2 => (if r2 = (-1) then ((-1), S) else (((S.1 10) (Int32.toNatClampNeg r2)), S))))
def gm_p_Tree_rootOf (x : Int32) (S : gm_S) : Prop := (gm_p_Tree_ruleOf x S ∧ gm_bd (gm_f_Tree_ruleOf x S) (fun r2 u2 => ((r2 = (-1) → True) ∧ (¬ (r2 = (-1)) → (vp_in r2 8 ∧ True)))))
set_option maxHeartbeats 4000000 in
set_option maxRecDepth 100000 in
theorem gm_a_Tree_rootOf (l : Launch) (D : va_G) (cI cJ cC cZ : ClassId) (t0 : Nat) (q : Nat → Nat) (x : Int32) (S : gm_S) (sz : Nat) (hok : gm_p_Tree_rootOf x S) : Met l gm_y_Tree_rootOf (Cond.code gm_y_Tree_rootOf gm_b_Tree_rootOf 3 (some .int) :: gm_W) { frames := 8, cells := 0, slots := 0, locals := 128 } (va_Pc [.ref t0, .int x] (fun U => U.heap.size = sz ∧ va_P D gm_cl [(t0, .inr (3, [.ref (q 0), .ref (q 1), .ref (q 2), .ref (q 3), .ref (q 4), .ref (q 5), .ref (q 6), .ref (q 7), .ref (q 8), .ref (q 9), .ref (q 10), .int (S.2.2 11), .int (S.2.2 12), .int (S.2.2 13)])), ((q 9), .inl (cI, 8, .inl (S.1 9))), ((q 10), .inl (cI, 8, .inl (S.1 10)))] U.heap ∧ va_K D gm_cl (gm_T cI cJ cC cZ) U ∧ va_D (fun _ => True) [(t0, .inr (3, [.ref (q 0), .ref (q 1), .ref (q 2), .ref (q 3), .ref (q 4), .ref (q 5), .ref (q 6), .ref (q 7), .ref (q 8), .ref (q 9), .ref (q 10), .int (S.2.2 11), .int (S.2.2 12), .int (S.2.2 13)])), ((q 9), .inl (cI, 8, .inl (S.1 9))), ((q 10), .inl (cI, 8, .inl (S.1 10)))])) (va_Qi (fun (r : Int32) (u : gm_S) => (r, u) = gm_f_Tree_rootOf x S) (fun u t => gm_at D (va_A [(t0, .inr (3, [.ref (q 0), .ref (q 1), .ref (q 2), .ref (q 3), .ref (q 4), .ref (q 5), .ref (q 6), .ref (q 7), .ref (q 8), .ref (q 9), .ref (q 10), .int (S.2.2 11), .int (S.2.2 12), .int (S.2.2 13)])), ((q 9), .inl (cI, 8, .inl (S.1 9))), ((q 10), .inl (cI, 8, .inl (S.1 10)))] sz) [(t0, .inr (3, [.ref (q 0), .ref (q 1), .ref (q 2), .ref (q 3), .ref (q 4), .ref (q 5), .ref (q 6), .ref (q 7), .ref (q 8), .ref (q 9), .ref (q 10), .int (S.2.2 11), .int (S.2.2 12), .int (S.2.2 13)])), ((q 9), .inl (cI, 8, .inl (S.1 9))), ((q 10), .inl (cI, 8, .inl (S.1 10)))] (gm_T cI cJ cC cZ) t) (va_A [(t0, .inr (3, [.ref (q 0), .ref (q 1), .ref (q 2), .ref (q 3), .ref (q 4), .ref (q 5), .ref (q 6), .ref (q 7), .ref (q 8), .ref (q 9), .ref (q 10), .int (S.2.2 11), .int (S.2.2 12), .int (S.2.2 13)])), ((q 9), .inl (cI, 8, .inl (S.1 9))), ((q 10), .inl (cI, 8, .inl (S.1 10)))] sz)) 0 0 (va_A [(t0, .inr (3, [.ref (q 0), .ref (q 1), .ref (q 2), .ref (q 3), .ref (q 4), .ref (q 5), .ref (q 6), .ref (q 7), .ref (q 8), .ref (q 9), .ref (q 10), .int (S.2.2 11), .int (S.2.2 12), .int (S.2.2 13)])), ((q 9), .inl (cI, 8, .inl (S.1 9))), ((q 10), .inl (cI, 8, .inl (S.1 10)))] sz) := by
  refine Met.ofW (cc := gm_b_Tree_rootOf) (maxL := 3) (ret := (some .int)) (by decide) rfl ?_
  intro p e s m args below meth c s₁ B hml hv
  obtain ⟨rfl, hsz, hP, hK, hD0⟩ := hv
  have hx := B.exec
  have hb := B.bytes
  have hr := B.returns
  have hw : ∀ w ∈ gm_W, w.before _ s = true := fun w h => atoms_spec B.pre w (List.mem_cons_of_mem _ h)
  have hown : s.vm.findClass gm_R_Tree = some m.cls := findClass_of_methodNamed B.named
  subst hsz
  have hD := hD0.self (sz := s.heap.size)
  generalize hAe : va_A [(t0, .inr (3, [.ref (q 0), .ref (q 1), .ref (q 2), .ref (q 3), .ref (q 4), .ref (q 5), .ref (q 6), .ref (q 7), .ref (q 8), .ref (q 9), .ref (q 10), .int (S.2.2 11), .int (S.2.2 12), .int (S.2.2 13)])), ((q 9), .inl (cI, 8, .inl (S.1 9))), ((q 10), .inl (cI, 8, .inl (S.1 10)))] s.heap.size = A at hD ⊢
  have hA : ∀ q : Nat, s.heap.size ≤ q → A q := fun q h => by rw [← hAe]; exact Or.inr h
  have hS : va_S A s.heap s.heap [] := va_S.rf
  have hl := lv_entry ([.ref t0, .int x]) (n := 3) (Nat.le_of_ble_eq_true rfl)
  rw [lg_entry_eq]
  generalize (lg_sl ([.ref t0, .int x]) ++ List.replicate (3 - (lg_sl ([.ref t0, .int x])).length) Slot.unset).toArray = ls at hl ⊢
  have hl : lv_has ls 3 [(0, .ref t0), (1, .int x)] := hl
  have hF := gm_f_Tree_rootOf.eq_1 x S
  unfold gm_p_Tree_rootOf at hok
  refine lv_aload_n hx hb gm_d_Tree_rootOf_0 rfl (lv_at hl 0 rfl) ?_
  refine lv_iload_n hx hb gm_d_Tree_rootOf_1 rfl (lv_at hl 1 rfl) ?_
  have hPc := hP.sub (ws' := [(t0, .inr (3, [.ref (q 0), .ref (q 1), .ref (q 2), .ref (q 3), .ref (q 4), .ref (q 5), .ref (q 6), .ref (q 7), .ref (q 8), .ref (q 9), .ref (q 10), .int (S.2.2 11), .int (S.2.2 12), .int (S.2.2 13)])), ((q 9), .inl (cI, 8, .inl (S.1 9)))]) [0, 1] rfl
  have hDc := hD.sub (ws' := [(t0, .inr (3, [.ref (q 0), .ref (q 1), .ref (q 2), .ref (q 3), .ref (q 4), .ref (q 5), .ref (q 6), .ref (q 7), .ref (q 8), .ref (q 9), .ref (q 10), .int (S.2.2 11), .int (S.2.2 12), .int (S.2.2 13)])), ((q 9), .inl (cI, 8, .inl (S.1 9)))]) [0, 1] (by decide) rfl
  have hFc := va_free (wc := [(t0, .inr (3, [.ref (q 0), .ref (q 1), .ref (q 2), .ref (q 3), .ref (q 4), .ref (q 5), .ref (q 6), .ref (q 7), .ref (q 8), .ref (q 9), .ref (q 10), .int (S.2.2 11), .int (S.2.2 12), .int (S.2.2 13)])), ((q 9), .inl (cI, 8, .inl (S.1 9)))]) hD hS hA [0, 1] rfl
  refine va_calli (va_runV (As := [.int x]) (rest := []) ⟨hx, hb, hml, hown, hw⟩ (gm_a_Tree_ruleOf l D cI cJ cC cZ t0 q   x S s.heap.size  hok.1) (cwV 1 hw (gm_gV gm_l_Tree_57 gm_q_Tree_ruleOf gm_s_Tree_ruleOf gm_i_Tree (gm_gd gm_k_Tree_ruleOf)) rfl rfl rfl (by decide +kernel) ⟨Nat.le_of_ble_eq_true rfl, Nat.le_of_ble_eq_true rfl⟩) ⟨fun a U g mk q => by obtain ⟨q0, q1, qP, qK, qD⟩ := q; exact ⟨q0, q1, qP, va_K.moved (u := U) (U := U.calling g mk a) (Vm.Alike.refl U.vm) qK, qD⟩, va_recv hK hP (ci := 3) rfl (q0 := 0) rfl, fun U hU hW => ⟨rfl, by rw [hU], by rw [hU]; exact hPc, va_K.moved hW.alike hK, hDc.weaken (fun _ _ _ _ => trivial)⟩⟩ rfl rfl hl.1 rfl (lv_room (Nat.le_of_ble_eq_true rfl)) gm_d_Tree_rootOf_2 ⟨Nat.le_of_ble_eq_true rfl, Nat.le_of_ble_eq_true rfl⟩) hS (fun q _ h => hFc q h) hFc (fun r2 u2 t H1 locs ht hvm h2 hB hz1 hk1 hS => ?_)
  obtain ⟨hP1, -, hD1⟩ := hB
  rw [ht] at hP1
  have hP1 : va_P D gm_cl [(t0, .inr (3, [.ref (q 0), .ref (q 1), .ref (q 2), .ref (q 3), .ref (q 4), .ref (q 5), .ref (q 6), .ref (q 7), .ref (q 8), .ref (q 9), .ref (q 10), .int (S.2.2 11), .int (S.2.2 12), .int (S.2.2 13)])), ((q 9), .inl (cI, 8, .inl (S.1 9)))] H1 := hP1
  have hD1 : va_D (va_A [(t0, .inr (3, [.ref (q 0), .ref (q 1), .ref (q 2), .ref (q 3), .ref (q 4), .ref (q 5), .ref (q 6), .ref (q 7), .ref (q 8), .ref (q 9), .ref (q 10), .int (S.2.2 11), .int (S.2.2 12), .int (S.2.2 13)])), ((q 9), .inl (cI, 8, .inl (S.1 9)))] s.heap.size) [(t0, .inr (3, [.ref (q 0), .ref (q 1), .ref (q 2), .ref (q 3), .ref (q 4), .ref (q 5), .ref (q 6), .ref (q 7), .ref (q 8), .ref (q 9), .ref (q 10), .int (S.2.2 11), .int (S.2.2 12), .int (S.2.2 13)])), ((q 9), .inl (cI, 8, .inl (S.1 9)))] := hD1
  obtain ⟨hP, hD⟩ := va_join (wr := [((q 10), .inl (cI, 8, .inl (S.1 10)))]) hP hD [0, 1] [2] rfl rfl (by decide) (by decide) hk1 hFc hP1 hD1
  generalize H1 = H at hP hS ⊢
  have hP : va_P D gm_cl [((q 10), .inl (cI, 8, .inl (S.1 10))), (t0, .inr (3, [.ref (q 0), .ref (q 1), .ref (q 2), .ref (q 3), .ref (q 4), .ref (q 5), .ref (q 6), .ref (q 7), .ref (q 8), .ref (q 9), .ref (q 10), .int (S.2.2 11), .int (S.2.2 12), .int (S.2.2 13)])), ((q 9), .inl (cI, 8, .inl (S.1 9)))] H := hP
  have hD : va_D A [((q 10), .inl (cI, 8, .inl (S.1 10))), (t0, .inr (3, [.ref (q 0), .ref (q 1), .ref (q 2), .ref (q 3), .ref (q 4), .ref (q 5), .ref (q 6), .ref (q 7), .ref (q 8), .ref (q 9), .ref (q 10), .int (S.2.2 11), .int (S.2.2 12), .int (S.2.2 13)])), ((q 9), .inl (cI, 8, .inl (S.1 9)))] := hD
  have hP := hP.sub (ws' := [(t0, .inr (3, [.ref (q 0), .ref (q 1), .ref (q 2), .ref (q 3), .ref (q 4), .ref (q 5), .ref (q 6), .ref (q 7), .ref (q 8), .ref (q 9), .ref (q 10), .int (S.2.2 11), .int (S.2.2 12), .int (S.2.2 13)])), ((q 9), .inl (cI, 8, .inl (S.1 9))), ((q 10), .inl (cI, 8, .inl (S.1 10)))]) [1, 2, 0] rfl
  have hD := hD.sub (ws' := [(t0, .inr (3, [.ref (q 0), .ref (q 1), .ref (q 2), .ref (q 3), .ref (q 4), .ref (q 5), .ref (q 6), .ref (q 7), .ref (q 8), .ref (q 9), .ref (q 10), .int (S.2.2 11), .int (S.2.2 12), .int (S.2.2 13)])), ((q 9), .inl (cI, 8, .inl (S.1 9))), ((q 10), .inl (cI, 8, .inl (S.1 10)))]) [1, 2, 0] (by decide) rfl
  have hF := hF.trans (gm_bd_eq h2)
  have hok := gm_bd_ok h2 hok.2
  refine lv_istore_n (lv' := [(2, .int r2), (0, .ref t0), (1, .int x)]) hx hb gm_d_Tree_rootOf_5 rfl hl (Nat.le_of_ble_eq_true rfl) rfl (fun ls hl => ?_)
  refine lv_iload_n hx hb gm_d_Tree_rootOf_6 rfl (lv_at hl 0 rfl) ?_
  refine lv_iconst (v := (-1)) hx hb gm_d_Tree_rootOf_7 (by decide) ?_
  refine lv_icmp_ne (tgt := 15) hx hb gm_d_Tree_rootOf_8 (by decide) (fun c8 => ?_) (fun c8 => ?_)
  · skip
    have hF := hF.trans (if_neg c8)
    have hok := hok.2 c8
    refine lv_aload_n hx hb gm_d_Tree_rootOf_15 rfl (lv_at hl 1 rfl) ?_
    refine va_get (D := D) (ci := 3) (v := .ref (q 10)) (C := gm_R_Tree) (T := gm_F_Tree) (N := 14) hx hb hw gm_u_Tree hown hK hP 0 rfl rfl 10 (by decide) (hw _ gm_l_Tree_44) (fun _ h9 => h9) rfl gm_d_Tree_rootOf_16 ?_
    refine lv_iload_n hx hb gm_d_Tree_rootOf_19 rfl (lv_at hl 0 rfl) ?_
    have i20 := hok.1
    have hok := hok.2
    refine va_iald hx hb hK hP 2 0 rfl rfl i20 gm_d_Tree_rootOf_20 ?_
    exact W.iret (v := ((S.1 10) (Int32.toNatClampNeg r2))) hx hb hr (fun t ht hW => ⟨⟨((S.1 10) (Int32.toNatClampNeg r2)), S, rfl, hF.symm, by rw [ht]; exact hP, va_K.moved hW.alike hK, hD⟩, hS.F ht⟩) hS.2.2 gm_d_Tree_rootOf_21
  · skip
    have hF := hF.trans (if_pos c8)
    have hok := hok.1 c8
    refine lv_iconst (v := (-1)) hx hb gm_d_Tree_rootOf_11 (by decide) ?_
    refine lv_goto (tgt := 21) hx hb gm_d_Tree_rootOf_12 (by decide) ?_
    exact W.iret (v := (-1)) hx hb hr (fun t ht hW => ⟨⟨(-1), S, rfl, hF.symm, by rw [ht]; exact hP, va_K.moved hW.alike hK, hD⟩, hS.F ht⟩) hS.2.2 gm_d_Tree_rootOf_21
def gm_f_Tree_firstNodeOf (x : Int32) (S : gm_S) : Int32 × (gm_S) := (if x ≤ 0 then (0, S) else (if x < (S.2.2 13) then ((((S.1 10) (Int32.toNatClampNeg (x - 1))) + 1), S) else (0, S)))
def gm_p_Tree_firstNodeOf (x : Int32) (S : gm_S) : Prop := ((x ≤ 0 → True) ∧ (¬ (x ≤ 0) → ((x < (S.2.2 13) → (vp_in (x - 1) 8 ∧ True)) ∧ (¬ (x < (S.2.2 13)) → True))))
set_option maxHeartbeats 4000000 in
set_option maxRecDepth 100000 in
theorem gm_a_Tree_firstNodeOf (l : Launch) (D : va_G) (cI cJ cC cZ : ClassId) (t0 : Nat) (q : Nat → Nat) (x : Int32) (S : gm_S) (sz : Nat) (hok : gm_p_Tree_firstNodeOf x S) : Met l gm_y_Tree_firstNodeOf (Cond.code gm_y_Tree_firstNodeOf gm_b_Tree_firstNodeOf 2 (some .int) :: gm_W) { frames := 4, cells := 0, slots := 0, locals := 64 } (va_Pc [.ref t0, .int x] (fun U => U.heap.size = sz ∧ va_P D gm_cl [(t0, .inr (3, [.ref (q 0), .ref (q 1), .ref (q 2), .ref (q 3), .ref (q 4), .ref (q 5), .ref (q 6), .ref (q 7), .ref (q 8), .ref (q 9), .ref (q 10), .int (S.2.2 11), .int (S.2.2 12), .int (S.2.2 13)])), ((q 10), .inl (cI, 8, .inl (S.1 10)))] U.heap ∧ va_K D gm_cl (gm_T cI cJ cC cZ) U ∧ va_D (fun _ => True) [(t0, .inr (3, [.ref (q 0), .ref (q 1), .ref (q 2), .ref (q 3), .ref (q 4), .ref (q 5), .ref (q 6), .ref (q 7), .ref (q 8), .ref (q 9), .ref (q 10), .int (S.2.2 11), .int (S.2.2 12), .int (S.2.2 13)])), ((q 10), .inl (cI, 8, .inl (S.1 10)))])) (va_Qi (fun (r : Int32) (u : gm_S) => (r, u) = gm_f_Tree_firstNodeOf x S) (fun u t => gm_at D (va_A [(t0, .inr (3, [.ref (q 0), .ref (q 1), .ref (q 2), .ref (q 3), .ref (q 4), .ref (q 5), .ref (q 6), .ref (q 7), .ref (q 8), .ref (q 9), .ref (q 10), .int (S.2.2 11), .int (S.2.2 12), .int (S.2.2 13)])), ((q 10), .inl (cI, 8, .inl (S.1 10)))] sz) [(t0, .inr (3, [.ref (q 0), .ref (q 1), .ref (q 2), .ref (q 3), .ref (q 4), .ref (q 5), .ref (q 6), .ref (q 7), .ref (q 8), .ref (q 9), .ref (q 10), .int (S.2.2 11), .int (S.2.2 12), .int (S.2.2 13)])), ((q 10), .inl (cI, 8, .inl (S.1 10)))] (gm_T cI cJ cC cZ) t) (va_A [(t0, .inr (3, [.ref (q 0), .ref (q 1), .ref (q 2), .ref (q 3), .ref (q 4), .ref (q 5), .ref (q 6), .ref (q 7), .ref (q 8), .ref (q 9), .ref (q 10), .int (S.2.2 11), .int (S.2.2 12), .int (S.2.2 13)])), ((q 10), .inl (cI, 8, .inl (S.1 10)))] sz)) 0 0 (va_A [(t0, .inr (3, [.ref (q 0), .ref (q 1), .ref (q 2), .ref (q 3), .ref (q 4), .ref (q 5), .ref (q 6), .ref (q 7), .ref (q 8), .ref (q 9), .ref (q 10), .int (S.2.2 11), .int (S.2.2 12), .int (S.2.2 13)])), ((q 10), .inl (cI, 8, .inl (S.1 10)))] sz) := by
  refine Met.ofW (cc := gm_b_Tree_firstNodeOf) (maxL := 2) (ret := (some .int)) (by decide) rfl ?_
  intro p e s m args below meth c s₁ B hml hv
  obtain ⟨rfl, hsz, hP, hK, hD0⟩ := hv
  have hx := B.exec
  have hb := B.bytes
  have hr := B.returns
  have hw : ∀ w ∈ gm_W, w.before _ s = true := fun w h => atoms_spec B.pre w (List.mem_cons_of_mem _ h)
  have hown : s.vm.findClass gm_R_Tree = some m.cls := findClass_of_methodNamed B.named
  subst hsz
  have hD := hD0.self (sz := s.heap.size)
  generalize hAe : va_A [(t0, .inr (3, [.ref (q 0), .ref (q 1), .ref (q 2), .ref (q 3), .ref (q 4), .ref (q 5), .ref (q 6), .ref (q 7), .ref (q 8), .ref (q 9), .ref (q 10), .int (S.2.2 11), .int (S.2.2 12), .int (S.2.2 13)])), ((q 10), .inl (cI, 8, .inl (S.1 10)))] s.heap.size = A at hD ⊢
  have hA : ∀ q : Nat, s.heap.size ≤ q → A q := fun q h => by rw [← hAe]; exact Or.inr h
  have hS : va_S A s.heap s.heap [] := va_S.rf
  have hl := lv_entry ([.ref t0, .int x]) (n := 2) (Nat.le_of_ble_eq_true rfl)
  rw [lg_entry_eq]
  generalize (lg_sl ([.ref t0, .int x]) ++ List.replicate (2 - (lg_sl ([.ref t0, .int x])).length) Slot.unset).toArray = ls at hl ⊢
  have hl : lv_has ls 2 [(0, .ref t0), (1, .int x)] := hl
  have hF := gm_f_Tree_firstNodeOf.eq_1 x S
  unfold gm_p_Tree_firstNodeOf at hok
  refine lv_iload_n hx hb gm_d_Tree_firstNodeOf_0 rfl (lv_at hl 1 rfl) ?_
  refine lv_if_le (tgt := 12) hx hb gm_d_Tree_firstNodeOf_1 (by decide) (fun c1 => ?_) (fun c1 => ?_)
  · skip
    have hF := hF.trans (if_pos c1)
    have hok := hok.1 c1
    refine lv_iconst (v := 0) hx hb gm_d_Tree_firstNodeOf_12 (by decide) ?_
    refine lv_goto (tgt := 26) hx hb gm_d_Tree_firstNodeOf_13 (by decide) ?_
    exact W.iret (v := 0) hx hb hr (fun t ht hW => ⟨⟨0, S, rfl, hF.symm, by rw [ht]; exact hP, va_K.moved hW.alike hK, hD⟩, hS.F ht⟩) hS.2.2 gm_d_Tree_firstNodeOf_26
  · skip
    have hF := hF.trans (if_neg c1)
    have hok := hok.2 c1
    refine lv_iload_n hx hb gm_d_Tree_firstNodeOf_4 rfl (lv_at hl 1 rfl) ?_
    refine lv_aload_n hx hb gm_d_Tree_firstNodeOf_5 rfl (lv_at hl 0 rfl) ?_
    refine va_get (D := D) (ci := 3) (v := .int (S.2.2 13)) (C := gm_R_Tree) (T := gm_F_Tree) (N := 14) hx hb hw gm_u_Tree hown hK hP 0 rfl rfl 13 (by decide) (hw _ gm_l_Tree_54) (fun _ h9 => h9) rfl gm_d_Tree_firstNodeOf_6 ?_
    refine lv_icmp_lt (tgt := 16) hx hb gm_d_Tree_firstNodeOf_9 (by decide) (fun c9 => ?_) (fun c9 => ?_)
    · skip
      have hF := hF.trans (if_pos c9)
      have hok := hok.1 c9
      refine lv_aload_n hx hb gm_d_Tree_firstNodeOf_16 rfl (lv_at hl 0 rfl) ?_
      refine va_get (D := D) (ci := 3) (v := .ref (q 10)) (C := gm_R_Tree) (T := gm_F_Tree) (N := 14) hx hb hw gm_u_Tree hown hK hP 0 rfl rfl 10 (by decide) (hw _ gm_l_Tree_44) (fun _ h9 => h9) rfl gm_d_Tree_firstNodeOf_17 ?_
      refine lv_iload_n hx hb gm_d_Tree_firstNodeOf_20 rfl (lv_at hl 1 rfl) ?_
      refine lv_iconst (v := 1) hx hb gm_d_Tree_firstNodeOf_21 (by decide) ?_
      refine lv_isub hx hb gm_d_Tree_firstNodeOf_22 ?_
      have i23 := hok.1
      have hok := hok.2
      refine va_iald hx hb hK hP 1 0 rfl rfl i23 gm_d_Tree_firstNodeOf_23 ?_
      refine lv_iconst (v := 1) hx hb gm_d_Tree_firstNodeOf_24 (by decide) ?_
      refine lv_iadd hx hb gm_d_Tree_firstNodeOf_25 ?_
      exact W.iret (v := (((S.1 10) (Int32.toNatClampNeg (x - 1))) + 1)) hx hb hr (fun t ht hW => ⟨⟨(((S.1 10) (Int32.toNatClampNeg (x - 1))) + 1), S, rfl, hF.symm, by rw [ht]; exact hP, va_K.moved hW.alike hK, hD⟩, hS.F ht⟩) hS.2.2 gm_d_Tree_firstNodeOf_26
    · skip
      have hF := hF.trans (if_neg c9)
      have hok := hok.2 c9
      refine lv_iconst (v := 0) hx hb gm_d_Tree_firstNodeOf_12 (by decide) ?_
      refine lv_goto (tgt := 26) hx hb gm_d_Tree_firstNodeOf_13 (by decide) ?_
      exact W.iret (v := 0) hx hb hr (fun t ht hW => ⟨⟨0, S, rfl, hF.symm, by rw [ht]; exact hP, va_K.moved hW.alike hK, hD⟩, hS.F ht⟩) hS.2.2 gm_d_Tree_firstNodeOf_26
def gm_f_Tree_partOf (x : Int32) (S : gm_S) : Int32 × (gm_S) := (if ((S.1 3) (Int32.toNatClampNeg x)) ≤ ((S.1 2) (Int32.toNatClampNeg x)) then (0, S) else (((S.1 4) (Int32.toNatClampNeg ((S.1 2) (Int32.toNatClampNeg x)))), S))
def gm_p_Tree_partOf (x : Int32) (S : gm_S) : Prop := (vp_in x 75 ∧ (vp_in x 75 ∧ ((((S.1 3) (Int32.toNatClampNeg x)) ≤ ((S.1 2) (Int32.toNatClampNeg x)) → True) ∧ (¬ (((S.1 3) (Int32.toNatClampNeg x)) ≤ ((S.1 2) (Int32.toNatClampNeg x))) → (vp_in x 75 ∧ (vp_in ((S.1 2) (Int32.toNatClampNeg x)) 75 ∧ True))))))
set_option maxHeartbeats 4000000 in
set_option maxRecDepth 100000 in
theorem gm_a_Tree_partOf (l : Launch) (D : va_G) (cI cJ cC cZ : ClassId) (t0 : Nat) (q : Nat → Nat) (x : Int32) (S : gm_S) (sz : Nat) (hok : gm_p_Tree_partOf x S) : Met l gm_y_Tree_partOf (Cond.code gm_y_Tree_partOf gm_b_Tree_partOf 2 (some .int) :: gm_W) { frames := 4, cells := 0, slots := 0, locals := 64 } (va_Pc [.ref t0, .int x] (fun U => U.heap.size = sz ∧ va_P D gm_cl [(t0, .inr (3, [.ref (q 0), .ref (q 1), .ref (q 2), .ref (q 3), .ref (q 4), .ref (q 5), .ref (q 6), .ref (q 7), .ref (q 8), .ref (q 9), .ref (q 10), .int (S.2.2 11), .int (S.2.2 12), .int (S.2.2 13)])), ((q 2), .inl (cI, 75, .inl (S.1 2))), ((q 3), .inl (cI, 75, .inl (S.1 3))), ((q 4), .inl (cI, 75, .inl (S.1 4)))] U.heap ∧ va_K D gm_cl (gm_T cI cJ cC cZ) U ∧ va_D (fun _ => True) [(t0, .inr (3, [.ref (q 0), .ref (q 1), .ref (q 2), .ref (q 3), .ref (q 4), .ref (q 5), .ref (q 6), .ref (q 7), .ref (q 8), .ref (q 9), .ref (q 10), .int (S.2.2 11), .int (S.2.2 12), .int (S.2.2 13)])), ((q 2), .inl (cI, 75, .inl (S.1 2))), ((q 3), .inl (cI, 75, .inl (S.1 3))), ((q 4), .inl (cI, 75, .inl (S.1 4)))])) (va_Qi (fun (r : Int32) (u : gm_S) => (r, u) = gm_f_Tree_partOf x S) (fun u t => gm_at D (va_A [(t0, .inr (3, [.ref (q 0), .ref (q 1), .ref (q 2), .ref (q 3), .ref (q 4), .ref (q 5), .ref (q 6), .ref (q 7), .ref (q 8), .ref (q 9), .ref (q 10), .int (S.2.2 11), .int (S.2.2 12), .int (S.2.2 13)])), ((q 2), .inl (cI, 75, .inl (S.1 2))), ((q 3), .inl (cI, 75, .inl (S.1 3))), ((q 4), .inl (cI, 75, .inl (S.1 4)))] sz) [(t0, .inr (3, [.ref (q 0), .ref (q 1), .ref (q 2), .ref (q 3), .ref (q 4), .ref (q 5), .ref (q 6), .ref (q 7), .ref (q 8), .ref (q 9), .ref (q 10), .int (S.2.2 11), .int (S.2.2 12), .int (S.2.2 13)])), ((q 2), .inl (cI, 75, .inl (S.1 2))), ((q 3), .inl (cI, 75, .inl (S.1 3))), ((q 4), .inl (cI, 75, .inl (S.1 4)))] (gm_T cI cJ cC cZ) t) (va_A [(t0, .inr (3, [.ref (q 0), .ref (q 1), .ref (q 2), .ref (q 3), .ref (q 4), .ref (q 5), .ref (q 6), .ref (q 7), .ref (q 8), .ref (q 9), .ref (q 10), .int (S.2.2 11), .int (S.2.2 12), .int (S.2.2 13)])), ((q 2), .inl (cI, 75, .inl (S.1 2))), ((q 3), .inl (cI, 75, .inl (S.1 3))), ((q 4), .inl (cI, 75, .inl (S.1 4)))] sz)) 0 0 (va_A [(t0, .inr (3, [.ref (q 0), .ref (q 1), .ref (q 2), .ref (q 3), .ref (q 4), .ref (q 5), .ref (q 6), .ref (q 7), .ref (q 8), .ref (q 9), .ref (q 10), .int (S.2.2 11), .int (S.2.2 12), .int (S.2.2 13)])), ((q 2), .inl (cI, 75, .inl (S.1 2))), ((q 3), .inl (cI, 75, .inl (S.1 3))), ((q 4), .inl (cI, 75, .inl (S.1 4)))] sz) := by
  refine Met.ofW (cc := gm_b_Tree_partOf) (maxL := 2) (ret := (some .int)) (by decide) rfl ?_
  intro p e s m args below meth c s₁ B hml hv
  obtain ⟨rfl, hsz, hP, hK, hD0⟩ := hv
  have hx := B.exec
  have hb := B.bytes
  have hr := B.returns
  have hw : ∀ w ∈ gm_W, w.before _ s = true := fun w h => atoms_spec B.pre w (List.mem_cons_of_mem _ h)
  have hown : s.vm.findClass gm_R_Tree = some m.cls := findClass_of_methodNamed B.named
  subst hsz
  have hD := hD0.self (sz := s.heap.size)
  generalize hAe : va_A [(t0, .inr (3, [.ref (q 0), .ref (q 1), .ref (q 2), .ref (q 3), .ref (q 4), .ref (q 5), .ref (q 6), .ref (q 7), .ref (q 8), .ref (q 9), .ref (q 10), .int (S.2.2 11), .int (S.2.2 12), .int (S.2.2 13)])), ((q 2), .inl (cI, 75, .inl (S.1 2))), ((q 3), .inl (cI, 75, .inl (S.1 3))), ((q 4), .inl (cI, 75, .inl (S.1 4)))] s.heap.size = A at hD ⊢
  have hA : ∀ q : Nat, s.heap.size ≤ q → A q := fun q h => by rw [← hAe]; exact Or.inr h
  have hS : va_S A s.heap s.heap [] := va_S.rf
  have hl := lv_entry ([.ref t0, .int x]) (n := 2) (Nat.le_of_ble_eq_true rfl)
  rw [lg_entry_eq]
  generalize (lg_sl ([.ref t0, .int x]) ++ List.replicate (2 - (lg_sl ([.ref t0, .int x])).length) Slot.unset).toArray = ls at hl ⊢
  have hl : lv_has ls 2 [(0, .ref t0), (1, .int x)] := hl
  have hF := gm_f_Tree_partOf.eq_1 x S
  unfold gm_p_Tree_partOf at hok
  refine lv_aload_n hx hb gm_d_Tree_partOf_0 rfl (lv_at hl 0 rfl) ?_
  refine va_get (D := D) (ci := 3) (v := .ref (q 2)) (C := gm_R_Tree) (T := gm_F_Tree) (N := 14) hx hb hw gm_u_Tree hown hK hP 0 rfl rfl 2 (by decide) (hw _ gm_l_Tree_18) (fun _ h9 => h9) rfl gm_d_Tree_partOf_1 ?_
  refine lv_iload_n hx hb gm_d_Tree_partOf_4 rfl (lv_at hl 1 rfl) ?_
  have i5 := hok.1
  have hok := hok.2
  refine va_iald hx hb hK hP 1 0 rfl rfl i5 gm_d_Tree_partOf_5 ?_
  refine lv_aload_n hx hb gm_d_Tree_partOf_6 rfl (lv_at hl 0 rfl) ?_
  refine va_get (D := D) (ci := 3) (v := .ref (q 3)) (C := gm_R_Tree) (T := gm_F_Tree) (N := 14) hx hb hw gm_u_Tree hown hK hP 0 rfl rfl 3 (by decide) (hw _ gm_l_Tree_21) (fun _ h9 => h9) rfl gm_d_Tree_partOf_7 ?_
  refine lv_iload_n hx hb gm_d_Tree_partOf_10 rfl (lv_at hl 1 rfl) ?_
  have i11 := hok.1
  have hok := hok.2
  refine va_iald hx hb hK hP 2 0 rfl rfl i11 gm_d_Tree_partOf_11 ?_
  refine lv_icmp_ge (tgt := 29) hx hb gm_d_Tree_partOf_12 (by decide) (fun c12 => ?_) (fun c12 => ?_)
  · skip
    have hF := hF.trans (if_pos c12)
    have hok := hok.1 c12
    refine lv_iconst (v := 0) hx hb gm_d_Tree_partOf_29 (by decide) ?_
    exact W.iret (v := 0) hx hb hr (fun t ht hW => ⟨⟨0, S, rfl, hF.symm, by rw [ht]; exact hP, va_K.moved hW.alike hK, hD⟩, hS.F ht⟩) hS.2.2 gm_d_Tree_partOf_30
  · skip
    have hF := hF.trans (if_neg c12)
    have hok := hok.2 c12
    refine lv_aload_n hx hb gm_d_Tree_partOf_15 rfl (lv_at hl 0 rfl) ?_
    refine va_get (D := D) (ci := 3) (v := .ref (q 4)) (C := gm_R_Tree) (T := gm_F_Tree) (N := 14) hx hb hw gm_u_Tree hown hK hP 0 rfl rfl 4 (by decide) (hw _ gm_l_Tree_24) (fun _ h9 => h9) rfl gm_d_Tree_partOf_16 ?_
    refine lv_aload_n hx hb gm_d_Tree_partOf_19 rfl (lv_at hl 0 rfl) ?_
    refine va_get (D := D) (ci := 3) (v := .ref (q 2)) (C := gm_R_Tree) (T := gm_F_Tree) (N := 14) hx hb hw gm_u_Tree hown hK hP 0 rfl rfl 2 (by decide) (hw _ gm_l_Tree_18) (fun _ h9 => h9) rfl gm_d_Tree_partOf_20 ?_
    refine lv_iload_n hx hb gm_d_Tree_partOf_23 rfl (lv_at hl 1 rfl) ?_
    have i24 := hok.1
    have hok := hok.2
    refine va_iald hx hb hK hP 1 0 rfl rfl i24 gm_d_Tree_partOf_24 ?_
    have i25 := hok.1
    have hok := hok.2
    refine va_iald hx hb hK hP 3 0 rfl rfl i25 gm_d_Tree_partOf_25 ?_
    refine lv_goto (tgt := 30) hx hb gm_d_Tree_partOf_26 (by decide) ?_
    exact W.iret (v := ((S.1 4) (Int32.toNatClampNeg ((S.1 2) (Int32.toNatClampNeg x))))) hx hb hr (fun t ht hW => ⟨⟨((S.1 4) (Int32.toNatClampNeg ((S.1 2) (Int32.toNatClampNeg x)))), S, rfl, hF.symm, by rw [ht]; exact hP, va_K.moved hW.alike hK, hD⟩, hS.F ht⟩) hS.2.2 gm_d_Tree_partOf_30
def gm_f_Tree_include_19 (x : Int32) (y : Int32) (w : Int32) (S : gm_S) : Nat → Int32 → gm_S → Int32 × (gm_S)
  | 0, _, S_19 => (0, S_19)
  | n19 + 1, v4_19, S_19 => (if (w - 32) < v4_19 then (0, (S.1, (va_up (va_up S.2.1 7 (S_19.2.1 7)) 8 (S_19.2.1 8)), S.2.2)) else (if 64 ≤ v4_19 then (gm_f_Tree_include_19 x y w S n19 (v4_19 + 1) (S.1, (va_up (va_up S.2.1 7 (S_19.2.1 7)) 8 (vp_updL (S_19.2.1 8) (Int32.toNatClampNeg x) (((S_19.2.1 8) (Int32.toNatClampNeg x)) ||| (1 <<< ((v4_19 - 64).toInt64 &&& 63))))), S.2.2)) else (gm_f_Tree_include_19 x y w S n19 (v4_19 + 1) (S.1, (va_up (va_up S.2.1 7 (vp_updL (S_19.2.1 7) (Int32.toNatClampNeg x) (((S_19.2.1 7) (Int32.toNatClampNeg x)) ||| (1 <<< (v4_19.toInt64 &&& 63))))) 8 (S_19.2.1 8)), S.2.2))))
def gm_p_Tree_include_19 (x : Int32) (y : Int32) (w : Int32) (S : gm_S) : Nat → Int32 → gm_S → Prop
  | 0, _, _ => False
  | n19 + 1, v4_19, S_19 => (((w - 32) < v4_19 → True) ∧ (¬ ((w - 32) < v4_19) → ((64 ≤ v4_19 → (vp_in x 75 ∧ (vp_in x 75 ∧ (gm_p_Tree_include_19 x y w S n19 (v4_19 + 1) (S.1, (va_up (va_up S.2.1 7 (S_19.2.1 7)) 8 (vp_updL (S_19.2.1 8) (Int32.toNatClampNeg x) (((S_19.2.1 8) (Int32.toNatClampNeg x)) ||| (1 <<< ((v4_19 - 64).toInt64 &&& 63))))), S.2.2))))) ∧ (¬ (64 ≤ v4_19) → (vp_in x 75 ∧ (vp_in x 75 ∧ (gm_p_Tree_include_19 x y w S n19 (v4_19 + 1) (S.1, (va_up (va_up S.2.1 7 (vp_updL (S_19.2.1 7) (Int32.toNatClampNeg x) (((S_19.2.1 7) (Int32.toNatClampNeg x)) ||| (1 <<< (v4_19.toInt64 &&& 63))))) 8 (S_19.2.1 8)), S.2.2))))))))
def gm_f_Tree_include (x : Int32) (y : Int32) (w : Int32) (S : gm_S) : Int32 × (gm_S) := (if x < 0 then (0, S) else (if x < (S.2.2 11) then (gm_f_Tree_include_19 x y w S 100 (y - 32) S) else (0, S)))
def gm_p_Tree_include (x : Int32) (y : Int32) (w : Int32) (S : gm_S) : Prop := ((x < 0 → True) ∧ (¬ (x < 0) → ((x < (S.2.2 11) → (gm_p_Tree_include_19 x y w S 100 (y - 32) S)) ∧ (¬ (x < (S.2.2 11)) → True))))
set_option maxHeartbeats 4000000 in
set_option maxRecDepth 100000 in
theorem gm_a_Tree_include (l : Launch) (D : va_G) (cI cJ cC cZ : ClassId) (t0 : Nat) (q : Nat → Nat) (x : Int32) (y : Int32) (w : Int32) (S : gm_S) (sz : Nat) (hok : gm_p_Tree_include x y w S) : Met l gm_y_Tree_include (Cond.code gm_y_Tree_include gm_b_Tree_include 5 none :: gm_W) { frames := 4, cells := 0, slots := 0, locals := 64 } (va_Pc [.ref t0, .int x, .int y, .int w] (fun U => U.heap.size = sz ∧ va_P D gm_cl [(t0, .inr (3, [.ref (q 0), .ref (q 1), .ref (q 2), .ref (q 3), .ref (q 4), .ref (q 5), .ref (q 6), .ref (q 7), .ref (q 8), .ref (q 9), .ref (q 10), .int (S.2.2 11), .int (S.2.2 12), .int (S.2.2 13)])), ((q 7), .inl (cJ, 75, .inr (.inl (S.2.1 7)))), ((q 8), .inl (cJ, 75, .inr (.inl (S.2.1 8))))] U.heap ∧ va_K D gm_cl (gm_T cI cJ cC cZ) U ∧ va_D (fun _ => True) [(t0, .inr (3, [.ref (q 0), .ref (q 1), .ref (q 2), .ref (q 3), .ref (q 4), .ref (q 5), .ref (q 6), .ref (q 7), .ref (q 8), .ref (q 9), .ref (q 10), .int (S.2.2 11), .int (S.2.2 12), .int (S.2.2 13)])), ((q 7), .inl (cJ, 75, .inr (.inl (S.2.1 7)))), ((q 8), .inl (cJ, 75, .inr (.inl (S.2.1 8))))])) (va_Qv (fun u : gm_S => (0, u) = gm_f_Tree_include x y w S) (fun u t => gm_at D (va_A [(t0, .inr (3, [.ref (q 0), .ref (q 1), .ref (q 2), .ref (q 3), .ref (q 4), .ref (q 5), .ref (q 6), .ref (q 7), .ref (q 8), .ref (q 9), .ref (q 10), .int (S.2.2 11), .int (S.2.2 12), .int (S.2.2 13)])), ((q 7), .inl (cJ, 75, .inr (.inl (S.2.1 7)))), ((q 8), .inl (cJ, 75, .inr (.inl (S.2.1 8))))] sz) [(t0, .inr (3, [.ref (q 0), .ref (q 1), .ref (q 2), .ref (q 3), .ref (q 4), .ref (q 5), .ref (q 6), .ref (q 7), .ref (q 8), .ref (q 9), .ref (q 10), .int (S.2.2 11), .int (S.2.2 12), .int (S.2.2 13)])), ((q 7), .inl (cJ, 75, .inr (.inl (u.2.1 7)))), ((q 8), .inl (cJ, 75, .inr (.inl (u.2.1 8))))] (gm_T cI cJ cC cZ) t) (va_A [(t0, .inr (3, [.ref (q 0), .ref (q 1), .ref (q 2), .ref (q 3), .ref (q 4), .ref (q 5), .ref (q 6), .ref (q 7), .ref (q 8), .ref (q 9), .ref (q 10), .int (S.2.2 11), .int (S.2.2 12), .int (S.2.2 13)])), ((q 7), .inl (cJ, 75, .inr (.inl (S.2.1 7)))), ((q 8), .inl (cJ, 75, .inr (.inl (S.2.1 8))))] sz)) 0 0 (va_A [(t0, .inr (3, [.ref (q 0), .ref (q 1), .ref (q 2), .ref (q 3), .ref (q 4), .ref (q 5), .ref (q 6), .ref (q 7), .ref (q 8), .ref (q 9), .ref (q 10), .int (S.2.2 11), .int (S.2.2 12), .int (S.2.2 13)])), ((q 7), .inl (cJ, 75, .inr (.inl (S.2.1 7)))), ((q 8), .inl (cJ, 75, .inr (.inl (S.2.1 8))))] sz) := by
  refine Met.ofW (cc := gm_b_Tree_include) (maxL := 5) (ret := none) (by decide) rfl ?_
  intro p e s m args below meth c s₁ B hml hv
  obtain ⟨rfl, hsz, hP, hK, hD0⟩ := hv
  have hx := B.exec
  have hb := B.bytes
  have hr := B.returns
  have hw : ∀ w ∈ gm_W, w.before _ s = true := fun w h => atoms_spec B.pre w (List.mem_cons_of_mem _ h)
  have hown : s.vm.findClass gm_R_Tree = some m.cls := findClass_of_methodNamed B.named
  subst hsz
  have hD := hD0.self (sz := s.heap.size)
  generalize hAe : va_A [(t0, .inr (3, [.ref (q 0), .ref (q 1), .ref (q 2), .ref (q 3), .ref (q 4), .ref (q 5), .ref (q 6), .ref (q 7), .ref (q 8), .ref (q 9), .ref (q 10), .int (S.2.2 11), .int (S.2.2 12), .int (S.2.2 13)])), ((q 7), .inl (cJ, 75, .inr (.inl (S.2.1 7)))), ((q 8), .inl (cJ, 75, .inr (.inl (S.2.1 8))))] s.heap.size = A at hD ⊢
  have hA : ∀ q : Nat, s.heap.size ≤ q → A q := fun q h => by rw [← hAe]; exact Or.inr h
  have hS : va_S A s.heap s.heap [] := va_S.rf
  have hl := lv_entry ([.ref t0, .int x, .int y, .int w]) (n := 5) (Nat.le_of_ble_eq_true rfl)
  rw [lg_entry_eq]
  generalize (lg_sl ([.ref t0, .int x, .int y, .int w]) ++ List.replicate (5 - (lg_sl ([.ref t0, .int x, .int y, .int w])).length) Slot.unset).toArray = ls at hl ⊢
  have hl : lv_has ls 5 [(0, .ref t0), (1, .int x), (2, .int y), (3, .int w)] := hl
  have hF := gm_f_Tree_include.eq_1 x y w S
  unfold gm_p_Tree_include at hok
  refine lv_iload_n hx hb gm_d_Tree_include_0 rfl (lv_at hl 1 rfl) ?_
  refine lv_if_lt (tgt := 12) hx hb gm_d_Tree_include_1 (by decide) (fun c1 => ?_) (fun c1 => ?_)
  · skip
    have hF := hF.trans (if_pos c1)
    have hok := hok.1 c1
    exact W.vret hx hb hr (fun t ht hW => ⟨⟨S, rfl, hF.symm, by rw [ht]; exact hP, va_K.moved hW.alike hK, hD⟩, hS.F ht⟩) hS.2.2 gm_d_Tree_include_12
  · skip
    have hF := hF.trans (if_neg c1)
    have hok := hok.2 c1
    refine lv_iload_n hx hb gm_d_Tree_include_4 rfl (lv_at hl 1 rfl) ?_
    refine lv_aload_n hx hb gm_d_Tree_include_5 rfl (lv_at hl 0 rfl) ?_
    refine va_get (D := D) (ci := 3) (v := .int (S.2.2 11)) (C := gm_R_Tree) (T := gm_F_Tree) (N := 14) hx hb hw gm_u_Tree hown hK hP 0 rfl rfl 11 (by decide) (hw _ gm_l_Tree_47) (fun _ h9 => h9) rfl gm_d_Tree_include_6 ?_
    refine lv_icmp_lt (tgt := 13) hx hb gm_d_Tree_include_9 (by decide) (fun c9 => ?_) (fun c9 => ?_)
    · skip
      have hF := hF.trans (if_pos c9)
      have hok := hok.1 c9
      refine lv_iload_n hx hb gm_d_Tree_include_13 rfl (lv_at hl 2 rfl) ?_
      refine lv_bipush (v := 32) hx hb gm_d_Tree_include_14 (by decide) ?_
      refine lv_isub hx hb gm_d_Tree_include_16 ?_
      refine lv_istore (lv' := [(4, .int (y - 32)), (0, .ref t0), (1, .int x), (2, .int y), (3, .int w)]) hx hb gm_d_Tree_include_17 hl (Nat.le_of_ble_eq_true rfl) rfl (fun ls hl => ?_)
      refine (?_ : ∀ (n19 : Nat) (v4_19 : Int32) (S_19 : gm_S) (H : Heap) (locs : List Loc) (ls : Array Slot), lv_has ls 5 [(4, .int v4_19), (0, .ref t0), (1, .int x), (2, .int y), (3, .int w)] → va_P D gm_cl [(t0, .inr (3, [.ref (q 0), .ref (q 1), .ref (q 2), .ref (q 3), .ref (q 4), .ref (q 5), .ref (q 6), .ref (q 7), .ref (q 8), .ref (q 9), .ref (q 10), .int (S.2.2 11), .int (S.2.2 12), .int (S.2.2 13)])), ((q 7), .inl (cJ, 75, .inr (.inl (S_19.2.1 7)))), ((q 8), .inl (cJ, 75, .inr (.inl (S_19.2.1 8))))] H → va_D A [(t0, .inr (3, [.ref (q 0), .ref (q 1), .ref (q 2), .ref (q 3), .ref (q 4), .ref (q 5), .ref (q 6), .ref (q 7), .ref (q 8), .ref (q 9), .ref (q 10), .int (S.2.2 11), .int (S.2.2 12), .int (S.2.2 13)])), ((q 7), .inl (cJ, 75, .inr (.inl (S_19.2.1 7)))), ((q 8), .inl (cJ, 75, .inr (.inl (S_19.2.1 8))))] → va_S A s.heap H locs → gm_f_Tree_include x y w S = gm_f_Tree_include_19 x y w S n19 v4_19 S_19 → gm_p_Tree_include_19 x y w S n19 v4_19 S_19 → W p l e (headSpec (Cond.code gm_y_Tree_include gm_b_Tree_include 5 none :: gm_W) { frames := 4, cells := 0, slots := 0, locals := 64 }).room s m ([.ref t0, .int x, .int y, .int w] : List Value).toArray below meth c H locs 0 0 (MQ below (va_Qv (fun u : gm_S => (0, u) = gm_f_Tree_include x y w S) (fun u t => gm_at D A [(t0, .inr (3, [.ref (q 0), .ref (q 1), .ref (q 2), .ref (q 3), .ref (q 4), .ref (q 5), .ref (q 6), .ref (q 7), .ref (q 8), .ref (q 9), .ref (q 10), .int (S.2.2 11), .int (S.2.2 12), .int (S.2.2 13)])), ((q 7), .inl (cJ, 75, .inr (.inl (u.2.1 7)))), ((q 8), .inl (cJ, 75, .inr (.inl (u.2.1 8))))] (gm_T cI cJ cC cZ) t) A) ([.ref t0, .int x, .int y, .int w] : List Value).toArray s 0 0 A) (F0 m 19 ls [])) 100 (y - 32) S _ _ _ hl hP hD hS hF hok
      clear hok hF hP hD hS hl
      intro n19
      induction n19 with
      | zero => intro v4_19 S_19 H locs ls hl hP hD hS hF hok; exact hok.elim
      | succ n19 ih19 =>
        intro v4_19 S_19 H locs ls hl hP hD hS hF hok
        rw [gm_f_Tree_include_19] at hF
        rw [gm_p_Tree_include_19] at hok
        refine lv_iload hx hb gm_d_Tree_include_19 (lv_at hl 0 rfl) ?_
        refine lv_iload_n hx hb gm_d_Tree_include_21 rfl (lv_at hl 4 rfl) ?_
        refine lv_bipush (v := 32) hx hb gm_d_Tree_include_22 (by decide) ?_
        refine lv_isub hx hb gm_d_Tree_include_24 ?_
        refine lv_icmp_gt (tgt := 73) hx hb gm_d_Tree_include_25 (by decide) (fun c25 => ?_) (fun c25 => ?_)
        · skip
          have hF := hF.trans (if_pos c25)
          have hok := hok.1 c25
          exact W.vret hx hb hr (fun t ht hW => ⟨⟨(S.1, (va_up (va_up S.2.1 7 (S_19.2.1 7)) 8 (S_19.2.1 8)), S.2.2), rfl, hF.symm, by rw [ht]; exact hP, va_K.moved hW.alike hK, hD⟩, hS.F ht⟩) hS.2.2 gm_d_Tree_include_73
        · skip
          have hF := hF.trans (if_neg c25)
          have hok := hok.2 c25
          refine lv_iload hx hb gm_d_Tree_include_28 (lv_at hl 0 rfl) ?_
          refine lv_bipush (v := 64) hx hb gm_d_Tree_include_30 (by decide) ?_
          refine lv_icmp_ge (tgt := 51) hx hb gm_d_Tree_include_32 (by decide) (fun c32 => ?_) (fun c32 => ?_)
          · skip
            have hF := hF.trans (if_pos c32)
            have hok := hok.1 c32
            refine lv_aload_n hx hb gm_d_Tree_include_51 rfl (lv_at hl 1 rfl) ?_
            refine va_get (D := D) (ci := 3) (v := .ref (q 8)) (C := gm_R_Tree) (T := gm_F_Tree) (N := 14) hx hb hw gm_u_Tree hown hK hP 0 rfl rfl 8 (by decide) (hw _ gm_l_Tree_38) (fun _ h9 => h9) rfl gm_d_Tree_include_52 ?_
            refine lv_iload_n hx hb gm_d_Tree_include_55 rfl (lv_at hl 2 rfl) ?_
            refine lv_dup2_11 hx hb gm_d_Tree_include_56 rfl rfl ?_
            have i57 := hok.1
            have hok := hok.2
            refine va_lald hx hb hK hP 2 1 rfl rfl i57 gm_d_Tree_include_57 ?_
            refine lv_lconst (v := 1) hx hb gm_d_Tree_include_58 (by decide) ?_
            refine lv_iload hx hb gm_d_Tree_include_59 (lv_at hl 0 rfl) ?_
            refine lv_bipush (v := 64) hx hb gm_d_Tree_include_61 (by decide) ?_
            refine lv_isub hx hb gm_d_Tree_include_63 ?_
            refine lv_lshl hx hb gm_d_Tree_include_64 rfl ?_
            refine lv_lor hx hb gm_d_Tree_include_65 ?_
            have i66 := hok.1
            have hok := hok.2
            refine va_last hx hb hK hP hD hS 2 1 rfl rfl i66 gm_d_Tree_include_66 (fun H locs hP hD hS => ?_)
            have hP : va_P D gm_cl [(t0, .inr (3, [.ref (q 0), .ref (q 1), .ref (q 2), .ref (q 3), .ref (q 4), .ref (q 5), .ref (q 6), .ref (q 7), .ref (q 8), .ref (q 9), .ref (q 10), .int (S.2.2 11), .int (S.2.2 12), .int (S.2.2 13)])), ((q 7), .inl (cJ, 75, .inr (.inl (S_19.2.1 7)))), ((q 8), .inl (cJ, 75, .inr (.inl (vp_updL (S_19.2.1 8) (Int32.toNatClampNeg x) (((S_19.2.1 8) (Int32.toNatClampNeg x)) ||| (1 <<< ((v4_19 - 64).toInt64 &&& 63)))))))] H := hP
            have hD : va_D A [(t0, .inr (3, [.ref (q 0), .ref (q 1), .ref (q 2), .ref (q 3), .ref (q 4), .ref (q 5), .ref (q 6), .ref (q 7), .ref (q 8), .ref (q 9), .ref (q 10), .int (S.2.2 11), .int (S.2.2 12), .int (S.2.2 13)])), ((q 7), .inl (cJ, 75, .inr (.inl (S_19.2.1 7)))), ((q 8), .inl (cJ, 75, .inr (.inl (vp_updL (S_19.2.1 8) (Int32.toNatClampNeg x) (((S_19.2.1 8) (Int32.toNatClampNeg x)) ||| (1 <<< ((v4_19 - 64).toInt64 &&& 63)))))))] := hD
            refine lv_iinc (lv' := [(4, .int (v4_19 + 1)), (0, .ref t0), (1, .int x), (2, .int y), (3, .int w)]) (k := 0) (v := (v4_19 + 1)) hx hb gm_d_Tree_include_67 hl rfl rfl (Nat.le_of_ble_eq_true rfl) rfl (fun ls hl => ?_)
            refine lv_goto (tgt := 19) hx hb gm_d_Tree_include_70 (by decide) ?_
            exact ih19 (v4_19 + 1) (S.1, (va_up (va_up S.2.1 7 (S_19.2.1 7)) 8 (vp_updL (S_19.2.1 8) (Int32.toNatClampNeg x) (((S_19.2.1 8) (Int32.toNatClampNeg x)) ||| (1 <<< ((v4_19 - 64).toInt64 &&& 63))))), S.2.2) _ _ _ (lv_sub hl [0, 1, 2, 3, 4] rfl) hP hD hS hF hok
          · skip
            have hF := hF.trans (if_neg c32)
            have hok := hok.2 c32
            refine lv_aload_n hx hb gm_d_Tree_include_35 rfl (lv_at hl 1 rfl) ?_
            refine va_get (D := D) (ci := 3) (v := .ref (q 7)) (C := gm_R_Tree) (T := gm_F_Tree) (N := 14) hx hb hw gm_u_Tree hown hK hP 0 rfl rfl 7 (by decide) (hw _ gm_l_Tree_34) (fun _ h9 => h9) rfl gm_d_Tree_include_36 ?_
            refine lv_iload_n hx hb gm_d_Tree_include_39 rfl (lv_at hl 2 rfl) ?_
            refine lv_dup2_11 hx hb gm_d_Tree_include_40 rfl rfl ?_
            have i41 := hok.1
            have hok := hok.2
            refine va_lald hx hb hK hP 1 1 rfl rfl i41 gm_d_Tree_include_41 ?_
            refine lv_lconst (v := 1) hx hb gm_d_Tree_include_42 (by decide) ?_
            refine lv_iload hx hb gm_d_Tree_include_43 (lv_at hl 0 rfl) ?_
            refine lv_lshl hx hb gm_d_Tree_include_45 rfl ?_
            refine lv_lor hx hb gm_d_Tree_include_46 ?_
            have i47 := hok.1
            have hok := hok.2
            refine va_last hx hb hK hP hD hS 1 1 rfl rfl i47 gm_d_Tree_include_47 (fun H locs hP hD hS => ?_)
            have hP : va_P D gm_cl [(t0, .inr (3, [.ref (q 0), .ref (q 1), .ref (q 2), .ref (q 3), .ref (q 4), .ref (q 5), .ref (q 6), .ref (q 7), .ref (q 8), .ref (q 9), .ref (q 10), .int (S.2.2 11), .int (S.2.2 12), .int (S.2.2 13)])), ((q 7), .inl (cJ, 75, .inr (.inl (vp_updL (S_19.2.1 7) (Int32.toNatClampNeg x) (((S_19.2.1 7) (Int32.toNatClampNeg x)) ||| (1 <<< (v4_19.toInt64 &&& 63))))))), ((q 8), .inl (cJ, 75, .inr (.inl (S_19.2.1 8))))] H := hP
            have hD : va_D A [(t0, .inr (3, [.ref (q 0), .ref (q 1), .ref (q 2), .ref (q 3), .ref (q 4), .ref (q 5), .ref (q 6), .ref (q 7), .ref (q 8), .ref (q 9), .ref (q 10), .int (S.2.2 11), .int (S.2.2 12), .int (S.2.2 13)])), ((q 7), .inl (cJ, 75, .inr (.inl (vp_updL (S_19.2.1 7) (Int32.toNatClampNeg x) (((S_19.2.1 7) (Int32.toNatClampNeg x)) ||| (1 <<< (v4_19.toInt64 &&& 63))))))), ((q 8), .inl (cJ, 75, .inr (.inl (S_19.2.1 8))))] := hD
            refine lv_goto (tgt := 67) hx hb gm_d_Tree_include_48 (by decide) ?_
            refine lv_iinc (lv' := [(4, .int (v4_19 + 1)), (0, .ref t0), (1, .int x), (2, .int y), (3, .int w)]) (k := 0) (v := (v4_19 + 1)) hx hb gm_d_Tree_include_67 hl rfl rfl (Nat.le_of_ble_eq_true rfl) rfl (fun ls hl => ?_)
            refine lv_goto (tgt := 19) hx hb gm_d_Tree_include_70 (by decide) ?_
            exact ih19 (v4_19 + 1) (S.1, (va_up (va_up S.2.1 7 (vp_updL (S_19.2.1 7) (Int32.toNatClampNeg x) (((S_19.2.1 7) (Int32.toNatClampNeg x)) ||| (1 <<< (v4_19.toInt64 &&& 63))))) 8 (S_19.2.1 8)), S.2.2) _ _ _ (lv_sub hl [0, 1, 2, 3, 4] rfl) hP hD hS hF hok
    · skip
      have hF := hF.trans (if_neg c9)
      have hok := hok.2 c9
      exact W.vret hx hb hr (fun t ht hW => ⟨⟨S, rfl, hF.symm, by rw [ht]; exact hP, va_K.moved hW.alike hK, hD⟩, hS.F ht⟩) hS.2.2 gm_d_Tree_include_12
def gm_f_Tree_holds (x : Int32) (y : Int32) (S : gm_S) : Int32 × (gm_S) := (if x < 0 then (0, S) else (if (S.2.2 11) ≤ x then (0, S) else (if y < 32 then (0, S) else (if y ≤ 126 then (if 64 ≤ (y - 32) then (if (lg_cmp (((((S.2.1 8) (Int32.toNatClampNeg x)).toUInt64 >>> (((y - 32) - 64).toInt64.toUInt64 &&& Int64.toUInt64 63)).toInt64) &&& 1) 0) = 0 then (0, S) else (1, S)) else (if (lg_cmp (((((S.2.1 7) (Int32.toNatClampNeg x)).toUInt64 >>> ((y - 32).toInt64.toUInt64 &&& Int64.toUInt64 63)).toInt64) &&& 1) 0) = 0 then (0, S) else (1, S))) else (0, S)))))
def gm_p_Tree_holds (x : Int32) (y : Int32) (S : gm_S) : Prop := ((x < 0 → True) ∧ (¬ (x < 0) → (((S.2.2 11) ≤ x → True) ∧ (¬ ((S.2.2 11) ≤ x) → ((y < 32 → True) ∧ (¬ (y < 32) → ((y ≤ 126 → ((64 ≤ (y - 32) → (vp_in x 75 ∧ (((lg_cmp (((((S.2.1 8) (Int32.toNatClampNeg x)).toUInt64 >>> (((y - 32) - 64).toInt64.toUInt64 &&& Int64.toUInt64 63)).toInt64) &&& 1) 0) = 0 → True) ∧ (¬ ((lg_cmp (((((S.2.1 8) (Int32.toNatClampNeg x)).toUInt64 >>> (((y - 32) - 64).toInt64.toUInt64 &&& Int64.toUInt64 63)).toInt64) &&& 1) 0) = 0) → True)))) ∧ (¬ (64 ≤ (y - 32)) → (vp_in x 75 ∧ (((lg_cmp (((((S.2.1 7) (Int32.toNatClampNeg x)).toUInt64 >>> ((y - 32).toInt64.toUInt64 &&& Int64.toUInt64 63)).toInt64) &&& 1) 0) = 0 → True) ∧ (¬ ((lg_cmp (((((S.2.1 7) (Int32.toNatClampNeg x)).toUInt64 >>> ((y - 32).toInt64.toUInt64 &&& Int64.toUInt64 63)).toInt64) &&& 1) 0) = 0) → True)))))) ∧ (¬ (y ≤ 126) → True))))))))
set_option maxHeartbeats 4000000 in
set_option maxRecDepth 100000 in
theorem gm_a_Tree_holds (l : Launch) (D : va_G) (cI cJ cC cZ : ClassId) (t0 : Nat) (q : Nat → Nat) (x : Int32) (y : Int32) (S : gm_S) (sz : Nat) (hok : gm_p_Tree_holds x y S) : Met l gm_y_Tree_holds (Cond.code gm_y_Tree_holds gm_b_Tree_holds 6 (some .boolean) :: gm_W) { frames := 4, cells := 0, slots := 0, locals := 64 } (va_Pc [.ref t0, .int x, .int y] (fun U => U.heap.size = sz ∧ va_P D gm_cl [(t0, .inr (3, [.ref (q 0), .ref (q 1), .ref (q 2), .ref (q 3), .ref (q 4), .ref (q 5), .ref (q 6), .ref (q 7), .ref (q 8), .ref (q 9), .ref (q 10), .int (S.2.2 11), .int (S.2.2 12), .int (S.2.2 13)])), ((q 7), .inl (cJ, 75, .inr (.inl (S.2.1 7)))), ((q 8), .inl (cJ, 75, .inr (.inl (S.2.1 8))))] U.heap ∧ va_K D gm_cl (gm_T cI cJ cC cZ) U ∧ va_D (fun _ => True) [(t0, .inr (3, [.ref (q 0), .ref (q 1), .ref (q 2), .ref (q 3), .ref (q 4), .ref (q 5), .ref (q 6), .ref (q 7), .ref (q 8), .ref (q 9), .ref (q 10), .int (S.2.2 11), .int (S.2.2 12), .int (S.2.2 13)])), ((q 7), .inl (cJ, 75, .inr (.inl (S.2.1 7)))), ((q 8), .inl (cJ, 75, .inr (.inl (S.2.1 8))))])) (va_Qi (fun (r : Int32) (u : gm_S) => (r, u) = gm_f_Tree_holds x y S) (fun u t => gm_at D (va_A [(t0, .inr (3, [.ref (q 0), .ref (q 1), .ref (q 2), .ref (q 3), .ref (q 4), .ref (q 5), .ref (q 6), .ref (q 7), .ref (q 8), .ref (q 9), .ref (q 10), .int (S.2.2 11), .int (S.2.2 12), .int (S.2.2 13)])), ((q 7), .inl (cJ, 75, .inr (.inl (S.2.1 7)))), ((q 8), .inl (cJ, 75, .inr (.inl (S.2.1 8))))] sz) [(t0, .inr (3, [.ref (q 0), .ref (q 1), .ref (q 2), .ref (q 3), .ref (q 4), .ref (q 5), .ref (q 6), .ref (q 7), .ref (q 8), .ref (q 9), .ref (q 10), .int (S.2.2 11), .int (S.2.2 12), .int (S.2.2 13)])), ((q 7), .inl (cJ, 75, .inr (.inl (S.2.1 7)))), ((q 8), .inl (cJ, 75, .inr (.inl (S.2.1 8))))] (gm_T cI cJ cC cZ) t) (va_A [(t0, .inr (3, [.ref (q 0), .ref (q 1), .ref (q 2), .ref (q 3), .ref (q 4), .ref (q 5), .ref (q 6), .ref (q 7), .ref (q 8), .ref (q 9), .ref (q 10), .int (S.2.2 11), .int (S.2.2 12), .int (S.2.2 13)])), ((q 7), .inl (cJ, 75, .inr (.inl (S.2.1 7)))), ((q 8), .inl (cJ, 75, .inr (.inl (S.2.1 8))))] sz)) 0 0 (va_A [(t0, .inr (3, [.ref (q 0), .ref (q 1), .ref (q 2), .ref (q 3), .ref (q 4), .ref (q 5), .ref (q 6), .ref (q 7), .ref (q 8), .ref (q 9), .ref (q 10), .int (S.2.2 11), .int (S.2.2 12), .int (S.2.2 13)])), ((q 7), .inl (cJ, 75, .inr (.inl (S.2.1 7)))), ((q 8), .inl (cJ, 75, .inr (.inl (S.2.1 8))))] sz) := by
  refine Met.ofW (cc := gm_b_Tree_holds) (maxL := 6) (ret := (some .boolean)) (by decide) rfl ?_
  intro p e s m args below meth c s₁ B hml hv
  obtain ⟨rfl, hsz, hP, hK, hD0⟩ := hv
  have hx := B.exec
  have hb := B.bytes
  have hr := B.returns
  have hw : ∀ w ∈ gm_W, w.before _ s = true := fun w h => atoms_spec B.pre w (List.mem_cons_of_mem _ h)
  have hown : s.vm.findClass gm_R_Tree = some m.cls := findClass_of_methodNamed B.named
  subst hsz
  have hD := hD0.self (sz := s.heap.size)
  generalize hAe : va_A [(t0, .inr (3, [.ref (q 0), .ref (q 1), .ref (q 2), .ref (q 3), .ref (q 4), .ref (q 5), .ref (q 6), .ref (q 7), .ref (q 8), .ref (q 9), .ref (q 10), .int (S.2.2 11), .int (S.2.2 12), .int (S.2.2 13)])), ((q 7), .inl (cJ, 75, .inr (.inl (S.2.1 7)))), ((q 8), .inl (cJ, 75, .inr (.inl (S.2.1 8))))] s.heap.size = A at hD ⊢
  have hA : ∀ q : Nat, s.heap.size ≤ q → A q := fun q h => by rw [← hAe]; exact Or.inr h
  have hS : va_S A s.heap s.heap [] := va_S.rf
  have hl := lv_entry ([.ref t0, .int x, .int y]) (n := 6) (Nat.le_of_ble_eq_true rfl)
  rw [lg_entry_eq]
  generalize (lg_sl ([.ref t0, .int x, .int y]) ++ List.replicate (6 - (lg_sl ([.ref t0, .int x, .int y])).length) Slot.unset).toArray = ls at hl ⊢
  have hl : lv_has ls 6 [(0, .ref t0), (1, .int x), (2, .int y)] := hl
  have hF := gm_f_Tree_holds.eq_1 x y S
  unfold gm_p_Tree_holds at hok
  refine lv_iload_n hx hb gm_d_Tree_holds_0 rfl (lv_at hl 1 rfl) ?_
  refine lv_if_lt (tgt := 24) hx hb gm_d_Tree_holds_1 (by decide) (fun c1 => ?_) (fun c1 => ?_)
  · skip
    have hF := hF.trans (if_pos c1)
    have hok := hok.1 c1
    refine lv_iconst (v := 0) hx hb gm_d_Tree_holds_24 (by decide) ?_
    exact W.zret (v := 0) hx hb hr rfl (fun t ht hW => ⟨⟨0, S, rfl, hF.symm, by rw [ht]; exact hP, va_K.moved hW.alike hK, hD⟩, hS.F ht⟩) hS.2.2 gm_d_Tree_holds_25
  · skip
    have hF := hF.trans (if_neg c1)
    have hok := hok.2 c1
    refine lv_iload_n hx hb gm_d_Tree_holds_4 rfl (lv_at hl 1 rfl) ?_
    refine lv_aload_n hx hb gm_d_Tree_holds_5 rfl (lv_at hl 0 rfl) ?_
    refine va_get (D := D) (ci := 3) (v := .int (S.2.2 11)) (C := gm_R_Tree) (T := gm_F_Tree) (N := 14) hx hb hw gm_u_Tree hown hK hP 0 rfl rfl 11 (by decide) (hw _ gm_l_Tree_47) (fun _ h9 => h9) rfl gm_d_Tree_holds_6 ?_
    refine lv_icmp_ge (tgt := 24) hx hb gm_d_Tree_holds_9 (by decide) (fun c9 => ?_) (fun c9 => ?_)
    · skip
      have hF := hF.trans (if_pos c9)
      have hok := hok.1 c9
      refine lv_iconst (v := 0) hx hb gm_d_Tree_holds_24 (by decide) ?_
      exact W.zret (v := 0) hx hb hr rfl (fun t ht hW => ⟨⟨0, S, rfl, hF.symm, by rw [ht]; exact hP, va_K.moved hW.alike hK, hD⟩, hS.F ht⟩) hS.2.2 gm_d_Tree_holds_25
    · skip
      have hF := hF.trans (if_neg c9)
      have hok := hok.2 c9
      refine lv_iload_n hx hb gm_d_Tree_holds_12 rfl (lv_at hl 2 rfl) ?_
      refine lv_bipush (v := 32) hx hb gm_d_Tree_holds_13 (by decide) ?_
      refine lv_icmp_lt (tgt := 24) hx hb gm_d_Tree_holds_15 (by decide) (fun c15 => ?_) (fun c15 => ?_)
      · skip
        have hF := hF.trans (if_pos c15)
        have hok := hok.1 c15
        refine lv_iconst (v := 0) hx hb gm_d_Tree_holds_24 (by decide) ?_
        exact W.zret (v := 0) hx hb hr rfl (fun t ht hW => ⟨⟨0, S, rfl, hF.symm, by rw [ht]; exact hP, va_K.moved hW.alike hK, hD⟩, hS.F ht⟩) hS.2.2 gm_d_Tree_holds_25
      · skip
        have hF := hF.trans (if_neg c15)
        have hok := hok.2 c15
        refine lv_iload_n hx hb gm_d_Tree_holds_18 rfl (lv_at hl 2 rfl) ?_
        refine lv_bipush (v := 126) hx hb gm_d_Tree_holds_19 (by decide) ?_
        refine lv_icmp_le (tgt := 26) hx hb gm_d_Tree_holds_21 (by decide) (fun c21 => ?_) (fun c21 => ?_)
        · skip
          have hF := hF.trans (if_pos c21)
          have hok := hok.1 c21
          refine lv_iload_n hx hb gm_d_Tree_holds_26 rfl (lv_at hl 2 rfl) ?_
          refine lv_bipush (v := 32) hx hb gm_d_Tree_holds_27 (by decide) ?_
          refine lv_isub hx hb gm_d_Tree_holds_29 ?_
          refine lv_istore_n (lv' := [(3, .int (y - 32)), (0, .ref t0), (1, .int x), (2, .int y)]) hx hb gm_d_Tree_holds_30 rfl hl (Nat.le_of_ble_eq_true rfl) rfl (fun ls hl => ?_)
          refine lv_iload_n hx hb gm_d_Tree_holds_31 rfl (lv_at hl 0 rfl) ?_
          refine lv_bipush (v := 64) hx hb gm_d_Tree_holds_32 (by decide) ?_
          refine lv_icmp_ge (tgt := 48) hx hb gm_d_Tree_holds_34 (by decide) (fun c34 => ?_) (fun c34 => ?_)
          · skip
            have hF := hF.trans (if_pos c34)
            have hok := hok.1 c34
            refine lv_aload_n hx hb gm_d_Tree_holds_48 rfl (lv_at hl 1 rfl) ?_
            refine va_get (D := D) (ci := 3) (v := .ref (q 8)) (C := gm_R_Tree) (T := gm_F_Tree) (N := 14) hx hb hw gm_u_Tree hown hK hP 0 rfl rfl 8 (by decide) (hw _ gm_l_Tree_38) (fun _ h9 => h9) rfl gm_d_Tree_holds_49 ?_
            refine lv_iload_n hx hb gm_d_Tree_holds_52 rfl (lv_at hl 2 rfl) ?_
            have i53 := hok.1
            have hok := hok.2
            refine va_lald hx hb hK hP 2 1 rfl rfl i53 gm_d_Tree_holds_53 ?_
            refine lv_iload_n hx hb gm_d_Tree_holds_54 rfl (lv_at hl 0 rfl) ?_
            refine lv_bipush (v := 64) hx hb gm_d_Tree_holds_55 (by decide) ?_
            refine lv_isub hx hb gm_d_Tree_holds_57 ?_
            refine lv_lushr hx hb gm_d_Tree_holds_58 rfl ?_
            refine lv_lstore (lv' := [(4, .long ((((S.2.1 8) (Int32.toNatClampNeg x)).toUInt64 >>> (((y - 32) - 64).toInt64.toUInt64 &&& Int64.toUInt64 63)).toInt64)), (3, .int (y - 32)), (0, .ref t0), (1, .int x), (2, .int y)]) hx hb gm_d_Tree_holds_59 hl (Nat.le_of_ble_eq_true rfl) rfl (fun ls hl => ?_)
            refine lv_lload hx hb gm_d_Tree_holds_61 (lv_at hl 0 rfl) ?_
            refine lv_lconst (v := 1) hx hb gm_d_Tree_holds_63 (by decide) ?_
            refine lv_land hx hb gm_d_Tree_holds_64 ?_
            refine lv_lconst (v := 0) hx hb gm_d_Tree_holds_65 (by decide) ?_
            refine W.lcmp hx hb gm_d_Tree_holds_66 ?_
            refine lv_if_eq (tgt := 74) hx hb gm_d_Tree_holds_67 (by decide) (fun c67 => ?_) (fun c67 => ?_)
            · skip
              have hF := hF.trans (if_pos c67)
              have hok := hok.1 c67
              refine lv_iconst (v := 0) hx hb gm_d_Tree_holds_74 (by decide) ?_
              exact W.zret (v := 0) hx hb hr rfl (fun t ht hW => ⟨⟨0, S, rfl, hF.symm, by rw [ht]; exact hP, va_K.moved hW.alike hK, hD⟩, hS.F ht⟩) hS.2.2 gm_d_Tree_holds_75
            · skip
              have hF := hF.trans (if_neg c67)
              have hok := hok.2 c67
              refine lv_iconst (v := 1) hx hb gm_d_Tree_holds_70 (by decide) ?_
              refine lv_goto (tgt := 75) hx hb gm_d_Tree_holds_71 (by decide) ?_
              exact W.zret (v := 1) hx hb hr rfl (fun t ht hW => ⟨⟨1, S, rfl, hF.symm, by rw [ht]; exact hP, va_K.moved hW.alike hK, hD⟩, hS.F ht⟩) hS.2.2 gm_d_Tree_holds_75
          · skip
            have hF := hF.trans (if_neg c34)
            have hok := hok.2 c34
            refine lv_aload_n hx hb gm_d_Tree_holds_37 rfl (lv_at hl 1 rfl) ?_
            refine va_get (D := D) (ci := 3) (v := .ref (q 7)) (C := gm_R_Tree) (T := gm_F_Tree) (N := 14) hx hb hw gm_u_Tree hown hK hP 0 rfl rfl 7 (by decide) (hw _ gm_l_Tree_34) (fun _ h9 => h9) rfl gm_d_Tree_holds_38 ?_
            refine lv_iload_n hx hb gm_d_Tree_holds_41 rfl (lv_at hl 2 rfl) ?_
            have i42 := hok.1
            have hok := hok.2
            refine va_lald hx hb hK hP 1 1 rfl rfl i42 gm_d_Tree_holds_42 ?_
            refine lv_iload_n hx hb gm_d_Tree_holds_43 rfl (lv_at hl 0 rfl) ?_
            refine lv_lushr hx hb gm_d_Tree_holds_44 rfl ?_
            refine lv_goto (tgt := 59) hx hb gm_d_Tree_holds_45 (by decide) ?_
            refine lv_lstore (lv' := [(4, .long ((((S.2.1 7) (Int32.toNatClampNeg x)).toUInt64 >>> ((y - 32).toInt64.toUInt64 &&& Int64.toUInt64 63)).toInt64)), (3, .int (y - 32)), (0, .ref t0), (1, .int x), (2, .int y)]) hx hb gm_d_Tree_holds_59 hl (Nat.le_of_ble_eq_true rfl) rfl (fun ls hl => ?_)
            refine lv_lload hx hb gm_d_Tree_holds_61 (lv_at hl 0 rfl) ?_
            refine lv_lconst (v := 1) hx hb gm_d_Tree_holds_63 (by decide) ?_
            refine lv_land hx hb gm_d_Tree_holds_64 ?_
            refine lv_lconst (v := 0) hx hb gm_d_Tree_holds_65 (by decide) ?_
            refine W.lcmp hx hb gm_d_Tree_holds_66 ?_
            refine lv_if_eq (tgt := 74) hx hb gm_d_Tree_holds_67 (by decide) (fun c67 => ?_) (fun c67 => ?_)
            · skip
              have hF := hF.trans (if_pos c67)
              have hok := hok.1 c67
              refine lv_iconst (v := 0) hx hb gm_d_Tree_holds_74 (by decide) ?_
              exact W.zret (v := 0) hx hb hr rfl (fun t ht hW => ⟨⟨0, S, rfl, hF.symm, by rw [ht]; exact hP, va_K.moved hW.alike hK, hD⟩, hS.F ht⟩) hS.2.2 gm_d_Tree_holds_75
            · skip
              have hF := hF.trans (if_neg c67)
              have hok := hok.2 c67
              refine lv_iconst (v := 1) hx hb gm_d_Tree_holds_70 (by decide) ?_
              refine lv_goto (tgt := 75) hx hb gm_d_Tree_holds_71 (by decide) ?_
              exact W.zret (v := 1) hx hb hr rfl (fun t ht hW => ⟨⟨1, S, rfl, hF.symm, by rw [ht]; exact hP, va_K.moved hW.alike hK, hD⟩, hS.F ht⟩) hS.2.2 gm_d_Tree_holds_75
        · skip
          have hF := hF.trans (if_neg c21)
          have hok := hok.2 c21
          refine lv_iconst (v := 0) hx hb gm_d_Tree_holds_24 (by decide) ?_
          exact W.zret (v := 0) hx hb hr rfl (fun t ht hW => ⟨⟨0, S, rfl, hF.symm, by rw [ht]; exact hP, va_K.moved hW.alike hK, hD⟩, hS.F ht⟩) hS.2.2 gm_d_Tree_holds_25
