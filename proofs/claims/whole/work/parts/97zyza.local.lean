/-! Steps of a rule, those of the rules that it calls not counted. -/
theorem gn_l {C : gv_C} {f : Nat → Int × Lean.ParserDescr} {R fed : Nat} (hC : ∀ c, C.1 c = (f (gq_fx f (c : Int) R)).2) (hf : ∀ r, r < R → gv_wf f R (f r).2) (hle : ∀ (k : Nat) (e : Lean.ParserDescr) (q : Nat), q ≤ fed → (q : Int) + gv_v C k e q ≤ fed) : ∀ (k : Nat) (e : Lean.ParserDescr) (q : Nat), gv_wf f R e → q ≤ fed → gv_l C k e q ≤ gt_w e * gn_b (gn_s e) (fed - q) := by
  have z0 := gv_z0 (C := C) (f := f) (R := R) rfl hC hf
  intro k
  induction k with
  | zero => intro e q _ _; exact Nat.zero_le _
  | succ k ih =>
    intro e q hwf hq
    cases e with
    | cat nm j =>
      obtain ⟨j3, w1, w3⟩ := hwf
      have el : gv_l C (k + 1) (.cat nm j) q = if j = 0 then 0 else if j = 1 then gp_n2 nm else 1 := rfl
      have ew : gt_w (.cat nm j) = if j = 1 then gp_n2 nm else if j = 0 then 0 else 1 := rfl
      have e : gv_l C (k + 1) (.cat nm j) q = gt_w (.cat nm j) := by
        rw [el, ew]
        by_cases a : j = 0
        · rw [if_pos a, if_neg (show ¬ j = 1 by omega), if_pos a]
        · rw [if_neg a]
          by_cases b : j = 1
          · rw [if_pos b, if_pos b]
          · rw [if_neg b, if_neg b, if_neg a]
      rw [e]
      have := Nat.mul_le_mul_left (gt_w (.cat nm j)) (gn_b_1 (gn_s (.cat nm j)) (fed - q))
      omega
    | node nm j x =>
      obtain ⟨j6, j10, wx, wn⟩ := hwf
      have i := ih x q wx hq
      have one := gn_b_1 (gn_s x) (fed - q)
      have : j = 6 ∨ j = 7 ∨ j = 8 ∨ j = 9 ∨ j = 10 := by omega
      rcases this with q0 | q0 | q0 | q0 | q0
      · subst q0
        show 3 + gv_l C k x q ≤ (gt_w x + 3) * gn_b (0 + gn_s x) (fed - q)
        rw [Nat.zero_add, Nat.add_mul]
        omega
      · subst q0
        have el : gv_l C (k + 1) (.node nm 7 x) q = if gv_v C k x q < 0 then 3 + gv_l C k x q else 3 + gv_l C k x q + gv_l C k (.node nm 7 x) (q + (gv_v C k x q).toNat) := rfl
        have ew : gt_w (.node nm 7 x) = gt_w x + 3 := rfl
        have en : gn_s (.node nm 7 x) = 1 + gn_s x := rfl
        rw [el, ew, en, Nat.add_comm 1]
        have up := gn_b_d1 (gn_s x) (fed - q)
        have m1 := Nat.mul_le_mul_left (gt_w x) up
        by_cases v0 : gv_v C k x q < 0
        · rw [if_pos v0, Nat.add_mul]
          omega
        · rw [if_neg v0]
          have l := hle k x q hq
          have nz : ¬ gv_v C k x q = 0 := fun h => wn (Or.inl rfl) (z0 k x q wx h)
          have i2 := ih (.node nm 7 x) (q + (gv_v C k x q).toNat) ⟨j6, j10, wx, wn⟩ (by omega)
          rw [ew, en, Nat.add_comm 1] at i2
          have s := gn_b_s (d := gn_s x) (p := fed - q) (v := (gv_v C k x q).toNat) (by omega) (by omega)
          rw [show fed - q - (gv_v C k x q).toNat = fed - (q + (gv_v C k x q).toNat) by omega] at s
          have m := Nat.mul_le_mul_left (gt_w x + 3) s
          rw [Nat.mul_add] at m
          have m2 : (gt_w x + 3) * gn_b (gn_s x) (fed - q) = gt_w x * gn_b (gn_s x) (fed - q) + 3 * gn_b (gn_s x) (fed - q) := Nat.add_mul ..
          omega
      · subst q0
        show 2 + gv_l C k x q ≤ (gt_w x + 2) * gn_b (0 + gn_s x) (fed - q)
        rw [Nat.zero_add, Nat.add_mul]
        omega
      · subst q0
        show 2 + gv_l C k x q ≤ (gt_w x + 2) * gn_b (0 + gn_s x) (fed - q)
        rw [Nat.zero_add, Nat.add_mul]
        omega
      · subst q0
        show 2 + gv_l C k x q ≤ (gt_w x + 2) * gn_b (0 + gn_s x) (fed - q)
        rw [Nat.zero_add, Nat.add_mul]
        omega
    | binary nm x y =>
      obtain ⟨wx, wy, j45, wp⟩ := hwf
      have i := ih x q wx hq
      have l := hle k x q hq
      have ew : gt_w (.binary nm x y) = if gp_n1 nm = 1 then gt_w x + 5 else gt_w x + gt_w y + (if gp_n2 nm = 5 then 3 else 0) := rfl
      have en : gn_s (.binary nm x y) = if gp_n1 nm = 1 then 1 + gn_s x else max (gn_s x) (gn_s y) := rfl
      by_cases n4 : gp_n2 nm = 4
      · have el : gv_l C (k + 1) (.binary nm x y) q = if gv_v C k x q < 0 then (if gp_n1 nm = 1 then 3 else 0) + gv_l C k x q else (if gp_n1 nm = 1 then 3 else 0) + gv_l C k x q + gv_l C k y (q + (gv_v C k x q).toNat) := if_pos n4
        by_cases n1 : gp_n1 nm = 1
        · rw [if_pos n1] at el ew en
          obtain ⟨-, ey⟩ := wp n1
          have ne : ¬ gq_em (gq_EL f R) x := by rw [ey] at wy; exact wy.2.2.2 (Or.inl rfl)
          rw [el, ew, en, Nat.add_comm 1]
          have up := gn_b_d1 (gn_s x) (fed - q)
          have m1 := Nat.mul_le_mul_left (gt_w x) up
          have one := gn_b_1 (gn_s x + 1) (fed - q)
          have one0 := gn_b_1 (gn_s x) (fed - q)
          have m5 : (gt_w x + 5) * gn_b (gn_s x + 1) (fed - q) = gt_w x * gn_b (gn_s x + 1) (fed - q) + 5 * gn_b (gn_s x + 1) (fed - q) := Nat.add_mul ..
          by_cases v0 : gv_v C k x q < 0
          · rw [if_pos v0, m5]
            omega
          · rw [if_neg v0, m5]
            have nz : ¬ gv_v C k x q = 0 := fun h => ne (z0 k x q wx h)
            have i2 := ih y (q + (gv_v C k x q).toNat) wy (by omega)
            have ewy : gt_w y = gt_w x + 3 := by rw [ey]; rfl
            have eny : gn_s y = gn_s x + 1 := by rw [ey]; exact Nat.add_comm 1 _
            rw [ewy, eny] at i2
            have s := gn_b_s (d := gn_s x) (p := fed - q) (v := (gv_v C k x q).toNat) (by omega) (by omega)
            rw [show fed - q - (gv_v C k x q).toNat = fed - (q + (gv_v C k x q).toNat) by omega] at s
            have m := Nat.mul_le_mul_left (gt_w x + 3) s
            rw [Nat.mul_add] at m
            have m2 : (gt_w x + 3) * gn_b (gn_s x) (fed - q) = gt_w x * gn_b (gn_s x) (fed - q) + 3 * gn_b (gn_s x) (fed - q) := Nat.add_mul ..
            have m3 : (gt_w x + 3) * gn_b (gn_s x + 1) (fed - q) = gt_w x * gn_b (gn_s x + 1) (fed - q) + 3 * gn_b (gn_s x + 1) (fed - q) := Nat.add_mul ..
            omega
        · rw [if_neg n1] at el ew en
          rw [if_neg (show ¬ gp_n2 nm = 5 by omega)] at ew
          rw [el, ew, en, Nat.add_zero, Nat.add_mul]
          have mx := Nat.mul_le_mul_left (gt_w x) (gn_b_m (p := fed - q) (p' := fed - q) (Nat.le_max_left (gn_s x) (gn_s y)) (Nat.le_refl _))
          by_cases v0 : gv_v C k x q < 0
          · rw [if_pos v0]; omega
          · rw [if_neg v0]
            have i2 := ih y (q + (gv_v C k x q).toNat) wy (by omega)
            have my := Nat.mul_le_mul_left (gt_w y) (gn_b_m (p := fed - (q + (gv_v C k x q).toNat)) (p' := fed - q) (Nat.le_max_right (gn_s x) (gn_s y)) (by omega))
            omega
      · have n1 : ¬ gp_n1 nm = 1 := fun h => n4 (wp h).1
        have el : gv_l C (k + 1) (.binary nm x y) q = if gv_v C k x q = -1 then 3 + gv_l C k x q + gv_l C k y q else 3 + gv_l C k x q := if_neg n4
        rw [if_neg n1] at ew en
        rw [if_pos (show gp_n2 nm = 5 by omega)] at ew
        rw [el, ew, en, Nat.add_mul, Nat.add_mul]
        have mx := Nat.mul_le_mul_left (gt_w x) (gn_b_m (p := fed - q) (p' := fed - q) (Nat.le_max_left (gn_s x) (gn_s y)) (Nat.le_refl _))
        have my := Nat.mul_le_mul_left (gt_w y) (gn_b_m (p := fed - q) (p' := fed - q) (Nat.le_max_right (gn_s x) (gn_s y)) (Nat.le_refl _))
        have i2 := ih y q wy hq
        have one := gn_b_1 (max (gn_s x) (gn_s y)) (fed - q)
        by_cases v1 : gv_v C k x q = -1
        · rw [if_pos v1]; omega
        · rw [if_neg v1]; omega
    | _ => exact absurd hwf (fun h => h)
theorem gn_b7 : gn_b 7 10 = 19448 := by decide +kernel
/-- a rule's own steps -/
theorem gn_lB {C : gv_C} {f : Nat → Int × Lean.ParserDescr} {R fed : Nat} (hC : ∀ c, C.1 c = (f (gq_fx f (c : Int) R)).2) (hf : ∀ r, r < R → gv_wf f R (f r).2) (hle : ∀ (k : Nat) (e : Lean.ParserDescr) (q : Nat), q ≤ fed → (q : Int) + gv_v C k e q ≤ fed) (h10 : fed ≤ 10) (h7 : ∀ r, r < R → gn_s (f r).2 ≤ 7) (hw : ∀ r, r < R → gt_w (f r).2 ≤ 150) (k r q : Nat) (hr : r < R) (hq : q ≤ fed) : gv_l C k (f r).2 q + 1 ≤ 2917201 := by
  have a := gn_l hC hf hle k (f r).2 q (hf r hr) hq
  have b := Nat.mul_le_mul (hw r hr) (gn_b_m (p := fed - q) (p' := 10) (h7 r hr) (by omega))
  rw [gn_b7] at b
  omega
