/-! What takes nothing can be empty. -/
/-- expressions as they are in a grammar that was taken -/
def gv_wf (f : Nat → Int × Lean.ParserDescr) (R : Nat) : Lean.ParserDescr → Prop
  | .cat nm j => j ≤ 3 ∧ (j = 1 → 1 ≤ gp_n2 nm) ∧ (j = 3 → ∃ c : Nat, nm = .num (.num .anonymous c) 0 ∧ gq_fx f (c : Int) R < R)
  | .node _ j x => 6 ≤ j ∧ j ≤ 10 ∧ gv_wf f R x ∧ (j = 7 ∨ j = 10 → ¬ gq_em (gq_EL f R) x)
  | .binary nm x y => gv_wf f R x ∧ gv_wf f R y ∧ (gp_n2 nm = 4 ∨ gp_n2 nm = 5) ∧ (gp_n1 nm = 1 → gp_n2 nm = 4 ∧ y = .node .anonymous 7 x)
  | _ => False
theorem gv_lE_b {f : Nat → Int × Lean.ParserDescr} {R s : Nat} (hs : s < R) (h : gq_em (fun c : Nat => gq_lE f R (gq_fx f (c : Int) R)) (f s).2) : gq_lE f R s := by
  intro E hE
  exact hE s hs (gq_em_mono (fun c hc => hc E hE) _ h)
theorem gv_z0 {C : gv_C} {f : Nat → Int × Lean.ParserDescr} {R : Nat} (hE : gq_EL f R = fun c : Nat => gq_lE f R (gq_fx f (c : Int) R)) (hC : ∀ c, C.1 c = (f (gq_fx f (c : Int) R)).2) (hf : ∀ r, r < R → gv_wf f R (f r).2) : ∀ (k : Nat) (e : Lean.ParserDescr) (q : Nat), gv_wf f R e → gv_v C k e q = 0 → gq_em (gq_EL f R) e := by
  intro k
  induction k with
  | zero => intro e q _ h; exact absurd (show (-2 : Int) = 0 from h) (by omega)
  | succ k ih =>
    intro e q hw h
    cases e with
    | cat nm j =>
      obtain ⟨j3, w1, w3⟩ := hw
      have : j = 0 ∨ j = 1 ∨ j = 2 ∨ j = 3 := by omega
      rcases this with q0 | q0 | q0 | q0
      · exact Or.inl q0
      · subst q0
        have ev : gv_v C (k + 1) (.cat nm 1) q = if C.2.1 (gp_n1 nm) (gp_n2 nm) q = true then (gp_n2 nm : Int) else -1 := rfl
        have := w1 rfl
        rw [ev] at h
        split at h <;> omega
      · subst q0
        have ev : gv_v C (k + 1) (.cat nm 2) q = if C.2.2.1 (gp_n1 nm) (gp_n2 nm) q = true then 1 else -1 := rfl
        rw [ev] at h
        split at h <;> omega
      · subst q0
        obtain ⟨c, e1, e2⟩ := w3 rfl
        subst e1
        have ev : gv_v C (k + 1) (.cat (.num (.num .anonymous c) 0) 3) q = gv_v C k (C.1 c) q := rfl
        rw [ev, hC] at h
        have m := ih _ q (hf _ e2) h
        refine Or.inr ⟨rfl, ?_⟩
        rw [hE] at m ⊢
        exact gv_lE_b e2 m
    | node nm j x =>
      obtain ⟨j6, j10, wx, -⟩ := hw
      intro q10
      subst q10
      exact ih x q wx h
    | binary nm x y =>
      obtain ⟨wx, wy, n45, -⟩ := hw
      have g := gv_v_ge C k x q
      by_cases h4 : gp_n2 nm = 4
      · have ev : gv_v C (k + 1) (.binary nm x y) q = if gv_v C k x q < 0 then gv_v C k x q else if gv_v C k y (q + (gv_v C k x q).toNat) < 0 then gv_v C k y (q + (gv_v C k x q).toNat) else gv_v C k x q + gv_v C k y (q + (gv_v C k x q).toNat) := if_pos h4
        rw [ev] at h
        refine Or.inl ⟨h4, ?_⟩
        by_cases v0 : gv_v C k x q < 0
        · rw [if_pos v0] at h; omega
        · rw [if_neg v0] at h
          by_cases u0 : gv_v C k y (q + (gv_v C k x q).toNat) < 0
          · rw [if_pos u0] at h; omega
          · rw [if_neg u0] at h
            exact ⟨ih x q wx (by omega), ih y _ wy (show gv_v C k y (q + (gv_v C k x q).toNat) = 0 by omega)⟩
      · have ev : gv_v C (k + 1) (.binary nm x y) q = if C.2.2.2 x q = true then (if gv_v C k x q = -1 then gv_v C k y q else gv_v C k x q) else gv_v C k y q := if_neg h4
        rw [ev] at h
        refine Or.inr ⟨h4, ?_⟩
        by_cases z : C.2.2.2 x q = true
        · rw [if_pos z] at h
          by_cases v1 : gv_v C k x q = -1
          · rw [if_pos v1] at h; exact Or.inr (ih y q wy h)
          · rw [if_neg v1] at h; exact Or.inl (ih x q wx h)
        · rw [if_neg z] at h; exact Or.inr (ih y q wy h)
    | _ => exact hw.elim
