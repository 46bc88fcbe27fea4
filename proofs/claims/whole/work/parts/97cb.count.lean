/-! How much code a text can make. -/
def gt_ws (W : Nat → Nat) : Nat → Nat
  | 0 => 0
  | r + 1 => gt_ws W r + W r + 1
theorem gt_ws_le {W : Nat → Nat} {i R : Nat} (h : i ≤ R) : gt_ws W i ≤ gt_ws W R := by
  induction R with
  | zero =>
    have : i = 0 := by omega
    subst this
    exact Nat.le_refl _
  | succ R ih =>
    by_cases q : i = R + 1
    · subst q; exact Nat.le_refl _
    · have := ih (by omega)
      show gt_ws W i ≤ gt_ws W R + W R + 1
      omega
theorem gt_ws_cg {W W' : Nat → Nat} : ∀ R, (∀ r, r < R → W r = W' r) → gt_ws W R = gt_ws W' R := by
  intro R
  induction R with
  | zero => intro _; rfl
  | succ R ih =>
    intro h
    show gt_ws W R + W R + 1 = gt_ws W' R + W' R + 1
    rw [ih (fun r hr => h r (by omega)), h R (by omega)]
def gt_sl (l : List Lean.ParserDescr) : Nat := (l.map gt_w).sum
theorem gt_sl_c (e : Lean.ParserDescr) (l : List Lean.ParserDescr) : gt_sl (e :: l) = gt_w e + gt_sl l := by
  unfold gt_sl
  rw [List.map_cons, List.sum_cons]
def gt_b2 (p : Int) : Nat := if p = 0 then 0 else 2
def gt_b3 (b : Int) : Nat := if b = 59 then 0 else 3
def gt_fm (f : gp_Fm) : Nat := gt_sl f.2.2.1 + gt_sl f.2.2.2 + 3 * f.2.2.2.length + gt_b2 f.2.1 + gt_b3 f.1
def gt_ff : List gp_Fm → Nat
  | f :: fs => gt_fm f + gt_ff fs
  | [] => 0
def gt_kp (B : Nat) (s : gp_Sg) : Prop := B + gt_ff s.2.2.1 + gt_b2 s.2.1 ≤ 3 * s.1
def gt_kq (B : Nat) (e : Lean.ParserDescr) (s : gp_Sg) : Prop := B + gt_ff s.2.2.1 + gt_b2 s.2.1 + gt_w e + 2 ≤ 3 * s.1
theorem gt_w_sx (c : Int) (e : Lean.ParserDescr) (a : Nat) : gt_w (gp_sx c e) + 3 * a ≤ gt_w e + 2 + 3 * gp_sa c a := by
  unfold gp_sx gp_sa
  by_cases h1 : c = 63
  · rw [if_pos h1, if_pos (Or.inl h1)]
    have : gt_w (gp_e1 6 e) = gt_w e + 3 := rfl
    omega
  · rw [if_neg h1]
    by_cases h2 : c = 42
    · rw [if_pos h2, if_pos (Or.inr (Or.inl h2))]
      have : gt_w (gp_e1 7 e) = gt_w e + 3 := rfl
      omega
    · rw [if_neg h2]
      by_cases h3 : c = 43
      · rw [if_pos h3, if_pos (Or.inr (Or.inr h3))]
        have : gt_w (gp_ep e) = gt_w e + 5 := rfl
        omega
      · rw [if_neg h3, if_neg (by omega)]
        omega
theorem gt_w_sn (p : Int) (e : Lean.ParserDescr) : gt_w (gp_sn p e) = gt_w e + gt_b2 p := by
  unfold gp_sn gt_b2
  by_cases h1 : p = 0
  · rw [if_pos h1, if_pos h1]; rfl
  · rw [if_neg h1, if_neg h1]
    by_cases h2 : p = 38
    · rw [if_pos h2]; rfl
    · rw [if_neg h2]; rfl
theorem gt_pm_kp (tx : Nat → Int) (ty B : Nat) (e : Lean.ParserDescr) (s : gp_Sg) (h : gt_kq B e s) : gt_kp B (gp_pm tx ty e s) := by
  obtain ⟨a, p, fs, nA, nC⟩ := s
  have h : B + gt_ff fs + gt_b2 p + gt_w e + 2 ≤ 3 * a := h
  show B + gt_ff (gp_ps (gp_sn p (gp_sx (gp_pk tx ty a) e)) fs) + 0 ≤ 3 * gp_sa (gp_pk tx ty a) a
  have x := gt_w_sx (gp_pk tx ty a) e a
  have y := gt_w_sn p (gp_sx (gp_pk tx ty a) e)
  cases fs with
  | nil =>
    show B + 0 + 0 ≤ _
    have h : B + 0 + gt_b2 p + gt_w e + 2 ≤ 3 * a := h
    omega
  | cons f fs =>
    obtain ⟨b, q, is, as⟩ := f
    have h : B + (gt_sl is + gt_sl as + 3 * as.length + gt_b2 q + gt_b3 b + gt_ff fs) + gt_b2 p + gt_w e + 2 ≤ 3 * a := h
    show B + (gt_sl (gp_sn p (gp_sx (gp_pk tx ty a) e) :: is) + gt_sl as + 3 * as.length + gt_b2 q + gt_b3 b + gt_ff fs) + 0 ≤ _
    rw [gt_sl_c]
    omega
theorem gt_w_ex (is as : List Lean.ParserDescr) : gt_w (gp_jn 5 (gp_jn 4 is :: as)) = gt_sl is + gt_sl as + 3 * as.length := by
  have h1 : (if (5 : Nat) = 5 then 3 else 0) = 3 := rfl
  have h2 : (if (4 : Nat) = 5 then 3 else 0) = 0 := rfl
  rw [gt_w_jn, List.map_cons, List.sum_cons, gt_w_jn, List.length_cons, h1, h2]
  unfold gt_sl
  rw [show as.length + 1 - 1 = as.length by omega, Nat.zero_mul]
  omega
theorem gt_cw_kp (tx : Nat → Int) (ty B : Nat) (s : gp_Sg) (h : B + gt_ff s.2.2.1 + 3 ≤ 3 * s.1) : (∀ t, gp_cw tx ty s = .inr (.inl t) → gt_kp B t) ∧ (∀ a e nA nC, gp_cw tx ty s = .inr (.inr (a, e, nA, nC)) → a = s.1 ∧ B + gt_w e + 3 ≤ 3 * a) := by
  obtain ⟨a, p, fs, nA, nC⟩ := s
  cases fs with
  | nil => exact ⟨fun t w => (by cases w), fun a e nA nC w => by cases w⟩
  | cons f fs =>
    obtain ⟨b, q, is, as⟩ := f
    have h : B + (gt_sl is + gt_sl as + 3 * as.length + gt_b2 q + gt_b3 b + gt_ff fs) + 3 ≤ 3 * a := h
    have we := gt_w_ex is as
    have e0 : gp_cw tx ty (a, p, (b, q, is, as) :: fs, nA, nC) = if b = 59 then .inr (.inr (a, gp_jn 5 (gp_jn 4 is :: as), nA + (is.length - 1), nC))
      else if b = 123 then .inr (.inl (gp_pm tx ty (gp_e1 10 (gp_jn 5 (gp_jn 4 is :: as))) (a, q, fs, nA + (is.length - 1), nC + 1)))
      else .inr (.inl (gp_pm tx ty (gp_jn 5 (gp_jn 4 is :: as)) (a, q, fs, nA + (is.length - 1), nC))) := rfl
    rw [e0]
    by_cases h1 : b = 59
    · rw [if_pos h1]
      refine ⟨fun t w => ?_, fun a' e' nA' nC' w => ?_⟩
      · injection w with w; cases w
      · injection w with w
        injection w with w
        injection w with w1 w2
        injection w2 with w2 w3
        rw [← w1, ← w2]
        exact ⟨rfl, by omega⟩
    · rw [if_neg h1]
      have b3 : gt_b3 b = 3 := if_neg h1
      by_cases h2 : b = 123
      · rw [if_pos h2]
        refine ⟨fun t w => ?_, fun a' e' nA' nC' w => ?_⟩
        · injection w with w
          injection w with w
          rw [← w]
          refine gt_pm_kp tx ty B _ _ ?_
          have : gt_w (gp_e1 10 (gp_jn 5 (gp_jn 4 is :: as))) = gt_w (gp_jn 5 (gp_jn 4 is :: as)) + 2 := rfl
          show B + gt_ff fs + gt_b2 q + gt_w (gp_e1 10 (gp_jn 5 (gp_jn 4 is :: as))) + 2 ≤ 3 * a
          omega
        · injection w with w; cases w
      · rw [if_neg h2]
        refine ⟨fun t w => ?_, fun a' e' nA' nC' w => ?_⟩
        · injection w with w
          injection w with w
          rw [← w]
          refine gt_pm_kp tx ty B _ _ ?_
          show B + gt_ff fs + gt_b2 q + gt_w (gp_jn 5 (gp_jn 4 is :: as)) + 2 ≤ 3 * a
          omega
        · injection w with w; cases w
theorem gt_ms_kp (tx : Nat → Int) (ty B : Nat) (s : gp_Sg) (h : gt_kp B s) : (∀ t, gp_ms tx ty s = .inr (.inl t) → gt_kp B t) ∧ (∀ a e nA nC, gp_ms tx ty s = .inr (.inr (a, e, nA, nC)) → a ≤ ty ∧ B + gt_w e + 3 ≤ 3 * a) := by
  obtain ⟨a, p, fs, nA, nC⟩ := s
  have h : B + gt_ff fs + gt_b2 p ≤ 3 * a := h
  have pm : ∀ (e : Lean.ParserDescr) (b : Nat), gt_w e + 2 + 3 * a ≤ 3 * b → (∀ t, (Sum.inr (Sum.inl (gp_pm tx ty e (b, p, fs, nA, nC))) : gp_Rs) = .inr (.inl t) → gt_kp B t) ∧ (∀ a e' nA' nC', (Sum.inr (Sum.inl (gp_pm tx ty e (b, p, fs, nA, nC))) : gp_Rs) = .inr (.inr (a, e', nA', nC')) → a ≤ ty ∧ B + gt_w e' + 3 ≤ 3 * a) := by
    intro e b hb
    refine ⟨fun t w => ?_, fun a' e' nA' nC' w => ?_⟩
    · injection w with w
      injection w with w
      rw [← w]
      refine gt_pm_kp tx ty B _ _ ?_
      show B + gt_ff fs + gt_b2 p + gt_w e + 2 ≤ 3 * b
      omega
    · injection w with w; cases w
  have no : ∀ j : Nat, (∀ t, (Sum.inl j : gp_Rs) = .inr (.inl t) → gt_kp B t) ∧ (∀ a e' nA' nC', (Sum.inl j : gp_Rs) = .inr (.inr (a, e', nA', nC')) → a ≤ ty ∧ B + gt_w e' + 3 ≤ 3 * a) := fun j => ⟨fun t w => (by cases w), fun _ _ _ _ w => by cases w⟩
  have go : ∀ u : gp_Sg, gt_kp B u → (∀ t, (Sum.inr (Sum.inl u) : gp_Rs) = .inr (.inl t) → gt_kp B t) ∧ (∀ a e' nA' nC', (Sum.inr (Sum.inl u) : gp_Rs) = .inr (.inr (a, e', nA', nC')) → a ≤ ty ∧ B + gt_w e' + 3 ≤ 3 * a) := by
    intro u hu
    refine ⟨fun t w => ?_, fun a' e' nA' nC' w => ?_⟩
    · injection w with w
      injection w with w
      rw [← w]
      exact hu
    · injection w with w; cases w
  unfold gp_ms
  have rg := gp_rw_ge tx ty (ty - (a + 1)) (a + 1) (Nat.le_refl _)
  have cg := gp_cl_ge tx ty (ty - (a + 1)) (a + 1) (Nat.le_refl _)
  by_cases h1 : 65 ≤ gp_pk tx ty a ∧ gp_pk tx ty a ≤ 90
  · rw [if_pos (by exact h1)]
    exact pm _ (a + 1) (by have : gt_w (gp_e0 3 (gp_pk tx ty a).toNat 0) = 1 := rfl; show gt_w (gp_e0 3 (gp_pk tx ty a).toNat 0) + 2 + 3 * a ≤ 3 * (a + 1); omega)
  rw [if_neg (by exact h1)]
  by_cases h2 : gp_pk tx ty a = 46
  · rw [if_pos (by exact h2)]
    exact pm _ (a + 1) (by have : gt_w (gp_e0 2 (a + 1) (a + 1)) = 1 := rfl; show gt_w (gp_e0 2 (a + 1) (a + 1)) + 2 + 3 * a ≤ 3 * (a + 1); omega)
  rw [if_neg (by exact h2)]
  by_cases h3 : gp_pk tx ty a = 39
  · rw [if_pos (by exact h3)]
    by_cases k : gp_pk tx ty (gp_rw tx ty (a + 1)) = 0 ∨ gp_rw tx ty (a + 1) = a + 1
    · rw [if_pos (by exact k)]
      exact no _
    · rw [if_neg (by exact k)]
      exact pm _ (gp_rw tx ty (a + 1) + 1) (by have : gt_w (gp_e0 1 (a + 1) (gp_rw tx ty (a + 1) - (a + 1))) = gp_rw tx ty (a + 1) - (a + 1) := rfl; show gt_w (gp_e0 1 (a + 1) (gp_rw tx ty (a + 1) - (a + 1))) + 2 + 3 * a ≤ 3 * (gp_rw tx ty (a + 1) + 1); omega)
  rw [if_neg (by exact h3)]
  by_cases h4 : gp_pk tx ty a = 91
  · rw [if_pos (by exact h4)]
    by_cases k : gp_pk tx ty (gp_cl tx ty (a + 1)) = 0 ∨ gp_cl tx ty (a + 1) = a + 1
    · rw [if_pos (by exact k)]
      exact no _
    · rw [if_neg (by exact k)]
      exact pm _ (gp_cl tx ty (a + 1) + 1) (by have : gt_w (gp_e0 2 (a + 1) (gp_cl tx ty (a + 1))) = 1 := rfl; show gt_w (gp_e0 2 (a + 1) (gp_cl tx ty (a + 1))) + 2 + 3 * a ≤ 3 * (gp_cl tx ty (a + 1) + 1); omega)
  rw [if_neg (by exact h4)]
  by_cases h5 : (gp_pk tx ty a = 40 ∨ gp_pk tx ty a = 123) ∧ fs.length < 7
  · rw [if_pos (by exact h5)]
    refine go _ ?_
    have : gt_b3 (gp_pk tx ty a) ≤ 3 := by unfold gt_b3; split <;> omega
    show B + (0 + 0 + 0 + gt_b2 p + gt_b3 (gp_pk tx ty a) + gt_ff fs) + 0 ≤ 3 * (a + 1)
    omega
  rw [if_neg (by exact h5)]
  by_cases h6 : p = 0
  · rw [if_pos (by exact h6)]
    have b0 : gt_b2 p = 0 := if_pos h6
    unfold gp_sg
    by_cases g1 : gp_pk tx ty a = 38 ∨ gp_pk tx ty a = 33
    · rw [if_pos (by exact g1)]
      refine go _ ?_
      have : gt_b2 (gp_pk tx ty a) ≤ 2 := by unfold gt_b2; split <;> omega
      show B + gt_ff fs + gt_b2 (gp_pk tx ty a) ≤ 3 * (a + 1)
      omega
    rw [if_neg (by exact g1)]
    by_cases g2 : gp_pk tx ty a = 47
    · rw [if_pos (by exact g2)]
      refine go _ ?_
      show B + gt_ff (gp_es fs) + gt_b2 p ≤ 3 * (a + 1)
      cases fs with
      | nil => show B + 0 + gt_b2 p ≤ 3 * (a + 1); have h : B + 0 + gt_b2 p ≤ 3 * a := h; omega
      | cons f fs =>
        obtain ⟨b, q, is, as⟩ := f
        have h : B + (gt_sl is + gt_sl as + 3 * as.length + gt_b2 q + gt_b3 b + gt_ff fs) + gt_b2 p ≤ 3 * a := h
        show B + (0 + gt_sl (gp_jn 4 is :: as) + 3 * (as.length + 1) + gt_b2 q + gt_b3 b + gt_ff fs) + gt_b2 p ≤ 3 * (a + 1)
        have j4 : gt_w (gp_jn 4 is) = gt_sl is + 0 * (is.length - 1) := gt_w_jn 4 is
        rw [Nat.zero_mul] at j4
        rw [gt_sl_c, j4]
        omega
    rw [if_neg (by exact g2)]
    by_cases g3 : gp_pk tx ty a = gp_cg (gp_tb fs)
    · rw [if_pos (by exact g3)]
      have lt : a < ty := by
        rcases Nat.lt_or_ge a ty with w | w
        · exact w
        · exfalso
          have z : gp_pk tx ty a = 0 := if_neg (by omega)
          rw [z] at g3
          unfold gp_cg at g3
          split at g3
          · omega
          · split at g3 <;> omega
      have c := gt_cw_kp tx ty B (a + 1, p, fs, nA, nC) (by show B + gt_ff fs + 3 ≤ 3 * (a + 1); omega)
      refine ⟨c.1, fun a' e' nA' nC' w => ?_⟩
      obtain ⟨c1, c2⟩ := c.2 a' e' nA' nC' w
      have c1 : a' = a + 1 := c1
      exact ⟨by omega, c2⟩
    · rw [if_neg (by exact g3)]
      exact no _
  · rw [if_neg (by exact h6)]
    exact no _
theorem gt_mr_kp (tx : Nat → Int) (ty B : Nat) : ∀ (n : Nat) (s : gp_Sg), gt_kp B s → ∀ t, gp_mr tx ty n s = .inr t → t.1 ≤ ty ∧ B + gt_w t.2.1 + 3 ≤ 3 * t.1 := by
  intro n
  induction n with
  | zero => intro s _ t w; cases w
  | succ n ih =>
    intro s h t w
    rw [gp_mr] at w
    obtain ⟨h1, h2⟩ := gt_ms_kp tx ty B s h
    generalize gp_ms tx ty s = r at w h1 h2
    match r, w, h1, h2 with
    | .inl j, w, _, _ => cases w
    | .inr (.inl u), w, h1, _ => exact ih u (h1 u rfl) t w
    | .inr (.inr u), w, _, h2 =>
      have w : (Sum.inr u : Nat ⊕ (Nat × Lean.ParserDescr × Nat × Nat)) = .inr t := w
      injection w with w
      rw [← w]
      exact h2 u.1 u.2.1 u.2.2.1 u.2.2.2 rfl
theorem gt_rl_kp (tx : Nat → Int) (ty R : Nat) (f : Nat → Int × Lean.ParserDescr) (a nA nC B : Nat) (hB : B ≤ 3 * a) : ∀ t, gp_rl tx ty R f a nA nC = .inr t → t.1 ≤ ty ∧ B + gt_w t.2.1.2 + 3 ≤ 3 * t.1 := by
  intro t w
  unfold gp_rl at w
  split at w
  · cases w
  · split at w
    · have m := gt_mr_kp tx ty B (ty + 3) (a + 2, 0, [(59, 0, [], [])], nA, nC) (by show B + (0 + 0 + 0 + 0 + 0 + 0) + 0 ≤ 3 * (a + 2); omega)
      generalize gp_mr tx ty (ty + 3) (a + 2, 0, [(59, 0, [], [])], nA, nC) = r at w m
      match r, w, m with
      | .inl j, w, _ => cases w
      | .inr u, w, m =>
        have w : (Sum.inr (u.1, (gp_pk tx ty a, u.2.1), u.2.2.1, u.2.2.2) : Nat ⊕ (Nat × (Int × Lean.ParserDescr) × Nat × Nat)) = .inr t := w
        injection w with w
        rw [← w]
        exact m u rfl
    · cases w
theorem gt_rd_kp (tx : Nat → Int) (ty : Nat) : ∀ (n R : Nat) (f : Nat → Int × Lean.ParserDescr) (a nA nC : Nat), a ≤ ty → gt_ws (fun r => gt_w (f r).2) R ≤ 3 * a → ∀ t, gp_rd tx ty n R f a nA nC = .inr t → gt_ws (fun r => gt_w (t.2.1 r).2) t.1 ≤ 3 * ty := by
  intro n
  induction n with
  | zero => intro R f a nA nC _ _ t w; cases w
  | succ n ih =>
    intro R f a nA nC ha hB t w
    rw [gp_rd] at w
    split at w
    · have m := gt_rl_kp tx ty R f a nA nC _ hB
      generalize gp_rl tx ty R f a nA nC = r at w m
      match r, w, m with
      | .inl j, w, _ => cases w
      | .inr u, w, m =>
        have w : gp_rd tx ty n (R + 1) (gp_ad f R u.2.1) u.1 u.2.2.1 u.2.2.2 = .inr t := w
        obtain ⟨m1, m2⟩ := m u rfl
        refine ih (R + 1) _ u.1 _ _ m1 ?_ t w
        show gt_ws (fun r => gt_w (gp_ad f R u.2.1 r).2) R + gt_w (gp_ad f R u.2.1 R).2 + 1 ≤ 3 * u.1
        have e : gp_ad f R u.2.1 R = u.2.1 := if_pos rfl
        rw [e, gt_ws_cg (W := fun r => gt_w (gp_ad f R u.2.1 r).2) (W' := fun r => gt_w (f r).2) R (fun r hr => by
          have e : gp_ad f R u.2.1 r = f r := if_neg (by omega)
          show gt_w (gp_ad f R u.2.1 r).2 = gt_w (f r).2
          rw [e])]
        omega
    · injection w with w
      rw [← w]
      show gt_ws (fun r => gt_w (f r).2) R ≤ 3 * ty
      omega
