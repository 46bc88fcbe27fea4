/-! How many characters a text has, at least. -/
theorem gl_w_fo (k : Nat) : ∀ (r : List Lean.ParserDescr) (x : Lean.ParserDescr), gj_L (r.foldl (fun acc y => gp_e2 k y acc) x) = gj_L x + (r.map gj_L).sum + (if k = 4 then 0 else 1) * r.length := by
  intro r
  induction r with
  | nil => intro x; show gj_L x = gj_L x + 0 + _ * 0; omega
  | cons y r ih =>
    intro x
    rw [List.foldl_cons, ih, List.map_cons, List.sum_cons, List.length_cons]
    have e : gj_L (gp_e2 k y x) = (if k = 4 then 0 else 1) + gj_L y + gj_L x := rfl
    rw [e, Nat.mul_add, Nat.mul_one]
    omega
theorem gl_w_jn (k : Nat) (l : List Lean.ParserDescr) : gj_L (gp_jn k l) = (l.map gj_L).sum + (if k = 4 then 0 else 1) * (l.length - 1) := by
  cases l with
  | nil => show 0 = 0 + _ * 0; omega
  | cons x r =>
    show gj_L (r.foldl (fun acc y => gp_e2 k y acc) x) = _
    rw [gl_w_fo, List.map_cons, List.sum_cons, List.length_cons, show r.length + 1 - 1 = r.length by omega]
def gl_sl (l : List Lean.ParserDescr) : Nat := (l.map gj_L).sum
theorem gl_sl_c (e : Lean.ParserDescr) (l : List Lean.ParserDescr) : gl_sl (e :: l) = gj_L e + gl_sl l := by
  unfold gl_sl
  rw [List.map_cons, List.sum_cons]
def gl_b2 (p : Int) : Nat := if p = 0 then 0 else 1
def gl_b3 (c : Int) : Nat := if c = 123 then 1 else 0
def gl_fm (f : gp_Fm) : Nat := gl_sl f.2.2.1 + gl_sl f.2.2.2 + f.2.2.2.length + gl_b2 f.2.1 + gl_b3 f.1
def gl_ff : List gp_Fm → Nat
  | f :: fs => gl_fm f + gl_ff fs
  | [] => 0
def gl_kp (B : Nat) (s : gp_Sg) : Prop := B + gl_ff s.2.2.1 + gl_b2 s.2.1 ≤ s.1
def gl_kq (B : Nat) (e : Lean.ParserDescr) (s : gp_Sg) : Prop := B + gl_ff s.2.2.1 + gl_b2 s.2.1 + gj_L e ≤ s.1
theorem gl_w_sx (c : Int) (e : Lean.ParserDescr) (a : Nat) : gj_L (gp_sx c e) + a ≤ gj_L e + gp_sa c a := by
  unfold gp_sx gp_sa
  by_cases h1 : c = 63
  · rw [if_pos h1, if_pos (Or.inl h1)]
    have : gj_L (gp_e1 6 e) = 1 + gj_L e := rfl
    omega
  · rw [if_neg h1]
    by_cases h2 : c = 42
    · rw [if_pos h2, if_pos (Or.inr (Or.inl h2))]
      have : gj_L (gp_e1 7 e) = 1 + gj_L e := rfl
      omega
    · rw [if_neg h2]
      by_cases h3 : c = 43
      · rw [if_pos h3, if_pos (Or.inr (Or.inr h3))]
        have : gj_L (gp_ep e) = 1 + gj_L e := rfl
        omega
      · rw [if_neg h3, if_neg (by omega)]
        omega
theorem gl_w_sn (p : Int) (e : Lean.ParserDescr) : gj_L (gp_sn p e) = gj_L e + gl_b2 p := by
  unfold gp_sn gl_b2
  by_cases h1 : p = 0
  · rw [if_pos h1, if_pos h1]; rfl
  · rw [if_neg h1, if_neg h1]
    by_cases h2 : p = 38
    · rw [if_pos h2]; exact Nat.add_comm 1 _
    · rw [if_neg h2]; exact Nat.add_comm 1 _
theorem gl_pm_kp (tx : Nat → Int) (ty B : Nat) (e : Lean.ParserDescr) (s : gp_Sg) (h : gl_kq B e s) : gl_kp B (gp_pm tx ty e s) := by
  obtain ⟨a, p, fs, nA, nC⟩ := s
  have h : B + gl_ff fs + gl_b2 p + gj_L e ≤ a := h
  show B + gl_ff (gp_ps (gp_sn p (gp_sx (gp_pk tx ty a) e)) fs) + 0 ≤ gp_sa (gp_pk tx ty a) a
  have x := gl_w_sx (gp_pk tx ty a) e a
  have y := gl_w_sn p (gp_sx (gp_pk tx ty a) e)
  cases fs with
  | nil =>
    show B + 0 + 0 ≤ _
    have h : B + 0 + gl_b2 p + gj_L e ≤ a := h
    omega
  | cons f fs =>
    obtain ⟨b, q, is, as⟩ := f
    have h : B + (gl_sl is + gl_sl as + as.length + gl_b2 q + gl_b3 b + gl_ff fs) + gl_b2 p + gj_L e ≤ a := h
    show B + (gl_sl (gp_sn p (gp_sx (gp_pk tx ty a) e) :: is) + gl_sl as + as.length + gl_b2 q + gl_b3 b + gl_ff fs) + 0 ≤ _
    rw [gl_sl_c]
    omega
theorem gl_w_ex (is as : List Lean.ParserDescr) : gj_L (gp_jn 5 (gp_jn 4 is :: as)) = gl_sl is + gl_sl as + as.length := by
  have h1 : (if (5 : Nat) = 4 then 0 else 1) = 1 := rfl
  have h2 : (if (4 : Nat) = 4 then 0 else 1) = 0 := rfl
  rw [gl_w_jn, List.map_cons, List.sum_cons, gl_w_jn, List.length_cons, h1, h2]
  unfold gl_sl
  rw [show as.length + 1 - 1 = as.length by omega, Nat.zero_mul, Nat.one_mul]
  omega
theorem gl_cw_kp (tx : Nat → Int) (ty B : Nat) (s : gp_Sg) (h : B + gl_ff s.2.2.1 + 1 ≤ s.1) : (∀ t, gp_cw tx ty s = .inr (.inl t) → gl_kp B t) ∧ (∀ a e nA nC, gp_cw tx ty s = .inr (.inr (a, e, nA, nC)) → a = s.1 ∧ B + gj_L e + 1 ≤ a) := by
  obtain ⟨a, p, fs, nA, nC⟩ := s
  cases fs with
  | nil => exact ⟨fun t w => (by cases w), fun a e nA nC w => by cases w⟩
  | cons f fs =>
    obtain ⟨b, q, is, as⟩ := f
    have h : B + (gl_sl is + gl_sl as + as.length + gl_b2 q + gl_b3 b + gl_ff fs) + 1 ≤ a := h
    have we := gl_w_ex is as
    have e0 : gp_cw tx ty (a, p, (b, q, is, as) :: fs, nA, nC) = if b = 59 then .inr (.inr (a, gp_jn 5 (gp_jn 4 is :: as), nA + (is.length - 1), nC))
      else if b = 123 then .inr (.inl (gp_pm tx ty (gp_e1 10 (gp_jn 5 (gp_jn 4 is :: as))) (a, q, fs, nA + (is.length - 1), nC + 1)))
      else .inr (.inl (gp_pm tx ty (gp_jn 5 (gp_jn 4 is :: as)) (a, q, fs, nA + (is.length - 1), nC))) := rfl
    rw [e0]
    by_cases h1 : b = 59
    · rw [if_pos h1]
      refine ⟨fun t w => ?_, fun a' e' nA' nC' w => ?_⟩
      · injection w with w; cases w
      · injection w with w
        injection w with w
        injection w with w1 w2
        injection w2 with w2 w3
        rw [← w1, ← w2]
        exact ⟨rfl, by omega⟩
    · rw [if_neg h1]
      by_cases h2 : b = 123
      · rw [if_pos h2]
        have b3 : gl_b3 b = 1 := if_pos h2
        refine ⟨fun t w => ?_, fun a' e' nA' nC' w => ?_⟩
        · injection w with w
          injection w with w
          rw [← w]
          refine gl_pm_kp tx ty B _ _ ?_
          have : gj_L (gp_e1 10 (gp_jn 5 (gp_jn 4 is :: as))) = 2 + gj_L (gp_jn 5 (gp_jn 4 is :: as)) := rfl
          show B + gl_ff fs + gl_b2 q + gj_L (gp_e1 10 (gp_jn 5 (gp_jn 4 is :: as))) ≤ a
          omega
        · injection w with w; cases w
      · rw [if_neg h2]
        refine ⟨fun t w => ?_, fun a' e' nA' nC' w => ?_⟩
        · injection w with w
          injection w with w
          rw [← w]
          refine gl_pm_kp tx ty B _ _ ?_
          show B + gl_ff fs + gl_b2 q + gj_L (gp_jn 5 (gp_jn 4 is :: as)) ≤ a
          omega
        · injection w with w; cases w
theorem gl_ms_kp (tx : Nat → Int) (ty B : Nat) (s : gp_Sg) (h : gl_kp B s) : (∀ t, gp_ms tx ty s = .inr (.inl t) → gl_kp B t) ∧ (∀ a e nA nC, gp_ms tx ty s = .inr (.inr (a, e, nA, nC)) → a ≤ ty ∧ B + gj_L e + 1 ≤ a) := by
  obtain ⟨a, p, fs, nA, nC⟩ := s
  have h : B + gl_ff fs + gl_b2 p ≤ a := h
  have pm : ∀ (e : Lean.ParserDescr) (b : Nat), gj_L e + a ≤ b → (∀ t, (Sum.inr (Sum.inl (gp_pm tx ty e (b, p, fs, nA, nC))) : gp_Rs) = .inr (.inl t) → gl_kp B t) ∧ (∀ a e' nA' nC', (Sum.inr (Sum.inl (gp_pm tx ty e (b, p, fs, nA, nC))) : gp_Rs) = .inr (.inr (a, e', nA', nC')) → a ≤ ty ∧ B + gj_L e' + 1 ≤ a) := by
    intro e b hb
    refine ⟨fun t w => ?_, fun a' e' nA' nC' w => ?_⟩
    · injection w with w
      injection w with w
      rw [← w]
      refine gl_pm_kp tx ty B _ _ ?_
      show B + gl_ff fs + gl_b2 p + gj_L e ≤ b
      omega
    · injection w with w; cases w
  have no : ∀ j : Nat, (∀ t, (Sum.inl j : gp_Rs) = .inr (.inl t) → gl_kp B t) ∧ (∀ a e' nA' nC', (Sum.inl j : gp_Rs) = .inr (.inr (a, e', nA', nC')) → a ≤ ty ∧ B + gj_L e' + 1 ≤ a) := fun j => ⟨fun t w => (by cases w), fun _ _ _ _ w => by cases w⟩
  have go : ∀ u : gp_Sg, gl_kp B u → (∀ t, (Sum.inr (Sum.inl u) : gp_Rs) = .inr (.inl t) → gl_kp B t) ∧ (∀ a e' nA' nC', (Sum.inr (Sum.inl u) : gp_Rs) = .inr (.inr (a, e', nA', nC')) → a ≤ ty ∧ B + gj_L e' + 1 ≤ a) := by
    intro u hu
    refine ⟨fun t w => ?_, fun a' e' nA' nC' w => ?_⟩
    · injection w with w
      injection w with w
      rw [← w]
      exact hu
    · injection w with w; cases w
  unfold gp_ms
  have rg := gp_rw_ge tx ty (ty - (a + 1)) (a + 1) (Nat.le_refl _)
  have cg := gp_cl_ge tx ty (ty - (a + 1)) (a + 1) (Nat.le_refl _)
  by_cases h1 : 65 ≤ gp_pk tx ty a ∧ gp_pk tx ty a ≤ 90
  · rw [if_pos (by exact h1)]
    exact pm _ (a + 1) (by have : gj_L (gp_e0 3 (gp_pk tx ty a).toNat 0) = 1 := rfl; show gj_L (gp_e0 3 (gp_pk tx ty a).toNat 0) + a ≤ a + 1; omega)
  rw [if_neg (by exact h1)]
  by_cases h2 : gp_pk tx ty a = 46
  · rw [if_pos (by exact h2)]
    exact pm _ (a + 1) (by have : gj_L (gp_e0 2 (a + 1) (a + 1)) = 1 := rfl; show gj_L (gp_e0 2 (a + 1) (a + 1)) + a ≤ a + 1; omega)
  rw [if_neg (by exact h2)]
  by_cases h3 : gp_pk tx ty a = 39
  · rw [if_pos (by exact h3)]
    by_cases k : gp_pk tx ty (gp_rw tx ty (a + 1)) = 0 ∨ gp_rw tx ty (a + 1) = a + 1
    · rw [if_pos (by exact k)]
      exact no _
    · rw [if_neg (by exact k)]
      exact pm _ (gp_rw tx ty (a + 1) + 1) (by have : gj_L (gp_e0 1 (a + 1) (gp_rw tx ty (a + 1) - (a + 1))) = gp_rw tx ty (a + 1) - (a + 1) := rfl; show gj_L (gp_e0 1 (a + 1) (gp_rw tx ty (a + 1) - (a + 1))) + a ≤ gp_rw tx ty (a + 1) + 1; omega)
  rw [if_neg (by exact h3)]
  by_cases h4 : gp_pk tx ty a = 91
  · rw [if_pos (by exact h4)]
    by_cases k : gp_pk tx ty (gp_cl tx ty (a + 1)) = 0 ∨ gp_cl tx ty (a + 1) = a + 1
    · rw [if_pos (by exact k)]
      exact no _
    · rw [if_neg (by exact k)]
      exact pm _ (gp_cl tx ty (a + 1) + 1) (by have : gj_L (gp_e0 2 (a + 1) (gp_cl tx ty (a + 1))) = 1 := rfl; show gj_L (gp_e0 2 (a + 1) (gp_cl tx ty (a + 1))) + a ≤ gp_cl tx ty (a + 1) + 1; omega)
  rw [if_neg (by exact h4)]
  by_cases h5 : (gp_pk tx ty a = 40 ∨ gp_pk tx ty a = 123) ∧ fs.length < 7
  · rw [if_pos (by exact h5)]
    refine go _ ?_
    have : gl_b3 (gp_pk tx ty a) ≤ 1 := by unfold gl_b3; split <;> omega
    show B + (0 + 0 + 0 + gl_b2 p + gl_b3 (gp_pk tx ty a) + gl_ff fs) + 0 ≤ a + 1
    omega
  rw [if_neg (by exact h5)]
  by_cases h6 : p = 0
  · rw [if_pos (by exact h6)]
    have b0 : gl_b2 p = 0 := if_pos h6
    unfold gp_sg
    by_cases g1 : gp_pk tx ty a = 38 ∨ gp_pk tx ty a = 33
    · rw [if_pos (by exact g1)]
      refine go _ ?_
      have : gl_b2 (gp_pk tx ty a) ≤ 1 := by unfold gl_b2; split <;> omega
      show B + gl_ff fs + gl_b2 (gp_pk tx ty a) ≤ a + 1
      omega
    rw [if_neg (by exact g1)]
    by_cases g2 : gp_pk tx ty a = 47
    · rw [if_pos (by exact g2)]
      refine go _ ?_
      show B + gl_ff (gp_es fs) + gl_b2 p ≤ a + 1
      cases fs with
      | nil => show B + 0 + gl_b2 p ≤ a + 1; have h : B + 0 + gl_b2 p ≤ a := h; omega
      | cons f fs =>
        obtain ⟨b, q, is, as⟩ := f
        have h : B + (gl_sl is + gl_sl as + as.length + gl_b2 q + gl_b3 b + gl_ff fs) + gl_b2 p ≤ a := h
        show B + (0 + gl_sl (gp_jn 4 is :: as) + (as.length + 1) + gl_b2 q + gl_b3 b + gl_ff fs) + gl_b2 p ≤ a + 1
        have j4 : gj_L (gp_jn 4 is) = gl_sl is + 0 * (is.length - 1) := gl_w_jn 4 is
        rw [Nat.zero_mul] at j4
        rw [gl_sl_c, j4]
        omega
    rw [if_neg (by exact g2)]
    by_cases g3 : gp_pk tx ty a = gp_cg (gp_tb fs)
    · rw [if_pos (by exact g3)]
      have lt : a < ty := by
        rcases Nat.lt_or_ge a ty with w | w
        · exact w
        · exfalso
          have z : gp_pk tx ty a = 0 := if_neg (by omega)
          rw [z] at g3
          unfold gp_cg at g3
          split at g3
          · omega
          · split at g3 <;> omega
      have c := gl_cw_kp tx ty B (a + 1, p, fs, nA, nC) (by show B + gl_ff fs + 1 ≤ a + 1; omega)
      refine ⟨c.1, fun a' e' nA' nC' w => ?_⟩
      obtain ⟨c1, c2⟩ := c.2 a' e' nA' nC' w
      have c1 : a' = a + 1 := c1
      exact ⟨by omega, c2⟩
    · rw [if_neg (by exact g3)]
      exact no _
  · rw [if_neg (by exact h6)]
    exact no _
theorem gl_mr_kp (tx : Nat → Int) (ty B : Nat) : ∀ (n : Nat) (s : gp_Sg), gl_kp B s → ∀ t, gp_mr tx ty n s = .inr t → t.1 ≤ ty ∧ B + gj_L t.2.1 + 1 ≤ t.1 := by
  intro n
  induction n with
  | zero => intro s _ t w; cases w
  | succ n ih =>
    intro s h t w
    rw [gp_mr] at w
    obtain ⟨h1, h2⟩ := gl_ms_kp tx ty B s h
    generalize gp_ms tx ty s = r at w h1 h2
    match r, w, h1, h2 with
    | .inl j, w, _, _ => cases w
    | .inr (.inl u), w, h1, _ => exact ih u (h1 u rfl) t w
    | .inr (.inr u), w, _, h2 =>
      have w : (Sum.inr u : Nat ⊕ (Nat × Lean.ParserDescr × Nat × Nat)) = .inr t := w
      injection w with w
      rw [← w]
      exact h2 u.1 u.2.1 u.2.2.1 u.2.2.2 rfl
theorem gl_rl_kp (tx : Nat → Int) (ty R : Nat) (f : Nat → Int × Lean.ParserDescr) (a nA nC B : Nat) (hB : B ≤ a) : ∀ t, gp_rl tx ty R f a nA nC = .inr t → t.1 ≤ ty ∧ B + gj_L t.2.1.2 + 3 ≤ t.1 := by
  intro t w
  unfold gp_rl at w
  split at w
  · cases w
  · split at w
    · have b59 : gl_b3 59 = 0 := if_neg (by decide)
      have m := gl_mr_kp tx ty (B + 2) (ty + 3) (a + 2, 0, [(59, 0, [], [])], nA, nC) (by show B + 2 + (0 + 0 + 0 + 0 + gl_b3 59 + 0) + 0 ≤ a + 2; rw [b59]; omega)
      generalize gp_mr tx ty (ty + 3) (a + 2, 0, [(59, 0, [], [])], nA, nC) = r at w m
      match r, w, m with
      | .inl j, w, _ => cases w
      | .inr u, w, m =>
        have w : (Sum.inr (u.1, (gp_pk tx ty a, u.2.1), u.2.2.1, u.2.2.2) : Nat ⊕ (Nat × (Int × Lean.ParserDescr) × Nat × Nat)) = .inr t := w
        injection w with w
        rw [← w]
        obtain ⟨m1, m2⟩ := m u rfl
        exact ⟨m1, by show B + gj_L u.2.1 + 3 ≤ u.1; omega⟩
    · cases w
theorem gl_rd_kp (tx : Nat → Int) (ty : Nat) : ∀ (n R : Nat) (f : Nat → Int × Lean.ParserDescr) (a nA nC : Nat), a ≤ ty → gv_su (fun _ => true) (fun r => 3 + gj_L (f r).2) R ≤ a → ∀ t, gp_rd tx ty n R f a nA nC = .inr t → gv_su (fun _ => true) (fun r => 3 + gj_L (t.2.1 r).2) t.1 ≤ ty := by
  intro n
  induction n with
  | zero => intro R f a nA nC _ _ t w; cases w
  | succ n ih =>
    intro R f a nA nC ha hB t w
    rw [gp_rd] at w
    split at w
    · have m := gl_rl_kp tx ty R f a nA nC _ hB
      generalize gp_rl tx ty R f a nA nC = r at w m
      match r, w, m with
      | .inl j, w, _ => cases w
      | .inr u, w, m =>
        have w : gp_rd tx ty n (R + 1) (gp_ad f R u.2.1) u.1 u.2.2.1 u.2.2.2 = .inr t := w
        obtain ⟨m1, m2⟩ := m u rfl
        refine ih (R + 1) _ u.1 _ _ m1 ?_ t w
        have e : gp_ad f R u.2.1 R = u.2.1 := if_pos rfl
        rw [gv_su, if_pos rfl, e, gj_su_eq (w := fun r => 3 + gj_L (gp_ad f R u.2.1 r).2) (w' := fun r => 3 + gj_L (f r).2) R (fun r hr _ => by
          have e : gp_ad f R u.2.1 r = f r := if_neg (by omega)
          show 3 + gj_L (gp_ad f R u.2.1 r).2 = 3 + gj_L (f r).2
          rw [e])]
        omega
    · injection w with w
      rw [← w]
      show gv_su (fun _ => true) (fun r => 3 + gj_L (f r).2) R ≤ ty
      omega
