/-! Stars in one another. -/
def gn_s : Lean.ParserDescr → Nat
  | .node _ j x => (if j = 7 then 1 else 0) + gn_s x
  | .binary nm x y => if gp_n1 nm = 1 then 1 + gn_s x else max (gn_s x) (gn_s y)
  | _ => 0
theorem gn_jn {k N : Nat} (es : List Lean.ParserDescr) (h : ∀ x, x ∈ es → gn_s x ≤ N) : gn_s (gp_jn k es) ≤ N := by
  have fo : ∀ (r : List Lean.ParserDescr) (x : Lean.ParserDescr), gn_s x ≤ N → (∀ y, y ∈ r → gn_s y ≤ N) → gn_s (r.foldl (fun acc y => gp_e2 k y acc) x) ≤ N := by
    intro r
    induction r with
    | nil => intro x hx _; exact hx
    | cons y r ih =>
      intro x hx hr
      rw [List.foldl_cons]
      refine ih _ ?_ (fun z hz => hr z (List.mem_cons_of_mem _ hz))
      show max (gn_s y) (gn_s x) ≤ N
      exact Nat.max_le.mpr ⟨hr y (List.mem_cons_self ..), hx⟩
  cases es with
  | nil => exact Nat.zero_le _
  | cons x r => exact fo r x (h x (List.mem_cons_self ..)) (fun y hy => h y (List.mem_cons_of_mem _ hy))
/-- open brackets: no more stars in one another than brackets leave -/
def gn_ff : List gp_Fm → Prop
  | f :: fs => fs.length ≤ 6 ∧ (∀ e, e ∈ f.2.2.1 → gn_s e + fs.length ≤ 7) ∧ (∀ e, e ∈ f.2.2.2 → gn_s e + fs.length ≤ 7) ∧ gn_ff fs
  | [] => True
theorem gn_sx (c : Int) (e : Lean.ParserDescr) : gn_s (gp_sx c e) ≤ 1 + gn_s e := by
  unfold gp_sx
  by_cases h1 : c = 63
  · rw [if_pos h1]; show 0 + gn_s e ≤ _; omega
  · rw [if_neg h1]
    by_cases h2 : c = 42
    · rw [if_pos h2]; show 1 + gn_s e ≤ _; omega
    · rw [if_neg h2]
      by_cases h3 : c = 43
      · rw [if_pos h3]; show 1 + gn_s e ≤ _; omega
      · rw [if_neg h3]; omega
theorem gn_sn (p : Int) (e : Lean.ParserDescr) : gn_s (gp_sn p e) ≤ gn_s e := by
  unfold gp_sn
  by_cases h1 : p = 0
  · rw [if_pos h1]; exact Nat.le_refl _
  · rw [if_neg h1]
    by_cases h2 : p = 38
    · rw [if_pos h2]; show 0 + gn_s e ≤ _; omega
    · rw [if_neg h2]; show 0 + gn_s e ≤ _; omega
theorem gn_pm (tx : Nat → Int) (ty : Nat) (e : Lean.ParserDescr) (s : gp_Sg) (h : gn_ff s.2.2.1) (he : gn_s e + s.2.2.1.length ≤ 7) : gn_ff (gp_pm tx ty e s).2.2.1 := by
  obtain ⟨a, p, fs, nA, nC⟩ := s
  show gn_ff (gp_ps (gp_sn p (gp_sx (gp_pk tx ty a) e)) fs)
  have x := gn_sx (gp_pk tx ty a) e
  have y := gn_sn p (gp_sx (gp_pk tx ty a) e)
  cases fs with
  | nil => exact trivial
  | cons f fs =>
    obtain ⟨b, q, is, as⟩ := f
    have he : gn_s e + (fs.length + 1) ≤ 7 := he
    obtain ⟨h0, h1, h2, h3⟩ := h
    refine ⟨h0, fun z hz => ?_, h2, h3⟩
    rcases List.mem_cons.mp hz with hz | hz
    · rw [hz]; omega
    · exact h1 z hz
theorem gn_cw (tx : Nat → Int) (ty : Nat) (s : gp_Sg) (h : gn_ff s.2.2.1) : (∀ t, gp_cw tx ty s = .inr (.inl t) → gn_ff t.2.2.1) ∧ (∀ a e nA nC, gp_cw tx ty s = .inr (.inr (a, e, nA, nC)) → gn_s e ≤ 7) := by
  obtain ⟨a, p, fs, nA, nC⟩ := s
  cases fs with
  | nil => exact ⟨fun t w => (by cases w), fun a e nA nC w => by cases w⟩
  | cons f fs =>
    obtain ⟨b, q, is, as⟩ := f
    obtain ⟨h0, h1, h2, h3⟩ := h
    have we : gn_s (gp_jn 5 (gp_jn 4 is :: as)) ≤ 7 - fs.length := by
      refine gn_jn _ (fun x hx => ?_)
      rcases List.mem_cons.mp hx with hx | hx
      · rw [hx]
        exact gn_jn _ (fun y hy => by have := h1 y hy; omega)
      · have := h2 x hx; omega
    have e0 : gp_cw tx ty (a, p, (b, q, is, as) :: fs, nA, nC) = if b = 59 then .inr (.inr (a, gp_jn 5 (gp_jn 4 is :: as), nA + (is.length - 1), nC))
      else if b = 123 then .inr (.inl (gp_pm tx ty (gp_e1 10 (gp_jn 5 (gp_jn 4 is :: as))) (a, q, fs, nA + (is.length - 1), nC + 1)))
      else .inr (.inl (gp_pm tx ty (gp_jn 5 (gp_jn 4 is :: as)) (a, q, fs, nA + (is.length - 1), nC))) := rfl
    rw [e0]
    by_cases c1 : b = 59
    · rw [if_pos c1]
      refine ⟨fun t w => ?_, fun a' e' nA' nC' w => ?_⟩
      · injection w with w; cases w
      · injection w with w
        injection w with w
        injection w with w1 w2
        injection w2 with w2 w3
        rw [← w2]
        omega
    · rw [if_neg c1]
      by_cases c2 : b = 123
      · rw [if_pos c2]
        refine ⟨fun t w => ?_, fun a' e' nA' nC' w => ?_⟩
        · injection w with w
          injection w with w
          rw [← w]
          refine gn_pm tx ty _ _ h3 ?_
          show 0 + gn_s (gp_jn 5 (gp_jn 4 is :: as)) + fs.length ≤ 7
          omega
        · injection w with w; cases w
      · rw [if_neg c2]
        refine ⟨fun t w => ?_, fun a' e' nA' nC' w => ?_⟩
        · injection w with w
          injection w with w
          rw [← w]
          refine gn_pm tx ty _ _ h3 ?_
          show gn_s (gp_jn 5 (gp_jn 4 is :: as)) + fs.length ≤ 7
          omega
        · injection w with w; cases w
theorem gn_ff_l {fs : List gp_Fm} (h : gn_ff fs) : fs.length ≤ 7 := by
  cases fs with
  | nil => exact Nat.zero_le _
  | cons f fs => have := h.1; show fs.length + 1 ≤ 7; omega
theorem gn_ms (tx : Nat → Int) (ty : Nat) (s : gp_Sg) (h : gn_ff s.2.2.1) : (∀ t, gp_ms tx ty s = .inr (.inl t) → gn_ff t.2.2.1) ∧ (∀ a e nA nC, gp_ms tx ty s = .inr (.inr (a, e, nA, nC)) → gn_s e ≤ 7) := by
  obtain ⟨a, p, fs, nA, nC⟩ := s
  have h : gn_ff fs := h
  have l7 := gn_ff_l h
  have pm : ∀ (e : Lean.ParserDescr) (b : Nat), gn_s e = 0 → (∀ t, (Sum.inr (Sum.inl (gp_pm tx ty e (b, p, fs, nA, nC))) : gp_Rs) = .inr (.inl t) → gn_ff t.2.2.1) ∧ (∀ a e' nA' nC', (Sum.inr (Sum.inl (gp_pm tx ty e (b, p, fs, nA, nC))) : gp_Rs) = .inr (.inr (a, e', nA', nC')) → gn_s e' ≤ 7) := by
    intro e b hb
    refine ⟨fun t w => ?_, fun a' e' nA' nC' w => ?_⟩
    · injection w with w
      injection w with w
      rw [← w]
      refine gn_pm tx ty _ _ h ?_
      show gn_s e + fs.length ≤ 7
      omega
    · injection w with w; cases w
  have no : ∀ j : Nat, (∀ t, (Sum.inl j : gp_Rs) = .inr (.inl t) → gn_ff t.2.2.1) ∧ (∀ a e' nA' nC', (Sum.inl j : gp_Rs) = .inr (.inr (a, e', nA', nC')) → gn_s e' ≤ 7) := fun j => ⟨fun t w => (by cases w), fun _ _ _ _ w => by cases w⟩
  have go : ∀ u : gp_Sg, gn_ff u.2.2.1 → (∀ t, (Sum.inr (Sum.inl u) : gp_Rs) = .inr (.inl t) → gn_ff t.2.2.1) ∧ (∀ a e' nA' nC', (Sum.inr (Sum.inl u) : gp_Rs) = .inr (.inr (a, e', nA', nC')) → gn_s e' ≤ 7) := by
    intro u hu
    refine ⟨fun t w => ?_, fun a' e' nA' nC' w => ?_⟩
    · injection w with w
      injection w with w
      rw [← w]
      exact hu
    · injection w with w; cases w
  unfold gp_ms
  by_cases h1 : 65 ≤ gp_pk tx ty a ∧ gp_pk tx ty a ≤ 90
  · rw [if_pos (by exact h1)]
    exact pm _ (a + 1) rfl
  rw [if_neg (by exact h1)]
  by_cases h2 : gp_pk tx ty a = 46
  · rw [if_pos (by exact h2)]
    exact pm _ (a + 1) rfl
  rw [if_neg (by exact h2)]
  by_cases h3 : gp_pk tx ty a = 39
  · rw [if_pos (by exact h3)]
    by_cases k : gp_pk tx ty (gp_rw tx ty (a + 1)) = 0 ∨ gp_rw tx ty (a + 1) = a + 1
    · rw [if_pos (by exact k)]
      exact no _
    · rw [if_neg (by exact k)]
      exact pm _ (gp_rw tx ty (a + 1) + 1) rfl
  rw [if_neg (by exact h3)]
  by_cases h4 : gp_pk tx ty a = 91
  · rw [if_pos (by exact h4)]
    by_cases k : gp_pk tx ty (gp_cl tx ty (a + 1)) = 0 ∨ gp_cl tx ty (a + 1) = a + 1
    · rw [if_pos (by exact k)]
      exact no _
    · rw [if_neg (by exact k)]
      exact pm _ (gp_cl tx ty (a + 1) + 1) rfl
  rw [if_neg (by exact h4)]
  by_cases h5 : (gp_pk tx ty a = 40 ∨ gp_pk tx ty a = 123) ∧ fs.length < 7
  · rw [if_pos (by exact h5)]
    refine go _ ⟨by have q : fs.length < 7 := h5.2; show fs.length ≤ 6; omega, fun e he => absurd he (by intro w; cases w), fun e he => absurd he (by intro w; cases w), h⟩
  rw [if_neg (by exact h5)]
  by_cases h6 : p = 0
  · rw [if_pos (by exact h6)]
    unfold gp_sg
    by_cases g1 : gp_pk tx ty a = 38 ∨ gp_pk tx ty a = 33
    · rw [if_pos (by exact g1)]
      exact go _ h
    rw [if_neg (by exact g1)]
    by_cases g2 : gp_pk tx ty a = 47
    · rw [if_pos (by exact g2)]
      refine go _ ?_
      show gn_ff (gp_es fs)
      cases fs with
      | nil => exact trivial
      | cons f fs =>
        obtain ⟨b, q, is, as⟩ := f
        obtain ⟨k0, k1, k2, k3⟩ := h
        refine ⟨k0, fun e he => absurd he (by intro w; cases w), fun e he => ?_, k3⟩
        rcases List.mem_cons.mp he with he | he
        · have : gn_s (gp_jn 4 is) ≤ 7 - fs.length := gn_jn _ (fun y hy => by have := k1 y hy; omega)
          rw [he]
          show gn_s (gp_jn 4 is) + fs.length ≤ 7
          omega
        · exact k2 e he
    rw [if_neg (by exact g2)]
    by_cases g3 : gp_pk tx ty a = gp_cg (gp_tb fs)
    · rw [if_pos (by exact g3)]
      exact gn_cw tx ty (a + 1, p, fs, nA, nC) h
    · rw [if_neg (by exact g3)]
      exact no _
  · rw [if_neg (by exact h6)]
    exact no _
theorem gn_mr (tx : Nat → Int) (ty : Nat) : ∀ (n : Nat) (s : gp_Sg), gn_ff s.2.2.1 → ∀ t, gp_mr tx ty n s = .inr t → gn_s t.2.1 ≤ 7 := by
  intro n
  induction n with
  | zero => intro s _ t w; cases w
  | succ n ih =>
    intro s h t w
    rw [gp_mr] at w
    obtain ⟨h1, h2⟩ := gn_ms tx ty s h
    generalize gp_ms tx ty s = r at w h1 h2
    match r, w, h1, h2 with
    | .inl j, w, _, _ => cases w
    | .inr (.inl u), w, h1, _ => exact ih u (h1 u rfl) t w
    | .inr (.inr u), w, _, h2 =>
      have w : (Sum.inr u : Nat ⊕ (Nat × Lean.ParserDescr × Nat × Nat)) = .inr t := w
      injection w with w
      rw [← w]
      exact h2 u.1 u.2.1 u.2.2.1 u.2.2.2 rfl
theorem gn_rl (tx : Nat → Int) (ty R : Nat) (f : Nat → Int × Lean.ParserDescr) (a nA nC : Nat) : ∀ t, gp_rl tx ty R f a nA nC = .inr t → gn_s t.2.1.2 ≤ 7 := by
  intro t w
  unfold gp_rl at w
  split at w
  · cases w
  · split at w
    · have m := gn_mr tx ty (ty + 3) (a + 2, 0, [(59, 0, [], [])], nA, nC) ⟨Nat.zero_le _, fun e he => absurd he (by intro w; cases w), fun e he => absurd he (by intro w; cases w), trivial⟩
      generalize gp_mr tx ty (ty + 3) (a + 2, 0, [(59, 0, [], [])], nA, nC) = r at w m
      match r, w, m with
      | .inl j, w, _ => cases w
      | .inr u, w, m =>
        have w : (Sum.inr (u.1, (gp_pk tx ty a, u.2.1), u.2.2.1, u.2.2.2) : Nat ⊕ (Nat × (Int × Lean.ParserDescr) × Nat × Nat)) = .inr t := w
        injection w with w
        rw [← w]
        exact m u rfl
    · cases w
theorem gn_rd (tx : Nat → Int) (ty : Nat) : ∀ (n R : Nat) (f : Nat → Int × Lean.ParserDescr) (a nA nC : Nat), (∀ r, r < R → gn_s (f r).2 ≤ 7) → ∀ t, gp_rd tx ty n R f a nA nC = .inr t → ∀ r, r < t.1 → gn_s (t.2.1 r).2 ≤ 7 := by
  intro n
  induction n with
  | zero => intro R f a nA nC _ t w; cases w
  | succ n ih =>
    intro R f a nA nC hB t w
    rw [gp_rd] at w
    split at w
    · have m := gn_rl tx ty R f a nA nC
      generalize gp_rl tx ty R f a nA nC = r at w m
      match r, w, m with
      | .inl j, w, _ => cases w
      | .inr u, w, m =>
        have w : gp_rd tx ty n (R + 1) (gp_ad f R u.2.1) u.1 u.2.2.1 u.2.2.2 = .inr t := w
        refine ih (R + 1) _ u.1 _ _ (fun r hr => ?_) t w
        by_cases q : r = R
        · have e : gp_ad f R u.2.1 r = u.2.1 := if_pos q
          rw [e]
          exact m u rfl
        · have e : gp_ad f R u.2.1 r = f r := if_neg q
          rw [e]
          exact hB r (by omega)
    · injection w with w
      rw [← w]
      exact hB
def gn_su (g : Nat → Nat) : Nat → Nat
  | 0 => g 0
  | p + 1 => gn_su g p + g (p + 1)
/-- stars d deep, p characters left -/
def gn_b : Nat → Nat → Nat
  | 0 => fun _ => 1
  | d + 1 => gn_su (gn_b d)
theorem gn_b_0 (p : Nat) : gn_b 0 p = 1 := rfl
theorem gn_b_s0 (d : Nat) : gn_b (d + 1) 0 = gn_b d 0 := rfl
theorem gn_b_ss (d p : Nat) : gn_b (d + 1) (p + 1) = gn_b (d + 1) p + gn_b d (p + 1) := rfl
theorem gn_b_p1 : ∀ d p, gn_b d p ≤ gn_b d (p + 1) := by
  intro d
  cases d with
  | zero => intro p; exact Nat.le_refl _
  | succ d => intro p; rw [gn_b_ss]; omega
theorem gn_b_p (d : Nat) : ∀ k p, gn_b d p ≤ gn_b d (p + k) := by
  intro k
  induction k with
  | zero => intro p; exact Nat.le_refl _
  | succ k ih => intro p; exact Nat.le_trans (ih p) (gn_b_p1 d (p + k))
theorem gn_b_d1 : ∀ d p, gn_b d p ≤ gn_b (d + 1) p := by
  intro d p
  cases p with
  | zero => rw [gn_b_s0]; exact Nat.le_refl _
  | succ p => rw [gn_b_ss]; omega
theorem gn_b_d (p : Nat) : ∀ k d, gn_b d p ≤ gn_b (d + k) p := by
  intro k
  induction k with
  | zero => intro d; exact Nat.le_refl _
  | succ k ih => intro d; exact Nat.le_trans (ih d) (gn_b_d1 (d + k) p)
theorem gn_b_m {d d' p p' : Nat} (h : d ≤ d') (h2 : p ≤ p') : gn_b d p ≤ gn_b d' p' := by
  have a := gn_b_d p (d' - d) d
  have b := gn_b_p d' (p' - p) p
  rw [show d + (d' - d) = d' by omega] at a
  rw [show p + (p' - p) = p' by omega] at b
  exact Nat.le_trans a b
theorem gn_b_1 (d p : Nat) : 1 ≤ gn_b d p := by
  have := gn_b_m (d := 0) (p := p) (Nat.zero_le d) (Nat.le_refl p)
  rw [gn_b_0] at this
  exact this
/-- behind a star's part -/
theorem gn_b_s {d p v : Nat} (h1 : 1 ≤ v) (h2 : v ≤ p) : gn_b d p + gn_b (d + 1) (p - v) ≤ gn_b (d + 1) p := by
  obtain ⟨k, e⟩ : ∃ k, p = k + 1 := ⟨p - 1, by omega⟩
  rw [e]
  have := gn_b_m (d := d + 1) (d' := d + 1) (p := k + 1 - v) (p' := k) (Nat.le_refl _) (by omega)
  have e2 : gn_b (d + 1) (k + 1) = gn_b (d + 1) k + gn_b d (k + 1) := gn_b_ss d k
  omega
