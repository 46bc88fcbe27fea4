/-! Steps and characters. -/
/-- names that are called where nothing is taken -/
def gj_a (em : Lean.ParserDescr → Bool) : Lean.ParserDescr → Nat
  | .cat nm j => if em (.cat nm j) = true then (if j = 3 then 1 else 0) else 0
  | .binary nm x y => if em (.binary nm x y) = true then (if gp_n2 nm = 4 then gj_a em x + gj_a em y else gj_a em y) else 0
  | _ => 0
/-- looks that spare, where nothing is taken -/
def gj_j (em : Lean.ParserDescr → Bool) : Lean.ParserDescr → Nat
  | .node nm j x => if em (.node nm j x) = true then (if j = 6 ∨ j = 7 then (if em x = true then 0 else 1) else 0) else 0
  | .binary nm x y => if em (.binary nm x y) = true then (if gp_n2 nm = 4 then gj_j em x + gj_j em y else (if em x = true then 0 else 1) + gj_j em y) else 0
  | _ => 0
/-- at least so many characters of the text -/
def gj_L : Lean.ParserDescr → Nat
  | .cat nm j => if j = 0 then 0 else if j = 1 then gp_n2 nm else 1
  | .node _ j x => (if j = 10 then 2 else 1) + gj_L x
  | .binary nm x y => if gp_n1 nm = 1 then 1 + gj_L x else (if gp_n2 nm = 4 then 0 else 1) + gj_L x + gj_L y
  | _ => 0
theorem gj_L1 {f : Nat → Int × Lean.ParserDescr} {R : Nat} {em : Lean.ParserDescr → Bool} (hem : ∀ e, em e = true ↔ gq_em (gq_EL f R) e) : ∀ e : Lean.ParserDescr, gv_wf f R e → ¬ em e = true → 1 ≤ gj_L e := by
  intro e
  induction e with
  | cat nm j =>
    intro h ne
    obtain ⟨h1, h2, -⟩ := h
    unfold gj_L
    by_cases a : j = 0
    · exact absurd ((hem (.cat nm j)).mpr (Or.inl a)) ne
    · rw [if_neg a]
      by_cases b : j = 1
      · rw [if_pos b]; exact h2 b
      · rw [if_neg b]; exact Nat.le_refl _
  | node nm j x ih =>
    intro h ne
    unfold gj_L
    by_cases a : j = 10
    · rw [if_pos a]; omega
    · rw [if_neg a]; omega
  | binary nm x y ih1 ih2 =>
    intro h ne
    obtain ⟨wx, wy, j45, -⟩ := h
    unfold gj_L
    by_cases n1 : gp_n1 nm = 1
    · rw [if_pos n1]; omega
    · rw [if_neg n1]
      by_cases n4 : gp_n2 nm = 4
      · rw [if_pos n4]
        by_cases ex : em x = true
        · by_cases ey : em y = true
          · exact absurd ((hem (.binary nm x y)).mpr (Or.inl ⟨n4, (hem x).mp ex, (hem y).mp ey⟩)) ne
          · have := ih2 wy ey; omega
        · have := ih1 wx ex; omega
      · rw [if_neg n4]; omega
  | _ => intro h; exact h.elim
/-- what a nothing costs, by its names and looks -/
theorem gj_Za {f : Nat → Int × Lean.ParserDescr} {R : Nat} {b : Lean.ParserDescr → Nat → Bool} {em : Lean.ParserDescr → Bool} {ps : Nat → Nat} (hb : gv_pb f R b) (hem : ∀ e, em e = true ↔ gq_em (gq_EL f R) e) {M : Nat} : ∀ e : Lean.ParserDescr, gv_wf f R e → (∀ r, r < R → b e r = true → ps r ≤ M) → gj_Z em (fun c => ps (gq_fx f (c : Int) R)) e ≤ gj_a em e * (2 + M) + gj_j em e := by
  intro e
  induction e with
  | cat nm j =>
    intro h hM
    unfold gj_Z gj_a
    by_cases a : em (.cat nm j) = true
    · rw [if_pos a, if_pos a]
      by_cases h3 : j = 3
      · rw [if_pos h3, if_pos h3, Nat.one_mul]
        obtain ⟨c, e1, e2⟩ := h.2.2 h3
        subst h3
        subst e1
        have := hM _ e2 ((hb _ _).mpr gv_bg_c)
        show 2 + ps (gq_fx f (c : Int) R) ≤ _
        omega
      · rw [if_neg h3]; exact Nat.zero_le _
    · rw [if_neg a]; exact Nat.zero_le _
  | node nm j x ih =>
    intro h hM
    unfold gj_Z gj_a gj_j
    omega
  | binary nm x y ih1 ih2 =>
    intro h hM
    obtain ⟨wx, wy, j45, -⟩ := h
    unfold gj_Z gj_a gj_j
    by_cases a : em (.binary nm x y) = true
    · rw [if_pos a, if_pos a, if_pos a]
      have ee := (hem _).mp a
      by_cases n4 : gp_n2 nm = 4
      · rw [if_pos n4, if_pos n4, if_pos n4]
        have ex : gq_em (gq_EL f R) x := by
          rcases ee with ⟨-, e, -⟩ | ⟨e, -⟩
          · exact e
          · exact absurd n4 e
        have i1 := ih1 wx (fun r hr q => hM r hr ((hb _ _).mpr (gv_bg_1 ((hb _ _).mp q))))
        have i2 := ih2 wy (fun r hr q => hM r hr ((hb _ _).mpr (gv_bg_2 (fun _ => ex) ((hb _ _).mp q))))
        rw [Nat.add_mul]
        omega
      · rw [if_neg n4, if_neg n4, if_neg n4]
        have i2 := ih2 wy (fun r hr q => hM r hr ((hb _ _).mpr (gv_bg_2 (fun h => absurd h n4) ((hb _ _).mp q))))
        omega
    · rw [if_neg a]; exact Nat.zero_le _
  | _ => intro h; exact h.elim
/-- names that are called where nothing is taken are of rules that can be empty, and that begin it -/
theorem gj_a_pos {f : Nat → Int × Lean.ParserDescr} {R : Nat} {b : Lean.ParserDescr → Nat → Bool} {em : Lean.ParserDescr → Bool} (hb : gv_pb f R b) (hem : ∀ e, em e = true ↔ gq_em (gq_EL f R) e) (hE : ∀ c : Nat, gq_fx f (c : Int) R < R → gq_EL f R c → em (f (gq_fx f (c : Int) R)).2 = true) : ∀ e : Lean.ParserDescr, gv_wf f R e → 0 < gj_a em e → ∃ r, r < R ∧ b e r = true ∧ em (f r).2 = true := by
  intro e
  induction e with
  | cat nm j =>
    intro h p
    unfold gj_a at p
    by_cases a : em (.cat nm j) = true
    · rw [if_pos a] at p
      by_cases h3 : j = 3
      · obtain ⟨c, e1, e2⟩ := h.2.2 h3
        subst h3
        subst e1
        refine ⟨_, e2, (hb _ _).mpr gv_bg_c, hE c e2 ?_⟩
        rcases (hem _).mp a with z | ⟨-, z⟩
        · exact absurd z (by decide)
        · exact z
      · rw [if_neg h3] at p; omega
    · rw [if_neg a] at p; omega
  | node nm j x ih => intro h p; exact absurd (show 0 < 0 from p) (by omega)
  | binary nm x y ih1 ih2 =>
    intro h p
    obtain ⟨wx, wy, j45, -⟩ := h
    unfold gj_a at p
    by_cases a : em (.binary nm x y) = true
    · rw [if_pos a] at p
      have ee := (hem _).mp a
      by_cases n4 : gp_n2 nm = 4
      · rw [if_pos n4] at p
        have ex : gq_em (gq_EL f R) x := by
          rcases ee with ⟨-, e, -⟩ | ⟨e, -⟩
          · exact e
          · exact absurd n4 e
        by_cases px : 0 < gj_a em x
        · obtain ⟨r, r1, r2, r3⟩ := ih1 wx px
          exact ⟨r, r1, (hb _ _).mpr (gv_bg_1 ((hb _ _).mp r2)), r3⟩
        · obtain ⟨r, r1, r2, r3⟩ := ih2 wy (by omega)
          exact ⟨r, r1, (hb _ _).mpr (gv_bg_2 (fun _ => ex) ((hb _ _).mp r2)), r3⟩
      · rw [if_neg n4] at p
        obtain ⟨r, r1, r2, r3⟩ := ih2 wy p
        exact ⟨r, r1, (hb _ _).mpr (gv_bg_2 (fun h => absurd h n4) ((hb _ _).mp r2)), r3⟩
    · rw [if_neg a] at p; omega
  | _ => intro h; exact h.elim
/-- what is so of an expression: its characters, its costs, those of its parts -/
def gj_T (em : Lean.ParserDescr → Bool) (ph : Nat → Nat) (u : Nat) (e : Lean.ParserDescr) : Prop :=
  gj_Z em ph e ≤ gj_a em e * u + gj_j em e ∧
  (∃ m, gj_a em e + 2 * gj_j em e + m ≤ gj_L e ∧ gj_D em ph e ≤ gj_Z em ph e + m * u) ∧
  (em e = true → ∀ x, x ∈ gp_sb e → ∃ m, gj_a em e + 2 * gj_j em e + m ≤ gj_L e + 1 ∧ gj_D em ph x ≤ gj_Z em ph e + m * u) ∧
  (¬ em e = true → gj_a em e = 0 ∧ gj_j em e = 0 ∧ gj_Z em ph e = 0 ∧ ∀ x, x ∈ gp_sb e → gj_D em ph x ≤ gj_L e * u)
/-- a part of what can be empty -/
theorem gj_T_s {em : Lean.ParserDescr → Bool} {ph : Nat → Nat} {u : Nat} (hu : 4 ≤ u) {e x : Lean.ParserDescr} (h : gj_T em ph u e) (hx : x ∈ gp_sb e) : gj_D em ph x ≤ (gj_L e + 1) * u ∧ (¬ em e = true → gj_D em ph x ≤ gj_L e * u) := by
  obtain ⟨h1, -, h3, h4⟩ := h
  refine ⟨?_, fun n => (h4 n).2.2.2 x hx⟩
  by_cases a : em e = true
  · obtain ⟨m, m1, m2⟩ := h3 a x hx
    have := Nat.mul_le_mul_right u m1
    rw [Nat.add_mul, Nat.add_mul] at this
    have j2 : gj_j em e ≤ 2 * gj_j em e * u := by
      have := Nat.mul_le_mul_left (2 * gj_j em e) (show 1 ≤ u by omega)
      omega
    omega
  · have := (h4 a).2.2.2 x hx
    rw [Nat.add_mul]
    omega
