/-! The code of an expression: where what stands. -/
/-- what a layout speaks of: the node d holds the characters C; what can be empty; what can begin; the text; the rule of a name -/
abbrev gt_X : Type := (Int32 → (Int → Prop) → Prop) × (Lean.ParserDescr → Prop) × (Lean.ParserDescr → Int → Prop) × (Nat → Int) × Nat × (Nat → Nat)
/-- a look at the next character, where there is one: from a to l, past it to t -/
def gt_lk (X : gt_X) (op od tg : Nat → Int32) (x : Lean.ParserDescr) (a l t : Nat) : Prop := (X.2.1 x ∧ l = a) ∨ (¬ X.2.1 x ∧ l = a + 1 ∧ op a = 1 ∧ (tg a).toInt = (t : Nat) ∧ X.1 (od a) (X.2.2.1 x))
/-- the code of an expression stands from a to b -/
def gt_L (X : gt_X) (op od tg : Nat → Int32) : Lean.ParserDescr → Nat → Nat → Prop
  | .cat nm k, a, b => k ≤ 3 ∧ (k = 0 → b = a) ∧ (k = 1 → b = a + gp_n2 nm ∧ ∀ j, j < gp_n2 nm → op (a + j) = 0 ∧ X.1 (od (a + j)) (fun c => c = X.2.2.2.1 (gp_n1 nm + j))) ∧ (k = 2 → b = a + 1 ∧ op a = 0 ∧ X.1 (od a) (gq_st X.2.2.2.1 X.2.2.2.2.1 (gp_n1 nm) (gp_n2 nm))) ∧ (k = 3 → b = a + 1 ∧ op a = 8 ∧ (od a).toInt = (X.2.2.2.2.2 (gp_n1 nm) : Nat))
  | .node _ k x, a, b => ((k = 6 ∨ k = 7) ∧ ∃ l m, gt_lk X op od tg x a l b ∧ op l = 2 ∧ (tg l).toInt = (b : Nat) ∧ gt_L X op od tg x (l + 1) m ∧ op m = 5 ∧ (k = 6 → (tg m).toInt = (b : Nat)) ∧ (k = 7 → (tg m).toInt = (a : Nat)) ∧ b = m + 1) ∨ (k = 8 ∧ ∃ m, op a = 2 ∧ tg a = -1 ∧ gt_L X op od tg x (a + 1) m ∧ op m = 6 ∧ b = m + 1) ∨ (k = 9 ∧ ∃ m, op a = 2 ∧ (tg a).toInt = (b : Nat) ∧ gt_L X op od tg x (a + 1) m ∧ op m = 7 ∧ b = m + 1) ∨ (k = 10 ∧ ∃ m, op a = 10 ∧ gt_L X op od tg x (a + 1) m ∧ op m = 11 ∧ b = m + 1)
  | .binary nm x y, a, b => (gp_n1 nm = 1 ∧ gp_n2 nm = 4 ∧ ∃ l m, op a = 3 ∧ op (a + 1) = 4 ∧ (tg (a + 1)).toInt = ((l + 1 : Nat) : Int) ∧ gt_lk X op od tg x (a + 2) l b ∧ op l = 2 ∧ (tg l).toInt = (b : Nat) ∧ gt_L X op od tg x (l + 1) m ∧ op m = 5 ∧ (tg m).toInt = ((a + 2 : Nat) : Int) ∧ b = m + 1) ∨ (gp_n1 nm = 0 ∧ gp_n2 nm = 4 ∧ ∃ m, gt_L X op od tg x a m ∧ gt_L X op od tg y m b) ∨ (gp_n1 nm = 0 ∧ gp_n2 nm = 5 ∧ ∃ l m, gt_lk X op od tg x a l (m + 1) ∧ op l = 2 ∧ (tg l).toInt = ((m + 1 : Nat) : Int) ∧ gt_L X op od tg x (l + 1) m ∧ op m = 5 ∧ (tg m).toInt = (b : Nat) ∧ gt_L X op od tg y (m + 1) b)
  | _, _, _ => False
theorem gt_lk_le {X : gt_X} {op od tg : Nat → Int32} {x : Lean.ParserDescr} {a l t : Nat} (h : gt_lk X op od tg x a l t) : a ≤ l ∧ l ≤ a + 1 := by
  rcases h with ⟨-, h⟩ | ⟨-, h, -⟩ <;> omega
theorem gt_L_le {X : gt_X} {op od tg : Nat → Int32} : ∀ (e : Lean.ParserDescr) (a b : Nat), gt_L X op od tg e a b → a ≤ b := by
  intro e
  induction e with
  | cat nm k =>
    intro a b h
    obtain ⟨h0, h1, h2, h3, h4⟩ := h
    have : k = 0 ∨ k = 1 ∨ k = 2 ∨ k = 3 := by omega
    rcases this with q | q | q | q
    · have := h1 q; omega
    · have := (h2 q).1; omega
    · have := (h3 q).1; omega
    · have := (h4 q).1; omega
  | node nm k x ih =>
    intro a b h
    rcases h with ⟨-, l, m, h1, -, -, h4, -, -, -, h7⟩ | ⟨-, m, -, -, h4, -, h7⟩ | ⟨-, m, -, -, h4, -, h7⟩ | ⟨-, m, -, h4, -, h7⟩
    · have := gt_lk_le h1; have := ih _ _ h4; omega
    · have := ih _ _ h4; omega
    · have := ih _ _ h4; omega
    · have := ih _ _ h4; omega
  | binary nm x y ih1 ih2 =>
    intro a b h
    rcases h with ⟨-, -, l, m, -, -, -, h1, -, -, h4, -, -, h7⟩ | ⟨-, -, m, h1, h2⟩ | ⟨-, -, l, m, h1, -, -, h4, -, -, h7⟩
    · have := gt_lk_le h1; have := ih1 _ _ h4; omega
    · have := ih1 _ _ h1; have := ih2 _ _ h2; omega
    · have := gt_lk_le h1; have := ih1 _ _ h4; have := ih2 _ _ h7; omega
  | _ => intro a b h; exact h.elim
/-- the same code from a to b -/
def gt_sm (op od tg op' od' tg' : Nat → Int32) (a b : Nat) : Prop := ∀ k, a ≤ k → k < b → op' k = op k ∧ od' k = od k ∧ tg' k = tg k
theorem gt_sm_r (op od tg : Nat → Int32) (a b : Nat) : gt_sm op od tg op od tg a b := fun _ _ _ => ⟨rfl, rfl, rfl⟩
theorem gt_sm_t {op od tg op' od' tg' op2 od2 tg2 : Nat → Int32} {a b : Nat} (h : gt_sm op od tg op' od' tg' a b) (h' : gt_sm op' od' tg' op2 od2 tg2 a b) : gt_sm op od tg op2 od2 tg2 a b := fun k k1 k2 => ⟨(h' k k1 k2).1.trans (h k k1 k2).1, (h' k k1 k2).2.1.trans (h k k1 k2).2.1, (h' k k1 k2).2.2.trans (h k k1 k2).2.2⟩
theorem gt_sm_w {op od tg op' od' tg' : Nat → Int32} {a b a' b' : Nat} (h : gt_sm op od tg op' od' tg' a b) (ha : a ≤ a') (hb : b' ≤ b) : gt_sm op od tg op' od' tg' a' b' := fun k k1 k2 => h k (by omega) (by omega)
theorem gt_lk_sm {X : gt_X} {op od tg op' od' tg' : Nat → Int32} {x : Lean.ParserDescr} {a l t b : Nat} (h : gt_sm op od tg op' od' tg' a b) (hb : l ≤ b) (q : gt_lk X op od tg x a l t) : gt_lk X op' od' tg' x a l t := by
  rcases q with q | ⟨q1, q2, q3, q4, q5⟩
  · exact Or.inl q
  · obtain ⟨e1, e2, e3⟩ := h a (Nat.le_refl a) (by omega)
    exact Or.inr ⟨q1, q2, e1.trans q3, by rw [e3]; exact q4, by rw [e2]; exact q5⟩
theorem gt_L_sm {X : gt_X} {op od tg op' od' tg' : Nat → Int32} : ∀ (e : Lean.ParserDescr) (a b : Nat), gt_sm op od tg op' od' tg' a b → gt_L X op od tg e a b → gt_L X op' od' tg' e a b := by
  intro e
  induction e with
  | cat nm k =>
    intro a b s h
    obtain ⟨h0, h1, h2, h3, h4⟩ := h
    refine ⟨h0, h1, fun q => ?_, fun q => ?_, fun q => ?_⟩
    · obtain ⟨q1, q2⟩ := h2 q
      refine ⟨q1, fun j hj => ?_⟩
      obtain ⟨e1, e2, e3⟩ := s (a + j) (by omega) (by omega)
      rw [e1, e2]
      exact q2 j hj
    · obtain ⟨q1, q2, q3⟩ := h3 q
      obtain ⟨e1, e2, e3⟩ := s a (by omega) (by omega)
      exact ⟨q1, e1.trans q2, by rw [e2]; exact q3⟩
    · obtain ⟨q1, q2, q3⟩ := h4 q
      obtain ⟨e1, e2, e3⟩ := s a (by omega) (by omega)
      exact ⟨q1, e1.trans q2, by rw [e2]; exact q3⟩
  | node nm k x ih =>
    intro a b s h
    rcases h with ⟨k1, l, m, h1, h2, h3, h4, h5, h6, h6', h7⟩ | ⟨k1, m, h2, h3, h4, h5, h7⟩ | ⟨k1, m, h2, h3, h4, h5, h7⟩ | ⟨k1, m, h2, h4, h5, h7⟩
    · have g1 := gt_lk_le h1
      have g2 := gt_L_le _ _ _ h4
      obtain ⟨e1, e2, e3⟩ := s l (by omega) (by omega)
      obtain ⟨f1, f2, f3⟩ := s m (by omega) (by omega)
      exact Or.inl ⟨k1, l, m, gt_lk_sm s (by omega) h1, e1.trans h2, by rw [e3]; exact h3, ih _ _ (gt_sm_w s (by omega) (by omega)) h4, f1.trans h5, by rw [f3]; exact h6, by rw [f3]; exact h6', h7⟩
    · have g2 := gt_L_le _ _ _ h4
      obtain ⟨e1, e2, e3⟩ := s a (by omega) (by omega)
      obtain ⟨f1, f2, f3⟩ := s m (by omega) (by omega)
      exact Or.inr (Or.inl ⟨k1, m, e1.trans h2, e3.trans h3, ih _ _ (gt_sm_w s (by omega) (by omega)) h4, f1.trans h5, h7⟩)
    · have g2 := gt_L_le _ _ _ h4
      obtain ⟨e1, e2, e3⟩ := s a (by omega) (by omega)
      obtain ⟨f1, f2, f3⟩ := s m (by omega) (by omega)
      exact Or.inr (Or.inr (Or.inl ⟨k1, m, e1.trans h2, by rw [e3]; exact h3, ih _ _ (gt_sm_w s (by omega) (by omega)) h4, f1.trans h5, h7⟩))
    · have g2 := gt_L_le _ _ _ h4
      obtain ⟨e1, e2, e3⟩ := s a (by omega) (by omega)
      obtain ⟨f1, f2, f3⟩ := s m (by omega) (by omega)
      exact Or.inr (Or.inr (Or.inr ⟨k1, m, e1.trans h2, ih _ _ (gt_sm_w s (by omega) (by omega)) h4, f1.trans h5, h7⟩))
  | binary nm x y ih1 ih2 =>
    intro a b s h
    rcases h with ⟨n1, n2, l, m, p1, p2, p3, h1, h2, h3, h4, h5, h6, h7⟩ | ⟨n1, n2, m, h1, h2⟩ | ⟨n1, n2, l, m, h1, h2, h3, h4, h5, h6, h7⟩
    · have g1 := gt_lk_le h1
      have g2 := gt_L_le _ _ _ h4
      obtain ⟨e1, e2, e3⟩ := s l (by omega) (by omega)
      obtain ⟨f1, f2, f3⟩ := s m (by omega) (by omega)
      obtain ⟨c1, c2, c3⟩ := s a (by omega) (by omega)
      obtain ⟨d1, d2, d3⟩ := s (a + 1) (by omega) (by omega)
      exact Or.inl ⟨n1, n2, l, m, c1.trans p1, d1.trans p2, by rw [d3]; exact p3, gt_lk_sm (gt_sm_w s (by omega) (Nat.le_refl b)) (by omega) h1, e1.trans h2, by rw [e3]; exact h3, ih1 _ _ (gt_sm_w s (by omega) (by omega)) h4, f1.trans h5, by rw [f3]; exact h6, h7⟩
    · have g1 := gt_L_le _ _ _ h1
      have g2 := gt_L_le _ _ _ h2
      exact Or.inr (Or.inl ⟨n1, n2, m, ih1 _ _ (gt_sm_w s (by omega) (by omega)) h1, ih2 _ _ (gt_sm_w s (by omega) (by omega)) h2⟩)
    · have g1 := gt_lk_le h1
      have g2 := gt_L_le _ _ _ h4
      have g3 := gt_L_le _ _ _ h7
      obtain ⟨e1, e2, e3⟩ := s l (by omega) (by omega)
      obtain ⟨f1, f2, f3⟩ := s m (by omega) (by omega)
      exact Or.inr (Or.inr ⟨n1, n2, l, m, gt_lk_sm s (by omega) h1, e1.trans h2, by rw [e3]; exact h3, ih1 _ _ (gt_sm_w s (by omega) (by omega)) h4, f1.trans h5, by rw [f3]; exact h6, ih2 _ _ (gt_sm_w s (by omega) (by omega)) h7⟩)
  | _ => intro a b s h; exact h.elim
