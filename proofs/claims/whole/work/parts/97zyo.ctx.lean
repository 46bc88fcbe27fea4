/-! What the expressions speak of, for a text and a subject. -/
/-- names made plain -/
def gy_nm : Lean.ParserDescr → Lean.ParserDescr
  | .cat nm k => .cat (.num (.num .anonymous (gp_n1 nm)) (if k = 3 then 0 else gp_n2 nm)) k
  | .node _ k e => .node .anonymous k (gy_nm e)
  | .binary nm e g => .binary nm (gy_nm e) (gy_nm g)
  | e => e
theorem gy_nm_id : ∀ e : Lean.ParserDescr, gr_cn e → gy_nm e = e := by
  intro e
  induction e with
  | cat nm k =>
    intro h
    obtain ⟨h1, h2⟩ := h
    show Lean.ParserDescr.cat (.num (.num .anonymous (gp_n1 nm)) (if k = 3 then 0 else gp_n2 nm)) k = .cat nm k
    by_cases z : k = 3
    · rw [if_pos z, ← h2 z, ← h1]
    · rw [if_neg z, ← h1]
  | node nm k e ih =>
    intro h
    show Lean.ParserDescr.node .anonymous k (gy_nm e) = .node nm k e
    rw [ih h.2, h.1]
  | binary nm e g ih1 ih2 =>
    intro h
    show Lean.ParserDescr.binary nm (gy_nm e) (gy_nm g) = .binary nm e g
    rw [ih1 h.1, ih2 h.2]
  | _ => intro h; exact h.elim
theorem gy_nm_rep {Pg : Nat → Nat → Nat → Prop} {B : Nat} {kd on tw : Nat → Int32} : ∀ (e : Lean.ParserDescr) (m : Nat), gp_rep Pg B kd on tw e m → gp_rep Pg B kd on tw (gy_nm e) m ∧ gr_cn (gy_nm e) := by
  intro e
  induction e with
  | cat nm k =>
    intro m h
    refine ⟨?_, rfl, fun z => if_pos z⟩
    obtain ⟨a, b, c, d, g⟩ := h
    refine ⟨a, b, fun z => ?_, fun z => d z, fun z => ?_⟩
    · show (on m).toInt = gp_n1 nm ∧ (tw m).toInt = ((if k = 3 then 0 else gp_n2 nm : Nat) : Int)
      rw [if_neg (show ¬ k = 3 by omega)]
      exact c z
    · show Pg m (gp_n1 nm) (if k = 3 then 0 else gp_n2 nm)
      rw [if_neg (show ¬ k = 3 by omega)]
      exact g z
  | node nm k e ih =>
    intro m h
    obtain ⟨a, b, c, d⟩ := h
    exact ⟨⟨a, b, c, (ih _ d).1⟩, rfl, (ih _ d).2⟩
  | binary nm e g ih1 ih2 =>
    intro m h
    obtain ⟨a, b, c, d, r1, r2⟩ := h
    exact ⟨⟨a, b, c, d, (ih1 _ r1).1, (ih2 _ r2).1⟩, (ih1 _ r1).2, (ih2 _ r2).2⟩
  | _ => intro m h; exact h.elim
/-- the head of an expression -/
abbrev gy_hd (tx : Nat → Int) (ty R : Nat) (f : Nat → Int × Lean.ParserDescr) (e : Lean.ParserDescr) (c : Int) : Prop := gq_fb (gq_EL f R) (gq_lfH tx ty c) gq_sx (fun k => gq_lH tx ty f R c (gq_fx f (k : Int) R)) e
/-- what the code speaks of -/
def gy_X (tx : Nat → Int) (ty R : Nat) (f : Nat → Int × Lean.ParserDescr) (T : gm_S) : gt_X := (gt_hd T, gq_em (gq_EL f R), fun e c => gy_hd tx ty R f (gy_nm e) c, tx, ty, fun c => gq_fx f (c : Int) R)
theorem gy_lk_X {tx : Nat → Int} {ty R : Nat} {f : Nat → Int × Lean.ParserDescr} {T : gm_S} {op od tg : Nat → Int32} {x : Lean.ParserDescr} (hx : gr_cn x) {a l t : Nat} (h : gt_lk (gt_ctx tx ty R f T) op od tg x a l t) : gt_lk (gy_X tx ty R f T) op od tg x a l t := by
  rcases h with h | ⟨h1, h2, h3, h4, h5⟩
  · exact Or.inl h
  · refine Or.inr ⟨h1, h2, h3, h4, ?_⟩
    have e : (fun c => gy_hd tx ty R f (gy_nm x) c) = (fun c => gy_hd tx ty R f x c) := by rw [gy_nm_id x hx]
    show gt_hd T (od a) (fun c => gy_hd tx ty R f (gy_nm x) c)
    rw [e]
    exact h5
theorem gy_L_X {tx : Nat → Int} {ty R : Nat} {f : Nat → Int × Lean.ParserDescr} {T : gm_S} {op od tg : Nat → Int32} : ∀ (e : Lean.ParserDescr) (a b : Nat), gr_cn e → gt_L (gt_ctx tx ty R f T) op od tg e a b → gt_L (gy_X tx ty R f T) op od tg e a b := by
  intro e
  induction e with
  | cat nm k => intro a b _ h; exact h
  | node nm k x ih =>
    intro a b hc h
    rcases h with ⟨k67, l, m, h1, h2, h3, h4, h5⟩ | ⟨k8, m, h1, h2, h3, h4⟩ | ⟨k9, m, h1, h2, h3, h4⟩ | ⟨k10, m, h1, h3, h4⟩
    · exact Or.inl ⟨k67, l, m, gy_lk_X hc.2 h1, h2, h3, ih _ _ hc.2 h4, h5⟩
    · exact Or.inr (Or.inl ⟨k8, m, h1, h2, ih _ _ hc.2 h3, h4⟩)
    · exact Or.inr (Or.inr (Or.inl ⟨k9, m, h1, h2, ih _ _ hc.2 h3, h4⟩))
    · exact Or.inr (Or.inr (Or.inr ⟨k10, m, h1, ih _ _ hc.2 h3, h4⟩))
  | binary nm x y ih1 ih2 =>
    intro a b hc h
    rcases h with ⟨n1, n2, l, m, h1, h2, h3, h4, h5, h6, h7, h8⟩ | ⟨n1, n2, m, h1, h2⟩ | ⟨n1, n2, l, m, h1, h2, h3, h4, h5, h6, h7⟩
    · exact Or.inl ⟨n1, n2, l, m, h1, h2, h3, gy_lk_X hc.1 h4, h5, h6, ih1 _ _ hc.1 h7, h8⟩
    · exact Or.inr (Or.inl ⟨n1, n2, m, ih1 _ _ hc.1 h1, ih2 _ _ hc.2 h2⟩)
    · exact Or.inr (Or.inr ⟨n1, n2, l, m, gy_lk_X hc.1 h1, h2, h3, ih1 _ _ hc.1 h4, h5, h6, ih2 _ _ hc.2 h7⟩)
  | _ => intro a b hc; exact hc.elim
noncomputable def gy_dc (p : Prop) : Bool := @decide p (Classical.propDecidable p)
theorem gy_dc_i {p : Prop} : gy_dc p = true ↔ p := @decide_eq_true_iff p (Classical.propDecidable p)
/-- rules, rows, classes, looks; lk: whether there is looking -/
noncomputable def gy_C (tx : Nat → Int) (ty R : Nat) (f : Nat → Int × Lean.ParserDescr) (fed : Nat) (sub : Nat → Int) (lk : Bool) : gv_C :=
  (fun c => (f (gq_fx f (c : Int) R)).2, fun a m q => gy_dc (q + m ≤ fed ∧ ∀ i, i < m → sub (q + i) = tx (a + i)), fun a b q => gy_dc (q < fed ∧ gq_st tx ty a b (sub q)), fun x q => gy_dc (lk = true → gq_em (gq_EL f R) x ∨ (q < fed ∧ gy_hd tx ty R f (gy_nm x) (sub q))))
