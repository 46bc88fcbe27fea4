/-! Which rules can begin an expression, and their weights. -/
def gv_bg (f : Nat → Int × Lean.ParserDescr) (R r : Nat) (e : Lean.ParserDescr) : Prop := gq_fb (gq_EL f R) (gq_lfB f R r) (fun _ => False) (fun c => gq_lB f R r (gq_fx f (c : Int) R)) e
theorem gv_bg_n {f : Nat → Int × Lean.ParserDescr} {R r k : Nat} {nm : Lean.Name} {x : Lean.ParserDescr} (h : gv_bg f R r x) : gv_bg f R r (.node nm k x) := ⟨fun h => h, h⟩
theorem gv_bg_1 {f : Nat → Int × Lean.ParserDescr} {R r : Nat} {nm : Lean.Name} {x y : Lean.ParserDescr} (h : gv_bg f R r x) : gv_bg f R r (.binary nm x y) := Or.inl h
theorem gv_bg_2 {f : Nat → Int × Lean.ParserDescr} {R r : Nat} {nm : Lean.Name} {x y : Lean.ParserDescr} (he : gp_n2 nm = 4 → gq_em (gq_EL f R) x) (h : gv_bg f R r y) : gv_bg f R r (.binary nm x y) := Or.inr ⟨he, h⟩
theorem gv_bg_r {f : Nat → Int × Lean.ParserDescr} {R r s : Nat} (hs : s < R) (h : gv_bg f R r (f s).2) : gq_lB f R r s := by
  intro X hX
  exact hX s hs (gq_fb_mono (fun c hc => hc X hX) _ h)
/-- a name: its rule, and what can begin its rule -/
theorem gv_bg_c {f : Nat → Int × Lean.ParserDescr} {R c : Nat} : gv_bg f R (gq_fx f (c : Int) R) (gp_e0 3 c 0) := Or.inl ⟨c, rfl, rfl⟩
theorem gv_bg_b {f : Nat → Int × Lean.ParserDescr} {R r c : Nat} (hs : gq_fx f (c : Int) R < R) (h : gv_bg f R r (f (gq_fx f (c : Int) R)).2) : gv_bg f R r (gp_e0 3 c 0) := Or.inr ⟨rfl, gv_bg_r hs h⟩
/-- no rule begins itself -/
theorem gv_bg_no {f : Nat → Int × Lean.ParserDescr} {R s : Nat} (hw : gs_no R (gq_wd f R)) (hs : s < R) : ¬ gv_bg f R s (f s).2 := fun h => hw s hs (Or.inl (gv_bg_r hs h))
theorem gv_su_m {x y : Nat → Bool} {w : Nat → Nat} : ∀ n, (∀ k, k < n → x k = true → y k = true) → gv_su x w n ≤ gv_su y w n := by
  intro n
  induction n with
  | zero => intro _; exact Nat.le_refl 0
  | succ n ih =>
    intro h
    have i := ih (fun k hk => h k (by omega))
    rw [gv_su, gv_su]
    by_cases e : x n = true
    · rw [if_pos e, if_pos (h n (by omega) e)]; omega
    · rw [if_neg e]; omega
theorem gv_su_p {x y : Nat → Bool} {w : Nat → Nat} {c : Nat} (hx : ¬ x c = true) (hy : y c = true) : ∀ n, c < n → (∀ k, k < n → x k = true → y k = true) → gv_su x w n + w c ≤ gv_su y w n := by
  intro n
  induction n with
  | zero => intro h; omega
  | succ n ih =>
    intro hc h
    rw [gv_su, gv_su]
    by_cases e : c = n
    · subst e
      have := gv_su_m (w := w) c (fun k hk => h k (by omega))
      rw [if_neg hx, if_pos hy]
      omega
    · have i := ih (by omega) (fun k hk => h k (by omega))
      by_cases e : x n = true
      · rw [if_pos e, if_pos (h n (by omega) e)]; omega
      · rw [if_neg e]; omega
/-- the weights W of the rules that can begin e; b tells which -/
def gv_pb (f : Nat → Int × Lean.ParserDescr) (R : Nat) (b : Lean.ParserDescr → Nat → Bool) : Prop := ∀ e r, b e r = true ↔ gv_bg f R r e
theorem gv_pb_ex (f : Nat → Int × Lean.ParserDescr) (R : Nat) : ∃ b, gv_pb f R b := ⟨fun e r => @decide (gv_bg f R r e) (Classical.propDecidable _), fun e r => @decide_eq_true_iff _ (Classical.propDecidable _)⟩
theorem gv_sg_n {f : Nat → Int × Lean.ParserDescr} {R k : Nat} {b : Lean.ParserDescr → Nat → Bool} (hb : gv_pb f R b) (W : Nat → Nat) {nm : Lean.Name} {x : Lean.ParserDescr} : gv_su (b x) W R ≤ gv_su (b (.node nm k x)) W R := gv_su_m R (fun r _ h => (hb _ r).mpr (gv_bg_n ((hb _ r).mp h)))
theorem gv_sg_1 {f : Nat → Int × Lean.ParserDescr} {R : Nat} {b : Lean.ParserDescr → Nat → Bool} (hb : gv_pb f R b) (W : Nat → Nat) {nm : Lean.Name} {x y : Lean.ParserDescr} : gv_su (b x) W R ≤ gv_su (b (.binary nm x y)) W R := gv_su_m R (fun r _ h => (hb _ r).mpr (gv_bg_1 ((hb _ r).mp h)))
theorem gv_sg_2 {f : Nat → Int × Lean.ParserDescr} {R : Nat} {b : Lean.ParserDescr → Nat → Bool} (hb : gv_pb f R b) (W : Nat → Nat) {nm : Lean.Name} {x y : Lean.ParserDescr} (he : gp_n2 nm = 4 → gq_em (gq_EL f R) x) : gv_su (b y) W R ≤ gv_su (b (.binary nm x y)) W R := gv_su_m R (fun r _ h => (hb _ r).mpr (gv_bg_2 he ((hb _ r).mp h)))
theorem gv_sg_c {f : Nat → Int × Lean.ParserDescr} {R c : Nat} {b : Lean.ParserDescr → Nat → Bool} (hb : gv_pb f R b) (W : Nat → Nat) (hw : gs_no R (gq_wd f R)) (hs : gq_fx f (c : Int) R < R) : gv_su (b (f (gq_fx f (c : Int) R)).2) W R + W (gq_fx f (c : Int) R) ≤ gv_su (b (gp_e0 3 c 0)) W R := gv_su_p (fun h => gv_bg_no hw hs ((hb _ _).mp h)) ((hb _ _).mpr gv_bg_c) R hs (fun r _ h => (hb _ r).mpr (gv_bg_b hs ((hb _ r).mp h)))
theorem gv_sg_a (b : Nat → Bool) (W : Nat → Nat) (R : Nat) : gv_su b W R ≤ gv_su (fun _ => true) W R := gv_su_le b W R
