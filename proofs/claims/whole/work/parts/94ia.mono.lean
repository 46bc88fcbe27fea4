/-! More is known of the sets: what stands, stands. -/
theorem gp_rep_pm {P P' : Nat → Nat → Nat → Prop} {B : Nat} {kd on tw : Nat → Int32} (h : ∀ n a b, P n a b → P' n a b) : ∀ (e : Lean.ParserDescr) (n : Nat), gp_rep P B kd on tw e n → gp_rep P' B kd on tw e n := by
  intro e
  induction e with
  | cat nm k => intro n r; unfold gp_rep at r ⊢; exact ⟨r.1, r.2.1, r.2.2.1, r.2.2.2.1, fun q => h _ _ _ (r.2.2.2.2 q)⟩
  | node nm k e ih => intro n r; unfold gp_rep at r ⊢; exact ⟨r.1, r.2.1, r.2.2.1, ih _ r.2.2.2⟩
  | binary nm e g ih1 ih2 => intro n r; unfold gp_rep at r ⊢; exact ⟨r.1, r.2.1, r.2.2.1, r.2.2.2.1, ih1 _ r.2.2.2.2.1, ih2 _ r.2.2.2.2.2⟩
  | _ => intro n r; unfold gp_rep at r; exact r.elim
theorem gp_seg_pm {P P' : Nat → Nat → Nat → Prop} {B M : Nat} {kd on tw it : Nat → Int32} (h : ∀ n a b, P n a b → P' n a b) : ∀ (r : List Lean.ParserDescr) (lo hi : Nat), gp_seg P B M kd on tw it r lo hi → gp_seg P' B M kd on tw it r lo hi := by
  intro r
  induction r with
  | nil => intro lo hi q; exact q
  | cons e r ih =>
    intro lo hi q
    obtain ⟨k, q1, q2, q3, q4⟩ := q
    exact ⟨k, q1, q2, gp_rep_pm h _ _ q3, ih _ _ q4⟩
theorem gp_stk_pm {P P' : Nat → Nat → Nat → Prop} {B M : Nat} {kd on tw bk bf ib ab it al : Nat → Int32} (h : ∀ n a b, P n a b → P' n a b) : ∀ (fs : List gp_Fm) (d i l : Nat), gp_stk P B M kd on tw bk bf ib ab it al fs d i l → gp_stk P' B M kd on tw bk bf ib ab it al fs d i l := by
  intro fs
  induction fs with
  | nil => intro d i l q; exact q
  | cons f fs ih =>
    intro d i l q
    obtain ⟨i', l', q1, q2, q3, q4, q5, q6⟩ := q
    exact ⟨i', l', q1, q2, q3, gp_seg_pm h _ _ _ q4, gp_seg_pm h _ _ _ q5, q6.elim (fun t => Or.inl t) (fun ⟨d', t1, t2, t3⟩ => Or.inr ⟨d', t1, t2, ih _ _ _ t3⟩)⟩
theorem gp_cov_pm {P P' : Nat → Nat → Nat → Prop} {B lo M : Nat} {kd on tw ow : Nat → Int32} {r : Int32} {L : List Lean.ParserDescr} (h : ∀ n a b, P n a b → P' n a b) (q : gp_cov P B lo M kd on tw ow r L) : gp_cov P' B lo M kd on tw ow r L := by
  intro n h1 h2
  obtain ⟨o, e, he, e', he', w⟩ := q n h1 h2
  exact ⟨o, e, he, e', he', gp_rep_pm h _ _ w⟩
theorem gp_K_pm {P P' : Nat → Nat → Nat → Prop} {fr : Int32} {rc pa kd on tw ow : Nat → Int32} {lo : Nat × Nat} {nA nC : Nat} {L : List Lean.ParserDescr} (h : ∀ n a b, P n a b → P' n a b) (q : gp_K P fr rc pa kd on tw ow lo nA nC L) : gp_K P' fr rc pa kd on tw ow lo nA nC L := ⟨gp_cov_pm h q.1, q.2⟩
theorem gp_I_pm {P P' : Nat → Nat → Nat → Prop} {fr : Int32} {rc pa kd on tw ow bk bf ib ab it al : Nat → Int32} {d i l px at' : Int32} {lo : Nat × Nat} {s : gp_Sg} (h : ∀ n a b, P n a b → P' n a b) (q : gp_I P fr rc pa kd on tw ow bk bf ib ab it al d i l px at' lo s) : gp_I P' fr rc pa kd on tw ow bk bf ib ab it al d i l px at' lo s := ⟨⟨gp_stk_pm h _ _ _ _ q.1.1, gp_K_pm h q.1.2⟩, q.2⟩
/-- nothing has to be covered yet -/
theorem gp_I_lo {P : Nat → Nat → Nat → Prop} {fr : Int32} {rc pa kd on tw ow bk bf ib ab it al : Nat → Int32} {d i l px at' : Int32} {lo : Nat × Nat} {s : gp_Sg} (q : gp_I P fr rc pa kd on tw ow bk bf ib ab it al d i l px at' lo s) : gp_I P fr rc pa kd on tw ow bk bf ib ab it al d i l px at' (gp_M fr pa, lo.2) s := ⟨⟨q.1.1, fun n h1 h2 => absurd h1 (Nat.not_le.mpr h2), q.1.2.2.1, q.1.2.2.2.1, Nat.le_refl _, q.1.2.2.2.2.2⟩, q.2⟩
/-- what the ghost says is so: the bits of a set -/
def gp_LB (P : Nat → Nat → Nat → Prop) (tx : Nat → Int) (ty M : Nat) (lw hg : Nat → Int64) : Prop := ∀ n a b, P n a b → n < M ∧ ∀ c : Int, 32 ≤ c → c ≤ 126 → (gp_ih lw hg n c ↔ gq_st tx ty a b c)
