/-! The class's tree: nodes that stand for an expression. -/
/-- a row of nodes, the latest first, from lo to hi of an array -/
def gq_sg (R : Nat → Lean.ParserDescr → Prop) (pt : Nat → Int32) : List Lean.ParserDescr → Nat → Nat → Prop
  | [], lo, hi => hi = lo
  | e :: r, lo, hi => ∃ h, hi = h + 1 ∧ 0 ≤ (pt h).toInt ∧ R (Int32.toNatClampNeg (pt h)) e ∧ gq_sg R pt r lo h
theorem gq_sg_le {R : Nat → Lean.ParserDescr → Prop} {pt : Nat → Int32} : ∀ (r : List Lean.ParserDescr) (lo hi : Nat), gq_sg R pt r lo hi → hi = lo + r.length := by
  intro r
  induction r with
  | nil => intro lo hi h; exact h
  | cons e r ih =>
    intro lo hi h
    obtain ⟨k, h1, -, -, h4⟩ := h
    have := ih lo k h4
    rw [List.length_cons]
    omega
theorem gq_sg_tr {R R' : Nat → Lean.ParserDescr → Prop} {pt pt' : Nat → Int32} {s s' : Nat} : ∀ (r : List Lean.ParserDescr) (lo hi lo' hi' : Nat), (∀ k, lo ≤ k → k < hi → pt' (k - lo + lo') = pt k) → (∀ k e, lo ≤ k → k < hi → e ∈ r → R (Int32.toNatClampNeg (pt k)) e → R' (Int32.toNatClampNeg (pt k)) e) → lo' + (hi - lo) = hi' → gq_sg R pt r lo hi → gq_sg R' pt' r lo' hi' := by
  intro r
  induction r with
  | nil =>
    intro lo hi lo' hi' _ _ e s
    have s : hi = lo := s
    show hi' = lo'
    omega
  | cons e r ih =>
    intro lo hi lo' hi' hp hR hh s
    obtain ⟨k, h1, h2, h3, h4⟩ := s
    have l := gq_sg_le r lo k h4
    have ek := hp k (by omega) (by omega)
    have e2 : k - lo + lo' = hi' - 1 := by omega
    rw [e2] at ek
    refine ⟨hi' - 1, by omega, by rw [ek]; exact h2, by rw [ek]; exact hR k e (by omega) (by omega) (List.mem_cons_self ..) h3, ?_⟩
    exact ih lo k lo' (hi' - 1) (fun j hj hj2 => hp j hj (by omega)) (fun j x hj hj2 hx => hR j x hj (by omega) (List.mem_cons_of_mem _ hx)) (by omega) h4
/-- a node of the class that stands for an expression; R says it of the nodes below -/
def gq_F (tx : Nat → Int) (ty : Nat) (kd lt fr to pt : Nat → Int32) (lw hg : Nat → Int64) (R : Nat → Lean.ParserDescr → Prop) (d : Nat) (e : Lean.ParserDescr) : Prop :=
  ((kd d).toInt = 0 ∧ ∃ a b, e = gp_e0 2 a b ∧ ∀ c : Int, 32 ≤ c → c ≤ 126 → (gp_ih lw hg d c ↔ gq_st tx ty a b c)) ∨
  ((kd d).toInt = 1 ∧ ∃ c : Nat, e = gp_e0 3 c 0 ∧ (lt d).toInt = c) ∨
  (∃ lo hi : Nat, (fr d).toInt = lo ∧ (to d).toInt = hi ∧ (
    ((kd d).toInt = 2 ∧ ∃ es, e = gp_jn 4 es ∧ gq_sg R pt es lo hi) ∨
    ((kd d).toInt = 2 ∧ ∃ a n, e = gp_e0 1 a n ∧ 1 ≤ n ∧ a + n ≤ ty ∧ hi = lo + n ∧ ∀ i, i < n → 0 ≤ (pt (lo + i)).toInt ∧ Int32.toNatClampNeg (pt (lo + i)) < d ∧ (kd (Int32.toNatClampNeg (pt (lo + i)))).toInt = 0 ∧ ∀ c : Int, 32 ≤ c → c ≤ 126 → (gp_ih lw hg (Int32.toNatClampNeg (pt (lo + i))) c ↔ c = tx (a + i))) ∨
    ((kd d).toInt = 3 ∧ ∃ es, es ≠ [] ∧ e = gp_jn 5 es ∧ gq_sg R pt es lo hi) ∨
    (∃ x, gq_sg R pt [x] lo hi ∧ (((kd d).toInt = 4 ∧ e = gp_e1 6 x) ∨ ((kd d).toInt = 5 ∧ e = gp_e1 7 x) ∨ ((kd d).toInt = 6 ∧ e = gp_ep x) ∨ ((kd d).toInt = 7 ∧ e = gp_e1 8 x) ∨ ((kd d).toInt = 8 ∧ e = gp_e1 9 x) ∨ ((kd d).toInt = 9 ∧ e = gp_e1 10 x)))))
def gq_R (tx : Nat → Int) (ty : Nat) (kd lt fr to pt : Nat → Int32) (lw hg : Nat → Int64) (d : Nat) (e : Lean.ParserDescr) : Prop :=
  gq_F tx ty kd lt fr to pt lw hg (fun d' e' => ∃ _h : d' < d, gq_R tx ty kd lt fr to pt lw hg d' e') d e
termination_by d
decreasing_by exact _h
/-- the same nodes in other arrays -/
def gq_sm (kd lt fr to pt : Nat → Int32) (lw hg : Nat → Int64) (kd' lt' fr' to' pt' : Nat → Int32) (lw' hg' : Nat → Int64) (N M : Nat) : Prop :=
  (∀ m, m < N → kd' m = kd m ∧ lt' m = lt m ∧ fr' m = fr m ∧ to' m = to m ∧ ((kd m).toInt = 0 → lw' m = lw m ∧ hg' m = hg m)) ∧ (∀ i, i < M → pt' i = pt i)
theorem gp_ih_cg {lw hg lw' hg' : Nat → Int64} {n : Nat} (h1 : lw' n = lw n) (h2 : hg' n = hg n) (c : Int) : gp_ih lw' hg' n c ↔ gp_ih lw hg n c := by
  unfold gp_ih
  rw [h1, h2]
theorem gq_R_tr {tx : Nat → Int} {ty N M : Nat} {kd lt fr to pt kd' lt' fr' to' pt' : Nat → Int32} {lw hg lw' hg' : Nat → Int64} (h : gq_sm kd lt fr to pt lw hg kd' lt' fr' to' pt' lw' hg' N M) (hM : ∀ m, m < N → (to m).toInt ≤ M) : ∀ (k d : Nat) (e : Lean.ParserDescr), d < k → d < N → gq_R tx ty kd lt fr to pt lw hg d e → gq_R tx ty kd' lt' fr' to' pt' lw' hg' d e := by
  intro k
  induction k with
  | zero => intro d e hd; exact absurd hd (by omega)
  | succ k ih =>
    intro d e hd hN r
    rw [gq_R] at r ⊢
    obtain ⟨e1, e2, e3, e4, e5⟩ := h.1 d hN
    have hMd := hM d hN
    unfold gq_F at r ⊢
    rw [e1, e2, e3, e4]
    rcases r with ⟨r0, a, b, r1, r2⟩ | r | ⟨lo, hi, r1, r2, r⟩
    · refine Or.inl ⟨r0, a, b, r1, fun c c1 c2 => ?_⟩
      rw [gp_ih_cg (e5 r0).1 (e5 r0).2]
      exact r2 c c1 c2
    · exact Or.inr (Or.inl r)
    · refine Or.inr (Or.inr ⟨lo, hi, r1, r2, ?_⟩)
      have seg : ∀ es, gq_sg (fun d' e' => ∃ _h : d' < d, gq_R tx ty kd lt fr to pt lw hg d' e') pt es lo hi → gq_sg (fun d' e' => ∃ _h : d' < d, gq_R tx ty kd' lt' fr' to' pt' lw' hg' d' e') pt' es lo hi := by
        intro es s
        refine gq_sg_tr (s := 0) (s' := 0) es lo hi lo hi (fun j j1 j2 => ?_) (fun j x j1 j2 _ q => ?_) ?_ s
        · rw [show j - lo + lo = j by omega]
          exact h.2 j (by omega)
        · obtain ⟨q1, q2⟩ := q
          exact ⟨q1, ih _ _ (by omega) (by omega) q2⟩
        · have := gq_sg_le _ _ _ s
          omega
      rcases r with ⟨r3, es, r4, r5⟩ | ⟨r3, a, n, r4, r5, r6, r7, r8⟩ | ⟨r3, es, r4, r5, r6⟩ | ⟨x, r3, r4⟩
      · exact Or.inl ⟨r3, es, r4, seg es r5⟩
      · refine Or.inr (Or.inl ⟨r3, a, n, r4, r5, r6, r7, fun i hi2 => ?_⟩)
        obtain ⟨s1, s2, s3, s4⟩ := r8 i hi2
        rw [h.2 (lo + i) (by omega)]
        obtain ⟨f1, -, -, -, f5⟩ := h.1 (Int32.toNatClampNeg (pt (lo + i))) (by omega)
        refine ⟨s1, s2, by rw [f1]; exact s3, fun c c1 c2 => ?_⟩
        rw [gp_ih_cg (f5 s3).1 (f5 s3).2]
        exact s4 c c1 c2
      · exact Or.inr (Or.inr (Or.inl ⟨r3, es, r4, r5, seg es r6⟩))
      · exact Or.inr (Or.inr (Or.inr ⟨x, seg [x] r3, r4⟩))
