/-! The class's tree out of its reader: in order; names, stars and captures of an expression have their nodes. -/
theorem gq_fn_le {rt : Nat → Int32} {R : Nat} (h : ∀ r, r < R → gq_fn rt r ≤ Int32.toNatClampNeg (rt r)) : ∀ d, d < gq_fn rt R → ∃ r, r < R ∧ gq_fn rt r ≤ d ∧ d ≤ Int32.toNatClampNeg (rt r) := by
  induction R with
  | zero => intro d hd; exact absurd hd (by unfold gq_fn; rw [if_pos rfl]; omega)
  | succ R ih =>
    intro d hd
    have e : gq_fn rt (R + 1) = Int32.toNatClampNeg (rt R) + 1 := by
      unfold gq_fn
      rw [if_neg (by omega), show R + 1 - 1 = R by omega]
    by_cases q : d < gq_fn rt R
    · obtain ⟨r, r1, r2⟩ := ih (fun r hr => h r (by omega)) d q
      exact ⟨r, by omega, r2⟩
    · exact ⟨R, by omega, by omega, by omega⟩
/-- the rules' nodes, one behind another -/
theorem gq_fn_mono {rt : Nat → Int32} {R : Nat} (h : ∀ r, r < R → gq_fn rt r ≤ Int32.toNatClampNeg (rt r)) : ∀ s r, r < s → s ≤ R → Int32.toNatClampNeg (rt r) < gq_fn rt s := by
  intro s
  induction s with
  | zero => intro r hr; exact absurd hr (by omega)
  | succ s ih =>
    intro r hr hs
    have e : gq_fn rt (s + 1) = Int32.toNatClampNeg (rt s) + 1 := by
      unfold gq_fn
      rw [if_neg (by omega), show s + 1 - 1 = s by omega]
    by_cases q : r = s
    · rw [q]; omega
    · have a := ih r (by omega) (by omega)
      have b := h s (by omega)
      omega
theorem gq_R_nd {tx : Nat → Int} {ty : Nat} {kd lt fr to pt : Nat → Int32} {lw hg : Nat → Int64} {d : Nat} {e : Lean.ParserDescr} (h : gq_R tx ty kd lt fr to pt lw hg d e) : 0 ≤ (kd d).toInt ∧ (kd d).toInt ≤ 9 ∧ (2 ≤ (kd d).toInt → ∃ lo hi : Nat, (fr d).toInt = lo ∧ (to d).toInt = hi ∧ lo ≤ hi ∧ (4 ≤ (kd d).toInt → hi = lo + 1) ∧ ∀ i, lo ≤ i → i < hi → 0 ≤ (pt i).toInt ∧ Int32.toNatClampNeg (pt i) < d) := by
  have seg : ∀ (es : List Lean.ParserDescr) (lo hi : Nat), gq_sg (fun d' e' => ∃ _h : d' < d, gq_R tx ty kd lt fr to pt lw hg d' e') pt es lo hi → lo ≤ hi ∧ ∀ i, lo ≤ i → i < hi → 0 ≤ (pt i).toInt ∧ Int32.toNatClampNeg (pt i) < d := by
    intro es
    induction es with
    | nil => intro lo hi h; have h : hi = lo := h; exact ⟨by omega, fun i a b => by omega⟩
    | cons x es ih =>
      intro lo hi h
      obtain ⟨k, k1, k2, ⟨k3, -⟩, k4⟩ := h
      obtain ⟨i1, i2⟩ := ih lo k k4
      refine ⟨by omega, fun i a b => ?_⟩
      by_cases w : i = k
      · rw [w]; exact ⟨k2, k3⟩
      · exact i2 i a (by omega)
  rw [gq_R] at h
  rcases h with ⟨r0, -⟩ | ⟨r0, -⟩ | ⟨lo, hi, f1, f2, r⟩
  · exact ⟨by omega, by omega, fun w => by omega⟩
  · exact ⟨by omega, by omega, fun w => by omega⟩
  · rcases r with ⟨q, es, -, sg⟩ | ⟨q, a, n, -, n1, -, hie, rows⟩ | ⟨q, es, -, -, sg⟩ | ⟨x, sg, ks⟩
    · obtain ⟨s1, s2⟩ := seg es lo hi sg
      exact ⟨by omega, by omega, fun _ => ⟨lo, hi, f1, f2, s1, fun w => by omega, s2⟩⟩
    · refine ⟨by omega, by omega, fun _ => ⟨lo, hi, f1, f2, by omega, fun w => by omega, fun i a b => ?_⟩⟩
      obtain ⟨p1, p2, -⟩ := rows (i - lo) (by omega)
      rw [show lo + (i - lo) = i by omega] at p1 p2
      exact ⟨p1, p2⟩
    · obtain ⟨s1, s2⟩ := seg es lo hi sg
      exact ⟨by omega, by omega, fun _ => ⟨lo, hi, f1, f2, s1, fun w => by omega, s2⟩⟩
    · obtain ⟨s1, s2⟩ := seg [x] lo hi sg
      have l := gq_sg_le _ _ _ sg
      have l : hi = lo + 1 := l
      have k4 : 4 ≤ (kd d).toInt ∧ (kd d).toInt ≤ 9 := by
        rcases ks with ⟨r, -⟩ | ⟨r, -⟩ | ⟨r, -⟩ | ⟨r, -⟩ | ⟨r, -⟩ | ⟨r, -⟩ <;> omega
      exact ⟨by omega, by omega, fun _ => ⟨lo, hi, f1, f2, s1, fun _ => l, s2⟩⟩
theorem gq_T_of {tx : Nat → Int} {ty : Nat} {S : gq_St} {a n m R : Nat} {f : Nat → Int × Lean.ParserDescr} (hN : gq_N S a 0 n m) (hG : gq_G tx ty S n R f) (hn : n ≤ 75) : gq_T S.2.2 n R ∧ gq_T0 S.2.2 n := by
  obtain ⟨-, -, -, h11, h12, hmo, hto⟩ := hN
  obtain ⟨g1, g2, g3, g4⟩ := hG
  refine ⟨⟨h11, hn, g1, g2, fun r hr => ⟨(g4 r hr).2.1, (g4 r hr).2.2.2.1⟩, fun d hd => ?_⟩, fun d hd z => (hto d hd).2.2.2.2 z⟩
  by_cases z : (S.2.2.1 0 d).toInt = 0
  · exact ⟨by omega, by omega, fun w => by omega⟩
  · obtain ⟨r, r1, r2, r3⟩ := gq_fn_le (fun r hr => (g4 r hr).2.2.1) d (by rw [← g3]; exact hd)
    obtain ⟨e, -, e', -, rr⟩ := (g4 r r1).2.2.2.2.2 d r2 (by omega) z
    obtain ⟨k0, k9, kp⟩ := gq_R_nd rr
    refine ⟨k0, k9, fun w => ?_⟩
    obtain ⟨lo, hi, a1, a2, a3, a5, a6⟩ := kp w
    have := (hto d hd).1
    exact ⟨lo, hi, a1, a2, a3, by omega, a5, a6⟩
theorem gq_sb_jn {k : Nat} : ∀ (es : List Lean.ParserDescr) (e' : Lean.ParserDescr), e' ∈ gp_sb (gp_jn k es) → e' = gp_e0 0 0 0 ∨ (∃ a b, e' = gp_e2 k a b) ∨ ∃ x, x ∈ es ∧ e' ∈ gp_sb x := by
  have fo : ∀ (r : List Lean.ParserDescr) (x e' : Lean.ParserDescr), e' ∈ gp_sb (r.foldl (fun acc y => gp_e2 k y acc) x) → (∃ a b, e' = gp_e2 k a b) ∨ e' ∈ gp_sb x ∨ ∃ y, y ∈ r ∧ e' ∈ gp_sb y := by
    intro r
    induction r with
    | nil => intro x e' h; exact Or.inr (Or.inl h)
    | cons y r ih =>
      intro x e' h
      rw [List.foldl_cons] at h
      rcases ih _ e' h with h | h | ⟨z, h1, h2⟩
      · exact Or.inl h
      · have h : e' ∈ gp_e2 k y x :: (gp_sb y ++ gp_sb x) := h
        rcases List.mem_cons.mp h with h | h
        · exact Or.inl ⟨y, x, h⟩
        · rcases List.mem_append.mp h with h | h
          · exact Or.inr (Or.inr ⟨y, List.mem_cons_self .., h⟩)
          · exact Or.inr (Or.inl h)
      · exact Or.inr (Or.inr ⟨z, List.mem_cons_of_mem _ h1, h2⟩)
  intro es e' h
  cases es with
  | nil =>
    have h : e' ∈ [gp_e0 0 0 0] := h
    exact Or.inl (List.mem_singleton.mp h)
  | cons x r =>
    rcases fo r x e' h with h | h | ⟨y, h1, h2⟩
    · exact Or.inr (Or.inl h)
    · exact Or.inr (Or.inr ⟨x, List.mem_cons_self .., h⟩)
    · exact Or.inr (Or.inr ⟨y, List.mem_cons_of_mem _ h1, h2⟩)
theorem gq_sg_mem {R : Nat → Lean.ParserDescr → Prop} {pt : Nat → Int32} : ∀ (es : List Lean.ParserDescr) (lo hi : Nat), gq_sg R pt es lo hi → ∀ x, x ∈ es → ∃ i, lo ≤ i ∧ i < hi ∧ R (Int32.toNatClampNeg (pt i)) x := by
  intro es
  induction es with
  | nil => intro lo hi _ x hx; cases hx
  | cons y es ih =>
    intro lo hi h x hx
    obtain ⟨k, k1, k2, k3, k4⟩ := h
    have l := gq_sg_le es lo k k4
    rcases List.mem_cons.mp hx with hx | hx
    · rw [hx]; exact ⟨k, by omega, by omega, k3⟩
    · obtain ⟨i, i1, i2, i3⟩ := ih lo k k4 x hx
      exact ⟨i, i1, by omega, i3⟩
/-- what a name, a star or a capture inside has for its node -/
def gq_hn (tx : Nat → Int) (ty : Nat) (kd lt fr to pt : Nat → Int32) (lw hg : Nat → Int64) (d : Nat) (e : Lean.ParserDescr) : Prop := (gq_R tx ty kd lt fr to pt lw hg d e ∧ ((kd d).toInt = 1 ∨ (kd d).toInt = 5 ∨ (kd d).toInt = 9)) ∨ ∃ x, e = gp_e1 7 x ∧ (kd d).toInt = 6 ∧ gq_R tx ty kd lt fr to pt lw hg d (gp_ep x)
theorem gq_he1 {e' : Lean.ParserDescr} (he : (∃ c, e' = gp_e0 3 c 0) ∨ (∃ x, e' = gp_e1 7 x) ∨ ∃ x, e' = gp_e1 10 x) {k : Nat} {x : Lean.ParserDescr} (h : e' = gp_e1 k x) : k = 7 ∨ k = 10 := by
  rcases he with ⟨c, q⟩ | ⟨c, q⟩ | ⟨c, q⟩
  · rw [q] at h; cases h
  · rw [q] at h; injection h with _ h _; exact Or.inl h.symm
  · rw [q] at h; injection h with _ h _; exact Or.inr h.symm
theorem gq_he0 {e' : Lean.ParserDescr} (he : (∃ c, e' = gp_e0 3 c 0) ∨ (∃ x, e' = gp_e1 7 x) ∨ ∃ x, e' = gp_e1 10 x) {k a b : Nat} (h : e' = gp_e0 k a b) : k = 3 := by
  rcases he with ⟨c, q⟩ | ⟨c, q⟩ | ⟨c, q⟩
  · rw [q] at h; injection h with _ h; exact h.symm
  · rw [q] at h; cases h
  · rw [q] at h; cases h
theorem gq_he2 {e' : Lean.ParserDescr} (he : (∃ c, e' = gp_e0 3 c 0) ∨ (∃ x, e' = gp_e1 7 x) ∨ ∃ x, e' = gp_e1 10 x) {nm : Lean.Name} {a b : Lean.ParserDescr} (h : e' = .binary nm a b) : False := by
  rcases he with ⟨c, q⟩ | ⟨c, q⟩ | ⟨c, q⟩
  · rw [q] at h; cases h
  · rw [q] at h; cases h
  · rw [q] at h; cases h
theorem gq_R_sub {tx : Nat → Int} {ty : Nat} {kd lt fr to pt : Nat → Int32} {lw hg : Nat → Int64} {e' : Lean.ParserDescr} (he : (∃ c, e' = gp_e0 3 c 0) ∨ (∃ x, e' = gp_e1 7 x) ∨ ∃ x, e' = gp_e1 10 x) : ∀ (k d : Nat) (e : Lean.ParserDescr), d < k → gq_R tx ty kd lt fr to pt lw hg d e → e' ∈ gp_sb e → ∃ d', d' ≤ d ∧ gq_hn tx ty kd lt fr to pt lw hg d' e' := by
  intro k
  induction k with
  | zero => intro d e h; exact absurd h (by omega)
  | succ k ih =>
    intro d e hk r hm
    have r' := r
    rw [gq_R] at r
    have down : ∀ i x, (∃ _h : Int32.toNatClampNeg (pt i) < d, gq_R tx ty kd lt fr to pt lw hg (Int32.toNatClampNeg (pt i)) x) → e' ∈ gp_sb x → ∃ d', d' ≤ d ∧ gq_hn tx ty kd lt fr to pt lw hg d' e' := by
      intro i x ⟨h1, h2⟩ h3
      obtain ⟨d', q1, q2⟩ := ih _ x (by omega) h2 h3
      exact ⟨d', by omega, q2⟩
    have list : ∀ (kk : Nat) (es : List Lean.ParserDescr) (lo hi : Nat), gq_sg (fun d' e' => ∃ _h : d' < d, gq_R tx ty kd lt fr to pt lw hg d' e') pt es lo hi → e' ∈ gp_sb (gp_jn kk es) → ∃ d', d' ≤ d ∧ gq_hn tx ty kd lt fr to pt lw hg d' e' := by
      intro kk es lo hi sg h
      rcases gq_sb_jn es e' h with h | ⟨a, b, h⟩ | ⟨x, h1, h2⟩
      · exact absurd (gq_he0 he h) (by decide)
      · exact (gq_he2 he h).elim
      · obtain ⟨i, -, -, i3⟩ := gq_sg_mem es lo hi sg x h1
        exact down i x i3 h2
    rcases r with ⟨-, a, b, r1, -⟩ | ⟨r0, c, r1, -⟩ | ⟨lo, hi, f1, f2, r⟩
    · rw [r1] at hm
      exact absurd (gq_he0 he (List.mem_singleton.mp hm)) (by decide)
    · rw [r1] at hm r'
      refine ⟨d, Nat.le_refl d, Or.inl ⟨?_, Or.inl r0⟩⟩
      rw [List.mem_singleton.mp hm]
      exact r'
    · rcases r with ⟨-, es, re, sg⟩ | ⟨-, a, n, re, -⟩ | ⟨-, es, -, re, sg⟩ | ⟨x, sg, ks⟩
      · rw [re] at hm; exact list 4 es lo hi sg hm
      · rw [re] at hm
        exact absurd (gq_he0 he (List.mem_singleton.mp hm)) (by decide)
      · rw [re] at hm; exact list 5 es lo hi sg hm
      · obtain ⟨i, -, -, i3⟩ := gq_sg_mem [x] lo hi sg x (List.mem_singleton.mpr rfl)
        have un : ∀ kk, e = gp_e1 kk x → ((kk = 7 ∨ kk = 10) → (kd d).toInt = 5 ∨ (kd d).toInt = 9) → ∃ d', d' ≤ d ∧ gq_hn tx ty kd lt fr to pt lw hg d' e' := by
          intro kk re hq
          rw [re] at hm r'
          have hm : e' ∈ gp_e1 kk x :: gp_sb x := hm
          rcases List.mem_cons.mp hm with h | h
          · refine ⟨d, Nat.le_refl d, Or.inl ⟨by rw [h]; exact r', Or.inr (hq (gq_he1 he h))⟩⟩
          · exact down i x i3 h
        rcases ks with ⟨q, re⟩ | ⟨q, re⟩ | ⟨q, re⟩ | ⟨q, re⟩ | ⟨q, re⟩ | ⟨q, re⟩
        · exact un 6 re (fun w => by omega)
        · exact un 7 re (fun w => by omega)
        · rw [re] at hm r'
          have hm : e' ∈ gp_ep x :: (gp_sb x ++ (gp_e1 7 x :: gp_sb x)) := hm
          rcases List.mem_cons.mp hm with h | h
          · exact (gq_he2 he h).elim
          · rcases List.mem_append.mp h with h | h
            · exact down i x i3 h
            · rcases List.mem_cons.mp h with h | h
              · exact ⟨d, Nat.le_refl d, Or.inr ⟨x, h, q, r'⟩⟩
              · exact down i x i3 h
        · exact un 8 re (fun w => by omega)
        · exact un 9 re (fun w => by omega)
        · exact un 10 re (fun w => by omega)
