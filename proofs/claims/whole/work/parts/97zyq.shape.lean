/-! The shape of what is read. -/
def gy_sh : Lean.ParserDescr → Prop
  | .cat nm k => k ≤ 3 ∧ (k = 1 → 1 ≤ gp_n2 nm) ∧ nm = .num (.num .anonymous (gp_n1 nm)) (gp_n2 nm) ∧ (k = 3 → gp_n2 nm = 0)
  | .node nm k e => nm = .anonymous ∧ 6 ≤ k ∧ k ≤ 10 ∧ gy_sh e
  | .binary nm e g => gy_sh e ∧ gy_sh g ∧ (gp_n2 nm = 4 ∨ gp_n2 nm = 5) ∧ (gp_n1 nm = 1 → gp_n2 nm = 4 ∧ g = .node .anonymous 7 e)
  | _ => False
theorem gy_sh_jn {k : Nat} (hk : k = 4 ∨ k = 5) (es : List Lean.ParserDescr) (h : ∀ x, x ∈ es → gy_sh x) : gy_sh (gp_jn k es) := by
  have fo : ∀ (r : List Lean.ParserDescr) (x : Lean.ParserDescr), gy_sh x → (∀ y, y ∈ r → gy_sh y) → gy_sh (r.foldl (fun acc y => gp_e2 k y acc) x) := by
    intro r
    induction r with
    | nil => intro x hx _; exact hx
    | cons y r ih =>
      intro x hx hr
      rw [List.foldl_cons]
      exact ih _ ⟨hr y (List.mem_cons_self ..), hx, hk, fun z => absurd (show 0 = 1 from z) (by decide)⟩ (fun z hz => hr z (List.mem_cons_of_mem _ hz))
  cases es with
  | nil => exact ⟨by decide, fun h => absurd h (by decide), rfl, fun h => absurd h (by decide)⟩
  | cons x r => exact fo r x (h x (List.mem_cons_self ..)) (fun y hy => h y (List.mem_cons_of_mem _ hy))
theorem gy_sh_of {tx : Nat → Int} {ty : Nat} {kd lt fr to pt : Nat → Int32} {lw hg : Nat → Int64} : ∀ (k d : Nat) (e : Lean.ParserDescr), d < k → gq_R tx ty kd lt fr to pt lw hg d e → gy_sh e := by
  intro k
  induction k with
  | zero => intro d e h; exact absurd h (by omega)
  | succ k ih =>
    intro d e hk r
    rw [gq_R] at r
    have list : ∀ (es : List Lean.ParserDescr) (lo hi : Nat), gq_sg (fun d' e' => ∃ _h : d' < d, gq_R tx ty kd lt fr to pt lw hg d' e') pt es lo hi → ∀ x, x ∈ es → gy_sh x := by
      intro es lo hi sg x hx
      obtain ⟨i, -, -, i3, i4⟩ := gq_sg_mem es lo hi sg x hx
      exact ih _ x (by omega) i4
    rcases r with ⟨-, a, b, r1, -⟩ | ⟨r0, c, r1, -⟩ | ⟨lo, hi, f1, f2, r⟩
    · rw [r1]; exact ⟨by decide, fun h => absurd h (by decide), rfl, fun h => absurd h (by decide)⟩
    · rw [r1]; exact ⟨by decide, fun h => absurd h (by decide), rfl, fun _ => rfl⟩
    · rcases r with ⟨-, es, re, sg⟩ | ⟨-, a, n, re, n1, -⟩ | ⟨-, es, -, re, sg⟩ | ⟨x, sg, ks⟩
      · rw [re]; exact gy_sh_jn (Or.inl rfl) es (list es lo hi sg)
      · rw [re]; exact ⟨by decide, fun _ => n1, rfl, fun h => absurd h (by decide)⟩
      · rw [re]; exact gy_sh_jn (Or.inr rfl) es (list es lo hi sg)
      · have hx := list [x] lo hi sg x (List.mem_singleton.mpr rfl)
        rcases ks with ⟨q, re⟩ | ⟨q, re⟩ | ⟨q, re⟩ | ⟨q, re⟩ | ⟨q, re⟩ | ⟨q, re⟩
        · rw [re]; exact ⟨rfl, by decide, by decide, hx⟩
        · rw [re]; exact ⟨rfl, by decide, by decide, hx⟩
        · rw [re]; exact ⟨hx, ⟨rfl, by decide, by decide, hx⟩, Or.inl rfl, fun _ => ⟨rfl, rfl⟩⟩
        · rw [re]; exact ⟨rfl, by decide, by decide, hx⟩
        · rw [re]; exact ⟨rfl, by decide, by decide, hx⟩
        · rw [re]; exact ⟨rfl, by decide, by decide, hx⟩
theorem gy_sb_s (e : Lean.ParserDescr) : e ∈ gp_sb e := by
  cases e with
  | node nm k x => exact List.mem_cons_self ..
  | binary nm x y => exact List.mem_cons_self ..
  | _ => exact List.mem_singleton.mpr rfl
theorem gy_fx_le (f : Nat → Int × Lean.ParserDescr) (c : Int) : ∀ R, gq_fx f c R ≤ R := by
  intro R
  induction R with
  | zero => exact Nat.le_refl 0
  | succ R ih =>
    show (if gq_fx f c R < R then gq_fx f c R else if (f R).1 = c then R else R + 1) ≤ R + 1
    by_cases a : gq_fx f c R < R
    · rw [if_pos a]; omega
    · rw [if_neg a]
      by_cases b : (f R).1 = c
      · rw [if_pos b]; omega
      · rw [if_neg b]; exact Nat.le_refl _
theorem gy_wf {f : Nat → Int × Lean.ParserDescr} {R r : Nat} (hu : gs_no R (gq_un f R)) (hw : gs_no R (gq_wd f R)) (hr : r < R) : ∀ e : Lean.ParserDescr, (∀ e', e' ∈ gp_sb e → e' ∈ gp_sb (f r).2) → gy_sh e → gv_wf f R e := by
  intro e
  induction e with
  | cat nm k =>
    intro hs h
    obtain ⟨h1, h2, h3, h4⟩ := h
    refine ⟨h1, h2, fun k3 => ⟨gp_n1 nm, ?_, ?_⟩⟩
    · rw [h4 k3] at h3; exact h3
    · have l := gy_fx_le f (gp_n1 nm : Nat) R
      have m := hs _ (gy_sb_s _)
      rw [h4 k3] at h3
      rw [h3, k3] at m
      have : ¬ gq_fx f ((gp_n1 nm : Nat) : Int) R = R := fun e => hu r hr ⟨gp_n1 nm, m, e⟩
      omega
  | node nm k x ih =>
    intro hs h
    obtain ⟨h1, h2, h3, h4⟩ := h
    refine ⟨h2, h3, ih (fun e' he => hs e' (List.mem_cons_of_mem _ he)) h4, fun k7 em => ?_⟩
    have m := hs _ (gy_sb_s _)
    rw [h1] at m
    refine hw r hr (Or.inr ⟨x, ?_, em⟩)
    rcases k7 with k7 | k7
    · rw [k7] at m; exact Or.inl m
    · rw [k7] at m; exact Or.inr m
  | binary nm x y ih1 ih2 =>
    intro hs h
    obtain ⟨h1, h2, h3, h4⟩ := h
    exact ⟨ih1 (fun e' he => hs e' (List.mem_cons_of_mem _ (List.mem_append_left _ he))) h1, ih2 (fun e' he => hs e' (List.mem_cons_of_mem _ (List.mem_append_right _ he))) h2, h3, h4⟩
  | _ => intro _ h; exact h.elim
/-- a call's operand -/
theorem gy_op8 {X : gt_X} {op od tg : Nat → Int32} {N : Nat → Prop} : ∀ (e : Lean.ParserDescr) (a b : Nat), gt_L X op od tg e a b → gv_df N e → ∀ j, a ≤ j → j < b → op j = 8 → ∃ c, N c ∧ (od j).toInt = (X.2.2.2.2.2 c : Nat) := by
  have lk : ∀ {x : Lean.ParserDescr} {a l t : Nat}, gt_lk X op od tg x a l t → ∀ j, a ≤ j → j < l → ¬ op j = 8 := by
    intro x a l t h j j1 j2
    rcases h with ⟨-, h⟩ | ⟨-, h, h2, -⟩
    · omega
    · have : j = a := by omega
      rw [this, h2]; decide
  intro e
  induction e with
  | cat nm k =>
    intro a b h hd j j1 j2 h8
    obtain ⟨k3, h0, h1, h2, h3⟩ := h
    have : k = 0 ∨ k = 1 ∨ k = 2 ∨ k = 3 := by omega
    rcases this with q | q | q | q
    · have := h0 q; omega
    · obtain ⟨h1, h1'⟩ := h1 q
      have := (h1' (j - a) (by omega)).1
      rw [show a + (j - a) = j by omega, h8] at this
      exact absurd this (by decide)
    · obtain ⟨h2, h2', -⟩ := h2 q
      rw [show j = a by omega, h2'] at h8
      exact absurd h8 (by decide)
    · obtain ⟨h3, -, h3'⟩ := h3 q
      rw [show j = a by omega]
      exact ⟨gp_n1 nm, hd q, h3'⟩
  | node nm k x ih =>
    intro a b h hd j j1 j2 h8
    rcases h with ⟨k67, l, m, h1, h2, h3, h4, h5, h6, h7, h9⟩ | ⟨k8, m, h1, h2, h3, h4, h5⟩ | ⟨k9, m, h1, h2, h3, h4, h5⟩ | ⟨k10, m, h1, h3, h4, h5⟩
    · have l1 := gt_lk_le h1
      by_cases q : j < l
      · exact absurd h8 (lk h1 j j1 q)
      · by_cases q2 : j = l
        · rw [q2, h2] at h8; exact absurd h8 (by decide)
        · by_cases q3 : j = m
          · rw [q3, h5] at h8; exact absurd h8 (by decide)
          · exact ih _ _ h4 hd j (by omega) (by omega) h8
    · by_cases q2 : j = a
      · rw [q2, h1] at h8; exact absurd h8 (by decide)
      · by_cases q3 : j = m
        · rw [q3, h4] at h8; exact absurd h8 (by decide)
        · exact ih _ _ h3 hd j (by omega) (by omega) h8
    · by_cases q2 : j = a
      · rw [q2, h1] at h8; exact absurd h8 (by decide)
      · by_cases q3 : j = m
        · rw [q3, h4] at h8; exact absurd h8 (by decide)
        · exact ih _ _ h3 hd j (by omega) (by omega) h8
    · by_cases q2 : j = a
      · rw [q2, h1] at h8; exact absurd h8 (by decide)
      · by_cases q3 : j = m
        · rw [q3, h4] at h8; exact absurd h8 (by decide)
        · exact ih _ _ h3 hd j (by omega) (by omega) h8
  | binary nm x y ih1 ih2 =>
    intro a b h hd j j1 j2 h8
    rcases h with ⟨n1, n2, l, m, h1, h2, h3, h4, h5, h6, h7, h9, h10, h11⟩ | ⟨n1, n2, m, h1, h2⟩ | ⟨n1, n2, l, m, h1, h2, h3, h4, h5, h6, h7⟩
    · have l1 := gt_lk_le h4
      by_cases q0 : j = a
      · rw [q0, h1] at h8; exact absurd h8 (by decide)
      by_cases q1 : j = a + 1
      · rw [q1, h2] at h8; exact absurd h8 (by decide)
      by_cases q : j < l
      · exact absurd h8 (lk h4 j (by omega) q)
      by_cases q2 : j = l
      · rw [q2, h5] at h8; exact absurd h8 (by decide)
      by_cases q3 : j = m
      · rw [q3, h9] at h8; exact absurd h8 (by decide)
      exact ih1 _ _ h7 hd.1 j (by omega) (by omega) h8
    · by_cases q : j < m
      · exact ih1 _ _ h1 hd.1 j j1 q h8
      · exact ih2 _ _ h2 hd.2.1 j (by omega) j2 h8
    · have l1 := gt_lk_le h1
      by_cases q : j < l
      · exact absurd h8 (lk h1 j j1 q)
      by_cases q2 : j = l
      · rw [q2, h2] at h8; exact absurd h8 (by decide)
      by_cases q3 : j = m
      · rw [q3, h5] at h8; exact absurd h8 (by decide)
      by_cases q4 : j < m
      · exact ih1 _ _ h4 hd.1 j (by omega) q4 h8
      · exact ih2 _ _ h7 hd.2.1 j (by omega) j2 h8
  | _ => intro a b h; exact h.elim
