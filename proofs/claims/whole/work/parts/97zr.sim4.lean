/-! The matcher with the memory does what the expressions do. -/
/-- the code and what the expressions speak of, where nothing is spared -/
def gv_Y (A : gv_A) (X : gt_X) (C : gv_C) (f : Nat → Int × Lean.ParserDescr) (fed : Nat) (sub : Nat → Int) : Prop :=
  (∀ d P q, q ≤ fed → X.1 d P → (A.2.2.2.2.2.2.1 d q = true ↔ q < fed ∧ P (sub q))) ∧
  (∀ x q, C.2.2.2 x q = true) ∧
  (∀ c, C.1 c = (f (X.2.2.2.2.2 c)).2) ∧
  (∀ a m q, q ≤ fed → (C.2.1 a m q = true ↔ q + m ≤ fed ∧ ∀ i, i < m → sub (q + i) = X.2.2.2.1 (a + i))) ∧
  (∀ a b q, q ≤ fed → (C.2.2.1 a b q = true ↔ q < fed ∧ gq_st X.2.2.2.1 X.2.2.2.2.1 a b (sub q))) ∧
  (∀ r, r < A.2.2.2.2.2.1 → gv_df (fun c => X.2.2.2.2.2 c < A.2.2.2.2.2.1) (f r).2 ∧ ∃ a b, (A.2.2.2.1 r).toInt = (a : Nat) ∧ gt_L X A.1 A.2.1 A.2.2.1 (f r).2 a b ∧ A.1 b = 9 ∧ b < A.2.2.2.2.1)
theorem gv_v_leY {C : gv_C} {fed : Nat} {P Q : Nat → Nat → Nat → Prop} (hr : ∀ a m q, q ≤ fed → (C.2.1 a m q = true ↔ q + m ≤ fed ∧ P a m q)) (hc : ∀ a b q, q ≤ fed → (C.2.2.1 a b q = true ↔ q < fed ∧ Q a b q)) : ∀ (k : Nat) (e : Lean.ParserDescr) (q : Nat), q ≤ fed → (q : Int) + gv_v C k e q ≤ fed := by
  intro k
  induction k with
  | zero => intro e q hq; show (q : Int) + -2 ≤ fed; omega
  | succ k ih =>
    intro e q hq
    cases e with
    | cat nm j =>
      have := ih (C.1 (gp_n1 nm)) q hq
      have hr := hr (gp_n1 nm) (gp_n2 nm) q hq
      have hc := hc (gp_n1 nm) (gp_n2 nm) q hq
      rw [gv_v]
      split
      · omega
      · split
        · split
          · rename_i w; have := (hr.mp w).1; omega
          · omega
        · split
          · split
            · rename_i w; have := (hc.mp w).1; omega
            · omega
          · omega
    | node nm j x =>
      have g := gv_v_ge C k x q
      have h1 := ih x q hq
      have h2 := ih (.node nm j x) (q + (gv_v C k x q).toNat)
      rw [gv_v]
      repeat' split
      all_goals omega
    | binary nm x y =>
      have g := gv_v_ge C k x q
      have h1 := ih x q hq
      have h2 := ih y q hq
      have h3 := ih y (q + (gv_v C k x q).toNat)
      rw [gv_v]
      repeat' split
      all_goals omega
    | _ => show (q : Int) + -2 ≤ fed; omega
/-- there is room for the captures of what was taken -/
theorem gv_p_L (C : gv_C) : ∀ (k : Nat) (e : Lean.ParserDescr) (q : Nat), 0 ≤ gv_v C k e q → (gv_L C k e q).length ≤ gv_p C k e q := by
  intro k
  induction k with
  | zero => intro e q h; exact absurd (show (0 : Int) ≤ -2 from h) (by omega)
  | succ k ih =>
    intro e q h
    cases e with
    | cat nm j =>
      have E : gv_v C (k + 1) (.cat nm j) q = if j = 0 then 0 else if j = 1 then (if C.2.1 (gp_n1 nm) (gp_n2 nm) q = true then (gp_n2 nm : Int) else -1) else if j = 2 then (if C.2.2.1 (gp_n1 nm) (gp_n2 nm) q = true then 1 else -1) else gv_v C k (C.1 (gp_n1 nm)) q := rfl
      have F : gv_L C (k + 1) (.cat nm j) q = if j ≤ 2 then [] else gv_L C k (C.1 (gp_n1 nm)) q := rfl
      have G : gv_p C (k + 1) (.cat nm j) q = if j ≤ 2 then 0 else gv_p C k (C.1 (gp_n1 nm)) q := rfl
      rw [F, G]
      by_cases j2 : j ≤ 2
      · rw [if_pos j2, if_pos j2]; exact Nat.le_refl 0
      · rw [if_neg j2, if_neg j2]
        rw [E, if_neg (by omega), if_neg (by omega), if_neg (by omega)] at h
        exact ih _ q h
    | node nm j x =>
      have i1 := ih x q
      have i2 := ih (.node nm j x) (q + (gv_v C k x q).toNat)
      have g := gv_v_ge C k x q
      have g2 := gv_v_ge C k (.node nm j x) (q + (gv_v C k x q).toNat)
      have E : gv_v C (k + 1) (.node nm j x) q = if j = 6 then (if C.2.2.2 x q = true then (if gv_v C k x q = -1 then 0 else gv_v C k x q) else 0)
        else if j = 7 then (if C.2.2.2 x q = true then (if gv_v C k x q = -1 then 0 else if gv_v C k x q = -2 then -2 else if gv_v C k (.node nm j x) (q + (gv_v C k x q).toNat) = -2 then -2 else gv_v C k x q + gv_v C k (.node nm j x) (q + (gv_v C k x q).toNat)) else 0)
        else if j = 8 then (if 0 ≤ gv_v C k x q then 0 else gv_v C k x q)
        else if j = 9 then (if 0 ≤ gv_v C k x q then -1 else if gv_v C k x q = -1 then 0 else -2)
        else gv_v C k x q := rfl
      have F : gv_L C (k + 1) (.node nm j x) q = if j = 6 then (if C.2.2.2 x q = true then (if gv_v C k x q = -1 then [] else gv_L C k x q) else [])
        else if j = 7 then (if C.2.2.2 x q = true then (if gv_v C k x q < 0 then [] else gv_L C k x q ++ gv_L C k (.node nm j x) (q + (gv_v C k x q).toNat)) else [])
        else if j = 10 then (q, q + (gv_v C k x q).toNat) :: gv_L C k x q else [] := rfl
      have G : gv_p C (k + 1) (.node nm j x) q = if j = 6 then (if C.2.2.2 x q = true then gv_p C k x q else 0)
        else if j = 7 then (if C.2.2.2 x q = true then (if gv_v C k x q < 0 then gv_p C k x q else max (gv_p C k x q) ((gv_L C k x q).length + gv_p C k (.node nm j x) (q + (gv_v C k x q).toNat))) else 0)
        else if j = 10 then 1 + gv_p C k x q else gv_p C k x q := rfl
      rw [E] at h
      rw [F, G]
      have z : ([] : List (Nat × Nat)).length = 0 := rfl
      by_cases j6 : j = 6
      · rw [if_pos j6] at h ⊢
        rw [if_pos j6]
        by_cases y : C.2.2.2 x q = true
        · rw [if_pos y] at h ⊢
          rw [if_pos y]
          by_cases v1 : gv_v C k x q = -1
          · rw [if_pos v1]; omega
          · rw [if_neg v1] at h ⊢; exact i1 h
        · rw [if_neg y, if_neg y]; exact Nat.le_refl 0
      rw [if_neg j6] at h ⊢
      rw [if_neg j6]
      by_cases j7 : j = 7
      · rw [if_pos j7] at h ⊢
        rw [if_pos j7]
        by_cases y : C.2.2.2 x q = true
        · rw [if_pos y] at h ⊢
          rw [if_pos y]
          by_cases v0 : gv_v C k x q < 0
          · rw [if_pos v0, if_pos v0]; omega
          · have sn : gv_v C k (.node nm j x) (q + (gv_v C k x q).toNat) ≠ -1 := by rw [j7]; exact gv_star_ne C nm x k _
            rw [if_neg (by omega), if_neg (by omega)] at h
            by_cases vs : gv_v C k (.node nm j x) (q + (gv_v C k x q).toNat) = -2
            · rw [if_pos vs] at h; omega
            · rw [if_neg v0, if_neg v0, List.length_append]
              have := i2 (by omega)
              omega
        · rw [if_neg y, if_neg y]; exact Nat.le_refl 0
      rw [if_neg j7] at h ⊢
      rw [if_neg j7]
      by_cases j10 : j = 10
      · rw [if_neg (by omega), if_neg (by omega)] at h
        rw [if_pos j10, if_pos j10, List.length_cons]
        have := i1 h
        omega
      · rw [if_neg j10, if_neg j10]; omega
    | binary nm x y =>
      have i1 := ih x q
      have i2 := ih y q
      have i3 := ih y (q + (gv_v C k x q).toNat)
      have g := gv_v_ge C k x q
      have E : gv_v C (k + 1) (.binary nm x y) q = if gp_n2 nm = 4 then (if gv_v C k x q < 0 then gv_v C k x q else if gv_v C k y (q + (gv_v C k x q).toNat) < 0 then gv_v C k y (q + (gv_v C k x q).toNat) else gv_v C k x q + gv_v C k y (q + (gv_v C k x q).toNat))
        else if C.2.2.2 x q = true then (if gv_v C k x q = -1 then gv_v C k y q else gv_v C k x q) else gv_v C k y q := rfl
      have F : gv_L C (k + 1) (.binary nm x y) q = if gp_n2 nm = 4 then gv_L C k x q ++ gv_L C k y (q + (gv_v C k x q).toNat)
        else if C.2.2.2 x q = true then (if gv_v C k x q = -1 then gv_L C k y q else gv_L C k x q) else gv_L C k y q := rfl
      have G : gv_p C (k + 1) (.binary nm x y) q = if gp_n2 nm = 4 then (if gv_v C k x q < 0 then gv_p C k x q else max (gv_p C k x q) ((gv_L C k x q).length + gv_p C k y (q + (gv_v C k x q).toNat)))
        else if C.2.2.2 x q = true then (if gv_v C k x q = -1 then max (gv_p C k x q) (gv_p C k y q) else gv_p C k x q) else gv_p C k y q := rfl
      rw [E] at h
      rw [F, G]
      by_cases h4 : gp_n2 nm = 4
      · rw [if_pos h4] at h ⊢
        rw [if_pos h4]
        by_cases v0 : gv_v C k x q < 0
        · rw [if_pos v0] at h; omega
        · rw [if_neg v0] at h ⊢
          by_cases w0 : gv_v C k y (q + (gv_v C k x q).toNat) < 0
          · rw [if_pos w0] at h; omega
          · rw [List.length_append]
            have := i3 (by omega)
            omega
      · rw [if_neg h4] at h ⊢
        rw [if_neg h4]
        by_cases z : C.2.2.2 x q = true
        · rw [if_pos z] at h ⊢
          rw [if_pos z]
          by_cases v1 : gv_v C k x q = -1
          · rw [if_pos v1] at h ⊢
            rw [if_pos v1]
            have := i2 h
            omega
          · rw [if_neg v1] at h ⊢
            rw [if_neg v1]
            exact i1 h
        · rw [if_neg z] at h ⊢
          rw [if_neg z]
          exact i2 h
    | _ => exact absurd (show (0 : Int) ≤ -2 from h) (by omega)
theorem gv_ad_f : ∀ (l K : List (Nat × Int)), K.length + l.length ≤ 275 → l.foldr gv_ad K = l ++ K := by
  intro l
  induction l with
  | nil => intro K _; rfl
  | cons x r ih =>
    intro K h
    rw [List.length_cons] at h
    rw [List.foldr_cons, ih K (by omega)]
    unfold gv_ad
    rw [if_pos (by rw [List.length_append]; omega)]
    rfl
/-- how much is known -/
def gv_kc (R : Nat) (M : gv_Mm) : Nat := gp_c (fun i => decide (¬ M.1 ((i / 11 : Nat) : Int) (i % 11) = -2)) (11 * R)
/-- the weights of what is so -/
def gv_su (x : Nat → Bool) (w : Nat → Nat) : Nat → Nat
  | 0 => 0
  | n + 1 => gv_su x w n + if x n = true then w n else 0
theorem gv_su_1 {x y : Nat → Bool} {w : Nat → Nat} {c : Nat} (hy : ∀ k, k ≠ c → y k = x k) (h1 : y c = true) (h0 : ¬ x c = true) : ∀ n, gv_su y w n = gv_su x w n + if c < n then w c else 0 := by
  intro n
  induction n with
  | zero => rfl
  | succ n ih =>
    rw [gv_su, gv_su, ih]
    by_cases e : n = c
    · subst e
      rw [if_pos h1, if_neg h0, if_neg (Nat.lt_irrefl n), if_pos (Nat.lt_succ_self n)]
    · rw [hy n e]
      by_cases l : c < n
      · rw [if_pos l, if_pos (show c < n + 1 by omega)]; omega
      · rw [if_neg l, if_neg (show ¬ c < n + 1 by omega)]; omega
theorem gv_su_le (x : Nat → Bool) (w : Nat → Nat) : ∀ n, gv_su x w n ≤ gv_su (fun _ => true) w n := by
  intro n
  induction n with
  | zero => exact Nat.le_refl 0
  | succ n ih =>
    rw [gv_su, gv_su, if_pos rfl]
    by_cases e : x n = true
    · rw [if_pos e]; omega
    · rw [if_neg e]; omega
def gv_kw (R : Nat) (W : Nat → Nat) (M : gv_Mm) : Nat := gv_su (fun i => decide (¬ M.1 ((i / 11 : Nat) : Int) (i % 11) = -2)) (fun i => W (i % 11)) (11 * R)
theorem gv_kw_1 {R : Nat} {W : Nat → Nat} {M M' : gv_Mm} {r p : Nat} (hr : r < R) (hp : p ≤ 10) (h0 : M.1 (r : Nat) p = -2) (h1 : ¬ M'.1 (r : Nat) p = -2) (h : ∀ r' p' : Nat, ¬ (r' = r ∧ p' = p) → M'.1 (r' : Nat) p' = M.1 (r' : Nat) p') : gv_kw R W M' = gv_kw R W M + W p := by
  unfold gv_kw
  have e1 : (11 * r + p) / 11 = r := by omega
  have e2 : (11 * r + p) % 11 = p := by omega
  have := gv_su_1 (w := fun i => W (i % 11)) (x := fun i => decide (¬ M.1 ((i / 11 : Nat) : Int) (i % 11) = -2)) (y := fun i => decide (¬ M'.1 ((i / 11 : Nat) : Int) (i % 11) = -2)) (c := 11 * r + p) (fun k hk => ?_) ?_ ?_ (11 * R)
  · rw [if_pos (by omega)] at this
    rw [this]
    show _ + W ((11 * r + p) % 11) = _
    rw [e2]
  · show decide _ = decide _
    rw [h (k / 11) (k % 11) (by omega)]
  · show decide _ = true
    rw [e1, e2]
    exact decide_eq_true h1
  · show ¬ decide _ = true
    rw [e1, e2]
    exact fun w => absurd h0 (of_decide_eq_true w)
theorem gv_kp_i {n : Nat} {K : List (Nat × Int)} (h : n + K.length ≤ 5720) : gv_kp n K = K := by
  unfold gv_kp
  rw [show K.length - (5720 - n) = 0 by omega]
  rfl
/-- what is known is right, and so is all that was evaluated for it -/
def gv_MI (C : gv_C) (u : Nat → Nat) (f : Nat → Int × Lean.ParserDescr) (R fed : Nat) (W : Nat → Nat) (M : gv_Mm) : Prop := (∀ r p : Nat, ¬ M.1 (r : Nat) p = -2 → r < R ∧ p ≤ fed ∧ ∃ k, gv_v C k (f r).2 p ≠ -2 ∧ (0 ≤ gv_v C k (f r).2 p → M.1 (r : Nat) p = (p : Int) + gv_v C k (f r).2 p ∧ M.2.1 (r : Nat) p = gv_rv (gv_L C k (f r).2 p)) ∧ (gv_v C k (f r).2 p = -1 → M.1 (r : Nat) p = -1) ∧ ∀ z, z ∈ gv_r C u k (f r).2 p → ¬ M.1 (z.1 : Nat) z.2 = -2) ∧ M.2.2 ≤ gv_kw R W M
/-- from w, M to w', M', where S was evaluated: within N steps -/
def gv_T (C : gv_C) (u : Nat → Nat) (f : Nat → Int × Lean.ParserDescr) (R fed : Nat) (W : Nat → Nat) (B : Nat) (S : List (Nat × Nat)) (l w : Nat) (M : gv_Mm) (w' : Nat) (M' : gv_Mm) (N : Nat) : Prop := gv_MI C u f R fed W M' ∧ (∀ r p : Nat, ¬ M'.1 (r : Nat) p = -2 ↔ ¬ M.1 (r : Nat) p = -2 ∨ (r, p) ∈ S) ∧ w' + gv_kc R M = w + gv_kc R M' ∧ N + B * gv_kc R M ≤ l + B * gv_kc R M'
theorem gv_T_r {C : gv_C} {u : Nat → Nat} {f : Nat → Int × Lean.ParserDescr} {R fed : Nat} {W : Nat → Nat} {B : Nat} {w : Nat} {M : gv_Mm} (h : gv_MI C u f R fed W M) {l N : Nat} (hl : N ≤ l) : gv_T C u f R fed W B [] l w M w M N := ⟨h, fun r p => ⟨Or.inl, fun w => w.elim id (fun w => by cases w)⟩, rfl, by omega⟩
theorem gv_T_t {C : gv_C} {u : Nat → Nat} {f : Nat → Int × Lean.ParserDescr} {R fed : Nat} {W : Nat → Nat} {B : Nat} {S1 S2 : List (Nat × Nat)} {l1 l2 w w1 w2 : Nat} {M M1 M2 : gv_Mm} {N1 N2 : Nat} (h1 : gv_T C u f R fed W B S1 l1 w M w1 M1 N1) (h2 : gv_T C u f R fed W B S2 l2 w1 M1 w2 M2 N2) : gv_T C u f R fed W B (S1 ++ S2) (l1 + l2) w M w2 M2 (N1 + N2) := by
  obtain ⟨a1, a2, a3, a4⟩ := h1
  obtain ⟨b1, b2, b3, b4⟩ := h2
  refine ⟨b1, fun r p => ?_, by omega, by omega⟩
  rw [b2, a2, List.mem_append]
  exact ⟨fun h => h.elim (fun h => h.elim Or.inl (fun h => Or.inr (Or.inl h))) (fun h => Or.inr (Or.inr h)), fun h => h.elim (fun h => Or.inl (Or.inl h)) (fun h => h.elim (fun h => Or.inl (Or.inr h)) Or.inr)⟩
theorem gv_T_n {C : gv_C} {u : Nat → Nat} {f : Nat → Int × Lean.ParserDescr} {R fed : Nat} {W : Nat → Nat} {B : Nat} {S : List (Nat × Nat)} {l w w' : Nat} {M M' : gv_Mm} {N l' N' : Nat} (h : gv_T C u f R fed W B S l w M w' M' N) (hl : l + N' ≤ l' + N) : gv_T C u f R fed W B S l' w M w' M' N' := by
  obtain ⟨a1, a2, a3, a4⟩ := h
  exact ⟨a1, a2, a3, by omega⟩
theorem gv_kc_1 {R : Nat} {M M' : gv_Mm} {r p : Nat} (hr : r < R) (hp : p ≤ 10) (h0 : M.1 (r : Nat) p = -2) (h1 : ¬ M'.1 (r : Nat) p = -2) (h : ∀ r' p' : Nat, ¬ (r' = r ∧ p' = p) → M'.1 (r' : Nat) p' = M.1 (r' : Nat) p') : gv_kc R M' = gv_kc R M + 1 := by
  unfold gv_kc
  have e1 : (11 * r + p) / 11 = r := by omega
  have e2 : (11 * r + p) % 11 = p := by omega
  have := gp_c_one (x := fun i => decide (¬ M.1 ((i / 11 : Nat) : Int) (i % 11) = -2)) (y := fun i => decide (¬ M'.1 ((i / 11 : Nat) : Int) (i % 11) = -2)) (c := 11 * r + p) (fun k hk => ?_) ?_ ?_ (11 * R)
  · rw [if_pos (by omega)] at this
    exact this
  · show decide _ = decide _
    rw [h (k / 11) (k % 11) (by omega)]
  · show decide _ = true
    rw [e1, e2]
    exact decide_eq_true h1
  · show ¬ decide _ = true
    rw [e1, e2]
    exact fun w => absurd h0 (of_decide_eq_true w)
