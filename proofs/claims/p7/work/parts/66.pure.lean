/-! Rounds over numbered places: values that only grow come to rest. -/
def gp_c (x : Nat → Bool) : Nat → Nat
  | 0 => 0
  | n + 1 => gp_c x n + (if x n = true then 1 else 0)
theorem gp_c_le (x : Nat → Bool) (n : Nat) : gp_c x n ≤ n := by
  induction n with
  | zero => exact Nat.le_refl 0
  | succ n ih =>
    unfold gp_c
    by_cases h : x n = true
    · rw [if_pos h]; omega
    · rw [if_neg h]; omega
theorem gp_c_mono {x y : Nat → Bool} {n : Nat} (h : ∀ k, k < n → x k = true → y k = true) : gp_c x n ≤ gp_c y n := by
  induction n with
  | zero => exact Nat.le_refl 0
  | succ n ih =>
    have a := ih (fun k hk => h k (by omega))
    unfold gp_c
    by_cases e : x n = true
    · rw [if_pos e, if_pos (h n (by omega) e)]; omega
    · rw [if_neg e]; omega
theorem gp_c_lt {x y : Nat → Bool} {n : Nat} (h : ∀ k, k < n → x k = true → y k = true) {k : Nat} (hk : k < n) (hy : y k = true) (hx : ¬ x k = true) : gp_c x n < gp_c y n := by
  induction n with
  | zero => omega
  | succ n ih =>
    unfold gp_c
    by_cases e : k = n
    · subst e
      have a := gp_c_mono (n := k) (fun j hj => h j (by omega))
      rw [if_neg hx, if_pos hy]; omega
    · have a := ih (fun j hj => h j (by omega)) (by omega)
      by_cases e2 : x n = true
      · rw [if_pos e2, if_pos (h n (by omega) e2)]; omega
      · rw [if_neg e2]; omega
theorem gp_c_all {x : Nat → Bool} {n : Nat} (h : n ≤ gp_c x n) : ∀ k, k < n → x k = true := by
  induction n with
  | zero => intro k hk; omega
  | succ n ih =>
    unfold gp_c at h
    have a := gp_c_le x n
    by_cases e : x n = true
    · rw [if_pos e] at h
      intro k hk
      by_cases e2 : k = n
      · rw [e2]; exact e
      · exact ih (by omega) k (by omega)
    · rw [if_neg e] at h; omega
/-- one way up through the places below n -/
def gp_sw (F : (Nat → Bool) → Nat → Bool) : Nat → (Nat → Bool) → Nat → Bool
  | 0, x => x
  | n + 1, x => fun k => if k = n then F (gp_sw F n x) n else gp_sw F n x k
/-- ways up, one behind another -/
def gp_it (F : (Nat → Bool) → Nat → Bool) (N : Nat) : Nat → (Nat → Bool) → Nat → Bool
  | 0, x => x
  | r + 1, x => gp_sw F N (gp_it F N r x)
def gp_mon (F : (Nat → Bool) → Nat → Bool) : Prop := ∀ x y : Nat → Bool, (∀ k, x k = true → y k = true) → ∀ n, F x n = true → F y n = true
def gp_sup (F : (Nat → Bool) → Nat → Bool) (N : Nat) (x : Nat → Bool) : Prop := ∀ n, n < N → x n = true → F x n = true
theorem gp_sw_ge {F : (Nat → Bool) → Nat → Bool} (hF : gp_mon F) {N : Nat} {x : Nat → Bool} (hx : gp_sup F N x) : ∀ n, n ≤ N → (∀ k, x k = true → gp_sw F n x k = true) ∧ gp_sup F N (gp_sw F n x) := by
  intro n
  induction n with
  | zero => intro _; exact ⟨fun k h => h, hx⟩
  | succ n ih =>
    intro hn
    obtain ⟨a, b⟩ := ih (by omega)
    have c : ∀ k, gp_sw F n x k = true → gp_sw F (n + 1) x k = true := by
      intro k hk
      show (if k = n then F (gp_sw F n x) n else gp_sw F n x k) = true
      by_cases e : k = n
      · rw [if_pos e]; rw [e] at hk; exact b n (by omega) hk
      · rw [if_neg e]; exact hk
    refine ⟨fun k h => c k (a k h), fun k hk h => ?_⟩
    have h : (if k = n then F (gp_sw F n x) n else gp_sw F n x k) = true := h
    by_cases e : k = n
    · rw [if_pos e] at h; rw [e]; exact hF _ _ c n h
    · rw [if_neg e] at h; exact hF _ _ c k (b k hk h)
theorem gp_sw_hi {F : (Nat → Bool) → Nat → Bool} {x : Nat → Bool} : ∀ n k, n ≤ k → gp_sw F n x k = x k := by
  intro n
  induction n with
  | zero => intro k _; rfl
  | succ n ih =>
    intro k hk
    show (if k = n then F (gp_sw F n x) n else gp_sw F n x k) = x k
    rw [if_neg (by omega)]; exact ih k (by omega)
theorem gp_sw_keep {F : (Nat → Bool) → Nat → Bool} {x : Nat → Bool} {n : Nat} : ∀ N k, k < n → n ≤ N → gp_sw F N x k = gp_sw F n x k := by
  intro N
  induction N with
  | zero => intro k h1 h2; omega
  | succ N ih =>
    intro k h1 h2
    by_cases e : n = N + 1
    · rw [e]
    · show (if k = N then F (gp_sw F N x) N else gp_sw F N x k) = gp_sw F n x k
      rw [if_neg (by omega)]; exact ih k h1 (by omega)
/-- a way up that brings nothing new was at rest before it -/
theorem gp_sw_fix {F : (Nat → Bool) → Nat → Bool} (hF : gp_mon F) {N : Nat} {x : Nat → Bool} (hx : gp_sup F N x) (h : ∀ k, k < N → gp_sw F N x k = true → x k = true) : ∀ n, n < N → F x n = x n := by
  have same : ∀ n, n ≤ N → gp_sw F n x = x := by
    intro n hn
    funext k
    by_cases e : k < n
    · have a := (gp_sw_ge hF hx n hn).1 k
      have b := h k (by omega)
      rw [gp_sw_keep N k e hn] at b
      cases h1 : gp_sw F n x k <;> cases h2 : x k <;> simp_all
    · exact gp_sw_hi n k (by omega)
  intro n hn
  have a := same (n + 1) (by omega)
  have b : gp_sw F (n + 1) x n = F (gp_sw F n x) n := if_pos rfl
  rw [a, same n (by omega)] at b
  exact b.symm
theorem gp_fix_sw {F : (Nat → Bool) → Nat → Bool} {N : Nat} {x : Nat → Bool} (h : ∀ n, n < N → F x n = x n) : ∀ n, n ≤ N → gp_sw F n x = x := by
  intro n
  induction n with
  | zero => intro _; rfl
  | succ n ih =>
    intro hn
    funext k
    show (if k = n then F (gp_sw F n x) n else gp_sw F n x k) = x k
    rw [ih (by omega)]
    by_cases e : k = n
    · rw [if_pos e, e]; exact h n (by omega)
    · rw [if_neg e]
theorem gp_it_sup {F : (Nat → Bool) → Nat → Bool} (hF : gp_mon F) {N : Nat} {x : Nat → Bool} (hx : gp_sup F N x) : ∀ r, gp_sup F N (gp_it F N r x) := by
  intro r
  induction r with
  | zero => exact hx
  | succ r ih => exact (gp_sw_ge hF ih N (Nat.le_refl N)).2
/-- as many ways up as there are places bring rest -/
theorem gp_it_fix {F : (Nat → Bool) → Nat → Bool} (hF : gp_mon F) {N : Nat} {x : Nat → Bool} (hx : gp_sup F N x) : ∀ n, n < N → F (gp_it F N N x) n = gp_it F N N x n := by
  have main : ∀ r, (∀ n, n < N → F (gp_it F N r x) n = gp_it F N r x n) ∨ r ≤ gp_c (gp_it F N r x) N := by
    intro r
    induction r with
    | zero => exact Or.inr (Nat.zero_le _)
    | succ r ih =>
      rcases ih with h | h
      · left
        have e : gp_it F N (r + 1) x = gp_it F N r x := gp_fix_sw h N (Nat.le_refl N)
        rw [e]; exact h
      · have s := gp_it_sup hF hx r
        have g := (gp_sw_ge hF s N (Nat.le_refl N)).1
        by_cases q : ∀ k, k < N → gp_sw F N (gp_it F N r x) k = true → gp_it F N r x k = true
        · left
          have f := gp_sw_fix hF s q
          have e : gp_it F N (r + 1) x = gp_it F N r x := gp_fix_sw f N (Nat.le_refl N)
          rw [e]; exact f
        · right
          have q' : ∃ k, k < N ∧ gp_sw F N (gp_it F N r x) k = true ∧ ¬ gp_it F N r x k = true := by
            apply Classical.byContradiction
            intro no
            exact q (fun k hk h1 => Classical.byContradiction (fun h2 => no ⟨k, hk, h1, h2⟩))
          obtain ⟨k, hk, h1, h2⟩ := q'
          have l := gp_c_lt (n := N) (fun j _ hj => g j hj) hk h1 h2
          show r + 1 ≤ gp_c (gp_sw F N (gp_it F N r x)) N
          omega
  rcases main N with h | h
  · exact h
  · intro n hn
    have a := gp_c_all h n hn
    rw [a]
    exact gp_it_sup hF hx N n hn a
/-- what lies below a place of rest stays below it -/
theorem gp_it_le {F : (Nat → Bool) → Nat → Bool} (hF : gp_mon F) {N : Nat} {x y : Nat → Bool} (hy : ∀ n, n < N → F y n = true → y n = true) (hxy : ∀ k, x k = true → y k = true) : ∀ r k, gp_it F N r x k = true → y k = true := by
  have sw : ∀ (z : Nat → Bool), (∀ k, z k = true → y k = true) → ∀ n, n ≤ N → ∀ k, gp_sw F n z k = true → y k = true := by
    intro z hz n
    induction n with
    | zero => intro _ k h; exact hz k h
    | succ n ih =>
      intro hn k h
      have h : (if k = n then F (gp_sw F n z) n else gp_sw F n z k) = true := h
      by_cases e : k = n
      · rw [if_pos e] at h; rw [e]; exact hy n (by omega) (hF _ _ (ih (by omega)) n h)
      · rw [if_neg e] at h; exact ih (by omega) k h
  intro r
  induction r with
  | zero => exact hxy
  | succ r ih => exact sw _ ih N (Nat.le_refl N)
