/-! Which rules an expression evaluates where; more fuel changes nothing. -/
/-- the rules it evaluates, and where -/
def gv_r (C : gv_C) (u : Nat → Nat) : Nat → Lean.ParserDescr → Nat → List (Nat × Nat)
  | 0, _, _ => []
  | k + 1, .cat nm j, q => if j ≤ 2 then [] else (u (gp_n1 nm), q) :: gv_r C u k (C.1 (gp_n1 nm)) q
  | k + 1, .node nm j x, q =>
    if j = 6 then (if C.2.2.2 x q = true then gv_r C u k x q else [])
    else if j = 7 then (if C.2.2.2 x q = true then (if gv_v C k x q < 0 then gv_r C u k x q else gv_r C u k x q ++ gv_r C u k (.node nm j x) (q + (gv_v C k x q).toNat)) else [])
    else gv_r C u k x q
  | k + 1, .binary nm x y, q =>
    if gp_n2 nm = 4 then (if gv_v C k x q < 0 then gv_r C u k x q else gv_r C u k x q ++ gv_r C u k y (q + (gv_v C k x q).toNat))
    else if C.2.2.2 x q = true then (if gv_v C k x q = -1 then gv_r C u k x q ++ gv_r C u k y q else gv_r C u k x q) else gv_r C u k y q
  | _ + 1, _, _ => []
/-- at most so many steps, those of rules not counted -/
def gv_l (C : gv_C) : Nat → Lean.ParserDescr → Nat → Nat
  | 0, _, _ => 0
  | k + 1, .cat nm j, q => if j = 0 then 0 else if j = 1 then gp_n2 nm else 1
  | k + 1, .node nm j x, q =>
    if j = 6 then 3 + gv_l C k x q
    else if j = 7 then (if gv_v C k x q < 0 then 3 + gv_l C k x q else 3 + gv_l C k x q + gv_l C k (.node nm j x) (q + (gv_v C k x q).toNat))
    else 2 + gv_l C k x q
  | k + 1, .binary nm x y, q =>
    if gp_n2 nm = 4 then (if gv_v C k x q < 0 then (if gp_n1 nm = 1 then 3 else 0) + gv_l C k x q else (if gp_n1 nm = 1 then 3 else 0) + gv_l C k x q + gv_l C k y (q + (gv_v C k x q).toNat))
    else if gv_v C k x q = -1 then 3 + gv_l C k x q + gv_l C k y q else 3 + gv_l C k x q
  | _ + 1, _, _ => 0
theorem gv_mono (C : gv_C) (u : Nat → Nat) : ∀ (k : Nat) (e : Lean.ParserDescr) (q : Nat), gv_v C k e q ≠ -2 → gv_v C (k + 1) e q = gv_v C k e q ∧ (0 ≤ gv_v C k e q → gv_L C (k + 1) e q = gv_L C k e q) ∧ gv_r C u (k + 1) e q = gv_r C u k e q := by
  intro k
  induction k with
  | zero => intro e q hv; exact absurd (show gv_v C 0 e q = -2 from rfl) hv
  | succ k ih =>
    intro e q hv
    cases e with
    | cat nm j =>
      have E : ∀ k, gv_v C (k + 1) (.cat nm j) q = if j = 0 then 0 else if j = 1 then (if C.2.1 (gp_n1 nm) (gp_n2 nm) q = true then (gp_n2 nm : Int) else -1) else if j = 2 then (if C.2.2.1 (gp_n1 nm) (gp_n2 nm) q = true then 1 else -1) else gv_v C k (C.1 (gp_n1 nm)) q := fun _ => rfl
      have F : ∀ k, gv_L C (k + 1) (.cat nm j) q = if j ≤ 2 then [] else gv_L C k (C.1 (gp_n1 nm)) q := fun _ => rfl
      have G : ∀ k, gv_r C u (k + 1) (.cat nm j) q = if j ≤ 2 then [] else (u (gp_n1 nm), q) :: gv_r C u k (C.1 (gp_n1 nm)) q := fun _ => rfl
      by_cases j2 : j ≤ 2
      · rw [F, F, G, G, if_pos j2, if_pos j2, if_pos j2, if_pos j2]
        refine ⟨?_, fun _ => rfl, rfl⟩
        rw [E, E]
        have : j = 0 ∨ j = 1 ∨ j = 2 := by omega
        rcases this with q | q | q <;> subst q <;> rfl
      · rw [E, if_neg (by omega), if_neg (by omega), if_neg (by omega)] at hv
        obtain ⟨i1, i2, i3⟩ := ih _ q hv
        rw [F, F, G, G, if_neg j2, if_neg j2, if_neg j2, if_neg j2, E, E, if_neg (by omega), if_neg (by omega), if_neg (by omega), if_neg (by omega), if_neg (by omega), if_neg (by omega), i1, i3]
        exact ⟨rfl, i2, rfl⟩
    | node nm j x =>
      have E : ∀ k, gv_v C (k + 1) (.node nm j x) q = if j = 6 then (if C.2.2.2 x q = true then (if gv_v C k x q = -1 then 0 else gv_v C k x q) else 0)
        else if j = 7 then (if C.2.2.2 x q = true then (if gv_v C k x q = -1 then 0 else if gv_v C k x q = -2 then -2 else if gv_v C k (.node nm j x) (q + (gv_v C k x q).toNat) = -2 then -2 else gv_v C k x q + gv_v C k (.node nm j x) (q + (gv_v C k x q).toNat)) else 0)
        else if j = 8 then (if 0 ≤ gv_v C k x q then 0 else gv_v C k x q)
        else if j = 9 then (if 0 ≤ gv_v C k x q then -1 else if gv_v C k x q = -1 then 0 else -2)
        else gv_v C k x q := fun _ => rfl
      have F : ∀ k, gv_L C (k + 1) (.node nm j x) q = if j = 6 then (if C.2.2.2 x q = true then (if gv_v C k x q = -1 then [] else gv_L C k x q) else [])
        else if j = 7 then (if C.2.2.2 x q = true then (if gv_v C k x q < 0 then [] else gv_L C k x q ++ gv_L C k (.node nm j x) (q + (gv_v C k x q).toNat)) else [])
        else if j = 10 then (q, q + (gv_v C k x q).toNat) :: gv_L C k x q else [] := fun _ => rfl
      have G : ∀ k, gv_r C u (k + 1) (.node nm j x) q = if j = 6 then (if C.2.2.2 x q = true then gv_r C u k x q else [])
        else if j = 7 then (if C.2.2.2 x q = true then (if gv_v C k x q < 0 then gv_r C u k x q else gv_r C u k x q ++ gv_r C u k (.node nm j x) (q + (gv_v C k x q).toNat)) else [])
        else gv_r C u k x q := fun _ => rfl
      rw [E] at hv
      rw [E, E, F, F, G, G]
      have g := gv_v_ge C k x q
      by_cases j6 : j = 6
      · rw [if_pos j6] at hv
        rw [if_pos j6, if_pos j6, if_pos j6, if_pos j6, if_pos j6, if_pos j6]
        by_cases z : C.2.2.2 x q = true
        · rw [if_pos z] at hv
          rw [if_pos z, if_pos z, if_pos z, if_pos z, if_pos z, if_pos z]
          have vx : gv_v C k x q ≠ -2 := by intro e; rw [e] at hv; exact hv rfl
          obtain ⟨i1, i2, i3⟩ := ih x q vx
          rw [i1, i3]
          refine ⟨rfl, fun h0 => ?_, rfl⟩
          by_cases v1 : gv_v C k x q = -1
          · rw [if_pos v1, if_pos v1]
          · rw [if_neg v1, if_neg v1, i2 (by omega)]
        · rw [if_neg z, if_neg z, if_neg z, if_neg z, if_neg z, if_neg z]
          exact ⟨rfl, fun _ => rfl, rfl⟩
      rw [if_neg j6] at hv
      rw [if_neg j6, if_neg j6, if_neg j6, if_neg j6, if_neg j6, if_neg j6]
      by_cases j7 : j = 7
      · rw [if_pos j7] at hv
        rw [if_pos j7, if_pos j7, if_pos j7, if_pos j7, if_pos j7, if_pos j7]
        by_cases z : C.2.2.2 x q = true
        · rw [if_pos z] at hv
          rw [if_pos z, if_pos z, if_pos z, if_pos z, if_pos z, if_pos z]
          have vx : gv_v C k x q ≠ -2 := by intro e; rw [e] at hv; exact hv rfl
          obtain ⟨i1, i2, i3⟩ := ih x q vx
          rw [i1, i3]
          by_cases v1 : gv_v C k x q = -1
          · have v0 : gv_v C k x q < 0 := by omega
            rw [if_pos v1, if_pos v1, if_pos v0, if_pos v0, if_pos v0, if_pos v0]
            exact ⟨rfl, fun _ => rfl, rfl⟩
          · have v0 : ¬ gv_v C k x q < 0 := by omega
            rw [if_neg v1, if_neg vx] at hv
            have vs : gv_v C k (.node nm j x) (q + (gv_v C k x q).toNat) ≠ -2 := by intro e; rw [if_pos e] at hv; exact hv rfl
            obtain ⟨s1, s2, s3⟩ := ih _ _ vs
            have sg := gv_v_ge C k (.node nm j x) (q + (gv_v C k x q).toNat)
            have sn : gv_v C k (.node nm j x) (q + (gv_v C k x q).toNat) ≠ -1 := by rw [j7]; exact gv_star_ne C nm x k _
            rw [if_neg v1, if_neg vx, if_neg v1, if_neg vx, if_neg v0, if_neg v0, if_neg v0, if_neg v0, s1, s3, i2 (by omega), s2 (by omega)]
            exact ⟨rfl, fun _ => rfl, rfl⟩
        · rw [if_neg z, if_neg z, if_neg z, if_neg z, if_neg z, if_neg z]
          exact ⟨rfl, fun _ => rfl, rfl⟩
      rw [if_neg j7] at hv
      rw [if_neg j7, if_neg j7, if_neg j7, if_neg j7, if_neg j7, if_neg j7]
      have vx : gv_v C k x q ≠ -2 := by
        intro e
        rw [e] at hv
        by_cases j8 : j = 8
        · rw [if_pos j8] at hv; exact hv rfl
        · rw [if_neg j8] at hv
          by_cases j9 : j = 9
          · rw [if_pos j9] at hv; exact hv rfl
          · rw [if_neg j9] at hv; exact hv rfl
      obtain ⟨i1, i2, i3⟩ := ih x q vx
      rw [i1, i3]
      refine ⟨rfl, fun h0 => ?_, rfl⟩
      by_cases j10 : j = 10
      · rw [if_pos j10, if_pos j10]
        rw [if_neg (by omega), if_neg (by omega)] at h0
        rw [i2 h0]
      · rw [if_neg j10, if_neg j10]
    | binary nm x y =>
      have E : ∀ k, gv_v C (k + 1) (.binary nm x y) q = if gp_n2 nm = 4 then (if gv_v C k x q < 0 then gv_v C k x q else if gv_v C k y (q + (gv_v C k x q).toNat) < 0 then gv_v C k y (q + (gv_v C k x q).toNat) else gv_v C k x q + gv_v C k y (q + (gv_v C k x q).toNat))
        else if C.2.2.2 x q = true then (if gv_v C k x q = -1 then gv_v C k y q else gv_v C k x q) else gv_v C k y q := fun _ => rfl
      have F : ∀ k, gv_L C (k + 1) (.binary nm x y) q = if gp_n2 nm = 4 then gv_L C k x q ++ gv_L C k y (q + (gv_v C k x q).toNat)
        else if C.2.2.2 x q = true then (if gv_v C k x q = -1 then gv_L C k y q else gv_L C k x q) else gv_L C k y q := fun _ => rfl
      have G : ∀ k, gv_r C u (k + 1) (.binary nm x y) q = if gp_n2 nm = 4 then (if gv_v C k x q < 0 then gv_r C u k x q else gv_r C u k x q ++ gv_r C u k y (q + (gv_v C k x q).toNat))
        else if C.2.2.2 x q = true then (if gv_v C k x q = -1 then gv_r C u k x q ++ gv_r C u k y q else gv_r C u k x q) else gv_r C u k y q := fun _ => rfl
      rw [E] at hv
      rw [E, E, F, F, G, G]
      have g := gv_v_ge C k x q
      by_cases h4 : gp_n2 nm = 4
      · rw [if_pos h4] at hv
        rw [if_pos h4, if_pos h4, if_pos h4, if_pos h4, if_pos h4, if_pos h4]
        have vx : gv_v C k x q ≠ -2 := by intro e; rw [e] at hv; exact hv rfl
        obtain ⟨i1, i2, i3⟩ := ih x q vx
        rw [i1, i3]
        by_cases v0 : gv_v C k x q < 0
        · rw [if_pos v0, if_pos v0, if_pos v0, if_pos v0]
          exact ⟨rfl, fun h0 => absurd h0 (by omega), rfl⟩
        · rw [if_neg v0] at hv
          rw [if_neg v0, if_neg v0, if_neg v0, if_neg v0]
          have vy : gv_v C k y (q + (gv_v C k x q).toNat) ≠ -2 := by intro e; rw [e] at hv; exact hv rfl
          obtain ⟨s1, s2, s3⟩ := ih y _ vy
          rw [s1, s3, i2 (by omega)]
          refine ⟨rfl, fun h0 => ?_, rfl⟩
          by_cases w0 : gv_v C k y (q + (gv_v C k x q).toNat) < 0
          · rw [if_pos w0] at h0; omega
          · rw [s2 (by omega)]
      · rw [if_neg h4] at hv
        rw [if_neg h4, if_neg h4, if_neg h4, if_neg h4, if_neg h4, if_neg h4]
        by_cases z : C.2.2.2 x q = true
        · rw [if_pos z] at hv
          rw [if_pos z, if_pos z, if_pos z, if_pos z, if_pos z, if_pos z]
          have vx : gv_v C k x q ≠ -2 := by intro e; rw [e] at hv; exact hv rfl
          obtain ⟨i1, i2, i3⟩ := ih x q vx
          rw [i1, i3]
          by_cases v1 : gv_v C k x q = -1
          · rw [if_pos v1] at hv
            obtain ⟨s1, s2, s3⟩ := ih y q hv
            rw [if_pos v1, if_pos v1, if_pos v1, if_pos v1, if_pos v1, if_pos v1, s1, s3]
            exact ⟨rfl, s2, rfl⟩
          · rw [if_neg v1, if_neg v1, if_neg v1, if_neg v1, if_neg v1, if_neg v1]
            exact ⟨rfl, i2, rfl⟩
        · rw [if_neg z] at hv
          rw [if_neg z, if_neg z, if_neg z, if_neg z, if_neg z, if_neg z]
          exact ih y q hv
    | _ => exact absurd rfl hv
theorem gv_mono' (C : gv_C) (u : Nat → Nat) {k : Nat} {e : Lean.ParserDescr} {q : Nat} (hv : gv_v C k e q ≠ -2) : ∀ d, gv_v C (k + d) e q = gv_v C k e q ∧ (0 ≤ gv_v C k e q → gv_L C (k + d) e q = gv_L C k e q) ∧ gv_r C u (k + d) e q = gv_r C u k e q := by
  intro d
  induction d with
  | zero => exact ⟨rfl, fun _ => rfl, rfl⟩
  | succ d ih =>
    obtain ⟨i1, i2, i3⟩ := ih
    obtain ⟨s1, s2, s3⟩ := gv_mono C u (k + d) e q (by rw [i1]; exact hv)
    exact ⟨s1.trans i1, fun h => (s2 (by rw [i1]; exact h)).trans (i2 h), s3.trans i3⟩
/-- two fuels that suffice -/
theorem gv_same (C : gv_C) (u : Nat → Nat) {k k' : Nat} {e : Lean.ParserDescr} {q : Nat} (hv : gv_v C k e q ≠ -2) (hv' : gv_v C k' e q ≠ -2) : gv_v C k' e q = gv_v C k e q ∧ (0 ≤ gv_v C k e q → gv_L C k' e q = gv_L C k e q) ∧ gv_r C u k' e q = gv_r C u k e q := by
  rcases Nat.le_total k k' with h | h
  · have := gv_mono' C u hv (k' - k)
    rw [show k + (k' - k) = k' by omega] at this
    exact this
  · have := gv_mono' C u hv' (k - k')
    rw [show k' + (k - k') = k by omega] at this
    obtain ⟨a, b, c⟩ := this
    exact ⟨a.symm, fun h => (b (by rw [← a]; exact h)).symm, c.symm⟩
/-- a rule that is evaluated inside was evaluated with less fuel -/
theorem gv_r_lt {C : gv_C} {u : Nat → Nat} {f : Nat → Int × Lean.ParserDescr} (hC : ∀ c, C.1 c = (f (u c)).2) : ∀ (k : Nat) (e : Lean.ParserDescr) (q : Nat), gv_v C k e q ≠ -2 → ∀ z, z ∈ gv_r C u k e q → ∃ k', k' < k ∧ gv_v C k' (f z.1).2 z.2 ≠ -2 ∧ ∀ z', z' ∈ gv_r C u k' (f z.1).2 z.2 → z' ∈ gv_r C u k e q := by
  intro k
  induction k with
  | zero => intro e q hv; exact absurd (show gv_v C 0 e q = -2 from rfl) hv
  | succ k ih =>
    intro e q hv z hz
    have up : ∀ (x : Lean.ParserDescr) (p : Nat), gv_v C k x p ≠ -2 → z ∈ gv_r C u k x p → (∀ z', z' ∈ gv_r C u k x p → z' ∈ gv_r C u (k + 1) e q) → ∃ k', k' < k + 1 ∧ gv_v C k' (f z.1).2 z.2 ≠ -2 ∧ ∀ z', z' ∈ gv_r C u k' (f z.1).2 z.2 → z' ∈ gv_r C u (k + 1) e q := by
      intro x p h1 h2 h3
      obtain ⟨k', a, b, c⟩ := ih x p h1 z h2
      exact ⟨k', by omega, b, fun z' hz' => h3 z' (c z' hz')⟩
    cases e with
    | cat nm j =>
      have E : gv_v C (k + 1) (.cat nm j) q = if j = 0 then 0 else if j = 1 then (if C.2.1 (gp_n1 nm) (gp_n2 nm) q = true then (gp_n2 nm : Int) else -1) else if j = 2 then (if C.2.2.1 (gp_n1 nm) (gp_n2 nm) q = true then 1 else -1) else gv_v C k (C.1 (gp_n1 nm)) q := rfl
      have G : gv_r C u (k + 1) (.cat nm j) q = if j ≤ 2 then [] else (u (gp_n1 nm), q) :: gv_r C u k (C.1 (gp_n1 nm)) q := rfl
      by_cases j2 : j ≤ 2
      · rw [G, if_pos j2] at hz; cases hz
      · rw [E, if_neg (by omega), if_neg (by omega), if_neg (by omega)] at hv
        rw [G, if_neg j2] at up ⊢
        rw [G, if_neg j2] at hz
        rcases List.mem_cons.mp hz with e | e
        · rw [e]
          refine ⟨k, by omega, ?_, fun z' hz' => List.mem_cons_of_mem _ ?_⟩
          · rw [← hC]; exact hv
          · rw [hC]; exact hz'
        · exact up _ q hv e (fun z' hz' => List.mem_cons_of_mem _ hz')
    | node nm j x =>
      have E : gv_v C (k + 1) (.node nm j x) q = if j = 6 then (if C.2.2.2 x q = true then (if gv_v C k x q = -1 then 0 else gv_v C k x q) else 0)
        else if j = 7 then (if C.2.2.2 x q = true then (if gv_v C k x q = -1 then 0 else if gv_v C k x q = -2 then -2 else if gv_v C k (.node nm j x) (q + (gv_v C k x q).toNat) = -2 then -2 else gv_v C k x q + gv_v C k (.node nm j x) (q + (gv_v C k x q).toNat)) else 0)
        else if j = 8 then (if 0 ≤ gv_v C k x q then 0 else gv_v C k x q)
        else if j = 9 then (if 0 ≤ gv_v C k x q then -1 else if gv_v C k x q = -1 then 0 else -2)
        else gv_v C k x q := rfl
      have G : gv_r C u (k + 1) (.node nm j x) q = if j = 6 then (if C.2.2.2 x q = true then gv_r C u k x q else [])
        else if j = 7 then (if C.2.2.2 x q = true then (if gv_v C k x q < 0 then gv_r C u k x q else gv_r C u k x q ++ gv_r C u k (.node nm j x) (q + (gv_v C k x q).toNat)) else [])
        else gv_r C u k x q := rfl
      rw [E] at hv
      rw [G] at up hz ⊢
      by_cases j6 : j = 6
      · rw [if_pos j6] at hv hz up ⊢
        by_cases z : C.2.2.2 x q = true
        · rw [if_pos z] at hv hz up ⊢
          have vx : gv_v C k x q ≠ -2 := by intro e; rw [e] at hv; exact hv rfl
          exact up x q vx hz (fun _ h => h)
        · rw [if_neg z] at hz; cases hz
      rw [if_neg j6] at hv hz up ⊢
      by_cases j7 : j = 7
      · rw [if_pos j7] at hv hz up ⊢
        by_cases z : C.2.2.2 x q = true
        · rw [if_pos z] at hv hz up ⊢
          have vx : gv_v C k x q ≠ -2 := by intro e; rw [e] at hv; exact hv rfl
          have g := gv_v_ge C k x q
          by_cases v0 : gv_v C k x q < 0
          · rw [if_pos v0] at hz up ⊢
            exact up x q vx hz (fun _ h => h)
          · rw [if_neg (by omega), if_neg vx] at hv
            rw [if_neg v0] at hz up ⊢
            have vs : gv_v C k (.node nm j x) (q + (gv_v C k x q).toNat) ≠ -2 := by intro e; rw [if_pos e] at hv; exact hv rfl
            rcases List.mem_append.mp hz with w | w
            · exact up x q vx w (fun _ h => List.mem_append.mpr (Or.inl h))
            · exact up _ _ vs w (fun _ h => List.mem_append.mpr (Or.inr h))
        · rw [if_neg z] at hz; cases hz
      rw [if_neg j7] at hv hz up ⊢
      have vx : gv_v C k x q ≠ -2 := by
        intro e
        rw [e] at hv
        by_cases j8 : j = 8
        · rw [if_pos j8] at hv; exact hv rfl
        · rw [if_neg j8] at hv
          by_cases j9 : j = 9
          · rw [if_pos j9] at hv; exact hv rfl
          · rw [if_neg j9] at hv; exact hv rfl
      exact up x q vx hz (fun _ h => h)
    | binary nm x y =>
      have E : gv_v C (k + 1) (.binary nm x y) q = if gp_n2 nm = 4 then (if gv_v C k x q < 0 then gv_v C k x q else if gv_v C k y (q + (gv_v C k x q).toNat) < 0 then gv_v C k y (q + (gv_v C k x q).toNat) else gv_v C k x q + gv_v C k y (q + (gv_v C k x q).toNat))
        else if C.2.2.2 x q = true then (if gv_v C k x q = -1 then gv_v C k y q else gv_v C k x q) else gv_v C k y q := rfl
      have G : gv_r C u (k + 1) (.binary nm x y) q = if gp_n2 nm = 4 then (if gv_v C k x q < 0 then gv_r C u k x q else gv_r C u k x q ++ gv_r C u k y (q + (gv_v C k x q).toNat))
        else if C.2.2.2 x q = true then (if gv_v C k x q = -1 then gv_r C u k x q ++ gv_r C u k y q else gv_r C u k x q) else gv_r C u k y q := rfl
      rw [E] at hv
      rw [G] at up hz ⊢
      by_cases h4 : gp_n2 nm = 4
      · rw [if_pos h4] at hv hz up ⊢
        have vx : gv_v C k x q ≠ -2 := by intro e; rw [e] at hv; exact hv rfl
        by_cases v0 : gv_v C k x q < 0
        · rw [if_pos v0] at hz up ⊢
          exact up x q vx hz (fun _ h => h)
        · rw [if_neg v0] at hv hz up ⊢
          have vy : gv_v C k y (q + (gv_v C k x q).toNat) ≠ -2 := by intro e; rw [e] at hv; exact hv rfl
          rcases List.mem_append.mp hz with w | w
          · exact up x q vx w (fun _ h => List.mem_append.mpr (Or.inl h))
          · exact up _ _ vy w (fun _ h => List.mem_append.mpr (Or.inr h))
      · rw [if_neg h4] at hv hz up ⊢
        by_cases z : C.2.2.2 x q = true
        · rw [if_pos z] at hv hz up ⊢
          have vx : gv_v C k x q ≠ -2 := by intro e; rw [e] at hv; exact hv rfl
          by_cases v1 : gv_v C k x q = -1
          · rw [if_pos v1] at hv hz up ⊢
            rcases List.mem_append.mp hz with w | w
            · exact up x q vx w (fun _ h => List.mem_append.mpr (Or.inl h))
            · exact up _ _ hv w (fun _ h => List.mem_append.mpr (Or.inr h))
          · rw [if_neg v1] at hz up ⊢
            exact up x q vx hz (fun _ h => h)
        · rw [if_neg z] at hv hz up ⊢
          exact up y q hv hz (fun _ h => h)
    | _ => exact absurd rfl hv
/-- no rule evaluates itself at the same place -/
theorem gv_acy {C : gv_C} {u : Nat → Nat} {f : Nat → Int × Lean.ParserDescr} (hC : ∀ c, C.1 c = (f (u c)).2) (r p : Nat) : ∀ (n k : Nat), k ≤ n → gv_v C k (f r).2 p ≠ -2 → ¬ (r, p) ∈ gv_r C u k (f r).2 p := by
  intro n
  induction n with
  | zero =>
    intro k hk hv
    have : k = 0 := by omega
    subst this
    exact absurd rfl hv
  | succ n ih =>
    intro k hk hv hz
    obtain ⟨k', a, b, -⟩ := gv_r_lt hC k _ p hv (r, p) hz
    have s := (gv_same C u hv b).2.2
    exact ih k' (by omega) b (by rw [s]; exact hz)
