/-! Enough fuel. -/
/-- what is looked at is less -/
def gy_mu (kd on tw Mz : Nat → Int32) (B P fed : Nat) (T : Nat → Nat → Int) (mu : Nat → Nat → Nat) : Prop := ∀ m q, B ≤ m → m < B + P → q ≤ fed →
  ((kd m).toInt = 3 → mu (Int32.toNatClampNeg (Mz m)) q < mu m q) ∧
  (4 ≤ (kd m).toInt → mu (Int32.toNatClampNeg (on m)) q < mu m q) ∧
  ((kd m).toInt = 7 → 0 ≤ T (Int32.toNatClampNeg (on m)) q → mu m (q + (T (Int32.toNatClampNeg (on m)) q).toNat) < mu m q) ∧
  ((kd m).toInt = 4 → 0 ≤ T (Int32.toNatClampNeg (on m)) q → mu (Int32.toNatClampNeg (tw m)) (q + (T (Int32.toNatClampNeg (on m)) q).toNat) < mu m q) ∧
  ((kd m).toInt = 5 → mu (Int32.toNatClampNeg (tw m)) q < mu m q)
theorem gy_tot {kd on tw Mz : Nat → Int32} {Pg : Nat → Nat → Nat → Prop} {out row : Nat → Nat → Prop} {B P fed : Nat} {T D : Nat → Nat → Int} {C : gv_C} {mu : Nat → Nat → Nat} (h : gy_T kd on tw Mz Pg out row B P fed T D C) (hm : gy_mu kd on tw Mz B P fed T mu) : ∀ (k : Nat) (e : Lean.ParserDescr) (m q : Nat), gp_rep Pg B kd on tw e m → B ≤ m → m < B + P → q ≤ fed → mu m q < k → gv_v C k e q ≠ -2 := by
  have hh := h
  obtain ⟨h1, h2, h3, h4, h5, h6⟩ := h
  intro k
  induction k with
  | zero => intro e m q _ _ _ _ hk; omega
  | succ k ih =>
    intro e m q hr b1 b2 hq hk
    obtain ⟨u3, u4, u7, u44, u5⟩ := hm m q b1 b2 hq
    cases e with
    | cat nm j =>
      have hr' := hr
      obtain ⟨j3, kj, -, -, -⟩ := hr'
      have : j = 0 ∨ j = 1 ∨ j = 2 ∨ j = 3 := by omega
      rcases this with q0 | q0 | q0 | q0
      · subst q0; show (0 : Int) ≠ -2; omega
      · subst q0
        have ev : gv_v C (k + 1) (.cat nm 1) q = if C.2.1 (gp_n1 nm) (gp_n2 nm) q = true then (gp_n2 nm : Int) else -1 := rfl
        rw [ev]
        split <;> omega
      · subst q0
        have ev : gv_v C (k + 1) (.cat nm 2) q = if C.2.2.1 (gp_n1 nm) (gp_n2 nm) q = true then 1 else -1 := rfl
        rw [ev]
        split <;> omega
      · subst q0
        obtain ⟨n1, n2, n3⟩ := h5 nm m hr b1 b2
        have := u3 kj
        exact ih (C.1 (gp_n1 nm)) _ q n3 n1 n2 hq (by omega)
    | node nm j x =>
      have hr' := hr
      obtain ⟨j6, kj, ch, rx⟩ := hr'
      obtain ⟨o1, o2, -⟩ := gp_ch_cl ch
      have := u4 (by omega)
      have vx := ih x (Int32.toNatClampNeg (on m)) q rx o1 (by omega) hq (by omega)
      have tv := gy_v hh k x (Int32.toNatClampNeg (on m)) q rx o1 (by omega) hq vx
      obtain ⟨tx1, tx2, -⟩ := h1 (Int32.toNatClampNeg (on m)) q o1 (by omega) hq
      have g := gv_v_ge C k x q
      have : j = 6 ∨ j = 7 ∨ j = 8 ∨ j = 9 ∨ j = 10 := by omega
      rcases this with q0 | q0 | q0 | q0 | q0
      · subst q0
        have ev : gv_v C (k + 1) (.node nm 6 x) q = if C.2.2.2 x q = true then (if gv_v C k x q = -1 then 0 else gv_v C k x q) else 0 := rfl
        rw [ev]
        repeat' split
        all_goals omega
      · subst q0
        have ev : gv_v C (k + 1) (.node nm 7 x) q = if C.2.2.2 x q = true then (if gv_v C k x q = -1 then 0 else if gv_v C k x q = -2 then -2 else if gv_v C k (.node nm 7 x) (q + (gv_v C k x q).toNat) = -2 then -2 else gv_v C k x q + gv_v C k (.node nm 7 x) (q + (gv_v C k x q).toNat)) else 0 := rfl
        rw [ev]
        by_cases z : C.2.2.2 x q = true
        · rw [if_pos z]
          by_cases v1 : gv_v C k x q = -1
          · rw [if_pos v1]; omega
          · have t0 : 0 ≤ T (Int32.toNatClampNeg (on m)) q := by omega
            have u := u7 kj t0
            rw [tv] at u
            have vs := ih (.node nm 7 x) m (q + (gv_v C k x q).toNat) hr b1 b2 (by omega) (by omega)
            have sg := gv_v_ge C k (.node nm 7 x) (q + (gv_v C k x q).toNat)
            rw [if_neg v1, if_neg vx, if_neg vs]
            omega
        · rw [if_neg z]; omega
      · subst q0
        have ev : gv_v C (k + 1) (.node nm 8 x) q = if 0 ≤ gv_v C k x q then 0 else gv_v C k x q := rfl
        rw [ev]
        split <;> omega
      · subst q0
        have ev : gv_v C (k + 1) (.node nm 9 x) q = if 0 ≤ gv_v C k x q then -1 else if gv_v C k x q = -1 then 0 else -2 := rfl
        rw [ev]
        repeat' split
        all_goals omega
      · subst q0; exact vx
    | binary nm x y =>
      have hr' := hr
      obtain ⟨j45, kj, ch1, ch2, rx, ry⟩ := hr'
      obtain ⟨o1, o2, -⟩ := gp_ch_cl ch1
      obtain ⟨p1, p2, -⟩ := gp_ch_cl ch2
      have := u4 (by omega)
      have vx := ih x (Int32.toNatClampNeg (on m)) q rx o1 (by omega) hq (by omega)
      have tv := gy_v hh k x (Int32.toNatClampNeg (on m)) q rx o1 (by omega) hq vx
      obtain ⟨tx1, tx2, -⟩ := h1 (Int32.toNatClampNeg (on m)) q o1 (by omega) hq
      have g := gv_v_ge C k x q
      by_cases h4' : gp_n2 nm = 4
      · have ev : gv_v C (k + 1) (.binary nm x y) q = if gv_v C k x q < 0 then gv_v C k x q else if gv_v C k y (q + (gv_v C k x q).toNat) < 0 then gv_v C k y (q + (gv_v C k x q).toNat) else gv_v C k x q + gv_v C k y (q + (gv_v C k x q).toNat) := if_pos h4'
        rw [ev]
        by_cases v0 : gv_v C k x q < 0
        · rw [if_pos v0]; exact vx
        · rw [if_neg v0]
          have u := u44 (by rw [kj, h4']; rfl) (by omega)
          rw [tv] at u
          have vy := ih y (Int32.toNatClampNeg (tw m)) (q + (gv_v C k x q).toNat) ry p1 (by omega) (by omega) (by omega)
          split <;> omega
      · have ev : gv_v C (k + 1) (.binary nm x y) q = if C.2.2.2 x q = true then (if gv_v C k x q = -1 then gv_v C k y q else gv_v C k x q) else gv_v C k y q := if_neg h4'
        have k5 : (kd m).toInt = 5 := by
          rw [kj, j45.resolve_left h4']; rfl
        have u := u5 k5
        have vy := ih y (Int32.toNatClampNeg (tw m)) q ry p1 (by omega) hq (by omega)
        rw [ev]
        repeat' split
        all_goals omega
    | _ => exact hr.elim
