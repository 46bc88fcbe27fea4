/-! The reference's table says what the expressions do. -/
/-- the table T (taken), D (costs) over nodes from B on, P of them -/
def gy_T (kd on tw Mz : Nat → Int32) (Pg : Nat → Nat → Nat → Prop) (out row : Nat → Nat → Prop) (B P fed : Nat) (T D : Nat → Nat → Int) (C : gv_C) : Prop :=
  (∀ m q, B ≤ m → m < B + P → q ≤ fed → -1 ≤ T m q ∧ (q : Int) + T m q ≤ fed ∧ ∃ (ok : Nat → Nat → Prop) (w : Int), 0 ≤ w ∧ D m q = gp_cp w ∧ gp_cell kd on tw Mz out row T D ok m q (T m q) w) ∧
  (∀ m q, B ≤ m → m < B + P → q ≤ fed → out m q → T m q = -1) ∧
  (∀ nm m q, gp_rep Pg B kd on tw (.cat nm 1) m → B ≤ m → m < B + P → q ≤ fed → (row m q ↔ C.2.1 (gp_n1 nm) (gp_n2 nm) q = true)) ∧
  (∀ nm m q, gp_rep Pg B kd on tw (.cat nm 2) m → B ≤ m → m < B + P → q ≤ fed → (out m q ↔ ¬ C.2.2.1 (gp_n1 nm) (gp_n2 nm) q = true)) ∧
  (∀ nm m, gp_rep Pg B kd on tw (.cat nm 3) m → B ≤ m → m < B + P → B ≤ Int32.toNatClampNeg (Mz m) ∧ Int32.toNatClampNeg (Mz m) < B + P ∧ gp_rep Pg B kd on tw (C.1 (gp_n1 nm)) (Int32.toNatClampNeg (Mz m))) ∧
  (∀ e m q, gp_rep Pg B kd on tw e m → B ≤ m → m < B + P → q ≤ fed → ¬ C.2.2.2 e q = true → out m q)
theorem gy_v {kd on tw Mz : Nat → Int32} {Pg : Nat → Nat → Nat → Prop} {out row : Nat → Nat → Prop} {B P fed : Nat} {T D : Nat → Nat → Int} {C : gv_C} (h : gy_T kd on tw Mz Pg out row B P fed T D C) : ∀ (k : Nat) (e : Lean.ParserDescr) (m q : Nat), gp_rep Pg B kd on tw e m → B ≤ m → m < B + P → q ≤ fed → gv_v C k e q ≠ -2 → T m q = gv_v C k e q := by
  obtain ⟨h1, h2, h3, h4, h5, h6⟩ := h
  intro k
  induction k with
  | zero => intro e m q _ _ _ _ hv; exact absurd rfl hv
  | succ k ih =>
    intro e m q hr b1 b2 hq hv
    obtain ⟨t1, t2, ok, w, w0, wD, cell⟩ := h1 m q b1 b2 hq
    obtain ⟨e0, e1, e2, e3, e4, e5, e6, e7, e8, e9, e10⟩ := cell
    cases e with
    | cat nm j =>
      have hr' := hr
      obtain ⟨j3, kj, r1, -, -⟩ := hr'
      have : j = 0 ∨ j = 1 ∨ j = 2 ∨ j = 3 := by omega
      rcases this with q0 | q0 | q0 | q0
      · subst q0; exact (e0 kj).1
      · subst q0
        have ev : gv_v C (k + 1) (.cat nm 1) q = if C.2.1 (gp_n1 nm) (gp_n2 nm) q = true then (gp_n2 nm : Int) else -1 := rfl
        have ro := h3 nm m q hr b1 b2 hq
        rw [ev]
        rcases (e1 kj).1 with ⟨x, y⟩ | ⟨x, y⟩
        · rw [if_pos (ro.mp x), y]; exact (r1 rfl).2
        · rw [if_neg (fun z => x (ro.mpr z)), y]
      · subst q0
        have ev : gv_v C (k + 1) (.cat nm 2) q = if C.2.2.1 (gp_n1 nm) (gp_n2 nm) q = true then 1 else -1 := rfl
        have ro := h4 nm m q hr b1 b2 hq
        rw [ev]
        rcases (e2 kj).1 with ⟨x, y⟩ | ⟨x, y⟩
        · rw [if_neg (ro.mp x), y]
        · rw [if_pos (Classical.byContradiction (fun z => x (ro.mpr z))), y]
      · subst q0
        have ev : gv_v C (k + 1) (.cat nm 3) q = gv_v C k (C.1 (gp_n1 nm)) q := rfl
        rw [ev] at hv ⊢
        obtain ⟨n1, n2, n3⟩ := h5 nm m hr b1 b2
        rw [(e3 kj).2.1]
        exact ih _ _ q n3 n1 n2 hq hv
    | node nm j x =>
      have hr' := hr
      obtain ⟨j6, kj, ch, rx⟩ := hr'
      obtain ⟨o1, o2, -⟩ := gp_ch_cl ch
      have ix := ih x (Int32.toNatClampNeg (on m)) q rx o1 (by omega) hq
      have lx := h6 x (Int32.toNatClampNeg (on m)) q rx o1 (by omega) hq
      have ux := h2 (Int32.toNatClampNeg (on m)) q o1 (by omega) hq
      obtain ⟨tx1, tx2, -⟩ := h1 (Int32.toNatClampNeg (on m)) q o1 (by omega) hq
      have : j = 6 ∨ j = 7 ∨ j = 8 ∨ j = 9 ∨ j = 10 := by omega
      rcases this with q0 | q0 | q0 | q0 | q0
      · subst q0
        have ev : gv_v C (k + 1) (.node nm 6 x) q = if C.2.2.2 x q = true then (if gv_v C k x q = -1 then 0 else gv_v C k x q) else 0 := rfl
        rw [ev] at hv ⊢
        by_cases z : C.2.2.2 x q = true
        · rw [if_pos z] at hv ⊢
          have vx : gv_v C k x q ≠ -2 := by intro e; rw [e] at hv; exact hv rfl
          have ix := ix vx
          rw [← ix]
          rcases e6 kj with ⟨a, b, -⟩ | ⟨a, -, -, b⟩
          · rw [if_pos (ux a)]; exact b
          · rcases b with ⟨b, c⟩ | ⟨b, c⟩
            · rw [if_pos b]; exact c
            · rw [if_neg b]; exact c
        · rw [if_neg z]
          rcases e6 kj with ⟨a, b, -⟩ | ⟨a, -⟩
          · exact b
          · exact absurd (lx z) a
      · subst q0
        have ev : gv_v C (k + 1) (.node nm 7 x) q = if C.2.2.2 x q = true then (if gv_v C k x q = -1 then 0 else if gv_v C k x q = -2 then -2 else if gv_v C k (.node nm 7 x) (q + (gv_v C k x q).toNat) = -2 then -2 else gv_v C k x q + gv_v C k (.node nm 7 x) (q + (gv_v C k x q).toNat)) else 0 := rfl
        rw [ev] at hv ⊢
        by_cases z : C.2.2.2 x q = true
        · rw [if_pos z] at hv ⊢
          have vx : gv_v C k x q ≠ -2 := by intro e; rw [e] at hv; exact hv rfl
          have ix := ix vx
          rw [← ix] at hv ⊢
          rcases e7 kj with ⟨a, b, -⟩ | ⟨a, -, b⟩
          · rw [if_pos (ux a)]; exact b
          · rcases b with ⟨b, c, -⟩ | ⟨b, -, c, -⟩
            · rw [if_pos b]; exact c
            · have nb : ¬ T (Int32.toNatClampNeg (on m)) q = -1 := by omega
              have nc : ¬ T (Int32.toNatClampNeg (on m)) q = -2 := by omega
              rw [if_neg nb, if_neg nc] at hv ⊢
              have vs : gv_v C k (.node nm 7 x) (q + (T (Int32.toNatClampNeg (on m)) q).toNat) ≠ -2 := by intro e; rw [if_pos e] at hv; exact hv rfl
              rw [if_neg vs, c, ih (.node nm 7 x) m _ hr b1 b2 (by omega) vs]
        · rw [if_neg z]
          rcases e7 kj with ⟨a, b, -⟩ | ⟨a, -⟩
          · exact b
          · exact absurd (lx z) a
      · subst q0
        have ev : gv_v C (k + 1) (.node nm 8 x) q = if 0 ≤ gv_v C k x q then 0 else gv_v C k x q := rfl
        rw [ev] at hv ⊢
        have vx : gv_v C k x q ≠ -2 := by intro e; rw [e] at hv; exact hv rfl
        have ix := ix vx
        rw [← ix]
        rcases (e8 kj).2.2 with ⟨b, c⟩ | ⟨b, c⟩
        · rw [if_neg (by omega), c, b]
        · rw [if_pos (by omega), c]
      · subst q0
        have ev : gv_v C (k + 1) (.node nm 9 x) q = if 0 ≤ gv_v C k x q then -1 else if gv_v C k x q = -1 then 0 else -2 := rfl
        rw [ev] at hv ⊢
        have vx : gv_v C k x q ≠ -2 := by intro e; rw [e] at hv; exact hv rfl
        have ix := ix vx
        rw [← ix]
        rcases (e9 kj).2.2 with ⟨b, c⟩ | ⟨b, c⟩
        · rw [if_neg (by omega), if_pos b, c]
        · rw [if_pos (by omega), c]
      · subst q0
        have ev : gv_v C (k + 1) (.node nm 10 x) q = gv_v C k x q := rfl
        rw [ev] at hv ⊢
        rw [(e10 kj).2.1]
        exact ix hv
    | binary nm x y =>
      have hr' := hr
      obtain ⟨j45, kj, ch1, ch2, rx, ry⟩ := hr'
      obtain ⟨o1, o2, -⟩ := gp_ch_cl ch1
      obtain ⟨p1, p2, -⟩ := gp_ch_cl ch2
      have ix := ih x (Int32.toNatClampNeg (on m)) q rx o1 (by omega) hq
      have iy := fun q' => ih y (Int32.toNatClampNeg (tw m)) q' ry p1 (by omega)
      have lx := h6 x (Int32.toNatClampNeg (on m)) q rx o1 (by omega) hq
      have ux := h2 (Int32.toNatClampNeg (on m)) q o1 (by omega) hq
      obtain ⟨tx1, tx2, -⟩ := h1 (Int32.toNatClampNeg (on m)) q o1 (by omega) hq
      by_cases h4' : gp_n2 nm = 4
      · have ev : gv_v C (k + 1) (.binary nm x y) q = if gv_v C k x q < 0 then gv_v C k x q else if gv_v C k y (q + (gv_v C k x q).toNat) < 0 then gv_v C k y (q + (gv_v C k x q).toNat) else gv_v C k x q + gv_v C k y (q + (gv_v C k x q).toNat) := if_pos h4'
        rw [ev] at hv ⊢
        have vx : gv_v C k x q ≠ -2 := by intro e; rw [e] at hv; exact hv rfl
        have ix := ix vx
        rw [← ix] at hv ⊢
        obtain ⟨-, c⟩ := e4 (by rw [kj, h4']; rfl)
        rcases c with ⟨c1, c2, -⟩ | ⟨c1, -, -, c2⟩
        · rw [if_pos (by omega), c2, c1]
        · rw [if_neg (by omega)] at hv ⊢
          have vy : gv_v C k y (q + (T (Int32.toNatClampNeg (on m)) q).toNat) ≠ -2 := by intro e; rw [e] at hv; exact hv rfl
          have iy := iy (q + (T (Int32.toNatClampNeg (on m)) q).toNat) (by omega) vy
          obtain ⟨ty1, -, -⟩ := h1 (Int32.toNatClampNeg (tw m)) (q + (T (Int32.toNatClampNeg (on m)) q).toNat) p1 (by omega) (by omega)
          rw [← iy]
          rcases c2 with ⟨d1, d2⟩ | ⟨d1, d2⟩
          · rw [if_pos (by omega), d2, d1]
          · rw [if_neg (by omega), d2]
      · have ev : gv_v C (k + 1) (.binary nm x y) q = if C.2.2.2 x q = true then (if gv_v C k x q = -1 then gv_v C k y q else gv_v C k x q) else gv_v C k y q := if_neg h4'
        have k5 : (kd m).toInt = 5 := by
          rw [kj, j45.resolve_left h4']; rfl
        rw [ev] at hv ⊢
        by_cases z : C.2.2.2 x q = true
        · rw [if_pos z] at hv ⊢
          have vx : gv_v C k x q ≠ -2 := by intro e; rw [e] at hv; exact hv rfl
          have ix := ix vx
          rw [← ix] at hv ⊢
          rcases e5 k5 with ⟨-, -, c1, c2, -⟩ | ⟨-, -, c1, -, c2, -⟩ | ⟨c0, -, c2, -⟩
          · rw [if_neg c1]; exact c2
          · rw [if_pos c1] at hv ⊢
            rw [c2]; exact iy q hq hv
          · rw [if_pos (ux c0)] at hv ⊢
            rw [c2]; exact iy q hq hv
        · rw [if_neg z] at hv ⊢
          have o := lx z
          rcases e5 k5 with ⟨c0, -⟩ | ⟨c0, -⟩ | ⟨-, -, c2, -⟩
          · exact absurd o c0
          · exact absurd o c0
          · rw [c2]; exact iy q hq hv
    | _ => exact hr.elim
