/-! The reference's costs are the tries. -/
theorem gy_cp2 {a b : Int} (ha : 0 ≤ a) (hb : 0 ≤ b) : gp_cp (gp_cp a + gp_cp b) = gp_cp (a + b) := by
  unfold gp_cp
  repeat' split
  all_goals omega
theorem gy_cp1 {a : Int} (ha : 0 ≤ a) : gp_cp (1 + gp_cp a) = gp_cp (1 + a) := by
  unfold gp_cp
  repeat' split
  all_goals omega
theorem gy_cp3 {a b : Int} (ha : 0 ≤ a) (hb : 0 ≤ b) : gp_cp (1 + gp_cp a + gp_cp b) = gp_cp (1 + a + b) := by
  unfold gp_cp
  repeat' split
  all_goals omega
theorem gy_cp0 {a : Int} (ha : 0 ≤ a) : gp_cp (gp_cp a) = gp_cp a := by
  unfold gp_cp
  repeat' split
  all_goals omega
theorem gy_c {kd on tw Mz : Nat → Int32} {Pg : Nat → Nat → Nat → Prop} {out row : Nat → Nat → Prop} {B P fed : Nat} {T D : Nat → Nat → Int} {C : gv_C} (h : gy_T kd on tw Mz Pg out row B P fed T D C) (hx : ∀ e m q, gp_rep Pg B kd on tw e m → B ≤ m → m < B + P → q ≤ fed → C.2.2.2 e q = true → ¬ out m q) : ∀ (k : Nat) (e : Lean.ParserDescr) (m q : Nat), gp_rep Pg B kd on tw e m → B ≤ m → m < B + P → q ≤ fed → gv_v C k e q ≠ -2 → D m q = gp_cp (gv_c C k e q : Nat) := by
  have hh := h
  obtain ⟨h1, h2, h3, h4, h5, h6⟩ := h
  have c0 : ∀ n : Nat, (0 : Int) ≤ (n : Nat) := fun n => by omega
  intro k
  induction k with
  | zero => intro e m q _ _ _ _ hv; exact absurd rfl hv
  | succ k ih =>
    intro e m q hr b1 b2 hq hv
    obtain ⟨t1, t2, ok, w, w0, wD, cell⟩ := h1 m q b1 b2 hq
    obtain ⟨e0, e1, e2, e3, e4, e5, e6, e7, e8, e9, e10⟩ := cell
    rw [wD]
    cases e with
    | cat nm j =>
      have hr' := hr
      obtain ⟨j3, kj, r1, -, -⟩ := hr'
      have : j = 0 ∨ j = 1 ∨ j = 2 ∨ j = 3 := by omega
      rcases this with q0 | q0 | q0 | q0
      · subst q0; rw [(e0 kj).2]; rfl
      · subst q0; rw [(e1 kj).2]; rfl
      · subst q0; rw [(e2 kj).2]; rfl
      · subst q0
        have ev : gv_v C (k + 1) (.cat nm 3) q = gv_v C k (C.1 (gp_n1 nm)) q := rfl
        have ec : gv_c C (k + 1) (.cat nm 3) q = gv_c C k (C.1 (gp_n1 nm)) q := rfl
        rw [ev] at hv
        obtain ⟨n1, n2, n3⟩ := h5 nm m hr b1 b2
        rw [(e3 kj).2.2, ec, ih _ _ q n3 n1 n2 hq hv, gy_cp0 (c0 _)]
    | node nm j x =>
      have hr' := hr
      obtain ⟨j6, kj, ch, rx⟩ := hr'
      obtain ⟨o1, o2, -⟩ := gp_ch_cl ch
      have ix := ih x (Int32.toNatClampNeg (on m)) q rx o1 (by omega) hq
      have vxx := gy_v hh k x (Int32.toNatClampNeg (on m)) q rx o1 (by omega) hq
      have lx := h6 x (Int32.toNatClampNeg (on m)) q rx o1 (by omega) hq
      have nx := hx x (Int32.toNatClampNeg (on m)) q rx o1 (by omega) hq
      obtain ⟨tx1, tx2, -⟩ := h1 (Int32.toNatClampNeg (on m)) q o1 (by omega) hq
      have : j = 6 ∨ j = 7 ∨ j = 8 ∨ j = 9 ∨ j = 10 := by omega
      rcases this with q0 | q0 | q0 | q0 | q0
      · subst q0
        have ev : gv_v C (k + 1) (.node nm 6 x) q = if C.2.2.2 x q = true then (if gv_v C k x q = -1 then 0 else gv_v C k x q) else 0 := rfl
        have ec : gv_c C (k + 1) (.node nm 6 x) q = if C.2.2.2 x q = true then 1 + gv_c C k x q else 0 := rfl
        rw [ev] at hv
        rw [ec]
        by_cases z : C.2.2.2 x q = true
        · rw [if_pos z] at hv ⊢
          have vx : gv_v C k x q ≠ -2 := by intro e; rw [e] at hv; exact hv rfl
          rcases e6 kj with ⟨a, -⟩ | ⟨-, -, a, -⟩
          · exact absurd a (nx z)
          · rw [a, ix vx, gy_cp1 (c0 _), Int.natCast_add]; rfl
        · rw [if_neg z]
          rcases e6 kj with ⟨-, -, a⟩ | ⟨a, -⟩
          · rw [a]; rfl
          · exact absurd (lx z) a
      · subst q0
        have ev : gv_v C (k + 1) (.node nm 7 x) q = if C.2.2.2 x q = true then (if gv_v C k x q = -1 then 0 else if gv_v C k x q = -2 then -2 else if gv_v C k (.node nm 7 x) (q + (gv_v C k x q).toNat) = -2 then -2 else gv_v C k x q + gv_v C k (.node nm 7 x) (q + (gv_v C k x q).toNat)) else 0 := rfl
        have ec : gv_c C (k + 1) (.node nm 7 x) q = if C.2.2.2 x q = true then (if gv_v C k x q < 0 then 1 + gv_c C k x q else 1 + gv_c C k x q + gv_c C k (.node nm 7 x) (q + (gv_v C k x q).toNat)) else 0 := rfl
        rw [ev] at hv
        rw [ec]
        by_cases z : C.2.2.2 x q = true
        · rw [if_pos z] at hv ⊢
          have vx : gv_v C k x q ≠ -2 := by intro e; rw [e] at hv; exact hv rfl
          have tv := vxx vx
          rw [← tv] at hv ⊢
          rcases e7 kj with ⟨a, -⟩ | ⟨-, -, b⟩
          · exact absurd a (nx z)
          · rcases b with ⟨b, -, c⟩ | ⟨b, -, -, c⟩
            · rw [if_pos (by omega), c, ix vx, gy_cp1 (c0 _), Int.natCast_add]; rfl
            · rw [if_neg (by omega), if_neg (by omega)] at hv
              have vs : gv_v C k (.node nm 7 x) (q + (T (Int32.toNatClampNeg (on m)) q).toNat) ≠ -2 := by intro e; rw [if_pos e] at hv; exact hv rfl
              rw [if_neg (by omega), c, ix vx, ih (.node nm 7 x) m _ hr b1 b2 (by omega) vs, gy_cp3 (c0 _) (c0 _), Int.natCast_add, Int.natCast_add]; rfl
        · rw [if_neg z]
          rcases e7 kj with ⟨-, -, a⟩ | ⟨a, -⟩
          · rw [a]; rfl
          · exact absurd (lx z) a
      · subst q0
        have ev : gv_v C (k + 1) (.node nm 8 x) q = if 0 ≤ gv_v C k x q then 0 else gv_v C k x q := rfl
        have ec : gv_c C (k + 1) (.node nm 8 x) q = 1 + gv_c C k x q := rfl
        rw [ev] at hv
        have vx : gv_v C k x q ≠ -2 := by intro e; rw [e] at hv; exact hv rfl
        rw [ec, (e8 kj).2.1, ix vx, gy_cp1 (c0 _), Int.natCast_add]; rfl
      · subst q0
        have ev : gv_v C (k + 1) (.node nm 9 x) q = if 0 ≤ gv_v C k x q then -1 else if gv_v C k x q = -1 then 0 else -2 := rfl
        have ec : gv_c C (k + 1) (.node nm 9 x) q = 1 + gv_c C k x q := rfl
        rw [ev] at hv
        have vx : gv_v C k x q ≠ -2 := by intro e; rw [e] at hv; exact hv rfl
        rw [ec, (e9 kj).2.1, ix vx, gy_cp1 (c0 _), Int.natCast_add]; rfl
      · subst q0
        have ev : gv_v C (k + 1) (.node nm 10 x) q = gv_v C k x q := rfl
        have ec : gv_c C (k + 1) (.node nm 10 x) q = gv_c C k x q := rfl
        rw [ev] at hv
        rw [ec, (e10 kj).2.2, ix hv, gy_cp0 (c0 _)]
    | binary nm x y =>
      have hr' := hr
      obtain ⟨j45, kj, ch1, ch2, rx, ry⟩ := hr'
      obtain ⟨o1, o2, -⟩ := gp_ch_cl ch1
      obtain ⟨p1, p2, -⟩ := gp_ch_cl ch2
      have ix := ih x (Int32.toNatClampNeg (on m)) q rx o1 (by omega) hq
      have iy := fun q' => ih y (Int32.toNatClampNeg (tw m)) q' ry p1 (by omega)
      have vxx := gy_v hh k x (Int32.toNatClampNeg (on m)) q rx o1 (by omega) hq
      have lx := h6 x (Int32.toNatClampNeg (on m)) q rx o1 (by omega) hq
      have nx := hx x (Int32.toNatClampNeg (on m)) q rx o1 (by omega) hq
      obtain ⟨tx1, tx2, -⟩ := h1 (Int32.toNatClampNeg (on m)) q o1 (by omega) hq
      by_cases h4' : gp_n2 nm = 4
      · have ev : gv_v C (k + 1) (.binary nm x y) q = if gv_v C k x q < 0 then gv_v C k x q else if gv_v C k y (q + (gv_v C k x q).toNat) < 0 then gv_v C k y (q + (gv_v C k x q).toNat) else gv_v C k x q + gv_v C k y (q + (gv_v C k x q).toNat) := if_pos h4'
        have ec : gv_c C (k + 1) (.binary nm x y) q = if gv_v C k x q < 0 then gv_c C k x q else gv_c C k x q + gv_c C k y (q + (gv_v C k x q).toNat) := if_pos h4'
        rw [ev] at hv
        have vx : gv_v C k x q ≠ -2 := by intro e; rw [e] at hv; exact hv rfl
        have tv := vxx vx
        rw [ec]
        rw [← tv] at hv ⊢
        obtain ⟨-, c⟩ := e4 (by rw [kj, h4']; rfl)
        rcases c with ⟨c1, -, c2⟩ | ⟨c1, -, c2, -⟩
        · rw [if_pos (by omega), c2, ix vx, gy_cp0 (c0 _)]
        · rw [if_neg (by omega)] at hv ⊢
          have vy : gv_v C k y (q + (T (Int32.toNatClampNeg (on m)) q).toNat) ≠ -2 := by intro e; rw [e] at hv; exact hv rfl
          rw [c2, ix vx, iy _ (by omega) vy, gy_cp2 (c0 _) (c0 _), Int.natCast_add]
      · have ev : gv_v C (k + 1) (.binary nm x y) q = if C.2.2.2 x q = true then (if gv_v C k x q = -1 then gv_v C k y q else gv_v C k x q) else gv_v C k y q := if_neg h4'
        have ec : gv_c C (k + 1) (.binary nm x y) q = if C.2.2.2 x q = true then (if gv_v C k x q = -1 then 1 + gv_c C k x q + gv_c C k y q else 1 + gv_c C k x q) else gv_c C k y q := if_neg h4'
        have k5 : (kd m).toInt = 5 := by
          rw [kj, j45.resolve_left h4']; rfl
        rw [ev] at hv
        rw [ec]
        by_cases z : C.2.2.2 x q = true
        · rw [if_pos z] at hv ⊢
          have vx : gv_v C k x q ≠ -2 := by intro e; rw [e] at hv; exact hv rfl
          have tv := vxx vx
          rw [← tv] at hv ⊢
          rcases e5 k5 with ⟨-, -, c1, -, c2⟩ | ⟨-, -, c1, -, -, c2⟩ | ⟨c3, -⟩
          · rw [if_neg c1, c2, ix vx, gy_cp1 (c0 _), Int.natCast_add]; rfl
          · rw [if_pos c1] at hv ⊢
            rw [c2, ix vx, iy q hq hv, gy_cp3 (c0 _) (c0 _), Int.natCast_add, Int.natCast_add]; rfl
          · exact absurd c3 (nx z)
        · rw [if_neg z] at hv ⊢
          have o := lx z
          rcases e5 k5 with ⟨c3, -⟩ | ⟨c3, -⟩ | ⟨-, -, -, c2⟩
          · exact absurd o c3
          · exact absurd o c3
          · rw [c2, iy q hq hv, gy_cp0 (c0 _)]
    | _ => exact hr.elim
