/-! Captures: the room that they need. -/
theorem gy_p {kd on tw Mz em : Nat → Int32} {Pg : Nat → Nat → Nat → Prop} {out row : Nat → Nat → Prop} {B P fed : Nat} {T D : Nat → Nat → Int} {C : gv_C} (hT : gy_T kd on tw Mz Pg out row B P fed T D C) {rank : Nat → Nat} (RK : gp_RK kd on tw Mz em B P rank) (hz : ∀ m q, B ≤ m → m < B + P → q ≤ fed → T m q = 0 → em m = 1) : ∀ (k : Nat) (e : Lean.ParserDescr) (m q : Nat), gp_rep Pg B kd on tw e m → B ≤ m → m < B + P → q ≤ fed → gv_v C k e q ≠ -2 → gv_p C k e q ≤ gy_nc kd B P rank m + gp_kc kd B P * (fed - q) := by
  have hvT := gy_v hT
  have hL := gy_L hT RK hz
  obtain ⟨h1, h2, h3, h4, h5, h6⟩ := hT
  intro k
  induction k with
  | zero => intro e m q _ _ _ _ hv; exact absurd rfl hv
  | succ k ih =>
    intro e m q hr b1 b2 hq hv
    obtain ⟨rk3, rk4, rk4e, rk5, rk7⟩ := RK m b1 b2
    cases e with
    | cat nm j =>
      have hr' := hr
      obtain ⟨j3, kj, -⟩ := hr'
      by_cases j2 : j ≤ 2
      · rw [show gv_p C (k + 1) (.cat nm j) q = 0 from if_pos j2]
        exact Nat.zero_le _
      · have e3 : j = 3 := by omega
        subst e3
        have eL : gv_p C (k + 1) (.cat nm 3) q = gv_p C k (C.1 (gp_n1 nm)) q := rfl
        have ev : gv_v C (k + 1) (.cat nm 3) q = gv_v C k (C.1 (gp_n1 nm)) q := rfl
        rw [ev] at hv
        rw [eL]
        obtain ⟨n1, n2, n3⟩ := h5 nm m hr b1 b2
        exact Nat.le_trans (ih _ _ q n3 n1 n2 hq hv) (Nat.add_le_add_right (gy_nc_le (rk3 kj)) _)
    | node nm j x =>
      have hr' := hr
      obtain ⟨j6, kj, ch, rx⟩ := hr'
      obtain ⟨o1, o2, -⟩ := gp_ch_cl ch
      have rl := rk4 (by omega)
      have ix := ih x (Int32.toNatClampNeg (on m)) q rx o1 (by omega) hq
      have lx := hL k x (Int32.toNatClampNeg (on m)) q rx o1 (by omega) hq
      have tx := hvT k x (Int32.toNatClampNeg (on m)) q rx o1 (by omega) hq
      have zx := hz (Int32.toNatClampNeg (on m)) q o1 (by omega) hq
      obtain ⟨-, tx2, -⟩ := h1 (Int32.toNatClampNeg (on m)) q o1 (by omega) hq
      have nl := gy_nc_le (kd := kd) (B := B) (P := P) rl
      have : j = 6 ∨ j = 7 ∨ j = 8 ∨ j = 9 ∨ j = 10 := by omega
      rcases this with q0 | q0 | q0 | q0 | q0
      · subst q0
        have ev : gv_v C (k + 1) (.node nm 6 x) q = if C.2.2.2 x q = true then (if gv_v C k x q = -1 then 0 else gv_v C k x q) else 0 := rfl
        have eL : gv_p C (k + 1) (.node nm 6 x) q = if C.2.2.2 x q = true then gv_p C k x q else 0 := rfl
        rw [ev] at hv
        rw [eL]
        by_cases z : C.2.2.2 x q = true
        · rw [if_pos z] at hv
          rw [if_pos z]
          have vx : gv_v C k x q ≠ -2 := by intro e; rw [e] at hv; exact hv rfl
          exact Nat.le_trans (ix vx) (Nat.add_le_add_right nl _)
        · rw [if_neg z]; exact Nat.zero_le _
      · subst q0
        have ev : gv_v C (k + 1) (.node nm 7 x) q = if C.2.2.2 x q = true then (if gv_v C k x q = -1 then 0 else if gv_v C k x q = -2 then -2 else if gv_v C k (.node nm 7 x) (q + (gv_v C k x q).toNat) = -2 then -2 else gv_v C k x q + gv_v C k (.node nm 7 x) (q + (gv_v C k x q).toNat)) else 0 := rfl
        have eL : gv_p C (k + 1) (.node nm 7 x) q = if C.2.2.2 x q = true then (if gv_v C k x q < 0 then gv_p C k x q else max (gv_p C k x q) ((gv_L C k x q).length + gv_p C k (.node nm 7 x) (q + (gv_v C k x q).toNat))) else 0 := rfl
        rw [ev] at hv
        rw [eL]
        by_cases z : C.2.2.2 x q = true
        · rw [if_pos z] at hv
          rw [if_pos z]
          have vx : gv_v C k x q ≠ -2 := by intro e; rw [e] at hv; exact hv rfl
          have ix := ix vx
          by_cases y : gv_v C k x q < 0
          · rw [if_pos y]; exact Nat.le_trans ix (Nat.add_le_add_right nl _)
          · rw [if_neg y]
            rw [if_neg (show ¬ gv_v C k x q = -1 by omega), if_neg vx] at hv
            have vs : gv_v C k (.node nm 7 x) (q + (gv_v C k x q).toNat) ≠ -2 := by intro e; rw [if_pos e] at hv; exact hv rfl
            have tx := tx vx
            have lx := lx (by omega)
            have is := ih (.node nm 7 x) m _ hr b1 b2 (by omega) vs
            refine Nat.max_le.mpr ⟨Nat.le_trans ix (Nat.add_le_add_right nl _), ?_⟩
            exact Nat.le_trans (Nat.add_le_add lx is) (gy_ev_r (by omega) (by omega) nl (fun _ => Nat.le_refl _) (gy_nc_b kd B P rank m))
        · rw [if_neg z]; exact Nat.zero_le _
      · subst q0
        have ev : gv_v C (k + 1) (.node nm 8 x) q = if 0 ≤ gv_v C k x q then 0 else gv_v C k x q := rfl
        rw [ev] at hv
        have vx : gv_v C k x q ≠ -2 := by intro e; rw [e] at hv; exact hv rfl
        exact Nat.le_trans (ix vx) (Nat.add_le_add_right nl _)
      · subst q0
        have ev : gv_v C (k + 1) (.node nm 9 x) q = if 0 ≤ gv_v C k x q then -1 else if gv_v C k x q = -1 then 0 else -2 := rfl
        rw [ev] at hv
        have vx : gv_v C k x q ≠ -2 := by intro e; rw [e] at hv; exact hv rfl
        exact Nat.le_trans (ix vx) (Nat.add_le_add_right nl _)
      · subst q0
        have ev : gv_v C (k + 1) (.node nm 10 x) q = gv_v C k x q := rfl
        have eL : gv_p C (k + 1) (.node nm 10 x) q = 1 + gv_p C k x q := rfl
        rw [ev] at hv
        rw [eL]
        have l := gy_nc_lt (kd := kd) rl b1 b2 kj
        have ix := ix hv
        omega
    | binary nm x y =>
      have hr' := hr
      obtain ⟨j45, kj, ch1, ch2, rx, ry⟩ := hr'
      obtain ⟨o1, o2, -⟩ := gp_ch_cl ch1
      obtain ⟨p1, p2, -⟩ := gp_ch_cl ch2
      have rl := rk4 (by omega)
      have nl := gy_nc_le (kd := kd) (B := B) (P := P) rl
      have ix := ih x (Int32.toNatClampNeg (on m)) q rx o1 (by omega) hq
      have lx := hL k x (Int32.toNatClampNeg (on m)) q rx o1 (by omega) hq
      have tx := hvT k x (Int32.toNatClampNeg (on m)) q rx o1 (by omega) hq
      have zx := hz (Int32.toNatClampNeg (on m)) q o1 (by omega) hq
      obtain ⟨-, tx2, -⟩ := h1 (Int32.toNatClampNeg (on m)) q o1 (by omega) hq
      by_cases n4 : gp_n2 nm = 4
      · have ev : gv_v C (k + 1) (.binary nm x y) q = if gv_v C k x q < 0 then gv_v C k x q else if gv_v C k y (q + (gv_v C k x q).toNat) < 0 then gv_v C k y (q + (gv_v C k x q).toNat) else gv_v C k x q + gv_v C k y (q + (gv_v C k x q).toNat) := if_pos n4
        have eL : gv_p C (k + 1) (.binary nm x y) q = if gv_v C k x q < 0 then gv_p C k x q else max (gv_p C k x q) ((gv_L C k x q).length + gv_p C k y (q + (gv_v C k x q).toNat)) := if_pos n4
        rw [ev] at hv
        rw [eL]
        by_cases a : gv_v C k x q < 0
        · rw [if_pos a] at hv
          rw [if_pos a]
          exact Nat.le_trans (ix hv) (Nat.add_le_add_right nl _)
        · rw [if_neg a] at hv
          rw [if_neg a]
          have tx := tx (by omega)
          have vy : gv_v C k y (q + (gv_v C k x q).toNat) ≠ -2 := by intro e; rw [if_pos (by omega), e] at hv; exact hv rfl
          have iy := ih y (Int32.toNatClampNeg (tw m)) (q + (gv_v C k x q).toNat) ry p1 (by omega) (by omega) vy
          refine Nat.max_le.mpr ⟨Nat.le_trans (ix (by omega)) (Nat.add_le_add_right nl _), ?_⟩
          exact Nat.le_trans (Nat.add_le_add (lx (by omega)) iy) (gy_ev_r (by omega) (by omega) nl (fun e0 => gy_nc_le (rk4e (by omega) (zx (by rw [tx]; exact e0)))) (gy_nc_b kd B P rank _))
      · have rl2 := gy_nc_le (kd := kd) (B := B) (P := P) (rk5 (by omega))
        have iy := ih y (Int32.toNatClampNeg (tw m)) q ry p1 (by omega) hq
        have ev : gv_v C (k + 1) (.binary nm x y) q = if C.2.2.2 x q = true then (if gv_v C k x q = -1 then gv_v C k y q else gv_v C k x q) else gv_v C k y q := if_neg n4
        have eL : gv_p C (k + 1) (.binary nm x y) q = if C.2.2.2 x q = true then (if gv_v C k x q = -1 then max (gv_p C k x q) (gv_p C k y q) else gv_p C k x q) else gv_p C k y q := if_neg n4
        rw [ev] at hv
        rw [eL]
        by_cases z : C.2.2.2 x q = true
        · rw [if_pos z] at hv
          rw [if_pos z]
          by_cases w : gv_v C k x q = -1
          · rw [if_pos w] at hv
            rw [if_pos w]
            exact Nat.max_le.mpr ⟨Nat.le_trans (ix (by omega)) (Nat.add_le_add_right nl _), Nat.le_trans (iy hv) (Nat.add_le_add_right rl2 _)⟩
          · rw [if_neg w] at hv
            rw [if_neg w]
            exact Nat.le_trans (ix hv) (Nat.add_le_add_right nl _)
        · rw [if_neg z] at hv
          rw [if_neg z]
          exact Nat.le_trans (iy hv) (Nat.add_le_add_right rl2 _)
    | _ => exact absurd hr (fun h => h)
/-- the room in the captures -/
theorem gy_p275 {kd on tw Mz em : Nat → Int32} {Pg : Nat → Nat → Nat → Prop} {out row : Nat → Nat → Prop} {B P fed : Nat} {T D : Nat → Nat → Int} {C : gv_C} (hT : gy_T kd on tw Mz Pg out row B P fed T D C) {rank : Nat → Nat} (RK : gp_RK kd on tw Mz em B P rank) (hz : ∀ m q, B ≤ m → m < B + P → q ≤ fed → T m q = 0 → em m = 1) {R : Nat} (hR : 1 ≤ R) (hN : 2 * gp_kc kd B P + 3 * R ≤ 50) (hf : fed ≤ 10) (k : Nat) (e : Lean.ParserDescr) (m q : Nat) (hr : gp_rep Pg B kd on tw e m) (b1 : B ≤ m) (b2 : m < B + P) (hq : q ≤ fed) (hv : gv_v C k e q ≠ -2) : gv_p C k e q ≤ 275 := by
  have a := gy_p hT RK hz k e m q hr b1 b2 hq hv
  have b := gy_nc_b kd B P rank m
  have c := Nat.mul_le_mul (show gp_kc kd B P ≤ 23 by omega) (show fed - q ≤ 10 by omega)
  omega
/-- what a rule can bring at a place -/
theorem gy_LW {kd on tw Mz em : Nat → Int32} {Pg : Nat → Nat → Nat → Prop} {out row : Nat → Nat → Prop} {B P fed : Nat} {T D : Nat → Nat → Int} {C : gv_C} (hT : gy_T kd on tw Mz Pg out row B P fed T D C) {rank : Nat → Nat} (RK : gp_RK kd on tw Mz em B P rank) (hz : ∀ m q, B ≤ m → m < B + P → q ≤ fed → T m q = 0 → em m = 1) (k : Nat) (e : Lean.ParserDescr) (m q : Nat) (hr : gp_rep Pg B kd on tw e m) (b1 : B ≤ m) (b2 : m < B + P) (hq : q ≤ fed) (hv : 0 ≤ gv_v C k e q) : (gv_L C k e q).length ≤ gp_kc kd B P * (fed - q) := by
  have a := gy_L hT RK hz k e m q hr b1 b2 hq hv
  have t := gy_v hT k e m q hr b1 b2 hq (by omega)
  obtain ⟨-, t2, -⟩ := hT.1 m q b1 b2 hq
  exact Nat.le_trans a (gy_ev_b (gy_nc_b kd B P rank m) (by omega))
theorem gy_su11 (g : Nat → Nat) (W : Nat) (h : ∀ n, gv_su (fun _ => true) (fun i => g (i % 11)) (11 * (n + 1)) = gv_su (fun _ => true) (fun i => g (i % 11)) (11 * n) + W) : ∀ n, gv_su (fun _ => true) (fun i => g (i % 11)) (11 * n) = n * W := by
  intro n
  induction n with
  | zero => rw [Nat.zero_mul]; rfl
  | succ n ih => rw [h, ih, Nat.succ_mul]
theorem gy_su11s (g : Nat → Nat) (n : Nat) : gv_su (fun _ => true) (fun i => g (i % 11)) (11 * (n + 1)) = gv_su (fun _ => true) (fun i => g (i % 11)) (11 * n) + (g 0 + g 1 + g 2 + g 3 + g 4 + g 5 + g 6 + g 7 + g 8 + g 9 + g 10) := by
  have e : ∀ m, gv_su (fun _ => true) (fun i => g (i % 11)) (m + 1) = gv_su (fun _ => true) (fun i => g (i % 11)) m + g (m % 11) := fun m => rfl
  rw [show 11 * (n + 1) = 11 * n + 10 + 1 by omega, e, show 11 * n + 10 = 11 * n + 9 + 1 by omega, e, show 11 * n + 9 = 11 * n + 8 + 1 by omega, e, show 11 * n + 8 = 11 * n + 7 + 1 by omega, e, show 11 * n + 7 = 11 * n + 6 + 1 by omega, e, show 11 * n + 6 = 11 * n + 5 + 1 by omega, e, show 11 * n + 5 = 11 * n + 4 + 1 by omega, e, show 11 * n + 4 = 11 * n + 3 + 1 by omega, e, show 11 * n + 3 = 11 * n + 2 + 1 by omega, e, show 11 * n + 2 = 11 * n + 1 + 1 by omega, e, e]
  rw [show 11 * n % 11 = 0 by omega, show (11 * n + 1) % 11 = 1 by omega, show (11 * n + 1 + 1) % 11 = 2 by omega, show (11 * n + 2 + 1) % 11 = 3 by omega, show (11 * n + 3 + 1) % 11 = 4 by omega, show (11 * n + 4 + 1) % 11 = 5 by omega, show (11 * n + 5 + 1) % 11 = 6 by omega, show (11 * n + 6 + 1) % 11 = 7 by omega, show (11 * n + 7 + 1) % 11 = 8 by omega, show (11 * n + 8 + 1) % 11 = 9 by omega, show (11 * n + 9 + 1) % 11 = 10 by omega]
  omega
/-- all that is kept -/
theorem gy_W5720 {N R fed : Nat} (hR : R ≤ 8) (hN : 2 * N + 3 * R ≤ 50) (hf : fed ≤ 10) : gv_su (fun _ => true) (fun i => N * (fed - i % 11)) (11 * R) ≤ 5720 := by
  have a := gy_su11 (fun p => N * (fed - p)) _ (gy_su11s (fun p => N * (fed - p))) R
  have a : gv_su (fun _ => true) (fun i => N * (fed - i % 11)) (11 * R) = R * (N * (fed - 0) + N * (fed - 1) + N * (fed - 2) + N * (fed - 3) + N * (fed - 4) + N * (fed - 5) + N * (fed - 6) + N * (fed - 7) + N * (fed - 8) + N * (fed - 9) + N * (fed - 10)) := a
  rw [a]
  have b : ∀ p, N * (fed - p) ≤ N * (10 - p) := fun p => Nat.mul_le_mul_left N (by omega)
  have c : N * (fed - 0) + N * (fed - 1) + N * (fed - 2) + N * (fed - 3) + N * (fed - 4) + N * (fed - 5) + N * (fed - 6) + N * (fed - 7) + N * (fed - 8) + N * (fed - 9) + N * (fed - 10) ≤ 55 * N := by
    have := b 0; have := b 1; have := b 2; have := b 3; have := b 4; have := b 5; have := b 6; have := b 7; have := b 8; have := b 9; have := b 10
    omega
  have d := Nat.mul_le_mul_left R c
  have : R = 0 ∨ R = 1 ∨ R = 2 ∨ R = 3 ∨ R = 4 ∨ R = 5 ∨ R = 6 ∨ R = 7 ∨ R = 8 := by omega
  rcases this with e | e | e | e | e | e | e | e | e <;> subst e <;> omega
