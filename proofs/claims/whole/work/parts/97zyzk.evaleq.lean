/-! The evaluations of both sides are as many. -/
/-- what is evaluated below an expression -/
def gc_J (Pg : Nat → Nat → Nat → Prop) (kd on tw : Nat → Int32) (B : Nat) (C : gv_C) (u : Nat → Nat) (L0 : List (Nat × Nat)) (m q : Nat) : Prop := ∃ k e, gp_rep Pg B kd on tw e m ∧ gv_v C k e q ≠ -2 ∧ ∀ z, z ∈ gv_r C u k e q → z ∈ L0
theorem gc_J_cl {S : gm_S} {P fed : Nat} {Pg : Nat → Nat → Nat → Prop} {C : gv_C} (hT : gy_T (S.1 10) (S.1 11) (S.1 12) (gp_Mz S) Pg (gp_So S fed) (gp_Sr S fed) (gp_Bs S) P fed (gp_Tb (gp_Bs S) (S.1 34)) (gp_Tb (gp_Bs S) (S.1 35)) C) (hl : ∀ x q, C.2.2.2 x q = true) (u : Nat → Nat) (L0 : List (Nat × Nat)) (m q : Nat) (b1 : gp_Bs S ≤ m) (b2 : m < gp_Bs S + P) (hq : q ≤ fed) (h : gc_J Pg (S.1 10) (S.1 11) (S.1 12) (gp_Bs S) C u L0 m q) : gc_sj S (gc_J Pg (S.1 10) (S.1 11) (S.1 12) (gp_Bs S) C u L0) m q := by
  have hvT := gy_v hT
  obtain ⟨h1, h2, h3, h4, h5, h6⟩ := hT
  obtain ⟨k, e, hr, hv, hz⟩ := h
  cases k with
  | zero => exact absurd rfl hv
  | succ k =>
    cases e with
    | cat nm j =>
      have hr' := hr
      obtain ⟨j3, kj, -⟩ := hr'
      refine ⟨fun k3 => ?_, fun k => absurd k (by omega), fun k => absurd k (by omega), fun k => absurd k (by omega), fun k => absurd k (by omega)⟩
      have e3 : j = 3 := by omega
      subst e3
      obtain ⟨n1, n2, n3⟩ := h5 nm m hr b1 b2
      exact ⟨k, _, n3, hv, fun z hz' => hz z (List.mem_cons_of_mem _ hz')⟩
    | node nm j x =>
      have hr' := hr
      obtain ⟨j6, kj, ch, rx⟩ := hr'
      obtain ⟨o1, o2, -⟩ := gp_ch_cl ch
      have tx := hvT k x (Int32.toNatClampNeg (S.1 11 m)) q rx o1 (by omega) hq
      have lx := hl x q
      have hx : gv_v C k x q ≠ -2 ∧ (∀ z, z ∈ gv_r C u k x q → z ∈ L0) ∧ (j = 7 → 0 ≤ gv_v C k x q → gv_v C k (.node nm j x) (q + (gv_v C k x q).toNat) ≠ -2 ∧ ∀ z, z ∈ gv_r C u k (.node nm j x) (q + (gv_v C k x q).toNat) → z ∈ L0) := by
        have : j = 6 ∨ j = 7 ∨ j = 8 ∨ j = 9 ∨ j = 10 := by omega
        rcases this with q0 | q0 | q0 | q0 | q0
        · subst q0
          have ev : gv_v C (k + 1) (.node nm 6 x) q = if C.2.2.2 x q = true then (if gv_v C k x q = -1 then 0 else gv_v C k x q) else 0 := rfl
          have er : gv_r C u (k + 1) (.node nm 6 x) q = if C.2.2.2 x q = true then gv_r C u k x q else [] := rfl
          rw [ev, if_pos lx] at hv
          rw [er, if_pos lx] at hz
          exact ⟨by intro e; rw [e] at hv; exact hv rfl, hz, fun e => absurd e (by decide)⟩
        · subst q0
          have ev : gv_v C (k + 1) (.node nm 7 x) q = if C.2.2.2 x q = true then (if gv_v C k x q = -1 then 0 else if gv_v C k x q = -2 then -2 else if gv_v C k (.node nm 7 x) (q + (gv_v C k x q).toNat) = -2 then -2 else gv_v C k x q + gv_v C k (.node nm 7 x) (q + (gv_v C k x q).toNat)) else 0 := rfl
          have er : gv_r C u (k + 1) (.node nm 7 x) q = if C.2.2.2 x q = true then (if gv_v C k x q < 0 then gv_r C u k x q else gv_r C u k x q ++ gv_r C u k (.node nm 7 x) (q + (gv_v C k x q).toNat)) else [] := rfl
          rw [ev, if_pos lx] at hv
          rw [er, if_pos lx] at hz
          refine ⟨by intro e; rw [e] at hv; exact hv rfl, fun z w => ?_, fun _ v0 => ⟨?_, fun z w => ?_⟩⟩
          · by_cases c : gv_v C k x q < 0
            · rw [if_pos c] at hz; exact hz z w
            · rw [if_neg c] at hz; exact hz z (List.mem_append_left _ w)
          · intro e
            rw [if_neg (show ¬ gv_v C k x q = -1 by omega), if_neg (show ¬ gv_v C k x q = -2 by omega), if_pos e] at hv
            exact hv rfl
          · rw [if_neg (show ¬ gv_v C k x q < 0 by omega)] at hz
            exact hz z (List.mem_append_right _ w)
        · subst q0
          have ev : gv_v C (k + 1) (.node nm 8 x) q = if 0 ≤ gv_v C k x q then 0 else gv_v C k x q := rfl
          rw [ev] at hv
          exact ⟨by intro e; rw [e] at hv; exact hv rfl, hz, fun e => absurd e (by decide)⟩
        · subst q0
          have ev : gv_v C (k + 1) (.node nm 9 x) q = if 0 ≤ gv_v C k x q then -1 else if gv_v C k x q = -1 then 0 else -2 := rfl
          rw [ev] at hv
          exact ⟨by intro e; rw [e] at hv; exact hv rfl, hz, fun e => absurd e (by decide)⟩
        · subst q0
          exact ⟨hv, hz, fun e => absurd e (by decide)⟩
      obtain ⟨hx1, hx2, hx3⟩ := hx
      have tx := tx hx1
      refine ⟨fun k => absurd k (by omega), fun _ => ⟨k, x, rx, hx1, hx2⟩, fun k => absurd k (by omega), fun k => absurd k (by omega), fun k7 tp => ?_⟩
      obtain ⟨a, b⟩ := hx3 (by omega) (by omega)
      rw [tx]
      exact ⟨k, .node nm j x, hr, a, b⟩
    | binary nm x y =>
      have hr' := hr
      obtain ⟨j45, kj, ch1, ch2, rx, ry⟩ := hr'
      obtain ⟨o1, o2, -⟩ := gp_ch_cl ch1
      have tx := hvT k x (Int32.toNatClampNeg (S.1 11 m)) q rx o1 (by omega) hq
      have lx := hl x q
      by_cases n4 : gp_n2 nm = 4
      · have ev : gv_v C (k + 1) (.binary nm x y) q = if gv_v C k x q < 0 then gv_v C k x q else if gv_v C k y (q + (gv_v C k x q).toNat) < 0 then gv_v C k y (q + (gv_v C k x q).toNat) else gv_v C k x q + gv_v C k y (q + (gv_v C k x q).toNat) := if_pos n4
        have er : gv_r C u (k + 1) (.binary nm x y) q = if gv_v C k x q < 0 then gv_r C u k x q else gv_r C u k x q ++ gv_r C u k y (q + (gv_v C k x q).toNat) := if_pos n4
        rw [ev] at hv
        rw [er] at hz
        have hx1 : gv_v C k x q ≠ -2 := by intro e; rw [e] at hv; exact hv rfl
        have tx := tx hx1
        refine ⟨fun k => absurd k (by omega), fun _ => ⟨k, x, rx, hx1, fun z w => ?_⟩, fun _ tp => ?_, fun k => absurd k (by omega), fun k => absurd k (by omega)⟩
        · by_cases c : gv_v C k x q < 0
          · rw [if_pos c] at hz; exact hz z w
          · rw [if_neg c] at hz; exact hz z (List.mem_append_left _ w)
        · have c : ¬ gv_v C k x q < 0 := by omega
          rw [if_neg c] at hz hv
          rw [tx]
          exact ⟨k, y, ry, by intro e; rw [if_pos (by omega), e] at hv; exact hv rfl, fun z w => hz z (List.mem_append_right _ w)⟩
      · have ev : gv_v C (k + 1) (.binary nm x y) q = if C.2.2.2 x q = true then (if gv_v C k x q = -1 then gv_v C k y q else gv_v C k x q) else gv_v C k y q := if_neg n4
        have er : gv_r C u (k + 1) (.binary nm x y) q = if C.2.2.2 x q = true then (if gv_v C k x q = -1 then gv_r C u k x q ++ gv_r C u k y q else gv_r C u k x q) else gv_r C u k y q := if_neg n4
        rw [ev, if_pos lx] at hv
        rw [er, if_pos lx] at hz
        have hx1 : gv_v C k x q ≠ -2 := by
          intro e
          rw [e, if_neg (by decide)] at hv
          exact hv rfl
        have tx := tx hx1
        refine ⟨fun k => absurd k (by omega), fun _ => ⟨k, x, rx, hx1, fun z w => ?_⟩, fun k => absurd k (by omega), fun _ tm => ?_, fun k => absurd k (by omega)⟩
        · by_cases c : gv_v C k x q = -1
          · rw [if_pos c] at hz; exact hz z (List.mem_append_left _ w)
          · rw [if_neg c] at hz; exact hz z w
        · have c : gv_v C k x q = -1 := by omega
          rw [if_pos c] at hz hv
          exact ⟨k, y, ry, hv, fun z w => hz z (List.mem_append_right _ w)⟩
    | _ => exact absurd hr (fun h => h)
/-- what the expressions evaluate is met -/
theorem gc_met {S : gm_S} {P fed : Nat} {Pg : Nat → Nat → Nat → Prop} {C : gv_C} (hT : gy_T (S.1 10) (S.1 11) (S.1 12) (gp_Mz S) Pg (gp_So S fed) (gp_Sr S fed) (gp_Bs S) P fed (gp_Tb (gp_Bs S) (S.1 34)) (gp_Tb (gp_Bs S) (S.1 35)) C) (hl : ∀ x q, C.2.2.2 x q = true) (hz0 : ∀ m q, gp_Bs S ≤ m → m < gp_Bs S + P → q ≤ fed → (S.1 10 m).toInt = 7 → ¬ gp_Tb (gp_Bs S) (S.1 34) (Int32.toNatClampNeg (S.1 11 m)) q = 0) {u : Nat → Nat} (hu : ∀ n c : Nat, gp_Bs S ≤ n → n < gp_Bs S + P → (S.1 10 n).toInt = 3 → (S.1 11 n).toInt = c → (gp_rz (S.1 6) (S.1 7) (S.2.2 4) (S.1 11 n)).toInt = ((u c : Nat) : Int)) {a36 : Nat → Int32} (hcl : ∀ m q, gp_Bs S ≤ m → m < gp_Bs S + P → q ≤ fed → ¬ a36 (11 * (m - gp_Bs S) + q) = 0 → gc_su S a36 m q) : ∀ (k : Nat) (e : Lean.ParserDescr) (m q : Nat), gp_rep Pg (gp_Bs S) (S.1 10) (S.1 11) (S.1 12) e m → gp_Bs S ≤ m → m < gp_Bs S + P → q ≤ fed → gv_v C k e q ≠ -2 → ¬ a36 (11 * (m - gp_Bs S) + q) = 0 → ∀ z, z ∈ gv_r C u k e q → z.2 ≤ fed ∧ ∃ n, gp_Bs S ≤ n ∧ n < gp_Bs S + P ∧ (S.1 10 n).toInt = 3 ∧ (gp_rz (S.1 6) (S.1 7) (S.2.2 4) (S.1 11 n)).toInt = ((z.1 : Nat) : Int) ∧ ¬ a36 (11 * (n - gp_Bs S) + z.2) = 0 := by
  have hvT := gy_v hT
  obtain ⟨h1, h2, h3, h4, h5, h6⟩ := hT
  intro k
  induction k with
  | zero => intro e m q _ _ _ _ hv; exact absurd rfl hv
  | succ k ih =>
    intro e m q hr b1 b2 hq hv hm z hz
    obtain ⟨c3, c4, cp, cc, cs⟩ := hcl m q b1 b2 hq hm
    obtain ⟨c3, -⟩ : ∃ _ : Unit → ((S.1 10 m).toInt = 3 → ¬ a36 (11 * (Int32.toNatClampNeg (gp_Mz S m) - gp_Bs S) + q) = 0), True := ⟨fun _ => c3, trivial⟩
    obtain ⟨c4, -⟩ : ∃ _ : Unit → (4 ≤ (S.1 10 m).toInt → ¬ a36 (11 * (Int32.toNatClampNeg (S.1 11 m) - gp_Bs S) + q) = 0), True := ⟨fun _ => c4, trivial⟩
    obtain ⟨cp, -⟩ : ∃ _ : Unit → ((S.1 10 m).toInt = 4 → 0 ≤ gp_Tb (gp_Bs S) (S.1 34) (Int32.toNatClampNeg (S.1 11 m)) q → ¬ a36 (11 * (Int32.toNatClampNeg (S.1 12 m) - gp_Bs S) + (q + (gp_Tb (gp_Bs S) (S.1 34) (Int32.toNatClampNeg (S.1 11 m)) q).toNat)) = 0), True := ⟨fun _ => cp, trivial⟩
    obtain ⟨cc, -⟩ : ∃ _ : Unit → ((S.1 10 m).toInt = 5 → gp_Tb (gp_Bs S) (S.1 34) (Int32.toNatClampNeg (S.1 11 m)) q = -1 → ¬ a36 (11 * (Int32.toNatClampNeg (S.1 12 m) - gp_Bs S) + q) = 0), True := ⟨fun _ => cc, trivial⟩
    obtain ⟨cs, -⟩ : ∃ _ : Unit → ((S.1 10 m).toInt = 7 → 0 < gp_Tb (gp_Bs S) (S.1 34) (Int32.toNatClampNeg (S.1 11 m)) q → ¬ a36 (11 * (m - gp_Bs S) + (q + (gp_Tb (gp_Bs S) (S.1 34) (Int32.toNatClampNeg (S.1 11 m)) q).toNat)) = 0), True := ⟨fun _ => cs, trivial⟩
    cases e with
    | cat nm j =>
      have hr' := hr
      obtain ⟨j3, kj, -, r3, -⟩ := hr'
      by_cases j2 : j ≤ 2
      · have er : gv_r C u (k + 1) (.cat nm j) q = [] := if_pos j2
        rw [er] at hz; cases hz
      · have e3 : j = 3 := by omega
        subst e3
        have er : gv_r C u (k + 1) (.cat nm 3) q = (u (gp_n1 nm), q) :: gv_r C u k (C.1 (gp_n1 nm)) q := rfl
        rw [er] at hz
        obtain ⟨n1, n2, n3⟩ := h5 nm m hr b1 b2
        rcases List.mem_cons.mp hz with w | w
        · rw [w]
          exact ⟨hq, m, b1, b2, kj, hu m (gp_n1 nm) b1 b2 kj (r3 rfl), hm⟩
        · exact ih _ _ q n3 n1 n2 hq hv (c3 () kj) z w
    | node nm j x =>
      have hr' := hr
      obtain ⟨j6, kj, ch, rx⟩ := hr'
      obtain ⟨o1, o2, -⟩ := gp_ch_cl ch
      have tx := hvT k x (Int32.toNatClampNeg (S.1 11 m)) q rx o1 (by omega) hq
      have lx := hl x q
      have cx := c4 () (by omega)
      obtain ⟨-, tle, -⟩ := h1 (Int32.toNatClampNeg (S.1 11 m)) q o1 (by omega) hq
      have ix := ih x (Int32.toNatClampNeg (S.1 11 m)) q rx o1 (by omega) hq
      have : j = 6 ∨ j = 7 ∨ j = 8 ∨ j = 9 ∨ j = 10 := by omega
      rcases this with q0 | q0 | q0 | q0 | q0
      · subst q0
        have ev : gv_v C (k + 1) (.node nm 6 x) q = if C.2.2.2 x q = true then (if gv_v C k x q = -1 then 0 else gv_v C k x q) else 0 := rfl
        have er : gv_r C u (k + 1) (.node nm 6 x) q = if C.2.2.2 x q = true then gv_r C u k x q else [] := rfl
        rw [ev, if_pos lx] at hv
        rw [er, if_pos lx] at hz
        exact ix (by intro e; rw [e] at hv; exact hv rfl) cx z hz
      · subst q0
        have ev : gv_v C (k + 1) (.node nm 7 x) q = if C.2.2.2 x q = true then (if gv_v C k x q = -1 then 0 else if gv_v C k x q = -2 then -2 else if gv_v C k (.node nm 7 x) (q + (gv_v C k x q).toNat) = -2 then -2 else gv_v C k x q + gv_v C k (.node nm 7 x) (q + (gv_v C k x q).toNat)) else 0 := rfl
        have er : gv_r C u (k + 1) (.node nm 7 x) q = if C.2.2.2 x q = true then (if gv_v C k x q < 0 then gv_r C u k x q else gv_r C u k x q ++ gv_r C u k (.node nm 7 x) (q + (gv_v C k x q).toNat)) else [] := rfl
        rw [ev, if_pos lx] at hv
        rw [er, if_pos lx] at hz
        have hx1 : gv_v C k x q ≠ -2 := by intro e; rw [e] at hv; exact hv rfl
        by_cases c : gv_v C k x q < 0
        · rw [if_pos c] at hz
          exact ix hx1 cx z hz
        · rw [if_neg c] at hz
          rcases List.mem_append.mp hz with w | w
          · exact ix hx1 cx z w
          · have tx := tx hx1
            have nz := hz0 m q b1 b2 hq kj
            have hs : gv_v C k (.node nm 7 x) (q + (gv_v C k x q).toNat) ≠ -2 := by
              intro e
              rw [if_neg (show ¬ gv_v C k x q = -1 by omega), if_neg hx1, if_pos e] at hv
              exact hv rfl
            have cs := cs () kj (by omega)
            rw [tx] at cs
            exact ih (.node nm 7 x) m (q + (gv_v C k x q).toNat) hr b1 b2 (by omega) hs cs z w
      · subst q0
        have ev : gv_v C (k + 1) (.node nm 8 x) q = if 0 ≤ gv_v C k x q then 0 else gv_v C k x q := rfl
        rw [ev] at hv
        exact ix (by intro e; rw [e] at hv; exact hv rfl) cx z hz
      · subst q0
        have ev : gv_v C (k + 1) (.node nm 9 x) q = if 0 ≤ gv_v C k x q then -1 else if gv_v C k x q = -1 then 0 else -2 := rfl
        rw [ev] at hv
        exact ix (by intro e; rw [e] at hv; exact hv rfl) cx z hz
      · subst q0
        exact ix hv cx z hz
    | binary nm x y =>
      have hr' := hr
      obtain ⟨j45, kj, ch1, ch2, rx, ry⟩ := hr'
      obtain ⟨o1, o2, -⟩ := gp_ch_cl ch1
      obtain ⟨p1, p2, -⟩ := gp_ch_cl ch2
      have tx := hvT k x (Int32.toNatClampNeg (S.1 11 m)) q rx o1 (by omega) hq
      have lx := hl x q
      have cx := c4 () (by omega)
      obtain ⟨-, tle, -⟩ := h1 (Int32.toNatClampNeg (S.1 11 m)) q o1 (by omega) hq
      have ix := ih x (Int32.toNatClampNeg (S.1 11 m)) q rx o1 (by omega) hq
      by_cases n4 : gp_n2 nm = 4
      · have ev : gv_v C (k + 1) (.binary nm x y) q = if gv_v C k x q < 0 then gv_v C k x q else if gv_v C k y (q + (gv_v C k x q).toNat) < 0 then gv_v C k y (q + (gv_v C k x q).toNat) else gv_v C k x q + gv_v C k y (q + (gv_v C k x q).toNat) := if_pos n4
        have er : gv_r C u (k + 1) (.binary nm x y) q = if gv_v C k x q < 0 then gv_r C u k x q else gv_r C u k x q ++ gv_r C u k y (q + (gv_v C k x q).toNat) := if_pos n4
        rw [ev] at hv
        rw [er] at hz
        have hx1 : gv_v C k x q ≠ -2 := by intro e; rw [e] at hv; exact hv rfl
        by_cases c : gv_v C k x q < 0
        · rw [if_pos c] at hz
          exact ix hx1 cx z hz
        · rw [if_neg c] at hz hv
          rcases List.mem_append.mp hz with w | w
          · exact ix hx1 cx z w
          · have tx := tx hx1
            have cp := cp () (by omega) (by omega)
            rw [tx] at cp
            exact ih y (Int32.toNatClampNeg (S.1 12 m)) (q + (gv_v C k x q).toNat) ry p1 (by omega) (by omega) (by intro e; rw [if_pos (by omega), e] at hv; exact hv rfl) cp z w
      · have ev : gv_v C (k + 1) (.binary nm x y) q = if C.2.2.2 x q = true then (if gv_v C k x q = -1 then gv_v C k y q else gv_v C k x q) else gv_v C k y q := if_neg n4
        have er : gv_r C u (k + 1) (.binary nm x y) q = if C.2.2.2 x q = true then (if gv_v C k x q = -1 then gv_r C u k x q ++ gv_r C u k y q else gv_r C u k x q) else gv_r C u k y q := if_neg n4
        rw [ev, if_pos lx] at hv
        rw [er, if_pos lx] at hz
        have hx1 : gv_v C k x q ≠ -2 := by
          intro e
          rw [e, if_neg (by decide)] at hv
          exact hv rfl
        by_cases c : gv_v C k x q = -1
        · rw [if_pos c] at hz hv
          rcases List.mem_append.mp hz with w | w
          · exact ix hx1 cx z w
          · have tx := tx hx1
            exact ih y (Int32.toNatClampNeg (S.1 12 m)) q ry p1 (by omega) hq hv (cc () (by omega) (by omega)) z w
        · rw [if_neg c] at hz
          exact ix hx1 cx z hz
    | _ => exact absurd hr (fun h => h)
