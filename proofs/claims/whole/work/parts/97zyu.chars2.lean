/-! Steps and characters: each expression. -/
theorem gj_T_of {f : Nat → Int × Lean.ParserDescr} {R : Nat} {em : Lean.ParserDescr → Bool} (hem : ∀ e, em e = true ↔ gq_em (gq_EL f R) e) {ph : Nat → Nat} {u : Nat} (hu : 4 ≤ u) (hp : ∀ c : Nat, gq_fx f (c : Int) R < R → 2 + ph c ≤ u) : ∀ e : Lean.ParserDescr, gv_wf f R e → gj_T em ph u e := by
  have L1 := gj_L1 hem
  intro e
  induction e with
  | cat nm j =>
    intro h
    have h0 := h
    obtain ⟨h1, h2, h3⟩ := h
    have sb : ∀ x, x ∈ gp_sb (.cat nm j) → x = .cat nm j := fun x hx => List.mem_singleton.mp hx
    have eD : gj_D em ph (.cat nm j) = if j = 0 then 0 else if j = 1 then gp_n2 nm else if j = 2 then 1 else 2 + ph (gp_n1 nm) := rfl
    have eZ : gj_Z em ph (.cat nm j) = if em (.cat nm j) = true then (if j = 3 then 2 + ph (gp_n1 nm) else 0) else 0 := rfl
    have ea : gj_a em (.cat nm j) = if em (.cat nm j) = true then (if j = 3 then 1 else 0) else 0 := rfl
    have ej : gj_j em (.cat nm j) = 0 := rfl
    have eL : gj_L (.cat nm j) = if j = 0 then 0 else if j = 1 then gp_n2 nm else 1 := rfl
    by_cases a : em (.cat nm j) = true
    · rw [if_pos a] at eZ ea
      have ee := (hem _).mp a
      by_cases k3 : j = 3
      · rw [if_pos k3] at eZ ea
        rw [if_neg (show ¬ j = 0 by omega), if_neg (show ¬ j = 1 by omega)] at eD eL
        rw [if_neg (show ¬ j = 2 by omega)] at eD
        obtain ⟨c, e1, e2⟩ := h3 k3
        have := hp c e2
        have ec : gp_n1 nm = c := by rw [e1]; rfl
        rw [ec] at eD eZ
        refine ⟨by rw [eZ, ea, ej, Nat.one_mul]; omega, ⟨0, by rw [ea, ej, eL]; omega, by rw [eD, eZ]; omega⟩, fun _ x hx => ⟨0, by rw [ea, ej, eL]; omega, by rw [sb x hx, eD, eZ]; omega⟩, fun n => absurd a n⟩
      · rw [if_neg k3] at eZ ea
        have j0 : j = 0 := by
          rcases ee with z | ⟨z, -⟩
          · exact z
          · exact absurd z k3
        rw [if_pos j0] at eD eL
        refine ⟨by rw [eZ]; exact Nat.zero_le _, ⟨0, by rw [ea, ej, eL]; omega, by rw [eD]; exact Nat.zero_le _⟩, fun _ x hx => ⟨0, by rw [ea, ej, eL]; omega, by rw [sb x hx, eD]; exact Nat.zero_le _⟩, fun n => absurd a n⟩
    · rw [if_neg a] at eZ ea
      have Db : gj_D em ph (.cat nm j) ≤ gj_L (.cat nm j) * u := by
        rw [eD, eL]
        by_cases j0 : j = 0
        · rw [if_pos j0]; exact Nat.zero_le _
        · rw [if_neg j0, if_neg j0]
          by_cases j1 : j = 1
          · rw [if_pos j1, if_pos j1]
            have := Nat.mul_le_mul_left (gp_n2 nm) (show 1 ≤ u by omega)
            omega
          · rw [if_neg j1, if_neg j1, Nat.one_mul]
            by_cases j2 : j = 2
            · rw [if_pos j2]; omega
            · rw [if_neg j2]
              obtain ⟨c, e1, e2⟩ := h3 (by omega)
              have := hp c e2
              have ec : gp_n1 nm = c := by rw [e1]; rfl
              rw [ec]; exact this
      exact ⟨by rw [eZ]; exact Nat.zero_le _, ⟨gj_L (.cat nm j), by rw [ea, ej]; omega, by rw [eZ]; omega⟩, fun h => absurd h a, fun _ => ⟨ea, ej, eZ, fun x hx => by rw [sb x hx]; exact Db⟩⟩
  | node nm j x ih =>
    intro h
    have h0 := h
    obtain ⟨j6, j10, wx, wn⟩ := h
    have ix := ih wx
    have Lx := L1 x wx
    have sx := fun y hy => gj_T_s (x := y) hu ix hy
    have sb : ∀ y, y ∈ gp_sb (.node nm j x) → y = .node nm j x ∨ y ∈ gp_sb x := fun y hy => List.mem_cons.mp hy
    have ea : gj_a em (.node nm j x) = 0 := rfl
    have eD : gj_D em ph (.node nm j x) = if j = 6 ∨ j = 7 then (if em x = true then 0 else 1) else if j = 10 then 2 + gj_D em ph x else 0 := rfl
    have eZ : gj_Z em ph (.node nm j x) = if em (.node nm j x) = true then (if j = 6 ∨ j = 7 then (if em x = true then 0 else 1) else 0) else 0 := rfl
    have ej : gj_j em (.node nm j x) = if em (.node nm j x) = true then (if j = 6 ∨ j = 7 then (if em x = true then 0 else 1) else 0) else 0 := rfl
    have eL : gj_L (.node nm j x) = (if j = 10 then 2 else 1) + gj_L x := rfl
    have Lu : (gj_L x + 1) * u = gj_L x * u + u := by rw [Nat.add_mul, Nat.one_mul]
    have Lu2 : (gj_L x + 2) * u = gj_L x * u + 2 * u := Nat.add_mul ..
    by_cases k10 : j = 10
    · have ne : ¬ em x = true := fun h => wn (Or.inr k10) ((hem x).mp h)
      have nee : ¬ em (.node nm j x) = true := fun h => wn (Or.inr k10) ((hem (.node nm j x)).mp h k10)
      rw [if_neg nee] at eZ ej
      rw [if_neg (by omega), if_pos k10] at eD
      rw [if_pos k10] at eL
      have dx := (sx x (gy_sb_s x)).2 ne
      have Db : gj_D em ph (.node nm j x) ≤ gj_L (.node nm j x) * u := by rw [eD, eL, Nat.add_comm 2 (gj_L x), Lu2]; omega
      refine ⟨by rw [eZ]; exact Nat.zero_le _, ⟨gj_L (.node nm j x), by rw [ea, ej]; omega, by rw [eZ]; omega⟩, fun h => absurd h nee, fun _ => ⟨ea, ej, eZ, fun y hy => ?_⟩⟩
      rcases sb y hy with e | e
      · rw [e]; exact Db
      · have := (sx y e).2 ne
        rw [eL, Nat.add_comm 2 (gj_L x), Lu2]; omega
    · have ee : em (.node nm j x) = true := (hem (.node nm j x)).mpr (fun h => absurd h k10)
      rw [if_pos ee] at eZ ej
      rw [if_neg k10] at eL eD
      by_cases k67 : j = 6 ∨ j = 7
      · rw [if_pos k67] at eZ ej eD
        by_cases ex : em x = true
        · rw [if_pos ex] at eZ ej eD
          refine ⟨by rw [eZ]; exact Nat.zero_le _, ⟨0, by rw [ea, ej]; omega, by rw [eD]; exact Nat.zero_le _⟩, fun _ y hy => ?_, fun n => absurd ee n⟩
          rcases sb y hy with e | e
          · exact ⟨0, by rw [ea, ej]; omega, by rw [e, eD]; exact Nat.zero_le _⟩
          · have := (sx y e).1
            exact ⟨gj_L x + 1, by rw [ea, ej, eL]; omega, by rw [eZ]; omega⟩
        · rw [if_neg ex] at eZ ej eD
          have := Lx ex
          refine ⟨by rw [eZ, ej]; omega, ⟨0, by rw [ea, ej, eL]; omega, by rw [eD, eZ]; omega⟩, fun _ y hy => ?_, fun n => absurd ee n⟩
          rcases sb y hy with e | e
          · exact ⟨0, by rw [ea, ej, eL]; omega, by rw [e, eD, eZ]; omega⟩
          · have := (sx y e).2 ex
            exact ⟨gj_L x, by rw [ea, ej, eL]; omega, by rw [eZ]; omega⟩
      · rw [if_neg k67] at eZ ej eD
        refine ⟨by rw [eZ]; exact Nat.zero_le _, ⟨0, by rw [ea, ej]; omega, by rw [eD]; exact Nat.zero_le _⟩, fun _ y hy => ?_, fun n => absurd ee n⟩
        rcases sb y hy with e | e
        · exact ⟨0, by rw [ea, ej]; omega, by rw [e, eD]; exact Nat.zero_le _⟩
        · have := (sx y e).1
          exact ⟨gj_L x + 1, by rw [ea, ej, eL]; omega, by rw [eZ]; omega⟩
  | binary nm x y ih1 ih2 =>
    intro h
    have h0 := h
    obtain ⟨wx, wy, j45, wp⟩ := h
    have ix := ih1 wx
    have iy := ih2 wy
    have Lx := L1 x wx
    have Ly := L1 y wy
    have sx := fun z hz => gj_T_s (x := z) hu ix hz
    have sy := fun z hz => gj_T_s (x := z) hu iy hz
    have sb : ∀ z, z ∈ gp_sb (.binary nm x y) → z = .binary nm x y ∨ z ∈ gp_sb x ∨ z ∈ gp_sb y := fun z hz => (List.mem_cons.mp hz).imp (fun e => e) (fun e => List.mem_append.mp e)
    have eD : gj_D em ph (.binary nm x y) = if gp_n2 nm = 4 then (if gp_n1 nm = 1 then 3 else 0) + gj_D em ph x + gj_D em ph y else (if em x = true then 0 else 1) + gj_D em ph y := rfl
    have eZ : gj_Z em ph (.binary nm x y) = if em (.binary nm x y) = true then (if gp_n2 nm = 4 then gj_Z em ph x + gj_Z em ph y else (if em x = true then 0 else 1) + gj_Z em ph y) else 0 := rfl
    have ea : gj_a em (.binary nm x y) = if em (.binary nm x y) = true then (if gp_n2 nm = 4 then gj_a em x + gj_a em y else gj_a em y) else 0 := rfl
    have ej : gj_j em (.binary nm x y) = if em (.binary nm x y) = true then (if gp_n2 nm = 4 then gj_j em x + gj_j em y else (if em x = true then 0 else 1) + gj_j em y) else 0 := rfl
    have eL : gj_L (.binary nm x y) = if gp_n1 nm = 1 then 1 + gj_L x else (if gp_n2 nm = 4 then 0 else 1) + gj_L x + gj_L y := rfl
    have Lux : (gj_L x + 1) * u = gj_L x * u + u := by rw [Nat.add_mul, Nat.one_mul]
    have Luy : (gj_L y + 1) * u = gj_L y * u + u := by rw [Nat.add_mul, Nat.one_mul]
    have Lxy : (gj_L x + gj_L y) * u = gj_L x * u + gj_L y * u := Nat.add_mul ..
    have L1x : 1 ≤ gj_L x → u ≤ gj_L x * u := fun h => by have := Nat.mul_le_mul_right u h; omega
    have L1y : 1 ≤ gj_L y → u ≤ gj_L y * u := fun h => by have := Nat.mul_le_mul_right u h; omega
    have Dx := fun n => (sx x (gy_sb_s x)).2 n
    have Dy := fun n => (sy y (gy_sb_s y)).2 n
    obtain ⟨zx, ⟨mx, mx1, mx2⟩, px, nx⟩ := ix
    obtain ⟨zy, ⟨my, my1, my2⟩, py, ny⟩ := iy
    have mxy : (mx + my) * u = mx * u + my * u := Nat.add_mul ..
    have Lmx := Nat.mul_le_mul_right u mx1
    have Lmy := Nat.mul_le_mul_right u my1
    have e1 : (gj_a em x + 2 * gj_j em x + mx) * u = gj_a em x * u + 2 * gj_j em x * u + mx * u := by rw [Nat.add_mul, Nat.add_mul]
    have e2 : (gj_a em y + 2 * gj_j em y + my) * u = gj_a em y * u + 2 * gj_j em y * u + my * u := by rw [Nat.add_mul, Nat.add_mul]
    have j2x : gj_j em x ≤ 2 * gj_j em x * u := by have := Nat.mul_le_mul_left (2 * gj_j em x) (show 1 ≤ u by omega); omega
    have j2y : gj_j em y ≤ 2 * gj_j em y * u := by have := Nat.mul_le_mul_left (2 * gj_j em y) (show 1 ≤ u by omega); omega
    have DxL : gj_D em ph x ≤ gj_L x * u := by omega
    have DyL : gj_D em ph y ≤ gj_L y * u := by omega
    by_cases n4 : gp_n2 nm = 4
    · rw [if_pos n4] at eD eZ ea ej
      by_cases n1 : gp_n1 nm = 1
      · rw [if_pos n1] at eD eL
        obtain ⟨-, ey⟩ := wp n1
        have ne : ¬ em x = true := fun h => by rw [ey] at wy; exact wy.2.2.2 (Or.inl rfl) ((hem x).mp h)
        have nee : ¬ em (.binary nm x y) = true := fun h => by
          rcases (hem (.binary nm x y)).mp h with ⟨-, e, -⟩ | ⟨e, -⟩
          · exact ne ((hem x).mpr e)
          · exact e n4
        rw [if_neg nee] at eZ ea ej
        have Ds : gj_D em ph y ≤ 1 := by
          rw [ey]
          show (if (7 : Nat) = 6 ∨ (7 : Nat) = 7 then (if em x = true then 0 else 1) else _) ≤ 1
          rw [if_pos (Or.inr rfl), if_neg ne]
          exact Nat.le_refl _
        have Db : gj_D em ph (.binary nm x y) ≤ gj_L (.binary nm x y) * u := by rw [eD, eL, Nat.add_comm 1, Lux]; omega
        refine ⟨by rw [eZ]; exact Nat.zero_le _, ⟨gj_L (.binary nm x y), by rw [ea, ej]; omega, by rw [eZ]; omega⟩, fun h => absurd h nee, fun _ => ⟨ea, ej, eZ, fun z hz => ?_⟩⟩
        rcases sb z hz with e | e | e
        · rw [e]; exact Db
        · have := (sx z e).2 ne
          rw [eL, Nat.add_comm 1, Lux]; omega
        · rw [ey] at e
          rcases List.mem_cons.mp e with e | e
          · rw [e, ← ey, eL, Nat.add_comm 1, Lux]; omega
          · have := (sx z e).2 ne
            rw [eL, Nat.add_comm 1, Lux]; omega
      · rw [if_neg n1] at eD eL
        rw [if_pos n4] at eL
        rw [Nat.zero_add] at eL eD
        by_cases ee : em (.binary nm x y) = true
        · rw [if_pos ee] at eZ ea ej
          have ex : em x = true ∧ em y = true := by
            rcases (hem (.binary nm x y)).mp ee with ⟨-, e, e'⟩ | ⟨e, -⟩
            · exact ⟨(hem x).mpr e, (hem y).mpr e'⟩
            · exact absurd n4 e
          refine ⟨by rw [eZ, ea, ej, Nat.add_mul]; omega, ⟨mx + my, by rw [ea, ej, eL]; omega, by rw [eD, eZ, mxy]; omega⟩, fun _ z hz => ?_, fun n => absurd ee n⟩
          rcases sb z hz with e | e | e
          · exact ⟨mx + my, by rw [ea, ej, eL]; omega, by rw [e, eD, eZ, mxy]; omega⟩
          · obtain ⟨m, m1, m2⟩ := px ex.1 z e
            exact ⟨m, by rw [ea, ej, eL]; omega, by rw [eZ]; omega⟩
          · obtain ⟨m, m1, m2⟩ := py ex.2 z e
            exact ⟨m, by rw [ea, ej, eL]; omega, by rw [eZ]; omega⟩
        · rw [if_neg ee] at eZ ea ej
          have Db : gj_D em ph (.binary nm x y) ≤ gj_L (.binary nm x y) * u := by rw [eD, eL, Lxy]; omega
          refine ⟨by rw [eZ]; exact Nat.zero_le _, ⟨gj_L (.binary nm x y), by rw [ea, ej]; omega, by rw [eZ]; omega⟩, fun h => absurd h ee, fun _ => ⟨ea, ej, eZ, fun z hz => ?_⟩⟩
          have one : em x = true → 1 ≤ gj_L y := fun h => Ly (fun h' => ee ((hem (.binary nm x y)).mpr (Or.inl ⟨n4, (hem x).mp h, (hem y).mp h'⟩)))
          have two : em y = true → 1 ≤ gj_L x := fun h' => Lx (fun h => ee ((hem (.binary nm x y)).mpr (Or.inl ⟨n4, (hem x).mp h, (hem y).mp h'⟩)))
          rcases sb z hz with e | e | e
          · rw [e]; exact Db
          · rw [eL, Lxy]
            by_cases ex : em x = true
            · have := (sx z e).1
              have := L1y (one ex)
              omega
            · have := (sx z e).2 ex
              omega
          · rw [eL, Lxy]
            by_cases ey : em y = true
            · have := (sy z e).1
              have := L1x (two ey)
              omega
            · have := (sy z e).2 ey
              omega
    · have n1 : ¬ gp_n1 nm = 1 := fun h => n4 (wp h).1
      rw [if_neg n4] at eD eZ ea ej
      rw [if_neg n1, if_neg n4] at eL
      have L3 : (1 + gj_L x + gj_L y) * u = u + gj_L x * u + gj_L y * u := by rw [Nat.add_mul, Nat.add_mul, Nat.one_mul]
      by_cases ex : em x = true
      · rw [if_pos ex] at eD eZ ej
        have ee : em (.binary nm x y) = true := (hem (.binary nm x y)).mpr (Or.inr ⟨n4, Or.inl ((hem x).mp ex)⟩)
        rw [if_pos ee] at eZ ea ej
        refine ⟨by rw [eZ, ea, ej]; omega, ⟨my, by rw [ea, ej, eL]; omega, by rw [eD, eZ]; omega⟩, fun _ z hz => ?_, fun n => absurd ee n⟩
        rcases sb z hz with e | e | e
        · exact ⟨my, by rw [ea, ej, eL]; omega, by rw [e, eD, eZ]; omega⟩
        · have := (sx z e).1
          exact ⟨gj_L x + 1, by rw [ea, ej, eL]; omega, by rw [eZ]; omega⟩
        · by_cases ey : em y = true
          · obtain ⟨m, m1, m2⟩ := py ey z e
            exact ⟨m, by rw [ea, ej, eL]; omega, by rw [eZ]; omega⟩
          · obtain ⟨n1, n2, n3, n4⟩ := ny ey
            have := n4 z e
            exact ⟨gj_L y, by rw [ea, ej, eL]; omega, by rw [eZ]; omega⟩
      · rw [if_neg ex] at eD eZ ej
        have l1 := Lx ex
        by_cases ey : em y = true
        · have ee : em (.binary nm x y) = true := (hem (.binary nm x y)).mpr (Or.inr ⟨n4, Or.inr ((hem y).mp ey)⟩)
          rw [if_pos ee] at eZ ea ej
          refine ⟨by rw [eZ, ea, ej]; omega, ⟨my, by rw [ea, ej, eL]; omega, by rw [eD, eZ]; omega⟩, fun _ z hz => ?_, fun n => absurd ee n⟩
          rcases sb z hz with e | e | e
          · exact ⟨my, by rw [ea, ej, eL]; omega, by rw [e, eD, eZ]; omega⟩
          · have := (sx z e).2 ex
            exact ⟨gj_L x, by rw [ea, ej, eL]; omega, by rw [eZ]; omega⟩
          · obtain ⟨m, m1, m2⟩ := py ey z e
            exact ⟨m, by rw [ea, ej, eL]; omega, by rw [eZ]; omega⟩
        · have ee : ¬ em (.binary nm x y) = true := fun h => by
            rcases (hem (.binary nm x y)).mp h with ⟨e, -⟩ | ⟨-, e | e⟩
            · exact n4 e
            · exact ex ((hem x).mpr e)
            · exact ey ((hem y).mpr e)
          rw [if_neg ee] at eZ ea ej
          have Db : gj_D em ph (.binary nm x y) ≤ gj_L (.binary nm x y) * u := by rw [eD, eL, L3]; omega
          refine ⟨by rw [eZ]; exact Nat.zero_le _, ⟨gj_L (.binary nm x y), by rw [ea, ej]; omega, by rw [eZ]; omega⟩, fun h => absurd h ee, fun _ => ⟨ea, ej, eZ, fun z hz => ?_⟩⟩
          rcases sb z hz with e | e | e
          · rw [e]; exact Db
          · have := (sx z e).2 ex
            rw [eL, L3]; omega
          · have := (sy z e).2 ey
            rw [eL, L3]; omega
  | _ => intro h; exact h.elim
