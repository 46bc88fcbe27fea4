/-! Captures with what they are inside of: on expressions, and cell by cell. -/
/-- begin, end, inside what; i is around, n is the next number -/
def gc_T (C : gv_C) : Nat → Lean.ParserDescr → Nat → Int → Nat → List (Nat × Nat × Int)
  | 0, _, _, _, _ => []
  | k + 1, .cat nm j, q, i, n => if j ≤ 2 then [] else gc_T C k (C.1 (gp_n1 nm)) q i n
  | k + 1, .node nm j x, q, i, n =>
    if j = 6 then (if C.2.2.2 x q = true then (if gv_v C k x q = -1 then [] else gc_T C k x q i n) else [])
    else if j = 7 then (if C.2.2.2 x q = true then (if gv_v C k x q < 0 then [] else gc_T C k x q i n ++ gc_T C k (.node nm j x) (q + (gv_v C k x q).toNat) i (n + (gc_T C k x q i n).length)) else [])
    else if j = 10 then (q, q + (gv_v C k x q).toNat, i) :: gc_T C k x q n (n + 1) else []
  | k + 1, .binary nm x y, q, i, n =>
    if gp_n2 nm = 4 then gc_T C k x q i n ++ gc_T C k y (q + (gv_v C k x q).toNat) i (n + (gc_T C k x q i n).length)
    else if C.2.2.2 x q = true then (if gv_v C k x q = -1 then gc_T C k y q i n else gc_T C k x q i n) else gc_T C k y q i n
  | _ + 1, _, _, _, _ => []
theorem gc_TL (C : gv_C) : ∀ (k : Nat) (e : Lean.ParserDescr) (q : Nat) (i : Int) (n : Nat), (gc_T C k e q i n).map (fun t => (t.1, t.2.1)) = gv_L C k e q := by
  intro k
  induction k with
  | zero => intro e q i n; rfl
  | succ k ih =>
    intro e q i n
    cases e with
    | cat nm j =>
      rw [gc_T, gv_L]
      by_cases a : j ≤ 2
      · rw [if_pos a, if_pos a]; rfl
      · rw [if_neg a, if_neg a]; exact ih _ _ _ _
    | node nm j x =>
      rw [gc_T, gv_L]
      by_cases a : j = 6
      · rw [if_pos a, if_pos a]
        by_cases b : C.2.2.2 x q = true
        · rw [if_pos b, if_pos b]
          by_cases c : gv_v C k x q = -1
          · rw [if_pos c, if_pos c]; rfl
          · rw [if_neg c, if_neg c]; exact ih _ _ _ _
        · rw [if_neg b, if_neg b]; rfl
      · rw [if_neg a, if_neg a]
        by_cases a7 : j = 7
        · rw [if_pos a7, if_pos a7]
          by_cases b : C.2.2.2 x q = true
          · rw [if_pos b, if_pos b]
            by_cases c : gv_v C k x q < 0
            · rw [if_pos c, if_pos c]; rfl
            · rw [if_neg c, if_neg c, List.map_append, ih, ih]
          · rw [if_neg b, if_neg b]; rfl
        · rw [if_neg a7, if_neg a7]
          by_cases a10 : j = 10
          · rw [if_pos a10, if_pos a10, List.map_cons, ih]
          · rw [if_neg a10, if_neg a10]; rfl
    | binary nm x y =>
      rw [gc_T, gv_L]
      by_cases a : gp_n2 nm = 4
      · rw [if_pos a, if_pos a, List.map_append, ih, ih]
      · rw [if_neg a, if_neg a]
        by_cases b : C.2.2.2 x q = true
        · rw [if_pos b, if_pos b]
          by_cases c : gv_v C k x q = -1
          · rw [if_pos c, if_pos c]; exact ih _ _ _ _
          · rw [if_neg c, if_neg c]; exact ih _ _ _ _
        · rw [if_neg b, if_neg b]; exact ih _ _ _ _
    | _ => rfl
theorem gc_Tl (C : gv_C) (k : Nat) (e : Lean.ParserDescr) (q : Nat) (i : Int) (n : Nat) : (gc_T C k e q i n).length = (gv_L C k e q).length := by
  rw [← gc_TL C k e q i n, List.length_map]
/-- what a cell brings -/
def gc_P (Pg : Nat → Nat → Nat → Prop) (kd on tw : Nat → Int32) (B : Nat) (C : gv_C) (m q : Nat) (i : Int) (n : Nat) (l : List (Nat × Nat × Int)) : Prop := ∃ k e, gp_rep Pg B kd on tw e m ∧ 0 ≤ gv_v C k e q ∧ l = gc_T C k e q i n
theorem gc_down {kd on tw Mz : Nat → Int32} {Pg : Nat → Nat → Nat → Prop} {out row : Nat → Nat → Prop} {B P fed : Nat} {T D : Nat → Nat → Int} {C : gv_C} (hT : gy_T kd on tw Mz Pg out row B P fed T D C) {m q : Nat} {i : Int} {n : Nat} {l : List (Nat × Nat × Int)} (b1 : B ≤ m) (b2 : m < B + P) (hq : q ≤ fed) (h : gc_P Pg kd on tw B C m q i n l) :
    ((kd m).toInt ≤ 2 → l = []) ∧
    ((kd m).toInt = 3 → gc_P Pg kd on tw B C (Int32.toNatClampNeg (Mz m)) q i n l) ∧
    ((kd m).toInt = 4 → ∃ l1 l2, l = l1 ++ l2 ∧ gc_P Pg kd on tw B C (Int32.toNatClampNeg (on m)) q i n l1 ∧ gc_P Pg kd on tw B C (Int32.toNatClampNeg (tw m)) (q + (T (Int32.toNatClampNeg (on m)) q).toNat) i (n + l1.length) l2) ∧
    ((kd m).toInt = 5 → (T (Int32.toNatClampNeg (on m)) q = -1 → gc_P Pg kd on tw B C (Int32.toNatClampNeg (tw m)) q i n l) ∧ (¬ T (Int32.toNatClampNeg (on m)) q = -1 → gc_P Pg kd on tw B C (Int32.toNatClampNeg (on m)) q i n l)) ∧
    ((kd m).toInt = 6 → (0 ≤ T (Int32.toNatClampNeg (on m)) q → gc_P Pg kd on tw B C (Int32.toNatClampNeg (on m)) q i n l) ∧ (T (Int32.toNatClampNeg (on m)) q < 0 → l = [])) ∧
    ((kd m).toInt = 7 → (0 ≤ T (Int32.toNatClampNeg (on m)) q → ∃ l1 l2, l = l1 ++ l2 ∧ gc_P Pg kd on tw B C (Int32.toNatClampNeg (on m)) q i n l1 ∧ gc_P Pg kd on tw B C m (q + (T (Int32.toNatClampNeg (on m)) q).toNat) i (n + l1.length) l2) ∧ (T (Int32.toNatClampNeg (on m)) q < 0 → l = [])) ∧
    ((kd m).toInt = 8 ∨ (kd m).toInt = 9 → l = []) ∧
    ((kd m).toInt = 10 → ∃ l', l = (q, q + (T m q).toNat, i) :: l' ∧ gc_P Pg kd on tw B C (Int32.toNatClampNeg (on m)) q n (n + 1) l') := by
  have hvT := gy_v hT
  obtain ⟨h1, h2, h3, h4, h5, h6⟩ := hT
  obtain ⟨k, e, hr, hv, hl⟩ := h
  cases k with
  | zero => exact absurd (show (0 : Int) ≤ -2 from hv) (by decide)
  | succ k =>
    cases e with
    | cat nm j =>
      have hr' := hr
      obtain ⟨j3, kj, -⟩ := hr'
      refine ⟨fun kd2 => ?_, fun k3 => ?_, fun k => absurd k (by omega), fun k => absurd k (by omega), fun k => absurd k (by omega), fun k => absurd k (by omega), fun k => absurd k (by omega), fun k => absurd k (by omega)⟩
      · rw [hl, gc_T, if_pos (by omega)]
      · have e3 : j = 3 := by omega
        subst e3
        obtain ⟨n1, n2, n3⟩ := h5 nm m hr b1 b2
        exact ⟨k, _, n3, hv, hl⟩
    | node nm j x =>
      have hr' := hr
      obtain ⟨j6, kj, ch, rx⟩ := hr'
      obtain ⟨o1, o2, -⟩ := gp_ch_cl ch
      have tx := hvT k x (Int32.toNatClampNeg (on m)) q rx o1 (by omega) hq
      have ux := h2 (Int32.toNatClampNeg (on m)) q o1 (by omega) hq
      have lx := h6 x (Int32.toNatClampNeg (on m)) q rx o1 (by omega) hq
      obtain ⟨tn, tle, -⟩ := h1 (Int32.toNatClampNeg (on m)) q o1 (by omega) hq
      have g := gv_v_ge C k x q
      have gs := gv_v_ge C k (.node nm j x) (q + (gv_v C k x q).toNat)
      refine ⟨fun k => absurd k (by omega), fun k => absurd k (by omega), fun k => absurd k (by omega), fun k => absurd k (by omega), fun k6 => ?_, fun k7 => ?_, fun k89 => ?_, fun k10 => ?_⟩
      · have e6 : j = 6 := by omega
        subst e6
        have ev : gv_v C (k + 1) (.node nm 6 x) q = if C.2.2.2 x q = true then (if gv_v C k x q = -1 then 0 else gv_v C k x q) else 0 := rfl
        have el : gc_T C (k + 1) (.node nm 6 x) q i n = if C.2.2.2 x q = true then (if gv_v C k x q = -1 then [] else gc_T C k x q i n) else [] := rfl
        rw [ev] at hv
        rw [el] at hl
        by_cases z : C.2.2.2 x q = true
        · rw [if_pos z] at hv hl
          by_cases c : gv_v C k x q = -1
          · rw [if_pos c] at hl
            have := tx (by omega)
            exact ⟨fun w => absurd w (by omega), fun _ => hl⟩
          · rw [if_neg c] at hl hv
            have := tx (by omega)
            exact ⟨fun _ => ⟨k, x, rx, hv, hl⟩, fun w => absurd w (by omega)⟩
        · rw [if_neg z] at hl
          have := ux (lx z)
          exact ⟨fun w => absurd w (by omega), fun _ => hl⟩
      · have e7 : j = 7 := by omega
        subst e7
        have ev : gv_v C (k + 1) (.node nm 7 x) q = if C.2.2.2 x q = true then (if gv_v C k x q = -1 then 0 else if gv_v C k x q = -2 then -2 else if gv_v C k (.node nm 7 x) (q + (gv_v C k x q).toNat) = -2 then -2 else gv_v C k x q + gv_v C k (.node nm 7 x) (q + (gv_v C k x q).toNat)) else 0 := rfl
        have el : gc_T C (k + 1) (.node nm 7 x) q i n = if C.2.2.2 x q = true then (if gv_v C k x q < 0 then [] else gc_T C k x q i n ++ gc_T C k (.node nm 7 x) (q + (gv_v C k x q).toNat) i (n + (gc_T C k x q i n).length)) else [] := rfl
        rw [ev] at hv
        rw [el] at hl
        by_cases z : C.2.2.2 x q = true
        · rw [if_pos z] at hv hl
          by_cases c : gv_v C k x q < 0
          · rw [if_pos c] at hl
            by_cases c2 : gv_v C k x q = -2
            · rw [if_neg (by omega), if_pos c2] at hv; exact absurd hv (by decide)
            · have := tx c2
              exact ⟨fun w => absurd w (by omega), fun _ => hl⟩
          · rw [if_neg c] at hl
            rw [if_neg (by omega), if_neg (by omega)] at hv
            have tx := tx (by omega)
            have sn := gv_star_ne C nm x k (q + (gv_v C k x q).toNat)
            by_cases s : gv_v C k (.node nm 7 x) (q + (gv_v C k x q).toNat) = -2
            · rw [if_pos s] at hv; exact absurd hv (by decide)
            · refine ⟨fun _ => ⟨_, _, hl, ⟨k, x, rx, by omega, rfl⟩, ⟨k, .node nm 7 x, hr, ?_, ?_⟩⟩, fun w => absurd w (by omega)⟩
              · rw [tx]; omega
              · rw [tx]
        · rw [if_neg z] at hl
          have := ux (lx z)
          exact ⟨fun w => absurd w (by omega), fun _ => hl⟩
      · have : j = 8 ∨ j = 9 := by omega
        rw [hl, gc_T, if_neg (by omega), if_neg (by omega), if_neg (by omega)]
      · have e10 : j = 10 := by omega
        subst e10
        have ev : gv_v C (k + 1) (.node nm 10 x) q = gv_v C k x q := rfl
        have el : gc_T C (k + 1) (.node nm 10 x) q i n = (q, q + (gv_v C k x q).toNat, i) :: gc_T C k x q n (n + 1) := rfl
        have tm := hvT (k + 1) (.node nm 10 x) m q hr b1 b2 hq (by omega)
        rw [ev] at tm hv
        rw [tm]
        exact ⟨_, by rw [hl, el], k, x, rx, hv, rfl⟩
    | binary nm x y =>
      have hr' := hr
      obtain ⟨j45, kj, ch1, ch2, rx, ry⟩ := hr'
      obtain ⟨o1, o2, -⟩ := gp_ch_cl ch1
      obtain ⟨p1, p2, -⟩ := gp_ch_cl ch2
      have tx := hvT k x (Int32.toNatClampNeg (on m)) q rx o1 (by omega) hq
      have ux := h2 (Int32.toNatClampNeg (on m)) q o1 (by omega) hq
      have lx := h6 x (Int32.toNatClampNeg (on m)) q rx o1 (by omega) hq
      have g := gv_v_ge C k x q
      refine ⟨fun k => absurd k (by omega), fun k => absurd k (by omega), fun k4 => ?_, fun k5 => ?_, fun k => absurd k (by omega), fun k => absurd k (by omega), fun k => absurd k (by omega), fun k => absurd k (by omega)⟩
      · have n4 : gp_n2 nm = 4 := by omega
        have ev : gv_v C (k + 1) (.binary nm x y) q = if gv_v C k x q < 0 then gv_v C k x q else if gv_v C k y (q + (gv_v C k x q).toNat) < 0 then gv_v C k y (q + (gv_v C k x q).toNat) else gv_v C k x q + gv_v C k y (q + (gv_v C k x q).toNat) := if_pos n4
        have el : gc_T C (k + 1) (.binary nm x y) q i n = gc_T C k x q i n ++ gc_T C k y (q + (gv_v C k x q).toNat) i (n + (gc_T C k x q i n).length) := if_pos n4
        rw [ev] at hv
        rw [el] at hl
        by_cases c : gv_v C k x q < 0
        · rw [if_pos c] at hv; omega
        · rw [if_neg c] at hv
          by_cases d : gv_v C k y (q + (gv_v C k x q).toNat) < 0
          · rw [if_pos d] at hv; omega
          · have tx := tx (by omega)
            refine ⟨_, _, hl, ⟨k, x, rx, by omega, rfl⟩, ⟨k, y, ry, ?_, ?_⟩⟩
            · rw [tx]; omega
            · rw [tx]
      · have n4 : ¬ gp_n2 nm = 4 := by omega
        have ev : gv_v C (k + 1) (.binary nm x y) q = if C.2.2.2 x q = true then (if gv_v C k x q = -1 then gv_v C k y q else gv_v C k x q) else gv_v C k y q := if_neg n4
        have el : gc_T C (k + 1) (.binary nm x y) q i n = if C.2.2.2 x q = true then (if gv_v C k x q = -1 then gc_T C k y q i n else gc_T C k x q i n) else gc_T C k y q i n := if_neg n4
        rw [ev] at hv
        rw [el] at hl
        by_cases z : C.2.2.2 x q = true
        · rw [if_pos z] at hv hl
          by_cases c : gv_v C k x q = -1
          · rw [if_pos c] at hl hv
            have := tx (by omega)
            exact ⟨fun _ => ⟨k, y, ry, hv, hl⟩, fun w => absurd (by omega) w⟩
          · rw [if_neg c] at hl hv
            have := tx (by omega)
            exact ⟨fun w => absurd w (by omega), fun _ => ⟨k, x, rx, hv, hl⟩⟩
        · rw [if_neg z] at hl hv
          have := ux (lx z)
          exact ⟨fun _ => ⟨k, y, ry, hv, hl⟩, fun w => absurd this w⟩
    | _ => exact absurd hr (fun h => h)
