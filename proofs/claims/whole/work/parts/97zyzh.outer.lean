/-! What a capture is inside of. -/
theorem gc_app {α : Type} {x y : List α} {a : Nat} {t : α} (h : (x ++ y)[a]? = some t) : x[a]? = some t ∨ ∃ b, a = x.length + b ∧ y[b]? = some t := by
  by_cases l : a < x.length
  · rw [List.getElem?_append_left l] at h
    exact Or.inl h
  · rw [List.getElem?_append_right (by omega)] at h
    exact Or.inr ⟨a - x.length, by omega, h⟩
theorem gc_app_l {α : Type} {x y : List α} {a : Nat} {t : α} (h : x[a]? = some t) : (x ++ y)[a]? = some t := by
  have l : a < x.length := by
    rcases Nat.lt_or_ge a x.length with w | w
    · exact w
    · rw [List.getElem?_eq_none w] at h; cases h
  rw [List.getElem?_append_left l]; exact h
theorem gc_app_r {α : Type} {x y : List α} {a : Nat} {t : α} (h : y[a]? = some t) : (x ++ y)[x.length + a]? = some t := by
  rw [List.getElem?_append_right (by omega), show x.length + a - x.length = a by omega]; exact h
theorem gc_lt {α : Type} {x : List α} {a : Nat} {t : α} (h : x[a]? = some t) : a < x.length := by
  rcases Nat.lt_or_ge a x.length with w | w
  · exact w
  · rw [List.getElem?_eq_none w] at h; cases h
theorem gc_nil {α : Type} {a : Nat} {t : α} (h : ([] : List α)[a]? = some t) : False := by
  rw [List.getElem?_nil] at h; cases h
/-- captures end behind their place, and not behind what is taken -/
theorem gc_end {C : gv_C} {f : Nat → Int × Lean.ParserDescr} {R : Nat} (hC : ∀ c, C.1 c = (f (gq_fx f (c : Int) R)).2) (hf : ∀ r, r < R → gv_wf f R (f r).2) : ∀ (k : Nat) (e : Lean.ParserDescr) (q : Nat) (i : Int) (n : Nat), gv_wf f R e → 0 ≤ gv_v C k e q → ∀ (a : Nat) (t : Nat × Nat × Int), (gc_T C k e q i n)[a]? = some t → q < t.2.1 ∧ t.2.1 ≤ q + (gv_v C k e q).toNat := by
  have z0 := gv_z0 (C := C) (f := f) (R := R) rfl hC hf
  intro k
  induction k with
  | zero => intro e q i n _ hv; exact absurd (show (0 : Int) ≤ -2 from hv) (by decide)
  | succ k ih =>
    intro e q i n hwf hv a t ht
    cases e with
    | cat nm j =>
      obtain ⟨j3, -, w3⟩ := hwf
      by_cases j2 : j ≤ 2
      · rw [gc_T, if_pos j2] at ht; exact (gc_nil ht).elim
      · have e3 : j = 3 := by omega
        subst e3
        obtain ⟨c, e1, e2⟩ := w3 rfl
        subst e1
        have ev : gv_v C (k + 1) (.cat (.num (.num .anonymous c) 0) 3) q = gv_v C k (C.1 c) q := rfl
        have et : gc_T C (k + 1) (.cat (.num (.num .anonymous c) 0) 3) q i n = gc_T C k (C.1 c) q i n := rfl
        rw [ev] at hv ⊢
        rw [et] at ht
        exact ih _ q i n (by rw [hC]; exact hf _ e2) hv a t ht
    | node nm j x =>
      obtain ⟨j6, j10, wx, wn⟩ := hwf
      have : j = 6 ∨ j = 7 ∨ j = 8 ∨ j = 9 ∨ j = 10 := by omega
      rcases this with q0 | q0 | q0 | q0 | q0
      · subst q0
        have ev : gv_v C (k + 1) (.node nm 6 x) q = if C.2.2.2 x q = true then (if gv_v C k x q = -1 then 0 else gv_v C k x q) else 0 := rfl
        have el : gc_T C (k + 1) (.node nm 6 x) q i n = if C.2.2.2 x q = true then (if gv_v C k x q = -1 then [] else gc_T C k x q i n) else [] := rfl
        rw [ev] at hv ⊢
        rw [el] at ht
        by_cases z : C.2.2.2 x q = true
        · rw [if_pos z] at hv ht ⊢
          by_cases c : gv_v C k x q = -1
          · rw [if_pos c] at ht; exact (gc_nil ht).elim
          · rw [if_neg c] at hv ht ⊢
            exact ih x q i n wx hv a t ht
        · rw [if_neg z] at ht; exact (gc_nil ht).elim
      · subst q0
        have ev : gv_v C (k + 1) (.node nm 7 x) q = if C.2.2.2 x q = true then (if gv_v C k x q = -1 then 0 else if gv_v C k x q = -2 then -2 else if gv_v C k (.node nm 7 x) (q + (gv_v C k x q).toNat) = -2 then -2 else gv_v C k x q + gv_v C k (.node nm 7 x) (q + (gv_v C k x q).toNat)) else 0 := rfl
        have el : gc_T C (k + 1) (.node nm 7 x) q i n = if C.2.2.2 x q = true then (if gv_v C k x q < 0 then [] else gc_T C k x q i n ++ gc_T C k (.node nm 7 x) (q + (gv_v C k x q).toNat) i (n + (gc_T C k x q i n).length)) else [] := rfl
        rw [ev] at hv ⊢
        rw [el] at ht
        by_cases z : C.2.2.2 x q = true
        · rw [if_pos z] at hv ht ⊢
          by_cases c : gv_v C k x q < 0
          · rw [if_pos c] at ht; exact (gc_nil ht).elim
          · rw [if_neg c] at ht
            rw [if_neg (show ¬ gv_v C k x q = -1 by omega), if_neg (show ¬ gv_v C k x q = -2 by omega)] at hv ⊢
            have sn := gv_star_ne C nm x k (q + (gv_v C k x q).toNat)
            have sg := gv_v_ge C k (.node nm 7 x) (q + (gv_v C k x q).toNat)
            by_cases s : gv_v C k (.node nm 7 x) (q + (gv_v C k x q).toNat) = -2
            · rw [if_pos s] at hv; exact absurd hv (by decide)
            · rw [if_neg s] at hv ⊢
              rcases gc_app ht with h | ⟨b, -, h⟩
              · have := ih x q i n wx (by omega) a t h
                omega
              · have := ih (.node nm 7 x) (q + (gv_v C k x q).toNat) i _ ⟨j6, j10, wx, wn⟩ (by omega) b t h
                omega
        · rw [if_neg z] at ht; exact (gc_nil ht).elim
      · subst q0; exact (gc_nil (show ([] : List (Nat × Nat × Int))[a]? = some t from ht)).elim
      · subst q0; exact (gc_nil (show ([] : List (Nat × Nat × Int))[a]? = some t from ht)).elim
      · subst q0
        have ev : gv_v C (k + 1) (.node nm 10 x) q = gv_v C k x q := rfl
        have el : gc_T C (k + 1) (.node nm 10 x) q i n = (q, q + (gv_v C k x q).toNat, i) :: gc_T C k x q n (n + 1) := rfl
        rw [ev] at hv ⊢
        rw [el] at ht
        have nz : ¬ gv_v C k x q = 0 := fun h => wn (Or.inr rfl) (z0 k x q wx h)
        cases a with
        | zero =>
          rw [List.getElem?_cons_zero] at ht
          injection ht with ht
          rw [← ht]
          show q < q + (gv_v C k x q).toNat ∧ q + (gv_v C k x q).toNat ≤ _
          omega
        | succ a =>
          rw [List.getElem?_cons_succ] at ht
          exact ih x q n (n + 1) wx hv a t ht
    | binary nm x y =>
      obtain ⟨wx, wy, j45, -⟩ := hwf
      by_cases n4 : gp_n2 nm = 4
      · have ev : gv_v C (k + 1) (.binary nm x y) q = if gv_v C k x q < 0 then gv_v C k x q else if gv_v C k y (q + (gv_v C k x q).toNat) < 0 then gv_v C k y (q + (gv_v C k x q).toNat) else gv_v C k x q + gv_v C k y (q + (gv_v C k x q).toNat) := if_pos n4
        have el : gc_T C (k + 1) (.binary nm x y) q i n = gc_T C k x q i n ++ gc_T C k y (q + (gv_v C k x q).toNat) i (n + (gc_T C k x q i n).length) := if_pos n4
        rw [ev] at hv ⊢
        rw [el] at ht
        by_cases c : gv_v C k x q < 0
        · rw [if_pos c] at hv; omega
        · rw [if_neg c] at hv ⊢
          by_cases d : gv_v C k y (q + (gv_v C k x q).toNat) < 0
          · rw [if_pos d] at hv; omega
          · rw [if_neg d] at hv ⊢
            rcases gc_app ht with h | ⟨b, -, h⟩
            · have := ih x q i n wx (by omega) a t h
              omega
            · have := ih y (q + (gv_v C k x q).toNat) i _ wy (by omega) b t h
              omega
      · have ev : gv_v C (k + 1) (.binary nm x y) q = if C.2.2.2 x q = true then (if gv_v C k x q = -1 then gv_v C k y q else gv_v C k x q) else gv_v C k y q := if_neg n4
        have el : gc_T C (k + 1) (.binary nm x y) q i n = if C.2.2.2 x q = true then (if gv_v C k x q = -1 then gc_T C k y q i n else gc_T C k x q i n) else gc_T C k y q i n := if_neg n4
        rw [ev] at hv ⊢
        rw [el] at ht
        by_cases z : C.2.2.2 x q = true
        · rw [if_pos z] at hv ht ⊢
          by_cases c : gv_v C k x q = -1
          · rw [if_pos c] at hv ht ⊢
            exact ih y q i n wy hv a t ht
          · rw [if_neg c] at hv ht ⊢
            exact ih x q i n wx hv a t ht
        · rw [if_neg z] at hv ht ⊢
          exact ih y q i n wy hv a t ht
    | _ => exact absurd hwf (fun h => h)
/-- w is the nearest before x that doesn't end before x does -/
def gc_o (en : Nat → Int) (x : Nat) (w : Int) : Prop := (w = -1 ∨ (0 ≤ w ∧ w < x ∧ en x ≤ en w.toNat)) ∧ ∀ l : Nat, w < l → l < x → en l < en x
/-- what is around -/
def gc_x (en : Nat → Int) (q v : Nat) (i : Int) (n : Nat) : Prop := (i = -1 ∨ (0 ≤ i ∧ i < n ∧ ((q + v : Nat) : Int) ≤ en i.toNat)) ∧ ∀ l : Nat, i < l → l < n → en l ≤ q
theorem gc_outer {C : gv_C} {f : Nat → Int × Lean.ParserDescr} {R : Nat} (hC : ∀ c, C.1 c = (f (gq_fx f (c : Int) R)).2) (hf : ∀ r, r < R → gv_wf f R (f r).2) {en : Nat → Int} : ∀ (k : Nat) (e : Lean.ParserDescr) (q : Nat) (i : Int) (n : Nat), gv_wf f R e → 0 ≤ gv_v C k e q → (∀ (a : Nat) (t : Nat × Nat × Int), (gc_T C k e q i n)[a]? = some t → en (n + a) = (t.2.1 : Nat)) → gc_x en q (gv_v C k e q).toNat i n → ∀ (a : Nat) (t : Nat × Nat × Int), (gc_T C k e q i n)[a]? = some t → gc_o en (n + a) t.2.2 := by
  have z0 := gv_z0 (C := C) (f := f) (R := R) rfl hC hf
  have hend := gc_end (C := C) (f := f) (R := R) hC hf
  have seq : ∀ (k : Nat) (x y : Lean.ParserDescr) (q : Nat) (i : Int) (n : Nat), (∀ (e : Lean.ParserDescr) (q : Nat) (i : Int) (n : Nat), gv_wf f R e → 0 ≤ gv_v C k e q → (∀ (a : Nat) (t : Nat × Nat × Int), (gc_T C k e q i n)[a]? = some t → en (n + a) = (t.2.1 : Nat)) → gc_x en q (gv_v C k e q).toNat i n → ∀ (a : Nat) (t : Nat × Nat × Int), (gc_T C k e q i n)[a]? = some t → gc_o en (n + a) t.2.2) → gv_wf f R x → gv_wf f R y → 0 ≤ gv_v C k x q → 0 ≤ gv_v C k y (q + (gv_v C k x q).toNat) → (∀ (a : Nat) (t : Nat × Nat × Int), (gc_T C k x q i n ++ gc_T C k y (q + (gv_v C k x q).toNat) i (n + (gc_T C k x q i n).length))[a]? = some t → en (n + a) = (t.2.1 : Nat)) → gc_x en q (gv_v C k x q + gv_v C k y (q + (gv_v C k x q).toNat)).toNat i n → ∀ (a : Nat) (t : Nat × Nat × Int), (gc_T C k x q i n ++ gc_T C k y (q + (gv_v C k x q).toNat) i (n + (gc_T C k x q i n).length))[a]? = some t → gc_o en (n + a) t.2.2 := by
    intro k x y q i n ih wx wy vx vy hen hx a t ht
    have ex : ∀ (a : Nat) (t : Nat × Nat × Int), (gc_T C k x q i n)[a]? = some t → en (n + a) = (t.2.1 : Nat) := fun a t h => hen a t (gc_app_l h)
    rcases gc_app ht with h | ⟨b, eb, h⟩
    · refine ih x q i n wx vx ex ⟨?_, hx.2⟩ a t h
      rcases hx.1 with w | ⟨w1, w2, w3⟩
      · exact Or.inl w
      · exact Or.inr ⟨w1, w2, by omega⟩
    · rw [eb, ← Nat.add_assoc]
      refine ih y (q + (gv_v C k x q).toNat) i (n + (gc_T C k x q i n).length) wy vy (fun a t h => by rw [Nat.add_assoc]; exact hen _ t (gc_app_r h)) ⟨?_, fun l l1 l2 => ?_⟩ b t h
      · rcases hx.1 with w | ⟨w1, w2, w3⟩
        · exact Or.inl w
        · exact Or.inr ⟨w1, by omega, by omega⟩
      · by_cases ln : l < n
        · have := hx.2 l l1 ln
          omega
        · obtain ⟨c, ec⟩ : ∃ c, l = n + c := ⟨l - n, by omega⟩
          have cl : c < (gc_T C k x q i n).length := by omega
          have s := List.getElem?_eq_getElem cl
          have e1 := ex c _ s
          have e2 := hend k x q i n wx vx c _ s
          rw [ec, e1]
          omega
  intro k
  induction k with
  | zero => intro e q i n _ hv; exact absurd (show (0 : Int) ≤ -2 from hv) (by decide)
  | succ k ih =>
    intro e q i n hwf hv hen hx a t ht
    cases e with
    | cat nm j =>
      obtain ⟨j3, -, w3⟩ := hwf
      by_cases j2 : j ≤ 2
      · rw [gc_T, if_pos j2] at ht; exact (gc_nil ht).elim
      · have e3 : j = 3 := by omega
        subst e3
        obtain ⟨c, e1, e2⟩ := w3 rfl
        subst e1
        exact ih (C.1 c) q i n (by rw [hC]; exact hf _ e2) hv hen hx a t ht
    | node nm j x =>
      obtain ⟨j6, j10, wx, wn⟩ := hwf
      have : j = 6 ∨ j = 7 ∨ j = 8 ∨ j = 9 ∨ j = 10 := by omega
      rcases this with q0 | q0 | q0 | q0 | q0
      · subst q0
        have ev : gv_v C (k + 1) (.node nm 6 x) q = if C.2.2.2 x q = true then (if gv_v C k x q = -1 then 0 else gv_v C k x q) else 0 := rfl
        have el : gc_T C (k + 1) (.node nm 6 x) q i n = if C.2.2.2 x q = true then (if gv_v C k x q = -1 then [] else gc_T C k x q i n) else [] := rfl
        rw [ev] at hv hx
        rw [el] at ht hen
        by_cases z : C.2.2.2 x q = true
        · rw [if_pos z] at hv ht hx hen
          by_cases c : gv_v C k x q = -1
          · rw [if_pos c] at ht; exact (gc_nil ht).elim
          · rw [if_neg c] at hv ht hx hen
            exact ih x q i n wx hv hen hx a t ht
        · rw [if_neg z] at ht; exact (gc_nil ht).elim
      · subst q0
        have ev : gv_v C (k + 1) (.node nm 7 x) q = if C.2.2.2 x q = true then (if gv_v C k x q = -1 then 0 else if gv_v C k x q = -2 then -2 else if gv_v C k (.node nm 7 x) (q + (gv_v C k x q).toNat) = -2 then -2 else gv_v C k x q + gv_v C k (.node nm 7 x) (q + (gv_v C k x q).toNat)) else 0 := rfl
        have el : gc_T C (k + 1) (.node nm 7 x) q i n = if C.2.2.2 x q = true then (if gv_v C k x q < 0 then [] else gc_T C k x q i n ++ gc_T C k (.node nm 7 x) (q + (gv_v C k x q).toNat) i (n + (gc_T C k x q i n).length)) else [] := rfl
        rw [ev] at hv hx
        rw [el] at ht hen
        by_cases z : C.2.2.2 x q = true
        · rw [if_pos z] at hv ht hx hen
          by_cases c : gv_v C k x q < 0
          · rw [if_pos c] at ht; exact (gc_nil ht).elim
          · rw [if_neg c] at ht hen
            rw [if_neg (show ¬ gv_v C k x q = -1 by omega), if_neg (show ¬ gv_v C k x q = -2 by omega)] at hv hx
            have sn := gv_star_ne C nm x k (q + (gv_v C k x q).toNat)
            have sg := gv_v_ge C k (.node nm 7 x) (q + (gv_v C k x q).toNat)
            by_cases s : gv_v C k (.node nm 7 x) (q + (gv_v C k x q).toNat) = -2
            · rw [if_pos s] at hv; exact absurd hv (by decide)
            · rw [if_neg s] at hv hx
              exact seq k x (.node nm 7 x) q i n ih wx ⟨j6, j10, wx, wn⟩ (by omega) (by omega) hen hx a t ht
        · rw [if_neg z] at ht; exact (gc_nil ht).elim
      · subst q0; exact (gc_nil (show ([] : List (Nat × Nat × Int))[a]? = some t from ht)).elim
      · subst q0; exact (gc_nil (show ([] : List (Nat × Nat × Int))[a]? = some t from ht)).elim
      · subst q0
        have ev : gv_v C (k + 1) (.node nm 10 x) q = gv_v C k x q := rfl
        have el : gc_T C (k + 1) (.node nm 10 x) q i n = (q, q + (gv_v C k x q).toNat, i) :: gc_T C k x q n (n + 1) := rfl
        rw [ev] at hv hx
        rw [el] at ht hen
        have nz : ¬ gv_v C k x q = 0 := fun h => wn (Or.inr rfl) (z0 k x q wx h)
        have e0 : en n = ((q + (gv_v C k x q).toNat : Nat) : Int) := hen 0 _ List.getElem?_cons_zero
        cases a with
        | zero =>
          rw [List.getElem?_cons_zero] at ht
          injection ht with ht
          rw [← ht, Nat.add_zero]
          refine ⟨?_, fun l l1 l2 => ?_⟩
          · rcases hx.1 with w | ⟨w1, w2, w3⟩
            · exact Or.inl w
            · exact Or.inr ⟨w1, w2, by rw [e0]; exact w3⟩
          · have := hx.2 l l1 l2
            rw [e0]
            omega
        | succ a =>
          rw [List.getElem?_cons_succ] at ht
          rw [show n + (a + 1) = n + 1 + a by omega]
          refine ih x q n (n + 1) wx hv (fun b s hs => ?_) ⟨Or.inr ⟨by omega, by omega, ?_⟩, fun l l1 l2 => absurd l1 (by omega)⟩ a t ht
          · rw [show n + 1 + b = n + (b + 1) by omega]
            exact hen (b + 1) s (by rw [List.getElem?_cons_succ]; exact hs)
          · rw [show ((n : Nat) : Int).toNat = n by omega, e0]
            exact Int.le_refl _
    | binary nm x y =>
      obtain ⟨wx, wy, j45, -⟩ := hwf
      by_cases n4 : gp_n2 nm = 4
      · have ev : gv_v C (k + 1) (.binary nm x y) q = if gv_v C k x q < 0 then gv_v C k x q else if gv_v C k y (q + (gv_v C k x q).toNat) < 0 then gv_v C k y (q + (gv_v C k x q).toNat) else gv_v C k x q + gv_v C k y (q + (gv_v C k x q).toNat) := if_pos n4
        have el : gc_T C (k + 1) (.binary nm x y) q i n = gc_T C k x q i n ++ gc_T C k y (q + (gv_v C k x q).toNat) i (n + (gc_T C k x q i n).length) := if_pos n4
        rw [ev] at hv hx
        rw [el] at ht hen
        by_cases c : gv_v C k x q < 0
        · rw [if_pos c] at hv; omega
        · rw [if_neg c] at hv hx
          by_cases d : gv_v C k y (q + (gv_v C k x q).toNat) < 0
          · rw [if_pos d] at hv; omega
          · rw [if_neg d] at hv hx
            exact seq k x y q i n ih wx wy (by omega) (by omega) hen hx a t ht
      · have ev : gv_v C (k + 1) (.binary nm x y) q = if C.2.2.2 x q = true then (if gv_v C k x q = -1 then gv_v C k y q else gv_v C k x q) else gv_v C k y q := if_neg n4
        have el : gc_T C (k + 1) (.binary nm x y) q i n = if C.2.2.2 x q = true then (if gv_v C k x q = -1 then gc_T C k y q i n else gc_T C k x q i n) else gc_T C k y q i n := if_neg n4
        rw [ev] at hv hx
        rw [el] at ht hen
        by_cases z : C.2.2.2 x q = true
        · rw [if_pos z] at hv ht hx hen
          by_cases c : gv_v C k x q = -1
          · rw [if_pos c] at hv ht hx hen
            exact ih y q i n wy hv hen hx a t ht
          · rw [if_neg c] at hv ht hx hen
            exact ih x q i n wx hv hen hx a t ht
        · rw [if_neg z] at hv ht hx hen
          exact ih y q i n wy hv hen hx a t ht
    | _ => exact absurd hwf (fun h => h)
/-- the class's search -/
theorem gc_out4 {x : Int32} {S : gm_S} {i : Nat} {w : Int} (hx : x.toInt = (i : Nat)) (hi : i < 275) (hw : gc_o (fun l => (S.1 1 l).toInt) i w) : ∀ (F : Nat) (v : Int32) (U : gm_S), -1 ≤ v.toInt → v.toInt < i → w ≤ v.toInt → v.toInt + 1 < F → (gm_f_Captures_outerOf_4 275 x S F v U).1.toInt = w := by
  have cx := gp_cl_n hx
  obtain ⟨w1, w2⟩ := hw
  intro F
  induction F with
  | zero => intro v U h1 h2 h3 h4; exfalso; omega
  | succ F ih =>
    intro v U h1 h2 h3 h4
    rw [gm_f_Captures_outerOf_4]
    have av := gx_ak v (-1) (-1) (by decide)
    by_cases a : v < 0
    · rw [if_pos a]
      have := gx_ltr (k := 0) (by decide) a
      show (-1 : Int32).toInt = w
      have n1 : (-1 : Int32).toInt = -1 := by decide
      rw [n1]
      rcases w1 with e | ⟨e, -⟩ <;> omega
    · rw [if_neg a]
      have a1 := gx_ltnr (k := 0) (by decide) a
      have cv := gx_cl v (by omega)
      rw [cx]
      by_cases b : S.1 1 (Int32.toNatClampNeg v) < S.1 1 i
      · rw [if_pos b]
        rw [Int32.lt_iff_toInt_lt] at b
        have wv : ¬ w = v.toInt := by
          intro e
          rcases w1 with e2 | ⟨-, -, e2⟩
          · omega
          · have e3 : w.toNat = Int32.toNatClampNeg v := by omega
            rw [e3] at e2
            have e2 : (S.1 1 i).toInt ≤ (S.1 1 (Int32.toNatClampNeg v)).toInt := e2
            omega
        refine ih (v + -1) S (by omega) (by omega) (by omega) (by omega)
      · rw [if_neg b]
        rw [Int32.lt_iff_toInt_lt] at b
        show v.toInt = w
        by_cases e : w = v.toInt
        · exact e.symm
        · have := w2 (Int32.toNatClampNeg v) (by omega) (by omega)
          have this : (S.1 1 (Int32.toNatClampNeg v)).toInt < (S.1 1 i).toInt := this
          omega
theorem gc_outerOf {x : Int32} {S : gm_S} {i : Nat} {w : Int} (hx : x.toInt = (i : Nat)) (hi : i < 275) (hw : gc_o (fun l => (S.1 1 l).toInt) i w) : (gm_f_Captures_outerOf 275 x S).1.toInt = w := by
  unfold gm_f_Captures_outerOf
  have s := gx_sk x 1 1 (by decide)
  have wl : w < i := by
    rcases hw.1 with e | ⟨-, e, -⟩
    · omega
    · exact e
  exact gc_out4 hx hi hw 6000 (x - 1) S (by omega) (by omega) (by omega) (by omega)
