/-! How many frames. -/
def gv_sd : Lean.ParserDescr → Nat
  | .node _ j x => (if j = 10 then 0 else 1) + gv_sd x
  | .binary nm x y => if gp_n1 nm = 1 then 1 + gv_sd x else (if gp_n2 nm = 4 then 0 else 1) + gv_sd x + gv_sd y
  | _ => 0
theorem gv_db {C : gv_C} {f : Nat → Int × Lean.ParserDescr} {R fed : Nat} {b : Lean.ParserDescr → Nat → Bool} (hb : gv_pb f R b) (hw : gs_no R (gq_wd f R)) (hC : ∀ c, C.1 c = (f (gq_fx f (c : Int) R)).2) (hf : ∀ r, r < R → gv_wf f R (f r).2) (hle : ∀ (k : Nat) (e : Lean.ParserDescr) (q : Nat), q ≤ fed → (q : Int) + gv_v C k e q ≤ fed) : ∀ (k : Nat) (e : Lean.ParserDescr) (q : Nat), gv_wf f R e → q ≤ fed → gv_d C k e q ≤ gv_sd e + gv_su (b e) (fun r => 1 + gv_sd (f r).2) R + gv_su (fun _ => true) (fun r => 1 + gv_sd (f r).2) R * (fed - q) := by
  have z0 := gv_z0 (C := C) (f := f) (R := R) rfl hC hf
  generalize hW : (fun r => 1 + gv_sd (f r).2) = W
  generalize hN : gv_su (fun _ => true) W R = N
  have all : ∀ e, gv_su (b e) W R ≤ N := fun e => by rw [← hN]; exact gv_su_le _ _ _
  have mono : ∀ q v : Nat, N * (fed - (q + v)) ≤ N * (fed - q) := fun q v => Nat.mul_le_mul_left N (by omega)
  have step : ∀ q v : Nat, 1 ≤ v → q + v ≤ fed → N * (fed - (q + v)) + N ≤ N * (fed - q) := fun q v h1 h2 => by
    have := Nat.mul_le_mul_left N (show fed - (q + v) + 1 ≤ fed - q by omega)
    rw [Nat.mul_add, Nat.mul_one] at this
    exact this
  intro k
  induction k with
  | zero => intro e q _ _; exact Nat.zero_le _
  | succ k ih =>
    intro e q hwf hq
    cases e with
    | cat nm j =>
      obtain ⟨j3, w1, w3⟩ := hwf
      by_cases j2 : j ≤ 2
      · have ed : gv_d C (k + 1) (.cat nm j) q = 0 := if_pos j2
        rw [ed]; exact Nat.zero_le _
      · have e3 : j = 3 := by omega
        subst e3
        obtain ⟨c, e1, e2⟩ := w3 rfl
        subst e1
        have ed : gv_d C (k + 1) (.cat (.num (.num .anonymous c) 0) 3) q = 1 + gv_d C k (C.1 c) q := rfl
        have i := ih (C.1 c) q (by rw [hC]; exact hf _ e2) hq
        have s : gv_su (b (f (gq_fx f (c : Int) R)).2) W R + W (gq_fx f (c : Int) R) ≤ gv_su (b (.cat (.num (.num .anonymous c) 0) 3)) W R := gv_sg_c hb W hw e2
        have w : W (gq_fx f (c : Int) R) = 1 + gv_sd (f (gq_fx f (c : Int) R)).2 := by rw [← hW]
        rw [hC] at i ed
        rw [ed]
        omega
    | node nm j x =>
      obtain ⟨j6, j10, wx, wn⟩ := hwf
      have i := ih x q wx hq
      have s := gv_sg_n (k := j) (nm := nm) (x := x) hb W
      have sd : gv_sd (.node nm j x) = (if j = 10 then 0 else 1) + gv_sd x := rfl
      rw [sd]
      have : j = 6 ∨ j = 7 ∨ j = 8 ∨ j = 9 ∨ j = 10 := by omega
      rcases this with q0 | q0 | q0 | q0 | q0
      · subst q0
        have ed : gv_d C (k + 1) (.node nm 6 x) q = if C.2.2.2 x q = true then 1 + gv_d C k x q else 0 := rfl
        rw [ed, if_neg (show ¬ (6 : Nat) = 10 by omega)]
        split <;> omega
      · subst q0
        have ed : gv_d C (k + 1) (.node nm 7 x) q = if C.2.2.2 x q = true then (if gv_v C k x q < 0 then 1 + gv_d C k x q else max (1 + gv_d C k x q) (gv_d C k (.node nm 7 x) (q + (gv_v C k x q).toNat))) else 0 := rfl
        rw [ed, if_neg (show ¬ (7 : Nat) = 10 by omega)]
        have l := hle k x q hq
        by_cases z : C.2.2.2 x q = true
        · rw [if_pos z]
          by_cases v0 : gv_v C k x q < 0
          · rw [if_pos v0]; omega
          · rw [if_neg v0]
            have i2 := ih (.node nm 7 x) (q + (gv_v C k x q).toNat) ⟨j6, j10, wx, wn⟩ (by omega)
            have sd7 : gv_sd (.node nm 7 x) = 1 + gv_sd x := rfl
            have m := mono q (gv_v C k x q).toNat
            rw [sd7] at i2
            omega
        · rw [if_neg z]; omega
      · subst q0
        have ed : gv_d C (k + 1) (.node nm 8 x) q = 1 + gv_d C k x q := rfl
        rw [ed, if_neg (show ¬ (8 : Nat) = 10 by omega)]; omega
      · subst q0
        have ed : gv_d C (k + 1) (.node nm 9 x) q = 1 + gv_d C k x q := rfl
        rw [ed, if_neg (show ¬ (9 : Nat) = 10 by omega)]; omega
      · subst q0
        have ed : gv_d C (k + 1) (.node nm 10 x) q = gv_d C k x q := rfl
        rw [ed, if_pos rfl]; omega
    | binary nm x y =>
      obtain ⟨wx, wy, n45, pl⟩ := hwf
      have i := ih x q wx hq
      have s1 := gv_sg_1 (nm := nm) (x := x) (y := y) hb W
      have g := gv_v_ge C k x q
      have l := hle k x q hq
      by_cases h4 : gp_n2 nm = 4
      · have ed : gv_d C (k + 1) (.binary nm x y) q = if gv_v C k x q < 0 then (if gp_n1 nm = 1 then 1 else 0) + gv_d C k x q else max ((if gp_n1 nm = 1 then 1 else 0) + gv_d C k x q) (gv_d C k y (q + (gv_v C k x q).toNat)) := if_pos h4
        have sdx : (if gp_n1 nm = 1 then 1 else 0) + gv_sd x ≤ gv_sd (.binary nm x y) ∧ gv_sd y ≤ gv_sd (.binary nm x y) := by
          have sd : gv_sd (.binary nm x y) = if gp_n1 nm = 1 then 1 + gv_sd x else (if gp_n2 nm = 4 then 0 else 1) + gv_sd x + gv_sd y := rfl
          rw [sd]
          by_cases n1 : gp_n1 nm = 1
          · rw [if_pos n1, if_pos n1, (pl n1).2]
            exact ⟨Nat.le_refl _, Nat.le_refl _⟩
          · rw [if_neg n1, if_neg n1, if_pos h4]
            omega
        rw [ed]
        by_cases v0 : gv_v C k x q < 0
        · rw [if_pos v0]; omega
        · rw [if_neg v0]
          have i2 := ih y (q + (gv_v C k x q).toNat) wy (by omega)
          by_cases vz : gv_v C k x q = 0
          · have s2 := gv_sg_2 (nm := nm) (x := x) (y := y) hb W (fun _ => z0 k x q wx vz)
            have m := mono q (gv_v C k x q).toNat
            omega
          · have a := all y
            have m := step q (gv_v C k x q).toNat (by omega) (by omega)
            omega
      · have ed : gv_d C (k + 1) (.binary nm x y) q = if C.2.2.2 x q = true then (if gv_v C k x q = -1 then max (1 + gv_d C k x q) (gv_d C k y q) else 1 + gv_d C k x q) else gv_d C k y q := if_neg h4
        have i2 := ih y q wy hq
        have s2 := gv_sg_2 (nm := nm) (x := x) (y := y) hb W (fun h => absurd h h4)
        by_cases n1 : gp_n1 nm = 1
        · exact absurd (pl n1).1 h4
        · have sd : gv_sd (.binary nm x y) = 1 + gv_sd x + gv_sd y := (if_neg n1).trans (by rw [if_neg h4])
          rw [ed, sd]
          split
          · split <;> omega
          · omega
    | _ => exact hwf.elim
