/-! How many steps between tries: how costs are put together. -/
/-- what an expression costs by itself; ph c: what the rule of the name c costs that takes nothing -/
def gj_D (em : Lean.ParserDescr → Bool) (ph : Nat → Nat) : Lean.ParserDescr → Nat
  | .cat nm j => if j = 0 then 0 else if j = 1 then gp_n2 nm else if j = 2 then 1 else 2 + ph (gp_n1 nm)
  | .node _ j x => if j = 6 ∨ j = 7 then (if em x = true then 0 else 1) else if j = 10 then 2 + gj_D em ph x else 0
  | .binary nm x y => if gp_n2 nm = 4 then (if gp_n1 nm = 1 then 3 else 0) + gj_D em ph x + gj_D em ph y else (if em x = true then 0 else 1) + gj_D em ph y
  | _ => 0
/-- what it costs that takes nothing -/
def gj_Z (em : Lean.ParserDescr → Bool) (ph : Nat → Nat) : Lean.ParserDescr → Nat
  | .cat nm j => if em (.cat nm j) = true then (if j = 3 then 2 + ph (gp_n1 nm) else 0) else 0
  | .node nm j x => if em (.node nm j x) = true then (if j = 6 ∨ j = 7 then (if em x = true then 0 else 1) else 0) else 0
  | .binary nm x y => if em (.binary nm x y) = true then (if gp_n2 nm = 4 then gj_Z em ph x + gj_Z em ph y else (if em x = true then 0 else 1) + gj_Z em ph y) else 0
  | _ => 0
theorem gj_ZD (em : Lean.ParserDescr → Bool) (ph : Nat → Nat) : ∀ e : Lean.ParserDescr, gj_Z em ph e ≤ gj_D em ph e := by
  intro e
  induction e with
  | cat nm j =>
    unfold gj_Z gj_D
    by_cases a : em (.cat nm j) = true
    · rw [if_pos a]
      by_cases h3 : j = 3
      · rw [if_pos h3, if_neg (show ¬ j = 0 by omega), if_neg (show ¬ j = 1 by omega), if_neg (show ¬ j = 2 by omega)]
        exact Nat.le_refl _
      · rw [if_neg h3]; exact Nat.zero_le _
    · rw [if_neg a]; exact Nat.zero_le _
  | node nm j x ih =>
    unfold gj_Z gj_D
    by_cases a : em (.node nm j x) = true
    · rw [if_pos a]
      by_cases h : j = 6 ∨ j = 7
      · rw [if_pos h, if_pos h]; exact Nat.le_refl _
      · rw [if_neg h]; exact Nat.zero_le _
    · rw [if_neg a]; exact Nat.zero_le _
  | binary nm x y ih1 ih2 =>
    unfold gj_Z gj_D
    by_cases a : em (.binary nm x y) = true
    · rw [if_pos a]
      by_cases h : gp_n2 nm = 4
      · rw [if_pos h, if_pos h]; omega
      · rw [if_neg h, if_neg h]; omega
    · rw [if_neg a]; exact Nat.zero_le _
  | _ => exact Nat.le_refl _
/-- s steps, where bb tries are left and c are wanted: z if it takes nothing, d by itself, g by the rules that can begin it -/
def gj_Q (H G fed q bb : Nat) (v : Int) (c s z d g : Nat) : Prop :=
  (c ≤ bb → v = 0 → s ≤ z + G * c) ∧ (c ≤ bb → 0 < v → s ≤ d + g + H * (v.toNat - 1) + G * c) ∧ (c ≤ bb → v = -1 → s ≤ d + g + H * (fed - q) + G * c) ∧ (bb < c → s ≤ 3 + d + g + H * (fed - q) + G * bb)
theorem gj_m1 (G c : Nat) : G * (1 + c) = G + G * c := by rw [Nat.mul_add, Nat.mul_one]
theorem gj_m2 (G : Nat) {t b : Nat} (h : t ≤ b) : G * t + G * (b - t) = G * b := by rw [← Nat.mul_add, show t + (b - t) = b by omega]
theorem gj_try {Hd H G fed q bb : Nat} {v : Int} {c s z d g : Nat} (h : gj_Q H G fed q (bb - 1) v c s z d g) (hz : z ≤ d) (hd : d ≤ Hd) (hg : g ≤ H) (hv : -1 ≤ v) (hq : (q : Int) + v ≤ fed) (hq2 : q ≤ fed) (hf : fed ≤ 10) (hG : Hd + 11 * H + 6 ≤ G) : (1 + c ≤ bb → 3 + gv_g bb s ≤ G * (1 + c)) ∧ (bb < 1 + c → 3 + gv_g bb s ≤ 3 + G * bb) := by
  obtain ⟨h1, h2, h3, h4⟩ := h
  have m10 : H * (fed - q) ≤ H * 10 := Nat.mul_le_mul_left H (by omega)
  have m11 : H * (v.toNat - 1) ≤ H * 10 := Nat.mul_le_mul_left H (by omega)
  refine ⟨fun a => ?_, fun a => ?_⟩
  · have e : gv_g bb s = s := if_neg (by omega)
    rw [e, gj_m1]
    have : v = 0 ∨ 0 < v ∨ v = -1 := by omega
    rcases this with y | y | y
    · have := h1 (by omega) y; omega
    · have := h2 (by omega) y; omega
    · have := h3 (by omega) y; omega
  · by_cases b0 : bb = 0
    · have e : gv_g bb s = 0 := if_pos b0
      rw [e]; omega
    · have e : gv_g bb s = s := if_neg b0
      rw [e]
      have := h4 (by omega)
      have m := gj_m1 G (bb - 1)
      rw [show 1 + (bb - 1) = bb by omega] at m
      omega
/-- all is paid by the try -/
theorem gj_cheap {H G fed q bb : Nat} {v : Int} {c s z d g : Nat} (h1 : c ≤ bb → s ≤ G * c) (h2 : bb < c → s ≤ 3 + G * bb) : gj_Q H G fed q bb v c s z d g :=
  ⟨fun a _ => by have := h1 a; omega, fun a _ => by have := h1 a; omega, fun a _ => by have := h1 a; omega, fun a => by have := h2 a; omega⟩
theorem gj_h_y {t b n : Nat} (h : t ≤ b) : gv_h t b n = n := if_pos h
theorem gj_h_n {t b n : Nat} (h : b < t) : gv_h t b n = 0 := if_neg (by omega)
/-- what comes behind a try -/
theorem gj_then {H G fed q qy bb : Nat} {v vy : Int} {t1 s1 cy sy zy dy gy z d g : Nat} (h1 : t1 ≤ bb → s1 ≤ G * t1) (h2 : bb < t1 → s1 ≤ 3 + G * bb) (hy : gj_Q H G fed qy (bb - t1) vy cy sy zy dy gy) (hq : q ≤ qy) (k : dy + gy ≤ d + g) (kz : zy ≤ d + g) (k0 : v = 0 → vy = 0 ∧ zy ≤ z) (k1 : 0 < v → vy = 0 ∨ (0 < vy ∧ vy ≤ v)) (k2 : v = -1 → vy = -1) : gj_Q H G fed q bb v (t1 + cy) (s1 + gv_h t1 bb sy) z d g := by
  have m1 : G * (t1 + cy) = G * t1 + G * cy := Nat.mul_add ..
  have mq : H * (fed - qy) ≤ H * (fed - q) := Nat.mul_le_mul_left H (by omega)
  refine ⟨fun a b => ?_, fun a b => ?_, fun a b => ?_, fun a => ?_⟩
  · obtain ⟨e0, e1⟩ := k0 b
    have := hy.1 (by omega) e0
    have := h1 (by omega)
    rw [gj_h_y (by omega), m1]
    omega
  · have := h1 (by omega)
    rw [gj_h_y (by omega), m1]
    rcases k1 b with e | ⟨e, e2⟩
    · have := hy.1 (by omega) e
      omega
    · have := hy.2.1 (by omega) e
      have mv : H * (vy.toNat - 1) ≤ H * (v.toNat - 1) := Nat.mul_le_mul_left H (by omega)
      omega
  · have := h1 (by omega)
    have := hy.2.2.1 (by omega) (k2 b)
    rw [gj_h_y (by omega), m1]
    omega
  · by_cases t : t1 ≤ bb
    · have := h1 t
      have := hy.2.2.2 (by omega)
      have m := gj_m2 G t
      rw [gj_h_y t]
      omega
    · have := h2 (by omega)
      rw [gj_h_n (by omega)]
      omega
/-- a steps more -/
theorem gj_add {H G fed q bb : Nat} {v : Int} {c s z d g z' d' g' : Nat} (a : Nat) (h : gj_Q H G fed q bb v c s z d g) (hz : v = 0 → a + z ≤ z') (hd : a + d + g ≤ d' + g') : gj_Q H G fed q bb v c (a + s) z' d' g' := by
  obtain ⟨h1, h2, h3, h4⟩ := h
  exact ⟨fun x y => by have := h1 x y; have := hz y; omega, fun x y => by have := h2 x y; omega, fun x y => by have := h3 x y; omega, fun x => by have := h4 x; omega⟩
/-- one behind the other -/
theorem gj_seq {H G fed q bb : Nat} {vx vy : Int} {pre cx sx zx dx gx cy sy zy dy gy z d g : Nat} (hx : gj_Q H G fed q bb vx cx sx zx dx gx) (v0 : 0 ≤ vx) (hq : (q : Int) + vx ≤ fed) (hy : gj_Q H G fed (q + vx.toNat) (bb - cx) vy cy sy zy dy gy) (vy1 : -1 ≤ vy) (hyq : ((q + vx.toNat : Nat) : Int) + vy ≤ fed) (zx1 : zx ≤ dx) (zy1 : zy ≤ dy) (hd : pre + dx + dy ≤ d) (hgx : gx ≤ g) (hgy : gy ≤ H) (h0 : vx = 0 → gy ≤ g ∧ pre = 0 ∧ (vy = 0 → zx + zy ≤ z)) : gj_Q H G fed q bb (if vy < 0 then vy else vx + vy) (cx + cy) (pre + sx + gv_h cx bb sy) z d g := by
  obtain ⟨h0, -⟩ : ∃ _ : Unit → (vx = 0 → gy ≤ g ∧ pre = 0 ∧ (vy = 0 → zx + zy ≤ z)), True := ⟨fun _ => h0, trivial⟩
  have m1 : G * (cx + cy) = G * cx + G * cy := Nat.mul_add ..
  by_cases vz : vx = 0
  · obtain ⟨g1, g2, g3⟩ := h0 () vz
    obtain ⟨g3, -⟩ : ∃ _ : Unit → (vy = 0 → zx + zy ≤ z), True := ⟨fun _ => g3, trivial⟩
    have eq : q + vx.toNat = q := by omega
    rw [eq] at hy
    have vv : (if vy < 0 then vy else vx + vy) = vy := by
      by_cases n : vy < 0
      · rw [if_pos n]
      · rw [if_neg n]; omega
    rw [vv]
    refine ⟨fun a b => ?_, fun a b => ?_, fun a b => ?_, fun a => ?_⟩
    · have := hx.1 (by omega) vz
      have := hy.1 (by omega) b
      have := g3 () b
      rw [gj_h_y (by omega), m1]
      omega
    · have := hx.1 (by omega) vz
      have := hy.2.1 (by omega) b
      rw [gj_h_y (by omega), m1]
      omega
    · have := hx.1 (by omega) vz
      have := hy.2.2.1 (by omega) b
      rw [gj_h_y (by omega), m1]
      omega
    · by_cases t : cx ≤ bb
      · have := hx.1 t vz
        have := hy.2.2.2 (by omega)
        have m := gj_m2 G t
        rw [gj_h_y t]
        omega
      · have := hx.2.2.2 (by omega)
        rw [gj_h_n (by omega)]
        omega
  · have st : H * (vx.toNat - 1) + H * (fed - (q + vx.toNat)) + H = H * (fed - q) := by
      rw [show fed - q = (vx.toNat - 1) + (fed - (q + vx.toNat)) + 1 by omega, Nat.mul_add, Nat.mul_add, Nat.mul_one]
    refine ⟨fun a b => ?_, fun a b => ?_, fun a b => ?_, fun a => ?_⟩
    · exfalso
      by_cases n : vy < 0
      · rw [if_pos n] at b; omega
      · rw [if_neg n] at b; omega
    · have nn : ¬ vy < 0 := by
        intro n
        rw [if_pos n] at b
        omega
      rw [if_neg nn]
      have := hx.2.1 (by omega) (by omega)
      rw [gj_h_y (by omega), m1]
      by_cases yz : vy = 0
      · have := hy.1 (by omega) yz
        rw [yz, Int.add_zero]
        omega
      · have := hy.2.1 (by omega) (by omega)
        have e : H * ((vx + vy).toNat - 1) = H * (vx.toNat - 1) + H * (vy.toNat - 1) + H := by
          rw [show (vx + vy).toNat - 1 = (vx.toNat - 1) + (vy.toNat - 1) + 1 by omega, Nat.mul_add, Nat.mul_add, Nat.mul_one]
        rw [e]
        omega
    · have e : vy = -1 := by
        by_cases n : vy < 0
        · rw [if_pos n] at b; omega
        · rw [if_neg n] at b; omega
      have := hx.2.1 (by omega) (by omega)
      have := hy.2.2.1 (by omega) e
      rw [gj_h_y (by omega), m1]
      omega
    · by_cases t : cx ≤ bb
      · have := hx.2.1 t (by omega)
        have := hy.2.2.2 (by omega)
        have m := gj_m2 G t
        rw [gj_h_y t]
        omega
      · have := hx.2.2.2 (by omega)
        rw [gj_h_n (by omega)]
        omega
