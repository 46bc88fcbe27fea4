/-! Expressions, and the reader of the reference as a machine over them. -/
def gp_n2 : Lean.Name → Nat
  | .num _ b => b
  | _ => 0
def gp_n1 : Lean.Name → Nat
  | .num p _ => gp_n2 p
  | _ => 0
abbrev gp_e0 (k a b : Nat) : Lean.ParserDescr := .cat (.num (.num .anonymous a) b) k
abbrev gp_e1 (k : Nat) (e : Lean.ParserDescr) : Lean.ParserDescr := .node .anonymous k e
abbrev gp_e2 (k : Nat) (e f : Lean.ParserDescr) : Lean.ParserDescr := .binary (.num .anonymous k) e f
/-- e+ : e and e*, marked, so that the class's code of it can be told -/
abbrev gp_ep (e : Lean.ParserDescr) : Lean.ParserDescr := .binary (.num (.num .anonymous 1) 4) e (gp_e1 7 e)
/-- all that is inside, and itself -/
def gp_sb : Lean.ParserDescr → List Lean.ParserDescr
  | .node nm k e => .node nm k e :: gp_sb e
  | .binary nm e f => .binary nm e f :: (gp_sb e ++ gp_sb f)
  | e => [e]
/-- captures inside captures -/
def gp_cd : Lean.ParserDescr → Nat
  | .node _ k e => if k = 10 then gp_cd e + 1 else gp_cd e
  | .binary _ e f => max (gp_cd e) (gp_cd f)
  | _ => 0
/-- an open bracket: its sign, the sign before it, items and alternatives, the latest first -/
abbrev gp_Fm : Type := Int × Int × List Lean.ParserDescr × List Lean.ParserDescr
/-- where it is, the sign before what comes, the open brackets, how many pairs and stars, how many captures -/
abbrev gp_Sg : Type := Nat × Int × List gp_Fm × Nat × Nat
def gp_pk (tx : Nat → Int) (ty i : Nat) : Int := if i < ty then tx i else 0
def gp_sx (c : Int) (e : Lean.ParserDescr) : Lean.ParserDescr := if c = 63 then gp_e1 6 e else if c = 42 then gp_e1 7 e else if c = 43 then gp_ep e else e
def gp_sn (p : Int) (e : Lean.ParserDescr) : Lean.ParserDescr := if p = 0 then e else if p = 38 then gp_e1 8 e else gp_e1 9 e
def gp_sa (c : Int) (a : Nat) : Nat := if c = 63 ∨ c = 42 ∨ c = 43 then a + 1 else a
def gp_sc (c : Int) : Nat := if c = 42 then 1 else if c = 43 then 2 else 0
def gp_ps (e : Lean.ParserDescr) : List gp_Fm → List gp_Fm
  | f :: fs => (f.1, f.2.1, e :: f.2.2.1, f.2.2.2) :: fs
  | [] => []
/-- a piece has been read: what stands behind and before it, and it is an item -/
def gp_pm (tx : Nat → Int) (ty : Nat) (e : Lean.ParserDescr) (s : gp_Sg) : gp_Sg :=
  (gp_sa (gp_pk tx ty s.1) s.1, 0, gp_ps (gp_sn s.2.1 (gp_sx (gp_pk tx ty s.1) e)) s.2.2.1, s.2.2.2.1 + gp_sc (gp_pk tx ty s.1), s.2.2.2.2)
def gp_jn (k : Nat) : List Lean.ParserDescr → Lean.ParserDescr
  | [] => gp_e0 0 0 0
  | x :: r => r.foldl (fun acc y => gp_e2 k y acc) x
def gp_es : List gp_Fm → List gp_Fm
  | f :: fs => (f.1, f.2.1, [], gp_jn 4 f.2.2.1 :: f.2.2.2) :: fs
  | [] => []
/-- what a step comes to: refused at a place; further; the rule is read -/
abbrev gp_Rs : Type := Nat ⊕ (gp_Sg ⊕ (Nat × Lean.ParserDescr × Nat × Nat))
def gp_cw (tx : Nat → Int) (ty : Nat) (s : gp_Sg) : gp_Rs :=
  match s.2.2.1 with
  | [] => .inl s.1
  | f :: fs => if f.1 = 59 then .inr (.inr (s.1, gp_jn 5 (gp_jn 4 f.2.2.1 :: f.2.2.2), s.2.2.2.1 + (f.2.2.1.length - 1), s.2.2.2.2))
    else if f.1 = 123 then .inr (.inl (gp_pm tx ty (gp_e1 10 (gp_jn 5 (gp_jn 4 f.2.2.1 :: f.2.2.2))) (s.1, f.2.1, fs, s.2.2.2.1 + (f.2.2.1.length - 1), s.2.2.2.2 + 1)))
    else .inr (.inl (gp_pm tx ty (gp_jn 5 (gp_jn 4 f.2.2.1 :: f.2.2.2)) (s.1, f.2.1, fs, s.2.2.2.1 + (f.2.2.1.length - 1), s.2.2.2.2)))
def gp_cg (b : Int) : Int := if b = 40 then 41 else if b = 123 then 125 else 59
/-- the sign of the latest open bracket -/
def gp_tb : List gp_Fm → Int
  | f :: _ => f.1
  | [] => 0
def gp_nis : List gp_Fm → Nat
  | f :: _ => f.2.2.1.length - 1
  | [] => 0
def gp_sg (tx : Nat → Int) (ty : Nat) (c : Int) (s : gp_Sg) : gp_Rs :=
  if c = 38 ∨ c = 33 then .inr (.inl (s.1 + 1, c, s.2.2))
  else if c = 47 then .inr (.inl (s.1 + 1, s.2.1, gp_es s.2.2.1, s.2.2.2.1 + gp_nis s.2.2.1, s.2.2.2.2))
  else if c = gp_cg (gp_tb s.2.2.1) then gp_cw tx ty (s.1 + 1, s.2)
  else .inl s.1
/-- where a row ends -/
def gp_rw (tx : Nat → Int) (ty i : Nat) : Nat := if _h : i < ty ∧ ¬ tx i = 39 then gp_rw tx ty (i + 1) else i
termination_by ty - i
decreasing_by omega
/-- the next item of a class -/
def gp_cn (tx : Nat → Int) (ty i : Nat) : Nat := if gp_pk tx ty (i + 1) = 45 ∧ i + 2 < ty ∧ ¬ tx (i + 2) = 93 ∧ tx i ≤ tx (i + 2) then i + 3 else i + 1
theorem gp_cn_lt (tx : Nat → Int) (ty i : Nat) : i < gp_cn tx ty i := by
  unfold gp_cn
  split
  · omega
  · omega
/-- where a class ends -/
def gp_cl (tx : Nat → Int) (ty i : Nat) : Nat := if _h : i < ty ∧ ¬ tx i = 93 then gp_cl tx ty (gp_cn tx ty i) else i
termination_by ty - i
decreasing_by have := gp_cn_lt tx ty i; omega
/-- one step: a piece, a bracket, or a sign -/
def gp_ms (tx : Nat → Int) (ty : Nat) (s : gp_Sg) : gp_Rs :=
  if 65 ≤ gp_pk tx ty s.1 ∧ gp_pk tx ty s.1 ≤ 90 then .inr (.inl (gp_pm tx ty (gp_e0 3 (gp_pk tx ty s.1).toNat 0) (s.1 + 1, s.2)))
  else if gp_pk tx ty s.1 = 46 then .inr (.inl (gp_pm tx ty (gp_e0 2 (s.1 + 1) (s.1 + 1)) (s.1 + 1, s.2)))
  else if gp_pk tx ty s.1 = 39 then
    (if gp_pk tx ty (gp_rw tx ty (s.1 + 1)) = 0 ∨ gp_rw tx ty (s.1 + 1) = s.1 + 1 then .inl (gp_rw tx ty (s.1 + 1))
    else .inr (.inl (gp_pm tx ty (gp_e0 1 (s.1 + 1) (gp_rw tx ty (s.1 + 1) - (s.1 + 1))) (gp_rw tx ty (s.1 + 1) + 1, s.2))))
  else if gp_pk tx ty s.1 = 91 then
    (if gp_pk tx ty (gp_cl tx ty (s.1 + 1)) = 0 ∨ gp_cl tx ty (s.1 + 1) = s.1 + 1 then .inl (gp_cl tx ty (s.1 + 1))
    else .inr (.inl (gp_pm tx ty (gp_e0 2 (s.1 + 1) (gp_cl tx ty (s.1 + 1))) (gp_cl tx ty (s.1 + 1) + 1, s.2))))
  else if (gp_pk tx ty s.1 = 40 ∨ gp_pk tx ty s.1 = 123) ∧ s.2.2.1.length < 7 then .inr (.inl (s.1 + 1, 0, (gp_pk tx ty s.1, s.2.1, [], []) :: s.2.2.1, s.2.2.2))
  else if s.2.1 = 0 then gp_sg tx ty (gp_pk tx ty s.1) s
  else .inl s.1
theorem gp_rw_ge (tx : Nat → Int) (ty : Nat) : ∀ (k i : Nat), ty - i ≤ k → i ≤ gp_rw tx ty i := by
  intro k
  induction k with
  | zero =>
    intro i hi
    rw [gp_rw]
    split
    · omega
    · exact Nat.le_refl i
  | succ k ih =>
    intro i hi
    rw [gp_rw]
    split
    · have := ih (i + 1) (by omega); omega
    · exact Nat.le_refl i
theorem gp_cl_ge (tx : Nat → Int) (ty : Nat) : ∀ (k i : Nat), ty - i ≤ k → i ≤ gp_cl tx ty i := by
  intro k
  induction k with
  | zero =>
    intro i hi
    rw [gp_cl]
    split
    · omega
    · exact Nat.le_refl i
  | succ k ih =>
    intro i hi
    rw [gp_cl]
    split
    · have a := gp_cn_lt tx ty i
      have := ih (gp_cn tx ty i) (by omega); omega
    · exact Nat.le_refl i
/-! What the steps keep: how many pairs, stars and captures a text can make, and how deep captures are. -/
def gp_ni : List gp_Fm → Nat
  | f :: fs => f.2.2.1.length + gp_ni fs
  | [] => 0
def gp_dp : List gp_Fm → Prop
  | f :: fs => (fs.length ≤ 6 ∧ ((fs.length = 0 ∧ f.1 = 59) ∨ (1 ≤ fs.length ∧ (f.1 = 40 ∨ f.1 = 123)))) ∧ (∀ e, e ∈ f.2.2.1 → gp_cd e + fs.length ≤ 6) ∧ (∀ e, e ∈ f.2.2.2 → gp_cd e + fs.length ≤ 6) ∧ gp_dp fs
  | [] => True
/-- what a step keeps; R rules were read before -/
def gp_kp (R : Nat) (s : gp_Sg) : Prop := 2 * s.2.2.2.1 + 2 * gp_ni s.2.2.1 ≤ 3 * s.1 ∧ 2 * s.2.2.2.2 + 3 * R + 1 + s.2.2.1.length ≤ s.1 ∧ gp_dp s.2.2.1 ∧ 1 ≤ s.2.2.1.length
/-- the same, of a machine that has a piece in hand -/
def gp_kq (R : Nat) (e : Lean.ParserDescr) (s : gp_Sg) : Prop := 2 * s.2.2.2.1 + 2 * gp_ni s.2.2.1 + 3 ≤ 3 * s.1 ∧ 2 * s.2.2.2.2 + 3 * R + 1 + s.2.2.1.length ≤ s.1 ∧ gp_dp s.2.2.1 ∧ 1 ≤ s.2.2.1.length ∧ gp_cd e + (s.2.2.1.length - 1) ≤ 6
theorem gp_cd_sx (c : Int) (e : Lean.ParserDescr) : gp_cd (gp_sx c e) = gp_cd e := by
  unfold gp_sx
  split
  · rfl
  · split
    · rfl
    · split
      · show max (gp_cd e) (gp_cd e) = gp_cd e
        omega
      · rfl
theorem gp_cd_sn (p : Int) (e : Lean.ParserDescr) : gp_cd (gp_sn p e) = gp_cd e := by
  unfold gp_sn
  split
  · rfl
  · split
    · rfl
    · rfl
theorem gp_cd_fo (k D : Nat) : ∀ (r : List Lean.ParserDescr) (x : Lean.ParserDescr), gp_cd x ≤ D → (∀ e, e ∈ r → gp_cd e ≤ D) → gp_cd (r.foldl (fun acc y => gp_e2 k y acc) x) ≤ D := by
  intro r
  induction r with
  | nil => intro x hx h; exact hx
  | cons y r ih =>
    intro x hx h
    rw [List.foldl_cons]
    refine ih _ ?_ (fun e he => h e (List.mem_cons_of_mem _ he))
    show max (gp_cd y) (gp_cd x) ≤ D
    have := h y (List.mem_cons_self ..)
    omega
theorem gp_cd_jn (k D : Nat) (l : List Lean.ParserDescr) (h : ∀ e, e ∈ l → gp_cd e ≤ D) : gp_cd (gp_jn k l) ≤ D := by
  cases l with
  | nil => exact Nat.zero_le D
  | cons x r => exact gp_cd_fo k D r x (h x (List.mem_cons_self ..)) (fun e he => h e (List.mem_cons_of_mem _ he))
theorem gp_pm_kp (tx : Nat → Int) (ty R : Nat) (e : Lean.ParserDescr) (s : gp_Sg) (h : gp_kq R e s) : gp_kp R (gp_pm tx ty e s) ∧ s.1 ≤ (gp_pm tx ty e s).1 := by
  obtain ⟨a, p, fs, nA, nC⟩ := s
  obtain ⟨h1, h2, h3, h4, h5⟩ := h
  cases fs with
  | nil => exact absurd h4 (by show ¬ 1 ≤ 0; omega)
  | cons f fs =>
    obtain ⟨b, q, is, as⟩ := f
    have h1 : 2 * nA + 2 * (is.length + gp_ni fs) + 3 ≤ 3 * a := h1
    have h2 : 2 * nC + 3 * R + 1 + (fs.length + 1) ≤ a := h2
    have h5 : gp_cd e + (fs.length + 1 - 1) ≤ 6 := h5
    obtain ⟨d1, d2, d3, d4⟩ := h3
    have key : ∀ c : Int, gp_kp R (gp_sa c a, 0, (b, q, gp_sn p (gp_sx c e) :: is, as) :: fs, nA + gp_sc c, nC) ∧ a ≤ gp_sa c a := by
      intro c
      have sa : a ≤ gp_sa c a ∧ 2 * gp_sc c + 2 + 3 * a ≤ 3 * gp_sa c a + 3 := by
        unfold gp_sa gp_sc
        by_cases c1 : c = 63
        · rw [if_pos (Or.inl c1), if_neg (by omega), if_neg (by omega)]; omega
        · by_cases c2 : c = 42
          · rw [if_pos (Or.inr (Or.inl c2)), if_pos c2]; omega
          · by_cases c3 : c = 43
            · rw [if_pos (Or.inr (Or.inr c3)), if_neg c2, if_pos c3]; omega
            · rw [if_neg (by omega), if_neg c2, if_neg c3]; omega
      refine ⟨⟨?_, ?_, ⟨d1, ?_, d3, d4⟩, ?_⟩, sa.1⟩
      · show 2 * (nA + gp_sc c) + 2 * (is.length + 1 + gp_ni fs) ≤ 3 * gp_sa c a
        omega
      · show 2 * nC + 3 * R + 1 + (fs.length + 1) ≤ gp_sa c a
        omega
      · intro x hx
        rcases List.mem_cons.mp hx with hx | hx
        · rw [hx, gp_cd_sn, gp_cd_sx]
          omega
        · exact d2 x hx
      · show 1 ≤ fs.length + 1
        omega
    exact key (gp_pk tx ty a)
theorem gp_cw_kp (tx : Nat → Int) (ty R : Nat) (s : gp_Sg) (h1 : 2 * s.2.2.2.1 + 2 * gp_ni s.2.2.1 + 3 ≤ 3 * s.1) (h2 : 2 * s.2.2.2.2 + 3 * R + 2 + s.2.2.1.length ≤ s.1) (h3 : gp_dp s.2.2.1) :
    (∀ t, gp_cw tx ty s = .inr (.inl t) → gp_kp R t ∧ s.1 ≤ t.1) ∧ (∀ a e nA nC, gp_cw tx ty s = .inr (.inr (a, e, nA, nC)) → a = s.1 ∧ 2 * nA ≤ 3 * a ∧ 2 * nC + 3 * (R + 1) ≤ a ∧ gp_cd e ≤ 6) := by
  obtain ⟨a, p, fs, nA, nC⟩ := s
  cases fs with
  | nil => exact ⟨fun t q => (by cases q), fun a e nA nC q => by cases q⟩
  | cons f fs =>
    obtain ⟨b, q, is, as⟩ := f
    have h1 : 2 * nA + 2 * (is.length + gp_ni fs) + 3 ≤ 3 * a := h1
    have h2 : 2 * nC + 3 * R + 2 + (fs.length + 1) ≤ a := h2
    obtain ⟨d1, d2, d3, d4⟩ := h3
    have hc : gp_cd (gp_jn 5 (gp_jn 4 is :: as)) + fs.length ≤ 6 := by
      have u := gp_cd_jn 4 (6 - fs.length) is (fun e he => by have : gp_cd e + fs.length ≤ 6 := d2 e he; omega)
      have v := gp_cd_jn 5 (6 - fs.length) (gp_jn 4 is :: as) (fun e he => by
        rcases List.mem_cons.mp he with he | he
        · rw [he]; exact u
        · have : gp_cd e + fs.length ≤ 6 := d3 e he
          omega)
      have d1 : fs.length ≤ 6 := d1.1
      omega
    have d1' : fs.length ≤ 6 ∧ ((fs.length = 0 ∧ b = 59) ∨ (1 ≤ fs.length ∧ (b = 40 ∨ b = 123))) := d1
    have hb : ¬ b = 59 → 1 ≤ fs.length := fun q => by rcases d1'.2 with t | t; (exact absurd t.2 q); (exact t.1)
    by_cases b1 : b = 59
    · have e : gp_cw tx ty (a, p, (b, q, is, as) :: fs, nA, nC) = .inr (.inr (a, gp_jn 5 (gp_jn 4 is :: as), nA + (is.length - 1), nC)) := if_pos b1
      rw [e]
      refine ⟨fun t q => (by cases q), fun a' e' nA' nC' q => ?_⟩
      cases q
      exact ⟨rfl, by omega, by omega, by omega⟩
    · by_cases b2 : b = 123
      · have e : gp_cw tx ty (a, p, (b, q, is, as) :: fs, nA, nC) = .inr (.inl (gp_pm tx ty (gp_e1 10 (gp_jn 5 (gp_jn 4 is :: as))) (a, q, fs, nA + (is.length - 1), nC + 1))) := (if_neg b1).trans (if_pos b2)
        rw [e]
        refine ⟨fun t q => ?_, fun a' e' nA' nC' q => by cases q⟩
        cases q
        refine gp_pm_kp tx ty R _ _ ⟨?_, ?_, d4, hb b1, ?_⟩
        · show 2 * (nA + (is.length - 1)) + 2 * gp_ni fs + 3 ≤ 3 * a
          omega
        · show 2 * (nC + 1) + 3 * R + 1 + fs.length ≤ a
          omega
        · show gp_cd (gp_jn 5 (gp_jn 4 is :: as)) + 1 + (fs.length - 1) ≤ 6
          have := hb b1
          omega
      · have e : gp_cw tx ty (a, p, (b, q, is, as) :: fs, nA, nC) = .inr (.inl (gp_pm tx ty (gp_jn 5 (gp_jn 4 is :: as)) (a, q, fs, nA + (is.length - 1), nC))) := (if_neg b1).trans (if_neg b2)
        rw [e]
        refine ⟨fun t q => ?_, fun a' e' nA' nC' q => by cases q⟩
        cases q
        refine gp_pm_kp tx ty R _ _ ⟨?_, ?_, d4, hb b1, ?_⟩
        · show 2 * (nA + (is.length - 1)) + 2 * gp_ni fs + 3 ≤ 3 * a
          omega
        · show 2 * nC + 3 * R + 1 + fs.length ≤ a
          omega
        · show gp_cd (gp_jn 5 (gp_jn 4 is :: as)) + (fs.length - 1) ≤ 6
          omega
theorem gp_es_dp {f : gp_Fm} {fs : List gp_Fm} (h : gp_dp (f :: fs)) : gp_dp (gp_es (f :: fs)) := by
  obtain ⟨d1, d2, d3, d4⟩ := h
  refine ⟨d1, fun e he => (by cases he), fun e he => ?_, d4⟩
  have he : e ∈ gp_jn 4 f.2.2.1 :: f.2.2.2 := he
  rcases List.mem_cons.mp he with he | he
  · have u := gp_cd_jn 4 (6 - fs.length) f.2.2.1 (fun e he => by have : gp_cd e + fs.length ≤ 6 := d2 e he; omega)
    have d1 : fs.length ≤ 6 := d1.1
    rw [he]
    omega
  · exact d3 e he
/-- a step keeps it, and goes on in the text -/
theorem gp_ms_kp (tx : Nat → Int) (ty R : Nat) (s : gp_Sg) (h : gp_kp R s) :
    (∀ t, gp_ms tx ty s = .inr (.inl t) → gp_kp R t ∧ s.1 < t.1) ∧ (∀ a e nA nC, gp_ms tx ty s = .inr (.inr (a, e, nA, nC)) → s.1 < a ∧ 2 * nA ≤ 3 * a ∧ 2 * nC + 3 * (R + 1) ≤ a ∧ gp_cd e ≤ 6) := by
  obtain ⟨a, p, fs, nA, nC⟩ := s
  obtain ⟨h1, h2, h3, h4⟩ := h
  cases fs with
  | nil => exact absurd h4 (by show ¬ 1 ≤ 0; omega)
  | cons f fs =>
    have h1 : 2 * nA + 2 * gp_ni (f :: fs) ≤ 3 * a := h1
    have h2 : 2 * nC + 3 * R + 1 + (fs.length + 1) ≤ a := h2
    have h3 : gp_dp (f :: fs) := h3
    have d1 : fs.length ≤ 6 := h3.1.1
    have pm : ∀ (e : Lean.ParserDescr) (b : Nat), gp_cd e = 0 → a < b → gp_kp R (gp_pm tx ty e (b, p, f :: fs, nA, nC)) ∧ a < (gp_pm tx ty e (b, p, f :: fs, nA, nC)).1 := by
      intro e b he hb
      have := gp_pm_kp tx ty R e (b, p, f :: fs, nA, nC) ⟨by show 2 * nA + 2 * gp_ni (f :: fs) + 3 ≤ 3 * b; omega, by show 2 * nC + 3 * R + 1 + (fs.length + 1) ≤ b; omega, h3, by show 1 ≤ fs.length + 1; omega, by show gp_cd e + (fs.length + 1 - 1) ≤ 6; omega⟩
      have q : b ≤ (gp_pm tx ty e (b, p, f :: fs, nA, nC)).1 := this.2
      exact ⟨this.1, by omega⟩
    unfold gp_ms
    dsimp only
    generalize hc : gp_pk tx ty a = c
    split
    · refine ⟨fun t q => ?_, fun a' e' nA' nC' q => by cases q⟩
      cases q
      exact pm _ _ rfl (by omega)
    split
    · refine ⟨fun t q => ?_, fun a' e' nA' nC' q => by cases q⟩
      cases q
      exact pm _ _ rfl (by omega)
    split
    · split
      · exact ⟨fun t q => (by cases q), fun a' e' nA' nC' q => by cases q⟩
      · refine ⟨fun t q => ?_, fun a' e' nA' nC' q => by cases q⟩
        cases q
        have := gp_rw_ge tx ty (ty - (a + 1)) (a + 1) (Nat.le_refl _)
        exact pm _ _ rfl (by show a < gp_rw tx ty (a + 1) + 1; omega)
    split
    · split
      · exact ⟨fun t q => (by cases q), fun a' e' nA' nC' q => by cases q⟩
      · refine ⟨fun t q => ?_, fun a' e' nA' nC' q => by cases q⟩
        cases q
        have := gp_cl_ge tx ty (ty - (a + 1)) (a + 1) (Nat.le_refl _)
        exact pm _ _ rfl (by show a < gp_cl tx ty (a + 1) + 1; omega)
    split
    · rename_i hq
      refine ⟨fun t q => ?_, fun a' e' nA' nC' q => by cases q⟩
      cases q
      refine ⟨⟨?_, ?_, ⟨⟨?_, Or.inr ⟨?_, hq.1⟩⟩, fun e he => (by cases he), fun e he => (by cases he), h3⟩, ?_⟩, by show a < a + 1; omega⟩
      · show 2 * nA + 2 * (0 + gp_ni (f :: fs)) ≤ 3 * (a + 1)
        omega
      · show 2 * nC + 3 * R + 1 + (fs.length + 1 + 1) ≤ a + 1
        omega
      · have : fs.length + 1 < 7 := hq.2
        show fs.length + 1 ≤ 6
        omega
      · show 1 ≤ fs.length + 1
        omega
      · show 1 ≤ fs.length + 1 + 1
        omega
    split
    · unfold gp_sg
      split
      · refine ⟨fun t q => ?_, fun a' e' nA' nC' q => by cases q⟩
        cases q
        refine ⟨⟨?_, ?_, h3, ?_⟩, by show a < a + 1; omega⟩
        · show 2 * nA + 2 * gp_ni (f :: fs) ≤ 3 * (a + 1)
          omega
        · show 2 * nC + 3 * R + 1 + (fs.length + 1) ≤ a + 1
          omega
        · show 1 ≤ fs.length + 1
          omega
      split
      · refine ⟨fun t q => ?_, fun a' e' nA' nC' q => by cases q⟩
        cases q
        have h1 : 2 * nA + 2 * (f.2.2.1.length + gp_ni fs) ≤ 3 * a := h1
        refine ⟨⟨?_, ?_, gp_es_dp h3, ?_⟩, by show a < a + 1; omega⟩
        · show 2 * (nA + (f.2.2.1.length - 1)) + 2 * (0 + gp_ni fs) ≤ 3 * (a + 1)
          omega
        · show 2 * nC + 3 * R + 1 + (fs.length + 1) ≤ a + 1
          omega
        · show 1 ≤ fs.length + 1
          omega
      split
      · have w := gp_cw_kp tx ty R (a + 1, p, f :: fs, nA, nC) (by show 2 * nA + 2 * gp_ni (f :: fs) + 3 ≤ 3 * (a + 1); omega) (by show 2 * nC + 3 * R + 2 + (fs.length + 1) ≤ a + 1; omega) h3
        refine ⟨fun t q => ?_, fun a' e' nA' nC' q => ?_⟩
        · have := w.1 t q
          have u : a + 1 ≤ t.1 := this.2
          exact ⟨this.1, by show a < t.1; omega⟩
        · have := w.2 a' e' nA' nC' q
          have u : a' = a + 1 := this.1
          exact ⟨by show a < a'; omega, this.2⟩
      · exact ⟨fun t q => (by cases q), fun a' e' nA' nC' q => by cases q⟩
    · exact ⟨fun t q => (by cases q), fun a' e' nA' nC' q => by cases q⟩
