/-! Ways up where only some places are looked at from below: rest comes after as many ways as these are, and one. -/
theorem gq_it_fix {F : (Nat → Bool) → Nat → Bool} (hF : gp_mon F) {N R : Nat} {rt : Nat → Nat} {x : Nat → Bool} (hx : gp_sup F N x) (hD : ∀ (y z : Nat → Bool) (n : Nat), n < N → (∀ k, k < n → y k = z k) → (∀ j, j < R → y (rt j) = z (rt j)) → z n = F y n → F z n = F y n) : ∀ n, n < N → F (gp_it F N (R + 1) x) n = gp_it F N (R + 1) x n := by
  have main : ∀ r, (∀ n, n < N → F (gp_it F N r x) n = gp_it F N r x n) ∨ r ≤ gp_c (fun j => gp_it F N r x (rt j)) R := by
    intro r
    induction r with
    | zero => exact Or.inr (Nat.zero_le _)
    | succ r ih =>
      rcases ih with h | h
      · left
        have e : gp_it F N (r + 1) x = gp_it F N r x := gp_fix_sw h N (Nat.le_refl N)
        rw [e]; exact h
      · have s := gp_it_sup hF hx r
        have g := (gp_sw_ge hF s N (Nat.le_refl N)).1
        have ez : gp_it F N (r + 1) x = gp_sw F N (gp_it F N r x) := rfl
        rw [ez]
        generalize gp_it F N r x = y at h s g
        by_cases q : ∀ j, j < R → gp_sw F N y (rt j) = true → y (rt j) = true
        · left
          intro n hn
          have zn : gp_sw F N y n = F (gp_sw F n y) n := by
            rw [gp_sw_keep (n := n + 1) N n (by omega) (by omega)]
            exact if_pos rfl
          refine (hD (gp_sw F n y) (gp_sw F N y) n hn (fun k hk => (gp_sw_keep N k hk (by omega)).symm) (fun j hj => ?_) zn).trans zn.symm
          by_cases w : rt j < n
          · exact (gp_sw_keep N (rt j) w (by omega)).symm
          · rw [gp_sw_hi n (rt j) (by omega)]
            have a := q j hj
            have b := g (rt j)
            cases h1 : gp_sw F N y (rt j) <;> cases h2 : y (rt j) <;> simp_all
        · right
          have q' : ∃ j, j < R ∧ gp_sw F N y (rt j) = true ∧ ¬ y (rt j) = true := by
            apply Classical.byContradiction
            intro no
            exact q (fun k hk h1 => Classical.byContradiction (fun h2 => no ⟨k, hk, h1, h2⟩))
          obtain ⟨j, hj, h1, h2⟩ := q'
          have l := gp_c_lt (x := fun j => y (rt j)) (y := fun j => gp_sw F N y (rt j)) (n := R) (fun k _ hk => g (rt k) hk) hj h1 h2
          omega
  rcases main (R + 1) with h | h
  · exact h
  · have := gp_c_le (fun j => gp_it F N (R + 1) x (rt j)) R
    omega
/-! What can be empty, said of expressions; E says it of names. -/
def gq_em (E : Nat → Prop) : Lean.ParserDescr → Prop
  | .cat nm k => k = 0 ∨ (k = 3 ∧ E (gp_n1 nm))
  | .node _ k e => k = 10 → gq_em E e
  | .binary nm e f => (gp_n2 nm = 4 ∧ gq_em E e ∧ gq_em E f) ∨ (¬ gp_n2 nm = 4 ∧ (gq_em E e ∨ gq_em E f))
  | _ => False
theorem gq_em_mono {E E' : Nat → Prop} (h : ∀ c, E c → E' c) : ∀ e : Lean.ParserDescr, gq_em E e → gq_em E' e := by
  intro e
  induction e with
  | cat nm k =>
    rintro (q | ⟨q1, q2⟩)
    · exact Or.inl q
    · exact Or.inr ⟨q1, h _ q2⟩
  | node nm k e ih => intro q w; exact ih (q w)
  | binary nm e f ih1 ih2 =>
    rintro (⟨q1, q2, q3⟩ | ⟨q1, q2⟩)
    · exact Or.inl ⟨q1, ih1 q2, ih2 q3⟩
    · exact Or.inr ⟨q1, q2.elim (fun w => Or.inl (ih1 w)) (fun w => Or.inr (ih2 w))⟩
  | _ => intro q; exact q
theorem gq_em_f4 (E : Nat → Prop) : ∀ (r : List Lean.ParserDescr) (x : Lean.ParserDescr), gq_em E (r.foldl (fun acc y => gp_e2 4 y acc) x) ↔ (gq_em E x ∧ ∀ e, e ∈ r → gq_em E e) := by
  intro r
  induction r with
  | nil => intro x; exact ⟨fun h => ⟨h, fun e he => by cases he⟩, fun h => h.1⟩
  | cons y r ih =>
    intro x
    rw [List.foldl_cons, ih]
    constructor
    · rintro ⟨h1, h2⟩
      rcases h1 with ⟨-, h3, h4⟩ | ⟨h3, -⟩
      · refine ⟨h4, fun e he => ?_⟩
        rcases List.mem_cons.mp he with he | he
        · rw [he]; exact h3
        · exact h2 e he
      · exact absurd rfl h3
    · rintro ⟨h1, h2⟩
      exact ⟨Or.inl ⟨rfl, h2 y (List.mem_cons_self ..), h1⟩, fun e he => h2 e (List.mem_cons_of_mem _ he)⟩
theorem gq_em_4 (E : Nat → Prop) (es : List Lean.ParserDescr) : gq_em E (gp_jn 4 es) ↔ ∀ e, e ∈ es → gq_em E e := by
  cases es with
  | nil => exact ⟨fun _ e he => (by cases he), fun _ => Or.inl rfl⟩
  | cons x r =>
    refine (gq_em_f4 E r x).trans ⟨fun h e he => ?_, fun h => ⟨h x (List.mem_cons_self ..), fun e he => h e (List.mem_cons_of_mem _ he)⟩⟩
    rcases List.mem_cons.mp he with he | he
    · rw [he]; exact h.1
    · exact h.2 e he
theorem gq_em_f5 (E : Nat → Prop) : ∀ (r : List Lean.ParserDescr) (x : Lean.ParserDescr), gq_em E (r.foldl (fun acc y => gp_e2 5 y acc) x) ↔ (gq_em E x ∨ ∃ e, e ∈ r ∧ gq_em E e) := by
  intro r
  induction r with
  | nil => intro x; exact ⟨fun h => Or.inl h, fun h => h.elim id (fun ⟨e, he, _⟩ => by cases he)⟩
  | cons y r ih =>
    intro x
    rw [List.foldl_cons, ih]
    constructor
    · rintro (h1 | ⟨e, h1, h2⟩)
      · rcases h1 with ⟨h3, -⟩ | ⟨-, h3⟩
        · exact absurd h3 (by decide)
        · rcases h3 with h3 | h3
          · exact Or.inr ⟨y, List.mem_cons_self .., h3⟩
          · exact Or.inl h3
      · exact Or.inr ⟨e, List.mem_cons_of_mem _ h1, h2⟩
    · rintro (h1 | ⟨e, h1, h2⟩)
      · exact Or.inl (Or.inr ⟨by decide, Or.inr h1⟩)
      · rcases List.mem_cons.mp h1 with h1 | h1
        · rw [h1] at h2; exact Or.inl (Or.inr ⟨by decide, Or.inl h2⟩)
        · exact Or.inr ⟨e, h1, h2⟩
theorem gq_em_5 (E : Nat → Prop) (es : List Lean.ParserDescr) (hn : es ≠ []) : gq_em E (gp_jn 5 es) ↔ ∃ e, e ∈ es ∧ gq_em E e := by
  cases es with
  | nil => exact absurd rfl hn
  | cons x r =>
    refine (gq_em_f5 E r x).trans ⟨fun h => ?_, fun h => ?_⟩
    · rcases h with h | ⟨e, h1, h2⟩
      · exact ⟨x, List.mem_cons_self .., h⟩
      · exact ⟨e, List.mem_cons_of_mem _ h1, h2⟩
    · obtain ⟨e, h1, h2⟩ := h
      rcases List.mem_cons.mp h1 with h1 | h1
      · rw [h1] at h2; exact Or.inl h2
      · exact Or.inr ⟨e, h1, h2⟩
/-- a node by its parts: what can be empty -/
def gq_nE (kd fr to pt : Nat → Int32) (rb : Nat → Nat) (em : Nat → Prop) (d : Nat) : Prop :=
  ((kd d).toInt = 1 ∧ em (rb d)) ∨ ((kd d).toInt = 2 ∧ ∀ i : Nat, (fr d).toInt ≤ i → (i : Int) < (to d).toInt → em (Int32.toNatClampNeg (pt i))) ∨ ((kd d).toInt = 3 ∧ ∃ i : Nat, (fr d).toInt ≤ i ∧ (i : Int) < (to d).toInt ∧ em (Int32.toNatClampNeg (pt i))) ∨ (((kd d).toInt = 6 ∨ (kd d).toInt = 9) ∧ em (Int32.toNatClampNeg (pt (Int32.toNatClampNeg (fr d))))) ∨ ((kd d).toInt = 4 ∨ (kd d).toInt = 5 ∨ (kd d).toInt = 7 ∨ (kd d).toInt = 8)
theorem gq_sg_all {R : Nat → Lean.ParserDescr → Prop} {pt : Nat → Int32} {em : Nat → Prop} {E : Nat → Prop} : ∀ (es : List Lean.ParserDescr) (lo hi : Nat), gq_sg R pt es lo hi → (∀ i e, lo ≤ i → i < hi → R (Int32.toNatClampNeg (pt i)) e → (em (Int32.toNatClampNeg (pt i)) ↔ gq_em E e)) → ((∀ i : Nat, (lo : Int) ≤ i → (i : Int) < hi → em (Int32.toNatClampNeg (pt i))) ↔ ∀ e, e ∈ es → gq_em E e) ∧ ((∃ i : Nat, (lo : Int) ≤ i ∧ (i : Int) < hi ∧ em (Int32.toNatClampNeg (pt i))) ↔ ∃ e, e ∈ es ∧ gq_em E e) := by
  intro es
  induction es with
  | nil =>
    intro lo hi h _
    have h : hi = lo := h
    exact ⟨⟨fun _ e he => (by cases he), fun _ i i1 i2 => by omega⟩, ⟨fun ⟨i, i1, i2, _⟩ => by omega, fun ⟨e, he, _⟩ => by cases he⟩⟩
  | cons x es ih =>
    intro lo hi h hR
    obtain ⟨k, k1, k2, k3, k4⟩ := h
    have l := gq_sg_le es lo k k4
    have top := hR k x (by omega) (by omega) k3
    obtain ⟨i1, i2⟩ := ih lo k k4 (fun i e a b => hR i e a (by omega))
    constructor
    · constructor
      · intro q e he
        rcases List.mem_cons.mp he with he | he
        · rw [he]; exact top.mp (q k (by omega) (by omega))
        · exact i1.mp (fun i a b => q i a (by omega)) e he
      · intro q i a b
        by_cases w : i = k
        · rw [w]; exact top.mpr (q x (List.mem_cons_self ..))
        · exact i1.mpr (fun e he => q e (List.mem_cons_of_mem _ he)) i a (by omega)
    · constructor
      · rintro ⟨i, a, b, q⟩
        by_cases w : i = k
        · rw [w] at q; exact ⟨x, List.mem_cons_self .., top.mp q⟩
        · obtain ⟨e, he, q'⟩ := i2.mp ⟨i, a, by omega, q⟩
          exact ⟨e, List.mem_cons_of_mem _ he, q'⟩
      · rintro ⟨e, he, q⟩
        rcases List.mem_cons.mp he with he | he
        · rw [he] at q; exact ⟨k, by omega, by omega, top.mpr q⟩
        · obtain ⟨i, a, b, q'⟩ := i2.mpr ⟨e, he, q⟩
          exact ⟨i, a, by omega, q'⟩
/-- at rest, a node can be empty where its expression can -/
theorem gq_em_nd {tx : Nat → Int} {ty N : Nat} {kd lt fr to pt : Nat → Int32} {lw hg : Nat → Int64} {rb : Nat → Nat} {em E : Nat → Prop} (hr : ∀ d, d < N → (em d ↔ gq_nE kd fr to pt rb em d)) (hn : ∀ d c, d < N → (kd d).toInt = 1 → (lt d).toInt = ((c : Nat) : Int) → (em (rb d) ↔ E c)) : ∀ (k d : Nat) (e : Lean.ParserDescr), d < k → d < N → gq_R tx ty kd lt fr to pt lw hg d e → (em d ↔ gq_em E e) := by
  intro k
  induction k with
  | zero => intro d e h; exact absurd h (by omega)
  | succ k ih =>
    intro d e hk hd r
    rw [gq_R] at r
    rw [hr d hd]
    unfold gq_nE
    rcases r with ⟨r0, a, b, r1, -⟩ | ⟨r0, c, r1, r2⟩ | ⟨lo, hi, f1, f2, r⟩
    · rw [r1]
      refine ⟨fun h => ?_, fun h => ?_⟩
      · rcases h with h | h | h | h | h <;> omega
      · rcases h with h | h
        · exact absurd h (by decide)
        · exact absurd h.1 (by decide)
    · rw [r1]
      have w := hn d c hd r0 r2
      refine ⟨fun h => ?_, fun h => ?_⟩
      · rcases h with h | h | h | h | h
        · exact Or.inr ⟨rfl, w.mp h.2⟩
        all_goals omega
      · rcases h with h | h
        · exact absurd h (by decide)
        · exact Or.inl ⟨r0, w.mpr h.2⟩
    · have kid : ∀ i e', lo ≤ i → i < hi → (∃ _h : Int32.toNatClampNeg (pt i) < d, gq_R tx ty kd lt fr to pt lw hg (Int32.toNatClampNeg (pt i)) e') → (em (Int32.toNatClampNeg (pt i)) ↔ gq_em E e') := fun i e' _ _ h => by
        obtain ⟨h1, h2⟩ := h
        exact ih _ _ (by omega) (by omega) h2
      rw [f1, f2]
      rcases r with ⟨k2, es, re, sg⟩ | ⟨k2, a, n, re, n1, -, hie, rows⟩ | ⟨k3, es, ne, re, sg⟩ | ⟨x, sg, ks⟩
      · have S := (gq_sg_all es lo hi sg kid).1
        rw [re, gq_em_4]
        refine ⟨fun h => ?_, fun h => Or.inr (Or.inl ⟨k2, S.mpr h⟩)⟩
        rcases h with h | h | h | h | h
        · omega
        · exact S.mp h.2
        all_goals omega
      · rw [re]
        refine ⟨fun h => ?_, fun h => ?_⟩
        · rcases h with h | h | h | h | h
          · omega
          · exfalso
            have w := h.2 lo (by omega) (by omega)
            obtain ⟨p1, p2, p3, -⟩ := rows 0 (by omega)
            rw [Nat.add_zero] at p1 p2 p3
            rw [hr _ (by omega)] at w
            rcases w with w | w | w | w | w <;> omega
          all_goals omega
        · rcases h with h | h
          · exact absurd h (by decide)
          · exact absurd h.1 (by decide)
      · have S := (gq_sg_all es lo hi sg kid).2
        rw [re, gq_em_5 E es ne]
        refine ⟨fun h => ?_, fun h => Or.inr (Or.inr (Or.inl ⟨k3, S.mpr h⟩))⟩
        rcases h with h | h | h | h | h
        · omega
        · omega
        · exact S.mp h.2
        all_goals omega
      · obtain ⟨k, k1, kp, kr, k4⟩ := sg
        have k4 : k = lo := k4
        rw [k4] at k1 kp kr
        have cl : Int32.toNatClampNeg (fr d) = lo := gp_cl_n f1
        have one := kid lo x (Nat.le_refl _) (by omega) kr
        rw [cl]
        rcases ks with ⟨q, re⟩ | ⟨q, re⟩ | ⟨q, re⟩ | ⟨q, re⟩ | ⟨q, re⟩ | ⟨q, re⟩
        · rw [re]; exact ⟨fun _ h => absurd h (by decide), fun _ => Or.inr (Or.inr (Or.inr (Or.inr (Or.inl q))))⟩
        · rw [re]; exact ⟨fun _ h => absurd h (by decide), fun _ => Or.inr (Or.inr (Or.inr (Or.inr (Or.inr (Or.inl q)))))⟩
        · rw [re]
          refine ⟨fun h => ?_, fun h => ?_⟩
          · rcases h with h | h | h | h | h
            · omega
            · omega
            · omega
            · exact Or.inl ⟨rfl, one.mp h.2, fun w => absurd w (by decide)⟩
            · omega
          · rcases h with h | h
            · exact Or.inr (Or.inr (Or.inr (Or.inl ⟨Or.inl q, one.mpr h.2.1⟩)))
            · exact absurd rfl h.1
        · rw [re]; exact ⟨fun _ h => absurd h (by decide), fun _ => Or.inr (Or.inr (Or.inr (Or.inr (Or.inr (Or.inr (Or.inl q))))))⟩
        · rw [re]; exact ⟨fun _ h => absurd h (by decide), fun _ => Or.inr (Or.inr (Or.inr (Or.inr (Or.inr (Or.inr (Or.inr q))))))⟩
        · rw [re]
          refine ⟨fun h _ => ?_, fun h => Or.inr (Or.inr (Or.inr (Or.inl ⟨Or.inr q, one.mpr (h rfl)⟩)))⟩
          rcases h with h | h | h | h | h
          · omega
          · omega
          · omega
          · exact one.mp h.2
          · omega
