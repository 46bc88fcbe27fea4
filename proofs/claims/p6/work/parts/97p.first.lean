/-! With what an expression begins: names and characters alike. lf: what a leaf has of itself, sp: kinds that hide what is in them, X: what a name stands for. -/
def gq_fb (E : Nat → Prop) (lf : Lean.ParserDescr → Prop) (sp : Nat → Prop) (X : Nat → Prop) : Lean.ParserDescr → Prop
  | .cat nm k => lf (.cat nm k) ∨ (k = 3 ∧ X (gp_n1 nm))
  | .node _ k e => ¬ sp k ∧ gq_fb E lf sp X e
  | .binary nm e f => gq_fb E lf sp X e ∨ ((gp_n2 nm = 4 → gq_em E e) ∧ gq_fb E lf sp X f)
  | _ => False
theorem gq_fb_mono {E : Nat → Prop} {lf : Lean.ParserDescr → Prop} {sp : Nat → Prop} {X X' : Nat → Prop} (h : ∀ c, X c → X' c) : ∀ e : Lean.ParserDescr, gq_fb E lf sp X e → gq_fb E lf sp X' e := by
  intro e
  induction e with
  | cat nm k =>
    rintro (q | ⟨q1, q2⟩)
    · exact Or.inl q
    · exact Or.inr ⟨q1, h _ q2⟩
  | node nm k e ih => exact fun q => ⟨q.1, ih q.2⟩
  | binary nm e f ih1 ih2 =>
    rintro (q | ⟨q1, q2⟩)
    · exact Or.inl (ih1 q)
    · exact Or.inr ⟨q1, ih2 q2⟩
  | _ => intro q; exact q
/-- a node by its parts: with what it begins -/
def gq_nB (kd fr to pt : Nat → Int32) (rb : Nat → Nat) (em : Nat → Prop) (base : Nat → Prop) (sp : Int → Prop) (bg : Nat → Prop) (d : Nat) : Prop :=
  base d ∨ ((kd d).toInt = 1 ∧ bg (rb d)) ∨ (2 ≤ (kd d).toInt ∧ ¬ sp (kd d).toInt ∧ ∃ i : Nat, (fr d).toInt ≤ i ∧ (i : Int) < (to d).toInt ∧ bg (Int32.toNatClampNeg (pt i)) ∧ ((kd d).toInt = 2 → ∀ j : Nat, (fr d).toInt ≤ j → j < i → em (Int32.toNatClampNeg (pt j))))
theorem gq_nB_mono {kd fr to pt : Nat → Int32} {rb : Nat → Nat} {em base : Nat → Prop} {sp : Int → Prop} {bg bg' : Nat → Prop} {d : Nat} (h : ∀ j, bg j → bg' j) (q : gq_nB kd fr to pt rb em base sp bg d) : gq_nB kd fr to pt rb em base sp bg' d := by
  rcases q with q | ⟨q1, q2⟩ | ⟨q1, q2, i, q3, q4, q5, q6⟩
  · exact Or.inl q
  · exact Or.inr (Or.inl ⟨q1, h _ q2⟩)
  · exact Or.inr (Or.inr ⟨q1, q2, i, q3, q4, h _ q5, q6⟩)
theorem gq_nB_dep {T : gm_S} {n R : Nat} (hT : gq_T T n R) (hk : gq_kn T n R) {em base : Nat → Prop} {sp : Int → Prop} {bg bg' : Nat → Prop} {d : Nat} (hd : d < n) (h1 : ∀ k, k < d → bg k → bg' k) (h2 : ∀ r, r < R → bg (Int32.toNatClampNeg (T.1 10 r)) → bg' (Int32.toNatClampNeg (T.1 10 r))) (q : gq_nB (T.1 0) (T.1 2) (T.1 3) (T.1 4) (gq_rb T R) em base sp bg d) : gq_nB (T.1 0) (T.1 2) (T.1 3) (T.1 4) (gq_rb T R) em base sp bg' d := by
  obtain ⟨k0, k9, kp⟩ := hT.2.2.2.2.2 d hd
  rcases q with q | ⟨q1, q2⟩ | ⟨q1, q2, i, q3, q4, q5, q6⟩
  · exact Or.inl q
  · exact Or.inr (Or.inl ⟨q1, h2 _ (hk d hd q1) q2⟩)
  · obtain ⟨lo, hi, a1, a2, a3, a4, -, a6⟩ := kp q1
    exact Or.inr (Or.inr ⟨q1, q2, i, q3, q4, h1 _ (a6 i (by omega) (by omega)).2 q5, q6⟩)
/-- a row of parts, from k on: what it begins with -/
def gq_rB (pt : Nat → Int32) (em bg : Nat → Prop) (k hi : Nat) : Prop := ∃ i : Nat, k ≤ i ∧ i < hi ∧ bg (Int32.toNatClampNeg (pt i)) ∧ ∀ j : Nat, k ≤ j → j < i → em (Int32.toNatClampNeg (pt j))
theorem gq_rB_s (pt : Nat → Int32) (em bg : Nat → Prop) {k hi : Nat} (h : k < hi) : gq_rB pt em bg k hi ↔ (bg (Int32.toNatClampNeg (pt k)) ∨ (em (Int32.toNatClampNeg (pt k)) ∧ gq_rB pt em bg (k + 1) hi)) := by
  constructor
  · rintro ⟨i, a, b, c, d⟩
    by_cases e : i = k
    · rw [e] at c; exact Or.inl c
    · exact Or.inr ⟨d k (Nat.le_refl _) (by omega), i, by omega, b, c, fun j j1 j2 => d j (by omega) j2⟩
  · rintro (c | ⟨e, i, a, b, c, d⟩)
    · exact ⟨k, Nat.le_refl _, h, c, fun j j1 j2 => by omega⟩
    · refine ⟨i, by omega, b, c, fun j j1 j2 => ?_⟩
      by_cases w : j = k
      · rw [w]; exact e
      · exact d j (by omega) j2
theorem gq_fb_f4 {E : Nat → Prop} {lf : Lean.ParserDescr → Prop} {sp : Nat → Prop} {X : Nat → Prop} {R : Nat → Lean.ParserDescr → Prop} {pt : Nat → Int32} {em bg : Nat → Prop} {lo hi : Nat} (hR : ∀ i e, lo ≤ i → i < hi → R (Int32.toNatClampNeg (pt i)) e → ((em (Int32.toNatClampNeg (pt i)) ↔ gq_em E e) ∧ (bg (Int32.toNatClampNeg (pt i)) ↔ gq_fb E lf sp X e))) : ∀ (r : List Lean.ParserDescr) (k : Nat) (acc : Lean.ParserDescr), k ≤ hi → gq_sg R pt r lo k → (gq_rB pt em bg k hi ↔ gq_fb E lf sp X acc) → (gq_rB pt em bg lo hi ↔ gq_fb E lf sp X (r.foldl (fun acc y => gp_e2 4 y acc) acc)) := by
  intro r
  induction r with
  | nil =>
    intro k acc _ h1 h2
    have h1 : k = lo := h1
    rw [h1] at h2
    exact h2
  | cons y r ih =>
    intro k acc hk h1 h2
    obtain ⟨j, j1, j2, j3, j4⟩ := h1
    have l := gq_sg_le r lo j j4
    rw [List.foldl_cons]
    refine ih j _ (by omega) j4 ?_
    obtain ⟨w1, w2⟩ := hR j y (by omega) (by omega) j3
    rw [gq_rB_s pt em bg (by omega), w1, w2, show j + 1 = k by omega, h2]
    exact ⟨fun h => h.elim Or.inl (fun h => Or.inr ⟨fun _ => h.1, h.2⟩), fun h => h.elim Or.inl (fun h => Or.inr ⟨h.1 rfl, h.2⟩)⟩
theorem gq_fb_f5 {E : Nat → Prop} {lf : Lean.ParserDescr → Prop} {sp : Nat → Prop} {X : Nat → Prop} : ∀ (r : List Lean.ParserDescr) (x : Lean.ParserDescr), gq_fb E lf sp X (r.foldl (fun acc y => gp_e2 5 y acc) x) ↔ (gq_fb E lf sp X x ∨ ∃ e, e ∈ r ∧ gq_fb E lf sp X e) := by
  intro r
  induction r with
  | nil => intro x; exact ⟨fun h => Or.inl h, fun h => h.elim id (fun ⟨e, he, _⟩ => by cases he)⟩
  | cons y r ih =>
    intro x
    rw [List.foldl_cons, ih]
    constructor
    · rintro (h1 | ⟨e, h1, h2⟩)
      · rcases h1 with h3 | ⟨-, h3⟩
        · exact Or.inr ⟨y, List.mem_cons_self .., h3⟩
        · exact Or.inl h3
      · exact Or.inr ⟨e, List.mem_cons_of_mem _ h1, h2⟩
    · rintro (h1 | ⟨e, h1, h2⟩)
      · exact Or.inl (Or.inr ⟨fun w => absurd w (by decide), h1⟩)
      · rcases List.mem_cons.mp h1 with h1 | h1
        · rw [h1] at h2; exact Or.inl (Or.inl h2)
        · exact Or.inr ⟨e, h1, h2⟩
theorem gq_sg_ex {R : Nat → Lean.ParserDescr → Prop} {pt : Nat → Int32} {bg : Nat → Prop} {B : Lean.ParserDescr → Prop} : ∀ (es : List Lean.ParserDescr) (lo hi : Nat), gq_sg R pt es lo hi → (∀ i e, lo ≤ i → i < hi → R (Int32.toNatClampNeg (pt i)) e → (bg (Int32.toNatClampNeg (pt i)) ↔ B e)) → ((∃ i : Nat, lo ≤ i ∧ i < hi ∧ bg (Int32.toNatClampNeg (pt i))) ↔ ∃ e, e ∈ es ∧ B e) := by
  intro es
  induction es with
  | nil =>
    intro lo hi h _
    have h : hi = lo := h
    exact ⟨fun ⟨i, i1, i2, _⟩ => by omega, fun ⟨e, he, _⟩ => by cases he⟩
  | cons x es ih =>
    intro lo hi h hR
    obtain ⟨k, k1, k2, k3, k4⟩ := h
    have l := gq_sg_le es lo k k4
    have top := hR k x (by omega) (by omega) k3
    have i2 := ih lo k k4 (fun i e a b => hR i e a (by omega))
    constructor
    · rintro ⟨i, a, b, q⟩
      by_cases w : i = k
      · rw [w] at q; exact ⟨x, List.mem_cons_self .., top.mp q⟩
      · obtain ⟨e, he, q'⟩ := i2.mp ⟨i, a, by omega, q⟩
        exact ⟨e, List.mem_cons_of_mem _ he, q'⟩
    · rintro ⟨e, he, q⟩
      rcases List.mem_cons.mp he with he | he
      · rw [he] at q; exact ⟨k, by omega, by omega, top.mpr q⟩
      · obtain ⟨i, a, b, q'⟩ := i2.mpr ⟨e, he, q⟩
        exact ⟨i, a, by omega, q'⟩
/-- at rest, a node begins with what its expression begins with -/
theorem gq_fb_nd {tx : Nat → Int} {ty N : Nat} {kd lt fr to pt : Nat → Int32} {lw hg : Nat → Int64} {rb : Nat → Nat} {em E base bg X : Nat → Prop} {lf : Lean.ParserDescr → Prop} {sp : Int → Prop} {sx : Nat → Prop} (hb : ∀ d, d < N → (kd d).toInt = 1 ∨ 2 ≤ (kd d).toInt → (bg d ↔ gq_nB kd fr to pt rb em base sp bg d)) (hbase : ∀ d, d < N → 2 ≤ (kd d).toInt → ¬ base d) (hem : ∀ d e, d < N → gq_R tx ty kd lt fr to pt lw hg d e → (em d ↔ gq_em E e)) (hes : ∀ d, d < N → (kd d).toInt = 0 → ¬ em d)
    (hset : ∀ d e, d < N → (kd d).toInt = 0 → gq_R tx ty kd lt fr to pt lw hg d e → (bg d ↔ lf e)) (hrow : ∀ p a n, p < N → (kd p).toInt = 0 → (∀ c : Int, 32 ≤ c → c ≤ 126 → (gp_ih lw hg p c ↔ c = tx a)) → a < ty → (bg p ↔ lf (gp_e0 1 a n))) (hnil : ¬ lf (gp_e0 0 0 0)) (hname : ∀ d c, d < N → (kd d).toInt = 1 → (lt d).toInt = ((c : Nat) : Int) → (bg d ↔ (lf (gp_e0 3 c 0) ∨ X c)))
    (hsp : ¬ sp 2 ∧ ¬ sp 3 ∧ ¬ sp 6 ∧ (sp 4 ↔ sx 6) ∧ (sp 5 ↔ sx 7) ∧ (sp 7 ↔ sx 8) ∧ (sp 8 ↔ sx 9) ∧ (sp 9 ↔ sx 10) ∧ ¬ sx 7) : ∀ (k d : Nat) (e : Lean.ParserDescr), d < k → d < N → gq_R tx ty kd lt fr to pt lw hg d e → (bg d ↔ gq_fb E lf sx X e) := by
  obtain ⟨s2, s3, s6, s4, s5, s7, s8, s9, sx7⟩ := hsp
  intro k
  induction k with
  | zero => intro d e h; exact absurd h (by omega)
  | succ k ih =>
    intro d e hk hd r
    have r' := r
    rw [gq_R] at r
    rcases r with ⟨r0, a, b, r1, -⟩ | ⟨r0, c, r1, r2⟩ | ⟨lo, hi, f1, f2, r⟩
    · rw [hset d e hd r0 r', r1]
      exact ⟨fun h => Or.inl h, fun h => h.elim id (fun h => absurd h.1 (by decide))⟩
    · rw [hname d c hd r0 r2, r1]
      exact ⟨fun h => h.elim Or.inl (fun h => Or.inr ⟨rfl, h⟩), fun h => h.elim Or.inl (fun h => Or.inr h.2)⟩
    · have kid : ∀ i e', lo ≤ i → i < hi → (∃ _h : Int32.toNatClampNeg (pt i) < d, gq_R tx ty kd lt fr to pt lw hg (Int32.toNatClampNeg (pt i)) e') → ((em (Int32.toNatClampNeg (pt i)) ↔ gq_em E e') ∧ (bg (Int32.toNatClampNeg (pt i)) ↔ gq_fb E lf sx X e')) := fun i e' _ _ h => by
        obtain ⟨h1, h2⟩ := h
        exact ⟨hem _ _ (by omega) h2, ih _ _ (by omega) (by omega) h2⟩
      have k2 : 2 ≤ (kd d).toInt := by
        rcases r with ⟨r, -⟩ | ⟨r, -⟩ | ⟨r, -⟩ | ⟨x, -, r⟩
        · omega
        · omega
        · omega
        · rcases r with ⟨r, -⟩ | ⟨r, -⟩ | ⟨r, -⟩ | ⟨r, -⟩ | ⟨r, -⟩ | ⟨r, -⟩ <;> omega
      have nb : bg d ↔ (¬ sp (kd d).toInt ∧ ∃ i : Nat, lo ≤ i ∧ i < hi ∧ bg (Int32.toNatClampNeg (pt i)) ∧ ((kd d).toInt = 2 → ∀ j : Nat, lo ≤ j → j < i → em (Int32.toNatClampNeg (pt j)))) := by
        rw [hb d hd (Or.inr k2)]
        unfold gq_nB
        rw [f1, f2]
        constructor
        · rintro (h | h | ⟨-, h1, i, h2, h3, h4, h5⟩)
          · exact absurd h (hbase d hd k2)
          · omega
          · exact ⟨h1, i, by omega, by omega, h4, fun w j j1 j2 => h5 w j (by omega) j2⟩
        · rintro ⟨h1, i, h2, h3, h4, h5⟩
          exact Or.inr (Or.inr ⟨k2, h1, i, by omega, by omega, h4, fun w j j1 j2 => h5 w j (by omega) j2⟩)
      rw [nb]
      rcases r with ⟨q, es, re, sg⟩ | ⟨q, a, n, re, n1, an, hie, rows⟩ | ⟨q, es, ne, re, sg⟩ | ⟨x, sg, ks⟩
      · rw [q, re]
        have step : (∃ i : Nat, lo ≤ i ∧ i < hi ∧ bg (Int32.toNatClampNeg (pt i)) ∧ ((2 : Int) = 2 → ∀ j : Nat, lo ≤ j → j < i → em (Int32.toNatClampNeg (pt j)))) ↔ gq_rB pt em bg lo hi := ⟨fun ⟨i, a, b, c, w⟩ => ⟨i, a, b, c, w rfl⟩, fun ⟨i, a, b, c, w⟩ => ⟨i, a, b, c, fun _ => w⟩⟩
        rw [step]
        refine Iff.trans ⟨fun h => h.2, fun h => ⟨s2, h⟩⟩ ?_
        cases es with
        | nil =>
          have sg : hi = lo := sg
          exact ⟨fun ⟨i, i1, i2, _⟩ => by omega, fun h => h.elim (fun h => absurd h hnil) (fun h => absurd h.1 (by decide))⟩
        | cons x r =>
          obtain ⟨m, m1, m2, m3, m4⟩ := sg
          have l := gq_sg_le r lo m m4
          refine gq_fb_f4 (lo := lo) (hi := hi) kid r m x (by omega) m4 ?_
          rw [gq_rB_s pt em bg (by omega), (kid m x (by omega) (by omega) m3).2]
          exact ⟨fun h => h.elim id (fun ⟨_, i, i1, i2, _⟩ => by omega), Or.inl⟩
      · rw [q, re]
        obtain ⟨p1, p2, p3, p4⟩ := rows 0 (by omega)
        rw [Nat.add_zero, Nat.add_zero] at p4
        rw [Nat.add_zero] at p1 p2 p3
        have hr := hrow _ a n (by omega) p3 p4 (by omega)
        constructor
        · rintro ⟨-, i, i1, i2, i3, i4⟩
          by_cases w : i = lo
          · rw [w] at i3; exact Or.inl (hr.mp i3)
          · exact absurd (i4 rfl lo (Nat.le_refl _) (by omega)) (hes _ (by omega) p3)
        · rintro (h | h)
          · exact ⟨s2, lo, Nat.le_refl _, by omega, hr.mpr h, fun _ j j1 j2 => by omega⟩
          · exact absurd h.1 (by decide)
      · rw [q, re]
        have ex := gq_sg_ex (bg := bg) (B := gq_fb E lf sx X) es lo hi sg (fun i e' a b c => (kid i e' a b c).2)
        have step : (¬ sp 3 ∧ ∃ i : Nat, lo ≤ i ∧ i < hi ∧ bg (Int32.toNatClampNeg (pt i)) ∧ ((3 : Int) = 2 → ∀ j : Nat, lo ≤ j → j < i → em (Int32.toNatClampNeg (pt j)))) ↔ ∃ i : Nat, lo ≤ i ∧ i < hi ∧ bg (Int32.toNatClampNeg (pt i)) := ⟨fun ⟨_, i, a, b, c, w⟩ => ⟨i, a, b, c⟩, fun ⟨i, a, b, c⟩ => ⟨s3, i, a, b, c, fun w => absurd w (by decide)⟩⟩
        rw [step, ex]
        cases es with
        | nil => exact absurd rfl ne
        | cons x r =>
          refine Iff.trans ?_ (gq_fb_f5 r x).symm
          constructor
          · rintro ⟨e', h1, h2⟩
            rcases List.mem_cons.mp h1 with h1 | h1
            · rw [h1] at h2; exact Or.inl h2
            · exact Or.inr ⟨e', h1, h2⟩
          · rintro (h | ⟨e', h1, h2⟩)
            · exact ⟨x, List.mem_cons_self .., h⟩
            · exact ⟨e', List.mem_cons_of_mem _ h1, h2⟩
      · obtain ⟨m, m1, mp, mr, m4⟩ := sg
        have m4 : m = lo := m4
        rw [m4] at m1 mp mr
        have one := (kid lo x (Nat.le_refl _) (by omega) mr).2
        have n2 : ¬ (kd d).toInt = 2 := by
          rcases ks with ⟨r, -⟩ | ⟨r, -⟩ | ⟨r, -⟩ | ⟨r, -⟩ | ⟨r, -⟩ | ⟨r, -⟩ <;> omega
        have step : (∃ i : Nat, lo ≤ i ∧ i < hi ∧ bg (Int32.toNatClampNeg (pt i)) ∧ ((kd d).toInt = 2 → ∀ j : Nat, lo ≤ j → j < i → em (Int32.toNatClampNeg (pt j)))) ↔ gq_fb E lf sx X x := by
          rw [← one]
          constructor
          · rintro ⟨i, i1, i2, i3, -⟩
            rw [show i = lo by omega] at i3
            exact i3
          · intro h
            exact ⟨lo, Nat.le_refl _, by omega, h, fun w => absurd w n2⟩
        rw [step]
        rcases ks with ⟨q, re⟩ | ⟨q, re⟩ | ⟨q, re⟩ | ⟨q, re⟩ | ⟨q, re⟩ | ⟨q, re⟩
        · rw [q, re, s4]; exact Iff.rfl
        · rw [q, re, s5]; exact Iff.rfl
        · rw [q, re]
          exact ⟨fun h => Or.inl h.2, fun h => h.elim (fun h => ⟨s6, h⟩) (fun h => ⟨s6, h.2.2⟩)⟩
        · rw [q, re, s7]; exact Iff.rfl
        · rw [q, re, s8]; exact Iff.rfl
        · rw [q, re, s9]; exact Iff.rfl
