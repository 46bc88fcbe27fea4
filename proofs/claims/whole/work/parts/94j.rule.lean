/-! The reference's reader against the machine: a rule. -/
def gp_mr (tx : Nat → Int) (ty : Nat) : Nat → gp_Sg → Nat ⊕ (Nat × Lean.ParserDescr × Nat × Nat)
  | 0, s => .inl s.1
  | n + 1, s => match gp_ms tx ty s with
    | .inl j => .inl j
    | .inr (.inl t) => gp_mr tx ty n t
    | .inr (.inr t) => .inr t
theorem gp_mr_kp (tx : Nat → Int) (ty R : Nat) : ∀ (m : Nat) (s : gp_Sg), gp_kp R s → ∀ t, gp_mr tx ty m s = .inr t → s.1 < t.1 ∧ 2 * t.2.2.1 ≤ 3 * t.1 ∧ 2 * t.2.2.2 + 3 * (R + 1) ≤ t.1 ∧ gp_cd t.2.1 ≤ 6 := by
  intro m
  induction m with
  | zero => intro s _ t q; cases q
  | succ m ih =>
    intro s hk t q
    have w := gp_ms_kp tx ty R s hk
    unfold gp_mr at q
    generalize hr : gp_ms tx ty s = r at q w
    match r, q, w with
    | .inl j, q, w => cases q
    | .inr (.inl s'), q, w =>
      have a := w.1 s' rfl
      have b := ih s' a.1 t q
      exact ⟨by omega, b.2⟩
    | .inr (.inr t'), q, w =>
      cases q
      obtain ⟨a, e, nA, nC⟩ := t
      exact w.2 a e nA nC rfl
def gp_bs (ty P a d i l x : Int) : Prop := 0 ≤ P ∧ 0 ≤ a ∧ a ≤ ty ∧ 0 ≤ d ∧ d ≤ 6 ∧ 0 ≤ i ∧ 0 ≤ l ∧ P + i + l + 2 * d ≤ 2 * a ∧ (x = 0 ∨ P + i + l + 2 * d + 1 ≤ 2 * a) ∧ i + l + d ≤ a
/-- what a rule leaves -/
def gp_Q3 (Pg : Nat → Nat → Nat → Prop) (S : gm_S) (r1 : Int32) (lo : Nat × Nat) (R : Nat ⊕ (Nat × Lean.ParserDescr × Nat × Nat)) (z : Int32 × gm_S) : Prop :=
  (match R with
    | .inl j => (z.2.2.2 24).toInt ≠ 0 ∧ (z.2.2.2 19).toInt = j ∧ z.2.1 6 = S.1 6 ∧ z.2.1 7 = S.1 7 ∧ z.2.1 8 = S.1 8
    | .inr t => (z.2.2.2 24).toInt = 0 ∧ (z.2.2.2 19).toInt = t.1 ∧ z.2.1 6 = upd (S.1 6) (Int32.toNatClampNeg (S.2.2 5)) ((S.1 6) (Int32.toNatClampNeg (S.2.2 5)) + 1) ∧ z.2.1 7 = upd (S.1 7) (Int32.toNatClampNeg ((8 * (S.2.2 5)) + (S.1 6) (Int32.toNatClampNeg (S.2.2 5)))) r1 ∧ gp_K Pg (S.2.2 5) (S.1 6) (z.2.1 9) (z.2.1 10) (z.2.1 11) (z.2.1 12) (z.2.1 13) lo t.2.2.1 t.2.2.2 [t.2.1] ∧ ∃ v : Int32, z.2.1 8 = upd (S.1 8) (Int32.toNatClampNeg ((8 * (S.2.2 5)) + (S.1 6) (Int32.toNatClampNeg (S.2.2 5)))) v ∧ gp_ch lo.2 v (gp_M (S.2.2 5) (z.2.1 9)) ∧ gp_rep Pg lo.2 (z.2.1 10) (z.2.1 11) (z.2.1 12) t.2.1 (Int32.toNatClampNeg v)) ∧ gp_O (S.2.2 5) lo.1 (S.1 9) (S.1 10) (S.1 11) (S.1 12) (S.1 13) (S.2.1 17) (S.2.1 18) (z.2.1 9) (z.2.1 10) (z.2.1 11) (z.2.1 12) (z.2.1 13) (z.2.2.1 17) (z.2.2.1 18)
theorem gz_x130 {Pg : Nat → Nat → Nat → Prop} (S : gm_S) (r1 : Int32) (u1 : gm_S) (r37 : Int32) (u37 : gm_S) (r60 : Int32) (u60 : gm_S) {n : Nat} (hn : 0 < n) (U : gm_S) (hw : ¬ U.2.2 24 = 0) {lo : Nat × Nat} {j : Nat} (e6 : U.1 6 = S.1 6) (e7 : U.1 7 = S.1 7) (e8 : U.1 8 = S.1 8) (h19 : (U.2.2 19).toInt = j) (hO : gp_O (S.2.2 5) lo.1 (S.1 9) (S.1 10) (S.1 11) (S.1 12) (S.1 13) (S.2.1 17) (S.2.1 18) (U.1 9) (U.1 10) (U.1 11) (U.1 12) (U.1 13) (U.2.1 17) (U.2.1 18)) : gp_Q3 Pg S r1 lo (.inl j) (gm_f_MD_readRule_130 S r1 u1 r37 u37 r60 u60 n U) := by
  have w := gx_eqnr (k := 0) (by decide) hw
  cases n with
  | zero => exact absurd hn (by omega)
  | succ n =>
    rw [gm_f_MD_readRule_130]
    refine gf_if (Q := gp_Q3 Pg S r1 lo (.inl j)) (fun q => absurd q hw) (fun _ => ?_)
    refine gf_if (Q := gp_Q3 Pg S r1 lo (.inl j)) (fun q => absurd q hw) (fun _ => ?_)
    exact ⟨⟨w, h19, e6, e7, e8⟩, hO⟩
theorem gz_y130 {Pg : Nat → Nat → Nat → Prop} (S : gm_S) (r1 : Int32) (u1 : gm_S) (r37 : Int32) (u37 : gm_S) (r60 : Int32) (u60 : gm_S) {n : Nat} (hn : 0 < n) (U : gm_S) (hw : U.2.2 24 = 0) (ho : U.2.2 25 = 0) {lo : Nat × Nat} {t : Nat × Lean.ParserDescr × Nat × Nat} (e6 : U.1 6 = S.1 6) (e7 : U.1 7 = S.1 7) (h19 : (U.2.2 19).toInt = t.1) (hK : gp_K Pg (S.2.2 5) (S.1 6) (U.1 9) (U.1 10) (U.1 11) (U.1 12) (U.1 13) lo t.2.2.1 t.2.2.2 [t.2.1]) (hv : ∃ v : Int32, U.1 8 = upd (S.1 8) (Int32.toNatClampNeg ((8 * (S.2.2 5)) + (S.1 6) (Int32.toNatClampNeg (S.2.2 5)))) v ∧ gp_ch lo.2 v (gp_M (S.2.2 5) (U.1 9)) ∧ gp_rep Pg lo.2 (U.1 10) (U.1 11) (U.1 12) t.2.1 (Int32.toNatClampNeg v)) (hO : gp_O (S.2.2 5) lo.1 (S.1 9) (S.1 10) (S.1 11) (S.1 12) (S.1 13) (S.2.1 17) (S.2.1 18) (U.1 9) (U.1 10) (U.1 11) (U.1 12) (U.1 13) (U.2.1 17) (U.2.1 18)) : gp_Q3 Pg S r1 lo (.inr t) (gm_f_MD_readRule_130 S r1 u1 r37 u37 r60 u60 n U) := by
  have w := gx_eqr (k := 0) (by decide) hw
  cases n with
  | zero => exact absurd hn (by omega)
  | succ n =>
    rw [gm_f_MD_readRule_130]
    refine gf_if (Q := gp_Q3 Pg S r1 lo (.inr t)) (fun _ => ?_) (fun q => absurd hw q)
    refine gf_if (Q := gp_Q3 Pg S r1 lo (.inr t)) (fun _ => ?_) (fun q => absurd ho q)
    refine gf_if (Q := gp_Q3 Pg S r1 lo (.inr t)) (fun _ => ?_) (fun q => absurd hw q)
    refine ⟨⟨w, h19, ?_, ?_, hK, hv⟩, hO⟩
    · show upd (U.1 6) (Int32.toNatClampNeg (S.2.2 5)) ((U.1 6) (Int32.toNatClampNeg (S.2.2 5)) + 1) = _
      rw [e6]
    · show upd (U.1 7) (Int32.toNatClampNeg ((8 * (S.2.2 5)) + (U.1 6) (Int32.toNatClampNeg (S.2.2 5)))) r1 = _
      rw [e6, e7]
/-- more of the ghost, and what it says is so -/
def gp_Q3L (Pg : Nat → Nat → Nat → Prop) (tx : Nat → Int) (ty : Nat) (S : gm_S) (r1 : Int32) (lo : Nat × Nat) (R : Nat ⊕ (Nat × Lean.ParserDescr × Nat × Nat)) (z : Int32 × gm_S) : Prop := ∃ P' : Nat → Nat → Nat → Prop, (∀ n a b, Pg n a b → P' n a b) ∧ gp_Q3 P' S r1 lo R z ∧ ∀ t, R = .inr t → gp_LB P' tx ty (gp_M (S.2.2 5) (z.2.1 9)) (z.2.2.1 17) (z.2.2.1 18)
theorem gp_Q3L_m {Pg P' : Nat → Nat → Nat → Prop} {tx : Nat → Int} {ty : Nat} {S : gm_S} {r1 : Int32} {lo : Nat × Nat} {R : Nat ⊕ (Nat × Lean.ParserDescr × Nat × Nat)} {z : Int32 × gm_S} (h : ∀ n a b, Pg n a b → P' n a b) (q : gp_Q3L P' tx ty S r1 lo R z) : gp_Q3L Pg tx ty S r1 lo R z := by
  obtain ⟨P2, q1, q2, q3⟩ := q
  exact ⟨P2, fun n a b t => q1 n a b (h n a b t), q2, q3⟩
theorem gp_LB_go {Pg : Nat → Nat → Nat → Prop} {tx : Nat → Int} {ty M M' a : Nat} {lw hg lw' hg' : Nat → Int64} (h : gp_LB Pg tx ty M lw hg) (hM : M ≤ M') (hx : ∀ n, n < M → lw' n = lw n ∧ hg' n = hg n) (hb : ∀ b c, gp_lf tx ty a b c → M < M' ∧ ∀ q : Int, 32 ≤ q → q ≤ 126 → (gp_ih lw' hg' M q ↔ gq_st tx ty b c q)) : gp_LB (fun n b c => Pg n b c ∨ (n = M ∧ gp_lf tx ty a b c)) tx ty M' lw' hg' := by
  intro n b c q
  rcases q with q | ⟨q, q2⟩
  · obtain ⟨q1, q2⟩ := h n b c q
    refine ⟨Nat.lt_of_lt_of_le q1 hM, fun x x1 x2 => ?_⟩
    obtain ⟨y1, y2⟩ := hx n q1
    have e : gp_ih lw' hg' n x ↔ gp_ih lw hg n x := by unfold gp_ih; rw [y1, y2]
    rw [e]
    exact q2 x x1 x2
  · rw [q]
    exact hb b c q2
def gp_LBq (Pg : Nat → Nat → Nat → Prop) (tx : Nat → Int) (ty : Nat) (fr : Int32) (z : Int32 × gm_S) : Prop := gp_LB Pg tx ty (gp_M fr (z.2.1 9)) (z.2.2.1 17) (z.2.2.1 18)
theorem gz_yLB {Pg : Nat → Nat → Nat → Prop} (S : gm_S) (r1 : Int32) (u1 : gm_S) (r37 : Int32) (u37 : gm_S) (r60 : Int32) (u60 : gm_S) {tx : Nat → Int} {ty n : Nat} (hn : 0 < n) (U : gm_S) (hw : U.2.2 24 = 0) (ho : U.2.2 25 = 0) (h : gp_LB Pg tx ty (gp_M (S.2.2 5) (U.1 9)) (U.2.1 17) (U.2.1 18)) : gp_LBq Pg tx ty (S.2.2 5) (gm_f_MD_readRule_130 S r1 u1 r37 u37 r60 u60 n U) := by
  cases n with
  | zero => exact absurd hn (by omega)
  | succ n =>
    rw [gm_f_MD_readRule_130]
    refine gf_if (Q := gp_LBq Pg tx ty (S.2.2 5)) (fun _ => ?_) (fun q => absurd hw q)
    refine gf_if (Q := gp_LBq Pg tx ty (S.2.2 5)) (fun _ => ?_) (fun q => absurd ho q)
    refine gf_if (Q := gp_LBq Pg tx ty (S.2.2 5)) (fun _ => ?_) (fun q => absurd hw q)
    exact h
theorem gz_rule130 (S : gm_S) (r1 : Int32) (u1 : gm_S) (r37 : Int32) (u37 : gm_S) (r60 : Int32) (u60 : gm_S) {tx : Nat → Int} {lo : Nat × Nat} {ty R0 : Nat} (ht : gp_tx (S.2.2 2) (S.1 3) tx ty) (hW : gm_iW 50 (S.2.2 2) (S.1 3)) (hN : gm_iN 1 (S.2.2 5)) (hR : ((S.1 6) (Int32.toNatClampNeg (S.2.2 5))).toInt = R0) (hR7 : R0 ≤ 7) : ∀ (n m : Nat) (s : gp_Sg) (U : gm_S) (Pg : Nat → Nat → Nat → Prop), U.1 6 = S.1 6 → U.1 7 = S.1 7 → U.1 8 = S.1 8 → U.2.2 24 = 0 → ¬ U.2.2 25 = 0 → gp_I Pg (S.2.2 5) (S.1 6) (U.1 9) (U.1 10) (U.1 11) (U.1 12) (U.1 13) (U.1 26) (U.1 27) (U.1 28) (U.1 29) (U.1 30) (U.1 31) (U.2.2 20) (U.2.2 21) (U.2.2 22) (U.2.2 23) (U.2.2 19) lo s → gm_iC (U.2.2 20) (U.2.2 21) (U.2.2 22) (U.1 26) (U.1 28) (U.1 29) → gp_bs (S.2.2 2).toInt ((U.1 9) (Int32.toNatClampNeg (S.2.2 5))).toInt (U.2.2 19).toInt (U.2.2 20).toInt (U.2.2 21).toInt (U.2.2 22).toInt (U.2.2 23).toInt → gp_kp R0 s → gp_O (S.2.2 5) lo.1 (S.1 9) (S.1 10) (S.1 11) (S.1 12) (S.1 13) (S.2.1 17) (S.2.1 18) (U.1 9) (U.1 10) (U.1 11) (U.1 12) (U.1 13) (U.2.1 17) (U.2.1 18) → ty + 2 ≤ n + s.1 → ty + 1 ≤ m + s.1 → gp_LB Pg tx ty (gp_M (S.2.2 5) (U.1 9)) (U.2.1 17) (U.2.1 18) → gp_Q3L Pg tx ty S r1 lo (gp_mr tx ty m s) (gm_f_MD_readRule_130 S r1 u1 r37 u37 r60 u60 n U) := by
  have ty1 := ht.1
  have ty2 := ht.2.1
  intro n
  induction n with
  | zero =>
    intro m s U Pg _ _ _ _ _ hI _ hB _ _ hn
    have : (U.2.2 19).toInt = s.1 := hI.2.2
    have := hB.2.2.1
    exfalso
    omega
  | succ n ih =>
    intro m s U Pg e6 e7 e8 e24 e25 hI hC hB hk hO hn hm hLB
    have ea : (U.2.2 19).toInt = s.1 := hI.2.2
    obtain ⟨b1, b2, b3, b4, b5, b6, b7, b8, b9, b10⟩ := hB
    cases m with
    | zero => exfalso; omega
    | succ m =>
      rw [gm_f_MD_readRule_130]
      refine gf_if (Q := gp_Q3L Pg tx ty S r1 lo (gp_mr tx ty (m + 1) s)) (fun _ => ?_) (fun q => absurd e24 q)
      refine gf_if (Q := gp_Q3L Pg tx ty S r1 lo (gp_mr tx ty (m + 1) s)) (fun q => absurd q e25) (fun _ => ?_)
      have RC : ((U.1 6) (Int32.toNatClampNeg (S.2.2 5))).toInt = R0 := by rw [e6]; exact hR
      have X := gx_s_MD_readPart ((va_up (va_up (va_up (va_up (va_up (va_up (va_up (va_up (va_up (va_up (va_up (va_up (va_up (va_up S.1 6 (U.1 6)) 7 (U.1 7)) 8 (U.1 8)) 9 (U.1 9)) 10 (U.1 10)) 11 (U.1 11)) 12 (U.1 12)) 13 (U.1 13)) 26 (U.1 26)) 27 (U.1 27)) 28 (U.1 28)) 29 (U.1 29)) 30 (U.1 30)) 31 (U.1 31)), (va_up (va_up S.2.1 17 (U.2.1 17)) 18 (U.2.1 18)), (va_up (va_up (va_up (va_up (va_up (va_up (va_up S.2.2 19 (U.2.2 19)) 20 (U.2.2 20)) 21 (U.2.2 21)) 22 (U.2.2 22)) 23 (U.2.2 23)) 24 (U.2.2 24)) 25 (U.2.2 25))) hW hN hC b1 b2 b3 b4 b5 b6 b7 b8 b9 b10 (show 0 ≤ ((U.1 6) (Int32.toNatClampNeg (S.2.2 5))).toInt by omega) (show ((U.1 6) (Int32.toNatClampNeg (S.2.2 5))).toInt ≤ 7 by omega)
      have Y := gz_readPart (Pg := (fun n b c => Pg n b c ∨ (n = gp_M (S.2.2 5) (U.1 9) ∧ gp_lf tx ty s.1 b c))) ((va_up (va_up (va_up (va_up (va_up (va_up (va_up (va_up (va_up (va_up (va_up (va_up (va_up (va_up S.1 6 (U.1 6)) 7 (U.1 7)) 8 (U.1 8)) 9 (U.1 9)) 10 (U.1 10)) 11 (U.1 11)) 12 (U.1 12)) 13 (U.1 13)) 26 (U.1 26)) 27 (U.1 27)) 28 (U.1 28)) 29 (U.1 29)) 30 (U.1 30)) 31 (U.1 31)), (va_up (va_up S.2.1 17 (U.2.1 17)) 18 (U.2.1 18)), (va_up (va_up (va_up (va_up (va_up (va_up (va_up S.2.2 19 (U.2.2 19)) 20 (U.2.2 20)) 21 (U.2.2 21)) 22 (U.2.2 22)) 23 (U.2.2 23)) 24 (U.2.2 24)) 25 (U.2.2 25))) (lo := lo) (s := s) (R0 := R0) ht (by
        show gp_I (fun n b c => Pg n b c ∨ (n = gp_M (S.2.2 5) (U.1 9) ∧ gp_lf tx ty s.1 b c)) (S.2.2 5) (U.1 6) (U.1 9) (U.1 10) (U.1 11) (U.1 12) (U.1 13) (U.1 26) (U.1 27) (U.1 28) (U.1 29) (U.1 30) (U.1 31) (U.2.2 20) (U.2.2 21) (U.2.2 22) (U.2.2 23) (U.2.2 19) lo s
        rw [e6]
        exact gp_I_pm (fun _ _ _ => Or.inl) hI) ⟨hN, ⟨b1, (show ((U.1 9) (Int32.toNatClampNeg (S.2.2 5))).toInt + (U.2.2 21).toInt + (U.2.2 22).toInt ≤ 100 by omega)⟩, ⟨b6, (show (U.2.2 21).toInt ≤ 50 by omega)⟩, ⟨b7, (show (U.2.2 22).toInt ≤ 50 by omega)⟩, ⟨b4, b5⟩⟩ hk (by omega) (fun b c hl => Or.inr ⟨rfl, hl⟩)
      have Z := gz_readPart (Pg := gp_T) ((va_up (va_up (va_up (va_up (va_up (va_up (va_up (va_up (va_up (va_up (va_up (va_up (va_up (va_up S.1 6 (U.1 6)) 7 (U.1 7)) 8 (U.1 8)) 9 (U.1 9)) 10 (U.1 10)) 11 (U.1 11)) 12 (U.1 12)) 13 (U.1 13)) 26 (U.1 26)) 27 (U.1 27)) 28 (U.1 28)) 29 (U.1 29)) 30 (U.1 30)) 31 (U.1 31)), (va_up (va_up S.2.1 17 (U.2.1 17)) 18 (U.2.1 18)), (va_up (va_up (va_up (va_up (va_up (va_up (va_up S.2.2 19 (U.2.2 19)) 20 (U.2.2 20)) 21 (U.2.2 21)) 22 (U.2.2 22)) 23 (U.2.2 23)) 24 (U.2.2 24)) 25 (U.2.2 25))) (lo := (gp_M (S.2.2 5) (U.1 9), lo.2)) (s := s) (R0 := R0) ht (by
        show gp_I gp_T (S.2.2 5) (U.1 6) (U.1 9) (U.1 10) (U.1 11) (U.1 12) (U.1 13) (U.1 26) (U.1 27) (U.1 28) (U.1 29) (U.1 30) (U.1 31) (U.2.2 20) (U.2.2 21) (U.2.2 22) (U.2.2 23) (U.2.2 19) (gp_M (S.2.2 5) (U.1 9), lo.2) s
        rw [e6]
        exact gp_I_lo (gp_I_pm (fun _ _ _ _ => trivial) hI)) ⟨hN, ⟨b1, (show ((U.1 9) (Int32.toNatClampNeg (S.2.2 5))).toInt + (U.2.2 21).toInt + (U.2.2 22).toInt ≤ 100 by omega)⟩, ⟨b6, (show (U.2.2 21).toInt ≤ 50 by omega)⟩, ⟨b7, (show (U.2.2 22).toInt ≤ 50 by omega)⟩, ⟨b4, b5⟩⟩ hk (by omega) (fun _ _ _ => trivial)
      have B : ∀ b c, gp_lf tx ty s.1 b c → gr_cB (S.2.2 5) tx ty b c (gp_M (S.2.2 5) (U.1 9)) (gm_f_MD_readPart ((va_up (va_up (va_up (va_up (va_up (va_up (va_up (va_up (va_up (va_up (va_up (va_up (va_up (va_up S.1 6 (U.1 6)) 7 (U.1 7)) 8 (U.1 8)) 9 (U.1 9)) 10 (U.1 10)) 11 (U.1 11)) 12 (U.1 12)) 13 (U.1 13)) 26 (U.1 26)) 27 (U.1 27)) 28 (U.1 28)) 29 (U.1 29)) 30 (U.1 30)) 31 (U.1 31)), (va_up (va_up S.2.1 17 (U.2.1 17)) 18 (U.2.1 18)), (va_up (va_up (va_up (va_up (va_up (va_up (va_up S.2.2 19 (U.2.2 19)) 20 (U.2.2 20)) 21 (U.2.2 21)) 22 (U.2.2 22)) 23 (U.2.2 23)) 24 (U.2.2 24)) 25 (U.2.2 25)))) := fun b c hl => gr_readPartB ((va_up (va_up (va_up (va_up (va_up (va_up (va_up (va_up (va_up (va_up (va_up (va_up (va_up (va_up S.1 6 (U.1 6)) 7 (U.1 7)) 8 (U.1 8)) 9 (U.1 9)) 10 (U.1 10)) 11 (U.1 11)) 12 (U.1 12)) 13 (U.1 13)) 26 (U.1 26)) 27 (U.1 27)) 28 (U.1 28)) 29 (U.1 29)) 30 (U.1 30)) 31 (U.1 31)), (va_up (va_up S.2.1 17 (U.2.1 17)) 18 (U.2.1 18)), (va_up (va_up (va_up (va_up (va_up (va_up (va_up S.2.2 19 (U.2.2 19)) 20 (U.2.2 20)) 21 (U.2.2 21)) 22 (U.2.2 22)) 23 (U.2.2 23)) 24 (U.2.2 24)) 25 (U.2.2 25))) (lo := lo) (s := s) (R0 := R0) ht (by
        show gp_I gp_T (S.2.2 5) (U.1 6) (U.1 9) (U.1 10) (U.1 11) (U.1 12) (U.1 13) (U.1 26) (U.1 27) (U.1 28) (U.1 29) (U.1 30) (U.1 31) (U.2.2 20) (U.2.2 21) (U.2.2 22) (U.2.2 23) (U.2.2 19) lo s
        rw [e6]
        exact gp_I_pm (fun _ _ _ _ => trivial) hI) ⟨hN, ⟨b1, (show ((U.1 9) (Int32.toNatClampNeg (S.2.2 5))).toInt + (U.2.2 21).toInt + (U.2.2 22).toInt ≤ 100 by omega)⟩, ⟨b6, (show (U.2.2 21).toInt ≤ 50 by omega)⟩, ⟨b7, (show (U.2.2 22).toInt ≤ 50 by omega)⟩, ⟨b4, b5⟩⟩ hk (by omega) hl
      refine gf_ca (Q := gp_Q3L Pg tx ty S r1 lo (gp_mr tx ty (m + 1) s)) (fun z => gx_q_MD_readPart ((va_up (va_up (va_up (va_up (va_up (va_up (va_up (va_up (va_up (va_up (va_up (va_up (va_up (va_up S.1 6 (U.1 6)) 7 (U.1 7)) 8 (U.1 8)) 9 (U.1 9)) 10 (U.1 10)) 11 (U.1 11)) 12 (U.1 12)) 13 (U.1 13)) 26 (U.1 26)) 27 (U.1 27)) 28 (U.1 28)) 29 (U.1 29)) 30 (U.1 30)) 31 (U.1 31)), (va_up (va_up S.2.1 17 (U.2.1 17)) 18 (U.2.1 18)), (va_up (va_up (va_up (va_up (va_up (va_up (va_up S.2.2 19 (U.2.2 19)) 20 (U.2.2 20)) 21 (U.2.2 21)) 22 (U.2.2 22)) 23 (U.2.2 23)) 24 (U.2.2 24)) 25 (U.2.2 25))) z ∧ gp_Qr (fun n b c => Pg n b c ∨ (n = gp_M (S.2.2 5) (U.1 9) ∧ gp_lf tx ty s.1 b c)) ((va_up (va_up (va_up (va_up (va_up (va_up (va_up (va_up (va_up (va_up (va_up (va_up (va_up (va_up S.1 6 (U.1 6)) 7 (U.1 7)) 8 (U.1 8)) 9 (U.1 9)) 10 (U.1 10)) 11 (U.1 11)) 12 (U.1 12)) 13 (U.1 13)) 26 (U.1 26)) 27 (U.1 27)) 28 (U.1 28)) 29 (U.1 29)) 30 (U.1 30)) 31 (U.1 31)), (va_up (va_up S.2.1 17 (U.2.1 17)) 18 (U.2.1 18)), (va_up (va_up (va_up (va_up (va_up (va_up (va_up S.2.2 19 (U.2.2 19)) 20 (U.2.2 20)) 21 (U.2.2 21)) 22 (U.2.2 22)) 23 (U.2.2 23)) 24 (U.2.2 24)) 25 (U.2.2 25))) lo (gp_ms tx ty s) z ∧ gp_Qr gp_T ((va_up (va_up (va_up (va_up (va_up (va_up (va_up (va_up (va_up (va_up (va_up (va_up (va_up (va_up S.1 6 (U.1 6)) 7 (U.1 7)) 8 (U.1 8)) 9 (U.1 9)) 10 (U.1 10)) 11 (U.1 11)) 12 (U.1 12)) 13 (U.1 13)) 26 (U.1 26)) 27 (U.1 27)) 28 (U.1 28)) 29 (U.1 29)) 30 (U.1 30)) 31 (U.1 31)), (va_up (va_up S.2.1 17 (U.2.1 17)) 18 (U.2.1 18)), (va_up (va_up (va_up (va_up (va_up (va_up (va_up S.2.2 19 (U.2.2 19)) 20 (U.2.2 20)) 21 (U.2.2 21)) 22 (U.2.2 22)) 23 (U.2.2 23)) 24 (U.2.2 24)) 25 (U.2.2 25))) (gp_M (S.2.2 5) (U.1 9), lo.2) (gp_ms tx ty s) z ∧ ∀ b c, gp_lf tx ty s.1 b c → gr_cB (S.2.2 5) tx ty b c (gp_M (S.2.2 5) (U.1 9)) z) ⟨X.2, Y, Z, B⟩ ?_
      clear X Y Z B
      intro r u hu
      obtain ⟨X, ⟨Y1, Y2⟩, ⟨Z1, Z2⟩, B⟩ := hu
      have LB : u.2.2 24 = 0 → gp_M (S.2.2 5) (U.1 9) ≤ gp_M (S.2.2 5) (u.1 9) → gp_LB (fun n b c => Pg n b c ∨ (n = gp_M (S.2.2 5) (U.1 9) ∧ gp_lf tx ty s.1 b c)) tx ty (gp_M (S.2.2 5) (u.1 9)) (u.2.1 17) (u.2.1 18) := fun t1 t2 => gp_LB_go hLB t2 (fun n hn => (Z2.2 n (Or.inl hn)).2.2.2.2) (fun b c hl => B b c hl t1)
      have YO : gp_O (S.2.2 5) lo.1 (U.1 9) (U.1 10) (U.1 11) (U.1 12) (U.1 13) (U.2.1 17) (U.2.1 18) (u.1 9) (u.1 10) (u.1 11) (u.1 12) (u.1 13) (u.2.1 17) (u.2.1 18) := Y2
      have OO := gp_O_t hO YO
      have w := gp_ms_kp tx ty R0 s hk
      unfold gp_mr
      generalize hr : gp_ms tx ty s = rr at Y1 Z1 w ⊢
      match rr, Y1, Z1, w with
      | .inl j, Y1, Z1, w =>
        rcases Y1 with ⟨j', q1, q2, q3, q4⟩ | ⟨-, q⟩
        · cases q1
          have q2 : (u.2.2 24).toInt ≠ 0 := q2
          have q3 : (u.2.2 19).toInt = (j : Nat) := q3
          have q4 : u.1 8 = U.1 8 := q4
          refine ⟨Pg, fun _ _ _ t => t, ?_, fun t ht => nomatch ht⟩
          exact gz_x130 S r1 u1 r37 u37 r60 u60 (by omega) _ (fun t => q2 (by have t : u.2.2 24 = 0 := t; rw [t]; decide)) e6 e7 (show u.1 8 = S.1 8 by rw [q4]; exact e8) q3 OO
        · exact q.elim
      | .inr (.inl t), Y1, Z1, w =>
        rcases Y1 with ⟨j', q1, -⟩ | ⟨q1, q2, q3, q4⟩
        · cases q1
        · have q1 : u.2.2 24 = U.2.2 24 := q1
          have q3 : u.1 8 = U.1 8 := q3
          have q4 : u.2.2 25 = U.2.2 25 := q4
          have q2 : gp_I (fun n b c => Pg n b c ∨ (n = gp_M (S.2.2 5) (U.1 9) ∧ gp_lf tx ty s.1 b c)) (S.2.2 5) (U.1 6) (u.1 9) (u.1 10) (u.1 11) (u.1 12) (u.1 13) (u.1 26) (u.1 27) (u.1 28) (u.1 29) (u.1 30) (u.1 31) (u.2.2 20) (u.2.2 21) (u.2.2 22) (u.2.2 23) (u.2.2 19) lo t := q2
          rw [e6] at q2
          have mm : gp_M (S.2.2 5) (U.1 9) ≤ gp_M (S.2.2 5) (u.1 9) := by
            rcases Z1 with ⟨j', z1, -⟩ | ⟨-, z2, -⟩
            · cases z1
            · exact z2.1.2.2.2.2.1
          have kk := w.1 t rfl
          obtain ⟨x0, x1, x2, x3, x4, x5, x6, x7, x8, x9, x10, x11, x12⟩ := X
          refine gp_Q3L_m (P' := (fun n b c => Pg n b c ∨ (n = gp_M (S.2.2 5) (U.1 9) ∧ gp_lf tx ty s.1 b c))) (fun _ _ _ => Or.inl) ?_
          refine ih m t _ _ e6 e7 (show u.1 8 = S.1 8 by rw [q3]; exact e8) (show u.2.2 24 = 0 by rw [q1]; exact e24) (show ¬ u.2.2 25 = 0 by rw [q4]; exact e25) q2 x0 ⟨x1, x2, x3, x4, x5, x6, x7, x8, x9, x10⟩ kk.1 OO (by omega) (by omega) (LB (show u.2.2 24 = 0 by rw [q1]; exact e24) mm)
      | .inr (.inr t), Y1, Z1, w =>
        rcases Y1 with ⟨j', q1, -⟩ | ⟨q1, q2, q3, q4, q5⟩
        · cases q1
        · have q1 : u.2.2 24 = U.2.2 24 := q1
          have q2 : gp_K (fun n b c => Pg n b c ∨ (n = gp_M (S.2.2 5) (U.1 9) ∧ gp_lf tx ty s.1 b c)) (S.2.2 5) (U.1 6) (u.1 9) (u.1 10) (u.1 11) (u.1 12) (u.1 13) lo t.2.2.1 t.2.2.2 [t.2.1] := q2
          have q5 : ∃ v : Int32, u.1 8 = upd (U.1 8) (Int32.toNatClampNeg ((8 * (S.2.2 5)) + (U.1 6) (Int32.toNatClampNeg (S.2.2 5)))) v ∧ gp_ch lo.2 v (gp_M (S.2.2 5) (u.1 9)) ∧ gp_rep (fun n b c => Pg n b c ∨ (n = gp_M (S.2.2 5) (U.1 9) ∧ gp_lf tx ty s.1 b c)) lo.2 (u.1 10) (u.1 11) (u.1 12) t.2.1 (Int32.toNatClampNeg v) := q5
          rw [e6] at q2
          rw [e6, e8] at q5
          have mm : gp_M (S.2.2 5) (U.1 9) ≤ gp_M (S.2.2 5) (u.1 9) := by
            rcases Z1 with ⟨j', z1, -⟩ | ⟨-, z2, -⟩
            · cases z1
            · exact z2.2.2.2.1
          have L2 := LB (show u.2.2 24 = 0 by rw [q1]; exact e24) mm
          refine ⟨(fun n b c => Pg n b c ∨ (n = gp_M (S.2.2 5) (U.1 9) ∧ gp_lf tx ty s.1 b c)), fun _ _ _ => Or.inl, ?_, fun t ht => ?_⟩
          rotate_left
          · exact gz_yLB S r1 u1 r37 u37 r60 u60 (by omega) _ (show u.2.2 24 = 0 by rw [q1]; exact e24) q4 L2
          exact gz_y130 S r1 u1 r37 u37 r60 u60 (by omega) ((va_up (va_up (va_up (va_up (va_up (va_up (va_up (va_up (va_up (va_up (va_up (va_up (va_up (va_up S.1 6 (U.1 6)) 7 (U.1 7)) 8 (u.1 8)) 9 (u.1 9)) 10 (u.1 10)) 11 (u.1 11)) 12 (u.1 12)) 13 (u.1 13)) 26 (u.1 26)) 27 (u.1 27)) 28 (u.1 28)) 29 (u.1 29)) 30 (u.1 30)) 31 (u.1 31)), (va_up (va_up S.2.1 17 (u.2.1 17)) 18 (u.2.1 18)), (va_up (va_up (va_up (va_up (va_up (va_up (va_up S.2.2 19 (u.2.2 19)) 20 (u.2.2 20)) 21 (u.2.2 21)) 22 (u.2.2 22)) 23 (u.2.2 23)) 24 (u.2.2 24)) 25 (u.2.2 25))) (show u.2.2 24 = 0 by rw [q1]; exact e24) q4 e6 e7 q3 q2 q5 OO
