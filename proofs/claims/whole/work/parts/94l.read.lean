/-! The reference's reader against the machine: the whole text. -/
def gp_rd (tx : Nat → Int) (ty : Nat) : Nat → Nat → (Nat → Int × Lean.ParserDescr) → Nat → Nat → Nat → Nat ⊕ (Nat × (Nat → Int × Lean.ParserDescr) × Nat × Nat)
  | 0, _, _, a, _, _ => .inl a
  | n + 1, R, f, a, nA, nC => if a < ty ∨ R = 0 then
      (match gp_rl tx ty R f a nA nC with
      | .inl j => .inl j
      | .inr t => gp_rd tx ty n (R + 1) (gp_ad f R t.2.1) t.1 t.2.2.1 t.2.2.2)
    else .inr (R, f, nA, nC)
theorem gp_rl_kp (tx : Nat → Int) (ty R : Nat) (f : Nat → Int × Lean.ParserDescr) (a nA nC : Nat) (hA : 2 * nA ≤ 3 * a) (hC : 2 * nC + 3 * R ≤ a) {t : Nat × (Int × Lean.ParserDescr) × Nat × Nat} (h : gp_rl tx ty R f a nA nC = .inr t) : a < t.1 ∧ 2 * t.2.2.1 ≤ 3 * t.1 ∧ 2 * t.2.2.2 + 3 * (R + 1) ≤ t.1 ∧ gp_cd t.2.1.2 ≤ 6 ∧ R ≠ 8 := by
  unfold gp_rl at h
  split at h
  · cases h
  · rename_i c1
    have hR : R ≠ 8 := fun q => c1 (Or.inr (Or.inl q))
    split at h
    · have k : gp_kp R (a + 2, 0, [(59, 0, [], [])], nA, nC) := by
        refine ⟨?_, ?_, ⟨⟨?_, Or.inl ⟨rfl, rfl⟩⟩, fun e he => (by cases he), fun e he => (by cases he), trivial⟩, ?_⟩
        · show 2 * nA + 2 * (0 + 0) ≤ 3 * (a + 2)
          omega
        · show 2 * nC + 3 * R + 1 + 1 ≤ a + 2
          omega
        · show 0 ≤ 6
          omega
        · show 1 ≤ 1
          omega
      have w := gp_mr_kp tx ty R (ty + 3) _ k
      generalize gp_mr tx ty (ty + 3) (a + 2, 0, [(59, 0, [], [])], nA, nC) = mr at h w
      match mr, h, w with
      | .inl j, h, w => cases h
      | .inr u, h, w =>
        cases h
        have w := w u rfl
        have w1 : a + 2 < u.1 := w.1
        exact ⟨by show a < u.1; omega, w.2.1, w.2.2.1, w.2.2.2, hR⟩
    · cases h
/-- what the reading leaves; F the half that it writes -/
def gp_Qd (tx : Nat → Int) (ty : Nat) (S : gm_S) (F : Int32) (res : Nat ⊕ (Nat × (Nat → Int × Lean.ParserDescr) × Nat × Nat)) (z : Int32 × gm_S) : Prop :=
  (match res with
    | .inl j => z.1 = 0 ∧ (z.2.2.2 19).toInt = j
    | .inr t => z.1 = 1 ∧ (z.2.2.2 24).toInt = 0 ∧ (gp_GL tx ty F (z.2.1 6) (z.2.1 7) (z.2.1 8) (z.2.1 9) (z.2.1 10) (z.2.1 11) (z.2.1 12) (z.2.1 13) (z.2.2.1 17) (z.2.2.1 18) t.1 t.2.1 t.2.2.1 t.2.2.2) ∧ 1 ≤ t.1 ∧ t.1 ≤ 8 ∧ 2 * t.2.2.1 ≤ 150 ∧ 2 * t.2.2.2 + 3 * t.1 ≤ 50 ∧ ∀ r, r < t.1 → gp_cd (t.2.1 r).2 ≤ 6) ∧ z.2.2.2 5 = F ∧ gp_O F (gp_B F) (S.1 9) (S.1 10) (S.1 11) (S.1 12) (S.1 13) (S.2.1 17) (S.2.1 18) (z.2.1 9) (z.2.1 10) (z.2.1 11) (z.2.1 12) (z.2.1 13) (z.2.2.1 17) (z.2.2.1 18) ∧ gp_O2 F (S.1 6) (S.1 7) (S.1 8) (z.2.1 6) (z.2.1 7) (z.2.1 8)
theorem gz_rd_46 (S : gm_S) (F : Int32) {tx : Nat → Int} {ty : Nat} (ht : gp_tx (S.2.2 2) (S.1 3) tx ty) (hW : gm_iW 50 (S.2.2 2) (S.1 3)) (hN : gm_iN 1 F) : ∀ (n m R : Nat) (f : Nat → Int × Lean.ParserDescr) (a nA nC : Nat) (U : gm_S), U.2.2 5 = F → U.2.2 24 = 0 → (U.2.2 19).toInt = a → a ≤ ty → 0 ≤ ((U.1 9) (Int32.toNatClampNeg F)).toInt → ((U.1 9) (Int32.toNatClampNeg F)).toInt ≤ 2 * (a : Int) → gp_GL tx ty F (U.1 6) (U.1 7) (U.1 8) (U.1 9) (U.1 10) (U.1 11) (U.1 12) (U.1 13) (U.2.1 17) (U.2.1 18) R f nA nC → R ≤ 8 → 2 * nA ≤ 3 * a → 2 * nC + 3 * R ≤ a → (∀ r, r < R → gp_cd (f r).2 ≤ 6) → gp_O F (gp_B F) (S.1 9) (S.1 10) (S.1 11) (S.1 12) (S.1 13) (S.2.1 17) (S.2.1 18) (U.1 9) (U.1 10) (U.1 11) (U.1 12) (U.1 13) (U.2.1 17) (U.2.1 18) → gp_O2 F (S.1 6) (S.1 7) (S.1 8) (U.1 6) (U.1 7) (U.1 8) → ty + 2 ≤ n + a → ty + 1 ≤ m + a → gp_Qd tx ty S F (gp_rd tx ty m R f a nA nC) (gm_f_MD_read_46 S n U) := by
  have ty1 := ht.1
  have ty2 := ht.2.1
  intro n
  induction n with
  | zero => intro m R f a nA nC U _ _ _ ha _ _ _ _ _ _ _ _ _ hn; exfalso; omega
  | succ n ih =>
    intro m R f a nA nC U e5 e24 h19 ha hp hp2 hG hR hA hC hcd hO hO2 hn hm
    have w24 := gx_eqr (k := 0) (by decide) e24
    cases m with
    | zero => exfalso; omega
    | succ m =>
      have G1 := hG.choose_spec.1.1
      have go : (a < ty ∨ R = 0) → gp_Qd tx ty S F (gp_rd tx ty (m + 1) R f a nA nC) (gm_bd (gm_f_MD_readRule ((va_up (va_up (va_up (va_up (va_up (va_up (va_up (va_up (va_up (va_up (va_up (va_up (va_up (va_up S.1 6 (U.1 6)) 7 (U.1 7)) 8 (U.1 8)) 9 (U.1 9)) 10 (U.1 10)) 11 (U.1 11)) 12 (U.1 12)) 13 (U.1 13)) 26 (U.1 26)) 27 (U.1 27)) 28 (U.1 28)) 29 (U.1 29)) 30 (U.1 30)) 31 (U.1 31)), (va_up (va_up S.2.1 17 (U.2.1 17)) 18 (U.2.1 18)), (va_up (va_up (va_up (va_up (va_up (va_up (va_up (va_up S.2.2 5 (U.2.2 5)) 19 (U.2.2 19)) 20 (U.2.2 20)) 21 (U.2.2 21)) 22 (U.2.2 22)) 23 (U.2.2 23)) 24 (U.2.2 24)) 25 (U.2.2 25)))) (fun _ u77 => (gm_f_MD_read_46 S n ((va_up (va_up (va_up (va_up (va_up (va_up (va_up (va_up (va_up (va_up (va_up (va_up (va_up (va_up S.1 6 (u77.1 6)) 7 (u77.1 7)) 8 (u77.1 8)) 9 (u77.1 9)) 10 (u77.1 10)) 11 (u77.1 11)) 12 (u77.1 12)) 13 (u77.1 13)) 26 (u77.1 26)) 27 (u77.1 27)) 28 (u77.1 28)) 29 (u77.1 29)) 30 (u77.1 30)) 31 (u77.1 31)), (va_up (va_up S.2.1 17 (u77.2.1 17)) 18 (u77.2.1 18)), (va_up (va_up (va_up (va_up (va_up (va_up (va_up (va_up S.2.2 5 (U.2.2 5)) 19 (u77.2.2 19)) 20 (u77.2.2 20)) 21 (u77.2.2 21)) 22 (u77.2.2 22)) 23 (u77.2.2 23)) 24 (u77.2.2 24)) 25 (u77.2.2 25)))))) := by
        intro c
        have e1 : gp_rd tx ty (m + 1) R f a nA nC = (match gp_rl tx ty R f a nA nC with
            | .inl j => .inl j
            | .inr t => gp_rd tx ty m (R + 1) (gp_ad f R t.2.1) t.1 t.2.2.1 t.2.2.2) := if_pos c
        rw [e1]
        have X := gx_s_MD_readRule ((va_up (va_up (va_up (va_up (va_up (va_up (va_up (va_up (va_up (va_up (va_up (va_up (va_up (va_up S.1 6 (U.1 6)) 7 (U.1 7)) 8 (U.1 8)) 9 (U.1 9)) 10 (U.1 10)) 11 (U.1 11)) 12 (U.1 12)) 13 (U.1 13)) 26 (U.1 26)) 27 (U.1 27)) 28 (U.1 28)) 29 (U.1 29)) 30 (U.1 30)) 31 (U.1 31)), (va_up (va_up S.2.1 17 (U.2.1 17)) 18 (U.2.1 18)), (va_up (va_up (va_up (va_up (va_up (va_up (va_up (va_up S.2.2 5 (U.2.2 5)) 19 (U.2.2 19)) 20 (U.2.2 20)) 21 (U.2.2 21)) 22 (U.2.2 22)) 23 (U.2.2 23)) 24 (U.2.2 24)) 25 (U.2.2 25))) hW (show gm_iN 1 (U.2.2 5) by rw [e5]; exact hN) (show 0 ≤ ((U.1 9) (Int32.toNatClampNeg (U.2.2 5))).toInt by rw [e5]; exact hp) (show ((U.1 9) (Int32.toNatClampNeg (U.2.2 5))).toInt ≤ 2 * (U.2.2 19).toInt by rw [e5]; omega) (show 0 ≤ (U.2.2 19).toInt by omega) (show (U.2.2 19).toInt ≤ (S.2.2 2).toInt by omega) (show 0 ≤ ((U.1 6) (Int32.toNatClampNeg (U.2.2 5))).toInt by rw [e5]; omega) (show ((U.1 6) (Int32.toNatClampNeg (U.2.2 5))).toInt ≤ 8 by rw [e5]; omega)
        have Y := gz_readRule ((va_up (va_up (va_up (va_up (va_up (va_up (va_up (va_up (va_up (va_up (va_up (va_up (va_up (va_up S.1 6 (U.1 6)) 7 (U.1 7)) 8 (U.1 8)) 9 (U.1 9)) 10 (U.1 10)) 11 (U.1 11)) 12 (U.1 12)) 13 (U.1 13)) 26 (U.1 26)) 27 (U.1 27)) 28 (U.1 28)) 29 (U.1 29)) 30 (U.1 30)) 31 (U.1 31)), (va_up (va_up S.2.1 17 (U.2.1 17)) 18 (U.2.1 18)), (va_up (va_up (va_up (va_up (va_up (va_up (va_up (va_up S.2.2 5 (U.2.2 5)) 19 (U.2.2 19)) 20 (U.2.2 20)) 21 (U.2.2 21)) 22 (U.2.2 22)) 23 (U.2.2 23)) 24 (U.2.2 24)) 25 (U.2.2 25))) (R := R) (f := f) (a := a) (nA := nA) (nC := nC) ht hW (show gm_iN 1 (U.2.2 5) by rw [e5]; exact hN) (show gp_GL tx ty (U.2.2 5) (U.1 6) (U.1 7) (U.1 8) (U.1 9) (U.1 10) (U.1 11) (U.1 12) (U.1 13) (U.2.1 17) (U.2.1 18) R f nA nC by rw [e5]; exact hG) h19 ha (show 0 ≤ ((U.1 9) (Int32.toNatClampNeg (U.2.2 5))).toInt by rw [e5]; exact hp) (show ((U.1 9) (Int32.toNatClampNeg (U.2.2 5))).toInt ≤ 2 * (a : Int) by rw [e5]; exact hp2) e24 hR hA hC
        refine gf_ca (Q := gp_Qd tx ty S F (match gp_rl tx ty R f a nA nC with
            | .inl j => .inl j
            | .inr t => gp_rd tx ty m (R + 1) (gp_ad f R t.2.1) t.1 t.2.2.1 t.2.2.2)) (fun z => gx_q_MD_readRule ((va_up (va_up (va_up (va_up (va_up (va_up (va_up (va_up (va_up (va_up (va_up (va_up (va_up (va_up S.1 6 (U.1 6)) 7 (U.1 7)) 8 (U.1 8)) 9 (U.1 9)) 10 (U.1 10)) 11 (U.1 11)) 12 (U.1 12)) 13 (U.1 13)) 26 (U.1 26)) 27 (U.1 27)) 28 (U.1 28)) 29 (U.1 29)) 30 (U.1 30)) 31 (U.1 31)), (va_up (va_up S.2.1 17 (U.2.1 17)) 18 (U.2.1 18)), (va_up (va_up (va_up (va_up (va_up (va_up (va_up (va_up S.2.2 5 (U.2.2 5)) 19 (U.2.2 19)) 20 (U.2.2 20)) 21 (U.2.2 21)) 22 (U.2.2 22)) 23 (U.2.2 23)) 24 (U.2.2 24)) 25 (U.2.2 25))) z ∧ gp_Ql tx ty ((va_up (va_up (va_up (va_up (va_up (va_up (va_up (va_up (va_up (va_up (va_up (va_up (va_up (va_up S.1 6 (U.1 6)) 7 (U.1 7)) 8 (U.1 8)) 9 (U.1 9)) 10 (U.1 10)) 11 (U.1 11)) 12 (U.1 12)) 13 (U.1 13)) 26 (U.1 26)) 27 (U.1 27)) 28 (U.1 28)) 29 (U.1 29)) 30 (U.1 30)) 31 (U.1 31)), (va_up (va_up S.2.1 17 (U.2.1 17)) 18 (U.2.1 18)), (va_up (va_up (va_up (va_up (va_up (va_up (va_up (va_up S.2.2 5 (U.2.2 5)) 19 (U.2.2 19)) 20 (U.2.2 20)) 21 (U.2.2 21)) 22 (U.2.2 22)) 23 (U.2.2 23)) 24 (U.2.2 24)) 25 (U.2.2 25))) R f (gp_rl tx ty R f a nA nC) z) ⟨X.2, Y⟩ ?_
        clear X Y
        intro r u hu
        obtain ⟨X, Y1, Y2, Y3⟩ := hu
        have Y2 : gp_O (U.2.2 5) (gp_B (U.2.2 5)) (U.1 9) (U.1 10) (U.1 11) (U.1 12) (U.1 13) (U.2.1 17) (U.2.1 18) (u.1 9) (u.1 10) (u.1 11) (u.1 12) (u.1 13) (u.2.1 17) (u.2.1 18) := Y2
        have Y3 : gp_O2 (U.2.2 5) (U.1 6) (U.1 7) (U.1 8) (u.1 6) (u.1 7) (u.1 8) := Y3
        rw [e5] at Y2 Y3
        have OO := gp_O_t hO Y2
        have OO2 := gp_O2_t hO2 Y3
        have kp : ∀ t, gp_rl tx ty R f a nA nC = .inr t → a < t.1 ∧ 2 * t.2.2.1 ≤ 3 * t.1 ∧ 2 * t.2.2.2 + 3 * (R + 1) ≤ t.1 ∧ gp_cd t.2.1.2 ≤ 6 ∧ R ≠ 8 := fun t q => gp_rl_kp tx ty R f a nA nC hA hC q
        generalize gp_rl tx ty R f a nA nC = rl at Y1 kp ⊢
        match rl, Y1, kp with
        | .inl j, Y1, kp =>
          have q1 : (u.2.2 24).toInt ≠ 0 := Y1.1
          have q2 : (u.2.2 19).toInt = (j : Nat) := Y1.2
          have nw : ¬ u.2.2 24 = 0 := fun t => q1 (by rw [t]; decide)
          cases n with
          | zero => exfalso; omega
          | succ n =>
            dsimp only
            rw [gm_f_MD_read_46]
            refine gf_if (Q := gp_Qd tx ty S F (.inl j)) (fun q => absurd q nw) (fun _ => ?_)
            refine gf_if (Q := gp_Qd tx ty S F (.inl j)) (fun q => absurd q nw) (fun _ => ?_)
            exact ⟨⟨rfl, q2⟩, e5, OO, OO2⟩
        | .inr t, Y1, kp =>
          obtain ⟨q1, q2, q3⟩ := Y1
          have q1 : (u.2.2 24).toInt = 0 := q1
          have q2 : (u.2.2 19).toInt = (t.1 : Nat) := q2
          have q3 : gp_GL tx ty (U.2.2 5) (u.1 6) (u.1 7) (u.1 8) (u.1 9) (u.1 10) (u.1 11) (u.1 12) (u.1 13) (u.2.1 17) (u.2.1 18) (R + 1) (gp_ad f R t.2.1) t.2.2.1 t.2.2.2 := q3
          rw [e5] at q3
          obtain ⟨k1, k2, k3, k4, k5⟩ := kp t rfl
          obtain ⟨x1, x2, x3, x4, x5, x6, x7⟩ := X
          have x1 : 0 ≤ (u.1 9 (Int32.toNatClampNeg (U.2.2 5))).toInt := x1
          have x2 : (u.1 9 (Int32.toNatClampNeg (U.2.2 5))).toInt ≤ 2 * (u.2.2 19).toInt := x2
          have x4 : (u.2.2 19).toInt ≤ (S.2.2 2).toInt := x4
          rw [e5] at x1 x2
          refine ih m (R + 1) (gp_ad f R t.2.1) t.1 t.2.2.1 t.2.2.2 _ e5 (show u.2.2 24 = 0 from Int32.toInt_inj.mp (by rw [q1]; decide)) q2 (by omega) x1 (show (u.1 9 (Int32.toNatClampNeg F)).toInt ≤ 2 * ((t.1 : Nat) : Int) by omega) q3 (by omega) k2 k3 (fun r hr => ?_) OO OO2 (by omega) (by omega)
          by_cases q : r = R
          · rw [(show gp_ad f R t.2.1 r = t.2.1 from if_pos q)]; exact k4
          · rw [(show gp_ad f R t.2.1 r = f r from if_neg q)]; exact hcd r (by omega)
      rw [gm_f_MD_read_46]
      refine gf_if (Q := gp_Qd tx ty S F (gp_rd tx ty (m + 1) R f a nA nC)) (fun _ => ?_) (fun q => absurd e24 q)
      refine gf_if (Q := gp_Qd tx ty S F (gp_rd tx ty (m + 1) R f a nA nC)) (fun q => ?_) (fun q => ?_)
      · have q1 := gx_lt q
        exact go (Or.inl (by omega))
      have q1 := gx_ltn q
      refine gf_if (Q := gp_Qd tx ty S F (gp_rd tx ty (m + 1) R f a nA nC)) (fun q => ?_) (fun q => ?_)
      · have q2 := gx_eqr (k := 0) (by decide) q
        rw [e5] at q2
        exact go (Or.inr (by omega))
      have q2 := gx_eqnr (k := 0) (by decide) q
      rw [e5] at q2
      refine gf_if (Q := gp_Qd tx ty S F (gp_rd tx ty (m + 1) R f a nA nC)) (fun _ => ?_) (fun q => absurd e24 q)
      rw [(show gp_rd tx ty (m + 1) R f a nA nC = .inr (R, f, nA, nC) from if_neg (by omega))]
      refine ⟨⟨rfl, w24, ?_, by show 1 ≤ R; omega, hR, by show 2 * nA ≤ 150; omega, by show 2 * nC + 3 * R ≤ 50; omega, hcd⟩, e5, hO, hO2⟩
      exact hG
theorem gz_rd_46_a (S : gm_S) (F : Int32) {tx : Nat → Int} {ty : Nat} (ht : gp_tx (S.2.2 2) (S.1 3) tx ty) (hW : gm_iW 50 (S.2.2 2) (S.1 3)) (hN : gm_iN 1 F) : ∀ (n m R : Nat) (f : Nat → Int × Lean.ParserDescr) (a nA nC : Nat) (U : gm_S), U.2.2 5 = F → U.2.2 24 = 0 → (U.2.2 19).toInt = a → a ≤ ty → 0 ≤ ((U.1 9) (Int32.toNatClampNeg F)).toInt → ((U.1 9) (Int32.toNatClampNeg F)).toInt ≤ 2 * (a : Int) → gp_GL tx ty F (U.1 6) (U.1 7) (U.1 8) (U.1 9) (U.1 10) (U.1 11) (U.1 12) (U.1 13) (U.2.1 17) (U.2.1 18) R f nA nC → R ≤ 8 → 2 * nA ≤ 3 * a → 2 * nC + 3 * R ≤ a → (∀ r, r < R → gp_cd (f r).2 ≤ 6) → gp_O F (gp_B F) (S.1 9) (S.1 10) (S.1 11) (S.1 12) (S.1 13) (S.2.1 17) (S.2.1 18) (U.1 9) (U.1 10) (U.1 11) (U.1 12) (U.1 13) (U.2.1 17) (U.2.1 18) → gp_O2 F (S.1 6) (S.1 7) (S.1 8) (U.1 6) (U.1 7) (U.1 8) → ty + 2 ≤ n + a → ty + 1 ≤ m + a → gp_Qd tx ty S F (gp_rd tx ty m R f a nA nC) (gm_f_MD_read_46_a S n U) := by
  have ty1 := ht.1
  have ty2 := ht.2.1
  intro n
  induction n with
  | zero => intro m R f a nA nC U _ _ _ ha _ _ _ _ _ _ _ _ _ hn; exfalso; omega
  | succ n ih =>
    intro m R f a nA nC U e5 e24 h19 ha hp hp2 hG hR hA hC hcd hO hO2 hn hm
    have w24 := gx_eqr (k := 0) (by decide) e24
    cases m with
    | zero => exfalso; omega
    | succ m =>
      have G1 := hG.choose_spec.1.1
      have go : (a < ty ∨ R = 0) → gp_Qd tx ty S F (gp_rd tx ty (m + 1) R f a nA nC) (gm_bd (gm_f_MD_readRule ((va_up (va_up (va_up (va_up (va_up (va_up (va_up (va_up (va_up (va_up (va_up (va_up (va_up (va_up S.1 6 (U.1 6)) 7 (U.1 7)) 8 (U.1 8)) 9 (U.1 9)) 10 (U.1 10)) 11 (U.1 11)) 12 (U.1 12)) 13 (U.1 13)) 26 (U.1 26)) 27 (U.1 27)) 28 (U.1 28)) 29 (U.1 29)) 30 (U.1 30)) 31 (U.1 31)), (va_up (va_up S.2.1 17 (U.2.1 17)) 18 (U.2.1 18)), (va_up (va_up (va_up (va_up (va_up (va_up (va_up (va_up S.2.2 5 (U.2.2 5)) 19 (U.2.2 19)) 20 (U.2.2 20)) 21 (U.2.2 21)) 22 (U.2.2 22)) 23 (U.2.2 23)) 24 (U.2.2 24)) 25 (U.2.2 25)))) (fun _ u77 => (gm_f_MD_read_46_a S n ((va_up (va_up (va_up (va_up (va_up (va_up (va_up (va_up (va_up (va_up (va_up (va_up (va_up (va_up S.1 6 (u77.1 6)) 7 (u77.1 7)) 8 (u77.1 8)) 9 (u77.1 9)) 10 (u77.1 10)) 11 (u77.1 11)) 12 (u77.1 12)) 13 (u77.1 13)) 26 (u77.1 26)) 27 (u77.1 27)) 28 (u77.1 28)) 29 (u77.1 29)) 30 (u77.1 30)) 31 (u77.1 31)), (va_up (va_up S.2.1 17 (u77.2.1 17)) 18 (u77.2.1 18)), (va_up (va_up (va_up (va_up (va_up (va_up (va_up (va_up S.2.2 5 (U.2.2 5)) 19 (u77.2.2 19)) 20 (u77.2.2 20)) 21 (u77.2.2 21)) 22 (u77.2.2 22)) 23 (u77.2.2 23)) 24 (u77.2.2 24)) 25 (u77.2.2 25)))))) := by
        intro c
        have e1 : gp_rd tx ty (m + 1) R f a nA nC = (match gp_rl tx ty R f a nA nC with
            | .inl j => .inl j
            | .inr t => gp_rd tx ty m (R + 1) (gp_ad f R t.2.1) t.1 t.2.2.1 t.2.2.2) := if_pos c
        rw [e1]
        have X := gx_s_MD_readRule ((va_up (va_up (va_up (va_up (va_up (va_up (va_up (va_up (va_up (va_up (va_up (va_up (va_up (va_up S.1 6 (U.1 6)) 7 (U.1 7)) 8 (U.1 8)) 9 (U.1 9)) 10 (U.1 10)) 11 (U.1 11)) 12 (U.1 12)) 13 (U.1 13)) 26 (U.1 26)) 27 (U.1 27)) 28 (U.1 28)) 29 (U.1 29)) 30 (U.1 30)) 31 (U.1 31)), (va_up (va_up S.2.1 17 (U.2.1 17)) 18 (U.2.1 18)), (va_up (va_up (va_up (va_up (va_up (va_up (va_up (va_up S.2.2 5 (U.2.2 5)) 19 (U.2.2 19)) 20 (U.2.2 20)) 21 (U.2.2 21)) 22 (U.2.2 22)) 23 (U.2.2 23)) 24 (U.2.2 24)) 25 (U.2.2 25))) hW (show gm_iN 1 (U.2.2 5) by rw [e5]; exact hN) (show 0 ≤ ((U.1 9) (Int32.toNatClampNeg (U.2.2 5))).toInt by rw [e5]; exact hp) (show ((U.1 9) (Int32.toNatClampNeg (U.2.2 5))).toInt ≤ 2 * (U.2.2 19).toInt by rw [e5]; omega) (show 0 ≤ (U.2.2 19).toInt by omega) (show (U.2.2 19).toInt ≤ (S.2.2 2).toInt by omega) (show 0 ≤ ((U.1 6) (Int32.toNatClampNeg (U.2.2 5))).toInt by rw [e5]; omega) (show ((U.1 6) (Int32.toNatClampNeg (U.2.2 5))).toInt ≤ 8 by rw [e5]; omega)
        have Y := gz_readRule ((va_up (va_up (va_up (va_up (va_up (va_up (va_up (va_up (va_up (va_up (va_up (va_up (va_up (va_up S.1 6 (U.1 6)) 7 (U.1 7)) 8 (U.1 8)) 9 (U.1 9)) 10 (U.1 10)) 11 (U.1 11)) 12 (U.1 12)) 13 (U.1 13)) 26 (U.1 26)) 27 (U.1 27)) 28 (U.1 28)) 29 (U.1 29)) 30 (U.1 30)) 31 (U.1 31)), (va_up (va_up S.2.1 17 (U.2.1 17)) 18 (U.2.1 18)), (va_up (va_up (va_up (va_up (va_up (va_up (va_up (va_up S.2.2 5 (U.2.2 5)) 19 (U.2.2 19)) 20 (U.2.2 20)) 21 (U.2.2 21)) 22 (U.2.2 22)) 23 (U.2.2 23)) 24 (U.2.2 24)) 25 (U.2.2 25))) (R := R) (f := f) (a := a) (nA := nA) (nC := nC) ht hW (show gm_iN 1 (U.2.2 5) by rw [e5]; exact hN) (show gp_GL tx ty (U.2.2 5) (U.1 6) (U.1 7) (U.1 8) (U.1 9) (U.1 10) (U.1 11) (U.1 12) (U.1 13) (U.2.1 17) (U.2.1 18) R f nA nC by rw [e5]; exact hG) h19 ha (show 0 ≤ ((U.1 9) (Int32.toNatClampNeg (U.2.2 5))).toInt by rw [e5]; exact hp) (show ((U.1 9) (Int32.toNatClampNeg (U.2.2 5))).toInt ≤ 2 * (a : Int) by rw [e5]; exact hp2) e24 hR hA hC
        refine gf_ca (Q := gp_Qd tx ty S F (match gp_rl tx ty R f a nA nC with
            | .inl j => .inl j
            | .inr t => gp_rd tx ty m (R + 1) (gp_ad f R t.2.1) t.1 t.2.2.1 t.2.2.2)) (fun z => gx_q_MD_readRule ((va_up (va_up (va_up (va_up (va_up (va_up (va_up (va_up (va_up (va_up (va_up (va_up (va_up (va_up S.1 6 (U.1 6)) 7 (U.1 7)) 8 (U.1 8)) 9 (U.1 9)) 10 (U.1 10)) 11 (U.1 11)) 12 (U.1 12)) 13 (U.1 13)) 26 (U.1 26)) 27 (U.1 27)) 28 (U.1 28)) 29 (U.1 29)) 30 (U.1 30)) 31 (U.1 31)), (va_up (va_up S.2.1 17 (U.2.1 17)) 18 (U.2.1 18)), (va_up (va_up (va_up (va_up (va_up (va_up (va_up (va_up S.2.2 5 (U.2.2 5)) 19 (U.2.2 19)) 20 (U.2.2 20)) 21 (U.2.2 21)) 22 (U.2.2 22)) 23 (U.2.2 23)) 24 (U.2.2 24)) 25 (U.2.2 25))) z ∧ gp_Ql tx ty ((va_up (va_up (va_up (va_up (va_up (va_up (va_up (va_up (va_up (va_up (va_up (va_up (va_up (va_up S.1 6 (U.1 6)) 7 (U.1 7)) 8 (U.1 8)) 9 (U.1 9)) 10 (U.1 10)) 11 (U.1 11)) 12 (U.1 12)) 13 (U.1 13)) 26 (U.1 26)) 27 (U.1 27)) 28 (U.1 28)) 29 (U.1 29)) 30 (U.1 30)) 31 (U.1 31)), (va_up (va_up S.2.1 17 (U.2.1 17)) 18 (U.2.1 18)), (va_up (va_up (va_up (va_up (va_up (va_up (va_up (va_up S.2.2 5 (U.2.2 5)) 19 (U.2.2 19)) 20 (U.2.2 20)) 21 (U.2.2 21)) 22 (U.2.2 22)) 23 (U.2.2 23)) 24 (U.2.2 24)) 25 (U.2.2 25))) R f (gp_rl tx ty R f a nA nC) z) ⟨X.2, Y⟩ ?_
        clear X Y
        intro r u hu
        obtain ⟨X, Y1, Y2, Y3⟩ := hu
        have Y2 : gp_O (U.2.2 5) (gp_B (U.2.2 5)) (U.1 9) (U.1 10) (U.1 11) (U.1 12) (U.1 13) (U.2.1 17) (U.2.1 18) (u.1 9) (u.1 10) (u.1 11) (u.1 12) (u.1 13) (u.2.1 17) (u.2.1 18) := Y2
        have Y3 : gp_O2 (U.2.2 5) (U.1 6) (U.1 7) (U.1 8) (u.1 6) (u.1 7) (u.1 8) := Y3
        rw [e5] at Y2 Y3
        have OO := gp_O_t hO Y2
        have OO2 := gp_O2_t hO2 Y3
        have kp : ∀ t, gp_rl tx ty R f a nA nC = .inr t → a < t.1 ∧ 2 * t.2.2.1 ≤ 3 * t.1 ∧ 2 * t.2.2.2 + 3 * (R + 1) ≤ t.1 ∧ gp_cd t.2.1.2 ≤ 6 ∧ R ≠ 8 := fun t q => gp_rl_kp tx ty R f a nA nC hA hC q
        generalize gp_rl tx ty R f a nA nC = rl at Y1 kp ⊢
        match rl, Y1, kp with
        | .inl j, Y1, kp =>
          have q1 : (u.2.2 24).toInt ≠ 0 := Y1.1
          have q2 : (u.2.2 19).toInt = (j : Nat) := Y1.2
          have nw : ¬ u.2.2 24 = 0 := fun t => q1 (by rw [t]; decide)
          cases n with
          | zero => exfalso; omega
          | succ n =>
            dsimp only
            rw [gm_f_MD_read_46_a]
            refine gf_if (Q := gp_Qd tx ty S F (.inl j)) (fun q => absurd q nw) (fun _ => ?_)
            refine gf_if (Q := gp_Qd tx ty S F (.inl j)) (fun q => absurd q nw) (fun _ => ?_)
            exact ⟨⟨rfl, q2⟩, e5, OO, OO2⟩
        | .inr t, Y1, kp =>
          obtain ⟨q1, q2, q3⟩ := Y1
          have q1 : (u.2.2 24).toInt = 0 := q1
          have q2 : (u.2.2 19).toInt = (t.1 : Nat) := q2
          have q3 : gp_GL tx ty (U.2.2 5) (u.1 6) (u.1 7) (u.1 8) (u.1 9) (u.1 10) (u.1 11) (u.1 12) (u.1 13) (u.2.1 17) (u.2.1 18) (R + 1) (gp_ad f R t.2.1) t.2.2.1 t.2.2.2 := q3
          rw [e5] at q3
          obtain ⟨k1, k2, k3, k4, k5⟩ := kp t rfl
          obtain ⟨x1, x2, x3, x4, x5, x6, x7⟩ := X
          have x1 : 0 ≤ (u.1 9 (Int32.toNatClampNeg (U.2.2 5))).toInt := x1
          have x2 : (u.1 9 (Int32.toNatClampNeg (U.2.2 5))).toInt ≤ 2 * (u.2.2 19).toInt := x2
          have x4 : (u.2.2 19).toInt ≤ (S.2.2 2).toInt := x4
          rw [e5] at x1 x2
          refine ih m (R + 1) (gp_ad f R t.2.1) t.1 t.2.2.1 t.2.2.2 _ e5 (show u.2.2 24 = 0 from Int32.toInt_inj.mp (by rw [q1]; decide)) q2 (by omega) x1 (show (u.1 9 (Int32.toNatClampNeg F)).toInt ≤ 2 * ((t.1 : Nat) : Int) by omega) q3 (by omega) k2 k3 (fun r hr => ?_) OO OO2 (by omega) (by omega)
          by_cases q : r = R
          · rw [(show gp_ad f R t.2.1 r = t.2.1 from if_pos q)]; exact k4
          · rw [(show gp_ad f R t.2.1 r = f r from if_neg q)]; exact hcd r (by omega)
      rw [gm_f_MD_read_46_a]
      refine gf_if (Q := gp_Qd tx ty S F (gp_rd tx ty (m + 1) R f a nA nC)) (fun _ => ?_) (fun q => absurd e24 q)
      refine gf_if (Q := gp_Qd tx ty S F (gp_rd tx ty (m + 1) R f a nA nC)) (fun q => ?_) (fun q => ?_)
      · have q1 := gx_lt q
        exact go (Or.inl (by omega))
      have q1 := gx_ltn q
      refine gf_if (Q := gp_Qd tx ty S F (gp_rd tx ty (m + 1) R f a nA nC)) (fun q => ?_) (fun q => ?_)
      · have q2 := gx_eqr (k := 0) (by decide) q
        rw [e5] at q2
        exact go (Or.inr (by omega))
      have q2 := gx_eqnr (k := 0) (by decide) q
      rw [e5] at q2
      refine gf_if (Q := gp_Qd tx ty S F (gp_rd tx ty (m + 1) R f a nA nC)) (fun _ => ?_) (fun q => absurd e24 q)
      rw [(show gp_rd tx ty (m + 1) R f a nA nC = .inr (R, f, nA, nC) from if_neg (by omega))]
      refine ⟨⟨rfl, w24, ?_, by show 1 ≤ R; omega, hR, by show 2 * nA ≤ 150; omega, by show 2 * nC + 3 * R ≤ 50; omega, hcd⟩, e5, hO, hO2⟩
      exact hG
theorem gp_G_0 {Pg : Nat → Nat → Nat → Prop} (fr : Int32) (rc nm wh pa kd on tw ow : Nat → Int32) (f : Nat → Int × Lean.ParserDescr) : gp_G Pg fr (upd rc (Int32.toNatClampNeg fr) 0) nm wh (upd pa (Int32.toNatClampNeg fr) 0) kd on tw ow 0 f 0 0 := by
  have c0 : Int32.toNatClampNeg 0 = 0 := by decide
  refine ⟨by rw [gx_us]; decide, fun r hr => absurd hr (by omega), fun n n1 n2 => ?_, ?_, ?_⟩
  · unfold gp_M at n2
    rw [gx_us, c0] at n2
    have : 160 * Int32.toNatClampNeg fr ≤ n := n1
    exfalso
    omega
  · rw [gx_us, c0]; rfl
  · rw [gx_us, c0]; rfl
/-- the reading of a text, by the reference -/
theorem gp_GL_0 {tx : Nat → Int} {ty : Nat} (fr : Int32) (rc nm wh pa kd on tw ow : Nat → Int32) (lw hg : Nat → Int64) (f : Nat → Int × Lean.ParserDescr) : gp_GL tx ty fr (upd rc (Int32.toNatClampNeg fr) 0) nm wh (upd pa (Int32.toNatClampNeg fr) 0) kd on tw ow lw hg 0 f 0 0 := ⟨fun _ _ _ => False, gp_G_0 fr rc nm wh pa kd on tw ow f, fun _ _ _ h => h.elim, fun r _ h => absurd h (by omega), fun r h => absurd h (by omega)⟩
theorem gz_read (S : gm_S) {tx : Nat → Int} {ty : Nat} (ht : gp_tx (S.2.2 2) (S.1 3) tx ty) (hW : gm_iW 50 (S.2.2 2) (S.1 3)) (f : Nat → Int × Lean.ParserDescr) : gp_Qd tx ty S (if S.2.2 4 = 0 then 1 else 0) (gp_rd tx ty (ty + 1) 0 f 0 0 0) (gm_f_MD_read S) := by
  have z0 : (0 : Int32).toInt = 0 := by decide
  have z1 : (1 : Int32).toInt = 1 := by decide
  have ty2 := ht.2.1
  unfold gm_f_MD_read
  by_cases q : S.2.2 4 = 0
  · rw [if_pos q, if_pos q]
    refine gz_rd_46_a S 1 ht hW ⟨by omega, by omega⟩ 200 (ty + 1) 0 f 0 0 0 _ rfl rfl z0 (by omega) ?_ ?_ (gp_GL_0 1 _ _ _ _ _ _ _ _ _ _ f) (by omega) (by omega) (by omega) (fun r hr => absurd hr (by omega)) ⟨fun n hn => gx_un _ _ _ hn, fun n hn => ⟨rfl, rfl, rfl, rfl, rfl, rfl⟩⟩ ⟨fun n hn => gx_un _ _ _ hn, fun n hn => ⟨rfl, rfl⟩⟩ (by omega) (by omega)
    · show 0 ≤ (upd (S.1 9) (Int32.toNatClampNeg 1) 0 (Int32.toNatClampNeg 1)).toInt
      rw [gx_us]; omega
    · show (upd (S.1 9) (Int32.toNatClampNeg 1) 0 (Int32.toNatClampNeg 1)).toInt ≤ _
      rw [gx_us]; omega
  · rw [if_neg q, if_neg q]
    refine gz_rd_46 S 0 ht hW ⟨by omega, by omega⟩ 200 (ty + 1) 0 f 0 0 0 _ rfl rfl z0 (by omega) ?_ ?_ (gp_GL_0 0 _ _ _ _ _ _ _ _ _ _ f) (by omega) (by omega) (by omega) (fun r hr => absurd hr (by omega)) ⟨fun n hn => gx_un _ _ _ hn, fun n hn => ⟨rfl, rfl, rfl, rfl, rfl, rfl⟩⟩ ⟨fun n hn => gx_un _ _ _ hn, fun n hn => ⟨rfl, rfl⟩⟩ (by omega) (by omega)
    · show 0 ≤ (upd (S.1 9) (Int32.toNatClampNeg 0) 0 (Int32.toNatClampNeg 0)).toInt
      rw [gx_us]; omega
    · show (upd (S.1 9) (Int32.toNatClampNeg 0) 0 (Int32.toNatClampNeg 0)).toInt ≤ _
      rw [gx_us]; omega
