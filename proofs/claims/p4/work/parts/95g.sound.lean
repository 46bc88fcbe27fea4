/-- what is known of the parts of a half in use, and of the subject -/
def gp_SC (kd on tw Mz em kp sb : Nat → Int32) (lw hg : Nat → Int64) (b B P fed : Nat) : Prop :=
  (∀ n, B ≤ n → n < B + P → (0 ≤ (kd n).toInt ∧ (kd n).toInt ≤ 10) ∧ (4 ≤ (kd n).toInt → B ≤ Int32.toNatClampNeg (on n) ∧ Int32.toNatClampNeg (on n) < n ∧ ((Int32.toNatClampNeg (on n) : Nat) : Int) = (on n).toInt) ∧ ((kd n).toInt = 4 ∨ (kd n).toInt = 5 → B ≤ Int32.toNatClampNeg (tw n) ∧ Int32.toNatClampNeg (tw n) < n ∧ ((Int32.toNatClampNeg (tw n) : Nat) : Int) = (tw n).toInt) ∧ ((kd n).toInt = 1 → 0 ≤ (on n).toInt ∧ 1 ≤ (tw n).toInt ∧ (on n).toInt + (tw n).toInt ≤ 50) ∧ ((kd n).toInt = 3 → B ≤ Int32.toNatClampNeg (Mz n) ∧ Int32.toNatClampNeg (Mz n) < B + P ∧ ((Int32.toNatClampNeg (Mz n) : Nat) : Int) = (Mz n).toInt)) ∧
  (∀ n, B ≤ n → n < B + P → (em n = 1 ↔ gp_eF kd on tw Mz (fun j => B ≤ j ∧ em j = 1) n)) ∧
  (∀ n, B ≤ n → n < B + P → ∀ c : Int, 32 ≤ c → c ≤ 126 → gp_hF kd on tw Mz (fun j => em j = 1) (fun j => B ≤ j ∧ gp_ih lw hg j c) ((kp (50 * b + Int32.toNatClampNeg (on n))).toInt = c) n → gp_ih lw hg n c) ∧
  (∀ j, em j = 0 ∨ em j = 1) ∧ ∀ q, q < fed → 32 ≤ (sb q).toInt ∧ (sb q).toInt ≤ 126
/-- what a known cell can be -/
def gp_sd (em sb : Nat → Int32) (lw hg : Nat → Int64) (fed : Nat) (v : Int) (m q : Nat) : Prop := v = -1 ∨ (0 ≤ v ∧ (q : Int) + v ≤ fed ∧ (v = 0 → em m = 1) ∧ (0 < v → gp_ih lw hg m (sb q).toInt))
theorem gp_FI_sd {kd on tw Mz em kp sb : Nat → Int32} {lw hg : Nat → Int64} {b B P fed : Nat} (SC : gp_SC kd on tw Mz em kp sb lw hg b B P fed) {tk ck : Nat → Int32} {rk : Nat → Nat} {t : Nat} (h : gp_FI kd on tw Mz (gp_out em lw hg sb fed) (gp_row on tw sb kp b fed) B P fed tk ck rk t) : ∀ (N k p : Nat), k < P → p ≤ fed → rk (11 * k + p) < N → ¬ gp_Tb B tk (B + k) p = -3 → gp_sd em sb lw hg fed (gp_Tb B tk (B + k) p) (B + k) p := by
  obtain ⟨S1, S2, S3, S4, S5⟩ := SC
  intro N
  induction N with
  | zero => intro k p _ _ q; exact absurd q (by omega)
  | succ N ih =>
    intro k p hk hp hr hq
    obtain ⟨a1, w, a2, a3, c0, c1, c2, c3, c4, c5, c6, c7, c8, c9, c10⟩ := h k p hk hp hq
    have child : ∀ m q, gp_okc B P fed tk rk (rk (11 * k + p)) m q → gp_sd em sb lw hg fed (gp_Tb B tk m q) m q := by
      rintro m q ⟨b1, b2, b3, b4, b5⟩
      have e : B + (m - B) = m := by omega
      have := ih (m - B) q (by omega) b3 (by omega) (by rw [e]; exact b4)
      rw [e] at this
      exact this
    obtain ⟨⟨n0, n1⟩, n4, n45, n1r, n3⟩ := S1 (B + k) (by omega) (by omega)
    have E := S2 (B + k) (by omega) (by omega)
    have H := S3 (B + k) (by omega) (by omega)
    generalize hv : gp_Tb B tk (B + k) p = v at c0 c1 c2 c3 c4 c5 c6 c7 c8 c9 c10 ⊢
    have sbp : ∀ x : Int, 0 < x → (p : Int) + x ≤ fed → 32 ≤ (sb p).toInt ∧ (sb p).toInt ≤ 126 := fun x h1 h2 => S5 p (by omega)
    have emt : ((kd (B + k)).toInt = 0 ∨ (kd (B + k)).toInt = 6 ∨ (kd (B + k)).toInt = 7 ∨ (kd (B + k)).toInt = 8 ∨ (kd (B + k)).toInt = 9) → em (B + k) = 1 := fun q => E.mpr (gp_eF_t q)
    by_cases k0 : (kd (B + k)).toInt = 0
    · have := c0 k0
      exact Or.inr ⟨by omega, by omega, fun _ => emt (Or.inl k0), fun q => by omega⟩
    by_cases k1 : (kd (B + k)).toInt = 1
    · obtain ⟨r | r, -⟩ := c1 k1
      · obtain ⟨⟨r1, r2⟩, r3⟩ := r
        have nr := n1r k1
        refine Or.inr ⟨by omega, by omega, fun q => by omega, fun q => ?_⟩
        have sp := sbp v q (by omega)
        refine H _ sp.1 sp.2 (Or.inl ⟨k1, ?_⟩)
        have := r2 0 (by omega)
        rw [Nat.add_zero, Nat.add_zero] at this
        rw [← this]
      · exact Or.inl r.2
    by_cases k2 : (kd (B + k)).toInt = 2
    · obtain ⟨r | r, -⟩ := c2 k2
      · exact Or.inl r.2
      · have e0 : em (B + k) = 0 := by
          rcases S4 (B + k) with q | q
          · exact q
          · exact absurd k2 (E.mp q).2.1
        have o : ¬ (p = fed ∨ ¬ gp_ih lw hg (B + k) (sb p).toInt) := fun q => r.1 ⟨e0, q⟩
        have o1 : ¬ p = fed := fun q => o (Or.inl q)
        have o2 : gp_ih lw hg (B + k) (sb p).toInt := Classical.byContradiction (fun q => o (Or.inr q))
        exact Or.inr ⟨by omega, by omega, fun q => by omega, fun _ => o2⟩
    by_cases k3 : (kd (B + k)).toInt = 3
    · obtain ⟨r1, r2, -⟩ := c3 k3
      have nr := n3 k3
      have s := child _ _ r1
      rw [← r2] at s
      rcases s with s | ⟨s1, s2, s3, s4⟩
      · exact Or.inl s
      · refine Or.inr ⟨s1, s2, fun q => E.mpr ((gp_eF_3 k3).mpr ⟨nr.1, s3 q⟩), fun q => ?_⟩
        have sp := sbp v q s2
        exact H _ sp.1 sp.2 (Or.inr (Or.inl ⟨k3, nr.1, s4 q⟩))
    by_cases k4 : (kd (B + k)).toInt = 4
    · obtain ⟨r1, r2⟩ := c4 k4
      have na := n4 (by omega)
      have nb := n45 (Or.inl k4)
      have s := child _ _ r1
      rcases r2 with r2 | ⟨r3, r4, -, r5⟩
      · exact Or.inl r2.2.1
      · have s' := child _ _ r4
        generalize gp_Tb B tk (Int32.toNatClampNeg (on (B + k))) p = va at s r3 r4 r5 s'
        rcases r5 with r5 | ⟨r5, r6⟩
        · exact Or.inl r5.2
        · rcases s with s | ⟨s1, s2, s3, s4⟩
          · omega
          generalize gp_Tb B tk (Int32.toNatClampNeg (tw (B + k))) (p + va.toNat) = vb at s' r5 r6
          rcases s' with s' | ⟨t1, t2, t3, t4⟩
          · exact absurd s' r5
          refine Or.inr ⟨by omega, by omega, fun q => E.mpr ((gp_eF_4 k4).mpr ⟨⟨na.1, s3 (by omega)⟩, nb.1, t3 (by omega)⟩), fun q => ?_⟩
          have sp := sbp v q (by omega)
          refine H _ sp.1 sp.2 (Or.inr (Or.inr (Or.inl ⟨k4, ?_⟩)))
          by_cases z : va = 0
          · refine Or.inr ⟨s3 z, nb.1, ?_⟩
            have := t4 (by omega)
            rw [z, show p + (0 : Int).toNat = p by omega] at this
            exact this
          · exact Or.inl ⟨na.1, s4 (by omega)⟩
    by_cases k5 : (kd (B + k)).toInt = 5
    · have na := n4 (by omega)
      have nb := n45 (Or.inr k5)
      rcases c5 k5 with ⟨-, r1, r2, r3, -⟩ | ⟨-, -, -, r1, r3, -⟩ | ⟨-, r1, r3, -⟩
      · have s := child _ _ r1
        rw [← r3] at s r2
        rcases s with s | ⟨s1, s2, s3, s4⟩
        · exact absurd s r2
        · refine Or.inr ⟨s1, s2, fun q => E.mpr ((gp_eF_5 k5).mpr (Or.inl ⟨na.1, s3 q⟩)), fun q => ?_⟩
          have sp := sbp v q s2
          exact H _ sp.1 sp.2 (Or.inr (Or.inr (Or.inr (Or.inl ⟨k5, Or.inl ⟨na.1, s4 q⟩⟩))))
      · have s := child _ _ r1
        rw [← r3] at s
        rcases s with s | ⟨s1, s2, s3, s4⟩
        · exact Or.inl s
        · refine Or.inr ⟨s1, s2, fun q => E.mpr ((gp_eF_5 k5).mpr (Or.inr ⟨nb.1, s3 q⟩)), fun q => ?_⟩
          have sp := sbp v q s2
          exact H _ sp.1 sp.2 (Or.inr (Or.inr (Or.inr (Or.inl ⟨k5, Or.inr ⟨nb.1, s4 q⟩⟩))))
      · have s := child _ _ r1
        rw [← r3] at s
        rcases s with s | ⟨s1, s2, s3, s4⟩
        · exact Or.inl s
        · refine Or.inr ⟨s1, s2, fun q => E.mpr ((gp_eF_5 k5).mpr (Or.inr ⟨nb.1, s3 q⟩)), fun q => ?_⟩
          have sp := sbp v q s2
          exact H _ sp.1 sp.2 (Or.inr (Or.inr (Or.inr (Or.inl ⟨k5, Or.inr ⟨nb.1, s4 q⟩⟩))))
    by_cases k6 : (kd (B + k)).toInt = 6
    · have na := n4 (by omega)
      rcases c6 k6 with r | ⟨-, r1, -, r2⟩
      · exact Or.inr ⟨by omega, by omega, fun _ => emt (Or.inr (Or.inl k6)), fun q => by omega⟩
      · have s := child _ _ r1
        rcases r2 with r2 | ⟨r2, r3⟩
        · exact Or.inr ⟨by omega, by omega, fun _ => emt (Or.inr (Or.inl k6)), fun q => by omega⟩
        · rw [← r3] at s r2
          rcases s with s | ⟨s1, s2, s3, s4⟩
          · exact absurd s r2
          · refine Or.inr ⟨s1, s2, fun _ => emt (Or.inr (Or.inl k6)), fun q => ?_⟩
            have sp := sbp v q s2
            exact H _ sp.1 sp.2 (Or.inr (Or.inr (Or.inr (Or.inr ⟨Or.inl k6, na.1, s4 q⟩))))
    by_cases k7 : (kd (B + k)).toInt = 7
    · have na := n4 (by omega)
      rcases c7 k7 with r | ⟨-, r1, r2⟩
      · exact Or.inr ⟨by omega, by omega, fun _ => emt (Or.inr (Or.inr (Or.inl k7))), fun q => by omega⟩
      · have s := child _ _ r1
        rcases r2 with r2 | ⟨r3, r4, r5, -⟩
        · exact Or.inr ⟨by omega, by omega, fun _ => emt (Or.inr (Or.inr (Or.inl k7))), fun q => by omega⟩
        · have s' := child _ _ r4
          have r6 := r4.2.2.2.2
          generalize gp_Tb B tk (Int32.toNatClampNeg (on (B + k))) p = va at s r3 r4 r5 r6 s'
          rcases s with s | ⟨s1, s2, s3, s4⟩
          · omega
          have z : ¬ va = 0 := by
            intro z
            rw [z, show p + (0 : Int).toNat = p by omega, show 11 * (B + k - B) + p = 11 * k + p by omega] at r6
            omega
          generalize gp_Tb B tk (B + k) (p + va.toNat) = vb at s' r5
          have vb0 : vb = -1 ∨ 0 ≤ vb ∧ ((p + va.toNat : Nat) : Int) + vb ≤ fed := by
            rcases s' with s' | ⟨t1, t2, -⟩
            · exact Or.inl s'
            · exact Or.inr ⟨t1, t2⟩
          have sp := sbp va (by omega) s2
          have ihn := H _ sp.1 sp.2 (Or.inr (Or.inr (Or.inr (Or.inr ⟨Or.inr (Or.inl k7), na.1, s4 (by omega)⟩))))
          rcases vb0 with vb0 | ⟨t1, t2⟩
          · exact Or.inr ⟨by omega, by omega, fun _ => emt (Or.inr (Or.inr (Or.inl k7))), fun _ => ihn⟩
          · exact Or.inr ⟨by omega, by omega, fun _ => emt (Or.inr (Or.inr (Or.inl k7))), fun _ => ihn⟩
    by_cases k8 : (kd (B + k)).toInt = 8
    · obtain ⟨-, -, r⟩ := c8 k8
      rcases r with r | r
      · exact Or.inl r.2
      · exact Or.inr ⟨by omega, by omega, fun _ => emt (Or.inr (Or.inr (Or.inr (Or.inl k8)))), fun q => by omega⟩
    by_cases k9 : (kd (B + k)).toInt = 9
    · obtain ⟨-, -, r⟩ := c9 k9
      rcases r with r | r
      · exact Or.inr ⟨by omega, by omega, fun _ => emt (Or.inr (Or.inr (Or.inr (Or.inr k9)))), fun q => by omega⟩
      · exact Or.inl r.2
    · have k10 : (kd (B + k)).toInt = 10 := by omega
      obtain ⟨r1, r2, -⟩ := c10 k10
      have na := n4 (by omega)
      have s := child _ _ r1
      rw [← r2] at s
      rcases s with s | ⟨s1, s2, s3, s4⟩
      · exact Or.inl s
      · refine Or.inr ⟨s1, s2, fun q => E.mpr ((gp_eF_10 k10).mpr ⟨na.1, s3 q⟩), fun q => ?_⟩
        have sp := sbp v q s2
        exact H _ sp.1 sp.2 (Or.inr (Or.inr (Or.inr (Or.inr ⟨Or.inr (Or.inr k10), na.1, s4 q⟩))))
