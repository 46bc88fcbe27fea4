abbrev gx_q_MD_read (S : gm_S) (z : Int32 × (gm_S)) : Prop := ((0 ≤ (z.2.2.2 5).toInt) ∧ (((z.2.2.2 5).toInt ≤ 1) ∧ ((0 ≤ (z.2.1 9 (Int32.toNatClampNeg (z.2.2.2 5))).toInt) ∧ (((z.2.1 9 (Int32.toNatClampNeg (z.2.2.2 5))).toInt ≤ 100) ∧ ((0 ≤ (z.2.2.2 19).toInt) ∧ (((z.2.2.2 19).toInt ≤ (S.2.2 2).toInt) ∧ ((0 ≤ (z.2.1 6 (Int32.toNatClampNeg (z.2.2.2 5))).toInt) ∧ (((z.2.1 6 (Int32.toNatClampNeg (z.2.2.2 5))).toInt ≤ 8)))))))))
set_option maxRecDepth 100000 in
theorem gx_s_MD_read_46 (S : gm_S) (h1 : gm_iW 50 (S.2.2 2) (S.1 3)) : ∀ (n46 : Nat) (S_46 : gm_S), (0 ≤ (S_46.2.2 5).toInt) → ((S_46.2.2 5).toInt ≤ 1) → (0 ≤ (S_46.1 9 (Int32.toNatClampNeg (S_46.2.2 5))).toInt) → ((S_46.1 9 (Int32.toNatClampNeg (S_46.2.2 5))).toInt ≤ (2 * (S_46.2.2 19).toInt)) → (0 ≤ (S_46.2.2 19).toInt) → ((S_46.2.2 19).toInt ≤ (S.2.2 2).toInt) → (0 ≤ (S_46.1 6 (Int32.toNatClampNeg (S_46.2.2 5))).toInt) → ((S_46.1 6 (Int32.toNatClampNeg (S_46.2.2 5))).toInt ≤ 8) → (0 < n46) → (((S_46.2.2 24).toInt ≠ 0) ∨ ((((S.2.2 2).toInt - (S_46.2.2 19).toInt) + 1) < n46)) → gm_p_MD_read_46 S n46 S_46 ∧ gx_q_MD_read S (gm_f_MD_read_46 S n46 S_46) := by
  intro n46
  induction n46 with
  | zero =>
    intro S_46 h2 h3 h4 h5 h6 h7 h8 h9 h10 h11; exfalso; skip; omega
  | succ n46 ih =>
    intro S_46 h2 h3 h4 h5 h6 h7 h8 h9 h10 h11
    rw [gm_p_MD_read_46, gm_f_MD_read_46]
    refine gx_if (Q := gx_q_MD_read S) (fun h12 => ?_) (fun h12 => ?_)
    · skip
      have h12_ := gx_eqr (k := 0) (by decide) h12
      refine gx_if (Q := gx_q_MD_read S) (fun h13 => ?_) (fun h13 => ?_)
      · skip
        have h13_ := gx_lt h13
        refine gx_ca (Q := gx_q_MD_read S) (gx_q_MD_readRule _) (gx_s_MD_readRule _ h1 (show 0 ≤ (S_46.2.2 5).toInt ∧ (S_46.2.2 5).toInt ≤ 1 from (by omega)) h4 h5 h6 h7 h8 h9) ?_
        intro r_h14 u77 h14
        have h14_0 : (0 ≤ (u77.1 9 (Int32.toNatClampNeg (S_46.2.2 5))).toInt) ∧ (((u77.1 9 (Int32.toNatClampNeg (S_46.2.2 5))).toInt ≤ (2 * (u77.2.2 19).toInt)) ∧ (((S_46.2.2 19).toInt ≤ (u77.2.2 19).toInt) ∧ (((u77.2.2 19).toInt ≤ (S.2.2 2).toInt) ∧ ((0 ≤ (u77.1 6 (Int32.toNatClampNeg (S_46.2.2 5))).toInt) ∧ (((u77.1 6 (Int32.toNatClampNeg (S_46.2.2 5))).toInt ≤ 8) ∧ (((S_46.2.2 19).toInt < (u77.2.2 19).toInt) ∨ ((u77.2.2 24).toInt ≠ 0))))))) := h14
        clear h14
        refine ih _ ?_ ?_ ?_ ?_ ?_ ?_ ?_ ?_ ?_ ?_
        · exact h2
        · exact h3
        · exact (show 0 ≤ (u77.1 9 (Int32.toNatClampNeg (S_46.2.2 5))).toInt from (by omega))
        · exact (show (u77.1 9 (Int32.toNatClampNeg (S_46.2.2 5))).toInt ≤ (2 * (u77.2.2 19).toInt) from (by omega))
        · exact (show 0 ≤ (u77.2.2 19).toInt from (by omega))
        · exact (show (u77.2.2 19).toInt ≤ (S.2.2 2).toInt from (by omega))
        · exact (show 0 ≤ (u77.1 6 (Int32.toNatClampNeg (S_46.2.2 5))).toInt from (by omega))
        · exact (show (u77.1 6 (Int32.toNatClampNeg (S_46.2.2 5))).toInt ≤ 8 from (by omega))
        · exact (show 0 < n46 from (by omega))
        · exact (show ((u77.2.2 24).toInt ≠ 0) ∨ ((((S.2.2 2).toInt - (u77.2.2 19).toInt) + 1) < n46) from (by omega))
      · skip
        have h13_ := gx_ltn h13
        refine gx_in (Q := gx_q_MD_read S) (vp_in_iff.mpr (by omega)) ?_
        refine gx_if (Q := gx_q_MD_read S) (fun h14 => ?_) (fun h14 => ?_)
        · skip
          have h14_ := gx_eqr (k := 0) (by decide) h14
          refine gx_ca (Q := gx_q_MD_read S) (gx_q_MD_readRule _) (gx_s_MD_readRule _ h1 (show 0 ≤ (S_46.2.2 5).toInt ∧ (S_46.2.2 5).toInt ≤ 1 from (by omega)) h4 h5 h6 h7 h8 h9) ?_
          intro r_h15 u77 h15
          have h15_0 : (0 ≤ (u77.1 9 (Int32.toNatClampNeg (S_46.2.2 5))).toInt) ∧ (((u77.1 9 (Int32.toNatClampNeg (S_46.2.2 5))).toInt ≤ (2 * (u77.2.2 19).toInt)) ∧ (((S_46.2.2 19).toInt ≤ (u77.2.2 19).toInt) ∧ (((u77.2.2 19).toInt ≤ (S.2.2 2).toInt) ∧ ((0 ≤ (u77.1 6 (Int32.toNatClampNeg (S_46.2.2 5))).toInt) ∧ (((u77.1 6 (Int32.toNatClampNeg (S_46.2.2 5))).toInt ≤ 8) ∧ (((S_46.2.2 19).toInt < (u77.2.2 19).toInt) ∨ ((u77.2.2 24).toInt ≠ 0))))))) := h15
          clear h15
          refine ih _ ?_ ?_ ?_ ?_ ?_ ?_ ?_ ?_ ?_ ?_
          · exact h2
          · exact h3
          · exact (show 0 ≤ (u77.1 9 (Int32.toNatClampNeg (S_46.2.2 5))).toInt from (by omega))
          · exact (show (u77.1 9 (Int32.toNatClampNeg (S_46.2.2 5))).toInt ≤ (2 * (u77.2.2 19).toInt) from (by omega))
          · exact (show 0 ≤ (u77.2.2 19).toInt from (by omega))
          · exact (show (u77.2.2 19).toInt ≤ (S.2.2 2).toInt from (by omega))
          · exact (show 0 ≤ (u77.1 6 (Int32.toNatClampNeg (S_46.2.2 5))).toInt from (by omega))
          · exact (show (u77.1 6 (Int32.toNatClampNeg (S_46.2.2 5))).toInt ≤ 8 from (by omega))
          · exact (show 0 < n46 from (by omega))
          · exact (show ((u77.2.2 24).toInt ≠ 0) ∨ ((((S.2.2 2).toInt - (u77.2.2 19).toInt) + 1) < n46) from (by omega))
        · skip
          have h14_ := gx_eqnr (k := 0) (by decide) h14
          refine gx_if (Q := gx_q_MD_read S) (fun h15 => ?_) (fun h15 => ?_)
          · skip
            have h15_ := gx_eqr (k := 0) (by decide) h15
            exact ⟨trivial, (show (0 ≤ (S_46.2.2 5).toInt) ∧ (((S_46.2.2 5).toInt ≤ 1) ∧ ((0 ≤ (S_46.1 9 (Int32.toNatClampNeg (S_46.2.2 5))).toInt) ∧ (((S_46.1 9 (Int32.toNatClampNeg (S_46.2.2 5))).toInt ≤ 100) ∧ ((0 ≤ (S_46.2.2 19).toInt) ∧ (((S_46.2.2 19).toInt ≤ (S.2.2 2).toInt) ∧ ((0 ≤ (S_46.1 6 (Int32.toNatClampNeg (S_46.2.2 5))).toInt) ∧ ((S_46.1 6 (Int32.toNatClampNeg (S_46.2.2 5))).toInt ≤ 8))))))) from (by omega))⟩
          · skip
            have h15_ := gx_eqnr (k := 0) (by decide) h15
            exact ⟨trivial, (show (0 ≤ (S_46.2.2 5).toInt) ∧ (((S_46.2.2 5).toInt ≤ 1) ∧ ((0 ≤ (S_46.1 9 (Int32.toNatClampNeg (S_46.2.2 5))).toInt) ∧ (((S_46.1 9 (Int32.toNatClampNeg (S_46.2.2 5))).toInt ≤ 100) ∧ ((0 ≤ (S_46.2.2 19).toInt) ∧ (((S_46.2.2 19).toInt ≤ (S.2.2 2).toInt) ∧ ((0 ≤ (S_46.1 6 (Int32.toNatClampNeg (S_46.2.2 5))).toInt) ∧ ((S_46.1 6 (Int32.toNatClampNeg (S_46.2.2 5))).toInt ≤ 8))))))) from (by omega))⟩
    · skip
      have h12_ := gx_eqnr (k := 0) (by decide) h12
      refine gx_if (Q := gx_q_MD_read S) (fun h13 => ?_) (fun h13 => ?_)
      · skip
        have h13_ := gx_eqr (k := 0) (by decide) h13
        exact ⟨trivial, (show (0 ≤ (S_46.2.2 5).toInt) ∧ (((S_46.2.2 5).toInt ≤ 1) ∧ ((0 ≤ (S_46.1 9 (Int32.toNatClampNeg (S_46.2.2 5))).toInt) ∧ (((S_46.1 9 (Int32.toNatClampNeg (S_46.2.2 5))).toInt ≤ 100) ∧ ((0 ≤ (S_46.2.2 19).toInt) ∧ (((S_46.2.2 19).toInt ≤ (S.2.2 2).toInt) ∧ ((0 ≤ (S_46.1 6 (Int32.toNatClampNeg (S_46.2.2 5))).toInt) ∧ ((S_46.1 6 (Int32.toNatClampNeg (S_46.2.2 5))).toInt ≤ 8))))))) from (by omega))⟩
      · skip
        have h13_ := gx_eqnr (k := 0) (by decide) h13
        exact ⟨trivial, (show (0 ≤ (S_46.2.2 5).toInt) ∧ (((S_46.2.2 5).toInt ≤ 1) ∧ ((0 ≤ (S_46.1 9 (Int32.toNatClampNeg (S_46.2.2 5))).toInt) ∧ (((S_46.1 9 (Int32.toNatClampNeg (S_46.2.2 5))).toInt ≤ 100) ∧ ((0 ≤ (S_46.2.2 19).toInt) ∧ (((S_46.2.2 19).toInt ≤ (S.2.2 2).toInt) ∧ ((0 ≤ (S_46.1 6 (Int32.toNatClampNeg (S_46.2.2 5))).toInt) ∧ ((S_46.1 6 (Int32.toNatClampNeg (S_46.2.2 5))).toInt ≤ 8))))))) from (by omega))⟩
set_option maxRecDepth 100000 in
theorem gx_s_MD_read_46_a (S : gm_S) (h1 : gm_iW 50 (S.2.2 2) (S.1 3)) : ∀ (n46 : Nat) (S_46 : gm_S), (0 ≤ (S_46.2.2 5).toInt) → ((S_46.2.2 5).toInt ≤ 1) → (0 ≤ (S_46.1 9 (Int32.toNatClampNeg (S_46.2.2 5))).toInt) → ((S_46.1 9 (Int32.toNatClampNeg (S_46.2.2 5))).toInt ≤ (2 * (S_46.2.2 19).toInt)) → (0 ≤ (S_46.2.2 19).toInt) → ((S_46.2.2 19).toInt ≤ (S.2.2 2).toInt) → (0 ≤ (S_46.1 6 (Int32.toNatClampNeg (S_46.2.2 5))).toInt) → ((S_46.1 6 (Int32.toNatClampNeg (S_46.2.2 5))).toInt ≤ 8) → (0 < n46) → (((S_46.2.2 24).toInt ≠ 0) ∨ ((((S.2.2 2).toInt - (S_46.2.2 19).toInt) + 1) < n46)) → gm_p_MD_read_46_a S n46 S_46 ∧ gx_q_MD_read S (gm_f_MD_read_46_a S n46 S_46) := by
  intro n46
  induction n46 with
  | zero =>
    intro S_46 h2 h3 h4 h5 h6 h7 h8 h9 h10 h11; exfalso; skip; omega
  | succ n46 ih =>
    intro S_46 h2 h3 h4 h5 h6 h7 h8 h9 h10 h11
    rw [gm_p_MD_read_46_a, gm_f_MD_read_46_a]
    refine gx_if (Q := gx_q_MD_read S) (fun h12 => ?_) (fun h12 => ?_)
    · skip
      have h12_ := gx_eqr (k := 0) (by decide) h12
      refine gx_if (Q := gx_q_MD_read S) (fun h13 => ?_) (fun h13 => ?_)
      · skip
        have h13_ := gx_lt h13
        refine gx_ca (Q := gx_q_MD_read S) (gx_q_MD_readRule _) (gx_s_MD_readRule _ h1 (show 0 ≤ (S_46.2.2 5).toInt ∧ (S_46.2.2 5).toInt ≤ 1 from (by omega)) h4 h5 h6 h7 h8 h9) ?_
        intro r_h14 u77 h14
        have h14_0 : (0 ≤ (u77.1 9 (Int32.toNatClampNeg (S_46.2.2 5))).toInt) ∧ (((u77.1 9 (Int32.toNatClampNeg (S_46.2.2 5))).toInt ≤ (2 * (u77.2.2 19).toInt)) ∧ (((S_46.2.2 19).toInt ≤ (u77.2.2 19).toInt) ∧ (((u77.2.2 19).toInt ≤ (S.2.2 2).toInt) ∧ ((0 ≤ (u77.1 6 (Int32.toNatClampNeg (S_46.2.2 5))).toInt) ∧ (((u77.1 6 (Int32.toNatClampNeg (S_46.2.2 5))).toInt ≤ 8) ∧ (((S_46.2.2 19).toInt < (u77.2.2 19).toInt) ∨ ((u77.2.2 24).toInt ≠ 0))))))) := h14
        clear h14
        refine ih _ ?_ ?_ ?_ ?_ ?_ ?_ ?_ ?_ ?_ ?_
        · exact h2
        · exact h3
        · exact (show 0 ≤ (u77.1 9 (Int32.toNatClampNeg (S_46.2.2 5))).toInt from (by omega))
        · exact (show (u77.1 9 (Int32.toNatClampNeg (S_46.2.2 5))).toInt ≤ (2 * (u77.2.2 19).toInt) from (by omega))
        · exact (show 0 ≤ (u77.2.2 19).toInt from (by omega))
        · exact (show (u77.2.2 19).toInt ≤ (S.2.2 2).toInt from (by omega))
        · exact (show 0 ≤ (u77.1 6 (Int32.toNatClampNeg (S_46.2.2 5))).toInt from (by omega))
        · exact (show (u77.1 6 (Int32.toNatClampNeg (S_46.2.2 5))).toInt ≤ 8 from (by omega))
        · exact (show 0 < n46 from (by omega))
        · exact (show ((u77.2.2 24).toInt ≠ 0) ∨ ((((S.2.2 2).toInt - (u77.2.2 19).toInt) + 1) < n46) from (by omega))
      · skip
        have h13_ := gx_ltn h13
        refine gx_in (Q := gx_q_MD_read S) (vp_in_iff.mpr (by omega)) ?_
        refine gx_if (Q := gx_q_MD_read S) (fun h14 => ?_) (fun h14 => ?_)
        · skip
          have h14_ := gx_eqr (k := 0) (by decide) h14
          refine gx_ca (Q := gx_q_MD_read S) (gx_q_MD_readRule _) (gx_s_MD_readRule _ h1 (show 0 ≤ (S_46.2.2 5).toInt ∧ (S_46.2.2 5).toInt ≤ 1 from (by omega)) h4 h5 h6 h7 h8 h9) ?_
          intro r_h15 u77 h15
          have h15_0 : (0 ≤ (u77.1 9 (Int32.toNatClampNeg (S_46.2.2 5))).toInt) ∧ (((u77.1 9 (Int32.toNatClampNeg (S_46.2.2 5))).toInt ≤ (2 * (u77.2.2 19).toInt)) ∧ (((S_46.2.2 19).toInt ≤ (u77.2.2 19).toInt) ∧ (((u77.2.2 19).toInt ≤ (S.2.2 2).toInt) ∧ ((0 ≤ (u77.1 6 (Int32.toNatClampNeg (S_46.2.2 5))).toInt) ∧ (((u77.1 6 (Int32.toNatClampNeg (S_46.2.2 5))).toInt ≤ 8) ∧ (((S_46.2.2 19).toInt < (u77.2.2 19).toInt) ∨ ((u77.2.2 24).toInt ≠ 0))))))) := h15
          clear h15
          refine ih _ ?_ ?_ ?_ ?_ ?_ ?_ ?_ ?_ ?_ ?_
          · exact h2
          · exact h3
          · exact (show 0 ≤ (u77.1 9 (Int32.toNatClampNeg (S_46.2.2 5))).toInt from (by omega))
          · exact (show (u77.1 9 (Int32.toNatClampNeg (S_46.2.2 5))).toInt ≤ (2 * (u77.2.2 19).toInt) from (by omega))
          · exact (show 0 ≤ (u77.2.2 19).toInt from (by omega))
          · exact (show (u77.2.2 19).toInt ≤ (S.2.2 2).toInt from (by omega))
          · exact (show 0 ≤ (u77.1 6 (Int32.toNatClampNeg (S_46.2.2 5))).toInt from (by omega))
          · exact (show (u77.1 6 (Int32.toNatClampNeg (S_46.2.2 5))).toInt ≤ 8 from (by omega))
          · exact (show 0 < n46 from (by omega))
          · exact (show ((u77.2.2 24).toInt ≠ 0) ∨ ((((S.2.2 2).toInt - (u77.2.2 19).toInt) + 1) < n46) from (by omega))
        · skip
          have h14_ := gx_eqnr (k := 0) (by decide) h14
          refine gx_if (Q := gx_q_MD_read S) (fun h15 => ?_) (fun h15 => ?_)
          · skip
            have h15_ := gx_eqr (k := 0) (by decide) h15
            exact ⟨trivial, (show (0 ≤ (S_46.2.2 5).toInt) ∧ (((S_46.2.2 5).toInt ≤ 1) ∧ ((0 ≤ (S_46.1 9 (Int32.toNatClampNeg (S_46.2.2 5))).toInt) ∧ (((S_46.1 9 (Int32.toNatClampNeg (S_46.2.2 5))).toInt ≤ 100) ∧ ((0 ≤ (S_46.2.2 19).toInt) ∧ (((S_46.2.2 19).toInt ≤ (S.2.2 2).toInt) ∧ ((0 ≤ (S_46.1 6 (Int32.toNatClampNeg (S_46.2.2 5))).toInt) ∧ ((S_46.1 6 (Int32.toNatClampNeg (S_46.2.2 5))).toInt ≤ 8))))))) from (by omega))⟩
          · skip
            have h15_ := gx_eqnr (k := 0) (by decide) h15
            exact ⟨trivial, (show (0 ≤ (S_46.2.2 5).toInt) ∧ (((S_46.2.2 5).toInt ≤ 1) ∧ ((0 ≤ (S_46.1 9 (Int32.toNatClampNeg (S_46.2.2 5))).toInt) ∧ (((S_46.1 9 (Int32.toNatClampNeg (S_46.2.2 5))).toInt ≤ 100) ∧ ((0 ≤ (S_46.2.2 19).toInt) ∧ (((S_46.2.2 19).toInt ≤ (S.2.2 2).toInt) ∧ ((0 ≤ (S_46.1 6 (Int32.toNatClampNeg (S_46.2.2 5))).toInt) ∧ ((S_46.1 6 (Int32.toNatClampNeg (S_46.2.2 5))).toInt ≤ 8))))))) from (by omega))⟩
    · skip
      have h12_ := gx_eqnr (k := 0) (by decide) h12
      refine gx_if (Q := gx_q_MD_read S) (fun h13 => ?_) (fun h13 => ?_)
      · skip
        have h13_ := gx_eqr (k := 0) (by decide) h13
        exact ⟨trivial, (show (0 ≤ (S_46.2.2 5).toInt) ∧ (((S_46.2.2 5).toInt ≤ 1) ∧ ((0 ≤ (S_46.1 9 (Int32.toNatClampNeg (S_46.2.2 5))).toInt) ∧ (((S_46.1 9 (Int32.toNatClampNeg (S_46.2.2 5))).toInt ≤ 100) ∧ ((0 ≤ (S_46.2.2 19).toInt) ∧ (((S_46.2.2 19).toInt ≤ (S.2.2 2).toInt) ∧ ((0 ≤ (S_46.1 6 (Int32.toNatClampNeg (S_46.2.2 5))).toInt) ∧ ((S_46.1 6 (Int32.toNatClampNeg (S_46.2.2 5))).toInt ≤ 8))))))) from (by omega))⟩
      · skip
        have h13_ := gx_eqnr (k := 0) (by decide) h13
        exact ⟨trivial, (show (0 ≤ (S_46.2.2 5).toInt) ∧ (((S_46.2.2 5).toInt ≤ 1) ∧ ((0 ≤ (S_46.1 9 (Int32.toNatClampNeg (S_46.2.2 5))).toInt) ∧ (((S_46.1 9 (Int32.toNatClampNeg (S_46.2.2 5))).toInt ≤ 100) ∧ ((0 ≤ (S_46.2.2 19).toInt) ∧ (((S_46.2.2 19).toInt ≤ (S.2.2 2).toInt) ∧ ((0 ≤ (S_46.1 6 (Int32.toNatClampNeg (S_46.2.2 5))).toInt) ∧ ((S_46.1 6 (Int32.toNatClampNeg (S_46.2.2 5))).toInt ≤ 8))))))) from (by omega))⟩
set_option maxRecDepth 100000 in
theorem gx_s_MD_read (S : gm_S) (h1 : gm_iW 50 (S.2.2 2) (S.1 3)) : gm_p_MD_read S ∧ gx_q_MD_read S (gm_f_MD_read S) := by
  unfold gm_p_MD_read gm_f_MD_read
  refine gx_if (Q := gx_q_MD_read S) (fun h2 => ?_) (fun h2 => ?_)
  · skip
    have h2_ := gx_eqr (k := 0) (by decide) h2
    refine gx_in (Q := gx_q_MD_read S) (vp_in_iff.mpr (by have : (1 : Int32).toInt = 1 := (by decide); omega)) ?_
    refine gx_in (Q := gx_q_MD_read S) (vp_in_iff.mpr (by have : (1 : Int32).toInt = 1 := (by decide); omega)) ?_
    refine gx_s_MD_read_46_a _ ?_ _ _ ?_ ?_ ?_ ?_ ?_ ?_ ?_ ?_ ?_ ?_
    · exact h1
    · exact (show 0 ≤ (1 : Int32).toInt from (by have : (1 : Int32).toInt = 1 := (by decide); omega))
    · exact (show (1 : Int32).toInt ≤ 1 from (by have : (1 : Int32).toInt = 1 := (by decide); omega))
    · exact (show 0 ≤ (upd (S.1 9) (Int32.toNatClampNeg 1) 0 (Int32.toNatClampNeg 1)).toInt from (by rw [gx_us]; exact (show 0 ≤ (0 : Int32).toInt from (by have : (0 : Int32).toInt = 0 := (by decide); omega))))
    · exact (show (upd (S.1 9) (Int32.toNatClampNeg 1) 0 (Int32.toNatClampNeg 1)).toInt ≤ (2 * (0 : Int32).toInt) from (by rw [gx_us]; exact (show (0 : Int32).toInt ≤ (2 * (0 : Int32).toInt) from (by have : (0 : Int32).toInt = 0 := (by decide); omega))))
    · exact (show 0 ≤ (0 : Int32).toInt from (by have : (0 : Int32).toInt = 0 := (by decide); omega))
    · exact (show (0 : Int32).toInt ≤ (S.2.2 2).toInt from (by have : (0 : Int32).toInt = 0 := (by decide); omega))
    · exact (show 0 ≤ (upd (S.1 6) (Int32.toNatClampNeg 1) 0 (Int32.toNatClampNeg 1)).toInt from (by rw [gx_us]; exact (show 0 ≤ (0 : Int32).toInt from (by have : (0 : Int32).toInt = 0 := (by decide); omega))))
    · exact (show (upd (S.1 6) (Int32.toNatClampNeg 1) 0 (Int32.toNatClampNeg 1)).toInt ≤ 8 from (by rw [gx_us]; exact (show (0 : Int32).toInt ≤ 8 from (by have : (0 : Int32).toInt = 0 := (by decide); omega))))
    · exact (show 0 < 200 from (by omega))
    · exact (show ((0 : Int32).toInt ≠ 0) ∨ ((((S.2.2 2).toInt - (0 : Int32).toInt) + 1) < 200) from (by have : (0 : Int32).toInt = 0 := (by decide); omega))
  · skip
    have h2_ := gx_eqnr (k := 0) (by decide) h2
    refine gx_in (Q := gx_q_MD_read S) (vp_in_iff.mpr (by have : (0 : Int32).toInt = 0 := (by decide); omega)) ?_
    refine gx_in (Q := gx_q_MD_read S) (vp_in_iff.mpr (by have : (0 : Int32).toInt = 0 := (by decide); omega)) ?_
    refine gx_s_MD_read_46 _ ?_ _ _ ?_ ?_ ?_ ?_ ?_ ?_ ?_ ?_ ?_ ?_
    · exact h1
    · exact (show 0 ≤ (0 : Int32).toInt from (by have : (0 : Int32).toInt = 0 := (by decide); omega))
    · exact (show (0 : Int32).toInt ≤ 1 from (by have : (0 : Int32).toInt = 0 := (by decide); omega))
    · exact (show 0 ≤ (upd (S.1 9) (Int32.toNatClampNeg 0) 0 (Int32.toNatClampNeg 0)).toInt from (by rw [gx_us]; exact (show 0 ≤ (0 : Int32).toInt from (by have : (0 : Int32).toInt = 0 := (by decide); omega))))
    · exact (show (upd (S.1 9) (Int32.toNatClampNeg 0) 0 (Int32.toNatClampNeg 0)).toInt ≤ (2 * (0 : Int32).toInt) from (by rw [gx_us]; exact (show (0 : Int32).toInt ≤ (2 * (0 : Int32).toInt) from (by have : (0 : Int32).toInt = 0 := (by decide); omega))))
    · exact (show 0 ≤ (0 : Int32).toInt from (by have : (0 : Int32).toInt = 0 := (by decide); omega))
    · exact (show (0 : Int32).toInt ≤ (S.2.2 2).toInt from (by have : (0 : Int32).toInt = 0 := (by decide); omega))
    · exact (show 0 ≤ (upd (S.1 6) (Int32.toNatClampNeg 0) 0 (Int32.toNatClampNeg 0)).toInt from (by rw [gx_us]; exact (show 0 ≤ (0 : Int32).toInt from (by have : (0 : Int32).toInt = 0 := (by decide); omega))))
    · exact (show (upd (S.1 6) (Int32.toNatClampNeg 0) 0 (Int32.toNatClampNeg 0)).toInt ≤ 8 from (by rw [gx_us]; exact (show (0 : Int32).toInt ≤ 8 from (by have : (0 : Int32).toInt = 0 := (by decide); omega))))
    · exact (show 0 < 200 from (by omega))
    · exact (show ((0 : Int32).toInt ≠ 0) ∨ ((((S.2.2 2).toInt - (0 : Int32).toInt) + 1) < 200) from (by have : (0 : Int32).toInt = 0 := (by decide); omega))
