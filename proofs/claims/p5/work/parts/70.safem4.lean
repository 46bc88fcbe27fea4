abbrev gx_q_MD_readRule (S : gm_S) (z : Int32 × (gm_S)) : Prop := ((0 ≤ (z.2.1 9 (Int32.toNatClampNeg (S.2.2 5))).toInt) ∧ (((z.2.1 9 (Int32.toNatClampNeg (S.2.2 5))).toInt ≤ (2 * (z.2.2.2 19).toInt)) ∧ (((S.2.2 19).toInt ≤ (z.2.2.2 19).toInt) ∧ (((z.2.2.2 19).toInt ≤ (S.2.2 2).toInt) ∧ ((0 ≤ (z.2.1 6 (Int32.toNatClampNeg (S.2.2 5))).toInt) ∧ (((z.2.1 6 (Int32.toNatClampNeg (S.2.2 5))).toInt ≤ 8) ∧ ((((S.2.2 19).toInt < (z.2.2.2 19).toInt) ∨ ((z.2.2.2 24).toInt ≠ 0)))))))))
set_option maxRecDepth 100000 in
theorem gx_s_MD_readRule_j44 (S : gm_S) (r1 : Int32) (u1 : gm_S) (S_j44 : gm_S) (h1 : gm_iW 50 (S.2.2 2) (S.1 3)) (h2 : gm_iN 1 (S.2.2 5)) (h3 : 0 ≤ (S.1 9 (Int32.toNatClampNeg (S.2.2 5))).toInt) (h4 : (S.1 9 (Int32.toNatClampNeg (S.2.2 5))).toInt ≤ (2 * (S.2.2 19).toInt)) (h5 : 0 ≤ (S.2.2 19).toInt) (h6 : (S.2.2 19).toInt ≤ (S.2.2 2).toInt) (h7 : 0 ≤ (S.1 6 (Int32.toNatClampNeg (S.2.2 5))).toInt) (h8 : (S.1 6 (Int32.toNatClampNeg (S.2.2 5))).toInt ≤ 8) (h9 : (S_j44.1 9 (Int32.toNatClampNeg (S.2.2 5))).toInt = (S.1 9 (Int32.toNatClampNeg (S.2.2 5))).toInt) (h10 : (S_j44.1 6 (Int32.toNatClampNeg (S.2.2 5))).toInt = (S.1 6 (Int32.toNatClampNeg (S.2.2 5))).toInt) (h11 : (S_j44.2.2 19).toInt = (S.2.2 19).toInt) : gm_p_MD_readRule_j44 S r1 u1 S_j44 ∧ gx_q_MD_readRule S (gm_f_MD_readRule_j44 S r1 u1 S_j44) := by
  unfold gm_p_MD_readRule_j44 gm_f_MD_readRule_j44
  refine gx_ca (Q := gx_q_MD_readRule S) (gx_q_MD_refuse _) (gx_s_MD_refuse _ h1 h2) ?_
  intro r_h12 u45 h12
  have h12_0 : (u45.2.2 24).toInt = 1 := h12
  clear h12
  exact ⟨trivial, (show (0 ≤ (S_j44.1 9 (Int32.toNatClampNeg (S.2.2 5))).toInt) ∧ (((S_j44.1 9 (Int32.toNatClampNeg (S.2.2 5))).toInt ≤ (2 * (S_j44.2.2 19).toInt)) ∧ (((S.2.2 19).toInt ≤ (S_j44.2.2 19).toInt) ∧ (((S_j44.2.2 19).toInt ≤ (S.2.2 2).toInt) ∧ ((0 ≤ (S_j44.1 6 (Int32.toNatClampNeg (S.2.2 5))).toInt) ∧ (((S_j44.1 6 (Int32.toNatClampNeg (S.2.2 5))).toInt ≤ 8) ∧ (((S.2.2 19).toInt < (S_j44.2.2 19).toInt) ∨ ((u45.2.2 24).toInt ≠ 0))))))) from (by omega))⟩
set_option maxRecDepth 100000 in
theorem gx_s_MD_readRule_130 (S : gm_S) (r1 : Int32) (u1 : gm_S) (r37 : Int32) (u37 : gm_S) (r60 : Int32) (u60 : gm_S) (h1 : gm_iW 50 (S.2.2 2) (S.1 3)) (h2 : gm_iN 1 (S.2.2 5)) (h3 : 0 ≤ (S.1 9 (Int32.toNatClampNeg (S.2.2 5))).toInt) (h4 : (S.1 9 (Int32.toNatClampNeg (S.2.2 5))).toInt ≤ (2 * (S.2.2 19).toInt)) (h5 : 0 ≤ (S.2.2 19).toInt) (h6 : (S.2.2 19).toInt ≤ (S.2.2 2).toInt) (h7 : 0 ≤ (S.1 6 (Int32.toNatClampNeg (S.2.2 5))).toInt) (h8 : (S.1 6 (Int32.toNatClampNeg (S.2.2 5))).toInt ≤ 8) (h9 : (S.1 6 (Int32.toNatClampNeg (S.2.2 5))).toInt ≤ 7) : ∀ (n130 : Nat) (S_130 : gm_S), (gm_iC (S_130.2.2 20) (S_130.2.2 21) (S_130.2.2 22) (S_130.1 26) (S_130.1 28) (S_130.1 29)) → (0 ≤ (S_130.1 9 (Int32.toNatClampNeg (S.2.2 5))).toInt) → (0 ≤ (S_130.2.2 19).toInt) → ((S_130.2.2 19).toInt ≤ (S.2.2 2).toInt) → (0 ≤ (S_130.2.2 20).toInt) → ((S_130.2.2 20).toInt ≤ 6) → (0 ≤ (S_130.2.2 21).toInt) → (0 ≤ (S_130.2.2 22).toInt) → (((((S_130.1 9 (Int32.toNatClampNeg (S.2.2 5))).toInt + (S_130.2.2 21).toInt) + (S_130.2.2 22).toInt) + (2 * (S_130.2.2 20).toInt)) ≤ (2 * (S_130.2.2 19).toInt)) → (((S_130.2.2 23).toInt = 0) ∨ ((((((S_130.1 9 (Int32.toNatClampNeg (S.2.2 5))).toInt + (S_130.2.2 21).toInt) + (S_130.2.2 22).toInt) + (2 * (S_130.2.2 20).toInt)) + 1) ≤ (2 * (S_130.2.2 19).toInt))) → ((((S_130.2.2 21).toInt + (S_130.2.2 22).toInt) + (S_130.2.2 20).toInt) ≤ (S_130.2.2 19).toInt) → ((S_130.1 6 (Int32.toNatClampNeg (S.2.2 5))).toInt = (S.1 6 (Int32.toNatClampNeg (S.2.2 5))).toInt) → ((S.2.2 19).toInt < (S_130.2.2 19).toInt) → (0 < n130) → (((S_130.2.2 24).toInt ≠ 0) ∨ ((((S.2.2 2).toInt - (S_130.2.2 19).toInt) + 1) < n130)) → gm_p_MD_readRule_130 S r1 u1 r37 u37 r60 u60 n130 S_130 ∧ gx_q_MD_readRule S (gm_f_MD_readRule_130 S r1 u1 r37 u37 r60 u60 n130 S_130) := by
  intro n130
  induction n130 with
  | zero =>
    intro S_130 h10 h11 h12 h13 h14 h15 h16 h17 h18 h19 h20 h21 h22 h23 h24; exfalso; have := gx_iC_f h10 (by omega); omega
  | succ n130 ih =>
    intro S_130 h10 h11 h12 h13 h14 h15 h16 h17 h18 h19 h20 h21 h22 h23 h24
    rw [gm_p_MD_readRule_130, gm_f_MD_readRule_130]
    try dsimp only
    have key151 : ∀ (S_j151 : gm_S), (gm_iC (S_j151.2.2 20) (S_j151.2.2 21) (S_j151.2.2 22) (S_j151.1 26) (S_j151.1 28) (S_j151.1 29)) → (0 ≤ (S_j151.1 9 (Int32.toNatClampNeg (S.2.2 5))).toInt) → (0 ≤ (S_j151.2.2 19).toInt) → ((S_j151.2.2 19).toInt ≤ (S.2.2 2).toInt) → (0 ≤ (S_j151.2.2 20).toInt) → ((S_j151.2.2 20).toInt ≤ 6) → (0 ≤ (S_j151.2.2 21).toInt) → (0 ≤ (S_j151.2.2 22).toInt) → (((((S_j151.1 9 (Int32.toNatClampNeg (S.2.2 5))).toInt + (S_j151.2.2 21).toInt) + (S_j151.2.2 22).toInt) + (2 * (S_j151.2.2 20).toInt)) ≤ (2 * (S_j151.2.2 19).toInt)) → (((S_j151.2.2 23).toInt = 0) ∨ ((((((S_j151.1 9 (Int32.toNatClampNeg (S.2.2 5))).toInt + (S_j151.2.2 21).toInt) + (S_j151.2.2 22).toInt) + (2 * (S_j151.2.2 20).toInt)) + 1) ≤ (2 * (S_j151.2.2 19).toInt))) → ((((S_j151.2.2 21).toInt + (S_j151.2.2 22).toInt) + (S_j151.2.2 20).toInt) ≤ (S_j151.2.2 19).toInt) → ((S_j151.1 6 (Int32.toNatClampNeg (S.2.2 5))).toInt = (S.1 6 (Int32.toNatClampNeg (S.2.2 5))).toInt) → ((S.2.2 19).toInt < (S_j151.2.2 19).toInt) → ((((S_j151.2.2 24) = 0) → ((vp_in (S.2.2 5) 2) ∧ ((vp_in ((8 * (S.2.2 5)) + (S_j151.1 6 (Int32.toNatClampNeg (S.2.2 5)))) 16) ∧ ((vp_in (S.2.2 5) 2) ∧ ((vp_in (S.2.2 5) 2) ∧ True))))) ∧ ((¬ ((S_j151.2.2 24) = 0)) → True)) ∧ gx_q_MD_readRule S (if (S_j151.2.2 24) = 0 then (0, (va_up (va_up (va_up (va_up (va_up (va_up (va_up (va_up (va_up (va_up (va_up (va_up (va_up (va_up S.1 6 (upd (S_j151.1 6) (Int32.toNatClampNeg (S.2.2 5)) ((S_j151.1 6 (Int32.toNatClampNeg (S.2.2 5))) + 1))) 7 (upd (S_j151.1 7) (Int32.toNatClampNeg ((8 * (S.2.2 5)) + (S_j151.1 6 (Int32.toNatClampNeg (S.2.2 5))))) r1)) 8 (S_j151.1 8)) 9 (S_j151.1 9)) 10 (S_j151.1 10)) 11 (S_j151.1 11)) 12 (S_j151.1 12)) 13 (S_j151.1 13)) 26 (S_j151.1 26)) 27 (S_j151.1 27)) 28 (S_j151.1 28)) 29 (S_j151.1 29)) 30 (S_j151.1 30)) 31 (S_j151.1 31), va_up (va_up S.2.1 17 (S_j151.2.1 17)) 18 (S_j151.2.1 18), va_up (va_up (va_up (va_up (va_up (va_up (va_up S.2.2 19 (S_j151.2.2 19)) 20 (S_j151.2.2 20)) 21 (S_j151.2.2 21)) 22 (S_j151.2.2 22)) 23 (S_j151.2.2 23)) 24 (S_j151.2.2 24)) 25 (S_j151.2.2 25))) else (0, (va_up (va_up (va_up (va_up (va_up (va_up (va_up (va_up (va_up (va_up (va_up (va_up (va_up (va_up S.1 6 (S_j151.1 6)) 7 (S_j151.1 7)) 8 (S_j151.1 8)) 9 (S_j151.1 9)) 10 (S_j151.1 10)) 11 (S_j151.1 11)) 12 (S_j151.1 12)) 13 (S_j151.1 13)) 26 (S_j151.1 26)) 27 (S_j151.1 27)) 28 (S_j151.1 28)) 29 (S_j151.1 29)) 30 (S_j151.1 30)) 31 (S_j151.1 31), va_up (va_up S.2.1 17 (S_j151.2.1 17)) 18 (S_j151.2.1 18), va_up (va_up (va_up (va_up (va_up (va_up (va_up S.2.2 19 (S_j151.2.2 19)) 20 (S_j151.2.2 20)) 21 (S_j151.2.2 21)) 22 (S_j151.2.2 22)) 23 (S_j151.2.2 23)) 24 (S_j151.2.2 24)) 25 (S_j151.2.2 25)))) := by
      intro S_j151 h25 h26 h27 h28 h29 h30 h31 h32 h33 h34 h35 h36 h37
      try dsimp only
      refine gx_if (Q := gx_q_MD_readRule S) (fun h38 => ?_) (fun h38 => ?_)
      · skip
        have h38_ := gx_eqr (k := 0) (by decide) h38
        refine gx_in (Q := gx_q_MD_readRule S) (vp_in_iff.mpr (by have := gx_iC_f h10 (by omega); have := gx_iC_f h25 (by omega); omega)) ?_
        refine gx_in (Q := gx_q_MD_readRule S) (vp_in_iff.mpr (by have := gx_iC_f h10 (by omega); have := gx_iC_f h25 (by omega); have := gx_ad (8 * (S.2.2 5)) (S_j151.1 6 (Int32.toNatClampNeg (S.2.2 5))); have := gx_mk 8 (S.2.2 5) 8 (gx_lit 8 (by decide)); omega)) ?_
        refine gx_in (Q := gx_q_MD_readRule S) (vp_in_iff.mpr (by have := gx_iC_f h10 (by omega); have := gx_iC_f h25 (by omega); omega)) ?_
        refine gx_in (Q := gx_q_MD_readRule S) (vp_in_iff.mpr (by have := gx_iC_f h10 (by omega); have := gx_iC_f h25 (by omega); omega)) ?_
        exact ⟨trivial, (show (0 ≤ (S_j151.1 9 (Int32.toNatClampNeg (S.2.2 5))).toInt) ∧ (((S_j151.1 9 (Int32.toNatClampNeg (S.2.2 5))).toInt ≤ (2 * (S_j151.2.2 19).toInt)) ∧ (((S.2.2 19).toInt ≤ (S_j151.2.2 19).toInt) ∧ (((S_j151.2.2 19).toInt ≤ (S.2.2 2).toInt) ∧ ((0 ≤ (upd (S_j151.1 6) (Int32.toNatClampNeg (S.2.2 5)) ((S_j151.1 6 (Int32.toNatClampNeg (S.2.2 5))) + 1) (Int32.toNatClampNeg (S.2.2 5))).toInt) ∧ (((upd (S_j151.1 6) (Int32.toNatClampNeg (S.2.2 5)) ((S_j151.1 6 (Int32.toNatClampNeg (S.2.2 5))) + 1) (Int32.toNatClampNeg (S.2.2 5))).toInt ≤ 8) ∧ (((S.2.2 19).toInt < (S_j151.2.2 19).toInt) ∨ ((S_j151.2.2 24).toInt ≠ 0))))))) from (by rw [gx_us]; exact (show (0 ≤ (S_j151.1 9 (Int32.toNatClampNeg (S.2.2 5))).toInt) ∧ (((S_j151.1 9 (Int32.toNatClampNeg (S.2.2 5))).toInt ≤ (2 * (S_j151.2.2 19).toInt)) ∧ (((S.2.2 19).toInt ≤ (S_j151.2.2 19).toInt) ∧ (((S_j151.2.2 19).toInt ≤ (S.2.2 2).toInt) ∧ ((0 ≤ ((S_j151.1 6 (Int32.toNatClampNeg (S.2.2 5))) + 1).toInt) ∧ ((((S_j151.1 6 (Int32.toNatClampNeg (S.2.2 5))) + 1).toInt ≤ 8) ∧ (((S.2.2 19).toInt < (S_j151.2.2 19).toInt) ∨ ((S_j151.2.2 24).toInt ≠ 0))))))) from (by have := gx_iC_f h10 (by omega); have := gx_iC_f h25 (by omega); have := gx_ak (S_j151.1 6 (Int32.toNatClampNeg (S.2.2 5))) 1 (1) (by decide); omega))))⟩
      · skip
        have h38_ := gx_eqnr (k := 0) (by decide) h38
        exact ⟨trivial, (show (0 ≤ (S_j151.1 9 (Int32.toNatClampNeg (S.2.2 5))).toInt) ∧ (((S_j151.1 9 (Int32.toNatClampNeg (S.2.2 5))).toInt ≤ (2 * (S_j151.2.2 19).toInt)) ∧ (((S.2.2 19).toInt ≤ (S_j151.2.2 19).toInt) ∧ (((S_j151.2.2 19).toInt ≤ (S.2.2 2).toInt) ∧ ((0 ≤ (S_j151.1 6 (Int32.toNatClampNeg (S.2.2 5))).toInt) ∧ (((S_j151.1 6 (Int32.toNatClampNeg (S.2.2 5))).toInt ≤ 8) ∧ (((S.2.2 19).toInt < (S_j151.2.2 19).toInt) ∨ ((S_j151.2.2 24).toInt ≠ 0))))))) from (by have := gx_iC_f h10 (by omega); have := gx_iC_f h25 (by omega); omega))⟩
    refine gx_if (Q := gx_q_MD_readRule S) (fun h25 => ?_) (fun h25 => ?_)
    · skip
      have h25_ := gx_eqr (k := 0) (by decide) h25
      refine gx_if (Q := gx_q_MD_readRule S) (fun h26 => ?_) (fun h26 => ?_)
      · skip
        have h26_ := gx_eqr (k := 0) (by decide) h26
        refine key151 (va_up (va_up (va_up (va_up (va_up (va_up (va_up (va_up (va_up (va_up (va_up (va_up (va_up (va_up S.1 6 (S_130.1 6)) 7 (S_130.1 7)) 8 (S_130.1 8)) 9 (S_130.1 9)) 10 (S_130.1 10)) 11 (S_130.1 11)) 12 (S_130.1 12)) 13 (S_130.1 13)) 26 (S_130.1 26)) 27 (S_130.1 27)) 28 (S_130.1 28)) 29 (S_130.1 29)) 30 (S_130.1 30)) 31 (S_130.1 31), va_up (va_up S.2.1 17 (S_130.2.1 17)) 18 (S_130.2.1 18), va_up (va_up (va_up (va_up (va_up (va_up (va_up S.2.2 19 (S_130.2.2 19)) 20 (S_130.2.2 20)) 21 (S_130.2.2 21)) 22 (S_130.2.2 22)) 23 (S_130.2.2 23)) 24 (S_130.2.2 24)) 25 (S_130.2.2 25)) ?_ ?_ ?_ ?_ ?_ ?_ ?_ ?_ ?_ ?_ ?_ ?_ ?_
        · exact h10
        · exact h11
        · exact h12
        · exact h13
        · exact h14
        · exact h15
        · exact h16
        · exact h17
        · exact h18
        · exact h19
        · exact h20
        · exact h21
        · exact h22
      · skip
        have h26_ := gx_eqnr (k := 0) (by decide) h26
        refine gx_ca (Q := gx_q_MD_readRule S) (gx_q_MD_readPart _) (gx_s_MD_readPart _ h1 h2 h10 h11 h12 h13 h14 h15 h16 h17 h18 h19 h20 (show 0 ≤ (S_130.1 6 (Int32.toNatClampNeg (S.2.2 5))).toInt from (by have := gx_iC_f h10 (by omega); omega)) (show (S_130.1 6 (Int32.toNatClampNeg (S.2.2 5))).toInt ≤ 7 from (by have := gx_iC_f h10 (by omega); omega))) ?_
        intro r_h27 u145 h27
        have h27_0 : gm_iC (u145.2.2 20) (u145.2.2 21) (u145.2.2 22) (u145.1 26) (u145.1 28) (u145.1 29) := h27.1
        have h27_1 : (0 ≤ (u145.1 9 (Int32.toNatClampNeg (S.2.2 5))).toInt) ∧ ((0 ≤ (u145.2.2 19).toInt) ∧ (((u145.2.2 19).toInt ≤ (S.2.2 2).toInt) ∧ ((0 ≤ (u145.2.2 20).toInt) ∧ (((u145.2.2 20).toInt ≤ 6) ∧ ((0 ≤ (u145.2.2 21).toInt) ∧ ((0 ≤ (u145.2.2 22).toInt) ∧ ((((((u145.1 9 (Int32.toNatClampNeg (S.2.2 5))).toInt + (u145.2.2 21).toInt) + (u145.2.2 22).toInt) + (2 * (u145.2.2 20).toInt)) ≤ (2 * (u145.2.2 19).toInt)) ∧ ((((u145.2.2 23).toInt = 0) ∨ ((((((u145.1 9 (Int32.toNatClampNeg (S.2.2 5))).toInt + (u145.2.2 21).toInt) + (u145.2.2 22).toInt) + (2 * (u145.2.2 20).toInt)) + 1) ≤ (2 * (u145.2.2 19).toInt))) ∧ (((((u145.2.2 21).toInt + (u145.2.2 22).toInt) + (u145.2.2 20).toInt) ≤ (u145.2.2 19).toInt) ∧ (((S_130.2.2 19).toInt ≤ (u145.2.2 19).toInt) ∧ (((S_130.2.2 19).toInt < (u145.2.2 19).toInt) ∨ ((u145.2.2 24).toInt ≠ 0)))))))))))) := h27.2
        clear h27
        refine ih _ ?_ ?_ ?_ ?_ ?_ ?_ ?_ ?_ ?_ ?_ ?_ ?_ ?_ ?_ ?_
        · exact h27_0
        · exact (show 0 ≤ (u145.1 9 (Int32.toNatClampNeg (S.2.2 5))).toInt from (by have := gx_iC_f h10 (by omega); have := gx_iC_f h27_0 (by omega); omega))
        · exact (show 0 ≤ (u145.2.2 19).toInt from (by have := gx_iC_f h10 (by omega); have := gx_iC_f h27_0 (by omega); omega))
        · exact (show (u145.2.2 19).toInt ≤ (S.2.2 2).toInt from (by have := gx_iC_f h10 (by omega); have := gx_iC_f h27_0 (by omega); omega))
        · exact (show 0 ≤ (u145.2.2 20).toInt from (by have := gx_iC_f h10 (by omega); have := gx_iC_f h27_0 (by omega); omega))
        · exact (show (u145.2.2 20).toInt ≤ 6 from (by have := gx_iC_f h10 (by omega); have := gx_iC_f h27_0 (by omega); omega))
        · exact (show 0 ≤ (u145.2.2 21).toInt from (by have := gx_iC_f h10 (by omega); have := gx_iC_f h27_0 (by omega); omega))
        · exact (show 0 ≤ (u145.2.2 22).toInt from (by have := gx_iC_f h10 (by omega); have := gx_iC_f h27_0 (by omega); omega))
        · exact (show ((((u145.1 9 (Int32.toNatClampNeg (S.2.2 5))).toInt + (u145.2.2 21).toInt) + (u145.2.2 22).toInt) + (2 * (u145.2.2 20).toInt)) ≤ (2 * (u145.2.2 19).toInt) from (by have := gx_iC_f h10 (by omega); have := gx_iC_f h27_0 (by omega); omega))
        · exact (show ((u145.2.2 23).toInt = 0) ∨ ((((((u145.1 9 (Int32.toNatClampNeg (S.2.2 5))).toInt + (u145.2.2 21).toInt) + (u145.2.2 22).toInt) + (2 * (u145.2.2 20).toInt)) + 1) ≤ (2 * (u145.2.2 19).toInt)) from (by have := gx_iC_f h10 (by omega); have := gx_iC_f h27_0 (by omega); omega))
        · exact (show (((u145.2.2 21).toInt + (u145.2.2 22).toInt) + (u145.2.2 20).toInt) ≤ (u145.2.2 19).toInt from (by have := gx_iC_f h10 (by omega); have := gx_iC_f h27_0 (by omega); omega))
        · exact h21
        · exact (show (S.2.2 19).toInt < (u145.2.2 19).toInt from (by have := gx_iC_f h10 (by omega); have := gx_iC_f h27_0 (by omega); omega))
        · exact (show 0 < n130 from (by have := gx_iC_f h10 (by omega); have := gx_iC_f h27_0 (by omega); omega))
        · exact (show ((u145.2.2 24).toInt ≠ 0) ∨ ((((S.2.2 2).toInt - (u145.2.2 19).toInt) + 1) < n130) from (by have := gx_iC_f h10 (by omega); have := gx_iC_f h27_0 (by omega); omega))
    · skip
      have h25_ := gx_eqnr (k := 0) (by decide) h25
      refine key151 (va_up (va_up (va_up (va_up (va_up (va_up (va_up (va_up (va_up (va_up (va_up (va_up (va_up (va_up S.1 6 (S_130.1 6)) 7 (S_130.1 7)) 8 (S_130.1 8)) 9 (S_130.1 9)) 10 (S_130.1 10)) 11 (S_130.1 11)) 12 (S_130.1 12)) 13 (S_130.1 13)) 26 (S_130.1 26)) 27 (S_130.1 27)) 28 (S_130.1 28)) 29 (S_130.1 29)) 30 (S_130.1 30)) 31 (S_130.1 31), va_up (va_up S.2.1 17 (S_130.2.1 17)) 18 (S_130.2.1 18), va_up (va_up (va_up (va_up (va_up (va_up (va_up S.2.2 19 (S_130.2.2 19)) 20 (S_130.2.2 20)) 21 (S_130.2.2 21)) 22 (S_130.2.2 22)) 23 (S_130.2.2 23)) 24 (S_130.2.2 24)) 25 (S_130.2.2 25)) ?_ ?_ ?_ ?_ ?_ ?_ ?_ ?_ ?_ ?_ ?_ ?_ ?_
      · exact h10
      · exact h11
      · exact h12
      · exact h13
      · exact h14
      · exact h15
      · exact h16
      · exact h17
      · exact h18
      · exact h19
      · exact h20
      · exact h21
      · exact h22
set_option maxRecDepth 100000 in
theorem gx_s_MD_readRule (S : gm_S) (h1 : gm_iW 50 (S.2.2 2) (S.1 3)) (h2 : gm_iN 1 (S.2.2 5)) (h3 : 0 ≤ (S.1 9 (Int32.toNatClampNeg (S.2.2 5))).toInt) (h4 : (S.1 9 (Int32.toNatClampNeg (S.2.2 5))).toInt ≤ (2 * (S.2.2 19).toInt)) (h5 : 0 ≤ (S.2.2 19).toInt) (h6 : (S.2.2 19).toInt ≤ (S.2.2 2).toInt) (h7 : 0 ≤ (S.1 6 (Int32.toNatClampNeg (S.2.2 5))).toInt) (h8 : (S.1 6 (Int32.toNatClampNeg (S.2.2 5))).toInt ≤ 8) : gm_p_MD_readRule S ∧ gx_q_MD_readRule S (gm_f_MD_readRule S) := by
  unfold gm_p_MD_readRule gm_f_MD_readRule
  refine gx_ca (Q := gx_q_MD_readRule S) (gx_q_MD_peek _) (gx_s_MD_peek _ h1 h2 h5) ?_
  intro r1 u1 h9
  have h9_0 : (((r1.toInt = 0) ∧ ((S.2.2 2).toInt ≤ (S.2.2 19).toInt)) ∨ ((32 ≤ r1.toInt) ∧ ((r1.toInt ≤ 126) ∧ ((S.2.2 19).toInt < (S.2.2 2).toInt)))) ∧ (r1 = (gm_f_MD_peek S).1) := h9
  refine gx_if (Q := gx_q_MD_readRule S) (fun h10 => ?_) (fun h10 => ?_)
  · skip
    have h10_ := gx_ltr (k := 65) (gx_lit 65 (by decide)) h10
    refine gx_s_MD_readRule_j44 _ _ _ _ ?_ ?_ ?_ ?_ ?_ ?_ ?_ ?_ ?_ ?_ ?_
    · exact h1
    · exact h2
    · exact (show 0 ≤ (S.1 9 (Int32.toNatClampNeg (S.2.2 5))).toInt from (by omega))
    · exact (show (S.1 9 (Int32.toNatClampNeg (S.2.2 5))).toInt ≤ (2 * (S.2.2 19).toInt) from (by omega))
    · exact (show 0 ≤ (S.2.2 19).toInt from (by omega))
    · exact (show (S.2.2 19).toInt ≤ (S.2.2 2).toInt from (by omega))
    · exact (show 0 ≤ (S.1 6 (Int32.toNatClampNeg (S.2.2 5))).toInt from (by omega))
    · exact (show (S.1 6 (Int32.toNatClampNeg (S.2.2 5))).toInt ≤ 8 from (by omega))
    · exact (show (S.1 9 (Int32.toNatClampNeg (S.2.2 5))).toInt = (S.1 9 (Int32.toNatClampNeg (S.2.2 5))).toInt from (by omega))
    · exact (show (S.1 6 (Int32.toNatClampNeg (S.2.2 5))).toInt = (S.1 6 (Int32.toNatClampNeg (S.2.2 5))).toInt from (by omega))
    · exact (show (S.2.2 19).toInt = (S.2.2 19).toInt from (by omega))
  · skip
    have h10_ := gx_ltnr (k := 65) (gx_lit 65 (by decide)) h10
    refine gx_if (Q := gx_q_MD_readRule S) (fun h11 => ?_) (fun h11 => ?_)
    · skip
      have h11_ := gx_ltl (k := 90) (gx_lit 90 (by decide)) h11
      refine gx_s_MD_readRule_j44 _ _ _ _ ?_ ?_ ?_ ?_ ?_ ?_ ?_ ?_ ?_ ?_ ?_
      · exact h1
      · exact h2
      · exact (show 0 ≤ (S.1 9 (Int32.toNatClampNeg (S.2.2 5))).toInt from (by omega))
      · exact (show (S.1 9 (Int32.toNatClampNeg (S.2.2 5))).toInt ≤ (2 * (S.2.2 19).toInt) from (by omega))
      · exact (show 0 ≤ (S.2.2 19).toInt from (by omega))
      · exact (show (S.2.2 19).toInt ≤ (S.2.2 2).toInt from (by omega))
      · exact (show 0 ≤ (S.1 6 (Int32.toNatClampNeg (S.2.2 5))).toInt from (by omega))
      · exact (show (S.1 6 (Int32.toNatClampNeg (S.2.2 5))).toInt ≤ 8 from (by omega))
      · exact (show (S.1 9 (Int32.toNatClampNeg (S.2.2 5))).toInt = (S.1 9 (Int32.toNatClampNeg (S.2.2 5))).toInt from (by omega))
      · exact (show (S.1 6 (Int32.toNatClampNeg (S.2.2 5))).toInt = (S.1 6 (Int32.toNatClampNeg (S.2.2 5))).toInt from (by omega))
      · exact (show (S.2.2 19).toInt = (S.2.2 19).toInt from (by omega))
    · skip
      have h11_ := gx_ltnl (k := 90) (gx_lit 90 (by decide)) h11
      refine gx_in (Q := gx_q_MD_readRule S) (vp_in_iff.mpr (by omega)) ?_
      refine gx_if (Q := gx_q_MD_readRule S) (fun h12 => ?_) (fun h12 => ?_)
      · skip
        have h12_ := gx_eqr (k := 8) (gx_lit 8 (by decide)) h12
        refine gx_s_MD_readRule_j44 _ _ _ _ ?_ ?_ ?_ ?_ ?_ ?_ ?_ ?_ ?_ ?_ ?_
        · exact h1
        · exact h2
        · exact (show 0 ≤ (S.1 9 (Int32.toNatClampNeg (S.2.2 5))).toInt from (by omega))
        · exact (show (S.1 9 (Int32.toNatClampNeg (S.2.2 5))).toInt ≤ (2 * (S.2.2 19).toInt) from (by omega))
        · exact (show 0 ≤ (S.2.2 19).toInt from (by omega))
        · exact (show (S.2.2 19).toInt ≤ (S.2.2 2).toInt from (by omega))
        · exact (show 0 ≤ (S.1 6 (Int32.toNatClampNeg (S.2.2 5))).toInt from (by omega))
        · exact (show (S.1 6 (Int32.toNatClampNeg (S.2.2 5))).toInt ≤ 8 from (by omega))
        · exact (show (S.1 9 (Int32.toNatClampNeg (S.2.2 5))).toInt = (S.1 9 (Int32.toNatClampNeg (S.2.2 5))).toInt from (by omega))
        · exact (show (S.1 6 (Int32.toNatClampNeg (S.2.2 5))).toInt = (S.1 6 (Int32.toNatClampNeg (S.2.2 5))).toInt from (by omega))
        · exact (show (S.2.2 19).toInt = (S.2.2 19).toInt from (by omega))
      · skip
        have h12_ := gx_eqnr (k := 8) (gx_lit 8 (by decide)) h12
        refine gx_ca (Q := gx_q_MD_readRule S) (gx_q_MD_ruleOf _ _ _) (gx_s_MD_ruleOf _ _ _ h1 h2 (show 0 ≤ (S.2.2 5).toInt from (by omega)) (show (S.2.2 5).toInt ≤ 1 from (by omega)) h8) ?_
        intro r37 u37 h13
        have h13_0 : ((-1) ≤ r37.toInt) ∧ (r37.toInt ≤ 7) := h13
        clear h13
        refine gx_if (Q := gx_q_MD_readRule S) (fun h14 => ?_) (fun h14 => ?_)
        · skip
          have h14_ := gx_eqr (k := -1) (by decide) h14
          refine gx_ca (Q := gx_q_MD_readRule S) (gx_q_MD_peek _) (gx_s_MD_peek _ h1 h2 (show 0 ≤ ((S.2.2 19) + 1).toInt from (by have := gx_ak (S.2.2 19) 1 (1) (by decide); omega))) ?_
          intro r60 u60 h15
          have h15_0 : (((r60.toInt = 0) ∧ ((S.2.2 2).toInt ≤ ((S.2.2 19) + 1).toInt)) ∨ ((32 ≤ r60.toInt) ∧ ((r60.toInt ≤ 126) ∧ (((S.2.2 19) + 1).toInt < (S.2.2 2).toInt)))) ∧ (r60 = (gm_f_MD_peek (S.1, S.2.1, va_up S.2.2 19 ((S.2.2 19) + 1))).1) := h15
          refine gx_if (Q := gx_q_MD_readRule S) (fun h16 => ?_) (fun h16 => ?_)
          · skip
            have h16_ := gx_eqr (k := 61) (gx_lit 61 (by decide)) h16
            refine gx_in (Q := gx_q_MD_readRule S) (vp_in_iff.mpr (by have := gx_ak (S.2.2 19) 1 (1) (by decide); have : (0 : Int32).toInt = 0 := (by decide); omega)) ?_
            refine gx_in (Q := gx_q_MD_readRule S) (vp_in_iff.mpr (by have := gx_ak (S.2.2 19) 1 (1) (by decide); have : (0 : Int32).toInt = 0 := (by decide); omega)) ?_
            refine gx_in (Q := gx_q_MD_readRule S) (vp_in_iff.mpr (by have := gx_ak (S.2.2 19) 1 (1) (by decide); have : (0 : Int32).toInt = 0 := (by decide); omega)) ?_
            refine gx_s_MD_readRule_130 _ _ _ _ _ _ _ ?_ ?_ ?_ ?_ ?_ ?_ ?_ ?_ ?_ _ _ ?_ ?_ ?_ ?_ ?_ ?_ ?_ ?_ ?_ ?_ ?_ ?_ ?_ ?_ ?_
            · exact h1
            · exact h2
            · exact (show 0 ≤ (S.1 9 (Int32.toNatClampNeg (S.2.2 5))).toInt from (by have := gx_ak (S.2.2 19) 1 (1) (by decide); omega))
            · exact (show (S.1 9 (Int32.toNatClampNeg (S.2.2 5))).toInt ≤ (2 * (S.2.2 19).toInt) from (by have := gx_ak (S.2.2 19) 1 (1) (by decide); omega))
            · exact (show 0 ≤ (S.2.2 19).toInt from (by have := gx_ak (S.2.2 19) 1 (1) (by decide); omega))
            · exact (show (S.2.2 19).toInt ≤ (S.2.2 2).toInt from (by have := gx_ak (S.2.2 19) 1 (1) (by decide); omega))
            · exact (show 0 ≤ (S.1 6 (Int32.toNatClampNeg (S.2.2 5))).toInt from (by have := gx_ak (S.2.2 19) 1 (1) (by decide); omega))
            · exact (show (S.1 6 (Int32.toNatClampNeg (S.2.2 5))).toInt ≤ 8 from (by have := gx_ak (S.2.2 19) 1 (1) (by decide); omega))
            · exact (show (S.1 6 (Int32.toNatClampNeg (S.2.2 5))).toInt ≤ 7 from (by have := gx_ak (S.2.2 19) 1 (1) (by decide); omega))
            · exact (gx_iC_0 _ _ _)
            · exact h3
            · exact (show 0 ≤ (((S.2.2 19) + 1) + 1).toInt from (by have := gx_ak ((S.2.2 19) + 1) 1 (1) (by decide); have := gx_ak (S.2.2 19) 1 (1) (by decide); omega))
            · exact (show (((S.2.2 19) + 1) + 1).toInt ≤ (S.2.2 2).toInt from (by have := gx_ak ((S.2.2 19) + 1) 1 (1) (by decide); have := gx_ak (S.2.2 19) 1 (1) (by decide); omega))
            · exact (show 0 ≤ (0 : Int32).toInt from (by have := gx_ak (S.2.2 19) 1 (1) (by decide); have : (0 : Int32).toInt = 0 := (by decide); omega))
            · exact (show (0 : Int32).toInt ≤ 6 from (by have := gx_ak (S.2.2 19) 1 (1) (by decide); have : (0 : Int32).toInt = 0 := (by decide); omega))
            · exact (show 0 ≤ (0 : Int32).toInt from (by have := gx_ak (S.2.2 19) 1 (1) (by decide); have : (0 : Int32).toInt = 0 := (by decide); omega))
            · exact (show 0 ≤ (0 : Int32).toInt from (by have := gx_ak (S.2.2 19) 1 (1) (by decide); have : (0 : Int32).toInt = 0 := (by decide); omega))
            · exact (show ((((S.1 9 (Int32.toNatClampNeg (S.2.2 5))).toInt + (0 : Int32).toInt) + (0 : Int32).toInt) + (2 * (0 : Int32).toInt)) ≤ (2 * (((S.2.2 19) + 1) + 1).toInt) from (by have := gx_ak ((S.2.2 19) + 1) 1 (1) (by decide); have := gx_ak (S.2.2 19) 1 (1) (by decide); have : (0 : Int32).toInt = 0 := (by decide); omega))
            · exact (show ((0 : Int32).toInt = 0) ∨ ((((((S.1 9 (Int32.toNatClampNeg (S.2.2 5))).toInt + (0 : Int32).toInt) + (0 : Int32).toInt) + (2 * (0 : Int32).toInt)) + 1) ≤ (2 * (((S.2.2 19) + 1) + 1).toInt)) from (by have := gx_ak ((S.2.2 19) + 1) 1 (1) (by decide); have := gx_ak (S.2.2 19) 1 (1) (by decide); have : (0 : Int32).toInt = 0 := (by decide); omega))
            · exact (show (((0 : Int32).toInt + (0 : Int32).toInt) + (0 : Int32).toInt) ≤ (((S.2.2 19) + 1) + 1).toInt from (by have := gx_ak ((S.2.2 19) + 1) 1 (1) (by decide); have := gx_ak (S.2.2 19) 1 (1) (by decide); have : (0 : Int32).toInt = 0 := (by decide); omega))
            · exact (show (S.1 6 (Int32.toNatClampNeg (S.2.2 5))).toInt = (S.1 6 (Int32.toNatClampNeg (S.2.2 5))).toInt from (by have := gx_ak (S.2.2 19) 1 (1) (by decide); omega))
            · exact (show (S.2.2 19).toInt < (((S.2.2 19) + 1) + 1).toInt from (by have := gx_ak ((S.2.2 19) + 1) 1 (1) (by decide); have := gx_ak (S.2.2 19) 1 (1) (by decide); omega))
            · exact (show 0 < 200 from (by have := gx_ak (S.2.2 19) 1 (1) (by decide); omega))
            · exact (show ((S.2.2 24).toInt ≠ 0) ∨ ((((S.2.2 2).toInt - (((S.2.2 19) + 1) + 1).toInt) + 1) < 200) from (by have := gx_ak ((S.2.2 19) + 1) 1 (1) (by decide); have := gx_ak (S.2.2 19) 1 (1) (by decide); omega))
          · skip
            have h16_ := gx_eqnr (k := 61) (gx_lit 61 (by decide)) h16
            refine gx_ca (Q := gx_q_MD_readRule S) (gx_q_MD_refuse _) (gx_s_MD_refuse _ h1 h2) ?_
            intro r_h17 u69 h17
            have h17_0 : (u69.2.2 24).toInt = 1 := h17
            clear h17
            exact ⟨trivial, (show (0 ≤ (S.1 9 (Int32.toNatClampNeg (S.2.2 5))).toInt) ∧ (((S.1 9 (Int32.toNatClampNeg (S.2.2 5))).toInt ≤ (2 * ((S.2.2 19) + 1).toInt)) ∧ (((S.2.2 19).toInt ≤ ((S.2.2 19) + 1).toInt) ∧ ((((S.2.2 19) + 1).toInt ≤ (S.2.2 2).toInt) ∧ ((0 ≤ (S.1 6 (Int32.toNatClampNeg (S.2.2 5))).toInt) ∧ (((S.1 6 (Int32.toNatClampNeg (S.2.2 5))).toInt ≤ 8) ∧ (((S.2.2 19).toInt < ((S.2.2 19) + 1).toInt) ∨ ((u69.2.2 24).toInt ≠ 0))))))) from (by have := gx_ak (S.2.2 19) 1 (1) (by decide); omega))⟩
        · skip
          have h14_ := gx_eqnr (k := -1) (by decide) h14
          refine gx_s_MD_readRule_j44 _ _ _ _ ?_ ?_ ?_ ?_ ?_ ?_ ?_ ?_ ?_ ?_ ?_
          · exact h1
          · exact h2
          · exact (show 0 ≤ (S.1 9 (Int32.toNatClampNeg (S.2.2 5))).toInt from (by omega))
          · exact (show (S.1 9 (Int32.toNatClampNeg (S.2.2 5))).toInt ≤ (2 * (S.2.2 19).toInt) from (by omega))
          · exact (show 0 ≤ (S.2.2 19).toInt from (by omega))
          · exact (show (S.2.2 19).toInt ≤ (S.2.2 2).toInt from (by omega))
          · exact (show 0 ≤ (S.1 6 (Int32.toNatClampNeg (S.2.2 5))).toInt from (by omega))
          · exact (show (S.1 6 (Int32.toNatClampNeg (S.2.2 5))).toInt ≤ 8 from (by omega))
          · exact (show (S.1 9 (Int32.toNatClampNeg (S.2.2 5))).toInt = (S.1 9 (Int32.toNatClampNeg (S.2.2 5))).toInt from (by omega))
          · exact (show (S.1 6 (Int32.toNatClampNeg (S.2.2 5))).toInt = (S.1 6 (Int32.toNatClampNeg (S.2.2 5))).toInt from (by omega))
          · exact (show (S.2.2 19).toInt = (S.2.2 19).toInt from (by omega))
