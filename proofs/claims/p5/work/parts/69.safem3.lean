theorem gx_tx {n : Nat} {z : Int32} {a : Nat → Int32} (h : gm_iW n z a) {x : Int32} (h0 : 0 ≤ x.toInt) (h1 : x.toInt < z.toInt) : 32 ≤ (a (Int32.toNatClampNeg x)).toInt ∧ (a (Int32.toNatClampNeg x)).toInt ≤ 126 := by
  have c := gx_cl x h0
  exact h.2 _ (by omega)
abbrev gx_q_MD_readRow (S : gm_S) (z : Int32 × (gm_S)) : Prop := ((0 ≤ (z.2.1 9 (Int32.toNatClampNeg (S.2.2 5))).toInt) ∧ ((0 ≤ (z.2.2.2 19).toInt) ∧ (((z.2.2.2 19).toInt ≤ (S.2.2 2).toInt) ∧ ((0 ≤ (S.2.2 20).toInt) ∧ (((S.2.2 20).toInt ≤ 6) ∧ ((0 ≤ (z.2.2.2 21).toInt) ∧ ((0 ≤ (S.2.2 22).toInt) ∧ ((((((z.2.1 9 (Int32.toNatClampNeg (S.2.2 5))).toInt + (z.2.2.2 21).toInt) + (S.2.2 22).toInt) + (2 * (S.2.2 20).toInt)) ≤ (2 * (z.2.2.2 19).toInt)) ∧ ((((z.2.2.2 23).toInt = 0) ∨ ((((((z.2.1 9 (Int32.toNatClampNeg (S.2.2 5))).toInt + (z.2.2.2 21).toInt) + (S.2.2 22).toInt) + (2 * (S.2.2 20).toInt)) + 1) ≤ (2 * (z.2.2.2 19).toInt))) ∧ (((((z.2.2.2 21).toInt + (S.2.2 22).toInt) + (S.2.2 20).toInt) ≤ (z.2.2.2 19).toInt) ∧ (((S.2.2 21).toInt ≤ (z.2.2.2 21).toInt) ∧ (((S.2.2 19).toInt < (z.2.2.2 19).toInt)))))))))))))
set_option maxRecDepth 100000 in
theorem gx_s_MD_readRow_17 (S : gm_S) (h1 : gm_iW 50 (S.2.2 2) (S.1 3)) (h2 : gm_iN 1 (S.2.2 5)) (h3 : 0 ≤ (S.1 9 (Int32.toNatClampNeg (S.2.2 5))).toInt) (h4 : 0 ≤ (S.2.2 19).toInt) (h5 : (S.2.2 19).toInt ≤ (S.2.2 2).toInt) (h6 : 0 ≤ (S.2.2 20).toInt) (h7 : (S.2.2 20).toInt ≤ 6) (h8 : 0 ≤ (S.2.2 21).toInt) (h9 : 0 ≤ (S.2.2 22).toInt) (h10 : ((((S.1 9 (Int32.toNatClampNeg (S.2.2 5))).toInt + (S.2.2 21).toInt) + (S.2.2 22).toInt) + (2 * (S.2.2 20).toInt)) ≤ (2 * (S.2.2 19).toInt)) (h11 : ((S.2.2 23).toInt = 0) ∨ ((((((S.1 9 (Int32.toNatClampNeg (S.2.2 5))).toInt + (S.2.2 21).toInt) + (S.2.2 22).toInt) + (2 * (S.2.2 20).toInt)) + 1) ≤ (2 * (S.2.2 19).toInt))) (h12 : (((S.2.2 21).toInt + (S.2.2 22).toInt) + (S.2.2 20).toInt) ≤ (S.2.2 19).toInt) (h13 : (S.2.2 19).toInt < (S.2.2 2).toInt) : ∀ (n17 : Nat) (S_17 : gm_S), (((S.2.2 19).toInt + 1) ≤ (S_17.2.2 19).toInt) → ((S_17.2.2 19).toInt ≤ (S.2.2 2).toInt) → ((S_17.1 9 (Int32.toNatClampNeg (S.2.2 5))).toInt = (S.1 9 (Int32.toNatClampNeg (S.2.2 5))).toInt) → ((S_17.2.2 21).toInt = (S.2.2 21).toInt) → ((S_17.2.2 23).toInt = (S.2.2 23).toInt) → ((((S.2.2 2).toInt - (S_17.2.2 19).toInt) + 1) < n17) → gm_p_MD_readRow_17 S n17 S_17 ∧ gx_q_MD_readRow S (gm_f_MD_readRow_17 S n17 S_17) := by
  intro n17
  induction n17 with
  | zero =>
    intro S_17 h14 h15 h16 h17 h18 h19; exfalso; skip; omega
  | succ n17 ih =>
    intro S_17 h14 h15 h16 h17 h18 h19
    rw [gm_p_MD_readRow_17, gm_f_MD_readRow_17]
    try dsimp only
    have key46 : ∀ (S_j46 : gm_S), (((S.2.2 19).toInt + 1) ≤ (S_j46.2.2 19).toInt) → ((S_j46.2.2 19).toInt ≤ (S.2.2 2).toInt) → ((S_j46.1 9 (Int32.toNatClampNeg (S.2.2 5))).toInt = (S.1 9 (Int32.toNatClampNeg (S.2.2 5))).toInt) → ((S_j46.2.2 21).toInt = (S.2.2 21).toInt) → ((S_j46.2.2 23).toInt = (S.2.2 23).toInt) → ((gm_p_MD_peek (va_up (va_up (va_up (va_up (va_up (va_up S.1 9 (S_j46.1 9)) 10 (S_j46.1 10)) 11 (S_j46.1 11)) 12 (S_j46.1 12)) 13 (S_j46.1 13)) 30 (S_j46.1 30), va_up (va_up S.2.1 17 (S_j46.2.1 17)) 18 (S_j46.2.1 18), va_up (va_up (va_up (va_up S.2.2 19 (S_j46.2.2 19)) 21 (S_j46.2.2 21)) 23 (S_j46.2.2 23)) 24 (S_j46.2.2 24))) ∧ (gm_bd (gm_f_MD_peek (va_up (va_up (va_up (va_up (va_up (va_up S.1 9 (S_j46.1 9)) 10 (S_j46.1 10)) 11 (S_j46.1 11)) 12 (S_j46.1 12)) 13 (S_j46.1 13)) 30 (S_j46.1 30), va_up (va_up S.2.1 17 (S_j46.2.1 17)) 18 (S_j46.2.1 18), va_up (va_up (va_up (va_up S.2.2 19 (S_j46.2.2 19)) 21 (S_j46.2.2 21)) 23 (S_j46.2.2 23)) 24 (S_j46.2.2 24))) (fun r47 u47 => ((r47 = 0) → ((gm_p_MD_refuse (va_up (va_up (va_up (va_up (va_up (va_up S.1 9 (S_j46.1 9)) 10 (S_j46.1 10)) 11 (S_j46.1 11)) 12 (S_j46.1 12)) 13 (S_j46.1 13)) 30 (S_j46.1 30), va_up (va_up S.2.1 17 (S_j46.2.1 17)) 18 (S_j46.2.1 18), va_up (va_up (va_up (va_up S.2.2 19 (S_j46.2.2 19)) 21 (S_j46.2.2 21)) 23 (S_j46.2.2 23)) 24 (S_j46.2.2 24))) ∧ (gm_bd (gm_f_MD_refuse (va_up (va_up (va_up (va_up (va_up (va_up S.1 9 (S_j46.1 9)) 10 (S_j46.1 10)) 11 (S_j46.1 11)) 12 (S_j46.1 12)) 13 (S_j46.1 13)) 30 (S_j46.1 30), va_up (va_up S.2.1 17 (S_j46.2.1 17)) 18 (S_j46.2.1 18), va_up (va_up (va_up (va_up S.2.2 19 (S_j46.2.2 19)) 21 (S_j46.2.2 21)) 23 (S_j46.2.2 23)) 24 (S_j46.2.2 24))) (fun _ u62 => True)))) ∧ ((¬ (r47 = 0)) → ((((S_j46.2.2 19) = ((S.2.2 19) + 1)) → ((gm_p_MD_refuse (va_up (va_up (va_up (va_up (va_up (va_up S.1 9 (S_j46.1 9)) 10 (S_j46.1 10)) 11 (S_j46.1 11)) 12 (S_j46.1 12)) 13 (S_j46.1 13)) 30 (S_j46.1 30), va_up (va_up S.2.1 17 (S_j46.2.1 17)) 18 (S_j46.2.1 18), va_up (va_up (va_up (va_up S.2.2 19 (S_j46.2.2 19)) 21 (S_j46.2.2 21)) 23 (S_j46.2.2 23)) 24 (S_j46.2.2 24))) ∧ (gm_bd (gm_f_MD_refuse (va_up (va_up (va_up (va_up (va_up (va_up S.1 9 (S_j46.1 9)) 10 (S_j46.1 10)) 11 (S_j46.1 11)) 12 (S_j46.1 12)) 13 (S_j46.1 13)) 30 (S_j46.1 30), va_up (va_up S.2.1 17 (S_j46.2.1 17)) 18 (S_j46.2.1 18), va_up (va_up (va_up (va_up S.2.2 19 (S_j46.2.2 19)) 21 (S_j46.2.2 21)) 23 (S_j46.2.2 23)) 24 (S_j46.2.2 24))) (fun _ u62 => True)))) ∧ ((¬ ((S_j46.2.2 19) = ((S.2.2 19) + 1))) → ((gm_p_MD_create 1 ((S.2.2 19) + 1) ((S_j46.2.2 19) - ((S.2.2 19) + 1)) (va_up (va_up (va_up (va_up (va_up (va_up S.1 9 (S_j46.1 9)) 10 (S_j46.1 10)) 11 (S_j46.1 11)) 12 (S_j46.1 12)) 13 (S_j46.1 13)) 30 (S_j46.1 30), va_up (va_up S.2.1 17 (S_j46.2.1 17)) 18 (S_j46.2.1 18), va_up (va_up (va_up (va_up S.2.2 19 (S_j46.2.2 19)) 21 (S_j46.2.2 21)) 23 (S_j46.2.2 23)) 24 (S_j46.2.2 24))) ∧ (gm_bd (gm_f_MD_create 1 ((S.2.2 19) + 1) ((S_j46.2.2 19) - ((S.2.2 19) + 1)) (va_up (va_up (va_up (va_up (va_up (va_up S.1 9 (S_j46.1 9)) 10 (S_j46.1 10)) 11 (S_j46.1 11)) 12 (S_j46.1 12)) 13 (S_j46.1 13)) 30 (S_j46.1 30), va_up (va_up S.2.1 17 (S_j46.2.1 17)) 18 (S_j46.2.1 18), va_up (va_up (va_up (va_up S.2.2 19 (S_j46.2.2 19)) 21 (S_j46.2.2 21)) 23 (S_j46.2.2 23)) 24 (S_j46.2.2 24))) (fun r75 u75 => (gm_p_MD_primary r75 (va_up (va_up (va_up (va_up (va_up (va_up S.1 9 (u75.1 9)) 10 (u75.1 10)) 11 (u75.1 11)) 12 (u75.1 12)) 13 (u75.1 13)) 30 (S_j46.1 30), va_up (va_up S.2.1 17 (u75.2.1 17)) 18 (u75.2.1 18), va_up (va_up (va_up (va_up S.2.2 19 ((S_j46.2.2 19) + 1)) 21 (S_j46.2.2 21)) 23 (S_j46.2.2 23)) 24 (S_j46.2.2 24))) ∧ (gm_bd (gm_f_MD_primary r75 (va_up (va_up (va_up (va_up (va_up (va_up S.1 9 (u75.1 9)) 10 (u75.1 10)) 11 (u75.1 11)) 12 (u75.1 12)) 13 (u75.1 13)) 30 (S_j46.1 30), va_up (va_up S.2.1 17 (u75.2.1 17)) 18 (u75.2.1 18), va_up (va_up (va_up (va_up S.2.2 19 ((S_j46.2.2 19) + 1)) 21 (S_j46.2.2 21)) 23 (S_j46.2.2 23)) 24 (S_j46.2.2 24))) (fun _ u91 => True))))))))))) ∧ gx_q_MD_readRow S (gm_bd (gm_f_MD_peek (va_up (va_up (va_up (va_up (va_up (va_up S.1 9 (S_j46.1 9)) 10 (S_j46.1 10)) 11 (S_j46.1 11)) 12 (S_j46.1 12)) 13 (S_j46.1 13)) 30 (S_j46.1 30), va_up (va_up S.2.1 17 (S_j46.2.1 17)) 18 (S_j46.2.1 18), va_up (va_up (va_up (va_up S.2.2 19 (S_j46.2.2 19)) 21 (S_j46.2.2 21)) 23 (S_j46.2.2 23)) 24 (S_j46.2.2 24))) (fun r47 u47 => if r47 = 0 then gm_bd (gm_f_MD_refuse (va_up (va_up (va_up (va_up (va_up (va_up S.1 9 (S_j46.1 9)) 10 (S_j46.1 10)) 11 (S_j46.1 11)) 12 (S_j46.1 12)) 13 (S_j46.1 13)) 30 (S_j46.1 30), va_up (va_up S.2.1 17 (S_j46.2.1 17)) 18 (S_j46.2.1 18), va_up (va_up (va_up (va_up S.2.2 19 (S_j46.2.2 19)) 21 (S_j46.2.2 21)) 23 (S_j46.2.2 23)) 24 (S_j46.2.2 24))) (fun _ u62 => (0, (va_up (va_up (va_up (va_up (va_up (va_up S.1 9 (S_j46.1 9)) 10 (S_j46.1 10)) 11 (S_j46.1 11)) 12 (S_j46.1 12)) 13 (S_j46.1 13)) 30 (S_j46.1 30), va_up (va_up S.2.1 17 (S_j46.2.1 17)) 18 (S_j46.2.1 18), va_up (va_up (va_up (va_up S.2.2 19 (S_j46.2.2 19)) 21 (S_j46.2.2 21)) 23 (S_j46.2.2 23)) 24 (u62.2.2 24)))) else if (S_j46.2.2 19) = ((S.2.2 19) + 1) then gm_bd (gm_f_MD_refuse (va_up (va_up (va_up (va_up (va_up (va_up S.1 9 (S_j46.1 9)) 10 (S_j46.1 10)) 11 (S_j46.1 11)) 12 (S_j46.1 12)) 13 (S_j46.1 13)) 30 (S_j46.1 30), va_up (va_up S.2.1 17 (S_j46.2.1 17)) 18 (S_j46.2.1 18), va_up (va_up (va_up (va_up S.2.2 19 (S_j46.2.2 19)) 21 (S_j46.2.2 21)) 23 (S_j46.2.2 23)) 24 (S_j46.2.2 24))) (fun _ u62 => (0, (va_up (va_up (va_up (va_up (va_up (va_up S.1 9 (S_j46.1 9)) 10 (S_j46.1 10)) 11 (S_j46.1 11)) 12 (S_j46.1 12)) 13 (S_j46.1 13)) 30 (S_j46.1 30), va_up (va_up S.2.1 17 (S_j46.2.1 17)) 18 (S_j46.2.1 18), va_up (va_up (va_up (va_up S.2.2 19 (S_j46.2.2 19)) 21 (S_j46.2.2 21)) 23 (S_j46.2.2 23)) 24 (u62.2.2 24)))) else gm_bd (gm_f_MD_create 1 ((S.2.2 19) + 1) ((S_j46.2.2 19) - ((S.2.2 19) + 1)) (va_up (va_up (va_up (va_up (va_up (va_up S.1 9 (S_j46.1 9)) 10 (S_j46.1 10)) 11 (S_j46.1 11)) 12 (S_j46.1 12)) 13 (S_j46.1 13)) 30 (S_j46.1 30), va_up (va_up S.2.1 17 (S_j46.2.1 17)) 18 (S_j46.2.1 18), va_up (va_up (va_up (va_up S.2.2 19 (S_j46.2.2 19)) 21 (S_j46.2.2 21)) 23 (S_j46.2.2 23)) 24 (S_j46.2.2 24))) (fun r75 u75 => gm_bd (gm_f_MD_primary r75 (va_up (va_up (va_up (va_up (va_up (va_up S.1 9 (u75.1 9)) 10 (u75.1 10)) 11 (u75.1 11)) 12 (u75.1 12)) 13 (u75.1 13)) 30 (S_j46.1 30), va_up (va_up S.2.1 17 (u75.2.1 17)) 18 (u75.2.1 18), va_up (va_up (va_up (va_up S.2.2 19 ((S_j46.2.2 19) + 1)) 21 (S_j46.2.2 21)) 23 (S_j46.2.2 23)) 24 (S_j46.2.2 24))) (fun _ u91 => (0, (va_up (va_up (va_up (va_up (va_up (va_up S.1 9 (u91.1 9)) 10 (u91.1 10)) 11 (u91.1 11)) 12 (u91.1 12)) 13 (u91.1 13)) 30 (u91.1 30), va_up (va_up S.2.1 17 (u91.2.1 17)) 18 (u91.2.1 18), va_up (va_up (va_up (va_up S.2.2 19 (u91.2.2 19)) 21 (u91.2.2 21)) 23 (u91.2.2 23)) 24 (S_j46.2.2 24))))))) := by
      intro S_j46 h20 h21 h22 h23 h24
      try dsimp only
      refine gx_ca (Q := gx_q_MD_readRow S) (gx_q_MD_peek _) (gx_s_MD_peek _ h1 h2 (show 0 ≤ (S_j46.2.2 19).toInt from (by omega))) ?_
      intro r47 u47 h25
      have h25_0 : (((r47.toInt = 0) ∧ ((S.2.2 2).toInt ≤ (S_j46.2.2 19).toInt)) ∨ ((32 ≤ r47.toInt) ∧ ((r47.toInt ≤ 126) ∧ ((S_j46.2.2 19).toInt < (S.2.2 2).toInt)))) ∧ (r47 = (gm_f_MD_peek (va_up (va_up (va_up (va_up (va_up (va_up S.1 9 (S_j46.1 9)) 10 (S_j46.1 10)) 11 (S_j46.1 11)) 12 (S_j46.1 12)) 13 (S_j46.1 13)) 30 (S_j46.1 30), va_up (va_up S.2.1 17 (S_j46.2.1 17)) 18 (S_j46.2.1 18), va_up (va_up (va_up (va_up S.2.2 19 (S_j46.2.2 19)) 21 (S_j46.2.2 21)) 23 (S_j46.2.2 23)) 24 (S_j46.2.2 24))).1) := h25
      refine gx_if (Q := gx_q_MD_readRow S) (fun h26 => ?_) (fun h26 => ?_)
      · skip
        have h26_ := gx_eqr (k := 0) (by decide) h26
        refine gx_ca (Q := gx_q_MD_readRow S) (gx_q_MD_refuse _) (gx_s_MD_refuse _ h1 h2) ?_
        intro r_h27 u62 h27
        have h27_0 : (u62.2.2 24).toInt = 1 := h27
        clear h27
        exact ⟨trivial, (show (0 ≤ (S_j46.1 9 (Int32.toNatClampNeg (S.2.2 5))).toInt) ∧ ((0 ≤ (S_j46.2.2 19).toInt) ∧ (((S_j46.2.2 19).toInt ≤ (S.2.2 2).toInt) ∧ ((0 ≤ (S.2.2 20).toInt) ∧ (((S.2.2 20).toInt ≤ 6) ∧ ((0 ≤ (S_j46.2.2 21).toInt) ∧ ((0 ≤ (S.2.2 22).toInt) ∧ ((((((S_j46.1 9 (Int32.toNatClampNeg (S.2.2 5))).toInt + (S_j46.2.2 21).toInt) + (S.2.2 22).toInt) + (2 * (S.2.2 20).toInt)) ≤ (2 * (S_j46.2.2 19).toInt)) ∧ ((((S_j46.2.2 23).toInt = 0) ∨ ((((((S_j46.1 9 (Int32.toNatClampNeg (S.2.2 5))).toInt + (S_j46.2.2 21).toInt) + (S.2.2 22).toInt) + (2 * (S.2.2 20).toInt)) + 1) ≤ (2 * (S_j46.2.2 19).toInt))) ∧ (((((S_j46.2.2 21).toInt + (S.2.2 22).toInt) + (S.2.2 20).toInt) ≤ (S_j46.2.2 19).toInt) ∧ (((S.2.2 21).toInt ≤ (S_j46.2.2 21).toInt) ∧ ((S.2.2 19).toInt < (S_j46.2.2 19).toInt))))))))))) from (by omega))⟩
      · skip
        have h26_ := gx_eqnr (k := 0) (by decide) h26
        refine gx_if (Q := gx_q_MD_readRow S) (fun h27 => ?_) (fun h27 => ?_)
        · skip
          have h27_ := gx_eq h27
          refine gx_ca (Q := gx_q_MD_readRow S) (gx_q_MD_refuse _) (gx_s_MD_refuse _ h1 h2) ?_
          intro r_h28 u62 h28
          have h28_0 : (u62.2.2 24).toInt = 1 := h28
          clear h28
          exact ⟨trivial, (show (0 ≤ (S_j46.1 9 (Int32.toNatClampNeg (S.2.2 5))).toInt) ∧ ((0 ≤ (S_j46.2.2 19).toInt) ∧ (((S_j46.2.2 19).toInt ≤ (S.2.2 2).toInt) ∧ ((0 ≤ (S.2.2 20).toInt) ∧ (((S.2.2 20).toInt ≤ 6) ∧ ((0 ≤ (S_j46.2.2 21).toInt) ∧ ((0 ≤ (S.2.2 22).toInt) ∧ ((((((S_j46.1 9 (Int32.toNatClampNeg (S.2.2 5))).toInt + (S_j46.2.2 21).toInt) + (S.2.2 22).toInt) + (2 * (S.2.2 20).toInt)) ≤ (2 * (S_j46.2.2 19).toInt)) ∧ ((((S_j46.2.2 23).toInt = 0) ∨ ((((((S_j46.1 9 (Int32.toNatClampNeg (S.2.2 5))).toInt + (S_j46.2.2 21).toInt) + (S.2.2 22).toInt) + (2 * (S.2.2 20).toInt)) + 1) ≤ (2 * (S_j46.2.2 19).toInt))) ∧ (((((S_j46.2.2 21).toInt + (S.2.2 22).toInt) + (S.2.2 20).toInt) ≤ (S_j46.2.2 19).toInt) ∧ (((S.2.2 21).toInt ≤ (S_j46.2.2 21).toInt) ∧ ((S.2.2 19).toInt < (S_j46.2.2 19).toInt))))))))))) from (by have := gx_ak (S.2.2 19) 1 (1) (by decide); omega))⟩
        · skip
          have h27_ := gx_eqn h27
          refine gx_ca (Q := gx_q_MD_readRow S) (gx_q_MD_create _ _ _ _) (gx_s_MD_create _ _ _ _ h1 h2 (show 0 ≤ (S_j46.1 9 (Int32.toNatClampNeg (S.2.2 5))).toInt from (by have := gx_ak (S.2.2 19) 1 (1) (by decide); omega)) (show (S_j46.1 9 (Int32.toNatClampNeg (S.2.2 5))).toInt ≤ 150 from (by have := gx_ak (S.2.2 19) 1 (1) (by decide); omega))) ?_
          intro r75 u75 h28
          have h28_0 : ((u75.1 9 (Int32.toNatClampNeg (S.2.2 5))).toInt = ((S_j46.1 9 (Int32.toNatClampNeg (S.2.2 5))).toInt + 1)) ∧ (r75.toInt = ((160 * (S.2.2 5).toInt) + (S_j46.1 9 (Int32.toNatClampNeg (S.2.2 5))).toInt)) := h28
          clear h28
          refine gx_ca (Q := gx_q_MD_readRow S) (gx_q_MD_primary _ _) (gx_s_MD_primary _ _ h1 h2 (show 0 ≤ (u75.1 9 (Int32.toNatClampNeg (S.2.2 5))).toInt from (by have := gx_ak (S.2.2 19) 1 (1) (by decide); omega)) (show (u75.1 9 (Int32.toNatClampNeg (S.2.2 5))).toInt ≤ 145 from (by have := gx_ak (S.2.2 19) 1 (1) (by decide); omega)) (show 0 ≤ ((S_j46.2.2 19) + 1).toInt from (by have := gx_ak (S_j46.2.2 19) 1 (1) (by decide); have := gx_ak (S.2.2 19) 1 (1) (by decide); omega)) (show ((S_j46.2.2 19) + 1).toInt ≤ (S.2.2 2).toInt from (by have := gx_ak (S_j46.2.2 19) 1 (1) (by decide); have := gx_ak (S.2.2 19) 1 (1) (by decide); omega)) (show 0 ≤ (S_j46.2.2 21).toInt from (by have := gx_ak (S.2.2 19) 1 (1) (by decide); omega)) (show (S_j46.2.2 21).toInt ≤ 58 from (by have := gx_ak (S.2.2 19) 1 (1) (by decide); omega))) ?_
          intro r_h29 u91 h29
          have h29_0 : ((u91.2.2 21).toInt = ((S_j46.2.2 21).toInt + 1)) ∧ (((u91.2.2 23).toInt = 0) ∧ ((((S_j46.2.2 19) + 1).toInt ≤ (u91.2.2 19).toInt) ∧ (((u91.2.2 19).toInt ≤ (((S_j46.2.2 19) + 1).toInt + 1)) ∧ (((u91.2.2 19).toInt ≤ (S.2.2 2).toInt) ∧ (((u75.1 9 (Int32.toNatClampNeg (S.2.2 5))).toInt ≤ (u91.1 9 (Int32.toNatClampNeg (S.2.2 5))).toInt) ∧ (((u91.1 9 (Int32.toNatClampNeg (S.2.2 5))).toInt ≤ ((u75.1 9 (Int32.toNatClampNeg (S.2.2 5))).toInt + (2 * ((u91.2.2 19).toInt - ((S_j46.2.2 19) + 1).toInt)))) ∨ (((S_j46.2.2 23).toInt ≠ 0) ∧ ((u91.1 9 (Int32.toNatClampNeg (S.2.2 5))).toInt ≤ (((u75.1 9 (Int32.toNatClampNeg (S.2.2 5))).toInt + (2 * ((u91.2.2 19).toInt - ((S_j46.2.2 19) + 1).toInt))) + 1))))))))) := h29
          clear h29
          exact ⟨trivial, (show (0 ≤ (u91.1 9 (Int32.toNatClampNeg (S.2.2 5))).toInt) ∧ ((0 ≤ (u91.2.2 19).toInt) ∧ (((u91.2.2 19).toInt ≤ (S.2.2 2).toInt) ∧ ((0 ≤ (S.2.2 20).toInt) ∧ (((S.2.2 20).toInt ≤ 6) ∧ ((0 ≤ (u91.2.2 21).toInt) ∧ ((0 ≤ (S.2.2 22).toInt) ∧ ((((((u91.1 9 (Int32.toNatClampNeg (S.2.2 5))).toInt + (u91.2.2 21).toInt) + (S.2.2 22).toInt) + (2 * (S.2.2 20).toInt)) ≤ (2 * (u91.2.2 19).toInt)) ∧ ((((u91.2.2 23).toInt = 0) ∨ ((((((u91.1 9 (Int32.toNatClampNeg (S.2.2 5))).toInt + (u91.2.2 21).toInt) + (S.2.2 22).toInt) + (2 * (S.2.2 20).toInt)) + 1) ≤ (2 * (u91.2.2 19).toInt))) ∧ (((((u91.2.2 21).toInt + (S.2.2 22).toInt) + (S.2.2 20).toInt) ≤ (u91.2.2 19).toInt) ∧ (((S.2.2 21).toInt ≤ (u91.2.2 21).toInt) ∧ ((S.2.2 19).toInt < (u91.2.2 19).toInt))))))))))) from (by have := gx_ak (S.2.2 19) 1 (1) (by decide); have := gx_ak (S_j46.2.2 19) 1 (1) (by decide); omega))⟩
    refine gx_ca (Q := gx_q_MD_readRow S) (gx_q_MD_peek _) (gx_s_MD_peek _ h1 h2 (show 0 ≤ (S_17.2.2 19).toInt from (by omega))) ?_
    intro r18 u18 h20
    have h20_0 : (((r18.toInt = 0) ∧ ((S.2.2 2).toInt ≤ (S_17.2.2 19).toInt)) ∨ ((32 ≤ r18.toInt) ∧ ((r18.toInt ≤ 126) ∧ ((S_17.2.2 19).toInt < (S.2.2 2).toInt)))) ∧ (r18 = (gm_f_MD_peek (va_up (va_up (va_up (va_up (va_up (va_up S.1 9 (S_17.1 9)) 10 (S_17.1 10)) 11 (S_17.1 11)) 12 (S_17.1 12)) 13 (S_17.1 13)) 30 (S_17.1 30), va_up (va_up S.2.1 17 (S_17.2.1 17)) 18 (S_17.2.1 18), va_up (va_up (va_up (va_up S.2.2 19 (S_17.2.2 19)) 21 (S_17.2.2 21)) 23 (S_17.2.2 23)) 24 (S_17.2.2 24))).1) := h20
    refine gx_if (Q := gx_q_MD_readRow S) (fun h21 => ?_) (fun h21 => ?_)
    · skip
      have h21_ := gx_eqr (k := 39) (gx_lit 39 (by decide)) h21
      refine key46 (va_up (va_up (va_up (va_up (va_up (va_up S.1 9 (S_17.1 9)) 10 (S_17.1 10)) 11 (S_17.1 11)) 12 (S_17.1 12)) 13 (S_17.1 13)) 30 (S_17.1 30), va_up (va_up S.2.1 17 (S_17.2.1 17)) 18 (S_17.2.1 18), va_up (va_up (va_up (va_up S.2.2 19 (S_17.2.2 19)) 21 (S_17.2.2 21)) 23 (S_17.2.2 23)) 24 (S_17.2.2 24)) ?_ ?_ ?_ ?_ ?_
      · exact h14
      · exact h15
      · exact h16
      · exact h17
      · exact h18
    · skip
      have h21_ := gx_eqnr (k := 39) (gx_lit 39 (by decide)) h21
      refine gx_ca (Q := gx_q_MD_readRow S) (gx_q_MD_peek _) (gx_s_MD_peek _ h1 h2 (show 0 ≤ (S_17.2.2 19).toInt from (by omega))) ?_
      intro r27 u27 h22
      have h22_0 : (((r27.toInt = 0) ∧ ((S.2.2 2).toInt ≤ (S_17.2.2 19).toInt)) ∨ ((32 ≤ r27.toInt) ∧ ((r27.toInt ≤ 126) ∧ ((S_17.2.2 19).toInt < (S.2.2 2).toInt)))) ∧ (r27 = (gm_f_MD_peek (va_up (va_up (va_up (va_up (va_up (va_up S.1 9 (S_17.1 9)) 10 (S_17.1 10)) 11 (S_17.1 11)) 12 (S_17.1 12)) 13 (S_17.1 13)) 30 (S_17.1 30), va_up (va_up S.2.1 17 (S_17.2.1 17)) 18 (S_17.2.1 18), va_up (va_up (va_up (va_up S.2.2 19 (S_17.2.2 19)) 21 (S_17.2.2 21)) 23 (S_17.2.2 23)) 24 (S_17.2.2 24))).1) := h22
      have h22_f := gx_eq ((show r27 = _ from h22.2).trans (show r18 = _ from h20.2).symm)
      refine gx_if (Q := gx_q_MD_readRow S) (fun h23 => ?_) (fun h23 => ?_)
      · skip
        have h23_ := gx_eqr (k := 0) (by decide) h23
        refine key46 (va_up (va_up (va_up (va_up (va_up (va_up S.1 9 (S_17.1 9)) 10 (S_17.1 10)) 11 (S_17.1 11)) 12 (S_17.1 12)) 13 (S_17.1 13)) 30 (S_17.1 30), va_up (va_up S.2.1 17 (S_17.2.1 17)) 18 (S_17.2.1 18), va_up (va_up (va_up (va_up S.2.2 19 (S_17.2.2 19)) 21 (S_17.2.2 21)) 23 (S_17.2.2 23)) 24 (S_17.2.2 24)) ?_ ?_ ?_ ?_ ?_
        · exact h14
        · exact h15
        · exact h16
        · exact h17
        · exact h18
      · skip
        have h23_ := gx_eqnr (k := 0) (by decide) h23
        refine ih _ ?_ ?_ ?_ ?_ ?_ ?_
        · exact (show ((S.2.2 19).toInt + 1) ≤ ((S_17.2.2 19) + 1).toInt from (by have := gx_ak (S_17.2.2 19) 1 (1) (by decide); omega))
        · exact (show ((S_17.2.2 19) + 1).toInt ≤ (S.2.2 2).toInt from (by have := gx_ak (S_17.2.2 19) 1 (1) (by decide); omega))
        · exact h16
        · exact h17
        · exact h18
        · exact (show (((S.2.2 2).toInt - ((S_17.2.2 19) + 1).toInt) + 1) < n17 from (by have := gx_ak (S_17.2.2 19) 1 (1) (by decide); omega))
set_option maxRecDepth 100000 in
theorem gx_s_MD_readRow (S : gm_S) (h1 : gm_iW 50 (S.2.2 2) (S.1 3)) (h2 : gm_iN 1 (S.2.2 5)) (h3 : 0 ≤ (S.1 9 (Int32.toNatClampNeg (S.2.2 5))).toInt) (h4 : 0 ≤ (S.2.2 19).toInt) (h5 : (S.2.2 19).toInt ≤ (S.2.2 2).toInt) (h6 : 0 ≤ (S.2.2 20).toInt) (h7 : (S.2.2 20).toInt ≤ 6) (h8 : 0 ≤ (S.2.2 21).toInt) (h9 : 0 ≤ (S.2.2 22).toInt) (h10 : ((((S.1 9 (Int32.toNatClampNeg (S.2.2 5))).toInt + (S.2.2 21).toInt) + (S.2.2 22).toInt) + (2 * (S.2.2 20).toInt)) ≤ (2 * (S.2.2 19).toInt)) (h11 : ((S.2.2 23).toInt = 0) ∨ ((((((S.1 9 (Int32.toNatClampNeg (S.2.2 5))).toInt + (S.2.2 21).toInt) + (S.2.2 22).toInt) + (2 * (S.2.2 20).toInt)) + 1) ≤ (2 * (S.2.2 19).toInt))) (h12 : (((S.2.2 21).toInt + (S.2.2 22).toInt) + (S.2.2 20).toInt) ≤ (S.2.2 19).toInt) (h13 : (S.2.2 19).toInt < (S.2.2 2).toInt) : gm_p_MD_readRow S ∧ gx_q_MD_readRow S (gm_f_MD_readRow S) := by
  unfold gm_p_MD_readRow gm_f_MD_readRow
  refine gx_s_MD_readRow_17 _ ?_ ?_ ?_ ?_ ?_ ?_ ?_ ?_ ?_ ?_ ?_ ?_ ?_ _ _ ?_ ?_ ?_ ?_ ?_ ?_
  · exact h1
  · exact h2
  · exact (show 0 ≤ (S.1 9 (Int32.toNatClampNeg (S.2.2 5))).toInt from (by omega))
  · exact (show 0 ≤ (S.2.2 19).toInt from (by omega))
  · exact (show (S.2.2 19).toInt ≤ (S.2.2 2).toInt from (by omega))
  · exact (show 0 ≤ (S.2.2 20).toInt from (by omega))
  · exact (show (S.2.2 20).toInt ≤ 6 from (by omega))
  · exact (show 0 ≤ (S.2.2 21).toInt from (by omega))
  · exact (show 0 ≤ (S.2.2 22).toInt from (by omega))
  · exact (show ((((S.1 9 (Int32.toNatClampNeg (S.2.2 5))).toInt + (S.2.2 21).toInt) + (S.2.2 22).toInt) + (2 * (S.2.2 20).toInt)) ≤ (2 * (S.2.2 19).toInt) from (by omega))
  · exact (show ((S.2.2 23).toInt = 0) ∨ ((((((S.1 9 (Int32.toNatClampNeg (S.2.2 5))).toInt + (S.2.2 21).toInt) + (S.2.2 22).toInt) + (2 * (S.2.2 20).toInt)) + 1) ≤ (2 * (S.2.2 19).toInt)) from (by omega))
  · exact (show (((S.2.2 21).toInt + (S.2.2 22).toInt) + (S.2.2 20).toInt) ≤ (S.2.2 19).toInt from (by omega))
  · exact (show (S.2.2 19).toInt < (S.2.2 2).toInt from (by omega))
  · exact (show ((S.2.2 19).toInt + 1) ≤ ((S.2.2 19) + 1).toInt from (by have := gx_ak (S.2.2 19) 1 (1) (by decide); omega))
  · exact (show ((S.2.2 19) + 1).toInt ≤ (S.2.2 2).toInt from (by have := gx_ak (S.2.2 19) 1 (1) (by decide); omega))
  · exact (show (S.1 9 (Int32.toNatClampNeg (S.2.2 5))).toInt = (S.1 9 (Int32.toNatClampNeg (S.2.2 5))).toInt from (by omega))
  · exact (show (S.2.2 21).toInt = (S.2.2 21).toInt from (by omega))
  · exact (show (S.2.2 23).toInt = (S.2.2 23).toInt from (by omega))
  · exact (show (((S.2.2 2).toInt - ((S.2.2 19) + 1).toInt) + 1) < 200 from (by have := gx_ak (S.2.2 19) 1 (1) (by decide); omega))
abbrev gx_q_MD_readClass (S : gm_S) (z : Int32 × (gm_S)) : Prop := ((0 ≤ (z.2.1 9 (Int32.toNatClampNeg (S.2.2 5))).toInt) ∧ ((0 ≤ (z.2.2.2 19).toInt) ∧ (((z.2.2.2 19).toInt ≤ (S.2.2 2).toInt) ∧ ((0 ≤ (S.2.2 20).toInt) ∧ (((S.2.2 20).toInt ≤ 6) ∧ ((0 ≤ (z.2.2.2 21).toInt) ∧ ((0 ≤ (S.2.2 22).toInt) ∧ ((((((z.2.1 9 (Int32.toNatClampNeg (S.2.2 5))).toInt + (z.2.2.2 21).toInt) + (S.2.2 22).toInt) + (2 * (S.2.2 20).toInt)) ≤ (2 * (z.2.2.2 19).toInt)) ∧ ((((z.2.2.2 23).toInt = 0) ∨ ((((((z.2.1 9 (Int32.toNatClampNeg (S.2.2 5))).toInt + (z.2.2.2 21).toInt) + (S.2.2 22).toInt) + (2 * (S.2.2 20).toInt)) + 1) ≤ (2 * (z.2.2.2 19).toInt))) ∧ (((((z.2.2.2 21).toInt + (S.2.2 22).toInt) + (S.2.2 20).toInt) ≤ (z.2.2.2 19).toInt) ∧ (((S.2.2 21).toInt ≤ (z.2.2.2 21).toInt) ∧ (((S.2.2 19).toInt < (z.2.2.2 19).toInt)))))))))))))
set_option maxRecDepth 100000 in
theorem gx_s_MD_readClass_20 (S : gm_S) (r4 : Int32) (u4 : gm_S) (h1 : gm_iW 50 (S.2.2 2) (S.1 3)) (h2 : gm_iN 1 (S.2.2 5)) (h3 : 0 ≤ (S.1 9 (Int32.toNatClampNeg (S.2.2 5))).toInt) (h4 : 0 ≤ (S.2.2 19).toInt) (h5 : (S.2.2 19).toInt ≤ (S.2.2 2).toInt) (h6 : 0 ≤ (S.2.2 20).toInt) (h7 : (S.2.2 20).toInt ≤ 6) (h8 : 0 ≤ (S.2.2 21).toInt) (h9 : 0 ≤ (S.2.2 22).toInt) (h10 : ((((S.1 9 (Int32.toNatClampNeg (S.2.2 5))).toInt + (S.2.2 21).toInt) + (S.2.2 22).toInt) + (2 * (S.2.2 20).toInt)) ≤ (2 * (S.2.2 19).toInt)) (h11 : ((S.2.2 23).toInt = 0) ∨ ((((((S.1 9 (Int32.toNatClampNeg (S.2.2 5))).toInt + (S.2.2 21).toInt) + (S.2.2 22).toInt) + (2 * (S.2.2 20).toInt)) + 1) ≤ (2 * (S.2.2 19).toInt))) (h12 : (((S.2.2 21).toInt + (S.2.2 22).toInt) + (S.2.2 20).toInt) ≤ (S.2.2 19).toInt) (h13 : (S.2.2 19).toInt < (S.2.2 2).toInt) (h14 : 0 ≤ r4.toInt) (h15 : r4.toInt ≤ 319) : ∀ (n20 : Nat) (v2_20 : Int32) (S_20 : gm_S), (((S.2.2 19).toInt + 1) ≤ (S_20.2.2 19).toInt) → ((S_20.2.2 19).toInt ≤ (S.2.2 2).toInt) → ((S_20.1 9 (Int32.toNatClampNeg (S.2.2 5))).toInt = ((S.1 9 (Int32.toNatClampNeg (S.2.2 5))).toInt + 1)) → ((S_20.2.2 21).toInt = (S.2.2 21).toInt) → ((S_20.2.2 23).toInt = (S.2.2 23).toInt) → ((((S.2.2 2).toInt - (S_20.2.2 19).toInt) + 1) < n20) → gm_p_MD_readClass_20 S r4 u4 n20 v2_20 S_20 ∧ gx_q_MD_readClass S (gm_f_MD_readClass_20 S r4 u4 n20 v2_20 S_20) := by
  intro n20
  induction n20 with
  | zero =>
    intro v2_20 S_20 h16 h17 h18 h19 h20 h21; exfalso; skip; omega
  | succ n20 ih =>
    intro v2_20 S_20 h16 h17 h18 h19 h20 h21
    rw [gm_p_MD_readClass_20, gm_f_MD_readClass_20]
    try dsimp only
    have key143 : ∀ (v2_j143 : Int32) (S_j143 : gm_S), (((S.2.2 19).toInt + 1) ≤ (S_j143.2.2 19).toInt) → ((S_j143.2.2 19).toInt ≤ (S.2.2 2).toInt) → ((S_j143.1 9 (Int32.toNatClampNeg (S.2.2 5))).toInt = ((S.1 9 (Int32.toNatClampNeg (S.2.2 5))).toInt + 1)) → ((S_j143.2.2 21).toInt = (S.2.2 21).toInt) → ((S_j143.2.2 23).toInt = (S.2.2 23).toInt) → (((v2_j143 = 0) → ((gm_p_MD_refuse (va_up (va_up (va_up (va_up (va_up (va_up S.1 9 (S_j143.1 9)) 10 (S_j143.1 10)) 11 (S_j143.1 11)) 12 (S_j143.1 12)) 13 (S_j143.1 13)) 30 (S_j143.1 30), va_up (va_up S.2.1 17 (S_j143.2.1 17)) 18 (S_j143.2.1 18), va_up (va_up (va_up (va_up S.2.2 19 (S_j143.2.2 19)) 21 (S_j143.2.2 21)) 23 (S_j143.2.2 23)) 24 (S_j143.2.2 24))) ∧ (gm_bd (gm_f_MD_refuse (va_up (va_up (va_up (va_up (va_up (va_up S.1 9 (S_j143.1 9)) 10 (S_j143.1 10)) 11 (S_j143.1 11)) 12 (S_j143.1 12)) 13 (S_j143.1 13)) 30 (S_j143.1 30), va_up (va_up S.2.1 17 (S_j143.2.1 17)) 18 (S_j143.2.1 18), va_up (va_up (va_up (va_up S.2.2 19 (S_j143.2.2 19)) 21 (S_j143.2.2 21)) 23 (S_j143.2.2 23)) 24 (S_j143.2.2 24))) (fun _ u155 => True)))) ∧ ((¬ (v2_j143 = 0)) → ((gm_p_MD_peek (va_up (va_up (va_up (va_up (va_up (va_up S.1 9 (S_j143.1 9)) 10 (S_j143.1 10)) 11 (S_j143.1 11)) 12 (S_j143.1 12)) 13 (S_j143.1 13)) 30 (S_j143.1 30), va_up (va_up S.2.1 17 (S_j143.2.1 17)) 18 (S_j143.2.1 18), va_up (va_up (va_up (va_up S.2.2 19 (S_j143.2.2 19)) 21 (S_j143.2.2 21)) 23 (S_j143.2.2 23)) 24 (S_j143.2.2 24))) ∧ (gm_bd (gm_f_MD_peek (va_up (va_up (va_up (va_up (va_up (va_up S.1 9 (S_j143.1 9)) 10 (S_j143.1 10)) 11 (S_j143.1 11)) 12 (S_j143.1 12)) 13 (S_j143.1 13)) 30 (S_j143.1 30), va_up (va_up S.2.1 17 (S_j143.2.1 17)) 18 (S_j143.2.1 18), va_up (va_up (va_up (va_up S.2.2 19 (S_j143.2.2 19)) 21 (S_j143.2.2 21)) 23 (S_j143.2.2 23)) 24 (S_j143.2.2 24))) (fun r148 u148 => ((r148 = 0) → ((gm_p_MD_refuse (va_up (va_up (va_up (va_up (va_up (va_up S.1 9 (S_j143.1 9)) 10 (S_j143.1 10)) 11 (S_j143.1 11)) 12 (S_j143.1 12)) 13 (S_j143.1 13)) 30 (S_j143.1 30), va_up (va_up S.2.1 17 (S_j143.2.1 17)) 18 (S_j143.2.1 18), va_up (va_up (va_up (va_up S.2.2 19 (S_j143.2.2 19)) 21 (S_j143.2.2 21)) 23 (S_j143.2.2 23)) 24 (S_j143.2.2 24))) ∧ (gm_bd (gm_f_MD_refuse (va_up (va_up (va_up (va_up (va_up (va_up S.1 9 (S_j143.1 9)) 10 (S_j143.1 10)) 11 (S_j143.1 11)) 12 (S_j143.1 12)) 13 (S_j143.1 13)) 30 (S_j143.1 30), va_up (va_up S.2.1 17 (S_j143.2.1 17)) 18 (S_j143.2.1 18), va_up (va_up (va_up (va_up S.2.2 19 (S_j143.2.2 19)) 21 (S_j143.2.2 21)) 23 (S_j143.2.2 23)) 24 (S_j143.2.2 24))) (fun _ u155 => True)))) ∧ ((¬ (r148 = 0)) → ((gm_p_MD_primary r4 (va_up (va_up (va_up (va_up (va_up (va_up S.1 9 (S_j143.1 9)) 10 (S_j143.1 10)) 11 (S_j143.1 11)) 12 (S_j143.1 12)) 13 (S_j143.1 13)) 30 (S_j143.1 30), va_up (va_up S.2.1 17 (S_j143.2.1 17)) 18 (S_j143.2.1 18), va_up (va_up (va_up (va_up S.2.2 19 ((S_j143.2.2 19) + 1)) 21 (S_j143.2.2 21)) 23 (S_j143.2.2 23)) 24 (S_j143.2.2 24))) ∧ (gm_bd (gm_f_MD_primary r4 (va_up (va_up (va_up (va_up (va_up (va_up S.1 9 (S_j143.1 9)) 10 (S_j143.1 10)) 11 (S_j143.1 11)) 12 (S_j143.1 12)) 13 (S_j143.1 13)) 30 (S_j143.1 30), va_up (va_up S.2.1 17 (S_j143.2.1 17)) 18 (S_j143.2.1 18), va_up (va_up (va_up (va_up S.2.2 19 ((S_j143.2.2 19) + 1)) 21 (S_j143.2.2 21)) 23 (S_j143.2.2 23)) 24 (S_j143.2.2 24))) (fun _ u171 => True))))))))) ∧ gx_q_MD_readClass S (if v2_j143 = 0 then gm_bd (gm_f_MD_refuse (va_up (va_up (va_up (va_up (va_up (va_up S.1 9 (S_j143.1 9)) 10 (S_j143.1 10)) 11 (S_j143.1 11)) 12 (S_j143.1 12)) 13 (S_j143.1 13)) 30 (S_j143.1 30), va_up (va_up S.2.1 17 (S_j143.2.1 17)) 18 (S_j143.2.1 18), va_up (va_up (va_up (va_up S.2.2 19 (S_j143.2.2 19)) 21 (S_j143.2.2 21)) 23 (S_j143.2.2 23)) 24 (S_j143.2.2 24))) (fun _ u155 => (0, (va_up (va_up (va_up (va_up (va_up (va_up S.1 9 (S_j143.1 9)) 10 (S_j143.1 10)) 11 (S_j143.1 11)) 12 (S_j143.1 12)) 13 (S_j143.1 13)) 30 (S_j143.1 30), va_up (va_up S.2.1 17 (S_j143.2.1 17)) 18 (S_j143.2.1 18), va_up (va_up (va_up (va_up S.2.2 19 (S_j143.2.2 19)) 21 (S_j143.2.2 21)) 23 (S_j143.2.2 23)) 24 (u155.2.2 24)))) else gm_bd (gm_f_MD_peek (va_up (va_up (va_up (va_up (va_up (va_up S.1 9 (S_j143.1 9)) 10 (S_j143.1 10)) 11 (S_j143.1 11)) 12 (S_j143.1 12)) 13 (S_j143.1 13)) 30 (S_j143.1 30), va_up (va_up S.2.1 17 (S_j143.2.1 17)) 18 (S_j143.2.1 18), va_up (va_up (va_up (va_up S.2.2 19 (S_j143.2.2 19)) 21 (S_j143.2.2 21)) 23 (S_j143.2.2 23)) 24 (S_j143.2.2 24))) (fun r148 u148 => if r148 = 0 then gm_bd (gm_f_MD_refuse (va_up (va_up (va_up (va_up (va_up (va_up S.1 9 (S_j143.1 9)) 10 (S_j143.1 10)) 11 (S_j143.1 11)) 12 (S_j143.1 12)) 13 (S_j143.1 13)) 30 (S_j143.1 30), va_up (va_up S.2.1 17 (S_j143.2.1 17)) 18 (S_j143.2.1 18), va_up (va_up (va_up (va_up S.2.2 19 (S_j143.2.2 19)) 21 (S_j143.2.2 21)) 23 (S_j143.2.2 23)) 24 (S_j143.2.2 24))) (fun _ u155 => (0, (va_up (va_up (va_up (va_up (va_up (va_up S.1 9 (S_j143.1 9)) 10 (S_j143.1 10)) 11 (S_j143.1 11)) 12 (S_j143.1 12)) 13 (S_j143.1 13)) 30 (S_j143.1 30), va_up (va_up S.2.1 17 (S_j143.2.1 17)) 18 (S_j143.2.1 18), va_up (va_up (va_up (va_up S.2.2 19 (S_j143.2.2 19)) 21 (S_j143.2.2 21)) 23 (S_j143.2.2 23)) 24 (u155.2.2 24)))) else gm_bd (gm_f_MD_primary r4 (va_up (va_up (va_up (va_up (va_up (va_up S.1 9 (S_j143.1 9)) 10 (S_j143.1 10)) 11 (S_j143.1 11)) 12 (S_j143.1 12)) 13 (S_j143.1 13)) 30 (S_j143.1 30), va_up (va_up S.2.1 17 (S_j143.2.1 17)) 18 (S_j143.2.1 18), va_up (va_up (va_up (va_up S.2.2 19 ((S_j143.2.2 19) + 1)) 21 (S_j143.2.2 21)) 23 (S_j143.2.2 23)) 24 (S_j143.2.2 24))) (fun _ u171 => (0, (va_up (va_up (va_up (va_up (va_up (va_up S.1 9 (u171.1 9)) 10 (u171.1 10)) 11 (u171.1 11)) 12 (u171.1 12)) 13 (u171.1 13)) 30 (u171.1 30), va_up (va_up S.2.1 17 (u171.2.1 17)) 18 (u171.2.1 18), va_up (va_up (va_up (va_up S.2.2 19 (u171.2.2 19)) 21 (u171.2.2 21)) 23 (u171.2.2 23)) 24 (S_j143.2.2 24)))))) := by
      intro v2_j143 S_j143 h22 h23 h24 h25 h26
      try dsimp only
      refine gx_if (Q := gx_q_MD_readClass S) (fun h27 => ?_) (fun h27 => ?_)
      · skip
        have h27_ := gx_eqr (k := 0) (by decide) h27
        refine gx_ca (Q := gx_q_MD_readClass S) (gx_q_MD_refuse _) (gx_s_MD_refuse _ h1 h2) ?_
        intro r_h28 u155 h28
        have h28_0 : (u155.2.2 24).toInt = 1 := h28
        clear h28
        exact ⟨trivial, (show (0 ≤ (S_j143.1 9 (Int32.toNatClampNeg (S.2.2 5))).toInt) ∧ ((0 ≤ (S_j143.2.2 19).toInt) ∧ (((S_j143.2.2 19).toInt ≤ (S.2.2 2).toInt) ∧ ((0 ≤ (S.2.2 20).toInt) ∧ (((S.2.2 20).toInt ≤ 6) ∧ ((0 ≤ (S_j143.2.2 21).toInt) ∧ ((0 ≤ (S.2.2 22).toInt) ∧ ((((((S_j143.1 9 (Int32.toNatClampNeg (S.2.2 5))).toInt + (S_j143.2.2 21).toInt) + (S.2.2 22).toInt) + (2 * (S.2.2 20).toInt)) ≤ (2 * (S_j143.2.2 19).toInt)) ∧ ((((S_j143.2.2 23).toInt = 0) ∨ ((((((S_j143.1 9 (Int32.toNatClampNeg (S.2.2 5))).toInt + (S_j143.2.2 21).toInt) + (S.2.2 22).toInt) + (2 * (S.2.2 20).toInt)) + 1) ≤ (2 * (S_j143.2.2 19).toInt))) ∧ (((((S_j143.2.2 21).toInt + (S.2.2 22).toInt) + (S.2.2 20).toInt) ≤ (S_j143.2.2 19).toInt) ∧ (((S.2.2 21).toInt ≤ (S_j143.2.2 21).toInt) ∧ ((S.2.2 19).toInt < (S_j143.2.2 19).toInt))))))))))) from (by omega))⟩
      · skip
        have h27_ := gx_eqnr (k := 0) (by decide) h27
        refine gx_ca (Q := gx_q_MD_readClass S) (gx_q_MD_peek _) (gx_s_MD_peek _ h1 h2 (show 0 ≤ (S_j143.2.2 19).toInt from (by omega))) ?_
        intro r148 u148 h28
        have h28_0 : (((r148.toInt = 0) ∧ ((S.2.2 2).toInt ≤ (S_j143.2.2 19).toInt)) ∨ ((32 ≤ r148.toInt) ∧ ((r148.toInt ≤ 126) ∧ ((S_j143.2.2 19).toInt < (S.2.2 2).toInt)))) ∧ (r148 = (gm_f_MD_peek (va_up (va_up (va_up (va_up (va_up (va_up S.1 9 (S_j143.1 9)) 10 (S_j143.1 10)) 11 (S_j143.1 11)) 12 (S_j143.1 12)) 13 (S_j143.1 13)) 30 (S_j143.1 30), va_up (va_up S.2.1 17 (S_j143.2.1 17)) 18 (S_j143.2.1 18), va_up (va_up (va_up (va_up S.2.2 19 (S_j143.2.2 19)) 21 (S_j143.2.2 21)) 23 (S_j143.2.2 23)) 24 (S_j143.2.2 24))).1) := h28
        refine gx_if (Q := gx_q_MD_readClass S) (fun h29 => ?_) (fun h29 => ?_)
        · skip
          have h29_ := gx_eqr (k := 0) (by decide) h29
          refine gx_ca (Q := gx_q_MD_readClass S) (gx_q_MD_refuse _) (gx_s_MD_refuse _ h1 h2) ?_
          intro r_h30 u155 h30
          have h30_0 : (u155.2.2 24).toInt = 1 := h30
          clear h30
          exact ⟨trivial, (show (0 ≤ (S_j143.1 9 (Int32.toNatClampNeg (S.2.2 5))).toInt) ∧ ((0 ≤ (S_j143.2.2 19).toInt) ∧ (((S_j143.2.2 19).toInt ≤ (S.2.2 2).toInt) ∧ ((0 ≤ (S.2.2 20).toInt) ∧ (((S.2.2 20).toInt ≤ 6) ∧ ((0 ≤ (S_j143.2.2 21).toInt) ∧ ((0 ≤ (S.2.2 22).toInt) ∧ ((((((S_j143.1 9 (Int32.toNatClampNeg (S.2.2 5))).toInt + (S_j143.2.2 21).toInt) + (S.2.2 22).toInt) + (2 * (S.2.2 20).toInt)) ≤ (2 * (S_j143.2.2 19).toInt)) ∧ ((((S_j143.2.2 23).toInt = 0) ∨ ((((((S_j143.1 9 (Int32.toNatClampNeg (S.2.2 5))).toInt + (S_j143.2.2 21).toInt) + (S.2.2 22).toInt) + (2 * (S.2.2 20).toInt)) + 1) ≤ (2 * (S_j143.2.2 19).toInt))) ∧ (((((S_j143.2.2 21).toInt + (S.2.2 22).toInt) + (S.2.2 20).toInt) ≤ (S_j143.2.2 19).toInt) ∧ (((S.2.2 21).toInt ≤ (S_j143.2.2 21).toInt) ∧ ((S.2.2 19).toInt < (S_j143.2.2 19).toInt))))))))))) from (by omega))⟩
        · skip
          have h29_ := gx_eqnr (k := 0) (by decide) h29
          refine gx_ca (Q := gx_q_MD_readClass S) (gx_q_MD_primary _ _) (gx_s_MD_primary _ _ h1 h2 (show 0 ≤ (S_j143.1 9 (Int32.toNatClampNeg (S.2.2 5))).toInt from (by omega)) (show (S_j143.1 9 (Int32.toNatClampNeg (S.2.2 5))).toInt ≤ 145 from (by omega)) (show 0 ≤ ((S_j143.2.2 19) + 1).toInt from (by have := gx_ak (S_j143.2.2 19) 1 (1) (by decide); omega)) (show ((S_j143.2.2 19) + 1).toInt ≤ (S.2.2 2).toInt from (by have := gx_ak (S_j143.2.2 19) 1 (1) (by decide); omega)) (show 0 ≤ (S_j143.2.2 21).toInt from (by omega)) (show (S_j143.2.2 21).toInt ≤ 58 from (by omega))) ?_
          intro r_h30 u171 h30
          have h30_0 : ((u171.2.2 21).toInt = ((S_j143.2.2 21).toInt + 1)) ∧ (((u171.2.2 23).toInt = 0) ∧ ((((S_j143.2.2 19) + 1).toInt ≤ (u171.2.2 19).toInt) ∧ (((u171.2.2 19).toInt ≤ (((S_j143.2.2 19) + 1).toInt + 1)) ∧ (((u171.2.2 19).toInt ≤ (S.2.2 2).toInt) ∧ (((S_j143.1 9 (Int32.toNatClampNeg (S.2.2 5))).toInt ≤ (u171.1 9 (Int32.toNatClampNeg (S.2.2 5))).toInt) ∧ (((u171.1 9 (Int32.toNatClampNeg (S.2.2 5))).toInt ≤ ((S_j143.1 9 (Int32.toNatClampNeg (S.2.2 5))).toInt + (2 * ((u171.2.2 19).toInt - ((S_j143.2.2 19) + 1).toInt)))) ∨ (((S_j143.2.2 23).toInt ≠ 0) ∧ ((u171.1 9 (Int32.toNatClampNeg (S.2.2 5))).toInt ≤ (((S_j143.1 9 (Int32.toNatClampNeg (S.2.2 5))).toInt + (2 * ((u171.2.2 19).toInt - ((S_j143.2.2 19) + 1).toInt))) + 1))))))))) := h30
          clear h30
          exact ⟨trivial, (show (0 ≤ (u171.1 9 (Int32.toNatClampNeg (S.2.2 5))).toInt) ∧ ((0 ≤ (u171.2.2 19).toInt) ∧ (((u171.2.2 19).toInt ≤ (S.2.2 2).toInt) ∧ ((0 ≤ (S.2.2 20).toInt) ∧ (((S.2.2 20).toInt ≤ 6) ∧ ((0 ≤ (u171.2.2 21).toInt) ∧ ((0 ≤ (S.2.2 22).toInt) ∧ ((((((u171.1 9 (Int32.toNatClampNeg (S.2.2 5))).toInt + (u171.2.2 21).toInt) + (S.2.2 22).toInt) + (2 * (S.2.2 20).toInt)) ≤ (2 * (u171.2.2 19).toInt)) ∧ ((((u171.2.2 23).toInt = 0) ∨ ((((((u171.1 9 (Int32.toNatClampNeg (S.2.2 5))).toInt + (u171.2.2 21).toInt) + (S.2.2 22).toInt) + (2 * (S.2.2 20).toInt)) + 1) ≤ (2 * (u171.2.2 19).toInt))) ∧ (((((u171.2.2 21).toInt + (S.2.2 22).toInt) + (S.2.2 20).toInt) ≤ (u171.2.2 19).toInt) ∧ (((S.2.2 21).toInt ≤ (u171.2.2 21).toInt) ∧ ((S.2.2 19).toInt < (u171.2.2 19).toInt))))))))))) from (by have := gx_ak (S_j143.2.2 19) 1 (1) (by decide); omega))⟩
    refine gx_ca (Q := gx_q_MD_readClass S) (gx_q_MD_peek _) (gx_s_MD_peek _ h1 h2 (show 0 ≤ (S_20.2.2 19).toInt from (by omega))) ?_
    intro r21 u21 h22
    have h22_0 : (((r21.toInt = 0) ∧ ((S.2.2 2).toInt ≤ (S_20.2.2 19).toInt)) ∨ ((32 ≤ r21.toInt) ∧ ((r21.toInt ≤ 126) ∧ ((S_20.2.2 19).toInt < (S.2.2 2).toInt)))) ∧ (r21 = (gm_f_MD_peek (va_up (va_up (va_up (va_up (va_up (va_up S.1 9 (S_20.1 9)) 10 (S_20.1 10)) 11 (S_20.1 11)) 12 (S_20.1 12)) 13 (S_20.1 13)) 30 (S_20.1 30), va_up (va_up S.2.1 17 (S_20.2.1 17)) 18 (S_20.2.1 18), va_up (va_up (va_up (va_up S.2.2 19 (S_20.2.2 19)) 21 (S_20.2.2 21)) 23 (S_20.2.2 23)) 24 (S_20.2.2 24))).1) := h22
    refine gx_if (Q := gx_q_MD_readClass S) (fun h23 => ?_) (fun h23 => ?_)
    · skip
      have h23_ := gx_eqr (k := 0) (by decide) h23
      refine key143 v2_20 (va_up (va_up (va_up (va_up (va_up (va_up S.1 9 (S_20.1 9)) 10 (S_20.1 10)) 11 (S_20.1 11)) 12 (S_20.1 12)) 13 (S_20.1 13)) 30 (S_20.1 30), va_up (va_up S.2.1 17 (S_20.2.1 17)) 18 (S_20.2.1 18), va_up (va_up (va_up (va_up S.2.2 19 (S_20.2.2 19)) 21 (S_20.2.2 21)) 23 (S_20.2.2 23)) 24 (S_20.2.2 24)) ?_ ?_ ?_ ?_ ?_
      · exact h16
      · exact h17
      · exact h18
      · exact h19
      · exact h20
    · skip
      have h23_ := gx_eqnr (k := 0) (by decide) h23
      refine gx_ca (Q := gx_q_MD_readClass S) (gx_q_MD_peek _) (gx_s_MD_peek _ h1 h2 (show 0 ≤ (S_20.2.2 19).toInt from (by omega))) ?_
      intro r28 u28 h24
      have h24_0 : (((r28.toInt = 0) ∧ ((S.2.2 2).toInt ≤ (S_20.2.2 19).toInt)) ∨ ((32 ≤ r28.toInt) ∧ ((r28.toInt ≤ 126) ∧ ((S_20.2.2 19).toInt < (S.2.2 2).toInt)))) ∧ (r28 = (gm_f_MD_peek (va_up (va_up (va_up (va_up (va_up (va_up S.1 9 (S_20.1 9)) 10 (S_20.1 10)) 11 (S_20.1 11)) 12 (S_20.1 12)) 13 (S_20.1 13)) 30 (S_20.1 30), va_up (va_up S.2.1 17 (S_20.2.1 17)) 18 (S_20.2.1 18), va_up (va_up (va_up (va_up S.2.2 19 (S_20.2.2 19)) 21 (S_20.2.2 21)) 23 (S_20.2.2 23)) 24 (S_20.2.2 24))).1) := h24
      have h24_f := gx_eq ((show r28 = _ from h24.2).trans (show r21 = _ from h22.2).symm)
      refine gx_if (Q := gx_q_MD_readClass S) (fun h25 => ?_) (fun h25 => ?_)
      · skip
        have h25_ := gx_eqr (k := 93) (gx_lit 93 (by decide)) h25
        refine key143 v2_20 (va_up (va_up (va_up (va_up (va_up (va_up S.1 9 (S_20.1 9)) 10 (S_20.1 10)) 11 (S_20.1 11)) 12 (S_20.1 12)) 13 (S_20.1 13)) 30 (S_20.1 30), va_up (va_up S.2.1 17 (S_20.2.1 17)) 18 (S_20.2.1 18), va_up (va_up (va_up (va_up S.2.2 19 (S_20.2.2 19)) 21 (S_20.2.2 21)) 23 (S_20.2.2 23)) 24 (S_20.2.2 24)) ?_ ?_ ?_ ?_ ?_
        · exact h16
        · exact h17
        · exact h18
        · exact h19
        · exact h20
      · skip
        have h25_ := gx_eqnr (k := 93) (gx_lit 93 (by decide)) h25
        refine gx_ca (Q := gx_q_MD_readClass S) (gx_q_MD_peek _) (gx_s_MD_peek _ h1 h2 (show 0 ≤ (S_20.2.2 19).toInt from (by omega))) ?_
        intro r37 u37 h26
        have h26_0 : (((r37.toInt = 0) ∧ ((S.2.2 2).toInt ≤ (S_20.2.2 19).toInt)) ∨ ((32 ≤ r37.toInt) ∧ ((r37.toInt ≤ 126) ∧ ((S_20.2.2 19).toInt < (S.2.2 2).toInt)))) ∧ (r37 = (gm_f_MD_peek (va_up (va_up (va_up (va_up (va_up (va_up S.1 9 (S_20.1 9)) 10 (S_20.1 10)) 11 (S_20.1 11)) 12 (S_20.1 12)) 13 (S_20.1 13)) 30 (S_20.1 30), va_up (va_up S.2.1 17 (S_20.2.1 17)) 18 (S_20.2.1 18), va_up (va_up (va_up (va_up S.2.2 19 (S_20.2.2 19)) 21 (S_20.2.2 21)) 23 (S_20.2.2 23)) 24 (S_20.2.2 24))).1) := h26
        have h26_f := gx_eq ((show r37 = _ from h26.2).trans (show r21 = _ from h22.2).symm)
        refine gx_ca (Q := gx_q_MD_readClass S) (gx_q_MD_peek _) (gx_s_MD_peek _ h1 h2 (show 0 ≤ ((S_20.2.2 19) + 1).toInt from (by have := gx_ak (S_20.2.2 19) 1 (1) (by decide); omega))) ?_
        intro r55 u55 h27
        have h27_0 : (((r55.toInt = 0) ∧ ((S.2.2 2).toInt ≤ ((S_20.2.2 19) + 1).toInt)) ∨ ((32 ≤ r55.toInt) ∧ ((r55.toInt ≤ 126) ∧ (((S_20.2.2 19) + 1).toInt < (S.2.2 2).toInt)))) ∧ (r55 = (gm_f_MD_peek (va_up (va_up (va_up (va_up (va_up (va_up S.1 9 (S_20.1 9)) 10 (S_20.1 10)) 11 (S_20.1 11)) 12 (S_20.1 12)) 13 (S_20.1 13)) 30 (S_20.1 30), va_up (va_up S.2.1 17 (S_20.2.1 17)) 18 (S_20.2.1 18), va_up (va_up (va_up (va_up S.2.2 19 ((S_20.2.2 19) + 1)) 21 (S_20.2.2 21)) 23 (S_20.2.2 23)) 24 (S_20.2.2 24))).1) := h27
        have key130 : ∀ (v4_j130 : Int32) (S_j130 : gm_S), (((S.2.2 19).toInt + 1) ≤ (S_j130.2.2 19).toInt) → ((S_j130.2.2 19).toInt ≤ (S.2.2 2).toInt) → ((S_j130.1 9 (Int32.toNatClampNeg (S.2.2 5))).toInt = ((S.1 9 (Int32.toNatClampNeg (S.2.2 5))).toInt + 1)) → ((S_j130.2.2 21).toInt = (S.2.2 21).toInt) → ((S_j130.2.2 23).toInt = (S.2.2 23).toInt) → ((S_20.2.2 19).toInt < (S_j130.2.2 19).toInt) → (0 ≤ v4_j130.toInt) → (v4_j130.toInt ≤ 126) → ((gm_p_MD_include r4 r37 v4_j130 (va_up (va_up (va_up (va_up (va_up (va_up S.1 9 (S_j130.1 9)) 10 (S_j130.1 10)) 11 (S_j130.1 11)) 12 (S_j130.1 12)) 13 (S_j130.1 13)) 30 (S_j130.1 30), va_up (va_up S.2.1 17 (S_j130.2.1 17)) 18 (S_j130.2.1 18), va_up (va_up (va_up (va_up S.2.2 19 (S_j130.2.2 19)) 21 (S_j130.2.2 21)) 23 (S_j130.2.2 23)) 24 (S_j130.2.2 24))) ∧ (gm_bd (gm_f_MD_include r4 r37 v4_j130 (va_up (va_up (va_up (va_up (va_up (va_up S.1 9 (S_j130.1 9)) 10 (S_j130.1 10)) 11 (S_j130.1 11)) 12 (S_j130.1 12)) 13 (S_j130.1 13)) 30 (S_j130.1 30), va_up (va_up S.2.1 17 (S_j130.2.1 17)) 18 (S_j130.2.1 18), va_up (va_up (va_up (va_up S.2.2 19 (S_j130.2.2 19)) 21 (S_j130.2.2 21)) 23 (S_j130.2.2 23)) 24 (S_j130.2.2 24))) (fun _ u135 => gm_p_MD_readClass_20 S r4 u4 n20 1 (va_up (va_up (va_up (va_up (va_up (va_up S.1 9 (S_j130.1 9)) 10 (S_j130.1 10)) 11 (S_j130.1 11)) 12 (S_j130.1 12)) 13 (S_j130.1 13)) 30 (S_j130.1 30), va_up (va_up S.2.1 17 (u135.2.1 17)) 18 (u135.2.1 18), va_up (va_up (va_up (va_up S.2.2 19 (S_j130.2.2 19)) 21 (S_j130.2.2 21)) 23 (S_j130.2.2 23)) 24 (S_j130.2.2 24))))) ∧ gx_q_MD_readClass S (gm_bd (gm_f_MD_include r4 r37 v4_j130 (va_up (va_up (va_up (va_up (va_up (va_up S.1 9 (S_j130.1 9)) 10 (S_j130.1 10)) 11 (S_j130.1 11)) 12 (S_j130.1 12)) 13 (S_j130.1 13)) 30 (S_j130.1 30), va_up (va_up S.2.1 17 (S_j130.2.1 17)) 18 (S_j130.2.1 18), va_up (va_up (va_up (va_up S.2.2 19 (S_j130.2.2 19)) 21 (S_j130.2.2 21)) 23 (S_j130.2.2 23)) 24 (S_j130.2.2 24))) (fun _ u135 => gm_f_MD_readClass_20 S r4 u4 n20 1 (va_up (va_up (va_up (va_up (va_up (va_up S.1 9 (S_j130.1 9)) 10 (S_j130.1 10)) 11 (S_j130.1 11)) 12 (S_j130.1 12)) 13 (S_j130.1 13)) 30 (S_j130.1 30), va_up (va_up S.2.1 17 (u135.2.1 17)) 18 (u135.2.1 18), va_up (va_up (va_up (va_up S.2.2 19 (S_j130.2.2 19)) 21 (S_j130.2.2 21)) 23 (S_j130.2.2 23)) 24 (S_j130.2.2 24)))) := by
          intro v4_j130 S_j130 h28 h29 h30 h31 h32 h33 h34 h35
          try dsimp only
          refine gx_ca (Q := gx_q_MD_readClass S) (gx_q_MD_include _ _ _ _) (gx_s_MD_include _ _ _ _ h1 h2 h14 h15 (show 0 ≤ r37.toInt from (by have := gx_ak (S_20.2.2 19) 1 (1) (by decide); omega)) (show r37.toInt ≤ 126 from (by have := gx_ak (S_20.2.2 19) 1 (1) (by decide); omega)) h34 h35) ?_
          intro r_h36 u135 h36
          clear h36
          refine ih _ _ ?_ ?_ ?_ ?_ ?_ ?_
          · exact h28
          · exact h29
          · exact h30
          · exact h31
          · exact h32
          · exact (show (((S.2.2 2).toInt - (S_j130.2.2 19).toInt) + 1) < n20 from (by have := gx_ak (S_20.2.2 19) 1 (1) (by decide); omega))
        refine gx_if (Q := gx_q_MD_readClass S) (fun h28 => ?_) (fun h28 => ?_)
        · skip
          have h28_ := gx_eqr (k := 45) (gx_lit 45 (by decide)) h28
          refine gx_if (Q := gx_q_MD_readClass S) (fun h29 => ?_) (fun h29 => ?_)
          · skip
            have h29_ := gx_le h29
            refine key130 r37 (va_up (va_up (va_up (va_up (va_up (va_up S.1 9 (S_20.1 9)) 10 (S_20.1 10)) 11 (S_20.1 11)) 12 (S_20.1 12)) 13 (S_20.1 13)) 30 (S_20.1 30), va_up (va_up S.2.1 17 (S_20.2.1 17)) 18 (S_20.2.1 18), va_up (va_up (va_up (va_up S.2.2 19 ((S_20.2.2 19) + 1)) 21 (S_20.2.2 21)) 23 (S_20.2.2 23)) 24 (S_20.2.2 24)) ?_ ?_ ?_ ?_ ?_ ?_ ?_ ?_
            · exact (show ((S.2.2 19).toInt + 1) ≤ ((S_20.2.2 19) + 1).toInt from (by have := gx_ak (S_20.2.2 19) 1 (1) (by decide); have := gx_ak ((S_20.2.2 19) + 1) 1 (1) (by decide); omega))
            · exact (show ((S_20.2.2 19) + 1).toInt ≤ (S.2.2 2).toInt from (by have := gx_ak (S_20.2.2 19) 1 (1) (by decide); have := gx_ak ((S_20.2.2 19) + 1) 1 (1) (by decide); omega))
            · exact h18
            · exact h19
            · exact h20
            · exact (show (S_20.2.2 19).toInt < ((S_20.2.2 19) + 1).toInt from (by have := gx_ak (S_20.2.2 19) 1 (1) (by decide); have := gx_ak ((S_20.2.2 19) + 1) 1 (1) (by decide); omega))
            · exact (show 0 ≤ r37.toInt from (by have := gx_ak (S_20.2.2 19) 1 (1) (by decide); have := gx_ak ((S_20.2.2 19) + 1) 1 (1) (by decide); omega))
            · exact (show r37.toInt ≤ 126 from (by have := gx_ak (S_20.2.2 19) 1 (1) (by decide); have := gx_ak ((S_20.2.2 19) + 1) 1 (1) (by decide); omega))
          · skip
            have h29_ := gx_len h29
            refine gx_in (Q := gx_q_MD_readClass S) (vp_in_iff.mpr (by have := gx_ak ((S_20.2.2 19) + 1) 1 (1) (by decide); have := gx_ak (S_20.2.2 19) 1 (1) (by decide); omega)) ?_
            refine gx_if (Q := gx_q_MD_readClass S) (fun h30 => ?_) (fun h30 => ?_)
            · skip
              clear h30
              refine key130 r37 (va_up (va_up (va_up (va_up (va_up (va_up S.1 9 (S_20.1 9)) 10 (S_20.1 10)) 11 (S_20.1 11)) 12 (S_20.1 12)) 13 (S_20.1 13)) 30 (S_20.1 30), va_up (va_up S.2.1 17 (S_20.2.1 17)) 18 (S_20.2.1 18), va_up (va_up (va_up (va_up S.2.2 19 ((S_20.2.2 19) + 1)) 21 (S_20.2.2 21)) 23 (S_20.2.2 23)) 24 (S_20.2.2 24)) ?_ ?_ ?_ ?_ ?_ ?_ ?_ ?_
              · exact (show ((S.2.2 19).toInt + 1) ≤ ((S_20.2.2 19) + 1).toInt from (by have := gx_ak (S_20.2.2 19) 1 (1) (by decide); have := gx_ak ((S_20.2.2 19) + 1) 1 (1) (by decide); omega))
              · exact (show ((S_20.2.2 19) + 1).toInt ≤ (S.2.2 2).toInt from (by have := gx_ak (S_20.2.2 19) 1 (1) (by decide); have := gx_ak ((S_20.2.2 19) + 1) 1 (1) (by decide); omega))
              · exact h18
              · exact h19
              · exact h20
              · exact (show (S_20.2.2 19).toInt < ((S_20.2.2 19) + 1).toInt from (by have := gx_ak (S_20.2.2 19) 1 (1) (by decide); have := gx_ak ((S_20.2.2 19) + 1) 1 (1) (by decide); omega))
              · exact (show 0 ≤ r37.toInt from (by have := gx_ak (S_20.2.2 19) 1 (1) (by decide); have := gx_ak ((S_20.2.2 19) + 1) 1 (1) (by decide); omega))
              · exact (show r37.toInt ≤ 126 from (by have := gx_ak (S_20.2.2 19) 1 (1) (by decide); have := gx_ak ((S_20.2.2 19) + 1) 1 (1) (by decide); omega))
            · skip
              clear h30
              refine gx_in (Q := gx_q_MD_readClass S) (vp_in_iff.mpr (by have := gx_ak ((S_20.2.2 19) + 1) 1 (1) (by decide); have := gx_ak (S_20.2.2 19) 1 (1) (by decide); omega)) ?_
              refine gx_if (Q := gx_q_MD_readClass S) (fun h31 => ?_) (fun h31 => ?_)
              · skip
                clear h31
                refine key130 r37 (va_up (va_up (va_up (va_up (va_up (va_up S.1 9 (S_20.1 9)) 10 (S_20.1 10)) 11 (S_20.1 11)) 12 (S_20.1 12)) 13 (S_20.1 13)) 30 (S_20.1 30), va_up (va_up S.2.1 17 (S_20.2.1 17)) 18 (S_20.2.1 18), va_up (va_up (va_up (va_up S.2.2 19 ((S_20.2.2 19) + 1)) 21 (S_20.2.2 21)) 23 (S_20.2.2 23)) 24 (S_20.2.2 24)) ?_ ?_ ?_ ?_ ?_ ?_ ?_ ?_
                · exact (show ((S.2.2 19).toInt + 1) ≤ ((S_20.2.2 19) + 1).toInt from (by have := gx_ak (S_20.2.2 19) 1 (1) (by decide); have := gx_ak ((S_20.2.2 19) + 1) 1 (1) (by decide); omega))
                · exact (show ((S_20.2.2 19) + 1).toInt ≤ (S.2.2 2).toInt from (by have := gx_ak (S_20.2.2 19) 1 (1) (by decide); have := gx_ak ((S_20.2.2 19) + 1) 1 (1) (by decide); omega))
                · exact h18
                · exact h19
                · exact h20
                · exact (show (S_20.2.2 19).toInt < ((S_20.2.2 19) + 1).toInt from (by have := gx_ak (S_20.2.2 19) 1 (1) (by decide); have := gx_ak ((S_20.2.2 19) + 1) 1 (1) (by decide); omega))
                · exact (show 0 ≤ r37.toInt from (by have := gx_ak (S_20.2.2 19) 1 (1) (by decide); have := gx_ak ((S_20.2.2 19) + 1) 1 (1) (by decide); omega))
                · exact (show r37.toInt ≤ 126 from (by have := gx_ak (S_20.2.2 19) 1 (1) (by decide); have := gx_ak ((S_20.2.2 19) + 1) 1 (1) (by decide); omega))
              · skip
                clear h31
                refine gx_in (Q := gx_q_MD_readClass S) (vp_in_iff.mpr (by have := gx_ak ((S_20.2.2 19) + 1) 1 (1) (by decide); have := gx_ak (S_20.2.2 19) 1 (1) (by decide); omega)) ?_
                refine key130 (S.1 3 (Int32.toNatClampNeg (((S_20.2.2 19) + 1) + 1))) (va_up (va_up (va_up (va_up (va_up (va_up S.1 9 (S_20.1 9)) 10 (S_20.1 10)) 11 (S_20.1 11)) 12 (S_20.1 12)) 13 (S_20.1 13)) 30 (S_20.1 30), va_up (va_up S.2.1 17 (S_20.2.1 17)) 18 (S_20.2.1 18), va_up (va_up (va_up (va_up S.2.2 19 (((S_20.2.2 19) + 1) + 2)) 21 (S_20.2.2 21)) 23 (S_20.2.2 23)) 24 (S_20.2.2 24)) ?_ ?_ ?_ ?_ ?_ ?_ ?_ ?_
                · exact (show ((S.2.2 19).toInt + 1) ≤ (((S_20.2.2 19) + 1) + 2).toInt from (by have := gx_ak ((S_20.2.2 19) + 1) 2 (2) (gx_lit 2 (by decide)); have := gx_ak (S_20.2.2 19) 1 (1) (by decide); have := gx_ak ((S_20.2.2 19) + 1) 1 (1) (by decide); omega))
                · exact (show (((S_20.2.2 19) + 1) + 2).toInt ≤ (S.2.2 2).toInt from (by have := gx_ak ((S_20.2.2 19) + 1) 2 (2) (gx_lit 2 (by decide)); have := gx_ak (S_20.2.2 19) 1 (1) (by decide); have := gx_ak ((S_20.2.2 19) + 1) 1 (1) (by decide); omega))
                · exact h18
                · exact h19
                · exact h20
                · exact (show (S_20.2.2 19).toInt < (((S_20.2.2 19) + 1) + 2).toInt from (by have := gx_ak ((S_20.2.2 19) + 1) 2 (2) (gx_lit 2 (by decide)); have := gx_ak (S_20.2.2 19) 1 (1) (by decide); have := gx_ak ((S_20.2.2 19) + 1) 1 (1) (by decide); omega))
                · exact (show 0 ≤ (S.1 3 (Int32.toNatClampNeg (((S_20.2.2 19) + 1) + 1))).toInt from (by have := gx_ak ((S_20.2.2 19) + 1) 1 (1) (by decide); have := gx_ak (S_20.2.2 19) 1 (1) (by decide); have := gx_tx h1 (x := ((S_20.2.2 19) + 1) + 1) (by omega) (by omega); omega))
                · exact (show (S.1 3 (Int32.toNatClampNeg (((S_20.2.2 19) + 1) + 1))).toInt ≤ 126 from (by have := gx_ak ((S_20.2.2 19) + 1) 1 (1) (by decide); have := gx_ak (S_20.2.2 19) 1 (1) (by decide); have := gx_tx h1 (x := ((S_20.2.2 19) + 1) + 1) (by omega) (by omega); omega))
        · skip
          have h28_ := gx_eqnr (k := 45) (gx_lit 45 (by decide)) h28
          refine key130 r37 (va_up (va_up (va_up (va_up (va_up (va_up S.1 9 (S_20.1 9)) 10 (S_20.1 10)) 11 (S_20.1 11)) 12 (S_20.1 12)) 13 (S_20.1 13)) 30 (S_20.1 30), va_up (va_up S.2.1 17 (S_20.2.1 17)) 18 (S_20.2.1 18), va_up (va_up (va_up (va_up S.2.2 19 ((S_20.2.2 19) + 1)) 21 (S_20.2.2 21)) 23 (S_20.2.2 23)) 24 (S_20.2.2 24)) ?_ ?_ ?_ ?_ ?_ ?_ ?_ ?_
          · exact (show ((S.2.2 19).toInt + 1) ≤ ((S_20.2.2 19) + 1).toInt from (by have := gx_ak (S_20.2.2 19) 1 (1) (by decide); omega))
          · exact (show ((S_20.2.2 19) + 1).toInt ≤ (S.2.2 2).toInt from (by have := gx_ak (S_20.2.2 19) 1 (1) (by decide); omega))
          · exact h18
          · exact h19
          · exact h20
          · exact (show (S_20.2.2 19).toInt < ((S_20.2.2 19) + 1).toInt from (by have := gx_ak (S_20.2.2 19) 1 (1) (by decide); omega))
          · exact (show 0 ≤ r37.toInt from (by have := gx_ak (S_20.2.2 19) 1 (1) (by decide); omega))
          · exact (show r37.toInt ≤ 126 from (by have := gx_ak (S_20.2.2 19) 1 (1) (by decide); omega))
set_option maxRecDepth 100000 in
theorem gx_s_MD_readClass (S : gm_S) (h1 : gm_iW 50 (S.2.2 2) (S.1 3)) (h2 : gm_iN 1 (S.2.2 5)) (h3 : 0 ≤ (S.1 9 (Int32.toNatClampNeg (S.2.2 5))).toInt) (h4 : 0 ≤ (S.2.2 19).toInt) (h5 : (S.2.2 19).toInt ≤ (S.2.2 2).toInt) (h6 : 0 ≤ (S.2.2 20).toInt) (h7 : (S.2.2 20).toInt ≤ 6) (h8 : 0 ≤ (S.2.2 21).toInt) (h9 : 0 ≤ (S.2.2 22).toInt) (h10 : ((((S.1 9 (Int32.toNatClampNeg (S.2.2 5))).toInt + (S.2.2 21).toInt) + (S.2.2 22).toInt) + (2 * (S.2.2 20).toInt)) ≤ (2 * (S.2.2 19).toInt)) (h11 : ((S.2.2 23).toInt = 0) ∨ ((((((S.1 9 (Int32.toNatClampNeg (S.2.2 5))).toInt + (S.2.2 21).toInt) + (S.2.2 22).toInt) + (2 * (S.2.2 20).toInt)) + 1) ≤ (2 * (S.2.2 19).toInt))) (h12 : (((S.2.2 21).toInt + (S.2.2 22).toInt) + (S.2.2 20).toInt) ≤ (S.2.2 19).toInt) (h13 : (S.2.2 19).toInt < (S.2.2 2).toInt) : gm_p_MD_readClass S ∧ gx_q_MD_readClass S (gm_f_MD_readClass S) := by
  unfold gm_p_MD_readClass gm_f_MD_readClass
  refine gx_ca (Q := gx_q_MD_readClass S) (gx_q_MD_create _ _ _ _) (gx_s_MD_create _ _ _ _ h1 h2 h3 (show (S.1 9 (Int32.toNatClampNeg (S.2.2 5))).toInt ≤ 150 from (by omega))) ?_
  intro r4 u4 h14
  have h14_0 : ((u4.1 9 (Int32.toNatClampNeg (S.2.2 5))).toInt = ((S.1 9 (Int32.toNatClampNeg (S.2.2 5))).toInt + 1)) ∧ (r4.toInt = ((160 * (S.2.2 5).toInt) + (S.1 9 (Int32.toNatClampNeg (S.2.2 5))).toInt)) := h14
  clear h14
  refine gx_s_MD_readClass_20 _ _ _ ?_ ?_ ?_ ?_ ?_ ?_ ?_ ?_ ?_ ?_ ?_ ?_ ?_ ?_ ?_ _ _ _ ?_ ?_ ?_ ?_ ?_ ?_
  · exact h1
  · exact h2
  · exact (show 0 ≤ (S.1 9 (Int32.toNatClampNeg (S.2.2 5))).toInt from (by omega))
  · exact (show 0 ≤ (S.2.2 19).toInt from (by omega))
  · exact (show (S.2.2 19).toInt ≤ (S.2.2 2).toInt from (by omega))
  · exact (show 0 ≤ (S.2.2 20).toInt from (by omega))
  · exact (show (S.2.2 20).toInt ≤ 6 from (by omega))
  · exact (show 0 ≤ (S.2.2 21).toInt from (by omega))
  · exact (show 0 ≤ (S.2.2 22).toInt from (by omega))
  · exact (show ((((S.1 9 (Int32.toNatClampNeg (S.2.2 5))).toInt + (S.2.2 21).toInt) + (S.2.2 22).toInt) + (2 * (S.2.2 20).toInt)) ≤ (2 * (S.2.2 19).toInt) from (by omega))
  · exact (show ((S.2.2 23).toInt = 0) ∨ ((((((S.1 9 (Int32.toNatClampNeg (S.2.2 5))).toInt + (S.2.2 21).toInt) + (S.2.2 22).toInt) + (2 * (S.2.2 20).toInt)) + 1) ≤ (2 * (S.2.2 19).toInt)) from (by omega))
  · exact (show (((S.2.2 21).toInt + (S.2.2 22).toInt) + (S.2.2 20).toInt) ≤ (S.2.2 19).toInt from (by omega))
  · exact (show (S.2.2 19).toInt < (S.2.2 2).toInt from (by omega))
  · exact (show 0 ≤ r4.toInt from (by omega))
  · exact (show r4.toInt ≤ 319 from (by omega))
  · exact (show ((S.2.2 19).toInt + 1) ≤ ((S.2.2 19) + 1).toInt from (by have := gx_ak (S.2.2 19) 1 (1) (by decide); omega))
  · exact (show ((S.2.2 19) + 1).toInt ≤ (S.2.2 2).toInt from (by have := gx_ak (S.2.2 19) 1 (1) (by decide); omega))
  · exact (show (u4.1 9 (Int32.toNatClampNeg (S.2.2 5))).toInt = ((S.1 9 (Int32.toNatClampNeg (S.2.2 5))).toInt + 1) from (by omega))
  · exact (show (S.2.2 21).toInt = (S.2.2 21).toInt from (by omega))
  · exact (show (S.2.2 23).toInt = (S.2.2 23).toInt from (by omega))
  · exact (show (((S.2.2 2).toInt - ((S.2.2 19) + 1).toInt) + 1) < 200 from (by have := gx_ak (S.2.2 19) 1 (1) (by decide); omega))
abbrev gx_q_MD_readSign (x : Int32) (S : gm_S) (z : Int32 × (gm_S)) : Prop := (gm_iC (z.2.2.2 20) (z.2.2.2 21) (z.2.2.2 22) (S.1 26) (S.1 28) (S.1 29)) ∧ ((0 ≤ (z.2.1 9 (Int32.toNatClampNeg (S.2.2 5))).toInt) ∧ ((0 ≤ (z.2.2.2 19).toInt) ∧ (((z.2.2.2 19).toInt ≤ (S.2.2 2).toInt) ∧ ((0 ≤ (z.2.2.2 20).toInt) ∧ (((z.2.2.2 20).toInt ≤ 6) ∧ ((0 ≤ (z.2.2.2 21).toInt) ∧ ((0 ≤ (z.2.2.2 22).toInt) ∧ ((((((z.2.1 9 (Int32.toNatClampNeg (S.2.2 5))).toInt + (z.2.2.2 21).toInt) + (z.2.2.2 22).toInt) + (2 * (z.2.2.2 20).toInt)) ≤ (2 * (z.2.2.2 19).toInt)) ∧ ((((z.2.2.2 23).toInt = 0) ∨ ((((((z.2.1 9 (Int32.toNatClampNeg (S.2.2 5))).toInt + (z.2.2.2 21).toInt) + (z.2.2.2 22).toInt) + (2 * (z.2.2.2 20).toInt)) + 1) ≤ (2 * (z.2.2.2 19).toInt))) ∧ (((((z.2.2.2 21).toInt + (z.2.2.2 22).toInt) + (z.2.2.2 20).toInt) ≤ (z.2.2.2 19).toInt) ∧ (((S.2.2 19).toInt ≤ (z.2.2.2 19).toInt) ∧ ((((S.2.2 19).toInt < (z.2.2.2 19).toInt) ∨ ((z.2.2.2 24).toInt ≠ 0))))))))))))))
set_option maxRecDepth 100000 in
theorem gx_s_MD_readSign_j39 (x : Int32) (S : gm_S) (S_j39 : gm_S) (h1 : gm_iW 50 (S.2.2 2) (S.1 3)) (h2 : gm_iN 1 (S.2.2 5)) (h3 : gm_iC (S.2.2 20) (S.2.2 21) (S.2.2 22) (S.1 26) (S.1 28) (S.1 29)) (h4 : 0 ≤ (S.1 9 (Int32.toNatClampNeg (S.2.2 5))).toInt) (h5 : 0 ≤ (S.2.2 19).toInt) (h6 : (S.2.2 19).toInt ≤ (S.2.2 2).toInt) (h7 : 0 ≤ (S.2.2 20).toInt) (h8 : (S.2.2 20).toInt ≤ 6) (h9 : 0 ≤ (S.2.2 21).toInt) (h10 : 0 ≤ (S.2.2 22).toInt) (h11 : ((((S.1 9 (Int32.toNatClampNeg (S.2.2 5))).toInt + (S.2.2 21).toInt) + (S.2.2 22).toInt) + (2 * (S.2.2 20).toInt)) ≤ (2 * (S.2.2 19).toInt)) (h12 : ((S.2.2 23).toInt = 0) ∨ ((((((S.1 9 (Int32.toNatClampNeg (S.2.2 5))).toInt + (S.2.2 21).toInt) + (S.2.2 22).toInt) + (2 * (S.2.2 20).toInt)) + 1) ≤ (2 * (S.2.2 19).toInt))) (h13 : (((S.2.2 21).toInt + (S.2.2 22).toInt) + (S.2.2 20).toInt) ≤ (S.2.2 19).toInt) (h14 : (S.2.2 23).toInt = 0) (h15 : 0 ≤ x.toInt) (h16 : (x.toInt = 0) ∨ ((S.2.2 19).toInt < (S.2.2 2).toInt)) (h17 : 0 ≤ (S.1 6 (Int32.toNatClampNeg (S.2.2 5))).toInt) (h18 : (S.1 6 (Int32.toNatClampNeg (S.2.2 5))).toInt ≤ 7) (h19 : (S_j39.1 9 (Int32.toNatClampNeg (S.2.2 5))).toInt = (S.1 9 (Int32.toNatClampNeg (S.2.2 5))).toInt) (h20 : (S_j39.2.2 19).toInt = (S.2.2 19).toInt) (h21 : (S_j39.2.2 20).toInt = (S.2.2 20).toInt) (h22 : (S_j39.2.2 21).toInt = (S.2.2 21).toInt) (h23 : (S_j39.2.2 22).toInt = (S.2.2 22).toInt) (h24 : (S_j39.2.2 23).toInt = (S.2.2 23).toInt) (h25 : 0 ≤ (S_j39.2.2 20).toInt) (h26 : (S.2.2 19).toInt < (S.2.2 2).toInt) (h27 : gm_iC (S_j39.2.2 20) (S_j39.2.2 21) (S_j39.2.2 22) (S.1 26) (S.1 28) (S.1 29)) : gm_p_MD_readSign_j39 x S S_j39 ∧ gx_q_MD_readSign x S (gm_f_MD_readSign_j39 x S S_j39) := by
  unfold gm_p_MD_readSign_j39 gm_f_MD_readSign_j39
  refine gx_if (Q := gx_q_MD_readSign x S) (fun h28 => ?_) (fun h28 => ?_)
  · skip
    have h28_ := gx_eqr (k := 38) (gx_lit 38 (by decide)) h28
    exact ⟨trivial, ⟨h27, (show (0 ≤ (S_j39.1 9 (Int32.toNatClampNeg (S.2.2 5))).toInt) ∧ ((0 ≤ ((S_j39.2.2 19) + 1).toInt) ∧ ((((S_j39.2.2 19) + 1).toInt ≤ (S.2.2 2).toInt) ∧ ((0 ≤ (S_j39.2.2 20).toInt) ∧ (((S_j39.2.2 20).toInt ≤ 6) ∧ ((0 ≤ (S_j39.2.2 21).toInt) ∧ ((0 ≤ (S_j39.2.2 22).toInt) ∧ ((((((S_j39.1 9 (Int32.toNatClampNeg (S.2.2 5))).toInt + (S_j39.2.2 21).toInt) + (S_j39.2.2 22).toInt) + (2 * (S_j39.2.2 20).toInt)) ≤ (2 * ((S_j39.2.2 19) + 1).toInt)) ∧ (((x.toInt = 0) ∨ ((((((S_j39.1 9 (Int32.toNatClampNeg (S.2.2 5))).toInt + (S_j39.2.2 21).toInt) + (S_j39.2.2 22).toInt) + (2 * (S_j39.2.2 20).toInt)) + 1) ≤ (2 * ((S_j39.2.2 19) + 1).toInt))) ∧ (((((S_j39.2.2 21).toInt + (S_j39.2.2 22).toInt) + (S_j39.2.2 20).toInt) ≤ ((S_j39.2.2 19) + 1).toInt) ∧ (((S.2.2 19).toInt ≤ ((S_j39.2.2 19) + 1).toInt) ∧ (((S.2.2 19).toInt < ((S_j39.2.2 19) + 1).toInt) ∨ ((S_j39.2.2 24).toInt ≠ 0)))))))))))) from (by have := gx_iC_f h3 (by omega); have := gx_iC_f h27 (by omega); have := gx_ak (S_j39.2.2 19) 1 (1) (by decide); omega))⟩⟩
  · skip
    have h28_ := gx_eqnr (k := 38) (gx_lit 38 (by decide)) h28
    refine gx_if (Q := gx_q_MD_readSign x S) (fun h29 => ?_) (fun h29 => ?_)
    · skip
      have h29_ := gx_eqr (k := 33) (gx_lit 33 (by decide)) h29
      exact ⟨trivial, ⟨h27, (show (0 ≤ (S_j39.1 9 (Int32.toNatClampNeg (S.2.2 5))).toInt) ∧ ((0 ≤ ((S_j39.2.2 19) + 1).toInt) ∧ ((((S_j39.2.2 19) + 1).toInt ≤ (S.2.2 2).toInt) ∧ ((0 ≤ (S_j39.2.2 20).toInt) ∧ (((S_j39.2.2 20).toInt ≤ 6) ∧ ((0 ≤ (S_j39.2.2 21).toInt) ∧ ((0 ≤ (S_j39.2.2 22).toInt) ∧ ((((((S_j39.1 9 (Int32.toNatClampNeg (S.2.2 5))).toInt + (S_j39.2.2 21).toInt) + (S_j39.2.2 22).toInt) + (2 * (S_j39.2.2 20).toInt)) ≤ (2 * ((S_j39.2.2 19) + 1).toInt)) ∧ (((x.toInt = 0) ∨ ((((((S_j39.1 9 (Int32.toNatClampNeg (S.2.2 5))).toInt + (S_j39.2.2 21).toInt) + (S_j39.2.2 22).toInt) + (2 * (S_j39.2.2 20).toInt)) + 1) ≤ (2 * ((S_j39.2.2 19) + 1).toInt))) ∧ (((((S_j39.2.2 21).toInt + (S_j39.2.2 22).toInt) + (S_j39.2.2 20).toInt) ≤ ((S_j39.2.2 19) + 1).toInt) ∧ (((S.2.2 19).toInt ≤ ((S_j39.2.2 19) + 1).toInt) ∧ (((S.2.2 19).toInt < ((S_j39.2.2 19) + 1).toInt) ∨ ((S_j39.2.2 24).toInt ≠ 0)))))))))))) from (by have := gx_iC_f h3 (by omega); have := gx_iC_f h27 (by omega); have := gx_ak (S_j39.2.2 19) 1 (1) (by decide); omega))⟩⟩
    · skip
      have h29_ := gx_eqnr (k := 33) (gx_lit 33 (by decide)) h29
      refine gx_if (Q := gx_q_MD_readSign x S) (fun h30 => ?_) (fun h30 => ?_)
      · skip
        have h30_ := gx_eqr (k := 47) (gx_lit 47 (by decide)) h30
        refine gx_ca (Q := gx_q_MD_readSign x S) (gx_q_MD_endSequence _) (gx_s_MD_endSequence _ h1 h2 (show 0 ≤ (S_j39.1 9 (Int32.toNatClampNeg (S.2.2 5))).toInt from (by have := gx_iC_f h3 (by omega); have := gx_iC_f h27 (by omega); omega)) (show ((S_j39.1 9 (Int32.toNatClampNeg (S.2.2 5))).toInt + (S_j39.2.2 21).toInt) ≤ 120 from (by have := gx_iC_f h3 (by omega); have := gx_iC_f h27 (by omega); omega)) h25 (show (S_j39.2.2 20).toInt ≤ 6 from (by have := gx_iC_f h3 (by omega); have := gx_iC_f h27 (by omega); omega)) (show 0 ≤ (S.1 28 (Int32.toNatClampNeg (S_j39.2.2 20))).toInt from (by have := gx_iC_f h3 (by omega); have := gx_iC_f h27 (by omega); omega)) (show (S.1 28 (Int32.toNatClampNeg (S_j39.2.2 20))).toInt ≤ (S_j39.2.2 21).toInt from (by have := gx_iC_f h3 (by omega); have := gx_iC_f h27 (by omega); omega)) (show (S_j39.2.2 21).toInt ≤ 55 from (by have := gx_iC_f h3 (by omega); have := gx_iC_f h27 (by omega); omega)) (show 0 ≤ (S_j39.2.2 22).toInt from (by have := gx_iC_f h3 (by omega); have := gx_iC_f h27 (by omega); omega)) (show (S_j39.2.2 22).toInt ≤ 55 from (by have := gx_iC_f h3 (by omega); have := gx_iC_f h27 (by omega); omega))) ?_
        intro r_h31 u76 h31
        have h31_0 : ((u76.2.2 21).toInt = (S.1 28 (Int32.toNatClampNeg (S_j39.2.2 20))).toInt) ∧ (((u76.2.2 22).toInt = ((S_j39.2.2 22).toInt + 1)) ∧ (((S_j39.1 9 (Int32.toNatClampNeg (S.2.2 5))).toInt ≤ (u76.1 9 (Int32.toNatClampNeg (S.2.2 5))).toInt) ∧ ((((S_j39.2.2 21).toInt = (S.1 28 (Int32.toNatClampNeg (S_j39.2.2 20))).toInt) ∧ ((u76.1 9 (Int32.toNatClampNeg (S.2.2 5))).toInt = ((S_j39.1 9 (Int32.toNatClampNeg (S.2.2 5))).toInt + 1))) ∨ (((S.1 28 (Int32.toNatClampNeg (S_j39.2.2 20))).toInt < (S_j39.2.2 21).toInt) ∧ ((u76.1 9 (Int32.toNatClampNeg (S.2.2 5))).toInt = ((((S_j39.1 9 (Int32.toNatClampNeg (S.2.2 5))).toInt + (S_j39.2.2 21).toInt) - (S.1 28 (Int32.toNatClampNeg (S_j39.2.2 20))).toInt) - 1)))))) := h31
        clear h31
        exact ⟨trivial, ⟨(gx_iC_s h27 (show (S.1 28 (Int32.toNatClampNeg (S_j39.2.2 20))).toInt ≤ (u76.2.2 21).toInt from (by have := gx_iC_f h3 (by omega); have := gx_iC_f h27 (by omega); omega)) (show (S.1 29 (Int32.toNatClampNeg (S_j39.2.2 20))).toInt ≤ (u76.2.2 22).toInt from (by have := gx_iC_f h3 (by omega); have := gx_iC_f h27 (by omega); omega))), (show (0 ≤ (u76.1 9 (Int32.toNatClampNeg (S.2.2 5))).toInt) ∧ ((0 ≤ ((S_j39.2.2 19) + 1).toInt) ∧ ((((S_j39.2.2 19) + 1).toInt ≤ (S.2.2 2).toInt) ∧ ((0 ≤ (S_j39.2.2 20).toInt) ∧ (((S_j39.2.2 20).toInt ≤ 6) ∧ ((0 ≤ (u76.2.2 21).toInt) ∧ ((0 ≤ (u76.2.2 22).toInt) ∧ ((((((u76.1 9 (Int32.toNatClampNeg (S.2.2 5))).toInt + (u76.2.2 21).toInt) + (u76.2.2 22).toInt) + (2 * (S_j39.2.2 20).toInt)) ≤ (2 * ((S_j39.2.2 19) + 1).toInt)) ∧ ((((S_j39.2.2 23).toInt = 0) ∨ ((((((u76.1 9 (Int32.toNatClampNeg (S.2.2 5))).toInt + (u76.2.2 21).toInt) + (u76.2.2 22).toInt) + (2 * (S_j39.2.2 20).toInt)) + 1) ≤ (2 * ((S_j39.2.2 19) + 1).toInt))) ∧ (((((u76.2.2 21).toInt + (u76.2.2 22).toInt) + (S_j39.2.2 20).toInt) ≤ ((S_j39.2.2 19) + 1).toInt) ∧ (((S.2.2 19).toInt ≤ ((S_j39.2.2 19) + 1).toInt) ∧ (((S.2.2 19).toInt < ((S_j39.2.2 19) + 1).toInt) ∨ ((S_j39.2.2 24).toInt ≠ 0)))))))))))) from (by have := gx_iC_f h3 (by omega); have := gx_iC_f h27 (by omega); have := gx_ak (S_j39.2.2 19) 1 (1) (by decide); omega))⟩⟩
      · skip
        have h30_ := gx_eqnr (k := 47) (gx_lit 47 (by decide)) h30
        refine gx_ca (Q := gx_q_MD_readSign x S) (gx_q_MD_close _) (gx_s_MD_close _ h1 h2 h27 (show 0 ≤ (S_j39.1 9 (Int32.toNatClampNeg (S.2.2 5))).toInt from (by have := gx_iC_f h3 (by omega); have := gx_iC_f h27 (by omega); omega)) (show (((S_j39.1 9 (Int32.toNatClampNeg (S.2.2 5))).toInt + (S_j39.2.2 21).toInt) + (S_j39.2.2 22).toInt) ≤ 110 from (by have := gx_iC_f h3 (by omega); have := gx_iC_f h27 (by omega); omega)) (show 0 ≤ ((S_j39.2.2 19) + 1).toInt from (by have := gx_iC_f h3 (by omega); have := gx_iC_f h27 (by omega); have := gx_ak (S_j39.2.2 19) 1 (1) (by decide); omega)) (show ((S_j39.2.2 19) + 1).toInt ≤ (S.2.2 2).toInt from (by have := gx_iC_f h3 (by omega); have := gx_iC_f h27 (by omega); have := gx_ak (S_j39.2.2 19) 1 (1) (by decide); omega)) h25 (show (S_j39.2.2 20).toInt ≤ 6 from (by have := gx_iC_f h3 (by omega); have := gx_iC_f h27 (by omega); omega)) (show (S_j39.2.2 21).toInt ≤ 50 from (by have := gx_iC_f h3 (by omega); have := gx_iC_f h27 (by omega); omega)) (show (S_j39.2.2 22).toInt ≤ 50 from (by have := gx_iC_f h3 (by omega); have := gx_iC_f h27 (by omega); omega)) (show (S_j39.2.2 23).toInt = 0 from (by have := gx_iC_f h3 (by omega); have := gx_iC_f h27 (by omega); omega)) h17 h18) ?_
        intro r_h31 u83 h31
        have h31_0 : gm_iC (u83.2.2 20) (u83.2.2 21) (u83.2.2 22) (S.1 26) (S.1 28) (S.1 29) := h31.1
        have h31_1 : (0 ≤ (u83.1 9 (Int32.toNatClampNeg (S.2.2 5))).toInt) ∧ ((((S_j39.2.2 19) + 1).toInt ≤ (u83.2.2 19).toInt) ∧ (((u83.2.2 19).toInt ≤ (S.2.2 2).toInt) ∧ ((0 ≤ (u83.2.2 20).toInt) ∧ (((u83.2.2 20).toInt ≤ 6) ∧ ((0 ≤ (u83.2.2 21).toInt) ∧ ((0 ≤ (u83.2.2 22).toInt) ∧ (((u83.2.2 23).toInt = 0) ∧ ((((((u83.1 9 (Int32.toNatClampNeg (S.2.2 5))).toInt + (u83.2.2 21).toInt) + (u83.2.2 22).toInt) + (2 * (u83.2.2 20).toInt)) ≤ ((((((S_j39.1 9 (Int32.toNatClampNeg (S.2.2 5))).toInt + (S_j39.2.2 21).toInt) + (S_j39.2.2 22).toInt) + (2 * (S_j39.2.2 20).toInt)) + 2) + (2 * ((u83.2.2 19).toInt - ((S_j39.2.2 19) + 1).toInt)))) ∧ ((((u83.2.2 21).toInt + (u83.2.2 22).toInt) + (u83.2.2 20).toInt) ≤ (((S_j39.2.2 21).toInt + (S_j39.2.2 22).toInt) + (S_j39.2.2 20).toInt)))))))))) := h31.2
        clear h31
        exact ⟨trivial, ⟨h31_0, (show (0 ≤ (u83.1 9 (Int32.toNatClampNeg (S.2.2 5))).toInt) ∧ ((0 ≤ (u83.2.2 19).toInt) ∧ (((u83.2.2 19).toInt ≤ (S.2.2 2).toInt) ∧ ((0 ≤ (u83.2.2 20).toInt) ∧ (((u83.2.2 20).toInt ≤ 6) ∧ ((0 ≤ (u83.2.2 21).toInt) ∧ ((0 ≤ (u83.2.2 22).toInt) ∧ ((((((u83.1 9 (Int32.toNatClampNeg (S.2.2 5))).toInt + (u83.2.2 21).toInt) + (u83.2.2 22).toInt) + (2 * (u83.2.2 20).toInt)) ≤ (2 * (u83.2.2 19).toInt)) ∧ ((((u83.2.2 23).toInt = 0) ∨ ((((((u83.1 9 (Int32.toNatClampNeg (S.2.2 5))).toInt + (u83.2.2 21).toInt) + (u83.2.2 22).toInt) + (2 * (u83.2.2 20).toInt)) + 1) ≤ (2 * (u83.2.2 19).toInt))) ∧ (((((u83.2.2 21).toInt + (u83.2.2 22).toInt) + (u83.2.2 20).toInt) ≤ (u83.2.2 19).toInt) ∧ (((S.2.2 19).toInt ≤ (u83.2.2 19).toInt) ∧ (((S.2.2 19).toInt < (u83.2.2 19).toInt) ∨ ((S_j39.2.2 24).toInt ≠ 0)))))))))))) from (by have := gx_iC_f h3 (by omega); have := gx_iC_f h27 (by omega); have := gx_iC_f h31_0 (by omega); have := gx_ak (S_j39.2.2 19) 1 (1) (by decide); omega))⟩⟩
set_option maxRecDepth 100000 in
theorem gx_s_MD_readSign (x : Int32) (S : gm_S) (h1 : gm_iW 50 (S.2.2 2) (S.1 3)) (h2 : gm_iN 1 (S.2.2 5)) (h3 : gm_iC (S.2.2 20) (S.2.2 21) (S.2.2 22) (S.1 26) (S.1 28) (S.1 29)) (h4 : 0 ≤ (S.1 9 (Int32.toNatClampNeg (S.2.2 5))).toInt) (h5 : 0 ≤ (S.2.2 19).toInt) (h6 : (S.2.2 19).toInt ≤ (S.2.2 2).toInt) (h7 : 0 ≤ (S.2.2 20).toInt) (h8 : (S.2.2 20).toInt ≤ 6) (h9 : 0 ≤ (S.2.2 21).toInt) (h10 : 0 ≤ (S.2.2 22).toInt) (h11 : ((((S.1 9 (Int32.toNatClampNeg (S.2.2 5))).toInt + (S.2.2 21).toInt) + (S.2.2 22).toInt) + (2 * (S.2.2 20).toInt)) ≤ (2 * (S.2.2 19).toInt)) (h12 : ((S.2.2 23).toInt = 0) ∨ ((((((S.1 9 (Int32.toNatClampNeg (S.2.2 5))).toInt + (S.2.2 21).toInt) + (S.2.2 22).toInt) + (2 * (S.2.2 20).toInt)) + 1) ≤ (2 * (S.2.2 19).toInt))) (h13 : (((S.2.2 21).toInt + (S.2.2 22).toInt) + (S.2.2 20).toInt) ≤ (S.2.2 19).toInt) (h14 : (S.2.2 23).toInt = 0) (h15 : 0 ≤ x.toInt) (h16 : (x.toInt = 0) ∨ ((S.2.2 19).toInt < (S.2.2 2).toInt)) (h17 : 0 ≤ (S.1 6 (Int32.toNatClampNeg (S.2.2 5))).toInt) (h18 : (S.1 6 (Int32.toNatClampNeg (S.2.2 5))).toInt ≤ 7) : gm_p_MD_readSign x S ∧ gx_q_MD_readSign x S (gm_f_MD_readSign x S) := by
  unfold gm_p_MD_readSign gm_f_MD_readSign
  refine gx_if (Q := gx_q_MD_readSign x S) (fun h19 => ?_) (fun h19 => ?_)
  · skip
    have h19_ := gx_eqr (k := 38) (gx_lit 38 (by decide)) h19
    refine gx_s_MD_readSign_j39 _ _ _ ?_ ?_ ?_ ?_ ?_ ?_ ?_ ?_ ?_ ?_ ?_ ?_ ?_ ?_ ?_ ?_ ?_ ?_ ?_ ?_ ?_ ?_ ?_ ?_ ?_ ?_ ?_
    · exact h1
    · exact h2
    · exact h3
    · exact (show 0 ≤ (S.1 9 (Int32.toNatClampNeg (S.2.2 5))).toInt from (by have := gx_iC_f h3 (by omega); omega))
    · exact (show 0 ≤ (S.2.2 19).toInt from (by have := gx_iC_f h3 (by omega); omega))
    · exact (show (S.2.2 19).toInt ≤ (S.2.2 2).toInt from (by have := gx_iC_f h3 (by omega); omega))
    · exact (show 0 ≤ (S.2.2 20).toInt from (by have := gx_iC_f h3 (by omega); omega))
    · exact (show (S.2.2 20).toInt ≤ 6 from (by have := gx_iC_f h3 (by omega); omega))
    · exact (show 0 ≤ (S.2.2 21).toInt from (by have := gx_iC_f h3 (by omega); omega))
    · exact (show 0 ≤ (S.2.2 22).toInt from (by have := gx_iC_f h3 (by omega); omega))
    · exact (show ((((S.1 9 (Int32.toNatClampNeg (S.2.2 5))).toInt + (S.2.2 21).toInt) + (S.2.2 22).toInt) + (2 * (S.2.2 20).toInt)) ≤ (2 * (S.2.2 19).toInt) from (by have := gx_iC_f h3 (by omega); omega))
    · exact (show ((S.2.2 23).toInt = 0) ∨ ((((((S.1 9 (Int32.toNatClampNeg (S.2.2 5))).toInt + (S.2.2 21).toInt) + (S.2.2 22).toInt) + (2 * (S.2.2 20).toInt)) + 1) ≤ (2 * (S.2.2 19).toInt)) from (by have := gx_iC_f h3 (by omega); omega))
    · exact (show (((S.2.2 21).toInt + (S.2.2 22).toInt) + (S.2.2 20).toInt) ≤ (S.2.2 19).toInt from (by have := gx_iC_f h3 (by omega); omega))
    · exact (show (S.2.2 23).toInt = 0 from (by have := gx_iC_f h3 (by omega); omega))
    · exact (show 0 ≤ x.toInt from (by have := gx_iC_f h3 (by omega); omega))
    · exact (show (x.toInt = 0) ∨ ((S.2.2 19).toInt < (S.2.2 2).toInt) from (by have := gx_iC_f h3 (by omega); omega))
    · exact (show 0 ≤ (S.1 6 (Int32.toNatClampNeg (S.2.2 5))).toInt from (by have := gx_iC_f h3 (by omega); omega))
    · exact (show (S.1 6 (Int32.toNatClampNeg (S.2.2 5))).toInt ≤ 7 from (by have := gx_iC_f h3 (by omega); omega))
    · exact (show (S.1 9 (Int32.toNatClampNeg (S.2.2 5))).toInt = (S.1 9 (Int32.toNatClampNeg (S.2.2 5))).toInt from (by have := gx_iC_f h3 (by omega); omega))
    · exact (show (S.2.2 19).toInt = (S.2.2 19).toInt from (by have := gx_iC_f h3 (by omega); omega))
    · exact (show (S.2.2 20).toInt = (S.2.2 20).toInt from (by have := gx_iC_f h3 (by omega); omega))
    · exact (show (S.2.2 21).toInt = (S.2.2 21).toInt from (by have := gx_iC_f h3 (by omega); omega))
    · exact (show (S.2.2 22).toInt = (S.2.2 22).toInt from (by have := gx_iC_f h3 (by omega); omega))
    · exact (show (S.2.2 23).toInt = (S.2.2 23).toInt from (by have := gx_iC_f h3 (by omega); omega))
    · exact (show 0 ≤ (S.2.2 20).toInt from (by have := gx_iC_f h3 (by omega); omega))
    · exact (show (S.2.2 19).toInt < (S.2.2 2).toInt from (by have := gx_iC_f h3 (by omega); omega))
    · exact h3
  · skip
    have h19_ := gx_eqnr (k := 38) (gx_lit 38 (by decide)) h19
    refine gx_if (Q := gx_q_MD_readSign x S) (fun h20 => ?_) (fun h20 => ?_)
    · skip
      have h20_ := gx_eqr (k := 33) (gx_lit 33 (by decide)) h20
      refine gx_s_MD_readSign_j39 _ _ _ ?_ ?_ ?_ ?_ ?_ ?_ ?_ ?_ ?_ ?_ ?_ ?_ ?_ ?_ ?_ ?_ ?_ ?_ ?_ ?_ ?_ ?_ ?_ ?_ ?_ ?_ ?_
      · exact h1
      · exact h2
      · exact h3
      · exact (show 0 ≤ (S.1 9 (Int32.toNatClampNeg (S.2.2 5))).toInt from (by have := gx_iC_f h3 (by omega); omega))
      · exact (show 0 ≤ (S.2.2 19).toInt from (by have := gx_iC_f h3 (by omega); omega))
      · exact (show (S.2.2 19).toInt ≤ (S.2.2 2).toInt from (by have := gx_iC_f h3 (by omega); omega))
      · exact (show 0 ≤ (S.2.2 20).toInt from (by have := gx_iC_f h3 (by omega); omega))
      · exact (show (S.2.2 20).toInt ≤ 6 from (by have := gx_iC_f h3 (by omega); omega))
      · exact (show 0 ≤ (S.2.2 21).toInt from (by have := gx_iC_f h3 (by omega); omega))
      · exact (show 0 ≤ (S.2.2 22).toInt from (by have := gx_iC_f h3 (by omega); omega))
      · exact (show ((((S.1 9 (Int32.toNatClampNeg (S.2.2 5))).toInt + (S.2.2 21).toInt) + (S.2.2 22).toInt) + (2 * (S.2.2 20).toInt)) ≤ (2 * (S.2.2 19).toInt) from (by have := gx_iC_f h3 (by omega); omega))
      · exact (show ((S.2.2 23).toInt = 0) ∨ ((((((S.1 9 (Int32.toNatClampNeg (S.2.2 5))).toInt + (S.2.2 21).toInt) + (S.2.2 22).toInt) + (2 * (S.2.2 20).toInt)) + 1) ≤ (2 * (S.2.2 19).toInt)) from (by have := gx_iC_f h3 (by omega); omega))
      · exact (show (((S.2.2 21).toInt + (S.2.2 22).toInt) + (S.2.2 20).toInt) ≤ (S.2.2 19).toInt from (by have := gx_iC_f h3 (by omega); omega))
      · exact (show (S.2.2 23).toInt = 0 from (by have := gx_iC_f h3 (by omega); omega))
      · exact (show 0 ≤ x.toInt from (by have := gx_iC_f h3 (by omega); omega))
      · exact (show (x.toInt = 0) ∨ ((S.2.2 19).toInt < (S.2.2 2).toInt) from (by have := gx_iC_f h3 (by omega); omega))
      · exact (show 0 ≤ (S.1 6 (Int32.toNatClampNeg (S.2.2 5))).toInt from (by have := gx_iC_f h3 (by omega); omega))
      · exact (show (S.1 6 (Int32.toNatClampNeg (S.2.2 5))).toInt ≤ 7 from (by have := gx_iC_f h3 (by omega); omega))
      · exact (show (S.1 9 (Int32.toNatClampNeg (S.2.2 5))).toInt = (S.1 9 (Int32.toNatClampNeg (S.2.2 5))).toInt from (by have := gx_iC_f h3 (by omega); omega))
      · exact (show (S.2.2 19).toInt = (S.2.2 19).toInt from (by have := gx_iC_f h3 (by omega); omega))
      · exact (show (S.2.2 20).toInt = (S.2.2 20).toInt from (by have := gx_iC_f h3 (by omega); omega))
      · exact (show (S.2.2 21).toInt = (S.2.2 21).toInt from (by have := gx_iC_f h3 (by omega); omega))
      · exact (show (S.2.2 22).toInt = (S.2.2 22).toInt from (by have := gx_iC_f h3 (by omega); omega))
      · exact (show (S.2.2 23).toInt = (S.2.2 23).toInt from (by have := gx_iC_f h3 (by omega); omega))
      · exact (show 0 ≤ (S.2.2 20).toInt from (by have := gx_iC_f h3 (by omega); omega))
      · exact (show (S.2.2 19).toInt < (S.2.2 2).toInt from (by have := gx_iC_f h3 (by omega); omega))
      · exact h3
    · skip
      have h20_ := gx_eqnr (k := 33) (gx_lit 33 (by decide)) h20
      refine gx_if (Q := gx_q_MD_readSign x S) (fun h21 => ?_) (fun h21 => ?_)
      · skip
        have h21_ := gx_eqr (k := 47) (gx_lit 47 (by decide)) h21
        refine gx_s_MD_readSign_j39 _ _ _ ?_ ?_ ?_ ?_ ?_ ?_ ?_ ?_ ?_ ?_ ?_ ?_ ?_ ?_ ?_ ?_ ?_ ?_ ?_ ?_ ?_ ?_ ?_ ?_ ?_ ?_ ?_
        · exact h1
        · exact h2
        · exact h3
        · exact (show 0 ≤ (S.1 9 (Int32.toNatClampNeg (S.2.2 5))).toInt from (by have := gx_iC_f h3 (by omega); omega))
        · exact (show 0 ≤ (S.2.2 19).toInt from (by have := gx_iC_f h3 (by omega); omega))
        · exact (show (S.2.2 19).toInt ≤ (S.2.2 2).toInt from (by have := gx_iC_f h3 (by omega); omega))
        · exact (show 0 ≤ (S.2.2 20).toInt from (by have := gx_iC_f h3 (by omega); omega))
        · exact (show (S.2.2 20).toInt ≤ 6 from (by have := gx_iC_f h3 (by omega); omega))
        · exact (show 0 ≤ (S.2.2 21).toInt from (by have := gx_iC_f h3 (by omega); omega))
        · exact (show 0 ≤ (S.2.2 22).toInt from (by have := gx_iC_f h3 (by omega); omega))
        · exact (show ((((S.1 9 (Int32.toNatClampNeg (S.2.2 5))).toInt + (S.2.2 21).toInt) + (S.2.2 22).toInt) + (2 * (S.2.2 20).toInt)) ≤ (2 * (S.2.2 19).toInt) from (by have := gx_iC_f h3 (by omega); omega))
        · exact (show ((S.2.2 23).toInt = 0) ∨ ((((((S.1 9 (Int32.toNatClampNeg (S.2.2 5))).toInt + (S.2.2 21).toInt) + (S.2.2 22).toInt) + (2 * (S.2.2 20).toInt)) + 1) ≤ (2 * (S.2.2 19).toInt)) from (by have := gx_iC_f h3 (by omega); omega))
        · exact (show (((S.2.2 21).toInt + (S.2.2 22).toInt) + (S.2.2 20).toInt) ≤ (S.2.2 19).toInt from (by have := gx_iC_f h3 (by omega); omega))
        · exact (show (S.2.2 23).toInt = 0 from (by have := gx_iC_f h3 (by omega); omega))
        · exact (show 0 ≤ x.toInt from (by have := gx_iC_f h3 (by omega); omega))
        · exact (show (x.toInt = 0) ∨ ((S.2.2 19).toInt < (S.2.2 2).toInt) from (by have := gx_iC_f h3 (by omega); omega))
        · exact (show 0 ≤ (S.1 6 (Int32.toNatClampNeg (S.2.2 5))).toInt from (by have := gx_iC_f h3 (by omega); omega))
        · exact (show (S.1 6 (Int32.toNatClampNeg (S.2.2 5))).toInt ≤ 7 from (by have := gx_iC_f h3 (by omega); omega))
        · exact (show (S.1 9 (Int32.toNatClampNeg (S.2.2 5))).toInt = (S.1 9 (Int32.toNatClampNeg (S.2.2 5))).toInt from (by have := gx_iC_f h3 (by omega); omega))
        · exact (show (S.2.2 19).toInt = (S.2.2 19).toInt from (by have := gx_iC_f h3 (by omega); omega))
        · exact (show (S.2.2 20).toInt = (S.2.2 20).toInt from (by have := gx_iC_f h3 (by omega); omega))
        · exact (show (S.2.2 21).toInt = (S.2.2 21).toInt from (by have := gx_iC_f h3 (by omega); omega))
        · exact (show (S.2.2 22).toInt = (S.2.2 22).toInt from (by have := gx_iC_f h3 (by omega); omega))
        · exact (show (S.2.2 23).toInt = (S.2.2 23).toInt from (by have := gx_iC_f h3 (by omega); omega))
        · exact (show 0 ≤ (S.2.2 20).toInt from (by have := gx_iC_f h3 (by omega); omega))
        · exact (show (S.2.2 19).toInt < (S.2.2 2).toInt from (by have := gx_iC_f h3 (by omega); omega))
        · exact h3
      · skip
        have h21_ := gx_eqnr (k := 47) (gx_lit 47 (by decide)) h21
        refine gx_in (Q := gx_q_MD_readSign x S) (vp_in_iff.mpr (by have := gx_iC_f h3 (by omega); omega)) ?_
        refine gx_ca (Q := gx_q_MD_readSign x S) (gx_q_MD_closing _) (gx_s_MD_closing _ ) ?_
        intro r28 u_h22 h22
        have h22_0 : (41 ≤ r28.toInt) ∧ (r28.toInt ≤ 126) := h22
        clear h22
        refine gx_if (Q := gx_q_MD_readSign x S) (fun h23 => ?_) (fun h23 => ?_)
        · skip
          have h23_ := gx_eq h23
          refine gx_s_MD_readSign_j39 _ _ _ ?_ ?_ ?_ ?_ ?_ ?_ ?_ ?_ ?_ ?_ ?_ ?_ ?_ ?_ ?_ ?_ ?_ ?_ ?_ ?_ ?_ ?_ ?_ ?_ ?_ ?_ ?_
          · exact h1
          · exact h2
          · exact h3
          · exact (show 0 ≤ (S.1 9 (Int32.toNatClampNeg (S.2.2 5))).toInt from (by have := gx_iC_f h3 (by omega); omega))
          · exact (show 0 ≤ (S.2.2 19).toInt from (by have := gx_iC_f h3 (by omega); omega))
          · exact (show (S.2.2 19).toInt ≤ (S.2.2 2).toInt from (by have := gx_iC_f h3 (by omega); omega))
          · exact (show 0 ≤ (S.2.2 20).toInt from (by have := gx_iC_f h3 (by omega); omega))
          · exact (show (S.2.2 20).toInt ≤ 6 from (by have := gx_iC_f h3 (by omega); omega))
          · exact (show 0 ≤ (S.2.2 21).toInt from (by have := gx_iC_f h3 (by omega); omega))
          · exact (show 0 ≤ (S.2.2 22).toInt from (by have := gx_iC_f h3 (by omega); omega))
          · exact (show ((((S.1 9 (Int32.toNatClampNeg (S.2.2 5))).toInt + (S.2.2 21).toInt) + (S.2.2 22).toInt) + (2 * (S.2.2 20).toInt)) ≤ (2 * (S.2.2 19).toInt) from (by have := gx_iC_f h3 (by omega); omega))
          · exact (show ((S.2.2 23).toInt = 0) ∨ ((((((S.1 9 (Int32.toNatClampNeg (S.2.2 5))).toInt + (S.2.2 21).toInt) + (S.2.2 22).toInt) + (2 * (S.2.2 20).toInt)) + 1) ≤ (2 * (S.2.2 19).toInt)) from (by have := gx_iC_f h3 (by omega); omega))
          · exact (show (((S.2.2 21).toInt + (S.2.2 22).toInt) + (S.2.2 20).toInt) ≤ (S.2.2 19).toInt from (by have := gx_iC_f h3 (by omega); omega))
          · exact (show (S.2.2 23).toInt = 0 from (by have := gx_iC_f h3 (by omega); omega))
          · exact (show 0 ≤ x.toInt from (by have := gx_iC_f h3 (by omega); omega))
          · exact (show (x.toInt = 0) ∨ ((S.2.2 19).toInt < (S.2.2 2).toInt) from (by have := gx_iC_f h3 (by omega); omega))
          · exact (show 0 ≤ (S.1 6 (Int32.toNatClampNeg (S.2.2 5))).toInt from (by have := gx_iC_f h3 (by omega); omega))
          · exact (show (S.1 6 (Int32.toNatClampNeg (S.2.2 5))).toInt ≤ 7 from (by have := gx_iC_f h3 (by omega); omega))
          · exact (show (S.1 9 (Int32.toNatClampNeg (S.2.2 5))).toInt = (S.1 9 (Int32.toNatClampNeg (S.2.2 5))).toInt from (by have := gx_iC_f h3 (by omega); omega))
          · exact (show (S.2.2 19).toInt = (S.2.2 19).toInt from (by have := gx_iC_f h3 (by omega); omega))
          · exact (show (S.2.2 20).toInt = (S.2.2 20).toInt from (by have := gx_iC_f h3 (by omega); omega))
          · exact (show (S.2.2 21).toInt = (S.2.2 21).toInt from (by have := gx_iC_f h3 (by omega); omega))
          · exact (show (S.2.2 22).toInt = (S.2.2 22).toInt from (by have := gx_iC_f h3 (by omega); omega))
          · exact (show (S.2.2 23).toInt = (S.2.2 23).toInt from (by have := gx_iC_f h3 (by omega); omega))
          · exact (show 0 ≤ (S.2.2 20).toInt from (by have := gx_iC_f h3 (by omega); omega))
          · exact (show (S.2.2 19).toInt < (S.2.2 2).toInt from (by have := gx_iC_f h3 (by omega); omega))
          · exact h3
        · skip
          have h23_ := gx_eqn h23
          refine gx_ca (Q := gx_q_MD_readSign x S) (gx_q_MD_refuse _) (gx_s_MD_refuse _ h1 h2) ?_
          intro r_h24 u35 h24
          have h24_0 : (u35.2.2 24).toInt = 1 := h24
          clear h24
          exact ⟨trivial, ⟨h3, (show (0 ≤ (S.1 9 (Int32.toNatClampNeg (S.2.2 5))).toInt) ∧ ((0 ≤ (S.2.2 19).toInt) ∧ (((S.2.2 19).toInt ≤ (S.2.2 2).toInt) ∧ ((0 ≤ (S.2.2 20).toInt) ∧ (((S.2.2 20).toInt ≤ 6) ∧ ((0 ≤ (S.2.2 21).toInt) ∧ ((0 ≤ (S.2.2 22).toInt) ∧ ((((((S.1 9 (Int32.toNatClampNeg (S.2.2 5))).toInt + (S.2.2 21).toInt) + (S.2.2 22).toInt) + (2 * (S.2.2 20).toInt)) ≤ (2 * (S.2.2 19).toInt)) ∧ ((((S.2.2 23).toInt = 0) ∨ ((((((S.1 9 (Int32.toNatClampNeg (S.2.2 5))).toInt + (S.2.2 21).toInt) + (S.2.2 22).toInt) + (2 * (S.2.2 20).toInt)) + 1) ≤ (2 * (S.2.2 19).toInt))) ∧ (((((S.2.2 21).toInt + (S.2.2 22).toInt) + (S.2.2 20).toInt) ≤ (S.2.2 19).toInt) ∧ (((S.2.2 19).toInt ≤ (S.2.2 19).toInt) ∧ (((S.2.2 19).toInt < (S.2.2 19).toInt) ∨ ((u35.2.2 24).toInt ≠ 0)))))))))))) from (by have := gx_iC_f h3 (by omega); omega))⟩⟩
abbrev gx_q_MD_readPart (S : gm_S) (z : Int32 × (gm_S)) : Prop := (gm_iC (z.2.2.2 20) (z.2.2.2 21) (z.2.2.2 22) (z.2.1 26) (z.2.1 28) (z.2.1 29)) ∧ ((0 ≤ (z.2.1 9 (Int32.toNatClampNeg (S.2.2 5))).toInt) ∧ ((0 ≤ (z.2.2.2 19).toInt) ∧ (((z.2.2.2 19).toInt ≤ (S.2.2 2).toInt) ∧ ((0 ≤ (z.2.2.2 20).toInt) ∧ (((z.2.2.2 20).toInt ≤ 6) ∧ ((0 ≤ (z.2.2.2 21).toInt) ∧ ((0 ≤ (z.2.2.2 22).toInt) ∧ ((((((z.2.1 9 (Int32.toNatClampNeg (S.2.2 5))).toInt + (z.2.2.2 21).toInt) + (z.2.2.2 22).toInt) + (2 * (z.2.2.2 20).toInt)) ≤ (2 * (z.2.2.2 19).toInt)) ∧ ((((z.2.2.2 23).toInt = 0) ∨ ((((((z.2.1 9 (Int32.toNatClampNeg (S.2.2 5))).toInt + (z.2.2.2 21).toInt) + (z.2.2.2 22).toInt) + (2 * (z.2.2.2 20).toInt)) + 1) ≤ (2 * (z.2.2.2 19).toInt))) ∧ (((((z.2.2.2 21).toInt + (z.2.2.2 22).toInt) + (z.2.2.2 20).toInt) ≤ (z.2.2.2 19).toInt) ∧ (((S.2.2 19).toInt ≤ (z.2.2.2 19).toInt) ∧ ((((S.2.2 19).toInt < (z.2.2.2 19).toInt) ∨ ((z.2.2.2 24).toInt ≠ 0))))))))))))))
set_option maxRecDepth 100000 in
theorem gx_s_MD_readPart_j206 (S : gm_S) (r1 : Int32) (u1 : gm_S) (S_j41 : gm_S) (S_j206 : gm_S) (h1 : gm_iW 50 (S.2.2 2) (S.1 3)) (h2 : gm_iN 1 (S.2.2 5)) (h3 : gm_iC (S.2.2 20) (S.2.2 21) (S.2.2 22) (S.1 26) (S.1 28) (S.1 29)) (h4 : 0 ≤ (S.1 9 (Int32.toNatClampNeg (S.2.2 5))).toInt) (h5 : 0 ≤ (S.2.2 19).toInt) (h6 : (S.2.2 19).toInt ≤ (S.2.2 2).toInt) (h7 : 0 ≤ (S.2.2 20).toInt) (h8 : (S.2.2 20).toInt ≤ 6) (h9 : 0 ≤ (S.2.2 21).toInt) (h10 : 0 ≤ (S.2.2 22).toInt) (h11 : ((((S.1 9 (Int32.toNatClampNeg (S.2.2 5))).toInt + (S.2.2 21).toInt) + (S.2.2 22).toInt) + (2 * (S.2.2 20).toInt)) ≤ (2 * (S.2.2 19).toInt)) (h12 : ((S.2.2 23).toInt = 0) ∨ ((((((S.1 9 (Int32.toNatClampNeg (S.2.2 5))).toInt + (S.2.2 21).toInt) + (S.2.2 22).toInt) + (2 * (S.2.2 20).toInt)) + 1) ≤ (2 * (S.2.2 19).toInt))) (h13 : (((S.2.2 21).toInt + (S.2.2 22).toInt) + (S.2.2 20).toInt) ≤ (S.2.2 19).toInt) (h14 : 0 ≤ (S.1 6 (Int32.toNatClampNeg (S.2.2 5))).toInt) (h15 : (S.1 6 (Int32.toNatClampNeg (S.2.2 5))).toInt ≤ 7) (h16 : (S_j206.1 9 (Int32.toNatClampNeg (S.2.2 5))).toInt = (S.1 9 (Int32.toNatClampNeg (S.2.2 5))).toInt) (h17 : (S_j206.2.2 19).toInt = (S.2.2 19).toInt) (h18 : (S_j206.2.2 20).toInt = (S.2.2 20).toInt) (h19 : (S_j206.2.2 21).toInt = (S.2.2 21).toInt) (h20 : (S_j206.2.2 22).toInt = (S.2.2 22).toInt) (h21 : (S_j206.2.2 23).toInt = (S.2.2 23).toInt) (h22 : 0 ≤ (S_j206.2.2 20).toInt) (h23 : 0 ≤ r1.toInt) (h24 : (r1.toInt = 0) ∨ ((S.2.2 19).toInt < (S.2.2 2).toInt)) (h25 : gm_iC (S_j206.2.2 20) (S_j206.2.2 21) (S_j206.2.2 22) (S_j206.1 26) (S_j206.1 28) (S_j206.1 29)) : gm_p_MD_readPart_j206 S r1 u1 S_j41 S_j206 ∧ gx_q_MD_readPart S (gm_f_MD_readPart_j206 S r1 u1 S_j41 S_j206) := by
  unfold gm_p_MD_readPart_j206 gm_f_MD_readPart_j206
  refine gx_if (Q := gx_q_MD_readPart S) (fun h26 => ?_) (fun h26 => ?_)
  · skip
    have h26_ := gx_eqr (k := 0) (by decide) h26
    refine gx_ca (Q := gx_q_MD_readPart S) (gx_q_MD_readSign _ _) (gx_s_MD_readSign _ _ h1 h2 h25 (show 0 ≤ (S_j206.1 9 (Int32.toNatClampNeg (S.2.2 5))).toInt from (by have := gx_iC_f h3 (by omega); have := gx_iC_f h25 (by omega); omega)) (show 0 ≤ (S_j206.2.2 19).toInt from (by have := gx_iC_f h3 (by omega); have := gx_iC_f h25 (by omega); omega)) (show (S_j206.2.2 19).toInt ≤ (S.2.2 2).toInt from (by have := gx_iC_f h3 (by omega); have := gx_iC_f h25 (by omega); omega)) h22 (show (S_j206.2.2 20).toInt ≤ 6 from (by have := gx_iC_f h3 (by omega); have := gx_iC_f h25 (by omega); omega)) (show 0 ≤ (S_j206.2.2 21).toInt from (by have := gx_iC_f h3 (by omega); have := gx_iC_f h25 (by omega); omega)) (show 0 ≤ (S_j206.2.2 22).toInt from (by have := gx_iC_f h3 (by omega); have := gx_iC_f h25 (by omega); omega)) (show ((((S_j206.1 9 (Int32.toNatClampNeg (S.2.2 5))).toInt + (S_j206.2.2 21).toInt) + (S_j206.2.2 22).toInt) + (2 * (S_j206.2.2 20).toInt)) ≤ (2 * (S_j206.2.2 19).toInt) from (by have := gx_iC_f h3 (by omega); have := gx_iC_f h25 (by omega); omega)) (show ((S_j206.2.2 23).toInt = 0) ∨ ((((((S_j206.1 9 (Int32.toNatClampNeg (S.2.2 5))).toInt + (S_j206.2.2 21).toInt) + (S_j206.2.2 22).toInt) + (2 * (S_j206.2.2 20).toInt)) + 1) ≤ (2 * (S_j206.2.2 19).toInt)) from (by have := gx_iC_f h3 (by omega); have := gx_iC_f h25 (by omega); omega)) (show (((S_j206.2.2 21).toInt + (S_j206.2.2 22).toInt) + (S_j206.2.2 20).toInt) ≤ (S_j206.2.2 19).toInt from (by have := gx_iC_f h3 (by omega); have := gx_iC_f h25 (by omega); omega)) (show (S_j206.2.2 23).toInt = 0 from (by have := gx_iC_f h3 (by omega); have := gx_iC_f h25 (by omega); omega)) h23 (show (r1.toInt = 0) ∨ ((S_j206.2.2 19).toInt < (S.2.2 2).toInt) from (by have := gx_iC_f h3 (by omega); have := gx_iC_f h25 (by omega); omega)) h14 h15) ?_
    intro r_h27 u215 h27
    have h27_0 : gm_iC (u215.2.2 20) (u215.2.2 21) (u215.2.2 22) (S_j206.1 26) (S_j206.1 28) (S_j206.1 29) := h27.1
    have h27_1 : (0 ≤ (u215.1 9 (Int32.toNatClampNeg (S.2.2 5))).toInt) ∧ ((0 ≤ (u215.2.2 19).toInt) ∧ (((u215.2.2 19).toInt ≤ (S.2.2 2).toInt) ∧ ((0 ≤ (u215.2.2 20).toInt) ∧ (((u215.2.2 20).toInt ≤ 6) ∧ ((0 ≤ (u215.2.2 21).toInt) ∧ ((0 ≤ (u215.2.2 22).toInt) ∧ ((((((u215.1 9 (Int32.toNatClampNeg (S.2.2 5))).toInt + (u215.2.2 21).toInt) + (u215.2.2 22).toInt) + (2 * (u215.2.2 20).toInt)) ≤ (2 * (u215.2.2 19).toInt)) ∧ ((((u215.2.2 23).toInt = 0) ∨ ((((((u215.1 9 (Int32.toNatClampNeg (S.2.2 5))).toInt + (u215.2.2 21).toInt) + (u215.2.2 22).toInt) + (2 * (u215.2.2 20).toInt)) + 1) ≤ (2 * (u215.2.2 19).toInt))) ∧ (((((u215.2.2 21).toInt + (u215.2.2 22).toInt) + (u215.2.2 20).toInt) ≤ (u215.2.2 19).toInt) ∧ (((S_j206.2.2 19).toInt ≤ (u215.2.2 19).toInt) ∧ (((S_j206.2.2 19).toInt < (u215.2.2 19).toInt) ∨ ((u215.2.2 24).toInt ≠ 0)))))))))))) := h27.2
    clear h27
    exact ⟨trivial, ⟨h27_0, (show (0 ≤ (u215.1 9 (Int32.toNatClampNeg (S.2.2 5))).toInt) ∧ ((0 ≤ (u215.2.2 19).toInt) ∧ (((u215.2.2 19).toInt ≤ (S.2.2 2).toInt) ∧ ((0 ≤ (u215.2.2 20).toInt) ∧ (((u215.2.2 20).toInt ≤ 6) ∧ ((0 ≤ (u215.2.2 21).toInt) ∧ ((0 ≤ (u215.2.2 22).toInt) ∧ ((((((u215.1 9 (Int32.toNatClampNeg (S.2.2 5))).toInt + (u215.2.2 21).toInt) + (u215.2.2 22).toInt) + (2 * (u215.2.2 20).toInt)) ≤ (2 * (u215.2.2 19).toInt)) ∧ ((((u215.2.2 23).toInt = 0) ∨ ((((((u215.1 9 (Int32.toNatClampNeg (S.2.2 5))).toInt + (u215.2.2 21).toInt) + (u215.2.2 22).toInt) + (2 * (u215.2.2 20).toInt)) + 1) ≤ (2 * (u215.2.2 19).toInt))) ∧ (((((u215.2.2 21).toInt + (u215.2.2 22).toInt) + (u215.2.2 20).toInt) ≤ (u215.2.2 19).toInt) ∧ (((S.2.2 19).toInt ≤ (u215.2.2 19).toInt) ∧ (((S.2.2 19).toInt < (u215.2.2 19).toInt) ∨ ((u215.2.2 24).toInt ≠ 0)))))))))))) from (by have := gx_iC_f h3 (by omega); have := gx_iC_f h25 (by omega); have := gx_iC_f h27_0 (by omega); omega))⟩⟩
  · skip
    have h26_ := gx_eqnr (k := 0) (by decide) h26
    refine gx_ca (Q := gx_q_MD_readPart S) (gx_q_MD_refuse _) (gx_s_MD_refuse _ h1 h2) ?_
    intro r_h27 u222 h27
    have h27_0 : (u222.2.2 24).toInt = 1 := h27
    clear h27
    exact ⟨trivial, ⟨h25, (show (0 ≤ (S_j206.1 9 (Int32.toNatClampNeg (S.2.2 5))).toInt) ∧ ((0 ≤ (S_j206.2.2 19).toInt) ∧ (((S_j206.2.2 19).toInt ≤ (S.2.2 2).toInt) ∧ ((0 ≤ (S_j206.2.2 20).toInt) ∧ (((S_j206.2.2 20).toInt ≤ 6) ∧ ((0 ≤ (S_j206.2.2 21).toInt) ∧ ((0 ≤ (S_j206.2.2 22).toInt) ∧ ((((((S_j206.1 9 (Int32.toNatClampNeg (S.2.2 5))).toInt + (S_j206.2.2 21).toInt) + (S_j206.2.2 22).toInt) + (2 * (S_j206.2.2 20).toInt)) ≤ (2 * (S_j206.2.2 19).toInt)) ∧ ((((S_j206.2.2 23).toInt = 0) ∨ ((((((S_j206.1 9 (Int32.toNatClampNeg (S.2.2 5))).toInt + (S_j206.2.2 21).toInt) + (S_j206.2.2 22).toInt) + (2 * (S_j206.2.2 20).toInt)) + 1) ≤ (2 * (S_j206.2.2 19).toInt))) ∧ (((((S_j206.2.2 21).toInt + (S_j206.2.2 22).toInt) + (S_j206.2.2 20).toInt) ≤ (S_j206.2.2 19).toInt) ∧ (((S.2.2 19).toInt ≤ (S_j206.2.2 19).toInt) ∧ (((S.2.2 19).toInt < (S_j206.2.2 19).toInt) ∨ ((u222.2.2 24).toInt ≠ 0)))))))))))) from (by have := gx_iC_f h3 (by omega); have := gx_iC_f h25 (by omega); omega))⟩⟩
set_option maxRecDepth 100000 in
theorem gx_s_MD_readPart_j120 (S : gm_S) (r1 : Int32) (u1 : gm_S) (S_j41 : gm_S) (S_j120 : gm_S) (h1 : gm_iW 50 (S.2.2 2) (S.1 3)) (h2 : gm_iN 1 (S.2.2 5)) (h3 : gm_iC (S.2.2 20) (S.2.2 21) (S.2.2 22) (S.1 26) (S.1 28) (S.1 29)) (h4 : 0 ≤ (S.1 9 (Int32.toNatClampNeg (S.2.2 5))).toInt) (h5 : 0 ≤ (S.2.2 19).toInt) (h6 : (S.2.2 19).toInt ≤ (S.2.2 2).toInt) (h7 : 0 ≤ (S.2.2 20).toInt) (h8 : (S.2.2 20).toInt ≤ 6) (h9 : 0 ≤ (S.2.2 21).toInt) (h10 : 0 ≤ (S.2.2 22).toInt) (h11 : ((((S.1 9 (Int32.toNatClampNeg (S.2.2 5))).toInt + (S.2.2 21).toInt) + (S.2.2 22).toInt) + (2 * (S.2.2 20).toInt)) ≤ (2 * (S.2.2 19).toInt)) (h12 : ((S.2.2 23).toInt = 0) ∨ ((((((S.1 9 (Int32.toNatClampNeg (S.2.2 5))).toInt + (S.2.2 21).toInt) + (S.2.2 22).toInt) + (2 * (S.2.2 20).toInt)) + 1) ≤ (2 * (S.2.2 19).toInt))) (h13 : (((S.2.2 21).toInt + (S.2.2 22).toInt) + (S.2.2 20).toInt) ≤ (S.2.2 19).toInt) (h14 : 0 ≤ (S.1 6 (Int32.toNatClampNeg (S.2.2 5))).toInt) (h15 : (S.1 6 (Int32.toNatClampNeg (S.2.2 5))).toInt ≤ 7) (h16 : (S_j120.1 9 (Int32.toNatClampNeg (S.2.2 5))).toInt = (S.1 9 (Int32.toNatClampNeg (S.2.2 5))).toInt) (h17 : (S_j120.2.2 19).toInt = (S.2.2 19).toInt) (h18 : (S_j120.2.2 20).toInt = (S.2.2 20).toInt) (h19 : (S_j120.2.2 21).toInt = (S.2.2 21).toInt) (h20 : (S_j120.2.2 22).toInt = (S.2.2 22).toInt) (h21 : (S_j120.2.2 23).toInt = (S.2.2 23).toInt) (h22 : 0 ≤ (S_j120.2.2 20).toInt) (h23 : 0 ≤ r1.toInt) (h24 : (r1.toInt = 0) ∨ ((S.2.2 19).toInt < (S.2.2 2).toInt)) (h25 : (S.2.2 19).toInt < (S.2.2 2).toInt) (h26 : gm_iC (S_j120.2.2 20) (S_j120.2.2 21) (S_j120.2.2 22) (S_j120.1 26) (S_j120.1 28) (S_j120.1 29)) : gm_p_MD_readPart_j120 S r1 u1 S_j41 S_j120 ∧ gx_q_MD_readPart S (gm_f_MD_readPart_j120 S r1 u1 S_j41 S_j120) := by
  unfold gm_p_MD_readPart_j120 gm_f_MD_readPart_j120
  refine gx_if (Q := gx_q_MD_readPart S) (fun h27 => ?_) (fun h27 => ?_)
  · skip
    have h27_ := gx_lel (k := 6) (gx_lit 6 (by decide)) h27
    refine gx_s_MD_readPart_j206 _ _ _ _ _ ?_ ?_ ?_ ?_ ?_ ?_ ?_ ?_ ?_ ?_ ?_ ?_ ?_ ?_ ?_ ?_ ?_ ?_ ?_ ?_ ?_ ?_ ?_ ?_ ?_
    · exact h1
    · exact h2
    · exact h3
    · exact (show 0 ≤ (S.1 9 (Int32.toNatClampNeg (S.2.2 5))).toInt from (by have := gx_iC_f h3 (by omega); have := gx_iC_f h26 (by omega); omega))
    · exact (show 0 ≤ (S.2.2 19).toInt from (by have := gx_iC_f h3 (by omega); have := gx_iC_f h26 (by omega); omega))
    · exact (show (S.2.2 19).toInt ≤ (S.2.2 2).toInt from (by have := gx_iC_f h3 (by omega); have := gx_iC_f h26 (by omega); omega))
    · exact (show 0 ≤ (S.2.2 20).toInt from (by have := gx_iC_f h3 (by omega); have := gx_iC_f h26 (by omega); omega))
    · exact (show (S.2.2 20).toInt ≤ 6 from (by have := gx_iC_f h3 (by omega); have := gx_iC_f h26 (by omega); omega))
    · exact (show 0 ≤ (S.2.2 21).toInt from (by have := gx_iC_f h3 (by omega); have := gx_iC_f h26 (by omega); omega))
    · exact (show 0 ≤ (S.2.2 22).toInt from (by have := gx_iC_f h3 (by omega); have := gx_iC_f h26 (by omega); omega))
    · exact (show ((((S.1 9 (Int32.toNatClampNeg (S.2.2 5))).toInt + (S.2.2 21).toInt) + (S.2.2 22).toInt) + (2 * (S.2.2 20).toInt)) ≤ (2 * (S.2.2 19).toInt) from (by have := gx_iC_f h3 (by omega); have := gx_iC_f h26 (by omega); omega))
    · exact (show ((S.2.2 23).toInt = 0) ∨ ((((((S.1 9 (Int32.toNatClampNeg (S.2.2 5))).toInt + (S.2.2 21).toInt) + (S.2.2 22).toInt) + (2 * (S.2.2 20).toInt)) + 1) ≤ (2 * (S.2.2 19).toInt)) from (by have := gx_iC_f h3 (by omega); have := gx_iC_f h26 (by omega); omega))
    · exact (show (((S.2.2 21).toInt + (S.2.2 22).toInt) + (S.2.2 20).toInt) ≤ (S.2.2 19).toInt from (by have := gx_iC_f h3 (by omega); have := gx_iC_f h26 (by omega); omega))
    · exact (show 0 ≤ (S.1 6 (Int32.toNatClampNeg (S.2.2 5))).toInt from (by have := gx_iC_f h3 (by omega); have := gx_iC_f h26 (by omega); omega))
    · exact (show (S.1 6 (Int32.toNatClampNeg (S.2.2 5))).toInt ≤ 7 from (by have := gx_iC_f h3 (by omega); have := gx_iC_f h26 (by omega); omega))
    · exact (show (S_j120.1 9 (Int32.toNatClampNeg (S.2.2 5))).toInt = (S.1 9 (Int32.toNatClampNeg (S.2.2 5))).toInt from (by have := gx_iC_f h3 (by omega); have := gx_iC_f h26 (by omega); omega))
    · exact (show (S_j120.2.2 19).toInt = (S.2.2 19).toInt from (by have := gx_iC_f h3 (by omega); have := gx_iC_f h26 (by omega); omega))
    · exact (show (S_j120.2.2 20).toInt = (S.2.2 20).toInt from (by have := gx_iC_f h3 (by omega); have := gx_iC_f h26 (by omega); omega))
    · exact (show (S_j120.2.2 21).toInt = (S.2.2 21).toInt from (by have := gx_iC_f h3 (by omega); have := gx_iC_f h26 (by omega); omega))
    · exact (show (S_j120.2.2 22).toInt = (S.2.2 22).toInt from (by have := gx_iC_f h3 (by omega); have := gx_iC_f h26 (by omega); omega))
    · exact (show (S_j120.2.2 23).toInt = (S.2.2 23).toInt from (by have := gx_iC_f h3 (by omega); have := gx_iC_f h26 (by omega); omega))
    · exact (show 0 ≤ (S_j120.2.2 20).toInt from (by have := gx_iC_f h3 (by omega); have := gx_iC_f h26 (by omega); omega))
    · exact (show 0 ≤ r1.toInt from (by have := gx_iC_f h3 (by omega); have := gx_iC_f h26 (by omega); omega))
    · exact (show (r1.toInt = 0) ∨ ((S.2.2 19).toInt < (S.2.2 2).toInt) from (by have := gx_iC_f h3 (by omega); have := gx_iC_f h26 (by omega); omega))
    · exact h26
  · skip
    have h27_ := gx_lenl (k := 6) (gx_lit 6 (by decide)) h27
    refine gx_in (Q := gx_q_MD_readPart S) (vp_in_iff.mpr (by have := gx_iC_f h3 (by omega); have := gx_iC_f h26 (by omega); have := gx_ak (S_j120.2.2 20) 1 (1) (by decide); omega)) ?_
    refine gx_in (Q := gx_q_MD_readPart S) (vp_in_iff.mpr (by have := gx_iC_f h3 (by omega); have := gx_iC_f h26 (by omega); have := gx_ak (S_j120.2.2 20) 1 (1) (by decide); omega)) ?_
    refine gx_in (Q := gx_q_MD_readPart S) (vp_in_iff.mpr (by have := gx_iC_f h3 (by omega); have := gx_iC_f h26 (by omega); have := gx_ak (S_j120.2.2 20) 1 (1) (by decide); omega)) ?_
    refine gx_in (Q := gx_q_MD_readPart S) (vp_in_iff.mpr (by have := gx_iC_f h3 (by omega); have := gx_iC_f h26 (by omega); have := gx_ak (S_j120.2.2 20) 1 (1) (by decide); omega)) ?_
    exact ⟨trivial, ⟨(gx_iC_u h26 (show 0 ≤ (S_j120.2.2 20).toInt from (by have := gx_iC_f h3 (by omega); have := gx_iC_f h26 (by omega); omega)) (show (S_j120.2.2 20).toInt ≤ 5 from (by have := gx_iC_f h3 (by omega); have := gx_iC_f h26 (by omega); omega))), (show (0 ≤ (S_j120.1 9 (Int32.toNatClampNeg (S.2.2 5))).toInt) ∧ ((0 ≤ ((S_j120.2.2 19) + 1).toInt) ∧ ((((S_j120.2.2 19) + 1).toInt ≤ (S.2.2 2).toInt) ∧ ((0 ≤ ((S_j120.2.2 20) + 1).toInt) ∧ ((((S_j120.2.2 20) + 1).toInt ≤ 6) ∧ ((0 ≤ (S_j120.2.2 21).toInt) ∧ ((0 ≤ (S_j120.2.2 22).toInt) ∧ ((((((S_j120.1 9 (Int32.toNatClampNeg (S.2.2 5))).toInt + (S_j120.2.2 21).toInt) + (S_j120.2.2 22).toInt) + (2 * ((S_j120.2.2 20) + 1).toInt)) ≤ (2 * ((S_j120.2.2 19) + 1).toInt)) ∧ ((((0 : Int32).toInt = 0) ∨ ((((((S_j120.1 9 (Int32.toNatClampNeg (S.2.2 5))).toInt + (S_j120.2.2 21).toInt) + (S_j120.2.2 22).toInt) + (2 * ((S_j120.2.2 20) + 1).toInt)) + 1) ≤ (2 * ((S_j120.2.2 19) + 1).toInt))) ∧ (((((S_j120.2.2 21).toInt + (S_j120.2.2 22).toInt) + ((S_j120.2.2 20) + 1).toInt) ≤ ((S_j120.2.2 19) + 1).toInt) ∧ (((S.2.2 19).toInt ≤ ((S_j120.2.2 19) + 1).toInt) ∧ (((S.2.2 19).toInt < ((S_j120.2.2 19) + 1).toInt) ∨ ((S_j120.2.2 24).toInt ≠ 0)))))))))))) from (by have := gx_iC_f h3 (by omega); have := gx_iC_f h26 (by omega); have := gx_ak (S_j120.2.2 19) 1 (1) (by decide); have := gx_ak (S_j120.2.2 20) 1 (1) (by decide); have : (0 : Int32).toInt = 0 := (by decide); omega))⟩⟩
set_option maxRecDepth 100000 in
theorem gx_s_MD_readPart_j41 (S : gm_S) (r1 : Int32) (u1 : gm_S) (S_j41 : gm_S) (h1 : gm_iW 50 (S.2.2 2) (S.1 3)) (h2 : gm_iN 1 (S.2.2 5)) (h3 : gm_iC (S.2.2 20) (S.2.2 21) (S.2.2 22) (S.1 26) (S.1 28) (S.1 29)) (h4 : 0 ≤ (S.1 9 (Int32.toNatClampNeg (S.2.2 5))).toInt) (h5 : 0 ≤ (S.2.2 19).toInt) (h6 : (S.2.2 19).toInt ≤ (S.2.2 2).toInt) (h7 : 0 ≤ (S.2.2 20).toInt) (h8 : (S.2.2 20).toInt ≤ 6) (h9 : 0 ≤ (S.2.2 21).toInt) (h10 : 0 ≤ (S.2.2 22).toInt) (h11 : ((((S.1 9 (Int32.toNatClampNeg (S.2.2 5))).toInt + (S.2.2 21).toInt) + (S.2.2 22).toInt) + (2 * (S.2.2 20).toInt)) ≤ (2 * (S.2.2 19).toInt)) (h12 : ((S.2.2 23).toInt = 0) ∨ ((((((S.1 9 (Int32.toNatClampNeg (S.2.2 5))).toInt + (S.2.2 21).toInt) + (S.2.2 22).toInt) + (2 * (S.2.2 20).toInt)) + 1) ≤ (2 * (S.2.2 19).toInt))) (h13 : (((S.2.2 21).toInt + (S.2.2 22).toInt) + (S.2.2 20).toInt) ≤ (S.2.2 19).toInt) (h14 : 0 ≤ (S.1 6 (Int32.toNatClampNeg (S.2.2 5))).toInt) (h15 : (S.1 6 (Int32.toNatClampNeg (S.2.2 5))).toInt ≤ 7) (h16 : (S_j41.1 9 (Int32.toNatClampNeg (S.2.2 5))).toInt = (S.1 9 (Int32.toNatClampNeg (S.2.2 5))).toInt) (h17 : (S_j41.2.2 19).toInt = (S.2.2 19).toInt) (h18 : (S_j41.2.2 20).toInt = (S.2.2 20).toInt) (h19 : (S_j41.2.2 21).toInt = (S.2.2 21).toInt) (h20 : (S_j41.2.2 22).toInt = (S.2.2 22).toInt) (h21 : (S_j41.2.2 23).toInt = (S.2.2 23).toInt) (h22 : 0 ≤ (S_j41.2.2 20).toInt) (h23 : 0 ≤ r1.toInt) (h24 : (r1.toInt = 0) ∨ ((S.2.2 19).toInt < (S.2.2 2).toInt)) (h25 : gm_iC (S_j41.2.2 20) (S_j41.2.2 21) (S_j41.2.2 22) (S_j41.1 26) (S_j41.1 28) (S_j41.1 29)) : gm_p_MD_readPart_j41 S r1 u1 S_j41 ∧ gx_q_MD_readPart S (gm_f_MD_readPart_j41 S r1 u1 S_j41) := by
  unfold gm_p_MD_readPart_j41 gm_f_MD_readPart_j41
  refine gx_if (Q := gx_q_MD_readPart S) (fun h26 => ?_) (fun h26 => ?_)
  · skip
    have h26_ := gx_eqr (k := 46) (gx_lit 46 (by decide)) h26
    refine gx_ca (Q := gx_q_MD_readPart S) (gx_q_MD_create _ _ _ _) (gx_s_MD_create _ _ _ _ h1 h2 (show 0 ≤ (S_j41.1 9 (Int32.toNatClampNeg (S.2.2 5))).toInt from (by have := gx_iC_f h3 (by omega); have := gx_iC_f h25 (by omega); omega)) (show (S_j41.1 9 (Int32.toNatClampNeg (S.2.2 5))).toInt ≤ 150 from (by have := gx_iC_f h3 (by omega); have := gx_iC_f h25 (by omega); omega))) ?_
    intro r61 u61 h27
    have h27_0 : ((u61.1 9 (Int32.toNatClampNeg (S.2.2 5))).toInt = ((S_j41.1 9 (Int32.toNatClampNeg (S.2.2 5))).toInt + 1)) ∧ (r61.toInt = ((160 * (S.2.2 5).toInt) + (S_j41.1 9 (Int32.toNatClampNeg (S.2.2 5))).toInt)) := h27
    clear h27
    refine gx_ca (Q := gx_q_MD_readPart S) (gx_q_MD_include _ _ _ _) (gx_s_MD_include _ _ _ _ h1 h2 (show 0 ≤ r61.toInt from (by have := gx_iC_f h3 (by omega); have := gx_iC_f h25 (by omega); omega)) (show r61.toInt ≤ 319 from (by have := gx_iC_f h3 (by omega); have := gx_iC_f h25 (by omega); omega)) (show 0 ≤ (32 : Int32).toInt from (by have := gx_iC_f h3 (by omega); have := gx_iC_f h25 (by omega); have : (32 : Int32).toInt = 32 := gx_lit 32 (by decide); omega)) (show (32 : Int32).toInt ≤ 126 from (by have := gx_iC_f h3 (by omega); have := gx_iC_f h25 (by omega); have : (32 : Int32).toInt = 32 := gx_lit 32 (by decide); omega)) (show 0 ≤ (126 : Int32).toInt from (by have := gx_iC_f h3 (by omega); have := gx_iC_f h25 (by omega); have : (126 : Int32).toInt = 126 := gx_lit 126 (by decide); omega)) (show (126 : Int32).toInt ≤ 126 from (by have := gx_iC_f h3 (by omega); have := gx_iC_f h25 (by omega); have : (126 : Int32).toInt = 126 := gx_lit 126 (by decide); omega))) ?_
    intro r_h28 u71 h28
    clear h28
    refine gx_ca (Q := gx_q_MD_readPart S) (gx_q_MD_primary _ _) (gx_s_MD_primary _ _ h1 h2 (show 0 ≤ (u61.1 9 (Int32.toNatClampNeg (S.2.2 5))).toInt from (by have := gx_iC_f h3 (by omega); have := gx_iC_f h25 (by omega); omega)) (show (u61.1 9 (Int32.toNatClampNeg (S.2.2 5))).toInt ≤ 145 from (by have := gx_iC_f h3 (by omega); have := gx_iC_f h25 (by omega); omega)) (show 0 ≤ ((S_j41.2.2 19) + 1).toInt from (by have := gx_iC_f h3 (by omega); have := gx_iC_f h25 (by omega); have := gx_ak (S_j41.2.2 19) 1 (1) (by decide); omega)) (show ((S_j41.2.2 19) + 1).toInt ≤ (S.2.2 2).toInt from (by have := gx_iC_f h3 (by omega); have := gx_iC_f h25 (by omega); have := gx_ak (S_j41.2.2 19) 1 (1) (by decide); omega)) (show 0 ≤ (S_j41.2.2 21).toInt from (by have := gx_iC_f h3 (by omega); have := gx_iC_f h25 (by omega); omega)) (show (S_j41.2.2 21).toInt ≤ 58 from (by have := gx_iC_f h3 (by omega); have := gx_iC_f h25 (by omega); omega))) ?_
    intro r_h29 u76 h29
    have h29_0 : ((u76.2.2 21).toInt = ((S_j41.2.2 21).toInt + 1)) ∧ (((u76.2.2 23).toInt = 0) ∧ ((((S_j41.2.2 19) + 1).toInt ≤ (u76.2.2 19).toInt) ∧ (((u76.2.2 19).toInt ≤ (((S_j41.2.2 19) + 1).toInt + 1)) ∧ (((u76.2.2 19).toInt ≤ (S.2.2 2).toInt) ∧ (((u61.1 9 (Int32.toNatClampNeg (S.2.2 5))).toInt ≤ (u76.1 9 (Int32.toNatClampNeg (S.2.2 5))).toInt) ∧ (((u76.1 9 (Int32.toNatClampNeg (S.2.2 5))).toInt ≤ ((u61.1 9 (Int32.toNatClampNeg (S.2.2 5))).toInt + (2 * ((u76.2.2 19).toInt - ((S_j41.2.2 19) + 1).toInt)))) ∨ (((S_j41.2.2 23).toInt ≠ 0) ∧ ((u76.1 9 (Int32.toNatClampNeg (S.2.2 5))).toInt ≤ (((u61.1 9 (Int32.toNatClampNeg (S.2.2 5))).toInt + (2 * ((u76.2.2 19).toInt - ((S_j41.2.2 19) + 1).toInt))) + 1))))))))) := h29
    clear h29
    exact ⟨trivial, ⟨(gx_iC_s h25 (show (S_j41.1 28 (Int32.toNatClampNeg (S_j41.2.2 20))).toInt ≤ (u76.2.2 21).toInt from (by have := gx_iC_f h3 (by omega); have := gx_iC_f h25 (by omega); have := gx_ak (S_j41.2.2 19) 1 (1) (by decide); omega)) (show (S_j41.1 29 (Int32.toNatClampNeg (S_j41.2.2 20))).toInt ≤ (S_j41.2.2 22).toInt from (by have := gx_iC_f h3 (by omega); have := gx_iC_f h25 (by omega); have := gx_ak (S_j41.2.2 19) 1 (1) (by decide); omega))), (show (0 ≤ (u76.1 9 (Int32.toNatClampNeg (S.2.2 5))).toInt) ∧ ((0 ≤ (u76.2.2 19).toInt) ∧ (((u76.2.2 19).toInt ≤ (S.2.2 2).toInt) ∧ ((0 ≤ (S_j41.2.2 20).toInt) ∧ (((S_j41.2.2 20).toInt ≤ 6) ∧ ((0 ≤ (u76.2.2 21).toInt) ∧ ((0 ≤ (S_j41.2.2 22).toInt) ∧ ((((((u76.1 9 (Int32.toNatClampNeg (S.2.2 5))).toInt + (u76.2.2 21).toInt) + (S_j41.2.2 22).toInt) + (2 * (S_j41.2.2 20).toInt)) ≤ (2 * (u76.2.2 19).toInt)) ∧ ((((u76.2.2 23).toInt = 0) ∨ ((((((u76.1 9 (Int32.toNatClampNeg (S.2.2 5))).toInt + (u76.2.2 21).toInt) + (S_j41.2.2 22).toInt) + (2 * (S_j41.2.2 20).toInt)) + 1) ≤ (2 * (u76.2.2 19).toInt))) ∧ (((((u76.2.2 21).toInt + (S_j41.2.2 22).toInt) + (S_j41.2.2 20).toInt) ≤ (u76.2.2 19).toInt) ∧ (((S.2.2 19).toInt ≤ (u76.2.2 19).toInt) ∧ (((S.2.2 19).toInt < (u76.2.2 19).toInt) ∨ ((S_j41.2.2 24).toInt ≠ 0)))))))))))) from (by have := gx_iC_f h3 (by omega); have := gx_iC_f h25 (by omega); have := gx_ak (S_j41.2.2 19) 1 (1) (by decide); omega))⟩⟩
  · skip
    have h26_ := gx_eqnr (k := 46) (gx_lit 46 (by decide)) h26
    refine gx_if (Q := gx_q_MD_readPart S) (fun h27 => ?_) (fun h27 => ?_)
    · skip
      have h27_ := gx_eqr (k := 39) (gx_lit 39 (by decide)) h27
      refine gx_ca (Q := gx_q_MD_readPart S) (gx_q_MD_readRow _) (gx_s_MD_readRow _ h1 h2 (show 0 ≤ (S_j41.1 9 (Int32.toNatClampNeg (S.2.2 5))).toInt from (by have := gx_iC_f h3 (by omega); have := gx_iC_f h25 (by omega); omega)) (show 0 ≤ (S_j41.2.2 19).toInt from (by have := gx_iC_f h3 (by omega); have := gx_iC_f h25 (by omega); omega)) (show (S_j41.2.2 19).toInt ≤ (S.2.2 2).toInt from (by have := gx_iC_f h3 (by omega); have := gx_iC_f h25 (by omega); omega)) h22 (show (S_j41.2.2 20).toInt ≤ 6 from (by have := gx_iC_f h3 (by omega); have := gx_iC_f h25 (by omega); omega)) (show 0 ≤ (S_j41.2.2 21).toInt from (by have := gx_iC_f h3 (by omega); have := gx_iC_f h25 (by omega); omega)) (show 0 ≤ (S_j41.2.2 22).toInt from (by have := gx_iC_f h3 (by omega); have := gx_iC_f h25 (by omega); omega)) (show ((((S_j41.1 9 (Int32.toNatClampNeg (S.2.2 5))).toInt + (S_j41.2.2 21).toInt) + (S_j41.2.2 22).toInt) + (2 * (S_j41.2.2 20).toInt)) ≤ (2 * (S_j41.2.2 19).toInt) from (by have := gx_iC_f h3 (by omega); have := gx_iC_f h25 (by omega); omega)) (show ((S_j41.2.2 23).toInt = 0) ∨ ((((((S_j41.1 9 (Int32.toNatClampNeg (S.2.2 5))).toInt + (S_j41.2.2 21).toInt) + (S_j41.2.2 22).toInt) + (2 * (S_j41.2.2 20).toInt)) + 1) ≤ (2 * (S_j41.2.2 19).toInt)) from (by have := gx_iC_f h3 (by omega); have := gx_iC_f h25 (by omega); omega)) (show (((S_j41.2.2 21).toInt + (S_j41.2.2 22).toInt) + (S_j41.2.2 20).toInt) ≤ (S_j41.2.2 19).toInt from (by have := gx_iC_f h3 (by omega); have := gx_iC_f h25 (by omega); omega)) (show (S_j41.2.2 19).toInt < (S.2.2 2).toInt from (by have := gx_iC_f h3 (by omega); have := gx_iC_f h25 (by omega); omega))) ?_
      intro r_h28 u89 h28
      have h28_0 : (0 ≤ (u89.1 9 (Int32.toNatClampNeg (S.2.2 5))).toInt) ∧ ((0 ≤ (u89.2.2 19).toInt) ∧ (((u89.2.2 19).toInt ≤ (S.2.2 2).toInt) ∧ ((0 ≤ (S_j41.2.2 20).toInt) ∧ (((S_j41.2.2 20).toInt ≤ 6) ∧ ((0 ≤ (u89.2.2 21).toInt) ∧ ((0 ≤ (S_j41.2.2 22).toInt) ∧ ((((((u89.1 9 (Int32.toNatClampNeg (S.2.2 5))).toInt + (u89.2.2 21).toInt) + (S_j41.2.2 22).toInt) + (2 * (S_j41.2.2 20).toInt)) ≤ (2 * (u89.2.2 19).toInt)) ∧ ((((u89.2.2 23).toInt = 0) ∨ ((((((u89.1 9 (Int32.toNatClampNeg (S.2.2 5))).toInt + (u89.2.2 21).toInt) + (S_j41.2.2 22).toInt) + (2 * (S_j41.2.2 20).toInt)) + 1) ≤ (2 * (u89.2.2 19).toInt))) ∧ (((((u89.2.2 21).toInt + (S_j41.2.2 22).toInt) + (S_j41.2.2 20).toInt) ≤ (u89.2.2 19).toInt) ∧ (((S_j41.2.2 21).toInt ≤ (u89.2.2 21).toInt) ∧ ((S_j41.2.2 19).toInt < (u89.2.2 19).toInt))))))))))) := h28
      clear h28
      exact ⟨trivial, ⟨(gx_iC_s h25 (show (S_j41.1 28 (Int32.toNatClampNeg (S_j41.2.2 20))).toInt ≤ (u89.2.2 21).toInt from (by have := gx_iC_f h3 (by omega); have := gx_iC_f h25 (by omega); omega)) (show (S_j41.1 29 (Int32.toNatClampNeg (S_j41.2.2 20))).toInt ≤ (S_j41.2.2 22).toInt from (by have := gx_iC_f h3 (by omega); have := gx_iC_f h25 (by omega); omega))), (show (0 ≤ (u89.1 9 (Int32.toNatClampNeg (S.2.2 5))).toInt) ∧ ((0 ≤ (u89.2.2 19).toInt) ∧ (((u89.2.2 19).toInt ≤ (S.2.2 2).toInt) ∧ ((0 ≤ (S_j41.2.2 20).toInt) ∧ (((S_j41.2.2 20).toInt ≤ 6) ∧ ((0 ≤ (u89.2.2 21).toInt) ∧ ((0 ≤ (S_j41.2.2 22).toInt) ∧ ((((((u89.1 9 (Int32.toNatClampNeg (S.2.2 5))).toInt + (u89.2.2 21).toInt) + (S_j41.2.2 22).toInt) + (2 * (S_j41.2.2 20).toInt)) ≤ (2 * (u89.2.2 19).toInt)) ∧ ((((u89.2.2 23).toInt = 0) ∨ ((((((u89.1 9 (Int32.toNatClampNeg (S.2.2 5))).toInt + (u89.2.2 21).toInt) + (S_j41.2.2 22).toInt) + (2 * (S_j41.2.2 20).toInt)) + 1) ≤ (2 * (u89.2.2 19).toInt))) ∧ (((((u89.2.2 21).toInt + (S_j41.2.2 22).toInt) + (S_j41.2.2 20).toInt) ≤ (u89.2.2 19).toInt) ∧ (((S.2.2 19).toInt ≤ (u89.2.2 19).toInt) ∧ (((S.2.2 19).toInt < (u89.2.2 19).toInt) ∨ ((u89.2.2 24).toInt ≠ 0)))))))))))) from (by have := gx_iC_f h3 (by omega); have := gx_iC_f h25 (by omega); omega))⟩⟩
    · skip
      have h27_ := gx_eqnr (k := 39) (gx_lit 39 (by decide)) h27
      refine gx_if (Q := gx_q_MD_readPart S) (fun h28 => ?_) (fun h28 => ?_)
      · skip
        have h28_ := gx_eqr (k := 91) (gx_lit 91 (by decide)) h28
        refine gx_ca (Q := gx_q_MD_readPart S) (gx_q_MD_readClass _) (gx_s_MD_readClass _ h1 h2 (show 0 ≤ (S_j41.1 9 (Int32.toNatClampNeg (S.2.2 5))).toInt from (by have := gx_iC_f h3 (by omega); have := gx_iC_f h25 (by omega); omega)) (show 0 ≤ (S_j41.2.2 19).toInt from (by have := gx_iC_f h3 (by omega); have := gx_iC_f h25 (by omega); omega)) (show (S_j41.2.2 19).toInt ≤ (S.2.2 2).toInt from (by have := gx_iC_f h3 (by omega); have := gx_iC_f h25 (by omega); omega)) h22 (show (S_j41.2.2 20).toInt ≤ 6 from (by have := gx_iC_f h3 (by omega); have := gx_iC_f h25 (by omega); omega)) (show 0 ≤ (S_j41.2.2 21).toInt from (by have := gx_iC_f h3 (by omega); have := gx_iC_f h25 (by omega); omega)) (show 0 ≤ (S_j41.2.2 22).toInt from (by have := gx_iC_f h3 (by omega); have := gx_iC_f h25 (by omega); omega)) (show ((((S_j41.1 9 (Int32.toNatClampNeg (S.2.2 5))).toInt + (S_j41.2.2 21).toInt) + (S_j41.2.2 22).toInt) + (2 * (S_j41.2.2 20).toInt)) ≤ (2 * (S_j41.2.2 19).toInt) from (by have := gx_iC_f h3 (by omega); have := gx_iC_f h25 (by omega); omega)) (show ((S_j41.2.2 23).toInt = 0) ∨ ((((((S_j41.1 9 (Int32.toNatClampNeg (S.2.2 5))).toInt + (S_j41.2.2 21).toInt) + (S_j41.2.2 22).toInt) + (2 * (S_j41.2.2 20).toInt)) + 1) ≤ (2 * (S_j41.2.2 19).toInt)) from (by have := gx_iC_f h3 (by omega); have := gx_iC_f h25 (by omega); omega)) (show (((S_j41.2.2 21).toInt + (S_j41.2.2 22).toInt) + (S_j41.2.2 20).toInt) ≤ (S_j41.2.2 19).toInt from (by have := gx_iC_f h3 (by omega); have := gx_iC_f h25 (by omega); omega)) (show (S_j41.2.2 19).toInt < (S.2.2 2).toInt from (by have := gx_iC_f h3 (by omega); have := gx_iC_f h25 (by omega); omega))) ?_
        intro r_h29 u102 h29
        have h29_0 : (0 ≤ (u102.1 9 (Int32.toNatClampNeg (S.2.2 5))).toInt) ∧ ((0 ≤ (u102.2.2 19).toInt) ∧ (((u102.2.2 19).toInt ≤ (S.2.2 2).toInt) ∧ ((0 ≤ (S_j41.2.2 20).toInt) ∧ (((S_j41.2.2 20).toInt ≤ 6) ∧ ((0 ≤ (u102.2.2 21).toInt) ∧ ((0 ≤ (S_j41.2.2 22).toInt) ∧ ((((((u102.1 9 (Int32.toNatClampNeg (S.2.2 5))).toInt + (u102.2.2 21).toInt) + (S_j41.2.2 22).toInt) + (2 * (S_j41.2.2 20).toInt)) ≤ (2 * (u102.2.2 19).toInt)) ∧ ((((u102.2.2 23).toInt = 0) ∨ ((((((u102.1 9 (Int32.toNatClampNeg (S.2.2 5))).toInt + (u102.2.2 21).toInt) + (S_j41.2.2 22).toInt) + (2 * (S_j41.2.2 20).toInt)) + 1) ≤ (2 * (u102.2.2 19).toInt))) ∧ (((((u102.2.2 21).toInt + (S_j41.2.2 22).toInt) + (S_j41.2.2 20).toInt) ≤ (u102.2.2 19).toInt) ∧ (((S_j41.2.2 21).toInt ≤ (u102.2.2 21).toInt) ∧ ((S_j41.2.2 19).toInt < (u102.2.2 19).toInt))))))))))) := h29
        clear h29
        exact ⟨trivial, ⟨(gx_iC_s h25 (show (S_j41.1 28 (Int32.toNatClampNeg (S_j41.2.2 20))).toInt ≤ (u102.2.2 21).toInt from (by have := gx_iC_f h3 (by omega); have := gx_iC_f h25 (by omega); omega)) (show (S_j41.1 29 (Int32.toNatClampNeg (S_j41.2.2 20))).toInt ≤ (S_j41.2.2 22).toInt from (by have := gx_iC_f h3 (by omega); have := gx_iC_f h25 (by omega); omega))), (show (0 ≤ (u102.1 9 (Int32.toNatClampNeg (S.2.2 5))).toInt) ∧ ((0 ≤ (u102.2.2 19).toInt) ∧ (((u102.2.2 19).toInt ≤ (S.2.2 2).toInt) ∧ ((0 ≤ (S_j41.2.2 20).toInt) ∧ (((S_j41.2.2 20).toInt ≤ 6) ∧ ((0 ≤ (u102.2.2 21).toInt) ∧ ((0 ≤ (S_j41.2.2 22).toInt) ∧ ((((((u102.1 9 (Int32.toNatClampNeg (S.2.2 5))).toInt + (u102.2.2 21).toInt) + (S_j41.2.2 22).toInt) + (2 * (S_j41.2.2 20).toInt)) ≤ (2 * (u102.2.2 19).toInt)) ∧ ((((u102.2.2 23).toInt = 0) ∨ ((((((u102.1 9 (Int32.toNatClampNeg (S.2.2 5))).toInt + (u102.2.2 21).toInt) + (S_j41.2.2 22).toInt) + (2 * (S_j41.2.2 20).toInt)) + 1) ≤ (2 * (u102.2.2 19).toInt))) ∧ (((((u102.2.2 21).toInt + (S_j41.2.2 22).toInt) + (S_j41.2.2 20).toInt) ≤ (u102.2.2 19).toInt) ∧ (((S.2.2 19).toInt ≤ (u102.2.2 19).toInt) ∧ (((S.2.2 19).toInt < (u102.2.2 19).toInt) ∨ ((u102.2.2 24).toInt ≠ 0)))))))))))) from (by have := gx_iC_f h3 (by omega); have := gx_iC_f h25 (by omega); omega))⟩⟩
      · skip
        have h28_ := gx_eqnr (k := 91) (gx_lit 91 (by decide)) h28
        refine gx_if (Q := gx_q_MD_readPart S) (fun h29 => ?_) (fun h29 => ?_)
        · skip
          have h29_ := gx_eqr (k := 40) (gx_lit 40 (by decide)) h29
          refine gx_s_MD_readPart_j120 _ _ _ _ _ ?_ ?_ ?_ ?_ ?_ ?_ ?_ ?_ ?_ ?_ ?_ ?_ ?_ ?_ ?_ ?_ ?_ ?_ ?_ ?_ ?_ ?_ ?_ ?_ ?_ ?_
          · exact h1
          · exact h2
          · exact h3
          · exact (show 0 ≤ (S.1 9 (Int32.toNatClampNeg (S.2.2 5))).toInt from (by have := gx_iC_f h3 (by omega); have := gx_iC_f h25 (by omega); omega))
          · exact (show 0 ≤ (S.2.2 19).toInt from (by have := gx_iC_f h3 (by omega); have := gx_iC_f h25 (by omega); omega))
          · exact (show (S.2.2 19).toInt ≤ (S.2.2 2).toInt from (by have := gx_iC_f h3 (by omega); have := gx_iC_f h25 (by omega); omega))
          · exact (show 0 ≤ (S.2.2 20).toInt from (by have := gx_iC_f h3 (by omega); have := gx_iC_f h25 (by omega); omega))
          · exact (show (S.2.2 20).toInt ≤ 6 from (by have := gx_iC_f h3 (by omega); have := gx_iC_f h25 (by omega); omega))
          · exact (show 0 ≤ (S.2.2 21).toInt from (by have := gx_iC_f h3 (by omega); have := gx_iC_f h25 (by omega); omega))
          · exact (show 0 ≤ (S.2.2 22).toInt from (by have := gx_iC_f h3 (by omega); have := gx_iC_f h25 (by omega); omega))
          · exact (show ((((S.1 9 (Int32.toNatClampNeg (S.2.2 5))).toInt + (S.2.2 21).toInt) + (S.2.2 22).toInt) + (2 * (S.2.2 20).toInt)) ≤ (2 * (S.2.2 19).toInt) from (by have := gx_iC_f h3 (by omega); have := gx_iC_f h25 (by omega); omega))
          · exact (show ((S.2.2 23).toInt = 0) ∨ ((((((S.1 9 (Int32.toNatClampNeg (S.2.2 5))).toInt + (S.2.2 21).toInt) + (S.2.2 22).toInt) + (2 * (S.2.2 20).toInt)) + 1) ≤ (2 * (S.2.2 19).toInt)) from (by have := gx_iC_f h3 (by omega); have := gx_iC_f h25 (by omega); omega))
          · exact (show (((S.2.2 21).toInt + (S.2.2 22).toInt) + (S.2.2 20).toInt) ≤ (S.2.2 19).toInt from (by have := gx_iC_f h3 (by omega); have := gx_iC_f h25 (by omega); omega))
          · exact (show 0 ≤ (S.1 6 (Int32.toNatClampNeg (S.2.2 5))).toInt from (by have := gx_iC_f h3 (by omega); have := gx_iC_f h25 (by omega); omega))
          · exact (show (S.1 6 (Int32.toNatClampNeg (S.2.2 5))).toInt ≤ 7 from (by have := gx_iC_f h3 (by omega); have := gx_iC_f h25 (by omega); omega))
          · exact (show (S_j41.1 9 (Int32.toNatClampNeg (S.2.2 5))).toInt = (S.1 9 (Int32.toNatClampNeg (S.2.2 5))).toInt from (by have := gx_iC_f h3 (by omega); have := gx_iC_f h25 (by omega); omega))
          · exact (show (S_j41.2.2 19).toInt = (S.2.2 19).toInt from (by have := gx_iC_f h3 (by omega); have := gx_iC_f h25 (by omega); omega))
          · exact (show (S_j41.2.2 20).toInt = (S.2.2 20).toInt from (by have := gx_iC_f h3 (by omega); have := gx_iC_f h25 (by omega); omega))
          · exact (show (S_j41.2.2 21).toInt = (S.2.2 21).toInt from (by have := gx_iC_f h3 (by omega); have := gx_iC_f h25 (by omega); omega))
          · exact (show (S_j41.2.2 22).toInt = (S.2.2 22).toInt from (by have := gx_iC_f h3 (by omega); have := gx_iC_f h25 (by omega); omega))
          · exact (show (S_j41.2.2 23).toInt = (S.2.2 23).toInt from (by have := gx_iC_f h3 (by omega); have := gx_iC_f h25 (by omega); omega))
          · exact (show 0 ≤ (S_j41.2.2 20).toInt from (by have := gx_iC_f h3 (by omega); have := gx_iC_f h25 (by omega); omega))
          · exact (show 0 ≤ r1.toInt from (by have := gx_iC_f h3 (by omega); have := gx_iC_f h25 (by omega); omega))
          · exact (show (r1.toInt = 0) ∨ ((S.2.2 19).toInt < (S.2.2 2).toInt) from (by have := gx_iC_f h3 (by omega); have := gx_iC_f h25 (by omega); omega))
          · exact (show (S.2.2 19).toInt < (S.2.2 2).toInt from (by have := gx_iC_f h3 (by omega); have := gx_iC_f h25 (by omega); omega))
          · exact h25
        · skip
          have h29_ := gx_eqnr (k := 40) (gx_lit 40 (by decide)) h29
          refine gx_if (Q := gx_q_MD_readPart S) (fun h30 => ?_) (fun h30 => ?_)
          · skip
            have h30_ := gx_eqr (k := 123) (gx_lit 123 (by decide)) h30
            refine gx_s_MD_readPart_j120 _ _ _ _ _ ?_ ?_ ?_ ?_ ?_ ?_ ?_ ?_ ?_ ?_ ?_ ?_ ?_ ?_ ?_ ?_ ?_ ?_ ?_ ?_ ?_ ?_ ?_ ?_ ?_ ?_
            · exact h1
            · exact h2
            · exact h3
            · exact (show 0 ≤ (S.1 9 (Int32.toNatClampNeg (S.2.2 5))).toInt from (by have := gx_iC_f h3 (by omega); have := gx_iC_f h25 (by omega); omega))
            · exact (show 0 ≤ (S.2.2 19).toInt from (by have := gx_iC_f h3 (by omega); have := gx_iC_f h25 (by omega); omega))
            · exact (show (S.2.2 19).toInt ≤ (S.2.2 2).toInt from (by have := gx_iC_f h3 (by omega); have := gx_iC_f h25 (by omega); omega))
            · exact (show 0 ≤ (S.2.2 20).toInt from (by have := gx_iC_f h3 (by omega); have := gx_iC_f h25 (by omega); omega))
            · exact (show (S.2.2 20).toInt ≤ 6 from (by have := gx_iC_f h3 (by omega); have := gx_iC_f h25 (by omega); omega))
            · exact (show 0 ≤ (S.2.2 21).toInt from (by have := gx_iC_f h3 (by omega); have := gx_iC_f h25 (by omega); omega))
            · exact (show 0 ≤ (S.2.2 22).toInt from (by have := gx_iC_f h3 (by omega); have := gx_iC_f h25 (by omega); omega))
            · exact (show ((((S.1 9 (Int32.toNatClampNeg (S.2.2 5))).toInt + (S.2.2 21).toInt) + (S.2.2 22).toInt) + (2 * (S.2.2 20).toInt)) ≤ (2 * (S.2.2 19).toInt) from (by have := gx_iC_f h3 (by omega); have := gx_iC_f h25 (by omega); omega))
            · exact (show ((S.2.2 23).toInt = 0) ∨ ((((((S.1 9 (Int32.toNatClampNeg (S.2.2 5))).toInt + (S.2.2 21).toInt) + (S.2.2 22).toInt) + (2 * (S.2.2 20).toInt)) + 1) ≤ (2 * (S.2.2 19).toInt)) from (by have := gx_iC_f h3 (by omega); have := gx_iC_f h25 (by omega); omega))
            · exact (show (((S.2.2 21).toInt + (S.2.2 22).toInt) + (S.2.2 20).toInt) ≤ (S.2.2 19).toInt from (by have := gx_iC_f h3 (by omega); have := gx_iC_f h25 (by omega); omega))
            · exact (show 0 ≤ (S.1 6 (Int32.toNatClampNeg (S.2.2 5))).toInt from (by have := gx_iC_f h3 (by omega); have := gx_iC_f h25 (by omega); omega))
            · exact (show (S.1 6 (Int32.toNatClampNeg (S.2.2 5))).toInt ≤ 7 from (by have := gx_iC_f h3 (by omega); have := gx_iC_f h25 (by omega); omega))
            · exact (show (S_j41.1 9 (Int32.toNatClampNeg (S.2.2 5))).toInt = (S.1 9 (Int32.toNatClampNeg (S.2.2 5))).toInt from (by have := gx_iC_f h3 (by omega); have := gx_iC_f h25 (by omega); omega))
            · exact (show (S_j41.2.2 19).toInt = (S.2.2 19).toInt from (by have := gx_iC_f h3 (by omega); have := gx_iC_f h25 (by omega); omega))
            · exact (show (S_j41.2.2 20).toInt = (S.2.2 20).toInt from (by have := gx_iC_f h3 (by omega); have := gx_iC_f h25 (by omega); omega))
            · exact (show (S_j41.2.2 21).toInt = (S.2.2 21).toInt from (by have := gx_iC_f h3 (by omega); have := gx_iC_f h25 (by omega); omega))
            · exact (show (S_j41.2.2 22).toInt = (S.2.2 22).toInt from (by have := gx_iC_f h3 (by omega); have := gx_iC_f h25 (by omega); omega))
            · exact (show (S_j41.2.2 23).toInt = (S.2.2 23).toInt from (by have := gx_iC_f h3 (by omega); have := gx_iC_f h25 (by omega); omega))
            · exact (show 0 ≤ (S_j41.2.2 20).toInt from (by have := gx_iC_f h3 (by omega); have := gx_iC_f h25 (by omega); omega))
            · exact (show 0 ≤ r1.toInt from (by have := gx_iC_f h3 (by omega); have := gx_iC_f h25 (by omega); omega))
            · exact (show (r1.toInt = 0) ∨ ((S.2.2 19).toInt < (S.2.2 2).toInt) from (by have := gx_iC_f h3 (by omega); have := gx_iC_f h25 (by omega); omega))
            · exact (show (S.2.2 19).toInt < (S.2.2 2).toInt from (by have := gx_iC_f h3 (by omega); have := gx_iC_f h25 (by omega); omega))
            · exact h25
          · skip
            have h30_ := gx_eqnr (k := 123) (gx_lit 123 (by decide)) h30
            refine gx_s_MD_readPart_j206 _ _ _ _ _ ?_ ?_ ?_ ?_ ?_ ?_ ?_ ?_ ?_ ?_ ?_ ?_ ?_ ?_ ?_ ?_ ?_ ?_ ?_ ?_ ?_ ?_ ?_ ?_ ?_
            · exact h1
            · exact h2
            · exact h3
            · exact (show 0 ≤ (S.1 9 (Int32.toNatClampNeg (S.2.2 5))).toInt from (by have := gx_iC_f h3 (by omega); have := gx_iC_f h25 (by omega); omega))
            · exact (show 0 ≤ (S.2.2 19).toInt from (by have := gx_iC_f h3 (by omega); have := gx_iC_f h25 (by omega); omega))
            · exact (show (S.2.2 19).toInt ≤ (S.2.2 2).toInt from (by have := gx_iC_f h3 (by omega); have := gx_iC_f h25 (by omega); omega))
            · exact (show 0 ≤ (S.2.2 20).toInt from (by have := gx_iC_f h3 (by omega); have := gx_iC_f h25 (by omega); omega))
            · exact (show (S.2.2 20).toInt ≤ 6 from (by have := gx_iC_f h3 (by omega); have := gx_iC_f h25 (by omega); omega))
            · exact (show 0 ≤ (S.2.2 21).toInt from (by have := gx_iC_f h3 (by omega); have := gx_iC_f h25 (by omega); omega))
            · exact (show 0 ≤ (S.2.2 22).toInt from (by have := gx_iC_f h3 (by omega); have := gx_iC_f h25 (by omega); omega))
            · exact (show ((((S.1 9 (Int32.toNatClampNeg (S.2.2 5))).toInt + (S.2.2 21).toInt) + (S.2.2 22).toInt) + (2 * (S.2.2 20).toInt)) ≤ (2 * (S.2.2 19).toInt) from (by have := gx_iC_f h3 (by omega); have := gx_iC_f h25 (by omega); omega))
            · exact (show ((S.2.2 23).toInt = 0) ∨ ((((((S.1 9 (Int32.toNatClampNeg (S.2.2 5))).toInt + (S.2.2 21).toInt) + (S.2.2 22).toInt) + (2 * (S.2.2 20).toInt)) + 1) ≤ (2 * (S.2.2 19).toInt)) from (by have := gx_iC_f h3 (by omega); have := gx_iC_f h25 (by omega); omega))
            · exact (show (((S.2.2 21).toInt + (S.2.2 22).toInt) + (S.2.2 20).toInt) ≤ (S.2.2 19).toInt from (by have := gx_iC_f h3 (by omega); have := gx_iC_f h25 (by omega); omega))
            · exact (show 0 ≤ (S.1 6 (Int32.toNatClampNeg (S.2.2 5))).toInt from (by have := gx_iC_f h3 (by omega); have := gx_iC_f h25 (by omega); omega))
            · exact (show (S.1 6 (Int32.toNatClampNeg (S.2.2 5))).toInt ≤ 7 from (by have := gx_iC_f h3 (by omega); have := gx_iC_f h25 (by omega); omega))
            · exact (show (S_j41.1 9 (Int32.toNatClampNeg (S.2.2 5))).toInt = (S.1 9 (Int32.toNatClampNeg (S.2.2 5))).toInt from (by have := gx_iC_f h3 (by omega); have := gx_iC_f h25 (by omega); omega))
            · exact (show (S_j41.2.2 19).toInt = (S.2.2 19).toInt from (by have := gx_iC_f h3 (by omega); have := gx_iC_f h25 (by omega); omega))
            · exact (show (S_j41.2.2 20).toInt = (S.2.2 20).toInt from (by have := gx_iC_f h3 (by omega); have := gx_iC_f h25 (by omega); omega))
            · exact (show (S_j41.2.2 21).toInt = (S.2.2 21).toInt from (by have := gx_iC_f h3 (by omega); have := gx_iC_f h25 (by omega); omega))
            · exact (show (S_j41.2.2 22).toInt = (S.2.2 22).toInt from (by have := gx_iC_f h3 (by omega); have := gx_iC_f h25 (by omega); omega))
            · exact (show (S_j41.2.2 23).toInt = (S.2.2 23).toInt from (by have := gx_iC_f h3 (by omega); have := gx_iC_f h25 (by omega); omega))
            · exact (show 0 ≤ (S_j41.2.2 20).toInt from (by have := gx_iC_f h3 (by omega); have := gx_iC_f h25 (by omega); omega))
            · exact (show 0 ≤ r1.toInt from (by have := gx_iC_f h3 (by omega); have := gx_iC_f h25 (by omega); omega))
            · exact (show (r1.toInt = 0) ∨ ((S.2.2 19).toInt < (S.2.2 2).toInt) from (by have := gx_iC_f h3 (by omega); have := gx_iC_f h25 (by omega); omega))
            · exact h25
set_option maxRecDepth 100000 in
theorem gx_s_MD_readPart (S : gm_S) (h1 : gm_iW 50 (S.2.2 2) (S.1 3)) (h2 : gm_iN 1 (S.2.2 5)) (h3 : gm_iC (S.2.2 20) (S.2.2 21) (S.2.2 22) (S.1 26) (S.1 28) (S.1 29)) (h4 : 0 ≤ (S.1 9 (Int32.toNatClampNeg (S.2.2 5))).toInt) (h5 : 0 ≤ (S.2.2 19).toInt) (h6 : (S.2.2 19).toInt ≤ (S.2.2 2).toInt) (h7 : 0 ≤ (S.2.2 20).toInt) (h8 : (S.2.2 20).toInt ≤ 6) (h9 : 0 ≤ (S.2.2 21).toInt) (h10 : 0 ≤ (S.2.2 22).toInt) (h11 : ((((S.1 9 (Int32.toNatClampNeg (S.2.2 5))).toInt + (S.2.2 21).toInt) + (S.2.2 22).toInt) + (2 * (S.2.2 20).toInt)) ≤ (2 * (S.2.2 19).toInt)) (h12 : ((S.2.2 23).toInt = 0) ∨ ((((((S.1 9 (Int32.toNatClampNeg (S.2.2 5))).toInt + (S.2.2 21).toInt) + (S.2.2 22).toInt) + (2 * (S.2.2 20).toInt)) + 1) ≤ (2 * (S.2.2 19).toInt))) (h13 : (((S.2.2 21).toInt + (S.2.2 22).toInt) + (S.2.2 20).toInt) ≤ (S.2.2 19).toInt) (h14 : 0 ≤ (S.1 6 (Int32.toNatClampNeg (S.2.2 5))).toInt) (h15 : (S.1 6 (Int32.toNatClampNeg (S.2.2 5))).toInt ≤ 7) : gm_p_MD_readPart S ∧ gx_q_MD_readPart S (gm_f_MD_readPart S) := by
  unfold gm_p_MD_readPart gm_f_MD_readPart
  refine gx_ca (Q := gx_q_MD_readPart S) (gx_q_MD_peek _) (gx_s_MD_peek _ h1 h2 h5) ?_
  intro r1 u1 h16
  have h16_0 : (((r1.toInt = 0) ∧ ((S.2.2 2).toInt ≤ (S.2.2 19).toInt)) ∨ ((32 ≤ r1.toInt) ∧ ((r1.toInt ≤ 126) ∧ ((S.2.2 19).toInt < (S.2.2 2).toInt)))) ∧ (r1 = (gm_f_MD_peek S).1) := h16
  refine gx_if (Q := gx_q_MD_readPart S) (fun h17 => ?_) (fun h17 => ?_)
  · skip
    have h17_ := gx_ltr (k := 65) (gx_lit 65 (by decide)) h17
    refine gx_s_MD_readPart_j41 _ _ _ _ ?_ ?_ ?_ ?_ ?_ ?_ ?_ ?_ ?_ ?_ ?_ ?_ ?_ ?_ ?_ ?_ ?_ ?_ ?_ ?_ ?_ ?_ ?_ ?_ ?_
    · exact h1
    · exact h2
    · exact h3
    · exact (show 0 ≤ (S.1 9 (Int32.toNatClampNeg (S.2.2 5))).toInt from (by have := gx_iC_f h3 (by omega); omega))
    · exact (show 0 ≤ (S.2.2 19).toInt from (by have := gx_iC_f h3 (by omega); omega))
    · exact (show (S.2.2 19).toInt ≤ (S.2.2 2).toInt from (by have := gx_iC_f h3 (by omega); omega))
    · exact (show 0 ≤ (S.2.2 20).toInt from (by have := gx_iC_f h3 (by omega); omega))
    · exact (show (S.2.2 20).toInt ≤ 6 from (by have := gx_iC_f h3 (by omega); omega))
    · exact (show 0 ≤ (S.2.2 21).toInt from (by have := gx_iC_f h3 (by omega); omega))
    · exact (show 0 ≤ (S.2.2 22).toInt from (by have := gx_iC_f h3 (by omega); omega))
    · exact (show ((((S.1 9 (Int32.toNatClampNeg (S.2.2 5))).toInt + (S.2.2 21).toInt) + (S.2.2 22).toInt) + (2 * (S.2.2 20).toInt)) ≤ (2 * (S.2.2 19).toInt) from (by have := gx_iC_f h3 (by omega); omega))
    · exact (show ((S.2.2 23).toInt = 0) ∨ ((((((S.1 9 (Int32.toNatClampNeg (S.2.2 5))).toInt + (S.2.2 21).toInt) + (S.2.2 22).toInt) + (2 * (S.2.2 20).toInt)) + 1) ≤ (2 * (S.2.2 19).toInt)) from (by have := gx_iC_f h3 (by omega); omega))
    · exact (show (((S.2.2 21).toInt + (S.2.2 22).toInt) + (S.2.2 20).toInt) ≤ (S.2.2 19).toInt from (by have := gx_iC_f h3 (by omega); omega))
    · exact (show 0 ≤ (S.1 6 (Int32.toNatClampNeg (S.2.2 5))).toInt from (by have := gx_iC_f h3 (by omega); omega))
    · exact (show (S.1 6 (Int32.toNatClampNeg (S.2.2 5))).toInt ≤ 7 from (by have := gx_iC_f h3 (by omega); omega))
    · exact (show (S.1 9 (Int32.toNatClampNeg (S.2.2 5))).toInt = (S.1 9 (Int32.toNatClampNeg (S.2.2 5))).toInt from (by have := gx_iC_f h3 (by omega); omega))
    · exact (show (S.2.2 19).toInt = (S.2.2 19).toInt from (by have := gx_iC_f h3 (by omega); omega))
    · exact (show (S.2.2 20).toInt = (S.2.2 20).toInt from (by have := gx_iC_f h3 (by omega); omega))
    · exact (show (S.2.2 21).toInt = (S.2.2 21).toInt from (by have := gx_iC_f h3 (by omega); omega))
    · exact (show (S.2.2 22).toInt = (S.2.2 22).toInt from (by have := gx_iC_f h3 (by omega); omega))
    · exact (show (S.2.2 23).toInt = (S.2.2 23).toInt from (by have := gx_iC_f h3 (by omega); omega))
    · exact (show 0 ≤ (S.2.2 20).toInt from (by have := gx_iC_f h3 (by omega); omega))
    · exact (show 0 ≤ r1.toInt from (by have := gx_iC_f h3 (by omega); omega))
    · exact (show (r1.toInt = 0) ∨ ((S.2.2 19).toInt < (S.2.2 2).toInt) from (by have := gx_iC_f h3 (by omega); omega))
    · exact h3
  · skip
    have h17_ := gx_ltnr (k := 65) (gx_lit 65 (by decide)) h17
    refine gx_if (Q := gx_q_MD_readPart S) (fun h18 => ?_) (fun h18 => ?_)
    · skip
      have h18_ := gx_ltl (k := 90) (gx_lit 90 (by decide)) h18
      refine gx_s_MD_readPart_j41 _ _ _ _ ?_ ?_ ?_ ?_ ?_ ?_ ?_ ?_ ?_ ?_ ?_ ?_ ?_ ?_ ?_ ?_ ?_ ?_ ?_ ?_ ?_ ?_ ?_ ?_ ?_
      · exact h1
      · exact h2
      · exact h3
      · exact (show 0 ≤ (S.1 9 (Int32.toNatClampNeg (S.2.2 5))).toInt from (by have := gx_iC_f h3 (by omega); omega))
      · exact (show 0 ≤ (S.2.2 19).toInt from (by have := gx_iC_f h3 (by omega); omega))
      · exact (show (S.2.2 19).toInt ≤ (S.2.2 2).toInt from (by have := gx_iC_f h3 (by omega); omega))
      · exact (show 0 ≤ (S.2.2 20).toInt from (by have := gx_iC_f h3 (by omega); omega))
      · exact (show (S.2.2 20).toInt ≤ 6 from (by have := gx_iC_f h3 (by omega); omega))
      · exact (show 0 ≤ (S.2.2 21).toInt from (by have := gx_iC_f h3 (by omega); omega))
      · exact (show 0 ≤ (S.2.2 22).toInt from (by have := gx_iC_f h3 (by omega); omega))
      · exact (show ((((S.1 9 (Int32.toNatClampNeg (S.2.2 5))).toInt + (S.2.2 21).toInt) + (S.2.2 22).toInt) + (2 * (S.2.2 20).toInt)) ≤ (2 * (S.2.2 19).toInt) from (by have := gx_iC_f h3 (by omega); omega))
      · exact (show ((S.2.2 23).toInt = 0) ∨ ((((((S.1 9 (Int32.toNatClampNeg (S.2.2 5))).toInt + (S.2.2 21).toInt) + (S.2.2 22).toInt) + (2 * (S.2.2 20).toInt)) + 1) ≤ (2 * (S.2.2 19).toInt)) from (by have := gx_iC_f h3 (by omega); omega))
      · exact (show (((S.2.2 21).toInt + (S.2.2 22).toInt) + (S.2.2 20).toInt) ≤ (S.2.2 19).toInt from (by have := gx_iC_f h3 (by omega); omega))
      · exact (show 0 ≤ (S.1 6 (Int32.toNatClampNeg (S.2.2 5))).toInt from (by have := gx_iC_f h3 (by omega); omega))
      · exact (show (S.1 6 (Int32.toNatClampNeg (S.2.2 5))).toInt ≤ 7 from (by have := gx_iC_f h3 (by omega); omega))
      · exact (show (S.1 9 (Int32.toNatClampNeg (S.2.2 5))).toInt = (S.1 9 (Int32.toNatClampNeg (S.2.2 5))).toInt from (by have := gx_iC_f h3 (by omega); omega))
      · exact (show (S.2.2 19).toInt = (S.2.2 19).toInt from (by have := gx_iC_f h3 (by omega); omega))
      · exact (show (S.2.2 20).toInt = (S.2.2 20).toInt from (by have := gx_iC_f h3 (by omega); omega))
      · exact (show (S.2.2 21).toInt = (S.2.2 21).toInt from (by have := gx_iC_f h3 (by omega); omega))
      · exact (show (S.2.2 22).toInt = (S.2.2 22).toInt from (by have := gx_iC_f h3 (by omega); omega))
      · exact (show (S.2.2 23).toInt = (S.2.2 23).toInt from (by have := gx_iC_f h3 (by omega); omega))
      · exact (show 0 ≤ (S.2.2 20).toInt from (by have := gx_iC_f h3 (by omega); omega))
      · exact (show 0 ≤ r1.toInt from (by have := gx_iC_f h3 (by omega); omega))
      · exact (show (r1.toInt = 0) ∨ ((S.2.2 19).toInt < (S.2.2 2).toInt) from (by have := gx_iC_f h3 (by omega); omega))
      · exact h3
    · skip
      have h18_ := gx_ltnl (k := 90) (gx_lit 90 (by decide)) h18
      refine gx_ca (Q := gx_q_MD_readPart S) (gx_q_MD_create _ _ _ _) (gx_s_MD_create _ _ _ _ h1 h2 h4 (show (S.1 9 (Int32.toNatClampNeg (S.2.2 5))).toInt ≤ 150 from (by have := gx_iC_f h3 (by omega); omega))) ?_
      intro r32 u32 h19
      have h19_0 : ((u32.1 9 (Int32.toNatClampNeg (S.2.2 5))).toInt = ((S.1 9 (Int32.toNatClampNeg (S.2.2 5))).toInt + 1)) ∧ (r32.toInt = ((160 * (S.2.2 5).toInt) + (S.1 9 (Int32.toNatClampNeg (S.2.2 5))).toInt)) := h19
      clear h19
      refine gx_ca (Q := gx_q_MD_readPart S) (gx_q_MD_primary _ _) (gx_s_MD_primary _ _ h1 h2 (show 0 ≤ (u32.1 9 (Int32.toNatClampNeg (S.2.2 5))).toInt from (by have := gx_iC_f h3 (by omega); omega)) (show (u32.1 9 (Int32.toNatClampNeg (S.2.2 5))).toInt ≤ 145 from (by have := gx_iC_f h3 (by omega); omega)) (show 0 ≤ ((S.2.2 19) + 1).toInt from (by have := gx_iC_f h3 (by omega); have := gx_ak (S.2.2 19) 1 (1) (by decide); omega)) (show ((S.2.2 19) + 1).toInt ≤ (S.2.2 2).toInt from (by have := gx_iC_f h3 (by omega); have := gx_ak (S.2.2 19) 1 (1) (by decide); omega)) h9 (show (S.2.2 21).toInt ≤ 58 from (by have := gx_iC_f h3 (by omega); omega))) ?_
      intro r_h20 u35 h20
      have h20_0 : ((u35.2.2 21).toInt = ((S.2.2 21).toInt + 1)) ∧ (((u35.2.2 23).toInt = 0) ∧ ((((S.2.2 19) + 1).toInt ≤ (u35.2.2 19).toInt) ∧ (((u35.2.2 19).toInt ≤ (((S.2.2 19) + 1).toInt + 1)) ∧ (((u35.2.2 19).toInt ≤ (S.2.2 2).toInt) ∧ (((u32.1 9 (Int32.toNatClampNeg (S.2.2 5))).toInt ≤ (u35.1 9 (Int32.toNatClampNeg (S.2.2 5))).toInt) ∧ (((u35.1 9 (Int32.toNatClampNeg (S.2.2 5))).toInt ≤ ((u32.1 9 (Int32.toNatClampNeg (S.2.2 5))).toInt + (2 * ((u35.2.2 19).toInt - ((S.2.2 19) + 1).toInt)))) ∨ (((S.2.2 23).toInt ≠ 0) ∧ ((u35.1 9 (Int32.toNatClampNeg (S.2.2 5))).toInt ≤ (((u32.1 9 (Int32.toNatClampNeg (S.2.2 5))).toInt + (2 * ((u35.2.2 19).toInt - ((S.2.2 19) + 1).toInt))) + 1))))))))) := h20
      clear h20
      exact ⟨trivial, ⟨(gx_iC_s h3 (show (S.1 28 (Int32.toNatClampNeg (S.2.2 20))).toInt ≤ (u35.2.2 21).toInt from (by have := gx_iC_f h3 (by omega); have := gx_ak (S.2.2 19) 1 (1) (by decide); omega)) (show (S.1 29 (Int32.toNatClampNeg (S.2.2 20))).toInt ≤ (S.2.2 22).toInt from (by have := gx_iC_f h3 (by omega); have := gx_ak (S.2.2 19) 1 (1) (by decide); omega))), (show (0 ≤ (u35.1 9 (Int32.toNatClampNeg (S.2.2 5))).toInt) ∧ ((0 ≤ (u35.2.2 19).toInt) ∧ (((u35.2.2 19).toInt ≤ (S.2.2 2).toInt) ∧ ((0 ≤ (S.2.2 20).toInt) ∧ (((S.2.2 20).toInt ≤ 6) ∧ ((0 ≤ (u35.2.2 21).toInt) ∧ ((0 ≤ (S.2.2 22).toInt) ∧ ((((((u35.1 9 (Int32.toNatClampNeg (S.2.2 5))).toInt + (u35.2.2 21).toInt) + (S.2.2 22).toInt) + (2 * (S.2.2 20).toInt)) ≤ (2 * (u35.2.2 19).toInt)) ∧ ((((u35.2.2 23).toInt = 0) ∨ ((((((u35.1 9 (Int32.toNatClampNeg (S.2.2 5))).toInt + (u35.2.2 21).toInt) + (S.2.2 22).toInt) + (2 * (S.2.2 20).toInt)) + 1) ≤ (2 * (u35.2.2 19).toInt))) ∧ (((((u35.2.2 21).toInt + (S.2.2 22).toInt) + (S.2.2 20).toInt) ≤ (u35.2.2 19).toInt) ∧ (((S.2.2 19).toInt ≤ (u35.2.2 19).toInt) ∧ (((S.2.2 19).toInt < (u35.2.2 19).toInt) ∨ ((S.2.2 24).toInt ≠ 0)))))))))))) from (by have := gx_iC_f h3 (by omega); have := gx_ak (S.2.2 19) 1 (1) (by decide); omega))⟩⟩
