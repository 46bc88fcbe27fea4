theorem gx_iS_h {e : Int} {ty fr : Int32} {rc nm wh pa kd on tw ow : Nat → Int32} {i l i' l' n : Int32} {it al : Nat → Int32} (h : gm_iS e ty fr rc nm wh pa kd on tw ow i l it al) {J : Nat} (hJ : (J : Int) = 8 * fr.toInt + (rc (Int32.toNatClampNeg fr)).toInt) (hi : i'.toInt ≤ i.toInt) (hl : l'.toInt ≤ l.toInt) : gm_iS e ty fr rc nm (upd wh J n) pa kd on tw ow i' l' it al := by
  refine ⟨h.1, fun k hk => h.2.1 k (by omega), fun k hk => h.2.2.1 k (by omega), fun r hr j hj => ?_⟩
  rw [gx_un _ _ _ (show j ≠ J by omega)]
  exact h.2.2.2 r hr j hj
abbrev gy_q_MD_endSequence (S : gm_S) (z : Int32 × (gm_S)) : Prop := (gm_iS 1 (S.2.2 2) (S.2.2 5) (S.1 6) (S.1 7) (S.1 8) (z.2.1 9) (z.2.1 10) (z.2.1 11) (z.2.1 12) (z.2.1 13) (z.2.2.2 21) (z.2.2.2 22) (S.1 30) (z.2.1 31)) ∧ (((z.2.2.2 21).toInt = (S.1 28 (Int32.toNatClampNeg (S.2.2 20))).toInt) ∧ (((z.2.2.2 22).toInt = ((S.2.2 22).toInt + 1)) ∧ (((S.1 9 (Int32.toNatClampNeg (S.2.2 5))).toInt ≤ (z.2.1 9 (Int32.toNatClampNeg (S.2.2 5))).toInt) ∧ (((((S.2.2 21).toInt = (S.1 28 (Int32.toNatClampNeg (S.2.2 20))).toInt) ∧ ((z.2.1 9 (Int32.toNatClampNeg (S.2.2 5))).toInt = ((S.1 9 (Int32.toNatClampNeg (S.2.2 5))).toInt + 1))) ∨ (((S.1 28 (Int32.toNatClampNeg (S.2.2 20))).toInt < (S.2.2 21).toInt) ∧ ((z.2.1 9 (Int32.toNatClampNeg (S.2.2 5))).toInt = ((((S.1 9 (Int32.toNatClampNeg (S.2.2 5))).toInt + (S.2.2 21).toInt) - (S.1 28 (Int32.toNatClampNeg (S.2.2 20))).toInt) - 1))))))))
set_option maxRecDepth 100000 in
theorem gy_s_MD_endSequence_45 (S : gm_S) (k0_j37 : Int32) (S_j37 : gm_S) (h1 : gm_iW 50 (S.2.2 2) (S.1 3)) (h2 : gm_iN 1 (S.2.2 5)) (h3 : gm_iS 1 (S.2.2 2) (S.2.2 5) (S.1 6) (S.1 7) (S.1 8) (S.1 9) (S.1 10) (S.1 11) (S.1 12) (S.1 13) (S.2.2 21) (S.2.2 22) (S.1 30) (S.1 31)) (h4 : 0 ≤ (S.1 9 (Int32.toNatClampNeg (S.2.2 5))).toInt) (h5 : ((S.1 9 (Int32.toNatClampNeg (S.2.2 5))).toInt + (S.2.2 21).toInt) ≤ 120) (h6 : 0 ≤ (S.2.2 20).toInt) (h7 : (S.2.2 20).toInt ≤ 6) (h8 : 0 ≤ (S.1 28 (Int32.toNatClampNeg (S.2.2 20))).toInt) (h9 : (S.1 28 (Int32.toNatClampNeg (S.2.2 20))).toInt ≤ (S.2.2 21).toInt) (h10 : (S.2.2 21).toInt ≤ 55) (h11 : 0 ≤ (S.2.2 22).toInt) (h12 : (S.2.2 22).toInt ≤ 55) (h13 : 0 ≤ (S.1 6 (Int32.toNatClampNeg (S.2.2 5))).toInt) (h14 : (((S.2.2 21).toInt = (S.1 28 (Int32.toNatClampNeg (S.2.2 20))).toInt) ∧ ((S_j37.1 9 (Int32.toNatClampNeg (S.2.2 5))).toInt = ((S.1 9 (Int32.toNatClampNeg (S.2.2 5))).toInt + 1))) ∨ (((S.1 28 (Int32.toNatClampNeg (S.2.2 20))).toInt < (S.2.2 21).toInt) ∧ ((S_j37.1 9 (Int32.toNatClampNeg (S.2.2 5))).toInt = (S.1 9 (Int32.toNatClampNeg (S.2.2 5))).toInt))) : ∀ (n45 : Nat) (v2_45 : Int32) (v1_45 : Int32) (S_45 : gm_S), (gm_iS 1 (S.2.2 2) (S.2.2 5) (S.1 6) (S.1 7) (S.1 8) (S_45.1 9) (S_45.1 10) (S_45.1 11) (S_45.1 12) (S_45.1 13) (S_45.2.2 21) (S_45.2.2 22) (S.1 30) (S_45.1 31)) → ((S_45.1 9 (Int32.toNatClampNeg (S.2.2 5))).toInt = ((S_j37.1 9 (Int32.toNatClampNeg (S.2.2 5))).toInt + (((S.2.2 21).toInt - 2) - v2_45.toInt))) → (v2_45.toInt ≤ ((S.2.2 21).toInt - 2)) → ((((S.1 28 (Int32.toNatClampNeg (S.2.2 20))).toInt - 1) ≤ v2_45.toInt) ∨ (((S.2.2 21).toInt = (S.1 28 (Int32.toNatClampNeg (S.2.2 20))).toInt) ∧ (v2_45.toInt = ((S.1 28 (Int32.toNatClampNeg (S.2.2 20))).toInt - 2)))) → (((v2_45.toInt - (S.1 28 (Int32.toNatClampNeg (S.2.2 20))).toInt) + 2) < n45) → ((S_45.2.2 22).toInt = (S.2.2 22).toInt) → ((S_45.2.2 21).toInt = (S.2.2 21).toInt) → ((160 * (S.2.2 5).toInt) ≤ v1_45.toInt) → (v1_45.toInt < ((160 * (S.2.2 5).toInt) + (S_45.1 9 (Int32.toNatClampNeg (S.2.2 5))).toInt)) → gm_p_MD_endSequence_45 S k0_j37 S_j37 n45 v2_45 v1_45 S_45 ∧ gy_q_MD_endSequence S (gm_f_MD_endSequence_45 S k0_j37 S_j37 n45 v2_45 v1_45 S_45) := by
  intro n45
  induction n45 with
  | zero =>
    intro v2_45 v1_45 S_45 h15 h16 h17 h18 h19 h20 h21 h22 h23; exfalso; skip; omega
  | succ n45 ih =>
    intro v2_45 v1_45 S_45 h15 h16 h17 h18 h19 h20 h21 h22 h23
    rw [gm_p_MD_endSequence_45, gm_f_MD_endSequence_45]
    refine gx_in (Q := gy_q_MD_endSequence S) (vp_in_iff.mpr (by omega)) ?_
    refine gx_if (Q := gy_q_MD_endSequence S) (fun h24 => ?_) (fun h24 => ?_)
    · skip
      have h24_ := gx_lt h24
      refine gx_in (Q := gy_q_MD_endSequence S) (vp_in_iff.mpr (by omega)) ?_
      refine gx_in (Q := gy_q_MD_endSequence S) (vp_in_iff.mpr (by omega)) ?_
      exact ⟨trivial, ⟨(gx_iS_l h15 (show (S.1 28 (Int32.toNatClampNeg (S.2.2 20))).toInt ≤ (S_45.2.2 21).toInt from (by omega)) (show 0 ≤ (S_45.2.2 22).toInt from (by omega)) (show (S_45.2.2 22).toInt ≤ 100 from (by omega)) (show (160 * (S.2.2 5).toInt) ≤ v1_45.toInt from (by omega)) (show v1_45.toInt < ((160 * (S.2.2 5).toInt) + (S_45.1 9 (Int32.toNatClampNeg (S.2.2 5))).toInt) from (by omega))), (show ((S.1 28 (Int32.toNatClampNeg (S.2.2 20))).toInt = (S.1 28 (Int32.toNatClampNeg (S.2.2 20))).toInt) ∧ ((((S_45.2.2 22) + 1).toInt = ((S.2.2 22).toInt + 1)) ∧ (((S.1 9 (Int32.toNatClampNeg (S.2.2 5))).toInt ≤ (S_45.1 9 (Int32.toNatClampNeg (S.2.2 5))).toInt) ∧ ((((S.2.2 21).toInt = (S.1 28 (Int32.toNatClampNeg (S.2.2 20))).toInt) ∧ ((S_45.1 9 (Int32.toNatClampNeg (S.2.2 5))).toInt = ((S.1 9 (Int32.toNatClampNeg (S.2.2 5))).toInt + 1))) ∨ (((S.1 28 (Int32.toNatClampNeg (S.2.2 20))).toInt < (S.2.2 21).toInt) ∧ ((S_45.1 9 (Int32.toNatClampNeg (S.2.2 5))).toInt = ((((S.1 9 (Int32.toNatClampNeg (S.2.2 5))).toInt + (S.2.2 21).toInt) - (S.1 28 (Int32.toNatClampNeg (S.2.2 20))).toInt) - 1)))))) from (by have := gx_ak (S_45.2.2 22) 1 (1) (by decide); omega))⟩⟩
    · skip
      have h24_ := gx_ltn h24
      refine gx_in (Q := gy_q_MD_endSequence S) (vp_in_iff.mpr (by omega)) ?_
      refine gx_ca (Q := gy_q_MD_endSequence S) (gy_q_MD_create _ _ _ _) (gy_s_MD_create _ _ _ _ h1 h2 h15 (show 0 ≤ (S_45.1 9 (Int32.toNatClampNeg (S.2.2 5))).toInt from (by omega)) (show (S_45.1 9 (Int32.toNatClampNeg (S.2.2 5))).toInt ≤ 150 from (by omega)) (show (((4 : Int32).toInt = 0) ∨ ((4 : Int32).toInt = 2)) ∨ ((((4 : Int32).toInt = 1) ∧ ((0 ≤ (S.1 30 (Int32.toNatClampNeg v2_45)).toInt) ∧ ((1 ≤ v1_45.toInt) ∧ (((S.1 30 (Int32.toNatClampNeg v2_45)).toInt + v1_45.toInt) ≤ (S.2.2 2).toInt)))) ∨ ((((4 : Int32).toInt = 3) ∧ ((65 ≤ (S.1 30 (Int32.toNatClampNeg v2_45)).toInt) ∧ ((S.1 30 (Int32.toNatClampNeg v2_45)).toInt ≤ 90))) ∨ (((4 ≤ (4 : Int32).toInt) ∧ ((4 : Int32).toInt ≤ 10)) ∧ ((((160 * (S.2.2 5).toInt) ≤ (S.1 30 (Int32.toNatClampNeg v2_45)).toInt) ∧ ((S.1 30 (Int32.toNatClampNeg v2_45)).toInt < ((160 * (S.2.2 5).toInt) + (S_45.1 9 (Int32.toNatClampNeg (S.2.2 5))).toInt))) ∧ ((5 < (4 : Int32).toInt) ∨ (((160 * (S.2.2 5).toInt) ≤ v1_45.toInt) ∧ (v1_45.toInt < ((160 * (S.2.2 5).toInt) + (S_45.1 9 (Int32.toNatClampNeg (S.2.2 5))).toInt)))))))) from (by have := gx_iS_ri h3 (x := v2_45) (by omega) (by omega); have := gx_iS_ri h15 (x := v2_45) (by omega) (by omega); have : (4 : Int32).toInt = 4 := gx_lit 4 (by decide); omega)) h13) ?_
      intro r67 u67 h25
      have h25_0 : gm_iS 1 (S.2.2 2) (S.2.2 5) (S.1 6) (S.1 7) (S.1 8) (u67.1 9) (u67.1 10) (u67.1 11) (u67.1 12) (u67.1 13) (S_45.2.2 21) (S_45.2.2 22) (S.1 30) (S_45.1 31) := h25.1
      have h25_1 : ((u67.1 9 (Int32.toNatClampNeg (S.2.2 5))).toInt = ((S_45.1 9 (Int32.toNatClampNeg (S.2.2 5))).toInt + 1)) ∧ (r67.toInt = ((160 * (S.2.2 5).toInt) + (S_45.1 9 (Int32.toNatClampNeg (S.2.2 5))).toInt)) := h25.2
      clear h25
      refine ih _ _ _ ?_ ?_ ?_ ?_ ?_ ?_ ?_ ?_ ?_
      · exact h25_0
      · exact (show (u67.1 9 (Int32.toNatClampNeg (S.2.2 5))).toInt = ((S_j37.1 9 (Int32.toNatClampNeg (S.2.2 5))).toInt + (((S.2.2 21).toInt - 2) - (v2_45 + (-1)).toInt)) from (by have e0 := gx_ak v2_45 (-1) (-1) (by decide); generalize (v2_45 + (-1)).toInt = t0 at e0 ⊢; omega))
      · exact (show (v2_45 + (-1)).toInt ≤ ((S.2.2 21).toInt - 2) from (by have e0 := gx_ak v2_45 (-1) (-1) (by decide); generalize (v2_45 + (-1)).toInt = t0 at e0 ⊢; omega))
      · exact (show (((S.1 28 (Int32.toNatClampNeg (S.2.2 20))).toInt - 1) ≤ (v2_45 + (-1)).toInt) ∨ (((S.2.2 21).toInt = (S.1 28 (Int32.toNatClampNeg (S.2.2 20))).toInt) ∧ ((v2_45 + (-1)).toInt = ((S.1 28 (Int32.toNatClampNeg (S.2.2 20))).toInt - 2))) from (by have e0 := gx_ak v2_45 (-1) (-1) (by decide); generalize (v2_45 + (-1)).toInt = t0 at e0 ⊢; omega))
      · exact (show (((v2_45 + (-1)).toInt - (S.1 28 (Int32.toNatClampNeg (S.2.2 20))).toInt) + 2) < n45 from (by have e0 := gx_ak v2_45 (-1) (-1) (by decide); generalize (v2_45 + (-1)).toInt = t0 at e0 ⊢; omega))
      · exact h20
      · exact h21
      · exact (show (160 * (S.2.2 5).toInt) ≤ r67.toInt from (by omega))
      · exact (show r67.toInt < ((160 * (S.2.2 5).toInt) + (u67.1 9 (Int32.toNatClampNeg (S.2.2 5))).toInt) from (by omega))
set_option maxRecDepth 100000 in
theorem gy_s_MD_endSequence_j37 (S : gm_S) (k0_j37 : Int32) (S_j37 : gm_S) (h1 : gm_iW 50 (S.2.2 2) (S.1 3)) (h2 : gm_iN 1 (S.2.2 5)) (h3 : gm_iS 1 (S.2.2 2) (S.2.2 5) (S.1 6) (S.1 7) (S.1 8) (S.1 9) (S.1 10) (S.1 11) (S.1 12) (S.1 13) (S.2.2 21) (S.2.2 22) (S.1 30) (S.1 31)) (h4 : 0 ≤ (S.1 9 (Int32.toNatClampNeg (S.2.2 5))).toInt) (h5 : ((S.1 9 (Int32.toNatClampNeg (S.2.2 5))).toInt + (S.2.2 21).toInt) ≤ 120) (h6 : 0 ≤ (S.2.2 20).toInt) (h7 : (S.2.2 20).toInt ≤ 6) (h8 : 0 ≤ (S.1 28 (Int32.toNatClampNeg (S.2.2 20))).toInt) (h9 : (S.1 28 (Int32.toNatClampNeg (S.2.2 20))).toInt ≤ (S.2.2 21).toInt) (h10 : (S.2.2 21).toInt ≤ 55) (h11 : 0 ≤ (S.2.2 22).toInt) (h12 : (S.2.2 22).toInt ≤ 55) (h13 : 0 ≤ (S.1 6 (Int32.toNatClampNeg (S.2.2 5))).toInt) (h14 : (((S.2.2 21).toInt = (S.1 28 (Int32.toNatClampNeg (S.2.2 20))).toInt) ∧ ((S_j37.1 9 (Int32.toNatClampNeg (S.2.2 5))).toInt = ((S.1 9 (Int32.toNatClampNeg (S.2.2 5))).toInt + 1))) ∨ (((S.1 28 (Int32.toNatClampNeg (S.2.2 20))).toInt < (S.2.2 21).toInt) ∧ ((S_j37.1 9 (Int32.toNatClampNeg (S.2.2 5))).toInt = (S.1 9 (Int32.toNatClampNeg (S.2.2 5))).toInt))) (h15 : (S_j37.2.2 21).toInt = (S.2.2 21).toInt) (h16 : (S_j37.2.2 22).toInt = (S.2.2 22).toInt) (h17 : (160 * (S.2.2 5).toInt) ≤ k0_j37.toInt) (h18 : k0_j37.toInt < ((160 * (S.2.2 5).toInt) + (S_j37.1 9 (Int32.toNatClampNeg (S.2.2 5))).toInt)) (h19 : gm_iS 1 (S.2.2 2) (S.2.2 5) (S.1 6) (S.1 7) (S.1 8) (S_j37.1 9) (S_j37.1 10) (S_j37.1 11) (S_j37.1 12) (S_j37.1 13) (S_j37.2.2 21) (S_j37.2.2 22) (S.1 30) (S_j37.1 31)) : gm_p_MD_endSequence_j37 S k0_j37 S_j37 ∧ gy_q_MD_endSequence S (gm_f_MD_endSequence_j37 S k0_j37 S_j37) := by
  unfold gm_p_MD_endSequence_j37 gm_f_MD_endSequence_j37
  refine gy_s_MD_endSequence_45 _ _ _ ?_ ?_ ?_ ?_ ?_ ?_ ?_ ?_ ?_ ?_ ?_ ?_ ?_ ?_ _ _ _ _ ?_ ?_ ?_ ?_ ?_ ?_ ?_ ?_ ?_
  · exact h1
  · exact h2
  · exact h3
  · exact (show 0 ≤ (S.1 9 (Int32.toNatClampNeg (S.2.2 5))).toInt from (by omega))
  · exact (show ((S.1 9 (Int32.toNatClampNeg (S.2.2 5))).toInt + (S.2.2 21).toInt) ≤ 120 from (by omega))
  · exact (show 0 ≤ (S.2.2 20).toInt from (by omega))
  · exact (show (S.2.2 20).toInt ≤ 6 from (by omega))
  · exact (show 0 ≤ (S.1 28 (Int32.toNatClampNeg (S.2.2 20))).toInt from (by omega))
  · exact (show (S.1 28 (Int32.toNatClampNeg (S.2.2 20))).toInt ≤ (S.2.2 21).toInt from (by omega))
  · exact (show (S.2.2 21).toInt ≤ 55 from (by omega))
  · exact (show 0 ≤ (S.2.2 22).toInt from (by omega))
  · exact (show (S.2.2 22).toInt ≤ 55 from (by omega))
  · exact (show 0 ≤ (S.1 6 (Int32.toNatClampNeg (S.2.2 5))).toInt from (by omega))
  · exact (show (((S.2.2 21).toInt = (S.1 28 (Int32.toNatClampNeg (S.2.2 20))).toInt) ∧ ((S_j37.1 9 (Int32.toNatClampNeg (S.2.2 5))).toInt = ((S.1 9 (Int32.toNatClampNeg (S.2.2 5))).toInt + 1))) ∨ (((S.1 28 (Int32.toNatClampNeg (S.2.2 20))).toInt < (S.2.2 21).toInt) ∧ ((S_j37.1 9 (Int32.toNatClampNeg (S.2.2 5))).toInt = (S.1 9 (Int32.toNatClampNeg (S.2.2 5))).toInt)) from (by omega))
  · exact h19
  · exact (show (S_j37.1 9 (Int32.toNatClampNeg (S.2.2 5))).toInt = ((S_j37.1 9 (Int32.toNatClampNeg (S.2.2 5))).toInt + (((S.2.2 21).toInt - 2) - ((S_j37.2.2 21) - 2).toInt)) from (by have := gx_sk (S_j37.2.2 21) 2 (2) (gx_lit 2 (by decide)); omega))
  · exact (show ((S_j37.2.2 21) - 2).toInt ≤ ((S.2.2 21).toInt - 2) from (by have := gx_sk (S_j37.2.2 21) 2 (2) (gx_lit 2 (by decide)); omega))
  · exact (show (((S.1 28 (Int32.toNatClampNeg (S.2.2 20))).toInt - 1) ≤ ((S_j37.2.2 21) - 2).toInt) ∨ (((S.2.2 21).toInt = (S.1 28 (Int32.toNatClampNeg (S.2.2 20))).toInt) ∧ (((S_j37.2.2 21) - 2).toInt = ((S.1 28 (Int32.toNatClampNeg (S.2.2 20))).toInt - 2))) from (by have := gx_sk (S_j37.2.2 21) 2 (2) (gx_lit 2 (by decide)); omega))
  · exact (show ((((S_j37.2.2 21) - 2).toInt - (S.1 28 (Int32.toNatClampNeg (S.2.2 20))).toInt) + 2) < 200 from (by have := gx_sk (S_j37.2.2 21) 2 (2) (gx_lit 2 (by decide)); omega))
  · exact h16
  · exact h15
  · exact h17
  · exact h18
set_option maxRecDepth 100000 in
theorem gy_s_MD_endSequence (S : gm_S) (h1 : gm_iW 50 (S.2.2 2) (S.1 3)) (h2 : gm_iN 1 (S.2.2 5)) (h3 : gm_iS 1 (S.2.2 2) (S.2.2 5) (S.1 6) (S.1 7) (S.1 8) (S.1 9) (S.1 10) (S.1 11) (S.1 12) (S.1 13) (S.2.2 21) (S.2.2 22) (S.1 30) (S.1 31)) (h4 : 0 ≤ (S.1 9 (Int32.toNatClampNeg (S.2.2 5))).toInt) (h5 : ((S.1 9 (Int32.toNatClampNeg (S.2.2 5))).toInt + (S.2.2 21).toInt) ≤ 120) (h6 : 0 ≤ (S.2.2 20).toInt) (h7 : (S.2.2 20).toInt ≤ 6) (h8 : 0 ≤ (S.1 28 (Int32.toNatClampNeg (S.2.2 20))).toInt) (h9 : (S.1 28 (Int32.toNatClampNeg (S.2.2 20))).toInt ≤ (S.2.2 21).toInt) (h10 : (S.2.2 21).toInt ≤ 55) (h11 : 0 ≤ (S.2.2 22).toInt) (h12 : (S.2.2 22).toInt ≤ 55) (h13 : 0 ≤ (S.1 6 (Int32.toNatClampNeg (S.2.2 5))).toInt) : gm_p_MD_endSequence S ∧ gy_q_MD_endSequence S (gm_f_MD_endSequence S) := by
  unfold gm_p_MD_endSequence gm_f_MD_endSequence
  refine gx_in (Q := gy_q_MD_endSequence S) (vp_in_iff.mpr (by omega)) ?_
  refine gx_if (Q := gy_q_MD_endSequence S) (fun h14 => ?_) (fun h14 => ?_)
  · skip
    have h14_ := gx_eq h14
    refine gx_ca (Q := gy_q_MD_endSequence S) (gy_q_MD_create _ _ _ _) (gy_s_MD_create _ _ _ _ h1 h2 h3 h4 (show (S.1 9 (Int32.toNatClampNeg (S.2.2 5))).toInt ≤ 150 from (by omega)) (show (((0 : Int32).toInt = 0) ∨ ((0 : Int32).toInt = 2)) ∨ ((((0 : Int32).toInt = 1) ∧ ((0 ≤ ((-1) : Int32).toInt) ∧ ((1 ≤ ((-1) : Int32).toInt) ∧ ((((-1) : Int32).toInt + ((-1) : Int32).toInt) ≤ (S.2.2 2).toInt)))) ∨ ((((0 : Int32).toInt = 3) ∧ ((65 ≤ ((-1) : Int32).toInt) ∧ (((-1) : Int32).toInt ≤ 90))) ∨ (((4 ≤ (0 : Int32).toInt) ∧ ((0 : Int32).toInt ≤ 10)) ∧ ((((160 * (S.2.2 5).toInt) ≤ ((-1) : Int32).toInt) ∧ (((-1) : Int32).toInt < ((160 * (S.2.2 5).toInt) + (S.1 9 (Int32.toNatClampNeg (S.2.2 5))).toInt))) ∧ ((5 < (0 : Int32).toInt) ∨ (((160 * (S.2.2 5).toInt) ≤ ((-1) : Int32).toInt) ∧ (((-1) : Int32).toInt < ((160 * (S.2.2 5).toInt) + (S.1 9 (Int32.toNatClampNeg (S.2.2 5))).toInt)))))))) from (by have : ((-1) : Int32).toInt = -1 := (by decide); have : (0 : Int32).toInt = 0 := (by decide); omega)) h13) ?_
    intro r20 u20 h15
    have h15_0 : gm_iS 1 (S.2.2 2) (S.2.2 5) (S.1 6) (S.1 7) (S.1 8) (u20.1 9) (u20.1 10) (u20.1 11) (u20.1 12) (u20.1 13) (S.2.2 21) (S.2.2 22) (S.1 30) (S.1 31) := h15.1
    have h15_1 : ((u20.1 9 (Int32.toNatClampNeg (S.2.2 5))).toInt = ((S.1 9 (Int32.toNatClampNeg (S.2.2 5))).toInt + 1)) ∧ (r20.toInt = ((160 * (S.2.2 5).toInt) + (S.1 9 (Int32.toNatClampNeg (S.2.2 5))).toInt)) := h15.2
    clear h15
    refine gy_s_MD_endSequence_j37 _ _ _ ?_ ?_ ?_ ?_ ?_ ?_ ?_ ?_ ?_ ?_ ?_ ?_ ?_ ?_ ?_ ?_ ?_ ?_ ?_
    · exact h1
    · exact h2
    · exact h3
    · exact (show 0 ≤ (S.1 9 (Int32.toNatClampNeg (S.2.2 5))).toInt from (by omega))
    · exact (show ((S.1 9 (Int32.toNatClampNeg (S.2.2 5))).toInt + (S.2.2 21).toInt) ≤ 120 from (by omega))
    · exact (show 0 ≤ (S.2.2 20).toInt from (by omega))
    · exact (show (S.2.2 20).toInt ≤ 6 from (by omega))
    · exact (show 0 ≤ (S.1 28 (Int32.toNatClampNeg (S.2.2 20))).toInt from (by omega))
    · exact (show (S.1 28 (Int32.toNatClampNeg (S.2.2 20))).toInt ≤ (S.2.2 21).toInt from (by omega))
    · exact (show (S.2.2 21).toInt ≤ 55 from (by omega))
    · exact (show 0 ≤ (S.2.2 22).toInt from (by omega))
    · exact (show (S.2.2 22).toInt ≤ 55 from (by omega))
    · exact (show 0 ≤ (S.1 6 (Int32.toNatClampNeg (S.2.2 5))).toInt from (by omega))
    · exact (show (((S.2.2 21).toInt = (S.1 28 (Int32.toNatClampNeg (S.2.2 20))).toInt) ∧ ((u20.1 9 (Int32.toNatClampNeg (S.2.2 5))).toInt = ((S.1 9 (Int32.toNatClampNeg (S.2.2 5))).toInt + 1))) ∨ (((S.1 28 (Int32.toNatClampNeg (S.2.2 20))).toInt < (S.2.2 21).toInt) ∧ ((u20.1 9 (Int32.toNatClampNeg (S.2.2 5))).toInt = (S.1 9 (Int32.toNatClampNeg (S.2.2 5))).toInt)) from (by omega))
    · exact (show (S.2.2 21).toInt = (S.2.2 21).toInt from (by omega))
    · exact (show (S.2.2 22).toInt = (S.2.2 22).toInt from (by omega))
    · exact (show (160 * (S.2.2 5).toInt) ≤ r20.toInt from (by omega))
    · exact (show r20.toInt < ((160 * (S.2.2 5).toInt) + (u20.1 9 (Int32.toNatClampNeg (S.2.2 5))).toInt) from (by omega))
    · exact h15_0
  · skip
    have h14_ := gx_eqn h14
    refine gx_in (Q := gy_q_MD_endSequence S) (vp_in_iff.mpr (by have := gx_sk (S.2.2 21) 1 (1) (by decide); omega)) ?_
    refine gy_s_MD_endSequence_j37 _ _ _ ?_ ?_ ?_ ?_ ?_ ?_ ?_ ?_ ?_ ?_ ?_ ?_ ?_ ?_ ?_ ?_ ?_ ?_ ?_
    · exact h1
    · exact h2
    · exact h3
    · exact (show 0 ≤ (S.1 9 (Int32.toNatClampNeg (S.2.2 5))).toInt from (by omega))
    · exact (show ((S.1 9 (Int32.toNatClampNeg (S.2.2 5))).toInt + (S.2.2 21).toInt) ≤ 120 from (by omega))
    · exact (show 0 ≤ (S.2.2 20).toInt from (by omega))
    · exact (show (S.2.2 20).toInt ≤ 6 from (by omega))
    · exact (show 0 ≤ (S.1 28 (Int32.toNatClampNeg (S.2.2 20))).toInt from (by omega))
    · exact (show (S.1 28 (Int32.toNatClampNeg (S.2.2 20))).toInt ≤ (S.2.2 21).toInt from (by omega))
    · exact (show (S.2.2 21).toInt ≤ 55 from (by omega))
    · exact (show 0 ≤ (S.2.2 22).toInt from (by omega))
    · exact (show (S.2.2 22).toInt ≤ 55 from (by omega))
    · exact (show 0 ≤ (S.1 6 (Int32.toNatClampNeg (S.2.2 5))).toInt from (by omega))
    · exact (show (((S.2.2 21).toInt = (S.1 28 (Int32.toNatClampNeg (S.2.2 20))).toInt) ∧ ((S.1 9 (Int32.toNatClampNeg (S.2.2 5))).toInt = ((S.1 9 (Int32.toNatClampNeg (S.2.2 5))).toInt + 1))) ∨ (((S.1 28 (Int32.toNatClampNeg (S.2.2 20))).toInt < (S.2.2 21).toInt) ∧ ((S.1 9 (Int32.toNatClampNeg (S.2.2 5))).toInt = (S.1 9 (Int32.toNatClampNeg (S.2.2 5))).toInt)) from (by omega))
    · exact (show (S.2.2 21).toInt = (S.2.2 21).toInt from (by omega))
    · exact (show (S.2.2 22).toInt = (S.2.2 22).toInt from (by omega))
    · exact (show (160 * (S.2.2 5).toInt) ≤ (S.1 30 (Int32.toNatClampNeg ((S.2.2 21) - 1))).toInt from (by have := gx_sk (S.2.2 21) 1 (1) (by decide); have := gx_iS_ri h3 (x := (S.2.2 21) - 1) (by omega) (by omega); omega))
    · exact (show (S.1 30 (Int32.toNatClampNeg ((S.2.2 21) - 1))).toInt < ((160 * (S.2.2 5).toInt) + (S.1 9 (Int32.toNatClampNeg (S.2.2 5))).toInt) from (by have := gx_sk (S.2.2 21) 1 (1) (by decide); have := gx_iS_ri h3 (x := (S.2.2 21) - 1) (by omega) (by omega); omega))
    · exact h3
abbrev gy_q_MD_close (S : gm_S) (z : Int32 × (gm_S)) : Prop := (gm_iC (z.2.2.2 20) (z.2.2.2 21) (z.2.2.2 22) (S.1 26) (S.1 28) (S.1 29)) ∧ (gm_iS 1 (S.2.2 2) (S.2.2 5) (S.1 6) (S.1 7) (z.2.1 8) (z.2.1 9) (z.2.1 10) (z.2.1 11) (z.2.1 12) (z.2.1 13) (z.2.2.2 21) (z.2.2.2 22) (z.2.1 30) (z.2.1 31)) ∧ (((((z.2.2.2 25).toInt ≠ 0) ∨ (((160 * (S.2.2 5).toInt) ≤ (z.2.1 8 (Int32.toNatClampNeg ((8 * (S.2.2 5)) + (S.1 6 (Int32.toNatClampNeg (S.2.2 5)))))).toInt) ∧ ((z.2.1 8 (Int32.toNatClampNeg ((8 * (S.2.2 5)) + (S.1 6 (Int32.toNatClampNeg (S.2.2 5)))))).toInt < ((160 * (S.2.2 5).toInt) + (z.2.1 9 (Int32.toNatClampNeg (S.2.2 5))).toInt))))) ∧ ((0 ≤ (z.2.1 9 (Int32.toNatClampNeg (S.2.2 5))).toInt) ∧ (((S.2.2 19).toInt ≤ (z.2.2.2 19).toInt) ∧ (((z.2.2.2 19).toInt ≤ (S.2.2 2).toInt) ∧ ((0 ≤ (z.2.2.2 20).toInt) ∧ (((z.2.2.2 20).toInt ≤ 6) ∧ ((0 ≤ (z.2.2.2 21).toInt) ∧ ((0 ≤ (z.2.2.2 22).toInt) ∧ (((z.2.2.2 23).toInt = 0) ∧ ((((((z.2.1 9 (Int32.toNatClampNeg (S.2.2 5))).toInt + (z.2.2.2 21).toInt) + (z.2.2.2 22).toInt) + (2 * (z.2.2.2 20).toInt)) ≤ ((((((S.1 9 (Int32.toNatClampNeg (S.2.2 5))).toInt + (S.2.2 21).toInt) + (S.2.2 22).toInt) + (2 * (S.2.2 20).toInt)) + 2) + (2 * ((z.2.2.2 19).toInt - (S.2.2 19).toInt)))) ∧ (((((z.2.2.2 21).toInt + (z.2.2.2 22).toInt) + (z.2.2.2 20).toInt) ≤ (((S.2.2 21).toInt + (S.2.2 22).toInt) + (S.2.2 20).toInt)))))))))))))
set_option maxRecDepth 100000 in
theorem gy_s_MD_close_23 (S : gm_S) (u1 : gm_S) (h1 : gm_iW 50 (S.2.2 2) (S.1 3)) (h2 : gm_iN 1 (S.2.2 5)) (h3 : gm_iC (S.2.2 20) (S.2.2 21) (S.2.2 22) (S.1 26) (S.1 28) (S.1 29)) (h4 : gm_iS 1 (S.2.2 2) (S.2.2 5) (S.1 6) (S.1 7) (S.1 8) (S.1 9) (S.1 10) (S.1 11) (S.1 12) (S.1 13) (S.2.2 21) (S.2.2 22) (S.1 30) (S.1 31)) (h5 : 0 ≤ (S.1 9 (Int32.toNatClampNeg (S.2.2 5))).toInt) (h6 : (((S.1 9 (Int32.toNatClampNeg (S.2.2 5))).toInt + (S.2.2 21).toInt) + (S.2.2 22).toInt) ≤ 110) (h7 : 0 ≤ (S.2.2 19).toInt) (h8 : (S.2.2 19).toInt ≤ (S.2.2 2).toInt) (h9 : 0 ≤ (S.2.2 20).toInt) (h10 : (S.2.2 20).toInt ≤ 6) (h11 : (S.2.2 21).toInt ≤ 50) (h12 : (S.2.2 22).toInt ≤ 50) (h13 : (S.2.2 23).toInt = 0) (h14 : 0 ≤ (S.1 6 (Int32.toNatClampNeg (S.2.2 5))).toInt) (h15 : (S.1 6 (Int32.toNatClampNeg (S.2.2 5))).toInt ≤ 7) (h16 : (S.2.2 25).toInt ≠ 0) (h17 : (u1.2.2 21).toInt = (S.1 28 (Int32.toNatClampNeg (S.2.2 20))).toInt) : ∀ (n23 : Nat) (v2_23 : Int32) (v1_23 : Int32) (S_23 : gm_S), (gm_iC (S_23.2.2 20) (S_23.2.2 21) (S_23.2.2 22) (S.1 26) (S.1 28) (S.1 29)) → (gm_iS 1 (S.2.2 2) (S.2.2 5) (S.1 6) (S.1 7) (S_23.1 8) (S_23.1 9) (S_23.1 10) (S_23.1 11) (S_23.1 12) (S_23.1 13) (S_23.2.2 21) (S_23.2.2 22) (S_23.1 30) (S_23.1 31)) → ((S_23.2.2 20) = (S.2.2 20)) → ((S_23.2.2 19) = (S.2.2 19)) → ((S_23.2.2 21).toInt = (S.1 28 (Int32.toNatClampNeg (S.2.2 20))).toInt) → ((S_23.2.2 22).toInt = ((S.2.2 22).toInt + 1)) → ((S_23.2.2 23).toInt = 0) → (((S.1 29 (Int32.toNatClampNeg (S.2.2 20))).toInt - 1) ≤ v2_23.toInt) → (v2_23.toInt ≤ ((S.2.2 22).toInt - 1)) → (((v2_23.toInt - (S.1 29 (Int32.toNatClampNeg (S.2.2 20))).toInt) + 2) < n23) → (0 ≤ (S_23.1 9 (Int32.toNatClampNeg (S.2.2 5))).toInt) → ((((S_23.1 9 (Int32.toNatClampNeg (S.2.2 5))).toInt + v2_23.toInt) + (S.1 28 (Int32.toNatClampNeg (S.2.2 20))).toInt) ≤ (((S.1 9 (Int32.toNatClampNeg (S.2.2 5))).toInt + (S.2.2 21).toInt) + (S.2.2 22).toInt)) → ((S_23.2.2 25).toInt = (S.2.2 25).toInt) → ((160 * (S.2.2 5).toInt) ≤ v1_23.toInt) → (v1_23.toInt < ((160 * (S.2.2 5).toInt) + (S_23.1 9 (Int32.toNatClampNeg (S.2.2 5))).toInt)) → gm_p_MD_close_23 S u1 n23 v2_23 v1_23 S_23 ∧ gy_q_MD_close S (gm_f_MD_close_23 S u1 n23 v2_23 v1_23 S_23) := by
  intro n23
  induction n23 with
  | zero =>
    intro v2_23 v1_23 S_23 h18 h19 h20 h21 h22 h23 h24 h25 h26 h27 h28 h29 h30 h31 h32; exfalso; have := gx_iC_f h3 (by omega); omega
  | succ n23 ih =>
    intro v2_23 v1_23 S_23 h18 h19 h20 h21 h22 h23 h24 h25 h26 h27 h28 h29 h30 h31 h32
    rw [gm_p_MD_close_23, gm_f_MD_close_23]
    try dsimp only
    rw [show (S_23.2.2 20) = (S.2.2 20) from h20]
    rw [show (S_23.2.2 19) = (S.2.2 19) from h21]
    refine gx_in (Q := gy_q_MD_close S) (vp_in_iff.mpr (by have := gx_iC_f h3 (by omega); omega)) ?_
    refine gx_if (Q := gy_q_MD_close S) (fun h33 => ?_) (fun h33 => ?_)
    · skip
      have h33_ := gx_lt h33
      refine gx_in (Q := gy_q_MD_close S) (vp_in_iff.mpr (by have := gx_iC_f h3 (by omega); omega)) ?_
      refine gx_in (Q := gy_q_MD_close S) (vp_in_iff.mpr (by have := gx_iC_f h3 (by omega); omega)) ?_
      refine gx_if (Q := gy_q_MD_close S) (fun h34 => ?_) (fun h34 => ?_)
      · skip
        have h34_ := gx_eqr (k := 59) (gx_lit 59 (by decide)) h34
        refine gx_in (Q := gy_q_MD_close S) (vp_in_iff.mpr (by have := gx_iC_f h3 (by omega); omega)) ?_
        refine gx_in (Q := gy_q_MD_close S) (vp_in_iff.mpr (by have := gx_iC_f h3 (by omega); have := gx_ad (8 * (S.2.2 5)) (S.1 6 (Int32.toNatClampNeg (S.2.2 5))); have := gx_mk 8 (S.2.2 5) 8 (gx_lit 8 (by decide)); omega)) ?_
        exact ⟨trivial, ⟨(gx_iC_s h3 (show (S.1 28 (Int32.toNatClampNeg (S.2.2 20))).toInt ≤ (S_23.2.2 21).toInt from (by have := gx_iC_f h3 (by omega); omega)) (show (S.1 29 (Int32.toNatClampNeg (S.2.2 20))).toInt ≤ (S.1 29 (Int32.toNatClampNeg (S.2.2 20))).toInt from (by have := gx_iC_f h3 (by omega); omega))), (gx_iS_h h19 (by have := gx_iC_f h3 (by omega); have := gx_ad (8 * (S.2.2 5)) (S.1 6 (Int32.toNatClampNeg (S.2.2 5))); have := gx_mk 8 (S.2.2 5) 8 (gx_lit 8 (by decide)); have c9 := gx_cl ((8 * (S.2.2 5)) + (S.1 6 (Int32.toNatClampNeg (S.2.2 5)))) (by omega); omega) (show (S_23.2.2 21).toInt ≤ (S_23.2.2 21).toInt from (by have := gx_iC_f h3 (by omega); omega)) (show (S.1 29 (Int32.toNatClampNeg (S.2.2 20))).toInt ≤ (S_23.2.2 22).toInt from (by have := gx_iC_f h3 (by omega); omega))), (show (((0 : Int32).toInt ≠ 0) ∨ (((160 * (S.2.2 5).toInt) ≤ (upd (S_23.1 8) (Int32.toNatClampNeg ((8 * (S.2.2 5)) + (S.1 6 (Int32.toNatClampNeg (S.2.2 5))))) v1_23 (Int32.toNatClampNeg ((8 * (S.2.2 5)) + (S.1 6 (Int32.toNatClampNeg (S.2.2 5)))))).toInt) ∧ ((upd (S_23.1 8) (Int32.toNatClampNeg ((8 * (S.2.2 5)) + (S.1 6 (Int32.toNatClampNeg (S.2.2 5))))) v1_23 (Int32.toNatClampNeg ((8 * (S.2.2 5)) + (S.1 6 (Int32.toNatClampNeg (S.2.2 5)))))).toInt < ((160 * (S.2.2 5).toInt) + (S_23.1 9 (Int32.toNatClampNeg (S.2.2 5))).toInt)))) ∧ ((0 ≤ (S_23.1 9 (Int32.toNatClampNeg (S.2.2 5))).toInt) ∧ (((S.2.2 19).toInt ≤ (S.2.2 19).toInt) ∧ (((S.2.2 19).toInt ≤ (S.2.2 2).toInt) ∧ ((0 ≤ (S.2.2 20).toInt) ∧ (((S.2.2 20).toInt ≤ 6) ∧ ((0 ≤ (S_23.2.2 21).toInt) ∧ ((0 ≤ (S.1 29 (Int32.toNatClampNeg (S.2.2 20))).toInt) ∧ (((S_23.2.2 23).toInt = 0) ∧ ((((((S_23.1 9 (Int32.toNatClampNeg (S.2.2 5))).toInt + (S_23.2.2 21).toInt) + (S.1 29 (Int32.toNatClampNeg (S.2.2 20))).toInt) + (2 * (S.2.2 20).toInt)) ≤ ((((((S.1 9 (Int32.toNatClampNeg (S.2.2 5))).toInt + (S.2.2 21).toInt) + (S.2.2 22).toInt) + (2 * (S.2.2 20).toInt)) + 2) + (2 * ((S.2.2 19).toInt - (S.2.2 19).toInt)))) ∧ ((((S_23.2.2 21).toInt + (S.1 29 (Int32.toNatClampNeg (S.2.2 20))).toInt) + (S.2.2 20).toInt) ≤ (((S.2.2 21).toInt + (S.2.2 22).toInt) + (S.2.2 20).toInt))))))))))) from (by rw [gx_us]; exact (show (((0 : Int32).toInt ≠ 0) ∨ (((160 * (S.2.2 5).toInt) ≤ v1_23.toInt) ∧ (v1_23.toInt < ((160 * (S.2.2 5).toInt) + (S_23.1 9 (Int32.toNatClampNeg (S.2.2 5))).toInt)))) ∧ ((0 ≤ (S_23.1 9 (Int32.toNatClampNeg (S.2.2 5))).toInt) ∧ (((S.2.2 19).toInt ≤ (S.2.2 19).toInt) ∧ (((S.2.2 19).toInt ≤ (S.2.2 2).toInt) ∧ ((0 ≤ (S.2.2 20).toInt) ∧ (((S.2.2 20).toInt ≤ 6) ∧ ((0 ≤ (S_23.2.2 21).toInt) ∧ ((0 ≤ (S.1 29 (Int32.toNatClampNeg (S.2.2 20))).toInt) ∧ (((S_23.2.2 23).toInt = 0) ∧ ((((((S_23.1 9 (Int32.toNatClampNeg (S.2.2 5))).toInt + (S_23.2.2 21).toInt) + (S.1 29 (Int32.toNatClampNeg (S.2.2 20))).toInt) + (2 * (S.2.2 20).toInt)) ≤ ((((((S.1 9 (Int32.toNatClampNeg (S.2.2 5))).toInt + (S.2.2 21).toInt) + (S.2.2 22).toInt) + (2 * (S.2.2 20).toInt)) + 2) + (2 * ((S.2.2 19).toInt - (S.2.2 19).toInt)))) ∧ ((((S_23.2.2 21).toInt + (S.1 29 (Int32.toNatClampNeg (S.2.2 20))).toInt) + (S.2.2 20).toInt) ≤ (((S.2.2 21).toInt + (S.2.2 22).toInt) + (S.2.2 20).toInt))))))))))) from (by have := gx_iC_f h3 (by omega); have : (0 : Int32).toInt = 0 := (by decide); omega))))⟩⟩
      · skip
        have h34_d := gx_iC_b h3 (by omega) h34
        have h34_ := gx_eqnr (k := 59) (gx_lit 59 (by decide)) h34
        refine gx_in (Q := gy_q_MD_close S) (vp_in_iff.mpr (by have := gx_iC_f h3 (by omega); omega)) ?_
        have key137 : ∀ (k0_j137 : Int32) (S_j137 : gm_S), (gm_iC (S_j137.2.2 20) (S_j137.2.2 21) (S_j137.2.2 22) (S.1 26) (S.1 28) (S.1 29)) → (gm_iS 1 (S.2.2 2) (S.2.2 5) (S.1 6) (S.1 7) (S_j137.1 8) (S_j137.1 9) (S_j137.1 10) (S_j137.1 11) (S_j137.1 12) (S_j137.1 13) (S_j137.2.2 21) (S_j137.2.2 22) (S_j137.1 30) (S_j137.1 31)) → ((S_j137.2.2 20).toInt = (S.2.2 20).toInt) → ((S_j137.2.2 19).toInt = (S.2.2 19).toInt) → ((S_j137.2.2 21).toInt = (S.1 28 (Int32.toNatClampNeg (S.2.2 20))).toInt) → ((S_j137.2.2 22).toInt = (S.1 29 (Int32.toNatClampNeg (S.2.2 20))).toInt) → (0 ≤ (S_j137.1 9 (Int32.toNatClampNeg (S.2.2 5))).toInt) → ((((S_j137.1 9 (Int32.toNatClampNeg (S.2.2 5))).toInt + (S.1 28 (Int32.toNatClampNeg (S.2.2 20))).toInt) + (S.1 29 (Int32.toNatClampNeg (S.2.2 20))).toInt) ≤ ((((S.1 9 (Int32.toNatClampNeg (S.2.2 5))).toInt + (S.2.2 21).toInt) + (S.2.2 22).toInt) + 2)) → ((S_j137.2.2 25).toInt = (S.2.2 25).toInt) → ((160 * (S.2.2 5).toInt) ≤ k0_j137.toInt) → (k0_j137.toInt < ((160 * (S.2.2 5).toInt) + (S_j137.1 9 (Int32.toNatClampNeg (S.2.2 5))).toInt)) → ((vp_in (S_j137.2.2 20) 8) ∧ ((gm_p_MD_primary k0_j137 (va_up (va_up (va_up (va_up (va_up (va_up (va_up (va_up S.1 8 (S_j137.1 8)) 9 (S_j137.1 9)) 10 (S_j137.1 10)) 11 (S_j137.1 11)) 12 (S_j137.1 12)) 13 (S_j137.1 13)) 30 (S_j137.1 30)) 31 (S_j137.1 31), va_up (va_up S.2.1 17 (S_j137.2.1 17)) 18 (S_j137.2.1 18), va_up (va_up (va_up (va_up (va_up (va_up S.2.2 19 (S_j137.2.2 19)) 20 ((S_j137.2.2 20) - 1)) 21 (S_j137.2.2 21)) 22 (S_j137.2.2 22)) 23 (S.1 27 (Int32.toNatClampNeg (S_j137.2.2 20)))) 25 (S_j137.2.2 25))) ∧ (gm_bd (gm_f_MD_primary k0_j137 (va_up (va_up (va_up (va_up (va_up (va_up (va_up (va_up S.1 8 (S_j137.1 8)) 9 (S_j137.1 9)) 10 (S_j137.1 10)) 11 (S_j137.1 11)) 12 (S_j137.1 12)) 13 (S_j137.1 13)) 30 (S_j137.1 30)) 31 (S_j137.1 31), va_up (va_up S.2.1 17 (S_j137.2.1 17)) 18 (S_j137.2.1 18), va_up (va_up (va_up (va_up (va_up (va_up S.2.2 19 (S_j137.2.2 19)) 20 ((S_j137.2.2 20) - 1)) 21 (S_j137.2.2 21)) 22 (S_j137.2.2 22)) 23 (S.1 27 (Int32.toNatClampNeg (S_j137.2.2 20)))) 25 (S_j137.2.2 25))) (fun _ u163 => True)))) ∧ gy_q_MD_close S (gm_bd (gm_f_MD_primary k0_j137 (va_up (va_up (va_up (va_up (va_up (va_up (va_up (va_up S.1 8 (S_j137.1 8)) 9 (S_j137.1 9)) 10 (S_j137.1 10)) 11 (S_j137.1 11)) 12 (S_j137.1 12)) 13 (S_j137.1 13)) 30 (S_j137.1 30)) 31 (S_j137.1 31), va_up (va_up S.2.1 17 (S_j137.2.1 17)) 18 (S_j137.2.1 18), va_up (va_up (va_up (va_up (va_up (va_up S.2.2 19 (S_j137.2.2 19)) 20 ((S_j137.2.2 20) - 1)) 21 (S_j137.2.2 21)) 22 (S_j137.2.2 22)) 23 (S.1 27 (Int32.toNatClampNeg (S_j137.2.2 20)))) 25 (S_j137.2.2 25))) (fun _ u163 => (0, (va_up (va_up (va_up (va_up (va_up (va_up (va_up (va_up S.1 8 (S_j137.1 8)) 9 (u163.1 9)) 10 (u163.1 10)) 11 (u163.1 11)) 12 (u163.1 12)) 13 (u163.1 13)) 30 (u163.1 30)) 31 (S_j137.1 31), va_up (va_up S.2.1 17 (u163.2.1 17)) 18 (u163.2.1 18), va_up (va_up (va_up (va_up (va_up (va_up S.2.2 19 (u163.2.2 19)) 20 ((S_j137.2.2 20) - 1)) 21 (u163.2.2 21)) 22 (S_j137.2.2 22)) 23 (u163.2.2 23)) 25 (S_j137.2.2 25))))) := by
          intro k0_j137 S_j137 h35 h36 h37 h38 h39 h40 h41 h42 h43 h44 h45
          try dsimp only
          refine gx_in (Q := gy_q_MD_close S) (vp_in_iff.mpr (by have := gx_iC_f h3 (by omega); omega)) ?_
          refine gx_ca (Q := gy_q_MD_close S) (gy_q_MD_primary _ _) (gy_s_MD_primary _ _ h1 h2 h36 h41 (show (S_j137.1 9 (Int32.toNatClampNeg (S.2.2 5))).toInt ≤ 145 from (by have := gx_iC_f h3 (by omega); omega)) (show 0 ≤ (S_j137.2.2 19).toInt from (by have := gx_iC_f h3 (by omega); omega)) (show (S_j137.2.2 19).toInt ≤ (S.2.2 2).toInt from (by have := gx_iC_f h3 (by omega); omega)) (show 0 ≤ (S_j137.2.2 21).toInt from (by have := gx_iC_f h3 (by omega); omega)) (show (S_j137.2.2 21).toInt ≤ 58 from (by have := gx_iC_f h3 (by omega); omega)) h44 h45 h14) ?_
          intro r_h46 u163 h46
          have h46_0 : gm_iS 1 (S.2.2 2) (S.2.2 5) (S.1 6) (S.1 7) (S_j137.1 8) (u163.1 9) (u163.1 10) (u163.1 11) (u163.1 12) (u163.1 13) (u163.2.2 21) (S_j137.2.2 22) (u163.1 30) (S_j137.1 31) := h46.1
          have h46_1 : ((u163.2.2 21).toInt = ((S_j137.2.2 21).toInt + 1)) ∧ (((u163.2.2 23).toInt = 0) ∧ (((S_j137.2.2 19).toInt ≤ (u163.2.2 19).toInt) ∧ (((u163.2.2 19).toInt ≤ ((S_j137.2.2 19).toInt + 1)) ∧ (((u163.2.2 19).toInt ≤ (S.2.2 2).toInt) ∧ (((S_j137.1 9 (Int32.toNatClampNeg (S.2.2 5))).toInt ≤ (u163.1 9 (Int32.toNatClampNeg (S.2.2 5))).toInt) ∧ (((u163.1 9 (Int32.toNatClampNeg (S.2.2 5))).toInt ≤ ((S_j137.1 9 (Int32.toNatClampNeg (S.2.2 5))).toInt + (2 * ((u163.2.2 19).toInt - (S_j137.2.2 19).toInt)))) ∨ (((S.1 27 (Int32.toNatClampNeg (S_j137.2.2 20))).toInt ≠ 0) ∧ ((u163.1 9 (Int32.toNatClampNeg (S.2.2 5))).toInt ≤ (((S_j137.1 9 (Int32.toNatClampNeg (S.2.2 5))).toInt + (2 * ((u163.2.2 19).toInt - (S_j137.2.2 19).toInt))) + 1))))))))) := h46.2
          clear h46
          exact ⟨trivial, ⟨(gx_iC_p h3 (show ((S_j137.2.2 20) - 1).toInt = ((S.2.2 20).toInt - 1) from (by have := gx_iC_f h3 (by omega); have := gx_sk (S_j137.2.2 20) 1 (1) (by decide); omega)) (show 1 ≤ (S.2.2 20).toInt from (by have := gx_iC_f h3 (by omega); omega)) (show (S.1 28 (Int32.toNatClampNeg (S.2.2 20))).toInt ≤ (u163.2.2 21).toInt from (by have := gx_iC_f h3 (by omega); omega)) (show (S.1 29 (Int32.toNatClampNeg (S.2.2 20))).toInt ≤ (S_j137.2.2 22).toInt from (by have := gx_iC_f h3 (by omega); omega))), h46_0, (show (((S_j137.2.2 25).toInt ≠ 0) ∨ (((160 * (S.2.2 5).toInt) ≤ (S_j137.1 8 (Int32.toNatClampNeg ((8 * (S.2.2 5)) + (S.1 6 (Int32.toNatClampNeg (S.2.2 5)))))).toInt) ∧ ((S_j137.1 8 (Int32.toNatClampNeg ((8 * (S.2.2 5)) + (S.1 6 (Int32.toNatClampNeg (S.2.2 5)))))).toInt < ((160 * (S.2.2 5).toInt) + (u163.1 9 (Int32.toNatClampNeg (S.2.2 5))).toInt)))) ∧ ((0 ≤ (u163.1 9 (Int32.toNatClampNeg (S.2.2 5))).toInt) ∧ (((S.2.2 19).toInt ≤ (u163.2.2 19).toInt) ∧ (((u163.2.2 19).toInt ≤ (S.2.2 2).toInt) ∧ ((0 ≤ ((S_j137.2.2 20) - 1).toInt) ∧ ((((S_j137.2.2 20) - 1).toInt ≤ 6) ∧ ((0 ≤ (u163.2.2 21).toInt) ∧ ((0 ≤ (S_j137.2.2 22).toInt) ∧ (((u163.2.2 23).toInt = 0) ∧ ((((((u163.1 9 (Int32.toNatClampNeg (S.2.2 5))).toInt + (u163.2.2 21).toInt) + (S_j137.2.2 22).toInt) + (2 * ((S_j137.2.2 20) - 1).toInt)) ≤ ((((((S.1 9 (Int32.toNatClampNeg (S.2.2 5))).toInt + (S.2.2 21).toInt) + (S.2.2 22).toInt) + (2 * (S.2.2 20).toInt)) + 2) + (2 * ((u163.2.2 19).toInt - (S.2.2 19).toInt)))) ∧ ((((u163.2.2 21).toInt + (S_j137.2.2 22).toInt) + ((S_j137.2.2 20) - 1).toInt) ≤ (((S.2.2 21).toInt + (S.2.2 22).toInt) + (S.2.2 20).toInt))))))))))) from (by have := gx_iC_f h3 (by omega); have := gx_ad (8 * (S.2.2 5)) (S.1 6 (Int32.toNatClampNeg (S.2.2 5))); have := gx_sk (S_j137.2.2 20) 1 (1) (by decide); have := gx_mk 8 (S.2.2 5) 8 (gx_lit 8 (by decide)); omega))⟩⟩
        refine gx_if (Q := gy_q_MD_close S) (fun h35 => ?_) (fun h35 => ?_)
        · skip
          have h35_ := gx_eqr (k := 123) (gx_lit 123 (by decide)) h35
          refine gx_ca (Q := gy_q_MD_close S) (gy_q_MD_create _ _ _ _) (gy_s_MD_create _ _ _ _ h1 h2 (gx_iS_w h19 (show (S_23.2.2 21).toInt ≤ (S_23.2.2 21).toInt from (by have := gx_iC_f h3 (by omega); omega)) (show (S.1 29 (Int32.toNatClampNeg (S.2.2 20))).toInt ≤ (S_23.2.2 22).toInt from (by have := gx_iC_f h3 (by omega); omega))) h28 (show (S_23.1 9 (Int32.toNatClampNeg (S.2.2 5))).toInt ≤ 150 from (by have := gx_iC_f h3 (by omega); omega)) (show (((10 : Int32).toInt = 0) ∨ ((10 : Int32).toInt = 2)) ∨ ((((10 : Int32).toInt = 1) ∧ ((0 ≤ v1_23.toInt) ∧ ((1 ≤ ((-1) : Int32).toInt) ∧ ((v1_23.toInt + ((-1) : Int32).toInt) ≤ (S.2.2 2).toInt)))) ∨ ((((10 : Int32).toInt = 3) ∧ ((65 ≤ v1_23.toInt) ∧ (v1_23.toInt ≤ 90))) ∨ (((4 ≤ (10 : Int32).toInt) ∧ ((10 : Int32).toInt ≤ 10)) ∧ ((((160 * (S.2.2 5).toInt) ≤ v1_23.toInt) ∧ (v1_23.toInt < ((160 * (S.2.2 5).toInt) + (S_23.1 9 (Int32.toNatClampNeg (S.2.2 5))).toInt))) ∧ ((5 < (10 : Int32).toInt) ∨ (((160 * (S.2.2 5).toInt) ≤ ((-1) : Int32).toInt) ∧ (((-1) : Int32).toInt < ((160 * (S.2.2 5).toInt) + (S_23.1 9 (Int32.toNatClampNeg (S.2.2 5))).toInt)))))))) from (by have := gx_iC_f h3 (by omega); have : ((-1) : Int32).toInt = -1 := (by decide); have : (10 : Int32).toInt = 10 := gx_lit 10 (by decide); omega)) h14) ?_
          intro r130 u130 h36
          have h36_0 : gm_iS 1 (S.2.2 2) (S.2.2 5) (S.1 6) (S.1 7) (S_23.1 8) (u130.1 9) (u130.1 10) (u130.1 11) (u130.1 12) (u130.1 13) (S_23.2.2 21) (S.1 29 (Int32.toNatClampNeg (S.2.2 20))) (S_23.1 30) (S_23.1 31) := h36.1
          have h36_1 : ((u130.1 9 (Int32.toNatClampNeg (S.2.2 5))).toInt = ((S_23.1 9 (Int32.toNatClampNeg (S.2.2 5))).toInt + 1)) ∧ (r130.toInt = ((160 * (S.2.2 5).toInt) + (S_23.1 9 (Int32.toNatClampNeg (S.2.2 5))).toInt)) := h36.2
          clear h36
          refine key137 r130 (va_up (va_up (va_up (va_up (va_up (va_up (va_up (va_up S.1 8 (S_23.1 8)) 9 (u130.1 9)) 10 (u130.1 10)) 11 (u130.1 11)) 12 (u130.1 12)) 13 (u130.1 13)) 30 (S_23.1 30)) 31 (S_23.1 31), va_up (va_up S.2.1 17 (u130.2.1 17)) 18 (u130.2.1 18), va_up (va_up (va_up (va_up (va_up (va_up S.2.2 19 (S.2.2 19)) 20 (S.2.2 20)) 21 (S_23.2.2 21)) 22 (S.1 29 (Int32.toNatClampNeg (S.2.2 20)))) 23 (S_23.2.2 23)) 25 (S_23.2.2 25)) ?_ ?_ ?_ ?_ ?_ ?_ ?_ ?_ ?_ ?_ ?_
          · exact (gx_iC_s h3 (show (S.1 28 (Int32.toNatClampNeg (S.2.2 20))).toInt ≤ (S_23.2.2 21).toInt from (by have := gx_iC_f h3 (by omega); omega)) (show (S.1 29 (Int32.toNatClampNeg (S.2.2 20))).toInt ≤ (S.1 29 (Int32.toNatClampNeg (S.2.2 20))).toInt from (by have := gx_iC_f h3 (by omega); omega)))
          · exact h36_0
          · exact (show (S.2.2 20).toInt = (S.2.2 20).toInt from (by have := gx_iC_f h3 (by omega); omega))
          · exact (show (S.2.2 19).toInt = (S.2.2 19).toInt from (by have := gx_iC_f h3 (by omega); omega))
          · exact h22
          · exact (show (S.1 29 (Int32.toNatClampNeg (S.2.2 20))).toInt = (S.1 29 (Int32.toNatClampNeg (S.2.2 20))).toInt from (by have := gx_iC_f h3 (by omega); omega))
          · exact (show 0 ≤ (u130.1 9 (Int32.toNatClampNeg (S.2.2 5))).toInt from (by have := gx_iC_f h3 (by omega); omega))
          · exact (show (((u130.1 9 (Int32.toNatClampNeg (S.2.2 5))).toInt + (S.1 28 (Int32.toNatClampNeg (S.2.2 20))).toInt) + (S.1 29 (Int32.toNatClampNeg (S.2.2 20))).toInt) ≤ ((((S.1 9 (Int32.toNatClampNeg (S.2.2 5))).toInt + (S.2.2 21).toInt) + (S.2.2 22).toInt) + 2) from (by have := gx_iC_f h3 (by omega); omega))
          · exact h30
          · exact (show (160 * (S.2.2 5).toInt) ≤ r130.toInt from (by have := gx_iC_f h3 (by omega); omega))
          · exact (show r130.toInt < ((160 * (S.2.2 5).toInt) + (u130.1 9 (Int32.toNatClampNeg (S.2.2 5))).toInt) from (by have := gx_iC_f h3 (by omega); omega))
        · skip
          have h35_ := gx_eqnr (k := 123) (gx_lit 123 (by decide)) h35
          refine key137 v1_23 (va_up (va_up (va_up (va_up (va_up (va_up (va_up (va_up S.1 8 (S_23.1 8)) 9 (S_23.1 9)) 10 (S_23.1 10)) 11 (S_23.1 11)) 12 (S_23.1 12)) 13 (S_23.1 13)) 30 (S_23.1 30)) 31 (S_23.1 31), va_up (va_up S.2.1 17 (S_23.2.1 17)) 18 (S_23.2.1 18), va_up (va_up (va_up (va_up (va_up (va_up S.2.2 19 (S.2.2 19)) 20 (S.2.2 20)) 21 (S_23.2.2 21)) 22 (S.1 29 (Int32.toNatClampNeg (S.2.2 20)))) 23 (S_23.2.2 23)) 25 (S_23.2.2 25)) ?_ ?_ ?_ ?_ ?_ ?_ ?_ ?_ ?_ ?_ ?_
          · exact (gx_iC_s h3 (show (S.1 28 (Int32.toNatClampNeg (S.2.2 20))).toInt ≤ (S_23.2.2 21).toInt from (by have := gx_iC_f h3 (by omega); omega)) (show (S.1 29 (Int32.toNatClampNeg (S.2.2 20))).toInt ≤ (S.1 29 (Int32.toNatClampNeg (S.2.2 20))).toInt from (by have := gx_iC_f h3 (by omega); omega)))
          · exact (gx_iS_w h19 (show (S_23.2.2 21).toInt ≤ (S_23.2.2 21).toInt from (by have := gx_iC_f h3 (by omega); omega)) (show (S.1 29 (Int32.toNatClampNeg (S.2.2 20))).toInt ≤ (S_23.2.2 22).toInt from (by have := gx_iC_f h3 (by omega); omega)))
          · exact (show (S.2.2 20).toInt = (S.2.2 20).toInt from (by have := gx_iC_f h3 (by omega); omega))
          · exact (show (S.2.2 19).toInt = (S.2.2 19).toInt from (by have := gx_iC_f h3 (by omega); omega))
          · exact h22
          · exact (show (S.1 29 (Int32.toNatClampNeg (S.2.2 20))).toInt = (S.1 29 (Int32.toNatClampNeg (S.2.2 20))).toInt from (by have := gx_iC_f h3 (by omega); omega))
          · exact h28
          · exact (show (((S_23.1 9 (Int32.toNatClampNeg (S.2.2 5))).toInt + (S.1 28 (Int32.toNatClampNeg (S.2.2 20))).toInt) + (S.1 29 (Int32.toNatClampNeg (S.2.2 20))).toInt) ≤ ((((S.1 9 (Int32.toNatClampNeg (S.2.2 5))).toInt + (S.2.2 21).toInt) + (S.2.2 22).toInt) + 2) from (by have := gx_iC_f h3 (by omega); omega))
          · exact h30
          · exact h31
          · exact h32
    · skip
      have h33_ := gx_ltn h33
      refine gx_in (Q := gy_q_MD_close S) (vp_in_iff.mpr (by have := gx_iC_f h3 (by omega); omega)) ?_
      refine gx_ca (Q := gy_q_MD_close S) (gy_q_MD_create _ _ _ _) (gy_s_MD_create _ _ _ _ h1 h2 h19 h28 (show (S_23.1 9 (Int32.toNatClampNeg (S.2.2 5))).toInt ≤ 150 from (by have := gx_iC_f h3 (by omega); omega)) (show (((5 : Int32).toInt = 0) ∨ ((5 : Int32).toInt = 2)) ∨ ((((5 : Int32).toInt = 1) ∧ ((0 ≤ (S_23.1 31 (Int32.toNatClampNeg v2_23)).toInt) ∧ ((1 ≤ v1_23.toInt) ∧ (((S_23.1 31 (Int32.toNatClampNeg v2_23)).toInt + v1_23.toInt) ≤ (S.2.2 2).toInt)))) ∨ ((((5 : Int32).toInt = 3) ∧ ((65 ≤ (S_23.1 31 (Int32.toNatClampNeg v2_23)).toInt) ∧ ((S_23.1 31 (Int32.toNatClampNeg v2_23)).toInt ≤ 90))) ∨ (((4 ≤ (5 : Int32).toInt) ∧ ((5 : Int32).toInt ≤ 10)) ∧ ((((160 * (S.2.2 5).toInt) ≤ (S_23.1 31 (Int32.toNatClampNeg v2_23)).toInt) ∧ ((S_23.1 31 (Int32.toNatClampNeg v2_23)).toInt < ((160 * (S.2.2 5).toInt) + (S_23.1 9 (Int32.toNatClampNeg (S.2.2 5))).toInt))) ∧ ((5 < (5 : Int32).toInt) ∨ (((160 * (S.2.2 5).toInt) ≤ v1_23.toInt) ∧ (v1_23.toInt < ((160 * (S.2.2 5).toInt) + (S_23.1 9 (Int32.toNatClampNeg (S.2.2 5))).toInt)))))))) from (by have := gx_iC_f h3 (by omega); have := gx_iS_ra h19 (x := v2_23) (by omega) (by omega); have : (5 : Int32).toInt = 5 := gx_lit 5 (by decide); omega)) h14) ?_
      intro r45 u45 h34
      have h34_0 : gm_iS 1 (S.2.2 2) (S.2.2 5) (S.1 6) (S.1 7) (S_23.1 8) (u45.1 9) (u45.1 10) (u45.1 11) (u45.1 12) (u45.1 13) (S_23.2.2 21) (S_23.2.2 22) (S_23.1 30) (S_23.1 31) := h34.1
      have h34_1 : ((u45.1 9 (Int32.toNatClampNeg (S.2.2 5))).toInt = ((S_23.1 9 (Int32.toNatClampNeg (S.2.2 5))).toInt + 1)) ∧ (r45.toInt = ((160 * (S.2.2 5).toInt) + (S_23.1 9 (Int32.toNatClampNeg (S.2.2 5))).toInt)) := h34.2
      clear h34
      refine ih _ _ _ ?_ ?_ ?_ ?_ ?_ ?_ ?_ ?_ ?_ ?_ ?_ ?_ ?_ ?_ ?_
      · exact (gx_iC_s h3 (show (S.1 28 (Int32.toNatClampNeg (S.2.2 20))).toInt ≤ (S_23.2.2 21).toInt from (by have := gx_iC_f h3 (by omega); omega)) (show (S.1 29 (Int32.toNatClampNeg (S.2.2 20))).toInt ≤ (S_23.2.2 22).toInt from (by have := gx_iC_f h3 (by omega); omega)))
      · exact h34_0
      · exact rfl
      · exact rfl
      · exact h22
      · exact h23
      · exact h24
      · exact (show ((S.1 29 (Int32.toNatClampNeg (S.2.2 20))).toInt - 1) ≤ (v2_23 + (-1)).toInt from (by have := gx_iC_f h3 (by omega); have e1 := gx_ak v2_23 (-1) (-1) (by decide); generalize (v2_23 + (-1)).toInt = t1 at e1 ⊢; omega))
      · exact (show (v2_23 + (-1)).toInt ≤ ((S.2.2 22).toInt - 1) from (by have := gx_iC_f h3 (by omega); have e1 := gx_ak v2_23 (-1) (-1) (by decide); generalize (v2_23 + (-1)).toInt = t1 at e1 ⊢; omega))
      · exact (show (((v2_23 + (-1)).toInt - (S.1 29 (Int32.toNatClampNeg (S.2.2 20))).toInt) + 2) < n23 from (by have := gx_iC_f h3 (by omega); have e1 := gx_ak v2_23 (-1) (-1) (by decide); generalize (v2_23 + (-1)).toInt = t1 at e1 ⊢; omega))
      · exact (show 0 ≤ (u45.1 9 (Int32.toNatClampNeg (S.2.2 5))).toInt from (by have := gx_iC_f h3 (by omega); omega))
      · exact (show (((u45.1 9 (Int32.toNatClampNeg (S.2.2 5))).toInt + (v2_23 + (-1)).toInt) + (S.1 28 (Int32.toNatClampNeg (S.2.2 20))).toInt) ≤ (((S.1 9 (Int32.toNatClampNeg (S.2.2 5))).toInt + (S.2.2 21).toInt) + (S.2.2 22).toInt) from (by have := gx_iC_f h3 (by omega); have e1 := gx_ak v2_23 (-1) (-1) (by decide); generalize (v2_23 + (-1)).toInt = t1 at e1 ⊢; omega))
      · exact h30
      · exact (show (160 * (S.2.2 5).toInt) ≤ r45.toInt from (by have := gx_iC_f h3 (by omega); omega))
      · exact (show r45.toInt < ((160 * (S.2.2 5).toInt) + (u45.1 9 (Int32.toNatClampNeg (S.2.2 5))).toInt) from (by have := gx_iC_f h3 (by omega); omega))
set_option maxRecDepth 100000 in
theorem gy_s_MD_close (S : gm_S) (h1 : gm_iW 50 (S.2.2 2) (S.1 3)) (h2 : gm_iN 1 (S.2.2 5)) (h3 : gm_iC (S.2.2 20) (S.2.2 21) (S.2.2 22) (S.1 26) (S.1 28) (S.1 29)) (h4 : gm_iS 1 (S.2.2 2) (S.2.2 5) (S.1 6) (S.1 7) (S.1 8) (S.1 9) (S.1 10) (S.1 11) (S.1 12) (S.1 13) (S.2.2 21) (S.2.2 22) (S.1 30) (S.1 31)) (h5 : 0 ≤ (S.1 9 (Int32.toNatClampNeg (S.2.2 5))).toInt) (h6 : (((S.1 9 (Int32.toNatClampNeg (S.2.2 5))).toInt + (S.2.2 21).toInt) + (S.2.2 22).toInt) ≤ 110) (h7 : 0 ≤ (S.2.2 19).toInt) (h8 : (S.2.2 19).toInt ≤ (S.2.2 2).toInt) (h9 : 0 ≤ (S.2.2 20).toInt) (h10 : (S.2.2 20).toInt ≤ 6) (h11 : (S.2.2 21).toInt ≤ 50) (h12 : (S.2.2 22).toInt ≤ 50) (h13 : (S.2.2 23).toInt = 0) (h14 : 0 ≤ (S.1 6 (Int32.toNatClampNeg (S.2.2 5))).toInt) (h15 : (S.1 6 (Int32.toNatClampNeg (S.2.2 5))).toInt ≤ 7) (h16 : (S.2.2 25).toInt ≠ 0) : gm_p_MD_close S ∧ gy_q_MD_close S (gm_f_MD_close S) := by
  unfold gm_p_MD_close gm_f_MD_close
  refine gx_ca (Q := gy_q_MD_close S) (gy_q_MD_endSequence _) (gy_s_MD_endSequence _ h1 h2 h4 h5 (show ((S.1 9 (Int32.toNatClampNeg (S.2.2 5))).toInt + (S.2.2 21).toInt) ≤ 120 from (by have := gx_iC_f h3 (by omega); omega)) h9 h10 (show 0 ≤ (S.1 28 (Int32.toNatClampNeg (S.2.2 20))).toInt from (by have := gx_iC_f h3 (by omega); omega)) (show (S.1 28 (Int32.toNatClampNeg (S.2.2 20))).toInt ≤ (S.2.2 21).toInt from (by have := gx_iC_f h3 (by omega); omega)) (show (S.2.2 21).toInt ≤ 55 from (by have := gx_iC_f h3 (by omega); omega)) (show 0 ≤ (S.2.2 22).toInt from (by have := gx_iC_f h3 (by omega); omega)) (show (S.2.2 22).toInt ≤ 55 from (by have := gx_iC_f h3 (by omega); omega)) h14) ?_
  intro r_h17 u1 h17
  have h17_0 : gm_iS 1 (S.2.2 2) (S.2.2 5) (S.1 6) (S.1 7) (S.1 8) (u1.1 9) (u1.1 10) (u1.1 11) (u1.1 12) (u1.1 13) (u1.2.2 21) (u1.2.2 22) (S.1 30) (u1.1 31) := h17.1
  have h17_1 : ((u1.2.2 21).toInt = (S.1 28 (Int32.toNatClampNeg (S.2.2 20))).toInt) ∧ (((u1.2.2 22).toInt = ((S.2.2 22).toInt + 1)) ∧ (((S.1 9 (Int32.toNatClampNeg (S.2.2 5))).toInt ≤ (u1.1 9 (Int32.toNatClampNeg (S.2.2 5))).toInt) ∧ ((((S.2.2 21).toInt = (S.1 28 (Int32.toNatClampNeg (S.2.2 20))).toInt) ∧ ((u1.1 9 (Int32.toNatClampNeg (S.2.2 5))).toInt = ((S.1 9 (Int32.toNatClampNeg (S.2.2 5))).toInt + 1))) ∨ (((S.1 28 (Int32.toNatClampNeg (S.2.2 20))).toInt < (S.2.2 21).toInt) ∧ ((u1.1 9 (Int32.toNatClampNeg (S.2.2 5))).toInt = ((((S.1 9 (Int32.toNatClampNeg (S.2.2 5))).toInt + (S.2.2 21).toInt) - (S.1 28 (Int32.toNatClampNeg (S.2.2 20))).toInt) - 1)))))) := h17.2
  clear h17
  refine gx_in (Q := gy_q_MD_close S) (vp_in_iff.mpr (by have := gx_iC_f h3 (by omega); have := gx_sk (u1.2.2 22) 1 (1) (by decide); omega)) ?_
  refine gy_s_MD_close_23 _ _ ?_ ?_ ?_ ?_ ?_ ?_ ?_ ?_ ?_ ?_ ?_ ?_ ?_ ?_ ?_ ?_ ?_ _ _ _ _ ?_ ?_ ?_ ?_ ?_ ?_ ?_ ?_ ?_ ?_ ?_ ?_ ?_ ?_ ?_
  · exact h1
  · exact h2
  · exact h3
  · exact h4
  · exact (show 0 ≤ (S.1 9 (Int32.toNatClampNeg (S.2.2 5))).toInt from (by have := gx_iC_f h3 (by omega); omega))
  · exact (show (((S.1 9 (Int32.toNatClampNeg (S.2.2 5))).toInt + (S.2.2 21).toInt) + (S.2.2 22).toInt) ≤ 110 from (by have := gx_iC_f h3 (by omega); omega))
  · exact (show 0 ≤ (S.2.2 19).toInt from (by have := gx_iC_f h3 (by omega); omega))
  · exact (show (S.2.2 19).toInt ≤ (S.2.2 2).toInt from (by have := gx_iC_f h3 (by omega); omega))
  · exact (show 0 ≤ (S.2.2 20).toInt from (by have := gx_iC_f h3 (by omega); omega))
  · exact (show (S.2.2 20).toInt ≤ 6 from (by have := gx_iC_f h3 (by omega); omega))
  · exact (show (S.2.2 21).toInt ≤ 50 from (by have := gx_iC_f h3 (by omega); omega))
  · exact (show (S.2.2 22).toInt ≤ 50 from (by have := gx_iC_f h3 (by omega); omega))
  · exact (show (S.2.2 23).toInt = 0 from (by have := gx_iC_f h3 (by omega); omega))
  · exact (show 0 ≤ (S.1 6 (Int32.toNatClampNeg (S.2.2 5))).toInt from (by have := gx_iC_f h3 (by omega); omega))
  · exact (show (S.1 6 (Int32.toNatClampNeg (S.2.2 5))).toInt ≤ 7 from (by have := gx_iC_f h3 (by omega); omega))
  · exact (show (S.2.2 25).toInt ≠ 0 from (by have := gx_iC_f h3 (by omega); omega))
  · exact (show (u1.2.2 21).toInt = (S.1 28 (Int32.toNatClampNeg (S.2.2 20))).toInt from (by have := gx_iC_f h3 (by omega); omega))
  · exact (gx_iC_s h3 (show (S.1 28 (Int32.toNatClampNeg (S.2.2 20))).toInt ≤ (u1.2.2 21).toInt from (by have := gx_iC_f h3 (by omega); omega)) (show (S.1 29 (Int32.toNatClampNeg (S.2.2 20))).toInt ≤ (u1.2.2 22).toInt from (by have := gx_iC_f h3 (by omega); omega)))
  · exact h17_0
  · exact rfl
  · exact rfl
  · exact (show (u1.2.2 21).toInt = (S.1 28 (Int32.toNatClampNeg (S.2.2 20))).toInt from (by have := gx_iC_f h3 (by omega); omega))
  · exact (show (u1.2.2 22).toInt = ((S.2.2 22).toInt + 1) from (by have := gx_iC_f h3 (by omega); omega))
  · exact h13
  · exact (show ((S.1 29 (Int32.toNatClampNeg (S.2.2 20))).toInt - 1) ≤ ((u1.2.2 22) - 2).toInt from (by have := gx_iC_f h3 (by omega); have := gx_sk (u1.2.2 22) 2 (2) (gx_lit 2 (by decide)); omega))
  · exact (show ((u1.2.2 22) - 2).toInt ≤ ((S.2.2 22).toInt - 1) from (by have := gx_iC_f h3 (by omega); have := gx_sk (u1.2.2 22) 2 (2) (gx_lit 2 (by decide)); omega))
  · exact (show ((((u1.2.2 22) - 2).toInt - (S.1 29 (Int32.toNatClampNeg (S.2.2 20))).toInt) + 2) < 200 from (by have := gx_iC_f h3 (by omega); have := gx_sk (u1.2.2 22) 2 (2) (gx_lit 2 (by decide)); omega))
  · exact (show 0 ≤ (u1.1 9 (Int32.toNatClampNeg (S.2.2 5))).toInt from (by have := gx_iC_f h3 (by omega); omega))
  · exact (show (((u1.1 9 (Int32.toNatClampNeg (S.2.2 5))).toInt + ((u1.2.2 22) - 2).toInt) + (S.1 28 (Int32.toNatClampNeg (S.2.2 20))).toInt) ≤ (((S.1 9 (Int32.toNatClampNeg (S.2.2 5))).toInt + (S.2.2 21).toInt) + (S.2.2 22).toInt) from (by have := gx_iC_f h3 (by omega); have := gx_sk (u1.2.2 22) 2 (2) (gx_lit 2 (by decide)); omega))
  · exact (show (S.2.2 25).toInt = (S.2.2 25).toInt from (by have := gx_iC_f h3 (by omega); omega))
  · exact (show (160 * (S.2.2 5).toInt) ≤ (u1.1 31 (Int32.toNatClampNeg ((u1.2.2 22) - 1))).toInt from (by have := gx_iC_f h3 (by omega); have := gx_sk (u1.2.2 22) 1 (1) (by decide); have := gx_iS_ra h17_0 (x := (u1.2.2 22) - 1) (by omega) (by omega); omega))
  · exact (show (u1.1 31 (Int32.toNatClampNeg ((u1.2.2 22) - 1))).toInt < ((160 * (S.2.2 5).toInt) + (u1.1 9 (Int32.toNatClampNeg (S.2.2 5))).toInt) from (by have := gx_iC_f h3 (by omega); have := gx_sk (u1.2.2 22) 1 (1) (by decide); have := gx_iS_ra h17_0 (x := (u1.2.2 22) - 1) (by omega) (by omega); omega))
abbrev gy_q_MD_readRow (S : gm_S) (z : Int32 × (gm_S)) : Prop := (gm_iS 1 (S.2.2 2) (S.2.2 5) (S.1 6) (S.1 7) (S.1 8) (z.2.1 9) (z.2.1 10) (z.2.1 11) (z.2.1 12) (z.2.1 13) (z.2.2.2 21) (S.2.2 22) (z.2.1 30) (S.1 31)) ∧ ((0 ≤ (z.2.1 9 (Int32.toNatClampNeg (S.2.2 5))).toInt) ∧ ((0 ≤ (z.2.2.2 19).toInt) ∧ (((z.2.2.2 19).toInt ≤ (S.2.2 2).toInt) ∧ ((0 ≤ (S.2.2 20).toInt) ∧ (((S.2.2 20).toInt ≤ 6) ∧ ((0 ≤ (z.2.2.2 21).toInt) ∧ ((0 ≤ (S.2.2 22).toInt) ∧ ((((((z.2.1 9 (Int32.toNatClampNeg (S.2.2 5))).toInt + (z.2.2.2 21).toInt) + (S.2.2 22).toInt) + (2 * (S.2.2 20).toInt)) ≤ (2 * (z.2.2.2 19).toInt)) ∧ ((((z.2.2.2 23).toInt = 0) ∨ ((((((z.2.1 9 (Int32.toNatClampNeg (S.2.2 5))).toInt + (z.2.2.2 21).toInt) + (S.2.2 22).toInt) + (2 * (S.2.2 20).toInt)) + 1) ≤ (2 * (z.2.2.2 19).toInt))) ∧ (((((z.2.2.2 21).toInt + (S.2.2 22).toInt) + (S.2.2 20).toInt) ≤ (z.2.2.2 19).toInt) ∧ (((S.2.2 21).toInt ≤ (z.2.2.2 21).toInt) ∧ (((S.2.2 19).toInt < (z.2.2.2 19).toInt)))))))))))))
set_option maxRecDepth 100000 in
theorem gy_s_MD_readRow_17 (S : gm_S) (h1 : gm_iW 50 (S.2.2 2) (S.1 3)) (h2 : gm_iN 1 (S.2.2 5)) (h3 : gm_iS 1 (S.2.2 2) (S.2.2 5) (S.1 6) (S.1 7) (S.1 8) (S.1 9) (S.1 10) (S.1 11) (S.1 12) (S.1 13) (S.2.2 21) (S.2.2 22) (S.1 30) (S.1 31)) (h4 : 0 ≤ (S.1 9 (Int32.toNatClampNeg (S.2.2 5))).toInt) (h5 : 0 ≤ (S.2.2 19).toInt) (h6 : (S.2.2 19).toInt ≤ (S.2.2 2).toInt) (h7 : 0 ≤ (S.2.2 20).toInt) (h8 : (S.2.2 20).toInt ≤ 6) (h9 : 0 ≤ (S.2.2 21).toInt) (h10 : 0 ≤ (S.2.2 22).toInt) (h11 : ((((S.1 9 (Int32.toNatClampNeg (S.2.2 5))).toInt + (S.2.2 21).toInt) + (S.2.2 22).toInt) + (2 * (S.2.2 20).toInt)) ≤ (2 * (S.2.2 19).toInt)) (h12 : ((S.2.2 23).toInt = 0) ∨ ((((((S.1 9 (Int32.toNatClampNeg (S.2.2 5))).toInt + (S.2.2 21).toInt) + (S.2.2 22).toInt) + (2 * (S.2.2 20).toInt)) + 1) ≤ (2 * (S.2.2 19).toInt))) (h13 : (((S.2.2 21).toInt + (S.2.2 22).toInt) + (S.2.2 20).toInt) ≤ (S.2.2 19).toInt) (h14 : (S.2.2 19).toInt < (S.2.2 2).toInt) (h15 : 0 ≤ (S.1 6 (Int32.toNatClampNeg (S.2.2 5))).toInt) : ∀ (n17 : Nat) (S_17 : gm_S), (gm_iS 1 (S.2.2 2) (S.2.2 5) (S.1 6) (S.1 7) (S.1 8) (S_17.1 9) (S_17.1 10) (S_17.1 11) (S_17.1 12) (S_17.1 13) (S_17.2.2 21) (S.2.2 22) (S_17.1 30) (S.1 31)) → (((S.2.2 19).toInt + 1) ≤ (S_17.2.2 19).toInt) → ((S_17.2.2 19).toInt ≤ (S.2.2 2).toInt) → ((S_17.1 9 (Int32.toNatClampNeg (S.2.2 5))).toInt = (S.1 9 (Int32.toNatClampNeg (S.2.2 5))).toInt) → ((S_17.2.2 21).toInt = (S.2.2 21).toInt) → ((S_17.2.2 23).toInt = (S.2.2 23).toInt) → ((((S.2.2 2).toInt - (S_17.2.2 19).toInt) + 1) < n17) → gm_p_MD_readRow_17 S n17 S_17 ∧ gy_q_MD_readRow S (gm_f_MD_readRow_17 S n17 S_17) := by
  intro n17
  induction n17 with
  | zero =>
    intro S_17 h16 h17 h18 h19 h20 h21 h22; exfalso; skip; omega
  | succ n17 ih =>
    intro S_17 h16 h17 h18 h19 h20 h21 h22
    rw [gm_p_MD_readRow_17, gm_f_MD_readRow_17]
    try dsimp only
    have key46 : ∀ (S_j46 : gm_S), (gm_iS 1 (S.2.2 2) (S.2.2 5) (S.1 6) (S.1 7) (S.1 8) (S_j46.1 9) (S_j46.1 10) (S_j46.1 11) (S_j46.1 12) (S_j46.1 13) (S_j46.2.2 21) (S.2.2 22) (S_j46.1 30) (S.1 31)) → (((S.2.2 19).toInt + 1) ≤ (S_j46.2.2 19).toInt) → ((S_j46.2.2 19).toInt ≤ (S.2.2 2).toInt) → ((S_j46.1 9 (Int32.toNatClampNeg (S.2.2 5))).toInt = (S.1 9 (Int32.toNatClampNeg (S.2.2 5))).toInt) → ((S_j46.2.2 21).toInt = (S.2.2 21).toInt) → ((S_j46.2.2 23).toInt = (S.2.2 23).toInt) → ((gm_p_MD_peek (va_up (va_up (va_up (va_up (va_up (va_up S.1 9 (S_j46.1 9)) 10 (S_j46.1 10)) 11 (S_j46.1 11)) 12 (S_j46.1 12)) 13 (S_j46.1 13)) 30 (S_j46.1 30), va_up (va_up S.2.1 17 (S_j46.2.1 17)) 18 (S_j46.2.1 18), va_up (va_up (va_up (va_up S.2.2 19 (S_j46.2.2 19)) 21 (S_j46.2.2 21)) 23 (S_j46.2.2 23)) 24 (S_j46.2.2 24))) ∧ (gm_bd (gm_f_MD_peek (va_up (va_up (va_up (va_up (va_up (va_up S.1 9 (S_j46.1 9)) 10 (S_j46.1 10)) 11 (S_j46.1 11)) 12 (S_j46.1 12)) 13 (S_j46.1 13)) 30 (S_j46.1 30), va_up (va_up S.2.1 17 (S_j46.2.1 17)) 18 (S_j46.2.1 18), va_up (va_up (va_up (va_up S.2.2 19 (S_j46.2.2 19)) 21 (S_j46.2.2 21)) 23 (S_j46.2.2 23)) 24 (S_j46.2.2 24))) (fun r47 u47 => ((r47 = 0) → ((gm_p_MD_refuse (va_up (va_up (va_up (va_up (va_up (va_up S.1 9 (S_j46.1 9)) 10 (S_j46.1 10)) 11 (S_j46.1 11)) 12 (S_j46.1 12)) 13 (S_j46.1 13)) 30 (S_j46.1 30), va_up (va_up S.2.1 17 (S_j46.2.1 17)) 18 (S_j46.2.1 18), va_up (va_up (va_up (va_up S.2.2 19 (S_j46.2.2 19)) 21 (S_j46.2.2 21)) 23 (S_j46.2.2 23)) 24 (S_j46.2.2 24))) ∧ (gm_bd (gm_f_MD_refuse (va_up (va_up (va_up (va_up (va_up (va_up S.1 9 (S_j46.1 9)) 10 (S_j46.1 10)) 11 (S_j46.1 11)) 12 (S_j46.1 12)) 13 (S_j46.1 13)) 30 (S_j46.1 30), va_up (va_up S.2.1 17 (S_j46.2.1 17)) 18 (S_j46.2.1 18), va_up (va_up (va_up (va_up S.2.2 19 (S_j46.2.2 19)) 21 (S_j46.2.2 21)) 23 (S_j46.2.2 23)) 24 (S_j46.2.2 24))) (fun _ u62 => True)))) ∧ ((¬ (r47 = 0)) → ((((S_j46.2.2 19) = ((S.2.2 19) + 1)) → ((gm_p_MD_refuse (va_up (va_up (va_up (va_up (va_up (va_up S.1 9 (S_j46.1 9)) 10 (S_j46.1 10)) 11 (S_j46.1 11)) 12 (S_j46.1 12)) 13 (S_j46.1 13)) 30 (S_j46.1 30), va_up (va_up S.2.1 17 (S_j46.2.1 17)) 18 (S_j46.2.1 18), va_up (va_up (va_up (va_up S.2.2 19 (S_j46.2.2 19)) 21 (S_j46.2.2 21)) 23 (S_j46.2.2 23)) 24 (S_j46.2.2 24))) ∧ (gm_bd (gm_f_MD_refuse (va_up (va_up (va_up (va_up (va_up (va_up S.1 9 (S_j46.1 9)) 10 (S_j46.1 10)) 11 (S_j46.1 11)) 12 (S_j46.1 12)) 13 (S_j46.1 13)) 30 (S_j46.1 30), va_up (va_up S.2.1 17 (S_j46.2.1 17)) 18 (S_j46.2.1 18), va_up (va_up (va_up (va_up S.2.2 19 (S_j46.2.2 19)) 21 (S_j46.2.2 21)) 23 (S_j46.2.2 23)) 24 (S_j46.2.2 24))) (fun _ u62 => True)))) ∧ ((¬ ((S_j46.2.2 19) = ((S.2.2 19) + 1))) → ((gm_p_MD_create 1 ((S.2.2 19) + 1) ((S_j46.2.2 19) - ((S.2.2 19) + 1)) (va_up (va_up (va_up (va_up (va_up (va_up S.1 9 (S_j46.1 9)) 10 (S_j46.1 10)) 11 (S_j46.1 11)) 12 (S_j46.1 12)) 13 (S_j46.1 13)) 30 (S_j46.1 30), va_up (va_up S.2.1 17 (S_j46.2.1 17)) 18 (S_j46.2.1 18), va_up (va_up (va_up (va_up S.2.2 19 (S_j46.2.2 19)) 21 (S_j46.2.2 21)) 23 (S_j46.2.2 23)) 24 (S_j46.2.2 24))) ∧ (gm_bd (gm_f_MD_create 1 ((S.2.2 19) + 1) ((S_j46.2.2 19) - ((S.2.2 19) + 1)) (va_up (va_up (va_up (va_up (va_up (va_up S.1 9 (S_j46.1 9)) 10 (S_j46.1 10)) 11 (S_j46.1 11)) 12 (S_j46.1 12)) 13 (S_j46.1 13)) 30 (S_j46.1 30), va_up (va_up S.2.1 17 (S_j46.2.1 17)) 18 (S_j46.2.1 18), va_up (va_up (va_up (va_up S.2.2 19 (S_j46.2.2 19)) 21 (S_j46.2.2 21)) 23 (S_j46.2.2 23)) 24 (S_j46.2.2 24))) (fun r75 u75 => (gm_p_MD_primary r75 (va_up (va_up (va_up (va_up (va_up (va_up S.1 9 (u75.1 9)) 10 (u75.1 10)) 11 (u75.1 11)) 12 (u75.1 12)) 13 (u75.1 13)) 30 (S_j46.1 30), va_up (va_up S.2.1 17 (u75.2.1 17)) 18 (u75.2.1 18), va_up (va_up (va_up (va_up S.2.2 19 ((S_j46.2.2 19) + 1)) 21 (S_j46.2.2 21)) 23 (S_j46.2.2 23)) 24 (S_j46.2.2 24))) ∧ (gm_bd (gm_f_MD_primary r75 (va_up (va_up (va_up (va_up (va_up (va_up S.1 9 (u75.1 9)) 10 (u75.1 10)) 11 (u75.1 11)) 12 (u75.1 12)) 13 (u75.1 13)) 30 (S_j46.1 30), va_up (va_up S.2.1 17 (u75.2.1 17)) 18 (u75.2.1 18), va_up (va_up (va_up (va_up S.2.2 19 ((S_j46.2.2 19) + 1)) 21 (S_j46.2.2 21)) 23 (S_j46.2.2 23)) 24 (S_j46.2.2 24))) (fun _ u91 => True))))))))))) ∧ gy_q_MD_readRow S (gm_bd (gm_f_MD_peek (va_up (va_up (va_up (va_up (va_up (va_up S.1 9 (S_j46.1 9)) 10 (S_j46.1 10)) 11 (S_j46.1 11)) 12 (S_j46.1 12)) 13 (S_j46.1 13)) 30 (S_j46.1 30), va_up (va_up S.2.1 17 (S_j46.2.1 17)) 18 (S_j46.2.1 18), va_up (va_up (va_up (va_up S.2.2 19 (S_j46.2.2 19)) 21 (S_j46.2.2 21)) 23 (S_j46.2.2 23)) 24 (S_j46.2.2 24))) (fun r47 u47 => if r47 = 0 then gm_bd (gm_f_MD_refuse (va_up (va_up (va_up (va_up (va_up (va_up S.1 9 (S_j46.1 9)) 10 (S_j46.1 10)) 11 (S_j46.1 11)) 12 (S_j46.1 12)) 13 (S_j46.1 13)) 30 (S_j46.1 30), va_up (va_up S.2.1 17 (S_j46.2.1 17)) 18 (S_j46.2.1 18), va_up (va_up (va_up (va_up S.2.2 19 (S_j46.2.2 19)) 21 (S_j46.2.2 21)) 23 (S_j46.2.2 23)) 24 (S_j46.2.2 24))) (fun _ u62 => (0, (va_up (va_up (va_up (va_up (va_up (va_up S.1 9 (S_j46.1 9)) 10 (S_j46.1 10)) 11 (S_j46.1 11)) 12 (S_j46.1 12)) 13 (S_j46.1 13)) 30 (S_j46.1 30), va_up (va_up S.2.1 17 (S_j46.2.1 17)) 18 (S_j46.2.1 18), va_up (va_up (va_up (va_up S.2.2 19 (S_j46.2.2 19)) 21 (S_j46.2.2 21)) 23 (S_j46.2.2 23)) 24 (u62.2.2 24)))) else if (S_j46.2.2 19) = ((S.2.2 19) + 1) then gm_bd (gm_f_MD_refuse (va_up (va_up (va_up (va_up (va_up (va_up S.1 9 (S_j46.1 9)) 10 (S_j46.1 10)) 11 (S_j46.1 11)) 12 (S_j46.1 12)) 13 (S_j46.1 13)) 30 (S_j46.1 30), va_up (va_up S.2.1 17 (S_j46.2.1 17)) 18 (S_j46.2.1 18), va_up (va_up (va_up (va_up S.2.2 19 (S_j46.2.2 19)) 21 (S_j46.2.2 21)) 23 (S_j46.2.2 23)) 24 (S_j46.2.2 24))) (fun _ u62 => (0, (va_up (va_up (va_up (va_up (va_up (va_up S.1 9 (S_j46.1 9)) 10 (S_j46.1 10)) 11 (S_j46.1 11)) 12 (S_j46.1 12)) 13 (S_j46.1 13)) 30 (S_j46.1 30), va_up (va_up S.2.1 17 (S_j46.2.1 17)) 18 (S_j46.2.1 18), va_up (va_up (va_up (va_up S.2.2 19 (S_j46.2.2 19)) 21 (S_j46.2.2 21)) 23 (S_j46.2.2 23)) 24 (u62.2.2 24)))) else gm_bd (gm_f_MD_create 1 ((S.2.2 19) + 1) ((S_j46.2.2 19) - ((S.2.2 19) + 1)) (va_up (va_up (va_up (va_up (va_up (va_up S.1 9 (S_j46.1 9)) 10 (S_j46.1 10)) 11 (S_j46.1 11)) 12 (S_j46.1 12)) 13 (S_j46.1 13)) 30 (S_j46.1 30), va_up (va_up S.2.1 17 (S_j46.2.1 17)) 18 (S_j46.2.1 18), va_up (va_up (va_up (va_up S.2.2 19 (S_j46.2.2 19)) 21 (S_j46.2.2 21)) 23 (S_j46.2.2 23)) 24 (S_j46.2.2 24))) (fun r75 u75 => gm_bd (gm_f_MD_primary r75 (va_up (va_up (va_up (va_up (va_up (va_up S.1 9 (u75.1 9)) 10 (u75.1 10)) 11 (u75.1 11)) 12 (u75.1 12)) 13 (u75.1 13)) 30 (S_j46.1 30), va_up (va_up S.2.1 17 (u75.2.1 17)) 18 (u75.2.1 18), va_up (va_up (va_up (va_up S.2.2 19 ((S_j46.2.2 19) + 1)) 21 (S_j46.2.2 21)) 23 (S_j46.2.2 23)) 24 (S_j46.2.2 24))) (fun _ u91 => (0, (va_up (va_up (va_up (va_up (va_up (va_up S.1 9 (u91.1 9)) 10 (u91.1 10)) 11 (u91.1 11)) 12 (u91.1 12)) 13 (u91.1 13)) 30 (u91.1 30), va_up (va_up S.2.1 17 (u91.2.1 17)) 18 (u91.2.1 18), va_up (va_up (va_up (va_up S.2.2 19 (u91.2.2 19)) 21 (u91.2.2 21)) 23 (u91.2.2 23)) 24 (S_j46.2.2 24))))))) := by
      intro S_j46 h23 h24 h25 h26 h27 h28
      try dsimp only
      refine gx_ca (Q := gy_q_MD_readRow S) (gx_q_MD_peek _) (gx_s_MD_peek _ h1 h2 (show 0 ≤ (S_j46.2.2 19).toInt from (by omega))) ?_
      intro r47 u47 h29
      have h29_0 : (((r47.toInt = 0) ∧ ((S.2.2 2).toInt ≤ (S_j46.2.2 19).toInt)) ∨ ((32 ≤ r47.toInt) ∧ ((r47.toInt ≤ 126) ∧ ((S_j46.2.2 19).toInt < (S.2.2 2).toInt)))) ∧ (r47 = (gm_f_MD_peek (va_up (va_up (va_up (va_up (va_up (va_up S.1 9 (S_j46.1 9)) 10 (S_j46.1 10)) 11 (S_j46.1 11)) 12 (S_j46.1 12)) 13 (S_j46.1 13)) 30 (S_j46.1 30), va_up (va_up S.2.1 17 (S_j46.2.1 17)) 18 (S_j46.2.1 18), va_up (va_up (va_up (va_up S.2.2 19 (S_j46.2.2 19)) 21 (S_j46.2.2 21)) 23 (S_j46.2.2 23)) 24 (S_j46.2.2 24))).1) := h29
      refine gx_if (Q := gy_q_MD_readRow S) (fun h30 => ?_) (fun h30 => ?_)
      · skip
        have h30_ := gx_eqr (k := 0) (by decide) h30
        refine gx_ca (Q := gy_q_MD_readRow S) (gx_q_MD_refuse _) (gx_s_MD_refuse _ h1 h2) ?_
        intro r_h31 u62 h31
        have h31_0 : (u62.2.2 24).toInt = 1 := h31
        clear h31
        exact ⟨trivial, ⟨h23, (show (0 ≤ (S_j46.1 9 (Int32.toNatClampNeg (S.2.2 5))).toInt) ∧ ((0 ≤ (S_j46.2.2 19).toInt) ∧ (((S_j46.2.2 19).toInt ≤ (S.2.2 2).toInt) ∧ ((0 ≤ (S.2.2 20).toInt) ∧ (((S.2.2 20).toInt ≤ 6) ∧ ((0 ≤ (S_j46.2.2 21).toInt) ∧ ((0 ≤ (S.2.2 22).toInt) ∧ ((((((S_j46.1 9 (Int32.toNatClampNeg (S.2.2 5))).toInt + (S_j46.2.2 21).toInt) + (S.2.2 22).toInt) + (2 * (S.2.2 20).toInt)) ≤ (2 * (S_j46.2.2 19).toInt)) ∧ ((((S_j46.2.2 23).toInt = 0) ∨ ((((((S_j46.1 9 (Int32.toNatClampNeg (S.2.2 5))).toInt + (S_j46.2.2 21).toInt) + (S.2.2 22).toInt) + (2 * (S.2.2 20).toInt)) + 1) ≤ (2 * (S_j46.2.2 19).toInt))) ∧ (((((S_j46.2.2 21).toInt + (S.2.2 22).toInt) + (S.2.2 20).toInt) ≤ (S_j46.2.2 19).toInt) ∧ (((S.2.2 21).toInt ≤ (S_j46.2.2 21).toInt) ∧ ((S.2.2 19).toInt < (S_j46.2.2 19).toInt))))))))))) from (by omega))⟩⟩
      · skip
        have h30_ := gx_eqnr (k := 0) (by decide) h30
        refine gx_if (Q := gy_q_MD_readRow S) (fun h31 => ?_) (fun h31 => ?_)
        · skip
          have h31_ := gx_eq h31
          refine gx_ca (Q := gy_q_MD_readRow S) (gx_q_MD_refuse _) (gx_s_MD_refuse _ h1 h2) ?_
          intro r_h32 u62 h32
          have h32_0 : (u62.2.2 24).toInt = 1 := h32
          clear h32
          exact ⟨trivial, ⟨h23, (show (0 ≤ (S_j46.1 9 (Int32.toNatClampNeg (S.2.2 5))).toInt) ∧ ((0 ≤ (S_j46.2.2 19).toInt) ∧ (((S_j46.2.2 19).toInt ≤ (S.2.2 2).toInt) ∧ ((0 ≤ (S.2.2 20).toInt) ∧ (((S.2.2 20).toInt ≤ 6) ∧ ((0 ≤ (S_j46.2.2 21).toInt) ∧ ((0 ≤ (S.2.2 22).toInt) ∧ ((((((S_j46.1 9 (Int32.toNatClampNeg (S.2.2 5))).toInt + (S_j46.2.2 21).toInt) + (S.2.2 22).toInt) + (2 * (S.2.2 20).toInt)) ≤ (2 * (S_j46.2.2 19).toInt)) ∧ ((((S_j46.2.2 23).toInt = 0) ∨ ((((((S_j46.1 9 (Int32.toNatClampNeg (S.2.2 5))).toInt + (S_j46.2.2 21).toInt) + (S.2.2 22).toInt) + (2 * (S.2.2 20).toInt)) + 1) ≤ (2 * (S_j46.2.2 19).toInt))) ∧ (((((S_j46.2.2 21).toInt + (S.2.2 22).toInt) + (S.2.2 20).toInt) ≤ (S_j46.2.2 19).toInt) ∧ (((S.2.2 21).toInt ≤ (S_j46.2.2 21).toInt) ∧ ((S.2.2 19).toInt < (S_j46.2.2 19).toInt))))))))))) from (by have := gx_ak (S.2.2 19) 1 (1) (by decide); omega))⟩⟩
        · skip
          have h31_ := gx_eqn h31
          refine gx_ca (Q := gy_q_MD_readRow S) (gy_q_MD_create _ _ _ _) (gy_s_MD_create _ _ _ _ h1 h2 h23 (show 0 ≤ (S_j46.1 9 (Int32.toNatClampNeg (S.2.2 5))).toInt from (by have := gx_ak (S.2.2 19) 1 (1) (by decide); omega)) (show (S_j46.1 9 (Int32.toNatClampNeg (S.2.2 5))).toInt ≤ 150 from (by have := gx_ak (S.2.2 19) 1 (1) (by decide); omega)) (show (((1 : Int32).toInt = 0) ∨ ((1 : Int32).toInt = 2)) ∨ ((((1 : Int32).toInt = 1) ∧ ((0 ≤ ((S.2.2 19) + 1).toInt) ∧ ((1 ≤ ((S_j46.2.2 19) - ((S.2.2 19) + 1)).toInt) ∧ ((((S.2.2 19) + 1).toInt + ((S_j46.2.2 19) - ((S.2.2 19) + 1)).toInt) ≤ (S.2.2 2).toInt)))) ∨ ((((1 : Int32).toInt = 3) ∧ ((65 ≤ ((S.2.2 19) + 1).toInt) ∧ (((S.2.2 19) + 1).toInt ≤ 90))) ∨ (((4 ≤ (1 : Int32).toInt) ∧ ((1 : Int32).toInt ≤ 10)) ∧ ((((160 * (S.2.2 5).toInt) ≤ ((S.2.2 19) + 1).toInt) ∧ (((S.2.2 19) + 1).toInt < ((160 * (S.2.2 5).toInt) + (S_j46.1 9 (Int32.toNatClampNeg (S.2.2 5))).toInt))) ∧ ((5 < (1 : Int32).toInt) ∨ (((160 * (S.2.2 5).toInt) ≤ ((S_j46.2.2 19) - ((S.2.2 19) + 1)).toInt) ∧ (((S_j46.2.2 19) - ((S.2.2 19) + 1)).toInt < ((160 * (S.2.2 5).toInt) + (S_j46.1 9 (Int32.toNatClampNeg (S.2.2 5))).toInt)))))))) from (by have := gx_ak (S.2.2 19) 1 (1) (by decide); have := gx_sb (S_j46.2.2 19) ((S.2.2 19) + 1); have : (1 : Int32).toInt = 1 := (by decide); omega)) h15) ?_
          intro r75 u75 h32
          have h32_0 : gm_iS 1 (S.2.2 2) (S.2.2 5) (S.1 6) (S.1 7) (S.1 8) (u75.1 9) (u75.1 10) (u75.1 11) (u75.1 12) (u75.1 13) (S_j46.2.2 21) (S.2.2 22) (S_j46.1 30) (S.1 31) := h32.1
          have h32_1 : ((u75.1 9 (Int32.toNatClampNeg (S.2.2 5))).toInt = ((S_j46.1 9 (Int32.toNatClampNeg (S.2.2 5))).toInt + 1)) ∧ (r75.toInt = ((160 * (S.2.2 5).toInt) + (S_j46.1 9 (Int32.toNatClampNeg (S.2.2 5))).toInt)) := h32.2
          clear h32
          refine gx_ca (Q := gy_q_MD_readRow S) (gy_q_MD_primary _ _) (gy_s_MD_primary _ _ h1 h2 h32_0 (show 0 ≤ (u75.1 9 (Int32.toNatClampNeg (S.2.2 5))).toInt from (by have := gx_ak (S.2.2 19) 1 (1) (by decide); omega)) (show (u75.1 9 (Int32.toNatClampNeg (S.2.2 5))).toInt ≤ 145 from (by have := gx_ak (S.2.2 19) 1 (1) (by decide); omega)) (show 0 ≤ ((S_j46.2.2 19) + 1).toInt from (by have := gx_ak (S_j46.2.2 19) 1 (1) (by decide); have := gx_ak (S.2.2 19) 1 (1) (by decide); omega)) (show ((S_j46.2.2 19) + 1).toInt ≤ (S.2.2 2).toInt from (by have := gx_ak (S_j46.2.2 19) 1 (1) (by decide); have := gx_ak (S.2.2 19) 1 (1) (by decide); omega)) (show 0 ≤ (S_j46.2.2 21).toInt from (by have := gx_ak (S.2.2 19) 1 (1) (by decide); omega)) (show (S_j46.2.2 21).toInt ≤ 58 from (by have := gx_ak (S.2.2 19) 1 (1) (by decide); omega)) (show (160 * (S.2.2 5).toInt) ≤ r75.toInt from (by have := gx_ak (S.2.2 19) 1 (1) (by decide); omega)) (show r75.toInt < ((160 * (S.2.2 5).toInt) + (u75.1 9 (Int32.toNatClampNeg (S.2.2 5))).toInt) from (by have := gx_ak (S.2.2 19) 1 (1) (by decide); omega)) h15) ?_
          intro r_h33 u91 h33
          have h33_0 : gm_iS 1 (S.2.2 2) (S.2.2 5) (S.1 6) (S.1 7) (S.1 8) (u91.1 9) (u91.1 10) (u91.1 11) (u91.1 12) (u91.1 13) (u91.2.2 21) (S.2.2 22) (u91.1 30) (S.1 31) := h33.1
          have h33_1 : ((u91.2.2 21).toInt = ((S_j46.2.2 21).toInt + 1)) ∧ (((u91.2.2 23).toInt = 0) ∧ ((((S_j46.2.2 19) + 1).toInt ≤ (u91.2.2 19).toInt) ∧ (((u91.2.2 19).toInt ≤ (((S_j46.2.2 19) + 1).toInt + 1)) ∧ (((u91.2.2 19).toInt ≤ (S.2.2 2).toInt) ∧ (((u75.1 9 (Int32.toNatClampNeg (S.2.2 5))).toInt ≤ (u91.1 9 (Int32.toNatClampNeg (S.2.2 5))).toInt) ∧ (((u91.1 9 (Int32.toNatClampNeg (S.2.2 5))).toInt ≤ ((u75.1 9 (Int32.toNatClampNeg (S.2.2 5))).toInt + (2 * ((u91.2.2 19).toInt - ((S_j46.2.2 19) + 1).toInt)))) ∨ (((S_j46.2.2 23).toInt ≠ 0) ∧ ((u91.1 9 (Int32.toNatClampNeg (S.2.2 5))).toInt ≤ (((u75.1 9 (Int32.toNatClampNeg (S.2.2 5))).toInt + (2 * ((u91.2.2 19).toInt - ((S_j46.2.2 19) + 1).toInt))) + 1))))))))) := h33.2
          clear h33
          exact ⟨trivial, ⟨h33_0, (show (0 ≤ (u91.1 9 (Int32.toNatClampNeg (S.2.2 5))).toInt) ∧ ((0 ≤ (u91.2.2 19).toInt) ∧ (((u91.2.2 19).toInt ≤ (S.2.2 2).toInt) ∧ ((0 ≤ (S.2.2 20).toInt) ∧ (((S.2.2 20).toInt ≤ 6) ∧ ((0 ≤ (u91.2.2 21).toInt) ∧ ((0 ≤ (S.2.2 22).toInt) ∧ ((((((u91.1 9 (Int32.toNatClampNeg (S.2.2 5))).toInt + (u91.2.2 21).toInt) + (S.2.2 22).toInt) + (2 * (S.2.2 20).toInt)) ≤ (2 * (u91.2.2 19).toInt)) ∧ ((((u91.2.2 23).toInt = 0) ∨ ((((((u91.1 9 (Int32.toNatClampNeg (S.2.2 5))).toInt + (u91.2.2 21).toInt) + (S.2.2 22).toInt) + (2 * (S.2.2 20).toInt)) + 1) ≤ (2 * (u91.2.2 19).toInt))) ∧ (((((u91.2.2 21).toInt + (S.2.2 22).toInt) + (S.2.2 20).toInt) ≤ (u91.2.2 19).toInt) ∧ (((S.2.2 21).toInt ≤ (u91.2.2 21).toInt) ∧ ((S.2.2 19).toInt < (u91.2.2 19).toInt))))))))))) from (by have := gx_ak (S.2.2 19) 1 (1) (by decide); have := gx_ak (S_j46.2.2 19) 1 (1) (by decide); omega))⟩⟩
    refine gx_ca (Q := gy_q_MD_readRow S) (gx_q_MD_peek _) (gx_s_MD_peek _ h1 h2 (show 0 ≤ (S_17.2.2 19).toInt from (by omega))) ?_
    intro r18 u18 h23
    have h23_0 : (((r18.toInt = 0) ∧ ((S.2.2 2).toInt ≤ (S_17.2.2 19).toInt)) ∨ ((32 ≤ r18.toInt) ∧ ((r18.toInt ≤ 126) ∧ ((S_17.2.2 19).toInt < (S.2.2 2).toInt)))) ∧ (r18 = (gm_f_MD_peek (va_up (va_up (va_up (va_up (va_up (va_up S.1 9 (S_17.1 9)) 10 (S_17.1 10)) 11 (S_17.1 11)) 12 (S_17.1 12)) 13 (S_17.1 13)) 30 (S_17.1 30), va_up (va_up S.2.1 17 (S_17.2.1 17)) 18 (S_17.2.1 18), va_up (va_up (va_up (va_up S.2.2 19 (S_17.2.2 19)) 21 (S_17.2.2 21)) 23 (S_17.2.2 23)) 24 (S_17.2.2 24))).1) := h23
    refine gx_if (Q := gy_q_MD_readRow S) (fun h24 => ?_) (fun h24 => ?_)
    · skip
      have h24_ := gx_eqr (k := 39) (gx_lit 39 (by decide)) h24
      refine key46 (va_up (va_up (va_up (va_up (va_up (va_up S.1 9 (S_17.1 9)) 10 (S_17.1 10)) 11 (S_17.1 11)) 12 (S_17.1 12)) 13 (S_17.1 13)) 30 (S_17.1 30), va_up (va_up S.2.1 17 (S_17.2.1 17)) 18 (S_17.2.1 18), va_up (va_up (va_up (va_up S.2.2 19 (S_17.2.2 19)) 21 (S_17.2.2 21)) 23 (S_17.2.2 23)) 24 (S_17.2.2 24)) ?_ ?_ ?_ ?_ ?_ ?_
      · exact h16
      · exact h17
      · exact h18
      · exact h19
      · exact h20
      · exact h21
    · skip
      have h24_ := gx_eqnr (k := 39) (gx_lit 39 (by decide)) h24
      refine gx_ca (Q := gy_q_MD_readRow S) (gx_q_MD_peek _) (gx_s_MD_peek _ h1 h2 (show 0 ≤ (S_17.2.2 19).toInt from (by omega))) ?_
      intro r27 u27 h25
      have h25_0 : (((r27.toInt = 0) ∧ ((S.2.2 2).toInt ≤ (S_17.2.2 19).toInt)) ∨ ((32 ≤ r27.toInt) ∧ ((r27.toInt ≤ 126) ∧ ((S_17.2.2 19).toInt < (S.2.2 2).toInt)))) ∧ (r27 = (gm_f_MD_peek (va_up (va_up (va_up (va_up (va_up (va_up S.1 9 (S_17.1 9)) 10 (S_17.1 10)) 11 (S_17.1 11)) 12 (S_17.1 12)) 13 (S_17.1 13)) 30 (S_17.1 30), va_up (va_up S.2.1 17 (S_17.2.1 17)) 18 (S_17.2.1 18), va_up (va_up (va_up (va_up S.2.2 19 (S_17.2.2 19)) 21 (S_17.2.2 21)) 23 (S_17.2.2 23)) 24 (S_17.2.2 24))).1) := h25
      have h25_f := gx_eq ((show r27 = _ from h25.2).trans (show r18 = _ from h23.2).symm)
      refine gx_if (Q := gy_q_MD_readRow S) (fun h26 => ?_) (fun h26 => ?_)
      · skip
        have h26_ := gx_eqr (k := 0) (by decide) h26
        refine key46 (va_up (va_up (va_up (va_up (va_up (va_up S.1 9 (S_17.1 9)) 10 (S_17.1 10)) 11 (S_17.1 11)) 12 (S_17.1 12)) 13 (S_17.1 13)) 30 (S_17.1 30), va_up (va_up S.2.1 17 (S_17.2.1 17)) 18 (S_17.2.1 18), va_up (va_up (va_up (va_up S.2.2 19 (S_17.2.2 19)) 21 (S_17.2.2 21)) 23 (S_17.2.2 23)) 24 (S_17.2.2 24)) ?_ ?_ ?_ ?_ ?_ ?_
        · exact h16
        · exact h17
        · exact h18
        · exact h19
        · exact h20
        · exact h21
      · skip
        have h26_ := gx_eqnr (k := 0) (by decide) h26
        refine ih _ ?_ ?_ ?_ ?_ ?_ ?_ ?_
        · exact h16
        · exact (show ((S.2.2 19).toInt + 1) ≤ ((S_17.2.2 19) + 1).toInt from (by have := gx_ak (S_17.2.2 19) 1 (1) (by decide); omega))
        · exact (show ((S_17.2.2 19) + 1).toInt ≤ (S.2.2 2).toInt from (by have := gx_ak (S_17.2.2 19) 1 (1) (by decide); omega))
        · exact h19
        · exact h20
        · exact h21
        · exact (show (((S.2.2 2).toInt - ((S_17.2.2 19) + 1).toInt) + 1) < n17 from (by have := gx_ak (S_17.2.2 19) 1 (1) (by decide); omega))
set_option maxRecDepth 100000 in
theorem gy_s_MD_readRow (S : gm_S) (h1 : gm_iW 50 (S.2.2 2) (S.1 3)) (h2 : gm_iN 1 (S.2.2 5)) (h3 : gm_iS 1 (S.2.2 2) (S.2.2 5) (S.1 6) (S.1 7) (S.1 8) (S.1 9) (S.1 10) (S.1 11) (S.1 12) (S.1 13) (S.2.2 21) (S.2.2 22) (S.1 30) (S.1 31)) (h4 : 0 ≤ (S.1 9 (Int32.toNatClampNeg (S.2.2 5))).toInt) (h5 : 0 ≤ (S.2.2 19).toInt) (h6 : (S.2.2 19).toInt ≤ (S.2.2 2).toInt) (h7 : 0 ≤ (S.2.2 20).toInt) (h8 : (S.2.2 20).toInt ≤ 6) (h9 : 0 ≤ (S.2.2 21).toInt) (h10 : 0 ≤ (S.2.2 22).toInt) (h11 : ((((S.1 9 (Int32.toNatClampNeg (S.2.2 5))).toInt + (S.2.2 21).toInt) + (S.2.2 22).toInt) + (2 * (S.2.2 20).toInt)) ≤ (2 * (S.2.2 19).toInt)) (h12 : ((S.2.2 23).toInt = 0) ∨ ((((((S.1 9 (Int32.toNatClampNeg (S.2.2 5))).toInt + (S.2.2 21).toInt) + (S.2.2 22).toInt) + (2 * (S.2.2 20).toInt)) + 1) ≤ (2 * (S.2.2 19).toInt))) (h13 : (((S.2.2 21).toInt + (S.2.2 22).toInt) + (S.2.2 20).toInt) ≤ (S.2.2 19).toInt) (h14 : (S.2.2 19).toInt < (S.2.2 2).toInt) (h15 : 0 ≤ (S.1 6 (Int32.toNatClampNeg (S.2.2 5))).toInt) : gm_p_MD_readRow S ∧ gy_q_MD_readRow S (gm_f_MD_readRow S) := by
  unfold gm_p_MD_readRow gm_f_MD_readRow
  refine gy_s_MD_readRow_17 _ ?_ ?_ ?_ ?_ ?_ ?_ ?_ ?_ ?_ ?_ ?_ ?_ ?_ ?_ ?_ _ _ ?_ ?_ ?_ ?_ ?_ ?_ ?_
  · exact h1
  · exact h2
  · exact h3
  · exact (show 0 ≤ (S.1 9 (Int32.toNatClampNeg (S.2.2 5))).toInt from (by omega))
  · exact (show 0 ≤ (S.2.2 19).toInt from (by omega))
  · exact (show (S.2.2 19).toInt ≤ (S.2.2 2).toInt from (by omega))
  · exact (show 0 ≤ (S.2.2 20).toInt from (by omega))
  · exact (show (S.2.2 20).toInt ≤ 6 from (by omega))
  · exact (show 0 ≤ (S.2.2 21).toInt from (by omega))
  · exact (show 0 ≤ (S.2.2 22).toInt from (by omega))
  · exact (show ((((S.1 9 (Int32.toNatClampNeg (S.2.2 5))).toInt + (S.2.2 21).toInt) + (S.2.2 22).toInt) + (2 * (S.2.2 20).toInt)) ≤ (2 * (S.2.2 19).toInt) from (by omega))
  · exact (show ((S.2.2 23).toInt = 0) ∨ ((((((S.1 9 (Int32.toNatClampNeg (S.2.2 5))).toInt + (S.2.2 21).toInt) + (S.2.2 22).toInt) + (2 * (S.2.2 20).toInt)) + 1) ≤ (2 * (S.2.2 19).toInt)) from (by omega))
  · exact (show (((S.2.2 21).toInt + (S.2.2 22).toInt) + (S.2.2 20).toInt) ≤ (S.2.2 19).toInt from (by omega))
  · exact (show (S.2.2 19).toInt < (S.2.2 2).toInt from (by omega))
  · exact (show 0 ≤ (S.1 6 (Int32.toNatClampNeg (S.2.2 5))).toInt from (by omega))
  · exact h3
  · exact (show ((S.2.2 19).toInt + 1) ≤ ((S.2.2 19) + 1).toInt from (by have := gx_ak (S.2.2 19) 1 (1) (by decide); omega))
  · exact (show ((S.2.2 19) + 1).toInt ≤ (S.2.2 2).toInt from (by have := gx_ak (S.2.2 19) 1 (1) (by decide); omega))
  · exact (show (S.1 9 (Int32.toNatClampNeg (S.2.2 5))).toInt = (S.1 9 (Int32.toNatClampNeg (S.2.2 5))).toInt from (by omega))
  · exact (show (S.2.2 21).toInt = (S.2.2 21).toInt from (by omega))
  · exact (show (S.2.2 23).toInt = (S.2.2 23).toInt from (by omega))
  · exact (show (((S.2.2 2).toInt - ((S.2.2 19) + 1).toInt) + 1) < 200 from (by have := gx_ak (S.2.2 19) 1 (1) (by decide); omega))
abbrev gy_q_MD_readClass (S : gm_S) (z : Int32 × (gm_S)) : Prop := (gm_iS 1 (S.2.2 2) (S.2.2 5) (S.1 6) (S.1 7) (S.1 8) (z.2.1 9) (z.2.1 10) (z.2.1 11) (z.2.1 12) (z.2.1 13) (z.2.2.2 21) (S.2.2 22) (z.2.1 30) (S.1 31)) ∧ ((0 ≤ (z.2.1 9 (Int32.toNatClampNeg (S.2.2 5))).toInt) ∧ ((0 ≤ (z.2.2.2 19).toInt) ∧ (((z.2.2.2 19).toInt ≤ (S.2.2 2).toInt) ∧ ((0 ≤ (S.2.2 20).toInt) ∧ (((S.2.2 20).toInt ≤ 6) ∧ ((0 ≤ (z.2.2.2 21).toInt) ∧ ((0 ≤ (S.2.2 22).toInt) ∧ ((((((z.2.1 9 (Int32.toNatClampNeg (S.2.2 5))).toInt + (z.2.2.2 21).toInt) + (S.2.2 22).toInt) + (2 * (S.2.2 20).toInt)) ≤ (2 * (z.2.2.2 19).toInt)) ∧ ((((z.2.2.2 23).toInt = 0) ∨ ((((((z.2.1 9 (Int32.toNatClampNeg (S.2.2 5))).toInt + (z.2.2.2 21).toInt) + (S.2.2 22).toInt) + (2 * (S.2.2 20).toInt)) + 1) ≤ (2 * (z.2.2.2 19).toInt))) ∧ (((((z.2.2.2 21).toInt + (S.2.2 22).toInt) + (S.2.2 20).toInt) ≤ (z.2.2.2 19).toInt) ∧ (((S.2.2 21).toInt ≤ (z.2.2.2 21).toInt) ∧ (((S.2.2 19).toInt < (z.2.2.2 19).toInt)))))))))))))
set_option maxRecDepth 100000 in
theorem gy_s_MD_readClass_20 (S : gm_S) (r4 : Int32) (u4 : gm_S) (h1 : gm_iW 50 (S.2.2 2) (S.1 3)) (h2 : gm_iN 1 (S.2.2 5)) (h3 : gm_iS 1 (S.2.2 2) (S.2.2 5) (S.1 6) (S.1 7) (S.1 8) (S.1 9) (S.1 10) (S.1 11) (S.1 12) (S.1 13) (S.2.2 21) (S.2.2 22) (S.1 30) (S.1 31)) (h4 : 0 ≤ (S.1 9 (Int32.toNatClampNeg (S.2.2 5))).toInt) (h5 : 0 ≤ (S.2.2 19).toInt) (h6 : (S.2.2 19).toInt ≤ (S.2.2 2).toInt) (h7 : 0 ≤ (S.2.2 20).toInt) (h8 : (S.2.2 20).toInt ≤ 6) (h9 : 0 ≤ (S.2.2 21).toInt) (h10 : 0 ≤ (S.2.2 22).toInt) (h11 : ((((S.1 9 (Int32.toNatClampNeg (S.2.2 5))).toInt + (S.2.2 21).toInt) + (S.2.2 22).toInt) + (2 * (S.2.2 20).toInt)) ≤ (2 * (S.2.2 19).toInt)) (h12 : ((S.2.2 23).toInt = 0) ∨ ((((((S.1 9 (Int32.toNatClampNeg (S.2.2 5))).toInt + (S.2.2 21).toInt) + (S.2.2 22).toInt) + (2 * (S.2.2 20).toInt)) + 1) ≤ (2 * (S.2.2 19).toInt))) (h13 : (((S.2.2 21).toInt + (S.2.2 22).toInt) + (S.2.2 20).toInt) ≤ (S.2.2 19).toInt) (h14 : (S.2.2 19).toInt < (S.2.2 2).toInt) (h15 : 0 ≤ (S.1 6 (Int32.toNatClampNeg (S.2.2 5))).toInt) (h16 : 0 ≤ r4.toInt) (h17 : r4.toInt ≤ 319) (h18 : (160 * (S.2.2 5).toInt) ≤ r4.toInt) (h19 : r4.toInt < (((160 * (S.2.2 5).toInt) + (S.1 9 (Int32.toNatClampNeg (S.2.2 5))).toInt) + 1)) : ∀ (n20 : Nat) (v2_20 : Int32) (S_20 : gm_S), (gm_iS 1 (S.2.2 2) (S.2.2 5) (S.1 6) (S.1 7) (S.1 8) (S_20.1 9) (S_20.1 10) (S_20.1 11) (S_20.1 12) (S_20.1 13) (S_20.2.2 21) (S.2.2 22) (S_20.1 30) (S.1 31)) → (((S.2.2 19).toInt + 1) ≤ (S_20.2.2 19).toInt) → ((S_20.2.2 19).toInt ≤ (S.2.2 2).toInt) → ((S_20.1 9 (Int32.toNatClampNeg (S.2.2 5))).toInt = ((S.1 9 (Int32.toNatClampNeg (S.2.2 5))).toInt + 1)) → ((S_20.2.2 21).toInt = (S.2.2 21).toInt) → ((S_20.2.2 23).toInt = (S.2.2 23).toInt) → ((((S.2.2 2).toInt - (S_20.2.2 19).toInt) + 1) < n20) → gm_p_MD_readClass_20 S r4 u4 n20 v2_20 S_20 ∧ gy_q_MD_readClass S (gm_f_MD_readClass_20 S r4 u4 n20 v2_20 S_20) := by
  intro n20
  induction n20 with
  | zero =>
    intro v2_20 S_20 h20 h21 h22 h23 h24 h25 h26; exfalso; skip; omega
  | succ n20 ih =>
    intro v2_20 S_20 h20 h21 h22 h23 h24 h25 h26
    rw [gm_p_MD_readClass_20, gm_f_MD_readClass_20]
    try dsimp only
    have key143 : ∀ (v2_j143 : Int32) (S_j143 : gm_S), (gm_iS 1 (S.2.2 2) (S.2.2 5) (S.1 6) (S.1 7) (S.1 8) (S_j143.1 9) (S_j143.1 10) (S_j143.1 11) (S_j143.1 12) (S_j143.1 13) (S_j143.2.2 21) (S.2.2 22) (S_j143.1 30) (S.1 31)) → (((S.2.2 19).toInt + 1) ≤ (S_j143.2.2 19).toInt) → ((S_j143.2.2 19).toInt ≤ (S.2.2 2).toInt) → ((S_j143.1 9 (Int32.toNatClampNeg (S.2.2 5))).toInt = ((S.1 9 (Int32.toNatClampNeg (S.2.2 5))).toInt + 1)) → ((S_j143.2.2 21).toInt = (S.2.2 21).toInt) → ((S_j143.2.2 23).toInt = (S.2.2 23).toInt) → (((v2_j143 = 0) → ((gm_p_MD_refuse (va_up (va_up (va_up (va_up (va_up (va_up S.1 9 (S_j143.1 9)) 10 (S_j143.1 10)) 11 (S_j143.1 11)) 12 (S_j143.1 12)) 13 (S_j143.1 13)) 30 (S_j143.1 30), va_up (va_up S.2.1 17 (S_j143.2.1 17)) 18 (S_j143.2.1 18), va_up (va_up (va_up (va_up S.2.2 19 (S_j143.2.2 19)) 21 (S_j143.2.2 21)) 23 (S_j143.2.2 23)) 24 (S_j143.2.2 24))) ∧ (gm_bd (gm_f_MD_refuse (va_up (va_up (va_up (va_up (va_up (va_up S.1 9 (S_j143.1 9)) 10 (S_j143.1 10)) 11 (S_j143.1 11)) 12 (S_j143.1 12)) 13 (S_j143.1 13)) 30 (S_j143.1 30), va_up (va_up S.2.1 17 (S_j143.2.1 17)) 18 (S_j143.2.1 18), va_up (va_up (va_up (va_up S.2.2 19 (S_j143.2.2 19)) 21 (S_j143.2.2 21)) 23 (S_j143.2.2 23)) 24 (S_j143.2.2 24))) (fun _ u155 => True)))) ∧ ((¬ (v2_j143 = 0)) → ((gm_p_MD_peek (va_up (va_up (va_up (va_up (va_up (va_up S.1 9 (S_j143.1 9)) 10 (S_j143.1 10)) 11 (S_j143.1 11)) 12 (S_j143.1 12)) 13 (S_j143.1 13)) 30 (S_j143.1 30), va_up (va_up S.2.1 17 (S_j143.2.1 17)) 18 (S_j143.2.1 18), va_up (va_up (va_up (va_up S.2.2 19 (S_j143.2.2 19)) 21 (S_j143.2.2 21)) 23 (S_j143.2.2 23)) 24 (S_j143.2.2 24))) ∧ (gm_bd (gm_f_MD_peek (va_up (va_up (va_up (va_up (va_up (va_up S.1 9 (S_j143.1 9)) 10 (S_j143.1 10)) 11 (S_j143.1 11)) 12 (S_j143.1 12)) 13 (S_j143.1 13)) 30 (S_j143.1 30), va_up (va_up S.2.1 17 (S_j143.2.1 17)) 18 (S_j143.2.1 18), va_up (va_up (va_up (va_up S.2.2 19 (S_j143.2.2 19)) 21 (S_j143.2.2 21)) 23 (S_j143.2.2 23)) 24 (S_j143.2.2 24))) (fun r148 u148 => ((r148 = 0) → ((gm_p_MD_refuse (va_up (va_up (va_up (va_up (va_up (va_up S.1 9 (S_j143.1 9)) 10 (S_j143.1 10)) 11 (S_j143.1 11)) 12 (S_j143.1 12)) 13 (S_j143.1 13)) 30 (S_j143.1 30), va_up (va_up S.2.1 17 (S_j143.2.1 17)) 18 (S_j143.2.1 18), va_up (va_up (va_up (va_up S.2.2 19 (S_j143.2.2 19)) 21 (S_j143.2.2 21)) 23 (S_j143.2.2 23)) 24 (S_j143.2.2 24))) ∧ (gm_bd (gm_f_MD_refuse (va_up (va_up (va_up (va_up (va_up (va_up S.1 9 (S_j143.1 9)) 10 (S_j143.1 10)) 11 (S_j143.1 11)) 12 (S_j143.1 12)) 13 (S_j143.1 13)) 30 (S_j143.1 30), va_up (va_up S.2.1 17 (S_j143.2.1 17)) 18 (S_j143.2.1 18), va_up (va_up (va_up (va_up S.2.2 19 (S_j143.2.2 19)) 21 (S_j143.2.2 21)) 23 (S_j143.2.2 23)) 24 (S_j143.2.2 24))) (fun _ u155 => True)))) ∧ ((¬ (r148 = 0)) → ((gm_p_MD_primary r4 (va_up (va_up (va_up (va_up (va_up (va_up S.1 9 (S_j143.1 9)) 10 (S_j143.1 10)) 11 (S_j143.1 11)) 12 (S_j143.1 12)) 13 (S_j143.1 13)) 30 (S_j143.1 30), va_up (va_up S.2.1 17 (S_j143.2.1 17)) 18 (S_j143.2.1 18), va_up (va_up (va_up (va_up S.2.2 19 ((S_j143.2.2 19) + 1)) 21 (S_j143.2.2 21)) 23 (S_j143.2.2 23)) 24 (S_j143.2.2 24))) ∧ (gm_bd (gm_f_MD_primary r4 (va_up (va_up (va_up (va_up (va_up (va_up S.1 9 (S_j143.1 9)) 10 (S_j143.1 10)) 11 (S_j143.1 11)) 12 (S_j143.1 12)) 13 (S_j143.1 13)) 30 (S_j143.1 30), va_up (va_up S.2.1 17 (S_j143.2.1 17)) 18 (S_j143.2.1 18), va_up (va_up (va_up (va_up S.2.2 19 ((S_j143.2.2 19) + 1)) 21 (S_j143.2.2 21)) 23 (S_j143.2.2 23)) 24 (S_j143.2.2 24))) (fun _ u171 => True))))))))) ∧ gy_q_MD_readClass S (if v2_j143 = 0 then gm_bd (gm_f_MD_refuse (va_up (va_up (va_up (va_up (va_up (va_up S.1 9 (S_j143.1 9)) 10 (S_j143.1 10)) 11 (S_j143.1 11)) 12 (S_j143.1 12)) 13 (S_j143.1 13)) 30 (S_j143.1 30), va_up (va_up S.2.1 17 (S_j143.2.1 17)) 18 (S_j143.2.1 18), va_up (va_up (va_up (va_up S.2.2 19 (S_j143.2.2 19)) 21 (S_j143.2.2 21)) 23 (S_j143.2.2 23)) 24 (S_j143.2.2 24))) (fun _ u155 => (0, (va_up (va_up (va_up (va_up (va_up (va_up S.1 9 (S_j143.1 9)) 10 (S_j143.1 10)) 11 (S_j143.1 11)) 12 (S_j143.1 12)) 13 (S_j143.1 13)) 30 (S_j143.1 30), va_up (va_up S.2.1 17 (S_j143.2.1 17)) 18 (S_j143.2.1 18), va_up (va_up (va_up (va_up S.2.2 19 (S_j143.2.2 19)) 21 (S_j143.2.2 21)) 23 (S_j143.2.2 23)) 24 (u155.2.2 24)))) else gm_bd (gm_f_MD_peek (va_up (va_up (va_up (va_up (va_up (va_up S.1 9 (S_j143.1 9)) 10 (S_j143.1 10)) 11 (S_j143.1 11)) 12 (S_j143.1 12)) 13 (S_j143.1 13)) 30 (S_j143.1 30), va_up (va_up S.2.1 17 (S_j143.2.1 17)) 18 (S_j143.2.1 18), va_up (va_up (va_up (va_up S.2.2 19 (S_j143.2.2 19)) 21 (S_j143.2.2 21)) 23 (S_j143.2.2 23)) 24 (S_j143.2.2 24))) (fun r148 u148 => if r148 = 0 then gm_bd (gm_f_MD_refuse (va_up (va_up (va_up (va_up (va_up (va_up S.1 9 (S_j143.1 9)) 10 (S_j143.1 10)) 11 (S_j143.1 11)) 12 (S_j143.1 12)) 13 (S_j143.1 13)) 30 (S_j143.1 30), va_up (va_up S.2.1 17 (S_j143.2.1 17)) 18 (S_j143.2.1 18), va_up (va_up (va_up (va_up S.2.2 19 (S_j143.2.2 19)) 21 (S_j143.2.2 21)) 23 (S_j143.2.2 23)) 24 (S_j143.2.2 24))) (fun _ u155 => (0, (va_up (va_up (va_up (va_up (va_up (va_up S.1 9 (S_j143.1 9)) 10 (S_j143.1 10)) 11 (S_j143.1 11)) 12 (S_j143.1 12)) 13 (S_j143.1 13)) 30 (S_j143.1 30), va_up (va_up S.2.1 17 (S_j143.2.1 17)) 18 (S_j143.2.1 18), va_up (va_up (va_up (va_up S.2.2 19 (S_j143.2.2 19)) 21 (S_j143.2.2 21)) 23 (S_j143.2.2 23)) 24 (u155.2.2 24)))) else gm_bd (gm_f_MD_primary r4 (va_up (va_up (va_up (va_up (va_up (va_up S.1 9 (S_j143.1 9)) 10 (S_j143.1 10)) 11 (S_j143.1 11)) 12 (S_j143.1 12)) 13 (S_j143.1 13)) 30 (S_j143.1 30), va_up (va_up S.2.1 17 (S_j143.2.1 17)) 18 (S_j143.2.1 18), va_up (va_up (va_up (va_up S.2.2 19 ((S_j143.2.2 19) + 1)) 21 (S_j143.2.2 21)) 23 (S_j143.2.2 23)) 24 (S_j143.2.2 24))) (fun _ u171 => (0, (va_up (va_up (va_up (va_up (va_up (va_up S.1 9 (u171.1 9)) 10 (u171.1 10)) 11 (u171.1 11)) 12 (u171.1 12)) 13 (u171.1 13)) 30 (u171.1 30), va_up (va_up S.2.1 17 (u171.2.1 17)) 18 (u171.2.1 18), va_up (va_up (va_up (va_up S.2.2 19 (u171.2.2 19)) 21 (u171.2.2 21)) 23 (u171.2.2 23)) 24 (S_j143.2.2 24)))))) := by
      intro v2_j143 S_j143 h27 h28 h29 h30 h31 h32
      try dsimp only
      refine gx_if (Q := gy_q_MD_readClass S) (fun h33 => ?_) (fun h33 => ?_)
      · skip
        have h33_ := gx_eqr (k := 0) (by decide) h33
        refine gx_ca (Q := gy_q_MD_readClass S) (gx_q_MD_refuse _) (gx_s_MD_refuse _ h1 h2) ?_
        intro r_h34 u155 h34
        have h34_0 : (u155.2.2 24).toInt = 1 := h34
        clear h34
        exact ⟨trivial, ⟨h27, (show (0 ≤ (S_j143.1 9 (Int32.toNatClampNeg (S.2.2 5))).toInt) ∧ ((0 ≤ (S_j143.2.2 19).toInt) ∧ (((S_j143.2.2 19).toInt ≤ (S.2.2 2).toInt) ∧ ((0 ≤ (S.2.2 20).toInt) ∧ (((S.2.2 20).toInt ≤ 6) ∧ ((0 ≤ (S_j143.2.2 21).toInt) ∧ ((0 ≤ (S.2.2 22).toInt) ∧ ((((((S_j143.1 9 (Int32.toNatClampNeg (S.2.2 5))).toInt + (S_j143.2.2 21).toInt) + (S.2.2 22).toInt) + (2 * (S.2.2 20).toInt)) ≤ (2 * (S_j143.2.2 19).toInt)) ∧ ((((S_j143.2.2 23).toInt = 0) ∨ ((((((S_j143.1 9 (Int32.toNatClampNeg (S.2.2 5))).toInt + (S_j143.2.2 21).toInt) + (S.2.2 22).toInt) + (2 * (S.2.2 20).toInt)) + 1) ≤ (2 * (S_j143.2.2 19).toInt))) ∧ (((((S_j143.2.2 21).toInt + (S.2.2 22).toInt) + (S.2.2 20).toInt) ≤ (S_j143.2.2 19).toInt) ∧ (((S.2.2 21).toInt ≤ (S_j143.2.2 21).toInt) ∧ ((S.2.2 19).toInt < (S_j143.2.2 19).toInt))))))))))) from (by omega))⟩⟩
      · skip
        have h33_ := gx_eqnr (k := 0) (by decide) h33
        refine gx_ca (Q := gy_q_MD_readClass S) (gx_q_MD_peek _) (gx_s_MD_peek _ h1 h2 (show 0 ≤ (S_j143.2.2 19).toInt from (by omega))) ?_
        intro r148 u148 h34
        have h34_0 : (((r148.toInt = 0) ∧ ((S.2.2 2).toInt ≤ (S_j143.2.2 19).toInt)) ∨ ((32 ≤ r148.toInt) ∧ ((r148.toInt ≤ 126) ∧ ((S_j143.2.2 19).toInt < (S.2.2 2).toInt)))) ∧ (r148 = (gm_f_MD_peek (va_up (va_up (va_up (va_up (va_up (va_up S.1 9 (S_j143.1 9)) 10 (S_j143.1 10)) 11 (S_j143.1 11)) 12 (S_j143.1 12)) 13 (S_j143.1 13)) 30 (S_j143.1 30), va_up (va_up S.2.1 17 (S_j143.2.1 17)) 18 (S_j143.2.1 18), va_up (va_up (va_up (va_up S.2.2 19 (S_j143.2.2 19)) 21 (S_j143.2.2 21)) 23 (S_j143.2.2 23)) 24 (S_j143.2.2 24))).1) := h34
        refine gx_if (Q := gy_q_MD_readClass S) (fun h35 => ?_) (fun h35 => ?_)
        · skip
          have h35_ := gx_eqr (k := 0) (by decide) h35
          refine gx_ca (Q := gy_q_MD_readClass S) (gx_q_MD_refuse _) (gx_s_MD_refuse _ h1 h2) ?_
          intro r_h36 u155 h36
          have h36_0 : (u155.2.2 24).toInt = 1 := h36
          clear h36
          exact ⟨trivial, ⟨h27, (show (0 ≤ (S_j143.1 9 (Int32.toNatClampNeg (S.2.2 5))).toInt) ∧ ((0 ≤ (S_j143.2.2 19).toInt) ∧ (((S_j143.2.2 19).toInt ≤ (S.2.2 2).toInt) ∧ ((0 ≤ (S.2.2 20).toInt) ∧ (((S.2.2 20).toInt ≤ 6) ∧ ((0 ≤ (S_j143.2.2 21).toInt) ∧ ((0 ≤ (S.2.2 22).toInt) ∧ ((((((S_j143.1 9 (Int32.toNatClampNeg (S.2.2 5))).toInt + (S_j143.2.2 21).toInt) + (S.2.2 22).toInt) + (2 * (S.2.2 20).toInt)) ≤ (2 * (S_j143.2.2 19).toInt)) ∧ ((((S_j143.2.2 23).toInt = 0) ∨ ((((((S_j143.1 9 (Int32.toNatClampNeg (S.2.2 5))).toInt + (S_j143.2.2 21).toInt) + (S.2.2 22).toInt) + (2 * (S.2.2 20).toInt)) + 1) ≤ (2 * (S_j143.2.2 19).toInt))) ∧ (((((S_j143.2.2 21).toInt + (S.2.2 22).toInt) + (S.2.2 20).toInt) ≤ (S_j143.2.2 19).toInt) ∧ (((S.2.2 21).toInt ≤ (S_j143.2.2 21).toInt) ∧ ((S.2.2 19).toInt < (S_j143.2.2 19).toInt))))))))))) from (by omega))⟩⟩
        · skip
          have h35_ := gx_eqnr (k := 0) (by decide) h35
          refine gx_ca (Q := gy_q_MD_readClass S) (gy_q_MD_primary _ _) (gy_s_MD_primary _ _ h1 h2 h27 (show 0 ≤ (S_j143.1 9 (Int32.toNatClampNeg (S.2.2 5))).toInt from (by omega)) (show (S_j143.1 9 (Int32.toNatClampNeg (S.2.2 5))).toInt ≤ 145 from (by omega)) (show 0 ≤ ((S_j143.2.2 19) + 1).toInt from (by have := gx_ak (S_j143.2.2 19) 1 (1) (by decide); omega)) (show ((S_j143.2.2 19) + 1).toInt ≤ (S.2.2 2).toInt from (by have := gx_ak (S_j143.2.2 19) 1 (1) (by decide); omega)) (show 0 ≤ (S_j143.2.2 21).toInt from (by omega)) (show (S_j143.2.2 21).toInt ≤ 58 from (by omega)) h18 (show r4.toInt < ((160 * (S.2.2 5).toInt) + (S_j143.1 9 (Int32.toNatClampNeg (S.2.2 5))).toInt) from (by omega)) h15) ?_
          intro r_h36 u171 h36
          have h36_0 : gm_iS 1 (S.2.2 2) (S.2.2 5) (S.1 6) (S.1 7) (S.1 8) (u171.1 9) (u171.1 10) (u171.1 11) (u171.1 12) (u171.1 13) (u171.2.2 21) (S.2.2 22) (u171.1 30) (S.1 31) := h36.1
          have h36_1 : ((u171.2.2 21).toInt = ((S_j143.2.2 21).toInt + 1)) ∧ (((u171.2.2 23).toInt = 0) ∧ ((((S_j143.2.2 19) + 1).toInt ≤ (u171.2.2 19).toInt) ∧ (((u171.2.2 19).toInt ≤ (((S_j143.2.2 19) + 1).toInt + 1)) ∧ (((u171.2.2 19).toInt ≤ (S.2.2 2).toInt) ∧ (((S_j143.1 9 (Int32.toNatClampNeg (S.2.2 5))).toInt ≤ (u171.1 9 (Int32.toNatClampNeg (S.2.2 5))).toInt) ∧ (((u171.1 9 (Int32.toNatClampNeg (S.2.2 5))).toInt ≤ ((S_j143.1 9 (Int32.toNatClampNeg (S.2.2 5))).toInt + (2 * ((u171.2.2 19).toInt - ((S_j143.2.2 19) + 1).toInt)))) ∨ (((S_j143.2.2 23).toInt ≠ 0) ∧ ((u171.1 9 (Int32.toNatClampNeg (S.2.2 5))).toInt ≤ (((S_j143.1 9 (Int32.toNatClampNeg (S.2.2 5))).toInt + (2 * ((u171.2.2 19).toInt - ((S_j143.2.2 19) + 1).toInt))) + 1))))))))) := h36.2
          clear h36
          exact ⟨trivial, ⟨h36_0, (show (0 ≤ (u171.1 9 (Int32.toNatClampNeg (S.2.2 5))).toInt) ∧ ((0 ≤ (u171.2.2 19).toInt) ∧ (((u171.2.2 19).toInt ≤ (S.2.2 2).toInt) ∧ ((0 ≤ (S.2.2 20).toInt) ∧ (((S.2.2 20).toInt ≤ 6) ∧ ((0 ≤ (u171.2.2 21).toInt) ∧ ((0 ≤ (S.2.2 22).toInt) ∧ ((((((u171.1 9 (Int32.toNatClampNeg (S.2.2 5))).toInt + (u171.2.2 21).toInt) + (S.2.2 22).toInt) + (2 * (S.2.2 20).toInt)) ≤ (2 * (u171.2.2 19).toInt)) ∧ ((((u171.2.2 23).toInt = 0) ∨ ((((((u171.1 9 (Int32.toNatClampNeg (S.2.2 5))).toInt + (u171.2.2 21).toInt) + (S.2.2 22).toInt) + (2 * (S.2.2 20).toInt)) + 1) ≤ (2 * (u171.2.2 19).toInt))) ∧ (((((u171.2.2 21).toInt + (S.2.2 22).toInt) + (S.2.2 20).toInt) ≤ (u171.2.2 19).toInt) ∧ (((S.2.2 21).toInt ≤ (u171.2.2 21).toInt) ∧ ((S.2.2 19).toInt < (u171.2.2 19).toInt))))))))))) from (by have := gx_ak (S_j143.2.2 19) 1 (1) (by decide); omega))⟩⟩
    refine gx_ca (Q := gy_q_MD_readClass S) (gx_q_MD_peek _) (gx_s_MD_peek _ h1 h2 (show 0 ≤ (S_20.2.2 19).toInt from (by omega))) ?_
    intro r21 u21 h27
    have h27_0 : (((r21.toInt = 0) ∧ ((S.2.2 2).toInt ≤ (S_20.2.2 19).toInt)) ∨ ((32 ≤ r21.toInt) ∧ ((r21.toInt ≤ 126) ∧ ((S_20.2.2 19).toInt < (S.2.2 2).toInt)))) ∧ (r21 = (gm_f_MD_peek (va_up (va_up (va_up (va_up (va_up (va_up S.1 9 (S_20.1 9)) 10 (S_20.1 10)) 11 (S_20.1 11)) 12 (S_20.1 12)) 13 (S_20.1 13)) 30 (S_20.1 30), va_up (va_up S.2.1 17 (S_20.2.1 17)) 18 (S_20.2.1 18), va_up (va_up (va_up (va_up S.2.2 19 (S_20.2.2 19)) 21 (S_20.2.2 21)) 23 (S_20.2.2 23)) 24 (S_20.2.2 24))).1) := h27
    refine gx_if (Q := gy_q_MD_readClass S) (fun h28 => ?_) (fun h28 => ?_)
    · skip
      have h28_ := gx_eqr (k := 0) (by decide) h28
      refine key143 v2_20 (va_up (va_up (va_up (va_up (va_up (va_up S.1 9 (S_20.1 9)) 10 (S_20.1 10)) 11 (S_20.1 11)) 12 (S_20.1 12)) 13 (S_20.1 13)) 30 (S_20.1 30), va_up (va_up S.2.1 17 (S_20.2.1 17)) 18 (S_20.2.1 18), va_up (va_up (va_up (va_up S.2.2 19 (S_20.2.2 19)) 21 (S_20.2.2 21)) 23 (S_20.2.2 23)) 24 (S_20.2.2 24)) ?_ ?_ ?_ ?_ ?_ ?_
      · exact h20
      · exact h21
      · exact h22
      · exact h23
      · exact h24
      · exact h25
    · skip
      have h28_ := gx_eqnr (k := 0) (by decide) h28
      refine gx_ca (Q := gy_q_MD_readClass S) (gx_q_MD_peek _) (gx_s_MD_peek _ h1 h2 (show 0 ≤ (S_20.2.2 19).toInt from (by omega))) ?_
      intro r28 u28 h29
      have h29_0 : (((r28.toInt = 0) ∧ ((S.2.2 2).toInt ≤ (S_20.2.2 19).toInt)) ∨ ((32 ≤ r28.toInt) ∧ ((r28.toInt ≤ 126) ∧ ((S_20.2.2 19).toInt < (S.2.2 2).toInt)))) ∧ (r28 = (gm_f_MD_peek (va_up (va_up (va_up (va_up (va_up (va_up S.1 9 (S_20.1 9)) 10 (S_20.1 10)) 11 (S_20.1 11)) 12 (S_20.1 12)) 13 (S_20.1 13)) 30 (S_20.1 30), va_up (va_up S.2.1 17 (S_20.2.1 17)) 18 (S_20.2.1 18), va_up (va_up (va_up (va_up S.2.2 19 (S_20.2.2 19)) 21 (S_20.2.2 21)) 23 (S_20.2.2 23)) 24 (S_20.2.2 24))).1) := h29
      have h29_f := gx_eq ((show r28 = _ from h29.2).trans (show r21 = _ from h27.2).symm)
      refine gx_if (Q := gy_q_MD_readClass S) (fun h30 => ?_) (fun h30 => ?_)
      · skip
        have h30_ := gx_eqr (k := 93) (gx_lit 93 (by decide)) h30
        refine key143 v2_20 (va_up (va_up (va_up (va_up (va_up (va_up S.1 9 (S_20.1 9)) 10 (S_20.1 10)) 11 (S_20.1 11)) 12 (S_20.1 12)) 13 (S_20.1 13)) 30 (S_20.1 30), va_up (va_up S.2.1 17 (S_20.2.1 17)) 18 (S_20.2.1 18), va_up (va_up (va_up (va_up S.2.2 19 (S_20.2.2 19)) 21 (S_20.2.2 21)) 23 (S_20.2.2 23)) 24 (S_20.2.2 24)) ?_ ?_ ?_ ?_ ?_ ?_
        · exact h20
        · exact h21
        · exact h22
        · exact h23
        · exact h24
        · exact h25
      · skip
        have h30_ := gx_eqnr (k := 93) (gx_lit 93 (by decide)) h30
        refine gx_ca (Q := gy_q_MD_readClass S) (gx_q_MD_peek _) (gx_s_MD_peek _ h1 h2 (show 0 ≤ (S_20.2.2 19).toInt from (by omega))) ?_
        intro r37 u37 h31
        have h31_0 : (((r37.toInt = 0) ∧ ((S.2.2 2).toInt ≤ (S_20.2.2 19).toInt)) ∨ ((32 ≤ r37.toInt) ∧ ((r37.toInt ≤ 126) ∧ ((S_20.2.2 19).toInt < (S.2.2 2).toInt)))) ∧ (r37 = (gm_f_MD_peek (va_up (va_up (va_up (va_up (va_up (va_up S.1 9 (S_20.1 9)) 10 (S_20.1 10)) 11 (S_20.1 11)) 12 (S_20.1 12)) 13 (S_20.1 13)) 30 (S_20.1 30), va_up (va_up S.2.1 17 (S_20.2.1 17)) 18 (S_20.2.1 18), va_up (va_up (va_up (va_up S.2.2 19 (S_20.2.2 19)) 21 (S_20.2.2 21)) 23 (S_20.2.2 23)) 24 (S_20.2.2 24))).1) := h31
        have h31_f := gx_eq ((show r37 = _ from h31.2).trans (show r21 = _ from h27.2).symm)
        refine gx_ca (Q := gy_q_MD_readClass S) (gx_q_MD_peek _) (gx_s_MD_peek _ h1 h2 (show 0 ≤ ((S_20.2.2 19) + 1).toInt from (by have := gx_ak (S_20.2.2 19) 1 (1) (by decide); omega))) ?_
        intro r55 u55 h32
        have h32_0 : (((r55.toInt = 0) ∧ ((S.2.2 2).toInt ≤ ((S_20.2.2 19) + 1).toInt)) ∨ ((32 ≤ r55.toInt) ∧ ((r55.toInt ≤ 126) ∧ (((S_20.2.2 19) + 1).toInt < (S.2.2 2).toInt)))) ∧ (r55 = (gm_f_MD_peek (va_up (va_up (va_up (va_up (va_up (va_up S.1 9 (S_20.1 9)) 10 (S_20.1 10)) 11 (S_20.1 11)) 12 (S_20.1 12)) 13 (S_20.1 13)) 30 (S_20.1 30), va_up (va_up S.2.1 17 (S_20.2.1 17)) 18 (S_20.2.1 18), va_up (va_up (va_up (va_up S.2.2 19 ((S_20.2.2 19) + 1)) 21 (S_20.2.2 21)) 23 (S_20.2.2 23)) 24 (S_20.2.2 24))).1) := h32
        have key130 : ∀ (v4_j130 : Int32) (S_j130 : gm_S), (gm_iS 1 (S.2.2 2) (S.2.2 5) (S.1 6) (S.1 7) (S.1 8) (S_j130.1 9) (S_j130.1 10) (S_j130.1 11) (S_j130.1 12) (S_j130.1 13) (S_j130.2.2 21) (S.2.2 22) (S_j130.1 30) (S.1 31)) → (((S.2.2 19).toInt + 1) ≤ (S_j130.2.2 19).toInt) → ((S_j130.2.2 19).toInt ≤ (S.2.2 2).toInt) → ((S_j130.1 9 (Int32.toNatClampNeg (S.2.2 5))).toInt = ((S.1 9 (Int32.toNatClampNeg (S.2.2 5))).toInt + 1)) → ((S_j130.2.2 21).toInt = (S.2.2 21).toInt) → ((S_j130.2.2 23).toInt = (S.2.2 23).toInt) → ((S_20.2.2 19).toInt < (S_j130.2.2 19).toInt) → (0 ≤ v4_j130.toInt) → (v4_j130.toInt ≤ 126) → ((gm_p_MD_include r4 r37 v4_j130 (va_up (va_up (va_up (va_up (va_up (va_up S.1 9 (S_j130.1 9)) 10 (S_j130.1 10)) 11 (S_j130.1 11)) 12 (S_j130.1 12)) 13 (S_j130.1 13)) 30 (S_j130.1 30), va_up (va_up S.2.1 17 (S_j130.2.1 17)) 18 (S_j130.2.1 18), va_up (va_up (va_up (va_up S.2.2 19 (S_j130.2.2 19)) 21 (S_j130.2.2 21)) 23 (S_j130.2.2 23)) 24 (S_j130.2.2 24))) ∧ (gm_bd (gm_f_MD_include r4 r37 v4_j130 (va_up (va_up (va_up (va_up (va_up (va_up S.1 9 (S_j130.1 9)) 10 (S_j130.1 10)) 11 (S_j130.1 11)) 12 (S_j130.1 12)) 13 (S_j130.1 13)) 30 (S_j130.1 30), va_up (va_up S.2.1 17 (S_j130.2.1 17)) 18 (S_j130.2.1 18), va_up (va_up (va_up (va_up S.2.2 19 (S_j130.2.2 19)) 21 (S_j130.2.2 21)) 23 (S_j130.2.2 23)) 24 (S_j130.2.2 24))) (fun _ u135 => gm_p_MD_readClass_20 S r4 u4 n20 1 (va_up (va_up (va_up (va_up (va_up (va_up S.1 9 (S_j130.1 9)) 10 (S_j130.1 10)) 11 (S_j130.1 11)) 12 (S_j130.1 12)) 13 (S_j130.1 13)) 30 (S_j130.1 30), va_up (va_up S.2.1 17 (u135.2.1 17)) 18 (u135.2.1 18), va_up (va_up (va_up (va_up S.2.2 19 (S_j130.2.2 19)) 21 (S_j130.2.2 21)) 23 (S_j130.2.2 23)) 24 (S_j130.2.2 24))))) ∧ gy_q_MD_readClass S (gm_bd (gm_f_MD_include r4 r37 v4_j130 (va_up (va_up (va_up (va_up (va_up (va_up S.1 9 (S_j130.1 9)) 10 (S_j130.1 10)) 11 (S_j130.1 11)) 12 (S_j130.1 12)) 13 (S_j130.1 13)) 30 (S_j130.1 30), va_up (va_up S.2.1 17 (S_j130.2.1 17)) 18 (S_j130.2.1 18), va_up (va_up (va_up (va_up S.2.2 19 (S_j130.2.2 19)) 21 (S_j130.2.2 21)) 23 (S_j130.2.2 23)) 24 (S_j130.2.2 24))) (fun _ u135 => gm_f_MD_readClass_20 S r4 u4 n20 1 (va_up (va_up (va_up (va_up (va_up (va_up S.1 9 (S_j130.1 9)) 10 (S_j130.1 10)) 11 (S_j130.1 11)) 12 (S_j130.1 12)) 13 (S_j130.1 13)) 30 (S_j130.1 30), va_up (va_up S.2.1 17 (u135.2.1 17)) 18 (u135.2.1 18), va_up (va_up (va_up (va_up S.2.2 19 (S_j130.2.2 19)) 21 (S_j130.2.2 21)) 23 (S_j130.2.2 23)) 24 (S_j130.2.2 24)))) := by
          intro v4_j130 S_j130 h33 h34 h35 h36 h37 h38 h39 h40 h41
          try dsimp only
          refine gx_ca (Q := gy_q_MD_readClass S) (gx_q_MD_include _ _ _ _) (gx_s_MD_include _ _ _ _ h1 h2 h16 h17 (show 0 ≤ r37.toInt from (by have := gx_ak (S_20.2.2 19) 1 (1) (by decide); omega)) (show r37.toInt ≤ 126 from (by have := gx_ak (S_20.2.2 19) 1 (1) (by decide); omega)) h40 h41) ?_
          intro r_h42 u135 h42
          clear h42
          refine ih _ _ ?_ ?_ ?_ ?_ ?_ ?_ ?_
          · exact h33
          · exact h34
          · exact h35
          · exact h36
          · exact h37
          · exact h38
          · exact (show (((S.2.2 2).toInt - (S_j130.2.2 19).toInt) + 1) < n20 from (by have := gx_ak (S_20.2.2 19) 1 (1) (by decide); omega))
        refine gx_if (Q := gy_q_MD_readClass S) (fun h33 => ?_) (fun h33 => ?_)
        · skip
          have h33_ := gx_eqr (k := 45) (gx_lit 45 (by decide)) h33
          refine gx_if (Q := gy_q_MD_readClass S) (fun h34 => ?_) (fun h34 => ?_)
          · skip
            have h34_ := gx_le h34
            refine key130 r37 (va_up (va_up (va_up (va_up (va_up (va_up S.1 9 (S_20.1 9)) 10 (S_20.1 10)) 11 (S_20.1 11)) 12 (S_20.1 12)) 13 (S_20.1 13)) 30 (S_20.1 30), va_up (va_up S.2.1 17 (S_20.2.1 17)) 18 (S_20.2.1 18), va_up (va_up (va_up (va_up S.2.2 19 ((S_20.2.2 19) + 1)) 21 (S_20.2.2 21)) 23 (S_20.2.2 23)) 24 (S_20.2.2 24)) ?_ ?_ ?_ ?_ ?_ ?_ ?_ ?_ ?_
            · exact h20
            · exact (show ((S.2.2 19).toInt + 1) ≤ ((S_20.2.2 19) + 1).toInt from (by have := gx_ak (S_20.2.2 19) 1 (1) (by decide); have := gx_ak ((S_20.2.2 19) + 1) 1 (1) (by decide); omega))
            · exact (show ((S_20.2.2 19) + 1).toInt ≤ (S.2.2 2).toInt from (by have := gx_ak (S_20.2.2 19) 1 (1) (by decide); have := gx_ak ((S_20.2.2 19) + 1) 1 (1) (by decide); omega))
            · exact h23
            · exact h24
            · exact h25
            · exact (show (S_20.2.2 19).toInt < ((S_20.2.2 19) + 1).toInt from (by have := gx_ak (S_20.2.2 19) 1 (1) (by decide); have := gx_ak ((S_20.2.2 19) + 1) 1 (1) (by decide); omega))
            · exact (show 0 ≤ r37.toInt from (by have := gx_ak (S_20.2.2 19) 1 (1) (by decide); have := gx_ak ((S_20.2.2 19) + 1) 1 (1) (by decide); omega))
            · exact (show r37.toInt ≤ 126 from (by have := gx_ak (S_20.2.2 19) 1 (1) (by decide); have := gx_ak ((S_20.2.2 19) + 1) 1 (1) (by decide); omega))
          · skip
            have h34_ := gx_len h34
            refine gx_in (Q := gy_q_MD_readClass S) (vp_in_iff.mpr (by have := gx_ak ((S_20.2.2 19) + 1) 1 (1) (by decide); have := gx_ak (S_20.2.2 19) 1 (1) (by decide); omega)) ?_
            refine gx_if (Q := gy_q_MD_readClass S) (fun h35 => ?_) (fun h35 => ?_)
            · skip
              clear h35
              refine key130 r37 (va_up (va_up (va_up (va_up (va_up (va_up S.1 9 (S_20.1 9)) 10 (S_20.1 10)) 11 (S_20.1 11)) 12 (S_20.1 12)) 13 (S_20.1 13)) 30 (S_20.1 30), va_up (va_up S.2.1 17 (S_20.2.1 17)) 18 (S_20.2.1 18), va_up (va_up (va_up (va_up S.2.2 19 ((S_20.2.2 19) + 1)) 21 (S_20.2.2 21)) 23 (S_20.2.2 23)) 24 (S_20.2.2 24)) ?_ ?_ ?_ ?_ ?_ ?_ ?_ ?_ ?_
              · exact h20
              · exact (show ((S.2.2 19).toInt + 1) ≤ ((S_20.2.2 19) + 1).toInt from (by have := gx_ak (S_20.2.2 19) 1 (1) (by decide); have := gx_ak ((S_20.2.2 19) + 1) 1 (1) (by decide); omega))
              · exact (show ((S_20.2.2 19) + 1).toInt ≤ (S.2.2 2).toInt from (by have := gx_ak (S_20.2.2 19) 1 (1) (by decide); have := gx_ak ((S_20.2.2 19) + 1) 1 (1) (by decide); omega))
              · exact h23
              · exact h24
              · exact h25
              · exact (show (S_20.2.2 19).toInt < ((S_20.2.2 19) + 1).toInt from (by have := gx_ak (S_20.2.2 19) 1 (1) (by decide); have := gx_ak ((S_20.2.2 19) + 1) 1 (1) (by decide); omega))
              · exact (show 0 ≤ r37.toInt from (by have := gx_ak (S_20.2.2 19) 1 (1) (by decide); have := gx_ak ((S_20.2.2 19) + 1) 1 (1) (by decide); omega))
              · exact (show r37.toInt ≤ 126 from (by have := gx_ak (S_20.2.2 19) 1 (1) (by decide); have := gx_ak ((S_20.2.2 19) + 1) 1 (1) (by decide); omega))
            · skip
              clear h35
              refine gx_in (Q := gy_q_MD_readClass S) (vp_in_iff.mpr (by have := gx_ak ((S_20.2.2 19) + 1) 1 (1) (by decide); have := gx_ak (S_20.2.2 19) 1 (1) (by decide); omega)) ?_
              refine gx_if (Q := gy_q_MD_readClass S) (fun h36 => ?_) (fun h36 => ?_)
              · skip
                clear h36
                refine key130 r37 (va_up (va_up (va_up (va_up (va_up (va_up S.1 9 (S_20.1 9)) 10 (S_20.1 10)) 11 (S_20.1 11)) 12 (S_20.1 12)) 13 (S_20.1 13)) 30 (S_20.1 30), va_up (va_up S.2.1 17 (S_20.2.1 17)) 18 (S_20.2.1 18), va_up (va_up (va_up (va_up S.2.2 19 ((S_20.2.2 19) + 1)) 21 (S_20.2.2 21)) 23 (S_20.2.2 23)) 24 (S_20.2.2 24)) ?_ ?_ ?_ ?_ ?_ ?_ ?_ ?_ ?_
                · exact h20
                · exact (show ((S.2.2 19).toInt + 1) ≤ ((S_20.2.2 19) + 1).toInt from (by have := gx_ak (S_20.2.2 19) 1 (1) (by decide); have := gx_ak ((S_20.2.2 19) + 1) 1 (1) (by decide); omega))
                · exact (show ((S_20.2.2 19) + 1).toInt ≤ (S.2.2 2).toInt from (by have := gx_ak (S_20.2.2 19) 1 (1) (by decide); have := gx_ak ((S_20.2.2 19) + 1) 1 (1) (by decide); omega))
                · exact h23
                · exact h24
                · exact h25
                · exact (show (S_20.2.2 19).toInt < ((S_20.2.2 19) + 1).toInt from (by have := gx_ak (S_20.2.2 19) 1 (1) (by decide); have := gx_ak ((S_20.2.2 19) + 1) 1 (1) (by decide); omega))
                · exact (show 0 ≤ r37.toInt from (by have := gx_ak (S_20.2.2 19) 1 (1) (by decide); have := gx_ak ((S_20.2.2 19) + 1) 1 (1) (by decide); omega))
                · exact (show r37.toInt ≤ 126 from (by have := gx_ak (S_20.2.2 19) 1 (1) (by decide); have := gx_ak ((S_20.2.2 19) + 1) 1 (1) (by decide); omega))
              · skip
                clear h36
                refine gx_in (Q := gy_q_MD_readClass S) (vp_in_iff.mpr (by have := gx_ak ((S_20.2.2 19) + 1) 1 (1) (by decide); have := gx_ak (S_20.2.2 19) 1 (1) (by decide); omega)) ?_
                refine key130 (S.1 3 (Int32.toNatClampNeg (((S_20.2.2 19) + 1) + 1))) (va_up (va_up (va_up (va_up (va_up (va_up S.1 9 (S_20.1 9)) 10 (S_20.1 10)) 11 (S_20.1 11)) 12 (S_20.1 12)) 13 (S_20.1 13)) 30 (S_20.1 30), va_up (va_up S.2.1 17 (S_20.2.1 17)) 18 (S_20.2.1 18), va_up (va_up (va_up (va_up S.2.2 19 (((S_20.2.2 19) + 1) + 2)) 21 (S_20.2.2 21)) 23 (S_20.2.2 23)) 24 (S_20.2.2 24)) ?_ ?_ ?_ ?_ ?_ ?_ ?_ ?_ ?_
                · exact h20
                · exact (show ((S.2.2 19).toInt + 1) ≤ (((S_20.2.2 19) + 1) + 2).toInt from (by have := gx_ak ((S_20.2.2 19) + 1) 2 (2) (gx_lit 2 (by decide)); have := gx_ak (S_20.2.2 19) 1 (1) (by decide); have := gx_ak ((S_20.2.2 19) + 1) 1 (1) (by decide); omega))
                · exact (show (((S_20.2.2 19) + 1) + 2).toInt ≤ (S.2.2 2).toInt from (by have := gx_ak ((S_20.2.2 19) + 1) 2 (2) (gx_lit 2 (by decide)); have := gx_ak (S_20.2.2 19) 1 (1) (by decide); have := gx_ak ((S_20.2.2 19) + 1) 1 (1) (by decide); omega))
                · exact h23
                · exact h24
                · exact h25
                · exact (show (S_20.2.2 19).toInt < (((S_20.2.2 19) + 1) + 2).toInt from (by have := gx_ak ((S_20.2.2 19) + 1) 2 (2) (gx_lit 2 (by decide)); have := gx_ak (S_20.2.2 19) 1 (1) (by decide); have := gx_ak ((S_20.2.2 19) + 1) 1 (1) (by decide); omega))
                · exact (show 0 ≤ (S.1 3 (Int32.toNatClampNeg (((S_20.2.2 19) + 1) + 1))).toInt from (by have := gx_ak ((S_20.2.2 19) + 1) 1 (1) (by decide); have := gx_ak (S_20.2.2 19) 1 (1) (by decide); have := gx_tx h1 (x := ((S_20.2.2 19) + 1) + 1) (by omega) (by omega); omega))
                · exact (show (S.1 3 (Int32.toNatClampNeg (((S_20.2.2 19) + 1) + 1))).toInt ≤ 126 from (by have := gx_ak ((S_20.2.2 19) + 1) 1 (1) (by decide); have := gx_ak (S_20.2.2 19) 1 (1) (by decide); have := gx_tx h1 (x := ((S_20.2.2 19) + 1) + 1) (by omega) (by omega); omega))
        · skip
          have h33_ := gx_eqnr (k := 45) (gx_lit 45 (by decide)) h33
          refine key130 r37 (va_up (va_up (va_up (va_up (va_up (va_up S.1 9 (S_20.1 9)) 10 (S_20.1 10)) 11 (S_20.1 11)) 12 (S_20.1 12)) 13 (S_20.1 13)) 30 (S_20.1 30), va_up (va_up S.2.1 17 (S_20.2.1 17)) 18 (S_20.2.1 18), va_up (va_up (va_up (va_up S.2.2 19 ((S_20.2.2 19) + 1)) 21 (S_20.2.2 21)) 23 (S_20.2.2 23)) 24 (S_20.2.2 24)) ?_ ?_ ?_ ?_ ?_ ?_ ?_ ?_ ?_
          · exact h20
          · exact (show ((S.2.2 19).toInt + 1) ≤ ((S_20.2.2 19) + 1).toInt from (by have := gx_ak (S_20.2.2 19) 1 (1) (by decide); omega))
          · exact (show ((S_20.2.2 19) + 1).toInt ≤ (S.2.2 2).toInt from (by have := gx_ak (S_20.2.2 19) 1 (1) (by decide); omega))
          · exact h23
          · exact h24
          · exact h25
          · exact (show (S_20.2.2 19).toInt < ((S_20.2.2 19) + 1).toInt from (by have := gx_ak (S_20.2.2 19) 1 (1) (by decide); omega))
          · exact (show 0 ≤ r37.toInt from (by have := gx_ak (S_20.2.2 19) 1 (1) (by decide); omega))
          · exact (show r37.toInt ≤ 126 from (by have := gx_ak (S_20.2.2 19) 1 (1) (by decide); omega))
set_option maxRecDepth 100000 in
theorem gy_s_MD_readClass (S : gm_S) (h1 : gm_iW 50 (S.2.2 2) (S.1 3)) (h2 : gm_iN 1 (S.2.2 5)) (h3 : gm_iS 1 (S.2.2 2) (S.2.2 5) (S.1 6) (S.1 7) (S.1 8) (S.1 9) (S.1 10) (S.1 11) (S.1 12) (S.1 13) (S.2.2 21) (S.2.2 22) (S.1 30) (S.1 31)) (h4 : 0 ≤ (S.1 9 (Int32.toNatClampNeg (S.2.2 5))).toInt) (h5 : 0 ≤ (S.2.2 19).toInt) (h6 : (S.2.2 19).toInt ≤ (S.2.2 2).toInt) (h7 : 0 ≤ (S.2.2 20).toInt) (h8 : (S.2.2 20).toInt ≤ 6) (h9 : 0 ≤ (S.2.2 21).toInt) (h10 : 0 ≤ (S.2.2 22).toInt) (h11 : ((((S.1 9 (Int32.toNatClampNeg (S.2.2 5))).toInt + (S.2.2 21).toInt) + (S.2.2 22).toInt) + (2 * (S.2.2 20).toInt)) ≤ (2 * (S.2.2 19).toInt)) (h12 : ((S.2.2 23).toInt = 0) ∨ ((((((S.1 9 (Int32.toNatClampNeg (S.2.2 5))).toInt + (S.2.2 21).toInt) + (S.2.2 22).toInt) + (2 * (S.2.2 20).toInt)) + 1) ≤ (2 * (S.2.2 19).toInt))) (h13 : (((S.2.2 21).toInt + (S.2.2 22).toInt) + (S.2.2 20).toInt) ≤ (S.2.2 19).toInt) (h14 : (S.2.2 19).toInt < (S.2.2 2).toInt) (h15 : 0 ≤ (S.1 6 (Int32.toNatClampNeg (S.2.2 5))).toInt) : gm_p_MD_readClass S ∧ gy_q_MD_readClass S (gm_f_MD_readClass S) := by
  unfold gm_p_MD_readClass gm_f_MD_readClass
  refine gx_ca (Q := gy_q_MD_readClass S) (gy_q_MD_create _ _ _ _) (gy_s_MD_create _ _ _ _ h1 h2 h3 h4 (show (S.1 9 (Int32.toNatClampNeg (S.2.2 5))).toInt ≤ 150 from (by omega)) (show (((2 : Int32).toInt = 0) ∨ ((2 : Int32).toInt = 2)) ∨ ((((2 : Int32).toInt = 1) ∧ ((0 ≤ ((-1) : Int32).toInt) ∧ ((1 ≤ ((-1) : Int32).toInt) ∧ ((((-1) : Int32).toInt + ((-1) : Int32).toInt) ≤ (S.2.2 2).toInt)))) ∨ ((((2 : Int32).toInt = 3) ∧ ((65 ≤ ((-1) : Int32).toInt) ∧ (((-1) : Int32).toInt ≤ 90))) ∨ (((4 ≤ (2 : Int32).toInt) ∧ ((2 : Int32).toInt ≤ 10)) ∧ ((((160 * (S.2.2 5).toInt) ≤ ((-1) : Int32).toInt) ∧ (((-1) : Int32).toInt < ((160 * (S.2.2 5).toInt) + (S.1 9 (Int32.toNatClampNeg (S.2.2 5))).toInt))) ∧ ((5 < (2 : Int32).toInt) ∨ (((160 * (S.2.2 5).toInt) ≤ ((-1) : Int32).toInt) ∧ (((-1) : Int32).toInt < ((160 * (S.2.2 5).toInt) + (S.1 9 (Int32.toNatClampNeg (S.2.2 5))).toInt)))))))) from (by have : ((-1) : Int32).toInt = -1 := (by decide); have : (2 : Int32).toInt = 2 := gx_lit 2 (by decide); omega)) h15) ?_
  intro r4 u4 h16
  have h16_0 : gm_iS 1 (S.2.2 2) (S.2.2 5) (S.1 6) (S.1 7) (S.1 8) (u4.1 9) (u4.1 10) (u4.1 11) (u4.1 12) (u4.1 13) (S.2.2 21) (S.2.2 22) (S.1 30) (S.1 31) := h16.1
  have h16_1 : ((u4.1 9 (Int32.toNatClampNeg (S.2.2 5))).toInt = ((S.1 9 (Int32.toNatClampNeg (S.2.2 5))).toInt + 1)) ∧ (r4.toInt = ((160 * (S.2.2 5).toInt) + (S.1 9 (Int32.toNatClampNeg (S.2.2 5))).toInt)) := h16.2
  clear h16
  refine gy_s_MD_readClass_20 _ _ _ ?_ ?_ ?_ ?_ ?_ ?_ ?_ ?_ ?_ ?_ ?_ ?_ ?_ ?_ ?_ ?_ ?_ ?_ ?_ _ _ _ ?_ ?_ ?_ ?_ ?_ ?_ ?_
  · exact h1
  · exact h2
  · exact h3
  · exact (show 0 ≤ (S.1 9 (Int32.toNatClampNeg (S.2.2 5))).toInt from (by omega))
  · exact (show 0 ≤ (S.2.2 19).toInt from (by omega))
  · exact (show (S.2.2 19).toInt ≤ (S.2.2 2).toInt from (by omega))
  · exact (show 0 ≤ (S.2.2 20).toInt from (by omega))
  · exact (show (S.2.2 20).toInt ≤ 6 from (by omega))
  · exact (show 0 ≤ (S.2.2 21).toInt from (by omega))
  · exact (show 0 ≤ (S.2.2 22).toInt from (by omega))
  · exact (show ((((S.1 9 (Int32.toNatClampNeg (S.2.2 5))).toInt + (S.2.2 21).toInt) + (S.2.2 22).toInt) + (2 * (S.2.2 20).toInt)) ≤ (2 * (S.2.2 19).toInt) from (by omega))
  · exact (show ((S.2.2 23).toInt = 0) ∨ ((((((S.1 9 (Int32.toNatClampNeg (S.2.2 5))).toInt + (S.2.2 21).toInt) + (S.2.2 22).toInt) + (2 * (S.2.2 20).toInt)) + 1) ≤ (2 * (S.2.2 19).toInt)) from (by omega))
  · exact (show (((S.2.2 21).toInt + (S.2.2 22).toInt) + (S.2.2 20).toInt) ≤ (S.2.2 19).toInt from (by omega))
  · exact (show (S.2.2 19).toInt < (S.2.2 2).toInt from (by omega))
  · exact (show 0 ≤ (S.1 6 (Int32.toNatClampNeg (S.2.2 5))).toInt from (by omega))
  · exact (show 0 ≤ r4.toInt from (by omega))
  · exact (show r4.toInt ≤ 319 from (by omega))
  · exact (show (160 * (S.2.2 5).toInt) ≤ r4.toInt from (by omega))
  · exact (show r4.toInt < (((160 * (S.2.2 5).toInt) + (S.1 9 (Int32.toNatClampNeg (S.2.2 5))).toInt) + 1) from (by omega))
  · exact h16_0
  · exact (show ((S.2.2 19).toInt + 1) ≤ ((S.2.2 19) + 1).toInt from (by have := gx_ak (S.2.2 19) 1 (1) (by decide); omega))
  · exact (show ((S.2.2 19) + 1).toInt ≤ (S.2.2 2).toInt from (by have := gx_ak (S.2.2 19) 1 (1) (by decide); omega))
  · exact (show (u4.1 9 (Int32.toNatClampNeg (S.2.2 5))).toInt = ((S.1 9 (Int32.toNatClampNeg (S.2.2 5))).toInt + 1) from (by omega))
  · exact (show (S.2.2 21).toInt = (S.2.2 21).toInt from (by omega))
  · exact (show (S.2.2 23).toInt = (S.2.2 23).toInt from (by omega))
  · exact (show (((S.2.2 2).toInt - ((S.2.2 19) + 1).toInt) + 1) < 200 from (by have := gx_ak (S.2.2 19) 1 (1) (by decide); omega))
abbrev gy_q_MD_readSign (x : Int32) (S : gm_S) (z : Int32 × (gm_S)) : Prop := (gm_iC (z.2.2.2 20) (z.2.2.2 21) (z.2.2.2 22) (S.1 26) (S.1 28) (S.1 29)) ∧ (gm_iS 1 (S.2.2 2) (S.2.2 5) (S.1 6) (S.1 7) (z.2.1 8) (z.2.1 9) (z.2.1 10) (z.2.1 11) (z.2.1 12) (z.2.1 13) (z.2.2.2 21) (z.2.2.2 22) (z.2.1 30) (z.2.1 31)) ∧ (((((z.2.2.2 25).toInt ≠ 0) ∨ (((160 * (S.2.2 5).toInt) ≤ (z.2.1 8 (Int32.toNatClampNeg ((8 * (S.2.2 5)) + (S.1 6 (Int32.toNatClampNeg (S.2.2 5)))))).toInt) ∧ ((z.2.1 8 (Int32.toNatClampNeg ((8 * (S.2.2 5)) + (S.1 6 (Int32.toNatClampNeg (S.2.2 5)))))).toInt < ((160 * (S.2.2 5).toInt) + (z.2.1 9 (Int32.toNatClampNeg (S.2.2 5))).toInt))))) ∧ ((0 ≤ (z.2.1 9 (Int32.toNatClampNeg (S.2.2 5))).toInt) ∧ ((0 ≤ (z.2.2.2 19).toInt) ∧ (((z.2.2.2 19).toInt ≤ (S.2.2 2).toInt) ∧ ((0 ≤ (z.2.2.2 20).toInt) ∧ (((z.2.2.2 20).toInt ≤ 6) ∧ ((0 ≤ (z.2.2.2 21).toInt) ∧ ((0 ≤ (z.2.2.2 22).toInt) ∧ ((((((z.2.1 9 (Int32.toNatClampNeg (S.2.2 5))).toInt + (z.2.2.2 21).toInt) + (z.2.2.2 22).toInt) + (2 * (z.2.2.2 20).toInt)) ≤ (2 * (z.2.2.2 19).toInt)) ∧ ((((z.2.2.2 23).toInt = 0) ∨ ((((((z.2.1 9 (Int32.toNatClampNeg (S.2.2 5))).toInt + (z.2.2.2 21).toInt) + (z.2.2.2 22).toInt) + (2 * (z.2.2.2 20).toInt)) + 1) ≤ (2 * (z.2.2.2 19).toInt))) ∧ (((((z.2.2.2 21).toInt + (z.2.2.2 22).toInt) + (z.2.2.2 20).toInt) ≤ (z.2.2.2 19).toInt) ∧ (((S.2.2 19).toInt ≤ (z.2.2.2 19).toInt) ∧ ((((S.2.2 19).toInt < (z.2.2.2 19).toInt) ∨ ((z.2.2.2 24).toInt ≠ 0)))))))))))))))
set_option maxRecDepth 100000 in
theorem gy_s_MD_readSign_j39 (x : Int32) (S : gm_S) (S_j39 : gm_S) (h1 : gm_iW 50 (S.2.2 2) (S.1 3)) (h2 : gm_iN 1 (S.2.2 5)) (h3 : gm_iC (S.2.2 20) (S.2.2 21) (S.2.2 22) (S.1 26) (S.1 28) (S.1 29)) (h4 : gm_iS 1 (S.2.2 2) (S.2.2 5) (S.1 6) (S.1 7) (S.1 8) (S.1 9) (S.1 10) (S.1 11) (S.1 12) (S.1 13) (S.2.2 21) (S.2.2 22) (S.1 30) (S.1 31)) (h5 : 0 ≤ (S.1 9 (Int32.toNatClampNeg (S.2.2 5))).toInt) (h6 : 0 ≤ (S.2.2 19).toInt) (h7 : (S.2.2 19).toInt ≤ (S.2.2 2).toInt) (h8 : 0 ≤ (S.2.2 20).toInt) (h9 : (S.2.2 20).toInt ≤ 6) (h10 : 0 ≤ (S.2.2 21).toInt) (h11 : 0 ≤ (S.2.2 22).toInt) (h12 : ((((S.1 9 (Int32.toNatClampNeg (S.2.2 5))).toInt + (S.2.2 21).toInt) + (S.2.2 22).toInt) + (2 * (S.2.2 20).toInt)) ≤ (2 * (S.2.2 19).toInt)) (h13 : ((S.2.2 23).toInt = 0) ∨ ((((((S.1 9 (Int32.toNatClampNeg (S.2.2 5))).toInt + (S.2.2 21).toInt) + (S.2.2 22).toInt) + (2 * (S.2.2 20).toInt)) + 1) ≤ (2 * (S.2.2 19).toInt))) (h14 : (((S.2.2 21).toInt + (S.2.2 22).toInt) + (S.2.2 20).toInt) ≤ (S.2.2 19).toInt) (h15 : (S.2.2 23).toInt = 0) (h16 : 0 ≤ x.toInt) (h17 : (x.toInt = 0) ∨ ((S.2.2 19).toInt < (S.2.2 2).toInt)) (h18 : 0 ≤ (S.1 6 (Int32.toNatClampNeg (S.2.2 5))).toInt) (h19 : (S.1 6 (Int32.toNatClampNeg (S.2.2 5))).toInt ≤ 7) (h20 : (S.2.2 25).toInt ≠ 0) (h21 : (S_j39.1 9 (Int32.toNatClampNeg (S.2.2 5))).toInt = (S.1 9 (Int32.toNatClampNeg (S.2.2 5))).toInt) (h22 : (S_j39.2.2 19).toInt = (S.2.2 19).toInt) (h23 : (S_j39.2.2 20).toInt = (S.2.2 20).toInt) (h24 : (S_j39.2.2 21).toInt = (S.2.2 21).toInt) (h25 : (S_j39.2.2 22).toInt = (S.2.2 22).toInt) (h26 : (S_j39.2.2 23).toInt = (S.2.2 23).toInt) (h27 : 0 ≤ (S_j39.2.2 20).toInt) (h28 : (S.2.2 19).toInt < (S.2.2 2).toInt) (h29 : (S_j39.2.2 25).toInt = (S.2.2 25).toInt) (h30 : gm_iC (S_j39.2.2 20) (S_j39.2.2 21) (S_j39.2.2 22) (S.1 26) (S.1 28) (S.1 29)) (h31 : gm_iS 1 (S.2.2 2) (S.2.2 5) (S.1 6) (S.1 7) (S_j39.1 8) (S_j39.1 9) (S_j39.1 10) (S_j39.1 11) (S_j39.1 12) (S_j39.1 13) (S_j39.2.2 21) (S_j39.2.2 22) (S_j39.1 30) (S_j39.1 31)) : gm_p_MD_readSign_j39 x S S_j39 ∧ gy_q_MD_readSign x S (gm_f_MD_readSign_j39 x S S_j39) := by
  unfold gm_p_MD_readSign_j39 gm_f_MD_readSign_j39
  refine gx_if (Q := gy_q_MD_readSign x S) (fun h32 => ?_) (fun h32 => ?_)
  · skip
    have h32_ := gx_eqr (k := 38) (gx_lit 38 (by decide)) h32
    exact ⟨trivial, ⟨h30, h31, (show (((S_j39.2.2 25).toInt ≠ 0) ∨ (((160 * (S.2.2 5).toInt) ≤ (S_j39.1 8 (Int32.toNatClampNeg ((8 * (S.2.2 5)) + (S.1 6 (Int32.toNatClampNeg (S.2.2 5)))))).toInt) ∧ ((S_j39.1 8 (Int32.toNatClampNeg ((8 * (S.2.2 5)) + (S.1 6 (Int32.toNatClampNeg (S.2.2 5)))))).toInt < ((160 * (S.2.2 5).toInt) + (S_j39.1 9 (Int32.toNatClampNeg (S.2.2 5))).toInt)))) ∧ ((0 ≤ (S_j39.1 9 (Int32.toNatClampNeg (S.2.2 5))).toInt) ∧ ((0 ≤ ((S_j39.2.2 19) + 1).toInt) ∧ ((((S_j39.2.2 19) + 1).toInt ≤ (S.2.2 2).toInt) ∧ ((0 ≤ (S_j39.2.2 20).toInt) ∧ (((S_j39.2.2 20).toInt ≤ 6) ∧ ((0 ≤ (S_j39.2.2 21).toInt) ∧ ((0 ≤ (S_j39.2.2 22).toInt) ∧ ((((((S_j39.1 9 (Int32.toNatClampNeg (S.2.2 5))).toInt + (S_j39.2.2 21).toInt) + (S_j39.2.2 22).toInt) + (2 * (S_j39.2.2 20).toInt)) ≤ (2 * ((S_j39.2.2 19) + 1).toInt)) ∧ (((x.toInt = 0) ∨ ((((((S_j39.1 9 (Int32.toNatClampNeg (S.2.2 5))).toInt + (S_j39.2.2 21).toInt) + (S_j39.2.2 22).toInt) + (2 * (S_j39.2.2 20).toInt)) + 1) ≤ (2 * ((S_j39.2.2 19) + 1).toInt))) ∧ (((((S_j39.2.2 21).toInt + (S_j39.2.2 22).toInt) + (S_j39.2.2 20).toInt) ≤ ((S_j39.2.2 19) + 1).toInt) ∧ (((S.2.2 19).toInt ≤ ((S_j39.2.2 19) + 1).toInt) ∧ (((S.2.2 19).toInt < ((S_j39.2.2 19) + 1).toInt) ∨ ((S_j39.2.2 24).toInt ≠ 0))))))))))))) from (by have := gx_iC_f h3 (by omega); have := gx_iC_f h30 (by omega); have := gx_ad (8 * (S.2.2 5)) (S.1 6 (Int32.toNatClampNeg (S.2.2 5))); have := gx_ak (S_j39.2.2 19) 1 (1) (by decide); have := gx_mk 8 (S.2.2 5) 8 (gx_lit 8 (by decide)); omega))⟩⟩
  · skip
    have h32_ := gx_eqnr (k := 38) (gx_lit 38 (by decide)) h32
    refine gx_if (Q := gy_q_MD_readSign x S) (fun h33 => ?_) (fun h33 => ?_)
    · skip
      have h33_ := gx_eqr (k := 33) (gx_lit 33 (by decide)) h33
      exact ⟨trivial, ⟨h30, h31, (show (((S_j39.2.2 25).toInt ≠ 0) ∨ (((160 * (S.2.2 5).toInt) ≤ (S_j39.1 8 (Int32.toNatClampNeg ((8 * (S.2.2 5)) + (S.1 6 (Int32.toNatClampNeg (S.2.2 5)))))).toInt) ∧ ((S_j39.1 8 (Int32.toNatClampNeg ((8 * (S.2.2 5)) + (S.1 6 (Int32.toNatClampNeg (S.2.2 5)))))).toInt < ((160 * (S.2.2 5).toInt) + (S_j39.1 9 (Int32.toNatClampNeg (S.2.2 5))).toInt)))) ∧ ((0 ≤ (S_j39.1 9 (Int32.toNatClampNeg (S.2.2 5))).toInt) ∧ ((0 ≤ ((S_j39.2.2 19) + 1).toInt) ∧ ((((S_j39.2.2 19) + 1).toInt ≤ (S.2.2 2).toInt) ∧ ((0 ≤ (S_j39.2.2 20).toInt) ∧ (((S_j39.2.2 20).toInt ≤ 6) ∧ ((0 ≤ (S_j39.2.2 21).toInt) ∧ ((0 ≤ (S_j39.2.2 22).toInt) ∧ ((((((S_j39.1 9 (Int32.toNatClampNeg (S.2.2 5))).toInt + (S_j39.2.2 21).toInt) + (S_j39.2.2 22).toInt) + (2 * (S_j39.2.2 20).toInt)) ≤ (2 * ((S_j39.2.2 19) + 1).toInt)) ∧ (((x.toInt = 0) ∨ ((((((S_j39.1 9 (Int32.toNatClampNeg (S.2.2 5))).toInt + (S_j39.2.2 21).toInt) + (S_j39.2.2 22).toInt) + (2 * (S_j39.2.2 20).toInt)) + 1) ≤ (2 * ((S_j39.2.2 19) + 1).toInt))) ∧ (((((S_j39.2.2 21).toInt + (S_j39.2.2 22).toInt) + (S_j39.2.2 20).toInt) ≤ ((S_j39.2.2 19) + 1).toInt) ∧ (((S.2.2 19).toInt ≤ ((S_j39.2.2 19) + 1).toInt) ∧ (((S.2.2 19).toInt < ((S_j39.2.2 19) + 1).toInt) ∨ ((S_j39.2.2 24).toInt ≠ 0))))))))))))) from (by have := gx_iC_f h3 (by omega); have := gx_iC_f h30 (by omega); have := gx_ad (8 * (S.2.2 5)) (S.1 6 (Int32.toNatClampNeg (S.2.2 5))); have := gx_ak (S_j39.2.2 19) 1 (1) (by decide); have := gx_mk 8 (S.2.2 5) 8 (gx_lit 8 (by decide)); omega))⟩⟩
    · skip
      have h33_ := gx_eqnr (k := 33) (gx_lit 33 (by decide)) h33
      refine gx_if (Q := gy_q_MD_readSign x S) (fun h34 => ?_) (fun h34 => ?_)
      · skip
        have h34_ := gx_eqr (k := 47) (gx_lit 47 (by decide)) h34
        refine gx_ca (Q := gy_q_MD_readSign x S) (gy_q_MD_endSequence _) (gy_s_MD_endSequence _ h1 h2 h31 (show 0 ≤ (S_j39.1 9 (Int32.toNatClampNeg (S.2.2 5))).toInt from (by have := gx_iC_f h3 (by omega); have := gx_iC_f h30 (by omega); omega)) (show ((S_j39.1 9 (Int32.toNatClampNeg (S.2.2 5))).toInt + (S_j39.2.2 21).toInt) ≤ 120 from (by have := gx_iC_f h3 (by omega); have := gx_iC_f h30 (by omega); omega)) h27 (show (S_j39.2.2 20).toInt ≤ 6 from (by have := gx_iC_f h3 (by omega); have := gx_iC_f h30 (by omega); omega)) (show 0 ≤ (S.1 28 (Int32.toNatClampNeg (S_j39.2.2 20))).toInt from (by have := gx_iC_f h3 (by omega); have := gx_iC_f h30 (by omega); omega)) (show (S.1 28 (Int32.toNatClampNeg (S_j39.2.2 20))).toInt ≤ (S_j39.2.2 21).toInt from (by have := gx_iC_f h3 (by omega); have := gx_iC_f h30 (by omega); omega)) (show (S_j39.2.2 21).toInt ≤ 55 from (by have := gx_iC_f h3 (by omega); have := gx_iC_f h30 (by omega); omega)) (show 0 ≤ (S_j39.2.2 22).toInt from (by have := gx_iC_f h3 (by omega); have := gx_iC_f h30 (by omega); omega)) (show (S_j39.2.2 22).toInt ≤ 55 from (by have := gx_iC_f h3 (by omega); have := gx_iC_f h30 (by omega); omega)) h18) ?_
        intro r_h35 u76 h35
        have h35_0 : gm_iS 1 (S.2.2 2) (S.2.2 5) (S.1 6) (S.1 7) (S_j39.1 8) (u76.1 9) (u76.1 10) (u76.1 11) (u76.1 12) (u76.1 13) (u76.2.2 21) (u76.2.2 22) (S_j39.1 30) (u76.1 31) := h35.1
        have h35_1 : ((u76.2.2 21).toInt = (S.1 28 (Int32.toNatClampNeg (S_j39.2.2 20))).toInt) ∧ (((u76.2.2 22).toInt = ((S_j39.2.2 22).toInt + 1)) ∧ (((S_j39.1 9 (Int32.toNatClampNeg (S.2.2 5))).toInt ≤ (u76.1 9 (Int32.toNatClampNeg (S.2.2 5))).toInt) ∧ ((((S_j39.2.2 21).toInt = (S.1 28 (Int32.toNatClampNeg (S_j39.2.2 20))).toInt) ∧ ((u76.1 9 (Int32.toNatClampNeg (S.2.2 5))).toInt = ((S_j39.1 9 (Int32.toNatClampNeg (S.2.2 5))).toInt + 1))) ∨ (((S.1 28 (Int32.toNatClampNeg (S_j39.2.2 20))).toInt < (S_j39.2.2 21).toInt) ∧ ((u76.1 9 (Int32.toNatClampNeg (S.2.2 5))).toInt = ((((S_j39.1 9 (Int32.toNatClampNeg (S.2.2 5))).toInt + (S_j39.2.2 21).toInt) - (S.1 28 (Int32.toNatClampNeg (S_j39.2.2 20))).toInt) - 1)))))) := h35.2
        clear h35
        exact ⟨trivial, ⟨(gx_iC_s h30 (show (S.1 28 (Int32.toNatClampNeg (S_j39.2.2 20))).toInt ≤ (u76.2.2 21).toInt from (by have := gx_iC_f h3 (by omega); have := gx_iC_f h30 (by omega); omega)) (show (S.1 29 (Int32.toNatClampNeg (S_j39.2.2 20))).toInt ≤ (u76.2.2 22).toInt from (by have := gx_iC_f h3 (by omega); have := gx_iC_f h30 (by omega); omega))), h35_0, (show (((S_j39.2.2 25).toInt ≠ 0) ∨ (((160 * (S.2.2 5).toInt) ≤ (S_j39.1 8 (Int32.toNatClampNeg ((8 * (S.2.2 5)) + (S.1 6 (Int32.toNatClampNeg (S.2.2 5)))))).toInt) ∧ ((S_j39.1 8 (Int32.toNatClampNeg ((8 * (S.2.2 5)) + (S.1 6 (Int32.toNatClampNeg (S.2.2 5)))))).toInt < ((160 * (S.2.2 5).toInt) + (u76.1 9 (Int32.toNatClampNeg (S.2.2 5))).toInt)))) ∧ ((0 ≤ (u76.1 9 (Int32.toNatClampNeg (S.2.2 5))).toInt) ∧ ((0 ≤ ((S_j39.2.2 19) + 1).toInt) ∧ ((((S_j39.2.2 19) + 1).toInt ≤ (S.2.2 2).toInt) ∧ ((0 ≤ (S_j39.2.2 20).toInt) ∧ (((S_j39.2.2 20).toInt ≤ 6) ∧ ((0 ≤ (u76.2.2 21).toInt) ∧ ((0 ≤ (u76.2.2 22).toInt) ∧ ((((((u76.1 9 (Int32.toNatClampNeg (S.2.2 5))).toInt + (u76.2.2 21).toInt) + (u76.2.2 22).toInt) + (2 * (S_j39.2.2 20).toInt)) ≤ (2 * ((S_j39.2.2 19) + 1).toInt)) ∧ ((((S_j39.2.2 23).toInt = 0) ∨ ((((((u76.1 9 (Int32.toNatClampNeg (S.2.2 5))).toInt + (u76.2.2 21).toInt) + (u76.2.2 22).toInt) + (2 * (S_j39.2.2 20).toInt)) + 1) ≤ (2 * ((S_j39.2.2 19) + 1).toInt))) ∧ (((((u76.2.2 21).toInt + (u76.2.2 22).toInt) + (S_j39.2.2 20).toInt) ≤ ((S_j39.2.2 19) + 1).toInt) ∧ (((S.2.2 19).toInt ≤ ((S_j39.2.2 19) + 1).toInt) ∧ (((S.2.2 19).toInt < ((S_j39.2.2 19) + 1).toInt) ∨ ((S_j39.2.2 24).toInt ≠ 0))))))))))))) from (by have := gx_iC_f h3 (by omega); have := gx_iC_f h30 (by omega); have := gx_ad (8 * (S.2.2 5)) (S.1 6 (Int32.toNatClampNeg (S.2.2 5))); have := gx_ak (S_j39.2.2 19) 1 (1) (by decide); have := gx_mk 8 (S.2.2 5) 8 (gx_lit 8 (by decide)); omega))⟩⟩
      · skip
        have h34_ := gx_eqnr (k := 47) (gx_lit 47 (by decide)) h34
        refine gx_ca (Q := gy_q_MD_readSign x S) (gy_q_MD_close _) (gy_s_MD_close _ h1 h2 h30 h31 (show 0 ≤ (S_j39.1 9 (Int32.toNatClampNeg (S.2.2 5))).toInt from (by have := gx_iC_f h3 (by omega); have := gx_iC_f h30 (by omega); omega)) (show (((S_j39.1 9 (Int32.toNatClampNeg (S.2.2 5))).toInt + (S_j39.2.2 21).toInt) + (S_j39.2.2 22).toInt) ≤ 110 from (by have := gx_iC_f h3 (by omega); have := gx_iC_f h30 (by omega); omega)) (show 0 ≤ ((S_j39.2.2 19) + 1).toInt from (by have := gx_iC_f h3 (by omega); have := gx_iC_f h30 (by omega); have := gx_ak (S_j39.2.2 19) 1 (1) (by decide); omega)) (show ((S_j39.2.2 19) + 1).toInt ≤ (S.2.2 2).toInt from (by have := gx_iC_f h3 (by omega); have := gx_iC_f h30 (by omega); have := gx_ak (S_j39.2.2 19) 1 (1) (by decide); omega)) h27 (show (S_j39.2.2 20).toInt ≤ 6 from (by have := gx_iC_f h3 (by omega); have := gx_iC_f h30 (by omega); omega)) (show (S_j39.2.2 21).toInt ≤ 50 from (by have := gx_iC_f h3 (by omega); have := gx_iC_f h30 (by omega); omega)) (show (S_j39.2.2 22).toInt ≤ 50 from (by have := gx_iC_f h3 (by omega); have := gx_iC_f h30 (by omega); omega)) (show (S_j39.2.2 23).toInt = 0 from (by have := gx_iC_f h3 (by omega); have := gx_iC_f h30 (by omega); omega)) h18 h19 (show (S_j39.2.2 25).toInt ≠ 0 from (by have := gx_iC_f h3 (by omega); have := gx_iC_f h30 (by omega); omega))) ?_
        intro r_h35 u83 h35
        have h35_0 : gm_iC (u83.2.2 20) (u83.2.2 21) (u83.2.2 22) (S.1 26) (S.1 28) (S.1 29) := h35.1
        have h35_1 : gm_iS 1 (S.2.2 2) (S.2.2 5) (S.1 6) (S.1 7) (u83.1 8) (u83.1 9) (u83.1 10) (u83.1 11) (u83.1 12) (u83.1 13) (u83.2.2 21) (u83.2.2 22) (u83.1 30) (u83.1 31) := h35.2.1
        have h35_2 : (((u83.2.2 25).toInt ≠ 0) ∨ (((160 * (S.2.2 5).toInt) ≤ (u83.1 8 (Int32.toNatClampNeg ((8 * (S.2.2 5)) + (S.1 6 (Int32.toNatClampNeg (S.2.2 5)))))).toInt) ∧ ((u83.1 8 (Int32.toNatClampNeg ((8 * (S.2.2 5)) + (S.1 6 (Int32.toNatClampNeg (S.2.2 5)))))).toInt < ((160 * (S.2.2 5).toInt) + (u83.1 9 (Int32.toNatClampNeg (S.2.2 5))).toInt)))) ∧ ((0 ≤ (u83.1 9 (Int32.toNatClampNeg (S.2.2 5))).toInt) ∧ ((((S_j39.2.2 19) + 1).toInt ≤ (u83.2.2 19).toInt) ∧ (((u83.2.2 19).toInt ≤ (S.2.2 2).toInt) ∧ ((0 ≤ (u83.2.2 20).toInt) ∧ (((u83.2.2 20).toInt ≤ 6) ∧ ((0 ≤ (u83.2.2 21).toInt) ∧ ((0 ≤ (u83.2.2 22).toInt) ∧ (((u83.2.2 23).toInt = 0) ∧ ((((((u83.1 9 (Int32.toNatClampNeg (S.2.2 5))).toInt + (u83.2.2 21).toInt) + (u83.2.2 22).toInt) + (2 * (u83.2.2 20).toInt)) ≤ ((((((S_j39.1 9 (Int32.toNatClampNeg (S.2.2 5))).toInt + (S_j39.2.2 21).toInt) + (S_j39.2.2 22).toInt) + (2 * (S_j39.2.2 20).toInt)) + 2) + (2 * ((u83.2.2 19).toInt - ((S_j39.2.2 19) + 1).toInt)))) ∧ ((((u83.2.2 21).toInt + (u83.2.2 22).toInt) + (u83.2.2 20).toInt) ≤ (((S_j39.2.2 21).toInt + (S_j39.2.2 22).toInt) + (S_j39.2.2 20).toInt))))))))))) := h35.2.2
        clear h35
        exact ⟨trivial, ⟨h35_0, h35_1, (show (((u83.2.2 25).toInt ≠ 0) ∨ (((160 * (S.2.2 5).toInt) ≤ (u83.1 8 (Int32.toNatClampNeg ((8 * (S.2.2 5)) + (S.1 6 (Int32.toNatClampNeg (S.2.2 5)))))).toInt) ∧ ((u83.1 8 (Int32.toNatClampNeg ((8 * (S.2.2 5)) + (S.1 6 (Int32.toNatClampNeg (S.2.2 5)))))).toInt < ((160 * (S.2.2 5).toInt) + (u83.1 9 (Int32.toNatClampNeg (S.2.2 5))).toInt)))) ∧ ((0 ≤ (u83.1 9 (Int32.toNatClampNeg (S.2.2 5))).toInt) ∧ ((0 ≤ (u83.2.2 19).toInt) ∧ (((u83.2.2 19).toInt ≤ (S.2.2 2).toInt) ∧ ((0 ≤ (u83.2.2 20).toInt) ∧ (((u83.2.2 20).toInt ≤ 6) ∧ ((0 ≤ (u83.2.2 21).toInt) ∧ ((0 ≤ (u83.2.2 22).toInt) ∧ ((((((u83.1 9 (Int32.toNatClampNeg (S.2.2 5))).toInt + (u83.2.2 21).toInt) + (u83.2.2 22).toInt) + (2 * (u83.2.2 20).toInt)) ≤ (2 * (u83.2.2 19).toInt)) ∧ ((((u83.2.2 23).toInt = 0) ∨ ((((((u83.1 9 (Int32.toNatClampNeg (S.2.2 5))).toInt + (u83.2.2 21).toInt) + (u83.2.2 22).toInt) + (2 * (u83.2.2 20).toInt)) + 1) ≤ (2 * (u83.2.2 19).toInt))) ∧ (((((u83.2.2 21).toInt + (u83.2.2 22).toInt) + (u83.2.2 20).toInt) ≤ (u83.2.2 19).toInt) ∧ (((S.2.2 19).toInt ≤ (u83.2.2 19).toInt) ∧ (((S.2.2 19).toInt < (u83.2.2 19).toInt) ∨ ((S_j39.2.2 24).toInt ≠ 0))))))))))))) from (by have := gx_iC_f h3 (by omega); have := gx_iC_f h30 (by omega); have := gx_iC_f h35_0 (by omega); have := gx_ad (8 * (S.2.2 5)) (S.1 6 (Int32.toNatClampNeg (S.2.2 5))); have := gx_ak (S_j39.2.2 19) 1 (1) (by decide); have := gx_mk 8 (S.2.2 5) 8 (gx_lit 8 (by decide)); omega))⟩⟩
set_option maxRecDepth 100000 in
theorem gy_s_MD_readSign (x : Int32) (S : gm_S) (h1 : gm_iW 50 (S.2.2 2) (S.1 3)) (h2 : gm_iN 1 (S.2.2 5)) (h3 : gm_iC (S.2.2 20) (S.2.2 21) (S.2.2 22) (S.1 26) (S.1 28) (S.1 29)) (h4 : gm_iS 1 (S.2.2 2) (S.2.2 5) (S.1 6) (S.1 7) (S.1 8) (S.1 9) (S.1 10) (S.1 11) (S.1 12) (S.1 13) (S.2.2 21) (S.2.2 22) (S.1 30) (S.1 31)) (h5 : 0 ≤ (S.1 9 (Int32.toNatClampNeg (S.2.2 5))).toInt) (h6 : 0 ≤ (S.2.2 19).toInt) (h7 : (S.2.2 19).toInt ≤ (S.2.2 2).toInt) (h8 : 0 ≤ (S.2.2 20).toInt) (h9 : (S.2.2 20).toInt ≤ 6) (h10 : 0 ≤ (S.2.2 21).toInt) (h11 : 0 ≤ (S.2.2 22).toInt) (h12 : ((((S.1 9 (Int32.toNatClampNeg (S.2.2 5))).toInt + (S.2.2 21).toInt) + (S.2.2 22).toInt) + (2 * (S.2.2 20).toInt)) ≤ (2 * (S.2.2 19).toInt)) (h13 : ((S.2.2 23).toInt = 0) ∨ ((((((S.1 9 (Int32.toNatClampNeg (S.2.2 5))).toInt + (S.2.2 21).toInt) + (S.2.2 22).toInt) + (2 * (S.2.2 20).toInt)) + 1) ≤ (2 * (S.2.2 19).toInt))) (h14 : (((S.2.2 21).toInt + (S.2.2 22).toInt) + (S.2.2 20).toInt) ≤ (S.2.2 19).toInt) (h15 : (S.2.2 23).toInt = 0) (h16 : 0 ≤ x.toInt) (h17 : (x.toInt = 0) ∨ ((S.2.2 19).toInt < (S.2.2 2).toInt)) (h18 : 0 ≤ (S.1 6 (Int32.toNatClampNeg (S.2.2 5))).toInt) (h19 : (S.1 6 (Int32.toNatClampNeg (S.2.2 5))).toInt ≤ 7) (h20 : (S.2.2 25).toInt ≠ 0) : gm_p_MD_readSign x S ∧ gy_q_MD_readSign x S (gm_f_MD_readSign x S) := by
  unfold gm_p_MD_readSign gm_f_MD_readSign
  refine gx_if (Q := gy_q_MD_readSign x S) (fun h21 => ?_) (fun h21 => ?_)
  · skip
    have h21_ := gx_eqr (k := 38) (gx_lit 38 (by decide)) h21
    refine gy_s_MD_readSign_j39 _ _ _ ?_ ?_ ?_ ?_ ?_ ?_ ?_ ?_ ?_ ?_ ?_ ?_ ?_ ?_ ?_ ?_ ?_ ?_ ?_ ?_ ?_ ?_ ?_ ?_ ?_ ?_ ?_ ?_ ?_ ?_ ?_
    · exact h1
    · exact h2
    · exact h3
    · exact h4
    · exact (show 0 ≤ (S.1 9 (Int32.toNatClampNeg (S.2.2 5))).toInt from (by have := gx_iC_f h3 (by omega); omega))
    · exact (show 0 ≤ (S.2.2 19).toInt from (by have := gx_iC_f h3 (by omega); omega))
    · exact (show (S.2.2 19).toInt ≤ (S.2.2 2).toInt from (by have := gx_iC_f h3 (by omega); omega))
    · exact (show 0 ≤ (S.2.2 20).toInt from (by have := gx_iC_f h3 (by omega); omega))
    · exact (show (S.2.2 20).toInt ≤ 6 from (by have := gx_iC_f h3 (by omega); omega))
    · exact (show 0 ≤ (S.2.2 21).toInt from (by have := gx_iC_f h3 (by omega); omega))
    · exact (show 0 ≤ (S.2.2 22).toInt from (by have := gx_iC_f h3 (by omega); omega))
    · exact (show ((((S.1 9 (Int32.toNatClampNeg (S.2.2 5))).toInt + (S.2.2 21).toInt) + (S.2.2 22).toInt) + (2 * (S.2.2 20).toInt)) ≤ (2 * (S.2.2 19).toInt) from (by have := gx_iC_f h3 (by omega); omega))
    · exact (show ((S.2.2 23).toInt = 0) ∨ ((((((S.1 9 (Int32.toNatClampNeg (S.2.2 5))).toInt + (S.2.2 21).toInt) + (S.2.2 22).toInt) + (2 * (S.2.2 20).toInt)) + 1) ≤ (2 * (S.2.2 19).toInt)) from (by have := gx_iC_f h3 (by omega); omega))
    · exact (show (((S.2.2 21).toInt + (S.2.2 22).toInt) + (S.2.2 20).toInt) ≤ (S.2.2 19).toInt from (by have := gx_iC_f h3 (by omega); omega))
    · exact (show (S.2.2 23).toInt = 0 from (by have := gx_iC_f h3 (by omega); omega))
    · exact (show 0 ≤ x.toInt from (by have := gx_iC_f h3 (by omega); omega))
    · exact (show (x.toInt = 0) ∨ ((S.2.2 19).toInt < (S.2.2 2).toInt) from (by have := gx_iC_f h3 (by omega); omega))
    · exact (show 0 ≤ (S.1 6 (Int32.toNatClampNeg (S.2.2 5))).toInt from (by have := gx_iC_f h3 (by omega); omega))
    · exact (show (S.1 6 (Int32.toNatClampNeg (S.2.2 5))).toInt ≤ 7 from (by have := gx_iC_f h3 (by omega); omega))
    · exact (show (S.2.2 25).toInt ≠ 0 from (by have := gx_iC_f h3 (by omega); omega))
    · exact (show (S.1 9 (Int32.toNatClampNeg (S.2.2 5))).toInt = (S.1 9 (Int32.toNatClampNeg (S.2.2 5))).toInt from (by have := gx_iC_f h3 (by omega); omega))
    · exact (show (S.2.2 19).toInt = (S.2.2 19).toInt from (by have := gx_iC_f h3 (by omega); omega))
    · exact (show (S.2.2 20).toInt = (S.2.2 20).toInt from (by have := gx_iC_f h3 (by omega); omega))
    · exact (show (S.2.2 21).toInt = (S.2.2 21).toInt from (by have := gx_iC_f h3 (by omega); omega))
    · exact (show (S.2.2 22).toInt = (S.2.2 22).toInt from (by have := gx_iC_f h3 (by omega); omega))
    · exact (show (S.2.2 23).toInt = (S.2.2 23).toInt from (by have := gx_iC_f h3 (by omega); omega))
    · exact (show 0 ≤ (S.2.2 20).toInt from (by have := gx_iC_f h3 (by omega); omega))
    · exact (show (S.2.2 19).toInt < (S.2.2 2).toInt from (by have := gx_iC_f h3 (by omega); omega))
    · exact (show (S.2.2 25).toInt = (S.2.2 25).toInt from (by have := gx_iC_f h3 (by omega); omega))
    · exact h3
    · exact h4
  · skip
    have h21_ := gx_eqnr (k := 38) (gx_lit 38 (by decide)) h21
    refine gx_if (Q := gy_q_MD_readSign x S) (fun h22 => ?_) (fun h22 => ?_)
    · skip
      have h22_ := gx_eqr (k := 33) (gx_lit 33 (by decide)) h22
      refine gy_s_MD_readSign_j39 _ _ _ ?_ ?_ ?_ ?_ ?_ ?_ ?_ ?_ ?_ ?_ ?_ ?_ ?_ ?_ ?_ ?_ ?_ ?_ ?_ ?_ ?_ ?_ ?_ ?_ ?_ ?_ ?_ ?_ ?_ ?_ ?_
      · exact h1
      · exact h2
      · exact h3
      · exact h4
      · exact (show 0 ≤ (S.1 9 (Int32.toNatClampNeg (S.2.2 5))).toInt from (by have := gx_iC_f h3 (by omega); omega))
      · exact (show 0 ≤ (S.2.2 19).toInt from (by have := gx_iC_f h3 (by omega); omega))
      · exact (show (S.2.2 19).toInt ≤ (S.2.2 2).toInt from (by have := gx_iC_f h3 (by omega); omega))
      · exact (show 0 ≤ (S.2.2 20).toInt from (by have := gx_iC_f h3 (by omega); omega))
      · exact (show (S.2.2 20).toInt ≤ 6 from (by have := gx_iC_f h3 (by omega); omega))
      · exact (show 0 ≤ (S.2.2 21).toInt from (by have := gx_iC_f h3 (by omega); omega))
      · exact (show 0 ≤ (S.2.2 22).toInt from (by have := gx_iC_f h3 (by omega); omega))
      · exact (show ((((S.1 9 (Int32.toNatClampNeg (S.2.2 5))).toInt + (S.2.2 21).toInt) + (S.2.2 22).toInt) + (2 * (S.2.2 20).toInt)) ≤ (2 * (S.2.2 19).toInt) from (by have := gx_iC_f h3 (by omega); omega))
      · exact (show ((S.2.2 23).toInt = 0) ∨ ((((((S.1 9 (Int32.toNatClampNeg (S.2.2 5))).toInt + (S.2.2 21).toInt) + (S.2.2 22).toInt) + (2 * (S.2.2 20).toInt)) + 1) ≤ (2 * (S.2.2 19).toInt)) from (by have := gx_iC_f h3 (by omega); omega))
      · exact (show (((S.2.2 21).toInt + (S.2.2 22).toInt) + (S.2.2 20).toInt) ≤ (S.2.2 19).toInt from (by have := gx_iC_f h3 (by omega); omega))
      · exact (show (S.2.2 23).toInt = 0 from (by have := gx_iC_f h3 (by omega); omega))
      · exact (show 0 ≤ x.toInt from (by have := gx_iC_f h3 (by omega); omega))
      · exact (show (x.toInt = 0) ∨ ((S.2.2 19).toInt < (S.2.2 2).toInt) from (by have := gx_iC_f h3 (by omega); omega))
      · exact (show 0 ≤ (S.1 6 (Int32.toNatClampNeg (S.2.2 5))).toInt from (by have := gx_iC_f h3 (by omega); omega))
      · exact (show (S.1 6 (Int32.toNatClampNeg (S.2.2 5))).toInt ≤ 7 from (by have := gx_iC_f h3 (by omega); omega))
      · exact (show (S.2.2 25).toInt ≠ 0 from (by have := gx_iC_f h3 (by omega); omega))
      · exact (show (S.1 9 (Int32.toNatClampNeg (S.2.2 5))).toInt = (S.1 9 (Int32.toNatClampNeg (S.2.2 5))).toInt from (by have := gx_iC_f h3 (by omega); omega))
      · exact (show (S.2.2 19).toInt = (S.2.2 19).toInt from (by have := gx_iC_f h3 (by omega); omega))
      · exact (show (S.2.2 20).toInt = (S.2.2 20).toInt from (by have := gx_iC_f h3 (by omega); omega))
      · exact (show (S.2.2 21).toInt = (S.2.2 21).toInt from (by have := gx_iC_f h3 (by omega); omega))
      · exact (show (S.2.2 22).toInt = (S.2.2 22).toInt from (by have := gx_iC_f h3 (by omega); omega))
      · exact (show (S.2.2 23).toInt = (S.2.2 23).toInt from (by have := gx_iC_f h3 (by omega); omega))
      · exact (show 0 ≤ (S.2.2 20).toInt from (by have := gx_iC_f h3 (by omega); omega))
      · exact (show (S.2.2 19).toInt < (S.2.2 2).toInt from (by have := gx_iC_f h3 (by omega); omega))
      · exact (show (S.2.2 25).toInt = (S.2.2 25).toInt from (by have := gx_iC_f h3 (by omega); omega))
      · exact h3
      · exact h4
    · skip
      have h22_ := gx_eqnr (k := 33) (gx_lit 33 (by decide)) h22
      refine gx_if (Q := gy_q_MD_readSign x S) (fun h23 => ?_) (fun h23 => ?_)
      · skip
        have h23_ := gx_eqr (k := 47) (gx_lit 47 (by decide)) h23
        refine gy_s_MD_readSign_j39 _ _ _ ?_ ?_ ?_ ?_ ?_ ?_ ?_ ?_ ?_ ?_ ?_ ?_ ?_ ?_ ?_ ?_ ?_ ?_ ?_ ?_ ?_ ?_ ?_ ?_ ?_ ?_ ?_ ?_ ?_ ?_ ?_
        · exact h1
        · exact h2
        · exact h3
        · exact h4
        · exact (show 0 ≤ (S.1 9 (Int32.toNatClampNeg (S.2.2 5))).toInt from (by have := gx_iC_f h3 (by omega); omega))
        · exact (show 0 ≤ (S.2.2 19).toInt from (by have := gx_iC_f h3 (by omega); omega))
        · exact (show (S.2.2 19).toInt ≤ (S.2.2 2).toInt from (by have := gx_iC_f h3 (by omega); omega))
        · exact (show 0 ≤ (S.2.2 20).toInt from (by have := gx_iC_f h3 (by omega); omega))
        · exact (show (S.2.2 20).toInt ≤ 6 from (by have := gx_iC_f h3 (by omega); omega))
        · exact (show 0 ≤ (S.2.2 21).toInt from (by have := gx_iC_f h3 (by omega); omega))
        · exact (show 0 ≤ (S.2.2 22).toInt from (by have := gx_iC_f h3 (by omega); omega))
        · exact (show ((((S.1 9 (Int32.toNatClampNeg (S.2.2 5))).toInt + (S.2.2 21).toInt) + (S.2.2 22).toInt) + (2 * (S.2.2 20).toInt)) ≤ (2 * (S.2.2 19).toInt) from (by have := gx_iC_f h3 (by omega); omega))
        · exact (show ((S.2.2 23).toInt = 0) ∨ ((((((S.1 9 (Int32.toNatClampNeg (S.2.2 5))).toInt + (S.2.2 21).toInt) + (S.2.2 22).toInt) + (2 * (S.2.2 20).toInt)) + 1) ≤ (2 * (S.2.2 19).toInt)) from (by have := gx_iC_f h3 (by omega); omega))
        · exact (show (((S.2.2 21).toInt + (S.2.2 22).toInt) + (S.2.2 20).toInt) ≤ (S.2.2 19).toInt from (by have := gx_iC_f h3 (by omega); omega))
        · exact (show (S.2.2 23).toInt = 0 from (by have := gx_iC_f h3 (by omega); omega))
        · exact (show 0 ≤ x.toInt from (by have := gx_iC_f h3 (by omega); omega))
        · exact (show (x.toInt = 0) ∨ ((S.2.2 19).toInt < (S.2.2 2).toInt) from (by have := gx_iC_f h3 (by omega); omega))
        · exact (show 0 ≤ (S.1 6 (Int32.toNatClampNeg (S.2.2 5))).toInt from (by have := gx_iC_f h3 (by omega); omega))
        · exact (show (S.1 6 (Int32.toNatClampNeg (S.2.2 5))).toInt ≤ 7 from (by have := gx_iC_f h3 (by omega); omega))
        · exact (show (S.2.2 25).toInt ≠ 0 from (by have := gx_iC_f h3 (by omega); omega))
        · exact (show (S.1 9 (Int32.toNatClampNeg (S.2.2 5))).toInt = (S.1 9 (Int32.toNatClampNeg (S.2.2 5))).toInt from (by have := gx_iC_f h3 (by omega); omega))
        · exact (show (S.2.2 19).toInt = (S.2.2 19).toInt from (by have := gx_iC_f h3 (by omega); omega))
        · exact (show (S.2.2 20).toInt = (S.2.2 20).toInt from (by have := gx_iC_f h3 (by omega); omega))
        · exact (show (S.2.2 21).toInt = (S.2.2 21).toInt from (by have := gx_iC_f h3 (by omega); omega))
        · exact (show (S.2.2 22).toInt = (S.2.2 22).toInt from (by have := gx_iC_f h3 (by omega); omega))
        · exact (show (S.2.2 23).toInt = (S.2.2 23).toInt from (by have := gx_iC_f h3 (by omega); omega))
        · exact (show 0 ≤ (S.2.2 20).toInt from (by have := gx_iC_f h3 (by omega); omega))
        · exact (show (S.2.2 19).toInt < (S.2.2 2).toInt from (by have := gx_iC_f h3 (by omega); omega))
        · exact (show (S.2.2 25).toInt = (S.2.2 25).toInt from (by have := gx_iC_f h3 (by omega); omega))
        · exact h3
        · exact h4
      · skip
        have h23_ := gx_eqnr (k := 47) (gx_lit 47 (by decide)) h23
        refine gx_in (Q := gy_q_MD_readSign x S) (vp_in_iff.mpr (by have := gx_iC_f h3 (by omega); omega)) ?_
        refine gx_ca (Q := gy_q_MD_readSign x S) (gx_q_MD_closing _) (gx_s_MD_closing _ ) ?_
        intro r28 u_h24 h24
        have h24_0 : (41 ≤ r28.toInt) ∧ (r28.toInt ≤ 126) := h24
        clear h24
        refine gx_if (Q := gy_q_MD_readSign x S) (fun h25 => ?_) (fun h25 => ?_)
        · skip
          have h25_ := gx_eq h25
          refine gy_s_MD_readSign_j39 _ _ _ ?_ ?_ ?_ ?_ ?_ ?_ ?_ ?_ ?_ ?_ ?_ ?_ ?_ ?_ ?_ ?_ ?_ ?_ ?_ ?_ ?_ ?_ ?_ ?_ ?_ ?_ ?_ ?_ ?_ ?_ ?_
          · exact h1
          · exact h2
          · exact h3
          · exact h4
          · exact (show 0 ≤ (S.1 9 (Int32.toNatClampNeg (S.2.2 5))).toInt from (by have := gx_iC_f h3 (by omega); omega))
          · exact (show 0 ≤ (S.2.2 19).toInt from (by have := gx_iC_f h3 (by omega); omega))
          · exact (show (S.2.2 19).toInt ≤ (S.2.2 2).toInt from (by have := gx_iC_f h3 (by omega); omega))
          · exact (show 0 ≤ (S.2.2 20).toInt from (by have := gx_iC_f h3 (by omega); omega))
          · exact (show (S.2.2 20).toInt ≤ 6 from (by have := gx_iC_f h3 (by omega); omega))
          · exact (show 0 ≤ (S.2.2 21).toInt from (by have := gx_iC_f h3 (by omega); omega))
          · exact (show 0 ≤ (S.2.2 22).toInt from (by have := gx_iC_f h3 (by omega); omega))
          · exact (show ((((S.1 9 (Int32.toNatClampNeg (S.2.2 5))).toInt + (S.2.2 21).toInt) + (S.2.2 22).toInt) + (2 * (S.2.2 20).toInt)) ≤ (2 * (S.2.2 19).toInt) from (by have := gx_iC_f h3 (by omega); omega))
          · exact (show ((S.2.2 23).toInt = 0) ∨ ((((((S.1 9 (Int32.toNatClampNeg (S.2.2 5))).toInt + (S.2.2 21).toInt) + (S.2.2 22).toInt) + (2 * (S.2.2 20).toInt)) + 1) ≤ (2 * (S.2.2 19).toInt)) from (by have := gx_iC_f h3 (by omega); omega))
          · exact (show (((S.2.2 21).toInt + (S.2.2 22).toInt) + (S.2.2 20).toInt) ≤ (S.2.2 19).toInt from (by have := gx_iC_f h3 (by omega); omega))
          · exact (show (S.2.2 23).toInt = 0 from (by have := gx_iC_f h3 (by omega); omega))
          · exact (show 0 ≤ x.toInt from (by have := gx_iC_f h3 (by omega); omega))
          · exact (show (x.toInt = 0) ∨ ((S.2.2 19).toInt < (S.2.2 2).toInt) from (by have := gx_iC_f h3 (by omega); omega))
          · exact (show 0 ≤ (S.1 6 (Int32.toNatClampNeg (S.2.2 5))).toInt from (by have := gx_iC_f h3 (by omega); omega))
          · exact (show (S.1 6 (Int32.toNatClampNeg (S.2.2 5))).toInt ≤ 7 from (by have := gx_iC_f h3 (by omega); omega))
          · exact (show (S.2.2 25).toInt ≠ 0 from (by have := gx_iC_f h3 (by omega); omega))
          · exact (show (S.1 9 (Int32.toNatClampNeg (S.2.2 5))).toInt = (S.1 9 (Int32.toNatClampNeg (S.2.2 5))).toInt from (by have := gx_iC_f h3 (by omega); omega))
          · exact (show (S.2.2 19).toInt = (S.2.2 19).toInt from (by have := gx_iC_f h3 (by omega); omega))
          · exact (show (S.2.2 20).toInt = (S.2.2 20).toInt from (by have := gx_iC_f h3 (by omega); omega))
          · exact (show (S.2.2 21).toInt = (S.2.2 21).toInt from (by have := gx_iC_f h3 (by omega); omega))
          · exact (show (S.2.2 22).toInt = (S.2.2 22).toInt from (by have := gx_iC_f h3 (by omega); omega))
          · exact (show (S.2.2 23).toInt = (S.2.2 23).toInt from (by have := gx_iC_f h3 (by omega); omega))
          · exact (show 0 ≤ (S.2.2 20).toInt from (by have := gx_iC_f h3 (by omega); omega))
          · exact (show (S.2.2 19).toInt < (S.2.2 2).toInt from (by have := gx_iC_f h3 (by omega); omega))
          · exact (show (S.2.2 25).toInt = (S.2.2 25).toInt from (by have := gx_iC_f h3 (by omega); omega))
          · exact h3
          · exact h4
        · skip
          have h25_ := gx_eqn h25
          refine gx_ca (Q := gy_q_MD_readSign x S) (gx_q_MD_refuse _) (gx_s_MD_refuse _ h1 h2) ?_
          intro r_h26 u35 h26
          have h26_0 : (u35.2.2 24).toInt = 1 := h26
          clear h26
          exact ⟨trivial, ⟨h3, h4, (show (((S.2.2 25).toInt ≠ 0) ∨ (((160 * (S.2.2 5).toInt) ≤ (S.1 8 (Int32.toNatClampNeg ((8 * (S.2.2 5)) + (S.1 6 (Int32.toNatClampNeg (S.2.2 5)))))).toInt) ∧ ((S.1 8 (Int32.toNatClampNeg ((8 * (S.2.2 5)) + (S.1 6 (Int32.toNatClampNeg (S.2.2 5)))))).toInt < ((160 * (S.2.2 5).toInt) + (S.1 9 (Int32.toNatClampNeg (S.2.2 5))).toInt)))) ∧ ((0 ≤ (S.1 9 (Int32.toNatClampNeg (S.2.2 5))).toInt) ∧ ((0 ≤ (S.2.2 19).toInt) ∧ (((S.2.2 19).toInt ≤ (S.2.2 2).toInt) ∧ ((0 ≤ (S.2.2 20).toInt) ∧ (((S.2.2 20).toInt ≤ 6) ∧ ((0 ≤ (S.2.2 21).toInt) ∧ ((0 ≤ (S.2.2 22).toInt) ∧ ((((((S.1 9 (Int32.toNatClampNeg (S.2.2 5))).toInt + (S.2.2 21).toInt) + (S.2.2 22).toInt) + (2 * (S.2.2 20).toInt)) ≤ (2 * (S.2.2 19).toInt)) ∧ ((((S.2.2 23).toInt = 0) ∨ ((((((S.1 9 (Int32.toNatClampNeg (S.2.2 5))).toInt + (S.2.2 21).toInt) + (S.2.2 22).toInt) + (2 * (S.2.2 20).toInt)) + 1) ≤ (2 * (S.2.2 19).toInt))) ∧ (((((S.2.2 21).toInt + (S.2.2 22).toInt) + (S.2.2 20).toInt) ≤ (S.2.2 19).toInt) ∧ (((S.2.2 19).toInt ≤ (S.2.2 19).toInt) ∧ (((S.2.2 19).toInt < (S.2.2 19).toInt) ∨ ((u35.2.2 24).toInt ≠ 0))))))))))))) from (by have := gx_iC_f h3 (by omega); have := gx_ad (8 * (S.2.2 5)) (S.1 6 (Int32.toNatClampNeg (S.2.2 5))); have := gx_mk 8 (S.2.2 5) 8 (gx_lit 8 (by decide)); omega))⟩⟩
abbrev gy_q_MD_readPart (S : gm_S) (z : Int32 × (gm_S)) : Prop := (gm_iC (z.2.2.2 20) (z.2.2.2 21) (z.2.2.2 22) (z.2.1 26) (z.2.1 28) (z.2.1 29)) ∧ (gm_iS 1 (S.2.2 2) (S.2.2 5) (S.1 6) (S.1 7) (z.2.1 8) (z.2.1 9) (z.2.1 10) (z.2.1 11) (z.2.1 12) (z.2.1 13) (z.2.2.2 21) (z.2.2.2 22) (z.2.1 30) (z.2.1 31)) ∧ (((((z.2.2.2 25).toInt ≠ 0) ∨ (((160 * (S.2.2 5).toInt) ≤ (z.2.1 8 (Int32.toNatClampNeg ((8 * (S.2.2 5)) + (S.1 6 (Int32.toNatClampNeg (S.2.2 5)))))).toInt) ∧ ((z.2.1 8 (Int32.toNatClampNeg ((8 * (S.2.2 5)) + (S.1 6 (Int32.toNatClampNeg (S.2.2 5)))))).toInt < ((160 * (S.2.2 5).toInt) + (z.2.1 9 (Int32.toNatClampNeg (S.2.2 5))).toInt))))) ∧ ((0 ≤ (z.2.1 9 (Int32.toNatClampNeg (S.2.2 5))).toInt) ∧ ((0 ≤ (z.2.2.2 19).toInt) ∧ (((z.2.2.2 19).toInt ≤ (S.2.2 2).toInt) ∧ ((0 ≤ (z.2.2.2 20).toInt) ∧ (((z.2.2.2 20).toInt ≤ 6) ∧ ((0 ≤ (z.2.2.2 21).toInt) ∧ ((0 ≤ (z.2.2.2 22).toInt) ∧ ((((((z.2.1 9 (Int32.toNatClampNeg (S.2.2 5))).toInt + (z.2.2.2 21).toInt) + (z.2.2.2 22).toInt) + (2 * (z.2.2.2 20).toInt)) ≤ (2 * (z.2.2.2 19).toInt)) ∧ ((((z.2.2.2 23).toInt = 0) ∨ ((((((z.2.1 9 (Int32.toNatClampNeg (S.2.2 5))).toInt + (z.2.2.2 21).toInt) + (z.2.2.2 22).toInt) + (2 * (z.2.2.2 20).toInt)) + 1) ≤ (2 * (z.2.2.2 19).toInt))) ∧ (((((z.2.2.2 21).toInt + (z.2.2.2 22).toInt) + (z.2.2.2 20).toInt) ≤ (z.2.2.2 19).toInt) ∧ (((S.2.2 19).toInt ≤ (z.2.2.2 19).toInt) ∧ ((((S.2.2 19).toInt < (z.2.2.2 19).toInt) ∨ ((z.2.2.2 24).toInt ≠ 0)))))))))))))))
set_option maxRecDepth 100000 in
theorem gy_s_MD_readPart_j206 (S : gm_S) (r1 : Int32) (u1 : gm_S) (S_j41 : gm_S) (S_j206 : gm_S) (h1 : gm_iW 50 (S.2.2 2) (S.1 3)) (h2 : gm_iN 1 (S.2.2 5)) (h3 : gm_iC (S.2.2 20) (S.2.2 21) (S.2.2 22) (S.1 26) (S.1 28) (S.1 29)) (h4 : gm_iS 1 (S.2.2 2) (S.2.2 5) (S.1 6) (S.1 7) (S.1 8) (S.1 9) (S.1 10) (S.1 11) (S.1 12) (S.1 13) (S.2.2 21) (S.2.2 22) (S.1 30) (S.1 31)) (h5 : 0 ≤ (S.1 9 (Int32.toNatClampNeg (S.2.2 5))).toInt) (h6 : 0 ≤ (S.2.2 19).toInt) (h7 : (S.2.2 19).toInt ≤ (S.2.2 2).toInt) (h8 : 0 ≤ (S.2.2 20).toInt) (h9 : (S.2.2 20).toInt ≤ 6) (h10 : 0 ≤ (S.2.2 21).toInt) (h11 : 0 ≤ (S.2.2 22).toInt) (h12 : ((((S.1 9 (Int32.toNatClampNeg (S.2.2 5))).toInt + (S.2.2 21).toInt) + (S.2.2 22).toInt) + (2 * (S.2.2 20).toInt)) ≤ (2 * (S.2.2 19).toInt)) (h13 : ((S.2.2 23).toInt = 0) ∨ ((((((S.1 9 (Int32.toNatClampNeg (S.2.2 5))).toInt + (S.2.2 21).toInt) + (S.2.2 22).toInt) + (2 * (S.2.2 20).toInt)) + 1) ≤ (2 * (S.2.2 19).toInt))) (h14 : (((S.2.2 21).toInt + (S.2.2 22).toInt) + (S.2.2 20).toInt) ≤ (S.2.2 19).toInt) (h15 : 0 ≤ (S.1 6 (Int32.toNatClampNeg (S.2.2 5))).toInt) (h16 : (S.1 6 (Int32.toNatClampNeg (S.2.2 5))).toInt ≤ 7) (h17 : (S.2.2 25).toInt ≠ 0) (h18 : (S_j206.1 9 (Int32.toNatClampNeg (S.2.2 5))).toInt = (S.1 9 (Int32.toNatClampNeg (S.2.2 5))).toInt) (h19 : (S_j206.2.2 19).toInt = (S.2.2 19).toInt) (h20 : (S_j206.2.2 20).toInt = (S.2.2 20).toInt) (h21 : (S_j206.2.2 21).toInt = (S.2.2 21).toInt) (h22 : (S_j206.2.2 22).toInt = (S.2.2 22).toInt) (h23 : (S_j206.2.2 23).toInt = (S.2.2 23).toInt) (h24 : 0 ≤ (S_j206.2.2 20).toInt) (h25 : 0 ≤ r1.toInt) (h26 : (r1.toInt = 0) ∨ ((S.2.2 19).toInt < (S.2.2 2).toInt)) (h27 : (S_j206.2.2 25).toInt = (S.2.2 25).toInt) (h28 : gm_iC (S_j206.2.2 20) (S_j206.2.2 21) (S_j206.2.2 22) (S_j206.1 26) (S_j206.1 28) (S_j206.1 29)) (h29 : gm_iS 1 (S.2.2 2) (S.2.2 5) (S.1 6) (S.1 7) (S_j206.1 8) (S_j206.1 9) (S_j206.1 10) (S_j206.1 11) (S_j206.1 12) (S_j206.1 13) (S_j206.2.2 21) (S_j206.2.2 22) (S_j206.1 30) (S_j206.1 31)) : gm_p_MD_readPart_j206 S r1 u1 S_j41 S_j206 ∧ gy_q_MD_readPart S (gm_f_MD_readPart_j206 S r1 u1 S_j41 S_j206) := by
  unfold gm_p_MD_readPart_j206 gm_f_MD_readPart_j206
  refine gx_if (Q := gy_q_MD_readPart S) (fun h30 => ?_) (fun h30 => ?_)
  · skip
    have h30_ := gx_eqr (k := 0) (by decide) h30
    refine gx_ca (Q := gy_q_MD_readPart S) (gy_q_MD_readSign _ _) (gy_s_MD_readSign _ _ h1 h2 h28 h29 (show 0 ≤ (S_j206.1 9 (Int32.toNatClampNeg (S.2.2 5))).toInt from (by have := gx_iC_f h3 (by omega); have := gx_iC_f h28 (by omega); omega)) (show 0 ≤ (S_j206.2.2 19).toInt from (by have := gx_iC_f h3 (by omega); have := gx_iC_f h28 (by omega); omega)) (show (S_j206.2.2 19).toInt ≤ (S.2.2 2).toInt from (by have := gx_iC_f h3 (by omega); have := gx_iC_f h28 (by omega); omega)) h24 (show (S_j206.2.2 20).toInt ≤ 6 from (by have := gx_iC_f h3 (by omega); have := gx_iC_f h28 (by omega); omega)) (show 0 ≤ (S_j206.2.2 21).toInt from (by have := gx_iC_f h3 (by omega); have := gx_iC_f h28 (by omega); omega)) (show 0 ≤ (S_j206.2.2 22).toInt from (by have := gx_iC_f h3 (by omega); have := gx_iC_f h28 (by omega); omega)) (show ((((S_j206.1 9 (Int32.toNatClampNeg (S.2.2 5))).toInt + (S_j206.2.2 21).toInt) + (S_j206.2.2 22).toInt) + (2 * (S_j206.2.2 20).toInt)) ≤ (2 * (S_j206.2.2 19).toInt) from (by have := gx_iC_f h3 (by omega); have := gx_iC_f h28 (by omega); omega)) (show ((S_j206.2.2 23).toInt = 0) ∨ ((((((S_j206.1 9 (Int32.toNatClampNeg (S.2.2 5))).toInt + (S_j206.2.2 21).toInt) + (S_j206.2.2 22).toInt) + (2 * (S_j206.2.2 20).toInt)) + 1) ≤ (2 * (S_j206.2.2 19).toInt)) from (by have := gx_iC_f h3 (by omega); have := gx_iC_f h28 (by omega); omega)) (show (((S_j206.2.2 21).toInt + (S_j206.2.2 22).toInt) + (S_j206.2.2 20).toInt) ≤ (S_j206.2.2 19).toInt from (by have := gx_iC_f h3 (by omega); have := gx_iC_f h28 (by omega); omega)) (show (S_j206.2.2 23).toInt = 0 from (by have := gx_iC_f h3 (by omega); have := gx_iC_f h28 (by omega); omega)) h25 (show (r1.toInt = 0) ∨ ((S_j206.2.2 19).toInt < (S.2.2 2).toInt) from (by have := gx_iC_f h3 (by omega); have := gx_iC_f h28 (by omega); omega)) h15 h16 (show (S_j206.2.2 25).toInt ≠ 0 from (by have := gx_iC_f h3 (by omega); have := gx_iC_f h28 (by omega); omega))) ?_
    intro r_h31 u215 h31
    have h31_0 : gm_iC (u215.2.2 20) (u215.2.2 21) (u215.2.2 22) (S_j206.1 26) (S_j206.1 28) (S_j206.1 29) := h31.1
    have h31_1 : gm_iS 1 (S.2.2 2) (S.2.2 5) (S.1 6) (S.1 7) (u215.1 8) (u215.1 9) (u215.1 10) (u215.1 11) (u215.1 12) (u215.1 13) (u215.2.2 21) (u215.2.2 22) (u215.1 30) (u215.1 31) := h31.2.1
    have h31_2 : (((u215.2.2 25).toInt ≠ 0) ∨ (((160 * (S.2.2 5).toInt) ≤ (u215.1 8 (Int32.toNatClampNeg ((8 * (S.2.2 5)) + (S.1 6 (Int32.toNatClampNeg (S.2.2 5)))))).toInt) ∧ ((u215.1 8 (Int32.toNatClampNeg ((8 * (S.2.2 5)) + (S.1 6 (Int32.toNatClampNeg (S.2.2 5)))))).toInt < ((160 * (S.2.2 5).toInt) + (u215.1 9 (Int32.toNatClampNeg (S.2.2 5))).toInt)))) ∧ ((0 ≤ (u215.1 9 (Int32.toNatClampNeg (S.2.2 5))).toInt) ∧ ((0 ≤ (u215.2.2 19).toInt) ∧ (((u215.2.2 19).toInt ≤ (S.2.2 2).toInt) ∧ ((0 ≤ (u215.2.2 20).toInt) ∧ (((u215.2.2 20).toInt ≤ 6) ∧ ((0 ≤ (u215.2.2 21).toInt) ∧ ((0 ≤ (u215.2.2 22).toInt) ∧ ((((((u215.1 9 (Int32.toNatClampNeg (S.2.2 5))).toInt + (u215.2.2 21).toInt) + (u215.2.2 22).toInt) + (2 * (u215.2.2 20).toInt)) ≤ (2 * (u215.2.2 19).toInt)) ∧ ((((u215.2.2 23).toInt = 0) ∨ ((((((u215.1 9 (Int32.toNatClampNeg (S.2.2 5))).toInt + (u215.2.2 21).toInt) + (u215.2.2 22).toInt) + (2 * (u215.2.2 20).toInt)) + 1) ≤ (2 * (u215.2.2 19).toInt))) ∧ (((((u215.2.2 21).toInt + (u215.2.2 22).toInt) + (u215.2.2 20).toInt) ≤ (u215.2.2 19).toInt) ∧ (((S_j206.2.2 19).toInt ≤ (u215.2.2 19).toInt) ∧ (((S_j206.2.2 19).toInt < (u215.2.2 19).toInt) ∨ ((u215.2.2 24).toInt ≠ 0))))))))))))) := h31.2.2
    clear h31
    exact ⟨trivial, ⟨h31_0, h31_1, (show (((u215.2.2 25).toInt ≠ 0) ∨ (((160 * (S.2.2 5).toInt) ≤ (u215.1 8 (Int32.toNatClampNeg ((8 * (S.2.2 5)) + (S.1 6 (Int32.toNatClampNeg (S.2.2 5)))))).toInt) ∧ ((u215.1 8 (Int32.toNatClampNeg ((8 * (S.2.2 5)) + (S.1 6 (Int32.toNatClampNeg (S.2.2 5)))))).toInt < ((160 * (S.2.2 5).toInt) + (u215.1 9 (Int32.toNatClampNeg (S.2.2 5))).toInt)))) ∧ ((0 ≤ (u215.1 9 (Int32.toNatClampNeg (S.2.2 5))).toInt) ∧ ((0 ≤ (u215.2.2 19).toInt) ∧ (((u215.2.2 19).toInt ≤ (S.2.2 2).toInt) ∧ ((0 ≤ (u215.2.2 20).toInt) ∧ (((u215.2.2 20).toInt ≤ 6) ∧ ((0 ≤ (u215.2.2 21).toInt) ∧ ((0 ≤ (u215.2.2 22).toInt) ∧ ((((((u215.1 9 (Int32.toNatClampNeg (S.2.2 5))).toInt + (u215.2.2 21).toInt) + (u215.2.2 22).toInt) + (2 * (u215.2.2 20).toInt)) ≤ (2 * (u215.2.2 19).toInt)) ∧ ((((u215.2.2 23).toInt = 0) ∨ ((((((u215.1 9 (Int32.toNatClampNeg (S.2.2 5))).toInt + (u215.2.2 21).toInt) + (u215.2.2 22).toInt) + (2 * (u215.2.2 20).toInt)) + 1) ≤ (2 * (u215.2.2 19).toInt))) ∧ (((((u215.2.2 21).toInt + (u215.2.2 22).toInt) + (u215.2.2 20).toInt) ≤ (u215.2.2 19).toInt) ∧ (((S.2.2 19).toInt ≤ (u215.2.2 19).toInt) ∧ (((S.2.2 19).toInt < (u215.2.2 19).toInt) ∨ ((u215.2.2 24).toInt ≠ 0))))))))))))) from (by have := gx_iC_f h3 (by omega); have := gx_iC_f h28 (by omega); have := gx_iC_f h31_0 (by omega); have := gx_ad (8 * (S.2.2 5)) (S.1 6 (Int32.toNatClampNeg (S.2.2 5))); have := gx_mk 8 (S.2.2 5) 8 (gx_lit 8 (by decide)); omega))⟩⟩
  · skip
    have h30_ := gx_eqnr (k := 0) (by decide) h30
    refine gx_ca (Q := gy_q_MD_readPart S) (gx_q_MD_refuse _) (gx_s_MD_refuse _ h1 h2) ?_
    intro r_h31 u222 h31
    have h31_0 : (u222.2.2 24).toInt = 1 := h31
    clear h31
    exact ⟨trivial, ⟨h28, h29, (show (((S_j206.2.2 25).toInt ≠ 0) ∨ (((160 * (S.2.2 5).toInt) ≤ (S_j206.1 8 (Int32.toNatClampNeg ((8 * (S.2.2 5)) + (S.1 6 (Int32.toNatClampNeg (S.2.2 5)))))).toInt) ∧ ((S_j206.1 8 (Int32.toNatClampNeg ((8 * (S.2.2 5)) + (S.1 6 (Int32.toNatClampNeg (S.2.2 5)))))).toInt < ((160 * (S.2.2 5).toInt) + (S_j206.1 9 (Int32.toNatClampNeg (S.2.2 5))).toInt)))) ∧ ((0 ≤ (S_j206.1 9 (Int32.toNatClampNeg (S.2.2 5))).toInt) ∧ ((0 ≤ (S_j206.2.2 19).toInt) ∧ (((S_j206.2.2 19).toInt ≤ (S.2.2 2).toInt) ∧ ((0 ≤ (S_j206.2.2 20).toInt) ∧ (((S_j206.2.2 20).toInt ≤ 6) ∧ ((0 ≤ (S_j206.2.2 21).toInt) ∧ ((0 ≤ (S_j206.2.2 22).toInt) ∧ ((((((S_j206.1 9 (Int32.toNatClampNeg (S.2.2 5))).toInt + (S_j206.2.2 21).toInt) + (S_j206.2.2 22).toInt) + (2 * (S_j206.2.2 20).toInt)) ≤ (2 * (S_j206.2.2 19).toInt)) ∧ ((((S_j206.2.2 23).toInt = 0) ∨ ((((((S_j206.1 9 (Int32.toNatClampNeg (S.2.2 5))).toInt + (S_j206.2.2 21).toInt) + (S_j206.2.2 22).toInt) + (2 * (S_j206.2.2 20).toInt)) + 1) ≤ (2 * (S_j206.2.2 19).toInt))) ∧ (((((S_j206.2.2 21).toInt + (S_j206.2.2 22).toInt) + (S_j206.2.2 20).toInt) ≤ (S_j206.2.2 19).toInt) ∧ (((S.2.2 19).toInt ≤ (S_j206.2.2 19).toInt) ∧ (((S.2.2 19).toInt < (S_j206.2.2 19).toInt) ∨ ((u222.2.2 24).toInt ≠ 0))))))))))))) from (by have := gx_iC_f h3 (by omega); have := gx_iC_f h28 (by omega); have := gx_ad (8 * (S.2.2 5)) (S.1 6 (Int32.toNatClampNeg (S.2.2 5))); have := gx_mk 8 (S.2.2 5) 8 (gx_lit 8 (by decide)); omega))⟩⟩
set_option maxRecDepth 100000 in
theorem gy_s_MD_readPart_j120 (S : gm_S) (r1 : Int32) (u1 : gm_S) (S_j41 : gm_S) (S_j120 : gm_S) (h1 : gm_iW 50 (S.2.2 2) (S.1 3)) (h2 : gm_iN 1 (S.2.2 5)) (h3 : gm_iC (S.2.2 20) (S.2.2 21) (S.2.2 22) (S.1 26) (S.1 28) (S.1 29)) (h4 : gm_iS 1 (S.2.2 2) (S.2.2 5) (S.1 6) (S.1 7) (S.1 8) (S.1 9) (S.1 10) (S.1 11) (S.1 12) (S.1 13) (S.2.2 21) (S.2.2 22) (S.1 30) (S.1 31)) (h5 : 0 ≤ (S.1 9 (Int32.toNatClampNeg (S.2.2 5))).toInt) (h6 : 0 ≤ (S.2.2 19).toInt) (h7 : (S.2.2 19).toInt ≤ (S.2.2 2).toInt) (h8 : 0 ≤ (S.2.2 20).toInt) (h9 : (S.2.2 20).toInt ≤ 6) (h10 : 0 ≤ (S.2.2 21).toInt) (h11 : 0 ≤ (S.2.2 22).toInt) (h12 : ((((S.1 9 (Int32.toNatClampNeg (S.2.2 5))).toInt + (S.2.2 21).toInt) + (S.2.2 22).toInt) + (2 * (S.2.2 20).toInt)) ≤ (2 * (S.2.2 19).toInt)) (h13 : ((S.2.2 23).toInt = 0) ∨ ((((((S.1 9 (Int32.toNatClampNeg (S.2.2 5))).toInt + (S.2.2 21).toInt) + (S.2.2 22).toInt) + (2 * (S.2.2 20).toInt)) + 1) ≤ (2 * (S.2.2 19).toInt))) (h14 : (((S.2.2 21).toInt + (S.2.2 22).toInt) + (S.2.2 20).toInt) ≤ (S.2.2 19).toInt) (h15 : 0 ≤ (S.1 6 (Int32.toNatClampNeg (S.2.2 5))).toInt) (h16 : (S.1 6 (Int32.toNatClampNeg (S.2.2 5))).toInt ≤ 7) (h17 : (S.2.2 25).toInt ≠ 0) (h18 : (S_j120.1 9 (Int32.toNatClampNeg (S.2.2 5))).toInt = (S.1 9 (Int32.toNatClampNeg (S.2.2 5))).toInt) (h19 : (S_j120.2.2 19).toInt = (S.2.2 19).toInt) (h20 : (S_j120.2.2 20).toInt = (S.2.2 20).toInt) (h21 : (S_j120.2.2 21).toInt = (S.2.2 21).toInt) (h22 : (S_j120.2.2 22).toInt = (S.2.2 22).toInt) (h23 : (S_j120.2.2 23).toInt = (S.2.2 23).toInt) (h24 : 0 ≤ (S_j120.2.2 20).toInt) (h25 : 0 ≤ r1.toInt) (h26 : (r1.toInt = 0) ∨ ((S.2.2 19).toInt < (S.2.2 2).toInt)) (h27 : (S.2.2 19).toInt < (S.2.2 2).toInt) (h28 : (S_j120.2.2 25).toInt = (S.2.2 25).toInt) (h29 : gm_iC (S_j120.2.2 20) (S_j120.2.2 21) (S_j120.2.2 22) (S_j120.1 26) (S_j120.1 28) (S_j120.1 29)) (h30 : gm_iS 1 (S.2.2 2) (S.2.2 5) (S.1 6) (S.1 7) (S_j120.1 8) (S_j120.1 9) (S_j120.1 10) (S_j120.1 11) (S_j120.1 12) (S_j120.1 13) (S_j120.2.2 21) (S_j120.2.2 22) (S_j120.1 30) (S_j120.1 31)) : gm_p_MD_readPart_j120 S r1 u1 S_j41 S_j120 ∧ gy_q_MD_readPart S (gm_f_MD_readPart_j120 S r1 u1 S_j41 S_j120) := by
  unfold gm_p_MD_readPart_j120 gm_f_MD_readPart_j120
  refine gx_if (Q := gy_q_MD_readPart S) (fun h31 => ?_) (fun h31 => ?_)
  · skip
    have h31_ := gx_lel (k := 6) (gx_lit 6 (by decide)) h31
    refine gy_s_MD_readPart_j206 _ _ _ _ _ ?_ ?_ ?_ ?_ ?_ ?_ ?_ ?_ ?_ ?_ ?_ ?_ ?_ ?_ ?_ ?_ ?_ ?_ ?_ ?_ ?_ ?_ ?_ ?_ ?_ ?_ ?_ ?_ ?_
    · exact h1
    · exact h2
    · exact h3
    · exact h4
    · exact (show 0 ≤ (S.1 9 (Int32.toNatClampNeg (S.2.2 5))).toInt from (by have := gx_iC_f h3 (by omega); have := gx_iC_f h29 (by omega); omega))
    · exact (show 0 ≤ (S.2.2 19).toInt from (by have := gx_iC_f h3 (by omega); have := gx_iC_f h29 (by omega); omega))
    · exact (show (S.2.2 19).toInt ≤ (S.2.2 2).toInt from (by have := gx_iC_f h3 (by omega); have := gx_iC_f h29 (by omega); omega))
    · exact (show 0 ≤ (S.2.2 20).toInt from (by have := gx_iC_f h3 (by omega); have := gx_iC_f h29 (by omega); omega))
    · exact (show (S.2.2 20).toInt ≤ 6 from (by have := gx_iC_f h3 (by omega); have := gx_iC_f h29 (by omega); omega))
    · exact (show 0 ≤ (S.2.2 21).toInt from (by have := gx_iC_f h3 (by omega); have := gx_iC_f h29 (by omega); omega))
    · exact (show 0 ≤ (S.2.2 22).toInt from (by have := gx_iC_f h3 (by omega); have := gx_iC_f h29 (by omega); omega))
    · exact (show ((((S.1 9 (Int32.toNatClampNeg (S.2.2 5))).toInt + (S.2.2 21).toInt) + (S.2.2 22).toInt) + (2 * (S.2.2 20).toInt)) ≤ (2 * (S.2.2 19).toInt) from (by have := gx_iC_f h3 (by omega); have := gx_iC_f h29 (by omega); omega))
    · exact (show ((S.2.2 23).toInt = 0) ∨ ((((((S.1 9 (Int32.toNatClampNeg (S.2.2 5))).toInt + (S.2.2 21).toInt) + (S.2.2 22).toInt) + (2 * (S.2.2 20).toInt)) + 1) ≤ (2 * (S.2.2 19).toInt)) from (by have := gx_iC_f h3 (by omega); have := gx_iC_f h29 (by omega); omega))
    · exact (show (((S.2.2 21).toInt + (S.2.2 22).toInt) + (S.2.2 20).toInt) ≤ (S.2.2 19).toInt from (by have := gx_iC_f h3 (by omega); have := gx_iC_f h29 (by omega); omega))
    · exact (show 0 ≤ (S.1 6 (Int32.toNatClampNeg (S.2.2 5))).toInt from (by have := gx_iC_f h3 (by omega); have := gx_iC_f h29 (by omega); omega))
    · exact (show (S.1 6 (Int32.toNatClampNeg (S.2.2 5))).toInt ≤ 7 from (by have := gx_iC_f h3 (by omega); have := gx_iC_f h29 (by omega); omega))
    · exact (show (S.2.2 25).toInt ≠ 0 from (by have := gx_iC_f h3 (by omega); have := gx_iC_f h29 (by omega); omega))
    · exact (show (S_j120.1 9 (Int32.toNatClampNeg (S.2.2 5))).toInt = (S.1 9 (Int32.toNatClampNeg (S.2.2 5))).toInt from (by have := gx_iC_f h3 (by omega); have := gx_iC_f h29 (by omega); omega))
    · exact (show (S_j120.2.2 19).toInt = (S.2.2 19).toInt from (by have := gx_iC_f h3 (by omega); have := gx_iC_f h29 (by omega); omega))
    · exact (show (S_j120.2.2 20).toInt = (S.2.2 20).toInt from (by have := gx_iC_f h3 (by omega); have := gx_iC_f h29 (by omega); omega))
    · exact (show (S_j120.2.2 21).toInt = (S.2.2 21).toInt from (by have := gx_iC_f h3 (by omega); have := gx_iC_f h29 (by omega); omega))
    · exact (show (S_j120.2.2 22).toInt = (S.2.2 22).toInt from (by have := gx_iC_f h3 (by omega); have := gx_iC_f h29 (by omega); omega))
    · exact (show (S_j120.2.2 23).toInt = (S.2.2 23).toInt from (by have := gx_iC_f h3 (by omega); have := gx_iC_f h29 (by omega); omega))
    · exact (show 0 ≤ (S_j120.2.2 20).toInt from (by have := gx_iC_f h3 (by omega); have := gx_iC_f h29 (by omega); omega))
    · exact (show 0 ≤ r1.toInt from (by have := gx_iC_f h3 (by omega); have := gx_iC_f h29 (by omega); omega))
    · exact (show (r1.toInt = 0) ∨ ((S.2.2 19).toInt < (S.2.2 2).toInt) from (by have := gx_iC_f h3 (by omega); have := gx_iC_f h29 (by omega); omega))
    · exact (show (S_j120.2.2 25).toInt = (S.2.2 25).toInt from (by have := gx_iC_f h3 (by omega); have := gx_iC_f h29 (by omega); omega))
    · exact h29
    · exact h30
  · skip
    have h31_ := gx_lenl (k := 6) (gx_lit 6 (by decide)) h31
    refine gx_in (Q := gy_q_MD_readPart S) (vp_in_iff.mpr (by have := gx_iC_f h3 (by omega); have := gx_iC_f h29 (by omega); have := gx_ak (S_j120.2.2 20) 1 (1) (by decide); omega)) ?_
    refine gx_in (Q := gy_q_MD_readPart S) (vp_in_iff.mpr (by have := gx_iC_f h3 (by omega); have := gx_iC_f h29 (by omega); have := gx_ak (S_j120.2.2 20) 1 (1) (by decide); omega)) ?_
    refine gx_in (Q := gy_q_MD_readPart S) (vp_in_iff.mpr (by have := gx_iC_f h3 (by omega); have := gx_iC_f h29 (by omega); have := gx_ak (S_j120.2.2 20) 1 (1) (by decide); omega)) ?_
    refine gx_in (Q := gy_q_MD_readPart S) (vp_in_iff.mpr (by have := gx_iC_f h3 (by omega); have := gx_iC_f h29 (by omega); have := gx_ak (S_j120.2.2 20) 1 (1) (by decide); omega)) ?_
    exact ⟨trivial, ⟨(gx_iC_u h29 (show 0 ≤ (S_j120.2.2 20).toInt from (by have := gx_iC_f h3 (by omega); have := gx_iC_f h29 (by omega); omega)) (show (S_j120.2.2 20).toInt ≤ 5 from (by have := gx_iC_f h3 (by omega); have := gx_iC_f h29 (by omega); omega))), h30, (show (((S_j120.2.2 25).toInt ≠ 0) ∨ (((160 * (S.2.2 5).toInt) ≤ (S_j120.1 8 (Int32.toNatClampNeg ((8 * (S.2.2 5)) + (S.1 6 (Int32.toNatClampNeg (S.2.2 5)))))).toInt) ∧ ((S_j120.1 8 (Int32.toNatClampNeg ((8 * (S.2.2 5)) + (S.1 6 (Int32.toNatClampNeg (S.2.2 5)))))).toInt < ((160 * (S.2.2 5).toInt) + (S_j120.1 9 (Int32.toNatClampNeg (S.2.2 5))).toInt)))) ∧ ((0 ≤ (S_j120.1 9 (Int32.toNatClampNeg (S.2.2 5))).toInt) ∧ ((0 ≤ ((S_j120.2.2 19) + 1).toInt) ∧ ((((S_j120.2.2 19) + 1).toInt ≤ (S.2.2 2).toInt) ∧ ((0 ≤ ((S_j120.2.2 20) + 1).toInt) ∧ ((((S_j120.2.2 20) + 1).toInt ≤ 6) ∧ ((0 ≤ (S_j120.2.2 21).toInt) ∧ ((0 ≤ (S_j120.2.2 22).toInt) ∧ ((((((S_j120.1 9 (Int32.toNatClampNeg (S.2.2 5))).toInt + (S_j120.2.2 21).toInt) + (S_j120.2.2 22).toInt) + (2 * ((S_j120.2.2 20) + 1).toInt)) ≤ (2 * ((S_j120.2.2 19) + 1).toInt)) ∧ ((((0 : Int32).toInt = 0) ∨ ((((((S_j120.1 9 (Int32.toNatClampNeg (S.2.2 5))).toInt + (S_j120.2.2 21).toInt) + (S_j120.2.2 22).toInt) + (2 * ((S_j120.2.2 20) + 1).toInt)) + 1) ≤ (2 * ((S_j120.2.2 19) + 1).toInt))) ∧ (((((S_j120.2.2 21).toInt + (S_j120.2.2 22).toInt) + ((S_j120.2.2 20) + 1).toInt) ≤ ((S_j120.2.2 19) + 1).toInt) ∧ (((S.2.2 19).toInt ≤ ((S_j120.2.2 19) + 1).toInt) ∧ (((S.2.2 19).toInt < ((S_j120.2.2 19) + 1).toInt) ∨ ((S_j120.2.2 24).toInt ≠ 0))))))))))))) from (by have := gx_iC_f h3 (by omega); have := gx_iC_f h29 (by omega); have := gx_ad (8 * (S.2.2 5)) (S.1 6 (Int32.toNatClampNeg (S.2.2 5))); have := gx_ak (S_j120.2.2 19) 1 (1) (by decide); have := gx_ak (S_j120.2.2 20) 1 (1) (by decide); have := gx_mk 8 (S.2.2 5) 8 (gx_lit 8 (by decide)); have : (0 : Int32).toInt = 0 := (by decide); omega))⟩⟩
set_option maxRecDepth 100000 in
theorem gy_s_MD_readPart_j41 (S : gm_S) (r1 : Int32) (u1 : gm_S) (S_j41 : gm_S) (h1 : gm_iW 50 (S.2.2 2) (S.1 3)) (h2 : gm_iN 1 (S.2.2 5)) (h3 : gm_iC (S.2.2 20) (S.2.2 21) (S.2.2 22) (S.1 26) (S.1 28) (S.1 29)) (h4 : gm_iS 1 (S.2.2 2) (S.2.2 5) (S.1 6) (S.1 7) (S.1 8) (S.1 9) (S.1 10) (S.1 11) (S.1 12) (S.1 13) (S.2.2 21) (S.2.2 22) (S.1 30) (S.1 31)) (h5 : 0 ≤ (S.1 9 (Int32.toNatClampNeg (S.2.2 5))).toInt) (h6 : 0 ≤ (S.2.2 19).toInt) (h7 : (S.2.2 19).toInt ≤ (S.2.2 2).toInt) (h8 : 0 ≤ (S.2.2 20).toInt) (h9 : (S.2.2 20).toInt ≤ 6) (h10 : 0 ≤ (S.2.2 21).toInt) (h11 : 0 ≤ (S.2.2 22).toInt) (h12 : ((((S.1 9 (Int32.toNatClampNeg (S.2.2 5))).toInt + (S.2.2 21).toInt) + (S.2.2 22).toInt) + (2 * (S.2.2 20).toInt)) ≤ (2 * (S.2.2 19).toInt)) (h13 : ((S.2.2 23).toInt = 0) ∨ ((((((S.1 9 (Int32.toNatClampNeg (S.2.2 5))).toInt + (S.2.2 21).toInt) + (S.2.2 22).toInt) + (2 * (S.2.2 20).toInt)) + 1) ≤ (2 * (S.2.2 19).toInt))) (h14 : (((S.2.2 21).toInt + (S.2.2 22).toInt) + (S.2.2 20).toInt) ≤ (S.2.2 19).toInt) (h15 : 0 ≤ (S.1 6 (Int32.toNatClampNeg (S.2.2 5))).toInt) (h16 : (S.1 6 (Int32.toNatClampNeg (S.2.2 5))).toInt ≤ 7) (h17 : (S.2.2 25).toInt ≠ 0) (h18 : (S_j41.1 9 (Int32.toNatClampNeg (S.2.2 5))).toInt = (S.1 9 (Int32.toNatClampNeg (S.2.2 5))).toInt) (h19 : (S_j41.2.2 19).toInt = (S.2.2 19).toInt) (h20 : (S_j41.2.2 20).toInt = (S.2.2 20).toInt) (h21 : (S_j41.2.2 21).toInt = (S.2.2 21).toInt) (h22 : (S_j41.2.2 22).toInt = (S.2.2 22).toInt) (h23 : (S_j41.2.2 23).toInt = (S.2.2 23).toInt) (h24 : 0 ≤ (S_j41.2.2 20).toInt) (h25 : 0 ≤ r1.toInt) (h26 : (r1.toInt = 0) ∨ ((S.2.2 19).toInt < (S.2.2 2).toInt)) (h27 : (S_j41.2.2 25).toInt = (S.2.2 25).toInt) (h28 : gm_iC (S_j41.2.2 20) (S_j41.2.2 21) (S_j41.2.2 22) (S_j41.1 26) (S_j41.1 28) (S_j41.1 29)) (h29 : gm_iS 1 (S.2.2 2) (S.2.2 5) (S.1 6) (S.1 7) (S_j41.1 8) (S_j41.1 9) (S_j41.1 10) (S_j41.1 11) (S_j41.1 12) (S_j41.1 13) (S_j41.2.2 21) (S_j41.2.2 22) (S_j41.1 30) (S_j41.1 31)) : gm_p_MD_readPart_j41 S r1 u1 S_j41 ∧ gy_q_MD_readPart S (gm_f_MD_readPart_j41 S r1 u1 S_j41) := by
  unfold gm_p_MD_readPart_j41 gm_f_MD_readPart_j41
  refine gx_if (Q := gy_q_MD_readPart S) (fun h30 => ?_) (fun h30 => ?_)
  · skip
    have h30_ := gx_eqr (k := 46) (gx_lit 46 (by decide)) h30
    refine gx_ca (Q := gy_q_MD_readPart S) (gy_q_MD_create _ _ _ _) (gy_s_MD_create _ _ _ _ h1 h2 h29 (show 0 ≤ (S_j41.1 9 (Int32.toNatClampNeg (S.2.2 5))).toInt from (by have := gx_iC_f h3 (by omega); have := gx_iC_f h28 (by omega); omega)) (show (S_j41.1 9 (Int32.toNatClampNeg (S.2.2 5))).toInt ≤ 150 from (by have := gx_iC_f h3 (by omega); have := gx_iC_f h28 (by omega); omega)) (show (((2 : Int32).toInt = 0) ∨ ((2 : Int32).toInt = 2)) ∨ ((((2 : Int32).toInt = 1) ∧ ((0 ≤ ((-1) : Int32).toInt) ∧ ((1 ≤ ((-1) : Int32).toInt) ∧ ((((-1) : Int32).toInt + ((-1) : Int32).toInt) ≤ (S.2.2 2).toInt)))) ∨ ((((2 : Int32).toInt = 3) ∧ ((65 ≤ ((-1) : Int32).toInt) ∧ (((-1) : Int32).toInt ≤ 90))) ∨ (((4 ≤ (2 : Int32).toInt) ∧ ((2 : Int32).toInt ≤ 10)) ∧ ((((160 * (S.2.2 5).toInt) ≤ ((-1) : Int32).toInt) ∧ (((-1) : Int32).toInt < ((160 * (S.2.2 5).toInt) + (S_j41.1 9 (Int32.toNatClampNeg (S.2.2 5))).toInt))) ∧ ((5 < (2 : Int32).toInt) ∨ (((160 * (S.2.2 5).toInt) ≤ ((-1) : Int32).toInt) ∧ (((-1) : Int32).toInt < ((160 * (S.2.2 5).toInt) + (S_j41.1 9 (Int32.toNatClampNeg (S.2.2 5))).toInt)))))))) from (by have := gx_iC_f h3 (by omega); have := gx_iC_f h28 (by omega); have : ((-1) : Int32).toInt = -1 := (by decide); have : (2 : Int32).toInt = 2 := gx_lit 2 (by decide); omega)) h15) ?_
    intro r61 u61 h31
    have h31_0 : gm_iS 1 (S.2.2 2) (S.2.2 5) (S.1 6) (S.1 7) (S_j41.1 8) (u61.1 9) (u61.1 10) (u61.1 11) (u61.1 12) (u61.1 13) (S_j41.2.2 21) (S_j41.2.2 22) (S_j41.1 30) (S_j41.1 31) := h31.1
    have h31_1 : ((u61.1 9 (Int32.toNatClampNeg (S.2.2 5))).toInt = ((S_j41.1 9 (Int32.toNatClampNeg (S.2.2 5))).toInt + 1)) ∧ (r61.toInt = ((160 * (S.2.2 5).toInt) + (S_j41.1 9 (Int32.toNatClampNeg (S.2.2 5))).toInt)) := h31.2
    clear h31
    refine gx_ca (Q := gy_q_MD_readPart S) (gx_q_MD_include _ _ _ _) (gx_s_MD_include _ _ _ _ h1 h2 (show 0 ≤ r61.toInt from (by have := gx_iC_f h3 (by omega); have := gx_iC_f h28 (by omega); omega)) (show r61.toInt ≤ 319 from (by have := gx_iC_f h3 (by omega); have := gx_iC_f h28 (by omega); omega)) (show 0 ≤ (32 : Int32).toInt from (by have := gx_iC_f h3 (by omega); have := gx_iC_f h28 (by omega); have : (32 : Int32).toInt = 32 := gx_lit 32 (by decide); omega)) (show (32 : Int32).toInt ≤ 126 from (by have := gx_iC_f h3 (by omega); have := gx_iC_f h28 (by omega); have : (32 : Int32).toInt = 32 := gx_lit 32 (by decide); omega)) (show 0 ≤ (126 : Int32).toInt from (by have := gx_iC_f h3 (by omega); have := gx_iC_f h28 (by omega); have : (126 : Int32).toInt = 126 := gx_lit 126 (by decide); omega)) (show (126 : Int32).toInt ≤ 126 from (by have := gx_iC_f h3 (by omega); have := gx_iC_f h28 (by omega); have : (126 : Int32).toInt = 126 := gx_lit 126 (by decide); omega))) ?_
    intro r_h32 u71 h32
    clear h32
    refine gx_ca (Q := gy_q_MD_readPart S) (gy_q_MD_primary _ _) (gy_s_MD_primary _ _ h1 h2 h31_0 (show 0 ≤ (u61.1 9 (Int32.toNatClampNeg (S.2.2 5))).toInt from (by have := gx_iC_f h3 (by omega); have := gx_iC_f h28 (by omega); omega)) (show (u61.1 9 (Int32.toNatClampNeg (S.2.2 5))).toInt ≤ 145 from (by have := gx_iC_f h3 (by omega); have := gx_iC_f h28 (by omega); omega)) (show 0 ≤ ((S_j41.2.2 19) + 1).toInt from (by have := gx_iC_f h3 (by omega); have := gx_iC_f h28 (by omega); have := gx_ak (S_j41.2.2 19) 1 (1) (by decide); omega)) (show ((S_j41.2.2 19) + 1).toInt ≤ (S.2.2 2).toInt from (by have := gx_iC_f h3 (by omega); have := gx_iC_f h28 (by omega); have := gx_ak (S_j41.2.2 19) 1 (1) (by decide); omega)) (show 0 ≤ (S_j41.2.2 21).toInt from (by have := gx_iC_f h3 (by omega); have := gx_iC_f h28 (by omega); omega)) (show (S_j41.2.2 21).toInt ≤ 58 from (by have := gx_iC_f h3 (by omega); have := gx_iC_f h28 (by omega); omega)) (show (160 * (S.2.2 5).toInt) ≤ r61.toInt from (by have := gx_iC_f h3 (by omega); have := gx_iC_f h28 (by omega); omega)) (show r61.toInt < ((160 * (S.2.2 5).toInt) + (u61.1 9 (Int32.toNatClampNeg (S.2.2 5))).toInt) from (by have := gx_iC_f h3 (by omega); have := gx_iC_f h28 (by omega); omega)) h15) ?_
    intro r_h33 u76 h33
    have h33_0 : gm_iS 1 (S.2.2 2) (S.2.2 5) (S.1 6) (S.1 7) (S_j41.1 8) (u76.1 9) (u76.1 10) (u76.1 11) (u76.1 12) (u76.1 13) (u76.2.2 21) (S_j41.2.2 22) (u76.1 30) (S_j41.1 31) := h33.1
    have h33_1 : ((u76.2.2 21).toInt = ((S_j41.2.2 21).toInt + 1)) ∧ (((u76.2.2 23).toInt = 0) ∧ ((((S_j41.2.2 19) + 1).toInt ≤ (u76.2.2 19).toInt) ∧ (((u76.2.2 19).toInt ≤ (((S_j41.2.2 19) + 1).toInt + 1)) ∧ (((u76.2.2 19).toInt ≤ (S.2.2 2).toInt) ∧ (((u61.1 9 (Int32.toNatClampNeg (S.2.2 5))).toInt ≤ (u76.1 9 (Int32.toNatClampNeg (S.2.2 5))).toInt) ∧ (((u76.1 9 (Int32.toNatClampNeg (S.2.2 5))).toInt ≤ ((u61.1 9 (Int32.toNatClampNeg (S.2.2 5))).toInt + (2 * ((u76.2.2 19).toInt - ((S_j41.2.2 19) + 1).toInt)))) ∨ (((S_j41.2.2 23).toInt ≠ 0) ∧ ((u76.1 9 (Int32.toNatClampNeg (S.2.2 5))).toInt ≤ (((u61.1 9 (Int32.toNatClampNeg (S.2.2 5))).toInt + (2 * ((u76.2.2 19).toInt - ((S_j41.2.2 19) + 1).toInt))) + 1))))))))) := h33.2
    clear h33
    exact ⟨trivial, ⟨(gx_iC_s h28 (show (S_j41.1 28 (Int32.toNatClampNeg (S_j41.2.2 20))).toInt ≤ (u76.2.2 21).toInt from (by have := gx_iC_f h3 (by omega); have := gx_iC_f h28 (by omega); have := gx_ak (S_j41.2.2 19) 1 (1) (by decide); omega)) (show (S_j41.1 29 (Int32.toNatClampNeg (S_j41.2.2 20))).toInt ≤ (S_j41.2.2 22).toInt from (by have := gx_iC_f h3 (by omega); have := gx_iC_f h28 (by omega); have := gx_ak (S_j41.2.2 19) 1 (1) (by decide); omega))), h33_0, (show (((S_j41.2.2 25).toInt ≠ 0) ∨ (((160 * (S.2.2 5).toInt) ≤ (S_j41.1 8 (Int32.toNatClampNeg ((8 * (S.2.2 5)) + (S.1 6 (Int32.toNatClampNeg (S.2.2 5)))))).toInt) ∧ ((S_j41.1 8 (Int32.toNatClampNeg ((8 * (S.2.2 5)) + (S.1 6 (Int32.toNatClampNeg (S.2.2 5)))))).toInt < ((160 * (S.2.2 5).toInt) + (u76.1 9 (Int32.toNatClampNeg (S.2.2 5))).toInt)))) ∧ ((0 ≤ (u76.1 9 (Int32.toNatClampNeg (S.2.2 5))).toInt) ∧ ((0 ≤ (u76.2.2 19).toInt) ∧ (((u76.2.2 19).toInt ≤ (S.2.2 2).toInt) ∧ ((0 ≤ (S_j41.2.2 20).toInt) ∧ (((S_j41.2.2 20).toInt ≤ 6) ∧ ((0 ≤ (u76.2.2 21).toInt) ∧ ((0 ≤ (S_j41.2.2 22).toInt) ∧ ((((((u76.1 9 (Int32.toNatClampNeg (S.2.2 5))).toInt + (u76.2.2 21).toInt) + (S_j41.2.2 22).toInt) + (2 * (S_j41.2.2 20).toInt)) ≤ (2 * (u76.2.2 19).toInt)) ∧ ((((u76.2.2 23).toInt = 0) ∨ ((((((u76.1 9 (Int32.toNatClampNeg (S.2.2 5))).toInt + (u76.2.2 21).toInt) + (S_j41.2.2 22).toInt) + (2 * (S_j41.2.2 20).toInt)) + 1) ≤ (2 * (u76.2.2 19).toInt))) ∧ (((((u76.2.2 21).toInt + (S_j41.2.2 22).toInt) + (S_j41.2.2 20).toInt) ≤ (u76.2.2 19).toInt) ∧ (((S.2.2 19).toInt ≤ (u76.2.2 19).toInt) ∧ (((S.2.2 19).toInt < (u76.2.2 19).toInt) ∨ ((S_j41.2.2 24).toInt ≠ 0))))))))))))) from (by have := gx_iC_f h3 (by omega); have := gx_iC_f h28 (by omega); have := gx_ad (8 * (S.2.2 5)) (S.1 6 (Int32.toNatClampNeg (S.2.2 5))); have := gx_ak (S_j41.2.2 19) 1 (1) (by decide); have := gx_mk 8 (S.2.2 5) 8 (gx_lit 8 (by decide)); omega))⟩⟩
  · skip
    have h30_ := gx_eqnr (k := 46) (gx_lit 46 (by decide)) h30
    refine gx_if (Q := gy_q_MD_readPart S) (fun h31 => ?_) (fun h31 => ?_)
    · skip
      have h31_ := gx_eqr (k := 39) (gx_lit 39 (by decide)) h31
      refine gx_ca (Q := gy_q_MD_readPart S) (gy_q_MD_readRow _) (gy_s_MD_readRow _ h1 h2 h29 (show 0 ≤ (S_j41.1 9 (Int32.toNatClampNeg (S.2.2 5))).toInt from (by have := gx_iC_f h3 (by omega); have := gx_iC_f h28 (by omega); omega)) (show 0 ≤ (S_j41.2.2 19).toInt from (by have := gx_iC_f h3 (by omega); have := gx_iC_f h28 (by omega); omega)) (show (S_j41.2.2 19).toInt ≤ (S.2.2 2).toInt from (by have := gx_iC_f h3 (by omega); have := gx_iC_f h28 (by omega); omega)) h24 (show (S_j41.2.2 20).toInt ≤ 6 from (by have := gx_iC_f h3 (by omega); have := gx_iC_f h28 (by omega); omega)) (show 0 ≤ (S_j41.2.2 21).toInt from (by have := gx_iC_f h3 (by omega); have := gx_iC_f h28 (by omega); omega)) (show 0 ≤ (S_j41.2.2 22).toInt from (by have := gx_iC_f h3 (by omega); have := gx_iC_f h28 (by omega); omega)) (show ((((S_j41.1 9 (Int32.toNatClampNeg (S.2.2 5))).toInt + (S_j41.2.2 21).toInt) + (S_j41.2.2 22).toInt) + (2 * (S_j41.2.2 20).toInt)) ≤ (2 * (S_j41.2.2 19).toInt) from (by have := gx_iC_f h3 (by omega); have := gx_iC_f h28 (by omega); omega)) (show ((S_j41.2.2 23).toInt = 0) ∨ ((((((S_j41.1 9 (Int32.toNatClampNeg (S.2.2 5))).toInt + (S_j41.2.2 21).toInt) + (S_j41.2.2 22).toInt) + (2 * (S_j41.2.2 20).toInt)) + 1) ≤ (2 * (S_j41.2.2 19).toInt)) from (by have := gx_iC_f h3 (by omega); have := gx_iC_f h28 (by omega); omega)) (show (((S_j41.2.2 21).toInt + (S_j41.2.2 22).toInt) + (S_j41.2.2 20).toInt) ≤ (S_j41.2.2 19).toInt from (by have := gx_iC_f h3 (by omega); have := gx_iC_f h28 (by omega); omega)) (show (S_j41.2.2 19).toInt < (S.2.2 2).toInt from (by have := gx_iC_f h3 (by omega); have := gx_iC_f h28 (by omega); omega)) h15) ?_
      intro r_h32 u89 h32
      have h32_0 : gm_iS 1 (S.2.2 2) (S.2.2 5) (S.1 6) (S.1 7) (S_j41.1 8) (u89.1 9) (u89.1 10) (u89.1 11) (u89.1 12) (u89.1 13) (u89.2.2 21) (S_j41.2.2 22) (u89.1 30) (S_j41.1 31) := h32.1
      have h32_1 : (0 ≤ (u89.1 9 (Int32.toNatClampNeg (S.2.2 5))).toInt) ∧ ((0 ≤ (u89.2.2 19).toInt) ∧ (((u89.2.2 19).toInt ≤ (S.2.2 2).toInt) ∧ ((0 ≤ (S_j41.2.2 20).toInt) ∧ (((S_j41.2.2 20).toInt ≤ 6) ∧ ((0 ≤ (u89.2.2 21).toInt) ∧ ((0 ≤ (S_j41.2.2 22).toInt) ∧ ((((((u89.1 9 (Int32.toNatClampNeg (S.2.2 5))).toInt + (u89.2.2 21).toInt) + (S_j41.2.2 22).toInt) + (2 * (S_j41.2.2 20).toInt)) ≤ (2 * (u89.2.2 19).toInt)) ∧ ((((u89.2.2 23).toInt = 0) ∨ ((((((u89.1 9 (Int32.toNatClampNeg (S.2.2 5))).toInt + (u89.2.2 21).toInt) + (S_j41.2.2 22).toInt) + (2 * (S_j41.2.2 20).toInt)) + 1) ≤ (2 * (u89.2.2 19).toInt))) ∧ (((((u89.2.2 21).toInt + (S_j41.2.2 22).toInt) + (S_j41.2.2 20).toInt) ≤ (u89.2.2 19).toInt) ∧ (((S_j41.2.2 21).toInt ≤ (u89.2.2 21).toInt) ∧ ((S_j41.2.2 19).toInt < (u89.2.2 19).toInt))))))))))) := h32.2
      clear h32
      exact ⟨trivial, ⟨(gx_iC_s h28 (show (S_j41.1 28 (Int32.toNatClampNeg (S_j41.2.2 20))).toInt ≤ (u89.2.2 21).toInt from (by have := gx_iC_f h3 (by omega); have := gx_iC_f h28 (by omega); omega)) (show (S_j41.1 29 (Int32.toNatClampNeg (S_j41.2.2 20))).toInt ≤ (S_j41.2.2 22).toInt from (by have := gx_iC_f h3 (by omega); have := gx_iC_f h28 (by omega); omega))), h32_0, (show (((S_j41.2.2 25).toInt ≠ 0) ∨ (((160 * (S.2.2 5).toInt) ≤ (S_j41.1 8 (Int32.toNatClampNeg ((8 * (S.2.2 5)) + (S.1 6 (Int32.toNatClampNeg (S.2.2 5)))))).toInt) ∧ ((S_j41.1 8 (Int32.toNatClampNeg ((8 * (S.2.2 5)) + (S.1 6 (Int32.toNatClampNeg (S.2.2 5)))))).toInt < ((160 * (S.2.2 5).toInt) + (u89.1 9 (Int32.toNatClampNeg (S.2.2 5))).toInt)))) ∧ ((0 ≤ (u89.1 9 (Int32.toNatClampNeg (S.2.2 5))).toInt) ∧ ((0 ≤ (u89.2.2 19).toInt) ∧ (((u89.2.2 19).toInt ≤ (S.2.2 2).toInt) ∧ ((0 ≤ (S_j41.2.2 20).toInt) ∧ (((S_j41.2.2 20).toInt ≤ 6) ∧ ((0 ≤ (u89.2.2 21).toInt) ∧ ((0 ≤ (S_j41.2.2 22).toInt) ∧ ((((((u89.1 9 (Int32.toNatClampNeg (S.2.2 5))).toInt + (u89.2.2 21).toInt) + (S_j41.2.2 22).toInt) + (2 * (S_j41.2.2 20).toInt)) ≤ (2 * (u89.2.2 19).toInt)) ∧ ((((u89.2.2 23).toInt = 0) ∨ ((((((u89.1 9 (Int32.toNatClampNeg (S.2.2 5))).toInt + (u89.2.2 21).toInt) + (S_j41.2.2 22).toInt) + (2 * (S_j41.2.2 20).toInt)) + 1) ≤ (2 * (u89.2.2 19).toInt))) ∧ (((((u89.2.2 21).toInt + (S_j41.2.2 22).toInt) + (S_j41.2.2 20).toInt) ≤ (u89.2.2 19).toInt) ∧ (((S.2.2 19).toInt ≤ (u89.2.2 19).toInt) ∧ (((S.2.2 19).toInt < (u89.2.2 19).toInt) ∨ ((u89.2.2 24).toInt ≠ 0))))))))))))) from (by have := gx_iC_f h3 (by omega); have := gx_iC_f h28 (by omega); have := gx_ad (8 * (S.2.2 5)) (S.1 6 (Int32.toNatClampNeg (S.2.2 5))); have := gx_mk 8 (S.2.2 5) 8 (gx_lit 8 (by decide)); omega))⟩⟩
    · skip
      have h31_ := gx_eqnr (k := 39) (gx_lit 39 (by decide)) h31
      refine gx_if (Q := gy_q_MD_readPart S) (fun h32 => ?_) (fun h32 => ?_)
      · skip
        have h32_ := gx_eqr (k := 91) (gx_lit 91 (by decide)) h32
        refine gx_ca (Q := gy_q_MD_readPart S) (gy_q_MD_readClass _) (gy_s_MD_readClass _ h1 h2 h29 (show 0 ≤ (S_j41.1 9 (Int32.toNatClampNeg (S.2.2 5))).toInt from (by have := gx_iC_f h3 (by omega); have := gx_iC_f h28 (by omega); omega)) (show 0 ≤ (S_j41.2.2 19).toInt from (by have := gx_iC_f h3 (by omega); have := gx_iC_f h28 (by omega); omega)) (show (S_j41.2.2 19).toInt ≤ (S.2.2 2).toInt from (by have := gx_iC_f h3 (by omega); have := gx_iC_f h28 (by omega); omega)) h24 (show (S_j41.2.2 20).toInt ≤ 6 from (by have := gx_iC_f h3 (by omega); have := gx_iC_f h28 (by omega); omega)) (show 0 ≤ (S_j41.2.2 21).toInt from (by have := gx_iC_f h3 (by omega); have := gx_iC_f h28 (by omega); omega)) (show 0 ≤ (S_j41.2.2 22).toInt from (by have := gx_iC_f h3 (by omega); have := gx_iC_f h28 (by omega); omega)) (show ((((S_j41.1 9 (Int32.toNatClampNeg (S.2.2 5))).toInt + (S_j41.2.2 21).toInt) + (S_j41.2.2 22).toInt) + (2 * (S_j41.2.2 20).toInt)) ≤ (2 * (S_j41.2.2 19).toInt) from (by have := gx_iC_f h3 (by omega); have := gx_iC_f h28 (by omega); omega)) (show ((S_j41.2.2 23).toInt = 0) ∨ ((((((S_j41.1 9 (Int32.toNatClampNeg (S.2.2 5))).toInt + (S_j41.2.2 21).toInt) + (S_j41.2.2 22).toInt) + (2 * (S_j41.2.2 20).toInt)) + 1) ≤ (2 * (S_j41.2.2 19).toInt)) from (by have := gx_iC_f h3 (by omega); have := gx_iC_f h28 (by omega); omega)) (show (((S_j41.2.2 21).toInt + (S_j41.2.2 22).toInt) + (S_j41.2.2 20).toInt) ≤ (S_j41.2.2 19).toInt from (by have := gx_iC_f h3 (by omega); have := gx_iC_f h28 (by omega); omega)) (show (S_j41.2.2 19).toInt < (S.2.2 2).toInt from (by have := gx_iC_f h3 (by omega); have := gx_iC_f h28 (by omega); omega)) h15) ?_
        intro r_h33 u102 h33
        have h33_0 : gm_iS 1 (S.2.2 2) (S.2.2 5) (S.1 6) (S.1 7) (S_j41.1 8) (u102.1 9) (u102.1 10) (u102.1 11) (u102.1 12) (u102.1 13) (u102.2.2 21) (S_j41.2.2 22) (u102.1 30) (S_j41.1 31) := h33.1
        have h33_1 : (0 ≤ (u102.1 9 (Int32.toNatClampNeg (S.2.2 5))).toInt) ∧ ((0 ≤ (u102.2.2 19).toInt) ∧ (((u102.2.2 19).toInt ≤ (S.2.2 2).toInt) ∧ ((0 ≤ (S_j41.2.2 20).toInt) ∧ (((S_j41.2.2 20).toInt ≤ 6) ∧ ((0 ≤ (u102.2.2 21).toInt) ∧ ((0 ≤ (S_j41.2.2 22).toInt) ∧ ((((((u102.1 9 (Int32.toNatClampNeg (S.2.2 5))).toInt + (u102.2.2 21).toInt) + (S_j41.2.2 22).toInt) + (2 * (S_j41.2.2 20).toInt)) ≤ (2 * (u102.2.2 19).toInt)) ∧ ((((u102.2.2 23).toInt = 0) ∨ ((((((u102.1 9 (Int32.toNatClampNeg (S.2.2 5))).toInt + (u102.2.2 21).toInt) + (S_j41.2.2 22).toInt) + (2 * (S_j41.2.2 20).toInt)) + 1) ≤ (2 * (u102.2.2 19).toInt))) ∧ (((((u102.2.2 21).toInt + (S_j41.2.2 22).toInt) + (S_j41.2.2 20).toInt) ≤ (u102.2.2 19).toInt) ∧ (((S_j41.2.2 21).toInt ≤ (u102.2.2 21).toInt) ∧ ((S_j41.2.2 19).toInt < (u102.2.2 19).toInt))))))))))) := h33.2
        clear h33
        exact ⟨trivial, ⟨(gx_iC_s h28 (show (S_j41.1 28 (Int32.toNatClampNeg (S_j41.2.2 20))).toInt ≤ (u102.2.2 21).toInt from (by have := gx_iC_f h3 (by omega); have := gx_iC_f h28 (by omega); omega)) (show (S_j41.1 29 (Int32.toNatClampNeg (S_j41.2.2 20))).toInt ≤ (S_j41.2.2 22).toInt from (by have := gx_iC_f h3 (by omega); have := gx_iC_f h28 (by omega); omega))), h33_0, (show (((S_j41.2.2 25).toInt ≠ 0) ∨ (((160 * (S.2.2 5).toInt) ≤ (S_j41.1 8 (Int32.toNatClampNeg ((8 * (S.2.2 5)) + (S.1 6 (Int32.toNatClampNeg (S.2.2 5)))))).toInt) ∧ ((S_j41.1 8 (Int32.toNatClampNeg ((8 * (S.2.2 5)) + (S.1 6 (Int32.toNatClampNeg (S.2.2 5)))))).toInt < ((160 * (S.2.2 5).toInt) + (u102.1 9 (Int32.toNatClampNeg (S.2.2 5))).toInt)))) ∧ ((0 ≤ (u102.1 9 (Int32.toNatClampNeg (S.2.2 5))).toInt) ∧ ((0 ≤ (u102.2.2 19).toInt) ∧ (((u102.2.2 19).toInt ≤ (S.2.2 2).toInt) ∧ ((0 ≤ (S_j41.2.2 20).toInt) ∧ (((S_j41.2.2 20).toInt ≤ 6) ∧ ((0 ≤ (u102.2.2 21).toInt) ∧ ((0 ≤ (S_j41.2.2 22).toInt) ∧ ((((((u102.1 9 (Int32.toNatClampNeg (S.2.2 5))).toInt + (u102.2.2 21).toInt) + (S_j41.2.2 22).toInt) + (2 * (S_j41.2.2 20).toInt)) ≤ (2 * (u102.2.2 19).toInt)) ∧ ((((u102.2.2 23).toInt = 0) ∨ ((((((u102.1 9 (Int32.toNatClampNeg (S.2.2 5))).toInt + (u102.2.2 21).toInt) + (S_j41.2.2 22).toInt) + (2 * (S_j41.2.2 20).toInt)) + 1) ≤ (2 * (u102.2.2 19).toInt))) ∧ (((((u102.2.2 21).toInt + (S_j41.2.2 22).toInt) + (S_j41.2.2 20).toInt) ≤ (u102.2.2 19).toInt) ∧ (((S.2.2 19).toInt ≤ (u102.2.2 19).toInt) ∧ (((S.2.2 19).toInt < (u102.2.2 19).toInt) ∨ ((u102.2.2 24).toInt ≠ 0))))))))))))) from (by have := gx_iC_f h3 (by omega); have := gx_iC_f h28 (by omega); have := gx_ad (8 * (S.2.2 5)) (S.1 6 (Int32.toNatClampNeg (S.2.2 5))); have := gx_mk 8 (S.2.2 5) 8 (gx_lit 8 (by decide)); omega))⟩⟩
      · skip
        have h32_ := gx_eqnr (k := 91) (gx_lit 91 (by decide)) h32
        refine gx_if (Q := gy_q_MD_readPart S) (fun h33 => ?_) (fun h33 => ?_)
        · skip
          have h33_ := gx_eqr (k := 40) (gx_lit 40 (by decide)) h33
          refine gy_s_MD_readPart_j120 _ _ _ _ _ ?_ ?_ ?_ ?_ ?_ ?_ ?_ ?_ ?_ ?_ ?_ ?_ ?_ ?_ ?_ ?_ ?_ ?_ ?_ ?_ ?_ ?_ ?_ ?_ ?_ ?_ ?_ ?_ ?_ ?_
          · exact h1
          · exact h2
          · exact h3
          · exact h4
          · exact (show 0 ≤ (S.1 9 (Int32.toNatClampNeg (S.2.2 5))).toInt from (by have := gx_iC_f h3 (by omega); have := gx_iC_f h28 (by omega); omega))
          · exact (show 0 ≤ (S.2.2 19).toInt from (by have := gx_iC_f h3 (by omega); have := gx_iC_f h28 (by omega); omega))
          · exact (show (S.2.2 19).toInt ≤ (S.2.2 2).toInt from (by have := gx_iC_f h3 (by omega); have := gx_iC_f h28 (by omega); omega))
          · exact (show 0 ≤ (S.2.2 20).toInt from (by have := gx_iC_f h3 (by omega); have := gx_iC_f h28 (by omega); omega))
          · exact (show (S.2.2 20).toInt ≤ 6 from (by have := gx_iC_f h3 (by omega); have := gx_iC_f h28 (by omega); omega))
          · exact (show 0 ≤ (S.2.2 21).toInt from (by have := gx_iC_f h3 (by omega); have := gx_iC_f h28 (by omega); omega))
          · exact (show 0 ≤ (S.2.2 22).toInt from (by have := gx_iC_f h3 (by omega); have := gx_iC_f h28 (by omega); omega))
          · exact (show ((((S.1 9 (Int32.toNatClampNeg (S.2.2 5))).toInt + (S.2.2 21).toInt) + (S.2.2 22).toInt) + (2 * (S.2.2 20).toInt)) ≤ (2 * (S.2.2 19).toInt) from (by have := gx_iC_f h3 (by omega); have := gx_iC_f h28 (by omega); omega))
          · exact (show ((S.2.2 23).toInt = 0) ∨ ((((((S.1 9 (Int32.toNatClampNeg (S.2.2 5))).toInt + (S.2.2 21).toInt) + (S.2.2 22).toInt) + (2 * (S.2.2 20).toInt)) + 1) ≤ (2 * (S.2.2 19).toInt)) from (by have := gx_iC_f h3 (by omega); have := gx_iC_f h28 (by omega); omega))
          · exact (show (((S.2.2 21).toInt + (S.2.2 22).toInt) + (S.2.2 20).toInt) ≤ (S.2.2 19).toInt from (by have := gx_iC_f h3 (by omega); have := gx_iC_f h28 (by omega); omega))
          · exact (show 0 ≤ (S.1 6 (Int32.toNatClampNeg (S.2.2 5))).toInt from (by have := gx_iC_f h3 (by omega); have := gx_iC_f h28 (by omega); omega))
          · exact (show (S.1 6 (Int32.toNatClampNeg (S.2.2 5))).toInt ≤ 7 from (by have := gx_iC_f h3 (by omega); have := gx_iC_f h28 (by omega); omega))
          · exact (show (S.2.2 25).toInt ≠ 0 from (by have := gx_iC_f h3 (by omega); have := gx_iC_f h28 (by omega); omega))
          · exact (show (S_j41.1 9 (Int32.toNatClampNeg (S.2.2 5))).toInt = (S.1 9 (Int32.toNatClampNeg (S.2.2 5))).toInt from (by have := gx_iC_f h3 (by omega); have := gx_iC_f h28 (by omega); omega))
          · exact (show (S_j41.2.2 19).toInt = (S.2.2 19).toInt from (by have := gx_iC_f h3 (by omega); have := gx_iC_f h28 (by omega); omega))
          · exact (show (S_j41.2.2 20).toInt = (S.2.2 20).toInt from (by have := gx_iC_f h3 (by omega); have := gx_iC_f h28 (by omega); omega))
          · exact (show (S_j41.2.2 21).toInt = (S.2.2 21).toInt from (by have := gx_iC_f h3 (by omega); have := gx_iC_f h28 (by omega); omega))
          · exact (show (S_j41.2.2 22).toInt = (S.2.2 22).toInt from (by have := gx_iC_f h3 (by omega); have := gx_iC_f h28 (by omega); omega))
          · exact (show (S_j41.2.2 23).toInt = (S.2.2 23).toInt from (by have := gx_iC_f h3 (by omega); have := gx_iC_f h28 (by omega); omega))
          · exact (show 0 ≤ (S_j41.2.2 20).toInt from (by have := gx_iC_f h3 (by omega); have := gx_iC_f h28 (by omega); omega))
          · exact (show 0 ≤ r1.toInt from (by have := gx_iC_f h3 (by omega); have := gx_iC_f h28 (by omega); omega))
          · exact (show (r1.toInt = 0) ∨ ((S.2.2 19).toInt < (S.2.2 2).toInt) from (by have := gx_iC_f h3 (by omega); have := gx_iC_f h28 (by omega); omega))
          · exact (show (S.2.2 19).toInt < (S.2.2 2).toInt from (by have := gx_iC_f h3 (by omega); have := gx_iC_f h28 (by omega); omega))
          · exact (show (S_j41.2.2 25).toInt = (S.2.2 25).toInt from (by have := gx_iC_f h3 (by omega); have := gx_iC_f h28 (by omega); omega))
          · exact h28
          · exact h29
        · skip
          have h33_ := gx_eqnr (k := 40) (gx_lit 40 (by decide)) h33
          refine gx_if (Q := gy_q_MD_readPart S) (fun h34 => ?_) (fun h34 => ?_)
          · skip
            have h34_ := gx_eqr (k := 123) (gx_lit 123 (by decide)) h34
            refine gy_s_MD_readPart_j120 _ _ _ _ _ ?_ ?_ ?_ ?_ ?_ ?_ ?_ ?_ ?_ ?_ ?_ ?_ ?_ ?_ ?_ ?_ ?_ ?_ ?_ ?_ ?_ ?_ ?_ ?_ ?_ ?_ ?_ ?_ ?_ ?_
            · exact h1
            · exact h2
            · exact h3
            · exact h4
            · exact (show 0 ≤ (S.1 9 (Int32.toNatClampNeg (S.2.2 5))).toInt from (by have := gx_iC_f h3 (by omega); have := gx_iC_f h28 (by omega); omega))
            · exact (show 0 ≤ (S.2.2 19).toInt from (by have := gx_iC_f h3 (by omega); have := gx_iC_f h28 (by omega); omega))
            · exact (show (S.2.2 19).toInt ≤ (S.2.2 2).toInt from (by have := gx_iC_f h3 (by omega); have := gx_iC_f h28 (by omega); omega))
            · exact (show 0 ≤ (S.2.2 20).toInt from (by have := gx_iC_f h3 (by omega); have := gx_iC_f h28 (by omega); omega))
            · exact (show (S.2.2 20).toInt ≤ 6 from (by have := gx_iC_f h3 (by omega); have := gx_iC_f h28 (by omega); omega))
            · exact (show 0 ≤ (S.2.2 21).toInt from (by have := gx_iC_f h3 (by omega); have := gx_iC_f h28 (by omega); omega))
            · exact (show 0 ≤ (S.2.2 22).toInt from (by have := gx_iC_f h3 (by omega); have := gx_iC_f h28 (by omega); omega))
            · exact (show ((((S.1 9 (Int32.toNatClampNeg (S.2.2 5))).toInt + (S.2.2 21).toInt) + (S.2.2 22).toInt) + (2 * (S.2.2 20).toInt)) ≤ (2 * (S.2.2 19).toInt) from (by have := gx_iC_f h3 (by omega); have := gx_iC_f h28 (by omega); omega))
            · exact (show ((S.2.2 23).toInt = 0) ∨ ((((((S.1 9 (Int32.toNatClampNeg (S.2.2 5))).toInt + (S.2.2 21).toInt) + (S.2.2 22).toInt) + (2 * (S.2.2 20).toInt)) + 1) ≤ (2 * (S.2.2 19).toInt)) from (by have := gx_iC_f h3 (by omega); have := gx_iC_f h28 (by omega); omega))
            · exact (show (((S.2.2 21).toInt + (S.2.2 22).toInt) + (S.2.2 20).toInt) ≤ (S.2.2 19).toInt from (by have := gx_iC_f h3 (by omega); have := gx_iC_f h28 (by omega); omega))
            · exact (show 0 ≤ (S.1 6 (Int32.toNatClampNeg (S.2.2 5))).toInt from (by have := gx_iC_f h3 (by omega); have := gx_iC_f h28 (by omega); omega))
            · exact (show (S.1 6 (Int32.toNatClampNeg (S.2.2 5))).toInt ≤ 7 from (by have := gx_iC_f h3 (by omega); have := gx_iC_f h28 (by omega); omega))
            · exact (show (S.2.2 25).toInt ≠ 0 from (by have := gx_iC_f h3 (by omega); have := gx_iC_f h28 (by omega); omega))
            · exact (show (S_j41.1 9 (Int32.toNatClampNeg (S.2.2 5))).toInt = (S.1 9 (Int32.toNatClampNeg (S.2.2 5))).toInt from (by have := gx_iC_f h3 (by omega); have := gx_iC_f h28 (by omega); omega))
            · exact (show (S_j41.2.2 19).toInt = (S.2.2 19).toInt from (by have := gx_iC_f h3 (by omega); have := gx_iC_f h28 (by omega); omega))
            · exact (show (S_j41.2.2 20).toInt = (S.2.2 20).toInt from (by have := gx_iC_f h3 (by omega); have := gx_iC_f h28 (by omega); omega))
            · exact (show (S_j41.2.2 21).toInt = (S.2.2 21).toInt from (by have := gx_iC_f h3 (by omega); have := gx_iC_f h28 (by omega); omega))
            · exact (show (S_j41.2.2 22).toInt = (S.2.2 22).toInt from (by have := gx_iC_f h3 (by omega); have := gx_iC_f h28 (by omega); omega))
            · exact (show (S_j41.2.2 23).toInt = (S.2.2 23).toInt from (by have := gx_iC_f h3 (by omega); have := gx_iC_f h28 (by omega); omega))
            · exact (show 0 ≤ (S_j41.2.2 20).toInt from (by have := gx_iC_f h3 (by omega); have := gx_iC_f h28 (by omega); omega))
            · exact (show 0 ≤ r1.toInt from (by have := gx_iC_f h3 (by omega); have := gx_iC_f h28 (by omega); omega))
            · exact (show (r1.toInt = 0) ∨ ((S.2.2 19).toInt < (S.2.2 2).toInt) from (by have := gx_iC_f h3 (by omega); have := gx_iC_f h28 (by omega); omega))
            · exact (show (S.2.2 19).toInt < (S.2.2 2).toInt from (by have := gx_iC_f h3 (by omega); have := gx_iC_f h28 (by omega); omega))
            · exact (show (S_j41.2.2 25).toInt = (S.2.2 25).toInt from (by have := gx_iC_f h3 (by omega); have := gx_iC_f h28 (by omega); omega))
            · exact h28
            · exact h29
          · skip
            have h34_ := gx_eqnr (k := 123) (gx_lit 123 (by decide)) h34
            refine gy_s_MD_readPart_j206 _ _ _ _ _ ?_ ?_ ?_ ?_ ?_ ?_ ?_ ?_ ?_ ?_ ?_ ?_ ?_ ?_ ?_ ?_ ?_ ?_ ?_ ?_ ?_ ?_ ?_ ?_ ?_ ?_ ?_ ?_ ?_
            · exact h1
            · exact h2
            · exact h3
            · exact h4
            · exact (show 0 ≤ (S.1 9 (Int32.toNatClampNeg (S.2.2 5))).toInt from (by have := gx_iC_f h3 (by omega); have := gx_iC_f h28 (by omega); omega))
            · exact (show 0 ≤ (S.2.2 19).toInt from (by have := gx_iC_f h3 (by omega); have := gx_iC_f h28 (by omega); omega))
            · exact (show (S.2.2 19).toInt ≤ (S.2.2 2).toInt from (by have := gx_iC_f h3 (by omega); have := gx_iC_f h28 (by omega); omega))
            · exact (show 0 ≤ (S.2.2 20).toInt from (by have := gx_iC_f h3 (by omega); have := gx_iC_f h28 (by omega); omega))
            · exact (show (S.2.2 20).toInt ≤ 6 from (by have := gx_iC_f h3 (by omega); have := gx_iC_f h28 (by omega); omega))
            · exact (show 0 ≤ (S.2.2 21).toInt from (by have := gx_iC_f h3 (by omega); have := gx_iC_f h28 (by omega); omega))
            · exact (show 0 ≤ (S.2.2 22).toInt from (by have := gx_iC_f h3 (by omega); have := gx_iC_f h28 (by omega); omega))
            · exact (show ((((S.1 9 (Int32.toNatClampNeg (S.2.2 5))).toInt + (S.2.2 21).toInt) + (S.2.2 22).toInt) + (2 * (S.2.2 20).toInt)) ≤ (2 * (S.2.2 19).toInt) from (by have := gx_iC_f h3 (by omega); have := gx_iC_f h28 (by omega); omega))
            · exact (show ((S.2.2 23).toInt = 0) ∨ ((((((S.1 9 (Int32.toNatClampNeg (S.2.2 5))).toInt + (S.2.2 21).toInt) + (S.2.2 22).toInt) + (2 * (S.2.2 20).toInt)) + 1) ≤ (2 * (S.2.2 19).toInt)) from (by have := gx_iC_f h3 (by omega); have := gx_iC_f h28 (by omega); omega))
            · exact (show (((S.2.2 21).toInt + (S.2.2 22).toInt) + (S.2.2 20).toInt) ≤ (S.2.2 19).toInt from (by have := gx_iC_f h3 (by omega); have := gx_iC_f h28 (by omega); omega))
            · exact (show 0 ≤ (S.1 6 (Int32.toNatClampNeg (S.2.2 5))).toInt from (by have := gx_iC_f h3 (by omega); have := gx_iC_f h28 (by omega); omega))
            · exact (show (S.1 6 (Int32.toNatClampNeg (S.2.2 5))).toInt ≤ 7 from (by have := gx_iC_f h3 (by omega); have := gx_iC_f h28 (by omega); omega))
            · exact (show (S.2.2 25).toInt ≠ 0 from (by have := gx_iC_f h3 (by omega); have := gx_iC_f h28 (by omega); omega))
            · exact (show (S_j41.1 9 (Int32.toNatClampNeg (S.2.2 5))).toInt = (S.1 9 (Int32.toNatClampNeg (S.2.2 5))).toInt from (by have := gx_iC_f h3 (by omega); have := gx_iC_f h28 (by omega); omega))
            · exact (show (S_j41.2.2 19).toInt = (S.2.2 19).toInt from (by have := gx_iC_f h3 (by omega); have := gx_iC_f h28 (by omega); omega))
            · exact (show (S_j41.2.2 20).toInt = (S.2.2 20).toInt from (by have := gx_iC_f h3 (by omega); have := gx_iC_f h28 (by omega); omega))
            · exact (show (S_j41.2.2 21).toInt = (S.2.2 21).toInt from (by have := gx_iC_f h3 (by omega); have := gx_iC_f h28 (by omega); omega))
            · exact (show (S_j41.2.2 22).toInt = (S.2.2 22).toInt from (by have := gx_iC_f h3 (by omega); have := gx_iC_f h28 (by omega); omega))
            · exact (show (S_j41.2.2 23).toInt = (S.2.2 23).toInt from (by have := gx_iC_f h3 (by omega); have := gx_iC_f h28 (by omega); omega))
            · exact (show 0 ≤ (S_j41.2.2 20).toInt from (by have := gx_iC_f h3 (by omega); have := gx_iC_f h28 (by omega); omega))
            · exact (show 0 ≤ r1.toInt from (by have := gx_iC_f h3 (by omega); have := gx_iC_f h28 (by omega); omega))
            · exact (show (r1.toInt = 0) ∨ ((S.2.2 19).toInt < (S.2.2 2).toInt) from (by have := gx_iC_f h3 (by omega); have := gx_iC_f h28 (by omega); omega))
            · exact (show (S_j41.2.2 25).toInt = (S.2.2 25).toInt from (by have := gx_iC_f h3 (by omega); have := gx_iC_f h28 (by omega); omega))
            · exact h28
            · exact h29
set_option maxRecDepth 100000 in
theorem gy_s_MD_readPart (S : gm_S) (h1 : gm_iW 50 (S.2.2 2) (S.1 3)) (h2 : gm_iN 1 (S.2.2 5)) (h3 : gm_iC (S.2.2 20) (S.2.2 21) (S.2.2 22) (S.1 26) (S.1 28) (S.1 29)) (h4 : gm_iS 1 (S.2.2 2) (S.2.2 5) (S.1 6) (S.1 7) (S.1 8) (S.1 9) (S.1 10) (S.1 11) (S.1 12) (S.1 13) (S.2.2 21) (S.2.2 22) (S.1 30) (S.1 31)) (h5 : 0 ≤ (S.1 9 (Int32.toNatClampNeg (S.2.2 5))).toInt) (h6 : 0 ≤ (S.2.2 19).toInt) (h7 : (S.2.2 19).toInt ≤ (S.2.2 2).toInt) (h8 : 0 ≤ (S.2.2 20).toInt) (h9 : (S.2.2 20).toInt ≤ 6) (h10 : 0 ≤ (S.2.2 21).toInt) (h11 : 0 ≤ (S.2.2 22).toInt) (h12 : ((((S.1 9 (Int32.toNatClampNeg (S.2.2 5))).toInt + (S.2.2 21).toInt) + (S.2.2 22).toInt) + (2 * (S.2.2 20).toInt)) ≤ (2 * (S.2.2 19).toInt)) (h13 : ((S.2.2 23).toInt = 0) ∨ ((((((S.1 9 (Int32.toNatClampNeg (S.2.2 5))).toInt + (S.2.2 21).toInt) + (S.2.2 22).toInt) + (2 * (S.2.2 20).toInt)) + 1) ≤ (2 * (S.2.2 19).toInt))) (h14 : (((S.2.2 21).toInt + (S.2.2 22).toInt) + (S.2.2 20).toInt) ≤ (S.2.2 19).toInt) (h15 : 0 ≤ (S.1 6 (Int32.toNatClampNeg (S.2.2 5))).toInt) (h16 : (S.1 6 (Int32.toNatClampNeg (S.2.2 5))).toInt ≤ 7) (h17 : (S.2.2 25).toInt ≠ 0) : gm_p_MD_readPart S ∧ gy_q_MD_readPart S (gm_f_MD_readPart S) := by
  unfold gm_p_MD_readPart gm_f_MD_readPart
  refine gx_ca (Q := gy_q_MD_readPart S) (gx_q_MD_peek _) (gx_s_MD_peek _ h1 h2 h6) ?_
  intro r1 u1 h18
  have h18_0 : (((r1.toInt = 0) ∧ ((S.2.2 2).toInt ≤ (S.2.2 19).toInt)) ∨ ((32 ≤ r1.toInt) ∧ ((r1.toInt ≤ 126) ∧ ((S.2.2 19).toInt < (S.2.2 2).toInt)))) ∧ (r1 = (gm_f_MD_peek S).1) := h18
  refine gx_if (Q := gy_q_MD_readPart S) (fun h19 => ?_) (fun h19 => ?_)
  · skip
    have h19_ := gx_ltr (k := 65) (gx_lit 65 (by decide)) h19
    refine gy_s_MD_readPart_j41 _ _ _ _ ?_ ?_ ?_ ?_ ?_ ?_ ?_ ?_ ?_ ?_ ?_ ?_ ?_ ?_ ?_ ?_ ?_ ?_ ?_ ?_ ?_ ?_ ?_ ?_ ?_ ?_ ?_ ?_ ?_
    · exact h1
    · exact h2
    · exact h3
    · exact h4
    · exact (show 0 ≤ (S.1 9 (Int32.toNatClampNeg (S.2.2 5))).toInt from (by have := gx_iC_f h3 (by omega); omega))
    · exact (show 0 ≤ (S.2.2 19).toInt from (by have := gx_iC_f h3 (by omega); omega))
    · exact (show (S.2.2 19).toInt ≤ (S.2.2 2).toInt from (by have := gx_iC_f h3 (by omega); omega))
    · exact (show 0 ≤ (S.2.2 20).toInt from (by have := gx_iC_f h3 (by omega); omega))
    · exact (show (S.2.2 20).toInt ≤ 6 from (by have := gx_iC_f h3 (by omega); omega))
    · exact (show 0 ≤ (S.2.2 21).toInt from (by have := gx_iC_f h3 (by omega); omega))
    · exact (show 0 ≤ (S.2.2 22).toInt from (by have := gx_iC_f h3 (by omega); omega))
    · exact (show ((((S.1 9 (Int32.toNatClampNeg (S.2.2 5))).toInt + (S.2.2 21).toInt) + (S.2.2 22).toInt) + (2 * (S.2.2 20).toInt)) ≤ (2 * (S.2.2 19).toInt) from (by have := gx_iC_f h3 (by omega); omega))
    · exact (show ((S.2.2 23).toInt = 0) ∨ ((((((S.1 9 (Int32.toNatClampNeg (S.2.2 5))).toInt + (S.2.2 21).toInt) + (S.2.2 22).toInt) + (2 * (S.2.2 20).toInt)) + 1) ≤ (2 * (S.2.2 19).toInt)) from (by have := gx_iC_f h3 (by omega); omega))
    · exact (show (((S.2.2 21).toInt + (S.2.2 22).toInt) + (S.2.2 20).toInt) ≤ (S.2.2 19).toInt from (by have := gx_iC_f h3 (by omega); omega))
    · exact (show 0 ≤ (S.1 6 (Int32.toNatClampNeg (S.2.2 5))).toInt from (by have := gx_iC_f h3 (by omega); omega))
    · exact (show (S.1 6 (Int32.toNatClampNeg (S.2.2 5))).toInt ≤ 7 from (by have := gx_iC_f h3 (by omega); omega))
    · exact (show (S.2.2 25).toInt ≠ 0 from (by have := gx_iC_f h3 (by omega); omega))
    · exact (show (S.1 9 (Int32.toNatClampNeg (S.2.2 5))).toInt = (S.1 9 (Int32.toNatClampNeg (S.2.2 5))).toInt from (by have := gx_iC_f h3 (by omega); omega))
    · exact (show (S.2.2 19).toInt = (S.2.2 19).toInt from (by have := gx_iC_f h3 (by omega); omega))
    · exact (show (S.2.2 20).toInt = (S.2.2 20).toInt from (by have := gx_iC_f h3 (by omega); omega))
    · exact (show (S.2.2 21).toInt = (S.2.2 21).toInt from (by have := gx_iC_f h3 (by omega); omega))
    · exact (show (S.2.2 22).toInt = (S.2.2 22).toInt from (by have := gx_iC_f h3 (by omega); omega))
    · exact (show (S.2.2 23).toInt = (S.2.2 23).toInt from (by have := gx_iC_f h3 (by omega); omega))
    · exact (show 0 ≤ (S.2.2 20).toInt from (by have := gx_iC_f h3 (by omega); omega))
    · exact (show 0 ≤ r1.toInt from (by have := gx_iC_f h3 (by omega); omega))
    · exact (show (r1.toInt = 0) ∨ ((S.2.2 19).toInt < (S.2.2 2).toInt) from (by have := gx_iC_f h3 (by omega); omega))
    · exact (show (S.2.2 25).toInt = (S.2.2 25).toInt from (by have := gx_iC_f h3 (by omega); omega))
    · exact h3
    · exact h4
  · skip
    have h19_ := gx_ltnr (k := 65) (gx_lit 65 (by decide)) h19
    refine gx_if (Q := gy_q_MD_readPart S) (fun h20 => ?_) (fun h20 => ?_)
    · skip
      have h20_ := gx_ltl (k := 90) (gx_lit 90 (by decide)) h20
      refine gy_s_MD_readPart_j41 _ _ _ _ ?_ ?_ ?_ ?_ ?_ ?_ ?_ ?_ ?_ ?_ ?_ ?_ ?_ ?_ ?_ ?_ ?_ ?_ ?_ ?_ ?_ ?_ ?_ ?_ ?_ ?_ ?_ ?_ ?_
      · exact h1
      · exact h2
      · exact h3
      · exact h4
      · exact (show 0 ≤ (S.1 9 (Int32.toNatClampNeg (S.2.2 5))).toInt from (by have := gx_iC_f h3 (by omega); omega))
      · exact (show 0 ≤ (S.2.2 19).toInt from (by have := gx_iC_f h3 (by omega); omega))
      · exact (show (S.2.2 19).toInt ≤ (S.2.2 2).toInt from (by have := gx_iC_f h3 (by omega); omega))
      · exact (show 0 ≤ (S.2.2 20).toInt from (by have := gx_iC_f h3 (by omega); omega))
      · exact (show (S.2.2 20).toInt ≤ 6 from (by have := gx_iC_f h3 (by omega); omega))
      · exact (show 0 ≤ (S.2.2 21).toInt from (by have := gx_iC_f h3 (by omega); omega))
      · exact (show 0 ≤ (S.2.2 22).toInt from (by have := gx_iC_f h3 (by omega); omega))
      · exact (show ((((S.1 9 (Int32.toNatClampNeg (S.2.2 5))).toInt + (S.2.2 21).toInt) + (S.2.2 22).toInt) + (2 * (S.2.2 20).toInt)) ≤ (2 * (S.2.2 19).toInt) from (by have := gx_iC_f h3 (by omega); omega))
      · exact (show ((S.2.2 23).toInt = 0) ∨ ((((((S.1 9 (Int32.toNatClampNeg (S.2.2 5))).toInt + (S.2.2 21).toInt) + (S.2.2 22).toInt) + (2 * (S.2.2 20).toInt)) + 1) ≤ (2 * (S.2.2 19).toInt)) from (by have := gx_iC_f h3 (by omega); omega))
      · exact (show (((S.2.2 21).toInt + (S.2.2 22).toInt) + (S.2.2 20).toInt) ≤ (S.2.2 19).toInt from (by have := gx_iC_f h3 (by omega); omega))
      · exact (show 0 ≤ (S.1 6 (Int32.toNatClampNeg (S.2.2 5))).toInt from (by have := gx_iC_f h3 (by omega); omega))
      · exact (show (S.1 6 (Int32.toNatClampNeg (S.2.2 5))).toInt ≤ 7 from (by have := gx_iC_f h3 (by omega); omega))
      · exact (show (S.2.2 25).toInt ≠ 0 from (by have := gx_iC_f h3 (by omega); omega))
      · exact (show (S.1 9 (Int32.toNatClampNeg (S.2.2 5))).toInt = (S.1 9 (Int32.toNatClampNeg (S.2.2 5))).toInt from (by have := gx_iC_f h3 (by omega); omega))
      · exact (show (S.2.2 19).toInt = (S.2.2 19).toInt from (by have := gx_iC_f h3 (by omega); omega))
      · exact (show (S.2.2 20).toInt = (S.2.2 20).toInt from (by have := gx_iC_f h3 (by omega); omega))
      · exact (show (S.2.2 21).toInt = (S.2.2 21).toInt from (by have := gx_iC_f h3 (by omega); omega))
      · exact (show (S.2.2 22).toInt = (S.2.2 22).toInt from (by have := gx_iC_f h3 (by omega); omega))
      · exact (show (S.2.2 23).toInt = (S.2.2 23).toInt from (by have := gx_iC_f h3 (by omega); omega))
      · exact (show 0 ≤ (S.2.2 20).toInt from (by have := gx_iC_f h3 (by omega); omega))
      · exact (show 0 ≤ r1.toInt from (by have := gx_iC_f h3 (by omega); omega))
      · exact (show (r1.toInt = 0) ∨ ((S.2.2 19).toInt < (S.2.2 2).toInt) from (by have := gx_iC_f h3 (by omega); omega))
      · exact (show (S.2.2 25).toInt = (S.2.2 25).toInt from (by have := gx_iC_f h3 (by omega); omega))
      · exact h3
      · exact h4
    · skip
      have h20_ := gx_ltnl (k := 90) (gx_lit 90 (by decide)) h20
      refine gx_ca (Q := gy_q_MD_readPart S) (gy_q_MD_create _ _ _ _) (gy_s_MD_create _ _ _ _ h1 h2 h4 h5 (show (S.1 9 (Int32.toNatClampNeg (S.2.2 5))).toInt ≤ 150 from (by have := gx_iC_f h3 (by omega); omega)) (show (((3 : Int32).toInt = 0) ∨ ((3 : Int32).toInt = 2)) ∨ ((((3 : Int32).toInt = 1) ∧ ((0 ≤ r1.toInt) ∧ ((1 ≤ ((-1) : Int32).toInt) ∧ ((r1.toInt + ((-1) : Int32).toInt) ≤ (S.2.2 2).toInt)))) ∨ ((((3 : Int32).toInt = 3) ∧ ((65 ≤ r1.toInt) ∧ (r1.toInt ≤ 90))) ∨ (((4 ≤ (3 : Int32).toInt) ∧ ((3 : Int32).toInt ≤ 10)) ∧ ((((160 * (S.2.2 5).toInt) ≤ r1.toInt) ∧ (r1.toInt < ((160 * (S.2.2 5).toInt) + (S.1 9 (Int32.toNatClampNeg (S.2.2 5))).toInt))) ∧ ((5 < (3 : Int32).toInt) ∨ (((160 * (S.2.2 5).toInt) ≤ ((-1) : Int32).toInt) ∧ (((-1) : Int32).toInt < ((160 * (S.2.2 5).toInt) + (S.1 9 (Int32.toNatClampNeg (S.2.2 5))).toInt)))))))) from (by have := gx_iC_f h3 (by omega); have : ((-1) : Int32).toInt = -1 := (by decide); have : (3 : Int32).toInt = 3 := gx_lit 3 (by decide); omega)) h15) ?_
      intro r32 u32 h21
      have h21_0 : gm_iS 1 (S.2.2 2) (S.2.2 5) (S.1 6) (S.1 7) (S.1 8) (u32.1 9) (u32.1 10) (u32.1 11) (u32.1 12) (u32.1 13) (S.2.2 21) (S.2.2 22) (S.1 30) (S.1 31) := h21.1
      have h21_1 : ((u32.1 9 (Int32.toNatClampNeg (S.2.2 5))).toInt = ((S.1 9 (Int32.toNatClampNeg (S.2.2 5))).toInt + 1)) ∧ (r32.toInt = ((160 * (S.2.2 5).toInt) + (S.1 9 (Int32.toNatClampNeg (S.2.2 5))).toInt)) := h21.2
      clear h21
      refine gx_ca (Q := gy_q_MD_readPart S) (gy_q_MD_primary _ _) (gy_s_MD_primary _ _ h1 h2 h21_0 (show 0 ≤ (u32.1 9 (Int32.toNatClampNeg (S.2.2 5))).toInt from (by have := gx_iC_f h3 (by omega); omega)) (show (u32.1 9 (Int32.toNatClampNeg (S.2.2 5))).toInt ≤ 145 from (by have := gx_iC_f h3 (by omega); omega)) (show 0 ≤ ((S.2.2 19) + 1).toInt from (by have := gx_iC_f h3 (by omega); have := gx_ak (S.2.2 19) 1 (1) (by decide); omega)) (show ((S.2.2 19) + 1).toInt ≤ (S.2.2 2).toInt from (by have := gx_iC_f h3 (by omega); have := gx_ak (S.2.2 19) 1 (1) (by decide); omega)) h10 (show (S.2.2 21).toInt ≤ 58 from (by have := gx_iC_f h3 (by omega); omega)) (show (160 * (S.2.2 5).toInt) ≤ r32.toInt from (by have := gx_iC_f h3 (by omega); omega)) (show r32.toInt < ((160 * (S.2.2 5).toInt) + (u32.1 9 (Int32.toNatClampNeg (S.2.2 5))).toInt) from (by have := gx_iC_f h3 (by omega); omega)) h15) ?_
      intro r_h22 u35 h22
      have h22_0 : gm_iS 1 (S.2.2 2) (S.2.2 5) (S.1 6) (S.1 7) (S.1 8) (u35.1 9) (u35.1 10) (u35.1 11) (u35.1 12) (u35.1 13) (u35.2.2 21) (S.2.2 22) (u35.1 30) (S.1 31) := h22.1
      have h22_1 : ((u35.2.2 21).toInt = ((S.2.2 21).toInt + 1)) ∧ (((u35.2.2 23).toInt = 0) ∧ ((((S.2.2 19) + 1).toInt ≤ (u35.2.2 19).toInt) ∧ (((u35.2.2 19).toInt ≤ (((S.2.2 19) + 1).toInt + 1)) ∧ (((u35.2.2 19).toInt ≤ (S.2.2 2).toInt) ∧ (((u32.1 9 (Int32.toNatClampNeg (S.2.2 5))).toInt ≤ (u35.1 9 (Int32.toNatClampNeg (S.2.2 5))).toInt) ∧ (((u35.1 9 (Int32.toNatClampNeg (S.2.2 5))).toInt ≤ ((u32.1 9 (Int32.toNatClampNeg (S.2.2 5))).toInt + (2 * ((u35.2.2 19).toInt - ((S.2.2 19) + 1).toInt)))) ∨ (((S.2.2 23).toInt ≠ 0) ∧ ((u35.1 9 (Int32.toNatClampNeg (S.2.2 5))).toInt ≤ (((u32.1 9 (Int32.toNatClampNeg (S.2.2 5))).toInt + (2 * ((u35.2.2 19).toInt - ((S.2.2 19) + 1).toInt))) + 1))))))))) := h22.2
      clear h22
      exact ⟨trivial, ⟨(gx_iC_s h3 (show (S.1 28 (Int32.toNatClampNeg (S.2.2 20))).toInt ≤ (u35.2.2 21).toInt from (by have := gx_iC_f h3 (by omega); have := gx_ak (S.2.2 19) 1 (1) (by decide); omega)) (show (S.1 29 (Int32.toNatClampNeg (S.2.2 20))).toInt ≤ (S.2.2 22).toInt from (by have := gx_iC_f h3 (by omega); have := gx_ak (S.2.2 19) 1 (1) (by decide); omega))), h22_0, (show (((S.2.2 25).toInt ≠ 0) ∨ (((160 * (S.2.2 5).toInt) ≤ (S.1 8 (Int32.toNatClampNeg ((8 * (S.2.2 5)) + (S.1 6 (Int32.toNatClampNeg (S.2.2 5)))))).toInt) ∧ ((S.1 8 (Int32.toNatClampNeg ((8 * (S.2.2 5)) + (S.1 6 (Int32.toNatClampNeg (S.2.2 5)))))).toInt < ((160 * (S.2.2 5).toInt) + (u35.1 9 (Int32.toNatClampNeg (S.2.2 5))).toInt)))) ∧ ((0 ≤ (u35.1 9 (Int32.toNatClampNeg (S.2.2 5))).toInt) ∧ ((0 ≤ (u35.2.2 19).toInt) ∧ (((u35.2.2 19).toInt ≤ (S.2.2 2).toInt) ∧ ((0 ≤ (S.2.2 20).toInt) ∧ (((S.2.2 20).toInt ≤ 6) ∧ ((0 ≤ (u35.2.2 21).toInt) ∧ ((0 ≤ (S.2.2 22).toInt) ∧ ((((((u35.1 9 (Int32.toNatClampNeg (S.2.2 5))).toInt + (u35.2.2 21).toInt) + (S.2.2 22).toInt) + (2 * (S.2.2 20).toInt)) ≤ (2 * (u35.2.2 19).toInt)) ∧ ((((u35.2.2 23).toInt = 0) ∨ ((((((u35.1 9 (Int32.toNatClampNeg (S.2.2 5))).toInt + (u35.2.2 21).toInt) + (S.2.2 22).toInt) + (2 * (S.2.2 20).toInt)) + 1) ≤ (2 * (u35.2.2 19).toInt))) ∧ (((((u35.2.2 21).toInt + (S.2.2 22).toInt) + (S.2.2 20).toInt) ≤ (u35.2.2 19).toInt) ∧ (((S.2.2 19).toInt ≤ (u35.2.2 19).toInt) ∧ (((S.2.2 19).toInt < (u35.2.2 19).toInt) ∨ ((S.2.2 24).toInt ≠ 0))))))))))))) from (by have := gx_iC_f h3 (by omega); have := gx_ad (8 * (S.2.2 5)) (S.1 6 (Int32.toNatClampNeg (S.2.2 5))); have := gx_ak (S.2.2 19) 1 (1) (by decide); have := gx_mk 8 (S.2.2 5) 8 (gx_lit 8 (by decide)); omega))⟩⟩
