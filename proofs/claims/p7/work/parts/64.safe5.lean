abbrev gx_q_Arrays_fill (n : Nat) (x : Int32) (S : gm_S) (z : Int32 × (gm_S)) : Prop := True
set_option maxRecDepth 100000 in
theorem gx_s_Arrays_fill_5 (n : Nat) (x : Int32) (S : gm_S) (h1 : n ≤ 99) : ∀ (n5 : Nat) (v2_5 : Int32) (S_5 : gm_S), (0 ≤ v2_5.toInt) → (v2_5.toInt ≤ n) → (n < (v2_5.toInt + n5)) → gm_p_Arrays_fill_5 n x S n5 v2_5 S_5 ∧ gx_q_Arrays_fill n x S (gm_f_Arrays_fill_5 n x S n5 v2_5 S_5) := by
  intro n5
  induction n5 with
  | zero =>
    intro v2_5 S_5 h2 h3 h4; exfalso; skip; omega
  | succ n5 ih =>
    intro v2_5 S_5 h2 h3 h4
    rw [gm_p_Arrays_fill_5, gm_f_Arrays_fill_5]
    refine gx_if (Q := gx_q_Arrays_fill n x S) (fun h5 => ?_) (fun h5 => ?_)
    · skip
      have h5_ := gx_le h5
      exact ⟨trivial, trivial⟩
    · skip
      have h5_ := gx_len h5
      refine gx_in (Q := gx_q_Arrays_fill n x S) (vp_in_iff.mpr (by have := gx_on n (by omega); omega)) ?_
      refine ih _ _ ?_ ?_ ?_
      · exact (show 0 ≤ (v2_5 + 1).toInt from (by have := gx_ak v2_5 1 (1) (by decide); have := gx_on n (by omega); omega))
      · exact (show (v2_5 + 1).toInt ≤ n from (by have := gx_ak v2_5 1 (1) (by decide); have := gx_on n (by omega); omega))
      · exact (show n < ((v2_5 + 1).toInt + n5) from (by have := gx_ak v2_5 1 (1) (by decide); have := gx_on n (by omega); omega))
set_option maxRecDepth 100000 in
theorem gx_s_Arrays_fill (n : Nat) (x : Int32) (S : gm_S) (h1 : n ≤ 99) : gm_p_Arrays_fill n x S ∧ gx_q_Arrays_fill n x S (gm_f_Arrays_fill n x S) := by
  unfold gm_p_Arrays_fill gm_f_Arrays_fill
  refine gx_s_Arrays_fill_5 _ _ _ ?_ _ _ _ ?_ ?_ ?_
  · exact (show n ≤ 99 from (by omega))
  · exact (show 0 ≤ (0 : Int32).toInt from (by have : (0 : Int32).toInt = 0 := (by decide); omega))
  · exact (show (0 : Int32).toInt ≤ n from (by have : (0 : Int32).toInt = 0 := (by decide); omega))
  · exact (show n < ((0 : Int32).toInt + 100) from (by have : (0 : Int32).toInt = 0 := (by decide); omega))
abbrev gx_q_Memory_forget (S : gm_S × gm_S) (z : Int32 × (gm_S × gm_S)) : Prop := (gm_iN 5720 (z.2.2.2.2 2))
set_option maxRecDepth 100000 in
theorem gx_s_Memory_forget (S : gm_S × gm_S) (h1 : gm_iN 5720 (S.2.2.2 2)) : gm_p_Memory_forget S ∧ gx_q_Memory_forget S (gm_f_Memory_forget S) := by
  unfold gm_p_Memory_forget gm_f_Memory_forget
  refine gx_ca (Q := gx_q_Memory_forget S) (gx_q_Arrays_fill _ _ _) (gx_s_Arrays_fill _ _ _ (show 88 ≤ 99 from (by omega))) ?_
  intro r_h2 u6 h2
  exact ⟨trivial, (show 0 ≤ (0 : Int32).toInt ∧ (0 : Int32).toInt ≤ 5720 from (by have : (0 : Int32).toInt = 0 := (by decide); omega))⟩
abbrev gx_q_Runner_nextIsIn (x : Int32) (S : gm_S × gm_S × gm_S × gm_S × gm_S × gm_S × gm_S) (z : Int32 × (gm_S × gm_S × gm_S × gm_S × gm_S × gm_S × gm_S)) : Prop := True
set_option maxRecDepth 100000 in
theorem gx_s_Runner_nextIsIn (x : Int32) (S : gm_S × gm_S × gm_S × gm_S × gm_S × gm_S × gm_S) (h1 : gm_iN 550 (S.1.2.2 7)) (h2 : gm_iW 10 (S.2.1.2.2 1) (S.2.1.1 0)) (h3 : gm_iN 275 (S.2.2.1.2.2 2)) (h4 : gm_iN 5720 (S.2.2.2.2.1.2.2 2)) (h5 : gm_iN 200 (S.2.2.2.2.2.1.2.2 5)) (h6 : gm_iT (S.2.2.2.2.2.2.2.2 11) (S.2.2.2.2.2.2.2.2 12) (S.2.2.2.2.2.2.2.2 13) (S.2.2.2.2.2.2.1 2) (S.2.2.2.2.2.2.1 3) (S.2.2.2.2.2.2.1 4) (S.2.2.2.2.2.2.1 5) (S.2.2.2.2.2.2.1 10)) : gm_p_Runner_nextIsIn x S ∧ gx_q_Runner_nextIsIn x S (gm_f_Runner_nextIsIn x S) := by
  unfold gm_p_Runner_nextIsIn gm_f_Runner_nextIsIn
  refine gx_ca (Q := gx_q_Runner_nextIsIn x S) (gx_q_Row_at _ _ _) (gx_s_Row_at _ _ _ h2) ?_
  intro r13 u13 h7
  have h7_0 : ((r13.toInt = (-1)) ∨ ((32 ≤ r13.toInt) ∧ (r13.toInt ≤ 126))) ∧ (r13 = (gm_f_Row_at 10 (S.1.2.2 13) S.2.1).1) := h7
  refine gx_ca (Q := gx_q_Runner_nextIsIn x S) (gx_q_Tree_holds _ _ _) (gx_s_Tree_holds _ _ _ h6) ?_
  intro r16 u16 h8
  have h8_0 : (r16 = 0) ∨ (r16 = 1) := h8
  refine gx_in (Q := gx_q_Runner_nextIsIn x S) h8_0 ?_
  exact ⟨trivial, trivial⟩
abbrev gx_q_Runner_pop (S : gm_S × gm_S × gm_S × gm_S × gm_S × gm_S × gm_S) (z : Int32 × (gm_S × gm_S × gm_S × gm_S × gm_S × gm_S × gm_S)) : Prop := (gm_iN 550 (z.2.1.2.2 7)) ∧ ((z.2.1.2.2 7).toInt ≤ 549)
set_option maxRecDepth 100000 in
theorem gx_s_Runner_pop (S : gm_S × gm_S × gm_S × gm_S × gm_S × gm_S × gm_S) (h1 : gm_iN 550 (S.1.2.2 7)) (h2 : gm_iW 10 (S.2.1.2.2 1) (S.2.1.1 0)) (h3 : gm_iN 275 (S.2.2.1.2.2 2)) (h4 : gm_iN 5720 (S.2.2.2.2.1.2.2 2)) (h5 : gm_iN 200 (S.2.2.2.2.2.1.2.2 5)) (h6 : gm_iT (S.2.2.2.2.2.2.2.2 11) (S.2.2.2.2.2.2.2.2 12) (S.2.2.2.2.2.2.2.2 13) (S.2.2.2.2.2.2.1 2) (S.2.2.2.2.2.2.1 3) (S.2.2.2.2.2.2.1 4) (S.2.2.2.2.2.2.1 5) (S.2.2.2.2.2.2.1 10)) : gm_p_Runner_pop S ∧ gx_q_Runner_pop S (gm_f_Runner_pop S) := by
  unfold gm_p_Runner_pop gm_f_Runner_pop
  refine gx_if (Q := gx_q_Runner_pop S) (fun h7 => ?_) (fun h7 => ?_)
  · skip
    have h7_ := gx_ler (k := 0) (by decide) h7
    exact ⟨trivial, ⟨h1, (show (S.1.2.2 7).toInt ≤ 549 from (by omega))⟩⟩
  · skip
    have h7_ := gx_lenr (k := 0) (by decide) h7
    exact ⟨trivial, ⟨(show 0 ≤ ((S.1.2.2 7) - 1).toInt ∧ ((S.1.2.2 7) - 1).toInt ≤ 550 from (by have := gx_sk (S.1.2.2 7) 1 (1) (by decide); omega)), (show ((S.1.2.2 7) - 1).toInt ≤ 549 from (by have := gx_sk (S.1.2.2 7) 1 (1) (by decide); omega))⟩⟩
abbrev gx_q_Runner_push (x : Int32) (y : Int32) (S : gm_S × gm_S × gm_S × gm_S × gm_S × gm_S × gm_S) (z : Int32 × (gm_S × gm_S × gm_S × gm_S × gm_S × gm_S × gm_S)) : Prop := (gm_iN 550 (z.2.1.2.2 7))
set_option maxRecDepth 100000 in
theorem gx_s_Runner_push (x : Int32) (y : Int32) (S : gm_S × gm_S × gm_S × gm_S × gm_S × gm_S × gm_S) (h1 : gm_iN 550 (S.1.2.2 7)) (h2 : gm_iW 10 (S.2.1.2.2 1) (S.2.1.1 0)) (h3 : gm_iN 275 (S.2.2.1.2.2 2)) (h4 : gm_iN 5720 (S.2.2.2.2.1.2.2 2)) (h5 : gm_iN 200 (S.2.2.2.2.2.1.2.2 5)) (h6 : gm_iT (S.2.2.2.2.2.2.2.2 11) (S.2.2.2.2.2.2.2.2 12) (S.2.2.2.2.2.2.2.2 13) (S.2.2.2.2.2.2.1 2) (S.2.2.2.2.2.2.1 3) (S.2.2.2.2.2.2.1 4) (S.2.2.2.2.2.2.1 5) (S.2.2.2.2.2.2.1 10)) : gm_p_Runner_push x y S ∧ gx_q_Runner_push x y S (gm_f_Runner_push x y S) := by
  unfold gm_p_Runner_push gm_f_Runner_push
  refine gx_if (Q := gx_q_Runner_push x y S) (fun h7 => ?_) (fun h7 => ?_)
  · skip
    have h7_ := gx_ltr (k := 550) (gx_lit 550 (by decide)) h7
    refine gx_in (Q := gx_q_Runner_push x y S) (vp_in_iff.mpr (by omega)) ?_
    refine gx_in (Q := gx_q_Runner_push x y S) (vp_in_iff.mpr (by omega)) ?_
    refine gx_in (Q := gx_q_Runner_push x y S) (vp_in_iff.mpr (by omega)) ?_
    refine gx_in (Q := gx_q_Runner_push x y S) (vp_in_iff.mpr (by omega)) ?_
    exact ⟨trivial, (show 0 ≤ ((S.1.2.2 7) + 1).toInt ∧ ((S.1.2.2 7) + 1).toInt ≤ 550 from (by have := gx_ak (S.1.2.2 7) 1 (1) (by decide); omega))⟩
  · skip
    have h7_ := gx_ltnr (k := 550) (gx_lit 550 (by decide)) h7
    exact ⟨trivial, h1⟩
abbrev gx_q_Runner_restore (S : gm_S × gm_S × gm_S × gm_S × gm_S × gm_S × gm_S) (z : Int32 × (gm_S × gm_S × gm_S × gm_S × gm_S × gm_S × gm_S)) : Prop := (gm_iN 275 (z.2.2.2.1.2.2 2))
set_option maxRecDepth 100000 in
theorem gx_s_Runner_restore (S : gm_S × gm_S × gm_S × gm_S × gm_S × gm_S × gm_S) (h1 : gm_iN 550 (S.1.2.2 7)) (h2 : gm_iW 10 (S.2.1.2.2 1) (S.2.1.1 0)) (h3 : gm_iN 275 (S.2.2.1.2.2 2)) (h4 : gm_iN 5720 (S.2.2.2.2.1.2.2 2)) (h5 : gm_iN 200 (S.2.2.2.2.2.1.2.2 5)) (h6 : gm_iT (S.2.2.2.2.2.2.2.2 11) (S.2.2.2.2.2.2.2.2 12) (S.2.2.2.2.2.2.2.2 13) (S.2.2.2.2.2.2.1 2) (S.2.2.2.2.2.2.1 3) (S.2.2.2.2.2.2.1 4) (S.2.2.2.2.2.2.1 5) (S.2.2.2.2.2.2.1 10)) (h7 : (S.1.2.2 7).toInt ≤ 549) : gm_p_Runner_restore S ∧ gx_q_Runner_restore S (gm_f_Runner_restore S) := by
  unfold gm_p_Runner_restore gm_f_Runner_restore
  refine gx_in (Q := gx_q_Runner_restore S) (vp_in_iff.mpr (by omega)) ?_
  refine gx_in (Q := gx_q_Runner_restore S) (vp_in_iff.mpr (by omega)) ?_
  refine gx_ca (Q := gx_q_Runner_restore S) (gx_q_Captures_cutTo _ _ _) (gx_s_Captures_cutTo _ _ _ h3) ?_
  intro r_h8 u26 h8
  have h8_0 : gm_iN 275 (u26.2.2 2) := h8
  exact ⟨trivial, h8_0⟩
abbrev gx_q_Runner_failRule (S : gm_S × gm_S × gm_S × gm_S × gm_S × gm_S × gm_S) (z : Int32 × (gm_S × gm_S × gm_S × gm_S × gm_S × gm_S × gm_S)) : Prop := True
set_option maxRecDepth 100000 in
theorem gx_s_Runner_failRule (S : gm_S × gm_S × gm_S × gm_S × gm_S × gm_S × gm_S) (h1 : gm_iN 550 (S.1.2.2 7)) (h2 : gm_iW 10 (S.2.1.2.2 1) (S.2.1.1 0)) (h3 : gm_iN 275 (S.2.2.1.2.2 2)) (h4 : gm_iN 5720 (S.2.2.2.2.1.2.2 2)) (h5 : gm_iN 200 (S.2.2.2.2.2.1.2.2 5)) (h6 : gm_iT (S.2.2.2.2.2.2.2.2 11) (S.2.2.2.2.2.2.2.2 12) (S.2.2.2.2.2.2.2.2 13) (S.2.2.2.2.2.2.1 2) (S.2.2.2.2.2.2.1 3) (S.2.2.2.2.2.2.1 4) (S.2.2.2.2.2.2.1 5) (S.2.2.2.2.2.2.1 10)) (h7 : (S.1.2.2 7).toInt ≤ 549) : gm_p_Runner_failRule S ∧ gx_q_Runner_failRule S (gm_f_Runner_failRule S) := by
  unfold gm_p_Runner_failRule gm_f_Runner_failRule
  refine gx_if (Q := gx_q_Runner_failRule S) (fun h8 => ?_) (fun h8 => ?_)
  · skip
    have h8_ := gx_eqr (k := 0) (by decide) h8
    refine gx_in (Q := gx_q_Runner_failRule S) (vp_in_iff.mpr (by omega)) ?_
    refine gx_in (Q := gx_q_Runner_failRule S) (vp_in_iff.mpr (by omega)) ?_
    refine gx_ca (Q := gx_q_Runner_failRule S) (gx_q_Memory_keepFailure _ _ _) (gx_s_Memory_keepFailure _ _ _ h4) ?_
    intro r_h9 u29 h9
    exact ⟨trivial, trivial⟩
  · skip
    have h8_ := gx_eqnr (k := 0) (by decide) h8
    exact ⟨trivial, trivial⟩
abbrev gx_q_Runner_fail (S : gm_S × gm_S × gm_S × gm_S × gm_S × gm_S × gm_S) (z : Int32 × (gm_S × gm_S × gm_S × gm_S × gm_S × gm_S × gm_S)) : Prop := (gm_iN 550 (z.2.1.2.2 7)) ∧ (gm_iN 275 (z.2.2.2.1.2.2 2))
set_option maxRecDepth 100000 in
theorem gx_s_Runner_fail_5 (S : gm_S × gm_S × gm_S × gm_S × gm_S × gm_S × gm_S) (h1 : gm_iN 550 (S.1.2.2 7)) (h2 : gm_iW 10 (S.2.1.2.2 1) (S.2.1.1 0)) (h3 : gm_iN 275 (S.2.2.1.2.2 2)) (h4 : gm_iN 5720 (S.2.2.2.2.1.2.2 2)) (h5 : gm_iN 200 (S.2.2.2.2.2.1.2.2 5)) (h6 : gm_iT (S.2.2.2.2.2.2.2.2 11) (S.2.2.2.2.2.2.2.2 12) (S.2.2.2.2.2.2.2.2 13) (S.2.2.2.2.2.2.1 2) (S.2.2.2.2.2.2.1 3) (S.2.2.2.2.2.2.1 4) (S.2.2.2.2.2.2.1 5) (S.2.2.2.2.2.2.1 10)) : ∀ (n5 : Nat) (v1_5 : Int32) (S_5 : gm_S × gm_S × gm_S × gm_S × gm_S × gm_S × gm_S), (gm_iN 550 (S_5.1.2.2 7)) → (gm_iN 275 (S_5.2.2.1.2.2 2)) → (0 ≤ v1_5.toInt) → (v1_5.toInt ≤ 550) → (v1_5.toInt < n5) → gm_p_Runner_fail_5 S n5 v1_5 S_5 ∧ gx_q_Runner_fail S (gm_f_Runner_fail_5 S n5 v1_5 S_5) := by
  intro n5
  induction n5 with
  | zero =>
    intro v1_5 S_5 h7 h8 h9 h10 h11; exfalso; skip; omega
  | succ n5 ih =>
    intro v1_5 S_5 h7 h8 h9 h10 h11
    rw [gm_p_Runner_fail_5, gm_f_Runner_fail_5]
    refine gx_if (Q := gx_q_Runner_fail S) (fun h12 => ?_) (fun h12 => ?_)
    · skip
      have h12_ := gx_ler (k := 0) (by decide) h12
      exact ⟨trivial, ⟨h7, h8⟩⟩
    · skip
      have h12_ := gx_lenr (k := 0) (by decide) h12
      refine gx_ca (Q := gx_q_Runner_fail S) (gx_q_Runner_pop _) (gx_s_Runner_pop _ h7 h2 h8 h4 h5 h6) ?_
      intro r_h13 u10 h13
      have h13_0 : gm_iN 550 (u10.1.2.2 7) := h13.1
      have h13_1 : (u10.1.2.2 7).toInt ≤ 549 := h13.2
      refine gx_in (Q := gx_q_Runner_fail S) (vp_in_iff.mpr (by omega)) ?_
      refine gx_if (Q := gx_q_Runner_fail S) (fun h14 => ?_) (fun h14 => ?_)
      · skip
        clear h14
        refine gx_in (Q := gx_q_Runner_fail S) (vp_in_iff.mpr (by omega)) ?_
        refine gx_if (Q := gx_q_Runner_fail S) (fun h15 => ?_) (fun h15 => ?_)
        · skip
          clear h15
          refine ih _ _ ?_ ?_ ?_ ?_ ?_
          · exact h13_0
          · exact h8
          · exact (show 0 ≤ (v1_5 + (-1)).toInt from (by have e0 := gx_ak v1_5 (-1) (-1) (by decide); generalize (v1_5 + (-1)).toInt = t0 at e0 ⊢; omega))
          · exact (show (v1_5 + (-1)).toInt ≤ 550 from (by have e0 := gx_ak v1_5 (-1) (-1) (by decide); generalize (v1_5 + (-1)).toInt = t0 at e0 ⊢; omega))
          · exact (show (v1_5 + (-1)).toInt < n5 from (by have e0 := gx_ak v1_5 (-1) (-1) (by decide); generalize (v1_5 + (-1)).toInt = t0 at e0 ⊢; omega))
        · skip
          clear h15
          refine gx_ca (Q := gx_q_Runner_fail S) (gx_q_Runner_restore _) (gx_s_Runner_restore _ h13_0 h2 h8 h4 h5 h6 h13_1) ?_
          intro r_h16 u47 h16
          have h16_0 : gm_iN 275 (u47.2.2.1.2.2 2) := h16
          refine gx_in (Q := gx_q_Runner_fail S) (vp_in_iff.mpr (by omega)) ?_
          exact ⟨trivial, ⟨h13_0, h16_0⟩⟩
      · skip
        clear h14
        refine gx_ca (Q := gx_q_Runner_fail S) (gx_q_Runner_failRule _) (gx_s_Runner_failRule _ h13_0 h2 h8 h4 h5 h6 h13_1) ?_
        intro r_h15 u27 h15
        refine ih _ _ ?_ ?_ ?_ ?_ ?_
        · exact h13_0
        · exact h8
        · exact (show 0 ≤ (v1_5 + (-1)).toInt from (by have e0 := gx_ak v1_5 (-1) (-1) (by decide); generalize (v1_5 + (-1)).toInt = t0 at e0 ⊢; omega))
        · exact (show (v1_5 + (-1)).toInt ≤ 550 from (by have e0 := gx_ak v1_5 (-1) (-1) (by decide); generalize (v1_5 + (-1)).toInt = t0 at e0 ⊢; omega))
        · exact (show (v1_5 + (-1)).toInt < n5 from (by have e0 := gx_ak v1_5 (-1) (-1) (by decide); generalize (v1_5 + (-1)).toInt = t0 at e0 ⊢; omega))
set_option maxRecDepth 100000 in
theorem gx_s_Runner_fail (S : gm_S × gm_S × gm_S × gm_S × gm_S × gm_S × gm_S) (h1 : gm_iN 550 (S.1.2.2 7)) (h2 : gm_iW 10 (S.2.1.2.2 1) (S.2.1.1 0)) (h3 : gm_iN 275 (S.2.2.1.2.2 2)) (h4 : gm_iN 5720 (S.2.2.2.2.1.2.2 2)) (h5 : gm_iN 200 (S.2.2.2.2.2.1.2.2 5)) (h6 : gm_iT (S.2.2.2.2.2.2.2.2 11) (S.2.2.2.2.2.2.2.2 12) (S.2.2.2.2.2.2.2.2 13) (S.2.2.2.2.2.2.1 2) (S.2.2.2.2.2.2.1 3) (S.2.2.2.2.2.2.1 4) (S.2.2.2.2.2.2.1 5) (S.2.2.2.2.2.2.1 10)) : gm_p_Runner_fail S ∧ gx_q_Runner_fail S (gm_f_Runner_fail S) := by
  unfold gm_p_Runner_fail gm_f_Runner_fail
  refine gx_s_Runner_fail_5 _ ?_ ?_ ?_ ?_ ?_ ?_ _ _ _ ?_ ?_ ?_ ?_ ?_
  · exact h1
  · exact h2
  · exact h3
  · exact h4
  · exact h5
  · exact h6
  · exact h1
  · exact h3
  · exact (show 0 ≤ (S.1.2.2 7).toInt from (by omega))
  · exact (show (S.1.2.2 7).toInt ≤ 550 from (by omega))
  · exact (show (S.1.2.2 7).toInt < 600 from (by omega))
abbrev gx_q_Runner_takeCharacter (S : gm_S × gm_S × gm_S × gm_S × gm_S × gm_S × gm_S) (z : Int32 × (gm_S × gm_S × gm_S × gm_S × gm_S × gm_S × gm_S)) : Prop := (gm_iN 550 (z.2.1.2.2 7)) ∧ (gm_iN 275 (z.2.2.2.1.2.2 2))
set_option maxRecDepth 100000 in
theorem gx_s_Runner_takeCharacter (S : gm_S × gm_S × gm_S × gm_S × gm_S × gm_S × gm_S) (h1 : gm_iN 550 (S.1.2.2 7)) (h2 : gm_iW 10 (S.2.1.2.2 1) (S.2.1.1 0)) (h3 : gm_iN 275 (S.2.2.1.2.2 2)) (h4 : gm_iN 5720 (S.2.2.2.2.1.2.2 2)) (h5 : gm_iN 200 (S.2.2.2.2.2.1.2.2 5)) (h6 : gm_iT (S.2.2.2.2.2.2.2.2 11) (S.2.2.2.2.2.2.2.2 12) (S.2.2.2.2.2.2.2.2 13) (S.2.2.2.2.2.2.1 2) (S.2.2.2.2.2.2.1 3) (S.2.2.2.2.2.2.1 4) (S.2.2.2.2.2.2.1 5) (S.2.2.2.2.2.2.1 10)) : gm_p_Runner_takeCharacter S ∧ gx_q_Runner_takeCharacter S (gm_f_Runner_takeCharacter S) := by
  unfold gm_p_Runner_takeCharacter gm_f_Runner_takeCharacter
  refine gx_ca (Q := gx_q_Runner_takeCharacter S) (gx_q_Code_operand _ _) (gx_s_Code_operand _ _ h5 h6) ?_
  intro r9 u9 h7
  refine gx_ca (Q := gx_q_Runner_takeCharacter S) (gx_q_Runner_nextIsIn _ _) (gx_s_Runner_nextIsIn _ _ h1 h2 h3 h4 h5 h6) ?_
  intro r12 u12 h8
  refine gx_if (Q := gx_q_Runner_takeCharacter S) (fun h9 => ?_) (fun h9 => ?_)
  · skip
    have h9_ := gx_eqr (k := 0) (by decide) h9
    refine gx_ca (Q := gx_q_Runner_takeCharacter S) (gx_q_Runner_fail _) (gx_s_Runner_fail _ h1 h2 h3 h4 h5 h6) ?_
    intro r_h10 u42 h10
    have h10_0 : gm_iN 550 (u42.1.2.2 7) := h10.1
    have h10_1 : gm_iN 275 (u42.2.2.1.2.2 2) := h10.2
    exact ⟨trivial, ⟨h10_0, h10_1⟩⟩
  · skip
    have h9_ := gx_eqnr (k := 0) (by decide) h9
    exact ⟨trivial, ⟨h1, h3⟩⟩
abbrev gx_q_Runner_look (S : gm_S × gm_S × gm_S × gm_S × gm_S × gm_S × gm_S) (z : Int32 × (gm_S × gm_S × gm_S × gm_S × gm_S × gm_S × gm_S)) : Prop := True
set_option maxRecDepth 100000 in
theorem gx_s_Runner_look (S : gm_S × gm_S × gm_S × gm_S × gm_S × gm_S × gm_S) (h1 : gm_iN 550 (S.1.2.2 7)) (h2 : gm_iW 10 (S.2.1.2.2 1) (S.2.1.1 0)) (h3 : gm_iN 275 (S.2.2.1.2.2 2)) (h4 : gm_iN 5720 (S.2.2.2.2.1.2.2 2)) (h5 : gm_iN 200 (S.2.2.2.2.2.1.2.2 5)) (h6 : gm_iT (S.2.2.2.2.2.2.2.2 11) (S.2.2.2.2.2.2.2.2 12) (S.2.2.2.2.2.2.2.2 13) (S.2.2.2.2.2.2.1 2) (S.2.2.2.2.2.2.1 3) (S.2.2.2.2.2.2.1 4) (S.2.2.2.2.2.2.1 5) (S.2.2.2.2.2.2.1 10)) : gm_p_Runner_look S ∧ gx_q_Runner_look S (gm_f_Runner_look S) := by
  unfold gm_p_Runner_look gm_f_Runner_look
  refine gx_if (Q := gx_q_Runner_look S) (fun h7 => ?_) (fun h7 => ?_)
  · skip
    have h7_ := gx_eqr (k := 0) (by decide) h7
    exact ⟨trivial, trivial⟩
  · skip
    have h7_ := gx_eqnr (k := 0) (by decide) h7
    refine gx_ca (Q := gx_q_Runner_look S) (gx_q_Code_operand _ _) (gx_s_Code_operand _ _ h5 h6) ?_
    intro r16 u16 h8
    refine gx_ca (Q := gx_q_Runner_look S) (gx_q_Runner_nextIsIn _ _) (gx_s_Runner_nextIsIn _ _ h1 h2 h3 h4 h5 h6) ?_
    intro r19 u19 h9
    refine gx_if (Q := gx_q_Runner_look S) (fun h10 => ?_) (fun h10 => ?_)
    · skip
      have h10_ := gx_eqr (k := 0) (by decide) h10
      refine gx_ca (Q := gx_q_Runner_look S) (gx_q_Code_target _ _) (gx_s_Code_target _ _ h5 h6) ?_
      intro r44 u44 h11
      exact ⟨trivial, trivial⟩
    · skip
      have h10_ := gx_eqnr (k := 0) (by decide) h10
      exact ⟨trivial, trivial⟩
abbrev gx_q_Runner_beginTry (S : gm_S × gm_S × gm_S × gm_S × gm_S × gm_S × gm_S) (z : Int32 × (gm_S × gm_S × gm_S × gm_S × gm_S × gm_S × gm_S)) : Prop := (gm_iN 550 (z.2.1.2.2 7))
set_option maxRecDepth 100000 in
theorem gx_s_Runner_beginTry (S : gm_S × gm_S × gm_S × gm_S × gm_S × gm_S × gm_S) (h1 : gm_iN 550 (S.1.2.2 7)) (h2 : gm_iW 10 (S.2.1.2.2 1) (S.2.1.1 0)) (h3 : gm_iN 275 (S.2.2.1.2.2 2)) (h4 : gm_iN 5720 (S.2.2.2.2.1.2.2 2)) (h5 : gm_iN 200 (S.2.2.2.2.2.1.2.2 5)) (h6 : gm_iT (S.2.2.2.2.2.2.2.2 11) (S.2.2.2.2.2.2.2.2 12) (S.2.2.2.2.2.2.2.2 13) (S.2.2.2.2.2.2.1 2) (S.2.2.2.2.2.2.1 3) (S.2.2.2.2.2.2.1 4) (S.2.2.2.2.2.2.1 5) (S.2.2.2.2.2.2.1 10)) : gm_p_Runner_beginTry S ∧ gx_q_Runner_beginTry S (gm_f_Runner_beginTry S) := by
  unfold gm_p_Runner_beginTry gm_f_Runner_beginTry
  refine gx_if (Q := gx_q_Runner_beginTry S) (fun h7 => ?_) (fun h7 => ?_)
  · skip
    have h7_ := gx_eqr (k := 0) (by decide) h7
    refine gx_if (Q := gx_q_Runner_beginTry S) (fun h8 => ?_) (fun h8 => ?_)
    · skip
      have h8_ := gx_eqr (k := 0) (by decide) h8
      refine gx_ca (Q := gx_q_Runner_beginTry S) (gx_q_Code_target _ _) (gx_s_Code_target _ _ h5 h6) ?_
      intro r49 u49 h9
      refine gx_ca (Q := gx_q_Runner_beginTry S) (gx_q_Runner_push _ _ _) (gx_s_Runner_push _ _ _ h1 h2 h3 h4 h5 h6) ?_
      intro r_h10 u53 h10
      have h10_0 : gm_iN 550 (u53.1.2.2 7) := h10
      exact ⟨trivial, h10_0⟩
    · skip
      have h8_ := gx_eqnr (k := 0) (by decide) h8
      refine gx_ca (Q := gx_q_Runner_beginTry S) (gx_q_Code_target _ _) (gx_s_Code_target _ _ h5 h6) ?_
      intro r49 u49 h9
      refine gx_ca (Q := gx_q_Runner_beginTry S) (gx_q_Runner_push _ _ _) (gx_s_Runner_push _ _ _ h1 h2 h3 h4 h5 h6) ?_
      intro r_h10 u53 h10
      have h10_0 : gm_iN 550 (u53.1.2.2 7) := h10
      exact ⟨trivial, h10_0⟩
  · skip
    have h7_ := gx_eqnr (k := 0) (by decide) h7
    refine gx_if (Q := gx_q_Runner_beginTry S) (fun h8 => ?_) (fun h8 => ?_)
    · skip
      have h8_ := gx_ltr (k := 1000) (gx_lit 1000 (by decide)) h8
      refine gx_if (Q := gx_q_Runner_beginTry S) (fun h9 => ?_) (fun h9 => ?_)
      · skip
        have h9_ := gx_eqr (k := 0) (by decide) h9
        refine gx_ca (Q := gx_q_Runner_beginTry S) (gx_q_Code_target _ _) (gx_s_Code_target _ _ h5 h6) ?_
        intro r49 u49 h10
        refine gx_ca (Q := gx_q_Runner_beginTry S) (gx_q_Runner_push _ _ _) (gx_s_Runner_push _ _ _ h1 h2 h3 h4 h5 h6) ?_
        intro r_h11 u53 h11
        have h11_0 : gm_iN 550 (u53.1.2.2 7) := h11
        exact ⟨trivial, h11_0⟩
      · skip
        have h9_ := gx_eqnr (k := 0) (by decide) h9
        refine gx_ca (Q := gx_q_Runner_beginTry S) (gx_q_Code_target _ _) (gx_s_Code_target _ _ h5 h6) ?_
        intro r49 u49 h10
        refine gx_ca (Q := gx_q_Runner_beginTry S) (gx_q_Runner_push _ _ _) (gx_s_Runner_push _ _ _ h1 h2 h3 h4 h5 h6) ?_
        intro r_h11 u53 h11
        have h11_0 : gm_iN 550 (u53.1.2.2 7) := h11
        exact ⟨trivial, h11_0⟩
    · skip
      have h8_ := gx_ltnr (k := 1000) (gx_lit 1000 (by decide)) h8
      exact ⟨trivial, h1⟩
abbrev gx_q_Runner_callRule (x : Int32) (S : gm_S × gm_S × gm_S × gm_S × gm_S × gm_S × gm_S) (z : Int32 × (gm_S × gm_S × gm_S × gm_S × gm_S × gm_S × gm_S)) : Prop := (gm_iN 550 (z.2.1.2.2 7)) ∧ (gm_iN 275 (z.2.2.2.1.2.2 2))
set_option maxRecDepth 100000 in
theorem gx_s_Runner_callRule (x : Int32) (S : gm_S × gm_S × gm_S × gm_S × gm_S × gm_S × gm_S) (h1 : gm_iN 550 (S.1.2.2 7)) (h2 : gm_iW 10 (S.2.1.2.2 1) (S.2.1.1 0)) (h3 : gm_iN 275 (S.2.2.1.2.2 2)) (h4 : gm_iN 5720 (S.2.2.2.2.1.2.2 2)) (h5 : gm_iN 200 (S.2.2.2.2.2.1.2.2 5)) (h6 : gm_iT (S.2.2.2.2.2.2.2.2 11) (S.2.2.2.2.2.2.2.2 12) (S.2.2.2.2.2.2.2.2 13) (S.2.2.2.2.2.2.1 2) (S.2.2.2.2.2.2.1 3) (S.2.2.2.2.2.2.1 4) (S.2.2.2.2.2.2.1 5) (S.2.2.2.2.2.2.1 10)) : gm_p_Runner_callRule x S ∧ gx_q_Runner_callRule x S (gm_f_Runner_callRule x S) := by
  unfold gm_p_Runner_callRule gm_f_Runner_callRule
  refine gx_if (Q := gx_q_Runner_callRule x S) (fun h7 => ?_) (fun h7 => ?_)
  · skip
    have h7_ := gx_eqr (k := 0) (by decide) h7
    refine gx_ca (Q := gx_q_Runner_callRule x S) (gx_q_Memory_result _ _ _) (gx_s_Memory_result _ _ _ h4) ?_
    intro r21 u21 h8
    refine gx_if (Q := gx_q_Runner_callRule x S) (fun h9 => ?_) (fun h9 => ?_)
    · skip
      have h9_ := gx_eqr (k := -1) (by decide) h9
      refine gx_ca (Q := gx_q_Runner_callRule x S) (gx_q_Runner_fail _) (gx_s_Runner_fail _ h1 h2 h3 h4 h5 h6) ?_
      intro r_h10 u31 h10
      have h10_0 : gm_iN 550 (u31.1.2.2 7) := h10.1
      have h10_1 : gm_iN 275 (u31.2.2.1.2.2 2) := h10.2
      exact ⟨trivial, ⟨h10_0, h10_1⟩⟩
    · skip
      have h9_ := gx_eqnr (k := -1) (by decide) h9
      refine gx_if (Q := gx_q_Runner_callRule x S) (fun h10 => ?_) (fun h10 => ?_)
      · skip
        have h10_ := gx_eqr (k := -2) (by decide) h10
        refine gx_if (Q := gx_q_Runner_callRule x S) (fun h11 => ?_) (fun h11 => ?_)
        · skip
          have h11_ := gx_eqr (k := 0) (by decide) h11
          refine gx_ca (Q := gx_q_Runner_callRule x S) (gx_q_Runner_push _ _ _) (gx_s_Runner_push _ _ _ h1 h2 h3 h4 h5 h6) ?_
          intro r_h12 u68 h12
          have h12_0 : gm_iN 550 (u68.1.2.2 7) := h12
          refine gx_ca (Q := gx_q_Runner_callRule x S) (gx_q_Code_start _ _) (gx_s_Code_start _ _ h5 h6) ?_
          intro r77 u77 h13
          exact ⟨trivial, ⟨h12_0, h3⟩⟩
        · skip
          have h11_ := gx_eqnr (k := 0) (by decide) h11
          refine gx_ca (Q := gx_q_Runner_callRule x S) (gx_q_Runner_push _ _ _) (gx_s_Runner_push _ _ _ h1 h2 h3 h4 h5 h6) ?_
          intro r_h12 u68 h12
          have h12_0 : gm_iN 550 (u68.1.2.2 7) := h12
          refine gx_ca (Q := gx_q_Runner_callRule x S) (gx_q_Code_start _ _) (gx_s_Code_start _ _ h5 h6) ?_
          intro r77 u77 h13
          exact ⟨trivial, ⟨h12_0, h3⟩⟩
      · skip
        have h10_ := gx_eqnr (k := -2) (by decide) h10
        refine gx_ca (Q := gx_q_Runner_callRule x S) (gx_q_Memory_recallCaptures _ _ _) (gx_s_Memory_recallCaptures _ _ _ h4 h3) ?_
        intro r_h11 u99 h11
        have h11_0 : gm_iN 275 (u99.2.2.2.2 2) := h11
        exact ⟨trivial, ⟨h1, h11_0⟩⟩
  · skip
    have h7_ := gx_eqnr (k := 0) (by decide) h7
    refine gx_if (Q := gx_q_Runner_callRule x S) (fun h8 => ?_) (fun h8 => ?_)
    · skip
      have h8_ := gx_eqr (k := 0) (by decide) h8
      refine gx_ca (Q := gx_q_Runner_callRule x S) (gx_q_Runner_push _ _ _) (gx_s_Runner_push _ _ _ h1 h2 h3 h4 h5 h6) ?_
      intro r_h9 u68 h9
      have h9_0 : gm_iN 550 (u68.1.2.2 7) := h9
      refine gx_ca (Q := gx_q_Runner_callRule x S) (gx_q_Code_start _ _) (gx_s_Code_start _ _ h5 h6) ?_
      intro r77 u77 h10
      exact ⟨trivial, ⟨h9_0, h3⟩⟩
    · skip
      have h8_ := gx_eqnr (k := 0) (by decide) h8
      refine gx_ca (Q := gx_q_Runner_callRule x S) (gx_q_Runner_push _ _ _) (gx_s_Runner_push _ _ _ h1 h2 h3 h4 h5 h6) ?_
      intro r_h9 u68 h9
      have h9_0 : gm_iN 550 (u68.1.2.2 7) := h9
      refine gx_ca (Q := gx_q_Runner_callRule x S) (gx_q_Code_start _ _) (gx_s_Code_start _ _ h5 h6) ?_
      intro r77 u77 h10
      exact ⟨trivial, ⟨h9_0, h3⟩⟩
abbrev gx_q_Runner_returnFromRule (S : gm_S × gm_S × gm_S × gm_S × gm_S × gm_S × gm_S) (z : Int32 × (gm_S × gm_S × gm_S × gm_S × gm_S × gm_S × gm_S)) : Prop := (gm_iN 550 (z.2.1.2.2 7)) ∧ (gm_iN 5720 (z.2.2.2.2.2.1.2.2 2))
set_option maxRecDepth 100000 in
theorem gx_s_Runner_returnFromRule (S : gm_S × gm_S × gm_S × gm_S × gm_S × gm_S × gm_S) (h1 : gm_iN 550 (S.1.2.2 7)) (h2 : gm_iW 10 (S.2.1.2.2 1) (S.2.1.1 0)) (h3 : gm_iN 275 (S.2.2.1.2.2 2)) (h4 : gm_iN 5720 (S.2.2.2.2.1.2.2 2)) (h5 : gm_iN 200 (S.2.2.2.2.2.1.2.2 5)) (h6 : gm_iT (S.2.2.2.2.2.2.2.2 11) (S.2.2.2.2.2.2.2.2 12) (S.2.2.2.2.2.2.2.2 13) (S.2.2.2.2.2.2.1 2) (S.2.2.2.2.2.2.1 3) (S.2.2.2.2.2.2.1 4) (S.2.2.2.2.2.2.1 5) (S.2.2.2.2.2.2.1 10)) : gm_p_Runner_returnFromRule S ∧ gx_q_Runner_returnFromRule S (gm_f_Runner_returnFromRule S) := by
  unfold gm_p_Runner_returnFromRule gm_f_Runner_returnFromRule
  refine gx_ca (Q := gx_q_Runner_returnFromRule S) (gx_q_Runner_pop _) (gx_s_Runner_pop _ h1 h2 h3 h4 h5 h6) ?_
  intro r_h7 u1 h7
  have h7_0 : gm_iN 550 (u1.1.2.2 7) := h7.1
  have h7_1 : (u1.1.2.2 7).toInt ≤ 549 := h7.2
  refine gx_if (Q := gx_q_Runner_returnFromRule S) (fun h8 => ?_) (fun h8 => ?_)
  · skip
    have h8_ := gx_eqr (k := 0) (by decide) h8
    refine gx_in (Q := gx_q_Runner_returnFromRule S) (vp_in_iff.mpr (by omega)) ?_
    refine gx_in (Q := gx_q_Runner_returnFromRule S) (vp_in_iff.mpr (by omega)) ?_
    refine gx_in (Q := gx_q_Runner_returnFromRule S) (vp_in_iff.mpr (by omega)) ?_
    refine gx_ca (Q := gx_q_Runner_returnFromRule S) (gx_q_Memory_keepMatch _ _ _ _ _) (gx_s_Memory_keepMatch _ _ _ _ _ h4 h3) ?_
    intro r_h9 u50 h9
    have h9_0 : gm_iN 5720 (u50.2.1.2.2 2) := h9
    refine gx_in (Q := gx_q_Runner_returnFromRule S) (vp_in_iff.mpr (by omega)) ?_
    exact ⟨trivial, ⟨h7_0, h9_0⟩⟩
  · skip
    have h8_ := gx_eqnr (k := 0) (by decide) h8
    refine gx_in (Q := gx_q_Runner_returnFromRule S) (vp_in_iff.mpr (by omega)) ?_
    exact ⟨trivial, ⟨h7_0, h4⟩⟩
abbrev gx_q_Runner_step (S : gm_S × gm_S × gm_S × gm_S × gm_S × gm_S × gm_S) (z : Int32 × (gm_S × gm_S × gm_S × gm_S × gm_S × gm_S × gm_S)) : Prop := (gm_iN 550 (z.2.1.2.2 7)) ∧ (gm_iN 275 (z.2.2.2.1.2.2 2)) ∧ (gm_iN 5720 (z.2.2.2.2.2.1.2.2 2))
set_option maxRecDepth 100000 in
theorem gx_s_Runner_step (S : gm_S × gm_S × gm_S × gm_S × gm_S × gm_S × gm_S) (h1 : gm_iN 550 (S.1.2.2 7)) (h2 : gm_iW 10 (S.2.1.2.2 1) (S.2.1.1 0)) (h3 : gm_iN 275 (S.2.2.1.2.2 2)) (h4 : gm_iN 5720 (S.2.2.2.2.1.2.2 2)) (h5 : gm_iN 200 (S.2.2.2.2.2.1.2.2 5)) (h6 : gm_iT (S.2.2.2.2.2.2.2.2 11) (S.2.2.2.2.2.2.2.2 12) (S.2.2.2.2.2.2.2.2 13) (S.2.2.2.2.2.2.1 2) (S.2.2.2.2.2.2.1 3) (S.2.2.2.2.2.2.1 4) (S.2.2.2.2.2.2.1 5) (S.2.2.2.2.2.2.1 10)) : gm_p_Runner_step S ∧ gx_q_Runner_step S (gm_f_Runner_step S) := by
  unfold gm_p_Runner_step gm_f_Runner_step
  refine gx_ca (Q := gx_q_Runner_step S) (gx_q_Code_operation _ _) (gx_s_Code_operation _ _ h5 h6) ?_
  intro r8 u8 h7
  refine gx_if (Q := gx_q_Runner_step S) (fun h8 => ?_) (fun h8 => ?_)
  · skip
    have h8_ := gx_eqr (k := 0) (by decide) h8
    refine gx_ca (Q := gx_q_Runner_step S) (gx_q_Runner_takeCharacter _) (gx_s_Runner_takeCharacter _ h1 h2 h3 h4 h5 h6) ?_
    intro r_h9 u73 h9
    have h9_0 : gm_iN 550 (u73.1.2.2 7) := h9.1
    have h9_1 : gm_iN 275 (u73.2.2.1.2.2 2) := h9.2
    exact ⟨trivial, ⟨h9_0, h9_1, h4⟩⟩
  · skip
    have h8_ := gx_eqnr (k := 0) (by decide) h8
    refine gx_if (Q := gx_q_Runner_step S) (fun h9 => ?_) (fun h9 => ?_)
    · skip
      have h9_ := gx_eqr (k := 1) (by decide) h9
      refine gx_ca (Q := gx_q_Runner_step S) (gx_q_Runner_look _) (gx_s_Runner_look _ h1 h2 h3 h4 h5 h6) ?_
      intro r_h10 u80 h10
      exact ⟨trivial, ⟨h1, h3, h4⟩⟩
    · skip
      have h9_ := gx_eqnr (k := 1) (by decide) h9
      refine gx_if (Q := gx_q_Runner_step S) (fun h10 => ?_) (fun h10 => ?_)
      · skip
        have h10_ := gx_eqr (k := 2) (gx_lit 2 (by decide)) h10
        refine gx_ca (Q := gx_q_Runner_step S) (gx_q_Runner_beginTry _) (gx_s_Runner_beginTry _ h1 h2 h3 h4 h5 h6) ?_
        intro r_h11 u87 h11
        have h11_0 : gm_iN 550 (u87.1.2.2 7) := h11
        exact ⟨trivial, ⟨h11_0, h3, h4⟩⟩
      · skip
        have h10_ := gx_eqnr (k := 2) (gx_lit 2 (by decide)) h10
        refine gx_if (Q := gx_q_Runner_step S) (fun h11 => ?_) (fun h11 => ?_)
        · skip
          have h11_ := gx_eqr (k := 3) (gx_lit 3 (by decide)) h11
          refine gx_ca (Q := gx_q_Runner_step S) (gx_q_Runner_push _ _ _) (gx_s_Runner_push _ _ _ h1 h2 h3 h4 h5 h6) ?_
          intro r_h12 u96 h12
          have h12_0 : gm_iN 550 (u96.1.2.2 7) := h12
          exact ⟨trivial, ⟨h12_0, h3, h4⟩⟩
        · skip
          have h11_ := gx_eqnr (k := 3) (gx_lit 3 (by decide)) h11
          refine gx_if (Q := gx_q_Runner_step S) (fun h12 => ?_) (fun h12 => ?_)
          · skip
            have h12_ := gx_eqr (k := 4) (gx_lit 4 (by decide)) h12
            refine gx_ca (Q := gx_q_Runner_step S) (gx_q_Code_target _ _) (gx_s_Code_target _ _ h5 h6) ?_
            intro r121 u121 h13
            exact ⟨trivial, ⟨h1, h3, h4⟩⟩
          · skip
            have h12_ := gx_eqnr (k := 4) (gx_lit 4 (by decide)) h12
            refine gx_if (Q := gx_q_Runner_step S) (fun h13 => ?_) (fun h13 => ?_)
            · skip
              have h13_ := gx_eqr (k := 5) (gx_lit 5 (by decide)) h13
              refine gx_ca (Q := gx_q_Runner_step S) (gx_q_Runner_pop _) (gx_s_Runner_pop _ h1 h2 h3 h4 h5 h6) ?_
              intro r_h14 u131 h14
              have h14_0 : gm_iN 550 (u131.1.2.2 7) := h14.1
              have h14_1 : (u131.1.2.2 7).toInt ≤ 549 := h14.2
              refine gx_ca (Q := gx_q_Runner_step S) (gx_q_Code_target _ _) (gx_s_Code_target _ _ h5 h6) ?_
              intro r143 u143 h15
              exact ⟨trivial, ⟨h14_0, h3, h4⟩⟩
            · skip
              have h13_ := gx_eqnr (k := 5) (gx_lit 5 (by decide)) h13
              refine gx_if (Q := gx_q_Runner_step S) (fun h14 => ?_) (fun h14 => ?_)
              · skip
                have h14_ := gx_eqr (k := 6) (gx_lit 6 (by decide)) h14
                refine gx_ca (Q := gx_q_Runner_step S) (gx_q_Runner_pop _) (gx_s_Runner_pop _ h1 h2 h3 h4 h5 h6) ?_
                intro r_h15 u153 h15
                have h15_0 : gm_iN 550 (u153.1.2.2 7) := h15.1
                have h15_1 : (u153.1.2.2 7).toInt ≤ 549 := h15.2
                refine gx_ca (Q := gx_q_Runner_step S) (gx_q_Runner_restore _) (gx_s_Runner_restore _ h15_0 h2 h3 h4 h5 h6 h15_1) ?_
                intro r_h16 u157 h16
                have h16_0 : gm_iN 275 (u157.2.2.1.2.2 2) := h16
                exact ⟨trivial, ⟨h15_0, h16_0, h4⟩⟩
              · skip
                have h14_ := gx_eqnr (k := 6) (gx_lit 6 (by decide)) h14
                refine gx_if (Q := gx_q_Runner_step S) (fun h15 => ?_) (fun h15 => ?_)
                · skip
                  have h15_ := gx_eqr (k := 7) (gx_lit 7 (by decide)) h15
                  refine gx_ca (Q := gx_q_Runner_step S) (gx_q_Runner_pop _) (gx_s_Runner_pop _ h1 h2 h3 h4 h5 h6) ?_
                  intro r_h16 u174 h16
                  have h16_0 : gm_iN 550 (u174.1.2.2 7) := h16.1
                  have h16_1 : (u174.1.2.2 7).toInt ≤ 549 := h16.2
                  refine gx_ca (Q := gx_q_Runner_step S) (gx_q_Runner_fail _) (gx_s_Runner_fail _ h16_0 h2 h3 h4 h5 h6) ?_
                  intro r_h17 u178 h17
                  have h17_0 : gm_iN 550 (u178.1.2.2 7) := h17.1
                  have h17_1 : gm_iN 275 (u178.2.2.1.2.2 2) := h17.2
                  exact ⟨trivial, ⟨h17_0, h17_1, h4⟩⟩
                · skip
                  have h15_ := gx_eqnr (k := 7) (gx_lit 7 (by decide)) h15
                  refine gx_if (Q := gx_q_Runner_step S) (fun h16 => ?_) (fun h16 => ?_)
                  · skip
                    have h16_ := gx_eqr (k := 8) (gx_lit 8 (by decide)) h16
                    refine gx_ca (Q := gx_q_Runner_step S) (gx_q_Code_operand _ _) (gx_s_Code_operand _ _ h5 h6) ?_
                    intro r193 u193 h17
                    refine gx_ca (Q := gx_q_Runner_step S) (gx_q_Runner_callRule _ _) (gx_s_Runner_callRule _ _ h1 h2 h3 h4 h5 h6) ?_
                    intro r_h18 u196 h18
                    have h18_0 : gm_iN 550 (u196.1.2.2 7) := h18.1
                    have h18_1 : gm_iN 275 (u196.2.2.1.2.2 2) := h18.2
                    exact ⟨trivial, ⟨h18_0, h18_1, h4⟩⟩
                  · skip
                    have h16_ := gx_eqnr (k := 8) (gx_lit 8 (by decide)) h16
                    refine gx_if (Q := gx_q_Runner_step S) (fun h17 => ?_) (fun h17 => ?_)
                    · skip
                      have h17_ := gx_eqr (k := 9) (gx_lit 9 (by decide)) h17
                      refine gx_ca (Q := gx_q_Runner_step S) (gx_q_Runner_returnFromRule _) (gx_s_Runner_returnFromRule _ h1 h2 h3 h4 h5 h6) ?_
                      intro r_h18 u203 h18
                      have h18_0 : gm_iN 550 (u203.1.2.2 7) := h18.1
                      have h18_1 : gm_iN 5720 (u203.2.2.2.2.1.2.2 2) := h18.2
                      exact ⟨trivial, ⟨h18_0, h3, h18_1⟩⟩
                    · skip
                      have h17_ := gx_eqnr (k := 9) (gx_lit 9 (by decide)) h17
                      refine gx_if (Q := gx_q_Runner_step S) (fun h18 => ?_) (fun h18 => ?_)
                      · skip
                        have h18_ := gx_eqr (k := 10) (gx_lit 10 (by decide)) h18
                        refine gx_ca (Q := gx_q_Runner_step S) (gx_q_Captures_add _ _ _ _) (gx_s_Captures_add _ _ _ _ h3 (show 275 ≤ 5720 from (by omega))) ?_
                        intro r_h19 u218 h19
                        have h19_0 : gm_iN 275 (u218.2.2 2) := h19
                        exact ⟨trivial, ⟨h1, h19_0, h4⟩⟩
                      · skip
                        have h18_ := gx_eqnr (k := 10) (gx_lit 10 (by decide)) h18
                        refine gx_if (Q := gx_q_Runner_step S) (fun h19 => ?_) (fun h19 => ?_)
                        · skip
                          have h19_ := gx_eqr (k := 11) (gx_lit 11 (by decide)) h19
                          refine gx_ca (Q := gx_q_Runner_step S) (gx_q_Captures_closeLatest _ _ _) (gx_s_Captures_closeLatest _ _ _ h3 (show 275 ≤ 5720 from (by omega))) ?_
                          intro r_h20 u242 h20
                          exact ⟨trivial, ⟨h1, h3, h4⟩⟩
                        · skip
                          have h19_ := gx_eqnr (k := 11) (gx_lit 11 (by decide)) h19
                          exact ⟨trivial, ⟨h1, h3, h4⟩⟩
abbrev gx_q_Runner_begin (x : Int32) (S : gm_S × gm_S × gm_S × gm_S × gm_S) (z : Int32 × (gm_S × gm_S × gm_S × gm_S × gm_S)) : Prop := (gm_iN 550 (z.2.1.2.2 7)) ∧ (gm_iN 275 (z.2.2.1.2.2 2)) ∧ (gm_iN 5720 (z.2.2.2.2.1.2.2 2))
set_option maxRecDepth 100000 in
theorem gx_s_Runner_begin (x : Int32) (S : gm_S × gm_S × gm_S × gm_S × gm_S) (h1 : gm_iN 550 (S.1.2.2 7)) (h2 : gm_iN 275 (S.2.1.2.2 2)) (h3 : gm_iN 5720 (S.2.2.2.1.2.2 2)) (h4 : (x = 0) ∨ (x = 1)) : gm_p_Runner_begin x S ∧ gx_q_Runner_begin x S (gm_f_Runner_begin x S) := by
  unfold gm_p_Runner_begin gm_f_Runner_begin
  refine gx_in (Q := gx_q_Runner_begin x S) h4 ?_
  refine gx_ca (Q := gx_q_Runner_begin x S) (gx_q_Memory_forget _) (gx_s_Memory_forget _ h3) ?_
  intro r_h5 u33 h5
  have h5_0 : gm_iN 5720 (u33.2.2.2 2) := h5
  exact ⟨trivial, ⟨(show 0 ≤ (0 : Int32).toInt ∧ (0 : Int32).toInt ≤ 550 from (by have : (0 : Int32).toInt = 0 := (by decide); omega)), (show 0 ≤ (0 : Int32).toInt ∧ (0 : Int32).toInt ≤ 275 from (by have : (0 : Int32).toInt = 0 := (by decide); omega)), h5_0⟩⟩
abbrev gx_q_Runner_run (x : Int32) (S : gm_S × gm_S × gm_S × gm_S × gm_S × gm_S × gm_S × gm_S) (z : Int32 × (gm_S × gm_S × gm_S × gm_S × gm_S × gm_S × gm_S × gm_S)) : Prop := (gm_iN 550 (z.2.1.2.2 7)) ∧ (gm_iN 275 (z.2.2.2.1.2.2 2)) ∧ (gm_iN 5720 (z.2.2.2.2.2.1.2.2 2))
set_option maxRecDepth 100000 in
theorem gx_s_Runner_run_8 (x : Int32) (S : gm_S × gm_S × gm_S × gm_S × gm_S × gm_S × gm_S × gm_S) (u3 : gm_S × gm_S × gm_S × gm_S × gm_S) (h1 : gm_iN 550 (S.1.2.2 7)) (h2 : gm_iW 10 (S.2.1.2.2 1) (S.2.1.1 0)) (h3 : gm_iN 275 (S.2.2.1.2.2 2)) (h4 : gm_iN 5720 (S.2.2.2.2.1.2.2 2)) (h5 : gm_iN 200 (S.2.2.2.2.2.2.1.2.2 5)) (h6 : gm_iT (S.2.2.2.2.2.2.2.2.2 11) (S.2.2.2.2.2.2.2.2.2 12) (S.2.2.2.2.2.2.2.2.2 13) (S.2.2.2.2.2.2.2.1 2) (S.2.2.2.2.2.2.2.1 3) (S.2.2.2.2.2.2.2.1 4) (S.2.2.2.2.2.2.2.1 5) (S.2.2.2.2.2.2.2.1 10)) (h7 : (x = 0) ∨ (x = 1)) : ∀ (n8 : Nat) (v3_8 : Int32) (S_8 : gm_S × gm_S × gm_S × gm_S × gm_S × gm_S × gm_S × gm_S), (gm_iN 550 (S_8.1.2.2 7)) → (gm_iN 275 (S_8.2.2.1.2.2 2)) → (gm_iN 5720 (S_8.2.2.2.2.1.2.2 2)) → (0 ≤ v3_8.toInt) → (v3_8.toInt ≤ 1000000000) → (1000000000 < v3_8.toInt + n8) → gm_p_Runner_run_8 x S u3 n8 v3_8 S_8 ∧ gx_q_Runner_run x S (gm_f_Runner_run_8 x S u3 n8 v3_8 S_8) := by
  intro n8
  induction n8 with
  | zero =>
    intro v3_8 S_8 h8 h9 h10 h11 h12 h13; exfalso; skip; omega
  | succ n8 ih =>
    intro v3_8 S_8 h8 h9 h10 h11 h12 h13
    rw [gm_p_Runner_run_8, gm_f_Runner_run_8]
    refine gx_if (Q := gx_q_Runner_run x S) (fun h14 => ?_) (fun h14 => ?_)
    · skip
      have h14_ := gx_lel (k := 1000000000) (gx_lit 1000000000 (by decide)) h14
      refine gx_if (Q := gx_q_Runner_run x S) (fun h15 => ?_) (fun h15 => ?_)
      · skip
        have h15_ := gx_eqr (k := 1) (by decide) h15
        exact ⟨trivial, ⟨h8, h9, h10⟩⟩
      · skip
        have h15_ := gx_eqnr (k := 1) (by decide) h15
        refine gx_if (Q := gx_q_Runner_run x S) (fun h16 => ?_) (fun h16 => ?_)
        · skip
          have h16_ := gx_eqr (k := 2) (gx_lit 2 (by decide)) h16
          exact ⟨trivial, ⟨h8, (show 0 ≤ (0 : Int32).toInt ∧ (0 : Int32).toInt ≤ 275 from (by have : (0 : Int32).toInt = 0 := (by decide); omega)), h10⟩⟩
        · skip
          have h16_ := gx_eqnr (k := 2) (gx_lit 2 (by decide)) h16
          exact ⟨trivial, ⟨h8, (show 0 ≤ (0 : Int32).toInt ∧ (0 : Int32).toInt ≤ 275 from (by have : (0 : Int32).toInt = 0 := (by decide); omega)), h10⟩⟩
    · skip
      have h14_ := gx_lenl (k := 1000000000) (gx_lit 1000000000 (by decide)) h14
      refine gx_if (Q := gx_q_Runner_run x S) (fun h15 => ?_) (fun h15 => ?_)
      · skip
        have h15_ := gx_eqr (k := 0) (by decide) h15
        refine gx_ca (Q := gx_q_Runner_run x S) (gx_q_Runner_step _) (gx_s_Runner_step _ h8 h2 h9 h10 h5 h6) ?_
        intro r_h16 u22 h16
        have h16_0 : gm_iN 550 (u22.1.2.2 7) := h16.1
        have h16_1 : gm_iN 275 (u22.2.2.1.2.2 2) := h16.2.1
        have h16_2 : gm_iN 5720 (u22.2.2.2.2.1.2.2 2) := h16.2.2
        refine ih _ _ ?_ ?_ ?_ ?_ ?_ ?_
        · exact h16_0
        · exact h16_1
        · exact h16_2
        · exact (show 0 ≤ (v3_8 + 1).toInt from (by have := gx_ak v3_8 1 (1) (by decide); omega))
        · exact (show (v3_8 + 1).toInt ≤ 1000000000 from (by have := gx_ak v3_8 1 (1) (by decide); omega))
        · exact (show 1000000000 < ((v3_8 + 1).toInt + n8) from (by have := gx_ak v3_8 1 (1) (by decide); omega))
      · skip
        have h15_ := gx_eqnr (k := 0) (by decide) h15
        refine gx_if (Q := gx_q_Runner_run x S) (fun h16 => ?_) (fun h16 => ?_)
        · skip
          have h16_ := gx_eqr (k := 1) (by decide) h16
          exact ⟨trivial, ⟨h8, h9, h10⟩⟩
        · skip
          have h16_ := gx_eqnr (k := 1) (by decide) h16
          refine gx_if (Q := gx_q_Runner_run x S) (fun h17 => ?_) (fun h17 => ?_)
          · skip
            have h17_ := gx_eqr (k := 2) (gx_lit 2 (by decide)) h17
            exact ⟨trivial, ⟨h8, (show 0 ≤ (0 : Int32).toInt ∧ (0 : Int32).toInt ≤ 275 from (by have : (0 : Int32).toInt = 0 := (by decide); omega)), h10⟩⟩
          · skip
            have h17_ := gx_eqnr (k := 2) (gx_lit 2 (by decide)) h17
            exact ⟨trivial, ⟨h8, (show 0 ≤ (0 : Int32).toInt ∧ (0 : Int32).toInt ≤ 275 from (by have : (0 : Int32).toInt = 0 := (by decide); omega)), h10⟩⟩
set_option maxRecDepth 100000 in
theorem gx_s_Runner_run (x : Int32) (S : gm_S × gm_S × gm_S × gm_S × gm_S × gm_S × gm_S × gm_S) (h1 : gm_iN 550 (S.1.2.2 7)) (h2 : gm_iW 10 (S.2.1.2.2 1) (S.2.1.1 0)) (h3 : gm_iN 275 (S.2.2.1.2.2 2)) (h4 : gm_iN 5720 (S.2.2.2.2.1.2.2 2)) (h5 : gm_iN 200 (S.2.2.2.2.2.2.1.2.2 5)) (h6 : gm_iT (S.2.2.2.2.2.2.2.2.2 11) (S.2.2.2.2.2.2.2.2.2 12) (S.2.2.2.2.2.2.2.2.2 13) (S.2.2.2.2.2.2.2.1 2) (S.2.2.2.2.2.2.2.1 3) (S.2.2.2.2.2.2.2.1 4) (S.2.2.2.2.2.2.2.1 5) (S.2.2.2.2.2.2.2.1 10)) (h7 : (x = 0) ∨ (x = 1)) : gm_p_Runner_run x S ∧ gx_q_Runner_run x S (gm_f_Runner_run x S) := by
  unfold gm_p_Runner_run gm_f_Runner_run
  refine gx_ca (Q := gx_q_Runner_run x S) (gx_q_Runner_begin _ _) (gx_s_Runner_begin _ _ h1 h3 h4 h7) ?_
  intro r_h8 u3 h8
  have h8_0 : gm_iN 550 (u3.1.2.2 7) := h8.1
  have h8_1 : gm_iN 275 (u3.2.1.2.2 2) := h8.2.1
  have h8_2 : gm_iN 5720 (u3.2.2.2.1.2.2 2) := h8.2.2
  refine gx_s_Runner_run_8 _ _ _ ?_ ?_ ?_ ?_ ?_ ?_ ?_ _ _ _ ?_ ?_ ?_ ?_ ?_ ?_
  · exact h1
  · exact h2
  · exact h3
  · exact h4
  · exact h5
  · exact h6
  · exact (show (x = 0) ∨ (x = 1) from (by omega))
  · exact h8_0
  · exact h8_1
  · exact h8_2
  · exact (show 0 ≤ (0 : Int32).toInt from (by have : (0 : Int32).toInt = 0 := (by decide); omega))
  · exact (show (0 : Int32).toInt ≤ 1000000000 from (by have : (0 : Int32).toInt = 0 := (by decide); omega))
  · exact (show 1000000000 < ((0 : Int32).toInt + 1000000001) from (by have : (0 : Int32).toInt = 0 := (by decide); omega))
