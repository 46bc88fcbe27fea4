abbrev gx_q_Judge_hidesTheRest (x : Int32) (y : Int32) (S : gm_S × gm_S) (z : Int32 × (gm_S × gm_S)) : Prop := True
theorem gx_s_Judge_hidesTheRest (x : Int32) (y : Int32) (S : gm_S × gm_S) (h1 : gm_iT (S.2.2.2 11) (S.2.2.2 12) (S.2.2.2 13) (S.2.1 2) (S.2.1 3) (S.2.1 4) (S.2.1 5) (S.2.1 10)) (h2 : 0 ≤ x.toInt) (h3 : x.toInt ≤ 74) (h4 : 0 ≤ y.toInt) (h5 : y.toInt ≤ 74) : gm_p_Judge_hidesTheRest x y S ∧ gx_q_Judge_hidesTheRest x y S (gm_f_Judge_hidesTheRest x y S) := by
  unfold gm_p_Judge_hidesTheRest gm_f_Judge_hidesTheRest
  refine gx_in (Q := gx_q_Judge_hidesTheRest x y S) (vp_in_iff.mpr (by omega)) ?_
  refine gx_if (Q := gx_q_Judge_hidesTheRest x y S) (fun h6 => ?_) (fun h6 => ?_)
  · skip
    clear h6
    refine gx_in (Q := gx_q_Judge_hidesTheRest x y S) (vp_in_iff.mpr (by omega)) ?_
    refine gx_if (Q := gx_q_Judge_hidesTheRest x y S) (fun h7 => ?_) (fun h7 => ?_)
    · skip
      clear h7
      exact ⟨trivial, trivial⟩
    · skip
      clear h7
      exact ⟨trivial, trivial⟩
  · skip
    clear h6
    exact ⟨trivial, trivial⟩
abbrev gx_q_Judge_rootBehind (x : Int32) (S : gm_S × gm_S) (z : Int32 × (gm_S × gm_S)) : Prop := ((0 ≤ z.1.toInt) ∧ (z.1.toInt ≤ 74))
theorem gx_s_Judge_rootBehind (x : Int32) (S : gm_S × gm_S) (h1 : gm_iT (S.2.2.2 11) (S.2.2.2 12) (S.2.2.2 13) (S.2.1 2) (S.2.1 3) (S.2.1 4) (S.2.1 5) (S.2.1 10)) (h2 : 0 ≤ x.toInt) (h3 : x.toInt ≤ 74) : gm_p_Judge_rootBehind x S ∧ gx_q_Judge_rootBehind x S (gm_f_Judge_rootBehind x S) := by
  unfold gm_p_Judge_rootBehind gm_f_Judge_rootBehind
  refine gx_in (Q := gx_q_Judge_rootBehind x S) (vp_in_iff.mpr (by omega)) ?_
  refine gx_ca (Q := gx_q_Judge_rootBehind x S) (gx_q_Tree_rootOf _ _) (gx_s_Tree_rootOf _ _ h1) ?_
  intro r13 u13 h4
  have h4_0 : ((-1) ≤ r13.toInt) ∧ (r13.toInt ≤ 74) := h4
  refine gx_if (Q := gx_q_Judge_rootBehind x S) (fun h5 => ?_) (fun h5 => ?_)
  · skip
    have h5_ := gx_eqr (k := -1) (by decide) h5
    exact ⟨trivial, (show (0 ≤ (0 : Int32).toInt) ∧ ((0 : Int32).toInt ≤ 74) from (by have : (0 : Int32).toInt = 0 := (by decide); omega))⟩
  · skip
    have h5_ := gx_eqnr (k := -1) (by decide) h5
    exact ⟨trivial, (show (0 ≤ r13.toInt) ∧ (r13.toInt ≤ 74) from (by omega))⟩
abbrev gx_q_Judge_addHead (x : Int32) (y : Int32) (S : gm_S × gm_S) (z : Int32 × (gm_S × gm_S)) : Prop := True
theorem gx_s_Judge_addHead (x : Int32) (y : Int32) (S : gm_S × gm_S) (h1 : gm_iT (S.2.2.2 11) (S.2.2.2 12) (S.2.2.2 13) (S.2.1 2) (S.2.1 3) (S.2.1 4) (S.2.1 5) (S.2.1 10)) (h2 : 0 ≤ x.toInt) (h3 : x.toInt ≤ 74) (h4 : 0 ≤ y.toInt) (h5 : y.toInt ≤ 74) : gm_p_Judge_addHead x y S ∧ gx_q_Judge_addHead x y S (gm_f_Judge_addHead x y S) := by
  unfold gm_p_Judge_addHead gm_f_Judge_addHead
  refine gx_in (Q := gx_q_Judge_addHead x y S) (vp_in_iff.mpr (by omega)) ?_
  refine gx_in (Q := gx_q_Judge_addHead x y S) (vp_in_iff.mpr (by omega)) ?_
  refine gx_in (Q := gx_q_Judge_addHead x y S) (vp_in_iff.mpr (by omega)) ?_
  refine gx_in (Q := gx_q_Judge_addHead x y S) (vp_in_iff.mpr (by omega)) ?_
  refine gx_in (Q := gx_q_Judge_addHead x y S) (vp_in_iff.mpr (by omega)) ?_
  refine gx_in (Q := gx_q_Judge_addHead x y S) (vp_in_iff.mpr (by omega)) ?_
  exact ⟨trivial, trivial⟩
abbrev gx_q_Judge_settleHead (x : Int32) (S : gm_S × gm_S) (z : Int32 × (gm_S × gm_S)) : Prop := True
theorem gx_s_Judge_settleHead_57 (x : Int32) (S : gm_S × gm_S) (S_j25 : gm_S × gm_S) (h1 : gm_iT (S.2.2.2 11) (S.2.2.2 12) (S.2.2.2 13) (S.2.1 2) (S.2.1 3) (S.2.1 4) (S.2.1 5) (S.2.1 10)) (h2 : 0 ≤ x.toInt) (h3 : x.toInt ≤ 74) : ∀ (n57 : Nat) (v3_57 : Int32) (S_57 : gm_S × gm_S), (0 ≤ v3_57.toInt) → (v3_57.toInt ≤ 75) → (75 < v3_57.toInt + n57) → gm_p_Judge_settleHead_57 x S S_j25 n57 v3_57 S_57 ∧ gx_q_Judge_settleHead x S (gm_f_Judge_settleHead_57 x S S_j25 n57 v3_57 S_57) := by
  intro n57
  induction n57 with
  | zero =>
    intro v3_57 S_57 h4 h5 h6; exfalso; skip; omega
  | succ n57 ih =>
    intro v3_57 S_57 h4 h5 h6
    rw [gm_p_Judge_settleHead_57, gm_f_Judge_settleHead_57]
    refine gx_in (Q := gx_q_Judge_settleHead x S) (vp_in_iff.mpr (by omega)) ?_
    refine gx_if (Q := gx_q_Judge_settleHead x S) (fun h7 => ?_) (fun h7 => ?_)
    · skip
      have h7_ := gx_le h7
      exact ⟨trivial, trivial⟩
    · skip
      have h7_ := gx_len h7
      refine gx_in (Q := gx_q_Judge_settleHead x S) (vp_in_iff.mpr (by have := h1.2.2.2.2.1 (Int32.toNatClampNeg x); omega)) ?_
      refine gx_ca (Q := gx_q_Judge_settleHead x S) (gx_q_Judge_addHead _ _ _) (gx_s_Judge_addHead _ _ _ h1 h2 h3 (show 0 ≤ (S.2.1 4 (Int32.toNatClampNeg v3_57)).toInt from (by have := h1.2.2.2.2.2.1 (Int32.toNatClampNeg v3_57); have := h1.2.2.2.2.1 (Int32.toNatClampNeg x); omega)) (show (S.2.1 4 (Int32.toNatClampNeg v3_57)).toInt ≤ 74 from (by have := h1.2.2.2.2.2.1 (Int32.toNatClampNeg v3_57); have := h1.2.2.2.2.1 (Int32.toNatClampNeg x); omega))) ?_
      intro r_h8 u81 h8
      refine gx_in (Q := gx_q_Judge_settleHead x S) (vp_in_iff.mpr (by have := h1.2.2.2.2.1 (Int32.toNatClampNeg x); omega)) ?_
      refine gx_ca (Q := gx_q_Judge_settleHead x S) (gx_q_Judge_hidesTheRest _ _ _) (gx_s_Judge_hidesTheRest _ _ _ h1 h2 h3 (show 0 ≤ (S.2.1 4 (Int32.toNatClampNeg v3_57)).toInt from (by have := h1.2.2.2.2.2.1 (Int32.toNatClampNeg v3_57); have := h1.2.2.2.2.1 (Int32.toNatClampNeg x); omega)) (show (S.2.1 4 (Int32.toNatClampNeg v3_57)).toInt ≤ 74 from (by have := h1.2.2.2.2.2.1 (Int32.toNatClampNeg v3_57); have := h1.2.2.2.2.1 (Int32.toNatClampNeg x); omega))) ?_
      intro r95 u95 h9
      refine gx_if (Q := gx_q_Judge_settleHead x S) (fun h10 => ?_) (fun h10 => ?_)
      · skip
        have h10_ := gx_eqr (k := 0) (by decide) h10
        refine ih _ _ ?_ ?_ ?_
        · exact (show 0 ≤ (v3_57 + 1).toInt from (by have := h1.2.2.2.2.1 (Int32.toNatClampNeg x); have := gx_ak v3_57 1 (1) (by decide); omega))
        · exact (show (v3_57 + 1).toInt ≤ 75 from (by have := h1.2.2.2.2.1 (Int32.toNatClampNeg x); have := gx_ak v3_57 1 (1) (by decide); omega))
        · exact (show 75 < ((v3_57 + 1).toInt + n57) from (by have := h1.2.2.2.2.1 (Int32.toNatClampNeg x); have := gx_ak v3_57 1 (1) (by decide); omega))
      · skip
        have h10_ := gx_eqnr (k := 0) (by decide) h10
        exact ⟨trivial, trivial⟩
theorem gx_s_Judge_settleHead_j25 (x : Int32) (S : gm_S × gm_S) (S_j25 : gm_S × gm_S) (h1 : gm_iT (S.2.2.2 11) (S.2.2.2 12) (S.2.2.2 13) (S.2.1 2) (S.2.1 3) (S.2.1 4) (S.2.1 5) (S.2.1 10)) (h2 : 0 ≤ x.toInt) (h3 : x.toInt ≤ 74) : gm_p_Judge_settleHead_j25 x S S_j25 ∧ gx_q_Judge_settleHead x S (gm_f_Judge_settleHead_j25 x S S_j25) := by
  unfold gm_p_Judge_settleHead_j25 gm_f_Judge_settleHead_j25
  refine gx_if (Q := gx_q_Judge_settleHead x S) (fun h4 => ?_) (fun h4 => ?_)
  · skip
    clear h4
    exact ⟨trivial, trivial⟩
  · skip
    clear h4
    refine gx_if (Q := gx_q_Judge_settleHead x S) (fun h5 => ?_) (fun h5 => ?_)
    · skip
      clear h5
      exact ⟨trivial, trivial⟩
    · skip
      clear h5
      refine gx_if (Q := gx_q_Judge_settleHead x S) (fun h6 => ?_) (fun h6 => ?_)
      · skip
        clear h6
        exact ⟨trivial, trivial⟩
      · skip
        clear h6
        refine gx_if (Q := gx_q_Judge_settleHead x S) (fun h7 => ?_) (fun h7 => ?_)
        · skip
          clear h7
          exact ⟨trivial, trivial⟩
        · skip
          clear h7
          refine gx_in (Q := gx_q_Judge_settleHead x S) (vp_in_iff.mpr (by omega)) ?_
          refine gx_s_Judge_settleHead_57 _ _ _ ?_ ?_ ?_ _ _ _ ?_ ?_ ?_
          · exact h1
          · exact (show 0 ≤ x.toInt from (by omega))
          · exact (show x.toInt ≤ 74 from (by omega))
          · exact (show 0 ≤ (S.2.1 2 (Int32.toNatClampNeg x)).toInt from (by have := h1.2.2.2.1 (Int32.toNatClampNeg x); omega))
          · exact (show (S.2.1 2 (Int32.toNatClampNeg x)).toInt ≤ 75 from (by have := h1.2.2.2.1 (Int32.toNatClampNeg x); omega))
          · exact (show 75 < ((S.2.1 2 (Int32.toNatClampNeg x)).toInt + 200) from (by have := h1.2.2.2.1 (Int32.toNatClampNeg x); omega))
theorem gx_s_Judge_settleHead (x : Int32) (S : gm_S × gm_S) (h1 : gm_iT (S.2.2.2 11) (S.2.2.2 12) (S.2.2.2 13) (S.2.1 2) (S.2.1 3) (S.2.1 4) (S.2.1 5) (S.2.1 10)) (h2 : 0 ≤ x.toInt) (h3 : x.toInt ≤ 74) : gm_p_Judge_settleHead x S ∧ gx_q_Judge_settleHead x S (gm_f_Judge_settleHead x S) := by
  unfold gm_p_Judge_settleHead gm_f_Judge_settleHead
  refine gx_in (Q := gx_q_Judge_settleHead x S) (vp_in_iff.mpr (by omega)) ?_
  refine gx_if (Q := gx_q_Judge_settleHead x S) (fun h4 => ?_) (fun h4 => ?_)
  · skip
    clear h4
    refine gx_ca (Q := gx_q_Judge_settleHead x S) (gx_q_Judge_rootBehind _ _) (gx_s_Judge_rootBehind _ _ h1 h2 h3) ?_
    intro r19 u19 h5
    have h5_0 : (0 ≤ r19.toInt) ∧ (r19.toInt ≤ 74) := h5
    refine gx_ca (Q := gx_q_Judge_settleHead x S) (gx_q_Judge_addHead _ _ _) (gx_s_Judge_addHead _ _ _ h1 h2 h3 (show 0 ≤ r19.toInt from (by omega)) (show r19.toInt ≤ 74 from (by omega))) ?_
    intro r_h6 u22 h6
    refine gx_s_Judge_settleHead_j25 _ _ _ ?_ ?_ ?_
    · exact h1
    · exact (show 0 ≤ x.toInt from (by omega))
    · exact (show x.toInt ≤ 74 from (by omega))
  · skip
    clear h4
    refine gx_s_Judge_settleHead_j25 _ _ _ ?_ ?_ ?_
    · exact h1
    · exact (show 0 ≤ x.toInt from (by omega))
    · exact (show x.toInt ≤ 74 from (by omega))
abbrev gx_q_Judge_emptyParts (x : Int32) (S : gm_S × gm_S) (z : Int32 × (gm_S × gm_S)) : Prop := True
theorem gx_s_Judge_emptyParts_12 (x : Int32) (S : gm_S × gm_S) (h1 : gm_iT (S.2.2.2 11) (S.2.2.2 12) (S.2.2.2 13) (S.2.1 2) (S.2.1 3) (S.2.1 4) (S.2.1 5) (S.2.1 10)) (h2 : 0 ≤ x.toInt) (h3 : x.toInt ≤ 74) : ∀ (n12 : Nat) (v3_12 : Int32) (v2_12 : Int32) (S_12 : gm_S × gm_S), (0 ≤ v3_12.toInt) → (v3_12.toInt ≤ 75) → (75 < v3_12.toInt + n12) → gm_p_Judge_emptyParts_12 x S n12 v3_12 v2_12 S_12 ∧ gx_q_Judge_emptyParts x S (gm_f_Judge_emptyParts_12 x S n12 v3_12 v2_12 S_12) := by
  intro n12
  induction n12 with
  | zero =>
    intro v3_12 v2_12 S_12 h4 h5 h6; exfalso; skip; omega
  | succ n12 ih =>
    intro v3_12 v2_12 S_12 h4 h5 h6
    rw [gm_p_Judge_emptyParts_12, gm_f_Judge_emptyParts_12]
    refine gx_in (Q := gx_q_Judge_emptyParts x S) (vp_in_iff.mpr (by omega)) ?_
    refine gx_if (Q := gx_q_Judge_emptyParts x S) (fun h7 => ?_) (fun h7 => ?_)
    · skip
      have h7_ := gx_le h7
      exact ⟨trivial, trivial⟩
    · skip
      have h7_ := gx_len h7
      refine gx_in (Q := gx_q_Judge_emptyParts x S) (vp_in_iff.mpr (by have := h1.2.2.2.2.1 (Int32.toNatClampNeg x); omega)) ?_
      refine gx_in (Q := gx_q_Judge_emptyParts x S) (vp_in_iff.mpr (by have := h1.2.2.2.2.2.1 (Int32.toNatClampNeg v3_12); have := h1.2.2.2.2.1 (Int32.toNatClampNeg x); omega)) ?_
      refine gx_if (Q := gx_q_Judge_emptyParts x S) (fun h8 => ?_) (fun h8 => ?_)
      · skip
        clear h8
        refine ih _ _ _ ?_ ?_ ?_
        · exact (show 0 ≤ (v3_12 + 1).toInt from (by have := h1.2.2.2.2.1 (Int32.toNatClampNeg x); have := gx_ak v3_12 1 (1) (by decide); omega))
        · exact (show (v3_12 + 1).toInt ≤ 75 from (by have := h1.2.2.2.2.1 (Int32.toNatClampNeg x); have := gx_ak v3_12 1 (1) (by decide); omega))
        · exact (show 75 < ((v3_12 + 1).toInt + n12) from (by have := h1.2.2.2.2.1 (Int32.toNatClampNeg x); have := gx_ak v3_12 1 (1) (by decide); omega))
      · skip
        clear h8
        refine ih _ _ _ ?_ ?_ ?_
        · exact (show 0 ≤ (v3_12 + 1).toInt from (by have := h1.2.2.2.2.1 (Int32.toNatClampNeg x); have := gx_ak v3_12 1 (1) (by decide); omega))
        · exact (show (v3_12 + 1).toInt ≤ 75 from (by have := h1.2.2.2.2.1 (Int32.toNatClampNeg x); have := gx_ak v3_12 1 (1) (by decide); omega))
        · exact (show 75 < ((v3_12 + 1).toInt + n12) from (by have := h1.2.2.2.2.1 (Int32.toNatClampNeg x); have := gx_ak v3_12 1 (1) (by decide); omega))
theorem gx_s_Judge_emptyParts (x : Int32) (S : gm_S × gm_S) (h1 : gm_iT (S.2.2.2 11) (S.2.2.2 12) (S.2.2.2 13) (S.2.1 2) (S.2.1 3) (S.2.1 4) (S.2.1 5) (S.2.1 10)) (h2 : 0 ≤ x.toInt) (h3 : x.toInt ≤ 74) : gm_p_Judge_emptyParts x S ∧ gx_q_Judge_emptyParts x S (gm_f_Judge_emptyParts x S) := by
  unfold gm_p_Judge_emptyParts gm_f_Judge_emptyParts
  refine gx_in (Q := gx_q_Judge_emptyParts x S) (vp_in_iff.mpr (by omega)) ?_
  refine gx_s_Judge_emptyParts_12 _ _ ?_ ?_ ?_ _ _ _ _ ?_ ?_ ?_
  · exact h1
  · exact (show 0 ≤ x.toInt from (by omega))
  · exact (show x.toInt ≤ 74 from (by omega))
  · exact (show 0 ≤ (S.2.1 2 (Int32.toNatClampNeg x)).toInt from (by have := h1.2.2.2.1 (Int32.toNatClampNeg x); omega))
  · exact (show (S.2.1 2 (Int32.toNatClampNeg x)).toInt ≤ 75 from (by have := h1.2.2.2.1 (Int32.toNatClampNeg x); omega))
  · exact (show 75 < ((S.2.1 2 (Int32.toNatClampNeg x)).toInt + 200) from (by have := h1.2.2.2.1 (Int32.toNatClampNeg x); omega))
abbrev gx_q_Judge_beginningsByParts (x : Int32) (S : gm_S × gm_S) (z : Int32 × (gm_S × gm_S)) : Prop := True
theorem gx_s_Judge_beginningsByParts_58 (x : Int32) (S : gm_S × gm_S) (h1 : gm_iT (S.2.2.2 11) (S.2.2.2 12) (S.2.2.2 13) (S.2.1 2) (S.2.1 3) (S.2.1 4) (S.2.1 5) (S.2.1 10)) (h2 : 0 ≤ x.toInt) (h3 : x.toInt ≤ 74) : ∀ (n58 : Nat) (v3_58 : Int32) (v2_58 : Int32) (S_58 : gm_S × gm_S), (0 ≤ v3_58.toInt) → (v3_58.toInt ≤ 75) → (75 < v3_58.toInt + n58) → gm_p_Judge_beginningsByParts_58 x S n58 v3_58 v2_58 S_58 ∧ gx_q_Judge_beginningsByParts x S (gm_f_Judge_beginningsByParts_58 x S n58 v3_58 v2_58 S_58) := by
  intro n58
  induction n58 with
  | zero =>
    intro v3_58 v2_58 S_58 h4 h5 h6; exfalso; skip; omega
  | succ n58 ih =>
    intro v3_58 v2_58 S_58 h4 h5 h6
    rw [gm_p_Judge_beginningsByParts_58, gm_f_Judge_beginningsByParts_58]
    refine gx_in (Q := gx_q_Judge_beginningsByParts x S) (vp_in_iff.mpr (by omega)) ?_
    refine gx_if (Q := gx_q_Judge_beginningsByParts x S) (fun h7 => ?_) (fun h7 => ?_)
    · skip
      have h7_ := gx_le h7
      exact ⟨trivial, trivial⟩
    · skip
      have h7_ := gx_len h7
      refine gx_in (Q := gx_q_Judge_beginningsByParts x S) (vp_in_iff.mpr (by have := h1.2.2.2.2.1 (Int32.toNatClampNeg x); omega)) ?_
      refine gx_in (Q := gx_q_Judge_beginningsByParts x S) (vp_in_iff.mpr (by have := h1.2.2.2.2.2.1 (Int32.toNatClampNeg v3_58); have := h1.2.2.2.2.1 (Int32.toNatClampNeg x); omega)) ?_
      refine gx_in (Q := gx_q_Judge_beginningsByParts x S) (vp_in_iff.mpr (by have := h1.2.2.2.2.1 (Int32.toNatClampNeg x); omega)) ?_
      refine gx_ca (Q := gx_q_Judge_beginningsByParts x S) (gx_q_Judge_hidesTheRest _ _ _) (gx_s_Judge_hidesTheRest _ _ _ h1 h2 h3 (show 0 ≤ (S.2.1 4 (Int32.toNatClampNeg v3_58)).toInt from (by have := h1.2.2.2.2.2.1 (Int32.toNatClampNeg v3_58); have := h1.2.2.2.2.1 (Int32.toNatClampNeg x); omega)) (show (S.2.1 4 (Int32.toNatClampNeg v3_58)).toInt ≤ 74 from (by have := h1.2.2.2.2.2.1 (Int32.toNatClampNeg v3_58); have := h1.2.2.2.2.1 (Int32.toNatClampNeg x); omega))) ?_
      intro r102 u102 h8
      refine gx_if (Q := gx_q_Judge_beginningsByParts x S) (fun h9 => ?_) (fun h9 => ?_)
      · skip
        have h9_ := gx_eqr (k := 0) (by decide) h9
        refine ih _ _ _ ?_ ?_ ?_
        · exact (show 0 ≤ (v3_58 + 1).toInt from (by have := h1.2.2.2.2.1 (Int32.toNatClampNeg x); have := gx_ak v3_58 1 (1) (by decide); omega))
        · exact (show (v3_58 + 1).toInt ≤ 75 from (by have := h1.2.2.2.2.1 (Int32.toNatClampNeg x); have := gx_ak v3_58 1 (1) (by decide); omega))
        · exact (show 75 < ((v3_58 + 1).toInt + n58) from (by have := h1.2.2.2.2.1 (Int32.toNatClampNeg x); have := gx_ak v3_58 1 (1) (by decide); omega))
      · skip
        have h9_ := gx_eqnr (k := 0) (by decide) h9
        exact ⟨trivial, trivial⟩
theorem gx_s_Judge_beginningsByParts (x : Int32) (S : gm_S × gm_S) (h1 : gm_iT (S.2.2.2 11) (S.2.2.2 12) (S.2.2.2 13) (S.2.1 2) (S.2.1 3) (S.2.1 4) (S.2.1 5) (S.2.1 10)) (h2 : 0 ≤ x.toInt) (h3 : x.toInt ≤ 74) : gm_p_Judge_beginningsByParts x S ∧ gx_q_Judge_beginningsByParts x S (gm_f_Judge_beginningsByParts x S) := by
  unfold gm_p_Judge_beginningsByParts gm_f_Judge_beginningsByParts
  refine gx_in (Q := gx_q_Judge_beginningsByParts x S) (vp_in_iff.mpr (by omega)) ?_
  refine gx_if (Q := gx_q_Judge_beginningsByParts x S) (fun h4 => ?_) (fun h4 => ?_)
  · skip
    clear h4
    refine gx_ca (Q := gx_q_Judge_beginningsByParts x S) (gx_q_Judge_rootBehind _ _) (gx_s_Judge_rootBehind _ _ h1 h2 h3) ?_
    intro r22 u22 h5
    have h5_0 : (0 ≤ r22.toInt) ∧ (r22.toInt ≤ 74) := h5
    refine gx_in (Q := gx_q_Judge_beginningsByParts x S) (vp_in_iff.mpr (by omega)) ?_
    refine gx_in (Q := gx_q_Judge_beginningsByParts x S) (vp_in_iff.mpr (by omega)) ?_
    refine gx_ca (Q := gx_q_Judge_beginningsByParts x S) (gx_q_Tree_ruleOf _ _) (gx_s_Tree_ruleOf _ _ h1) ?_
    intro r40 u40 h6
    have h6_0 : ((-1) ≤ r40.toInt) ∧ (r40.toInt ≤ 7) := h6
    exact ⟨trivial, trivial⟩
  · skip
    clear h4
    refine gx_in (Q := gx_q_Judge_beginningsByParts x S) (vp_in_iff.mpr (by omega)) ?_
    refine gx_s_Judge_beginningsByParts_58 _ _ ?_ ?_ ?_ _ _ _ _ ?_ ?_ ?_
    · exact h1
    · exact (show 0 ≤ x.toInt from (by omega))
    · exact (show x.toInt ≤ 74 from (by omega))
    · exact (show 0 ≤ (S.2.1 2 (Int32.toNatClampNeg x)).toInt from (by have := h1.2.2.2.1 (Int32.toNatClampNeg x); omega))
    · exact (show (S.2.1 2 (Int32.toNatClampNeg x)).toInt ≤ 75 from (by have := h1.2.2.2.1 (Int32.toNatClampNeg x); omega))
    · exact (show 75 < ((S.2.1 2 (Int32.toNatClampNeg x)).toInt + 200) from (by have := h1.2.2.2.1 (Int32.toNatClampNeg x); omega))
abbrev gx_q_Judge_isEmptyByParts (x : Int32) (S : gm_S × gm_S) (z : Int32 × (gm_S × gm_S)) : Prop := True
theorem gx_s_Judge_isEmptyByParts (x : Int32) (S : gm_S × gm_S) (h1 : gm_iT (S.2.2.2 11) (S.2.2.2 12) (S.2.2.2 13) (S.2.1 2) (S.2.1 3) (S.2.1 4) (S.2.1 5) (S.2.1 10)) (h2 : 0 ≤ x.toInt) (h3 : x.toInt ≤ 74) : gm_p_Judge_isEmptyByParts x S ∧ gx_q_Judge_isEmptyByParts x S (gm_f_Judge_isEmptyByParts x S) := by
  unfold gm_p_Judge_isEmptyByParts gm_f_Judge_isEmptyByParts
  refine gx_in (Q := gx_q_Judge_isEmptyByParts x S) (vp_in_iff.mpr (by omega)) ?_
  refine gx_if (Q := gx_q_Judge_isEmptyByParts x S) (fun h4 => ?_) (fun h4 => ?_)
  · skip
    clear h4
    exact ⟨trivial, trivial⟩
  · skip
    clear h4
    refine gx_if (Q := gx_q_Judge_isEmptyByParts x S) (fun h5 => ?_) (fun h5 => ?_)
    · skip
      clear h5
      refine gx_ca (Q := gx_q_Judge_isEmptyByParts x S) (gx_q_Judge_rootBehind _ _) (gx_s_Judge_rootBehind _ _ h1 h2 h3) ?_
      intro r75 u75 h6
      have h6_0 : (0 ≤ r75.toInt) ∧ (r75.toInt ≤ 74) := h6
      refine gx_in (Q := gx_q_Judge_isEmptyByParts x S) (vp_in_iff.mpr (by omega)) ?_
      refine gx_in (Q := gx_q_Judge_isEmptyByParts x S) (h1.2.2.2.2.2.2.1 _) ?_
      exact ⟨trivial, trivial⟩
    · skip
      clear h5
      refine gx_if (Q := gx_q_Judge_isEmptyByParts x S) (fun h6 => ?_) (fun h6 => ?_)
      · skip
        clear h6
        refine gx_ca (Q := gx_q_Judge_isEmptyByParts x S) (gx_q_Judge_emptyParts _ _) (gx_s_Judge_emptyParts _ _ h1 h2 h3) ?_
        intro r82 u82 h7
        refine gx_in (Q := gx_q_Judge_isEmptyByParts x S) (vp_in_iff.mpr (by omega)) ?_
        refine gx_in (Q := gx_q_Judge_isEmptyByParts x S) (vp_in_iff.mpr (by omega)) ?_
        refine gx_if (Q := gx_q_Judge_isEmptyByParts x S) (fun h8 => ?_) (fun h8 => ?_)
        · skip
          have h8_ := gx_eq h8
          exact ⟨trivial, trivial⟩
        · skip
          have h8_ := gx_eqn h8
          exact ⟨trivial, trivial⟩
      · skip
        clear h6
        refine gx_if (Q := gx_q_Judge_isEmptyByParts x S) (fun h7 => ?_) (fun h7 => ?_)
        · skip
          clear h7
          refine gx_ca (Q := gx_q_Judge_isEmptyByParts x S) (gx_q_Judge_emptyParts _ _) (gx_s_Judge_emptyParts _ _ h1 h2 h3) ?_
          intro r115 u115 h8
          refine gx_if (Q := gx_q_Judge_isEmptyByParts x S) (fun h9 => ?_) (fun h9 => ?_)
          · skip
            have h9_ := gx_ler (k := 0) (by decide) h9
            exact ⟨trivial, trivial⟩
          · skip
            have h9_ := gx_lenr (k := 0) (by decide) h9
            exact ⟨trivial, trivial⟩
        · skip
          clear h7
          refine gx_if (Q := gx_q_Judge_isEmptyByParts x S) (fun h8 => ?_) (fun h8 => ?_)
          · skip
            clear h8
            exact ⟨trivial, trivial⟩
          · skip
            clear h8
            refine gx_if (Q := gx_q_Judge_isEmptyByParts x S) (fun h9 => ?_) (fun h9 => ?_)
            · skip
              clear h9
              exact ⟨trivial, trivial⟩
            · skip
              clear h9
              refine gx_if (Q := gx_q_Judge_isEmptyByParts x S) (fun h10 => ?_) (fun h10 => ?_)
              · skip
                clear h10
                refine gx_ca (Q := gx_q_Judge_isEmptyByParts x S) (gx_q_Tree_partOf _ _) (gx_s_Tree_partOf _ _ h1 h2 h3) ?_
                intro r139 u139 h11
                have h11_0 : (0 ≤ r139.toInt) ∧ (r139.toInt ≤ 74) := h11
                refine gx_in (Q := gx_q_Judge_isEmptyByParts x S) (vp_in_iff.mpr (by omega)) ?_
                refine gx_in (Q := gx_q_Judge_isEmptyByParts x S) (h1.2.2.2.2.2.2.1 _) ?_
                exact ⟨trivial, trivial⟩
              · skip
                clear h10
                refine gx_if (Q := gx_q_Judge_isEmptyByParts x S) (fun h11 => ?_) (fun h11 => ?_)
                · skip
                  clear h11
                  exact ⟨trivial, trivial⟩
                · skip
                  clear h11
                  refine gx_if (Q := gx_q_Judge_isEmptyByParts x S) (fun h12 => ?_) (fun h12 => ?_)
                  · skip
                    clear h12
                    exact ⟨trivial, trivial⟩
                  · skip
                    clear h12
                    refine gx_if (Q := gx_q_Judge_isEmptyByParts x S) (fun h13 => ?_) (fun h13 => ?_)
                    · skip
                      clear h13
                      refine gx_ca (Q := gx_q_Judge_isEmptyByParts x S) (gx_q_Tree_partOf _ _) (gx_s_Tree_partOf _ _ h1 h2 h3) ?_
                      intro r139 u139 h14
                      have h14_0 : (0 ≤ r139.toInt) ∧ (r139.toInt ≤ 74) := h14
                      refine gx_in (Q := gx_q_Judge_isEmptyByParts x S) (vp_in_iff.mpr (by omega)) ?_
                      refine gx_in (Q := gx_q_Judge_isEmptyByParts x S) (h1.2.2.2.2.2.2.1 _) ?_
                      exact ⟨trivial, trivial⟩
                    · skip
                      clear h13
                      exact ⟨trivial, trivial⟩
abbrev gx_q_Judge_isEndless (x : Int32) (S : gm_S × gm_S) (z : Int32 × (gm_S × gm_S)) : Prop := True
theorem gx_s_Judge_isEndless_9 (x : Int32) (S : gm_S × gm_S) (r5 : Int32) (u5 : gm_S) (h1 : gm_iT (S.2.2.2 11) (S.2.2.2 12) (S.2.2.2 13) (S.2.1 2) (S.2.1 3) (S.2.1 4) (S.2.1 5) (S.2.1 10)) (h2 : 0 ≤ x.toInt) (h3 : x.toInt ≤ 7) : ∀ (n9 : Nat) (v2_9 : Int32) (S_9 : gm_S × gm_S), (0 ≤ v2_9.toInt) → (v2_9.toInt ≤ 75) → (75 < v2_9.toInt + n9) → gm_p_Judge_isEndless_9 x S r5 u5 n9 v2_9 S_9 ∧ gx_q_Judge_isEndless x S (gm_f_Judge_isEndless_9 x S r5 u5 n9 v2_9 S_9) := by
  intro n9
  induction n9 with
  | zero =>
    intro v2_9 S_9 h4 h5 h6; exfalso; skip; omega
  | succ n9 ih =>
    intro v2_9 S_9 h4 h5 h6
    rw [gm_p_Judge_isEndless_9, gm_f_Judge_isEndless_9]
    refine gx_in (Q := gx_q_Judge_isEndless x S) (vp_in_iff.mpr (by omega)) ?_
    refine gx_if (Q := gx_q_Judge_isEndless x S) (fun h7 => ?_) (fun h7 => ?_)
    · skip
      have h7_ := gx_lt h7
      exact ⟨trivial, trivial⟩
    · skip
      have h7_ := gx_ltn h7
      refine gx_in (Q := gx_q_Judge_isEndless x S) (vp_in_iff.mpr (by have := h1.2.2.2.2.2.2.2 (Int32.toNatClampNeg x); omega)) ?_
      refine gx_if (Q := gx_q_Judge_isEndless x S) (fun h8 => ?_) (fun h8 => ?_)
      · skip
        clear h8
        refine gx_ca (Q := gx_q_Judge_isEndless x S) (gx_q_Tree_partOf _ _) (gx_s_Tree_partOf _ _ h1 (show 0 ≤ v2_9.toInt from (by have := h1.2.2.2.2.2.2.2 (Int32.toNatClampNeg x); omega)) (show v2_9.toInt ≤ 74 from (by have := h1.2.2.2.2.2.2.2 (Int32.toNatClampNeg x); omega))) ?_
        intro r73 u73 h9
        have h9_0 : (0 ≤ r73.toInt) ∧ (r73.toInt ≤ 74) := h9
        refine gx_in (Q := gx_q_Judge_isEndless x S) (vp_in_iff.mpr (by have := h1.2.2.2.2.2.2.2 (Int32.toNatClampNeg x); omega)) ?_
        refine gx_if (Q := gx_q_Judge_isEndless x S) (fun h10 => ?_) (fun h10 => ?_)
        · skip
          clear h10
          refine ih _ _ ?_ ?_ ?_
          · exact (show 0 ≤ (v2_9 + 1).toInt from (by have := h1.2.2.2.2.2.2.2 (Int32.toNatClampNeg x); have := gx_ak v2_9 1 (1) (by decide); omega))
          · exact (show (v2_9 + 1).toInt ≤ 75 from (by have := h1.2.2.2.2.2.2.2 (Int32.toNatClampNeg x); have := gx_ak v2_9 1 (1) (by decide); omega))
          · exact (show 75 < ((v2_9 + 1).toInt + n9) from (by have := h1.2.2.2.2.2.2.2 (Int32.toNatClampNeg x); have := gx_ak v2_9 1 (1) (by decide); omega))
        · skip
          clear h10
          exact ⟨trivial, trivial⟩
      · skip
        clear h8
        refine gx_if (Q := gx_q_Judge_isEndless x S) (fun h9 => ?_) (fun h9 => ?_)
        · skip
          clear h9
          refine gx_ca (Q := gx_q_Judge_isEndless x S) (gx_q_Tree_partOf _ _) (gx_s_Tree_partOf _ _ h1 (show 0 ≤ v2_9.toInt from (by have := h1.2.2.2.2.2.2.2 (Int32.toNatClampNeg x); omega)) (show v2_9.toInt ≤ 74 from (by have := h1.2.2.2.2.2.2.2 (Int32.toNatClampNeg x); omega))) ?_
          intro r73 u73 h10
          have h10_0 : (0 ≤ r73.toInt) ∧ (r73.toInt ≤ 74) := h10
          refine gx_in (Q := gx_q_Judge_isEndless x S) (vp_in_iff.mpr (by have := h1.2.2.2.2.2.2.2 (Int32.toNatClampNeg x); omega)) ?_
          refine gx_if (Q := gx_q_Judge_isEndless x S) (fun h11 => ?_) (fun h11 => ?_)
          · skip
            clear h11
            refine ih _ _ ?_ ?_ ?_
            · exact (show 0 ≤ (v2_9 + 1).toInt from (by have := h1.2.2.2.2.2.2.2 (Int32.toNatClampNeg x); have := gx_ak v2_9 1 (1) (by decide); omega))
            · exact (show (v2_9 + 1).toInt ≤ 75 from (by have := h1.2.2.2.2.2.2.2 (Int32.toNatClampNeg x); have := gx_ak v2_9 1 (1) (by decide); omega))
            · exact (show 75 < ((v2_9 + 1).toInt + n9) from (by have := h1.2.2.2.2.2.2.2 (Int32.toNatClampNeg x); have := gx_ak v2_9 1 (1) (by decide); omega))
          · skip
            clear h11
            exact ⟨trivial, trivial⟩
        · skip
          clear h9
          refine gx_if (Q := gx_q_Judge_isEndless x S) (fun h10 => ?_) (fun h10 => ?_)
          · skip
            clear h10
            refine gx_ca (Q := gx_q_Judge_isEndless x S) (gx_q_Tree_partOf _ _) (gx_s_Tree_partOf _ _ h1 (show 0 ≤ v2_9.toInt from (by have := h1.2.2.2.2.2.2.2 (Int32.toNatClampNeg x); omega)) (show v2_9.toInt ≤ 74 from (by have := h1.2.2.2.2.2.2.2 (Int32.toNatClampNeg x); omega))) ?_
            intro r73 u73 h11
            have h11_0 : (0 ≤ r73.toInt) ∧ (r73.toInt ≤ 74) := h11
            refine gx_in (Q := gx_q_Judge_isEndless x S) (vp_in_iff.mpr (by have := h1.2.2.2.2.2.2.2 (Int32.toNatClampNeg x); omega)) ?_
            refine gx_if (Q := gx_q_Judge_isEndless x S) (fun h12 => ?_) (fun h12 => ?_)
            · skip
              clear h12
              refine ih _ _ ?_ ?_ ?_
              · exact (show 0 ≤ (v2_9 + 1).toInt from (by have := h1.2.2.2.2.2.2.2 (Int32.toNatClampNeg x); have := gx_ak v2_9 1 (1) (by decide); omega))
              · exact (show (v2_9 + 1).toInt ≤ 75 from (by have := h1.2.2.2.2.2.2.2 (Int32.toNatClampNeg x); have := gx_ak v2_9 1 (1) (by decide); omega))
              · exact (show 75 < ((v2_9 + 1).toInt + n9) from (by have := h1.2.2.2.2.2.2.2 (Int32.toNatClampNeg x); have := gx_ak v2_9 1 (1) (by decide); omega))
            · skip
              clear h12
              exact ⟨trivial, trivial⟩
          · skip
            clear h10
            refine ih _ _ ?_ ?_ ?_
            · exact (show 0 ≤ (v2_9 + 1).toInt from (by have := h1.2.2.2.2.2.2.2 (Int32.toNatClampNeg x); have := gx_ak v2_9 1 (1) (by decide); omega))
            · exact (show (v2_9 + 1).toInt ≤ 75 from (by have := h1.2.2.2.2.2.2.2 (Int32.toNatClampNeg x); have := gx_ak v2_9 1 (1) (by decide); omega))
            · exact (show 75 < ((v2_9 + 1).toInt + n9) from (by have := h1.2.2.2.2.2.2.2 (Int32.toNatClampNeg x); have := gx_ak v2_9 1 (1) (by decide); omega))
theorem gx_s_Judge_isEndless (x : Int32) (S : gm_S × gm_S) (h1 : gm_iT (S.2.2.2 11) (S.2.2.2 12) (S.2.2.2 13) (S.2.1 2) (S.2.1 3) (S.2.1 4) (S.2.1 5) (S.2.1 10)) (h2 : 0 ≤ x.toInt) (h3 : x.toInt ≤ 7) : gm_p_Judge_isEndless x S ∧ gx_q_Judge_isEndless x S (gm_f_Judge_isEndless x S) := by
  unfold gm_p_Judge_isEndless gm_f_Judge_isEndless
  refine gx_ca (Q := gx_q_Judge_isEndless x S) (gx_q_Tree_firstNodeOf _ _) (gx_s_Tree_firstNodeOf _ _ h1) ?_
  intro r5 u5 h4
  have h4_0 : (0 ≤ r5.toInt) ∧ (r5.toInt ≤ 75) := h4
  refine gx_s_Judge_isEndless_9 _ _ _ _ ?_ ?_ ?_ _ _ _ ?_ ?_ ?_
  · exact h1
  · exact (show 0 ≤ x.toInt from (by omega))
  · exact (show x.toInt ≤ 7 from (by omega))
  · exact (show 0 ≤ r5.toInt from (by omega))
  · exact (show r5.toInt ≤ 75 from (by omega))
  · exact (show 75 < (r5.toInt + 200) from (by omega))
abbrev gx_q_Judge_hasUnknownName (x : Int32) (S : gm_S × gm_S) (z : Int32 × (gm_S × gm_S)) : Prop := True
theorem gx_s_Judge_hasUnknownName_9 (x : Int32) (S : gm_S × gm_S) (r5 : Int32) (u5 : gm_S) (h1 : gm_iT (S.2.2.2 11) (S.2.2.2 12) (S.2.2.2 13) (S.2.1 2) (S.2.1 3) (S.2.1 4) (S.2.1 5) (S.2.1 10)) (h2 : 0 ≤ x.toInt) (h3 : x.toInt ≤ 7) : ∀ (n9 : Nat) (v2_9 : Int32) (S_9 : gm_S × gm_S), (0 ≤ v2_9.toInt) → (v2_9.toInt ≤ 75) → (75 < v2_9.toInt + n9) → gm_p_Judge_hasUnknownName_9 x S r5 u5 n9 v2_9 S_9 ∧ gx_q_Judge_hasUnknownName x S (gm_f_Judge_hasUnknownName_9 x S r5 u5 n9 v2_9 S_9) := by
  intro n9
  induction n9 with
  | zero =>
    intro v2_9 S_9 h4 h5 h6; exfalso; skip; omega
  | succ n9 ih =>
    intro v2_9 S_9 h4 h5 h6
    rw [gm_p_Judge_hasUnknownName_9, gm_f_Judge_hasUnknownName_9]
    refine gx_in (Q := gx_q_Judge_hasUnknownName x S) (vp_in_iff.mpr (by omega)) ?_
    refine gx_if (Q := gx_q_Judge_hasUnknownName x S) (fun h7 => ?_) (fun h7 => ?_)
    · skip
      have h7_ := gx_lt h7
      exact ⟨trivial, trivial⟩
    · skip
      have h7_ := gx_ltn h7
      refine gx_in (Q := gx_q_Judge_hasUnknownName x S) (vp_in_iff.mpr (by have := h1.2.2.2.2.2.2.2 (Int32.toNatClampNeg x); omega)) ?_
      refine gx_if (Q := gx_q_Judge_hasUnknownName x S) (fun h8 => ?_) (fun h8 => ?_)
      · skip
        clear h8
        refine gx_in (Q := gx_q_Judge_hasUnknownName x S) (vp_in_iff.mpr (by have := h1.2.2.2.2.2.2.2 (Int32.toNatClampNeg x); omega)) ?_
        refine gx_ca (Q := gx_q_Judge_hasUnknownName x S) (gx_q_Tree_ruleOf _ _) (gx_s_Tree_ruleOf _ _ h1) ?_
        intro r48 u48 h9
        have h9_0 : ((-1) ≤ r48.toInt) ∧ (r48.toInt ≤ 7) := h9
        refine gx_if (Q := gx_q_Judge_hasUnknownName x S) (fun h10 => ?_) (fun h10 => ?_)
        · skip
          have h10_ := gx_eqr (k := -1) (by decide) h10
          exact ⟨trivial, trivial⟩
        · skip
          have h10_ := gx_eqnr (k := -1) (by decide) h10
          refine ih _ _ ?_ ?_ ?_
          · exact (show 0 ≤ (v2_9 + 1).toInt from (by have := h1.2.2.2.2.2.2.2 (Int32.toNatClampNeg x); have := gx_ak v2_9 1 (1) (by decide); omega))
          · exact (show (v2_9 + 1).toInt ≤ 75 from (by have := h1.2.2.2.2.2.2.2 (Int32.toNatClampNeg x); have := gx_ak v2_9 1 (1) (by decide); omega))
          · exact (show 75 < ((v2_9 + 1).toInt + n9) from (by have := h1.2.2.2.2.2.2.2 (Int32.toNatClampNeg x); have := gx_ak v2_9 1 (1) (by decide); omega))
      · skip
        clear h8
        refine ih _ _ ?_ ?_ ?_
        · exact (show 0 ≤ (v2_9 + 1).toInt from (by have := h1.2.2.2.2.2.2.2 (Int32.toNatClampNeg x); have := gx_ak v2_9 1 (1) (by decide); omega))
        · exact (show (v2_9 + 1).toInt ≤ 75 from (by have := h1.2.2.2.2.2.2.2 (Int32.toNatClampNeg x); have := gx_ak v2_9 1 (1) (by decide); omega))
        · exact (show 75 < ((v2_9 + 1).toInt + n9) from (by have := h1.2.2.2.2.2.2.2 (Int32.toNatClampNeg x); have := gx_ak v2_9 1 (1) (by decide); omega))
theorem gx_s_Judge_hasUnknownName (x : Int32) (S : gm_S × gm_S) (h1 : gm_iT (S.2.2.2 11) (S.2.2.2 12) (S.2.2.2 13) (S.2.1 2) (S.2.1 3) (S.2.1 4) (S.2.1 5) (S.2.1 10)) (h2 : 0 ≤ x.toInt) (h3 : x.toInt ≤ 7) : gm_p_Judge_hasUnknownName x S ∧ gx_q_Judge_hasUnknownName x S (gm_f_Judge_hasUnknownName x S) := by
  unfold gm_p_Judge_hasUnknownName gm_f_Judge_hasUnknownName
  refine gx_ca (Q := gx_q_Judge_hasUnknownName x S) (gx_q_Tree_firstNodeOf _ _) (gx_s_Tree_firstNodeOf _ _ h1) ?_
  intro r5 u5 h4
  have h4_0 : (0 ≤ r5.toInt) ∧ (r5.toInt ≤ 75) := h4
  refine gx_s_Judge_hasUnknownName_9 _ _ _ _ ?_ ?_ ?_ _ _ _ ?_ ?_ ?_
  · exact h1
  · exact (show 0 ≤ x.toInt from (by omega))
  · exact (show x.toInt ≤ 7 from (by omega))
  · exact (show 0 ≤ r5.toInt from (by omega))
  · exact (show r5.toInt ≤ 75 from (by omega))
  · exact (show 75 < (r5.toInt + 200) from (by omega))
abbrev gx_q_Judge_firstUndefined (S : gm_S × gm_S) (z : Int32 × (gm_S × gm_S)) : Prop := True
theorem gx_s_Judge_firstUndefined_2 (S : gm_S × gm_S) (h1 : gm_iT (S.2.2.2 11) (S.2.2.2 12) (S.2.2.2 13) (S.2.1 2) (S.2.1 3) (S.2.1 4) (S.2.1 5) (S.2.1 10)) : ∀ (n2 : Nat) (v1_2 : Int32) (S_2 : gm_S × gm_S), (0 ≤ v1_2.toInt) → (v1_2.toInt ≤ 8) → (8 < v1_2.toInt + n2) → gm_p_Judge_firstUndefined_2 S n2 v1_2 S_2 ∧ gx_q_Judge_firstUndefined S (gm_f_Judge_firstUndefined_2 S n2 v1_2 S_2) := by
  intro n2
  induction n2 with
  | zero =>
    intro v1_2 S_2 h2 h3 h4; exfalso; skip; omega
  | succ n2 ih =>
    intro v1_2 S_2 h2 h3 h4
    rw [gm_p_Judge_firstUndefined_2, gm_f_Judge_firstUndefined_2]
    refine gx_if (Q := gx_q_Judge_firstUndefined S) (fun h5 => ?_) (fun h5 => ?_)
    · skip
      have h5_ := gx_le h5
      exact ⟨trivial, trivial⟩
    · skip
      have h5_ := gx_len h5
      refine gx_ca (Q := gx_q_Judge_firstUndefined S) (gx_q_Judge_hasUnknownName _ _) (gx_s_Judge_hasUnknownName _ _ h1 (show 0 ≤ v1_2.toInt from (by omega)) (show v1_2.toInt ≤ 7 from (by omega))) ?_
      intro r15 u15 h6
      refine gx_if (Q := gx_q_Judge_firstUndefined S) (fun h7 => ?_) (fun h7 => ?_)
      · skip
        have h7_ := gx_eqr (k := 0) (by decide) h7
        refine ih _ _ ?_ ?_ ?_
        · exact (show 0 ≤ (v1_2 + 1).toInt from (by have := gx_ak v1_2 1 (1) (by decide); omega))
        · exact (show (v1_2 + 1).toInt ≤ 8 from (by have := gx_ak v1_2 1 (1) (by decide); omega))
        · exact (show 8 < ((v1_2 + 1).toInt + n2) from (by have := gx_ak v1_2 1 (1) (by decide); omega))
      · skip
        have h7_ := gx_eqnr (k := 0) (by decide) h7
        refine gx_in (Q := gx_q_Judge_firstUndefined S) (vp_in_iff.mpr (by omega)) ?_
        exact ⟨trivial, trivial⟩
theorem gx_s_Judge_firstUndefined (S : gm_S × gm_S) (h1 : gm_iT (S.2.2.2 11) (S.2.2.2 12) (S.2.2.2 13) (S.2.1 2) (S.2.1 3) (S.2.1 4) (S.2.1 5) (S.2.1 10)) : gm_p_Judge_firstUndefined S ∧ gx_q_Judge_firstUndefined S (gm_f_Judge_firstUndefined S) := by
  unfold gm_p_Judge_firstUndefined gm_f_Judge_firstUndefined
  refine gx_s_Judge_firstUndefined_2 _ ?_ _ _ _ ?_ ?_ ?_
  · exact h1
  · exact (show 0 ≤ (0 : Int32).toInt from (by have : (0 : Int32).toInt = 0 := (by decide); omega))
  · exact (show (0 : Int32).toInt ≤ 8 from (by have : (0 : Int32).toInt = 0 := (by decide); omega))
  · exact (show 8 < ((0 : Int32).toInt + 200) from (by have : (0 : Int32).toInt = 0 := (by decide); omega))
abbrev gx_q_Judge_settleEmptiness (S : gm_S × gm_S) (z : Int32 × (gm_S × gm_S)) : Prop := (gm_iT (S.2.2.2 11) (S.2.2.2 12) (S.2.2.2 13) (S.2.1 2) (S.2.1 3) (S.2.1 4) (z.2.2.1 5) (S.2.1 10))
theorem gx_s_Judge_settleEmptiness_15 (S : gm_S × gm_S) (v1_2 : Int32) (S_2 : gm_S × gm_S) (h1 : gm_iT (S.2.2.2 11) (S.2.2.2 12) (S.2.2.2 13) (S.2.1 2) (S.2.1 3) (S.2.1 4) (S.2.1 5) (S.2.1 10)) : ∀ (n15 : Nat) (v2_15 : Int32) (S_15 : gm_S × gm_S) (kp46 : Int32 → gm_S × gm_S → Prop) (kf46 : Int32 → gm_S × gm_S → Int32 × (gm_S × gm_S)), (gm_iT (S.2.2.2 11) (S.2.2.2 12) (S.2.2.2 13) (S.2.1 2) (S.2.1 3) (S.2.1 4) (S_15.2.1 5) (S.2.1 10)) → (∀ (w0 : Int32) (W : gm_S × gm_S), (gm_iT (S.2.2.2 11) (S.2.2.2 12) (S.2.2.2 13) (S.2.1 2) (S.2.1 3) (S.2.1 4) (W.2.1 5) (S.2.1 10)) → kp46 w0 W ∧ gx_q_Judge_settleEmptiness S (kf46 w0 W)) → (0 ≤ v2_15.toInt) → (v2_15.toInt ≤ 75) → (75 < v2_15.toInt + n15) → gm_p_Judge_settleEmptiness_15 S v1_2 S_2 n15 v2_15 S_15 kp46 ∧ gx_q_Judge_settleEmptiness S (gm_f_Judge_settleEmptiness_15 S v1_2 S_2 n15 v2_15 S_15 kf46) := by
  intro n15
  induction n15 with
  | zero =>
    intro v2_15 S_15 kp46 kf46 h2 hk h3 h4 h5; exfalso; skip; omega
  | succ n15 ih =>
    intro v2_15 S_15 kp46 kf46 h2 hk h3 h4 h5
    rw [gm_p_Judge_settleEmptiness_15, gm_f_Judge_settleEmptiness_15]
    refine gx_if (Q := gx_q_Judge_settleEmptiness S) (fun h6 => ?_) (fun h6 => ?_)
    · skip
      have h6_ := gx_le h6
      exact hk _ _ h2
    · skip
      have h6_ := gx_len h6
      refine gx_ca (Q := gx_q_Judge_settleEmptiness S) (gx_q_Judge_isEmptyByParts _ _) (gx_s_Judge_isEmptyByParts _ _ h2 (show 0 ≤ v2_15.toInt from (by omega)) (show v2_15.toInt ≤ 74 from (by omega))) ?_
      intro r36 u36 h7
      refine gx_in (Q := gx_q_Judge_settleEmptiness S) (vp_in_iff.mpr (by omega)) ?_
      exact ih _ _ _ _ ⟨h2.1, h2.2.1, h2.2.2.1, h2.2.2.2.1, h2.2.2.2.2.1, h2.2.2.2.2.2.1, (gx_u (P := fun x => x = 0 ∨ x = 1) h2.2.2.2.2.2.2.1 (gx_nb _)), h2.2.2.2.2.2.2.2⟩ hk (show 0 ≤ (v2_15 + 1).toInt from (by have := gx_ak v2_15 1 (1) (by decide); omega)) (show (v2_15 + 1).toInt ≤ 75 from (by have := gx_ak v2_15 1 (1) (by decide); omega)) (show 75 < ((v2_15 + 1).toInt + n15) from (by have := gx_ak v2_15 1 (1) (by decide); omega))
theorem gx_s_Judge_settleEmptiness_2 (S : gm_S × gm_S) (h1 : gm_iT (S.2.2.2 11) (S.2.2.2 12) (S.2.2.2 13) (S.2.1 2) (S.2.1 3) (S.2.1 4) (S.2.1 5) (S.2.1 10)) : ∀ (n2 : Nat) (v1_2 : Int32) (S_2 : gm_S × gm_S), (gm_iT (S.2.2.2 11) (S.2.2.2 12) (S.2.2.2 13) (S.2.1 2) (S.2.1 3) (S.2.1 4) (S_2.2.1 5) (S.2.1 10)) → (0 ≤ v1_2.toInt) → (v1_2.toInt ≤ 9) → (9 < v1_2.toInt + n2) → gm_p_Judge_settleEmptiness_2 S n2 v1_2 S_2 ∧ gx_q_Judge_settleEmptiness S (gm_f_Judge_settleEmptiness_2 S n2 v1_2 S_2) := by
  intro n2
  induction n2 with
  | zero =>
    intro v1_2 S_2 h2 h3 h4 h5; exfalso; skip; omega
  | succ n2 ih =>
    intro v1_2 S_2 h2 h3 h4 h5
    rw [gm_p_Judge_settleEmptiness_2, gm_f_Judge_settleEmptiness_2]
    refine gx_if (Q := gx_q_Judge_settleEmptiness S) (fun h6 => ?_) (fun h6 => ?_)
    · skip
      have h6_ := gx_lt h6
      exact ⟨trivial, h2⟩
    · skip
      have h6_ := gx_ltn h6
      refine gx_s_Judge_settleEmptiness_15 _ _ _ h1 _ _ _ _ _ h2 ?_ (show 0 ≤ (0 : Int32).toInt from (by have : (0 : Int32).toInt = 0 := (by decide); omega)) (show (0 : Int32).toInt ≤ 75 from (by have : (0 : Int32).toInt = 0 := (by decide); omega)) (show 75 < ((0 : Int32).toInt + 200) from (by have : (0 : Int32).toInt = 0 := (by decide); omega))
      intro v2_j46 S_j46 h7
      refine ih _ _ ?_ ?_ ?_ ?_
      · exact h7
      · exact (show 0 ≤ (v1_2 + 1).toInt from (by have := gx_ak v1_2 1 (1) (by decide); omega))
      · exact (show (v1_2 + 1).toInt ≤ 9 from (by have := gx_ak v1_2 1 (1) (by decide); omega))
      · exact (show 9 < ((v1_2 + 1).toInt + n2) from (by have := gx_ak v1_2 1 (1) (by decide); omega))
theorem gx_s_Judge_settleEmptiness (S : gm_S × gm_S) (h1 : gm_iT (S.2.2.2 11) (S.2.2.2 12) (S.2.2.2 13) (S.2.1 2) (S.2.1 3) (S.2.1 4) (S.2.1 5) (S.2.1 10)) : gm_p_Judge_settleEmptiness S ∧ gx_q_Judge_settleEmptiness S (gm_f_Judge_settleEmptiness S) := by
  unfold gm_p_Judge_settleEmptiness gm_f_Judge_settleEmptiness
  refine gx_s_Judge_settleEmptiness_2 _ ?_ _ _ _ ?_ ?_ ?_ ?_
  · exact h1
  · exact h1
  · exact (show 0 ≤ (0 : Int32).toInt from (by have : (0 : Int32).toInt = 0 := (by decide); omega))
  · exact (show (0 : Int32).toInt ≤ 9 from (by have : (0 : Int32).toInt = 0 := (by decide); omega))
  · exact (show 9 < ((0 : Int32).toInt + 200) from (by have : (0 : Int32).toInt = 0 := (by decide); omega))
abbrev gx_q_Judge_settleBeginnings (S : gm_S × gm_S) (z : Int32 × (gm_S × gm_S)) : Prop := True
theorem gx_s_Judge_settleBeginnings_15 (S : gm_S × gm_S) (v1_2 : Int32) (S_2 : gm_S × gm_S) (h1 : gm_iT (S.2.2.2 11) (S.2.2.2 12) (S.2.2.2 13) (S.2.1 2) (S.2.1 3) (S.2.1 4) (S.2.1 5) (S.2.1 10)) : ∀ (n15 : Nat) (v2_15 : Int32) (S_15 : gm_S × gm_S) (kp46 : Int32 → gm_S × gm_S → Prop) (kf46 : Int32 → gm_S × gm_S → Int32 × (gm_S × gm_S)), (∀ (w0 : Int32) (W : gm_S × gm_S),  kp46 w0 W ∧ gx_q_Judge_settleBeginnings S (kf46 w0 W)) → (0 ≤ v2_15.toInt) → (v2_15.toInt ≤ 75) → (75 < v2_15.toInt + n15) → gm_p_Judge_settleBeginnings_15 S v1_2 S_2 n15 v2_15 S_15 kp46 ∧ gx_q_Judge_settleBeginnings S (gm_f_Judge_settleBeginnings_15 S v1_2 S_2 n15 v2_15 S_15 kf46) := by
  intro n15
  induction n15 with
  | zero =>
    intro v2_15 S_15 kp46 kf46 hk h2 h3 h4; exfalso; skip; omega
  | succ n15 ih =>
    intro v2_15 S_15 kp46 kf46 hk h2 h3 h4
    rw [gm_p_Judge_settleBeginnings_15, gm_f_Judge_settleBeginnings_15]
    refine gx_if (Q := gx_q_Judge_settleBeginnings S) (fun h5 => ?_) (fun h5 => ?_)
    · skip
      have h5_ := gx_le h5
      exact hk _ _ 
    · skip
      have h5_ := gx_len h5
      refine gx_ca (Q := gx_q_Judge_settleBeginnings S) (gx_q_Judge_beginningsByParts _ _) (gx_s_Judge_beginningsByParts _ _ h1 (show 0 ≤ v2_15.toInt from (by omega)) (show v2_15.toInt ≤ 74 from (by omega))) ?_
      intro r36 u36 h6
      refine gx_in (Q := gx_q_Judge_settleBeginnings S) (vp_in_iff.mpr (by omega)) ?_
      exact ih _ _ _ _  hk (show 0 ≤ (v2_15 + 1).toInt from (by have := gx_ak v2_15 1 (1) (by decide); omega)) (show (v2_15 + 1).toInt ≤ 75 from (by have := gx_ak v2_15 1 (1) (by decide); omega)) (show 75 < ((v2_15 + 1).toInt + n15) from (by have := gx_ak v2_15 1 (1) (by decide); omega))
theorem gx_s_Judge_settleBeginnings_2 (S : gm_S × gm_S) (h1 : gm_iT (S.2.2.2 11) (S.2.2.2 12) (S.2.2.2 13) (S.2.1 2) (S.2.1 3) (S.2.1 4) (S.2.1 5) (S.2.1 10)) : ∀ (n2 : Nat) (v1_2 : Int32) (S_2 : gm_S × gm_S), (0 ≤ v1_2.toInt) → (v1_2.toInt ≤ 9) → (9 < v1_2.toInt + n2) → gm_p_Judge_settleBeginnings_2 S n2 v1_2 S_2 ∧ gx_q_Judge_settleBeginnings S (gm_f_Judge_settleBeginnings_2 S n2 v1_2 S_2) := by
  intro n2
  induction n2 with
  | zero =>
    intro v1_2 S_2 h2 h3 h4; exfalso; skip; omega
  | succ n2 ih =>
    intro v1_2 S_2 h2 h3 h4
    rw [gm_p_Judge_settleBeginnings_2, gm_f_Judge_settleBeginnings_2]
    refine gx_if (Q := gx_q_Judge_settleBeginnings S) (fun h5 => ?_) (fun h5 => ?_)
    · skip
      have h5_ := gx_lt h5
      exact ⟨trivial, trivial⟩
    · skip
      have h5_ := gx_ltn h5
      refine gx_s_Judge_settleBeginnings_15 _ _ _ h1 _ _ _ _ _  ?_ (show 0 ≤ (0 : Int32).toInt from (by have : (0 : Int32).toInt = 0 := (by decide); omega)) (show (0 : Int32).toInt ≤ 75 from (by have : (0 : Int32).toInt = 0 := (by decide); omega)) (show 75 < ((0 : Int32).toInt + 200) from (by have : (0 : Int32).toInt = 0 := (by decide); omega))
      intro v2_j46 S_j46 
      refine ih _ _ ?_ ?_ ?_
      · exact (show 0 ≤ (v1_2 + 1).toInt from (by have := gx_ak v1_2 1 (1) (by decide); omega))
      · exact (show (v1_2 + 1).toInt ≤ 9 from (by have := gx_ak v1_2 1 (1) (by decide); omega))
      · exact (show 9 < ((v1_2 + 1).toInt + n2) from (by have := gx_ak v1_2 1 (1) (by decide); omega))
theorem gx_s_Judge_settleBeginnings (S : gm_S × gm_S) (h1 : gm_iT (S.2.2.2 11) (S.2.2.2 12) (S.2.2.2 13) (S.2.1 2) (S.2.1 3) (S.2.1 4) (S.2.1 5) (S.2.1 10)) : gm_p_Judge_settleBeginnings S ∧ gx_q_Judge_settleBeginnings S (gm_f_Judge_settleBeginnings S) := by
  unfold gm_p_Judge_settleBeginnings gm_f_Judge_settleBeginnings
  refine gx_s_Judge_settleBeginnings_2 _ ?_ _ _ _ ?_ ?_ ?_
  · exact h1
  · exact (show 0 ≤ (0 : Int32).toInt from (by have : (0 : Int32).toInt = 0 := (by decide); omega))
  · exact (show (0 : Int32).toInt ≤ 9 from (by have : (0 : Int32).toInt = 0 := (by decide); omega))
  · exact (show 9 < ((0 : Int32).toInt + 200) from (by have : (0 : Int32).toInt = 0 := (by decide); omega))
abbrev gx_q_Judge_settleHeads (S : gm_S × gm_S) (z : Int32 × (gm_S × gm_S)) : Prop := True
theorem gx_s_Judge_settleHeads_15 (S : gm_S × gm_S) (v1_2 : Int32) (S_2 : gm_S × gm_S) (h1 : gm_iT (S.2.2.2 11) (S.2.2.2 12) (S.2.2.2 13) (S.2.1 2) (S.2.1 3) (S.2.1 4) (S.2.1 5) (S.2.1 10)) : ∀ (n15 : Nat) (v2_15 : Int32) (S_15 : gm_S × gm_S) (kp37 : Int32 → gm_S × gm_S → Prop) (kf37 : Int32 → gm_S × gm_S → Int32 × (gm_S × gm_S)), (∀ (w0 : Int32) (W : gm_S × gm_S),  kp37 w0 W ∧ gx_q_Judge_settleHeads S (kf37 w0 W)) → (0 ≤ v2_15.toInt) → (v2_15.toInt ≤ 75) → (75 < v2_15.toInt + n15) → gm_p_Judge_settleHeads_15 S v1_2 S_2 n15 v2_15 S_15 kp37 ∧ gx_q_Judge_settleHeads S (gm_f_Judge_settleHeads_15 S v1_2 S_2 n15 v2_15 S_15 kf37) := by
  intro n15
  induction n15 with
  | zero =>
    intro v2_15 S_15 kp37 kf37 hk h2 h3 h4; exfalso; skip; omega
  | succ n15 ih =>
    intro v2_15 S_15 kp37 kf37 hk h2 h3 h4
    rw [gm_p_Judge_settleHeads_15, gm_f_Judge_settleHeads_15]
    refine gx_if (Q := gx_q_Judge_settleHeads S) (fun h5 => ?_) (fun h5 => ?_)
    · skip
      have h5_ := gx_le h5
      exact hk _ _ 
    · skip
      have h5_ := gx_len h5
      refine gx_ca (Q := gx_q_Judge_settleHeads S) (gx_q_Judge_settleHead _ _) (gx_s_Judge_settleHead _ _ h1 (show 0 ≤ v2_15.toInt from (by omega)) (show v2_15.toInt ≤ 74 from (by omega))) ?_
      intro r_h6 u28 h6
      exact ih _ _ _ _  hk (show 0 ≤ (v2_15 + 1).toInt from (by have := gx_ak v2_15 1 (1) (by decide); omega)) (show (v2_15 + 1).toInt ≤ 75 from (by have := gx_ak v2_15 1 (1) (by decide); omega)) (show 75 < ((v2_15 + 1).toInt + n15) from (by have := gx_ak v2_15 1 (1) (by decide); omega))
theorem gx_s_Judge_settleHeads_2 (S : gm_S × gm_S) (h1 : gm_iT (S.2.2.2 11) (S.2.2.2 12) (S.2.2.2 13) (S.2.1 2) (S.2.1 3) (S.2.1 4) (S.2.1 5) (S.2.1 10)) : ∀ (n2 : Nat) (v1_2 : Int32) (S_2 : gm_S × gm_S), (0 ≤ v1_2.toInt) → (v1_2.toInt ≤ 9) → (9 < v1_2.toInt + n2) → gm_p_Judge_settleHeads_2 S n2 v1_2 S_2 ∧ gx_q_Judge_settleHeads S (gm_f_Judge_settleHeads_2 S n2 v1_2 S_2) := by
  intro n2
  induction n2 with
  | zero =>
    intro v1_2 S_2 h2 h3 h4; exfalso; skip; omega
  | succ n2 ih =>
    intro v1_2 S_2 h2 h3 h4
    rw [gm_p_Judge_settleHeads_2, gm_f_Judge_settleHeads_2]
    refine gx_if (Q := gx_q_Judge_settleHeads S) (fun h5 => ?_) (fun h5 => ?_)
    · skip
      have h5_ := gx_lt h5
      exact ⟨trivial, trivial⟩
    · skip
      have h5_ := gx_ltn h5
      refine gx_s_Judge_settleHeads_15 _ _ _ h1 _ _ _ _ _  ?_ (show 0 ≤ (0 : Int32).toInt from (by have : (0 : Int32).toInt = 0 := (by decide); omega)) (show (0 : Int32).toInt ≤ 75 from (by have : (0 : Int32).toInt = 0 := (by decide); omega)) (show 75 < ((0 : Int32).toInt + 200) from (by have : (0 : Int32).toInt = 0 := (by decide); omega))
      intro v2_j37 S_j37 
      refine ih _ _ ?_ ?_ ?_
      · exact (show 0 ≤ (v1_2 + 1).toInt from (by have := gx_ak v1_2 1 (1) (by decide); omega))
      · exact (show (v1_2 + 1).toInt ≤ 9 from (by have := gx_ak v1_2 1 (1) (by decide); omega))
      · exact (show 9 < ((v1_2 + 1).toInt + n2) from (by have := gx_ak v1_2 1 (1) (by decide); omega))
theorem gx_s_Judge_settleHeads (S : gm_S × gm_S) (h1 : gm_iT (S.2.2.2 11) (S.2.2.2 12) (S.2.2.2 13) (S.2.1 2) (S.2.1 3) (S.2.1 4) (S.2.1 5) (S.2.1 10)) : gm_p_Judge_settleHeads S ∧ gx_q_Judge_settleHeads S (gm_f_Judge_settleHeads S) := by
  unfold gm_p_Judge_settleHeads gm_f_Judge_settleHeads
  refine gx_s_Judge_settleHeads_2 _ ?_ _ _ _ ?_ ?_ ?_
  · exact h1
  · exact (show 0 ≤ (0 : Int32).toInt from (by have : (0 : Int32).toInt = 0 := (by decide); omega))
  · exact (show (0 : Int32).toInt ≤ 9 from (by have : (0 : Int32).toInt = 0 := (by decide); omega))
  · exact (show 9 < ((0 : Int32).toInt + 200) from (by have : (0 : Int32).toInt = 0 := (by decide); omega))
abbrev gx_q_Judge_firstRunaway (S : gm_S × gm_S) (z : Int32 × (gm_S × gm_S)) : Prop := (gm_iT (S.2.2.2 11) (S.2.2.2 12) (S.2.2.2 13) (S.2.1 2) (S.2.1 3) (S.2.1 4) (z.2.2.1 5) (S.2.1 10))
theorem gx_s_Judge_firstRunaway_10 (S : gm_S × gm_S) (u1 : gm_S × gm_S) (u5 : gm_S × gm_S) (h1 : gm_iT (S.2.2.2 11) (S.2.2.2 12) (S.2.2.2 13) (S.2.1 2) (S.2.1 3) (S.2.1 4) (S.2.1 5) (S.2.1 10)) : ∀ (n10 : Nat) (v1_10 : Int32) (S_10 : gm_S × gm_S), (gm_iT (S.2.2.2 11) (S.2.2.2 12) (S.2.2.2 13) (S.2.1 2) (S.2.1 3) (S.2.1 4) (S_10.2.1 5) (S.2.1 10)) → (0 ≤ v1_10.toInt) → (v1_10.toInt ≤ 8) → (8 < v1_10.toInt + n10) → gm_p_Judge_firstRunaway_10 S u1 u5 n10 v1_10 S_10 ∧ gx_q_Judge_firstRunaway S (gm_f_Judge_firstRunaway_10 S u1 u5 n10 v1_10 S_10) := by
  intro n10
  induction n10 with
  | zero =>
    intro v1_10 S_10 h2 h3 h4 h5; exfalso; skip; omega
  | succ n10 ih =>
    intro v1_10 S_10 h2 h3 h4 h5
    rw [gm_p_Judge_firstRunaway_10, gm_f_Judge_firstRunaway_10]
    refine gx_if (Q := gx_q_Judge_firstRunaway S) (fun h6 => ?_) (fun h6 => ?_)
    · skip
      have h6_ := gx_le h6
      exact ⟨trivial, h2⟩
    · skip
      have h6_ := gx_len h6
      refine gx_in (Q := gx_q_Judge_firstRunaway S) (vp_in_iff.mpr (by omega)) ?_
      refine gx_in (Q := gx_q_Judge_firstRunaway S) (vp_in_iff.mpr (by have := h1.2.2.2.2.2.2.2 (Int32.toNatClampNeg v1_10); have := h2.2.2.2.2.2.2.2 (Int32.toNatClampNeg v1_10); omega)) ?_
      refine gx_if (Q := gx_q_Judge_firstRunaway S) (fun h7 => ?_) (fun h7 => ?_)
      · skip
        clear h7
        refine gx_ca (Q := gx_q_Judge_firstRunaway S) (gx_q_Judge_isEndless _ _) (gx_s_Judge_isEndless _ _ h2 (show 0 ≤ v1_10.toInt from (by omega)) (show v1_10.toInt ≤ 7 from (by omega))) ?_
        intro r57 u57 h8
        refine gx_if (Q := gx_q_Judge_firstRunaway S) (fun h9 => ?_) (fun h9 => ?_)
        · skip
          have h9_ := gx_eqr (k := 0) (by decide) h9
          refine ih _ _ ?_ ?_ ?_ ?_
          · exact h2
          · exact (show 0 ≤ (v1_10 + 1).toInt from (by have := gx_ak v1_10 1 (1) (by decide); omega))
          · exact (show (v1_10 + 1).toInt ≤ 8 from (by have := gx_ak v1_10 1 (1) (by decide); omega))
          · exact (show 8 < ((v1_10 + 1).toInt + n10) from (by have := gx_ak v1_10 1 (1) (by decide); omega))
        · skip
          have h9_ := gx_eqnr (k := 0) (by decide) h9
          refine gx_in (Q := gx_q_Judge_firstRunaway S) (vp_in_iff.mpr (by omega)) ?_
          exact ⟨trivial, h2⟩
      · skip
        clear h7
        refine gx_in (Q := gx_q_Judge_firstRunaway S) (vp_in_iff.mpr (by omega)) ?_
        exact ⟨trivial, h2⟩
theorem gx_s_Judge_firstRunaway (S : gm_S × gm_S) (h1 : gm_iT (S.2.2.2 11) (S.2.2.2 12) (S.2.2.2 13) (S.2.1 2) (S.2.1 3) (S.2.1 4) (S.2.1 5) (S.2.1 10)) : gm_p_Judge_firstRunaway S ∧ gx_q_Judge_firstRunaway S (gm_f_Judge_firstRunaway S) := by
  unfold gm_p_Judge_firstRunaway gm_f_Judge_firstRunaway
  refine gx_ca (Q := gx_q_Judge_firstRunaway S) (gx_q_Judge_settleEmptiness _) (gx_s_Judge_settleEmptiness _ h1) ?_
  intro r_h2 u1 h2
  have h2_0 : gm_iT (S.2.2.2 11) (S.2.2.2 12) (S.2.2.2 13) (S.2.1 2) (S.2.1 3) (S.2.1 4) (u1.2.1 5) (S.2.1 10) := h2
  refine gx_ca (Q := gx_q_Judge_firstRunaway S) (gx_q_Judge_settleBeginnings _) (gx_s_Judge_settleBeginnings _ h2_0) ?_
  intro r_h3 u5 h3
  refine gx_s_Judge_firstRunaway_10 _ _ _ ?_ _ _ _ ?_ ?_ ?_ ?_
  · exact h1
  · exact h2_0
  · exact (show 0 ≤ (0 : Int32).toInt from (by have : (0 : Int32).toInt = 0 := (by decide); omega))
  · exact (show (0 : Int32).toInt ≤ 8 from (by have : (0 : Int32).toInt = 0 := (by decide); omega))
  · exact (show 8 < ((0 : Int32).toInt + 200) from (by have : (0 : Int32).toInt = 0 := (by decide); omega))
abbrev gx_q_Code_operation (x : Int32) (S : gm_S × gm_S) (z : Int32 × (gm_S × gm_S)) : Prop := True
theorem gx_s_Code_operation (x : Int32) (S : gm_S × gm_S) (h1 : gm_iN 200 (S.1.2.2 5)) (h2 : gm_iT (S.2.2.2 11) (S.2.2.2 12) (S.2.2.2 13) (S.2.1 2) (S.2.1 3) (S.2.1 4) (S.2.1 5) (S.2.1 10)) : gm_p_Code_operation x S ∧ gx_q_Code_operation x S (gm_f_Code_operation x S) := by
  unfold gm_p_Code_operation gm_f_Code_operation
  refine gx_if (Q := gx_q_Code_operation x S) (fun h3 => ?_) (fun h3 => ?_)
  · skip
    have h3_ := gx_ltr (k := 0) (by decide) h3
    exact ⟨trivial, trivial⟩
  · skip
    have h3_ := gx_ltnr (k := 0) (by decide) h3
    refine gx_if (Q := gx_q_Code_operation x S) (fun h4 => ?_) (fun h4 => ?_)
    · skip
      have h4_ := gx_le h4
      exact ⟨trivial, trivial⟩
    · skip
      have h4_ := gx_len h4
      refine gx_in (Q := gx_q_Code_operation x S) (vp_in_iff.mpr (by omega)) ?_
      exact ⟨trivial, trivial⟩
abbrev gx_q_Code_operand (x : Int32) (S : gm_S × gm_S) (z : Int32 × (gm_S × gm_S)) : Prop := True
theorem gx_s_Code_operand (x : Int32) (S : gm_S × gm_S) (h1 : gm_iN 200 (S.1.2.2 5)) (h2 : gm_iT (S.2.2.2 11) (S.2.2.2 12) (S.2.2.2 13) (S.2.1 2) (S.2.1 3) (S.2.1 4) (S.2.1 5) (S.2.1 10)) : gm_p_Code_operand x S ∧ gx_q_Code_operand x S (gm_f_Code_operand x S) := by
  unfold gm_p_Code_operand gm_f_Code_operand
  refine gx_if (Q := gx_q_Code_operand x S) (fun h3 => ?_) (fun h3 => ?_)
  · skip
    have h3_ := gx_ltr (k := 0) (by decide) h3
    exact ⟨trivial, trivial⟩
  · skip
    have h3_ := gx_ltnr (k := 0) (by decide) h3
    refine gx_if (Q := gx_q_Code_operand x S) (fun h4 => ?_) (fun h4 => ?_)
    · skip
      have h4_ := gx_le h4
      exact ⟨trivial, trivial⟩
    · skip
      have h4_ := gx_len h4
      refine gx_in (Q := gx_q_Code_operand x S) (vp_in_iff.mpr (by omega)) ?_
      exact ⟨trivial, trivial⟩
abbrev gx_q_Code_target (x : Int32) (S : gm_S × gm_S) (z : Int32 × (gm_S × gm_S)) : Prop := True
theorem gx_s_Code_target (x : Int32) (S : gm_S × gm_S) (h1 : gm_iN 200 (S.1.2.2 5)) (h2 : gm_iT (S.2.2.2 11) (S.2.2.2 12) (S.2.2.2 13) (S.2.1 2) (S.2.1 3) (S.2.1 4) (S.2.1 5) (S.2.1 10)) : gm_p_Code_target x S ∧ gx_q_Code_target x S (gm_f_Code_target x S) := by
  unfold gm_p_Code_target gm_f_Code_target
  refine gx_if (Q := gx_q_Code_target x S) (fun h3 => ?_) (fun h3 => ?_)
  · skip
    have h3_ := gx_ltr (k := 0) (by decide) h3
    exact ⟨trivial, trivial⟩
  · skip
    have h3_ := gx_ltnr (k := 0) (by decide) h3
    refine gx_if (Q := gx_q_Code_target x S) (fun h4 => ?_) (fun h4 => ?_)
    · skip
      have h4_ := gx_le h4
      exact ⟨trivial, trivial⟩
    · skip
      have h4_ := gx_len h4
      refine gx_in (Q := gx_q_Code_target x S) (vp_in_iff.mpr (by omega)) ?_
      exact ⟨trivial, trivial⟩
abbrev gx_q_Code_start (x : Int32) (S : gm_S × gm_S) (z : Int32 × (gm_S × gm_S)) : Prop := True
theorem gx_s_Code_start (x : Int32) (S : gm_S × gm_S) (h1 : gm_iN 200 (S.1.2.2 5)) (h2 : gm_iT (S.2.2.2 11) (S.2.2.2 12) (S.2.2.2 13) (S.2.1 2) (S.2.1 3) (S.2.1 4) (S.2.1 5) (S.2.1 10)) : gm_p_Code_start x S ∧ gx_q_Code_start x S (gm_f_Code_start x S) := by
  unfold gm_p_Code_start gm_f_Code_start
  refine gx_if (Q := gx_q_Code_start x S) (fun h3 => ?_) (fun h3 => ?_)
  · skip
    have h3_ := gx_ltr (k := 0) (by decide) h3
    exact ⟨trivial, trivial⟩
  · skip
    have h3_ := gx_ltnr (k := 0) (by decide) h3
    refine gx_if (Q := gx_q_Code_start x S) (fun h4 => ?_) (fun h4 => ?_)
    · skip
      have h4_ := gx_le h4
      exact ⟨trivial, trivial⟩
    · skip
      have h4_ := gx_len h4
      refine gx_in (Q := gx_q_Code_start x S) (vp_in_iff.mpr (by omega)) ?_
      exact ⟨trivial, trivial⟩
abbrev gx_q_Code_add (x : Int32) (y : Int32) (S : gm_S × gm_S) (z : Int32 × (gm_S × gm_S)) : Prop := (gm_iN 200 (z.2.1.2.2 5)) ∧ ((-1 ≤ z.1.toInt) ∧ (z.1.toInt ≤ 199))
theorem gx_s_Code_add (x : Int32) (y : Int32) (S : gm_S × gm_S) (h1 : gm_iN 200 (S.1.2.2 5)) (h2 : gm_iT (S.2.2.2 11) (S.2.2.2 12) (S.2.2.2 13) (S.2.1 2) (S.2.1 3) (S.2.1 4) (S.2.1 5) (S.2.1 10)) : gm_p_Code_add x y S ∧ gx_q_Code_add x y S (gm_f_Code_add x y S) := by
  unfold gm_p_Code_add gm_f_Code_add
  refine gx_if (Q := gx_q_Code_add x y S) (fun h3 => ?_) (fun h3 => ?_)
  · skip
    have h3_ := gx_ltr (k := 200) (gx_lit 200 (by decide)) h3
    refine gx_in (Q := gx_q_Code_add x y S) (vp_in_iff.mpr (by omega)) ?_
    refine gx_in (Q := gx_q_Code_add x y S) (vp_in_iff.mpr (by omega)) ?_
    refine gx_in (Q := gx_q_Code_add x y S) (vp_in_iff.mpr (by omega)) ?_
    exact ⟨trivial, ⟨(show 0 ≤ ((S.1.2.2 5) + 1).toInt ∧ ((S.1.2.2 5) + 1).toInt ≤ 200 from (by have := gx_ak (S.1.2.2 5) 1 (1) (by decide); omega)), (show ((-1) ≤ (((S.1.2.2 5) + 1) - 1).toInt) ∧ ((((S.1.2.2 5) + 1) - 1).toInt ≤ 199) from (by have := gx_sk ((S.1.2.2 5) + 1) 1 (1) (by decide); have := gx_ak (S.1.2.2 5) 1 (1) (by decide); omega))⟩⟩
  · skip
    have h3_ := gx_ltnr (k := 200) (gx_lit 200 (by decide)) h3
    exact ⟨trivial, ⟨h1, (show ((-1) ≤ ((-1) : Int32).toInt) ∧ (((-1) : Int32).toInt ≤ 199) from (by have : ((-1) : Int32).toInt = -1 := (by decide); omega))⟩⟩
abbrev gx_q_Code_aim (x : Int32) (S : gm_S × gm_S) (z : Int32 × (gm_S × gm_S)) : Prop := True
theorem gx_s_Code_aim (x : Int32) (S : gm_S × gm_S) (h1 : gm_iN 200 (S.1.2.2 5)) (h2 : gm_iT (S.2.2.2 11) (S.2.2.2 12) (S.2.2.2 13) (S.2.1 2) (S.2.1 3) (S.2.1 4) (S.2.1 5) (S.2.1 10)) : gm_p_Code_aim x S ∧ gx_q_Code_aim x S (gm_f_Code_aim x S) := by
  unfold gm_p_Code_aim gm_f_Code_aim
  refine gx_if (Q := gx_q_Code_aim x S) (fun h3 => ?_) (fun h3 => ?_)
  · skip
    have h3_ := gx_ltr (k := 0) (by decide) h3
    exact ⟨trivial, trivial⟩
  · skip
    have h3_ := gx_ltnr (k := 0) (by decide) h3
    refine gx_if (Q := gx_q_Code_aim x S) (fun h4 => ?_) (fun h4 => ?_)
    · skip
      have h4_ := gx_le h4
      exact ⟨trivial, trivial⟩
    · skip
      have h4_ := gx_len h4
      refine gx_in (Q := gx_q_Code_aim x S) (vp_in_iff.mpr (by omega)) ?_
      exact ⟨trivial, trivial⟩
abbrev gx_q_Code_writeLook (x : Int32) (S : gm_S × gm_S) (z : Int32 × (gm_S × gm_S)) : Prop := (gm_iN 200 (z.2.1.2.2 5))
theorem gx_s_Code_writeLook (x : Int32) (S : gm_S × gm_S) (h1 : gm_iN 200 (S.1.2.2 5)) (h2 : gm_iT (S.2.2.2 11) (S.2.2.2 12) (S.2.2.2 13) (S.2.1 2) (S.2.1 3) (S.2.1 4) (S.2.1 5) (S.2.1 10)) (h3 : 0 ≤ x.toInt) (h4 : x.toInt ≤ 74) : gm_p_Code_writeLook x S ∧ gx_q_Code_writeLook x S (gm_f_Code_writeLook x S) := by
  unfold gm_p_Code_writeLook gm_f_Code_writeLook
  refine gx_in (Q := gx_q_Code_writeLook x S) (vp_in_iff.mpr (by omega)) ?_
  refine gx_if (Q := gx_q_Code_writeLook x S) (fun h5 => ?_) (fun h5 => ?_)
  · skip
    clear h5
    refine gx_ca (Q := gx_q_Code_writeLook x S) (gx_q_Code_add _ _ _) (gx_s_Code_add _ _ _ h1 h2) ?_
    intro r19 u19 h6
    have h6_0 : gm_iN 200 (u19.1.2.2 5) := h6.1
    have h6_1 : ((-1) ≤ r19.toInt) ∧ (r19.toInt ≤ 199) := h6.2
    exact ⟨trivial, h6_0⟩
  · skip
    clear h5
    exact ⟨trivial, h1⟩
abbrev gx_q_Code_aimCommitsFrom (x : Int32) (S : gm_S × gm_S) (z : Int32 × (gm_S × gm_S)) : Prop := True
theorem gx_s_Code_aimCommitsFrom_2 (x : Int32) (S : gm_S × gm_S) (h1 : gm_iN 200 (S.1.2.2 5)) (h2 : gm_iT (S.2.2.2 11) (S.2.2.2 12) (S.2.2.2 13) (S.2.1 2) (S.2.1 3) (S.2.1 4) (S.2.1 5) (S.2.1 10)) (h3 : 0 ≤ x.toInt) (h4 : x.toInt ≤ 200) : ∀ (n2 : Nat) (v2_2 : Int32) (S_2 : gm_S × gm_S), (0 ≤ v2_2.toInt) → (v2_2.toInt ≤ 200) → (200 < v2_2.toInt + n2) → gm_p_Code_aimCommitsFrom_2 x S n2 v2_2 S_2 ∧ gx_q_Code_aimCommitsFrom x S (gm_f_Code_aimCommitsFrom_2 x S n2 v2_2 S_2) := by
  intro n2
  induction n2 with
  | zero =>
    intro v2_2 S_2 h5 h6 h7; exfalso; skip; omega
  | succ n2 ih =>
    intro v2_2 S_2 h5 h6 h7
    rw [gm_p_Code_aimCommitsFrom_2, gm_f_Code_aimCommitsFrom_2]
    refine gx_if (Q := gx_q_Code_aimCommitsFrom x S) (fun h8 => ?_) (fun h8 => ?_)
    · skip
      have h8_ := gx_le h8
      exact ⟨trivial, trivial⟩
    · skip
      have h8_ := gx_len h8
      refine gx_in (Q := gx_q_Code_aimCommitsFrom x S) (vp_in_iff.mpr (by omega)) ?_
      refine gx_if (Q := gx_q_Code_aimCommitsFrom x S) (fun h9 => ?_) (fun h9 => ?_)
      · skip
        clear h9
        refine gx_in (Q := gx_q_Code_aimCommitsFrom x S) (vp_in_iff.mpr (by omega)) ?_
        refine gx_if (Q := gx_q_Code_aimCommitsFrom x S) (fun h10 => ?_) (fun h10 => ?_)
        · skip
          clear h10
          refine gx_ca (Q := gx_q_Code_aimCommitsFrom x S) (gx_q_Code_aim _ _) (gx_s_Code_aim _ _ h1 h2) ?_
          intro r_h11 u32 h11
          refine ih _ _ ?_ ?_ ?_
          · exact (show 0 ≤ (v2_2 + 1).toInt from (by have := gx_ak v2_2 1 (1) (by decide); omega))
          · exact (show (v2_2 + 1).toInt ≤ 200 from (by have := gx_ak v2_2 1 (1) (by decide); omega))
          · exact (show 200 < ((v2_2 + 1).toInt + n2) from (by have := gx_ak v2_2 1 (1) (by decide); omega))
        · skip
          clear h10
          refine ih _ _ ?_ ?_ ?_
          · exact (show 0 ≤ (v2_2 + 1).toInt from (by have := gx_ak v2_2 1 (1) (by decide); omega))
          · exact (show (v2_2 + 1).toInt ≤ 200 from (by have := gx_ak v2_2 1 (1) (by decide); omega))
          · exact (show 200 < ((v2_2 + 1).toInt + n2) from (by have := gx_ak v2_2 1 (1) (by decide); omega))
      · skip
        clear h9
        refine ih _ _ ?_ ?_ ?_
        · exact (show 0 ≤ (v2_2 + 1).toInt from (by have := gx_ak v2_2 1 (1) (by decide); omega))
        · exact (show (v2_2 + 1).toInt ≤ 200 from (by have := gx_ak v2_2 1 (1) (by decide); omega))
        · exact (show 200 < ((v2_2 + 1).toInt + n2) from (by have := gx_ak v2_2 1 (1) (by decide); omega))
theorem gx_s_Code_aimCommitsFrom (x : Int32) (S : gm_S × gm_S) (h1 : gm_iN 200 (S.1.2.2 5)) (h2 : gm_iT (S.2.2.2 11) (S.2.2.2 12) (S.2.2.2 13) (S.2.1 2) (S.2.1 3) (S.2.1 4) (S.2.1 5) (S.2.1 10)) (h3 : 0 ≤ x.toInt) (h4 : x.toInt ≤ 200) : gm_p_Code_aimCommitsFrom x S ∧ gx_q_Code_aimCommitsFrom x S (gm_f_Code_aimCommitsFrom x S) := by
  unfold gm_p_Code_aimCommitsFrom gm_f_Code_aimCommitsFrom
  refine gx_s_Code_aimCommitsFrom_2 _ _ ?_ ?_ ?_ ?_ _ _ _ ?_ ?_ ?_
  · exact h1
  · exact h2
  · exact (show 0 ≤ x.toInt from (by omega))
  · exact (show x.toInt ≤ 200 from (by omega))
  · exact (show 0 ≤ x.toInt from (by omega))
  · exact (show x.toInt ≤ 200 from (by omega))
  · exact (show 200 < (x.toInt + 300) from (by omega))
