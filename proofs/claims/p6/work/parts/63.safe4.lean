abbrev gx_q_Reader_isName (x : Int32) (z : Int32 × (Unit)) : Prop := True
set_option maxRecDepth 100000 in
theorem gx_s_Reader_isName (x : Int32) : gm_p_Reader_isName x ∧ gx_q_Reader_isName x (gm_f_Reader_isName x) := by
  unfold gm_p_Reader_isName gm_f_Reader_isName
  refine gx_if (Q := gx_q_Reader_isName x) (fun h1 => ?_) (fun h1 => ?_)
  · skip
    have h1_ := gx_ltr (k := 65) (gx_lit 65 (by decide)) h1
    exact ⟨trivial, trivial⟩
  · skip
    have h1_ := gx_ltnr (k := 65) (gx_lit 65 (by decide)) h1
    refine gx_if (Q := gx_q_Reader_isName x) (fun h2 => ?_) (fun h2 => ?_)
    · skip
      have h2_ := gx_ltl (k := 90) (gx_lit 90 (by decide)) h2
      exact ⟨trivial, trivial⟩
    · skip
      have h2_ := gx_ltnl (k := 90) (gx_lit 90 (by decide)) h2
      exact ⟨trivial, trivial⟩
abbrev gx_q_Reader_beginsPiece (x : Int32) (z : Int32 × (Unit)) : Prop := True
set_option maxRecDepth 100000 in
theorem gx_s_Reader_beginsPiece (x : Int32) : gm_p_Reader_beginsPiece x ∧ gx_q_Reader_beginsPiece x (gm_f_Reader_beginsPiece x) := by
  unfold gm_p_Reader_beginsPiece gm_f_Reader_beginsPiece
  refine gx_ca (Q := gx_q_Reader_beginsPiece x) (gx_q_Reader_isName _) (gx_s_Reader_isName _ ) ?_
  intro r1 u_h1 h1
  refine gx_if (Q := gx_q_Reader_beginsPiece x) (fun h2 => ?_) (fun h2 => ?_)
  · skip
    have h2_ := gx_eqr (k := 0) (by decide) h2
    refine gx_if (Q := gx_q_Reader_beginsPiece x) (fun h3 => ?_) (fun h3 => ?_)
    · skip
      have h3_ := gx_eqr (k := 38) (gx_lit 38 (by decide)) h3
      exact ⟨trivial, trivial⟩
    · skip
      have h3_ := gx_eqnr (k := 38) (gx_lit 38 (by decide)) h3
      refine gx_if (Q := gx_q_Reader_beginsPiece x) (fun h4 => ?_) (fun h4 => ?_)
      · skip
        have h4_ := gx_eqr (k := 33) (gx_lit 33 (by decide)) h4
        exact ⟨trivial, trivial⟩
      · skip
        have h4_ := gx_eqnr (k := 33) (gx_lit 33 (by decide)) h4
        refine gx_if (Q := gx_q_Reader_beginsPiece x) (fun h5 => ?_) (fun h5 => ?_)
        · skip
          have h5_ := gx_eqr (k := 39) (gx_lit 39 (by decide)) h5
          exact ⟨trivial, trivial⟩
        · skip
          have h5_ := gx_eqnr (k := 39) (gx_lit 39 (by decide)) h5
          refine gx_if (Q := gx_q_Reader_beginsPiece x) (fun h6 => ?_) (fun h6 => ?_)
          · skip
            have h6_ := gx_eqr (k := 91) (gx_lit 91 (by decide)) h6
            exact ⟨trivial, trivial⟩
          · skip
            have h6_ := gx_eqnr (k := 91) (gx_lit 91 (by decide)) h6
            refine gx_if (Q := gx_q_Reader_beginsPiece x) (fun h7 => ?_) (fun h7 => ?_)
            · skip
              have h7_ := gx_eqr (k := 46) (gx_lit 46 (by decide)) h7
              exact ⟨trivial, trivial⟩
            · skip
              have h7_ := gx_eqnr (k := 46) (gx_lit 46 (by decide)) h7
              refine gx_if (Q := gx_q_Reader_beginsPiece x) (fun h8 => ?_) (fun h8 => ?_)
              · skip
                have h8_ := gx_eqr (k := 40) (gx_lit 40 (by decide)) h8
                exact ⟨trivial, trivial⟩
              · skip
                have h8_ := gx_eqnr (k := 40) (gx_lit 40 (by decide)) h8
                refine gx_if (Q := gx_q_Reader_beginsPiece x) (fun h9 => ?_) (fun h9 => ?_)
                · skip
                  have h9_ := gx_eqr (k := 123) (gx_lit 123 (by decide)) h9
                  exact ⟨trivial, trivial⟩
                · skip
                  have h9_ := gx_eqnr (k := 123) (gx_lit 123 (by decide)) h9
                  exact ⟨trivial, trivial⟩
  · skip
    have h2_ := gx_eqnr (k := 0) (by decide) h2
    exact ⟨trivial, trivial⟩
abbrev gx_q_Reader_push (x : Int32) (S : gm_S × gm_S × gm_S) (z : Int32 × (gm_S × gm_S × gm_S)) : Prop := (gm_iN 75 (z.2.1.2.2 3))
set_option maxRecDepth 100000 in
theorem gx_s_Reader_push (x : Int32) (S : gm_S × gm_S × gm_S) (h1 : gm_iN 75 (S.1.2.2 3)) (h2 : gm_iW 50 (S.2.1.2.2 1) (S.2.1.1 0)) (h3 : gm_iT (S.2.2.2.2 11) (S.2.2.2.2 12) (S.2.2.2.2 13) (S.2.2.1 2) (S.2.2.1 3) (S.2.2.1 4) (S.2.2.1 5) (S.2.2.1 10)) : gm_p_Reader_push x S ∧ gx_q_Reader_push x S (gm_f_Reader_push x S) := by
  unfold gm_p_Reader_push gm_f_Reader_push
  refine gx_if (Q := gx_q_Reader_push x S) (fun h4 => ?_) (fun h4 => ?_)
  · skip
    have h4_ := gx_lel (k := 75) (gx_lit 75 (by decide)) h4
    exact ⟨trivial, h1⟩
  · skip
    have h4_ := gx_lenl (k := 75) (gx_lit 75 (by decide)) h4
    refine gx_in (Q := gx_q_Reader_push x S) (vp_in_iff.mpr (by omega)) ?_
    exact ⟨trivial, (show 0 ≤ ((S.1.2.2 3) + 1).toInt ∧ ((S.1.2.2 3) + 1).toInt ≤ 75 from (by have := gx_ak (S.1.2.2 3) 1 (1) (by decide); omega))⟩
abbrev gx_q_Reader_pushSet (x : Int32) (y : Int32) (S : gm_S × gm_S × gm_S) (z : Int32 × (gm_S × gm_S × gm_S)) : Prop := (gm_iN 75 (z.2.1.2.2 3)) ∧ (gm_iT (z.2.2.2.2.2 11) (S.2.2.2.2 12) (S.2.2.2.2 13) (z.2.2.2.1 2) (z.2.2.2.1 3) (S.2.2.1 4) (z.2.2.2.1 5) (S.2.2.1 10))
set_option maxRecDepth 100000 in
theorem gx_s_Reader_pushSet (x : Int32) (y : Int32) (S : gm_S × gm_S × gm_S) (h1 : gm_iN 75 (S.1.2.2 3)) (h2 : gm_iW 50 (S.2.1.2.2 1) (S.2.1.1 0)) (h3 : gm_iT (S.2.2.2.2 11) (S.2.2.2.2 12) (S.2.2.2.2 13) (S.2.2.1 2) (S.2.2.1 3) (S.2.2.1 4) (S.2.2.1 5) (S.2.2.1 10)) (h4 : 32 ≤ x.toInt) (h5 : x.toInt ≤ 126) (h6 : 32 ≤ y.toInt) (h7 : y.toInt ≤ 126) : gm_p_Reader_pushSet x y S ∧ gx_q_Reader_pushSet x y S (gm_f_Reader_pushSet x y S) := by
  unfold gm_p_Reader_pushSet gm_f_Reader_pushSet
  refine gx_ca (Q := gx_q_Reader_pushSet x y S) (gx_q_Tree_add _ _ _) (gx_s_Tree_add _ _ _ h3) ?_
  intro r6 u6 h8
  have h8_0 : gm_iT (u6.2.2 11) (S.2.2.2.2 12) (S.2.2.2.2 13) (u6.1 2) (u6.1 3) (S.2.2.1 4) (u6.1 5) (S.2.2.1 10) := h8
  refine gx_ca (Q := gx_q_Reader_pushSet x y S) (gx_q_Tree_include _ _ _ _) (gx_s_Tree_include _ _ _ _ h8_0 h4 h5 h6 h7) ?_
  intro r_h9 u17 h9
  refine gx_ca (Q := gx_q_Reader_pushSet x y S) (gx_q_Reader_push _ _) (gx_s_Reader_push _ _ h1 h2 h8_0) ?_
  intro r_h10 u22 h10
  have h10_0 : gm_iN 75 (u22.1.2.2 3) := h10
  exact ⟨trivial, ⟨h10_0, h8_0⟩⟩
abbrev gx_q_Reader_take (x : Int32) (S : gm_S × gm_S × gm_S) (z : Int32 × (gm_S × gm_S × gm_S)) : Prop := True
set_option maxRecDepth 100000 in
theorem gx_s_Reader_take (x : Int32) (S : gm_S × gm_S × gm_S) (h1 : gm_iN 75 (S.1.2.2 3)) (h2 : gm_iW 50 (S.2.1.2.2 1) (S.2.1.1 0)) (h3 : gm_iT (S.2.2.2.2 11) (S.2.2.2.2 12) (S.2.2.2.2 13) (S.2.2.1 2) (S.2.2.1 3) (S.2.2.1 4) (S.2.2.1 5) (S.2.2.1 10)) : gm_p_Reader_take x S ∧ gx_q_Reader_take x S (gm_f_Reader_take x S) := by
  unfold gm_p_Reader_take gm_f_Reader_take
  refine gx_if (Q := gx_q_Reader_take x S) (fun h4 => ?_) (fun h4 => ?_)
  · skip
    have h4_ := gx_eqr (k := 0) (by decide) h4
    refine gx_ca (Q := gx_q_Reader_take x S) (gx_q_Row_at _ _ _) (gx_s_Row_at _ _ _ h2) ?_
    intro r15 u15 h5
    have h5_0 : ((r15.toInt = (-1)) ∨ ((32 ≤ r15.toInt) ∧ (r15.toInt ≤ 126))) ∧ (r15 = (gm_f_Row_at 50 (S.1.2.2 4) S.2.1).1) := h5
    refine gx_if (Q := gx_q_Reader_take x S) (fun h6 => ?_) (fun h6 => ?_)
    · skip
      have h6_ := gx_eq h6
      exact ⟨trivial, trivial⟩
    · skip
      have h6_ := gx_eqn h6
      exact ⟨trivial, trivial⟩
  · skip
    have h4_ := gx_eqnr (k := 0) (by decide) h4
    exact ⟨trivial, trivial⟩
abbrev gx_q_Reader_need (x : Int32) (S : gm_S × gm_S × gm_S) (z : Int32 × (gm_S × gm_S × gm_S)) : Prop := True
set_option maxRecDepth 100000 in
theorem gx_s_Reader_need (x : Int32) (S : gm_S × gm_S × gm_S) (h1 : gm_iN 75 (S.1.2.2 3)) (h2 : gm_iW 50 (S.2.1.2.2 1) (S.2.1.1 0)) (h3 : gm_iT (S.2.2.2.2 11) (S.2.2.2.2 12) (S.2.2.2.2 13) (S.2.2.1 2) (S.2.2.1 3) (S.2.2.1 4) (S.2.2.1 5) (S.2.2.1 10)) : gm_p_Reader_need x S ∧ gx_q_Reader_need x S (gm_f_Reader_need x S) := by
  unfold gm_p_Reader_need gm_f_Reader_need
  refine gx_ca (Q := gx_q_Reader_need x S) (gx_q_Reader_take _ _) (gx_s_Reader_take _ _ h1 h2 h3) ?_
  intro r2 u2 h4
  refine gx_if (Q := gx_q_Reader_need x S) (fun h5 => ?_) (fun h5 => ?_)
  · skip
    have h5_ := gx_eqr (k := 0) (by decide) h5
    exact ⟨trivial, trivial⟩
  · skip
    have h5_ := gx_eqnr (k := 0) (by decide) h5
    exact ⟨trivial, trivial⟩
abbrev gx_q_Reader_join (x : Int32) (y : Int32) (S : gm_S × gm_S × gm_S) (z : Int32 × (gm_S × gm_S × gm_S)) : Prop := (gm_iN 75 (z.2.1.2.2 3)) ∧ (gm_iT (z.2.2.2.2.2 11) (z.2.2.2.2.2 12) (S.2.2.2.2 13) (z.2.2.2.1 2) (z.2.2.2.1 3) (z.2.2.2.1 4) (z.2.2.2.1 5) (S.2.2.1 10))
set_option maxRecDepth 100000 in
theorem gx_s_Reader_join_13 (x : Int32) (y : Int32) (S : gm_S × gm_S × gm_S) (r6 : Int32) (u6 : gm_S) (h1 : gm_iN 75 (S.1.2.2 3)) (h2 : gm_iW 50 (S.2.1.2.2 1) (S.2.1.1 0)) (h3 : gm_iT (S.2.2.2.2 11) (S.2.2.2.2 12) (S.2.2.2.2 13) (S.2.2.1 2) (S.2.2.1 3) (S.2.2.1 4) (S.2.2.1 5) (S.2.2.1 10)) (h4 : 0 ≤ y.toInt) (h5 : y.toInt ≤ 75) : ∀ (n13 : Nat) (v4_13 : Int32) (S_13 : gm_S × gm_S × gm_S), (gm_iN 75 (S_13.1.2.2 3)) → (gm_iT (S_13.2.2.2.2 11) (S_13.2.2.2.2 12) (S.2.2.2.2 13) (S_13.2.2.1 2) (S_13.2.2.1 3) (S_13.2.2.1 4) (S_13.2.2.1 5) (S.2.2.1 10)) → (0 ≤ v4_13.toInt) → (v4_13.toInt ≤ 75) → (75 < v4_13.toInt + n13) → gm_p_Reader_join_13 x y S r6 u6 n13 v4_13 S_13 ∧ gx_q_Reader_join x y S (gm_f_Reader_join_13 x y S r6 u6 n13 v4_13 S_13) := by
  intro n13
  induction n13 with
  | zero =>
    intro v4_13 S_13 h6 h7 h8 h9 h10; exfalso; skip; omega
  | succ n13 ih =>
    intro v4_13 S_13 h6 h7 h8 h9 h10
    rw [gm_p_Reader_join_13, gm_f_Reader_join_13]
    refine gx_if (Q := gx_q_Reader_join x y S) (fun h11 => ?_) (fun h11 => ?_)
    · skip
      have h11_ := gx_le h11
      refine gx_ca (Q := gx_q_Reader_join x y S) (gx_q_Reader_push _ _) (gx_s_Reader_push _ _ (show 0 ≤ y.toInt ∧ y.toInt ≤ 75 from (by omega)) h2 h7) ?_
      intro r_h12 u50 h12
      have h12_0 : gm_iN 75 (u50.1.2.2 3) := h12
      exact ⟨trivial, ⟨h12_0, h7⟩⟩
    · skip
      have h11_ := gx_len h11
      refine gx_in (Q := gx_q_Reader_join x y S) (vp_in_iff.mpr (by omega)) ?_
      refine gx_ca (Q := gx_q_Reader_join x y S) (gx_q_Tree_givePart _ _ _) (gx_s_Tree_givePart _ _ _ h7) ?_
      intro r_h12 u34 h12
      have h12_0 : gm_iT (S_13.2.2.2.2 11) (u34.2.2 12) (S.2.2.2.2 13) (S_13.2.2.1 2) (u34.1 3) (u34.1 4) (S_13.2.2.1 5) (S.2.2.1 10) := h12
      refine ih _ _ ?_ ?_ ?_ ?_ ?_
      · exact h6
      · exact h12_0
      · exact (show 0 ≤ (v4_13 + 1).toInt from (by have := gx_ak v4_13 1 (1) (by decide); omega))
      · exact (show (v4_13 + 1).toInt ≤ 75 from (by have := gx_ak v4_13 1 (1) (by decide); omega))
      · exact (show 75 < ((v4_13 + 1).toInt + n13) from (by have := gx_ak v4_13 1 (1) (by decide); omega))
set_option maxRecDepth 100000 in
theorem gx_s_Reader_join (x : Int32) (y : Int32) (S : gm_S × gm_S × gm_S) (h1 : gm_iN 75 (S.1.2.2 3)) (h2 : gm_iW 50 (S.2.1.2.2 1) (S.2.1.1 0)) (h3 : gm_iT (S.2.2.2.2 11) (S.2.2.2.2 12) (S.2.2.2.2 13) (S.2.2.1 2) (S.2.2.1 3) (S.2.2.1 4) (S.2.2.1 5) (S.2.2.1 10)) (h4 : 0 ≤ y.toInt) (h5 : y.toInt ≤ 75) : gm_p_Reader_join x y S ∧ gx_q_Reader_join x y S (gm_f_Reader_join x y S) := by
  unfold gm_p_Reader_join gm_f_Reader_join
  refine gx_ca (Q := gx_q_Reader_join x y S) (gx_q_Tree_add _ _ _) (gx_s_Tree_add _ _ _ h3) ?_
  intro r6 u6 h6
  have h6_0 : gm_iT (u6.2.2 11) (S.2.2.2.2 12) (S.2.2.2.2 13) (u6.1 2) (u6.1 3) (S.2.2.1 4) (u6.1 5) (S.2.2.1 10) := h6
  refine gx_s_Reader_join_13 _ _ _ _ _ ?_ ?_ ?_ ?_ ?_ _ _ _ ?_ ?_ ?_ ?_ ?_
  · exact h1
  · exact h2
  · exact h3
  · exact (show 0 ≤ y.toInt from (by omega))
  · exact (show y.toInt ≤ 75 from (by omega))
  · exact h1
  · exact h6_0
  · exact (show 0 ≤ y.toInt from (by omega))
  · exact (show y.toInt ≤ 75 from (by omega))
  · exact (show 75 < (y.toInt + 200) from (by omega))
abbrev gx_q_Reader_readRow (S : gm_S × gm_S × gm_S) (z : Int32 × (gm_S × gm_S × gm_S)) : Prop := (gm_iN 75 (z.2.1.2.2 3)) ∧ (gm_iT (z.2.2.2.2.2 11) (z.2.2.2.2.2 12) (S.2.2.2.2 13) (z.2.2.2.1 2) (z.2.2.2.1 3) (z.2.2.2.1 4) (z.2.2.2.1 5) (S.2.2.1 10))
set_option maxRecDepth 100000 in
theorem gx_s_Reader_readRow_7 (S : gm_S × gm_S × gm_S) (h1 : gm_iN 75 (S.1.2.2 3)) (h2 : gm_iW 50 (S.2.1.2.2 1) (S.2.1.1 0)) (h3 : gm_iT (S.2.2.2.2 11) (S.2.2.2.2 12) (S.2.2.2.2 13) (S.2.2.1 2) (S.2.2.1 3) (S.2.2.1 4) (S.2.2.1 5) (S.2.2.1 10)) : ∀ (n7 : Nat) (v2_7 : Int32) (S_7 : gm_S × gm_S × gm_S), (gm_iN 75 (S_7.1.2.2 3)) → (gm_iT (S_7.2.2.2.2 11) (S_7.2.2.2.2 12) (S.2.2.2.2 13) (S_7.2.2.1 2) (S_7.2.2.1 3) (S_7.2.2.1 4) (S_7.2.2.1 5) (S.2.2.1 10)) → (0 ≤ v2_7.toInt) → (v2_7.toInt ≤ 50) → (50 < v2_7.toInt + n7) → gm_p_Reader_readRow_7 S n7 v2_7 S_7 ∧ gx_q_Reader_readRow S (gm_f_Reader_readRow_7 S n7 v2_7 S_7) := by
  intro n7
  induction n7 with
  | zero =>
    intro v2_7 S_7 h4 h5 h6 h7 h8; exfalso; skip; omega
  | succ n7 ih =>
    intro v2_7 S_7 h4 h5 h6 h7 h8
    rw [gm_p_Reader_readRow_7, gm_f_Reader_readRow_7]
    refine gx_if (Q := gx_q_Reader_readRow S) (fun h9 => ?_) (fun h9 => ?_)
    · skip
      have h9_ := gx_lel (k := 50) (gx_lit 50 (by decide)) h9
      refine gx_if (Q := gx_q_Reader_readRow S) (fun h10 => ?_) (fun h10 => ?_)
      · skip
        have h10_ := gx_eq h10
        refine gx_ca (Q := gx_q_Reader_readRow S) (gx_q_Reader_need _ _) (gx_s_Reader_need _ _ h4 h2 h5) ?_
        intro r_h11 u102 h11
        refine gx_ca (Q := gx_q_Reader_readRow S) (gx_q_Reader_join _ _ _) (gx_s_Reader_join _ _ _ h4 h2 h5 (show 0 ≤ (S.1.2.2 3).toInt from (by omega)) (show (S.1.2.2 3).toInt ≤ 75 from (by omega))) ?_
        intro r_h12 u108 h12
        have h12_0 : gm_iN 75 (u108.1.2.2 3) := h12.1
        have h12_1 : gm_iT (u108.2.2.2.2 11) (u108.2.2.2.2 12) (S.2.2.2.2 13) (u108.2.2.1 2) (u108.2.2.1 3) (u108.2.2.1 4) (u108.2.2.1 5) (S.2.2.1 10) := h12.2
        exact ⟨trivial, ⟨h12_0, h12_1⟩⟩
      · skip
        have h10_ := gx_eqn h10
        refine gx_ca (Q := gx_q_Reader_readRow S) (gx_q_Reader_need _ _) (gx_s_Reader_need _ _ h4 h2 h5) ?_
        intro r_h11 u102 h11
        refine gx_ca (Q := gx_q_Reader_readRow S) (gx_q_Reader_join _ _ _) (gx_s_Reader_join _ _ _ h4 h2 h5 (show 0 ≤ (S.1.2.2 3).toInt from (by omega)) (show (S.1.2.2 3).toInt ≤ 75 from (by omega))) ?_
        intro r_h12 u108 h12
        have h12_0 : gm_iN 75 (u108.1.2.2 3) := h12.1
        have h12_1 : gm_iT (u108.2.2.2.2 11) (u108.2.2.2.2 12) (S.2.2.2.2 13) (u108.2.2.1 2) (u108.2.2.1 3) (u108.2.2.1 4) (u108.2.2.1 5) (S.2.2.1 10) := h12.2
        exact ⟨trivial, ⟨h12_0, h12_1⟩⟩
    · skip
      have h9_ := gx_lenl (k := 50) (gx_lit 50 (by decide)) h9
      refine gx_ca (Q := gx_q_Reader_readRow S) (gx_q_Row_at _ _ _) (gx_s_Row_at _ _ _ h2) ?_
      intro r21 u21 h10
      have h10_0 : ((r21.toInt = (-1)) ∨ ((32 ≤ r21.toInt) ∧ (r21.toInt ≤ 126))) ∧ (r21 = (gm_f_Row_at 50 (S_7.1.2.2 4) S.2.1).1) := h10
      refine gx_if (Q := gx_q_Reader_readRow S) (fun h11 => ?_) (fun h11 => ?_)
      · skip
        have h11_ := gx_eqr (k := -1) (by decide) h11
        refine gx_if (Q := gx_q_Reader_readRow S) (fun h12 => ?_) (fun h12 => ?_)
        · skip
          have h12_ := gx_eq h12
          refine gx_ca (Q := gx_q_Reader_readRow S) (gx_q_Reader_need _ _) (gx_s_Reader_need _ _ h4 h2 h5) ?_
          intro r_h13 u102 h13
          refine gx_ca (Q := gx_q_Reader_readRow S) (gx_q_Reader_join _ _ _) (gx_s_Reader_join _ _ _ h4 h2 h5 (show 0 ≤ (S.1.2.2 3).toInt from (by omega)) (show (S.1.2.2 3).toInt ≤ 75 from (by omega))) ?_
          intro r_h14 u108 h14
          have h14_0 : gm_iN 75 (u108.1.2.2 3) := h14.1
          have h14_1 : gm_iT (u108.2.2.2.2 11) (u108.2.2.2.2 12) (S.2.2.2.2 13) (u108.2.2.1 2) (u108.2.2.1 3) (u108.2.2.1 4) (u108.2.2.1 5) (S.2.2.1 10) := h14.2
          exact ⟨trivial, ⟨h14_0, h14_1⟩⟩
        · skip
          have h12_ := gx_eqn h12
          refine gx_ca (Q := gx_q_Reader_readRow S) (gx_q_Reader_need _ _) (gx_s_Reader_need _ _ h4 h2 h5) ?_
          intro r_h13 u102 h13
          refine gx_ca (Q := gx_q_Reader_readRow S) (gx_q_Reader_join _ _ _) (gx_s_Reader_join _ _ _ h4 h2 h5 (show 0 ≤ (S.1.2.2 3).toInt from (by omega)) (show (S.1.2.2 3).toInt ≤ 75 from (by omega))) ?_
          intro r_h14 u108 h14
          have h14_0 : gm_iN 75 (u108.1.2.2 3) := h14.1
          have h14_1 : gm_iT (u108.2.2.2.2 11) (u108.2.2.2.2 12) (S.2.2.2.2 13) (u108.2.2.1 2) (u108.2.2.1 3) (u108.2.2.1 4) (u108.2.2.1 5) (S.2.2.1 10) := h14.2
          exact ⟨trivial, ⟨h14_0, h14_1⟩⟩
      · skip
        have h11_ := gx_eqnr (k := -1) (by decide) h11
        refine gx_ca (Q := gx_q_Reader_readRow S) (gx_q_Row_at _ _ _) (gx_s_Row_at _ _ _ h2) ?_
        intro r36 u36 h12
        have h12_0 : ((r36.toInt = (-1)) ∨ ((32 ≤ r36.toInt) ∧ (r36.toInt ≤ 126))) ∧ (r36 = (gm_f_Row_at 50 (S_7.1.2.2 4) S.2.1).1) := h12
        have h12_f := gx_eq ((show r36 = _ from h12.2).trans (show r21 = _ from h10.2).symm)
        refine gx_if (Q := gx_q_Reader_readRow S) (fun h13 => ?_) (fun h13 => ?_)
        · skip
          have h13_ := gx_eqr (k := 39) (gx_lit 39 (by decide)) h13
          refine gx_if (Q := gx_q_Reader_readRow S) (fun h14 => ?_) (fun h14 => ?_)
          · skip
            have h14_ := gx_eq h14
            refine gx_ca (Q := gx_q_Reader_readRow S) (gx_q_Reader_need _ _) (gx_s_Reader_need _ _ h4 h2 h5) ?_
            intro r_h15 u102 h15
            refine gx_ca (Q := gx_q_Reader_readRow S) (gx_q_Reader_join _ _ _) (gx_s_Reader_join _ _ _ h4 h2 h5 (show 0 ≤ (S.1.2.2 3).toInt from (by omega)) (show (S.1.2.2 3).toInt ≤ 75 from (by omega))) ?_
            intro r_h16 u108 h16
            have h16_0 : gm_iN 75 (u108.1.2.2 3) := h16.1
            have h16_1 : gm_iT (u108.2.2.2.2 11) (u108.2.2.2.2 12) (S.2.2.2.2 13) (u108.2.2.1 2) (u108.2.2.1 3) (u108.2.2.1 4) (u108.2.2.1 5) (S.2.2.1 10) := h16.2
            exact ⟨trivial, ⟨h16_0, h16_1⟩⟩
          · skip
            have h14_ := gx_eqn h14
            refine gx_ca (Q := gx_q_Reader_readRow S) (gx_q_Reader_need _ _) (gx_s_Reader_need _ _ h4 h2 h5) ?_
            intro r_h15 u102 h15
            refine gx_ca (Q := gx_q_Reader_readRow S) (gx_q_Reader_join _ _ _) (gx_s_Reader_join _ _ _ h4 h2 h5 (show 0 ≤ (S.1.2.2 3).toInt from (by omega)) (show (S.1.2.2 3).toInt ≤ 75 from (by omega))) ?_
            intro r_h16 u108 h16
            have h16_0 : gm_iN 75 (u108.1.2.2 3) := h16.1
            have h16_1 : gm_iT (u108.2.2.2.2 11) (u108.2.2.2.2 12) (S.2.2.2.2 13) (u108.2.2.1 2) (u108.2.2.1 3) (u108.2.2.1 4) (u108.2.2.1 5) (S.2.2.1 10) := h16.2
            exact ⟨trivial, ⟨h16_0, h16_1⟩⟩
        · skip
          have h13_ := gx_eqnr (k := 39) (gx_lit 39 (by decide)) h13
          refine gx_ca (Q := gx_q_Reader_readRow S) (gx_q_Row_at _ _ _) (gx_s_Row_at _ _ _ h2) ?_
          intro r53 u53 h14
          have h14_0 : ((r53.toInt = (-1)) ∨ ((32 ≤ r53.toInt) ∧ (r53.toInt ≤ 126))) ∧ (r53 = (gm_f_Row_at 50 (S_7.1.2.2 4) S.2.1).1) := h14
          have h14_f := gx_eq ((show r53 = _ from h14.2).trans (show r21 = _ from h10.2).symm)
          refine gx_ca (Q := gx_q_Reader_readRow S) (gx_q_Row_at _ _ _) (gx_s_Row_at _ _ _ h2) ?_
          intro r64 u64 h15
          have h15_0 : ((r64.toInt = (-1)) ∨ ((32 ≤ r64.toInt) ∧ (r64.toInt ≤ 126))) ∧ (r64 = (gm_f_Row_at 50 (S_7.1.2.2 4) S.2.1).1) := h15
          have h15_f := gx_eq ((show r64 = _ from h15.2).trans (show r21 = _ from h10.2).symm)
          refine gx_ca (Q := gx_q_Reader_readRow S) (gx_q_Reader_pushSet _ _ _) (gx_s_Reader_pushSet _ _ _ h4 h2 h5 (show 32 ≤ r53.toInt from (by omega)) (show r53.toInt ≤ 126 from (by omega)) (show 32 ≤ r64.toInt from (by omega)) (show r64.toInt ≤ 126 from (by omega))) ?_
          intro r_h16 u67 h16
          have h16_0 : gm_iN 75 (u67.1.2.2 3) := h16.1
          have h16_1 : gm_iT (u67.2.2.2.2 11) (S_7.2.2.2.2 12) (S.2.2.2.2 13) (u67.2.2.1 2) (u67.2.2.1 3) (S_7.2.2.1 4) (u67.2.2.1 5) (S.2.2.1 10) := h16.2
          refine ih _ _ ?_ ?_ ?_ ?_ ?_
          · exact h16_0
          · exact h16_1
          · exact (show 0 ≤ (v2_7 + 1).toInt from (by have := gx_ak v2_7 1 (1) (by decide); omega))
          · exact (show (v2_7 + 1).toInt ≤ 50 from (by have := gx_ak v2_7 1 (1) (by decide); omega))
          · exact (show 50 < ((v2_7 + 1).toInt + n7) from (by have := gx_ak v2_7 1 (1) (by decide); omega))
set_option maxRecDepth 100000 in
theorem gx_s_Reader_readRow (S : gm_S × gm_S × gm_S) (h1 : gm_iN 75 (S.1.2.2 3)) (h2 : gm_iW 50 (S.2.1.2.2 1) (S.2.1.1 0)) (h3 : gm_iT (S.2.2.2.2 11) (S.2.2.2.2 12) (S.2.2.2.2 13) (S.2.2.1 2) (S.2.2.1 3) (S.2.2.1 4) (S.2.2.1 5) (S.2.2.1 10)) : gm_p_Reader_readRow S ∧ gx_q_Reader_readRow S (gm_f_Reader_readRow S) := by
  unfold gm_p_Reader_readRow gm_f_Reader_readRow
  refine gx_s_Reader_readRow_7 _ ?_ ?_ ?_ _ _ _ ?_ ?_ ?_ ?_ ?_
  · exact h1
  · exact h2
  · exact h3
  · exact h1
  · exact h3
  · exact (show 0 ≤ (0 : Int32).toInt from (by have : (0 : Int32).toInt = 0 := (by decide); omega))
  · exact (show (0 : Int32).toInt ≤ 50 from (by have : (0 : Int32).toInt = 0 := (by decide); omega))
  · exact (show 50 < ((0 : Int32).toInt + 200) from (by have : (0 : Int32).toInt = 0 := (by decide); omega))
abbrev gx_q_Reader_readClass (S : gm_S × gm_S × gm_S) (z : Int32 × (gm_S × gm_S × gm_S)) : Prop := (gm_iN 75 (z.2.1.2.2 3)) ∧ (gm_iT (z.2.2.2.2.2 11) (S.2.2.2.2 12) (S.2.2.2.2 13) (z.2.2.2.1 2) (z.2.2.2.1 3) (S.2.2.1 4) (z.2.2.2.1 5) (S.2.2.1 10))
set_option maxRecDepth 100000 in
theorem gx_s_Reader_readClass_12 (S : gm_S × gm_S × gm_S) (r6 : Int32) (u6 : gm_S) (h1 : gm_iN 75 (S.1.2.2 3)) (h2 : gm_iW 50 (S.2.1.2.2 1) (S.2.1.1 0)) (h3 : gm_iT (S.2.2.2.2 11) (S.2.2.2.2 12) (S.2.2.2.2 13) (S.2.2.1 2) (S.2.2.1 3) (S.2.2.1 4) (S.2.2.1 5) (S.2.2.1 10)) : ∀ (n12 : Nat) (v2_12 : Int32) (S_12 : gm_S × gm_S × gm_S), (gm_iN 75 (S_12.1.2.2 3)) → (gm_iT (S_12.2.2.2.2 11) (S.2.2.2.2 12) (S.2.2.2.2 13) (S_12.2.2.1 2) (S_12.2.2.1 3) (S.2.2.1 4) (S_12.2.2.1 5) (S.2.2.1 10)) → (0 ≤ v2_12.toInt) → (v2_12.toInt ≤ 50) → (50 < v2_12.toInt + n12) → gm_p_Reader_readClass_12 S r6 u6 n12 v2_12 S_12 ∧ gx_q_Reader_readClass S (gm_f_Reader_readClass_12 S r6 u6 n12 v2_12 S_12) := by
  intro n12
  induction n12 with
  | zero =>
    intro v2_12 S_12 h4 h5 h6 h7 h8; exfalso; skip; omega
  | succ n12 ih =>
    intro v2_12 S_12 h4 h5 h6 h7 h8
    rw [gm_p_Reader_readClass_12, gm_f_Reader_readClass_12]
    refine gx_if (Q := gx_q_Reader_readClass S) (fun h9 => ?_) (fun h9 => ?_)
    · skip
      have h9_ := gx_lel (k := 50) (gx_lit 50 (by decide)) h9
      refine gx_if (Q := gx_q_Reader_readClass S) (fun h10 => ?_) (fun h10 => ?_)
      · skip
        have h10_ := gx_eqr (k := 0) (by decide) h10
        refine gx_ca (Q := gx_q_Reader_readClass S) (gx_q_Reader_need _ _) (gx_s_Reader_need _ _ h4 h2 h5) ?_
        intro r_h11 u169 h11
        refine gx_ca (Q := gx_q_Reader_readClass S) (gx_q_Reader_push _ _) (gx_s_Reader_push _ _ h4 h2 h5) ?_
        intro r_h12 u174 h12
        have h12_0 : gm_iN 75 (u174.1.2.2 3) := h12
        exact ⟨trivial, ⟨h12_0, h5⟩⟩
      · skip
        have h10_ := gx_eqnr (k := 0) (by decide) h10
        refine gx_ca (Q := gx_q_Reader_readClass S) (gx_q_Reader_need _ _) (gx_s_Reader_need _ _ h4 h2 h5) ?_
        intro r_h11 u169 h11
        refine gx_ca (Q := gx_q_Reader_readClass S) (gx_q_Reader_push _ _) (gx_s_Reader_push _ _ h4 h2 h5) ?_
        intro r_h12 u174 h12
        have h12_0 : gm_iN 75 (u174.1.2.2 3) := h12
        exact ⟨trivial, ⟨h12_0, h5⟩⟩
    · skip
      have h9_ := gx_lenl (k := 50) (gx_lit 50 (by decide)) h9
      refine gx_ca (Q := gx_q_Reader_readClass S) (gx_q_Row_at _ _ _) (gx_s_Row_at _ _ _ h2) ?_
      intro r26 u26 h10
      have h10_0 : ((r26.toInt = (-1)) ∨ ((32 ≤ r26.toInt) ∧ (r26.toInt ≤ 126))) ∧ (r26 = (gm_f_Row_at 50 (S_12.1.2.2 4) S.2.1).1) := h10
      refine gx_if (Q := gx_q_Reader_readClass S) (fun h11 => ?_) (fun h11 => ?_)
      · skip
        have h11_ := gx_eqr (k := -1) (by decide) h11
        refine gx_if (Q := gx_q_Reader_readClass S) (fun h12 => ?_) (fun h12 => ?_)
        · skip
          have h12_ := gx_eqr (k := 0) (by decide) h12
          refine gx_ca (Q := gx_q_Reader_readClass S) (gx_q_Reader_need _ _) (gx_s_Reader_need _ _ h4 h2 h5) ?_
          intro r_h13 u169 h13
          refine gx_ca (Q := gx_q_Reader_readClass S) (gx_q_Reader_push _ _) (gx_s_Reader_push _ _ h4 h2 h5) ?_
          intro r_h14 u174 h14
          have h14_0 : gm_iN 75 (u174.1.2.2 3) := h14
          exact ⟨trivial, ⟨h14_0, h5⟩⟩
        · skip
          have h12_ := gx_eqnr (k := 0) (by decide) h12
          refine gx_ca (Q := gx_q_Reader_readClass S) (gx_q_Reader_need _ _) (gx_s_Reader_need _ _ h4 h2 h5) ?_
          intro r_h13 u169 h13
          refine gx_ca (Q := gx_q_Reader_readClass S) (gx_q_Reader_push _ _) (gx_s_Reader_push _ _ h4 h2 h5) ?_
          intro r_h14 u174 h14
          have h14_0 : gm_iN 75 (u174.1.2.2 3) := h14
          exact ⟨trivial, ⟨h14_0, h5⟩⟩
      · skip
        have h11_ := gx_eqnr (k := -1) (by decide) h11
        refine gx_ca (Q := gx_q_Reader_readClass S) (gx_q_Row_at _ _ _) (gx_s_Row_at _ _ _ h2) ?_
        intro r41 u41 h12
        have h12_0 : ((r41.toInt = (-1)) ∨ ((32 ≤ r41.toInt) ∧ (r41.toInt ≤ 126))) ∧ (r41 = (gm_f_Row_at 50 (S_12.1.2.2 4) S.2.1).1) := h12
        have h12_f := gx_eq ((show r41 = _ from h12.2).trans (show r26 = _ from h10.2).symm)
        refine gx_if (Q := gx_q_Reader_readClass S) (fun h13 => ?_) (fun h13 => ?_)
        · skip
          have h13_ := gx_eqr (k := 93) (gx_lit 93 (by decide)) h13
          refine gx_if (Q := gx_q_Reader_readClass S) (fun h14 => ?_) (fun h14 => ?_)
          · skip
            have h14_ := gx_eqr (k := 0) (by decide) h14
            refine gx_ca (Q := gx_q_Reader_readClass S) (gx_q_Reader_need _ _) (gx_s_Reader_need _ _ h4 h2 h5) ?_
            intro r_h15 u169 h15
            refine gx_ca (Q := gx_q_Reader_readClass S) (gx_q_Reader_push _ _) (gx_s_Reader_push _ _ h4 h2 h5) ?_
            intro r_h16 u174 h16
            have h16_0 : gm_iN 75 (u174.1.2.2 3) := h16
            exact ⟨trivial, ⟨h16_0, h5⟩⟩
          · skip
            have h14_ := gx_eqnr (k := 0) (by decide) h14
            refine gx_ca (Q := gx_q_Reader_readClass S) (gx_q_Reader_need _ _) (gx_s_Reader_need _ _ h4 h2 h5) ?_
            intro r_h15 u169 h15
            refine gx_ca (Q := gx_q_Reader_readClass S) (gx_q_Reader_push _ _) (gx_s_Reader_push _ _ h4 h2 h5) ?_
            intro r_h16 u174 h16
            have h16_0 : gm_iN 75 (u174.1.2.2 3) := h16
            exact ⟨trivial, ⟨h16_0, h5⟩⟩
        · skip
          have h13_ := gx_eqnr (k := 93) (gx_lit 93 (by decide)) h13
          refine gx_ca (Q := gx_q_Reader_readClass S) (gx_q_Row_at _ _ _) (gx_s_Row_at _ _ _ h2) ?_
          intro r57 u57 h14
          have h14_0 : ((r57.toInt = (-1)) ∨ ((32 ≤ r57.toInt) ∧ (r57.toInt ≤ 126))) ∧ (r57 = (gm_f_Row_at 50 (S_12.1.2.2 4) S.2.1).1) := h14
          have h14_f := gx_eq ((show r57 = _ from h14.2).trans (show r26 = _ from h10.2).symm)
          refine gx_ca (Q := gx_q_Reader_readClass S) (gx_q_Row_at _ _ _) (gx_s_Row_at _ _ _ h2) ?_
          intro r71 u71 h15
          have h15_0 : ((r71.toInt = (-1)) ∨ ((32 ≤ r71.toInt) ∧ (r71.toInt ≤ 126))) ∧ (r71 = (gm_f_Row_at 50 ((S_12.1.2.2 4) + 2) S.2.1).1) := h15
          refine gx_ca (Q := gx_q_Reader_readClass S) (gx_q_Row_at _ _ _) (gx_s_Row_at _ _ _ h2) ?_
          intro r86 u86 h16
          have h16_0 : ((r86.toInt = (-1)) ∨ ((32 ≤ r86.toInt) ∧ (r86.toInt ≤ 126))) ∧ (r86 = (gm_f_Row_at 50 ((S_12.1.2.2 4) + 1) S.2.1).1) := h16
          refine gx_if (Q := gx_q_Reader_readClass S) (fun h17 => ?_) (fun h17 => ?_)
          · skip
            have h17_ := gx_eqr (k := 45) (gx_lit 45 (by decide)) h17
            refine gx_if (Q := gx_q_Reader_readClass S) (fun h18 => ?_) (fun h18 => ?_)
            · skip
              have h18_ := gx_eqr (k := 93) (gx_lit 93 (by decide)) h18
              refine gx_ca (Q := gx_q_Reader_readClass S) (gx_q_Tree_include _ _ _ _) (gx_s_Tree_include _ _ _ _ h5 (show 32 ≤ r57.toInt from (by have := gx_ak (S_12.1.2.2 4) 2 (2) (gx_lit 2 (by decide)); have := gx_ak (S_12.1.2.2 4) 1 (1) (by decide); omega)) (show r57.toInt ≤ 126 from (by have := gx_ak (S_12.1.2.2 4) 2 (2) (gx_lit 2 (by decide)); have := gx_ak (S_12.1.2.2 4) 1 (1) (by decide); omega)) (show 32 ≤ r57.toInt from (by have := gx_ak (S_12.1.2.2 4) 2 (2) (gx_lit 2 (by decide)); have := gx_ak (S_12.1.2.2 4) 1 (1) (by decide); omega)) (show r57.toInt ≤ 126 from (by have := gx_ak (S_12.1.2.2 4) 2 (2) (gx_lit 2 (by decide)); have := gx_ak (S_12.1.2.2 4) 1 (1) (by decide); omega))) ?_
              intro r_h19 u138 h19
              refine ih _ _ ?_ ?_ ?_ ?_ ?_
              · exact h4
              · exact h5
              · exact (show 0 ≤ (v2_12 + 1).toInt from (by have := gx_ak v2_12 1 (1) (by decide); have := gx_ak (S_12.1.2.2 4) 2 (2) (gx_lit 2 (by decide)); have := gx_ak (S_12.1.2.2 4) 1 (1) (by decide); omega))
              · exact (show (v2_12 + 1).toInt ≤ 50 from (by have := gx_ak v2_12 1 (1) (by decide); have := gx_ak (S_12.1.2.2 4) 2 (2) (gx_lit 2 (by decide)); have := gx_ak (S_12.1.2.2 4) 1 (1) (by decide); omega))
              · exact (show 50 < ((v2_12 + 1).toInt + n12) from (by have := gx_ak v2_12 1 (1) (by decide); have := gx_ak (S_12.1.2.2 4) 2 (2) (gx_lit 2 (by decide)); have := gx_ak (S_12.1.2.2 4) 1 (1) (by decide); omega))
            · skip
              have h18_ := gx_eqnr (k := 93) (gx_lit 93 (by decide)) h18
              refine gx_if (Q := gx_q_Reader_readClass S) (fun h19 => ?_) (fun h19 => ?_)
              · skip
                have h19_ := gx_lt h19
                refine gx_ca (Q := gx_q_Reader_readClass S) (gx_q_Tree_include _ _ _ _) (gx_s_Tree_include _ _ _ _ h5 (show 32 ≤ r57.toInt from (by have := gx_ak (S_12.1.2.2 4) 2 (2) (gx_lit 2 (by decide)); have := gx_ak (S_12.1.2.2 4) 1 (1) (by decide); omega)) (show r57.toInt ≤ 126 from (by have := gx_ak (S_12.1.2.2 4) 2 (2) (gx_lit 2 (by decide)); have := gx_ak (S_12.1.2.2 4) 1 (1) (by decide); omega)) (show 32 ≤ r57.toInt from (by have := gx_ak (S_12.1.2.2 4) 2 (2) (gx_lit 2 (by decide)); have := gx_ak (S_12.1.2.2 4) 1 (1) (by decide); omega)) (show r57.toInt ≤ 126 from (by have := gx_ak (S_12.1.2.2 4) 2 (2) (gx_lit 2 (by decide)); have := gx_ak (S_12.1.2.2 4) 1 (1) (by decide); omega))) ?_
                intro r_h20 u138 h20
                refine ih _ _ ?_ ?_ ?_ ?_ ?_
                · exact h4
                · exact h5
                · exact (show 0 ≤ (v2_12 + 1).toInt from (by have := gx_ak v2_12 1 (1) (by decide); have := gx_ak (S_12.1.2.2 4) 2 (2) (gx_lit 2 (by decide)); have := gx_ak (S_12.1.2.2 4) 1 (1) (by decide); omega))
                · exact (show (v2_12 + 1).toInt ≤ 50 from (by have := gx_ak v2_12 1 (1) (by decide); have := gx_ak (S_12.1.2.2 4) 2 (2) (gx_lit 2 (by decide)); have := gx_ak (S_12.1.2.2 4) 1 (1) (by decide); omega))
                · exact (show 50 < ((v2_12 + 1).toInt + n12) from (by have := gx_ak v2_12 1 (1) (by decide); have := gx_ak (S_12.1.2.2 4) 2 (2) (gx_lit 2 (by decide)); have := gx_ak (S_12.1.2.2 4) 1 (1) (by decide); omega))
              · skip
                have h19_ := gx_ltn h19
                refine gx_ca (Q := gx_q_Reader_readClass S) (gx_q_Tree_include _ _ _ _) (gx_s_Tree_include _ _ _ _ h5 (show 32 ≤ r57.toInt from (by have := gx_ak (S_12.1.2.2 4) 2 (2) (gx_lit 2 (by decide)); have := gx_ak (S_12.1.2.2 4) 1 (1) (by decide); omega)) (show r57.toInt ≤ 126 from (by have := gx_ak (S_12.1.2.2 4) 2 (2) (gx_lit 2 (by decide)); have := gx_ak (S_12.1.2.2 4) 1 (1) (by decide); omega)) (show 32 ≤ r71.toInt from (by have := gx_ak (S_12.1.2.2 4) 2 (2) (gx_lit 2 (by decide)); have := gx_ak (S_12.1.2.2 4) 1 (1) (by decide); omega)) (show r71.toInt ≤ 126 from (by have := gx_ak (S_12.1.2.2 4) 2 (2) (gx_lit 2 (by decide)); have := gx_ak (S_12.1.2.2 4) 1 (1) (by decide); omega))) ?_
                intro r_h20 u115 h20
                refine ih _ _ ?_ ?_ ?_ ?_ ?_
                · exact h4
                · exact h5
                · exact (show 0 ≤ (v2_12 + 1).toInt from (by have := gx_ak v2_12 1 (1) (by decide); have := gx_ak (S_12.1.2.2 4) 2 (2) (gx_lit 2 (by decide)); have := gx_ak (S_12.1.2.2 4) 1 (1) (by decide); omega))
                · exact (show (v2_12 + 1).toInt ≤ 50 from (by have := gx_ak v2_12 1 (1) (by decide); have := gx_ak (S_12.1.2.2 4) 2 (2) (gx_lit 2 (by decide)); have := gx_ak (S_12.1.2.2 4) 1 (1) (by decide); omega))
                · exact (show 50 < ((v2_12 + 1).toInt + n12) from (by have := gx_ak v2_12 1 (1) (by decide); have := gx_ak (S_12.1.2.2 4) 2 (2) (gx_lit 2 (by decide)); have := gx_ak (S_12.1.2.2 4) 1 (1) (by decide); omega))
          · skip
            have h17_ := gx_eqnr (k := 45) (gx_lit 45 (by decide)) h17
            refine gx_ca (Q := gx_q_Reader_readClass S) (gx_q_Tree_include _ _ _ _) (gx_s_Tree_include _ _ _ _ h5 (show 32 ≤ r57.toInt from (by have := gx_ak (S_12.1.2.2 4) 2 (2) (gx_lit 2 (by decide)); have := gx_ak (S_12.1.2.2 4) 1 (1) (by decide); omega)) (show r57.toInt ≤ 126 from (by have := gx_ak (S_12.1.2.2 4) 2 (2) (gx_lit 2 (by decide)); have := gx_ak (S_12.1.2.2 4) 1 (1) (by decide); omega)) (show 32 ≤ r57.toInt from (by have := gx_ak (S_12.1.2.2 4) 2 (2) (gx_lit 2 (by decide)); have := gx_ak (S_12.1.2.2 4) 1 (1) (by decide); omega)) (show r57.toInt ≤ 126 from (by have := gx_ak (S_12.1.2.2 4) 2 (2) (gx_lit 2 (by decide)); have := gx_ak (S_12.1.2.2 4) 1 (1) (by decide); omega))) ?_
            intro r_h18 u138 h18
            refine ih _ _ ?_ ?_ ?_ ?_ ?_
            · exact h4
            · exact h5
            · exact (show 0 ≤ (v2_12 + 1).toInt from (by have := gx_ak v2_12 1 (1) (by decide); have := gx_ak (S_12.1.2.2 4) 2 (2) (gx_lit 2 (by decide)); have := gx_ak (S_12.1.2.2 4) 1 (1) (by decide); omega))
            · exact (show (v2_12 + 1).toInt ≤ 50 from (by have := gx_ak v2_12 1 (1) (by decide); have := gx_ak (S_12.1.2.2 4) 2 (2) (gx_lit 2 (by decide)); have := gx_ak (S_12.1.2.2 4) 1 (1) (by decide); omega))
            · exact (show 50 < ((v2_12 + 1).toInt + n12) from (by have := gx_ak v2_12 1 (1) (by decide); have := gx_ak (S_12.1.2.2 4) 2 (2) (gx_lit 2 (by decide)); have := gx_ak (S_12.1.2.2 4) 1 (1) (by decide); omega))
set_option maxRecDepth 100000 in
theorem gx_s_Reader_readClass (S : gm_S × gm_S × gm_S) (h1 : gm_iN 75 (S.1.2.2 3)) (h2 : gm_iW 50 (S.2.1.2.2 1) (S.2.1.1 0)) (h3 : gm_iT (S.2.2.2.2 11) (S.2.2.2.2 12) (S.2.2.2.2 13) (S.2.2.1 2) (S.2.2.1 3) (S.2.2.1 4) (S.2.2.1 5) (S.2.2.1 10)) : gm_p_Reader_readClass S ∧ gx_q_Reader_readClass S (gm_f_Reader_readClass S) := by
  unfold gm_p_Reader_readClass gm_f_Reader_readClass
  refine gx_ca (Q := gx_q_Reader_readClass S) (gx_q_Tree_add _ _ _) (gx_s_Tree_add _ _ _ h3) ?_
  intro r6 u6 h4
  have h4_0 : gm_iT (u6.2.2 11) (S.2.2.2.2 12) (S.2.2.2.2 13) (u6.1 2) (u6.1 3) (S.2.2.1 4) (u6.1 5) (S.2.2.1 10) := h4
  refine gx_s_Reader_readClass_12 _ _ _ ?_ ?_ ?_ _ _ _ ?_ ?_ ?_ ?_ ?_
  · exact h1
  · exact h2
  · exact h3
  · exact h1
  · exact h4_0
  · exact (show 0 ≤ (0 : Int32).toInt from (by have : (0 : Int32).toInt = 0 := (by decide); omega))
  · exact (show (0 : Int32).toInt ≤ 50 from (by have : (0 : Int32).toInt = 0 := (by decide); omega))
  · exact (show 50 < ((0 : Int32).toInt + 200) from (by have : (0 : Int32).toInt = 0 := (by decide); omega))
abbrev gx_q_Reader_readExpression (x : Int32) (S : gm_S × gm_S × gm_S) (z : Int32 × (gm_S × gm_S × gm_S)) : Prop := (gm_iN 75 (z.2.1.2.2 3)) ∧ (gm_iT (z.2.2.2.2.2 11) (z.2.2.2.2.2 12) (S.2.2.2.2 13) (z.2.2.2.1 2) (z.2.2.2.1 3) (z.2.2.2.1 4) (z.2.2.2.1 5) (S.2.2.1 10))
abbrev gx_q_Reader_readPrimary (x : Int32) (S : gm_S × gm_S × gm_S) (z : Int32 × (gm_S × gm_S × gm_S)) : Prop := (gm_iN 75 (z.2.1.2.2 3)) ∧ (gm_iT (z.2.2.2.2.2 11) (z.2.2.2.2.2 12) (S.2.2.2.2 13) (z.2.2.2.1 2) (z.2.2.2.1 3) (z.2.2.2.1 4) (z.2.2.2.1 5) (S.2.2.1 10))
set_option maxRecDepth 100000 in
theorem gx_s_Reader_readPrimary (fx : Int32 → gm_S × gm_S × gm_S → Int32 × (gm_S × gm_S × gm_S)) (px : Int32 → gm_S × gm_S × gm_S → Prop) (c : Int) (hx : ∀ (x : Int32) (S : gm_S × gm_S × gm_S), c ≤ x.toInt → gm_iN 75 (S.1.2.2 3) → gm_iW 50 (S.2.1.2.2 1) (S.2.1.1 0) → gm_iT (S.2.2.2.2 11) (S.2.2.2.2 12) (S.2.2.2.2 13) (S.2.2.1 2) (S.2.2.1 3) (S.2.2.1 4) (S.2.2.1 5) (S.2.2.1 10) → 0 ≤ x.toInt → x.toInt ≤ 6 → px x S ∧ gx_q_Reader_readExpression x S (fx x S)) (x : Int32) (S : gm_S × gm_S × gm_S) (h1 : gm_iN 75 (S.1.2.2 3)) (h2 : gm_iW 50 (S.2.1.2.2 1) (S.2.1.1 0)) (h3 : gm_iT (S.2.2.2.2 11) (S.2.2.2.2 12) (S.2.2.2.2 13) (S.2.2.1 2) (S.2.2.1 3) (S.2.2.1 4) (S.2.2.1 5) (S.2.2.1 10)) (h4 : 0 ≤ x.toInt) (h5 : x.toInt ≤ 6) (h6 : c ≤ x.toInt + 1) : gm_p_Reader_readPrimary fx px x S ∧ gx_q_Reader_readPrimary x S (gm_f_Reader_readPrimary fx x S) := by
  unfold gm_p_Reader_readPrimary gm_f_Reader_readPrimary
  refine gx_ca (Q := gx_q_Reader_readPrimary x S) (gx_q_Row_at _ _ _) (gx_s_Row_at _ _ _ h2) ?_
  intro r8 u8 h7
  have h7_0 : ((r8.toInt = (-1)) ∨ ((32 ≤ r8.toInt) ∧ (r8.toInt ≤ 126))) ∧ (r8 = (gm_f_Row_at 50 (S.1.2.2 4) S.2.1).1) := h7
  refine gx_ca (Q := gx_q_Reader_readPrimary x S) (gx_q_Reader_isName _) (gx_s_Reader_isName _ ) ?_
  intro r13 u_h8 h8
  refine gx_if (Q := gx_q_Reader_readPrimary x S) (fun h9 => ?_) (fun h9 => ?_)
  · skip
    have h9_ := gx_eqr (k := 0) (by decide) h9
    refine gx_ca (Q := gx_q_Reader_readPrimary x S) (gx_q_Reader_take _ _) (gx_s_Reader_take _ _ h1 h2 h3) ?_
    intro r48 u48 h10
    refine gx_if (Q := gx_q_Reader_readPrimary x S) (fun h11 => ?_) (fun h11 => ?_)
    · skip
      have h11_ := gx_eqr (k := 0) (by decide) h11
      refine gx_ca (Q := gx_q_Reader_readPrimary x S) (gx_q_Reader_take _ _) (gx_s_Reader_take _ _ h1 h2 h3) ?_
      intro r68 u68 h12
      refine gx_if (Q := gx_q_Reader_readPrimary x S) (fun h13 => ?_) (fun h13 => ?_)
      · skip
        have h13_ := gx_eqr (k := 0) (by decide) h13
        refine gx_ca (Q := gx_q_Reader_readPrimary x S) (gx_q_Reader_take _ _) (gx_s_Reader_take _ _ h1 h2 h3) ?_
        intro r84 u84 h14
        refine gx_if (Q := gx_q_Reader_readPrimary x S) (fun h15 => ?_) (fun h15 => ?_)
        · skip
          have h15_ := gx_eqr (k := 0) (by decide) h15
          refine gx_if (Q := gx_q_Reader_readPrimary x S) (fun h16 => ?_) (fun h16 => ?_)
          · skip
            have h16_ := gx_lel (k := 6) (gx_lit 6 (by decide)) h16
            refine gx_if (Q := gx_q_Reader_readPrimary x S) (fun h17 => ?_) (fun h17 => ?_)
            · skip
              have h17_ := gx_lel (k := 6) (gx_lit 6 (by decide)) h17
              exact ⟨trivial, ⟨h1, h3⟩⟩
            · skip
              have h17_ := gx_lenl (k := 6) (gx_lit 6 (by decide)) h17
              refine gx_ca (Q := gx_q_Reader_readPrimary x S) (gx_q_Reader_take _ _) (gx_s_Reader_take _ _ h1 h2 h3) ?_
              intro r137 u137 h18
              refine gx_if (Q := gx_q_Reader_readPrimary x S) (fun h19 => ?_) (fun h19 => ?_)
              · skip
                have h19_ := gx_eqr (k := 0) (by decide) h19
                exact ⟨trivial, ⟨h1, h3⟩⟩
              · skip
                have h19_ := gx_eqnr (k := 0) (by decide) h19
                refine gx_ca (Q := gx_q_Reader_readPrimary x S) (gx_q_Reader_readExpression _ _) (hx _ _ (show c ≤ (x + 1).toInt from (by have := gx_ak x 1 (1) (by decide); omega)) h1 h2 h3 (show 0 ≤ (x + 1).toInt from (by have := gx_ak x 1 (1) (by decide); omega)) (show (x + 1).toInt ≤ 6 from (by have := gx_ak x 1 (1) (by decide); omega))) ?_
                intro r_h20 u152 h20
                have h20_0 : gm_iN 75 (u152.1.2.2 3) := h20.1
                have h20_1 : gm_iT (u152.2.2.2.2 11) (u152.2.2.2.2 12) (S.2.2.2.2 13) (u152.2.2.1 2) (u152.2.2.1 3) (u152.2.2.1 4) (u152.2.2.1 5) (S.2.2.1 10) := h20.2
                refine gx_ca (Q := gx_q_Reader_readPrimary x S) (gx_q_Reader_need _ _) (gx_s_Reader_need _ _ h20_0 h2 h20_1) ?_
                intro r_h21 u158 h21
                refine gx_ca (Q := gx_q_Reader_readPrimary x S) (gx_q_Reader_join _ _ _) (gx_s_Reader_join _ _ _ h20_0 h2 h20_1 (show 0 ≤ (S.1.2.2 3).toInt from (by omega)) (show (S.1.2.2 3).toInt ≤ 75 from (by omega))) ?_
                intro r_h22 u165 h22
                have h22_0 : gm_iN 75 (u165.1.2.2 3) := h22.1
                have h22_1 : gm_iT (u165.2.2.2.2 11) (u165.2.2.2.2 12) (S.2.2.2.2 13) (u165.2.2.1 2) (u165.2.2.1 3) (u165.2.2.1 4) (u165.2.2.1 5) (S.2.2.1 10) := h22.2
                exact ⟨trivial, ⟨h22_0, h22_1⟩⟩
          · skip
            have h16_ := gx_lenl (k := 6) (gx_lit 6 (by decide)) h16
            refine gx_ca (Q := gx_q_Reader_readPrimary x S) (gx_q_Reader_take _ _) (gx_s_Reader_take _ _ h1 h2 h3) ?_
            intro r106 u106 h17
            refine gx_if (Q := gx_q_Reader_readPrimary x S) (fun h18 => ?_) (fun h18 => ?_)
            · skip
              have h18_ := gx_eqr (k := 0) (by decide) h18
              refine gx_if (Q := gx_q_Reader_readPrimary x S) (fun h19 => ?_) (fun h19 => ?_)
              · skip
                have h19_ := gx_lel (k := 6) (gx_lit 6 (by decide)) h19
                exact ⟨trivial, ⟨h1, h3⟩⟩
              · skip
                have h19_ := gx_lenl (k := 6) (gx_lit 6 (by decide)) h19
                refine gx_ca (Q := gx_q_Reader_readPrimary x S) (gx_q_Reader_take _ _) (gx_s_Reader_take _ _ h1 h2 h3) ?_
                intro r137 u137 h20
                refine gx_if (Q := gx_q_Reader_readPrimary x S) (fun h21 => ?_) (fun h21 => ?_)
                · skip
                  have h21_ := gx_eqr (k := 0) (by decide) h21
                  exact ⟨trivial, ⟨h1, h3⟩⟩
                · skip
                  have h21_ := gx_eqnr (k := 0) (by decide) h21
                  refine gx_ca (Q := gx_q_Reader_readPrimary x S) (gx_q_Reader_readExpression _ _) (hx _ _ (show c ≤ (x + 1).toInt from (by have := gx_ak x 1 (1) (by decide); omega)) h1 h2 h3 (show 0 ≤ (x + 1).toInt from (by have := gx_ak x 1 (1) (by decide); omega)) (show (x + 1).toInt ≤ 6 from (by have := gx_ak x 1 (1) (by decide); omega))) ?_
                  intro r_h22 u152 h22
                  have h22_0 : gm_iN 75 (u152.1.2.2 3) := h22.1
                  have h22_1 : gm_iT (u152.2.2.2.2 11) (u152.2.2.2.2 12) (S.2.2.2.2 13) (u152.2.2.1 2) (u152.2.2.1 3) (u152.2.2.1 4) (u152.2.2.1 5) (S.2.2.1 10) := h22.2
                  refine gx_ca (Q := gx_q_Reader_readPrimary x S) (gx_q_Reader_need _ _) (gx_s_Reader_need _ _ h22_0 h2 h22_1) ?_
                  intro r_h23 u158 h23
                  refine gx_ca (Q := gx_q_Reader_readPrimary x S) (gx_q_Reader_join _ _ _) (gx_s_Reader_join _ _ _ h22_0 h2 h22_1 (show 0 ≤ (S.1.2.2 3).toInt from (by omega)) (show (S.1.2.2 3).toInt ≤ 75 from (by omega))) ?_
                  intro r_h24 u165 h24
                  have h24_0 : gm_iN 75 (u165.1.2.2 3) := h24.1
                  have h24_1 : gm_iT (u165.2.2.2.2 11) (u165.2.2.2.2 12) (S.2.2.2.2 13) (u165.2.2.1 2) (u165.2.2.1 3) (u165.2.2.1 4) (u165.2.2.1 5) (S.2.2.1 10) := h24.2
                  exact ⟨trivial, ⟨h24_0, h24_1⟩⟩
            · skip
              have h18_ := gx_eqnr (k := 0) (by decide) h18
              refine gx_ca (Q := gx_q_Reader_readPrimary x S) (gx_q_Reader_readExpression _ _) (hx _ _ (show c ≤ (x + 1).toInt from (by have := gx_ak x 1 (1) (by decide); omega)) h1 h2 h3 (show 0 ≤ (x + 1).toInt from (by have := gx_ak x 1 (1) (by decide); omega)) (show (x + 1).toInt ≤ 6 from (by have := gx_ak x 1 (1) (by decide); omega))) ?_
              intro r_h19 u116 h19
              have h19_0 : gm_iN 75 (u116.1.2.2 3) := h19.1
              have h19_1 : gm_iT (u116.2.2.2.2 11) (u116.2.2.2.2 12) (S.2.2.2.2 13) (u116.2.2.1 2) (u116.2.2.1 3) (u116.2.2.1 4) (u116.2.2.1 5) (S.2.2.1 10) := h19.2
              refine gx_ca (Q := gx_q_Reader_readPrimary x S) (gx_q_Reader_need _ _) (gx_s_Reader_need _ _ h19_0 h2 h19_1) ?_
              intro r_h20 u122 h20
              exact ⟨trivial, ⟨h19_0, h19_1⟩⟩
        · skip
          have h15_ := gx_eqnr (k := 0) (by decide) h15
          refine gx_ca (Q := gx_q_Reader_readPrimary x S) (gx_q_Reader_readClass _) (gx_s_Reader_readClass _ h1 h2 h3) ?_
          intro r_h16 u91 h16
          have h16_0 : gm_iN 75 (u91.1.2.2 3) := h16.1
          have h16_1 : gm_iT (u91.2.2.2.2 11) (S.2.2.2.2 12) (S.2.2.2.2 13) (u91.2.2.1 2) (u91.2.2.1 3) (S.2.2.1 4) (u91.2.2.1 5) (S.2.2.1 10) := h16.2
          exact ⟨trivial, ⟨h16_0, h16_1⟩⟩
      · skip
        have h13_ := gx_eqnr (k := 0) (by decide) h13
        refine gx_ca (Q := gx_q_Reader_readPrimary x S) (gx_q_Reader_readRow _) (gx_s_Reader_readRow _ h1 h2 h3) ?_
        intro r_h14 u75 h14
        have h14_0 : gm_iN 75 (u75.1.2.2 3) := h14.1
        have h14_1 : gm_iT (u75.2.2.2.2 11) (u75.2.2.2.2 12) (S.2.2.2.2 13) (u75.2.2.1 2) (u75.2.2.1 3) (u75.2.2.1 4) (u75.2.2.1 5) (S.2.2.1 10) := h14.2
        exact ⟨trivial, ⟨h14_0, h14_1⟩⟩
    · skip
      have h11_ := gx_eqnr (k := 0) (by decide) h11
      refine gx_ca (Q := gx_q_Reader_readPrimary x S) (gx_q_Reader_pushSet _ _ _) (gx_s_Reader_pushSet _ _ _ h1 h2 h3 (show 32 ≤ (32 : Int32).toInt from (by have : (32 : Int32).toInt = 32 := gx_lit 32 (by decide); omega)) (show (32 : Int32).toInt ≤ 126 from (by have : (32 : Int32).toInt = 32 := gx_lit 32 (by decide); omega)) (show 32 ≤ (126 : Int32).toInt from (by have : (126 : Int32).toInt = 126 := gx_lit 126 (by decide); omega)) (show (126 : Int32).toInt ≤ 126 from (by have : (126 : Int32).toInt = 126 := gx_lit 126 (by decide); omega))) ?_
      intro r_h12 u59 h12
      have h12_0 : gm_iN 75 (u59.1.2.2 3) := h12.1
      have h12_1 : gm_iT (u59.2.2.2.2 11) (S.2.2.2.2 12) (S.2.2.2.2 13) (u59.2.2.1 2) (u59.2.2.1 3) (S.2.2.1 4) (u59.2.2.1 5) (S.2.2.1 10) := h12.2
      exact ⟨trivial, ⟨h12_0, h12_1⟩⟩
  · skip
    have h9_ := gx_eqnr (k := 0) (by decide) h9
    refine gx_ca (Q := gx_q_Reader_readPrimary x S) (gx_q_Tree_add _ _ _) (gx_s_Tree_add _ _ _ h3) ?_
    intro r36 u36 h10
    have h10_0 : gm_iT (u36.2.2 11) (S.2.2.2.2 12) (S.2.2.2.2 13) (u36.1 2) (u36.1 3) (S.2.2.1 4) (u36.1 5) (S.2.2.1 10) := h10
    refine gx_ca (Q := gx_q_Reader_readPrimary x S) (gx_q_Reader_push _ _) (gx_s_Reader_push _ _ h1 h2 h10_0) ?_
    intro r_h11 u39 h11
    have h11_0 : gm_iN 75 (u39.1.2.2 3) := h11
    exact ⟨trivial, ⟨h11_0, h10_0⟩⟩
abbrev gx_q_Reader_readPiece (x : Int32) (S : gm_S × gm_S × gm_S) (z : Int32 × (gm_S × gm_S × gm_S)) : Prop := (gm_iN 75 (z.2.1.2.2 3)) ∧ (gm_iT (z.2.2.2.2.2 11) (z.2.2.2.2.2 12) (S.2.2.2.2 13) (z.2.2.2.1 2) (z.2.2.2.1 3) (z.2.2.2.1 4) (z.2.2.2.1 5) (S.2.2.1 10))
set_option maxRecDepth 100000 in
theorem gx_s_Reader_readPiece_j92 (fx : Int32 → gm_S × gm_S × gm_S → Int32 × (gm_S × gm_S × gm_S)) (px : Int32 → gm_S × gm_S × gm_S → Prop) (c : Int) (hx : ∀ (x : Int32) (S : gm_S × gm_S × gm_S), c ≤ x.toInt → gm_iN 75 (S.1.2.2 3) → gm_iW 50 (S.2.1.2.2 1) (S.2.1.1 0) → gm_iT (S.2.2.2.2 11) (S.2.2.2.2 12) (S.2.2.2.2 13) (S.2.2.1 2) (S.2.2.1 3) (S.2.2.1 4) (S.2.2.1 5) (S.2.2.1 10) → 0 ≤ x.toInt → x.toInt ≤ 6 → px x S ∧ gx_q_Reader_readExpression x S (fx x S)) (x : Int32) (S : gm_S × gm_S × gm_S) (r8 : Int32) (u8 : gm_S × gm_S × gm_S) (k0_j34 : Int32) (S_j34 : gm_S × gm_S × gm_S) (u37 : gm_S × gm_S × gm_S) (r43 : Int32) (u43 : gm_S × gm_S × gm_S) (S_j92 : gm_S × gm_S × gm_S) (h1 : gm_iN 75 (S.1.2.2 3)) (h2 : gm_iW 50 (S.2.1.2.2 1) (S.2.1.1 0)) (h3 : gm_iT (S.2.2.2.2 11) (S.2.2.2.2 12) (S.2.2.2.2 13) (S.2.2.1 2) (S.2.2.1 3) (S.2.2.1 4) (S.2.2.1 5) (S.2.2.1 10)) (h4 : 0 ≤ x.toInt) (h5 : x.toInt ≤ 6) (h6 : c ≤ x.toInt + 1) (h7 : gm_iN 75 (S_j92.1.2.2 3)) (h8 : gm_iT (S_j92.2.2.2.2 11) (S_j92.2.2.2.2 12) (S.2.2.2.2 13) (S_j92.2.2.1 2) (S_j92.2.2.1 3) (S_j92.2.2.1 4) (S_j92.2.2.1 5) (S.2.2.1 10)) : gm_p_Reader_readPiece_j92 fx px x S r8 u8 k0_j34 S_j34 u37 r43 u43 S_j92 ∧ gx_q_Reader_readPiece x S (gm_f_Reader_readPiece_j92 fx x S r8 u8 k0_j34 S_j34 u37 r43 u43 S_j92) := by
  unfold gm_p_Reader_readPiece_j92 gm_f_Reader_readPiece_j92
  refine gx_if (Q := gx_q_Reader_readPiece x S) (fun h9 => ?_) (fun h9 => ?_)
  · skip
    have h9_ := gx_eqr (k := -1) (by decide) h9
    exact ⟨trivial, ⟨h7, h8⟩⟩
  · skip
    have h9_ := gx_eqnr (k := -1) (by decide) h9
    refine gx_ca (Q := gx_q_Reader_readPiece x S) (gx_q_Reader_join _ _ _) (gx_s_Reader_join _ _ _ h7 h2 h8 (show 0 ≤ (S.1.2.2 3).toInt from (by omega)) (show (S.1.2.2 3).toInt ≤ 75 from (by omega))) ?_
    intro r_h10 u100 h10
    have h10_0 : gm_iN 75 (u100.1.2.2 3) := h10.1
    have h10_1 : gm_iT (u100.2.2.2.2 11) (u100.2.2.2.2 12) (S.2.2.2.2 13) (u100.2.2.1 2) (u100.2.2.1 3) (u100.2.2.1 4) (u100.2.2.1 5) (S.2.2.1 10) := h10.2
    exact ⟨trivial, ⟨h10_0, h10_1⟩⟩
set_option maxRecDepth 100000 in
theorem gx_s_Reader_readPiece_j34 (fx : Int32 → gm_S × gm_S × gm_S → Int32 × (gm_S × gm_S × gm_S)) (px : Int32 → gm_S × gm_S × gm_S → Prop) (c : Int) (hx : ∀ (x : Int32) (S : gm_S × gm_S × gm_S), c ≤ x.toInt → gm_iN 75 (S.1.2.2 3) → gm_iW 50 (S.2.1.2.2 1) (S.2.1.1 0) → gm_iT (S.2.2.2.2 11) (S.2.2.2.2 12) (S.2.2.2.2 13) (S.2.2.1 2) (S.2.2.1 3) (S.2.2.1 4) (S.2.2.1 5) (S.2.2.1 10) → 0 ≤ x.toInt → x.toInt ≤ 6 → px x S ∧ gx_q_Reader_readExpression x S (fx x S)) (x : Int32) (S : gm_S × gm_S × gm_S) (r8 : Int32) (u8 : gm_S × gm_S × gm_S) (k0_j34 : Int32) (S_j34 : gm_S × gm_S × gm_S) (h1 : gm_iN 75 (S.1.2.2 3)) (h2 : gm_iW 50 (S.2.1.2.2 1) (S.2.1.1 0)) (h3 : gm_iT (S.2.2.2.2 11) (S.2.2.2.2 12) (S.2.2.2.2 13) (S.2.2.1 2) (S.2.2.1 3) (S.2.2.1 4) (S.2.2.1 5) (S.2.2.1 10)) (h4 : 0 ≤ x.toInt) (h5 : x.toInt ≤ 6) (h6 : c ≤ x.toInt + 1) (h7 : gm_iN 75 (S_j34.1.2.2 3)) (h8 : gm_iT (S_j34.2.2.2.2 11) (S_j34.2.2.2.2 12) (S.2.2.2.2 13) (S_j34.2.2.1 2) (S_j34.2.2.1 3) (S_j34.2.2.1 4) (S_j34.2.2.1 5) (S.2.2.1 10)) : gm_p_Reader_readPiece_j34 fx px x S r8 u8 k0_j34 S_j34 ∧ gx_q_Reader_readPiece x S (gm_f_Reader_readPiece_j34 fx x S r8 u8 k0_j34 S_j34) := by
  unfold gm_p_Reader_readPiece_j34 gm_f_Reader_readPiece_j34
  refine gx_ca (Q := gx_q_Reader_readPiece x S) (gx_q_Reader_readPrimary _ _) (gx_s_Reader_readPrimary _ _ c hx _ _ h7 h2 h8 h4 h5 h6) ?_
  intro r_h9 u37 h9
  have h9_0 : gm_iN 75 (u37.1.2.2 3) := h9.1
  have h9_1 : gm_iT (u37.2.2.2.2 11) (u37.2.2.2.2 12) (S.2.2.2.2 13) (u37.2.2.1 2) (u37.2.2.1 3) (u37.2.2.1 4) (u37.2.2.1 5) (S.2.2.1 10) := h9.2
  refine gx_ca (Q := gx_q_Reader_readPiece x S) (gx_q_Reader_take _ _) (gx_s_Reader_take _ _ h9_0 h2 h9_1) ?_
  intro r43 u43 h10
  refine gx_if (Q := gx_q_Reader_readPiece x S) (fun h11 => ?_) (fun h11 => ?_)
  · skip
    have h11_ := gx_eqr (k := 0) (by decide) h11
    refine gx_ca (Q := gx_q_Reader_readPiece x S) (gx_q_Reader_take _ _) (gx_s_Reader_take _ _ h9_0 h2 h9_1) ?_
    intro r61 u61 h12
    refine gx_if (Q := gx_q_Reader_readPiece x S) (fun h13 => ?_) (fun h13 => ?_)
    · skip
      have h13_ := gx_eqr (k := 0) (by decide) h13
      refine gx_ca (Q := gx_q_Reader_readPiece x S) (gx_q_Reader_take _ _) (gx_s_Reader_take _ _ h9_0 h2 h9_1) ?_
      intro r79 u79 h14
      refine gx_if (Q := gx_q_Reader_readPiece x S) (fun h15 => ?_) (fun h15 => ?_)
      · skip
        have h15_ := gx_eqr (k := 0) (by decide) h15
        refine gx_s_Reader_readPiece_j92 _ _ c hx _ _ _ _ _ _ _ _ _ _ ?_ ?_ ?_ ?_ ?_ ?_ ?_ ?_
        · exact h1
        · exact h2
        · exact h3
        · exact (show 0 ≤ x.toInt from (by omega))
        · exact (show x.toInt ≤ 6 from (by omega))
        · exact (show c ≤ (x.toInt + 1) from (by omega))
        · exact h9_0
        · exact h9_1
      · skip
        have h15_ := gx_eqnr (k := 0) (by decide) h15
        refine gx_ca (Q := gx_q_Reader_readPiece x S) (gx_q_Reader_join _ _ _) (gx_s_Reader_join _ _ _ h9_0 h2 h9_1 (show 0 ≤ (S.1.2.2 3).toInt from (by omega)) (show (S.1.2.2 3).toInt ≤ 75 from (by omega))) ?_
        intro r_h16 u89 h16
        have h16_0 : gm_iN 75 (u89.1.2.2 3) := h16.1
        have h16_1 : gm_iT (u89.2.2.2.2 11) (u89.2.2.2.2 12) (S.2.2.2.2 13) (u89.2.2.1 2) (u89.2.2.1 3) (u89.2.2.1 4) (u89.2.2.1 5) (S.2.2.1 10) := h16.2
        refine gx_s_Reader_readPiece_j92 _ _ c hx _ _ _ _ _ _ _ _ _ _ ?_ ?_ ?_ ?_ ?_ ?_ ?_ ?_
        · exact h1
        · exact h2
        · exact h3
        · exact (show 0 ≤ x.toInt from (by omega))
        · exact (show x.toInt ≤ 6 from (by omega))
        · exact (show c ≤ (x.toInt + 1) from (by omega))
        · exact h16_0
        · exact h16_1
    · skip
      have h13_ := gx_eqnr (k := 0) (by decide) h13
      refine gx_ca (Q := gx_q_Reader_readPiece x S) (gx_q_Reader_join _ _ _) (gx_s_Reader_join _ _ _ h9_0 h2 h9_1 (show 0 ≤ (S.1.2.2 3).toInt from (by omega)) (show (S.1.2.2 3).toInt ≤ 75 from (by omega))) ?_
      intro r_h14 u70 h14
      have h14_0 : gm_iN 75 (u70.1.2.2 3) := h14.1
      have h14_1 : gm_iT (u70.2.2.2.2 11) (u70.2.2.2.2 12) (S.2.2.2.2 13) (u70.2.2.1 2) (u70.2.2.1 3) (u70.2.2.1 4) (u70.2.2.1 5) (S.2.2.1 10) := h14.2
      refine gx_s_Reader_readPiece_j92 _ _ c hx _ _ _ _ _ _ _ _ _ _ ?_ ?_ ?_ ?_ ?_ ?_ ?_ ?_
      · exact h1
      · exact h2
      · exact h3
      · exact (show 0 ≤ x.toInt from (by omega))
      · exact (show x.toInt ≤ 6 from (by omega))
      · exact (show c ≤ (x.toInt + 1) from (by omega))
      · exact h14_0
      · exact h14_1
  · skip
    have h11_ := gx_eqnr (k := 0) (by decide) h11
    refine gx_ca (Q := gx_q_Reader_readPiece x S) (gx_q_Reader_join _ _ _) (gx_s_Reader_join _ _ _ h9_0 h2 h9_1 (show 0 ≤ (S.1.2.2 3).toInt from (by omega)) (show (S.1.2.2 3).toInt ≤ 75 from (by omega))) ?_
    intro r_h12 u52 h12
    have h12_0 : gm_iN 75 (u52.1.2.2 3) := h12.1
    have h12_1 : gm_iT (u52.2.2.2.2 11) (u52.2.2.2.2 12) (S.2.2.2.2 13) (u52.2.2.1 2) (u52.2.2.1 3) (u52.2.2.1 4) (u52.2.2.1 5) (S.2.2.1 10) := h12.2
    refine gx_s_Reader_readPiece_j92 _ _ c hx _ _ _ _ _ _ _ _ _ _ ?_ ?_ ?_ ?_ ?_ ?_ ?_ ?_
    · exact h1
    · exact h2
    · exact h3
    · exact (show 0 ≤ x.toInt from (by omega))
    · exact (show x.toInt ≤ 6 from (by omega))
    · exact (show c ≤ (x.toInt + 1) from (by omega))
    · exact h12_0
    · exact h12_1
set_option maxRecDepth 100000 in
theorem gx_s_Reader_readPiece (fx : Int32 → gm_S × gm_S × gm_S → Int32 × (gm_S × gm_S × gm_S)) (px : Int32 → gm_S × gm_S × gm_S → Prop) (c : Int) (hx : ∀ (x : Int32) (S : gm_S × gm_S × gm_S), c ≤ x.toInt → gm_iN 75 (S.1.2.2 3) → gm_iW 50 (S.2.1.2.2 1) (S.2.1.1 0) → gm_iT (S.2.2.2.2 11) (S.2.2.2.2 12) (S.2.2.2.2 13) (S.2.2.1 2) (S.2.2.1 3) (S.2.2.1 4) (S.2.2.1 5) (S.2.2.1 10) → 0 ≤ x.toInt → x.toInt ≤ 6 → px x S ∧ gx_q_Reader_readExpression x S (fx x S)) (x : Int32) (S : gm_S × gm_S × gm_S) (h1 : gm_iN 75 (S.1.2.2 3)) (h2 : gm_iW 50 (S.2.1.2.2 1) (S.2.1.1 0)) (h3 : gm_iT (S.2.2.2.2 11) (S.2.2.2.2 12) (S.2.2.2.2 13) (S.2.2.1 2) (S.2.2.1 3) (S.2.2.1 4) (S.2.2.1 5) (S.2.2.1 10)) (h4 : 0 ≤ x.toInt) (h5 : x.toInt ≤ 6) (h6 : c ≤ x.toInt + 1) : gm_p_Reader_readPiece fx px x S ∧ gx_q_Reader_readPiece x S (gm_f_Reader_readPiece fx x S) := by
  unfold gm_p_Reader_readPiece gm_f_Reader_readPiece
  refine gx_ca (Q := gx_q_Reader_readPiece x S) (gx_q_Reader_take _ _) (gx_s_Reader_take _ _ h1 h2 h3) ?_
  intro r8 u8 h7
  refine gx_if (Q := gx_q_Reader_readPiece x S) (fun h8 => ?_) (fun h8 => ?_)
  · skip
    have h8_ := gx_eqr (k := 0) (by decide) h8
    refine gx_ca (Q := gx_q_Reader_readPiece x S) (gx_q_Reader_take _ _) (gx_s_Reader_take _ _ h1 h2 h3) ?_
    intro r22 u22 h9
    refine gx_if (Q := gx_q_Reader_readPiece x S) (fun h10 => ?_) (fun h10 => ?_)
    · skip
      have h10_ := gx_eqr (k := 0) (by decide) h10
      refine gx_s_Reader_readPiece_j34 _ _ c hx _ _ _ _ _ _ ?_ ?_ ?_ ?_ ?_ ?_ ?_ ?_
      · exact h1
      · exact h2
      · exact h3
      · exact (show 0 ≤ x.toInt from (by omega))
      · exact (show x.toInt ≤ 6 from (by omega))
      · exact (show c ≤ (x.toInt + 1) from (by omega))
      · exact h1
      · exact h3
    · skip
      have h10_ := gx_eqnr (k := 0) (by decide) h10
      refine gx_s_Reader_readPiece_j34 _ _ c hx _ _ _ _ _ _ ?_ ?_ ?_ ?_ ?_ ?_ ?_ ?_
      · exact h1
      · exact h2
      · exact h3
      · exact (show 0 ≤ x.toInt from (by omega))
      · exact (show x.toInt ≤ 6 from (by omega))
      · exact (show c ≤ (x.toInt + 1) from (by omega))
      · exact h1
      · exact h3
  · skip
    have h8_ := gx_eqnr (k := 0) (by decide) h8
    refine gx_s_Reader_readPiece_j34 _ _ c hx _ _ _ _ _ _ ?_ ?_ ?_ ?_ ?_ ?_ ?_ ?_
    · exact h1
    · exact h2
    · exact h3
    · exact (show 0 ≤ x.toInt from (by omega))
    · exact (show x.toInt ≤ 6 from (by omega))
    · exact (show c ≤ (x.toInt + 1) from (by omega))
    · exact h1
    · exact h3
abbrev gx_q_Reader_readSequence (x : Int32) (S : gm_S × gm_S × gm_S) (z : Int32 × (gm_S × gm_S × gm_S)) : Prop := (gm_iN 75 (z.2.1.2.2 3)) ∧ (gm_iT (z.2.2.2.2.2 11) (z.2.2.2.2.2 12) (S.2.2.2.2 13) (z.2.2.2.1 2) (z.2.2.2.1 3) (z.2.2.2.1 4) (z.2.2.2.1 5) (S.2.2.1 10))
set_option maxRecDepth 100000 in
theorem gx_s_Reader_readSequence_7 (fx : Int32 → gm_S × gm_S × gm_S → Int32 × (gm_S × gm_S × gm_S)) (px : Int32 → gm_S × gm_S × gm_S → Prop) (c : Int) (hx : ∀ (x : Int32) (S : gm_S × gm_S × gm_S), c ≤ x.toInt → gm_iN 75 (S.1.2.2 3) → gm_iW 50 (S.2.1.2.2 1) (S.2.1.1 0) → gm_iT (S.2.2.2.2 11) (S.2.2.2.2 12) (S.2.2.2.2 13) (S.2.2.1 2) (S.2.2.1 3) (S.2.2.1 4) (S.2.2.1 5) (S.2.2.1 10) → 0 ≤ x.toInt → x.toInt ≤ 6 → px x S ∧ gx_q_Reader_readExpression x S (fx x S)) (x : Int32) (S : gm_S × gm_S × gm_S) (h1 : gm_iN 75 (S.1.2.2 3)) (h2 : gm_iW 50 (S.2.1.2.2 1) (S.2.1.1 0)) (h3 : gm_iT (S.2.2.2.2 11) (S.2.2.2.2 12) (S.2.2.2.2 13) (S.2.2.1 2) (S.2.2.1 3) (S.2.2.1 4) (S.2.2.1 5) (S.2.2.1 10)) (h4 : 0 ≤ x.toInt) (h5 : x.toInt ≤ 6) (h6 : c ≤ x.toInt + 1) : ∀ (n7 : Nat) (v3_7 : Int32) (S_7 : gm_S × gm_S × gm_S), (gm_iN 75 (S_7.1.2.2 3)) → (gm_iT (S_7.2.2.2.2 11) (S_7.2.2.2.2 12) (S.2.2.2.2 13) (S_7.2.2.1 2) (S_7.2.2.1 3) (S_7.2.2.1 4) (S_7.2.2.1 5) (S.2.2.1 10)) → (0 ≤ v3_7.toInt) → (v3_7.toInt ≤ 50) → (50 < v3_7.toInt + n7) → gm_p_Reader_readSequence_7 fx px x S n7 v3_7 S_7 ∧ gx_q_Reader_readSequence x S (gm_f_Reader_readSequence_7 fx x S n7 v3_7 S_7) := by
  intro n7
  induction n7 with
  | zero =>
    intro v3_7 S_7 h7 h8 h9 h10 h11; exfalso; skip; omega
  | succ n7 ih =>
    intro v3_7 S_7 h7 h8 h9 h10 h11
    rw [gm_p_Reader_readSequence_7, gm_f_Reader_readSequence_7]
    refine gx_if (Q := gx_q_Reader_readSequence x S) (fun h12 => ?_) (fun h12 => ?_)
    · skip
      have h12_ := gx_lel (k := 50) (gx_lit 50 (by decide)) h12
      refine gx_ca (Q := gx_q_Reader_readSequence x S) (gx_q_Reader_join _ _ _) (gx_s_Reader_join _ _ _ h7 h2 h8 (show 0 ≤ (S.1.2.2 3).toInt from (by omega)) (show (S.1.2.2 3).toInt ≤ 75 from (by omega))) ?_
      intro r_h13 u51 h13
      have h13_0 : gm_iN 75 (u51.1.2.2 3) := h13.1
      have h13_1 : gm_iT (u51.2.2.2.2 11) (u51.2.2.2.2 12) (S.2.2.2.2 13) (u51.2.2.1 2) (u51.2.2.1 3) (u51.2.2.1 4) (u51.2.2.1 5) (S.2.2.1 10) := h13.2
      exact ⟨trivial, ⟨h13_0, h13_1⟩⟩
    · skip
      have h12_ := gx_lenl (k := 50) (gx_lit 50 (by decide)) h12
      refine gx_if (Q := gx_q_Reader_readSequence x S) (fun h13 => ?_) (fun h13 => ?_)
      · skip
        have h13_ := gx_eqr (k := 0) (by decide) h13
        refine gx_ca (Q := gx_q_Reader_readSequence x S) (gx_q_Row_at _ _ _) (gx_s_Row_at _ _ _ h2) ?_
        intro r28 u28 h14
        have h14_0 : ((r28.toInt = (-1)) ∨ ((32 ≤ r28.toInt) ∧ (r28.toInt ≤ 126))) ∧ (r28 = (gm_f_Row_at 50 (S_7.1.2.2 4) S.2.1).1) := h14
        refine gx_ca (Q := gx_q_Reader_readSequence x S) (gx_q_Reader_beginsPiece _) (gx_s_Reader_beginsPiece _ ) ?_
        intro r31 u_h15 h15
        refine gx_if (Q := gx_q_Reader_readSequence x S) (fun h16 => ?_) (fun h16 => ?_)
        · skip
          have h16_ := gx_eqr (k := 0) (by decide) h16
          refine gx_ca (Q := gx_q_Reader_readSequence x S) (gx_q_Reader_join _ _ _) (gx_s_Reader_join _ _ _ h7 h2 h8 (show 0 ≤ (S.1.2.2 3).toInt from (by omega)) (show (S.1.2.2 3).toInt ≤ 75 from (by omega))) ?_
          intro r_h17 u51 h17
          have h17_0 : gm_iN 75 (u51.1.2.2 3) := h17.1
          have h17_1 : gm_iT (u51.2.2.2.2 11) (u51.2.2.2.2 12) (S.2.2.2.2 13) (u51.2.2.1 2) (u51.2.2.1 3) (u51.2.2.1 4) (u51.2.2.1 5) (S.2.2.1 10) := h17.2
          exact ⟨trivial, ⟨h17_0, h17_1⟩⟩
        · skip
          have h16_ := gx_eqnr (k := 0) (by decide) h16
          refine gx_ca (Q := gx_q_Reader_readSequence x S) (gx_q_Reader_readPiece _ _) (gx_s_Reader_readPiece _ _ c hx _ _ h7 h2 h8 h4 h5 h6) ?_
          intro r_h17 u39 h17
          have h17_0 : gm_iN 75 (u39.1.2.2 3) := h17.1
          have h17_1 : gm_iT (u39.2.2.2.2 11) (u39.2.2.2.2 12) (S.2.2.2.2 13) (u39.2.2.1 2) (u39.2.2.1 3) (u39.2.2.1 4) (u39.2.2.1 5) (S.2.2.1 10) := h17.2
          refine ih _ _ ?_ ?_ ?_ ?_ ?_
          · exact h17_0
          · exact h17_1
          · exact (show 0 ≤ (v3_7 + 1).toInt from (by have := gx_ak v3_7 1 (1) (by decide); omega))
          · exact (show (v3_7 + 1).toInt ≤ 50 from (by have := gx_ak v3_7 1 (1) (by decide); omega))
          · exact (show 50 < ((v3_7 + 1).toInt + n7) from (by have := gx_ak v3_7 1 (1) (by decide); omega))
      · skip
        have h13_ := gx_eqnr (k := 0) (by decide) h13
        refine gx_ca (Q := gx_q_Reader_readSequence x S) (gx_q_Reader_join _ _ _) (gx_s_Reader_join _ _ _ h7 h2 h8 (show 0 ≤ (S.1.2.2 3).toInt from (by omega)) (show (S.1.2.2 3).toInt ≤ 75 from (by omega))) ?_
        intro r_h14 u51 h14
        have h14_0 : gm_iN 75 (u51.1.2.2 3) := h14.1
        have h14_1 : gm_iT (u51.2.2.2.2 11) (u51.2.2.2.2 12) (S.2.2.2.2 13) (u51.2.2.1 2) (u51.2.2.1 3) (u51.2.2.1 4) (u51.2.2.1 5) (S.2.2.1 10) := h14.2
        exact ⟨trivial, ⟨h14_0, h14_1⟩⟩
set_option maxRecDepth 100000 in
theorem gx_s_Reader_readSequence (fx : Int32 → gm_S × gm_S × gm_S → Int32 × (gm_S × gm_S × gm_S)) (px : Int32 → gm_S × gm_S × gm_S → Prop) (c : Int) (hx : ∀ (x : Int32) (S : gm_S × gm_S × gm_S), c ≤ x.toInt → gm_iN 75 (S.1.2.2 3) → gm_iW 50 (S.2.1.2.2 1) (S.2.1.1 0) → gm_iT (S.2.2.2.2 11) (S.2.2.2.2 12) (S.2.2.2.2 13) (S.2.2.1 2) (S.2.2.1 3) (S.2.2.1 4) (S.2.2.1 5) (S.2.2.1 10) → 0 ≤ x.toInt → x.toInt ≤ 6 → px x S ∧ gx_q_Reader_readExpression x S (fx x S)) (x : Int32) (S : gm_S × gm_S × gm_S) (h1 : gm_iN 75 (S.1.2.2 3)) (h2 : gm_iW 50 (S.2.1.2.2 1) (S.2.1.1 0)) (h3 : gm_iT (S.2.2.2.2 11) (S.2.2.2.2 12) (S.2.2.2.2 13) (S.2.2.1 2) (S.2.2.1 3) (S.2.2.1 4) (S.2.2.1 5) (S.2.2.1 10)) (h4 : 0 ≤ x.toInt) (h5 : x.toInt ≤ 6) (h6 : c ≤ x.toInt + 1) : gm_p_Reader_readSequence fx px x S ∧ gx_q_Reader_readSequence x S (gm_f_Reader_readSequence fx x S) := by
  unfold gm_p_Reader_readSequence gm_f_Reader_readSequence
  refine gx_s_Reader_readSequence_7 _ _ c hx _ _ ?_ ?_ ?_ ?_ ?_ ?_ _ _ _ ?_ ?_ ?_ ?_ ?_
  · exact h1
  · exact h2
  · exact h3
  · exact (show 0 ≤ x.toInt from (by omega))
  · exact (show x.toInt ≤ 6 from (by omega))
  · exact (show c ≤ (x.toInt + 1) from (by omega))
  · exact h1
  · exact h3
  · exact (show 0 ≤ (0 : Int32).toInt from (by have : (0 : Int32).toInt = 0 := (by decide); omega))
  · exact (show (0 : Int32).toInt ≤ 50 from (by have : (0 : Int32).toInt = 0 := (by decide); omega))
  · exact (show 50 < ((0 : Int32).toInt + 200) from (by have : (0 : Int32).toInt = 0 := (by decide); omega))
set_option maxRecDepth 100000 in
theorem gx_s_Reader_readExpression_12 (fx : Int32 → gm_S × gm_S × gm_S → Int32 × (gm_S × gm_S × gm_S)) (px : Int32 → gm_S × gm_S × gm_S → Prop) (c : Int) (hx : ∀ (x : Int32) (S : gm_S × gm_S × gm_S), c ≤ x.toInt → gm_iN 75 (S.1.2.2 3) → gm_iW 50 (S.2.1.2.2 1) (S.2.1.1 0) → gm_iT (S.2.2.2.2 11) (S.2.2.2.2 12) (S.2.2.2.2 13) (S.2.2.1 2) (S.2.2.1 3) (S.2.2.1 4) (S.2.2.1 5) (S.2.2.1 10) → 0 ≤ x.toInt → x.toInt ≤ 6 → px x S ∧ gx_q_Reader_readExpression x S (fx x S)) (x : Int32) (S : gm_S × gm_S × gm_S) (u7 : gm_S × gm_S × gm_S) (h1 : gm_iN 75 (S.1.2.2 3)) (h2 : gm_iW 50 (S.2.1.2.2 1) (S.2.1.1 0)) (h3 : gm_iT (S.2.2.2.2 11) (S.2.2.2.2 12) (S.2.2.2.2 13) (S.2.2.1 2) (S.2.2.1 3) (S.2.2.1 4) (S.2.2.1 5) (S.2.2.1 10)) (h4 : 0 ≤ x.toInt) (h5 : x.toInt ≤ 6) (h6 : c ≤ x.toInt + 1) : ∀ (n12 : Nat) (v3_12 : Int32) (S_12 : gm_S × gm_S × gm_S), (gm_iN 75 (S_12.1.2.2 3)) → (gm_iT (S_12.2.2.2.2 11) (S_12.2.2.2.2 12) (S.2.2.2.2 13) (S_12.2.2.1 2) (S_12.2.2.1 3) (S_12.2.2.1 4) (S_12.2.2.1 5) (S.2.2.1 10)) → (0 ≤ v3_12.toInt) → (v3_12.toInt ≤ 50) → (50 < v3_12.toInt + n12) → gm_p_Reader_readExpression_12 fx px x S u7 n12 v3_12 S_12 ∧ gx_q_Reader_readExpression x S (gm_f_Reader_readExpression_12 fx x S u7 n12 v3_12 S_12) := by
  intro n12
  induction n12 with
  | zero =>
    intro v3_12 S_12 h7 h8 h9 h10 h11; exfalso; skip; omega
  | succ n12 ih =>
    intro v3_12 S_12 h7 h8 h9 h10 h11
    rw [gm_p_Reader_readExpression_12, gm_f_Reader_readExpression_12]
    refine gx_if (Q := gx_q_Reader_readExpression x S) (fun h12 => ?_) (fun h12 => ?_)
    · skip
      have h12_ := gx_lel (k := 50) (gx_lit 50 (by decide)) h12
      refine gx_ca (Q := gx_q_Reader_readExpression x S) (gx_q_Reader_join _ _ _) (gx_s_Reader_join _ _ _ h7 h2 h8 (show 0 ≤ (S.1.2.2 3).toInt from (by omega)) (show (S.1.2.2 3).toInt ≤ 75 from (by omega))) ?_
      intro r_h13 u41 h13
      have h13_0 : gm_iN 75 (u41.1.2.2 3) := h13.1
      have h13_1 : gm_iT (u41.2.2.2.2 11) (u41.2.2.2.2 12) (S.2.2.2.2 13) (u41.2.2.1 2) (u41.2.2.1 3) (u41.2.2.1 4) (u41.2.2.1 5) (S.2.2.1 10) := h13.2
      exact ⟨trivial, ⟨h13_0, h13_1⟩⟩
    · skip
      have h12_ := gx_lenl (k := 50) (gx_lit 50 (by decide)) h12
      refine gx_ca (Q := gx_q_Reader_readExpression x S) (gx_q_Reader_take _ _) (gx_s_Reader_take _ _ h7 h2 h8) ?_
      intro r21 u21 h13
      refine gx_if (Q := gx_q_Reader_readExpression x S) (fun h14 => ?_) (fun h14 => ?_)
      · skip
        have h14_ := gx_eqr (k := 0) (by decide) h14
        refine gx_ca (Q := gx_q_Reader_readExpression x S) (gx_q_Reader_join _ _ _) (gx_s_Reader_join _ _ _ h7 h2 h8 (show 0 ≤ (S.1.2.2 3).toInt from (by omega)) (show (S.1.2.2 3).toInt ≤ 75 from (by omega))) ?_
        intro r_h15 u41 h15
        have h15_0 : gm_iN 75 (u41.1.2.2 3) := h15.1
        have h15_1 : gm_iT (u41.2.2.2.2 11) (u41.2.2.2.2 12) (S.2.2.2.2 13) (u41.2.2.1 2) (u41.2.2.1 3) (u41.2.2.1 4) (u41.2.2.1 5) (S.2.2.1 10) := h15.2
        exact ⟨trivial, ⟨h15_0, h15_1⟩⟩
      · skip
        have h14_ := gx_eqnr (k := 0) (by decide) h14
        refine gx_ca (Q := gx_q_Reader_readExpression x S) (gx_q_Reader_readSequence _ _) (gx_s_Reader_readSequence _ _ c hx _ _ h7 h2 h8 h4 h5 h6) ?_
        intro r_h15 u29 h15
        have h15_0 : gm_iN 75 (u29.1.2.2 3) := h15.1
        have h15_1 : gm_iT (u29.2.2.2.2 11) (u29.2.2.2.2 12) (S.2.2.2.2 13) (u29.2.2.1 2) (u29.2.2.1 3) (u29.2.2.1 4) (u29.2.2.1 5) (S.2.2.1 10) := h15.2
        refine ih _ _ ?_ ?_ ?_ ?_ ?_
        · exact h15_0
        · exact h15_1
        · exact (show 0 ≤ (v3_12 + 1).toInt from (by have := gx_ak v3_12 1 (1) (by decide); omega))
        · exact (show (v3_12 + 1).toInt ≤ 50 from (by have := gx_ak v3_12 1 (1) (by decide); omega))
        · exact (show 50 < ((v3_12 + 1).toInt + n12) from (by have := gx_ak v3_12 1 (1) (by decide); omega))
set_option maxRecDepth 100000 in
theorem gx_s_Reader_readExpression (fx : Int32 → gm_S × gm_S × gm_S → Int32 × (gm_S × gm_S × gm_S)) (px : Int32 → gm_S × gm_S × gm_S → Prop) (c : Int) (hx : ∀ (x : Int32) (S : gm_S × gm_S × gm_S), c ≤ x.toInt → gm_iN 75 (S.1.2.2 3) → gm_iW 50 (S.2.1.2.2 1) (S.2.1.1 0) → gm_iT (S.2.2.2.2 11) (S.2.2.2.2 12) (S.2.2.2.2 13) (S.2.2.1 2) (S.2.2.1 3) (S.2.2.1 4) (S.2.2.1 5) (S.2.2.1 10) → 0 ≤ x.toInt → x.toInt ≤ 6 → px x S ∧ gx_q_Reader_readExpression x S (fx x S)) (x : Int32) (S : gm_S × gm_S × gm_S) (h1 : gm_iN 75 (S.1.2.2 3)) (h2 : gm_iW 50 (S.2.1.2.2 1) (S.2.1.1 0)) (h3 : gm_iT (S.2.2.2.2 11) (S.2.2.2.2 12) (S.2.2.2.2 13) (S.2.2.1 2) (S.2.2.1 3) (S.2.2.1 4) (S.2.2.1 5) (S.2.2.1 10)) (h4 : 0 ≤ x.toInt) (h5 : x.toInt ≤ 6) (h6 : c ≤ x.toInt + 1) : gm_p_Reader_readExpression fx px x S ∧ gx_q_Reader_readExpression x S (gm_f_Reader_readExpression fx x S) := by
  unfold gm_p_Reader_readExpression gm_f_Reader_readExpression
  refine gx_ca (Q := gx_q_Reader_readExpression x S) (gx_q_Reader_readSequence _ _) (gx_s_Reader_readSequence _ _ c hx _ _ h1 h2 h3 h4 h5 h6) ?_
  intro r_h7 u7 h7
  have h7_0 : gm_iN 75 (u7.1.2.2 3) := h7.1
  have h7_1 : gm_iT (u7.2.2.2.2 11) (u7.2.2.2.2 12) (S.2.2.2.2 13) (u7.2.2.1 2) (u7.2.2.1 3) (u7.2.2.1 4) (u7.2.2.1 5) (S.2.2.1 10) := h7.2
  refine gx_s_Reader_readExpression_12 _ _ c hx _ _ _ ?_ ?_ ?_ ?_ ?_ ?_ _ _ _ ?_ ?_ ?_ ?_ ?_
  · exact h1
  · exact h2
  · exact h3
  · exact (show 0 ≤ x.toInt from (by omega))
  · exact (show x.toInt ≤ 6 from (by omega))
  · exact (show c ≤ (x.toInt + 1) from (by omega))
  · exact h7_0
  · exact h7_1
  · exact (show 0 ≤ (0 : Int32).toInt from (by have : (0 : Int32).toInt = 0 := (by decide); omega))
  · exact (show (0 : Int32).toInt ≤ 50 from (by have : (0 : Int32).toInt = 0 := (by decide); omega))
  · exact (show 50 < ((0 : Int32).toInt + 200) from (by have : (0 : Int32).toInt = 0 := (by decide); omega))
theorem gx_z_Reader_readExpression : ∀ (d : Nat) (x : Int32) (S : gm_S × gm_S × gm_S), (gm_iN 75 (S.1.2.2 3)) → (gm_iW 50 (S.2.1.2.2 1) (S.2.1.1 0)) → (gm_iT (S.2.2.2.2 11) (S.2.2.2.2 12) (S.2.2.2.2 13) (S.2.2.1 2) (S.2.2.1 3) (S.2.2.1 4) (S.2.2.1 5) (S.2.2.1 10)) → (0 ≤ x.toInt) → (x.toInt ≤ 6) → 6 < x.toInt + d → gm_h_Reader_readExpression d x S ∧ gx_q_Reader_readExpression x S (gm_g_Reader_readExpression d x S) := by
  intro d
  induction d with
  | zero => intro x S a0 a1 a2 a3 a4 hd; exfalso; omega
  | succ d ih =>
    intro x S a0 a1 a2 a3 a4 hd
    rw [gm_h_Reader_readExpression, gm_g_Reader_readExpression]
    exact gx_s_Reader_readExpression _ _ (7 - d) (fun x S hc a0 a1 a2 a3 a4 => ih x S a0 a1 a2 a3 a4 (by omega)) x S a0 a1 a2 a3 a4 (by omega)
abbrev gx_q_Reader_readRule (S : gm_S × gm_S × gm_S) (z : Int32 × (gm_S × gm_S × gm_S)) : Prop := (gm_iN 75 (z.2.1.2.2 3)) ∧ (gm_iT (z.2.2.2.2.2 11) (z.2.2.2.2.2 12) (z.2.2.2.2.2 13) (z.2.2.2.1 2) (z.2.2.2.1 3) (z.2.2.2.1 4) (z.2.2.2.1 5) (z.2.2.2.1 10))
set_option maxRecDepth 100000 in
theorem gx_s_Reader_readRule (S : gm_S × gm_S × gm_S) (h1 : gm_iN 75 (S.1.2.2 3)) (h2 : gm_iW 50 (S.2.1.2.2 1) (S.2.1.1 0)) (h3 : gm_iT (S.2.2.2.2 11) (S.2.2.2.2 12) (S.2.2.2.2 13) (S.2.2.1 2) (S.2.2.1 3) (S.2.2.1 4) (S.2.2.1 5) (S.2.2.1 10)) : gm_p_Reader_readRule S ∧ gx_q_Reader_readRule S (gm_f_Reader_readRule S) := by
  unfold gm_p_Reader_readRule gm_f_Reader_readRule
  refine gx_ca (Q := gx_q_Reader_readRule S) (gx_q_Row_at _ _ _) (gx_s_Row_at _ _ _ h2) ?_
  intro r8 u8 h4
  have h4_0 : ((r8.toInt = (-1)) ∨ ((32 ≤ r8.toInt) ∧ (r8.toInt ≤ 126))) ∧ (r8 = (gm_f_Row_at 50 (S.1.2.2 4) S.2.1).1) := h4
  refine gx_ca (Q := gx_q_Reader_readRule S) (gx_q_Reader_isName _) (gx_s_Reader_isName _ ) ?_
  intro r13 u_h5 h5
  refine gx_if (Q := gx_q_Reader_readRule S) (fun h6 => ?_) (fun h6 => ?_)
  · skip
    have h6_ := gx_eqr (k := 0) (by decide) h6
    exact ⟨trivial, ⟨h1, h3⟩⟩
  · skip
    have h6_ := gx_eqnr (k := 0) (by decide) h6
    refine gx_ca (Q := gx_q_Reader_readRule S) (gx_q_Tree_ruleOf _ _) (gx_s_Tree_ruleOf _ _ h3) ?_
    intro r24 u24 h7
    have h7_0 : ((-1) ≤ r24.toInt) ∧ (r24.toInt ≤ 7) := h7
    refine gx_if (Q := gx_q_Reader_readRule S) (fun h8 => ?_) (fun h8 => ?_)
    · skip
      have h8_ := gx_eqr (k := -1) (by decide) h8
      refine gx_ca (Q := gx_q_Reader_readRule S) (gx_q_Reader_need _ _) (gx_s_Reader_need _ _ h1 h2 h3) ?_
      intro r_h9 u50 h9
      refine gx_ca (Q := gx_q_Reader_readRule S) (gx_q_Reader_readExpression _ _) (gx_z_Reader_readExpression _ _ _ h1 h2 h3 (show 0 ≤ (0 : Int32).toInt from (by have : (0 : Int32).toInt = 0 := (by decide); omega)) (show (0 : Int32).toInt ≤ 6 from (by have : (0 : Int32).toInt = 0 := (by decide); omega)) (show 6 < ((0 : Int32).toInt + 7) from (by have : (0 : Int32).toInt = 0 := (by decide); omega))) ?_
      intro r_h10 u55 h10
      have h10_0 : gm_iN 75 (u55.1.2.2 3) := h10.1
      have h10_1 : gm_iT (u55.2.2.2.2 11) (u55.2.2.2.2 12) (S.2.2.2.2 13) (u55.2.2.1 2) (u55.2.2.1 3) (u55.2.2.1 4) (u55.2.2.1 5) (S.2.2.1 10) := h10.2
      refine gx_ca (Q := gx_q_Reader_readRule S) (gx_q_Reader_need _ _) (gx_s_Reader_need _ _ h10_0 h2 h10_1) ?_
      intro r_h11 u61 h11
      refine gx_if (Q := gx_q_Reader_readRule S) (fun h12 => ?_) (fun h12 => ?_)
      · skip
        have h12_ := gx_eqr (k := 0) (by decide) h12
        refine gx_ca (Q := gx_q_Reader_readRule S) (gx_q_Tree_addRule _ _ _) (gx_s_Tree_addRule _ _ _ h10_1) ?_
        intro r_h13 u85 h13
        have h13_0 : gm_iT (u55.2.2.2.2 11) (u55.2.2.2.2 12) (u85.2.2 13) (u55.2.2.1 2) (u55.2.2.1 3) (u55.2.2.1 4) (u55.2.2.1 5) (u85.1 10) := h13
        exact ⟨trivial, ⟨(show 0 ≤ (0 : Int32).toInt ∧ (0 : Int32).toInt ≤ 75 from (by have : (0 : Int32).toInt = 0 := (by decide); omega)), h13_0⟩⟩
      · skip
        have h12_ := gx_eqnr (k := 0) (by decide) h12
        exact ⟨trivial, ⟨h10_0, h10_1⟩⟩
    · skip
      have h8_ := gx_eqnr (k := -1) (by decide) h8
      exact ⟨trivial, ⟨h1, h3⟩⟩
abbrev gx_q_Reader_read (S : gm_S × gm_S × gm_S) (z : Int32 × (gm_S × gm_S × gm_S)) : Prop := (gm_iN 75 (z.2.1.2.2 3)) ∧ (gm_iT (z.2.2.2.2.2 11) (z.2.2.2.2.2 12) (z.2.2.2.2.2 13) (z.2.2.2.1 2) (z.2.2.2.1 3) (z.2.2.2.1 4) (z.2.2.2.1 5) (z.2.2.2.1 10))
set_option maxRecDepth 100000 in
theorem gx_s_Reader_read_28 (S : gm_S × gm_S × gm_S) (u4 : gm_S) (u23 : gm_S × gm_S × gm_S) (h1 : gm_iN 75 (S.1.2.2 3)) (h2 : gm_iW 50 (S.2.1.2.2 1) (S.2.1.1 0)) (h3 : gm_iT (S.2.2.2.2 11) (S.2.2.2.2 12) (S.2.2.2.2 13) (S.2.2.1 2) (S.2.2.1 3) (S.2.2.1 4) (S.2.2.1 5) (S.2.2.1 10)) : ∀ (n28 : Nat) (v1_28 : Int32) (S_28 : gm_S × gm_S × gm_S), (gm_iN 75 (S_28.1.2.2 3)) → (gm_iT (S_28.2.2.2.2 11) (S_28.2.2.2.2 12) (S_28.2.2.2.2 13) (S_28.2.2.1 2) (S_28.2.2.1 3) (S_28.2.2.1 4) (S_28.2.2.1 5) (S_28.2.2.1 10)) → (1 ≤ v1_28.toInt) → (v1_28.toInt ≤ 8) → (8 < v1_28.toInt + n28) → gm_p_Reader_read_28 S u4 u23 n28 v1_28 S_28 ∧ gx_q_Reader_read S (gm_f_Reader_read_28 S u4 u23 n28 v1_28 S_28) := by
  intro n28
  induction n28 with
  | zero =>
    intro v1_28 S_28 h4 h5 h6 h7 h8; exfalso; skip; omega
  | succ n28 ih =>
    intro v1_28 S_28 h4 h5 h6 h7 h8
    rw [gm_p_Reader_read_28, gm_f_Reader_read_28]
    refine gx_if (Q := gx_q_Reader_read S) (fun h9 => ?_) (fun h9 => ?_)
    · skip
      have h9_ := gx_lel (k := 8) (gx_lit 8 (by decide)) h9
      refine gx_if (Q := gx_q_Reader_read S) (fun h10 => ?_) (fun h10 => ?_)
      · skip
        have h10_ := gx_eqr (k := 0) (by decide) h10
        refine gx_if (Q := gx_q_Reader_read S) (fun h11 => ?_) (fun h11 => ?_)
        · skip
          have h11_ := gx_le h11
          exact ⟨trivial, ⟨h4, h5⟩⟩
        · skip
          have h11_ := gx_len h11
          exact ⟨trivial, ⟨h4, h5⟩⟩
      · skip
        have h10_ := gx_eqnr (k := 0) (by decide) h10
        exact ⟨trivial, ⟨h4, h5⟩⟩
    · skip
      have h9_ := gx_lenl (k := 8) (gx_lit 8 (by decide)) h9
      refine gx_if (Q := gx_q_Reader_read S) (fun h10 => ?_) (fun h10 => ?_)
      · skip
        have h10_ := gx_eqr (k := 0) (by decide) h10
        refine gx_if (Q := gx_q_Reader_read S) (fun h11 => ?_) (fun h11 => ?_)
        · skip
          have h11_ := gx_le h11
          refine gx_if (Q := gx_q_Reader_read S) (fun h12 => ?_) (fun h12 => ?_)
          · skip
            have h12_ := gx_eqr (k := 0) (by decide) h12
            refine gx_if (Q := gx_q_Reader_read S) (fun h13 => ?_) (fun h13 => ?_)
            · skip
              have h13_ := gx_le h13
              exact ⟨trivial, ⟨h4, h5⟩⟩
            · skip
              have h13_ := gx_len h13
              exact ⟨trivial, ⟨h4, h5⟩⟩
          · skip
            have h12_ := gx_eqnr (k := 0) (by decide) h12
            exact ⟨trivial, ⟨h4, h5⟩⟩
        · skip
          have h11_ := gx_len h11
          refine gx_ca (Q := gx_q_Reader_read S) (gx_q_Reader_readRule _) (gx_s_Reader_readRule _ h4 h2 h5) ?_
          intro r_h12 u56 h12
          have h12_0 : gm_iN 75 (u56.1.2.2 3) := h12.1
          have h12_1 : gm_iT (u56.2.2.2.2 11) (u56.2.2.2.2 12) (u56.2.2.2.2 13) (u56.2.2.1 2) (u56.2.2.1 3) (u56.2.2.1 4) (u56.2.2.1 5) (u56.2.2.1 10) := h12.2
          refine ih _ _ ?_ ?_ ?_ ?_ ?_
          · exact h12_0
          · exact h12_1
          · exact (show 1 ≤ (v1_28 + 1).toInt from (by have := gx_ak v1_28 1 (1) (by decide); omega))
          · exact (show (v1_28 + 1).toInt ≤ 8 from (by have := gx_ak v1_28 1 (1) (by decide); omega))
          · exact (show 8 < ((v1_28 + 1).toInt + n28) from (by have := gx_ak v1_28 1 (1) (by decide); omega))
      · skip
        have h10_ := gx_eqnr (k := 0) (by decide) h10
        refine gx_if (Q := gx_q_Reader_read S) (fun h11 => ?_) (fun h11 => ?_)
        · skip
          have h11_ := gx_eqr (k := 0) (by decide) h11
          refine gx_if (Q := gx_q_Reader_read S) (fun h12 => ?_) (fun h12 => ?_)
          · skip
            have h12_ := gx_le h12
            exact ⟨trivial, ⟨h4, h5⟩⟩
          · skip
            have h12_ := gx_len h12
            exact ⟨trivial, ⟨h4, h5⟩⟩
        · skip
          have h11_ := gx_eqnr (k := 0) (by decide) h11
          exact ⟨trivial, ⟨h4, h5⟩⟩
set_option maxRecDepth 100000 in
theorem gx_s_Reader_read (S : gm_S × gm_S × gm_S) (h1 : gm_iN 75 (S.1.2.2 3)) (h2 : gm_iW 50 (S.2.1.2.2 1) (S.2.1.1 0)) (h3 : gm_iT (S.2.2.2.2 11) (S.2.2.2.2 12) (S.2.2.2.2 13) (S.2.2.1 2) (S.2.2.1 3) (S.2.2.1 4) (S.2.2.1 5) (S.2.2.1 10)) : gm_p_Reader_read S ∧ gx_q_Reader_read S (gm_f_Reader_read S) := by
  unfold gm_p_Reader_read gm_f_Reader_read
  refine gx_ca (Q := gx_q_Reader_read S) (gx_q_Tree_reset _) (gx_s_Tree_reset _ h3) ?_
  intro r_h4 u4 h4
  have h4_0 : gm_iT (u4.2.2 11) (u4.2.2 12) (u4.2.2 13) (S.2.2.1 2) (S.2.2.1 3) (S.2.2.1 4) (S.2.2.1 5) (S.2.2.1 10) := h4
  refine gx_ca (Q := gx_q_Reader_read S) (gx_q_Reader_readRule _) (gx_s_Reader_readRule _ (show 0 ≤ (0 : Int32).toInt ∧ (0 : Int32).toInt ≤ 75 from (by have : (0 : Int32).toInt = 0 := (by decide); omega)) h2 h4_0) ?_
  intro r_h5 u23 h5
  have h5_0 : gm_iN 75 (u23.1.2.2 3) := h5.1
  have h5_1 : gm_iT (u23.2.2.2.2 11) (u23.2.2.2.2 12) (u23.2.2.2.2 13) (u23.2.2.1 2) (u23.2.2.1 3) (u23.2.2.1 4) (u23.2.2.1 5) (u23.2.2.1 10) := h5.2
  refine gx_s_Reader_read_28 _ _ _ ?_ ?_ ?_ _ _ _ ?_ ?_ ?_ ?_ ?_
  · exact h1
  · exact h2
  · exact h3
  · exact h5_0
  · exact h5_1
  · exact (show 1 ≤ (1 : Int32).toInt from (by have : (1 : Int32).toInt = 1 := (by decide); omega))
  · exact (show (1 : Int32).toInt ≤ 8 from (by have : (1 : Int32).toInt = 1 := (by decide); omega))
  · exact (show 8 < ((1 : Int32).toInt + 200) from (by have : (1 : Int32).toInt = 1 := (by decide); omega))
