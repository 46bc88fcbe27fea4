theorem gx_it {A : Type} {c : Prop} [Decidable c] {f1 f2 : A} {Q : A → Prop} (h1 : c → True ∧ Q f1) (h2 : ¬ c → True ∧ Q f2) : True ∧ Q (if c then f1 else f2) := by
  by_cases h : c
  · rw [if_pos h]; exact h1 h
  · rw [if_neg h]; exact h2 h
theorem gx_c3 {S A : Type} {x : Int32 × Int32 × S} {Pc : Prop} {P P' : Int32 → S → Prop} {f h : Int32 → S → A} {Q : A → Prop} (T : Int32 × Int32 × S → Prop) (hc : Pc ∧ T x) (h1 : ∀ r u, T (0, r, u) → P r u ∧ Q (f r u)) (h2 : ∀ k r u, ¬ k = 0 → T (k, r, u) → P' k u ∧ Q (h k u)) : (Pc ∧ gm_b3 x P P') ∧ Q (gm_b3 x f h) := by
  obtain ⟨k, r, u⟩ := x
  unfold gm_b3
  by_cases e : k = 0
  · subst e
    have z := h1 r u hc.2
    rw [if_pos rfl, if_pos rfl]
    exact ⟨⟨hc.1, z.1⟩, z.2⟩
  · have z := h2 k r u e hc.2
    rw [if_neg e, if_neg e]
    exact ⟨⟨hc.1, z.1⟩, z.2⟩
abbrev gx_q_GM_exchangeGrammars (S : gm_S) (z : Int32 × (gm_S)) : Prop := True
set_option maxRecDepth 100000 in
theorem gx_s_GM_exchangeGrammars (S : gm_S) : gm_p_GM_exchangeGrammars S ∧ gx_q_GM_exchangeGrammars S (gm_f_GM_exchangeGrammars S) := by
  unfold gm_p_GM_exchangeGrammars gm_f_GM_exchangeGrammars
  exact ⟨trivial, trivial⟩
abbrev gx_q_GM_compile (S : gm_S × gm_S × gm_S × gm_S × gm_S × gm_S × gm_S) (z : Int32 × Int32 × (gm_S × gm_S × gm_S × gm_S × gm_S × gm_S × gm_S)) : Prop := (gm_iT (z.2.2.2.2.2.1.2.2 11) (z.2.2.2.2.2.1.2.2 12) (z.2.2.2.2.2.1.2.2 13) (z.2.2.2.2.2.1.1 2) (z.2.2.2.2.2.1.1 3) (z.2.2.2.2.2.1.1 4) (z.2.2.2.2.2.1.1 5) (z.2.2.2.2.2.1.1 10)) ∧ (gm_iN 200 (z.2.2.2.2.2.2.2.1.2.2 5)) ∧ (gm_iN 75 (z.2.2.2.2.2.2.2.2.2.2 3))
set_option maxRecDepth 100000 in
theorem gx_s_GM_compile (S : gm_S × gm_S × gm_S × gm_S × gm_S × gm_S × gm_S) (h1 : gm_iW 50 (S.2.1.2.2 1) (S.2.1.1 0)) (h2 : gm_iT (S.2.2.2.1.2.2 11) (S.2.2.2.1.2.2 12) (S.2.2.2.1.2.2 13) (S.2.2.2.1.1 2) (S.2.2.2.1.1 3) (S.2.2.2.1.1 4) (S.2.2.2.1.1 5) (S.2.2.2.1.1 10)) (h3 : gm_iN 200 (S.2.2.2.2.2.1.2.2 5)) (h4 : gm_iN 75 (S.2.2.2.2.2.2.2.2 3)) : gm_p_GM_compile S ∧ gx_q_GM_compile S (gm_f_GM_compile S) := by
  unfold gm_p_GM_compile gm_f_GM_compile
  refine gx_ca (Q := gx_q_GM_compile S) (gx_q_Reader_read _) (gx_s_Reader_read _ h4 h1 h2) ?_
  intro r8 u8 h5
  have h5_0 : gm_iN 75 (u8.1.2.2 3) := h5.1
  have h5_1 : gm_iT (u8.2.2.2.2 11) (u8.2.2.2.2 12) (u8.2.2.2.2 13) (u8.2.2.1 2) (u8.2.2.1 3) (u8.2.2.1 4) (u8.2.2.1 5) (u8.2.2.1 10) := h5.2
  refine gx_if (Q := gx_q_GM_compile S) (fun h6 => ?_) (fun h6 => ?_)
  · skip
    have h6_ := gx_eqr (k := -1) (by decide) h6
    refine gx_ca (Q := gx_q_GM_compile S) (gx_q_Judge_firstUndefined _) (gx_s_Judge_firstUndefined _ h5_1) ?_
    intro r40 u40 h7
    refine gx_if (Q := gx_q_GM_compile S) (fun h8 => ?_) (fun h8 => ?_)
    · skip
      have h8_ := gx_eqr (k := -1) (by decide) h8
      refine gx_ca (Q := gx_q_GM_compile S) (gx_q_Judge_firstRunaway _) (gx_s_Judge_firstRunaway _ h5_1) ?_
      intro r72 u72 h9
      have h9_0 : gm_iT (u8.2.2.2.2 11) (u8.2.2.2.2 12) (u8.2.2.2.2 13) (u8.2.2.1 2) (u8.2.2.1 3) (u8.2.2.1 4) (u72.2.1 5) (u8.2.2.1 10) := h9
      refine gx_if (Q := gx_q_GM_compile S) (fun h10 => ?_) (fun h10 => ?_)
      · skip
        have h10_ := gx_eqr (k := -1) (by decide) h10
        refine gx_ca (Q := gx_q_GM_compile S) (gx_q_Judge_settleHeads _) (gx_s_Judge_settleHeads _ h9_0) ?_
        intro r_h11 u103 h11
        refine gx_ca (Q := gx_q_GM_compile S) (gx_q_Code_write _) (gx_s_Code_write _ h3 h9_0) ?_
        intro r_h12 u113 h12
        have h12_0 : gm_iN 200 (u113.1.2.2 5) := h12
        refine gx_ca (Q := gx_q_GM_compile S) (gx_q_GM_exchangeGrammars _) (gx_s_GM_exchangeGrammars _ ) ?_
        intro r_h13 u117 h13
        exact ⟨trivial, ⟨h9_0, h12_0, h5_0⟩⟩
      · skip
        have h10_ := gx_eqnr (k := -1) (by decide) h10
        exact ⟨trivial, ⟨h9_0, h3, h5_0⟩⟩
    · skip
      have h8_ := gx_eqnr (k := -1) (by decide) h8
      exact ⟨trivial, ⟨h5_1, h3, h5_0⟩⟩
  · skip
    have h6_ := gx_eqnr (k := -1) (by decide) h6
    exact ⟨trivial, ⟨h5_1, h3, h5_0⟩⟩
abbrev gx_q_GM_empty (x : Int32) (S : gm_S × gm_S × gm_S) (z : Int32 × Int32 × (gm_S × gm_S × gm_S)) : Prop := True
set_option maxRecDepth 100000 in
theorem gx_s_GM_empty (x : Int32) (S : gm_S × gm_S × gm_S) (h1 : gm_iT (S.2.2.2.2 11) (S.2.2.2.2 12) (S.2.2.2.2 13) (S.2.2.1 2) (S.2.2.1 3) (S.2.2.1 4) (S.2.2.1 5) (S.2.2.1 10)) : gm_p_GM_empty x S ∧ gx_q_GM_empty x S (gm_f_GM_empty x S) := by
  unfold gm_p_GM_empty gm_f_GM_empty
  refine gx_if (Q := gx_q_GM_empty x S) (fun h2 => ?_) (fun h2 => ?_)
  · skip
    have h2_ := gx_eqr (k := 0) (by decide) h2
    exact ⟨trivial, trivial⟩
  · skip
    have h2_ := gx_eqnr (k := 0) (by decide) h2
    refine gx_ca (Q := gx_q_GM_empty x S) (gx_q_Tree_rootOf _ _) (gx_s_Tree_rootOf _ _ h1) ?_
    intro r25 u25 h3
    have h3_0 : ((-1) ≤ r25.toInt) ∧ (r25.toInt ≤ 74) := h3
    refine gx_if (Q := gx_q_GM_empty x S) (fun h4 => ?_) (fun h4 => ?_)
    · skip
      have h4_ := gx_eqr (k := -1) (by decide) h4
      exact ⟨trivial, trivial⟩
    · skip
      have h4_ := gx_eqnr (k := -1) (by decide) h4
      refine gx_in (Q := gx_q_GM_empty x S) (vp_in_iff.mpr (by omega)) ?_
      refine gx_in (Q := gx_q_GM_empty x S) (h1.2.2.2.2.2.2.1 _) ?_
      exact ⟨trivial, trivial⟩
abbrev gx_q_GM_head (x : Int32) (y : Int32) (S : gm_S × gm_S × gm_S) (z : Int32 × Int32 × (gm_S × gm_S × gm_S)) : Prop := True
set_option maxRecDepth 100000 in
theorem gx_s_GM_head (x : Int32) (y : Int32) (S : gm_S × gm_S × gm_S) (h1 : gm_iT (S.2.2.2.2 11) (S.2.2.2.2 12) (S.2.2.2.2 13) (S.2.2.1 2) (S.2.2.1 3) (S.2.2.1 4) (S.2.2.1 5) (S.2.2.1 10)) : gm_p_GM_head x y S ∧ gx_q_GM_head x y S (gm_f_GM_head x y S) := by
  unfold gm_p_GM_head gm_f_GM_head
  refine gx_if (Q := gx_q_GM_head x y S) (fun h2 => ?_) (fun h2 => ?_)
  · skip
    have h2_ := gx_eqr (k := 0) (by decide) h2
    exact ⟨trivial, trivial⟩
  · skip
    have h2_ := gx_eqnr (k := 0) (by decide) h2
    refine gx_ca (Q := gx_q_GM_head x y S) (gx_q_Tree_rootOf _ _) (gx_s_Tree_rootOf _ _ h1) ?_
    intro r25 u25 h3
    have h3_0 : ((-1) ≤ r25.toInt) ∧ (r25.toInt ≤ 74) := h3
    refine gx_if (Q := gx_q_GM_head x y S) (fun h4 => ?_) (fun h4 => ?_)
    · skip
      have h4_ := gx_eqr (k := -1) (by decide) h4
      exact ⟨trivial, trivial⟩
    · skip
      have h4_ := gx_eqnr (k := -1) (by decide) h4
      refine gx_ca (Q := gx_q_GM_head x y S) (gx_q_Tree_holds _ _ _) (gx_s_Tree_holds _ _ _ h1) ?_
      intro r53 u53 h5
      have h5_0 : (r53 = 0) ∨ (r53 = 1) := h5
      refine gx_in (Q := gx_q_GM_head x y S) h5_0 ?_
      exact ⟨trivial, trivial⟩
abbrev gx_q_GM_match (x : Int32) (S : gm_S × gm_S × gm_S × gm_S × gm_S × gm_S × gm_S × gm_S × gm_S) (z : Int32 × Int32 × (gm_S × gm_S × gm_S × gm_S × gm_S × gm_S × gm_S × gm_S × gm_S)) : Prop := (gm_iN 550 (z.2.2.2.1.2.2 7)) ∧ (gm_iN 275 (z.2.2.2.2.2.1.2.2 2)) ∧ (gm_iN 5720 (z.2.2.2.2.2.2.2.1.2.2 2))
set_option maxRecDepth 100000 in
theorem gx_s_GM_match (x : Int32) (S : gm_S × gm_S × gm_S × gm_S × gm_S × gm_S × gm_S × gm_S × gm_S) (h1 : gm_iN 550 (S.2.1.2.2 7)) (h2 : gm_iW 10 (S.2.2.1.2.2 1) (S.2.2.1.1 0)) (h3 : gm_iN 275 (S.2.2.2.1.2.2 2)) (h4 : gm_iN 5720 (S.2.2.2.2.2.1.2.2 2)) (h5 : gm_iN 200 (S.2.2.2.2.2.2.2.1.2.2 5)) (h6 : gm_iT (S.2.2.2.2.2.2.2.2.2.2 11) (S.2.2.2.2.2.2.2.2.2.2 12) (S.2.2.2.2.2.2.2.2.2.2 13) (S.2.2.2.2.2.2.2.2.1 2) (S.2.2.2.2.2.2.2.2.1 3) (S.2.2.2.2.2.2.2.2.1 4) (S.2.2.2.2.2.2.2.2.1 5) (S.2.2.2.2.2.2.2.2.1 10)) (h7 : (x = 0) ∨ (x = 1)) : gm_p_GM_match x S ∧ gx_q_GM_match x S (gm_f_GM_match x S) := by
  unfold gm_p_GM_match gm_f_GM_match
  refine gx_if (Q := gx_q_GM_match x S) (fun h8 => ?_) (fun h8 => ?_)
  · skip
    have h8_ := gx_eqr (k := 0) (by decide) h8
    exact ⟨trivial, ⟨h1, h3, h4⟩⟩
  · skip
    have h8_ := gx_eqnr (k := 0) (by decide) h8
    refine gx_ca (Q := gx_q_GM_match x S) (gx_q_Runner_run _ _) (gx_s_Runner_run _ _ h1 h2 h3 h4 h5 h6 h7) ?_
    intro r31 u31 h9
    have h9_0 : gm_iN 550 (u31.1.2.2 7) := h9.1
    have h9_1 : gm_iN 275 (u31.2.2.1.2.2 2) := h9.2.1
    have h9_2 : gm_iN 5720 (u31.2.2.2.2.1.2.2 2) := h9.2.2
    exact ⟨trivial, ⟨h9_0, h9_1, h9_2⟩⟩
abbrev gx_q_GM_node (x : Int32) (y : Int32) (S : gm_S × gm_S × gm_S) (z : Int32 × Int32 × (gm_S × gm_S × gm_S)) : Prop := True
set_option maxRecDepth 100000 in
theorem gx_s_GM_node (x : Int32) (y : Int32) (S : gm_S × gm_S × gm_S) (h1 : gm_iN 550 (S.2.1.2.2 7)) (h2 : gm_iN 275 (S.2.2.2.2 2)) : gm_p_GM_node x y S ∧ gx_q_GM_node x y S (gm_f_GM_node x y S) := by
  unfold gm_p_GM_node gm_f_GM_node
  refine gx_if (Q := gx_q_GM_node x y S) (fun h3 => ?_) (fun h3 => ?_)
  · skip
    have h3_ := gx_eqr (k := 0) (by decide) h3
    exact ⟨trivial, trivial⟩
  · skip
    have h3_ := gx_eqnr (k := 0) (by decide) h3
    refine gx_if (Q := gx_q_GM_node x y S) (fun h4 => ?_) (fun h4 => ?_)
    · skip
      have h4_ := gx_ltr (k := 0) (by decide) h4
      exact ⟨trivial, trivial⟩
    · skip
      have h4_ := gx_ltnr (k := 0) (by decide) h4
      refine gx_if (Q := gx_q_GM_node x y S) (fun h5 => ?_) (fun h5 => ?_)
      · skip
        have h5_ := gx_lt h5
        refine gx_if (Q := gx_q_GM_node x y S) (fun h6 => ?_) (fun h6 => ?_)
        · skip
          have h6_ := gx_ltr (k := 0) (by decide) h6
          exact ⟨trivial, trivial⟩
        · skip
          have h6_ := gx_ltnr (k := 0) (by decide) h6
          refine gx_if (Q := gx_q_GM_node x y S) (fun h7 => ?_) (fun h7 => ?_)
          · skip
            have h7_ := gx_ler (k := 2) (gx_lit 2 (by decide)) h7
            refine gx_if (Q := gx_q_GM_node x y S) (fun h8 => ?_) (fun h8 => ?_)
            · skip
              have h8_ := gx_eqr (k := 2) (gx_lit 2 (by decide)) h8
              refine gx_ca (Q := gx_q_GM_node x y S) (gx_q_Captures_outerOf _ _ _) (gx_s_Captures_outerOf _ _ _ h2 (show 275 ≤ 5720 from (by omega)) (show 0 ≤ x.toInt from (by omega)) (show x.toInt < 275 from (by omega))) ?_
              intro r67 u67 h9
              exact ⟨trivial, trivial⟩
            · skip
              have h8_ := gx_eqnr (k := 2) (gx_lit 2 (by decide)) h8
              refine gx_if (Q := gx_q_GM_node x y S) (fun h9 => ?_) (fun h9 => ?_)
              · skip
                have h9_ := gx_eqr (k := 0) (by decide) h9
                refine gx_in (Q := gx_q_GM_node x y S) (vp_in_iff.mpr (by omega)) ?_
                exact ⟨trivial, trivial⟩
              · skip
                have h9_ := gx_eqnr (k := 0) (by decide) h9
                refine gx_in (Q := gx_q_GM_node x y S) (vp_in_iff.mpr (by omega)) ?_
                exact ⟨trivial, trivial⟩
          · skip
            have h7_ := gx_lenr (k := 2) (gx_lit 2 (by decide)) h7
            exact ⟨trivial, trivial⟩
      · skip
        have h5_ := gx_ltn h5
        exact ⟨trivial, trivial⟩
abbrev gx_q_GM_type (x : Int32) (S : gm_S × gm_S) (z : Int32 × (gm_S × gm_S)) : Prop := (gm_iW 50 (z.2.2.2.2 1) (z.2.2.1 0))
set_option maxRecDepth 100000 in
theorem gx_s_GM_type (x : Int32) (S : gm_S × gm_S) (h1 : gm_iW 50 (S.2.2.2 1) (S.2.1 0)) : gm_p_GM_type x S ∧ gx_q_GM_type x S (gm_f_GM_type x S) := by
  unfold gm_p_GM_type gm_f_GM_type
  refine gx_ca (Q := gx_q_GM_type x S) (gx_q_Row_append _ _ _) (gx_s_Row_append _ _ _ h1 (show 50 ≤ 5720 from (by omega))) ?_
  intro r5 u5 h2
  have h2_0 : gm_iW 50 (u5.2.2 1) (u5.1 0) := h2.1
  have h2_1 : (r5 = 0) ∨ (r5 = 1) := h2.2
  refine gx_in (Q := gx_q_GM_type x S) h2_1 ?_
  exact ⟨trivial, h2_0⟩
abbrev gx_q_GM_wipe (S : gm_S × gm_S) (z : Int32 × (gm_S × gm_S)) : Prop := (gm_iW 50 (z.2.2.2.2 1) (S.2.1 0))
set_option maxRecDepth 100000 in
theorem gx_s_GM_wipe (S : gm_S × gm_S) (h1 : gm_iW 50 (S.2.2.2 1) (S.2.1 0)) : gm_p_GM_wipe S ∧ gx_q_GM_wipe S (gm_f_GM_wipe S) := by
  unfold gm_p_GM_wipe gm_f_GM_wipe
  exact ⟨trivial, (gx_w0 _ _)⟩
abbrev gx_q_GM_fault (S : gm_S) (z : Int32 × (gm_S)) : Prop := True
set_option maxRecDepth 100000 in
theorem gx_s_GM_fault (S : gm_S) : gm_p_GM_fault S ∧ gx_q_GM_fault S (gm_f_GM_fault S) := by
  unfold gm_p_GM_fault gm_f_GM_fault
  exact ⟨trivial, trivial⟩
abbrev gx_q_GM_feed (x : Int32) (S : gm_S × gm_S) (z : Int32 × (gm_S × gm_S)) : Prop := (gm_iW 10 (z.2.2.2.2 1) (z.2.2.1 0))
set_option maxRecDepth 100000 in
theorem gx_s_GM_feed (x : Int32) (S : gm_S × gm_S) (h1 : gm_iW 10 (S.2.2.2 1) (S.2.1 0)) : gm_p_GM_feed x S ∧ gx_q_GM_feed x S (gm_f_GM_feed x S) := by
  unfold gm_p_GM_feed gm_f_GM_feed
  refine gx_ca (Q := gx_q_GM_feed x S) (gx_q_Row_append _ _ _) (gx_s_Row_append _ _ _ h1 (show 10 ≤ 5720 from (by omega))) ?_
  intro r5 u5 h2
  have h2_0 : gm_iW 10 (u5.2.2 1) (u5.1 0) := h2.1
  have h2_1 : (r5 = 0) ∨ (r5 = 1) := h2.2
  refine gx_if (Q := gx_q_GM_feed x S) (fun h3 => ?_) (fun h3 => ?_)
  · skip
    have h3_ := gx_eqr (k := 0) (by decide) h3
    refine gx_in (Q := gx_q_GM_feed x S) h2_1 ?_
    exact ⟨trivial, h2_0⟩
  · skip
    have h3_ := gx_eqnr (k := 0) (by decide) h3
    refine gx_in (Q := gx_q_GM_feed x S) h2_1 ?_
    exact ⟨trivial, h2_0⟩
abbrev gx_q_GM_clear (S : gm_S × gm_S) (z : Int32 × (gm_S × gm_S)) : Prop := (gm_iW 10 (z.2.2.2.2 1) (S.2.1 0))
set_option maxRecDepth 100000 in
theorem gx_s_GM_clear (S : gm_S × gm_S) (h1 : gm_iW 10 (S.2.2.2 1) (S.2.1 0)) : gm_p_GM_clear S ∧ gx_q_GM_clear S (gm_f_GM_clear S) := by
  unfold gm_p_GM_clear gm_f_GM_clear
  exact ⟨trivial, (gx_w0 _ _)⟩
abbrev gx_q_GM_work (S : gm_S × gm_S) (z : Int32 × (gm_S × gm_S)) : Prop := True
set_option maxRecDepth 100000 in
theorem gx_s_GM_work (S : gm_S × gm_S) (h1 : gm_iN 550 (S.2.2.2 7)) : gm_p_GM_work S ∧ gx_q_GM_work S (gm_f_GM_work S) := by
  unfold gm_p_GM_work gm_f_GM_work
  refine gx_if (Q := gx_q_GM_work S) (fun h2 => ?_) (fun h2 => ?_)
  · skip
    have h2_ := gx_eqr (k := 0) (by decide) h2
    exact ⟨trivial, trivial⟩
  · skip
    have h2_ := gx_eqnr (k := 0) (by decide) h2
    exact ⟨trivial, trivial⟩
abbrev gx_q_GM_nodes (S : gm_S × gm_S × gm_S) (z : Int32 × (gm_S × gm_S × gm_S)) : Prop := True
set_option maxRecDepth 100000 in
theorem gx_s_GM_nodes (S : gm_S × gm_S × gm_S) (h1 : gm_iN 550 (S.2.1.2.2 7)) (h2 : gm_iN 275 (S.2.2.2.2 2)) : gm_p_GM_nodes S ∧ gx_q_GM_nodes S (gm_f_GM_nodes S) := by
  unfold gm_p_GM_nodes gm_f_GM_nodes
  refine gx_if (Q := gx_q_GM_nodes S) (fun h3 => ?_) (fun h3 => ?_)
  · skip
    have h3_ := gx_eqr (k := 0) (by decide) h3
    exact ⟨trivial, trivial⟩
  · skip
    have h3_ := gx_eqnr (k := 0) (by decide) h3
    exact ⟨trivial, trivial⟩
abbrev gx_q_LW_compile_r (S : gm_S × gm_S × gm_S × gm_S × gm_S × gm_S × gm_S × gm_S) (z : Int32 × (gm_S × gm_S × gm_S × gm_S × gm_S × gm_S × gm_S × gm_S)) : Prop := (gm_iT (z.2.2.2.2.1.2.2 11) (z.2.2.2.2.1.2.2 12) (z.2.2.2.2.1.2.2 13) (z.2.2.2.2.1.1 2) (z.2.2.2.2.1.1 3) (z.2.2.2.2.1.1 4) (z.2.2.2.2.1.1 5) (z.2.2.2.2.1.1 10)) ∧ (gm_iN 200 (z.2.2.2.2.2.2.1.2.2 5)) ∧ (gm_iN 75 (z.2.2.2.2.2.2.2.1.2.2 3))
set_option maxRecDepth 100000 in
theorem gx_s_LW_compile_r (S : gm_S × gm_S × gm_S × gm_S × gm_S × gm_S × gm_S × gm_S) (h1 : gm_iW 50 (S.2.1.2.2 1) (S.2.1.1 0)) (h2 : gm_iT (S.2.2.2.1.2.2 11) (S.2.2.2.1.2.2 12) (S.2.2.2.1.2.2 13) (S.2.2.2.1.1 2) (S.2.2.2.1.1 3) (S.2.2.2.1.1 4) (S.2.2.2.1.1 5) (S.2.2.2.1.1 10)) (h3 : gm_iN 200 (S.2.2.2.2.2.1.2.2 5)) (h4 : gm_iN 75 (S.2.2.2.2.2.2.1.2.2 3)) : gm_p_LW_compile_r S ∧ gx_q_LW_compile_r S (gm_f_LW_compile_r S) := by
  unfold gm_p_LW_compile_r gm_f_LW_compile_r
  refine gx_c3 (Q := gx_q_LW_compile_r S) (gx_q_GM_compile _) (gx_s_GM_compile _ h1 h2 h3 h4) ?_ ?_
  · skip
    intro r3 u3 h5
    have h5_0 : gm_iT (u3.2.2.2.1.2.2 11) (u3.2.2.2.1.2.2 12) (u3.2.2.2.1.2.2 13) (u3.2.2.2.1.1 2) (u3.2.2.2.1.1 3) (u3.2.2.2.1.1 4) (u3.2.2.2.1.1 5) (u3.2.2.2.1.1 10) := h5.1
    have h5_1 : gm_iN 200 (u3.2.2.2.2.2.1.2.2 5) := h5.2.1
    have h5_2 : gm_iN 75 (u3.2.2.2.2.2.2.2.2 3) := h5.2.2
    refine gx_in (Q := gx_q_LW_compile_r S) (vp_in_iff.mpr (by have : (0 : Int32).toInt = 0 := (by decide); omega)) ?_
    exact ⟨trivial, ⟨h5_0, h5_1, h5_2⟩⟩
  · skip
    intro r_h5 r_h5 u_h5 n_h5 h5
    have h5_0 : gm_iT (u_h5.2.2.2.1.2.2 11) (u_h5.2.2.2.1.2.2 12) (u_h5.2.2.2.1.2.2 13) (u_h5.2.2.2.1.1 2) (u_h5.2.2.2.1.1 3) (u_h5.2.2.2.1.1 4) (u_h5.2.2.2.1.1 5) (u_h5.2.2.2.1.1 10) := h5.1
    have h5_1 : gm_iN 200 (u_h5.2.2.2.2.2.1.2.2 5) := h5.2.1
    have h5_2 : gm_iN 75 (u_h5.2.2.2.2.2.2.2.2 3) := h5.2.2
    exact ⟨trivial, ⟨h2, h3, h4⟩⟩
abbrev gx_q_LW_compile_t (S : gm_S × gm_S × gm_S × gm_S × gm_S × gm_S × gm_S × gm_S) (z : Int32 × (gm_S × gm_S × gm_S × gm_S × gm_S × gm_S × gm_S × gm_S)) : Prop := (gm_iT (z.2.2.2.2.1.2.2 11) (z.2.2.2.2.1.2.2 12) (z.2.2.2.2.1.2.2 13) (z.2.2.2.2.1.1 2) (z.2.2.2.2.1.1 3) (z.2.2.2.2.1.1 4) (z.2.2.2.2.1.1 5) (z.2.2.2.2.1.1 10)) ∧ (gm_iN 200 (z.2.2.2.2.2.2.1.2.2 5)) ∧ (gm_iN 75 (z.2.2.2.2.2.2.2.1.2.2 3))
set_option maxRecDepth 100000 in
theorem gx_s_LW_compile_t (S : gm_S × gm_S × gm_S × gm_S × gm_S × gm_S × gm_S × gm_S) (h1 : gm_iW 50 (S.2.1.2.2 1) (S.2.1.1 0)) (h2 : gm_iT (S.2.2.2.1.2.2 11) (S.2.2.2.1.2.2 12) (S.2.2.2.1.2.2 13) (S.2.2.2.1.1 2) (S.2.2.2.1.1 3) (S.2.2.2.1.1 4) (S.2.2.2.1.1 5) (S.2.2.2.1.1 10)) (h3 : gm_iN 200 (S.2.2.2.2.2.1.2.2 5)) (h4 : gm_iN 75 (S.2.2.2.2.2.2.1.2.2 3)) : gm_p_LW_compile_t S ∧ gx_q_LW_compile_t S (gm_f_LW_compile_t S) := by
  unfold gm_p_LW_compile_t gm_f_LW_compile_t
  refine gx_c3 (Q := gx_q_LW_compile_t S) (gx_q_GM_compile _) (gx_s_GM_compile _ h1 h2 h3 h4) ?_ ?_
  · skip
    intro r3 u3 h5
    have h5_0 : gm_iT (u3.2.2.2.1.2.2 11) (u3.2.2.2.1.2.2 12) (u3.2.2.2.1.2.2 13) (u3.2.2.2.1.1 2) (u3.2.2.2.1.1 3) (u3.2.2.2.1.1 4) (u3.2.2.2.1.1 5) (u3.2.2.2.1.1 10) := h5.1
    have h5_1 : gm_iN 200 (u3.2.2.2.2.2.1.2.2 5) := h5.2.1
    have h5_2 : gm_iN 75 (u3.2.2.2.2.2.2.2.2 3) := h5.2.2
    exact ⟨trivial, ⟨h2, h3, h4⟩⟩
  · skip
    intro k9 r_h5 u9 n_h5 h5
    have h5_0 : gm_iT (u9.2.2.2.1.2.2 11) (u9.2.2.2.1.2.2 12) (u9.2.2.2.1.2.2 13) (u9.2.2.2.1.1 2) (u9.2.2.2.1.1 3) (u9.2.2.2.1.1 4) (u9.2.2.2.1.1 5) (u9.2.2.2.1.1 10) := h5.1
    have h5_1 : gm_iN 200 (u9.2.2.2.2.2.1.2.2 5) := h5.2.1
    have h5_2 : gm_iN 75 (u9.2.2.2.2.2.2.2.2 3) := h5.2.2
    refine gx_it (Q := gx_q_LW_compile_t S) (fun h6 => ?_) (fun h6 => ?_)
    · skip
      exact ⟨trivial, ⟨h5_0, h5_1, h5_2⟩⟩
    · skip
      refine gx_it (Q := gx_q_LW_compile_t S) (fun h7 => ?_) (fun h7 => ?_)
      · skip
        exact ⟨trivial, ⟨h5_0, h5_1, h5_2⟩⟩
      · skip
        exact ⟨trivial, ⟨h5_0, h5_1, h5_2⟩⟩
abbrev gx_q_LW_empty (x : Int32) (S : gm_S × gm_S × gm_S × gm_S) (z : Int32 × (gm_S × gm_S × gm_S × gm_S)) : Prop := True
set_option maxRecDepth 100000 in
theorem gx_s_LW_empty (x : Int32) (S : gm_S × gm_S × gm_S × gm_S) (h1 : gm_iT (S.2.2.1.2.2 11) (S.2.2.1.2.2 12) (S.2.2.1.2.2 13) (S.2.2.1.1 2) (S.2.2.1.1 3) (S.2.2.1.1 4) (S.2.2.1.1 5) (S.2.2.1.1 10)) : gm_p_LW_empty x S ∧ gx_q_LW_empty x S (gm_f_LW_empty x S) := by
  unfold gm_p_LW_empty gm_f_LW_empty
  refine gx_c3 (Q := gx_q_LW_empty x S) (gx_q_GM_empty _ _) (gx_s_GM_empty _ _ h1) ?_ ?_
  · skip
    intro r4 u4 h2
    refine gx_if (Q := gx_q_LW_empty x S) (fun h3 => ?_) (fun h3 => ?_)
    · skip
      have h3_ := gx_eqr (k := 0) (by decide) h3
      refine gx_in (Q := gx_q_LW_empty x S) (vp_in_iff.mpr (by have : (0 : Int32).toInt = 0 := (by decide); omega)) ?_
      exact ⟨trivial, trivial⟩
    · skip
      have h3_ := gx_eqnr (k := 0) (by decide) h3
      refine gx_in (Q := gx_q_LW_empty x S) (vp_in_iff.mpr (by have : (0 : Int32).toInt = 0 := (by decide); omega)) ?_
      exact ⟨trivial, trivial⟩
  · skip
    intro k9 r_h2 u9 n_h2 h2
    refine gx_it (Q := gx_q_LW_empty x S) (fun h3 => ?_) (fun h3 => ?_)
    · skip
      exact ⟨trivial, trivial⟩
    · skip
      exact ⟨trivial, trivial⟩
abbrev gx_q_LW_head (x : Int32) (y : Int32) (S : gm_S × gm_S × gm_S × gm_S) (z : Int32 × (gm_S × gm_S × gm_S × gm_S)) : Prop := True
set_option maxRecDepth 100000 in
theorem gx_s_LW_head (x : Int32) (y : Int32) (S : gm_S × gm_S × gm_S × gm_S) (h1 : gm_iT (S.2.2.1.2.2 11) (S.2.2.1.2.2 12) (S.2.2.1.2.2 13) (S.2.2.1.1 2) (S.2.2.1.1 3) (S.2.2.1.1 4) (S.2.2.1.1 5) (S.2.2.1.1 10)) : gm_p_LW_head x y S ∧ gx_q_LW_head x y S (gm_f_LW_head x y S) := by
  unfold gm_p_LW_head gm_f_LW_head
  refine gx_c3 (Q := gx_q_LW_head x y S) (gx_q_GM_head _ _ _) (gx_s_GM_head _ _ _ h1) ?_ ?_
  · skip
    intro r5 u5 h2
    refine gx_if (Q := gx_q_LW_head x y S) (fun h3 => ?_) (fun h3 => ?_)
    · skip
      have h3_ := gx_eqr (k := 0) (by decide) h3
      refine gx_in (Q := gx_q_LW_head x y S) (vp_in_iff.mpr (by have : (0 : Int32).toInt = 0 := (by decide); omega)) ?_
      exact ⟨trivial, trivial⟩
    · skip
      have h3_ := gx_eqnr (k := 0) (by decide) h3
      refine gx_in (Q := gx_q_LW_head x y S) (vp_in_iff.mpr (by have : (0 : Int32).toInt = 0 := (by decide); omega)) ?_
      exact ⟨trivial, trivial⟩
  · skip
    intro k9 r_h2 u9 n_h2 h2
    refine gx_it (Q := gx_q_LW_head x y S) (fun h3 => ?_) (fun h3 => ?_)
    · skip
      exact ⟨trivial, trivial⟩
    · skip
      exact ⟨trivial, trivial⟩
abbrev gx_q_LW_match_r (x : Int32) (S : gm_S × gm_S × gm_S × gm_S × gm_S × gm_S × gm_S × gm_S × gm_S × gm_S) (z : Int32 × (gm_S × gm_S × gm_S × gm_S × gm_S × gm_S × gm_S × gm_S × gm_S × gm_S)) : Prop := (gm_iN 550 (z.2.2.1.2.2 7)) ∧ (gm_iN 275 (z.2.2.2.2.1.2.2 2)) ∧ (gm_iN 5720 (z.2.2.2.2.2.2.1.2.2 2))
set_option maxRecDepth 100000 in
theorem gx_s_LW_match_r (x : Int32) (S : gm_S × gm_S × gm_S × gm_S × gm_S × gm_S × gm_S × gm_S × gm_S × gm_S) (h1 : gm_iN 550 (S.2.1.2.2 7)) (h2 : gm_iW 10 (S.2.2.1.2.2 1) (S.2.2.1.1 0)) (h3 : gm_iN 275 (S.2.2.2.1.2.2 2)) (h4 : gm_iN 5720 (S.2.2.2.2.2.1.2.2 2)) (h5 : gm_iN 200 (S.2.2.2.2.2.2.2.1.2.2 5)) (h6 : gm_iT (S.2.2.2.2.2.2.2.2.1.2.2 11) (S.2.2.2.2.2.2.2.2.1.2.2 12) (S.2.2.2.2.2.2.2.2.1.2.2 13) (S.2.2.2.2.2.2.2.2.1.1 2) (S.2.2.2.2.2.2.2.2.1.1 3) (S.2.2.2.2.2.2.2.2.1.1 4) (S.2.2.2.2.2.2.2.2.1.1 5) (S.2.2.2.2.2.2.2.2.1.1 10)) (h7 : (x = 0) ∨ (x = 1)) : gm_p_LW_match_r x S ∧ gx_q_LW_match_r x S (gm_f_LW_match_r x S) := by
  unfold gm_p_LW_match_r gm_f_LW_match_r
  refine gx_c3 (Q := gx_q_LW_match_r x S) (gx_q_GM_match _ _) (gx_s_GM_match _ _ h1 h2 h3 h4 h5 h6 h7) ?_ ?_
  · skip
    intro r4 u4 h8
    have h8_0 : gm_iN 550 (u4.2.1.2.2 7) := h8.1
    have h8_1 : gm_iN 275 (u4.2.2.2.1.2.2 2) := h8.2.1
    have h8_2 : gm_iN 5720 (u4.2.2.2.2.2.1.2.2 2) := h8.2.2
    refine gx_in (Q := gx_q_LW_match_r x S) (vp_in_iff.mpr (by have : (0 : Int32).toInt = 0 := (by decide); omega)) ?_
    exact ⟨trivial, ⟨h8_0, h8_1, h8_2⟩⟩
  · skip
    intro r_h8 r_h8 u_h8 n_h8 h8
    have h8_0 : gm_iN 550 (u_h8.2.1.2.2 7) := h8.1
    have h8_1 : gm_iN 275 (u_h8.2.2.2.1.2.2 2) := h8.2.1
    have h8_2 : gm_iN 5720 (u_h8.2.2.2.2.2.1.2.2 2) := h8.2.2
    exact ⟨trivial, ⟨h1, h3, h4⟩⟩
abbrev gx_q_LW_match_t (x : Int32) (S : gm_S × gm_S × gm_S × gm_S × gm_S × gm_S × gm_S × gm_S × gm_S × gm_S) (z : Int32 × (gm_S × gm_S × gm_S × gm_S × gm_S × gm_S × gm_S × gm_S × gm_S × gm_S)) : Prop := (gm_iN 550 (z.2.2.1.2.2 7)) ∧ (gm_iN 275 (z.2.2.2.2.1.2.2 2)) ∧ (gm_iN 5720 (z.2.2.2.2.2.2.1.2.2 2))
set_option maxRecDepth 100000 in
theorem gx_s_LW_match_t (x : Int32) (S : gm_S × gm_S × gm_S × gm_S × gm_S × gm_S × gm_S × gm_S × gm_S × gm_S) (h1 : gm_iN 550 (S.2.1.2.2 7)) (h2 : gm_iW 10 (S.2.2.1.2.2 1) (S.2.2.1.1 0)) (h3 : gm_iN 275 (S.2.2.2.1.2.2 2)) (h4 : gm_iN 5720 (S.2.2.2.2.2.1.2.2 2)) (h5 : gm_iN 200 (S.2.2.2.2.2.2.2.1.2.2 5)) (h6 : gm_iT (S.2.2.2.2.2.2.2.2.1.2.2 11) (S.2.2.2.2.2.2.2.2.1.2.2 12) (S.2.2.2.2.2.2.2.2.1.2.2 13) (S.2.2.2.2.2.2.2.2.1.1 2) (S.2.2.2.2.2.2.2.2.1.1 3) (S.2.2.2.2.2.2.2.2.1.1 4) (S.2.2.2.2.2.2.2.2.1.1 5) (S.2.2.2.2.2.2.2.2.1.1 10)) (h7 : (x = 0) ∨ (x = 1)) : gm_p_LW_match_t x S ∧ gx_q_LW_match_t x S (gm_f_LW_match_t x S) := by
  unfold gm_p_LW_match_t gm_f_LW_match_t
  refine gx_c3 (Q := gx_q_LW_match_t x S) (gx_q_GM_match _ _) (gx_s_GM_match _ _ h1 h2 h3 h4 h5 h6 h7) ?_ ?_
  · skip
    intro r4 u4 h8
    have h8_0 : gm_iN 550 (u4.2.1.2.2 7) := h8.1
    have h8_1 : gm_iN 275 (u4.2.2.2.1.2.2 2) := h8.2.1
    have h8_2 : gm_iN 5720 (u4.2.2.2.2.2.1.2.2 2) := h8.2.2
    exact ⟨trivial, ⟨h1, h3, h4⟩⟩
  · skip
    intro k9 r_h8 u9 n_h8 h8
    have h8_0 : gm_iN 550 (u9.2.1.2.2 7) := h8.1
    have h8_1 : gm_iN 275 (u9.2.2.2.1.2.2 2) := h8.2.1
    have h8_2 : gm_iN 5720 (u9.2.2.2.2.2.1.2.2 2) := h8.2.2
    exact ⟨trivial, ⟨h8_0, h8_1, h8_2⟩⟩
abbrev gx_q_LW_node (x : Int32) (y : Int32) (S : gm_S × gm_S × gm_S × gm_S) (z : Int32 × (gm_S × gm_S × gm_S × gm_S)) : Prop := True
set_option maxRecDepth 100000 in
theorem gx_s_LW_node (x : Int32) (y : Int32) (S : gm_S × gm_S × gm_S × gm_S) (h1 : gm_iN 550 (S.2.1.2.2 7)) (h2 : gm_iN 275 (S.2.2.1.2.2 2)) : gm_p_LW_node x y S ∧ gx_q_LW_node x y S (gm_f_LW_node x y S) := by
  unfold gm_p_LW_node gm_f_LW_node
  refine gx_c3 (Q := gx_q_LW_node x y S) (gx_q_GM_node _ _ _) (gx_s_GM_node _ _ _ h1 h2) ?_ ?_
  · skip
    intro r5 u5 h3
    refine gx_in (Q := gx_q_LW_node x y S) (vp_in_iff.mpr (by have : (0 : Int32).toInt = 0 := (by decide); omega)) ?_
    exact ⟨trivial, trivial⟩
  · skip
    intro k9 r_h3 u9 n_h3 h3
    refine gx_it (Q := gx_q_LW_node x y S) (fun h4 => ?_) (fun h4 => ?_)
    · skip
      exact ⟨trivial, trivial⟩
    · skip
      exact ⟨trivial, trivial⟩
