theorem gx_iW_p {n : Nat} {z x : Int32} {a : Nat → Int32} (h : gm_iW n z a) (hn : n ≤ 5720) (h1 : z.toInt < n) (h2 : 32 ≤ x.toInt) (h3 : x.toInt ≤ 126) : gm_iW n (z + 1) (upd a (Int32.toNatClampNeg z) x) := by
  have e := gx_ak z 1 1 (by decide)
  have c := gx_cl z h.1.1
  refine ⟨by omega, fun k hk => ?_⟩
  by_cases q : k = Int32.toNatClampNeg z
  · rw [q, gx_us]; exact ⟨h2, h3⟩
  · rw [gx_un _ _ _ q]; exact h.2 k (by omega)
abbrev gx_q_MD_thrown (S : gm_S) (z : Int32 × (gm_S)) : Prop := True
set_option maxRecDepth 100000 in
theorem gx_s_MD_thrown (S : gm_S) (h1 : gm_iW 50 (S.2.2 2) (S.1 3)) (h2 : gm_iW 10 (S.2.2 32) (S.1 33)) (h3 : gm_iN 200 (S.2.2 41)) : gm_p_MD_thrown S ∧ gx_q_MD_thrown S (gm_f_MD_thrown S) := by
  unfold gm_p_MD_thrown gm_f_MD_thrown
  exact ⟨trivial, trivial⟩
abbrev gx_q_MD_fail (x : Int32) (S : gm_S) (z : Int32 × (gm_S)) : Prop := True
set_option maxRecDepth 100000 in
theorem gx_s_MD_fail (x : Int32) (S : gm_S) (h1 : gm_iW 50 (S.2.2 2) (S.1 3)) (h2 : gm_iW 10 (S.2.2 32) (S.1 33)) (h3 : gm_iN 200 (S.2.2 41)) : gm_p_MD_fail x S ∧ gx_q_MD_fail x S (gm_f_MD_fail x S) := by
  unfold gm_p_MD_fail gm_f_MD_fail
  exact ⟨trivial, trivial⟩
abbrev gx_q_MD_type (x : Int32) (S : gm_S) (z : Int32 × (gm_S)) : Prop := (gm_iW 50 (z.2.2.2 2) (z.2.1 3)) ∧ ((z.1 = 0) ∨ (z.1 = 1))
set_option maxRecDepth 100000 in
theorem gx_s_MD_type (x : Int32) (S : gm_S) (h1 : gm_iW 50 (S.2.2 2) (S.1 3)) (h2 : gm_iW 10 (S.2.2 32) (S.1 33)) (h3 : gm_iN 200 (S.2.2 41)) : gm_p_MD_type x S ∧ gx_q_MD_type x S (gm_f_MD_type x S) := by
  unfold gm_p_MD_type gm_f_MD_type
  refine gx_if (Q := gx_q_MD_type x S) (fun h4 => ?_) (fun h4 => ?_)
  · skip
    have h4_ := gx_ltr (k := 32) (gx_lit 32 (by decide)) h4
    exact ⟨trivial, ⟨h1, (Or.inl rfl)⟩⟩
  · skip
    have h4_ := gx_ltnr (k := 32) (gx_lit 32 (by decide)) h4
    refine gx_if (Q := gx_q_MD_type x S) (fun h5 => ?_) (fun h5 => ?_)
    · skip
      have h5_ := gx_ltl (k := 126) (gx_lit 126 (by decide)) h5
      exact ⟨trivial, ⟨h1, (Or.inl rfl)⟩⟩
    · skip
      have h5_ := gx_ltnl (k := 126) (gx_lit 126 (by decide)) h5
      refine gx_if (Q := gx_q_MD_type x S) (fun h6 => ?_) (fun h6 => ?_)
      · skip
        have h6_ := gx_eqr (k := 50) (gx_lit 50 (by decide)) h6
        exact ⟨trivial, ⟨h1, (Or.inl rfl)⟩⟩
      · skip
        have h6_ := gx_eqnr (k := 50) (gx_lit 50 (by decide)) h6
        refine gx_in (Q := gx_q_MD_type x S) (vp_in_iff.mpr (by omega)) ?_
        exact ⟨trivial, ⟨(gx_iW_p h1 (by decide) (show (S.2.2 2).toInt < 50 from (by omega)) (show 32 ≤ x.toInt from (by omega)) (show x.toInt ≤ 126 from (by omega))), (Or.inr rfl)⟩⟩
abbrev gx_q_MD_wipe (S : gm_S) (z : Int32 × (gm_S)) : Prop := (gm_iW 50 (z.2.2.2 2) (S.1 3))
set_option maxRecDepth 100000 in
theorem gx_s_MD_wipe (S : gm_S) (h1 : gm_iW 50 (S.2.2 2) (S.1 3)) (h2 : gm_iW 10 (S.2.2 32) (S.1 33)) (h3 : gm_iN 200 (S.2.2 41)) : gm_p_MD_wipe S ∧ gx_q_MD_wipe S (gm_f_MD_wipe S) := by
  unfold gm_p_MD_wipe gm_f_MD_wipe
  exact ⟨trivial, (gx_w0 _ _)⟩
abbrev gx_q_MD_fault (S : gm_S) (z : Int32 × (gm_S)) : Prop := True
set_option maxRecDepth 100000 in
theorem gx_s_MD_fault (S : gm_S) (h1 : gm_iW 50 (S.2.2 2) (S.1 3)) (h2 : gm_iW 10 (S.2.2 32) (S.1 33)) (h3 : gm_iN 200 (S.2.2 41)) : gm_p_MD_fault S ∧ gx_q_MD_fault S (gm_f_MD_fault S) := by
  unfold gm_p_MD_fault gm_f_MD_fault
  exact ⟨trivial, trivial⟩
abbrev gx_q_MD_feed (x : Int32) (S : gm_S) (z : Int32 × (gm_S)) : Prop := (gm_iW 10 (z.2.2.2 32) (z.2.1 33)) ∧ ((z.1 = 0) ∨ (z.1 = 1))
set_option maxRecDepth 100000 in
theorem gx_s_MD_feed (x : Int32) (S : gm_S) (h1 : gm_iW 50 (S.2.2 2) (S.1 3)) (h2 : gm_iW 10 (S.2.2 32) (S.1 33)) (h3 : gm_iN 200 (S.2.2 41)) : gm_p_MD_feed x S ∧ gx_q_MD_feed x S (gm_f_MD_feed x S) := by
  unfold gm_p_MD_feed gm_f_MD_feed
  refine gx_if (Q := gx_q_MD_feed x S) (fun h4 => ?_) (fun h4 => ?_)
  · skip
    have h4_ := gx_ltr (k := 32) (gx_lit 32 (by decide)) h4
    exact ⟨trivial, ⟨h2, (Or.inl rfl)⟩⟩
  · skip
    have h4_ := gx_ltnr (k := 32) (gx_lit 32 (by decide)) h4
    refine gx_if (Q := gx_q_MD_feed x S) (fun h5 => ?_) (fun h5 => ?_)
    · skip
      have h5_ := gx_ltl (k := 126) (gx_lit 126 (by decide)) h5
      exact ⟨trivial, ⟨h2, (Or.inl rfl)⟩⟩
    · skip
      have h5_ := gx_ltnl (k := 126) (gx_lit 126 (by decide)) h5
      refine gx_if (Q := gx_q_MD_feed x S) (fun h6 => ?_) (fun h6 => ?_)
      · skip
        have h6_ := gx_eqr (k := 10) (gx_lit 10 (by decide)) h6
        exact ⟨trivial, ⟨h2, (Or.inl rfl)⟩⟩
      · skip
        have h6_ := gx_eqnr (k := 10) (gx_lit 10 (by decide)) h6
        refine gx_in (Q := gx_q_MD_feed x S) (vp_in_iff.mpr (by omega)) ?_
        exact ⟨trivial, ⟨(gx_iW_p h2 (by decide) (show (S.2.2 32).toInt < 10 from (by omega)) (show 32 ≤ x.toInt from (by omega)) (show x.toInt ≤ 126 from (by omega))), (Or.inr rfl)⟩⟩
abbrev gx_q_MD_clear (S : gm_S) (z : Int32 × (gm_S)) : Prop := (gm_iW 10 (z.2.2.2 32) (S.1 33))
set_option maxRecDepth 100000 in
theorem gx_s_MD_clear (S : gm_S) (h1 : gm_iW 50 (S.2.2 2) (S.1 3)) (h2 : gm_iW 10 (S.2.2 32) (S.1 33)) (h3 : gm_iN 200 (S.2.2 41)) : gm_p_MD_clear S ∧ gx_q_MD_clear S (gm_f_MD_clear S) := by
  unfold gm_p_MD_clear gm_f_MD_clear
  exact ⟨trivial, (gx_w0 _ _)⟩
abbrev gx_q_MD_work (S : gm_S) (z : Int32 × (gm_S)) : Prop := True
set_option maxRecDepth 100000 in
theorem gx_s_MD_work (S : gm_S) (h1 : gm_iW 50 (S.2.2 2) (S.1 3)) (h2 : gm_iW 10 (S.2.2 32) (S.1 33)) (h3 : gm_iN 200 (S.2.2 41)) : gm_p_MD_work S ∧ gx_q_MD_work S (gm_f_MD_work S) := by
  unfold gm_p_MD_work gm_f_MD_work
  refine gx_if (Q := gx_q_MD_work S) (fun h4 => ?_) (fun h4 => ?_)
  · skip
    have h4_ := gx_eqr (k := 0) (by decide) h4
    exact ⟨trivial, trivial⟩
  · skip
    have h4_ := gx_eqnr (k := 0) (by decide) h4
    exact ⟨trivial, trivial⟩
abbrev gx_q_MD_nodes (S : gm_S) (z : Int32 × (gm_S)) : Prop := True
set_option maxRecDepth 100000 in
theorem gx_s_MD_nodes (S : gm_S) (h1 : gm_iW 50 (S.2.2 2) (S.1 3)) (h2 : gm_iW 10 (S.2.2 32) (S.1 33)) (h3 : gm_iN 200 (S.2.2 41)) : gm_p_MD_nodes S ∧ gx_q_MD_nodes S (gm_f_MD_nodes S) := by
  unfold gm_p_MD_nodes gm_f_MD_nodes
  refine gx_if (Q := gx_q_MD_nodes S) (fun h4 => ?_) (fun h4 => ?_)
  · skip
    have h4_ := gx_eqr (k := 0) (by decide) h4
    exact ⟨trivial, trivial⟩
  · skip
    have h4_ := gx_eqnr (k := 0) (by decide) h4
    exact ⟨trivial, trivial⟩
abbrev gx_q_MD_node (x : Int32) (y : Int32) (S : gm_S) (z : Int32 × (gm_S)) : Prop := True
set_option maxRecDepth 100000 in
theorem gx_s_MD_node (x : Int32) (y : Int32) (S : gm_S) (h1 : gm_iW 50 (S.2.2 2) (S.1 3)) (h2 : gm_iW 10 (S.2.2 32) (S.1 33)) (h3 : gm_iN 200 (S.2.2 41)) : gm_p_MD_node x y S ∧ gx_q_MD_node x y S (gm_f_MD_node x y S) := by
  unfold gm_p_MD_node gm_f_MD_node
  refine gx_if (Q := gx_q_MD_node x y S) (fun h4 => ?_) (fun h4 => ?_)
  · skip
    have h4_ := gx_eqr (k := 0) (by decide) h4
    refine gx_ca (Q := gx_q_MD_node x y S) (gx_q_MD_fail _ _) (gx_s_MD_fail _ _ h1 h2 h3) ?_
    intro r26 u26 h5
    clear h5
    exact ⟨trivial, trivial⟩
  · skip
    have h4_ := gx_eqnr (k := 0) (by decide) h4
    refine gx_if (Q := gx_q_MD_node x y S) (fun h5 => ?_) (fun h5 => ?_)
    · skip
      have h5_ := gx_ltr (k := 0) (by decide) h5
      refine gx_ca (Q := gx_q_MD_node x y S) (gx_q_MD_fail _ _) (gx_s_MD_fail _ _ h1 h2 h3) ?_
      intro r26 u26 h6
      clear h6
      exact ⟨trivial, trivial⟩
    · skip
      have h5_ := gx_ltnr (k := 0) (by decide) h5
      refine gx_if (Q := gx_q_MD_node x y S) (fun h6 => ?_) (fun h6 => ?_)
      · skip
        have h6_ := gx_lt h6
        refine gx_if (Q := gx_q_MD_node x y S) (fun h7 => ?_) (fun h7 => ?_)
        · skip
          have h7_ := gx_eqr (k := 0) (by decide) h7
          refine gx_in (Q := gx_q_MD_node x y S) (vp_in_iff.mpr (by omega)) ?_
          exact ⟨trivial, trivial⟩
        · skip
          have h7_ := gx_eqnr (k := 0) (by decide) h7
          refine gx_if (Q := gx_q_MD_node x y S) (fun h8 => ?_) (fun h8 => ?_)
          · skip
            have h8_ := gx_eqr (k := 1) (by decide) h8
            refine gx_in (Q := gx_q_MD_node x y S) (vp_in_iff.mpr (by omega)) ?_
            exact ⟨trivial, trivial⟩
          · skip
            have h8_ := gx_eqnr (k := 1) (by decide) h8
            refine gx_if (Q := gx_q_MD_node x y S) (fun h9 => ?_) (fun h9 => ?_)
            · skip
              have h9_ := gx_eqr (k := 2) (gx_lit 2 (by decide)) h9
              refine gx_in (Q := gx_q_MD_node x y S) (vp_in_iff.mpr (by omega)) ?_
              exact ⟨trivial, trivial⟩
            · skip
              have h9_ := gx_eqnr (k := 2) (gx_lit 2 (by decide)) h9
              refine gx_ca (Q := gx_q_MD_node x y S) (gx_q_MD_fail _ _) (gx_s_MD_fail _ _ h1 h2 h3) ?_
              intro r79 u79 h10
              clear h10
              exact ⟨trivial, trivial⟩
      · skip
        have h6_ := gx_ltn h6
        refine gx_ca (Q := gx_q_MD_node x y S) (gx_q_MD_fail _ _) (gx_s_MD_fail _ _ h1 h2 h3) ?_
        intro r26 u26 h7
        clear h7
        exact ⟨trivial, trivial⟩
